def r_X11_hasTo : Room := { frames := 2, cells := 0, slots := 0, locals := 49 }
set_option maxRecDepth 20000 in
theorem w_X11_hasTo_45 {p : Program} {l : Launch} {e : Env} {s : State} {m : MethodId} {args : Array Value} {below : List Frame} {meth : Method} {c : Code} {Q : State → Prop} {D : va_G} {kc : Nat → ClassId} {ad : Nat → Nat} {A : Nat → Prop} (C : Cx eM p s m args c cX11_hasTo 5 RX11 D kc A) {R : Int32} {σ : St} (hR : RTi 0 0 p l e r_X11_hasTo s m args below meth c cX11_hasTo tM kc ad D A Q .boolean R σ) {H : Heap} {locs : List Loc} {ls : Array Slot} (Z : Dy tM kc ad D A s.heap σ H locs) (hl : lv_has ls 5 []) (h : f_X11_hasTo_45 = R) : W p l e r_X11_hasTo s m args below meth c H locs 0 0 Q (F0 m 45 ls []) := by
  have hx := C.1.1
  have hb := C.1.2.1
  unfold f_X11_hasTo_45 at h
  refine lv_iconst (v := 1) hx hb dX11_hasTo_45 (by decide) ?_
  refine lv_goto (tgt := 50) hx hb dX11_hasTo_46 (by decide) ?_
  subst h
  exact hR _ _ _ _ _ Z dX11_hasTo_50 rfl
set_option maxRecDepth 20000 in
theorem w_X11_hasTo_0 {p : Program} {l : Launch} {e : Env} {s : State} {m : MethodId} {args : Array Value} {below : List Frame} {meth : Method} {c : Code} {Q : State → Prop} {D : va_G} {kc : Nat → ClassId} {ad : Nat → Nat} {A : Nat → Prop} (C : Cx eM p s m args c cX11_hasTo 5 RX11 D kc A) {R : Int32} {x1 : Int32} {x2 : Int32} {x3 : Int32} {x4 : Int32} {σ : St} (hR : RTi 0 0 p l e r_X11_hasTo s m args below meth c cX11_hasTo tM kc ad D A Q .boolean R σ) {H : Heap} {locs : List Loc} {ls : Array Slot} (Z : Dy tM kc ad D A s.heap σ H locs) (hl : lv_has ls 5 [(0, .ref (ad 0)), (1, .int x1), (2, .int x2), (3, .int x3), (4, .int x4)]) (h : f_X11_hasTo x1 x2 x3 x4 = R) : W p l e r_X11_hasTo s m args below meth c H locs 0 0 Q (F0 m 0 ls []) := by
  have hx := C.1.1
  have hb := C.1.2.1
  unfold f_X11_hasTo at h
  refine lv_aload_n hx hb dX11_hasTo_0 rfl (lv_at hl 0 rfl) ?_
  refine lv_iload_n hx hb dX11_hasTo_1 rfl (lv_at hl 1 rfl) ?_
  refine lv_iload_n hx hb dX11_hasTo_2 rfl (lv_at hl 2 rfl) ?_
  refine g_callVi eM_ok C Z (k_X11_goes x1 x2 σ) lk_X11_525 (by decide) rfl rfl hl (by decide) rfl (Nat.le_of_ble_eq_true rfl) (rest := []) rfl dX11_hasTo_3 (fun H locs Z => ?_)
  refine lv_if_eq (tgt := 21) hx hb dX11_hasTo_6 (by decide) (fun c6 => ?_) (fun c6 => ?_)
  · have h := ip h c6
    refine lv_iconst (v := 0) hx hb dX11_hasTo_21 (by decide) ?_
    subst h
    exact hR _ _ _ _ _ Z dX11_hasTo_22 rfl
  · have h := im h c6
    refine lv_aload_n hx hb dX11_hasTo_9 rfl (lv_at hl 0 rfl) ?_
    refine lv_iload_n hx hb dX11_hasTo_10 rfl (lv_at hl 3 rfl) ?_
    refine lv_iload hx hb dX11_hasTo_11 (lv_at hl 4 rfl) ?_
    refine lv_iload_n hx hb dX11_hasTo_13 rfl (lv_at hl 1 rfl) ?_
    refine lv_iload_n hx hb dX11_hasTo_14 rfl (lv_at hl 2 rfl) ?_
    refine g_callVi eM_ok C Z (k_X11_overtakes x3 x4 x1 x2 σ) lk_X11_528 (by decide) rfl rfl hl (by decide) rfl (Nat.le_of_ble_eq_true rfl) (rest := []) rfl dX11_hasTo_15 (fun H locs Z => ?_)
    refine lv_if_eq (tgt := 23) hx hb dX11_hasTo_18 (by decide) (fun c18 => ?_) (fun c18 => ?_)
    · have h := ip h c18
      refine lv_aload_n hx hb dX11_hasTo_23 rfl (lv_at hl 0 rfl) ?_
      refine lv_iload_n hx hb dX11_hasTo_24 rfl (lv_at hl 1 rfl) ?_
      refine lv_iload_n hx hb dX11_hasTo_25 rfl (lv_at hl 2 rfl) ?_
      refine lv_iload_n hx hb dX11_hasTo_26 rfl (lv_at hl 3 rfl) ?_
      refine lv_iload hx hb dX11_hasTo_27 (lv_at hl 4 rfl) ?_
      refine g_callVi eM_ok C Z (k_X11_overtakes x1 x2 x3 x4 σ) lk_X11_528 (by decide) rfl rfl hl (by decide) rfl (Nat.le_of_ble_eq_true rfl) (rest := []) rfl dX11_hasTo_29 (fun H locs Z => ?_)
      refine lv_if_ne (tgt := 45) hx hb dX11_hasTo_32 (by decide) (fun c32 => ?_) (fun c32 => ?_)
      · have h := im h c32
        exact w_X11_hasTo_45 C hR Z (lv_sub hl [] rfl) h
      · have h := ip h c32
        refine lv_aload_n hx hb dX11_hasTo_35 rfl (lv_at hl 0 rfl) ?_
        refine lv_iload_n hx hb dX11_hasTo_36 rfl (lv_at hl 1 rfl) ?_
        refine lv_iload_n hx hb dX11_hasTo_37 rfl (lv_at hl 2 rfl) ?_
        refine lv_iload_n hx hb dX11_hasTo_38 rfl (lv_at hl 3 rfl) ?_
        refine g_callVi eM_ok C Z (k_X11_isRight x1 x2 x3 σ) lk_X11_532 (by decide) rfl rfl hl (by decide) rfl (Nat.le_of_ble_eq_true rfl) (rest := []) rfl dX11_hasTo_39 (fun H locs Z => ?_)
        refine lv_if_eq (tgt := 49) hx hb dX11_hasTo_42 (by decide) (fun c42 => ?_) (fun c42 => ?_)
        · have h := ip h c42
          refine lv_iconst (v := 0) hx hb dX11_hasTo_49 (by decide) ?_
          subst h
          exact hR _ _ _ _ _ Z dX11_hasTo_50 rfl
        · have h := im h c42
          exact w_X11_hasTo_45 C hR Z (lv_sub hl [] rfl) h
    · have h := im h c18
      refine lv_iconst (v := 0) hx hb dX11_hasTo_21 (by decide) ?_
      subst h
      exact hR _ _ _ _ _ Z dX11_hasTo_22 rfl
theorem k_X11_hasTo {l : Launch} {kc : Nat → ClassId} {ad : Nat → Nat} {D : va_G} (x1 : Int32) (x2 : Int32) (x3 : Int32) (x4 : Int32) (σ : St) : KC eM tM kc ad D l yX11_hasTo (.code yX11_hasTo cX11_hasTo 5 (some .boolean)) r_X11_hasTo [.ref (ad 0), .int x1, .int x2, .int x3, .int x4] (some (.int (f_X11_hasTo x1 x2 x3 x4))) σ σ := by
  refine g_enter (by decide) (Nat.le_of_ble_eq_true rfl) ?_
  intro p e s m args below meth c A hA C hr hlocks Z ls hl
  have hl : lv_has ls 5 [(0, .ref (ad 0)), (1, .int x1), (2, .int x2), (3, .int x3), (4, .int x4)] := hl
  exact w_X11_hasTo_0 C (g_RTi C.1.1 C.1.2.1 hr hlocks hA)  Z hl rfl
def r_X11_way : Room := { frames := 3, cells := 0, slots := 0, locals := 73 }
set_option maxRecDepth 20000 in
theorem w_X11_way_0 {p : Program} {l : Launch} {e : Env} {s : State} {m : MethodId} {args : Array Value} {below : List Frame} {meth : Method} {c : Code} {Q : State → Prop} {D : va_G} {kc : Nat → ClassId} {ad : Nat → Nat} {A : Nat → Prop} (C : Cx eM p s m args c cX11_way 9 RX11 D kc A) {R : Int32} {x1 : Int32} {x2 : Int32} {x3 : Int32} {x4 : Int32} {σ : St} (hR : RTi 0 0 p l e r_X11_way s m args below meth c cX11_way tM kc ad D A Q .int R σ) {H : Heap} {locs : List Loc} {ls : Array Slot} (Z : Dy tM kc ad D A s.heap σ H locs) (hl : lv_has ls 9 [(0, .ref (ad 0)), (1, .int x1), (2, .int x2), (3, .int x3), (4, .int x4)]) (h : f_X11_way x1 x2 x3 x4 σ = some R) : W p l e r_X11_way s m args below meth c H locs 0 0 Q (F0 m 0 ls []) := by
  have hx := C.1.1
  have hb := C.1.2.1
  unfold f_X11_way at h
  refine lv_aload_n hx hb dX11_way_0 rfl (lv_at hl 0 rfl) ?_
  refine lv_iload_n hx hb dX11_way_1 rfl (lv_at hl 1 rfl) ?_
  refine g_callVi eM_ok C Z (k_X11_isShip x1 σ) lk_X11_264 (by decide) rfl rfl hl (by decide) rfl (Nat.le_of_ble_eq_true rfl) (rest := []) rfl dX11_way_2 (fun H locs Z => ?_)
  refine lv_if_eq (tgt := 41) hx hb dX11_way_5 (by decide) (fun c5 => ?_) (fun c5 => ?_)
  · have h := ip h c5
    refine lv_iconst (v := (-1)) hx hb dX11_way_41 (by decide) ?_
    obtain rfl := Option.some.inj h
    exact hR _ _ _ _ _ Z dX11_way_42 rfl
  · have h := im h c5
    refine lv_aload_n hx hb dX11_way_8 rfl (lv_at hl 0 rfl) ?_
    refine lv_iload_n hx hb dX11_way_9 rfl (lv_at hl 2 rfl) ?_
    refine g_callVi eM_ok C Z (k_X11_isShip x2 σ) lk_X11_264 (by decide) rfl rfl hl (by decide) rfl (Nat.le_of_ble_eq_true rfl) (rest := []) rfl dX11_way_10 (fun H locs Z => ?_)
    refine lv_if_eq (tgt := 41) hx hb dX11_way_13 (by decide) (fun c13 => ?_) (fun c13 => ?_)
    · have h := ip h c13
      refine lv_iconst (v := (-1)) hx hb dX11_way_41 (by decide) ?_
      obtain rfl := Option.some.inj h
      exact hR _ _ _ _ _ Z dX11_way_42 rfl
    · have h := im h c13
      refine lv_iload_n hx hb dX11_way_16 rfl (lv_at hl 1 rfl) ?_
      refine lv_iload_n hx hb dX11_way_17 rfl (lv_at hl 2 rfl) ?_
      refine lv_icmp_eq (tgt := 41) hx hb dX11_way_18 (by decide) (fun c18 => ?_) (fun c18 => ?_)
      · have h := ip h c18
        refine lv_iconst (v := (-1)) hx hb dX11_way_41 (by decide) ?_
        obtain rfl := Option.some.inj h
        exact hR _ _ _ _ _ Z dX11_way_42 rfl
      · have h := im h c18
        refine lv_iload_n hx hb dX11_way_21 rfl (lv_at hl 3 rfl) ?_
        refine lv_i2l (v := x3.toInt64) hx hb dX11_way_22 rfl ?_
        refine lv_lconst (v := 1) hx hb dX11_way_23 (by decide) ?_
        refine lv_ldc2 (v := 8999) hx hb C.1.2.2.2.1 (C.1.2.2.2.2 _ wDL_X11_240) dX11_way_24 ?_
        refine g_callSi eM_ok C Z (k_X11_in x3.toInt64 1 8999 σ) lk_X11_233 hl (by decide) rfl (Nat.le_of_ble_eq_true rfl) (rest := []) rfl dX11_way_27 (fun H locs Z => ?_)
        refine lv_if_eq (tgt := 41) hx hb dX11_way_30 (by decide) (fun c30 => ?_) (fun c30 => ?_)
        · have h := ip h c30
          refine lv_iconst (v := (-1)) hx hb dX11_way_41 (by decide) ?_
          obtain rfl := Option.some.inj h
          exact hR _ _ _ _ _ Z dX11_way_42 rfl
        · have h := im h c30
          refine lv_iload hx hb dX11_way_33 (lv_at hl 4 rfl) ?_
          refine g_callSi eM_ok C Z (k_X11_isMinute x4 σ) lk_X11_267 hl (by decide) rfl (Nat.le_of_ble_eq_true rfl) (rest := []) rfl dX11_way_35 (fun H locs Z => ?_)
          refine lv_if_ne (tgt := 43) hx hb dX11_way_38 (by decide) (fun c38 => ?_) (fun c38 => ?_)
          · have h := im h c38
            refine lv_aload_n hx hb dX11_way_43 rfl (lv_at hl 0 rfl) ?_
            refine lv_iload_n hx hb dX11_way_44 rfl (lv_at hl 1 rfl) ?_
            refine lv_iload_n hx hb dX11_way_45 rfl (lv_at hl 3 rfl) ?_
            refine lv_iconst (v := 1) hx hb dX11_way_46 (by decide) ?_
            refine lv_isub hx hb dX11_way_47 ?_
            refine lv_iload hx hb dX11_way_48 (lv_at hl 4 rfl) ?_
            obtain ⟨v9, hv9, h⟩ := ob h
            refine g_callVi eM_ok C Z (k_X11_whereIs hv9) lk_X11_270 (by decide) rfl rfl hl (by decide) rfl (Nat.le_of_ble_eq_true rfl) (rest := []) rfl dX11_way_50 (fun H locs Z => ?_)
            refine lv_istore (lv' := [(5, .int v9), (0, .ref (ad 0)), (1, .int x1), (2, .int x2), (3, .int x3), (4, .int x4)]) hx hb dX11_way_53 hl (by decide) rfl (fun ls hl => ?_)
            refine lv_aload_n hx hb dX11_way_55 rfl (lv_at hl 1 rfl) ?_
            refine lv_iload_n hx hb dX11_way_56 rfl (lv_at hl 2 rfl) ?_
            refine lv_iload_n hx hb dX11_way_57 rfl (lv_at hl 4 rfl) ?_
            refine lv_iload hx hb dX11_way_58 (lv_at hl 5 rfl) ?_
            obtain ⟨v10, hv10, h⟩ := ob h
            refine g_callVi eM_ok C Z (k_X11_whereIs hv10) lk_X11_270 (by decide) rfl rfl hl (by decide) rfl (Nat.le_of_ble_eq_true rfl) (rest := []) rfl dX11_way_60 (fun H locs Z => ?_)
            refine lv_istore (lv' := [(6, .int v10), (5, .int v9), (0, .ref (ad 0)), (1, .int x1), (2, .int x2), (3, .int x3), (4, .int x4)]) hx hb dX11_way_63 hl (by decide) rfl (fun ls hl => ?_)
            refine lv_aload_n hx hb dX11_way_65 rfl (lv_at hl 2 rfl) ?_
            refine lv_iload_n hx hb dX11_way_66 rfl (lv_at hl 4 rfl) ?_
            refine lv_iload_n hx hb dX11_way_67 rfl (lv_at hl 5 rfl) ?_
            refine lv_iconst (v := 1) hx hb dX11_way_68 (by decide) ?_
            refine lv_isub hx hb dX11_way_69 ?_
            refine lv_iload hx hb dX11_way_70 (lv_at hl 6 rfl) ?_
            obtain ⟨v11, hv11, h⟩ := ob h
            refine g_callVi eM_ok C Z (k_X11_whereIs hv11) lk_X11_270 (by decide) rfl rfl hl (by decide) rfl (Nat.le_of_ble_eq_true rfl) (rest := []) rfl dX11_way_72 (fun H locs Z => ?_)
            refine lv_istore (lv' := [(7, .int v11), (6, .int v10), (5, .int v9), (0, .ref (ad 0)), (1, .int x1), (2, .int x2), (3, .int x3), (4, .int x4)]) hx hb dX11_way_75 hl (by decide) rfl (fun ls hl => ?_)
            refine lv_aload_n hx hb dX11_way_77 rfl (lv_at hl 3 rfl) ?_
            refine lv_iload_n hx hb dX11_way_78 rfl (lv_at hl 5 rfl) ?_
            refine lv_iload_n hx hb dX11_way_79 rfl (lv_at hl 6 rfl) ?_
            refine lv_iload hx hb dX11_way_80 (lv_at hl 7 rfl) ?_
            obtain ⟨v12, hv12, h⟩ := ob h
            refine g_callVi eM_ok C Z (k_X11_whereIs hv12) lk_X11_270 (by decide) rfl rfl hl (by decide) rfl (Nat.le_of_ble_eq_true rfl) (rest := []) rfl dX11_way_82 (fun H locs Z => ?_)
            refine lv_istore (lv' := [(8, .int v12), (7, .int v11), (6, .int v10), (5, .int v9), (0, .ref (ad 0)), (1, .int x1), (2, .int x2), (3, .int x3), (4, .int x4)]) hx hb dX11_way_85 hl (by decide) rfl (fun ls hl => ?_)
            refine lv_iload hx hb dX11_way_87 (lv_at hl 3 rfl) ?_
            refine lv_if_lt (tgt := 107) hx hb dX11_way_89 (by decide) (fun c89 => ?_) (fun c89 => ?_)
            · have h := ip h c89
              refine lv_bipush (v := (-2)) hx hb dX11_way_107 (by decide) ?_
              obtain rfl := Option.some.inj h
              exact hR _ _ _ _ _ Z dX11_way_109 rfl
            · have h := im h c89
              refine lv_iload hx hb dX11_way_92 (lv_at hl 2 rfl) ?_
              refine lv_if_lt (tgt := 107) hx hb dX11_way_94 (by decide) (fun c94 => ?_) (fun c94 => ?_)
              · have h := ip h c94
                refine lv_bipush (v := (-2)) hx hb dX11_way_107 (by decide) ?_
                obtain rfl := Option.some.inj h
                exact hR _ _ _ _ _ Z dX11_way_109 rfl
              · have h := im h c94
                refine lv_iload hx hb dX11_way_97 (lv_at hl 1 rfl) ?_
                refine lv_if_lt (tgt := 107) hx hb dX11_way_99 (by decide) (fun c99 => ?_) (fun c99 => ?_)
                · have h := ip h c99
                  refine lv_bipush (v := (-2)) hx hb dX11_way_107 (by decide) ?_
                  obtain rfl := Option.some.inj h
                  exact hR _ _ _ _ _ Z dX11_way_109 rfl
                · have h := im h c99
                  refine lv_iload hx hb dX11_way_102 (lv_at hl 0 rfl) ?_
                  refine lv_if_ge (tgt := 110) hx hb dX11_way_104 (by decide) (fun c104 => ?_) (fun c104 => ?_)
                  · have h := ip h c104
                    refine lv_aload_n hx hb dX11_way_110 rfl (lv_at hl 4 rfl) ?_
                    refine lv_iload hx hb dX11_way_111 (lv_at hl 3 rfl) ?_
                    refine lv_iload hx hb dX11_way_113 (lv_at hl 2 rfl) ?_
                    refine lv_iload hx hb dX11_way_115 (lv_at hl 1 rfl) ?_
                    refine lv_iload hx hb dX11_way_117 (lv_at hl 0 rfl) ?_
                    refine g_callVi eM_ok C Z (k_X11_hasTo v9 v10 v11 v12 σ) lk_X11_535 (by decide) rfl rfl hl (by decide) rfl (Nat.le_of_ble_eq_true rfl) (rest := []) rfl dX11_way_119 (fun H locs Z => ?_)
                    obtain ⟨v13, ev13, h⟩ := lb h
                    have hj : W p l e r_X11_way s m args below meth c H locs 0 0 Q (F0 m 130 ls [.int v13]) := by
                      refine lv_aload_n hx hb dX11_way_130 rfl (lv_at hl 4 rfl) ?_
                      refine lv_iload hx hb dX11_way_131 (lv_at hl 1 rfl) ?_
                      refine lv_iload hx hb dX11_way_133 (lv_at hl 0 rfl) ?_
                      refine lv_iload hx hb dX11_way_135 (lv_at hl 3 rfl) ?_
                      refine lv_iload hx hb dX11_way_137 (lv_at hl 2 rfl) ?_
                      refine g_callVi eM_ok C Z (k_X11_hasTo v11 v12 v9 v10 σ) lk_X11_535 (by decide) rfl rfl hl (by decide) rfl (Nat.le_of_ble_eq_true rfl) (rest := [.int v13]) rfl dX11_way_139 (fun H locs Z => ?_)
                      obtain ⟨v14, ev14, h⟩ := lb h
                      have hj : W p l e r_X11_way s m args below meth c H locs 0 0 Q (F0 m 150 ls [.int v14, .int v13]) := by
                        refine lv_iadd hx hb dX11_way_150 ?_
                        obtain rfl := Option.some.inj h
                        exact hR _ _ _ _ _ Z dX11_way_151 rfl
                      refine lv_if_eq (tgt := 149) hx hb dX11_way_142 (by decide) (fun c142 => ?_) (fun c142 => ?_)
                      · rw [if_pos c142] at ev14
                        refine lv_iconst (v := 0) hx hb dX11_way_149 (by decide) ?_
                        exact tn_i ev14 hj
                      · rw [if_neg c142] at ev14
                        refine lv_iconst (v := 2) hx hb dX11_way_145 (by decide) ?_
                        refine lv_goto (tgt := 150) hx hb dX11_way_146 (by decide) ?_
                        exact tn_i ev14 hj
                    refine lv_if_eq (tgt := 129) hx hb dX11_way_122 (by decide) (fun c122 => ?_) (fun c122 => ?_)
                    · rw [if_pos c122] at ev13
                      refine lv_iconst (v := 0) hx hb dX11_way_129 (by decide) ?_
                      exact tn_i ev13 hj
                    · rw [if_neg c122] at ev13
                      refine lv_iconst (v := 1) hx hb dX11_way_125 (by decide) ?_
                      refine lv_goto (tgt := 130) hx hb dX11_way_126 (by decide) ?_
                      exact tn_i ev13 hj
                  · have h := im h c104
                    refine lv_bipush (v := (-2)) hx hb dX11_way_107 (by decide) ?_
                    obtain rfl := Option.some.inj h
                    exact hR _ _ _ _ _ Z dX11_way_109 rfl
          · have h := ip h c38
            refine lv_iconst (v := (-1)) hx hb dX11_way_41 (by decide) ?_
            obtain rfl := Option.some.inj h
            exact hR _ _ _ _ _ Z dX11_way_42 rfl
theorem k_X11_way {l : Launch} {kc : Nat → ClassId} {ad : Nat → Nat} {D : va_G} {x1 : Int32} {x2 : Int32} {x3 : Int32} {x4 : Int32} {σ : St} {R : Int32} (h : f_X11_way x1 x2 x3 x4 σ = some R) : KC eM tM kc ad D l yX11_way (.code yX11_way cX11_way 9 (some .int)) r_X11_way [.ref (ad 0), .int x1, .int x2, .int x3, .int x4] (some (.int R)) σ σ := by
  refine g_enter (by decide) (Nat.le_of_ble_eq_true rfl) ?_
  intro p e s m args below meth c A hA C hr hlocks Z ls hl
  have hl : lv_has ls 9 [(0, .ref (ad 0)), (1, .int x1), (2, .int x2), (3, .int x3), (4, .int x4)] := hl
  exact w_X11_way_0 C (g_RTi C.1.1 C.1.2.1 hr hlocks hA)  Z hl h
def r_X11_office : Room := { frames := 1, cells := 0, slots := 0, locals := 25 }
set_option maxRecDepth 20000 in
theorem w_X11_office_0 {p : Program} {l : Launch} {e : Env} {s : State} {m : MethodId} {args : Array Value} {below : List Frame} {meth : Method} {c : Code} {Q : State → Prop} {D : va_G} {kc : Nat → ClassId} {ad : Nat → Nat} {A : Nat → Prop} (C : Cx eM p s m args c cX11_office 4 RX11 D kc A) {R : Int32 × St} {x1 : Int32} {x2 : Int32} {x3 : Int32} {σ : St} (hR : RTi 0 0 p l e r_X11_office s m args below meth c cX11_office tM kc ad D A Q .boolean R.1 R.2) {H : Heap} {locs : List Loc} {ls : Array Slot} (Z : Dy tM kc ad D A s.heap σ H locs) (hl : lv_has ls 4 [(0, .ref (ad 0)), (1, .int x1), (2, .int x2), (3, .int x3)]) (h : f_X11_office x1 x2 x3 σ = some R) : W p l e r_X11_office s m args below meth c H locs 0 0 Q (F0 m 0 ls []) := by
  have hx := C.1.1
  have hb := C.1.2.1
  unfold f_X11_office at h
  refine lv_iload_n hx hb dX11_office_0 rfl (lv_at hl 1 rfl) ?_
  refine g_callSi eM_ok C Z (k_X11_isSide x1 σ) lk_X11_251 hl (by decide) rfl (Nat.le_of_ble_eq_true rfl) (rest := []) rfl dX11_office_1 (fun H locs Z => ?_)
  refine lv_if_eq (tgt := 31) hx hb dX11_office_4 (by decide) (fun c4 => ?_) (fun c4 => ?_)
  · have h := ip h c4
    refine lv_iconst (v := 0) hx hb dX11_office_31 (by decide) ?_
    obtain rfl := Option.some.inj h
    exact hR _ _ _ _ _ Z dX11_office_32 rfl
  · have h := im h c4
    refine lv_iload_n hx hb dX11_office_7 rfl (lv_at hl 2 rfl) ?_
    refine lv_i2l (v := x2.toInt64) hx hb dX11_office_8 rfl ?_
    refine lv_lconst (v := 0) hx hb dX11_office_9 (by decide) ?_
    refine lv_ldc2 (v := 99999999) hx hb C.1.2.2.2.1 (C.1.2.2.2.2 _ wDL_X11_538) dX11_office_10 ?_
    refine g_callSi eM_ok C Z (k_X11_in x2.toInt64 0 99999999 σ) lk_X11_233 hl (by decide) rfl (Nat.le_of_ble_eq_true rfl) (rest := []) rfl dX11_office_13 (fun H locs Z => ?_)
    refine lv_if_eq (tgt := 31) hx hb dX11_office_16 (by decide) (fun c16 => ?_) (fun c16 => ?_)
    · have h := ip h c16
      refine lv_iconst (v := 0) hx hb dX11_office_31 (by decide) ?_
      obtain rfl := Option.some.inj h
      exact hR _ _ _ _ _ Z dX11_office_32 rfl
    · have h := im h c16
      refine lv_iload_n hx hb dX11_office_19 rfl (lv_at hl 3 rfl) ?_
      refine lv_i2l (v := x3.toInt64) hx hb dX11_office_20 rfl ?_
      refine lv_lconst (v := 0) hx hb dX11_office_21 (by decide) ?_
      refine lv_ldc2 (v := 1000) hx hb C.1.2.2.2.1 (C.1.2.2.2.2 _ wDL_X11_540) dX11_office_22 ?_
      refine g_callSi eM_ok C Z (k_X11_in x3.toInt64 0 1000 σ) lk_X11_233 hl (by decide) rfl (Nat.le_of_ble_eq_true rfl) (rest := []) rfl dX11_office_25 (fun H locs Z => ?_)
      refine lv_if_ne (tgt := 33) hx hb dX11_office_28 (by decide) (fun c28 => ?_) (fun c28 => ?_)
      · have h := im h c28
        refine lv_aload_n hx hb dX11_office_33 rfl (lv_at hl 0 rfl) ?_
        refine rg_X11_165 C Z dX11_office_34 ?_
        refine lv_iload_n hx hb dX11_office_37 rfl (lv_at hl 1 rfl) ?_
        refine lv_iload_n hx hb dX11_office_38 rfl (lv_at hl 2 rfl) ?_
        obtain ⟨σ5, hσ5, h⟩ := ob h
        refine g_iast C Z iaM41 hσ5 dX11_office_39 (fun H locs Z => ?_)
        refine lv_aload_n hx hb dX11_office_40 rfl (lv_at hl 0 rfl) ?_
        refine rg_X11_168 C Z dX11_office_41 ?_
        refine lv_iload_n hx hb dX11_office_44 rfl (lv_at hl 1 rfl) ?_
        refine lv_iload_n hx hb dX11_office_45 rfl (lv_at hl 3 rfl) ?_
        obtain ⟨σ6, hσ6, h⟩ := ob h
        refine g_iast C Z iaM42 hσ6 dX11_office_46 (fun H locs Z => ?_)
        refine lv_iconst (v := 1) hx hb dX11_office_47 (by decide) ?_
        obtain rfl := Option.some.inj h
        exact hR _ _ _ _ _ Z dX11_office_48 rfl
      · have h := ip h c28
        refine lv_iconst (v := 0) hx hb dX11_office_31 (by decide) ?_
        obtain rfl := Option.some.inj h
        exact hR _ _ _ _ _ Z dX11_office_32 rfl
theorem k_X11_office {l : Launch} {kc : Nat → ClassId} {ad : Nat → Nat} {D : va_G} {x1 : Int32} {x2 : Int32} {x3 : Int32} {σ : St} {R : Int32 × St} (h : f_X11_office x1 x2 x3 σ = some R) : KC eM tM kc ad D l yX11_office (.code yX11_office cX11_office 4 (some .boolean)) r_X11_office [.ref (ad 0), .int x1, .int x2, .int x3] (some (.int R.1)) σ R.2 := by
  refine g_enter (by decide) (Nat.le_of_ble_eq_true rfl) ?_
  intro p e s m args below meth c A hA C hr hlocks Z ls hl
  have hl : lv_has ls 4 [(0, .ref (ad 0)), (1, .int x1), (2, .int x2), (3, .int x3)] := hl
  exact w_X11_office_0 C (g_RTi C.1.1 C.1.2.1 hr hlocks hA)  Z hl h
def r_X11_year : Room := { frames := 1, cells := 0, slots := 0, locals := 25 }
set_option maxRecDepth 20000 in
theorem w_X11_year_0 {p : Program} {l : Launch} {e : Env} {s : State} {m : MethodId} {args : Array Value} {below : List Frame} {meth : Method} {c : Code} {Q : State → Prop} {D : va_G} {kc : Nat → ClassId} {ad : Nat → Nat} {A : Nat → Prop} (C : Cx eM p s m args c cX11_year 5 RX11 D kc A) {R : Int32 × St} {x1 : Int32} {x2 : Int32} {x3 : Int32} {σ : St} (hR : RTi 0 0 p l e r_X11_year s m args below meth c cX11_year tM kc ad D A Q .int R.1 R.2) {H : Heap} {locs : List Loc} {ls : Array Slot} (Z : Dy tM kc ad D A s.heap σ H locs) (hl : lv_has ls 5 [(0, .ref (ad 0)), (1, .int x1), (2, .int x2), (3, .int x3)]) (h : f_X11_year x1 x2 x3 σ = some R) : W p l e r_X11_year s m args below meth c H locs 0 0 Q (F0 m 0 ls []) := by
  have hx := C.1.1
  have hb := C.1.2.1
  unfold f_X11_year at h
  refine lv_iload_n hx hb dX11_year_0 rfl (lv_at hl 1 rfl) ?_
  refine lv_i2l (v := x1.toInt64) hx hb dX11_year_1 rfl ?_
  refine lv_lconst (v := 0) hx hb dX11_year_2 (by decide) ?_
  refine lv_ldc2 (v := 2) hx hb C.1.2.2.2.1 (C.1.2.2.2.2 _ wDL_X11_255) dX11_year_3 ?_
  refine g_callSi eM_ok C Z (k_X11_in x1.toInt64 0 2 σ) lk_X11_233 hl (by decide) rfl (Nat.le_of_ble_eq_true rfl) (rest := []) rfl dX11_year_6 (fun H locs Z => ?_)
  refine lv_if_eq (tgt := 36) hx hb dX11_year_9 (by decide) (fun c9 => ?_) (fun c9 => ?_)
  · have h := ip h c9
    refine lv_iconst (v := (-1)) hx hb dX11_year_36 (by decide) ?_
    obtain rfl := Option.some.inj h
    exact hR _ _ _ _ _ Z dX11_year_37 rfl
  · have h := im h c9
    refine lv_iload_n hx hb dX11_year_12 rfl (lv_at hl 2 rfl) ?_
    refine lv_i2l (v := x2.toInt64) hx hb dX11_year_13 rfl ?_
    refine lv_lconst (v := 0) hx hb dX11_year_14 (by decide) ?_
    refine lv_ldc2 (v := 39) hx hb C.1.2.2.2.1 (C.1.2.2.2.2 _ wDL_X11_542) dX11_year_15 ?_
    refine g_callSi eM_ok C Z (k_X11_in x2.toInt64 0 39 σ) lk_X11_233 hl (by decide) rfl (Nat.le_of_ble_eq_true rfl) (rest := []) rfl dX11_year_18 (fun H locs Z => ?_)
    refine lv_if_eq (tgt := 36) hx hb dX11_year_21 (by decide) (fun c21 => ?_) (fun c21 => ?_)
    · have h := ip h c21
      refine lv_iconst (v := (-1)) hx hb dX11_year_36 (by decide) ?_
      obtain rfl := Option.some.inj h
      exact hR _ _ _ _ _ Z dX11_year_37 rfl
    · have h := im h c21
      refine lv_iload_n hx hb dX11_year_24 rfl (lv_at hl 3 rfl) ?_
      refine lv_i2l (v := x3.toInt64) hx hb dX11_year_25 rfl ?_
      refine lv_lconst (v := 0) hx hb dX11_year_26 (by decide) ?_
      refine lv_ldc2 (v := 9999999) hx hb C.1.2.2.2.1 (C.1.2.2.2.2 _ wDL_X11_544) dX11_year_27 ?_
      refine g_callSi eM_ok C Z (k_X11_in x3.toInt64 0 9999999 σ) lk_X11_233 hl (by decide) rfl (Nat.le_of_ble_eq_true rfl) (rest := []) rfl dX11_year_30 (fun H locs Z => ?_)
      refine lv_if_ne (tgt := 38) hx hb dX11_year_33 (by decide) (fun c33 => ?_) (fun c33 => ?_)
      · have h := im h c33
        refine lv_aload_n hx hb dX11_year_38 rfl (lv_at hl 0 rfl) ?_
        refine rg_X11_171 C Z dX11_year_39 ?_
        refine lv_bipush (v := 40) hx hb dX11_year_42 (by decide) ?_
        refine lv_iload_n hx hb dX11_year_44 rfl (lv_at hl 1 rfl) ?_
        refine lv_imul hx hb dX11_year_45 ?_
        refine lv_iload_n hx hb dX11_year_46 rfl (lv_at hl 2 rfl) ?_
        refine lv_iadd hx hb dX11_year_47 ?_
        obtain ⟨v5, hv5, h⟩ := ob h
        refine g_iald C Z iaM43 hv5 dX11_year_48 ?_
        refine lv_istore (lv' := [(4, .int v5), (0, .ref (ad 0)), (1, .int x1), (2, .int x2), (3, .int x3)]) hx hb dX11_year_49 hl (by decide) rfl (fun ls hl => ?_)
        refine lv_aload_n hx hb dX11_year_51 rfl (lv_at hl 1 rfl) ?_
        refine rg_X11_171 C Z dX11_year_52 ?_
        refine lv_bipush (v := 40) hx hb dX11_year_55 (by decide) ?_
        refine lv_iload_n hx hb dX11_year_57 rfl (lv_at hl 2 rfl) ?_
        refine lv_imul hx hb dX11_year_58 ?_
        refine lv_iload_n hx hb dX11_year_59 rfl (lv_at hl 3 rfl) ?_
        refine lv_iadd hx hb dX11_year_60 ?_
        refine lv_iload_n hx hb dX11_year_61 rfl (lv_at hl 4 rfl) ?_
        obtain ⟨σ6, hσ6, h⟩ := ob h
        refine g_iast C Z iaM43 hσ6 dX11_year_62 (fun H locs Z => ?_)
        refine lv_iload hx hb dX11_year_63 (lv_at hl 0 rfl) ?_
        obtain rfl := Option.some.inj h
        exact hR _ _ _ _ _ Z dX11_year_65 rfl
      · have h := ip h c33
        refine lv_iconst (v := (-1)) hx hb dX11_year_36 (by decide) ?_
        obtain rfl := Option.some.inj h
        exact hR _ _ _ _ _ Z dX11_year_37 rfl
theorem k_X11_year {l : Launch} {kc : Nat → ClassId} {ad : Nat → Nat} {D : va_G} {x1 : Int32} {x2 : Int32} {x3 : Int32} {σ : St} {R : Int32 × St} (h : f_X11_year x1 x2 x3 σ = some R) : KC eM tM kc ad D l yX11_year (.code yX11_year cX11_year 5 (some .int)) r_X11_year [.ref (ad 0), .int x1, .int x2, .int x3] (some (.int R.1)) σ R.2 := by
  refine g_enter (by decide) (Nat.le_of_ble_eq_true rfl) ?_
  intro p e s m args below meth c A hA C hr hlocks Z ls hl
  have hl : lv_has ls 5 [(0, .ref (ad 0)), (1, .int x1), (2, .int x2), (3, .int x3)] := hl
  exact w_X11_year_0 C (g_RTi C.1.1 C.1.2.1 hr hlocks hA)  Z hl h
def r_X11_stockOf : Room := { frames := 0, cells := 0, slots := 0, locals := 0 }
set_option maxRecDepth 20000 in
theorem w_X11_stockOf_12 {p : Program} {l : Launch} {e : Env} {s : State} {m : MethodId} {args : Array Value} {below : List Frame} {meth : Method} {c : Code} {Q : State → Prop} {D : va_G} {kc : Nat → ClassId} {ad : Nat → Nat} {A : Nat → Prop} (C : Cx eM p s m args c cX11_stockOf 9 RX11 D kc A) {R : Int64} {x1 : Int32} {x2 : Int32} {x3 : Int32} {σ : St} (hR : RTl 0 0 p l e r_X11_stockOf s m args below meth c cX11_stockOf tM kc ad D A Q R σ) : ∀ (n : Nat) (x4 : Int64) (x6 : Int32) (H : Heap) (locs : List Loc) (ls : Array Slot), Dy tM kc ad D A s.heap σ H locs → lv_has ls 9 [(0, .ref (ad 0)), (1, .int x1), (2, .int x2), (3, .int x3), (4, .long x4), (6, .int x6)] → f_X11_stockOf_12 x1 x2 x3 σ n x4 x6 = some R → W p l e r_X11_stockOf s m args below meth c H locs 0 0 Q (F0 m 12 ls []) := by
  have hx := C.1.1
  have hb := C.1.2.1
  intro n
  induction n with
  | zero =>
    intro x4 x6 H locs ls Z hl h
    exact absurd (show none = some R from h) (by simp)
  | succ n ih =>
    intro x4 x6 H locs ls Z hl h
    rw [f_X11_stockOf_12] at h
    refine lv_iload hx hb dX11_stockOf_12 (lv_at hl 5 rfl) ?_
    refine lv_iload_n hx hb dX11_stockOf_14 rfl (lv_at hl 2 rfl) ?_
    refine lv_icmp_ge (tgt := 80) hx hb dX11_stockOf_15 (by decide) (fun c15 => ?_) (fun c15 => ?_)
    · have h := ip h c15
      refine lv_lload hx hb dX11_stockOf_80 (lv_at hl 4 rfl) ?_
      obtain rfl := Option.some.inj h
      exact hR _ _ _ _ Z dX11_stockOf_82
    · have h := im h c15
      refine lv_lload hx hb dX11_stockOf_18 (lv_at hl 4 rfl) ?_
      refine lv_aload_n hx hb dX11_stockOf_20 rfl (lv_at hl 0 rfl) ?_
      refine rg_X11_171 C Z dX11_stockOf_21 ?_
      refine lv_bipush (v := 80) hx hb dX11_stockOf_24 (by decide) ?_
      refine lv_iload hx hb dX11_stockOf_26 (lv_at hl 5 rfl) ?_
      refine lv_iadd hx hb dX11_stockOf_28 ?_
      obtain ⟨v14, hv14, h⟩ := ob h
      refine g_iald C Z iaM43 hv14 dX11_stockOf_29 ?_
      refine lv_i2l (v := v14.toInt64) hx hb dX11_stockOf_30 rfl ?_
      refine lv_lsub hx hb dX11_stockOf_31 ?_
      obtain ⟨v15, ev15, h⟩ := lb h
      refine tn_l ev15 ?_
      refine lv_lstore (lv' := [(7, .long v15), (0, .ref (ad 0)), (1, .int x1), (2, .int x2), (3, .int x3), (4, .long x4), (6, .int x6)]) hx hb dX11_stockOf_32 hl (by decide) rfl (fun ls hl => ?_)
      refine lv_lload hx hb dX11_stockOf_34 (lv_at hl 0 rfl) ?_
      refine lv_lconst (v := 0) hx hb dX11_stockOf_36 (by decide) ?_
      obtain ⟨v16, ev16, h⟩ := lb h
      have hj : W p l e r_X11_stockOf s m args below meth c H locs 0 0 Q (F0 m 47 ls [.long v16]) := by
        refine lv_sipush (v := 1000) hx hb dX11_stockOf_47 (by decide) ?_
        refine lv_iload_n hx hb dX11_stockOf_50 rfl (lv_at hl 4 rfl) ?_
        refine lv_isub hx hb dX11_stockOf_51 ?_
        refine lv_i2l (v := (1000 - x3).toInt64) hx hb dX11_stockOf_52 rfl ?_
        refine lv_lmul hx hb dX11_stockOf_53 ?_
        refine lv_ldc2 (v := 1000) hx hb C.1.2.2.2.1 (C.1.2.2.2.2 _ wDL_X11_540) dX11_stockOf_54 ?_
        refine lv_ldiv hx hb dX11_stockOf_57 (by decide) ?_
        refine lv_aload_n hx hb dX11_stockOf_58 rfl (lv_at hl 1 rfl) ?_
        refine rg_X11_171 C Z dX11_stockOf_59 ?_
        refine lv_bipush (v := 40) hx hb dX11_stockOf_62 (by decide) ?_
        refine lv_iload_n hx hb dX11_stockOf_64 rfl (lv_at hl 2 rfl) ?_
        refine lv_imul hx hb dX11_stockOf_65 ?_
        refine lv_iload hx hb dX11_stockOf_66 (lv_at hl 6 rfl) ?_
        refine lv_iadd hx hb dX11_stockOf_68 ?_
        obtain ⟨v17, hv17, h⟩ := ob h
        refine g_iald C Z iaM43 hv17 dX11_stockOf_69 ?_
        refine lv_i2l (v := v17.toInt64) hx hb dX11_stockOf_70 rfl ?_
        refine lv_ladd hx hb dX11_stockOf_71 ?_
        obtain ⟨v18, ev18, h⟩ := lb h
        refine tn_l ev18 ?_
        refine lv_lstore (lv' := [(4, .long v18), (7, .long v15), (0, .ref (ad 0)), (1, .int x1), (2, .int x2), (3, .int x3), (6, .int x6)]) hx hb dX11_stockOf_72 hl (by decide) rfl (fun ls hl => ?_)
        obtain ⟨v19, ev19, h⟩ := lb h
        refine lv_iinc (v := v19) (lv' := [(6, .int v19), (4, .long v18), (7, .long v15), (0, .ref (ad 0)), (1, .int x1), (2, .int x2), (3, .int x3)]) hx hb dX11_stockOf_74 hl (k := 6) rfl (by rw [ev19]; rfl) (by decide) rfl (fun ls hl => ?_)
        refine lv_goto (tgt := 12) hx hb dX11_stockOf_77 (by decide) ?_
        exact ih _ _ _ _ _ Z (lv_sub hl [3, 4, 5, 6, 1, 0] rfl) h
      refine g_lge (tgt := 45) hx hb dX11_stockOf_37 dX11_stockOf_38 (by decide) (fun c38 => ?_) (fun c38 => ?_)
      · rw [if_pos c38] at ev16
        refine lv_lload hx hb dX11_stockOf_45 (lv_at hl 0 rfl) ?_
        exact tn_l ev16 hj
      · rw [if_neg c38] at ev16
        refine lv_lconst (v := 0) hx hb dX11_stockOf_41 (by decide) ?_
        refine lv_goto (tgt := 47) hx hb dX11_stockOf_42 (by decide) ?_
        exact tn_l ev16 hj
set_option maxRecDepth 20000 in
theorem w_X11_stockOf_0 {p : Program} {l : Launch} {e : Env} {s : State} {m : MethodId} {args : Array Value} {below : List Frame} {meth : Method} {c : Code} {Q : State → Prop} {D : va_G} {kc : Nat → ClassId} {ad : Nat → Nat} {A : Nat → Prop} (C : Cx eM p s m args c cX11_stockOf 9 RX11 D kc A) {R : Int64} {x1 : Int32} {x2 : Int32} {x3 : Int32} {σ : St} (hR : RTl 0 0 p l e r_X11_stockOf s m args below meth c cX11_stockOf tM kc ad D A Q R σ) {H : Heap} {locs : List Loc} {ls : Array Slot} (Z : Dy tM kc ad D A s.heap σ H locs) (hl : lv_has ls 9 [(0, .ref (ad 0)), (1, .int x1), (2, .int x2), (3, .int x3)]) (h : f_X11_stockOf x1 x2 x3 σ = some R) : W p l e r_X11_stockOf s m args below meth c H locs 0 0 Q (F0 m 0 ls []) := by
  have hx := C.1.1
  have hb := C.1.2.1
  unfold f_X11_stockOf at h
  refine lv_aload_n hx hb dX11_stockOf_0 rfl (lv_at hl 0 rfl) ?_
  refine rg_X11_165 C Z dX11_stockOf_1 ?_
  refine lv_iload_n hx hb dX11_stockOf_4 rfl (lv_at hl 1 rfl) ?_
  obtain ⟨v13, hv13, h⟩ := ob h
  refine g_iald C Z iaM41 hv13 dX11_stockOf_5 ?_
  refine lv_i2l (v := v13.toInt64) hx hb dX11_stockOf_6 rfl ?_
  refine lv_lstore (lv' := [(4, .long v13.toInt64), (0, .ref (ad 0)), (1, .int x1), (2, .int x2), (3, .int x3)]) hx hb dX11_stockOf_7 hl (by decide) rfl (fun ls hl => ?_)
  refine lv_iconst (v := 0) hx hb dX11_stockOf_9 (by decide) ?_
  refine lv_istore (lv' := [(6, .int 0), (4, .long v13.toInt64), (0, .ref (ad 0)), (1, .int x1), (2, .int x2), (3, .int x3)]) hx hb dX11_stockOf_10 hl (by decide) rfl (fun ls hl => ?_)
  exact w_X11_stockOf_12 C hR _ _ _ _ _ _ Z (lv_sub hl [2, 3, 4, 5, 1, 0] rfl) h
theorem k_X11_stockOf {l : Launch} {kc : Nat → ClassId} {ad : Nat → Nat} {D : va_G} {x1 : Int32} {x2 : Int32} {x3 : Int32} {σ : St} {R : Int64} (h : f_X11_stockOf x1 x2 x3 σ = some R) : KC eM tM kc ad D l yX11_stockOf (.code yX11_stockOf cX11_stockOf 9 (some .long)) r_X11_stockOf [.ref (ad 0), .int x1, .int x2, .int x3] (some (.long R)) σ σ := by
  refine g_enter (by decide) (Nat.le_of_ble_eq_true rfl) ?_
  intro p e s m args below meth c A hA C hr hlocks Z ls hl
  have hl : lv_has ls 9 [(0, .ref (ad 0)), (1, .int x1), (2, .int x2), (3, .int x3)] := hl
  exact w_X11_stockOf_0 C (g_RTl C.1.1 C.1.2.1 hr hlocks hA)  Z hl h
def r_X11_isYear : Room := { frames := 0, cells := 0, slots := 0, locals := 0 }
set_option maxRecDepth 20000 in
theorem w_X11_isYear_14 {p : Program} {l : Launch} {e : Env} {s : State} {m : MethodId} {args : Array Value} {below : List Frame} {meth : Method} {c : Code} {Q : State → Prop} {D : va_G} {kc : Nat → ClassId} {ad : Nat → Nat} {A : Nat → Prop} (C : Cx eM p s m args c cX11_isYear 1 RX11 D kc A) {R : Int32} {σ : St} (hR : RTi 0 0 p l e r_X11_isYear s m args below meth c cX11_isYear tM kc ad D A Q .boolean R σ) {H : Heap} {locs : List Loc} {ls : Array Slot} (Z : Dy tM kc ad D A s.heap σ H locs) (hl : lv_has ls 1 []) (h : f_X11_isYear_14 = R) : W p l e r_X11_isYear s m args below meth c H locs 0 0 Q (F0 m 14 ls []) := by
  have hx := C.1.1
  have hb := C.1.2.1
  unfold f_X11_isYear_14 at h
  refine lv_iconst (v := 0) hx hb dX11_isYear_14 (by decide) ?_
  subst h
  exact hR _ _ _ _ _ Z dX11_isYear_15 rfl
set_option maxRecDepth 20000 in
theorem w_X11_isYear_0 {p : Program} {l : Launch} {e : Env} {s : State} {m : MethodId} {args : Array Value} {below : List Frame} {meth : Method} {c : Code} {Q : State → Prop} {D : va_G} {kc : Nat → ClassId} {ad : Nat → Nat} {A : Nat → Prop} (C : Cx eM p s m args c cX11_isYear 1 RX11 D kc A) {R : Int32} {x0 : Int32} {σ : St} (hR : RTi 0 0 p l e r_X11_isYear s m args below meth c cX11_isYear tM kc ad D A Q .boolean R σ) {H : Heap} {locs : List Loc} {ls : Array Slot} (Z : Dy tM kc ad D A s.heap σ H locs) (hl : lv_has ls 1 [(0, .int x0)]) (h : f_X11_isYear x0 = R) : W p l e r_X11_isYear s m args below meth c H locs 0 0 Q (F0 m 0 ls []) := by
  have hx := C.1.1
  have hb := C.1.2.1
  unfold f_X11_isYear at h
  refine lv_iload_n hx hb dX11_isYear_0 rfl (lv_at hl 0 rfl) ?_
  refine lv_if_lt (tgt := 14) hx hb dX11_isYear_1 (by decide) (fun c1 => ?_) (fun c1 => ?_)
  · have h := ip h c1
    exact w_X11_isYear_14 C hR Z (lv_sub hl [] rfl) h
  · have h := im h c1
    refine lv_iload_n hx hb dX11_isYear_4 rfl (lv_at hl 0 rfl) ?_
    refine lv_bipush (v := 40) hx hb dX11_isYear_5 (by decide) ?_
    refine lv_icmp_ge (tgt := 14) hx hb dX11_isYear_7 (by decide) (fun c7 => ?_) (fun c7 => ?_)
    · have h := ip h c7
      exact w_X11_isYear_14 C hR Z (lv_sub hl [] rfl) h
    · have h := im h c7
      refine lv_iconst (v := 1) hx hb dX11_isYear_10 (by decide) ?_
      refine lv_goto (tgt := 15) hx hb dX11_isYear_11 (by decide) ?_
      subst h
      exact hR _ _ _ _ _ Z dX11_isYear_15 rfl
theorem k_X11_isYear {l : Launch} {kc : Nat → ClassId} {ad : Nat → Nat} {D : va_G} (x0 : Int32) (σ : St) : KC eM tM kc ad D l yX11_isYear (.code yX11_isYear cX11_isYear 1 (some .boolean)) r_X11_isYear [.int x0] (some (.int (f_X11_isYear x0))) σ σ := by
  refine g_enter (by decide) (Nat.le_of_ble_eq_true rfl) ?_
  intro p e s m args below meth c A hA C hr hlocks Z ls hl
  have hl : lv_has ls 1 [(0, .int x0)] := hl
  exact w_X11_isYear_0 C (g_RTi C.1.1 C.1.2.1 hr hlocks hA)  Z hl rfl
def r_X11_stock : Room := { frames := 1, cells := 0, slots := 0, locals := 28 }
set_option maxRecDepth 20000 in
theorem w_X11_stock_29 {p : Program} {l : Launch} {e : Env} {s : State} {m : MethodId} {args : Array Value} {below : List Frame} {meth : Method} {c : Code} {Q : State → Prop} {D : va_G} {kc : Nat → ClassId} {ad : Nat → Nat} {A : Nat → Prop} (C : Cx eM p s m args c cX11_stock 3 RX11 D kc A) {R : Int64} {σ : St} (hR : RTl 0 0 p l e r_X11_stock s m args below meth c cX11_stock tM kc ad D A Q R σ) {H : Heap} {locs : List Loc} {ls : Array Slot} (Z : Dy tM kc ad D A s.heap σ H locs) (hl : lv_has ls 3 []) (h : f_X11_stock_29 σ = some R) : W p l e r_X11_stock s m args below meth c H locs 0 0 Q (F0 m 29 ls []) := by
  have hx := C.1.1
  have hb := C.1.2.1
  unfold f_X11_stock_29 at h
  refine lv_ldc2 (v := (-1)) hx hb C.1.2.2.2.1 (C.1.2.2.2.2 _ wDL_X11_314) dX11_stock_29 ?_
  obtain rfl := Option.some.inj h
  exact hR _ _ _ _ Z dX11_stock_32
set_option maxRecDepth 20000 in
theorem w_X11_stock_0 {p : Program} {l : Launch} {e : Env} {s : State} {m : MethodId} {args : Array Value} {below : List Frame} {meth : Method} {c : Code} {Q : State → Prop} {D : va_G} {kc : Nat → ClassId} {ad : Nat → Nat} {A : Nat → Prop} (C : Cx eM p s m args c cX11_stock 3 RX11 D kc A) {R : Int64} {x1 : Int32} {x2 : Int32} {σ : St} (hR : RTl 0 0 p l e r_X11_stock s m args below meth c cX11_stock tM kc ad D A Q R σ) {H : Heap} {locs : List Loc} {ls : Array Slot} (Z : Dy tM kc ad D A s.heap σ H locs) (hl : lv_has ls 3 [(0, .ref (ad 0)), (1, .int x1), (2, .int x2)]) (h : f_X11_stock x1 x2 σ = some R) : W p l e r_X11_stock s m args below meth c H locs 0 0 Q (F0 m 0 ls []) := by
  have hx := C.1.1
  have hb := C.1.2.1
  unfold f_X11_stock at h
  refine lv_iload_n hx hb dX11_stock_0 rfl (lv_at hl 1 rfl) ?_
  refine g_callSi eM_ok C Z (k_X11_isSide x1 σ) lk_X11_251 hl (by decide) rfl (Nat.le_of_ble_eq_true rfl) (rest := []) rfl dX11_stock_1 (fun H locs Z => ?_)
  refine lv_if_eq (tgt := 29) hx hb dX11_stock_4 (by decide) (fun c4 => ?_) (fun c4 => ?_)
  · have h := ip h c4
    exact w_X11_stock_29 C hR Z (lv_sub hl [] rfl) h
  · have h := im h c4
    refine lv_iload_n hx hb dX11_stock_7 rfl (lv_at hl 2 rfl) ?_
    refine g_callSi eM_ok C Z (k_X11_isYear x2 σ) lk_X11_546 hl (by decide) rfl (Nat.le_of_ble_eq_true rfl) (rest := []) rfl dX11_stock_8 (fun H locs Z => ?_)
    refine lv_if_eq (tgt := 29) hx hb dX11_stock_11 (by decide) (fun c11 => ?_) (fun c11 => ?_)
    · have h := ip h c11
      exact w_X11_stock_29 C hR Z (lv_sub hl [] rfl) h
    · have h := im h c11
      refine lv_aload_n hx hb dX11_stock_14 rfl (lv_at hl 0 rfl) ?_
      refine lv_iload_n hx hb dX11_stock_15 rfl (lv_at hl 1 rfl) ?_
      refine lv_iload_n hx hb dX11_stock_16 rfl (lv_at hl 2 rfl) ?_
      refine lv_aload_n hx hb dX11_stock_17 rfl (lv_at hl 0 rfl) ?_
      refine rg_X11_168 C Z dX11_stock_18 ?_
      refine lv_iload_n hx hb dX11_stock_21 rfl (lv_at hl 1 rfl) ?_
      obtain ⟨v5, hv5, h⟩ := ob h
      refine g_iald C Z iaM42 hv5 dX11_stock_22 ?_
      obtain ⟨v6, hv6, h⟩ := ob h
      refine g_callVl eM_ok C Z (k_X11_stockOf hv6) lk_X11_549 (by decide) rfl rfl hl (by decide) rfl (Nat.le_of_ble_eq_true rfl) (rest := []) rfl dX11_stock_23 (fun H locs Z => ?_)
      refine lv_goto (tgt := 32) hx hb dX11_stock_26 (by decide) ?_
      obtain rfl := Option.some.inj h
      exact hR _ _ _ _ Z dX11_stock_32
theorem k_X11_stock {l : Launch} {kc : Nat → ClassId} {ad : Nat → Nat} {D : va_G} {x1 : Int32} {x2 : Int32} {σ : St} {R : Int64} (h : f_X11_stock x1 x2 σ = some R) : KC eM tM kc ad D l yX11_stock (.code yX11_stock cX11_stock 3 (some .long)) r_X11_stock [.ref (ad 0), .int x1, .int x2] (some (.long R)) σ σ := by
  refine g_enter (by decide) (Nat.le_of_ble_eq_true rfl) ?_
  intro p e s m args below meth c A hA C hr hlocks Z ls hl
  have hl : lv_has ls 3 [(0, .ref (ad 0)), (1, .int x1), (2, .int x2)] := hl
  exact w_X11_stock_0 C (g_RTl C.1.1 C.1.2.1 hr hlocks hA)  Z hl h
def r_X11_fails_ : Room := { frames := 1, cells := 0, slots := 0, locals := 28 }
set_option maxRecDepth 20000 in
theorem w_X11_fails__11 {p : Program} {l : Launch} {e : Env} {s : State} {m : MethodId} {args : Array Value} {below : List Frame} {meth : Method} {c : Code} {Q : State → Prop} {D : va_G} {kc : Nat → ClassId} {ad : Nat → Nat} {A : Nat → Prop} (C : Cx eM p s m args c cX11_fails_ 3 RX11 D kc A) {R : Int32} {x1 : Int32} {σ : St} (hR : RTi 0 0 p l e r_X11_fails_ s m args below meth c cX11_fails_ tM kc ad D A Q .int R σ) : ∀ (n : Nat) (x2 : Int32) (H : Heap) (locs : List Loc) (ls : Array Slot), Dy tM kc ad D A s.heap σ H locs → lv_has ls 3 [(0, .ref (ad 0)), (1, .int x1), (2, .int x2)] → f_X11_fails__11 x1 σ n x2 = some R → W p l e r_X11_fails_ s m args below meth c H locs 0 0 Q (F0 m 11 ls []) := by
  have hx := C.1.1
  have hb := C.1.2.1
  intro n
  induction n with
  | zero =>
    intro x2 H locs ls Z hl h
    exact absurd (show none = some R from h) (by simp)
  | succ n ih =>
    intro x2 H locs ls Z hl h
    rw [f_X11_fails__11] at h
    refine lv_iload_n hx hb dX11_fails__11 rfl (lv_at hl 2 rfl) ?_
    refine lv_bipush (v := 40) hx hb dX11_fails__12 (by decide) ?_
    refine lv_icmp_ge (tgt := 51) hx hb dX11_fails__14 (by decide) (fun c14 => ?_) (fun c14 => ?_)
    · have h := ip h c14
      refine lv_bipush (v := (-2)) hx hb dX11_fails__51 (by decide) ?_
      obtain rfl := Option.some.inj h
      exact hR _ _ _ _ _ Z dX11_fails__53 rfl
    · have h := im h c14
      refine lv_aload_n hx hb dX11_fails__17 rfl (lv_at hl 0 rfl) ?_
      refine rg_X11_171 C Z dX11_fails__18 ?_
      refine lv_bipush (v := 80) hx hb dX11_fails__21 (by decide) ?_
      refine lv_iload_n hx hb dX11_fails__23 rfl (lv_at hl 2 rfl) ?_
      refine lv_iadd hx hb dX11_fails__24 ?_
      obtain ⟨v9, hv9, h⟩ := ob h
      refine g_iald C Z iaM43 hv9 dX11_fails__25 ?_
      refine lv_i2l (v := v9.toInt64) hx hb dX11_fails__26 rfl ?_
      refine lv_aload_n hx hb dX11_fails__27 rfl (lv_at hl 0 rfl) ?_
      refine lv_iload_n hx hb dX11_fails__28 rfl (lv_at hl 1 rfl) ?_
      refine lv_iload_n hx hb dX11_fails__29 rfl (lv_at hl 2 rfl) ?_
      refine lv_aload_n hx hb dX11_fails__30 rfl (lv_at hl 0 rfl) ?_
      refine rg_X11_168 C Z dX11_fails__31 ?_
      refine lv_iload_n hx hb dX11_fails__34 rfl (lv_at hl 1 rfl) ?_
      obtain ⟨v10, hv10, h⟩ := ob h
      refine g_iald C Z iaM42 hv10 dX11_fails__35 ?_
      obtain ⟨v11, hv11, h⟩ := ob h
      refine g_callVl eM_ok C Z (k_X11_stockOf hv11) lk_X11_549 (by decide) rfl rfl hl (by decide) rfl (Nat.le_of_ble_eq_true rfl) (rest := [.long v9.toInt64]) rfl dX11_fails__36 (fun H locs Z => ?_)
      refine g_lle (tgt := 45) hx hb dX11_fails__39 dX11_fails__40 (by decide) (fun c40 => ?_) (fun c40 => ?_)
      · have h := ip h c40
        obtain ⟨v12, ev12, h⟩ := lb h
        refine lv_iinc (v := v12) (lv' := [(2, .int v12), (0, .ref (ad 0)), (1, .int x1)]) hx hb dX11_fails__45 hl (k := 2) rfl (by rw [ev12]; rfl) (by decide) rfl (fun ls hl => ?_)
        refine lv_goto (tgt := 11) hx hb dX11_fails__48 (by decide) ?_
        exact ih _ _ _ _ Z (lv_sub hl [1, 2, 0] rfl) h
      · have h := im h c40
        refine lv_iload_n hx hb dX11_fails__43 rfl (lv_at hl 2 rfl) ?_
        obtain rfl := Option.some.inj h
        exact hR _ _ _ _ _ Z dX11_fails__44 rfl
set_option maxRecDepth 20000 in
theorem w_X11_fails__0 {p : Program} {l : Launch} {e : Env} {s : State} {m : MethodId} {args : Array Value} {below : List Frame} {meth : Method} {c : Code} {Q : State → Prop} {D : va_G} {kc : Nat → ClassId} {ad : Nat → Nat} {A : Nat → Prop} (C : Cx eM p s m args c cX11_fails_ 3 RX11 D kc A) {R : Int32} {x1 : Int32} {σ : St} (hR : RTi 0 0 p l e r_X11_fails_ s m args below meth c cX11_fails_ tM kc ad D A Q .int R σ) {H : Heap} {locs : List Loc} {ls : Array Slot} (Z : Dy tM kc ad D A s.heap σ H locs) (hl : lv_has ls 3 [(0, .ref (ad 0)), (1, .int x1)]) (h : f_X11_fails_ x1 σ = some R) : W p l e r_X11_fails_ s m args below meth c H locs 0 0 Q (F0 m 0 ls []) := by
  have hx := C.1.1
  have hb := C.1.2.1
  unfold f_X11_fails_ at h
  refine lv_iload_n hx hb dX11_fails__0 rfl (lv_at hl 1 rfl) ?_
  refine g_callSi eM_ok C Z (k_X11_isSide x1 σ) lk_X11_251 hl (by decide) rfl (Nat.le_of_ble_eq_true rfl) (rest := []) rfl dX11_fails__1 (fun H locs Z => ?_)
  refine lv_if_ne (tgt := 9) hx hb dX11_fails__4 (by decide) (fun c4 => ?_) (fun c4 => ?_)
  · have h := im h c4
    refine lv_iconst (v := 0) hx hb dX11_fails__9 (by decide) ?_
    refine lv_istore_n (lv' := [(2, .int 0), (0, .ref (ad 0)), (1, .int x1)]) hx hb dX11_fails__10 rfl hl (by decide) rfl (fun ls hl => ?_)
    exact w_X11_fails__11 C hR _ _ _ _ _ Z (lv_sub hl [1, 2, 0] rfl) h
  · have h := ip h c4
    refine lv_iconst (v := (-1)) hx hb dX11_fails__7 (by decide) ?_
    obtain rfl := Option.some.inj h
    exact hR _ _ _ _ _ Z dX11_fails__8 rfl
theorem k_X11_fails_ {l : Launch} {kc : Nat → ClassId} {ad : Nat → Nat} {D : va_G} {x1 : Int32} {σ : St} {R : Int32} (h : f_X11_fails_ x1 σ = some R) : KC eM tM kc ad D l yX11_fails_ (.code yX11_fails_ cX11_fails_ 3 (some .int)) r_X11_fails_ [.ref (ad 0), .int x1] (some (.int R)) σ σ := by
  refine g_enter (by decide) (Nat.le_of_ble_eq_true rfl) ?_
  intro p e s m args below meth c A hA C hr hlocks Z ls hl
  have hl : lv_has ls 3 [(0, .ref (ad 0)), (1, .int x1)] := hl
  exact w_X11_fails__0 C (g_RTi C.1.1 C.1.2.1 hr hlocks hA)  Z hl h
def r_X11_agree : Room := { frames := 1, cells := 0, slots := 0, locals := 28 }
set_option maxRecDepth 20000 in
theorem w_X11_agree_107 {p : Program} {l : Launch} {e : Env} {s : State} {m : MethodId} {args : Array Value} {below : List Frame} {meth : Method} {c : Code} {Q : State → Prop} {D : va_G} {kc : Nat → ClassId} {ad : Nat → Nat} {A : Nat → Prop} (C : Cx eM p s m args c cX11_agree 11 RX11 D kc A) {R : Int32} {x1 : Int32} {x2 : Int32} {x3 : Int64} {x5 : Int32} {x6 : Int64} {x8 : Int32} {σ : St} (hR : RTi 0 0 p l e r_X11_agree s m args below meth c cX11_agree tM kc ad D A Q .int R σ) {k44 : Int32 → Int64 → Int32 → Option (Int32)} (hk44 : ∀ (x5 : Int32) (x6 : Int64) (x8 : Int32) (H : Heap) (locs : List Loc) (ls : Array Slot), Dy tM kc ad D A s.heap σ H locs → lv_has ls 11 [(0, .ref (ad 0)), (1, .int x1), (2, .int x2), (3, .long x3), (5, .int x5), (6, .long x6), (8, .int x8)] → k44 x5 x6 x8 = some R → W p l e r_X11_agree s m args below meth c H locs 0 0 Q (F0 m 44 ls [])) {H : Heap} {locs : List Loc} {ls : Array Slot} (Z : Dy tM kc ad D A s.heap σ H locs) (hl : lv_has ls 11 [(0, .ref (ad 0)), (1, .int x1), (2, .int x2), (3, .long x3), (5, .int x5), (6, .long x6), (8, .int x8)]) (h : f_X11_agree_107 x1 x2 x3 x5 x6 x8 σ k44 = some R) : W p l e r_X11_agree s m args below meth c H locs 0 0 Q (F0 m 107 ls []) := by
  have hx := C.1.1
  have hb := C.1.2.1
  unfold f_X11_agree_107 at h
  obtain ⟨v17, ev17, h⟩ := lb h
  refine lv_iinc (v := v17) (lv' := [(8, .int v17), (0, .ref (ad 0)), (1, .int x1), (2, .int x2), (3, .long x3), (5, .int x5), (6, .long x6)]) hx hb dX11_agree_107 hl (k := 6) rfl (by rw [ev17]; rfl) (by decide) rfl (fun ls hl => ?_)
  refine lv_goto (tgt := 44) hx hb dX11_agree_110 (by decide) ?_
  exact hk44 _ _ _ _ _ _ Z (lv_sub hl [1, 2, 3, 4, 5, 6, 0] rfl) h
set_option maxRecDepth 20000 in
theorem w_X11_agree_99 {p : Program} {l : Launch} {e : Env} {s : State} {m : MethodId} {args : Array Value} {below : List Frame} {meth : Method} {c : Code} {Q : State → Prop} {D : va_G} {kc : Nat → ClassId} {ad : Nat → Nat} {A : Nat → Prop} (C : Cx eM p s m args c cX11_agree 11 RX11 D kc A) {R : Int32} {x1 : Int32} {x2 : Int32} {x3 : Int64} {x8 : Int32} {x9 : Int64} {σ : St} (hR : RTi 0 0 p l e r_X11_agree s m args below meth c cX11_agree tM kc ad D A Q .int R σ) {k44 : Int32 → Int64 → Int32 → Option (Int32)} (hk44 : ∀ (x5 : Int32) (x6 : Int64) (x8 : Int32) (H : Heap) (locs : List Loc) (ls : Array Slot), Dy tM kc ad D A s.heap σ H locs → lv_has ls 11 [(0, .ref (ad 0)), (1, .int x1), (2, .int x2), (3, .long x3), (5, .int x5), (6, .long x6), (8, .int x8)] → k44 x5 x6 x8 = some R → W p l e r_X11_agree s m args below meth c H locs 0 0 Q (F0 m 44 ls [])) {H : Heap} {locs : List Loc} {ls : Array Slot} (Z : Dy tM kc ad D A s.heap σ H locs) (hl : lv_has ls 11 [(0, .ref (ad 0)), (1, .int x1), (2, .int x2), (3, .long x3), (8, .int x8), (9, .long x9)]) (h : f_X11_agree_99 x1 x2 x3 x8 x9 σ k44 = some R) : W p l e r_X11_agree s m args below meth c H locs 0 0 Q (F0 m 99 ls []) := by
  have hx := C.1.1
  have hb := C.1.2.1
  unfold f_X11_agree_99 at h
  refine lv_lload hx hb dX11_agree_99 (lv_at hl 5 rfl) ?_
  refine lv_lstore (lv' := [(6, .long x9), (0, .ref (ad 0)), (1, .int x1), (2, .int x2), (3, .long x3), (8, .int x8), (9, .long x9)]) hx hb dX11_agree_101 hl (by decide) rfl (fun ls hl => ?_)
  refine lv_iload hx hb dX11_agree_103 (lv_at hl 5 rfl) ?_
  refine lv_istore (lv' := [(5, .int x8), (6, .long x9), (0, .ref (ad 0)), (1, .int x1), (2, .int x2), (3, .long x3), (8, .int x8), (9, .long x9)]) hx hb dX11_agree_105 hl (by decide) rfl (fun ls hl => ?_)
  exact w_X11_agree_107 C hR hk44 Z (lv_sub hl [2, 3, 4, 5, 0, 1, 6] rfl) h
set_option maxRecDepth 20000 in
theorem w_X11_agree_79 {p : Program} {l : Launch} {e : Env} {s : State} {m : MethodId} {args : Array Value} {below : List Frame} {meth : Method} {c : Code} {Q : State → Prop} {D : va_G} {kc : Nat → ClassId} {ad : Nat → Nat} {A : Nat → Prop} (C : Cx eM p s m args c cX11_agree 11 RX11 D kc A) {R : Int32} {x1 : Int32} {x2 : Int32} {x3 : Int64} {x5 : Int32} {x6 : Int64} {x8 : Int32} {y0 : Int64} {σ : St} (hR : RTi 0 0 p l e r_X11_agree s m args below meth c cX11_agree tM kc ad D A Q .int R σ) {k44 : Int32 → Int64 → Int32 → Option (Int32)} (hk44 : ∀ (x5 : Int32) (x6 : Int64) (x8 : Int32) (H : Heap) (locs : List Loc) (ls : Array Slot), Dy tM kc ad D A s.heap σ H locs → lv_has ls 11 [(0, .ref (ad 0)), (1, .int x1), (2, .int x2), (3, .long x3), (5, .int x5), (6, .long x6), (8, .int x8)] → k44 x5 x6 x8 = some R → W p l e r_X11_agree s m args below meth c H locs 0 0 Q (F0 m 44 ls [])) {H : Heap} {locs : List Loc} {ls : Array Slot} (Z : Dy tM kc ad D A s.heap σ H locs) (hl : lv_has ls 11 [(0, .ref (ad 0)), (1, .int x1), (2, .int x2), (3, .long x3), (5, .int x5), (6, .long x6), (8, .int x8)]) (h : f_X11_agree_79 x1 x2 x3 x5 x6 x8 y0 σ k44 = some R) : W p l e r_X11_agree s m args below meth c H locs 0 0 Q (F0 m 79 ls [.long y0]) := by
  have hx := C.1.1
  have hb := C.1.2.1
  unfold f_X11_agree_79 at h
  refine lv_lstore (lv' := [(9, .long y0), (0, .ref (ad 0)), (1, .int x1), (2, .int x2), (3, .long x3), (5, .int x5), (6, .long x6), (8, .int x8)]) hx hb dX11_agree_79 hl (by decide) rfl (fun ls hl => ?_)
  refine lv_lload hx hb dX11_agree_81 (lv_at hl 6 rfl) ?_
  refine lv_lconst (v := 0) hx hb dX11_agree_83 (by decide) ?_
  refine g_llt (tgt := 99) hx hb dX11_agree_84 dX11_agree_85 (by decide) (fun c85 => ?_) (fun c85 => ?_)
  · have h := ip h c85
    exact w_X11_agree_99 C hR hk44 Z (lv_sub hl [1, 2, 3, 4, 7, 0] rfl) h
  · have h := im h c85
    refine lv_lload hx hb dX11_agree_88 (lv_at hl 0 rfl) ?_
    refine lv_lload hx hb dX11_agree_90 (lv_at hl 6 rfl) ?_
    refine g_llt (tgt := 99) hx hb dX11_agree_92 dX11_agree_93 (by decide) (fun c93 => ?_) (fun c93 => ?_)
    · have h := ip h c93
      exact w_X11_agree_99 C hR hk44 Z (lv_sub hl [1, 2, 3, 4, 7, 0] rfl) h
    · have h := im h c93
      refine lv_goto (tgt := 107) hx hb dX11_agree_96 (by decide) ?_
      exact w_X11_agree_107 C hR hk44 Z (lv_sub hl [1, 2, 3, 4, 5, 6, 7] rfl) h
set_option maxRecDepth 20000 in
theorem w_X11_agree_44 {p : Program} {l : Launch} {e : Env} {s : State} {m : MethodId} {args : Array Value} {below : List Frame} {meth : Method} {c : Code} {Q : State → Prop} {D : va_G} {kc : Nat → ClassId} {ad : Nat → Nat} {A : Nat → Prop} (C : Cx eM p s m args c cX11_agree 11 RX11 D kc A) {R : Int32} {x1 : Int32} {x2 : Int32} {x3 : Int64} {σ : St} (hR : RTi 0 0 p l e r_X11_agree s m args below meth c cX11_agree tM kc ad D A Q .int R σ) : ∀ (n : Nat) (x5 : Int32) (x6 : Int64) (x8 : Int32) (H : Heap) (locs : List Loc) (ls : Array Slot), Dy tM kc ad D A s.heap σ H locs → lv_has ls 11 [(0, .ref (ad 0)), (1, .int x1), (2, .int x2), (3, .long x3), (5, .int x5), (6, .long x6), (8, .int x8)] → f_X11_agree_44 x1 x2 x3 σ n x5 x6 x8 = some R → W p l e r_X11_agree s m args below meth c H locs 0 0 Q (F0 m 44 ls []) := by
  have hx := C.1.1
  have hb := C.1.2.1
  intro n
  induction n with
  | zero =>
    intro x5 x6 x8 H locs ls Z hl h
    exact absurd (show none = some R from h) (by simp)
  | succ n ih =>
    intro x5 x6 x8 H locs ls Z hl h
    rw [f_X11_agree_44] at h
    refine lv_iload hx hb dX11_agree_44 (lv_at hl 6 rfl) ?_
    refine lv_sipush (v := 1000) hx hb dX11_agree_46 (by decide) ?_
    refine lv_icmp_gt (tgt := 113) hx hb dX11_agree_49 (by decide) (fun c49 => ?_) (fun c49 => ?_)
    · have h := ip h c49
      refine lv_iload hx hb dX11_agree_113 (lv_at hl 4 rfl) ?_
      obtain rfl := Option.some.inj h
      exact hR _ _ _ _ _ Z dX11_agree_115 rfl
    · have h := im h c49
      refine lv_aload_n hx hb dX11_agree_52 rfl (lv_at hl 0 rfl) ?_
      refine lv_iload_n hx hb dX11_agree_53 rfl (lv_at hl 1 rfl) ?_
      refine lv_iload_n hx hb dX11_agree_54 rfl (lv_at hl 2 rfl) ?_
      refine lv_iload hx hb dX11_agree_55 (lv_at hl 6 rfl) ?_
      obtain ⟨v15, hv15, h⟩ := ob h
      refine g_callVl eM_ok C Z (k_X11_stockOf hv15) lk_X11_549 (by decide) rfl rfl hl (by decide) rfl (Nat.le_of_ble_eq_true rfl) (rest := []) rfl dX11_agree_57 (fun H locs Z => ?_)
      refine lv_lload_n hx hb dX11_agree_60 rfl (lv_at hl 3 rfl) ?_
      refine lv_lsub hx hb dX11_agree_61 ?_
      obtain ⟨v16, ev16, h⟩ := lb h
      refine tn_l ev16 ?_
      refine lv_lstore (lv' := [(9, .long v16), (0, .ref (ad 0)), (1, .int x1), (2, .int x2), (3, .long x3), (5, .int x5), (6, .long x6), (8, .int x8)]) hx hb dX11_agree_62 hl (by decide) rfl (fun ls hl => ?_)
      refine lv_lload hx hb dX11_agree_64 (lv_at hl 0 rfl) ?_
      refine lv_lconst (v := 0) hx hb dX11_agree_66 (by decide) ?_
      refine g_lge (tgt := 77) hx hb dX11_agree_67 dX11_agree_68 (by decide) (fun c68 => ?_) (fun c68 => ?_)
      · have h := ip h c68
        refine lv_lload hx hb dX11_agree_77 (lv_at hl 0 rfl) ?_
        exact w_X11_agree_79 C hR ih Z (lv_sub hl [1, 2, 3, 4, 5, 6, 7] rfl) h
      · have h := im h c68
        refine lv_lload hx hb dX11_agree_71 (lv_at hl 0 rfl) ?_
        refine lv_lneg hx hb dX11_agree_73 ?_
        refine lv_goto (tgt := 79) hx hb dX11_agree_74 (by decide) ?_
        exact w_X11_agree_79 C hR ih Z (lv_sub hl [1, 2, 3, 4, 5, 6, 7] rfl) h
set_option maxRecDepth 20000 in
theorem w_X11_agree_0 {p : Program} {l : Launch} {e : Env} {s : State} {m : MethodId} {args : Array Value} {below : List Frame} {meth : Method} {c : Code} {Q : State → Prop} {D : va_G} {kc : Nat → ClassId} {ad : Nat → Nat} {A : Nat → Prop} (C : Cx eM p s m args c cX11_agree 11 RX11 D kc A) {R : Int32} {x1 : Int32} {x2 : Int32} {σ : St} (hR : RTi 0 0 p l e r_X11_agree s m args below meth c cX11_agree tM kc ad D A Q .int R σ) {H : Heap} {locs : List Loc} {ls : Array Slot} (Z : Dy tM kc ad D A s.heap σ H locs) (hl : lv_has ls 11 [(0, .ref (ad 0)), (1, .int x1), (2, .int x2)]) (h : f_X11_agree x1 x2 σ = some R) : W p l e r_X11_agree s m args below meth c H locs 0 0 Q (F0 m 0 ls []) := by
  have hx := C.1.1
  have hb := C.1.2.1
  unfold f_X11_agree at h
  refine lv_iload_n hx hb dX11_agree_0 rfl (lv_at hl 1 rfl) ?_
  refine g_callSi eM_ok C Z (k_X11_isSide x1 σ) lk_X11_251 hl (by decide) rfl (Nat.le_of_ble_eq_true rfl) (rest := []) rfl dX11_agree_1 (fun H locs Z => ?_)
  refine lv_if_eq (tgt := 14) hx hb dX11_agree_4 (by decide) (fun c4 => ?_) (fun c4 => ?_)
  · have h := ip h c4
    refine lv_iconst (v := (-1)) hx hb dX11_agree_14 (by decide) ?_
    obtain rfl := Option.some.inj h
    exact hR _ _ _ _ _ Z dX11_agree_15 rfl
  · have h := im h c4
    refine lv_iload_n hx hb dX11_agree_7 rfl (lv_at hl 2 rfl) ?_
    refine g_callSi eM_ok C Z (k_X11_isYear x2 σ) lk_X11_546 hl (by decide) rfl (Nat.le_of_ble_eq_true rfl) (rest := []) rfl dX11_agree_8 (fun H locs Z => ?_)
    refine lv_if_ne (tgt := 16) hx hb dX11_agree_11 (by decide) (fun c11 => ?_) (fun c11 => ?_)
    · have h := im h c11
      refine lv_aload_n hx hb dX11_agree_16 rfl (lv_at hl 0 rfl) ?_
      refine lv_iconst (v := 1) hx hb dX11_agree_17 (by decide) ?_
      refine lv_iload_n hx hb dX11_agree_18 rfl (lv_at hl 1 rfl) ?_
      refine lv_isub hx hb dX11_agree_19 ?_
      refine lv_iload_n hx hb dX11_agree_20 rfl (lv_at hl 2 rfl) ?_
      refine lv_aload_n hx hb dX11_agree_21 rfl (lv_at hl 0 rfl) ?_
      refine rg_X11_168 C Z dX11_agree_22 ?_
      refine lv_iconst (v := 1) hx hb dX11_agree_25 (by decide) ?_
      refine lv_iload_n hx hb dX11_agree_26 rfl (lv_at hl 1 rfl) ?_
      refine lv_isub hx hb dX11_agree_27 ?_
      obtain ⟨v13, hv13, h⟩ := ob h
      refine g_iald C Z iaM42 hv13 dX11_agree_28 ?_
      obtain ⟨v14, hv14, h⟩ := ob h
      refine g_callVl eM_ok C Z (k_X11_stockOf hv14) lk_X11_549 (by decide) rfl rfl hl (by decide) rfl (Nat.le_of_ble_eq_true rfl) (rest := []) rfl dX11_agree_29 (fun H locs Z => ?_)
      refine lv_lstore_n (lv' := [(3, .long v14), (0, .ref (ad 0)), (1, .int x1), (2, .int x2)]) hx hb dX11_agree_32 rfl hl (by decide) rfl (fun ls hl => ?_)
      refine lv_iconst (v := 0) hx hb dX11_agree_33 (by decide) ?_
      refine lv_istore (lv' := [(5, .int 0), (3, .long v14), (0, .ref (ad 0)), (1, .int x1), (2, .int x2)]) hx hb dX11_agree_34 hl (by decide) rfl (fun ls hl => ?_)
      refine lv_ldc2 (v := (-1)) hx hb C.1.2.2.2.1 (C.1.2.2.2.2 _ wDL_X11_314) dX11_agree_36 ?_
      refine lv_lstore (lv' := [(6, .long (-1)), (5, .int 0), (3, .long v14), (0, .ref (ad 0)), (1, .int x1), (2, .int x2)]) hx hb dX11_agree_39 hl (by decide) rfl (fun ls hl => ?_)
      refine lv_iconst (v := 0) hx hb dX11_agree_41 (by decide) ?_
      refine lv_istore (lv' := [(8, .int 0), (6, .long (-1)), (5, .int 0), (3, .long v14), (0, .ref (ad 0)), (1, .int x1), (2, .int x2)]) hx hb dX11_agree_42 hl (by decide) rfl (fun ls hl => ?_)
      exact w_X11_agree_44 C hR _ _ _ _ _ _ _ Z (lv_sub hl [4, 5, 6, 3, 2, 1, 0] rfl) h
    · have h := ip h c11
      refine lv_iconst (v := (-1)) hx hb dX11_agree_14 (by decide) ?_
      obtain rfl := Option.some.inj h
      exact hR _ _ _ _ _ Z dX11_agree_15 rfl
theorem k_X11_agree {l : Launch} {kc : Nat → ClassId} {ad : Nat → Nat} {D : va_G} {x1 : Int32} {x2 : Int32} {σ : St} {R : Int32} (h : f_X11_agree x1 x2 σ = some R) : KC eM tM kc ad D l yX11_agree (.code yX11_agree cX11_agree 11 (some .int)) r_X11_agree [.ref (ad 0), .int x1, .int x2] (some (.int R)) σ σ := by
  refine g_enter (by decide) (Nat.le_of_ble_eq_true rfl) ?_
  intro p e s m args below meth c A hA C hr hlocks Z ls hl
  have hl : lv_has ls 11 [(0, .ref (ad 0)), (1, .int x1), (2, .int x2)] := hl
  exact w_X11_agree_0 C (g_RTi C.1.1 C.1.2.1 hr hlocks hA)  Z hl h
def r_X11_age : Room := { frames := 1, cells := 0, slots := 0, locals := 25 }
set_option maxRecDepth 20000 in
theorem w_X11_age_0 {p : Program} {l : Launch} {e : Env} {s : State} {m : MethodId} {args : Array Value} {below : List Frame} {meth : Method} {c : Code} {Q : State → Prop} {D : va_G} {kc : Nat → ClassId} {ad : Nat → Nat} {A : Nat → Prop} (C : Cx eM p s m args c cX11_age 5 RX11 D kc A) {R : Int32 × St} {x1 : Int32} {x2 : Int32} {x3 : Int32} {x4 : Int32} {σ : St} (hR : RTi 0 0 p l e r_X11_age s m args below meth c cX11_age tM kc ad D A Q .boolean R.1 R.2) {H : Heap} {locs : List Loc} {ls : Array Slot} (Z : Dy tM kc ad D A s.heap σ H locs) (hl : lv_has ls 5 [(0, .ref (ad 0)), (1, .int x1), (2, .int x2), (3, .int x3), (4, .int x4)]) (h : f_X11_age x1 x2 x3 x4 σ = some R) : W p l e r_X11_age s m args below meth c H locs 0 0 Q (F0 m 0 ls []) := by
  have hx := C.1.1
  have hb := C.1.2.1
  unfold f_X11_age at h
  refine lv_iload_n hx hb dX11_age_0 rfl (lv_at hl 1 rfl) ?_
  refine lv_i2l (v := x1.toInt64) hx hb dX11_age_1 rfl ?_
  refine lv_lconst (v := 0) hx hb dX11_age_2 (by decide) ?_
  refine lv_ldc2 (v := 7) hx hb C.1.2.2.2.1 (C.1.2.2.2.2 _ wDL_X11_552) dX11_age_3 ?_
  refine g_callSi eM_ok C Z (k_X11_in x1.toInt64 0 7 σ) lk_X11_233 hl (by decide) rfl (Nat.le_of_ble_eq_true rfl) (rest := []) rfl dX11_age_6 (fun H locs Z => ?_)
  refine lv_if_eq (tgt := 49) hx hb dX11_age_9 (by decide) (fun c9 => ?_) (fun c9 => ?_)
  · have h := ip h c9
    refine lv_iconst (v := 0) hx hb dX11_age_49 (by decide) ?_
    obtain rfl := Option.some.inj h
    exact hR _ _ _ _ _ Z dX11_age_50 rfl
  · have h := im h c9
    refine lv_iload_n hx hb dX11_age_12 rfl (lv_at hl 2 rfl) ?_
    refine lv_i2l (v := x2.toInt64) hx hb dX11_age_13 rfl ?_
    refine lv_lconst (v := 0) hx hb dX11_age_14 (by decide) ?_
    refine lv_ldc2 (v := 999999) hx hb C.1.2.2.2.1 (C.1.2.2.2.2 _ wDL_X11_554) dX11_age_15 ?_
    refine g_callSi eM_ok C Z (k_X11_in x2.toInt64 0 999999 σ) lk_X11_233 hl (by decide) rfl (Nat.le_of_ble_eq_true rfl) (rest := []) rfl dX11_age_18 (fun H locs Z => ?_)
    refine lv_if_eq (tgt := 49) hx hb dX11_age_21 (by decide) (fun c21 => ?_) (fun c21 => ?_)
    · have h := ip h c21
      refine lv_iconst (v := 0) hx hb dX11_age_49 (by decide) ?_
      obtain rfl := Option.some.inj h
      exact hR _ _ _ _ _ Z dX11_age_50 rfl
    · have h := im h c21
      refine lv_iload_n hx hb dX11_age_24 rfl (lv_at hl 3 rfl) ?_
      refine lv_i2l (v := x3.toInt64) hx hb dX11_age_25 rfl ?_
      refine lv_lconst (v := 0) hx hb dX11_age_26 (by decide) ?_
      refine lv_ldc2 (v := 199) hx hb C.1.2.2.2.1 (C.1.2.2.2.2 _ wDL_X11_259) dX11_age_27 ?_
      refine g_callSi eM_ok C Z (k_X11_in x3.toInt64 0 199 σ) lk_X11_233 hl (by decide) rfl (Nat.le_of_ble_eq_true rfl) (rest := []) rfl dX11_age_30 (fun H locs Z => ?_)
      refine lv_if_eq (tgt := 49) hx hb dX11_age_33 (by decide) (fun c33 => ?_) (fun c33 => ?_)
      · have h := ip h c33
        refine lv_iconst (v := 0) hx hb dX11_age_49 (by decide) ?_
        obtain rfl := Option.some.inj h
        exact hR _ _ _ _ _ Z dX11_age_50 rfl
      · have h := im h c33
        refine lv_iload hx hb dX11_age_36 (lv_at hl 4 rfl) ?_
        refine lv_i2l (v := x4.toInt64) hx hb dX11_age_38 rfl ?_
        refine lv_lconst (v := 0) hx hb dX11_age_39 (by decide) ?_
        refine lv_ldc2 (v := 999) hx hb C.1.2.2.2.1 (C.1.2.2.2.2 _ wDL_X11_246) dX11_age_40 ?_
        refine g_callSi eM_ok C Z (k_X11_in x4.toInt64 0 999 σ) lk_X11_233 hl (by decide) rfl (Nat.le_of_ble_eq_true rfl) (rest := []) rfl dX11_age_43 (fun H locs Z => ?_)
        refine lv_if_ne (tgt := 51) hx hb dX11_age_46 (by decide) (fun c46 => ?_) (fun c46 => ?_)
        · have h := im h c46
          refine lv_aload_n hx hb dX11_age_51 rfl (lv_at hl 0 rfl) ?_
          refine rg_X11_174 C Z dX11_age_52 ?_
          refine lv_iload_n hx hb dX11_age_55 rfl (lv_at hl 1 rfl) ?_
          refine lv_iload_n hx hb dX11_age_56 rfl (lv_at hl 2 rfl) ?_
          obtain ⟨σ7, hσ7, h⟩ := ob h
          refine g_iast C Z iaM44 hσ7 dX11_age_57 (fun H locs Z => ?_)
          refine lv_aload_n hx hb dX11_age_58 rfl (lv_at hl 0 rfl) ?_
          refine rg_X11_177 C Z dX11_age_59 ?_
          refine lv_iload_n hx hb dX11_age_62 rfl (lv_at hl 1 rfl) ?_
          refine lv_iload_n hx hb dX11_age_63 rfl (lv_at hl 3 rfl) ?_
          obtain ⟨σ8, hσ8, h⟩ := ob h
          refine g_iast C Z iaM45 hσ8 dX11_age_64 (fun H locs Z => ?_)
          refine lv_aload_n hx hb dX11_age_65 rfl (lv_at hl 0 rfl) ?_
          refine rg_X11_180 C Z dX11_age_66 ?_
          refine lv_iload_n hx hb dX11_age_69 rfl (lv_at hl 1 rfl) ?_
          refine lv_iload hx hb dX11_age_70 (lv_at hl 4 rfl) ?_
          obtain ⟨σ9, hσ9, h⟩ := ob h
          refine g_iast C Z iaM46 hσ9 dX11_age_72 (fun H locs Z => ?_)
          refine lv_iconst (v := 1) hx hb dX11_age_73 (by decide) ?_
          obtain rfl := Option.some.inj h
          exact hR _ _ _ _ _ Z dX11_age_74 rfl
        · have h := ip h c46
          refine lv_iconst (v := 0) hx hb dX11_age_49 (by decide) ?_
          obtain rfl := Option.some.inj h
          exact hR _ _ _ _ _ Z dX11_age_50 rfl
theorem k_X11_age {l : Launch} {kc : Nat → ClassId} {ad : Nat → Nat} {D : va_G} {x1 : Int32} {x2 : Int32} {x3 : Int32} {x4 : Int32} {σ : St} {R : Int32 × St} (h : f_X11_age x1 x2 x3 x4 σ = some R) : KC eM tM kc ad D l yX11_age (.code yX11_age cX11_age 5 (some .boolean)) r_X11_age [.ref (ad 0), .int x1, .int x2, .int x3, .int x4] (some (.int R.1)) σ R.2 := by
  refine g_enter (by decide) (Nat.le_of_ble_eq_true rfl) ?_
  intro p e s m args below meth c A hA C hr hlocks Z ls hl
  have hl : lv_has ls 5 [(0, .ref (ad 0)), (1, .int x1), (2, .int x2), (3, .int x3), (4, .int x4)] := hl
  exact w_X11_age_0 C (g_RTi C.1.1 C.1.2.1 hr hlocks hA)  Z hl h
def r_X11_asToday : Room := { frames := 0, cells := 0, slots := 0, locals := 0 }
set_option maxRecDepth 20000 in
theorem w_X11_asToday_2 {p : Program} {l : Launch} {e : Env} {s : State} {m : MethodId} {args : Array Value} {below : List Frame} {meth : Method} {c : Code} {Q : State → Prop} {D : va_G} {kc : Nat → ClassId} {ad : Nat → Nat} {A : Nat → Prop} (C : Cx eM p s m args c cX11_asToday 3 RX11 D kc A) {R : St} {x1 : Int32} (hR : RTv 0 0 p l e r_X11_asToday s m args below meth c cX11_asToday tM kc ad D A Q R) : ∀ (n : Nat) (x2 : Int32) (σ : St) (H : Heap) (locs : List Loc) (ls : Array Slot), Dy tM kc ad D A s.heap σ H locs → lv_has ls 3 [(0, .ref (ad 0)), (1, .int x1), (2, .int x2)] → f_X11_asToday_2 x1 n x2 σ = some R → W p l e r_X11_asToday s m args below meth c H locs 0 0 Q (F0 m 2 ls []) := by
  have hx := C.1.1
  have hb := C.1.2.1
  intro n
  induction n with
  | zero =>
    intro x2 σ H locs ls Z hl h
    exact absurd (show none = some R from h) (by simp)
  | succ n ih =>
    intro x2 σ H locs ls Z hl h
    rw [f_X11_asToday_2] at h
    refine lv_iload_n hx hb dX11_asToday_2 rfl (lv_at hl 2 rfl) ?_
    refine lv_bipush (v := 8) hx hb dX11_asToday_3 (by decide) ?_
    refine lv_icmp_ge (tgt := 29) hx hb dX11_asToday_5 (by decide) (fun c5 => ?_) (fun c5 => ?_)
    · have h := ip h c5
      obtain rfl := Option.some.inj h
      exact hR _ _ _ _ Z dX11_asToday_29
    · have h := im h c5
      refine lv_aload_n hx hb dX11_asToday_8 rfl (lv_at hl 0 rfl) ?_
      refine rg_X11_183 C Z dX11_asToday_9 ?_
      refine lv_iload_n hx hb dX11_asToday_12 rfl (lv_at hl 1 rfl) ?_
      refine lv_iload_n hx hb dX11_asToday_13 rfl (lv_at hl 2 rfl) ?_
      refine lv_iadd hx hb dX11_asToday_14 ?_
      refine lv_aload_n hx hb dX11_asToday_15 rfl (lv_at hl 0 rfl) ?_
      refine rg_X11_174 C Z dX11_asToday_16 ?_
      refine lv_iload_n hx hb dX11_asToday_19 rfl (lv_at hl 2 rfl) ?_
      obtain ⟨v7, hv7, h⟩ := ob h
      refine g_iald C Z iaM44 hv7 dX11_asToday_20 ?_
      refine lv_i2l (v := v7.toInt64) hx hb dX11_asToday_21 rfl ?_
      obtain ⟨σ8, hσ8, h⟩ := ob h
      refine g_last C Z iaM47 hσ8 dX11_asToday_22 (fun H locs Z => ?_)
      obtain ⟨v9, ev9, h⟩ := lb h
      refine lv_iinc (v := v9) (lv' := [(2, .int v9), (0, .ref (ad 0)), (1, .int x1)]) hx hb dX11_asToday_23 hl (k := 2) rfl (by rw [ev9]; rfl) (by decide) rfl (fun ls hl => ?_)
      refine lv_goto (tgt := 2) hx hb dX11_asToday_26 (by decide) ?_
      exact ih _ _ _ _ _ Z (lv_sub hl [1, 2, 0] rfl) h
set_option maxRecDepth 20000 in
theorem w_X11_asToday_0 {p : Program} {l : Launch} {e : Env} {s : State} {m : MethodId} {args : Array Value} {below : List Frame} {meth : Method} {c : Code} {Q : State → Prop} {D : va_G} {kc : Nat → ClassId} {ad : Nat → Nat} {A : Nat → Prop} (C : Cx eM p s m args c cX11_asToday 3 RX11 D kc A) {R : St} {x1 : Int32} {σ : St} (hR : RTv 0 0 p l e r_X11_asToday s m args below meth c cX11_asToday tM kc ad D A Q R) {H : Heap} {locs : List Loc} {ls : Array Slot} (Z : Dy tM kc ad D A s.heap σ H locs) (hl : lv_has ls 3 [(0, .ref (ad 0)), (1, .int x1)]) (h : f_X11_asToday x1 σ = some R) : W p l e r_X11_asToday s m args below meth c H locs 0 0 Q (F0 m 0 ls []) := by
  have hx := C.1.1
  have hb := C.1.2.1
  unfold f_X11_asToday at h
  refine lv_iconst (v := 0) hx hb dX11_asToday_0 (by decide) ?_
  refine lv_istore_n (lv' := [(2, .int 0), (0, .ref (ad 0)), (1, .int x1)]) hx hb dX11_asToday_1 rfl hl (by decide) rfl (fun ls hl => ?_)
  exact w_X11_asToday_2 C hR _ _ _ _ _ _ Z (lv_sub hl [1, 2, 0] rfl) h
theorem k_X11_asToday {l : Launch} {kc : Nat → ClassId} {ad : Nat → Nat} {D : va_G} {x1 : Int32} {σ : St} {R : St} (h : f_X11_asToday x1 σ = some R) : KC eM tM kc ad D l yX11_asToday (.code yX11_asToday cX11_asToday 3 none) r_X11_asToday [.ref (ad 0), .int x1] none σ R := by
  refine g_enter (by decide) (Nat.le_of_ble_eq_true rfl) ?_
  intro p e s m args below meth c A hA C hr hlocks Z ls hl
  have hl : lv_has ls 3 [(0, .ref (ad 0)), (1, .int x1)] := hl
  exact w_X11_asToday_0 C (g_RTv C.1.1 C.1.2.1 hr hlocks hA)  Z hl h
def r_X11_fishes : Room := { frames := 0, cells := 0, slots := 0, locals := 0 }
set_option maxRecDepth 20000 in
theorem w_X11_fishes_144 {p : Program} {l : Launch} {e : Env} {s : State} {m : MethodId} {args : Array Value} {below : List Frame} {meth : Method} {c : Code} {Q : State → Prop} {D : va_G} {kc : Nat → ClassId} {ad : Nat → Nat} {A : Nat → Prop} (C : Cx eM p s m args c cX11_fishes 15 RX11 D kc A) {R : Int64 × St} {x1 : Int32} {x2 : Int32} {x3 : Int32} {x4 : Int32} {x5 : Int32} {x6 : Int64} {x8 : Int32} {σ : St} (hR : RTl 0 0 p l e r_X11_fishes s m args below meth c cX11_fishes tM kc ad D A Q R.1 R.2) {k7 : Int64 → Int32 → St → Option (Int64 × St)} (hk7 : ∀ (x6 : Int64) (x8 : Int32) (σ : St) (H : Heap) (locs : List Loc) (ls : Array Slot), Dy tM kc ad D A s.heap σ H locs → lv_has ls 15 [(0, .ref (ad 0)), (1, .int x1), (2, .int x2), (3, .int x3), (4, .int x4), (5, .int x5), (6, .long x6), (8, .int x8)] → k7 x6 x8 σ = some R → W p l e r_X11_fishes s m args below meth c H locs 0 0 Q (F0 m 7 ls [])) {H : Heap} {locs : List Loc} {ls : Array Slot} (Z : Dy tM kc ad D A s.heap σ H locs) (hl : lv_has ls 15 [(0, .ref (ad 0)), (1, .int x1), (2, .int x2), (3, .int x3), (4, .int x4), (5, .int x5), (6, .long x6), (8, .int x8)]) (h : f_X11_fishes_144 x1 x2 x3 x4 x5 x6 x8 σ k7 = some R) : W p l e r_X11_fishes s m args below meth c H locs 0 0 Q (F0 m 144 ls []) := by
  have hx := C.1.1
  have hb := C.1.2.1
  unfold f_X11_fishes_144 at h
  obtain ⟨v35, ev35, h⟩ := lb h
  refine lv_iinc (v := v35) (lv' := [(8, .int v35), (0, .ref (ad 0)), (1, .int x1), (2, .int x2), (3, .int x3), (4, .int x4), (5, .int x5), (6, .long x6)]) hx hb dX11_fishes_144 hl (k := 7) rfl (by rw [ev35]; rfl) (by decide) rfl (fun ls hl => ?_)
  refine lv_goto (tgt := 7) hx hb dX11_fishes_147 (by decide) ?_
  exact hk7 _ _ _ _ _ _ Z (lv_sub hl [1, 2, 3, 4, 5, 6, 7, 0] rfl) h
set_option maxRecDepth 20000 in
theorem w_X11_fishes_47 {p : Program} {l : Launch} {e : Env} {s : State} {m : MethodId} {args : Array Value} {below : List Frame} {meth : Method} {c : Code} {Q : State → Prop} {D : va_G} {kc : Nat → ClassId} {ad : Nat → Nat} {A : Nat → Prop} (C : Cx eM p s m args c cX11_fishes 15 RX11 D kc A) {R : Int64 × St} {x1 : Int32} {x2 : Int32} {x3 : Int32} {x4 : Int32} {x5 : Int32} {x6 : Int64} {x8 : Int32} {x9 : Int64} {y0 : Int64} {σ : St} (hR : RTl 0 0 p l e r_X11_fishes s m args below meth c cX11_fishes tM kc ad D A Q R.1 R.2) {k7 : Int64 → Int32 → St → Option (Int64 × St)} (hk7 : ∀ (x6 : Int64) (x8 : Int32) (σ : St) (H : Heap) (locs : List Loc) (ls : Array Slot), Dy tM kc ad D A s.heap σ H locs → lv_has ls 15 [(0, .ref (ad 0)), (1, .int x1), (2, .int x2), (3, .int x3), (4, .int x4), (5, .int x5), (6, .long x6), (8, .int x8)] → k7 x6 x8 σ = some R → W p l e r_X11_fishes s m args below meth c H locs 0 0 Q (F0 m 7 ls [])) {H : Heap} {locs : List Loc} {ls : Array Slot} (Z : Dy tM kc ad D A s.heap σ H locs) (hl : lv_has ls 15 [(0, .ref (ad 0)), (1, .int x1), (2, .int x2), (3, .int x3), (4, .int x4), (5, .int x5), (6, .long x6), (8, .int x8), (9, .long x9)]) (h : f_X11_fishes_47 x1 x2 x3 x4 x5 x6 x8 x9 y0 σ k7 = some R) : W p l e r_X11_fishes s m args below meth c H locs 0 0 Q (F0 m 47 ls [.long y0]) := by
  have hx := C.1.1
  have hb := C.1.2.1
  unfold f_X11_fishes_47 at h
  refine lv_lstore (lv' := [(11, .long y0), (0, .ref (ad 0)), (1, .int x1), (2, .int x2), (3, .int x3), (4, .int x4), (5, .int x5), (6, .long x6), (8, .int x8), (9, .long x9)]) hx hb dX11_fishes_47 hl (by decide) rfl (fun ls hl => ?_)
  refine lv_lload hx hb dX11_fishes_49 (lv_at hl 7 rfl) ?_
  refine lv_lload hx hb dX11_fishes_51 (lv_at hl 0 rfl) ?_
  refine lv_aload_n hx hb dX11_fishes_53 rfl (lv_at hl 1 rfl) ?_
  refine rg_X11_180 C Z dX11_fishes_54 ?_
  refine lv_iload hx hb dX11_fishes_57 (lv_at hl 8 rfl) ?_
  obtain ⟨v27, hv27, h⟩ := ob h
  refine g_iald C Z iaM46 hv27 dX11_fishes_59 ?_
  refine lv_i2l (v := v27.toInt64) hx hb dX11_fishes_60 rfl ?_
  refine lv_lmul hx hb dX11_fishes_61 ?_
  refine lv_ladd hx hb dX11_fishes_62 ?_
  obtain ⟨v28, ev28, h⟩ := lb h
  refine tn_l ev28 ?_
  refine lv_lstore (lv' := [(6, .long v28), (11, .long y0), (0, .ref (ad 0)), (1, .int x1), (2, .int x2), (3, .int x3), (4, .int x4), (5, .int x5), (8, .int x8), (9, .long x9)]) hx hb dX11_fishes_63 hl (by decide) rfl (fun ls hl => ?_)
  refine lv_lload hx hb dX11_fishes_65 (lv_at hl 9 rfl) ?_
  refine lv_lload hx hb dX11_fishes_67 (lv_at hl 1 rfl) ?_
  refine lv_lsub hx hb dX11_fishes_69 ?_
  refine lv_sipush (v := 1000) hx hb dX11_fishes_70 (by decide) ?_
  refine lv_iload hx hb dX11_fishes_73 (lv_at hl 6 rfl) ?_
  refine lv_isub hx hb dX11_fishes_75 ?_
  refine lv_i2l (v := (1000 - x4).toInt64) hx hb dX11_fishes_76 rfl ?_
  refine lv_lmul hx hb dX11_fishes_77 ?_
  refine lv_ldc2 (v := 1000) hx hb C.1.2.2.2.1 (C.1.2.2.2.2 _ wDL_X11_540) dX11_fishes_78 ?_
  refine lv_ldiv hx hb dX11_fishes_81 (by decide) ?_
  obtain ⟨v29, ev29, h⟩ := lb h
  refine tn_l ev29 ?_
  refine lv_lstore (lv' := [(13, .long v29), (6, .long v28), (11, .long y0), (0, .ref (ad 0)), (1, .int x1), (2, .int x2), (3, .int x3), (4, .int x4), (5, .int x5), (8, .int x8), (9, .long x9)]) hx hb dX11_fishes_82 hl (by decide) rfl (fun ls hl => ?_)
  refine lv_iload hx hb dX11_fishes_84 (lv_at hl 9 rfl) ?_
  refine lv_bipush (v := 7) hx hb dX11_fishes_86 (by decide) ?_
  refine lv_icmp_ne (tgt := 105) hx hb dX11_fishes_88 (by decide) (fun c88 => ?_) (fun c88 => ?_)
  · have h := im h c88
    refine lv_iload hx hb dX11_fishes_105 (lv_at hl 9 rfl) ?_
    refine lv_bipush (v := 6) hx hb dX11_fishes_107 (by decide) ?_
    refine lv_icmp_ne (tgt := 131) hx hb dX11_fishes_109 (by decide) (fun c109 => ?_) (fun c109 => ?_)
    · have h := im h c109
      refine lv_aload_n hx hb dX11_fishes_131 rfl (lv_at hl 3 rfl) ?_
      refine rg_X11_183 C Z dX11_fishes_132 ?_
      refine lv_iload_n hx hb dX11_fishes_135 rfl (lv_at hl 4 rfl) ?_
      refine lv_iload hx hb dX11_fishes_136 (lv_at hl 9 rfl) ?_
      refine lv_iadd hx hb dX11_fishes_138 ?_
      refine lv_iconst (v := 1) hx hb dX11_fishes_139 (by decide) ?_
      refine lv_iadd hx hb dX11_fishes_140 ?_
      refine lv_lload hx hb dX11_fishes_141 (lv_at hl 0 rfl) ?_
      obtain ⟨σ30, hσ30, h⟩ := ob h
      refine g_last C Z iaM47 hσ30 dX11_fishes_143 (fun H locs Z => ?_)
      exact w_X11_fishes_144 C hR hk7 Z (lv_sub hl [3, 4, 5, 6, 7, 8, 1, 9] rfl) h
    · have h := ip h c109
      refine lv_aload_n hx hb dX11_fishes_112 rfl (lv_at hl 3 rfl) ?_
      refine rg_X11_183 C Z dX11_fishes_113 ?_
      refine lv_iload_n hx hb dX11_fishes_116 rfl (lv_at hl 4 rfl) ?_
      refine lv_iload hx hb dX11_fishes_117 (lv_at hl 9 rfl) ?_
      refine lv_iadd hx hb dX11_fishes_119 ?_
      refine lv_iconst (v := 1) hx hb dX11_fishes_120 (by decide) ?_
      refine lv_iadd hx hb dX11_fishes_121 ?_
      obtain ⟨v31, ev31, h⟩ := lb h
      refine tn_i ev31 ?_
      refine lv_dup2_11 hx hb dX11_fishes_122 rfl rfl ?_
      obtain ⟨v32, hv32, h⟩ := ob h
      refine g_lald C Z iaM47 hv32 dX11_fishes_123 ?_
      refine lv_lload hx hb dX11_fishes_124 (lv_at hl 0 rfl) ?_
      refine lv_ladd hx hb dX11_fishes_126 ?_
      obtain ⟨σ33, hσ33, h⟩ := ob h
      refine g_last C Z iaM47 hσ33 dX11_fishes_127 (fun H locs Z => ?_)
      refine lv_goto (tgt := 144) hx hb dX11_fishes_128 (by decide) ?_
      exact w_X11_fishes_144 C hR hk7 Z (lv_sub hl [3, 4, 5, 6, 7, 8, 1, 9] rfl) h
  · have h := ip h c88
    refine lv_aload_n hx hb dX11_fishes_91 rfl (lv_at hl 3 rfl) ?_
    refine rg_X11_183 C Z dX11_fishes_92 ?_
    refine lv_iload_n hx hb dX11_fishes_95 rfl (lv_at hl 4 rfl) ?_
    refine lv_iload hx hb dX11_fishes_96 (lv_at hl 9 rfl) ?_
    refine lv_iadd hx hb dX11_fishes_98 ?_
    refine lv_lload hx hb dX11_fishes_99 (lv_at hl 0 rfl) ?_
    obtain ⟨σ34, hσ34, h⟩ := ob h
    refine g_last C Z iaM47 hσ34 dX11_fishes_101 (fun H locs Z => ?_)
    refine lv_goto (tgt := 144) hx hb dX11_fishes_102 (by decide) ?_
    exact w_X11_fishes_144 C hR hk7 Z (lv_sub hl [3, 4, 5, 6, 7, 8, 1, 9] rfl) h
set_option maxRecDepth 20000 in
theorem w_X11_fishes_150 {p : Program} {l : Launch} {e : Env} {s : State} {m : MethodId} {args : Array Value} {below : List Frame} {meth : Method} {c : Code} {Q : State → Prop} {D : va_G} {kc : Nat → ClassId} {ad : Nat → Nat} {A : Nat → Prop} (C : Cx eM p s m args c cX11_fishes 15 RX11 D kc A) {R : Int64 × St} {x1 : Int32} {x5 : Int32} {x6 : Int64} {σ : St} (hR : RTl 0 0 p l e r_X11_fishes s m args below meth c cX11_fishes tM kc ad D A Q R.1 R.2) {H : Heap} {locs : List Loc} {ls : Array Slot} (Z : Dy tM kc ad D A s.heap σ H locs) (hl : lv_has ls 15 [(0, .ref (ad 0)), (1, .int x1), (5, .int x5), (6, .long x6)]) (h : f_X11_fishes_150 x1 x5 x6 σ = some R) : W p l e r_X11_fishes s m args below meth c H locs 0 0 Q (F0 m 150 ls []) := by
  have hx := C.1.1
  have hb := C.1.2.1
  unfold f_X11_fishes_150 at h
  refine lv_aload_n hx hb dX11_fishes_150 rfl (lv_at hl 0 rfl) ?_
  refine rg_X11_183 C Z dX11_fishes_151 ?_
  refine lv_iload_n hx hb dX11_fishes_154 rfl (lv_at hl 1 rfl) ?_
  refine lv_iload hx hb dX11_fishes_155 (lv_at hl 2 rfl) ?_
  refine lv_i2l (v := x5.toInt64) hx hb dX11_fishes_157 rfl ?_
  obtain ⟨σ36, hσ36, h⟩ := ob h
  refine g_last C Z iaM47 hσ36 dX11_fishes_158 (fun H locs Z => ?_)
  refine lv_lload hx hb dX11_fishes_159 (lv_at hl 3 rfl) ?_
  obtain rfl := Option.some.inj h
  exact hR _ _ _ _ Z dX11_fishes_161
set_option maxRecDepth 20000 in
theorem w_X11_fishes_7 {p : Program} {l : Launch} {e : Env} {s : State} {m : MethodId} {args : Array Value} {below : List Frame} {meth : Method} {c : Code} {Q : State → Prop} {D : va_G} {kc : Nat → ClassId} {ad : Nat → Nat} {A : Nat → Prop} (C : Cx eM p s m args c cX11_fishes 15 RX11 D kc A) {R : Int64 × St} {x1 : Int32} {x2 : Int32} {x3 : Int32} {x4 : Int32} {x5 : Int32} (hR : RTl 0 0 p l e r_X11_fishes s m args below meth c cX11_fishes tM kc ad D A Q R.1 R.2) : ∀ (n : Nat) (x6 : Int64) (x8 : Int32) (σ : St) (H : Heap) (locs : List Loc) (ls : Array Slot), Dy tM kc ad D A s.heap σ H locs → lv_has ls 15 [(0, .ref (ad 0)), (1, .int x1), (2, .int x2), (3, .int x3), (4, .int x4), (5, .int x5), (6, .long x6), (8, .int x8)] → f_X11_fishes_7 x1 x2 x3 x4 x5 n x6 x8 σ = some R → W p l e r_X11_fishes s m args below meth c H locs 0 0 Q (F0 m 7 ls []) := by
  have hx := C.1.1
  have hb := C.1.2.1
  intro n
  induction n with
  | zero =>
    intro x6 x8 σ H locs ls Z hl h
    exact absurd (show none = some R from h) (by simp)
  | succ n ih =>
    intro x6 x8 σ H locs ls Z hl h
    rw [f_X11_fishes_7] at h
    refine lv_iload hx hb dX11_fishes_7 (lv_at hl 7 rfl) ?_
    refine lv_if_lt (tgt := 150) hx hb dX11_fishes_9 (by decide) (fun c9 => ?_) (fun c9 => ?_)
    · have h := ip h c9
      exact w_X11_fishes_150 C hR Z (lv_sub hl [0, 1, 5, 6] rfl) h
    · have h := im h c9
      refine lv_aload_n hx hb dX11_fishes_12 rfl (lv_at hl 0 rfl) ?_
      refine rg_X11_183 C Z dX11_fishes_13 ?_
      refine lv_iload_n hx hb dX11_fishes_16 rfl (lv_at hl 1 rfl) ?_
      refine lv_iload hx hb dX11_fishes_17 (lv_at hl 7 rfl) ?_
      refine lv_iadd hx hb dX11_fishes_19 ?_
      obtain ⟨v25, hv25, h⟩ := ob h
      refine g_lald C Z iaM47 hv25 dX11_fishes_20 ?_
      refine lv_lstore (lv' := [(9, .long v25), (0, .ref (ad 0)), (1, .int x1), (2, .int x2), (3, .int x3), (4, .int x4), (5, .int x5), (6, .long x6), (8, .int x8)]) hx hb dX11_fishes_21 hl (by decide) rfl (fun ls hl => ?_)
      refine lv_aload_n hx hb dX11_fishes_23 rfl (lv_at hl 1 rfl) ?_
      refine rg_X11_177 C Z dX11_fishes_24 ?_
      refine lv_iload hx hb dX11_fishes_27 (lv_at hl 8 rfl) ?_
      obtain ⟨v26, hv26, h⟩ := ob h
      refine g_iald C Z iaM45 hv26 dX11_fishes_29 ?_
      refine lv_iload_n hx hb dX11_fishes_30 rfl (lv_at hl 3 rfl) ?_
      refine lv_icmp_ge (tgt := 38) hx hb dX11_fishes_31 (by decide) (fun c31 => ?_) (fun c31 => ?_)
      · have h := ip h c31
        refine lv_lload hx hb dX11_fishes_38 (lv_at hl 0 rfl) ?_
        refine lv_iload_n hx hb dX11_fishes_40 rfl (lv_at hl 4 rfl) ?_
        refine lv_i2l (v := x3.toInt64) hx hb dX11_fishes_41 rfl ?_
        refine lv_lmul hx hb dX11_fishes_42 ?_
        refine lv_ldc2 (v := 1000) hx hb C.1.2.2.2.1 (C.1.2.2.2.2 _ wDL_X11_540) dX11_fishes_43 ?_
        refine lv_ldiv hx hb dX11_fishes_46 (by decide) ?_
        exact w_X11_fishes_47 C hR ih Z (lv_sub hl [1, 2, 3, 4, 5, 6, 7, 8, 0] rfl) h
      · have h := im h c31
        refine lv_lconst (v := 0) hx hb dX11_fishes_34 (by decide) ?_
        refine lv_goto (tgt := 47) hx hb dX11_fishes_35 (by decide) ?_
        exact w_X11_fishes_47 C hR ih Z (lv_sub hl [1, 2, 3, 4, 5, 6, 7, 8, 0] rfl) h
set_option maxRecDepth 20000 in
theorem w_X11_fishes_0 {p : Program} {l : Launch} {e : Env} {s : State} {m : MethodId} {args : Array Value} {below : List Frame} {meth : Method} {c : Code} {Q : State → Prop} {D : va_G} {kc : Nat → ClassId} {ad : Nat → Nat} {A : Nat → Prop} (C : Cx eM p s m args c cX11_fishes 15 RX11 D kc A) {R : Int64 × St} {x1 : Int32} {x2 : Int32} {x3 : Int32} {x4 : Int32} {x5 : Int32} {σ : St} (hR : RTl 0 0 p l e r_X11_fishes s m args below meth c cX11_fishes tM kc ad D A Q R.1 R.2) {H : Heap} {locs : List Loc} {ls : Array Slot} (Z : Dy tM kc ad D A s.heap σ H locs) (hl : lv_has ls 15 [(0, .ref (ad 0)), (1, .int x1), (2, .int x2), (3, .int x3), (4, .int x4), (5, .int x5)]) (h : f_X11_fishes x1 x2 x3 x4 x5 σ = some R) : W p l e r_X11_fishes s m args below meth c H locs 0 0 Q (F0 m 0 ls []) := by
  have hx := C.1.1
  have hb := C.1.2.1
  unfold f_X11_fishes at h
  refine lv_lconst (v := 0) hx hb dX11_fishes_0 (by decide) ?_
  refine lv_lstore (lv' := [(6, .long 0), (0, .ref (ad 0)), (1, .int x1), (2, .int x2), (3, .int x3), (4, .int x4), (5, .int x5)]) hx hb dX11_fishes_1 hl (by decide) rfl (fun ls hl => ?_)
  refine lv_bipush (v := 7) hx hb dX11_fishes_3 (by decide) ?_
  refine lv_istore (lv' := [(8, .int 7), (6, .long 0), (0, .ref (ad 0)), (1, .int x1), (2, .int x2), (3, .int x3), (4, .int x4), (5, .int x5)]) hx hb dX11_fishes_5 hl (by decide) rfl (fun ls hl => ?_)
  exact w_X11_fishes_7 C hR _ _ _ _ _ _ _ Z (lv_sub hl [2, 3, 4, 5, 6, 7, 1, 0] rfl) h
theorem k_X11_fishes {l : Launch} {kc : Nat → ClassId} {ad : Nat → Nat} {D : va_G} {x1 : Int32} {x2 : Int32} {x3 : Int32} {x4 : Int32} {x5 : Int32} {σ : St} {R : Int64 × St} (h : f_X11_fishes x1 x2 x3 x4 x5 σ = some R) : KC eM tM kc ad D l yX11_fishes (.code yX11_fishes cX11_fishes 15 (some .long)) r_X11_fishes [.ref (ad 0), .int x1, .int x2, .int x3, .int x4, .int x5] (some (.long R.1)) σ R.2 := by
  refine g_enter (by decide) (Nat.le_of_ble_eq_true rfl) ?_
  intro p e s m args below meth c A hA C hr hlocks Z ls hl
  have hl : lv_has ls 15 [(0, .ref (ad 0)), (1, .int x1), (2, .int x2), (3, .int x3), (4, .int x4), (5, .int x5)] := hl
  exact w_X11_fishes_0 C (g_RTl C.1.1 C.1.2.1 hr hlocks hA)  Z hl h
def r_X11_isFishing : Room := { frames := 1, cells := 0, slots := 0, locals := 25 }
set_option maxRecDepth 20000 in
theorem w_X11_isFishing_52 {p : Program} {l : Launch} {e : Env} {s : State} {m : MethodId} {args : Array Value} {below : List Frame} {meth : Method} {c : Code} {Q : State → Prop} {D : va_G} {kc : Nat → ClassId} {ad : Nat → Nat} {A : Nat → Prop} (C : Cx eM p s m args c cX11_isFishing 4 RX11 D kc A) {R : Int32} {σ : St} (hR : RTi 0 0 p l e r_X11_isFishing s m args below meth c cX11_isFishing tM kc ad D A Q .boolean R σ) {H : Heap} {locs : List Loc} {ls : Array Slot} (Z : Dy tM kc ad D A s.heap σ H locs) (hl : lv_has ls 4 []) (h : f_X11_isFishing_52 = R) : W p l e r_X11_isFishing s m args below meth c H locs 0 0 Q (F0 m 52 ls []) := by
  have hx := C.1.1
  have hb := C.1.2.1
  unfold f_X11_isFishing_52 at h
  refine lv_iconst (v := 0) hx hb dX11_isFishing_52 (by decide) ?_
  subst h
  exact hR _ _ _ _ _ Z dX11_isFishing_53 rfl
set_option maxRecDepth 20000 in
theorem w_X11_isFishing_0 {p : Program} {l : Launch} {e : Env} {s : State} {m : MethodId} {args : Array Value} {below : List Frame} {meth : Method} {c : Code} {Q : State → Prop} {D : va_G} {kc : Nat → ClassId} {ad : Nat → Nat} {A : Nat → Prop} (C : Cx eM p s m args c cX11_isFishing 4 RX11 D kc A) {R : Int32} {x0 : Int32} {x1 : Int32} {x2 : Int32} {x3 : Int32} {σ : St} (hR : RTi 0 0 p l e r_X11_isFishing s m args below meth c cX11_isFishing tM kc ad D A Q .boolean R σ) {H : Heap} {locs : List Loc} {ls : Array Slot} (Z : Dy tM kc ad D A s.heap σ H locs) (hl : lv_has ls 4 [(0, .int x0), (1, .int x1), (2, .int x2), (3, .int x3)]) (h : f_X11_isFishing x0 x1 x2 x3 = R) : W p l e r_X11_isFishing s m args below meth c H locs 0 0 Q (F0 m 0 ls []) := by
  have hx := C.1.1
  have hb := C.1.2.1
  unfold f_X11_isFishing at h
  refine lv_iload_n hx hb dX11_isFishing_0 rfl (lv_at hl 0 rfl) ?_
  refine lv_i2l (v := x0.toInt64) hx hb dX11_isFishing_1 rfl ?_
  refine lv_lconst (v := 0) hx hb dX11_isFishing_2 (by decide) ?_
  refine lv_ldc2 (v := 199) hx hb C.1.2.2.2.1 (C.1.2.2.2.2 _ wDL_X11_259) dX11_isFishing_3 ?_
  refine g_callSi eM_ok C Z (k_X11_in x0.toInt64 0 199 σ) lk_X11_233 hl (by decide) rfl (Nat.le_of_ble_eq_true rfl) (rest := []) rfl dX11_isFishing_6 (fun H locs Z => ?_)
  refine lv_if_eq (tgt := 52) hx hb dX11_isFishing_9 (by decide) (fun c9 => ?_) (fun c9 => ?_)
  · have h := ip h c9
    exact w_X11_isFishing_52 C hR Z (lv_sub hl [] rfl) h
  · have h := im h c9
    refine lv_iload_n hx hb dX11_isFishing_12 rfl (lv_at hl 1 rfl) ?_
    refine lv_i2l (v := x1.toInt64) hx hb dX11_isFishing_13 rfl ?_
    refine lv_lconst (v := 0) hx hb dX11_isFishing_14 (by decide) ?_
    refine lv_ldc2 (v := 1000) hx hb C.1.2.2.2.1 (C.1.2.2.2.2 _ wDL_X11_540) dX11_isFishing_15 ?_
    refine g_callSi eM_ok C Z (k_X11_in x1.toInt64 0 1000 σ) lk_X11_233 hl (by decide) rfl (Nat.le_of_ble_eq_true rfl) (rest := []) rfl dX11_isFishing_18 (fun H locs Z => ?_)
    refine lv_if_eq (tgt := 52) hx hb dX11_isFishing_21 (by decide) (fun c21 => ?_) (fun c21 => ?_)
    · have h := ip h c21
      exact w_X11_isFishing_52 C hR Z (lv_sub hl [] rfl) h
    · have h := im h c21
      refine lv_iload_n hx hb dX11_isFishing_24 rfl (lv_at hl 2 rfl) ?_
      refine lv_i2l (v := x2.toInt64) hx hb dX11_isFishing_25 rfl ?_
      refine lv_lconst (v := 0) hx hb dX11_isFishing_26 (by decide) ?_
      refine lv_ldc2 (v := 1000) hx hb C.1.2.2.2.1 (C.1.2.2.2.2 _ wDL_X11_540) dX11_isFishing_27 ?_
      refine g_callSi eM_ok C Z (k_X11_in x2.toInt64 0 1000 σ) lk_X11_233 hl (by decide) rfl (Nat.le_of_ble_eq_true rfl) (rest := []) rfl dX11_isFishing_30 (fun H locs Z => ?_)
      refine lv_if_eq (tgt := 52) hx hb dX11_isFishing_33 (by decide) (fun c33 => ?_) (fun c33 => ?_)
      · have h := ip h c33
        exact w_X11_isFishing_52 C hR Z (lv_sub hl [] rfl) h
      · have h := im h c33
        refine lv_iload_n hx hb dX11_isFishing_36 rfl (lv_at hl 3 rfl) ?_
        refine lv_i2l (v := x3.toInt64) hx hb dX11_isFishing_37 rfl ?_
        refine lv_lconst (v := 0) hx hb dX11_isFishing_38 (by decide) ?_
        refine lv_ldc2 (v := 999999) hx hb C.1.2.2.2.1 (C.1.2.2.2.2 _ wDL_X11_554) dX11_isFishing_39 ?_
        refine g_callSi eM_ok C Z (k_X11_in x3.toInt64 0 999999 σ) lk_X11_233 hl (by decide) rfl (Nat.le_of_ble_eq_true rfl) (rest := []) rfl dX11_isFishing_42 (fun H locs Z => ?_)
        refine lv_if_eq (tgt := 52) hx hb dX11_isFishing_45 (by decide) (fun c45 => ?_) (fun c45 => ?_)
        · have h := ip h c45
          exact w_X11_isFishing_52 C hR Z (lv_sub hl [] rfl) h
        · have h := im h c45
          refine lv_iconst (v := 1) hx hb dX11_isFishing_48 (by decide) ?_
          refine lv_goto (tgt := 53) hx hb dX11_isFishing_49 (by decide) ?_
          subst h
          exact hR _ _ _ _ _ Z dX11_isFishing_53 rfl
theorem k_X11_isFishing {l : Launch} {kc : Nat → ClassId} {ad : Nat → Nat} {D : va_G} (x0 : Int32) (x1 : Int32) (x2 : Int32) (x3 : Int32) (σ : St) : KC eM tM kc ad D l yX11_isFishing (.code yX11_isFishing cX11_isFishing 4 (some .boolean)) r_X11_isFishing [.int x0, .int x1, .int x2, .int x3] (some (.int (f_X11_isFishing x0 x1 x2 x3))) σ σ := by
  refine g_enter (by decide) (Nat.le_of_ble_eq_true rfl) ?_
  intro p e s m args below meth c A hA C hr hlocks Z ls hl
  have hl : lv_has ls 4 [(0, .int x0), (1, .int x1), (2, .int x2), (3, .int x3)] := hl
  exact w_X11_isFishing_0 C (g_RTi C.1.1 C.1.2.1 hr hlocks hA)  Z hl rfl
def r_X11_landed : Room := { frames := 2, cells := 0, slots := 0, locals := 48 }
set_option maxRecDepth 20000 in
theorem w_X11_landed_39 {p : Program} {l : Launch} {e : Env} {s : State} {m : MethodId} {args : Array Value} {below : List Frame} {meth : Method} {c : Code} {Q : State → Prop} {D : va_G} {kc : Nat → ClassId} {ad : Nat → Nat} {A : Nat → Prop} (C : Cx eM p s m args c cX11_landed 9 RX11 D kc A) {R : Int64 × St} {x1 : Int32} {x2 : Int32} {x3 : Int32} {x4 : Int32} {x5 : Int32} (hR : RTl 0 0 p l e r_X11_landed s m args below meth c cX11_landed tM kc ad D A Q R.1 R.2) : ∀ (n : Nat) (x6 : Int64) (x8 : Int32) (σ : St) (H : Heap) (locs : List Loc) (ls : Array Slot), Dy tM kc ad D A s.heap σ H locs → lv_has ls 9 [(0, .ref (ad 0)), (1, .int x1), (2, .int x2), (3, .int x3), (4, .int x4), (5, .int x5), (6, .long x6), (8, .int x8)] → f_X11_landed_39 x1 x2 x3 x4 x5 n x6 x8 σ = some R → W p l e r_X11_landed s m args below meth c H locs 0 0 Q (F0 m 39 ls []) := by
  have hx := C.1.1
  have hb := C.1.2.1
  intro n
  induction n with
  | zero =>
    intro x6 x8 σ H locs ls Z hl h
    exact absurd (show none = some R from h) (by simp)
  | succ n ih =>
    intro x6 x8 σ H locs ls Z hl h
    rw [f_X11_landed_39] at h
    refine lv_iload hx hb dX11_landed_39 (lv_at hl 7 rfl) ?_
    refine lv_iload_n hx hb dX11_landed_41 rfl (lv_at hl 1 rfl) ?_
    refine lv_icmp_ge (tgt := 67) hx hb dX11_landed_42 (by decide) (fun c42 => ?_) (fun c42 => ?_)
    · have h := ip h c42
      refine lv_lload hx hb dX11_landed_67 (lv_at hl 6 rfl) ?_
      obtain rfl := Option.some.inj h
      exact hR _ _ _ _ Z dX11_landed_69
    · have h := im h c42
      refine lv_lload hx hb dX11_landed_45 (lv_at hl 6 rfl) ?_
      refine lv_aload_n hx hb dX11_landed_47 rfl (lv_at hl 0 rfl) ?_
      refine lv_iconst (v := 0) hx hb dX11_landed_48 (by decide) ?_
      refine lv_iload_n hx hb dX11_landed_49 rfl (lv_at hl 2 rfl) ?_
      refine lv_iload_n hx hb dX11_landed_50 rfl (lv_at hl 3 rfl) ?_
      refine lv_iload hx hb dX11_landed_51 (lv_at hl 4 rfl) ?_
      refine lv_iload hx hb dX11_landed_53 (lv_at hl 5 rfl) ?_
      obtain ⟨u10, hu10, h⟩ := ob h
      refine g_callVl eM_ok C Z (k_X11_fishes hu10) lk_X11_564 (by decide) rfl rfl hl (by decide) rfl (Nat.le_of_ble_eq_true rfl) (rest := [.long x6]) rfl dX11_landed_55 (fun H locs Z => ?_)
      refine lv_ladd hx hb dX11_landed_58 ?_
      obtain ⟨v11, ev11, h⟩ := lb h
      refine tn_l ev11 ?_
      refine lv_lstore (lv' := [(6, .long v11), (0, .ref (ad 0)), (1, .int x1), (2, .int x2), (3, .int x3), (4, .int x4), (5, .int x5), (8, .int x8)]) hx hb dX11_landed_59 hl (by decide) rfl (fun ls hl => ?_)
      obtain ⟨v12, ev12, h⟩ := lb h
      refine lv_iinc (v := v12) (lv' := [(8, .int v12), (6, .long v11), (0, .ref (ad 0)), (1, .int x1), (2, .int x2), (3, .int x3), (4, .int x4), (5, .int x5)]) hx hb dX11_landed_61 hl (k := 7) rfl (by rw [ev12]; rfl) (by decide) rfl (fun ls hl => ?_)
      refine lv_goto (tgt := 39) hx hb dX11_landed_64 (by decide) ?_
      exact ih _ _ _ _ _ _ Z (lv_sub hl [2, 3, 4, 5, 6, 7, 1, 0] rfl) h
set_option maxRecDepth 20000 in
theorem w_X11_landed_0 {p : Program} {l : Launch} {e : Env} {s : State} {m : MethodId} {args : Array Value} {below : List Frame} {meth : Method} {c : Code} {Q : State → Prop} {D : va_G} {kc : Nat → ClassId} {ad : Nat → Nat} {A : Nat → Prop} (C : Cx eM p s m args c cX11_landed 9 RX11 D kc A) {R : Int64 × St} {x1 : Int32} {x2 : Int32} {x3 : Int32} {x4 : Int32} {x5 : Int32} {σ : St} (hR : RTl 0 0 p l e r_X11_landed s m args below meth c cX11_landed tM kc ad D A Q R.1 R.2) {H : Heap} {locs : List Loc} {ls : Array Slot} (Z : Dy tM kc ad D A s.heap σ H locs) (hl : lv_has ls 9 [(0, .ref (ad 0)), (1, .int x1), (2, .int x2), (3, .int x3), (4, .int x4), (5, .int x5)]) (h : f_X11_landed x1 x2 x3 x4 x5 σ = some R) : W p l e r_X11_landed s m args below meth c H locs 0 0 Q (F0 m 0 ls []) := by
  have hx := C.1.1
  have hb := C.1.2.1
  unfold f_X11_landed at h
  refine lv_iload_n hx hb dX11_landed_0 rfl (lv_at hl 1 rfl) ?_
  refine lv_i2l (v := x1.toInt64) hx hb dX11_landed_1 rfl ?_
  refine lv_lconst (v := 1) hx hb dX11_landed_2 (by decide) ?_
  refine lv_ldc2 (v := 30) hx hb C.1.2.2.2.1 (C.1.2.2.2.2 _ wDL_X11_556) dX11_landed_3 ?_
  refine g_callSi eM_ok C Z (k_X11_in x1.toInt64 1 30 σ) lk_X11_233 hl (by decide) rfl (Nat.le_of_ble_eq_true rfl) (rest := []) rfl dX11_landed_6 (fun H locs Z => ?_)
  refine lv_if_eq (tgt := 24) hx hb dX11_landed_9 (by decide) (fun c9 => ?_) (fun c9 => ?_)
  · have h := ip h c9
    refine lv_ldc2 (v := (-1)) hx hb C.1.2.2.2.1 (C.1.2.2.2.2 _ wDL_X11_314) dX11_landed_24 ?_
    obtain rfl := Option.some.inj h
    exact hR _ _ _ _ Z dX11_landed_27
  · have h := im h c9
    refine lv_iload_n hx hb dX11_landed_12 rfl (lv_at hl 2 rfl) ?_
    refine lv_iload_n hx hb dX11_landed_13 rfl (lv_at hl 3 rfl) ?_
    refine lv_iload hx hb dX11_landed_14 (lv_at hl 4 rfl) ?_
    refine lv_iload hx hb dX11_landed_16 (lv_at hl 5 rfl) ?_
    refine g_callSi eM_ok C Z (k_X11_isFishing x2 x3 x4 x5 σ) lk_X11_558 hl (by decide) rfl (Nat.le_of_ble_eq_true rfl) (rest := []) rfl dX11_landed_18 (fun H locs Z => ?_)
    refine lv_if_ne (tgt := 28) hx hb dX11_landed_21 (by decide) (fun c21 => ?_) (fun c21 => ?_)
    · have h := im h c21
      refine lv_aload_n hx hb dX11_landed_28 rfl (lv_at hl 0 rfl) ?_
      refine lv_iconst (v := 0) hx hb dX11_landed_29 (by decide) ?_
      obtain ⟨σ9, hσ9, h⟩ := ob h
      refine g_callVv eM_ok C Z (k_X11_asToday hσ9) lk_X11_561 (by decide) rfl rfl hl (by decide) rfl (Nat.le_of_ble_eq_true rfl) (rest := []) rfl dX11_landed_30 (fun H locs Z => ?_)
      refine lv_lconst (v := 0) hx hb dX11_landed_33 (by decide) ?_
      refine lv_lstore (lv' := [(6, .long 0), (0, .ref (ad 0)), (1, .int x1), (2, .int x2), (3, .int x3), (4, .int x4), (5, .int x5)]) hx hb dX11_landed_34 hl (by decide) rfl (fun ls hl => ?_)
      refine lv_iconst (v := 0) hx hb dX11_landed_36 (by decide) ?_
      refine lv_istore (lv' := [(8, .int 0), (6, .long 0), (0, .ref (ad 0)), (1, .int x1), (2, .int x2), (3, .int x3), (4, .int x4), (5, .int x5)]) hx hb dX11_landed_37 hl (by decide) rfl (fun ls hl => ?_)
      exact w_X11_landed_39 C hR _ _ _ _ _ _ _ Z (lv_sub hl [2, 3, 4, 5, 6, 7, 1, 0] rfl) h
    · have h := ip h c21
      refine lv_ldc2 (v := (-1)) hx hb C.1.2.2.2.1 (C.1.2.2.2.2 _ wDL_X11_314) dX11_landed_24 ?_
      obtain rfl := Option.some.inj h
      exact hR _ _ _ _ Z dX11_landed_27
theorem k_X11_landed {l : Launch} {kc : Nat → ClassId} {ad : Nat → Nat} {D : va_G} {x1 : Int32} {x2 : Int32} {x3 : Int32} {x4 : Int32} {x5 : Int32} {σ : St} {R : Int64 × St} (h : f_X11_landed x1 x2 x3 x4 x5 σ = some R) : KC eM tM kc ad D l yX11_landed (.code yX11_landed cX11_landed 9 (some .long)) r_X11_landed [.ref (ad 0), .int x1, .int x2, .int x3, .int x4, .int x5] (some (.long R.1)) σ R.2 := by
  refine g_enter (by decide) (Nat.le_of_ble_eq_true rfl) ?_
  intro p e s m args below meth c A hA C hr hlocks Z ls hl
  have hl : lv_has ls 9 [(0, .ref (ad 0)), (1, .int x1), (2, .int x2), (3, .int x3), (4, .int x4), (5, .int x5)] := hl
  exact w_X11_landed_0 C (g_RTl C.1.1 C.1.2.1 hr hlocks hA)  Z hl h
def r_X11_pays : Room := { frames := 2, cells := 0, slots := 0, locals := 48 }
set_option maxRecDepth 20000 in
theorem w_X11_pays_46 {p : Program} {l : Launch} {e : Env} {s : State} {m : MethodId} {args : Array Value} {below : List Frame} {meth : Method} {c : Code} {Q : State → Prop} {D : va_G} {kc : Nat → ClassId} {ad : Nat → Nat} {A : Nat → Prop} (C : Cx eM p s m args c cX11_pays 11 RX11 D kc A) {R : Int32 × St} {x1 : Int32} {x2 : Int32} {x3 : Int32} {x4 : Int32} {x5 : Int32} (hR : RTi 0 0 p l e r_X11_pays s m args below meth c cX11_pays tM kc ad D A Q .int R.1 R.2) : ∀ (n : Nat) (x6 : Int64) (x8 : Int64) (x10 : Int32) (σ : St) (H : Heap) (locs : List Loc) (ls : Array Slot), Dy tM kc ad D A s.heap σ H locs → lv_has ls 11 [(0, .ref (ad 0)), (1, .int x1), (2, .int x2), (3, .int x3), (4, .int x4), (5, .int x5), (6, .long x6), (8, .long x8), (10, .int x10)] → f_X11_pays_46 x1 x2 x3 x4 x5 n x6 x8 x10 σ = some R → W p l e r_X11_pays s m args below meth c H locs 0 0 Q (F0 m 46 ls []) := by
  have hx := C.1.1
  have hb := C.1.2.1
  intro n
  induction n with
  | zero =>
    intro x6 x8 x10 σ H locs ls Z hl h
    exact absurd (show none = some R from h) (by simp)
  | succ n ih =>
    intro x6 x8 x10 σ H locs ls Z hl h
    rw [f_X11_pays_46] at h
    refine lv_iload hx hb dX11_pays_46 (lv_at hl 8 rfl) ?_
    refine lv_bipush (v := 30) hx hb dX11_pays_48 (by decide) ?_
    refine lv_icmp_gt (tgt := 103) hx hb dX11_pays_50 (by decide) (fun c50 => ?_) (fun c50 => ?_)
    · have h := ip h c50
      refine lv_bipush (v := (-2)) hx hb dX11_pays_103 (by decide) ?_
      obtain rfl := Option.some.inj h
      exact hR _ _ _ _ _ Z dX11_pays_105 rfl
    · have h := im h c50
      refine lv_lload hx hb dX11_pays_53 (lv_at hl 6 rfl) ?_
      refine lv_aload_n hx hb dX11_pays_55 rfl (lv_at hl 0 rfl) ?_
      refine lv_iconst (v := 0) hx hb dX11_pays_56 (by decide) ?_
      refine lv_iload_n hx hb dX11_pays_57 rfl (lv_at hl 1 rfl) ?_
      refine lv_iload_n hx hb dX11_pays_58 rfl (lv_at hl 3 rfl) ?_
      refine lv_iload hx hb dX11_pays_59 (lv_at hl 4 rfl) ?_
      refine lv_iload hx hb dX11_pays_61 (lv_at hl 5 rfl) ?_
      obtain ⟨u17, hu17, h⟩ := ob h
      refine g_callVl eM_ok C Z (k_X11_fishes hu17) lk_X11_564 (by decide) rfl rfl hl (by decide) rfl (Nat.le_of_ble_eq_true rfl) (rest := [.long x6]) rfl dX11_pays_63 (fun H locs Z => ?_)
      refine lv_ladd hx hb dX11_pays_66 ?_
      obtain ⟨v18, ev18, h⟩ := lb h
      refine tn_l ev18 ?_
      refine lv_lstore (lv' := [(6, .long v18), (0, .ref (ad 0)), (1, .int x1), (2, .int x2), (3, .int x3), (4, .int x4), (5, .int x5), (8, .long x8), (10, .int x10)]) hx hb dX11_pays_67 hl (by decide) rfl (fun ls hl => ?_)
      refine lv_lload hx hb dX11_pays_69 (lv_at hl 7 rfl) ?_
      refine lv_aload_n hx hb dX11_pays_71 rfl (lv_at hl 1 rfl) ?_
      refine lv_bipush (v := 8) hx hb dX11_pays_72 (by decide) ?_
      refine lv_iload_n hx hb dX11_pays_74 rfl (lv_at hl 3 rfl) ?_
      refine lv_iload_n hx hb dX11_pays_75 rfl (lv_at hl 4 rfl) ?_
      refine lv_iload hx hb dX11_pays_76 (lv_at hl 5 rfl) ?_
      refine lv_iload hx hb dX11_pays_78 (lv_at hl 6 rfl) ?_
      obtain ⟨u19, hu19, h⟩ := ob h
      refine g_callVl eM_ok C Z (k_X11_fishes hu19) lk_X11_564 (by decide) rfl rfl hl (by decide) rfl (Nat.le_of_ble_eq_true rfl) (rest := [.long x8]) rfl dX11_pays_80 (fun H locs Z => ?_)
      refine lv_ladd hx hb dX11_pays_83 ?_
      obtain ⟨v20, ev20, h⟩ := lb h
      refine tn_l ev20 ?_
      refine lv_lstore (lv' := [(8, .long v20), (6, .long v18), (0, .ref (ad 0)), (1, .int x1), (2, .int x2), (3, .int x3), (4, .int x4), (5, .int x5), (10, .int x10)]) hx hb dX11_pays_84 hl (by decide) rfl (fun ls hl => ?_)
      refine lv_lload hx hb dX11_pays_86 (lv_at hl 0 rfl) ?_
      refine lv_lload hx hb dX11_pays_88 (lv_at hl 1 rfl) ?_
      refine g_llt (tgt := 97) hx hb dX11_pays_90 dX11_pays_91 (by decide) (fun c91 => ?_) (fun c91 => ?_)
      · have h := ip h c91
        obtain ⟨v21, ev21, h⟩ := lb h
        refine lv_iinc (v := v21) (lv' := [(10, .int v21), (8, .long v20), (6, .long v18), (0, .ref (ad 0)), (1, .int x1), (2, .int x2), (3, .int x3), (4, .int x4), (5, .int x5)]) hx hb dX11_pays_97 hl (k := 8) rfl (by rw [ev21]; rfl) (by decide) rfl (fun ls hl => ?_)
        refine lv_goto (tgt := 46) hx hb dX11_pays_100 (by decide) ?_
        exact ih _ _ _ _ _ _ _ Z (lv_sub hl [3, 4, 5, 6, 7, 8, 2, 1, 0] rfl) h
      · have h := im h c91
        refine lv_iload hx hb dX11_pays_94 (lv_at hl 8 rfl) ?_
        obtain rfl := Option.some.inj h
        exact hR _ _ _ _ _ Z dX11_pays_96 rfl
set_option maxRecDepth 20000 in
theorem w_X11_pays_0 {p : Program} {l : Launch} {e : Env} {s : State} {m : MethodId} {args : Array Value} {below : List Frame} {meth : Method} {c : Code} {Q : State → Prop} {D : va_G} {kc : Nat → ClassId} {ad : Nat → Nat} {A : Nat → Prop} (C : Cx eM p s m args c cX11_pays 11 RX11 D kc A) {R : Int32 × St} {x1 : Int32} {x2 : Int32} {x3 : Int32} {x4 : Int32} {x5 : Int32} {σ : St} (hR : RTi 0 0 p l e r_X11_pays s m args below meth c cX11_pays tM kc ad D A Q .int R.1 R.2) {H : Heap} {locs : List Loc} {ls : Array Slot} (Z : Dy tM kc ad D A s.heap σ H locs) (hl : lv_has ls 11 [(0, .ref (ad 0)), (1, .int x1), (2, .int x2), (3, .int x3), (4, .int x4), (5, .int x5)]) (h : f_X11_pays x1 x2 x3 x4 x5 σ = some R) : W p l e r_X11_pays s m args below meth c H locs 0 0 Q (F0 m 0 ls []) := by
  have hx := C.1.1
  have hb := C.1.2.1
  unfold f_X11_pays at h
  refine lv_iload_n hx hb dX11_pays_0 rfl (lv_at hl 1 rfl) ?_
  refine lv_iload_n hx hb dX11_pays_1 rfl (lv_at hl 3 rfl) ?_
  refine lv_iload hx hb dX11_pays_2 (lv_at hl 4 rfl) ?_
  refine lv_iload hx hb dX11_pays_4 (lv_at hl 5 rfl) ?_
  refine g_callSi eM_ok C Z (k_X11_isFishing x1 x3 x4 x5 σ) lk_X11_558 hl (by decide) rfl (Nat.le_of_ble_eq_true rfl) (rest := []) rfl dX11_pays_6 (fun H locs Z => ?_)
  refine lv_if_eq (tgt := 24) hx hb dX11_pays_9 (by decide) (fun c9 => ?_) (fun c9 => ?_)
  · have h := ip h c9
    refine lv_iconst (v := (-1)) hx hb dX11_pays_24 (by decide) ?_
    obtain rfl := Option.some.inj h
    exact hR _ _ _ _ _ Z dX11_pays_25 rfl
  · have h := im h c9
    refine lv_iload_n hx hb dX11_pays_12 rfl (lv_at hl 2 rfl) ?_
    refine lv_i2l (v := x2.toInt64) hx hb dX11_pays_13 rfl ?_
    refine lv_lconst (v := 0) hx hb dX11_pays_14 (by decide) ?_
    refine lv_ldc2 (v := 199) hx hb C.1.2.2.2.1 (C.1.2.2.2.2 _ wDL_X11_259) dX11_pays_15 ?_
    refine g_callSi eM_ok C Z (k_X11_in x2.toInt64 0 199 σ) lk_X11_233 hl (by decide) rfl (Nat.le_of_ble_eq_true rfl) (rest := []) rfl dX11_pays_18 (fun H locs Z => ?_)
    refine lv_if_ne (tgt := 26) hx hb dX11_pays_21 (by decide) (fun c21 => ?_) (fun c21 => ?_)
    · have h := im h c21
      refine lv_aload_n hx hb dX11_pays_26 rfl (lv_at hl 0 rfl) ?_
      refine lv_iconst (v := 0) hx hb dX11_pays_27 (by decide) ?_
      obtain ⟨σ15, hσ15, h⟩ := ob h
      refine g_callVv eM_ok C Z (k_X11_asToday hσ15) lk_X11_561 (by decide) rfl rfl hl (by decide) rfl (Nat.le_of_ble_eq_true rfl) (rest := []) rfl dX11_pays_28 (fun H locs Z => ?_)
      refine lv_aload_n hx hb dX11_pays_31 rfl (lv_at hl 0 rfl) ?_
      refine lv_bipush (v := 8) hx hb dX11_pays_32 (by decide) ?_
      obtain ⟨σ16, hσ16, h⟩ := ob h
      refine g_callVv eM_ok C Z (k_X11_asToday hσ16) lk_X11_561 (by decide) rfl rfl hl (by decide) rfl (Nat.le_of_ble_eq_true rfl) (rest := []) rfl dX11_pays_34 (fun H locs Z => ?_)
      refine lv_lconst (v := 0) hx hb dX11_pays_37 (by decide) ?_
      refine lv_lstore (lv' := [(6, .long 0), (0, .ref (ad 0)), (1, .int x1), (2, .int x2), (3, .int x3), (4, .int x4), (5, .int x5)]) hx hb dX11_pays_38 hl (by decide) rfl (fun ls hl => ?_)
      refine lv_lconst (v := 0) hx hb dX11_pays_40 (by decide) ?_
      refine lv_lstore (lv' := [(8, .long 0), (6, .long 0), (0, .ref (ad 0)), (1, .int x1), (2, .int x2), (3, .int x3), (4, .int x4), (5, .int x5)]) hx hb dX11_pays_41 hl (by decide) rfl (fun ls hl => ?_)
      refine lv_iconst (v := 1) hx hb dX11_pays_43 (by decide) ?_
      refine lv_istore (lv' := [(10, .int 1), (8, .long 0), (6, .long 0), (0, .ref (ad 0)), (1, .int x1), (2, .int x2), (3, .int x3), (4, .int x4), (5, .int x5)]) hx hb dX11_pays_44 hl (by decide) rfl (fun ls hl => ?_)
      exact w_X11_pays_46 C hR _ _ _ _ _ _ _ _ Z (lv_sub hl [3, 4, 5, 6, 7, 8, 2, 1, 0] rfl) h
    · have h := ip h c21
      refine lv_iconst (v := (-1)) hx hb dX11_pays_24 (by decide) ?_
      obtain rfl := Option.some.inj h
      exact hR _ _ _ _ _ Z dX11_pays_25 rfl
theorem k_X11_pays {l : Launch} {kc : Nat → ClassId} {ad : Nat → Nat} {D : va_G} {x1 : Int32} {x2 : Int32} {x3 : Int32} {x4 : Int32} {x5 : Int32} {σ : St} {R : Int32 × St} (h : f_X11_pays x1 x2 x3 x4 x5 σ = some R) : KC eM tM kc ad D l yX11_pays (.code yX11_pays cX11_pays 11 (some .int)) r_X11_pays [.ref (ad 0), .int x1, .int x2, .int x3, .int x4, .int x5] (some (.int R.1)) σ R.2 := by
  refine g_enter (by decide) (Nat.le_of_ble_eq_true rfl) ?_
  intro p e s m args below meth c A hA C hr hlocks Z ls hl
  have hl : lv_has ls 11 [(0, .ref (ad 0)), (1, .int x1), (2, .int x2), (3, .int x3), (4, .int x4), (5, .int x5)] := hl
  exact w_X11_pays_0 C (g_RTi C.1.1 C.1.2.1 hr hlocks hA)  Z hl h
def r_X11_town : Room := { frames := 1, cells := 0, slots := 0, locals := 25 }
set_option maxRecDepth 20000 in
theorem w_X11_town_0 {p : Program} {l : Launch} {e : Env} {s : State} {m : MethodId} {args : Array Value} {below : List Frame} {meth : Method} {c : Code} {Q : State → Prop} {D : va_G} {kc : Nat → ClassId} {ad : Nat → Nat} {A : Nat → Prop} (C : Cx eM p s m args c cX11_town 5 RX11 D kc A) {R : Int32 × St} {x1 : Int32} {x2 : Int32} {x3 : Int32} {x4 : Int32} {σ : St} (hR : RTi 0 0 p l e r_X11_town s m args below meth c cX11_town tM kc ad D A Q .int R.1 R.2) {H : Heap} {locs : List Loc} {ls : Array Slot} (Z : Dy tM kc ad D A s.heap σ H locs) (hl : lv_has ls 5 [(0, .ref (ad 0)), (1, .int x1), (2, .int x2), (3, .int x3), (4, .int x4)]) (h : f_X11_town x1 x2 x3 x4 σ = some R) : W p l e r_X11_town s m args below meth c H locs 0 0 Q (F0 m 0 ls []) := by
  have hx := C.1.1
  have hb := C.1.2.1
  unfold f_X11_town at h
  refine lv_aload_n hx hb dX11_town_0 rfl (lv_at hl 0 rfl) ?_
  refine rg_X11_567 C Z dX11_town_1 ?_
  refine lv_bipush (v := 8) hx hb dX11_town_4 (by decide) ?_
  refine lv_icmp_eq (tgt := 53) hx hb dX11_town_6 (by decide) (fun c6 => ?_) (fun c6 => ?_)
  · have h := ip h c6
    refine lv_iconst (v := (-1)) hx hb dX11_town_53 (by decide) ?_
    obtain rfl := Option.some.inj h
    exact hR _ _ _ _ _ Z dX11_town_54 rfl
  · have h := im h c6
    refine lv_iload_n hx hb dX11_town_9 rfl (lv_at hl 1 rfl) ?_
    refine g_callSi eM_ok C Z (k_X11_isSide x1 σ) lk_X11_251 hl (by decide) rfl (Nat.le_of_ble_eq_true rfl) (rest := []) rfl dX11_town_10 (fun H locs Z => ?_)
    refine lv_if_eq (tgt := 53) hx hb dX11_town_13 (by decide) (fun c13 => ?_) (fun c13 => ?_)
    · have h := ip h c13
      refine lv_iconst (v := (-1)) hx hb dX11_town_53 (by decide) ?_
      obtain rfl := Option.some.inj h
      exact hR _ _ _ _ _ Z dX11_town_54 rfl
    · have h := im h c13
      refine lv_iload_n hx hb dX11_town_16 rfl (lv_at hl 2 rfl) ?_
      refine lv_i2l (v := x2.toInt64) hx hb dX11_town_17 rfl ?_
      refine lv_lconst (v := 0) hx hb dX11_town_18 (by decide) ?_
      refine lv_ldc2 (v := 9999) hx hb C.1.2.2.2.1 (C.1.2.2.2.2 _ wDL_X11_570) dX11_town_19 ?_
      refine g_callSi eM_ok C Z (k_X11_in x2.toInt64 0 9999 σ) lk_X11_233 hl (by decide) rfl (Nat.le_of_ble_eq_true rfl) (rest := []) rfl dX11_town_22 (fun H locs Z => ?_)
      refine lv_if_eq (tgt := 53) hx hb dX11_town_25 (by decide) (fun c25 => ?_) (fun c25 => ?_)
      · have h := ip h c25
        refine lv_iconst (v := (-1)) hx hb dX11_town_53 (by decide) ?_
        obtain rfl := Option.some.inj h
        exact hR _ _ _ _ _ Z dX11_town_54 rfl
      · have h := im h c25
        refine lv_iload_n hx hb dX11_town_28 rfl (lv_at hl 3 rfl) ?_
        refine lv_i2l (v := x3.toInt64) hx hb dX11_town_29 rfl ?_
        refine lv_lconst (v := 0) hx hb dX11_town_30 (by decide) ?_
        refine lv_ldc2 (v := 9999999) hx hb C.1.2.2.2.1 (C.1.2.2.2.2 _ wDL_X11_544) dX11_town_31 ?_
        refine g_callSi eM_ok C Z (k_X11_in x3.toInt64 0 9999999 σ) lk_X11_233 hl (by decide) rfl (Nat.le_of_ble_eq_true rfl) (rest := []) rfl dX11_town_34 (fun H locs Z => ?_)
        refine lv_if_eq (tgt := 53) hx hb dX11_town_37 (by decide) (fun c37 => ?_) (fun c37 => ?_)
        · have h := ip h c37
          refine lv_iconst (v := (-1)) hx hb dX11_town_53 (by decide) ?_
          obtain rfl := Option.some.inj h
          exact hR _ _ _ _ _ Z dX11_town_54 rfl
        · have h := im h c37
          refine lv_iload hx hb dX11_town_40 (lv_at hl 4 rfl) ?_
          refine lv_i2l (v := x4.toInt64) hx hb dX11_town_42 rfl ?_
          refine lv_lconst (v := 0) hx hb dX11_town_43 (by decide) ?_
          refine lv_ldc2 (v := 99999) hx hb C.1.2.2.2.1 (C.1.2.2.2.2 _ wDL_X11_572) dX11_town_44 ?_
          refine g_callSi eM_ok C Z (k_X11_in x4.toInt64 0 99999 σ) lk_X11_233 hl (by decide) rfl (Nat.le_of_ble_eq_true rfl) (rest := []) rfl dX11_town_47 (fun H locs Z => ?_)
          refine lv_if_ne (tgt := 55) hx hb dX11_town_50 (by decide) (fun c50 => ?_) (fun c50 => ?_)
          · have h := im h c50
            refine lv_aload_n hx hb dX11_town_55 rfl (lv_at hl 0 rfl) ?_
            refine rg_X11_186 C Z dX11_town_56 ?_
            refine lv_aload_n hx hb dX11_town_59 rfl (lv_at hl 0 rfl) ?_
            refine rg_X11_567 C Z dX11_town_60 ?_
            refine lv_iload_n hx hb dX11_town_63 rfl (lv_at hl 1 rfl) ?_
            obtain ⟨σ11, hσ11, h⟩ := ob h
            refine g_iast C Z iaM48 hσ11 dX11_town_64 (fun H locs Z => ?_)
            refine lv_aload_n hx hb dX11_town_65 rfl (lv_at hl 0 rfl) ?_
            refine rg_X11_189 C Z dX11_town_66 ?_
            refine lv_aload_n hx hb dX11_town_69 rfl (lv_at hl 0 rfl) ?_
            refine rg_X11_567 C Z dX11_town_70 ?_
            refine lv_iload_n hx hb dX11_town_73 rfl (lv_at hl 2 rfl) ?_
            obtain ⟨σ12, hσ12, h⟩ := ob h
            refine g_iast C Z iaM49 hσ12 dX11_town_74 (fun H locs Z => ?_)
            refine lv_aload_n hx hb dX11_town_75 rfl (lv_at hl 0 rfl) ?_
            refine rg_X11_192 C Z dX11_town_76 ?_
            refine lv_aload_n hx hb dX11_town_79 rfl (lv_at hl 0 rfl) ?_
            refine rg_X11_567 C Z dX11_town_80 ?_
            refine lv_iload_n hx hb dX11_town_83 rfl (lv_at hl 3 rfl) ?_
            obtain ⟨σ13, hσ13, h⟩ := ob h
            refine g_iast C Z iaM50 hσ13 dX11_town_84 (fun H locs Z => ?_)
            refine lv_aload_n hx hb dX11_town_85 rfl (lv_at hl 0 rfl) ?_
            refine rg_X11_195 C Z dX11_town_86 ?_
            refine lv_aload_n hx hb dX11_town_89 rfl (lv_at hl 0 rfl) ?_
            refine rg_X11_567 C Z dX11_town_90 ?_
            refine lv_iload hx hb dX11_town_93 (lv_at hl 4 rfl) ?_
            obtain ⟨σ14, hσ14, h⟩ := ob h
            refine g_iast C Z iaM51 hσ14 dX11_town_95 (fun H locs Z => ?_)
            refine lv_aload_n hx hb dX11_town_96 rfl (lv_at hl 0 rfl) ?_
            refine lv_dup hx hb dX11_town_97 rfl ?_
            refine rg_X11_567 C Z dX11_town_98 ?_
            refine lv_iconst (v := 1) hx hb dX11_town_101 (by decide) ?_
            refine lv_iadd hx hb dX11_town_102 ?_
            obtain ⟨σ15, eσ15, h⟩ := lb h
            refine rp_X11_567 C Z eσ15 dX11_town_103 (fun H locs Z => ?_)
            refine lv_aload_n hx hb dX11_town_106 rfl (lv_at hl 0 rfl) ?_
            refine rg_X11_567 C Z dX11_town_107 ?_
            refine lv_iconst (v := 1) hx hb dX11_town_110 (by decide) ?_
            refine lv_isub hx hb dX11_town_111 ?_
            obtain rfl := Option.some.inj h
            exact hR _ _ _ _ _ Z dX11_town_112 rfl
          · have h := ip h c50
            refine lv_iconst (v := (-1)) hx hb dX11_town_53 (by decide) ?_
            obtain rfl := Option.some.inj h
            exact hR _ _ _ _ _ Z dX11_town_54 rfl
theorem k_X11_town {l : Launch} {kc : Nat → ClassId} {ad : Nat → Nat} {D : va_G} {x1 : Int32} {x2 : Int32} {x3 : Int32} {x4 : Int32} {σ : St} {R : Int32 × St} (h : f_X11_town x1 x2 x3 x4 σ = some R) : KC eM tM kc ad D l yX11_town (.code yX11_town cX11_town 5 (some .int)) r_X11_town [.ref (ad 0), .int x1, .int x2, .int x3, .int x4] (some (.int R.1)) σ R.2 := by
  refine g_enter (by decide) (Nat.le_of_ble_eq_true rfl) ?_
  intro p e s m args below meth c A hA C hr hlocks Z ls hl
  have hl : lv_has ls 5 [(0, .ref (ad 0)), (1, .int x1), (2, .int x2), (3, .int x3), (4, .int x4)] := hl
  exact w_X11_town_0 C (g_RTi C.1.1 C.1.2.1 hr hlocks hA)  Z hl h
def r_X11_isTown : Room := { frames := 0, cells := 0, slots := 0, locals := 0 }
set_option maxRecDepth 20000 in
theorem w_X11_isTown_16 {p : Program} {l : Launch} {e : Env} {s : State} {m : MethodId} {args : Array Value} {below : List Frame} {meth : Method} {c : Code} {Q : State → Prop} {D : va_G} {kc : Nat → ClassId} {ad : Nat → Nat} {A : Nat → Prop} (C : Cx eM p s m args c cX11_isTown 2 RX11 D kc A) {R : Int32} {σ : St} (hR : RTi 0 0 p l e r_X11_isTown s m args below meth c cX11_isTown tM kc ad D A Q .boolean R σ) {H : Heap} {locs : List Loc} {ls : Array Slot} (Z : Dy tM kc ad D A s.heap σ H locs) (hl : lv_has ls 2 []) (h : f_X11_isTown_16 σ = R) : W p l e r_X11_isTown s m args below meth c H locs 0 0 Q (F0 m 16 ls []) := by
  have hx := C.1.1
  have hb := C.1.2.1
  unfold f_X11_isTown_16 at h
  refine lv_iconst (v := 0) hx hb dX11_isTown_16 (by decide) ?_
  subst h
  exact hR _ _ _ _ _ Z dX11_isTown_17 rfl
set_option maxRecDepth 20000 in
theorem w_X11_isTown_0 {p : Program} {l : Launch} {e : Env} {s : State} {m : MethodId} {args : Array Value} {below : List Frame} {meth : Method} {c : Code} {Q : State → Prop} {D : va_G} {kc : Nat → ClassId} {ad : Nat → Nat} {A : Nat → Prop} (C : Cx eM p s m args c cX11_isTown 2 RX11 D kc A) {R : Int32} {x1 : Int32} {σ : St} (hR : RTi 0 0 p l e r_X11_isTown s m args below meth c cX11_isTown tM kc ad D A Q .boolean R σ) {H : Heap} {locs : List Loc} {ls : Array Slot} (Z : Dy tM kc ad D A s.heap σ H locs) (hl : lv_has ls 2 [(0, .ref (ad 0)), (1, .int x1)]) (h : f_X11_isTown x1 σ = R) : W p l e r_X11_isTown s m args below meth c H locs 0 0 Q (F0 m 0 ls []) := by
  have hx := C.1.1
  have hb := C.1.2.1
  unfold f_X11_isTown at h
  refine lv_iload_n hx hb dX11_isTown_0 rfl (lv_at hl 1 rfl) ?_
  refine lv_if_lt (tgt := 16) hx hb dX11_isTown_1 (by decide) (fun c1 => ?_) (fun c1 => ?_)
  · have h := ip h c1
    exact w_X11_isTown_16 C hR Z (lv_sub hl [] rfl) h
  · have h := im h c1
    refine lv_iload_n hx hb dX11_isTown_4 rfl (lv_at hl 1 rfl) ?_
    refine lv_aload_n hx hb dX11_isTown_5 rfl (lv_at hl 0 rfl) ?_
    refine rg_X11_567 C Z dX11_isTown_6 ?_
    refine lv_icmp_ge (tgt := 16) hx hb dX11_isTown_9 (by decide) (fun c9 => ?_) (fun c9 => ?_)
    · have h := ip h c9
      exact w_X11_isTown_16 C hR Z (lv_sub hl [] rfl) h
    · have h := im h c9
      refine lv_iconst (v := 1) hx hb dX11_isTown_12 (by decide) ?_
      refine lv_goto (tgt := 17) hx hb dX11_isTown_13 (by decide) ?_
      subst h
      exact hR _ _ _ _ _ Z dX11_isTown_17 rfl
theorem k_X11_isTown {l : Launch} {kc : Nat → ClassId} {ad : Nat → Nat} {D : va_G} (x1 : Int32) (σ : St) : KC eM tM kc ad D l yX11_isTown (.code yX11_isTown cX11_isTown 2 (some .boolean)) r_X11_isTown [.ref (ad 0), .int x1] (some (.int (f_X11_isTown x1 σ))) σ σ := by
  refine g_enter (by decide) (Nat.le_of_ble_eq_true rfl) ?_
  intro p e s m args below meth c A hA C hr hlocks Z ls hl
  have hl : lv_has ls 2 [(0, .ref (ad 0)), (1, .int x1)] := hl
  exact w_X11_isTown_0 C (g_RTi C.1.1 C.1.2.1 hr hlocks hA)  Z hl rfl
def r_X11_isWeek : Room := { frames := 0, cells := 0, slots := 0, locals := 0 }
set_option maxRecDepth 20000 in
theorem w_X11_isWeek_14 {p : Program} {l : Launch} {e : Env} {s : State} {m : MethodId} {args : Array Value} {below : List Frame} {meth : Method} {c : Code} {Q : State → Prop} {D : va_G} {kc : Nat → ClassId} {ad : Nat → Nat} {A : Nat → Prop} (C : Cx eM p s m args c cX11_isWeek 1 RX11 D kc A) {R : Int32} {σ : St} (hR : RTi 0 0 p l e r_X11_isWeek s m args below meth c cX11_isWeek tM kc ad D A Q .boolean R σ) {H : Heap} {locs : List Loc} {ls : Array Slot} (Z : Dy tM kc ad D A s.heap σ H locs) (hl : lv_has ls 1 []) (h : f_X11_isWeek_14 = R) : W p l e r_X11_isWeek s m args below meth c H locs 0 0 Q (F0 m 14 ls []) := by
  have hx := C.1.1
  have hb := C.1.2.1
  unfold f_X11_isWeek_14 at h
  refine lv_iconst (v := 0) hx hb dX11_isWeek_14 (by decide) ?_
  subst h
  exact hR _ _ _ _ _ Z dX11_isWeek_15 rfl
set_option maxRecDepth 20000 in
theorem w_X11_isWeek_0 {p : Program} {l : Launch} {e : Env} {s : State} {m : MethodId} {args : Array Value} {below : List Frame} {meth : Method} {c : Code} {Q : State → Prop} {D : va_G} {kc : Nat → ClassId} {ad : Nat → Nat} {A : Nat → Prop} (C : Cx eM p s m args c cX11_isWeek 1 RX11 D kc A) {R : Int32} {x0 : Int32} {σ : St} (hR : RTi 0 0 p l e r_X11_isWeek s m args below meth c cX11_isWeek tM kc ad D A Q .boolean R σ) {H : Heap} {locs : List Loc} {ls : Array Slot} (Z : Dy tM kc ad D A s.heap σ H locs) (hl : lv_has ls 1 [(0, .int x0)]) (h : f_X11_isWeek x0 = R) : W p l e r_X11_isWeek s m args below meth c H locs 0 0 Q (F0 m 0 ls []) := by
  have hx := C.1.1
  have hb := C.1.2.1
  unfold f_X11_isWeek at h
  refine lv_iload_n hx hb dX11_isWeek_0 rfl (lv_at hl 0 rfl) ?_
  refine lv_if_lt (tgt := 14) hx hb dX11_isWeek_1 (by decide) (fun c1 => ?_) (fun c1 => ?_)
  · have h := ip h c1
    exact w_X11_isWeek_14 C hR Z (lv_sub hl [] rfl) h
  · have h := im h c1
    refine lv_iload_n hx hb dX11_isWeek_4 rfl (lv_at hl 0 rfl) ?_
    refine lv_bipush (v := 100) hx hb dX11_isWeek_5 (by decide) ?_
    refine lv_icmp_ge (tgt := 14) hx hb dX11_isWeek_7 (by decide) (fun c7 => ?_) (fun c7 => ?_)
    · have h := ip h c7
      exact w_X11_isWeek_14 C hR Z (lv_sub hl [] rfl) h
    · have h := im h c7
      refine lv_iconst (v := 1) hx hb dX11_isWeek_10 (by decide) ?_
      refine lv_goto (tgt := 15) hx hb dX11_isWeek_11 (by decide) ?_
      subst h
      exact hR _ _ _ _ _ Z dX11_isWeek_15 rfl
theorem k_X11_isWeek {l : Launch} {kc : Nat → ClassId} {ad : Nat → Nat} {D : va_G} (x0 : Int32) (σ : St) : KC eM tM kc ad D l yX11_isWeek (.code yX11_isWeek cX11_isWeek 1 (some .boolean)) r_X11_isWeek [.int x0] (some (.int (f_X11_isWeek x0))) σ σ := by
  refine g_enter (by decide) (Nat.le_of_ble_eq_true rfl) ?_
  intro p e s m args below meth c A hA C hr hlocks Z ls hl
  have hl : lv_has ls 1 [(0, .int x0)] := hl
  exact w_X11_isWeek_0 C (g_RTi C.1.1 C.1.2.1 hr hlocks hA)  Z hl rfl
def r_X11_bar : Room := { frames := 1, cells := 0, slots := 0, locals := 25 }
set_option maxRecDepth 20000 in
theorem w_X11_bar_0 {p : Program} {l : Launch} {e : Env} {s : State} {m : MethodId} {args : Array Value} {below : List Frame} {meth : Method} {c : Code} {Q : State → Prop} {D : va_G} {kc : Nat → ClassId} {ad : Nat → Nat} {A : Nat → Prop} (C : Cx eM p s m args c cX11_bar 4 RX11 D kc A) {R : Int32 × St} {x1 : Int32} {x2 : Int32} {x3 : Int32} {σ : St} (hR : RTi 0 0 p l e r_X11_bar s m args below meth c cX11_bar tM kc ad D A Q .int R.1 R.2) {H : Heap} {locs : List Loc} {ls : Array Slot} (Z : Dy tM kc ad D A s.heap σ H locs) (hl : lv_has ls 4 [(0, .ref (ad 0)), (1, .int x1), (2, .int x2), (3, .int x3)]) (h : f_X11_bar x1 x2 x3 σ = some R) : W p l e r_X11_bar s m args below meth c H locs 0 0 Q (F0 m 0 ls []) := by
  have hx := C.1.1
  have hb := C.1.2.1
  unfold f_X11_bar at h
  refine lv_aload_n hx hb dX11_bar_0 rfl (lv_at hl 0 rfl) ?_
  refine rg_X11_574 C Z dX11_bar_1 ?_
  refine lv_bipush (v := 20) hx hb dX11_bar_4 (by decide) ?_
  refine lv_icmp_eq (tgt := 35) hx hb dX11_bar_6 (by decide) (fun c6 => ?_) (fun c6 => ?_)
  · have h := ip h c6
    refine lv_iconst (v := (-1)) hx hb dX11_bar_35 (by decide) ?_
    obtain rfl := Option.some.inj h
    exact hR _ _ _ _ _ Z dX11_bar_36 rfl
  · have h := im h c6
    refine lv_aload_n hx hb dX11_bar_9 rfl (lv_at hl 0 rfl) ?_
    refine lv_iload_n hx hb dX11_bar_10 rfl (lv_at hl 1 rfl) ?_
    refine g_callVi eM_ok C Z (k_X11_isTown x1 σ) lk_X11_577 (by decide) rfl rfl hl (by decide) rfl (Nat.le_of_ble_eq_true rfl) (rest := []) rfl dX11_bar_11 (fun H locs Z => ?_)
    refine lv_if_eq (tgt := 35) hx hb dX11_bar_14 (by decide) (fun c14 => ?_) (fun c14 => ?_)
    · have h := ip h c14
      refine lv_iconst (v := (-1)) hx hb dX11_bar_35 (by decide) ?_
      obtain rfl := Option.some.inj h
      exact hR _ _ _ _ _ Z dX11_bar_36 rfl
    · have h := im h c14
      refine lv_iload_n hx hb dX11_bar_17 rfl (lv_at hl 3 rfl) ?_
      refine g_callSi eM_ok C Z (k_X11_isWeek x3 σ) lk_X11_580 hl (by decide) rfl (Nat.le_of_ble_eq_true rfl) (rest := []) rfl dX11_bar_18 (fun H locs Z => ?_)
      refine lv_if_eq (tgt := 35) hx hb dX11_bar_21 (by decide) (fun c21 => ?_) (fun c21 => ?_)
      · have h := ip h c21
        refine lv_iconst (v := (-1)) hx hb dX11_bar_35 (by decide) ?_
        obtain rfl := Option.some.inj h
        exact hR _ _ _ _ _ Z dX11_bar_36 rfl
      · have h := im h c21
        refine lv_iload_n hx hb dX11_bar_24 rfl (lv_at hl 2 rfl) ?_
        refine lv_i2l (v := x2.toInt64) hx hb dX11_bar_25 rfl ?_
        refine lv_lconst (v := 0) hx hb dX11_bar_26 (by decide) ?_
        refine lv_iload_n hx hb dX11_bar_27 rfl (lv_at hl 3 rfl) ?_
        refine lv_i2l (v := x3.toInt64) hx hb dX11_bar_28 rfl ?_
        refine g_callSi eM_ok C Z (k_X11_in x2.toInt64 0 x3.toInt64 σ) lk_X11_233 hl (by decide) rfl (Nat.le_of_ble_eq_true rfl) (rest := []) rfl dX11_bar_29 (fun H locs Z => ?_)
        refine lv_if_ne (tgt := 37) hx hb dX11_bar_32 (by decide) (fun c32 => ?_) (fun c32 => ?_)
        · have h := im h c32
          refine lv_aload_n hx hb dX11_bar_37 rfl (lv_at hl 0 rfl) ?_
          refine rg_X11_198 C Z dX11_bar_38 ?_
          refine lv_aload_n hx hb dX11_bar_41 rfl (lv_at hl 0 rfl) ?_
          refine rg_X11_574 C Z dX11_bar_42 ?_
          refine lv_iload_n hx hb dX11_bar_45 rfl (lv_at hl 1 rfl) ?_
          obtain ⟨σ9, hσ9, h⟩ := ob h
          refine g_iast C Z iaM52 hσ9 dX11_bar_46 (fun H locs Z => ?_)
          refine lv_aload_n hx hb dX11_bar_47 rfl (lv_at hl 0 rfl) ?_
          refine rg_X11_201 C Z dX11_bar_48 ?_
          refine lv_aload_n hx hb dX11_bar_51 rfl (lv_at hl 0 rfl) ?_
          refine rg_X11_574 C Z dX11_bar_52 ?_
          refine lv_iload_n hx hb dX11_bar_55 rfl (lv_at hl 2 rfl) ?_
          obtain ⟨σ10, hσ10, h⟩ := ob h
          refine g_iast C Z iaM53 hσ10 dX11_bar_56 (fun H locs Z => ?_)
          refine lv_aload_n hx hb dX11_bar_57 rfl (lv_at hl 0 rfl) ?_
          refine rg_X11_204 C Z dX11_bar_58 ?_
          refine lv_aload_n hx hb dX11_bar_61 rfl (lv_at hl 0 rfl) ?_
          refine rg_X11_574 C Z dX11_bar_62 ?_
          refine lv_iload_n hx hb dX11_bar_65 rfl (lv_at hl 3 rfl) ?_
          obtain ⟨σ11, hσ11, h⟩ := ob h
          refine g_iast C Z iaM54 hσ11 dX11_bar_66 (fun H locs Z => ?_)
          refine lv_aload_n hx hb dX11_bar_67 rfl (lv_at hl 0 rfl) ?_
          refine lv_dup hx hb dX11_bar_68 rfl ?_
          refine rg_X11_574 C Z dX11_bar_69 ?_
          refine lv_iconst (v := 1) hx hb dX11_bar_72 (by decide) ?_
          refine lv_iadd hx hb dX11_bar_73 ?_
          obtain ⟨σ12, eσ12, h⟩ := lb h
          refine rp_X11_574 C Z eσ12 dX11_bar_74 (fun H locs Z => ?_)
          refine lv_aload_n hx hb dX11_bar_77 rfl (lv_at hl 0 rfl) ?_
          refine rg_X11_574 C Z dX11_bar_78 ?_
          obtain rfl := Option.some.inj h
          exact hR _ _ _ _ _ Z dX11_bar_81 rfl
        · have h := ip h c32
          refine lv_iconst (v := (-1)) hx hb dX11_bar_35 (by decide) ?_
          obtain rfl := Option.some.inj h
          exact hR _ _ _ _ _ Z dX11_bar_36 rfl
theorem k_X11_bar {l : Launch} {kc : Nat → ClassId} {ad : Nat → Nat} {D : va_G} {x1 : Int32} {x2 : Int32} {x3 : Int32} {σ : St} {R : Int32 × St} (h : f_X11_bar x1 x2 x3 σ = some R) : KC eM tM kc ad D l yX11_bar (.code yX11_bar cX11_bar 4 (some .int)) r_X11_bar [.ref (ad 0), .int x1, .int x2, .int x3] (some (.int R.1)) σ R.2 := by
  refine g_enter (by decide) (Nat.le_of_ble_eq_true rfl) ?_
  intro p e s m args below meth c A hA C hr hlocks Z ls hl
  have hl : lv_has ls 4 [(0, .ref (ad 0)), (1, .int x1), (2, .int x2), (3, .int x3)] := hl
  exact w_X11_bar_0 C (g_RTi C.1.1 C.1.2.1 hr hlocks hA)  Z hl h
