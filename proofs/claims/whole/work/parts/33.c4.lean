def r_X4_readWhat : Room := { frames := 5, cells := 0, slots := 0, locals := 107 }
set_option maxRecDepth 20000 in
theorem w_X4_readWhat_66 {p : Program} {l : Launch} {e : Env} {s : State} {m : MethodId} {args : Array Value} {below : List Frame} {meth : Method} {c : Code} {Q : State → Prop} {D : va_G} {kc : Nat → ClassId} {ad : Nat → Nat} {A : Nat → Prop} {adK adV : Nat → Nat} (C : Cx (eC adK adV) p s m args c cX4_readWhat 3 RX4 D kc A) {R : St} {x1 : Int32} {y0 : Int32} {σ : St} (hR : RTv 0 0 p l e r_X4_readWhat s m args below meth c cX4_readWhat tC kc ad D A Q R) {H : Heap} {locs : List Loc} {ls : Array Slot} (Z : Dy tC kc ad D A s.heap σ H locs) (hl : lv_has ls 3 [(0, .ref (ad 5)), (1, .int x1)]) (h : f_X4_readWhat_66 x1 y0 σ = some R) : W p l e r_X4_readWhat s m args below meth c H locs 0 0 Q (F0 m 66 ls [.int y0]) := by
  have hx := C.1.1
  have hb := C.1.2.1
  unfold f_X4_readWhat_66 at h
  refine lv_istore_n (lv' := [(2, .int y0), (0, .ref (ad 5)), (1, .int x1)]) hx hb dX4_readWhat_66 rfl hl (by decide) rfl (fun ls hl => ?_)
  refine lv_iload_n hx hb dX4_readWhat_67 rfl (lv_at hl 0 rfl) ?_
  refine lv_iconst (v := (-1)) hx hb dX4_readWhat_68 (by decide) ?_
  refine lv_icmp_ne (tgt := 78) hx hb dX4_readWhat_69 (by decide) (fun c69 => ?_) (fun c69 => ?_)
  · have h := im h c69
    refine lv_aload_n hx hb dX4_readWhat_78 rfl (lv_at hl 1 rfl) ?_
    refine rg_X4_17 C Z dX4_readWhat_79 ?_
    refine lv_iload_n hx hb dX4_readWhat_82 rfl (lv_at hl 0 rfl) ?_
    refine lv_iload_n hx hb dX4_readWhat_83 rfl (lv_at hl 2 rfl) ?_
    obtain ⟨σ22, hσ22, h⟩ := ob h
    refine g_callVv (eC_ok adK adV) C Z (k_X2_beginClause hσ22) lk_X4_77 (by decide) rfl rfl hl (by decide) rfl (Nat.le_of_ble_eq_true rfl) (rest := []) rfl dX4_readWhat_84 (fun H locs Z => ?_)
    refine lv_aload_n hx hb dX4_readWhat_87 rfl (lv_at hl 1 rfl) ?_
    obtain ⟨σ23, hσ23, h⟩ := ob h
    refine g_callVv (eC_ok adK adV) C Z (k_X4_advance hσ23) lk_X4_37 (by decide) rfl rfl hl (by decide) rfl (Nat.le_of_ble_eq_true rfl) (rest := []) rfl dX4_readWhat_88 (fun H locs Z => ?_)
    obtain rfl := Option.some.inj h
    exact hR _ _ _ _ Z dX4_readWhat_91
  · have h := ip h c69
    refine lv_aload_n hx hb dX4_readWhat_72 rfl (lv_at hl 1 rfl) ?_
    refine lv_iconst (v := 0) hx hb dX4_readWhat_73 (by decide) ?_
    obtain ⟨σ24, hσ24, h⟩ := ob h
    refine g_callVv (eC_ok adK adV) C Z (k_X4_fail hσ24) lk_X4_47 (by decide) rfl rfl hl (by decide) rfl (Nat.le_of_ble_eq_true rfl) (rest := []) rfl dX4_readWhat_74 (fun H locs Z => ?_)
    obtain rfl := Option.some.inj h
    exact hR _ _ _ _ Z dX4_readWhat_77
set_option maxRecDepth 20000 in
theorem w_X4_readWhat_0 {p : Program} {l : Launch} {e : Env} {s : State} {m : MethodId} {args : Array Value} {below : List Frame} {meth : Method} {c : Code} {Q : State → Prop} {D : va_G} {kc : Nat → ClassId} {ad : Nat → Nat} {A : Nat → Prop} {adK adV : Nat → Nat} (C : Cx (eC adK adV) p s m args c cX4_readWhat 3 RX4 D kc A) {R : St} {x1 : Int32} {σ : St} (hR : RTv 0 0 p l e r_X4_readWhat s m args below meth c cX4_readWhat tC kc ad D A Q R) {H : Heap} {locs : List Loc} {ls : Array Slot} (Z : Dy tC kc ad D A s.heap σ H locs) (hl : lv_has ls 3 [(0, .ref (ad 5)), (1, .int x1)]) (h : f_X4_readWhat x1 σ = some R) : W p l e r_X4_readWhat s m args below meth c H locs 0 0 Q (F0 m 0 ls []) := by
  have hx := C.1.1
  have hb := C.1.2.1
  unfold f_X4_readWhat at h
  refine lv_aload_n hx hb dX4_readWhat_0 rfl (lv_at hl 0 rfl) ?_
  refine va_ldcS hx hb C.1.2.2.2.1 (C.2.2.2.2.1 5 (by decide)) dX4_readWhat_1 ?_
  obtain ⟨v17, hv17, h⟩ := ob h
  refine g_callVi (eC_ok adK adV) C Z (k_X4_isWord (by decide) hv17) lk_X4_55 (by decide) rfl rfl hl (by decide) rfl (Nat.le_of_ble_eq_true rfl) (rest := []) rfl dX4_readWhat_3 (fun H locs Z => ?_)
  refine lv_if_eq (tgt := 13) hx hb dX4_readWhat_6 (by decide) (fun c6 => ?_) (fun c6 => ?_)
  · have h := ip h c6
    refine lv_aload_n hx hb dX4_readWhat_13 rfl (lv_at hl 0 rfl) ?_
    refine va_ldcS hx hb C.1.2.2.2.1 (C.2.2.2.2.1 6 (by decide)) dX4_readWhat_14 ?_
    obtain ⟨v18, hv18, h⟩ := ob h
    refine g_callVi (eC_ok adK adV) C Z (k_X4_isWord (by decide) hv18) lk_X4_55 (by decide) rfl rfl hl (by decide) rfl (Nat.le_of_ble_eq_true rfl) (rest := []) rfl dX4_readWhat_16 (fun H locs Z => ?_)
    refine lv_if_eq (tgt := 26) hx hb dX4_readWhat_19 (by decide) (fun c19 => ?_) (fun c19 => ?_)
    · have h := ip h c19
      refine lv_aload_n hx hb dX4_readWhat_26 rfl (lv_at hl 0 rfl) ?_
      refine va_ldcS hx hb C.1.2.2.2.1 (C.2.2.2.2.1 7 (by decide)) dX4_readWhat_27 ?_
      obtain ⟨v19, hv19, h⟩ := ob h
      refine g_callVi (eC_ok adK adV) C Z (k_X4_isWord (by decide) hv19) lk_X4_55 (by decide) rfl rfl hl (by decide) rfl (Nat.le_of_ble_eq_true rfl) (rest := []) rfl dX4_readWhat_29 (fun H locs Z => ?_)
      refine lv_if_eq (tgt := 39) hx hb dX4_readWhat_32 (by decide) (fun c32 => ?_) (fun c32 => ?_)
      · have h := ip h c32
        refine lv_aload_n hx hb dX4_readWhat_39 rfl (lv_at hl 0 rfl) ?_
        refine va_ldcS hx hb C.1.2.2.2.1 (C.2.2.2.2.1 8 (by decide)) dX4_readWhat_40 ?_
        obtain ⟨v20, hv20, h⟩ := ob h
        refine g_callVi (eC_ok adK adV) C Z (k_X4_isWord (by decide) hv20) lk_X4_55 (by decide) rfl rfl hl (by decide) rfl (Nat.le_of_ble_eq_true rfl) (rest := []) rfl dX4_readWhat_42 (fun H locs Z => ?_)
        refine lv_if_eq (tgt := 52) hx hb dX4_readWhat_45 (by decide) (fun c45 => ?_) (fun c45 => ?_)
        · have h := ip h c45
          refine lv_aload_n hx hb dX4_readWhat_52 rfl (lv_at hl 0 rfl) ?_
          refine va_ldcS hx hb C.1.2.2.2.1 (C.2.2.2.2.1 9 (by decide)) dX4_readWhat_53 ?_
          obtain ⟨v21, hv21, h⟩ := ob h
          refine g_callVi (eC_ok adK adV) C Z (k_X4_isWord (by decide) hv21) lk_X4_55 (by decide) rfl rfl hl (by decide) rfl (Nat.le_of_ble_eq_true rfl) (rest := []) rfl dX4_readWhat_55 (fun H locs Z => ?_)
          refine lv_if_eq (tgt := 65) hx hb dX4_readWhat_58 (by decide) (fun c58 => ?_) (fun c58 => ?_)
          · have h := ip h c58
            refine lv_iconst (v := (-1)) hx hb dX4_readWhat_65 (by decide) ?_
            exact w_X4_readWhat_66 C hR Z (lv_sub hl [0, 1] rfl) h
          · have h := im h c58
            refine lv_iconst (v := 4) hx hb dX4_readWhat_61 (by decide) ?_
            refine lv_goto (tgt := 66) hx hb dX4_readWhat_62 (by decide) ?_
            exact w_X4_readWhat_66 C hR Z (lv_sub hl [0, 1] rfl) h
        · have h := im h c45
          refine lv_iconst (v := 3) hx hb dX4_readWhat_48 (by decide) ?_
          refine lv_goto (tgt := 66) hx hb dX4_readWhat_49 (by decide) ?_
          exact w_X4_readWhat_66 C hR Z (lv_sub hl [0, 1] rfl) h
      · have h := im h c32
        refine lv_iconst (v := 2) hx hb dX4_readWhat_35 (by decide) ?_
        refine lv_goto (tgt := 66) hx hb dX4_readWhat_36 (by decide) ?_
        exact w_X4_readWhat_66 C hR Z (lv_sub hl [0, 1] rfl) h
    · have h := im h c19
      refine lv_iconst (v := 1) hx hb dX4_readWhat_22 (by decide) ?_
      refine lv_goto (tgt := 66) hx hb dX4_readWhat_23 (by decide) ?_
      exact w_X4_readWhat_66 C hR Z (lv_sub hl [0, 1] rfl) h
  · have h := im h c6
    refine lv_iconst (v := 0) hx hb dX4_readWhat_9 (by decide) ?_
    refine lv_goto (tgt := 66) hx hb dX4_readWhat_10 (by decide) ?_
    exact w_X4_readWhat_66 C hR Z (lv_sub hl [0, 1] rfl) h
theorem k_X4_readWhat {l : Launch} {kc : Nat → ClassId} {ad : Nat → Nat} {D : va_G} {adK adV : Nat → Nat} {x1 : Int32} {σ : St} {R : St} (h : f_X4_readWhat x1 σ = some R) : KC (eC adK adV) tC kc ad D l yX4_readWhat (.code yX4_readWhat cX4_readWhat 3 none) r_X4_readWhat [.ref (ad 5), .int x1] none σ R := by
  refine g_enter (by decide) (Nat.le_of_ble_eq_true rfl) ?_
  intro p e s m args below meth c A hA C hr hlocks Z ls hl
  have hl : lv_has ls 3 [(0, .ref (ad 5)), (1, .int x1)] := hl
  exact w_X4_readWhat_0 C (g_RTv C.1.1 C.1.2.1 hr hlocks hA)  Z hl h
def r_X4_wordNumber : Room := { frames := 5, cells := 0, slots := 0, locals := 107 }
set_option maxRecDepth 20000 in
theorem w_X4_wordNumber_0 {p : Program} {l : Launch} {e : Env} {s : State} {m : MethodId} {args : Array Value} {below : List Frame} {meth : Method} {c : Code} {Q : State → Prop} {D : va_G} {kc : Nat → ClassId} {ad : Nat → Nat} {A : Nat → Prop} {adK adV : Nat → Nat} (C : Cx (eC adK adV) p s m args c cX4_wordNumber 1 RX4 D kc A) {R : Int32} {σ : St} (hR : RTi 0 0 p l e r_X4_wordNumber s m args below meth c cX4_wordNumber tC kc ad D A Q .int R σ) {H : Heap} {locs : List Loc} {ls : Array Slot} (Z : Dy tC kc ad D A s.heap σ H locs) (hl : lv_has ls 1 [(0, .ref (ad 5))]) (h : f_X4_wordNumber σ = some R) : W p l e r_X4_wordNumber s m args below meth c H locs 0 0 Q (F0 m 0 ls []) := by
  have hx := C.1.1
  have hb := C.1.2.1
  unfold f_X4_wordNumber at h
  refine lv_aload_n hx hb dX4_wordNumber_0 rfl (lv_at hl 0 rfl) ?_
  refine rg_X4_44 C Z dX4_wordNumber_1 ?_
  refine lv_bipush (v := (-2)) hx hb dX4_wordNumber_4 (by decide) ?_
  refine lv_icmp_eq (tgt := 11) hx hb dX4_wordNumber_6 (by decide) (fun c6 => ?_) (fun c6 => ?_)
  · have h := ip h c6
    refine lv_aload_n hx hb dX4_wordNumber_11 rfl (lv_at hl 0 rfl) ?_
    refine va_ldcS hx hb C.1.2.2.2.1 (C.2.2.2.2.1 15 (by decide)) dX4_wordNumber_12 ?_
    obtain ⟨v19, hv19, h⟩ := ob h
    refine g_callVi (eC_ok adK adV) C Z (k_X4_isWord (by decide) hv19) lk_X4_55 (by decide) rfl rfl hl (by decide) rfl (Nat.le_of_ble_eq_true rfl) (rest := []) rfl dX4_wordNumber_14 (fun H locs Z => ?_)
    refine lv_if_eq (tgt := 24) hx hb dX4_wordNumber_17 (by decide) (fun c17 => ?_) (fun c17 => ?_)
    · have h := ip h c17
      refine lv_aload_n hx hb dX4_wordNumber_24 rfl (lv_at hl 0 rfl) ?_
      refine va_ldcS hx hb C.1.2.2.2.1 (C.2.2.2.2.1 16 (by decide)) dX4_wordNumber_25 ?_
      obtain ⟨v20, hv20, h⟩ := ob h
      refine g_callVi (eC_ok adK adV) C Z (k_X4_isWord (by decide) hv20) lk_X4_55 (by decide) rfl rfl hl (by decide) rfl (Nat.le_of_ble_eq_true rfl) (rest := []) rfl dX4_wordNumber_27 (fun H locs Z => ?_)
      refine lv_if_eq (tgt := 37) hx hb dX4_wordNumber_30 (by decide) (fun c30 => ?_) (fun c30 => ?_)
      · have h := ip h c30
        refine lv_aload_n hx hb dX4_wordNumber_37 rfl (lv_at hl 0 rfl) ?_
        refine va_ldcS hx hb C.1.2.2.2.1 (C.2.2.2.2.1 17 (by decide)) dX4_wordNumber_38 ?_
        obtain ⟨v21, hv21, h⟩ := ob h
        refine g_callVi (eC_ok adK adV) C Z (k_X4_isWord (by decide) hv21) lk_X4_55 (by decide) rfl rfl hl (by decide) rfl (Nat.le_of_ble_eq_true rfl) (rest := []) rfl dX4_wordNumber_40 (fun H locs Z => ?_)
        refine lv_if_eq (tgt := 50) hx hb dX4_wordNumber_43 (by decide) (fun c43 => ?_) (fun c43 => ?_)
        · have h := ip h c43
          refine lv_aload_n hx hb dX4_wordNumber_50 rfl (lv_at hl 0 rfl) ?_
          refine va_ldcS hx hb C.1.2.2.2.1 (C.2.2.2.2.1 18 (by decide)) dX4_wordNumber_51 ?_
          obtain ⟨v22, hv22, h⟩ := ob h
          refine g_callVi (eC_ok adK adV) C Z (k_X4_isWord (by decide) hv22) lk_X4_55 (by decide) rfl rfl hl (by decide) rfl (Nat.le_of_ble_eq_true rfl) (rest := []) rfl dX4_wordNumber_53 (fun H locs Z => ?_)
          refine lv_if_eq (tgt := 63) hx hb dX4_wordNumber_56 (by decide) (fun c56 => ?_) (fun c56 => ?_)
          · have h := ip h c56
            refine lv_aload_n hx hb dX4_wordNumber_63 rfl (lv_at hl 0 rfl) ?_
            refine va_ldcS hx hb C.1.2.2.2.1 (C.2.2.2.2.1 19 (by decide)) dX4_wordNumber_64 ?_
            obtain ⟨v23, hv23, h⟩ := ob h
            refine g_callVi (eC_ok adK adV) C Z (k_X4_isWord (by decide) hv23) lk_X4_55 (by decide) rfl rfl hl (by decide) rfl (Nat.le_of_ble_eq_true rfl) (rest := []) rfl dX4_wordNumber_66 (fun H locs Z => ?_)
            refine lv_if_eq (tgt := 76) hx hb dX4_wordNumber_69 (by decide) (fun c69 => ?_) (fun c69 => ?_)
            · have h := ip h c69
              refine lv_aload_n hx hb dX4_wordNumber_76 rfl (lv_at hl 0 rfl) ?_
              refine va_ldcS hx hb C.1.2.2.2.1 (C.2.2.2.2.1 20 (by decide)) dX4_wordNumber_77 ?_
              obtain ⟨v24, hv24, h⟩ := ob h
              refine g_callVi (eC_ok adK adV) C Z (k_X4_isWord (by decide) hv24) lk_X4_55 (by decide) rfl rfl hl (by decide) rfl (Nat.le_of_ble_eq_true rfl) (rest := []) rfl dX4_wordNumber_79 (fun H locs Z => ?_)
              refine lv_if_eq (tgt := 89) hx hb dX4_wordNumber_82 (by decide) (fun c82 => ?_) (fun c82 => ?_)
              · have h := ip h c82
                refine lv_aload_n hx hb dX4_wordNumber_89 rfl (lv_at hl 0 rfl) ?_
                refine va_ldcS hx hb C.1.2.2.2.1 (C.2.2.2.2.1 21 (by decide)) dX4_wordNumber_90 ?_
                obtain ⟨v25, hv25, h⟩ := ob h
                refine g_callVi (eC_ok adK adV) C Z (k_X4_isWord (by decide) hv25) lk_X4_55 (by decide) rfl rfl hl (by decide) rfl (Nat.le_of_ble_eq_true rfl) (rest := []) rfl dX4_wordNumber_92 (fun H locs Z => ?_)
                refine lv_if_eq (tgt := 103) hx hb dX4_wordNumber_95 (by decide) (fun c95 => ?_) (fun c95 => ?_)
                · have h := ip h c95
                  refine lv_aload_n hx hb dX4_wordNumber_103 rfl (lv_at hl 0 rfl) ?_
                  refine va_ldcS hx hb C.1.2.2.2.1 (C.2.2.2.2.1 22 (by decide)) dX4_wordNumber_104 ?_
                  obtain ⟨v26, hv26, h⟩ := ob h
                  refine g_callVi (eC_ok adK adV) C Z (k_X4_isWord (by decide) hv26) lk_X4_55 (by decide) rfl rfl hl (by decide) rfl (Nat.le_of_ble_eq_true rfl) (rest := []) rfl dX4_wordNumber_106 (fun H locs Z => ?_)
                  refine lv_if_eq (tgt := 117) hx hb dX4_wordNumber_109 (by decide) (fun c109 => ?_) (fun c109 => ?_)
                  · have h := ip h c109
                    refine lv_aload_n hx hb dX4_wordNumber_117 rfl (lv_at hl 0 rfl) ?_
                    refine va_ldcS hx hb C.1.2.2.2.1 (C.2.2.2.2.1 23 (by decide)) dX4_wordNumber_118 ?_
                    obtain ⟨v27, hv27, h⟩ := ob h
                    refine g_callVi (eC_ok adK adV) C Z (k_X4_isWord (by decide) hv27) lk_X4_55 (by decide) rfl rfl hl (by decide) rfl (Nat.le_of_ble_eq_true rfl) (rest := []) rfl dX4_wordNumber_120 (fun H locs Z => ?_)
                    refine lv_if_eq (tgt := 131) hx hb dX4_wordNumber_123 (by decide) (fun c123 => ?_) (fun c123 => ?_)
                    · have h := ip h c123
                      refine lv_iconst (v := (-1)) hx hb dX4_wordNumber_131 (by decide) ?_
                      obtain rfl := Option.some.inj h
                      exact hR _ _ _ _ _ Z dX4_wordNumber_132 rfl
                    · have h := im h c123
                      refine lv_bipush (v := 8) hx hb dX4_wordNumber_126 (by decide) ?_
                      refine lv_goto (tgt := 132) hx hb dX4_wordNumber_128 (by decide) ?_
                      obtain rfl := Option.some.inj h
                      exact hR _ _ _ _ _ Z dX4_wordNumber_132 rfl
                  · have h := im h c109
                    refine lv_bipush (v := 7) hx hb dX4_wordNumber_112 (by decide) ?_
                    refine lv_goto (tgt := 132) hx hb dX4_wordNumber_114 (by decide) ?_
                    obtain rfl := Option.some.inj h
                    exact hR _ _ _ _ _ Z dX4_wordNumber_132 rfl
                · have h := im h c95
                  refine lv_bipush (v := 6) hx hb dX4_wordNumber_98 (by decide) ?_
                  refine lv_goto (tgt := 132) hx hb dX4_wordNumber_100 (by decide) ?_
                  obtain rfl := Option.some.inj h
                  exact hR _ _ _ _ _ Z dX4_wordNumber_132 rfl
              · have h := im h c82
                refine lv_iconst (v := 5) hx hb dX4_wordNumber_85 (by decide) ?_
                refine lv_goto (tgt := 132) hx hb dX4_wordNumber_86 (by decide) ?_
                obtain rfl := Option.some.inj h
                exact hR _ _ _ _ _ Z dX4_wordNumber_132 rfl
            · have h := im h c69
              refine lv_iconst (v := 4) hx hb dX4_wordNumber_72 (by decide) ?_
              refine lv_goto (tgt := 132) hx hb dX4_wordNumber_73 (by decide) ?_
              obtain rfl := Option.some.inj h
              exact hR _ _ _ _ _ Z dX4_wordNumber_132 rfl
          · have h := im h c56
            refine lv_iconst (v := 3) hx hb dX4_wordNumber_59 (by decide) ?_
            refine lv_goto (tgt := 132) hx hb dX4_wordNumber_60 (by decide) ?_
            obtain rfl := Option.some.inj h
            exact hR _ _ _ _ _ Z dX4_wordNumber_132 rfl
        · have h := im h c43
          refine lv_iconst (v := 2) hx hb dX4_wordNumber_46 (by decide) ?_
          refine lv_goto (tgt := 132) hx hb dX4_wordNumber_47 (by decide) ?_
          obtain rfl := Option.some.inj h
          exact hR _ _ _ _ _ Z dX4_wordNumber_132 rfl
      · have h := im h c30
        refine lv_iconst (v := 1) hx hb dX4_wordNumber_33 (by decide) ?_
        refine lv_goto (tgt := 132) hx hb dX4_wordNumber_34 (by decide) ?_
        obtain rfl := Option.some.inj h
        exact hR _ _ _ _ _ Z dX4_wordNumber_132 rfl
    · have h := im h c17
      refine lv_iconst (v := 0) hx hb dX4_wordNumber_20 (by decide) ?_
      refine lv_goto (tgt := 132) hx hb dX4_wordNumber_21 (by decide) ?_
      obtain rfl := Option.some.inj h
      exact hR _ _ _ _ _ Z dX4_wordNumber_132 rfl
  · have h := im h c6
    refine lv_iconst (v := (-1)) hx hb dX4_wordNumber_9 (by decide) ?_
    obtain rfl := Option.some.inj h
    exact hR _ _ _ _ _ Z dX4_wordNumber_10 rfl
theorem k_X4_wordNumber {l : Launch} {kc : Nat → ClassId} {ad : Nat → Nat} {D : va_G} {adK adV : Nat → Nat} {σ : St} {R : Int32} (h : f_X4_wordNumber σ = some R) : KC (eC adK adV) tC kc ad D l yX4_wordNumber (.code yX4_wordNumber cX4_wordNumber 1 (some .int)) r_X4_wordNumber [.ref (ad 5)] (some (.int R)) σ σ := by
  refine g_enter (by decide) (Nat.le_of_ble_eq_true rfl) ?_
  intro p e s m args below meth c A hA C hr hlocks Z ls hl
  have hl : lv_has ls 1 [(0, .ref (ad 5))] := hl
  exact w_X4_wordNumber_0 C (g_RTi C.1.1 C.1.2.1 hr hlocks hA)  Z hl h
def r_X4_goesDeeper : Room := { frames := 1, cells := 0, slots := 0, locals := 21 }
set_option maxRecDepth 20000 in
theorem w_X4_goesDeeper_18 {p : Program} {l : Launch} {e : Env} {s : State} {m : MethodId} {args : Array Value} {below : List Frame} {meth : Method} {c : Code} {Q : State → Prop} {D : va_G} {kc : Nat → ClassId} {ad : Nat → Nat} {A : Nat → Prop} {adK adV : Nat → Nat} (C : Cx (eC adK adV) p s m args c cX4_goesDeeper 2 RX4 D kc A) {R : Int32 × St} {σ : St} (hR : RTi 0 0 p l e r_X4_goesDeeper s m args below meth c cX4_goesDeeper tC kc ad D A Q .boolean R.1 R.2) {H : Heap} {locs : List Loc} {ls : Array Slot} (Z : Dy tC kc ad D A s.heap σ H locs) (hl : lv_has ls 2 [(0, .ref (ad 5))]) (h : f_X4_goesDeeper_18 σ = some R) : W p l e r_X4_goesDeeper s m args below meth c H locs 0 0 Q (F0 m 18 ls []) := by
  have hx := C.1.1
  have hb := C.1.2.1
  unfold f_X4_goesDeeper_18 at h
  refine lv_aload_n hx hb dX4_goesDeeper_18 rfl (lv_at hl 0 rfl) ?_
  refine rg_X4_31 C Z dX4_goesDeeper_19 ?_
  obtain ⟨v4, ev4, h⟩ := lb h
  have hj : W p l e r_X4_goesDeeper s m args below meth c H locs 0 0 Q (F0 m 30 ls [.int v4]) := by
    obtain rfl := Option.some.inj h
    exact hR _ _ _ _ _ Z dX4_goesDeeper_30 (nar_b _)
  refine lv_if_ne (tgt := 29) hx hb dX4_goesDeeper_22 (by decide) (fun c22 => ?_) (fun c22 => ?_)
  · rw [if_neg c22] at ev4
    refine lv_iconst (v := 0) hx hb dX4_goesDeeper_29 (by decide) ?_
    exact tn_i ev4 hj
  · rw [if_pos c22] at ev4
    refine lv_iconst (v := 1) hx hb dX4_goesDeeper_25 (by decide) ?_
    refine lv_goto (tgt := 30) hx hb dX4_goesDeeper_26 (by decide) ?_
    exact tn_i ev4 hj
set_option maxRecDepth 20000 in
theorem w_X4_goesDeeper_0 {p : Program} {l : Launch} {e : Env} {s : State} {m : MethodId} {args : Array Value} {below : List Frame} {meth : Method} {c : Code} {Q : State → Prop} {D : va_G} {kc : Nat → ClassId} {ad : Nat → Nat} {A : Nat → Prop} {adK adV : Nat → Nat} (C : Cx (eC adK adV) p s m args c cX4_goesDeeper 2 RX4 D kc A) {R : Int32 × St} {x1 : Int32} {σ : St} (hR : RTi 0 0 p l e r_X4_goesDeeper s m args below meth c cX4_goesDeeper tC kc ad D A Q .boolean R.1 R.2) {H : Heap} {locs : List Loc} {ls : Array Slot} (Z : Dy tC kc ad D A s.heap σ H locs) (hl : lv_has ls 2 [(0, .ref (ad 5)), (1, .int x1)]) (h : f_X4_goesDeeper x1 σ = some R) : W p l e r_X4_goesDeeper s m args below meth c H locs 0 0 Q (F0 m 0 ls []) := by
  have hx := C.1.1
  have hb := C.1.2.1
  unfold f_X4_goesDeeper at h
  refine lv_aload_n hx hb dX4_goesDeeper_0 rfl (lv_at hl 0 rfl) ?_
  refine rg_X4_31 C Z dX4_goesDeeper_1 ?_
  refine lv_if_ne (tgt := 18) hx hb dX4_goesDeeper_4 (by decide) (fun c4 => ?_) (fun c4 => ?_)
  · have h := im h c4
    exact w_X4_goesDeeper_18 C hR Z (lv_sub hl [0] rfl) h
  · have h := ip h c4
    refine lv_iload_n hx hb dX4_goesDeeper_7 rfl (lv_at hl 1 rfl) ?_
    refine lv_bipush (v := 10) hx hb dX4_goesDeeper_8 (by decide) ?_
    refine lv_icmp_lt (tgt := 18) hx hb dX4_goesDeeper_10 (by decide) (fun c10 => ?_) (fun c10 => ?_)
    · have h := ip h c10
      exact w_X4_goesDeeper_18 C hR Z (lv_sub hl [0] rfl) h
    · have h := im h c10
      refine lv_aload_n hx hb dX4_goesDeeper_13 rfl (lv_at hl 0 rfl) ?_
      refine lv_iconst (v := 2) hx hb dX4_goesDeeper_14 (by decide) ?_
      obtain ⟨σ3, hσ3, h⟩ := ob h
      refine g_callVv (eC_ok adK adV) C Z (k_X4_fail hσ3) lk_X4_47 (by decide) rfl rfl hl (by decide) rfl (Nat.le_of_ble_eq_true rfl) (rest := []) rfl dX4_goesDeeper_15 (fun H locs Z => ?_)
      exact w_X4_goesDeeper_18 C hR Z (lv_sub hl [0] rfl) h
theorem k_X4_goesDeeper {l : Launch} {kc : Nat → ClassId} {ad : Nat → Nat} {D : va_G} {adK adV : Nat → Nat} {x1 : Int32} {σ : St} {R : Int32 × St} (h : f_X4_goesDeeper x1 σ = some R) : KC (eC adK adV) tC kc ad D l yX4_goesDeeper (.code yX4_goesDeeper cX4_goesDeeper 2 (some .boolean)) r_X4_goesDeeper [.ref (ad 5), .int x1] (some (.int R.1)) σ R.2 := by
  refine g_enter (by decide) (Nat.le_of_ble_eq_true rfl) ?_
  intro p e s m args below meth c A hA C hr hlocks Z ls hl
  have hl : lv_has ls 2 [(0, .ref (ad 5)), (1, .int x1)] := hl
  exact w_X4_goesDeeper_0 C (g_RTi C.1.1 C.1.2.1 hr hlocks hA)  Z hl h
def r_X4_countsOneMore : Room := { frames := 1, cells := 0, slots := 0, locals := 21 }
set_option maxRecDepth 20000 in
theorem w_X4_countsOneMore_21 {p : Program} {l : Launch} {e : Env} {s : State} {m : MethodId} {args : Array Value} {below : List Frame} {meth : Method} {c : Code} {Q : State → Prop} {D : va_G} {kc : Nat → ClassId} {ad : Nat → Nat} {A : Nat → Prop} {adK adV : Nat → Nat} (C : Cx (eC adK adV) p s m args c cX4_countsOneMore 1 RX4 D kc A) {R : Int32 × St} {σ : St} (hR : RTi 0 0 p l e r_X4_countsOneMore s m args below meth c cX4_countsOneMore tC kc ad D A Q .boolean R.1 R.2) {H : Heap} {locs : List Loc} {ls : Array Slot} (Z : Dy tC kc ad D A s.heap σ H locs) (hl : lv_has ls 1 [(0, .ref (ad 5))]) (h : f_X4_countsOneMore_21 σ = some R) : W p l e r_X4_countsOneMore s m args below meth c H locs 0 0 Q (F0 m 21 ls []) := by
  have hx := C.1.1
  have hb := C.1.2.1
  unfold f_X4_countsOneMore_21 at h
  refine lv_aload_n hx hb dX4_countsOneMore_21 rfl (lv_at hl 0 rfl) ?_
  refine lv_dup hx hb dX4_countsOneMore_22 rfl ?_
  refine rg_X4_28 C Z dX4_countsOneMore_23 ?_
  refine lv_iconst (v := 1) hx hb dX4_countsOneMore_26 (by decide) ?_
  refine lv_iadd hx hb dX4_countsOneMore_27 ?_
  obtain ⟨σ6, eσ6, h⟩ := lb h
  refine rp_X4_28 C Z eσ6 dX4_countsOneMore_28 (fun H locs Z => ?_)
  refine lv_aload_n hx hb dX4_countsOneMore_31 rfl (lv_at hl 0 rfl) ?_
  refine rg_X4_31 C Z dX4_countsOneMore_32 ?_
  obtain ⟨v7, ev7, h⟩ := lb h
  have hj : W p l e r_X4_countsOneMore s m args below meth c H locs 0 0 Q (F0 m 43 ls [.int v7]) := by
    obtain rfl := Option.some.inj h
    exact hR _ _ _ _ _ Z dX4_countsOneMore_43 (nar_b _)
  refine lv_if_ne (tgt := 42) hx hb dX4_countsOneMore_35 (by decide) (fun c35 => ?_) (fun c35 => ?_)
  · rw [if_neg c35] at ev7
    refine lv_iconst (v := 0) hx hb dX4_countsOneMore_42 (by decide) ?_
    exact tn_i ev7 hj
  · rw [if_pos c35] at ev7
    refine lv_iconst (v := 1) hx hb dX4_countsOneMore_38 (by decide) ?_
    refine lv_goto (tgt := 43) hx hb dX4_countsOneMore_39 (by decide) ?_
    exact tn_i ev7 hj
set_option maxRecDepth 20000 in
theorem w_X4_countsOneMore_0 {p : Program} {l : Launch} {e : Env} {s : State} {m : MethodId} {args : Array Value} {below : List Frame} {meth : Method} {c : Code} {Q : State → Prop} {D : va_G} {kc : Nat → ClassId} {ad : Nat → Nat} {A : Nat → Prop} {adK adV : Nat → Nat} (C : Cx (eC adK adV) p s m args c cX4_countsOneMore 1 RX4 D kc A) {R : Int32 × St} {σ : St} (hR : RTi 0 0 p l e r_X4_countsOneMore s m args below meth c cX4_countsOneMore tC kc ad D A Q .boolean R.1 R.2) {H : Heap} {locs : List Loc} {ls : Array Slot} (Z : Dy tC kc ad D A s.heap σ H locs) (hl : lv_has ls 1 [(0, .ref (ad 5))]) (h : f_X4_countsOneMore σ = some R) : W p l e r_X4_countsOneMore s m args below meth c H locs 0 0 Q (F0 m 0 ls []) := by
  have hx := C.1.1
  have hb := C.1.2.1
  unfold f_X4_countsOneMore at h
  refine lv_aload_n hx hb dX4_countsOneMore_0 rfl (lv_at hl 0 rfl) ?_
  refine rg_X4_31 C Z dX4_countsOneMore_1 ?_
  refine lv_if_ne (tgt := 21) hx hb dX4_countsOneMore_4 (by decide) (fun c4 => ?_) (fun c4 => ?_)
  · have h := im h c4
    exact w_X4_countsOneMore_21 C hR Z (lv_sub hl [0] rfl) h
  · have h := ip h c4
    refine lv_aload_n hx hb dX4_countsOneMore_7 rfl (lv_at hl 0 rfl) ?_
    refine rg_X4_28 C Z dX4_countsOneMore_8 ?_
    refine lv_bipush (v := 80) hx hb dX4_countsOneMore_11 (by decide) ?_
    refine lv_icmp_lt (tgt := 21) hx hb dX4_countsOneMore_13 (by decide) (fun c13 => ?_) (fun c13 => ?_)
    · have h := ip h c13
      exact w_X4_countsOneMore_21 C hR Z (lv_sub hl [0] rfl) h
    · have h := im h c13
      refine lv_aload_n hx hb dX4_countsOneMore_16 rfl (lv_at hl 0 rfl) ?_
      refine lv_iconst (v := 3) hx hb dX4_countsOneMore_17 (by decide) ?_
      obtain ⟨σ5, hσ5, h⟩ := ob h
      refine g_callVv (eC_ok adK adV) C Z (k_X4_fail hσ5) lk_X4_47 (by decide) rfl rfl hl (by decide) rfl (Nat.le_of_ble_eq_true rfl) (rest := []) rfl dX4_countsOneMore_18 (fun H locs Z => ?_)
      exact w_X4_countsOneMore_21 C hR Z (lv_sub hl [0] rfl) h
theorem k_X4_countsOneMore {l : Launch} {kc : Nat → ClassId} {ad : Nat → Nat} {D : va_G} {adK adV : Nat → Nat} {σ : St} {R : Int32 × St} (h : f_X4_countsOneMore σ = some R) : KC (eC adK adV) tC kc ad D l yX4_countsOneMore (.code yX4_countsOneMore cX4_countsOneMore 1 (some .boolean)) r_X4_countsOneMore [.ref (ad 5)] (some (.int R.1)) σ R.2 := by
  refine g_enter (by decide) (Nat.le_of_ble_eq_true rfl) ?_
  intro p e s m args below meth c A hA C hr hlocks Z ls hl
  have hl : lv_has ls 1 [(0, .ref (ad 5))] := hl
  exact w_X4_countsOneMore_0 C (g_RTi C.1.1 C.1.2.1 hr hlocks hA)  Z hl h
def r_X4_readClosing : Room := { frames := 2, cells := 0, slots := 0, locals := 43 }
set_option maxRecDepth 20000 in
theorem w_X4_readClosing_0 {p : Program} {l : Launch} {e : Env} {s : State} {m : MethodId} {args : Array Value} {below : List Frame} {meth : Method} {c : Code} {Q : State → Prop} {D : va_G} {kc : Nat → ClassId} {ad : Nat → Nat} {A : Nat → Prop} {adK adV : Nat → Nat} (C : Cx (eC adK adV) p s m args c cX4_readClosing 2 RX4 D kc A) {R : St} {x1 : Int32} {σ : St} (hR : RTv 0 0 p l e r_X4_readClosing s m args below meth c cX4_readClosing tC kc ad D A Q R) {H : Heap} {locs : List Loc} {ls : Array Slot} (Z : Dy tC kc ad D A s.heap σ H locs) (hl : lv_has ls 2 [(0, .ref (ad 5)), (1, .int x1)]) (h : f_X4_readClosing x1 σ = some R) : W p l e r_X4_readClosing s m args below meth c H locs 0 0 Q (F0 m 0 ls []) := by
  have hx := C.1.1
  have hb := C.1.2.1
  unfold f_X4_readClosing at h
  refine lv_aload_n hx hb dX4_readClosing_0 rfl (lv_at hl 0 rfl) ?_
  refine rg_X4_31 C Z dX4_readClosing_1 ?_
  refine lv_if_eq (tgt := 8) hx hb dX4_readClosing_4 (by decide) (fun c4 => ?_) (fun c4 => ?_)
  · have h := ip h c4
    refine lv_aload_n hx hb dX4_readClosing_8 rfl (lv_at hl 0 rfl) ?_
    refine rg_X4_44 C Z dX4_readClosing_9 ?_
    refine lv_iload_n hx hb dX4_readClosing_12 rfl (lv_at hl 1 rfl) ?_
    refine lv_icmp_ne (tgt := 23) hx hb dX4_readClosing_13 (by decide) (fun c13 => ?_) (fun c13 => ?_)
    · have h := im h c13
      refine lv_aload_n hx hb dX4_readClosing_23 rfl (lv_at hl 0 rfl) ?_
      refine lv_iconst (v := 0) hx hb dX4_readClosing_24 (by decide) ?_
      obtain ⟨σ5, hσ5, h⟩ := ob h
      refine g_callVv (eC_ok adK adV) C Z (k_X4_fail hσ5) lk_X4_47 (by decide) rfl rfl hl (by decide) rfl (Nat.le_of_ble_eq_true rfl) (rest := []) rfl dX4_readClosing_25 (fun H locs Z => ?_)
      obtain rfl := Option.some.inj h
      exact hR _ _ _ _ Z dX4_readClosing_28
    · have h := ip h c13
      refine lv_aload_n hx hb dX4_readClosing_16 rfl (lv_at hl 0 rfl) ?_
      obtain ⟨σ6, hσ6, h⟩ := ob h
      refine g_callVv (eC_ok adK adV) C Z (k_X4_advance hσ6) lk_X4_37 (by decide) rfl rfl hl (by decide) rfl (Nat.le_of_ble_eq_true rfl) (rest := []) rfl dX4_readClosing_17 (fun H locs Z => ?_)
      refine lv_goto (tgt := 28) hx hb dX4_readClosing_20 (by decide) ?_
      obtain rfl := Option.some.inj h
      exact hR _ _ _ _ Z dX4_readClosing_28
  · have h := im h c4
    obtain rfl := Option.some.inj h
    exact hR _ _ _ _ Z dX4_readClosing_7
theorem k_X4_readClosing {l : Launch} {kc : Nat → ClassId} {ad : Nat → Nat} {D : va_G} {adK adV : Nat → Nat} {x1 : Int32} {σ : St} {R : St} (h : f_X4_readClosing x1 σ = some R) : KC (eC adK adV) tC kc ad D l yX4_readClosing (.code yX4_readClosing cX4_readClosing 2 none) r_X4_readClosing [.ref (ad 5), .int x1] none σ R := by
  refine g_enter (by decide) (Nat.le_of_ble_eq_true rfl) ?_
  intro p e s m args below meth c A hA C hr hlocks Z ls hl
  have hl : lv_has ls 2 [(0, .ref (ad 5)), (1, .int x1)] := hl
  exact w_X4_readClosing_0 C (g_RTv C.1.1 C.1.2.1 hr hlocks hA)  Z hl h

set_option maxRecDepth 20000 in
theorem w_X4_readValue_69 {p : Program} {l : Launch} {e : Env} {s : State} {m : MethodId} {args : Array Value} {below : List Frame} {meth : Method} {c : Code} {Q : State → Prop} {D : va_G} {kc : Nat → ClassId} {ad : Nat → Nat} {A : Nat → Prop} {adK adV : Nat → Nat} (C : Cx (eC adK adV) p s m args c cX4_readValue 3 RX4 D kc A) {R : St} {rm0 rm : Room} {rc : Nat → Int32 → St → Option St} {x1 : Int32} {x2 : Int32} {σ : St} (hR : RTv 0 0 p l e rm s m args below meth c cX4_readValue tC kc ad D A Q R) (hrc : GH kc ad D l adK adV rc rm0) (hrm : RmOK rm0 rm) {H : Heap} {locs : List Loc} {ls : Array Slot} (Z : Dy tC kc ad D A s.heap σ H locs) (hl : lv_has ls 3 [(0, .ref (ad 5)), (1, .int x1), (2, .int x2)]) (h : f_X4_readValue_69 rc x1 x2 σ = some R) : W p l e rm s m args below meth c H locs 0 0 Q (F0 m 69 ls []) := by
  have hx := C.1.1
  have hb := C.1.2.1
  unfold f_X4_readValue_69 at h
  refine lv_aload_n hx hb dX4_readValue_69 rfl (lv_at hl 0 rfl) ?_
  refine rg_X4_44 C Z dX4_readValue_70 ?_
  refine lv_bipush (v := 40) hx hb dX4_readValue_73 (by decide) ?_
  refine lv_icmp_ne (tgt := 113) hx hb dX4_readValue_75 (by decide) (fun c75 => ?_) (fun c75 => ?_)
  · have h := im h c75
    refine lv_aload_n hx hb dX4_readValue_113 rfl (lv_at hl 0 rfl) ?_
    obtain ⟨u26, hu26, h⟩ := ob h
    refine g_callVi (eC_ok adK adV) C Z (k_X4_countsOneMore hu26) lk_X4_152 (by decide) rfl rfl hl (rmOut hrm (by decide)) rfl (Nat.le_of_ble_eq_true rfl) (rest := []) rfl dX4_readValue_114 (fun H locs Z => ?_)
    refine lv_if_eq (tgt := 150) hx hb dX4_readValue_117 (by decide) (fun c117 => ?_) (fun c117 => ?_)
    · have h := ip h c117
      obtain rfl := Option.some.inj h
      exact hR _ _ _ _ Z dX4_readValue_150
    · have h := im h c117
      refine lv_aload_n hx hb dX4_readValue_120 rfl (lv_at hl 0 rfl) ?_
      refine rg_X4_17 C Z dX4_readValue_121 ?_
      refine lv_aload_n hx hb dX4_readValue_124 rfl (lv_at hl 0 rfl) ?_
      refine rg_X4_44 C Z dX4_readValue_125 ?_
      refine lv_bipush (v := (-3)) hx hb dX4_readValue_128 (by decide) ?_
      obtain ⟨v27, ev27, h⟩ := lb h
      have hj : W p l e rm s m args below meth c H locs 0 0 Q (F0 m 143 ls [.int v27, .ref (ad 4)]) := by
        obtain ⟨σ28, hσ28, h⟩ := ob h
        refine g_callVv (eC_ok adK adV) C Z (k_X2_emit hσ28) lk_X4_128 (by decide) rfl rfl hl (rmOut hrm (by decide)) rfl (Nat.le_of_ble_eq_true rfl) (rest := []) rfl dX4_readValue_143 (fun H locs Z => ?_)
        refine lv_aload_n hx hb dX4_readValue_146 rfl (lv_at hl 0 rfl) ?_
        obtain ⟨σ29, hσ29, h⟩ := ob h
        refine g_callVv (eC_ok adK adV) C Z (k_X4_advance hσ29) lk_X4_37 (by decide) rfl rfl hl (rmOut hrm (by decide)) rfl (Nat.le_of_ble_eq_true rfl) (rest := []) rfl dX4_readValue_147 (fun H locs Z => ?_)
        obtain rfl := Option.some.inj h
        exact hR _ _ _ _ Z dX4_readValue_150
      refine lv_icmp_ne (tgt := 140) hx hb dX4_readValue_130 (by decide) (fun c130 => ?_) (fun c130 => ?_)
      · rw [if_neg c130] at ev27
        refine lv_iconst (v := (-1)) hx hb dX4_readValue_140 (by decide) ?_
        refine lv_iload_n hx hb dX4_readValue_141 rfl (lv_at hl 2 rfl) ?_
        refine lv_isub hx hb dX4_readValue_142 ?_
        exact tn_i ev27 hj
      · rw [if_pos c130] at ev27
        refine lv_aload_n hx hb dX4_readValue_133 rfl (lv_at hl 0 rfl) ?_
        refine rg_X4_96 C Z dX4_readValue_134 ?_
        refine lv_goto (tgt := 143) hx hb dX4_readValue_137 (by decide) ?_
        exact tn_i ev27 hj
  · have h := ip h c75
    refine lv_aload_n hx hb dX4_readValue_78 rfl (lv_at hl 0 rfl) ?_
    refine lv_iload_n hx hb dX4_readValue_79 rfl (lv_at hl 1 rfl) ?_
    obtain ⟨u30, hu30, h⟩ := ob h
    refine g_callVi (eC_ok adK adV) C Z (k_X4_goesDeeper hu30) lk_X4_138 (by decide) rfl rfl hl (rmOut hrm (by decide)) rfl (Nat.le_of_ble_eq_true rfl) (rest := []) rfl dX4_readValue_80 (fun H locs Z => ?_)
    refine lv_if_eq (tgt := 150) hx hb dX4_readValue_83 (by decide) (fun c83 => ?_) (fun c83 => ?_)
    · have h := ip h c83
      obtain rfl := Option.some.inj h
      exact hR _ _ _ _ Z dX4_readValue_150
    · have h := im h c83
      refine lv_aload_n hx hb dX4_readValue_86 rfl (lv_at hl 0 rfl) ?_
      obtain ⟨u31, hu31, h⟩ := ob h
      refine g_callVi (eC_ok adK adV) C Z (k_X4_countsOneMore hu31) lk_X4_152 (by decide) rfl rfl hl (rmOut hrm (by decide)) rfl (Nat.le_of_ble_eq_true rfl) (rest := []) rfl dX4_readValue_87 (fun H locs Z => ?_)
      refine lv_if_eq (tgt := 150) hx hb dX4_readValue_90 (by decide) (fun c90 => ?_) (fun c90 => ?_)
      · have h := ip h c90
        obtain rfl := Option.some.inj h
        exact hR _ _ _ _ Z dX4_readValue_150
      · have h := im h c90
        refine lv_aload_n hx hb dX4_readValue_93 rfl (lv_at hl 0 rfl) ?_
        obtain ⟨σ32, hσ32, h⟩ := ob h
        refine g_callVv (eC_ok adK adV) C Z (k_X4_advance hσ32) lk_X4_37 (by decide) rfl rfl hl (rmOut hrm (by decide)) rfl (Nat.le_of_ble_eq_true rfl) (rest := []) rfl dX4_readValue_94 (fun H locs Z => ?_)
        refine lv_aload_n hx hb dX4_readValue_97 rfl (lv_at hl 0 rfl) ?_
        refine lv_iload_n hx hb dX4_readValue_98 rfl (lv_at hl 1 rfl) ?_
        refine lv_iconst (v := 1) hx hb dX4_readValue_99 (by decide) ?_
        refine lv_iadd hx hb dX4_readValue_100 ?_
        obtain ⟨σ33, hσ33, h⟩ := ob h
        refine g_callVv (eC_ok adK adV) C Z (hrc.2.2.2.2.1 _ _ _ hσ33) lk_X4_81 (by decide) rfl rfl hl (rmIn hrm (by decide)) rfl (Nat.le_of_ble_eq_true rfl) (rest := []) rfl dX4_readValue_101 (fun H locs Z => ?_)
        refine lv_aload_n hx hb dX4_readValue_104 rfl (lv_at hl 0 rfl) ?_
        refine lv_bipush (v := 41) hx hb dX4_readValue_105 (by decide) ?_
        obtain ⟨σ34, hσ34, h⟩ := ob h
        refine g_callVv (eC_ok adK adV) C Z (k_X4_readClosing hσ34) lk_X4_142 (by decide) rfl rfl hl (rmOut hrm (by decide)) rfl (Nat.le_of_ble_eq_true rfl) (rest := []) rfl dX4_readValue_107 (fun H locs Z => ?_)
        refine lv_goto (tgt := 150) hx hb dX4_readValue_110 (by decide) ?_
        obtain rfl := Option.some.inj h
        exact hR _ _ _ _ Z dX4_readValue_150
set_option maxRecDepth 20000 in
theorem w_X4_readValue_44 {p : Program} {l : Launch} {e : Env} {s : State} {m : MethodId} {args : Array Value} {below : List Frame} {meth : Method} {c : Code} {Q : State → Prop} {D : va_G} {kc : Nat → ClassId} {ad : Nat → Nat} {A : Nat → Prop} {adK adV : Nat → Nat} (C : Cx (eC adK adV) p s m args c cX4_readValue 3 RX4 D kc A) {R : St} {rm0 rm : Room} {rc : Nat → Int32 → St → Option St} {x1 : Int32} {x2 : Int32} {σ : St} (hR : RTv 0 0 p l e rm s m args below meth c cX4_readValue tC kc ad D A Q R) (hrc : GH kc ad D l adK adV rc rm0) (hrm : RmOK rm0 rm) {H : Heap} {locs : List Loc} {ls : Array Slot} (Z : Dy tC kc ad D A s.heap σ H locs) (hl : lv_has ls 3 [(0, .ref (ad 5)), (1, .int x1), (2, .int x2)]) (h : f_X4_readValue_44 rc x1 x2 σ = some R) : W p l e rm s m args below meth c H locs 0 0 Q (F0 m 44 ls []) := by
  have hx := C.1.1
  have hb := C.1.2.1
  unfold f_X4_readValue_44 at h
  refine lv_aload_n hx hb dX4_readValue_44 rfl (lv_at hl 0 rfl) ?_
  refine rg_X4_44 C Z dX4_readValue_45 ?_
  refine lv_bipush (v := (-3)) hx hb dX4_readValue_48 (by decide) ?_
  refine lv_icmp_ne (tgt := 69) hx hb dX4_readValue_50 (by decide) (fun c50 => ?_) (fun c50 => ?_)
  · have h := im h c50
    exact w_X4_readValue_69 C hR hrc hrm Z (lv_sub hl [0, 1, 2] rfl) h
  · have h := ip h c50
    refine lv_aload_n hx hb dX4_readValue_53 rfl (lv_at hl 0 rfl) ?_
    refine rg_X4_93 C Z dX4_readValue_54 ?_
    refine lv_iconst (v := 5) hx hb dX4_readValue_57 (by decide) ?_
    refine lv_icmp_le (tgt := 69) hx hb dX4_readValue_58 (by decide) (fun c58 => ?_) (fun c58 => ?_)
    · have h := ip h c58
      exact w_X4_readValue_69 C hR hrc hrm Z (lv_sub hl [0, 1, 2] rfl) h
    · have h := im h c58
      refine lv_aload_n hx hb dX4_readValue_61 rfl (lv_at hl 0 rfl) ?_
      refine lv_iconst (v := 1) hx hb dX4_readValue_62 (by decide) ?_
      obtain ⟨σ25, hσ25, h⟩ := ob h
      refine g_callVv (eC_ok adK adV) C Z (k_X4_fail hσ25) lk_X4_47 (by decide) rfl rfl hl (rmOut hrm (by decide)) rfl (Nat.le_of_ble_eq_true rfl) (rest := []) rfl dX4_readValue_63 (fun H locs Z => ?_)
      refine lv_goto (tgt := 150) hx hb dX4_readValue_66 (by decide) ?_
      obtain rfl := Option.some.inj h
      exact hR _ _ _ _ Z dX4_readValue_150
set_option maxRecDepth 20000 in
theorem w_X4_readValue_0 {p : Program} {l : Launch} {e : Env} {s : State} {m : MethodId} {args : Array Value} {below : List Frame} {meth : Method} {c : Code} {Q : State → Prop} {D : va_G} {kc : Nat → ClassId} {ad : Nat → Nat} {A : Nat → Prop} {adK adV : Nat → Nat} (C : Cx (eC adK adV) p s m args c cX4_readValue 3 RX4 D kc A) {R : St} {rm0 rm : Room} {rc : Nat → Int32 → St → Option St} {x1 : Int32} {σ : St} (hR : RTv 0 0 p l e rm s m args below meth c cX4_readValue tC kc ad D A Q R) (hrc : GH kc ad D l adK adV rc rm0) (hrm : RmOK rm0 rm) {H : Heap} {locs : List Loc} {ls : Array Slot} (Z : Dy tC kc ad D A s.heap σ H locs) (hl : lv_has ls 3 [(0, .ref (ad 5)), (1, .int x1)]) (h : f_X4_readValue rc x1 σ = some R) : W p l e rm s m args below meth c H locs 0 0 Q (F0 m 0 ls []) := by
  have hx := C.1.1
  have hb := C.1.2.1
  unfold f_X4_readValue at h
  refine lv_aload_n hx hb dX4_readValue_0 rfl (lv_at hl 0 rfl) ?_
  obtain ⟨v23, hv23, h⟩ := ob h
  refine g_callVi (eC_ok adK adV) C Z (k_X4_wordNumber hv23) lk_X4_162 (by decide) rfl rfl hl (rmOut hrm (by decide)) rfl (Nat.le_of_ble_eq_true rfl) (rest := []) rfl dX4_readValue_1 (fun H locs Z => ?_)
  refine lv_istore_n (lv' := [(2, .int v23), (0, .ref (ad 5)), (1, .int x1)]) hx hb dX4_readValue_4 rfl hl (by decide) rfl (fun ls hl => ?_)
  refine lv_aload_n hx hb dX4_readValue_5 rfl (lv_at hl 1 rfl) ?_
  refine rg_X4_31 C Z dX4_readValue_6 ?_
  refine lv_if_eq (tgt := 13) hx hb dX4_readValue_9 (by decide) (fun c9 => ?_) (fun c9 => ?_)
  · have h := ip h c9
    refine lv_aload_n hx hb dX4_readValue_13 rfl (lv_at hl 1 rfl) ?_
    refine rg_X4_44 C Z dX4_readValue_14 ?_
    refine lv_bipush (v := (-3)) hx hb dX4_readValue_17 (by decide) ?_
    refine lv_icmp_eq (tgt := 44) hx hb dX4_readValue_19 (by decide) (fun c19 => ?_) (fun c19 => ?_)
    · have h := ip h c19
      exact w_X4_readValue_44 C hR hrc hrm Z (lv_sub hl [1, 2, 0] rfl) h
    · have h := im h c19
      refine lv_aload_n hx hb dX4_readValue_22 rfl (lv_at hl 1 rfl) ?_
      refine rg_X4_44 C Z dX4_readValue_23 ?_
      refine lv_bipush (v := 40) hx hb dX4_readValue_26 (by decide) ?_
      refine lv_icmp_eq (tgt := 44) hx hb dX4_readValue_28 (by decide) (fun c28 => ?_) (fun c28 => ?_)
      · have h := ip h c28
        exact w_X4_readValue_44 C hR hrc hrm Z (lv_sub hl [1, 2, 0] rfl) h
      · have h := im h c28
        refine lv_iload_n hx hb dX4_readValue_31 rfl (lv_at hl 0 rfl) ?_
        refine lv_iconst (v := (-1)) hx hb dX4_readValue_32 (by decide) ?_
        refine lv_icmp_ne (tgt := 44) hx hb dX4_readValue_33 (by decide) (fun c33 => ?_) (fun c33 => ?_)
        · have h := im h c33
          exact w_X4_readValue_44 C hR hrc hrm Z (lv_sub hl [1, 2, 0] rfl) h
        · have h := ip h c33
          refine lv_aload_n hx hb dX4_readValue_36 rfl (lv_at hl 1 rfl) ?_
          refine lv_iconst (v := 0) hx hb dX4_readValue_37 (by decide) ?_
          obtain ⟨σ24, hσ24, h⟩ := ob h
          refine g_callVv (eC_ok adK adV) C Z (k_X4_fail hσ24) lk_X4_47 (by decide) rfl rfl hl (rmOut hrm (by decide)) rfl (Nat.le_of_ble_eq_true rfl) (rest := []) rfl dX4_readValue_38 (fun H locs Z => ?_)
          refine lv_goto (tgt := 150) hx hb dX4_readValue_41 (by decide) ?_
          obtain rfl := Option.some.inj h
          exact hR _ _ _ _ Z dX4_readValue_150
  · have h := im h c9
    obtain rfl := Option.some.inj h
    exact hR _ _ _ _ Z dX4_readValue_12
theorem kb_X4_readValue {rm0 rm : Room} {rc : Nat → Int32 → St → Option St} {l : Launch} {kc : Nat → ClassId} {ad : Nat → Nat} {D : va_G} {adK adV : Nat → Nat} {x1 : Int32} {σ : St} {R : St} (h : f_X4_readValue rc x1 σ = some R) (hrc : GH kc ad D l adK adV rc rm0) (hrm : RmOK rm0 rm) : KC (eC adK adV) tC kc ad D l yX4_readValue (.code yX4_readValue cX4_readValue 3 none) rm [.ref (ad 5), .int x1] none σ R := by
  refine g_enter (by decide) (Nat.le_of_ble_eq_true rfl) ?_
  intro p e s m args below meth c A hA C hr hlocks Z ls hl
  have hl : lv_has ls 3 [(0, .ref (ad 5)), (1, .int x1)] := hl
  exact w_X4_readValue_0 C (g_RTv C.1.1 C.1.2.1 hr hlocks hA) hrc hrm Z hl h

set_option maxRecDepth 20000 in
theorem w_X4_readProduct_7 {p : Program} {l : Launch} {e : Env} {s : State} {m : MethodId} {args : Array Value} {below : List Frame} {meth : Method} {c : Code} {Q : State → Prop} {D : va_G} {kc : Nat → ClassId} {ad : Nat → Nat} {A : Nat → Prop} {adK adV : Nat → Nat} (C : Cx (eC adK adV) p s m args c cX4_readProduct 3 RX4 D kc A) {R : St} {rm0 rm : Room} {rc : Nat → Int32 → St → Option St} {x1 : Int32} (hR : RTv 0 0 p l e rm s m args below meth c cX4_readProduct tC kc ad D A Q R) (hrc : GH kc ad D l adK adV rc rm0) (hrm : RmOK rm0 rm) : ∀ (n : Nat) (x2 : Int32) (σ : St) (H : Heap) (locs : List Loc) (ls : Array Slot), Dy tC kc ad D A s.heap σ H locs → lv_has ls 3 [(0, .ref (ad 5)), (1, .int x1), (2, .int x2)] → f_X4_readProduct_7 rc x1 n x2 σ = some R → W p l e rm s m args below meth c H locs 0 0 Q (F0 m 7 ls []) := by
  have hx := C.1.1
  have hb := C.1.2.1
  intro n
  induction n with
  | zero =>
    intro x2 σ H locs ls Z hl h
    exact absurd (show none = some R from h) (by simp)
  | succ n ih =>
    intro x2 σ H locs ls Z hl h
    rw [f_X4_readProduct_7] at h
    refine lv_iload_n hx hb dX4_readProduct_7 rfl (lv_at hl 2 rfl) ?_
    refine lv_sipush (v := 400) hx hb dX4_readProduct_8 (by decide) ?_
    refine lv_icmp_ge (tgt := 54) hx hb dX4_readProduct_11 (by decide) (fun c11 => ?_) (fun c11 => ?_)
    · have h := ip h c11
      obtain rfl := Option.some.inj h
      exact hR _ _ _ _ Z dX4_readProduct_54
    · have h := im h c11
      refine lv_aload_n hx hb dX4_readProduct_14 rfl (lv_at hl 0 rfl) ?_
      refine rg_X4_31 C Z dX4_readProduct_15 ?_
      refine lv_if_ne (tgt := 54) hx hb dX4_readProduct_18 (by decide) (fun c18 => ?_) (fun c18 => ?_)
      · have h := im h c18
        obtain rfl := Option.some.inj h
        exact hR _ _ _ _ Z dX4_readProduct_54
      · have h := ip h c18
        refine lv_aload_n hx hb dX4_readProduct_21 rfl (lv_at hl 0 rfl) ?_
        refine rg_X4_44 C Z dX4_readProduct_22 ?_
        refine lv_bipush (v := 42) hx hb dX4_readProduct_25 (by decide) ?_
        refine lv_icmp_ne (tgt := 54) hx hb dX4_readProduct_27 (by decide) (fun c27 => ?_) (fun c27 => ?_)
        · have h := im h c27
          obtain rfl := Option.some.inj h
          exact hR _ _ _ _ Z dX4_readProduct_54
        · have h := ip h c27
          refine lv_aload_n hx hb dX4_readProduct_30 rfl (lv_at hl 0 rfl) ?_
          obtain ⟨σ12, hσ12, h⟩ := ob h
          refine g_callVv (eC_ok adK adV) C Z (k_X4_advance hσ12) lk_X4_37 (by decide) rfl rfl hl (rmOut hrm (by decide)) rfl (Nat.le_of_ble_eq_true rfl) (rest := []) rfl dX4_readProduct_31 (fun H locs Z => ?_)
          refine lv_aload_n hx hb dX4_readProduct_34 rfl (lv_at hl 0 rfl) ?_
          refine lv_iload_n hx hb dX4_readProduct_35 rfl (lv_at hl 1 rfl) ?_
          obtain ⟨σ13, hσ13, h⟩ := ob h
          refine g_callVv (eC_ok adK adV) C Z (hrc.2.2.2.2.2.2 _ _ _ hσ13) lk_X4_159 (by decide) rfl rfl hl (rmIn hrm (by decide)) rfl (Nat.le_of_ble_eq_true rfl) (rest := []) rfl dX4_readProduct_36 (fun H locs Z => ?_)
          refine lv_aload_n hx hb dX4_readProduct_39 rfl (lv_at hl 0 rfl) ?_
          refine rg_X4_17 C Z dX4_readProduct_40 ?_
          refine lv_bipush (v := (-15)) hx hb dX4_readProduct_43 (by decide) ?_
          obtain ⟨σ14, hσ14, h⟩ := ob h
          refine g_callVv (eC_ok adK adV) C Z (k_X2_emit hσ14) lk_X4_128 (by decide) rfl rfl hl (rmOut hrm (by decide)) rfl (Nat.le_of_ble_eq_true rfl) (rest := []) rfl dX4_readProduct_45 (fun H locs Z => ?_)
          obtain ⟨v15, ev15, h⟩ := lb h
          refine lv_iinc (v := v15) (lv' := [(2, .int v15), (0, .ref (ad 5)), (1, .int x1)]) hx hb dX4_readProduct_48 hl (k := 2) rfl (by rw [ev15]; rfl) (by decide) rfl (fun ls hl => ?_)
          refine lv_goto (tgt := 7) hx hb dX4_readProduct_51 (by decide) ?_
          exact ih _ _ _ _ _ Z (lv_sub hl [1, 2, 0] rfl) h
set_option maxRecDepth 20000 in
theorem w_X4_readProduct_0 {p : Program} {l : Launch} {e : Env} {s : State} {m : MethodId} {args : Array Value} {below : List Frame} {meth : Method} {c : Code} {Q : State → Prop} {D : va_G} {kc : Nat → ClassId} {ad : Nat → Nat} {A : Nat → Prop} {adK adV : Nat → Nat} (C : Cx (eC adK adV) p s m args c cX4_readProduct 3 RX4 D kc A) {R : St} {rm0 rm : Room} {rc : Nat → Int32 → St → Option St} {x1 : Int32} {σ : St} (hR : RTv 0 0 p l e rm s m args below meth c cX4_readProduct tC kc ad D A Q R) (hrc : GH kc ad D l adK adV rc rm0) (hrm : RmOK rm0 rm) {H : Heap} {locs : List Loc} {ls : Array Slot} (Z : Dy tC kc ad D A s.heap σ H locs) (hl : lv_has ls 3 [(0, .ref (ad 5)), (1, .int x1)]) (h : f_X4_readProduct rc x1 σ = some R) : W p l e rm s m args below meth c H locs 0 0 Q (F0 m 0 ls []) := by
  have hx := C.1.1
  have hb := C.1.2.1
  unfold f_X4_readProduct at h
  refine lv_aload_n hx hb dX4_readProduct_0 rfl (lv_at hl 0 rfl) ?_
  refine lv_iload_n hx hb dX4_readProduct_1 rfl (lv_at hl 1 rfl) ?_
  obtain ⟨σ11, hσ11, h⟩ := ob h
  refine g_callVv (eC_ok adK adV) C Z (hrc.2.2.2.2.2.2 _ _ _ hσ11) lk_X4_159 (by decide) rfl rfl hl (rmIn hrm (by decide)) rfl (Nat.le_of_ble_eq_true rfl) (rest := []) rfl dX4_readProduct_2 (fun H locs Z => ?_)
  refine lv_iconst (v := 0) hx hb dX4_readProduct_5 (by decide) ?_
  refine lv_istore_n (lv' := [(2, .int 0), (0, .ref (ad 5)), (1, .int x1)]) hx hb dX4_readProduct_6 rfl hl (by decide) rfl (fun ls hl => ?_)
  exact w_X4_readProduct_7 C hR hrc hrm _ _ _ _ _ _ Z (lv_sub hl [1, 2, 0] rfl) h
theorem kb_X4_readProduct {rm0 rm : Room} {rc : Nat → Int32 → St → Option St} {l : Launch} {kc : Nat → ClassId} {ad : Nat → Nat} {D : va_G} {adK adV : Nat → Nat} {x1 : Int32} {σ : St} {R : St} (h : f_X4_readProduct rc x1 σ = some R) (hrc : GH kc ad D l adK adV rc rm0) (hrm : RmOK rm0 rm) : KC (eC adK adV) tC kc ad D l yX4_readProduct (.code yX4_readProduct cX4_readProduct 3 none) rm [.ref (ad 5), .int x1] none σ R := by
  refine g_enter (by decide) (Nat.le_of_ble_eq_true rfl) ?_
  intro p e s m args below meth c A hA C hr hlocks Z ls hl
  have hl : lv_has ls 3 [(0, .ref (ad 5)), (1, .int x1)] := hl
  exact w_X4_readProduct_0 C (g_RTv C.1.1 C.1.2.1 hr hlocks hA) hrc hrm Z hl h

set_option maxRecDepth 20000 in
theorem w_X4_readSum_39 {p : Program} {l : Launch} {e : Env} {s : State} {m : MethodId} {args : Array Value} {below : List Frame} {meth : Method} {c : Code} {Q : State → Prop} {D : va_G} {kc : Nat → ClassId} {ad : Nat → Nat} {A : Nat → Prop} {adK adV : Nat → Nat} (C : Cx (eC adK adV) p s m args c cX4_readSum 4 RX4 D kc A) {R : St} {rm0 rm : Room} {rc : Nat → Int32 → St → Option St} {x1 : Int32} {x2 : Int32} {σ : St} (hR : RTv 0 0 p l e rm s m args below meth c cX4_readSum tC kc ad D A Q R) (hrc : GH kc ad D l adK adV rc rm0) (hrm : RmOK rm0 rm) {k7 : Int32 → St → Option (St)} (hk7 : ∀ (x2 : Int32) (σ : St) (H : Heap) (locs : List Loc) (ls : Array Slot), Dy tC kc ad D A s.heap σ H locs → lv_has ls 4 [(0, .ref (ad 5)), (1, .int x1), (2, .int x2)] → k7 x2 σ = some R → W p l e rm s m args below meth c H locs 0 0 Q (F0 m 7 ls [])) {H : Heap} {locs : List Loc} {ls : Array Slot} (Z : Dy tC kc ad D A s.heap σ H locs) (hl : lv_has ls 4 [(0, .ref (ad 5)), (1, .int x1), (2, .int x2)]) (h : f_X4_readSum_39 rc x1 x2 σ k7 = some R) : W p l e rm s m args below meth c H locs 0 0 Q (F0 m 39 ls []) := by
  have hx := C.1.1
  have hb := C.1.2.1
  unfold f_X4_readSum_39 at h
  refine lv_aload_n hx hb dX4_readSum_39 rfl (lv_at hl 0 rfl) ?_
  refine rg_X4_44 C Z dX4_readSum_40 ?_
  refine lv_bipush (v := 43) hx hb dX4_readSum_43 (by decide) ?_
  obtain ⟨v12, ev12, h⟩ := lb h
  have hj : W p l e rm s m args below meth c H locs 0 0 Q (F0 m 55 ls [.int v12]) := by
    refine lv_istore_n (lv' := [(3, .int v12), (0, .ref (ad 5)), (1, .int x1), (2, .int x2)]) hx hb dX4_readSum_55 rfl hl (by decide) rfl (fun ls hl => ?_)
    refine lv_aload_n hx hb dX4_readSum_56 rfl (lv_at hl 1 rfl) ?_
    obtain ⟨σ13, hσ13, h⟩ := ob h
    refine g_callVv (eC_ok adK adV) C Z (k_X4_advance hσ13) lk_X4_37 (by decide) rfl rfl hl (rmOut hrm (by decide)) rfl (Nat.le_of_ble_eq_true rfl) (rest := []) rfl dX4_readSum_57 (fun H locs Z => ?_)
    refine lv_aload_n hx hb dX4_readSum_60 rfl (lv_at hl 1 rfl) ?_
    refine lv_iload_n hx hb dX4_readSum_61 rfl (lv_at hl 2 rfl) ?_
    obtain ⟨σ14, hσ14, h⟩ := ob h
    refine g_callVv (eC_ok adK adV) C Z (hrc.2.2.2.2.2.1 _ _ _ hσ14) lk_X4_156 (by decide) rfl rfl hl (rmIn hrm (by decide)) rfl (Nat.le_of_ble_eq_true rfl) (rest := []) rfl dX4_readSum_62 (fun H locs Z => ?_)
    refine lv_aload_n hx hb dX4_readSum_65 rfl (lv_at hl 1 rfl) ?_
    refine rg_X4_17 C Z dX4_readSum_66 ?_
    refine lv_iload_n hx hb dX4_readSum_69 rfl (lv_at hl 0 rfl) ?_
    obtain ⟨σ15, hσ15, h⟩ := ob h
    refine g_callVv (eC_ok adK adV) C Z (k_X2_emit hσ15) lk_X4_128 (by decide) rfl rfl hl (rmOut hrm (by decide)) rfl (Nat.le_of_ble_eq_true rfl) (rest := []) rfl dX4_readSum_70 (fun H locs Z => ?_)
    obtain ⟨v16, ev16, h⟩ := lb h
    refine lv_iinc (v := v16) (lv' := [(2, .int v16), (3, .int v12), (0, .ref (ad 5)), (1, .int x1)]) hx hb dX4_readSum_73 hl (k := 3) rfl (by rw [ev16]; rfl) (by decide) rfl (fun ls hl => ?_)
    refine lv_goto (tgt := 7) hx hb dX4_readSum_76 (by decide) ?_
    exact hk7 _ _ _ _ _ Z (lv_sub hl [2, 3, 0] rfl) h
  refine lv_icmp_ne (tgt := 53) hx hb dX4_readSum_45 (by decide) (fun c45 => ?_) (fun c45 => ?_)
  · rw [if_neg c45] at ev12
    refine lv_bipush (v := (-14)) hx hb dX4_readSum_53 (by decide) ?_
    exact tn_i ev12 hj
  · rw [if_pos c45] at ev12
    refine lv_bipush (v := (-13)) hx hb dX4_readSum_48 (by decide) ?_
    refine lv_goto (tgt := 55) hx hb dX4_readSum_50 (by decide) ?_
    exact tn_i ev12 hj
set_option maxRecDepth 20000 in
theorem w_X4_readSum_7 {p : Program} {l : Launch} {e : Env} {s : State} {m : MethodId} {args : Array Value} {below : List Frame} {meth : Method} {c : Code} {Q : State → Prop} {D : va_G} {kc : Nat → ClassId} {ad : Nat → Nat} {A : Nat → Prop} {adK adV : Nat → Nat} (C : Cx (eC adK adV) p s m args c cX4_readSum 4 RX4 D kc A) {R : St} {rm0 rm : Room} {rc : Nat → Int32 → St → Option St} {x1 : Int32} (hR : RTv 0 0 p l e rm s m args below meth c cX4_readSum tC kc ad D A Q R) (hrc : GH kc ad D l adK adV rc rm0) (hrm : RmOK rm0 rm) : ∀ (n : Nat) (x2 : Int32) (σ : St) (H : Heap) (locs : List Loc) (ls : Array Slot), Dy tC kc ad D A s.heap σ H locs → lv_has ls 4 [(0, .ref (ad 5)), (1, .int x1), (2, .int x2)] → f_X4_readSum_7 rc x1 n x2 σ = some R → W p l e rm s m args below meth c H locs 0 0 Q (F0 m 7 ls []) := by
  have hx := C.1.1
  have hb := C.1.2.1
  intro n
  induction n with
  | zero =>
    intro x2 σ H locs ls Z hl h
    exact absurd (show none = some R from h) (by simp)
  | succ n ih =>
    intro x2 σ H locs ls Z hl h
    rw [f_X4_readSum_7] at h
    refine lv_iload_n hx hb dX4_readSum_7 rfl (lv_at hl 2 rfl) ?_
    refine lv_sipush (v := 400) hx hb dX4_readSum_8 (by decide) ?_
    refine lv_icmp_ge (tgt := 79) hx hb dX4_readSum_11 (by decide) (fun c11 => ?_) (fun c11 => ?_)
    · have h := ip h c11
      obtain rfl := Option.some.inj h
      exact hR _ _ _ _ Z dX4_readSum_79
    · have h := im h c11
      refine lv_aload_n hx hb dX4_readSum_14 rfl (lv_at hl 0 rfl) ?_
      refine rg_X4_31 C Z dX4_readSum_15 ?_
      refine lv_if_ne (tgt := 79) hx hb dX4_readSum_18 (by decide) (fun c18 => ?_) (fun c18 => ?_)
      · have h := im h c18
        obtain rfl := Option.some.inj h
        exact hR _ _ _ _ Z dX4_readSum_79
      · have h := ip h c18
        refine lv_aload_n hx hb dX4_readSum_21 rfl (lv_at hl 0 rfl) ?_
        refine rg_X4_44 C Z dX4_readSum_22 ?_
        refine lv_bipush (v := 43) hx hb dX4_readSum_25 (by decide) ?_
        refine lv_icmp_eq (tgt := 39) hx hb dX4_readSum_27 (by decide) (fun c27 => ?_) (fun c27 => ?_)
        · have h := ip h c27
          exact w_X4_readSum_39 C hR hrc hrm ih Z (lv_sub hl [0, 1, 2] rfl) h
        · have h := im h c27
          refine lv_aload_n hx hb dX4_readSum_30 rfl (lv_at hl 0 rfl) ?_
          refine rg_X4_44 C Z dX4_readSum_31 ?_
          refine lv_bipush (v := 45) hx hb dX4_readSum_34 (by decide) ?_
          refine lv_icmp_ne (tgt := 79) hx hb dX4_readSum_36 (by decide) (fun c36 => ?_) (fun c36 => ?_)
          · have h := im h c36
            obtain rfl := Option.some.inj h
            exact hR _ _ _ _ Z dX4_readSum_79
          · have h := ip h c36
            exact w_X4_readSum_39 C hR hrc hrm ih Z (lv_sub hl [0, 1, 2] rfl) h
set_option maxRecDepth 20000 in
theorem w_X4_readSum_0 {p : Program} {l : Launch} {e : Env} {s : State} {m : MethodId} {args : Array Value} {below : List Frame} {meth : Method} {c : Code} {Q : State → Prop} {D : va_G} {kc : Nat → ClassId} {ad : Nat → Nat} {A : Nat → Prop} {adK adV : Nat → Nat} (C : Cx (eC adK adV) p s m args c cX4_readSum 4 RX4 D kc A) {R : St} {rm0 rm : Room} {rc : Nat → Int32 → St → Option St} {x1 : Int32} {σ : St} (hR : RTv 0 0 p l e rm s m args below meth c cX4_readSum tC kc ad D A Q R) (hrc : GH kc ad D l adK adV rc rm0) (hrm : RmOK rm0 rm) {H : Heap} {locs : List Loc} {ls : Array Slot} (Z : Dy tC kc ad D A s.heap σ H locs) (hl : lv_has ls 4 [(0, .ref (ad 5)), (1, .int x1)]) (h : f_X4_readSum rc x1 σ = some R) : W p l e rm s m args below meth c H locs 0 0 Q (F0 m 0 ls []) := by
  have hx := C.1.1
  have hb := C.1.2.1
  unfold f_X4_readSum at h
  refine lv_aload_n hx hb dX4_readSum_0 rfl (lv_at hl 0 rfl) ?_
  refine lv_iload_n hx hb dX4_readSum_1 rfl (lv_at hl 1 rfl) ?_
  obtain ⟨σ11, hσ11, h⟩ := ob h
  refine g_callVv (eC_ok adK adV) C Z (hrc.2.2.2.2.2.1 _ _ _ hσ11) lk_X4_156 (by decide) rfl rfl hl (rmIn hrm (by decide)) rfl (Nat.le_of_ble_eq_true rfl) (rest := []) rfl dX4_readSum_2 (fun H locs Z => ?_)
  refine lv_iconst (v := 0) hx hb dX4_readSum_5 (by decide) ?_
  refine lv_istore_n (lv' := [(2, .int 0), (0, .ref (ad 5)), (1, .int x1)]) hx hb dX4_readSum_6 rfl hl (by decide) rfl (fun ls hl => ?_)
  exact w_X4_readSum_7 C hR hrc hrm _ _ _ _ _ _ Z (lv_sub hl [1, 2, 0] rfl) h
theorem kb_X4_readSum {rm0 rm : Room} {rc : Nat → Int32 → St → Option St} {l : Launch} {kc : Nat → ClassId} {ad : Nat → Nat} {D : va_G} {adK adV : Nat → Nat} {x1 : Int32} {σ : St} {R : St} (h : f_X4_readSum rc x1 σ = some R) (hrc : GH kc ad D l adK adV rc rm0) (hrm : RmOK rm0 rm) : KC (eC adK adV) tC kc ad D l yX4_readSum (.code yX4_readSum cX4_readSum 4 none) rm [.ref (ad 5), .int x1] none σ R := by
  refine g_enter (by decide) (Nat.le_of_ble_eq_true rfl) ?_
  intro p e s m args below meth c A hA C hr hlocks Z ls hl
  have hl : lv_has ls 4 [(0, .ref (ad 5)), (1, .int x1)] := hl
  exact w_X4_readSum_0 C (g_RTv C.1.1 C.1.2.1 hr hlocks hA) hrc hrm Z hl h
def r_X4_comparisonOf : Room := { frames := 0, cells := 0, slots := 0, locals := 0 }
set_option maxRecDepth 20000 in
theorem w_X4_comparisonOf_0 {p : Program} {l : Launch} {e : Env} {s : State} {m : MethodId} {args : Array Value} {below : List Frame} {meth : Method} {c : Code} {Q : State → Prop} {D : va_G} {kc : Nat → ClassId} {ad : Nat → Nat} {A : Nat → Prop} {adK adV : Nat → Nat} (C : Cx (eC adK adV) p s m args c cX4_comparisonOf 1 RX4 D kc A) {R : Int32} {x0 : Int32} {σ : St} (hR : RTi 0 0 p l e r_X4_comparisonOf s m args below meth c cX4_comparisonOf tC kc ad D A Q .int R σ) {H : Heap} {locs : List Loc} {ls : Array Slot} (Z : Dy tC kc ad D A s.heap σ H locs) (hl : lv_has ls 1 [(0, .int x0)]) (h : f_X4_comparisonOf x0 = R) : W p l e r_X4_comparisonOf s m args below meth c H locs 0 0 Q (F0 m 0 ls []) := by
  have hx := C.1.1
  have hb := C.1.2.1
  unfold f_X4_comparisonOf at h
  refine lv_iload_n hx hb dX4_comparisonOf_0 rfl (lv_at hl 0 rfl) ?_
  by_cases c1_0 : x0 = 60
  · have h := ip h c1_0
    refine lv_lookup (tgt := 52) (off := 51) hx hb dX4_comparisonOf_1 (by decide) (by rw [c1_0]; decide) (by decide) ?_
    refine lv_bipush (v := (-16)) hx hb dX4_comparisonOf_52 (by decide) ?_
    subst h
    exact hR _ _ _ _ _ Z dX4_comparisonOf_54 rfl
  have h := im h c1_0
  by_cases c1_1 : x0 = 61
  · have h := ip h c1_1
    refine lv_lookup (tgt := 58) (off := 57) hx hb dX4_comparisonOf_1 (by decide) (by rw [c1_1]; decide) (by decide) ?_
    refine lv_bipush (v := (-18)) hx hb dX4_comparisonOf_58 (by decide) ?_
    subst h
    exact hR _ _ _ _ _ Z dX4_comparisonOf_60 rfl
  have h := im h c1_1
  by_cases c1_2 : x0 = 62
  · have h := ip h c1_2
    refine lv_lookup (tgt := 64) (off := 63) hx hb dX4_comparisonOf_1 (by decide) (by rw [c1_2]; decide) (by decide) ?_
    refine lv_bipush (v := (-20)) hx hb dX4_comparisonOf_64 (by decide) ?_
    subst h
    exact hR _ _ _ _ _ Z dX4_comparisonOf_66 rfl
  have h := im h c1_2
  by_cases c1_3 : x0 = 316
  · have h := ip h c1_3
    refine lv_lookup (tgt := 55) (off := 54) hx hb dX4_comparisonOf_1 (by decide) (by rw [c1_3]; decide) (by decide) ?_
    refine lv_bipush (v := (-17)) hx hb dX4_comparisonOf_55 (by decide) ?_
    subst h
    exact hR _ _ _ _ _ Z dX4_comparisonOf_57 rfl
  have h := im h c1_3
  by_cases c1_4 : x0 = 318
  · have h := ip h c1_4
    refine lv_lookup (tgt := 61) (off := 60) hx hb dX4_comparisonOf_1 (by decide) (by rw [c1_4]; decide) (by decide) ?_
    refine lv_bipush (v := (-19)) hx hb dX4_comparisonOf_61 (by decide) ?_
    subst h
    exact hR _ _ _ _ _ Z dX4_comparisonOf_63 rfl
  have h := im h c1_4
  refine lv_lookup (tgt := 67) (off := 66) hx hb dX4_comparisonOf_1 (by decide) ?_ (by decide) ?_
  · have t0 : ¬ x0.toInt = 60 := fun e => c1_0 (i32_of (b := 60) (n := 60) e (by decide)); have t1 : ¬ x0.toInt = 61 := fun e => c1_1 (i32_of (b := 61) (n := 61) e (by decide)); have t2 : ¬ x0.toInt = 62 := fun e => c1_2 (i32_of (b := 62) (n := 62) e (by decide)); have t3 : ¬ x0.toInt = 316 := fun e => c1_3 (i32_of (b := 316) (n := 316) e (by decide)); have t4 : ¬ x0.toInt = 318 := fun e => c1_4 (i32_of (b := 318) (n := 318) e (by decide)); simp [Op.lookupswitch.offset, List.find?, Ne.symm t0, t0, eq_comm, Ne.symm t1, t1, eq_comm, Ne.symm t2, t2, eq_comm, Ne.symm t3, t3, eq_comm, Ne.symm t4, t4, eq_comm]
  · refine lv_iconst (v := (-1)) hx hb dX4_comparisonOf_67 (by decide) ?_
    subst h
    exact hR _ _ _ _ _ Z dX4_comparisonOf_68 rfl
theorem k_X4_comparisonOf {l : Launch} {kc : Nat → ClassId} {ad : Nat → Nat} {D : va_G} {adK adV : Nat → Nat} (x0 : Int32) (σ : St) : KC (eC adK adV) tC kc ad D l yX4_comparisonOf (.code yX4_comparisonOf cX4_comparisonOf 1 (some .int)) r_X4_comparisonOf [.int x0] (some (.int (f_X4_comparisonOf x0))) σ σ := by
  refine g_enter (by decide) (Nat.le_of_ble_eq_true rfl) ?_
  intro p e s m args below meth c A hA C hr hlocks Z ls hl
  have hl : lv_has ls 1 [(0, .int x0)] := hl
  exact w_X4_comparisonOf_0 C (g_RTi C.1.1 C.1.2.1 hr hlocks hA)  Z hl rfl

set_option maxRecDepth 20000 in
theorem w_X4_readComparison_0 {p : Program} {l : Launch} {e : Env} {s : State} {m : MethodId} {args : Array Value} {below : List Frame} {meth : Method} {c : Code} {Q : State → Prop} {D : va_G} {kc : Nat → ClassId} {ad : Nat → Nat} {A : Nat → Prop} {adK adV : Nat → Nat} (C : Cx (eC adK adV) p s m args c cX4_readComparison 3 RX4 D kc A) {R : St} {rm0 rm : Room} {rc : Nat → Int32 → St → Option St} {x1 : Int32} {σ : St} (hR : RTv 0 0 p l e rm s m args below meth c cX4_readComparison tC kc ad D A Q R) (hrc : GH kc ad D l adK adV rc rm0) (hrm : RmOK rm0 rm) {H : Heap} {locs : List Loc} {ls : Array Slot} (Z : Dy tC kc ad D A s.heap σ H locs) (hl : lv_has ls 3 [(0, .ref (ad 5)), (1, .int x1)]) (h : f_X4_readComparison rc x1 σ = some R) : W p l e rm s m args below meth c H locs 0 0 Q (F0 m 0 ls []) := by
  have hx := C.1.1
  have hb := C.1.2.1
  unfold f_X4_readComparison at h
  refine lv_aload_n hx hb dX4_readComparison_0 rfl (lv_at hl 0 rfl) ?_
  refine lv_iload_n hx hb dX4_readComparison_1 rfl (lv_at hl 1 rfl) ?_
  obtain ⟨σ15, hσ15, h⟩ := ob h
  refine g_callVv (eC_ok adK adV) C Z (hrc.2.2.2.2.1 _ _ _ hσ15) lk_X4_81 (by decide) rfl rfl hl (rmIn hrm (by decide)) rfl (Nat.le_of_ble_eq_true rfl) (rest := []) rfl dX4_readComparison_2 (fun H locs Z => ?_)
  refine lv_aload_n hx hb dX4_readComparison_5 rfl (lv_at hl 0 rfl) ?_
  refine rg_X4_44 C Z dX4_readComparison_6 ?_
  refine g_callSi (eC_ok adK adV) C Z (k_X4_comparisonOf (gF σ15 504) σ15) lk_X4_148 hl (rmOut hrm (by decide)) rfl (Nat.le_of_ble_eq_true rfl) (rest := []) rfl dX4_readComparison_9 (fun H locs Z => ?_)
  obtain ⟨v16, ev16, h⟩ := lb h
  refine tn_i ev16 ?_
  refine lv_istore_n (lv' := [(2, .int v16), (0, .ref (ad 5)), (1, .int x1)]) hx hb dX4_readComparison_12 rfl hl (by decide) rfl (fun ls hl => ?_)
  refine lv_aload_n hx hb dX4_readComparison_13 rfl (lv_at hl 1 rfl) ?_
  refine rg_X4_31 C Z dX4_readComparison_14 ?_
  refine lv_if_eq (tgt := 21) hx hb dX4_readComparison_17 (by decide) (fun c17 => ?_) (fun c17 => ?_)
  · have h := ip h c17
    refine lv_iload_n hx hb dX4_readComparison_21 rfl (lv_at hl 0 rfl) ?_
    refine lv_iconst (v := (-1)) hx hb dX4_readComparison_22 (by decide) ?_
    refine lv_icmp_ne (tgt := 34) hx hb dX4_readComparison_23 (by decide) (fun c23 => ?_) (fun c23 => ?_)
    · have h := im h c23
      refine lv_aload_n hx hb dX4_readComparison_34 rfl (lv_at hl 1 rfl) ?_
      obtain ⟨u17, hu17, h⟩ := ob h
      refine g_callVi (eC_ok adK adV) C Z (k_X4_countsOneMore hu17) lk_X4_152 (by decide) rfl rfl hl (rmOut hrm (by decide)) rfl (Nat.le_of_ble_eq_true rfl) (rest := []) rfl dX4_readComparison_35 (fun H locs Z => ?_)
      refine lv_if_eq (tgt := 58) hx hb dX4_readComparison_38 (by decide) (fun c38 => ?_) (fun c38 => ?_)
      · have h := ip h c38
        obtain rfl := Option.some.inj h
        exact hR _ _ _ _ Z dX4_readComparison_58
      · have h := im h c38
        refine lv_aload_n hx hb dX4_readComparison_41 rfl (lv_at hl 1 rfl) ?_
        obtain ⟨σ18, hσ18, h⟩ := ob h
        refine g_callVv (eC_ok adK adV) C Z (k_X4_advance hσ18) lk_X4_37 (by decide) rfl rfl hl (rmOut hrm (by decide)) rfl (Nat.le_of_ble_eq_true rfl) (rest := []) rfl dX4_readComparison_42 (fun H locs Z => ?_)
        refine lv_aload_n hx hb dX4_readComparison_45 rfl (lv_at hl 1 rfl) ?_
        refine lv_iload_n hx hb dX4_readComparison_46 rfl (lv_at hl 2 rfl) ?_
        obtain ⟨σ19, hσ19, h⟩ := ob h
        refine g_callVv (eC_ok adK adV) C Z (hrc.2.2.2.2.1 _ _ _ hσ19) lk_X4_81 (by decide) rfl rfl hl (rmIn hrm (by decide)) rfl (Nat.le_of_ble_eq_true rfl) (rest := []) rfl dX4_readComparison_47 (fun H locs Z => ?_)
        refine lv_aload_n hx hb dX4_readComparison_50 rfl (lv_at hl 1 rfl) ?_
        refine rg_X4_17 C Z dX4_readComparison_51 ?_
        refine lv_iload_n hx hb dX4_readComparison_54 rfl (lv_at hl 0 rfl) ?_
        obtain ⟨σ20, hσ20, h⟩ := ob h
        refine g_callVv (eC_ok adK adV) C Z (k_X2_emit hσ20) lk_X4_128 (by decide) rfl rfl hl (rmOut hrm (by decide)) rfl (Nat.le_of_ble_eq_true rfl) (rest := []) rfl dX4_readComparison_55 (fun H locs Z => ?_)
        obtain rfl := Option.some.inj h
        exact hR _ _ _ _ Z dX4_readComparison_58
    · have h := ip h c23
      refine lv_aload_n hx hb dX4_readComparison_26 rfl (lv_at hl 1 rfl) ?_
      refine lv_iconst (v := 0) hx hb dX4_readComparison_27 (by decide) ?_
      obtain ⟨σ21, hσ21, h⟩ := ob h
      refine g_callVv (eC_ok adK adV) C Z (k_X4_fail hσ21) lk_X4_47 (by decide) rfl rfl hl (rmOut hrm (by decide)) rfl (Nat.le_of_ble_eq_true rfl) (rest := []) rfl dX4_readComparison_28 (fun H locs Z => ?_)
      refine lv_goto (tgt := 58) hx hb dX4_readComparison_31 (by decide) ?_
      obtain rfl := Option.some.inj h
      exact hR _ _ _ _ Z dX4_readComparison_58
  · have h := im h c17
    obtain rfl := Option.some.inj h
    exact hR _ _ _ _ Z dX4_readComparison_20
theorem kb_X4_readComparison {rm0 rm : Room} {rc : Nat → Int32 → St → Option St} {l : Launch} {kc : Nat → ClassId} {ad : Nat → Nat} {D : va_G} {adK adV : Nat → Nat} {x1 : Int32} {σ : St} {R : St} (h : f_X4_readComparison rc x1 σ = some R) (hrc : GH kc ad D l adK adV rc rm0) (hrm : RmOK rm0 rm) : KC (eC adK adV) tC kc ad D l yX4_readComparison (.code yX4_readComparison cX4_readComparison 3 none) rm [.ref (ad 5), .int x1] none σ R := by
  refine g_enter (by decide) (Nat.le_of_ble_eq_true rfl) ?_
  intro p e s m args below meth c A hA C hr hlocks Z ls hl
  have hl : lv_has ls 3 [(0, .ref (ad 5)), (1, .int x1)] := hl
  exact w_X4_readComparison_0 C (g_RTv C.1.1 C.1.2.1 hr hlocks hA) hrc hrm Z hl h

set_option maxRecDepth 20000 in
theorem w_X4_readFact_0 {p : Program} {l : Launch} {e : Env} {s : State} {m : MethodId} {args : Array Value} {below : List Frame} {meth : Method} {c : Code} {Q : State → Prop} {D : va_G} {kc : Nat → ClassId} {ad : Nat → Nat} {A : Nat → Prop} {adK adV : Nat → Nat} (C : Cx (eC adK adV) p s m args c cX4_readFact 2 RX4 D kc A) {R : St} {rm0 rm : Room} {rc : Nat → Int32 → St → Option St} {x1 : Int32} {σ : St} (hR : RTv 0 0 p l e rm s m args below meth c cX4_readFact tC kc ad D A Q R) (hrc : GH kc ad D l adK adV rc rm0) (hrm : RmOK rm0 rm) {H : Heap} {locs : List Loc} {ls : Array Slot} (Z : Dy tC kc ad D A s.heap σ H locs) (hl : lv_has ls 2 [(0, .ref (ad 5)), (1, .int x1)]) (h : f_X4_readFact rc x1 σ = some R) : W p l e rm s m args below meth c H locs 0 0 Q (F0 m 0 ls []) := by
  have hx := C.1.1
  have hb := C.1.2.1
  unfold f_X4_readFact at h
  refine lv_aload_n hx hb dX4_readFact_0 rfl (lv_at hl 0 rfl) ?_
  refine va_ldcS hx hb C.1.2.2.2.1 (C.2.2.2.2.1 14 (by decide)) dX4_readFact_1 ?_
  obtain ⟨v21, hv21, h⟩ := ob h
  refine g_callVi (eC_ok adK adV) C Z (k_X4_isWord (by decide) hv21) lk_X4_55 (by decide) rfl rfl hl (rmOut hrm (by decide)) rfl (Nat.le_of_ble_eq_true rfl) (rest := []) rfl dX4_readFact_3 (fun H locs Z => ?_)
  refine lv_if_eq (tgt := 40) hx hb dX4_readFact_6 (by decide) (fun c6 => ?_) (fun c6 => ?_)
  · have h := ip h c6
    refine lv_aload_n hx hb dX4_readFact_40 rfl (lv_at hl 0 rfl) ?_
    refine rg_X4_44 C Z dX4_readFact_41 ?_
    refine lv_bipush (v := 91) hx hb dX4_readFact_44 (by decide) ?_
    refine lv_icmp_ne (tgt := 77) hx hb dX4_readFact_46 (by decide) (fun c46 => ?_) (fun c46 => ?_)
    · have h := im h c46
      refine lv_aload_n hx hb dX4_readFact_77 rfl (lv_at hl 0 rfl) ?_
      refine lv_iload_n hx hb dX4_readFact_78 rfl (lv_at hl 1 rfl) ?_
      obtain ⟨σ22, hσ22, h⟩ := ob h
      refine g_callVv (eC_ok adK adV) C Z (hrc.2.2.2.1 _ _ _ hσ22) lk_X4_145 (by decide) rfl rfl hl (rmIn hrm (by decide)) rfl (Nat.le_of_ble_eq_true rfl) (rest := []) rfl dX4_readFact_79 (fun H locs Z => ?_)
      obtain rfl := Option.some.inj h
      exact hR _ _ _ _ Z dX4_readFact_82
    · have h := ip h c46
      refine lv_aload_n hx hb dX4_readFact_49 rfl (lv_at hl 0 rfl) ?_
      refine lv_iload_n hx hb dX4_readFact_50 rfl (lv_at hl 1 rfl) ?_
      obtain ⟨u23, hu23, h⟩ := ob h
      refine g_callVi (eC_ok adK adV) C Z (k_X4_goesDeeper hu23) lk_X4_138 (by decide) rfl rfl hl (rmOut hrm (by decide)) rfl (Nat.le_of_ble_eq_true rfl) (rest := []) rfl dX4_readFact_51 (fun H locs Z => ?_)
      refine lv_if_eq (tgt := 82) hx hb dX4_readFact_54 (by decide) (fun c54 => ?_) (fun c54 => ?_)
      · have h := ip h c54
        obtain rfl := Option.some.inj h
        exact hR _ _ _ _ Z dX4_readFact_82
      · have h := im h c54
        refine lv_aload_n hx hb dX4_readFact_57 rfl (lv_at hl 0 rfl) ?_
        obtain ⟨σ24, hσ24, h⟩ := ob h
        refine g_callVv (eC_ok adK adV) C Z (k_X4_advance hσ24) lk_X4_37 (by decide) rfl rfl hl (rmOut hrm (by decide)) rfl (Nat.le_of_ble_eq_true rfl) (rest := []) rfl dX4_readFact_58 (fun H locs Z => ?_)
        refine lv_aload_n hx hb dX4_readFact_61 rfl (lv_at hl 0 rfl) ?_
        refine lv_iload_n hx hb dX4_readFact_62 rfl (lv_at hl 1 rfl) ?_
        refine lv_iconst (v := 1) hx hb dX4_readFact_63 (by decide) ?_
        refine lv_iadd hx hb dX4_readFact_64 ?_
        obtain ⟨σ25, hσ25, h⟩ := ob h
        refine g_callVv (eC_ok adK adV) C Z (hrc.1 _ _ _ hσ25) lk_X4_120 (by decide) rfl rfl hl (rmIn hrm (by decide)) rfl (Nat.le_of_ble_eq_true rfl) (rest := []) rfl dX4_readFact_65 (fun H locs Z => ?_)
        refine lv_aload_n hx hb dX4_readFact_68 rfl (lv_at hl 0 rfl) ?_
        refine lv_bipush (v := 93) hx hb dX4_readFact_69 (by decide) ?_
        obtain ⟨σ26, hσ26, h⟩ := ob h
        refine g_callVv (eC_ok adK adV) C Z (k_X4_readClosing hσ26) lk_X4_142 (by decide) rfl rfl hl (rmOut hrm (by decide)) rfl (Nat.le_of_ble_eq_true rfl) (rest := []) rfl dX4_readFact_71 (fun H locs Z => ?_)
        refine lv_goto (tgt := 82) hx hb dX4_readFact_74 (by decide) ?_
        obtain rfl := Option.some.inj h
        exact hR _ _ _ _ Z dX4_readFact_82
  · have h := im h c6
    refine lv_aload_n hx hb dX4_readFact_9 rfl (lv_at hl 0 rfl) ?_
    refine lv_iload_n hx hb dX4_readFact_10 rfl (lv_at hl 1 rfl) ?_
    obtain ⟨u27, hu27, h⟩ := ob h
    refine g_callVi (eC_ok adK adV) C Z (k_X4_goesDeeper hu27) lk_X4_138 (by decide) rfl rfl hl (rmOut hrm (by decide)) rfl (Nat.le_of_ble_eq_true rfl) (rest := []) rfl dX4_readFact_11 (fun H locs Z => ?_)
    refine lv_if_eq (tgt := 82) hx hb dX4_readFact_14 (by decide) (fun c14 => ?_) (fun c14 => ?_)
    · have h := ip h c14
      obtain rfl := Option.some.inj h
      exact hR _ _ _ _ Z dX4_readFact_82
    · have h := im h c14
      refine lv_aload_n hx hb dX4_readFact_17 rfl (lv_at hl 0 rfl) ?_
      obtain ⟨σ28, hσ28, h⟩ := ob h
      refine g_callVv (eC_ok adK adV) C Z (k_X4_advance hσ28) lk_X4_37 (by decide) rfl rfl hl (rmOut hrm (by decide)) rfl (Nat.le_of_ble_eq_true rfl) (rest := []) rfl dX4_readFact_18 (fun H locs Z => ?_)
      refine lv_aload_n hx hb dX4_readFact_21 rfl (lv_at hl 0 rfl) ?_
      refine lv_iload_n hx hb dX4_readFact_22 rfl (lv_at hl 1 rfl) ?_
      refine lv_iconst (v := 1) hx hb dX4_readFact_23 (by decide) ?_
      refine lv_iadd hx hb dX4_readFact_24 ?_
      obtain ⟨σ29, hσ29, h⟩ := ob h
      refine g_callVv (eC_ok adK adV) C Z (hrc.2.2.1 _ _ _ hσ29) lk_X4_131 (by decide) rfl rfl hl (rmIn hrm (by decide)) rfl (Nat.le_of_ble_eq_true rfl) (rest := []) rfl dX4_readFact_25 (fun H locs Z => ?_)
      refine lv_aload_n hx hb dX4_readFact_28 rfl (lv_at hl 0 rfl) ?_
      refine rg_X4_17 C Z dX4_readFact_29 ?_
      refine lv_bipush (v := (-10)) hx hb dX4_readFact_32 (by decide) ?_
      obtain ⟨σ30, hσ30, h⟩ := ob h
      refine g_callVv (eC_ok adK adV) C Z (k_X2_emit hσ30) lk_X4_128 (by decide) rfl rfl hl (rmOut hrm (by decide)) rfl (Nat.le_of_ble_eq_true rfl) (rest := []) rfl dX4_readFact_34 (fun H locs Z => ?_)
      refine lv_goto (tgt := 82) hx hb dX4_readFact_37 (by decide) ?_
      obtain rfl := Option.some.inj h
      exact hR _ _ _ _ Z dX4_readFact_82
theorem kb_X4_readFact {rm0 rm : Room} {rc : Nat → Int32 → St → Option St} {l : Launch} {kc : Nat → ClassId} {ad : Nat → Nat} {D : va_G} {adK adV : Nat → Nat} {x1 : Int32} {σ : St} {R : St} (h : f_X4_readFact rc x1 σ = some R) (hrc : GH kc ad D l adK adV rc rm0) (hrm : RmOK rm0 rm) : KC (eC adK adV) tC kc ad D l yX4_readFact (.code yX4_readFact cX4_readFact 2 none) rm [.ref (ad 5), .int x1] none σ R := by
  refine g_enter (by decide) (Nat.le_of_ble_eq_true rfl) ?_
  intro p e s m args below meth c A hA C hr hlocks Z ls hl
  have hl : lv_has ls 2 [(0, .ref (ad 5)), (1, .int x1)] := hl
  exact w_X4_readFact_0 C (g_RTv C.1.1 C.1.2.1 hr hlocks hA) hrc hrm Z hl h

set_option maxRecDepth 20000 in
theorem w_X4_readPart_7 {p : Program} {l : Launch} {e : Env} {s : State} {m : MethodId} {args : Array Value} {below : List Frame} {meth : Method} {c : Code} {Q : State → Prop} {D : va_G} {kc : Nat → ClassId} {ad : Nat → Nat} {A : Nat → Prop} {adK adV : Nat → Nat} (C : Cx (eC adK adV) p s m args c cX4_readPart 3 RX4 D kc A) {R : St} {rm0 rm : Room} {rc : Nat → Int32 → St → Option St} {x1 : Int32} (hR : RTv 0 0 p l e rm s m args below meth c cX4_readPart tC kc ad D A Q R) (hrc : GH kc ad D l adK adV rc rm0) (hrm : RmOK rm0 rm) : ∀ (n : Nat) (x2 : Int32) (σ : St) (H : Heap) (locs : List Loc) (ls : Array Slot), Dy tC kc ad D A s.heap σ H locs → lv_has ls 3 [(0, .ref (ad 5)), (1, .int x1), (2, .int x2)] → f_X4_readPart_7 rc x1 n x2 σ = some R → W p l e rm s m args below meth c H locs 0 0 Q (F0 m 7 ls []) := by
  have hx := C.1.1
  have hb := C.1.2.1
  intro n
  induction n with
  | zero =>
    intro x2 σ H locs ls Z hl h
    exact absurd (show none = some R from h) (by simp)
  | succ n ih =>
    intro x2 σ H locs ls Z hl h
    rw [f_X4_readPart_7] at h
    refine lv_iload_n hx hb dX4_readPart_7 rfl (lv_at hl 2 rfl) ?_
    refine lv_sipush (v := 400) hx hb dX4_readPart_8 (by decide) ?_
    refine lv_icmp_ge (tgt := 54) hx hb dX4_readPart_11 (by decide) (fun c11 => ?_) (fun c11 => ?_)
    · have h := ip h c11
      obtain rfl := Option.some.inj h
      exact hR _ _ _ _ Z dX4_readPart_54
    · have h := im h c11
      refine lv_aload_n hx hb dX4_readPart_14 rfl (lv_at hl 0 rfl) ?_
      refine rg_X4_31 C Z dX4_readPart_15 ?_
      refine lv_if_ne (tgt := 54) hx hb dX4_readPart_18 (by decide) (fun c18 => ?_) (fun c18 => ?_)
      · have h := im h c18
        obtain rfl := Option.some.inj h
        exact hR _ _ _ _ Z dX4_readPart_54
      · have h := ip h c18
        refine lv_aload_n hx hb dX4_readPart_21 rfl (lv_at hl 0 rfl) ?_
        refine va_ldcS hx hb C.1.2.2.2.1 (C.2.2.2.2.1 13 (by decide)) dX4_readPart_22 ?_
        obtain ⟨v14, hv14, h⟩ := ob h
        refine g_callVi (eC_ok adK adV) C Z (k_X4_isWord (by decide) hv14) lk_X4_55 (by decide) rfl rfl hl (rmOut hrm (by decide)) rfl (Nat.le_of_ble_eq_true rfl) (rest := []) rfl dX4_readPart_24 (fun H locs Z => ?_)
        refine lv_if_eq (tgt := 54) hx hb dX4_readPart_27 (by decide) (fun c27 => ?_) (fun c27 => ?_)
        · have h := ip h c27
          obtain rfl := Option.some.inj h
          exact hR _ _ _ _ Z dX4_readPart_54
        · have h := im h c27
          refine lv_aload_n hx hb dX4_readPart_30 rfl (lv_at hl 0 rfl) ?_
          obtain ⟨σ15, hσ15, h⟩ := ob h
          refine g_callVv (eC_ok adK adV) C Z (k_X4_advance hσ15) lk_X4_37 (by decide) rfl rfl hl (rmOut hrm (by decide)) rfl (Nat.le_of_ble_eq_true rfl) (rest := []) rfl dX4_readPart_31 (fun H locs Z => ?_)
          refine lv_aload_n hx hb dX4_readPart_34 rfl (lv_at hl 0 rfl) ?_
          refine lv_iload_n hx hb dX4_readPart_35 rfl (lv_at hl 1 rfl) ?_
          obtain ⟨σ16, hσ16, h⟩ := ob h
          refine g_callVv (eC_ok adK adV) C Z (hrc.2.2.1 _ _ _ hσ16) lk_X4_131 (by decide) rfl rfl hl (rmIn hrm (by decide)) rfl (Nat.le_of_ble_eq_true rfl) (rest := []) rfl dX4_readPart_36 (fun H locs Z => ?_)
          refine lv_aload_n hx hb dX4_readPart_39 rfl (lv_at hl 0 rfl) ?_
          refine rg_X4_17 C Z dX4_readPart_40 ?_
          refine lv_bipush (v := (-11)) hx hb dX4_readPart_43 (by decide) ?_
          obtain ⟨σ17, hσ17, h⟩ := ob h
          refine g_callVv (eC_ok adK adV) C Z (k_X2_emit hσ17) lk_X4_128 (by decide) rfl rfl hl (rmOut hrm (by decide)) rfl (Nat.le_of_ble_eq_true rfl) (rest := []) rfl dX4_readPart_45 (fun H locs Z => ?_)
          obtain ⟨v18, ev18, h⟩ := lb h
          refine lv_iinc (v := v18) (lv' := [(2, .int v18), (0, .ref (ad 5)), (1, .int x1)]) hx hb dX4_readPart_48 hl (k := 2) rfl (by rw [ev18]; rfl) (by decide) rfl (fun ls hl => ?_)
          refine lv_goto (tgt := 7) hx hb dX4_readPart_51 (by decide) ?_
          exact ih _ _ _ _ _ Z (lv_sub hl [1, 2, 0] rfl) h
set_option maxRecDepth 20000 in
theorem w_X4_readPart_0 {p : Program} {l : Launch} {e : Env} {s : State} {m : MethodId} {args : Array Value} {below : List Frame} {meth : Method} {c : Code} {Q : State → Prop} {D : va_G} {kc : Nat → ClassId} {ad : Nat → Nat} {A : Nat → Prop} {adK adV : Nat → Nat} (C : Cx (eC adK adV) p s m args c cX4_readPart 3 RX4 D kc A) {R : St} {rm0 rm : Room} {rc : Nat → Int32 → St → Option St} {x1 : Int32} {σ : St} (hR : RTv 0 0 p l e rm s m args below meth c cX4_readPart tC kc ad D A Q R) (hrc : GH kc ad D l adK adV rc rm0) (hrm : RmOK rm0 rm) {H : Heap} {locs : List Loc} {ls : Array Slot} (Z : Dy tC kc ad D A s.heap σ H locs) (hl : lv_has ls 3 [(0, .ref (ad 5)), (1, .int x1)]) (h : f_X4_readPart rc x1 σ = some R) : W p l e rm s m args below meth c H locs 0 0 Q (F0 m 0 ls []) := by
  have hx := C.1.1
  have hb := C.1.2.1
  unfold f_X4_readPart at h
  refine lv_aload_n hx hb dX4_readPart_0 rfl (lv_at hl 0 rfl) ?_
  refine lv_iload_n hx hb dX4_readPart_1 rfl (lv_at hl 1 rfl) ?_
  obtain ⟨σ13, hσ13, h⟩ := ob h
  refine g_callVv (eC_ok adK adV) C Z (hrc.2.2.1 _ _ _ hσ13) lk_X4_131 (by decide) rfl rfl hl (rmIn hrm (by decide)) rfl (Nat.le_of_ble_eq_true rfl) (rest := []) rfl dX4_readPart_2 (fun H locs Z => ?_)
  refine lv_iconst (v := 0) hx hb dX4_readPart_5 (by decide) ?_
  refine lv_istore_n (lv' := [(2, .int 0), (0, .ref (ad 5)), (1, .int x1)]) hx hb dX4_readPart_6 rfl hl (by decide) rfl (fun ls hl => ?_)
  exact w_X4_readPart_7 C hR hrc hrm _ _ _ _ _ _ Z (lv_sub hl [1, 2, 0] rfl) h
theorem kb_X4_readPart {rm0 rm : Room} {rc : Nat → Int32 → St → Option St} {l : Launch} {kc : Nat → ClassId} {ad : Nat → Nat} {D : va_G} {adK adV : Nat → Nat} {x1 : Int32} {σ : St} {R : St} (h : f_X4_readPart rc x1 σ = some R) (hrc : GH kc ad D l adK adV rc rm0) (hrm : RmOK rm0 rm) : KC (eC adK adV) tC kc ad D l yX4_readPart (.code yX4_readPart cX4_readPart 3 none) rm [.ref (ad 5), .int x1] none σ R := by
  refine g_enter (by decide) (Nat.le_of_ble_eq_true rfl) ?_
  intro p e s m args below meth c A hA C hr hlocks Z ls hl
  have hl : lv_has ls 3 [(0, .ref (ad 5)), (1, .int x1)] := hl
  exact w_X4_readPart_0 C (g_RTv C.1.1 C.1.2.1 hr hlocks hA) hrc hrm Z hl h

set_option maxRecDepth 20000 in
theorem w_X4_readTest_7 {p : Program} {l : Launch} {e : Env} {s : State} {m : MethodId} {args : Array Value} {below : List Frame} {meth : Method} {c : Code} {Q : State → Prop} {D : va_G} {kc : Nat → ClassId} {ad : Nat → Nat} {A : Nat → Prop} {adK adV : Nat → Nat} (C : Cx (eC adK adV) p s m args c cX4_readTest 3 RX4 D kc A) {R : St} {rm0 rm : Room} {rc : Nat → Int32 → St → Option St} {x1 : Int32} (hR : RTv 0 0 p l e rm s m args below meth c cX4_readTest tC kc ad D A Q R) (hrc : GH kc ad D l adK adV rc rm0) (hrm : RmOK rm0 rm) : ∀ (n : Nat) (x2 : Int32) (σ : St) (H : Heap) (locs : List Loc) (ls : Array Slot), Dy tC kc ad D A s.heap σ H locs → lv_has ls 3 [(0, .ref (ad 5)), (1, .int x1), (2, .int x2)] → f_X4_readTest_7 rc x1 n x2 σ = some R → W p l e rm s m args below meth c H locs 0 0 Q (F0 m 7 ls []) := by
  have hx := C.1.1
  have hb := C.1.2.1
  intro n
  induction n with
  | zero =>
    intro x2 σ H locs ls Z hl h
    exact absurd (show none = some R from h) (by simp)
  | succ n ih =>
    intro x2 σ H locs ls Z hl h
    rw [f_X4_readTest_7] at h
    refine lv_iload_n hx hb dX4_readTest_7 rfl (lv_at hl 2 rfl) ?_
    refine lv_sipush (v := 400) hx hb dX4_readTest_8 (by decide) ?_
    refine lv_icmp_ge (tgt := 54) hx hb dX4_readTest_11 (by decide) (fun c11 => ?_) (fun c11 => ?_)
    · have h := ip h c11
      obtain rfl := Option.some.inj h
      exact hR _ _ _ _ Z dX4_readTest_54
    · have h := im h c11
      refine lv_aload_n hx hb dX4_readTest_14 rfl (lv_at hl 0 rfl) ?_
      refine rg_X4_31 C Z dX4_readTest_15 ?_
      refine lv_if_ne (tgt := 54) hx hb dX4_readTest_18 (by decide) (fun c18 => ?_) (fun c18 => ?_)
      · have h := im h c18
        obtain rfl := Option.some.inj h
        exact hR _ _ _ _ Z dX4_readTest_54
      · have h := ip h c18
        refine lv_aload_n hx hb dX4_readTest_21 rfl (lv_at hl 0 rfl) ?_
        refine va_ldcS hx hb C.1.2.2.2.1 (C.2.2.2.2.1 12 (by decide)) dX4_readTest_22 ?_
        obtain ⟨v14, hv14, h⟩ := ob h
        refine g_callVi (eC_ok adK adV) C Z (k_X4_isWord (by decide) hv14) lk_X4_55 (by decide) rfl rfl hl (rmOut hrm (by decide)) rfl (Nat.le_of_ble_eq_true rfl) (rest := []) rfl dX4_readTest_24 (fun H locs Z => ?_)
        refine lv_if_eq (tgt := 54) hx hb dX4_readTest_27 (by decide) (fun c27 => ?_) (fun c27 => ?_)
        · have h := ip h c27
          obtain rfl := Option.some.inj h
          exact hR _ _ _ _ Z dX4_readTest_54
        · have h := im h c27
          refine lv_aload_n hx hb dX4_readTest_30 rfl (lv_at hl 0 rfl) ?_
          obtain ⟨σ15, hσ15, h⟩ := ob h
          refine g_callVv (eC_ok adK adV) C Z (k_X4_advance hσ15) lk_X4_37 (by decide) rfl rfl hl (rmOut hrm (by decide)) rfl (Nat.le_of_ble_eq_true rfl) (rest := []) rfl dX4_readTest_31 (fun H locs Z => ?_)
          refine lv_aload_n hx hb dX4_readTest_34 rfl (lv_at hl 0 rfl) ?_
          refine lv_iload_n hx hb dX4_readTest_35 rfl (lv_at hl 1 rfl) ?_
          obtain ⟨σ16, hσ16, h⟩ := ob h
          refine g_callVv (eC_ok adK adV) C Z (hrc.2.1 _ _ _ hσ16) lk_X4_123 (by decide) rfl rfl hl (rmIn hrm (by decide)) rfl (Nat.le_of_ble_eq_true rfl) (rest := []) rfl dX4_readTest_36 (fun H locs Z => ?_)
          refine lv_aload_n hx hb dX4_readTest_39 rfl (lv_at hl 0 rfl) ?_
          refine rg_X4_17 C Z dX4_readTest_40 ?_
          refine lv_bipush (v := (-12)) hx hb dX4_readTest_43 (by decide) ?_
          obtain ⟨σ17, hσ17, h⟩ := ob h
          refine g_callVv (eC_ok adK adV) C Z (k_X2_emit hσ17) lk_X4_128 (by decide) rfl rfl hl (rmOut hrm (by decide)) rfl (Nat.le_of_ble_eq_true rfl) (rest := []) rfl dX4_readTest_45 (fun H locs Z => ?_)
          obtain ⟨v18, ev18, h⟩ := lb h
          refine lv_iinc (v := v18) (lv' := [(2, .int v18), (0, .ref (ad 5)), (1, .int x1)]) hx hb dX4_readTest_48 hl (k := 2) rfl (by rw [ev18]; rfl) (by decide) rfl (fun ls hl => ?_)
          refine lv_goto (tgt := 7) hx hb dX4_readTest_51 (by decide) ?_
          exact ih _ _ _ _ _ Z (lv_sub hl [1, 2, 0] rfl) h
set_option maxRecDepth 20000 in
theorem w_X4_readTest_0 {p : Program} {l : Launch} {e : Env} {s : State} {m : MethodId} {args : Array Value} {below : List Frame} {meth : Method} {c : Code} {Q : State → Prop} {D : va_G} {kc : Nat → ClassId} {ad : Nat → Nat} {A : Nat → Prop} {adK adV : Nat → Nat} (C : Cx (eC adK adV) p s m args c cX4_readTest 3 RX4 D kc A) {R : St} {rm0 rm : Room} {rc : Nat → Int32 → St → Option St} {x1 : Int32} {σ : St} (hR : RTv 0 0 p l e rm s m args below meth c cX4_readTest tC kc ad D A Q R) (hrc : GH kc ad D l adK adV rc rm0) (hrm : RmOK rm0 rm) {H : Heap} {locs : List Loc} {ls : Array Slot} (Z : Dy tC kc ad D A s.heap σ H locs) (hl : lv_has ls 3 [(0, .ref (ad 5)), (1, .int x1)]) (h : f_X4_readTest rc x1 σ = some R) : W p l e rm s m args below meth c H locs 0 0 Q (F0 m 0 ls []) := by
  have hx := C.1.1
  have hb := C.1.2.1
  unfold f_X4_readTest at h
  refine lv_aload_n hx hb dX4_readTest_0 rfl (lv_at hl 0 rfl) ?_
  refine lv_iload_n hx hb dX4_readTest_1 rfl (lv_at hl 1 rfl) ?_
  obtain ⟨σ13, hσ13, h⟩ := ob h
  refine g_callVv (eC_ok adK adV) C Z (hrc.2.1 _ _ _ hσ13) lk_X4_123 (by decide) rfl rfl hl (rmIn hrm (by decide)) rfl (Nat.le_of_ble_eq_true rfl) (rest := []) rfl dX4_readTest_2 (fun H locs Z => ?_)
  refine lv_iconst (v := 0) hx hb dX4_readTest_5 (by decide) ?_
  refine lv_istore_n (lv' := [(2, .int 0), (0, .ref (ad 5)), (1, .int x1)]) hx hb dX4_readTest_6 rfl hl (by decide) rfl (fun ls hl => ?_)
  exact w_X4_readTest_7 C hR hrc hrm _ _ _ _ _ _ Z (lv_sub hl [1, 2, 0] rfl) h
theorem kb_X4_readTest {rm0 rm : Room} {rc : Nat → Int32 → St → Option St} {l : Launch} {kc : Nat → ClassId} {ad : Nat → Nat} {D : va_G} {adK adV : Nat → Nat} {x1 : Int32} {σ : St} {R : St} (h : f_X4_readTest rc x1 σ = some R) (hrc : GH kc ad D l adK adV rc rm0) (hrm : RmOK rm0 rm) : KC (eC adK adV) tC kc ad D l yX4_readTest (.code yX4_readTest cX4_readTest 3 none) rm [.ref (ad 5), .int x1] none σ R := by
  refine g_enter (by decide) (Nat.le_of_ble_eq_true rfl) ?_
  intro p e s m args below meth c A hA C hr hlocks Z ls hl
  have hl : lv_has ls 3 [(0, .ref (ad 5)), (1, .int x1)] := hl
  exact w_X4_readTest_0 C (g_RTv C.1.1 C.1.2.1 hr hlocks hA) hrc hrm Z hl h
def rmN (n : Nat) : Room := { frames := n + 40, cells := 0, slots := 0, locals := 40 * n + 1000 }
theorem rmN_ok (n : Nat) : RmOK (rmN n) (rmN (n + 1)) := ⟨rfl, rfl, rfl, rfl, by show n + 40 + 1 ≤ n + 1 + 40; omega, by show 40 + (40 * n + 1000) ≤ 40 * (n + 1) + 1000; omega, by show 40 ≤ n + 1 + 40; omega, by show 1000 ≤ 40 * (n + 1) + 1000; omega⟩
theorem k_RG (kc : Nat → ClassId) (ad : Nat → Nat) (D : va_G) (l : Launch) (adK adV : Nat → Nat) : ∀ n : Nat, GH kc ad D l adK adV (RG n) (rmN n) := by
  intro n
  induction n with
  | zero => exact ⟨fun _ _ _ h => absurd (show none = some _ from h) (by simp), fun _ _ _ h => absurd (show none = some _ from h) (by simp), fun _ _ _ h => absurd (show none = some _ from h) (by simp), fun _ _ _ h => absurd (show none = some _ from h) (by simp), fun _ _ _ h => absurd (show none = some _ from h) (by simp), fun _ _ _ h => absurd (show none = some _ from h) (by simp), fun _ _ _ h => absurd (show none = some _ from h) (by simp)⟩
  | succ n ih => exact ⟨fun _ _ _ h => kb_X4_readTest h ih (rmN_ok n), fun _ _ _ h => kb_X4_readPart h ih (rmN_ok n), fun _ _ _ h => kb_X4_readFact h ih (rmN_ok n), fun _ _ _ h => kb_X4_readComparison h ih (rmN_ok n), fun _ _ _ h => kb_X4_readSum h ih (rmN_ok n), fun _ _ _ h => kb_X4_readProduct h ih (rmN_ok n), fun _ _ _ h => kb_X4_readValue h ih (rmN_ok n)⟩
theorem k_rG (kc : Nat → ClassId) (ad : Nat → Nat) (D : va_G) (l : Launch) (adK adV : Nat → Nat) : GH kc ad D l adK adV rG (rmN 120) := k_RG kc ad D l adK adV 120
def r_X4_readCond : Room := { frames := 161, cells := 0, slots := 0, locals := 5822 }
set_option maxRecDepth 20000 in
theorem w_X4_readCond_27 {p : Program} {l : Launch} {e : Env} {s : State} {m : MethodId} {args : Array Value} {below : List Frame} {meth : Method} {c : Code} {Q : State → Prop} {D : va_G} {kc : Nat → ClassId} {ad : Nat → Nat} {A : Nat → Prop} {adK adV : Nat → Nat} (C : Cx (eC adK adV) p s m args c cX4_readCond 2 RX4 D kc A) {R : St} {y0 : Int32} {σ : St} (hR : RTv 0 0 p l e r_X4_readCond s m args below meth c cX4_readCond tC kc ad D A Q R) {H : Heap} {locs : List Loc} {ls : Array Slot} (Z : Dy tC kc ad D A s.heap σ H locs) (hl : lv_has ls 2 [(0, .ref (ad 5))]) (h : f_X4_readCond_27 y0 σ = some R) : W p l e r_X4_readCond s m args below meth c H locs 0 0 Q (F0 m 27 ls [.int y0]) := by
  have hx := C.1.1
  have hb := C.1.2.1
  unfold f_X4_readCond_27 at h
  refine lv_istore_n (lv' := [(1, .int y0), (0, .ref (ad 5))]) hx hb dX4_readCond_27 rfl hl (by decide) rfl (fun ls hl => ?_)
  refine lv_aload_n hx hb dX4_readCond_28 rfl (lv_at hl 1 rfl) ?_
  refine rg_X4_31 C Z dX4_readCond_29 ?_
  refine lv_if_ne (tgt := 39) hx hb dX4_readCond_32 (by decide) (fun c32 => ?_) (fun c32 => ?_)
  · have h := im h c32
    obtain rfl := Option.some.inj h
    exact hR _ _ _ _ Z dX4_readCond_39
  · have h := ip h c32
    refine lv_iload_n hx hb dX4_readCond_35 rfl (lv_at hl 0 rfl) ?_
    refine lv_if_ne (tgt := 40) hx hb dX4_readCond_36 (by decide) (fun c36 => ?_) (fun c36 => ?_)
    · have h := im h c36
      refine lv_aload_n hx hb dX4_readCond_40 rfl (lv_at hl 1 rfl) ?_
      refine rg_X4_17 C Z dX4_readCond_41 ?_
      refine lv_iload_n hx hb dX4_readCond_44 rfl (lv_at hl 0 rfl) ?_
      obtain ⟨σ13, hσ13, h⟩ := ob h
      refine g_callVv (eC_ok adK adV) C Z (k_X2_setCond hσ13) lk_X4_117 (by decide) rfl rfl hl (by decide) rfl (Nat.le_of_ble_eq_true rfl) (rest := []) rfl dX4_readCond_45 (fun H locs Z => ?_)
      refine lv_aload_n hx hb dX4_readCond_48 rfl (lv_at hl 1 rfl) ?_
      obtain ⟨σ14, hσ14, h⟩ := ob h
      refine g_callVv (eC_ok adK adV) C Z (k_X4_advance hσ14) lk_X4_37 (by decide) rfl rfl hl (by decide) rfl (Nat.le_of_ble_eq_true rfl) (rest := []) rfl dX4_readCond_49 (fun H locs Z => ?_)
      refine lv_aload_n hx hb dX4_readCond_52 rfl (lv_at hl 1 rfl) ?_
      refine lv_iconst (v := 0) hx hb dX4_readCond_53 (by decide) ?_
      obtain ⟨σ15, hσ15, h⟩ := ob h
      refine g_callVv (eC_ok adK adV) C Z ((k_rG kc ad D l adK adV).1 _ _ _ hσ15) lk_X4_120 (by decide) rfl rfl hl (by decide) rfl (Nat.le_of_ble_eq_true rfl) (rest := []) rfl dX4_readCond_54 (fun H locs Z => ?_)
      obtain rfl := Option.some.inj h
      exact hR _ _ _ _ Z dX4_readCond_57
    · have h := ip h c36
      obtain rfl := Option.some.inj h
      exact hR _ _ _ _ Z dX4_readCond_39
set_option maxRecDepth 20000 in
theorem w_X4_readCond_0 {p : Program} {l : Launch} {e : Env} {s : State} {m : MethodId} {args : Array Value} {below : List Frame} {meth : Method} {c : Code} {Q : State → Prop} {D : va_G} {kc : Nat → ClassId} {ad : Nat → Nat} {A : Nat → Prop} {adK adV : Nat → Nat} (C : Cx (eC adK adV) p s m args c cX4_readCond 2 RX4 D kc A) {R : St} {σ : St} (hR : RTv 0 0 p l e r_X4_readCond s m args below meth c cX4_readCond tC kc ad D A Q R) {H : Heap} {locs : List Loc} {ls : Array Slot} (Z : Dy tC kc ad D A s.heap σ H locs) (hl : lv_has ls 2 [(0, .ref (ad 5))]) (h : f_X4_readCond σ = some R) : W p l e r_X4_readCond s m args below meth c H locs 0 0 Q (F0 m 0 ls []) := by
  have hx := C.1.1
  have hb := C.1.2.1
  unfold f_X4_readCond at h
  refine lv_aload_n hx hb dX4_readCond_0 rfl (lv_at hl 0 rfl) ?_
  refine va_ldcS hx hb C.1.2.2.2.1 (C.2.2.2.2.1 10 (by decide)) dX4_readCond_1 ?_
  obtain ⟨v11, hv11, h⟩ := ob h
  refine g_callVi (eC_ok adK adV) C Z (k_X4_isWord (by decide) hv11) lk_X4_55 (by decide) rfl rfl hl (by decide) rfl (Nat.le_of_ble_eq_true rfl) (rest := []) rfl dX4_readCond_3 (fun H locs Z => ?_)
  refine lv_if_eq (tgt := 13) hx hb dX4_readCond_6 (by decide) (fun c6 => ?_) (fun c6 => ?_)
  · have h := ip h c6
    refine lv_aload_n hx hb dX4_readCond_13 rfl (lv_at hl 0 rfl) ?_
    refine va_ldcS hx hb C.1.2.2.2.1 (C.2.2.2.2.1 11 (by decide)) dX4_readCond_14 ?_
    obtain ⟨v12, hv12, h⟩ := ob h
    refine g_callVi (eC_ok adK adV) C Z (k_X4_isWord (by decide) hv12) lk_X4_55 (by decide) rfl rfl hl (by decide) rfl (Nat.le_of_ble_eq_true rfl) (rest := []) rfl dX4_readCond_16 (fun H locs Z => ?_)
    refine lv_if_eq (tgt := 26) hx hb dX4_readCond_19 (by decide) (fun c19 => ?_) (fun c19 => ?_)
    · have h := ip h c19
      refine lv_iconst (v := 0) hx hb dX4_readCond_26 (by decide) ?_
      exact w_X4_readCond_27 C hR Z (lv_sub hl [0] rfl) h
    · have h := im h c19
      refine lv_iconst (v := 2) hx hb dX4_readCond_22 (by decide) ?_
      refine lv_goto (tgt := 27) hx hb dX4_readCond_23 (by decide) ?_
      exact w_X4_readCond_27 C hR Z (lv_sub hl [0] rfl) h
  · have h := im h c6
    refine lv_iconst (v := 1) hx hb dX4_readCond_9 (by decide) ?_
    refine lv_goto (tgt := 27) hx hb dX4_readCond_10 (by decide) ?_
    exact w_X4_readCond_27 C hR Z (lv_sub hl [0] rfl) h
theorem k_X4_readCond {l : Launch} {kc : Nat → ClassId} {ad : Nat → Nat} {D : va_G} {adK adV : Nat → Nat} {σ : St} {R : St} (h : f_X4_readCond σ = some R) : KC (eC adK adV) tC kc ad D l yX4_readCond (.code yX4_readCond cX4_readCond 2 none) r_X4_readCond [.ref (ad 5)] none σ R := by
  refine g_enter (by decide) (Nat.le_of_ble_eq_true rfl) ?_
  intro p e s m args below meth c A hA C hr hlocks Z ls hl
  have hl : lv_has ls 2 [(0, .ref (ad 5))] := hl
  exact w_X4_readCond_0 C (g_RTv C.1.1 C.1.2.1 hr hlocks hA)  Z hl h
def r_X4_readClause : Room := { frames := 162, cells := 0, slots := 0, locals := 5843 }
set_option maxRecDepth 20000 in
theorem w_X4_readClause_162 {p : Program} {l : Launch} {e : Env} {s : State} {m : MethodId} {args : Array Value} {below : List Frame} {meth : Method} {c : Code} {Q : State → Prop} {D : va_G} {kc : Nat → ClassId} {ad : Nat → Nat} {A : Nat → Prop} {adK adV : Nat → Nat} (C : Cx (eC adK adV) p s m args c cX4_readClause 4 RX4 D kc A) {R : St} {σ : St} (hR : RTv 0 0 p l e r_X4_readClause s m args below meth c cX4_readClause tC kc ad D A Q R) {H : Heap} {locs : List Loc} {ls : Array Slot} (Z : Dy tC kc ad D A s.heap σ H locs) (hl : lv_has ls 4 [(0, .ref (ad 5))]) (h : f_X4_readClause_162 σ = some R) : W p l e r_X4_readClause s m args below meth c H locs 0 0 Q (F0 m 162 ls []) := by
  have hx := C.1.1
  have hb := C.1.2.1
  unfold f_X4_readClause_162 at h
  refine lv_aload_n hx hb dX4_readClause_162 rfl (lv_at hl 0 rfl) ?_
  refine rg_X4_17 C Z dX4_readClause_163 ?_
  obtain ⟨σ49, hσ49, h⟩ := ob h
  refine g_callVv (eC_ok adK adV) C Z (k_X2_endClause hσ49) lk_X4_90 (by decide) rfl rfl hl (by decide) rfl (Nat.le_of_ble_eq_true rfl) (rest := []) rfl dX4_readClause_166 (fun H locs Z => ?_)
  obtain rfl := Option.some.inj h
  exact hR _ _ _ _ Z dX4_readClause_169
set_option maxRecDepth 20000 in
theorem w_X4_readClause_145 {p : Program} {l : Launch} {e : Env} {s : State} {m : MethodId} {args : Array Value} {below : List Frame} {meth : Method} {c : Code} {Q : State → Prop} {D : va_G} {kc : Nat → ClassId} {ad : Nat → Nat} {A : Nat → Prop} {adK adV : Nat → Nat} (C : Cx (eC adK adV) p s m args c cX4_readClause 4 RX4 D kc A) {R : St} {x2 : Int32} {σ : St} (hR : RTv 0 0 p l e r_X4_readClause s m args below meth c cX4_readClause tC kc ad D A Q R) {H : Heap} {locs : List Loc} {ls : Array Slot} (Z : Dy tC kc ad D A s.heap σ H locs) (hl : lv_has ls 4 [(0, .ref (ad 5)), (2, .int x2)]) (h : f_X4_readClause_145 x2 σ = some R) : W p l e r_X4_readClause s m args below meth c H locs 0 0 Q (F0 m 145 ls []) := by
  have hx := C.1.1
  have hb := C.1.2.1
  unfold f_X4_readClause_145 at h
  refine lv_aload_n hx hb dX4_readClause_145 rfl (lv_at hl 0 rfl) ?_
  refine rg_X4_17 C Z dX4_readClause_146 ?_
  obtain ⟨σ47, hσ47, h⟩ := ob h
  refine g_callVv (eC_ok adK adV) C Z (k_X2_beginCond hσ47) lk_X4_84 (by decide) rfl rfl hl (by decide) rfl (Nat.le_of_ble_eq_true rfl) (rest := []) rfl dX4_readClause_149 (fun H locs Z => ?_)
  refine lv_iload_n hx hb dX4_readClause_152 rfl (lv_at hl 1 rfl) ?_
  refine lv_bipush (v := 7) hx hb dX4_readClause_153 (by decide) ?_
  refine lv_icmp_eq (tgt := 162) hx hb dX4_readClause_155 (by decide) (fun c155 => ?_) (fun c155 => ?_)
  · have h := ip h c155
    exact w_X4_readClause_162 C hR Z (lv_sub hl [0] rfl) h
  · have h := im h c155
    refine lv_aload_n hx hb dX4_readClause_158 rfl (lv_at hl 0 rfl) ?_
    obtain ⟨σ48, hσ48, h⟩ := ob h
    refine g_callVv (eC_ok adK adV) C Z (k_X4_readCond hσ48) lk_X4_87 (by decide) rfl rfl hl (by decide) rfl (Nat.le_of_ble_eq_true rfl) (rest := []) rfl dX4_readClause_159 (fun H locs Z => ?_)
    exact w_X4_readClause_162 C hR Z (lv_sub hl [0] rfl) h
set_option maxRecDepth 20000 in
theorem w_X4_readClause_82 {p : Program} {l : Launch} {e : Env} {s : State} {m : MethodId} {args : Array Value} {below : List Frame} {meth : Method} {c : Code} {Q : State → Prop} {D : va_G} {kc : Nat → ClassId} {ad : Nat → Nat} {A : Nat → Prop} {adK adV : Nat → Nat} (C : Cx (eC adK adV) p s m args c cX4_readClause 4 RX4 D kc A) {R : St} {x1 : Int32} {x2 : Int32} {x3 : Int32} {σ : St} (hR : RTv 0 0 p l e r_X4_readClause s m args below meth c cX4_readClause tC kc ad D A Q R) {H : Heap} {locs : List Loc} {ls : Array Slot} (Z : Dy tC kc ad D A s.heap σ H locs) (hl : lv_has ls 4 [(0, .ref (ad 5)), (1, .int x1), (2, .int x2), (3, .int x3)]) (h : f_X4_readClause_82 x1 x2 x3 σ = some R) : W p l e r_X4_readClause s m args below meth c H locs 0 0 Q (F0 m 82 ls []) := by
  have hx := C.1.1
  have hb := C.1.2.1
  unfold f_X4_readClause_82 at h
  refine lv_aload_n hx hb dX4_readClause_82 rfl (lv_at hl 0 rfl) ?_
  refine rg_X4_17 C Z dX4_readClause_83 ?_
  obtain ⟨v40, hv40, h⟩ := ob h
  refine g_callVi (eC_ok adK adV) C Z (k_X2_clausesRead hv40) lk_X4_67 (by decide) rfl rfl hl (by decide) rfl (Nat.le_of_ble_eq_true rfl) (rest := []) rfl dX4_readClause_86 (fun H locs Z => ?_)
  refine lv_bipush (v := 12) hx hb dX4_readClause_89 (by decide) ?_
  refine lv_icmp_lt (tgt := 100) hx hb dX4_readClause_91 (by decide) (fun c91 => ?_) (fun c91 => ?_)
  · have h := ip h c91
    refine lv_aload_n hx hb dX4_readClause_100 rfl (lv_at hl 0 rfl) ?_
    obtain ⟨σ41, hσ41, h⟩ := ob h
    refine g_callVv (eC_ok adK adV) C Z (k_X4_advance hσ41) lk_X4_37 (by decide) rfl rfl hl (by decide) rfl (Nat.le_of_ble_eq_true rfl) (rest := []) rfl dX4_readClause_101 (fun H locs Z => ?_)
    refine lv_iload_n hx hb dX4_readClause_104 rfl (lv_at hl 2 rfl) ?_
    refine lv_bipush (v := 7) hx hb dX4_readClause_105 (by decide) ?_
    refine lv_icmp_ne (tgt := 118) hx hb dX4_readClause_107 (by decide) (fun c107 => ?_) (fun c107 => ?_)
    · have h := im h c107
      refine lv_iload_n hx hb dX4_readClause_118 rfl (lv_at hl 2 rfl) ?_
      refine lv_iconst (v := (-1)) hx hb dX4_readClause_119 (by decide) ?_
      refine lv_icmp_ne (tgt := 131) hx hb dX4_readClause_120 (by decide) (fun c120 => ?_) (fun c120 => ?_)
      · have h := im h c120
        refine lv_aload_n hx hb dX4_readClause_131 rfl (lv_at hl 0 rfl) ?_
        refine rg_X4_17 C Z dX4_readClause_132 ?_
        refine lv_iload_n hx hb dX4_readClause_135 rfl (lv_at hl 2 rfl) ?_
        refine lv_iconst (v := 0) hx hb dX4_readClause_136 (by decide) ?_
        obtain ⟨σ42, hσ42, h⟩ := ob h
        refine g_callVv (eC_ok adK adV) C Z (k_X2_beginClause hσ42) lk_X4_77 (by decide) rfl rfl hl (by decide) rfl (Nat.le_of_ble_eq_true rfl) (rest := []) rfl dX4_readClause_137 (fun H locs Z => ?_)
        refine lv_aload_n hx hb dX4_readClause_140 rfl (lv_at hl 0 rfl) ?_
        refine lv_iconst (v := 0) hx hb dX4_readClause_141 (by decide) ?_
        obtain ⟨σ43, hσ43, h⟩ := ob h
        refine g_callVv (eC_ok adK adV) C Z ((k_rG kc ad D l adK adV).2.2.2.2.1 _ _ _ hσ43) lk_X4_81 (by decide) rfl rfl hl (by decide) rfl (Nat.le_of_ble_eq_true rfl) (rest := []) rfl dX4_readClause_142 (fun H locs Z => ?_)
        exact w_X4_readClause_145 C hR Z (lv_sub hl [0, 2] rfl) h
      · have h := ip h c120
        refine lv_aload_n hx hb dX4_readClause_123 rfl (lv_at hl 0 rfl) ?_
        refine lv_iload_n hx hb dX4_readClause_124 rfl (lv_at hl 3 rfl) ?_
        obtain ⟨σ44, hσ44, h⟩ := ob h
        refine g_callVv (eC_ok adK adV) C Z (k_X4_readWhat hσ44) lk_X4_74 (by decide) rfl rfl hl (by decide) rfl (Nat.le_of_ble_eq_true rfl) (rest := []) rfl dX4_readClause_125 (fun H locs Z => ?_)
        refine lv_goto (tgt := 145) hx hb dX4_readClause_128 (by decide) ?_
        exact w_X4_readClause_145 C hR Z (lv_sub hl [0, 2] rfl) h
    · have h := ip h c107
      refine lv_aload_n hx hb dX4_readClause_110 rfl (lv_at hl 0 rfl) ?_
      refine lv_iload_n hx hb dX4_readClause_111 rfl (lv_at hl 1 rfl) ?_
      obtain ⟨σ45, hσ45, h⟩ := ob h
      refine g_callVv (eC_ok adK adV) C Z (k_X4_readStruck hσ45) lk_X4_71 (by decide) rfl rfl hl (by decide) rfl (Nat.le_of_ble_eq_true rfl) (rest := []) rfl dX4_readClause_112 (fun H locs Z => ?_)
      refine lv_goto (tgt := 145) hx hb dX4_readClause_115 (by decide) ?_
      exact w_X4_readClause_145 C hR Z (lv_sub hl [0, 2] rfl) h
  · have h := im h c91
    refine lv_aload_n hx hb dX4_readClause_94 rfl (lv_at hl 0 rfl) ?_
    refine lv_iconst (v := 4) hx hb dX4_readClause_95 (by decide) ?_
    obtain ⟨σ46, hσ46, h⟩ := ob h
    refine g_callVv (eC_ok adK adV) C Z (k_X4_fail hσ46) lk_X4_47 (by decide) rfl rfl hl (by decide) rfl (Nat.le_of_ble_eq_true rfl) (rest := []) rfl dX4_readClause_96 (fun H locs Z => ?_)
    obtain rfl := Option.some.inj h
    exact hR _ _ _ _ Z dX4_readClause_99
set_option maxRecDepth 20000 in
theorem w_X4_readClause_42 {p : Program} {l : Launch} {e : Env} {s : State} {m : MethodId} {args : Array Value} {below : List Frame} {meth : Method} {c : Code} {Q : State → Prop} {D : va_G} {kc : Nat → ClassId} {ad : Nat → Nat} {A : Nat → Prop} {adK adV : Nat → Nat} (C : Cx (eC adK adV) p s m args c cX4_readClause 4 RX4 D kc A) {R : St} {x1 : Int32} {y0 : Int32} {σ : St} (hR : RTv 0 0 p l e r_X4_readClause s m args below meth c cX4_readClause tC kc ad D A Q R) {H : Heap} {locs : List Loc} {ls : Array Slot} (Z : Dy tC kc ad D A s.heap σ H locs) (hl : lv_has ls 4 [(0, .ref (ad 5)), (1, .int x1)]) (h : f_X4_readClause_42 x1 y0 σ = some R) : W p l e r_X4_readClause s m args below meth c H locs 0 0 Q (F0 m 42 ls [.int y0]) := by
  have hx := C.1.1
  have hb := C.1.2.1
  unfold f_X4_readClause_42 at h
  refine lv_istore_n (lv' := [(2, .int y0), (0, .ref (ad 5)), (1, .int x1)]) hx hb dX4_readClause_42 rfl hl (by decide) rfl (fun ls hl => ?_)
  refine lv_aload_n hx hb dX4_readClause_43 rfl (lv_at hl 1 rfl) ?_
  refine va_ldcS hx hb C.1.2.2.2.1 (C.2.2.2.2.1 3 (by decide)) dX4_readClause_44 ?_
  obtain ⟨v36, hv36, h⟩ := ob h
  refine g_callVi (eC_ok adK adV) C Z (k_X4_isWord (by decide) hv36) lk_X4_55 (by decide) rfl rfl hl (by decide) rfl (Nat.le_of_ble_eq_true rfl) (rest := []) rfl dX4_readClause_46 (fun H locs Z => ?_)
  obtain ⟨v37, ev37, h⟩ := lb h
  have hj : W p l e r_X4_readClause s m args below meth c H locs 0 0 Q (F0 m 57 ls [.int v37]) := by
    refine lv_istore_n (lv' := [(3, .int v37), (2, .int y0), (0, .ref (ad 5)), (1, .int x1)]) hx hb dX4_readClause_57 rfl hl (by decide) rfl (fun ls hl => ?_)
    refine lv_iload_n hx hb dX4_readClause_58 rfl (lv_at hl 1 rfl) ?_
    refine lv_iconst (v := (-1)) hx hb dX4_readClause_59 (by decide) ?_
    refine lv_icmp_ne (tgt := 82) hx hb dX4_readClause_60 (by decide) (fun c60 => ?_) (fun c60 => ?_)
    · have h := im h c60
      exact w_X4_readClause_82 C hR Z (lv_sub hl [2, 3, 1, 0] rfl) h
    · have h := ip h c60
      refine lv_iload_n hx hb dX4_readClause_63 rfl (lv_at hl 0 rfl) ?_
      refine lv_if_ne (tgt := 82) hx hb dX4_readClause_64 (by decide) (fun c64 => ?_) (fun c64 => ?_)
      · have h := im h c64
        exact w_X4_readClause_82 C hR Z (lv_sub hl [2, 3, 1, 0] rfl) h
      · have h := ip h c64
        refine lv_aload_n hx hb dX4_readClause_67 rfl (lv_at hl 2 rfl) ?_
        refine va_ldcS hx hb C.1.2.2.2.1 (C.2.2.2.2.1 4 (by decide)) dX4_readClause_68 ?_
        obtain ⟨v38, hv38, h⟩ := ob h
        refine g_callVi (eC_ok adK adV) C Z (k_X4_isWord (by decide) hv38) lk_X4_55 (by decide) rfl rfl hl (by decide) rfl (Nat.le_of_ble_eq_true rfl) (rest := []) rfl dX4_readClause_70 (fun H locs Z => ?_)
        refine lv_if_ne (tgt := 82) hx hb dX4_readClause_73 (by decide) (fun c73 => ?_) (fun c73 => ?_)
        · have h := im h c73
          exact w_X4_readClause_82 C hR Z (lv_sub hl [2, 3, 1, 0] rfl) h
        · have h := ip h c73
          refine lv_aload_n hx hb dX4_readClause_76 rfl (lv_at hl 2 rfl) ?_
          refine lv_iconst (v := 0) hx hb dX4_readClause_77 (by decide) ?_
          obtain ⟨σ39, hσ39, h⟩ := ob h
          refine g_callVv (eC_ok adK adV) C Z (k_X4_fail hσ39) lk_X4_47 (by decide) rfl rfl hl (by decide) rfl (Nat.le_of_ble_eq_true rfl) (rest := []) rfl dX4_readClause_78 (fun H locs Z => ?_)
          obtain rfl := Option.some.inj h
          exact hR _ _ _ _ Z dX4_readClause_81
  refine lv_if_eq (tgt := 56) hx hb dX4_readClause_49 (by decide) (fun c49 => ?_) (fun c49 => ?_)
  · rw [if_pos c49] at ev37
    refine lv_iconst (v := 0) hx hb dX4_readClause_56 (by decide) ?_
    exact tn_i ev37 hj
  · rw [if_neg c49] at ev37
    refine lv_iconst (v := 1) hx hb dX4_readClause_52 (by decide) ?_
    refine lv_goto (tgt := 57) hx hb dX4_readClause_53 (by decide) ?_
    exact tn_i ev37 hj
set_option maxRecDepth 20000 in
theorem w_X4_readClause_0 {p : Program} {l : Launch} {e : Env} {s : State} {m : MethodId} {args : Array Value} {below : List Frame} {meth : Method} {c : Code} {Q : State → Prop} {D : va_G} {kc : Nat → ClassId} {ad : Nat → Nat} {A : Nat → Prop} {adK adV : Nat → Nat} (C : Cx (eC adK adV) p s m args c cX4_readClause 4 RX4 D kc A) {R : St} {x1 : Int32} {σ : St} (hR : RTv 0 0 p l e r_X4_readClause s m args below meth c cX4_readClause tC kc ad D A Q R) {H : Heap} {locs : List Loc} {ls : Array Slot} (Z : Dy tC kc ad D A s.heap σ H locs) (hl : lv_has ls 4 [(0, .ref (ad 5)), (1, .int x1)]) (h : f_X4_readClause x1 σ = some R) : W p l e r_X4_readClause s m args below meth c H locs 0 0 Q (F0 m 0 ls []) := by
  have hx := C.1.1
  have hb := C.1.2.1
  unfold f_X4_readClause at h
  refine lv_aload_n hx hb dX4_readClause_0 rfl (lv_at hl 0 rfl) ?_
  refine va_ldcS hx hb C.1.2.2.2.1 (C.2.2.2.2.1 0 (by decide)) dX4_readClause_1 ?_
  obtain ⟨v33, hv33, h⟩ := ob h
  refine g_callVi (eC_ok adK adV) C Z (k_X4_isWord (by decide) hv33) lk_X4_55 (by decide) rfl rfl hl (by decide) rfl (Nat.le_of_ble_eq_true rfl) (rest := []) rfl dX4_readClause_3 (fun H locs Z => ?_)
  refine lv_if_eq (tgt := 13) hx hb dX4_readClause_6 (by decide) (fun c6 => ?_) (fun c6 => ?_)
  · have h := ip h c6
    refine lv_aload_n hx hb dX4_readClause_13 rfl (lv_at hl 0 rfl) ?_
    refine va_ldcS hx hb C.1.2.2.2.1 (C.2.2.2.2.1 1 (by decide)) dX4_readClause_14 ?_
    obtain ⟨v34, hv34, h⟩ := ob h
    refine g_callVi (eC_ok adK adV) C Z (k_X4_isWord (by decide) hv34) lk_X4_55 (by decide) rfl rfl hl (by decide) rfl (Nat.le_of_ble_eq_true rfl) (rest := []) rfl dX4_readClause_16 (fun H locs Z => ?_)
    refine lv_if_eq (tgt := 27) hx hb dX4_readClause_19 (by decide) (fun c19 => ?_) (fun c19 => ?_)
    · have h := ip h c19
      refine lv_aload_n hx hb dX4_readClause_27 rfl (lv_at hl 0 rfl) ?_
      refine va_ldcS hx hb C.1.2.2.2.1 (C.2.2.2.2.1 2 (by decide)) dX4_readClause_28 ?_
      obtain ⟨v35, hv35, h⟩ := ob h
      refine g_callVi (eC_ok adK adV) C Z (k_X4_isWord (by decide) hv35) lk_X4_55 (by decide) rfl rfl hl (by decide) rfl (Nat.le_of_ble_eq_true rfl) (rest := []) rfl dX4_readClause_30 (fun H locs Z => ?_)
      refine lv_if_eq (tgt := 41) hx hb dX4_readClause_33 (by decide) (fun c33 => ?_) (fun c33 => ?_)
      · have h := ip h c33
        refine lv_iconst (v := (-1)) hx hb dX4_readClause_41 (by decide) ?_
        exact w_X4_readClause_42 C hR Z (lv_sub hl [0, 1] rfl) h
      · have h := im h c33
        refine lv_bipush (v := 7) hx hb dX4_readClause_36 (by decide) ?_
        refine lv_goto (tgt := 42) hx hb dX4_readClause_38 (by decide) ?_
        exact w_X4_readClause_42 C hR Z (lv_sub hl [0, 1] rfl) h
    · have h := im h c19
      refine lv_bipush (v := 6) hx hb dX4_readClause_22 (by decide) ?_
      refine lv_goto (tgt := 42) hx hb dX4_readClause_24 (by decide) ?_
      exact w_X4_readClause_42 C hR Z (lv_sub hl [0, 1] rfl) h
  · have h := im h c6
    refine lv_iconst (v := 5) hx hb dX4_readClause_9 (by decide) ?_
    refine lv_goto (tgt := 42) hx hb dX4_readClause_10 (by decide) ?_
    exact w_X4_readClause_42 C hR Z (lv_sub hl [0, 1] rfl) h
theorem k_X4_readClause {l : Launch} {kc : Nat → ClassId} {ad : Nat → Nat} {D : va_G} {adK adV : Nat → Nat} {x1 : Int32} {σ : St} {R : St} (h : f_X4_readClause x1 σ = some R) : KC (eC adK adV) tC kc ad D l yX4_readClause (.code yX4_readClause cX4_readClause 4 none) r_X4_readClause [.ref (ad 5), .int x1] none σ R := by
  refine g_enter (by decide) (Nat.le_of_ble_eq_true rfl) ?_
  intro p e s m args below meth c A hA C hr hlocks Z ls hl
  have hl : lv_has ls 4 [(0, .ref (ad 5)), (1, .int x1)] := hl
  exact w_X4_readClause_0 C (g_RTv C.1.1 C.1.2.1 hr hlocks hA)  Z hl h
def r_X4_read : Room := { frames := 163, cells := 1, slots := 5300, locals := 5866 }
set_option maxRecDepth 20000 in
theorem w_X4_read_70 {p : Program} {l : Launch} {e : Env} {s : State} {m : MethodId} {args : Array Value} {below : List Frame} {meth : Method} {c : Code} {Q : State → Prop} {D : va_G} {kc : Nat → ClassId} {ad : Nat → Nat} {A : Nat → Prop} {adK adV : Nat → Nat} (C : Cx (eC adK adV) p s m args c cX4_read 3 RX4 D kc A) {R : Int32 × St} {σ : St} (hR : RTi 1 5300 p l e r_X4_read s m args below meth c cX4_read tC kc ad D A Q .int R.1 R.2) {H : Heap} {locs : List Loc} {ls : Array Slot} (Z : Dy tC kc ad D A s.heap σ H locs) (hl : lv_has ls 3 [(0, .ref (ad 5))]) (h : f_X4_read_70 σ = some R) : W p l e r_X4_read s m args below meth c H locs 1 5300 Q (F0 m 70 ls []) := by
  have hx := C.1.1
  have hb := C.1.2.1
  unfold f_X4_read_70 at h
  refine lv_aload_n hx hb dX4_read_70 rfl (lv_at hl 0 rfl) ?_
  refine rg_X4_44 C Z dX4_read_71 ?_
  refine lv_iconst (v := (-1)) hx hb dX4_read_74 (by decide) ?_
  refine lv_icmp_eq (tgt := 83) hx hb dX4_read_75 (by decide) (fun c75 => ?_) (fun c75 => ?_)
  · have h := ip h c75
    refine lv_aload_n hx hb dX4_read_83 rfl (lv_at hl 0 rfl) ?_
    refine rg_X4_31 C Z dX4_read_84 ?_
    obtain rfl := Option.some.inj h
    exact hR _ _ _ _ _ Z dX4_read_87 rfl
  · have h := im h c75
    refine lv_aload_n hx hb dX4_read_78 rfl (lv_at hl 0 rfl) ?_
    refine lv_iconst (v := 0) hx hb dX4_read_79 (by decide) ?_
    obtain ⟨σ30, hσ30, h⟩ := ob h
    refine g_callVv (eC_ok adK adV) C Z (k_X4_fail hσ30) lk_X4_47 (by decide) rfl rfl hl (by decide) rfl (Nat.le_of_ble_eq_true rfl) (rest := []) rfl dX4_read_80 (fun H locs Z => ?_)
    refine lv_aload_n hx hb dX4_read_83 rfl (lv_at hl 0 rfl) ?_
    refine rg_X4_31 C Z dX4_read_84 ?_
    obtain rfl := Option.some.inj h
    exact hR _ _ _ _ _ Z dX4_read_87 rfl
set_option maxRecDepth 20000 in
theorem w_X4_read_33 {p : Program} {l : Launch} {e : Env} {s : State} {m : MethodId} {args : Array Value} {below : List Frame} {meth : Method} {c : Code} {Q : State → Prop} {D : va_G} {kc : Nat → ClassId} {ad : Nat → Nat} {A : Nat → Prop} {adK adV : Nat → Nat} (C : Cx (eC adK adV) p s m args c cX4_read 3 RX4 D kc A) {R : Int32 × St} {x1 : Int32} (hR : RTi 1 5300 p l e r_X4_read s m args below meth c cX4_read tC kc ad D A Q .int R.1 R.2) : ∀ (n : Nat) (x2 : Int32) (σ : St) (H : Heap) (locs : List Loc) (ls : Array Slot), Dy tC kc ad D A s.heap σ H locs → lv_has ls 3 [(0, .ref (ad 5)), (1, .int x1), (2, .int x2)] → f_X4_read_33 x1 n x2 σ = some R → W p l e r_X4_read s m args below meth c H locs 1 5300 Q (F0 m 33 ls []) := by
  have hx := C.1.1
  have hb := C.1.2.1
  intro n
  induction n with
  | zero =>
    intro x2 σ H locs ls Z hl h
    exact absurd (show none = some R from h) (by simp)
  | succ n ih =>
    intro x2 σ H locs ls Z hl h
    rw [f_X4_read_33] at h
    refine lv_iload_n hx hb dX4_read_33 rfl (lv_at hl 2 rfl) ?_
    refine lv_bipush (v := 12) hx hb dX4_read_34 (by decide) ?_
    refine lv_icmp_ge (tgt := 70) hx hb dX4_read_36 (by decide) (fun c36 => ?_) (fun c36 => ?_)
    · have h := ip h c36
      exact w_X4_read_70 C hR Z (lv_sub hl [0] rfl) h
    · have h := im h c36
      refine lv_aload_n hx hb dX4_read_39 rfl (lv_at hl 0 rfl) ?_
      refine rg_X4_31 C Z dX4_read_40 ?_
      refine lv_if_ne (tgt := 70) hx hb dX4_read_43 (by decide) (fun c43 => ?_) (fun c43 => ?_)
      · have h := im h c43
        exact w_X4_read_70 C hR Z (lv_sub hl [0] rfl) h
      · have h := ip h c43
        refine lv_aload_n hx hb dX4_read_46 rfl (lv_at hl 0 rfl) ?_
        refine rg_X4_44 C Z dX4_read_47 ?_
        refine lv_bipush (v := 59) hx hb dX4_read_50 (by decide) ?_
        refine lv_icmp_ne (tgt := 70) hx hb dX4_read_52 (by decide) (fun c52 => ?_) (fun c52 => ?_)
        · have h := im h c52
          exact w_X4_read_70 C hR Z (lv_sub hl [0] rfl) h
        · have h := ip h c52
          refine lv_aload_n hx hb dX4_read_55 rfl (lv_at hl 0 rfl) ?_
          obtain ⟨σ27, hσ27, h⟩ := ob h
          refine g_callVv (eC_ok adK adV) C Z (k_X4_advance hσ27) lk_X4_37 (by decide) rfl rfl hl (by decide) rfl (Nat.le_of_ble_eq_true rfl) (rest := []) rfl dX4_read_56 (fun H locs Z => ?_)
          refine lv_aload_n hx hb dX4_read_59 rfl (lv_at hl 0 rfl) ?_
          refine lv_iload_n hx hb dX4_read_60 rfl (lv_at hl 1 rfl) ?_
          obtain ⟨σ28, hσ28, h⟩ := ob h
          refine g_callVv (eC_ok adK adV) C Z (k_X4_readClause hσ28) lk_X4_40 (by decide) rfl rfl hl (by decide) rfl (Nat.le_of_ble_eq_true rfl) (rest := []) rfl dX4_read_61 (fun H locs Z => ?_)
          obtain ⟨v29, ev29, h⟩ := lb h
          refine lv_iinc (v := v29) (lv' := [(2, .int v29), (0, .ref (ad 5)), (1, .int x1)]) hx hb dX4_read_64 hl (k := 2) rfl (by rw [ev29]; rfl) (by decide) rfl (fun ls hl => ?_)
          refine lv_goto (tgt := 33) hx hb dX4_read_67 (by decide) ?_
          exact ih _ _ _ _ _ Z (lv_sub hl [1, 2, 0] rfl) h
set_option maxRecDepth 20000 in
theorem w_X4_read_22 {p : Program} {l : Launch} {e : Env} {s : State} {m : MethodId} {args : Array Value} {below : List Frame} {meth : Method} {c : Code} {Q : State → Prop} {D : va_G} {kc : Nat → ClassId} {ad : Nat → Nat} {A : Nat → Prop} {adK adV : Nat → Nat} (C : Cx (eC adK adV) p s m args c cX4_read 3 RX4 D kc A) {R : Int32 × St} {x1 : Int32} {σ : St} (hR : RTi 1 5300 p l e r_X4_read s m args below meth c cX4_read tC kc ad D A Q .int R.1 R.2) {H : Heap} {locs : List Loc} {ls : Array Slot} (Z : Dy tC kc ad D A s.heap σ H locs) (hl : lv_has ls 3 [(0, .ref (ad 5)), (1, .int x1)]) (h : f_X4_read_22 x1 σ = some R) : W p l e r_X4_read s m args below meth c H locs 1 5300 Q (F0 m 22 ls []) := by
  have hx := C.1.1
  have hb := C.1.2.1
  unfold f_X4_read_22 at h
  refine lv_aload_n hx hb dX4_read_22 rfl (lv_at hl 0 rfl) ?_
  obtain ⟨σ25, hσ25, h⟩ := ob h
  refine g_callVv (eC_ok adK adV) C Z (k_X4_advance hσ25) lk_X4_37 (by decide) rfl rfl hl (by decide) rfl (Nat.le_of_ble_eq_true rfl) (rest := []) rfl dX4_read_23 (fun H locs Z => ?_)
  refine lv_aload_n hx hb dX4_read_26 rfl (lv_at hl 0 rfl) ?_
  refine lv_iload_n hx hb dX4_read_27 rfl (lv_at hl 1 rfl) ?_
  obtain ⟨σ26, hσ26, h⟩ := ob h
  refine g_callVv (eC_ok adK adV) C Z (k_X4_readClause hσ26) lk_X4_40 (by decide) rfl rfl hl (by decide) rfl (Nat.le_of_ble_eq_true rfl) (rest := []) rfl dX4_read_28 (fun H locs Z => ?_)
  refine lv_iconst (v := 0) hx hb dX4_read_31 (by decide) ?_
  refine lv_istore_n (lv' := [(2, .int 0), (0, .ref (ad 5)), (1, .int x1)]) hx hb dX4_read_32 rfl hl (by decide) rfl (fun ls hl => ?_)
  exact w_X4_read_33 C hR _ _ _ _ _ _ Z (lv_sub hl [1, 2, 0] rfl) h
def r_X5_minuteAt : Room := { frames := 1, cells := 0, slots := 0, locals := 22 }
set_option maxRecDepth 20000 in
theorem w_X5_minuteAt_0 {p : Program} {l : Launch} {e : Env} {s : State} {m : MethodId} {args : Array Value} {below : List Frame} {meth : Method} {c : Code} {Q : State → Prop} {D : va_G} {kc : Nat → ClassId} {ad : Nat → Nat} {A : Nat → Prop} {adK adV : Nat → Nat} (C : Cx (eC adK adV) p s m args c cX5_minuteAt 3 RX5 D kc A) {R : Int32} {x1 : Int32} {σ : St} (hR : RTi 0 0 p l e r_X5_minuteAt s m args below meth c cX5_minuteAt tC kc ad D A Q .int R σ) {H : Heap} {locs : List Loc} {ls : Array Slot} (Z : Dy tC kc ad D A s.heap σ H locs) (hl : lv_has ls 3 [(0, .ref (ad 3)), (1, .int x1)]) (h : f_X5_minuteAt x1 σ = some R) : W p l e r_X5_minuteAt s m args below meth c H locs 0 0 Q (F0 m 0 ls []) := by
  have hx := C.1.1
  have hb := C.1.2.1
  unfold f_X5_minuteAt at h
  refine lv_aload_n hx hb dX5_minuteAt_0 rfl (lv_at hl 0 rfl) ?_
  refine rg_X5_30 C Z dX5_minuteAt_1 ?_
  refine lv_iload_n hx hb dX5_minuteAt_4 rfl (lv_at hl 1 rfl) ?_
  obtain ⟨v5, hv5, h⟩ := ob h
  refine g_iald C Z iaC28 hv5 dX5_minuteAt_5 ?_
  refine lv_istore_n (lv' := [(2, .int v5), (0, .ref (ad 3)), (1, .int x1)]) hx hb dX5_minuteAt_6 rfl hl (by decide) rfl (fun ls hl => ?_)
  refine lv_iload_n hx hb dX5_minuteAt_7 rfl (lv_at hl 0 rfl) ?_
  refine lv_iconst (v := 0) hx hb dX5_minuteAt_8 (by decide) ?_
  refine lv_sipush (v := 299) hx hb dX5_minuteAt_9 (by decide) ?_
  refine g_callNi (eC_ok adK adV) C Z (k_X10_lies v5 0 299 σ) (C.2.2.2.1 _ nw_X5_54) lkn_X10_lies hl (by decide) rfl (Nat.le_of_ble_eq_true rfl) (rest := []) rfl dX5_minuteAt_12 (fun H locs Z => ?_)
  refine lv_if_eq (tgt := 27) hx hb dX5_minuteAt_15 (by decide) (fun c15 => ?_) (fun c15 => ?_)
  · have h := ip h c15
    refine lv_iconst (v := 0) hx hb dX5_minuteAt_27 (by decide) ?_
    obtain rfl := Option.some.inj h
    exact hR _ _ _ _ _ Z dX5_minuteAt_28 rfl
  · have h := im h c15
    refine lv_aload_n hx hb dX5_minuteAt_18 rfl (lv_at hl 1 rfl) ?_
    refine rg_X5_18 C Z dX5_minuteAt_19 ?_
    refine lv_iload_n hx hb dX5_minuteAt_22 rfl (lv_at hl 0 rfl) ?_
    obtain ⟨v6, hv6, h⟩ := ob h
    refine g_iald C Z iaC24 hv6 dX5_minuteAt_23 ?_
    refine lv_goto (tgt := 28) hx hb dX5_minuteAt_24 (by decide) ?_
    obtain rfl := Option.some.inj h
    exact hR _ _ _ _ _ Z dX5_minuteAt_28 rfl
theorem k_X5_minuteAt {l : Launch} {kc : Nat → ClassId} {ad : Nat → Nat} {D : va_G} {adK adV : Nat → Nat} {x1 : Int32} {σ : St} {R : Int32} (h : f_X5_minuteAt x1 σ = some R) : KC (eC adK adV) tC kc ad D l yX5_minuteAt (.code yX5_minuteAt cX5_minuteAt 3 (some .int)) r_X5_minuteAt [.ref (ad 3), .int x1] (some (.int R)) σ σ := by
  refine g_enter (by decide) (Nat.le_of_ble_eq_true rfl) ?_
  intro p e s m args below meth c A hA C hr hlocks Z ls hl
  have hl : lv_has ls 3 [(0, .ref (ad 3)), (1, .int x1)] := hl
  exact w_X5_minuteAt_0 C (g_RTi C.1.1 C.1.2.1 hr hlocks hA)  Z hl h
def r_X5_putInOrder : Room := { frames := 2, cells := 0, slots := 0, locals := 44 }
set_option maxRecDepth 20000 in
theorem w_X5_putInOrder_37 {p : Program} {l : Launch} {e : Env} {s : State} {m : MethodId} {args : Array Value} {below : List Frame} {meth : Method} {c : Code} {Q : State → Prop} {D : va_G} {kc : Nat → ClassId} {ad : Nat → Nat} {A : Nat → Prop} {adK adV : Nat → Nat} (C : Cx (eC adK adV) p s m args c cX5_putInOrder 4 RX5 D kc A) {R : St} {x1 : Int32} {x3 : Int32} {σ : St} (hR : RTv 0 0 p l e r_X5_putInOrder s m args below meth c cX5_putInOrder tC kc ad D A Q R) {H : Heap} {locs : List Loc} {ls : Array Slot} (Z : Dy tC kc ad D A s.heap σ H locs) (hl : lv_has ls 4 [(0, .ref (ad 3)), (1, .int x1), (3, .int x3)]) (h : f_X5_putInOrder_37 x1 x3 σ = some R) : W p l e r_X5_putInOrder s m args below meth c H locs 0 0 Q (F0 m 37 ls []) := by
  have hx := C.1.1
  have hb := C.1.2.1
  unfold f_X5_putInOrder_37 at h
  refine lv_aload_n hx hb dX5_putInOrder_37 rfl (lv_at hl 0 rfl) ?_
  refine rg_X5_30 C Z dX5_putInOrder_38 ?_
  refine lv_iload_n hx hb dX5_putInOrder_41 rfl (lv_at hl 2 rfl) ?_
  refine lv_iload_n hx hb dX5_putInOrder_42 rfl (lv_at hl 1 rfl) ?_
  obtain ⟨σ15, hσ15, h⟩ := ob h
  refine g_iast C Z iaC28 hσ15 dX5_putInOrder_43 (fun H locs Z => ?_)
  obtain rfl := Option.some.inj h
  exact hR _ _ _ _ Z dX5_putInOrder_44
set_option maxRecDepth 20000 in
theorem w_X5_putInOrder_2 {p : Program} {l : Launch} {e : Env} {s : State} {m : MethodId} {args : Array Value} {below : List Frame} {meth : Method} {c : Code} {Q : State → Prop} {D : va_G} {kc : Nat → ClassId} {ad : Nat → Nat} {A : Nat → Prop} {adK adV : Nat → Nat} (C : Cx (eC adK adV) p s m args c cX5_putInOrder 4 RX5 D kc A) {R : St} {x1 : Int32} {x2 : Int32} (hR : RTv 0 0 p l e r_X5_putInOrder s m args below meth c cX5_putInOrder tC kc ad D A Q R) : ∀ (n : Nat) (x3 : Int32) (σ : St) (H : Heap) (locs : List Loc) (ls : Array Slot), Dy tC kc ad D A s.heap σ H locs → lv_has ls 4 [(0, .ref (ad 3)), (1, .int x1), (2, .int x2), (3, .int x3)] → f_X5_putInOrder_2 x1 x2 n x3 σ = some R → W p l e r_X5_putInOrder s m args below meth c H locs 0 0 Q (F0 m 2 ls []) := by
  have hx := C.1.1
  have hb := C.1.2.1
  intro n
  induction n with
  | zero =>
    intro x3 σ H locs ls Z hl h
    exact absurd (show none = some R from h) (by simp)
  | succ n ih =>
    intro x3 σ H locs ls Z hl h
    rw [f_X5_putInOrder_2] at h
    refine lv_iload_n hx hb dX5_putInOrder_2 rfl (lv_at hl 3 rfl) ?_
    refine lv_if_le (tgt := 37) hx hb dX5_putInOrder_3 (by decide) (fun c3 => ?_) (fun c3 => ?_)
    · have h := ip h c3
      exact w_X5_putInOrder_37 C hR Z (lv_sub hl [0, 1, 3] rfl) h
    · have h := im h c3
      refine lv_aload_n hx hb dX5_putInOrder_6 rfl (lv_at hl 0 rfl) ?_
      refine lv_iload_n hx hb dX5_putInOrder_7 rfl (lv_at hl 3 rfl) ?_
      refine lv_iconst (v := 1) hx hb dX5_putInOrder_8 (by decide) ?_
      refine lv_isub hx hb dX5_putInOrder_9 ?_
      obtain ⟨v11, hv11, h⟩ := ob h
      refine g_callVi (eC_ok adK adV) C Z (k_X5_minuteAt hv11) lk_X5_50 (by decide) rfl rfl hl (by decide) rfl (Nat.le_of_ble_eq_true rfl) (rest := []) rfl dX5_putInOrder_10 (fun H locs Z => ?_)
      refine lv_iload_n hx hb dX5_putInOrder_13 rfl (lv_at hl 2 rfl) ?_
      refine lv_icmp_le (tgt := 37) hx hb dX5_putInOrder_14 (by decide) (fun c14 => ?_) (fun c14 => ?_)
      · have h := ip h c14
        exact w_X5_putInOrder_37 C hR Z (lv_sub hl [0, 1, 3] rfl) h
      · have h := im h c14
        refine lv_aload_n hx hb dX5_putInOrder_17 rfl (lv_at hl 0 rfl) ?_
        refine rg_X5_30 C Z dX5_putInOrder_18 ?_
        refine lv_iload_n hx hb dX5_putInOrder_21 rfl (lv_at hl 3 rfl) ?_
        refine lv_aload_n hx hb dX5_putInOrder_22 rfl (lv_at hl 0 rfl) ?_
        refine rg_X5_30 C Z dX5_putInOrder_23 ?_
        refine lv_iload_n hx hb dX5_putInOrder_26 rfl (lv_at hl 3 rfl) ?_
        refine lv_iconst (v := 1) hx hb dX5_putInOrder_27 (by decide) ?_
        refine lv_isub hx hb dX5_putInOrder_28 ?_
        obtain ⟨v12, hv12, h⟩ := ob h
        refine g_iald C Z iaC28 hv12 dX5_putInOrder_29 ?_
        obtain ⟨σ13, hσ13, h⟩ := ob h
        refine g_iast C Z iaC28 hσ13 dX5_putInOrder_30 (fun H locs Z => ?_)
        obtain ⟨v14, ev14, h⟩ := lb h
        refine lv_iinc (v := v14) (lv' := [(3, .int v14), (0, .ref (ad 3)), (1, .int x1), (2, .int x2)]) hx hb dX5_putInOrder_31 hl (k := 3) rfl (by rw [ev14]; rfl) (by decide) rfl (fun ls hl => ?_)
        refine lv_goto (tgt := 2) hx hb dX5_putInOrder_34 (by decide) ?_
        exact ih _ _ _ _ _ Z (lv_sub hl [1, 2, 3, 0] rfl) h
set_option maxRecDepth 20000 in
theorem w_X5_putInOrder_0 {p : Program} {l : Launch} {e : Env} {s : State} {m : MethodId} {args : Array Value} {below : List Frame} {meth : Method} {c : Code} {Q : State → Prop} {D : va_G} {kc : Nat → ClassId} {ad : Nat → Nat} {A : Nat → Prop} {adK adV : Nat → Nat} (C : Cx (eC adK adV) p s m args c cX5_putInOrder 4 RX5 D kc A) {R : St} {x1 : Int32} {x2 : Int32} {σ : St} (hR : RTv 0 0 p l e r_X5_putInOrder s m args below meth c cX5_putInOrder tC kc ad D A Q R) {H : Heap} {locs : List Loc} {ls : Array Slot} (Z : Dy tC kc ad D A s.heap σ H locs) (hl : lv_has ls 4 [(0, .ref (ad 3)), (1, .int x1), (2, .int x2)]) (h : f_X5_putInOrder x1 x2 σ = some R) : W p l e r_X5_putInOrder s m args below meth c H locs 0 0 Q (F0 m 0 ls []) := by
  have hx := C.1.1
  have hb := C.1.2.1
  unfold f_X5_putInOrder at h
  refine lv_iload_n hx hb dX5_putInOrder_0 rfl (lv_at hl 1 rfl) ?_
  refine lv_istore_n (lv' := [(3, .int x1), (0, .ref (ad 3)), (1, .int x1), (2, .int x2)]) hx hb dX5_putInOrder_1 rfl hl (by decide) rfl (fun ls hl => ?_)
  exact w_X5_putInOrder_2 C hR _ _ _ _ _ _ Z (lv_sub hl [1, 2, 3, 0] rfl) h
theorem k_X5_putInOrder {l : Launch} {kc : Nat → ClassId} {ad : Nat → Nat} {D : va_G} {adK adV : Nat → Nat} {x1 : Int32} {x2 : Int32} {σ : St} {R : St} (h : f_X5_putInOrder x1 x2 σ = some R) : KC (eC adK adV) tC kc ad D l yX5_putInOrder (.code yX5_putInOrder cX5_putInOrder 4 none) r_X5_putInOrder [.ref (ad 3), .int x1, .int x2] none σ R := by
  refine g_enter (by decide) (Nat.le_of_ble_eq_true rfl) ?_
  intro p e s m args below meth c A hA C hr hlocks Z ls hl
  have hl : lv_has ls 4 [(0, .ref (ad 3)), (1, .int x1), (2, .int x2)] := hl
  exact w_X5_putInOrder_0 C (g_RTv C.1.1 C.1.2.1 hr hlocks hA)  Z hl h
def r_X5_add : Room := { frames := 3, cells := 0, slots := 0, locals := 67 }
set_option maxRecDepth 20000 in
theorem w_X5_add_0 {p : Program} {l : Launch} {e : Env} {s : State} {m : MethodId} {args : Array Value} {below : List Frame} {meth : Method} {c : Code} {Q : State → Prop} {D : va_G} {kc : Nat → ClassId} {ad : Nat → Nat} {A : Nat → Prop} {adK adV : Nat → Nat} (C : Cx (eC adK adV) p s m args c cX5_add 7 RX5 D kc A) {R : Int32 × St} {x1 : Int32} {x2 : Int32} {x3 : Int32} {x4 : Int32} {x5 : Int32} {x6 : Int32} {σ : St} (hR : RTi 0 0 p l e r_X5_add s m args below meth c cX5_add tC kc ad D A Q .int R.1 R.2) {H : Heap} {locs : List Loc} {ls : Array Slot} (Z : Dy tC kc ad D A s.heap σ H locs) (hl : lv_has ls 7 [(0, .ref (ad 3)), (1, .int x1), (2, .int x2), (3, .int x3), (4, .int x4), (5, .int x5), (6, .int x6)]) (h : f_X5_add x1 x2 x3 x4 x5 x6 σ = some R) : W p l e r_X5_add s m args below meth c H locs 0 0 Q (F0 m 0 ls []) := by
  have hx := C.1.1
  have hb := C.1.2.1
  unfold f_X5_add at h
  refine lv_aload_n hx hb dX5_add_0 rfl (lv_at hl 0 rfl) ?_
  refine rg_X5_42 C Z dX5_add_1 ?_
  refine lv_sipush (v := 300) hx hb dX5_add_4 (by decide) ?_
  refine lv_icmp_lt (tgt := 12) hx hb dX5_add_7 (by decide) (fun c7 => ?_) (fun c7 => ?_)
  · have h := ip h c7
    refine lv_aload_n hx hb dX5_add_12 rfl (lv_at hl 0 rfl) ?_
    refine rg_X5_11 C Z dX5_add_13 ?_
    refine lv_aload_n hx hb dX5_add_16 rfl (lv_at hl 0 rfl) ?_
    refine rg_X5_42 C Z dX5_add_17 ?_
    refine lv_iload_n hx hb dX5_add_20 rfl (lv_at hl 1 rfl) ?_
    obtain ⟨σ17, hσ17, h⟩ := ob h
    refine g_iast C Z iaC22 hσ17 dX5_add_21 (fun H locs Z => ?_)
    refine lv_aload_n hx hb dX5_add_22 rfl (lv_at hl 0 rfl) ?_
    refine rg_X5_15 C Z dX5_add_23 ?_
    refine lv_aload_n hx hb dX5_add_26 rfl (lv_at hl 0 rfl) ?_
    refine rg_X5_42 C Z dX5_add_27 ?_
    refine lv_iload_n hx hb dX5_add_30 rfl (lv_at hl 2 rfl) ?_
    obtain ⟨σ18, hσ18, h⟩ := ob h
    refine g_iast C Z iaC23 hσ18 dX5_add_31 (fun H locs Z => ?_)
    refine lv_aload_n hx hb dX5_add_32 rfl (lv_at hl 0 rfl) ?_
    refine rg_X5_18 C Z dX5_add_33 ?_
    refine lv_aload_n hx hb dX5_add_36 rfl (lv_at hl 0 rfl) ?_
    refine rg_X5_42 C Z dX5_add_37 ?_
    refine lv_iload_n hx hb dX5_add_40 rfl (lv_at hl 3 rfl) ?_
    obtain ⟨σ19, hσ19, h⟩ := ob h
    refine g_iast C Z iaC24 hσ19 dX5_add_41 (fun H locs Z => ?_)
    refine lv_aload_n hx hb dX5_add_42 rfl (lv_at hl 0 rfl) ?_
    refine rg_X5_21 C Z dX5_add_43 ?_
    refine lv_aload_n hx hb dX5_add_46 rfl (lv_at hl 0 rfl) ?_
    refine rg_X5_42 C Z dX5_add_47 ?_
    refine lv_iload hx hb dX5_add_50 (lv_at hl 4 rfl) ?_
    obtain ⟨σ20, hσ20, h⟩ := ob h
    refine g_iast C Z iaC25 hσ20 dX5_add_52 (fun H locs Z => ?_)
    refine lv_aload_n hx hb dX5_add_53 rfl (lv_at hl 0 rfl) ?_
    refine rg_X5_24 C Z dX5_add_54 ?_
    refine lv_aload_n hx hb dX5_add_57 rfl (lv_at hl 0 rfl) ?_
    refine rg_X5_42 C Z dX5_add_58 ?_
    refine lv_iload hx hb dX5_add_61 (lv_at hl 5 rfl) ?_
    obtain ⟨σ21, hσ21, h⟩ := ob h
    refine g_iast C Z iaC26 hσ21 dX5_add_63 (fun H locs Z => ?_)
    refine lv_aload_n hx hb dX5_add_64 rfl (lv_at hl 0 rfl) ?_
    refine rg_X5_27 C Z dX5_add_65 ?_
    refine lv_aload_n hx hb dX5_add_68 rfl (lv_at hl 0 rfl) ?_
    refine rg_X5_42 C Z dX5_add_69 ?_
    refine lv_iload hx hb dX5_add_72 (lv_at hl 6 rfl) ?_
    obtain ⟨σ22, hσ22, h⟩ := ob h
    refine g_iast C Z iaC27 hσ22 dX5_add_74 (fun H locs Z => ?_)
    refine lv_aload_n hx hb dX5_add_75 rfl (lv_at hl 0 rfl) ?_
    refine lv_aload_n hx hb dX5_add_76 rfl (lv_at hl 0 rfl) ?_
    refine rg_X5_42 C Z dX5_add_77 ?_
    refine lv_iload_n hx hb dX5_add_80 rfl (lv_at hl 3 rfl) ?_
    obtain ⟨σ23, hσ23, h⟩ := ob h
    refine g_callVv (eC_ok adK adV) C Z (k_X5_putInOrder hσ23) lk_X5_46 (by decide) rfl rfl hl (by decide) rfl (Nat.le_of_ble_eq_true rfl) (rest := []) rfl dX5_add_81 (fun H locs Z => ?_)
    refine lv_aload_n hx hb dX5_add_84 rfl (lv_at hl 0 rfl) ?_
    refine lv_dup hx hb dX5_add_85 rfl ?_
    refine rg_X5_42 C Z dX5_add_86 ?_
    refine lv_iconst (v := 1) hx hb dX5_add_89 (by decide) ?_
    refine lv_iadd hx hb dX5_add_90 ?_
    obtain ⟨σ24, eσ24, h⟩ := lb h
    refine rp_X5_42 C Z eσ24 dX5_add_91 (fun H locs Z => ?_)
    refine lv_aload_n hx hb dX5_add_94 rfl (lv_at hl 0 rfl) ?_
    refine rg_X5_42 C Z dX5_add_95 ?_
    refine lv_iconst (v := 1) hx hb dX5_add_98 (by decide) ?_
    refine lv_isub hx hb dX5_add_99 ?_
    obtain rfl := Option.some.inj h
    exact hR _ _ _ _ _ Z dX5_add_100 rfl
  · have h := im h c7
    refine lv_iconst (v := (-1)) hx hb dX5_add_10 (by decide) ?_
    obtain rfl := Option.some.inj h
    exact hR _ _ _ _ _ Z dX5_add_11 rfl
theorem k_X5_add {l : Launch} {kc : Nat → ClassId} {ad : Nat → Nat} {D : va_G} {adK adV : Nat → Nat} {x1 : Int32} {x2 : Int32} {x3 : Int32} {x4 : Int32} {x5 : Int32} {x6 : Int32} {σ : St} {R : Int32 × St} (h : f_X5_add x1 x2 x3 x4 x5 x6 σ = some R) : KC (eC adK adV) tC kc ad D l yX5_add (.code yX5_add cX5_add 7 (some .int)) r_X5_add [.ref (ad 3), .int x1, .int x2, .int x3, .int x4, .int x5, .int x6] (some (.int R.1)) σ R.2 := by
  refine g_enter (by decide) (Nat.le_of_ble_eq_true rfl) ?_
  intro p e s m args below meth c A hA C hr hlocks Z ls hl
  have hl : lv_has ls 7 [(0, .ref (ad 3)), (1, .int x1), (2, .int x2), (3, .int x3), (4, .int x4), (5, .int x5), (6, .int x6)] := hl
  exact w_X5_add_0 C (g_RTi C.1.1 C.1.2.1 hr hlocks hA)  Z hl h
