def r_X2_valueOf : Room := { frames := 1, cells := 0, slots := 0, locals := 25 }
set_option maxRecDepth 20000 in
theorem w_X2_valueOf_168 {p : Program} {l : Launch} {e : Env} {s : State} {m : MethodId} {args : Array Value} {below : List Frame} {meth : Method} {c : Code} {Q : State → Prop} {D : va_G} {kc : Nat → ClassId} {ad : Nat → Nat} {A : Nat → Prop} {adK adV : Nat → Nat} (C : Cx (eC adK adV) p s m args c cX2_valueOf 7 RX2 D kc A) {R : Int64 × St} {a3 : Nat} {x2 : Int32} {x4 : Int32} {x5 : Int32} {σ : St} (hR : RTl 0 0 p l e r_X2_valueOf s m args below meth c cX2_valueOf tC kc ad D A Q R.1 R.2) (ha3 : isArr tC 1 a3) {k10 : Int32 → Int32 → St → Option (Int64 × St)} (hk10 : ∀ (x4 : Int32) (x5 : Int32) (σ : St) (H : Heap) (locs : List Loc) (ls : Array Slot), Dy tC kc ad D A s.heap σ H locs → lv_has ls 7 [(0, .ref (ad 4)), (2, .int x2), (3, .ref (ad a3)), (4, .int x4), (5, .int x5)] → k10 x4 x5 σ = some R → W p l e r_X2_valueOf s m args below meth c H locs 0 0 Q (F0 m 10 ls [])) {H : Heap} {locs : List Loc} {ls : Array Slot} (Z : Dy tC kc ad D A s.heap σ H locs) (hl : lv_has ls 7 [(0, .ref (ad 4)), (2, .int x2), (3, .ref (ad a3)), (4, .int x4), (5, .int x5)]) (h : f_X2_valueOf_168 a3 x2 x4 x5 σ k10 = some R) : W p l e r_X2_valueOf s m args below meth c H locs 0 0 Q (F0 m 168 ls []) := by
  have hx := C.1.1
  have hb := C.1.2.1
  unfold f_X2_valueOf_168 at h
  obtain ⟨v39, ev39, h⟩ := lb h
  refine lv_iinc (v := v39) (lv' := [(5, .int v39), (0, .ref (ad 4)), (2, .int x2), (3, .ref (ad a3)), (4, .int x4)]) hx hb dX2_valueOf_168 hl (k := 4) rfl (by rw [ev39]; rfl) (by decide) rfl (fun ls hl => ?_)
  refine lv_goto (tgt := 10) hx hb dX2_valueOf_171 (by decide) ?_
  exact hk10 _ _ _ _ _ _ Z (lv_sub hl [1, 2, 3, 4, 0] rfl) h
set_option maxRecDepth 20000 in
theorem w_X2_valueOf_74 {p : Program} {l : Launch} {e : Env} {s : State} {m : MethodId} {args : Array Value} {below : List Frame} {meth : Method} {c : Code} {Q : State → Prop} {D : va_G} {kc : Nat → ClassId} {ad : Nat → Nat} {A : Nat → Prop} {adK adV : Nat → Nat} (C : Cx (eC adK adV) p s m args c cX2_valueOf 7 RX2 D kc A) {R : Int64 × St} {a3 : Nat} {x2 : Int32} {x4 : Int32} {x5 : Int32} {y1 : Int32} {y2 : Int64} {σ : St} (hR : RTl 0 0 p l e r_X2_valueOf s m args below meth c cX2_valueOf tC kc ad D A Q R.1 R.2) (ha3 : isArr tC 1 a3) {k10 : Int32 → Int32 → St → Option (Int64 × St)} (hk10 : ∀ (x4 : Int32) (x5 : Int32) (σ : St) (H : Heap) (locs : List Loc) (ls : Array Slot), Dy tC kc ad D A s.heap σ H locs → lv_has ls 7 [(0, .ref (ad 4)), (2, .int x2), (3, .ref (ad a3)), (4, .int x4), (5, .int x5)] → k10 x4 x5 σ = some R → W p l e r_X2_valueOf s m args below meth c H locs 0 0 Q (F0 m 10 ls [])) {H : Heap} {locs : List Loc} {ls : Array Slot} (Z : Dy tC kc ad D A s.heap σ H locs) (hl : lv_has ls 7 [(0, .ref (ad 4)), (2, .int x2), (3, .ref (ad a3)), (4, .int x4), (5, .int x5)]) (h : f_X2_valueOf_74 a3 x2 x4 x5 y1 y2 σ k10 = some R) : W p l e r_X2_valueOf s m args below meth c H locs 0 0 Q (F0 m 74 ls [.long y2, .int y1, .ref (ad 44)]) := by
  have hx := C.1.1
  have hb := C.1.2.1
  unfold f_X2_valueOf_74 at h
  obtain ⟨σ37, hσ37, h⟩ := ob h
  refine g_last C Z iaC44 hσ37 dX2_valueOf_74 (fun H locs Z => ?_)
  obtain ⟨v38, ev38, h⟩ := lb h
  refine lv_iinc (v := v38) (lv' := [(4, .int v38), (0, .ref (ad 4)), (2, .int x2), (3, .ref (ad a3)), (5, .int x5)]) hx hb dX2_valueOf_75 hl (k := 3) rfl (by rw [ev38]; rfl) (by decide) rfl (fun ls hl => ?_)
  refine lv_goto (tgt := 168) hx hb dX2_valueOf_78 (by decide) ?_
  exact w_X2_valueOf_168 C hR ha3 hk10 Z (lv_sub hl [1, 2, 3, 0, 4] rfl) h
set_option maxRecDepth 20000 in
theorem w_X2_valueOf_174 {p : Program} {l : Launch} {e : Env} {s : State} {m : MethodId} {args : Array Value} {below : List Frame} {meth : Method} {c : Code} {Q : State → Prop} {D : va_G} {kc : Nat → ClassId} {ad : Nat → Nat} {A : Nat → Prop} {adK adV : Nat → Nat} (C : Cx (eC adK adV) p s m args c cX2_valueOf 7 RX2 D kc A) {R : Int64 × St} {x4 : Int32} {σ : St} (hR : RTl 0 0 p l e r_X2_valueOf s m args below meth c cX2_valueOf tC kc ad D A Q R.1 R.2) {H : Heap} {locs : List Loc} {ls : Array Slot} (Z : Dy tC kc ad D A s.heap σ H locs) (hl : lv_has ls 7 [(0, .ref (ad 4)), (4, .int x4)]) (h : f_X2_valueOf_174 x4 σ = some R) : W p l e r_X2_valueOf s m args below meth c H locs 0 0 Q (F0 m 174 ls []) := by
  have hx := C.1.1
  have hb := C.1.2.1
  unfold f_X2_valueOf_174 at h
  refine lv_iload hx hb dX2_valueOf_174 (lv_at hl 1 rfl) ?_
  refine lv_iconst (v := 1) hx hb dX2_valueOf_176 (by decide) ?_
  refine lv_icmp_ne (tgt := 189) hx hb dX2_valueOf_177 (by decide) (fun c177 => ?_) (fun c177 => ?_)
  · have h := im h c177
    refine lv_lconst (v := 0) hx hb dX2_valueOf_189 (by decide) ?_
    obtain rfl := Option.some.inj h
    exact hR _ _ _ _ Z dX2_valueOf_190
  · have h := ip h c177
    refine lv_aload_n hx hb dX2_valueOf_180 rfl (lv_at hl 0 rfl) ?_
    refine rg_X2_48 C Z dX2_valueOf_181 ?_
    refine lv_iconst (v := 0) hx hb dX2_valueOf_184 (by decide) ?_
    obtain ⟨v40, hv40, h⟩ := ob h
    refine g_lald C Z iaC44 hv40 dX2_valueOf_185 ?_
    refine lv_goto (tgt := 190) hx hb dX2_valueOf_186 (by decide) ?_
    obtain rfl := Option.some.inj h
    exact hR _ _ _ _ Z dX2_valueOf_190
set_option maxRecDepth 20000 in
theorem w_X2_valueOf_10 {p : Program} {l : Launch} {e : Env} {s : State} {m : MethodId} {args : Array Value} {below : List Frame} {meth : Method} {c : Code} {Q : State → Prop} {D : va_G} {kc : Nat → ClassId} {ad : Nat → Nat} {A : Nat → Prop} {adK adV : Nat → Nat} (C : Cx (eC adK adV) p s m args c cX2_valueOf 7 RX2 D kc A) {R : Int64 × St} {a3 : Nat} {x2 : Int32} (hR : RTl 0 0 p l e r_X2_valueOf s m args below meth c cX2_valueOf tC kc ad D A Q R.1 R.2) (ha3 : isArr tC 1 a3) : ∀ (n : Nat) (x4 : Int32) (x5 : Int32) (σ : St) (H : Heap) (locs : List Loc) (ls : Array Slot), Dy tC kc ad D A s.heap σ H locs → lv_has ls 7 [(0, .ref (ad 4)), (2, .int x2), (3, .ref (ad a3)), (4, .int x4), (5, .int x5)] → f_X2_valueOf_10 a3 x2 n x4 x5 σ = some R → W p l e r_X2_valueOf s m args below meth c H locs 0 0 Q (F0 m 10 ls []) := by
  have hx := C.1.1
  have hb := C.1.2.1
  intro n
  induction n with
  | zero =>
    intro x4 x5 σ H locs ls Z hl h
    exact absurd (show none = some R from h) (by simp)
  | succ n ih =>
    intro x4 x5 σ H locs ls Z hl h
    rw [f_X2_valueOf_10] at h
    refine lv_iload hx hb dX2_valueOf_10 (lv_at hl 4 rfl) ?_
    refine lv_iload_n hx hb dX2_valueOf_12 rfl (lv_at hl 1 rfl) ?_
    refine lv_icmp_ge (tgt := 174) hx hb dX2_valueOf_13 (by decide) (fun c13 => ?_) (fun c13 => ?_)
    · have h := ip h c13
      exact w_X2_valueOf_174 C hR Z (lv_sub hl [0, 3] rfl) h
    · have h := im h c13
      refine lv_iload hx hb dX2_valueOf_16 (lv_at hl 4 rfl) ?_
      refine lv_aload_n hx hb dX2_valueOf_18 rfl (lv_at hl 0 rfl) ?_
      refine rg_X2_27 C Z dX2_valueOf_19 ?_
      refine g_len C Z iaC37 (by decide) (v := lenI tC σ 37) rfl dX2_valueOf_22 ?_
      refine lv_icmp_ge (tgt := 174) hx hb dX2_valueOf_23 (by decide) (fun c23 => ?_) (fun c23 => ?_)
      · have h := ip h c23
        exact w_X2_valueOf_174 C hR Z (lv_sub hl [0, 3] rfl) h
      · have h := im h c23
        refine lv_aload_n hx hb dX2_valueOf_26 rfl (lv_at hl 0 rfl) ?_
        refine rg_X2_27 C Z dX2_valueOf_27 ?_
        refine lv_iload hx hb dX2_valueOf_30 (lv_at hl 4 rfl) ?_
        obtain ⟨v28, hv28, h⟩ := ob h
        refine g_iald C Z iaC37 hv28 dX2_valueOf_32 ?_
        refine lv_istore (lv' := [(6, .int v28), (0, .ref (ad 4)), (2, .int x2), (3, .ref (ad a3)), (4, .int x4), (5, .int x5)]) hx hb dX2_valueOf_33 hl (by decide) rfl (fun ls hl => ?_)
        refine lv_iload hx hb dX2_valueOf_35 (lv_at hl 0 rfl) ?_
        refine lv_bipush (v := (-10)) hx hb dX2_valueOf_37 (by decide) ?_
        refine lv_icmp_le (tgt := 81) hx hb dX2_valueOf_39 (by decide) (fun c39 => ?_) (fun c39 => ?_)
        · have h := ip h c39
          refine lv_iload hx hb dX2_valueOf_81 (lv_at hl 0 rfl) ?_
          refine lv_bipush (v := (-10)) hx hb dX2_valueOf_83 (by decide) ?_
          refine lv_icmp_ne (tgt := 127) hx hb dX2_valueOf_85 (by decide) (fun c85 => ?_) (fun c85 => ?_)
          · have h := im h c85
            refine lv_iload hx hb dX2_valueOf_127 (lv_at hl 4 rfl) ?_
            refine lv_iconst (v := 2) hx hb dX2_valueOf_129 (by decide) ?_
            refine lv_icmp_ge (tgt := 135) hx hb dX2_valueOf_130 (by decide) (fun c130 => ?_) (fun c130 => ?_)
            · have h := ip h c130
              obtain ⟨v29, ev29, h⟩ := lb h
              refine lv_iinc (v := v29) (lv' := [(4, .int v29), (6, .int v28), (0, .ref (ad 4)), (2, .int x2), (3, .ref (ad a3)), (5, .int x5)]) hx hb dX2_valueOf_135 hl (k := 4) rfl (by rw [ev29]; rfl) (by decide) rfl (fun ls hl => ?_)
              refine lv_aload_n hx hb dX2_valueOf_138 rfl (lv_at hl 2 rfl) ?_
              refine rg_X2_48 C Z dX2_valueOf_139 ?_
              refine lv_iload hx hb dX2_valueOf_142 (lv_at hl 0 rfl) ?_
              refine lv_iconst (v := 1) hx hb dX2_valueOf_144 (by decide) ?_
              refine lv_isub hx hb dX2_valueOf_145 ?_
              refine lv_iload hx hb dX2_valueOf_146 (lv_at hl 1 rfl) ?_
              refine lv_aload_n hx hb dX2_valueOf_148 rfl (lv_at hl 2 rfl) ?_
              refine rg_X2_48 C Z dX2_valueOf_149 ?_
              refine lv_iload hx hb dX2_valueOf_152 (lv_at hl 0 rfl) ?_
              refine lv_iconst (v := 1) hx hb dX2_valueOf_154 (by decide) ?_
              refine lv_isub hx hb dX2_valueOf_155 ?_
              obtain ⟨v30, hv30, h⟩ := ob h
              refine g_lald C Z iaC44 hv30 dX2_valueOf_156 ?_
              refine lv_aload_n hx hb dX2_valueOf_157 rfl (lv_at hl 2 rfl) ?_
              refine rg_X2_48 C Z dX2_valueOf_158 ?_
              refine lv_iload hx hb dX2_valueOf_161 (lv_at hl 0 rfl) ?_
              obtain ⟨v31, hv31, h⟩ := ob h
              refine g_lald C Z iaC44 hv31 dX2_valueOf_163 ?_
              refine g_callSl (eC_ok adK adV) C Z (k_X2_join v28 v30 v31 σ) lk_X2_122 hl (by decide) rfl (Nat.le_of_ble_eq_true rfl) (rest := [.int (v29 - 1), .ref (ad 44)]) rfl dX2_valueOf_164 (fun H locs Z => ?_)
              obtain ⟨σ32, hσ32, h⟩ := ob h
              refine g_last C Z iaC44 hσ32 dX2_valueOf_167 (fun H locs Z => ?_)
              exact w_X2_valueOf_168 C hR ha3 ih Z (lv_sub hl [2, 3, 4, 0, 5] rfl) h
            · have h := im h c130
              refine lv_lconst (v := 0) hx hb dX2_valueOf_133 (by decide) ?_
              obtain rfl := Option.some.inj h
              exact hR _ _ _ _ Z dX2_valueOf_134
          · have h := ip h c85
            refine lv_iload hx hb dX2_valueOf_88 (lv_at hl 4 rfl) ?_
            refine lv_iconst (v := 1) hx hb dX2_valueOf_90 (by decide) ?_
            refine lv_icmp_ge (tgt := 96) hx hb dX2_valueOf_91 (by decide) (fun c91 => ?_) (fun c91 => ?_)
            · have h := ip h c91
              refine lv_aload_n hx hb dX2_valueOf_96 rfl (lv_at hl 1 rfl) ?_
              refine rg_X2_48 C Z dX2_valueOf_97 ?_
              refine lv_iload hx hb dX2_valueOf_100 (lv_at hl 4 rfl) ?_
              refine lv_iconst (v := 1) hx hb dX2_valueOf_102 (by decide) ?_
              refine lv_isub hx hb dX2_valueOf_103 ?_
              refine lv_aload_n hx hb dX2_valueOf_104 rfl (lv_at hl 1 rfl) ?_
              refine rg_X2_48 C Z dX2_valueOf_105 ?_
              refine lv_iload hx hb dX2_valueOf_108 (lv_at hl 4 rfl) ?_
              refine lv_iconst (v := 1) hx hb dX2_valueOf_110 (by decide) ?_
              refine lv_isub hx hb dX2_valueOf_111 ?_
              obtain ⟨v33, hv33, h⟩ := ob h
              refine g_lald C Z iaC44 hv33 dX2_valueOf_112 ?_
              refine lv_lconst (v := 0) hx hb dX2_valueOf_113 (by decide) ?_
              obtain ⟨v34, ev34, h⟩ := lb h
              have hj : W p l e r_X2_valueOf s m args below meth c H locs 0 0 Q (F0 m 123 ls [.long v34, .int (x4 - 1), .ref (ad 44)]) := by
                obtain ⟨σ35, hσ35, h⟩ := ob h
                refine g_last C Z iaC44 hσ35 dX2_valueOf_123 (fun H locs Z => ?_)
                refine lv_goto (tgt := 168) hx hb dX2_valueOf_124 (by decide) ?_
                exact w_X2_valueOf_168 C hR ha3 ih Z (lv_sub hl [1, 2, 3, 4, 5] rfl) h
              refine g_lne (tgt := 122) hx hb dX2_valueOf_114 dX2_valueOf_115 (by decide) (fun c115 => ?_) (fun c115 => ?_)
              · rw [if_neg c115] at ev34
                refine lv_lconst (v := 0) hx hb dX2_valueOf_122 (by decide) ?_
                exact tn_l ev34 hj
              · rw [if_pos c115] at ev34
                refine lv_lconst (v := 1) hx hb dX2_valueOf_118 (by decide) ?_
                refine lv_goto (tgt := 123) hx hb dX2_valueOf_119 (by decide) ?_
                exact tn_l ev34 hj
            · have h := im h c91
              refine lv_lconst (v := 0) hx hb dX2_valueOf_94 (by decide) ?_
              obtain rfl := Option.some.inj h
              exact hR _ _ _ _ Z dX2_valueOf_95
        · have h := im h c39
          refine lv_iload hx hb dX2_valueOf_42 (lv_at hl 4 rfl) ?_
          refine lv_bipush (v := 96) hx hb dX2_valueOf_44 (by decide) ?_
          refine lv_icmp_lt (tgt := 51) hx hb dX2_valueOf_46 (by decide) (fun c46 => ?_) (fun c46 => ?_)
          · have h := ip h c46
            refine lv_aload_n hx hb dX2_valueOf_51 rfl (lv_at hl 1 rfl) ?_
            refine rg_X2_48 C Z dX2_valueOf_52 ?_
            refine lv_iload hx hb dX2_valueOf_55 (lv_at hl 4 rfl) ?_
            refine lv_iload hx hb dX2_valueOf_57 (lv_at hl 0 rfl) ?_
            refine lv_if_lt (tgt := 68) hx hb dX2_valueOf_59 (by decide) (fun c59 => ?_) (fun c59 => ?_)
            · have h := ip h c59
              refine lv_iload hx hb dX2_valueOf_68 (lv_at hl 0 rfl) ?_
              refine lv_aload_n hx hb dX2_valueOf_70 rfl (lv_at hl 3 rfl) ?_
              obtain ⟨v36, hv36, h⟩ := ob h
              refine g_callSl (eC_ok adK adV) C Z (k_X2_wordOf ha3 hv36) lk_X2_118 hl (by decide) rfl (Nat.le_of_ble_eq_true rfl) (rest := [.int x4, .ref (ad 44)]) rfl dX2_valueOf_71 (fun H locs Z => ?_)
              exact w_X2_valueOf_74 C hR ha3 ih Z (lv_sub hl [1, 2, 3, 4, 5] rfl) h
            · have h := im h c59
              refine lv_iload hx hb dX2_valueOf_62 (lv_at hl 0 rfl) ?_
              refine lv_i2l (v := v28.toInt64) hx hb dX2_valueOf_64 rfl ?_
              refine lv_goto (tgt := 74) hx hb dX2_valueOf_65 (by decide) ?_
              exact w_X2_valueOf_74 C hR ha3 ih Z (lv_sub hl [1, 2, 3, 4, 5] rfl) h
          · have h := im h c46
            refine lv_lconst (v := 0) hx hb dX2_valueOf_49 (by decide) ?_
            obtain rfl := Option.some.inj h
            exact hR _ _ _ _ Z dX2_valueOf_50
set_option maxRecDepth 20000 in
theorem w_X2_valueOf_0 {p : Program} {l : Launch} {e : Env} {s : State} {m : MethodId} {args : Array Value} {below : List Frame} {meth : Method} {c : Code} {Q : State → Prop} {D : va_G} {kc : Nat → ClassId} {ad : Nat → Nat} {A : Nat → Prop} {adK adV : Nat → Nat} (C : Cx (eC adK adV) p s m args c cX2_valueOf 7 RX2 D kc A) {R : Int64 × St} {a3 : Nat} {x1 : Int32} {x2 : Int32} {σ : St} (hR : RTl 0 0 p l e r_X2_valueOf s m args below meth c cX2_valueOf tC kc ad D A Q R.1 R.2) (ha3 : isArr tC 1 a3) {H : Heap} {locs : List Loc} {ls : Array Slot} (Z : Dy tC kc ad D A s.heap σ H locs) (hl : lv_has ls 7 [(0, .ref (ad 4)), (1, .int x1), (2, .int x2), (3, .ref (ad a3))]) (h : f_X2_valueOf a3 x1 x2 σ = some R) : W p l e r_X2_valueOf s m args below meth c H locs 0 0 Q (F0 m 0 ls []) := by
  have hx := C.1.1
  have hb := C.1.2.1
  unfold f_X2_valueOf at h
  refine lv_iconst (v := 0) hx hb dX2_valueOf_0 (by decide) ?_
  refine lv_istore (lv' := [(4, .int 0), (0, .ref (ad 4)), (1, .int x1), (2, .int x2), (3, .ref (ad a3))]) hx hb dX2_valueOf_1 hl (by decide) rfl (fun ls hl => ?_)
  refine lv_iconst (v := 0) hx hb dX2_valueOf_3 (by decide) ?_
  refine lv_iload_n hx hb dX2_valueOf_4 rfl (lv_at hl 2 rfl) ?_
  refine g_max_7cf53 C hl wM_X2_66 (by decide) (rest := []) (Nat.le_of_ble_eq_true rfl) dX2_valueOf_5 ?_
  obtain ⟨v27, ev27, h⟩ := lb h
  refine tn_i ev27 ?_
  refine lv_istore (lv' := [(5, .int v27), (4, .int 0), (0, .ref (ad 4)), (1, .int x1), (2, .int x2), (3, .ref (ad a3))]) hx hb dX2_valueOf_8 hl (by decide) rfl (fun ls hl => ?_)
  exact w_X2_valueOf_10 C hR ha3 _ _ _ _ _ _ _ Z (lv_sub hl [2, 4, 5, 1, 0] rfl) h
theorem k_X2_valueOf {l : Launch} {kc : Nat → ClassId} {ad : Nat → Nat} {D : va_G} {adK adV : Nat → Nat} {a3 : Nat} (ha3 : isArr tC 1 a3) {x1 : Int32} {x2 : Int32} {σ : St} {R : Int64 × St} (h : f_X2_valueOf a3 x1 x2 σ = some R) : KC (eC adK adV) tC kc ad D l yX2_valueOf (.code yX2_valueOf cX2_valueOf 7 (some .long)) r_X2_valueOf [.ref (ad 4), .int x1, .int x2, .ref (ad a3)] (some (.long R.1)) σ R.2 := by
  refine g_enter (by decide) (Nat.le_of_ble_eq_true rfl) ?_
  intro p e s m args below meth c A hA C hr hlocks Z ls hl
  have hl : lv_has ls 7 [(0, .ref (ad 4)), (1, .int x1), (2, .int x2), (3, .ref (ad a3))] := hl
  exact w_X2_valueOf_0 C (g_RTl C.1.1 C.1.2.1 hr hlocks hA) ha3 Z hl h
def r_X2_holds : Room := { frames := 2, cells := 0, slots := 0, locals := 51 }
set_option maxRecDepth 20000 in
theorem w_X2_holds_0 {p : Program} {l : Launch} {e : Env} {s : State} {m : MethodId} {args : Array Value} {below : List Frame} {meth : Method} {c : Code} {Q : State → Prop} {D : va_G} {kc : Nat → ClassId} {ad : Nat → Nat} {A : Nat → Prop} {adK adV : Nat → Nat} (C : Cx (eC adK adV) p s m args c cX2_holds 4 RX2 D kc A) {R : Int32 × St} {a2 : Nat} {x1 : Int32} {σ : St} (hR : RTi 0 0 p l e r_X2_holds s m args below meth c cX2_holds tC kc ad D A Q .boolean R.1 R.2) (ha2 : isArr tC 1 a2) {H : Heap} {locs : List Loc} {ls : Array Slot} (Z : Dy tC kc ad D A s.heap σ H locs) (hl : lv_has ls 4 [(0, .ref (ad 4)), (1, .int x1), (2, .ref (ad a2))]) (h : f_X2_holds a2 x1 σ = some R) : W p l e r_X2_holds s m args below meth c H locs 0 0 Q (F0 m 0 ls []) := by
  have hx := C.1.1
  have hb := C.1.2.1
  unfold f_X2_holds at h
  refine lv_aload_n hx hb dX2_holds_0 rfl (lv_at hl 0 rfl) ?_
  refine rg_X2_36 C Z dX2_holds_1 ?_
  refine lv_iload_n hx hb dX2_holds_4 rfl (lv_at hl 1 rfl) ?_
  obtain ⟨v11, hv11, h⟩ := ob h
  refine g_iald C Z iaC40 hv11 dX2_holds_5 ?_
  refine lv_if_ne (tgt := 11) hx hb dX2_holds_6 (by decide) (fun c6 => ?_) (fun c6 => ?_)
  · have h := im h c6
    refine lv_aload_n hx hb dX2_holds_11 rfl (lv_at hl 0 rfl) ?_
    refine lv_aload_n hx hb dX2_holds_12 rfl (lv_at hl 0 rfl) ?_
    refine rg_X2_42 C Z dX2_holds_13 ?_
    refine lv_iload_n hx hb dX2_holds_16 rfl (lv_at hl 1 rfl) ?_
    obtain ⟨v12, hv12, h⟩ := ob h
    refine g_iald C Z iaC42 hv12 dX2_holds_17 ?_
    refine lv_aload_n hx hb dX2_holds_18 rfl (lv_at hl 0 rfl) ?_
    refine rg_X2_45 C Z dX2_holds_19 ?_
    refine lv_iload_n hx hb dX2_holds_22 rfl (lv_at hl 1 rfl) ?_
    obtain ⟨v13, hv13, h⟩ := ob h
    refine g_iald C Z iaC43 hv13 dX2_holds_23 ?_
    refine lv_aload_n hx hb dX2_holds_24 rfl (lv_at hl 2 rfl) ?_
    obtain ⟨u14, hu14, h⟩ := ob h
    refine g_callVl (eC_ok adK adV) C Z (k_X2_valueOf ha2 hu14) lk_X2_114 (by decide) rfl rfl hl (by decide) rfl (Nat.le_of_ble_eq_true rfl) (rest := []) rfl dX2_holds_25 (fun H locs Z => ?_)
    refine lv_lconst (v := 0) hx hb dX2_holds_28 (by decide) ?_
    obtain ⟨v15, ev15, h⟩ := lb h
    have hj : W p l e r_X2_holds s m args below meth c H locs 0 0 Q (F0 m 38 ls [.int v15]) := by
      refine lv_istore_n (lv' := [(3, .int v15), (0, .ref (ad 4)), (1, .int x1), (2, .ref (ad a2))]) hx hb dX2_holds_38 rfl hl (by decide) rfl (fun ls hl => ?_)
      refine lv_iload_n hx hb dX2_holds_39 rfl (lv_at hl 0 rfl) ?_
      refine lv_aload_n hx hb dX2_holds_40 rfl (lv_at hl 1 rfl) ?_
      refine rg_X2_36 C Z dX2_holds_41 ?_
      refine lv_iload_n hx hb dX2_holds_44 rfl (lv_at hl 2 rfl) ?_
      obtain ⟨v16, hv16, h⟩ := ob h
      refine g_iald C Z iaC40 hv16 dX2_holds_45 ?_
      refine lv_iconst (v := 1) hx hb dX2_holds_46 (by decide) ?_
      obtain ⟨v17, ev17, h⟩ := lb h
      have hj : W p l e r_X2_holds s m args below meth c H locs 0 0 Q (F0 m 55 ls [.int v17, .int v15]) := by
        obtain ⟨v18, ev18, h⟩ := lb h
        have hj : W p l e r_X2_holds s m args below meth c H locs 0 0 Q (F0 m 63 ls [.int v18]) := by
          obtain rfl := Option.some.inj h
          exact hR _ _ _ _ _ Z dX2_holds_63 (nar_b _)
        refine lv_icmp_ne (tgt := 62) hx hb dX2_holds_55 (by decide) (fun c55 => ?_) (fun c55 => ?_)
        · rw [if_neg c55] at ev18
          refine lv_iconst (v := 0) hx hb dX2_holds_62 (by decide) ?_
          exact tn_i ev18 hj
        · rw [if_pos c55] at ev18
          refine lv_iconst (v := 1) hx hb dX2_holds_58 (by decide) ?_
          refine lv_goto (tgt := 63) hx hb dX2_holds_59 (by decide) ?_
          exact tn_i ev18 hj
      refine lv_icmp_ne (tgt := 54) hx hb dX2_holds_47 (by decide) (fun c47 => ?_) (fun c47 => ?_)
      · rw [if_neg c47] at ev17
        refine lv_iconst (v := 0) hx hb dX2_holds_54 (by decide) ?_
        exact tn_i ev17 hj
      · rw [if_pos c47] at ev17
        refine lv_iconst (v := 1) hx hb dX2_holds_50 (by decide) ?_
        refine lv_goto (tgt := 55) hx hb dX2_holds_51 (by decide) ?_
        exact tn_i ev17 hj
    refine g_leq (tgt := 37) hx hb dX2_holds_29 dX2_holds_30 (by decide) (fun c30 => ?_) (fun c30 => ?_)
    · rw [if_pos c30] at ev15
      refine lv_iconst (v := 0) hx hb dX2_holds_37 (by decide) ?_
      exact tn_i ev15 hj
    · rw [if_neg c30] at ev15
      refine lv_iconst (v := 1) hx hb dX2_holds_33 (by decide) ?_
      refine lv_goto (tgt := 38) hx hb dX2_holds_34 (by decide) ?_
      exact tn_i ev15 hj
  · have h := ip h c6
    refine lv_iconst (v := 1) hx hb dX2_holds_9 (by decide) ?_
    obtain rfl := Option.some.inj h
    exact hR _ _ _ _ _ Z dX2_holds_10 rfl
theorem k_X2_holds {l : Launch} {kc : Nat → ClassId} {ad : Nat → Nat} {D : va_G} {adK adV : Nat → Nat} {a2 : Nat} (ha2 : isArr tC 1 a2) {x1 : Int32} {σ : St} {R : Int32 × St} (h : f_X2_holds a2 x1 σ = some R) : KC (eC adK adV) tC kc ad D l yX2_holds (.code yX2_holds cX2_holds 4 (some .boolean)) r_X2_holds [.ref (ad 4), .int x1, .ref (ad a2)] (some (.int R.1)) σ R.2 := by
  refine g_enter (by decide) (Nat.le_of_ble_eq_true rfl) ?_
  intro p e s m args below meth c A hA C hr hlocks Z ls hl
  have hl : lv_has ls 4 [(0, .ref (ad 4)), (1, .int x1), (2, .ref (ad a2))] := hl
  exact w_X2_holds_0 C (g_RTi C.1.1 C.1.2.1 hr hlocks hA) ha2 Z hl h
def r_X2_findClause : Room := { frames := 3, cells := 0, slots := 0, locals := 74 }
set_option maxRecDepth 20000 in
theorem w_X2_findClause_93 {p : Program} {l : Launch} {e : Env} {s : State} {m : MethodId} {args : Array Value} {below : List Frame} {meth : Method} {c : Code} {Q : State → Prop} {D : va_G} {kc : Nat → ClassId} {ad : Nat → Nat} {A : Nat → Prop} {adK adV : Nat → Nat} (C : Cx (eC adK adV) p s m args c cX2_findClause 8 RX2 D kc A) {R : Int32 × St} {x6 : Int32} {x7 : Int32} {σ : St} (hR : RTi 0 0 p l e r_X2_findClause s m args below meth c cX2_findClause tC kc ad D A Q .int R.1 R.2) {H : Heap} {locs : List Loc} {ls : Array Slot} (Z : Dy tC kc ad D A s.heap σ H locs) (hl : lv_has ls 8 [(6, .int x6), (7, .int x7)]) (h : f_X2_findClause_93 x6 x7 σ = some R) : W p l e r_X2_findClause s m args below meth c H locs 0 0 Q (F0 m 93 ls []) := by
  have hx := C.1.1
  have hb := C.1.2.1
  unfold f_X2_findClause_93 at h
  refine lv_bipush (v := 16) hx hb dX2_findClause_93 (by decide) ?_
  refine lv_iload hx hb dX2_findClause_95 (lv_at hl 0 rfl) ?_
  refine lv_imul hx hb dX2_findClause_97 ?_
  refine lv_iload hx hb dX2_findClause_98 (lv_at hl 1 rfl) ?_
  refine lv_iadd hx hb dX2_findClause_100 ?_
  obtain rfl := Option.some.inj h
  exact hR _ _ _ _ _ Z dX2_findClause_101 rfl
set_option maxRecDepth 20000 in
theorem w_X2_findClause_102 {p : Program} {l : Launch} {e : Env} {s : State} {m : MethodId} {args : Array Value} {below : List Frame} {meth : Method} {c : Code} {Q : State → Prop} {D : va_G} {kc : Nat → ClassId} {ad : Nat → Nat} {A : Nat → Prop} {adK adV : Nat → Nat} (C : Cx (eC adK adV) p s m args c cX2_findClause 8 RX2 D kc A) {R : Int32 × St} {a4 : Nat} {x1 : Int32} {x2 : Int32} {x3 : Int32} {x5 : Int32} {x6 : Int32} {x7 : Int32} {σ : St} (hR : RTi 0 0 p l e r_X2_findClause s m args below meth c cX2_findClause tC kc ad D A Q .int R.1 R.2) (ha4 : isArr tC 1 a4) {k47 : Int32 → St → Option (Int32 × St)} {k3 : Int32 → St → Option (Int32 × St)} (hk47 : ∀ (x7 : Int32) (σ : St) (H : Heap) (locs : List Loc) (ls : Array Slot), Dy tC kc ad D A s.heap σ H locs → lv_has ls 8 [(0, .ref (ad 4)), (1, .int x1), (2, .int x2), (3, .int x3), (4, .ref (ad a4)), (5, .int x5), (6, .int x6), (7, .int x7)] → k47 x7 σ = some R → W p l e r_X2_findClause s m args below meth c H locs 0 0 Q (F0 m 47 ls [])) (hk3 : ∀ (x5 : Int32) (σ : St) (H : Heap) (locs : List Loc) (ls : Array Slot), Dy tC kc ad D A s.heap σ H locs → lv_has ls 8 [(0, .ref (ad 4)), (1, .int x1), (2, .int x2), (3, .int x3), (4, .ref (ad a4)), (5, .int x5)] → k3 x5 σ = some R → W p l e r_X2_findClause s m args below meth c H locs 0 0 Q (F0 m 3 ls [])) {H : Heap} {locs : List Loc} {ls : Array Slot} (Z : Dy tC kc ad D A s.heap σ H locs) (hl : lv_has ls 8 [(0, .ref (ad 4)), (1, .int x1), (2, .int x2), (3, .int x3), (4, .ref (ad a4)), (5, .int x5), (6, .int x6), (7, .int x7)]) (h : f_X2_findClause_102 a4 x1 x2 x3 x5 x6 x7 σ k47 k3 = some R) : W p l e r_X2_findClause s m args below meth c H locs 0 0 Q (F0 m 102 ls []) := by
  have hx := C.1.1
  have hb := C.1.2.1
  unfold f_X2_findClause_102 at h
  obtain ⟨v23, ev23, h⟩ := lb h
  refine lv_iinc (v := v23) (lv' := [(7, .int v23), (0, .ref (ad 4)), (1, .int x1), (2, .int x2), (3, .int x3), (4, .ref (ad a4)), (5, .int x5), (6, .int x6)]) hx hb dX2_findClause_102 hl (k := 7) rfl (by rw [ev23]; rfl) (by decide) rfl (fun ls hl => ?_)
  refine lv_goto (tgt := 47) hx hb dX2_findClause_105 (by decide) ?_
  exact hk47 _ _ _ _ _ Z (lv_sub hl [1, 2, 3, 4, 5, 6, 7, 0] rfl) h
set_option maxRecDepth 20000 in
theorem w_X2_findClause_108 {p : Program} {l : Launch} {e : Env} {s : State} {m : MethodId} {args : Array Value} {below : List Frame} {meth : Method} {c : Code} {Q : State → Prop} {D : va_G} {kc : Nat → ClassId} {ad : Nat → Nat} {A : Nat → Prop} {adK adV : Nat → Nat} (C : Cx (eC adK adV) p s m args c cX2_findClause 8 RX2 D kc A) {R : Int32 × St} {a4 : Nat} {x1 : Int32} {x2 : Int32} {x3 : Int32} {x5 : Int32} {σ : St} (hR : RTi 0 0 p l e r_X2_findClause s m args below meth c cX2_findClause tC kc ad D A Q .int R.1 R.2) (ha4 : isArr tC 1 a4) {k3 : Int32 → St → Option (Int32 × St)} (hk3 : ∀ (x5 : Int32) (σ : St) (H : Heap) (locs : List Loc) (ls : Array Slot), Dy tC kc ad D A s.heap σ H locs → lv_has ls 8 [(0, .ref (ad 4)), (1, .int x1), (2, .int x2), (3, .int x3), (4, .ref (ad a4)), (5, .int x5)] → k3 x5 σ = some R → W p l e r_X2_findClause s m args below meth c H locs 0 0 Q (F0 m 3 ls [])) {H : Heap} {locs : List Loc} {ls : Array Slot} (Z : Dy tC kc ad D A s.heap σ H locs) (hl : lv_has ls 8 [(0, .ref (ad 4)), (1, .int x1), (2, .int x2), (3, .int x3), (4, .ref (ad a4)), (5, .int x5)]) (h : f_X2_findClause_108 a4 x1 x2 x3 x5 σ k3 = some R) : W p l e r_X2_findClause s m args below meth c H locs 0 0 Q (F0 m 108 ls []) := by
  have hx := C.1.1
  have hb := C.1.2.1
  unfold f_X2_findClause_108 at h
  obtain ⟨v24, ev24, h⟩ := lb h
  refine lv_iinc (v := v24) (lv' := [(5, .int v24), (0, .ref (ad 4)), (1, .int x1), (2, .int x2), (3, .int x3), (4, .ref (ad a4))]) hx hb dX2_findClause_108 hl (k := 5) rfl (by rw [ev24]; rfl) (by decide) rfl (fun ls hl => ?_)
  refine lv_goto (tgt := 3) hx hb dX2_findClause_111 (by decide) ?_
  exact hk3 _ _ _ _ _ Z (lv_sub hl [1, 2, 3, 4, 5, 0] rfl) h
set_option maxRecDepth 20000 in
theorem w_X2_findClause_47 {p : Program} {l : Launch} {e : Env} {s : State} {m : MethodId} {args : Array Value} {below : List Frame} {meth : Method} {c : Code} {Q : State → Prop} {D : va_G} {kc : Nat → ClassId} {ad : Nat → Nat} {A : Nat → Prop} {adK adV : Nat → Nat} (C : Cx (eC adK adV) p s m args c cX2_findClause 8 RX2 D kc A) {R : Int32 × St} {a4 : Nat} {x1 : Int32} {x2 : Int32} {x3 : Int32} {x5 : Int32} {x6 : Int32} (hR : RTi 0 0 p l e r_X2_findClause s m args below meth c cX2_findClause tC kc ad D A Q .int R.1 R.2) (ha4 : isArr tC 1 a4) {k3 : Int32 → St → Option (Int32 × St)} (hk3 : ∀ (x5 : Int32) (σ : St) (H : Heap) (locs : List Loc) (ls : Array Slot), Dy tC kc ad D A s.heap σ H locs → lv_has ls 8 [(0, .ref (ad 4)), (1, .int x1), (2, .int x2), (3, .int x3), (4, .ref (ad a4)), (5, .int x5)] → k3 x5 σ = some R → W p l e r_X2_findClause s m args below meth c H locs 0 0 Q (F0 m 3 ls [])) : ∀ (n : Nat) (x7 : Int32) (σ : St) (H : Heap) (locs : List Loc) (ls : Array Slot), Dy tC kc ad D A s.heap σ H locs → lv_has ls 8 [(0, .ref (ad 4)), (1, .int x1), (2, .int x2), (3, .int x3), (4, .ref (ad a4)), (5, .int x5), (6, .int x6), (7, .int x7)] → f_X2_findClause_47 a4 x1 x2 x3 x5 x6 k3 n x7 σ = some R → W p l e r_X2_findClause s m args below meth c H locs 0 0 Q (F0 m 47 ls []) := by
  have hx := C.1.1
  have hb := C.1.2.1
  intro n
  induction n with
  | zero =>
    intro x7 σ H locs ls Z hl h
    exact absurd (show none = some R from h) (by simp)
  | succ n ih =>
    intro x7 σ H locs ls Z hl h
    rw [f_X2_findClause_47] at h
    refine lv_iload hx hb dX2_findClause_47 (lv_at hl 7 rfl) ?_
    refine lv_aload_n hx hb dX2_findClause_49 rfl (lv_at hl 0 rfl) ?_
    refine rg_X2_24 C Z dX2_findClause_50 ?_
    refine lv_iload hx hb dX2_findClause_53 (lv_at hl 6 rfl) ?_
    obtain ⟨v20, hv20, h⟩ := ob h
    refine g_iald C Z iaC36 hv20 dX2_findClause_55 ?_
    refine lv_icmp_ge (tgt := 108) hx hb dX2_findClause_56 (by decide) (fun c56 => ?_) (fun c56 => ?_)
    · have h := ip h c56
      exact w_X2_findClause_108 C hR ha4 hk3 Z (lv_sub hl [0, 1, 2, 3, 4, 5] rfl) h
    · have h := im h c56
      refine lv_aload_n hx hb dX2_findClause_59 rfl (lv_at hl 0 rfl) ?_
      refine rg_X2_30 C Z dX2_findClause_60 ?_
      refine lv_iload hx hb dX2_findClause_63 (lv_at hl 6 rfl) ?_
      refine lv_bipush (v := 12) hx hb dX2_findClause_65 (by decide) ?_
      refine lv_imul hx hb dX2_findClause_67 ?_
      refine lv_iload hx hb dX2_findClause_68 (lv_at hl 7 rfl) ?_
      refine lv_iadd hx hb dX2_findClause_70 ?_
      obtain ⟨v21, hv21, h⟩ := ob h
      refine g_iald C Z iaC38 hv21 dX2_findClause_71 ?_
      refine lv_iload_n hx hb dX2_findClause_72 rfl (lv_at hl 2 rfl) ?_
      refine lv_icmp_ne (tgt := 102) hx hb dX2_findClause_73 (by decide) (fun c73 => ?_) (fun c73 => ?_)
      · have h := im h c73
        exact w_X2_findClause_102 C hR ha4 ih hk3 Z (lv_sub hl [0, 1, 2, 3, 4, 5, 6, 7] rfl) h
      · have h := ip h c73
        refine lv_aload_n hx hb dX2_findClause_76 rfl (lv_at hl 0 rfl) ?_
        refine lv_iload hx hb dX2_findClause_77 (lv_at hl 6 rfl) ?_
        refine lv_bipush (v := 12) hx hb dX2_findClause_79 (by decide) ?_
        refine lv_imul hx hb dX2_findClause_81 ?_
        refine lv_iload hx hb dX2_findClause_82 (lv_at hl 7 rfl) ?_
        refine lv_iadd hx hb dX2_findClause_84 ?_
        refine lv_aload hx hb dX2_findClause_85 (lv_at hl 4 rfl) ?_
        obtain ⟨u22, hu22, h⟩ := ob h
        refine g_callVi (eC_ok adK adV) C Z (k_X2_holds ha4 hu22) lk_X2_110 (by decide) rfl rfl hl (by decide) rfl (Nat.le_of_ble_eq_true rfl) (rest := []) rfl dX2_findClause_87 (fun H locs Z => ?_)
        refine lv_if_eq (tgt := 102) hx hb dX2_findClause_90 (by decide) (fun c90 => ?_) (fun c90 => ?_)
        · have h := ip h c90
          exact w_X2_findClause_102 C hR ha4 ih hk3 Z (lv_sub hl [0, 1, 2, 3, 4, 5, 6, 7] rfl) h
        · have h := im h c90
          exact w_X2_findClause_93 C hR Z (lv_sub hl [6, 7] rfl) h
set_option maxRecDepth 20000 in
theorem w_X2_findClause_3 {p : Program} {l : Launch} {e : Env} {s : State} {m : MethodId} {args : Array Value} {below : List Frame} {meth : Method} {c : Code} {Q : State → Prop} {D : va_G} {kc : Nat → ClassId} {ad : Nat → Nat} {A : Nat → Prop} {adK adV : Nat → Nat} (C : Cx (eC adK adV) p s m args c cX2_findClause 8 RX2 D kc A) {R : Int32 × St} {a4 : Nat} {x1 : Int32} {x2 : Int32} {x3 : Int32} (hR : RTi 0 0 p l e r_X2_findClause s m args below meth c cX2_findClause tC kc ad D A Q .int R.1 R.2) (ha4 : isArr tC 1 a4) : ∀ (n : Nat) (x5 : Int32) (σ : St) (H : Heap) (locs : List Loc) (ls : Array Slot), Dy tC kc ad D A s.heap σ H locs → lv_has ls 8 [(0, .ref (ad 4)), (1, .int x1), (2, .int x2), (3, .int x3), (4, .ref (ad a4)), (5, .int x5)] → f_X2_findClause_3 a4 x1 x2 x3 n x5 σ = some R → W p l e r_X2_findClause s m args below meth c H locs 0 0 Q (F0 m 3 ls []) := by
  have hx := C.1.1
  have hb := C.1.2.1
  intro n
  induction n with
  | zero =>
    intro x5 σ H locs ls Z hl h
    exact absurd (show none = some R from h) (by simp)
  | succ n ih =>
    intro x5 σ H locs ls Z hl h
    rw [f_X2_findClause_3] at h
    refine lv_iload hx hb dX2_findClause_3 (lv_at hl 5 rfl) ?_
    refine lv_aload_n hx hb dX2_findClause_5 rfl (lv_at hl 0 rfl) ?_
    refine rg_X2_52 C Z dX2_findClause_6 ?_
    refine lv_icmp_ge (tgt := 114) hx hb dX2_findClause_9 (by decide) (fun c9 => ?_) (fun c9 => ?_)
    · have h := ip h c9
      refine lv_iconst (v := (-1)) hx hb dX2_findClause_114 (by decide) ?_
      obtain rfl := Option.some.inj h
      exact hR _ _ _ _ _ Z dX2_findClause_115 rfl
    · have h := im h c9
      refine lv_aload_n hx hb dX2_findClause_12 rfl (lv_at hl 0 rfl) ?_
      refine rg_X2_21 C Z dX2_findClause_13 ?_
      refine lv_iload hx hb dX2_findClause_16 (lv_at hl 5 rfl) ?_
      obtain ⟨v17, hv17, h⟩ := ob h
      refine g_iald C Z iaC35 hv17 dX2_findClause_18 ?_
      refine lv_istore (lv' := [(6, .int v17), (0, .ref (ad 4)), (1, .int x1), (2, .int x2), (3, .int x3), (4, .ref (ad a4)), (5, .int x5)]) hx hb dX2_findClause_19 hl (by decide) rfl (fun ls hl => ?_)
      refine lv_aload_n hx hb dX2_findClause_21 rfl (lv_at hl 1 rfl) ?_
      refine lv_iload hx hb dX2_findClause_22 (lv_at hl 0 rfl) ?_
      refine lv_iload_n hx hb dX2_findClause_24 rfl (lv_at hl 2 rfl) ?_
      obtain ⟨v18, hv18, h⟩ := ob h
      refine g_callVi (eC_ok adK adV) C Z (k_X2_isOf hv18) lk_X2_103 (by decide) rfl rfl hl (by decide) rfl (Nat.le_of_ble_eq_true rfl) (rest := []) rfl dX2_findClause_25 (fun H locs Z => ?_)
      refine lv_if_eq (tgt := 108) hx hb dX2_findClause_28 (by decide) (fun c28 => ?_) (fun c28 => ?_)
      · have h := ip h c28
        exact w_X2_findClause_108 C hR ha4 ih Z (lv_sub hl [1, 2, 3, 4, 5, 6] rfl) h
      · have h := im h c28
        refine lv_aload_n hx hb dX2_findClause_31 rfl (lv_at hl 1 rfl) ?_
        refine lv_iload hx hb dX2_findClause_32 (lv_at hl 0 rfl) ?_
        refine lv_iload_n hx hb dX2_findClause_34 rfl (lv_at hl 4 rfl) ?_
        obtain ⟨v19, hv19, h⟩ := ob h
        refine g_callVi (eC_ok adK adV) C Z (k_X2_stands hv19) lk_X2_107 (by decide) rfl rfl hl (by decide) rfl (Nat.le_of_ble_eq_true rfl) (rest := []) rfl dX2_findClause_35 (fun H locs Z => ?_)
        refine lv_if_ne (tgt := 44) hx hb dX2_findClause_38 (by decide) (fun c38 => ?_) (fun c38 => ?_)
        · have h := im h c38
          refine lv_iconst (v := 0) hx hb dX2_findClause_44 (by decide) ?_
          refine lv_istore (lv' := [(7, .int 0), (6, .int v17), (0, .ref (ad 4)), (1, .int x1), (2, .int x2), (3, .int x3), (4, .ref (ad a4)), (5, .int x5)]) hx hb dX2_findClause_45 hl (by decide) rfl (fun ls hl => ?_)
          exact w_X2_findClause_47 C hR ha4 ih _ _ _ _ _ _ Z (lv_sub hl [2, 3, 4, 5, 6, 7, 1, 0] rfl) h
        · have h := ip h c38
          refine lv_goto (tgt := 108) hx hb dX2_findClause_41 (by decide) ?_
          exact w_X2_findClause_108 C hR ha4 ih Z (lv_sub hl [1, 2, 3, 4, 5, 6] rfl) h
set_option maxRecDepth 20000 in
theorem w_X2_findClause_0 {p : Program} {l : Launch} {e : Env} {s : State} {m : MethodId} {args : Array Value} {below : List Frame} {meth : Method} {c : Code} {Q : State → Prop} {D : va_G} {kc : Nat → ClassId} {ad : Nat → Nat} {A : Nat → Prop} {adK adV : Nat → Nat} (C : Cx (eC adK adV) p s m args c cX2_findClause 8 RX2 D kc A) {R : Int32 × St} {a4 : Nat} {x1 : Int32} {x2 : Int32} {x3 : Int32} {σ : St} (hR : RTi 0 0 p l e r_X2_findClause s m args below meth c cX2_findClause tC kc ad D A Q .int R.1 R.2) (ha4 : isArr tC 1 a4) {H : Heap} {locs : List Loc} {ls : Array Slot} (Z : Dy tC kc ad D A s.heap σ H locs) (hl : lv_has ls 8 [(0, .ref (ad 4)), (1, .int x1), (2, .int x2), (3, .int x3), (4, .ref (ad a4))]) (h : f_X2_findClause a4 x1 x2 x3 σ = some R) : W p l e r_X2_findClause s m args below meth c H locs 0 0 Q (F0 m 0 ls []) := by
  have hx := C.1.1
  have hb := C.1.2.1
  unfold f_X2_findClause at h
  refine lv_iconst (v := 0) hx hb dX2_findClause_0 (by decide) ?_
  refine lv_istore (lv' := [(5, .int 0), (0, .ref (ad 4)), (1, .int x1), (2, .int x2), (3, .int x3), (4, .ref (ad a4))]) hx hb dX2_findClause_1 hl (by decide) rfl (fun ls hl => ?_)
  exact w_X2_findClause_3 C hR ha4 _ _ _ _ _ _ Z (lv_sub hl [1, 2, 3, 4, 5, 0] rfl) h
theorem k_X2_findClause {l : Launch} {kc : Nat → ClassId} {ad : Nat → Nat} {D : va_G} {adK adV : Nat → Nat} {a4 : Nat} (ha4 : isArr tC 1 a4) {x1 : Int32} {x2 : Int32} {x3 : Int32} {σ : St} {R : Int32 × St} (h : f_X2_findClause a4 x1 x2 x3 σ = some R) : KC (eC adK adV) tC kc ad D l yX2_findClause (.code yX2_findClause cX2_findClause 8 (some .int)) r_X2_findClause [.ref (ad 4), .int x1, .int x2, .int x3, .ref (ad a4)] (some (.int R.1)) σ R.2 := by
  refine g_enter (by decide) (Nat.le_of_ble_eq_true rfl) ?_
  intro p e s m args below meth c A hA C hr hlocks Z ls hl
  have hl : lv_has ls 8 [(0, .ref (ad 4)), (1, .int x1), (2, .int x2), (3, .int x3), (4, .ref (ad a4))] := hl
  exact w_X2_findClause_0 C (g_RTi C.1.1 C.1.2.1 hr hlocks hA) ha4 Z hl h
def r_X2_allows : Room := { frames := 1, cells := 0, slots := 0, locals := 21 }
set_option maxRecDepth 20000 in
theorem w_X2_allows_39 {p : Program} {l : Launch} {e : Env} {s : State} {m : MethodId} {args : Array Value} {below : List Frame} {meth : Method} {c : Code} {Q : State → Prop} {D : va_G} {kc : Nat → ClassId} {ad : Nat → Nat} {A : Nat → Prop} {adK adV : Nat → Nat} (C : Cx (eC adK adV) p s m args c cX2_allows 5 RX2 D kc A) {R : Int32} {σ : St} (hR : RTi 0 0 p l e r_X2_allows s m args below meth c cX2_allows tC kc ad D A Q .boolean R σ) {H : Heap} {locs : List Loc} {ls : Array Slot} (Z : Dy tC kc ad D A s.heap σ H locs) (hl : lv_has ls 5 []) (h : f_X2_allows_39 σ = some R) : W p l e r_X2_allows s m args below meth c H locs 0 0 Q (F0 m 39 ls []) := by
  have hx := C.1.1
  have hb := C.1.2.1
  unfold f_X2_allows_39 at h
  refine lv_iconst (v := 1) hx hb dX2_allows_39 (by decide) ?_
  refine lv_goto (tgt := 44) hx hb dX2_allows_40 (by decide) ?_
  obtain rfl := Option.some.inj h
  exact hR _ _ _ _ _ Z dX2_allows_44 rfl
set_option maxRecDepth 20000 in
theorem w_X2_allows_30 {p : Program} {l : Launch} {e : Env} {s : State} {m : MethodId} {args : Array Value} {below : List Frame} {meth : Method} {c : Code} {Q : State → Prop} {D : va_G} {kc : Nat → ClassId} {ad : Nat → Nat} {A : Nat → Prop} {adK adV : Nat → Nat} (C : Cx (eC adK adV) p s m args c cX2_allows 5 RX2 D kc A) {R : Int32} {x2 : Int32} {σ : St} (hR : RTi 0 0 p l e r_X2_allows s m args below meth c cX2_allows tC kc ad D A Q .boolean R σ) {H : Heap} {locs : List Loc} {ls : Array Slot} (Z : Dy tC kc ad D A s.heap σ H locs) (hl : lv_has ls 5 [(2, .int x2)]) (h : f_X2_allows_30 x2 σ = some R) : W p l e r_X2_allows s m args below meth c H locs 0 0 Q (F0 m 30 ls []) := by
  have hx := C.1.1
  have hb := C.1.2.1
  unfold f_X2_allows_30 at h
  refine lv_iload_n hx hb dX2_allows_30 rfl (lv_at hl 0 rfl) ?_
  refine lv_if_eq (tgt := 39) hx hb dX2_allows_31 (by decide) (fun c31 => ?_) (fun c31 => ?_)
  · have h := ip h c31
    exact w_X2_allows_39 C hR Z (lv_sub hl [] rfl) h
  · have h := im h c31
    refine lv_iload_n hx hb dX2_allows_34 rfl (lv_at hl 0 rfl) ?_
    refine lv_iconst (v := 4) hx hb dX2_allows_35 (by decide) ?_
    refine lv_icmp_ne (tgt := 43) hx hb dX2_allows_36 (by decide) (fun c36 => ?_) (fun c36 => ?_)
    · have h := im h c36
      refine lv_iconst (v := 0) hx hb dX2_allows_43 (by decide) ?_
      obtain rfl := Option.some.inj h
      exact hR _ _ _ _ _ Z dX2_allows_44 rfl
    · have h := ip h c36
      exact w_X2_allows_39 C hR Z (lv_sub hl [] rfl) h
set_option maxRecDepth 20000 in
theorem w_X2_allows_0 {p : Program} {l : Launch} {e : Env} {s : State} {m : MethodId} {args : Array Value} {below : List Frame} {meth : Method} {c : Code} {Q : State → Prop} {D : va_G} {kc : Nat → ClassId} {ad : Nat → Nat} {A : Nat → Prop} {adK adV : Nat → Nat} (C : Cx (eC adK adV) p s m args c cX2_allows 5 RX2 D kc A) {R : Int32} {x1 : Int32} {x2 : Int32} {σ : St} (hR : RTi 0 0 p l e r_X2_allows s m args below meth c cX2_allows tC kc ad D A Q .boolean R σ) {H : Heap} {locs : List Loc} {ls : Array Slot} (Z : Dy tC kc ad D A s.heap σ H locs) (hl : lv_has ls 5 [(0, .ref (ad 4)), (1, .int x1), (2, .int x2)]) (h : f_X2_allows x1 x2 σ = some R) : W p l e r_X2_allows s m args below meth c H locs 0 0 Q (F0 m 0 ls []) := by
  have hx := C.1.1
  have hb := C.1.2.1
  unfold f_X2_allows at h
  refine lv_iload_n hx hb dX2_allows_0 rfl (lv_at hl 1 rfl) ?_
  refine lv_bipush (v := 16) hx hb dX2_allows_1 (by decide) ?_
  refine lv_idiv hx hb dX2_allows_3 (by decide) ?_
  obtain ⟨v7, ev7, h⟩ := lb h
  refine tn_i ev7 ?_
  refine lv_istore_n (lv' := [(3, .int v7), (0, .ref (ad 4)), (1, .int x1), (2, .int x2)]) hx hb dX2_allows_4 rfl hl (by decide) rfl (fun ls hl => ?_)
  refine lv_iload_n hx hb dX2_allows_5 rfl (lv_at hl 2 rfl) ?_
  refine lv_bipush (v := 16) hx hb dX2_allows_6 (by decide) ?_
  refine lv_irem hx hb dX2_allows_8 (by decide) ?_
  obtain ⟨v8, ev8, h⟩ := lb h
  refine tn_i ev8 ?_
  refine lv_istore (lv' := [(4, .int v8), (3, .int v7), (0, .ref (ad 4)), (1, .int x1), (2, .int x2)]) hx hb dX2_allows_9 hl (by decide) rfl (fun ls hl => ?_)
  refine lv_iload_n hx hb dX2_allows_11 rfl (lv_at hl 3 rfl) ?_
  refine lv_if_lt (tgt := 30) hx hb dX2_allows_12 (by decide) (fun c12 => ?_) (fun c12 => ?_)
  · have h := ip h c12
    exact w_X2_allows_30 C hR Z (lv_sub hl [4] rfl) h
  · have h := im h c12
    refine lv_aload_n hx hb dX2_allows_15 rfl (lv_at hl 2 rfl) ?_
    refine lv_iload_n hx hb dX2_allows_16 rfl (lv_at hl 1 rfl) ?_
    refine g_callVi (eC_ok adK adV) C Z (k_X2_has v7 σ) lk_X2_56 (by decide) rfl rfl hl (by decide) rfl (Nat.le_of_ble_eq_true rfl) (rest := []) rfl dX2_allows_17 (fun H locs Z => ?_)
    refine lv_if_eq (tgt := 30) hx hb dX2_allows_20 (by decide) (fun c20 => ?_) (fun c20 => ?_)
    · have h := ip h c20
      exact w_X2_allows_30 C hR Z (lv_sub hl [4] rfl) h
    · have h := im h c20
      refine lv_iload hx hb dX2_allows_23 (lv_at hl 0 rfl) ?_
      refine lv_bipush (v := 12) hx hb dX2_allows_25 (by decide) ?_
      refine lv_icmp_lt (tgt := 45) hx hb dX2_allows_27 (by decide) (fun c27 => ?_) (fun c27 => ?_)
      · have h := ip h c27
        refine lv_aload_n hx hb dX2_allows_45 rfl (lv_at hl 2 rfl) ?_
        refine rg_X2_33 C Z dX2_allows_46 ?_
        refine lv_iload_n hx hb dX2_allows_49 rfl (lv_at hl 1 rfl) ?_
        refine lv_bipush (v := 12) hx hb dX2_allows_50 (by decide) ?_
        refine lv_imul hx hb dX2_allows_52 ?_
        refine lv_iload hx hb dX2_allows_53 (lv_at hl 0 rfl) ?_
        refine lv_iadd hx hb dX2_allows_55 ?_
        obtain ⟨v9, hv9, h⟩ := ob h
        refine g_iald C Z iaC39 hv9 dX2_allows_56 ?_
        refine lv_iconst (v := 1) hx hb dX2_allows_57 (by decide) ?_
        obtain ⟨v10, ev10, h⟩ := lb h
        have hj : W p l e r_X2_allows s m args below meth c H locs 0 0 Q (F0 m 66 ls [.int v10]) := by
          obtain rfl := Option.some.inj h
          exact hR _ _ _ _ _ Z dX2_allows_66 (nar_b _)
        refine lv_icmp_ne (tgt := 65) hx hb dX2_allows_58 (by decide) (fun c58 => ?_) (fun c58 => ?_)
        · rw [if_neg c58] at ev10
          refine lv_iconst (v := 0) hx hb dX2_allows_65 (by decide) ?_
          exact tn_i ev10 hj
        · rw [if_pos c58] at ev10
          refine lv_iconst (v := 1) hx hb dX2_allows_61 (by decide) ?_
          refine lv_goto (tgt := 66) hx hb dX2_allows_62 (by decide) ?_
          exact tn_i ev10 hj
      · have h := im h c27
        exact w_X2_allows_30 C hR Z (lv_sub hl [4] rfl) h
theorem k_X2_allows {l : Launch} {kc : Nat → ClassId} {ad : Nat → Nat} {D : va_G} {adK adV : Nat → Nat} {x1 : Int32} {x2 : Int32} {σ : St} {R : Int32} (h : f_X2_allows x1 x2 σ = some R) : KC (eC adK adV) tC kc ad D l yX2_allows (.code yX2_allows cX2_allows 5 (some .boolean)) r_X2_allows [.ref (ad 4), .int x1, .int x2] (some (.int R)) σ σ := by
  refine g_enter (by decide) (Nat.le_of_ble_eq_true rfl) ?_
  intro p e s m args below meth c A hA C hr hlocks Z ls hl
  have hl : lv_has ls 5 [(0, .ref (ad 4)), (1, .int x1), (2, .int x2)] := hl
  exact w_X2_allows_0 C (g_RTi C.1.1 C.1.2.1 hr hlocks hA)  Z hl h
def r_X2_sumOf : Room := { frames := 2, cells := 0, slots := 0, locals := 51 }
set_option maxRecDepth 20000 in
theorem w_X2_sumOf_0 {p : Program} {l : Launch} {e : Env} {s : State} {m : MethodId} {args : Array Value} {below : List Frame} {meth : Method} {c : Code} {Q : State → Prop} {D : va_G} {kc : Nat → ClassId} {ad : Nat → Nat} {A : Nat → Prop} {adK adV : Nat → Nat} (C : Cx (eC adK adV) p s m args c cX2_sumOf 5 RX2 D kc A) {R : Int64 × St} {a2 : Nat} {x1 : Int32} {σ : St} (hR : RTl 0 0 p l e r_X2_sumOf s m args below meth c cX2_sumOf tC kc ad D A Q R.1 R.2) (ha2 : isArr tC 1 a2) {H : Heap} {locs : List Loc} {ls : Array Slot} (Z : Dy tC kc ad D A s.heap σ H locs) (hl : lv_has ls 5 [(0, .ref (ad 4)), (1, .int x1), (2, .ref (ad a2))]) (h : f_X2_sumOf a2 x1 σ = some R) : W p l e r_X2_sumOf s m args below meth c H locs 0 0 Q (F0 m 0 ls []) := by
  have hx := C.1.1
  have hb := C.1.2.1
  unfold f_X2_sumOf at h
  refine lv_iload_n hx hb dX2_sumOf_0 rfl (lv_at hl 1 rfl) ?_
  refine lv_bipush (v := 16) hx hb dX2_sumOf_1 (by decide) ?_
  refine lv_idiv hx hb dX2_sumOf_3 (by decide) ?_
  obtain ⟨v11, ev11, h⟩ := lb h
  refine tn_i ev11 ?_
  refine lv_istore_n (lv' := [(3, .int v11), (0, .ref (ad 4)), (1, .int x1), (2, .ref (ad a2))]) hx hb dX2_sumOf_4 rfl hl (by decide) rfl (fun ls hl => ?_)
  refine lv_iload_n hx hb dX2_sumOf_5 rfl (lv_at hl 2 rfl) ?_
  refine lv_bipush (v := 16) hx hb dX2_sumOf_6 (by decide) ?_
  refine lv_irem hx hb dX2_sumOf_8 (by decide) ?_
  obtain ⟨v12, ev12, h⟩ := lb h
  refine tn_i ev12 ?_
  refine lv_istore (lv' := [(4, .int v12), (3, .int v11), (0, .ref (ad 4)), (1, .int x1), (2, .ref (ad a2))]) hx hb dX2_sumOf_9 hl (by decide) rfl (fun ls hl => ?_)
  refine lv_iload_n hx hb dX2_sumOf_11 rfl (lv_at hl 3 rfl) ?_
  refine lv_if_lt (tgt := 30) hx hb dX2_sumOf_12 (by decide) (fun c12 => ?_) (fun c12 => ?_)
  · have h := ip h c12
    refine lv_lconst (v := 0) hx hb dX2_sumOf_30 (by decide) ?_
    obtain rfl := Option.some.inj h
    exact hR _ _ _ _ Z dX2_sumOf_31
  · have h := im h c12
    refine lv_aload_n hx hb dX2_sumOf_15 rfl (lv_at hl 2 rfl) ?_
    refine lv_iload_n hx hb dX2_sumOf_16 rfl (lv_at hl 1 rfl) ?_
    refine g_callVi (eC_ok adK adV) C Z (k_X2_has v11 σ) lk_X2_56 (by decide) rfl rfl hl (by decide) rfl (Nat.le_of_ble_eq_true rfl) (rest := []) rfl dX2_sumOf_17 (fun H locs Z => ?_)
    refine lv_if_eq (tgt := 30) hx hb dX2_sumOf_20 (by decide) (fun c20 => ?_) (fun c20 => ?_)
    · have h := ip h c20
      refine lv_lconst (v := 0) hx hb dX2_sumOf_30 (by decide) ?_
      obtain rfl := Option.some.inj h
      exact hR _ _ _ _ Z dX2_sumOf_31
    · have h := im h c20
      refine lv_iload hx hb dX2_sumOf_23 (lv_at hl 0 rfl) ?_
      refine lv_bipush (v := 12) hx hb dX2_sumOf_25 (by decide) ?_
      refine lv_icmp_lt (tgt := 32) hx hb dX2_sumOf_27 (by decide) (fun c27 => ?_) (fun c27 => ?_)
      · have h := ip h c27
        refine lv_aload_n hx hb dX2_sumOf_32 rfl (lv_at hl 2 rfl) ?_
        refine lv_aload_n hx hb dX2_sumOf_33 rfl (lv_at hl 2 rfl) ?_
        refine rg_X2_39 C Z dX2_sumOf_34 ?_
        refine lv_iload_n hx hb dX2_sumOf_37 rfl (lv_at hl 1 rfl) ?_
        refine lv_bipush (v := 12) hx hb dX2_sumOf_38 (by decide) ?_
        refine lv_imul hx hb dX2_sumOf_40 ?_
        refine lv_iload hx hb dX2_sumOf_41 (lv_at hl 0 rfl) ?_
        refine lv_iadd hx hb dX2_sumOf_43 ?_
        obtain ⟨v13, hv13, h⟩ := ob h
        refine g_iald C Z iaC41 hv13 dX2_sumOf_44 ?_
        refine lv_aload_n hx hb dX2_sumOf_45 rfl (lv_at hl 2 rfl) ?_
        refine rg_X2_42 C Z dX2_sumOf_46 ?_
        refine lv_iload_n hx hb dX2_sumOf_49 rfl (lv_at hl 1 rfl) ?_
        refine lv_bipush (v := 12) hx hb dX2_sumOf_50 (by decide) ?_
        refine lv_imul hx hb dX2_sumOf_52 ?_
        refine lv_iload hx hb dX2_sumOf_53 (lv_at hl 0 rfl) ?_
        refine lv_iadd hx hb dX2_sumOf_55 ?_
        obtain ⟨v14, hv14, h⟩ := ob h
        refine g_iald C Z iaC42 hv14 dX2_sumOf_56 ?_
        refine lv_aload_n hx hb dX2_sumOf_57 rfl (lv_at hl 4 rfl) ?_
        obtain ⟨u15, hu15, h⟩ := ob h
        refine g_callVl (eC_ok adK adV) C Z (k_X2_valueOf ha2 hu15) lk_X2_114 (by decide) rfl rfl hl (by decide) rfl (Nat.le_of_ble_eq_true rfl) (rest := []) rfl dX2_sumOf_58 (fun H locs Z => ?_)
        obtain rfl := Option.some.inj h
        exact hR _ _ _ _ Z dX2_sumOf_61
      · have h := im h c27
        refine lv_lconst (v := 0) hx hb dX2_sumOf_30 (by decide) ?_
        obtain rfl := Option.some.inj h
        exact hR _ _ _ _ Z dX2_sumOf_31
theorem k_X2_sumOf {l : Launch} {kc : Nat → ClassId} {ad : Nat → Nat} {D : va_G} {adK adV : Nat → Nat} {a2 : Nat} (ha2 : isArr tC 1 a2) {x1 : Int32} {σ : St} {R : Int64 × St} (h : f_X2_sumOf a2 x1 σ = some R) : KC (eC adK adV) tC kc ad D l yX2_sumOf (.code yX2_sumOf cX2_sumOf 5 (some .long)) r_X2_sumOf [.ref (ad 4), .int x1, .ref (ad a2)] (some (.long R.1)) σ R.2 := by
  refine g_enter (by decide) (Nat.le_of_ble_eq_true rfl) ?_
  intro p e s m args below meth c A hA C hr hlocks Z ls hl
  have hl : lv_has ls 5 [(0, .ref (ad 4)), (1, .int x1), (2, .ref (ad a2))] := hl
  exact w_X2_sumOf_0 C (g_RTl C.1.1 C.1.2.1 hr hlocks hA) ha2 Z hl h
def r_X3_add : Room := { frames := 0, cells := 0, slots := 0, locals := 0 }
set_option maxRecDepth 20000 in
theorem w_X3_add_0 {p : Program} {l : Launch} {e : Env} {s : State} {m : MethodId} {args : Array Value} {below : List Frame} {meth : Method} {c : Code} {Q : State → Prop} {D : va_G} {kc : Nat → ClassId} {ad : Nat → Nat} {A : Nat → Prop} {adK adV : Nat → Nat} (C : Cx (eC adK adV) p s m args c cX3_add 3 RX3 D kc A) {R : Int32 × St} {x1 : Int32} {x2 : Int32} {σ : St} (hR : RTi 0 0 p l e r_X3_add s m args below meth c cX3_add tC kc ad D A Q .int R.1 R.2) {H : Heap} {locs : List Loc} {ls : Array Slot} (Z : Dy tC kc ad D A s.heap σ H locs) (hl : lv_has ls 3 [(0, .ref (ad 9)), (1, .int x1), (2, .int x2)]) (h : f_X3_add x1 x2 σ = some R) : W p l e r_X3_add s m args below meth c H locs 0 0 Q (F0 m 0 ls []) := by
  have hx := C.1.1
  have hb := C.1.2.1
  unfold f_X3_add at h
  refine lv_aload_n hx hb dX3_add_0 rfl (lv_at hl 0 rfl) ?_
  refine rg_X3_18 C Z dX3_add_1 ?_
  refine lv_bipush (v := 9) hx hb dX3_add_4 (by decide) ?_
  refine lv_icmp_lt (tgt := 11) hx hb dX3_add_6 (by decide) (fun c6 => ?_) (fun c6 => ?_)
  · have h := ip h c6
    refine lv_aload_n hx hb dX3_add_11 rfl (lv_at hl 0 rfl) ?_
    refine rg_X3_11 C Z dX3_add_12 ?_
    refine lv_aload_n hx hb dX3_add_15 rfl (lv_at hl 0 rfl) ?_
    refine rg_X3_18 C Z dX3_add_16 ?_
    refine lv_iload_n hx hb dX3_add_19 rfl (lv_at hl 1 rfl) ?_
    obtain ⟨σ7, hσ7, h⟩ := ob h
    refine g_iast C Z iaC63 hσ7 dX3_add_20 (fun H locs Z => ?_)
    refine lv_aload_n hx hb dX3_add_21 rfl (lv_at hl 0 rfl) ?_
    refine rg_X3_15 C Z dX3_add_22 ?_
    refine lv_aload_n hx hb dX3_add_25 rfl (lv_at hl 0 rfl) ?_
    refine rg_X3_18 C Z dX3_add_26 ?_
    refine lv_iload_n hx hb dX3_add_29 rfl (lv_at hl 2 rfl) ?_
    obtain ⟨σ8, hσ8, h⟩ := ob h
    refine g_iast C Z iaC64 hσ8 dX3_add_30 (fun H locs Z => ?_)
    refine lv_aload_n hx hb dX3_add_31 rfl (lv_at hl 0 rfl) ?_
    refine lv_dup hx hb dX3_add_32 rfl ?_
    refine rg_X3_18 C Z dX3_add_33 ?_
    refine lv_iconst (v := 1) hx hb dX3_add_36 (by decide) ?_
    refine lv_iadd hx hb dX3_add_37 ?_
    obtain ⟨σ9, eσ9, h⟩ := lb h
    refine rp_X3_18 C Z eσ9 dX3_add_38 (fun H locs Z => ?_)
    refine lv_aload_n hx hb dX3_add_41 rfl (lv_at hl 0 rfl) ?_
    refine rg_X3_18 C Z dX3_add_42 ?_
    refine lv_iconst (v := 1) hx hb dX3_add_45 (by decide) ?_
    refine lv_isub hx hb dX3_add_46 ?_
    obtain rfl := Option.some.inj h
    exact hR _ _ _ _ _ Z dX3_add_47 rfl
  · have h := im h c6
    refine lv_iconst (v := (-1)) hx hb dX3_add_9 (by decide) ?_
    obtain rfl := Option.some.inj h
    exact hR _ _ _ _ _ Z dX3_add_10 rfl
theorem k_X3_add {l : Launch} {kc : Nat → ClassId} {ad : Nat → Nat} {D : va_G} {adK adV : Nat → Nat} {x1 : Int32} {x2 : Int32} {σ : St} {R : Int32 × St} (h : f_X3_add x1 x2 σ = some R) : KC (eC adK adV) tC kc ad D l yX3_add (.code yX3_add cX3_add 3 (some .int)) r_X3_add [.ref (ad 9), .int x1, .int x2] (some (.int R.1)) σ R.2 := by
  refine g_enter (by decide) (Nat.le_of_ble_eq_true rfl) ?_
  intro p e s m args below meth c A hA C hr hlocks Z ls hl
  have hl : lv_has ls 3 [(0, .ref (ad 9)), (1, .int x1), (2, .int x2)] := hl
  exact w_X3_add_0 C (g_RTi C.1.1 C.1.2.1 hr hlocks hA)  Z hl h
def r_X3_worthOf : Room := { frames := 0, cells := 0, slots := 0, locals := 0 }
set_option maxRecDepth 20000 in
theorem w_X3_worthOf_40 {p : Program} {l : Launch} {e : Env} {s : State} {m : MethodId} {args : Array Value} {below : List Frame} {meth : Method} {c : Code} {Q : State → Prop} {D : va_G} {kc : Nat → ClassId} {ad : Nat → Nat} {A : Nat → Prop} {adK adV : Nat → Nat} (C : Cx (eC adK adV) p s m args c cX3_worthOf 5 RX3 D kc A) {R : Int32} {a1 : Nat} {x2 : Int32} {x4 : Int32} {y0 : Int32} {y1 : Int32} {σ : St} (hR : RTi 0 0 p l e r_X3_worthOf s m args below meth c cX3_worthOf tC kc ad D A Q .int R σ) (ha1 : isArr tC 0 a1) {k5 : Int32 → Int32 → Option (Int32)} (hk5 : ∀ (x3 : Int32) (x4 : Int32) (H : Heap) (locs : List Loc) (ls : Array Slot), Dy tC kc ad D A s.heap σ H locs → lv_has ls 5 [(0, .ref (ad 9)), (1, .ref (ad a1)), (2, .int x2), (3, .int x3), (4, .int x4)] → k5 x3 x4 = some R → W p l e r_X3_worthOf s m args below meth c H locs 0 0 Q (F0 m 5 ls [])) {H : Heap} {locs : List Loc} {ls : Array Slot} (Z : Dy tC kc ad D A s.heap σ H locs) (hl : lv_has ls 5 [(0, .ref (ad 9)), (1, .ref (ad a1)), (2, .int x2), (4, .int x4)]) (h : f_X3_worthOf_40 a1 x2 x4 y0 y1 σ k5 = some R) : W p l e r_X3_worthOf s m args below meth c H locs 0 0 Q (F0 m 40 ls [.int y1, .int y0]) := by
  have hx := C.1.1
  have hb := C.1.2.1
  unfold f_X3_worthOf_40 at h
  refine lv_iadd hx hb dX3_worthOf_40 ?_
  obtain ⟨v8, ev8, h⟩ := lb h
  refine tn_i ev8 ?_
  refine lv_istore_n (lv' := [(3, .int v8), (0, .ref (ad 9)), (1, .ref (ad a1)), (2, .int x2), (4, .int x4)]) hx hb dX3_worthOf_41 rfl hl (by decide) rfl (fun ls hl => ?_)
  obtain ⟨v9, ev9, h⟩ := lb h
  refine lv_iinc (v := v9) (lv' := [(4, .int v9), (3, .int v8), (0, .ref (ad 9)), (1, .ref (ad a1)), (2, .int x2)]) hx hb dX3_worthOf_42 hl (k := 4) rfl (by rw [ev9]; rfl) (by decide) rfl (fun ls hl => ?_)
  refine lv_goto (tgt := 5) hx hb dX3_worthOf_45 (by decide) ?_
  exact hk5 _ _ _ _ _ Z (lv_sub hl [2, 3, 4, 1, 0] rfl) h
set_option maxRecDepth 20000 in
theorem w_X3_worthOf_5 {p : Program} {l : Launch} {e : Env} {s : State} {m : MethodId} {args : Array Value} {below : List Frame} {meth : Method} {c : Code} {Q : State → Prop} {D : va_G} {kc : Nat → ClassId} {ad : Nat → Nat} {A : Nat → Prop} {adK adV : Nat → Nat} (C : Cx (eC adK adV) p s m args c cX3_worthOf 5 RX3 D kc A) {R : Int32} {a1 : Nat} {x2 : Int32} {σ : St} (hR : RTi 0 0 p l e r_X3_worthOf s m args below meth c cX3_worthOf tC kc ad D A Q .int R σ) (ha1 : isArr tC 0 a1) : ∀ (n : Nat) (x3 : Int32) (x4 : Int32) (H : Heap) (locs : List Loc) (ls : Array Slot), Dy tC kc ad D A s.heap σ H locs → lv_has ls 5 [(0, .ref (ad 9)), (1, .ref (ad a1)), (2, .int x2), (3, .int x3), (4, .int x4)] → f_X3_worthOf_5 a1 x2 σ n x3 x4 = some R → W p l e r_X3_worthOf s m args below meth c H locs 0 0 Q (F0 m 5 ls []) := by
  have hx := C.1.1
  have hb := C.1.2.1
  intro n
  induction n with
  | zero =>
    intro x3 x4 H locs ls Z hl h
    exact absurd (show none = some R from h) (by simp)
  | succ n ih =>
    intro x3 x4 H locs ls Z hl h
    rw [f_X3_worthOf_5] at h
    refine lv_iload hx hb dX3_worthOf_5 (lv_at hl 4 rfl) ?_
    refine lv_aload_n hx hb dX3_worthOf_7 rfl (lv_at hl 0 rfl) ?_
    refine rg_X3_18 C Z dX3_worthOf_8 ?_
    refine lv_icmp_ge (tgt := 48) hx hb dX3_worthOf_11 (by decide) (fun c11 => ?_) (fun c11 => ?_)
    · have h := ip h c11
      refine lv_iload_n hx hb dX3_worthOf_48 rfl (lv_at hl 3 rfl) ?_
      obtain rfl := Option.some.inj h
      exact hR _ _ _ _ _ Z dX3_worthOf_49 rfl
    · have h := im h c11
      refine lv_iload hx hb dX3_worthOf_14 (lv_at hl 4 rfl) ?_
      refine lv_aload_n hx hb dX3_worthOf_16 rfl (lv_at hl 1 rfl) ?_
      refine g_len C Z ha1 (by decide) (v := lenI tC σ a1) rfl dX3_worthOf_17 ?_
      refine lv_icmp_ge (tgt := 48) hx hb dX3_worthOf_18 (by decide) (fun c18 => ?_) (fun c18 => ?_)
      · have h := ip h c18
        refine lv_iload_n hx hb dX3_worthOf_48 rfl (lv_at hl 3 rfl) ?_
        obtain rfl := Option.some.inj h
        exact hR _ _ _ _ _ Z dX3_worthOf_49 rfl
      · have h := im h c18
        refine lv_iload_n hx hb dX3_worthOf_21 rfl (lv_at hl 3 rfl) ?_
        refine lv_iload_n hx hb dX3_worthOf_22 rfl (lv_at hl 2 rfl) ?_
        refine lv_iload hx hb dX3_worthOf_23 (lv_at hl 4 rfl) ?_
        refine lv_iushr (v := ushr x2 x4) hx hb dX3_worthOf_25 rfl ?_
        refine lv_iconst (v := 1) hx hb dX3_worthOf_26 (by decide) ?_
        refine lv_iand hx hb dX3_worthOf_27 ?_
        refine lv_iconst (v := 1) hx hb dX3_worthOf_28 (by decide) ?_
        refine lv_icmp_ne (tgt := 39) hx hb dX3_worthOf_29 (by decide) (fun c29 => ?_) (fun c29 => ?_)
        · have h := im h c29
          refine lv_iconst (v := 0) hx hb dX3_worthOf_39 (by decide) ?_
          exact w_X3_worthOf_40 C hR ha1 ih Z (lv_sub hl [0, 1, 2, 4] rfl) h
        · have h := ip h c29
          refine lv_aload_n hx hb dX3_worthOf_32 rfl (lv_at hl 1 rfl) ?_
          refine lv_iload hx hb dX3_worthOf_33 (lv_at hl 4 rfl) ?_
          obtain ⟨v7, hv7, h⟩ := ob h
          refine g_iald C Z ha1 hv7 dX3_worthOf_35 ?_
          refine lv_goto (tgt := 40) hx hb dX3_worthOf_36 (by decide) ?_
          exact w_X3_worthOf_40 C hR ha1 ih Z (lv_sub hl [0, 1, 2, 4] rfl) h
set_option maxRecDepth 20000 in
theorem w_X3_worthOf_0 {p : Program} {l : Launch} {e : Env} {s : State} {m : MethodId} {args : Array Value} {below : List Frame} {meth : Method} {c : Code} {Q : State → Prop} {D : va_G} {kc : Nat → ClassId} {ad : Nat → Nat} {A : Nat → Prop} {adK adV : Nat → Nat} (C : Cx (eC adK adV) p s m args c cX3_worthOf 5 RX3 D kc A) {R : Int32} {a1 : Nat} {x2 : Int32} {σ : St} (hR : RTi 0 0 p l e r_X3_worthOf s m args below meth c cX3_worthOf tC kc ad D A Q .int R σ) (ha1 : isArr tC 0 a1) {H : Heap} {locs : List Loc} {ls : Array Slot} (Z : Dy tC kc ad D A s.heap σ H locs) (hl : lv_has ls 5 [(0, .ref (ad 9)), (1, .ref (ad a1)), (2, .int x2)]) (h : f_X3_worthOf a1 x2 σ = some R) : W p l e r_X3_worthOf s m args below meth c H locs 0 0 Q (F0 m 0 ls []) := by
  have hx := C.1.1
  have hb := C.1.2.1
  unfold f_X3_worthOf at h
  refine lv_iconst (v := 0) hx hb dX3_worthOf_0 (by decide) ?_
  refine lv_istore_n (lv' := [(3, .int 0), (0, .ref (ad 9)), (1, .ref (ad a1)), (2, .int x2)]) hx hb dX3_worthOf_1 rfl hl (by decide) rfl (fun ls hl => ?_)
  refine lv_iconst (v := 0) hx hb dX3_worthOf_2 (by decide) ?_
  refine lv_istore (lv' := [(4, .int 0), (3, .int 0), (0, .ref (ad 9)), (1, .ref (ad a1)), (2, .int x2)]) hx hb dX3_worthOf_3 hl (by decide) rfl (fun ls hl => ?_)
  exact w_X3_worthOf_5 C hR ha1 _ _ _ _ _ _ Z (lv_sub hl [2, 3, 4, 1, 0] rfl) h
theorem k_X3_worthOf {l : Launch} {kc : Nat → ClassId} {ad : Nat → Nat} {D : va_G} {adK adV : Nat → Nat} {a1 : Nat} (ha1 : isArr tC 0 a1) {x2 : Int32} {σ : St} {R : Int32} (h : f_X3_worthOf a1 x2 σ = some R) : KC (eC adK adV) tC kc ad D l yX3_worthOf (.code yX3_worthOf cX3_worthOf 5 (some .int)) r_X3_worthOf [.ref (ad 9), .ref (ad a1), .int x2] (some (.int R)) σ σ := by
  refine g_enter (by decide) (Nat.le_of_ble_eq_true rfl) ?_
  intro p e s m args below meth c A hA C hr hlocks Z ls hl
  have hl : lv_has ls 5 [(0, .ref (ad 9)), (1, .ref (ad a1)), (2, .int x2)] := hl
  exact w_X3_worthOf_0 C (g_RTi C.1.1 C.1.2.1 hr hlocks hA) ha1 Z hl h
def r_J6_bitCount_0f7a4 : Room := { frames := 0, cells := 0, slots := 0, locals := 0 }
set_option maxRecDepth 20000 in
theorem w_J6_bitCount_0f7a4_0 {p : Program} {l : Launch} {e : Env} {s : State} {m : MethodId} {args : Array Value} {below : List Frame} {meth : Method} {c : Code} {Q : State → Prop} {D : va_G} {kc : Nat → ClassId} {ad : Nat → Nat} {A : Nat → Prop} {adK adV : Nat → Nat} (C : Cx (eC adK adV) p s m args c cJ6_bitCount_0f7a4 1 RJ6 D kc A) {R : Int32} {x0 : Int32} {σ : St} (hR : RTi 0 0 p l e r_J6_bitCount_0f7a4 s m args below meth c cJ6_bitCount_0f7a4 tC kc ad D A Q .int R σ) {H : Heap} {locs : List Loc} {ls : Array Slot} (Z : Dy tC kc ad D A s.heap σ H locs) (hl : lv_has ls 1 [(0, .int x0)]) (h : f_J6_bitCount_0f7a4 x0 = R) : W p l e r_J6_bitCount_0f7a4 s m args below meth c H locs 0 0 Q (F0 m 0 ls []) := by
  have hx := C.1.1
  have hb := C.1.2.1
  unfold f_J6_bitCount_0f7a4 at h
  refine lv_iload_n hx hb dJ6_bitCount_0f7a4_0 rfl (lv_at hl 0 rfl) ?_
  refine lv_iload_n hx hb dJ6_bitCount_0f7a4_1 rfl (lv_at hl 0 rfl) ?_
  refine lv_iconst (v := 1) hx hb dJ6_bitCount_0f7a4_2 (by decide) ?_
  refine lv_iushr (v := ushr x0 1) hx hb dJ6_bitCount_0f7a4_3 rfl ?_
  refine lv_ldcw (v := 1431655765) hx hb C.1.2.2.2.1 (C.1.2.2.2.2 _ wD_J6_265) dJ6_bitCount_0f7a4_4 ?_
  refine lv_iand hx hb dJ6_bitCount_0f7a4_7 ?_
  refine lv_isub hx hb dJ6_bitCount_0f7a4_8 ?_
  obtain ⟨v6, ev6, h⟩ := lb h
  refine tn_i ev6 ?_
  refine lv_istore_n (lv' := [(0, .int v6)]) hx hb dJ6_bitCount_0f7a4_9 rfl hl (by decide) rfl (fun ls hl => ?_)
  refine lv_iload_n hx hb dJ6_bitCount_0f7a4_10 rfl (lv_at hl 0 rfl) ?_
  refine lv_ldcw (v := 858993459) hx hb C.1.2.2.2.1 (C.1.2.2.2.2 _ wD_J6_266) dJ6_bitCount_0f7a4_11 ?_
  refine lv_iand hx hb dJ6_bitCount_0f7a4_14 ?_
  refine lv_iload_n hx hb dJ6_bitCount_0f7a4_15 rfl (lv_at hl 0 rfl) ?_
  refine lv_iconst (v := 2) hx hb dJ6_bitCount_0f7a4_16 (by decide) ?_
  refine lv_iushr (v := ushr v6 2) hx hb dJ6_bitCount_0f7a4_17 rfl ?_
  refine lv_ldcw (v := 858993459) hx hb C.1.2.2.2.1 (C.1.2.2.2.2 _ wD_J6_266) dJ6_bitCount_0f7a4_18 ?_
  refine lv_iand hx hb dJ6_bitCount_0f7a4_21 ?_
  refine lv_iadd hx hb dJ6_bitCount_0f7a4_22 ?_
  obtain ⟨v7, ev7, h⟩ := lb h
  refine tn_i ev7 ?_
  refine lv_istore_n (lv' := [(0, .int v7)]) hx hb dJ6_bitCount_0f7a4_23 rfl hl (by decide) rfl (fun ls hl => ?_)
  refine lv_iload_n hx hb dJ6_bitCount_0f7a4_24 rfl (lv_at hl 0 rfl) ?_
  refine lv_iload_n hx hb dJ6_bitCount_0f7a4_25 rfl (lv_at hl 0 rfl) ?_
  refine lv_iconst (v := 4) hx hb dJ6_bitCount_0f7a4_26 (by decide) ?_
  refine lv_iushr (v := ushr v7 4) hx hb dJ6_bitCount_0f7a4_27 rfl ?_
  refine lv_iadd hx hb dJ6_bitCount_0f7a4_28 ?_
  refine lv_ldcw (v := 252645135) hx hb C.1.2.2.2.1 (C.1.2.2.2.2 _ wD_J6_267) dJ6_bitCount_0f7a4_29 ?_
  refine lv_iand hx hb dJ6_bitCount_0f7a4_32 ?_
  obtain ⟨v8, ev8, h⟩ := lb h
  refine tn_i ev8 ?_
  refine lv_istore_n (lv' := [(0, .int v8)]) hx hb dJ6_bitCount_0f7a4_33 rfl hl (by decide) rfl (fun ls hl => ?_)
  refine lv_iload_n hx hb dJ6_bitCount_0f7a4_34 rfl (lv_at hl 0 rfl) ?_
  refine lv_iload_n hx hb dJ6_bitCount_0f7a4_35 rfl (lv_at hl 0 rfl) ?_
  refine lv_bipush (v := 8) hx hb dJ6_bitCount_0f7a4_36 (by decide) ?_
  refine lv_iushr (v := ushr v8 8) hx hb dJ6_bitCount_0f7a4_38 rfl ?_
  refine lv_iadd hx hb dJ6_bitCount_0f7a4_39 ?_
  obtain ⟨v9, ev9, h⟩ := lb h
  refine tn_i ev9 ?_
  refine lv_istore_n (lv' := [(0, .int v9)]) hx hb dJ6_bitCount_0f7a4_40 rfl hl (by decide) rfl (fun ls hl => ?_)
  refine lv_iload_n hx hb dJ6_bitCount_0f7a4_41 rfl (lv_at hl 0 rfl) ?_
  refine lv_iload_n hx hb dJ6_bitCount_0f7a4_42 rfl (lv_at hl 0 rfl) ?_
  refine lv_bipush (v := 16) hx hb dJ6_bitCount_0f7a4_43 (by decide) ?_
  refine lv_iushr (v := ushr v9 16) hx hb dJ6_bitCount_0f7a4_45 rfl ?_
  refine lv_iadd hx hb dJ6_bitCount_0f7a4_46 ?_
  obtain ⟨v10, ev10, h⟩ := lb h
  refine tn_i ev10 ?_
  refine lv_istore_n (lv' := [(0, .int v10)]) hx hb dJ6_bitCount_0f7a4_47 rfl hl (by decide) rfl (fun ls hl => ?_)
  refine lv_iload_n hx hb dJ6_bitCount_0f7a4_48 rfl (lv_at hl 0 rfl) ?_
  refine lv_bipush (v := 63) hx hb dJ6_bitCount_0f7a4_49 (by decide) ?_
  refine lv_iand hx hb dJ6_bitCount_0f7a4_51 ?_
  subst h
  exact hR _ _ _ _ _ Z dJ6_bitCount_0f7a4_52 rfl
theorem k_J6_bitCount_0f7a4 {l : Launch} {kc : Nat → ClassId} {ad : Nat → Nat} {D : va_G} {adK adV : Nat → Nat} (x0 : Int32) (σ : St) : KC (eC adK adV) tC kc ad D l yJ6_bitCount_0f7a4 (.code yJ6_bitCount_0f7a4 cJ6_bitCount_0f7a4 1 (some .int)) r_J6_bitCount_0f7a4 [.int x0] (some (.int (f_J6_bitCount_0f7a4 x0))) σ σ := by
  refine g_enter (by decide) (Nat.le_of_ble_eq_true rfl) ?_
  intro p e s m args below meth c A hA C hr hlocks Z ls hl
  have hl : lv_has ls 1 [(0, .int x0)] := hl
  exact w_J6_bitCount_0f7a4_0 C (g_RTi C.1.1 C.1.2.1 hr hlocks hA)  Z hl rfl
def r_X3_bestSet : Room := { frames := 1, cells := 0, slots := 0, locals := 24 }
set_option maxRecDepth 20000 in
theorem w_X3_bestSet_95 {p : Program} {l : Launch} {e : Env} {s : State} {m : MethodId} {args : Array Value} {below : List Frame} {meth : Method} {c : Code} {Q : State → Prop} {D : va_G} {kc : Nat → ClassId} {ad : Nat → Nat} {A : Nat → Prop} {adK adV : Nat → Nat} (C : Cx (eC adK adV) p s m args c cX3_bestSet 9 RX3 D kc A) {R : Int32} {x1 : Int32} {x2 : Int32} {x3 : Int32} {x4 : Int32} {x5 : Int32} {σ : St} (hR : RTi 0 0 p l e r_X3_bestSet s m args below meth c cX3_bestSet tC kc ad D A Q .int R σ) {k9 : Int32 → Int32 → Int32 → Option (Int32)} (hk9 : ∀ (x3 : Int32) (x4 : Int32) (x5 : Int32) (H : Heap) (locs : List Loc) (ls : Array Slot), Dy tC kc ad D A s.heap σ H locs → lv_has ls 9 [(0, .ref (ad 9)), (1, .int x1), (2, .int x2), (3, .int x3), (4, .int x4), (5, .int x5)] → k9 x3 x4 x5 = some R → W p l e r_X3_bestSet s m args below meth c H locs 0 0 Q (F0 m 9 ls [])) {H : Heap} {locs : List Loc} {ls : Array Slot} (Z : Dy tC kc ad D A s.heap σ H locs) (hl : lv_has ls 9 [(0, .ref (ad 9)), (1, .int x1), (2, .int x2), (3, .int x3), (4, .int x4), (5, .int x5)]) (h : f_X3_bestSet_95 x1 x2 x3 x4 x5 σ k9 = some R) : W p l e r_X3_bestSet s m args below meth c H locs 0 0 Q (F0 m 95 ls []) := by
  have hx := C.1.1
  have hb := C.1.2.1
  unfold f_X3_bestSet_95 at h
  obtain ⟨v12, ev12, h⟩ := lb h
  refine lv_iinc (v := v12) (lv' := [(5, .int v12), (0, .ref (ad 9)), (1, .int x1), (2, .int x2), (3, .int x3), (4, .int x4)]) hx hb dX3_bestSet_95 hl (k := 5) rfl (by rw [ev12]; rfl) (by decide) rfl (fun ls hl => ?_)
  refine lv_goto (tgt := 9) hx hb dX3_bestSet_98 (by decide) ?_
  exact hk9 _ _ _ _ _ _ Z (lv_sub hl [1, 2, 3, 4, 5, 0] rfl) h
set_option maxRecDepth 20000 in
theorem w_X3_bestSet_88 {p : Program} {l : Launch} {e : Env} {s : State} {m : MethodId} {args : Array Value} {below : List Frame} {meth : Method} {c : Code} {Q : State → Prop} {D : va_G} {kc : Nat → ClassId} {ad : Nat → Nat} {A : Nat → Prop} {adK adV : Nat → Nat} (C : Cx (eC adK adV) p s m args c cX3_bestSet 9 RX3 D kc A) {R : Int32} {x1 : Int32} {x2 : Int32} {x5 : Int32} {x8 : Int32} {σ : St} (hR : RTi 0 0 p l e r_X3_bestSet s m args below meth c cX3_bestSet tC kc ad D A Q .int R σ) {k9 : Int32 → Int32 → Int32 → Option (Int32)} (hk9 : ∀ (x3 : Int32) (x4 : Int32) (x5 : Int32) (H : Heap) (locs : List Loc) (ls : Array Slot), Dy tC kc ad D A s.heap σ H locs → lv_has ls 9 [(0, .ref (ad 9)), (1, .int x1), (2, .int x2), (3, .int x3), (4, .int x4), (5, .int x5)] → k9 x3 x4 x5 = some R → W p l e r_X3_bestSet s m args below meth c H locs 0 0 Q (F0 m 9 ls [])) {H : Heap} {locs : List Loc} {ls : Array Slot} (Z : Dy tC kc ad D A s.heap σ H locs) (hl : lv_has ls 9 [(0, .ref (ad 9)), (1, .int x1), (2, .int x2), (5, .int x5), (8, .int x8)]) (h : f_X3_bestSet_88 x1 x2 x5 x8 σ k9 = some R) : W p l e r_X3_bestSet s m args below meth c H locs 0 0 Q (F0 m 88 ls []) := by
  have hx := C.1.1
  have hb := C.1.2.1
  unfold f_X3_bestSet_88 at h
  refine lv_iload hx hb dX3_bestSet_88 (lv_at hl 3 rfl) ?_
  refine lv_istore_n (lv' := [(3, .int x5), (0, .ref (ad 9)), (1, .int x1), (2, .int x2), (5, .int x5), (8, .int x8)]) hx hb dX3_bestSet_90 rfl hl (by decide) rfl (fun ls hl => ?_)
  refine lv_iload hx hb dX3_bestSet_91 (lv_at hl 5 rfl) ?_
  refine lv_istore (lv' := [(4, .int x8), (3, .int x5), (0, .ref (ad 9)), (1, .int x1), (2, .int x2), (5, .int x5), (8, .int x8)]) hx hb dX3_bestSet_93 hl (by decide) rfl (fun ls hl => ?_)
  exact w_X3_bestSet_95 C hR hk9 Z (lv_sub hl [2, 3, 4, 1, 0, 5] rfl) h
set_option maxRecDepth 20000 in
theorem w_X3_bestSet_9 {p : Program} {l : Launch} {e : Env} {s : State} {m : MethodId} {args : Array Value} {below : List Frame} {meth : Method} {c : Code} {Q : State → Prop} {D : va_G} {kc : Nat → ClassId} {ad : Nat → Nat} {A : Nat → Prop} {adK adV : Nat → Nat} (C : Cx (eC adK adV) p s m args c cX3_bestSet 9 RX3 D kc A) {R : Int32} {x1 : Int32} {x2 : Int32} {σ : St} (hR : RTi 0 0 p l e r_X3_bestSet s m args below meth c cX3_bestSet tC kc ad D A Q .int R σ) : ∀ (n : Nat) (x3 : Int32) (x4 : Int32) (x5 : Int32) (H : Heap) (locs : List Loc) (ls : Array Slot), Dy tC kc ad D A s.heap σ H locs → lv_has ls 9 [(0, .ref (ad 9)), (1, .int x1), (2, .int x2), (3, .int x3), (4, .int x4), (5, .int x5)] → f_X3_bestSet_9 x1 x2 σ n x3 x4 x5 = some R → W p l e r_X3_bestSet s m args below meth c H locs 0 0 Q (F0 m 9 ls []) := by
  have hx := C.1.1
  have hb := C.1.2.1
  intro n
  induction n with
  | zero =>
    intro x3 x4 x5 H locs ls Z hl h
    exact absurd (show none = some R from h) (by simp)
  | succ n ih =>
    intro x3 x4 x5 H locs ls Z hl h
    rw [f_X3_bestSet_9] at h
    refine lv_iload hx hb dX3_bestSet_9 (lv_at hl 5 rfl) ?_
    refine lv_iconst (v := 1) hx hb dX3_bestSet_11 (by decide) ?_
    refine lv_aload_n hx hb dX3_bestSet_12 rfl (lv_at hl 0 rfl) ?_
    refine rg_X3_18 C Z dX3_bestSet_13 ?_
    refine lv_ishl hx hb dX3_bestSet_16 ?_
    refine lv_icmp_ge (tgt := 101) hx hb dX3_bestSet_17 (by decide) (fun c17 => ?_) (fun c17 => ?_)
    · have h := ip h c17
      refine lv_iload_n hx hb dX3_bestSet_101 rfl (lv_at hl 3 rfl) ?_
      obtain rfl := Option.some.inj h
      exact hR _ _ _ _ _ Z dX3_bestSet_102 rfl
    · have h := im h c17
      refine lv_aload_n hx hb dX3_bestSet_20 rfl (lv_at hl 0 rfl) ?_
      refine lv_aload_n hx hb dX3_bestSet_21 rfl (lv_at hl 0 rfl) ?_
      refine rg_X3_11 C Z dX3_bestSet_22 ?_
      refine lv_iload hx hb dX3_bestSet_25 (lv_at hl 5 rfl) ?_
      obtain ⟨v9, hv9, h⟩ := ob h
      refine g_callVi (eC_ok adK adV) C Z (k_X3_worthOf iaC63 hv9) lk_X3_22 (by decide) rfl rfl hl (by decide) rfl (Nat.le_of_ble_eq_true rfl) (rest := []) rfl dX3_bestSet_27 (fun H locs Z => ?_)
      refine lv_istore (lv' := [(6, .int v9), (0, .ref (ad 9)), (1, .int x1), (2, .int x2), (3, .int x3), (4, .int x4), (5, .int x5)]) hx hb dX3_bestSet_30 hl (by decide) rfl (fun ls hl => ?_)
      refine lv_aload_n hx hb dX3_bestSet_32 rfl (lv_at hl 1 rfl) ?_
      refine lv_aload_n hx hb dX3_bestSet_33 rfl (lv_at hl 1 rfl) ?_
      refine rg_X3_15 C Z dX3_bestSet_34 ?_
      refine lv_iload hx hb dX3_bestSet_37 (lv_at hl 6 rfl) ?_
      obtain ⟨v10, hv10, h⟩ := ob h
      refine g_callVi (eC_ok adK adV) C Z (k_X3_worthOf iaC64 hv10) lk_X3_22 (by decide) rfl rfl hl (by decide) rfl (Nat.le_of_ble_eq_true rfl) (rest := []) rfl dX3_bestSet_39 (fun H locs Z => ?_)
      refine lv_istore (lv' := [(7, .int v10), (6, .int v9), (0, .ref (ad 9)), (1, .int x1), (2, .int x2), (3, .int x3), (4, .int x4), (5, .int x5)]) hx hb dX3_bestSet_42 hl (by decide) rfl (fun ls hl => ?_)
      refine lv_iload hx hb dX3_bestSet_44 (lv_at hl 7 rfl) ?_
      refine g_callSi (eC_ok adK adV) C Z (k_J6_bitCount_0f7a4 x5 σ) lk_X3_26 hl (by decide) rfl (Nat.le_of_ble_eq_true rfl) (rest := []) rfl dX3_bestSet_46 (fun H locs Z => ?_)
      refine lv_ldc (v := 1000000) hx hb C.1.2.2.2.1 (C.1.2.2.2.2 _ wD_X3_32) dX3_bestSet_49 ?_
      refine lv_imul hx hb dX3_bestSet_51 ?_
      refine lv_iload hx hb dX3_bestSet_52 (lv_at hl 1 rfl) ?_
      refine lv_iload hx hb dX3_bestSet_54 (lv_at hl 0 rfl) ?_
      refine lv_isub hx hb dX3_bestSet_56 ?_
      refine g_abs_0f7a4 C hl wM_X3_33 (by decide) (rest := [.int ((f_J6_bitCount_0f7a4 x5) * 1000000)]) (Nat.le_of_ble_eq_true rfl) dX3_bestSet_57 ?_
      refine lv_iadd hx hb dX3_bestSet_60 ?_
      obtain ⟨v11, ev11, h⟩ := lb h
      refine tn_i ev11 ?_
      refine lv_istore (lv' := [(8, .int v11), (7, .int v10), (6, .int v9), (0, .ref (ad 9)), (1, .int x1), (2, .int x2), (3, .int x3), (4, .int x4), (5, .int x5)]) hx hb dX3_bestSet_61 hl (by decide) rfl (fun ls hl => ?_)
      refine lv_iload hx hb dX3_bestSet_63 (lv_at hl 2 rfl) ?_
      refine lv_iload_n hx hb dX3_bestSet_65 rfl (lv_at hl 4 rfl) ?_
      refine lv_icmp_lt (tgt := 95) hx hb dX3_bestSet_66 (by decide) (fun c66 => ?_) (fun c66 => ?_)
      · have h := ip h c66
        exact w_X3_bestSet_95 C hR ih Z (lv_sub hl [3, 4, 5, 6, 7, 8] rfl) h
      · have h := im h c66
        refine lv_iload hx hb dX3_bestSet_69 (lv_at hl 1 rfl) ?_
        refine lv_iload_n hx hb dX3_bestSet_71 rfl (lv_at hl 5 rfl) ?_
        refine lv_icmp_lt (tgt := 95) hx hb dX3_bestSet_72 (by decide) (fun c72 => ?_) (fun c72 => ?_)
        · have h := ip h c72
          exact w_X3_bestSet_95 C hR ih Z (lv_sub hl [3, 4, 5, 6, 7, 8] rfl) h
        · have h := im h c72
          refine lv_iload_n hx hb dX3_bestSet_75 rfl (lv_at hl 6 rfl) ?_
          refine lv_bipush (v := (-2)) hx hb dX3_bestSet_76 (by decide) ?_
          refine lv_icmp_eq (tgt := 88) hx hb dX3_bestSet_78 (by decide) (fun c78 => ?_) (fun c78 => ?_)
          · have h := ip h c78
            exact w_X3_bestSet_88 C hR ih Z (lv_sub hl [3, 4, 5, 8, 0] rfl) h
          · have h := im h c78
            refine lv_iload hx hb dX3_bestSet_81 (lv_at hl 0 rfl) ?_
            refine lv_iload hx hb dX3_bestSet_83 (lv_at hl 7 rfl) ?_
            refine lv_icmp_ge (tgt := 95) hx hb dX3_bestSet_85 (by decide) (fun c85 => ?_) (fun c85 => ?_)
            · have h := ip h c85
              exact w_X3_bestSet_95 C hR ih Z (lv_sub hl [3, 4, 5, 6, 7, 8] rfl) h
            · have h := im h c85
              exact w_X3_bestSet_88 C hR ih Z (lv_sub hl [3, 4, 5, 8, 0] rfl) h
set_option maxRecDepth 20000 in
theorem w_X3_bestSet_0 {p : Program} {l : Launch} {e : Env} {s : State} {m : MethodId} {args : Array Value} {below : List Frame} {meth : Method} {c : Code} {Q : State → Prop} {D : va_G} {kc : Nat → ClassId} {ad : Nat → Nat} {A : Nat → Prop} {adK adV : Nat → Nat} (C : Cx (eC adK adV) p s m args c cX3_bestSet 9 RX3 D kc A) {R : Int32} {x1 : Int32} {x2 : Int32} {σ : St} (hR : RTi 0 0 p l e r_X3_bestSet s m args below meth c cX3_bestSet tC kc ad D A Q .int R σ) {H : Heap} {locs : List Loc} {ls : Array Slot} (Z : Dy tC kc ad D A s.heap σ H locs) (hl : lv_has ls 9 [(0, .ref (ad 9)), (1, .int x1), (2, .int x2)]) (h : f_X3_bestSet x1 x2 σ = some R) : W p l e r_X3_bestSet s m args below meth c H locs 0 0 Q (F0 m 0 ls []) := by
  have hx := C.1.1
  have hb := C.1.2.1
  unfold f_X3_bestSet at h
  refine lv_bipush (v := (-2)) hx hb dX3_bestSet_0 (by decide) ?_
  refine lv_istore_n (lv' := [(3, .int (-2)), (0, .ref (ad 9)), (1, .int x1), (2, .int x2)]) hx hb dX3_bestSet_2 rfl hl (by decide) rfl (fun ls hl => ?_)
  refine lv_iconst (v := 0) hx hb dX3_bestSet_3 (by decide) ?_
  refine lv_istore (lv' := [(4, .int 0), (3, .int (-2)), (0, .ref (ad 9)), (1, .int x1), (2, .int x2)]) hx hb dX3_bestSet_4 hl (by decide) rfl (fun ls hl => ?_)
  refine lv_iconst (v := 0) hx hb dX3_bestSet_6 (by decide) ?_
  refine lv_istore (lv' := [(5, .int 0), (4, .int 0), (3, .int (-2)), (0, .ref (ad 9)), (1, .int x1), (2, .int x2)]) hx hb dX3_bestSet_7 hl (by decide) rfl (fun ls hl => ?_)
  exact w_X3_bestSet_9 C hR _ _ _ _ _ _ _ Z (lv_sub hl [3, 4, 5, 2, 1, 0] rfl) h
theorem k_X3_bestSet {l : Launch} {kc : Nat → ClassId} {ad : Nat → Nat} {D : va_G} {adK adV : Nat → Nat} {x1 : Int32} {x2 : Int32} {σ : St} {R : Int32} (h : f_X3_bestSet x1 x2 σ = some R) : KC (eC adK adV) tC kc ad D l yX3_bestSet (.code yX3_bestSet cX3_bestSet 9 (some .int)) r_X3_bestSet [.ref (ad 9), .int x1, .int x2] (some (.int R)) σ σ := by
  refine g_enter (by decide) (Nat.le_of_ble_eq_true rfl) ?_
  intro p e s m args below meth c A hA C hr hlocks Z ls hl
  have hl : lv_has ls 9 [(0, .ref (ad 9)), (1, .int x1), (2, .int x2)] := hl
  exact w_X3_bestSet_0 C (g_RTi C.1.1 C.1.2.1 hr hlocks hA)  Z hl h
def r_X4_hasRoomFor : Room := { frames := 0, cells := 0, slots := 0, locals := 0 }
set_option maxRecDepth 20000 in
theorem w_X4_hasRoomFor_0 {p : Program} {l : Launch} {e : Env} {s : State} {m : MethodId} {args : Array Value} {below : List Frame} {meth : Method} {c : Code} {Q : State → Prop} {D : va_G} {kc : Nat → ClassId} {ad : Nat → Nat} {A : Nat → Prop} {adK adV : Nat → Nat} (C : Cx (eC adK adV) p s m args c cX4_hasRoomFor 2 RX4 D kc A) {R : Int32} {x1 : Int32} {σ : St} (hR : RTi 0 0 p l e r_X4_hasRoomFor s m args below meth c cX4_hasRoomFor tC kc ad D A Q .boolean R σ) {H : Heap} {locs : List Loc} {ls : Array Slot} (Z : Dy tC kc ad D A s.heap σ H locs) (hl : lv_has ls 2 [(0, .ref (ad 5)), (1, .int x1)]) (h : f_X4_hasRoomFor x1 σ = R) : W p l e r_X4_hasRoomFor s m args below meth c H locs 0 0 Q (F0 m 0 ls []) := by
  have hx := C.1.1
  have hb := C.1.2.1
  unfold f_X4_hasRoomFor at h
  refine lv_aload_n hx hb dX4_hasRoomFor_0 rfl (lv_at hl 0 rfl) ?_
  refine rg_X4_21 C Z dX4_hasRoomFor_1 ?_
  refine lv_iload_n hx hb dX4_hasRoomFor_4 rfl (lv_at hl 1 rfl) ?_
  refine lv_iadd hx hb dX4_hasRoomFor_5 ?_
  refine lv_aload_n hx hb dX4_hasRoomFor_6 rfl (lv_at hl 0 rfl) ?_
  refine rg_X4_11 C Z dX4_hasRoomFor_7 ?_
  refine g_len C Z iaC45 (by decide) (v := 400) rfl dX4_hasRoomFor_10 ?_
  obtain ⟨v1, ev1, h⟩ := lb h
  have hj : W p l e r_X4_hasRoomFor s m args below meth c H locs 0 0 Q (F0 m 19 ls [.int v1]) := by
    subst h
    exact hR _ _ _ _ _ Z dX4_hasRoomFor_19 (nar_b _)
  refine lv_icmp_gt (tgt := 18) hx hb dX4_hasRoomFor_11 (by decide) (fun c11 => ?_) (fun c11 => ?_)
  · rw [if_pos c11] at ev1
    refine lv_iconst (v := 0) hx hb dX4_hasRoomFor_18 (by decide) ?_
    exact tn_i ev1 hj
  · rw [if_neg c11] at ev1
    refine lv_iconst (v := 1) hx hb dX4_hasRoomFor_14 (by decide) ?_
    refine lv_goto (tgt := 19) hx hb dX4_hasRoomFor_15 (by decide) ?_
    exact tn_i ev1 hj
theorem k_X4_hasRoomFor {l : Launch} {kc : Nat → ClassId} {ad : Nat → Nat} {D : va_G} {adK adV : Nat → Nat} (x1 : Int32) (σ : St) : KC (eC adK adV) tC kc ad D l yX4_hasRoomFor (.code yX4_hasRoomFor cX4_hasRoomFor 2 (some .boolean)) r_X4_hasRoomFor [.ref (ad 5), .int x1] (some (.int (f_X4_hasRoomFor x1 σ))) σ σ := by
  refine g_enter (by decide) (Nat.le_of_ble_eq_true rfl) ?_
  intro p e s m args below meth c A hA C hr hlocks Z ls hl
  have hl : lv_has ls 2 [(0, .ref (ad 5)), (1, .int x1)] := hl
  exact w_X4_hasRoomFor_0 C (g_RTi C.1.1 C.1.2.1 hr hlocks hA)  Z hl rfl
def r_X4_take : Room := { frames := 0, cells := 0, slots := 0, locals := 0 }
set_option maxRecDepth 20000 in
theorem w_X4_take_45 {p : Program} {l : Launch} {e : Env} {s : State} {m : MethodId} {args : Array Value} {below : List Frame} {meth : Method} {c : Code} {Q : State → Prop} {D : va_G} {kc : Nat → ClassId} {ad : Nat → Nat} {A : Nat → Prop} {adK adV : Nat → Nat} (C : Cx (eC adK adV) p s m args c cX4_take 3 RX4 D kc A) {R : St} {x1 : Int32} {x2 : Int32} {σ : St} (hR : RTv 0 0 p l e r_X4_take s m args below meth c cX4_take tC kc ad D A Q R) {k3 : Int32 → St → Option (St)} (hk3 : ∀ (x2 : Int32) (σ : St) (H : Heap) (locs : List Loc) (ls : Array Slot), Dy tC kc ad D A s.heap σ H locs → lv_has ls 3 [(0, .ref (ad 5)), (1, .int x1), (2, .int x2)] → k3 x2 σ = some R → W p l e r_X4_take s m args below meth c H locs 0 0 Q (F0 m 3 ls [])) {H : Heap} {locs : List Loc} {ls : Array Slot} (Z : Dy tC kc ad D A s.heap σ H locs) (hl : lv_has ls 3 [(0, .ref (ad 5)), (1, .int x1), (2, .int x2)]) (h : f_X4_take_45 x1 x2 σ k3 = some R) : W p l e r_X4_take s m args below meth c H locs 0 0 Q (F0 m 45 ls []) := by
  have hx := C.1.1
  have hb := C.1.2.1
  unfold f_X4_take_45 at h
  obtain ⟨v9, ev9, h⟩ := lb h
  refine lv_iinc (v := v9) (lv' := [(2, .int v9), (0, .ref (ad 5)), (1, .int x1)]) hx hb dX4_take_45 hl (k := 2) rfl (by rw [ev9]; rfl) (by decide) rfl (fun ls hl => ?_)
  refine lv_goto (tgt := 3) hx hb dX4_take_48 (by decide) ?_
  exact hk3 _ _ _ _ _ Z (lv_sub hl [1, 2, 0] rfl) h
set_option maxRecDepth 20000 in
theorem w_X4_take_3 {p : Program} {l : Launch} {e : Env} {s : State} {m : MethodId} {args : Array Value} {below : List Frame} {meth : Method} {c : Code} {Q : State → Prop} {D : va_G} {kc : Nat → ClassId} {ad : Nat → Nat} {A : Nat → Prop} {adK adV : Nat → Nat} (C : Cx (eC adK adV) p s m args c cX4_take 3 RX4 D kc A) {R : St} {x1 : Int32} (hR : RTv 0 0 p l e r_X4_take s m args below meth c cX4_take tC kc ad D A Q R) : ∀ (n : Nat) (x2 : Int32) (σ : St) (H : Heap) (locs : List Loc) (ls : Array Slot), Dy tC kc ad D A s.heap σ H locs → lv_has ls 3 [(0, .ref (ad 5)), (1, .int x1), (2, .int x2)] → f_X4_take_3 x1 n x2 σ = some R → W p l e r_X4_take s m args below meth c H locs 0 0 Q (F0 m 3 ls []) := by
  have hx := C.1.1
  have hb := C.1.2.1
  intro n
  induction n with
  | zero =>
    intro x2 σ H locs ls Z hl h
    exact absurd (show none = some R from h) (by simp)
  | succ n ih =>
    intro x2 σ H locs ls Z hl h
    rw [f_X4_take_3] at h
    refine lv_iload_n hx hb dX4_take_3 rfl (lv_at hl 2 rfl) ?_
    refine lv_if_lt (tgt := 51) hx hb dX4_take_4 (by decide) (fun c4 => ?_) (fun c4 => ?_)
    · have h := ip h c4
      obtain rfl := Option.some.inj h
      exact hR _ _ _ _ Z dX4_take_51
    · have h := im h c4
      refine lv_aload_n hx hb dX4_take_7 rfl (lv_at hl 0 rfl) ?_
      refine rg_X4_21 C Z dX4_take_8 ?_
      refine lv_aload_n hx hb dX4_take_11 rfl (lv_at hl 0 rfl) ?_
      refine rg_X4_11 C Z dX4_take_12 ?_
      refine g_len C Z iaC45 (by decide) (v := 400) rfl dX4_take_15 ?_
      refine lv_icmp_ge (tgt := 45) hx hb dX4_take_16 (by decide) (fun c16 => ?_) (fun c16 => ?_)
      · have h := ip h c16
        exact w_X4_take_45 C hR ih Z (lv_sub hl [0, 1, 2] rfl) h
      · have h := im h c16
        refine lv_aload_n hx hb dX4_take_19 rfl (lv_at hl 0 rfl) ?_
        refine rg_X4_11 C Z dX4_take_20 ?_
        refine lv_aload_n hx hb dX4_take_23 rfl (lv_at hl 0 rfl) ?_
        refine rg_X4_21 C Z dX4_take_24 ?_
        refine lv_iload_n hx hb dX4_take_27 rfl (lv_at hl 1 rfl) ?_
        refine lv_iload_n hx hb dX4_take_28 rfl (lv_at hl 2 rfl) ?_
        refine lv_iushr (v := ushr x1 x2) hx hb dX4_take_29 rfl ?_
        refine lv_sipush (v := 255) hx hb dX4_take_30 (by decide) ?_
        refine lv_iand hx hb dX4_take_33 ?_
        obtain ⟨σ7, hσ7, h⟩ := ob h
        refine g_iast C Z iaC45 hσ7 dX4_take_34 (fun H locs Z => ?_)
        refine lv_aload_n hx hb dX4_take_35 rfl (lv_at hl 0 rfl) ?_
        refine lv_dup hx hb dX4_take_36 rfl ?_
        refine rg_X4_21 C Z dX4_take_37 ?_
        refine lv_iconst (v := 1) hx hb dX4_take_40 (by decide) ?_
        refine lv_iadd hx hb dX4_take_41 ?_
        obtain ⟨σ8, eσ8, h⟩ := lb h
        refine rp_X4_21 C Z eσ8 dX4_take_42 (fun H locs Z => ?_)
        exact w_X4_take_45 C hR ih Z (lv_sub hl [0, 1, 2] rfl) h
set_option maxRecDepth 20000 in
theorem w_X4_take_0 {p : Program} {l : Launch} {e : Env} {s : State} {m : MethodId} {args : Array Value} {below : List Frame} {meth : Method} {c : Code} {Q : State → Prop} {D : va_G} {kc : Nat → ClassId} {ad : Nat → Nat} {A : Nat → Prop} {adK adV : Nat → Nat} (C : Cx (eC adK adV) p s m args c cX4_take 3 RX4 D kc A) {R : St} {x1 : Int32} {σ : St} (hR : RTv 0 0 p l e r_X4_take s m args below meth c cX4_take tC kc ad D A Q R) {H : Heap} {locs : List Loc} {ls : Array Slot} (Z : Dy tC kc ad D A s.heap σ H locs) (hl : lv_has ls 3 [(0, .ref (ad 5)), (1, .int x1)]) (h : f_X4_take x1 σ = some R) : W p l e r_X4_take s m args below meth c H locs 0 0 Q (F0 m 0 ls []) := by
  have hx := C.1.1
  have hb := C.1.2.1
  unfold f_X4_take at h
  refine lv_bipush (v := 24) hx hb dX4_take_0 (by decide) ?_
  refine lv_istore_n (lv' := [(2, .int 24), (0, .ref (ad 5)), (1, .int x1)]) hx hb dX4_take_2 rfl hl (by decide) rfl (fun ls hl => ?_)
  exact w_X4_take_3 C hR _ _ _ _ _ _ Z (lv_sub hl [1, 2, 0] rfl) h
theorem k_X4_take {l : Launch} {kc : Nat → ClassId} {ad : Nat → Nat} {D : va_G} {adK adV : Nat → Nat} {x1 : Int32} {σ : St} {R : St} (h : f_X4_take x1 σ = some R) : KC (eC adK adV) tC kc ad D l yX4_take (.code yX4_take cX4_take 3 none) r_X4_take [.ref (ad 5), .int x1] none σ R := by
  refine g_enter (by decide) (Nat.le_of_ble_eq_true rfl) ?_
  intro p e s m args below meth c A hA C hr hlocks Z ls hl
  have hl : lv_has ls 3 [(0, .ref (ad 5)), (1, .int x1)] := hl
  exact w_X4_take_0 C (g_RTv C.1.1 C.1.2.1 hr hlocks hA)  Z hl h
def r_X4_byteAt : Room := { frames := 0, cells := 0, slots := 0, locals := 0 }
set_option maxRecDepth 20000 in
theorem w_X4_byteAt_30 {p : Program} {l : Launch} {e : Env} {s : State} {m : MethodId} {args : Array Value} {below : List Frame} {meth : Method} {c : Code} {Q : State → Prop} {D : va_G} {kc : Nat → ClassId} {ad : Nat → Nat} {A : Nat → Prop} {adK adV : Nat → Nat} (C : Cx (eC adK adV) p s m args c cX4_byteAt 2 RX4 D kc A) {R : Int32} {σ : St} (hR : RTi 0 0 p l e r_X4_byteAt s m args below meth c cX4_byteAt tC kc ad D A Q .int R σ) {H : Heap} {locs : List Loc} {ls : Array Slot} (Z : Dy tC kc ad D A s.heap σ H locs) (hl : lv_has ls 2 []) (h : f_X4_byteAt_30 σ = some R) : W p l e r_X4_byteAt s m args below meth c H locs 0 0 Q (F0 m 30 ls []) := by
  have hx := C.1.1
  have hb := C.1.2.1
  unfold f_X4_byteAt_30 at h
  refine lv_iconst (v := (-1)) hx hb dX4_byteAt_30 (by decide) ?_
  obtain rfl := Option.some.inj h
  exact hR _ _ _ _ _ Z dX4_byteAt_31 rfl
set_option maxRecDepth 20000 in
theorem w_X4_byteAt_0 {p : Program} {l : Launch} {e : Env} {s : State} {m : MethodId} {args : Array Value} {below : List Frame} {meth : Method} {c : Code} {Q : State → Prop} {D : va_G} {kc : Nat → ClassId} {ad : Nat → Nat} {A : Nat → Prop} {adK adV : Nat → Nat} (C : Cx (eC adK adV) p s m args c cX4_byteAt 2 RX4 D kc A) {R : Int32} {x1 : Int32} {σ : St} (hR : RTi 0 0 p l e r_X4_byteAt s m args below meth c cX4_byteAt tC kc ad D A Q .int R σ) {H : Heap} {locs : List Loc} {ls : Array Slot} (Z : Dy tC kc ad D A s.heap σ H locs) (hl : lv_has ls 2 [(0, .ref (ad 5)), (1, .int x1)]) (h : f_X4_byteAt x1 σ = some R) : W p l e r_X4_byteAt s m args below meth c H locs 0 0 Q (F0 m 0 ls []) := by
  have hx := C.1.1
  have hb := C.1.2.1
  unfold f_X4_byteAt at h
  refine lv_iload_n hx hb dX4_byteAt_0 rfl (lv_at hl 1 rfl) ?_
  refine lv_if_lt (tgt := 30) hx hb dX4_byteAt_1 (by decide) (fun c1 => ?_) (fun c1 => ?_)
  · have h := ip h c1
    exact w_X4_byteAt_30 C hR Z (lv_sub hl [] rfl) h
  · have h := im h c1
    refine lv_iload_n hx hb dX4_byteAt_4 rfl (lv_at hl 1 rfl) ?_
    refine lv_aload_n hx hb dX4_byteAt_5 rfl (lv_at hl 0 rfl) ?_
    refine rg_X4_21 C Z dX4_byteAt_6 ?_
    refine lv_icmp_ge (tgt := 30) hx hb dX4_byteAt_9 (by decide) (fun c9 => ?_) (fun c9 => ?_)
    · have h := ip h c9
      exact w_X4_byteAt_30 C hR Z (lv_sub hl [] rfl) h
    · have h := im h c9
      refine lv_iload_n hx hb dX4_byteAt_12 rfl (lv_at hl 1 rfl) ?_
      refine lv_aload_n hx hb dX4_byteAt_13 rfl (lv_at hl 0 rfl) ?_
      refine rg_X4_11 C Z dX4_byteAt_14 ?_
      refine g_len C Z iaC45 (by decide) (v := 400) rfl dX4_byteAt_17 ?_
      refine lv_icmp_ge (tgt := 30) hx hb dX4_byteAt_18 (by decide) (fun c18 => ?_) (fun c18 => ?_)
      · have h := ip h c18
        exact w_X4_byteAt_30 C hR Z (lv_sub hl [] rfl) h
      · have h := im h c18
        refine lv_aload_n hx hb dX4_byteAt_21 rfl (lv_at hl 0 rfl) ?_
        refine rg_X4_11 C Z dX4_byteAt_22 ?_
        refine lv_iload_n hx hb dX4_byteAt_25 rfl (lv_at hl 1 rfl) ?_
        obtain ⟨v3, hv3, h⟩ := ob h
        refine g_iald C Z iaC45 hv3 dX4_byteAt_26 ?_
        refine lv_goto (tgt := 31) hx hb dX4_byteAt_27 (by decide) ?_
        obtain rfl := Option.some.inj h
        exact hR _ _ _ _ _ Z dX4_byteAt_31 rfl
theorem k_X4_byteAt {l : Launch} {kc : Nat → ClassId} {ad : Nat → Nat} {D : va_G} {adK adV : Nat → Nat} {x1 : Int32} {σ : St} {R : Int32} (h : f_X4_byteAt x1 σ = some R) : KC (eC adK adV) tC kc ad D l yX4_byteAt (.code yX4_byteAt cX4_byteAt 2 (some .int)) r_X4_byteAt [.ref (ad 5), .int x1] (some (.int R)) σ σ := by
  refine g_enter (by decide) (Nat.le_of_ble_eq_true rfl) ?_
  intro p e s m args below meth c A hA C hr hlocks Z ls hl
  have hl : lv_has ls 2 [(0, .ref (ad 5)), (1, .int x1)] := hl
  exact w_X4_byteAt_0 C (g_RTi C.1.1 C.1.2.1 hr hlocks hA)  Z hl h
def r_X4_advance : Room := { frames := 1, cells := 0, slots := 0, locals := 22 }
set_option maxRecDepth 20000 in
theorem w_X4_advance_71 {p : Program} {l : Launch} {e : Env} {s : State} {m : MethodId} {args : Array Value} {below : List Frame} {meth : Method} {c : Code} {Q : State → Prop} {D : va_G} {kc : Nat → ClassId} {ad : Nat → Nat} {A : Nat → Prop} {adK adV : Nat → Nat} (C : Cx (eC adK adV) p s m args c cX4_advance 2 RX4 D kc A) {R : St} (hR : RTv 0 0 p l e r_X4_advance s m args below meth c cX4_advance tC kc ad D A Q R) : ∀ (n : Nat) (σ : St) (H : Heap) (locs : List Loc) (ls : Array Slot), Dy tC kc ad D A s.heap σ H locs → lv_has ls 2 [(0, .ref (ad 5))] → f_X4_advance_71 n σ = some R → W p l e r_X4_advance s m args below meth c H locs 0 0 Q (F0 m 71 ls []) := by
  have hx := C.1.1
  have hb := C.1.2.1
  intro n
  induction n with
  | zero =>
    intro σ H locs ls Z hl h
    exact absurd (show none = some R from h) (by simp)
  | succ n ih =>
    intro σ H locs ls Z hl h
    rw [f_X4_advance_71] at h
    refine lv_aload_n hx hb dX4_advance_71 rfl (lv_at hl 0 rfl) ?_
    refine rg_X4_25 C Z dX4_advance_72 ?_
    refine lv_aload_n hx hb dX4_advance_75 rfl (lv_at hl 0 rfl) ?_
    refine rg_X4_21 C Z dX4_advance_76 ?_
    refine lv_icmp_ge (tgt := 302) hx hb dX4_advance_79 (by decide) (fun c79 => ?_) (fun c79 => ?_)
    · have h := ip h c79
      obtain rfl := Option.some.inj h
      exact hR _ _ _ _ Z dX4_advance_302
    · have h := im h c79
      refine lv_aload_n hx hb dX4_advance_82 rfl (lv_at hl 0 rfl) ?_
      refine lv_aload_n hx hb dX4_advance_83 rfl (lv_at hl 0 rfl) ?_
      refine rg_X4_25 C Z dX4_advance_84 ?_
      obtain ⟨v54, hv54, h⟩ := ob h
      refine g_callVi (eC_ok adK adV) C Z (k_X4_byteAt hv54) lk_X4_187 (by decide) rfl rfl hl (by decide) rfl (Nat.le_of_ble_eq_true rfl) (rest := []) rfl dX4_advance_87 (fun H locs Z => ?_)
      refine lv_bipush (v := 97) hx hb dX4_advance_90 (by decide) ?_
      refine lv_bipush (v := 122) hx hb dX4_advance_92 (by decide) ?_
      refine g_callNi (eC_ok adK adV) C Z (k_X10_lies v54 97 122 σ) (C.2.2.2.1 _ nw_X4_194) lkn_X10_lies hl (by decide) rfl (Nat.le_of_ble_eq_true rfl) (rest := []) rfl dX4_advance_94 (fun H locs Z => ?_)
      refine lv_if_eq (tgt := 302) hx hb dX4_advance_97 (by decide) (fun c97 => ?_) (fun c97 => ?_)
      · have h := ip h c97
        obtain rfl := Option.some.inj h
        exact hR _ _ _ _ Z dX4_advance_302
      · have h := im h c97
        refine lv_aload_n hx hb dX4_advance_100 rfl (lv_at hl 0 rfl) ?_
        refine lv_dup hx hb dX4_advance_101 rfl ?_
        refine rg_X4_25 C Z dX4_advance_102 ?_
        refine lv_iconst (v := 1) hx hb dX4_advance_105 (by decide) ?_
        refine lv_iadd hx hb dX4_advance_106 ?_
        obtain ⟨σ55, eσ55, h⟩ := lb h
        refine rp_X4_25 C Z eσ55 dX4_advance_107 (fun H locs Z => ?_)
        refine lv_goto (tgt := 71) hx hb dX4_advance_110 (by decide) ?_
        exact ih _ _ _ _ Z (lv_sub hl [0] rfl) h
set_option maxRecDepth 20000 in
theorem w_X4_advance_204 {p : Program} {l : Launch} {e : Env} {s : State} {m : MethodId} {args : Array Value} {below : List Frame} {meth : Method} {c : Code} {Q : State → Prop} {D : va_G} {kc : Nat → ClassId} {ad : Nat → Nat} {A : Nat → Prop} {adK adV : Nat → Nat} (C : Cx (eC adK adV) p s m args c cX4_advance 2 RX4 D kc A) {R : St} {y1 : Int32} {σ : St} (hR : RTv 0 0 p l e r_X4_advance s m args below meth c cX4_advance tC kc ad D A Q R) {k140 : St → Option (St)} (hk140 : ∀ (σ : St) (H : Heap) (locs : List Loc) (ls : Array Slot), Dy tC kc ad D A s.heap σ H locs → lv_has ls 2 [(0, .ref (ad 5))] → k140 σ = some R → W p l e r_X4_advance s m args below meth c H locs 0 0 Q (F0 m 140 ls [])) {H : Heap} {locs : List Loc} {ls : Array Slot} (Z : Dy tC kc ad D A s.heap σ H locs) (hl : lv_has ls 2 [(0, .ref (ad 5))]) (h : f_X4_advance_204 y1 σ k140 = some R) : W p l e r_X4_advance s m args below meth c H locs 0 0 Q (F0 m 204 ls [.int y1, .ref (ad 5)]) := by
  have hx := C.1.1
  have hb := C.1.2.1
  unfold f_X4_advance_204 at h
  obtain ⟨σ58, eσ58, h⟩ := lb h
  refine rp_X4_96 C Z eσ58 dX4_advance_204 (fun H locs Z => ?_)
  refine lv_aload_n hx hb dX4_advance_207 rfl (lv_at hl 0 rfl) ?_
  refine lv_dup hx hb dX4_advance_208 rfl ?_
  refine rg_X4_93 C Z dX4_advance_209 ?_
  refine lv_iconst (v := 1) hx hb dX4_advance_212 (by decide) ?_
  refine lv_iadd hx hb dX4_advance_213 ?_
  obtain ⟨σ59, eσ59, h⟩ := lb h
  refine rp_X4_93 C Z eσ59 dX4_advance_214 (fun H locs Z => ?_)
  refine lv_aload_n hx hb dX4_advance_217 rfl (lv_at hl 0 rfl) ?_
  refine lv_dup hx hb dX4_advance_218 rfl ?_
  refine rg_X4_25 C Z dX4_advance_219 ?_
  refine lv_iconst (v := 1) hx hb dX4_advance_222 (by decide) ?_
  refine lv_iadd hx hb dX4_advance_223 ?_
  obtain ⟨σ60, eσ60, h⟩ := lb h
  refine rp_X4_25 C Z eσ60 dX4_advance_224 (fun H locs Z => ?_)
  refine lv_goto (tgt := 140) hx hb dX4_advance_227 (by decide) ?_
  exact hk140 _ _ _ _ Z (lv_sub hl [0] rfl) h
set_option maxRecDepth 20000 in
theorem w_X4_advance_140 {p : Program} {l : Launch} {e : Env} {s : State} {m : MethodId} {args : Array Value} {below : List Frame} {meth : Method} {c : Code} {Q : State → Prop} {D : va_G} {kc : Nat → ClassId} {ad : Nat → Nat} {A : Nat → Prop} {adK adV : Nat → Nat} (C : Cx (eC adK adV) p s m args c cX4_advance 2 RX4 D kc A) {R : St} (hR : RTv 0 0 p l e r_X4_advance s m args below meth c cX4_advance tC kc ad D A Q R) : ∀ (n : Nat) (σ : St) (H : Heap) (locs : List Loc) (ls : Array Slot), Dy tC kc ad D A s.heap σ H locs → lv_has ls 2 [(0, .ref (ad 5))] → f_X4_advance_140 n σ = some R → W p l e r_X4_advance s m args below meth c H locs 0 0 Q (F0 m 140 ls []) := by
  have hx := C.1.1
  have hb := C.1.2.1
  intro n
  induction n with
  | zero =>
    intro σ H locs ls Z hl h
    exact absurd (show none = some R from h) (by simp)
  | succ n ih =>
    intro σ H locs ls Z hl h
    rw [f_X4_advance_140] at h
    refine lv_aload_n hx hb dX4_advance_140 rfl (lv_at hl 0 rfl) ?_
    refine rg_X4_25 C Z dX4_advance_141 ?_
    refine lv_aload_n hx hb dX4_advance_144 rfl (lv_at hl 0 rfl) ?_
    refine rg_X4_21 C Z dX4_advance_145 ?_
    refine lv_icmp_ge (tgt := 302) hx hb dX4_advance_148 (by decide) (fun c148 => ?_) (fun c148 => ?_)
    · have h := ip h c148
      obtain rfl := Option.some.inj h
      exact hR _ _ _ _ Z dX4_advance_302
    · have h := im h c148
      refine lv_aload_n hx hb dX4_advance_151 rfl (lv_at hl 0 rfl) ?_
      refine lv_aload_n hx hb dX4_advance_152 rfl (lv_at hl 0 rfl) ?_
      refine rg_X4_25 C Z dX4_advance_153 ?_
      obtain ⟨v56, hv56, h⟩ := ob h
      refine g_callVi (eC_ok adK adV) C Z (k_X4_byteAt hv56) lk_X4_187 (by decide) rfl rfl hl (by decide) rfl (Nat.le_of_ble_eq_true rfl) (rest := []) rfl dX4_advance_156 (fun H locs Z => ?_)
      refine lv_bipush (v := 48) hx hb dX4_advance_159 (by decide) ?_
      refine lv_bipush (v := 57) hx hb dX4_advance_161 (by decide) ?_
      refine g_callNi (eC_ok adK adV) C Z (k_X10_lies v56 48 57 σ) (C.2.2.2.1 _ nw_X4_194) lkn_X10_lies hl (by decide) rfl (Nat.le_of_ble_eq_true rfl) (rest := []) rfl dX4_advance_163 (fun H locs Z => ?_)
      refine lv_if_eq (tgt := 302) hx hb dX4_advance_166 (by decide) (fun c166 => ?_) (fun c166 => ?_)
      · have h := ip h c166
        obtain rfl := Option.some.inj h
        exact hR _ _ _ _ Z dX4_advance_302
      · have h := im h c166
        refine lv_aload_n hx hb dX4_advance_169 rfl (lv_at hl 0 rfl) ?_
        refine lv_aload_n hx hb dX4_advance_170 rfl (lv_at hl 0 rfl) ?_
        refine rg_X4_93 C Z dX4_advance_171 ?_
        refine lv_iconst (v := 5) hx hb dX4_advance_174 (by decide) ?_
        refine lv_icmp_ge (tgt := 200) hx hb dX4_advance_175 (by decide) (fun c175 => ?_) (fun c175 => ?_)
        · have h := ip h c175
          refine lv_aload_n hx hb dX4_advance_200 rfl (lv_at hl 0 rfl) ?_
          refine rg_X4_96 C Z dX4_advance_201 ?_
          exact w_X4_advance_204 C hR ih Z (lv_sub hl [0] rfl) h
        · have h := im h c175
          refine lv_aload_n hx hb dX4_advance_178 rfl (lv_at hl 0 rfl) ?_
          refine rg_X4_96 C Z dX4_advance_179 ?_
          refine lv_bipush (v := 10) hx hb dX4_advance_182 (by decide) ?_
          refine lv_imul hx hb dX4_advance_184 ?_
          refine lv_aload_n hx hb dX4_advance_185 rfl (lv_at hl 0 rfl) ?_
          refine lv_aload_n hx hb dX4_advance_186 rfl (lv_at hl 0 rfl) ?_
          refine rg_X4_25 C Z dX4_advance_187 ?_
          obtain ⟨v57, hv57, h⟩ := ob h
          refine g_callVi (eC_ok adK adV) C Z (k_X4_byteAt hv57) lk_X4_187 (by decide) rfl rfl hl (by decide) rfl (Nat.le_of_ble_eq_true rfl) (rest := [.int ((gF σ 506) * 10), .ref (ad 5)]) rfl dX4_advance_190 (fun H locs Z => ?_)
          refine lv_iadd hx hb dX4_advance_193 ?_
          refine lv_bipush (v := 48) hx hb dX4_advance_194 (by decide) ?_
          refine lv_isub hx hb dX4_advance_196 ?_
          refine lv_goto (tgt := 204) hx hb dX4_advance_197 (by decide) ?_
          exact w_X4_advance_204 C hR ih Z (lv_sub hl [0] rfl) h
set_option maxRecDepth 20000 in
theorem w_X4_advance_270 {p : Program} {l : Launch} {e : Env} {s : State} {m : MethodId} {args : Array Value} {below : List Frame} {meth : Method} {c : Code} {Q : State → Prop} {D : va_G} {kc : Nat → ClassId} {ad : Nat → Nat} {A : Nat → Prop} {adK adV : Nat → Nat} (C : Cx (eC adK adV) p s m args c cX4_advance 2 RX4 D kc A) {R : St} {x1 : Int32} {σ : St} (hR : RTv 0 0 p l e r_X4_advance s m args below meth c cX4_advance tC kc ad D A Q R) {H : Heap} {locs : List Loc} {ls : Array Slot} (Z : Dy tC kc ad D A s.heap σ H locs) (hl : lv_has ls 2 [(0, .ref (ad 5)), (1, .int x1)]) (h : f_X4_advance_270 x1 σ = some R) : W p l e r_X4_advance s m args below meth c H locs 0 0 Q (F0 m 270 ls []) := by
  have hx := C.1.1
  have hb := C.1.2.1
  unfold f_X4_advance_270 at h
  refine lv_aload_n hx hb dX4_advance_270 rfl (lv_at hl 0 rfl) ?_
  refine lv_aload_n hx hb dX4_advance_271 rfl (lv_at hl 0 rfl) ?_
  refine rg_X4_25 C Z dX4_advance_272 ?_
  obtain ⟨v61, hv61, h⟩ := ob h
  refine g_callVi (eC_ok adK adV) C Z (k_X4_byteAt hv61) lk_X4_187 (by decide) rfl rfl hl (by decide) rfl (Nat.le_of_ble_eq_true rfl) (rest := []) rfl dX4_advance_275 (fun H locs Z => ?_)
  refine lv_bipush (v := 61) hx hb dX4_advance_278 (by decide) ?_
  refine lv_icmp_ne (tgt := 302) hx hb dX4_advance_280 (by decide) (fun c280 => ?_) (fun c280 => ?_)
  · have h := im h c280
    obtain rfl := Option.some.inj h
    exact hR _ _ _ _ Z dX4_advance_302
  · have h := ip h c280
    refine lv_aload_n hx hb dX4_advance_283 rfl (lv_at hl 0 rfl) ?_
    refine lv_dup hx hb dX4_advance_284 rfl ?_
    refine rg_X4_25 C Z dX4_advance_285 ?_
    refine lv_iconst (v := 1) hx hb dX4_advance_288 (by decide) ?_
    refine lv_iadd hx hb dX4_advance_289 ?_
    obtain ⟨σ62, eσ62, h⟩ := lb h
    refine rp_X4_25 C Z eσ62 dX4_advance_290 (fun H locs Z => ?_)
    refine lv_aload_n hx hb dX4_advance_293 rfl (lv_at hl 0 rfl) ?_
    refine lv_iload_n hx hb dX4_advance_294 rfl (lv_at hl 1 rfl) ?_
    refine lv_sipush (v := 256) hx hb dX4_advance_295 (by decide) ?_
    refine lv_iadd hx hb dX4_advance_298 ?_
    obtain ⟨σ63, eσ63, h⟩ := lb h
    refine rp_X4_44 C Z eσ63 dX4_advance_299 (fun H locs Z => ?_)
    obtain rfl := Option.some.inj h
    exact hR _ _ _ _ Z dX4_advance_302
set_option maxRecDepth 20000 in
theorem w_X4_advance_37 {p : Program} {l : Launch} {e : Env} {s : State} {m : MethodId} {args : Array Value} {below : List Frame} {meth : Method} {c : Code} {Q : State → Prop} {D : va_G} {kc : Nat → ClassId} {ad : Nat → Nat} {A : Nat → Prop} {adK adV : Nat → Nat} (C : Cx (eC adK adV) p s m args c cX4_advance 2 RX4 D kc A) {R : St} {σ : St} (hR : RTv 0 0 p l e r_X4_advance s m args below meth c cX4_advance tC kc ad D A Q R) {H : Heap} {locs : List Loc} {ls : Array Slot} (Z : Dy tC kc ad D A s.heap σ H locs) (hl : lv_has ls 2 [(0, .ref (ad 5))]) (h : f_X4_advance_37 σ = some R) : W p l e r_X4_advance s m args below meth c H locs 0 0 Q (F0 m 37 ls []) := by
  have hx := C.1.1
  have hb := C.1.2.1
  unfold f_X4_advance_37 at h
  refine lv_aload_n hx hb dX4_advance_37 rfl (lv_at hl 0 rfl) ?_
  refine lv_aload_n hx hb dX4_advance_38 rfl (lv_at hl 0 rfl) ?_
  refine rg_X4_25 C Z dX4_advance_39 ?_
  obtain ⟨σ45, eσ45, h⟩ := lb h
  refine rp_X4_50 C Z eσ45 dX4_advance_42 (fun H locs Z => ?_)
  refine lv_aload_n hx hb dX4_advance_45 rfl (lv_at hl 0 rfl) ?_
  refine lv_aload_n hx hb dX4_advance_46 rfl (lv_at hl 0 rfl) ?_
  refine rg_X4_25 C Z dX4_advance_47 ?_
  obtain ⟨v46, hv46, h⟩ := ob h
  refine g_callVi (eC_ok adK adV) C Z (k_X4_byteAt hv46) lk_X4_187 (by decide) rfl rfl hl (by decide) rfl (Nat.le_of_ble_eq_true rfl) (rest := []) rfl dX4_advance_50 (fun H locs Z => ?_)
  refine lv_istore_n (lv' := [(1, .int v46), (0, .ref (ad 5))]) hx hb dX4_advance_53 rfl hl (by decide) rfl (fun ls hl => ?_)
  refine lv_iload_n hx hb dX4_advance_54 rfl (lv_at hl 0 rfl) ?_
  refine lv_bipush (v := 97) hx hb dX4_advance_55 (by decide) ?_
  refine lv_bipush (v := 122) hx hb dX4_advance_57 (by decide) ?_
  refine g_callNi (eC_ok adK adV) C Z (k_X10_lies v46 97 122 σ45) (C.2.2.2.1 _ nw_X4_194) lkn_X10_lies hl (by decide) rfl (Nat.le_of_ble_eq_true rfl) (rest := []) rfl dX4_advance_59 (fun H locs Z => ?_)
  refine lv_if_eq (tgt := 113) hx hb dX4_advance_62 (by decide) (fun c62 => ?_) (fun c62 => ?_)
  · have h := ip h c62
    refine lv_iload_n hx hb dX4_advance_113 rfl (lv_at hl 0 rfl) ?_
    refine lv_bipush (v := 48) hx hb dX4_advance_114 (by decide) ?_
    refine lv_bipush (v := 57) hx hb dX4_advance_116 (by decide) ?_
    refine g_callNi (eC_ok adK adV) C Z (k_X10_lies v46 48 57 σ45) (C.2.2.2.1 _ nw_X4_194) lkn_X10_lies hl (by decide) rfl (Nat.le_of_ble_eq_true rfl) (rest := []) rfl dX4_advance_118 (fun H locs Z => ?_)
    refine lv_if_eq (tgt := 230) hx hb dX4_advance_121 (by decide) (fun c121 => ?_) (fun c121 => ?_)
    · have h := ip h c121
      refine lv_iload_n hx hb dX4_advance_230 rfl (lv_at hl 0 rfl) ?_
      refine lv_iconst (v := (-1)) hx hb dX4_advance_231 (by decide) ?_
      refine lv_icmp_ne (tgt := 243) hx hb dX4_advance_232 (by decide) (fun c232 => ?_) (fun c232 => ?_)
      · have h := im h c232
        refine lv_aload_n hx hb dX4_advance_243 rfl (lv_at hl 1 rfl) ?_
        refine lv_dup hx hb dX4_advance_244 rfl ?_
        refine rg_X4_25 C Z dX4_advance_245 ?_
        refine lv_iconst (v := 1) hx hb dX4_advance_248 (by decide) ?_
        refine lv_iadd hx hb dX4_advance_249 ?_
        obtain ⟨σ47, eσ47, h⟩ := lb h
        refine rp_X4_25 C Z eσ47 dX4_advance_250 (fun H locs Z => ?_)
        refine lv_aload_n hx hb dX4_advance_253 rfl (lv_at hl 1 rfl) ?_
        refine lv_iload_n hx hb dX4_advance_254 rfl (lv_at hl 0 rfl) ?_
        obtain ⟨σ48, eσ48, h⟩ := lb h
        refine rp_X4_44 C Z eσ48 dX4_advance_255 (fun H locs Z => ?_)
        refine lv_iload_n hx hb dX4_advance_258 rfl (lv_at hl 0 rfl) ?_
        refine lv_bipush (v := 60) hx hb dX4_advance_259 (by decide) ?_
        refine lv_icmp_eq (tgt := 270) hx hb dX4_advance_261 (by decide) (fun c261 => ?_) (fun c261 => ?_)
        · have h := ip h c261
          exact w_X4_advance_270 C hR Z (lv_sub hl [1, 0] rfl) h
        · have h := im h c261
          refine lv_iload_n hx hb dX4_advance_264 rfl (lv_at hl 0 rfl) ?_
          refine lv_bipush (v := 62) hx hb dX4_advance_265 (by decide) ?_
          refine lv_icmp_ne (tgt := 302) hx hb dX4_advance_267 (by decide) (fun c267 => ?_) (fun c267 => ?_)
          · have h := im h c267
            obtain rfl := Option.some.inj h
            exact hR _ _ _ _ Z dX4_advance_302
          · have h := ip h c267
            exact w_X4_advance_270 C hR Z (lv_sub hl [1, 0] rfl) h
      · have h := ip h c232
        refine lv_aload_n hx hb dX4_advance_235 rfl (lv_at hl 1 rfl) ?_
        refine lv_iconst (v := (-1)) hx hb dX4_advance_236 (by decide) ?_
        obtain ⟨σ49, eσ49, h⟩ := lb h
        refine rp_X4_44 C Z eσ49 dX4_advance_237 (fun H locs Z => ?_)
        refine lv_goto (tgt := 302) hx hb dX4_advance_240 (by decide) ?_
        obtain rfl := Option.some.inj h
        exact hR _ _ _ _ Z dX4_advance_302
    · have h := im h c121
      refine lv_aload_n hx hb dX4_advance_124 rfl (lv_at hl 1 rfl) ?_
      refine lv_bipush (v := (-3)) hx hb dX4_advance_125 (by decide) ?_
      obtain ⟨σ50, eσ50, h⟩ := lb h
      refine rp_X4_44 C Z eσ50 dX4_advance_127 (fun H locs Z => ?_)
      refine lv_aload_n hx hb dX4_advance_130 rfl (lv_at hl 1 rfl) ?_
      refine lv_iconst (v := 0) hx hb dX4_advance_131 (by decide) ?_
      obtain ⟨σ51, eσ51, h⟩ := lb h
      refine rp_X4_96 C Z eσ51 dX4_advance_132 (fun H locs Z => ?_)
      refine lv_aload_n hx hb dX4_advance_135 rfl (lv_at hl 1 rfl) ?_
      refine lv_iconst (v := 0) hx hb dX4_advance_136 (by decide) ?_
      obtain ⟨σ52, eσ52, h⟩ := lb h
      refine rp_X4_93 C Z eσ52 dX4_advance_137 (fun H locs Z => ?_)
      exact w_X4_advance_140 C hR _ _ _ _ _ Z (lv_sub hl [1] rfl) h
  · have h := im h c62
    refine lv_aload_n hx hb dX4_advance_65 rfl (lv_at hl 1 rfl) ?_
    refine lv_bipush (v := (-2)) hx hb dX4_advance_66 (by decide) ?_
    obtain ⟨σ53, eσ53, h⟩ := lb h
    refine rp_X4_44 C Z eσ53 dX4_advance_68 (fun H locs Z => ?_)
    exact w_X4_advance_71 C hR _ _ _ _ _ Z (lv_sub hl [1] rfl) h
set_option maxRecDepth 20000 in
theorem w_X4_advance_0 {p : Program} {l : Launch} {e : Env} {s : State} {m : MethodId} {args : Array Value} {below : List Frame} {meth : Method} {c : Code} {Q : State → Prop} {D : va_G} {kc : Nat → ClassId} {ad : Nat → Nat} {A : Nat → Prop} {adK adV : Nat → Nat} (C : Cx (eC adK adV) p s m args c cX4_advance 2 RX4 D kc A) {R : St} (hR : RTv 0 0 p l e r_X4_advance s m args below meth c cX4_advance tC kc ad D A Q R) : ∀ (n : Nat) (σ : St) (H : Heap) (locs : List Loc) (ls : Array Slot), Dy tC kc ad D A s.heap σ H locs → lv_has ls 2 [(0, .ref (ad 5))] → f_X4_advance_0 n σ = some R → W p l e r_X4_advance s m args below meth c H locs 0 0 Q (F0 m 0 ls []) := by
  have hx := C.1.1
  have hb := C.1.2.1
  intro n
  induction n with
  | zero =>
    intro σ H locs ls Z hl h
    exact absurd (show none = some R from h) (by simp)
  | succ n ih =>
    intro σ H locs ls Z hl h
    rw [f_X4_advance_0] at h
    refine lv_aload_n hx hb dX4_advance_0 rfl (lv_at hl 0 rfl) ?_
    refine rg_X4_25 C Z dX4_advance_1 ?_
    refine lv_aload_n hx hb dX4_advance_4 rfl (lv_at hl 0 rfl) ?_
    refine rg_X4_21 C Z dX4_advance_5 ?_
    refine lv_icmp_ge (tgt := 37) hx hb dX4_advance_8 (by decide) (fun c8 => ?_) (fun c8 => ?_)
    · have h := ip h c8
      exact w_X4_advance_37 C hR Z (lv_sub hl [0] rfl) h
    · have h := im h c8
      refine lv_aload_n hx hb dX4_advance_11 rfl (lv_at hl 0 rfl) ?_
      refine lv_aload_n hx hb dX4_advance_12 rfl (lv_at hl 0 rfl) ?_
      refine rg_X4_25 C Z dX4_advance_13 ?_
      obtain ⟨v43, hv43, h⟩ := ob h
      refine g_callVi (eC_ok adK adV) C Z (k_X4_byteAt hv43) lk_X4_187 (by decide) rfl rfl hl (by decide) rfl (Nat.le_of_ble_eq_true rfl) (rest := []) rfl dX4_advance_16 (fun H locs Z => ?_)
      refine lv_bipush (v := 32) hx hb dX4_advance_19 (by decide) ?_
      refine lv_icmp_ne (tgt := 37) hx hb dX4_advance_21 (by decide) (fun c21 => ?_) (fun c21 => ?_)
      · have h := im h c21
        exact w_X4_advance_37 C hR Z (lv_sub hl [0] rfl) h
      · have h := ip h c21
        refine lv_aload_n hx hb dX4_advance_24 rfl (lv_at hl 0 rfl) ?_
        refine lv_dup hx hb dX4_advance_25 rfl ?_
        refine rg_X4_25 C Z dX4_advance_26 ?_
        refine lv_iconst (v := 1) hx hb dX4_advance_29 (by decide) ?_
        refine lv_iadd hx hb dX4_advance_30 ?_
        obtain ⟨σ44, eσ44, h⟩ := lb h
        refine rp_X4_25 C Z eσ44 dX4_advance_31 (fun H locs Z => ?_)
        refine lv_goto (tgt := 0) hx hb dX4_advance_34 (by decide) ?_
        exact ih _ _ _ _ Z (lv_sub hl [0] rfl) h
theorem k_X4_advance {l : Launch} {kc : Nat → ClassId} {ad : Nat → Nat} {D : va_G} {adK adV : Nat → Nat} {σ : St} {R : St} (h : f_X4_advance σ = some R) : KC (eC adK adV) tC kc ad D l yX4_advance (.code yX4_advance cX4_advance 2 none) r_X4_advance [.ref (ad 5)] none σ R := by
  refine g_enter (by decide) (Nat.le_of_ble_eq_true rfl) ?_
  intro p e s m args below meth c A hA C hr hlocks Z ls hl
  have hl : lv_has ls 2 [(0, .ref (ad 5))] := hl
  exact w_X4_advance_0 C (g_RTv C.1.1 C.1.2.1 hr hlocks hA)  _ _ _ _ _ Z (lv_sub hl [0] rfl) h
def r_X4_isWord : Room := { frames := 4, cells := 0, slots := 0, locals := 85 }
set_option maxRecDepth 20000 in
theorem w_X4_isWord_29 {p : Program} {l : Launch} {e : Env} {s : State} {m : MethodId} {args : Array Value} {below : List Frame} {meth : Method} {c : Code} {Q : State → Prop} {D : va_G} {kc : Nat → ClassId} {ad : Nat → Nat} {A : Nat → Prop} {adK adV : Nat → Nat} (C : Cx (eC adK adV) p s m args c cX4_isWord 3 RX4 D kc A) {R : Int32} {w1 : Nat} {σ : St} (hR : RTi 0 0 p l e r_X4_isWord s m args below meth c cX4_isWord tC kc ad D A Q .boolean R σ) (hw1 : w1 < 24) : ∀ (n : Nat) (x2 : Int32) (H : Heap) (locs : List Loc) (ls : Array Slot), Dy tC kc ad D A s.heap σ H locs → lv_has ls 3 [(0, .ref (ad 5)), (1, .ref (adK w1)), (2, .int x2)] → f_X4_isWord_29 w1 σ n x2 = some R → W p l e r_X4_isWord s m args below meth c H locs 0 0 Q (F0 m 29 ls []) := by
  have hx := C.1.1
  have hb := C.1.2.1
  intro n
  induction n with
  | zero =>
    intro x2 H locs ls Z hl h
    exact absurd (show none = some R from h) (by simp)
  | succ n ih =>
    intro x2 H locs ls Z hl h
    rw [f_X4_isWord_29] at h
    refine lv_iload_n hx hb dX4_isWord_29 rfl (lv_at hl 2 rfl) ?_
    refine lv_aload_n hx hb dX4_isWord_30 rfl (lv_at hl 1 rfl) ?_
    obtain ⟨v12, hv12, h⟩ := ob h
    refine g_callWi C Z hw1 (k_J0_length_8abf5 hw1 hv12) lk_X4_183 hl (by decide) rfl (Nat.le_of_ble_eq_true rfl) (rest := [.int x2]) rfl dX4_isWord_31 rfl (fun H locs Z => ?_)
    refine lv_icmp_ge (tgt := 63) hx hb dX4_isWord_34 (by decide) (fun c34 => ?_) (fun c34 => ?_)
    · have h := ip h c34
      refine lv_iconst (v := 1) hx hb dX4_isWord_63 (by decide) ?_
      obtain rfl := Option.some.inj h
      exact hR _ _ _ _ _ Z dX4_isWord_64 rfl
    · have h := im h c34
      refine lv_aload_n hx hb dX4_isWord_37 rfl (lv_at hl 0 rfl) ?_
      refine lv_aload_n hx hb dX4_isWord_38 rfl (lv_at hl 0 rfl) ?_
      refine rg_X4_50 C Z dX4_isWord_39 ?_
      refine lv_iload_n hx hb dX4_isWord_42 rfl (lv_at hl 2 rfl) ?_
      refine lv_iadd hx hb dX4_isWord_43 ?_
      obtain ⟨v13, hv13, h⟩ := ob h
      refine g_callVi (eC_ok adK adV) C Z (k_X4_byteAt hv13) lk_X4_187 (by decide) rfl rfl hl (by decide) rfl (Nat.le_of_ble_eq_true rfl) (rest := []) rfl dX4_isWord_44 (fun H locs Z => ?_)
      refine lv_aload_n hx hb dX4_isWord_47 rfl (lv_at hl 1 rfl) ?_
      refine lv_iload_n hx hb dX4_isWord_48 rfl (lv_at hl 2 rfl) ?_
      obtain ⟨v14, hv14, h⟩ := ob h
      refine g_callWi C Z hw1 (k_J0_charAt_5068e hw1 hv14) lk_X4_190 hl (by decide) rfl (Nat.le_of_ble_eq_true rfl) (rest := [.int v13]) rfl dX4_isWord_49 rfl (fun H locs Z => ?_)
      refine lv_icmp_eq (tgt := 57) hx hb dX4_isWord_52 (by decide) (fun c52 => ?_) (fun c52 => ?_)
      · have h := ip h c52
        obtain ⟨v15, ev15, h⟩ := lb h
        refine lv_iinc (v := v15) (lv' := [(2, .int v15), (0, .ref (ad 5)), (1, .ref (adK w1))]) hx hb dX4_isWord_57 hl (k := 2) rfl (by rw [ev15]; rfl) (by decide) rfl (fun ls hl => ?_)
        refine lv_goto (tgt := 29) hx hb dX4_isWord_60 (by decide) ?_
        exact ih _ _ _ _ Z (lv_sub hl [1, 2, 0] rfl) h
      · have h := im h c52
        refine lv_iconst (v := 0) hx hb dX4_isWord_55 (by decide) ?_
        obtain rfl := Option.some.inj h
        exact hR _ _ _ _ _ Z dX4_isWord_56 rfl
set_option maxRecDepth 20000 in
theorem w_X4_isWord_0 {p : Program} {l : Launch} {e : Env} {s : State} {m : MethodId} {args : Array Value} {below : List Frame} {meth : Method} {c : Code} {Q : State → Prop} {D : va_G} {kc : Nat → ClassId} {ad : Nat → Nat} {A : Nat → Prop} {adK adV : Nat → Nat} (C : Cx (eC adK adV) p s m args c cX4_isWord 3 RX4 D kc A) {R : Int32} {w1 : Nat} {σ : St} (hR : RTi 0 0 p l e r_X4_isWord s m args below meth c cX4_isWord tC kc ad D A Q .boolean R σ) (hw1 : w1 < 24) {H : Heap} {locs : List Loc} {ls : Array Slot} (Z : Dy tC kc ad D A s.heap σ H locs) (hl : lv_has ls 3 [(0, .ref (ad 5)), (1, .ref (adK w1))]) (h : f_X4_isWord w1 σ = some R) : W p l e r_X4_isWord s m args below meth c H locs 0 0 Q (F0 m 0 ls []) := by
  have hx := C.1.1
  have hb := C.1.2.1
  unfold f_X4_isWord at h
  refine lv_aload_n hx hb dX4_isWord_0 rfl (lv_at hl 0 rfl) ?_
  refine rg_X4_44 C Z dX4_isWord_1 ?_
  refine lv_bipush (v := (-2)) hx hb dX4_isWord_4 (by decide) ?_
  refine lv_icmp_ne (tgt := 25) hx hb dX4_isWord_6 (by decide) (fun c6 => ?_) (fun c6 => ?_)
  · have h := im h c6
    refine lv_iconst (v := 0) hx hb dX4_isWord_25 (by decide) ?_
    obtain rfl := Option.some.inj h
    exact hR _ _ _ _ _ Z dX4_isWord_26 rfl
  · have h := ip h c6
    refine lv_aload_n hx hb dX4_isWord_9 rfl (lv_at hl 0 rfl) ?_
    refine rg_X4_25 C Z dX4_isWord_10 ?_
    refine lv_aload_n hx hb dX4_isWord_13 rfl (lv_at hl 0 rfl) ?_
    refine rg_X4_50 C Z dX4_isWord_14 ?_
    refine lv_isub hx hb dX4_isWord_17 ?_
    refine lv_aload_n hx hb dX4_isWord_18 rfl (lv_at hl 1 rfl) ?_
    obtain ⟨v11, hv11, h⟩ := ob h
    refine g_callWi C Z hw1 (k_J0_length_8abf5 hw1 hv11) lk_X4_183 hl (by decide) rfl (Nat.le_of_ble_eq_true rfl) (rest := [.int ((gF σ 503) - (gF σ 505))]) rfl dX4_isWord_19 rfl (fun H locs Z => ?_)
    refine lv_icmp_eq (tgt := 27) hx hb dX4_isWord_22 (by decide) (fun c22 => ?_) (fun c22 => ?_)
    · have h := ip h c22
      refine lv_iconst (v := 0) hx hb dX4_isWord_27 (by decide) ?_
      refine lv_istore_n (lv' := [(2, .int 0), (0, .ref (ad 5)), (1, .ref (adK w1))]) hx hb dX4_isWord_28 rfl hl (by decide) rfl (fun ls hl => ?_)
      exact w_X4_isWord_29 C hR hw1 _ _ _ _ _ Z (lv_sub hl [1, 2, 0] rfl) h
    · have h := im h c22
      refine lv_iconst (v := 0) hx hb dX4_isWord_25 (by decide) ?_
      obtain rfl := Option.some.inj h
      exact hR _ _ _ _ _ Z dX4_isWord_26 rfl
theorem k_X4_isWord {l : Launch} {kc : Nat → ClassId} {ad : Nat → Nat} {D : va_G} {adK adV : Nat → Nat} {w1 : Nat} (hw1 : w1 < 24) {σ : St} {R : Int32} (h : f_X4_isWord w1 σ = some R) : KC (eC adK adV) tC kc ad D l yX4_isWord (.code yX4_isWord cX4_isWord 3 (some .boolean)) r_X4_isWord [.ref (ad 5), .ref (adK w1)] (some (.int R)) σ σ := by
  refine g_enter (by decide) (Nat.le_of_ble_eq_true rfl) ?_
  intro p e s m args below meth c A hA C hr hlocks Z ls hl
  have hl : lv_has ls 3 [(0, .ref (ad 5)), (1, .ref (adK w1))] := hl
  exact w_X4_isWord_0 C (g_RTi C.1.1 C.1.2.1 hr hlocks hA) hw1 Z hl h
def r_X4_fail : Room := { frames := 0, cells := 0, slots := 0, locals := 0 }
set_option maxRecDepth 20000 in
theorem w_X4_fail_0 {p : Program} {l : Launch} {e : Env} {s : State} {m : MethodId} {args : Array Value} {below : List Frame} {meth : Method} {c : Code} {Q : State → Prop} {D : va_G} {kc : Nat → ClassId} {ad : Nat → Nat} {A : Nat → Prop} {adK adV : Nat → Nat} (C : Cx (eC adK adV) p s m args c cX4_fail 2 RX4 D kc A) {R : St} {x1 : Int32} {σ : St} (hR : RTv 0 0 p l e r_X4_fail s m args below meth c cX4_fail tC kc ad D A Q R) {H : Heap} {locs : List Loc} {ls : Array Slot} (Z : Dy tC kc ad D A s.heap σ H locs) (hl : lv_has ls 2 [(0, .ref (ad 5)), (1, .int x1)]) (h : f_X4_fail x1 σ = some R) : W p l e r_X4_fail s m args below meth c H locs 0 0 Q (F0 m 0 ls []) := by
  have hx := C.1.1
  have hb := C.1.2.1
  unfold f_X4_fail at h
  refine lv_aload_n hx hb dX4_fail_0 rfl (lv_at hl 0 rfl) ?_
  refine rg_X4_31 C Z dX4_fail_1 ?_
  refine lv_if_ne (tgt := 22) hx hb dX4_fail_4 (by decide) (fun c4 => ?_) (fun c4 => ?_)
  · have h := im h c4
    obtain rfl := Option.some.inj h
    exact hR _ _ _ _ Z dX4_fail_22
  · have h := ip h c4
    refine lv_aload_n hx hb dX4_fail_7 rfl (lv_at hl 0 rfl) ?_
    refine lv_iconst (v := 1) hx hb dX4_fail_8 (by decide) ?_
    refine lv_bipush (v := 8) hx hb dX4_fail_9 (by decide) ?_
    refine lv_aload_n hx hb dX4_fail_11 rfl (lv_at hl 0 rfl) ?_
    refine rg_X4_50 C Z dX4_fail_12 ?_
    refine lv_imul hx hb dX4_fail_15 ?_
    refine lv_iadd hx hb dX4_fail_16 ?_
    refine lv_iload_n hx hb dX4_fail_17 rfl (lv_at hl 1 rfl) ?_
    refine lv_iadd hx hb dX4_fail_18 ?_
    obtain ⟨σ3, eσ3, h⟩ := lb h
    refine rp_X4_31 C Z eσ3 dX4_fail_19 (fun H locs Z => ?_)
    obtain rfl := Option.some.inj h
    exact hR _ _ _ _ Z dX4_fail_22
theorem k_X4_fail {l : Launch} {kc : Nat → ClassId} {ad : Nat → Nat} {D : va_G} {adK adV : Nat → Nat} {x1 : Int32} {σ : St} {R : St} (h : f_X4_fail x1 σ = some R) : KC (eC adK adV) tC kc ad D l yX4_fail (.code yX4_fail cX4_fail 2 none) r_X4_fail [.ref (ad 5), .int x1] none σ R := by
  refine g_enter (by decide) (Nat.le_of_ble_eq_true rfl) ?_
  intro p e s m args below meth c A hA C hr hlocks Z ls hl
  have hl : lv_has ls 2 [(0, .ref (ad 5)), (1, .int x1)] := hl
  exact w_X4_fail_0 C (g_RTv C.1.1 C.1.2.1 hr hlocks hA)  Z hl h
def r_X4_readStruck : Room := { frames := 3, cells := 0, slots := 0, locals := 63 }
set_option maxRecDepth 20000 in
theorem w_X4_readStruck_40 {p : Program} {l : Launch} {e : Env} {s : State} {m : MethodId} {args : Array Value} {below : List Frame} {meth : Method} {c : Code} {Q : State → Prop} {D : va_G} {kc : Nat → ClassId} {ad : Nat → Nat} {A : Nat → Prop} {adK adV : Nat → Nat} (C : Cx (eC adK adV) p s m args c cX4_readStruck 2 RX4 D kc A) {R : St} {σ : St} (hR : RTv 0 0 p l e r_X4_readStruck s m args below meth c cX4_readStruck tC kc ad D A Q R) {H : Heap} {locs : List Loc} {ls : Array Slot} (Z : Dy tC kc ad D A s.heap σ H locs) (hl : lv_has ls 2 [(0, .ref (ad 5))]) (h : f_X4_readStruck_40 σ = some R) : W p l e r_X4_readStruck s m args below meth c H locs 0 0 Q (F0 m 40 ls []) := by
  have hx := C.1.1
  have hb := C.1.2.1
  unfold f_X4_readStruck_40 at h
  refine lv_aload_n hx hb dX4_readStruck_40 rfl (lv_at hl 0 rfl) ?_
  refine lv_iconst (v := 1) hx hb dX4_readStruck_41 (by decide) ?_
  obtain ⟨σ15, hσ15, h⟩ := ob h
  refine g_callVv (eC_ok adK adV) C Z (k_X4_fail hσ15) lk_X4_47 (by decide) rfl rfl hl (by decide) rfl (Nat.le_of_ble_eq_true rfl) (rest := []) rfl dX4_readStruck_42 (fun H locs Z => ?_)
  refine lv_goto (tgt := 65) hx hb dX4_readStruck_45 (by decide) ?_
  obtain rfl := Option.some.inj h
  exact hR _ _ _ _ Z dX4_readStruck_65
set_option maxRecDepth 20000 in
theorem w_X4_readStruck_0 {p : Program} {l : Launch} {e : Env} {s : State} {m : MethodId} {args : Array Value} {below : List Frame} {meth : Method} {c : Code} {Q : State → Prop} {D : va_G} {kc : Nat → ClassId} {ad : Nat → Nat} {A : Nat → Prop} {adK adV : Nat → Nat} (C : Cx (eC adK adV) p s m args c cX4_readStruck 2 RX4 D kc A) {R : St} {x1 : Int32} {σ : St} (hR : RTv 0 0 p l e r_X4_readStruck s m args below meth c cX4_readStruck tC kc ad D A Q R) {H : Heap} {locs : List Loc} {ls : Array Slot} (Z : Dy tC kc ad D A s.heap σ H locs) (hl : lv_has ls 2 [(0, .ref (ad 5)), (1, .int x1)]) (h : f_X4_readStruck x1 σ = some R) : W p l e r_X4_readStruck s m args below meth c H locs 0 0 Q (F0 m 0 ls []) := by
  have hx := C.1.1
  have hb := C.1.2.1
  unfold f_X4_readStruck at h
  refine lv_aload_n hx hb dX4_readStruck_0 rfl (lv_at hl 0 rfl) ?_
  refine rg_X4_44 C Z dX4_readStruck_1 ?_
  refine lv_bipush (v := (-3)) hx hb dX4_readStruck_4 (by decide) ?_
  refine lv_icmp_eq (tgt := 17) hx hb dX4_readStruck_6 (by decide) (fun c6 => ?_) (fun c6 => ?_)
  · have h := ip h c6
    refine lv_aload_n hx hb dX4_readStruck_17 rfl (lv_at hl 0 rfl) ?_
    refine rg_X4_93 C Z dX4_readStruck_18 ?_
    refine lv_iconst (v := 5) hx hb dX4_readStruck_21 (by decide) ?_
    refine lv_icmp_gt (tgt := 40) hx hb dX4_readStruck_22 (by decide) (fun c22 => ?_) (fun c22 => ?_)
    · have h := ip h c22
      exact w_X4_readStruck_40 C hR Z (lv_sub hl [0] rfl) h
    · have h := im h c22
      refine lv_aload_n hx hb dX4_readStruck_25 rfl (lv_at hl 0 rfl) ?_
      refine rg_X4_17 C Z dX4_readStruck_26 ?_
      refine lv_aload_n hx hb dX4_readStruck_29 rfl (lv_at hl 0 rfl) ?_
      refine rg_X4_96 C Z dX4_readStruck_30 ?_
      refine lv_iload_n hx hb dX4_readStruck_33 rfl (lv_at hl 1 rfl) ?_
      obtain ⟨v11, hv11, h⟩ := ob h
      refine g_callVi (eC_ok adK adV) C Z (k_X2_isOf hv11) lk_X4_99 (by decide) rfl rfl hl (by decide) rfl (Nat.le_of_ble_eq_true rfl) (rest := []) rfl dX4_readStruck_34 (fun H locs Z => ?_)
      refine lv_if_ne (tgt := 48) hx hb dX4_readStruck_37 (by decide) (fun c37 => ?_) (fun c37 => ?_)
      · have h := im h c37
        refine lv_aload_n hx hb dX4_readStruck_48 rfl (lv_at hl 0 rfl) ?_
        refine rg_X4_17 C Z dX4_readStruck_49 ?_
        refine lv_bipush (v := 7) hx hb dX4_readStruck_52 (by decide) ?_
        refine lv_aload_n hx hb dX4_readStruck_54 rfl (lv_at hl 0 rfl) ?_
        refine rg_X4_96 C Z dX4_readStruck_55 ?_
        obtain ⟨σ12, hσ12, h⟩ := ob h
        refine g_callVv (eC_ok adK adV) C Z (k_X2_beginClause hσ12) lk_X4_77 (by decide) rfl rfl hl (by decide) rfl (Nat.le_of_ble_eq_true rfl) (rest := []) rfl dX4_readStruck_58 (fun H locs Z => ?_)
        refine lv_aload_n hx hb dX4_readStruck_61 rfl (lv_at hl 0 rfl) ?_
        obtain ⟨σ13, hσ13, h⟩ := ob h
        refine g_callVv (eC_ok adK adV) C Z (k_X4_advance hσ13) lk_X4_37 (by decide) rfl rfl hl (by decide) rfl (Nat.le_of_ble_eq_true rfl) (rest := []) rfl dX4_readStruck_62 (fun H locs Z => ?_)
        obtain rfl := Option.some.inj h
        exact hR _ _ _ _ Z dX4_readStruck_65
      · have h := ip h c37
        exact w_X4_readStruck_40 C hR Z (lv_sub hl [0] rfl) h
  · have h := im h c6
    refine lv_aload_n hx hb dX4_readStruck_9 rfl (lv_at hl 0 rfl) ?_
    refine lv_iconst (v := 0) hx hb dX4_readStruck_10 (by decide) ?_
    obtain ⟨σ14, hσ14, h⟩ := ob h
    refine g_callVv (eC_ok adK adV) C Z (k_X4_fail hσ14) lk_X4_47 (by decide) rfl rfl hl (by decide) rfl (Nat.le_of_ble_eq_true rfl) (rest := []) rfl dX4_readStruck_11 (fun H locs Z => ?_)
    refine lv_goto (tgt := 65) hx hb dX4_readStruck_14 (by decide) ?_
    obtain rfl := Option.some.inj h
    exact hR _ _ _ _ Z dX4_readStruck_65
theorem k_X4_readStruck {l : Launch} {kc : Nat → ClassId} {ad : Nat → Nat} {D : va_G} {adK adV : Nat → Nat} {x1 : Int32} {σ : St} {R : St} (h : f_X4_readStruck x1 σ = some R) : KC (eC adK adV) tC kc ad D l yX4_readStruck (.code yX4_readStruck cX4_readStruck 2 none) r_X4_readStruck [.ref (ad 5), .int x1] none σ R := by
  refine g_enter (by decide) (Nat.le_of_ble_eq_true rfl) ?_
  intro p e s m args below meth c A hA C hr hlocks Z ls hl
  have hl : lv_has ls 2 [(0, .ref (ad 5)), (1, .int x1)] := hl
  exact w_X4_readStruck_0 C (g_RTv C.1.1 C.1.2.1 hr hlocks hA)  Z hl h
