def r_X11_isDigit : Room := { frames := 0, cells := 0, slots := 0, locals := 0 }
set_option maxRecDepth 20000 in
theorem w_X11_isDigit_43 {p : Program} {l : Launch} {e : Env} {s : State} {m : MethodId} {args : Array Value} {below : List Frame} {meth : Method} {c : Code} {Q : State → Prop} {D : va_G} {kc : Nat → ClassId} {ad : Nat → Nat} {A : Nat → Prop} (C : Cx eM p s m args c cX11_isDigit 1 RX11 D kc A) {R : Int32} {σ : St} (hR : RTi 0 0 p l e r_X11_isDigit s m args below meth c cX11_isDigit tM kc ad D A Q .boolean R σ) {H : Heap} {locs : List Loc} {ls : Array Slot} (Z : Dy tM kc ad D A s.heap σ H locs) (hl : lv_has ls 1 []) (h : f_X11_isDigit_43 σ = some R) : W p l e r_X11_isDigit s m args below meth c H locs 0 0 Q (F0 m 43 ls []) := by
  have hx := C.1.1
  have hb := C.1.2.1
  unfold f_X11_isDigit_43 at h
  refine lv_iconst (v := 0) hx hb dX11_isDigit_43 (by decide) ?_
  obtain rfl := Option.some.inj h
  exact hR _ _ _ _ _ Z dX11_isDigit_44 rfl
set_option maxRecDepth 20000 in
theorem w_X11_isDigit_0 {p : Program} {l : Launch} {e : Env} {s : State} {m : MethodId} {args : Array Value} {below : List Frame} {meth : Method} {c : Code} {Q : State → Prop} {D : va_G} {kc : Nat → ClassId} {ad : Nat → Nat} {A : Nat → Prop} (C : Cx eM p s m args c cX11_isDigit 1 RX11 D kc A) {R : Int32} {σ : St} (hR : RTi 0 0 p l e r_X11_isDigit s m args below meth c cX11_isDigit tM kc ad D A Q .boolean R σ) {H : Heap} {locs : List Loc} {ls : Array Slot} (Z : Dy tM kc ad D A s.heap σ H locs) (hl : lv_has ls 1 [(0, .ref (ad 0))]) (h : f_X11_isDigit σ = some R) : W p l e r_X11_isDigit s m args below meth c H locs 0 0 Q (F0 m 0 ls []) := by
  have hx := C.1.1
  have hb := C.1.2.1
  unfold f_X11_isDigit at h
  refine lv_aload_n hx hb dX11_isDigit_0 rfl (lv_at hl 0 rfl) ?_
  refine rg_X11_326 C Z dX11_isDigit_1 ?_
  refine lv_aload_n hx hb dX11_isDigit_4 rfl (lv_at hl 0 rfl) ?_
  refine rg_X11_316 C Z dX11_isDigit_5 ?_
  refine lv_icmp_ge (tgt := 43) hx hb dX11_isDigit_8 (by decide) (fun c8 => ?_) (fun c8 => ?_)
  · have h := ip h c8
    exact w_X11_isDigit_43 C hR Z (lv_sub hl [] rfl) h
  · have h := im h c8
    refine lv_aload_n hx hb dX11_isDigit_11 rfl (lv_at hl 0 rfl) ?_
    refine rg_X11_61 C Z dX11_isDigit_12 ?_
    refine lv_aload_n hx hb dX11_isDigit_15 rfl (lv_at hl 0 rfl) ?_
    refine rg_X11_326 C Z dX11_isDigit_16 ?_
    obtain ⟨v5, hv5, h⟩ := ob h
    refine g_bald C Z iaM18 hv5 dX11_isDigit_19 ?_
    refine lv_bipush (v := 48) hx hb dX11_isDigit_20 (by decide) ?_
    refine lv_icmp_lt (tgt := 43) hx hb dX11_isDigit_22 (by decide) (fun c22 => ?_) (fun c22 => ?_)
    · have h := ip h c22
      exact w_X11_isDigit_43 C hR Z (lv_sub hl [] rfl) h
    · have h := im h c22
      refine lv_aload_n hx hb dX11_isDigit_25 rfl (lv_at hl 0 rfl) ?_
      refine rg_X11_61 C Z dX11_isDigit_26 ?_
      refine lv_aload_n hx hb dX11_isDigit_29 rfl (lv_at hl 0 rfl) ?_
      refine rg_X11_326 C Z dX11_isDigit_30 ?_
      obtain ⟨v6, hv6, h⟩ := ob h
      refine g_bald C Z iaM18 hv6 dX11_isDigit_33 ?_
      refine lv_bipush (v := 57) hx hb dX11_isDigit_34 (by decide) ?_
      refine lv_icmp_gt (tgt := 43) hx hb dX11_isDigit_36 (by decide) (fun c36 => ?_) (fun c36 => ?_)
      · have h := ip h c36
        exact w_X11_isDigit_43 C hR Z (lv_sub hl [] rfl) h
      · have h := im h c36
        refine lv_iconst (v := 1) hx hb dX11_isDigit_39 (by decide) ?_
        refine lv_goto (tgt := 44) hx hb dX11_isDigit_40 (by decide) ?_
        obtain rfl := Option.some.inj h
        exact hR _ _ _ _ _ Z dX11_isDigit_44 rfl
theorem k_X11_isDigit {l : Launch} {kc : Nat → ClassId} {ad : Nat → Nat} {D : va_G} {σ : St} {R : Int32} (h : f_X11_isDigit σ = some R) : KC eM tM kc ad D l yX11_isDigit (.code yX11_isDigit cX11_isDigit 1 (some .boolean)) r_X11_isDigit [.ref (ad 0)] (some (.int R)) σ σ := by
  refine g_enter (by decide) (Nat.le_of_ble_eq_true rfl) ?_
  intro p e s m args below meth c A hA C hr hlocks Z ls hl
  have hl : lv_has ls 1 [(0, .ref (ad 0))] := hl
  exact w_X11_isDigit_0 C (g_RTi C.1.1 C.1.2.1 hr hlocks hA)  Z hl h
def r_X11_number : Room := { frames := 1, cells := 0, slots := 0, locals := 22 }
set_option maxRecDepth 20000 in
theorem w_X11_number_64 {p : Program} {l : Launch} {e : Env} {s : State} {m : MethodId} {args : Array Value} {below : List Frame} {meth : Method} {c : Code} {Q : State → Prop} {D : va_G} {kc : Nat → ClassId} {ad : Nat → Nat} {A : Nat → Prop} (C : Cx eM p s m args c cX11_number 3 RX11 D kc A) {R : Int32 × St} {x1 : Int32} {x2 : Int32} {σ : St} (hR : RTi 0 0 p l e r_X11_number s m args below meth c cX11_number tM kc ad D A Q .boolean R.1 R.2) {k29 : Int32 → St → Option (Int32 × St)} (hk29 : ∀ (x2 : Int32) (σ : St) (H : Heap) (locs : List Loc) (ls : Array Slot), Dy tM kc ad D A s.heap σ H locs → lv_has ls 3 [(0, .ref (ad 0)), (1, .int x1), (2, .int x2)] → k29 x2 σ = some R → W p l e r_X11_number s m args below meth c H locs 0 0 Q (F0 m 29 ls [])) {H : Heap} {locs : List Loc} {ls : Array Slot} (Z : Dy tM kc ad D A s.heap σ H locs) (hl : lv_has ls 3 [(0, .ref (ad 0)), (1, .int x1), (2, .int x2)]) (h : f_X11_number_64 x1 x2 σ k29 = some R) : W p l e r_X11_number s m args below meth c H locs 0 0 Q (F0 m 64 ls []) := by
  have hx := C.1.1
  have hb := C.1.2.1
  unfold f_X11_number_64 at h
  refine lv_aload_n hx hb dX11_number_64 rfl (lv_at hl 0 rfl) ?_
  refine lv_dup hx hb dX11_number_65 rfl ?_
  refine rg_X11_326 C Z dX11_number_66 ?_
  refine lv_iconst (v := 1) hx hb dX11_number_69 (by decide) ?_
  refine lv_iadd hx hb dX11_number_70 ?_
  obtain ⟨σ28, eσ28, h⟩ := lb h
  refine rp_X11_326 C Z eσ28 dX11_number_71 (fun H locs Z => ?_)
  refine lv_goto (tgt := 29) hx hb dX11_number_74 (by decide) ?_
  exact hk29 _ _ _ _ _ Z (lv_sub hl [0, 1, 2] rfl) h
set_option maxRecDepth 20000 in
theorem w_X11_number_101 {p : Program} {l : Launch} {e : Env} {s : State} {m : MethodId} {args : Array Value} {below : List Frame} {meth : Method} {c : Code} {Q : State → Prop} {D : va_G} {kc : Nat → ClassId} {ad : Nat → Nat} {A : Nat → Prop} (C : Cx eM p s m args c cX11_number 3 RX11 D kc A) {R : Int32 × St} {σ : St} (hR : RTi 0 0 p l e r_X11_number s m args below meth c cX11_number tM kc ad D A Q .boolean R.1 R.2) {H : Heap} {locs : List Loc} {ls : Array Slot} (Z : Dy tM kc ad D A s.heap σ H locs) (hl : lv_has ls 3 []) (h : f_X11_number_101 σ = some R) : W p l e r_X11_number s m args below meth c H locs 0 0 Q (F0 m 101 ls []) := by
  have hx := C.1.1
  have hb := C.1.2.1
  unfold f_X11_number_101 at h
  refine lv_iconst (v := 1) hx hb dX11_number_101 (by decide) ?_
  refine lv_goto (tgt := 106) hx hb dX11_number_102 (by decide) ?_
  obtain rfl := Option.some.inj h
  exact hR _ _ _ _ _ Z dX11_number_106 rfl
set_option maxRecDepth 20000 in
theorem w_X11_number_77 {p : Program} {l : Launch} {e : Env} {s : State} {m : MethodId} {args : Array Value} {below : List Frame} {meth : Method} {c : Code} {Q : State → Prop} {D : va_G} {kc : Nat → ClassId} {ad : Nat → Nat} {A : Nat → Prop} (C : Cx eM p s m args c cX11_number 3 RX11 D kc A) {R : Int32 × St} {x1 : Int32} {x2 : Int32} {σ : St} (hR : RTi 0 0 p l e r_X11_number s m args below meth c cX11_number tM kc ad D A Q .boolean R.1 R.2) {H : Heap} {locs : List Loc} {ls : Array Slot} (Z : Dy tM kc ad D A s.heap σ H locs) (hl : lv_has ls 3 [(0, .ref (ad 0)), (1, .int x1), (2, .int x2)]) (h : f_X11_number_77 x1 x2 σ = some R) : W p l e r_X11_number s m args below meth c H locs 0 0 Q (F0 m 77 ls []) := by
  have hx := C.1.1
  have hb := C.1.2.1
  unfold f_X11_number_77 at h
  refine lv_aload_n hx hb dX11_number_77 rfl (lv_at hl 0 rfl) ?_
  refine lv_iload_n hx hb dX11_number_78 rfl (lv_at hl 2 rfl) ?_
  obtain ⟨σ29, eσ29, h⟩ := lb h
  refine rp_X11_340 C Z eσ29 dX11_number_79 (fun H locs Z => ?_)
  refine lv_aload_n hx hb dX11_number_82 rfl (lv_at hl 0 rfl) ?_
  refine rg_X11_326 C Z dX11_number_83 ?_
  refine lv_iload_n hx hb dX11_number_86 rfl (lv_at hl 1 rfl) ?_
  refine lv_isub hx hb dX11_number_87 ?_
  refine lv_iconst (v := 5) hx hb dX11_number_88 (by decide) ?_
  refine lv_icmp_le (tgt := 101) hx hb dX11_number_89 (by decide) (fun c89 => ?_) (fun c89 => ?_)
  · have h := ip h c89
    exact w_X11_number_101 C hR Z (lv_sub hl [] rfl) h
  · have h := im h c89
    refine lv_aload_n hx hb dX11_number_92 rfl (lv_at hl 0 rfl) ?_
    refine lv_iconst (v := 1) hx hb dX11_number_93 (by decide) ?_
    refine lv_iload_n hx hb dX11_number_94 rfl (lv_at hl 1 rfl) ?_
    obtain ⟨u30, hu30, h⟩ := ob h
    refine g_callVi eM_ok C Z (k_X11_fails hu30) lk_X11_337 (by decide) rfl rfl hl (by decide) rfl (Nat.le_of_ble_eq_true rfl) (rest := []) rfl dX11_number_95 (fun H locs Z => ?_)
    refine lv_if_eq (tgt := 105) hx hb dX11_number_98 (by decide) (fun c98 => ?_) (fun c98 => ?_)
    · have h := ip h c98
      refine lv_iconst (v := 0) hx hb dX11_number_105 (by decide) ?_
      obtain rfl := Option.some.inj h
      exact hR _ _ _ _ _ Z dX11_number_106 rfl
    · have h := im h c98
      exact w_X11_number_101 C hR Z (lv_sub hl [] rfl) h
set_option maxRecDepth 20000 in
theorem w_X11_number_29 {p : Program} {l : Launch} {e : Env} {s : State} {m : MethodId} {args : Array Value} {below : List Frame} {meth : Method} {c : Code} {Q : State → Prop} {D : va_G} {kc : Nat → ClassId} {ad : Nat → Nat} {A : Nat → Prop} (C : Cx eM p s m args c cX11_number 3 RX11 D kc A) {R : Int32 × St} {x1 : Int32} (hR : RTi 0 0 p l e r_X11_number s m args below meth c cX11_number tM kc ad D A Q .boolean R.1 R.2) : ∀ (n : Nat) (x2 : Int32) (σ : St) (H : Heap) (locs : List Loc) (ls : Array Slot), Dy tM kc ad D A s.heap σ H locs → lv_has ls 3 [(0, .ref (ad 0)), (1, .int x1), (2, .int x2)] → f_X11_number_29 x1 n x2 σ = some R → W p l e r_X11_number s m args below meth c H locs 0 0 Q (F0 m 29 ls []) := by
  have hx := C.1.1
  have hb := C.1.2.1
  intro n
  induction n with
  | zero =>
    intro x2 σ H locs ls Z hl h
    exact absurd (show none = some R from h) (by simp)
  | succ n ih =>
    intro x2 σ H locs ls Z hl h
    rw [f_X11_number_29] at h
    refine lv_aload_n hx hb dX11_number_29 rfl (lv_at hl 0 rfl) ?_
    obtain ⟨v25, hv25, h⟩ := ob h
    refine g_callVi eM_ok C Z (k_X11_isDigit hv25) lk_X11_333 (by decide) rfl rfl hl (by decide) rfl (Nat.le_of_ble_eq_true rfl) (rest := []) rfl dX11_number_30 (fun H locs Z => ?_)
    refine lv_if_eq (tgt := 77) hx hb dX11_number_33 (by decide) (fun c33 => ?_) (fun c33 => ?_)
    · have h := ip h c33
      exact w_X11_number_77 C hR Z (lv_sub hl [0, 1, 2] rfl) h
    · have h := im h c33
      refine lv_aload_n hx hb dX11_number_36 rfl (lv_at hl 0 rfl) ?_
      refine rg_X11_326 C Z dX11_number_37 ?_
      refine lv_iload_n hx hb dX11_number_40 rfl (lv_at hl 1 rfl) ?_
      refine lv_isub hx hb dX11_number_41 ?_
      refine lv_iconst (v := 5) hx hb dX11_number_42 (by decide) ?_
      refine lv_icmp_ge (tgt := 64) hx hb dX11_number_43 (by decide) (fun c43 => ?_) (fun c43 => ?_)
      · have h := ip h c43
        exact w_X11_number_64 C hR ih Z (lv_sub hl [0, 1, 2] rfl) h
      · have h := im h c43
        refine lv_bipush (v := 10) hx hb dX11_number_46 (by decide) ?_
        refine lv_iload_n hx hb dX11_number_48 rfl (lv_at hl 2 rfl) ?_
        refine lv_imul hx hb dX11_number_49 ?_
        refine lv_aload_n hx hb dX11_number_50 rfl (lv_at hl 0 rfl) ?_
        refine rg_X11_61 C Z dX11_number_51 ?_
        refine lv_aload_n hx hb dX11_number_54 rfl (lv_at hl 0 rfl) ?_
        refine rg_X11_326 C Z dX11_number_55 ?_
        obtain ⟨v26, hv26, h⟩ := ob h
        refine g_bald C Z iaM18 hv26 dX11_number_58 ?_
        refine lv_iadd hx hb dX11_number_59 ?_
        refine lv_bipush (v := 48) hx hb dX11_number_60 (by decide) ?_
        refine lv_isub hx hb dX11_number_62 ?_
        obtain ⟨v27, ev27, h⟩ := lb h
        refine tn_i ev27 ?_
        refine lv_istore_n (lv' := [(2, .int v27), (0, .ref (ad 0)), (1, .int x1)]) hx hb dX11_number_63 rfl hl (by decide) rfl (fun ls hl => ?_)
        exact w_X11_number_64 C hR ih Z (lv_sub hl [1, 2, 0] rfl) h
set_option maxRecDepth 20000 in
theorem w_X11_number_0 {p : Program} {l : Launch} {e : Env} {s : State} {m : MethodId} {args : Array Value} {below : List Frame} {meth : Method} {c : Code} {Q : State → Prop} {D : va_G} {kc : Nat → ClassId} {ad : Nat → Nat} {A : Nat → Prop} (C : Cx eM p s m args c cX11_number 3 RX11 D kc A) {R : Int32 × St} {σ : St} (hR : RTi 0 0 p l e r_X11_number s m args below meth c cX11_number tM kc ad D A Q .boolean R.1 R.2) {H : Heap} {locs : List Loc} {ls : Array Slot} (Z : Dy tM kc ad D A s.heap σ H locs) (hl : lv_has ls 3 [(0, .ref (ad 0))]) (h : f_X11_number σ = some R) : W p l e r_X11_number s m args below meth c H locs 0 0 Q (F0 m 0 ls []) := by
  have hx := C.1.1
  have hb := C.1.2.1
  unfold f_X11_number at h
  refine lv_aload_n hx hb dX11_number_0 rfl (lv_at hl 0 rfl) ?_
  obtain ⟨u21, hu21, h⟩ := ob h
  refine g_callVi eM_ok C Z (k_X11_see hu21) lk_X11_329 (by decide) rfl rfl hl (by decide) rfl (Nat.le_of_ble_eq_true rfl) (rest := []) rfl dX11_number_1 (fun H locs Z => ?_)
  refine lv_pop hx hb dX11_number_4 rfl ?_
  refine lv_aload_n hx hb dX11_number_5 rfl (lv_at hl 0 rfl) ?_
  obtain ⟨v22, hv22, h⟩ := ob h
  refine g_callVi eM_ok C Z (k_X11_isDigit hv22) lk_X11_333 (by decide) rfl rfl hl (by decide) rfl (Nat.le_of_ble_eq_true rfl) (rest := []) rfl dX11_number_6 (fun H locs Z => ?_)
  refine lv_if_ne (tgt := 22) hx hb dX11_number_9 (by decide) (fun c9 => ?_) (fun c9 => ?_)
  · have h := im h c9
    refine lv_aload_n hx hb dX11_number_22 rfl (lv_at hl 0 rfl) ?_
    refine rg_X11_326 C Z dX11_number_23 ?_
    obtain ⟨v23, ev23, h⟩ := lb h
    refine tn_i ev23 ?_
    refine lv_istore_n (lv' := [(1, .int v23), (0, .ref (ad 0))]) hx hb dX11_number_26 rfl hl (by decide) rfl (fun ls hl => ?_)
    refine lv_iconst (v := 0) hx hb dX11_number_27 (by decide) ?_
    refine lv_istore_n (lv' := [(2, .int 0), (1, .int v23), (0, .ref (ad 0))]) hx hb dX11_number_28 rfl hl (by decide) rfl (fun ls hl => ?_)
    exact w_X11_number_29 C hR _ _ _ _ _ _ Z (lv_sub hl [2, 1, 0] rfl) h
  · have h := ip h c9
    refine lv_aload_n hx hb dX11_number_12 rfl (lv_at hl 0 rfl) ?_
    refine lv_iconst (v := 0) hx hb dX11_number_13 (by decide) ?_
    refine lv_aload_n hx hb dX11_number_14 rfl (lv_at hl 0 rfl) ?_
    refine rg_X11_326 C Z dX11_number_15 ?_
    obtain ⟨u24, hu24, h⟩ := ob h
    refine g_callVi eM_ok C Z (k_X11_fails hu24) lk_X11_337 (by decide) rfl rfl hl (by decide) rfl (Nat.le_of_ble_eq_true rfl) (rest := []) rfl dX11_number_18 (fun H locs Z => ?_)
    obtain rfl := Option.some.inj h
    exact hR _ _ _ _ _ Z dX11_number_21 (nar_b _)
theorem k_X11_number {l : Launch} {kc : Nat → ClassId} {ad : Nat → Nat} {D : va_G} {σ : St} {R : Int32 × St} (h : f_X11_number σ = some R) : KC eM tM kc ad D l yX11_number (.code yX11_number cX11_number 3 (some .boolean)) r_X11_number [.ref (ad 0)] (some (.int R.1)) σ R.2 := by
  refine g_enter (by decide) (Nat.le_of_ble_eq_true rfl) ?_
  intro p e s m args below meth c A hA C hr hlocks Z ls hl
  have hl : lv_has ls 3 [(0, .ref (ad 0))] := hl
  exact w_X11_number_0 C (g_RTi C.1.1 C.1.2.1 hr hlocks hA)  Z hl h
def r_X11_isWord : Room := { frames := 1, cells := 0, slots := 0, locals := 20 }
set_option maxRecDepth 20000 in
theorem w_X11_isWord_84 {p : Program} {l : Launch} {e : Env} {s : State} {m : MethodId} {args : Array Value} {below : List Frame} {meth : Method} {c : Code} {Q : State → Prop} {D : va_G} {kc : Nat → ClassId} {ad : Nat → Nat} {A : Nat → Prop} (C : Cx eM p s m args c cX11_isWord 6 RX11 D kc A) {R : Int32 × St} {x1 : Int64} {x3 : Int64} {x5 : Int32} {σ : St} (hR : RTi 0 0 p l e r_X11_isWord s m args below meth c cX11_isWord tM kc ad D A Q .boolean R.1 R.2) {k10 : Int64 → Int32 → Option (Int32 × St)} (hk10 : ∀ (x3 : Int64) (x5 : Int32) (H : Heap) (locs : List Loc) (ls : Array Slot), Dy tM kc ad D A s.heap σ H locs → lv_has ls 6 [(0, .ref (ad 0)), (1, .long x1), (3, .long x3), (5, .int x5)] → k10 x3 x5 = some R → W p l e r_X11_isWord s m args below meth c H locs 0 0 Q (F0 m 10 ls [])) {H : Heap} {locs : List Loc} {ls : Array Slot} (Z : Dy tM kc ad D A s.heap σ H locs) (hl : lv_has ls 6 [(0, .ref (ad 0)), (1, .long x1), (3, .long x3), (5, .int x5)]) (h : f_X11_isWord_84 x1 x3 x5 σ k10 = some R) : W p l e r_X11_isWord s m args below meth c H locs 0 0 Q (F0 m 84 ls []) := by
  have hx := C.1.1
  have hb := C.1.2.1
  unfold f_X11_isWord_84 at h
  obtain ⟨v18, ev18, h⟩ := lb h
  refine lv_iinc (v := v18) (lv' := [(5, .int v18), (0, .ref (ad 0)), (1, .long x1), (3, .long x3)]) hx hb dX11_isWord_84 hl (k := 3) rfl (by rw [ev18]; rfl) (by decide) rfl (fun ls hl => ?_)
  refine lv_goto (tgt := 10) hx hb dX11_isWord_87 (by decide) ?_
  exact hk10 _ _ _ _ _ Z (lv_sub hl [1, 2, 3, 0] rfl) h
set_option maxRecDepth 20000 in
theorem w_X11_isWord_112 {p : Program} {l : Launch} {e : Env} {s : State} {m : MethodId} {args : Array Value} {below : List Frame} {meth : Method} {c : Code} {Q : State → Prop} {D : va_G} {kc : Nat → ClassId} {ad : Nat → Nat} {A : Nat → Prop} (C : Cx eM p s m args c cX11_isWord 6 RX11 D kc A) {R : Int32 × St} {σ : St} (hR : RTi 0 0 p l e r_X11_isWord s m args below meth c cX11_isWord tM kc ad D A Q .boolean R.1 R.2) {H : Heap} {locs : List Loc} {ls : Array Slot} (Z : Dy tM kc ad D A s.heap σ H locs) (hl : lv_has ls 6 []) (h : f_X11_isWord_112 σ = some R) : W p l e r_X11_isWord s m args below meth c H locs 0 0 Q (F0 m 112 ls []) := by
  have hx := C.1.1
  have hb := C.1.2.1
  unfold f_X11_isWord_112 at h
  refine lv_iconst (v := 0) hx hb dX11_isWord_112 (by decide) ?_
  obtain rfl := Option.some.inj h
  exact hR _ _ _ _ _ Z dX11_isWord_113 rfl
set_option maxRecDepth 20000 in
theorem w_X11_isWord_90 {p : Program} {l : Launch} {e : Env} {s : State} {m : MethodId} {args : Array Value} {below : List Frame} {meth : Method} {c : Code} {Q : State → Prop} {D : va_G} {kc : Nat → ClassId} {ad : Nat → Nat} {A : Nat → Prop} (C : Cx eM p s m args c cX11_isWord 6 RX11 D kc A) {R : Int32 × St} {x1 : Int64} {x3 : Int64} {x5 : Int32} {σ : St} (hR : RTi 0 0 p l e r_X11_isWord s m args below meth c cX11_isWord tM kc ad D A Q .boolean R.1 R.2) {H : Heap} {locs : List Loc} {ls : Array Slot} (Z : Dy tM kc ad D A s.heap σ H locs) (hl : lv_has ls 6 [(1, .long x1), (3, .long x3), (5, .int x5)]) (h : f_X11_isWord_90 x1 x3 x5 σ = some R) : W p l e r_X11_isWord s m args below meth c H locs 0 0 Q (F0 m 90 ls []) := by
  have hx := C.1.1
  have hb := C.1.2.1
  unfold f_X11_isWord_90 at h
  refine lv_iload hx hb dX11_isWord_90 (lv_at hl 2 rfl) ?_
  refine lv_if_le (tgt := 112) hx hb dX11_isWord_92 (by decide) (fun c92 => ?_) (fun c92 => ?_)
  · have h := ip h c92
    exact w_X11_isWord_112 C hR Z (lv_sub hl [] rfl) h
  · have h := im h c92
    refine lv_iload hx hb dX11_isWord_95 (lv_at hl 2 rfl) ?_
    refine lv_bipush (v := 8) hx hb dX11_isWord_97 (by decide) ?_
    refine lv_icmp_ge (tgt := 112) hx hb dX11_isWord_99 (by decide) (fun c99 => ?_) (fun c99 => ?_)
    · have h := ip h c99
      exact w_X11_isWord_112 C hR Z (lv_sub hl [] rfl) h
    · have h := im h c99
      refine lv_lload_n hx hb dX11_isWord_102 rfl (lv_at hl 1 rfl) ?_
      refine lv_lload_n hx hb dX11_isWord_103 rfl (lv_at hl 0 rfl) ?_
      refine g_lne (tgt := 112) hx hb dX11_isWord_104 dX11_isWord_105 (by decide) (fun c105 => ?_) (fun c105 => ?_)
      · have h := im h c105
        exact w_X11_isWord_112 C hR Z (lv_sub hl [] rfl) h
      · have h := ip h c105
        refine lv_iconst (v := 1) hx hb dX11_isWord_108 (by decide) ?_
        refine lv_goto (tgt := 113) hx hb dX11_isWord_109 (by decide) ?_
        obtain rfl := Option.some.inj h
        exact hR _ _ _ _ _ Z dX11_isWord_113 rfl
set_option maxRecDepth 20000 in
theorem w_X11_isWord_10 {p : Program} {l : Launch} {e : Env} {s : State} {m : MethodId} {args : Array Value} {below : List Frame} {meth : Method} {c : Code} {Q : State → Prop} {D : va_G} {kc : Nat → ClassId} {ad : Nat → Nat} {A : Nat → Prop} (C : Cx eM p s m args c cX11_isWord 6 RX11 D kc A) {R : Int32 × St} {x1 : Int64} {σ : St} (hR : RTi 0 0 p l e r_X11_isWord s m args below meth c cX11_isWord tM kc ad D A Q .boolean R.1 R.2) : ∀ (n : Nat) (x3 : Int64) (x5 : Int32) (H : Heap) (locs : List Loc) (ls : Array Slot), Dy tM kc ad D A s.heap σ H locs → lv_has ls 6 [(0, .ref (ad 0)), (1, .long x1), (3, .long x3), (5, .int x5)] → f_X11_isWord_10 x1 σ n x3 x5 = some R → W p l e r_X11_isWord s m args below meth c H locs 0 0 Q (F0 m 10 ls []) := by
  have hx := C.1.1
  have hb := C.1.2.1
  intro n
  induction n with
  | zero =>
    intro x3 x5 H locs ls Z hl h
    exact absurd (show none = some R from h) (by simp)
  | succ n ih =>
    intro x3 x5 H locs ls Z hl h
    rw [f_X11_isWord_10] at h
    refine lv_aload_n hx hb dX11_isWord_10 rfl (lv_at hl 0 rfl) ?_
    refine rg_X11_326 C Z dX11_isWord_11 ?_
    refine lv_iload hx hb dX11_isWord_14 (lv_at hl 3 rfl) ?_
    refine lv_iadd hx hb dX11_isWord_16 ?_
    refine lv_aload_n hx hb dX11_isWord_17 rfl (lv_at hl 0 rfl) ?_
    refine rg_X11_316 C Z dX11_isWord_18 ?_
    refine lv_icmp_ge (tgt := 90) hx hb dX11_isWord_21 (by decide) (fun c21 => ?_) (fun c21 => ?_)
    · have h := ip h c21
      exact w_X11_isWord_90 C hR Z (lv_sub hl [1, 2, 3] rfl) h
    · have h := im h c21
      refine lv_aload_n hx hb dX11_isWord_24 rfl (lv_at hl 0 rfl) ?_
      refine rg_X11_61 C Z dX11_isWord_25 ?_
      refine lv_aload_n hx hb dX11_isWord_28 rfl (lv_at hl 0 rfl) ?_
      refine rg_X11_326 C Z dX11_isWord_29 ?_
      refine lv_iload hx hb dX11_isWord_32 (lv_at hl 3 rfl) ?_
      refine lv_iadd hx hb dX11_isWord_34 ?_
      obtain ⟨v14, hv14, h⟩ := ob h
      refine g_bald C Z iaM18 hv14 dX11_isWord_35 ?_
      refine lv_bipush (v := 97) hx hb dX11_isWord_36 (by decide) ?_
      refine lv_icmp_lt (tgt := 90) hx hb dX11_isWord_38 (by decide) (fun c38 => ?_) (fun c38 => ?_)
      · have h := ip h c38
        exact w_X11_isWord_90 C hR Z (lv_sub hl [1, 2, 3] rfl) h
      · have h := im h c38
        refine lv_aload_n hx hb dX11_isWord_41 rfl (lv_at hl 0 rfl) ?_
        refine rg_X11_61 C Z dX11_isWord_42 ?_
        refine lv_aload_n hx hb dX11_isWord_45 rfl (lv_at hl 0 rfl) ?_
        refine rg_X11_326 C Z dX11_isWord_46 ?_
        refine lv_iload hx hb dX11_isWord_49 (lv_at hl 3 rfl) ?_
        refine lv_iadd hx hb dX11_isWord_51 ?_
        obtain ⟨v15, hv15, h⟩ := ob h
        refine g_bald C Z iaM18 hv15 dX11_isWord_52 ?_
        refine lv_bipush (v := 122) hx hb dX11_isWord_53 (by decide) ?_
        refine lv_icmp_gt (tgt := 90) hx hb dX11_isWord_55 (by decide) (fun c55 => ?_) (fun c55 => ?_)
        · have h := ip h c55
          exact w_X11_isWord_90 C hR Z (lv_sub hl [1, 2, 3] rfl) h
        · have h := im h c55
          refine lv_iload hx hb dX11_isWord_58 (lv_at hl 3 rfl) ?_
          refine lv_bipush (v := 7) hx hb dX11_isWord_60 (by decide) ?_
          refine lv_icmp_ge (tgt := 84) hx hb dX11_isWord_62 (by decide) (fun c62 => ?_) (fun c62 => ?_)
          · have h := ip h c62
            exact w_X11_isWord_84 C hR ih Z (lv_sub hl [0, 1, 2, 3] rfl) h
          · have h := im h c62
            refine lv_lload_n hx hb dX11_isWord_65 rfl (lv_at hl 2 rfl) ?_
            refine lv_bipush (v := 8) hx hb dX11_isWord_66 (by decide) ?_
            refine lv_lshl (v := lshl_ x3 8) hx hb dX11_isWord_68 rfl ?_
            refine lv_aload_n hx hb dX11_isWord_69 rfl (lv_at hl 0 rfl) ?_
            refine rg_X11_61 C Z dX11_isWord_70 ?_
            refine lv_aload_n hx hb dX11_isWord_73 rfl (lv_at hl 0 rfl) ?_
            refine rg_X11_326 C Z dX11_isWord_74 ?_
            refine lv_iload hx hb dX11_isWord_77 (lv_at hl 3 rfl) ?_
            refine lv_iadd hx hb dX11_isWord_79 ?_
            obtain ⟨v16, hv16, h⟩ := ob h
            refine g_bald C Z iaM18 hv16 dX11_isWord_80 ?_
            refine lv_i2l (v := v16.toInt64) hx hb dX11_isWord_81 rfl ?_
            refine lv_lor hx hb dX11_isWord_82 ?_
            obtain ⟨v17, ev17, h⟩ := lb h
            refine tn_l ev17 ?_
            refine lv_lstore_n (lv' := [(3, .long v17), (0, .ref (ad 0)), (1, .long x1), (5, .int x5)]) hx hb dX11_isWord_83 rfl hl (by decide) rfl (fun ls hl => ?_)
            exact w_X11_isWord_84 C hR ih Z (lv_sub hl [1, 2, 0, 3] rfl) h
set_option maxRecDepth 20000 in
theorem w_X11_isWord_0 {p : Program} {l : Launch} {e : Env} {s : State} {m : MethodId} {args : Array Value} {below : List Frame} {meth : Method} {c : Code} {Q : State → Prop} {D : va_G} {kc : Nat → ClassId} {ad : Nat → Nat} {A : Nat → Prop} (C : Cx eM p s m args c cX11_isWord 6 RX11 D kc A) {R : Int32 × St} {x1 : Int64} {σ : St} (hR : RTi 0 0 p l e r_X11_isWord s m args below meth c cX11_isWord tM kc ad D A Q .boolean R.1 R.2) {H : Heap} {locs : List Loc} {ls : Array Slot} (Z : Dy tM kc ad D A s.heap σ H locs) (hl : lv_has ls 6 [(0, .ref (ad 0)), (1, .long x1)]) (h : f_X11_isWord x1 σ = some R) : W p l e r_X11_isWord s m args below meth c H locs 0 0 Q (F0 m 0 ls []) := by
  have hx := C.1.1
  have hb := C.1.2.1
  unfold f_X11_isWord at h
  refine lv_aload_n hx hb dX11_isWord_0 rfl (lv_at hl 0 rfl) ?_
  obtain ⟨u13, hu13, h⟩ := ob h
  refine g_callVi eM_ok C Z (k_X11_see hu13) lk_X11_329 (by decide) rfl rfl hl (by decide) rfl (Nat.le_of_ble_eq_true rfl) (rest := []) rfl dX11_isWord_1 (fun H locs Z => ?_)
  refine lv_pop hx hb dX11_isWord_4 rfl ?_
  refine lv_lconst (v := 0) hx hb dX11_isWord_5 (by decide) ?_
  refine lv_lstore_n (lv' := [(3, .long 0), (0, .ref (ad 0)), (1, .long x1)]) hx hb dX11_isWord_6 rfl hl (by decide) rfl (fun ls hl => ?_)
  refine lv_iconst (v := 0) hx hb dX11_isWord_7 (by decide) ?_
  refine lv_istore (lv' := [(5, .int 0), (3, .long 0), (0, .ref (ad 0)), (1, .long x1)]) hx hb dX11_isWord_8 hl (by decide) rfl (fun ls hl => ?_)
  exact w_X11_isWord_10 C hR _ _ _ _ _ _ Z (lv_sub hl [2, 3, 1, 0] rfl) h
theorem k_X11_isWord {l : Launch} {kc : Nat → ClassId} {ad : Nat → Nat} {D : va_G} {x1 : Int64} {σ : St} {R : Int32 × St} (h : f_X11_isWord x1 σ = some R) : KC eM tM kc ad D l yX11_isWord (.code yX11_isWord cX11_isWord 6 (some .boolean)) r_X11_isWord [.ref (ad 0), .long x1] (some (.int R.1)) σ R.2 := by
  refine g_enter (by decide) (Nat.le_of_ble_eq_true rfl) ?_
  intro p e s m args below meth c A hA C hr hlocks Z ls hl
  have hl : lv_has ls 6 [(0, .ref (ad 0)), (1, .long x1)] := hl
  exact w_X11_isWord_0 C (g_RTi C.1.1 C.1.2.1 hr hlocks hA)  Z hl h
def r_X11_skips : Room := { frames := 0, cells := 0, slots := 0, locals := 0 }
set_option maxRecDepth 20000 in
theorem w_X11_skips_0 {p : Program} {l : Launch} {e : Env} {s : State} {m : MethodId} {args : Array Value} {below : List Frame} {meth : Method} {c : Code} {Q : State → Prop} {D : va_G} {kc : Nat → ClassId} {ad : Nat → Nat} {A : Nat → Prop} (C : Cx eM p s m args c cX11_skips 1 RX11 D kc A) {R : St} (hR : RTv 0 0 p l e r_X11_skips s m args below meth c cX11_skips tM kc ad D A Q R) : ∀ (n : Nat) (σ : St) (H : Heap) (locs : List Loc) (ls : Array Slot), Dy tM kc ad D A s.heap σ H locs → lv_has ls 1 [(0, .ref (ad 0))] → f_X11_skips_0 n σ = some R → W p l e r_X11_skips s m args below meth c H locs 0 0 Q (F0 m 0 ls []) := by
  have hx := C.1.1
  have hb := C.1.2.1
  intro n
  induction n with
  | zero =>
    intro σ H locs ls Z hl h
    exact absurd (show none = some R from h) (by simp)
  | succ n ih =>
    intro σ H locs ls Z hl h
    rw [f_X11_skips_0] at h
    refine lv_aload_n hx hb dX11_skips_0 rfl (lv_at hl 0 rfl) ?_
    refine rg_X11_326 C Z dX11_skips_1 ?_
    refine lv_aload_n hx hb dX11_skips_4 rfl (lv_at hl 0 rfl) ?_
    refine rg_X11_316 C Z dX11_skips_5 ?_
    refine lv_icmp_ge (tgt := 52) hx hb dX11_skips_8 (by decide) (fun c8 => ?_) (fun c8 => ?_)
    · have h := ip h c8
      obtain rfl := Option.some.inj h
      exact hR _ _ _ _ Z dX11_skips_52
    · have h := im h c8
      refine lv_aload_n hx hb dX11_skips_11 rfl (lv_at hl 0 rfl) ?_
      refine rg_X11_61 C Z dX11_skips_12 ?_
      refine lv_aload_n hx hb dX11_skips_15 rfl (lv_at hl 0 rfl) ?_
      refine rg_X11_326 C Z dX11_skips_16 ?_
      obtain ⟨v7, hv7, h⟩ := ob h
      refine g_bald C Z iaM18 hv7 dX11_skips_19 ?_
      refine lv_bipush (v := 97) hx hb dX11_skips_20 (by decide) ?_
      refine lv_icmp_lt (tgt := 52) hx hb dX11_skips_22 (by decide) (fun c22 => ?_) (fun c22 => ?_)
      · have h := ip h c22
        obtain rfl := Option.some.inj h
        exact hR _ _ _ _ Z dX11_skips_52
      · have h := im h c22
        refine lv_aload_n hx hb dX11_skips_25 rfl (lv_at hl 0 rfl) ?_
        refine rg_X11_61 C Z dX11_skips_26 ?_
        refine lv_aload_n hx hb dX11_skips_29 rfl (lv_at hl 0 rfl) ?_
        refine rg_X11_326 C Z dX11_skips_30 ?_
        obtain ⟨v8, hv8, h⟩ := ob h
        refine g_bald C Z iaM18 hv8 dX11_skips_33 ?_
        refine lv_bipush (v := 122) hx hb dX11_skips_34 (by decide) ?_
        refine lv_icmp_gt (tgt := 52) hx hb dX11_skips_36 (by decide) (fun c36 => ?_) (fun c36 => ?_)
        · have h := ip h c36
          obtain rfl := Option.some.inj h
          exact hR _ _ _ _ Z dX11_skips_52
        · have h := im h c36
          refine lv_aload_n hx hb dX11_skips_39 rfl (lv_at hl 0 rfl) ?_
          refine lv_dup hx hb dX11_skips_40 rfl ?_
          refine rg_X11_326 C Z dX11_skips_41 ?_
          refine lv_iconst (v := 1) hx hb dX11_skips_44 (by decide) ?_
          refine lv_iadd hx hb dX11_skips_45 ?_
          obtain ⟨σ9, eσ9, h⟩ := lb h
          refine rp_X11_326 C Z eσ9 dX11_skips_46 (fun H locs Z => ?_)
          refine lv_goto (tgt := 0) hx hb dX11_skips_49 (by decide) ?_
          exact ih _ _ _ _ Z (lv_sub hl [0] rfl) h
theorem k_X11_skips {l : Launch} {kc : Nat → ClassId} {ad : Nat → Nat} {D : va_G} {σ : St} {R : St} (h : f_X11_skips σ = some R) : KC eM tM kc ad D l yX11_skips (.code yX11_skips cX11_skips 1 none) r_X11_skips [.ref (ad 0)] none σ R := by
  refine g_enter (by decide) (Nat.le_of_ble_eq_true rfl) ?_
  intro p e s m args below meth c A hA C hr hlocks Z ls hl
  have hl : lv_has ls 1 [(0, .ref (ad 0))] := hl
  exact w_X11_skips_0 C (g_RTv C.1.1 C.1.2.1 hr hlocks hA)  _ _ _ _ _ Z (lv_sub hl [0] rfl) h
def r_X11_takesWord : Room := { frames := 2, cells := 0, slots := 0, locals := 45 }
set_option maxRecDepth 20000 in
theorem w_X11_takesWord_0 {p : Program} {l : Launch} {e : Env} {s : State} {m : MethodId} {args : Array Value} {below : List Frame} {meth : Method} {c : Code} {Q : State → Prop} {D : va_G} {kc : Nat → ClassId} {ad : Nat → Nat} {A : Nat → Prop} (C : Cx eM p s m args c cX11_takesWord 3 RX11 D kc A) {R : Int32 × St} {x1 : Int64} {σ : St} (hR : RTi 0 0 p l e r_X11_takesWord s m args below meth c cX11_takesWord tM kc ad D A Q .boolean R.1 R.2) {H : Heap} {locs : List Loc} {ls : Array Slot} (Z : Dy tM kc ad D A s.heap σ H locs) (hl : lv_has ls 3 [(0, .ref (ad 0)), (1, .long x1)]) (h : f_X11_takesWord x1 σ = some R) : W p l e r_X11_takesWord s m args below meth c H locs 0 0 Q (F0 m 0 ls []) := by
  have hx := C.1.1
  have hb := C.1.2.1
  unfold f_X11_takesWord at h
  refine lv_aload_n hx hb dX11_takesWord_0 rfl (lv_at hl 0 rfl) ?_
  refine lv_lload_n hx hb dX11_takesWord_1 rfl (lv_at hl 1 rfl) ?_
  obtain ⟨u5, hu5, h⟩ := ob h
  refine g_callVi eM_ok C Z (k_X11_isWord hu5) lk_X11_343 (by decide) rfl rfl hl (by decide) rfl (Nat.le_of_ble_eq_true rfl) (rest := []) rfl dX11_takesWord_2 (fun H locs Z => ?_)
  refine lv_if_ne (tgt := 10) hx hb dX11_takesWord_5 (by decide) (fun c5 => ?_) (fun c5 => ?_)
  · have h := im h c5
    refine lv_aload_n hx hb dX11_takesWord_10 rfl (lv_at hl 0 rfl) ?_
    obtain ⟨σ6, hσ6, h⟩ := ob h
    refine g_callVv eM_ok C Z (k_X11_skips hσ6) lk_X11_347 (by decide) rfl rfl hl (by decide) rfl (Nat.le_of_ble_eq_true rfl) (rest := []) rfl dX11_takesWord_11 (fun H locs Z => ?_)
    refine lv_iconst (v := 1) hx hb dX11_takesWord_14 (by decide) ?_
    obtain rfl := Option.some.inj h
    exact hR _ _ _ _ _ Z dX11_takesWord_15 rfl
  · have h := ip h c5
    refine lv_iconst (v := 0) hx hb dX11_takesWord_8 (by decide) ?_
    obtain rfl := Option.some.inj h
    exact hR _ _ _ _ _ Z dX11_takesWord_9 rfl
theorem k_X11_takesWord {l : Launch} {kc : Nat → ClassId} {ad : Nat → Nat} {D : va_G} {x1 : Int64} {σ : St} {R : Int32 × St} (h : f_X11_takesWord x1 σ = some R) : KC eM tM kc ad D l yX11_takesWord (.code yX11_takesWord cX11_takesWord 3 (some .boolean)) r_X11_takesWord [.ref (ad 0), .long x1] (some (.int R.1)) σ R.2 := by
  refine g_enter (by decide) (Nat.le_of_ble_eq_true rfl) ?_
  intro p e s m args below meth c A hA C hr hlocks Z ls hl
  have hl : lv_has ls 3 [(0, .ref (ad 0)), (1, .long x1)] := hl
  exact w_X11_takesWord_0 C (g_RTi C.1.1 C.1.2.1 hr hlocks hA)  Z hl h
def r_X11_lays : Room := { frames := 0, cells := 0, slots := 0, locals := 0 }
set_option maxRecDepth 20000 in
theorem w_X11_lays_0 {p : Program} {l : Launch} {e : Env} {s : State} {m : MethodId} {args : Array Value} {below : List Frame} {meth : Method} {c : Code} {Q : State → Prop} {D : va_G} {kc : Nat → ClassId} {ad : Nat → Nat} {A : Nat → Prop} (C : Cx eM p s m args c cX11_lays 3 RX11 D kc A) {R : St} {x1 : Int32} {x2 : Int32} {σ : St} (hR : RTv 0 0 p l e r_X11_lays s m args below meth c cX11_lays tM kc ad D A Q R) {H : Heap} {locs : List Loc} {ls : Array Slot} (Z : Dy tM kc ad D A s.heap σ H locs) (hl : lv_has ls 3 [(0, .ref (ad 0)), (1, .int x1), (2, .int x2)]) (h : f_X11_lays x1 x2 σ = some R) : W p l e r_X11_lays s m args below meth c H locs 0 0 Q (F0 m 0 ls []) := by
  have hx := C.1.1
  have hb := C.1.2.1
  unfold f_X11_lays at h
  refine lv_aload_n hx hb dX11_lays_0 rfl (lv_at hl 0 rfl) ?_
  refine rg_X11_92 C Z dX11_lays_1 ?_
  refine lv_sipush (v := 420) hx hb dX11_lays_4 (by decide) ?_
  refine lv_aload_n hx hb dX11_lays_7 rfl (lv_at hl 0 rfl) ?_
  refine rg_X11_350 C Z dX11_lays_8 ?_
  refine lv_imul hx hb dX11_lays_11 ?_
  refine lv_aload_n hx hb dX11_lays_12 rfl (lv_at hl 0 rfl) ?_
  refine rg_X11_353 C Z dX11_lays_13 ?_
  refine lv_iadd hx hb dX11_lays_16 ?_
  refine lv_iload_n hx hb dX11_lays_17 rfl (lv_at hl 1 rfl) ?_
  obtain ⟨σ4, hσ4, h⟩ := ob h
  refine g_iast C Z iaM28 hσ4 dX11_lays_18 (fun H locs Z => ?_)
  refine lv_aload_n hx hb dX11_lays_19 rfl (lv_at hl 0 rfl) ?_
  refine rg_X11_95 C Z dX11_lays_20 ?_
  refine lv_sipush (v := 420) hx hb dX11_lays_23 (by decide) ?_
  refine lv_aload_n hx hb dX11_lays_26 rfl (lv_at hl 0 rfl) ?_
  refine rg_X11_350 C Z dX11_lays_27 ?_
  refine lv_imul hx hb dX11_lays_30 ?_
  refine lv_aload_n hx hb dX11_lays_31 rfl (lv_at hl 0 rfl) ?_
  refine rg_X11_353 C Z dX11_lays_32 ?_
  refine lv_iadd hx hb dX11_lays_35 ?_
  refine lv_iload_n hx hb dX11_lays_36 rfl (lv_at hl 2 rfl) ?_
  obtain ⟨σ5, hσ5, h⟩ := ob h
  refine g_iast C Z iaM29 hσ5 dX11_lays_37 (fun H locs Z => ?_)
  refine lv_aload_n hx hb dX11_lays_38 rfl (lv_at hl 0 rfl) ?_
  refine lv_dup hx hb dX11_lays_39 rfl ?_
  refine rg_X11_353 C Z dX11_lays_40 ?_
  refine lv_iconst (v := 1) hx hb dX11_lays_43 (by decide) ?_
  refine lv_iadd hx hb dX11_lays_44 ?_
  obtain ⟨σ6, eσ6, h⟩ := lb h
  refine rp_X11_353 C Z eσ6 dX11_lays_45 (fun H locs Z => ?_)
  obtain rfl := Option.some.inj h
  exact hR _ _ _ _ Z dX11_lays_48
theorem k_X11_lays {l : Launch} {kc : Nat → ClassId} {ad : Nat → Nat} {D : va_G} {x1 : Int32} {x2 : Int32} {σ : St} {R : St} (h : f_X11_lays x1 x2 σ = some R) : KC eM tM kc ad D l yX11_lays (.code yX11_lays cX11_lays 3 none) r_X11_lays [.ref (ad 0), .int x1, .int x2] none σ R := by
  refine g_enter (by decide) (Nat.le_of_ble_eq_true rfl) ?_
  intro p e s m args below meth c A hA C hr hlocks Z ls hl
  have hl : lv_has ls 3 [(0, .ref (ad 0)), (1, .int x1), (2, .int x2)] := hl
  exact w_X11_lays_0 C (g_RTv C.1.1 C.1.2.1 hr hlocks hA)  Z hl h
def r_X11_waits : Room := { frames := 0, cells := 0, slots := 0, locals := 0 }
set_option maxRecDepth 20000 in
theorem w_X11_waits_0 {p : Program} {l : Launch} {e : Env} {s : State} {m : MethodId} {args : Array Value} {below : List Frame} {meth : Method} {c : Code} {Q : State → Prop} {D : va_G} {kc : Nat → ClassId} {ad : Nat → Nat} {A : Nat → Prop} (C : Cx eM p s m args c cX11_waits 2 RX11 D kc A) {R : St} {x1 : Int32} {σ : St} (hR : RTv 0 0 p l e r_X11_waits s m args below meth c cX11_waits tM kc ad D A Q R) {H : Heap} {locs : List Loc} {ls : Array Slot} (Z : Dy tM kc ad D A s.heap σ H locs) (hl : lv_has ls 2 [(0, .ref (ad 0)), (1, .int x1)]) (h : f_X11_waits x1 σ = some R) : W p l e r_X11_waits s m args below meth c H locs 0 0 Q (F0 m 0 ls []) := by
  have hx := C.1.1
  have hb := C.1.2.1
  unfold f_X11_waits at h
  refine lv_aload_n hx hb dX11_waits_0 rfl (lv_at hl 0 rfl) ?_
  refine rg_X11_98 C Z dX11_waits_1 ?_
  refine lv_aload_n hx hb dX11_waits_4 rfl (lv_at hl 0 rfl) ?_
  refine rg_X11_356 C Z dX11_waits_5 ?_
  refine lv_iload_n hx hb dX11_waits_8 rfl (lv_at hl 1 rfl) ?_
  obtain ⟨σ3, hσ3, h⟩ := ob h
  refine g_iast C Z iaM30 hσ3 dX11_waits_9 (fun H locs Z => ?_)
  refine lv_aload_n hx hb dX11_waits_10 rfl (lv_at hl 0 rfl) ?_
  refine lv_dup hx hb dX11_waits_11 rfl ?_
  refine rg_X11_356 C Z dX11_waits_12 ?_
  refine lv_iconst (v := 1) hx hb dX11_waits_15 (by decide) ?_
  refine lv_iadd hx hb dX11_waits_16 ?_
  obtain ⟨σ4, eσ4, h⟩ := lb h
  refine rp_X11_356 C Z eσ4 dX11_waits_17 (fun H locs Z => ?_)
  obtain rfl := Option.some.inj h
  exact hR _ _ _ _ Z dX11_waits_20
theorem k_X11_waits {l : Launch} {kc : Nat → ClassId} {ad : Nat → Nat} {D : va_G} {x1 : Int32} {σ : St} {R : St} (h : f_X11_waits x1 σ = some R) : KC eM tM kc ad D l yX11_waits (.code yX11_waits cX11_waits 2 none) r_X11_waits [.ref (ad 0), .int x1] none σ R := by
  refine g_enter (by decide) (Nat.le_of_ble_eq_true rfl) ?_
  intro p e s m args below meth c A hA C hr hlocks Z ls hl
  have hl : lv_has ls 2 [(0, .ref (ad 0)), (1, .int x1)] := hl
  exact w_X11_waits_0 C (g_RTv C.1.1 C.1.2.1 hr hlocks hA)  Z hl h
def r_X11_pops : Room := { frames := 1, cells := 0, slots := 0, locals := 22 }
set_option maxRecDepth 20000 in
theorem w_X11_pops_0 {p : Program} {l : Launch} {e : Env} {s : State} {m : MethodId} {args : Array Value} {below : List Frame} {meth : Method} {c : Code} {Q : State → Prop} {D : va_G} {kc : Nat → ClassId} {ad : Nat → Nat} {A : Nat → Prop} (C : Cx eM p s m args c cX11_pops 1 RX11 D kc A) {R : St} {σ : St} (hR : RTv 0 0 p l e r_X11_pops s m args below meth c cX11_pops tM kc ad D A Q R) {H : Heap} {locs : List Loc} {ls : Array Slot} (Z : Dy tM kc ad D A s.heap σ H locs) (hl : lv_has ls 1 [(0, .ref (ad 0))]) (h : f_X11_pops σ = some R) : W p l e r_X11_pops s m args below meth c H locs 0 0 Q (F0 m 0 ls []) := by
  have hx := C.1.1
  have hb := C.1.2.1
  unfold f_X11_pops at h
  refine lv_aload_n hx hb dX11_pops_0 rfl (lv_at hl 0 rfl) ?_
  refine lv_dup hx hb dX11_pops_1 rfl ?_
  refine rg_X11_356 C Z dX11_pops_2 ?_
  refine lv_iconst (v := 1) hx hb dX11_pops_5 (by decide) ?_
  refine lv_isub hx hb dX11_pops_6 ?_
  obtain ⟨σ4, eσ4, h⟩ := lb h
  refine rp_X11_356 C Z eσ4 dX11_pops_7 (fun H locs Z => ?_)
  refine lv_aload_n hx hb dX11_pops_10 rfl (lv_at hl 0 rfl) ?_
  refine lv_aload_n hx hb dX11_pops_11 rfl (lv_at hl 0 rfl) ?_
  refine rg_X11_98 C Z dX11_pops_12 ?_
  refine lv_aload_n hx hb dX11_pops_15 rfl (lv_at hl 0 rfl) ?_
  refine rg_X11_356 C Z dX11_pops_16 ?_
  obtain ⟨v5, hv5, h⟩ := ob h
  refine g_iald C Z iaM30 hv5 dX11_pops_19 ?_
  refine lv_iconst (v := 0) hx hb dX11_pops_20 (by decide) ?_
  obtain ⟨σ6, hσ6, h⟩ := ob h
  refine g_callVv eM_ok C Z (k_X11_lays hσ6) lk_X11_359 (by decide) rfl rfl hl (by decide) rfl (Nat.le_of_ble_eq_true rfl) (rest := []) rfl dX11_pops_21 (fun H locs Z => ?_)
  obtain rfl := Option.some.inj h
  exact hR _ _ _ _ Z dX11_pops_24
theorem k_X11_pops {l : Launch} {kc : Nat → ClassId} {ad : Nat → Nat} {D : va_G} {σ : St} {R : St} (h : f_X11_pops σ = some R) : KC eM tM kc ad D l yX11_pops (.code yX11_pops cX11_pops 1 none) r_X11_pops [.ref (ad 0)] none σ R := by
  refine g_enter (by decide) (Nat.le_of_ble_eq_true rfl) ?_
  intro p e s m args below meth c A hA C hr hlocks Z ls hl
  have hl : lv_has ls 1 [(0, .ref (ad 0))] := hl
  exact w_X11_pops_0 C (g_RTv C.1.1 C.1.2.1 hr hlocks hA)  Z hl h
def r_X11_opens : Room := { frames := 1, cells := 0, slots := 0, locals := 22 }
set_option maxRecDepth 20000 in
theorem w_X11_opens_0 {p : Program} {l : Launch} {e : Env} {s : State} {m : MethodId} {args : Array Value} {below : List Frame} {meth : Method} {c : Code} {Q : State → Prop} {D : va_G} {kc : Nat → ClassId} {ad : Nat → Nat} {A : Nat → Prop} (C : Cx eM p s m args c cX11_opens 2 RX11 D kc A) {R : Int32 × St} {x1 : Int32} {σ : St} (hR : RTi 0 0 p l e r_X11_opens s m args below meth c cX11_opens tM kc ad D A Q .boolean R.1 R.2) {H : Heap} {locs : List Loc} {ls : Array Slot} (Z : Dy tM kc ad D A s.heap σ H locs) (hl : lv_has ls 2 [(0, .ref (ad 0)), (1, .int x1)]) (h : f_X11_opens x1 σ = some R) : W p l e r_X11_opens s m args below meth c H locs 0 0 Q (F0 m 0 ls []) := by
  have hx := C.1.1
  have hb := C.1.2.1
  unfold f_X11_opens at h
  refine lv_aload_n hx hb dX11_opens_0 rfl (lv_at hl 0 rfl) ?_
  refine rg_X11_363 C Z dX11_opens_1 ?_
  refine lv_bipush (v := 10) hx hb dX11_opens_4 (by decide) ?_
  refine lv_icmp_ne (tgt := 16) hx hb dX11_opens_6 (by decide) (fun c6 => ?_) (fun c6 => ?_)
  · have h := im h c6
    refine lv_aload_n hx hb dX11_opens_16 rfl (lv_at hl 0 rfl) ?_
    refine lv_dup hx hb dX11_opens_17 rfl ?_
    refine rg_X11_363 C Z dX11_opens_18 ?_
    refine lv_iconst (v := 1) hx hb dX11_opens_21 (by decide) ?_
    refine lv_iadd hx hb dX11_opens_22 ?_
    obtain ⟨σ5, eσ5, h⟩ := lb h
    refine rp_X11_363 C Z eσ5 dX11_opens_23 (fun H locs Z => ?_)
    refine lv_iconst (v := 1) hx hb dX11_opens_26 (by decide) ?_
    obtain rfl := Option.some.inj h
    exact hR _ _ _ _ _ Z dX11_opens_27 rfl
  · have h := ip h c6
    refine lv_aload_n hx hb dX11_opens_9 rfl (lv_at hl 0 rfl) ?_
    refine lv_iconst (v := 2) hx hb dX11_opens_10 (by decide) ?_
    refine lv_iload_n hx hb dX11_opens_11 rfl (lv_at hl 1 rfl) ?_
    obtain ⟨u6, hu6, h⟩ := ob h
    refine g_callVi eM_ok C Z (k_X11_fails hu6) lk_X11_337 (by decide) rfl rfl hl (by decide) rfl (Nat.le_of_ble_eq_true rfl) (rest := []) rfl dX11_opens_12 (fun H locs Z => ?_)
    obtain rfl := Option.some.inj h
    exact hR _ _ _ _ _ Z dX11_opens_15 (nar_b _)
theorem k_X11_opens {l : Launch} {kc : Nat → ClassId} {ad : Nat → Nat} {D : va_G} {x1 : Int32} {σ : St} {R : Int32 × St} (h : f_X11_opens x1 σ = some R) : KC eM tM kc ad D l yX11_opens (.code yX11_opens cX11_opens 2 (some .boolean)) r_X11_opens [.ref (ad 0), .int x1] (some (.int R.1)) σ R.2 := by
  refine g_enter (by decide) (Nat.le_of_ble_eq_true rfl) ?_
  intro p e s m args below meth c A hA C hr hlocks Z ls hl
  have hl : lv_has ls 2 [(0, .ref (ad 0)), (1, .int x1)] := hl
  exact w_X11_opens_0 C (g_RTi C.1.1 C.1.2.1 hr hlocks hA)  Z hl h
def r_X11_makes : Room := { frames := 1, cells := 0, slots := 0, locals := 22 }
set_option maxRecDepth 20000 in
theorem w_X11_makes_0 {p : Program} {l : Launch} {e : Env} {s : State} {m : MethodId} {args : Array Value} {below : List Frame} {meth : Method} {c : Code} {Q : State → Prop} {D : va_G} {kc : Nat → ClassId} {ad : Nat → Nat} {A : Nat → Prop} (C : Cx eM p s m args c cX11_makes 2 RX11 D kc A) {R : Int32 × St} {x1 : Int32} {σ : St} (hR : RTi 0 0 p l e r_X11_makes s m args below meth c cX11_makes tM kc ad D A Q .boolean R.1 R.2) {H : Heap} {locs : List Loc} {ls : Array Slot} (Z : Dy tM kc ad D A s.heap σ H locs) (hl : lv_has ls 2 [(0, .ref (ad 0)), (1, .int x1)]) (h : f_X11_makes x1 σ = some R) : W p l e r_X11_makes s m args below meth c H locs 0 0 Q (F0 m 0 ls []) := by
  have hx := C.1.1
  have hb := C.1.2.1
  unfold f_X11_makes at h
  refine lv_aload_n hx hb dX11_makes_0 rfl (lv_at hl 0 rfl) ?_
  refine rg_X11_366 C Z dX11_makes_1 ?_
  refine lv_bipush (v := 80) hx hb dX11_makes_4 (by decide) ?_
  refine lv_icmp_ne (tgt := 16) hx hb dX11_makes_6 (by decide) (fun c6 => ?_) (fun c6 => ?_)
  · have h := im h c6
    refine lv_aload_n hx hb dX11_makes_16 rfl (lv_at hl 0 rfl) ?_
    refine lv_dup hx hb dX11_makes_17 rfl ?_
    refine rg_X11_366 C Z dX11_makes_18 ?_
    refine lv_iconst (v := 1) hx hb dX11_makes_21 (by decide) ?_
    refine lv_iadd hx hb dX11_makes_22 ?_
    obtain ⟨σ5, eσ5, h⟩ := lb h
    refine rp_X11_366 C Z eσ5 dX11_makes_23 (fun H locs Z => ?_)
    refine lv_iconst (v := 1) hx hb dX11_makes_26 (by decide) ?_
    obtain rfl := Option.some.inj h
    exact hR _ _ _ _ _ Z dX11_makes_27 rfl
  · have h := ip h c6
    refine lv_aload_n hx hb dX11_makes_9 rfl (lv_at hl 0 rfl) ?_
    refine lv_iconst (v := 3) hx hb dX11_makes_10 (by decide) ?_
    refine lv_iload_n hx hb dX11_makes_11 rfl (lv_at hl 1 rfl) ?_
    obtain ⟨u6, hu6, h⟩ := ob h
    refine g_callVi eM_ok C Z (k_X11_fails hu6) lk_X11_337 (by decide) rfl rfl hl (by decide) rfl (Nat.le_of_ble_eq_true rfl) (rest := []) rfl dX11_makes_12 (fun H locs Z => ?_)
    obtain rfl := Option.some.inj h
    exact hR _ _ _ _ _ Z dX11_makes_15 (nar_b _)
theorem k_X11_makes {l : Launch} {kc : Nat → ClassId} {ad : Nat → Nat} {D : va_G} {x1 : Int32} {σ : St} {R : Int32 × St} (h : f_X11_makes x1 σ = some R) : KC eM tM kc ad D l yX11_makes (.code yX11_makes cX11_makes 2 (some .boolean)) r_X11_makes [.ref (ad 0), .int x1] (some (.int R.1)) σ R.2 := by
  refine g_enter (by decide) (Nat.le_of_ble_eq_true rfl) ?_
  intro p e s m args below meth c A hA C hr hlocks Z ls hl
  have hl : lv_has ls 2 [(0, .ref (ad 0)), (1, .int x1)] := hl
  exact w_X11_makes_0 C (g_RTi C.1.1 C.1.2.1 hr hlocks hA)  Z hl h
def r_X11_isTop : Room := { frames := 0, cells := 0, slots := 0, locals := 0 }
set_option maxRecDepth 20000 in
theorem w_X11_isTop_27 {p : Program} {l : Launch} {e : Env} {s : State} {m : MethodId} {args : Array Value} {below : List Frame} {meth : Method} {c : Code} {Q : State → Prop} {D : va_G} {kc : Nat → ClassId} {ad : Nat → Nat} {A : Nat → Prop} (C : Cx eM p s m args c cX11_isTop 3 RX11 D kc A) {R : Int32} {σ : St} (hR : RTi 0 0 p l e r_X11_isTop s m args below meth c cX11_isTop tM kc ad D A Q .boolean R σ) {H : Heap} {locs : List Loc} {ls : Array Slot} (Z : Dy tM kc ad D A s.heap σ H locs) (hl : lv_has ls 3 []) (h : f_X11_isTop_27 σ = some R) : W p l e r_X11_isTop s m args below meth c H locs 0 0 Q (F0 m 27 ls []) := by
  have hx := C.1.1
  have hb := C.1.2.1
  unfold f_X11_isTop_27 at h
  refine lv_iconst (v := 0) hx hb dX11_isTop_27 (by decide) ?_
  obtain rfl := Option.some.inj h
  exact hR _ _ _ _ _ Z dX11_isTop_28 rfl
set_option maxRecDepth 20000 in
theorem w_X11_isTop_0 {p : Program} {l : Launch} {e : Env} {s : State} {m : MethodId} {args : Array Value} {below : List Frame} {meth : Method} {c : Code} {Q : State → Prop} {D : va_G} {kc : Nat → ClassId} {ad : Nat → Nat} {A : Nat → Prop} (C : Cx eM p s m args c cX11_isTop 3 RX11 D kc A) {R : Int32} {x1 : Int32} {x2 : Int32} {σ : St} (hR : RTi 0 0 p l e r_X11_isTop s m args below meth c cX11_isTop tM kc ad D A Q .boolean R σ) {H : Heap} {locs : List Loc} {ls : Array Slot} (Z : Dy tM kc ad D A s.heap σ H locs) (hl : lv_has ls 3 [(0, .ref (ad 0)), (1, .int x1), (2, .int x2)]) (h : f_X11_isTop x1 x2 σ = some R) : W p l e r_X11_isTop s m args below meth c H locs 0 0 Q (F0 m 0 ls []) := by
  have hx := C.1.1
  have hb := C.1.2.1
  unfold f_X11_isTop at h
  refine lv_aload_n hx hb dX11_isTop_0 rfl (lv_at hl 0 rfl) ?_
  refine rg_X11_356 C Z dX11_isTop_1 ?_
  refine lv_iload_n hx hb dX11_isTop_4 rfl (lv_at hl 1 rfl) ?_
  refine lv_icmp_le (tgt := 27) hx hb dX11_isTop_5 (by decide) (fun c5 => ?_) (fun c5 => ?_)
  · have h := ip h c5
    exact w_X11_isTop_27 C hR Z (lv_sub hl [] rfl) h
  · have h := im h c5
    refine lv_aload_n hx hb dX11_isTop_8 rfl (lv_at hl 0 rfl) ?_
    refine rg_X11_98 C Z dX11_isTop_9 ?_
    refine lv_aload_n hx hb dX11_isTop_12 rfl (lv_at hl 0 rfl) ?_
    refine rg_X11_356 C Z dX11_isTop_13 ?_
    refine lv_iconst (v := 1) hx hb dX11_isTop_16 (by decide) ?_
    refine lv_isub hx hb dX11_isTop_17 ?_
    obtain ⟨v3, hv3, h⟩ := ob h
    refine g_iald C Z iaM30 hv3 dX11_isTop_18 ?_
    refine lv_iload_n hx hb dX11_isTop_19 rfl (lv_at hl 2 rfl) ?_
    refine lv_icmp_ne (tgt := 27) hx hb dX11_isTop_20 (by decide) (fun c20 => ?_) (fun c20 => ?_)
    · have h := im h c20
      exact w_X11_isTop_27 C hR Z (lv_sub hl [] rfl) h
    · have h := ip h c20
      refine lv_iconst (v := 1) hx hb dX11_isTop_23 (by decide) ?_
      refine lv_goto (tgt := 28) hx hb dX11_isTop_24 (by decide) ?_
      obtain rfl := Option.some.inj h
      exact hR _ _ _ _ _ Z dX11_isTop_28 rfl
theorem k_X11_isTop {l : Launch} {kc : Nat → ClassId} {ad : Nat → Nat} {D : va_G} {x1 : Int32} {x2 : Int32} {σ : St} {R : Int32} (h : f_X11_isTop x1 x2 σ = some R) : KC eM tM kc ad D l yX11_isTop (.code yX11_isTop cX11_isTop 3 (some .boolean)) r_X11_isTop [.ref (ad 0), .int x1, .int x2] (some (.int R)) σ σ := by
  refine g_enter (by decide) (Nat.le_of_ble_eq_true rfl) ?_
  intro p e s m args below meth c A hA C hr hlocks Z ls hl
  have hl : lv_has ls 3 [(0, .ref (ad 0)), (1, .int x1), (2, .int x2)] := hl
  exact w_X11_isTop_0 C (g_RTi C.1.1 C.1.2.1 hr hlocks hA)  Z hl h
def r_X11_has : Room := { frames := 0, cells := 0, slots := 0, locals := 0 }
set_option maxRecDepth 20000 in
theorem w_X11_has_2 {p : Program} {l : Launch} {e : Env} {s : State} {m : MethodId} {args : Array Value} {below : List Frame} {meth : Method} {c : Code} {Q : State → Prop} {D : va_G} {kc : Nat → ClassId} {ad : Nat → Nat} {A : Nat → Prop} (C : Cx eM p s m args c cX11_has 4 RX11 D kc A) {R : Int32} {x2 : Int32} {σ : St} (hR : RTi 0 0 p l e r_X11_has s m args below meth c cX11_has tM kc ad D A Q .boolean R σ) : ∀ (n : Nat) (x3 : Int32) (H : Heap) (locs : List Loc) (ls : Array Slot), Dy tM kc ad D A s.heap σ H locs → lv_has ls 4 [(0, .ref (ad 0)), (2, .int x2), (3, .int x3)] → f_X11_has_2 x2 σ n x3 = some R → W p l e r_X11_has s m args below meth c H locs 0 0 Q (F0 m 2 ls []) := by
  have hx := C.1.1
  have hb := C.1.2.1
  intro n
  induction n with
  | zero =>
    intro x3 H locs ls Z hl h
    exact absurd (show none = some R from h) (by simp)
  | succ n ih =>
    intro x3 H locs ls Z hl h
    rw [f_X11_has_2] at h
    refine lv_iload_n hx hb dX11_has_2 rfl (lv_at hl 2 rfl) ?_
    refine lv_aload_n hx hb dX11_has_3 rfl (lv_at hl 0 rfl) ?_
    refine rg_X11_356 C Z dX11_has_4 ?_
    refine lv_icmp_ge (tgt := 28) hx hb dX11_has_7 (by decide) (fun c7 => ?_) (fun c7 => ?_)
    · have h := ip h c7
      refine lv_iconst (v := 0) hx hb dX11_has_28 (by decide) ?_
      obtain rfl := Option.some.inj h
      exact hR _ _ _ _ _ Z dX11_has_29 rfl
    · have h := im h c7
      refine lv_aload_n hx hb dX11_has_10 rfl (lv_at hl 0 rfl) ?_
      refine rg_X11_98 C Z dX11_has_11 ?_
      refine lv_iload_n hx hb dX11_has_14 rfl (lv_at hl 2 rfl) ?_
      obtain ⟨v5, hv5, h⟩ := ob h
      refine g_iald C Z iaM30 hv5 dX11_has_15 ?_
      refine lv_iload_n hx hb dX11_has_16 rfl (lv_at hl 1 rfl) ?_
      refine lv_icmp_ne (tgt := 22) hx hb dX11_has_17 (by decide) (fun c17 => ?_) (fun c17 => ?_)
      · have h := im h c17
        obtain ⟨v6, ev6, h⟩ := lb h
        refine lv_iinc (v := v6) (lv' := [(3, .int v6), (0, .ref (ad 0)), (2, .int x2)]) hx hb dX11_has_22 hl (k := 2) rfl (by rw [ev6]; rfl) (by decide) rfl (fun ls hl => ?_)
        refine lv_goto (tgt := 2) hx hb dX11_has_25 (by decide) ?_
        exact ih _ _ _ _ Z (lv_sub hl [1, 2, 0] rfl) h
      · have h := ip h c17
        refine lv_iconst (v := 1) hx hb dX11_has_20 (by decide) ?_
        obtain rfl := Option.some.inj h
        exact hR _ _ _ _ _ Z dX11_has_21 rfl
set_option maxRecDepth 20000 in
theorem w_X11_has_0 {p : Program} {l : Launch} {e : Env} {s : State} {m : MethodId} {args : Array Value} {below : List Frame} {meth : Method} {c : Code} {Q : State → Prop} {D : va_G} {kc : Nat → ClassId} {ad : Nat → Nat} {A : Nat → Prop} (C : Cx eM p s m args c cX11_has 4 RX11 D kc A) {R : Int32} {x1 : Int32} {x2 : Int32} {σ : St} (hR : RTi 0 0 p l e r_X11_has s m args below meth c cX11_has tM kc ad D A Q .boolean R σ) {H : Heap} {locs : List Loc} {ls : Array Slot} (Z : Dy tM kc ad D A s.heap σ H locs) (hl : lv_has ls 4 [(0, .ref (ad 0)), (1, .int x1), (2, .int x2)]) (h : f_X11_has x1 x2 σ = some R) : W p l e r_X11_has s m args below meth c H locs 0 0 Q (F0 m 0 ls []) := by
  have hx := C.1.1
  have hb := C.1.2.1
  unfold f_X11_has at h
  refine lv_iload_n hx hb dX11_has_0 rfl (lv_at hl 1 rfl) ?_
  refine lv_istore_n (lv' := [(3, .int x1), (0, .ref (ad 0)), (1, .int x1), (2, .int x2)]) hx hb dX11_has_1 rfl hl (by decide) rfl (fun ls hl => ?_)
  exact w_X11_has_2 C hR _ _ _ _ _ Z (lv_sub hl [1, 3, 0] rfl) h
theorem k_X11_has {l : Launch} {kc : Nat → ClassId} {ad : Nat → Nat} {D : va_G} {x1 : Int32} {x2 : Int32} {σ : St} {R : Int32} (h : f_X11_has x1 x2 σ = some R) : KC eM tM kc ad D l yX11_has (.code yX11_has cX11_has 4 (some .boolean)) r_X11_has [.ref (ad 0), .int x1, .int x2] (some (.int R)) σ σ := by
  refine g_enter (by decide) (Nat.le_of_ble_eq_true rfl) ?_
  intro p e s m args below meth c A hA C hr hlocks Z ls hl
  have hl : lv_has ls 4 [(0, .ref (ad 0)), (1, .int x1), (2, .int x2)] := hl
  exact w_X11_has_0 C (g_RTi C.1.1 C.1.2.1 hr hlocks hA)  Z hl h
def r_X11_begins : Room := { frames := 2, cells := 0, slots := 0, locals := 45 }
set_option maxRecDepth 20000 in
theorem w_X11_begins_111 {p : Program} {l : Launch} {e : Env} {s : State} {m : MethodId} {args : Array Value} {below : List Frame} {meth : Method} {c : Code} {Q : State → Prop} {D : va_G} {kc : Nat → ClassId} {ad : Nat → Nat} {A : Nat → Prop} (C : Cx eM p s m args c cX11_begins 4 RX11 D kc A) {R : Int32 × St} {x2 : Int32} {x3 : Int32} {σ : St} (hR : RTi 0 0 p l e r_X11_begins s m args below meth c cX11_begins tM kc ad D A Q .int R.1 R.2) {H : Heap} {locs : List Loc} {ls : Array Slot} (Z : Dy tM kc ad D A s.heap σ H locs) (hl : lv_has ls 4 [(0, .ref (ad 0)), (2, .int x2), (3, .int x3)]) (h : f_X11_begins_111 x2 x3 σ = some R) : W p l e r_X11_begins s m args below meth c H locs 0 0 Q (F0 m 111 ls []) := by
  have hx := C.1.1
  have hb := C.1.2.1
  unfold f_X11_begins_111 at h
  refine lv_aload_n hx hb dX11_begins_111 rfl (lv_at hl 0 rfl) ?_
  refine lv_iload_n hx hb dX11_begins_112 rfl (lv_at hl 1 rfl) ?_
  obtain ⟨u48, hu48, h⟩ := ob h
  refine g_callVi eM_ok C Z (k_X11_makes hu48) lk_X11_372 (by decide) rfl rfl hl (by decide) rfl (Nat.le_of_ble_eq_true rfl) (rest := []) rfl dX11_begins_113 (fun H locs Z => ?_)
  refine lv_if_ne (tgt := 121) hx hb dX11_begins_116 (by decide) (fun c116 => ?_) (fun c116 => ?_)
  · have h := im h c116
    refine lv_aload_n hx hb dX11_begins_121 rfl (lv_at hl 0 rfl) ?_
    obtain ⟨σ49, hσ49, h⟩ := ob h
    refine g_callVv eM_ok C Z (k_X11_skips hσ49) lk_X11_347 (by decide) rfl rfl hl (by decide) rfl (Nat.le_of_ble_eq_true rfl) (rest := []) rfl dX11_begins_122 (fun H locs Z => ?_)
    refine lv_aload_n hx hb dX11_begins_125 rfl (lv_at hl 0 rfl) ?_
    refine lv_iconst (v := 1) hx hb dX11_begins_126 (by decide) ?_
    refine lv_iload_n hx hb dX11_begins_127 rfl (lv_at hl 2 rfl) ?_
    obtain ⟨σ50, hσ50, h⟩ := ob h
    refine g_callVv eM_ok C Z (k_X11_lays hσ50) lk_X11_359 (by decide) rfl rfl hl (by decide) rfl (Nat.le_of_ble_eq_true rfl) (rest := []) rfl dX11_begins_128 (fun H locs Z => ?_)
    refine lv_iconst (v := 1) hx hb dX11_begins_131 (by decide) ?_
    obtain rfl := Option.some.inj h
    exact hR _ _ _ _ _ Z dX11_begins_132 rfl
  · have h := ip h c116
    refine lv_iconst (v := (-1)) hx hb dX11_begins_119 (by decide) ?_
    obtain rfl := Option.some.inj h
    exact hR _ _ _ _ _ Z dX11_begins_120 rfl
set_option maxRecDepth 20000 in
theorem w_X11_begins_139 {p : Program} {l : Launch} {e : Env} {s : State} {m : MethodId} {args : Array Value} {below : List Frame} {meth : Method} {c : Code} {Q : State → Prop} {D : va_G} {kc : Nat → ClassId} {ad : Nat → Nat} {A : Nat → Prop} (C : Cx eM p s m args c cX11_begins 4 RX11 D kc A) {R : Int32 × St} {x2 : Int32} {σ : St} (hR : RTi 0 0 p l e r_X11_begins s m args below meth c cX11_begins tM kc ad D A Q .int R.1 R.2) {H : Heap} {locs : List Loc} {ls : Array Slot} (Z : Dy tM kc ad D A s.heap σ H locs) (hl : lv_has ls 4 [(0, .ref (ad 0)), (2, .int x2)]) (h : f_X11_begins_139 x2 σ = some R) : W p l e r_X11_begins s m args below meth c H locs 0 0 Q (F0 m 139 ls []) := by
  have hx := C.1.1
  have hb := C.1.2.1
  unfold f_X11_begins_139 at h
  refine lv_aload_n hx hb dX11_begins_139 rfl (lv_at hl 0 rfl) ?_
  refine lv_iconst (v := 0) hx hb dX11_begins_140 (by decide) ?_
  refine lv_iload_n hx hb dX11_begins_141 rfl (lv_at hl 1 rfl) ?_
  obtain ⟨u51, hu51, h⟩ := ob h
  refine g_callVi eM_ok C Z (k_X11_fails hu51) lk_X11_337 (by decide) rfl rfl hl (by decide) rfl (Nat.le_of_ble_eq_true rfl) (rest := []) rfl dX11_begins_142 (fun H locs Z => ?_)
  refine lv_pop hx hb dX11_begins_145 rfl ?_
  refine lv_iconst (v := (-1)) hx hb dX11_begins_146 (by decide) ?_
  obtain rfl := Option.some.inj h
  exact hR _ _ _ _ _ Z dX11_begins_147 rfl
set_option maxRecDepth 20000 in
theorem w_X11_begins_89 {p : Program} {l : Launch} {e : Env} {s : State} {m : MethodId} {args : Array Value} {below : List Frame} {meth : Method} {c : Code} {Q : State → Prop} {D : va_G} {kc : Nat → ClassId} {ad : Nat → Nat} {A : Nat → Prop} (C : Cx eM p s m args c cX11_begins 4 RX11 D kc A) {R : Int32 × St} {x2 : Int32} (hR : RTi 0 0 p l e r_X11_begins s m args below meth c cX11_begins tM kc ad D A Q .int R.1 R.2) : ∀ (n : Nat) (x3 : Int32) (σ : St) (H : Heap) (locs : List Loc) (ls : Array Slot), Dy tM kc ad D A s.heap σ H locs → lv_has ls 4 [(0, .ref (ad 0)), (2, .int x2), (3, .int x3)] → f_X11_begins_89 x2 n x3 σ = some R → W p l e r_X11_begins s m args below meth c H locs 0 0 Q (F0 m 89 ls []) := by
  have hx := C.1.1
  have hb := C.1.2.1
  intro n
  induction n with
  | zero =>
    intro x3 σ H locs ls Z hl h
    exact absurd (show none = some R from h) (by simp)
  | succ n ih =>
    intro x3 σ H locs ls Z hl h
    rw [f_X11_begins_89] at h
    refine lv_iload_n hx hb dX11_begins_89 rfl (lv_at hl 2 rfl) ?_
    refine lv_bipush (v := 9) hx hb dX11_begins_90 (by decide) ?_
    refine lv_icmp_ge (tgt := 139) hx hb dX11_begins_92 (by decide) (fun c92 => ?_) (fun c92 => ?_)
    · have h := ip h c92
      exact w_X11_begins_139 C hR Z (lv_sub hl [0, 1] rfl) h
    · have h := im h c92
      refine lv_aload_n hx hb dX11_begins_95 rfl (lv_at hl 0 rfl) ?_
      refine lv_aload_n hx hb dX11_begins_96 rfl (lv_at hl 0 rfl) ?_
      refine rg_X11_119 C Z dX11_begins_97 ?_
      refine lv_iload_n hx hb dX11_begins_100 rfl (lv_at hl 2 rfl) ?_
      obtain ⟨v45, hv45, h⟩ := ob h
      refine g_lald C Z iaM31 hv45 dX11_begins_101 ?_
      obtain ⟨u46, hu46, h⟩ := ob h
      refine g_callVi eM_ok C Z (k_X11_isWord hu46) lk_X11_343 (by decide) rfl rfl hl (by decide) rfl (Nat.le_of_ble_eq_true rfl) (rest := []) rfl dX11_begins_102 (fun H locs Z => ?_)
      refine lv_if_ne (tgt := 111) hx hb dX11_begins_105 (by decide) (fun c105 => ?_) (fun c105 => ?_)
      · have h := im h c105
        exact w_X11_begins_111 C hR Z (lv_sub hl [0, 1, 2] rfl) h
      · have h := ip h c105
        refine lv_goto (tgt := 133) hx hb dX11_begins_108 (by decide) ?_
        obtain ⟨v47, ev47, h⟩ := lb h
        refine lv_iinc (v := v47) (lv' := [(3, .int v47), (0, .ref (ad 0)), (2, .int x2)]) hx hb dX11_begins_133 hl (k := 2) rfl (by rw [ev47]; rfl) (by decide) rfl (fun ls hl => ?_)
        refine lv_goto (tgt := 89) hx hb dX11_begins_136 (by decide) ?_
        exact ih _ _ _ _ _ Z (lv_sub hl [1, 2, 0] rfl) h
set_option maxRecDepth 20000 in
theorem w_X11_begins_0 {p : Program} {l : Launch} {e : Env} {s : State} {m : MethodId} {args : Array Value} {below : List Frame} {meth : Method} {c : Code} {Q : State → Prop} {D : va_G} {kc : Nat → ClassId} {ad : Nat → Nat} {A : Nat → Prop} (C : Cx eM p s m args c cX11_begins 4 RX11 D kc A) {R : Int32 × St} {σ : St} (hR : RTi 0 0 p l e r_X11_begins s m args below meth c cX11_begins tM kc ad D A Q .int R.1 R.2) {H : Heap} {locs : List Loc} {ls : Array Slot} (Z : Dy tM kc ad D A s.heap σ H locs) (hl : lv_has ls 4 [(0, .ref (ad 0))]) (h : f_X11_begins σ = some R) : W p l e r_X11_begins s m args below meth c H locs 0 0 Q (F0 m 0 ls []) := by
  have hx := C.1.1
  have hb := C.1.2.1
  unfold f_X11_begins at h
  refine lv_aload_n hx hb dX11_begins_0 rfl (lv_at hl 0 rfl) ?_
  obtain ⟨u35, hu35, h⟩ := ob h
  refine g_callVi eM_ok C Z (k_X11_see hu35) lk_X11_329 (by decide) rfl rfl hl (by decide) rfl (Nat.le_of_ble_eq_true rfl) (rest := []) rfl dX11_begins_1 (fun H locs Z => ?_)
  refine lv_istore_n (lv' := [(1, .int u35.1), (0, .ref (ad 0))]) hx hb dX11_begins_4 rfl hl (by decide) rfl (fun ls hl => ?_)
  refine lv_aload_n hx hb dX11_begins_5 rfl (lv_at hl 1 rfl) ?_
  refine rg_X11_326 C Z dX11_begins_6 ?_
  obtain ⟨v36, ev36, h⟩ := lb h
  refine tn_i ev36 ?_
  refine lv_istore_n (lv' := [(2, .int v36), (1, .int u35.1), (0, .ref (ad 0))]) hx hb dX11_begins_9 rfl hl (by decide) rfl (fun ls hl => ?_)
  refine lv_aload_n hx hb dX11_begins_10 rfl (lv_at hl 2 rfl) ?_
  obtain ⟨v37, hv37, h⟩ := ob h
  refine g_callVi eM_ok C Z (k_X11_isDigit hv37) lk_X11_333 (by decide) rfl rfl hl (by decide) rfl (Nat.le_of_ble_eq_true rfl) (rest := []) rfl dX11_begins_11 (fun H locs Z => ?_)
  refine lv_if_eq (tgt := 45) hx hb dX11_begins_14 (by decide) (fun c14 => ?_) (fun c14 => ?_)
  · have h := ip h c14
    refine lv_iload_n hx hb dX11_begins_45 rfl (lv_at hl 1 rfl) ?_
    refine lv_bipush (v := 40) hx hb dX11_begins_46 (by decide) ?_
    refine lv_icmp_ne (tgt := 87) hx hb dX11_begins_48 (by decide) (fun c48 => ?_) (fun c48 => ?_)
    · have h := im h c48
      refine lv_iconst (v := 0) hx hb dX11_begins_87 (by decide) ?_
      refine lv_istore_n (lv' := [(3, .int 0), (2, .int v36), (1, .int u35.1), (0, .ref (ad 0))]) hx hb dX11_begins_88 rfl hl (by decide) rfl (fun ls hl => ?_)
      exact w_X11_begins_89 C hR _ _ _ _ _ _ Z (lv_sub hl [3, 1, 0] rfl) h
    · have h := ip h c48
      refine lv_aload_n hx hb dX11_begins_51 rfl (lv_at hl 2 rfl) ?_
      refine lv_iload_n hx hb dX11_begins_52 rfl (lv_at hl 0 rfl) ?_
      obtain ⟨u38, hu38, h⟩ := ob h
      refine g_callVi eM_ok C Z (k_X11_opens hu38) lk_X11_375 (by decide) rfl rfl hl (by decide) rfl (Nat.le_of_ble_eq_true rfl) (rest := []) rfl dX11_begins_53 (fun H locs Z => ?_)
      refine lv_if_eq (tgt := 67) hx hb dX11_begins_56 (by decide) (fun c56 => ?_) (fun c56 => ?_)
      · have h := ip h c56
        refine lv_iconst (v := (-1)) hx hb dX11_begins_67 (by decide) ?_
        obtain rfl := Option.some.inj h
        exact hR _ _ _ _ _ Z dX11_begins_68 rfl
      · have h := im h c56
        refine lv_aload_n hx hb dX11_begins_59 rfl (lv_at hl 2 rfl) ?_
        refine lv_iload_n hx hb dX11_begins_60 rfl (lv_at hl 0 rfl) ?_
        obtain ⟨u39, hu39, h⟩ := ob h
        refine g_callVi eM_ok C Z (k_X11_makes hu39) lk_X11_372 (by decide) rfl rfl hl (by decide) rfl (Nat.le_of_ble_eq_true rfl) (rest := []) rfl dX11_begins_61 (fun H locs Z => ?_)
        refine lv_if_ne (tgt := 69) hx hb dX11_begins_64 (by decide) (fun c64 => ?_) (fun c64 => ?_)
        · have h := im h c64
          refine lv_aload_n hx hb dX11_begins_69 rfl (lv_at hl 2 rfl) ?_
          refine lv_bipush (v := 13) hx hb dX11_begins_70 (by decide) ?_
          obtain ⟨σ40, hσ40, h⟩ := ob h
          refine g_callVv eM_ok C Z (k_X11_waits hσ40) lk_X11_378 (by decide) rfl rfl hl (by decide) rfl (Nat.le_of_ble_eq_true rfl) (rest := []) rfl dX11_begins_72 (fun H locs Z => ?_)
          refine lv_aload_n hx hb dX11_begins_75 rfl (lv_at hl 2 rfl) ?_
          refine lv_dup hx hb dX11_begins_76 rfl ?_
          refine rg_X11_326 C Z dX11_begins_77 ?_
          refine lv_iconst (v := 1) hx hb dX11_begins_80 (by decide) ?_
          refine lv_iadd hx hb dX11_begins_81 ?_
          obtain ⟨σ41, eσ41, h⟩ := lb h
          refine rp_X11_326 C Z eσ41 dX11_begins_82 (fun H locs Z => ?_)
          refine lv_iconst (v := 0) hx hb dX11_begins_85 (by decide) ?_
          obtain rfl := Option.some.inj h
          exact hR _ _ _ _ _ Z dX11_begins_86 rfl
        · have h := ip h c64
          refine lv_iconst (v := (-1)) hx hb dX11_begins_67 (by decide) ?_
          obtain rfl := Option.some.inj h
          exact hR _ _ _ _ _ Z dX11_begins_68 rfl
  · have h := im h c14
    refine lv_aload_n hx hb dX11_begins_17 rfl (lv_at hl 2 rfl) ?_
    obtain ⟨u42, hu42, h⟩ := ob h
    refine g_callVi eM_ok C Z (k_X11_number hu42) lk_X11_369 (by decide) rfl rfl hl (by decide) rfl (Nat.le_of_ble_eq_true rfl) (rest := []) rfl dX11_begins_18 (fun H locs Z => ?_)
    refine lv_if_eq (tgt := 32) hx hb dX11_begins_21 (by decide) (fun c21 => ?_) (fun c21 => ?_)
    · have h := ip h c21
      refine lv_iconst (v := (-1)) hx hb dX11_begins_32 (by decide) ?_
      obtain rfl := Option.some.inj h
      exact hR _ _ _ _ _ Z dX11_begins_33 rfl
    · have h := im h c21
      refine lv_aload_n hx hb dX11_begins_24 rfl (lv_at hl 2 rfl) ?_
      refine lv_iload_n hx hb dX11_begins_25 rfl (lv_at hl 0 rfl) ?_
      obtain ⟨u43, hu43, h⟩ := ob h
      refine g_callVi eM_ok C Z (k_X11_makes hu43) lk_X11_372 (by decide) rfl rfl hl (by decide) rfl (Nat.le_of_ble_eq_true rfl) (rest := []) rfl dX11_begins_26 (fun H locs Z => ?_)
      refine lv_if_ne (tgt := 34) hx hb dX11_begins_29 (by decide) (fun c29 => ?_) (fun c29 => ?_)
      · have h := im h c29
        refine lv_aload_n hx hb dX11_begins_34 rfl (lv_at hl 2 rfl) ?_
        refine lv_iconst (v := 0) hx hb dX11_begins_35 (by decide) ?_
        refine lv_aload_n hx hb dX11_begins_36 rfl (lv_at hl 2 rfl) ?_
        refine rg_X11_340 C Z dX11_begins_37 ?_
        obtain ⟨σ44, hσ44, h⟩ := ob h
        refine g_callVv eM_ok C Z (k_X11_lays hσ44) lk_X11_359 (by decide) rfl rfl hl (by decide) rfl (Nat.le_of_ble_eq_true rfl) (rest := []) rfl dX11_begins_40 (fun H locs Z => ?_)
        refine lv_iconst (v := 1) hx hb dX11_begins_43 (by decide) ?_
        obtain rfl := Option.some.inj h
        exact hR _ _ _ _ _ Z dX11_begins_44 rfl
      · have h := ip h c29
        refine lv_iconst (v := (-1)) hx hb dX11_begins_32 (by decide) ?_
        obtain rfl := Option.some.inj h
        exact hR _ _ _ _ _ Z dX11_begins_33 rfl
theorem k_X11_begins {l : Launch} {kc : Nat → ClassId} {ad : Nat → Nat} {D : va_G} {σ : St} {R : Int32 × St} (h : f_X11_begins σ = some R) : KC eM tM kc ad D l yX11_begins (.code yX11_begins cX11_begins 4 (some .int)) r_X11_begins [.ref (ad 0)] (some (.int R.1)) σ R.2 := by
  refine g_enter (by decide) (Nat.le_of_ble_eq_true rfl) ?_
  intro p e s m args below meth c A hA C hr hlocks Z ls hl
  have hl : lv_has ls 4 [(0, .ref (ad 0))] := hl
  exact w_X11_begins_0 C (g_RTi C.1.1 C.1.2.1 hr hlocks hA)  Z hl h
def r_X11_endsSum : Room := { frames := 2, cells := 0, slots := 0, locals := 42 }
set_option maxRecDepth 20000 in
theorem w_X11_endsSum_18 {p : Program} {l : Launch} {e : Env} {s : State} {m : MethodId} {args : Array Value} {below : List Frame} {meth : Method} {c : Code} {Q : State → Prop} {D : va_G} {kc : Nat → ClassId} {ad : Nat → Nat} {A : Nat → Prop} (C : Cx eM p s m args c cX11_endsSum 2 RX11 D kc A) {R : St} {σ : St} (hR : RTv 0 0 p l e r_X11_endsSum s m args below meth c cX11_endsSum tM kc ad D A Q R) {H : Heap} {locs : List Loc} {ls : Array Slot} (Z : Dy tM kc ad D A s.heap σ H locs) (hl : lv_has ls 2 [(0, .ref (ad 0))]) (h : f_X11_endsSum_18 σ = some R) : W p l e r_X11_endsSum s m args below meth c H locs 0 0 Q (F0 m 18 ls []) := by
  have hx := C.1.1
  have hb := C.1.2.1
  unfold f_X11_endsSum_18 at h
  refine lv_aload_n hx hb dX11_endsSum_18 rfl (lv_at hl 0 rfl) ?_
  obtain ⟨σ9, hσ9, h⟩ := ob h
  refine g_callVv eM_ok C Z (k_X11_pops hσ9) lk_X11_383 (by decide) rfl rfl hl (by decide) rfl (Nat.le_of_ble_eq_true rfl) (rest := []) rfl dX11_endsSum_19 (fun H locs Z => ?_)
  obtain rfl := Option.some.inj h
  exact hR _ _ _ _ Z dX11_endsSum_22
set_option maxRecDepth 20000 in
theorem w_X11_endsSum_0 {p : Program} {l : Launch} {e : Env} {s : State} {m : MethodId} {args : Array Value} {below : List Frame} {meth : Method} {c : Code} {Q : State → Prop} {D : va_G} {kc : Nat → ClassId} {ad : Nat → Nat} {A : Nat → Prop} (C : Cx eM p s m args c cX11_endsSum 2 RX11 D kc A) {R : St} {x1 : Int32} {σ : St} (hR : RTv 0 0 p l e r_X11_endsSum s m args below meth c cX11_endsSum tM kc ad D A Q R) {H : Heap} {locs : List Loc} {ls : Array Slot} (Z : Dy tM kc ad D A s.heap σ H locs) (hl : lv_has ls 2 [(0, .ref (ad 0)), (1, .int x1)]) (h : f_X11_endsSum x1 σ = some R) : W p l e r_X11_endsSum s m args below meth c H locs 0 0 Q (F0 m 0 ls []) := by
  have hx := C.1.1
  have hb := C.1.2.1
  unfold f_X11_endsSum at h
  refine lv_aload_n hx hb dX11_endsSum_0 rfl (lv_at hl 0 rfl) ?_
  refine lv_iload_n hx hb dX11_endsSum_1 rfl (lv_at hl 1 rfl) ?_
  refine lv_iconst (v := 3) hx hb dX11_endsSum_2 (by decide) ?_
  obtain ⟨v7, hv7, h⟩ := ob h
  refine g_callVi eM_ok C Z (k_X11_isTop hv7) lk_X11_380 (by decide) rfl rfl hl (by decide) rfl (Nat.le_of_ble_eq_true rfl) (rest := []) rfl dX11_endsSum_3 (fun H locs Z => ?_)
  refine lv_if_ne (tgt := 18) hx hb dX11_endsSum_6 (by decide) (fun c6 => ?_) (fun c6 => ?_)
  · have h := im h c6
    exact w_X11_endsSum_18 C hR Z (lv_sub hl [0] rfl) h
  · have h := ip h c6
    refine lv_aload_n hx hb dX11_endsSum_9 rfl (lv_at hl 0 rfl) ?_
    refine lv_iload_n hx hb dX11_endsSum_10 rfl (lv_at hl 1 rfl) ?_
    refine lv_iconst (v := 4) hx hb dX11_endsSum_11 (by decide) ?_
    obtain ⟨v8, hv8, h⟩ := ob h
    refine g_callVi eM_ok C Z (k_X11_isTop hv8) lk_X11_380 (by decide) rfl rfl hl (by decide) rfl (Nat.le_of_ble_eq_true rfl) (rest := []) rfl dX11_endsSum_12 (fun H locs Z => ?_)
    refine lv_if_eq (tgt := 22) hx hb dX11_endsSum_15 (by decide) (fun c15 => ?_) (fun c15 => ?_)
    · have h := ip h c15
      obtain rfl := Option.some.inj h
      exact hR _ _ _ _ Z dX11_endsSum_22
    · have h := im h c15
      exact w_X11_endsSum_18 C hR Z (lv_sub hl [0] rfl) h
theorem k_X11_endsSum {l : Launch} {kc : Nat → ClassId} {ad : Nat → Nat} {D : va_G} {x1 : Int32} {σ : St} {R : St} (h : f_X11_endsSum x1 σ = some R) : KC eM tM kc ad D l yX11_endsSum (.code yX11_endsSum cX11_endsSum 2 none) r_X11_endsSum [.ref (ad 0), .int x1] none σ R := by
  refine g_enter (by decide) (Nat.le_of_ble_eq_true rfl) ?_
  intro p e s m args below meth c A hA C hr hlocks Z ls hl
  have hl : lv_has ls 2 [(0, .ref (ad 0)), (1, .int x1)] := hl
  exact w_X11_endsSum_0 C (g_RTv C.1.1 C.1.2.1 hr hlocks hA)  Z hl h
def r_X11_sum : Room := { frames := 3, cells := 0, slots := 0, locals := 68 }
set_option maxRecDepth 20000 in
theorem w_X11_sum_157 {p : Program} {l : Launch} {e : Env} {s : State} {m : MethodId} {args : Array Value} {below : List Frame} {meth : Method} {c : Code} {Q : State → Prop} {D : va_G} {kc : Nat → ClassId} {ad : Nat → Nat} {A : Nat → Prop} (C : Cx eM p s m args c cX11_sum 4 RX11 D kc A) {R : Int32 × St} {x1 : Int32} {σ : St} (hR : RTi 0 0 p l e r_X11_sum s m args below meth c cX11_sum tM kc ad D A Q .boolean R.1 R.2) {k5 : St → Option (Int32 × St)} (hk5 : ∀ (σ : St) (H : Heap) (locs : List Loc) (ls : Array Slot), Dy tM kc ad D A s.heap σ H locs → lv_has ls 4 [(0, .ref (ad 0)), (1, .int x1)] → k5 σ = some R → W p l e r_X11_sum s m args below meth c H locs 0 0 Q (F0 m 5 ls [])) {H : Heap} {locs : List Loc} {ls : Array Slot} (Z : Dy tM kc ad D A s.heap σ H locs) (hl : lv_has ls 4 [(0, .ref (ad 0)), (1, .int x1)]) (h : f_X11_sum_157 x1 σ k5 = some R) : W p l e r_X11_sum s m args below meth c H locs 0 0 Q (F0 m 157 ls []) := by
  have hx := C.1.1
  have hb := C.1.2.1
  unfold f_X11_sum_157 at h
  refine lv_aload_n hx hb dX11_sum_157 rfl (lv_at hl 0 rfl) ?_
  refine lv_dup hx hb dX11_sum_158 rfl ?_
  refine rg_X11_326 C Z dX11_sum_159 ?_
  refine lv_iconst (v := 1) hx hb dX11_sum_162 (by decide) ?_
  refine lv_iadd hx hb dX11_sum_163 ?_
  obtain ⟨σ58, eσ58, h⟩ := lb h
  refine rp_X11_326 C Z eσ58 dX11_sum_164 (fun H locs Z => ?_)
  refine lv_goto (tgt := 5) hx hb dX11_sum_167 (by decide) ?_
  exact hk5 _ _ _ _ Z (lv_sub hl [0, 1] rfl) h
set_option maxRecDepth 20000 in
theorem w_X11_sum_137 {p : Program} {l : Launch} {e : Env} {s : State} {m : MethodId} {args : Array Value} {below : List Frame} {meth : Method} {c : Code} {Q : State → Prop} {D : va_G} {kc : Nat → ClassId} {ad : Nat → Nat} {A : Nat → Prop} (C : Cx eM p s m args c cX11_sum 4 RX11 D kc A) {R : Int32 × St} {x1 : Int32} {x3 : Int32} {σ : St} (hR : RTi 0 0 p l e r_X11_sum s m args below meth c cX11_sum tM kc ad D A Q .boolean R.1 R.2) {k5 : St → Option (Int32 × St)} (hk5 : ∀ (σ : St) (H : Heap) (locs : List Loc) (ls : Array Slot), Dy tM kc ad D A s.heap σ H locs → lv_has ls 4 [(0, .ref (ad 0)), (1, .int x1)] → k5 σ = some R → W p l e r_X11_sum s m args below meth c H locs 0 0 Q (F0 m 5 ls [])) {H : Heap} {locs : List Loc} {ls : Array Slot} (Z : Dy tM kc ad D A s.heap σ H locs) (hl : lv_has ls 4 [(0, .ref (ad 0)), (1, .int x1), (3, .int x3)]) (h : f_X11_sum_137 x1 x3 σ k5 = some R) : W p l e r_X11_sum s m args below meth c H locs 0 0 Q (F0 m 137 ls []) := by
  have hx := C.1.1
  have hb := C.1.2.1
  unfold f_X11_sum_137 at h
  refine lv_aload_n hx hb dX11_sum_137 rfl (lv_at hl 0 rfl) ?_
  refine lv_iload_n hx hb dX11_sum_138 rfl (lv_at hl 1 rfl) ?_
  obtain ⟨σ55, hσ55, h⟩ := ob h
  refine g_callVv eM_ok C Z (k_X11_endsSum hσ55) lk_X11_392 (by decide) rfl rfl hl (by decide) rfl (Nat.le_of_ble_eq_true rfl) (rest := []) rfl dX11_sum_139 (fun H locs Z => ?_)
  refine lv_aload_n hx hb dX11_sum_142 rfl (lv_at hl 0 rfl) ?_
  refine lv_iload_n hx hb dX11_sum_143 rfl (lv_at hl 2 rfl) ?_
  refine lv_bipush (v := 43) hx hb dX11_sum_144 (by decide) ?_
  obtain ⟨v56, ev56, h⟩ := lb h
  have hj : W p l e r_X11_sum s m args below meth c H locs 0 0 Q (F0 m 154 ls [.int v56, .ref (ad 0)]) := by
    obtain ⟨σ57, hσ57, h⟩ := ob h
    refine g_callVv eM_ok C Z (k_X11_waits hσ57) lk_X11_378 (by decide) rfl rfl hl (by decide) rfl (Nat.le_of_ble_eq_true rfl) (rest := []) rfl dX11_sum_154 (fun H locs Z => ?_)
    exact w_X11_sum_157 C hR hk5 Z (lv_sub hl [0, 1] rfl) h
  refine lv_icmp_ne (tgt := 153) hx hb dX11_sum_146 (by decide) (fun c146 => ?_) (fun c146 => ?_)
  · rw [if_neg c146] at ev56
    refine lv_iconst (v := 4) hx hb dX11_sum_153 (by decide) ?_
    exact tn_i ev56 hj
  · rw [if_pos c146] at ev56
    refine lv_iconst (v := 3) hx hb dX11_sum_149 (by decide) ?_
    refine lv_goto (tgt := 154) hx hb dX11_sum_150 (by decide) ?_
    exact tn_i ev56 hj
set_option maxRecDepth 20000 in
theorem w_X11_sum_170 {p : Program} {l : Launch} {e : Env} {s : State} {m : MethodId} {args : Array Value} {below : List Frame} {meth : Method} {c : Code} {Q : State → Prop} {D : va_G} {kc : Nat → ClassId} {ad : Nat → Nat} {A : Nat → Prop} (C : Cx eM p s m args c cX11_sum 4 RX11 D kc A) {R : Int32 × St} {x1 : Int32} {σ : St} (hR : RTi 0 0 p l e r_X11_sum s m args below meth c cX11_sum tM kc ad D A Q .boolean R.1 R.2) {H : Heap} {locs : List Loc} {ls : Array Slot} (Z : Dy tM kc ad D A s.heap σ H locs) (hl : lv_has ls 4 [(0, .ref (ad 0)), (1, .int x1)]) (h : f_X11_sum_170 x1 σ = some R) : W p l e r_X11_sum s m args below meth c H locs 0 0 Q (F0 m 170 ls []) := by
  have hx := C.1.1
  have hb := C.1.2.1
  unfold f_X11_sum_170 at h
  refine lv_aload_n hx hb dX11_sum_170 rfl (lv_at hl 0 rfl) ?_
  refine lv_iload_n hx hb dX11_sum_171 rfl (lv_at hl 1 rfl) ?_
  refine lv_bipush (v := 13) hx hb dX11_sum_172 (by decide) ?_
  obtain ⟨v59, hv59, h⟩ := ob h
  refine g_callVi eM_ok C Z (k_X11_has hv59) lk_X11_389 (by decide) rfl rfl hl (by decide) rfl (Nat.le_of_ble_eq_true rfl) (rest := []) rfl dX11_sum_174 (fun H locs Z => ?_)
  refine lv_if_eq (tgt := 190) hx hb dX11_sum_177 (by decide) (fun c177 => ?_) (fun c177 => ?_)
  · have h := ip h c177
    refine lv_aload_n hx hb dX11_sum_190 rfl (lv_at hl 0 rfl) ?_
    refine lv_iload_n hx hb dX11_sum_191 rfl (lv_at hl 1 rfl) ?_
    obtain ⟨σ60, hσ60, h⟩ := ob h
    refine g_callVv eM_ok C Z (k_X11_endsSum hσ60) lk_X11_392 (by decide) rfl rfl hl (by decide) rfl (Nat.le_of_ble_eq_true rfl) (rest := []) rfl dX11_sum_192 (fun H locs Z => ?_)
    refine lv_iconst (v := 1) hx hb dX11_sum_195 (by decide) ?_
    obtain rfl := Option.some.inj h
    exact hR _ _ _ _ _ Z dX11_sum_196 rfl
  · have h := im h c177
    refine lv_aload_n hx hb dX11_sum_180 rfl (lv_at hl 0 rfl) ?_
    refine lv_iconst (v := 0) hx hb dX11_sum_181 (by decide) ?_
    refine lv_aload_n hx hb dX11_sum_182 rfl (lv_at hl 0 rfl) ?_
    refine rg_X11_326 C Z dX11_sum_183 ?_
    obtain ⟨u61, hu61, h⟩ := ob h
    refine g_callVi eM_ok C Z (k_X11_fails hu61) lk_X11_337 (by decide) rfl rfl hl (by decide) rfl (Nat.le_of_ble_eq_true rfl) (rest := []) rfl dX11_sum_186 (fun H locs Z => ?_)
    obtain rfl := Option.some.inj h
    exact hR _ _ _ _ _ Z dX11_sum_189 (nar_b _)
set_option maxRecDepth 20000 in
theorem w_X11_sum_106 {p : Program} {l : Launch} {e : Env} {s : State} {m : MethodId} {args : Array Value} {below : List Frame} {meth : Method} {c : Code} {Q : State → Prop} {D : va_G} {kc : Nat → ClassId} {ad : Nat → Nat} {A : Nat → Prop} (C : Cx eM p s m args c cX11_sum 4 RX11 D kc A) {R : Int32 × St} {x1 : Int32} {σ : St} (hR : RTi 0 0 p l e r_X11_sum s m args below meth c cX11_sum tM kc ad D A Q .boolean R.1 R.2) {k5 : St → Option (Int32 × St)} (hk5 : ∀ (σ : St) (H : Heap) (locs : List Loc) (ls : Array Slot), Dy tM kc ad D A s.heap σ H locs → lv_has ls 4 [(0, .ref (ad 0)), (1, .int x1)] → k5 σ = some R → W p l e r_X11_sum s m args below meth c H locs 0 0 Q (F0 m 5 ls [])) {H : Heap} {locs : List Loc} {ls : Array Slot} (Z : Dy tM kc ad D A s.heap σ H locs) (hl : lv_has ls 4 [(0, .ref (ad 0)), (1, .int x1)]) (h : f_X11_sum_106 x1 σ k5 = some R) : W p l e r_X11_sum s m args below meth c H locs 0 0 Q (F0 m 106 ls []) := by
  have hx := C.1.1
  have hb := C.1.2.1
  unfold f_X11_sum_106 at h
  refine lv_aload_n hx hb dX11_sum_106 rfl (lv_at hl 0 rfl) ?_
  obtain ⟨u53, hu53, h⟩ := ob h
  refine g_callVi eM_ok C Z (k_X11_see hu53) lk_X11_329 (by decide) rfl rfl hl (by decide) rfl (Nat.le_of_ble_eq_true rfl) (rest := []) rfl dX11_sum_107 (fun H locs Z => ?_)
  refine lv_istore_n (lv' := [(3, .int u53.1), (0, .ref (ad 0)), (1, .int x1)]) hx hb dX11_sum_110 rfl hl (by decide) rfl (fun ls hl => ?_)
  refine lv_iload_n hx hb dX11_sum_111 rfl (lv_at hl 0 rfl) ?_
  refine lv_bipush (v := 42) hx hb dX11_sum_112 (by decide) ?_
  refine lv_icmp_ne (tgt := 125) hx hb dX11_sum_114 (by decide) (fun c114 => ?_) (fun c114 => ?_)
  · have h := im h c114
    refine lv_iload_n hx hb dX11_sum_125 rfl (lv_at hl 0 rfl) ?_
    refine lv_bipush (v := 43) hx hb dX11_sum_126 (by decide) ?_
    refine lv_icmp_eq (tgt := 137) hx hb dX11_sum_128 (by decide) (fun c128 => ?_) (fun c128 => ?_)
    · have h := ip h c128
      exact w_X11_sum_137 C hR hk5 Z (lv_sub hl [1, 2, 0] rfl) h
    · have h := im h c128
      refine lv_iload_n hx hb dX11_sum_131 rfl (lv_at hl 0 rfl) ?_
      refine lv_bipush (v := 45) hx hb dX11_sum_132 (by decide) ?_
      refine lv_icmp_ne (tgt := 170) hx hb dX11_sum_134 (by decide) (fun c134 => ?_) (fun c134 => ?_)
      · have h := im h c134
        exact w_X11_sum_170 C hR Z (lv_sub hl [1, 2] rfl) h
      · have h := ip h c134
        exact w_X11_sum_137 C hR hk5 Z (lv_sub hl [1, 2, 0] rfl) h
  · have h := ip h c114
    refine lv_aload_n hx hb dX11_sum_117 rfl (lv_at hl 1 rfl) ?_
    refine lv_iconst (v := 2) hx hb dX11_sum_118 (by decide) ?_
    obtain ⟨σ54, hσ54, h⟩ := ob h
    refine g_callVv eM_ok C Z (k_X11_waits hσ54) lk_X11_378 (by decide) rfl rfl hl (by decide) rfl (Nat.le_of_ble_eq_true rfl) (rest := []) rfl dX11_sum_119 (fun H locs Z => ?_)
    refine lv_goto (tgt := 157) hx hb dX11_sum_122 (by decide) ?_
    exact w_X11_sum_157 C hR hk5 Z (lv_sub hl [1, 2] rfl) h
set_option maxRecDepth 20000 in
theorem w_X11_sum_36 {p : Program} {l : Launch} {e : Env} {s : State} {m : MethodId} {args : Array Value} {below : List Frame} {meth : Method} {c : Code} {Q : State → Prop} {D : va_G} {kc : Nat → ClassId} {ad : Nat → Nat} {A : Nat → Prop} (C : Cx eM p s m args c cX11_sum 4 RX11 D kc A) {R : Int32 × St} {x1 : Int32} (hR : RTi 0 0 p l e r_X11_sum s m args below meth c cX11_sum tM kc ad D A Q .boolean R.1 R.2) {k5 : St → Option (Int32 × St)} (hk5 : ∀ (σ : St) (H : Heap) (locs : List Loc) (ls : Array Slot), Dy tM kc ad D A s.heap σ H locs → lv_has ls 4 [(0, .ref (ad 0)), (1, .int x1)] → k5 σ = some R → W p l e r_X11_sum s m args below meth c H locs 0 0 Q (F0 m 5 ls [])) : ∀ (n : Nat) (σ : St) (H : Heap) (locs : List Loc) (ls : Array Slot), Dy tM kc ad D A s.heap σ H locs → lv_has ls 4 [(0, .ref (ad 0)), (1, .int x1)] → f_X11_sum_36 x1 k5 n σ = some R → W p l e r_X11_sum s m args below meth c H locs 0 0 Q (F0 m 36 ls []) := by
  have hx := C.1.1
  have hb := C.1.2.1
  intro n
  induction n with
  | zero =>
    intro σ H locs ls Z hl h
    exact absurd (show none = some R from h) (by simp)
  | succ n ih =>
    intro σ H locs ls Z hl h
    rw [f_X11_sum_36] at h
    refine lv_aload_n hx hb dX11_sum_36 rfl (lv_at hl 0 rfl) ?_
    obtain ⟨u45, hu45, h⟩ := ob h
    refine g_callVi eM_ok C Z (k_X11_see hu45) lk_X11_329 (by decide) rfl rfl hl (by decide) rfl (Nat.le_of_ble_eq_true rfl) (rest := []) rfl dX11_sum_37 (fun H locs Z => ?_)
    refine lv_bipush (v := 41) hx hb dX11_sum_40 (by decide) ?_
    refine lv_icmp_ne (tgt := 106) hx hb dX11_sum_42 (by decide) (fun c42 => ?_) (fun c42 => ?_)
    · have h := im h c42
      exact w_X11_sum_106 C hR hk5 Z (lv_sub hl [0, 1] rfl) h
    · have h := ip h c42
      refine lv_aload_n hx hb dX11_sum_45 rfl (lv_at hl 0 rfl) ?_
      refine lv_iload_n hx hb dX11_sum_46 rfl (lv_at hl 1 rfl) ?_
      refine lv_bipush (v := 13) hx hb dX11_sum_47 (by decide) ?_
      obtain ⟨v46, hv46, h⟩ := ob h
      refine g_callVi eM_ok C Z (k_X11_has hv46) lk_X11_389 (by decide) rfl rfl hl (by decide) rfl (Nat.le_of_ble_eq_true rfl) (rest := []) rfl dX11_sum_49 (fun H locs Z => ?_)
      refine lv_if_eq (tgt := 106) hx hb dX11_sum_52 (by decide) (fun c52 => ?_) (fun c52 => ?_)
      · have h := ip h c52
        exact w_X11_sum_106 C hR hk5 Z (lv_sub hl [0, 1] rfl) h
      · have h := im h c52
        refine lv_aload_n hx hb dX11_sum_55 rfl (lv_at hl 0 rfl) ?_
        refine lv_iload_n hx hb dX11_sum_56 rfl (lv_at hl 1 rfl) ?_
        obtain ⟨σ47, hσ47, h⟩ := ob h
        refine g_callVv eM_ok C Z (k_X11_endsSum hσ47) lk_X11_392 (by decide) rfl rfl hl (by decide) rfl (Nat.le_of_ble_eq_true rfl) (rest := []) rfl dX11_sum_57 (fun H locs Z => ?_)
        refine lv_aload_n hx hb dX11_sum_60 rfl (lv_at hl 0 rfl) ?_
        refine lv_dup hx hb dX11_sum_61 rfl ?_
        refine rg_X11_356 C Z dX11_sum_62 ?_
        refine lv_iconst (v := 1) hx hb dX11_sum_65 (by decide) ?_
        refine lv_isub hx hb dX11_sum_66 ?_
        obtain ⟨σ48, eσ48, h⟩ := lb h
        refine rp_X11_356 C Z eσ48 dX11_sum_67 (fun H locs Z => ?_)
        refine lv_aload_n hx hb dX11_sum_70 rfl (lv_at hl 0 rfl) ?_
        refine lv_dup hx hb dX11_sum_71 rfl ?_
        refine rg_X11_363 C Z dX11_sum_72 ?_
        refine lv_iconst (v := 1) hx hb dX11_sum_75 (by decide) ?_
        refine lv_isub hx hb dX11_sum_76 ?_
        obtain ⟨σ49, eσ49, h⟩ := lb h
        refine rp_X11_363 C Z eσ49 dX11_sum_77 (fun H locs Z => ?_)
        refine lv_aload_n hx hb dX11_sum_80 rfl (lv_at hl 0 rfl) ?_
        refine lv_dup hx hb dX11_sum_81 rfl ?_
        refine rg_X11_326 C Z dX11_sum_82 ?_
        refine lv_iconst (v := 1) hx hb dX11_sum_85 (by decide) ?_
        refine lv_iadd hx hb dX11_sum_86 ?_
        obtain ⟨σ50, eσ50, h⟩ := lb h
        refine rp_X11_326 C Z eσ50 dX11_sum_87 (fun H locs Z => ?_)
        refine lv_aload_n hx hb dX11_sum_90 rfl (lv_at hl 0 rfl) ?_
        refine lv_iload_n hx hb dX11_sum_91 rfl (lv_at hl 1 rfl) ?_
        refine lv_iconst (v := 2) hx hb dX11_sum_92 (by decide) ?_
        obtain ⟨v51, hv51, h⟩ := ob h
        refine g_callVi eM_ok C Z (k_X11_isTop hv51) lk_X11_380 (by decide) rfl rfl hl (by decide) rfl (Nat.le_of_ble_eq_true rfl) (rest := []) rfl dX11_sum_93 (fun H locs Z => ?_)
        refine lv_if_eq (tgt := 36) hx hb dX11_sum_96 (by decide) (fun c96 => ?_) (fun c96 => ?_)
        · have h := ip h c96
          exact ih _ _ _ _ Z (lv_sub hl [0, 1] rfl) h
        · have h := im h c96
          refine lv_aload_n hx hb dX11_sum_99 rfl (lv_at hl 0 rfl) ?_
          obtain ⟨σ52, hσ52, h⟩ := ob h
          refine g_callVv eM_ok C Z (k_X11_pops hσ52) lk_X11_383 (by decide) rfl rfl hl (by decide) rfl (Nat.le_of_ble_eq_true rfl) (rest := []) rfl dX11_sum_100 (fun H locs Z => ?_)
          refine lv_goto (tgt := 36) hx hb dX11_sum_103 (by decide) ?_
          exact ih _ _ _ _ Z (lv_sub hl [0, 1] rfl) h
set_option maxRecDepth 20000 in
theorem w_X11_sum_5 {p : Program} {l : Launch} {e : Env} {s : State} {m : MethodId} {args : Array Value} {below : List Frame} {meth : Method} {c : Code} {Q : State → Prop} {D : va_G} {kc : Nat → ClassId} {ad : Nat → Nat} {A : Nat → Prop} (C : Cx eM p s m args c cX11_sum 4 RX11 D kc A) {R : Int32 × St} {x1 : Int32} (hR : RTi 0 0 p l e r_X11_sum s m args below meth c cX11_sum tM kc ad D A Q .boolean R.1 R.2) : ∀ (n : Nat) (σ : St) (H : Heap) (locs : List Loc) (ls : Array Slot), Dy tM kc ad D A s.heap σ H locs → lv_has ls 4 [(0, .ref (ad 0)), (1, .int x1)] → f_X11_sum_5 x1 n σ = some R → W p l e r_X11_sum s m args below meth c H locs 0 0 Q (F0 m 5 ls []) := by
  have hx := C.1.1
  have hb := C.1.2.1
  intro n
  induction n with
  | zero =>
    intro σ H locs ls Z hl h
    exact absurd (show none = some R from h) (by simp)
  | succ n ih =>
    intro σ H locs ls Z hl h
    rw [f_X11_sum_5] at h
    refine lv_aload_n hx hb dX11_sum_5 rfl (lv_at hl 0 rfl) ?_
    obtain ⟨u42, hu42, h⟩ := ob h
    refine g_callVi eM_ok C Z (k_X11_begins hu42) lk_X11_386 (by decide) rfl rfl hl (by decide) rfl (Nat.le_of_ble_eq_true rfl) (rest := []) rfl dX11_sum_6 (fun H locs Z => ?_)
    refine lv_istore_n (lv' := [(2, .int u42.1), (0, .ref (ad 0)), (1, .int x1)]) hx hb dX11_sum_9 rfl hl (by decide) rfl (fun ls hl => ?_)
    refine lv_iload_n hx hb dX11_sum_10 rfl (lv_at hl 0 rfl) ?_
    refine lv_if_ge (tgt := 16) hx hb dX11_sum_11 (by decide) (fun c11 => ?_) (fun c11 => ?_)
    · have h := ip h c11
      refine lv_iload_n hx hb dX11_sum_16 rfl (lv_at hl 0 rfl) ?_
      refine lv_if_ne (tgt := 23) hx hb dX11_sum_17 (by decide) (fun c17 => ?_) (fun c17 => ?_)
      · have h := im h c17
        refine lv_aload_n hx hb dX11_sum_23 rfl (lv_at hl 1 rfl) ?_
        refine lv_iload_n hx hb dX11_sum_24 rfl (lv_at hl 2 rfl) ?_
        refine lv_iconst (v := 2) hx hb dX11_sum_25 (by decide) ?_
        obtain ⟨v43, hv43, h⟩ := ob h
        refine g_callVi eM_ok C Z (k_X11_isTop hv43) lk_X11_380 (by decide) rfl rfl hl (by decide) rfl (Nat.le_of_ble_eq_true rfl) (rest := []) rfl dX11_sum_26 (fun H locs Z => ?_)
        refine lv_if_eq (tgt := 36) hx hb dX11_sum_29 (by decide) (fun c29 => ?_) (fun c29 => ?_)
        · have h := ip h c29
          exact w_X11_sum_36 C hR ih _ _ _ _ _ Z (lv_sub hl [1, 2] rfl) h
        · have h := im h c29
          refine lv_aload_n hx hb dX11_sum_32 rfl (lv_at hl 1 rfl) ?_
          obtain ⟨σ44, hσ44, h⟩ := ob h
          refine g_callVv eM_ok C Z (k_X11_pops hσ44) lk_X11_383 (by decide) rfl rfl hl (by decide) rfl (Nat.le_of_ble_eq_true rfl) (rest := []) rfl dX11_sum_33 (fun H locs Z => ?_)
          exact w_X11_sum_36 C hR ih _ _ _ _ _ Z (lv_sub hl [1, 2] rfl) h
      · have h := ip h c17
        refine lv_goto (tgt := 5) hx hb dX11_sum_20 (by decide) ?_
        exact ih _ _ _ _ Z (lv_sub hl [1, 2] rfl) h
    · have h := im h c11
      refine lv_iconst (v := 0) hx hb dX11_sum_14 (by decide) ?_
      obtain rfl := Option.some.inj h
      exact hR _ _ _ _ _ Z dX11_sum_15 rfl
set_option maxRecDepth 20000 in
theorem w_X11_sum_0 {p : Program} {l : Launch} {e : Env} {s : State} {m : MethodId} {args : Array Value} {below : List Frame} {meth : Method} {c : Code} {Q : State → Prop} {D : va_G} {kc : Nat → ClassId} {ad : Nat → Nat} {A : Nat → Prop} (C : Cx eM p s m args c cX11_sum 4 RX11 D kc A) {R : Int32 × St} {σ : St} (hR : RTi 0 0 p l e r_X11_sum s m args below meth c cX11_sum tM kc ad D A Q .boolean R.1 R.2) {H : Heap} {locs : List Loc} {ls : Array Slot} (Z : Dy tM kc ad D A s.heap σ H locs) (hl : lv_has ls 4 [(0, .ref (ad 0))]) (h : f_X11_sum σ = some R) : W p l e r_X11_sum s m args below meth c H locs 0 0 Q (F0 m 0 ls []) := by
  have hx := C.1.1
  have hb := C.1.2.1
  unfold f_X11_sum at h
  refine lv_aload_n hx hb dX11_sum_0 rfl (lv_at hl 0 rfl) ?_
  refine rg_X11_356 C Z dX11_sum_1 ?_
  obtain ⟨v41, ev41, h⟩ := lb h
  refine tn_i ev41 ?_
  refine lv_istore_n (lv' := [(1, .int v41), (0, .ref (ad 0))]) hx hb dX11_sum_4 rfl hl (by decide) rfl (fun ls hl => ?_)
  exact w_X11_sum_5 C hR _ _ _ _ _ Z (lv_sub hl [1, 0] rfl) h
theorem k_X11_sum {l : Launch} {kc : Nat → ClassId} {ad : Nat → Nat} {D : va_G} {σ : St} {R : Int32 × St} (h : f_X11_sum σ = some R) : KC eM tM kc ad D l yX11_sum (.code yX11_sum cX11_sum 4 (some .boolean)) r_X11_sum [.ref (ad 0)] (some (.int R.1)) σ R.2 := by
  refine g_enter (by decide) (Nat.le_of_ble_eq_true rfl) ?_
  intro p e s m args below meth c A hA C hr hlocks Z ls hl
  have hl : lv_has ls 4 [(0, .ref (ad 0))] := hl
  exact w_X11_sum_0 C (g_RTi C.1.1 C.1.2.1 hr hlocks hA)  Z hl h
def r_X11_fact : Room := { frames := 4, cells := 0, slots := 0, locals := 91 }
set_option maxRecDepth 20000 in
theorem w_X11_fact_152 {p : Program} {l : Launch} {e : Env} {s : State} {m : MethodId} {args : Array Value} {below : List Frame} {meth : Method} {c : Code} {Q : State → Prop} {D : va_G} {kc : Nat → ClassId} {ad : Nat → Nat} {A : Nat → Prop} (C : Cx eM p s m args c cX11_fact 5 RX11 D kc A) {R : Int32 × St} {y0 : Int32} {σ : St} (hR : RTi 0 0 p l e r_X11_fact s m args below meth c cX11_fact tM kc ad D A Q .boolean R.1 R.2) {H : Heap} {locs : List Loc} {ls : Array Slot} (Z : Dy tM kc ad D A s.heap σ H locs) (hl : lv_has ls 5 [(0, .ref (ad 0))]) (h : f_X11_fact_152 y0 σ = some R) : W p l e r_X11_fact s m args below meth c H locs 0 0 Q (F0 m 152 ls [.int y0]) := by
  have hx := C.1.1
  have hb := C.1.2.1
  unfold f_X11_fact_152 at h
  refine lv_istore (lv' := [(4, .int y0), (0, .ref (ad 0))]) hx hb dX11_fact_152 hl (by decide) rfl (fun ls hl => ?_)
  refine lv_aload_n hx hb dX11_fact_154 rfl (lv_at hl 1 rfl) ?_
  obtain ⟨u29, hu29, h⟩ := ob h
  refine g_callVi eM_ok C Z (k_X11_sum hu29) lk_X11_395 (by decide) rfl rfl hl (by decide) rfl (Nat.le_of_ble_eq_true rfl) (rest := []) rfl dX11_fact_155 (fun H locs Z => ?_)
  refine lv_if_ne (tgt := 163) hx hb dX11_fact_158 (by decide) (fun c158 => ?_) (fun c158 => ?_)
  · have h := im h c158
    refine lv_aload_n hx hb dX11_fact_163 rfl (lv_at hl 1 rfl) ?_
    refine lv_iconst (v := 5) hx hb dX11_fact_164 (by decide) ?_
    refine lv_iload hx hb dX11_fact_165 (lv_at hl 0 rfl) ?_
    refine lv_iadd hx hb dX11_fact_167 ?_
    refine lv_iconst (v := 0) hx hb dX11_fact_168 (by decide) ?_
    obtain ⟨σ30, hσ30, h⟩ := ob h
    refine g_callVv eM_ok C Z (k_X11_lays hσ30) lk_X11_359 (by decide) rfl rfl hl (by decide) rfl (Nat.le_of_ble_eq_true rfl) (rest := []) rfl dX11_fact_169 (fun H locs Z => ?_)
    refine lv_iconst (v := 1) hx hb dX11_fact_172 (by decide) ?_
    obtain rfl := Option.some.inj h
    exact hR _ _ _ _ _ Z dX11_fact_173 rfl
  · have h := ip h c158
    refine lv_iconst (v := 0) hx hb dX11_fact_161 (by decide) ?_
    obtain rfl := Option.some.inj h
    exact hR _ _ _ _ _ Z dX11_fact_162 rfl
set_option maxRecDepth 20000 in
theorem w_X11_fact_115 {p : Program} {l : Launch} {e : Env} {s : State} {m : MethodId} {args : Array Value} {below : List Frame} {meth : Method} {c : Code} {Q : State → Prop} {D : va_G} {kc : Nat → ClassId} {ad : Nat → Nat} {A : Nat → Prop} (C : Cx eM p s m args c cX11_fact 5 RX11 D kc A) {R : Int32 × St} {x1 : Int32} {x3 : Int32} {σ : St} (hR : RTi 0 0 p l e r_X11_fact s m args below meth c cX11_fact tM kc ad D A Q .boolean R.1 R.2) {H : Heap} {locs : List Loc} {ls : Array Slot} (Z : Dy tM kc ad D A s.heap σ H locs) (hl : lv_has ls 5 [(0, .ref (ad 0)), (1, .int x1), (3, .int x3)]) (h : f_X11_fact_115 x1 x3 σ = some R) : W p l e r_X11_fact s m args below meth c H locs 0 0 Q (F0 m 115 ls []) := by
  have hx := C.1.1
  have hb := C.1.2.1
  unfold f_X11_fact_115 at h
  refine lv_iload_n hx hb dX11_fact_115 rfl (lv_at hl 1 rfl) ?_
  refine lv_bipush (v := 61) hx hb dX11_fact_116 (by decide) ?_
  refine lv_icmp_ne (tgt := 125) hx hb dX11_fact_118 (by decide) (fun c118 => ?_) (fun c118 => ?_)
  · have h := im h c118
    refine lv_iload_n hx hb dX11_fact_125 rfl (lv_at hl 1 rfl) ?_
    refine lv_bipush (v := 60) hx hb dX11_fact_126 (by decide) ?_
    refine lv_icmp_ne (tgt := 143) hx hb dX11_fact_128 (by decide) (fun c128 => ?_) (fun c128 => ?_)
    · have h := im h c128
      refine lv_iload_n hx hb dX11_fact_143 rfl (lv_at hl 2 rfl) ?_
      refine lv_if_eq (tgt := 151) hx hb dX11_fact_144 (by decide) (fun c144 => ?_) (fun c144 => ?_)
      · have h := ip h c144
        refine lv_iconst (v := 4) hx hb dX11_fact_151 (by decide) ?_
        exact w_X11_fact_152 C hR Z (lv_sub hl [0] rfl) h
      · have h := im h c144
        refine lv_iconst (v := 3) hx hb dX11_fact_147 (by decide) ?_
        refine lv_goto (tgt := 152) hx hb dX11_fact_148 (by decide) ?_
        exact w_X11_fact_152 C hR Z (lv_sub hl [0] rfl) h
    · have h := ip h c128
      refine lv_iload_n hx hb dX11_fact_131 rfl (lv_at hl 2 rfl) ?_
      refine lv_if_eq (tgt := 139) hx hb dX11_fact_132 (by decide) (fun c132 => ?_) (fun c132 => ?_)
      · have h := ip h c132
        refine lv_iconst (v := 0) hx hb dX11_fact_139 (by decide) ?_
        refine lv_goto (tgt := 152) hx hb dX11_fact_140 (by decide) ?_
        exact w_X11_fact_152 C hR Z (lv_sub hl [0] rfl) h
      · have h := im h c132
        refine lv_iconst (v := 1) hx hb dX11_fact_135 (by decide) ?_
        refine lv_goto (tgt := 152) hx hb dX11_fact_136 (by decide) ?_
        exact w_X11_fact_152 C hR Z (lv_sub hl [0] rfl) h
  · have h := ip h c118
    refine lv_iconst (v := 2) hx hb dX11_fact_121 (by decide) ?_
    refine lv_goto (tgt := 152) hx hb dX11_fact_122 (by decide) ?_
    exact w_X11_fact_152 C hR Z (lv_sub hl [0] rfl) h
set_option maxRecDepth 20000 in
theorem w_X11_fact_100 {p : Program} {l : Launch} {e : Env} {s : State} {m : MethodId} {args : Array Value} {below : List Frame} {meth : Method} {c : Code} {Q : State → Prop} {D : va_G} {kc : Nat → ClassId} {ad : Nat → Nat} {A : Nat → Prop} (C : Cx eM p s m args c cX11_fact 5 RX11 D kc A) {R : Int32 × St} {x1 : Int32} {y0 : Int32} {σ : St} (hR : RTi 0 0 p l e r_X11_fact s m args below meth c cX11_fact tM kc ad D A Q .boolean R.1 R.2) {H : Heap} {locs : List Loc} {ls : Array Slot} (Z : Dy tM kc ad D A s.heap σ H locs) (hl : lv_has ls 5 [(0, .ref (ad 0)), (1, .int x1)]) (h : f_X11_fact_100 x1 y0 σ = some R) : W p l e r_X11_fact s m args below meth c H locs 0 0 Q (F0 m 100 ls [.int y0]) := by
  have hx := C.1.1
  have hb := C.1.2.1
  unfold f_X11_fact_100 at h
  refine lv_istore_n (lv' := [(3, .int y0), (0, .ref (ad 0)), (1, .int x1)]) hx hb dX11_fact_100 rfl hl (by decide) rfl (fun ls hl => ?_)
  refine lv_iload_n hx hb dX11_fact_101 rfl (lv_at hl 0 rfl) ?_
  refine lv_if_eq (tgt := 115) hx hb dX11_fact_102 (by decide) (fun c102 => ?_) (fun c102 => ?_)
  · have h := ip h c102
    exact w_X11_fact_115 C hR Z (lv_sub hl [1, 2, 0] rfl) h
  · have h := im h c102
    refine lv_aload_n hx hb dX11_fact_105 rfl (lv_at hl 1 rfl) ?_
    refine lv_dup hx hb dX11_fact_106 rfl ?_
    refine rg_X11_326 C Z dX11_fact_107 ?_
    refine lv_iconst (v := 1) hx hb dX11_fact_110 (by decide) ?_
    refine lv_iadd hx hb dX11_fact_111 ?_
    obtain ⟨σ28, eσ28, h⟩ := lb h
    refine rp_X11_326 C Z eσ28 dX11_fact_112 (fun H locs Z => ?_)
    exact w_X11_fact_115 C hR Z (lv_sub hl [1, 2, 0] rfl) h
set_option maxRecDepth 20000 in
theorem w_X11_fact_99 {p : Program} {l : Launch} {e : Env} {s : State} {m : MethodId} {args : Array Value} {below : List Frame} {meth : Method} {c : Code} {Q : State → Prop} {D : va_G} {kc : Nat → ClassId} {ad : Nat → Nat} {A : Nat → Prop} (C : Cx eM p s m args c cX11_fact 5 RX11 D kc A) {R : Int32 × St} {x1 : Int32} {σ : St} (hR : RTi 0 0 p l e r_X11_fact s m args below meth c cX11_fact tM kc ad D A Q .boolean R.1 R.2) {H : Heap} {locs : List Loc} {ls : Array Slot} (Z : Dy tM kc ad D A s.heap σ H locs) (hl : lv_has ls 5 [(0, .ref (ad 0)), (1, .int x1)]) (h : f_X11_fact_99 x1 σ = some R) : W p l e r_X11_fact s m args below meth c H locs 0 0 Q (F0 m 99 ls []) := by
  have hx := C.1.1
  have hb := C.1.2.1
  unfold f_X11_fact_99 at h
  refine lv_iconst (v := 0) hx hb dX11_fact_99 (by decide) ?_
  exact w_X11_fact_100 C hR Z (lv_sub hl [0, 1] rfl) h
set_option maxRecDepth 20000 in
theorem w_X11_fact_44 {p : Program} {l : Launch} {e : Env} {s : State} {m : MethodId} {args : Array Value} {below : List Frame} {meth : Method} {c : Code} {Q : State → Prop} {D : va_G} {kc : Nat → ClassId} {ad : Nat → Nat} {A : Nat → Prop} (C : Cx eM p s m args c cX11_fact 5 RX11 D kc A) {R : Int32 × St} {x1 : Int32} {x2 : Int32} {σ : St} (hR : RTi 0 0 p l e r_X11_fact s m args below meth c cX11_fact tM kc ad D A Q .boolean R.1 R.2) {H : Heap} {locs : List Loc} {ls : Array Slot} (Z : Dy tM kc ad D A s.heap σ H locs) (hl : lv_has ls 5 [(0, .ref (ad 0)), (1, .int x1), (2, .int x2)]) (h : f_X11_fact_44 x1 x2 σ = some R) : W p l e r_X11_fact s m args below meth c H locs 0 0 Q (F0 m 44 ls []) := by
  have hx := C.1.1
  have hb := C.1.2.1
  unfold f_X11_fact_44 at h
  refine lv_aload_n hx hb dX11_fact_44 rfl (lv_at hl 0 rfl) ?_
  refine lv_iload_n hx hb dX11_fact_45 rfl (lv_at hl 2 rfl) ?_
  obtain ⟨u25, hu25, h⟩ := ob h
  refine g_callVi eM_ok C Z (k_X11_makes hu25) lk_X11_372 (by decide) rfl rfl hl (by decide) rfl (Nat.le_of_ble_eq_true rfl) (rest := []) rfl dX11_fact_46 (fun H locs Z => ?_)
  refine lv_if_ne (tgt := 54) hx hb dX11_fact_49 (by decide) (fun c49 => ?_) (fun c49 => ?_)
  · have h := im h c49
    refine lv_aload_n hx hb dX11_fact_54 rfl (lv_at hl 0 rfl) ?_
    refine lv_dup hx hb dX11_fact_55 rfl ?_
    refine rg_X11_326 C Z dX11_fact_56 ?_
    refine lv_iconst (v := 1) hx hb dX11_fact_59 (by decide) ?_
    refine lv_iadd hx hb dX11_fact_60 ?_
    obtain ⟨σ26, eσ26, h⟩ := lb h
    refine rp_X11_326 C Z eσ26 dX11_fact_61 (fun H locs Z => ?_)
    refine lv_iload_n hx hb dX11_fact_64 rfl (lv_at hl 1 rfl) ?_
    refine lv_bipush (v := 61) hx hb dX11_fact_65 (by decide) ?_
    refine lv_icmp_eq (tgt := 99) hx hb dX11_fact_67 (by decide) (fun c67 => ?_) (fun c67 => ?_)
    · have h := ip h c67
      exact w_X11_fact_99 C hR Z (lv_sub hl [0, 1] rfl) h
    · have h := im h c67
      refine lv_aload_n hx hb dX11_fact_70 rfl (lv_at hl 0 rfl) ?_
      refine rg_X11_326 C Z dX11_fact_71 ?_
      refine lv_aload_n hx hb dX11_fact_74 rfl (lv_at hl 0 rfl) ?_
      refine rg_X11_316 C Z dX11_fact_75 ?_
      refine lv_icmp_ge (tgt := 99) hx hb dX11_fact_78 (by decide) (fun c78 => ?_) (fun c78 => ?_)
      · have h := ip h c78
        exact w_X11_fact_99 C hR Z (lv_sub hl [0, 1] rfl) h
      · have h := im h c78
        refine lv_aload_n hx hb dX11_fact_81 rfl (lv_at hl 0 rfl) ?_
        refine rg_X11_61 C Z dX11_fact_82 ?_
        refine lv_aload_n hx hb dX11_fact_85 rfl (lv_at hl 0 rfl) ?_
        refine rg_X11_326 C Z dX11_fact_86 ?_
        obtain ⟨v27, hv27, h⟩ := ob h
        refine g_bald C Z iaM18 hv27 dX11_fact_89 ?_
        refine lv_bipush (v := 61) hx hb dX11_fact_90 (by decide) ?_
        refine lv_icmp_ne (tgt := 99) hx hb dX11_fact_92 (by decide) (fun c92 => ?_) (fun c92 => ?_)
        · have h := im h c92
          exact w_X11_fact_99 C hR Z (lv_sub hl [0, 1] rfl) h
        · have h := ip h c92
          refine lv_iconst (v := 1) hx hb dX11_fact_95 (by decide) ?_
          refine lv_goto (tgt := 100) hx hb dX11_fact_96 (by decide) ?_
          exact w_X11_fact_100 C hR Z (lv_sub hl [0, 1] rfl) h
  · have h := ip h c49
    refine lv_iconst (v := 0) hx hb dX11_fact_52 (by decide) ?_
    obtain rfl := Option.some.inj h
    exact hR _ _ _ _ _ Z dX11_fact_53 rfl
set_option maxRecDepth 20000 in
theorem w_X11_fact_0 {p : Program} {l : Launch} {e : Env} {s : State} {m : MethodId} {args : Array Value} {below : List Frame} {meth : Method} {c : Code} {Q : State → Prop} {D : va_G} {kc : Nat → ClassId} {ad : Nat → Nat} {A : Nat → Prop} (C : Cx eM p s m args c cX11_fact 5 RX11 D kc A) {R : Int32 × St} {σ : St} (hR : RTi 0 0 p l e r_X11_fact s m args below meth c cX11_fact tM kc ad D A Q .boolean R.1 R.2) {H : Heap} {locs : List Loc} {ls : Array Slot} (Z : Dy tM kc ad D A s.heap σ H locs) (hl : lv_has ls 5 [(0, .ref (ad 0))]) (h : f_X11_fact σ = some R) : W p l e r_X11_fact s m args below meth c H locs 0 0 Q (F0 m 0 ls []) := by
  have hx := C.1.1
  have hb := C.1.2.1
  unfold f_X11_fact at h
  refine lv_aload_n hx hb dX11_fact_0 rfl (lv_at hl 0 rfl) ?_
  obtain ⟨u21, hu21, h⟩ := ob h
  refine g_callVi eM_ok C Z (k_X11_sum hu21) lk_X11_395 (by decide) rfl rfl hl (by decide) rfl (Nat.le_of_ble_eq_true rfl) (rest := []) rfl dX11_fact_1 (fun H locs Z => ?_)
  refine lv_if_ne (tgt := 9) hx hb dX11_fact_4 (by decide) (fun c4 => ?_) (fun c4 => ?_)
  · have h := im h c4
    refine lv_aload_n hx hb dX11_fact_9 rfl (lv_at hl 0 rfl) ?_
    obtain ⟨u22, hu22, h⟩ := ob h
    refine g_callVi eM_ok C Z (k_X11_see hu22) lk_X11_329 (by decide) rfl rfl hl (by decide) rfl (Nat.le_of_ble_eq_true rfl) (rest := []) rfl dX11_fact_10 (fun H locs Z => ?_)
    refine lv_istore_n (lv' := [(1, .int u22.1), (0, .ref (ad 0))]) hx hb dX11_fact_13 rfl hl (by decide) rfl (fun ls hl => ?_)
    refine lv_aload_n hx hb dX11_fact_14 rfl (lv_at hl 1 rfl) ?_
    refine rg_X11_326 C Z dX11_fact_15 ?_
    obtain ⟨v23, ev23, h⟩ := lb h
    refine tn_i ev23 ?_
    refine lv_istore_n (lv' := [(2, .int v23), (1, .int u22.1), (0, .ref (ad 0))]) hx hb dX11_fact_18 rfl hl (by decide) rfl (fun ls hl => ?_)
    refine lv_iload_n hx hb dX11_fact_19 rfl (lv_at hl 1 rfl) ?_
    refine lv_bipush (v := 60) hx hb dX11_fact_20 (by decide) ?_
    refine lv_icmp_eq (tgt := 44) hx hb dX11_fact_22 (by decide) (fun c22 => ?_) (fun c22 => ?_)
    · have h := ip h c22
      exact w_X11_fact_44 C hR Z (lv_sub hl [2, 1, 0] rfl) h
    · have h := im h c22
      refine lv_iload_n hx hb dX11_fact_25 rfl (lv_at hl 1 rfl) ?_
      refine lv_bipush (v := 61) hx hb dX11_fact_26 (by decide) ?_
      refine lv_icmp_eq (tgt := 44) hx hb dX11_fact_28 (by decide) (fun c28 => ?_) (fun c28 => ?_)
      · have h := ip h c28
        exact w_X11_fact_44 C hR Z (lv_sub hl [2, 1, 0] rfl) h
      · have h := im h c28
        refine lv_iload_n hx hb dX11_fact_31 rfl (lv_at hl 1 rfl) ?_
        refine lv_bipush (v := 62) hx hb dX11_fact_32 (by decide) ?_
        refine lv_icmp_eq (tgt := 44) hx hb dX11_fact_34 (by decide) (fun c34 => ?_) (fun c34 => ?_)
        · have h := ip h c34
          exact w_X11_fact_44 C hR Z (lv_sub hl [2, 1, 0] rfl) h
        · have h := im h c34
          refine lv_aload_n hx hb dX11_fact_37 rfl (lv_at hl 2 rfl) ?_
          refine lv_iconst (v := 0) hx hb dX11_fact_38 (by decide) ?_
          refine lv_iload_n hx hb dX11_fact_39 rfl (lv_at hl 0 rfl) ?_
          obtain ⟨u24, hu24, h⟩ := ob h
          refine g_callVi eM_ok C Z (k_X11_fails hu24) lk_X11_337 (by decide) rfl rfl hl (by decide) rfl (Nat.le_of_ble_eq_true rfl) (rest := []) rfl dX11_fact_40 (fun H locs Z => ?_)
          obtain rfl := Option.some.inj h
          exact hR _ _ _ _ _ Z dX11_fact_43 (nar_b _)
  · have h := ip h c4
    refine lv_iconst (v := 0) hx hb dX11_fact_7 (by decide) ?_
    obtain rfl := Option.some.inj h
    exact hR _ _ _ _ _ Z dX11_fact_8 rfl
theorem k_X11_fact {l : Launch} {kc : Nat → ClassId} {ad : Nat → Nat} {D : va_G} {σ : St} {R : Int32 × St} (h : f_X11_fact σ = some R) : KC eM tM kc ad D l yX11_fact (.code yX11_fact cX11_fact 5 (some .boolean)) r_X11_fact [.ref (ad 0)] (some (.int R.1)) σ R.2 := by
  refine g_enter (by decide) (Nat.le_of_ble_eq_true rfl) ?_
  intro p e s m args below meth c A hA C hr hlocks Z ls hl
  have hl : lv_has ls 5 [(0, .ref (ad 0))] := hl
  exact w_X11_fact_0 C (g_RTi C.1.1 C.1.2.1 hr hlocks hA)  Z hl h
def r_X11_endedFact : Room := { frames := 2, cells := 0, slots := 0, locals := 42 }
set_option maxRecDepth 20000 in
theorem w_X11_endedFact_0 {p : Program} {l : Launch} {e : Env} {s : State} {m : MethodId} {args : Array Value} {below : List Frame} {meth : Method} {c : Code} {Q : State → Prop} {D : va_G} {kc : Nat → ClassId} {ad : Nat → Nat} {A : Nat → Prop} (C : Cx eM p s m args c cX11_endedFact 2 RX11 D kc A) {R : St} {x1 : Int32} (hR : RTv 0 0 p l e r_X11_endedFact s m args below meth c cX11_endedFact tM kc ad D A Q R) : ∀ (n : Nat) (σ : St) (H : Heap) (locs : List Loc) (ls : Array Slot), Dy tM kc ad D A s.heap σ H locs → lv_has ls 2 [(0, .ref (ad 0)), (1, .int x1)] → f_X11_endedFact_0 x1 n σ = some R → W p l e r_X11_endedFact s m args below meth c H locs 0 0 Q (F0 m 0 ls []) := by
  have hx := C.1.1
  have hb := C.1.2.1
  intro n
  induction n with
  | zero =>
    intro σ H locs ls Z hl h
    exact absurd (show none = some R from h) (by simp)
  | succ n ih =>
    intro σ H locs ls Z hl h
    rw [f_X11_endedFact_0] at h
    refine lv_aload_n hx hb dX11_endedFact_0 rfl (lv_at hl 0 rfl) ?_
    refine lv_iload_n hx hb dX11_endedFact_1 rfl (lv_at hl 1 rfl) ?_
    refine lv_bipush (v := 10) hx hb dX11_endedFact_2 (by decide) ?_
    obtain ⟨v7, hv7, h⟩ := ob h
    refine g_callVi eM_ok C Z (k_X11_isTop hv7) lk_X11_380 (by decide) rfl rfl hl (by decide) rfl (Nat.le_of_ble_eq_true rfl) (rest := []) rfl dX11_endedFact_4 (fun H locs Z => ?_)
    refine lv_if_eq (tgt := 27) hx hb dX11_endedFact_7 (by decide) (fun c7 => ?_) (fun c7 => ?_)
    · have h := ip h c7
      obtain rfl := Option.some.inj h
      exact hR _ _ _ _ Z dX11_endedFact_27
    · have h := im h c7
      refine lv_aload_n hx hb dX11_endedFact_10 rfl (lv_at hl 0 rfl) ?_
      obtain ⟨σ8, hσ8, h⟩ := ob h
      refine g_callVv eM_ok C Z (k_X11_pops hσ8) lk_X11_383 (by decide) rfl rfl hl (by decide) rfl (Nat.le_of_ble_eq_true rfl) (rest := []) rfl dX11_endedFact_11 (fun H locs Z => ?_)
      refine lv_aload_n hx hb dX11_endedFact_14 rfl (lv_at hl 0 rfl) ?_
      refine lv_dup hx hb dX11_endedFact_15 rfl ?_
      refine rg_X11_363 C Z dX11_endedFact_16 ?_
      refine lv_iconst (v := 1) hx hb dX11_endedFact_19 (by decide) ?_
      refine lv_isub hx hb dX11_endedFact_20 ?_
      obtain ⟨σ9, eσ9, h⟩ := lb h
      refine rp_X11_363 C Z eσ9 dX11_endedFact_21 (fun H locs Z => ?_)
      refine lv_goto (tgt := 0) hx hb dX11_endedFact_24 (by decide) ?_
      exact ih _ _ _ _ Z (lv_sub hl [0, 1] rfl) h
theorem k_X11_endedFact {l : Launch} {kc : Nat → ClassId} {ad : Nat → Nat} {D : va_G} {x1 : Int32} {σ : St} {R : St} (h : f_X11_endedFact x1 σ = some R) : KC eM tM kc ad D l yX11_endedFact (.code yX11_endedFact cX11_endedFact 2 none) r_X11_endedFact [.ref (ad 0), .int x1] none σ R := by
  refine g_enter (by decide) (Nat.le_of_ble_eq_true rfl) ?_
  intro p e s m args below meth c A hA C hr hlocks Z ls hl
  have hl : lv_has ls 2 [(0, .ref (ad 0)), (1, .int x1)] := hl
  exact w_X11_endedFact_0 C (g_RTv C.1.1 C.1.2.1 hr hlocks hA)  _ _ _ _ _ Z (lv_sub hl [0, 1] rfl) h
