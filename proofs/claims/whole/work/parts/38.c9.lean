def r_X10_count : Room := { frames := 0, cells := 0, slots := 0, locals := 0 }
set_option maxRecDepth 20000 in
theorem w_X10_count_0 {p : Program} {l : Launch} {e : Env} {s : State} {m : MethodId} {args : Array Value} {below : List Frame} {meth : Method} {c : Code} {Q : State → Prop} {D : va_G} {kc : Nat → ClassId} {ad : Nat → Nat} {A : Nat → Prop} {adK adV : Nat → Nat} (C : Cx (eC adK adV) p s m args c cX10_count 2 RX10 D kc A) {R : Int32} {x1 : Int32} {σ : St} (hR : RTi 0 0 p l e r_X10_count s m args below meth c cX10_count tC kc ad D A Q .int R σ) {H : Heap} {locs : List Loc} {ls : Array Slot} (Z : Dy tC kc ad D A s.heap σ H locs) (hl : lv_has ls 2 [(0, .ref (ad 0)), (1, .int x1)]) (h : f_X10_count x1 σ = some R) : W p l e r_X10_count s m args below meth c H locs 0 0 Q (F0 m 0 ls []) := by
  have hx := C.1.1
  have hb := C.1.2.1
  unfold f_X10_count at h
  refine lv_iload_n hx hb dX10_count_0 rfl (lv_at hl 1 rfl) ?_
  by_cases c1_0 : x1 = 0
  · have h := ip h c1_0
    refine lv_tableIn (tgt := 64) (off := 63) hx hb dX10_count_1 (by rw [c1_0]; decide) (by rw [c1_0]; decide) (by rw [c1_0]; decide) (by decide) ?_
    refine lv_aload_n hx hb dX10_count_64 rfl (lv_at hl 0 rfl) ?_
    refine rg_X10_7 C Z dX10_count_65 ?_
    obtain rfl := Option.some.inj h
    exact hR _ _ _ _ _ Z dX10_count_68 rfl
  have h := im h c1_0
  by_cases c1_1 : x1 = 1
  · have h := ip h c1_1
    refine lv_tableIn (tgt := 69) (off := 68) hx hb dX10_count_1 (by rw [c1_1]; decide) (by rw [c1_1]; decide) (by rw [c1_1]; decide) (by decide) ?_
    refine lv_aload_n hx hb dX10_count_69 rfl (lv_at hl 0 rfl) ?_
    refine rg_X10_23 C Z dX10_count_70 ?_
    refine rg_X10_185 C Z dX10_count_73 ?_
    obtain rfl := Option.some.inj h
    exact hR _ _ _ _ _ Z dX10_count_76 rfl
  have h := im h c1_1
  by_cases c1_2 : x1 = 2
  · have h := ip h c1_2
    refine lv_tableIn (tgt := 77) (off := 76) hx hb dX10_count_1 (by rw [c1_2]; decide) (by rw [c1_2]; decide) (by rw [c1_2]; decide) (by decide) ?_
    refine lv_aload_n hx hb dX10_count_77 rfl (lv_at hl 0 rfl) ?_
    refine rg_X10_30 C Z dX10_count_78 ?_
    refine rg_X10_197 C Z dX10_count_81 ?_
    obtain rfl := Option.some.inj h
    exact hR _ _ _ _ _ Z dX10_count_84 rfl
  have h := im h c1_2
  by_cases c1_3 : x1 = 3
  · have h := ip h c1_3
    refine lv_tableIn (tgt := 85) (off := 84) hx hb dX10_count_1 (by rw [c1_3]; decide) (by rw [c1_3]; decide) (by rw [c1_3]; decide) (by decide) ?_
    refine lv_aload_n hx hb dX10_count_85 rfl (lv_at hl 0 rfl) ?_
    refine rg_X10_16 C Z dX10_count_86 ?_
    refine rg_X10_359 C Z dX10_count_89 ?_
    refine lv_iconst (v := 0) hx hb dX10_count_92 (by decide) ?_
    obtain ⟨v5, hv5, h⟩ := ob h
    refine g_iald C Z iaC17 hv5 dX10_count_93 ?_
    obtain rfl := Option.some.inj h
    exact hR _ _ _ _ _ Z dX10_count_94 rfl
  have h := im h c1_3
  by_cases c1_4 : x1 = 4
  · have h := ip h c1_4
    refine lv_tableIn (tgt := 95) (off := 94) hx hb dX10_count_1 (by rw [c1_4]; decide) (by rw [c1_4]; decide) (by rw [c1_4]; decide) (by decide) ?_
    refine lv_aload_n hx hb dX10_count_95 rfl (lv_at hl 0 rfl) ?_
    refine rg_X10_16 C Z dX10_count_96 ?_
    refine rg_X10_359 C Z dX10_count_99 ?_
    refine lv_iconst (v := 1) hx hb dX10_count_102 (by decide) ?_
    obtain ⟨v6, hv6, h⟩ := ob h
    refine g_iald C Z iaC17 hv6 dX10_count_103 ?_
    obtain rfl := Option.some.inj h
    exact hR _ _ _ _ _ Z dX10_count_104 rfl
  have h := im h c1_4
  by_cases c1_5 : x1 = 5
  · have h := ip h c1_5
    refine lv_tableIn (tgt := 105) (off := 104) hx hb dX10_count_1 (by rw [c1_5]; decide) (by rw [c1_5]; decide) (by rw [c1_5]; decide) (by decide) ?_
    refine lv_aload_n hx hb dX10_count_105 rfl (lv_at hl 0 rfl) ?_
    refine rg_X10_37 C Z dX10_count_106 ?_
    refine rg_X10_362 C Z dX10_count_109 ?_
    obtain rfl := Option.some.inj h
    exact hR _ _ _ _ _ Z dX10_count_112 rfl
  have h := im h c1_5
  by_cases c1_6 : x1 = 6
  · have h := ip h c1_6
    refine lv_tableIn (tgt := 113) (off := 112) hx hb dX10_count_1 (by rw [c1_6]; decide) (by rw [c1_6]; decide) (by rw [c1_6]; decide) (by decide) ?_
    refine lv_aload_n hx hb dX10_count_113 rfl (lv_at hl 0 rfl) ?_
    refine rg_X10_61 C Z dX10_count_114 ?_
    obtain rfl := Option.some.inj h
    exact hR _ _ _ _ _ Z dX10_count_117 rfl
  have h := im h c1_6
  by_cases c1_7 : x1 = 7
  · have h := ip h c1_7
    refine lv_tableIn (tgt := 118) (off := 117) hx hb dX10_count_1 (by rw [c1_7]; decide) (by rw [c1_7]; decide) (by rw [c1_7]; decide) (by decide) ?_
    refine lv_aload_n hx hb dX10_count_118 rfl (lv_at hl 0 rfl) ?_
    refine rg_X10_81 C Z dX10_count_119 ?_
    refine rg_X10_363 C Z dX10_count_122 ?_
    obtain rfl := Option.some.inj h
    exact hR _ _ _ _ _ Z dX10_count_125 rfl
  have h := im h c1_7
  by_cases c1_8 : x1 = 8
  · have h := ip h c1_8
    refine lv_tableIn (tgt := 126) (off := 125) hx hb dX10_count_1 (by rw [c1_8]; decide) (by rw [c1_8]; decide) (by rw [c1_8]; decide) (by decide) ?_
    refine lv_aload_n hx hb dX10_count_126 rfl (lv_at hl 0 rfl) ?_
    refine rg_X10_81 C Z dX10_count_127 ?_
    refine rg_X10_364 C Z dX10_count_130 ?_
    obtain rfl := Option.some.inj h
    exact hR _ _ _ _ _ Z dX10_count_133 rfl
  have h := im h c1_8
  by_cases c1_9 : x1 = 9
  · have h := ip h c1_9
    refine lv_tableIn (tgt := 134) (off := 133) hx hb dX10_count_1 (by rw [c1_9]; decide) (by rw [c1_9]; decide) (by rw [c1_9]; decide) (by decide) ?_
    refine lv_aload_n hx hb dX10_count_134 rfl (lv_at hl 0 rfl) ?_
    refine rg_X10_88 C Z dX10_count_135 ?_
    refine rg_X10_367 C Z dX10_count_138 ?_
    obtain rfl := Option.some.inj h
    exact hR _ _ _ _ _ Z dX10_count_141 rfl
  have h := im h c1_9
  by_cases c1_10 : x1 = 10
  · have h := ip h c1_10
    refine lv_tableIn (tgt := 142) (off := 141) hx hb dX10_count_1 (by rw [c1_10]; decide) (by rw [c1_10]; decide) (by rw [c1_10]; decide) (by decide) ?_
    refine lv_aload_n hx hb dX10_count_142 rfl (lv_at hl 0 rfl) ?_
    refine rg_X10_95 C Z dX10_count_143 ?_
    refine rg_X10_352 C Z dX10_count_146 ?_
    obtain rfl := Option.some.inj h
    exact hR _ _ _ _ _ Z dX10_count_149 rfl
  have h := im h c1_10
  by_cases c1_11 : x1 = 11
  · have h := ip h c1_11
    refine lv_tableIn (tgt := 150) (off := 149) hx hb dX10_count_1 (by rw [c1_11]; decide) (by rw [c1_11]; decide) (by rw [c1_11]; decide) (by decide) ?_
    refine lv_aload_n hx hb dX10_count_150 rfl (lv_at hl 0 rfl) ?_
    refine rg_X10_46 C Z dX10_count_151 ?_
    refine rg_X10_215 C Z dX10_count_154 ?_
    obtain rfl := Option.some.inj h
    exact hR _ _ _ _ _ Z dX10_count_157 rfl
  have h := im h c1_11
  refine lv_tableOut (tgt := 158) hx hb dX10_count_1 ?_ (by decide) ?_
  · have t0 := fun e => c1_0 (i32_of (b := 0) (n := 0) e (by decide)); have t1 := fun e => c1_1 (i32_of (b := 1) (n := 1) e (by decide)); have t2 := fun e => c1_2 (i32_of (b := 2) (n := 2) e (by decide)); have t3 := fun e => c1_3 (i32_of (b := 3) (n := 3) e (by decide)); have t4 := fun e => c1_4 (i32_of (b := 4) (n := 4) e (by decide)); have t5 := fun e => c1_5 (i32_of (b := 5) (n := 5) e (by decide)); have t6 := fun e => c1_6 (i32_of (b := 6) (n := 6) e (by decide)); have t7 := fun e => c1_7 (i32_of (b := 7) (n := 7) e (by decide)); have t8 := fun e => c1_8 (i32_of (b := 8) (n := 8) e (by decide)); have t9 := fun e => c1_9 (i32_of (b := 9) (n := 9) e (by decide)); have t10 := fun e => c1_10 (i32_of (b := 10) (n := 10) e (by decide)); have t11 := fun e => c1_11 (i32_of (b := 11) (n := 11) e (by decide)); omega
  · refine lv_iconst (v := (-1)) hx hb dX10_count_158 (by decide) ?_
    obtain rfl := Option.some.inj h
    exact hR _ _ _ _ _ Z dX10_count_159 rfl
theorem k_X10_count {l : Launch} {kc : Nat → ClassId} {ad : Nat → Nat} {D : va_G} {adK adV : Nat → Nat} {x1 : Int32} {σ : St} {R : Int32} (h : f_X10_count x1 σ = some R) : KC (eC adK adV) tC kc ad D l yX10_count (.code yX10_count cX10_count 2 (some .int)) r_X10_count [.ref (ad 0), .int x1] (some (.int R)) σ σ := by
  refine g_enter (by decide) (Nat.le_of_ble_eq_true rfl) ?_
  intro p e s m args below meth c A hA C hr hlocks Z ls hl
  have hl : lv_has ls 2 [(0, .ref (ad 0)), (1, .int x1)] := hl
  exact w_X10_count_0 C (g_RTi C.1.1 C.1.2.1 hr hlocks hA)  Z hl h
