def ph_X6 (ad : Nat → Nat) (k : Nat) : Value := ([.ref (ad 0), .ref (ad 1), .ref (ad 2), .ref (ad 3), .int 0, .int 0] : List Value).getD k .null
def ae_X6 (kc : Nat → ClassId) (j : Nat) : va_E := ([.inl (kc 0, 576, .inl (fun _ => 0)), .inl (kc 0, 32, .inl (fun _ => 0)), .inl (kc 0, 32, .inl (fun _ => 0)), .inl (kc 0, 2, .inl (fun _ => 0))] : List va_E).getD j (.inr (0, []))
def rI_X6 : Room := { frames := 1, cells := 4, slots := 642, locals := 20 }
set_option maxRecDepth 100000 in
set_option maxHeartbeats 4000000 in
theorem ki_X6 {l : Launch} {kc : Nat → ClassId} {D : va_G} {h0 : Nat} : KN kc D l yX6_init (.code yX6_init cX6_init 1 none) rI_X6 [] 6 6 h0 (fun k => defaultValue (tyX6 k)) 4 ph_X6 (ae_X6 kc) 4 642 := by
  refine cw_enter (by decide) rfl (Nat.le_of_ble_eq_true rfl) ?_
  intro p e s m args below meth c A hA C hr hlocks hin Z ls hl
  have hx := C.1.1
  have hb := C.1.2.1
  have hl : lv_has ls 1 [(0, .ref h0)] := hl
  refine lv_aload_n hx hb dX6_init_0 rfl (lv_at hl 0 rfl) ?_
  refine cw_obj C wM_X6_3 hl (by decide) (rest := []) (Nat.le_of_ble_eq_true rfl) dX6_init_1 ?_
  refine lv_aload_n hx hb dX6_init_4 rfl (lv_at hl 0 rfl) ?_
  refine lv_sipush (v := 576) hx hb dX6_init_5 (by decide) ?_
  refine cw_newI (N := 576) C Z ⟨by decide, by decide, by decide⟩ ⟨by decide, by decide⟩ dX6_init_8 (fun q0 H Z => ?_)
  refine cw_putF C Z hin 0 rfl inX6 tyX6_ok nmX6 (by decide) wF_X6_11 rfl rfl rfl rfl dX6_init_10 (fun H locs Z => ?_)
  refine lv_aload_n hx hb dX6_init_13 rfl (lv_at hl 0 rfl) ?_
  refine lv_bipush (v := 32) hx hb dX6_init_14 (by decide) ?_
  refine cw_newI (N := 32) C Z ⟨by decide, by decide, by decide⟩ ⟨by decide, by decide⟩ dX6_init_16 (fun q1 H Z => ?_)
  refine cw_putF C Z hin 1 rfl inX6 tyX6_ok nmX6 (by decide) wF_X6_15 rfl rfl rfl rfl dX6_init_18 (fun H locs Z => ?_)
  refine lv_aload_n hx hb dX6_init_21 rfl (lv_at hl 0 rfl) ?_
  refine lv_bipush (v := 32) hx hb dX6_init_22 (by decide) ?_
  refine cw_newI (N := 32) C Z ⟨by decide, by decide, by decide⟩ ⟨by decide, by decide⟩ dX6_init_24 (fun q2 H Z => ?_)
  refine cw_putF C Z hin 2 rfl inX6 tyX6_ok nmX6 (by decide) wF_X6_18 rfl rfl rfl rfl dX6_init_26 (fun H locs Z => ?_)
  refine lv_aload_n hx hb dX6_init_29 rfl (lv_at hl 0 rfl) ?_
  refine lv_iconst (v := 2) hx hb dX6_init_30 (by decide) ?_
  refine cw_newI (N := 2) C Z ⟨by decide, by decide, by decide⟩ ⟨by decide, by decide⟩ dX6_init_31 (fun q3 H Z => ?_)
  refine cw_putF C Z hin 3 rfl inX6 tyX6_ok nmX6 (by decide) wF_X6_21 rfl rfl rfl rfl dX6_init_33 (fun H locs Z => ?_)
  exact cw_ret C Z hr hlocks ⟨rfl, rfl⟩ rfl rfl dX6_init_36
def ph_X7 (ad : Nat → Nat) (k : Nat) : Value := ([.ref (ad 0), .ref (ad 1), .ref (ad 2), .ref (ad 3), .int 0] : List Value).getD k .null
def ae_X7 (kc : Nat → ClassId) (j : Nat) : va_E := ([.inl (kc 0, 40, .inl (fun _ => 0)), .inl (kc 0, 40, .inl (fun _ => 0)), .inl (kc 0, 40, .inl (fun _ => 0)), .inl (kc 0, 40, .inl (fun _ => 0))] : List va_E).getD j (.inr (0, []))
def rI_X7 : Room := { frames := 1, cells := 4, slots := 160, locals := 20 }
set_option maxRecDepth 100000 in
set_option maxHeartbeats 4000000 in
theorem ki_X7 {l : Launch} {kc : Nat → ClassId} {D : va_G} {h0 : Nat} : KN kc D l yX7_init (.code yX7_init cX7_init 1 none) rI_X7 [] 7 5 h0 (fun k => defaultValue (tyX7 k)) 4 ph_X7 (ae_X7 kc) 4 160 := by
  refine cw_enter (by decide) rfl (Nat.le_of_ble_eq_true rfl) ?_
  intro p e s m args below meth c A hA C hr hlocks hin Z ls hl
  have hx := C.1.1
  have hb := C.1.2.1
  have hl : lv_has ls 1 [(0, .ref h0)] := hl
  refine lv_aload_n hx hb dX7_init_0 rfl (lv_at hl 0 rfl) ?_
  refine cw_obj C wM_X7_3 hl (by decide) (rest := []) (Nat.le_of_ble_eq_true rfl) dX7_init_1 ?_
  refine lv_aload_n hx hb dX7_init_4 rfl (lv_at hl 0 rfl) ?_
  refine lv_bipush (v := 40) hx hb dX7_init_5 (by decide) ?_
  refine cw_newI (N := 40) C Z ⟨by decide, by decide, by decide⟩ ⟨by decide, by decide⟩ dX7_init_7 (fun q0 H Z => ?_)
  refine cw_putF C Z hin 0 rfl inX7 tyX7_ok nmX7 (by decide) wF_X7_11 rfl rfl rfl rfl dX7_init_9 (fun H locs Z => ?_)
  refine lv_aload_n hx hb dX7_init_12 rfl (lv_at hl 0 rfl) ?_
  refine lv_bipush (v := 40) hx hb dX7_init_13 (by decide) ?_
  refine cw_newI (N := 40) C Z ⟨by decide, by decide, by decide⟩ ⟨by decide, by decide⟩ dX7_init_15 (fun q1 H Z => ?_)
  refine cw_putF C Z hin 1 rfl inX7 tyX7_ok nmX7 (by decide) wF_X7_15 rfl rfl rfl rfl dX7_init_17 (fun H locs Z => ?_)
  refine lv_aload_n hx hb dX7_init_20 rfl (lv_at hl 0 rfl) ?_
  refine lv_bipush (v := 40) hx hb dX7_init_21 (by decide) ?_
  refine cw_newI (N := 40) C Z ⟨by decide, by decide, by decide⟩ ⟨by decide, by decide⟩ dX7_init_23 (fun q2 H Z => ?_)
  refine cw_putF C Z hin 2 rfl inX7 tyX7_ok nmX7 (by decide) wF_X7_18 rfl rfl rfl rfl dX7_init_25 (fun H locs Z => ?_)
  refine lv_aload_n hx hb dX7_init_28 rfl (lv_at hl 0 rfl) ?_
  refine lv_bipush (v := 40) hx hb dX7_init_29 (by decide) ?_
  refine cw_newI (N := 40) C Z ⟨by decide, by decide, by decide⟩ ⟨by decide, by decide⟩ dX7_init_31 (fun q3 H Z => ?_)
  refine cw_putF C Z hin 3 rfl inX7 tyX7_ok nmX7 (by decide) wF_X7_21 rfl rfl rfl rfl dX7_init_33 (fun H locs Z => ?_)
  exact cw_ret C Z hr hlocks ⟨rfl, rfl⟩ rfl rfl dX7_init_36
def ph_X5 (ad : Nat → Nat) (k : Nat) : Value := ([.ref (ad 0), .ref (ad 1), .ref (ad 2), .ref (ad 3), .ref (ad 4), .ref (ad 5), .ref (ad 6), .int 0, .ref (ad 7), .ref (ad 8), .ref (ad 9), .int 0] : List Value).getD k .null
def ae_X5 (kc : Nat → ClassId) (j : Nat) : va_E := ([.inl (kc 0, 300, .inl (fun _ => 0)), .inl (kc 0, 300, .inl (fun _ => 0)), .inl (kc 0, 300, .inl (fun _ => 0)), .inl (kc 0, 300, .inl (fun _ => 0)), .inl (kc 0, 300, .inl (fun _ => 0)), .inl (kc 0, 300, .inl (fun _ => 0)), .inl (kc 0, 300, .inl (fun _ => 0)), .inl (kc 0, 300, .inl (fun _ => 0)), .inl (kc 0, 300, .inl (fun _ => 0)), .inl (kc 0, 300, .inl (fun _ => 0))] : List va_E).getD j (.inr (0, []))
def rI_X5 : Room := { frames := 1, cells := 10, slots := 3000, locals := 20 }
set_option maxRecDepth 100000 in
set_option maxHeartbeats 4000000 in
theorem ki_X5 {l : Launch} {kc : Nat → ClassId} {D : va_G} {h0 : Nat} : KN kc D l yX5_init (.code yX5_init cX5_init 1 none) rI_X5 [] 5 12 h0 (fun k => defaultValue (tyX5 k)) 10 ph_X5 (ae_X5 kc) 10 3000 := by
  refine cw_enter (by decide) rfl (Nat.le_of_ble_eq_true rfl) ?_
  intro p e s m args below meth c A hA C hr hlocks hin Z ls hl
  have hx := C.1.1
  have hb := C.1.2.1
  have hl : lv_has ls 1 [(0, .ref h0)] := hl
  refine lv_aload_n hx hb dX5_init_0 rfl (lv_at hl 0 rfl) ?_
  refine cw_obj C wM_X5_3 hl (by decide) (rest := []) (Nat.le_of_ble_eq_true rfl) dX5_init_1 ?_
  refine lv_aload_n hx hb dX5_init_4 rfl (lv_at hl 0 rfl) ?_
  refine lv_sipush (v := 300) hx hb dX5_init_5 (by decide) ?_
  refine cw_newI (N := 300) C Z ⟨by decide, by decide, by decide⟩ ⟨by decide, by decide⟩ dX5_init_8 (fun q0 H Z => ?_)
  refine cw_putF C Z hin 0 rfl inX5 tyX5_ok nmX5 (by decide) wF_X5_11 rfl rfl rfl rfl dX5_init_10 (fun H locs Z => ?_)
  refine lv_aload_n hx hb dX5_init_13 rfl (lv_at hl 0 rfl) ?_
  refine lv_sipush (v := 300) hx hb dX5_init_14 (by decide) ?_
  refine cw_newI (N := 300) C Z ⟨by decide, by decide, by decide⟩ ⟨by decide, by decide⟩ dX5_init_17 (fun q1 H Z => ?_)
  refine cw_putF C Z hin 1 rfl inX5 tyX5_ok nmX5 (by decide) wF_X5_15 rfl rfl rfl rfl dX5_init_19 (fun H locs Z => ?_)
  refine lv_aload_n hx hb dX5_init_22 rfl (lv_at hl 0 rfl) ?_
  refine lv_sipush (v := 300) hx hb dX5_init_23 (by decide) ?_
  refine cw_newI (N := 300) C Z ⟨by decide, by decide, by decide⟩ ⟨by decide, by decide⟩ dX5_init_26 (fun q2 H Z => ?_)
  refine cw_putF C Z hin 2 rfl inX5 tyX5_ok nmX5 (by decide) wF_X5_18 rfl rfl rfl rfl dX5_init_28 (fun H locs Z => ?_)
  refine lv_aload_n hx hb dX5_init_31 rfl (lv_at hl 0 rfl) ?_
  refine lv_sipush (v := 300) hx hb dX5_init_32 (by decide) ?_
  refine cw_newI (N := 300) C Z ⟨by decide, by decide, by decide⟩ ⟨by decide, by decide⟩ dX5_init_35 (fun q3 H Z => ?_)
  refine cw_putF C Z hin 3 rfl inX5 tyX5_ok nmX5 (by decide) wF_X5_21 rfl rfl rfl rfl dX5_init_37 (fun H locs Z => ?_)
  refine lv_aload_n hx hb dX5_init_40 rfl (lv_at hl 0 rfl) ?_
  refine lv_sipush (v := 300) hx hb dX5_init_41 (by decide) ?_
  refine cw_newI (N := 300) C Z ⟨by decide, by decide, by decide⟩ ⟨by decide, by decide⟩ dX5_init_44 (fun q4 H Z => ?_)
  refine cw_putF C Z hin 4 rfl inX5 tyX5_ok nmX5 (by decide) wF_X5_24 rfl rfl rfl rfl dX5_init_46 (fun H locs Z => ?_)
  refine lv_aload_n hx hb dX5_init_49 rfl (lv_at hl 0 rfl) ?_
  refine lv_sipush (v := 300) hx hb dX5_init_50 (by decide) ?_
  refine cw_newI (N := 300) C Z ⟨by decide, by decide, by decide⟩ ⟨by decide, by decide⟩ dX5_init_53 (fun q5 H Z => ?_)
  refine cw_putF C Z hin 5 rfl inX5 tyX5_ok nmX5 (by decide) wF_X5_27 rfl rfl rfl rfl dX5_init_55 (fun H locs Z => ?_)
  refine lv_aload_n hx hb dX5_init_58 rfl (lv_at hl 0 rfl) ?_
  refine lv_sipush (v := 300) hx hb dX5_init_59 (by decide) ?_
  refine cw_newI (N := 300) C Z ⟨by decide, by decide, by decide⟩ ⟨by decide, by decide⟩ dX5_init_62 (fun q6 H Z => ?_)
  refine cw_putF C Z hin 6 rfl inX5 tyX5_ok nmX5 (by decide) wF_X5_30 rfl rfl rfl rfl dX5_init_64 (fun H locs Z => ?_)
  refine lv_aload_n hx hb dX5_init_67 rfl (lv_at hl 0 rfl) ?_
  refine lv_sipush (v := 300) hx hb dX5_init_68 (by decide) ?_
  refine cw_newI (N := 300) C Z ⟨by decide, by decide, by decide⟩ ⟨by decide, by decide⟩ dX5_init_71 (fun q7 H Z => ?_)
  refine cw_putF C Z hin 8 rfl inX5 tyX5_ok nmX5 (by decide) wF_X5_33 rfl rfl rfl rfl dX5_init_73 (fun H locs Z => ?_)
  refine lv_aload_n hx hb dX5_init_76 rfl (lv_at hl 0 rfl) ?_
  refine lv_sipush (v := 300) hx hb dX5_init_77 (by decide) ?_
  refine cw_newI (N := 300) C Z ⟨by decide, by decide, by decide⟩ ⟨by decide, by decide⟩ dX5_init_80 (fun q8 H Z => ?_)
  refine cw_putF C Z hin 9 rfl inX5 tyX5_ok nmX5 (by decide) wF_X5_36 rfl rfl rfl rfl dX5_init_82 (fun H locs Z => ?_)
  refine lv_aload_n hx hb dX5_init_85 rfl (lv_at hl 0 rfl) ?_
  refine lv_sipush (v := 300) hx hb dX5_init_86 (by decide) ?_
  refine cw_newI (N := 300) C Z ⟨by decide, by decide, by decide⟩ ⟨by decide, by decide⟩ dX5_init_89 (fun q9 H Z => ?_)
  refine cw_putF C Z hin 10 rfl inX5 tyX5_ok nmX5 (by decide) wF_X5_39 rfl rfl rfl rfl dX5_init_91 (fun H locs Z => ?_)
  exact cw_ret C Z hr hlocks ⟨rfl, rfl⟩ rfl rfl dX5_init_94
def ph_X2 (ad : Nat → Nat) (k : Nat) : Value := ([.int 0, .ref (ad 0), .ref (ad 1), .ref (ad 2), .ref (ad 3), .ref (ad 4), .ref (ad 5), .int 0, .int 0, .ref (ad 6), .ref (ad 7), .ref (ad 8), .ref (ad 9), .ref (ad 10), .ref (ad 11), .ref (ad 12)] : List Value).getD k .null
def ae_X2 (kc : Nat → ClassId) (j : Nat) : va_E := ([.inl (kc 0, 12, .inl (fun _ => 0)), .inl (kc 0, 12, .inl (fun _ => 0)), .inl (kc 0, 12, .inl (fun _ => 0)), .inl (kc 0, 12, .inl (fun _ => 0)), .inl (kc 0, 12, .inl (fun _ => 0)), .inl (kc 0, 400, .inl (fun _ => 0)), .inl (kc 0, 144, .inl (fun _ => 0)), .inl (kc 0, 144, .inl (fun _ => 0)), .inl (kc 0, 144, .inl (fun _ => 0)), .inl (kc 0, 144, .inl (fun _ => 0)), .inl (kc 0, 144, .inl (fun _ => 0)), .inl (kc 0, 144, .inl (fun _ => 0)), .inl (kc 1, 96, .inr (.inl (fun _ => 0)))] : List va_E).getD j (.inr (0, []))
def rI_X2 : Room := { frames := 1, cells := 13, slots := 1420, locals := 20 }
set_option maxRecDepth 100000 in
set_option maxHeartbeats 4000000 in
theorem ki_X2 {l : Launch} {kc : Nat → ClassId} {D : va_G} {h0 : Nat} : KN kc D l yX2_init (.code yX2_init cX2_init 1 none) rI_X2 [] 2 16 h0 (fun k => defaultValue (tyX2 k)) 13 ph_X2 (ae_X2 kc) 13 1420 := by
  refine cw_enter (by decide) rfl (Nat.le_of_ble_eq_true rfl) ?_
  intro p e s m args below meth c A hA C hr hlocks hin Z ls hl
  have hx := C.1.1
  have hb := C.1.2.1
  have hl : lv_has ls 1 [(0, .ref h0)] := hl
  refine lv_aload_n hx hb dX2_init_0 rfl (lv_at hl 0 rfl) ?_
  refine cw_obj C wM_X2_3 hl (by decide) (rest := []) (Nat.le_of_ble_eq_true rfl) dX2_init_1 ?_
  refine lv_aload_n hx hb dX2_init_4 rfl (lv_at hl 0 rfl) ?_
  refine lv_bipush (v := 12) hx hb dX2_init_5 (by decide) ?_
  refine cw_newI (N := 12) C Z ⟨by decide, by decide, by decide⟩ ⟨by decide, by decide⟩ dX2_init_7 (fun q0 H Z => ?_)
  refine cw_putF C Z hin 1 rfl inX2 tyX2_ok nmX2 (by decide) wF_X2_11 rfl rfl rfl rfl dX2_init_9 (fun H locs Z => ?_)
  refine lv_aload_n hx hb dX2_init_12 rfl (lv_at hl 0 rfl) ?_
  refine lv_bipush (v := 12) hx hb dX2_init_13 (by decide) ?_
  refine cw_newI (N := 12) C Z ⟨by decide, by decide, by decide⟩ ⟨by decide, by decide⟩ dX2_init_15 (fun q1 H Z => ?_)
  refine cw_putF C Z hin 2 rfl inX2 tyX2_ok nmX2 (by decide) wF_X2_15 rfl rfl rfl rfl dX2_init_17 (fun H locs Z => ?_)
  refine lv_aload_n hx hb dX2_init_20 rfl (lv_at hl 0 rfl) ?_
  refine lv_bipush (v := 12) hx hb dX2_init_21 (by decide) ?_
  refine cw_newI (N := 12) C Z ⟨by decide, by decide, by decide⟩ ⟨by decide, by decide⟩ dX2_init_23 (fun q2 H Z => ?_)
  refine cw_putF C Z hin 3 rfl inX2 tyX2_ok nmX2 (by decide) wF_X2_18 rfl rfl rfl rfl dX2_init_25 (fun H locs Z => ?_)
  refine lv_aload_n hx hb dX2_init_28 rfl (lv_at hl 0 rfl) ?_
  refine lv_bipush (v := 12) hx hb dX2_init_29 (by decide) ?_
  refine cw_newI (N := 12) C Z ⟨by decide, by decide, by decide⟩ ⟨by decide, by decide⟩ dX2_init_31 (fun q3 H Z => ?_)
  refine cw_putF C Z hin 4 rfl inX2 tyX2_ok nmX2 (by decide) wF_X2_21 rfl rfl rfl rfl dX2_init_33 (fun H locs Z => ?_)
  refine lv_aload_n hx hb dX2_init_36 rfl (lv_at hl 0 rfl) ?_
  refine lv_bipush (v := 12) hx hb dX2_init_37 (by decide) ?_
  refine cw_newI (N := 12) C Z ⟨by decide, by decide, by decide⟩ ⟨by decide, by decide⟩ dX2_init_39 (fun q4 H Z => ?_)
  refine cw_putF C Z hin 5 rfl inX2 tyX2_ok nmX2 (by decide) wF_X2_24 rfl rfl rfl rfl dX2_init_41 (fun H locs Z => ?_)
  refine lv_aload_n hx hb dX2_init_44 rfl (lv_at hl 0 rfl) ?_
  refine lv_sipush (v := 400) hx hb dX2_init_45 (by decide) ?_
  refine cw_newI (N := 400) C Z ⟨by decide, by decide, by decide⟩ ⟨by decide, by decide⟩ dX2_init_48 (fun q5 H Z => ?_)
  refine cw_put C Z 6 rfl inX2 tyX2_ok nmX2 (by decide) wF_X2_27 rfl rfl rfl dX2_init_50 (fun H locs Z => ?_)
  refine lv_aload_n hx hb dX2_init_53 rfl (lv_at hl 0 rfl) ?_
  refine lv_sipush (v := 144) hx hb dX2_init_54 (by decide) ?_
  refine cw_newI (N := 144) C Z ⟨by decide, by decide, by decide⟩ ⟨by decide, by decide⟩ dX2_init_57 (fun q6 H Z => ?_)
  refine cw_putF C Z hin 9 rfl inX2 tyX2_ok nmX2 (by decide) wF_X2_30 rfl rfl rfl rfl dX2_init_59 (fun H locs Z => ?_)
  refine lv_aload_n hx hb dX2_init_62 rfl (lv_at hl 0 rfl) ?_
  refine lv_sipush (v := 144) hx hb dX2_init_63 (by decide) ?_
  refine cw_newI (N := 144) C Z ⟨by decide, by decide, by decide⟩ ⟨by decide, by decide⟩ dX2_init_66 (fun q7 H Z => ?_)
  refine cw_putF C Z hin 10 rfl inX2 tyX2_ok nmX2 (by decide) wF_X2_33 rfl rfl rfl rfl dX2_init_68 (fun H locs Z => ?_)
  refine lv_aload_n hx hb dX2_init_71 rfl (lv_at hl 0 rfl) ?_
  refine lv_sipush (v := 144) hx hb dX2_init_72 (by decide) ?_
  refine cw_newI (N := 144) C Z ⟨by decide, by decide, by decide⟩ ⟨by decide, by decide⟩ dX2_init_75 (fun q8 H Z => ?_)
  refine cw_putF C Z hin 11 rfl inX2 tyX2_ok nmX2 (by decide) wF_X2_36 rfl rfl rfl rfl dX2_init_77 (fun H locs Z => ?_)
  refine lv_aload_n hx hb dX2_init_80 rfl (lv_at hl 0 rfl) ?_
  refine lv_sipush (v := 144) hx hb dX2_init_81 (by decide) ?_
  refine cw_newI (N := 144) C Z ⟨by decide, by decide, by decide⟩ ⟨by decide, by decide⟩ dX2_init_84 (fun q9 H Z => ?_)
  refine cw_putF C Z hin 12 rfl inX2 tyX2_ok nmX2 (by decide) wF_X2_39 rfl rfl rfl rfl dX2_init_86 (fun H locs Z => ?_)
  refine lv_aload_n hx hb dX2_init_89 rfl (lv_at hl 0 rfl) ?_
  refine lv_sipush (v := 144) hx hb dX2_init_90 (by decide) ?_
  refine cw_newI (N := 144) C Z ⟨by decide, by decide, by decide⟩ ⟨by decide, by decide⟩ dX2_init_93 (fun q10 H Z => ?_)
  refine cw_putF C Z hin 13 rfl inX2 tyX2_ok nmX2 (by decide) wF_X2_42 rfl rfl rfl rfl dX2_init_95 (fun H locs Z => ?_)
  refine lv_aload_n hx hb dX2_init_98 rfl (lv_at hl 0 rfl) ?_
  refine lv_sipush (v := 144) hx hb dX2_init_99 (by decide) ?_
  refine cw_newI (N := 144) C Z ⟨by decide, by decide, by decide⟩ ⟨by decide, by decide⟩ dX2_init_102 (fun q11 H Z => ?_)
  refine cw_putF C Z hin 14 rfl inX2 tyX2_ok nmX2 (by decide) wF_X2_45 rfl rfl rfl rfl dX2_init_104 (fun H locs Z => ?_)
  refine lv_aload_n hx hb dX2_init_107 rfl (lv_at hl 0 rfl) ?_
  refine lv_bipush (v := 96) hx hb dX2_init_108 (by decide) ?_
  refine cw_newJ (N := 96) C Z ⟨by decide, by decide, by decide⟩ ⟨by decide, by decide⟩ dX2_init_110 (fun q12 H Z => ?_)
  refine cw_putF C Z hin 15 rfl inX2 tyX2_ok nmX2 (by decide) wF_X2_48 rfl rfl rfl rfl dX2_init_112 (fun H locs Z => ?_)
  exact cw_ret C Z hr hlocks ⟨rfl, rfl⟩ rfl rfl dX2_init_115
def ph_X4 (h1 : Nat) (ad : Nat → Nat) (k : Nat) : Value := ([.ref h1, .ref (ad 0), .int 0, .int 0, .int 0, .int 0, .int 0, .int 0, .int 0, .int 0] : List Value).getD k .null
def ae_X4 (kc : Nat → ClassId) (j : Nat) : va_E := ([.inl (kc 0, 400, .inl (fun _ => 0))] : List va_E).getD j (.inr (0, []))
def rI_X4 : Room := { frames := 1, cells := 1, slots := 400, locals := 20 }
set_option maxRecDepth 100000 in
set_option maxHeartbeats 4000000 in
theorem ki_X4 {l : Launch} {kc : Nat → ClassId} {D : va_G} {h0 h1 : Nat} : KN kc D l yX4_init (.code yX4_init cX4_init 2 none) rI_X4 [.ref h1] 4 10 h0 (fun k => defaultValue (tyX4 k)) 1 (ph_X4 h1) (ae_X4 kc) 1 400 := by
  refine cw_enter (by decide) rfl (Nat.le_of_ble_eq_true rfl) ?_
  intro p e s m args below meth c A hA C hr hlocks hin Z ls hl
  have hx := C.1.1
  have hb := C.1.2.1
  have hl : lv_has ls 2 [(0, .ref h0), (1, .ref h1)] := hl
  refine lv_aload_n hx hb dX4_init_0 rfl (lv_at hl 0 rfl) ?_
  refine cw_obj C wM_X4_3 hl (by decide) (rest := []) (Nat.le_of_ble_eq_true rfl) dX4_init_1 ?_
  refine lv_aload_n hx hb dX4_init_4 rfl (lv_at hl 0 rfl) ?_
  refine lv_sipush (v := 400) hx hb dX4_init_5 (by decide) ?_
  refine cw_newI (N := 400) C Z ⟨by decide, by decide, by decide⟩ ⟨by decide, by decide⟩ dX4_init_8 (fun q0 H Z => ?_)
  refine cw_putF C Z hin 1 rfl inX4 tyX4_ok nmX4 (by decide) wF_X4_11 rfl rfl rfl rfl dX4_init_10 (fun H locs Z => ?_)
  refine lv_aload_n hx hb dX4_init_13 rfl (lv_at hl 0 rfl) ?_
  refine lv_aload_n hx hb dX4_init_14 rfl (lv_at hl 1 rfl) ?_
  refine cw_putF C Z hin 0 rfl inX4 tyX4_ok nmX4 (by decide) wF_X4_17 rfl rfl rfl rfl dX4_init_15 (fun H locs Z => ?_)
  exact cw_ret C Z hr hlocks ⟨rfl, rfl⟩ rfl rfl dX4_init_18
def ph_X1 (ad : Nat → Nat) (k : Nat) : Value := ([.int 0, .int 0, .int 0, .int 0, .int 0, .int 0, .int 0, .ref (ad 0), .ref (ad 1), .ref (ad 2), .ref (ad 3), .int (-1)] : List Value).getD k .null
def ae_X1 (kc : Nat → ClassId) (j : Nat) : va_E := ([.inl (kc 0, 130, .inl (fun _ => 0)), .inl (kc 0, 650, .inl (fun _ => 0)), .inl (kc 0, 650, .inl (fun _ => 0)), .inl (kc 0, 650, .inl (fun _ => 0))] : List va_E).getD j (.inr (0, []))
def rI_X1 : Room := { frames := 1, cells := 4, slots := 2080, locals := 20 }
set_option maxRecDepth 100000 in
set_option maxHeartbeats 4000000 in
theorem ki_X1 {l : Launch} {kc : Nat → ClassId} {D : va_G} {h0 : Nat} : KN kc D l yX1_init (.code yX1_init cX1_init 1 none) rI_X1 [] 1 12 h0 (fun k => defaultValue (tyX1 k)) 4 ph_X1 (ae_X1 kc) 4 2080 := by
  refine cw_enter (by decide) rfl (Nat.le_of_ble_eq_true rfl) ?_
  intro p e s m args below meth c A hA C hr hlocks hin Z ls hl
  have hx := C.1.1
  have hb := C.1.2.1
  have hl : lv_has ls 1 [(0, .ref h0)] := hl
  refine lv_aload_n hx hb dX1_init_0 rfl (lv_at hl 0 rfl) ?_
  refine cw_obj C wM_X1_5 hl (by decide) (rest := []) (Nat.le_of_ble_eq_true rfl) dX1_init_1 ?_
  refine lv_aload_n hx hb dX1_init_4 rfl (lv_at hl 0 rfl) ?_
  refine lv_sipush (v := 130) hx hb dX1_init_5 (by decide) ?_
  refine cw_newI (N := 130) C Z ⟨by decide, by decide, by decide⟩ ⟨by decide, by decide⟩ dX1_init_8 (fun q0 H Z => ?_)
  refine cw_putF C Z hin 7 rfl inX1 tyX1_ok nmX1 (by decide) wF_X1_11 rfl rfl rfl rfl dX1_init_10 (fun H locs Z => ?_)
  refine lv_aload_n hx hb dX1_init_13 rfl (lv_at hl 0 rfl) ?_
  refine lv_sipush (v := 650) hx hb dX1_init_14 (by decide) ?_
  refine cw_newI (N := 650) C Z ⟨by decide, by decide, by decide⟩ ⟨by decide, by decide⟩ dX1_init_17 (fun q1 H Z => ?_)
  refine cw_putF C Z hin 8 rfl inX1 tyX1_ok nmX1 (by decide) wF_X1_15 rfl rfl rfl rfl dX1_init_19 (fun H locs Z => ?_)
  refine lv_aload_n hx hb dX1_init_22 rfl (lv_at hl 0 rfl) ?_
  refine lv_sipush (v := 650) hx hb dX1_init_23 (by decide) ?_
  refine cw_newI (N := 650) C Z ⟨by decide, by decide, by decide⟩ ⟨by decide, by decide⟩ dX1_init_26 (fun q2 H Z => ?_)
  refine cw_putF C Z hin 9 rfl inX1 tyX1_ok nmX1 (by decide) wF_X1_18 rfl rfl rfl rfl dX1_init_28 (fun H locs Z => ?_)
  refine lv_aload_n hx hb dX1_init_31 rfl (lv_at hl 0 rfl) ?_
  refine lv_sipush (v := 650) hx hb dX1_init_32 (by decide) ?_
  refine cw_newI (N := 650) C Z ⟨by decide, by decide, by decide⟩ ⟨by decide, by decide⟩ dX1_init_35 (fun q3 H Z => ?_)
  refine cw_putF C Z hin 10 rfl inX1 tyX1_ok nmX1 (by decide) wF_X1_21 rfl rfl rfl rfl dX1_init_37 (fun H locs Z => ?_)
  refine lv_aload_n hx hb dX1_init_40 rfl (lv_at hl 0 rfl) ?_
  refine lv_iconst (v := (-1)) hx hb dX1_init_41 (by decide) ?_
  refine cw_put C Z 11 rfl inX1 tyX1_ok nmX1 (by decide) wF_X1_24 rfl rfl rfl dX1_init_42 (fun H locs Z => ?_)
  exact cw_ret C Z hr hlocks ⟨rfl, rfl⟩ rfl rfl dX1_init_45
def ph_X8 (ad : Nat → Nat) (k : Nat) : Value := ([.ref (ad 0), .ref (ad 1), .ref (ad 2), .ref (ad 3), .ref (ad 4), .ref (ad 5), .ref (ad 6), .ref (ad 7)] : List Value).getD k .null
def ae_X8 (kc : Nat → ClassId) (j : Nat) : va_E := ([.inl (kc 0, 2, .inl (fun _ => 0)), .inl (kc 0, 2, .inl (fun _ => 0)), .inl (kc 0, 120, .inl (fun _ => 0)), .inl (kc 0, 8, .inl (fun _ => 0)), .inl (kc 0, 8, .inl (fun _ => 0)), .inl (kc 0, 8, .inl (fun _ => 0)), .inl (kc 1, 8, .inr (.inl (fun _ => 0))), .inl (kc 1, 8, .inr (.inl (fun _ => 0)))] : List va_E).getD j (.inr (0, []))
def rI_X8 : Room := { frames := 1, cells := 8, slots := 164, locals := 20 }
set_option maxRecDepth 100000 in
set_option maxHeartbeats 4000000 in
theorem ki_X8 {l : Launch} {kc : Nat → ClassId} {D : va_G} {h0 : Nat} : KN kc D l yX8_init (.code yX8_init cX8_init 1 none) rI_X8 [] 8 8 h0 (fun k => defaultValue (tyX8 k)) 8 ph_X8 (ae_X8 kc) 8 164 := by
  refine cw_enter (by decide) rfl (Nat.le_of_ble_eq_true rfl) ?_
  intro p e s m args below meth c A hA C hr hlocks hin Z ls hl
  have hx := C.1.1
  have hb := C.1.2.1
  have hl : lv_has ls 1 [(0, .ref h0)] := hl
  refine lv_aload_n hx hb dX8_init_0 rfl (lv_at hl 0 rfl) ?_
  refine cw_obj C wM_X8_3 hl (by decide) (rest := []) (Nat.le_of_ble_eq_true rfl) dX8_init_1 ?_
  refine lv_aload_n hx hb dX8_init_4 rfl (lv_at hl 0 rfl) ?_
  refine lv_iconst (v := 2) hx hb dX8_init_5 (by decide) ?_
  refine cw_newI (N := 2) C Z ⟨by decide, by decide, by decide⟩ ⟨by decide, by decide⟩ dX8_init_6 (fun q0 H Z => ?_)
  refine cw_putF C Z hin 0 rfl inX8 tyX8_ok nmX8 (by decide) wF_X8_9 rfl rfl rfl rfl dX8_init_8 (fun H locs Z => ?_)
  refine lv_aload_n hx hb dX8_init_11 rfl (lv_at hl 0 rfl) ?_
  refine lv_iconst (v := 2) hx hb dX8_init_12 (by decide) ?_
  refine cw_newI (N := 2) C Z ⟨by decide, by decide, by decide⟩ ⟨by decide, by decide⟩ dX8_init_13 (fun q1 H Z => ?_)
  refine cw_putF C Z hin 1 rfl inX8 tyX8_ok nmX8 (by decide) wF_X8_15 rfl rfl rfl rfl dX8_init_15 (fun H locs Z => ?_)
  refine lv_aload_n hx hb dX8_init_18 rfl (lv_at hl 0 rfl) ?_
  refine lv_bipush (v := 120) hx hb dX8_init_19 (by decide) ?_
  refine cw_newI (N := 120) C Z ⟨by decide, by decide, by decide⟩ ⟨by decide, by decide⟩ dX8_init_21 (fun q2 H Z => ?_)
  refine cw_putF C Z hin 2 rfl inX8 tyX8_ok nmX8 (by decide) wF_X8_18 rfl rfl rfl rfl dX8_init_23 (fun H locs Z => ?_)
  refine lv_aload_n hx hb dX8_init_26 rfl (lv_at hl 0 rfl) ?_
  refine lv_bipush (v := 8) hx hb dX8_init_27 (by decide) ?_
  refine cw_newI (N := 8) C Z ⟨by decide, by decide, by decide⟩ ⟨by decide, by decide⟩ dX8_init_29 (fun q3 H Z => ?_)
  refine cw_putF C Z hin 3 rfl inX8 tyX8_ok nmX8 (by decide) wF_X8_21 rfl rfl rfl rfl dX8_init_31 (fun H locs Z => ?_)
  refine lv_aload_n hx hb dX8_init_34 rfl (lv_at hl 0 rfl) ?_
  refine lv_bipush (v := 8) hx hb dX8_init_35 (by decide) ?_
  refine cw_newI (N := 8) C Z ⟨by decide, by decide, by decide⟩ ⟨by decide, by decide⟩ dX8_init_37 (fun q4 H Z => ?_)
  refine cw_putF C Z hin 4 rfl inX8 tyX8_ok nmX8 (by decide) wF_X8_24 rfl rfl rfl rfl dX8_init_39 (fun H locs Z => ?_)
  refine lv_aload_n hx hb dX8_init_42 rfl (lv_at hl 0 rfl) ?_
  refine lv_bipush (v := 8) hx hb dX8_init_43 (by decide) ?_
  refine cw_newI (N := 8) C Z ⟨by decide, by decide, by decide⟩ ⟨by decide, by decide⟩ dX8_init_45 (fun q5 H Z => ?_)
  refine cw_putF C Z hin 5 rfl inX8 tyX8_ok nmX8 (by decide) wF_X8_27 rfl rfl rfl rfl dX8_init_47 (fun H locs Z => ?_)
  refine lv_aload_n hx hb dX8_init_50 rfl (lv_at hl 0 rfl) ?_
  refine lv_bipush (v := 8) hx hb dX8_init_51 (by decide) ?_
  refine cw_newJ (N := 8) C Z ⟨by decide, by decide, by decide⟩ ⟨by decide, by decide⟩ dX8_init_53 (fun q6 H Z => ?_)
  refine cw_putF C Z hin 6 rfl inX8 tyX8_ok nmX8 (by decide) wF_X8_30 rfl rfl rfl rfl dX8_init_55 (fun H locs Z => ?_)
  refine lv_aload_n hx hb dX8_init_58 rfl (lv_at hl 0 rfl) ?_
  refine lv_bipush (v := 8) hx hb dX8_init_59 (by decide) ?_
  refine cw_newJ (N := 8) C Z ⟨by decide, by decide, by decide⟩ ⟨by decide, by decide⟩ dX8_init_61 (fun q7 H Z => ?_)
  refine cw_putF C Z hin 7 rfl inX8 tyX8_ok nmX8 (by decide) wF_X8_34 rfl rfl rfl rfl dX8_init_63 (fun H locs Z => ?_)
  exact cw_ret C Z hr hlocks ⟨rfl, rfl⟩ rfl rfl dX8_init_66
def ph_X9 (ad : Nat → Nat) (k : Nat) : Value := ([.ref (ad 0), .ref (ad 1), .ref (ad 2), .ref (ad 3), .int 0, .ref (ad 4), .int 0] : List Value).getD k .null
def ae_X9 (kc : Nat → ClassId) (j : Nat) : va_E := ([.inl (kc 0, 8, .inl (fun _ => 0)), .inl (kc 0, 8, .inl (fun _ => 0)), .inl (kc 0, 8, .inl (fun _ => 0)), .inl (kc 0, 8, .inl (fun _ => 0)), .inl (kc 3, 800, .inl (fun _ => 0))] : List va_E).getD j (.inr (0, []))
def rI_X9 : Room := { frames := 1, cells := 5, slots := 832, locals := 20 }
set_option maxRecDepth 100000 in
set_option maxHeartbeats 4000000 in
theorem ki_X9 {l : Launch} {kc : Nat → ClassId} {D : va_G} {h0 : Nat} : KN kc D l yX9_init (.code yX9_init cX9_init 1 none) rI_X9 [] 9 7 h0 (fun k => defaultValue (tyX9 k)) 5 ph_X9 (ae_X9 kc) 5 832 := by
  refine cw_enter (by decide) rfl (Nat.le_of_ble_eq_true rfl) ?_
  intro p e s m args below meth c A hA C hr hlocks hin Z ls hl
  have hx := C.1.1
  have hb := C.1.2.1
  have hl : lv_has ls 1 [(0, .ref h0)] := hl
  refine lv_aload_n hx hb dX9_init_0 rfl (lv_at hl 0 rfl) ?_
  refine cw_obj C wM_X9_3 hl (by decide) (rest := []) (Nat.le_of_ble_eq_true rfl) dX9_init_1 ?_
  refine lv_aload_n hx hb dX9_init_4 rfl (lv_at hl 0 rfl) ?_
  refine lv_bipush (v := 8) hx hb dX9_init_5 (by decide) ?_
  refine cw_newI (N := 8) C Z ⟨by decide, by decide, by decide⟩ ⟨by decide, by decide⟩ dX9_init_7 (fun q0 H Z => ?_)
  refine cw_putF C Z hin 0 rfl inX9 tyX9_ok nmX9 (by decide) wF_X9_11 rfl rfl rfl rfl dX9_init_9 (fun H locs Z => ?_)
  refine lv_aload_n hx hb dX9_init_12 rfl (lv_at hl 0 rfl) ?_
  refine lv_bipush (v := 8) hx hb dX9_init_13 (by decide) ?_
  refine cw_newI (N := 8) C Z ⟨by decide, by decide, by decide⟩ ⟨by decide, by decide⟩ dX9_init_15 (fun q1 H Z => ?_)
  refine cw_putF C Z hin 1 rfl inX9 tyX9_ok nmX9 (by decide) wF_X9_15 rfl rfl rfl rfl dX9_init_17 (fun H locs Z => ?_)
  refine lv_aload_n hx hb dX9_init_20 rfl (lv_at hl 0 rfl) ?_
  refine lv_bipush (v := 8) hx hb dX9_init_21 (by decide) ?_
  refine cw_newI (N := 8) C Z ⟨by decide, by decide, by decide⟩ ⟨by decide, by decide⟩ dX9_init_23 (fun q2 H Z => ?_)
  refine cw_putF C Z hin 2 rfl inX9 tyX9_ok nmX9 (by decide) wF_X9_18 rfl rfl rfl rfl dX9_init_25 (fun H locs Z => ?_)
  refine lv_aload_n hx hb dX9_init_28 rfl (lv_at hl 0 rfl) ?_
  refine lv_bipush (v := 8) hx hb dX9_init_29 (by decide) ?_
  refine cw_newI (N := 8) C Z ⟨by decide, by decide, by decide⟩ ⟨by decide, by decide⟩ dX9_init_31 (fun q3 H Z => ?_)
  refine cw_putF C Z hin 3 rfl inX9 tyX9_ok nmX9 (by decide) wF_X9_21 rfl rfl rfl rfl dX9_init_33 (fun H locs Z => ?_)
  refine lv_aload_n hx hb dX9_init_36 rfl (lv_at hl 0 rfl) ?_
  refine lv_sipush (v := 800) hx hb dX9_init_37 (by decide) ?_
  refine cw_newZ (N := 800) C Z ⟨by decide, by decide, by decide⟩ ⟨by decide, by decide⟩ dX9_init_40 (fun q4 H Z => ?_)
  refine cw_putF C Z hin 5 rfl inX9 tyX9_ok nmX9 (by decide) wF_X9_24 rfl rfl rfl rfl dX9_init_42 (fun H locs Z => ?_)
  exact cw_ret C Z hr hlocks ⟨rfl, rfl⟩ rfl rfl dX9_init_45
def ph_X3 (ad : Nat → Nat) (k : Nat) : Value := ([.ref (ad 0), .ref (ad 1), .int 0] : List Value).getD k .null
def ae_X3 (kc : Nat → ClassId) (j : Nat) : va_E := ([.inl (kc 0, 9, .inl (fun _ => 0)), .inl (kc 0, 9, .inl (fun _ => 0))] : List va_E).getD j (.inr (0, []))
def rI_X3 : Room := { frames := 1, cells := 2, slots := 18, locals := 20 }
set_option maxRecDepth 100000 in
set_option maxHeartbeats 4000000 in
theorem ki_X3 {l : Launch} {kc : Nat → ClassId} {D : va_G} {h0 : Nat} : KN kc D l yX3_init (.code yX3_init cX3_init 1 none) rI_X3 [] 3 3 h0 (fun k => defaultValue (tyX3 k)) 2 ph_X3 (ae_X3 kc) 2 18 := by
  refine cw_enter (by decide) rfl (Nat.le_of_ble_eq_true rfl) ?_
  intro p e s m args below meth c A hA C hr hlocks hin Z ls hl
  have hx := C.1.1
  have hb := C.1.2.1
  have hl : lv_has ls 1 [(0, .ref h0)] := hl
  refine lv_aload_n hx hb dX3_init_0 rfl (lv_at hl 0 rfl) ?_
  refine cw_obj C wM_X3_3 hl (by decide) (rest := []) (Nat.le_of_ble_eq_true rfl) dX3_init_1 ?_
  refine lv_aload_n hx hb dX3_init_4 rfl (lv_at hl 0 rfl) ?_
  refine lv_bipush (v := 9) hx hb dX3_init_5 (by decide) ?_
  refine cw_newI (N := 9) C Z ⟨by decide, by decide, by decide⟩ ⟨by decide, by decide⟩ dX3_init_7 (fun q0 H Z => ?_)
  refine cw_putF C Z hin 0 rfl inX3 tyX3_ok nmX3 (by decide) wF_X3_11 rfl rfl rfl rfl dX3_init_9 (fun H locs Z => ?_)
  refine lv_aload_n hx hb dX3_init_12 rfl (lv_at hl 0 rfl) ?_
  refine lv_bipush (v := 9) hx hb dX3_init_13 (by decide) ?_
  refine cw_newI (N := 9) C Z ⟨by decide, by decide, by decide⟩ ⟨by decide, by decide⟩ dX3_init_15 (fun q1 H Z => ?_)
  refine cw_putF C Z hin 1 rfl inX3 tyX3_ok nmX3 (by decide) wF_X3_15 rfl rfl rfl rfl dX3_init_17 (fun H locs Z => ?_)
  exact cw_ret C Z hr hlocks ⟨rfl, rfl⟩ rfl rfl dX3_init_20
def ph_X0 (ad : Nat → Nat) (k : Nat) : Value := ([.ref (ad 0), .ref (ad 1), .ref (ad 2), .int 0, .ref (ad 3), .ref (ad 4), .ref (ad 5), .int (-1000000000), .int 0] : List Value).getD k .null
def ae_X0 (kc : Nat → ClassId) (j : Nat) : va_E := ([.inl (kc 0, 6, .inl (fun _ => 0)), .inl (kc 0, 6, .inl (fun _ => 0)), .inl (kc 0, 6, .inl (fun _ => 0)), .inl (kc 1, 637, .inr (.inl (fun _ => 0))), .inl (kc 0, 6, .inl (fun _ => 0)), .inl (kc 0, 6, .inl (fun _ => 0))] : List va_E).getD j (.inr (0, []))
def rI_X0 : Room := { frames := 1, cells := 6, slots := 667, locals := 20 }
set_option maxRecDepth 100000 in
set_option maxHeartbeats 4000000 in
theorem ki_X0 {l : Launch} {kc : Nat → ClassId} {D : va_G} {h0 : Nat} : KN kc D l yX0_init (.code yX0_init cX0_init 1 none) rI_X0 [] 0 9 h0 (fun k => defaultValue (tyX0 k)) 6 ph_X0 (ae_X0 kc) 6 667 := by
  refine cw_enter (by decide) rfl (Nat.le_of_ble_eq_true rfl) ?_
  intro p e s m args below meth c A hA C hr hlocks hin Z ls hl
  have hx := C.1.1
  have hb := C.1.2.1
  have hl : lv_has ls 1 [(0, .ref h0)] := hl
  refine lv_aload_n hx hb dX0_init_0 rfl (lv_at hl 0 rfl) ?_
  refine cw_obj C wM_X0_3 hl (by decide) (rest := []) (Nat.le_of_ble_eq_true rfl) dX0_init_1 ?_
  refine lv_aload_n hx hb dX0_init_4 rfl (lv_at hl 0 rfl) ?_
  refine lv_bipush (v := 6) hx hb dX0_init_5 (by decide) ?_
  refine cw_newI (N := 6) C Z ⟨by decide, by decide, by decide⟩ ⟨by decide, by decide⟩ dX0_init_7 (fun q0 H Z => ?_)
  refine cw_putF C Z hin 0 rfl inX0 tyX0_ok nmX0 (by decide) wF_X0_11 rfl rfl rfl rfl dX0_init_9 (fun H locs Z => ?_)
  refine lv_aload_n hx hb dX0_init_12 rfl (lv_at hl 0 rfl) ?_
  refine lv_bipush (v := 6) hx hb dX0_init_13 (by decide) ?_
  refine cw_newI (N := 6) C Z ⟨by decide, by decide, by decide⟩ ⟨by decide, by decide⟩ dX0_init_15 (fun q1 H Z => ?_)
  refine cw_putF C Z hin 1 rfl inX0 tyX0_ok nmX0 (by decide) wF_X0_15 rfl rfl rfl rfl dX0_init_17 (fun H locs Z => ?_)
  refine lv_aload_n hx hb dX0_init_20 rfl (lv_at hl 0 rfl) ?_
  refine lv_bipush (v := 6) hx hb dX0_init_21 (by decide) ?_
  refine cw_newI (N := 6) C Z ⟨by decide, by decide, by decide⟩ ⟨by decide, by decide⟩ dX0_init_23 (fun q2 H Z => ?_)
  refine cw_putF C Z hin 2 rfl inX0 tyX0_ok nmX0 (by decide) wF_X0_18 rfl rfl rfl rfl dX0_init_25 (fun H locs Z => ?_)
  refine lv_aload_n hx hb dX0_init_28 rfl (lv_at hl 0 rfl) ?_
  refine lv_sipush (v := 637) hx hb dX0_init_29 (by decide) ?_
  refine cw_newJ (N := 637) C Z ⟨by decide, by decide, by decide⟩ ⟨by decide, by decide⟩ dX0_init_32 (fun q3 H Z => ?_)
  refine cw_putF C Z hin 4 rfl inX0 tyX0_ok nmX0 (by decide) wF_X0_21 rfl rfl rfl rfl dX0_init_34 (fun H locs Z => ?_)
  refine lv_aload_n hx hb dX0_init_37 rfl (lv_at hl 0 rfl) ?_
  refine lv_bipush (v := 6) hx hb dX0_init_38 (by decide) ?_
  refine cw_newI (N := 6) C Z ⟨by decide, by decide, by decide⟩ ⟨by decide, by decide⟩ dX0_init_40 (fun q4 H Z => ?_)
  refine cw_putF C Z hin 5 rfl inX0 tyX0_ok nmX0 (by decide) wF_X0_25 rfl rfl rfl rfl dX0_init_42 (fun H locs Z => ?_)
  refine lv_aload_n hx hb dX0_init_45 rfl (lv_at hl 0 rfl) ?_
  refine lv_bipush (v := 6) hx hb dX0_init_46 (by decide) ?_
  refine cw_newI (N := 6) C Z ⟨by decide, by decide, by decide⟩ ⟨by decide, by decide⟩ dX0_init_48 (fun q5 H Z => ?_)
  refine cw_putF C Z hin 6 rfl inX0 tyX0_ok nmX0 (by decide) wF_X0_28 rfl rfl rfl rfl dX0_init_50 (fun H locs Z => ?_)
  refine lv_aload_n hx hb dX0_init_53 rfl (lv_at hl 0 rfl) ?_
  refine lv_ldc (v := (-1000000000)) hx hb C.1.2.2.2.1 (C.1.2.2.2.2 _ wD_X0_31) dX0_init_54 ?_
  refine cw_put C Z 7 rfl inX0 tyX0_ok nmX0 (by decide) wF_X0_32 rfl rfl rfl dX0_init_56 (fun H locs Z => ?_)
  exact cw_ret C Z hr hlocks ⟨rfl, rfl⟩ rfl rfl dX0_init_59
