def ph_X11 (ad : Nat → Nat) (k : Nat) : Value := ([.int 0, .ref (ad 0), .int 0, .ref (ad 1), .ref (ad 2), .ref (ad 3), .ref (ad 4), .int 0, .ref (ad 5), .ref (ad 6), .ref (ad 7), .ref (ad 8), .ref (ad 9), .ref (ad 10), .int 0, .ref (ad 11), .ref (ad 12), .ref (ad 13), .ref (ad 14), .ref (ad 15), .ref (ad 16), .int 0, .int 0, .ref (ad 17), .int 0, .int 0, .ref (ad 18), .ref (ad 19), .ref (ad 20), .ref (ad 21), .ref (ad 22), .ref (ad 23), .ref (ad 24), .ref (ad 25), .ref (ad 26), .int 0, .ref (ad 27), .ref (ad 28), .int 0, .int 0, .int 0, .int 0, .int 0, .int 0, .ref (ad 29), .ref (ad 30), .ref (ad 31), .int 0, .int 0, .int 0, .int 0, .int 0, .ref (ad 32), .int 0, .ref (ad 33), .ref (ad 34), .ref (ad 35), .ref (ad 36), .ref (ad 37), .ref (ad 38), .ref (ad 39), .int (-1), .int 0, .int 0, .ref (ad 40), .ref (ad 41), .ref (ad 42), .ref (ad 43), .ref (ad 44), .ref (ad 45), .ref (ad 46), .int 0, .ref (ad 47), .ref (ad 48), .ref (ad 49), .ref (ad 50), .int 0, .ref (ad 51), .ref (ad 52), .ref (ad 53), .int 0, .ref (ad 54), .ref (ad 55), .int 0, .ref (ad 56), .ref (ad 57), .ref (ad 58), .ref (ad 59), .int 0, .int 0, .int 0, .ref (ad 60), .ref (ad 61)] : List Value).getD k .null
def ae_X11 (kc : Nat → ClassId) (j : Nat) : va_E := ([.inl (kc 0, 576, .inl (fun _ => 0)), .inl (kc 0, 40, .inl (fun _ => 0)), .inl (kc 0, 40, .inl (fun _ => 0)), .inl (kc 0, 40, .inl (fun _ => 0)), .inl (kc 0, 40, .inl (fun _ => 0)), .inl (kc 0, 300, .inl (fun _ => 0)), .inl (kc 0, 300, .inl (fun _ => 0)), .inl (kc 0, 300, .inl (fun _ => 0)), .inl (kc 0, 300, .inl (fun _ => 0)), .inl (kc 0, 300, .inl (fun _ => 0)), .inl (kc 0, 300, .inl (fun _ => 0)), .inl (kc 0, 300, .inl (fun _ => 0)), .inl (kc 0, 300, .inl (fun _ => 0)), .inl (kc 0, 300, .inl (fun _ => 0)), .inl (kc 0, 2, .inl (fun _ => 0)), .inl (kc 0, 32, .inl (fun _ => 0)), .inl (kc 0, 32, .inl (fun _ => 0)), .inl (kc 2, 400, .inl (fun _ => 0)), .inl (kc 0, 12, .inl (fun _ => 0)), .inl (kc 0, 12, .inl (fun _ => 0)), .inl (kc 0, 12, .inl (fun _ => 0)), .inl (kc 0, 144, .inl (fun _ => 0)), .inl (kc 0, 144, .inl (fun _ => 0)), .inl (kc 0, 144, .inl (fun _ => 0)), .inl (kc 0, 144, .inl (fun _ => 0)), .inl (kc 0, 144, .inl (fun _ => 0)), .inl (kc 0, 144, .inl (fun _ => 0)), .inl (kc 0, 5040, .inl (fun _ => 0)), .inl (kc 0, 5040, .inl (fun _ => 0)), .inl (kc 0, 420, .inl (fun _ => 0)), .inl (kc 1, 9, .inr (.inl (vp_updL (vp_updL (vp_updL (vp_updL (vp_updL (vp_updL (vp_updL (vp_updL (vp_updL (fun _ => 0) (0 : Int32).toNatClampNeg 120299592184933) (1 : Int32).toNatClampNeg 120) (2 : Int32).toNatClampNeg 121) (3 : Int32).toNatClampNeg 431198598248) (4 : Int32).toNatClampNeg 1936286821) (5 : Int32).toNatClampNeg 1802071652) (6 : Int32).toNatClampNeg 7234932) (7 : Int32).toNatClampNeg 495806932324) (8 : Int32).toNatClampNeg 115923103605861))), .inl (kc 1, 5, .inr (.inl (vp_updL (vp_updL (vp_updL (vp_updL (vp_updL (fun _ => 0) (0 : Int32).toNatClampNeg 1718186856) (1 : Int32).toNatClampNeg 1937010544) (2 : Int32).toNatClampNeg 6518132) (3 : Int32).toNatClampNeg 1818583406) (4 : Int32).toNatClampNeg 1818324580))), .inl (kc 1, 100, .inr (.inl (fun _ => 0))), .inl (kc 0, 150, .inl (fun _ => 0)), .inl (kc 0, 150, .inl (fun _ => 0)), .inl (kc 0, 150, .inl (fun _ => 0)), .inl (kc 0, 150, .inl (fun _ => 0)), .inl (kc 0, 150, .inl (fun _ => 0)), .inl (kc 3, 16250, .inl (fun _ => 0)), .inl (kc 3, 16250, .inl (fun _ => 0)), .inl (kc 0, 2, .inl (fun _ => 0)), .inl (kc 0, 2, .inl (fun _ => 0)), .inl (kc 0, 120, .inl (fun _ => 0)), .inl (kc 0, 8, .inl (fun _ => 0)), .inl (kc 0, 8, .inl (fun _ => 0)), .inl (kc 0, 8, .inl (fun _ => 0)), .inl (kc 1, 16, .inr (.inl (fun _ => 0))), .inl (kc 0, 8, .inl (fun _ => 0)), .inl (kc 0, 8, .inl (fun _ => 0)), .inl (kc 0, 8, .inl (fun _ => 0)), .inl (kc 0, 8, .inl (fun _ => 0)), .inl (kc 0, 20, .inl (fun _ => 0)), .inl (kc 0, 20, .inl (fun _ => 0)), .inl (kc 0, 20, .inl (fun _ => 0)), .inl (kc 0, 9, .inl (fun _ => 0)), .inl (kc 0, 9, .inl (fun _ => 0)), .inl (kc 0, 6, .inl (fun _ => 0)), .inl (kc 0, 6, .inl (fun _ => 0)), .inl (kc 0, 6, .inl (fun _ => 0)), .inl (kc 1, 637, .inr (.inl (fun _ => 0))), .inl (kc 0, 6, .inl (fun _ => 0)), .inl (kc 0, 6, .inl (fun _ => 0))] : List va_E).getD j (.inr (0, []))
def rI_X11 : Room := { frames := 1, cells := 62, slots := 49607, locals := 20 }
set_option maxRecDepth 100000 in
set_option maxHeartbeats 4000000 in
theorem ki_X11 {l : Launch} {kc : Nat → ClassId} {D : va_G} {h0 : Nat} : KN kc D l yX11_init (.code yX11_init cX11_init 1 none) rI_X11 [] 11 93 h0 (fun k => defaultValue (tyX11 k)) 62 ph_X11 (ae_X11 kc) 62 49607 := by
  refine cw_enter (by decide) rfl (Nat.le_of_ble_eq_true rfl) ?_
  intro p e s m args below meth c A hA C hr hlocks hin Z ls hl
  have hx := C.1.1
  have hb := C.1.2.1
  have hl : lv_has ls 1 [(0, .ref h0)] := hl
  refine lv_aload_n hx hb dX11_init_0 rfl (lv_at hl 0 rfl) ?_
  refine cw_obj C wM_X11_1 hl (by decide) (rest := []) (Nat.le_of_ble_eq_true rfl) dX11_init_1 ?_
  refine lv_aload_n hx hb dX11_init_4 rfl (lv_at hl 0 rfl) ?_
  refine lv_sipush (v := 576) hx hb dX11_init_5 (by decide) ?_
  refine cw_newI (N := 576) C Z ⟨by decide, by decide, by decide⟩ ⟨by decide, by decide⟩ dX11_init_8 (fun q0 H Z => ?_)
  refine cw_putF C Z hin 1 rfl inX11 tyX11_ok nmX11 (by decide) wF_X11_7 rfl rfl rfl rfl dX11_init_10 (fun H locs Z => ?_)
  refine lv_aload_n hx hb dX11_init_13 rfl (lv_at hl 0 rfl) ?_
  refine lv_bipush (v := 40) hx hb dX11_init_14 (by decide) ?_
  refine cw_newI (N := 40) C Z ⟨by decide, by decide, by decide⟩ ⟨by decide, by decide⟩ dX11_init_16 (fun q1 H Z => ?_)
  refine cw_putF C Z hin 3 rfl inX11 tyX11_ok nmX11 (by decide) wF_X11_13 rfl rfl rfl rfl dX11_init_18 (fun H locs Z => ?_)
  refine lv_aload_n hx hb dX11_init_21 rfl (lv_at hl 0 rfl) ?_
  refine lv_bipush (v := 40) hx hb dX11_init_22 (by decide) ?_
  refine cw_newI (N := 40) C Z ⟨by decide, by decide, by decide⟩ ⟨by decide, by decide⟩ dX11_init_24 (fun q2 H Z => ?_)
  refine cw_putF C Z hin 4 rfl inX11 tyX11_ok nmX11 (by decide) wF_X11_16 rfl rfl rfl rfl dX11_init_26 (fun H locs Z => ?_)
  refine lv_aload_n hx hb dX11_init_29 rfl (lv_at hl 0 rfl) ?_
  refine lv_bipush (v := 40) hx hb dX11_init_30 (by decide) ?_
  refine cw_newI (N := 40) C Z ⟨by decide, by decide, by decide⟩ ⟨by decide, by decide⟩ dX11_init_32 (fun q3 H Z => ?_)
  refine cw_putF C Z hin 5 rfl inX11 tyX11_ok nmX11 (by decide) wF_X11_19 rfl rfl rfl rfl dX11_init_34 (fun H locs Z => ?_)
  refine lv_aload_n hx hb dX11_init_37 rfl (lv_at hl 0 rfl) ?_
  refine lv_bipush (v := 40) hx hb dX11_init_38 (by decide) ?_
  refine cw_newI (N := 40) C Z ⟨by decide, by decide, by decide⟩ ⟨by decide, by decide⟩ dX11_init_40 (fun q4 H Z => ?_)
  refine cw_putF C Z hin 6 rfl inX11 tyX11_ok nmX11 (by decide) wF_X11_22 rfl rfl rfl rfl dX11_init_42 (fun H locs Z => ?_)
  refine lv_aload_n hx hb dX11_init_45 rfl (lv_at hl 0 rfl) ?_
  refine lv_sipush (v := 300) hx hb dX11_init_46 (by decide) ?_
  refine cw_newI (N := 300) C Z ⟨by decide, by decide, by decide⟩ ⟨by decide, by decide⟩ dX11_init_49 (fun q5 H Z => ?_)
  refine cw_putF C Z hin 8 rfl inX11 tyX11_ok nmX11 (by decide) wF_X11_25 rfl rfl rfl rfl dX11_init_51 (fun H locs Z => ?_)
  refine lv_aload_n hx hb dX11_init_54 rfl (lv_at hl 0 rfl) ?_
  refine lv_sipush (v := 300) hx hb dX11_init_55 (by decide) ?_
  refine cw_newI (N := 300) C Z ⟨by decide, by decide, by decide⟩ ⟨by decide, by decide⟩ dX11_init_58 (fun q6 H Z => ?_)
  refine cw_putF C Z hin 9 rfl inX11 tyX11_ok nmX11 (by decide) wF_X11_28 rfl rfl rfl rfl dX11_init_60 (fun H locs Z => ?_)
  refine lv_aload_n hx hb dX11_init_63 rfl (lv_at hl 0 rfl) ?_
  refine lv_sipush (v := 300) hx hb dX11_init_64 (by decide) ?_
  refine cw_newI (N := 300) C Z ⟨by decide, by decide, by decide⟩ ⟨by decide, by decide⟩ dX11_init_67 (fun q7 H Z => ?_)
  refine cw_putF C Z hin 10 rfl inX11 tyX11_ok nmX11 (by decide) wF_X11_31 rfl rfl rfl rfl dX11_init_69 (fun H locs Z => ?_)
  refine lv_aload_n hx hb dX11_init_72 rfl (lv_at hl 0 rfl) ?_
  refine lv_sipush (v := 300) hx hb dX11_init_73 (by decide) ?_
  refine cw_newI (N := 300) C Z ⟨by decide, by decide, by decide⟩ ⟨by decide, by decide⟩ dX11_init_76 (fun q8 H Z => ?_)
  refine cw_putF C Z hin 11 rfl inX11 tyX11_ok nmX11 (by decide) wF_X11_34 rfl rfl rfl rfl dX11_init_78 (fun H locs Z => ?_)
  refine lv_aload_n hx hb dX11_init_81 rfl (lv_at hl 0 rfl) ?_
  refine lv_sipush (v := 300) hx hb dX11_init_82 (by decide) ?_
  refine cw_newI (N := 300) C Z ⟨by decide, by decide, by decide⟩ ⟨by decide, by decide⟩ dX11_init_85 (fun q9 H Z => ?_)
  refine cw_putF C Z hin 12 rfl inX11 tyX11_ok nmX11 (by decide) wF_X11_37 rfl rfl rfl rfl dX11_init_87 (fun H locs Z => ?_)
  refine lv_aload_n hx hb dX11_init_90 rfl (lv_at hl 0 rfl) ?_
  refine lv_sipush (v := 300) hx hb dX11_init_91 (by decide) ?_
  refine cw_newI (N := 300) C Z ⟨by decide, by decide, by decide⟩ ⟨by decide, by decide⟩ dX11_init_94 (fun q10 H Z => ?_)
  refine cw_putF C Z hin 13 rfl inX11 tyX11_ok nmX11 (by decide) wF_X11_40 rfl rfl rfl rfl dX11_init_96 (fun H locs Z => ?_)
  refine lv_aload_n hx hb dX11_init_99 rfl (lv_at hl 0 rfl) ?_
  refine lv_sipush (v := 300) hx hb dX11_init_100 (by decide) ?_
  refine cw_newI (N := 300) C Z ⟨by decide, by decide, by decide⟩ ⟨by decide, by decide⟩ dX11_init_103 (fun q11 H Z => ?_)
  refine cw_putF C Z hin 15 rfl inX11 tyX11_ok nmX11 (by decide) wF_X11_43 rfl rfl rfl rfl dX11_init_105 (fun H locs Z => ?_)
  refine lv_aload_n hx hb dX11_init_108 rfl (lv_at hl 0 rfl) ?_
  refine lv_sipush (v := 300) hx hb dX11_init_109 (by decide) ?_
  refine cw_newI (N := 300) C Z ⟨by decide, by decide, by decide⟩ ⟨by decide, by decide⟩ dX11_init_112 (fun q12 H Z => ?_)
  refine cw_putF C Z hin 16 rfl inX11 tyX11_ok nmX11 (by decide) wF_X11_46 rfl rfl rfl rfl dX11_init_114 (fun H locs Z => ?_)
  refine lv_aload_n hx hb dX11_init_117 rfl (lv_at hl 0 rfl) ?_
  refine lv_sipush (v := 300) hx hb dX11_init_118 (by decide) ?_
  refine cw_newI (N := 300) C Z ⟨by decide, by decide, by decide⟩ ⟨by decide, by decide⟩ dX11_init_121 (fun q13 H Z => ?_)
  refine cw_putF C Z hin 17 rfl inX11 tyX11_ok nmX11 (by decide) wF_X11_49 rfl rfl rfl rfl dX11_init_123 (fun H locs Z => ?_)
  refine lv_aload_n hx hb dX11_init_126 rfl (lv_at hl 0 rfl) ?_
  refine lv_iconst (v := 2) hx hb dX11_init_127 (by decide) ?_
  refine cw_newI (N := 2) C Z ⟨by decide, by decide, by decide⟩ ⟨by decide, by decide⟩ dX11_init_128 (fun q14 H Z => ?_)
  refine cw_putF C Z hin 18 rfl inX11 tyX11_ok nmX11 (by decide) wF_X11_52 rfl rfl rfl rfl dX11_init_130 (fun H locs Z => ?_)
  refine lv_aload_n hx hb dX11_init_133 rfl (lv_at hl 0 rfl) ?_
  refine lv_bipush (v := 32) hx hb dX11_init_134 (by decide) ?_
  refine cw_newI (N := 32) C Z ⟨by decide, by decide, by decide⟩ ⟨by decide, by decide⟩ dX11_init_136 (fun q15 H Z => ?_)
  refine cw_putF C Z hin 19 rfl inX11 tyX11_ok nmX11 (by decide) wF_X11_55 rfl rfl rfl rfl dX11_init_138 (fun H locs Z => ?_)
  refine lv_aload_n hx hb dX11_init_141 rfl (lv_at hl 0 rfl) ?_
  refine lv_bipush (v := 32) hx hb dX11_init_142 (by decide) ?_
  refine cw_newI (N := 32) C Z ⟨by decide, by decide, by decide⟩ ⟨by decide, by decide⟩ dX11_init_144 (fun q16 H Z => ?_)
  refine cw_putF C Z hin 20 rfl inX11 tyX11_ok nmX11 (by decide) wF_X11_58 rfl rfl rfl rfl dX11_init_146 (fun H locs Z => ?_)
  refine lv_aload_n hx hb dX11_init_149 rfl (lv_at hl 0 rfl) ?_
  refine lv_sipush (v := 400) hx hb dX11_init_150 (by decide) ?_
  refine cw_newB (N := 400) C Z ⟨by decide, by decide, by decide⟩ ⟨by decide, by decide⟩ dX11_init_153 (fun q17 H Z => ?_)
  refine cw_putF C Z hin 23 rfl inX11 tyX11_ok nmX11 (by decide) wF_X11_61 rfl rfl rfl rfl dX11_init_155 (fun H locs Z => ?_)
  refine lv_aload_n hx hb dX11_init_158 rfl (lv_at hl 0 rfl) ?_
  refine lv_bipush (v := 12) hx hb dX11_init_159 (by decide) ?_
  refine cw_newI (N := 12) C Z ⟨by decide, by decide, by decide⟩ ⟨by decide, by decide⟩ dX11_init_161 (fun q18 H Z => ?_)
  refine cw_putF C Z hin 26 rfl inX11 tyX11_ok nmX11 (by decide) wF_X11_65 rfl rfl rfl rfl dX11_init_163 (fun H locs Z => ?_)
  refine lv_aload_n hx hb dX11_init_166 rfl (lv_at hl 0 rfl) ?_
  refine lv_bipush (v := 12) hx hb dX11_init_167 (by decide) ?_
  refine cw_newI (N := 12) C Z ⟨by decide, by decide, by decide⟩ ⟨by decide, by decide⟩ dX11_init_169 (fun q19 H Z => ?_)
  refine cw_putF C Z hin 27 rfl inX11 tyX11_ok nmX11 (by decide) wF_X11_68 rfl rfl rfl rfl dX11_init_171 (fun H locs Z => ?_)
  refine lv_aload_n hx hb dX11_init_174 rfl (lv_at hl 0 rfl) ?_
  refine lv_bipush (v := 12) hx hb dX11_init_175 (by decide) ?_
  refine cw_newI (N := 12) C Z ⟨by decide, by decide, by decide⟩ ⟨by decide, by decide⟩ dX11_init_177 (fun q20 H Z => ?_)
  refine cw_putF C Z hin 28 rfl inX11 tyX11_ok nmX11 (by decide) wF_X11_71 rfl rfl rfl rfl dX11_init_179 (fun H locs Z => ?_)
  refine lv_aload_n hx hb dX11_init_182 rfl (lv_at hl 0 rfl) ?_
  refine lv_sipush (v := 144) hx hb dX11_init_183 (by decide) ?_
  refine cw_newI (N := 144) C Z ⟨by decide, by decide, by decide⟩ ⟨by decide, by decide⟩ dX11_init_186 (fun q21 H Z => ?_)
  refine cw_putF C Z hin 29 rfl inX11 tyX11_ok nmX11 (by decide) wF_X11_74 rfl rfl rfl rfl dX11_init_188 (fun H locs Z => ?_)
  refine lv_aload_n hx hb dX11_init_191 rfl (lv_at hl 0 rfl) ?_
  refine lv_sipush (v := 144) hx hb dX11_init_192 (by decide) ?_
  refine cw_newI (N := 144) C Z ⟨by decide, by decide, by decide⟩ ⟨by decide, by decide⟩ dX11_init_195 (fun q22 H Z => ?_)
  refine cw_putF C Z hin 30 rfl inX11 tyX11_ok nmX11 (by decide) wF_X11_77 rfl rfl rfl rfl dX11_init_197 (fun H locs Z => ?_)
  refine lv_aload_n hx hb dX11_init_200 rfl (lv_at hl 0 rfl) ?_
  refine lv_sipush (v := 144) hx hb dX11_init_201 (by decide) ?_
  refine cw_newI (N := 144) C Z ⟨by decide, by decide, by decide⟩ ⟨by decide, by decide⟩ dX11_init_204 (fun q23 H Z => ?_)
  refine cw_putF C Z hin 31 rfl inX11 tyX11_ok nmX11 (by decide) wF_X11_80 rfl rfl rfl rfl dX11_init_206 (fun H locs Z => ?_)
  refine lv_aload_n hx hb dX11_init_209 rfl (lv_at hl 0 rfl) ?_
  refine lv_sipush (v := 144) hx hb dX11_init_210 (by decide) ?_
  refine cw_newI (N := 144) C Z ⟨by decide, by decide, by decide⟩ ⟨by decide, by decide⟩ dX11_init_213 (fun q24 H Z => ?_)
  refine cw_putF C Z hin 32 rfl inX11 tyX11_ok nmX11 (by decide) wF_X11_83 rfl rfl rfl rfl dX11_init_215 (fun H locs Z => ?_)
  refine lv_aload_n hx hb dX11_init_218 rfl (lv_at hl 0 rfl) ?_
  refine lv_sipush (v := 144) hx hb dX11_init_219 (by decide) ?_
  refine cw_newI (N := 144) C Z ⟨by decide, by decide, by decide⟩ ⟨by decide, by decide⟩ dX11_init_222 (fun q25 H Z => ?_)
  refine cw_putF C Z hin 33 rfl inX11 tyX11_ok nmX11 (by decide) wF_X11_86 rfl rfl rfl rfl dX11_init_224 (fun H locs Z => ?_)
  refine lv_aload_n hx hb dX11_init_227 rfl (lv_at hl 0 rfl) ?_
  refine lv_sipush (v := 144) hx hb dX11_init_228 (by decide) ?_
  refine cw_newI (N := 144) C Z ⟨by decide, by decide, by decide⟩ ⟨by decide, by decide⟩ dX11_init_231 (fun q26 H Z => ?_)
  refine cw_putF C Z hin 34 rfl inX11 tyX11_ok nmX11 (by decide) wF_X11_89 rfl rfl rfl rfl dX11_init_233 (fun H locs Z => ?_)
  refine lv_aload_n hx hb dX11_init_236 rfl (lv_at hl 0 rfl) ?_
  refine lv_sipush (v := 5040) hx hb dX11_init_237 (by decide) ?_
  refine cw_newI (N := 5040) C Z ⟨by decide, by decide, by decide⟩ ⟨by decide, by decide⟩ dX11_init_240 (fun q27 H Z => ?_)
  refine cw_putF C Z hin 36 rfl inX11 tyX11_ok nmX11 (by decide) wF_X11_92 rfl rfl rfl rfl dX11_init_242 (fun H locs Z => ?_)
  refine lv_aload_n hx hb dX11_init_245 rfl (lv_at hl 0 rfl) ?_
  refine lv_sipush (v := 5040) hx hb dX11_init_246 (by decide) ?_
  refine cw_newI (N := 5040) C Z ⟨by decide, by decide, by decide⟩ ⟨by decide, by decide⟩ dX11_init_249 (fun q28 H Z => ?_)
  refine cw_putF C Z hin 37 rfl inX11 tyX11_ok nmX11 (by decide) wF_X11_95 rfl rfl rfl rfl dX11_init_251 (fun H locs Z => ?_)
  refine lv_aload_n hx hb dX11_init_254 rfl (lv_at hl 0 rfl) ?_
  refine lv_sipush (v := 420) hx hb dX11_init_255 (by decide) ?_
  refine cw_newI (N := 420) C Z ⟨by decide, by decide, by decide⟩ ⟨by decide, by decide⟩ dX11_init_258 (fun q29 H Z => ?_)
  refine cw_putF C Z hin 44 rfl inX11 tyX11_ok nmX11 (by decide) wF_X11_98 rfl rfl rfl rfl dX11_init_260 (fun H locs Z => ?_)
  refine lv_aload_n hx hb dX11_init_263 rfl (lv_at hl 0 rfl) ?_
  refine lv_bipush (v := 9) hx hb dX11_init_264 (by decide) ?_
  refine cw_newJ (N := 9) C Z ⟨by decide, by decide, by decide⟩ ⟨by decide, by decide⟩ dX11_init_266 (fun q30 H Z => ?_)
  refine lv_dup hx hb dX11_init_268 rfl ?_
  refine lv_iconst (v := 0) hx hb dX11_init_269 (by decide) ?_
  refine lv_ldc2 (v := 120299592184933) hx hb C.1.2.2.2.1 (C.1.2.2.2.2 _ wDL_X11_101) dX11_init_270 ?_
  refine cw_last C Z 30 (by decide) rfl rfl (i := 0) (by unfold vp_in; decide) dX11_init_273 (fun H locs Z => ?_)
  refine lv_dup hx hb dX11_init_274 rfl ?_
  refine lv_iconst (v := 1) hx hb dX11_init_275 (by decide) ?_
  refine lv_ldc2 (v := 120) hx hb C.1.2.2.2.1 (C.1.2.2.2.2 _ wDL_X11_103) dX11_init_276 ?_
  refine cw_last C Z 30 (by decide) rfl rfl (i := 1) (by unfold vp_in; decide) dX11_init_279 (fun H locs Z => ?_)
  refine lv_dup hx hb dX11_init_280 rfl ?_
  refine lv_iconst (v := 2) hx hb dX11_init_281 (by decide) ?_
  refine lv_ldc2 (v := 121) hx hb C.1.2.2.2.1 (C.1.2.2.2.2 _ wDL_X11_105) dX11_init_282 ?_
  refine cw_last C Z 30 (by decide) rfl rfl (i := 2) (by unfold vp_in; decide) dX11_init_285 (fun H locs Z => ?_)
  refine lv_dup hx hb dX11_init_286 rfl ?_
  refine lv_iconst (v := 3) hx hb dX11_init_287 (by decide) ?_
  refine lv_ldc2 (v := 431198598248) hx hb C.1.2.2.2.1 (C.1.2.2.2.2 _ wDL_X11_107) dX11_init_288 ?_
  refine cw_last C Z 30 (by decide) rfl rfl (i := 3) (by unfold vp_in; decide) dX11_init_291 (fun H locs Z => ?_)
  refine lv_dup hx hb dX11_init_292 rfl ?_
  refine lv_iconst (v := 4) hx hb dX11_init_293 (by decide) ?_
  refine lv_ldc2 (v := 1936286821) hx hb C.1.2.2.2.1 (C.1.2.2.2.2 _ wDL_X11_109) dX11_init_294 ?_
  refine cw_last C Z 30 (by decide) rfl rfl (i := 4) (by unfold vp_in; decide) dX11_init_297 (fun H locs Z => ?_)
  refine lv_dup hx hb dX11_init_298 rfl ?_
  refine lv_iconst (v := 5) hx hb dX11_init_299 (by decide) ?_
  refine lv_ldc2 (v := 1802071652) hx hb C.1.2.2.2.1 (C.1.2.2.2.2 _ wDL_X11_111) dX11_init_300 ?_
  refine cw_last C Z 30 (by decide) rfl rfl (i := 5) (by unfold vp_in; decide) dX11_init_303 (fun H locs Z => ?_)
  refine lv_dup hx hb dX11_init_304 rfl ?_
  refine lv_bipush (v := 6) hx hb dX11_init_305 (by decide) ?_
  refine lv_ldc2 (v := 7234932) hx hb C.1.2.2.2.1 (C.1.2.2.2.2 _ wDL_X11_113) dX11_init_307 ?_
  refine cw_last C Z 30 (by decide) rfl rfl (i := 6) (by unfold vp_in; decide) dX11_init_310 (fun H locs Z => ?_)
  refine lv_dup hx hb dX11_init_311 rfl ?_
  refine lv_bipush (v := 7) hx hb dX11_init_312 (by decide) ?_
  refine lv_ldc2 (v := 495806932324) hx hb C.1.2.2.2.1 (C.1.2.2.2.2 _ wDL_X11_115) dX11_init_314 ?_
  refine cw_last C Z 30 (by decide) rfl rfl (i := 7) (by unfold vp_in; decide) dX11_init_317 (fun H locs Z => ?_)
  refine lv_dup hx hb dX11_init_318 rfl ?_
  refine lv_bipush (v := 8) hx hb dX11_init_319 (by decide) ?_
  refine lv_ldc2 (v := 115923103605861) hx hb C.1.2.2.2.1 (C.1.2.2.2.2 _ wDL_X11_117) dX11_init_321 ?_
  refine cw_last C Z 30 (by decide) rfl rfl (i := 8) (by unfold vp_in; decide) dX11_init_324 (fun H locs Z => ?_)
  refine cw_putF C Z hin 45 rfl inX11 tyX11_ok nmX11 (by decide) wF_X11_119 rfl rfl rfl rfl dX11_init_325 (fun H locs Z => ?_)
  refine lv_aload_n hx hb dX11_init_328 rfl (lv_at hl 0 rfl) ?_
  refine lv_iconst (v := 5) hx hb dX11_init_329 (by decide) ?_
  refine cw_newJ (N := 5) C Z ⟨by decide, by decide, by decide⟩ ⟨by decide, by decide⟩ dX11_init_330 (fun q31 H Z => ?_)
  refine lv_dup hx hb dX11_init_332 rfl ?_
  refine lv_iconst (v := 0) hx hb dX11_init_333 (by decide) ?_
  refine lv_ldc2 (v := 1718186856) hx hb C.1.2.2.2.1 (C.1.2.2.2.2 _ wDL_X11_123) dX11_init_334 ?_
  refine cw_last C Z 31 (by decide) rfl rfl (i := 0) (by unfold vp_in; decide) dX11_init_337 (fun H locs Z => ?_)
  refine lv_dup hx hb dX11_init_338 rfl ?_
  refine lv_iconst (v := 1) hx hb dX11_init_339 (by decide) ?_
  refine lv_ldc2 (v := 1937010544) hx hb C.1.2.2.2.1 (C.1.2.2.2.2 _ wDL_X11_125) dX11_init_340 ?_
  refine cw_last C Z 31 (by decide) rfl rfl (i := 1) (by unfold vp_in; decide) dX11_init_343 (fun H locs Z => ?_)
  refine lv_dup hx hb dX11_init_344 rfl ?_
  refine lv_iconst (v := 2) hx hb dX11_init_345 (by decide) ?_
  refine lv_ldc2 (v := 6518132) hx hb C.1.2.2.2.1 (C.1.2.2.2.2 _ wDL_X11_127) dX11_init_346 ?_
  refine cw_last C Z 31 (by decide) rfl rfl (i := 2) (by unfold vp_in; decide) dX11_init_349 (fun H locs Z => ?_)
  refine lv_dup hx hb dX11_init_350 rfl ?_
  refine lv_iconst (v := 3) hx hb dX11_init_351 (by decide) ?_
  refine lv_ldc2 (v := 1818583406) hx hb C.1.2.2.2.1 (C.1.2.2.2.2 _ wDL_X11_129) dX11_init_352 ?_
  refine cw_last C Z 31 (by decide) rfl rfl (i := 3) (by unfold vp_in; decide) dX11_init_355 (fun H locs Z => ?_)
  refine lv_dup hx hb dX11_init_356 rfl ?_
  refine lv_iconst (v := 4) hx hb dX11_init_357 (by decide) ?_
  refine lv_ldc2 (v := 1818324580) hx hb C.1.2.2.2.1 (C.1.2.2.2.2 _ wDL_X11_131) dX11_init_358 ?_
  refine cw_last C Z 31 (by decide) rfl rfl (i := 4) (by unfold vp_in; decide) dX11_init_361 (fun H locs Z => ?_)
  refine cw_putF C Z hin 46 rfl inX11 tyX11_ok nmX11 (by decide) wF_X11_133 rfl rfl rfl rfl dX11_init_362 (fun H locs Z => ?_)
  refine lv_aload_n hx hb dX11_init_365 rfl (lv_at hl 0 rfl) ?_
  refine lv_bipush (v := 100) hx hb dX11_init_366 (by decide) ?_
  refine cw_newJ (N := 100) C Z ⟨by decide, by decide, by decide⟩ ⟨by decide, by decide⟩ dX11_init_368 (fun q32 H Z => ?_)
  refine cw_putF C Z hin 52 rfl inX11 tyX11_ok nmX11 (by decide) wF_X11_136 rfl rfl rfl rfl dX11_init_370 (fun H locs Z => ?_)
  refine lv_aload_n hx hb dX11_init_373 rfl (lv_at hl 0 rfl) ?_
  refine lv_sipush (v := 150) hx hb dX11_init_374 (by decide) ?_
  refine cw_newI (N := 150) C Z ⟨by decide, by decide, by decide⟩ ⟨by decide, by decide⟩ dX11_init_377 (fun q33 H Z => ?_)
  refine cw_putF C Z hin 54 rfl inX11 tyX11_ok nmX11 (by decide) wF_X11_139 rfl rfl rfl rfl dX11_init_379 (fun H locs Z => ?_)
  refine lv_aload_n hx hb dX11_init_382 rfl (lv_at hl 0 rfl) ?_
  refine lv_sipush (v := 150) hx hb dX11_init_383 (by decide) ?_
  refine cw_newI (N := 150) C Z ⟨by decide, by decide, by decide⟩ ⟨by decide, by decide⟩ dX11_init_386 (fun q34 H Z => ?_)
  refine cw_putF C Z hin 55 rfl inX11 tyX11_ok nmX11 (by decide) wF_X11_142 rfl rfl rfl rfl dX11_init_388 (fun H locs Z => ?_)
  refine lv_aload_n hx hb dX11_init_391 rfl (lv_at hl 0 rfl) ?_
  refine lv_sipush (v := 150) hx hb dX11_init_392 (by decide) ?_
  refine cw_newI (N := 150) C Z ⟨by decide, by decide, by decide⟩ ⟨by decide, by decide⟩ dX11_init_395 (fun q35 H Z => ?_)
  refine cw_putF C Z hin 56 rfl inX11 tyX11_ok nmX11 (by decide) wF_X11_145 rfl rfl rfl rfl dX11_init_397 (fun H locs Z => ?_)
  refine lv_aload_n hx hb dX11_init_400 rfl (lv_at hl 0 rfl) ?_
  refine lv_sipush (v := 150) hx hb dX11_init_401 (by decide) ?_
  refine cw_newI (N := 150) C Z ⟨by decide, by decide, by decide⟩ ⟨by decide, by decide⟩ dX11_init_404 (fun q36 H Z => ?_)
  refine cw_putF C Z hin 57 rfl inX11 tyX11_ok nmX11 (by decide) wF_X11_148 rfl rfl rfl rfl dX11_init_406 (fun H locs Z => ?_)
  refine lv_aload_n hx hb dX11_init_409 rfl (lv_at hl 0 rfl) ?_
  refine lv_sipush (v := 150) hx hb dX11_init_410 (by decide) ?_
  refine cw_newI (N := 150) C Z ⟨by decide, by decide, by decide⟩ ⟨by decide, by decide⟩ dX11_init_413 (fun q37 H Z => ?_)
  refine cw_putF C Z hin 58 rfl inX11 tyX11_ok nmX11 (by decide) wF_X11_151 rfl rfl rfl rfl dX11_init_415 (fun H locs Z => ?_)
  refine lv_aload_n hx hb dX11_init_418 rfl (lv_at hl 0 rfl) ?_
  refine lv_sipush (v := 16250) hx hb dX11_init_419 (by decide) ?_
  refine cw_newZ (N := 16250) C Z ⟨by decide, by decide, by decide⟩ ⟨by decide, by decide⟩ dX11_init_422 (fun q38 H Z => ?_)
  refine cw_putF C Z hin 59 rfl inX11 tyX11_ok nmX11 (by decide) wF_X11_154 rfl rfl rfl rfl dX11_init_424 (fun H locs Z => ?_)
  refine lv_aload_n hx hb dX11_init_427 rfl (lv_at hl 0 rfl) ?_
  refine lv_sipush (v := 16250) hx hb dX11_init_428 (by decide) ?_
  refine cw_newZ (N := 16250) C Z ⟨by decide, by decide, by decide⟩ ⟨by decide, by decide⟩ dX11_init_431 (fun q39 H Z => ?_)
  refine cw_putF C Z hin 60 rfl inX11 tyX11_ok nmX11 (by decide) wF_X11_158 rfl rfl rfl rfl dX11_init_433 (fun H locs Z => ?_)
  refine lv_aload_n hx hb dX11_init_436 rfl (lv_at hl 0 rfl) ?_
  refine lv_iconst (v := (-1)) hx hb dX11_init_437 (by decide) ?_
  refine cw_put C Z 61 rfl inX11 tyX11_ok nmX11 (by decide) wF_X11_161 rfl rfl rfl dX11_init_438 (fun H locs Z => ?_)
  refine lv_aload_n hx hb dX11_init_441 rfl (lv_at hl 0 rfl) ?_
  refine lv_iconst (v := 2) hx hb dX11_init_442 (by decide) ?_
  refine cw_newI (N := 2) C Z ⟨by decide, by decide, by decide⟩ ⟨by decide, by decide⟩ dX11_init_443 (fun q40 H Z => ?_)
  refine cw_putF C Z hin 64 rfl inX11 tyX11_ok nmX11 (by decide) wF_X11_165 rfl rfl rfl rfl dX11_init_445 (fun H locs Z => ?_)
  refine lv_aload_n hx hb dX11_init_448 rfl (lv_at hl 0 rfl) ?_
  refine lv_iconst (v := 2) hx hb dX11_init_449 (by decide) ?_
  refine cw_newI (N := 2) C Z ⟨by decide, by decide, by decide⟩ ⟨by decide, by decide⟩ dX11_init_450 (fun q41 H Z => ?_)
  refine cw_putF C Z hin 65 rfl inX11 tyX11_ok nmX11 (by decide) wF_X11_168 rfl rfl rfl rfl dX11_init_452 (fun H locs Z => ?_)
  refine lv_aload_n hx hb dX11_init_455 rfl (lv_at hl 0 rfl) ?_
  refine lv_bipush (v := 120) hx hb dX11_init_456 (by decide) ?_
  refine cw_newI (N := 120) C Z ⟨by decide, by decide, by decide⟩ ⟨by decide, by decide⟩ dX11_init_458 (fun q42 H Z => ?_)
  refine cw_putF C Z hin 66 rfl inX11 tyX11_ok nmX11 (by decide) wF_X11_171 rfl rfl rfl rfl dX11_init_460 (fun H locs Z => ?_)
  refine lv_aload_n hx hb dX11_init_463 rfl (lv_at hl 0 rfl) ?_
  refine lv_bipush (v := 8) hx hb dX11_init_464 (by decide) ?_
  refine cw_newI (N := 8) C Z ⟨by decide, by decide, by decide⟩ ⟨by decide, by decide⟩ dX11_init_466 (fun q43 H Z => ?_)
  refine cw_putF C Z hin 67 rfl inX11 tyX11_ok nmX11 (by decide) wF_X11_174 rfl rfl rfl rfl dX11_init_468 (fun H locs Z => ?_)
  refine lv_aload_n hx hb dX11_init_471 rfl (lv_at hl 0 rfl) ?_
  refine lv_bipush (v := 8) hx hb dX11_init_472 (by decide) ?_
  refine cw_newI (N := 8) C Z ⟨by decide, by decide, by decide⟩ ⟨by decide, by decide⟩ dX11_init_474 (fun q44 H Z => ?_)
  refine cw_putF C Z hin 68 rfl inX11 tyX11_ok nmX11 (by decide) wF_X11_177 rfl rfl rfl rfl dX11_init_476 (fun H locs Z => ?_)
  refine lv_aload_n hx hb dX11_init_479 rfl (lv_at hl 0 rfl) ?_
  refine lv_bipush (v := 8) hx hb dX11_init_480 (by decide) ?_
  refine cw_newI (N := 8) C Z ⟨by decide, by decide, by decide⟩ ⟨by decide, by decide⟩ dX11_init_482 (fun q45 H Z => ?_)
  refine cw_putF C Z hin 69 rfl inX11 tyX11_ok nmX11 (by decide) wF_X11_180 rfl rfl rfl rfl dX11_init_484 (fun H locs Z => ?_)
  refine lv_aload_n hx hb dX11_init_487 rfl (lv_at hl 0 rfl) ?_
  refine lv_bipush (v := 16) hx hb dX11_init_488 (by decide) ?_
  refine cw_newJ (N := 16) C Z ⟨by decide, by decide, by decide⟩ ⟨by decide, by decide⟩ dX11_init_490 (fun q46 H Z => ?_)
  refine cw_putF C Z hin 70 rfl inX11 tyX11_ok nmX11 (by decide) wF_X11_183 rfl rfl rfl rfl dX11_init_492 (fun H locs Z => ?_)
  refine lv_aload_n hx hb dX11_init_495 rfl (lv_at hl 0 rfl) ?_
  refine lv_bipush (v := 8) hx hb dX11_init_496 (by decide) ?_
  refine cw_newI (N := 8) C Z ⟨by decide, by decide, by decide⟩ ⟨by decide, by decide⟩ dX11_init_498 (fun q47 H Z => ?_)
  refine cw_putF C Z hin 72 rfl inX11 tyX11_ok nmX11 (by decide) wF_X11_186 rfl rfl rfl rfl dX11_init_500 (fun H locs Z => ?_)
  refine lv_aload_n hx hb dX11_init_503 rfl (lv_at hl 0 rfl) ?_
  refine lv_bipush (v := 8) hx hb dX11_init_504 (by decide) ?_
  refine cw_newI (N := 8) C Z ⟨by decide, by decide, by decide⟩ ⟨by decide, by decide⟩ dX11_init_506 (fun q48 H Z => ?_)
  refine cw_putF C Z hin 73 rfl inX11 tyX11_ok nmX11 (by decide) wF_X11_189 rfl rfl rfl rfl dX11_init_508 (fun H locs Z => ?_)
  refine lv_aload_n hx hb dX11_init_511 rfl (lv_at hl 0 rfl) ?_
  refine lv_bipush (v := 8) hx hb dX11_init_512 (by decide) ?_
  refine cw_newI (N := 8) C Z ⟨by decide, by decide, by decide⟩ ⟨by decide, by decide⟩ dX11_init_514 (fun q49 H Z => ?_)
  refine cw_putF C Z hin 74 rfl inX11 tyX11_ok nmX11 (by decide) wF_X11_192 rfl rfl rfl rfl dX11_init_516 (fun H locs Z => ?_)
  refine lv_aload_n hx hb dX11_init_519 rfl (lv_at hl 0 rfl) ?_
  refine lv_bipush (v := 8) hx hb dX11_init_520 (by decide) ?_
  refine cw_newI (N := 8) C Z ⟨by decide, by decide, by decide⟩ ⟨by decide, by decide⟩ dX11_init_522 (fun q50 H Z => ?_)
  refine cw_putF C Z hin 75 rfl inX11 tyX11_ok nmX11 (by decide) wF_X11_195 rfl rfl rfl rfl dX11_init_524 (fun H locs Z => ?_)
  refine lv_aload_n hx hb dX11_init_527 rfl (lv_at hl 0 rfl) ?_
  refine lv_bipush (v := 20) hx hb dX11_init_528 (by decide) ?_
  refine cw_newI (N := 20) C Z ⟨by decide, by decide, by decide⟩ ⟨by decide, by decide⟩ dX11_init_530 (fun q51 H Z => ?_)
  refine cw_putF C Z hin 77 rfl inX11 tyX11_ok nmX11 (by decide) wF_X11_198 rfl rfl rfl rfl dX11_init_532 (fun H locs Z => ?_)
  refine lv_aload_n hx hb dX11_init_535 rfl (lv_at hl 0 rfl) ?_
  refine lv_bipush (v := 20) hx hb dX11_init_536 (by decide) ?_
  refine cw_newI (N := 20) C Z ⟨by decide, by decide, by decide⟩ ⟨by decide, by decide⟩ dX11_init_538 (fun q52 H Z => ?_)
  refine cw_putF C Z hin 78 rfl inX11 tyX11_ok nmX11 (by decide) wF_X11_201 rfl rfl rfl rfl dX11_init_540 (fun H locs Z => ?_)
  refine lv_aload_n hx hb dX11_init_543 rfl (lv_at hl 0 rfl) ?_
  refine lv_bipush (v := 20) hx hb dX11_init_544 (by decide) ?_
  refine cw_newI (N := 20) C Z ⟨by decide, by decide, by decide⟩ ⟨by decide, by decide⟩ dX11_init_546 (fun q53 H Z => ?_)
  refine cw_putF C Z hin 79 rfl inX11 tyX11_ok nmX11 (by decide) wF_X11_204 rfl rfl rfl rfl dX11_init_548 (fun H locs Z => ?_)
  refine lv_aload_n hx hb dX11_init_551 rfl (lv_at hl 0 rfl) ?_
  refine lv_bipush (v := 9) hx hb dX11_init_552 (by decide) ?_
  refine cw_newI (N := 9) C Z ⟨by decide, by decide, by decide⟩ ⟨by decide, by decide⟩ dX11_init_554 (fun q54 H Z => ?_)
  refine cw_putF C Z hin 81 rfl inX11 tyX11_ok nmX11 (by decide) wF_X11_207 rfl rfl rfl rfl dX11_init_556 (fun H locs Z => ?_)
  refine lv_aload_n hx hb dX11_init_559 rfl (lv_at hl 0 rfl) ?_
  refine lv_bipush (v := 9) hx hb dX11_init_560 (by decide) ?_
  refine cw_newI (N := 9) C Z ⟨by decide, by decide, by decide⟩ ⟨by decide, by decide⟩ dX11_init_562 (fun q55 H Z => ?_)
  refine cw_putF C Z hin 82 rfl inX11 tyX11_ok nmX11 (by decide) wF_X11_210 rfl rfl rfl rfl dX11_init_564 (fun H locs Z => ?_)
  refine lv_aload_n hx hb dX11_init_567 rfl (lv_at hl 0 rfl) ?_
  refine lv_bipush (v := 6) hx hb dX11_init_568 (by decide) ?_
  refine cw_newI (N := 6) C Z ⟨by decide, by decide, by decide⟩ ⟨by decide, by decide⟩ dX11_init_570 (fun q56 H Z => ?_)
  refine cw_putF C Z hin 84 rfl inX11 tyX11_ok nmX11 (by decide) wF_X11_213 rfl rfl rfl rfl dX11_init_572 (fun H locs Z => ?_)
  refine lv_aload_n hx hb dX11_init_575 rfl (lv_at hl 0 rfl) ?_
  refine lv_bipush (v := 6) hx hb dX11_init_576 (by decide) ?_
  refine cw_newI (N := 6) C Z ⟨by decide, by decide, by decide⟩ ⟨by decide, by decide⟩ dX11_init_578 (fun q57 H Z => ?_)
  refine cw_putF C Z hin 85 rfl inX11 tyX11_ok nmX11 (by decide) wF_X11_216 rfl rfl rfl rfl dX11_init_580 (fun H locs Z => ?_)
  refine lv_aload_n hx hb dX11_init_583 rfl (lv_at hl 0 rfl) ?_
  refine lv_bipush (v := 6) hx hb dX11_init_584 (by decide) ?_
  refine cw_newI (N := 6) C Z ⟨by decide, by decide, by decide⟩ ⟨by decide, by decide⟩ dX11_init_586 (fun q58 H Z => ?_)
  refine cw_putF C Z hin 86 rfl inX11 tyX11_ok nmX11 (by decide) wF_X11_219 rfl rfl rfl rfl dX11_init_588 (fun H locs Z => ?_)
  refine lv_aload_n hx hb dX11_init_591 rfl (lv_at hl 0 rfl) ?_
  refine lv_sipush (v := 637) hx hb dX11_init_592 (by decide) ?_
  refine cw_newJ (N := 637) C Z ⟨by decide, by decide, by decide⟩ ⟨by decide, by decide⟩ dX11_init_595 (fun q59 H Z => ?_)
  refine cw_putF C Z hin 87 rfl inX11 tyX11_ok nmX11 (by decide) wF_X11_222 rfl rfl rfl rfl dX11_init_597 (fun H locs Z => ?_)
  refine lv_aload_n hx hb dX11_init_600 rfl (lv_at hl 0 rfl) ?_
  refine lv_bipush (v := 6) hx hb dX11_init_601 (by decide) ?_
  refine cw_newI (N := 6) C Z ⟨by decide, by decide, by decide⟩ ⟨by decide, by decide⟩ dX11_init_603 (fun q60 H Z => ?_)
  refine cw_putF C Z hin 91 rfl inX11 tyX11_ok nmX11 (by decide) wF_X11_225 rfl rfl rfl rfl dX11_init_605 (fun H locs Z => ?_)
  refine lv_aload_n hx hb dX11_init_608 rfl (lv_at hl 0 rfl) ?_
  refine lv_bipush (v := 6) hx hb dX11_init_609 (by decide) ?_
  refine cw_newI (N := 6) C Z ⟨by decide, by decide, by decide⟩ ⟨by decide, by decide⟩ dX11_init_611 (fun q61 H Z => ?_)
  refine cw_putF C Z hin 92 rfl inX11 tyX11_ok nmX11 (by decide) wF_X11_228 rfl rfl rfl rfl dX11_init_613 (fun H locs Z => ?_)
  exact cw_ret C Z hr hlocks ⟨rfl, rfl⟩ rfl rfl dX11_init_616
