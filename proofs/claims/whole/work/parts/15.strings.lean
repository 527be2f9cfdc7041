/-! the class's String constants: length and charAt -/
section STR
variable {adK adV : Nat → Nat} {p : Program} {l : Launch} {e : Env} {R : Room} {s : State} {m : MethodId} {args : Array Value} {below : List Frame} {meth : Method} {c : Code} {H : Heap} {locs : List Loc} {cells slots : Nat} {Q : State → Prop}
variable {cc : ByteArray} {nL : Nat} {own : String} {pc : Nat} {ls : Array Slot} {rest : List Value} {D : va_G} {kc : Nat → ClassId} {ad : Nat → Nat} {A : Nat → Prop} {σ σ' : St}
theorem g_callWi (C : Cx (eC adK adV) p s m args c cc nL own D kc A) (Z : Dy tC kc ad D A s.heap σ H locs) {y : MethodName} {bytes : ByteArray} {maxL idx n w : Nat} {ret : Option FieldType} {rm : Room} {As : List Value} {r : Int32} (hw : w < srN)
    (K : KC (eC adK adV) tC kc ad D l y (.code y bytes maxL ret) rm (.ref (adK w) :: As) (some (.int r)) σ σ') (lk : LkV own idx y bytes maxL ret n) {lv : List (Nat × Value)} (hl : lv_has ls nL lv) (hR : rm.cells = 0 ∧ rm.slots = 0 ∧ rm.frames + 1 ≤ R.frames ∧ 8 + (maxL + 11) + rm.locals ≤ R.locals ∧ cells ≤ R.cells ∧ slots ≤ R.slots) (hn : As.length = n) (hW : (rest.map fun v => v.category).sum ≤ 8) {st0 : List Value} (hst : st0 = As.reverse ++ .ref (adK w) :: rest) (hd : decode cc pc = .ok (.invokevirtual idx, 3)) (hy : y.cls = "java/lang/String" := by rfl)
    (kk : ∀ (H1 : Heap) (locs1 : List Loc), Dy tC kc ad D A s.heap σ' H1 locs1 → W p l e R s m args below meth c H1 locs1 cells slots Q (F0 m (pc + 3) ls (.int r :: rest))) : W p l e R s m args below meth c H locs cells slots Q (F0 m pc ls st0) := by
  obtain ⟨w1, w2, w3, w4, w5, w6⟩ := lk
  have hB := C.1.2.2.2.2
  have hE := eC_ok adK adV
  have hrecv : ∃ cell : Cell, H[adK w]? = some cell ∧ cell.vm.isStatics = false ∧ s.vm.findClass y.cls = some cell.cls := by
    rw [hy]; exact vk_recv C.2.2.2.2.2.1 hw Z.2.2
  refine g_run C Z (ov := some (.int r)) (a := (Value.ref (adK w) :: As).toArray) (va_runV (As := As) (rest := rest) C.1 (K H.size) ⟨callB_of n hB (bw_good0 w5) rfl hR.1 hR.2.1 (hB _ w4) (hB _ w1) w6 ⟨hR.2.2.1, hR.2.2.2.1⟩, hB _ w2, hB _ w3⟩ ⟨Pre_blind hE, hrecv, fun U hU hW => ⟨rfl, Pre_at hE C Z U hU hW⟩⟩ rfl hn hl.1 hst (lv_room hW) hd hR.2.2.2.2) kk
end STR
def r_J0_coder_7d493 : Room := { frames := 0, cells := 0, slots := 0, locals := 0 }
def r_J0_isLatin1_aae02 : Room := { frames := 0, cells := 0, slots := 0, locals := 0 }
def r_J3_checkIndex_8e157 : Room := { frames := 0, cells := 0, slots := 0, locals := 0 }
def r_J0_checkIndex_df160 : Room := { frames := 1, cells := 0, slots := 0, locals := 22 }
def r_J1_charAt_3b067 : Room := { frames := 2, cells := 0, slots := 0, locals := 43 }
def r_J0_charAt_5068e : Room := { frames := 3, cells := 0, slots := 0, locals := 64 }
def r_J0_length_8abf5 : Room := { frames := 1, cells := 0, slots := 0, locals := 20 }
section STR2
variable {adK adV : Nat → Nat} {l : Launch} {D : va_G} {kc : Nat → ClassId} {ad : Nat → Nat}
theorem k_J0_coder_7d493 {w : Nat} (hw : w < srN) (σ : St) : KC (eC adK adV) tC kc ad D l yJ0_coder_7d493 (.code yJ0_coder_7d493 cJ0_coder_7d493 1 (some .byte)) r_J0_coder_7d493 [.ref (adK w)] (some (.int 0)) σ σ := by
  refine g_enter (by decide) (Nat.le_of_ble_eq_true rfl) ?_
  intro p e s m args below meth c A hA C hr hlocks Z ls hl
  have hl : lv_has ls 1 [(0, .ref (adK w))] := hl
  have hx := C.1.1
  have hb := C.1.2.1
  have hB := C.1.2.2.2.2
  refine va_gets hx hb C.2.2.2.2.2.2.1 Z.2.2 C.1.2.2.2.1 (hB _ wF_J0_38) (fun _ h => h) dJ0_coder_7d493_0 ?_
  refine lv_if_eq (tgt := 13) hx hb dJ0_coder_7d493_3 (by decide) (fun q => absurd q (by decide)) (fun _ => ?_)
  refine lv_aload_n hx hb dJ0_coder_7d493_6 rfl (lv_at hl 0 rfl) ?_
  refine vk_getf hx hb (C.2.2.2.2.2.1.1 w hw).2.1 Z.2.2 C.1.2.2.2.1 (hB _ wF_J0_15) (fun _ h => h) dJ0_coder_7d493_7 ?_
  refine lv_goto (tgt := 14) hx hb dJ0_coder_7d493_10 (by decide) ?_
  exact g_RTi C.1.1 C.1.2.1 hr hlocks hA _ _ _ _ _ Z dJ0_coder_7d493_14 rfl
theorem k_J0_isLatin1_aae02 {w : Nat} (hw : w < srN) (σ : St) : KC (eC adK adV) tC kc ad D l yJ0_isLatin1_aae02 (.code yJ0_isLatin1_aae02 cJ0_isLatin1_aae02 1 (some .boolean)) r_J0_isLatin1_aae02 [.ref (adK w)] (some (.int 1)) σ σ := by
  refine g_enter (by decide) (Nat.le_of_ble_eq_true rfl) ?_
  intro p e s m args below meth c A hA C hr hlocks Z ls hl
  have hl : lv_has ls 1 [(0, .ref (adK w))] := hl
  have hx := C.1.1
  have hb := C.1.2.1
  have hB := C.1.2.2.2.2
  refine va_gets hx hb C.2.2.2.2.2.2.1 Z.2.2 C.1.2.2.2.1 (hB _ wF_J0_38) (fun _ h => h) dJ0_isLatin1_aae02_0 ?_
  refine lv_if_eq (tgt := 17) hx hb dJ0_isLatin1_aae02_3 (by decide) (fun q => absurd q (by decide)) (fun _ => ?_)
  refine lv_aload_n hx hb dJ0_isLatin1_aae02_6 rfl (lv_at hl 0 rfl) ?_
  refine vk_getf hx hb (C.2.2.2.2.2.1.1 w hw).2.1 Z.2.2 C.1.2.2.2.1 (hB _ wF_J0_15) (fun _ h => h) dJ0_isLatin1_aae02_7 ?_
  refine lv_if_ne (tgt := 17) hx hb dJ0_isLatin1_aae02_10 (by decide) (fun q => absurd rfl q) (fun _ => ?_)
  refine lv_iconst (v := 1) hx hb dJ0_isLatin1_aae02_13 (by decide) ?_
  refine lv_goto (tgt := 18) hx hb dJ0_isLatin1_aae02_14 (by decide) ?_
  exact g_RTi C.1.1 C.1.2.1 hr hlocks hA _ _ _ _ _ Z dJ0_isLatin1_aae02_18 rfl
theorem k_J3_checkIndex_8e157 {i n : Int32} {v : Value} (hv : v = .null ∨ ∃ a, v = .ref a) (h1 : ¬ i < 0) (h2 : i < n) (σ : St) : KC (eC adK adV) tC kc ad D l yJ3_checkIndex_8e157 (.code yJ3_checkIndex_8e157 cJ3_checkIndex_8e157 3 (some .int)) r_J3_checkIndex_8e157 [.int i, .int n, v] (some (.int i)) σ σ := by
  refine g_enter (by decide) (by rcases hv with rfl | ⟨a, rfl⟩ <;> exact Nat.le_of_ble_eq_true rfl) ?_
  intro p e s m args below meth c A hA C hr hlocks Z ls hl
  have hl : lv_has ls 3 [(0, .int i), (1, .int n), (2, v)] := hl
  have hx := C.1.1
  have hb := C.1.2.1
  refine lv_iload_n hx hb dJ3_checkIndex_8e157_0 rfl (lv_at hl 0 rfl) ?_
  refine lv_if_lt (tgt := 9) hx hb dJ3_checkIndex_8e157_1 (by decide) (fun q => absurd q h1) (fun _ => ?_)
  refine lv_iload_n hx hb dJ3_checkIndex_8e157_4 rfl (lv_at hl 0 rfl) ?_
  refine lv_iload_n hx hb dJ3_checkIndex_8e157_5 rfl (lv_at hl 1 rfl) ?_
  refine lv_icmp_lt (tgt := 16) hx hb dJ3_checkIndex_8e157_6 (by decide) (fun _ => ?_) (fun q => absurd h2 q)
  refine lv_iload_n hx hb dJ3_checkIndex_8e157_16 rfl (lv_at hl 0 rfl) ?_
  exact g_RTi C.1.1 C.1.2.1 hr hlocks hA _ _ _ _ _ Z dJ3_checkIndex_8e157_17 rfl
theorem k_J0_checkIndex_df160 {i n : Int32} (h1 : ¬ i < 0) (h2 : i < n) (σ : St) : KC (eC adK adV) tC kc ad D l yJ0_checkIndex_df160 (.code yJ0_checkIndex_df160 cJ0_checkIndex_df160 2 none) r_J0_checkIndex_df160 [.int i, .int n] none σ σ := by
  refine g_enter (by decide) (Nat.le_of_ble_eq_true rfl) ?_
  intro p e s m args below meth c A hA C hr hlocks Z ls hl
  have hl : lv_has ls 2 [(0, .int i), (1, .int n)] := hl
  have hx := C.1.1
  have hb := C.1.2.1
  have hB := C.1.2.2.2.2
  refine lv_iload_n hx hb dJ0_checkIndex_df160_0 rfl (lv_at hl 0 rfl) ?_
  refine lv_iload_n hx hb dJ0_checkIndex_df160_1 rfl (lv_at hl 1 rfl) ?_
  have hq := C.2.2.2.2.2.2.2
  have key : ∀ v : Value, (v = .null ∨ ∃ a, v = .ref a) → W p l e r_J0_checkIndex_df160 s m args below meth c s.heap [] 0 0 (MQ below (QQ tC kc ad D none σ σ s.heap.size) args s 0 0 A) (F0 m 5 ls [v, .int n, .int i]) := by
    intro v hv
    refine g_callSi (eC_ok adK adV) C Z (k_J3_checkIndex_8e157 hv h1 h2 σ) lk_J0_1059 hl (by decide) rfl (Nat.le_of_ble_eq_true rfl) (rest := []) rfl dJ0_checkIndex_df160_5 (fun H locs Z => ?_)
    refine lv_pop hx hb dJ0_checkIndex_df160_8 rfl ?_
    exact g_RTv C.1.1 C.1.2.1 hr hlocks hA _ _ _ _ Z dJ0_checkIndex_df160_9
  rcases hq with hz | ⟨t, hz⟩
  · exact va_gets hx hb hz Z.2.2 C.1.2.2.2.1 (hB _ wF_J0_1053) (fun _ h => h) dJ0_checkIndex_df160_2 (key _ (Or.inl rfl))
  · exact va_gets hx hb hz Z.2.2 C.1.2.2.2.1 (hB _ wF_J0_1053) (fun _ h => h) dJ0_checkIndex_df160_2 (key _ (Or.inr ⟨t, rfl⟩))
/-- the sign at a place of a constant -/
def srCh (w : Nat) (i : Int32) : Int32 := (((srByt.getD w []).getD i.toNatClampNeg 0 &&& 255).toUInt32 % 65536).toInt32
theorem k_J1_charAt_3b067 {w : Nat} (hw : w < srN) {i : Int32} (h1 : ¬ i < 0) (h2 : i < Int32.ofNat (srLen.getD w 0)) (σ : St) : KC (eC adK adV) tC kc ad D l yJ1_charAt_3b067 (.code yJ1_charAt_3b067 cJ1_charAt_3b067 2 (some .char)) r_J1_charAt_3b067 [.ref (adV w), .int i] (some (.int (vp_nar .char (srCh w i)))) σ σ := by
  refine g_enter (by decide) (Nat.le_of_ble_eq_true rfl) ?_
  intro p e s m args below meth c A hA C hr hlocks Z ls hl
  have hl : lv_has ls 2 [(0, .ref (adV w)), (1, .int i)] := hl
  have hx := C.1.1
  have hb := C.1.2.1
  have hT := (C.2.2.2.2.2.1.1 w hw).2.2.2
  have hL : srLen.getD w 0 < 100 := (by decide : ∀ w, w < srN → srLen.getD w 0 < 100) w hw
  have hin : vp_in i (srLen.getD w 0) := by
    rw [vp_in_iff]
    have a1 := Int32.not_lt.mp h1
    have a2 := Int32.lt_iff_toInt_lt.mp h2
    have a3 := Int32.le_iff_toInt_le.mp a1
    rw [show (Int32.ofNat (srLen.getD w 0)).toInt = (srLen.getD w 0 : Int) from nI_toInt (by omega)] at a2
    exact ⟨a3, a2⟩
  refine lv_iload_n hx hb dJ1_charAt_3b067_0 rfl (lv_at hl 1 rfl) ?_
  refine lv_aload_n hx hb dJ1_charAt_3b067_1 rfl (lv_at hl 0 rfl) ?_
  refine va_tlen hx hb hT Z.2.2 rfl dJ1_charAt_3b067_2 ?_
  refine g_callSv (eC_ok adK adV) C Z (k_J0_checkIndex_df160 h1 h2 σ) lk_J1_9 hl (by decide) rfl (Nat.le_of_ble_eq_true rfl) (rest := []) rfl dJ1_charAt_3b067_3 (fun H locs Z => ?_)
  refine lv_aload_n hx hb dJ1_charAt_3b067_6 rfl (lv_at hl 0 rfl) ?_
  refine lv_iload_n hx hb dJ1_charAt_3b067_7 rfl (lv_at hl 1 rfl) ?_
  refine va_tb hx hb hT Z.2.2 hin rfl dJ1_charAt_3b067_8 ?_
  refine lv_sipush (v := 255) hx hb dJ1_charAt_3b067_9 (by decide) ?_
  refine lv_iand hx hb dJ1_charAt_3b067_12 ?_
  refine lv_i2c (v := srCh w i) hx hb dJ1_charAt_3b067_13 rfl ?_
  exact g_RTi C.1.1 C.1.2.1 hr hlocks hA _ _ _ _ _ Z dJ1_charAt_3b067_14 (nar_c _)
def f_J0_length_8abf5 (w : Nat) (_ : St) : Option Int32 := some (nI (srLen.getD w 0))
def f_J0_charAt_5068e (w : Nat) (i : Int32) (_ : St) : Option Int32 := if i < 0 then none else if i < Int32.ofNat (srLen.getD w 0) then some (vp_nar .char (srCh w i)) else none
theorem k_J0_charAt_5068e {w : Nat} (hw : w < srN) {i : Int32} {σ : St} {R : Int32} (h : f_J0_charAt_5068e w i σ = some R) : KC (eC adK adV) tC kc ad D l yJ0_charAt_5068e (.code yJ0_charAt_5068e cJ0_charAt_5068e 2 (some .char)) r_J0_charAt_5068e [.ref (adK w), .int i] (some (.int R)) σ σ := by
  have h1 : ¬ i < 0 := fun q => by rw [f_J0_charAt_5068e, if_pos q] at h; cases h
  have h := im h h1
  have h2 : i < Int32.ofNat (srLen.getD w 0) := by
    by_cases q : i < Int32.ofNat (srLen.getD w 0)
    · exact q
    · rw [if_neg q] at h; cases h
  have h := ip h h2
  obtain rfl := Option.some.inj h
  refine g_enter (by decide) (Nat.le_of_ble_eq_true rfl) ?_
  intro p e s m args below meth c A hA C hr hlocks Z ls hl
  have hl : lv_has ls 2 [(0, .ref (adK w)), (1, .int i)] := hl
  have hx := C.1.1
  have hb := C.1.2.1
  have hB := C.1.2.2.2.2
  refine lv_aload_n hx hb dJ0_charAt_5068e_0 rfl (lv_at hl 0 rfl) ?_
  refine g_callWi C Z hw (k_J0_isLatin1_aae02 hw σ) lk_J0_492 hl (by decide) rfl (Nat.le_of_ble_eq_true rfl) (rest := []) rfl dJ0_charAt_5068e_1 rfl (fun H locs Z => ?_)
  refine lv_if_eq (tgt := 16) hx hb dJ0_charAt_5068e_4 (by decide) (fun q => absurd q (by decide)) (fun _ => ?_)
  refine lv_aload_n hx hb dJ0_charAt_5068e_7 rfl (lv_at hl 0 rfl) ?_
  refine vk_getf hx hb (C.2.2.2.2.2.1.1 w hw).2.2.1 Z.2.2 C.1.2.2.2.1 (hB _ wF_J0_9) (fun _ h => h) dJ0_charAt_5068e_8 ?_
  refine lv_iload_n hx hb dJ0_charAt_5068e_11 rfl (lv_at hl 1 rfl) ?_
  refine g_callSi (eC_ok adK adV) C Z (k_J1_charAt_3b067 hw h1 h2 σ) lk_J0_495 hl (by decide) rfl (Nat.le_of_ble_eq_true rfl) (rest := []) rfl dJ0_charAt_5068e_12 (fun H locs Z => ?_)
  exact g_RTi C.1.1 C.1.2.1 hr hlocks hA _ _ _ _ _ Z dJ0_charAt_5068e_15 (by
    have : ∀ z : Int32, narrow .char (.int (vp_nar .char z)) = .int (vp_nar .char z) := by
      intro z
      have e : vp_nar .char z = (z.toUInt32.toUInt16.toUInt32.toInt32) := rfl
      rw [e]
      show Value.int ((z.toUInt32.toUInt16.toUInt32.toInt32).toUInt32.toUInt16.toUInt32.toInt32) = _
      congr 1
      simp
      congr 1
      apply UInt32.toNat_inj.mp
      simp [UInt32.toNat_mod]
    exact this _)
theorem k_J0_length_8abf5 {w : Nat} (hw : w < srN) {σ : St} {R : Int32} (h : f_J0_length_8abf5 w σ = some R) : KC (eC adK adV) tC kc ad D l yJ0_length_8abf5 (.code yJ0_length_8abf5 cJ0_length_8abf5 1 (some .int)) r_J0_length_8abf5 [.ref (adK w)] (some (.int R)) σ σ := by
  obtain rfl := Option.some.inj h
  refine g_enter (by decide) (Nat.le_of_ble_eq_true rfl) ?_
  intro p e s m args below meth c A hA C hr hlocks Z ls hl
  have hl : lv_has ls 1 [(0, .ref (adK w))] := hl
  have hx := C.1.1
  have hb := C.1.2.1
  have hB := C.1.2.2.2.2
  refine lv_aload_n hx hb dJ0_length_8abf5_0 rfl (lv_at hl 0 rfl) ?_
  refine vk_getf hx hb (C.2.2.2.2.2.1.1 w hw).2.2.1 Z.2.2 C.1.2.2.2.1 (hB _ wF_J0_9) (fun _ h => h) dJ0_length_8abf5_1 ?_
  refine va_tlen hx hb (C.2.2.2.2.2.1.1 w hw).2.2.2 Z.2.2 rfl dJ0_length_8abf5_4 ?_
  refine lv_aload_n hx hb dJ0_length_8abf5_5 rfl (lv_at hl 0 rfl) ?_
  refine g_callWi C Z hw (k_J0_coder_7d493 hw σ) lk_J0_335 hl (by decide) rfl (Nat.le_of_ble_eq_true rfl) (rest := [.int (Int32.ofNat (srLen.getD w 0))]) rfl dJ0_length_8abf5_6 rfl (fun H locs Z => ?_)
  refine lv_ishr hx hb dJ0_length_8abf5_9 ?_
  have e0 : Int32.ofNat (srLen.getD w 0) >>> ((0 : Int32) &&& 31) = nI (srLen.getD w 0) := (by decide : ∀ w, w < srN → Int32.ofNat (srLen.getD w 0) >>> ((0 : Int32) &&& 31) = nI (srLen.getD w 0)) w hw
  rw [e0]
  exact g_RTi C.1.1 C.1.2.1 hr hlocks hA _ _ _ _ _ Z dJ0_length_8abf5_10 rfl
end STR2
