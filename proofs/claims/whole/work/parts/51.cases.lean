def cC_0 (a1 : Int32) (σ : St) : Option (Int32 × St) := f_X10_clock a1 σ
def cM_0 (a1 : Int32) (σ : St) : Option (Int32 × St) := f_X11_clock a1 σ
def cC_1 (a1 a2 a3 : Int32) (σ : St) : Option (Int32 × St) := f_X10_depth a1 a2 a3 σ
def cM_1 (a1 a2 a3 : Int32) (σ : St) : Option (Int32 × St) := f_X11_depth a1 a2 a3 σ
def cC_2 (a1 a2 a3 a4 : Int32) (σ : St) : Option (Int32 × St) := f_X10_ship a1 a2 a3 a4 σ
def cM_2 (a1 a2 a3 a4 : Int32) (σ : St) : Option (Int32 × St) := f_X11_ship a1 a2 a3 a4 σ
def cC_3 (a1 a2 a3 a4 a5 : Int32) (σ : St) : Option (Int32 × St) := f_X10_report a1 a2 a3 a4 a5 σ
def cM_3 (a1 a2 a3 a4 a5 : Int32) (σ : St) : Option (Int32 × St) := f_X11_report a1 a2 a3 a4 a5 σ
def cC_4 (a1 a2 a3 : Int32) (σ : St) : Option (Int32 × St) := (f_X10_where a1 a2 a3 σ).map (fun v => (v, σ))
def cM_4 (a1 a2 a3 : Int32) (σ : St) : Option (Int32 × St) := (f_X11_where a1 a2 a3 σ).map (fun v => (v, σ))
def cC_5 (a1 a2 : Int32) (σ : St) : Option (Int32 × St) := f_X10_chain a1 a2 σ
def cM_5 (a1 a2 : Int32) (σ : St) : Option (Int32 × St) := f_X11_chain a1 a2 σ
def cC_6 (a1 : Int32) (σ : St) : Option (Int32 × St) := (f_X10_chained a1 σ).map (fun v => (v, σ))
def cM_6 (a1 : Int32) (σ : St) : Option (Int32 × St) := (f_X11_chained a1 σ).map (fun v => (v, σ))
def cC_7 (a1 a2 a3 : Int32) (σ : St) : Option (Int32 × St) := f_X10_point a1 a2 a3 σ
def cM_7 (a1 a2 a3 : Int32) (σ : St) : Option (Int32 × St) := f_X11_point a1 a2 a3 σ
def cC_8 (a1 a2 : Int32) (σ : St) : Option (Int32 × St) := f_X10_chart a1 a2 σ
def cM_8 (a1 a2 : Int32) (σ : St) : Option (Int32 × St) := f_X11_chart a1 a2 σ
def cC_9 (a1 a2 : Int32) (σ : St) : Option (Int32 × St) := f_X10_reach a1 a2 σ
def cM_9 (a1 a2 : Int32) (σ : St) : Option (Int32 × St) := f_X11_reach a1 a2 σ
def cC_10 (a1 a2 a3 a4 a5 : Int32) (σ : St) : Option (Int32 × St) := f_X10_within a1 a2 a3 a4 a5 σ
def cM_10 (a1 a2 a3 a4 a5 : Int32) (σ : St) : Option (Int32 × St) := f_X11_within a1 a2 a3 a4 a5 σ
def cC_11 (a1 a2 a3 a4 : Int32) (σ : St) : Option (Int64 × St) := f_X10_inside a1 a2 a3 a4 σ
def cM_11 (a1 a2 a3 a4 : Int32) (σ : St) : Option (Int64 × St) := f_X11_inside a1 a2 a3 a4 σ
def cC_12 (a1 a2 : Int32) (σ : St) : Option (Int32 × St) := (f_X10_beside a1 a2 σ).map (fun v => (v, σ))
def cM_12 (a1 a2 : Int32) (σ : St) : Option (Int32 × St) := (f_X11_beside a1 a2 σ).map (fun v => (v, σ))
def cC_13 (a1 a2 a3 a4 a5 : Int32) (σ : St) : Option (Int32 × St) := f_X10_feed a1 a2 a3 a4 a5 σ
def cM_13 (a1 a2 a3 a4 a5 : Int32) (σ : St) : Option (Int32 × St) := f_X11_feed a1 a2 a3 a4 a5 σ
def cC_14 (a1 : Int32) (σ : St) : Option (Int32 × St) := f_X10_end a1 σ
def cM_14 (a1 : Int32) (σ : St) : Option (Int32 × St) := f_X11_end a1 σ
def cC_15 (a1 a2 : Int32) (σ : St) : Option (Int32 × St) := f_X10_statute a1 a2 σ
def cM_15 (a1 a2 : Int32) (σ : St) : Option (Int32 × St) := f_X11_statute a1 a2 σ
def cC_16 (a1 a2 : Int32) (σ : St) : Option (Int32 × St) := (f_X10_inForce a1 a2 σ).map (fun v => (v, σ))
def cM_16 (a1 a2 : Int32) (σ : St) : Option (Int32 × St) := (f_X11_inForce a1 a2 σ).map (fun v => (v, σ))
def cC_17 (a1 a2 a3 a4 a5 a6 : Int32) (σ : St) : Option (Int32 × St) := f_X10_may a1 a2 a3 a4 a5 a6 σ
def cM_17 (a1 a2 a3 a4 a5 a6 : Int32) (σ : St) : Option (Int32 × St) := f_X11_may a1 a2 a3 a4 a5 a6 σ
def cC_18 (a1 a2 a3 a4 a5 : Int32) (σ : St) : Option (Int64 × St) := f_X10_mesh a1 a2 a3 a4 a5 σ
def cM_18 (a1 a2 a3 a4 a5 : Int32) (σ : St) : Option (Int64 × St) := f_X11_mesh a1 a2 a3 a4 a5 σ
def cC_19 (a1 a2 a3 a4 a5 a6 : Int32) (σ : St) : Option (Int32 × St) := f_X10_by a1 a2 a3 a4 a5 a6 σ
def cM_19 (a1 a2 a3 a4 a5 a6 : Int32) (σ : St) : Option (Int32 × St) := f_X11_by a1 a2 a3 a4 a5 a6 σ
def cC_20 (a1 a2 a3 a4 a5 : Int32) (σ : St) : Option (Int32 × St) := f_X10_act a1 a2 a3 a4 a5 σ
def cM_20 (a1 a2 a3 a4 a5 : Int32) (σ : St) : Option (Int32 × St) := f_X11_act a1 a2 a3 a4 a5 σ
def cC_21 (a1 a2 : Int32) (σ : St) : Option (Int32 × St) := f_X10_kept a1 a2 σ
def cM_21 (a1 a2 : Int32) (σ : St) : Option (Int32 × St) := f_X11_kept a1 a2 σ
def cC_22 (a1 a2 : Int32) (σ : St) : Option (Int32 × St) := f_X10_broken a1 a2 σ
def cM_22 (a1 a2 : Int32) (σ : St) : Option (Int32 × St) := f_X11_broken a1 a2 σ
def cC_23 (a1 a2 a3 a4 a5 a6 : Int32) (σ : St) : Option (Int32 × St) := f_X10_hook a1 a2 a3 a4 a5 a6 σ
def cM_23 (a1 a2 a3 a4 a5 a6 : Int32) (σ : St) : Option (Int32 × St) := f_X11_hook a1 a2 a3 a4 a5 a6 σ
def cC_24 (σ : St) : Option (Int32 × St) := some (f_X10_hooks σ, σ)
def cM_24 (σ : St) : Option (Int32 × St) := some (f_X11_hooks σ, σ)
def cC_25 (a1 a2 a3 a4 : Int32) (σ : St) : Option (Int32 × St) := (f_X10_way a1 a2 a3 a4 σ).map (fun v => (v, σ))
def cM_25 (a1 a2 a3 a4 : Int32) (σ : St) : Option (Int32 × St) := (f_X11_way a1 a2 a3 a4 σ).map (fun v => (v, σ))
def cC_26 (a1 a2 a3 : Int32) (σ : St) : Option (Int32 × St) := f_X10_office a1 a2 a3 σ
def cM_26 (a1 a2 a3 : Int32) (σ : St) : Option (Int32 × St) := f_X11_office a1 a2 a3 σ
def cC_27 (a1 a2 a3 : Int32) (σ : St) : Option (Int32 × St) := f_X10_year a1 a2 a3 σ
def cM_27 (a1 a2 a3 : Int32) (σ : St) : Option (Int32 × St) := f_X11_year a1 a2 a3 σ
def cC_28 (a1 a2 : Int32) (σ : St) : Option (Int64 × St) := (f_X10_stock a1 a2 σ).map (fun v => (v, σ))
def cM_28 (a1 a2 : Int32) (σ : St) : Option (Int64 × St) := (f_X11_stock a1 a2 σ).map (fun v => (v, σ))
def cC_29 (a1 : Int32) (σ : St) : Option (Int32 × St) := (f_X10_fails a1 σ).map (fun v => (v, σ))
def cM_29 (a1 : Int32) (σ : St) : Option (Int32 × St) := (f_X11_fails_ a1 σ).map (fun v => (v, σ))
def cC_30 (a1 a2 : Int32) (σ : St) : Option (Int32 × St) := (f_X10_agree a1 a2 σ).map (fun v => (v, σ))
def cM_30 (a1 a2 : Int32) (σ : St) : Option (Int32 × St) := (f_X11_agree a1 a2 σ).map (fun v => (v, σ))
def cC_31 (a1 a2 a3 a4 : Int32) (σ : St) : Option (Int32 × St) := f_X10_age a1 a2 a3 a4 σ
def cM_31 (a1 a2 a3 a4 : Int32) (σ : St) : Option (Int32 × St) := f_X11_age a1 a2 a3 a4 σ
def cC_32 (a1 a2 a3 a4 a5 : Int32) (σ : St) : Option (Int64 × St) := f_X10_landed a1 a2 a3 a4 a5 σ
def cM_32 (a1 a2 a3 a4 a5 : Int32) (σ : St) : Option (Int64 × St) := f_X11_landed a1 a2 a3 a4 a5 σ
def cC_33 (a1 a2 a3 a4 a5 : Int32) (σ : St) : Option (Int32 × St) := f_X10_pays a1 a2 a3 a4 a5 σ
def cM_33 (a1 a2 a3 a4 a5 : Int32) (σ : St) : Option (Int32 × St) := f_X11_pays a1 a2 a3 a4 a5 σ
def cC_34 (a1 a2 a3 a4 : Int32) (σ : St) : Option (Int32 × St) := f_X10_town a1 a2 a3 a4 σ
def cM_34 (a1 a2 a3 a4 : Int32) (σ : St) : Option (Int32 × St) := f_X11_town a1 a2 a3 a4 σ
def cC_35 (a1 a2 a3 : Int32) (σ : St) : Option (Int32 × St) := f_X10_bar a1 a2 a3 σ
def cM_35 (a1 a2 a3 : Int32) (σ : St) : Option (Int32 × St) := f_X11_bar a1 a2 a3 σ
def cC_36 (a1 a2 : Int32) (σ : St) : Option (Int32 × St) := (f_X10_lost a1 a2 σ).map (fun v => (v, σ))
def cM_36 (a1 a2 : Int32) (σ : St) : Option (Int32 × St) := (f_X11_lost a1 a2 σ).map (fun v => (v, σ))
def cC_37 (a1 : Int32) (σ : St) : Option (Int32 × St) := (f_X10_yields a1 σ).map (fun v => (v, σ))
def cM_37 (a1 : Int32) (σ : St) : Option (Int32 × St) := (f_X11_yields a1 σ).map (fun v => (v, σ))
def cC_38 (a1 : Int32) (σ : St) : Option (Int32 × St) := (f_X10_sideYields a1 σ).map (fun v => (v, σ))
def cM_38 (a1 : Int32) (σ : St) : Option (Int32 × St) := (f_X11_sideYields a1 σ).map (fun v => (v, σ))
def cC_39 (a1 a2 : Int32) (σ : St) : Option (Int32 × St) := f_X10_term a1 a2 σ
def cM_39 (a1 a2 : Int32) (σ : St) : Option (Int32 × St) := f_X11_term a1 a2 σ
def cC_40 (a1 a2 : Int32) (σ : St) : Option (Int32 × St) := (f_X10_sign a1 a2 σ).map (fun v => (v, σ))
def cM_40 (a1 a2 : Int32) (σ : St) : Option (Int32 × St) := (f_X11_sign a1 a2 σ).map (fun v => (v, σ))
def cC_41 (a1 a2 a3 : Int32) (σ : St) : Option (Int32 × St) := f_X10_box a1 a2 a3 σ
def cM_41 (a1 a2 a3 : Int32) (σ : St) : Option (Int32 × St) := f_X11_box a1 a2 a3 σ
def cC_42 (a1 a2 : Int32) (σ : St) : Option (Int32 × St) := f_X10_escort a1 a2 σ
def cM_42 (a1 a2 : Int32) (σ : St) : Option (Int32 × St) := f_X11_escort a1 a2 σ
def cC_43 (a1 : Int32) (σ : St) : Option (Int32 × St) := (f_X10_escorts a1 σ).map (fun v => (v, σ))
def cM_43 (a1 : Int32) (σ : St) : Option (Int32 × St) := (f_X11_escorts a1 σ).map (fun v => (v, σ))
def cC_44 (a1 : Int32) (σ : St) : Option (Int32 × St) := (f_X10_count a1 σ).map (fun v => (v, σ))
def cM_44 (a1 : Int32) (σ : St) : Option (Int32 × St) := (f_X11_count a1 σ).map (fun v => (v, σ))
set_option maxRecDepth 20000 in
theorem lw_case_0 {p : Program} {l : Launch} {e : Env} {s : State} {m : MethodId} {below : List Frame} {meth : Method} {c : Code} {Q : State → Prop} {D : va_G} {kc : Nat → ClassId} {ad ad2 : Nat → Nat} {A : Nat → Prop} {adK adV : Nat → Nat} {b L : Nat} {xs : Nat → Int32} {H : Heap} {locs : List Loc} {cells slots : Nat} {ls : Array Slot} {x3 : Int32} {σ τ : St} {Inv : St → St → Prop} (C : Cx (eC adK adV) p s m #[Value.ref b] c cL_law 4 RL D kc A) (hX : va_X b L xs s s.heap) (hbl : b < s.heap.size) (hbA : ¬ A b) (hv : ∀ k : Nat, k < 7 → vp_in (x3 + nI k) L) (hs : SimI Inv (cC_0 (xs (x3 + 1).toNatClampNeg)) (cM_0 (xs (x3 + 1).toNatClampNeg))) (Z1 : Dy tC kc ad D A s.heap σ H locs) (Z2 : Dy tM kc ad2 D A s.heap τ H locs) (hdj : ∀ i, i < tC.1 → ∀ j, j < tM.1 → ad i ≠ ad2 j) (hI0 : Inv σ τ) (hcs : cells + 1 ≤ room_1.cells ∧ slots + 5300 ≤ room_1.slots) (hl : lv_has ls 4 [(0, .ref b), (1, .ref (ad 0)), (2, .ref (ad2 0)), (3, .int x3)]) (hn : ∀ (ad' : Nat → Nat) (σ' τ' : St) (H : Heap) (locs : List Loc) (cells' slots' : Nat), cells' ≤ cells + 1 → slots' ≤ slots + 5300 → ad' 0 = ad 0 → (∀ i, i < tC.1 → ∀ j, j < tM.1 → ad' i ≠ ad2 j) → Dy tC kc ad' D A s.heap σ' H locs → Dy tM kc ad2 D A s.heap τ' H locs → Inv σ' τ' → W p l e room_1 s m #[Value.ref b] below meth c H locs cells' slots' Q (F0 m 2123 ls [])) : W p l e room_1 s m #[Value.ref b] below meth c H locs cells slots Q (F0 m 228 ls []) := by
  obtain ⟨r, σ', τ', hc, hm, hI⟩ := hs σ τ hI0
  unfold cC_0 at hc
  unfold cM_0 at hm
  have hcs0 : cells ≤ room_1.cells ∧ slots ≤ room_1.slots := ⟨by omega, by omega⟩
  refine lv_aload_n C.1.1 C.1.2.1 dL_law_228 rfl (lv_at hl 1 rfl) ?_
  refine lv_aload_n C.1.1 C.1.2.1 dL_law_229 rfl (lv_at hl 0 rfl) ?_
  refine lv_iload_n C.1.1 C.1.2.1 dL_law_230 rfl (lv_at hl 3 rfl) ?_
  refine lv_iconst (v := 1) C.1.1 C.1.2.1 dL_law_231 (by decide) ?_
  refine lv_iadd C.1.1 C.1.2.1 dL_law_232 ?_
  refine va_sld C.1.1 C.1.2.1 hX hbl hbA Z1.2.2 (hv 1 (by decide)) dL_law_233 ?_
  refine g_call2 (ov := (some (.int r))) (σ' := σ') (eC_ok adK adV) C Z1 Z2 hdj (eC_at C Z1) (k_X10_clock hc) lk_L_13 (by decide) rfl rfl hl ⟨rfl, rfl, by decide, by decide⟩ hcs0 rfl (Nat.le_of_ble_eq_true rfl) (rest := []) rfl dL_law_234 (fun H locs Z1 Z2 => ?_)
  refine lv_aload_n C.1.1 C.1.2.1 dL_law_237 rfl (lv_at hl 2 rfl) ?_
  refine lv_aload_n C.1.1 C.1.2.1 dL_law_238 rfl (lv_at hl 0 rfl) ?_
  refine lv_iload_n C.1.1 C.1.2.1 dL_law_239 rfl (lv_at hl 3 rfl) ?_
  refine lv_iconst (v := 1) C.1.1 C.1.2.1 dL_law_240 (by decide) ?_
  refine lv_iadd C.1.1 C.1.2.1 dL_law_241 ?_
  refine va_sld C.1.1 C.1.2.1 hX hbl hbA Z1.2.2 (hv 1 (by decide)) dL_law_242 ?_
  refine g_call2 (ov := (some (.int r))) (σ' := τ') eM_ok C Z2 Z1 (fun i hi j hj e => hdj j hj i hi e.symm) (fun _ _ _ => trivial) (k_X11_clock hm) lk_L_17 (by decide) rfl rfl hl ⟨rfl, rfl, by decide, by decide⟩ hcs0 rfl (Nat.le_of_ble_eq_true rfl) (rest := [.int r]) rfl dL_law_243 (fun H locs Z2 Z1 => ?_)
  refine lv_icmp_eq (tgt := 2123) C.1.1 C.1.2.1 dL_law_246 (by decide) (fun _ => ?_) (fun z => absurd rfl z)
  exact hn ad _ _ _ _ _ _ (Nat.le_succ _) (Nat.le_add_right _ _) rfl hdj Z1 Z2 hI
set_option maxRecDepth 20000 in
theorem lw_case_1 {p : Program} {l : Launch} {e : Env} {s : State} {m : MethodId} {below : List Frame} {meth : Method} {c : Code} {Q : State → Prop} {D : va_G} {kc : Nat → ClassId} {ad ad2 : Nat → Nat} {A : Nat → Prop} {adK adV : Nat → Nat} {b L : Nat} {xs : Nat → Int32} {H : Heap} {locs : List Loc} {cells slots : Nat} {ls : Array Slot} {x3 : Int32} {σ τ : St} {Inv : St → St → Prop} (C : Cx (eC adK adV) p s m #[Value.ref b] c cL_law 4 RL D kc A) (hX : va_X b L xs s s.heap) (hbl : b < s.heap.size) (hbA : ¬ A b) (hv : ∀ k : Nat, k < 7 → vp_in (x3 + nI k) L) (hs : SimI Inv (cC_1 (xs (x3 + 1).toNatClampNeg) (xs (x3 + 2).toNatClampNeg) (xs (x3 + 3).toNatClampNeg)) (cM_1 (xs (x3 + 1).toNatClampNeg) (xs (x3 + 2).toNatClampNeg) (xs (x3 + 3).toNatClampNeg))) (Z1 : Dy tC kc ad D A s.heap σ H locs) (Z2 : Dy tM kc ad2 D A s.heap τ H locs) (hdj : ∀ i, i < tC.1 → ∀ j, j < tM.1 → ad i ≠ ad2 j) (hI0 : Inv σ τ) (hcs : cells + 1 ≤ room_1.cells ∧ slots + 5300 ≤ room_1.slots) (hl : lv_has ls 4 [(0, .ref b), (1, .ref (ad 0)), (2, .ref (ad2 0)), (3, .int x3)]) (hn : ∀ (ad' : Nat → Nat) (σ' τ' : St) (H : Heap) (locs : List Loc) (cells' slots' : Nat), cells' ≤ cells + 1 → slots' ≤ slots + 5300 → ad' 0 = ad 0 → (∀ i, i < tC.1 → ∀ j, j < tM.1 → ad' i ≠ ad2 j) → Dy tC kc ad' D A s.heap σ' H locs → Dy tM kc ad2 D A s.heap τ' H locs → Inv σ' τ' → W p l e room_1 s m #[Value.ref b] below meth c H locs cells' slots' Q (F0 m 2123 ls [])) : W p l e room_1 s m #[Value.ref b] below meth c H locs cells slots Q (F0 m 251 ls []) := by
  obtain ⟨r, σ', τ', hc, hm, hI⟩ := hs σ τ hI0
  unfold cC_1 at hc
  unfold cM_1 at hm
  have hcs0 : cells ≤ room_1.cells ∧ slots ≤ room_1.slots := ⟨by omega, by omega⟩
  refine lv_aload_n C.1.1 C.1.2.1 dL_law_251 rfl (lv_at hl 1 rfl) ?_
  refine lv_aload_n C.1.1 C.1.2.1 dL_law_252 rfl (lv_at hl 0 rfl) ?_
  refine lv_iload_n C.1.1 C.1.2.1 dL_law_253 rfl (lv_at hl 3 rfl) ?_
  refine lv_iconst (v := 1) C.1.1 C.1.2.1 dL_law_254 (by decide) ?_
  refine lv_iadd C.1.1 C.1.2.1 dL_law_255 ?_
  refine va_sld C.1.1 C.1.2.1 hX hbl hbA Z1.2.2 (hv 1 (by decide)) dL_law_256 ?_
  refine lv_aload_n C.1.1 C.1.2.1 dL_law_257 rfl (lv_at hl 0 rfl) ?_
  refine lv_iload_n C.1.1 C.1.2.1 dL_law_258 rfl (lv_at hl 3 rfl) ?_
  refine lv_iconst (v := 2) C.1.1 C.1.2.1 dL_law_259 (by decide) ?_
  refine lv_iadd C.1.1 C.1.2.1 dL_law_260 ?_
  refine va_sld C.1.1 C.1.2.1 hX hbl hbA Z1.2.2 (hv 2 (by decide)) dL_law_261 ?_
  refine lv_aload_n C.1.1 C.1.2.1 dL_law_262 rfl (lv_at hl 0 rfl) ?_
  refine lv_iload_n C.1.1 C.1.2.1 dL_law_263 rfl (lv_at hl 3 rfl) ?_
  refine lv_iconst (v := 3) C.1.1 C.1.2.1 dL_law_264 (by decide) ?_
  refine lv_iadd C.1.1 C.1.2.1 dL_law_265 ?_
  refine va_sld C.1.1 C.1.2.1 hX hbl hbA Z1.2.2 (hv 3 (by decide)) dL_law_266 ?_
  refine g_call2 (ov := (some (.int r))) (σ' := σ') (eC_ok adK adV) C Z1 Z2 hdj (eC_at C Z1) (k_X10_depth hc) lk_L_18 (by decide) rfl rfl hl ⟨rfl, rfl, by decide, by decide⟩ hcs0 rfl (Nat.le_of_ble_eq_true rfl) (rest := []) rfl dL_law_267 (fun H locs Z1 Z2 => ?_)
  refine lv_aload_n C.1.1 C.1.2.1 dL_law_270 rfl (lv_at hl 2 rfl) ?_
  refine lv_aload_n C.1.1 C.1.2.1 dL_law_271 rfl (lv_at hl 0 rfl) ?_
  refine lv_iload_n C.1.1 C.1.2.1 dL_law_272 rfl (lv_at hl 3 rfl) ?_
  refine lv_iconst (v := 1) C.1.1 C.1.2.1 dL_law_273 (by decide) ?_
  refine lv_iadd C.1.1 C.1.2.1 dL_law_274 ?_
  refine va_sld C.1.1 C.1.2.1 hX hbl hbA Z1.2.2 (hv 1 (by decide)) dL_law_275 ?_
  refine lv_aload_n C.1.1 C.1.2.1 dL_law_276 rfl (lv_at hl 0 rfl) ?_
  refine lv_iload_n C.1.1 C.1.2.1 dL_law_277 rfl (lv_at hl 3 rfl) ?_
  refine lv_iconst (v := 2) C.1.1 C.1.2.1 dL_law_278 (by decide) ?_
  refine lv_iadd C.1.1 C.1.2.1 dL_law_279 ?_
  refine va_sld C.1.1 C.1.2.1 hX hbl hbA Z1.2.2 (hv 2 (by decide)) dL_law_280 ?_
  refine lv_aload_n C.1.1 C.1.2.1 dL_law_281 rfl (lv_at hl 0 rfl) ?_
  refine lv_iload_n C.1.1 C.1.2.1 dL_law_282 rfl (lv_at hl 3 rfl) ?_
  refine lv_iconst (v := 3) C.1.1 C.1.2.1 dL_law_283 (by decide) ?_
  refine lv_iadd C.1.1 C.1.2.1 dL_law_284 ?_
  refine va_sld C.1.1 C.1.2.1 hX hbl hbA Z1.2.2 (hv 3 (by decide)) dL_law_285 ?_
  refine g_call2 (ov := (some (.int r))) (σ' := τ') eM_ok C Z2 Z1 (fun i hi j hj e => hdj j hj i hi e.symm) (fun _ _ _ => trivial) (k_X11_depth hm) lk_L_22 (by decide) rfl rfl hl ⟨rfl, rfl, by decide, by decide⟩ hcs0 rfl (Nat.le_of_ble_eq_true rfl) (rest := [.int r]) rfl dL_law_286 (fun H locs Z2 Z1 => ?_)
  refine lv_icmp_eq (tgt := 2123) C.1.1 C.1.2.1 dL_law_289 (by decide) (fun _ => ?_) (fun z => absurd rfl z)
  exact hn ad _ _ _ _ _ _ (Nat.le_succ _) (Nat.le_add_right _ _) rfl hdj Z1 Z2 hI
set_option maxRecDepth 20000 in
theorem lw_case_2 {p : Program} {l : Launch} {e : Env} {s : State} {m : MethodId} {below : List Frame} {meth : Method} {c : Code} {Q : State → Prop} {D : va_G} {kc : Nat → ClassId} {ad ad2 : Nat → Nat} {A : Nat → Prop} {adK adV : Nat → Nat} {b L : Nat} {xs : Nat → Int32} {H : Heap} {locs : List Loc} {cells slots : Nat} {ls : Array Slot} {x3 : Int32} {σ τ : St} {Inv : St → St → Prop} (C : Cx (eC adK adV) p s m #[Value.ref b] c cL_law 4 RL D kc A) (hX : va_X b L xs s s.heap) (hbl : b < s.heap.size) (hbA : ¬ A b) (hv : ∀ k : Nat, k < 7 → vp_in (x3 + nI k) L) (hs : SimI Inv (cC_2 (xs (x3 + 1).toNatClampNeg) (xs (x3 + 2).toNatClampNeg) (xs (x3 + 3).toNatClampNeg) (xs (x3 + 4).toNatClampNeg)) (cM_2 (xs (x3 + 1).toNatClampNeg) (xs (x3 + 2).toNatClampNeg) (xs (x3 + 3).toNatClampNeg) (xs (x3 + 4).toNatClampNeg))) (Z1 : Dy tC kc ad D A s.heap σ H locs) (Z2 : Dy tM kc ad2 D A s.heap τ H locs) (hdj : ∀ i, i < tC.1 → ∀ j, j < tM.1 → ad i ≠ ad2 j) (hI0 : Inv σ τ) (hcs : cells + 1 ≤ room_1.cells ∧ slots + 5300 ≤ room_1.slots) (hl : lv_has ls 4 [(0, .ref b), (1, .ref (ad 0)), (2, .ref (ad2 0)), (3, .int x3)]) (hn : ∀ (ad' : Nat → Nat) (σ' τ' : St) (H : Heap) (locs : List Loc) (cells' slots' : Nat), cells' ≤ cells + 1 → slots' ≤ slots + 5300 → ad' 0 = ad 0 → (∀ i, i < tC.1 → ∀ j, j < tM.1 → ad' i ≠ ad2 j) → Dy tC kc ad' D A s.heap σ' H locs → Dy tM kc ad2 D A s.heap τ' H locs → Inv σ' τ' → W p l e room_1 s m #[Value.ref b] below meth c H locs cells' slots' Q (F0 m 2123 ls [])) : W p l e room_1 s m #[Value.ref b] below meth c H locs cells slots Q (F0 m 294 ls []) := by
  obtain ⟨r, σ', τ', hc, hm, hI⟩ := hs σ τ hI0
  unfold cC_2 at hc
  unfold cM_2 at hm
  have hcs0 : cells ≤ room_1.cells ∧ slots ≤ room_1.slots := ⟨by omega, by omega⟩
  refine lv_aload_n C.1.1 C.1.2.1 dL_law_294 rfl (lv_at hl 1 rfl) ?_
  refine lv_aload_n C.1.1 C.1.2.1 dL_law_295 rfl (lv_at hl 0 rfl) ?_
  refine lv_iload_n C.1.1 C.1.2.1 dL_law_296 rfl (lv_at hl 3 rfl) ?_
  refine lv_iconst (v := 1) C.1.1 C.1.2.1 dL_law_297 (by decide) ?_
  refine lv_iadd C.1.1 C.1.2.1 dL_law_298 ?_
  refine va_sld C.1.1 C.1.2.1 hX hbl hbA Z1.2.2 (hv 1 (by decide)) dL_law_299 ?_
  refine lv_aload_n C.1.1 C.1.2.1 dL_law_300 rfl (lv_at hl 0 rfl) ?_
  refine lv_iload_n C.1.1 C.1.2.1 dL_law_301 rfl (lv_at hl 3 rfl) ?_
  refine lv_iconst (v := 2) C.1.1 C.1.2.1 dL_law_302 (by decide) ?_
  refine lv_iadd C.1.1 C.1.2.1 dL_law_303 ?_
  refine va_sld C.1.1 C.1.2.1 hX hbl hbA Z1.2.2 (hv 2 (by decide)) dL_law_304 ?_
  refine lv_aload_n C.1.1 C.1.2.1 dL_law_305 rfl (lv_at hl 0 rfl) ?_
  refine lv_iload_n C.1.1 C.1.2.1 dL_law_306 rfl (lv_at hl 3 rfl) ?_
  refine lv_iconst (v := 3) C.1.1 C.1.2.1 dL_law_307 (by decide) ?_
  refine lv_iadd C.1.1 C.1.2.1 dL_law_308 ?_
  refine va_sld C.1.1 C.1.2.1 hX hbl hbA Z1.2.2 (hv 3 (by decide)) dL_law_309 ?_
  refine lv_aload_n C.1.1 C.1.2.1 dL_law_310 rfl (lv_at hl 0 rfl) ?_
  refine lv_iload_n C.1.1 C.1.2.1 dL_law_311 rfl (lv_at hl 3 rfl) ?_
  refine lv_iconst (v := 4) C.1.1 C.1.2.1 dL_law_312 (by decide) ?_
  refine lv_iadd C.1.1 C.1.2.1 dL_law_313 ?_
  refine va_sld C.1.1 C.1.2.1 hX hbl hbA Z1.2.2 (hv 4 (by decide)) dL_law_314 ?_
  refine g_call2 (ov := (some (.int r))) (σ' := σ') (eC_ok adK adV) C Z1 Z2 hdj (eC_at C Z1) (k_X10_ship hc) lk_L_23 (by decide) rfl rfl hl ⟨rfl, rfl, by decide, by decide⟩ hcs0 rfl (Nat.le_of_ble_eq_true rfl) (rest := []) rfl dL_law_315 (fun H locs Z1 Z2 => ?_)
  refine lv_aload_n C.1.1 C.1.2.1 dL_law_318 rfl (lv_at hl 2 rfl) ?_
  refine lv_aload_n C.1.1 C.1.2.1 dL_law_319 rfl (lv_at hl 0 rfl) ?_
  refine lv_iload_n C.1.1 C.1.2.1 dL_law_320 rfl (lv_at hl 3 rfl) ?_
  refine lv_iconst (v := 1) C.1.1 C.1.2.1 dL_law_321 (by decide) ?_
  refine lv_iadd C.1.1 C.1.2.1 dL_law_322 ?_
  refine va_sld C.1.1 C.1.2.1 hX hbl hbA Z1.2.2 (hv 1 (by decide)) dL_law_323 ?_
  refine lv_aload_n C.1.1 C.1.2.1 dL_law_324 rfl (lv_at hl 0 rfl) ?_
  refine lv_iload_n C.1.1 C.1.2.1 dL_law_325 rfl (lv_at hl 3 rfl) ?_
  refine lv_iconst (v := 2) C.1.1 C.1.2.1 dL_law_326 (by decide) ?_
  refine lv_iadd C.1.1 C.1.2.1 dL_law_327 ?_
  refine va_sld C.1.1 C.1.2.1 hX hbl hbA Z1.2.2 (hv 2 (by decide)) dL_law_328 ?_
  refine lv_aload_n C.1.1 C.1.2.1 dL_law_329 rfl (lv_at hl 0 rfl) ?_
  refine lv_iload_n C.1.1 C.1.2.1 dL_law_330 rfl (lv_at hl 3 rfl) ?_
  refine lv_iconst (v := 3) C.1.1 C.1.2.1 dL_law_331 (by decide) ?_
  refine lv_iadd C.1.1 C.1.2.1 dL_law_332 ?_
  refine va_sld C.1.1 C.1.2.1 hX hbl hbA Z1.2.2 (hv 3 (by decide)) dL_law_333 ?_
  refine lv_aload_n C.1.1 C.1.2.1 dL_law_334 rfl (lv_at hl 0 rfl) ?_
  refine lv_iload_n C.1.1 C.1.2.1 dL_law_335 rfl (lv_at hl 3 rfl) ?_
  refine lv_iconst (v := 4) C.1.1 C.1.2.1 dL_law_336 (by decide) ?_
  refine lv_iadd C.1.1 C.1.2.1 dL_law_337 ?_
  refine va_sld C.1.1 C.1.2.1 hX hbl hbA Z1.2.2 (hv 4 (by decide)) dL_law_338 ?_
  refine g_call2 (ov := (some (.int r))) (σ' := τ') eM_ok C Z2 Z1 (fun i hi j hj e => hdj j hj i hi e.symm) (fun _ _ _ => trivial) (k_X11_ship hm) lk_L_27 (by decide) rfl rfl hl ⟨rfl, rfl, by decide, by decide⟩ hcs0 rfl (Nat.le_of_ble_eq_true rfl) (rest := [.int r]) rfl dL_law_339 (fun H locs Z2 Z1 => ?_)
  refine lv_icmp_eq (tgt := 2123) C.1.1 C.1.2.1 dL_law_342 (by decide) (fun _ => ?_) (fun z => absurd rfl z)
  exact hn ad _ _ _ _ _ _ (Nat.le_succ _) (Nat.le_add_right _ _) rfl hdj Z1 Z2 hI
set_option maxRecDepth 20000 in
theorem lw_case_3 {p : Program} {l : Launch} {e : Env} {s : State} {m : MethodId} {below : List Frame} {meth : Method} {c : Code} {Q : State → Prop} {D : va_G} {kc : Nat → ClassId} {ad ad2 : Nat → Nat} {A : Nat → Prop} {adK adV : Nat → Nat} {b L : Nat} {xs : Nat → Int32} {H : Heap} {locs : List Loc} {cells slots : Nat} {ls : Array Slot} {x3 : Int32} {σ τ : St} {Inv : St → St → Prop} (C : Cx (eC adK adV) p s m #[Value.ref b] c cL_law 4 RL D kc A) (hX : va_X b L xs s s.heap) (hbl : b < s.heap.size) (hbA : ¬ A b) (hv : ∀ k : Nat, k < 7 → vp_in (x3 + nI k) L) (hs : SimI Inv (cC_3 (xs (x3 + 1).toNatClampNeg) (xs (x3 + 2).toNatClampNeg) (xs (x3 + 3).toNatClampNeg) (xs (x3 + 4).toNatClampNeg) (xs (x3 + 5).toNatClampNeg)) (cM_3 (xs (x3 + 1).toNatClampNeg) (xs (x3 + 2).toNatClampNeg) (xs (x3 + 3).toNatClampNeg) (xs (x3 + 4).toNatClampNeg) (xs (x3 + 5).toNatClampNeg))) (Z1 : Dy tC kc ad D A s.heap σ H locs) (Z2 : Dy tM kc ad2 D A s.heap τ H locs) (hdj : ∀ i, i < tC.1 → ∀ j, j < tM.1 → ad i ≠ ad2 j) (hI0 : Inv σ τ) (hcs : cells + 1 ≤ room_1.cells ∧ slots + 5300 ≤ room_1.slots) (hl : lv_has ls 4 [(0, .ref b), (1, .ref (ad 0)), (2, .ref (ad2 0)), (3, .int x3)]) (hn : ∀ (ad' : Nat → Nat) (σ' τ' : St) (H : Heap) (locs : List Loc) (cells' slots' : Nat), cells' ≤ cells + 1 → slots' ≤ slots + 5300 → ad' 0 = ad 0 → (∀ i, i < tC.1 → ∀ j, j < tM.1 → ad' i ≠ ad2 j) → Dy tC kc ad' D A s.heap σ' H locs → Dy tM kc ad2 D A s.heap τ' H locs → Inv σ' τ' → W p l e room_1 s m #[Value.ref b] below meth c H locs cells' slots' Q (F0 m 2123 ls [])) : W p l e room_1 s m #[Value.ref b] below meth c H locs cells slots Q (F0 m 347 ls []) := by
  obtain ⟨r, σ', τ', hc, hm, hI⟩ := hs σ τ hI0
  unfold cC_3 at hc
  unfold cM_3 at hm
  have hcs0 : cells ≤ room_1.cells ∧ slots ≤ room_1.slots := ⟨by omega, by omega⟩
  refine lv_aload_n C.1.1 C.1.2.1 dL_law_347 rfl (lv_at hl 1 rfl) ?_
  refine lv_aload_n C.1.1 C.1.2.1 dL_law_348 rfl (lv_at hl 0 rfl) ?_
  refine lv_iload_n C.1.1 C.1.2.1 dL_law_349 rfl (lv_at hl 3 rfl) ?_
  refine lv_iconst (v := 1) C.1.1 C.1.2.1 dL_law_350 (by decide) ?_
  refine lv_iadd C.1.1 C.1.2.1 dL_law_351 ?_
  refine va_sld C.1.1 C.1.2.1 hX hbl hbA Z1.2.2 (hv 1 (by decide)) dL_law_352 ?_
  refine lv_aload_n C.1.1 C.1.2.1 dL_law_353 rfl (lv_at hl 0 rfl) ?_
  refine lv_iload_n C.1.1 C.1.2.1 dL_law_354 rfl (lv_at hl 3 rfl) ?_
  refine lv_iconst (v := 2) C.1.1 C.1.2.1 dL_law_355 (by decide) ?_
  refine lv_iadd C.1.1 C.1.2.1 dL_law_356 ?_
  refine va_sld C.1.1 C.1.2.1 hX hbl hbA Z1.2.2 (hv 2 (by decide)) dL_law_357 ?_
  refine lv_aload_n C.1.1 C.1.2.1 dL_law_358 rfl (lv_at hl 0 rfl) ?_
  refine lv_iload_n C.1.1 C.1.2.1 dL_law_359 rfl (lv_at hl 3 rfl) ?_
  refine lv_iconst (v := 3) C.1.1 C.1.2.1 dL_law_360 (by decide) ?_
  refine lv_iadd C.1.1 C.1.2.1 dL_law_361 ?_
  refine va_sld C.1.1 C.1.2.1 hX hbl hbA Z1.2.2 (hv 3 (by decide)) dL_law_362 ?_
  refine lv_aload_n C.1.1 C.1.2.1 dL_law_363 rfl (lv_at hl 0 rfl) ?_
  refine lv_iload_n C.1.1 C.1.2.1 dL_law_364 rfl (lv_at hl 3 rfl) ?_
  refine lv_iconst (v := 4) C.1.1 C.1.2.1 dL_law_365 (by decide) ?_
  refine lv_iadd C.1.1 C.1.2.1 dL_law_366 ?_
  refine va_sld C.1.1 C.1.2.1 hX hbl hbA Z1.2.2 (hv 4 (by decide)) dL_law_367 ?_
  refine lv_aload_n C.1.1 C.1.2.1 dL_law_368 rfl (lv_at hl 0 rfl) ?_
  refine lv_iload_n C.1.1 C.1.2.1 dL_law_369 rfl (lv_at hl 3 rfl) ?_
  refine lv_iconst (v := 5) C.1.1 C.1.2.1 dL_law_370 (by decide) ?_
  refine lv_iadd C.1.1 C.1.2.1 dL_law_371 ?_
  refine va_sld C.1.1 C.1.2.1 hX hbl hbA Z1.2.2 (hv 5 (by decide)) dL_law_372 ?_
  refine g_call2 (ov := (some (.int r))) (σ' := σ') (eC_ok adK adV) C Z1 Z2 hdj (eC_at C Z1) (k_X10_report hc) lk_L_28 (by decide) rfl rfl hl ⟨rfl, rfl, by decide, by decide⟩ hcs0 rfl (Nat.le_of_ble_eq_true rfl) (rest := []) rfl dL_law_373 (fun H locs Z1 Z2 => ?_)
  refine lv_aload_n C.1.1 C.1.2.1 dL_law_376 rfl (lv_at hl 2 rfl) ?_
  refine lv_aload_n C.1.1 C.1.2.1 dL_law_377 rfl (lv_at hl 0 rfl) ?_
  refine lv_iload_n C.1.1 C.1.2.1 dL_law_378 rfl (lv_at hl 3 rfl) ?_
  refine lv_iconst (v := 1) C.1.1 C.1.2.1 dL_law_379 (by decide) ?_
  refine lv_iadd C.1.1 C.1.2.1 dL_law_380 ?_
  refine va_sld C.1.1 C.1.2.1 hX hbl hbA Z1.2.2 (hv 1 (by decide)) dL_law_381 ?_
  refine lv_aload_n C.1.1 C.1.2.1 dL_law_382 rfl (lv_at hl 0 rfl) ?_
  refine lv_iload_n C.1.1 C.1.2.1 dL_law_383 rfl (lv_at hl 3 rfl) ?_
  refine lv_iconst (v := 2) C.1.1 C.1.2.1 dL_law_384 (by decide) ?_
  refine lv_iadd C.1.1 C.1.2.1 dL_law_385 ?_
  refine va_sld C.1.1 C.1.2.1 hX hbl hbA Z1.2.2 (hv 2 (by decide)) dL_law_386 ?_
  refine lv_aload_n C.1.1 C.1.2.1 dL_law_387 rfl (lv_at hl 0 rfl) ?_
  refine lv_iload_n C.1.1 C.1.2.1 dL_law_388 rfl (lv_at hl 3 rfl) ?_
  refine lv_iconst (v := 3) C.1.1 C.1.2.1 dL_law_389 (by decide) ?_
  refine lv_iadd C.1.1 C.1.2.1 dL_law_390 ?_
  refine va_sld C.1.1 C.1.2.1 hX hbl hbA Z1.2.2 (hv 3 (by decide)) dL_law_391 ?_
  refine lv_aload_n C.1.1 C.1.2.1 dL_law_392 rfl (lv_at hl 0 rfl) ?_
  refine lv_iload_n C.1.1 C.1.2.1 dL_law_393 rfl (lv_at hl 3 rfl) ?_
  refine lv_iconst (v := 4) C.1.1 C.1.2.1 dL_law_394 (by decide) ?_
  refine lv_iadd C.1.1 C.1.2.1 dL_law_395 ?_
  refine va_sld C.1.1 C.1.2.1 hX hbl hbA Z1.2.2 (hv 4 (by decide)) dL_law_396 ?_
  refine lv_aload_n C.1.1 C.1.2.1 dL_law_397 rfl (lv_at hl 0 rfl) ?_
  refine lv_iload_n C.1.1 C.1.2.1 dL_law_398 rfl (lv_at hl 3 rfl) ?_
  refine lv_iconst (v := 5) C.1.1 C.1.2.1 dL_law_399 (by decide) ?_
  refine lv_iadd C.1.1 C.1.2.1 dL_law_400 ?_
  refine va_sld C.1.1 C.1.2.1 hX hbl hbA Z1.2.2 (hv 5 (by decide)) dL_law_401 ?_
  refine g_call2 (ov := (some (.int r))) (σ' := τ') eM_ok C Z2 Z1 (fun i hi j hj e => hdj j hj i hi e.symm) (fun _ _ _ => trivial) (k_X11_report hm) lk_L_32 (by decide) rfl rfl hl ⟨rfl, rfl, by decide, by decide⟩ hcs0 rfl (Nat.le_of_ble_eq_true rfl) (rest := [.int r]) rfl dL_law_402 (fun H locs Z2 Z1 => ?_)
  refine lv_icmp_eq (tgt := 2123) C.1.1 C.1.2.1 dL_law_405 (by decide) (fun _ => ?_) (fun z => absurd rfl z)
  exact hn ad _ _ _ _ _ _ (Nat.le_succ _) (Nat.le_add_right _ _) rfl hdj Z1 Z2 hI
set_option maxRecDepth 20000 in
theorem lw_case_4 {p : Program} {l : Launch} {e : Env} {s : State} {m : MethodId} {below : List Frame} {meth : Method} {c : Code} {Q : State → Prop} {D : va_G} {kc : Nat → ClassId} {ad ad2 : Nat → Nat} {A : Nat → Prop} {adK adV : Nat → Nat} {b L : Nat} {xs : Nat → Int32} {H : Heap} {locs : List Loc} {cells slots : Nat} {ls : Array Slot} {x3 : Int32} {σ τ : St} {Inv : St → St → Prop} (C : Cx (eC adK adV) p s m #[Value.ref b] c cL_law 4 RL D kc A) (hX : va_X b L xs s s.heap) (hbl : b < s.heap.size) (hbA : ¬ A b) (hv : ∀ k : Nat, k < 7 → vp_in (x3 + nI k) L) (hs : SimI Inv (cC_4 (xs (x3 + 1).toNatClampNeg) (xs (x3 + 2).toNatClampNeg) (xs (x3 + 3).toNatClampNeg)) (cM_4 (xs (x3 + 1).toNatClampNeg) (xs (x3 + 2).toNatClampNeg) (xs (x3 + 3).toNatClampNeg))) (Z1 : Dy tC kc ad D A s.heap σ H locs) (Z2 : Dy tM kc ad2 D A s.heap τ H locs) (hdj : ∀ i, i < tC.1 → ∀ j, j < tM.1 → ad i ≠ ad2 j) (hI0 : Inv σ τ) (hcs : cells + 1 ≤ room_1.cells ∧ slots + 5300 ≤ room_1.slots) (hl : lv_has ls 4 [(0, .ref b), (1, .ref (ad 0)), (2, .ref (ad2 0)), (3, .int x3)]) (hn : ∀ (ad' : Nat → Nat) (σ' τ' : St) (H : Heap) (locs : List Loc) (cells' slots' : Nat), cells' ≤ cells + 1 → slots' ≤ slots + 5300 → ad' 0 = ad 0 → (∀ i, i < tC.1 → ∀ j, j < tM.1 → ad' i ≠ ad2 j) → Dy tC kc ad' D A s.heap σ' H locs → Dy tM kc ad2 D A s.heap τ' H locs → Inv σ' τ' → W p l e room_1 s m #[Value.ref b] below meth c H locs cells' slots' Q (F0 m 2123 ls [])) : W p l e room_1 s m #[Value.ref b] below meth c H locs cells slots Q (F0 m 410 ls []) := by
  obtain ⟨r, σ', τ', hc, hm, hI⟩ := hs σ τ hI0
  unfold cC_4 at hc
  unfold cM_4 at hm
  have hc := mapO hc
  have ehc := hc.2
  subst ehc
  have hm := mapO hm
  have ehm := hm.2
  subst ehm
  have hcs0 : cells ≤ room_1.cells ∧ slots ≤ room_1.slots := ⟨by omega, by omega⟩
  refine lv_aload_n C.1.1 C.1.2.1 dL_law_410 rfl (lv_at hl 1 rfl) ?_
  refine lv_aload_n C.1.1 C.1.2.1 dL_law_411 rfl (lv_at hl 0 rfl) ?_
  refine lv_iload_n C.1.1 C.1.2.1 dL_law_412 rfl (lv_at hl 3 rfl) ?_
  refine lv_iconst (v := 1) C.1.1 C.1.2.1 dL_law_413 (by decide) ?_
  refine lv_iadd C.1.1 C.1.2.1 dL_law_414 ?_
  refine va_sld C.1.1 C.1.2.1 hX hbl hbA Z1.2.2 (hv 1 (by decide)) dL_law_415 ?_
  refine lv_aload_n C.1.1 C.1.2.1 dL_law_416 rfl (lv_at hl 0 rfl) ?_
  refine lv_iload_n C.1.1 C.1.2.1 dL_law_417 rfl (lv_at hl 3 rfl) ?_
  refine lv_iconst (v := 2) C.1.1 C.1.2.1 dL_law_418 (by decide) ?_
  refine lv_iadd C.1.1 C.1.2.1 dL_law_419 ?_
  refine va_sld C.1.1 C.1.2.1 hX hbl hbA Z1.2.2 (hv 2 (by decide)) dL_law_420 ?_
  refine lv_aload_n C.1.1 C.1.2.1 dL_law_421 rfl (lv_at hl 0 rfl) ?_
  refine lv_iload_n C.1.1 C.1.2.1 dL_law_422 rfl (lv_at hl 3 rfl) ?_
  refine lv_iconst (v := 3) C.1.1 C.1.2.1 dL_law_423 (by decide) ?_
  refine lv_iadd C.1.1 C.1.2.1 dL_law_424 ?_
  refine va_sld C.1.1 C.1.2.1 hX hbl hbA Z1.2.2 (hv 3 (by decide)) dL_law_425 ?_
  refine g_call2 (ov := (some (.int r))) (σ' := σ') (eC_ok adK adV) C Z1 Z2 hdj (eC_at C Z1) (k_X10_where hc.1) lk_L_33 (by decide) rfl rfl hl ⟨rfl, rfl, by decide, by decide⟩ hcs0 rfl (Nat.le_of_ble_eq_true rfl) (rest := []) rfl dL_law_426 (fun H locs Z1 Z2 => ?_)
  refine lv_aload_n C.1.1 C.1.2.1 dL_law_429 rfl (lv_at hl 2 rfl) ?_
  refine lv_aload_n C.1.1 C.1.2.1 dL_law_430 rfl (lv_at hl 0 rfl) ?_
  refine lv_iload_n C.1.1 C.1.2.1 dL_law_431 rfl (lv_at hl 3 rfl) ?_
  refine lv_iconst (v := 1) C.1.1 C.1.2.1 dL_law_432 (by decide) ?_
  refine lv_iadd C.1.1 C.1.2.1 dL_law_433 ?_
  refine va_sld C.1.1 C.1.2.1 hX hbl hbA Z1.2.2 (hv 1 (by decide)) dL_law_434 ?_
  refine lv_aload_n C.1.1 C.1.2.1 dL_law_435 rfl (lv_at hl 0 rfl) ?_
  refine lv_iload_n C.1.1 C.1.2.1 dL_law_436 rfl (lv_at hl 3 rfl) ?_
  refine lv_iconst (v := 2) C.1.1 C.1.2.1 dL_law_437 (by decide) ?_
  refine lv_iadd C.1.1 C.1.2.1 dL_law_438 ?_
  refine va_sld C.1.1 C.1.2.1 hX hbl hbA Z1.2.2 (hv 2 (by decide)) dL_law_439 ?_
  refine lv_aload_n C.1.1 C.1.2.1 dL_law_440 rfl (lv_at hl 0 rfl) ?_
  refine lv_iload_n C.1.1 C.1.2.1 dL_law_441 rfl (lv_at hl 3 rfl) ?_
  refine lv_iconst (v := 3) C.1.1 C.1.2.1 dL_law_442 (by decide) ?_
  refine lv_iadd C.1.1 C.1.2.1 dL_law_443 ?_
  refine va_sld C.1.1 C.1.2.1 hX hbl hbA Z1.2.2 (hv 3 (by decide)) dL_law_444 ?_
  refine g_call2 (ov := (some (.int r))) (σ' := τ') eM_ok C Z2 Z1 (fun i hi j hj e => hdj j hj i hi e.symm) (fun _ _ _ => trivial) (k_X11_where hm.1) lk_L_36 (by decide) rfl rfl hl ⟨rfl, rfl, by decide, by decide⟩ hcs0 rfl (Nat.le_of_ble_eq_true rfl) (rest := [.int r]) rfl dL_law_445 (fun H locs Z2 Z1 => ?_)
  refine lv_icmp_eq (tgt := 2123) C.1.1 C.1.2.1 dL_law_448 (by decide) (fun _ => ?_) (fun z => absurd rfl z)
  exact hn ad _ _ _ _ _ _ (Nat.le_succ _) (Nat.le_add_right _ _) rfl hdj Z1 Z2 hI
set_option maxRecDepth 20000 in
theorem lw_case_5 {p : Program} {l : Launch} {e : Env} {s : State} {m : MethodId} {below : List Frame} {meth : Method} {c : Code} {Q : State → Prop} {D : va_G} {kc : Nat → ClassId} {ad ad2 : Nat → Nat} {A : Nat → Prop} {adK adV : Nat → Nat} {b L : Nat} {xs : Nat → Int32} {H : Heap} {locs : List Loc} {cells slots : Nat} {ls : Array Slot} {x3 : Int32} {σ τ : St} {Inv : St → St → Prop} (C : Cx (eC adK adV) p s m #[Value.ref b] c cL_law 4 RL D kc A) (hX : va_X b L xs s s.heap) (hbl : b < s.heap.size) (hbA : ¬ A b) (hv : ∀ k : Nat, k < 7 → vp_in (x3 + nI k) L) (hs : SimI Inv (cC_5 (xs (x3 + 1).toNatClampNeg) (xs (x3 + 2).toNatClampNeg)) (cM_5 (xs (x3 + 1).toNatClampNeg) (xs (x3 + 2).toNatClampNeg))) (Z1 : Dy tC kc ad D A s.heap σ H locs) (Z2 : Dy tM kc ad2 D A s.heap τ H locs) (hdj : ∀ i, i < tC.1 → ∀ j, j < tM.1 → ad i ≠ ad2 j) (hI0 : Inv σ τ) (hcs : cells + 1 ≤ room_1.cells ∧ slots + 5300 ≤ room_1.slots) (hl : lv_has ls 4 [(0, .ref b), (1, .ref (ad 0)), (2, .ref (ad2 0)), (3, .int x3)]) (hn : ∀ (ad' : Nat → Nat) (σ' τ' : St) (H : Heap) (locs : List Loc) (cells' slots' : Nat), cells' ≤ cells + 1 → slots' ≤ slots + 5300 → ad' 0 = ad 0 → (∀ i, i < tC.1 → ∀ j, j < tM.1 → ad' i ≠ ad2 j) → Dy tC kc ad' D A s.heap σ' H locs → Dy tM kc ad2 D A s.heap τ' H locs → Inv σ' τ' → W p l e room_1 s m #[Value.ref b] below meth c H locs cells' slots' Q (F0 m 2123 ls [])) : W p l e room_1 s m #[Value.ref b] below meth c H locs cells slots Q (F0 m 453 ls []) := by
  obtain ⟨r, σ', τ', hc, hm, hI⟩ := hs σ τ hI0
  unfold cC_5 at hc
  unfold cM_5 at hm
  have hcs0 : cells ≤ room_1.cells ∧ slots ≤ room_1.slots := ⟨by omega, by omega⟩
  refine lv_aload_n C.1.1 C.1.2.1 dL_law_453 rfl (lv_at hl 1 rfl) ?_
  refine lv_aload_n C.1.1 C.1.2.1 dL_law_454 rfl (lv_at hl 0 rfl) ?_
  refine lv_iload_n C.1.1 C.1.2.1 dL_law_455 rfl (lv_at hl 3 rfl) ?_
  refine lv_iconst (v := 1) C.1.1 C.1.2.1 dL_law_456 (by decide) ?_
  refine lv_iadd C.1.1 C.1.2.1 dL_law_457 ?_
  refine va_sld C.1.1 C.1.2.1 hX hbl hbA Z1.2.2 (hv 1 (by decide)) dL_law_458 ?_
  refine lv_aload_n C.1.1 C.1.2.1 dL_law_459 rfl (lv_at hl 0 rfl) ?_
  refine lv_iload_n C.1.1 C.1.2.1 dL_law_460 rfl (lv_at hl 3 rfl) ?_
  refine lv_iconst (v := 2) C.1.1 C.1.2.1 dL_law_461 (by decide) ?_
  refine lv_iadd C.1.1 C.1.2.1 dL_law_462 ?_
  refine va_sld C.1.1 C.1.2.1 hX hbl hbA Z1.2.2 (hv 2 (by decide)) dL_law_463 ?_
  refine g_call2 (ov := (some (.int r))) (σ' := σ') (eC_ok adK adV) C Z1 Z2 hdj (eC_at C Z1) (k_X10_chain hc) lk_L_37 (by decide) rfl rfl hl ⟨rfl, rfl, by decide, by decide⟩ hcs0 rfl (Nat.le_of_ble_eq_true rfl) (rest := []) rfl dL_law_464 (fun H locs Z1 Z2 => ?_)
  refine lv_aload_n C.1.1 C.1.2.1 dL_law_467 rfl (lv_at hl 2 rfl) ?_
  refine lv_aload_n C.1.1 C.1.2.1 dL_law_468 rfl (lv_at hl 0 rfl) ?_
  refine lv_iload_n C.1.1 C.1.2.1 dL_law_469 rfl (lv_at hl 3 rfl) ?_
  refine lv_iconst (v := 1) C.1.1 C.1.2.1 dL_law_470 (by decide) ?_
  refine lv_iadd C.1.1 C.1.2.1 dL_law_471 ?_
  refine va_sld C.1.1 C.1.2.1 hX hbl hbA Z1.2.2 (hv 1 (by decide)) dL_law_472 ?_
  refine lv_aload_n C.1.1 C.1.2.1 dL_law_473 rfl (lv_at hl 0 rfl) ?_
  refine lv_iload_n C.1.1 C.1.2.1 dL_law_474 rfl (lv_at hl 3 rfl) ?_
  refine lv_iconst (v := 2) C.1.1 C.1.2.1 dL_law_475 (by decide) ?_
  refine lv_iadd C.1.1 C.1.2.1 dL_law_476 ?_
  refine va_sld C.1.1 C.1.2.1 hX hbl hbA Z1.2.2 (hv 2 (by decide)) dL_law_477 ?_
  refine g_call2 (ov := (some (.int r))) (σ' := τ') eM_ok C Z2 Z1 (fun i hi j hj e => hdj j hj i hi e.symm) (fun _ _ _ => trivial) (k_X11_chain hm) lk_L_41 (by decide) rfl rfl hl ⟨rfl, rfl, by decide, by decide⟩ hcs0 rfl (Nat.le_of_ble_eq_true rfl) (rest := [.int r]) rfl dL_law_478 (fun H locs Z2 Z1 => ?_)
  refine lv_icmp_eq (tgt := 2123) C.1.1 C.1.2.1 dL_law_481 (by decide) (fun _ => ?_) (fun z => absurd rfl z)
  exact hn ad _ _ _ _ _ _ (Nat.le_succ _) (Nat.le_add_right _ _) rfl hdj Z1 Z2 hI
set_option maxRecDepth 20000 in
theorem lw_case_6 {p : Program} {l : Launch} {e : Env} {s : State} {m : MethodId} {below : List Frame} {meth : Method} {c : Code} {Q : State → Prop} {D : va_G} {kc : Nat → ClassId} {ad ad2 : Nat → Nat} {A : Nat → Prop} {adK adV : Nat → Nat} {b L : Nat} {xs : Nat → Int32} {H : Heap} {locs : List Loc} {cells slots : Nat} {ls : Array Slot} {x3 : Int32} {σ τ : St} {Inv : St → St → Prop} (C : Cx (eC adK adV) p s m #[Value.ref b] c cL_law 4 RL D kc A) (hX : va_X b L xs s s.heap) (hbl : b < s.heap.size) (hbA : ¬ A b) (hv : ∀ k : Nat, k < 7 → vp_in (x3 + nI k) L) (hs : SimI Inv (cC_6 (xs (x3 + 1).toNatClampNeg)) (cM_6 (xs (x3 + 1).toNatClampNeg))) (Z1 : Dy tC kc ad D A s.heap σ H locs) (Z2 : Dy tM kc ad2 D A s.heap τ H locs) (hdj : ∀ i, i < tC.1 → ∀ j, j < tM.1 → ad i ≠ ad2 j) (hI0 : Inv σ τ) (hcs : cells + 1 ≤ room_1.cells ∧ slots + 5300 ≤ room_1.slots) (hl : lv_has ls 4 [(0, .ref b), (1, .ref (ad 0)), (2, .ref (ad2 0)), (3, .int x3)]) (hn : ∀ (ad' : Nat → Nat) (σ' τ' : St) (H : Heap) (locs : List Loc) (cells' slots' : Nat), cells' ≤ cells + 1 → slots' ≤ slots + 5300 → ad' 0 = ad 0 → (∀ i, i < tC.1 → ∀ j, j < tM.1 → ad' i ≠ ad2 j) → Dy tC kc ad' D A s.heap σ' H locs → Dy tM kc ad2 D A s.heap τ' H locs → Inv σ' τ' → W p l e room_1 s m #[Value.ref b] below meth c H locs cells' slots' Q (F0 m 2123 ls [])) : W p l e room_1 s m #[Value.ref b] below meth c H locs cells slots Q (F0 m 486 ls []) := by
  obtain ⟨r, σ', τ', hc, hm, hI⟩ := hs σ τ hI0
  unfold cC_6 at hc
  unfold cM_6 at hm
  have hc := mapO hc
  have ehc := hc.2
  subst ehc
  have hm := mapO hm
  have ehm := hm.2
  subst ehm
  have hcs0 : cells ≤ room_1.cells ∧ slots ≤ room_1.slots := ⟨by omega, by omega⟩
  refine lv_aload_n C.1.1 C.1.2.1 dL_law_486 rfl (lv_at hl 1 rfl) ?_
  refine lv_aload_n C.1.1 C.1.2.1 dL_law_487 rfl (lv_at hl 0 rfl) ?_
  refine lv_iload_n C.1.1 C.1.2.1 dL_law_488 rfl (lv_at hl 3 rfl) ?_
  refine lv_iconst (v := 1) C.1.1 C.1.2.1 dL_law_489 (by decide) ?_
  refine lv_iadd C.1.1 C.1.2.1 dL_law_490 ?_
  refine va_sld C.1.1 C.1.2.1 hX hbl hbA Z1.2.2 (hv 1 (by decide)) dL_law_491 ?_
  refine g_call2 (ov := (some (.int r))) (σ' := σ') (eC_ok adK adV) C Z1 Z2 hdj (eC_at C Z1) (k_X10_chained hc.1) lk_L_42 (by decide) rfl rfl hl ⟨rfl, rfl, by decide, by decide⟩ hcs0 rfl (Nat.le_of_ble_eq_true rfl) (rest := []) rfl dL_law_492 (fun H locs Z1 Z2 => ?_)
  refine lv_aload_n C.1.1 C.1.2.1 dL_law_495 rfl (lv_at hl 2 rfl) ?_
  refine lv_aload_n C.1.1 C.1.2.1 dL_law_496 rfl (lv_at hl 0 rfl) ?_
  refine lv_iload_n C.1.1 C.1.2.1 dL_law_497 rfl (lv_at hl 3 rfl) ?_
  refine lv_iconst (v := 1) C.1.1 C.1.2.1 dL_law_498 (by decide) ?_
  refine lv_iadd C.1.1 C.1.2.1 dL_law_499 ?_
  refine va_sld C.1.1 C.1.2.1 hX hbl hbA Z1.2.2 (hv 1 (by decide)) dL_law_500 ?_
  refine g_call2 (ov := (some (.int r))) (σ' := τ') eM_ok C Z2 Z1 (fun i hi j hj e => hdj j hj i hi e.symm) (fun _ _ _ => trivial) (k_X11_chained hm.1) lk_L_46 (by decide) rfl rfl hl ⟨rfl, rfl, by decide, by decide⟩ hcs0 rfl (Nat.le_of_ble_eq_true rfl) (rest := [.int r]) rfl dL_law_501 (fun H locs Z2 Z1 => ?_)
  refine lv_icmp_eq (tgt := 2123) C.1.1 C.1.2.1 dL_law_504 (by decide) (fun _ => ?_) (fun z => absurd rfl z)
  exact hn ad _ _ _ _ _ _ (Nat.le_succ _) (Nat.le_add_right _ _) rfl hdj Z1 Z2 hI
set_option maxRecDepth 20000 in
theorem lw_case_7 {p : Program} {l : Launch} {e : Env} {s : State} {m : MethodId} {below : List Frame} {meth : Method} {c : Code} {Q : State → Prop} {D : va_G} {kc : Nat → ClassId} {ad ad2 : Nat → Nat} {A : Nat → Prop} {adK adV : Nat → Nat} {b L : Nat} {xs : Nat → Int32} {H : Heap} {locs : List Loc} {cells slots : Nat} {ls : Array Slot} {x3 : Int32} {σ τ : St} {Inv : St → St → Prop} (C : Cx (eC adK adV) p s m #[Value.ref b] c cL_law 4 RL D kc A) (hX : va_X b L xs s s.heap) (hbl : b < s.heap.size) (hbA : ¬ A b) (hv : ∀ k : Nat, k < 7 → vp_in (x3 + nI k) L) (hs : SimI Inv (cC_7 (xs (x3 + 1).toNatClampNeg) (xs (x3 + 2).toNatClampNeg) (xs (x3 + 3).toNatClampNeg)) (cM_7 (xs (x3 + 1).toNatClampNeg) (xs (x3 + 2).toNatClampNeg) (xs (x3 + 3).toNatClampNeg))) (Z1 : Dy tC kc ad D A s.heap σ H locs) (Z2 : Dy tM kc ad2 D A s.heap τ H locs) (hdj : ∀ i, i < tC.1 → ∀ j, j < tM.1 → ad i ≠ ad2 j) (hI0 : Inv σ τ) (hcs : cells + 1 ≤ room_1.cells ∧ slots + 5300 ≤ room_1.slots) (hl : lv_has ls 4 [(0, .ref b), (1, .ref (ad 0)), (2, .ref (ad2 0)), (3, .int x3)]) (hn : ∀ (ad' : Nat → Nat) (σ' τ' : St) (H : Heap) (locs : List Loc) (cells' slots' : Nat), cells' ≤ cells + 1 → slots' ≤ slots + 5300 → ad' 0 = ad 0 → (∀ i, i < tC.1 → ∀ j, j < tM.1 → ad' i ≠ ad2 j) → Dy tC kc ad' D A s.heap σ' H locs → Dy tM kc ad2 D A s.heap τ' H locs → Inv σ' τ' → W p l e room_1 s m #[Value.ref b] below meth c H locs cells' slots' Q (F0 m 2123 ls [])) : W p l e room_1 s m #[Value.ref b] below meth c H locs cells slots Q (F0 m 509 ls []) := by
  obtain ⟨r, σ', τ', hc, hm, hI⟩ := hs σ τ hI0
  unfold cC_7 at hc
  unfold cM_7 at hm
  have hcs0 : cells ≤ room_1.cells ∧ slots ≤ room_1.slots := ⟨by omega, by omega⟩
  refine lv_aload_n C.1.1 C.1.2.1 dL_law_509 rfl (lv_at hl 1 rfl) ?_
  refine lv_aload_n C.1.1 C.1.2.1 dL_law_510 rfl (lv_at hl 0 rfl) ?_
  refine lv_iload_n C.1.1 C.1.2.1 dL_law_511 rfl (lv_at hl 3 rfl) ?_
  refine lv_iconst (v := 1) C.1.1 C.1.2.1 dL_law_512 (by decide) ?_
  refine lv_iadd C.1.1 C.1.2.1 dL_law_513 ?_
  refine va_sld C.1.1 C.1.2.1 hX hbl hbA Z1.2.2 (hv 1 (by decide)) dL_law_514 ?_
  refine lv_aload_n C.1.1 C.1.2.1 dL_law_515 rfl (lv_at hl 0 rfl) ?_
  refine lv_iload_n C.1.1 C.1.2.1 dL_law_516 rfl (lv_at hl 3 rfl) ?_
  refine lv_iconst (v := 2) C.1.1 C.1.2.1 dL_law_517 (by decide) ?_
  refine lv_iadd C.1.1 C.1.2.1 dL_law_518 ?_
  refine va_sld C.1.1 C.1.2.1 hX hbl hbA Z1.2.2 (hv 2 (by decide)) dL_law_519 ?_
  refine lv_aload_n C.1.1 C.1.2.1 dL_law_520 rfl (lv_at hl 0 rfl) ?_
  refine lv_iload_n C.1.1 C.1.2.1 dL_law_521 rfl (lv_at hl 3 rfl) ?_
  refine lv_iconst (v := 3) C.1.1 C.1.2.1 dL_law_522 (by decide) ?_
  refine lv_iadd C.1.1 C.1.2.1 dL_law_523 ?_
  refine va_sld C.1.1 C.1.2.1 hX hbl hbA Z1.2.2 (hv 3 (by decide)) dL_law_524 ?_
  refine g_call2 (ov := (some (.int r))) (σ' := σ') (eC_ok adK adV) C Z1 Z2 hdj (eC_at C Z1) (k_X10_point hc) lk_L_47 (by decide) rfl rfl hl ⟨rfl, rfl, by decide, by decide⟩ hcs0 rfl (Nat.le_of_ble_eq_true rfl) (rest := []) rfl dL_law_525 (fun H locs Z1 Z2 => ?_)
  refine lv_aload_n C.1.1 C.1.2.1 dL_law_528 rfl (lv_at hl 2 rfl) ?_
  refine lv_aload_n C.1.1 C.1.2.1 dL_law_529 rfl (lv_at hl 0 rfl) ?_
  refine lv_iload_n C.1.1 C.1.2.1 dL_law_530 rfl (lv_at hl 3 rfl) ?_
  refine lv_iconst (v := 1) C.1.1 C.1.2.1 dL_law_531 (by decide) ?_
  refine lv_iadd C.1.1 C.1.2.1 dL_law_532 ?_
  refine va_sld C.1.1 C.1.2.1 hX hbl hbA Z1.2.2 (hv 1 (by decide)) dL_law_533 ?_
  refine lv_aload_n C.1.1 C.1.2.1 dL_law_534 rfl (lv_at hl 0 rfl) ?_
  refine lv_iload_n C.1.1 C.1.2.1 dL_law_535 rfl (lv_at hl 3 rfl) ?_
  refine lv_iconst (v := 2) C.1.1 C.1.2.1 dL_law_536 (by decide) ?_
  refine lv_iadd C.1.1 C.1.2.1 dL_law_537 ?_
  refine va_sld C.1.1 C.1.2.1 hX hbl hbA Z1.2.2 (hv 2 (by decide)) dL_law_538 ?_
  refine lv_aload_n C.1.1 C.1.2.1 dL_law_539 rfl (lv_at hl 0 rfl) ?_
  refine lv_iload_n C.1.1 C.1.2.1 dL_law_540 rfl (lv_at hl 3 rfl) ?_
  refine lv_iconst (v := 3) C.1.1 C.1.2.1 dL_law_541 (by decide) ?_
  refine lv_iadd C.1.1 C.1.2.1 dL_law_542 ?_
  refine va_sld C.1.1 C.1.2.1 hX hbl hbA Z1.2.2 (hv 3 (by decide)) dL_law_543 ?_
  refine g_call2 (ov := (some (.int r))) (σ' := τ') eM_ok C Z2 Z1 (fun i hi j hj e => hdj j hj i hi e.symm) (fun _ _ _ => trivial) (k_X11_point hm) lk_L_50 (by decide) rfl rfl hl ⟨rfl, rfl, by decide, by decide⟩ hcs0 rfl (Nat.le_of_ble_eq_true rfl) (rest := [.int r]) rfl dL_law_544 (fun H locs Z2 Z1 => ?_)
  refine lv_icmp_eq (tgt := 2123) C.1.1 C.1.2.1 dL_law_547 (by decide) (fun _ => ?_) (fun z => absurd rfl z)
  exact hn ad _ _ _ _ _ _ (Nat.le_succ _) (Nat.le_add_right _ _) rfl hdj Z1 Z2 hI
set_option maxRecDepth 20000 in
theorem lw_case_8 {p : Program} {l : Launch} {e : Env} {s : State} {m : MethodId} {below : List Frame} {meth : Method} {c : Code} {Q : State → Prop} {D : va_G} {kc : Nat → ClassId} {ad ad2 : Nat → Nat} {A : Nat → Prop} {adK adV : Nat → Nat} {b L : Nat} {xs : Nat → Int32} {H : Heap} {locs : List Loc} {cells slots : Nat} {ls : Array Slot} {x3 : Int32} {σ τ : St} {Inv : St → St → Prop} (C : Cx (eC adK adV) p s m #[Value.ref b] c cL_law 4 RL D kc A) (hX : va_X b L xs s s.heap) (hbl : b < s.heap.size) (hbA : ¬ A b) (hv : ∀ k : Nat, k < 7 → vp_in (x3 + nI k) L) (hs : SimI Inv (cC_8 (xs (x3 + 1).toNatClampNeg) (xs (x3 + 2).toNatClampNeg)) (cM_8 (xs (x3 + 1).toNatClampNeg) (xs (x3 + 2).toNatClampNeg))) (Z1 : Dy tC kc ad D A s.heap σ H locs) (Z2 : Dy tM kc ad2 D A s.heap τ H locs) (hdj : ∀ i, i < tC.1 → ∀ j, j < tM.1 → ad i ≠ ad2 j) (hI0 : Inv σ τ) (hcs : cells + 1 ≤ room_1.cells ∧ slots + 5300 ≤ room_1.slots) (hl : lv_has ls 4 [(0, .ref b), (1, .ref (ad 0)), (2, .ref (ad2 0)), (3, .int x3)]) (hn : ∀ (ad' : Nat → Nat) (σ' τ' : St) (H : Heap) (locs : List Loc) (cells' slots' : Nat), cells' ≤ cells + 1 → slots' ≤ slots + 5300 → ad' 0 = ad 0 → (∀ i, i < tC.1 → ∀ j, j < tM.1 → ad' i ≠ ad2 j) → Dy tC kc ad' D A s.heap σ' H locs → Dy tM kc ad2 D A s.heap τ' H locs → Inv σ' τ' → W p l e room_1 s m #[Value.ref b] below meth c H locs cells' slots' Q (F0 m 2123 ls [])) : W p l e room_1 s m #[Value.ref b] below meth c H locs cells slots Q (F0 m 552 ls []) := by
  obtain ⟨r, σ', τ', hc, hm, hI⟩ := hs σ τ hI0
  unfold cC_8 at hc
  unfold cM_8 at hm
  have hcs0 : cells ≤ room_1.cells ∧ slots ≤ room_1.slots := ⟨by omega, by omega⟩
  refine lv_aload_n C.1.1 C.1.2.1 dL_law_552 rfl (lv_at hl 1 rfl) ?_
  refine lv_aload_n C.1.1 C.1.2.1 dL_law_553 rfl (lv_at hl 0 rfl) ?_
  refine lv_iload_n C.1.1 C.1.2.1 dL_law_554 rfl (lv_at hl 3 rfl) ?_
  refine lv_iconst (v := 1) C.1.1 C.1.2.1 dL_law_555 (by decide) ?_
  refine lv_iadd C.1.1 C.1.2.1 dL_law_556 ?_
  refine va_sld C.1.1 C.1.2.1 hX hbl hbA Z1.2.2 (hv 1 (by decide)) dL_law_557 ?_
  refine lv_aload_n C.1.1 C.1.2.1 dL_law_558 rfl (lv_at hl 0 rfl) ?_
  refine lv_iload_n C.1.1 C.1.2.1 dL_law_559 rfl (lv_at hl 3 rfl) ?_
  refine lv_iconst (v := 2) C.1.1 C.1.2.1 dL_law_560 (by decide) ?_
  refine lv_iadd C.1.1 C.1.2.1 dL_law_561 ?_
  refine va_sld C.1.1 C.1.2.1 hX hbl hbA Z1.2.2 (hv 2 (by decide)) dL_law_562 ?_
  refine g_call2 (ov := (some (.int r))) (σ' := σ') (eC_ok adK adV) C Z1 Z2 hdj (eC_at C Z1) (k_X10_chart hc) lk_L_51 (by decide) rfl rfl hl ⟨rfl, rfl, by decide, by decide⟩ hcs0 rfl (Nat.le_of_ble_eq_true rfl) (rest := []) rfl dL_law_563 (fun H locs Z1 Z2 => ?_)
  refine lv_aload_n C.1.1 C.1.2.1 dL_law_566 rfl (lv_at hl 2 rfl) ?_
  refine lv_aload_n C.1.1 C.1.2.1 dL_law_567 rfl (lv_at hl 0 rfl) ?_
  refine lv_iload_n C.1.1 C.1.2.1 dL_law_568 rfl (lv_at hl 3 rfl) ?_
  refine lv_iconst (v := 1) C.1.1 C.1.2.1 dL_law_569 (by decide) ?_
  refine lv_iadd C.1.1 C.1.2.1 dL_law_570 ?_
  refine va_sld C.1.1 C.1.2.1 hX hbl hbA Z1.2.2 (hv 1 (by decide)) dL_law_571 ?_
  refine lv_aload_n C.1.1 C.1.2.1 dL_law_572 rfl (lv_at hl 0 rfl) ?_
  refine lv_iload_n C.1.1 C.1.2.1 dL_law_573 rfl (lv_at hl 3 rfl) ?_
  refine lv_iconst (v := 2) C.1.1 C.1.2.1 dL_law_574 (by decide) ?_
  refine lv_iadd C.1.1 C.1.2.1 dL_law_575 ?_
  refine va_sld C.1.1 C.1.2.1 hX hbl hbA Z1.2.2 (hv 2 (by decide)) dL_law_576 ?_
  refine g_call2 (ov := (some (.int r))) (σ' := τ') eM_ok C Z2 Z1 (fun i hi j hj e => hdj j hj i hi e.symm) (fun _ _ _ => trivial) (k_X11_chart hm) lk_L_55 (by decide) rfl rfl hl ⟨rfl, rfl, by decide, by decide⟩ hcs0 rfl (Nat.le_of_ble_eq_true rfl) (rest := [.int r]) rfl dL_law_577 (fun H locs Z2 Z1 => ?_)
  refine lv_icmp_eq (tgt := 2123) C.1.1 C.1.2.1 dL_law_580 (by decide) (fun _ => ?_) (fun z => absurd rfl z)
  exact hn ad _ _ _ _ _ _ (Nat.le_succ _) (Nat.le_add_right _ _) rfl hdj Z1 Z2 hI
set_option maxRecDepth 20000 in
theorem lw_case_9 {p : Program} {l : Launch} {e : Env} {s : State} {m : MethodId} {below : List Frame} {meth : Method} {c : Code} {Q : State → Prop} {D : va_G} {kc : Nat → ClassId} {ad ad2 : Nat → Nat} {A : Nat → Prop} {adK adV : Nat → Nat} {b L : Nat} {xs : Nat → Int32} {H : Heap} {locs : List Loc} {cells slots : Nat} {ls : Array Slot} {x3 : Int32} {σ τ : St} {Inv : St → St → Prop} (C : Cx (eC adK adV) p s m #[Value.ref b] c cL_law 4 RL D kc A) (hX : va_X b L xs s s.heap) (hbl : b < s.heap.size) (hbA : ¬ A b) (hv : ∀ k : Nat, k < 7 → vp_in (x3 + nI k) L) (hs : SimI Inv (cC_9 (xs (x3 + 1).toNatClampNeg) (xs (x3 + 2).toNatClampNeg)) (cM_9 (xs (x3 + 1).toNatClampNeg) (xs (x3 + 2).toNatClampNeg))) (Z1 : Dy tC kc ad D A s.heap σ H locs) (Z2 : Dy tM kc ad2 D A s.heap τ H locs) (hdj : ∀ i, i < tC.1 → ∀ j, j < tM.1 → ad i ≠ ad2 j) (hI0 : Inv σ τ) (hcs : cells + 1 ≤ room_1.cells ∧ slots + 5300 ≤ room_1.slots) (hl : lv_has ls 4 [(0, .ref b), (1, .ref (ad 0)), (2, .ref (ad2 0)), (3, .int x3)]) (hn : ∀ (ad' : Nat → Nat) (σ' τ' : St) (H : Heap) (locs : List Loc) (cells' slots' : Nat), cells' ≤ cells + 1 → slots' ≤ slots + 5300 → ad' 0 = ad 0 → (∀ i, i < tC.1 → ∀ j, j < tM.1 → ad' i ≠ ad2 j) → Dy tC kc ad' D A s.heap σ' H locs → Dy tM kc ad2 D A s.heap τ' H locs → Inv σ' τ' → W p l e room_1 s m #[Value.ref b] below meth c H locs cells' slots' Q (F0 m 2123 ls [])) : W p l e room_1 s m #[Value.ref b] below meth c H locs cells slots Q (F0 m 585 ls []) := by
  obtain ⟨r, σ', τ', hc, hm, hI⟩ := hs σ τ hI0
  unfold cC_9 at hc
  unfold cM_9 at hm
  have hcs0 : cells ≤ room_1.cells ∧ slots ≤ room_1.slots := ⟨by omega, by omega⟩
  refine lv_aload_n C.1.1 C.1.2.1 dL_law_585 rfl (lv_at hl 1 rfl) ?_
  refine lv_aload_n C.1.1 C.1.2.1 dL_law_586 rfl (lv_at hl 0 rfl) ?_
  refine lv_iload_n C.1.1 C.1.2.1 dL_law_587 rfl (lv_at hl 3 rfl) ?_
  refine lv_iconst (v := 1) C.1.1 C.1.2.1 dL_law_588 (by decide) ?_
  refine lv_iadd C.1.1 C.1.2.1 dL_law_589 ?_
  refine va_sld C.1.1 C.1.2.1 hX hbl hbA Z1.2.2 (hv 1 (by decide)) dL_law_590 ?_
  refine lv_aload_n C.1.1 C.1.2.1 dL_law_591 rfl (lv_at hl 0 rfl) ?_
  refine lv_iload_n C.1.1 C.1.2.1 dL_law_592 rfl (lv_at hl 3 rfl) ?_
  refine lv_iconst (v := 2) C.1.1 C.1.2.1 dL_law_593 (by decide) ?_
  refine lv_iadd C.1.1 C.1.2.1 dL_law_594 ?_
  refine va_sld C.1.1 C.1.2.1 hX hbl hbA Z1.2.2 (hv 2 (by decide)) dL_law_595 ?_
  refine g_call2 (ov := (some (.int r))) (σ' := σ') (eC_ok adK adV) C Z1 Z2 hdj (eC_at C Z1) (k_X10_reach hc) lk_L_56 (by decide) rfl rfl hl ⟨rfl, rfl, by decide, by decide⟩ hcs0 rfl (Nat.le_of_ble_eq_true rfl) (rest := []) rfl dL_law_596 (fun H locs Z1 Z2 => ?_)
  refine lv_aload_n C.1.1 C.1.2.1 dL_law_599 rfl (lv_at hl 2 rfl) ?_
  refine lv_aload_n C.1.1 C.1.2.1 dL_law_600 rfl (lv_at hl 0 rfl) ?_
  refine lv_iload_n C.1.1 C.1.2.1 dL_law_601 rfl (lv_at hl 3 rfl) ?_
  refine lv_iconst (v := 1) C.1.1 C.1.2.1 dL_law_602 (by decide) ?_
  refine lv_iadd C.1.1 C.1.2.1 dL_law_603 ?_
  refine va_sld C.1.1 C.1.2.1 hX hbl hbA Z1.2.2 (hv 1 (by decide)) dL_law_604 ?_
  refine lv_aload_n C.1.1 C.1.2.1 dL_law_605 rfl (lv_at hl 0 rfl) ?_
  refine lv_iload_n C.1.1 C.1.2.1 dL_law_606 rfl (lv_at hl 3 rfl) ?_
  refine lv_iconst (v := 2) C.1.1 C.1.2.1 dL_law_607 (by decide) ?_
  refine lv_iadd C.1.1 C.1.2.1 dL_law_608 ?_
  refine va_sld C.1.1 C.1.2.1 hX hbl hbA Z1.2.2 (hv 2 (by decide)) dL_law_609 ?_
  refine g_call2 (ov := (some (.int r))) (σ' := τ') eM_ok C Z2 Z1 (fun i hi j hj e => hdj j hj i hi e.symm) (fun _ _ _ => trivial) (k_X11_reach hm) lk_L_59 (by decide) rfl rfl hl ⟨rfl, rfl, by decide, by decide⟩ hcs0 rfl (Nat.le_of_ble_eq_true rfl) (rest := [.int r]) rfl dL_law_610 (fun H locs Z2 Z1 => ?_)
  refine lv_icmp_eq (tgt := 2123) C.1.1 C.1.2.1 dL_law_613 (by decide) (fun _ => ?_) (fun z => absurd rfl z)
  exact hn ad _ _ _ _ _ _ (Nat.le_succ _) (Nat.le_add_right _ _) rfl hdj Z1 Z2 hI
set_option maxRecDepth 20000 in
theorem lw_case_10 {p : Program} {l : Launch} {e : Env} {s : State} {m : MethodId} {below : List Frame} {meth : Method} {c : Code} {Q : State → Prop} {D : va_G} {kc : Nat → ClassId} {ad ad2 : Nat → Nat} {A : Nat → Prop} {adK adV : Nat → Nat} {b L : Nat} {xs : Nat → Int32} {H : Heap} {locs : List Loc} {cells slots : Nat} {ls : Array Slot} {x3 : Int32} {σ τ : St} {Inv : St → St → Prop} (C : Cx (eC adK adV) p s m #[Value.ref b] c cL_law 4 RL D kc A) (hX : va_X b L xs s s.heap) (hbl : b < s.heap.size) (hbA : ¬ A b) (hv : ∀ k : Nat, k < 7 → vp_in (x3 + nI k) L) (hs : SimI Inv (cC_10 (xs (x3 + 1).toNatClampNeg) (xs (x3 + 2).toNatClampNeg) (xs (x3 + 3).toNatClampNeg) (xs (x3 + 4).toNatClampNeg) (xs (x3 + 5).toNatClampNeg)) (cM_10 (xs (x3 + 1).toNatClampNeg) (xs (x3 + 2).toNatClampNeg) (xs (x3 + 3).toNatClampNeg) (xs (x3 + 4).toNatClampNeg) (xs (x3 + 5).toNatClampNeg))) (Z1 : Dy tC kc ad D A s.heap σ H locs) (Z2 : Dy tM kc ad2 D A s.heap τ H locs) (hdj : ∀ i, i < tC.1 → ∀ j, j < tM.1 → ad i ≠ ad2 j) (hI0 : Inv σ τ) (hcs : cells + 1 ≤ room_1.cells ∧ slots + 5300 ≤ room_1.slots) (hl : lv_has ls 4 [(0, .ref b), (1, .ref (ad 0)), (2, .ref (ad2 0)), (3, .int x3)]) (hn : ∀ (ad' : Nat → Nat) (σ' τ' : St) (H : Heap) (locs : List Loc) (cells' slots' : Nat), cells' ≤ cells + 1 → slots' ≤ slots + 5300 → ad' 0 = ad 0 → (∀ i, i < tC.1 → ∀ j, j < tM.1 → ad' i ≠ ad2 j) → Dy tC kc ad' D A s.heap σ' H locs → Dy tM kc ad2 D A s.heap τ' H locs → Inv σ' τ' → W p l e room_1 s m #[Value.ref b] below meth c H locs cells' slots' Q (F0 m 2123 ls [])) : W p l e room_1 s m #[Value.ref b] below meth c H locs cells slots Q (F0 m 618 ls []) := by
  obtain ⟨r, σ', τ', hc, hm, hI⟩ := hs σ τ hI0
  unfold cC_10 at hc
  unfold cM_10 at hm
  have hcs0 : cells ≤ room_1.cells ∧ slots ≤ room_1.slots := ⟨by omega, by omega⟩
  refine lv_aload_n C.1.1 C.1.2.1 dL_law_618 rfl (lv_at hl 1 rfl) ?_
  refine lv_aload_n C.1.1 C.1.2.1 dL_law_619 rfl (lv_at hl 0 rfl) ?_
  refine lv_iload_n C.1.1 C.1.2.1 dL_law_620 rfl (lv_at hl 3 rfl) ?_
  refine lv_iconst (v := 1) C.1.1 C.1.2.1 dL_law_621 (by decide) ?_
  refine lv_iadd C.1.1 C.1.2.1 dL_law_622 ?_
  refine va_sld C.1.1 C.1.2.1 hX hbl hbA Z1.2.2 (hv 1 (by decide)) dL_law_623 ?_
  refine lv_aload_n C.1.1 C.1.2.1 dL_law_624 rfl (lv_at hl 0 rfl) ?_
  refine lv_iload_n C.1.1 C.1.2.1 dL_law_625 rfl (lv_at hl 3 rfl) ?_
  refine lv_iconst (v := 2) C.1.1 C.1.2.1 dL_law_626 (by decide) ?_
  refine lv_iadd C.1.1 C.1.2.1 dL_law_627 ?_
  refine va_sld C.1.1 C.1.2.1 hX hbl hbA Z1.2.2 (hv 2 (by decide)) dL_law_628 ?_
  refine lv_aload_n C.1.1 C.1.2.1 dL_law_629 rfl (lv_at hl 0 rfl) ?_
  refine lv_iload_n C.1.1 C.1.2.1 dL_law_630 rfl (lv_at hl 3 rfl) ?_
  refine lv_iconst (v := 3) C.1.1 C.1.2.1 dL_law_631 (by decide) ?_
  refine lv_iadd C.1.1 C.1.2.1 dL_law_632 ?_
  refine va_sld C.1.1 C.1.2.1 hX hbl hbA Z1.2.2 (hv 3 (by decide)) dL_law_633 ?_
  refine lv_aload_n C.1.1 C.1.2.1 dL_law_634 rfl (lv_at hl 0 rfl) ?_
  refine lv_iload_n C.1.1 C.1.2.1 dL_law_635 rfl (lv_at hl 3 rfl) ?_
  refine lv_iconst (v := 4) C.1.1 C.1.2.1 dL_law_636 (by decide) ?_
  refine lv_iadd C.1.1 C.1.2.1 dL_law_637 ?_
  refine va_sld C.1.1 C.1.2.1 hX hbl hbA Z1.2.2 (hv 4 (by decide)) dL_law_638 ?_
  refine lv_aload_n C.1.1 C.1.2.1 dL_law_639 rfl (lv_at hl 0 rfl) ?_
  refine lv_iload_n C.1.1 C.1.2.1 dL_law_640 rfl (lv_at hl 3 rfl) ?_
  refine lv_iconst (v := 5) C.1.1 C.1.2.1 dL_law_641 (by decide) ?_
  refine lv_iadd C.1.1 C.1.2.1 dL_law_642 ?_
  refine va_sld C.1.1 C.1.2.1 hX hbl hbA Z1.2.2 (hv 5 (by decide)) dL_law_643 ?_
  refine g_call2 (ov := (some (.int r))) (σ' := σ') (eC_ok adK adV) C Z1 Z2 hdj (eC_at C Z1) (k_X10_within hc) lk_L_60 (by decide) rfl rfl hl ⟨rfl, rfl, by decide, by decide⟩ hcs0 rfl (Nat.le_of_ble_eq_true rfl) (rest := []) rfl dL_law_644 (fun H locs Z1 Z2 => ?_)
  refine lv_aload_n C.1.1 C.1.2.1 dL_law_647 rfl (lv_at hl 2 rfl) ?_
  refine lv_aload_n C.1.1 C.1.2.1 dL_law_648 rfl (lv_at hl 0 rfl) ?_
  refine lv_iload_n C.1.1 C.1.2.1 dL_law_649 rfl (lv_at hl 3 rfl) ?_
  refine lv_iconst (v := 1) C.1.1 C.1.2.1 dL_law_650 (by decide) ?_
  refine lv_iadd C.1.1 C.1.2.1 dL_law_651 ?_
  refine va_sld C.1.1 C.1.2.1 hX hbl hbA Z1.2.2 (hv 1 (by decide)) dL_law_652 ?_
  refine lv_aload_n C.1.1 C.1.2.1 dL_law_653 rfl (lv_at hl 0 rfl) ?_
  refine lv_iload_n C.1.1 C.1.2.1 dL_law_654 rfl (lv_at hl 3 rfl) ?_
  refine lv_iconst (v := 2) C.1.1 C.1.2.1 dL_law_655 (by decide) ?_
  refine lv_iadd C.1.1 C.1.2.1 dL_law_656 ?_
  refine va_sld C.1.1 C.1.2.1 hX hbl hbA Z1.2.2 (hv 2 (by decide)) dL_law_657 ?_
  refine lv_aload_n C.1.1 C.1.2.1 dL_law_658 rfl (lv_at hl 0 rfl) ?_
  refine lv_iload_n C.1.1 C.1.2.1 dL_law_659 rfl (lv_at hl 3 rfl) ?_
  refine lv_iconst (v := 3) C.1.1 C.1.2.1 dL_law_660 (by decide) ?_
  refine lv_iadd C.1.1 C.1.2.1 dL_law_661 ?_
  refine va_sld C.1.1 C.1.2.1 hX hbl hbA Z1.2.2 (hv 3 (by decide)) dL_law_662 ?_
  refine lv_aload_n C.1.1 C.1.2.1 dL_law_663 rfl (lv_at hl 0 rfl) ?_
  refine lv_iload_n C.1.1 C.1.2.1 dL_law_664 rfl (lv_at hl 3 rfl) ?_
  refine lv_iconst (v := 4) C.1.1 C.1.2.1 dL_law_665 (by decide) ?_
  refine lv_iadd C.1.1 C.1.2.1 dL_law_666 ?_
  refine va_sld C.1.1 C.1.2.1 hX hbl hbA Z1.2.2 (hv 4 (by decide)) dL_law_667 ?_
  refine lv_aload_n C.1.1 C.1.2.1 dL_law_668 rfl (lv_at hl 0 rfl) ?_
  refine lv_iload_n C.1.1 C.1.2.1 dL_law_669 rfl (lv_at hl 3 rfl) ?_
  refine lv_iconst (v := 5) C.1.1 C.1.2.1 dL_law_670 (by decide) ?_
  refine lv_iadd C.1.1 C.1.2.1 dL_law_671 ?_
  refine va_sld C.1.1 C.1.2.1 hX hbl hbA Z1.2.2 (hv 5 (by decide)) dL_law_672 ?_
  refine g_call2 (ov := (some (.int r))) (σ' := τ') eM_ok C Z2 Z1 (fun i hi j hj e => hdj j hj i hi e.symm) (fun _ _ _ => trivial) (k_X11_within hm) lk_L_63 (by decide) rfl rfl hl ⟨rfl, rfl, by decide, by decide⟩ hcs0 rfl (Nat.le_of_ble_eq_true rfl) (rest := [.int r]) rfl dL_law_673 (fun H locs Z2 Z1 => ?_)
  refine lv_icmp_eq (tgt := 2123) C.1.1 C.1.2.1 dL_law_676 (by decide) (fun _ => ?_) (fun z => absurd rfl z)
  exact hn ad _ _ _ _ _ _ (Nat.le_succ _) (Nat.le_add_right _ _) rfl hdj Z1 Z2 hI
set_option maxRecDepth 20000 in
theorem lw_case_11 {p : Program} {l : Launch} {e : Env} {s : State} {m : MethodId} {below : List Frame} {meth : Method} {c : Code} {Q : State → Prop} {D : va_G} {kc : Nat → ClassId} {ad ad2 : Nat → Nat} {A : Nat → Prop} {adK adV : Nat → Nat} {b L : Nat} {xs : Nat → Int32} {H : Heap} {locs : List Loc} {cells slots : Nat} {ls : Array Slot} {x3 : Int32} {σ τ : St} {Inv : St → St → Prop} (C : Cx (eC adK adV) p s m #[Value.ref b] c cL_law 4 RL D kc A) (hX : va_X b L xs s s.heap) (hbl : b < s.heap.size) (hbA : ¬ A b) (hv : ∀ k : Nat, k < 7 → vp_in (x3 + nI k) L) (hs : SimL Inv (cC_11 (xs (x3 + 1).toNatClampNeg) (xs (x3 + 2).toNatClampNeg) (xs (x3 + 3).toNatClampNeg) (xs (x3 + 4).toNatClampNeg)) (cM_11 (xs (x3 + 1).toNatClampNeg) (xs (x3 + 2).toNatClampNeg) (xs (x3 + 3).toNatClampNeg) (xs (x3 + 4).toNatClampNeg))) (Z1 : Dy tC kc ad D A s.heap σ H locs) (Z2 : Dy tM kc ad2 D A s.heap τ H locs) (hdj : ∀ i, i < tC.1 → ∀ j, j < tM.1 → ad i ≠ ad2 j) (hI0 : Inv σ τ) (hcs : cells + 1 ≤ room_1.cells ∧ slots + 5300 ≤ room_1.slots) (hl : lv_has ls 4 [(0, .ref b), (1, .ref (ad 0)), (2, .ref (ad2 0)), (3, .int x3)]) (hn : ∀ (ad' : Nat → Nat) (σ' τ' : St) (H : Heap) (locs : List Loc) (cells' slots' : Nat), cells' ≤ cells + 1 → slots' ≤ slots + 5300 → ad' 0 = ad 0 → (∀ i, i < tC.1 → ∀ j, j < tM.1 → ad' i ≠ ad2 j) → Dy tC kc ad' D A s.heap σ' H locs → Dy tM kc ad2 D A s.heap τ' H locs → Inv σ' τ' → W p l e room_1 s m #[Value.ref b] below meth c H locs cells' slots' Q (F0 m 2123 ls [])) : W p l e room_1 s m #[Value.ref b] below meth c H locs cells slots Q (F0 m 681 ls []) := by
  obtain ⟨r, σ', τ', hc, hm, hI⟩ := hs σ τ hI0
  unfold cC_11 at hc
  unfold cM_11 at hm
  have hcs0 : cells ≤ room_1.cells ∧ slots ≤ room_1.slots := ⟨by omega, by omega⟩
  refine lv_aload_n C.1.1 C.1.2.1 dL_law_681 rfl (lv_at hl 1 rfl) ?_
  refine lv_aload_n C.1.1 C.1.2.1 dL_law_682 rfl (lv_at hl 0 rfl) ?_
  refine lv_iload_n C.1.1 C.1.2.1 dL_law_683 rfl (lv_at hl 3 rfl) ?_
  refine lv_iconst (v := 1) C.1.1 C.1.2.1 dL_law_684 (by decide) ?_
  refine lv_iadd C.1.1 C.1.2.1 dL_law_685 ?_
  refine va_sld C.1.1 C.1.2.1 hX hbl hbA Z1.2.2 (hv 1 (by decide)) dL_law_686 ?_
  refine lv_aload_n C.1.1 C.1.2.1 dL_law_687 rfl (lv_at hl 0 rfl) ?_
  refine lv_iload_n C.1.1 C.1.2.1 dL_law_688 rfl (lv_at hl 3 rfl) ?_
  refine lv_iconst (v := 2) C.1.1 C.1.2.1 dL_law_689 (by decide) ?_
  refine lv_iadd C.1.1 C.1.2.1 dL_law_690 ?_
  refine va_sld C.1.1 C.1.2.1 hX hbl hbA Z1.2.2 (hv 2 (by decide)) dL_law_691 ?_
  refine lv_aload_n C.1.1 C.1.2.1 dL_law_692 rfl (lv_at hl 0 rfl) ?_
  refine lv_iload_n C.1.1 C.1.2.1 dL_law_693 rfl (lv_at hl 3 rfl) ?_
  refine lv_iconst (v := 3) C.1.1 C.1.2.1 dL_law_694 (by decide) ?_
  refine lv_iadd C.1.1 C.1.2.1 dL_law_695 ?_
  refine va_sld C.1.1 C.1.2.1 hX hbl hbA Z1.2.2 (hv 3 (by decide)) dL_law_696 ?_
  refine lv_aload_n C.1.1 C.1.2.1 dL_law_697 rfl (lv_at hl 0 rfl) ?_
  refine lv_iload_n C.1.1 C.1.2.1 dL_law_698 rfl (lv_at hl 3 rfl) ?_
  refine lv_iconst (v := 4) C.1.1 C.1.2.1 dL_law_699 (by decide) ?_
  refine lv_iadd C.1.1 C.1.2.1 dL_law_700 ?_
  refine va_sld C.1.1 C.1.2.1 hX hbl hbA Z1.2.2 (hv 4 (by decide)) dL_law_701 ?_
  refine g_call2 (ov := (some (.long r))) (σ' := σ') (eC_ok adK adV) C Z1 Z2 hdj (eC_at C Z1) (k_X10_inside hc) lk_L_64 (by decide) rfl rfl hl ⟨rfl, rfl, by decide, by decide⟩ hcs0 rfl (Nat.le_of_ble_eq_true rfl) (rest := []) rfl dL_law_702 (fun H locs Z1 Z2 => ?_)
  refine lv_aload_n C.1.1 C.1.2.1 dL_law_705 rfl (lv_at hl 2 rfl) ?_
  refine lv_aload_n C.1.1 C.1.2.1 dL_law_706 rfl (lv_at hl 0 rfl) ?_
  refine lv_iload_n C.1.1 C.1.2.1 dL_law_707 rfl (lv_at hl 3 rfl) ?_
  refine lv_iconst (v := 1) C.1.1 C.1.2.1 dL_law_708 (by decide) ?_
  refine lv_iadd C.1.1 C.1.2.1 dL_law_709 ?_
  refine va_sld C.1.1 C.1.2.1 hX hbl hbA Z1.2.2 (hv 1 (by decide)) dL_law_710 ?_
  refine lv_aload_n C.1.1 C.1.2.1 dL_law_711 rfl (lv_at hl 0 rfl) ?_
  refine lv_iload_n C.1.1 C.1.2.1 dL_law_712 rfl (lv_at hl 3 rfl) ?_
  refine lv_iconst (v := 2) C.1.1 C.1.2.1 dL_law_713 (by decide) ?_
  refine lv_iadd C.1.1 C.1.2.1 dL_law_714 ?_
  refine va_sld C.1.1 C.1.2.1 hX hbl hbA Z1.2.2 (hv 2 (by decide)) dL_law_715 ?_
  refine lv_aload_n C.1.1 C.1.2.1 dL_law_716 rfl (lv_at hl 0 rfl) ?_
  refine lv_iload_n C.1.1 C.1.2.1 dL_law_717 rfl (lv_at hl 3 rfl) ?_
  refine lv_iconst (v := 3) C.1.1 C.1.2.1 dL_law_718 (by decide) ?_
  refine lv_iadd C.1.1 C.1.2.1 dL_law_719 ?_
  refine va_sld C.1.1 C.1.2.1 hX hbl hbA Z1.2.2 (hv 3 (by decide)) dL_law_720 ?_
  refine lv_aload_n C.1.1 C.1.2.1 dL_law_721 rfl (lv_at hl 0 rfl) ?_
  refine lv_iload_n C.1.1 C.1.2.1 dL_law_722 rfl (lv_at hl 3 rfl) ?_
  refine lv_iconst (v := 4) C.1.1 C.1.2.1 dL_law_723 (by decide) ?_
  refine lv_iadd C.1.1 C.1.2.1 dL_law_724 ?_
  refine va_sld C.1.1 C.1.2.1 hX hbl hbA Z1.2.2 (hv 4 (by decide)) dL_law_725 ?_
  refine g_call2 (ov := (some (.long r))) (σ' := τ') eM_ok C Z2 Z1 (fun i hi j hj e => hdj j hj i hi e.symm) (fun _ _ _ => trivial) (k_X11_inside hm) lk_L_68 (by decide) rfl rfl hl ⟨rfl, rfl, by decide, by decide⟩ hcs0 rfl (Nat.le_of_ble_eq_true rfl) (rest := [.long r]) rfl dL_law_726 (fun H locs Z2 Z1 => ?_)
  refine g_leq (tgt := 2123) C.1.1 C.1.2.1 dL_law_729 dL_law_730 (by decide) (fun _ => ?_) (fun z => absurd rfl z)
  exact hn ad _ _ _ _ _ _ (Nat.le_succ _) (Nat.le_add_right _ _) rfl hdj Z1 Z2 hI
set_option maxRecDepth 20000 in
theorem lw_case_12 {p : Program} {l : Launch} {e : Env} {s : State} {m : MethodId} {below : List Frame} {meth : Method} {c : Code} {Q : State → Prop} {D : va_G} {kc : Nat → ClassId} {ad ad2 : Nat → Nat} {A : Nat → Prop} {adK adV : Nat → Nat} {b L : Nat} {xs : Nat → Int32} {H : Heap} {locs : List Loc} {cells slots : Nat} {ls : Array Slot} {x3 : Int32} {σ τ : St} {Inv : St → St → Prop} (C : Cx (eC adK adV) p s m #[Value.ref b] c cL_law 4 RL D kc A) (hX : va_X b L xs s s.heap) (hbl : b < s.heap.size) (hbA : ¬ A b) (hv : ∀ k : Nat, k < 7 → vp_in (x3 + nI k) L) (hs : SimI Inv (cC_12 (xs (x3 + 1).toNatClampNeg) (xs (x3 + 2).toNatClampNeg)) (cM_12 (xs (x3 + 1).toNatClampNeg) (xs (x3 + 2).toNatClampNeg))) (Z1 : Dy tC kc ad D A s.heap σ H locs) (Z2 : Dy tM kc ad2 D A s.heap τ H locs) (hdj : ∀ i, i < tC.1 → ∀ j, j < tM.1 → ad i ≠ ad2 j) (hI0 : Inv σ τ) (hcs : cells + 1 ≤ room_1.cells ∧ slots + 5300 ≤ room_1.slots) (hl : lv_has ls 4 [(0, .ref b), (1, .ref (ad 0)), (2, .ref (ad2 0)), (3, .int x3)]) (hn : ∀ (ad' : Nat → Nat) (σ' τ' : St) (H : Heap) (locs : List Loc) (cells' slots' : Nat), cells' ≤ cells + 1 → slots' ≤ slots + 5300 → ad' 0 = ad 0 → (∀ i, i < tC.1 → ∀ j, j < tM.1 → ad' i ≠ ad2 j) → Dy tC kc ad' D A s.heap σ' H locs → Dy tM kc ad2 D A s.heap τ' H locs → Inv σ' τ' → W p l e room_1 s m #[Value.ref b] below meth c H locs cells' slots' Q (F0 m 2123 ls [])) : W p l e room_1 s m #[Value.ref b] below meth c H locs cells slots Q (F0 m 735 ls []) := by
  obtain ⟨r, σ', τ', hc, hm, hI⟩ := hs σ τ hI0
  unfold cC_12 at hc
  unfold cM_12 at hm
  have hc := mapO hc
  have ehc := hc.2
  subst ehc
  have hm := mapO hm
  have ehm := hm.2
  subst ehm
  have hcs0 : cells ≤ room_1.cells ∧ slots ≤ room_1.slots := ⟨by omega, by omega⟩
  refine lv_aload_n C.1.1 C.1.2.1 dL_law_735 rfl (lv_at hl 1 rfl) ?_
  refine lv_aload_n C.1.1 C.1.2.1 dL_law_736 rfl (lv_at hl 0 rfl) ?_
  refine lv_iload_n C.1.1 C.1.2.1 dL_law_737 rfl (lv_at hl 3 rfl) ?_
  refine lv_iconst (v := 1) C.1.1 C.1.2.1 dL_law_738 (by decide) ?_
  refine lv_iadd C.1.1 C.1.2.1 dL_law_739 ?_
  refine va_sld C.1.1 C.1.2.1 hX hbl hbA Z1.2.2 (hv 1 (by decide)) dL_law_740 ?_
  refine lv_aload_n C.1.1 C.1.2.1 dL_law_741 rfl (lv_at hl 0 rfl) ?_
  refine lv_iload_n C.1.1 C.1.2.1 dL_law_742 rfl (lv_at hl 3 rfl) ?_
  refine lv_iconst (v := 2) C.1.1 C.1.2.1 dL_law_743 (by decide) ?_
  refine lv_iadd C.1.1 C.1.2.1 dL_law_744 ?_
  refine va_sld C.1.1 C.1.2.1 hX hbl hbA Z1.2.2 (hv 2 (by decide)) dL_law_745 ?_
  refine g_call2 (ov := (some (.int r))) (σ' := σ') (eC_ok adK adV) C Z1 Z2 hdj (eC_at C Z1) (k_X10_beside hc.1) lk_L_69 (by decide) rfl rfl hl ⟨rfl, rfl, by decide, by decide⟩ hcs0 rfl (Nat.le_of_ble_eq_true rfl) (rest := []) rfl dL_law_746 (fun H locs Z1 Z2 => ?_)
  refine lv_aload_n C.1.1 C.1.2.1 dL_law_749 rfl (lv_at hl 2 rfl) ?_
  refine lv_aload_n C.1.1 C.1.2.1 dL_law_750 rfl (lv_at hl 0 rfl) ?_
  refine lv_iload_n C.1.1 C.1.2.1 dL_law_751 rfl (lv_at hl 3 rfl) ?_
  refine lv_iconst (v := 1) C.1.1 C.1.2.1 dL_law_752 (by decide) ?_
  refine lv_iadd C.1.1 C.1.2.1 dL_law_753 ?_
  refine va_sld C.1.1 C.1.2.1 hX hbl hbA Z1.2.2 (hv 1 (by decide)) dL_law_754 ?_
  refine lv_aload_n C.1.1 C.1.2.1 dL_law_755 rfl (lv_at hl 0 rfl) ?_
  refine lv_iload_n C.1.1 C.1.2.1 dL_law_756 rfl (lv_at hl 3 rfl) ?_
  refine lv_iconst (v := 2) C.1.1 C.1.2.1 dL_law_757 (by decide) ?_
  refine lv_iadd C.1.1 C.1.2.1 dL_law_758 ?_
  refine va_sld C.1.1 C.1.2.1 hX hbl hbA Z1.2.2 (hv 2 (by decide)) dL_law_759 ?_
  refine g_call2 (ov := (some (.int r))) (σ' := τ') eM_ok C Z2 Z1 (fun i hi j hj e => hdj j hj i hi e.symm) (fun _ _ _ => trivial) (k_X11_beside hm.1) lk_L_72 (by decide) rfl rfl hl ⟨rfl, rfl, by decide, by decide⟩ hcs0 rfl (Nat.le_of_ble_eq_true rfl) (rest := [.int r]) rfl dL_law_760 (fun H locs Z2 Z1 => ?_)
  refine lv_icmp_eq (tgt := 2123) C.1.1 C.1.2.1 dL_law_763 (by decide) (fun _ => ?_) (fun z => absurd rfl z)
  exact hn ad _ _ _ _ _ _ (Nat.le_succ _) (Nat.le_add_right _ _) rfl hdj Z1 Z2 hI
set_option maxRecDepth 20000 in
theorem lw_case_13 {p : Program} {l : Launch} {e : Env} {s : State} {m : MethodId} {below : List Frame} {meth : Method} {c : Code} {Q : State → Prop} {D : va_G} {kc : Nat → ClassId} {ad ad2 : Nat → Nat} {A : Nat → Prop} {adK adV : Nat → Nat} {b L : Nat} {xs : Nat → Int32} {H : Heap} {locs : List Loc} {cells slots : Nat} {ls : Array Slot} {x3 : Int32} {σ τ : St} {Inv : St → St → Prop} (C : Cx (eC adK adV) p s m #[Value.ref b] c cL_law 4 RL D kc A) (hX : va_X b L xs s s.heap) (hbl : b < s.heap.size) (hbA : ¬ A b) (hv : ∀ k : Nat, k < 7 → vp_in (x3 + nI k) L) (hs : SimI Inv (cC_13 (xs (x3 + 1).toNatClampNeg) (xs (x3 + 2).toNatClampNeg) (xs (x3 + 3).toNatClampNeg) (xs (x3 + 4).toNatClampNeg) (xs (x3 + 5).toNatClampNeg)) (cM_13 (xs (x3 + 1).toNatClampNeg) (xs (x3 + 2).toNatClampNeg) (xs (x3 + 3).toNatClampNeg) (xs (x3 + 4).toNatClampNeg) (xs (x3 + 5).toNatClampNeg))) (Z1 : Dy tC kc ad D A s.heap σ H locs) (Z2 : Dy tM kc ad2 D A s.heap τ H locs) (hdj : ∀ i, i < tC.1 → ∀ j, j < tM.1 → ad i ≠ ad2 j) (hI0 : Inv σ τ) (hcs : cells + 1 ≤ room_1.cells ∧ slots + 5300 ≤ room_1.slots) (hl : lv_has ls 4 [(0, .ref b), (1, .ref (ad 0)), (2, .ref (ad2 0)), (3, .int x3)]) (hn : ∀ (ad' : Nat → Nat) (σ' τ' : St) (H : Heap) (locs : List Loc) (cells' slots' : Nat), cells' ≤ cells + 1 → slots' ≤ slots + 5300 → ad' 0 = ad 0 → (∀ i, i < tC.1 → ∀ j, j < tM.1 → ad' i ≠ ad2 j) → Dy tC kc ad' D A s.heap σ' H locs → Dy tM kc ad2 D A s.heap τ' H locs → Inv σ' τ' → W p l e room_1 s m #[Value.ref b] below meth c H locs cells' slots' Q (F0 m 2123 ls [])) : W p l e room_1 s m #[Value.ref b] below meth c H locs cells slots Q (F0 m 768 ls []) := by
  obtain ⟨r, σ', τ', hc, hm, hI⟩ := hs σ τ hI0
  unfold cC_13 at hc
  unfold cM_13 at hm
  have hcs0 : cells ≤ room_1.cells ∧ slots ≤ room_1.slots := ⟨by omega, by omega⟩
  refine lv_aload_n C.1.1 C.1.2.1 dL_law_768 rfl (lv_at hl 1 rfl) ?_
  refine lv_aload_n C.1.1 C.1.2.1 dL_law_769 rfl (lv_at hl 0 rfl) ?_
  refine lv_iload_n C.1.1 C.1.2.1 dL_law_770 rfl (lv_at hl 3 rfl) ?_
  refine lv_iconst (v := 1) C.1.1 C.1.2.1 dL_law_771 (by decide) ?_
  refine lv_iadd C.1.1 C.1.2.1 dL_law_772 ?_
  refine va_sld C.1.1 C.1.2.1 hX hbl hbA Z1.2.2 (hv 1 (by decide)) dL_law_773 ?_
  refine lv_aload_n C.1.1 C.1.2.1 dL_law_774 rfl (lv_at hl 0 rfl) ?_
  refine lv_iload_n C.1.1 C.1.2.1 dL_law_775 rfl (lv_at hl 3 rfl) ?_
  refine lv_iconst (v := 2) C.1.1 C.1.2.1 dL_law_776 (by decide) ?_
  refine lv_iadd C.1.1 C.1.2.1 dL_law_777 ?_
  refine va_sld C.1.1 C.1.2.1 hX hbl hbA Z1.2.2 (hv 2 (by decide)) dL_law_778 ?_
  refine lv_aload_n C.1.1 C.1.2.1 dL_law_779 rfl (lv_at hl 0 rfl) ?_
  refine lv_iload_n C.1.1 C.1.2.1 dL_law_780 rfl (lv_at hl 3 rfl) ?_
  refine lv_iconst (v := 3) C.1.1 C.1.2.1 dL_law_781 (by decide) ?_
  refine lv_iadd C.1.1 C.1.2.1 dL_law_782 ?_
  refine va_sld C.1.1 C.1.2.1 hX hbl hbA Z1.2.2 (hv 3 (by decide)) dL_law_783 ?_
  refine lv_aload_n C.1.1 C.1.2.1 dL_law_784 rfl (lv_at hl 0 rfl) ?_
  refine lv_iload_n C.1.1 C.1.2.1 dL_law_785 rfl (lv_at hl 3 rfl) ?_
  refine lv_iconst (v := 4) C.1.1 C.1.2.1 dL_law_786 (by decide) ?_
  refine lv_iadd C.1.1 C.1.2.1 dL_law_787 ?_
  refine va_sld C.1.1 C.1.2.1 hX hbl hbA Z1.2.2 (hv 4 (by decide)) dL_law_788 ?_
  refine lv_aload_n C.1.1 C.1.2.1 dL_law_789 rfl (lv_at hl 0 rfl) ?_
  refine lv_iload_n C.1.1 C.1.2.1 dL_law_790 rfl (lv_at hl 3 rfl) ?_
  refine lv_iconst (v := 5) C.1.1 C.1.2.1 dL_law_791 (by decide) ?_
  refine lv_iadd C.1.1 C.1.2.1 dL_law_792 ?_
  refine va_sld C.1.1 C.1.2.1 hX hbl hbA Z1.2.2 (hv 5 (by decide)) dL_law_793 ?_
  refine g_call2 (ov := (some (.int r))) (σ' := σ') (eC_ok adK adV) C Z1 Z2 hdj (eC_at C Z1) (k_X10_feed hc) lk_L_73 (by decide) rfl rfl hl ⟨rfl, rfl, by decide, by decide⟩ hcs0 rfl (Nat.le_of_ble_eq_true rfl) (rest := []) rfl dL_law_794 (fun H locs Z1 Z2 => ?_)
  refine lv_aload_n C.1.1 C.1.2.1 dL_law_797 rfl (lv_at hl 2 rfl) ?_
  refine lv_aload_n C.1.1 C.1.2.1 dL_law_798 rfl (lv_at hl 0 rfl) ?_
  refine lv_iload_n C.1.1 C.1.2.1 dL_law_799 rfl (lv_at hl 3 rfl) ?_
  refine lv_iconst (v := 1) C.1.1 C.1.2.1 dL_law_800 (by decide) ?_
  refine lv_iadd C.1.1 C.1.2.1 dL_law_801 ?_
  refine va_sld C.1.1 C.1.2.1 hX hbl hbA Z1.2.2 (hv 1 (by decide)) dL_law_802 ?_
  refine lv_aload_n C.1.1 C.1.2.1 dL_law_803 rfl (lv_at hl 0 rfl) ?_
  refine lv_iload_n C.1.1 C.1.2.1 dL_law_804 rfl (lv_at hl 3 rfl) ?_
  refine lv_iconst (v := 2) C.1.1 C.1.2.1 dL_law_805 (by decide) ?_
  refine lv_iadd C.1.1 C.1.2.1 dL_law_806 ?_
  refine va_sld C.1.1 C.1.2.1 hX hbl hbA Z1.2.2 (hv 2 (by decide)) dL_law_807 ?_
  refine lv_aload_n C.1.1 C.1.2.1 dL_law_808 rfl (lv_at hl 0 rfl) ?_
  refine lv_iload_n C.1.1 C.1.2.1 dL_law_809 rfl (lv_at hl 3 rfl) ?_
  refine lv_iconst (v := 3) C.1.1 C.1.2.1 dL_law_810 (by decide) ?_
  refine lv_iadd C.1.1 C.1.2.1 dL_law_811 ?_
  refine va_sld C.1.1 C.1.2.1 hX hbl hbA Z1.2.2 (hv 3 (by decide)) dL_law_812 ?_
  refine lv_aload_n C.1.1 C.1.2.1 dL_law_813 rfl (lv_at hl 0 rfl) ?_
  refine lv_iload_n C.1.1 C.1.2.1 dL_law_814 rfl (lv_at hl 3 rfl) ?_
  refine lv_iconst (v := 4) C.1.1 C.1.2.1 dL_law_815 (by decide) ?_
  refine lv_iadd C.1.1 C.1.2.1 dL_law_816 ?_
  refine va_sld C.1.1 C.1.2.1 hX hbl hbA Z1.2.2 (hv 4 (by decide)) dL_law_817 ?_
  refine lv_aload_n C.1.1 C.1.2.1 dL_law_818 rfl (lv_at hl 0 rfl) ?_
  refine lv_iload_n C.1.1 C.1.2.1 dL_law_819 rfl (lv_at hl 3 rfl) ?_
  refine lv_iconst (v := 5) C.1.1 C.1.2.1 dL_law_820 (by decide) ?_
  refine lv_iadd C.1.1 C.1.2.1 dL_law_821 ?_
  refine va_sld C.1.1 C.1.2.1 hX hbl hbA Z1.2.2 (hv 5 (by decide)) dL_law_822 ?_
  refine g_call2 (ov := (some (.int r))) (σ' := τ') eM_ok C Z2 Z1 (fun i hi j hj e => hdj j hj i hi e.symm) (fun _ _ _ => trivial) (k_X11_feed hm) lk_L_76 (by decide) rfl rfl hl ⟨rfl, rfl, by decide, by decide⟩ hcs0 rfl (Nat.le_of_ble_eq_true rfl) (rest := [.int r]) rfl dL_law_823 (fun H locs Z2 Z1 => ?_)
  refine lv_icmp_eq (tgt := 2123) C.1.1 C.1.2.1 dL_law_826 (by decide) (fun _ => ?_) (fun z => absurd rfl z)
  exact hn ad _ _ _ _ _ _ (Nat.le_succ _) (Nat.le_add_right _ _) rfl hdj Z1 Z2 hI
set_option maxRecDepth 20000 in
theorem lw_case_14 {p : Program} {l : Launch} {e : Env} {s : State} {m : MethodId} {below : List Frame} {meth : Method} {c : Code} {Q : State → Prop} {D : va_G} {kc : Nat → ClassId} {ad ad2 : Nat → Nat} {A : Nat → Prop} {adK adV : Nat → Nat} {b L : Nat} {xs : Nat → Int32} {H : Heap} {locs : List Loc} {cells slots : Nat} {ls : Array Slot} {x3 : Int32} {σ τ : St} {Inv : St → St → Prop} (C : Cx (eC adK adV) p s m #[Value.ref b] c cL_law 4 RL D kc A) (hX : va_X b L xs s s.heap) (hbl : b < s.heap.size) (hbA : ¬ A b) (hv : ∀ k : Nat, k < 7 → vp_in (x3 + nI k) L) (hs : SimI Inv (cC_14 (xs (x3 + 1).toNatClampNeg)) (cM_14 (xs (x3 + 1).toNatClampNeg))) (Z1 : Dy tC kc ad D A s.heap σ H locs) (Z2 : Dy tM kc ad2 D A s.heap τ H locs) (hdj : ∀ i, i < tC.1 → ∀ j, j < tM.1 → ad i ≠ ad2 j) (hI0 : Inv σ τ) (hcs : cells + 1 ≤ room_1.cells ∧ slots + 5300 ≤ room_1.slots) (hl : lv_has ls 4 [(0, .ref b), (1, .ref (ad 0)), (2, .ref (ad2 0)), (3, .int x3)]) (hn : ∀ (ad' : Nat → Nat) (σ' τ' : St) (H : Heap) (locs : List Loc) (cells' slots' : Nat), cells' ≤ cells + 1 → slots' ≤ slots + 5300 → ad' 0 = ad 0 → (∀ i, i < tC.1 → ∀ j, j < tM.1 → ad' i ≠ ad2 j) → Dy tC kc ad' D A s.heap σ' H locs → Dy tM kc ad2 D A s.heap τ' H locs → Inv σ' τ' → W p l e room_1 s m #[Value.ref b] below meth c H locs cells' slots' Q (F0 m 2123 ls [])) : W p l e room_1 s m #[Value.ref b] below meth c H locs cells slots Q (F0 m 831 ls []) := by
  obtain ⟨r, σ', τ', hc, hm, hI⟩ := hs σ τ hI0
  unfold cC_14 at hc
  unfold cM_14 at hm
  have hcs0 : cells ≤ room_1.cells ∧ slots ≤ room_1.slots := ⟨by omega, by omega⟩
  refine lv_aload_n C.1.1 C.1.2.1 dL_law_831 rfl (lv_at hl 1 rfl) ?_
  refine lv_aload_n C.1.1 C.1.2.1 dL_law_832 rfl (lv_at hl 0 rfl) ?_
  refine lv_iload_n C.1.1 C.1.2.1 dL_law_833 rfl (lv_at hl 3 rfl) ?_
  refine lv_iconst (v := 1) C.1.1 C.1.2.1 dL_law_834 (by decide) ?_
  refine lv_iadd C.1.1 C.1.2.1 dL_law_835 ?_
  refine va_sld C.1.1 C.1.2.1 hX hbl hbA Z1.2.2 (hv 1 (by decide)) dL_law_836 ?_
  refine g_call2 (ov := (some (.int r))) (σ' := σ') (eC_ok adK adV) C Z1 Z2 hdj (eC_at C Z1) (k_X10_end hc) lk_L_77 (by decide) rfl rfl hl ⟨rfl, rfl, by decide, by decide⟩ hcs0 rfl (Nat.le_of_ble_eq_true rfl) (rest := []) rfl dL_law_837 (fun H locs Z1 Z2 => ?_)
  refine lv_aload_n C.1.1 C.1.2.1 dL_law_840 rfl (lv_at hl 2 rfl) ?_
  refine lv_aload_n C.1.1 C.1.2.1 dL_law_841 rfl (lv_at hl 0 rfl) ?_
  refine lv_iload_n C.1.1 C.1.2.1 dL_law_842 rfl (lv_at hl 3 rfl) ?_
  refine lv_iconst (v := 1) C.1.1 C.1.2.1 dL_law_843 (by decide) ?_
  refine lv_iadd C.1.1 C.1.2.1 dL_law_844 ?_
  refine va_sld C.1.1 C.1.2.1 hX hbl hbA Z1.2.2 (hv 1 (by decide)) dL_law_845 ?_
  refine g_call2 (ov := (some (.int r))) (σ' := τ') eM_ok C Z2 Z1 (fun i hi j hj e => hdj j hj i hi e.symm) (fun _ _ _ => trivial) (k_X11_end hm) lk_L_80 (by decide) rfl rfl hl ⟨rfl, rfl, by decide, by decide⟩ hcs0 rfl (Nat.le_of_ble_eq_true rfl) (rest := [.int r]) rfl dL_law_846 (fun H locs Z2 Z1 => ?_)
  refine lv_icmp_eq (tgt := 2123) C.1.1 C.1.2.1 dL_law_849 (by decide) (fun _ => ?_) (fun z => absurd rfl z)
  exact hn ad _ _ _ _ _ _ (Nat.le_succ _) (Nat.le_add_right _ _) rfl hdj Z1 Z2 hI
set_option maxRecDepth 20000 in
theorem lw_case_15 {p : Program} {l : Launch} {e : Env} {s : State} {m : MethodId} {below : List Frame} {meth : Method} {c : Code} {Q : State → Prop} {D : va_G} {kc : Nat → ClassId} {ad ad2 : Nat → Nat} {A : Nat → Prop} {adK adV : Nat → Nat} {b L : Nat} {xs : Nat → Int32} {H : Heap} {locs : List Loc} {cells slots : Nat} {ls : Array Slot} {x3 : Int32} {σ τ : St} {Inv : St → St → Prop} (C : Cx (eC adK adV) p s m #[Value.ref b] c cL_law 4 RL D kc A) (hX : va_X b L xs s s.heap) (hbl : b < s.heap.size) (hbA : ¬ A b) (hv : ∀ k : Nat, k < 7 → vp_in (x3 + nI k) L) (hs : SimI Inv (cC_15 (xs (x3 + 1).toNatClampNeg) (xs (x3 + 2).toNatClampNeg)) (cM_15 (xs (x3 + 1).toNatClampNeg) (xs (x3 + 2).toNatClampNeg))) (Z1 : Dy tC kc ad D A s.heap σ H locs) (Z2 : Dy tM kc ad2 D A s.heap τ H locs) (hdj : ∀ i, i < tC.1 → ∀ j, j < tM.1 → ad i ≠ ad2 j) (hI0 : Inv σ τ) (hcs : cells + 1 ≤ room_1.cells ∧ slots + 5300 ≤ room_1.slots) (hl : lv_has ls 4 [(0, .ref b), (1, .ref (ad 0)), (2, .ref (ad2 0)), (3, .int x3)]) (hn : ∀ (ad' : Nat → Nat) (σ' τ' : St) (H : Heap) (locs : List Loc) (cells' slots' : Nat), cells' ≤ cells + 1 → slots' ≤ slots + 5300 → ad' 0 = ad 0 → (∀ i, i < tC.1 → ∀ j, j < tM.1 → ad' i ≠ ad2 j) → Dy tC kc ad' D A s.heap σ' H locs → Dy tM kc ad2 D A s.heap τ' H locs → Inv σ' τ' → W p l e room_1 s m #[Value.ref b] below meth c H locs cells' slots' Q (F0 m 2123 ls [])) : W p l e room_1 s m #[Value.ref b] below meth c H locs cells slots Q (F0 m 854 ls []) := by
  obtain ⟨r, σ', τ', hc, hm, hI⟩ := hs σ τ hI0
  unfold cC_15 at hc
  unfold cM_15 at hm
  have hcs0 : cells ≤ room_1.cells ∧ slots ≤ room_1.slots := ⟨by omega, by omega⟩
  have hcs1 : cells + 1 ≤ room_1.cells ∧ slots + 5300 ≤ room_1.slots := hcs
  refine lv_aload_n C.1.1 C.1.2.1 dL_law_854 rfl (lv_at hl 1 rfl) ?_
  refine lv_aload_n C.1.1 C.1.2.1 dL_law_855 rfl (lv_at hl 0 rfl) ?_
  refine lv_iload_n C.1.1 C.1.2.1 dL_law_856 rfl (lv_at hl 3 rfl) ?_
  refine lv_iconst (v := 1) C.1.1 C.1.2.1 dL_law_857 (by decide) ?_
  refine lv_iadd C.1.1 C.1.2.1 dL_law_858 ?_
  refine va_sld C.1.1 C.1.2.1 hX hbl hbA Z1.2.2 (hv 1 (by decide)) dL_law_859 ?_
  refine lv_aload_n C.1.1 C.1.2.1 dL_law_860 rfl (lv_at hl 0 rfl) ?_
  refine lv_iload_n C.1.1 C.1.2.1 dL_law_861 rfl (lv_at hl 3 rfl) ?_
  refine lv_iconst (v := 2) C.1.1 C.1.2.1 dL_law_862 (by decide) ?_
  refine lv_iadd C.1.1 C.1.2.1 dL_law_863 ?_
  refine va_sld C.1.1 C.1.2.1 hX hbl hbA Z1.2.2 (hv 2 (by decide)) dL_law_864 ?_
  refine g_call2G (ov := (some (.int r))) C Z1 Z2 hdj (k_X10_statute hc) lk_L_81 (by decide) rfl rfl hl ⟨rfl, rfl, by decide, by decide⟩ ⟨hcs.1, hcs.2⟩ rfl (Nat.le_of_ble_eq_true rfl) (rest := []) rfl dL_law_865 (fun q H locs Z1 Z2 hdj => ?_)
  refine lv_aload_n C.1.1 C.1.2.1 dL_law_868 rfl (lv_at hl 2 rfl) ?_
  refine lv_aload_n C.1.1 C.1.2.1 dL_law_869 rfl (lv_at hl 0 rfl) ?_
  refine lv_iload_n C.1.1 C.1.2.1 dL_law_870 rfl (lv_at hl 3 rfl) ?_
  refine lv_iconst (v := 1) C.1.1 C.1.2.1 dL_law_871 (by decide) ?_
  refine lv_iadd C.1.1 C.1.2.1 dL_law_872 ?_
  refine va_sld C.1.1 C.1.2.1 hX hbl hbA Z1.2.2 (hv 1 (by decide)) dL_law_873 ?_
  refine lv_aload_n C.1.1 C.1.2.1 dL_law_874 rfl (lv_at hl 0 rfl) ?_
  refine lv_iload_n C.1.1 C.1.2.1 dL_law_875 rfl (lv_at hl 3 rfl) ?_
  refine lv_iconst (v := 2) C.1.1 C.1.2.1 dL_law_876 (by decide) ?_
  refine lv_iadd C.1.1 C.1.2.1 dL_law_877 ?_
  refine va_sld C.1.1 C.1.2.1 hX hbl hbA Z1.2.2 (hv 2 (by decide)) dL_law_878 ?_
  refine g_call2 (ov := (some (.int r))) (σ' := τ') eM_ok C Z2 Z1 (fun i hi j hj e => hdj j hj i hi e.symm) (fun _ _ _ => trivial) (k_X11_statute hm) lk_L_84 (by decide) rfl rfl hl ⟨rfl, rfl, by decide, by decide⟩ hcs1 rfl (Nat.le_of_ble_eq_true rfl) (rest := [.int r]) rfl dL_law_879 (fun H locs Z2 Z1 => ?_)
  refine lv_icmp_eq (tgt := 2123) C.1.1 C.1.2.1 dL_law_882 (by decide) (fun _ => ?_) (fun z => absurd rfl z)
  exact hn (va_up ad 37 q) σ' τ' _ _ _ _ (Nat.le_refl _) (Nat.le_refl _) (upne (by decide)) hdj Z1 Z2 hI
set_option maxRecDepth 20000 in
theorem lw_case_16 {p : Program} {l : Launch} {e : Env} {s : State} {m : MethodId} {below : List Frame} {meth : Method} {c : Code} {Q : State → Prop} {D : va_G} {kc : Nat → ClassId} {ad ad2 : Nat → Nat} {A : Nat → Prop} {adK adV : Nat → Nat} {b L : Nat} {xs : Nat → Int32} {H : Heap} {locs : List Loc} {cells slots : Nat} {ls : Array Slot} {x3 : Int32} {σ τ : St} {Inv : St → St → Prop} (C : Cx (eC adK adV) p s m #[Value.ref b] c cL_law 4 RL D kc A) (hX : va_X b L xs s s.heap) (hbl : b < s.heap.size) (hbA : ¬ A b) (hv : ∀ k : Nat, k < 7 → vp_in (x3 + nI k) L) (hs : SimI Inv (cC_16 (xs (x3 + 1).toNatClampNeg) (xs (x3 + 2).toNatClampNeg)) (cM_16 (xs (x3 + 1).toNatClampNeg) (xs (x3 + 2).toNatClampNeg))) (Z1 : Dy tC kc ad D A s.heap σ H locs) (Z2 : Dy tM kc ad2 D A s.heap τ H locs) (hdj : ∀ i, i < tC.1 → ∀ j, j < tM.1 → ad i ≠ ad2 j) (hI0 : Inv σ τ) (hcs : cells + 1 ≤ room_1.cells ∧ slots + 5300 ≤ room_1.slots) (hl : lv_has ls 4 [(0, .ref b), (1, .ref (ad 0)), (2, .ref (ad2 0)), (3, .int x3)]) (hn : ∀ (ad' : Nat → Nat) (σ' τ' : St) (H : Heap) (locs : List Loc) (cells' slots' : Nat), cells' ≤ cells + 1 → slots' ≤ slots + 5300 → ad' 0 = ad 0 → (∀ i, i < tC.1 → ∀ j, j < tM.1 → ad' i ≠ ad2 j) → Dy tC kc ad' D A s.heap σ' H locs → Dy tM kc ad2 D A s.heap τ' H locs → Inv σ' τ' → W p l e room_1 s m #[Value.ref b] below meth c H locs cells' slots' Q (F0 m 2123 ls [])) : W p l e room_1 s m #[Value.ref b] below meth c H locs cells slots Q (F0 m 887 ls []) := by
  obtain ⟨r, σ', τ', hc, hm, hI⟩ := hs σ τ hI0
  unfold cC_16 at hc
  unfold cM_16 at hm
  have hc := mapO hc
  have ehc := hc.2
  subst ehc
  have hm := mapO hm
  have ehm := hm.2
  subst ehm
  have hcs0 : cells ≤ room_1.cells ∧ slots ≤ room_1.slots := ⟨by omega, by omega⟩
  refine lv_aload_n C.1.1 C.1.2.1 dL_law_887 rfl (lv_at hl 1 rfl) ?_
  refine lv_aload_n C.1.1 C.1.2.1 dL_law_888 rfl (lv_at hl 0 rfl) ?_
  refine lv_iload_n C.1.1 C.1.2.1 dL_law_889 rfl (lv_at hl 3 rfl) ?_
  refine lv_iconst (v := 1) C.1.1 C.1.2.1 dL_law_890 (by decide) ?_
  refine lv_iadd C.1.1 C.1.2.1 dL_law_891 ?_
  refine va_sld C.1.1 C.1.2.1 hX hbl hbA Z1.2.2 (hv 1 (by decide)) dL_law_892 ?_
  refine lv_aload_n C.1.1 C.1.2.1 dL_law_893 rfl (lv_at hl 0 rfl) ?_
  refine lv_iload_n C.1.1 C.1.2.1 dL_law_894 rfl (lv_at hl 3 rfl) ?_
  refine lv_iconst (v := 2) C.1.1 C.1.2.1 dL_law_895 (by decide) ?_
  refine lv_iadd C.1.1 C.1.2.1 dL_law_896 ?_
  refine va_sld C.1.1 C.1.2.1 hX hbl hbA Z1.2.2 (hv 2 (by decide)) dL_law_897 ?_
  refine g_call2 (ov := (some (.int r))) (σ' := σ') (eC_ok adK adV) C Z1 Z2 hdj (eC_at C Z1) (k_X10_inForce hc.1) lk_L_85 (by decide) rfl rfl hl ⟨rfl, rfl, by decide, by decide⟩ hcs0 rfl (Nat.le_of_ble_eq_true rfl) (rest := []) rfl dL_law_898 (fun H locs Z1 Z2 => ?_)
  refine lv_aload_n C.1.1 C.1.2.1 dL_law_901 rfl (lv_at hl 2 rfl) ?_
  refine lv_aload_n C.1.1 C.1.2.1 dL_law_902 rfl (lv_at hl 0 rfl) ?_
  refine lv_iload_n C.1.1 C.1.2.1 dL_law_903 rfl (lv_at hl 3 rfl) ?_
  refine lv_iconst (v := 1) C.1.1 C.1.2.1 dL_law_904 (by decide) ?_
  refine lv_iadd C.1.1 C.1.2.1 dL_law_905 ?_
  refine va_sld C.1.1 C.1.2.1 hX hbl hbA Z1.2.2 (hv 1 (by decide)) dL_law_906 ?_
  refine lv_aload_n C.1.1 C.1.2.1 dL_law_907 rfl (lv_at hl 0 rfl) ?_
  refine lv_iload_n C.1.1 C.1.2.1 dL_law_908 rfl (lv_at hl 3 rfl) ?_
  refine lv_iconst (v := 2) C.1.1 C.1.2.1 dL_law_909 (by decide) ?_
  refine lv_iadd C.1.1 C.1.2.1 dL_law_910 ?_
  refine va_sld C.1.1 C.1.2.1 hX hbl hbA Z1.2.2 (hv 2 (by decide)) dL_law_911 ?_
  refine g_call2 (ov := (some (.int r))) (σ' := τ') eM_ok C Z2 Z1 (fun i hi j hj e => hdj j hj i hi e.symm) (fun _ _ _ => trivial) (k_X11_inForce hm.1) lk_L_88 (by decide) rfl rfl hl ⟨rfl, rfl, by decide, by decide⟩ hcs0 rfl (Nat.le_of_ble_eq_true rfl) (rest := [.int r]) rfl dL_law_912 (fun H locs Z2 Z1 => ?_)
  refine lv_icmp_eq (tgt := 2123) C.1.1 C.1.2.1 dL_law_915 (by decide) (fun _ => ?_) (fun z => absurd rfl z)
  exact hn ad _ _ _ _ _ _ (Nat.le_succ _) (Nat.le_add_right _ _) rfl hdj Z1 Z2 hI
set_option maxRecDepth 20000 in
theorem lw_case_17 {p : Program} {l : Launch} {e : Env} {s : State} {m : MethodId} {below : List Frame} {meth : Method} {c : Code} {Q : State → Prop} {D : va_G} {kc : Nat → ClassId} {ad ad2 : Nat → Nat} {A : Nat → Prop} {adK adV : Nat → Nat} {b L : Nat} {xs : Nat → Int32} {H : Heap} {locs : List Loc} {cells slots : Nat} {ls : Array Slot} {x3 : Int32} {σ τ : St} {Inv : St → St → Prop} (C : Cx (eC adK adV) p s m #[Value.ref b] c cL_law 4 RL D kc A) (hX : va_X b L xs s s.heap) (hbl : b < s.heap.size) (hbA : ¬ A b) (hv : ∀ k : Nat, k < 7 → vp_in (x3 + nI k) L) (hs : SimI Inv (cC_17 (xs (x3 + 1).toNatClampNeg) (xs (x3 + 2).toNatClampNeg) (xs (x3 + 3).toNatClampNeg) (xs (x3 + 4).toNatClampNeg) (xs (x3 + 5).toNatClampNeg) (xs (x3 + 6).toNatClampNeg)) (cM_17 (xs (x3 + 1).toNatClampNeg) (xs (x3 + 2).toNatClampNeg) (xs (x3 + 3).toNatClampNeg) (xs (x3 + 4).toNatClampNeg) (xs (x3 + 5).toNatClampNeg) (xs (x3 + 6).toNatClampNeg))) (Z1 : Dy tC kc ad D A s.heap σ H locs) (Z2 : Dy tM kc ad2 D A s.heap τ H locs) (hdj : ∀ i, i < tC.1 → ∀ j, j < tM.1 → ad i ≠ ad2 j) (hI0 : Inv σ τ) (hcs : cells + 1 ≤ room_1.cells ∧ slots + 5300 ≤ room_1.slots) (hl : lv_has ls 4 [(0, .ref b), (1, .ref (ad 0)), (2, .ref (ad2 0)), (3, .int x3)]) (hn : ∀ (ad' : Nat → Nat) (σ' τ' : St) (H : Heap) (locs : List Loc) (cells' slots' : Nat), cells' ≤ cells + 1 → slots' ≤ slots + 5300 → ad' 0 = ad 0 → (∀ i, i < tC.1 → ∀ j, j < tM.1 → ad' i ≠ ad2 j) → Dy tC kc ad' D A s.heap σ' H locs → Dy tM kc ad2 D A s.heap τ' H locs → Inv σ' τ' → W p l e room_1 s m #[Value.ref b] below meth c H locs cells' slots' Q (F0 m 2123 ls [])) : W p l e room_1 s m #[Value.ref b] below meth c H locs cells slots Q (F0 m 920 ls []) := by
  obtain ⟨r, σ', τ', hc, hm, hI⟩ := hs σ τ hI0
  unfold cC_17 at hc
  unfold cM_17 at hm
  have hcs0 : cells ≤ room_1.cells ∧ slots ≤ room_1.slots := ⟨by omega, by omega⟩
  refine lv_aload_n C.1.1 C.1.2.1 dL_law_920 rfl (lv_at hl 1 rfl) ?_
  refine lv_aload_n C.1.1 C.1.2.1 dL_law_921 rfl (lv_at hl 0 rfl) ?_
  refine lv_iload_n C.1.1 C.1.2.1 dL_law_922 rfl (lv_at hl 3 rfl) ?_
  refine lv_iconst (v := 1) C.1.1 C.1.2.1 dL_law_923 (by decide) ?_
  refine lv_iadd C.1.1 C.1.2.1 dL_law_924 ?_
  refine va_sld C.1.1 C.1.2.1 hX hbl hbA Z1.2.2 (hv 1 (by decide)) dL_law_925 ?_
  refine lv_aload_n C.1.1 C.1.2.1 dL_law_926 rfl (lv_at hl 0 rfl) ?_
  refine lv_iload_n C.1.1 C.1.2.1 dL_law_927 rfl (lv_at hl 3 rfl) ?_
  refine lv_iconst (v := 2) C.1.1 C.1.2.1 dL_law_928 (by decide) ?_
  refine lv_iadd C.1.1 C.1.2.1 dL_law_929 ?_
  refine va_sld C.1.1 C.1.2.1 hX hbl hbA Z1.2.2 (hv 2 (by decide)) dL_law_930 ?_
  refine lv_aload_n C.1.1 C.1.2.1 dL_law_931 rfl (lv_at hl 0 rfl) ?_
  refine lv_iload_n C.1.1 C.1.2.1 dL_law_932 rfl (lv_at hl 3 rfl) ?_
  refine lv_iconst (v := 3) C.1.1 C.1.2.1 dL_law_933 (by decide) ?_
  refine lv_iadd C.1.1 C.1.2.1 dL_law_934 ?_
  refine va_sld C.1.1 C.1.2.1 hX hbl hbA Z1.2.2 (hv 3 (by decide)) dL_law_935 ?_
  refine lv_aload_n C.1.1 C.1.2.1 dL_law_936 rfl (lv_at hl 0 rfl) ?_
  refine lv_iload_n C.1.1 C.1.2.1 dL_law_937 rfl (lv_at hl 3 rfl) ?_
  refine lv_iconst (v := 4) C.1.1 C.1.2.1 dL_law_938 (by decide) ?_
  refine lv_iadd C.1.1 C.1.2.1 dL_law_939 ?_
  refine va_sld C.1.1 C.1.2.1 hX hbl hbA Z1.2.2 (hv 4 (by decide)) dL_law_940 ?_
  refine lv_aload_n C.1.1 C.1.2.1 dL_law_941 rfl (lv_at hl 0 rfl) ?_
  refine lv_iload_n C.1.1 C.1.2.1 dL_law_942 rfl (lv_at hl 3 rfl) ?_
  refine lv_iconst (v := 5) C.1.1 C.1.2.1 dL_law_943 (by decide) ?_
  refine lv_iadd C.1.1 C.1.2.1 dL_law_944 ?_
  refine va_sld C.1.1 C.1.2.1 hX hbl hbA Z1.2.2 (hv 5 (by decide)) dL_law_945 ?_
  refine lv_aload_n C.1.1 C.1.2.1 dL_law_946 rfl (lv_at hl 0 rfl) ?_
  refine lv_iload_n C.1.1 C.1.2.1 dL_law_947 rfl (lv_at hl 3 rfl) ?_
  refine lv_bipush (v := 6) C.1.1 C.1.2.1 dL_law_948 (by decide) ?_
  refine lv_iadd C.1.1 C.1.2.1 dL_law_950 ?_
  refine va_sld C.1.1 C.1.2.1 hX hbl hbA Z1.2.2 (hv 6 (by decide)) dL_law_951 ?_
  refine g_call2 (ov := (some (.int r))) (σ' := σ') (eC_ok adK adV) C Z1 Z2 hdj (eC_at C Z1) (k_X10_may hc) lk_L_89 (by decide) rfl rfl hl ⟨rfl, rfl, by decide, by decide⟩ hcs0 rfl (Nat.le_of_ble_eq_true rfl) (rest := []) rfl dL_law_952 (fun H locs Z1 Z2 => ?_)
  refine lv_aload_n C.1.1 C.1.2.1 dL_law_955 rfl (lv_at hl 2 rfl) ?_
  refine lv_aload_n C.1.1 C.1.2.1 dL_law_956 rfl (lv_at hl 0 rfl) ?_
  refine lv_iload_n C.1.1 C.1.2.1 dL_law_957 rfl (lv_at hl 3 rfl) ?_
  refine lv_iconst (v := 1) C.1.1 C.1.2.1 dL_law_958 (by decide) ?_
  refine lv_iadd C.1.1 C.1.2.1 dL_law_959 ?_
  refine va_sld C.1.1 C.1.2.1 hX hbl hbA Z1.2.2 (hv 1 (by decide)) dL_law_960 ?_
  refine lv_aload_n C.1.1 C.1.2.1 dL_law_961 rfl (lv_at hl 0 rfl) ?_
  refine lv_iload_n C.1.1 C.1.2.1 dL_law_962 rfl (lv_at hl 3 rfl) ?_
  refine lv_iconst (v := 2) C.1.1 C.1.2.1 dL_law_963 (by decide) ?_
  refine lv_iadd C.1.1 C.1.2.1 dL_law_964 ?_
  refine va_sld C.1.1 C.1.2.1 hX hbl hbA Z1.2.2 (hv 2 (by decide)) dL_law_965 ?_
  refine lv_aload_n C.1.1 C.1.2.1 dL_law_966 rfl (lv_at hl 0 rfl) ?_
  refine lv_iload_n C.1.1 C.1.2.1 dL_law_967 rfl (lv_at hl 3 rfl) ?_
  refine lv_iconst (v := 3) C.1.1 C.1.2.1 dL_law_968 (by decide) ?_
  refine lv_iadd C.1.1 C.1.2.1 dL_law_969 ?_
  refine va_sld C.1.1 C.1.2.1 hX hbl hbA Z1.2.2 (hv 3 (by decide)) dL_law_970 ?_
  refine lv_aload_n C.1.1 C.1.2.1 dL_law_971 rfl (lv_at hl 0 rfl) ?_
  refine lv_iload_n C.1.1 C.1.2.1 dL_law_972 rfl (lv_at hl 3 rfl) ?_
  refine lv_iconst (v := 4) C.1.1 C.1.2.1 dL_law_973 (by decide) ?_
  refine lv_iadd C.1.1 C.1.2.1 dL_law_974 ?_
  refine va_sld C.1.1 C.1.2.1 hX hbl hbA Z1.2.2 (hv 4 (by decide)) dL_law_975 ?_
  refine lv_aload_n C.1.1 C.1.2.1 dL_law_976 rfl (lv_at hl 0 rfl) ?_
  refine lv_iload_n C.1.1 C.1.2.1 dL_law_977 rfl (lv_at hl 3 rfl) ?_
  refine lv_iconst (v := 5) C.1.1 C.1.2.1 dL_law_978 (by decide) ?_
  refine lv_iadd C.1.1 C.1.2.1 dL_law_979 ?_
  refine va_sld C.1.1 C.1.2.1 hX hbl hbA Z1.2.2 (hv 5 (by decide)) dL_law_980 ?_
  refine lv_aload_n C.1.1 C.1.2.1 dL_law_981 rfl (lv_at hl 0 rfl) ?_
  refine lv_iload_n C.1.1 C.1.2.1 dL_law_982 rfl (lv_at hl 3 rfl) ?_
  refine lv_bipush (v := 6) C.1.1 C.1.2.1 dL_law_983 (by decide) ?_
  refine lv_iadd C.1.1 C.1.2.1 dL_law_985 ?_
  refine va_sld C.1.1 C.1.2.1 hX hbl hbA Z1.2.2 (hv 6 (by decide)) dL_law_986 ?_
  refine g_call2 (ov := (some (.int r))) (σ' := τ') eM_ok C Z2 Z1 (fun i hi j hj e => hdj j hj i hi e.symm) (fun _ _ _ => trivial) (k_X11_may hm) lk_L_93 (by decide) rfl rfl hl ⟨rfl, rfl, by decide, by decide⟩ hcs0 rfl (Nat.le_of_ble_eq_true rfl) (rest := [.int r]) rfl dL_law_987 (fun H locs Z2 Z1 => ?_)
  refine lv_icmp_eq (tgt := 2123) C.1.1 C.1.2.1 dL_law_990 (by decide) (fun _ => ?_) (fun z => absurd rfl z)
  exact hn ad _ _ _ _ _ _ (Nat.le_succ _) (Nat.le_add_right _ _) rfl hdj Z1 Z2 hI
set_option maxRecDepth 20000 in
theorem lw_case_18 {p : Program} {l : Launch} {e : Env} {s : State} {m : MethodId} {below : List Frame} {meth : Method} {c : Code} {Q : State → Prop} {D : va_G} {kc : Nat → ClassId} {ad ad2 : Nat → Nat} {A : Nat → Prop} {adK adV : Nat → Nat} {b L : Nat} {xs : Nat → Int32} {H : Heap} {locs : List Loc} {cells slots : Nat} {ls : Array Slot} {x3 : Int32} {σ τ : St} {Inv : St → St → Prop} (C : Cx (eC adK adV) p s m #[Value.ref b] c cL_law 4 RL D kc A) (hX : va_X b L xs s s.heap) (hbl : b < s.heap.size) (hbA : ¬ A b) (hv : ∀ k : Nat, k < 7 → vp_in (x3 + nI k) L) (hs : SimL Inv (cC_18 (xs (x3 + 1).toNatClampNeg) (xs (x3 + 2).toNatClampNeg) (xs (x3 + 3).toNatClampNeg) (xs (x3 + 4).toNatClampNeg) (xs (x3 + 5).toNatClampNeg)) (cM_18 (xs (x3 + 1).toNatClampNeg) (xs (x3 + 2).toNatClampNeg) (xs (x3 + 3).toNatClampNeg) (xs (x3 + 4).toNatClampNeg) (xs (x3 + 5).toNatClampNeg))) (Z1 : Dy tC kc ad D A s.heap σ H locs) (Z2 : Dy tM kc ad2 D A s.heap τ H locs) (hdj : ∀ i, i < tC.1 → ∀ j, j < tM.1 → ad i ≠ ad2 j) (hI0 : Inv σ τ) (hcs : cells + 1 ≤ room_1.cells ∧ slots + 5300 ≤ room_1.slots) (hl : lv_has ls 4 [(0, .ref b), (1, .ref (ad 0)), (2, .ref (ad2 0)), (3, .int x3)]) (hn : ∀ (ad' : Nat → Nat) (σ' τ' : St) (H : Heap) (locs : List Loc) (cells' slots' : Nat), cells' ≤ cells + 1 → slots' ≤ slots + 5300 → ad' 0 = ad 0 → (∀ i, i < tC.1 → ∀ j, j < tM.1 → ad' i ≠ ad2 j) → Dy tC kc ad' D A s.heap σ' H locs → Dy tM kc ad2 D A s.heap τ' H locs → Inv σ' τ' → W p l e room_1 s m #[Value.ref b] below meth c H locs cells' slots' Q (F0 m 2123 ls [])) : W p l e room_1 s m #[Value.ref b] below meth c H locs cells slots Q (F0 m 995 ls []) := by
  obtain ⟨r, σ', τ', hc, hm, hI⟩ := hs σ τ hI0
  unfold cC_18 at hc
  unfold cM_18 at hm
  have hcs0 : cells ≤ room_1.cells ∧ slots ≤ room_1.slots := ⟨by omega, by omega⟩
  refine lv_aload_n C.1.1 C.1.2.1 dL_law_995 rfl (lv_at hl 1 rfl) ?_
  refine lv_aload_n C.1.1 C.1.2.1 dL_law_996 rfl (lv_at hl 0 rfl) ?_
  refine lv_iload_n C.1.1 C.1.2.1 dL_law_997 rfl (lv_at hl 3 rfl) ?_
  refine lv_iconst (v := 1) C.1.1 C.1.2.1 dL_law_998 (by decide) ?_
  refine lv_iadd C.1.1 C.1.2.1 dL_law_999 ?_
  refine va_sld C.1.1 C.1.2.1 hX hbl hbA Z1.2.2 (hv 1 (by decide)) dL_law_1000 ?_
  refine lv_aload_n C.1.1 C.1.2.1 dL_law_1001 rfl (lv_at hl 0 rfl) ?_
  refine lv_iload_n C.1.1 C.1.2.1 dL_law_1002 rfl (lv_at hl 3 rfl) ?_
  refine lv_iconst (v := 2) C.1.1 C.1.2.1 dL_law_1003 (by decide) ?_
  refine lv_iadd C.1.1 C.1.2.1 dL_law_1004 ?_
  refine va_sld C.1.1 C.1.2.1 hX hbl hbA Z1.2.2 (hv 2 (by decide)) dL_law_1005 ?_
  refine lv_aload_n C.1.1 C.1.2.1 dL_law_1006 rfl (lv_at hl 0 rfl) ?_
  refine lv_iload_n C.1.1 C.1.2.1 dL_law_1007 rfl (lv_at hl 3 rfl) ?_
  refine lv_iconst (v := 3) C.1.1 C.1.2.1 dL_law_1008 (by decide) ?_
  refine lv_iadd C.1.1 C.1.2.1 dL_law_1009 ?_
  refine va_sld C.1.1 C.1.2.1 hX hbl hbA Z1.2.2 (hv 3 (by decide)) dL_law_1010 ?_
  refine lv_aload_n C.1.1 C.1.2.1 dL_law_1011 rfl (lv_at hl 0 rfl) ?_
  refine lv_iload_n C.1.1 C.1.2.1 dL_law_1012 rfl (lv_at hl 3 rfl) ?_
  refine lv_iconst (v := 4) C.1.1 C.1.2.1 dL_law_1013 (by decide) ?_
  refine lv_iadd C.1.1 C.1.2.1 dL_law_1014 ?_
  refine va_sld C.1.1 C.1.2.1 hX hbl hbA Z1.2.2 (hv 4 (by decide)) dL_law_1015 ?_
  refine lv_aload_n C.1.1 C.1.2.1 dL_law_1016 rfl (lv_at hl 0 rfl) ?_
  refine lv_iload_n C.1.1 C.1.2.1 dL_law_1017 rfl (lv_at hl 3 rfl) ?_
  refine lv_iconst (v := 5) C.1.1 C.1.2.1 dL_law_1018 (by decide) ?_
  refine lv_iadd C.1.1 C.1.2.1 dL_law_1019 ?_
  refine va_sld C.1.1 C.1.2.1 hX hbl hbA Z1.2.2 (hv 5 (by decide)) dL_law_1020 ?_
  refine g_call2 (ov := (some (.long r))) (σ' := σ') (eC_ok adK adV) C Z1 Z2 hdj (eC_at C Z1) (k_X10_mesh hc) lk_L_94 (by decide) rfl rfl hl ⟨rfl, rfl, by decide, by decide⟩ hcs0 rfl (Nat.le_of_ble_eq_true rfl) (rest := []) rfl dL_law_1021 (fun H locs Z1 Z2 => ?_)
  refine lv_aload_n C.1.1 C.1.2.1 dL_law_1024 rfl (lv_at hl 2 rfl) ?_
  refine lv_aload_n C.1.1 C.1.2.1 dL_law_1025 rfl (lv_at hl 0 rfl) ?_
  refine lv_iload_n C.1.1 C.1.2.1 dL_law_1026 rfl (lv_at hl 3 rfl) ?_
  refine lv_iconst (v := 1) C.1.1 C.1.2.1 dL_law_1027 (by decide) ?_
  refine lv_iadd C.1.1 C.1.2.1 dL_law_1028 ?_
  refine va_sld C.1.1 C.1.2.1 hX hbl hbA Z1.2.2 (hv 1 (by decide)) dL_law_1029 ?_
  refine lv_aload_n C.1.1 C.1.2.1 dL_law_1030 rfl (lv_at hl 0 rfl) ?_
  refine lv_iload_n C.1.1 C.1.2.1 dL_law_1031 rfl (lv_at hl 3 rfl) ?_
  refine lv_iconst (v := 2) C.1.1 C.1.2.1 dL_law_1032 (by decide) ?_
  refine lv_iadd C.1.1 C.1.2.1 dL_law_1033 ?_
  refine va_sld C.1.1 C.1.2.1 hX hbl hbA Z1.2.2 (hv 2 (by decide)) dL_law_1034 ?_
  refine lv_aload_n C.1.1 C.1.2.1 dL_law_1035 rfl (lv_at hl 0 rfl) ?_
  refine lv_iload_n C.1.1 C.1.2.1 dL_law_1036 rfl (lv_at hl 3 rfl) ?_
  refine lv_iconst (v := 3) C.1.1 C.1.2.1 dL_law_1037 (by decide) ?_
  refine lv_iadd C.1.1 C.1.2.1 dL_law_1038 ?_
  refine va_sld C.1.1 C.1.2.1 hX hbl hbA Z1.2.2 (hv 3 (by decide)) dL_law_1039 ?_
  refine lv_aload_n C.1.1 C.1.2.1 dL_law_1040 rfl (lv_at hl 0 rfl) ?_
  refine lv_iload_n C.1.1 C.1.2.1 dL_law_1041 rfl (lv_at hl 3 rfl) ?_
  refine lv_iconst (v := 4) C.1.1 C.1.2.1 dL_law_1042 (by decide) ?_
  refine lv_iadd C.1.1 C.1.2.1 dL_law_1043 ?_
  refine va_sld C.1.1 C.1.2.1 hX hbl hbA Z1.2.2 (hv 4 (by decide)) dL_law_1044 ?_
  refine lv_aload_n C.1.1 C.1.2.1 dL_law_1045 rfl (lv_at hl 0 rfl) ?_
  refine lv_iload_n C.1.1 C.1.2.1 dL_law_1046 rfl (lv_at hl 3 rfl) ?_
  refine lv_iconst (v := 5) C.1.1 C.1.2.1 dL_law_1047 (by decide) ?_
  refine lv_iadd C.1.1 C.1.2.1 dL_law_1048 ?_
  refine va_sld C.1.1 C.1.2.1 hX hbl hbA Z1.2.2 (hv 5 (by decide)) dL_law_1049 ?_
  refine g_call2 (ov := (some (.long r))) (σ' := τ') eM_ok C Z2 Z1 (fun i hi j hj e => hdj j hj i hi e.symm) (fun _ _ _ => trivial) (k_X11_mesh hm) lk_L_98 (by decide) rfl rfl hl ⟨rfl, rfl, by decide, by decide⟩ hcs0 rfl (Nat.le_of_ble_eq_true rfl) (rest := [.long r]) rfl dL_law_1050 (fun H locs Z2 Z1 => ?_)
  refine g_leq (tgt := 2123) C.1.1 C.1.2.1 dL_law_1053 dL_law_1054 (by decide) (fun _ => ?_) (fun z => absurd rfl z)
  exact hn ad _ _ _ _ _ _ (Nat.le_succ _) (Nat.le_add_right _ _) rfl hdj Z1 Z2 hI
set_option maxRecDepth 20000 in
theorem lw_case_19 {p : Program} {l : Launch} {e : Env} {s : State} {m : MethodId} {below : List Frame} {meth : Method} {c : Code} {Q : State → Prop} {D : va_G} {kc : Nat → ClassId} {ad ad2 : Nat → Nat} {A : Nat → Prop} {adK adV : Nat → Nat} {b L : Nat} {xs : Nat → Int32} {H : Heap} {locs : List Loc} {cells slots : Nat} {ls : Array Slot} {x3 : Int32} {σ τ : St} {Inv : St → St → Prop} (C : Cx (eC adK adV) p s m #[Value.ref b] c cL_law 4 RL D kc A) (hX : va_X b L xs s s.heap) (hbl : b < s.heap.size) (hbA : ¬ A b) (hv : ∀ k : Nat, k < 7 → vp_in (x3 + nI k) L) (hs : SimI Inv (cC_19 (xs (x3 + 1).toNatClampNeg) (xs (x3 + 2).toNatClampNeg) (xs (x3 + 3).toNatClampNeg) (xs (x3 + 4).toNatClampNeg) (xs (x3 + 5).toNatClampNeg) (xs (x3 + 6).toNatClampNeg)) (cM_19 (xs (x3 + 1).toNatClampNeg) (xs (x3 + 2).toNatClampNeg) (xs (x3 + 3).toNatClampNeg) (xs (x3 + 4).toNatClampNeg) (xs (x3 + 5).toNatClampNeg) (xs (x3 + 6).toNatClampNeg))) (Z1 : Dy tC kc ad D A s.heap σ H locs) (Z2 : Dy tM kc ad2 D A s.heap τ H locs) (hdj : ∀ i, i < tC.1 → ∀ j, j < tM.1 → ad i ≠ ad2 j) (hI0 : Inv σ τ) (hcs : cells + 1 ≤ room_1.cells ∧ slots + 5300 ≤ room_1.slots) (hl : lv_has ls 4 [(0, .ref b), (1, .ref (ad 0)), (2, .ref (ad2 0)), (3, .int x3)]) (hn : ∀ (ad' : Nat → Nat) (σ' τ' : St) (H : Heap) (locs : List Loc) (cells' slots' : Nat), cells' ≤ cells + 1 → slots' ≤ slots + 5300 → ad' 0 = ad 0 → (∀ i, i < tC.1 → ∀ j, j < tM.1 → ad' i ≠ ad2 j) → Dy tC kc ad' D A s.heap σ' H locs → Dy tM kc ad2 D A s.heap τ' H locs → Inv σ' τ' → W p l e room_1 s m #[Value.ref b] below meth c H locs cells' slots' Q (F0 m 2123 ls [])) : W p l e room_1 s m #[Value.ref b] below meth c H locs cells slots Q (F0 m 1059 ls []) := by
  obtain ⟨r, σ', τ', hc, hm, hI⟩ := hs σ τ hI0
  unfold cC_19 at hc
  unfold cM_19 at hm
  have hcs0 : cells ≤ room_1.cells ∧ slots ≤ room_1.slots := ⟨by omega, by omega⟩
  refine lv_aload_n C.1.1 C.1.2.1 dL_law_1059 rfl (lv_at hl 1 rfl) ?_
  refine lv_aload_n C.1.1 C.1.2.1 dL_law_1060 rfl (lv_at hl 0 rfl) ?_
  refine lv_iload_n C.1.1 C.1.2.1 dL_law_1061 rfl (lv_at hl 3 rfl) ?_
  refine lv_iconst (v := 1) C.1.1 C.1.2.1 dL_law_1062 (by decide) ?_
  refine lv_iadd C.1.1 C.1.2.1 dL_law_1063 ?_
  refine va_sld C.1.1 C.1.2.1 hX hbl hbA Z1.2.2 (hv 1 (by decide)) dL_law_1064 ?_
  refine lv_aload_n C.1.1 C.1.2.1 dL_law_1065 rfl (lv_at hl 0 rfl) ?_
  refine lv_iload_n C.1.1 C.1.2.1 dL_law_1066 rfl (lv_at hl 3 rfl) ?_
  refine lv_iconst (v := 2) C.1.1 C.1.2.1 dL_law_1067 (by decide) ?_
  refine lv_iadd C.1.1 C.1.2.1 dL_law_1068 ?_
  refine va_sld C.1.1 C.1.2.1 hX hbl hbA Z1.2.2 (hv 2 (by decide)) dL_law_1069 ?_
  refine lv_aload_n C.1.1 C.1.2.1 dL_law_1070 rfl (lv_at hl 0 rfl) ?_
  refine lv_iload_n C.1.1 C.1.2.1 dL_law_1071 rfl (lv_at hl 3 rfl) ?_
  refine lv_iconst (v := 3) C.1.1 C.1.2.1 dL_law_1072 (by decide) ?_
  refine lv_iadd C.1.1 C.1.2.1 dL_law_1073 ?_
  refine va_sld C.1.1 C.1.2.1 hX hbl hbA Z1.2.2 (hv 3 (by decide)) dL_law_1074 ?_
  refine lv_aload_n C.1.1 C.1.2.1 dL_law_1075 rfl (lv_at hl 0 rfl) ?_
  refine lv_iload_n C.1.1 C.1.2.1 dL_law_1076 rfl (lv_at hl 3 rfl) ?_
  refine lv_iconst (v := 4) C.1.1 C.1.2.1 dL_law_1077 (by decide) ?_
  refine lv_iadd C.1.1 C.1.2.1 dL_law_1078 ?_
  refine va_sld C.1.1 C.1.2.1 hX hbl hbA Z1.2.2 (hv 4 (by decide)) dL_law_1079 ?_
  refine lv_aload_n C.1.1 C.1.2.1 dL_law_1080 rfl (lv_at hl 0 rfl) ?_
  refine lv_iload_n C.1.1 C.1.2.1 dL_law_1081 rfl (lv_at hl 3 rfl) ?_
  refine lv_iconst (v := 5) C.1.1 C.1.2.1 dL_law_1082 (by decide) ?_
  refine lv_iadd C.1.1 C.1.2.1 dL_law_1083 ?_
  refine va_sld C.1.1 C.1.2.1 hX hbl hbA Z1.2.2 (hv 5 (by decide)) dL_law_1084 ?_
  refine lv_aload_n C.1.1 C.1.2.1 dL_law_1085 rfl (lv_at hl 0 rfl) ?_
  refine lv_iload_n C.1.1 C.1.2.1 dL_law_1086 rfl (lv_at hl 3 rfl) ?_
  refine lv_bipush (v := 6) C.1.1 C.1.2.1 dL_law_1087 (by decide) ?_
  refine lv_iadd C.1.1 C.1.2.1 dL_law_1089 ?_
  refine va_sld C.1.1 C.1.2.1 hX hbl hbA Z1.2.2 (hv 6 (by decide)) dL_law_1090 ?_
  refine g_call2 (ov := (some (.int r))) (σ' := σ') (eC_ok adK adV) C Z1 Z2 hdj (eC_at C Z1) (k_X10_by hc) lk_L_99 (by decide) rfl rfl hl ⟨rfl, rfl, by decide, by decide⟩ hcs0 rfl (Nat.le_of_ble_eq_true rfl) (rest := []) rfl dL_law_1091 (fun H locs Z1 Z2 => ?_)
  refine lv_aload_n C.1.1 C.1.2.1 dL_law_1094 rfl (lv_at hl 2 rfl) ?_
  refine lv_aload_n C.1.1 C.1.2.1 dL_law_1095 rfl (lv_at hl 0 rfl) ?_
  refine lv_iload_n C.1.1 C.1.2.1 dL_law_1096 rfl (lv_at hl 3 rfl) ?_
  refine lv_iconst (v := 1) C.1.1 C.1.2.1 dL_law_1097 (by decide) ?_
  refine lv_iadd C.1.1 C.1.2.1 dL_law_1098 ?_
  refine va_sld C.1.1 C.1.2.1 hX hbl hbA Z1.2.2 (hv 1 (by decide)) dL_law_1099 ?_
  refine lv_aload_n C.1.1 C.1.2.1 dL_law_1100 rfl (lv_at hl 0 rfl) ?_
  refine lv_iload_n C.1.1 C.1.2.1 dL_law_1101 rfl (lv_at hl 3 rfl) ?_
  refine lv_iconst (v := 2) C.1.1 C.1.2.1 dL_law_1102 (by decide) ?_
  refine lv_iadd C.1.1 C.1.2.1 dL_law_1103 ?_
  refine va_sld C.1.1 C.1.2.1 hX hbl hbA Z1.2.2 (hv 2 (by decide)) dL_law_1104 ?_
  refine lv_aload_n C.1.1 C.1.2.1 dL_law_1105 rfl (lv_at hl 0 rfl) ?_
  refine lv_iload_n C.1.1 C.1.2.1 dL_law_1106 rfl (lv_at hl 3 rfl) ?_
  refine lv_iconst (v := 3) C.1.1 C.1.2.1 dL_law_1107 (by decide) ?_
  refine lv_iadd C.1.1 C.1.2.1 dL_law_1108 ?_
  refine va_sld C.1.1 C.1.2.1 hX hbl hbA Z1.2.2 (hv 3 (by decide)) dL_law_1109 ?_
  refine lv_aload_n C.1.1 C.1.2.1 dL_law_1110 rfl (lv_at hl 0 rfl) ?_
  refine lv_iload_n C.1.1 C.1.2.1 dL_law_1111 rfl (lv_at hl 3 rfl) ?_
  refine lv_iconst (v := 4) C.1.1 C.1.2.1 dL_law_1112 (by decide) ?_
  refine lv_iadd C.1.1 C.1.2.1 dL_law_1113 ?_
  refine va_sld C.1.1 C.1.2.1 hX hbl hbA Z1.2.2 (hv 4 (by decide)) dL_law_1114 ?_
  refine lv_aload_n C.1.1 C.1.2.1 dL_law_1115 rfl (lv_at hl 0 rfl) ?_
  refine lv_iload_n C.1.1 C.1.2.1 dL_law_1116 rfl (lv_at hl 3 rfl) ?_
  refine lv_iconst (v := 5) C.1.1 C.1.2.1 dL_law_1117 (by decide) ?_
  refine lv_iadd C.1.1 C.1.2.1 dL_law_1118 ?_
  refine va_sld C.1.1 C.1.2.1 hX hbl hbA Z1.2.2 (hv 5 (by decide)) dL_law_1119 ?_
  refine lv_aload_n C.1.1 C.1.2.1 dL_law_1120 rfl (lv_at hl 0 rfl) ?_
  refine lv_iload_n C.1.1 C.1.2.1 dL_law_1121 rfl (lv_at hl 3 rfl) ?_
  refine lv_bipush (v := 6) C.1.1 C.1.2.1 dL_law_1122 (by decide) ?_
  refine lv_iadd C.1.1 C.1.2.1 dL_law_1124 ?_
  refine va_sld C.1.1 C.1.2.1 hX hbl hbA Z1.2.2 (hv 6 (by decide)) dL_law_1125 ?_
  refine g_call2 (ov := (some (.int r))) (σ' := τ') eM_ok C Z2 Z1 (fun i hi j hj e => hdj j hj i hi e.symm) (fun _ _ _ => trivial) (k_X11_by hm) lk_L_102 (by decide) rfl rfl hl ⟨rfl, rfl, by decide, by decide⟩ hcs0 rfl (Nat.le_of_ble_eq_true rfl) (rest := [.int r]) rfl dL_law_1126 (fun H locs Z2 Z1 => ?_)
  refine lv_icmp_eq (tgt := 2123) C.1.1 C.1.2.1 dL_law_1129 (by decide) (fun _ => ?_) (fun z => absurd rfl z)
  exact hn ad _ _ _ _ _ _ (Nat.le_succ _) (Nat.le_add_right _ _) rfl hdj Z1 Z2 hI
set_option maxRecDepth 20000 in
theorem lw_case_20 {p : Program} {l : Launch} {e : Env} {s : State} {m : MethodId} {below : List Frame} {meth : Method} {c : Code} {Q : State → Prop} {D : va_G} {kc : Nat → ClassId} {ad ad2 : Nat → Nat} {A : Nat → Prop} {adK adV : Nat → Nat} {b L : Nat} {xs : Nat → Int32} {H : Heap} {locs : List Loc} {cells slots : Nat} {ls : Array Slot} {x3 : Int32} {σ τ : St} {Inv : St → St → Prop} (C : Cx (eC adK adV) p s m #[Value.ref b] c cL_law 4 RL D kc A) (hX : va_X b L xs s s.heap) (hbl : b < s.heap.size) (hbA : ¬ A b) (hv : ∀ k : Nat, k < 7 → vp_in (x3 + nI k) L) (hs : SimI Inv (cC_20 (xs (x3 + 1).toNatClampNeg) (xs (x3 + 2).toNatClampNeg) (xs (x3 + 3).toNatClampNeg) (xs (x3 + 4).toNatClampNeg) (xs (x3 + 5).toNatClampNeg)) (cM_20 (xs (x3 + 1).toNatClampNeg) (xs (x3 + 2).toNatClampNeg) (xs (x3 + 3).toNatClampNeg) (xs (x3 + 4).toNatClampNeg) (xs (x3 + 5).toNatClampNeg))) (Z1 : Dy tC kc ad D A s.heap σ H locs) (Z2 : Dy tM kc ad2 D A s.heap τ H locs) (hdj : ∀ i, i < tC.1 → ∀ j, j < tM.1 → ad i ≠ ad2 j) (hI0 : Inv σ τ) (hcs : cells + 1 ≤ room_1.cells ∧ slots + 5300 ≤ room_1.slots) (hl : lv_has ls 4 [(0, .ref b), (1, .ref (ad 0)), (2, .ref (ad2 0)), (3, .int x3)]) (hn : ∀ (ad' : Nat → Nat) (σ' τ' : St) (H : Heap) (locs : List Loc) (cells' slots' : Nat), cells' ≤ cells + 1 → slots' ≤ slots + 5300 → ad' 0 = ad 0 → (∀ i, i < tC.1 → ∀ j, j < tM.1 → ad' i ≠ ad2 j) → Dy tC kc ad' D A s.heap σ' H locs → Dy tM kc ad2 D A s.heap τ' H locs → Inv σ' τ' → W p l e room_1 s m #[Value.ref b] below meth c H locs cells' slots' Q (F0 m 2123 ls [])) : W p l e room_1 s m #[Value.ref b] below meth c H locs cells slots Q (F0 m 1134 ls []) := by
  obtain ⟨r, σ', τ', hc, hm, hI⟩ := hs σ τ hI0
  unfold cC_20 at hc
  unfold cM_20 at hm
  have hcs0 : cells ≤ room_1.cells ∧ slots ≤ room_1.slots := ⟨by omega, by omega⟩
  refine lv_aload_n C.1.1 C.1.2.1 dL_law_1134 rfl (lv_at hl 1 rfl) ?_
  refine lv_aload_n C.1.1 C.1.2.1 dL_law_1135 rfl (lv_at hl 0 rfl) ?_
  refine lv_iload_n C.1.1 C.1.2.1 dL_law_1136 rfl (lv_at hl 3 rfl) ?_
  refine lv_iconst (v := 1) C.1.1 C.1.2.1 dL_law_1137 (by decide) ?_
  refine lv_iadd C.1.1 C.1.2.1 dL_law_1138 ?_
  refine va_sld C.1.1 C.1.2.1 hX hbl hbA Z1.2.2 (hv 1 (by decide)) dL_law_1139 ?_
  refine lv_aload_n C.1.1 C.1.2.1 dL_law_1140 rfl (lv_at hl 0 rfl) ?_
  refine lv_iload_n C.1.1 C.1.2.1 dL_law_1141 rfl (lv_at hl 3 rfl) ?_
  refine lv_iconst (v := 2) C.1.1 C.1.2.1 dL_law_1142 (by decide) ?_
  refine lv_iadd C.1.1 C.1.2.1 dL_law_1143 ?_
  refine va_sld C.1.1 C.1.2.1 hX hbl hbA Z1.2.2 (hv 2 (by decide)) dL_law_1144 ?_
  refine lv_aload_n C.1.1 C.1.2.1 dL_law_1145 rfl (lv_at hl 0 rfl) ?_
  refine lv_iload_n C.1.1 C.1.2.1 dL_law_1146 rfl (lv_at hl 3 rfl) ?_
  refine lv_iconst (v := 3) C.1.1 C.1.2.1 dL_law_1147 (by decide) ?_
  refine lv_iadd C.1.1 C.1.2.1 dL_law_1148 ?_
  refine va_sld C.1.1 C.1.2.1 hX hbl hbA Z1.2.2 (hv 3 (by decide)) dL_law_1149 ?_
  refine lv_aload_n C.1.1 C.1.2.1 dL_law_1150 rfl (lv_at hl 0 rfl) ?_
  refine lv_iload_n C.1.1 C.1.2.1 dL_law_1151 rfl (lv_at hl 3 rfl) ?_
  refine lv_iconst (v := 4) C.1.1 C.1.2.1 dL_law_1152 (by decide) ?_
  refine lv_iadd C.1.1 C.1.2.1 dL_law_1153 ?_
  refine va_sld C.1.1 C.1.2.1 hX hbl hbA Z1.2.2 (hv 4 (by decide)) dL_law_1154 ?_
  refine lv_aload_n C.1.1 C.1.2.1 dL_law_1155 rfl (lv_at hl 0 rfl) ?_
  refine lv_iload_n C.1.1 C.1.2.1 dL_law_1156 rfl (lv_at hl 3 rfl) ?_
  refine lv_iconst (v := 5) C.1.1 C.1.2.1 dL_law_1157 (by decide) ?_
  refine lv_iadd C.1.1 C.1.2.1 dL_law_1158 ?_
  refine va_sld C.1.1 C.1.2.1 hX hbl hbA Z1.2.2 (hv 5 (by decide)) dL_law_1159 ?_
  refine g_call2 (ov := (some (.int r))) (σ' := σ') (eC_ok adK adV) C Z1 Z2 hdj (eC_at C Z1) (k_X10_act hc) lk_L_103 (by decide) rfl rfl hl ⟨rfl, rfl, by decide, by decide⟩ hcs0 rfl (Nat.le_of_ble_eq_true rfl) (rest := []) rfl dL_law_1160 (fun H locs Z1 Z2 => ?_)
  refine lv_aload_n C.1.1 C.1.2.1 dL_law_1163 rfl (lv_at hl 2 rfl) ?_
  refine lv_aload_n C.1.1 C.1.2.1 dL_law_1164 rfl (lv_at hl 0 rfl) ?_
  refine lv_iload_n C.1.1 C.1.2.1 dL_law_1165 rfl (lv_at hl 3 rfl) ?_
  refine lv_iconst (v := 1) C.1.1 C.1.2.1 dL_law_1166 (by decide) ?_
  refine lv_iadd C.1.1 C.1.2.1 dL_law_1167 ?_
  refine va_sld C.1.1 C.1.2.1 hX hbl hbA Z1.2.2 (hv 1 (by decide)) dL_law_1168 ?_
  refine lv_aload_n C.1.1 C.1.2.1 dL_law_1169 rfl (lv_at hl 0 rfl) ?_
  refine lv_iload_n C.1.1 C.1.2.1 dL_law_1170 rfl (lv_at hl 3 rfl) ?_
  refine lv_iconst (v := 2) C.1.1 C.1.2.1 dL_law_1171 (by decide) ?_
  refine lv_iadd C.1.1 C.1.2.1 dL_law_1172 ?_
  refine va_sld C.1.1 C.1.2.1 hX hbl hbA Z1.2.2 (hv 2 (by decide)) dL_law_1173 ?_
  refine lv_aload_n C.1.1 C.1.2.1 dL_law_1174 rfl (lv_at hl 0 rfl) ?_
  refine lv_iload_n C.1.1 C.1.2.1 dL_law_1175 rfl (lv_at hl 3 rfl) ?_
  refine lv_iconst (v := 3) C.1.1 C.1.2.1 dL_law_1176 (by decide) ?_
  refine lv_iadd C.1.1 C.1.2.1 dL_law_1177 ?_
  refine va_sld C.1.1 C.1.2.1 hX hbl hbA Z1.2.2 (hv 3 (by decide)) dL_law_1178 ?_
  refine lv_aload_n C.1.1 C.1.2.1 dL_law_1179 rfl (lv_at hl 0 rfl) ?_
  refine lv_iload_n C.1.1 C.1.2.1 dL_law_1180 rfl (lv_at hl 3 rfl) ?_
  refine lv_iconst (v := 4) C.1.1 C.1.2.1 dL_law_1181 (by decide) ?_
  refine lv_iadd C.1.1 C.1.2.1 dL_law_1182 ?_
  refine va_sld C.1.1 C.1.2.1 hX hbl hbA Z1.2.2 (hv 4 (by decide)) dL_law_1183 ?_
  refine lv_aload_n C.1.1 C.1.2.1 dL_law_1184 rfl (lv_at hl 0 rfl) ?_
  refine lv_iload_n C.1.1 C.1.2.1 dL_law_1185 rfl (lv_at hl 3 rfl) ?_
  refine lv_iconst (v := 5) C.1.1 C.1.2.1 dL_law_1186 (by decide) ?_
  refine lv_iadd C.1.1 C.1.2.1 dL_law_1187 ?_
  refine va_sld C.1.1 C.1.2.1 hX hbl hbA Z1.2.2 (hv 5 (by decide)) dL_law_1188 ?_
  refine g_call2 (ov := (some (.int r))) (σ' := τ') eM_ok C Z2 Z1 (fun i hi j hj e => hdj j hj i hi e.symm) (fun _ _ _ => trivial) (k_X11_act hm) lk_L_106 (by decide) rfl rfl hl ⟨rfl, rfl, by decide, by decide⟩ hcs0 rfl (Nat.le_of_ble_eq_true rfl) (rest := [.int r]) rfl dL_law_1189 (fun H locs Z2 Z1 => ?_)
  refine lv_icmp_eq (tgt := 2123) C.1.1 C.1.2.1 dL_law_1192 (by decide) (fun _ => ?_) (fun z => absurd rfl z)
  exact hn ad _ _ _ _ _ _ (Nat.le_succ _) (Nat.le_add_right _ _) rfl hdj Z1 Z2 hI
set_option maxRecDepth 20000 in
theorem lw_case_21 {p : Program} {l : Launch} {e : Env} {s : State} {m : MethodId} {below : List Frame} {meth : Method} {c : Code} {Q : State → Prop} {D : va_G} {kc : Nat → ClassId} {ad ad2 : Nat → Nat} {A : Nat → Prop} {adK adV : Nat → Nat} {b L : Nat} {xs : Nat → Int32} {H : Heap} {locs : List Loc} {cells slots : Nat} {ls : Array Slot} {x3 : Int32} {σ τ : St} {Inv : St → St → Prop} (C : Cx (eC adK adV) p s m #[Value.ref b] c cL_law 4 RL D kc A) (hX : va_X b L xs s s.heap) (hbl : b < s.heap.size) (hbA : ¬ A b) (hv : ∀ k : Nat, k < 7 → vp_in (x3 + nI k) L) (hs : SimI Inv (cC_21 (xs (x3 + 1).toNatClampNeg) (xs (x3 + 2).toNatClampNeg)) (cM_21 (xs (x3 + 1).toNatClampNeg) (xs (x3 + 2).toNatClampNeg))) (Z1 : Dy tC kc ad D A s.heap σ H locs) (Z2 : Dy tM kc ad2 D A s.heap τ H locs) (hdj : ∀ i, i < tC.1 → ∀ j, j < tM.1 → ad i ≠ ad2 j) (hI0 : Inv σ τ) (hcs : cells + 1 ≤ room_1.cells ∧ slots + 5300 ≤ room_1.slots) (hl : lv_has ls 4 [(0, .ref b), (1, .ref (ad 0)), (2, .ref (ad2 0)), (3, .int x3)]) (hn : ∀ (ad' : Nat → Nat) (σ' τ' : St) (H : Heap) (locs : List Loc) (cells' slots' : Nat), cells' ≤ cells + 1 → slots' ≤ slots + 5300 → ad' 0 = ad 0 → (∀ i, i < tC.1 → ∀ j, j < tM.1 → ad' i ≠ ad2 j) → Dy tC kc ad' D A s.heap σ' H locs → Dy tM kc ad2 D A s.heap τ' H locs → Inv σ' τ' → W p l e room_1 s m #[Value.ref b] below meth c H locs cells' slots' Q (F0 m 2123 ls [])) : W p l e room_1 s m #[Value.ref b] below meth c H locs cells slots Q (F0 m 1197 ls []) := by
  obtain ⟨r, σ', τ', hc, hm, hI⟩ := hs σ τ hI0
  unfold cC_21 at hc
  unfold cM_21 at hm
  have hcs0 : cells ≤ room_1.cells ∧ slots ≤ room_1.slots := ⟨by omega, by omega⟩
  refine lv_aload_n C.1.1 C.1.2.1 dL_law_1197 rfl (lv_at hl 1 rfl) ?_
  refine lv_aload_n C.1.1 C.1.2.1 dL_law_1198 rfl (lv_at hl 0 rfl) ?_
  refine lv_iload_n C.1.1 C.1.2.1 dL_law_1199 rfl (lv_at hl 3 rfl) ?_
  refine lv_iconst (v := 1) C.1.1 C.1.2.1 dL_law_1200 (by decide) ?_
  refine lv_iadd C.1.1 C.1.2.1 dL_law_1201 ?_
  refine va_sld C.1.1 C.1.2.1 hX hbl hbA Z1.2.2 (hv 1 (by decide)) dL_law_1202 ?_
  refine lv_aload_n C.1.1 C.1.2.1 dL_law_1203 rfl (lv_at hl 0 rfl) ?_
  refine lv_iload_n C.1.1 C.1.2.1 dL_law_1204 rfl (lv_at hl 3 rfl) ?_
  refine lv_iconst (v := 2) C.1.1 C.1.2.1 dL_law_1205 (by decide) ?_
  refine lv_iadd C.1.1 C.1.2.1 dL_law_1206 ?_
  refine va_sld C.1.1 C.1.2.1 hX hbl hbA Z1.2.2 (hv 2 (by decide)) dL_law_1207 ?_
  refine g_call2 (ov := (some (.int r))) (σ' := σ') (eC_ok adK adV) C Z1 Z2 hdj (eC_at C Z1) (k_X10_kept hc) lk_L_107 (by decide) rfl rfl hl ⟨rfl, rfl, by decide, by decide⟩ hcs0 rfl (Nat.le_of_ble_eq_true rfl) (rest := []) rfl dL_law_1208 (fun H locs Z1 Z2 => ?_)
  refine lv_aload_n C.1.1 C.1.2.1 dL_law_1211 rfl (lv_at hl 2 rfl) ?_
  refine lv_aload_n C.1.1 C.1.2.1 dL_law_1212 rfl (lv_at hl 0 rfl) ?_
  refine lv_iload_n C.1.1 C.1.2.1 dL_law_1213 rfl (lv_at hl 3 rfl) ?_
  refine lv_iconst (v := 1) C.1.1 C.1.2.1 dL_law_1214 (by decide) ?_
  refine lv_iadd C.1.1 C.1.2.1 dL_law_1215 ?_
  refine va_sld C.1.1 C.1.2.1 hX hbl hbA Z1.2.2 (hv 1 (by decide)) dL_law_1216 ?_
  refine lv_aload_n C.1.1 C.1.2.1 dL_law_1217 rfl (lv_at hl 0 rfl) ?_
  refine lv_iload_n C.1.1 C.1.2.1 dL_law_1218 rfl (lv_at hl 3 rfl) ?_
  refine lv_iconst (v := 2) C.1.1 C.1.2.1 dL_law_1219 (by decide) ?_
  refine lv_iadd C.1.1 C.1.2.1 dL_law_1220 ?_
  refine va_sld C.1.1 C.1.2.1 hX hbl hbA Z1.2.2 (hv 2 (by decide)) dL_law_1221 ?_
  refine g_call2 (ov := (some (.int r))) (σ' := τ') eM_ok C Z2 Z1 (fun i hi j hj e => hdj j hj i hi e.symm) (fun _ _ _ => trivial) (k_X11_kept hm) lk_L_110 (by decide) rfl rfl hl ⟨rfl, rfl, by decide, by decide⟩ hcs0 rfl (Nat.le_of_ble_eq_true rfl) (rest := [.int r]) rfl dL_law_1222 (fun H locs Z2 Z1 => ?_)
  refine lv_icmp_eq (tgt := 2123) C.1.1 C.1.2.1 dL_law_1225 (by decide) (fun _ => ?_) (fun z => absurd rfl z)
  exact hn ad _ _ _ _ _ _ (Nat.le_succ _) (Nat.le_add_right _ _) rfl hdj Z1 Z2 hI
set_option maxRecDepth 20000 in
theorem lw_case_22 {p : Program} {l : Launch} {e : Env} {s : State} {m : MethodId} {below : List Frame} {meth : Method} {c : Code} {Q : State → Prop} {D : va_G} {kc : Nat → ClassId} {ad ad2 : Nat → Nat} {A : Nat → Prop} {adK adV : Nat → Nat} {b L : Nat} {xs : Nat → Int32} {H : Heap} {locs : List Loc} {cells slots : Nat} {ls : Array Slot} {x3 : Int32} {σ τ : St} {Inv : St → St → Prop} (C : Cx (eC adK adV) p s m #[Value.ref b] c cL_law 4 RL D kc A) (hX : va_X b L xs s s.heap) (hbl : b < s.heap.size) (hbA : ¬ A b) (hv : ∀ k : Nat, k < 7 → vp_in (x3 + nI k) L) (hs : SimI Inv (cC_22 (xs (x3 + 1).toNatClampNeg) (xs (x3 + 2).toNatClampNeg)) (cM_22 (xs (x3 + 1).toNatClampNeg) (xs (x3 + 2).toNatClampNeg))) (Z1 : Dy tC kc ad D A s.heap σ H locs) (Z2 : Dy tM kc ad2 D A s.heap τ H locs) (hdj : ∀ i, i < tC.1 → ∀ j, j < tM.1 → ad i ≠ ad2 j) (hI0 : Inv σ τ) (hcs : cells + 1 ≤ room_1.cells ∧ slots + 5300 ≤ room_1.slots) (hl : lv_has ls 4 [(0, .ref b), (1, .ref (ad 0)), (2, .ref (ad2 0)), (3, .int x3)]) (hn : ∀ (ad' : Nat → Nat) (σ' τ' : St) (H : Heap) (locs : List Loc) (cells' slots' : Nat), cells' ≤ cells + 1 → slots' ≤ slots + 5300 → ad' 0 = ad 0 → (∀ i, i < tC.1 → ∀ j, j < tM.1 → ad' i ≠ ad2 j) → Dy tC kc ad' D A s.heap σ' H locs → Dy tM kc ad2 D A s.heap τ' H locs → Inv σ' τ' → W p l e room_1 s m #[Value.ref b] below meth c H locs cells' slots' Q (F0 m 2123 ls [])) : W p l e room_1 s m #[Value.ref b] below meth c H locs cells slots Q (F0 m 1230 ls []) := by
  obtain ⟨r, σ', τ', hc, hm, hI⟩ := hs σ τ hI0
  unfold cC_22 at hc
  unfold cM_22 at hm
  have hcs0 : cells ≤ room_1.cells ∧ slots ≤ room_1.slots := ⟨by omega, by omega⟩
  refine lv_aload_n C.1.1 C.1.2.1 dL_law_1230 rfl (lv_at hl 1 rfl) ?_
  refine lv_aload_n C.1.1 C.1.2.1 dL_law_1231 rfl (lv_at hl 0 rfl) ?_
  refine lv_iload_n C.1.1 C.1.2.1 dL_law_1232 rfl (lv_at hl 3 rfl) ?_
  refine lv_iconst (v := 1) C.1.1 C.1.2.1 dL_law_1233 (by decide) ?_
  refine lv_iadd C.1.1 C.1.2.1 dL_law_1234 ?_
  refine va_sld C.1.1 C.1.2.1 hX hbl hbA Z1.2.2 (hv 1 (by decide)) dL_law_1235 ?_
  refine lv_aload_n C.1.1 C.1.2.1 dL_law_1236 rfl (lv_at hl 0 rfl) ?_
  refine lv_iload_n C.1.1 C.1.2.1 dL_law_1237 rfl (lv_at hl 3 rfl) ?_
  refine lv_iconst (v := 2) C.1.1 C.1.2.1 dL_law_1238 (by decide) ?_
  refine lv_iadd C.1.1 C.1.2.1 dL_law_1239 ?_
  refine va_sld C.1.1 C.1.2.1 hX hbl hbA Z1.2.2 (hv 2 (by decide)) dL_law_1240 ?_
  refine g_call2 (ov := (some (.int r))) (σ' := σ') (eC_ok adK adV) C Z1 Z2 hdj (eC_at C Z1) (k_X10_broken hc) lk_L_111 (by decide) rfl rfl hl ⟨rfl, rfl, by decide, by decide⟩ hcs0 rfl (Nat.le_of_ble_eq_true rfl) (rest := []) rfl dL_law_1241 (fun H locs Z1 Z2 => ?_)
  refine lv_aload_n C.1.1 C.1.2.1 dL_law_1244 rfl (lv_at hl 2 rfl) ?_
  refine lv_aload_n C.1.1 C.1.2.1 dL_law_1245 rfl (lv_at hl 0 rfl) ?_
  refine lv_iload_n C.1.1 C.1.2.1 dL_law_1246 rfl (lv_at hl 3 rfl) ?_
  refine lv_iconst (v := 1) C.1.1 C.1.2.1 dL_law_1247 (by decide) ?_
  refine lv_iadd C.1.1 C.1.2.1 dL_law_1248 ?_
  refine va_sld C.1.1 C.1.2.1 hX hbl hbA Z1.2.2 (hv 1 (by decide)) dL_law_1249 ?_
  refine lv_aload_n C.1.1 C.1.2.1 dL_law_1250 rfl (lv_at hl 0 rfl) ?_
  refine lv_iload_n C.1.1 C.1.2.1 dL_law_1251 rfl (lv_at hl 3 rfl) ?_
  refine lv_iconst (v := 2) C.1.1 C.1.2.1 dL_law_1252 (by decide) ?_
  refine lv_iadd C.1.1 C.1.2.1 dL_law_1253 ?_
  refine va_sld C.1.1 C.1.2.1 hX hbl hbA Z1.2.2 (hv 2 (by decide)) dL_law_1254 ?_
  refine g_call2 (ov := (some (.int r))) (σ' := τ') eM_ok C Z2 Z1 (fun i hi j hj e => hdj j hj i hi e.symm) (fun _ _ _ => trivial) (k_X11_broken hm) lk_L_114 (by decide) rfl rfl hl ⟨rfl, rfl, by decide, by decide⟩ hcs0 rfl (Nat.le_of_ble_eq_true rfl) (rest := [.int r]) rfl dL_law_1255 (fun H locs Z2 Z1 => ?_)
  refine lv_icmp_eq (tgt := 2123) C.1.1 C.1.2.1 dL_law_1258 (by decide) (fun _ => ?_) (fun z => absurd rfl z)
  exact hn ad _ _ _ _ _ _ (Nat.le_succ _) (Nat.le_add_right _ _) rfl hdj Z1 Z2 hI
set_option maxRecDepth 20000 in
theorem lw_case_23 {p : Program} {l : Launch} {e : Env} {s : State} {m : MethodId} {below : List Frame} {meth : Method} {c : Code} {Q : State → Prop} {D : va_G} {kc : Nat → ClassId} {ad ad2 : Nat → Nat} {A : Nat → Prop} {adK adV : Nat → Nat} {b L : Nat} {xs : Nat → Int32} {H : Heap} {locs : List Loc} {cells slots : Nat} {ls : Array Slot} {x3 : Int32} {σ τ : St} {Inv : St → St → Prop} (C : Cx (eC adK adV) p s m #[Value.ref b] c cL_law 4 RL D kc A) (hX : va_X b L xs s s.heap) (hbl : b < s.heap.size) (hbA : ¬ A b) (hv : ∀ k : Nat, k < 7 → vp_in (x3 + nI k) L) (hs : SimI Inv (cC_23 (xs (x3 + 1).toNatClampNeg) (xs (x3 + 2).toNatClampNeg) (xs (x3 + 3).toNatClampNeg) (xs (x3 + 4).toNatClampNeg) (xs (x3 + 5).toNatClampNeg) (xs (x3 + 6).toNatClampNeg)) (cM_23 (xs (x3 + 1).toNatClampNeg) (xs (x3 + 2).toNatClampNeg) (xs (x3 + 3).toNatClampNeg) (xs (x3 + 4).toNatClampNeg) (xs (x3 + 5).toNatClampNeg) (xs (x3 + 6).toNatClampNeg))) (Z1 : Dy tC kc ad D A s.heap σ H locs) (Z2 : Dy tM kc ad2 D A s.heap τ H locs) (hdj : ∀ i, i < tC.1 → ∀ j, j < tM.1 → ad i ≠ ad2 j) (hI0 : Inv σ τ) (hcs : cells + 1 ≤ room_1.cells ∧ slots + 5300 ≤ room_1.slots) (hl : lv_has ls 4 [(0, .ref b), (1, .ref (ad 0)), (2, .ref (ad2 0)), (3, .int x3)]) (hn : ∀ (ad' : Nat → Nat) (σ' τ' : St) (H : Heap) (locs : List Loc) (cells' slots' : Nat), cells' ≤ cells + 1 → slots' ≤ slots + 5300 → ad' 0 = ad 0 → (∀ i, i < tC.1 → ∀ j, j < tM.1 → ad' i ≠ ad2 j) → Dy tC kc ad' D A s.heap σ' H locs → Dy tM kc ad2 D A s.heap τ' H locs → Inv σ' τ' → W p l e room_1 s m #[Value.ref b] below meth c H locs cells' slots' Q (F0 m 2123 ls [])) : W p l e room_1 s m #[Value.ref b] below meth c H locs cells slots Q (F0 m 1263 ls []) := by
  obtain ⟨r, σ', τ', hc, hm, hI⟩ := hs σ τ hI0
  unfold cC_23 at hc
  unfold cM_23 at hm
  have hcs0 : cells ≤ room_1.cells ∧ slots ≤ room_1.slots := ⟨by omega, by omega⟩
  refine lv_aload_n C.1.1 C.1.2.1 dL_law_1263 rfl (lv_at hl 1 rfl) ?_
  refine lv_aload_n C.1.1 C.1.2.1 dL_law_1264 rfl (lv_at hl 0 rfl) ?_
  refine lv_iload_n C.1.1 C.1.2.1 dL_law_1265 rfl (lv_at hl 3 rfl) ?_
  refine lv_iconst (v := 1) C.1.1 C.1.2.1 dL_law_1266 (by decide) ?_
  refine lv_iadd C.1.1 C.1.2.1 dL_law_1267 ?_
  refine va_sld C.1.1 C.1.2.1 hX hbl hbA Z1.2.2 (hv 1 (by decide)) dL_law_1268 ?_
  refine lv_aload_n C.1.1 C.1.2.1 dL_law_1269 rfl (lv_at hl 0 rfl) ?_
  refine lv_iload_n C.1.1 C.1.2.1 dL_law_1270 rfl (lv_at hl 3 rfl) ?_
  refine lv_iconst (v := 2) C.1.1 C.1.2.1 dL_law_1271 (by decide) ?_
  refine lv_iadd C.1.1 C.1.2.1 dL_law_1272 ?_
  refine va_sld C.1.1 C.1.2.1 hX hbl hbA Z1.2.2 (hv 2 (by decide)) dL_law_1273 ?_
  refine lv_aload_n C.1.1 C.1.2.1 dL_law_1274 rfl (lv_at hl 0 rfl) ?_
  refine lv_iload_n C.1.1 C.1.2.1 dL_law_1275 rfl (lv_at hl 3 rfl) ?_
  refine lv_iconst (v := 3) C.1.1 C.1.2.1 dL_law_1276 (by decide) ?_
  refine lv_iadd C.1.1 C.1.2.1 dL_law_1277 ?_
  refine va_sld C.1.1 C.1.2.1 hX hbl hbA Z1.2.2 (hv 3 (by decide)) dL_law_1278 ?_
  refine lv_aload_n C.1.1 C.1.2.1 dL_law_1279 rfl (lv_at hl 0 rfl) ?_
  refine lv_iload_n C.1.1 C.1.2.1 dL_law_1280 rfl (lv_at hl 3 rfl) ?_
  refine lv_iconst (v := 4) C.1.1 C.1.2.1 dL_law_1281 (by decide) ?_
  refine lv_iadd C.1.1 C.1.2.1 dL_law_1282 ?_
  refine va_sld C.1.1 C.1.2.1 hX hbl hbA Z1.2.2 (hv 4 (by decide)) dL_law_1283 ?_
  refine lv_aload_n C.1.1 C.1.2.1 dL_law_1284 rfl (lv_at hl 0 rfl) ?_
  refine lv_iload_n C.1.1 C.1.2.1 dL_law_1285 rfl (lv_at hl 3 rfl) ?_
  refine lv_iconst (v := 5) C.1.1 C.1.2.1 dL_law_1286 (by decide) ?_
  refine lv_iadd C.1.1 C.1.2.1 dL_law_1287 ?_
  refine va_sld C.1.1 C.1.2.1 hX hbl hbA Z1.2.2 (hv 5 (by decide)) dL_law_1288 ?_
  refine lv_aload_n C.1.1 C.1.2.1 dL_law_1289 rfl (lv_at hl 0 rfl) ?_
  refine lv_iload_n C.1.1 C.1.2.1 dL_law_1290 rfl (lv_at hl 3 rfl) ?_
  refine lv_bipush (v := 6) C.1.1 C.1.2.1 dL_law_1291 (by decide) ?_
  refine lv_iadd C.1.1 C.1.2.1 dL_law_1293 ?_
  refine va_sld C.1.1 C.1.2.1 hX hbl hbA Z1.2.2 (hv 6 (by decide)) dL_law_1294 ?_
  refine g_call2 (ov := (some (.int r))) (σ' := σ') (eC_ok adK adV) C Z1 Z2 hdj (eC_at C Z1) (k_X10_hook hc) lk_L_115 (by decide) rfl rfl hl ⟨rfl, rfl, by decide, by decide⟩ hcs0 rfl (Nat.le_of_ble_eq_true rfl) (rest := []) rfl dL_law_1295 (fun H locs Z1 Z2 => ?_)
  refine lv_aload_n C.1.1 C.1.2.1 dL_law_1298 rfl (lv_at hl 2 rfl) ?_
  refine lv_aload_n C.1.1 C.1.2.1 dL_law_1299 rfl (lv_at hl 0 rfl) ?_
  refine lv_iload_n C.1.1 C.1.2.1 dL_law_1300 rfl (lv_at hl 3 rfl) ?_
  refine lv_iconst (v := 1) C.1.1 C.1.2.1 dL_law_1301 (by decide) ?_
  refine lv_iadd C.1.1 C.1.2.1 dL_law_1302 ?_
  refine va_sld C.1.1 C.1.2.1 hX hbl hbA Z1.2.2 (hv 1 (by decide)) dL_law_1303 ?_
  refine lv_aload_n C.1.1 C.1.2.1 dL_law_1304 rfl (lv_at hl 0 rfl) ?_
  refine lv_iload_n C.1.1 C.1.2.1 dL_law_1305 rfl (lv_at hl 3 rfl) ?_
  refine lv_iconst (v := 2) C.1.1 C.1.2.1 dL_law_1306 (by decide) ?_
  refine lv_iadd C.1.1 C.1.2.1 dL_law_1307 ?_
  refine va_sld C.1.1 C.1.2.1 hX hbl hbA Z1.2.2 (hv 2 (by decide)) dL_law_1308 ?_
  refine lv_aload_n C.1.1 C.1.2.1 dL_law_1309 rfl (lv_at hl 0 rfl) ?_
  refine lv_iload_n C.1.1 C.1.2.1 dL_law_1310 rfl (lv_at hl 3 rfl) ?_
  refine lv_iconst (v := 3) C.1.1 C.1.2.1 dL_law_1311 (by decide) ?_
  refine lv_iadd C.1.1 C.1.2.1 dL_law_1312 ?_
  refine va_sld C.1.1 C.1.2.1 hX hbl hbA Z1.2.2 (hv 3 (by decide)) dL_law_1313 ?_
  refine lv_aload_n C.1.1 C.1.2.1 dL_law_1314 rfl (lv_at hl 0 rfl) ?_
  refine lv_iload_n C.1.1 C.1.2.1 dL_law_1315 rfl (lv_at hl 3 rfl) ?_
  refine lv_iconst (v := 4) C.1.1 C.1.2.1 dL_law_1316 (by decide) ?_
  refine lv_iadd C.1.1 C.1.2.1 dL_law_1317 ?_
  refine va_sld C.1.1 C.1.2.1 hX hbl hbA Z1.2.2 (hv 4 (by decide)) dL_law_1318 ?_
  refine lv_aload_n C.1.1 C.1.2.1 dL_law_1319 rfl (lv_at hl 0 rfl) ?_
  refine lv_iload_n C.1.1 C.1.2.1 dL_law_1320 rfl (lv_at hl 3 rfl) ?_
  refine lv_iconst (v := 5) C.1.1 C.1.2.1 dL_law_1321 (by decide) ?_
  refine lv_iadd C.1.1 C.1.2.1 dL_law_1322 ?_
  refine va_sld C.1.1 C.1.2.1 hX hbl hbA Z1.2.2 (hv 5 (by decide)) dL_law_1323 ?_
  refine lv_aload_n C.1.1 C.1.2.1 dL_law_1324 rfl (lv_at hl 0 rfl) ?_
  refine lv_iload_n C.1.1 C.1.2.1 dL_law_1325 rfl (lv_at hl 3 rfl) ?_
  refine lv_bipush (v := 6) C.1.1 C.1.2.1 dL_law_1326 (by decide) ?_
  refine lv_iadd C.1.1 C.1.2.1 dL_law_1328 ?_
  refine va_sld C.1.1 C.1.2.1 hX hbl hbA Z1.2.2 (hv 6 (by decide)) dL_law_1329 ?_
  refine g_call2 (ov := (some (.int r))) (σ' := τ') eM_ok C Z2 Z1 (fun i hi j hj e => hdj j hj i hi e.symm) (fun _ _ _ => trivial) (k_X11_hook hm) lk_L_118 (by decide) rfl rfl hl ⟨rfl, rfl, by decide, by decide⟩ hcs0 rfl (Nat.le_of_ble_eq_true rfl) (rest := [.int r]) rfl dL_law_1330 (fun H locs Z2 Z1 => ?_)
  refine lv_icmp_eq (tgt := 2123) C.1.1 C.1.2.1 dL_law_1333 (by decide) (fun _ => ?_) (fun z => absurd rfl z)
  exact hn ad _ _ _ _ _ _ (Nat.le_succ _) (Nat.le_add_right _ _) rfl hdj Z1 Z2 hI
set_option maxRecDepth 20000 in
theorem lw_case_24 {p : Program} {l : Launch} {e : Env} {s : State} {m : MethodId} {below : List Frame} {meth : Method} {c : Code} {Q : State → Prop} {D : va_G} {kc : Nat → ClassId} {ad ad2 : Nat → Nat} {A : Nat → Prop} {adK adV : Nat → Nat} {b L : Nat} {xs : Nat → Int32} {H : Heap} {locs : List Loc} {cells slots : Nat} {ls : Array Slot} {x3 : Int32} {σ τ : St} {Inv : St → St → Prop} (C : Cx (eC adK adV) p s m #[Value.ref b] c cL_law 4 RL D kc A) (hX : va_X b L xs s s.heap) (hbl : b < s.heap.size) (hbA : ¬ A b) (hv : ∀ k : Nat, k < 7 → vp_in (x3 + nI k) L) (hs : SimI Inv (cC_24 ) (cM_24 )) (Z1 : Dy tC kc ad D A s.heap σ H locs) (Z2 : Dy tM kc ad2 D A s.heap τ H locs) (hdj : ∀ i, i < tC.1 → ∀ j, j < tM.1 → ad i ≠ ad2 j) (hI0 : Inv σ τ) (hcs : cells + 1 ≤ room_1.cells ∧ slots + 5300 ≤ room_1.slots) (hl : lv_has ls 4 [(0, .ref b), (1, .ref (ad 0)), (2, .ref (ad2 0)), (3, .int x3)]) (hn : ∀ (ad' : Nat → Nat) (σ' τ' : St) (H : Heap) (locs : List Loc) (cells' slots' : Nat), cells' ≤ cells + 1 → slots' ≤ slots + 5300 → ad' 0 = ad 0 → (∀ i, i < tC.1 → ∀ j, j < tM.1 → ad' i ≠ ad2 j) → Dy tC kc ad' D A s.heap σ' H locs → Dy tM kc ad2 D A s.heap τ' H locs → Inv σ' τ' → W p l e room_1 s m #[Value.ref b] below meth c H locs cells' slots' Q (F0 m 2123 ls [])) : W p l e room_1 s m #[Value.ref b] below meth c H locs cells slots Q (F0 m 1338 ls []) := by
  obtain ⟨r, σ', τ', hc, hm, hI⟩ := hs σ τ hI0
  unfold cC_24 at hc
  unfold cM_24 at hm
  have qhc := Prod.mk.inj (Option.some.inj hc)
  have ehc := qhc.2
  have rhc := qhc.1
  subst ehc
  have qhm := Prod.mk.inj (Option.some.inj hm)
  have ehm := qhm.2
  have rhm := qhm.1
  subst ehm
  have hcs0 : cells ≤ room_1.cells ∧ slots ≤ room_1.slots := ⟨by omega, by omega⟩
  have kC24 := k_X10_hooks (l := l) (kc := kc) (ad := ad) (D := D) (adK := adK) (adV := adV) σ
  rw [rhc] at kC24
  have kM24 := k_X11_hooks (l := l) (kc := kc) (ad := ad2) (D := D) τ
  rw [rhm] at kM24
  refine lv_aload_n C.1.1 C.1.2.1 dL_law_1338 rfl (lv_at hl 1 rfl) ?_
  refine g_call2 (ov := (some (.int r))) (σ' := σ) (eC_ok adK adV) C Z1 Z2 hdj (eC_at C Z1) kC24 lk_L_119 (by decide) rfl rfl hl ⟨rfl, rfl, by decide, by decide⟩ hcs0 rfl (Nat.le_of_ble_eq_true rfl) (rest := []) rfl dL_law_1339 (fun H locs Z1 Z2 => ?_)
  refine lv_aload_n C.1.1 C.1.2.1 dL_law_1342 rfl (lv_at hl 2 rfl) ?_
  refine g_call2 (ov := (some (.int r))) (σ' := τ) eM_ok C Z2 Z1 (fun i hi j hj e => hdj j hj i hi e.symm) (fun _ _ _ => trivial) kM24 lk_L_123 (by decide) rfl rfl hl ⟨rfl, rfl, by decide, by decide⟩ hcs0 rfl (Nat.le_of_ble_eq_true rfl) (rest := [.int r]) rfl dL_law_1343 (fun H locs Z2 Z1 => ?_)
  refine lv_icmp_eq (tgt := 2123) C.1.1 C.1.2.1 dL_law_1346 (by decide) (fun _ => ?_) (fun z => absurd rfl z)
  exact hn ad _ _ _ _ _ _ (Nat.le_succ _) (Nat.le_add_right _ _) rfl hdj Z1 Z2 hI
set_option maxRecDepth 20000 in
theorem lw_case_25 {p : Program} {l : Launch} {e : Env} {s : State} {m : MethodId} {below : List Frame} {meth : Method} {c : Code} {Q : State → Prop} {D : va_G} {kc : Nat → ClassId} {ad ad2 : Nat → Nat} {A : Nat → Prop} {adK adV : Nat → Nat} {b L : Nat} {xs : Nat → Int32} {H : Heap} {locs : List Loc} {cells slots : Nat} {ls : Array Slot} {x3 : Int32} {σ τ : St} {Inv : St → St → Prop} (C : Cx (eC adK adV) p s m #[Value.ref b] c cL_law 4 RL D kc A) (hX : va_X b L xs s s.heap) (hbl : b < s.heap.size) (hbA : ¬ A b) (hv : ∀ k : Nat, k < 7 → vp_in (x3 + nI k) L) (hs : SimI Inv (cC_25 (xs (x3 + 1).toNatClampNeg) (xs (x3 + 2).toNatClampNeg) (xs (x3 + 3).toNatClampNeg) (xs (x3 + 4).toNatClampNeg)) (cM_25 (xs (x3 + 1).toNatClampNeg) (xs (x3 + 2).toNatClampNeg) (xs (x3 + 3).toNatClampNeg) (xs (x3 + 4).toNatClampNeg))) (Z1 : Dy tC kc ad D A s.heap σ H locs) (Z2 : Dy tM kc ad2 D A s.heap τ H locs) (hdj : ∀ i, i < tC.1 → ∀ j, j < tM.1 → ad i ≠ ad2 j) (hI0 : Inv σ τ) (hcs : cells + 1 ≤ room_1.cells ∧ slots + 5300 ≤ room_1.slots) (hl : lv_has ls 4 [(0, .ref b), (1, .ref (ad 0)), (2, .ref (ad2 0)), (3, .int x3)]) (hn : ∀ (ad' : Nat → Nat) (σ' τ' : St) (H : Heap) (locs : List Loc) (cells' slots' : Nat), cells' ≤ cells + 1 → slots' ≤ slots + 5300 → ad' 0 = ad 0 → (∀ i, i < tC.1 → ∀ j, j < tM.1 → ad' i ≠ ad2 j) → Dy tC kc ad' D A s.heap σ' H locs → Dy tM kc ad2 D A s.heap τ' H locs → Inv σ' τ' → W p l e room_1 s m #[Value.ref b] below meth c H locs cells' slots' Q (F0 m 2123 ls [])) : W p l e room_1 s m #[Value.ref b] below meth c H locs cells slots Q (F0 m 1351 ls []) := by
  obtain ⟨r, σ', τ', hc, hm, hI⟩ := hs σ τ hI0
  unfold cC_25 at hc
  unfold cM_25 at hm
  have hc := mapO hc
  have ehc := hc.2
  subst ehc
  have hm := mapO hm
  have ehm := hm.2
  subst ehm
  have hcs0 : cells ≤ room_1.cells ∧ slots ≤ room_1.slots := ⟨by omega, by omega⟩
  refine lv_aload_n C.1.1 C.1.2.1 dL_law_1351 rfl (lv_at hl 1 rfl) ?_
  refine lv_aload_n C.1.1 C.1.2.1 dL_law_1352 rfl (lv_at hl 0 rfl) ?_
  refine lv_iload_n C.1.1 C.1.2.1 dL_law_1353 rfl (lv_at hl 3 rfl) ?_
  refine lv_iconst (v := 1) C.1.1 C.1.2.1 dL_law_1354 (by decide) ?_
  refine lv_iadd C.1.1 C.1.2.1 dL_law_1355 ?_
  refine va_sld C.1.1 C.1.2.1 hX hbl hbA Z1.2.2 (hv 1 (by decide)) dL_law_1356 ?_
  refine lv_aload_n C.1.1 C.1.2.1 dL_law_1357 rfl (lv_at hl 0 rfl) ?_
  refine lv_iload_n C.1.1 C.1.2.1 dL_law_1358 rfl (lv_at hl 3 rfl) ?_
  refine lv_iconst (v := 2) C.1.1 C.1.2.1 dL_law_1359 (by decide) ?_
  refine lv_iadd C.1.1 C.1.2.1 dL_law_1360 ?_
  refine va_sld C.1.1 C.1.2.1 hX hbl hbA Z1.2.2 (hv 2 (by decide)) dL_law_1361 ?_
  refine lv_aload_n C.1.1 C.1.2.1 dL_law_1362 rfl (lv_at hl 0 rfl) ?_
  refine lv_iload_n C.1.1 C.1.2.1 dL_law_1363 rfl (lv_at hl 3 rfl) ?_
  refine lv_iconst (v := 3) C.1.1 C.1.2.1 dL_law_1364 (by decide) ?_
  refine lv_iadd C.1.1 C.1.2.1 dL_law_1365 ?_
  refine va_sld C.1.1 C.1.2.1 hX hbl hbA Z1.2.2 (hv 3 (by decide)) dL_law_1366 ?_
  refine lv_aload_n C.1.1 C.1.2.1 dL_law_1367 rfl (lv_at hl 0 rfl) ?_
  refine lv_iload_n C.1.1 C.1.2.1 dL_law_1368 rfl (lv_at hl 3 rfl) ?_
  refine lv_iconst (v := 4) C.1.1 C.1.2.1 dL_law_1369 (by decide) ?_
  refine lv_iadd C.1.1 C.1.2.1 dL_law_1370 ?_
  refine va_sld C.1.1 C.1.2.1 hX hbl hbA Z1.2.2 (hv 4 (by decide)) dL_law_1371 ?_
  refine g_call2 (ov := (some (.int r))) (σ' := σ') (eC_ok adK adV) C Z1 Z2 hdj (eC_at C Z1) (k_X10_way hc.1) lk_L_124 (by decide) rfl rfl hl ⟨rfl, rfl, by decide, by decide⟩ hcs0 rfl (Nat.le_of_ble_eq_true rfl) (rest := []) rfl dL_law_1372 (fun H locs Z1 Z2 => ?_)
  refine lv_aload_n C.1.1 C.1.2.1 dL_law_1375 rfl (lv_at hl 2 rfl) ?_
  refine lv_aload_n C.1.1 C.1.2.1 dL_law_1376 rfl (lv_at hl 0 rfl) ?_
  refine lv_iload_n C.1.1 C.1.2.1 dL_law_1377 rfl (lv_at hl 3 rfl) ?_
  refine lv_iconst (v := 1) C.1.1 C.1.2.1 dL_law_1378 (by decide) ?_
  refine lv_iadd C.1.1 C.1.2.1 dL_law_1379 ?_
  refine va_sld C.1.1 C.1.2.1 hX hbl hbA Z1.2.2 (hv 1 (by decide)) dL_law_1380 ?_
  refine lv_aload_n C.1.1 C.1.2.1 dL_law_1381 rfl (lv_at hl 0 rfl) ?_
  refine lv_iload_n C.1.1 C.1.2.1 dL_law_1382 rfl (lv_at hl 3 rfl) ?_
  refine lv_iconst (v := 2) C.1.1 C.1.2.1 dL_law_1383 (by decide) ?_
  refine lv_iadd C.1.1 C.1.2.1 dL_law_1384 ?_
  refine va_sld C.1.1 C.1.2.1 hX hbl hbA Z1.2.2 (hv 2 (by decide)) dL_law_1385 ?_
  refine lv_aload_n C.1.1 C.1.2.1 dL_law_1386 rfl (lv_at hl 0 rfl) ?_
  refine lv_iload_n C.1.1 C.1.2.1 dL_law_1387 rfl (lv_at hl 3 rfl) ?_
  refine lv_iconst (v := 3) C.1.1 C.1.2.1 dL_law_1388 (by decide) ?_
  refine lv_iadd C.1.1 C.1.2.1 dL_law_1389 ?_
  refine va_sld C.1.1 C.1.2.1 hX hbl hbA Z1.2.2 (hv 3 (by decide)) dL_law_1390 ?_
  refine lv_aload_n C.1.1 C.1.2.1 dL_law_1391 rfl (lv_at hl 0 rfl) ?_
  refine lv_iload_n C.1.1 C.1.2.1 dL_law_1392 rfl (lv_at hl 3 rfl) ?_
  refine lv_iconst (v := 4) C.1.1 C.1.2.1 dL_law_1393 (by decide) ?_
  refine lv_iadd C.1.1 C.1.2.1 dL_law_1394 ?_
  refine va_sld C.1.1 C.1.2.1 hX hbl hbA Z1.2.2 (hv 4 (by decide)) dL_law_1395 ?_
  refine g_call2 (ov := (some (.int r))) (σ' := τ') eM_ok C Z2 Z1 (fun i hi j hj e => hdj j hj i hi e.symm) (fun _ _ _ => trivial) (k_X11_way hm.1) lk_L_127 (by decide) rfl rfl hl ⟨rfl, rfl, by decide, by decide⟩ hcs0 rfl (Nat.le_of_ble_eq_true rfl) (rest := [.int r]) rfl dL_law_1396 (fun H locs Z2 Z1 => ?_)
  refine lv_icmp_eq (tgt := 2123) C.1.1 C.1.2.1 dL_law_1399 (by decide) (fun _ => ?_) (fun z => absurd rfl z)
  exact hn ad _ _ _ _ _ _ (Nat.le_succ _) (Nat.le_add_right _ _) rfl hdj Z1 Z2 hI
set_option maxRecDepth 20000 in
theorem lw_case_26 {p : Program} {l : Launch} {e : Env} {s : State} {m : MethodId} {below : List Frame} {meth : Method} {c : Code} {Q : State → Prop} {D : va_G} {kc : Nat → ClassId} {ad ad2 : Nat → Nat} {A : Nat → Prop} {adK adV : Nat → Nat} {b L : Nat} {xs : Nat → Int32} {H : Heap} {locs : List Loc} {cells slots : Nat} {ls : Array Slot} {x3 : Int32} {σ τ : St} {Inv : St → St → Prop} (C : Cx (eC adK adV) p s m #[Value.ref b] c cL_law 4 RL D kc A) (hX : va_X b L xs s s.heap) (hbl : b < s.heap.size) (hbA : ¬ A b) (hv : ∀ k : Nat, k < 7 → vp_in (x3 + nI k) L) (hs : SimI Inv (cC_26 (xs (x3 + 1).toNatClampNeg) (xs (x3 + 2).toNatClampNeg) (xs (x3 + 3).toNatClampNeg)) (cM_26 (xs (x3 + 1).toNatClampNeg) (xs (x3 + 2).toNatClampNeg) (xs (x3 + 3).toNatClampNeg))) (Z1 : Dy tC kc ad D A s.heap σ H locs) (Z2 : Dy tM kc ad2 D A s.heap τ H locs) (hdj : ∀ i, i < tC.1 → ∀ j, j < tM.1 → ad i ≠ ad2 j) (hI0 : Inv σ τ) (hcs : cells + 1 ≤ room_1.cells ∧ slots + 5300 ≤ room_1.slots) (hl : lv_has ls 4 [(0, .ref b), (1, .ref (ad 0)), (2, .ref (ad2 0)), (3, .int x3)]) (hn : ∀ (ad' : Nat → Nat) (σ' τ' : St) (H : Heap) (locs : List Loc) (cells' slots' : Nat), cells' ≤ cells + 1 → slots' ≤ slots + 5300 → ad' 0 = ad 0 → (∀ i, i < tC.1 → ∀ j, j < tM.1 → ad' i ≠ ad2 j) → Dy tC kc ad' D A s.heap σ' H locs → Dy tM kc ad2 D A s.heap τ' H locs → Inv σ' τ' → W p l e room_1 s m #[Value.ref b] below meth c H locs cells' slots' Q (F0 m 2123 ls [])) : W p l e room_1 s m #[Value.ref b] below meth c H locs cells slots Q (F0 m 1404 ls []) := by
  obtain ⟨r, σ', τ', hc, hm, hI⟩ := hs σ τ hI0
  unfold cC_26 at hc
  unfold cM_26 at hm
  have hcs0 : cells ≤ room_1.cells ∧ slots ≤ room_1.slots := ⟨by omega, by omega⟩
  refine lv_aload_n C.1.1 C.1.2.1 dL_law_1404 rfl (lv_at hl 1 rfl) ?_
  refine lv_aload_n C.1.1 C.1.2.1 dL_law_1405 rfl (lv_at hl 0 rfl) ?_
  refine lv_iload_n C.1.1 C.1.2.1 dL_law_1406 rfl (lv_at hl 3 rfl) ?_
  refine lv_iconst (v := 1) C.1.1 C.1.2.1 dL_law_1407 (by decide) ?_
  refine lv_iadd C.1.1 C.1.2.1 dL_law_1408 ?_
  refine va_sld C.1.1 C.1.2.1 hX hbl hbA Z1.2.2 (hv 1 (by decide)) dL_law_1409 ?_
  refine lv_aload_n C.1.1 C.1.2.1 dL_law_1410 rfl (lv_at hl 0 rfl) ?_
  refine lv_iload_n C.1.1 C.1.2.1 dL_law_1411 rfl (lv_at hl 3 rfl) ?_
  refine lv_iconst (v := 2) C.1.1 C.1.2.1 dL_law_1412 (by decide) ?_
  refine lv_iadd C.1.1 C.1.2.1 dL_law_1413 ?_
  refine va_sld C.1.1 C.1.2.1 hX hbl hbA Z1.2.2 (hv 2 (by decide)) dL_law_1414 ?_
  refine lv_aload_n C.1.1 C.1.2.1 dL_law_1415 rfl (lv_at hl 0 rfl) ?_
  refine lv_iload_n C.1.1 C.1.2.1 dL_law_1416 rfl (lv_at hl 3 rfl) ?_
  refine lv_iconst (v := 3) C.1.1 C.1.2.1 dL_law_1417 (by decide) ?_
  refine lv_iadd C.1.1 C.1.2.1 dL_law_1418 ?_
  refine va_sld C.1.1 C.1.2.1 hX hbl hbA Z1.2.2 (hv 3 (by decide)) dL_law_1419 ?_
  refine g_call2 (ov := (some (.int r))) (σ' := σ') (eC_ok adK adV) C Z1 Z2 hdj (eC_at C Z1) (k_X10_office hc) lk_L_128 (by decide) rfl rfl hl ⟨rfl, rfl, by decide, by decide⟩ hcs0 rfl (Nat.le_of_ble_eq_true rfl) (rest := []) rfl dL_law_1420 (fun H locs Z1 Z2 => ?_)
  refine lv_aload_n C.1.1 C.1.2.1 dL_law_1423 rfl (lv_at hl 2 rfl) ?_
  refine lv_aload_n C.1.1 C.1.2.1 dL_law_1424 rfl (lv_at hl 0 rfl) ?_
  refine lv_iload_n C.1.1 C.1.2.1 dL_law_1425 rfl (lv_at hl 3 rfl) ?_
  refine lv_iconst (v := 1) C.1.1 C.1.2.1 dL_law_1426 (by decide) ?_
  refine lv_iadd C.1.1 C.1.2.1 dL_law_1427 ?_
  refine va_sld C.1.1 C.1.2.1 hX hbl hbA Z1.2.2 (hv 1 (by decide)) dL_law_1428 ?_
  refine lv_aload_n C.1.1 C.1.2.1 dL_law_1429 rfl (lv_at hl 0 rfl) ?_
  refine lv_iload_n C.1.1 C.1.2.1 dL_law_1430 rfl (lv_at hl 3 rfl) ?_
  refine lv_iconst (v := 2) C.1.1 C.1.2.1 dL_law_1431 (by decide) ?_
  refine lv_iadd C.1.1 C.1.2.1 dL_law_1432 ?_
  refine va_sld C.1.1 C.1.2.1 hX hbl hbA Z1.2.2 (hv 2 (by decide)) dL_law_1433 ?_
  refine lv_aload_n C.1.1 C.1.2.1 dL_law_1434 rfl (lv_at hl 0 rfl) ?_
  refine lv_iload_n C.1.1 C.1.2.1 dL_law_1435 rfl (lv_at hl 3 rfl) ?_
  refine lv_iconst (v := 3) C.1.1 C.1.2.1 dL_law_1436 (by decide) ?_
  refine lv_iadd C.1.1 C.1.2.1 dL_law_1437 ?_
  refine va_sld C.1.1 C.1.2.1 hX hbl hbA Z1.2.2 (hv 3 (by decide)) dL_law_1438 ?_
  refine g_call2 (ov := (some (.int r))) (σ' := τ') eM_ok C Z2 Z1 (fun i hi j hj e => hdj j hj i hi e.symm) (fun _ _ _ => trivial) (k_X11_office hm) lk_L_132 (by decide) rfl rfl hl ⟨rfl, rfl, by decide, by decide⟩ hcs0 rfl (Nat.le_of_ble_eq_true rfl) (rest := [.int r]) rfl dL_law_1439 (fun H locs Z2 Z1 => ?_)
  refine lv_icmp_eq (tgt := 2123) C.1.1 C.1.2.1 dL_law_1442 (by decide) (fun _ => ?_) (fun z => absurd rfl z)
  exact hn ad _ _ _ _ _ _ (Nat.le_succ _) (Nat.le_add_right _ _) rfl hdj Z1 Z2 hI
set_option maxRecDepth 20000 in
theorem lw_case_27 {p : Program} {l : Launch} {e : Env} {s : State} {m : MethodId} {below : List Frame} {meth : Method} {c : Code} {Q : State → Prop} {D : va_G} {kc : Nat → ClassId} {ad ad2 : Nat → Nat} {A : Nat → Prop} {adK adV : Nat → Nat} {b L : Nat} {xs : Nat → Int32} {H : Heap} {locs : List Loc} {cells slots : Nat} {ls : Array Slot} {x3 : Int32} {σ τ : St} {Inv : St → St → Prop} (C : Cx (eC adK adV) p s m #[Value.ref b] c cL_law 4 RL D kc A) (hX : va_X b L xs s s.heap) (hbl : b < s.heap.size) (hbA : ¬ A b) (hv : ∀ k : Nat, k < 7 → vp_in (x3 + nI k) L) (hs : SimI Inv (cC_27 (xs (x3 + 1).toNatClampNeg) (xs (x3 + 2).toNatClampNeg) (xs (x3 + 3).toNatClampNeg)) (cM_27 (xs (x3 + 1).toNatClampNeg) (xs (x3 + 2).toNatClampNeg) (xs (x3 + 3).toNatClampNeg))) (Z1 : Dy tC kc ad D A s.heap σ H locs) (Z2 : Dy tM kc ad2 D A s.heap τ H locs) (hdj : ∀ i, i < tC.1 → ∀ j, j < tM.1 → ad i ≠ ad2 j) (hI0 : Inv σ τ) (hcs : cells + 1 ≤ room_1.cells ∧ slots + 5300 ≤ room_1.slots) (hl : lv_has ls 4 [(0, .ref b), (1, .ref (ad 0)), (2, .ref (ad2 0)), (3, .int x3)]) (hn : ∀ (ad' : Nat → Nat) (σ' τ' : St) (H : Heap) (locs : List Loc) (cells' slots' : Nat), cells' ≤ cells + 1 → slots' ≤ slots + 5300 → ad' 0 = ad 0 → (∀ i, i < tC.1 → ∀ j, j < tM.1 → ad' i ≠ ad2 j) → Dy tC kc ad' D A s.heap σ' H locs → Dy tM kc ad2 D A s.heap τ' H locs → Inv σ' τ' → W p l e room_1 s m #[Value.ref b] below meth c H locs cells' slots' Q (F0 m 2123 ls [])) : W p l e room_1 s m #[Value.ref b] below meth c H locs cells slots Q (F0 m 1447 ls []) := by
  obtain ⟨r, σ', τ', hc, hm, hI⟩ := hs σ τ hI0
  unfold cC_27 at hc
  unfold cM_27 at hm
  have hcs0 : cells ≤ room_1.cells ∧ slots ≤ room_1.slots := ⟨by omega, by omega⟩
  refine lv_aload_n C.1.1 C.1.2.1 dL_law_1447 rfl (lv_at hl 1 rfl) ?_
  refine lv_aload_n C.1.1 C.1.2.1 dL_law_1448 rfl (lv_at hl 0 rfl) ?_
  refine lv_iload_n C.1.1 C.1.2.1 dL_law_1449 rfl (lv_at hl 3 rfl) ?_
  refine lv_iconst (v := 1) C.1.1 C.1.2.1 dL_law_1450 (by decide) ?_
  refine lv_iadd C.1.1 C.1.2.1 dL_law_1451 ?_
  refine va_sld C.1.1 C.1.2.1 hX hbl hbA Z1.2.2 (hv 1 (by decide)) dL_law_1452 ?_
  refine lv_aload_n C.1.1 C.1.2.1 dL_law_1453 rfl (lv_at hl 0 rfl) ?_
  refine lv_iload_n C.1.1 C.1.2.1 dL_law_1454 rfl (lv_at hl 3 rfl) ?_
  refine lv_iconst (v := 2) C.1.1 C.1.2.1 dL_law_1455 (by decide) ?_
  refine lv_iadd C.1.1 C.1.2.1 dL_law_1456 ?_
  refine va_sld C.1.1 C.1.2.1 hX hbl hbA Z1.2.2 (hv 2 (by decide)) dL_law_1457 ?_
  refine lv_aload_n C.1.1 C.1.2.1 dL_law_1458 rfl (lv_at hl 0 rfl) ?_
  refine lv_iload_n C.1.1 C.1.2.1 dL_law_1459 rfl (lv_at hl 3 rfl) ?_
  refine lv_iconst (v := 3) C.1.1 C.1.2.1 dL_law_1460 (by decide) ?_
  refine lv_iadd C.1.1 C.1.2.1 dL_law_1461 ?_
  refine va_sld C.1.1 C.1.2.1 hX hbl hbA Z1.2.2 (hv 3 (by decide)) dL_law_1462 ?_
  refine g_call2 (ov := (some (.int r))) (σ' := σ') (eC_ok adK adV) C Z1 Z2 hdj (eC_at C Z1) (k_X10_year hc) lk_L_133 (by decide) rfl rfl hl ⟨rfl, rfl, by decide, by decide⟩ hcs0 rfl (Nat.le_of_ble_eq_true rfl) (rest := []) rfl dL_law_1463 (fun H locs Z1 Z2 => ?_)
  refine lv_aload_n C.1.1 C.1.2.1 dL_law_1466 rfl (lv_at hl 2 rfl) ?_
  refine lv_aload_n C.1.1 C.1.2.1 dL_law_1467 rfl (lv_at hl 0 rfl) ?_
  refine lv_iload_n C.1.1 C.1.2.1 dL_law_1468 rfl (lv_at hl 3 rfl) ?_
  refine lv_iconst (v := 1) C.1.1 C.1.2.1 dL_law_1469 (by decide) ?_
  refine lv_iadd C.1.1 C.1.2.1 dL_law_1470 ?_
  refine va_sld C.1.1 C.1.2.1 hX hbl hbA Z1.2.2 (hv 1 (by decide)) dL_law_1471 ?_
  refine lv_aload_n C.1.1 C.1.2.1 dL_law_1472 rfl (lv_at hl 0 rfl) ?_
  refine lv_iload_n C.1.1 C.1.2.1 dL_law_1473 rfl (lv_at hl 3 rfl) ?_
  refine lv_iconst (v := 2) C.1.1 C.1.2.1 dL_law_1474 (by decide) ?_
  refine lv_iadd C.1.1 C.1.2.1 dL_law_1475 ?_
  refine va_sld C.1.1 C.1.2.1 hX hbl hbA Z1.2.2 (hv 2 (by decide)) dL_law_1476 ?_
  refine lv_aload_n C.1.1 C.1.2.1 dL_law_1477 rfl (lv_at hl 0 rfl) ?_
  refine lv_iload_n C.1.1 C.1.2.1 dL_law_1478 rfl (lv_at hl 3 rfl) ?_
  refine lv_iconst (v := 3) C.1.1 C.1.2.1 dL_law_1479 (by decide) ?_
  refine lv_iadd C.1.1 C.1.2.1 dL_law_1480 ?_
  refine va_sld C.1.1 C.1.2.1 hX hbl hbA Z1.2.2 (hv 3 (by decide)) dL_law_1481 ?_
  refine g_call2 (ov := (some (.int r))) (σ' := τ') eM_ok C Z2 Z1 (fun i hi j hj e => hdj j hj i hi e.symm) (fun _ _ _ => trivial) (k_X11_year hm) lk_L_136 (by decide) rfl rfl hl ⟨rfl, rfl, by decide, by decide⟩ hcs0 rfl (Nat.le_of_ble_eq_true rfl) (rest := [.int r]) rfl dL_law_1482 (fun H locs Z2 Z1 => ?_)
  refine lv_icmp_eq (tgt := 2123) C.1.1 C.1.2.1 dL_law_1485 (by decide) (fun _ => ?_) (fun z => absurd rfl z)
  exact hn ad _ _ _ _ _ _ (Nat.le_succ _) (Nat.le_add_right _ _) rfl hdj Z1 Z2 hI
set_option maxRecDepth 20000 in
theorem lw_case_28 {p : Program} {l : Launch} {e : Env} {s : State} {m : MethodId} {below : List Frame} {meth : Method} {c : Code} {Q : State → Prop} {D : va_G} {kc : Nat → ClassId} {ad ad2 : Nat → Nat} {A : Nat → Prop} {adK adV : Nat → Nat} {b L : Nat} {xs : Nat → Int32} {H : Heap} {locs : List Loc} {cells slots : Nat} {ls : Array Slot} {x3 : Int32} {σ τ : St} {Inv : St → St → Prop} (C : Cx (eC adK adV) p s m #[Value.ref b] c cL_law 4 RL D kc A) (hX : va_X b L xs s s.heap) (hbl : b < s.heap.size) (hbA : ¬ A b) (hv : ∀ k : Nat, k < 7 → vp_in (x3 + nI k) L) (hs : SimL Inv (cC_28 (xs (x3 + 1).toNatClampNeg) (xs (x3 + 2).toNatClampNeg)) (cM_28 (xs (x3 + 1).toNatClampNeg) (xs (x3 + 2).toNatClampNeg))) (Z1 : Dy tC kc ad D A s.heap σ H locs) (Z2 : Dy tM kc ad2 D A s.heap τ H locs) (hdj : ∀ i, i < tC.1 → ∀ j, j < tM.1 → ad i ≠ ad2 j) (hI0 : Inv σ τ) (hcs : cells + 1 ≤ room_1.cells ∧ slots + 5300 ≤ room_1.slots) (hl : lv_has ls 4 [(0, .ref b), (1, .ref (ad 0)), (2, .ref (ad2 0)), (3, .int x3)]) (hn : ∀ (ad' : Nat → Nat) (σ' τ' : St) (H : Heap) (locs : List Loc) (cells' slots' : Nat), cells' ≤ cells + 1 → slots' ≤ slots + 5300 → ad' 0 = ad 0 → (∀ i, i < tC.1 → ∀ j, j < tM.1 → ad' i ≠ ad2 j) → Dy tC kc ad' D A s.heap σ' H locs → Dy tM kc ad2 D A s.heap τ' H locs → Inv σ' τ' → W p l e room_1 s m #[Value.ref b] below meth c H locs cells' slots' Q (F0 m 2123 ls [])) : W p l e room_1 s m #[Value.ref b] below meth c H locs cells slots Q (F0 m 1490 ls []) := by
  obtain ⟨r, σ', τ', hc, hm, hI⟩ := hs σ τ hI0
  unfold cC_28 at hc
  unfold cM_28 at hm
  have hc := mapO hc
  have ehc := hc.2
  subst ehc
  have hm := mapO hm
  have ehm := hm.2
  subst ehm
  have hcs0 : cells ≤ room_1.cells ∧ slots ≤ room_1.slots := ⟨by omega, by omega⟩
  refine lv_aload_n C.1.1 C.1.2.1 dL_law_1490 rfl (lv_at hl 1 rfl) ?_
  refine lv_aload_n C.1.1 C.1.2.1 dL_law_1491 rfl (lv_at hl 0 rfl) ?_
  refine lv_iload_n C.1.1 C.1.2.1 dL_law_1492 rfl (lv_at hl 3 rfl) ?_
  refine lv_iconst (v := 1) C.1.1 C.1.2.1 dL_law_1493 (by decide) ?_
  refine lv_iadd C.1.1 C.1.2.1 dL_law_1494 ?_
  refine va_sld C.1.1 C.1.2.1 hX hbl hbA Z1.2.2 (hv 1 (by decide)) dL_law_1495 ?_
  refine lv_aload_n C.1.1 C.1.2.1 dL_law_1496 rfl (lv_at hl 0 rfl) ?_
  refine lv_iload_n C.1.1 C.1.2.1 dL_law_1497 rfl (lv_at hl 3 rfl) ?_
  refine lv_iconst (v := 2) C.1.1 C.1.2.1 dL_law_1498 (by decide) ?_
  refine lv_iadd C.1.1 C.1.2.1 dL_law_1499 ?_
  refine va_sld C.1.1 C.1.2.1 hX hbl hbA Z1.2.2 (hv 2 (by decide)) dL_law_1500 ?_
  refine g_call2 (ov := (some (.long r))) (σ' := σ') (eC_ok adK adV) C Z1 Z2 hdj (eC_at C Z1) (k_X10_stock hc.1) lk_L_137 (by decide) rfl rfl hl ⟨rfl, rfl, by decide, by decide⟩ hcs0 rfl (Nat.le_of_ble_eq_true rfl) (rest := []) rfl dL_law_1501 (fun H locs Z1 Z2 => ?_)
  refine lv_aload_n C.1.1 C.1.2.1 dL_law_1504 rfl (lv_at hl 2 rfl) ?_
  refine lv_aload_n C.1.1 C.1.2.1 dL_law_1505 rfl (lv_at hl 0 rfl) ?_
  refine lv_iload_n C.1.1 C.1.2.1 dL_law_1506 rfl (lv_at hl 3 rfl) ?_
  refine lv_iconst (v := 1) C.1.1 C.1.2.1 dL_law_1507 (by decide) ?_
  refine lv_iadd C.1.1 C.1.2.1 dL_law_1508 ?_
  refine va_sld C.1.1 C.1.2.1 hX hbl hbA Z1.2.2 (hv 1 (by decide)) dL_law_1509 ?_
  refine lv_aload_n C.1.1 C.1.2.1 dL_law_1510 rfl (lv_at hl 0 rfl) ?_
  refine lv_iload_n C.1.1 C.1.2.1 dL_law_1511 rfl (lv_at hl 3 rfl) ?_
  refine lv_iconst (v := 2) C.1.1 C.1.2.1 dL_law_1512 (by decide) ?_
  refine lv_iadd C.1.1 C.1.2.1 dL_law_1513 ?_
  refine va_sld C.1.1 C.1.2.1 hX hbl hbA Z1.2.2 (hv 2 (by decide)) dL_law_1514 ?_
  refine g_call2 (ov := (some (.long r))) (σ' := τ') eM_ok C Z2 Z1 (fun i hi j hj e => hdj j hj i hi e.symm) (fun _ _ _ => trivial) (k_X11_stock hm.1) lk_L_141 (by decide) rfl rfl hl ⟨rfl, rfl, by decide, by decide⟩ hcs0 rfl (Nat.le_of_ble_eq_true rfl) (rest := [.long r]) rfl dL_law_1515 (fun H locs Z2 Z1 => ?_)
  refine g_leq (tgt := 2123) C.1.1 C.1.2.1 dL_law_1518 dL_law_1519 (by decide) (fun _ => ?_) (fun z => absurd rfl z)
  exact hn ad _ _ _ _ _ _ (Nat.le_succ _) (Nat.le_add_right _ _) rfl hdj Z1 Z2 hI
set_option maxRecDepth 20000 in
theorem lw_case_29 {p : Program} {l : Launch} {e : Env} {s : State} {m : MethodId} {below : List Frame} {meth : Method} {c : Code} {Q : State → Prop} {D : va_G} {kc : Nat → ClassId} {ad ad2 : Nat → Nat} {A : Nat → Prop} {adK adV : Nat → Nat} {b L : Nat} {xs : Nat → Int32} {H : Heap} {locs : List Loc} {cells slots : Nat} {ls : Array Slot} {x3 : Int32} {σ τ : St} {Inv : St → St → Prop} (C : Cx (eC adK adV) p s m #[Value.ref b] c cL_law 4 RL D kc A) (hX : va_X b L xs s s.heap) (hbl : b < s.heap.size) (hbA : ¬ A b) (hv : ∀ k : Nat, k < 7 → vp_in (x3 + nI k) L) (hs : SimI Inv (cC_29 (xs (x3 + 1).toNatClampNeg)) (cM_29 (xs (x3 + 1).toNatClampNeg))) (Z1 : Dy tC kc ad D A s.heap σ H locs) (Z2 : Dy tM kc ad2 D A s.heap τ H locs) (hdj : ∀ i, i < tC.1 → ∀ j, j < tM.1 → ad i ≠ ad2 j) (hI0 : Inv σ τ) (hcs : cells + 1 ≤ room_1.cells ∧ slots + 5300 ≤ room_1.slots) (hl : lv_has ls 4 [(0, .ref b), (1, .ref (ad 0)), (2, .ref (ad2 0)), (3, .int x3)]) (hn : ∀ (ad' : Nat → Nat) (σ' τ' : St) (H : Heap) (locs : List Loc) (cells' slots' : Nat), cells' ≤ cells + 1 → slots' ≤ slots + 5300 → ad' 0 = ad 0 → (∀ i, i < tC.1 → ∀ j, j < tM.1 → ad' i ≠ ad2 j) → Dy tC kc ad' D A s.heap σ' H locs → Dy tM kc ad2 D A s.heap τ' H locs → Inv σ' τ' → W p l e room_1 s m #[Value.ref b] below meth c H locs cells' slots' Q (F0 m 2123 ls [])) : W p l e room_1 s m #[Value.ref b] below meth c H locs cells slots Q (F0 m 1524 ls []) := by
  obtain ⟨r, σ', τ', hc, hm, hI⟩ := hs σ τ hI0
  unfold cC_29 at hc
  unfold cM_29 at hm
  have hc := mapO hc
  have ehc := hc.2
  subst ehc
  have hm := mapO hm
  have ehm := hm.2
  subst ehm
  have hcs0 : cells ≤ room_1.cells ∧ slots ≤ room_1.slots := ⟨by omega, by omega⟩
  refine lv_aload_n C.1.1 C.1.2.1 dL_law_1524 rfl (lv_at hl 1 rfl) ?_
  refine lv_aload_n C.1.1 C.1.2.1 dL_law_1525 rfl (lv_at hl 0 rfl) ?_
  refine lv_iload_n C.1.1 C.1.2.1 dL_law_1526 rfl (lv_at hl 3 rfl) ?_
  refine lv_iconst (v := 1) C.1.1 C.1.2.1 dL_law_1527 (by decide) ?_
  refine lv_iadd C.1.1 C.1.2.1 dL_law_1528 ?_
  refine va_sld C.1.1 C.1.2.1 hX hbl hbA Z1.2.2 (hv 1 (by decide)) dL_law_1529 ?_
  refine g_call2 (ov := (some (.int r))) (σ' := σ') (eC_ok adK adV) C Z1 Z2 hdj (eC_at C Z1) (k_X10_fails hc.1) lk_L_142 (by decide) rfl rfl hl ⟨rfl, rfl, by decide, by decide⟩ hcs0 rfl (Nat.le_of_ble_eq_true rfl) (rest := []) rfl dL_law_1530 (fun H locs Z1 Z2 => ?_)
  refine lv_aload_n C.1.1 C.1.2.1 dL_law_1533 rfl (lv_at hl 2 rfl) ?_
  refine lv_aload_n C.1.1 C.1.2.1 dL_law_1534 rfl (lv_at hl 0 rfl) ?_
  refine lv_iload_n C.1.1 C.1.2.1 dL_law_1535 rfl (lv_at hl 3 rfl) ?_
  refine lv_iconst (v := 1) C.1.1 C.1.2.1 dL_law_1536 (by decide) ?_
  refine lv_iadd C.1.1 C.1.2.1 dL_law_1537 ?_
  refine va_sld C.1.1 C.1.2.1 hX hbl hbA Z1.2.2 (hv 1 (by decide)) dL_law_1538 ?_
  refine g_call2 (ov := (some (.int r))) (σ' := τ') eM_ok C Z2 Z1 (fun i hi j hj e => hdj j hj i hi e.symm) (fun _ _ _ => trivial) (k_X11_fails_ hm.1) lk_L_145 (by decide) rfl rfl hl ⟨rfl, rfl, by decide, by decide⟩ hcs0 rfl (Nat.le_of_ble_eq_true rfl) (rest := [.int r]) rfl dL_law_1539 (fun H locs Z2 Z1 => ?_)
  refine lv_icmp_eq (tgt := 2123) C.1.1 C.1.2.1 dL_law_1542 (by decide) (fun _ => ?_) (fun z => absurd rfl z)
  exact hn ad _ _ _ _ _ _ (Nat.le_succ _) (Nat.le_add_right _ _) rfl hdj Z1 Z2 hI
set_option maxRecDepth 20000 in
theorem lw_case_30 {p : Program} {l : Launch} {e : Env} {s : State} {m : MethodId} {below : List Frame} {meth : Method} {c : Code} {Q : State → Prop} {D : va_G} {kc : Nat → ClassId} {ad ad2 : Nat → Nat} {A : Nat → Prop} {adK adV : Nat → Nat} {b L : Nat} {xs : Nat → Int32} {H : Heap} {locs : List Loc} {cells slots : Nat} {ls : Array Slot} {x3 : Int32} {σ τ : St} {Inv : St → St → Prop} (C : Cx (eC adK adV) p s m #[Value.ref b] c cL_law 4 RL D kc A) (hX : va_X b L xs s s.heap) (hbl : b < s.heap.size) (hbA : ¬ A b) (hv : ∀ k : Nat, k < 7 → vp_in (x3 + nI k) L) (hs : SimI Inv (cC_30 (xs (x3 + 1).toNatClampNeg) (xs (x3 + 2).toNatClampNeg)) (cM_30 (xs (x3 + 1).toNatClampNeg) (xs (x3 + 2).toNatClampNeg))) (Z1 : Dy tC kc ad D A s.heap σ H locs) (Z2 : Dy tM kc ad2 D A s.heap τ H locs) (hdj : ∀ i, i < tC.1 → ∀ j, j < tM.1 → ad i ≠ ad2 j) (hI0 : Inv σ τ) (hcs : cells + 1 ≤ room_1.cells ∧ slots + 5300 ≤ room_1.slots) (hl : lv_has ls 4 [(0, .ref b), (1, .ref (ad 0)), (2, .ref (ad2 0)), (3, .int x3)]) (hn : ∀ (ad' : Nat → Nat) (σ' τ' : St) (H : Heap) (locs : List Loc) (cells' slots' : Nat), cells' ≤ cells + 1 → slots' ≤ slots + 5300 → ad' 0 = ad 0 → (∀ i, i < tC.1 → ∀ j, j < tM.1 → ad' i ≠ ad2 j) → Dy tC kc ad' D A s.heap σ' H locs → Dy tM kc ad2 D A s.heap τ' H locs → Inv σ' τ' → W p l e room_1 s m #[Value.ref b] below meth c H locs cells' slots' Q (F0 m 2123 ls [])) : W p l e room_1 s m #[Value.ref b] below meth c H locs cells slots Q (F0 m 1547 ls []) := by
  obtain ⟨r, σ', τ', hc, hm, hI⟩ := hs σ τ hI0
  unfold cC_30 at hc
  unfold cM_30 at hm
  have hc := mapO hc
  have ehc := hc.2
  subst ehc
  have hm := mapO hm
  have ehm := hm.2
  subst ehm
  have hcs0 : cells ≤ room_1.cells ∧ slots ≤ room_1.slots := ⟨by omega, by omega⟩
  refine lv_aload_n C.1.1 C.1.2.1 dL_law_1547 rfl (lv_at hl 1 rfl) ?_
  refine lv_aload_n C.1.1 C.1.2.1 dL_law_1548 rfl (lv_at hl 0 rfl) ?_
  refine lv_iload_n C.1.1 C.1.2.1 dL_law_1549 rfl (lv_at hl 3 rfl) ?_
  refine lv_iconst (v := 1) C.1.1 C.1.2.1 dL_law_1550 (by decide) ?_
  refine lv_iadd C.1.1 C.1.2.1 dL_law_1551 ?_
  refine va_sld C.1.1 C.1.2.1 hX hbl hbA Z1.2.2 (hv 1 (by decide)) dL_law_1552 ?_
  refine lv_aload_n C.1.1 C.1.2.1 dL_law_1553 rfl (lv_at hl 0 rfl) ?_
  refine lv_iload_n C.1.1 C.1.2.1 dL_law_1554 rfl (lv_at hl 3 rfl) ?_
  refine lv_iconst (v := 2) C.1.1 C.1.2.1 dL_law_1555 (by decide) ?_
  refine lv_iadd C.1.1 C.1.2.1 dL_law_1556 ?_
  refine va_sld C.1.1 C.1.2.1 hX hbl hbA Z1.2.2 (hv 2 (by decide)) dL_law_1557 ?_
  refine g_call2 (ov := (some (.int r))) (σ' := σ') (eC_ok adK adV) C Z1 Z2 hdj (eC_at C Z1) (k_X10_agree hc.1) lk_L_146 (by decide) rfl rfl hl ⟨rfl, rfl, by decide, by decide⟩ hcs0 rfl (Nat.le_of_ble_eq_true rfl) (rest := []) rfl dL_law_1558 (fun H locs Z1 Z2 => ?_)
  refine lv_aload_n C.1.1 C.1.2.1 dL_law_1561 rfl (lv_at hl 2 rfl) ?_
  refine lv_aload_n C.1.1 C.1.2.1 dL_law_1562 rfl (lv_at hl 0 rfl) ?_
  refine lv_iload_n C.1.1 C.1.2.1 dL_law_1563 rfl (lv_at hl 3 rfl) ?_
  refine lv_iconst (v := 1) C.1.1 C.1.2.1 dL_law_1564 (by decide) ?_
  refine lv_iadd C.1.1 C.1.2.1 dL_law_1565 ?_
  refine va_sld C.1.1 C.1.2.1 hX hbl hbA Z1.2.2 (hv 1 (by decide)) dL_law_1566 ?_
  refine lv_aload_n C.1.1 C.1.2.1 dL_law_1567 rfl (lv_at hl 0 rfl) ?_
  refine lv_iload_n C.1.1 C.1.2.1 dL_law_1568 rfl (lv_at hl 3 rfl) ?_
  refine lv_iconst (v := 2) C.1.1 C.1.2.1 dL_law_1569 (by decide) ?_
  refine lv_iadd C.1.1 C.1.2.1 dL_law_1570 ?_
  refine va_sld C.1.1 C.1.2.1 hX hbl hbA Z1.2.2 (hv 2 (by decide)) dL_law_1571 ?_
  refine g_call2 (ov := (some (.int r))) (σ' := τ') eM_ok C Z2 Z1 (fun i hi j hj e => hdj j hj i hi e.symm) (fun _ _ _ => trivial) (k_X11_agree hm.1) lk_L_149 (by decide) rfl rfl hl ⟨rfl, rfl, by decide, by decide⟩ hcs0 rfl (Nat.le_of_ble_eq_true rfl) (rest := [.int r]) rfl dL_law_1572 (fun H locs Z2 Z1 => ?_)
  refine lv_icmp_eq (tgt := 2123) C.1.1 C.1.2.1 dL_law_1575 (by decide) (fun _ => ?_) (fun z => absurd rfl z)
  exact hn ad _ _ _ _ _ _ (Nat.le_succ _) (Nat.le_add_right _ _) rfl hdj Z1 Z2 hI
set_option maxRecDepth 20000 in
theorem lw_case_31 {p : Program} {l : Launch} {e : Env} {s : State} {m : MethodId} {below : List Frame} {meth : Method} {c : Code} {Q : State → Prop} {D : va_G} {kc : Nat → ClassId} {ad ad2 : Nat → Nat} {A : Nat → Prop} {adK adV : Nat → Nat} {b L : Nat} {xs : Nat → Int32} {H : Heap} {locs : List Loc} {cells slots : Nat} {ls : Array Slot} {x3 : Int32} {σ τ : St} {Inv : St → St → Prop} (C : Cx (eC adK adV) p s m #[Value.ref b] c cL_law 4 RL D kc A) (hX : va_X b L xs s s.heap) (hbl : b < s.heap.size) (hbA : ¬ A b) (hv : ∀ k : Nat, k < 7 → vp_in (x3 + nI k) L) (hs : SimI Inv (cC_31 (xs (x3 + 1).toNatClampNeg) (xs (x3 + 2).toNatClampNeg) (xs (x3 + 3).toNatClampNeg) (xs (x3 + 4).toNatClampNeg)) (cM_31 (xs (x3 + 1).toNatClampNeg) (xs (x3 + 2).toNatClampNeg) (xs (x3 + 3).toNatClampNeg) (xs (x3 + 4).toNatClampNeg))) (Z1 : Dy tC kc ad D A s.heap σ H locs) (Z2 : Dy tM kc ad2 D A s.heap τ H locs) (hdj : ∀ i, i < tC.1 → ∀ j, j < tM.1 → ad i ≠ ad2 j) (hI0 : Inv σ τ) (hcs : cells + 1 ≤ room_1.cells ∧ slots + 5300 ≤ room_1.slots) (hl : lv_has ls 4 [(0, .ref b), (1, .ref (ad 0)), (2, .ref (ad2 0)), (3, .int x3)]) (hn : ∀ (ad' : Nat → Nat) (σ' τ' : St) (H : Heap) (locs : List Loc) (cells' slots' : Nat), cells' ≤ cells + 1 → slots' ≤ slots + 5300 → ad' 0 = ad 0 → (∀ i, i < tC.1 → ∀ j, j < tM.1 → ad' i ≠ ad2 j) → Dy tC kc ad' D A s.heap σ' H locs → Dy tM kc ad2 D A s.heap τ' H locs → Inv σ' τ' → W p l e room_1 s m #[Value.ref b] below meth c H locs cells' slots' Q (F0 m 2123 ls [])) : W p l e room_1 s m #[Value.ref b] below meth c H locs cells slots Q (F0 m 1580 ls []) := by
  obtain ⟨r, σ', τ', hc, hm, hI⟩ := hs σ τ hI0
  unfold cC_31 at hc
  unfold cM_31 at hm
  have hcs0 : cells ≤ room_1.cells ∧ slots ≤ room_1.slots := ⟨by omega, by omega⟩
  refine lv_aload_n C.1.1 C.1.2.1 dL_law_1580 rfl (lv_at hl 1 rfl) ?_
  refine lv_aload_n C.1.1 C.1.2.1 dL_law_1581 rfl (lv_at hl 0 rfl) ?_
  refine lv_iload_n C.1.1 C.1.2.1 dL_law_1582 rfl (lv_at hl 3 rfl) ?_
  refine lv_iconst (v := 1) C.1.1 C.1.2.1 dL_law_1583 (by decide) ?_
  refine lv_iadd C.1.1 C.1.2.1 dL_law_1584 ?_
  refine va_sld C.1.1 C.1.2.1 hX hbl hbA Z1.2.2 (hv 1 (by decide)) dL_law_1585 ?_
  refine lv_aload_n C.1.1 C.1.2.1 dL_law_1586 rfl (lv_at hl 0 rfl) ?_
  refine lv_iload_n C.1.1 C.1.2.1 dL_law_1587 rfl (lv_at hl 3 rfl) ?_
  refine lv_iconst (v := 2) C.1.1 C.1.2.1 dL_law_1588 (by decide) ?_
  refine lv_iadd C.1.1 C.1.2.1 dL_law_1589 ?_
  refine va_sld C.1.1 C.1.2.1 hX hbl hbA Z1.2.2 (hv 2 (by decide)) dL_law_1590 ?_
  refine lv_aload_n C.1.1 C.1.2.1 dL_law_1591 rfl (lv_at hl 0 rfl) ?_
  refine lv_iload_n C.1.1 C.1.2.1 dL_law_1592 rfl (lv_at hl 3 rfl) ?_
  refine lv_iconst (v := 3) C.1.1 C.1.2.1 dL_law_1593 (by decide) ?_
  refine lv_iadd C.1.1 C.1.2.1 dL_law_1594 ?_
  refine va_sld C.1.1 C.1.2.1 hX hbl hbA Z1.2.2 (hv 3 (by decide)) dL_law_1595 ?_
  refine lv_aload_n C.1.1 C.1.2.1 dL_law_1596 rfl (lv_at hl 0 rfl) ?_
  refine lv_iload_n C.1.1 C.1.2.1 dL_law_1597 rfl (lv_at hl 3 rfl) ?_
  refine lv_iconst (v := 4) C.1.1 C.1.2.1 dL_law_1598 (by decide) ?_
  refine lv_iadd C.1.1 C.1.2.1 dL_law_1599 ?_
  refine va_sld C.1.1 C.1.2.1 hX hbl hbA Z1.2.2 (hv 4 (by decide)) dL_law_1600 ?_
  refine g_call2 (ov := (some (.int r))) (σ' := σ') (eC_ok adK adV) C Z1 Z2 hdj (eC_at C Z1) (k_X10_age hc) lk_L_150 (by decide) rfl rfl hl ⟨rfl, rfl, by decide, by decide⟩ hcs0 rfl (Nat.le_of_ble_eq_true rfl) (rest := []) rfl dL_law_1601 (fun H locs Z1 Z2 => ?_)
  refine lv_aload_n C.1.1 C.1.2.1 dL_law_1604 rfl (lv_at hl 2 rfl) ?_
  refine lv_aload_n C.1.1 C.1.2.1 dL_law_1605 rfl (lv_at hl 0 rfl) ?_
  refine lv_iload_n C.1.1 C.1.2.1 dL_law_1606 rfl (lv_at hl 3 rfl) ?_
  refine lv_iconst (v := 1) C.1.1 C.1.2.1 dL_law_1607 (by decide) ?_
  refine lv_iadd C.1.1 C.1.2.1 dL_law_1608 ?_
  refine va_sld C.1.1 C.1.2.1 hX hbl hbA Z1.2.2 (hv 1 (by decide)) dL_law_1609 ?_
  refine lv_aload_n C.1.1 C.1.2.1 dL_law_1610 rfl (lv_at hl 0 rfl) ?_
  refine lv_iload_n C.1.1 C.1.2.1 dL_law_1611 rfl (lv_at hl 3 rfl) ?_
  refine lv_iconst (v := 2) C.1.1 C.1.2.1 dL_law_1612 (by decide) ?_
  refine lv_iadd C.1.1 C.1.2.1 dL_law_1613 ?_
  refine va_sld C.1.1 C.1.2.1 hX hbl hbA Z1.2.2 (hv 2 (by decide)) dL_law_1614 ?_
  refine lv_aload_n C.1.1 C.1.2.1 dL_law_1615 rfl (lv_at hl 0 rfl) ?_
  refine lv_iload_n C.1.1 C.1.2.1 dL_law_1616 rfl (lv_at hl 3 rfl) ?_
  refine lv_iconst (v := 3) C.1.1 C.1.2.1 dL_law_1617 (by decide) ?_
  refine lv_iadd C.1.1 C.1.2.1 dL_law_1618 ?_
  refine va_sld C.1.1 C.1.2.1 hX hbl hbA Z1.2.2 (hv 3 (by decide)) dL_law_1619 ?_
  refine lv_aload_n C.1.1 C.1.2.1 dL_law_1620 rfl (lv_at hl 0 rfl) ?_
  refine lv_iload_n C.1.1 C.1.2.1 dL_law_1621 rfl (lv_at hl 3 rfl) ?_
  refine lv_iconst (v := 4) C.1.1 C.1.2.1 dL_law_1622 (by decide) ?_
  refine lv_iadd C.1.1 C.1.2.1 dL_law_1623 ?_
  refine va_sld C.1.1 C.1.2.1 hX hbl hbA Z1.2.2 (hv 4 (by decide)) dL_law_1624 ?_
  refine g_call2 (ov := (some (.int r))) (σ' := τ') eM_ok C Z2 Z1 (fun i hi j hj e => hdj j hj i hi e.symm) (fun _ _ _ => trivial) (k_X11_age hm) lk_L_154 (by decide) rfl rfl hl ⟨rfl, rfl, by decide, by decide⟩ hcs0 rfl (Nat.le_of_ble_eq_true rfl) (rest := [.int r]) rfl dL_law_1625 (fun H locs Z2 Z1 => ?_)
  refine lv_icmp_eq (tgt := 2123) C.1.1 C.1.2.1 dL_law_1628 (by decide) (fun _ => ?_) (fun z => absurd rfl z)
  exact hn ad _ _ _ _ _ _ (Nat.le_succ _) (Nat.le_add_right _ _) rfl hdj Z1 Z2 hI
set_option maxRecDepth 20000 in
theorem lw_case_32 {p : Program} {l : Launch} {e : Env} {s : State} {m : MethodId} {below : List Frame} {meth : Method} {c : Code} {Q : State → Prop} {D : va_G} {kc : Nat → ClassId} {ad ad2 : Nat → Nat} {A : Nat → Prop} {adK adV : Nat → Nat} {b L : Nat} {xs : Nat → Int32} {H : Heap} {locs : List Loc} {cells slots : Nat} {ls : Array Slot} {x3 : Int32} {σ τ : St} {Inv : St → St → Prop} (C : Cx (eC adK adV) p s m #[Value.ref b] c cL_law 4 RL D kc A) (hX : va_X b L xs s s.heap) (hbl : b < s.heap.size) (hbA : ¬ A b) (hv : ∀ k : Nat, k < 7 → vp_in (x3 + nI k) L) (hs : SimL Inv (cC_32 (xs (x3 + 1).toNatClampNeg) (xs (x3 + 2).toNatClampNeg) (xs (x3 + 3).toNatClampNeg) (xs (x3 + 4).toNatClampNeg) (xs (x3 + 5).toNatClampNeg)) (cM_32 (xs (x3 + 1).toNatClampNeg) (xs (x3 + 2).toNatClampNeg) (xs (x3 + 3).toNatClampNeg) (xs (x3 + 4).toNatClampNeg) (xs (x3 + 5).toNatClampNeg))) (Z1 : Dy tC kc ad D A s.heap σ H locs) (Z2 : Dy tM kc ad2 D A s.heap τ H locs) (hdj : ∀ i, i < tC.1 → ∀ j, j < tM.1 → ad i ≠ ad2 j) (hI0 : Inv σ τ) (hcs : cells + 1 ≤ room_1.cells ∧ slots + 5300 ≤ room_1.slots) (hl : lv_has ls 4 [(0, .ref b), (1, .ref (ad 0)), (2, .ref (ad2 0)), (3, .int x3)]) (hn : ∀ (ad' : Nat → Nat) (σ' τ' : St) (H : Heap) (locs : List Loc) (cells' slots' : Nat), cells' ≤ cells + 1 → slots' ≤ slots + 5300 → ad' 0 = ad 0 → (∀ i, i < tC.1 → ∀ j, j < tM.1 → ad' i ≠ ad2 j) → Dy tC kc ad' D A s.heap σ' H locs → Dy tM kc ad2 D A s.heap τ' H locs → Inv σ' τ' → W p l e room_1 s m #[Value.ref b] below meth c H locs cells' slots' Q (F0 m 2123 ls [])) : W p l e room_1 s m #[Value.ref b] below meth c H locs cells slots Q (F0 m 1633 ls []) := by
  obtain ⟨r, σ', τ', hc, hm, hI⟩ := hs σ τ hI0
  unfold cC_32 at hc
  unfold cM_32 at hm
  have hcs0 : cells ≤ room_1.cells ∧ slots ≤ room_1.slots := ⟨by omega, by omega⟩
  refine lv_aload_n C.1.1 C.1.2.1 dL_law_1633 rfl (lv_at hl 1 rfl) ?_
  refine lv_aload_n C.1.1 C.1.2.1 dL_law_1634 rfl (lv_at hl 0 rfl) ?_
  refine lv_iload_n C.1.1 C.1.2.1 dL_law_1635 rfl (lv_at hl 3 rfl) ?_
  refine lv_iconst (v := 1) C.1.1 C.1.2.1 dL_law_1636 (by decide) ?_
  refine lv_iadd C.1.1 C.1.2.1 dL_law_1637 ?_
  refine va_sld C.1.1 C.1.2.1 hX hbl hbA Z1.2.2 (hv 1 (by decide)) dL_law_1638 ?_
  refine lv_aload_n C.1.1 C.1.2.1 dL_law_1639 rfl (lv_at hl 0 rfl) ?_
  refine lv_iload_n C.1.1 C.1.2.1 dL_law_1640 rfl (lv_at hl 3 rfl) ?_
  refine lv_iconst (v := 2) C.1.1 C.1.2.1 dL_law_1641 (by decide) ?_
  refine lv_iadd C.1.1 C.1.2.1 dL_law_1642 ?_
  refine va_sld C.1.1 C.1.2.1 hX hbl hbA Z1.2.2 (hv 2 (by decide)) dL_law_1643 ?_
  refine lv_aload_n C.1.1 C.1.2.1 dL_law_1644 rfl (lv_at hl 0 rfl) ?_
  refine lv_iload_n C.1.1 C.1.2.1 dL_law_1645 rfl (lv_at hl 3 rfl) ?_
  refine lv_iconst (v := 3) C.1.1 C.1.2.1 dL_law_1646 (by decide) ?_
  refine lv_iadd C.1.1 C.1.2.1 dL_law_1647 ?_
  refine va_sld C.1.1 C.1.2.1 hX hbl hbA Z1.2.2 (hv 3 (by decide)) dL_law_1648 ?_
  refine lv_aload_n C.1.1 C.1.2.1 dL_law_1649 rfl (lv_at hl 0 rfl) ?_
  refine lv_iload_n C.1.1 C.1.2.1 dL_law_1650 rfl (lv_at hl 3 rfl) ?_
  refine lv_iconst (v := 4) C.1.1 C.1.2.1 dL_law_1651 (by decide) ?_
  refine lv_iadd C.1.1 C.1.2.1 dL_law_1652 ?_
  refine va_sld C.1.1 C.1.2.1 hX hbl hbA Z1.2.2 (hv 4 (by decide)) dL_law_1653 ?_
  refine lv_aload_n C.1.1 C.1.2.1 dL_law_1654 rfl (lv_at hl 0 rfl) ?_
  refine lv_iload_n C.1.1 C.1.2.1 dL_law_1655 rfl (lv_at hl 3 rfl) ?_
  refine lv_iconst (v := 5) C.1.1 C.1.2.1 dL_law_1656 (by decide) ?_
  refine lv_iadd C.1.1 C.1.2.1 dL_law_1657 ?_
  refine va_sld C.1.1 C.1.2.1 hX hbl hbA Z1.2.2 (hv 5 (by decide)) dL_law_1658 ?_
  refine g_call2 (ov := (some (.long r))) (σ' := σ') (eC_ok adK adV) C Z1 Z2 hdj (eC_at C Z1) (k_X10_landed hc) lk_L_155 (by decide) rfl rfl hl ⟨rfl, rfl, by decide, by decide⟩ hcs0 rfl (Nat.le_of_ble_eq_true rfl) (rest := []) rfl dL_law_1659 (fun H locs Z1 Z2 => ?_)
  refine lv_aload_n C.1.1 C.1.2.1 dL_law_1662 rfl (lv_at hl 2 rfl) ?_
  refine lv_aload_n C.1.1 C.1.2.1 dL_law_1663 rfl (lv_at hl 0 rfl) ?_
  refine lv_iload_n C.1.1 C.1.2.1 dL_law_1664 rfl (lv_at hl 3 rfl) ?_
  refine lv_iconst (v := 1) C.1.1 C.1.2.1 dL_law_1665 (by decide) ?_
  refine lv_iadd C.1.1 C.1.2.1 dL_law_1666 ?_
  refine va_sld C.1.1 C.1.2.1 hX hbl hbA Z1.2.2 (hv 1 (by decide)) dL_law_1667 ?_
  refine lv_aload_n C.1.1 C.1.2.1 dL_law_1668 rfl (lv_at hl 0 rfl) ?_
  refine lv_iload_n C.1.1 C.1.2.1 dL_law_1669 rfl (lv_at hl 3 rfl) ?_
  refine lv_iconst (v := 2) C.1.1 C.1.2.1 dL_law_1670 (by decide) ?_
  refine lv_iadd C.1.1 C.1.2.1 dL_law_1671 ?_
  refine va_sld C.1.1 C.1.2.1 hX hbl hbA Z1.2.2 (hv 2 (by decide)) dL_law_1672 ?_
  refine lv_aload_n C.1.1 C.1.2.1 dL_law_1673 rfl (lv_at hl 0 rfl) ?_
  refine lv_iload_n C.1.1 C.1.2.1 dL_law_1674 rfl (lv_at hl 3 rfl) ?_
  refine lv_iconst (v := 3) C.1.1 C.1.2.1 dL_law_1675 (by decide) ?_
  refine lv_iadd C.1.1 C.1.2.1 dL_law_1676 ?_
  refine va_sld C.1.1 C.1.2.1 hX hbl hbA Z1.2.2 (hv 3 (by decide)) dL_law_1677 ?_
  refine lv_aload_n C.1.1 C.1.2.1 dL_law_1678 rfl (lv_at hl 0 rfl) ?_
  refine lv_iload_n C.1.1 C.1.2.1 dL_law_1679 rfl (lv_at hl 3 rfl) ?_
  refine lv_iconst (v := 4) C.1.1 C.1.2.1 dL_law_1680 (by decide) ?_
  refine lv_iadd C.1.1 C.1.2.1 dL_law_1681 ?_
  refine va_sld C.1.1 C.1.2.1 hX hbl hbA Z1.2.2 (hv 4 (by decide)) dL_law_1682 ?_
  refine lv_aload_n C.1.1 C.1.2.1 dL_law_1683 rfl (lv_at hl 0 rfl) ?_
  refine lv_iload_n C.1.1 C.1.2.1 dL_law_1684 rfl (lv_at hl 3 rfl) ?_
  refine lv_iconst (v := 5) C.1.1 C.1.2.1 dL_law_1685 (by decide) ?_
  refine lv_iadd C.1.1 C.1.2.1 dL_law_1686 ?_
  refine va_sld C.1.1 C.1.2.1 hX hbl hbA Z1.2.2 (hv 5 (by decide)) dL_law_1687 ?_
  refine g_call2 (ov := (some (.long r))) (σ' := τ') eM_ok C Z2 Z1 (fun i hi j hj e => hdj j hj i hi e.symm) (fun _ _ _ => trivial) (k_X11_landed hm) lk_L_158 (by decide) rfl rfl hl ⟨rfl, rfl, by decide, by decide⟩ hcs0 rfl (Nat.le_of_ble_eq_true rfl) (rest := [.long r]) rfl dL_law_1688 (fun H locs Z2 Z1 => ?_)
  refine g_leq (tgt := 2123) C.1.1 C.1.2.1 dL_law_1691 dL_law_1692 (by decide) (fun _ => ?_) (fun z => absurd rfl z)
  exact hn ad _ _ _ _ _ _ (Nat.le_succ _) (Nat.le_add_right _ _) rfl hdj Z1 Z2 hI
set_option maxRecDepth 20000 in
theorem lw_case_33 {p : Program} {l : Launch} {e : Env} {s : State} {m : MethodId} {below : List Frame} {meth : Method} {c : Code} {Q : State → Prop} {D : va_G} {kc : Nat → ClassId} {ad ad2 : Nat → Nat} {A : Nat → Prop} {adK adV : Nat → Nat} {b L : Nat} {xs : Nat → Int32} {H : Heap} {locs : List Loc} {cells slots : Nat} {ls : Array Slot} {x3 : Int32} {σ τ : St} {Inv : St → St → Prop} (C : Cx (eC adK adV) p s m #[Value.ref b] c cL_law 4 RL D kc A) (hX : va_X b L xs s s.heap) (hbl : b < s.heap.size) (hbA : ¬ A b) (hv : ∀ k : Nat, k < 7 → vp_in (x3 + nI k) L) (hs : SimI Inv (cC_33 (xs (x3 + 1).toNatClampNeg) (xs (x3 + 2).toNatClampNeg) (xs (x3 + 3).toNatClampNeg) (xs (x3 + 4).toNatClampNeg) (xs (x3 + 5).toNatClampNeg)) (cM_33 (xs (x3 + 1).toNatClampNeg) (xs (x3 + 2).toNatClampNeg) (xs (x3 + 3).toNatClampNeg) (xs (x3 + 4).toNatClampNeg) (xs (x3 + 5).toNatClampNeg))) (Z1 : Dy tC kc ad D A s.heap σ H locs) (Z2 : Dy tM kc ad2 D A s.heap τ H locs) (hdj : ∀ i, i < tC.1 → ∀ j, j < tM.1 → ad i ≠ ad2 j) (hI0 : Inv σ τ) (hcs : cells + 1 ≤ room_1.cells ∧ slots + 5300 ≤ room_1.slots) (hl : lv_has ls 4 [(0, .ref b), (1, .ref (ad 0)), (2, .ref (ad2 0)), (3, .int x3)]) (hn : ∀ (ad' : Nat → Nat) (σ' τ' : St) (H : Heap) (locs : List Loc) (cells' slots' : Nat), cells' ≤ cells + 1 → slots' ≤ slots + 5300 → ad' 0 = ad 0 → (∀ i, i < tC.1 → ∀ j, j < tM.1 → ad' i ≠ ad2 j) → Dy tC kc ad' D A s.heap σ' H locs → Dy tM kc ad2 D A s.heap τ' H locs → Inv σ' τ' → W p l e room_1 s m #[Value.ref b] below meth c H locs cells' slots' Q (F0 m 2123 ls [])) : W p l e room_1 s m #[Value.ref b] below meth c H locs cells slots Q (F0 m 1697 ls []) := by
  obtain ⟨r, σ', τ', hc, hm, hI⟩ := hs σ τ hI0
  unfold cC_33 at hc
  unfold cM_33 at hm
  have hcs0 : cells ≤ room_1.cells ∧ slots ≤ room_1.slots := ⟨by omega, by omega⟩
  refine lv_aload_n C.1.1 C.1.2.1 dL_law_1697 rfl (lv_at hl 1 rfl) ?_
  refine lv_aload_n C.1.1 C.1.2.1 dL_law_1698 rfl (lv_at hl 0 rfl) ?_
  refine lv_iload_n C.1.1 C.1.2.1 dL_law_1699 rfl (lv_at hl 3 rfl) ?_
  refine lv_iconst (v := 1) C.1.1 C.1.2.1 dL_law_1700 (by decide) ?_
  refine lv_iadd C.1.1 C.1.2.1 dL_law_1701 ?_
  refine va_sld C.1.1 C.1.2.1 hX hbl hbA Z1.2.2 (hv 1 (by decide)) dL_law_1702 ?_
  refine lv_aload_n C.1.1 C.1.2.1 dL_law_1703 rfl (lv_at hl 0 rfl) ?_
  refine lv_iload_n C.1.1 C.1.2.1 dL_law_1704 rfl (lv_at hl 3 rfl) ?_
  refine lv_iconst (v := 2) C.1.1 C.1.2.1 dL_law_1705 (by decide) ?_
  refine lv_iadd C.1.1 C.1.2.1 dL_law_1706 ?_
  refine va_sld C.1.1 C.1.2.1 hX hbl hbA Z1.2.2 (hv 2 (by decide)) dL_law_1707 ?_
  refine lv_aload_n C.1.1 C.1.2.1 dL_law_1708 rfl (lv_at hl 0 rfl) ?_
  refine lv_iload_n C.1.1 C.1.2.1 dL_law_1709 rfl (lv_at hl 3 rfl) ?_
  refine lv_iconst (v := 3) C.1.1 C.1.2.1 dL_law_1710 (by decide) ?_
  refine lv_iadd C.1.1 C.1.2.1 dL_law_1711 ?_
  refine va_sld C.1.1 C.1.2.1 hX hbl hbA Z1.2.2 (hv 3 (by decide)) dL_law_1712 ?_
  refine lv_aload_n C.1.1 C.1.2.1 dL_law_1713 rfl (lv_at hl 0 rfl) ?_
  refine lv_iload_n C.1.1 C.1.2.1 dL_law_1714 rfl (lv_at hl 3 rfl) ?_
  refine lv_iconst (v := 4) C.1.1 C.1.2.1 dL_law_1715 (by decide) ?_
  refine lv_iadd C.1.1 C.1.2.1 dL_law_1716 ?_
  refine va_sld C.1.1 C.1.2.1 hX hbl hbA Z1.2.2 (hv 4 (by decide)) dL_law_1717 ?_
  refine lv_aload_n C.1.1 C.1.2.1 dL_law_1718 rfl (lv_at hl 0 rfl) ?_
  refine lv_iload_n C.1.1 C.1.2.1 dL_law_1719 rfl (lv_at hl 3 rfl) ?_
  refine lv_iconst (v := 5) C.1.1 C.1.2.1 dL_law_1720 (by decide) ?_
  refine lv_iadd C.1.1 C.1.2.1 dL_law_1721 ?_
  refine va_sld C.1.1 C.1.2.1 hX hbl hbA Z1.2.2 (hv 5 (by decide)) dL_law_1722 ?_
  refine g_call2 (ov := (some (.int r))) (σ' := σ') (eC_ok adK adV) C Z1 Z2 hdj (eC_at C Z1) (k_X10_pays hc) lk_L_159 (by decide) rfl rfl hl ⟨rfl, rfl, by decide, by decide⟩ hcs0 rfl (Nat.le_of_ble_eq_true rfl) (rest := []) rfl dL_law_1723 (fun H locs Z1 Z2 => ?_)
  refine lv_aload_n C.1.1 C.1.2.1 dL_law_1726 rfl (lv_at hl 2 rfl) ?_
  refine lv_aload_n C.1.1 C.1.2.1 dL_law_1727 rfl (lv_at hl 0 rfl) ?_
  refine lv_iload_n C.1.1 C.1.2.1 dL_law_1728 rfl (lv_at hl 3 rfl) ?_
  refine lv_iconst (v := 1) C.1.1 C.1.2.1 dL_law_1729 (by decide) ?_
  refine lv_iadd C.1.1 C.1.2.1 dL_law_1730 ?_
  refine va_sld C.1.1 C.1.2.1 hX hbl hbA Z1.2.2 (hv 1 (by decide)) dL_law_1731 ?_
  refine lv_aload_n C.1.1 C.1.2.1 dL_law_1732 rfl (lv_at hl 0 rfl) ?_
  refine lv_iload_n C.1.1 C.1.2.1 dL_law_1733 rfl (lv_at hl 3 rfl) ?_
  refine lv_iconst (v := 2) C.1.1 C.1.2.1 dL_law_1734 (by decide) ?_
  refine lv_iadd C.1.1 C.1.2.1 dL_law_1735 ?_
  refine va_sld C.1.1 C.1.2.1 hX hbl hbA Z1.2.2 (hv 2 (by decide)) dL_law_1736 ?_
  refine lv_aload_n C.1.1 C.1.2.1 dL_law_1737 rfl (lv_at hl 0 rfl) ?_
  refine lv_iload_n C.1.1 C.1.2.1 dL_law_1738 rfl (lv_at hl 3 rfl) ?_
  refine lv_iconst (v := 3) C.1.1 C.1.2.1 dL_law_1739 (by decide) ?_
  refine lv_iadd C.1.1 C.1.2.1 dL_law_1740 ?_
  refine va_sld C.1.1 C.1.2.1 hX hbl hbA Z1.2.2 (hv 3 (by decide)) dL_law_1741 ?_
  refine lv_aload_n C.1.1 C.1.2.1 dL_law_1742 rfl (lv_at hl 0 rfl) ?_
  refine lv_iload_n C.1.1 C.1.2.1 dL_law_1743 rfl (lv_at hl 3 rfl) ?_
  refine lv_iconst (v := 4) C.1.1 C.1.2.1 dL_law_1744 (by decide) ?_
  refine lv_iadd C.1.1 C.1.2.1 dL_law_1745 ?_
  refine va_sld C.1.1 C.1.2.1 hX hbl hbA Z1.2.2 (hv 4 (by decide)) dL_law_1746 ?_
  refine lv_aload_n C.1.1 C.1.2.1 dL_law_1747 rfl (lv_at hl 0 rfl) ?_
  refine lv_iload_n C.1.1 C.1.2.1 dL_law_1748 rfl (lv_at hl 3 rfl) ?_
  refine lv_iconst (v := 5) C.1.1 C.1.2.1 dL_law_1749 (by decide) ?_
  refine lv_iadd C.1.1 C.1.2.1 dL_law_1750 ?_
  refine va_sld C.1.1 C.1.2.1 hX hbl hbA Z1.2.2 (hv 5 (by decide)) dL_law_1751 ?_
  refine g_call2 (ov := (some (.int r))) (σ' := τ') eM_ok C Z2 Z1 (fun i hi j hj e => hdj j hj i hi e.symm) (fun _ _ _ => trivial) (k_X11_pays hm) lk_L_162 (by decide) rfl rfl hl ⟨rfl, rfl, by decide, by decide⟩ hcs0 rfl (Nat.le_of_ble_eq_true rfl) (rest := [.int r]) rfl dL_law_1752 (fun H locs Z2 Z1 => ?_)
  refine lv_icmp_eq (tgt := 2123) C.1.1 C.1.2.1 dL_law_1755 (by decide) (fun _ => ?_) (fun z => absurd rfl z)
  exact hn ad _ _ _ _ _ _ (Nat.le_succ _) (Nat.le_add_right _ _) rfl hdj Z1 Z2 hI
set_option maxRecDepth 20000 in
theorem lw_case_34 {p : Program} {l : Launch} {e : Env} {s : State} {m : MethodId} {below : List Frame} {meth : Method} {c : Code} {Q : State → Prop} {D : va_G} {kc : Nat → ClassId} {ad ad2 : Nat → Nat} {A : Nat → Prop} {adK adV : Nat → Nat} {b L : Nat} {xs : Nat → Int32} {H : Heap} {locs : List Loc} {cells slots : Nat} {ls : Array Slot} {x3 : Int32} {σ τ : St} {Inv : St → St → Prop} (C : Cx (eC adK adV) p s m #[Value.ref b] c cL_law 4 RL D kc A) (hX : va_X b L xs s s.heap) (hbl : b < s.heap.size) (hbA : ¬ A b) (hv : ∀ k : Nat, k < 7 → vp_in (x3 + nI k) L) (hs : SimI Inv (cC_34 (xs (x3 + 1).toNatClampNeg) (xs (x3 + 2).toNatClampNeg) (xs (x3 + 3).toNatClampNeg) (xs (x3 + 4).toNatClampNeg)) (cM_34 (xs (x3 + 1).toNatClampNeg) (xs (x3 + 2).toNatClampNeg) (xs (x3 + 3).toNatClampNeg) (xs (x3 + 4).toNatClampNeg))) (Z1 : Dy tC kc ad D A s.heap σ H locs) (Z2 : Dy tM kc ad2 D A s.heap τ H locs) (hdj : ∀ i, i < tC.1 → ∀ j, j < tM.1 → ad i ≠ ad2 j) (hI0 : Inv σ τ) (hcs : cells + 1 ≤ room_1.cells ∧ slots + 5300 ≤ room_1.slots) (hl : lv_has ls 4 [(0, .ref b), (1, .ref (ad 0)), (2, .ref (ad2 0)), (3, .int x3)]) (hn : ∀ (ad' : Nat → Nat) (σ' τ' : St) (H : Heap) (locs : List Loc) (cells' slots' : Nat), cells' ≤ cells + 1 → slots' ≤ slots + 5300 → ad' 0 = ad 0 → (∀ i, i < tC.1 → ∀ j, j < tM.1 → ad' i ≠ ad2 j) → Dy tC kc ad' D A s.heap σ' H locs → Dy tM kc ad2 D A s.heap τ' H locs → Inv σ' τ' → W p l e room_1 s m #[Value.ref b] below meth c H locs cells' slots' Q (F0 m 2123 ls [])) : W p l e room_1 s m #[Value.ref b] below meth c H locs cells slots Q (F0 m 1760 ls []) := by
  obtain ⟨r, σ', τ', hc, hm, hI⟩ := hs σ τ hI0
  unfold cC_34 at hc
  unfold cM_34 at hm
  have hcs0 : cells ≤ room_1.cells ∧ slots ≤ room_1.slots := ⟨by omega, by omega⟩
  refine lv_aload_n C.1.1 C.1.2.1 dL_law_1760 rfl (lv_at hl 1 rfl) ?_
  refine lv_aload_n C.1.1 C.1.2.1 dL_law_1761 rfl (lv_at hl 0 rfl) ?_
  refine lv_iload_n C.1.1 C.1.2.1 dL_law_1762 rfl (lv_at hl 3 rfl) ?_
  refine lv_iconst (v := 1) C.1.1 C.1.2.1 dL_law_1763 (by decide) ?_
  refine lv_iadd C.1.1 C.1.2.1 dL_law_1764 ?_
  refine va_sld C.1.1 C.1.2.1 hX hbl hbA Z1.2.2 (hv 1 (by decide)) dL_law_1765 ?_
  refine lv_aload_n C.1.1 C.1.2.1 dL_law_1766 rfl (lv_at hl 0 rfl) ?_
  refine lv_iload_n C.1.1 C.1.2.1 dL_law_1767 rfl (lv_at hl 3 rfl) ?_
  refine lv_iconst (v := 2) C.1.1 C.1.2.1 dL_law_1768 (by decide) ?_
  refine lv_iadd C.1.1 C.1.2.1 dL_law_1769 ?_
  refine va_sld C.1.1 C.1.2.1 hX hbl hbA Z1.2.2 (hv 2 (by decide)) dL_law_1770 ?_
  refine lv_aload_n C.1.1 C.1.2.1 dL_law_1771 rfl (lv_at hl 0 rfl) ?_
  refine lv_iload_n C.1.1 C.1.2.1 dL_law_1772 rfl (lv_at hl 3 rfl) ?_
  refine lv_iconst (v := 3) C.1.1 C.1.2.1 dL_law_1773 (by decide) ?_
  refine lv_iadd C.1.1 C.1.2.1 dL_law_1774 ?_
  refine va_sld C.1.1 C.1.2.1 hX hbl hbA Z1.2.2 (hv 3 (by decide)) dL_law_1775 ?_
  refine lv_aload_n C.1.1 C.1.2.1 dL_law_1776 rfl (lv_at hl 0 rfl) ?_
  refine lv_iload_n C.1.1 C.1.2.1 dL_law_1777 rfl (lv_at hl 3 rfl) ?_
  refine lv_iconst (v := 4) C.1.1 C.1.2.1 dL_law_1778 (by decide) ?_
  refine lv_iadd C.1.1 C.1.2.1 dL_law_1779 ?_
  refine va_sld C.1.1 C.1.2.1 hX hbl hbA Z1.2.2 (hv 4 (by decide)) dL_law_1780 ?_
  refine g_call2 (ov := (some (.int r))) (σ' := σ') (eC_ok adK adV) C Z1 Z2 hdj (eC_at C Z1) (k_X10_town hc) lk_L_163 (by decide) rfl rfl hl ⟨rfl, rfl, by decide, by decide⟩ hcs0 rfl (Nat.le_of_ble_eq_true rfl) (rest := []) rfl dL_law_1781 (fun H locs Z1 Z2 => ?_)
  refine lv_aload_n C.1.1 C.1.2.1 dL_law_1784 rfl (lv_at hl 2 rfl) ?_
  refine lv_aload_n C.1.1 C.1.2.1 dL_law_1785 rfl (lv_at hl 0 rfl) ?_
  refine lv_iload_n C.1.1 C.1.2.1 dL_law_1786 rfl (lv_at hl 3 rfl) ?_
  refine lv_iconst (v := 1) C.1.1 C.1.2.1 dL_law_1787 (by decide) ?_
  refine lv_iadd C.1.1 C.1.2.1 dL_law_1788 ?_
  refine va_sld C.1.1 C.1.2.1 hX hbl hbA Z1.2.2 (hv 1 (by decide)) dL_law_1789 ?_
  refine lv_aload_n C.1.1 C.1.2.1 dL_law_1790 rfl (lv_at hl 0 rfl) ?_
  refine lv_iload_n C.1.1 C.1.2.1 dL_law_1791 rfl (lv_at hl 3 rfl) ?_
  refine lv_iconst (v := 2) C.1.1 C.1.2.1 dL_law_1792 (by decide) ?_
  refine lv_iadd C.1.1 C.1.2.1 dL_law_1793 ?_
  refine va_sld C.1.1 C.1.2.1 hX hbl hbA Z1.2.2 (hv 2 (by decide)) dL_law_1794 ?_
  refine lv_aload_n C.1.1 C.1.2.1 dL_law_1795 rfl (lv_at hl 0 rfl) ?_
  refine lv_iload_n C.1.1 C.1.2.1 dL_law_1796 rfl (lv_at hl 3 rfl) ?_
  refine lv_iconst (v := 3) C.1.1 C.1.2.1 dL_law_1797 (by decide) ?_
  refine lv_iadd C.1.1 C.1.2.1 dL_law_1798 ?_
  refine va_sld C.1.1 C.1.2.1 hX hbl hbA Z1.2.2 (hv 3 (by decide)) dL_law_1799 ?_
  refine lv_aload_n C.1.1 C.1.2.1 dL_law_1800 rfl (lv_at hl 0 rfl) ?_
  refine lv_iload_n C.1.1 C.1.2.1 dL_law_1801 rfl (lv_at hl 3 rfl) ?_
  refine lv_iconst (v := 4) C.1.1 C.1.2.1 dL_law_1802 (by decide) ?_
  refine lv_iadd C.1.1 C.1.2.1 dL_law_1803 ?_
  refine va_sld C.1.1 C.1.2.1 hX hbl hbA Z1.2.2 (hv 4 (by decide)) dL_law_1804 ?_
  refine g_call2 (ov := (some (.int r))) (σ' := τ') eM_ok C Z2 Z1 (fun i hi j hj e => hdj j hj i hi e.symm) (fun _ _ _ => trivial) (k_X11_town hm) lk_L_166 (by decide) rfl rfl hl ⟨rfl, rfl, by decide, by decide⟩ hcs0 rfl (Nat.le_of_ble_eq_true rfl) (rest := [.int r]) rfl dL_law_1805 (fun H locs Z2 Z1 => ?_)
  refine lv_icmp_eq (tgt := 2123) C.1.1 C.1.2.1 dL_law_1808 (by decide) (fun _ => ?_) (fun z => absurd rfl z)
  exact hn ad _ _ _ _ _ _ (Nat.le_succ _) (Nat.le_add_right _ _) rfl hdj Z1 Z2 hI
set_option maxRecDepth 20000 in
theorem lw_case_35 {p : Program} {l : Launch} {e : Env} {s : State} {m : MethodId} {below : List Frame} {meth : Method} {c : Code} {Q : State → Prop} {D : va_G} {kc : Nat → ClassId} {ad ad2 : Nat → Nat} {A : Nat → Prop} {adK adV : Nat → Nat} {b L : Nat} {xs : Nat → Int32} {H : Heap} {locs : List Loc} {cells slots : Nat} {ls : Array Slot} {x3 : Int32} {σ τ : St} {Inv : St → St → Prop} (C : Cx (eC adK adV) p s m #[Value.ref b] c cL_law 4 RL D kc A) (hX : va_X b L xs s s.heap) (hbl : b < s.heap.size) (hbA : ¬ A b) (hv : ∀ k : Nat, k < 7 → vp_in (x3 + nI k) L) (hs : SimI Inv (cC_35 (xs (x3 + 1).toNatClampNeg) (xs (x3 + 2).toNatClampNeg) (xs (x3 + 3).toNatClampNeg)) (cM_35 (xs (x3 + 1).toNatClampNeg) (xs (x3 + 2).toNatClampNeg) (xs (x3 + 3).toNatClampNeg))) (Z1 : Dy tC kc ad D A s.heap σ H locs) (Z2 : Dy tM kc ad2 D A s.heap τ H locs) (hdj : ∀ i, i < tC.1 → ∀ j, j < tM.1 → ad i ≠ ad2 j) (hI0 : Inv σ τ) (hcs : cells + 1 ≤ room_1.cells ∧ slots + 5300 ≤ room_1.slots) (hl : lv_has ls 4 [(0, .ref b), (1, .ref (ad 0)), (2, .ref (ad2 0)), (3, .int x3)]) (hn : ∀ (ad' : Nat → Nat) (σ' τ' : St) (H : Heap) (locs : List Loc) (cells' slots' : Nat), cells' ≤ cells + 1 → slots' ≤ slots + 5300 → ad' 0 = ad 0 → (∀ i, i < tC.1 → ∀ j, j < tM.1 → ad' i ≠ ad2 j) → Dy tC kc ad' D A s.heap σ' H locs → Dy tM kc ad2 D A s.heap τ' H locs → Inv σ' τ' → W p l e room_1 s m #[Value.ref b] below meth c H locs cells' slots' Q (F0 m 2123 ls [])) : W p l e room_1 s m #[Value.ref b] below meth c H locs cells slots Q (F0 m 1813 ls []) := by
  obtain ⟨r, σ', τ', hc, hm, hI⟩ := hs σ τ hI0
  unfold cC_35 at hc
  unfold cM_35 at hm
  have hcs0 : cells ≤ room_1.cells ∧ slots ≤ room_1.slots := ⟨by omega, by omega⟩
  refine lv_aload_n C.1.1 C.1.2.1 dL_law_1813 rfl (lv_at hl 1 rfl) ?_
  refine lv_aload_n C.1.1 C.1.2.1 dL_law_1814 rfl (lv_at hl 0 rfl) ?_
  refine lv_iload_n C.1.1 C.1.2.1 dL_law_1815 rfl (lv_at hl 3 rfl) ?_
  refine lv_iconst (v := 1) C.1.1 C.1.2.1 dL_law_1816 (by decide) ?_
  refine lv_iadd C.1.1 C.1.2.1 dL_law_1817 ?_
  refine va_sld C.1.1 C.1.2.1 hX hbl hbA Z1.2.2 (hv 1 (by decide)) dL_law_1818 ?_
  refine lv_aload_n C.1.1 C.1.2.1 dL_law_1819 rfl (lv_at hl 0 rfl) ?_
  refine lv_iload_n C.1.1 C.1.2.1 dL_law_1820 rfl (lv_at hl 3 rfl) ?_
  refine lv_iconst (v := 2) C.1.1 C.1.2.1 dL_law_1821 (by decide) ?_
  refine lv_iadd C.1.1 C.1.2.1 dL_law_1822 ?_
  refine va_sld C.1.1 C.1.2.1 hX hbl hbA Z1.2.2 (hv 2 (by decide)) dL_law_1823 ?_
  refine lv_aload_n C.1.1 C.1.2.1 dL_law_1824 rfl (lv_at hl 0 rfl) ?_
  refine lv_iload_n C.1.1 C.1.2.1 dL_law_1825 rfl (lv_at hl 3 rfl) ?_
  refine lv_iconst (v := 3) C.1.1 C.1.2.1 dL_law_1826 (by decide) ?_
  refine lv_iadd C.1.1 C.1.2.1 dL_law_1827 ?_
  refine va_sld C.1.1 C.1.2.1 hX hbl hbA Z1.2.2 (hv 3 (by decide)) dL_law_1828 ?_
  refine g_call2 (ov := (some (.int r))) (σ' := σ') (eC_ok adK adV) C Z1 Z2 hdj (eC_at C Z1) (k_X10_bar hc) lk_L_167 (by decide) rfl rfl hl ⟨rfl, rfl, by decide, by decide⟩ hcs0 rfl (Nat.le_of_ble_eq_true rfl) (rest := []) rfl dL_law_1829 (fun H locs Z1 Z2 => ?_)
  refine lv_aload_n C.1.1 C.1.2.1 dL_law_1832 rfl (lv_at hl 2 rfl) ?_
  refine lv_aload_n C.1.1 C.1.2.1 dL_law_1833 rfl (lv_at hl 0 rfl) ?_
  refine lv_iload_n C.1.1 C.1.2.1 dL_law_1834 rfl (lv_at hl 3 rfl) ?_
  refine lv_iconst (v := 1) C.1.1 C.1.2.1 dL_law_1835 (by decide) ?_
  refine lv_iadd C.1.1 C.1.2.1 dL_law_1836 ?_
  refine va_sld C.1.1 C.1.2.1 hX hbl hbA Z1.2.2 (hv 1 (by decide)) dL_law_1837 ?_
  refine lv_aload_n C.1.1 C.1.2.1 dL_law_1838 rfl (lv_at hl 0 rfl) ?_
  refine lv_iload_n C.1.1 C.1.2.1 dL_law_1839 rfl (lv_at hl 3 rfl) ?_
  refine lv_iconst (v := 2) C.1.1 C.1.2.1 dL_law_1840 (by decide) ?_
  refine lv_iadd C.1.1 C.1.2.1 dL_law_1841 ?_
  refine va_sld C.1.1 C.1.2.1 hX hbl hbA Z1.2.2 (hv 2 (by decide)) dL_law_1842 ?_
  refine lv_aload_n C.1.1 C.1.2.1 dL_law_1843 rfl (lv_at hl 0 rfl) ?_
  refine lv_iload_n C.1.1 C.1.2.1 dL_law_1844 rfl (lv_at hl 3 rfl) ?_
  refine lv_iconst (v := 3) C.1.1 C.1.2.1 dL_law_1845 (by decide) ?_
  refine lv_iadd C.1.1 C.1.2.1 dL_law_1846 ?_
  refine va_sld C.1.1 C.1.2.1 hX hbl hbA Z1.2.2 (hv 3 (by decide)) dL_law_1847 ?_
  refine g_call2 (ov := (some (.int r))) (σ' := τ') eM_ok C Z2 Z1 (fun i hi j hj e => hdj j hj i hi e.symm) (fun _ _ _ => trivial) (k_X11_bar hm) lk_L_170 (by decide) rfl rfl hl ⟨rfl, rfl, by decide, by decide⟩ hcs0 rfl (Nat.le_of_ble_eq_true rfl) (rest := [.int r]) rfl dL_law_1848 (fun H locs Z2 Z1 => ?_)
  refine lv_icmp_eq (tgt := 2123) C.1.1 C.1.2.1 dL_law_1851 (by decide) (fun _ => ?_) (fun z => absurd rfl z)
  exact hn ad _ _ _ _ _ _ (Nat.le_succ _) (Nat.le_add_right _ _) rfl hdj Z1 Z2 hI
set_option maxRecDepth 20000 in
theorem lw_case_36 {p : Program} {l : Launch} {e : Env} {s : State} {m : MethodId} {below : List Frame} {meth : Method} {c : Code} {Q : State → Prop} {D : va_G} {kc : Nat → ClassId} {ad ad2 : Nat → Nat} {A : Nat → Prop} {adK adV : Nat → Nat} {b L : Nat} {xs : Nat → Int32} {H : Heap} {locs : List Loc} {cells slots : Nat} {ls : Array Slot} {x3 : Int32} {σ τ : St} {Inv : St → St → Prop} (C : Cx (eC adK adV) p s m #[Value.ref b] c cL_law 4 RL D kc A) (hX : va_X b L xs s s.heap) (hbl : b < s.heap.size) (hbA : ¬ A b) (hv : ∀ k : Nat, k < 7 → vp_in (x3 + nI k) L) (hs : SimI Inv (cC_36 (xs (x3 + 1).toNatClampNeg) (xs (x3 + 2).toNatClampNeg)) (cM_36 (xs (x3 + 1).toNatClampNeg) (xs (x3 + 2).toNatClampNeg))) (Z1 : Dy tC kc ad D A s.heap σ H locs) (Z2 : Dy tM kc ad2 D A s.heap τ H locs) (hdj : ∀ i, i < tC.1 → ∀ j, j < tM.1 → ad i ≠ ad2 j) (hI0 : Inv σ τ) (hcs : cells + 1 ≤ room_1.cells ∧ slots + 5300 ≤ room_1.slots) (hl : lv_has ls 4 [(0, .ref b), (1, .ref (ad 0)), (2, .ref (ad2 0)), (3, .int x3)]) (hn : ∀ (ad' : Nat → Nat) (σ' τ' : St) (H : Heap) (locs : List Loc) (cells' slots' : Nat), cells' ≤ cells + 1 → slots' ≤ slots + 5300 → ad' 0 = ad 0 → (∀ i, i < tC.1 → ∀ j, j < tM.1 → ad' i ≠ ad2 j) → Dy tC kc ad' D A s.heap σ' H locs → Dy tM kc ad2 D A s.heap τ' H locs → Inv σ' τ' → W p l e room_1 s m #[Value.ref b] below meth c H locs cells' slots' Q (F0 m 2123 ls [])) : W p l e room_1 s m #[Value.ref b] below meth c H locs cells slots Q (F0 m 1856 ls []) := by
  obtain ⟨r, σ', τ', hc, hm, hI⟩ := hs σ τ hI0
  unfold cC_36 at hc
  unfold cM_36 at hm
  have hc := mapO hc
  have ehc := hc.2
  subst ehc
  have hm := mapO hm
  have ehm := hm.2
  subst ehm
  have hcs0 : cells ≤ room_1.cells ∧ slots ≤ room_1.slots := ⟨by omega, by omega⟩
  refine lv_aload_n C.1.1 C.1.2.1 dL_law_1856 rfl (lv_at hl 1 rfl) ?_
  refine lv_aload_n C.1.1 C.1.2.1 dL_law_1857 rfl (lv_at hl 0 rfl) ?_
  refine lv_iload_n C.1.1 C.1.2.1 dL_law_1858 rfl (lv_at hl 3 rfl) ?_
  refine lv_iconst (v := 1) C.1.1 C.1.2.1 dL_law_1859 (by decide) ?_
  refine lv_iadd C.1.1 C.1.2.1 dL_law_1860 ?_
  refine va_sld C.1.1 C.1.2.1 hX hbl hbA Z1.2.2 (hv 1 (by decide)) dL_law_1861 ?_
  refine lv_aload_n C.1.1 C.1.2.1 dL_law_1862 rfl (lv_at hl 0 rfl) ?_
  refine lv_iload_n C.1.1 C.1.2.1 dL_law_1863 rfl (lv_at hl 3 rfl) ?_
  refine lv_iconst (v := 2) C.1.1 C.1.2.1 dL_law_1864 (by decide) ?_
  refine lv_iadd C.1.1 C.1.2.1 dL_law_1865 ?_
  refine va_sld C.1.1 C.1.2.1 hX hbl hbA Z1.2.2 (hv 2 (by decide)) dL_law_1866 ?_
  refine g_call2 (ov := (some (.int r))) (σ' := σ') (eC_ok adK adV) C Z1 Z2 hdj (eC_at C Z1) (k_X10_lost hc.1) lk_L_171 (by decide) rfl rfl hl ⟨rfl, rfl, by decide, by decide⟩ hcs0 rfl (Nat.le_of_ble_eq_true rfl) (rest := []) rfl dL_law_1867 (fun H locs Z1 Z2 => ?_)
  refine lv_aload_n C.1.1 C.1.2.1 dL_law_1870 rfl (lv_at hl 2 rfl) ?_
  refine lv_aload_n C.1.1 C.1.2.1 dL_law_1871 rfl (lv_at hl 0 rfl) ?_
  refine lv_iload_n C.1.1 C.1.2.1 dL_law_1872 rfl (lv_at hl 3 rfl) ?_
  refine lv_iconst (v := 1) C.1.1 C.1.2.1 dL_law_1873 (by decide) ?_
  refine lv_iadd C.1.1 C.1.2.1 dL_law_1874 ?_
  refine va_sld C.1.1 C.1.2.1 hX hbl hbA Z1.2.2 (hv 1 (by decide)) dL_law_1875 ?_
  refine lv_aload_n C.1.1 C.1.2.1 dL_law_1876 rfl (lv_at hl 0 rfl) ?_
  refine lv_iload_n C.1.1 C.1.2.1 dL_law_1877 rfl (lv_at hl 3 rfl) ?_
  refine lv_iconst (v := 2) C.1.1 C.1.2.1 dL_law_1878 (by decide) ?_
  refine lv_iadd C.1.1 C.1.2.1 dL_law_1879 ?_
  refine va_sld C.1.1 C.1.2.1 hX hbl hbA Z1.2.2 (hv 2 (by decide)) dL_law_1880 ?_
  refine g_call2 (ov := (some (.int r))) (σ' := τ') eM_ok C Z2 Z1 (fun i hi j hj e => hdj j hj i hi e.symm) (fun _ _ _ => trivial) (k_X11_lost hm.1) lk_L_174 (by decide) rfl rfl hl ⟨rfl, rfl, by decide, by decide⟩ hcs0 rfl (Nat.le_of_ble_eq_true rfl) (rest := [.int r]) rfl dL_law_1881 (fun H locs Z2 Z1 => ?_)
  refine lv_icmp_eq (tgt := 2123) C.1.1 C.1.2.1 dL_law_1884 (by decide) (fun _ => ?_) (fun z => absurd rfl z)
  exact hn ad _ _ _ _ _ _ (Nat.le_succ _) (Nat.le_add_right _ _) rfl hdj Z1 Z2 hI
set_option maxRecDepth 20000 in
theorem lw_case_37 {p : Program} {l : Launch} {e : Env} {s : State} {m : MethodId} {below : List Frame} {meth : Method} {c : Code} {Q : State → Prop} {D : va_G} {kc : Nat → ClassId} {ad ad2 : Nat → Nat} {A : Nat → Prop} {adK adV : Nat → Nat} {b L : Nat} {xs : Nat → Int32} {H : Heap} {locs : List Loc} {cells slots : Nat} {ls : Array Slot} {x3 : Int32} {σ τ : St} {Inv : St → St → Prop} (C : Cx (eC adK adV) p s m #[Value.ref b] c cL_law 4 RL D kc A) (hX : va_X b L xs s s.heap) (hbl : b < s.heap.size) (hbA : ¬ A b) (hv : ∀ k : Nat, k < 7 → vp_in (x3 + nI k) L) (hs : SimI Inv (cC_37 (xs (x3 + 1).toNatClampNeg)) (cM_37 (xs (x3 + 1).toNatClampNeg))) (Z1 : Dy tC kc ad D A s.heap σ H locs) (Z2 : Dy tM kc ad2 D A s.heap τ H locs) (hdj : ∀ i, i < tC.1 → ∀ j, j < tM.1 → ad i ≠ ad2 j) (hI0 : Inv σ τ) (hcs : cells + 1 ≤ room_1.cells ∧ slots + 5300 ≤ room_1.slots) (hl : lv_has ls 4 [(0, .ref b), (1, .ref (ad 0)), (2, .ref (ad2 0)), (3, .int x3)]) (hn : ∀ (ad' : Nat → Nat) (σ' τ' : St) (H : Heap) (locs : List Loc) (cells' slots' : Nat), cells' ≤ cells + 1 → slots' ≤ slots + 5300 → ad' 0 = ad 0 → (∀ i, i < tC.1 → ∀ j, j < tM.1 → ad' i ≠ ad2 j) → Dy tC kc ad' D A s.heap σ' H locs → Dy tM kc ad2 D A s.heap τ' H locs → Inv σ' τ' → W p l e room_1 s m #[Value.ref b] below meth c H locs cells' slots' Q (F0 m 2123 ls [])) : W p l e room_1 s m #[Value.ref b] below meth c H locs cells slots Q (F0 m 1889 ls []) := by
  obtain ⟨r, σ', τ', hc, hm, hI⟩ := hs σ τ hI0
  unfold cC_37 at hc
  unfold cM_37 at hm
  have hc := mapO hc
  have ehc := hc.2
  subst ehc
  have hm := mapO hm
  have ehm := hm.2
  subst ehm
  have hcs0 : cells ≤ room_1.cells ∧ slots ≤ room_1.slots := ⟨by omega, by omega⟩
  refine lv_aload_n C.1.1 C.1.2.1 dL_law_1889 rfl (lv_at hl 1 rfl) ?_
  refine lv_aload_n C.1.1 C.1.2.1 dL_law_1890 rfl (lv_at hl 0 rfl) ?_
  refine lv_iload_n C.1.1 C.1.2.1 dL_law_1891 rfl (lv_at hl 3 rfl) ?_
  refine lv_iconst (v := 1) C.1.1 C.1.2.1 dL_law_1892 (by decide) ?_
  refine lv_iadd C.1.1 C.1.2.1 dL_law_1893 ?_
  refine va_sld C.1.1 C.1.2.1 hX hbl hbA Z1.2.2 (hv 1 (by decide)) dL_law_1894 ?_
  refine g_call2 (ov := (some (.int r))) (σ' := σ') (eC_ok adK adV) C Z1 Z2 hdj (eC_at C Z1) (k_X10_yields hc.1) lk_L_175 (by decide) rfl rfl hl ⟨rfl, rfl, by decide, by decide⟩ hcs0 rfl (Nat.le_of_ble_eq_true rfl) (rest := []) rfl dL_law_1895 (fun H locs Z1 Z2 => ?_)
  refine lv_aload_n C.1.1 C.1.2.1 dL_law_1898 rfl (lv_at hl 2 rfl) ?_
  refine lv_aload_n C.1.1 C.1.2.1 dL_law_1899 rfl (lv_at hl 0 rfl) ?_
  refine lv_iload_n C.1.1 C.1.2.1 dL_law_1900 rfl (lv_at hl 3 rfl) ?_
  refine lv_iconst (v := 1) C.1.1 C.1.2.1 dL_law_1901 (by decide) ?_
  refine lv_iadd C.1.1 C.1.2.1 dL_law_1902 ?_
  refine va_sld C.1.1 C.1.2.1 hX hbl hbA Z1.2.2 (hv 1 (by decide)) dL_law_1903 ?_
  refine g_call2 (ov := (some (.int r))) (σ' := τ') eM_ok C Z2 Z1 (fun i hi j hj e => hdj j hj i hi e.symm) (fun _ _ _ => trivial) (k_X11_yields hm.1) lk_L_178 (by decide) rfl rfl hl ⟨rfl, rfl, by decide, by decide⟩ hcs0 rfl (Nat.le_of_ble_eq_true rfl) (rest := [.int r]) rfl dL_law_1904 (fun H locs Z2 Z1 => ?_)
  refine lv_icmp_eq (tgt := 2123) C.1.1 C.1.2.1 dL_law_1907 (by decide) (fun _ => ?_) (fun z => absurd rfl z)
  exact hn ad _ _ _ _ _ _ (Nat.le_succ _) (Nat.le_add_right _ _) rfl hdj Z1 Z2 hI
set_option maxRecDepth 20000 in
theorem lw_case_38 {p : Program} {l : Launch} {e : Env} {s : State} {m : MethodId} {below : List Frame} {meth : Method} {c : Code} {Q : State → Prop} {D : va_G} {kc : Nat → ClassId} {ad ad2 : Nat → Nat} {A : Nat → Prop} {adK adV : Nat → Nat} {b L : Nat} {xs : Nat → Int32} {H : Heap} {locs : List Loc} {cells slots : Nat} {ls : Array Slot} {x3 : Int32} {σ τ : St} {Inv : St → St → Prop} (C : Cx (eC adK adV) p s m #[Value.ref b] c cL_law 4 RL D kc A) (hX : va_X b L xs s s.heap) (hbl : b < s.heap.size) (hbA : ¬ A b) (hv : ∀ k : Nat, k < 7 → vp_in (x3 + nI k) L) (hs : SimI Inv (cC_38 (xs (x3 + 1).toNatClampNeg)) (cM_38 (xs (x3 + 1).toNatClampNeg))) (Z1 : Dy tC kc ad D A s.heap σ H locs) (Z2 : Dy tM kc ad2 D A s.heap τ H locs) (hdj : ∀ i, i < tC.1 → ∀ j, j < tM.1 → ad i ≠ ad2 j) (hI0 : Inv σ τ) (hcs : cells + 1 ≤ room_1.cells ∧ slots + 5300 ≤ room_1.slots) (hl : lv_has ls 4 [(0, .ref b), (1, .ref (ad 0)), (2, .ref (ad2 0)), (3, .int x3)]) (hn : ∀ (ad' : Nat → Nat) (σ' τ' : St) (H : Heap) (locs : List Loc) (cells' slots' : Nat), cells' ≤ cells + 1 → slots' ≤ slots + 5300 → ad' 0 = ad 0 → (∀ i, i < tC.1 → ∀ j, j < tM.1 → ad' i ≠ ad2 j) → Dy tC kc ad' D A s.heap σ' H locs → Dy tM kc ad2 D A s.heap τ' H locs → Inv σ' τ' → W p l e room_1 s m #[Value.ref b] below meth c H locs cells' slots' Q (F0 m 2123 ls [])) : W p l e room_1 s m #[Value.ref b] below meth c H locs cells slots Q (F0 m 1912 ls []) := by
  obtain ⟨r, σ', τ', hc, hm, hI⟩ := hs σ τ hI0
  unfold cC_38 at hc
  unfold cM_38 at hm
  have hc := mapO hc
  have ehc := hc.2
  subst ehc
  have hm := mapO hm
  have ehm := hm.2
  subst ehm
  have hcs0 : cells ≤ room_1.cells ∧ slots ≤ room_1.slots := ⟨by omega, by omega⟩
  refine lv_aload_n C.1.1 C.1.2.1 dL_law_1912 rfl (lv_at hl 1 rfl) ?_
  refine lv_aload_n C.1.1 C.1.2.1 dL_law_1913 rfl (lv_at hl 0 rfl) ?_
  refine lv_iload_n C.1.1 C.1.2.1 dL_law_1914 rfl (lv_at hl 3 rfl) ?_
  refine lv_iconst (v := 1) C.1.1 C.1.2.1 dL_law_1915 (by decide) ?_
  refine lv_iadd C.1.1 C.1.2.1 dL_law_1916 ?_
  refine va_sld C.1.1 C.1.2.1 hX hbl hbA Z1.2.2 (hv 1 (by decide)) dL_law_1917 ?_
  refine g_call2 (ov := (some (.int r))) (σ' := σ') (eC_ok adK adV) C Z1 Z2 hdj (eC_at C Z1) (k_X10_sideYields hc.1) lk_L_179 (by decide) rfl rfl hl ⟨rfl, rfl, by decide, by decide⟩ hcs0 rfl (Nat.le_of_ble_eq_true rfl) (rest := []) rfl dL_law_1918 (fun H locs Z1 Z2 => ?_)
  refine lv_aload_n C.1.1 C.1.2.1 dL_law_1921 rfl (lv_at hl 2 rfl) ?_
  refine lv_aload_n C.1.1 C.1.2.1 dL_law_1922 rfl (lv_at hl 0 rfl) ?_
  refine lv_iload_n C.1.1 C.1.2.1 dL_law_1923 rfl (lv_at hl 3 rfl) ?_
  refine lv_iconst (v := 1) C.1.1 C.1.2.1 dL_law_1924 (by decide) ?_
  refine lv_iadd C.1.1 C.1.2.1 dL_law_1925 ?_
  refine va_sld C.1.1 C.1.2.1 hX hbl hbA Z1.2.2 (hv 1 (by decide)) dL_law_1926 ?_
  refine g_call2 (ov := (some (.int r))) (σ' := τ') eM_ok C Z2 Z1 (fun i hi j hj e => hdj j hj i hi e.symm) (fun _ _ _ => trivial) (k_X11_sideYields hm.1) lk_L_182 (by decide) rfl rfl hl ⟨rfl, rfl, by decide, by decide⟩ hcs0 rfl (Nat.le_of_ble_eq_true rfl) (rest := [.int r]) rfl dL_law_1927 (fun H locs Z2 Z1 => ?_)
  refine lv_icmp_eq (tgt := 2123) C.1.1 C.1.2.1 dL_law_1930 (by decide) (fun _ => ?_) (fun z => absurd rfl z)
  exact hn ad _ _ _ _ _ _ (Nat.le_succ _) (Nat.le_add_right _ _) rfl hdj Z1 Z2 hI
set_option maxRecDepth 20000 in
theorem lw_case_39 {p : Program} {l : Launch} {e : Env} {s : State} {m : MethodId} {below : List Frame} {meth : Method} {c : Code} {Q : State → Prop} {D : va_G} {kc : Nat → ClassId} {ad ad2 : Nat → Nat} {A : Nat → Prop} {adK adV : Nat → Nat} {b L : Nat} {xs : Nat → Int32} {H : Heap} {locs : List Loc} {cells slots : Nat} {ls : Array Slot} {x3 : Int32} {σ τ : St} {Inv : St → St → Prop} (C : Cx (eC adK adV) p s m #[Value.ref b] c cL_law 4 RL D kc A) (hX : va_X b L xs s s.heap) (hbl : b < s.heap.size) (hbA : ¬ A b) (hv : ∀ k : Nat, k < 7 → vp_in (x3 + nI k) L) (hs : SimI Inv (cC_39 (xs (x3 + 1).toNatClampNeg) (xs (x3 + 2).toNatClampNeg)) (cM_39 (xs (x3 + 1).toNatClampNeg) (xs (x3 + 2).toNatClampNeg))) (Z1 : Dy tC kc ad D A s.heap σ H locs) (Z2 : Dy tM kc ad2 D A s.heap τ H locs) (hdj : ∀ i, i < tC.1 → ∀ j, j < tM.1 → ad i ≠ ad2 j) (hI0 : Inv σ τ) (hcs : cells + 1 ≤ room_1.cells ∧ slots + 5300 ≤ room_1.slots) (hl : lv_has ls 4 [(0, .ref b), (1, .ref (ad 0)), (2, .ref (ad2 0)), (3, .int x3)]) (hn : ∀ (ad' : Nat → Nat) (σ' τ' : St) (H : Heap) (locs : List Loc) (cells' slots' : Nat), cells' ≤ cells + 1 → slots' ≤ slots + 5300 → ad' 0 = ad 0 → (∀ i, i < tC.1 → ∀ j, j < tM.1 → ad' i ≠ ad2 j) → Dy tC kc ad' D A s.heap σ' H locs → Dy tM kc ad2 D A s.heap τ' H locs → Inv σ' τ' → W p l e room_1 s m #[Value.ref b] below meth c H locs cells' slots' Q (F0 m 2123 ls [])) : W p l e room_1 s m #[Value.ref b] below meth c H locs cells slots Q (F0 m 1935 ls []) := by
  obtain ⟨r, σ', τ', hc, hm, hI⟩ := hs σ τ hI0
  unfold cC_39 at hc
  unfold cM_39 at hm
  have hcs0 : cells ≤ room_1.cells ∧ slots ≤ room_1.slots := ⟨by omega, by omega⟩
  refine lv_aload_n C.1.1 C.1.2.1 dL_law_1935 rfl (lv_at hl 1 rfl) ?_
  refine lv_aload_n C.1.1 C.1.2.1 dL_law_1936 rfl (lv_at hl 0 rfl) ?_
  refine lv_iload_n C.1.1 C.1.2.1 dL_law_1937 rfl (lv_at hl 3 rfl) ?_
  refine lv_iconst (v := 1) C.1.1 C.1.2.1 dL_law_1938 (by decide) ?_
  refine lv_iadd C.1.1 C.1.2.1 dL_law_1939 ?_
  refine va_sld C.1.1 C.1.2.1 hX hbl hbA Z1.2.2 (hv 1 (by decide)) dL_law_1940 ?_
  refine lv_aload_n C.1.1 C.1.2.1 dL_law_1941 rfl (lv_at hl 0 rfl) ?_
  refine lv_iload_n C.1.1 C.1.2.1 dL_law_1942 rfl (lv_at hl 3 rfl) ?_
  refine lv_iconst (v := 2) C.1.1 C.1.2.1 dL_law_1943 (by decide) ?_
  refine lv_iadd C.1.1 C.1.2.1 dL_law_1944 ?_
  refine va_sld C.1.1 C.1.2.1 hX hbl hbA Z1.2.2 (hv 2 (by decide)) dL_law_1945 ?_
  refine g_call2 (ov := (some (.int r))) (σ' := σ') (eC_ok adK adV) C Z1 Z2 hdj (eC_at C Z1) (k_X10_term hc) lk_L_183 (by decide) rfl rfl hl ⟨rfl, rfl, by decide, by decide⟩ hcs0 rfl (Nat.le_of_ble_eq_true rfl) (rest := []) rfl dL_law_1946 (fun H locs Z1 Z2 => ?_)
  refine lv_aload_n C.1.1 C.1.2.1 dL_law_1949 rfl (lv_at hl 2 rfl) ?_
  refine lv_aload_n C.1.1 C.1.2.1 dL_law_1950 rfl (lv_at hl 0 rfl) ?_
  refine lv_iload_n C.1.1 C.1.2.1 dL_law_1951 rfl (lv_at hl 3 rfl) ?_
  refine lv_iconst (v := 1) C.1.1 C.1.2.1 dL_law_1952 (by decide) ?_
  refine lv_iadd C.1.1 C.1.2.1 dL_law_1953 ?_
  refine va_sld C.1.1 C.1.2.1 hX hbl hbA Z1.2.2 (hv 1 (by decide)) dL_law_1954 ?_
  refine lv_aload_n C.1.1 C.1.2.1 dL_law_1955 rfl (lv_at hl 0 rfl) ?_
  refine lv_iload_n C.1.1 C.1.2.1 dL_law_1956 rfl (lv_at hl 3 rfl) ?_
  refine lv_iconst (v := 2) C.1.1 C.1.2.1 dL_law_1957 (by decide) ?_
  refine lv_iadd C.1.1 C.1.2.1 dL_law_1958 ?_
  refine va_sld C.1.1 C.1.2.1 hX hbl hbA Z1.2.2 (hv 2 (by decide)) dL_law_1959 ?_
  refine g_call2 (ov := (some (.int r))) (σ' := τ') eM_ok C Z2 Z1 (fun i hi j hj e => hdj j hj i hi e.symm) (fun _ _ _ => trivial) (k_X11_term hm) lk_L_186 (by decide) rfl rfl hl ⟨rfl, rfl, by decide, by decide⟩ hcs0 rfl (Nat.le_of_ble_eq_true rfl) (rest := [.int r]) rfl dL_law_1960 (fun H locs Z2 Z1 => ?_)
  refine lv_icmp_eq (tgt := 2123) C.1.1 C.1.2.1 dL_law_1963 (by decide) (fun _ => ?_) (fun z => absurd rfl z)
  exact hn ad _ _ _ _ _ _ (Nat.le_succ _) (Nat.le_add_right _ _) rfl hdj Z1 Z2 hI
set_option maxRecDepth 20000 in
theorem lw_case_40 {p : Program} {l : Launch} {e : Env} {s : State} {m : MethodId} {below : List Frame} {meth : Method} {c : Code} {Q : State → Prop} {D : va_G} {kc : Nat → ClassId} {ad ad2 : Nat → Nat} {A : Nat → Prop} {adK adV : Nat → Nat} {b L : Nat} {xs : Nat → Int32} {H : Heap} {locs : List Loc} {cells slots : Nat} {ls : Array Slot} {x3 : Int32} {σ τ : St} {Inv : St → St → Prop} (C : Cx (eC adK adV) p s m #[Value.ref b] c cL_law 4 RL D kc A) (hX : va_X b L xs s s.heap) (hbl : b < s.heap.size) (hbA : ¬ A b) (hv : ∀ k : Nat, k < 7 → vp_in (x3 + nI k) L) (hs : SimI Inv (cC_40 (xs (x3 + 1).toNatClampNeg) (xs (x3 + 2).toNatClampNeg)) (cM_40 (xs (x3 + 1).toNatClampNeg) (xs (x3 + 2).toNatClampNeg))) (Z1 : Dy tC kc ad D A s.heap σ H locs) (Z2 : Dy tM kc ad2 D A s.heap τ H locs) (hdj : ∀ i, i < tC.1 → ∀ j, j < tM.1 → ad i ≠ ad2 j) (hI0 : Inv σ τ) (hcs : cells + 1 ≤ room_1.cells ∧ slots + 5300 ≤ room_1.slots) (hl : lv_has ls 4 [(0, .ref b), (1, .ref (ad 0)), (2, .ref (ad2 0)), (3, .int x3)]) (hn : ∀ (ad' : Nat → Nat) (σ' τ' : St) (H : Heap) (locs : List Loc) (cells' slots' : Nat), cells' ≤ cells + 1 → slots' ≤ slots + 5300 → ad' 0 = ad 0 → (∀ i, i < tC.1 → ∀ j, j < tM.1 → ad' i ≠ ad2 j) → Dy tC kc ad' D A s.heap σ' H locs → Dy tM kc ad2 D A s.heap τ' H locs → Inv σ' τ' → W p l e room_1 s m #[Value.ref b] below meth c H locs cells' slots' Q (F0 m 2123 ls [])) : W p l e room_1 s m #[Value.ref b] below meth c H locs cells slots Q (F0 m 1968 ls []) := by
  obtain ⟨r, σ', τ', hc, hm, hI⟩ := hs σ τ hI0
  unfold cC_40 at hc
  unfold cM_40 at hm
  have hc := mapO hc
  have ehc := hc.2
  subst ehc
  have hm := mapO hm
  have ehm := hm.2
  subst ehm
  have hcs0 : cells ≤ room_1.cells ∧ slots ≤ room_1.slots := ⟨by omega, by omega⟩
  refine lv_aload_n C.1.1 C.1.2.1 dL_law_1968 rfl (lv_at hl 1 rfl) ?_
  refine lv_aload_n C.1.1 C.1.2.1 dL_law_1969 rfl (lv_at hl 0 rfl) ?_
  refine lv_iload_n C.1.1 C.1.2.1 dL_law_1970 rfl (lv_at hl 3 rfl) ?_
  refine lv_iconst (v := 1) C.1.1 C.1.2.1 dL_law_1971 (by decide) ?_
  refine lv_iadd C.1.1 C.1.2.1 dL_law_1972 ?_
  refine va_sld C.1.1 C.1.2.1 hX hbl hbA Z1.2.2 (hv 1 (by decide)) dL_law_1973 ?_
  refine lv_aload_n C.1.1 C.1.2.1 dL_law_1974 rfl (lv_at hl 0 rfl) ?_
  refine lv_iload_n C.1.1 C.1.2.1 dL_law_1975 rfl (lv_at hl 3 rfl) ?_
  refine lv_iconst (v := 2) C.1.1 C.1.2.1 dL_law_1976 (by decide) ?_
  refine lv_iadd C.1.1 C.1.2.1 dL_law_1977 ?_
  refine va_sld C.1.1 C.1.2.1 hX hbl hbA Z1.2.2 (hv 2 (by decide)) dL_law_1978 ?_
  refine g_call2 (ov := (some (.int r))) (σ' := σ') (eC_ok adK adV) C Z1 Z2 hdj (eC_at C Z1) (k_X10_sign hc.1) lk_L_187 (by decide) rfl rfl hl ⟨rfl, rfl, by decide, by decide⟩ hcs0 rfl (Nat.le_of_ble_eq_true rfl) (rest := []) rfl dL_law_1979 (fun H locs Z1 Z2 => ?_)
  refine lv_aload_n C.1.1 C.1.2.1 dL_law_1982 rfl (lv_at hl 2 rfl) ?_
  refine lv_aload_n C.1.1 C.1.2.1 dL_law_1983 rfl (lv_at hl 0 rfl) ?_
  refine lv_iload_n C.1.1 C.1.2.1 dL_law_1984 rfl (lv_at hl 3 rfl) ?_
  refine lv_iconst (v := 1) C.1.1 C.1.2.1 dL_law_1985 (by decide) ?_
  refine lv_iadd C.1.1 C.1.2.1 dL_law_1986 ?_
  refine va_sld C.1.1 C.1.2.1 hX hbl hbA Z1.2.2 (hv 1 (by decide)) dL_law_1987 ?_
  refine lv_aload_n C.1.1 C.1.2.1 dL_law_1988 rfl (lv_at hl 0 rfl) ?_
  refine lv_iload_n C.1.1 C.1.2.1 dL_law_1989 rfl (lv_at hl 3 rfl) ?_
  refine lv_iconst (v := 2) C.1.1 C.1.2.1 dL_law_1990 (by decide) ?_
  refine lv_iadd C.1.1 C.1.2.1 dL_law_1991 ?_
  refine va_sld C.1.1 C.1.2.1 hX hbl hbA Z1.2.2 (hv 2 (by decide)) dL_law_1992 ?_
  refine g_call2 (ov := (some (.int r))) (σ' := τ') eM_ok C Z2 Z1 (fun i hi j hj e => hdj j hj i hi e.symm) (fun _ _ _ => trivial) (k_X11_sign hm.1) lk_L_190 (by decide) rfl rfl hl ⟨rfl, rfl, by decide, by decide⟩ hcs0 rfl (Nat.le_of_ble_eq_true rfl) (rest := [.int r]) rfl dL_law_1993 (fun H locs Z2 Z1 => ?_)
  refine lv_icmp_eq (tgt := 2123) C.1.1 C.1.2.1 dL_law_1996 (by decide) (fun _ => ?_) (fun z => absurd rfl z)
  exact hn ad _ _ _ _ _ _ (Nat.le_succ _) (Nat.le_add_right _ _) rfl hdj Z1 Z2 hI
set_option maxRecDepth 20000 in
theorem lw_case_41 {p : Program} {l : Launch} {e : Env} {s : State} {m : MethodId} {below : List Frame} {meth : Method} {c : Code} {Q : State → Prop} {D : va_G} {kc : Nat → ClassId} {ad ad2 : Nat → Nat} {A : Nat → Prop} {adK adV : Nat → Nat} {b L : Nat} {xs : Nat → Int32} {H : Heap} {locs : List Loc} {cells slots : Nat} {ls : Array Slot} {x3 : Int32} {σ τ : St} {Inv : St → St → Prop} (C : Cx (eC adK adV) p s m #[Value.ref b] c cL_law 4 RL D kc A) (hX : va_X b L xs s s.heap) (hbl : b < s.heap.size) (hbA : ¬ A b) (hv : ∀ k : Nat, k < 7 → vp_in (x3 + nI k) L) (hs : SimI Inv (cC_41 (xs (x3 + 1).toNatClampNeg) (xs (x3 + 2).toNatClampNeg) (xs (x3 + 3).toNatClampNeg)) (cM_41 (xs (x3 + 1).toNatClampNeg) (xs (x3 + 2).toNatClampNeg) (xs (x3 + 3).toNatClampNeg))) (Z1 : Dy tC kc ad D A s.heap σ H locs) (Z2 : Dy tM kc ad2 D A s.heap τ H locs) (hdj : ∀ i, i < tC.1 → ∀ j, j < tM.1 → ad i ≠ ad2 j) (hI0 : Inv σ τ) (hcs : cells + 1 ≤ room_1.cells ∧ slots + 5300 ≤ room_1.slots) (hl : lv_has ls 4 [(0, .ref b), (1, .ref (ad 0)), (2, .ref (ad2 0)), (3, .int x3)]) (hn : ∀ (ad' : Nat → Nat) (σ' τ' : St) (H : Heap) (locs : List Loc) (cells' slots' : Nat), cells' ≤ cells + 1 → slots' ≤ slots + 5300 → ad' 0 = ad 0 → (∀ i, i < tC.1 → ∀ j, j < tM.1 → ad' i ≠ ad2 j) → Dy tC kc ad' D A s.heap σ' H locs → Dy tM kc ad2 D A s.heap τ' H locs → Inv σ' τ' → W p l e room_1 s m #[Value.ref b] below meth c H locs cells' slots' Q (F0 m 2123 ls [])) : W p l e room_1 s m #[Value.ref b] below meth c H locs cells slots Q (F0 m 2001 ls []) := by
  obtain ⟨r, σ', τ', hc, hm, hI⟩ := hs σ τ hI0
  unfold cC_41 at hc
  unfold cM_41 at hm
  have hcs0 : cells ≤ room_1.cells ∧ slots ≤ room_1.slots := ⟨by omega, by omega⟩
  refine lv_aload_n C.1.1 C.1.2.1 dL_law_2001 rfl (lv_at hl 1 rfl) ?_
  refine lv_aload_n C.1.1 C.1.2.1 dL_law_2002 rfl (lv_at hl 0 rfl) ?_
  refine lv_iload_n C.1.1 C.1.2.1 dL_law_2003 rfl (lv_at hl 3 rfl) ?_
  refine lv_iconst (v := 1) C.1.1 C.1.2.1 dL_law_2004 (by decide) ?_
  refine lv_iadd C.1.1 C.1.2.1 dL_law_2005 ?_
  refine va_sld C.1.1 C.1.2.1 hX hbl hbA Z1.2.2 (hv 1 (by decide)) dL_law_2006 ?_
  refine lv_aload_n C.1.1 C.1.2.1 dL_law_2007 rfl (lv_at hl 0 rfl) ?_
  refine lv_iload_n C.1.1 C.1.2.1 dL_law_2008 rfl (lv_at hl 3 rfl) ?_
  refine lv_iconst (v := 2) C.1.1 C.1.2.1 dL_law_2009 (by decide) ?_
  refine lv_iadd C.1.1 C.1.2.1 dL_law_2010 ?_
  refine va_sld C.1.1 C.1.2.1 hX hbl hbA Z1.2.2 (hv 2 (by decide)) dL_law_2011 ?_
  refine lv_aload_n C.1.1 C.1.2.1 dL_law_2012 rfl (lv_at hl 0 rfl) ?_
  refine lv_iload_n C.1.1 C.1.2.1 dL_law_2013 rfl (lv_at hl 3 rfl) ?_
  refine lv_iconst (v := 3) C.1.1 C.1.2.1 dL_law_2014 (by decide) ?_
  refine lv_iadd C.1.1 C.1.2.1 dL_law_2015 ?_
  refine va_sld C.1.1 C.1.2.1 hX hbl hbA Z1.2.2 (hv 3 (by decide)) dL_law_2016 ?_
  refine g_call2 (ov := (some (.int r))) (σ' := σ') (eC_ok adK adV) C Z1 Z2 hdj (eC_at C Z1) (k_X10_box hc) lk_L_191 (by decide) rfl rfl hl ⟨rfl, rfl, by decide, by decide⟩ hcs0 rfl (Nat.le_of_ble_eq_true rfl) (rest := []) rfl dL_law_2017 (fun H locs Z1 Z2 => ?_)
  refine lv_aload_n C.1.1 C.1.2.1 dL_law_2020 rfl (lv_at hl 2 rfl) ?_
  refine lv_aload_n C.1.1 C.1.2.1 dL_law_2021 rfl (lv_at hl 0 rfl) ?_
  refine lv_iload_n C.1.1 C.1.2.1 dL_law_2022 rfl (lv_at hl 3 rfl) ?_
  refine lv_iconst (v := 1) C.1.1 C.1.2.1 dL_law_2023 (by decide) ?_
  refine lv_iadd C.1.1 C.1.2.1 dL_law_2024 ?_
  refine va_sld C.1.1 C.1.2.1 hX hbl hbA Z1.2.2 (hv 1 (by decide)) dL_law_2025 ?_
  refine lv_aload_n C.1.1 C.1.2.1 dL_law_2026 rfl (lv_at hl 0 rfl) ?_
  refine lv_iload_n C.1.1 C.1.2.1 dL_law_2027 rfl (lv_at hl 3 rfl) ?_
  refine lv_iconst (v := 2) C.1.1 C.1.2.1 dL_law_2028 (by decide) ?_
  refine lv_iadd C.1.1 C.1.2.1 dL_law_2029 ?_
  refine va_sld C.1.1 C.1.2.1 hX hbl hbA Z1.2.2 (hv 2 (by decide)) dL_law_2030 ?_
  refine lv_aload_n C.1.1 C.1.2.1 dL_law_2031 rfl (lv_at hl 0 rfl) ?_
  refine lv_iload_n C.1.1 C.1.2.1 dL_law_2032 rfl (lv_at hl 3 rfl) ?_
  refine lv_iconst (v := 3) C.1.1 C.1.2.1 dL_law_2033 (by decide) ?_
  refine lv_iadd C.1.1 C.1.2.1 dL_law_2034 ?_
  refine va_sld C.1.1 C.1.2.1 hX hbl hbA Z1.2.2 (hv 3 (by decide)) dL_law_2035 ?_
  refine g_call2 (ov := (some (.int r))) (σ' := τ') eM_ok C Z2 Z1 (fun i hi j hj e => hdj j hj i hi e.symm) (fun _ _ _ => trivial) (k_X11_box hm) lk_L_194 (by decide) rfl rfl hl ⟨rfl, rfl, by decide, by decide⟩ hcs0 rfl (Nat.le_of_ble_eq_true rfl) (rest := [.int r]) rfl dL_law_2036 (fun H locs Z2 Z1 => ?_)
  refine lv_icmp_eq (tgt := 2123) C.1.1 C.1.2.1 dL_law_2039 (by decide) (fun _ => ?_) (fun z => absurd rfl z)
  exact hn ad _ _ _ _ _ _ (Nat.le_succ _) (Nat.le_add_right _ _) rfl hdj Z1 Z2 hI
set_option maxRecDepth 20000 in
theorem lw_case_42 {p : Program} {l : Launch} {e : Env} {s : State} {m : MethodId} {below : List Frame} {meth : Method} {c : Code} {Q : State → Prop} {D : va_G} {kc : Nat → ClassId} {ad ad2 : Nat → Nat} {A : Nat → Prop} {adK adV : Nat → Nat} {b L : Nat} {xs : Nat → Int32} {H : Heap} {locs : List Loc} {cells slots : Nat} {ls : Array Slot} {x3 : Int32} {σ τ : St} {Inv : St → St → Prop} (C : Cx (eC adK adV) p s m #[Value.ref b] c cL_law 4 RL D kc A) (hX : va_X b L xs s s.heap) (hbl : b < s.heap.size) (hbA : ¬ A b) (hv : ∀ k : Nat, k < 7 → vp_in (x3 + nI k) L) (hs : SimI Inv (cC_42 (xs (x3 + 1).toNatClampNeg) (xs (x3 + 2).toNatClampNeg)) (cM_42 (xs (x3 + 1).toNatClampNeg) (xs (x3 + 2).toNatClampNeg))) (Z1 : Dy tC kc ad D A s.heap σ H locs) (Z2 : Dy tM kc ad2 D A s.heap τ H locs) (hdj : ∀ i, i < tC.1 → ∀ j, j < tM.1 → ad i ≠ ad2 j) (hI0 : Inv σ τ) (hcs : cells + 1 ≤ room_1.cells ∧ slots + 5300 ≤ room_1.slots) (hl : lv_has ls 4 [(0, .ref b), (1, .ref (ad 0)), (2, .ref (ad2 0)), (3, .int x3)]) (hn : ∀ (ad' : Nat → Nat) (σ' τ' : St) (H : Heap) (locs : List Loc) (cells' slots' : Nat), cells' ≤ cells + 1 → slots' ≤ slots + 5300 → ad' 0 = ad 0 → (∀ i, i < tC.1 → ∀ j, j < tM.1 → ad' i ≠ ad2 j) → Dy tC kc ad' D A s.heap σ' H locs → Dy tM kc ad2 D A s.heap τ' H locs → Inv σ' τ' → W p l e room_1 s m #[Value.ref b] below meth c H locs cells' slots' Q (F0 m 2123 ls [])) : W p l e room_1 s m #[Value.ref b] below meth c H locs cells slots Q (F0 m 2044 ls []) := by
  obtain ⟨r, σ', τ', hc, hm, hI⟩ := hs σ τ hI0
  unfold cC_42 at hc
  unfold cM_42 at hm
  have hcs0 : cells ≤ room_1.cells ∧ slots ≤ room_1.slots := ⟨by omega, by omega⟩
  refine lv_aload_n C.1.1 C.1.2.1 dL_law_2044 rfl (lv_at hl 1 rfl) ?_
  refine lv_aload_n C.1.1 C.1.2.1 dL_law_2045 rfl (lv_at hl 0 rfl) ?_
  refine lv_iload_n C.1.1 C.1.2.1 dL_law_2046 rfl (lv_at hl 3 rfl) ?_
  refine lv_iconst (v := 1) C.1.1 C.1.2.1 dL_law_2047 (by decide) ?_
  refine lv_iadd C.1.1 C.1.2.1 dL_law_2048 ?_
  refine va_sld C.1.1 C.1.2.1 hX hbl hbA Z1.2.2 (hv 1 (by decide)) dL_law_2049 ?_
  refine lv_aload_n C.1.1 C.1.2.1 dL_law_2050 rfl (lv_at hl 0 rfl) ?_
  refine lv_iload_n C.1.1 C.1.2.1 dL_law_2051 rfl (lv_at hl 3 rfl) ?_
  refine lv_iconst (v := 2) C.1.1 C.1.2.1 dL_law_2052 (by decide) ?_
  refine lv_iadd C.1.1 C.1.2.1 dL_law_2053 ?_
  refine va_sld C.1.1 C.1.2.1 hX hbl hbA Z1.2.2 (hv 2 (by decide)) dL_law_2054 ?_
  refine g_call2 (ov := (some (.int r))) (σ' := σ') (eC_ok adK adV) C Z1 Z2 hdj (eC_at C Z1) (k_X10_escort hc) lk_L_195 (by decide) rfl rfl hl ⟨rfl, rfl, by decide, by decide⟩ hcs0 rfl (Nat.le_of_ble_eq_true rfl) (rest := []) rfl dL_law_2055 (fun H locs Z1 Z2 => ?_)
  refine lv_aload_n C.1.1 C.1.2.1 dL_law_2058 rfl (lv_at hl 2 rfl) ?_
  refine lv_aload_n C.1.1 C.1.2.1 dL_law_2059 rfl (lv_at hl 0 rfl) ?_
  refine lv_iload_n C.1.1 C.1.2.1 dL_law_2060 rfl (lv_at hl 3 rfl) ?_
  refine lv_iconst (v := 1) C.1.1 C.1.2.1 dL_law_2061 (by decide) ?_
  refine lv_iadd C.1.1 C.1.2.1 dL_law_2062 ?_
  refine va_sld C.1.1 C.1.2.1 hX hbl hbA Z1.2.2 (hv 1 (by decide)) dL_law_2063 ?_
  refine lv_aload_n C.1.1 C.1.2.1 dL_law_2064 rfl (lv_at hl 0 rfl) ?_
  refine lv_iload_n C.1.1 C.1.2.1 dL_law_2065 rfl (lv_at hl 3 rfl) ?_
  refine lv_iconst (v := 2) C.1.1 C.1.2.1 dL_law_2066 (by decide) ?_
  refine lv_iadd C.1.1 C.1.2.1 dL_law_2067 ?_
  refine va_sld C.1.1 C.1.2.1 hX hbl hbA Z1.2.2 (hv 2 (by decide)) dL_law_2068 ?_
  refine g_call2 (ov := (some (.int r))) (σ' := τ') eM_ok C Z2 Z1 (fun i hi j hj e => hdj j hj i hi e.symm) (fun _ _ _ => trivial) (k_X11_escort hm) lk_L_198 (by decide) rfl rfl hl ⟨rfl, rfl, by decide, by decide⟩ hcs0 rfl (Nat.le_of_ble_eq_true rfl) (rest := [.int r]) rfl dL_law_2069 (fun H locs Z2 Z1 => ?_)
  refine lv_icmp_eq (tgt := 2123) C.1.1 C.1.2.1 dL_law_2072 (by decide) (fun _ => ?_) (fun z => absurd rfl z)
  exact hn ad _ _ _ _ _ _ (Nat.le_succ _) (Nat.le_add_right _ _) rfl hdj Z1 Z2 hI
set_option maxRecDepth 20000 in
theorem lw_case_43 {p : Program} {l : Launch} {e : Env} {s : State} {m : MethodId} {below : List Frame} {meth : Method} {c : Code} {Q : State → Prop} {D : va_G} {kc : Nat → ClassId} {ad ad2 : Nat → Nat} {A : Nat → Prop} {adK adV : Nat → Nat} {b L : Nat} {xs : Nat → Int32} {H : Heap} {locs : List Loc} {cells slots : Nat} {ls : Array Slot} {x3 : Int32} {σ τ : St} {Inv : St → St → Prop} (C : Cx (eC adK adV) p s m #[Value.ref b] c cL_law 4 RL D kc A) (hX : va_X b L xs s s.heap) (hbl : b < s.heap.size) (hbA : ¬ A b) (hv : ∀ k : Nat, k < 7 → vp_in (x3 + nI k) L) (hs : SimI Inv (cC_43 (xs (x3 + 1).toNatClampNeg)) (cM_43 (xs (x3 + 1).toNatClampNeg))) (Z1 : Dy tC kc ad D A s.heap σ H locs) (Z2 : Dy tM kc ad2 D A s.heap τ H locs) (hdj : ∀ i, i < tC.1 → ∀ j, j < tM.1 → ad i ≠ ad2 j) (hI0 : Inv σ τ) (hcs : cells + 1 ≤ room_1.cells ∧ slots + 5300 ≤ room_1.slots) (hl : lv_has ls 4 [(0, .ref b), (1, .ref (ad 0)), (2, .ref (ad2 0)), (3, .int x3)]) (hn : ∀ (ad' : Nat → Nat) (σ' τ' : St) (H : Heap) (locs : List Loc) (cells' slots' : Nat), cells' ≤ cells + 1 → slots' ≤ slots + 5300 → ad' 0 = ad 0 → (∀ i, i < tC.1 → ∀ j, j < tM.1 → ad' i ≠ ad2 j) → Dy tC kc ad' D A s.heap σ' H locs → Dy tM kc ad2 D A s.heap τ' H locs → Inv σ' τ' → W p l e room_1 s m #[Value.ref b] below meth c H locs cells' slots' Q (F0 m 2123 ls [])) : W p l e room_1 s m #[Value.ref b] below meth c H locs cells slots Q (F0 m 2077 ls []) := by
  obtain ⟨r, σ', τ', hc, hm, hI⟩ := hs σ τ hI0
  unfold cC_43 at hc
  unfold cM_43 at hm
  have hc := mapO hc
  have ehc := hc.2
  subst ehc
  have hm := mapO hm
  have ehm := hm.2
  subst ehm
  have hcs0 : cells ≤ room_1.cells ∧ slots ≤ room_1.slots := ⟨by omega, by omega⟩
  refine lv_aload_n C.1.1 C.1.2.1 dL_law_2077 rfl (lv_at hl 1 rfl) ?_
  refine lv_aload_n C.1.1 C.1.2.1 dL_law_2078 rfl (lv_at hl 0 rfl) ?_
  refine lv_iload_n C.1.1 C.1.2.1 dL_law_2079 rfl (lv_at hl 3 rfl) ?_
  refine lv_iconst (v := 1) C.1.1 C.1.2.1 dL_law_2080 (by decide) ?_
  refine lv_iadd C.1.1 C.1.2.1 dL_law_2081 ?_
  refine va_sld C.1.1 C.1.2.1 hX hbl hbA Z1.2.2 (hv 1 (by decide)) dL_law_2082 ?_
  refine g_call2 (ov := (some (.int r))) (σ' := σ') (eC_ok adK adV) C Z1 Z2 hdj (eC_at C Z1) (k_X10_escorts hc.1) lk_L_199 (by decide) rfl rfl hl ⟨rfl, rfl, by decide, by decide⟩ hcs0 rfl (Nat.le_of_ble_eq_true rfl) (rest := []) rfl dL_law_2083 (fun H locs Z1 Z2 => ?_)
  refine lv_aload_n C.1.1 C.1.2.1 dL_law_2086 rfl (lv_at hl 2 rfl) ?_
  refine lv_aload_n C.1.1 C.1.2.1 dL_law_2087 rfl (lv_at hl 0 rfl) ?_
  refine lv_iload_n C.1.1 C.1.2.1 dL_law_2088 rfl (lv_at hl 3 rfl) ?_
  refine lv_iconst (v := 1) C.1.1 C.1.2.1 dL_law_2089 (by decide) ?_
  refine lv_iadd C.1.1 C.1.2.1 dL_law_2090 ?_
  refine va_sld C.1.1 C.1.2.1 hX hbl hbA Z1.2.2 (hv 1 (by decide)) dL_law_2091 ?_
  refine g_call2 (ov := (some (.int r))) (σ' := τ') eM_ok C Z2 Z1 (fun i hi j hj e => hdj j hj i hi e.symm) (fun _ _ _ => trivial) (k_X11_escorts hm.1) lk_L_202 (by decide) rfl rfl hl ⟨rfl, rfl, by decide, by decide⟩ hcs0 rfl (Nat.le_of_ble_eq_true rfl) (rest := [.int r]) rfl dL_law_2092 (fun H locs Z2 Z1 => ?_)
  refine lv_icmp_eq (tgt := 2123) C.1.1 C.1.2.1 dL_law_2095 (by decide) (fun _ => ?_) (fun z => absurd rfl z)
  exact hn ad _ _ _ _ _ _ (Nat.le_succ _) (Nat.le_add_right _ _) rfl hdj Z1 Z2 hI
set_option maxRecDepth 20000 in
theorem lw_case_44 {p : Program} {l : Launch} {e : Env} {s : State} {m : MethodId} {below : List Frame} {meth : Method} {c : Code} {Q : State → Prop} {D : va_G} {kc : Nat → ClassId} {ad ad2 : Nat → Nat} {A : Nat → Prop} {adK adV : Nat → Nat} {b L : Nat} {xs : Nat → Int32} {H : Heap} {locs : List Loc} {cells slots : Nat} {ls : Array Slot} {x3 : Int32} {σ τ : St} {Inv : St → St → Prop} (C : Cx (eC adK adV) p s m #[Value.ref b] c cL_law 4 RL D kc A) (hX : va_X b L xs s s.heap) (hbl : b < s.heap.size) (hbA : ¬ A b) (hv : ∀ k : Nat, k < 7 → vp_in (x3 + nI k) L) (hs : SimI Inv (cC_44 (xs (x3 + 1).toNatClampNeg)) (cM_44 (xs (x3 + 1).toNatClampNeg))) (Z1 : Dy tC kc ad D A s.heap σ H locs) (Z2 : Dy tM kc ad2 D A s.heap τ H locs) (hdj : ∀ i, i < tC.1 → ∀ j, j < tM.1 → ad i ≠ ad2 j) (hI0 : Inv σ τ) (hcs : cells + 1 ≤ room_1.cells ∧ slots + 5300 ≤ room_1.slots) (hl : lv_has ls 4 [(0, .ref b), (1, .ref (ad 0)), (2, .ref (ad2 0)), (3, .int x3)]) (hn : ∀ (ad' : Nat → Nat) (σ' τ' : St) (H : Heap) (locs : List Loc) (cells' slots' : Nat), cells' ≤ cells + 1 → slots' ≤ slots + 5300 → ad' 0 = ad 0 → (∀ i, i < tC.1 → ∀ j, j < tM.1 → ad' i ≠ ad2 j) → Dy tC kc ad' D A s.heap σ' H locs → Dy tM kc ad2 D A s.heap τ' H locs → Inv σ' τ' → W p l e room_1 s m #[Value.ref b] below meth c H locs cells' slots' Q (F0 m 2123 ls [])) : W p l e room_1 s m #[Value.ref b] below meth c H locs cells slots Q (F0 m 2100 ls []) := by
  obtain ⟨r, σ', τ', hc, hm, hI⟩ := hs σ τ hI0
  unfold cC_44 at hc
  unfold cM_44 at hm
  have hc := mapO hc
  have ehc := hc.2
  subst ehc
  have hm := mapO hm
  have ehm := hm.2
  subst ehm
  have hcs0 : cells ≤ room_1.cells ∧ slots ≤ room_1.slots := ⟨by omega, by omega⟩
  refine lv_aload_n C.1.1 C.1.2.1 dL_law_2100 rfl (lv_at hl 1 rfl) ?_
  refine lv_aload_n C.1.1 C.1.2.1 dL_law_2101 rfl (lv_at hl 0 rfl) ?_
  refine lv_iload_n C.1.1 C.1.2.1 dL_law_2102 rfl (lv_at hl 3 rfl) ?_
  refine lv_iconst (v := 1) C.1.1 C.1.2.1 dL_law_2103 (by decide) ?_
  refine lv_iadd C.1.1 C.1.2.1 dL_law_2104 ?_
  refine va_sld C.1.1 C.1.2.1 hX hbl hbA Z1.2.2 (hv 1 (by decide)) dL_law_2105 ?_
  refine g_call2 (ov := (some (.int r))) (σ' := σ') (eC_ok adK adV) C Z1 Z2 hdj (eC_at C Z1) (k_X10_count hc.1) lk_L_203 (by decide) rfl rfl hl ⟨rfl, rfl, by decide, by decide⟩ hcs0 rfl (Nat.le_of_ble_eq_true rfl) (rest := []) rfl dL_law_2106 (fun H locs Z1 Z2 => ?_)
  refine lv_aload_n C.1.1 C.1.2.1 dL_law_2109 rfl (lv_at hl 2 rfl) ?_
  refine lv_aload_n C.1.1 C.1.2.1 dL_law_2110 rfl (lv_at hl 0 rfl) ?_
  refine lv_iload_n C.1.1 C.1.2.1 dL_law_2111 rfl (lv_at hl 3 rfl) ?_
  refine lv_iconst (v := 1) C.1.1 C.1.2.1 dL_law_2112 (by decide) ?_
  refine lv_iadd C.1.1 C.1.2.1 dL_law_2113 ?_
  refine va_sld C.1.1 C.1.2.1 hX hbl hbA Z1.2.2 (hv 1 (by decide)) dL_law_2114 ?_
  refine g_call2 (ov := (some (.int r))) (σ' := τ') eM_ok C Z2 Z1 (fun i hi j hj e => hdj j hj i hi e.symm) (fun _ _ _ => trivial) (k_X11_count hm.1) lk_L_206 (by decide) rfl rfl hl ⟨rfl, rfl, by decide, by decide⟩ hcs0 rfl (Nat.le_of_ble_eq_true rfl) (rest := [.int r]) rfl dL_law_2115 (fun H locs Z2 Z1 => ?_)
  refine lv_icmp_eq (tgt := 2123) C.1.1 C.1.2.1 dL_law_2118 (by decide) (fun _ => ?_) (fun z => absurd rfl z)
  exact hn ad _ _ _ _ _ _ (Nat.le_succ _) (Nat.le_add_right _ _) rfl hdj Z1 Z2 hI
def LawHyp (Inv : St → St → Prop) : Prop := (∀ a1 : Int32, SimI Inv (cC_0 a1) (cM_0 a1)) ∧ (∀ a1 a2 a3 : Int32, SimI Inv (cC_1 a1 a2 a3) (cM_1 a1 a2 a3)) ∧ (∀ a1 a2 a3 a4 : Int32, SimI Inv (cC_2 a1 a2 a3 a4) (cM_2 a1 a2 a3 a4)) ∧ (∀ a1 a2 a3 a4 a5 : Int32, SimI Inv (cC_3 a1 a2 a3 a4 a5) (cM_3 a1 a2 a3 a4 a5)) ∧ (∀ a1 a2 a3 : Int32, SimI Inv (cC_4 a1 a2 a3) (cM_4 a1 a2 a3)) ∧ (∀ a1 a2 : Int32, SimI Inv (cC_5 a1 a2) (cM_5 a1 a2)) ∧ (∀ a1 : Int32, SimI Inv (cC_6 a1) (cM_6 a1)) ∧ (∀ a1 a2 a3 : Int32, SimI Inv (cC_7 a1 a2 a3) (cM_7 a1 a2 a3)) ∧ (∀ a1 a2 : Int32, SimI Inv (cC_8 a1 a2) (cM_8 a1 a2)) ∧ (∀ a1 a2 : Int32, SimI Inv (cC_9 a1 a2) (cM_9 a1 a2)) ∧ (∀ a1 a2 a3 a4 a5 : Int32, SimI Inv (cC_10 a1 a2 a3 a4 a5) (cM_10 a1 a2 a3 a4 a5)) ∧ (∀ a1 a2 a3 a4 : Int32, SimL Inv (cC_11 a1 a2 a3 a4) (cM_11 a1 a2 a3 a4)) ∧ (∀ a1 a2 : Int32, SimI Inv (cC_12 a1 a2) (cM_12 a1 a2)) ∧ (∀ a1 a2 a3 a4 a5 : Int32, SimI Inv (cC_13 a1 a2 a3 a4 a5) (cM_13 a1 a2 a3 a4 a5)) ∧ (∀ a1 : Int32, SimI Inv (cC_14 a1) (cM_14 a1)) ∧ (∀ a1 a2 : Int32, SimI Inv (cC_15 a1 a2) (cM_15 a1 a2)) ∧ (∀ a1 a2 : Int32, SimI Inv (cC_16 a1 a2) (cM_16 a1 a2)) ∧ (∀ a1 a2 a3 a4 a5 a6 : Int32, SimI Inv (cC_17 a1 a2 a3 a4 a5 a6) (cM_17 a1 a2 a3 a4 a5 a6)) ∧ (∀ a1 a2 a3 a4 a5 : Int32, SimL Inv (cC_18 a1 a2 a3 a4 a5) (cM_18 a1 a2 a3 a4 a5)) ∧ (∀ a1 a2 a3 a4 a5 a6 : Int32, SimI Inv (cC_19 a1 a2 a3 a4 a5 a6) (cM_19 a1 a2 a3 a4 a5 a6)) ∧ (∀ a1 a2 a3 a4 a5 : Int32, SimI Inv (cC_20 a1 a2 a3 a4 a5) (cM_20 a1 a2 a3 a4 a5)) ∧ (∀ a1 a2 : Int32, SimI Inv (cC_21 a1 a2) (cM_21 a1 a2)) ∧ (∀ a1 a2 : Int32, SimI Inv (cC_22 a1 a2) (cM_22 a1 a2)) ∧ (∀ a1 a2 a3 a4 a5 a6 : Int32, SimI Inv (cC_23 a1 a2 a3 a4 a5 a6) (cM_23 a1 a2 a3 a4 a5 a6)) ∧ (SimI Inv cC_24 cM_24) ∧ (∀ a1 a2 a3 a4 : Int32, SimI Inv (cC_25 a1 a2 a3 a4) (cM_25 a1 a2 a3 a4)) ∧ (∀ a1 a2 a3 : Int32, SimI Inv (cC_26 a1 a2 a3) (cM_26 a1 a2 a3)) ∧ (∀ a1 a2 a3 : Int32, SimI Inv (cC_27 a1 a2 a3) (cM_27 a1 a2 a3)) ∧ (∀ a1 a2 : Int32, SimL Inv (cC_28 a1 a2) (cM_28 a1 a2)) ∧ (∀ a1 : Int32, SimI Inv (cC_29 a1) (cM_29 a1)) ∧ (∀ a1 a2 : Int32, SimI Inv (cC_30 a1 a2) (cM_30 a1 a2)) ∧ (∀ a1 a2 a3 a4 : Int32, SimI Inv (cC_31 a1 a2 a3 a4) (cM_31 a1 a2 a3 a4)) ∧ (∀ a1 a2 a3 a4 a5 : Int32, SimL Inv (cC_32 a1 a2 a3 a4 a5) (cM_32 a1 a2 a3 a4 a5)) ∧ (∀ a1 a2 a3 a4 a5 : Int32, SimI Inv (cC_33 a1 a2 a3 a4 a5) (cM_33 a1 a2 a3 a4 a5)) ∧ (∀ a1 a2 a3 a4 : Int32, SimI Inv (cC_34 a1 a2 a3 a4) (cM_34 a1 a2 a3 a4)) ∧ (∀ a1 a2 a3 : Int32, SimI Inv (cC_35 a1 a2 a3) (cM_35 a1 a2 a3)) ∧ (∀ a1 a2 : Int32, SimI Inv (cC_36 a1 a2) (cM_36 a1 a2)) ∧ (∀ a1 : Int32, SimI Inv (cC_37 a1) (cM_37 a1)) ∧ (∀ a1 : Int32, SimI Inv (cC_38 a1) (cM_38 a1)) ∧ (∀ a1 a2 : Int32, SimI Inv (cC_39 a1 a2) (cM_39 a1 a2)) ∧ (∀ a1 a2 : Int32, SimI Inv (cC_40 a1 a2) (cM_40 a1 a2)) ∧ (∀ a1 a2 a3 : Int32, SimI Inv (cC_41 a1 a2 a3) (cM_41 a1 a2 a3)) ∧ (∀ a1 a2 : Int32, SimI Inv (cC_42 a1 a2) (cM_42 a1 a2)) ∧ (∀ a1 : Int32, SimI Inv (cC_43 a1) (cM_43 a1)) ∧ (∀ a1 : Int32, SimI Inv (cC_44 a1) (cM_44 a1))
