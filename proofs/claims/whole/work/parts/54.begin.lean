/-! FROM THE LAW'S ENTRY to its loop: both systems are made, their worlds lie side by side -/
set_option maxRecDepth 20000 in
set_option maxHeartbeats 4000000 in
theorem whole_open {Inv : St → St → Prop} (hH : LawHyp Inv) (hI : Inv σ0C σ0M) {p : Program} {e : Env} {s : State} {m : MethodId} {below : List Frame} {meth : Method} {c : Code} (l : Launch) {b L : Nat} {xs : Nat → Int32} (hL : L ≤ 3584) (C0 : lw_At p s m meth c b L xs) : W p l e room_1 s m #[Value.ref b] below meth c s.heap [] 0 0 (lw_Z below #[Value.ref b] s) (entryFrame m ([Value.ref b] : List Value).toArray 4) := by
  obtain ⟨hx, hb, hr, hml, hown, hts, hX, hbl, hlocks, hgv⟩ := id C0
  have hB : ∀ w ∈ bw, w.before #[Value.ref b] s = true := fun w hw => hts w (List.mem_filter.mp hw).1
  obtain ⟨D, hD0⟩ := st_cl hB
  obtain ⟨kc, hkc⟩ := st_kc hB
  have hK : va_K D vwCl (kts kc) s := ⟨hD0, hkc⟩
  obtain ⟨adK, adV, hE⟩ := st_eC (A := fun q : Nat => s.heap.size ≤ q) hts hgv (fun a h z => absurd h (Nat.not_lt.mpr z))
  have C : Cx (eC adK adV) p s m #[Value.ref b] c cL_law 4 RL D kc (fun q : Nat => s.heap.size ≤ q) := ⟨⟨hx, hb, hml, hown, hB⟩, hK, fun _ h => h, hE⟩
  have hNI : ∀ w ∈ nestI, va_Nw w s := fun w hw => va_Nw.of (nestI_on w hw) (hts w (nestI_tbl w hw))
  have hl := lv_entry ([.ref b]) (n := 4) (Nat.le_of_ble_eq_true rfl)
  rw [lg_entry_eq]
  generalize (lg_sl ([.ref b]) ++ List.replicate (4 - (lg_sl ([.ref b])).length) Slot.unset).toArray = ls at hl ⊢
  have hl : lv_has ls 4 [(0, .ref b)] := hl
  have Z : NZ D (fun q : Nat => s.heap.size ≤ q) s.heap s.heap [] [] := ⟨fun k q h => by simp at h, ⟨fun i j p q h => by simp at h, fun k q h => by simp at h⟩, va_S.rf⟩
  refine nw_new (ci := 10) (nf := 15) C Z rfl inX10 tyX10_ok wK_L_7 wN_X10 wI_X10 ⟨by decide, by decide⟩ dL_law_0 (fun q H Z => ?_)
  refine lv_dup hx hb dL_law_3 rfl ?_
  -- the class's constructor
  have Z : NZ D (fun q : Nat => s.heap.size ≤ q) s.heap H [] (NW q (fun k => defaultValue (tyX10 k)) []) := Z
  have hFc : ∀ x, va_A (NW q (fun k => defaultValue (tyX10 k)) []) H.size x → (fun q : Nat => s.heap.size ≤ q) x := va_free Z.2.1 Z.2.2 C.2.2.1 [0] rfl
  refine va_callv (va_runI (As := []) (rest := [.ref q]) C.1 (ki_X10 H.size) ⟨callB_of 0 hB (bw_good0 wC_yX10_init) rfl rfl rfl (hB _ wI_X10) (hB _ wM_L_9) ⟨by decide +kernel, by decide +kernel, by decide +kernel⟩ ⟨by decide, by decide⟩, rfl, hB _ wIM_yX10_init⟩ ⟨fun a U g mk q => by obtain ⟨q0, q1, qP, qK, qD, qN⟩ := q; exact ⟨q0, q1, qP, va_K.moved (u := U) (U := U.calling g mk a) (Vm.Alike.refl U.vm) qK, qD, nestI_same (s := U) (U := U.calling g mk a) rfl qN⟩, fun U hU hW => ⟨rfl, by rw [hU], by rw [hU]; exact Z.1, va_K.moved hW.alike hK, Z.2.1.weaken (fun _ _ _ _ => trivial), nestI_warm hW hNI⟩⟩ rfl rfl hl.1 rfl (lv_room (Nat.le_of_ble_eq_true rfl)) dL_law_4 ⟨by decide, by decide⟩) Z.2.2 (fun x _ h => hFc x h) hFc (fun ad t H1 locs1 ht hvm had hB1 hz1 hk1 hS1 => ?_)
  obtain ⟨hP1, hD1⟩ := hB1
  rw [ht] at hP1
  have Z1 : Dy tC kc ad D (fun q : Nat => s.heap.size ≤ q) s.heap σ0C H1 locs1 := ⟨hP1, hD1.weaken (fun _ q _ h => hFc q.1 h), hS1⟩
  refine lv_astore_n (lv' := [(1, .ref q), (0, .ref b)]) hx hb dL_law_7 rfl hl (by decide) rfl (fun ls hl => ?_)
  -- the reference's constructor
  have Zn : NZ D (fun q : Nat => s.heap.size ≤ q) s.heap H1 locs1 (wsW tC kc ad σ0C) := Z1
  refine nw_new (ci := 11) (nf := 93) C Zn rfl inX11 tyX11_ok wK_L_10 wN_X11 wI_X11 ⟨by decide, by decide⟩ dL_law_8 (fun q2 H Z => ?_)
  refine lv_dup hx hb dL_law_11 rfl ?_
  refine nw_callI (nA := 0) C Z ki_X11 wM_L_12 wIM_yX11_init wI_X11 wC_yX11_init rfl rfl ⟨by decide +kernel, by decide +kernel, by decide +kernel⟩ hl ⟨rfl, rfl, by decide, by decide, by decide, by decide⟩ (rest := [.ref q2]) (Nat.le_of_ble_eq_true rfl) rfl dL_law_12 (fun ad' H locs Z => ?_)
  rw [PM_eq] at Z
  have hlen : (wsW tC kc ad σ0C).length = 71 := ws_len
  have hdj : ∀ i, i < tC.1 → ∀ j, j < tM.1 → ad i ≠ adM q2 ad' j := by
    intro i hi j hj e
    have h1 : (wsW tC kc ad σ0C ++ wsW tM kc (adM q2 ad') σ0M)[i]? = some (ad i, ent tC kc ad σ0C i) := by
      rw [List.getElem?_append_left (by rw [ws_len]; exact hi), ws_get hi]
    have h2 : (wsW tC kc ad σ0C ++ wsW tM kc (adM q2 ad') σ0M)[71 + j]? = some (adM q2 ad' j, ent tM kc (adM q2 ad') σ0M j) := by
      rw [List.getElem?_append_right (by rw [hlen]; omega), hlen, show 71 + j - 71 = j by omega, ws_get hj]
    have h3 := Z.2.1.1 _ _ _ _ h1 h2 e
    have h4 : i < 71 := hi
    omega
  have Z1 : Dy tC kc ad D (fun q : Nat => s.heap.size ≤ q) s.heap σ0C H locs := by
    refine ⟨fun k x hx' => Z.1 k x ?_, ⟨fun i j x y hi hj hxy => Z.2.1.1 i j x y ?_ ?_ hxy, fun k x hx' => Z.2.1.2 k x ?_⟩, Z.2.2⟩
    · rw [List.getElem?_append_left (List.getElem?_eq_some_iff.mp hx').1]; exact hx'
    · rw [List.getElem?_append_left (List.getElem?_eq_some_iff.mp hi).1]; exact hi
    · rw [List.getElem?_append_left (List.getElem?_eq_some_iff.mp hj).1]; exact hj
    · rw [List.getElem?_append_left (List.getElem?_eq_some_iff.mp hx').1]; exact hx'
  have sh : ∀ {k : Nat} {x : Nat × va_E}, (wsW tM kc (adM q2 ad') σ0M)[k]? = some x → (wsW tC kc ad σ0C ++ wsW tM kc (adM q2 ad') σ0M)[71 + k]? = some x := by
    intro k x hx'
    rw [List.getElem?_append_right (by rw [hlen]; omega), hlen, show 71 + k - 71 = k by omega]
    exact hx'
  have Z2 : Dy tM kc (adM q2 ad') D (fun q : Nat => s.heap.size ≤ q) s.heap σ0M H locs := by
    refine ⟨fun k x hx' => Z.1 _ x (sh hx'), ⟨fun i j x y hi hj hxy => ?_, fun k x hx' => Z.2.1.2 _ x (sh hx')⟩, Z.2.2⟩
    have := Z.2.1.1 _ _ x y (sh hi) (sh hj) hxy
    omega
  refine lv_astore_n (lv' := [(2, .ref q2), (1, .ref q), (0, .ref b)]) hx hb dL_law_15 rfl hl (by decide) rfl (fun ls hl => ?_)
  refine lv_iconst (v := 0) hx hb dL_law_16 (by decide) ?_
  refine lv_istore_n (lv' := [(3, .int 0), (2, .ref q2), (1, .ref q), (0, .ref b)]) hx hb dL_law_17 rfl hl (by decide) rfl (fun ls hl => ?_)
  have had : ad 0 = q := had
  subst had
  exact lw_loop hH hL hr hlocks C hX hbl 513 0 ad σ0C σ0M H locs _ _ ls (by omega) (by omega) (by decide) (by decide) hdj Z1 Z2 hI (lv_sub hl [3, 2, 1, 0] rfl)
