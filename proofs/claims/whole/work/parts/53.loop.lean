def R_law : String := "NetsCutLaw"
def lw_P (b : Addr) (xs : List Int32) (args : Array Value) (s : State) : Prop := args = #[.ref b] ∧ s.IntsAt b xs ∧ xs.length ≤ 3584 ∧ (Jvm.Cond.and given_1 narrow_1).before args s = true
def lw_Q (_ : Array Value) (s : State) (o : Outcome) (t : State) : Prop := o = .returned (some (.int 1)) ∧ Framed s o t [] 600000 7302250
def lw_Z (below : List Frame) (a : Array Value) (s : State) : State → Prop := fun t => ∃ o, t.status = .running ∧ Ended t below o ∧ lw_Q a s o t
/-- the law's own end, with 1 on the stack, nothing written that was there before, its room as the claim has it -/
theorem lw_ret {p : Program} {l : Launch} {e : Env} {s : State} {m : MethodId} {below : List Frame} {meth : Method} {c : Code} {b : Nat} (hx : p.tables.exec = Jvm.exec) (hb : c.code = code) (hr : meth.sig.returnType = ret) (hlocks : meth.locks = false) {pc : Nat} {H : Heap} {ls : Array Slot} (hdg : decode code pc = .ok (.ireturn, 1)) : W p l e room_1 s m #[Value.ref b] below meth c H [] 600000 7302250 (lw_Z below #[Value.ref b] s) (F0 m pc ls [.int 1]) := by
  intro T hT X
  obtain ⟨fs, hret, hrun, hended, hW, hframe⟩ := X.leave (v := some (.int 1)) (hlocks := hlocks) (fun h => by rw [hr] at h; cases h)
  have hmeth' : T.vm.method? m = some meth := X.method'
  refine ⟨T.setFrames fs, ?_, .returned (some (.int 1)), hrun, hended, rfl, ⟨_, rfl⟩, hW, hframe⟩
  jvm_step X.here [X.here.top, hx, hb, hdg, hmeth', hr, ret, narrow_b1]
  (try refine ⟨rfl, ?_⟩); (try refine ⟨rfl, ?_⟩)
  first | (intro acts; rw [hret _ acts rfl rfl rfl]) | rw [hret _ _ rfl rfl rfl]
  exact Steps.refl _
/-- what holds at the law's entry: the machine, the code, the tables' words (any of lw_tbl by 'hts w (by decide +kernel)'), the script of L ints xs at the cell b, what the Statement gives of the start (any of its parts by flat_of_before) -/
def lw_At (p : Program) (s : State) (m : MethodId) (meth : Method) (c : Code) (b L : Nat) (xs : Nat → Int32) : Prop :=
  p.tables.exec = Jvm.exec ∧ c.code = code ∧ meth.sig.returnType = ret ∧ c.maxLocals = 4 ∧ s.vm.findClass R_law = some m.cls ∧ (∀ w ∈ lw_tbl, w.before #[Value.ref b] s = true) ∧ va_X b L xs s s.heap ∧ b < s.heap.size ∧ meth.locks = false ∧ (Jvm.Cond.and given_1 narrow_1).before #[Value.ref b] s = true
theorem lw_sub7 {L : Nat} (h : L ≤ 3584) : (Int32.ofNat L - 7).toInt = (L : Int) - 7 := by
  have e : (Int32.ofNat L).toInt = (L : Int) := nI_toInt (by omega)
  rw [Int32.toInt_sub, e, show (7 : Int32).toInt = 7 by decide]
  exact Int.bmod_eq_of_le (by omega) (by omega)
theorem lw_gt {L t : Nat} (hL : L ≤ 3584) (ht : t ≤ 513) (h : L < 7 * t) : Int32.ofNat L - 7 < nI (7 * t) := by
  rw [Int32.lt_iff_toInt_lt, lw_sub7 hL, nI_toInt (by omega)]
  omega
theorem lw_le {L t : Nat} (hL : L ≤ 3584) (ht : t ≤ 513) (h : ¬ Int32.ofNat L - 7 < nI (7 * t)) : 7 * t + 7 ≤ L := by
  rw [Int32.lt_iff_toInt_lt, lw_sub7 hL, nI_toInt (by omega)] at h
  omega
/-! THE LAW'S LOOP, over any relation of the two states that every call keeps and under which both answer alike -/
set_option maxRecDepth 20000 in
set_option maxHeartbeats 4000000 in
theorem lw_loop {p : Program} {l : Launch} {e : Env} {s : State} {m : MethodId} {below : List Frame} {meth : Method} {c : Code} {D : va_G} {kc : Nat → ClassId} {ad2 : Nat → Nat} {adK adV : Nat → Nat} {b L : Nat} {xs : Nat → Int32} {Inv : St → St → Prop} (hH : LawHyp Inv) (hL : L ≤ 3584) (hr : meth.sig.returnType = ret) (hlocks : meth.locks = false) (C : Cx (eC adK adV) p s m #[Value.ref b] c cL_law 4 RL D kc (fun q : Nat => s.heap.size ≤ q)) (hX : va_X b L xs s s.heap) (hbl : b < s.heap.size) : ∀ (n t : Nat) (ad : Nat → Nat) (σ τ : St) (H : Heap) (locs : List Loc) (cells slots : Nat) (ls : Array Slot), L < 7 * (t + n) → t + n ≤ 513 → cells + n ≤ 600000 → slots + 5300 * n ≤ 7302250 → (∀ i, i < tC.1 → ∀ j, j < tM.1 → ad i ≠ ad2 j) → Dy tC kc ad D (fun q : Nat => s.heap.size ≤ q) s.heap σ H locs → Dy tM kc ad2 D (fun q : Nat => s.heap.size ≤ q) s.heap τ H locs → Inv σ τ → lv_has ls 4 [(0, .ref b), (1, .ref (ad 0)), (2, .ref (ad2 0)), (3, .int (nI (7 * t)))] → W p l e room_1 s m #[Value.ref b] below meth c H locs cells slots (lw_Z below #[Value.ref b] s) (F0 m 18 ls []) := by
  have hbA : ¬ (fun q : Nat => s.heap.size ≤ q) b := Nat.not_le.mpr hbl
  have hx := C.1.1
  have hb := C.1.2.1
  intro n
  induction n with
  | zero =>
    intro t ad σ τ H locs cells slots ls h1 h2 h3 h4 hdj Z1 Z2 hI hl
    refine lv_iload_n hx hb dL_law_18 rfl (lv_at hl 3 rfl) ?_
    refine lv_aload_n hx hb dL_law_19 rfl (lv_at hl 0 rfl) ?_
    refine va_slen hx hb hX hbl hbA Z1.2.2 dL_law_20 ?_
    refine lv_bipush (v := 7) hx hb dL_law_21 (by decide) ?_
    refine lv_isub hx hb dL_law_23 ?_
    refine lv_icmp_gt (tgt := 2129) hx hb dL_law_24 (by decide) (fun _ => ?_) (fun z => absurd (lw_gt (by omega) (by omega) (by omega)) z)
    refine lv_iconst (v := 1) hx hb dL_law_2129 (by decide) ?_
    refine va_forget (fun q hq => Z1.2.2.2.2 q hq) ?_
    refine W.widen (k := 600000) (n := 7302250) (by omega) (by omega) ?_
    exact lw_ret hx hb hr hlocks dL_law_2130
  | succ n ih =>
    intro t ad σ τ H locs cells slots ls h1 h2 h3 h4 hdj Z1 Z2 hI hl
    refine lv_iload_n hx hb dL_law_18 rfl (lv_at hl 3 rfl) ?_
    refine lv_aload_n hx hb dL_law_19 rfl (lv_at hl 0 rfl) ?_
    refine va_slen hx hb hX hbl hbA Z1.2.2 dL_law_20 ?_
    refine lv_bipush (v := 7) hx hb dL_law_21 (by decide) ?_
    refine lv_isub hx hb dL_law_23 ?_
    refine lv_icmp_gt (tgt := 2129) hx hb dL_law_24 (by decide) (fun _ => ?_) (fun z => ?_)
    · refine lv_iconst (v := 1) hx hb dL_law_2129 (by decide) ?_
      refine va_forget (fun q hq => Z1.2.2.2.2 q hq) ?_
      refine W.widen (k := 600000) (n := 7302250) (by omega) (by omega) ?_
      exact lw_ret hx hb hr hlocks dL_law_2130
    have hle : 7 * t + 7 ≤ L := lw_le (by omega) (by omega) z
    have hv : ∀ k : Nat, k < 7 → vp_in (nI (7 * t) + nI k) L := fun k hk => by rw [nI_add]; exact vp_in_nI (by omega) (by omega)
    have hcs : cells + 1 ≤ room_1.cells ∧ slots + 5300 ≤ room_1.slots := ⟨by show cells + 1 ≤ 600000; omega, by show slots + 5300 ≤ 7302250; omega⟩
    have hn : ∀ (ad' : Nat → Nat) (σ' τ' : St) (H : Heap) (locs : List Loc) (cells' slots' : Nat), cells' ≤ cells + 1 → slots' ≤ slots + 5300 → ad' 0 = ad 0 → (∀ i, i < tC.1 → ∀ j, j < tM.1 → ad' i ≠ ad2 j) → Dy tC kc ad' D (fun q : Nat => s.heap.size ≤ q) s.heap σ' H locs → Dy tM kc ad2 D (fun q : Nat => s.heap.size ≤ q) s.heap τ' H locs → Inv σ' τ' → W p l e room_1 s m #[Value.ref b] below meth c H locs cells' slots' (lw_Z below #[Value.ref b] s) (F0 m 2123 ls []) := by
      intro ad' σ' τ' H locs cells' slots' g1 g2 g3 g4 Z1 Z2 hI
      refine lv_iinc (v := nI (7 * (t + 1))) (lv' := [(3, .int (nI (7 * (t + 1)))), (0, .ref b), (1, .ref (ad 0)), (2, .ref (ad2 0))]) hx hb dL_law_2123 hl (k := 3) rfl (by show nI (7 * t) + nI 7 = _; rw [nI_add]; rfl) (by decide) rfl (fun ls hl => ?_)
      refine lv_goto (tgt := 18) hx hb dL_law_2126 (by decide) ?_
      refine ih (t + 1) ad' σ' τ' H locs cells' slots' ls (by omega) (by omega) (by omega) (by omega) g4 Z1 Z2 hI ?_
      rw [g3]
      exact lv_sub hl [1, 2, 3, 0] rfl
    refine lv_aload_n hx hb dL_law_27 rfl (lv_at hl 0 rfl) ?_
    refine lv_iload_n hx hb dL_law_28 rfl (lv_at hl 3 rfl) ?_
    refine va_sld hx hb hX hbl hbA Z1.2.2 (vp_in_nI (by omega) (by omega)) dL_law_29 ?_
    refine lv_bipush (v := 63) hx hb dL_law_30 (by decide) ?_
    refine lv_iand hx hb dL_law_32 ?_
    refine lv_topi (fun x _ => ?_)
    by_cases c_0 : x = 0
    · refine lv_tableIn (tgt := 228) (off := 195) hx hb dL_law_33 (by rw [c_0]; decide) (by rw [c_0]; decide) (by rw [c_0]; decide) (by decide) ?_
      exact lw_case_0 C hX hbl hbA hv (hH.1 _) Z1 Z2 hdj hI hcs hl hn
    by_cases c_1 : x = 1
    · refine lv_tableIn (tgt := 251) (off := 218) hx hb dL_law_33 (by rw [c_1]; decide) (by rw [c_1]; decide) (by rw [c_1]; decide) (by decide) ?_
      exact lw_case_1 C hX hbl hbA hv (hH.2.1 _ _ _) Z1 Z2 hdj hI hcs hl hn
    by_cases c_2 : x = 2
    · refine lv_tableIn (tgt := 294) (off := 261) hx hb dL_law_33 (by rw [c_2]; decide) (by rw [c_2]; decide) (by rw [c_2]; decide) (by decide) ?_
      exact lw_case_2 C hX hbl hbA hv (hH.2.2.1 _ _ _ _) Z1 Z2 hdj hI hcs hl hn
    by_cases c_3 : x = 3
    · refine lv_tableIn (tgt := 347) (off := 314) hx hb dL_law_33 (by rw [c_3]; decide) (by rw [c_3]; decide) (by rw [c_3]; decide) (by decide) ?_
      exact lw_case_3 C hX hbl hbA hv (hH.2.2.2.1 _ _ _ _ _) Z1 Z2 hdj hI hcs hl hn
    by_cases c_4 : x = 4
    · refine lv_tableIn (tgt := 410) (off := 377) hx hb dL_law_33 (by rw [c_4]; decide) (by rw [c_4]; decide) (by rw [c_4]; decide) (by decide) ?_
      exact lw_case_4 C hX hbl hbA hv (hH.2.2.2.2.1 _ _ _) Z1 Z2 hdj hI hcs hl hn
    by_cases c_5 : x = 5
    · refine lv_tableIn (tgt := 453) (off := 420) hx hb dL_law_33 (by rw [c_5]; decide) (by rw [c_5]; decide) (by rw [c_5]; decide) (by decide) ?_
      exact lw_case_5 C hX hbl hbA hv (hH.2.2.2.2.2.1 _ _) Z1 Z2 hdj hI hcs hl hn
    by_cases c_6 : x = 6
    · refine lv_tableIn (tgt := 486) (off := 453) hx hb dL_law_33 (by rw [c_6]; decide) (by rw [c_6]; decide) (by rw [c_6]; decide) (by decide) ?_
      exact lw_case_6 C hX hbl hbA hv (hH.2.2.2.2.2.2.1 _) Z1 Z2 hdj hI hcs hl hn
    by_cases c_7 : x = 7
    · refine lv_tableIn (tgt := 509) (off := 476) hx hb dL_law_33 (by rw [c_7]; decide) (by rw [c_7]; decide) (by rw [c_7]; decide) (by decide) ?_
      exact lw_case_7 C hX hbl hbA hv (hH.2.2.2.2.2.2.2.1 _ _ _) Z1 Z2 hdj hI hcs hl hn
    by_cases c_8 : x = 8
    · refine lv_tableIn (tgt := 552) (off := 519) hx hb dL_law_33 (by rw [c_8]; decide) (by rw [c_8]; decide) (by rw [c_8]; decide) (by decide) ?_
      exact lw_case_8 C hX hbl hbA hv (hH.2.2.2.2.2.2.2.2.1 _ _) Z1 Z2 hdj hI hcs hl hn
    by_cases c_9 : x = 9
    · refine lv_tableIn (tgt := 585) (off := 552) hx hb dL_law_33 (by rw [c_9]; decide) (by rw [c_9]; decide) (by rw [c_9]; decide) (by decide) ?_
      exact lw_case_9 C hX hbl hbA hv (hH.2.2.2.2.2.2.2.2.2.1 _ _) Z1 Z2 hdj hI hcs hl hn
    by_cases c_10 : x = 10
    · refine lv_tableIn (tgt := 618) (off := 585) hx hb dL_law_33 (by rw [c_10]; decide) (by rw [c_10]; decide) (by rw [c_10]; decide) (by decide) ?_
      exact lw_case_10 C hX hbl hbA hv (hH.2.2.2.2.2.2.2.2.2.2.1 _ _ _ _ _) Z1 Z2 hdj hI hcs hl hn
    by_cases c_11 : x = 11
    · refine lv_tableIn (tgt := 681) (off := 648) hx hb dL_law_33 (by rw [c_11]; decide) (by rw [c_11]; decide) (by rw [c_11]; decide) (by decide) ?_
      exact lw_case_11 C hX hbl hbA hv (hH.2.2.2.2.2.2.2.2.2.2.2.1 _ _ _ _) Z1 Z2 hdj hI hcs hl hn
    by_cases c_12 : x = 12
    · refine lv_tableIn (tgt := 735) (off := 702) hx hb dL_law_33 (by rw [c_12]; decide) (by rw [c_12]; decide) (by rw [c_12]; decide) (by decide) ?_
      exact lw_case_12 C hX hbl hbA hv (hH.2.2.2.2.2.2.2.2.2.2.2.2.1 _ _) Z1 Z2 hdj hI hcs hl hn
    by_cases c_13 : x = 13
    · refine lv_tableIn (tgt := 768) (off := 735) hx hb dL_law_33 (by rw [c_13]; decide) (by rw [c_13]; decide) (by rw [c_13]; decide) (by decide) ?_
      exact lw_case_13 C hX hbl hbA hv (hH.2.2.2.2.2.2.2.2.2.2.2.2.2.1 _ _ _ _ _) Z1 Z2 hdj hI hcs hl hn
    by_cases c_14 : x = 14
    · refine lv_tableIn (tgt := 831) (off := 798) hx hb dL_law_33 (by rw [c_14]; decide) (by rw [c_14]; decide) (by rw [c_14]; decide) (by decide) ?_
      exact lw_case_14 C hX hbl hbA hv (hH.2.2.2.2.2.2.2.2.2.2.2.2.2.2.1 _) Z1 Z2 hdj hI hcs hl hn
    by_cases c_15 : x = 15
    · refine lv_tableIn (tgt := 854) (off := 821) hx hb dL_law_33 (by rw [c_15]; decide) (by rw [c_15]; decide) (by rw [c_15]; decide) (by decide) ?_
      exact lw_case_15 C hX hbl hbA hv (hH.2.2.2.2.2.2.2.2.2.2.2.2.2.2.2.1 _ _) Z1 Z2 hdj hI hcs hl hn
    by_cases c_16 : x = 16
    · refine lv_tableIn (tgt := 887) (off := 854) hx hb dL_law_33 (by rw [c_16]; decide) (by rw [c_16]; decide) (by rw [c_16]; decide) (by decide) ?_
      exact lw_case_16 C hX hbl hbA hv (hH.2.2.2.2.2.2.2.2.2.2.2.2.2.2.2.2.1 _ _) Z1 Z2 hdj hI hcs hl hn
    by_cases c_17 : x = 17
    · refine lv_tableIn (tgt := 920) (off := 887) hx hb dL_law_33 (by rw [c_17]; decide) (by rw [c_17]; decide) (by rw [c_17]; decide) (by decide) ?_
      exact lw_case_17 C hX hbl hbA hv (hH.2.2.2.2.2.2.2.2.2.2.2.2.2.2.2.2.2.1 _ _ _ _ _ _) Z1 Z2 hdj hI hcs hl hn
    by_cases c_18 : x = 18
    · refine lv_tableIn (tgt := 995) (off := 962) hx hb dL_law_33 (by rw [c_18]; decide) (by rw [c_18]; decide) (by rw [c_18]; decide) (by decide) ?_
      exact lw_case_18 C hX hbl hbA hv (hH.2.2.2.2.2.2.2.2.2.2.2.2.2.2.2.2.2.2.1 _ _ _ _ _) Z1 Z2 hdj hI hcs hl hn
    by_cases c_19 : x = 19
    · refine lv_tableIn (tgt := 1059) (off := 1026) hx hb dL_law_33 (by rw [c_19]; decide) (by rw [c_19]; decide) (by rw [c_19]; decide) (by decide) ?_
      exact lw_case_19 C hX hbl hbA hv (hH.2.2.2.2.2.2.2.2.2.2.2.2.2.2.2.2.2.2.2.1 _ _ _ _ _ _) Z1 Z2 hdj hI hcs hl hn
    by_cases c_20 : x = 20
    · refine lv_tableIn (tgt := 1134) (off := 1101) hx hb dL_law_33 (by rw [c_20]; decide) (by rw [c_20]; decide) (by rw [c_20]; decide) (by decide) ?_
      exact lw_case_20 C hX hbl hbA hv (hH.2.2.2.2.2.2.2.2.2.2.2.2.2.2.2.2.2.2.2.2.1 _ _ _ _ _) Z1 Z2 hdj hI hcs hl hn
    by_cases c_21 : x = 21
    · refine lv_tableIn (tgt := 1197) (off := 1164) hx hb dL_law_33 (by rw [c_21]; decide) (by rw [c_21]; decide) (by rw [c_21]; decide) (by decide) ?_
      exact lw_case_21 C hX hbl hbA hv (hH.2.2.2.2.2.2.2.2.2.2.2.2.2.2.2.2.2.2.2.2.2.1 _ _) Z1 Z2 hdj hI hcs hl hn
    by_cases c_22 : x = 22
    · refine lv_tableIn (tgt := 1230) (off := 1197) hx hb dL_law_33 (by rw [c_22]; decide) (by rw [c_22]; decide) (by rw [c_22]; decide) (by decide) ?_
      exact lw_case_22 C hX hbl hbA hv (hH.2.2.2.2.2.2.2.2.2.2.2.2.2.2.2.2.2.2.2.2.2.2.1 _ _) Z1 Z2 hdj hI hcs hl hn
    by_cases c_23 : x = 23
    · refine lv_tableIn (tgt := 1263) (off := 1230) hx hb dL_law_33 (by rw [c_23]; decide) (by rw [c_23]; decide) (by rw [c_23]; decide) (by decide) ?_
      exact lw_case_23 C hX hbl hbA hv (hH.2.2.2.2.2.2.2.2.2.2.2.2.2.2.2.2.2.2.2.2.2.2.2.1 _ _ _ _ _ _) Z1 Z2 hdj hI hcs hl hn
    by_cases c_24 : x = 24
    · refine lv_tableIn (tgt := 1338) (off := 1305) hx hb dL_law_33 (by rw [c_24]; decide) (by rw [c_24]; decide) (by rw [c_24]; decide) (by decide) ?_
      exact lw_case_24 C hX hbl hbA hv hH.2.2.2.2.2.2.2.2.2.2.2.2.2.2.2.2.2.2.2.2.2.2.2.2.1 Z1 Z2 hdj hI hcs hl hn
    by_cases c_25 : x = 25
    · refine lv_tableIn (tgt := 1351) (off := 1318) hx hb dL_law_33 (by rw [c_25]; decide) (by rw [c_25]; decide) (by rw [c_25]; decide) (by decide) ?_
      exact lw_case_25 C hX hbl hbA hv (hH.2.2.2.2.2.2.2.2.2.2.2.2.2.2.2.2.2.2.2.2.2.2.2.2.2.1 _ _ _ _) Z1 Z2 hdj hI hcs hl hn
    by_cases c_26 : x = 26
    · refine lv_tableIn (tgt := 1404) (off := 1371) hx hb dL_law_33 (by rw [c_26]; decide) (by rw [c_26]; decide) (by rw [c_26]; decide) (by decide) ?_
      exact lw_case_26 C hX hbl hbA hv (hH.2.2.2.2.2.2.2.2.2.2.2.2.2.2.2.2.2.2.2.2.2.2.2.2.2.2.1 _ _ _) Z1 Z2 hdj hI hcs hl hn
    by_cases c_27 : x = 27
    · refine lv_tableIn (tgt := 1447) (off := 1414) hx hb dL_law_33 (by rw [c_27]; decide) (by rw [c_27]; decide) (by rw [c_27]; decide) (by decide) ?_
      exact lw_case_27 C hX hbl hbA hv (hH.2.2.2.2.2.2.2.2.2.2.2.2.2.2.2.2.2.2.2.2.2.2.2.2.2.2.2.1 _ _ _) Z1 Z2 hdj hI hcs hl hn
    by_cases c_28 : x = 28
    · refine lv_tableIn (tgt := 1490) (off := 1457) hx hb dL_law_33 (by rw [c_28]; decide) (by rw [c_28]; decide) (by rw [c_28]; decide) (by decide) ?_
      exact lw_case_28 C hX hbl hbA hv (hH.2.2.2.2.2.2.2.2.2.2.2.2.2.2.2.2.2.2.2.2.2.2.2.2.2.2.2.2.1 _ _) Z1 Z2 hdj hI hcs hl hn
    by_cases c_29 : x = 29
    · refine lv_tableIn (tgt := 1524) (off := 1491) hx hb dL_law_33 (by rw [c_29]; decide) (by rw [c_29]; decide) (by rw [c_29]; decide) (by decide) ?_
      exact lw_case_29 C hX hbl hbA hv (hH.2.2.2.2.2.2.2.2.2.2.2.2.2.2.2.2.2.2.2.2.2.2.2.2.2.2.2.2.2.1 _) Z1 Z2 hdj hI hcs hl hn
    by_cases c_30 : x = 30
    · refine lv_tableIn (tgt := 1547) (off := 1514) hx hb dL_law_33 (by rw [c_30]; decide) (by rw [c_30]; decide) (by rw [c_30]; decide) (by decide) ?_
      exact lw_case_30 C hX hbl hbA hv (hH.2.2.2.2.2.2.2.2.2.2.2.2.2.2.2.2.2.2.2.2.2.2.2.2.2.2.2.2.2.2.1 _ _) Z1 Z2 hdj hI hcs hl hn
    by_cases c_31 : x = 31
    · refine lv_tableIn (tgt := 1580) (off := 1547) hx hb dL_law_33 (by rw [c_31]; decide) (by rw [c_31]; decide) (by rw [c_31]; decide) (by decide) ?_
      exact lw_case_31 C hX hbl hbA hv (hH.2.2.2.2.2.2.2.2.2.2.2.2.2.2.2.2.2.2.2.2.2.2.2.2.2.2.2.2.2.2.2.1 _ _ _ _) Z1 Z2 hdj hI hcs hl hn
    by_cases c_32 : x = 32
    · refine lv_tableIn (tgt := 1633) (off := 1600) hx hb dL_law_33 (by rw [c_32]; decide) (by rw [c_32]; decide) (by rw [c_32]; decide) (by decide) ?_
      exact lw_case_32 C hX hbl hbA hv (hH.2.2.2.2.2.2.2.2.2.2.2.2.2.2.2.2.2.2.2.2.2.2.2.2.2.2.2.2.2.2.2.2.1 _ _ _ _ _) Z1 Z2 hdj hI hcs hl hn
    by_cases c_33 : x = 33
    · refine lv_tableIn (tgt := 1697) (off := 1664) hx hb dL_law_33 (by rw [c_33]; decide) (by rw [c_33]; decide) (by rw [c_33]; decide) (by decide) ?_
      exact lw_case_33 C hX hbl hbA hv (hH.2.2.2.2.2.2.2.2.2.2.2.2.2.2.2.2.2.2.2.2.2.2.2.2.2.2.2.2.2.2.2.2.2.1 _ _ _ _ _) Z1 Z2 hdj hI hcs hl hn
    by_cases c_34 : x = 34
    · refine lv_tableIn (tgt := 1760) (off := 1727) hx hb dL_law_33 (by rw [c_34]; decide) (by rw [c_34]; decide) (by rw [c_34]; decide) (by decide) ?_
      exact lw_case_34 C hX hbl hbA hv (hH.2.2.2.2.2.2.2.2.2.2.2.2.2.2.2.2.2.2.2.2.2.2.2.2.2.2.2.2.2.2.2.2.2.2.1 _ _ _ _) Z1 Z2 hdj hI hcs hl hn
    by_cases c_35 : x = 35
    · refine lv_tableIn (tgt := 1813) (off := 1780) hx hb dL_law_33 (by rw [c_35]; decide) (by rw [c_35]; decide) (by rw [c_35]; decide) (by decide) ?_
      exact lw_case_35 C hX hbl hbA hv (hH.2.2.2.2.2.2.2.2.2.2.2.2.2.2.2.2.2.2.2.2.2.2.2.2.2.2.2.2.2.2.2.2.2.2.2.1 _ _ _) Z1 Z2 hdj hI hcs hl hn
    by_cases c_36 : x = 36
    · refine lv_tableIn (tgt := 1856) (off := 1823) hx hb dL_law_33 (by rw [c_36]; decide) (by rw [c_36]; decide) (by rw [c_36]; decide) (by decide) ?_
      exact lw_case_36 C hX hbl hbA hv (hH.2.2.2.2.2.2.2.2.2.2.2.2.2.2.2.2.2.2.2.2.2.2.2.2.2.2.2.2.2.2.2.2.2.2.2.2.1 _ _) Z1 Z2 hdj hI hcs hl hn
    by_cases c_37 : x = 37
    · refine lv_tableIn (tgt := 1889) (off := 1856) hx hb dL_law_33 (by rw [c_37]; decide) (by rw [c_37]; decide) (by rw [c_37]; decide) (by decide) ?_
      exact lw_case_37 C hX hbl hbA hv (hH.2.2.2.2.2.2.2.2.2.2.2.2.2.2.2.2.2.2.2.2.2.2.2.2.2.2.2.2.2.2.2.2.2.2.2.2.2.1 _) Z1 Z2 hdj hI hcs hl hn
    by_cases c_38 : x = 38
    · refine lv_tableIn (tgt := 1912) (off := 1879) hx hb dL_law_33 (by rw [c_38]; decide) (by rw [c_38]; decide) (by rw [c_38]; decide) (by decide) ?_
      exact lw_case_38 C hX hbl hbA hv (hH.2.2.2.2.2.2.2.2.2.2.2.2.2.2.2.2.2.2.2.2.2.2.2.2.2.2.2.2.2.2.2.2.2.2.2.2.2.2.1 _) Z1 Z2 hdj hI hcs hl hn
    by_cases c_39 : x = 39
    · refine lv_tableIn (tgt := 1935) (off := 1902) hx hb dL_law_33 (by rw [c_39]; decide) (by rw [c_39]; decide) (by rw [c_39]; decide) (by decide) ?_
      exact lw_case_39 C hX hbl hbA hv (hH.2.2.2.2.2.2.2.2.2.2.2.2.2.2.2.2.2.2.2.2.2.2.2.2.2.2.2.2.2.2.2.2.2.2.2.2.2.2.2.1 _ _) Z1 Z2 hdj hI hcs hl hn
    by_cases c_40 : x = 40
    · refine lv_tableIn (tgt := 1968) (off := 1935) hx hb dL_law_33 (by rw [c_40]; decide) (by rw [c_40]; decide) (by rw [c_40]; decide) (by decide) ?_
      exact lw_case_40 C hX hbl hbA hv (hH.2.2.2.2.2.2.2.2.2.2.2.2.2.2.2.2.2.2.2.2.2.2.2.2.2.2.2.2.2.2.2.2.2.2.2.2.2.2.2.2.1 _ _) Z1 Z2 hdj hI hcs hl hn
    by_cases c_41 : x = 41
    · refine lv_tableIn (tgt := 2001) (off := 1968) hx hb dL_law_33 (by rw [c_41]; decide) (by rw [c_41]; decide) (by rw [c_41]; decide) (by decide) ?_
      exact lw_case_41 C hX hbl hbA hv (hH.2.2.2.2.2.2.2.2.2.2.2.2.2.2.2.2.2.2.2.2.2.2.2.2.2.2.2.2.2.2.2.2.2.2.2.2.2.2.2.2.2.1 _ _ _) Z1 Z2 hdj hI hcs hl hn
    by_cases c_42 : x = 42
    · refine lv_tableIn (tgt := 2044) (off := 2011) hx hb dL_law_33 (by rw [c_42]; decide) (by rw [c_42]; decide) (by rw [c_42]; decide) (by decide) ?_
      exact lw_case_42 C hX hbl hbA hv (hH.2.2.2.2.2.2.2.2.2.2.2.2.2.2.2.2.2.2.2.2.2.2.2.2.2.2.2.2.2.2.2.2.2.2.2.2.2.2.2.2.2.2.1 _ _) Z1 Z2 hdj hI hcs hl hn
    by_cases c_43 : x = 43
    · refine lv_tableIn (tgt := 2077) (off := 2044) hx hb dL_law_33 (by rw [c_43]; decide) (by rw [c_43]; decide) (by rw [c_43]; decide) (by decide) ?_
      exact lw_case_43 C hX hbl hbA hv (hH.2.2.2.2.2.2.2.2.2.2.2.2.2.2.2.2.2.2.2.2.2.2.2.2.2.2.2.2.2.2.2.2.2.2.2.2.2.2.2.2.2.2.2.1 _) Z1 Z2 hdj hI hcs hl hn
    by_cases c_44 : x = 44
    · refine lv_tableIn (tgt := 2100) (off := 2067) hx hb dL_law_33 (by rw [c_44]; decide) (by rw [c_44]; decide) (by rw [c_44]; decide) (by decide) ?_
      exact lw_case_44 C hX hbl hbA hv (hH.2.2.2.2.2.2.2.2.2.2.2.2.2.2.2.2.2.2.2.2.2.2.2.2.2.2.2.2.2.2.2.2.2.2.2.2.2.2.2.2.2.2.2.2 _) Z1 Z2 hdj hI hcs hl hn
    refine lv_tableOut (tgt := 2123) hx hb dL_law_33 ?_ (by decide) ?_
    · have t0 : ¬ x.toInt = 0 := fun e => c_0 (i32_of (b := 0) (n := 0) e (by decide)); have t1 : ¬ x.toInt = 1 := fun e => c_1 (i32_of (b := 1) (n := 1) e (by decide)); have t2 : ¬ x.toInt = 2 := fun e => c_2 (i32_of (b := 2) (n := 2) e (by decide)); have t3 : ¬ x.toInt = 3 := fun e => c_3 (i32_of (b := 3) (n := 3) e (by decide)); have t4 : ¬ x.toInt = 4 := fun e => c_4 (i32_of (b := 4) (n := 4) e (by decide)); have t5 : ¬ x.toInt = 5 := fun e => c_5 (i32_of (b := 5) (n := 5) e (by decide)); have t6 : ¬ x.toInt = 6 := fun e => c_6 (i32_of (b := 6) (n := 6) e (by decide)); have t7 : ¬ x.toInt = 7 := fun e => c_7 (i32_of (b := 7) (n := 7) e (by decide)); have t8 : ¬ x.toInt = 8 := fun e => c_8 (i32_of (b := 8) (n := 8) e (by decide)); have t9 : ¬ x.toInt = 9 := fun e => c_9 (i32_of (b := 9) (n := 9) e (by decide)); have t10 : ¬ x.toInt = 10 := fun e => c_10 (i32_of (b := 10) (n := 10) e (by decide)); have t11 : ¬ x.toInt = 11 := fun e => c_11 (i32_of (b := 11) (n := 11) e (by decide)); have t12 : ¬ x.toInt = 12 := fun e => c_12 (i32_of (b := 12) (n := 12) e (by decide)); have t13 : ¬ x.toInt = 13 := fun e => c_13 (i32_of (b := 13) (n := 13) e (by decide)); have t14 : ¬ x.toInt = 14 := fun e => c_14 (i32_of (b := 14) (n := 14) e (by decide)); have t15 : ¬ x.toInt = 15 := fun e => c_15 (i32_of (b := 15) (n := 15) e (by decide)); have t16 : ¬ x.toInt = 16 := fun e => c_16 (i32_of (b := 16) (n := 16) e (by decide)); have t17 : ¬ x.toInt = 17 := fun e => c_17 (i32_of (b := 17) (n := 17) e (by decide)); have t18 : ¬ x.toInt = 18 := fun e => c_18 (i32_of (b := 18) (n := 18) e (by decide)); have t19 : ¬ x.toInt = 19 := fun e => c_19 (i32_of (b := 19) (n := 19) e (by decide)); have t20 : ¬ x.toInt = 20 := fun e => c_20 (i32_of (b := 20) (n := 20) e (by decide)); have t21 : ¬ x.toInt = 21 := fun e => c_21 (i32_of (b := 21) (n := 21) e (by decide)); have t22 : ¬ x.toInt = 22 := fun e => c_22 (i32_of (b := 22) (n := 22) e (by decide)); have t23 : ¬ x.toInt = 23 := fun e => c_23 (i32_of (b := 23) (n := 23) e (by decide)); have t24 : ¬ x.toInt = 24 := fun e => c_24 (i32_of (b := 24) (n := 24) e (by decide)); have t25 : ¬ x.toInt = 25 := fun e => c_25 (i32_of (b := 25) (n := 25) e (by decide)); have t26 : ¬ x.toInt = 26 := fun e => c_26 (i32_of (b := 26) (n := 26) e (by decide)); have t27 : ¬ x.toInt = 27 := fun e => c_27 (i32_of (b := 27) (n := 27) e (by decide)); have t28 : ¬ x.toInt = 28 := fun e => c_28 (i32_of (b := 28) (n := 28) e (by decide)); have t29 : ¬ x.toInt = 29 := fun e => c_29 (i32_of (b := 29) (n := 29) e (by decide)); have t30 : ¬ x.toInt = 30 := fun e => c_30 (i32_of (b := 30) (n := 30) e (by decide)); have t31 : ¬ x.toInt = 31 := fun e => c_31 (i32_of (b := 31) (n := 31) e (by decide)); have t32 : ¬ x.toInt = 32 := fun e => c_32 (i32_of (b := 32) (n := 32) e (by decide)); have t33 : ¬ x.toInt = 33 := fun e => c_33 (i32_of (b := 33) (n := 33) e (by decide)); have t34 : ¬ x.toInt = 34 := fun e => c_34 (i32_of (b := 34) (n := 34) e (by decide)); have t35 : ¬ x.toInt = 35 := fun e => c_35 (i32_of (b := 35) (n := 35) e (by decide)); have t36 : ¬ x.toInt = 36 := fun e => c_36 (i32_of (b := 36) (n := 36) e (by decide)); have t37 : ¬ x.toInt = 37 := fun e => c_37 (i32_of (b := 37) (n := 37) e (by decide)); have t38 : ¬ x.toInt = 38 := fun e => c_38 (i32_of (b := 38) (n := 38) e (by decide)); have t39 : ¬ x.toInt = 39 := fun e => c_39 (i32_of (b := 39) (n := 39) e (by decide)); have t40 : ¬ x.toInt = 40 := fun e => c_40 (i32_of (b := 40) (n := 40) e (by decide)); have t41 : ¬ x.toInt = 41 := fun e => c_41 (i32_of (b := 41) (n := 41) e (by decide)); have t42 : ¬ x.toInt = 42 := fun e => c_42 (i32_of (b := 42) (n := 42) e (by decide)); have t43 : ¬ x.toInt = 43 := fun e => c_43 (i32_of (b := 43) (n := 43) e (by decide)); have t44 : ¬ x.toInt = 44 := fun e => c_44 (i32_of (b := 44) (n := 44) e (by decide)); omega
    · exact hn ad σ τ H locs cells slots (Nat.le_succ _) (Nat.le_add_right _ _) rfl hdj Z1 Z2 hI
