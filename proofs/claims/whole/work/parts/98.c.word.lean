/-! words on the tape, class -/
def eqW (T : Nat → Nat) : Nat → List Nat → Bool
  | _, [] => true
  | p, c :: t => decide (T p = c) && eqW T (p + 1) t
def wdB (T : Nat → Nat) (n p : Nat) (ws : List Nat) : Bool := decide (p < n ∧ isLo (T p) = true ∧ ev T n isLo p = p + ws.length) && eqW T p ws
def WdC (w : Nat) (ws : List Nat) : Prop := srLen.getD w 0 = ws.length ∧ ws.length < 20 ∧ (∀ c ∈ ws, c < 256) ∧ ∀ i, i < ws.length → vp_nar .char (srCh w (nI i)) = nI (ws.getD i 0)
section WC
variable {T : Nat → Nat} {n : Nat}
set_option maxHeartbeats 200000 in
theorem isW_29 {σ : St} (h : TpC T n σ) {p w : Nat} {ws : List Nat} (e5 : σ.1 505 = nI p) (W : WdC w ws) (hp : p + ws.length ≤ n) : ∀ (t : List Nat) (i f : Nat), ws.drop i = t → i + t.length = ws.length → t.length < f → f_X4_isWord_29 w σ f (nI i) = some (if eqW T (p + i) t then 1 else 0) := by
  obtain ⟨w1, w2, w4, w3⟩ := W
  have h1 := h.1
  intro t
  induction t with
  | nil =>
    intro i f hd hi hf
    obtain ⟨f, rfl⟩ : ∃ q, f = q + 1 := ⟨f - 1, by omega⟩
    rw [List.length_nil] at hi
    unfold f_X4_isWord_29 f_J0_length_8abf5
    rw [bS, w1, if_pos (by rw [nI_leE (by omega) (by omega)]; omega)]
    rfl
  | cons c t ih =>
    intro i f hd hi hf
    obtain ⟨f, rfl⟩ : ∃ q, f = q + 1 := ⟨f - 1, by omega⟩
    rw [List.length_cons] at hi hf
    have hg : ws.getD i 0 = c := by
      have : (ws.drop i)[0]? = some c := by rw [hd]; rfl
      rw [List.getElem?_drop, Nat.add_zero] at this
      rw [List.getD_eq_getElem?_getD, this]; rfl
    have hd' : ws.drop (i + 1) = t := by rw [← List.drop_drop, hd]; rfl
    have hc : c < 256 := w4 c (List.mem_of_mem_drop (hd ▸ List.mem_cons_self ..))
    have hT := h.2.2.1 (p + i)
    have ih := ih (i + 1) f hd' (by omega) (by omega)
    unfold f_X4_isWord_29 f_J0_length_8abf5 f_J0_charAt_5068e
    rw [bS, w1, if_neg (by rw [nI_leE (by omega) (by omega)]; omega), show gF σ 505 = _ from e5, show nI p + nI i = nI (p + i) from nI_add _ _, byteC h (by omega), bS, if_pos (show p + i < n by omega), if_neg (show ¬ nI i < 0 by rw [nI_lt0 (by omega)]; exact fun z => z), if_pos (show nI i < Int32.ofNat ws.length from nI_lt (by omega) (by omega)), bS, w3 i (by omega), hg]
    have ee : (nI (T (p + i)) = nI c) = (T (p + i) = c) := nI_eqE (by omega) (by omega)
    have ed : eqW T (p + i) (c :: t) = (decide (T (p + i) = c) && eqW T (p + i + 1) t) := rfl
    by_cases q : T (p + i) = c
    · rw [if_pos (ee.mpr q), bndE, show nI i + 1 = nI (i + 1) from nI_add _ 1, ih, ed, decide_eq_true q, Bool.true_and]; rfl
    · rw [if_neg (fun z => q (ee.mp z)), ed, decide_eq_false q]; rfl
set_option maxHeartbeats 200000 in
theorem isWC {σ : St} (h : TpC T n σ) {p w : Nat} {ws : List Nat} (L : Lx T n σ p) (hp : p ≤ n) (W : WdC w ws) : f_X4_isWord w σ = some (if wdB T n p ws then 1 else 0) := by
  have W' := W
  obtain ⟨w1, w2, w4, w3⟩ := W
  obtain ⟨l1, l2, l3, l4⟩ := L
  have h1 := h.1
  have hT := h.2.2.1 p
  unfold f_X4_isWord f_J0_length_8abf5 wdB
  rw [show gF σ 504 = _ from l2, show gF σ 503 = _ from l3, show gF σ 505 = _ from l1, w1]
  unfold tkK tkE
  by_cases c : p < n
  · rw [if_pos c, if_pos c]
    by_cases cl : isLo (T p) = true
    · have ge := ev_ge (T := T) (n := n) (q := isLo) (n - p) p rfl
      have g1 := ge.1
      have g2 := ge.2.1 hp
      rw [if_pos cl, if_pos cl, if_pos rfl, bS, pk_sub g1]
      have ee : (nI (ev T n isLo p - p) = nI ws.length) = (ev T n isLo p = p + ws.length) := by
        rw [nI_eqE (by omega) (by omega)]
        exact propext ⟨fun z => by omega, fun z => by omega⟩
      by_cases q : ev T n isLo p = p + ws.length
      · rw [if_pos (ee.mpr q), decide_eq_true ⟨c, cl, q⟩, Bool.true_and]
        exact isW_29 h l1 W' (by omega) ws 0 FU rfl (by omega) (by unfold FU; omega)
      · rw [if_neg (fun z => q (ee.mp z)), decide_eq_false (fun z => q z.2.2)]; rfl
    · rw [if_neg cl, if_neg cl, decide_eq_false (fun z => cl z.2.1)]
      by_cases cd : isDg (T p) = true
      · rw [if_pos cd, if_neg (by decide)]; rfl
      · rw [if_neg cd]
        have ne : ¬ (if (T p = 60 ∨ T p = 62) ∧ p + 1 < n ∧ T (p + 1) = 61 then nI (T p + 256) else nI (T p)) = (-2 : Int32) := by
          intro z
          have neg : ∀ m, m < 1000 → ¬ nI m = (-2 : Int32) := fun m hm e => by
            have := nI_lt0 (n := m) (by omega)
            rw [e] at this
            exact absurd (show (-2 : Int32) < 0 by decide) (by rw [this]; exact fun h => h)
          split at z
          · exact neg _ (by omega) z
          · exact neg _ (by omega) z
        rw [if_neg ne]; rfl
  · rw [if_neg c, if_neg (by decide), decide_eq_false (fun z => c z.1)]; rfl
end WC
