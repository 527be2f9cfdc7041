/-! how the reference holds a reading under way -/
set_option maxHeartbeats 200000 in
theorem nar0 : vp_nar .boolean (0 : Int32) = 0 := by decide
def Sk (A : Nat → Int32) : List Int32 → Prop
  | [] => True
  | c :: W => A W.length = c ∧ Sk A W
set_option maxHeartbeats 200000 in
theorem Sk.up {A : Nat → Int32} {W : List Int32} (h : Sk A W) {i : Nat} (hi : W.length ≤ i) (v : Int32) : Sk (upd A i v) W := by
  induction W with
  | nil => trivial
  | cons c W ih =>
    rw [List.length_cons] at hi
    exact ⟨by rw [upd_ne _ _ (by omega)]; exact h.1, ih h.2 (by omega)⟩
def KM (k : Nat) (τ0 τ : St) : Prop := Fr [35, 38, 39, 40, 41, 42, 43] [28, 29, 30] [] τ0 τ ∧ ∀ i, i < 420 * k → τ.2.1 28 i = τ0.2.1 28 i ∧ τ.2.1 29 i = τ0.2.1 29 i
def MR (T : Nat → Nat) (n k : Nat) (τ0 τ : St) (q : Nat) (s : PS) (d : Nat) (W : List Int32) : Prop := TpM T n τ ∧ (q ≤ n ∧ τ.1 38 = nI q ∧ ev T n isSp q = s.1) ∧ (τ.1 39 = 0 ∧ τ.1 41 = nI d ∧ τ.1 42 = nI s.2.1 ∧ τ.1 43 = nI W.length ∧ τ.1 35 = nI s.2.2.length ∧ τ.1 25 = nI k) ∧ (W.length ≤ 410 ∧ k < 12 ∧ d ≤ 10) ∧ Sk (τ.2.1 30) W ∧ (∀ o, o < s.2.2.length → τ.2.1 28 (420 * k + o) = opM (s.2.2.getD o 0) ∧ τ.2.1 29 (420 * k + o) = agM (s.2.2.getD o 0)) ∧ KM k τ0 τ
def MF (T : Nat → Nat) (n k : Nat) (τ0 τ : St) (f : Nat) : Prop := TpM T n τ ∧ τ.1 39 = nI f ∧ τ.1 25 = nI k ∧ KM k τ0 τ
set_option maxHeartbeats 200000 in
theorem ev_ev {T : Nat → Nat} {n : Nat} {c : Nat → Bool} (q : Nat) : ev T n c (ev T n c q) = ev T n c q := ev_no (ev_ge (n - q) q rfl).2.2
set_option maxHeartbeats 200000 in
theorem byI_sym {T : Nat → Nat} {n p c : Nat} (hT : T p < 256) (hc : c < 256) : (byI T n p = nI c) = (sym T n p c = true) := by
  unfold byI sym
  by_cases q : p < n
  · rw [if_pos q, nI_eqE (by omega) (by omega)]
    exact propext ⟨fun z => decide_eq_true ⟨q, z⟩, fun z => (of_decide_eq_true z).2⟩
  · rw [if_neg q]
    exact propext ⟨fun z => absurd z.symm (neg_nI (by omega) (by decide)), fun z => absurd (of_decide_eq_true z).1 q⟩
set_option maxHeartbeats 200000 in
theorem sym_ne {T : Nat → Nat} {n p c c' : Nat} (h : sym T n p c = true) (hc : c ≠ c') : ¬ sym T n p c' = true := fun z => hc ((of_decide_eq_true h).2.symm.trans (of_decide_eq_true z).2)
set_option maxHeartbeats 200000 in
theorem tkE_sym {T : Nat → Nat} {n p c : Nat} (h : sym T n p c = true) (hc : isLo c = false ∧ isDg c = false ∧ c ≠ 60 ∧ c ≠ 62) : tkE T n p = p + 1 := by
  obtain ⟨z1, z2⟩ := of_decide_eq_true h
  unfold tkE
  rw [if_pos z1, z2, if_neg (by rw [hc.1]; decide), if_neg (by rw [hc.2.1]; decide), if_neg (show ¬ ((c = 60 ∨ c = 62) ∧ p + 1 < n ∧ T (p + 1) = 61) by omega)]
set_option maxHeartbeats 200000 in
theorem tkE_dg {T : Nat → Nat} {n p : Nat} (h : p < n ∧ isDg (T p) = true) : tkE T n p = ev T n isDg p := by
  unfold tkE
  rw [if_pos h.1, if_neg (by rw [dg_lo h.2]; decide), if_pos h.2]
set_option maxHeartbeats 200000 in
theorem tkE_lo {T : Nat → Nat} {n p : Nat} (h : p < n ∧ isLo (T p) = true) : tkE T n p = ev T n isLo p := by
  unfold tkE
  rw [if_pos h.1, if_pos h.2]
set_option maxHeartbeats 200000 in
theorem wdB_lo {T : Nat → Nat} {n p : Nat} {ws : List Nat} (h : wdB T n p ws = true) : p < n ∧ isLo (T p) = true := ⟨(of_decide_eq_true (Bool.and_eq_true_iff.mp h).1).1, (of_decide_eq_true (Bool.and_eq_true_iff.mp h).1).2.1⟩
set_option maxHeartbeats 200000 in
theorem KM.tr {k : Nat} {τ0 τ τ' : St} (h : KM k τ0 τ) (f : Fr [35, 38, 39, 40, 41, 42, 43] [30] [] τ τ') : KM k τ0 τ' := ⟨h.1.tr (f.up (by decide)), fun i hi => by rw [f.2.1 28 (by decide), f.2.1 29 (by decide)]; exact h.2 i hi⟩
section MS
variable {T : Nat → Nat} {n k q d : Nat} {τ0 τ τ' : St} {s : PS} {W V Wb : List Int32}
set_option maxHeartbeats 200000 in
theorem MR.mv (h : MR T n k τ0 τ q s d W) (f : Fr [38, 40] [] [] τ τ') {q' p' : Nat} (e : τ'.1 38 = nI q') (hq : q' ≤ n) (he : ev T n isSp q' = p') : MR T n k τ0 τ' q' (p', s.2) d W := by
  obtain ⟨h1, h2, ⟨a1, a2, a3, a4, a5, a6⟩, h4, h5, h6, h7⟩ := h
  refine ⟨h1.fr f (by decide), ⟨hq, e, he⟩, ⟨(f.1 39 (by decide)).trans a1, (f.1 41 (by decide)).trans a2, (f.1 42 (by decide)).trans a3, (f.1 43 (by decide)).trans a4, (f.1 35 (by decide)).trans a5, (f.1 25 (by decide)).trans a6⟩, h4, ?_, ?_, h7.tr (f.up (by decide))⟩
  · rw [f.2.1 30 (by decide)]; exact h5
  · rw [f.2.1 28 (by decide), f.2.1 29 (by decide)]; exact h6
set_option maxHeartbeats 200000 in
theorem MR.see (h : MR T n k τ0 τ q s d W) : ∃ τ', f_X11_see τ = some (byI T n s.1, τ') ∧ MR T n k τ0 τ' s.1 s d W := by
  obtain ⟨τ', r1, r2, r3⟩ := seeM h.1 h.2.1.2.1 h.2.1.1
  rw [h.2.1.2.2] at r1 r2
  refine ⟨τ', r1, h.mv (r3.up (by decide)) r2 ?_ ?_⟩
  · rw [← h.2.1.2.2]; exact (ev_ge (n - q) q rfl).2.1 h.2.1.1
  · rw [← h.2.1.2.2]; exact ev_ev q
set_option maxHeartbeats 200000 in
theorem MR.pl (h : MR T n k τ0 τ q s d W) : s.1 ≤ n := by
  rw [← h.2.1.2.2]; exact (ev_ge (n - q) q rfl).2.1 h.2.1.1
set_option maxHeartbeats 200000 in
theorem MR.wd (h : MR T n k τ0 τ q s d W) {w : Nat} (hw : w < 24) : ∃ τ', f_X11_isWord (Int64.ofNat (wc_ w)) τ = some (if wdB T n s.1 (wl_ w) then 1 else 0, τ') ∧ MR T n k τ0 τ' s.1 s d W := by
  obtain ⟨τ', r1, r2, r3⟩ := isWM h.1 h.2.1.2.1 h.2.1.1 (wdM hw)
  rw [h.2.1.2.2] at r1 r2
  refine ⟨τ', r1, h.mv (r3.up (by decide)) r2 h.pl ?_⟩
  rw [← h.2.1.2.2]; exact ev_ev q
set_option maxHeartbeats 200000 in
theorem MR.skip (h : MR T n k τ0 τ s.1 s d W) (hl : s.1 < n ∧ isLo (T s.1) = true) : ∃ τ' q', f_X11_skips τ = some τ' ∧ MR T n k τ0 τ' q' (stp T n s) d W := by
  have h1 := h.1.1
  have hp := h.pl
  obtain ⟨τ', r1, r2, r3⟩ := skipM (n - s.1) s.1 FU τ h.1 h.2.1.2.1 rfl hp (by unfold FU; omega)
  refine ⟨τ', ev T n isLo s.1, r1, h.mv (r3.up (by decide)) r2 ((ev_ge (n - s.1) s.1 rfl).2.1 hp) ?_⟩
  show _ = ev T n isSp (tkE T n s.1)
  rw [tkE_lo hl]
set_option maxHeartbeats 200000 in
theorem MR.go1 (h : MR T n k τ0 τ s.1 s d W) {c : Nat} (hs : sym T n s.1 c = true) (hc : isLo c = false ∧ isDg c = false ∧ c ≠ 60 ∧ c ≠ 62) : MR T n k τ0 (sF τ 38 (gF τ 38 + 1)) (s.1 + 1) (stp T n s) d W := by
  have hp := sym_lt hs
  refine h.mv (Fr.rf.wF (by decide)) ?_ (by omega) ?_
  · show gF τ 38 + 1 = _
    rw [show gF τ 38 = _ from h.2.1.2.1]; exact nI_add _ 1
  · show _ = ev T n isSp (tkE T n s.1)
    rw [tkE_sym hs hc]
set_option maxHeartbeats 200000 in
theorem MR.waits (h : MR T n k τ0 τ q s d W) (hW : W.length < 410) (c : Int32) : ∃ τ', f_X11_waits c τ = some τ' ∧ MR T n k τ0 τ' q s d (c :: W) := by
  obtain ⟨h1, h2, ⟨a1, a2, a3, a4, a5, a6⟩, h4, h5, h6, h7⟩ := h
  have f1 : Fr [35, 38, 39, 40, 41, 42, 43] [30] [] τ (sF (sA τ 30 W.length c) 43 (nI (W.length + 1))) := (Fr.rf.wA (by decide)).wF (by decide)
  refine ⟨sF (sA τ 30 W.length c) 43 (nI (W.length + 1)), waitsM a4 (by omega) c, h1.fr f1 (by decide), h2, ⟨a1, a2, a3, rfl, a5, a6⟩, ⟨by rw [List.length_cons]; omega, h4.2⟩, ⟨upd_at _ _ _, h5.up (Nat.le_refl _) c⟩, h6, h7.tr f1⟩
set_option maxHeartbeats 200000 in
theorem MR.lays (h : MR T n k τ0 τ q s d W) (hl : s.2.2.length < 420) {v x y : Int32} (hx : opM v = x) (hy : agM v = y) : ∃ τ', f_X11_lays x y τ = some τ' ∧ MR T n k τ0 τ' q (lay v s) d W := by
  obtain ⟨h1, h2, ⟨a1, a2, a3, a4, a5, a6⟩, h4, h5, h6, h7⟩ := h
  have f1 : Fr [35, 38, 39, 40, 41, 42, 43] [28, 29, 30] [] τ (sF (sA (sA τ 28 (420 * k + s.2.2.length) x) 29 (420 * k + s.2.2.length) y) 35 (nI (s.2.2.length + 1))) := ((Fr.rf.wA (by decide)).wA (by decide)).wF (by decide)
  refine ⟨sF (sA (sA τ 28 (420 * k + s.2.2.length) x) 29 (420 * k + s.2.2.length) y) 35 (nI (s.2.2.length + 1)), laysM a6 a5 h4.2.1 hl x y, h1.fr f1 (by decide), h2, ⟨a1, a2, a3, a4, ?_, a6⟩, h4, h5, ?_, h7.1.tr f1, ?_⟩
  · show nI (s.2.2.length + 1) = nI (s.2.2 ++ [v]).length
    rw [List.length_append]; rfl
  · intro o ho
    have ho : o < (s.2.2 ++ [v]).length := ho
    rw [List.length_append] at ho
    have ho : o < s.2.2.length + 1 := ho
    show upd (τ.2.1 28) (420 * k + s.2.2.length) x (420 * k + o) = opM ((s.2.2 ++ [v]).getD o 0) ∧ upd (τ.2.1 29) (420 * k + s.2.2.length) y (420 * k + o) = agM ((s.2.2 ++ [v]).getD o 0)
    by_cases e : o = s.2.2.length
    · rw [e, upd_at, upd_at, List.getD_eq_getElem?_getD, List.getElem?_append_right (Nat.le_refl _), Nat.sub_self]
      exact ⟨hx.symm, hy.symm⟩
    · rw [upd_ne _ _ (by omega), upd_ne _ _ (by omega), List.getD_eq_getElem?_getD, List.getElem?_append_left (by omega), ← List.getD_eq_getElem?_getD]
      exact h6 o (by omega)
  · intro i hi
    show upd (τ.2.1 28) (420 * k + s.2.2.length) x i = _ ∧ upd (τ.2.1 29) (420 * k + s.2.2.length) y i = _
    rw [upd_ne _ _ (by omega), upd_ne _ _ (by omega)]
    exact h7.2 i hi
set_option maxHeartbeats 200000 in
theorem MR.pops {c : Int32} (h : MR T n k τ0 τ q s d (c :: W)) (hl : s.2.2.length < 420) {v : Int32} (hx : opM v = c) (hy : agM v = 0) : ∃ τ', f_X11_pops τ = some τ' ∧ MR T n k τ0 τ' q (lay v s) d W := by
  obtain ⟨h1, h2, ⟨a1, a2, a3, a4, a5, a6⟩, h4, h5, h6, h7⟩ := h
  have hW := h4.1
  rw [List.length_cons] at a4 hW
  have f1 : Fr [35, 38, 39, 40, 41, 42, 43] [30] [] τ (sF τ 43 (nI W.length)) := Fr.rf.wF (by decide)
  have h' : MR T n k τ0 (sF τ 43 (nI W.length)) q s d W := ⟨h1.fr f1 (by decide), h2, ⟨a1, a2, a3, rfl, a5, a6⟩, ⟨by omega, h4.2⟩, h5.2, h6, h7.tr f1⟩
  obtain ⟨τ', r1, r2⟩ := h'.lays hl hx hy
  refine ⟨τ', ?_, r2⟩
  unfold f_X11_pops
  rw [show gF τ 43 = _ from a4, nI_pred, bndE, show gF (sF τ 43 (nI W.length)) 43 = nI W.length from rfl, rdM_30 (by omega), bS, show (sF τ 43 (nI W.length)).2.1 30 W.length = c from h5.1, r1, bS]
set_option maxHeartbeats 200000 in
theorem MR.fail (h : MR T n k τ0 τ q s d W) (j p : Nat) : ∃ τ', f_X11_fails (nI j) (nI p) τ = some (0, τ') ∧ MF T n k τ0 τ' (1 + 8 * p + j) := by
  obtain ⟨h1, h2, ⟨a1, a2, a3, a4, a5, a6⟩, h4, h5, h6, h7⟩ := h
  have f1 : Fr [35, 38, 39, 40, 41, 42, 43] [30] [] τ (sF τ 39 (nI (1 + 8 * p + j))) := Fr.rf.wF (by decide)
  exact ⟨_, failM a1 j p, h1.fr f1 (by decide), rfl, a6, h7.tr f1⟩
set_option maxHeartbeats 200000 in
theorem MR.makes (h : MR T n k τ0 τ q s d W) (hm : s.2.1 < 80) (x : Int32) : ∃ τ', f_X11_makes x τ = some (1, τ') ∧ MR T n k τ0 τ' q (s.1, s.2.1 + 1, s.2.2) d W := by
  obtain ⟨h1, h2, ⟨a1, a2, a3, a4, a5, a6⟩, h4, h5, h6, h7⟩ := h
  have f1 : Fr [35, 38, 39, 40, 41, 42, 43] [30] [] τ (sF τ 42 (nI (s.2.1 + 1))) := Fr.rf.wF (by decide)
  refine ⟨sF τ 42 (nI (s.2.1 + 1)), ?_, h1.fr f1 (by decide), h2, ⟨a1, a2, rfl, a4, a5, a6⟩, h4, h5, h6, h7.tr f1⟩
  unfold f_X11_makes
  rw [show gF τ 42 = _ from a3, if_neg (show ¬ nI s.2.1 = 80 from by rw [show (80 : Int32) = nI 80 from rfl, nI_eqE (by omega) (by omega)]; omega), bndE, show nI s.2.1 + 1 = nI (s.2.1 + 1) from nI_add _ 1]
set_option maxHeartbeats 200000 in
theorem MR.makesN (h : MR T n k τ0 τ q s d W) (hm : ¬ s.2.1 < 80) (hm2 : s.2.1 ≤ 80) (p : Nat) : ∃ τ', f_X11_makes (nI p) τ = some (0, τ') ∧ MF T n k τ0 τ' (1 + 8 * p + 3) := by
  obtain ⟨τ', r1, r2⟩ := h.fail 3 p
  refine ⟨τ', ?_, r2⟩
  unfold f_X11_makes
  rw [show gF τ 42 = _ from h.2.2.1.2.2.1, if_pos (show nI s.2.1 = 80 from by rw [show s.2.1 = 80 by omega]; rfl), show f_X11_fails 3 (nI p) τ = _ from r1, bS, nar0]
set_option maxHeartbeats 200000 in
theorem MR.opens (h : MR T n k τ0 τ q s d W) (hd : d < 10) (x : Int32) : ∃ τ', f_X11_opens x τ = some (1, τ') ∧ MR T n k τ0 τ' q s (d + 1) W := by
  obtain ⟨h1, h2, ⟨a1, a2, a3, a4, a5, a6⟩, h4, h5, h6, h7⟩ := h
  have f1 : Fr [35, 38, 39, 40, 41, 42, 43] [30] [] τ (sF τ 41 (nI (d + 1))) := Fr.rf.wF (by decide)
  refine ⟨sF τ 41 (nI (d + 1)), ?_, h1.fr f1 (by decide), h2, ⟨a1, rfl, a3, a4, a5, a6⟩, ⟨h4.1, h4.2.1, by omega⟩, h5, h6, h7.tr f1⟩
  unfold f_X11_opens
  rw [show gF τ 41 = _ from a2, if_neg (show ¬ nI d = 10 from by rw [show (10 : Int32) = nI 10 from rfl, nI_eqE (by omega) (by omega)]; omega), bndE, show nI d + 1 = nI (d + 1) from nI_add _ 1]
set_option maxHeartbeats 200000 in
theorem MR.opensN (h : MR T n k τ0 τ q s d W) (hd : ¬ d < 10) (p : Nat) : ∃ τ', f_X11_opens (nI p) τ = some (0, τ') ∧ MF T n k τ0 τ' (1 + 8 * p + 2) := by
  obtain ⟨τ', r1, r2⟩ := h.fail 2 p
  have hd2 := h.2.2.2.1.2.2
  refine ⟨τ', ?_, r2⟩
  unfold f_X11_opens
  rw [show gF τ 41 = _ from h.2.2.1.2.1, if_pos (show nI d = 10 from by rw [show d = 10 by omega]; rfl), show f_X11_fails 2 (nI p) τ = _ from r1, bS, nar0]
set_option maxHeartbeats 200000 in
theorem MR.down (h : MR T n k τ0 τ q s (d + 1) W) : MR T n k τ0 (sF τ 41 (gF τ 41 - 1)) q s d W := by
  obtain ⟨h1, h2, ⟨a1, a2, a3, a4, a5, a6⟩, h4, h5, h6, h7⟩ := h
  have f1 : Fr [35, 38, 39, 40, 41, 42, 43] [30] [] τ (sF τ 41 (gF τ 41 - 1)) := Fr.rf.wF (by decide)
  refine ⟨h1.fr f1 (by decide), h2, ⟨a1, ?_, a3, a4, a5, a6⟩, ⟨h4.1, h4.2.1, by omega⟩, h5, h6, h7.tr f1⟩
  show gF τ 41 - 1 = _
  rw [show gF τ 41 = _ from a2, nI_pred]
set_option maxHeartbeats 200000 in
theorem MR.drop {c : Int32} (h : MR T n k τ0 τ q s d (c :: W)) : MR T n k τ0 (sF τ 43 (gF τ 43 - 1)) q s d W := by
  obtain ⟨h1, h2, ⟨a1, a2, a3, a4, a5, a6⟩, h4, h5, h6, h7⟩ := h
  have f1 : Fr [35, 38, 39, 40, 41, 42, 43] [30] [] τ (sF τ 43 (gF τ 43 - 1)) := Fr.rf.wF (by decide)
  have hW := h4.1
  rw [List.length_cons] at a4 hW
  refine ⟨h1.fr f1 (by decide), h2, ⟨a1, a2, a3, ?_, a5, a6⟩, ⟨by omega, h4.2⟩, h5.2, h6, h7.tr f1⟩
  show gF τ 43 - 1 = _
  rw [show gF τ 43 = _ from a4, nI_pred]
set_option maxHeartbeats 200000 in
theorem MR.top (h : MR T n k τ0 τ q s d (V ++ Wb)) (c : Int32) : f_X11_isTop (nI Wb.length) c τ = some (if V.head? = some c then 1 else 0) := by
  obtain ⟨h1, h2, ⟨a1, a2, a3, a4, a5, a6⟩, h4, h5, h6, h7⟩ := h
  have hW := h4.1
  unfold f_X11_isTop f_X11_isTop_27
  rw [show gF τ 43 = _ from a4]
  cases V with
  | nil => rw [if_pos (show nI ([] ++ Wb : List Int32).length ≤ nI Wb.length from nI_le (Nat.le_refl _) (by have : Wb.length ≤ 410 := hW; omega))]; rfl
  | cons x V =>
    have hW : (x :: (V ++ Wb)).length ≤ 410 := hW
    have h5 : Sk (τ.2.1 30) (x :: (V ++ Wb)) := h5
    rw [List.length_cons] at hW
    rw [show (x :: V ++ Wb : List Int32).length = (V ++ Wb).length + 1 from rfl, if_neg (show ¬ nI ((V ++ Wb).length + 1) ≤ nI Wb.length from by rw [nI_leE (by omega) (by rw [List.length_append] at hW; omega), List.length_append]; omega), nI_pred, rdM_30 (by omega), bS, h5.1]
    by_cases e : x = c
    · rw [if_pos e, if_pos (show (x :: V).head? = some c by rw [e]; rfl)]
    · rw [if_neg e, if_neg (show ¬ (x :: V).head? = some c from fun z => e (Option.some.inj z))]
set_option maxHeartbeats 200000 in
theorem Sk.atc {A : Nat → Int32} {c : Int32} : ∀ {V : List Int32}, Sk A (V ++ c :: W) → A W.length = c ∧ W.length < (V ++ c :: W).length := by
  intro V
  induction V with
  | nil => intro h; exact ⟨h.1, by show W.length < (c :: W).length; rw [List.length_cons]; omega⟩
  | cons x V ih =>
    intro h
    have := ih h.2
    exact ⟨this.1, by show W.length < (x :: (V ++ c :: W)).length; rw [List.length_cons]; omega⟩
set_option maxHeartbeats 200000 in
theorem has_lp (x : Int32) : ∀ (m i F : Nat), i + m = W.length → W.length ≤ 410 → τ.1 43 = nI W.length → m < F → ∃ v, f_X11_has_2 x τ F (nI i) = some v ∧ ((v = 0 ∧ ∀ j, i ≤ j → j < W.length → ¬ τ.2.1 30 j = x) ∨ (v = 1 ∧ ∃ j, i ≤ j ∧ j < W.length ∧ τ.2.1 30 j = x)) := by
  intro m
  induction m with
  | zero =>
    intro i F hi hW h4 hF
    obtain ⟨F, rfl⟩ : ∃ q, F = q + 1 := ⟨F - 1, by omega⟩
    refine ⟨0, ?_, Or.inl ⟨rfl, fun j z1 z2 => by omega⟩⟩
    unfold f_X11_has_2
    rw [show gF τ 43 = _ from h4, if_pos (nI_le (by omega) (by omega))]
  | succ m ih =>
    intro i F hi hW h4 hF
    obtain ⟨F, rfl⟩ : ∃ q, F = q + 1 := ⟨F - 1, by omega⟩
    obtain ⟨v, r1, r2⟩ := ih (i + 1) F (by omega) hW h4 (by omega)
    unfold f_X11_has_2
    rw [show gF τ 43 = _ from h4, if_neg (nI_ge (by omega) (by omega)), rdM_30 (by omega), bS]
    by_cases e : τ.2.1 30 i = x
    · exact ⟨1, by rw [if_pos e], Or.inr ⟨rfl, i, Nat.le_refl _, by omega, e⟩⟩
    · refine ⟨v, by rw [if_neg e, bndE, show nI i + 1 = nI (i + 1) from nI_add _ 1, r1], ?_⟩
      rcases r2 with ⟨z1, z2⟩ | ⟨z1, j, z2, z3, z4⟩
      · refine Or.inl ⟨z1, fun j y1 y2 => ?_⟩
        by_cases g : j = i
        · rw [g]; exact e
        · exact z2 j (by omega) y2
      · exact Or.inr ⟨z1, j, by omega, z3, z4⟩
set_option maxHeartbeats 200000 in
theorem Sk.mem {A : Nat → Int32} : ∀ {V : List Int32}, Sk A (V ++ Wb) → ∀ j, Wb.length ≤ j → j < (V ++ Wb).length → A j ∈ V := by
  intro V
  induction V with
  | nil => intro _ j z1 z2; have z2 : j < Wb.length := z2; omega
  | cons x V ih =>
    intro h j z1 z2
    have z2 : j < (V ++ Wb).length + 1 := z2
    by_cases e : j = (V ++ Wb).length
    · rw [e, show A (V ++ Wb).length = x from h.1]; exact List.mem_cons_self ..
    · exact List.mem_cons_of_mem _ (ih h.2 j z1 (by omega))
set_option maxHeartbeats 200000 in
theorem MR.hasN (h : MR T n k τ0 τ q s d (V ++ Wb)) {c : Int32} (hc : c ∉ V) : f_X11_has (nI Wb.length) c τ = some 0 := by
  obtain ⟨h1, h2, ⟨a1, a2, a3, a4, a5, a6⟩, h4, h5, h6, h7⟩ := h
  have hW := h4.1
  have hl : Wb.length ≤ (V ++ Wb).length := by rw [List.length_append]; omega
  obtain ⟨v, r1, r2⟩ := has_lp c ((V ++ Wb).length - Wb.length) Wb.length FU (by omega) hW a4 (by unfold FU; omega)
  unfold f_X11_has
  rw [r1]
  rcases r2 with ⟨z, -⟩ | ⟨-, j, z1, z2, z3⟩
  · rw [z]
  · exact absurd (z3 ▸ h5.mem j z1 z2) hc
set_option maxHeartbeats 200000 in
theorem MR.hasY {X Y : List Int32} {c : Int32} (h : MR T n k τ0 τ q s d (X ++ c :: (Y ++ Wb))) : f_X11_has (nI Wb.length) c τ = some 1 := by
  obtain ⟨h1, h2, ⟨a1, a2, a3, a4, a5, a6⟩, h4, h5, h6, h7⟩ := h
  have hW := h4.1
  have at1 := h5.atc
  have hl : Wb.length ≤ (Y ++ Wb).length := by rw [List.length_append]; omega
  obtain ⟨v, r1, r2⟩ := has_lp c ((X ++ c :: (Y ++ Wb)).length - Wb.length) Wb.length FU (by omega) hW a4 (by unfold FU; omega)
  unfold f_X11_has
  rw [r1]
  rcases r2 with ⟨-, z⟩ | ⟨z, -⟩
  · exact absurd at1.1 (z _ hl at1.2)
  · rw [z]
end MS
