/-! how the reference begins a value -/
def CnM (τ0 : St) : Prop := (∀ j, j < 9 → τ0.2.2 31 j = Int64.ofNat (wc_ (15 + j))) ∧ ∀ j, j < 5 → τ0.2.2 32 j = Int64.ofNat (wc_ (5 + j))
set_option maxHeartbeats 200000 in
theorem op_w : ∀ j, j < 9 → opM (-1 - nI j) = 1 ∧ agM (-1 - nI j) = nI j := by decide
set_option maxHeartbeats 200000 in
theorem op_n {m : Nat} (h : m < 100000000) : opM (nI m) = 0 ∧ agM (nI m) = nI m := by
  unfold opM agM
  have h0 : (0 : Int32) ≤ nI m := nI_le (a := 0) (Nat.zero_le _) (by omega)
  rw [if_pos (nI_neg h), if_pos h0, if_pos (nI_neg h), if_pos h0]
  exact ⟨rfl, rfl⟩
section BG
variable {T : Nat → Nat} {n k q d : Nat} {τ0 τ : St} {s : PS} {W : List Int32}
set_option maxHeartbeats 200000 in
theorem MR.num (h : MR T n k τ0 τ q s d W) (hd : s.1 < n ∧ isDg (T s.1) = true) : if tkE T n s.1 - s.1 ≤ 5 then (∃ τ' q', f_X11_number τ = some (1, τ') ∧ MR T n k τ0 τ' q' (stp T n s) d W ∧ τ'.1 40 = nI (nvl T s.1 (tkE T n s.1 - s.1))) else ∃ τ', f_X11_number τ = some (0, τ') ∧ MF T n k τ0 τ' (1 + 8 * s.1 + 1) := by
  obtain ⟨τ1, a1, a2⟩ := h.see
  have h1 := h.1.1
  obtain ⟨τ2, b1, b2, b3⟩ := num_29 (s := s.1) (nI s.1) rfl (n - s.1) 0 FU τ1 a2.1 a2.2.1.2.1 rfl h.pl (by unfold FU; omega)
  rw [Nat.add_zero] at b1 b2
  have te := tkE_dg hd
  have ge := ev_ge (T := T) (n := n) (q := isDg) (n - s.1) s.1 rfl
  have g1 := ge.1
  have g2 := ge.2.1 h.pl
  rw [← te] at b1 b2 g1 g2
  have f3 : Fr [38, 40] [] [] τ1 (sF τ2 40 (nI (nvl T s.1 (tkE T n s.1 - s.1)))) := (b3.up (by decide)).wF (by decide)
  have m3 : MR T n k τ0 (sF τ2 40 (nI (nvl T s.1 (tkE T n s.1 - s.1)))) (tkE T n s.1) (stp T n s) d W := a2.mv f3 b2 g2 rfl
  have st : f_X11_number τ = f_X11_number_77 (nI s.1) (nI (nvl T s.1 (tkE T n s.1 - s.1))) τ2 := by
    unfold f_X11_number
    rw [a1, bS]
    show (f_X11_isDigit τ1).bind _ = _
    rw [digM a2.1 a2.2.1.2.1 h.pl, bS, if_pos hd, if_neg (show ¬ (1 : Int32) = 0 by decide)]
    show bnd (gF τ1 38) _ = _
    rw [bndE, show gF τ1 38 = _ from a2.2.1.2.1]
    exact b1
  have e5 : (nI (tkE T n s.1) - nI s.1 ≤ 5) = (tkE T n s.1 - s.1 ≤ 5) := by
    rw [pk_sub g1, show (5 : Int32) = nI 5 from rfl, nI_leE (by omega) (by omega)]
  unfold f_X11_number_77 f_X11_number_101 at st
  rw [bndE, show gF (sF τ2 40 (nI (nvl T s.1 (tkE T n s.1 - s.1)))) 38 = _ from b2] at st
  by_cases c : tkE T n s.1 - s.1 ≤ 5
  · rw [if_pos c]
    rw [if_pos (e5.mpr c)] at st
    exact ⟨_, _, st, m3, rfl⟩
  · rw [if_neg c]
    obtain ⟨τ3, d1, d2⟩ := m3.fail 1 s.1
    rw [if_neg (fun z => c (e5.mp z)), show f_X11_fails 1 (nI s.1) _ = _ from d1, bS, if_pos rfl] at st
    exact ⟨_, st, d2⟩
set_option maxHeartbeats 200000 in
theorem beg89 (hc : CnM τ0) {x2 : Int32} : ∀ (i j F : Nat) (τ : St), j + i = 9 → i < F → MR T n k τ0 τ s.1 s d W → match fnd (fun k => wdB T n s.1 (wl_ (15 + k))) i j with
    | none => ∃ τ', f_X11_begins_89 x2 F (nI j) τ = f_X11_begins_139 x2 τ' ∧ MR T n k τ0 τ' s.1 s d W
    | some w => ∃ τ', f_X11_begins_89 x2 F (nI j) τ = f_X11_begins_111 x2 (nI w) τ' ∧ MR T n k τ0 τ' s.1 s d W := by
  intro i
  induction i with
  | zero =>
    intro j F τ hj hF h
    obtain ⟨F, rfl⟩ : ∃ q, F = q + 1 := ⟨F - 1, by omega⟩
    refine ⟨τ, ?_, h⟩
    unfold f_X11_begins_89
    rw [if_pos (show (9 : Int32) ≤ nI j from nI_le (a := 9) (by omega) (by omega))]
  | succ i ih =>
    intro j F τ hj hF h
    obtain ⟨F, rfl⟩ : ∃ q, F = q + 1 := ⟨F - 1, by omega⟩
    have rl31 : rl tM τ 31 (nI j) = some (Int64.ofNat (wc_ (15 + j))) := by
      rw [rlM_31 (by omega), show τ.2.2 31 = _ from h.2.2.2.2.2.2.1.2.2 31 (by decide), hc.1 j (by omega)]
    obtain ⟨τ1, a1, a2⟩ := h.wd (w := 15 + j) (by omega)
    have st : f_X11_begins_89 x2 (F + 1) (nI j) τ = if (if wdB T n s.1 (wl_ (15 + j)) = true then 1 else 0 : Int32) = 0 then f_X11_begins_89 x2 F (nI (j + 1)) τ1 else f_X11_begins_111 x2 (nI j) τ1 := by
      rw [f_X11_begins_89, if_neg (show ¬ (9 : Int32) ≤ nI j from by rw [show (9 : Int32) = nI 9 from rfl, nI_leE (by omega) (by omega)]; omega), rl31, bS, a1, bS, show nI (j + 1) = nI j + 1 from (nI_add _ 1).symm]; rfl
    rw [fnd_s]
    by_cases c : wdB T n s.1 (wl_ (15 + j)) = true
    · rw [if_pos c, if_neg (show ¬ (1 : Int32) = 0 by decide)] at st
      rw [if_pos c]
      exact ⟨τ1, st, a2⟩
    · rw [if_neg c, if_pos rfl] at st
      rw [if_neg c]
      have := ih (j + 1) F τ1 (by omega) (by omega) a2
      rw [← st] at this
      exact this
set_option maxHeartbeats 200000 in
theorem MR.begins (hc : CnM τ0) (hT : ∀ i, T i < 256) (h : MR T n k τ0 τ q s d W) (hl : s.2.2.length < 420) (hm : s.2.1 ≤ 80) (hW : W.length < 410) :
    if s.1 < n ∧ isDg (T s.1) = true then
      (if tkE T n s.1 - s.1 ≤ 5 then (if s.2.1 < 80 then ∃ τ' q', f_X11_begins τ = some (1, τ') ∧ MR T n k τ0 τ' q' (stp T n (lay (nI (nvl T s.1 (tkE T n s.1 - s.1))) (s.1, s.2.1 + 1, s.2.2))) d W else ∃ τ', f_X11_begins τ = some (-1, τ') ∧ MF T n k τ0 τ' (1 + 8 * s.1 + 3)) else ∃ τ', f_X11_begins τ = some (-1, τ') ∧ MF T n k τ0 τ' (1 + 8 * s.1 + 1))
    else if sym T n s.1 40 = true then
      (if d < 10 then (if s.2.1 < 80 then ∃ τ', f_X11_begins τ = some (0, τ') ∧ MR T n k τ0 τ' (s.1 + 1) (stp T n (s.1, s.2.1 + 1, s.2.2)) (d + 1) (13 :: W) else ∃ τ', f_X11_begins τ = some (-1, τ') ∧ MF T n k τ0 τ' (1 + 8 * s.1 + 3)) else ∃ τ', f_X11_begins τ = some (-1, τ') ∧ MF T n k τ0 τ' (1 + 8 * s.1 + 2))
    else match wno T n s.1 with
      | none => ∃ τ', f_X11_begins τ = some (-1, τ') ∧ MF T n k τ0 τ' (1 + 8 * s.1 + 0)
      | some w => if s.2.1 < 80 then ∃ τ' q', f_X11_begins τ = some (1, τ') ∧ MR T n k τ0 τ' q' (stp T n (lay (-1 - nI w) (s.1, s.2.1 + 1, s.2.2))) d W else ∃ τ', f_X11_begins τ = some (-1, τ') ∧ MF T n k τ0 τ' (1 + 8 * s.1 + 3) := by
  obtain ⟨τ1, a1, a2⟩ := h.see
  have hTp := hT s.1
  have st : f_X11_begins τ = if (if s.1 < n ∧ isDg (T s.1) = true then 1 else 0 : Int32) = 0 then (if byI T n s.1 = 40 then ((f_X11_opens (nI s.1) τ1).bind fun u38 => if u38.1 = 0 then some ((-1), u38.2) else ((f_X11_makes (nI s.1) u38.2).bind fun u39 => if u39.1 = 0 then some ((-1), u39.2) else ((f_X11_waits 13 u39.2).bind fun σ40 => bnd (sF σ40 38 ((gF σ40 38) + 1)) fun σ41 => some (0, σ41)))) else f_X11_begins_89 (nI s.1) FU 0 τ1) else ((f_X11_number τ1).bind fun u42 => if u42.1 = 0 then some ((-1), u42.2) else ((f_X11_makes (nI s.1) u42.2).bind fun u43 => if u43.1 = 0 then some ((-1), u43.2) else ((f_X11_lays 0 (gF u43.2 40) u43.2).bind fun σ44 => some (1, σ44)))) := by
    unfold f_X11_begins
    rw [a1, bS]
    show bnd (gF τ1 38) (fun v36 => (f_X11_isDigit τ1).bind _) = _
    rw [bndE, digM a2.1 a2.2.1.2.1 h.pl, bS, show gF τ1 38 = _ from a2.2.1.2.1]
  by_cases c1 : s.1 < n ∧ isDg (T s.1) = true
  · rw [if_pos c1, if_neg (show ¬ (1 : Int32) = 0 by decide)] at st
    rw [if_pos c1]
    have nm := a2.num c1
    by_cases c2 : tkE T n s.1 - s.1 ≤ 5
    · rw [if_pos c2] at nm ⊢
      obtain ⟨τ2, q2, b1, b2, b3⟩ := nm
      rw [b1, bS, if_neg (show ¬ (1 : Int32) = 0 by decide)] at st
      have st : f_X11_begins τ = ((f_X11_makes (nI s.1) τ2).bind fun u43 => if u43.1 = 0 then some ((-1), u43.2) else ((f_X11_lays 0 (gF u43.2 40) u43.2).bind fun σ44 => some (1, σ44))) := st
      by_cases c3 : s.2.1 < 80
      · rw [if_pos c3]
        have mk : f_X11_makes (nI s.1) τ2 = some (1, sF τ2 42 (nI (s.2.1 + 1))) := by
          unfold f_X11_makes
          rw [show gF τ2 42 = _ from b2.2.2.1.2.2.1, if_neg (show ¬ nI (stp T n s).2.1 = 80 from by show ¬ nI s.2.1 = 80; rw [show (80 : Int32) = nI 80 from rfl, nI_eqE (by omega) (by omega)]; omega), bndE, show nI (stp T n s).2.1 + 1 = nI (s.2.1 + 1) from nI_add _ 1]
        obtain ⟨τ3, d1, d2⟩ := b2.makes (show (stp T n s).2.1 < 80 from c3) (nI s.1)
        have e3 : τ3 = sF τ2 42 (nI (s.2.1 + 1)) := by
          rw [mk] at d1
          exact (Prod.mk.inj (Option.some.inj d1)).2.symm
        have o := op_n (nvl_lt hT s.1 (tkE T n s.1 - s.1))
        obtain ⟨τ4, k1, k2⟩ := d2.lays hl o.1 o.2
        rw [d1, bS, if_neg (show ¬ (1 : Int32) = 0 by decide)] at st
        have st : f_X11_begins τ = ((f_X11_lays 0 (gF τ3 40) τ3).bind fun σ44 => some (1, σ44)) := st
        rw [show gF τ3 40 = nI (nvl T s.1 (tkE T n s.1 - s.1)) from by rw [e3]; exact b3, k1, bS] at st
        exact ⟨τ4, q2, st, k2⟩
      · rw [if_neg c3]
        obtain ⟨τ3, d1, d2⟩ := b2.makesN (show ¬ (stp T n s).2.1 < 80 from c3) hm s.1
        rw [d1, bS, if_pos rfl] at st
        exact ⟨τ3, st, d2⟩
    · rw [if_neg c2] at nm ⊢
      obtain ⟨τ2, b1, b2⟩ := nm
      rw [b1, bS, if_pos rfl] at st
      exact ⟨τ2, st, b2⟩
  · rw [if_neg c1, if_pos rfl] at st
    rw [if_neg c1]
    have e40 : (byI T n s.1 = 40) = (sym T n s.1 40 = true) := byI_sym (c := 40) hTp (by decide)
    by_cases c2 : sym T n s.1 40 = true
    · rw [if_pos (e40.mpr c2)] at st
      rw [if_pos c2]
      by_cases c3 : d < 10
      · obtain ⟨τ2, b1, b2⟩ := a2.opens c3 (nI s.1)
        rw [b1, bS, if_neg (show ¬ (1 : Int32) = 0 by decide)] at st
        rw [if_pos c3]
        by_cases c4 : s.2.1 < 80
        · obtain ⟨τ3, d1, d2⟩ := b2.makes c4 (nI s.1)
          obtain ⟨τ4, k1, k2⟩ := d2.waits hW 13
          have st : f_X11_begins τ = ((f_X11_makes (nI s.1) τ2).bind fun u39 => if u39.1 = 0 then some ((-1), u39.2) else ((f_X11_waits 13 u39.2).bind fun σ40 => bnd (sF σ40 38 ((gF σ40 38) + 1)) fun σ41 => some (0, σ41))) := st
          rw [d1, bS, if_neg (show ¬ (1 : Int32) = 0 by decide)] at st
          have st : f_X11_begins τ = ((f_X11_waits 13 τ3).bind fun σ40 => bnd (sF σ40 38 ((gF σ40 38) + 1)) fun σ41 => some (0, σ41)) := st
          rw [k1, bS, bndE] at st
          rw [if_pos c4]
          exact ⟨_, st, k2.go1 (s := (s.1, s.2.1 + 1, s.2.2)) c2 (by decide)⟩
        · obtain ⟨τ3, d1, d2⟩ := b2.makesN c4 hm s.1
          have st : f_X11_begins τ = ((f_X11_makes (nI s.1) τ2).bind fun u39 => if u39.1 = 0 then some ((-1), u39.2) else ((f_X11_waits 13 u39.2).bind fun σ40 => bnd (sF σ40 38 ((gF σ40 38) + 1)) fun σ41 => some (0, σ41))) := st
          rw [d1, bS, if_pos rfl] at st
          rw [if_neg c4]
          exact ⟨τ3, st, d2⟩
      · obtain ⟨τ2, b1, b2⟩ := a2.opensN c3 s.1
        rw [b1, bS, if_pos rfl] at st
        rw [if_neg c3]
        exact ⟨τ2, st, b2⟩
    · rw [if_neg (fun z => c2 (e40.mp z))] at st
      rw [if_neg c2]
      have bg := beg89 (s := s) hc (x2 := nI s.1) 9 0 FU τ1 (by omega) (by unfold FU; omega) a2
      unfold wno
      cases g : fnd (fun k => wdB T n s.1 (wl_ (15 + k))) 9 0 with
      | none =>
        rw [g] at bg
        obtain ⟨τ2, b1, b2⟩ := bg
        obtain ⟨τ3, d1, d2⟩ := b2.fail 0 s.1
        rw [show f_X11_begins_89 (nI s.1) FU 0 τ1 = _ from b1] at st
        unfold f_X11_begins_139 at st
        rw [show f_X11_fails 0 (nI s.1) τ2 = _ from d1, bS] at st
        exact ⟨τ3, st, d2⟩
      | some w =>
        rw [g] at bg
        obtain ⟨-, w2, w3⟩ := fnd_lt g
        obtain ⟨τ2, b1, b2⟩ := bg
        rw [show f_X11_begins_89 (nI s.1) FU 0 τ1 = _ from b1] at st
        unfold f_X11_begins_111 at st
        show if s.2.1 < 80 then _ else _
        by_cases c4 : s.2.1 < 80
        · obtain ⟨τ3, d1, d2⟩ := b2.makes c4 (nI s.1)
          obtain ⟨τ4, q4, k1, k2⟩ := MR.skip (s := (s.1, s.2.1 + 1, s.2.2)) d2 (wdB_lo w3)
          have o := op_w w (by omega)
          obtain ⟨τ5, y1, y2⟩ := k2.lays hl o.1 o.2
          rw [d1, bS, if_neg (show ¬ (1 : Int32) = 0 by decide)] at st
          have st : f_X11_begins τ = ((f_X11_skips τ3).bind fun σ49 => (f_X11_lays 1 (nI w) σ49).bind fun σ50 => some (1, σ50)) := st
          rw [k1, bS, y1, bS] at st
          rw [if_pos c4]
          exact ⟨τ5, q4, st, y2⟩
        · obtain ⟨τ3, d1, d2⟩ := b2.makesN c4 hm s.1
          rw [d1, bS, if_pos rfl] at st
          rw [if_neg c4]
          exact ⟨τ3, st, d2⟩
end BG
