/-! statute, both -/
set_option maxHeartbeats 200000 in
theorem cn_all : (∀ j, j < 9 → σ0M.2.2 31 j = Int64.ofNat (wc_ (15 + j))) ∧ ∀ j, j < 5 → σ0M.2.2 32 j = Int64.ofNat (wc_ (5 + j)) := by decide
section SS
variable {σ τ σ' τ' : St}
set_option maxHeartbeats 200000 in
theorem Inv.end (hI : Inv σ τ) (f : Fr [400, 407, 408, 502, 503, 504, 505, 506, 507, 508, 509, 3799] [32, 33, 34, 35, 36, 37, 38, 39, 40, 41, 42, 43] [] σ σ') (g : Fr [24, 25, 35, 38, 39, 40, 41, 42, 43] [19, 20, 21, 22, 23, 24, 25, 26, 27, 28, 29, 30] [] τ τ') (t : M_tap σ' τ') (l : M_law σ' τ') : Inv σ' τ' := by
  obtain ⟨h_now, h_dep, h_pts, h_shp, h_tap, h_act, h_stk, h_age, h_twn, h_not, h_box, h_esc, h_rep, h_chn, h_hok, h_law, h_con⟩ := id hI
  exact ⟨h_now.fr f g (by decide), h_dep.fr f g (by decide), h_pts.fr f g (by decide), h_shp.fr f g (by decide), t, h_act.fr f g (by decide), h_stk.fr f g (by decide), h_age.fr f g (by decide), h_twn.fr f g (by decide), h_not.fr f g (by decide), h_box.fr f g (by decide), h_esc.fr f g (by decide), h_rep.fr f g (by decide), h_chn.fr f g (by decide), h_hok.fr f g (by decide), l, h_con.fr f g (by decide)⟩
set_option maxHeartbeats 200000 in
theorem LawS.kp {L : List Stt} {ks : Nat → Nat} {Ln Ln' K : Nat} (H : LawS σ τ L ks Ln) (hK : ∀ s, s < L.length → ks s + (gS L s).2.2.1.length ≤ K) (hL : K ≤ Ln') (hL2 : Ln' < 9000) (e400 : σ'.1 400 = σ.1 400) (eLn : σ'.1 3799 = nI Ln') (e25 : τ'.1 25 = τ.1 25) (e32 : σ'.2.1 32 = σ.2.1 32) (e33 : σ'.2.1 33 = σ.2.1 33) (e34 : σ'.2.1 34 = σ.2.1 34) (e35 : σ'.2.1 35 = σ.2.1 35) (e36 : ∀ i, i < L.length → σ'.2.1 36 i = σ.2.1 36 i) (e37 : ∀ i, i < K → σ'.2.1 37 i = σ.2.1 37 i) (lo : Lo (12 * L.length) σ σ') (e19 : τ'.2.1 19 = τ.2.1 19) (e20 : τ'.2.1 20 = τ.2.1 20) (e21 : ∀ i, i < L.length → τ'.2.1 21 i = τ.2.1 21 i) (lm : LoM (12 * L.length) τ τ') (e28 : ∀ i, i < 420 * L.length → τ'.2.1 28 i = τ.2.1 28 i ∧ τ'.2.1 29 i = τ.2.1 29 i) : LawS σ' τ' L ks Ln' := by
  obtain ⟨h1, h2, h3, h4, h5, h6, h7, h8⟩ := H
  refine ⟨h1, e400.trans h2, e25.trans h3, eLn, hL2, fun s hs => ?_, by rw [e35]; exact h7, fun s hs => by rw [e34]; exact h8 s hs⟩
  obtain ⟨a, b, c, d⟩ := h6 s hs
  have k1 := hK s hs
  exact ⟨a.kp hs c.2.2.1 k1 (by rw [e32]) (by rw [e33]) (e36 s hs) e37 lo, b.kp hs c.2.2.1 c.2.1 (by rw [e19]) (by rw [e20]) (e21 s hs) lm e28, c, by omega⟩
set_option maxHeartbeats 200000 in
theorem isOfE {k : Nat} {x1 : Int32} (h4 : σ.1 400 = nI k) (hk : k < 12) (hA : ∀ s, s < k → σ.2.1 32 s = τ.2.1 19 s) {N : Nat} (hN : N < 100000000) : f_X2_isOf (nI N) x1 σ = some (if ownM k τ x1 N = true then 1 else 0) := by
  have e0 : (f_X2_has (nI N) σ = 0) = ¬ N < k := by
    rw [law0, show gF σ 400 = _ from h4, nI_toInt (show N < 2 ^ 31 by omega), nI_toInt (show k < 2 ^ 31 by omega)]
    exact propext ⟨fun z q => z ⟨by omega, by omega⟩, fun z q => z (by omega)⟩
  unfold f_X2_isOf f_X2_isOf_22
  by_cases c : N < k
  · rw [if_neg (by rw [e0]; exact not_not_intro c), rdC_32 (by omega), bS, hA N c]
    by_cases e : τ.2.1 19 N = x1
    · rw [if_pos e, if_pos (show ownM k τ x1 N = true from decide_eq_true ⟨c, e⟩)]
    · rw [if_neg e, if_neg (show ¬ ownM k τ x1 N = true from fun z => e (of_decide_eq_true z).2)]
  · rw [if_pos (e0.mpr c), if_neg (show ¬ ownM k τ x1 N = true from fun z => c (of_decide_eq_true z).1)]
set_option maxHeartbeats 200000 in
theorem o_statute (x1 x2 : Int32) (hI : Inv σ τ) : ∃ (r : Int32) (σ' τ' : St), f_X10_statute x1 x2 σ = some (r, σ') ∧ f_X11_statute x1 x2 τ = some (r, τ') ∧ Inv σ' τ' := by
  obtain ⟨h_now, h_dep, h_pts, h_shp, h_tap, h_act, h_stk, h_age, h_twn, h_not, h_box, h_esc, h_rep, h_chn, h_hok, h_law, h_con⟩ := id hI
  obtain ⟨nw, w1, w2, w3⟩ := h_now
  obtain ⟨n, t1, t2, t3, t4⟩ := h_tap
  obtain ⟨L, ks, Ln, K, H, l1, l2, l3, l4, l5, l6⟩ := h_law
  have hAu := authE x1
  have hLi : (f_X10_lies x2 (gF σ 0) 8999 = 0) = (f_X11_in x2.toInt64 ((gF τ 0).toInt64) 8999 = 0) := by
    rw [lies0, in0, wdL, wdL, show gF σ 0 = _ from w2, show gF τ 0 = _ from w3]; rfl
  have H4 : σ.1 400 = nI L.length := H.2.1
  have H5 : τ.1 25 = nI L.length := H.2.2.1
  have hl12 := H.1
  have i12 : (gF τ 25 = 12) = (L.length = 12) := by rw [show gF τ 25 = _ from H5]; exact nI_eqE (b := 12) (by omega) (by omega)
  have iF : (f_X2_isFull σ = 0) = (L.length < 12) := by
    unfold f_X2_isFull
    rw [bndE, narB', show gF σ 400 = _ from H4]
    have e : (nI L.length < 12) = (L.length < 12) := nI_ltE (b := 12) (by omega) (by omega)
    by_cases c : L.length < 12
    · rw [if_pos (e.mpr c)]; exact propext ⟨fun _ => c, fun _ => rfl⟩
    · rw [if_neg (fun z => c (e.mp z))]; exact propext ⟨fun z => absurd z (by decide), fun z => absurd z c⟩
  unfold f_X10_statute f_X11_statute
  by_cases g1 : f_X10_isAuthor x1 = 0
  · rw [if_pos g1, if_pos (hAu.mp g1)]
    refine ⟨-1, σ, τ, rfl, ?_, hI⟩
    split <;> rfl
  · rw [if_neg g1, if_neg (fun z => g1 (hAu.mpr z))]
    by_cases g2 : f_X10_lies x2 (gF σ 0) 8999 = 0
    · rw [if_pos g2, if_pos (hLi.mp g2)]
      refine ⟨-1, σ, τ, rfl, ?_, hI⟩
      split <;> rfl
    · rw [if_neg g2, if_neg (fun z => g2 (hLi.mpr z))]
      by_cases g3 : L.length < 12
      · rw [if_pos (iF.mpr g3), if_neg (show ¬ gF τ 25 = 12 from by rw [i12]; omega)]
        have hx2 : ∃ m, m ≤ 8999 ∧ x2 = nI m := by
          rw [lies0, show gF σ 0 = _ from w2, nI_toInt (show nw < 2 ^ 31 by omega)] at g2
          have g2 := Classical.not_not.mp g2
          have e9 : (8999 : Int32).toInt = 8999 := rfl
          rw [e9] at g2
          exact nI_btw (n := 8999) (by omega) (by omega)
        obtain ⟨m, hm, rfl⟩ := hx2
        -- the tape
        have hT : ∀ i, (Classical.choose (t4 i)) < 256 := fun i => (Classical.choose_spec (t4 i)).1
        generalize eT : (fun i => Classical.choose (t4 i)) = T
        have hT' : ∀ i, T i < 256 := fun i => by rw [← eT]; exact hT i
        have hC : TpC T n σ := ⟨t1, t2, hT', fun i => by rw [← eT]; exact (Classical.choose_spec (t4 i)).2.1⟩
        have hM : TpM T n τ := ⟨t1, t3, hT', fun i => by rw [← eT]; exact (Classical.choose_spec (t4 i)).2.2⟩
        have hcn : CnM τ := ⟨fun j hj => by rw [h_con.1]; exact cn_all.1 j hj, fun j hj => by rw [h_con.2]; exact cn_all.2 j hj⟩
        obtain ⟨τb, b1, b2, b3, b4⟩ := readM (x1 := x1) hM H5 g3 hcn
        have hA : ∀ s, s < L.length → σ.2.1 32 s = τb.2.1 19 s := fun s hs => by
          obtain ⟨a, b, -⟩ := H.2.2.2.2.2.1 s hs
          rw [b2.2.1 19 (by decide), a.1, b.1]
        obtain ⟨σb, Ln', c1, ⟨c2, c3, c4⟩, c5⟩ := readC (x1 := x1) (own := ownM L.length τb x1) hC H4 g3 l1 H.2.2.2.1 l2 (by omega) l5 (fun σ' z1 z2 N hN => isOfE (z1.trans H4) g3 (fun s hs => by rw [z2]; exact hA s hs) hN)
        have stM : ∀ X, (bnd (sF τ 38 0) fun σ25 => bnd (sF σ25 39 0) fun σ26 => bnd (sF σ26 41 0) fun σ27 => bnd (sF σ27 42 0) fun σ28 => bnd (sF σ28 43 0) fun σ29 => bnd (sF σ29 35 0) fun σ30 => (wr tM σ30 21 (gF σ30 25) 0).bind X) = (X τb : Option (Int32 × St)) := by
          intro X
          simp only [bndE]
          rw [show gF (sF (sF (sF (sF (sF (sF τ 38 0) 39 0) 41 0) 42 0) 43 0) 35 0) 25 = _ from H5, wrM_21 (by omega), bS, b1]
        have w6 := H.2.2.2.2.2.1
        cases er : aText T n (ownM L.length τb x1) 13 ((ev T n isSp 0, 0, []), []) with
        | inl f =>
          rw [er] at b4 c5
          obtain ⟨τ1, m1, m2, m3⟩ := b4
          obtain ⟨⟨f0, f1⟩, σ1, s1, s2⟩ := c5
          obtain ⟨s3, s4, s5, s6, s7⟩ := s2
          refine ⟨-2 - nI f, sF σ1 502 0, sF τ1 24 0, ?_, ?_, ?_⟩
          · rw [s1, bS]
            unfold f_X10_statute_41
            rw [bndE, if_neg (show ¬ nI f = 0 from by rw [show (0 : Int32) = nI 0 from rfl, nI_eqE (by omega) (by omega)]; omega)]
          · rw [stM]
            show (f_X11_text x1 τb).bind _ = _
            rw [m1, bS, bndE, if_pos rfl]
            show some (-2 - τ1.1 39, sF τ1 24 0) = _
            rw [m2]
          · have fC : Fr [400, 407, 408, 502, 503, 504, 505, 506, 507, 508, 509, 3799] [32, 33, 34, 35, 36, 37, 38, 39, 40, 41, 42, 43] [] σ (sF σ1 502 0) := ((c2.up (by decide)).tr (s7.1.up (by decide))).wF (by decide)
            have fM : Fr [24, 25, 35, 38, 39, 40, 41, 42, 43] [19, 20, 21, 22, 23, 24, 25, 26, 27, 28, 29, 30] [] τ (sF τ1 24 0) := ((b2.up (by decide)).tr (m3.1.up (by decide))).wF (by decide)
            refine hI.end fC fM ⟨0, by omega, rfl, rfl, fun i => ?_⟩ ⟨L, ks, Ln', K, ?_, ?_, by omega, l3, by omega, c1.2, l6⟩
            · obtain ⟨c, z1, z2, z3⟩ := t4 i
              exact ⟨c, z1, by rw [fC.2.1 45 (by decide)]; exact z2, by rw [fM.2.1 18 (by decide)]; exact z3⟩
            · refine H.kp l6 (by omega) (by omega) (((s7.1.1 400 (by decide)).trans (c2.1 400 (by decide)))) s3.2.2.2.1 ((m3.1.1 25 (by decide)).trans (b2.1 25 (by decide))) ((s7.1.2.1 32 (by decide)).trans (c2.2.1 32 (by decide))) ((s7.1.2.1 33 (by decide)).trans (c2.2.1 33 (by decide))) ((s7.1.2.1 34 (by decide)).trans (c2.2.1 34 (by decide))) ((s7.1.2.1 35 (by decide)).trans (c2.2.1 35 (by decide))) (fun i hi => (s7.2.2.1 i hi).trans (c4 i hi)) (fun i hi => (s7.2.1 i hi).trans (c3 i hi)) ?_ ((m3.1.2.1 19 (by decide)).trans (b2.2.1 19 (by decide))) ((m3.1.2.1 20 (by decide)).trans (b2.2.1 20 (by decide))) (fun i hi => (m3.2.1 i hi).trans (b3 i hi)) ?_ ?_
              · intro i hi
                obtain ⟨z1, z2, z3, z4, z5, z6⟩ := s7.2.2.2 i hi
                exact ⟨z1.trans (by rw [c2.2.1 38 (by decide)]), z2.trans (by rw [c2.2.1 39 (by decide)]), z3.trans (by rw [c2.2.1 40 (by decide)]), z4.trans (by rw [c2.2.1 41 (by decide)]), z5.trans (by rw [c2.2.1 42 (by decide)]), z6.trans (by rw [c2.2.1 43 (by decide)])⟩
              · intro i hi
                obtain ⟨z1, z2, z3, z4, z5, z6⟩ := m3.2.2.1 i hi
                exact ⟨z1.trans (by rw [b2.2.1 22 (by decide)]), z2.trans (by rw [b2.2.1 23 (by decide)]), z3.trans (by rw [b2.2.1 24 (by decide)]), z4.trans (by rw [b2.2.1 25 (by decide)]), z5.trans (by rw [b2.2.1 26 (by decide)]), z6.trans (by rw [b2.2.1 27 (by decide)])⟩
              · intro i hi
                obtain ⟨z1, z2⟩ := m3.2.2.2 i hi
                exact ⟨z1.trans (by rw [b2.2.1 28 (by decide)]), z2.trans (by rw [b2.2.1 29 (by decide)])⟩
            · show σ1.1 407 = _
              rw [s7.1.1 407 (by decide), c2.1 407 (by decide)]; exact l1
        | inr c =>
          rw [er] at b4 c5
          obtain ⟨τ1, q1, m1, m2⟩ := b4
          obtain ⟨σ1, s1, s2⟩ := c5
          have ge := (ev_ge (T := T) (n := n) (q := isSp) (n - 0) 0 rfl).2.1 (Nat.zero_le _)
          have tx := text_ok hT' 13 _ c ⟨⟨ge, Nat.zero_le _, Nat.zero_le _⟩, Nat.zero_le _, fun C hC => by cases hC⟩ er
          obtain ⟨⟨x3, x4, x5⟩, x6, x7⟩ := tx
          obtain ⟨s3, s4, s5, s6, s7, s8⟩ := s2
          obtain ⟨m3, m4, m5, m6⟩ := m2
          -- the statute
          have gm : ∀ j, j < c.2.length → c.2.getD j cl0 ∈ c.2 := fun j hj => by
            rw [List.getD_eq_getElem?_getD, List.getElem?_eq_getElem hj]; exact List.getElem_mem hj
          have wfS : wf1 L.length ((x1, m, c.1.2.2, c.2) : Stt) := by
            refine ⟨hm, by show c.1.2.2.length ≤ 400; omega, x6, fun j hj => ?_⟩
            obtain ⟨y1, y2, y3, y4, y5⟩ := x7 _ (gm j hj)
            refine ⟨y1, y2, y3, y4, fun z => ?_⟩
            obtain ⟨N, o1, o2⟩ := y5 z
            exact ⟨N, (of_decide_eq_true o1).1, o2⟩
          have hwf : ∀ j, j ≤ L.length → wf1 j (gS (L ++ [((x1, m, c.1.2.2, c.2) : Stt)]) j) := by
            intro j hj
            by_cases e : j = L.length
            · rw [e, gS_new]; exact wfS
            · rw [gS_old (show j < L.length by omega)]; exact (w6 j (by omega)).2.2.1
          have k33 : (sF σ1 502 0).2.1 33 = σ.2.1 33 := (s8.1.2.1 33 (by decide)).trans (c2.2.1 33 (by decide))
          have k34 : (sF σ1 502 0).2.1 34 = σ.2.1 34 := (s8.1.2.1 34 (by decide)).trans (c2.2.1 34 (by decide))
          have k35 : (sF σ1 502 0).2.1 35 = σ.2.1 35 := (s8.1.2.1 35 (by decide)).trans (c2.2.1 35 (by decide))
          have k32 : (sF σ1 502 0).2.1 32 = σ.2.1 32 := (s8.1.2.1 32 (by decide)).trans (c2.2.1 32 (by decide))
          obtain ⟨σ2, e1, e2, e3, e4, e5, e6, e7, e8, e9⟩ := enactC (σ := sF σ1 502 0) (S := ((x1, m, c.1.2.2, c.2) : Stt)) (k := L.length) (K' := K + c.1.2.2.length) (m := m) (x1 := x1) rfl g3 s4 s3.2.2.2.2.2.1 rfl hm (fun s hs => by rw [k33]; exact ⟨(w6 s hs).1.2.1, (w6 s hs).2.2.1.1⟩) (by rw [k35]; exact H.2.2.2.2.2.2.1) (fun s hs => by rw [k34]; exact H.2.2.2.2.2.2.2 s hs) x6 s6 (fun j hj => by
            obtain ⟨z1, z2, -⟩ := s7 j hj
            obtain ⟨y1, y2, y3, y4, y5⟩ := x7 _ (gm j hj)
            exact ⟨z1, z2, y1, fun z => by obtain ⟨N, o1, o2⟩ := y5 z; exact ⟨N, (of_decide_eq_true o1).1, o2⟩⟩) hwf
          have t25 : τ1.1 25 = nI L.length := m3.2.2.1.2.2.2.2.2
          refine ⟨nI L.length, σ2, sF (sA (sA (sF τ1 24 0) 19 L.length x1) 20 L.length (nI m)) 25 (nI (L.length + 1)), ?_, ?_, ?_⟩
          · rw [s1, bS]
            unfold f_X10_statute_41
            rw [bndE, if_pos rfl, e1, bS]
          · rw [stM]
            show (f_X11_text x1 τb).bind _ = _
            rw [m1, bS, bndE, if_neg (show ¬ (1 : Int32) = 0 by decide)]
            show (wr tM (sF τ1 24 0) 19 (gF (sF τ1 24 0) 25) x1).bind _ = _
            rw [show gF (sF τ1 24 0) 25 = _ from t25, wrM_19 (by omega), bS, show gF (sA (sF τ1 24 0) 19 L.length x1) 25 = _ from t25, wrM_20 (by omega), bS, bndE, show gF (sA (sA (sF τ1 24 0) 19 L.length x1) 20 L.length (nI m)) 25 = _ from t25, show nI L.length + 1 = nI (L.length + 1) from nI_add _ 1, show gF (sF (sA (sA (sF τ1 24 0) 19 L.length x1) 20 L.length (nI m)) 25 (nI (L.length + 1))) 25 = nI (L.length + 1) from rfl, nI_pred]
          · have fC : Fr [400, 407, 408, 502, 503, 504, 505, 506, 507, 508, 509, 3799] [32, 33, 34, 35, 36, 37, 38, 39, 40, 41, 42, 43] [] σ σ2 := (((c2.up (by decide)).tr (s8.1.up (by decide))).wF (by decide)).tr (e2.up (by decide))
            have fM : Fr [24, 25, 35, 38, 39, 40, 41, 42, 43] [19, 20, 21, 22, 23, 24, 25, 26, 27, 28, 29, 30] [] τ (sF (sA (sA (sF τ1 24 0) 19 L.length x1) 20 L.length (nI m)) 25 (nI (L.length + 1))) := (((((b2.up (by decide)).tr (m6.1.up (by decide))).wF (by decide)).wA (by decide)).wA (by decide)).wF (by decide)
            have ll : (L ++ [((x1, m, c.1.2.2, c.2) : Stt)]).length = L.length + 1 := by rw [List.length_append]; rfl
            refine hI.end fC fM ⟨0, by omega, (e2.1 502 (by decide)).trans rfl, rfl, fun i => ?_⟩ ⟨L ++ [((x1, m, c.1.2.2, c.2) : Stt)], fun s => if s = L.length then K else ks s, Ln', K + c.1.2.2.length, ⟨by rw [ll]; omega, by rw [ll]; exact e3, by rw [ll]; rfl, (e2.1 3799 (by decide)).trans s3.2.2.2.2.2.2.1, by omega, fun s hs => ?_, by rw [ll]; exact e8, fun s hs => ?_⟩, e4, by omega, by rw [ll]; omega, by omega, c1.2, fun s hs => ?_⟩
            · obtain ⟨c, z1, z2, z3⟩ := t4 i
              exact ⟨c, z1, by rw [fC.2.1 45 (by decide)]; exact z2, by rw [fM.2.1 18 (by decide)]; exact z3⟩
            · rw [ll] at hs
              show rC1 σ2 s (if s = L.length then K else ks s) _ ∧ _ ∧ _ ∧ (if s = L.length then K else ks s) + _ ≤ _
              by_cases es : s = L.length
              · rw [if_pos es, es, gS_new]
                refine ⟨⟨e6, e7, by rw [e2.2.1 36 (by decide)]; exact s6, fun o ho => by rw [e2.2.1 37 (by decide)]; exact s3.2.2.2.2.2.2.2.1 o ho, fun j hj => ?_⟩, ⟨upd_at _ _ _, upd_at _ _ _, m4, fun o ho => m3.2.2.2.2.2.1 o ho, fun j hj => m5 j hj⟩, wfS, by show K + c.1.2.2.length ≤ Ln'; omega⟩
                rw [e2.2.1 38 (by decide), e2.2.1 39 (by decide), e2.2.1 40 (by decide), e2.2.1 41 (by decide), e2.2.1 42 (by decide), e2.2.1 43 (by decide)]
                exact s7 j hj
              · have hs' : s < L.length := by omega
                rw [if_neg es, gS_old hs']
                obtain ⟨a, b, cw, d⟩ := w6 s hs'
                have k1 := l6 s hs'
                refine ⟨a.kp hs' cw.2.2.1 k1 ((e5 s hs').1.trans (by rw [k32])) ((e5 s hs').2.trans (by rw [k33])) (by rw [e2.2.1 36 (by decide)]; exact (s8.2.2.1 s hs').trans (c4 s hs')) (fun i hi => by rw [e2.2.1 37 (by decide)]; exact (s8.2.1 i hi).trans (c3 i hi)) ?_, b.kp hs' cw.2.2.1 cw.2.1 ?_ ?_ ?_ ?_ ?_, cw, by omega⟩
                · intro i hi
                  rw [e2.2.1 38 (by decide), e2.2.1 39 (by decide), e2.2.1 40 (by decide), e2.2.1 41 (by decide), e2.2.1 42 (by decide), e2.2.1 43 (by decide)]
                  obtain ⟨z1, z2, z3, z4, z5, z6⟩ := s8.2.2.2 i hi
                  exact ⟨z1.trans (by rw [c2.2.1 38 (by decide)]), z2.trans (by rw [c2.2.1 39 (by decide)]), z3.trans (by rw [c2.2.1 40 (by decide)]), z4.trans (by rw [c2.2.1 41 (by decide)]), z5.trans (by rw [c2.2.1 42 (by decide)]), z6.trans (by rw [c2.2.1 43 (by decide)])⟩
                · show upd (τ1.2.1 19) L.length x1 s = _
                  rw [upd_ne _ _ es, m6.1.2.1 19 (by decide), b2.2.1 19 (by decide)]
                · show upd (τ1.2.1 20) L.length (nI m) s = _
                  rw [upd_ne _ _ es, m6.1.2.1 20 (by decide), b2.2.1 20 (by decide)]
                · exact (m6.2.1 s hs').trans (b3 s hs')
                · intro i hi
                  obtain ⟨z1, z2, z3, z4, z5, z6⟩ := m6.2.2.1 i hi
                  exact ⟨z1.trans (by rw [b2.2.1 22 (by decide)]), z2.trans (by rw [b2.2.1 23 (by decide)]), z3.trans (by rw [b2.2.1 24 (by decide)]), z4.trans (by rw [b2.2.1 25 (by decide)]), z5.trans (by rw [b2.2.1 26 (by decide)]), z6.trans (by rw [b2.2.1 27 (by decide)])⟩
                · intro i hi
                  obtain ⟨z1, z2⟩ := m6.2.2.2 i hi
                  exact ⟨z1.trans (by rw [b2.2.1 28 (by decide)]), z2.trans (by rw [b2.2.1 29 (by decide)])⟩
            · rw [ll] at hs ⊢
              exact e9 s hs
            · rw [ll] at hs
              show (if s = L.length then K else ks s) + _ ≤ _
              by_cases es : s = L.length
              · rw [if_pos es, es, gS_new]; exact Nat.le_refl _
              · rw [if_neg es, gS_old (show s < L.length by omega)]
                have := l6 s (by omega)
                omega
      · rw [if_neg (fun z => g3 (iF.mp z)), if_pos (i12.mpr (by omega))]
        exact ⟨-1, σ, τ, rfl, rfl, hI⟩
set_option maxHeartbeats 200000 in
theorem sim_15 (a1 a2 : Int32) : SimI Inv (cC_15 a1 a2) (cM_15 a1 a2) := fun _ _ hI => o_statute a1 a2 hI
end SS
