set_option maxHeartbeats 200000 in
theorem hook_go {w h t x N f ff lf : Nat} {x5 : Int32} {σ τ : St} (hw : 1 ≤ w ∧ w ≤ 5) (hh : 1 ≤ h ∧ h ≤ 5) (r : Rg w h ff lf) (c1 : ff ≤ f) (c2 : f ≤ lf) (hx : x < w * h) (ht : t < w * h) (hfx : f ≠ x) (hN : N ≤ 8) (e30 : (if (if x5 = (-1) then 0 else 1 : Int32) = 0 then 25 else 0 : Int32) = nI ff) (e32 : (if (if x5 = (-1) then 0 else 1 : Int32) = 0 then 25 else nI (w * h) - 1 : Int32) = nI lf) (ef : (if x5 = (-1) then 25 else x5 : Int32) = nI f) (ex : x5 = frI f) (hM : M_hok σ τ) :
    Op ((f_X1_lay (nI w) (nI h) (if x5 = (-1) then 0 else 1) σ).bind fun σ9 => (f_X1_play (nI t) (nI x) x5 (nI N) σ9).bind fun u10 => some (u10.1, u10.2)) (if nI t = nI x then some (0, τ) else (bnd (sF τ 62 (nI w)) fun σ22 => bnd (sF σ22 63 (nI h)) fun σ23 => f_X11_hook_120 (nI t) (nI x) x5 (nI N) FU 0 σ23)) M_hok ([600, 601, 602, 603, 604, 605, 606, 611], [46, 47, 48, 49], []) ([61, 62, 63], [39, 40], []) σ τ := by
  have hn : w * h ≤ 25 := Nat.mul_le_mul hw.2 hh.2
  obtain ⟨s1, a1, a2, a3⟩ := layC (x3 := if x5 = (-1) then 0 else 1) (ff := ff) (lf := lf) (σ := σ) hw hh e30 e32
  have m1 : M_hok s1 τ := by unfold M_hok; rw [a3.1 611 (by decide)]; exact hM
  by_cases htx : t = x
  · subst htx
    refine ⟨0, s1, τ, ?_, ?_, m1, a3.up (by decide), Fr.rf⟩
    · rw [a1, bS]
      unfold f_X1_play
      rw [if_pos rfl]
      rfl
    · rw [if_pos rfl]
  · have hne : ¬ nI t = nI x := by rw [nI_eqE (by omega) (by omega)]; exact htx
    obtain ⟨A, b1, b2⟩ := beginC hw hh r a2
    obtain ⟨τ1, i1, i2, i3⟩ := initR (t := nI t) (x := nI x) (fI := x5) (mI := nI N) 16250 0 FU (sF (sF τ 62 (nI w)) 63 (nI h)) (by omega) (by unfold FU; omega) (fun j z => absurd z (by omega))
    have k1 : ∀ j, τ1.1 j = (sF (sF τ 62 (nI w)) 63 (nI h)).1 j := fun j => i3.1 j (by simp)
    have hC : Ct (w * h) (gW w h (1 - 1)) τ1 := by
      intro x' f' t' hx' hf' ht'
      have hf25 : f' ≤ 25 := by rcases hf'.1 with z | z <;> omega
      rw [i2 _ (by omega), show (25 * (26 * x' + f') + t') / 25 / 26 = x' by omega, show (25 * (26 * x' + f') + t') % 25 = t' by omega]
      have ed : decide (x' = t') = decide (t' = x') := by
        by_cases z : x' = t'
        · rw [decide_eq_true z, decide_eq_true z.symm]
        · rw [decide_eq_false z, decide_eq_false (fun y => z y.symm)]
      rw [ed]
      rfl
    obtain ⟨q, σ', τ', z1, z2, z3, z4, z5⟩ := game_loop hw hh r c1 c2 hx ht htx hfx hN N 1 FU FU (stA s1 47 A) τ1 (by omega) (by omega) (by unfold FU; omega) (by unfold FU; omega) (a2.fr (Fr.rf.wSA (k := 47) (As := [47]) (by decide)) (by decide)) (by rw [stA_at]; exact b2) ((k1 62).trans rfl) ((k1 63).trans rfl) hC (by
      unfold M_hok
      rw [k1 61]
      exact m1)
    refine ⟨q, σ', τ', ?_, ?_, z3, (a3.up (by decide)).tr ((Fr.rf.wSA (k := 47) (f := A) (by decide)).tr (z4.up (by decide))), ((Fr.rf.wF (k := 62) (v := nI w) (by decide)).wF (k := 63) (v := nI h) (by decide)).tr ((i3.up (by decide)).tr (z5.up (by decide)))⟩
    · rw [a1, bS]
      have pl : f_X1_play (nI t) (nI x) x5 (nI N) s1 = some (q, σ') := by
        unfold f_X1_play
        rw [if_neg hne, ef, bndE, b1, bS]
        exact z1
      rw [pl]
      rfl
    · rw [if_neg hne, bndE, bndE, show f_X11_hook_120 (nI t) (nI x) x5 (nI N) FU 0 (sF (sF τ 62 (nI w)) 63 (nI h)) = _ from i1]
      unfold f_X11_hook_170
      rw [ex]
      exact z2
set_option maxHeartbeats 200000 in
theorem o_hook (w h t x f n : Int32) {σ τ : St} (hM : M_hok σ τ) : Op (f_X10_hook w h t x f n σ) (f_X11_hook w h t x f n τ) M_hok ([600, 601, 602, 603, 604, 605, 606, 611], [46, 47, 48, 49], []) ([61, 62, 63], [39, 40], []) σ τ := by
  by_cases g1 : (1 ≤ w.toInt ∧ w.toInt ≤ 5) ∧ (1 ≤ h.toInt ∧ h.toInt ≤ 5) ∧ (0 ≤ n.toInt ∧ n.toInt ≤ 8)
  · obtain ⟨gw, gh, gn⟩ := g1
    obtain ⟨iw, hw, rfl⟩ := nI_btw (n := 5) (by omega) gw.2
    obtain ⟨ih, hh, rfl⟩ := nI_btw (n := 5) (by omega) gh.2
    obtain ⟨iN, hN, rfl⟩ := nI_btw (n := 8) gn.1 gn.2
    have gw' := gw
    have gh' := gh
    rw [nI_toInt (by omega)] at gw' gh'
    have hw5 : 1 ≤ iw ∧ iw ≤ 5 := by omega
    have hh5 : 1 ≤ ih ∧ ih ≤ 5 := by omega
    have hm : iw * ih ≤ 25 := Nat.mul_le_mul hw5.2 hh5.2
    have hm1 : 1 ≤ iw * ih := Nat.mul_le_mul hw5.1 hh5.1
    have em : nI iw * nI ih = nI (iw * ih) := pk_mul _ _
    have el : (nI (iw * ih) - 1 : Int32) = nI (iw * ih - 1) := nIs _ hm1
    have tl : (nI (iw * ih - 1)).toInt = ((iw * ih - 1 : Nat) : Int) := nI_toInt (by omega)
    unfold f_X10_hook f_X11_hook
    rw [if_neg (show ¬ f_X10_lies (nI iw) 1 5 = 0 by rw [lies0]; exact not_not_intro gw), if_neg (show ¬ f_X10_lies (nI ih) 1 5 = 0 by rw [lies0]; exact not_not_intro gh), if_neg (show ¬ f_X10_lies (nI iN) 0 8 = 0 by rw [lies0]; exact not_not_intro gn), if_neg (show ¬ f_X11_in (nI iw).toInt64 1 5 = 0 by rw [in0, wdL]; exact not_not_intro gw), if_neg (show ¬ f_X11_in (nI ih).toInt64 1 5 = 0 by rw [in0, wdL]; exact not_not_intro gh), if_neg (show ¬ f_X11_in (nI iN).toInt64 0 8 = 0 by rw [in0, wdL]; exact not_not_intro gn), em, bndE (nI (iw * ih) - 1), bndE (nI (iw * ih)), el]
    clear gw gh gn
    by_cases g2 : (0 ≤ t.toInt ∧ t.toInt ≤ ((iw * ih - 1 : Nat) : Int)) ∧ (0 ≤ x.toInt ∧ x.toInt ≤ ((iw * ih - 1 : Nat) : Int)) ∧ (-1 ≤ f.toInt ∧ f.toInt ≤ ((iw * ih - 1 : Nat) : Int)) ∧ x ≠ f
    · obtain ⟨gt, gx, gf, gne⟩ := g2
      obtain ⟨it, ht, rfl⟩ := nI_btw gt.1 gt.2
      obtain ⟨jx, hx, rfl⟩ := nI_btw gx.1 gx.2
      rw [if_neg (show ¬ f_X10_lies (nI it) 0 (nI (iw * ih - 1)) = 0 by rw [lies0, tl]; exact not_not_intro gt), if_neg (show ¬ f_X10_lies (nI jx) 0 (nI (iw * ih - 1)) = 0 by rw [lies0, tl]; exact not_not_intro gx), if_neg (show ¬ f_X10_lies f (-1) (nI (iw * ih - 1)) = 0 by rw [lies0, tl]; exact not_not_intro gf), if_neg gne, if_neg (show ¬ f_X11_in (nI it).toInt64 0 (nI (iw * ih - 1)).toInt64 = 0 by rw [in0, wdL, wdL, tl]; exact not_not_intro gt), if_neg (show ¬ f_X11_in (nI jx).toInt64 0 (nI (iw * ih - 1)).toInt64 = 0 by rw [in0, wdL, wdL, tl]; exact not_not_intro gx), if_neg (show ¬ f_X11_in f.toInt64 (-1) (nI (iw * ih - 1)).toInt64 = 0 by rw [in0, wdL, wdL, tl]; exact not_not_intro gf), if_neg gne, bndE]
      clear gt gx
      by_cases c : f = -1
      · refine hook_go (f := 25) (ff := 25) (lf := 25) hw5 hh5 (Or.inr ⟨rfl, rfl⟩) (Nat.le_refl _) (Nat.le_refl _) (by omega) (by omega) (by omega) hN ?_ ?_ ?_ ?_ hM
        · rw [if_pos c]; rfl
        · rw [if_pos c]; rfl
        · rw [if_pos c]; rfl
        · rw [c]; rfl
      · have hf0 : 0 ≤ f.toInt := by
          by_cases z : 0 ≤ f.toInt
          · exact z
          · exfalso
            apply c
            exact Int32.toInt_inj.mp (show f.toInt = -1 by omega)
        obtain ⟨jf, hf, rfl⟩ := nI_btw hf0 gf.2
        have hfx : jf ≠ jx := fun z => gne (by rw [z])
        clear gf hf0
        refine hook_go (f := jf) (ff := 0) (lf := iw * ih - 1) hw5 hh5 (Or.inl ⟨rfl, rfl⟩) (Nat.zero_le _) hf (by omega) (by omega) hfx hN ?_ ?_ ?_ ?_ hM
        · rw [if_neg c]; rfl
        · rw [if_neg c, if_neg (by decide)]; exact el
        · rw [if_neg c]
        · exact (frI_lt (by omega)).symm
    · refine Op.no (-1) ?_ ?_ hM
      · simp only [lies0, tl, Int32.reduceToInt]
        by_cases z1 : 0 ≤ t.toInt ∧ t.toInt ≤ ((iw * ih - 1 : Nat) : Int)
        · rw [if_neg (not_not_intro z1)]
          by_cases z2 : 0 ≤ x.toInt ∧ x.toInt ≤ ((iw * ih - 1 : Nat) : Int)
          · rw [if_neg (not_not_intro z2)]
            by_cases z3 : -1 ≤ f.toInt ∧ f.toInt ≤ ((iw * ih - 1 : Nat) : Int)
            · rw [if_neg (not_not_intro z3), if_pos (Decidable.byContradiction (fun z => g2 ⟨z1, z2, z3, z⟩))]
            · rw [if_pos z3]
          · rw [if_pos z2]
        · rw [if_pos z1]
      · simp only [in0, wdL, tl, Int64.reduceToInt]
        by_cases z1 : 0 ≤ t.toInt ∧ t.toInt ≤ ((iw * ih - 1 : Nat) : Int)
        · rw [if_neg (not_not_intro z1)]
          by_cases z2 : 0 ≤ x.toInt ∧ x.toInt ≤ ((iw * ih - 1 : Nat) : Int)
          · rw [if_neg (not_not_intro z2)]
            by_cases z3 : -1 ≤ f.toInt ∧ f.toInt ≤ ((iw * ih - 1 : Nat) : Int)
            · rw [if_neg (not_not_intro z3), if_pos (Decidable.byContradiction (fun z => g2 ⟨z1, z2, z3, z⟩))]
            · rw [if_pos z3]
          · rw [if_pos z2]
        · rw [if_pos z1]
  · refine Op.no (-1) ?_ ?_ hM
    · unfold f_X10_hook
      simp only [lies0, Int32.reduceToInt]
      by_cases z1 : 1 ≤ w.toInt ∧ w.toInt ≤ 5
      · rw [if_neg (not_not_intro z1)]
        by_cases z2 : 1 ≤ h.toInt ∧ h.toInt ≤ 5
        · rw [if_neg (not_not_intro z2), if_pos (fun z => g1 ⟨z1, z2, z⟩)]
        · rw [if_pos z2]
      · rw [if_pos z1]
    · unfold f_X11_hook
      simp only [in0, wdL, Int64.reduceToInt]
      by_cases z1 : 1 ≤ w.toInt ∧ w.toInt ≤ 5
      · rw [if_neg (not_not_intro z1)]
        by_cases z2 : 1 ≤ h.toInt ∧ h.toInt ≤ 5
        · rw [if_neg (not_not_intro z2), if_pos (fun z => g1 ⟨z1, z2, z⟩)]
        · rw [if_pos z2]
      · rw [if_pos z1]
