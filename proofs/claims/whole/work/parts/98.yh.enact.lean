/-! the class enacts -/
set_option maxHeartbeats 200000 in
theorem sfN_le (L : List Stt) (s : Nat) : ∀ n, sfN L s n ≤ 9000 := by
  intro n
  induction n with
  | zero => exact Nat.le_refl _
  | succ n ih => unfold sfN; split <;> omega
set_option maxHeartbeats 200000 in
theorem enactC {σ : St} {L : List Stt} {S : Stt} {k K' m : Nat} {x1 : Int32} (hLk : L.length = k) (hk : k < 12) (h4 : σ.1 400 = nI k) (h8 : σ.1 408 = nI K') (hS : S.2.1 = m) (hm : m ≤ 8999) (h33 : ∀ s, s < k → σ.2.1 33 s = nI (gS L s).2.1 ∧ (gS L s).2.1 ≤ 8999) (h35 : Rp (σ.2.1 35) (srt (kyL L) k)) (h34 : ∀ s, s < k → σ.2.1 34 s = nI (sfN L s k)) (hC : S.2.2.2.length ≤ 12) (h36 : σ.2.1 36 k = nI S.2.2.2.length) (h38 : ∀ c, c < S.2.2.2.length → σ.2.1 38 (12 * k + c) = nI (gC S c).1 ∧ σ.2.1 39 (12 * k + c) = (gC S c).2.1 ∧ (gC S c).1 ≤ 7 ∧ ((gC S c).1 = 7 → ∃ N, N < k ∧ (gC S c).2.1 = nI N)) (hw : ∀ j, j ≤ k → wf1 j (gS (L ++ [S]) j)) : ∃ σ', f_X2_enact x1 (nI m) σ = some (nI k, σ') ∧ Fr [400, 407] [32, 33, 34, 35] [] σ σ' ∧ σ'.1 400 = nI (k + 1) ∧ σ'.1 407 = nI K' ∧ (∀ s, s < k → σ'.2.1 32 s = σ.2.1 32 s ∧ σ'.2.1 33 s = σ.2.1 33 s) ∧ σ'.2.1 32 k = x1 ∧ σ'.2.1 33 k = nI m ∧ Rp (σ'.2.1 35) (srt (kyL (L ++ [S])) (k + 1)) ∧ ∀ s, s < k + 1 → σ'.2.1 34 s = nI (sfN (L ++ [S]) s (k + 1)) := by
  subst hLk
  have hnew : (gS (L ++ [S]) L.length).2.1 = m := by rw [gS_new]; exact hS
  have hkey : srt (kyL (L ++ [S])) L.length = srt (kyL L) L.length := srt_congr L.length (fun a ha => by unfold kyL; rw [gS_old ha])
  have hsl : (srt (kyL (L ++ [S])) L.length).length = L.length := srt_len _ _
  have hfr : ∀ a, a ≤ L.length → (gS (L ++ [S]) a).2.1 ≤ 8999 := fun a ha => (hw a ha).1
  generalize e18 : sF (sA (sA (sA σ 32 L.length x1) 33 L.length (nI m)) 34 L.length 9000) 407 (nI K') = σ18
  have c4 : σ18.1 400 = nI L.length := by rw [← e18]; exact h4
  have c33 : ∀ a, a < L.length → σ18.2.1 33 a = nI (gS (L ++ [S]) a).2.1 := fun a ha => by
    rw [← e18, gS_old ha]
    show upd (σ.2.1 33) L.length (nI m) a = _
    rw [upd_ne _ _ (by omega)]; exact (h33 a ha).1
  have c35 : σ18.2.1 35 = σ.2.1 35 := by rw [← e18]; rfl
  obtain ⟨A1, p1, p2⟩ := putL (σ := σ18) (fr := fun a => (gS (L ++ [S]) a).2.1) (l := srt (kyL (L ++ [S])) L.length) (k := L.length) hk c4 (fun a ha => (srt_mem _ _ _).mp ha) (by omega) hfr c33 (srt_srd (kyL (L ++ [S])) L.length) L.length FU (σ18.2.1 35) (by omega) (by unfold FU; omega) (by have z : Rp (σ18.2.1 35) (srt (kyL (L ++ [S])) L.length) := by { rw [hkey, c35]; exact h35 }; have z2 := ShI.of z; rw [hsl] at z2; exact z2) (fun i d1 d2 => absurd d2 (by omega))
  rw [stA_same σ18 35] at p1
  have p1 : f_X2_putInOrder_5 (nI m) FU (nI L.length) σ18 = some (stA σ18 35 A1) := by rw [← hnew]; exact p1
  have p2 : Rp A1 (srt (kyL (L ++ [S])) (L.length + 1)) := p2
  generalize e19 : stA σ18 35 A1 = σ19 at p1
  have d4 : σ19.1 400 = nI L.length := by rw [← e19]; exact c4
  have d34 : σ19.2.1 34 = upd (σ.2.1 34) L.length 9000 := by rw [← e19, ← e18]; rfl
  have d36 : σ19.2.1 36 = σ.2.1 36 := by rw [← e19, ← e18]; rfl
  have d38 : σ19.2.1 38 = σ.2.1 38 := by rw [← e19, ← e18]; rfl
  have d39 : σ19.2.1 39 = σ.2.1 39 := by rw [← e19, ← e18]; rfl
  obtain ⟨A2, s1, s2, s3⟩ := strikeL (σ := σ19) (S := S) hk d4 hm hC (by rw [d36]; exact h36) (fun c hc => by rw [d38, d39]; exact h38 c hc) S.2.2.2.length 0 FU (σ19.2.1 34) (fun s => sfN L s L.length) (by omega) (by unfold FU; omega) (fun s hs => ⟨by rw [d34, upd_ne _ _ (by omega)]; exact h34 s hs, sfN_le _ _ _⟩)
  rw [stA_same σ19 34] at s1
  have s1 : f_X2_strikeOthers_10 (nI m) (nI (12 * L.length)) FU (nI (12 * L.length)) σ19 = some (stA σ19 34 A2) := s1
  have fr1 : Fr [400, 407] [32, 33, 34, 35] [] σ σ18 := by rw [← e18]; exact (((Fr.rf.wA (by decide)).wA (by decide)).wA (by decide)).wF (by decide)
  have fr2 : Fr [400, 407] [32, 33, 34, 35] [] σ (sF (stA σ19 34 A2) 400 (nI (L.length + 1))) := by
    rw [← e19]
    exact ((fr1.wSA (by decide)).wSA (by decide)).wF (by decide)
  refine ⟨sF (stA σ19 34 A2) 400 (nI (L.length + 1)), ?_, fr2, rfl, ?_, fun s hs => ?_, ?_, ?_, ?_, fun s hs => ?_⟩
  · unfold f_X2_enact f_X2_putInOrder f_X2_strikeOthers
    rw [show gF σ 400 = _ from h4, if_pos (show nI L.length < 12 from nI_lt (b := 12) hk (by decide)), wrC_32 (by omega), bS, show gF (sA σ 32 L.length x1) 400 = _ from h4, wrC_33 (by omega), bS, show gF (sA (sA σ 32 L.length x1) 33 L.length (nI m)) 400 = _ from h4, wrC_34 (by omega), bS, show gF (sA (sA (sA σ 32 L.length x1) 33 L.length (nI m)) 34 L.length 9000) 408 = _ from h8, bndE, e18, bndE, show gF σ18 400 = _ from c4, p1, bS, bndE, show gF σ19 400 = _ from d4, show nI L.length * 12 = nI (12 * L.length) from by rw [show (12 : Int32) = nI 12 from rfl, pk_mul, Nat.mul_comm], s1, bS, bndE, show gF (stA σ19 34 A2) 400 = _ from d4, show nI L.length + 1 = nI (L.length + 1) from nI_add _ 1, show gF (sF (stA σ19 34 A2) 400 (nI (L.length + 1))) 400 = nI (L.length + 1) from rfl, nI_pred]
  · show σ19.1 407 = _
    rw [← e19, ← e18]; rfl
  · show σ19.2.1 32 s = _ ∧ σ19.2.1 33 s = _
    rw [← e19, ← e18]
    exact ⟨upd_ne _ _ (by omega), upd_ne _ _ (by omega)⟩
  · show σ19.2.1 32 L.length = _
    rw [← e19, ← e18]; exact upd_at _ _ _
  · show σ19.2.1 33 L.length = _
    rw [← e19, ← e18]; exact upd_at _ _ _
  · show Rp (σ19.2.1 35) _
    rw [← e19]; exact p2
  · show A2 s = _
    by_cases e : s = L.length
    · rw [e, s3 _ (Nat.le_refl _), d34, upd_at, sf_self (s := L.length) (by omega) hw (L.length + 1) (Nat.le_refl _)]; rfl
    · rw [s2 s (by omega), sf_app, hS]; rfl
