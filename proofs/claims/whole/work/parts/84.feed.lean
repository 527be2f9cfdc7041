/-! the tape is fed -/
set_option maxHeartbeats 200000 in
theorem b_sshr (n : Nat) (hn : n < 32) (x : Int32) {i : Nat} (hi : i < 32) : bt (x >>> (nI n &&& 31)) i = if n + i < 32 then bt x (n + i) else bt x 31 := by
  unfold bt
  rw [Int32.toBitVec_shiftRight]
  show (x.toBitVec.sshiftRight ((nI n &&& 31).toBitVec.smod 32).toNat).getLsbD i = _
  rw [s_l n hn, BitVec.getLsbD_sshiftRight, BitVec.msb_eq_getLsbD_last]
  simp [hi]
set_option maxHeartbeats 200000 in
theorem i8_ext {a b : Int32} (h : ∀ i, i < 8 → bt a i = bt b i) : a.toInt8 = b.toInt8 := by
  apply Int8.toBitVec_inj.mp
  rw [Int32.toBitVec_toInt8, Int32.toBitVec_toInt8]
  apply BitVec.eq_of_getLsbD_eq
  intro i hi
  rw [BitVec.getLsbD_signExtend, BitVec.getLsbD_signExtend]
  have := h i hi
  unfold bt at this
  simp only [show i < 32 by omega, if_true, this]
set_option maxHeartbeats 200000 in
theorem b_255' : ∀ i, i < 32 → bt 255 i = decide (i < 8) := by decide +kernel
set_option maxHeartbeats 200000 in
theorem nar_byte (z : Int32) : vp_nar .byte (z.toInt8.toInt32) = z.toInt8.toInt32 := by
  show (z.toInt8.toInt32).toInt8.toInt32 = _
  rw [Int8.toInt8_toInt32]
set_option maxHeartbeats 200000 in
theorem byte_eq (x : Int32) {sh : Nat} (hs : sh ≤ 24) : ∃ c, c < 256 ∧ (ushr x (nI sh)) &&& 255 = nI c ∧ vp_nar .byte ((x >>> (nI sh &&& 31)).toInt8.toInt32) = (nI c).toInt8.toInt32 := by
  obtain ⟨c, hc, e⟩ := pk_andE (ushr x (nI sh)) (m := 255) 8 rfl
  refine ⟨c, hc, e, ?_⟩
  rw [nar_byte, ← e]
  congr 1
  apply i8_ext
  intro i hi
  rw [b_and, b_255' i (by omega), decide_eq_true hi, Bool.and_true, b_ush x (by omega), b_sshr sh (by omega) x (by omega), if_pos (by omega)]
set_option maxHeartbeats 200000 in
theorem m8s (a : Int32) : a + (-8) = a - 8 := (Int32.sub_eq_add_neg a 8).symm
def Tp (n : Nat) (σ τ : St) : Prop := n ≤ 400 ∧ σ.1 502 = nI n ∧ τ.1 24 = nI n ∧ ∀ i, ∃ c : Nat, c < 256 ∧ σ.2.1 45 i = nI c ∧ τ.2.1 18 i = (nI c).toInt8.toInt32
set_option maxHeartbeats 200000 in
theorem take_loop (x : Int32) : ∀ (r m m' n : Nat) (σ τ : St), r ≤ 4 → r < m → r < m' → n + r ≤ 400 → Tp n σ τ → ∃ σ' τ', f_X4_take_3 x m (nI (8 * r) - 8) σ = some σ' ∧ f_X11_four_3 x m' (nI (8 * r) - 8) τ = some τ' ∧ Tp (n + r) σ' τ' ∧ Fr [502] [45] [] σ σ' ∧ Fr [24] [18] [] τ τ' := by
  intro r
  induction r with
  | zero =>
    intro m m' n σ τ e1 e2 e3 e4 hT
    obtain ⟨m, rfl⟩ : ∃ q, m = q + 1 := ⟨m - 1, by omega⟩
    obtain ⟨m', rfl⟩ : ∃ q, m' = q + 1 := ⟨m' - 1, by omega⟩
    refine ⟨σ, τ, ?_, ?_, hT, Fr.rf, Fr.rf⟩
    · unfold f_X4_take_3; rw [if_pos (by decide)]
    · unfold f_X11_four_3; rw [if_pos (by decide)]
  | succ r ih =>
    intro m m' n σ τ e1 e2 e3 e4 hT
    obtain ⟨m, rfl⟩ : ∃ q, m = q + 1 := ⟨m - 1, by omega⟩
    obtain ⟨m', rfl⟩ : ∃ q, m' = q + 1 := ⟨m' - 1, by omega⟩
    obtain ⟨t1, t2, t3, t4⟩ := hT
    have e8 : (nI (8 * (r + 1)) - 8 : Int32) = nI (8 * r) := pk_sub (b := 8) (by omega)
    obtain ⟨c, c1, c2, c3⟩ := byte_eq x (sh := 8 * r) (by omega)
    have t5 : Tp (n + 1) (sF (sA σ 45 n (nI c)) 502 (nI (n + 1))) (sF (sA τ 18 n ((nI c).toInt8.toInt32)) 24 (nI (n + 1))) := by
      refine ⟨by omega, rfl, rfl, fun i => ?_⟩
      show ∃ c', c' < 256 ∧ upd (σ.2.1 45) n (nI c) i = nI c' ∧ upd (τ.2.1 18) n ((nI c).toInt8.toInt32) i = _
      by_cases z : i = n
      · subst z; exact ⟨c, c1, upd_at _ _ _, upd_at _ _ _⟩
      · rw [upd_ne _ _ z, upd_ne _ _ z]; exact t4 i
    obtain ⟨σ', τ', z1, z2, z3, z4, z5⟩ := ih m m' (n + 1) _ _ (by omega) (by omega) (by omega) (by omega) t5
    rw [show n + 1 + r = n + (r + 1) by omega] at z3
    refine ⟨σ', τ', ?_, ?_, z3, ((Fr.rf.wA (by decide)).wF (by decide)).tr z4, ((Fr.rf.wA (by decide)).wF (by decide)).tr z5⟩
    · unfold f_X4_take_3 f_X4_take_45
      rw [e8, if_neg (nI_pos (by omega)), show gF σ 502 = nI n from t2, if_neg (show ¬ (400 : Int32) ≤ nI n from nI_ge (b := 400) (by omega) (by decide)), c2, wrC_45 (by omega), bS, bndE, bndE, m8s, show gF (sA σ 45 n (nI c)) 502 = nI n from t2, nI_1]
      exact z1
    · unfold f_X11_four_3
      rw [e8, if_neg (nI_pos (by omega)), show gF τ 24 = nI n from t3, c3, wrM_18 (by omega), bS, bndE, bndE, m8s, show gF (sA τ 18 n ((nI c).toInt8.toInt32)) 24 = nI n from t3, nI_1]
      exact z2
set_option maxHeartbeats 200000 in
theorem take_one (x : Int32) {n : Nat} {σ τ : St} (h : n + 4 ≤ 400) (hT : Tp n σ τ) : ∃ σ' τ', f_X4_take x σ = some σ' ∧ f_X11_four x τ = some τ' ∧ Tp (n + 4) σ' τ' ∧ Fr [502] [45] [] σ σ' ∧ Fr [24] [18] [] τ τ' :=
  take_loop x 4 FU FU n σ τ (Nat.le_refl _) (by unfold FU; omega) (by unfold FU; omega) h hT
set_option maxHeartbeats 200000 in
theorem o_feed (a b c d e : Int32) {σ τ : St} (h : M_tap σ τ) : Op (f_X10_feed a b c d e σ) (f_X11_feed a b c d e τ) M_tap ([502], [45], []) ([24], [18], []) σ τ := by
  obtain ⟨n, hn, h1, h2, h3⟩ := id h
  have e1 : (nI n + 20 : Int32) = nI (n + 20) := nI_add n 20
  by_cases hg : n + 20 ≤ 400
  · obtain ⟨s1, t1, p1, q1, r1, u1, v1⟩ := take_one a (n := n) (by omega) ⟨hn, h1, h2, h3⟩
    obtain ⟨s2, t2, p2, q2, r2, u2, v2⟩ := take_one b (by omega) r1
    obtain ⟨s3, t3, p3, q3, r3, u3, v3⟩ := take_one c (by omega) r2
    obtain ⟨s4, t4, p4, q4, r4, u4, v4⟩ := take_one d (by omega) r3
    obtain ⟨s5, t5, p5, q5, r5, u5, v5⟩ := take_one e (by omega) r4
    refine ⟨nI (n + 4 + 4 + 4 + 4 + 4), s5, t5, ?_, ?_, ⟨_, r5.1, r5.2.1, r5.2.2.1, r5.2.2.2⟩, (((u1.tr u2).tr u3).tr u4).tr u5, (((v1.tr v2).tr v3).tr v4).tr v5⟩
    · unfold f_X10_feed f_X4_hasRoomFor
      rw [show gF σ 502 = _ from h1, e1, bndE, if_neg (show ¬ (400 : Int32) < nI (n + 20) from fun z => by have := (nI_ltI (a := 400) (by decide) (by omega)).mp z; omega), if_neg (by decide), p1, bS, p2, bS, p3, bS, p4, bS, p5, bS, show gF s5 502 = _ from r5.2.1]
    · unfold f_X11_feed
      rw [show gF τ 24 = _ from h2, e1, if_pos (show nI (n + 20) ≤ 400 from nI_le (b := 400) hg (by decide)), q1, bS, q2, bS, q3, bS, q4, bS, q5, bS, show gF t5 24 = _ from r5.2.2.1]
  · refine Op.no (-1) ?_ ?_ h
    · unfold f_X10_feed f_X4_hasRoomFor
      rw [show gF σ 502 = _ from h1, e1, bndE, if_pos (show (400 : Int32) < nI (n + 20) from nI_lt (a := 400) (by omega) (by omega)), if_pos (by decide)]
    · unfold f_X11_feed
      rw [show gF τ 24 = _ from h2, e1, if_neg (show ¬ nI (n + 20) ≤ 400 from fun z => by have := (nI_leI (b := 400) (by omega) (by decide)).mp z; omega)]
