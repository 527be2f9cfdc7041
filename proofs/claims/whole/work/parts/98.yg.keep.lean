/-! what a reading leaves as it was; where it begins -/
set_option maxHeartbeats 200000 in
theorem rC1.kp {σ σ' : St} {s kk K k : Nat} {S : Stt} (h : rC1 σ s kk S) (hs : s < k) (hl : S.2.2.2.length ≤ 12) (hK : kk + S.2.2.1.length ≤ K) (e32 : σ'.2.1 32 s = σ.2.1 32 s) (e33 : σ'.2.1 33 s = σ.2.1 33 s) (e36 : σ'.2.1 36 s = σ.2.1 36 s) (e37 : ∀ i, i < K → σ'.2.1 37 i = σ.2.1 37 i) (lo : Lo (12 * k) σ σ') : rC1 σ' s kk S := by
  obtain ⟨a1, a2, a3, a4, a5⟩ := h
  refine ⟨e32.trans a1, e33.trans a2, e36.trans a3, fun o ho => (e37 _ (by omega)).trans (a4 o ho), fun c hc => ?_⟩
  obtain ⟨b1, b2, b3, b4, b5, b6⟩ := lo (12 * s + c) (by omega)
  obtain ⟨c1, c2, c3, c4, c5, c6⟩ := a5 c hc
  exact ⟨b1.trans c1, b2.trans c2, b3.trans c3, b4.trans c4, b5.trans c5, b6.trans c6⟩
set_option maxHeartbeats 200000 in
theorem rM1.kp {τ τ' : St} {s k : Nat} {S : Stt} (h : rM1 τ s S) (hs : s < k) (hl : S.2.2.2.length ≤ 12) (hc : S.2.2.1.length ≤ 400) (e19 : τ'.2.1 19 s = τ.2.1 19 s) (e20 : τ'.2.1 20 s = τ.2.1 20 s) (e21 : τ'.2.1 21 s = τ.2.1 21 s) (lo : LoM (12 * k) τ τ') (e28 : ∀ i, i < 420 * k → τ'.2.1 28 i = τ.2.1 28 i ∧ τ'.2.1 29 i = τ.2.1 29 i) : rM1 τ' s S := by
  obtain ⟨a1, a2, a3, a4, a5⟩ := h
  refine ⟨e19.trans a1, e20.trans a2, e21.trans a3, fun o ho => ?_, fun c hc => ?_⟩
  · obtain ⟨b1, b2⟩ := e28 (420 * s + o) (by omega)
    exact ⟨b1.trans (a4 o ho).1, b2.trans (a4 o ho).2⟩
  · obtain ⟨b1, b2, b3, b4, b5, b6⟩ := lo (12 * s + c) (by omega)
    obtain ⟨c1, c2, c3, c4, c5, c6⟩ := a5 c hc
    exact ⟨b1.trans c1, b2.trans c2, b6.trans c3, b3.trans c4, b4.trans c5, b5.trans c6⟩
section BR
variable {σ : St} {k K Ln : Nat}
set_option maxHeartbeats 200000 in
theorem begR (h4 : σ.1 400 = nI k) (hk : k < 12) (h7 : σ.1 407 = nI K) (hL : σ.1 3799 = nI Ln) (hKL : K ≤ Ln) (hK : K ≤ 4400) (hL2 : Ln ≤ 5200) : ∃ (σ' : St) (Ln' : Nat), f_X2_beginReading (sF (sF (sF σ 503 0) 508 0) 509 0) = some σ' ∧ (σ'.1 503 = nI 0 ∧ σ'.1 508 = nI 0 ∧ σ'.1 509 = 0 ∧ σ'.1 408 = nI K ∧ σ'.1 3799 = nI Ln') ∧ (K + 400 ≤ Ln' ∧ Ln' ≤ 5200) ∧ σ'.2.1 36 k = nI 0 ∧ Fr [408, 503, 508, 509, 3799] [36, 37] [] σ σ' ∧ (∀ i, i < K → σ'.2.1 37 i = σ.2.1 37 i) ∧ ∀ i, i < k → σ'.2.1 36 i = σ.2.1 36 i := by
  have hl : lnO tC (sF (sF (sF (sF σ 503 0) 508 0) 509 0) 408 (nI K)) 37 = Ln := by show (σ.1 3799).toNatClampNeg = Ln; rw [hL, nI_clamp (by omega)]
  have hle : lenI tC (sF (sF (sF (sF σ 503 0) 508 0) 509 0) 408 (nI K)) 37 = nI Ln := by unfold lenI; rw [hl]; rfl
  have e47 : ∀ σ1 : St, σ1.1 400 = nI k → f_X2_beginReading_47 σ1 = some (sA σ1 36 k 0) := by
    intro σ1 z
    unfold f_X2_beginReading_47
    rw [show gF σ1 400 = _ from z, if_neg (CK.lt12 hk), wrC_36 (by omega), bS]
  unfold f_X2_beginReading
  rw [show gF (sF (sF (sF σ 503 0) 508 0) 509 0) 407 = _ from h7, bndE, show gF (sF (sF (sF (sF σ 503 0) 508 0) 509 0) 408 (nI K)) 407 = _ from h7, hle, show nI K + 400 = nI (K + 400) from nI_add _ 400]
  by_cases c : K + 400 ≤ Ln
  · rw [if_pos (nI_le c (by omega)), e47 (sF (sF (sF (sF σ 503 0) 508 0) 509 0) 408 (nI K)) h4]
    exact ⟨_, Ln, rfl, ⟨rfl, rfl, rfl, rfl, hL⟩, ⟨c, hL2⟩, upd_at _ _ _, ((((Fr.rf.wF (by decide)).wF (by decide)).wF (by decide)).wF (by decide)).wA (by decide), fun _ _ => rfl, fun i hi => upd_ne _ _ (by omega)⟩
  · have mx : f_J9_max_7cf53 0 (nI K) = nI K := by rw [← mx32, if_pos (show (0 : Int32) ≤ nI K from nI_le (a := 0) (Nat.zero_le _) (by omega))]
    have gr : growC (sF (sF (sF (sF σ 503 0) 508 0) 509 0) 408 (nI K)) (nI (K + 400)) = some (grown (sF (sF (sF (sF σ 503 0) 508 0) 509 0) 408 (nI K)) (nI (K + 400))) := by
      unfold growC
      rw [if_neg]
      · rfl
      · rintro (z | z | z)
        · rw [nI_lt0 (by omega)] at z; exact z
        · rw [nI_clamp (by omega)] at z; omega
        · rw [hle, nI_eqE (by omega) (by omega)] at z; omega
    rw [if_neg (nI_ge (by omega) (by omega)), mx, show nI K + 400 = nI (K + 400) from nI_add _ 400, gr, bS, e47 (grown (sF (sF (sF (sF σ 503 0) 508 0) 509 0) 408 (nI K)) (nI (K + 400))) h4]
    have f1 : Fr [408, 503, 508, 509, 3799] [36, 37] [] (sF (sF (sF (sF σ 503 0) 508 0) 509 0) 408 (nI K)) (grown (sF (sF (sF (sF σ 503 0) 508 0) 509 0) 408 (nI K)) (nI (K + 400))) := ⟨fun j hj => if_neg (fun z => hj (by rw [z]; decide)), fun j hj => if_neg (fun z => hj (by rw [z]; decide)), fun _ _ => rfl⟩
    refine ⟨_, K + 400, rfl, ⟨rfl, rfl, rfl, rfl, rfl⟩, ⟨Nat.le_refl _, by omega⟩, upd_at _ _ _, (Fr.tr ((((Fr.rf.wF (by decide)).wF (by decide)).wF (by decide)).wF (by decide)) f1).wA (by decide), fun i hi => ?_, fun i hi => upd_ne _ _ (by omega)⟩
    show va_cpy (σ.2.1 37) (fun _ => 0) 0 0 (Min.min (lnO tC (sF (sF (sF (sF σ 503 0) 508 0) 509 0) 408 (nI K)) 37) (nI (K + 400)).toNatClampNeg) i = _
    rw [hl, nI_clamp (by omega)]
    exact sb_cpy0 (show i < min Ln (K + 400) by omega)
end BR
section ST
variable {T : Nat → Nat} {n k : Nat}
set_option maxHeartbeats 200000 in
theorem text_ok (hT : ∀ i, T i < 256) {own : Nat → Bool} : ∀ (kk : Nat) (c c' : CS), TxI n own c → aText T n own kk c = .inr c' → TxI n own c' := by
  intro kk
  induction kk with
  | zero => intro c c' i e; cases e; exact i
  | succ kk ih =>
    intro c c' i e
    have e : (match aClause T n own c with
      | .inl f => .inl f
      | .inr c1 => if sym T n c1.1.1 59 = true then aText T n own kk (stp T n c1.1, c1.2) else if c1.1.1 < n then .inl (1 + 8 * c1.1.1 + 0) else .inr c1 : CT) = .inr c' := e
    cases ec : aClause T n own c with
    | inl f => rw [ec] at e; cases e
    | inr c1 =>
      rw [ec] at e
      obtain ⟨i', -⟩ := i.step hT ec
      have e : (if sym T n c1.1.1 59 = true then aText T n own kk (stp T n c1.1, c1.2) else if c1.1.1 < n then .inl (1 + 8 * c1.1.1 + 0) else .inr c1 : CT) = .inr c' := e
      by_cases q : sym T n c1.1.1 59 = true
      · rw [if_pos q] at e
        have nb := nx_b (T := T) (n := n) i'.1.1
        exact ih (stp T n c1.1, c1.2) c' ⟨⟨nb.1, Nat.le_trans i'.1.2.1 nb.2.1, i'.1.2.2⟩, i'.2.1, i'.2.2⟩ e
      · rw [if_neg q] at e
        by_cases q2 : c1.1.1 < n
        · rw [if_pos q2] at e; cases e
        · rw [if_neg q2] at e; cases e; exact i'
set_option maxHeartbeats 200000 in
theorem readC {σ : St} {K Ln : Nat} {x1 : Int32} (hC : TpC T n σ) (h4 : σ.1 400 = nI k) (hk : k < 12) (h7 : σ.1 407 = nI K) (hL : σ.1 3799 = nI Ln) (hKL : K ≤ Ln) (hK : K ≤ 4400) (hL2 : Ln ≤ 5200) {own : Nat → Bool} (hown : ∀ σ', σ'.1 400 = σ.1 400 → σ'.2.1 32 = σ.2.1 32 → ∀ N, N < 100000000 → f_X2_isOf (nI N) x1 σ' = some (if own N = true then 1 else 0)) : ∃ (σb : St) (Ln' : Nat), (K + 400 ≤ Ln' ∧ Ln' ≤ 5200) ∧ (Fr [408, 503, 508, 509, 3799] [36, 37] [] σ σb ∧ (∀ i, i < K → σb.2.1 37 i = σ.2.1 37 i) ∧ ∀ i, i < k → σb.2.1 36 i = σ.2.1 36 i) ∧ RT T n K Ln' k σb (f_X4_read x1 σ) (aText T n own 13 ((ev T n isSp 0, 0, []), [])) := by
  obtain ⟨σb, Ln', b1, ⟨b2, b3, b4, b5, b6⟩, b7, b8, b9, b10, b11⟩ := begR h4 hk h7 hL hKL hK hL2
  have hT := hC.2.2.1
  have tb : TpC T n σb := hC.fr b9 (by decide)
  obtain ⟨σ1, a1, a2, a3⟩ := advC tb b2 (Nat.zero_le _)
  have ge := (ev_ge (T := T) (n := n) (q := isSp) (n - 0) 0 rfl).2.1 (Nat.zero_le _)
  refine ⟨σb, Ln', b7, ⟨b9, b10, b11⟩, ?_⟩
  have ck : CK T n K Ln' k σb σ1 (ev T n isSp 0, 0, []) [] := by
    refine ⟨⟨tb.fr a3 (by decide), a2, ge, (a3.1 508 (by decide)).trans b3, (a3.1 509 (by decide)).trans b4, (a3.1 408 (by decide)).trans b5, (a3.1 3799 (by decide)).trans b6, fun o ho => absurd ho (Nat.not_lt_zero _), Fr.rf, fun _ _ => rfl⟩, ((a3.1 400 (by decide)).trans (b9.1 400 (by decide))).trans h4, hk, by rw [a3.2.1 36 (by decide)]; exact b8, fun c hc => absurd hc (Nat.not_lt_zero _), a3.up (by decide), fun i _ => by rw [a3.2.1 37 (by decide)], fun i _ => by rw [a3.2.1 36 (by decide)], ?_⟩
    intro i _
    rw [a3.2.1 38 (by decide), a3.2.1 39 (by decide), a3.2.1 40 (by decide), a3.2.1 41 (by decide), a3.2.1 42 (by decide), a3.2.1 43 (by decide)]
    exact ⟨rfl, rfl, rfl, rfl, rfl, rfl⟩
  have tx : TxI n own ((ev T n isSp 0, 0, []), []) := ⟨⟨ge, Nat.zero_le _, Nat.zero_le _⟩, Nat.zero_le _, fun C hC => by cases hC⟩
  have st : f_X4_read x1 σ = (f_X4_readClause x1 σ1).bind (f_X4_read_33 x1 FU (nI 0)) := by
    unfold f_X4_read f_X4_read_22
    rw [bndE, bndE, bndE, b1, bS, a1, bS]; rfl
  rw [st]
  exact textC (own := own) hT (by omega) b7.1 (fun σ' z1 z2 => hown σ' (z1.trans (b9.1 400 (by decide))) (z2.trans (b9.2.1 32 (by decide)))) 12 FU ((ev T n isSp 0, 0, []), []) σ1 rfl (by unfold FU; omega) ck tx
set_option maxHeartbeats 200000 in
theorem readM {τ : St} {x1 : Int32} (hM : TpM T n τ) (h5 : τ.1 25 = nI k) (hk : k < 12) (hc : CnM τ) : ∃ τb : St, (sA (sF (sF (sF (sF (sF (sF τ 38 0) 39 0) 41 0) 42 0) 43 0) 35 0) 21 k 0 = τb) ∧ Fr [35, 38, 39, 41, 42, 43] [21] [] τ τb ∧ (∀ i, i < k → τb.2.1 21 i = τ.2.1 21 i) ∧ RM T n k τb (f_X11_text x1 τb) (aText T n (ownM k τb x1) 13 ((ev T n isSp 0, 0, []), [])) := by
  have hT := hM.2.2.1
  have f1 : Fr [35, 38, 39, 41, 42, 43] [21] [] τ (sA (sF (sF (sF (sF (sF (sF τ 38 0) 39 0) 41 0) 42 0) 43 0) 35 0) 21 k 0) := ((((((Fr.rf.wF (by decide)).wF (by decide)).wF (by decide)).wF (by decide)).wF (by decide)).wF (by decide)).wA (by decide)
  have ge := (ev_ge (T := T) (n := n) (q := isSp) (n - 0) 0 rfl).2.1 (Nat.zero_le _)
  refine ⟨_, rfl, f1, fun i hi => upd_ne _ _ (by omega), ?_⟩
  generalize hτ : sA (sF (sF (sF (sF (sF (sF τ 38 0) 39 0) 41 0) 42 0) 43 0) 35 0) 21 k 0 = τb at f1
  have mj : MJ T n k τb τb 0 (ev T n isSp 0, 0, []) [] 0 := by
    refine ⟨⟨hM.fr f1 (by decide), ⟨Nat.zero_le _, by rw [← hτ]; rfl, rfl⟩, ⟨by rw [← hτ]; rfl, by rw [← hτ]; rfl, by rw [← hτ]; rfl, by rw [← hτ]; rfl, by rw [← hτ]; rfl, (f1.1 25 (by decide)).trans h5⟩, ⟨Nat.zero_le _, hk, Nat.zero_le _⟩, trivial, fun o ho => absurd ho (Nat.not_lt_zero _), Fr.rf, fun _ _ => ⟨rfl, rfl⟩⟩, by rw [← hτ]; exact upd_at _ _ _, fun c hc => absurd hc (Nat.not_lt_zero _), Fr.rf, fun _ _ => rfl, fun _ _ => ⟨rfl, rfl, rfl, rfl, rfl, rfl⟩, fun _ _ => ⟨rfl, rfl⟩⟩
  have tx : TxI n (ownM k τb x1) ((ev T n isSp 0, 0, []), []) := ⟨⟨ge, Nat.zero_le _, Nat.zero_le _⟩, Nat.zero_le _, fun C hC => by cases hC⟩
  have hc' : CnM τb := by
    unfold CnM at hc ⊢
    rw [f1.2.2 31 (by decide), f1.2.2 32 (by decide)]
    exact hc
  exact textM hc' hT 13 FU ((ev T n isSp 0, 0, []), []) 0 τb rfl (by unfold FU; omega) mj tx
end ST
