/-! the clause that tells -/
def fst1 (g : Nat → Option Nat) : List Nat → Option (Nat × Nat)
  | [] => none
  | s :: t => match g s with
    | some c => some (s, c)
    | none => fst1 g t
set_option maxHeartbeats 200000 in
theorem fst1_mem {g : Nat → Option Nat} : ∀ {l : List Nat} {p : Nat × Nat}, fst1 g l = some p → p.1 ∈ l ∧ g p.1 = some p.2 := by
  intro l
  induction l with
  | nil => intro p h; cases h
  | cons a t ih =>
    intro p h
    unfold fst1 at h
    split at h
    · next c hc => rw [← Option.some.inj h]; exact ⟨List.mem_cons_self .., hc⟩
    · exact ⟨List.mem_cons_of_mem _ (ih h).1, (ih h).2⟩
set_option maxHeartbeats 200000 in
theorem fst1_some {g : Nat → Option Nat} {a c : Nat} {t : List Nat} (h : g a = some c) : fst1 g (a :: t) = some (a, c) := by
  show (match g a with | some c => some (a, c) | none => fst1 g t) = _
  rw [h]
set_option maxHeartbeats 200000 in
theorem fst1_none {g : Nat → Option Nat} {a : Nat} {t : List Nat} (h : g a = none) : fst1 g (a :: t) = fst1 g t := by
  show (match g a with | some c => some (a, c) | none => fst1 g t) = _
  rw [h]
set_option maxHeartbeats 200000 in
theorem fst1_ins0 {g : Nat → Option Nat} {key : Nat → Int} {k : Nat} (hk : g k = none) : ∀ l, fst1 g (ins key k l) = fst1 g l := by
  intro l
  induction l with
  | nil => exact fst1_none hk
  | cons a t ih =>
    unfold ins
    split
    · cases h : g a with
      | none => rw [fst1_none h, fst1_none h, ih]
      | some c => rw [fst1_some h, fst1_some h]
    · rw [fst1_none hk]
set_option maxHeartbeats 200000 in
theorem fst1_ins1 {g : Nat → Option Nat} {key : Nat → Int} {k c : Nat} (hk : g k = some c) : ∀ l, Srd key l → fst1 g (ins key k l) = match fst1 g l with
    | none => some (k, c)
    | some p => if key p.1 ≤ key k then some p else some (k, c) := by
  intro l
  induction l with
  | nil => intro _; exact fst1_some hk
  | cons a t ih =>
    intro hs
    obtain ⟨h1, h2⟩ := List.pairwise_cons.mp hs
    by_cases e : key a ≤ key k
    · rw [show ins key k (a :: t) = a :: ins key k t from if_pos e]
      cases h : g a with
      | none => rw [fst1_none h, fst1_none h, ih h2]
      | some c' =>
        rw [fst1_some h, fst1_some h]
        exact (if_pos e).symm
    · rw [show ins key k (a :: t) = k :: a :: t from if_neg e, fst1_some hk]
      cases h : fst1 g (a :: t) with
      | none => rfl
      | some p =>
        have hp := (fst1_mem h).1
        refine (if_neg ?_).symm
        rcases List.mem_cons.mp hp with z | z
        · rw [z]; exact e
        · have := h1 p.1 z; omega
def tel (fr : Nat → Nat) (g : Nat → Option Nat) : Nat → Option (Nat × Nat)
  | 0 => none
  | n + 1 => match g n with
    | none => tel fr g n
    | some c => match tel fr g n with
      | none => some (n, c)
      | some p => if fr p.1 ≤ fr n then some (n, c) else some p
set_option maxHeartbeats 200000 in
theorem tel_lt {fr : Nat → Nat} {g : Nat → Option Nat} : ∀ {n : Nat} {p : Nat × Nat}, tel fr g n = some p → p.1 < n ∧ g p.1 = some p.2 := by
  intro n
  induction n with
  | zero => intro p h; cases h
  | succ n ih =>
    intro p h
    unfold tel at h
    split at h
    · exact ⟨by have := (ih h).1; omega, (ih h).2⟩
    · next c hc =>
      split at h
      · rw [← Option.some.inj h]; exact ⟨Nat.lt_succ_self _, hc⟩
      · next q hq =>
        split at h
        · rw [← Option.some.inj h]; exact ⟨Nat.lt_succ_self _, hc⟩
        · rw [← Option.some.inj h]; exact ⟨by have := (ih hq).1; omega, (ih hq).2⟩
set_option maxHeartbeats 200000 in
theorem tel_eq {L : List Stt} {g : Nat → Option Nat} : ∀ n, n ≤ 12 → fst1 g (srt (kyL L) n) = tel (fun s => (gS L s).2.1) g n := by
  intro n
  induction n with
  | zero => intro _; rfl
  | succ n ih =>
    intro hn
    have ih := ih (by omega)
    rw [show srt (kyL L) (n + 1) = ins (kyL L) n (srt (kyL L) n) from rfl]
    unfold tel
    cases h : g n with
    | none => rw [fst1_ins0 h, ih]
    | some c =>
      rw [fst1_ins1 h _ (srt_srd _ _), ih]
      cases ht : tel (fun s => (gS L s).2.1) g n with
      | none => rfl
      | some p =>
        have := (tel_lt ht).1
        show (if kyL L p.1 ≤ kyL L n then some p else some (n, c)) = if (gS L p.1).2.1 ≤ (gS L n).2.1 then some (n, c) else some p
        unfold kyL
        by_cases e : (gS L p.1).2.1 ≤ (gS L n).2.1
        · rw [if_pos e, if_neg (by omega)]
        · rw [if_neg e, if_pos (by omega)]
set_option maxHeartbeats 200000 in
theorem slc_len {l : List Int32} {a b : Nat} (h1 : a ≤ b) (h2 : b ≤ l.length) : (slc l a b).length = b - a := by
  unfold slc; rw [List.length_take, List.length_drop]; omega
set_option maxHeartbeats 200000 in
theorem slc_get {l : List Int32} {a b o : Nat} (h : o < b - a) : (slc l a b).getD o 0 = l.getD (a + o) 0 := by
  unfold slc
  rw [List.getD_eq_getElem?_getD, List.getD_eq_getElem?_getD, List.getElem?_take, if_pos h, List.getElem?_drop]
def cv (σ : St) (a3 x y : Nat) : Int64 := match f_X2_valueOf_10 a3 (nI y) FU 0 (nI x) (stL σ 44 (fun _ => 0)) with
  | some r => r.1
  | none => 0
section Tell
variable {σ τ : St} {L : List Stt} {ks : Nat → Nat} {Ln : Nat}
set_option maxHeartbeats 200000 in
theorem ev_sep (H : LawS σ τ L ks Ln) {a3 : Nat} {wd : Nat → Int64} (ha : ∀ σ, lnO tC σ a3 = 9) (hane : a3 ≠ 44) (hw : ∀ k, k < 9 → σ.2.2 a3 k = wd k) (hwM : ∀ k, k < 9 → ∀ B, f_X11_wordNow (nI k) (stL τ 33 B) = some (wd k)) {s a b : Nat} {t : Bool} (hs : s < L.length) (hW : WS (gS L s).2.2.1 a b t) :
    (∀ A, ∃ A', f_X2_valueOf a3 (nI (ks s + a)) (nI (ks s + b)) (stL σ 44 A) = some (cv σ a3 (ks s + a) (ks s + b), stL σ 44 A')) ∧ (∀ B, ∃ B', f_X11_works (nI a) (nI b) (nI s) (stL τ 33 B) = some (cv σ a3 (ks s + a) (ks s + b), stL τ 33 B')) ∧ (t = true → b01 (cv σ a3 (ks s + a) (ks s + b))) := by
  obtain ⟨h1, h2, h3, h4, h5, h6, h7, h8⟩ := H
  obtain ⟨⟨a1, a2, a3', a4, a5⟩, ⟨b1, b2, b3, b4, b5⟩, ⟨c1, c2, c3, c4⟩, d⟩ := h6 s hs
  obtain ⟨w1, w2, w3, w4⟩ := hW
  have hl := slc_len w1 w2
  have key : ∀ A B, ∃ (v : Int64) (A' B' : Nat → Int64), f_X2_valueOf_10 a3 (nI (ks s + b)) FU 0 (nI (ks s + a)) (stL σ 44 A) = some (v, stL σ 44 A') ∧ f_X11_works_12 (nI b) (nI s) FU 0 (nI (420 * s + a)) (stL τ 33 B) = some (v, stL τ 33 B') ∧ (t = true → b01 v) := by
    intro A B
    have := ev_loop (x2 := nI b) (x3 := nI s) ha hane hw hwM h4 h5 (slc (gS L s).2.2.1 a b) [] t (ks s + a) (420 * s + a) FU FU A B (by omega) (by omega) (by rw [show (420 : Int32) * nI s + nI b = nI (420 * s + b) from ixc 420 _ _]; congr 1; omega) (by
      intro o ho
      rw [hl] at ho
      rw [slc_get ho, Nat.add_assoc, Nat.add_assoc]
      exact ⟨a4 (a + o) (by omega), b4 (a + o) (by omega)⟩) w3 trivial (by rw [List.length_nil]; omega) (by unfold FU; omega) (by unfold FU; omega)
    rw [show ks s + a + (slc (gS L s).2.2.1 a b).length = ks s + b by omega] at this
    exact this
  obtain ⟨v, A1, B1, k1, k2, k3⟩ := key (fun _ => 0) (fun _ => 0)
  have hcv : cv σ a3 (ks s + a) (ks s + b) = v := by unfold cv; rw [k1]
  rw [hcv]
  refine ⟨fun A => ?_, fun B => ?_, k3⟩
  · obtain ⟨v', A', B', j1, j2, j3⟩ := key A (fun _ => 0)
    have e : v' = v := by
      have := j2.symm.trans k2
      exact congrArg Prod.fst (Option.some.inj this)
    refine ⟨A', ?_⟩
    unfold f_X2_valueOf
    rw [bndE, show f_J9_max_7cf53 0 (nI (ks s + a)) = nI (ks s + a) by rw [← mx32, if_pos (show (0 : Int32) ≤ nI (ks s + a) from nI_le (a := 0) (Nat.zero_le _) (by omega))], j1, e]
  · obtain ⟨v', A', B', j1, j2, j3⟩ := key (fun _ => 0) B
    have e : v' = v := by
      have := j1.symm.trans k1
      exact congrArg Prod.fst (Option.some.inj this)
    refine ⟨B', ?_⟩
    unfold f_X11_works
    rw [bndE, show (420 : Int32) * nI s + nI a = nI (420 * s + a) from ixc 420 _ _, j2, e]
end Tell
