/-! words on the tape, reference -/
set_option maxHeartbeats 200000 in
theorem shl8 {a c : Nat} (ha : a < 281474976710656) (hc : c < 256) : lshl_ (Int64.ofNat a) 8 ||| Int64.ofNat c = Int64.ofNat (256 * a + c) := by
  unfold lshl_
  apply Int64.toBitVec_inj.mp
  rw [show ((8 : Int32).toInt64 &&& 63) = (8 : Int64) from by decide, Int64.toBitVec_or, Int64.toBitVec_shiftLeft, show ((8 : Int64).toBitVec.smod 64) = 8#64 from by decide]
  apply BitVec.eq_of_toNat_eq
  show ((BitVec.ofNat 64 a <<< 8#64) ||| BitVec.ofNat 64 c).toNat = (BitVec.ofNat 64 (256 * a + c)).toNat
  rw [BitVec.toNat_or, BitVec.shiftLeft_eq', BitVec.toNat_shiftLeft, show (BitVec.ofNat 64 a).toNat = a from Nat.mod_eq_of_lt (show a < 2 ^ 64 by omega), show (BitVec.ofNat 64 c).toNat = c from Nat.mod_eq_of_lt (show c < 2 ^ 64 by omega), show (BitVec.ofNat 64 (256 * a + c)).toNat = 256 * a + c from Nat.mod_eq_of_lt (show 256 * a + c < 2 ^ 64 by omega), show (8#64).toNat = 8 from rfl, Nat.shiftLeft_eq, Nat.mod_eq_of_lt (show a * 2 ^ 8 < 2 ^ 64 by omega)]
  rw [show a * 2 ^ 8 = 2 ^ 8 * a from Nat.mul_comm _ _, ← Nat.two_pow_add_eq_or_of_lt (show c < 2 ^ 8 by omega)]
def pkr : List Nat → Nat
  | [] => 0
  | c :: t => c + 256 * pkr t
set_option maxHeartbeats 200000 in
theorem pkr_inj : ∀ (a b : List Nat), (∀ c ∈ a, 0 < c ∧ c < 256) → (∀ c ∈ b, 0 < c ∧ c < 256) → pkr a = pkr b → a = b := by
  intro a
  induction a with
  | nil =>
    intro b _ hb h
    cases b with
    | nil => rfl
    | cons d t => have := hb d (List.mem_cons_self ..); have h : 0 = d + 256 * pkr t := h; omega
  | cons c s ih =>
    intro b ha hb h
    have hc := ha c (List.mem_cons_self ..)
    cases b with
    | nil => have h : c + 256 * pkr s = 0 := h; omega
    | cons d t =>
      have hd := hb d (List.mem_cons_self ..)
      have h : c + 256 * pkr s = d + 256 * pkr t := h
      have e : c = d := by omega
      rw [e, ih t (fun z hz => ha z (List.mem_cons_of_mem _ hz)) (fun z hz => hb z (List.mem_cons_of_mem _ hz)) (by omega)]
def rv (T : Nat → Nat) (p : Nat) : Nat → List Nat
  | 0 => []
  | k + 1 => T (p + k) :: rv T p k
def tl (T : Nat → Nat) : Nat → Nat → List Nat
  | _, 0 => []
  | p, k + 1 => T p :: tl T (p + 1) k
set_option maxHeartbeats 200000 in
theorem rv_s (T : Nat → Nat) : ∀ k p, rv T p (k + 1) = rv T (p + 1) k ++ [T p] := by
  intro k
  induction k with
  | zero => intro p; rfl
  | succ k ih =>
    intro p
    show T (p + (k + 1)) :: rv T p (k + 1) = T (p + 1 + k) :: rv T (p + 1) k ++ [T p]
    rw [ih, show p + (k + 1) = p + 1 + k by omega]; rfl
set_option maxHeartbeats 200000 in
theorem rv_tl (T : Nat → Nat) : ∀ k p, rv T p k = (tl T p k).reverse := by
  intro k
  induction k with
  | zero => intro p; rfl
  | succ k ih =>
    intro p
    rw [rv_s, ih, show tl T p (k + 1) = T p :: tl T (p + 1) k from rfl, List.reverse_cons]
set_option maxHeartbeats 200000 in
theorem tl_eq (T : Nat → Nat) : ∀ (ws : List Nat) (p : Nat), (tl T p ws.length = ws) ↔ eqW T p ws = true := by
  intro ws
  induction ws with
  | nil => intro p; exact ⟨fun _ => rfl, fun _ => rfl⟩
  | cons c t ih =>
    intro p
    show (T p :: tl T (p + 1) t.length = c :: t) ↔ (decide (T p = c) && eqW T (p + 1) t) = true
    rw [Bool.and_eq_true_iff, decide_eq_true_iff, ← ih (p + 1), List.cons.injEq]
set_option maxHeartbeats 200000 in
theorem tl_len (T : Nat → Nat) : ∀ k p, (tl T p k).length = k := by
  intro k
  induction k with
  | zero => intro p; rfl
  | succ k ih => intro p; show (tl T (p + 1) k).length + 1 = _; rw [ih]
set_option maxHeartbeats 200000 in
theorem pkr_lt : ∀ (l : List Nat), (∀ c ∈ l, c < 256) → pkr l < 256 ^ l.length := by
  intro l
  induction l with
  | nil => intro _; exact Nat.one_pos
  | cons c t ih =>
    intro h
    have h1 := h c (List.mem_cons_self ..)
    have h2 := ih (fun z hz => h z (List.mem_cons_of_mem _ hz))
    show c + 256 * pkr t < 256 ^ (t.length + 1)
    rw [Nat.pow_succ]
    omega
def WdM (code : Nat) (ws : List Nat) : Prop := 0 < ws.length ∧ ws.length < 8 ∧ (∀ c ∈ ws, 0 < c ∧ c < 256) ∧ code = pkr ws.reverse
section WM
variable {T : Nat → Nat} {n : Nat}
set_option maxHeartbeats 200000 in
theorem rv_len (k p : Nat) : (rv T p k).length = k := by rw [rv_tl, List.length_reverse, tl_len]
set_option maxHeartbeats 200000 in
theorem isW_10 {τ : St} (h : TpM T n τ) {p : Nat} (e : τ.1 38 = nI p) (code : Int64) : ∀ (k i f : Nat), n - (p + i) = k → p + i ≤ n → k < f → (∀ j, j < i → isLo (T (p + j)) = true) → ev T n isLo p = ev T n isLo (p + i) → f_X11_isWord_10 code τ f (Int64.ofNat (pkr (rv T p (min i 7)))) (nI i) = f_X11_isWord_90 code (Int64.ofNat (pkr (rv T p (min (ev T n isLo p - p) 7)))) (nI (ev T n isLo p - p)) τ := by
  have h1 := h.1
  intro k
  induction k with
  | zero =>
    intro i f hk hp hf hl hev
    obtain ⟨f, rfl⟩ : ∃ q, f = q + 1 := ⟨f - 1, by omega⟩
    rw [hev, ev_no (by omega), show p + i - p = i by omega]
    unfold f_X11_isWord_10
    rw [show gF τ 24 = _ from h.2.1, show gF τ 38 = _ from e, show nI p + nI i = nI (p + i) from nI_add _ _, if_pos (by rw [nI_leE (by omega) (by omega)]; omega)]
  | succ k ih =>
    intro i f hk hp hf hl hev
    obtain ⟨f, rfl⟩ : ∃ q, f = q + 1 := ⟨f - 1, by omega⟩
    have hT := h.2.2.1 (p + i)
    have l1 : (b8 (T (p + i)) < 97) = (128 ≤ T (p + i) ∨ T (p + i) < 97) := b8_lt (k := 97) hT (by omega)
    have l2 : (122 < b8 (T (p + i))) = (T (p + i) < 128 ∧ 122 < T (p + i)) := b8_gt (k := 122) hT (by omega)
    rw [show f_X11_isWord_10 code τ (f + 1) (Int64.ofNat (pkr (rv T p (min i 7)))) (nI i) = _ from rfl]
    unfold f_X11_isWord_10 f_X11_isWord_84
    rw [show gF τ 24 = _ from h.2.1, show gF τ 38 = _ from e, show nI p + nI i = nI (p + i) from nI_add _ _, if_neg (by rw [nI_leE (by omega) (by omega)]; omega), rdM_18 (by omega), bS, bS, bS, h.2.2.2]
    by_cases d : isLo (T (p + i)) = true
    · have d' : 97 ≤ T (p + i) ∧ T (p + i) ≤ 122 := of_decide_eq_true d
      rw [if_neg (by rw [l1]; omega), if_neg (by rw [l2]; omega), bndE, bndE, bndE, show nI i + 1 = nI (i + 1) from nI_add _ 1]
      have hev' : ev T n isLo p = ev T n isLo (p + (i + 1)) := hev.trans (ev_go (show p + i < n by omega) d)
      have ih := ih (i + 1) f (by omega) (by omega) (by omega) (fun j hj => by
        by_cases q : j = i
        · rw [q]; exact d
        · exact hl j (by omega)) hev'
      by_cases c7 : 7 ≤ i
      · rw [if_pos (show (7 : Int32) ≤ nI i from nI_le (a := 7) c7 (by omega))]
        rw [show min (i + 1) 7 = 7 by omega] at ih
        rw [show min i 7 = 7 by omega]
        exact ih
      · rw [if_neg (show ¬ (7 : Int32) ≤ nI i from by rw [show (7 : Int32) = nI 7 from rfl, nI_leE (by omega) (by omega)]; omega)]
        rw [show min (i + 1) 7 = i + 1 by omega] at ih
        rw [show min i 7 = i by omega]
        have hb : pkr (rv T p i) < 281474976710656 := by
          have := pkr_lt (rv T p i) (fun c hc => by
            rw [rv_tl] at hc
            have : ∀ k q, ∀ c ∈ tl T q k, c < 256 := by
              intro k
              induction k with
              | zero => intro q c hc; cases hc
              | succ k ihk =>
                intro q c hc
                rcases List.mem_cons.mp hc with z | z
                · rw [z]; exact h.2.2.1 q
                · exact ihk (q + 1) c z
            exact this i p c (List.mem_reverse.mp hc))
          rw [rv_len] at this
          exact Nat.lt_of_lt_of_le this (Nat.le_trans (Nat.pow_le_pow_right (by omega) (show i ≤ 6 by omega)) (by decide))
        have e8 : (b8 (T (p + i))).toInt64 = Int64.ofNat (T (p + i)) := by
          rw [(b8_all _ hT).2.1 (by omega)]
          apply Int64.toInt_inj.mp
          rw [wdL, nI_toInt (show T (p + i) < 2 ^ 31 by omega), Int64.toInt_ofNat_of_lt (by omega)]
        rw [e8, shl8 hb (by omega), show 256 * pkr (rv T p i) + T (p + i) = pkr (rv T p (i + 1)) from Nat.add_comm _ _]
        exact ih
    · have d' : ¬ (97 ≤ T (p + i) ∧ T (p + i) ≤ 122) := fun z => d (decide_eq_true z)
      rw [hev, ev_no (fun z => d z.2), show p + i - p = i by omega]
      by_cases q : 128 ≤ T (p + i) ∨ T (p + i) < 97
      · rw [if_pos (l1.mpr q)]
      · rw [if_neg (fun z => q (l1.mp z)), if_pos (l2.mpr (by omega))]
end WM
