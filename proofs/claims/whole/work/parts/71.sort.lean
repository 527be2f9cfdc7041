/-! a list in order -/
def ins (key : Nat → Int) (k : Nat) : List Nat → List Nat
  | [] => [k]
  | a :: t => if key a ≤ key k then a :: ins key k t else k :: a :: t
def srt (key : Nat → Int) : Nat → List Nat
  | 0 => []
  | n + 1 => ins key n (srt key n)
def Srd (key : Nat → Int) (l : List Nat) : Prop := l.Pairwise (fun a b => key a ≤ key b)
theorem ins_len (key : Nat → Int) (k : Nat) (l : List Nat) : (ins key k l).length = l.length + 1 := by
  induction l with
  | nil => rfl
  | cons a t ih =>
    unfold ins
    split
    · rw [List.length_cons, List.length_cons, ih]
    · rfl
theorem mem_ins (key : Nat → Int) (k x : Nat) (l : List Nat) : x ∈ ins key k l ↔ x = k ∨ x ∈ l := by
  induction l with
  | nil => simp [ins]
  | cons a t ih =>
    unfold ins
    split
    · rw [List.mem_cons, ih, List.mem_cons]
      constructor
      · rintro (h | h | h)
        · exact Or.inr (Or.inl h)
        · exact Or.inl h
        · exact Or.inr (Or.inr h)
      · rintro (h | h | h)
        · exact Or.inr (Or.inl h)
        · exact Or.inl h
        · exact Or.inr (Or.inr h)
    · rw [List.mem_cons]
theorem ins_srd {key : Nat → Int} {k : Nat} {l : List Nat} (h : Srd key l) : Srd key (ins key k l) := by
  induction l with
  | nil => exact List.pairwise_singleton _ _
  | cons a t ih =>
    obtain ⟨h1, h2⟩ := List.pairwise_cons.mp h
    unfold ins
    by_cases c : key a ≤ key k
    · rw [if_pos c]
      refine List.pairwise_cons.mpr ⟨fun b hb => ?_, ih h2⟩
      rcases (mem_ins key k b t).mp hb with e | e
      · rw [e]; exact c
      · exact h1 b e
    · rw [if_neg c]
      refine List.pairwise_cons.mpr ⟨fun b hb => ?_, h⟩
      rcases List.mem_cons.mp hb with e | e
      · rw [e]; omega
      · have := h1 b e; omega
theorem ins_hd {key : Nat → Int} {k : Nat} {l : List Nat} (h : ∀ b ∈ l, key k < key b) : ins key k l = k :: l := by
  cases l with
  | nil => rfl
  | cons a t =>
    unfold ins
    rw [if_neg (by have := h a (List.mem_cons_self ..); omega)]
theorem filter_ins {key : Nat → Int} {k : Nat} {l : List Nat} (p : Nat → Bool) (h : Srd key l) : (ins key k l).filter p = if p k = true then ins key k (l.filter p) else l.filter p := by
  induction l with
  | nil =>
    show List.filter p [k] = _
    by_cases c : p k = true
    · rw [if_pos c, List.filter_cons_of_pos c]; rfl
    · rw [if_neg c, List.filter_cons_of_neg c]
  | cons a t ih =>
    obtain ⟨h1, h2⟩ := List.pairwise_cons.mp h
    have ih := ih h2
    by_cases c : key a ≤ key k
    · have e : ins key k (a :: t) = a :: ins key k t := if_pos c
      rw [e]
      by_cases d : p a = true
      · rw [List.filter_cons_of_pos d, List.filter_cons_of_pos d, ih]
        by_cases q : p k = true
        · rw [if_pos q, if_pos q]
          show _ = if key a ≤ key k then _ else _
          rw [if_pos c]
        · rw [if_neg q, if_neg q]
      · rw [List.filter_cons_of_neg d, List.filter_cons_of_neg d, ih]
    · have e : ins key k (a :: t) = k :: a :: t := if_neg c
      rw [e]
      by_cases q : p k = true
      · rw [List.filter_cons_of_pos q, if_pos q, ins_hd]
        intro b hb
        rcases List.mem_cons.mp (List.mem_filter.mp hb).1 with z | z
        · rw [z]; omega
        · have := h1 b z; omega
      · rw [List.filter_cons_of_neg q, if_neg q]
theorem srt_len (key : Nat → Int) (n : Nat) : (srt key n).length = n := by
  induction n with
  | zero => rfl
  | succ n ih => show (ins key n (srt key n)).length = _; rw [ins_len, ih]
theorem srt_mem (key : Nat → Int) (n x : Nat) : x ∈ srt key n ↔ x < n := by
  induction n with
  | zero => simp [srt]
  | succ n ih => show x ∈ ins key n (srt key n) ↔ _; rw [mem_ins, ih]; omega
theorem srt_srd (key : Nat → Int) (n : Nat) : Srd key (srt key n) := by
  induction n with
  | zero => exact List.Pairwise.nil
  | succ n ih => exact ins_srd ih
theorem ins_congr {key key' : Nat → Int} {k : Nat} {l : List Nat} (hk : key k = key' k) (h : ∀ a ∈ l, key a = key' a) : ins key k l = ins key' k l := by
  induction l with
  | nil => rfl
  | cons a t ih =>
    unfold ins
    rw [hk, h a (List.mem_cons_self ..), ih (fun b hb => h b (List.mem_cons_of_mem _ hb))]
theorem srt_congr {key key' : Nat → Int} (n : Nat) (h : ∀ a, a < n → key a = key' a) : srt key n = srt key' n := by
  induction n with
  | zero => rfl
  | succ n ih =>
    show ins key n (srt key n) = ins key' n (srt key' n)
    rw [ih (fun a ha => h a (by omega)), ins_congr (h n (by omega)) (fun a ha => h a (by have := (srt_mem key' n a).mp ha; omega))]
theorem ins_at {key : Nat → Int} {k : Nat} : ∀ (l : List Nat) (p : Nat), p ≤ l.length → (∀ i, i < p → key (l.getD i 0) ≤ key k) → (∀ i, p ≤ i → i < l.length → key k < key (l.getD i 0)) → ins key k l = l.take p ++ k :: l.drop p := by
  intro l
  induction l with
  | nil => intro p hp _ _; rw [show p = 0 by have : p ≤ 0 := hp; omega]; rfl
  | cons a t ih =>
    intro p hp h1 h2
    cases p with
    | zero =>
      have h3 : key k < key a := h2 0 (Nat.le_refl _) (by rw [List.length_cons]; omega)
      unfold ins
      rw [if_neg (by omega)]
      rfl
    | succ p =>
      have h3 : key a ≤ key k := h1 0 (by omega)
      unfold ins
      rw [if_pos h3, ih p (by rw [List.length_cons] at hp; omega) (fun i hi => h1 (i + 1) (by omega)) (fun i g1 g2 => h2 (i + 1) (by omega) (by rw [List.length_cons]; omega))]
      rfl
theorem getD_ins {key : Nat → Int} {k : Nat} {l : List Nat} {p : Nat} (hp : p ≤ l.length) (h : ins key k l = l.take p ++ k :: l.drop p) (i : Nat) : (ins key k l).getD i 0 = if i < p then l.getD i 0 else if i = p then k else l.getD (i - 1) 0 := by
  rw [h]
  simp only [List.getD_eq_getElem?_getD]
  by_cases c : i < p
  · rw [if_pos c, List.getElem?_append_left (by rw [List.length_take]; omega), List.getElem?_take_of_lt c]
  · rw [if_neg c, List.getElem?_append_right (by rw [List.length_take]; omega), List.length_take, Nat.min_eq_left hp]
    by_cases d : i = p
    · rw [if_pos d, d, Nat.sub_self]; rfl
    · rw [if_neg d, show i - p = (i - p - 1) + 1 by omega, List.getElem?_cons_succ, List.getElem?_drop, show p + (i - p - 1) = i - 1 by omega]
/-! a list in an array -/
def Rp (A : Nat → Int32) (l : List Nat) : Prop := ∀ i, i < l.length → A i = nI (l.getD i 0)
def ShI (A : Nat → Int32) (l : List Nat) (p : Nat) : Prop := (∀ i, i < p → A i = nI (l.getD i 0)) ∧ ∀ i, p ≤ i → i < l.length → A (i + 1) = nI (l.getD i 0)
theorem ShI.of {A : Nat → Int32} {l : List Nat} (h : Rp A l) : ShI A l l.length := ⟨h, fun i h1 h2 => absurd h2 (by omega)⟩
theorem ShI.step {A : Nat → Int32} {l : List Nat} {p : Nat} (h : ShI A l (p + 1)) : ShI (upd A (p + 1) (A p)) l p := by
  refine ⟨fun i hi => by rw [upd_ne _ _ (by omega)]; exact h.1 i (by omega), fun i h1 h2 => ?_⟩
  by_cases c : i = p
  · subst c; rw [upd_at]; exact h.1 i (by omega)
  · rw [upd_ne _ _ (by omega)]; exact h.2 i (by omega) h2
theorem ShI.fin {A : Nat → Int32} {l : List Nat} {p k : Nat} {key : Nat → Int} (h : ShI A l p) (hp : p ≤ l.length) (e : ins key k l = l.take p ++ k :: l.drop p) : Rp (upd A p (nI k)) (ins key k l) := by
  intro i hi
  rw [ins_len] at hi
  rw [getD_ins hp e]
  by_cases c : i < p
  · rw [if_pos c, upd_ne _ _ (by omega)]; exact h.1 i c
  · rw [if_neg c]
    by_cases d : i = p
    · rw [if_pos d, d, upd_at]
    · rw [if_neg d, upd_ne _ _ d]
      have := h.2 (i - 1) (by omega) (by omega)
      rw [show i - 1 + 1 = i by omega] at this
      exact this
theorem getDE {l : List Nat} {i : Nat} (hi : i < l.length) : l.getD i 0 = l[i] := by
  rw [List.getD_eq_getElem?_getD, List.getElem?_eq_getElem hi]; rfl
theorem srd_le {key : Nat → Int} {l : List Nat} (h : Srd key l) {i j : Nat} (hij : i ≤ j) (hj : j < l.length) : key (l.getD i 0) ≤ key (l.getD j 0) := by
  rw [getDE (show i < l.length by omega), getDE hj]
  by_cases c : i = j
  · subst c; exact Int.le_refl _
  · exact List.pairwise_iff_getElem.mp h i j (by omega) hj (by omega)
theorem getD_mem {l : List Nat} {i : Nat} (hi : i < l.length) : l.getD i 0 ∈ l := by
  rw [getDE hi]; exact List.getElem_mem hi
/-- the last one of those that are so -/
def lastq (q : Nat → Bool) (l : List Nat) : Option Nat := (l.filter q).getLast?
theorem ins_last {key : Nat → Int} {k : Nat} {l : List Nat} (h : Srd key l) : (ins key k l).getLast? = match l.getLast? with
    | none => some k
    | some b => if key b ≤ key k then some k else some b := by
  induction l with
  | nil => rfl
  | cons a t ih =>
    obtain ⟨h1, h2⟩ := List.pairwise_cons.mp h
    by_cases c : key a ≤ key k
    · have e : ins key k (a :: t) = a :: ins key k t := if_pos c
      have hne : ins key k t ≠ [] := by
        intro z
        have := ins_len key k t
        rw [z] at this
        cases this
      rw [e, List.getLast?_cons_of_ne_nil hne, ih h2]
      cases t with
      | nil => show some k = if key a ≤ key k then some k else some a; rw [if_pos c]
      | cons b t => rw [List.getLast?_cons_of_ne_nil (xs := b :: t) (List.cons_ne_nil _ _)]
    · have e : ins key k (a :: t) = k :: a :: t := if_neg c
      rw [e, List.getLast?_cons_of_ne_nil (List.cons_ne_nil _ _)]
      cases hl : (a :: t).getLast? with
      | none => rw [List.getLast?_eq_none_iff] at hl; cases hl
      | some b =>
        have hm := List.mem_of_getLast? hl
        have hb : ¬ key b ≤ key k := by
          rcases List.mem_cons.mp hm with z | z
          · rw [z]; exact c
          · have := h1 b z; omega
        show some b = if key b ≤ key k then some k else some b
        rw [if_neg hb]
theorem lastq_ins {key : Nat → Int} {k : Nat} {l : List Nat} (q : Nat → Bool) (h : Srd key l) : lastq q (ins key k l) = if q k = true then (match lastq q l with
    | none => some k
    | some b => if key b ≤ key k then some k else some b) else lastq q l := by
  unfold lastq
  rw [filter_ins q h]
  by_cases c : q k = true
  · rw [if_pos c, if_pos c, ins_last (h.filter _)]
  · rw [if_neg c, if_neg c]
theorem lastq_take {q : Nat → Bool} {l : List Nat} {p : Nat} (hp : p < l.length) : lastq q (l.take (p + 1)) = if q (l.getD p 0) = true then some (l.getD p 0) else lastq q (l.take p) := by
  unfold lastq
  have e : l.take (p + 1) = l.take p ++ [l.getD p 0] := by
    rw [List.take_succ, List.getElem?_eq_getElem hp, getDE hp]; rfl
  rw [e, List.filter_append]
  by_cases c : q (l.getD p 0) = true
  · rw [if_pos c, List.filter_cons_of_pos c, List.filter_nil, List.getLast?_concat]
  · rw [if_neg c, List.filter_cons_of_neg c, List.filter_nil, List.append_nil]
theorem filter_take {q : Nat → Bool} {l : List Nat} {p : Nat} (hp : p < l.length) : (l.take (p + 1)).filter q = (l.take p).filter q ++ (if q (l.getD p 0) = true then [l.getD p 0] else []) := by
  have e : l.take (p + 1) = l.take p ++ [l.getD p 0] := by
    rw [List.take_succ, List.getElem?_eq_getElem hp, getDE hp]; rfl
  rw [e, List.filter_append]
  by_cases c : q (l.getD p 0) = true
  · rw [if_pos c, List.filter_cons_of_pos c, List.filter_nil]
  · rw [if_neg c, List.filter_cons_of_neg c, List.filter_nil]
theorem lastq_mem {q : Nat → Bool} {l : List Nat} {r : Nat} (h : lastq q l = some r) : r ∈ l ∧ q r = true := List.mem_filter.mp (List.mem_of_getLast? h)
