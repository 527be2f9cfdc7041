/-! THE PURE PART: how a program over a state is reckoned -/
theorem bndE {α β : Type} (x : α) (k : α → β) : bnd x k = k x := rfl
theorem bS {α β : Type} (v : α) (k : α → Option β) : (some v).bind k = k v := rfl
theorem iteT {α : Type} {c : Prop} [Decidable c] {a b : α} (h : c) : (if c then a else b) = a := if_pos h
theorem iteF {α : Type} {c : Prop} [Decidable c] {a b : α} (h : ¬ c) : (if c then a else b) = b := if_neg h
/-- a whole array replaced -/
def stA (σ : St) (a : Nat) (f : Nat → Int32) : St := (σ.1, fun b => if b = a then f else σ.2.1 b, σ.2.2)
def stL (σ : St) (a : Nat) (f : Nat → Int64) : St := (σ.1, σ.2.1, fun b => if b = a then f else σ.2.2 b)
theorem sA_st (σ : St) (a i : Nat) (v : Int32) : sA σ a i v = stA σ a (upd (σ.2.1 a) i v) := rfl
theorem sL_st (σ : St) (a i : Nat) (v : Int64) : sL σ a i v = stL σ a (vp_updL (σ.2.2 a) i v) := rfl
theorem stA_2 (σ : St) (a : Nat) (f g : Nat → Int32) : stA (stA σ a f) a g = stA σ a g := by
  unfold stA
  simp only [Prod.mk.injEq, true_and, and_true]
  funext b
  split <;> rfl
theorem stL_2 (σ : St) (a : Nat) (f g : Nat → Int64) : stL (stL σ a f) a g = stL σ a g := by
  unfold stL
  simp only [Prod.mk.injEq, true_and]
  funext b
  split <;> rfl
theorem stA_same (σ : St) (a : Nat) : stA σ a (σ.2.1 a) = σ := by
  unfold stA
  show (σ.1, _, σ.2.2) = (σ.1, σ.2.1, σ.2.2)
  congr 2
  funext b
  split
  · next h => rw [h]
  · rfl
theorem stL_same (σ : St) (a : Nat) : stL σ a (σ.2.2 a) = σ := by
  unfold stL
  show (σ.1, σ.2.1, _) = (σ.1, σ.2.1, σ.2.2)
  congr 2
  funext b
  split
  · next h => rw [h]
  · rfl
theorem stA_at (σ : St) (a : Nat) (f : Nat → Int32) : (stA σ a f).2.1 a = f := by unfold stA; exact if_pos rfl
theorem stL_at (σ : St) (a : Nat) (f : Nat → Int64) : (stL σ a f).2.2 a = f := by unfold stL; exact if_pos rfl
theorem upd_at (f : Nat → Int32) (i : Nat) (v : Int32) : upd f i v i = v := by unfold upd; exact if_pos rfl
theorem upd_ne (f : Nat → Int32) {i j : Nat} (v : Int32) (h : j ≠ i) : upd f i v j = f j := by unfold upd; exact if_neg h
theorem updL_at (f : Nat → Int64) (i : Nat) (v : Int64) : vp_updL f i v i = v := by unfold vp_updL; exact if_pos rfl
theorem updL_ne (f : Nat → Int64) {i j : Nat} (v : Int64) (h : j ≠ i) : vp_updL f i v j = f j := by unfold vp_updL; exact if_neg h
/-- reading and writing at a number -/
theorem rdN {T : Lay} {σ : St} {a i N : Nat} {x : Int32} (e : x = nI i) (hl : lnO T σ a = N) (h : i < N) (hN : N < 2 ^ 31) : rd T σ a x = some (σ.2.1 a i) := by
  subst e
  unfold rd
  rw [hl, if_neg (nI_in h hN), nI_clamp (Nat.lt_trans h hN)]
theorem rlN {T : Lay} {σ : St} {a i N : Nat} {x : Int32} (e : x = nI i) (hl : lnO T σ a = N) (h : i < N) (hN : N < 2 ^ 31) : rl T σ a x = some (σ.2.2 a i) := by
  subst e
  unfold rl
  rw [hl, if_neg (nI_in h hN), nI_clamp (Nat.lt_trans h hN)]
theorem wrN {T : Lay} {σ : St} {a i N : Nat} {x v : Int32} (e : x = nI i) (hl : lnO T σ a = N) (h : i < N) (hN : N < 2 ^ 31) : wr T σ a x v = some (sA σ a i v) := by
  subst e
  unfold wr
  rw [hl, if_neg (nI_in h hN), nI_clamp (Nat.lt_trans h hN)]
theorem wlN {T : Lay} {σ : St} {a i N : Nat} {x : Int32} {v : Int64} (e : x = nI i) (hl : lnO T σ a = N) (h : i < N) (hN : N < 2 ^ 31) : wl T σ a x v = some (sL σ a i v) := by
  subst e
  unfold wl
  rw [hl, if_neg (nI_in h hN), nI_clamp (Nat.lt_trans h hN)]
/-! numbers -/
theorem ltI (a b : Int32) : (a < b) = (a.toInt < b.toInt) := propext Int32.lt_iff_toInt_lt
theorem leI (a b : Int32) : (a ≤ b) = (a.toInt ≤ b.toInt) := propext Int32.le_iff_toInt_le
theorem eqI (a b : Int32) : (a = b) = (a.toInt = b.toInt) := propext Int32.toInt_inj.symm
theorem ltL (a b : Int64) : (a < b) = (a.toInt < b.toInt) := propext Int64.lt_iff_toInt_lt
theorem leL (a b : Int64) : (a ≤ b) = (a.toInt ≤ b.toInt) := propext Int64.le_iff_toInt_le
theorem eqL (a b : Int64) : (a = b) = (a.toInt = b.toInt) := propext Int64.toInt_inj.symm
theorem rgI (x : Int32) : -2147483648 ≤ x.toInt ∧ x.toInt < 2147483648 := ⟨Int32.le_toInt x, Int32.toInt_lt x⟩
theorem rgL (x : Int64) : -9223372036854775808 ≤ x.toInt ∧ x.toInt < 9223372036854775808 := ⟨Int64.le_toInt x, Int64.toInt_lt x⟩
theorem addI {x y : Int32} (h1 : -2147483648 ≤ x.toInt + y.toInt) (h2 : x.toInt + y.toInt < 2147483648) : (x + y).toInt = x.toInt + y.toInt := by
  rw [Int32.toInt_add, Int.bmod_def]
  omega
theorem subI {x y : Int32} (h1 : -2147483648 ≤ x.toInt - y.toInt) (h2 : x.toInt - y.toInt < 2147483648) : (x - y).toInt = x.toInt - y.toInt := by
  rw [Int32.toInt_sub, Int.bmod_def]
  omega
theorem mulI {x y : Int32} (h1 : -2147483648 ≤ x.toInt * y.toInt) (h2 : x.toInt * y.toInt < 2147483648) : (x * y).toInt = x.toInt * y.toInt := by
  rw [Int32.toInt_mul, Int.bmod_def]
  omega
theorem negI {x : Int32} (h1 : -2147483648 < x.toInt) : (-x).toInt = -x.toInt := by
  rw [Int32.toInt_neg, Int.bmod_def]
  have := rgI x
  omega
theorem addL {x y : Int64} (h1 : -9223372036854775808 ≤ x.toInt + y.toInt) (h2 : x.toInt + y.toInt < 9223372036854775808) : (x + y).toInt = x.toInt + y.toInt := by
  rw [Int64.toInt_add, Int.bmod_def]
  omega
theorem subL {x y : Int64} (h1 : -9223372036854775808 ≤ x.toInt - y.toInt) (h2 : x.toInt - y.toInt < 9223372036854775808) : (x - y).toInt = x.toInt - y.toInt := by
  rw [Int64.toInt_sub, Int.bmod_def]
  omega
theorem mulL {x y : Int64} (h1 : -9223372036854775808 ≤ x.toInt * y.toInt) (h2 : x.toInt * y.toInt < 9223372036854775808) : (x * y).toInt = x.toInt * y.toInt := by
  rw [Int64.toInt_mul, Int.bmod_def]
  omega
theorem wdL (x : Int32) : x.toInt64.toInt = x.toInt := Int32.toInt_toInt64 x
theorem nI_ofI {x : Int32} {n : Nat} (h : x.toInt = n) : x = nI n := by
  have h1 := rgI x
  exact Int32.toInt_inj.mp (by rw [nI_toInt (by omega), h])
theorem lN_ofI {x : Int64} {n : Nat} (h : x.toInt = n) : x = lN n := by
  have h1 := rgL x
  exact Int64.toInt_inj.mp (by rw [pk_lT (by omega), h])
/-- a number between bounds -/
theorem nI_btw {x : Int32} {n : Nat} (h1 : 0 ≤ x.toInt) (h2 : x.toInt ≤ n) : ∃ j : Nat, j ≤ n ∧ x = nI j := ⟨x.toInt.toNat, by omega, nI_ofI (by omega)⟩
theorem ixc (c y x : Nat) : nI c * nI y + nI x = nI (c * y + x) := by rw [pk_mul, nI_add]
theorem ixd (c y x : Nat) : nI y * nI c + nI x = nI (c * y + x) := by rw [pk_mul, nI_add, Nat.mul_comm]
theorem narB (c : Prop) [Decidable c] : vp_nar .boolean (if c then 1 else 0) = if c then 1 else 0 := by split <;> rfl
theorem narB' (c : Prop) [Decidable c] : vp_nar .boolean (if c then 0 else 1) = if c then 0 else 1 := by split <;> rfl
/-! the checks -/
theorem lies0 (x a b : Int32) : (f_X10_lies x a b = 0) = ¬ (a.toInt ≤ x.toInt ∧ x.toInt ≤ b.toInt) := by
  unfold f_X10_lies f_X10_lies_14
  simp only [ltI]
  by_cases h1 : x.toInt < a.toInt
  · rw [if_pos h1]; exact propext ⟨fun _ => by omega, fun _ => rfl⟩
  · rw [if_neg h1]
    by_cases h2 : b.toInt < x.toInt
    · rw [if_pos h2]; exact propext ⟨fun _ => by omega, fun _ => rfl⟩
    · rw [if_neg h2]; exact propext ⟨fun h => absurd h (by decide), fun h => absurd ⟨by omega, by omega⟩ h⟩
theorem in0 (x a b : Int64) : (f_X11_in x a b = 0) = ¬ (a.toInt ≤ x.toInt ∧ x.toInt ≤ b.toInt) := by
  unfold f_X11_in f_X11_in_17
  simp only [ltL]
  by_cases h1 : x.toInt < a.toInt
  · rw [if_pos h1]; exact propext ⟨fun _ => by omega, fun _ => rfl⟩
  · rw [if_neg h1]
    by_cases h2 : b.toInt < x.toInt
    · rw [if_pos h2]; exact propext ⟨fun _ => by omega, fun _ => rfl⟩
    · rw [if_neg h2]; exact propext ⟨fun h => absurd h (by decide), fun h => absurd ⟨by omega, by omega⟩ h⟩
theorem lies01 (x a b : Int32) : f_X10_lies x a b = if a.toInt ≤ x.toInt ∧ x.toInt ≤ b.toInt then 1 else 0 := by
  by_cases h : a.toInt ≤ x.toInt ∧ x.toInt ≤ b.toInt
  · rw [if_pos h]
    unfold f_X10_lies f_X10_lies_14
    rw [if_neg (by rw [ltI]; omega), if_neg (by rw [ltI]; omega)]
  · rw [if_neg h]; exact (lies0 x a b).mpr h
theorem side0 (x : Int32) : (f_X10_isSide x = 0) = ¬ (0 ≤ x.toInt ∧ x.toInt ≤ 1) := by
  unfold f_X10_isSide
  rw [lies01, narB, ← lies01, lies0]; rfl
theorem author0 (x : Int32) : (f_X10_isAuthor x = 0) = ¬ (0 ≤ x.toInt ∧ x.toInt ≤ 2) := by
  unfold f_X10_isAuthor
  rw [lies01, narB, ← lies01, lies0]; rfl
theorem minute0 (x : Int32) : (f_X10_isMinute x = 0) = ¬ (0 ≤ x.toInt ∧ x.toInt ≤ 8999) := by
  unfold f_X10_isMinute
  rw [lies01, narB, ← lies01, lies0]; rfl
theorem year0 (x : Int32) : (f_X8_isYear x = 0) = ¬ (0 ≤ x.toInt ∧ x.toInt ≤ 39) := by
  unfold f_X8_isYear
  rw [lies01, narB, ← lies01, lies0]; rfl
theorem week0 (x : Int32) : (f_X9_isWeek x = 0) = ¬ (0 ≤ x.toInt ∧ x.toInt ≤ 99) := by
  unfold f_X9_isWeek
  rw [lies01, narB, ← lies01, lies0]; rfl
theorem cell0 (x y : Int32) : (f_X6_isCell x y = 0) = ¬ (0 ≤ x.toInt ∧ x.toInt ≤ 23 ∧ 0 ≤ y.toInt ∧ y.toInt ≤ 23) := by
  unfold f_X6_isCell f_X6_isCell_24
  simp only [lies0]
  have e0 : (0 : Int32).toInt = 0 := rfl
  have e1 : (23 : Int32).toInt = 23 := rfl
  rw [e0, e1]
  by_cases h1 : 0 ≤ x.toInt ∧ x.toInt ≤ 23
  · rw [if_neg (fun h => h h1)]
    by_cases h2 : 0 ≤ y.toInt ∧ y.toInt ≤ 23
    · rw [if_neg (fun h => h h2)]; exact propext ⟨fun h => absurd h (by decide), fun h => absurd ⟨h1.1, h1.2, h2.1, h2.2⟩ h⟩
    · rw [if_pos h2]; exact propext ⟨fun _ h => h2 h.2.2, fun _ => rfl⟩
  · rw [if_pos h1]; exact propext ⟨fun _ h => h1 ⟨h.1, h.2.1⟩, fun _ => rfl⟩
theorem mside0 (x : Int32) : (f_X11_isSide x = 0) = ¬ (0 ≤ x.toInt ∧ x.toInt ≤ 1) := by
  unfold f_X11_isSide f_X11_isSide_9
  have e0 : (0 : Int32).toInt = 0 := rfl
  have e1 : (1 : Int32).toInt = 1 := rfl
  simp only [eqI x, e0, e1]
  by_cases h0 : x.toInt = 0
  · rw [if_pos h0]; exact propext ⟨fun h => absurd h (by decide), fun h => absurd ⟨by omega, by omega⟩ h⟩
  · rw [if_neg h0]
    by_cases h1 : x.toInt = 1
    · rw [if_pos h1]; exact propext ⟨fun h => absurd h (by decide), fun h => absurd ⟨by omega, by omega⟩ h⟩
    · rw [if_neg h1]; exact propext ⟨fun _ => by omega, fun _ => rfl⟩
theorem mrange0 (x a : Int32) (z : Int32) (hz : z = if x < 0 then 0 else if a ≤ x then 0 else 1) : (z = 0) = ¬ (0 ≤ x.toInt ∧ x.toInt < a.toInt) := by
  subst hz
  have e0 : (0 : Int32).toInt = 0 := rfl
  simp only [ltI, leI, e0]
  by_cases h0 : x.toInt < 0
  · rw [if_pos h0]; exact propext ⟨fun _ => by omega, fun _ => rfl⟩
  · rw [if_neg h0]
    by_cases h1 : a.toInt ≤ x.toInt
    · rw [if_pos h1]; exact propext ⟨fun _ => by omega, fun _ => rfl⟩
    · rw [if_neg h1]; exact propext ⟨fun h => absurd h (by decide), fun h => absurd ⟨by omega, by omega⟩ h⟩
theorem mminute0 (x : Int32) : (f_X11_isMinute x = 0) = ¬ (0 ≤ x.toInt ∧ x.toInt < 9000) := mrange0 x 9000 _ rfl
theorem myear0 (x : Int32) : (f_X11_isYear x = 0) = ¬ (0 ≤ x.toInt ∧ x.toInt < 40) := mrange0 x 40 _ rfl
theorem mweek0 (x : Int32) : (f_X11_isWeek x = 0) = ¬ (0 ≤ x.toInt ∧ x.toInt < 100) := mrange0 x 100 _ rfl
theorem mship0 (x : Int32) (σ : St) : (f_X11_isShip x σ = 0) = ¬ (0 ≤ x.toInt ∧ x.toInt < (gF σ 2).toInt) := mrange0 x (gF σ 2) _ rfl
theorem mtown0 (x : Int32) (σ : St) : (f_X11_isTown x σ = 0) = ¬ (0 ≤ x.toInt ∧ x.toInt < (gF σ 71).toInt) := mrange0 x (gF σ 71) _ rfl
theorem ship0 (x : Int32) (σ : St) : (f_X7_has x σ = 0) = ¬ (0 ≤ x.toInt ∧ x.toInt < (gF σ 204).toInt) := mrange0 x (gF σ 204) _ rfl
theorem town0 (x : Int32) (σ : St) : (f_X9_has x σ = 0) = ¬ (0 ≤ x.toInt ∧ x.toInt < (gF σ 804).toInt) := mrange0 x (gF σ 804) _ rfl
theorem law0 (x : Int32) (σ : St) : (f_X2_has x σ = 0) = ¬ (0 ≤ x.toInt ∧ x.toInt < (gF σ 400).toInt) := mrange0 x (gF σ 400) _ rfl
theorem mcell0 (x y : Int32) : (f_X11_isCell x y = 0) = ¬ (0 ≤ x.toInt ∧ x.toInt ≤ 23 ∧ 0 ≤ y.toInt ∧ y.toInt ≤ 23) := by
  unfold f_X11_isCell f_X11_isCell_28
  simp only [in0, wdL]
  have e0 : (0 : Int64).toInt = 0 := rfl
  have e1 : (23 : Int64).toInt = 23 := rfl
  rw [e0, e1]
  by_cases h1 : 0 ≤ x.toInt ∧ x.toInt ≤ 23
  · rw [if_neg (fun h => h h1)]
    by_cases h2 : 0 ≤ y.toInt ∧ y.toInt ≤ 23
    · rw [if_neg (fun h => h h2)]; exact propext ⟨fun h => absurd h (by decide), fun h => absurd ⟨h1.1, h1.2, h2.1, h2.2⟩ h⟩
    · rw [if_pos h2]; exact propext ⟨fun _ h => h2 h.2.2, fun _ => rfl⟩
  · rw [if_pos h1]; exact propext ⟨fun _ h => h1 ⟨h.1, h.2.1⟩, fun _ => rfl⟩
/-! what a step leaves as it was -/
def Fr (Ks As Ls : List Nat) (σ σ' : St) : Prop := (∀ k, k ∉ Ks → σ'.1 k = σ.1 k) ∧ (∀ a, a ∉ As → σ'.2.1 a = σ.2.1 a) ∧ (∀ a, a ∉ Ls → σ'.2.2 a = σ.2.2 a)
theorem Fr.rf {Ks As Ls : List Nat} {σ : St} : Fr Ks As Ls σ σ := ⟨fun _ _ => rfl, fun _ _ => rfl, fun _ _ => rfl⟩
theorem Fr.tr {Ks As Ls : List Nat} {σ σ' σ'' : St} (h : Fr Ks As Ls σ σ') (g : Fr Ks As Ls σ' σ'') : Fr Ks As Ls σ σ'' := ⟨fun k hk => (g.1 k hk).trans (h.1 k hk), fun k hk => (g.2.1 k hk).trans (h.2.1 k hk), fun k hk => (g.2.2 k hk).trans (h.2.2 k hk)⟩
theorem Fr.up {Ks As Ls Ks' As' Ls' : List Nat} {σ σ' : St} (h : Fr Ks As Ls σ σ') (d : (∀ k ∈ Ks, k ∈ Ks') ∧ (∀ k ∈ As, k ∈ As') ∧ (∀ k ∈ Ls, k ∈ Ls')) : Fr Ks' As' Ls' σ σ' := ⟨fun k hk => h.1 k (fun z => hk (d.1 k z)), fun k hk => h.2.1 k (fun z => hk (d.2.1 k z)), fun k hk => h.2.2 k (fun z => hk (d.2.2 k z))⟩
theorem Fr.wF {Ks As Ls : List Nat} {σ σ' : St} (h : Fr Ks As Ls σ σ') {k : Nat} {v : Int32} (hk : k ∈ Ks) : Fr Ks As Ls σ (sF σ' k v) := h.tr ⟨fun j hj => if_neg (fun (e : j = k) => hj (e ▸ hk)), fun _ _ => rfl, fun _ _ => rfl⟩
theorem Fr.wA {Ks As Ls : List Nat} {σ σ' : St} (h : Fr Ks As Ls σ σ') {k i : Nat} {v : Int32} (hk : k ∈ As) : Fr Ks As Ls σ (sA σ' k i v) := h.tr ⟨fun _ _ => rfl, fun j hj => if_neg (fun (e : j = k) => hj (e ▸ hk)), fun _ _ => rfl⟩
theorem Fr.wL {Ks As Ls : List Nat} {σ σ' : St} (h : Fr Ks As Ls σ σ') {k i : Nat} {v : Int64} (hk : k ∈ Ls) : Fr Ks As Ls σ (sL σ' k i v) := h.tr ⟨fun _ _ => rfl, fun _ _ => rfl, fun j hj => if_neg (fun (e : j = k) => hj (e ▸ hk))⟩
theorem Fr.wSA {Ks As Ls : List Nat} {σ σ' : St} (h : Fr Ks As Ls σ σ') {k : Nat} {f : Nat → Int32} (hk : k ∈ As) : Fr Ks As Ls σ (stA σ' k f) := h.tr ⟨fun _ _ => rfl, fun j hj => if_neg (fun (e : j = k) => hj (e ▸ hk)), fun _ _ => rfl⟩
theorem Fr.wSL {Ks As Ls : List Nat} {σ σ' : St} (h : Fr Ks As Ls σ σ') {k : Nat} {f : Nat → Int64} (hk : k ∈ Ls) : Fr Ks As Ls σ (stL σ' k f) := h.tr ⟨fun _ _ => rfl, fun _ _ => rfl, fun j hj => if_neg (fun (e : j = k) => hj (e ▸ hk))⟩
