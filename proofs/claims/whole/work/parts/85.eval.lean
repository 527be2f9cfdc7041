/-! code of statutes: what it is, how both work it out -/
def opM (v : Int32) : Int32 := if -10 < v then (if 0 ≤ v then 0 else 1) else if v = -10 then 10 else if v = -11 then 11 else if v = -12 then 12 else if v = -13 then 3 else if v = -14 then 4 else if v = -15 then 2 else if v = -16 then 5 else if v = -17 then 6 else if v = -18 then 7 else if v = -19 then 8 else 9
def agM (v : Int32) : Int32 := if -10 < v then (if 0 ≤ v then v else -1 - v) else 0
def ty2 (p q : Bool) : List Bool → Option (List Bool)
  | a :: b :: r => if a = p ∧ b = p then some (q :: r) else none
  | _ => none
def ty1 : List Bool → Option (List Bool)
  | a :: r => if a = true then some (true :: r) else none
  | _ => none
def tyS (v : Int32) (st : List Bool) : Option (List Bool) := if -10 < v then some (false :: st) else if v = -10 then ty1 st else if v = -11 ∨ v = -12 then ty2 true true st else if v = -13 ∨ v = -14 ∨ v = -15 then ty2 false false st else if v = -16 ∨ v = -17 ∨ v = -18 ∨ v = -19 ∨ v = -20 then ty2 false true st else none
def tyL : List Int32 → List Bool → Option (List Bool)
  | [], st => some st
  | v :: r, st => (tyS v st).bind (tyL r)
def pus : List Int32 → Nat
  | [] => 0
  | v :: r => (if -10 < v then 1 else 0) + pus r
def b01 (x : Int64) : Prop := x = 0 ∨ x = 1
def SR : List Bool → (Nat → Int64) → (Nat → Int64) → Prop
  | [], _, _ => True
  | b :: r, A, B => (A r.length = B r.length ∧ (b = true → b01 (A r.length))) ∧ SR r A B
set_option maxHeartbeats 200000 in
theorem SR.upd {ts : List Bool} {A B : Nat → Int64} (h : SR ts A B) {i j : Nat} (hi : ts.length ≤ i) (hj : ts.length ≤ j) (v u : Int64) : SR ts (vp_updL A i v) (vp_updL B j u) := by
  induction ts with
  | nil => trivial
  | cons b r ih =>
    obtain ⟨⟨h1, h2⟩, h3⟩ := h
    rw [List.length_cons] at hi hj
    refine ⟨⟨?_, ?_⟩, ih h3 (by omega) (by omega)⟩
    · rw [updL_ne _ _ (by omega), updL_ne _ _ (by omega)]; exact h1
    · rw [updL_ne _ _ (by omega)]; exact h2
set_option maxHeartbeats 200000 in
theorem wd_of {v : Int32} (h1 : -10 < v) (h2 : ¬ 0 ≤ v) : ∃ k, k < 9 ∧ (-1 - v : Int32) = nI k := by
  have e1 : (-10 : Int) < v.toInt := by simp only [ltI, Int32.reduceToInt] at h1; exact h1
  have e2 : v.toInt < 0 := by simp only [leI, Int32.reduceToInt] at h2; omega
  clear h1 h2
  refine ⟨(-1 - v.toInt).toNat, by omega, nI_ofI ?_⟩
  have em : (-1 : Int32).toInt = -1 := by simp only [Int32.reduceToInt]
  rw [subI (by rw [em]; clear em; omega) (by rw [em]; clear em; omega), em]
  clear em
  omega
section EV
variable {σ τ : St} {a3 : Nat} {wd : Nat → Int64}
set_option maxHeartbeats 200000 in
theorem wordC (ha : ∀ σ, lnO tC σ a3 = 9) (hw : ∀ k, k < 9 → σ.2.2 a3 k = wd k) {v : Int32} {k : Nat} (hk : k < 9) (e : (-1 - v : Int32) = nI k) : f_X2_wordOf a3 v σ = some (wd k) := by
  have hl : ¬ lenI tC σ a3 ≤ nI k := by unfold lenI; rw [ha]; exact nI_ge (b := 9) hk (by decide)
  unfold f_X2_wordOf f_X2_wordOf_20
  rw [e, bndE, if_neg (nI_pos (by omega)), if_neg hl, rlN rfl (ha _) hk (by decide), bS, hw k hk]
-- one step of the class over two values
set_option maxHeartbeats 200000 in
theorem binC {v : Int32} {A : Nat → Int64} {n i E Ln m : Nat} (hE : i < E) (hL : i < Ln) (hLn : Ln < 10000) (hE2 : E < 10000) (hlen : σ.1 3799 = nI Ln) (hc : σ.2.1 37 i = v) (h1 : v ≤ -10) (h2 : ¬ v = -10) (hn : n < 90) : f_X2_valueOf_10 a3 (nI E) (m + 1) (nI (n + 2)) (nI i) (stL σ 44 A) = f_X2_valueOf_10 a3 (nI E) m (nI (n + 1)) (nI (i + 1)) (stL σ 44 (vp_updL A n (f_X2_join v (A n) (A (n + 1))))) := by
  have hl : lnO tC (stL σ 44 A) 37 = Ln := by show (σ.1 3799).toNatClampNeg = Ln; rw [hlen, nI_clamp (by omega)]
  have h3 : ¬ lenI tC (stL σ 44 A) 37 ≤ nI i := by unfold lenI; rw [hl]; exact nI_ge hL (by omega)
  have e1 : (nI (n + 2) + (-1) : Int32) = nI (n + 1) := pk_m1 (n + 1)
  rw [f_X2_valueOf_10]
  rw [if_neg (nI_ge hE (by omega)), if_neg h3, rdN rfl hl hL (by omega), bS, stL2, hc, if_pos h1, if_neg h2, if_pos (show (2 : Int32) ≤ nI (n + 2) from nI_le (a := 2) (by omega) (by omega)), e1, bndE, nI_pred, rlC_44 (by omega), bS, rlC_44 (by omega), bS, stL_at, wlC_44 (by omega), bS, sLs]
  unfold f_X2_valueOf_168
  rw [bndE, nI_1]
set_option maxHeartbeats 200000 in
theorem pushC {v : Int32} {A : Nat → Int64} {n i E Ln m : Nat} {x : Int64} (hE : i < E) (hL : i < Ln) (hLn : Ln < 10000) (hE2 : E < 10000) (hlen : σ.1 3799 = nI Ln) (hc : σ.2.1 37 i = v) (h1 : ¬ v ≤ -10) (hn : n < 90) (hx : (0 ≤ v ∧ x = v.toInt64) ∨ (¬ 0 ≤ v ∧ f_X2_wordOf a3 v (stL σ 44 A) = some x)) : f_X2_valueOf_10 a3 (nI E) (m + 1) (nI n) (nI i) (stL σ 44 A) = f_X2_valueOf_10 a3 (nI E) m (nI (n + 1)) (nI (i + 1)) (stL σ 44 (vp_updL A n x)) := by
  have hl : lnO tC (stL σ 44 A) 37 = Ln := by show (σ.1 3799).toNatClampNeg = Ln; rw [hlen, nI_clamp (by omega)]
  have h3 : ¬ lenI tC (stL σ 44 A) 37 ≤ nI i := by unfold lenI; rw [hl]; exact nI_ge hL (by omega)
  rw [f_X2_valueOf_10]
  rw [if_neg (nI_ge hE (by omega)), if_neg h3, rdN rfl hl hL (by omega), bS, stL2, hc, if_neg h1, if_pos (show nI n < 96 from nI_lt (b := 96) (by omega) (by decide))]
  unfold f_X2_valueOf_74 f_X2_valueOf_168
  simp only [bndE]
  have lt0 : (v < 0) = ¬ (0 ≤ v) := by rw [ltI, leI]; exact propext ⟨fun z => by omega, fun z => by omega⟩
  rcases hx with ⟨p, q⟩ | ⟨p, q⟩
  · rw [if_neg (by rw [lt0]; exact not_not_intro p), wlC_44 (by omega), bS, sLs, nI_1, nI_1, q]
  · rw [if_pos (by rw [lt0]; exact p), q, bS, wlC_44 (by omega), bS, sLs, nI_1, nI_1]
set_option maxHeartbeats 200000 in
theorem notC {A : Nat → Int64} {n i E Ln m : Nat} (hE : i < E) (hL : i < Ln) (hLn : Ln < 10000) (hE2 : E < 10000) (hlen : σ.1 3799 = nI Ln) (hc : σ.2.1 37 i = -10) (hn : n < 90) : f_X2_valueOf_10 a3 (nI E) (m + 1) (nI (n + 1)) (nI i) (stL σ 44 A) = f_X2_valueOf_10 a3 (nI E) m (nI (n + 1)) (nI (i + 1)) (stL σ 44 (vp_updL A n (if A n = 0 then 1 else 0))) := by
  have hl : lnO tC (stL σ 44 A) 37 = Ln := by show (σ.1 3799).toNatClampNeg = Ln; rw [hlen, nI_clamp (by omega)]
  have h3 : ¬ lenI tC (stL σ 44 A) 37 ≤ nI i := by unfold lenI; rw [hl]; exact nI_ge hL (by omega)
  rw [f_X2_valueOf_10]
  rw [if_neg (nI_ge hE (by omega)), if_neg h3, rdN rfl hl hL (by omega), bS, stL2, hc, if_pos (by decide), if_pos rfl, if_pos (show (1 : Int32) ≤ nI (n + 1) from nI_le (a := 1) (by omega) (by omega)), nI_pred, rlC_44 (by omega), bS, stL_at, bndE, wlC_44 (by omega), bS, sLs]
  unfold f_X2_valueOf_168
  rw [bndE, nI_1]
-- what the reference makes of two values
def rJ (c : Int32) (a b : Int64) : Int64 := if 5 ≤ c then (if c = 11 then a * b else if c = 12 then (if a + b ≤ 0 then 0 else 1) else (if f_X11_holds (c - 5) a b = 0 then 0 else 1)) else if c = 2 then a * b else if c = 3 then a + b else a - b
set_option maxHeartbeats 200000 in
theorem binM {c x2 x3 : Int32} {B : Nat → Int64} {n j E m : Nat} (hE : j < E) (hE2 : E ≤ 5040) (he : 420 * x3 + x2 = nI E) (hc : τ.2.1 28 j = c) (h0 : ¬ c = 0) (h1 : ¬ c = 1) (h2 : ¬ c = 10) (hn : n < 90) : f_X11_works_12 x2 x3 (m + 1) (nI (n + 2)) (nI j) (stL τ 33 B) = f_X11_works_12 x2 x3 m (nI (n + 1)) (nI (j + 1)) (stL τ 33 (vp_updL B n (rJ c (B n) (B (n + 1))))) := by
  have e1 : (nI (n + 2) + (-1) : Int32) = nI (n + 1) := pk_m1 (n + 1)
  rw [f_X11_works_12]
  rw [he, if_neg (nI_ge hE (by omega)), rdM_28 (by omega), bS, stL2, hc, if_neg h0, if_neg h1, if_neg h2, e1, bndE, nI_pred, rlM_33 (by omega), bS, rlM_33 (by omega), bS, stL_at]
  unfold f_X11_works_184 f_X11_works_274 rJ
  simp only [bndE]
  rw [nI_1]
  have w : ∀ y, wl tM (stL τ 33 B) 33 (nI n) y = some (stL τ 33 (vp_updL B n y)) := fun y => by rw [wlM_33 (by omega), sLs]
  simp only [w, bS]
  by_cases q1 : 5 ≤ c
  · simp only [if_pos q1]
    by_cases q2 : c = 11
    · simp only [if_pos q2]
    · simp only [if_neg q2]
      by_cases q3 : c = 12
      · simp only [if_pos q3]
      · simp only [if_neg q3]
  · simp only [if_neg q1]
    by_cases q2 : c = 2
    · simp only [if_pos q2]
    · simp only [if_neg q2]
      by_cases q3 : c = 3
      · simp only [if_pos q3]
      · simp only [if_neg q3]
set_option maxHeartbeats 200000 in
theorem notM {x2 x3 : Int32} {B : Nat → Int64} {n j E m : Nat} (hE : j < E) (hE2 : E ≤ 5040) (he : 420 * x3 + x2 = nI E) (hc : τ.2.1 28 j = 10) (hn : n < 90) : f_X11_works_12 x2 x3 (m + 1) (nI (n + 1)) (nI j) (stL τ 33 B) = f_X11_works_12 x2 x3 m (nI (n + 1)) (nI (j + 1)) (stL τ 33 (vp_updL B n (1 - B n))) := by
  rw [f_X11_works_12]
  rw [he, if_neg (nI_ge hE (by omega)), rdM_28 (by omega), bS, stL2, hc, if_neg (by decide), if_neg (by decide), if_pos rfl, nI_pred, rlM_33 (by omega), bS, stL_at, wlM_33 (by omega), bS, sLs]
  unfold f_X11_works_274
  rw [bndE, nI_1]
set_option maxHeartbeats 200000 in
theorem pushMn {x2 x3 : Int32} {B : Nat → Int64} {n j E m : Nat} (hE : j < E) (hE2 : E ≤ 5040) (he : 420 * x3 + x2 = nI E) (hc : τ.2.1 28 j = 0) (hn : n < 90) : f_X11_works_12 x2 x3 (m + 1) (nI n) (nI j) (stL τ 33 B) = f_X11_works_12 x2 x3 m (nI (n + 1)) (nI (j + 1)) (stL τ 33 (vp_updL B n (τ.2.1 29 j).toInt64)) := by
  rw [f_X11_works_12]
  rw [he, if_neg (nI_ge hE (by omega)), rdM_28 (by omega), bS, stL2, hc, if_pos rfl]
  unfold f_X11_works_44 f_X11_works_77 f_X11_works_274
  rw [if_pos rfl, rdM_29 (by omega), bS, stL2, wlM_33 (by omega), bS, sLs, bndE, bndE, nI_1, nI_1]
set_option maxHeartbeats 200000 in
theorem pushMw {x2 x3 : Int32} {B : Nat → Int64} {n j E m : Nat} {x : Int64} (hE : j < E) (hE2 : E ≤ 5040) (he : 420 * x3 + x2 = nI E) (hc : τ.2.1 28 j = 1) (hn : n < 90) (hx : f_X11_wordNow (τ.2.1 29 j) (stL τ 33 B) = some x) : f_X11_works_12 x2 x3 (m + 1) (nI n) (nI j) (stL τ 33 B) = f_X11_works_12 x2 x3 m (nI (n + 1)) (nI (j + 1)) (stL τ 33 (vp_updL B n x)) := by
  rw [f_X11_works_12]
  rw [he, if_neg (nI_ge hE (by omega)), rdM_28 (by omega), bS, stL2, hc, if_neg (by decide), if_pos rfl]
  unfold f_X11_works_44 f_X11_works_77 f_X11_works_274
  rw [if_neg (by decide), rdM_29 (by omega), bS, stL2, hx, bS, wlM_33 (by omega), bS, sLs, bndE, bndE, nI_1, nI_1]
set_option maxHeartbeats 200000 in
theorem bin_b {v : Int32} (hv : v = -11 ∨ v = -12) {a b : Int64} (ha : b01 a) (hb : b01 b) : f_X2_join v a b = rJ (opM v) a b ∧ b01 (f_X2_join v a b) := by
  rcases hv with rfl | rfl <;> rcases ha with rfl | rfl <;> rcases hb with rfl | rfl <;> exact ⟨by decide, by unfold b01; decide⟩
set_option maxHeartbeats 200000 in
theorem bin_n {v : Int32} (hv : v = -13 ∨ v = -14 ∨ v = -15) (a b : Int64) : f_X2_join v a b = rJ (opM v) a b := by
  rcases hv with rfl | rfl | rfl <;> rfl
set_option maxHeartbeats 200000 in
theorem if01 (c : Prop) [Decidable c] : b01 (if c then 0 else 1 : Int64) := by
  unfold b01
  by_cases h : c
  · rw [if_pos h]; exact Or.inl rfl
  · rw [if_neg h]; exact Or.inr rfl
set_option maxHeartbeats 200000 in
theorem if10 (c : Prop) [Decidable c] : b01 (if c then 1 else 0 : Int64) := by
  unfold b01
  by_cases h : c
  · rw [if_pos h]; exact Or.inr rfl
  · rw [if_neg h]; exact Or.inl rfl
set_option maxHeartbeats 200000 in
theorem nar01 (c : Prop) [Decidable c] : (if vp_nar .boolean (if c then 0 else 1) = 0 then 0 else 1 : Int64) = if c then 0 else 1 := by
  by_cases h : c
  · rw [if_pos h, if_pos h, if_pos (by decide)]
  · rw [if_neg h, if_neg h, if_neg (by decide)]
set_option maxHeartbeats 200000 in
theorem nar10 (c : Prop) [Decidable c] : (if vp_nar .boolean (if c then 1 else 0) = 0 then 0 else 1 : Int64) = if c then 1 else 0 := by
  by_cases h : c
  · rw [if_pos h, if_pos h, if_neg (by decide)]
  · rw [if_neg h, if_neg h, if_pos (by decide)]
set_option maxHeartbeats 200000 in
theorem bin_c {v : Int32} (hv : v = -16 ∨ v = -17 ∨ v = -18 ∨ v = -19 ∨ v = -20) (a b : Int64) : f_X2_join v a b = rJ (opM v) a b ∧ b01 (f_X2_join v a b) := by
  rcases hv with rfl | rfl | rfl | rfl | rfl
  · exact ⟨(nar01 (b ≤ a)).symm, if01 (b ≤ a)⟩
  · exact ⟨(nar01 (b < a)).symm, if01 (b < a)⟩
  · exact ⟨(nar10 (a = b)).symm, if10 (a = b)⟩
  · exact ⟨(nar01 (a < b)).symm, if01 (a < b)⟩
  · exact ⟨(nar01 (a ≤ b)).symm, if01 (a ≤ b)⟩
end EV
