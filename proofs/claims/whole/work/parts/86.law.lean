/-! the law: working out code; how both hold the statutes; being in force -/
set_option maxHeartbeats 200000 in
theorem nleI {v u : Int32} (h : u < v) : ¬ v ≤ u := by rw [leI]; rw [ltI] at h; omega
set_option maxHeartbeats 200000 in
theorem leI_n {v u : Int32} (h : ¬ u < v) : v ≤ u := by rw [leI]; rw [ltI] at h; omega
section EL
variable {σ τ : St} {a3 : Nat} {wd : Nat → Int64} {Ln : Nat} {x2 x3 : Int32}
set_option maxHeartbeats 200000 in
theorem ev_loop (ha : ∀ σ, lnO tC σ a3 = 9) (hane : a3 ≠ 44) (hw : ∀ k, k < 9 → σ.2.2 a3 k = wd k) (hwM : ∀ k, k < 9 → ∀ B, f_X11_wordNow (nI k) (stL τ 33 B) = some (wd k)) (hlen : σ.1 3799 = nI Ln) (hLn : Ln < 9000) :
    ∀ (code : List Int32) (ts : List Bool) (b : Bool) (i j m m' : Nat) (A B : Nat → Int64), i + code.length ≤ Ln → j + code.length ≤ 5040 → 420 * x3 + x2 = nI (j + code.length) → (∀ o, o < code.length → σ.2.1 37 (i + o) = code.getD o 0 ∧ τ.2.1 28 (j + o) = opM (code.getD o 0) ∧ τ.2.1 29 (j + o) = agM (code.getD o 0)) → tyL code ts = some [b] → SR ts A B → ts.length + pus code ≤ 80 → code.length < m → code.length < m' → ∃ (v : Int64) (A' B' : Nat → Int64), f_X2_valueOf_10 a3 (nI (i + code.length)) m (nI ts.length) (nI i) (stL σ 44 A) = some (v, stL σ 44 A') ∧ f_X11_works_12 x2 x3 m' (nI ts.length) (nI j) (stL τ 33 B) = some (v, stL τ 33 B') ∧ (b = true → b01 v) := by
  intro code
  induction code with
  | nil =>
    intro ts b i j m m' A B h1 h2 he hc hty hS hp hm hm'
    obtain ⟨m, rfl⟩ : ∃ q, m = q + 1 := ⟨m - 1, by omega⟩
    obtain ⟨m', rfl⟩ : ∃ q, m' = q + 1 := ⟨m' - 1, by omega⟩
    have hts : ts = [b] := Option.some.inj hty
    subst hts
    obtain ⟨⟨s1, s2⟩, -⟩ := hS
    have s1 : A 0 = B 0 := s1
    rw [List.length_nil, Nat.add_zero] at h1 h2 he
    rw [show i + ([] : List Int32).length = i from rfl]
    refine ⟨A 0, A, B, ?_, ?_, s2⟩
    · unfold f_X2_valueOf_10 f_X2_valueOf_174
      rw [if_pos (nI_le (Nat.le_refl _) (by omega)), if_pos (show nI [b].length = 1 from rfl), show rl tC (stL σ 44 A) 44 0 = some ((stL σ 44 A).2.2 44 0) from rlC_44 (i := 0) (by decide), bS, stL_at]
    · unfold f_X11_works_12 f_X11_works_280
      rw [he, if_pos (nI_le (Nat.le_refl _) (by omega)), show rl tM (stL τ 33 B) 33 0 = some ((stL τ 33 B).2.2 33 0) from rlM_33 (i := 0) (by decide), bS, stL_at, s1]
  | cons v r ih =>
    intro ts b i j m m' A B h1 h2 he hc hty hS hp hm hm'
    obtain ⟨m, rfl⟩ : ∃ q, m = q + 1 := ⟨m - 1, by omega⟩
    obtain ⟨m', rfl⟩ : ∃ q, m' = q + 1 := ⟨m' - 1, by omega⟩
    rw [List.length_cons] at h1 h2 he hm hm'
    have hc0 := hc 0 (by rw [List.length_cons]; omega)
    have c1 : σ.2.1 37 i = v := hc0.1
    have c2 : τ.2.1 28 j = opM v := hc0.2.1
    have c3 : τ.2.1 29 j = agM v := hc0.2.2
    have hcr : ∀ o, o < r.length → σ.2.1 37 (i + 1 + o) = r.getD o 0 ∧ τ.2.1 28 (j + 1 + o) = opM (r.getD o 0) ∧ τ.2.1 29 (j + 1 + o) = agM (r.getD o 0) := by
      intro o ho
      have := hc (o + 1) (by rw [List.length_cons]; omega)
      rw [show i + 1 + o = i + (o + 1) by omega, show j + 1 + o = j + (o + 1) by omega]
      exact this
    have ex : ∃ ts', tyS v ts = some ts' ∧ tyL r ts' = some [b] := by
      have hty : (tyS v ts).bind (tyL r) = some [b] := hty
      cases e : tyS v ts with
      | none => rw [e] at hty; cases hty
      | some t => rw [e] at hty; exact ⟨t, rfl, hty⟩
    obtain ⟨ts', t1, t2⟩ := ex
    have hp' : ts.length + ((if -10 < v then 1 else 0) + pus r) ≤ 80 := hp
    rw [show i + (v :: r).length = i + 1 + r.length by rw [List.length_cons]; omega]
    have he' : 420 * x3 + x2 = nI (j + 1 + r.length) := by rw [he]; congr 1; omega
    have step : ∀ A1 B1, SR ts' A1 B1 → ts'.length + pus r ≤ 80 → ∃ (v : Int64) (A' B' : Nat → Int64), f_X2_valueOf_10 a3 (nI (i + 1 + r.length)) m (nI ts'.length) (nI (i + 1)) (stL σ 44 A1) = some (v, stL σ 44 A') ∧ f_X11_works_12 x2 x3 m' (nI ts'.length) (nI (j + 1)) (stL τ 33 B1) = some (v, stL τ 33 B') ∧ (b = true → b01 v) := fun A1 B1 hS1 hp1 => ih ts' b (i + 1) (j + 1) m m' A1 B1 (by omega) (by omega) he' hcr t2 hS1 hp1 (by omega) (by omega)
    unfold tyS at t1
    by_cases v10 : -10 < v
    · rw [if_pos v10] at t1 hp'
      have hts' : ts' = false :: ts := (Option.some.inj t1).symm
      subst hts'
      have nv : ¬ v ≤ -10 := nleI v10
      have lt90 : ts.length < 90 := by omega
      have o1 : opM v = if 0 ≤ v then 0 else 1 := if_pos v10
      have o2 : agM v = if 0 ≤ v then v else -1 - v := if_pos v10
      by_cases v0 : 0 ≤ v
      · rw [if_pos v0] at o1 o2
        rw [pushC (x := v.toInt64) (show i < i + 1 + r.length by omega) (show i < Ln by omega) (by omega) (by omega) hlen c1 nv lt90 (Or.inl ⟨v0, rfl⟩), pushMn (show j < j + 1 + r.length by omega) (by omega) he' (c2.trans o1) lt90, c3, o2]
        refine step _ _ ⟨⟨?_, fun z => by cases z⟩, hS.upd (Nat.le_refl _) (Nat.le_refl _) _ _⟩ (by rw [List.length_cons]; omega)
        rw [updL_at, updL_at]
      · rw [if_neg v0] at o1 o2
        obtain ⟨k, hk, ek⟩ := wd_of v10 v0
        have w1 : f_X2_wordOf a3 v (stL σ 44 A) = some (wd k) := wordC ha (fun q hq => by rw [stL3, if_neg hane]; exact hw q hq) hk ek
        have w2 : f_X11_wordNow (τ.2.1 29 j) (stL τ 33 B) = some (wd k) := by rw [c3, o2, ek]; exact hwM k hk B
        rw [pushC (x := wd k) (show i < i + 1 + r.length by omega) (show i < Ln by omega) (by omega) (by omega) hlen c1 nv lt90 (Or.inr ⟨v0, w1⟩), pushMw (show j < j + 1 + r.length by omega) (by omega) he' (c2.trans o1) lt90 w2]
        refine step _ _ ⟨⟨?_, fun z => by cases z⟩, hS.upd (Nat.le_refl _) (Nat.le_refl _) _ _⟩ (by rw [List.length_cons]; omega)
        rw [updL_at, updL_at]
    · rw [if_neg v10] at t1 hp'
      have pv : v ≤ -10 := leI_n v10
      by_cases vn : v = -10
      · rw [if_pos vn] at t1
        unfold ty1 at t1
        split at t1
        · next a r' =>
          split at t1
          · next ha1 =>
            subst ha1
            have hts' : ts' = true :: r' := (Option.some.inj t1).symm
            subst hts'
            obtain ⟨⟨s1, s2⟩, s3⟩ := hS
            rw [List.length_cons] at hp' ⊢
            rw [notC (show i < i + 1 + r.length by omega) (show i < Ln by omega) (by omega) (by omega) hlen (c1.trans vn) (by omega), notM (show j < j + 1 + r.length by omega) (by omega) he' (c2.trans (by rw [vn]; decide)) (by omega)]
            refine step _ _ ⟨⟨?_, fun _ => ?_⟩, s3.upd (Nat.le_refl _) (Nat.le_refl _) _ _⟩ (by rw [List.length_cons]; omega)
            · rw [updL_at, updL_at, ← s1]
              rcases s2 rfl with z | z <;> rw [z] <;> decide
            · rw [updL_at]; exact if10 _
          · cases t1
        · cases t1
      · rw [if_neg vn] at t1
        have o0 : ∀ (c : Int32), opM v = c → (c ≠ 0 ∧ c ≠ 1 ∧ c ≠ 10) → ¬ opM v = 0 ∧ ¬ opM v = 1 ∧ ¬ opM v = 10 := fun c e1 e2 => by rw [e1]; exact e2
        have two : ∀ (p q : Bool), ty2 p q ts = some ts' → (¬ opM v = 0 ∧ ¬ opM v = 1 ∧ ¬ opM v = 10) → (∀ a b : Int64, (p = true → b01 a) → (p = true → b01 b) → f_X2_join v a b = rJ (opM v) a b ∧ (q = true → b01 (f_X2_join v a b))) → ∃ (u : Int64) (A' B' : Nat → Int64), f_X2_valueOf_10 a3 (nI (i + 1 + r.length)) (m + 1) (nI ts.length) (nI i) (stL σ 44 A) = some (u, stL σ 44 A') ∧ f_X11_works_12 x2 x3 (m' + 1) (nI ts.length) (nI j) (stL τ 33 B) = some (u, stL τ 33 B') ∧ (b = true → b01 u) := by
          intro p q ht hop hj
          unfold ty2 at ht
          split at ht
          · next a1 b1 r' =>
            split at ht
            · next hab =>
              obtain ⟨rfl, rfl⟩ := hab
              have hts' : ts' = q :: r' := (Option.some.inj ht).symm
              subst hts'
              obtain ⟨⟨s1, s2⟩, ⟨s3, s4⟩, s5⟩ := hS
              rw [List.length_cons] at s1 s2
              rw [List.length_cons, List.length_cons] at hp' ⊢
              obtain ⟨j1, j2⟩ := hj (A r'.length) (A (r'.length + 1)) s4 s2
              rw [binC (show i < i + 1 + r.length by omega) (show i < Ln by omega) (by omega) (by omega) hlen c1 pv vn (show r'.length < 90 by omega), binM (show j < j + 1 + r.length by omega) (by omega) he' c2 hop.1 hop.2.1 hop.2.2 (show r'.length < 90 by omega), ← s1, ← s3, ← j1]
              refine step _ _ ⟨⟨?_, fun z => ?_⟩, s5.upd (Nat.le_refl _) (Nat.le_refl _) _ _⟩ (by rw [List.length_cons]; omega)
              · rw [updL_at, updL_at]
              · rw [updL_at]; exact j2 z
            · cases ht
          · cases ht
        by_cases vb : v = -11 ∨ v = -12
        · rw [if_pos vb] at t1
          exact two true true t1 (by rcases vb with rfl | rfl <;> exact ⟨by decide, by decide, by decide⟩) (fun a b h1 h2 => ⟨(bin_b vb (h1 rfl) (h2 rfl)).1, fun _ => (bin_b vb (h1 rfl) (h2 rfl)).2⟩)
        · rw [if_neg vb] at t1
          by_cases va : v = -13 ∨ v = -14 ∨ v = -15
          · rw [if_pos va] at t1
            exact two false false t1 (by rcases va with rfl | rfl | rfl <;> exact ⟨by decide, by decide, by decide⟩) (fun a b _ _ => ⟨bin_n va a b, fun z => by cases z⟩)
          · rw [if_neg va] at t1
            by_cases vc : v = -16 ∨ v = -17 ∨ v = -18 ∨ v = -19 ∨ v = -20
            · rw [if_pos vc] at t1
              exact two false true t1 (by rcases vc with rfl | rfl | rfl | rfl | rfl <;> exact ⟨by decide, by decide, by decide⟩) (fun a b _ _ => ⟨(bin_c vc a b).1, fun _ => (bin_c vc a b).2⟩)
            · rw [if_neg vc] at t1
              cases t1
end EL
