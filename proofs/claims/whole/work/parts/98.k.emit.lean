/-! small steps of the class's reading -/
set_option maxHeartbeats 200000 in
theorem emitC {σ : St} {Ln j : Nat} (h1 : σ.1 3799 = nI Ln) (h2 : σ.1 408 = nI j) (hL : Ln < 9000) (hj : j < Ln) (v : Int32) : f_X2_emit v σ = some (sF (sA σ 37 j v) 408 (nI (j + 1))) := by
  have hl : lnO tC σ 37 = Ln := by show (σ.1 3799).toNatClampNeg = Ln; rw [h1, nI_clamp (by omega)]
  have h3 : ¬ lenI tC σ 37 ≤ nI j := by unfold lenI; rw [hl]; exact nI_ge hj (by omega)
  unfold f_X2_emit
  rw [show gF σ 408 = nI j from h2, if_neg h3, wrN rfl hl hj (by omega), bS, bndE, show gF (sA σ 37 j v) 408 = nI j from h2, show nI j + 1 = nI (j + 1) from nI_add _ 1]
set_option maxHeartbeats 200000 in
theorem failC0 {σ : St} {p : Nat} (h9 : σ.1 509 = 0) (h5 : σ.1 505 = nI p) (k : Nat) : f_X4_fail (nI k) σ = some (sF σ 509 (nI (1 + 8 * p + k))) := by
  unfold f_X4_fail
  rw [if_pos (show gF σ 509 = 0 from h9), bndE, show gF σ 505 = nI p from h5, show (1 : Int32) + 8 * nI p + nI k = nI (1 + 8 * p + k) by rw [show (8 : Int32) = nI 8 from rfl, pk_mul, show (1 : Int32) = nI 1 from rfl, nI_add, nI_add]]
set_option maxHeartbeats 200000 in
theorem failC1 {σ : St} (h9 : ¬ σ.1 509 = 0) (k : Int32) : f_X4_fail k σ = some σ := by
  unfold f_X4_fail
  rw [if_neg (show ¬ gF σ 509 = 0 from h9)]
set_option maxHeartbeats 200000 in
theorem failM {τ : St} (h9 : τ.1 39 = 0) (k p : Nat) : f_X11_fails (nI k) (nI p) τ = some (0, sF τ 39 (nI (1 + 8 * p + k))) := by
  unfold f_X11_fails
  rw [if_pos (show gF τ 39 = 0 from h9), bndE, show (1 : Int32) + 8 * nI p + nI k = nI (1 + 8 * p + k) by rw [show (8 : Int32) = nI 8 from rfl, pk_mul, show (1 : Int32) = nI 1 from rfl, nI_add, nI_add]]
set_option maxHeartbeats 200000 in
theorem laysM {τ : St} {s j : Nat} (h5 : τ.1 25 = nI s) (h3 : τ.1 35 = nI j) (hs : s < 12) (hj : j < 420) (x y : Int32) : f_X11_lays x y τ = some (sF (sA (sA τ 28 (420 * s + j) x) 29 (420 * s + j) y) 35 (nI (j + 1))) := by
  unfold f_X11_lays
  rw [show gF τ 25 = nI s from h5, show gF τ 35 = nI j from h3, show (420 : Int32) * nI s + nI j = nI (420 * s + j) from ixc 420 _ _, wrM_28 (by omega), bS, show gF (sA τ 28 (420 * s + j) x) 25 = nI s from h5, show gF (sA τ 28 (420 * s + j) x) 35 = nI j from h3, show (420 : Int32) * nI s + nI j = nI (420 * s + j) from ixc 420 _ _, wrM_29 (by omega), bS, bndE, show gF (sA (sA τ 28 (420 * s + j) x) 29 (420 * s + j) y) 35 = nI j from h3, show nI j + 1 = nI (j + 1) from nI_add _ 1]
set_option maxHeartbeats 200000 in
theorem waitsM {τ : St} {j : Nat} (h3 : τ.1 43 = nI j) (hj : j < 420) (x : Int32) : f_X11_waits x τ = some (sF (sA τ 30 j x) 43 (nI (j + 1))) := by
  unfold f_X11_waits
  rw [show gF τ 43 = nI j from h3, wrM_30 (by omega), bS, bndE, show gF (sA τ 30 j x) 43 = nI j from h3, show nI j + 1 = nI (j + 1) from nI_add _ 1]
