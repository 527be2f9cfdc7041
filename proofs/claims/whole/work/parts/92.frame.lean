/-! what an operation leaves alone keeps a part of the agreement -/
section FRM
variable {σ τ σ' τ' : St} {Ks As Ls Ks' As' Ls' : List Nat}
set_option maxHeartbeats 200000 in
theorem M_now.fr (h : M_now σ τ) (f : Fr Ks As Ls σ σ') (g : Fr Ks' As' Ls' τ τ') (d : (∀ a ∈ ([0] : List Nat), a ∉ Ks) ∧ (∀ a ∈ ([] : List Nat), a ∉ As) ∧ (∀ a ∈ ([0] : List Nat), a ∉ Ks') ∧ (∀ a ∈ ([] : List Nat), a ∉ As')) : M_now σ' τ' := by
  unfold M_now at h ⊢
  rw [f.1 0 (d.1 0 (by decide)), g.1 0 (d.2.2.1 0 (by decide))]
  exact h
set_option maxHeartbeats 200000 in
theorem M_dep.fr (h : M_dep σ τ) (f : Fr Ks As Ls σ σ') (g : Fr Ks' As' Ls' τ τ') (d : (∀ a ∈ ([] : List Nat), a ∉ Ks) ∧ (∀ a ∈ ([14] : List Nat), a ∉ As) ∧ (∀ a ∈ ([] : List Nat), a ∉ Ks') ∧ (∀ a ∈ ([1] : List Nat), a ∉ As')) : M_dep σ' τ' := by
  unfold M_dep at h ⊢
  rw [f.2.1 14 (d.2.1 14 (by decide)), g.2.1 1 (d.2.2.2 1 (by decide))]
  exact h
set_option maxHeartbeats 200000 in
theorem M_pts.fr (h : M_pts σ τ) (f : Fr Ks As Ls σ σ') (g : Fr Ks' As' Ls' τ τ') (d : (∀ a ∈ ([104, 105] : List Nat), a ∉ Ks) ∧ (∀ a ∈ ([15, 16, 17] : List Nat), a ∉ As) ∧ (∀ a ∈ ([21, 22] : List Nat), a ∉ Ks') ∧ (∀ a ∈ ([15, 16, 17] : List Nat), a ∉ As')) : M_pts σ' τ' := by
  unfold M_pts at h ⊢
  rw [f.1 104 (d.1 104 (by decide)), f.1 105 (d.1 105 (by decide)), f.2.1 15 (d.2.1 15 (by decide)), f.2.1 16 (d.2.1 16 (by decide)), f.2.1 17 (d.2.1 17 (by decide)), g.1 21 (d.2.2.1 21 (by decide)), g.1 22 (d.2.2.1 22 (by decide)), g.2.1 15 (d.2.2.2 15 (by decide)), g.2.1 16 (d.2.2.2 16 (by decide)), g.2.1 17 (d.2.2.2 17 (by decide))]
  exact h
set_option maxHeartbeats 200000 in
theorem M_shp.fr (h : M_shp σ τ) (f : Fr Ks As Ls σ σ') (g : Fr Ks' As' Ls' τ τ') (d : (∀ a ∈ ([204] : List Nat), a ∉ Ks) ∧ (∀ a ∈ ([18, 19, 20, 21] : List Nat), a ∉ As) ∧ (∀ a ∈ ([2] : List Nat), a ∉ Ks') ∧ (∀ a ∈ ([2, 3, 4, 5] : List Nat), a ∉ As')) : M_shp σ' τ' := by
  unfold M_shp at h ⊢
  rw [f.1 204 (d.1 204 (by decide)), f.2.1 18 (d.2.1 18 (by decide)), f.2.1 19 (d.2.1 19 (by decide)), f.2.1 20 (d.2.1 20 (by decide)), f.2.1 21 (d.2.1 21 (by decide)), g.1 2 (d.2.2.1 2 (by decide)), g.2.1 2 (d.2.2.2 2 (by decide)), g.2.1 3 (d.2.2.2 3 (by decide)), g.2.1 4 (d.2.2.2 4 (by decide)), g.2.1 5 (d.2.2.2 5 (by decide))]
  exact h
set_option maxHeartbeats 200000 in
theorem M_tap.fr (h : M_tap σ τ) (f : Fr Ks As Ls σ σ') (g : Fr Ks' As' Ls' τ τ') (d : (∀ a ∈ ([502] : List Nat), a ∉ Ks) ∧ (∀ a ∈ ([45] : List Nat), a ∉ As) ∧ (∀ a ∈ ([24] : List Nat), a ∉ Ks') ∧ (∀ a ∈ ([18] : List Nat), a ∉ As')) : M_tap σ' τ' := by
  unfold M_tap at h ⊢
  rw [f.1 502 (d.1 502 (by decide)), f.2.1 45 (d.2.1 45 (by decide)), g.1 24 (d.2.2.1 24 (by decide)), g.2.1 18 (d.2.2.2 18 (by decide))]
  exact h
set_option maxHeartbeats 200000 in
theorem M_act.fr (h : M_act σ τ) (f : Fr Ks As Ls σ σ') (g : Fr Ks' As' Ls' τ τ') (d : (∀ a ∈ ([9, 204] : List Nat), a ∉ Ks) ∧ (∀ a ∈ ([13] : List Nat), a ∉ As) ∧ (∀ a ∈ ([53] : List Nat), a ∉ Ks') ∧ (∀ a ∈ ([34, 35, 36, 37, 38] : List Nat), a ∉ As')) : M_act σ' τ' := by
  unfold M_act at h ⊢
  rw [f.1 9 (d.1 9 (by decide)), f.1 204 (d.1 204 (by decide)), f.2.1 13 (d.2.1 13 (by decide)), g.1 53 (d.2.2.1 53 (by decide)), g.2.1 34 (d.2.2.2 34 (by decide)), g.2.1 35 (d.2.2.2 35 (by decide)), g.2.1 36 (d.2.2.2 36 (by decide)), g.2.1 37 (d.2.2.2 37 (by decide)), g.2.1 38 (d.2.2.2 38 (by decide))]
  exact h
set_option maxHeartbeats 200000 in
theorem M_stk.fr (h : M_stk σ τ) (f : Fr Ks As Ls σ σ') (g : Fr Ks' As' Ls' τ τ') (d : (∀ a ∈ ([] : List Nat), a ∉ Ks) ∧ (∀ a ∈ ([50, 51, 52] : List Nat), a ∉ As) ∧ (∀ a ∈ ([] : List Nat), a ∉ Ks') ∧ (∀ a ∈ ([41, 42, 43] : List Nat), a ∉ As')) : M_stk σ' τ' := by
  unfold M_stk at h ⊢
  rw [f.2.1 50 (d.2.1 50 (by decide)), f.2.1 51 (d.2.1 51 (by decide)), f.2.1 52 (d.2.1 52 (by decide)), g.2.1 41 (d.2.2.2 41 (by decide)), g.2.1 42 (d.2.2.2 42 (by decide)), g.2.1 43 (d.2.2.2 43 (by decide))]
  exact h
set_option maxHeartbeats 200000 in
theorem M_age.fr (h : M_age σ τ) (f : Fr Ks As Ls σ σ') (g : Fr Ks' As' Ls' τ τ') (d : (∀ a ∈ ([] : List Nat), a ∉ Ks) ∧ (∀ a ∈ ([53, 54, 55] : List Nat), a ∉ As) ∧ (∀ a ∈ ([] : List Nat), a ∉ Ks') ∧ (∀ a ∈ ([44, 45, 46] : List Nat), a ∉ As')) : M_age σ' τ' := by
  unfold M_age at h ⊢
  rw [f.2.1 53 (d.2.1 53 (by decide)), f.2.1 54 (d.2.1 54 (by decide)), f.2.1 55 (d.2.1 55 (by decide)), g.2.1 44 (d.2.2.2 44 (by decide)), g.2.1 45 (d.2.2.2 45 (by decide)), g.2.1 46 (d.2.2.2 46 (by decide))]
  exact h
set_option maxHeartbeats 200000 in
theorem M_twn.fr (h : M_twn σ τ) (f : Fr Ks As Ls σ σ') (g : Fr Ks' As' Ls' τ τ') (d : (∀ a ∈ ([804, 806] : List Nat), a ∉ Ks) ∧ (∀ a ∈ ([58, 59, 60, 61, 62] : List Nat), a ∉ As) ∧ (∀ a ∈ ([71, 76] : List Nat), a ∉ Ks') ∧ (∀ a ∈ ([48, 49, 50, 51, 52, 53, 54] : List Nat), a ∉ As')) : M_twn σ' τ' := by
  unfold M_twn at h ⊢
  rw [f.1 804 (d.1 804 (by decide)), f.1 806 (d.1 806 (by decide)), f.2.1 58 (d.2.1 58 (by decide)), f.2.1 59 (d.2.1 59 (by decide)), f.2.1 60 (d.2.1 60 (by decide)), f.2.1 61 (d.2.1 61 (by decide)), f.2.1 62 (d.2.1 62 (by decide)), g.1 71 (d.2.2.1 71 (by decide)), g.1 76 (d.2.2.1 76 (by decide)), g.2.1 48 (d.2.2.2 48 (by decide)), g.2.1 49 (d.2.2.2 49 (by decide)), g.2.1 50 (d.2.2.2 50 (by decide)), g.2.1 51 (d.2.2.2 51 (by decide)), g.2.1 52 (d.2.2.2 52 (by decide)), g.2.1 53 (d.2.2.2 53 (by decide)), g.2.1 54 (d.2.2.2 54 (by decide))]
  exact h
set_option maxHeartbeats 200000 in
theorem M_not.fr (h : M_not σ τ) (f : Fr Ks As Ls σ σ') (g : Fr Ks' As' Ls' τ τ') (d : (∀ a ∈ ([902] : List Nat), a ∉ Ks) ∧ (∀ a ∈ ([63, 64] : List Nat), a ∉ As) ∧ (∀ a ∈ ([80] : List Nat), a ∉ Ks') ∧ (∀ a ∈ ([55, 56] : List Nat), a ∉ As')) : M_not σ' τ' := by
  unfold M_not at h ⊢
  rw [f.1 902 (d.1 902 (by decide)), f.2.1 63 (d.2.1 63 (by decide)), f.2.1 64 (d.2.1 64 (by decide)), g.1 80 (d.2.2.1 80 (by decide)), g.2.1 55 (d.2.2.2 55 (by decide)), g.2.1 56 (d.2.2.2 56 (by decide))]
  exact h
set_option maxHeartbeats 200000 in
theorem M_box.fr (h : M_box σ τ) (f : Fr Ks As Ls σ σ') (g : Fr Ks' As' Ls' τ τ') (d : (∀ a ∈ ([1003] : List Nat), a ∉ Ks) ∧ (∀ a ∈ ([65, 66, 67] : List Nat), a ∉ As) ∧ (∀ a ∈ ([83] : List Nat), a ∉ Ks') ∧ (∀ a ∈ ([57, 58, 59] : List Nat), a ∉ As')) : M_box σ' τ' := by
  unfold M_box at h ⊢
  rw [f.1 1003 (d.1 1003 (by decide)), f.2.1 65 (d.2.1 65 (by decide)), f.2.1 66 (d.2.1 66 (by decide)), f.2.1 67 (d.2.1 67 (by decide)), g.1 83 (d.2.2.1 83 (by decide)), g.2.1 57 (d.2.2.2 57 (by decide)), g.2.1 58 (d.2.2.2 58 (by decide)), g.2.1 59 (d.2.2.2 59 (by decide))]
  exact h
set_option maxHeartbeats 200000 in
theorem M_esc.fr (h : M_esc σ τ) (f : Fr Ks As Ls σ σ') (g : Fr Ks' As' Ls' τ τ') (d : (∀ a ∈ ([1007, 1008] : List Nat), a ∉ Ks) ∧ (∀ a ∈ ([69, 70] : List Nat), a ∉ As) ∧ (∀ a ∈ ([88, 89, 90] : List Nat), a ∉ Ks') ∧ (∀ a ∈ ([61, 62] : List Nat), a ∉ As')) : M_esc σ' τ' := by
  unfold M_esc at h ⊢
  rw [f.1 1007 (d.1 1007 (by decide)), f.1 1008 (d.1 1008 (by decide)), f.2.1 69 (d.2.1 69 (by decide)), f.2.1 70 (d.2.1 70 (by decide)), g.1 88 (d.2.2.1 88 (by decide)), g.1 89 (d.2.2.1 89 (by decide)), g.1 90 (d.2.2.1 90 (by decide)), g.2.1 61 (d.2.2.2 61 (by decide)), g.2.1 62 (d.2.2.2 62 (by decide))]
  exact h
set_option maxHeartbeats 200000 in
theorem M_rep.fr (h : M_rep σ τ) (f : Fr Ks As Ls σ σ') (g : Fr Ks' As' Ls' τ τ') (d : (∀ a ∈ ([307, 204] : List Nat), a ∉ Ks) ∧ (∀ a ∈ ([22, 23, 24, 25, 26, 27, 28] : List Nat), a ∉ As) ∧ (∀ a ∈ ([7] : List Nat), a ∉ Ks') ∧ (∀ a ∈ ([6, 7, 8, 9, 10, 11] : List Nat), a ∉ As')) : M_rep σ' τ' := by
  unfold M_rep at h ⊢
  rw [f.1 307 (d.1 307 (by decide)), f.1 204 (d.1 204 (by decide)), f.2.1 22 (d.2.1 22 (by decide)), f.2.1 23 (d.2.1 23 (by decide)), f.2.1 24 (d.2.1 24 (by decide)), f.2.1 25 (d.2.1 25 (by decide)), f.2.1 26 (d.2.1 26 (by decide)), f.2.1 27 (d.2.1 27 (by decide)), f.2.1 28 (d.2.1 28 (by decide)), g.1 7 (d.2.2.1 7 (by decide)), g.2.1 6 (d.2.2.2 6 (by decide)), g.2.1 7 (d.2.2.2 7 (by decide)), g.2.1 8 (d.2.2.2 8 (by decide)), g.2.1 9 (d.2.2.2 9 (by decide)), g.2.1 10 (d.2.2.2 10 (by decide)), g.2.1 11 (d.2.2.2 11 (by decide))]
  exact h
set_option maxHeartbeats 200000 in
theorem M_chn.fr (h : M_chn σ τ) (f : Fr Ks As Ls σ σ') (g : Fr Ks' As' Ls' τ τ') (d : (∀ a ∈ ([311] : List Nat), a ∉ Ks) ∧ (∀ a ∈ ([31] : List Nat), a ∉ As) ∧ (∀ a ∈ ([14] : List Nat), a ∉ Ks') ∧ (∀ a ∈ ([12] : List Nat), a ∉ As')) : M_chn σ' τ' := by
  unfold M_chn at h ⊢
  rw [f.1 311 (d.1 311 (by decide)), f.2.1 31 (d.2.1 31 (by decide)), g.1 14 (d.2.2.1 14 (by decide)), g.2.1 12 (d.2.2.2 12 (by decide))]
  exact h
set_option maxHeartbeats 200000 in
theorem M_hok.fr (h : M_hok σ τ) (f : Fr Ks As Ls σ σ') (g : Fr Ks' As' Ls' τ τ') (d : (∀ a ∈ ([611] : List Nat), a ∉ Ks) ∧ (∀ a ∈ ([] : List Nat), a ∉ As) ∧ (∀ a ∈ ([61] : List Nat), a ∉ Ks') ∧ (∀ a ∈ ([] : List Nat), a ∉ As')) : M_hok σ' τ' := by
  unfold M_hok at h ⊢
  rw [f.1 611 (d.1 611 (by decide)), g.1 61 (d.2.2.1 61 (by decide))]
  exact h
set_option maxHeartbeats 200000 in
theorem M_law.fr (h : M_law σ τ) (f : Fr Ks As Ls σ σ') (g : Fr Ks' As' Ls' τ τ') (d : (∀ a ∈ ([400, 3799, 407] : List Nat), a ∉ Ks) ∧ (∀ a ∈ ([32, 33, 34, 35, 36, 37, 38, 39, 40, 41, 42, 43] : List Nat), a ∉ As) ∧ (∀ a ∈ ([25] : List Nat), a ∉ Ks') ∧ (∀ a ∈ ([19, 20, 21, 22, 23, 24, 25, 26, 27, 28, 29] : List Nat), a ∉ As')) : M_law σ' τ' := by
  obtain ⟨L, ks, Ln, K, h1, h2, h3⟩ := h
  obtain ⟨d1, d2, d3, d4⟩ := d
  refine ⟨L, ks, Ln, K, h1.fr f g ⟨d1 400 (by decide), d1 3799 (by decide), ⟨d2 32 (by decide), d2 33 (by decide), d2 34 (by decide), d2 35 (by decide), d2 36 (by decide), d2 37 (by decide)⟩, d2 38 (by decide), d2 39 (by decide), d2 40 (by decide), d2 41 (by decide), d2 42 (by decide), d2 43 (by decide)⟩ ⟨d3 25 (by decide), ⟨d4 19 (by decide), d4 20 (by decide), d4 21 (by decide), d4 22 (by decide), d4 23 (by decide), d4 24 (by decide)⟩, d4 25 (by decide), d4 26 (by decide), d4 27 (by decide), d4 28 (by decide), d4 29 (by decide)⟩, ?_, h3⟩
  rw [f.1 407 (d1 407 (by decide))]
  exact h2
end FRM
