/-! how long each array is; programs over numbers -/
theorem lnC_11 (σ : St) : lnO tC σ 11 = 9 := rfl
theorem lnC_12 (σ : St) : lnO tC σ 12 = 9 := rfl
theorem lnC_13 (σ : St) : lnO tC σ 13 = 750 := rfl
theorem lnC_14 (σ : St) : lnO tC σ 14 = 576 := rfl
theorem lnC_15 (σ : St) : lnO tC σ 15 = 32 := rfl
theorem lnC_16 (σ : St) : lnO tC σ 16 = 32 := rfl
theorem lnC_17 (σ : St) : lnO tC σ 17 = 2 := rfl
theorem lnC_18 (σ : St) : lnO tC σ 18 = 40 := rfl
theorem lnC_19 (σ : St) : lnO tC σ 19 = 40 := rfl
theorem lnC_20 (σ : St) : lnO tC σ 20 = 40 := rfl
theorem lnC_21 (σ : St) : lnO tC σ 21 = 40 := rfl
theorem lnC_22 (σ : St) : lnO tC σ 22 = 300 := rfl
theorem lnC_23 (σ : St) : lnO tC σ 23 = 300 := rfl
theorem lnC_24 (σ : St) : lnO tC σ 24 = 300 := rfl
theorem lnC_25 (σ : St) : lnO tC σ 25 = 300 := rfl
theorem lnC_26 (σ : St) : lnO tC σ 26 = 300 := rfl
theorem lnC_27 (σ : St) : lnO tC σ 27 = 300 := rfl
theorem lnC_28 (σ : St) : lnO tC σ 28 = 300 := rfl
theorem lnC_29 (σ : St) : lnO tC σ 29 = 300 := rfl
theorem lnC_30 (σ : St) : lnO tC σ 30 = 300 := rfl
theorem lnC_31 (σ : St) : lnO tC σ 31 = 300 := rfl
theorem lnC_32 (σ : St) : lnO tC σ 32 = 12 := rfl
theorem lnC_33 (σ : St) : lnO tC σ 33 = 12 := rfl
theorem lnC_34 (σ : St) : lnO tC σ 34 = 12 := rfl
theorem lnC_35 (σ : St) : lnO tC σ 35 = 12 := rfl
theorem lnC_36 (σ : St) : lnO tC σ 36 = 12 := rfl
theorem lnC_38 (σ : St) : lnO tC σ 38 = 144 := rfl
theorem lnC_39 (σ : St) : lnO tC σ 39 = 144 := rfl
theorem lnC_40 (σ : St) : lnO tC σ 40 = 144 := rfl
theorem lnC_41 (σ : St) : lnO tC σ 41 = 144 := rfl
theorem lnC_42 (σ : St) : lnO tC σ 42 = 144 := rfl
theorem lnC_43 (σ : St) : lnO tC σ 43 = 144 := rfl
theorem lnC_44 (σ : St) : lnO tC σ 44 = 96 := rfl
theorem lnC_45 (σ : St) : lnO tC σ 45 = 400 := rfl
theorem lnC_46 (σ : St) : lnO tC σ 46 = 130 := rfl
theorem lnC_47 (σ : St) : lnO tC σ 47 = 650 := rfl
theorem lnC_48 (σ : St) : lnO tC σ 48 = 650 := rfl
theorem lnC_49 (σ : St) : lnO tC σ 49 = 650 := rfl
theorem lnC_50 (σ : St) : lnO tC σ 50 = 2 := rfl
theorem lnC_51 (σ : St) : lnO tC σ 51 = 2 := rfl
theorem lnC_52 (σ : St) : lnO tC σ 52 = 120 := rfl
theorem lnC_53 (σ : St) : lnO tC σ 53 = 8 := rfl
theorem lnC_54 (σ : St) : lnO tC σ 54 = 8 := rfl
theorem lnC_55 (σ : St) : lnO tC σ 55 = 8 := rfl
theorem lnC_56 (σ : St) : lnO tC σ 56 = 8 := rfl
theorem lnC_57 (σ : St) : lnO tC σ 57 = 8 := rfl
theorem lnC_58 (σ : St) : lnO tC σ 58 = 8 := rfl
theorem lnC_59 (σ : St) : lnO tC σ 59 = 8 := rfl
theorem lnC_60 (σ : St) : lnO tC σ 60 = 8 := rfl
theorem lnC_61 (σ : St) : lnO tC σ 61 = 8 := rfl
theorem lnC_62 (σ : St) : lnO tC σ 62 = 800 := rfl
theorem lnC_63 (σ : St) : lnO tC σ 63 = 9 := rfl
theorem lnC_64 (σ : St) : lnO tC σ 64 = 9 := rfl
theorem lnC_65 (σ : St) : lnO tC σ 65 = 6 := rfl
theorem lnC_66 (σ : St) : lnO tC σ 66 = 6 := rfl
theorem lnC_67 (σ : St) : lnO tC σ 67 = 6 := rfl
theorem lnC_68 (σ : St) : lnO tC σ 68 = 637 := rfl
theorem lnC_69 (σ : St) : lnO tC σ 69 = 6 := rfl
theorem lnC_70 (σ : St) : lnO tC σ 70 = 6 := rfl
theorem lnM_1 (σ : St) : lnO tM σ 1 = 576 := rfl
theorem lnM_2 (σ : St) : lnO tM σ 2 = 40 := rfl
theorem lnM_3 (σ : St) : lnO tM σ 3 = 40 := rfl
theorem lnM_4 (σ : St) : lnO tM σ 4 = 40 := rfl
theorem lnM_5 (σ : St) : lnO tM σ 5 = 40 := rfl
theorem lnM_6 (σ : St) : lnO tM σ 6 = 300 := rfl
theorem lnM_7 (σ : St) : lnO tM σ 7 = 300 := rfl
theorem lnM_8 (σ : St) : lnO tM σ 8 = 300 := rfl
theorem lnM_9 (σ : St) : lnO tM σ 9 = 300 := rfl
theorem lnM_10 (σ : St) : lnO tM σ 10 = 300 := rfl
theorem lnM_11 (σ : St) : lnO tM σ 11 = 300 := rfl
theorem lnM_12 (σ : St) : lnO tM σ 12 = 300 := rfl
theorem lnM_13 (σ : St) : lnO tM σ 13 = 300 := rfl
theorem lnM_14 (σ : St) : lnO tM σ 14 = 300 := rfl
theorem lnM_15 (σ : St) : lnO tM σ 15 = 2 := rfl
theorem lnM_16 (σ : St) : lnO tM σ 16 = 32 := rfl
theorem lnM_17 (σ : St) : lnO tM σ 17 = 32 := rfl
theorem lnM_18 (σ : St) : lnO tM σ 18 = 400 := rfl
theorem lnM_19 (σ : St) : lnO tM σ 19 = 12 := rfl
theorem lnM_20 (σ : St) : lnO tM σ 20 = 12 := rfl
theorem lnM_21 (σ : St) : lnO tM σ 21 = 12 := rfl
theorem lnM_22 (σ : St) : lnO tM σ 22 = 144 := rfl
theorem lnM_23 (σ : St) : lnO tM σ 23 = 144 := rfl
theorem lnM_24 (σ : St) : lnO tM σ 24 = 144 := rfl
theorem lnM_25 (σ : St) : lnO tM σ 25 = 144 := rfl
theorem lnM_26 (σ : St) : lnO tM σ 26 = 144 := rfl
theorem lnM_27 (σ : St) : lnO tM σ 27 = 144 := rfl
theorem lnM_28 (σ : St) : lnO tM σ 28 = 5040 := rfl
theorem lnM_29 (σ : St) : lnO tM σ 29 = 5040 := rfl
theorem lnM_30 (σ : St) : lnO tM σ 30 = 420 := rfl
theorem lnM_31 (σ : St) : lnO tM σ 31 = 9 := rfl
theorem lnM_32 (σ : St) : lnO tM σ 32 = 5 := rfl
theorem lnM_33 (σ : St) : lnO tM σ 33 = 100 := rfl
theorem lnM_34 (σ : St) : lnO tM σ 34 = 150 := rfl
theorem lnM_35 (σ : St) : lnO tM σ 35 = 150 := rfl
theorem lnM_36 (σ : St) : lnO tM σ 36 = 150 := rfl
theorem lnM_37 (σ : St) : lnO tM σ 37 = 150 := rfl
theorem lnM_38 (σ : St) : lnO tM σ 38 = 150 := rfl
theorem lnM_39 (σ : St) : lnO tM σ 39 = 16250 := rfl
theorem lnM_40 (σ : St) : lnO tM σ 40 = 16250 := rfl
theorem lnM_41 (σ : St) : lnO tM σ 41 = 2 := rfl
theorem lnM_42 (σ : St) : lnO tM σ 42 = 2 := rfl
theorem lnM_43 (σ : St) : lnO tM σ 43 = 120 := rfl
theorem lnM_44 (σ : St) : lnO tM σ 44 = 8 := rfl
theorem lnM_45 (σ : St) : lnO tM σ 45 = 8 := rfl
theorem lnM_46 (σ : St) : lnO tM σ 46 = 8 := rfl
theorem lnM_47 (σ : St) : lnO tM σ 47 = 16 := rfl
theorem lnM_48 (σ : St) : lnO tM σ 48 = 8 := rfl
theorem lnM_49 (σ : St) : lnO tM σ 49 = 8 := rfl
theorem lnM_50 (σ : St) : lnO tM σ 50 = 8 := rfl
theorem lnM_51 (σ : St) : lnO tM σ 51 = 8 := rfl
theorem lnM_52 (σ : St) : lnO tM σ 52 = 20 := rfl
theorem lnM_53 (σ : St) : lnO tM σ 53 = 20 := rfl
theorem lnM_54 (σ : St) : lnO tM σ 54 = 20 := rfl
theorem lnM_55 (σ : St) : lnO tM σ 55 = 9 := rfl
theorem lnM_56 (σ : St) : lnO tM σ 56 = 9 := rfl
theorem lnM_57 (σ : St) : lnO tM σ 57 = 6 := rfl
theorem lnM_58 (σ : St) : lnO tM σ 58 = 6 := rfl
theorem lnM_59 (σ : St) : lnO tM σ 59 = 6 := rfl
theorem lnM_60 (σ : St) : lnO tM σ 60 = 637 := rfl
theorem lnM_61 (σ : St) : lnO tM σ 61 = 6 := rfl
theorem lnM_62 (σ : St) : lnO tM σ 62 = 6 := rfl
theorem lnC_37 (σ : St) : lnO tC σ 37 = (σ.1 3799).toNatClampNeg := rfl
theorem sA1 (σ : St) (a i : Nat) (v : Int32) : (sA σ a i v).1 = σ.1 := rfl
theorem sL1 (σ : St) (a i : Nat) (v : Int64) : (sL σ a i v).1 = σ.1 := rfl
theorem stA1 (σ : St) (a : Nat) (f : Nat → Int32) : (stA σ a f).1 = σ.1 := rfl
theorem stL1 (σ : St) (a : Nat) (f : Nat → Int64) : (stL σ a f).1 = σ.1 := rfl
theorem sF1 (σ : St) (k j : Nat) (v : Int32) : (sF σ k v).1 j = if j = k then v else σ.1 j := rfl
theorem sA2 (σ : St) (a i b : Nat) (v : Int32) : (sA σ a i v).2.1 b = if b = a then upd (σ.2.1 a) i v else σ.2.1 b := rfl
theorem sL2 (σ : St) (a i : Nat) (v : Int64) : (sL σ a i v).2.1 = σ.2.1 := rfl
theorem stA2 (σ : St) (a b : Nat) (f : Nat → Int32) : (stA σ a f).2.1 b = if b = a then f else σ.2.1 b := rfl
theorem stL2 (σ : St) (a : Nat) (f : Nat → Int64) : (stL σ a f).2.1 = σ.2.1 := rfl
theorem sF2 (σ : St) (k : Nat) (v : Int32) : (sF σ k v).2.1 = σ.2.1 := rfl
theorem sA3 (σ : St) (a i : Nat) (v : Int32) : (sA σ a i v).2.2 = σ.2.2 := rfl
theorem sL3 (σ : St) (a i b : Nat) (v : Int64) : (sL σ a i v).2.2 b = if b = a then vp_updL (σ.2.2 a) i v else σ.2.2 b := rfl
theorem stA3 (σ : St) (a : Nat) (f : Nat → Int32) : (stA σ a f).2.2 = σ.2.2 := rfl
theorem stL3 (σ : St) (a b : Nat) (f : Nat → Int64) : (stL σ a f).2.2 b = if b = a then f else σ.2.2 b := rfl
theorem sF3 (σ : St) (k : Nat) (v : Int32) : (sF σ k v).2.2 = σ.2.2 := rfl
theorem nIp (n : Nat) (h : 0 < n) : nI n + (-1) = nI (n - 1) := by
  obtain ⟨m, rfl⟩ : ∃ m, n = m + 1 := ⟨n - 1, by omega⟩
  rw [pk_m1]; rfl
theorem nIs (n : Nat) (h : 0 < n) : nI n - 1 = nI (n - 1) := pk_sub h
theorem nI_le0 {n : Nat} (h : n < 2147483648) : (nI n ≤ 0) = (n = 0) := by
  have := nI_toInt h
  rw [leI, this]
  exact propext ⟨fun h => by have h : (n : Int) ≤ 0 := h; omega, fun h => by subst h; exact Int.le_refl _⟩
theorem nI_lt0 {n : Nat} (h : n < 2147483648) : (nI n < 0) = False := by
  have := nI_toInt h
  rw [ltI, this]
  exact propext ⟨fun h => by have h : (n : Int) < 0 := h; omega, fun h => h.elim⟩
theorem nI_leE {a b : Nat} (ha : a < 2147483648) (hb : b < 2147483648) : (nI a ≤ nI b) = (a ≤ b) := propext (nI_leI ha hb)
theorem nI_ltE {a b : Nat} (ha : a < 2147483648) (hb : b < 2147483648) : (nI a < nI b) = (a < b) := propext (nI_ltI ha hb)
theorem nI_eqE {a b : Nat} (ha : a < 2147483648) (hb : b < 2147483648) : (nI a = nI b) = (a = b) := propext (nI_eq ha hb)
theorem fuel_s : FU = 69999 + 1 := rfl
theorem rlC_11 {σ : St} {i : Nat} (h : i < 9) : rl tC σ 11 (nI i) = some (σ.2.2 11 i) := rlN rfl rfl h (show _ < _ from Nat.le_of_ble_eq_true rfl)
theorem wlC_11 {σ : St} {i : Nat} {v : Int64} (h : i < 9) : wl tC σ 11 (nI i) v = some (sL σ 11 i v) := wlN rfl rfl h (show _ < _ from Nat.le_of_ble_eq_true rfl)
theorem rlC_12 {σ : St} {i : Nat} (h : i < 9) : rl tC σ 12 (nI i) = some (σ.2.2 12 i) := rlN rfl rfl h (show _ < _ from Nat.le_of_ble_eq_true rfl)
theorem wlC_12 {σ : St} {i : Nat} {v : Int64} (h : i < 9) : wl tC σ 12 (nI i) v = some (sL σ 12 i v) := wlN rfl rfl h (show _ < _ from Nat.le_of_ble_eq_true rfl)
theorem rdC_13 {σ : St} {i : Nat} (h : i < 750) : rd tC σ 13 (nI i) = some (σ.2.1 13 i) := rdN rfl rfl h (show _ < _ from Nat.le_of_ble_eq_true rfl)
theorem wrC_13 {σ : St} {i : Nat} {v : Int32} (h : i < 750) : wr tC σ 13 (nI i) v = some (sA σ 13 i v) := wrN rfl rfl h (show _ < _ from Nat.le_of_ble_eq_true rfl)
theorem rdC_14 {σ : St} {i : Nat} (h : i < 576) : rd tC σ 14 (nI i) = some (σ.2.1 14 i) := rdN rfl rfl h (show _ < _ from Nat.le_of_ble_eq_true rfl)
theorem wrC_14 {σ : St} {i : Nat} {v : Int32} (h : i < 576) : wr tC σ 14 (nI i) v = some (sA σ 14 i v) := wrN rfl rfl h (show _ < _ from Nat.le_of_ble_eq_true rfl)
theorem rdC_15 {σ : St} {i : Nat} (h : i < 32) : rd tC σ 15 (nI i) = some (σ.2.1 15 i) := rdN rfl rfl h (show _ < _ from Nat.le_of_ble_eq_true rfl)
theorem wrC_15 {σ : St} {i : Nat} {v : Int32} (h : i < 32) : wr tC σ 15 (nI i) v = some (sA σ 15 i v) := wrN rfl rfl h (show _ < _ from Nat.le_of_ble_eq_true rfl)
theorem rdC_16 {σ : St} {i : Nat} (h : i < 32) : rd tC σ 16 (nI i) = some (σ.2.1 16 i) := rdN rfl rfl h (show _ < _ from Nat.le_of_ble_eq_true rfl)
theorem wrC_16 {σ : St} {i : Nat} {v : Int32} (h : i < 32) : wr tC σ 16 (nI i) v = some (sA σ 16 i v) := wrN rfl rfl h (show _ < _ from Nat.le_of_ble_eq_true rfl)
theorem rdC_17 {σ : St} {i : Nat} (h : i < 2) : rd tC σ 17 (nI i) = some (σ.2.1 17 i) := rdN rfl rfl h (show _ < _ from Nat.le_of_ble_eq_true rfl)
theorem wrC_17 {σ : St} {i : Nat} {v : Int32} (h : i < 2) : wr tC σ 17 (nI i) v = some (sA σ 17 i v) := wrN rfl rfl h (show _ < _ from Nat.le_of_ble_eq_true rfl)
theorem rdC_18 {σ : St} {i : Nat} (h : i < 40) : rd tC σ 18 (nI i) = some (σ.2.1 18 i) := rdN rfl rfl h (show _ < _ from Nat.le_of_ble_eq_true rfl)
theorem wrC_18 {σ : St} {i : Nat} {v : Int32} (h : i < 40) : wr tC σ 18 (nI i) v = some (sA σ 18 i v) := wrN rfl rfl h (show _ < _ from Nat.le_of_ble_eq_true rfl)
theorem rdC_19 {σ : St} {i : Nat} (h : i < 40) : rd tC σ 19 (nI i) = some (σ.2.1 19 i) := rdN rfl rfl h (show _ < _ from Nat.le_of_ble_eq_true rfl)
theorem wrC_19 {σ : St} {i : Nat} {v : Int32} (h : i < 40) : wr tC σ 19 (nI i) v = some (sA σ 19 i v) := wrN rfl rfl h (show _ < _ from Nat.le_of_ble_eq_true rfl)
theorem rdC_20 {σ : St} {i : Nat} (h : i < 40) : rd tC σ 20 (nI i) = some (σ.2.1 20 i) := rdN rfl rfl h (show _ < _ from Nat.le_of_ble_eq_true rfl)
theorem wrC_20 {σ : St} {i : Nat} {v : Int32} (h : i < 40) : wr tC σ 20 (nI i) v = some (sA σ 20 i v) := wrN rfl rfl h (show _ < _ from Nat.le_of_ble_eq_true rfl)
theorem rdC_21 {σ : St} {i : Nat} (h : i < 40) : rd tC σ 21 (nI i) = some (σ.2.1 21 i) := rdN rfl rfl h (show _ < _ from Nat.le_of_ble_eq_true rfl)
theorem wrC_21 {σ : St} {i : Nat} {v : Int32} (h : i < 40) : wr tC σ 21 (nI i) v = some (sA σ 21 i v) := wrN rfl rfl h (show _ < _ from Nat.le_of_ble_eq_true rfl)
theorem rdC_22 {σ : St} {i : Nat} (h : i < 300) : rd tC σ 22 (nI i) = some (σ.2.1 22 i) := rdN rfl rfl h (show _ < _ from Nat.le_of_ble_eq_true rfl)
theorem wrC_22 {σ : St} {i : Nat} {v : Int32} (h : i < 300) : wr tC σ 22 (nI i) v = some (sA σ 22 i v) := wrN rfl rfl h (show _ < _ from Nat.le_of_ble_eq_true rfl)
theorem rdC_23 {σ : St} {i : Nat} (h : i < 300) : rd tC σ 23 (nI i) = some (σ.2.1 23 i) := rdN rfl rfl h (show _ < _ from Nat.le_of_ble_eq_true rfl)
theorem wrC_23 {σ : St} {i : Nat} {v : Int32} (h : i < 300) : wr tC σ 23 (nI i) v = some (sA σ 23 i v) := wrN rfl rfl h (show _ < _ from Nat.le_of_ble_eq_true rfl)
theorem rdC_24 {σ : St} {i : Nat} (h : i < 300) : rd tC σ 24 (nI i) = some (σ.2.1 24 i) := rdN rfl rfl h (show _ < _ from Nat.le_of_ble_eq_true rfl)
theorem wrC_24 {σ : St} {i : Nat} {v : Int32} (h : i < 300) : wr tC σ 24 (nI i) v = some (sA σ 24 i v) := wrN rfl rfl h (show _ < _ from Nat.le_of_ble_eq_true rfl)
theorem rdC_25 {σ : St} {i : Nat} (h : i < 300) : rd tC σ 25 (nI i) = some (σ.2.1 25 i) := rdN rfl rfl h (show _ < _ from Nat.le_of_ble_eq_true rfl)
theorem wrC_25 {σ : St} {i : Nat} {v : Int32} (h : i < 300) : wr tC σ 25 (nI i) v = some (sA σ 25 i v) := wrN rfl rfl h (show _ < _ from Nat.le_of_ble_eq_true rfl)
theorem rdC_26 {σ : St} {i : Nat} (h : i < 300) : rd tC σ 26 (nI i) = some (σ.2.1 26 i) := rdN rfl rfl h (show _ < _ from Nat.le_of_ble_eq_true rfl)
theorem wrC_26 {σ : St} {i : Nat} {v : Int32} (h : i < 300) : wr tC σ 26 (nI i) v = some (sA σ 26 i v) := wrN rfl rfl h (show _ < _ from Nat.le_of_ble_eq_true rfl)
theorem rdC_27 {σ : St} {i : Nat} (h : i < 300) : rd tC σ 27 (nI i) = some (σ.2.1 27 i) := rdN rfl rfl h (show _ < _ from Nat.le_of_ble_eq_true rfl)
theorem wrC_27 {σ : St} {i : Nat} {v : Int32} (h : i < 300) : wr tC σ 27 (nI i) v = some (sA σ 27 i v) := wrN rfl rfl h (show _ < _ from Nat.le_of_ble_eq_true rfl)
theorem rdC_28 {σ : St} {i : Nat} (h : i < 300) : rd tC σ 28 (nI i) = some (σ.2.1 28 i) := rdN rfl rfl h (show _ < _ from Nat.le_of_ble_eq_true rfl)
theorem wrC_28 {σ : St} {i : Nat} {v : Int32} (h : i < 300) : wr tC σ 28 (nI i) v = some (sA σ 28 i v) := wrN rfl rfl h (show _ < _ from Nat.le_of_ble_eq_true rfl)
theorem rdC_29 {σ : St} {i : Nat} (h : i < 300) : rd tC σ 29 (nI i) = some (σ.2.1 29 i) := rdN rfl rfl h (show _ < _ from Nat.le_of_ble_eq_true rfl)
theorem wrC_29 {σ : St} {i : Nat} {v : Int32} (h : i < 300) : wr tC σ 29 (nI i) v = some (sA σ 29 i v) := wrN rfl rfl h (show _ < _ from Nat.le_of_ble_eq_true rfl)
theorem rdC_30 {σ : St} {i : Nat} (h : i < 300) : rd tC σ 30 (nI i) = some (σ.2.1 30 i) := rdN rfl rfl h (show _ < _ from Nat.le_of_ble_eq_true rfl)
theorem wrC_30 {σ : St} {i : Nat} {v : Int32} (h : i < 300) : wr tC σ 30 (nI i) v = some (sA σ 30 i v) := wrN rfl rfl h (show _ < _ from Nat.le_of_ble_eq_true rfl)
theorem rdC_31 {σ : St} {i : Nat} (h : i < 300) : rd tC σ 31 (nI i) = some (σ.2.1 31 i) := rdN rfl rfl h (show _ < _ from Nat.le_of_ble_eq_true rfl)
theorem wrC_31 {σ : St} {i : Nat} {v : Int32} (h : i < 300) : wr tC σ 31 (nI i) v = some (sA σ 31 i v) := wrN rfl rfl h (show _ < _ from Nat.le_of_ble_eq_true rfl)
theorem rdC_32 {σ : St} {i : Nat} (h : i < 12) : rd tC σ 32 (nI i) = some (σ.2.1 32 i) := rdN rfl rfl h (show _ < _ from Nat.le_of_ble_eq_true rfl)
theorem wrC_32 {σ : St} {i : Nat} {v : Int32} (h : i < 12) : wr tC σ 32 (nI i) v = some (sA σ 32 i v) := wrN rfl rfl h (show _ < _ from Nat.le_of_ble_eq_true rfl)
theorem rdC_33 {σ : St} {i : Nat} (h : i < 12) : rd tC σ 33 (nI i) = some (σ.2.1 33 i) := rdN rfl rfl h (show _ < _ from Nat.le_of_ble_eq_true rfl)
theorem wrC_33 {σ : St} {i : Nat} {v : Int32} (h : i < 12) : wr tC σ 33 (nI i) v = some (sA σ 33 i v) := wrN rfl rfl h (show _ < _ from Nat.le_of_ble_eq_true rfl)
theorem rdC_34 {σ : St} {i : Nat} (h : i < 12) : rd tC σ 34 (nI i) = some (σ.2.1 34 i) := rdN rfl rfl h (show _ < _ from Nat.le_of_ble_eq_true rfl)
theorem wrC_34 {σ : St} {i : Nat} {v : Int32} (h : i < 12) : wr tC σ 34 (nI i) v = some (sA σ 34 i v) := wrN rfl rfl h (show _ < _ from Nat.le_of_ble_eq_true rfl)
theorem rdC_35 {σ : St} {i : Nat} (h : i < 12) : rd tC σ 35 (nI i) = some (σ.2.1 35 i) := rdN rfl rfl h (show _ < _ from Nat.le_of_ble_eq_true rfl)
theorem wrC_35 {σ : St} {i : Nat} {v : Int32} (h : i < 12) : wr tC σ 35 (nI i) v = some (sA σ 35 i v) := wrN rfl rfl h (show _ < _ from Nat.le_of_ble_eq_true rfl)
theorem rdC_36 {σ : St} {i : Nat} (h : i < 12) : rd tC σ 36 (nI i) = some (σ.2.1 36 i) := rdN rfl rfl h (show _ < _ from Nat.le_of_ble_eq_true rfl)
theorem wrC_36 {σ : St} {i : Nat} {v : Int32} (h : i < 12) : wr tC σ 36 (nI i) v = some (sA σ 36 i v) := wrN rfl rfl h (show _ < _ from Nat.le_of_ble_eq_true rfl)
theorem rdC_38 {σ : St} {i : Nat} (h : i < 144) : rd tC σ 38 (nI i) = some (σ.2.1 38 i) := rdN rfl rfl h (show _ < _ from Nat.le_of_ble_eq_true rfl)
theorem wrC_38 {σ : St} {i : Nat} {v : Int32} (h : i < 144) : wr tC σ 38 (nI i) v = some (sA σ 38 i v) := wrN rfl rfl h (show _ < _ from Nat.le_of_ble_eq_true rfl)
theorem rdC_39 {σ : St} {i : Nat} (h : i < 144) : rd tC σ 39 (nI i) = some (σ.2.1 39 i) := rdN rfl rfl h (show _ < _ from Nat.le_of_ble_eq_true rfl)
theorem wrC_39 {σ : St} {i : Nat} {v : Int32} (h : i < 144) : wr tC σ 39 (nI i) v = some (sA σ 39 i v) := wrN rfl rfl h (show _ < _ from Nat.le_of_ble_eq_true rfl)
theorem rdC_40 {σ : St} {i : Nat} (h : i < 144) : rd tC σ 40 (nI i) = some (σ.2.1 40 i) := rdN rfl rfl h (show _ < _ from Nat.le_of_ble_eq_true rfl)
theorem wrC_40 {σ : St} {i : Nat} {v : Int32} (h : i < 144) : wr tC σ 40 (nI i) v = some (sA σ 40 i v) := wrN rfl rfl h (show _ < _ from Nat.le_of_ble_eq_true rfl)
theorem rdC_41 {σ : St} {i : Nat} (h : i < 144) : rd tC σ 41 (nI i) = some (σ.2.1 41 i) := rdN rfl rfl h (show _ < _ from Nat.le_of_ble_eq_true rfl)
theorem wrC_41 {σ : St} {i : Nat} {v : Int32} (h : i < 144) : wr tC σ 41 (nI i) v = some (sA σ 41 i v) := wrN rfl rfl h (show _ < _ from Nat.le_of_ble_eq_true rfl)
theorem rdC_42 {σ : St} {i : Nat} (h : i < 144) : rd tC σ 42 (nI i) = some (σ.2.1 42 i) := rdN rfl rfl h (show _ < _ from Nat.le_of_ble_eq_true rfl)
theorem wrC_42 {σ : St} {i : Nat} {v : Int32} (h : i < 144) : wr tC σ 42 (nI i) v = some (sA σ 42 i v) := wrN rfl rfl h (show _ < _ from Nat.le_of_ble_eq_true rfl)
theorem rdC_43 {σ : St} {i : Nat} (h : i < 144) : rd tC σ 43 (nI i) = some (σ.2.1 43 i) := rdN rfl rfl h (show _ < _ from Nat.le_of_ble_eq_true rfl)
theorem wrC_43 {σ : St} {i : Nat} {v : Int32} (h : i < 144) : wr tC σ 43 (nI i) v = some (sA σ 43 i v) := wrN rfl rfl h (show _ < _ from Nat.le_of_ble_eq_true rfl)
theorem rlC_44 {σ : St} {i : Nat} (h : i < 96) : rl tC σ 44 (nI i) = some (σ.2.2 44 i) := rlN rfl rfl h (show _ < _ from Nat.le_of_ble_eq_true rfl)
theorem wlC_44 {σ : St} {i : Nat} {v : Int64} (h : i < 96) : wl tC σ 44 (nI i) v = some (sL σ 44 i v) := wlN rfl rfl h (show _ < _ from Nat.le_of_ble_eq_true rfl)
theorem rdC_45 {σ : St} {i : Nat} (h : i < 400) : rd tC σ 45 (nI i) = some (σ.2.1 45 i) := rdN rfl rfl h (show _ < _ from Nat.le_of_ble_eq_true rfl)
theorem wrC_45 {σ : St} {i : Nat} {v : Int32} (h : i < 400) : wr tC σ 45 (nI i) v = some (sA σ 45 i v) := wrN rfl rfl h (show _ < _ from Nat.le_of_ble_eq_true rfl)
theorem rdC_46 {σ : St} {i : Nat} (h : i < 130) : rd tC σ 46 (nI i) = some (σ.2.1 46 i) := rdN rfl rfl h (show _ < _ from Nat.le_of_ble_eq_true rfl)
theorem wrC_46 {σ : St} {i : Nat} {v : Int32} (h : i < 130) : wr tC σ 46 (nI i) v = some (sA σ 46 i v) := wrN rfl rfl h (show _ < _ from Nat.le_of_ble_eq_true rfl)
theorem rdC_47 {σ : St} {i : Nat} (h : i < 650) : rd tC σ 47 (nI i) = some (σ.2.1 47 i) := rdN rfl rfl h (show _ < _ from Nat.le_of_ble_eq_true rfl)
theorem wrC_47 {σ : St} {i : Nat} {v : Int32} (h : i < 650) : wr tC σ 47 (nI i) v = some (sA σ 47 i v) := wrN rfl rfl h (show _ < _ from Nat.le_of_ble_eq_true rfl)
theorem rdC_48 {σ : St} {i : Nat} (h : i < 650) : rd tC σ 48 (nI i) = some (σ.2.1 48 i) := rdN rfl rfl h (show _ < _ from Nat.le_of_ble_eq_true rfl)
theorem wrC_48 {σ : St} {i : Nat} {v : Int32} (h : i < 650) : wr tC σ 48 (nI i) v = some (sA σ 48 i v) := wrN rfl rfl h (show _ < _ from Nat.le_of_ble_eq_true rfl)
theorem rdC_49 {σ : St} {i : Nat} (h : i < 650) : rd tC σ 49 (nI i) = some (σ.2.1 49 i) := rdN rfl rfl h (show _ < _ from Nat.le_of_ble_eq_true rfl)
theorem wrC_49 {σ : St} {i : Nat} {v : Int32} (h : i < 650) : wr tC σ 49 (nI i) v = some (sA σ 49 i v) := wrN rfl rfl h (show _ < _ from Nat.le_of_ble_eq_true rfl)
theorem rdC_50 {σ : St} {i : Nat} (h : i < 2) : rd tC σ 50 (nI i) = some (σ.2.1 50 i) := rdN rfl rfl h (show _ < _ from Nat.le_of_ble_eq_true rfl)
theorem wrC_50 {σ : St} {i : Nat} {v : Int32} (h : i < 2) : wr tC σ 50 (nI i) v = some (sA σ 50 i v) := wrN rfl rfl h (show _ < _ from Nat.le_of_ble_eq_true rfl)
theorem rdC_51 {σ : St} {i : Nat} (h : i < 2) : rd tC σ 51 (nI i) = some (σ.2.1 51 i) := rdN rfl rfl h (show _ < _ from Nat.le_of_ble_eq_true rfl)
theorem wrC_51 {σ : St} {i : Nat} {v : Int32} (h : i < 2) : wr tC σ 51 (nI i) v = some (sA σ 51 i v) := wrN rfl rfl h (show _ < _ from Nat.le_of_ble_eq_true rfl)
theorem rdC_52 {σ : St} {i : Nat} (h : i < 120) : rd tC σ 52 (nI i) = some (σ.2.1 52 i) := rdN rfl rfl h (show _ < _ from Nat.le_of_ble_eq_true rfl)
theorem wrC_52 {σ : St} {i : Nat} {v : Int32} (h : i < 120) : wr tC σ 52 (nI i) v = some (sA σ 52 i v) := wrN rfl rfl h (show _ < _ from Nat.le_of_ble_eq_true rfl)
theorem rdC_53 {σ : St} {i : Nat} (h : i < 8) : rd tC σ 53 (nI i) = some (σ.2.1 53 i) := rdN rfl rfl h (show _ < _ from Nat.le_of_ble_eq_true rfl)
theorem wrC_53 {σ : St} {i : Nat} {v : Int32} (h : i < 8) : wr tC σ 53 (nI i) v = some (sA σ 53 i v) := wrN rfl rfl h (show _ < _ from Nat.le_of_ble_eq_true rfl)
theorem rdC_54 {σ : St} {i : Nat} (h : i < 8) : rd tC σ 54 (nI i) = some (σ.2.1 54 i) := rdN rfl rfl h (show _ < _ from Nat.le_of_ble_eq_true rfl)
theorem wrC_54 {σ : St} {i : Nat} {v : Int32} (h : i < 8) : wr tC σ 54 (nI i) v = some (sA σ 54 i v) := wrN rfl rfl h (show _ < _ from Nat.le_of_ble_eq_true rfl)
theorem rdC_55 {σ : St} {i : Nat} (h : i < 8) : rd tC σ 55 (nI i) = some (σ.2.1 55 i) := rdN rfl rfl h (show _ < _ from Nat.le_of_ble_eq_true rfl)
theorem wrC_55 {σ : St} {i : Nat} {v : Int32} (h : i < 8) : wr tC σ 55 (nI i) v = some (sA σ 55 i v) := wrN rfl rfl h (show _ < _ from Nat.le_of_ble_eq_true rfl)
theorem rlC_56 {σ : St} {i : Nat} (h : i < 8) : rl tC σ 56 (nI i) = some (σ.2.2 56 i) := rlN rfl rfl h (show _ < _ from Nat.le_of_ble_eq_true rfl)
theorem wlC_56 {σ : St} {i : Nat} {v : Int64} (h : i < 8) : wl tC σ 56 (nI i) v = some (sL σ 56 i v) := wlN rfl rfl h (show _ < _ from Nat.le_of_ble_eq_true rfl)
theorem rlC_57 {σ : St} {i : Nat} (h : i < 8) : rl tC σ 57 (nI i) = some (σ.2.2 57 i) := rlN rfl rfl h (show _ < _ from Nat.le_of_ble_eq_true rfl)
theorem wlC_57 {σ : St} {i : Nat} {v : Int64} (h : i < 8) : wl tC σ 57 (nI i) v = some (sL σ 57 i v) := wlN rfl rfl h (show _ < _ from Nat.le_of_ble_eq_true rfl)
theorem rdC_58 {σ : St} {i : Nat} (h : i < 8) : rd tC σ 58 (nI i) = some (σ.2.1 58 i) := rdN rfl rfl h (show _ < _ from Nat.le_of_ble_eq_true rfl)
theorem wrC_58 {σ : St} {i : Nat} {v : Int32} (h : i < 8) : wr tC σ 58 (nI i) v = some (sA σ 58 i v) := wrN rfl rfl h (show _ < _ from Nat.le_of_ble_eq_true rfl)
theorem rdC_59 {σ : St} {i : Nat} (h : i < 8) : rd tC σ 59 (nI i) = some (σ.2.1 59 i) := rdN rfl rfl h (show _ < _ from Nat.le_of_ble_eq_true rfl)
theorem wrC_59 {σ : St} {i : Nat} {v : Int32} (h : i < 8) : wr tC σ 59 (nI i) v = some (sA σ 59 i v) := wrN rfl rfl h (show _ < _ from Nat.le_of_ble_eq_true rfl)
theorem rdC_60 {σ : St} {i : Nat} (h : i < 8) : rd tC σ 60 (nI i) = some (σ.2.1 60 i) := rdN rfl rfl h (show _ < _ from Nat.le_of_ble_eq_true rfl)
theorem wrC_60 {σ : St} {i : Nat} {v : Int32} (h : i < 8) : wr tC σ 60 (nI i) v = some (sA σ 60 i v) := wrN rfl rfl h (show _ < _ from Nat.le_of_ble_eq_true rfl)
theorem rdC_61 {σ : St} {i : Nat} (h : i < 8) : rd tC σ 61 (nI i) = some (σ.2.1 61 i) := rdN rfl rfl h (show _ < _ from Nat.le_of_ble_eq_true rfl)
theorem wrC_61 {σ : St} {i : Nat} {v : Int32} (h : i < 8) : wr tC σ 61 (nI i) v = some (sA σ 61 i v) := wrN rfl rfl h (show _ < _ from Nat.le_of_ble_eq_true rfl)
theorem rdC_62 {σ : St} {i : Nat} (h : i < 800) : rd tC σ 62 (nI i) = some (σ.2.1 62 i) := rdN rfl rfl h (show _ < _ from Nat.le_of_ble_eq_true rfl)
theorem wrC_62 {σ : St} {i : Nat} {v : Int32} (h : i < 800) : wr tC σ 62 (nI i) v = some (sA σ 62 i v) := wrN rfl rfl h (show _ < _ from Nat.le_of_ble_eq_true rfl)
theorem rdC_63 {σ : St} {i : Nat} (h : i < 9) : rd tC σ 63 (nI i) = some (σ.2.1 63 i) := rdN rfl rfl h (show _ < _ from Nat.le_of_ble_eq_true rfl)
theorem wrC_63 {σ : St} {i : Nat} {v : Int32} (h : i < 9) : wr tC σ 63 (nI i) v = some (sA σ 63 i v) := wrN rfl rfl h (show _ < _ from Nat.le_of_ble_eq_true rfl)
theorem rdC_64 {σ : St} {i : Nat} (h : i < 9) : rd tC σ 64 (nI i) = some (σ.2.1 64 i) := rdN rfl rfl h (show _ < _ from Nat.le_of_ble_eq_true rfl)
theorem wrC_64 {σ : St} {i : Nat} {v : Int32} (h : i < 9) : wr tC σ 64 (nI i) v = some (sA σ 64 i v) := wrN rfl rfl h (show _ < _ from Nat.le_of_ble_eq_true rfl)
theorem rdC_65 {σ : St} {i : Nat} (h : i < 6) : rd tC σ 65 (nI i) = some (σ.2.1 65 i) := rdN rfl rfl h (show _ < _ from Nat.le_of_ble_eq_true rfl)
theorem wrC_65 {σ : St} {i : Nat} {v : Int32} (h : i < 6) : wr tC σ 65 (nI i) v = some (sA σ 65 i v) := wrN rfl rfl h (show _ < _ from Nat.le_of_ble_eq_true rfl)
theorem rdC_66 {σ : St} {i : Nat} (h : i < 6) : rd tC σ 66 (nI i) = some (σ.2.1 66 i) := rdN rfl rfl h (show _ < _ from Nat.le_of_ble_eq_true rfl)
theorem wrC_66 {σ : St} {i : Nat} {v : Int32} (h : i < 6) : wr tC σ 66 (nI i) v = some (sA σ 66 i v) := wrN rfl rfl h (show _ < _ from Nat.le_of_ble_eq_true rfl)
theorem rdC_67 {σ : St} {i : Nat} (h : i < 6) : rd tC σ 67 (nI i) = some (σ.2.1 67 i) := rdN rfl rfl h (show _ < _ from Nat.le_of_ble_eq_true rfl)
theorem wrC_67 {σ : St} {i : Nat} {v : Int32} (h : i < 6) : wr tC σ 67 (nI i) v = some (sA σ 67 i v) := wrN rfl rfl h (show _ < _ from Nat.le_of_ble_eq_true rfl)
theorem rlC_68 {σ : St} {i : Nat} (h : i < 637) : rl tC σ 68 (nI i) = some (σ.2.2 68 i) := rlN rfl rfl h (show _ < _ from Nat.le_of_ble_eq_true rfl)
theorem wlC_68 {σ : St} {i : Nat} {v : Int64} (h : i < 637) : wl tC σ 68 (nI i) v = some (sL σ 68 i v) := wlN rfl rfl h (show _ < _ from Nat.le_of_ble_eq_true rfl)
theorem rdC_69 {σ : St} {i : Nat} (h : i < 6) : rd tC σ 69 (nI i) = some (σ.2.1 69 i) := rdN rfl rfl h (show _ < _ from Nat.le_of_ble_eq_true rfl)
theorem wrC_69 {σ : St} {i : Nat} {v : Int32} (h : i < 6) : wr tC σ 69 (nI i) v = some (sA σ 69 i v) := wrN rfl rfl h (show _ < _ from Nat.le_of_ble_eq_true rfl)
theorem rdC_70 {σ : St} {i : Nat} (h : i < 6) : rd tC σ 70 (nI i) = some (σ.2.1 70 i) := rdN rfl rfl h (show _ < _ from Nat.le_of_ble_eq_true rfl)
theorem wrC_70 {σ : St} {i : Nat} {v : Int32} (h : i < 6) : wr tC σ 70 (nI i) v = some (sA σ 70 i v) := wrN rfl rfl h (show _ < _ from Nat.le_of_ble_eq_true rfl)
theorem rdM_1 {σ : St} {i : Nat} (h : i < 576) : rd tM σ 1 (nI i) = some (σ.2.1 1 i) := rdN rfl rfl h (show _ < _ from Nat.le_of_ble_eq_true rfl)
theorem wrM_1 {σ : St} {i : Nat} {v : Int32} (h : i < 576) : wr tM σ 1 (nI i) v = some (sA σ 1 i v) := wrN rfl rfl h (show _ < _ from Nat.le_of_ble_eq_true rfl)
theorem rdM_2 {σ : St} {i : Nat} (h : i < 40) : rd tM σ 2 (nI i) = some (σ.2.1 2 i) := rdN rfl rfl h (show _ < _ from Nat.le_of_ble_eq_true rfl)
theorem wrM_2 {σ : St} {i : Nat} {v : Int32} (h : i < 40) : wr tM σ 2 (nI i) v = some (sA σ 2 i v) := wrN rfl rfl h (show _ < _ from Nat.le_of_ble_eq_true rfl)
theorem rdM_3 {σ : St} {i : Nat} (h : i < 40) : rd tM σ 3 (nI i) = some (σ.2.1 3 i) := rdN rfl rfl h (show _ < _ from Nat.le_of_ble_eq_true rfl)
theorem wrM_3 {σ : St} {i : Nat} {v : Int32} (h : i < 40) : wr tM σ 3 (nI i) v = some (sA σ 3 i v) := wrN rfl rfl h (show _ < _ from Nat.le_of_ble_eq_true rfl)
theorem rdM_4 {σ : St} {i : Nat} (h : i < 40) : rd tM σ 4 (nI i) = some (σ.2.1 4 i) := rdN rfl rfl h (show _ < _ from Nat.le_of_ble_eq_true rfl)
theorem wrM_4 {σ : St} {i : Nat} {v : Int32} (h : i < 40) : wr tM σ 4 (nI i) v = some (sA σ 4 i v) := wrN rfl rfl h (show _ < _ from Nat.le_of_ble_eq_true rfl)
theorem rdM_5 {σ : St} {i : Nat} (h : i < 40) : rd tM σ 5 (nI i) = some (σ.2.1 5 i) := rdN rfl rfl h (show _ < _ from Nat.le_of_ble_eq_true rfl)
theorem wrM_5 {σ : St} {i : Nat} {v : Int32} (h : i < 40) : wr tM σ 5 (nI i) v = some (sA σ 5 i v) := wrN rfl rfl h (show _ < _ from Nat.le_of_ble_eq_true rfl)
theorem rdM_6 {σ : St} {i : Nat} (h : i < 300) : rd tM σ 6 (nI i) = some (σ.2.1 6 i) := rdN rfl rfl h (show _ < _ from Nat.le_of_ble_eq_true rfl)
theorem wrM_6 {σ : St} {i : Nat} {v : Int32} (h : i < 300) : wr tM σ 6 (nI i) v = some (sA σ 6 i v) := wrN rfl rfl h (show _ < _ from Nat.le_of_ble_eq_true rfl)
theorem rdM_7 {σ : St} {i : Nat} (h : i < 300) : rd tM σ 7 (nI i) = some (σ.2.1 7 i) := rdN rfl rfl h (show _ < _ from Nat.le_of_ble_eq_true rfl)
theorem wrM_7 {σ : St} {i : Nat} {v : Int32} (h : i < 300) : wr tM σ 7 (nI i) v = some (sA σ 7 i v) := wrN rfl rfl h (show _ < _ from Nat.le_of_ble_eq_true rfl)
theorem rdM_8 {σ : St} {i : Nat} (h : i < 300) : rd tM σ 8 (nI i) = some (σ.2.1 8 i) := rdN rfl rfl h (show _ < _ from Nat.le_of_ble_eq_true rfl)
theorem wrM_8 {σ : St} {i : Nat} {v : Int32} (h : i < 300) : wr tM σ 8 (nI i) v = some (sA σ 8 i v) := wrN rfl rfl h (show _ < _ from Nat.le_of_ble_eq_true rfl)
theorem rdM_9 {σ : St} {i : Nat} (h : i < 300) : rd tM σ 9 (nI i) = some (σ.2.1 9 i) := rdN rfl rfl h (show _ < _ from Nat.le_of_ble_eq_true rfl)
theorem wrM_9 {σ : St} {i : Nat} {v : Int32} (h : i < 300) : wr tM σ 9 (nI i) v = some (sA σ 9 i v) := wrN rfl rfl h (show _ < _ from Nat.le_of_ble_eq_true rfl)
theorem rdM_10 {σ : St} {i : Nat} (h : i < 300) : rd tM σ 10 (nI i) = some (σ.2.1 10 i) := rdN rfl rfl h (show _ < _ from Nat.le_of_ble_eq_true rfl)
theorem wrM_10 {σ : St} {i : Nat} {v : Int32} (h : i < 300) : wr tM σ 10 (nI i) v = some (sA σ 10 i v) := wrN rfl rfl h (show _ < _ from Nat.le_of_ble_eq_true rfl)
theorem rdM_11 {σ : St} {i : Nat} (h : i < 300) : rd tM σ 11 (nI i) = some (σ.2.1 11 i) := rdN rfl rfl h (show _ < _ from Nat.le_of_ble_eq_true rfl)
theorem wrM_11 {σ : St} {i : Nat} {v : Int32} (h : i < 300) : wr tM σ 11 (nI i) v = some (sA σ 11 i v) := wrN rfl rfl h (show _ < _ from Nat.le_of_ble_eq_true rfl)
theorem rdM_12 {σ : St} {i : Nat} (h : i < 300) : rd tM σ 12 (nI i) = some (σ.2.1 12 i) := rdN rfl rfl h (show _ < _ from Nat.le_of_ble_eq_true rfl)
theorem wrM_12 {σ : St} {i : Nat} {v : Int32} (h : i < 300) : wr tM σ 12 (nI i) v = some (sA σ 12 i v) := wrN rfl rfl h (show _ < _ from Nat.le_of_ble_eq_true rfl)
theorem rdM_13 {σ : St} {i : Nat} (h : i < 300) : rd tM σ 13 (nI i) = some (σ.2.1 13 i) := rdN rfl rfl h (show _ < _ from Nat.le_of_ble_eq_true rfl)
theorem wrM_13 {σ : St} {i : Nat} {v : Int32} (h : i < 300) : wr tM σ 13 (nI i) v = some (sA σ 13 i v) := wrN rfl rfl h (show _ < _ from Nat.le_of_ble_eq_true rfl)
theorem rdM_14 {σ : St} {i : Nat} (h : i < 300) : rd tM σ 14 (nI i) = some (σ.2.1 14 i) := rdN rfl rfl h (show _ < _ from Nat.le_of_ble_eq_true rfl)
theorem wrM_14 {σ : St} {i : Nat} {v : Int32} (h : i < 300) : wr tM σ 14 (nI i) v = some (sA σ 14 i v) := wrN rfl rfl h (show _ < _ from Nat.le_of_ble_eq_true rfl)
theorem rdM_15 {σ : St} {i : Nat} (h : i < 2) : rd tM σ 15 (nI i) = some (σ.2.1 15 i) := rdN rfl rfl h (show _ < _ from Nat.le_of_ble_eq_true rfl)
theorem wrM_15 {σ : St} {i : Nat} {v : Int32} (h : i < 2) : wr tM σ 15 (nI i) v = some (sA σ 15 i v) := wrN rfl rfl h (show _ < _ from Nat.le_of_ble_eq_true rfl)
theorem rdM_16 {σ : St} {i : Nat} (h : i < 32) : rd tM σ 16 (nI i) = some (σ.2.1 16 i) := rdN rfl rfl h (show _ < _ from Nat.le_of_ble_eq_true rfl)
theorem wrM_16 {σ : St} {i : Nat} {v : Int32} (h : i < 32) : wr tM σ 16 (nI i) v = some (sA σ 16 i v) := wrN rfl rfl h (show _ < _ from Nat.le_of_ble_eq_true rfl)
theorem rdM_17 {σ : St} {i : Nat} (h : i < 32) : rd tM σ 17 (nI i) = some (σ.2.1 17 i) := rdN rfl rfl h (show _ < _ from Nat.le_of_ble_eq_true rfl)
theorem wrM_17 {σ : St} {i : Nat} {v : Int32} (h : i < 32) : wr tM σ 17 (nI i) v = some (sA σ 17 i v) := wrN rfl rfl h (show _ < _ from Nat.le_of_ble_eq_true rfl)
theorem rdM_18 {σ : St} {i : Nat} (h : i < 400) : rd tM σ 18 (nI i) = some (σ.2.1 18 i) := rdN rfl rfl h (show _ < _ from Nat.le_of_ble_eq_true rfl)
theorem wrM_18 {σ : St} {i : Nat} {v : Int32} (h : i < 400) : wr tM σ 18 (nI i) v = some (sA σ 18 i v) := wrN rfl rfl h (show _ < _ from Nat.le_of_ble_eq_true rfl)
theorem rdM_19 {σ : St} {i : Nat} (h : i < 12) : rd tM σ 19 (nI i) = some (σ.2.1 19 i) := rdN rfl rfl h (show _ < _ from Nat.le_of_ble_eq_true rfl)
theorem wrM_19 {σ : St} {i : Nat} {v : Int32} (h : i < 12) : wr tM σ 19 (nI i) v = some (sA σ 19 i v) := wrN rfl rfl h (show _ < _ from Nat.le_of_ble_eq_true rfl)
theorem rdM_20 {σ : St} {i : Nat} (h : i < 12) : rd tM σ 20 (nI i) = some (σ.2.1 20 i) := rdN rfl rfl h (show _ < _ from Nat.le_of_ble_eq_true rfl)
theorem wrM_20 {σ : St} {i : Nat} {v : Int32} (h : i < 12) : wr tM σ 20 (nI i) v = some (sA σ 20 i v) := wrN rfl rfl h (show _ < _ from Nat.le_of_ble_eq_true rfl)
theorem rdM_21 {σ : St} {i : Nat} (h : i < 12) : rd tM σ 21 (nI i) = some (σ.2.1 21 i) := rdN rfl rfl h (show _ < _ from Nat.le_of_ble_eq_true rfl)
theorem wrM_21 {σ : St} {i : Nat} {v : Int32} (h : i < 12) : wr tM σ 21 (nI i) v = some (sA σ 21 i v) := wrN rfl rfl h (show _ < _ from Nat.le_of_ble_eq_true rfl)
theorem rdM_22 {σ : St} {i : Nat} (h : i < 144) : rd tM σ 22 (nI i) = some (σ.2.1 22 i) := rdN rfl rfl h (show _ < _ from Nat.le_of_ble_eq_true rfl)
theorem wrM_22 {σ : St} {i : Nat} {v : Int32} (h : i < 144) : wr tM σ 22 (nI i) v = some (sA σ 22 i v) := wrN rfl rfl h (show _ < _ from Nat.le_of_ble_eq_true rfl)
theorem rdM_23 {σ : St} {i : Nat} (h : i < 144) : rd tM σ 23 (nI i) = some (σ.2.1 23 i) := rdN rfl rfl h (show _ < _ from Nat.le_of_ble_eq_true rfl)
theorem wrM_23 {σ : St} {i : Nat} {v : Int32} (h : i < 144) : wr tM σ 23 (nI i) v = some (sA σ 23 i v) := wrN rfl rfl h (show _ < _ from Nat.le_of_ble_eq_true rfl)
theorem rdM_24 {σ : St} {i : Nat} (h : i < 144) : rd tM σ 24 (nI i) = some (σ.2.1 24 i) := rdN rfl rfl h (show _ < _ from Nat.le_of_ble_eq_true rfl)
theorem wrM_24 {σ : St} {i : Nat} {v : Int32} (h : i < 144) : wr tM σ 24 (nI i) v = some (sA σ 24 i v) := wrN rfl rfl h (show _ < _ from Nat.le_of_ble_eq_true rfl)
theorem rdM_25 {σ : St} {i : Nat} (h : i < 144) : rd tM σ 25 (nI i) = some (σ.2.1 25 i) := rdN rfl rfl h (show _ < _ from Nat.le_of_ble_eq_true rfl)
theorem wrM_25 {σ : St} {i : Nat} {v : Int32} (h : i < 144) : wr tM σ 25 (nI i) v = some (sA σ 25 i v) := wrN rfl rfl h (show _ < _ from Nat.le_of_ble_eq_true rfl)
theorem rdM_26 {σ : St} {i : Nat} (h : i < 144) : rd tM σ 26 (nI i) = some (σ.2.1 26 i) := rdN rfl rfl h (show _ < _ from Nat.le_of_ble_eq_true rfl)
theorem wrM_26 {σ : St} {i : Nat} {v : Int32} (h : i < 144) : wr tM σ 26 (nI i) v = some (sA σ 26 i v) := wrN rfl rfl h (show _ < _ from Nat.le_of_ble_eq_true rfl)
theorem rdM_27 {σ : St} {i : Nat} (h : i < 144) : rd tM σ 27 (nI i) = some (σ.2.1 27 i) := rdN rfl rfl h (show _ < _ from Nat.le_of_ble_eq_true rfl)
theorem wrM_27 {σ : St} {i : Nat} {v : Int32} (h : i < 144) : wr tM σ 27 (nI i) v = some (sA σ 27 i v) := wrN rfl rfl h (show _ < _ from Nat.le_of_ble_eq_true rfl)
theorem rdM_28 {σ : St} {i : Nat} (h : i < 5040) : rd tM σ 28 (nI i) = some (σ.2.1 28 i) := rdN rfl rfl h (show _ < _ from Nat.le_of_ble_eq_true rfl)
theorem wrM_28 {σ : St} {i : Nat} {v : Int32} (h : i < 5040) : wr tM σ 28 (nI i) v = some (sA σ 28 i v) := wrN rfl rfl h (show _ < _ from Nat.le_of_ble_eq_true rfl)
theorem rdM_29 {σ : St} {i : Nat} (h : i < 5040) : rd tM σ 29 (nI i) = some (σ.2.1 29 i) := rdN rfl rfl h (show _ < _ from Nat.le_of_ble_eq_true rfl)
theorem wrM_29 {σ : St} {i : Nat} {v : Int32} (h : i < 5040) : wr tM σ 29 (nI i) v = some (sA σ 29 i v) := wrN rfl rfl h (show _ < _ from Nat.le_of_ble_eq_true rfl)
theorem rdM_30 {σ : St} {i : Nat} (h : i < 420) : rd tM σ 30 (nI i) = some (σ.2.1 30 i) := rdN rfl rfl h (show _ < _ from Nat.le_of_ble_eq_true rfl)
theorem wrM_30 {σ : St} {i : Nat} {v : Int32} (h : i < 420) : wr tM σ 30 (nI i) v = some (sA σ 30 i v) := wrN rfl rfl h (show _ < _ from Nat.le_of_ble_eq_true rfl)
theorem rlM_31 {σ : St} {i : Nat} (h : i < 9) : rl tM σ 31 (nI i) = some (σ.2.2 31 i) := rlN rfl rfl h (show _ < _ from Nat.le_of_ble_eq_true rfl)
theorem wlM_31 {σ : St} {i : Nat} {v : Int64} (h : i < 9) : wl tM σ 31 (nI i) v = some (sL σ 31 i v) := wlN rfl rfl h (show _ < _ from Nat.le_of_ble_eq_true rfl)
theorem rlM_32 {σ : St} {i : Nat} (h : i < 5) : rl tM σ 32 (nI i) = some (σ.2.2 32 i) := rlN rfl rfl h (show _ < _ from Nat.le_of_ble_eq_true rfl)
theorem wlM_32 {σ : St} {i : Nat} {v : Int64} (h : i < 5) : wl tM σ 32 (nI i) v = some (sL σ 32 i v) := wlN rfl rfl h (show _ < _ from Nat.le_of_ble_eq_true rfl)
theorem rlM_33 {σ : St} {i : Nat} (h : i < 100) : rl tM σ 33 (nI i) = some (σ.2.2 33 i) := rlN rfl rfl h (show _ < _ from Nat.le_of_ble_eq_true rfl)
theorem wlM_33 {σ : St} {i : Nat} {v : Int64} (h : i < 100) : wl tM σ 33 (nI i) v = some (sL σ 33 i v) := wlN rfl rfl h (show _ < _ from Nat.le_of_ble_eq_true rfl)
theorem rdM_34 {σ : St} {i : Nat} (h : i < 150) : rd tM σ 34 (nI i) = some (σ.2.1 34 i) := rdN rfl rfl h (show _ < _ from Nat.le_of_ble_eq_true rfl)
theorem wrM_34 {σ : St} {i : Nat} {v : Int32} (h : i < 150) : wr tM σ 34 (nI i) v = some (sA σ 34 i v) := wrN rfl rfl h (show _ < _ from Nat.le_of_ble_eq_true rfl)
theorem rdM_35 {σ : St} {i : Nat} (h : i < 150) : rd tM σ 35 (nI i) = some (σ.2.1 35 i) := rdN rfl rfl h (show _ < _ from Nat.le_of_ble_eq_true rfl)
theorem wrM_35 {σ : St} {i : Nat} {v : Int32} (h : i < 150) : wr tM σ 35 (nI i) v = some (sA σ 35 i v) := wrN rfl rfl h (show _ < _ from Nat.le_of_ble_eq_true rfl)
theorem rdM_36 {σ : St} {i : Nat} (h : i < 150) : rd tM σ 36 (nI i) = some (σ.2.1 36 i) := rdN rfl rfl h (show _ < _ from Nat.le_of_ble_eq_true rfl)
theorem wrM_36 {σ : St} {i : Nat} {v : Int32} (h : i < 150) : wr tM σ 36 (nI i) v = some (sA σ 36 i v) := wrN rfl rfl h (show _ < _ from Nat.le_of_ble_eq_true rfl)
theorem rdM_37 {σ : St} {i : Nat} (h : i < 150) : rd tM σ 37 (nI i) = some (σ.2.1 37 i) := rdN rfl rfl h (show _ < _ from Nat.le_of_ble_eq_true rfl)
theorem wrM_37 {σ : St} {i : Nat} {v : Int32} (h : i < 150) : wr tM σ 37 (nI i) v = some (sA σ 37 i v) := wrN rfl rfl h (show _ < _ from Nat.le_of_ble_eq_true rfl)
theorem rdM_38 {σ : St} {i : Nat} (h : i < 150) : rd tM σ 38 (nI i) = some (σ.2.1 38 i) := rdN rfl rfl h (show _ < _ from Nat.le_of_ble_eq_true rfl)
theorem wrM_38 {σ : St} {i : Nat} {v : Int32} (h : i < 150) : wr tM σ 38 (nI i) v = some (sA σ 38 i v) := wrN rfl rfl h (show _ < _ from Nat.le_of_ble_eq_true rfl)
theorem rdM_39 {σ : St} {i : Nat} (h : i < 16250) : rd tM σ 39 (nI i) = some (σ.2.1 39 i) := rdN rfl rfl h (show _ < _ from Nat.le_of_ble_eq_true rfl)
theorem wrM_39 {σ : St} {i : Nat} {v : Int32} (h : i < 16250) : wr tM σ 39 (nI i) v = some (sA σ 39 i v) := wrN rfl rfl h (show _ < _ from Nat.le_of_ble_eq_true rfl)
theorem rdM_40 {σ : St} {i : Nat} (h : i < 16250) : rd tM σ 40 (nI i) = some (σ.2.1 40 i) := rdN rfl rfl h (show _ < _ from Nat.le_of_ble_eq_true rfl)
theorem wrM_40 {σ : St} {i : Nat} {v : Int32} (h : i < 16250) : wr tM σ 40 (nI i) v = some (sA σ 40 i v) := wrN rfl rfl h (show _ < _ from Nat.le_of_ble_eq_true rfl)
theorem rdM_41 {σ : St} {i : Nat} (h : i < 2) : rd tM σ 41 (nI i) = some (σ.2.1 41 i) := rdN rfl rfl h (show _ < _ from Nat.le_of_ble_eq_true rfl)
theorem wrM_41 {σ : St} {i : Nat} {v : Int32} (h : i < 2) : wr tM σ 41 (nI i) v = some (sA σ 41 i v) := wrN rfl rfl h (show _ < _ from Nat.le_of_ble_eq_true rfl)
theorem rdM_42 {σ : St} {i : Nat} (h : i < 2) : rd tM σ 42 (nI i) = some (σ.2.1 42 i) := rdN rfl rfl h (show _ < _ from Nat.le_of_ble_eq_true rfl)
theorem wrM_42 {σ : St} {i : Nat} {v : Int32} (h : i < 2) : wr tM σ 42 (nI i) v = some (sA σ 42 i v) := wrN rfl rfl h (show _ < _ from Nat.le_of_ble_eq_true rfl)
theorem rdM_43 {σ : St} {i : Nat} (h : i < 120) : rd tM σ 43 (nI i) = some (σ.2.1 43 i) := rdN rfl rfl h (show _ < _ from Nat.le_of_ble_eq_true rfl)
theorem wrM_43 {σ : St} {i : Nat} {v : Int32} (h : i < 120) : wr tM σ 43 (nI i) v = some (sA σ 43 i v) := wrN rfl rfl h (show _ < _ from Nat.le_of_ble_eq_true rfl)
theorem rdM_44 {σ : St} {i : Nat} (h : i < 8) : rd tM σ 44 (nI i) = some (σ.2.1 44 i) := rdN rfl rfl h (show _ < _ from Nat.le_of_ble_eq_true rfl)
theorem wrM_44 {σ : St} {i : Nat} {v : Int32} (h : i < 8) : wr tM σ 44 (nI i) v = some (sA σ 44 i v) := wrN rfl rfl h (show _ < _ from Nat.le_of_ble_eq_true rfl)
theorem rdM_45 {σ : St} {i : Nat} (h : i < 8) : rd tM σ 45 (nI i) = some (σ.2.1 45 i) := rdN rfl rfl h (show _ < _ from Nat.le_of_ble_eq_true rfl)
theorem wrM_45 {σ : St} {i : Nat} {v : Int32} (h : i < 8) : wr tM σ 45 (nI i) v = some (sA σ 45 i v) := wrN rfl rfl h (show _ < _ from Nat.le_of_ble_eq_true rfl)
theorem rdM_46 {σ : St} {i : Nat} (h : i < 8) : rd tM σ 46 (nI i) = some (σ.2.1 46 i) := rdN rfl rfl h (show _ < _ from Nat.le_of_ble_eq_true rfl)
theorem wrM_46 {σ : St} {i : Nat} {v : Int32} (h : i < 8) : wr tM σ 46 (nI i) v = some (sA σ 46 i v) := wrN rfl rfl h (show _ < _ from Nat.le_of_ble_eq_true rfl)
theorem rlM_47 {σ : St} {i : Nat} (h : i < 16) : rl tM σ 47 (nI i) = some (σ.2.2 47 i) := rlN rfl rfl h (show _ < _ from Nat.le_of_ble_eq_true rfl)
theorem wlM_47 {σ : St} {i : Nat} {v : Int64} (h : i < 16) : wl tM σ 47 (nI i) v = some (sL σ 47 i v) := wlN rfl rfl h (show _ < _ from Nat.le_of_ble_eq_true rfl)
theorem rdM_48 {σ : St} {i : Nat} (h : i < 8) : rd tM σ 48 (nI i) = some (σ.2.1 48 i) := rdN rfl rfl h (show _ < _ from Nat.le_of_ble_eq_true rfl)
theorem wrM_48 {σ : St} {i : Nat} {v : Int32} (h : i < 8) : wr tM σ 48 (nI i) v = some (sA σ 48 i v) := wrN rfl rfl h (show _ < _ from Nat.le_of_ble_eq_true rfl)
theorem rdM_49 {σ : St} {i : Nat} (h : i < 8) : rd tM σ 49 (nI i) = some (σ.2.1 49 i) := rdN rfl rfl h (show _ < _ from Nat.le_of_ble_eq_true rfl)
theorem wrM_49 {σ : St} {i : Nat} {v : Int32} (h : i < 8) : wr tM σ 49 (nI i) v = some (sA σ 49 i v) := wrN rfl rfl h (show _ < _ from Nat.le_of_ble_eq_true rfl)
theorem rdM_50 {σ : St} {i : Nat} (h : i < 8) : rd tM σ 50 (nI i) = some (σ.2.1 50 i) := rdN rfl rfl h (show _ < _ from Nat.le_of_ble_eq_true rfl)
theorem wrM_50 {σ : St} {i : Nat} {v : Int32} (h : i < 8) : wr tM σ 50 (nI i) v = some (sA σ 50 i v) := wrN rfl rfl h (show _ < _ from Nat.le_of_ble_eq_true rfl)
theorem rdM_51 {σ : St} {i : Nat} (h : i < 8) : rd tM σ 51 (nI i) = some (σ.2.1 51 i) := rdN rfl rfl h (show _ < _ from Nat.le_of_ble_eq_true rfl)
theorem wrM_51 {σ : St} {i : Nat} {v : Int32} (h : i < 8) : wr tM σ 51 (nI i) v = some (sA σ 51 i v) := wrN rfl rfl h (show _ < _ from Nat.le_of_ble_eq_true rfl)
theorem rdM_52 {σ : St} {i : Nat} (h : i < 20) : rd tM σ 52 (nI i) = some (σ.2.1 52 i) := rdN rfl rfl h (show _ < _ from Nat.le_of_ble_eq_true rfl)
theorem wrM_52 {σ : St} {i : Nat} {v : Int32} (h : i < 20) : wr tM σ 52 (nI i) v = some (sA σ 52 i v) := wrN rfl rfl h (show _ < _ from Nat.le_of_ble_eq_true rfl)
theorem rdM_53 {σ : St} {i : Nat} (h : i < 20) : rd tM σ 53 (nI i) = some (σ.2.1 53 i) := rdN rfl rfl h (show _ < _ from Nat.le_of_ble_eq_true rfl)
theorem wrM_53 {σ : St} {i : Nat} {v : Int32} (h : i < 20) : wr tM σ 53 (nI i) v = some (sA σ 53 i v) := wrN rfl rfl h (show _ < _ from Nat.le_of_ble_eq_true rfl)
theorem rdM_54 {σ : St} {i : Nat} (h : i < 20) : rd tM σ 54 (nI i) = some (σ.2.1 54 i) := rdN rfl rfl h (show _ < _ from Nat.le_of_ble_eq_true rfl)
theorem wrM_54 {σ : St} {i : Nat} {v : Int32} (h : i < 20) : wr tM σ 54 (nI i) v = some (sA σ 54 i v) := wrN rfl rfl h (show _ < _ from Nat.le_of_ble_eq_true rfl)
theorem rdM_55 {σ : St} {i : Nat} (h : i < 9) : rd tM σ 55 (nI i) = some (σ.2.1 55 i) := rdN rfl rfl h (show _ < _ from Nat.le_of_ble_eq_true rfl)
theorem wrM_55 {σ : St} {i : Nat} {v : Int32} (h : i < 9) : wr tM σ 55 (nI i) v = some (sA σ 55 i v) := wrN rfl rfl h (show _ < _ from Nat.le_of_ble_eq_true rfl)
theorem rdM_56 {σ : St} {i : Nat} (h : i < 9) : rd tM σ 56 (nI i) = some (σ.2.1 56 i) := rdN rfl rfl h (show _ < _ from Nat.le_of_ble_eq_true rfl)
theorem wrM_56 {σ : St} {i : Nat} {v : Int32} (h : i < 9) : wr tM σ 56 (nI i) v = some (sA σ 56 i v) := wrN rfl rfl h (show _ < _ from Nat.le_of_ble_eq_true rfl)
theorem rdM_57 {σ : St} {i : Nat} (h : i < 6) : rd tM σ 57 (nI i) = some (σ.2.1 57 i) := rdN rfl rfl h (show _ < _ from Nat.le_of_ble_eq_true rfl)
theorem wrM_57 {σ : St} {i : Nat} {v : Int32} (h : i < 6) : wr tM σ 57 (nI i) v = some (sA σ 57 i v) := wrN rfl rfl h (show _ < _ from Nat.le_of_ble_eq_true rfl)
theorem rdM_58 {σ : St} {i : Nat} (h : i < 6) : rd tM σ 58 (nI i) = some (σ.2.1 58 i) := rdN rfl rfl h (show _ < _ from Nat.le_of_ble_eq_true rfl)
theorem wrM_58 {σ : St} {i : Nat} {v : Int32} (h : i < 6) : wr tM σ 58 (nI i) v = some (sA σ 58 i v) := wrN rfl rfl h (show _ < _ from Nat.le_of_ble_eq_true rfl)
theorem rdM_59 {σ : St} {i : Nat} (h : i < 6) : rd tM σ 59 (nI i) = some (σ.2.1 59 i) := rdN rfl rfl h (show _ < _ from Nat.le_of_ble_eq_true rfl)
theorem wrM_59 {σ : St} {i : Nat} {v : Int32} (h : i < 6) : wr tM σ 59 (nI i) v = some (sA σ 59 i v) := wrN rfl rfl h (show _ < _ from Nat.le_of_ble_eq_true rfl)
theorem rlM_60 {σ : St} {i : Nat} (h : i < 637) : rl tM σ 60 (nI i) = some (σ.2.2 60 i) := rlN rfl rfl h (show _ < _ from Nat.le_of_ble_eq_true rfl)
theorem wlM_60 {σ : St} {i : Nat} {v : Int64} (h : i < 637) : wl tM σ 60 (nI i) v = some (sL σ 60 i v) := wlN rfl rfl h (show _ < _ from Nat.le_of_ble_eq_true rfl)
theorem rdM_61 {σ : St} {i : Nat} (h : i < 6) : rd tM σ 61 (nI i) = some (σ.2.1 61 i) := rdN rfl rfl h (show _ < _ from Nat.le_of_ble_eq_true rfl)
theorem wrM_61 {σ : St} {i : Nat} {v : Int32} (h : i < 6) : wr tM σ 61 (nI i) v = some (sA σ 61 i v) := wrN rfl rfl h (show _ < _ from Nat.le_of_ble_eq_true rfl)
theorem rdM_62 {σ : St} {i : Nat} (h : i < 6) : rd tM σ 62 (nI i) = some (σ.2.1 62 i) := rdN rfl rfl h (show _ < _ from Nat.le_of_ble_eq_true rfl)
theorem wrM_62 {σ : St} {i : Nat} {v : Int32} (h : i < 6) : wr tM σ 62 (nI i) v = some (sA σ 62 i v) := wrN rfl rfl h (show _ < _ from Nat.le_of_ble_eq_true rfl)
