def obC : List (Option (Nat × Nat)) := [some (10, 15), some (6, 6), some (7, 5), some (5, 12), some (2, 16), some (4, 10), some (1, 12), some (8, 8), some (9, 7), some (3, 3), some (0, 9)]
def rfC_0 : List (Option Nat) := [none, some 1, some 2, some 3, some 4, some 5, some 11, some 12, some 13, none, some 6, some 7, some 8, some 9, some 10]
def rfC_1 : List (Option Nat) := [some 14, some 15, some 16, some 17, none, none]
def rfC_2 : List (Option Nat) := [some 18, some 19, some 20, some 21, none]
def rfC_3 : List (Option Nat) := [some 22, some 23, some 24, some 25, some 26, some 27, some 28, none, some 29, some 30, some 31, none]
def rfC_4 : List (Option Nat) := [none, some 32, some 33, some 34, some 35, some 36, some 37, none, none, some 38, some 39, some 40, some 41, some 42, some 43, some 44]
def rfC_5 : List (Option Nat) := [some 4, some 45, none, none, none, none, none, none, none, none]
def rfC_6 : List (Option Nat) := [none, none, none, none, none, none, none, some 46, some 47, some 48, some 49, none]
def rfC_7 : List (Option Nat) := [some 50, some 51, some 52, some 53, some 54, some 55, some 56, some 57]
def rfC_8 : List (Option Nat) := [some 58, some 59, some 60, some 61, none, some 62, none]
def rfC_9 : List (Option Nat) := [some 63, some 64, none]
def rfC_10 : List (Option Nat) := [some 65, some 66, some 67, none, some 68, some 69, some 70, none, none]
def rfC : List (List (Option Nat)) := [rfC_0, rfC_1, rfC_2, rfC_3, rfC_4, rfC_5, rfC_6, rfC_7, rfC_8, rfC_9, rfC_10]
def kdC : List Nat := [0, 0, 0, 0, 0, 0, 0, 0, 0, 0, 0, 1, 1, 0, 0, 0, 0, 0, 0, 0, 0, 0, 0, 0, 0, 0, 0, 0, 0, 0, 0, 0, 0, 0, 0, 0, 0, 0, 0, 0, 0, 0, 0, 0, 1, 0, 0, 0, 0, 0, 0, 0, 0, 0, 0, 0, 1, 1, 0, 0, 0, 0, 3, 0, 0, 0, 0, 0, 1, 0, 0]
def lnC : List (Option Nat) := [some 0, some 0, some 0, some 0, some 0, some 0, some 0, some 0, some 0, some 0, some 0, some 9, some 9, some 750, some 576, some 32, some 32, some 2, some 40, some 40, some 40, some 40, some 300, some 300, some 300, some 300, some 300, some 300, some 300, some 300, some 300, some 300, some 12, some 12, some 12, some 12, some 12, none, some 144, some 144, some 144, some 144, some 144, some 144, some 96, some 400, some 130, some 650, some 650, some 650, some 2, some 2, some 120, some 8, some 8, some 8, some 8, some 8, some 8, some 8, some 8, some 8, some 800, some 9, some 9, some 6, some 6, some 6, some 637, some 6, some 6]
def tC : Lay := (71, fun j => obC.getD j none, fun j k => (rfC.getD j []).getD k none, fun j => kdC.getD j 0, fun j => lnC.getD j (some 0))
theorem tC_ok : LayOK tC := by
  intro i q h
  by_cases hi : i < 11
  · have key : ∀ i, i < 11 → ∀ q, obC.getD i none = some q → q.2 ≤ 99 := by decide
    exact key i hi q h
  · have : obC.getD i none = none := by rw [List.getD_eq_getElem?_getD, List.getElem?_eq_none (by show obC.length ≤ i; simp only [obC, List.length_cons, List.length_nil]; omega)]; rfl
    rw [show tC.2.1 i = obC.getD i none from rfl, this] at h
    cases h
theorem iaC11 : isArr tC 1 11 := ⟨by decide, rfl, rfl⟩
theorem iaC12 : isArr tC 1 12 := ⟨by decide, rfl, rfl⟩
theorem iaC13 : isArr tC 0 13 := ⟨by decide, rfl, rfl⟩
theorem iaC14 : isArr tC 0 14 := ⟨by decide, rfl, rfl⟩
theorem iaC15 : isArr tC 0 15 := ⟨by decide, rfl, rfl⟩
theorem iaC16 : isArr tC 0 16 := ⟨by decide, rfl, rfl⟩
theorem iaC17 : isArr tC 0 17 := ⟨by decide, rfl, rfl⟩
theorem iaC18 : isArr tC 0 18 := ⟨by decide, rfl, rfl⟩
theorem iaC19 : isArr tC 0 19 := ⟨by decide, rfl, rfl⟩
theorem iaC20 : isArr tC 0 20 := ⟨by decide, rfl, rfl⟩
theorem iaC21 : isArr tC 0 21 := ⟨by decide, rfl, rfl⟩
theorem iaC22 : isArr tC 0 22 := ⟨by decide, rfl, rfl⟩
theorem iaC23 : isArr tC 0 23 := ⟨by decide, rfl, rfl⟩
theorem iaC24 : isArr tC 0 24 := ⟨by decide, rfl, rfl⟩
theorem iaC25 : isArr tC 0 25 := ⟨by decide, rfl, rfl⟩
theorem iaC26 : isArr tC 0 26 := ⟨by decide, rfl, rfl⟩
theorem iaC27 : isArr tC 0 27 := ⟨by decide, rfl, rfl⟩
theorem iaC28 : isArr tC 0 28 := ⟨by decide, rfl, rfl⟩
theorem iaC29 : isArr tC 0 29 := ⟨by decide, rfl, rfl⟩
theorem iaC30 : isArr tC 0 30 := ⟨by decide, rfl, rfl⟩
theorem iaC31 : isArr tC 0 31 := ⟨by decide, rfl, rfl⟩
theorem iaC32 : isArr tC 0 32 := ⟨by decide, rfl, rfl⟩
theorem iaC33 : isArr tC 0 33 := ⟨by decide, rfl, rfl⟩
theorem iaC34 : isArr tC 0 34 := ⟨by decide, rfl, rfl⟩
theorem iaC35 : isArr tC 0 35 := ⟨by decide, rfl, rfl⟩
theorem iaC36 : isArr tC 0 36 := ⟨by decide, rfl, rfl⟩
theorem iaC37 : isArr tC 0 37 := ⟨by decide, rfl, rfl⟩
theorem iaC38 : isArr tC 0 38 := ⟨by decide, rfl, rfl⟩
theorem iaC39 : isArr tC 0 39 := ⟨by decide, rfl, rfl⟩
theorem iaC40 : isArr tC 0 40 := ⟨by decide, rfl, rfl⟩
theorem iaC41 : isArr tC 0 41 := ⟨by decide, rfl, rfl⟩
theorem iaC42 : isArr tC 0 42 := ⟨by decide, rfl, rfl⟩
theorem iaC43 : isArr tC 0 43 := ⟨by decide, rfl, rfl⟩
theorem iaC44 : isArr tC 1 44 := ⟨by decide, rfl, rfl⟩
theorem iaC45 : isArr tC 0 45 := ⟨by decide, rfl, rfl⟩
theorem iaC46 : isArr tC 0 46 := ⟨by decide, rfl, rfl⟩
theorem iaC47 : isArr tC 0 47 := ⟨by decide, rfl, rfl⟩
theorem iaC48 : isArr tC 0 48 := ⟨by decide, rfl, rfl⟩
theorem iaC49 : isArr tC 0 49 := ⟨by decide, rfl, rfl⟩
theorem iaC50 : isArr tC 0 50 := ⟨by decide, rfl, rfl⟩
theorem iaC51 : isArr tC 0 51 := ⟨by decide, rfl, rfl⟩
theorem iaC52 : isArr tC 0 52 := ⟨by decide, rfl, rfl⟩
theorem iaC53 : isArr tC 0 53 := ⟨by decide, rfl, rfl⟩
theorem iaC54 : isArr tC 0 54 := ⟨by decide, rfl, rfl⟩
theorem iaC55 : isArr tC 0 55 := ⟨by decide, rfl, rfl⟩
theorem iaC56 : isArr tC 1 56 := ⟨by decide, rfl, rfl⟩
theorem iaC57 : isArr tC 1 57 := ⟨by decide, rfl, rfl⟩
theorem iaC58 : isArr tC 0 58 := ⟨by decide, rfl, rfl⟩
theorem iaC59 : isArr tC 0 59 := ⟨by decide, rfl, rfl⟩
theorem iaC60 : isArr tC 0 60 := ⟨by decide, rfl, rfl⟩
theorem iaC61 : isArr tC 0 61 := ⟨by decide, rfl, rfl⟩
theorem iaC62 : isArr tC 3 62 := ⟨by decide, rfl, rfl⟩
theorem iaC63 : isArr tC 0 63 := ⟨by decide, rfl, rfl⟩
theorem iaC64 : isArr tC 0 64 := ⟨by decide, rfl, rfl⟩
theorem iaC65 : isArr tC 0 65 := ⟨by decide, rfl, rfl⟩
theorem iaC66 : isArr tC 0 66 := ⟨by decide, rfl, rfl⟩
theorem iaC67 : isArr tC 0 67 := ⟨by decide, rfl, rfl⟩
theorem iaC68 : isArr tC 1 68 := ⟨by decide, rfl, rfl⟩
theorem iaC69 : isArr tC 0 69 := ⟨by decide, rfl, rfl⟩
theorem iaC70 : isArr tC 0 70 := ⟨by decide, rfl, rfl⟩
def obM : List (Option (Nat × Nat)) := [some (11, 93)]
def rfM_0 : List (Option Nat) := [none, some 1, none, some 2, some 3, some 4, some 5, none, some 6, some 7, some 8, some 9, some 10, some 11, none, some 12, some 13, some 14, some 15, some 16, some 17, none, none, some 18, none, none, some 19, some 20, some 21, some 22, some 23, some 24, some 25, some 26, some 27, none, some 28, some 29, none, none, none, none, none, none, some 30, some 31, some 32, none, none, none, none, none, some 33, none, some 34, some 35, some 36, some 37, some 38, some 39, some 40, none, none, none, some 41, some 42, some 43, some 44, some 45, some 46, some 47, none, some 48, some 49, some 50, some 51, none, some 52, some 53, some 54, none, some 55, some 56, none, some 57, some 58, some 59, some 60, none, none, none, some 61, some 62]
def rfM : List (List (Option Nat)) := [rfM_0]
def kdM : List Nat := [0, 0, 0, 0, 0, 0, 0, 0, 0, 0, 0, 0, 0, 0, 0, 0, 0, 0, 2, 0, 0, 0, 0, 0, 0, 0, 0, 0, 0, 0, 0, 1, 1, 1, 0, 0, 0, 0, 0, 3, 3, 0, 0, 0, 0, 0, 0, 1, 0, 0, 0, 0, 0, 0, 0, 0, 0, 0, 0, 0, 1, 0, 0]
def lnM : List (Option Nat) := [some 0, some 576, some 40, some 40, some 40, some 40, some 300, some 300, some 300, some 300, some 300, some 300, some 300, some 300, some 300, some 2, some 32, some 32, some 400, some 12, some 12, some 12, some 144, some 144, some 144, some 144, some 144, some 144, some 5040, some 5040, some 420, some 9, some 5, some 100, some 150, some 150, some 150, some 150, some 150, some 16250, some 16250, some 2, some 2, some 120, some 8, some 8, some 8, some 16, some 8, some 8, some 8, some 8, some 20, some 20, some 20, some 9, some 9, some 6, some 6, some 6, some 637, some 6, some 6]
def tM : Lay := (63, fun j => obM.getD j none, fun j k => (rfM.getD j []).getD k none, fun j => kdM.getD j 0, fun j => lnM.getD j (some 0))
theorem tM_ok : LayOK tM := by
  intro i q h
  by_cases hi : i < 1
  · have key : ∀ i, i < 1 → ∀ q, obM.getD i none = some q → q.2 ≤ 99 := by decide
    exact key i hi q h
  · have : obM.getD i none = none := by rw [List.getD_eq_getElem?_getD, List.getElem?_eq_none (by show obM.length ≤ i; simp only [obM, List.length_cons, List.length_nil]; omega)]; rfl
    rw [show tM.2.1 i = obM.getD i none from rfl, this] at h
    cases h
theorem iaM1 : isArr tM 0 1 := ⟨by decide, rfl, rfl⟩
theorem iaM2 : isArr tM 0 2 := ⟨by decide, rfl, rfl⟩
theorem iaM3 : isArr tM 0 3 := ⟨by decide, rfl, rfl⟩
theorem iaM4 : isArr tM 0 4 := ⟨by decide, rfl, rfl⟩
theorem iaM5 : isArr tM 0 5 := ⟨by decide, rfl, rfl⟩
theorem iaM6 : isArr tM 0 6 := ⟨by decide, rfl, rfl⟩
theorem iaM7 : isArr tM 0 7 := ⟨by decide, rfl, rfl⟩
theorem iaM8 : isArr tM 0 8 := ⟨by decide, rfl, rfl⟩
theorem iaM9 : isArr tM 0 9 := ⟨by decide, rfl, rfl⟩
theorem iaM10 : isArr tM 0 10 := ⟨by decide, rfl, rfl⟩
theorem iaM11 : isArr tM 0 11 := ⟨by decide, rfl, rfl⟩
theorem iaM12 : isArr tM 0 12 := ⟨by decide, rfl, rfl⟩
theorem iaM13 : isArr tM 0 13 := ⟨by decide, rfl, rfl⟩
theorem iaM14 : isArr tM 0 14 := ⟨by decide, rfl, rfl⟩
theorem iaM15 : isArr tM 0 15 := ⟨by decide, rfl, rfl⟩
theorem iaM16 : isArr tM 0 16 := ⟨by decide, rfl, rfl⟩
theorem iaM17 : isArr tM 0 17 := ⟨by decide, rfl, rfl⟩
theorem iaM18 : isArr tM 2 18 := ⟨by decide, rfl, rfl⟩
theorem iaM19 : isArr tM 0 19 := ⟨by decide, rfl, rfl⟩
theorem iaM20 : isArr tM 0 20 := ⟨by decide, rfl, rfl⟩
theorem iaM21 : isArr tM 0 21 := ⟨by decide, rfl, rfl⟩
theorem iaM22 : isArr tM 0 22 := ⟨by decide, rfl, rfl⟩
theorem iaM23 : isArr tM 0 23 := ⟨by decide, rfl, rfl⟩
theorem iaM24 : isArr tM 0 24 := ⟨by decide, rfl, rfl⟩
theorem iaM25 : isArr tM 0 25 := ⟨by decide, rfl, rfl⟩
theorem iaM26 : isArr tM 0 26 := ⟨by decide, rfl, rfl⟩
theorem iaM27 : isArr tM 0 27 := ⟨by decide, rfl, rfl⟩
theorem iaM28 : isArr tM 0 28 := ⟨by decide, rfl, rfl⟩
theorem iaM29 : isArr tM 0 29 := ⟨by decide, rfl, rfl⟩
theorem iaM30 : isArr tM 0 30 := ⟨by decide, rfl, rfl⟩
theorem iaM31 : isArr tM 1 31 := ⟨by decide, rfl, rfl⟩
theorem iaM32 : isArr tM 1 32 := ⟨by decide, rfl, rfl⟩
theorem iaM33 : isArr tM 1 33 := ⟨by decide, rfl, rfl⟩
theorem iaM34 : isArr tM 0 34 := ⟨by decide, rfl, rfl⟩
theorem iaM35 : isArr tM 0 35 := ⟨by decide, rfl, rfl⟩
theorem iaM36 : isArr tM 0 36 := ⟨by decide, rfl, rfl⟩
theorem iaM37 : isArr tM 0 37 := ⟨by decide, rfl, rfl⟩
theorem iaM38 : isArr tM 0 38 := ⟨by decide, rfl, rfl⟩
theorem iaM39 : isArr tM 3 39 := ⟨by decide, rfl, rfl⟩
theorem iaM40 : isArr tM 3 40 := ⟨by decide, rfl, rfl⟩
theorem iaM41 : isArr tM 0 41 := ⟨by decide, rfl, rfl⟩
theorem iaM42 : isArr tM 0 42 := ⟨by decide, rfl, rfl⟩
theorem iaM43 : isArr tM 0 43 := ⟨by decide, rfl, rfl⟩
theorem iaM44 : isArr tM 0 44 := ⟨by decide, rfl, rfl⟩
theorem iaM45 : isArr tM 0 45 := ⟨by decide, rfl, rfl⟩
theorem iaM46 : isArr tM 0 46 := ⟨by decide, rfl, rfl⟩
theorem iaM47 : isArr tM 1 47 := ⟨by decide, rfl, rfl⟩
theorem iaM48 : isArr tM 0 48 := ⟨by decide, rfl, rfl⟩
theorem iaM49 : isArr tM 0 49 := ⟨by decide, rfl, rfl⟩
theorem iaM50 : isArr tM 0 50 := ⟨by decide, rfl, rfl⟩
theorem iaM51 : isArr tM 0 51 := ⟨by decide, rfl, rfl⟩
theorem iaM52 : isArr tM 0 52 := ⟨by decide, rfl, rfl⟩
theorem iaM53 : isArr tM 0 53 := ⟨by decide, rfl, rfl⟩
theorem iaM54 : isArr tM 0 54 := ⟨by decide, rfl, rfl⟩
theorem iaM55 : isArr tM 0 55 := ⟨by decide, rfl, rfl⟩
theorem iaM56 : isArr tM 0 56 := ⟨by decide, rfl, rfl⟩
theorem iaM57 : isArr tM 0 57 := ⟨by decide, rfl, rfl⟩
theorem iaM58 : isArr tM 0 58 := ⟨by decide, rfl, rfl⟩
theorem iaM59 : isArr tM 0 59 := ⟨by decide, rfl, rfl⟩
theorem iaM60 : isArr tM 1 60 := ⟨by decide, rfl, rfl⟩
theorem iaM61 : isArr tM 0 61 := ⟨by decide, rfl, rfl⟩
theorem iaM62 : isArr tM 0 62 := ⟨by decide, rfl, rfl⟩
theorem lk_J0_335 : LkV RJ0 335 yJ0_coder_7d493 cJ0_coder_7d493 1 (some .byte) 0 := ⟨wM_J0_335, wIM_yJ0_coder_7d493, wSel_yJ0_coder_7d493, wI_J0, wC_yJ0_coder_7d493, by decide +kernel, by decide +kernel, by decide +kernel⟩
theorem lk_J0_492 : LkV RJ0 492 yJ0_isLatin1_aae02 cJ0_isLatin1_aae02 1 (some .boolean) 0 := ⟨wM_J0_492, wIM_yJ0_isLatin1_aae02, wSel_yJ0_isLatin1_aae02, wI_J0, wC_yJ0_isLatin1_aae02, by decide +kernel, by decide +kernel, by decide +kernel⟩
theorem lk_J0_495 : LkS RJ0 495 yJ1_charAt_3b067 cJ1_charAt_3b067 2 (some .char) 2 := ⟨wM_J0_495, wS_yJ1_charAt_3b067, wI_J1, wC_yJ1_charAt_3b067, by decide +kernel, by decide +kernel, by decide +kernel⟩
theorem lk_J0_1059 : LkS RJ0 1059 yJ3_checkIndex_8e157 cJ3_checkIndex_8e157 3 (some .int) 3 := ⟨wM_J0_1059, wS_yJ3_checkIndex_8e157, wI_J3, wC_yJ3_checkIndex_8e157, by decide +kernel, by decide +kernel, by decide +kernel⟩
theorem lk_J1_9 : LkS RJ1 9 yJ0_checkIndex_df160 cJ0_checkIndex_df160 2 none 2 := ⟨wM_J1_9, wS_yJ0_checkIndex_df160, wI_J0, wC_yJ0_checkIndex_df160, by decide +kernel, by decide +kernel, by decide +kernel⟩
theorem lk_J7_304 : LkS RJ7 304 yJ9_min_7cf53 cJ9_min_7cf53 2 (some .int) 2 := ⟨wM_J7_304, wS_yJ9_min_7cf53, wI_J9, wC_yJ9_min_7cf53, by decide +kernel, by decide +kernel, by decide +kernel⟩
theorem lk_L_13 : LkV RL 13 yX10_clock cX10_clock 2 (some .boolean) 1 := ⟨wM_L_13, wIM_yX10_clock, wSel_yX10_clock, wI_X10, wC_yX10_clock, by decide +kernel, by decide +kernel, by decide +kernel⟩
theorem lk_L_17 : LkV RL 17 yX11_clock cX11_clock 2 (some .boolean) 1 := ⟨wM_L_17, wIM_yX11_clock, wSel_yX11_clock, wI_X11, wC_yX11_clock, by decide +kernel, by decide +kernel, by decide +kernel⟩
theorem lk_L_18 : LkV RL 18 yX10_depth cX10_depth 4 (some .int) 3 := ⟨wM_L_18, wIM_yX10_depth, wSel_yX10_depth, wI_X10, wC_yX10_depth, by decide +kernel, by decide +kernel, by decide +kernel⟩
theorem lk_L_22 : LkV RL 22 yX11_depth cX11_depth 5 (some .int) 3 := ⟨wM_L_22, wIM_yX11_depth, wSel_yX11_depth, wI_X11, wC_yX11_depth, by decide +kernel, by decide +kernel, by decide +kernel⟩
theorem lk_L_23 : LkV RL 23 yX10_ship cX10_ship 5 (some .int) 4 := ⟨wM_L_23, wIM_yX10_ship, wSel_yX10_ship, wI_X10, wC_yX10_ship, by decide +kernel, by decide +kernel, by decide +kernel⟩
theorem lk_L_27 : LkV RL 27 yX11_ship cX11_ship 5 (some .int) 4 := ⟨wM_L_27, wIM_yX11_ship, wSel_yX11_ship, wI_X11, wC_yX11_ship, by decide +kernel, by decide +kernel, by decide +kernel⟩
theorem lk_L_28 : LkV RL 28 yX10_report cX10_report 6 (some .int) 5 := ⟨wM_L_28, wIM_yX10_report, wSel_yX10_report, wI_X10, wC_yX10_report, by decide +kernel, by decide +kernel, by decide +kernel⟩
theorem lk_L_32 : LkV RL 32 yX11_report cX11_report 6 (some .int) 5 := ⟨wM_L_32, wIM_yX11_report, wSel_yX11_report, wI_X11, wC_yX11_report, by decide +kernel, by decide +kernel, by decide +kernel⟩
theorem lk_L_33 : LkV RL 33 yX10_where cX10_where 4 (some .int) 3 := ⟨wM_L_33, wIM_yX10_where, wSel_yX10_where, wI_X10, wC_yX10_where, by decide +kernel, by decide +kernel, by decide +kernel⟩
theorem lk_L_36 : LkV RL 36 yX11_where cX11_where 4 (some .int) 3 := ⟨wM_L_36, wIM_yX11_where, wSel_yX11_where, wI_X11, wC_yX11_where, by decide +kernel, by decide +kernel, by decide +kernel⟩
theorem lk_L_37 : LkV RL 37 yX10_chain cX10_chain 3 (some .int) 2 := ⟨wM_L_37, wIM_yX10_chain, wSel_yX10_chain, wI_X10, wC_yX10_chain, by decide +kernel, by decide +kernel, by decide +kernel⟩
theorem lk_L_41 : LkV RL 41 yX11_chain cX11_chain 8 (some .int) 2 := ⟨wM_L_41, wIM_yX11_chain, wSel_yX11_chain, wI_X11, wC_yX11_chain, by decide +kernel, by decide +kernel, by decide +kernel⟩
theorem lk_L_42 : LkV RL 42 yX10_chained cX10_chained 2 (some .int) 1 := ⟨wM_L_42, wIM_yX10_chained, wSel_yX10_chained, wI_X10, wC_yX10_chained, by decide +kernel, by decide +kernel, by decide +kernel⟩
theorem lk_L_46 : LkV RL 46 yX11_chained cX11_chained 2 (some .int) 1 := ⟨wM_L_46, wIM_yX11_chained, wSel_yX11_chained, wI_X11, wC_yX11_chained, by decide +kernel, by decide +kernel, by decide +kernel⟩
theorem lk_L_47 : LkV RL 47 yX10_point cX10_point 4 (some .int) 3 := ⟨wM_L_47, wIM_yX10_point, wSel_yX10_point, wI_X10, wC_yX10_point, by decide +kernel, by decide +kernel, by decide +kernel⟩
theorem lk_L_50 : LkV RL 50 yX11_point cX11_point 4 (some .int) 3 := ⟨wM_L_50, wIM_yX11_point, wSel_yX11_point, wI_X11, wC_yX11_point, by decide +kernel, by decide +kernel, by decide +kernel⟩
theorem lk_L_51 : LkV RL 51 yX10_chart cX10_chart 3 (some .boolean) 2 := ⟨wM_L_51, wIM_yX10_chart, wSel_yX10_chart, wI_X10, wC_yX10_chart, by decide +kernel, by decide +kernel, by decide +kernel⟩
theorem lk_L_55 : LkV RL 55 yX11_chart cX11_chart 3 (some .boolean) 2 := ⟨wM_L_55, wIM_yX11_chart, wSel_yX11_chart, wI_X11, wC_yX11_chart, by decide +kernel, by decide +kernel, by decide +kernel⟩
theorem lk_L_56 : LkV RL 56 yX10_reach cX10_reach 3 (some .int) 2 := ⟨wM_L_56, wIM_yX10_reach, wSel_yX10_reach, wI_X10, wC_yX10_reach, by decide +kernel, by decide +kernel, by decide +kernel⟩
theorem lk_L_59 : LkV RL 59 yX11_reach cX11_reach 3 (some .int) 2 := ⟨wM_L_59, wIM_yX11_reach, wSel_yX11_reach, wI_X11, wC_yX11_reach, by decide +kernel, by decide +kernel, by decide +kernel⟩
theorem lk_L_60 : LkV RL 60 yX10_within cX10_within 6 (some .int) 5 := ⟨wM_L_60, wIM_yX10_within, wSel_yX10_within, wI_X10, wC_yX10_within, by decide +kernel, by decide +kernel, by decide +kernel⟩
theorem lk_L_63 : LkV RL 63 yX11_within cX11_within 6 (some .int) 5 := ⟨wM_L_63, wIM_yX11_within, wSel_yX11_within, wI_X11, wC_yX11_within, by decide +kernel, by decide +kernel, by decide +kernel⟩
theorem lk_L_64 : LkV RL 64 yX10_inside cX10_inside 10 (some .long) 4 := ⟨wM_L_64, wIM_yX10_inside, wSel_yX10_inside, wI_X10, wC_yX10_inside, by decide +kernel, by decide +kernel, by decide +kernel⟩
theorem lk_L_68 : LkV RL 68 yX11_inside cX11_inside 10 (some .long) 4 := ⟨wM_L_68, wIM_yX11_inside, wSel_yX11_inside, wI_X11, wC_yX11_inside, by decide +kernel, by decide +kernel, by decide +kernel⟩
theorem lk_L_69 : LkV RL 69 yX10_beside cX10_beside 6 (some .int) 2 := ⟨wM_L_69, wIM_yX10_beside, wSel_yX10_beside, wI_X10, wC_yX10_beside, by decide +kernel, by decide +kernel, by decide +kernel⟩
theorem lk_L_72 : LkV RL 72 yX11_beside cX11_beside 5 (some .int) 2 := ⟨wM_L_72, wIM_yX11_beside, wSel_yX11_beside, wI_X11, wC_yX11_beside, by decide +kernel, by decide +kernel, by decide +kernel⟩
theorem lk_L_73 : LkV RL 73 yX10_feed cX10_feed 6 (some .int) 5 := ⟨wM_L_73, wIM_yX10_feed, wSel_yX10_feed, wI_X10, wC_yX10_feed, by decide +kernel, by decide +kernel, by decide +kernel⟩
theorem lk_L_76 : LkV RL 76 yX11_feed cX11_feed 6 (some .int) 5 := ⟨wM_L_76, wIM_yX11_feed, wSel_yX11_feed, wI_X11, wC_yX11_feed, by decide +kernel, by decide +kernel, by decide +kernel⟩
theorem lk_L_77 : LkV RL 77 yX10_end cX10_end 2 (some .int) 1 := ⟨wM_L_77, wIM_yX10_end, wSel_yX10_end, wI_X10, wC_yX10_end, by decide +kernel, by decide +kernel, by decide +kernel⟩
theorem lk_L_80 : LkV RL 80 yX11_end cX11_end 2 (some .int) 1 := ⟨wM_L_80, wIM_yX11_end, wSel_yX11_end, wI_X11, wC_yX11_end, by decide +kernel, by decide +kernel, by decide +kernel⟩
theorem lk_L_81 : LkV RL 81 yX10_statute cX10_statute 4 (some .int) 2 := ⟨wM_L_81, wIM_yX10_statute, wSel_yX10_statute, wI_X10, wC_yX10_statute, by decide +kernel, by decide +kernel, by decide +kernel⟩
theorem lk_L_84 : LkV RL 84 yX11_statute cX11_statute 4 (some .int) 2 := ⟨wM_L_84, wIM_yX11_statute, wSel_yX11_statute, wI_X11, wC_yX11_statute, by decide +kernel, by decide +kernel, by decide +kernel⟩
theorem lk_L_85 : LkV RL 85 yX10_inForce cX10_inForce 3 (some .int) 2 := ⟨wM_L_85, wIM_yX10_inForce, wSel_yX10_inForce, wI_X10, wC_yX10_inForce, by decide +kernel, by decide +kernel, by decide +kernel⟩
theorem lk_L_88 : LkV RL 88 yX11_inForce cX11_inForce 3 (some .int) 2 := ⟨wM_L_88, wIM_yX11_inForce, wSel_yX11_inForce, wI_X11, wC_yX11_inForce, by decide +kernel, by decide +kernel, by decide +kernel⟩
theorem lk_L_89 : LkV RL 89 yX10_may cX10_may 7 (some .int) 6 := ⟨wM_L_89, wIM_yX10_may, wSel_yX10_may, wI_X10, wC_yX10_may, by decide +kernel, by decide +kernel, by decide +kernel⟩
theorem lk_L_93 : LkV RL 93 yX11_may cX11_may 7 (some .int) 6 := ⟨wM_L_93, wIM_yX11_may, wSel_yX11_may, wI_X11, wC_yX11_may, by decide +kernel, by decide +kernel, by decide +kernel⟩
theorem lk_L_94 : LkV RL 94 yX10_mesh cX10_mesh 6 (some .long) 5 := ⟨wM_L_94, wIM_yX10_mesh, wSel_yX10_mesh, wI_X10, wC_yX10_mesh, by decide +kernel, by decide +kernel, by decide +kernel⟩
theorem lk_L_98 : LkV RL 98 yX11_mesh cX11_mesh 6 (some .long) 5 := ⟨wM_L_98, wIM_yX11_mesh, wSel_yX11_mesh, wI_X11, wC_yX11_mesh, by decide +kernel, by decide +kernel, by decide +kernel⟩
theorem lk_L_99 : LkV RL 99 yX10_by cX10_by 7 (some .int) 6 := ⟨wM_L_99, wIM_yX10_by, wSel_yX10_by, wI_X10, wC_yX10_by, by decide +kernel, by decide +kernel, by decide +kernel⟩
theorem lk_L_102 : LkV RL 102 yX11_by cX11_by 8 (some .int) 6 := ⟨wM_L_102, wIM_yX11_by, wSel_yX11_by, wI_X11, wC_yX11_by, by decide +kernel, by decide +kernel, by decide +kernel⟩
theorem lk_L_103 : LkV RL 103 yX10_act cX10_act 7 (some .int) 5 := ⟨wM_L_103, wIM_yX10_act, wSel_yX10_act, wI_X10, wC_yX10_act, by decide +kernel, by decide +kernel, by decide +kernel⟩
theorem lk_L_106 : LkV RL 106 yX11_act cX11_act 6 (some .int) 5 := ⟨wM_L_106, wIM_yX11_act, wSel_yX11_act, wI_X11, wC_yX11_act, by decide +kernel, by decide +kernel, by decide +kernel⟩
theorem lk_L_107 : LkV RL 107 yX10_kept cX10_kept 3 (some .int) 2 := ⟨wM_L_107, wIM_yX10_kept, wSel_yX10_kept, wI_X10, wC_yX10_kept, by decide +kernel, by decide +kernel, by decide +kernel⟩
theorem lk_L_110 : LkV RL 110 yX11_kept cX11_kept 3 (some .int) 2 := ⟨wM_L_110, wIM_yX11_kept, wSel_yX11_kept, wI_X11, wC_yX11_kept, by decide +kernel, by decide +kernel, by decide +kernel⟩
theorem lk_L_111 : LkV RL 111 yX10_broken cX10_broken 6 (some .int) 2 := ⟨wM_L_111, wIM_yX10_broken, wSel_yX10_broken, wI_X10, wC_yX10_broken, by decide +kernel, by decide +kernel, by decide +kernel⟩
theorem lk_L_114 : LkV RL 114 yX11_broken cX11_broken 5 (some .int) 2 := ⟨wM_L_114, wIM_yX11_broken, wSel_yX11_broken, wI_X11, wC_yX11_broken, by decide +kernel, by decide +kernel, by decide +kernel⟩
theorem lk_L_115 : LkV RL 115 yX10_hook cX10_hook 8 (some .int) 6 := ⟨wM_L_115, wIM_yX10_hook, wSel_yX10_hook, wI_X10, wC_yX10_hook, by decide +kernel, by decide +kernel, by decide +kernel⟩
theorem lk_L_118 : LkV RL 118 yX11_hook cX11_hook 10 (some .int) 6 := ⟨wM_L_118, wIM_yX11_hook, wSel_yX11_hook, wI_X11, wC_yX11_hook, by decide +kernel, by decide +kernel, by decide +kernel⟩
theorem lk_L_119 : LkV RL 119 yX10_hooks cX10_hooks 1 (some .int) 0 := ⟨wM_L_119, wIM_yX10_hooks, wSel_yX10_hooks, wI_X10, wC_yX10_hooks, by decide +kernel, by decide +kernel, by decide +kernel⟩
theorem lk_L_123 : LkV RL 123 yX11_hooks cX11_hooks 1 (some .int) 0 := ⟨wM_L_123, wIM_yX11_hooks, wSel_yX11_hooks, wI_X11, wC_yX11_hooks, by decide +kernel, by decide +kernel, by decide +kernel⟩
theorem lk_L_124 : LkV RL 124 yX10_way cX10_way 13 (some .int) 4 := ⟨wM_L_124, wIM_yX10_way, wSel_yX10_way, wI_X10, wC_yX10_way, by decide +kernel, by decide +kernel, by decide +kernel⟩
theorem lk_L_127 : LkV RL 127 yX11_way cX11_way 9 (some .int) 4 := ⟨wM_L_127, wIM_yX11_way, wSel_yX11_way, wI_X11, wC_yX11_way, by decide +kernel, by decide +kernel, by decide +kernel⟩
theorem lk_L_128 : LkV RL 128 yX10_office cX10_office 4 (some .boolean) 3 := ⟨wM_L_128, wIM_yX10_office, wSel_yX10_office, wI_X10, wC_yX10_office, by decide +kernel, by decide +kernel, by decide +kernel⟩
theorem lk_L_132 : LkV RL 132 yX11_office cX11_office 4 (some .boolean) 3 := ⟨wM_L_132, wIM_yX11_office, wSel_yX11_office, wI_X11, wC_yX11_office, by decide +kernel, by decide +kernel, by decide +kernel⟩
theorem lk_L_133 : LkV RL 133 yX10_year cX10_year 4 (some .int) 3 := ⟨wM_L_133, wIM_yX10_year, wSel_yX10_year, wI_X10, wC_yX10_year, by decide +kernel, by decide +kernel, by decide +kernel⟩
theorem lk_L_136 : LkV RL 136 yX11_year cX11_year 5 (some .int) 3 := ⟨wM_L_136, wIM_yX11_year, wSel_yX11_year, wI_X11, wC_yX11_year, by decide +kernel, by decide +kernel, by decide +kernel⟩
theorem lk_L_137 : LkV RL 137 yX10_stock cX10_stock 3 (some .long) 2 := ⟨wM_L_137, wIM_yX10_stock, wSel_yX10_stock, wI_X10, wC_yX10_stock, by decide +kernel, by decide +kernel, by decide +kernel⟩
theorem lk_L_141 : LkV RL 141 yX11_stock cX11_stock 3 (some .long) 2 := ⟨wM_L_141, wIM_yX11_stock, wSel_yX11_stock, wI_X11, wC_yX11_stock, by decide +kernel, by decide +kernel, by decide +kernel⟩
theorem lk_L_142 : LkV RL 142 yX10_fails cX10_fails 2 (some .int) 1 := ⟨wM_L_142, wIM_yX10_fails, wSel_yX10_fails, wI_X10, wC_yX10_fails, by decide +kernel, by decide +kernel, by decide +kernel⟩
theorem lk_L_145 : LkV RL 145 yX11_fails_ cX11_fails_ 3 (some .int) 1 := ⟨wM_L_145, wIM_yX11_fails_, wSel_yX11_fails_, wI_X11, wC_yX11_fails_, by decide +kernel, by decide +kernel, by decide +kernel⟩
theorem lk_L_146 : LkV RL 146 yX10_agree cX10_agree 5 (some .int) 2 := ⟨wM_L_146, wIM_yX10_agree, wSel_yX10_agree, wI_X10, wC_yX10_agree, by decide +kernel, by decide +kernel, by decide +kernel⟩
theorem lk_L_149 : LkV RL 149 yX11_agree cX11_agree 11 (some .int) 2 := ⟨wM_L_149, wIM_yX11_agree, wSel_yX11_agree, wI_X11, wC_yX11_agree, by decide +kernel, by decide +kernel, by decide +kernel⟩
theorem lk_L_150 : LkV RL 150 yX10_age cX10_age 5 (some .boolean) 4 := ⟨wM_L_150, wIM_yX10_age, wSel_yX10_age, wI_X10, wC_yX10_age, by decide +kernel, by decide +kernel, by decide +kernel⟩
theorem lk_L_154 : LkV RL 154 yX11_age cX11_age 5 (some .boolean) 4 := ⟨wM_L_154, wIM_yX11_age, wSel_yX11_age, wI_X11, wC_yX11_age, by decide +kernel, by decide +kernel, by decide +kernel⟩
theorem lk_L_155 : LkV RL 155 yX10_landed cX10_landed 6 (some .long) 5 := ⟨wM_L_155, wIM_yX10_landed, wSel_yX10_landed, wI_X10, wC_yX10_landed, by decide +kernel, by decide +kernel, by decide +kernel⟩
theorem lk_L_158 : LkV RL 158 yX11_landed cX11_landed 9 (some .long) 5 := ⟨wM_L_158, wIM_yX11_landed, wSel_yX11_landed, wI_X11, wC_yX11_landed, by decide +kernel, by decide +kernel, by decide +kernel⟩
theorem lk_L_159 : LkV RL 159 yX10_pays cX10_pays 6 (some .int) 5 := ⟨wM_L_159, wIM_yX10_pays, wSel_yX10_pays, wI_X10, wC_yX10_pays, by decide +kernel, by decide +kernel, by decide +kernel⟩
theorem lk_L_162 : LkV RL 162 yX11_pays cX11_pays 11 (some .int) 5 := ⟨wM_L_162, wIM_yX11_pays, wSel_yX11_pays, wI_X11, wC_yX11_pays, by decide +kernel, by decide +kernel, by decide +kernel⟩
theorem lk_L_163 : LkV RL 163 yX10_town cX10_town 5 (some .int) 4 := ⟨wM_L_163, wIM_yX10_town, wSel_yX10_town, wI_X10, wC_yX10_town, by decide +kernel, by decide +kernel, by decide +kernel⟩
theorem lk_L_166 : LkV RL 166 yX11_town cX11_town 5 (some .int) 4 := ⟨wM_L_166, wIM_yX11_town, wSel_yX11_town, wI_X11, wC_yX11_town, by decide +kernel, by decide +kernel, by decide +kernel⟩
theorem lk_L_167 : LkV RL 167 yX10_bar cX10_bar 4 (some .int) 3 := ⟨wM_L_167, wIM_yX10_bar, wSel_yX10_bar, wI_X10, wC_yX10_bar, by decide +kernel, by decide +kernel, by decide +kernel⟩
theorem lk_L_170 : LkV RL 170 yX11_bar cX11_bar 4 (some .int) 3 := ⟨wM_L_170, wIM_yX11_bar, wSel_yX11_bar, wI_X11, wC_yX11_bar, by decide +kernel, by decide +kernel, by decide +kernel⟩
theorem lk_L_171 : LkV RL 171 yX10_lost cX10_lost 3 (some .int) 2 := ⟨wM_L_171, wIM_yX10_lost, wSel_yX10_lost, wI_X10, wC_yX10_lost, by decide +kernel, by decide +kernel, by decide +kernel⟩
theorem lk_L_174 : LkV RL 174 yX11_lost cX11_lost 3 (some .int) 2 := ⟨wM_L_174, wIM_yX11_lost, wSel_yX11_lost, wI_X11, wC_yX11_lost, by decide +kernel, by decide +kernel, by decide +kernel⟩
theorem lk_L_175 : LkV RL 175 yX10_yields cX10_yields 2 (some .int) 1 := ⟨wM_L_175, wIM_yX10_yields, wSel_yX10_yields, wI_X10, wC_yX10_yields, by decide +kernel, by decide +kernel, by decide +kernel⟩
theorem lk_L_178 : LkV RL 178 yX11_yields cX11_yields 3 (some .int) 1 := ⟨wM_L_178, wIM_yX11_yields, wSel_yX11_yields, wI_X11, wC_yX11_yields, by decide +kernel, by decide +kernel, by decide +kernel⟩
theorem lk_L_179 : LkV RL 179 yX10_sideYields cX10_sideYields 2 (some .int) 1 := ⟨wM_L_179, wIM_yX10_sideYields, wSel_yX10_sideYields, wI_X10, wC_yX10_sideYields, by decide +kernel, by decide +kernel, by decide +kernel⟩
theorem lk_L_182 : LkV RL 182 yX11_sideYields cX11_sideYields 6 (some .int) 1 := ⟨wM_L_182, wIM_yX11_sideYields, wSel_yX11_sideYields, wI_X11, wC_yX11_sideYields, by decide +kernel, by decide +kernel, by decide +kernel⟩
theorem lk_L_183 : LkV RL 183 yX10_term cX10_term 3 (some .int) 2 := ⟨wM_L_183, wIM_yX10_term, wSel_yX10_term, wI_X10, wC_yX10_term, by decide +kernel, by decide +kernel, by decide +kernel⟩
theorem lk_L_186 : LkV RL 186 yX11_term cX11_term 3 (some .int) 2 := ⟨wM_L_186, wIM_yX11_term, wSel_yX11_term, wI_X11, wC_yX11_term, by decide +kernel, by decide +kernel, by decide +kernel⟩
theorem lk_L_187 : LkV RL 187 yX10_sign cX10_sign 3 (some .int) 2 := ⟨wM_L_187, wIM_yX10_sign, wSel_yX10_sign, wI_X10, wC_yX10_sign, by decide +kernel, by decide +kernel, by decide +kernel⟩
theorem lk_L_190 : LkV RL 190 yX11_sign cX11_sign 11 (some .int) 2 := ⟨wM_L_190, wIM_yX11_sign, wSel_yX11_sign, wI_X11, wC_yX11_sign, by decide +kernel, by decide +kernel, by decide +kernel⟩
theorem lk_L_191 : LkV RL 191 yX10_box cX10_box 4 (some .int) 3 := ⟨wM_L_191, wIM_yX10_box, wSel_yX10_box, wI_X10, wC_yX10_box, by decide +kernel, by decide +kernel, by decide +kernel⟩
theorem lk_L_194 : LkV RL 194 yX11_box cX11_box 4 (some .int) 3 := ⟨wM_L_194, wIM_yX11_box, wSel_yX11_box, wI_X11, wC_yX11_box, by decide +kernel, by decide +kernel, by decide +kernel⟩
theorem lk_L_195 : LkV RL 195 yX10_escort cX10_escort 3 (some .int) 2 := ⟨wM_L_195, wIM_yX10_escort, wSel_yX10_escort, wI_X10, wC_yX10_escort, by decide +kernel, by decide +kernel, by decide +kernel⟩
theorem lk_L_198 : LkV RL 198 yX11_escort cX11_escort 7 (some .int) 2 := ⟨wM_L_198, wIM_yX11_escort, wSel_yX11_escort, wI_X11, wC_yX11_escort, by decide +kernel, by decide +kernel, by decide +kernel⟩
theorem lk_L_199 : LkV RL 199 yX10_escorts cX10_escorts 2 (some .int) 1 := ⟨wM_L_199, wIM_yX10_escorts, wSel_yX10_escorts, wI_X10, wC_yX10_escorts, by decide +kernel, by decide +kernel, by decide +kernel⟩
theorem lk_L_202 : LkV RL 202 yX11_escorts cX11_escorts 2 (some .int) 1 := ⟨wM_L_202, wIM_yX11_escorts, wSel_yX11_escorts, wI_X11, wC_yX11_escorts, by decide +kernel, by decide +kernel, by decide +kernel⟩
theorem lk_L_203 : LkV RL 203 yX10_count cX10_count 2 (some .int) 1 := ⟨wM_L_203, wIM_yX10_count, wSel_yX10_count, wI_X10, wC_yX10_count, by decide +kernel, by decide +kernel, by decide +kernel⟩
theorem lk_L_206 : LkV RL 206 yX11_count cX11_count 2 (some .int) 1 := ⟨wM_L_206, wIM_yX11_count, wSel_yX11_count, wI_X11, wC_yX11_count, by decide +kernel, by decide +kernel, by decide +kernel⟩
theorem lk_X0_43 : LkS RX0 43 yJ9_max_7cf53 cJ9_max_7cf53 2 (some .int) 2 := ⟨wM_X0_43, wS_yJ9_max_7cf53, wI_J9, wC_yJ9_max_7cf53, by decide +kernel, by decide +kernel, by decide +kernel⟩
theorem lk_X0_49 : LkV RX0 49 yX0_cutOf cX0_cutOf 4 (some .int) 3 := ⟨wM_X0_49, wIM_yX0_cutOf, wSel_yX0_cutOf, wI_X0, wC_yX0_cutOf, by decide +kernel, by decide +kernel, by decide +kernel⟩
theorem lk_X0_55 : LkV RX0 55 yX0_caughtOf cX0_caughtOf 3 (some .int) 2 := ⟨wM_X0_55, wIM_yX0_caughtOf, wSel_yX0_caughtOf, wI_X0, wC_yX0_caughtOf, by decide +kernel, by decide +kernel, by decide +kernel⟩
theorem lk_X0_58 : LkS RX0 58 yX0_placeOf cX0_placeOf 3 (some .int) 3 := ⟨wM_X0_58, wS_yX0_placeOf, wI_X0, wC_yX0_placeOf, by decide +kernel, by decide +kernel, by decide +kernel⟩
theorem lk_X0_63 : LkS RX0 63 yJ7_fill_d0a16 cJ7_fill_d0a16 5 none 2 := ⟨wM_X0_63, wS_yJ7_fill_d0a16, wI_J7, wC_yJ7_fill_d0a16, by decide +kernel, by decide +kernel, by decide +kernel⟩
theorem lk_X0_69 : LkV RX0 69 yX0_weighFrom cX0_weighFrom 6 none 3 := ⟨wM_X0_69, wIM_yX0_weighFrom, wSel_yX0_weighFrom, wI_X0, wC_yX0_weighFrom, by decide +kernel, by decide +kernel, by decide +kernel⟩
theorem lk_X0_73 : LkV RX0 73 yX0_takeFirst cX0_takeFirst 7 (some .int) 2 := ⟨wM_X0_73, wIM_yX0_takeFirst, wSel_yX0_takeFirst, wI_X0, wC_yX0_takeFirst, by decide +kernel, by decide +kernel, by decide +kernel⟩
theorem lk_X0_76 : LkV RX0 76 yX0_weigh cX0_weigh 10 (some .long) 3 := ⟨wM_X0_76, wIM_yX0_weigh, wSel_yX0_weigh, wI_X0, wC_yX0_weigh, by decide +kernel, by decide +kernel, by decide +kernel⟩
theorem lk_X0_80 : LkV RX0 80 yX0_leastFrom cX0_leastFrom 5 (some .long) 3 := ⟨wM_X0_80, wIM_yX0_leastFrom, wSel_yX0_leastFrom, wI_X0, wC_yX0_leastFrom, by decide +kernel, by decide +kernel, by decide +kernel⟩
theorem lk_X0_83 : LkV RX0 83 yX0_weightOf cX0_weightOf 4 (some .long) 3 := ⟨wM_X0_83, wIM_yX0_weightOf, wSel_yX0_weightOf, wI_X0, wC_yX0_weightOf, by decide +kernel, by decide +kernel, by decide +kernel⟩
theorem lk_X0_86 : LkS RX0 86 yJ9_min_f86c9 cJ9_min_f86c9 4 (some .long) 2 := ⟨wM_X0_86, wS_yJ9_min_f86c9, wI_J9, wC_yJ9_min_f86c9, by decide +kernel, by decide +kernel, by decide +kernel⟩
theorem lk_X0_93 : LkV RX0 93 yX0_takeIn cX0_takeIn 10 none 3 := ⟨wM_X0_93, wIM_yX0_takeIn, wSel_yX0_takeIn, wI_X0, wC_yX0_takeIn, by decide +kernel, by decide +kernel, by decide +kernel⟩
theorem lk_X1_31 : LkS RX1 31 yJ9_min_7cf53 cJ9_min_7cf53 2 (some .int) 2 := ⟨wM_X1_31, wS_yJ9_min_7cf53, wI_J9, wC_yJ9_min_7cf53, by decide +kernel, by decide +kernel, by decide +kernel⟩
theorem lk_X1_55 : LkS RX1 55 yJ7_fill_53178 cJ7_fill_53178 4 none 2 := ⟨wM_X1_55, wS_yJ7_fill_53178, wI_J7, wC_yJ7_fill_53178, by decide +kernel, by decide +kernel, by decide +kernel⟩
theorem lk_X1_61 : LkV RX1 61 yX1_layCell cX1_layCell 5 none 3 := ⟨wM_X1_61, wIM_yX1_layCell, wSel_yX1_layCell, wI_X1, wC_yX1_layCell, by decide +kernel, by decide +kernel, by decide +kernel⟩
theorem lk_X1_69 : LkV RX1 69 yX1_beginRows cX1_beginRows 3 none 0 := ⟨wM_X1_69, wIM_yX1_beginRows, wSel_yX1_beginRows, wI_X1, wC_yX1_beginRows, by decide +kernel, by decide +kernel, by decide +kernel⟩
theorem lk_X1_72 : LkV RX1 72 yX1_moveTrawler cX1_moveTrawler 5 none 0 := ⟨wM_X1_72, wIM_yX1_moveTrawler, wSel_yX1_moveTrawler, wI_X1, wC_yX1_moveTrawler, by decide +kernel, by decide +kernel, by decide +kernel⟩
theorem lk_X1_75 : LkV RX1 75 yX1_moveFrigate cX1_moveFrigate 6 none 0 := ⟨wM_X1_75, wIM_yX1_moveFrigate, wSel_yX1_moveFrigate, wI_X1, wC_yX1_moveFrigate, by decide +kernel, by decide +kernel, by decide +kernel⟩
theorem lk_X1_78 : LkV RX1 78 yX1_moveWarder cX1_moveWarder 6 none 0 := ⟨wM_X1_78, wIM_yX1_moveWarder, wSel_yX1_moveWarder, wI_X1, wC_yX1_moveWarder, by decide +kernel, by decide +kernel, by decide +kernel⟩
theorem lk_X1_81 : LkS RX1 81 yX1_has cX1_has 5 (some .boolean) 4 := ⟨wM_X1_81, wS_yX1_has, wI_X1, wC_yX1_has, by decide +kernel, by decide +kernel, by decide +kernel⟩
theorem lk_X1_85 : LkV RX1 85 yX1_leastMove cX1_leastMove 7 (some .int) 3 := ⟨wM_X1_85, wIM_yX1_leastMove, wSel_yX1_leastMove, wI_X1, wC_yX1_leastMove, by decide +kernel, by decide +kernel, by decide +kernel⟩
theorem lk_X10_99 : LkS RX10 99 yX10_lies cX10_lies 3 (some .boolean) 3 := ⟨wM_X10_99, wS_yX10_lies, wI_X10, wC_yX10_lies, by decide +kernel, by decide +kernel, by decide +kernel⟩
theorem lk_X10_103 : LkS RX10 103 yX6_isCell cX6_isCell 2 (some .boolean) 2 := ⟨wM_X10_103, wS_yX6_isCell, wI_X6, wC_yX6_isCell, by decide +kernel, by decide +kernel, by decide +kernel⟩
theorem lk_X10_107 : LkV RX10 107 yX6_changeDepth cX6_changeDepth 5 (some .int) 3 := ⟨wM_X10_107, wIM_yX6_changeDepth, wSel_yX6_changeDepth, wI_X6, wC_yX6_changeDepth, by decide +kernel, by decide +kernel, by decide +kernel⟩
theorem lk_X10_111 : LkS RX10 111 yX10_isSide cX10_isSide 1 (some .boolean) 1 := ⟨wM_X10_111, wS_yX10_isSide, wI_X10, wC_yX10_isSide, by decide +kernel, by decide +kernel, by decide +kernel⟩
theorem lk_X10_115 : LkV RX10 115 yX7_add cX7_add 5 (some .int) 4 := ⟨wM_X10_115, wIM_yX7_add, wSel_yX7_add, wI_X7, wC_yX7_add, by decide +kernel, by decide +kernel, by decide +kernel⟩
theorem lk_X10_119 : LkV RX10 119 yX7_has cX7_has 2 (some .boolean) 1 := ⟨wM_X10_119, wIM_yX7_has, wSel_yX7_has, wI_X7, wC_yX7_has, by decide +kernel, by decide +kernel, by decide +kernel⟩
theorem lk_X10_122 : LkV RX10 122 yX5_add cX5_add 7 (some .int) 6 := ⟨wM_X10_122, wIM_yX5_add, wSel_yX5_add, wI_X5, wC_yX5_add, by decide +kernel, by decide +kernel, by decide +kernel⟩
theorem lk_X10_125 : LkS RX10 125 yX10_isMinute cX10_isMinute 1 (some .boolean) 1 := ⟨wM_X10_125, wS_yX10_isMinute, wI_X10, wC_yX10_isMinute, by decide +kernel, by decide +kernel, by decide +kernel⟩
theorem lk_X10_128 : LkV RX10 128 yX5_cellOf cX5_cellOf 6 (some .int) 3 := ⟨wM_X10_128, wIM_yX5_cellOf, wSel_yX5_cellOf, wI_X5, wC_yX5_cellOf, by decide +kernel, by decide +kernel, by decide +kernel⟩
theorem lk_X10_134 : LkV RX10 134 yX5_findChain cX5_findChain 6 (some .int) 3 := ⟨wM_X10_134, wIM_yX5_findChain, wSel_yX5_findChain, wI_X5, wC_yX5_findChain, by decide +kernel, by decide +kernel, by decide +kernel⟩
theorem lk_X10_137 : LkV RX10 137 yX5_inChain cX5_inChain 2 (some .int) 1 := ⟨wM_X10_137, wIM_yX5_inChain, wSel_yX5_inChain, wI_X5, wC_yX5_inChain, by decide +kernel, by decide +kernel, by decide +kernel⟩
theorem lk_X10_141 : LkV RX10 141 yX6_addPoint cX6_addPoint 5 (some .int) 3 := ⟨wM_X10_141, wIM_yX6_addPoint, wSel_yX6_addPoint, wI_X6, wC_yX6_addPoint, by decide +kernel, by decide +kernel, by decide +kernel⟩
theorem lk_X10_150 : LkV RX10 150 yX10_reachOf cX10_reachOf 6 (some .int) 2 := ⟨wM_X10_150, wIM_yX10_reachOf, wSel_yX10_reachOf, wI_X10, wC_yX10_reachOf, by decide +kernel, by decide +kernel, by decide +kernel⟩
theorem lk_X10_154 : LkS RX10 154 yJ7_fill_d0a16 cJ7_fill_d0a16 5 none 2 := ⟨wM_X10_154, wS_yJ7_fill_d0a16, wI_J7, wC_yJ7_fill_d0a16, by decide +kernel, by decide +kernel, by decide +kernel⟩
theorem lk_X10_160 : LkV RX10 160 yX2_findClause cX2_findClause 8 (some .int) 4 := ⟨wM_X10_160, wIM_yX2_findClause, wSel_yX2_findClause, wI_X2, wC_yX2_findClause, by decide +kernel, by decide +kernel, by decide +kernel⟩
theorem lk_X10_164 : LkV RX10 164 yX2_sumOf cX2_sumOf 5 (some .long) 2 := ⟨wM_X10_164, wIM_yX2_sumOf, wSel_yX2_sumOf, wI_X2, wC_yX2_sumOf, by decide +kernel, by decide +kernel, by decide +kernel⟩
theorem lk_X10_170 : LkS RX10 170 yJ9_min_f86c9 cJ9_min_f86c9 4 (some .long) 2 := ⟨wM_X10_170, wS_yJ9_min_f86c9, wI_J9, wC_yJ9_min_f86c9, by decide +kernel, by decide +kernel, by decide +kernel⟩
theorem lk_X10_176 : LkS RX10 176 yJ9_max_f86c9 cJ9_max_f86c9 4 (some .long) 2 := ⟨wM_X10_176, wS_yJ9_max_f86c9, wI_J9, wC_yJ9_max_f86c9, by decide +kernel, by decide +kernel, by decide +kernel⟩
theorem lk_X10_179 : LkV RX10 179 yX6_isNear cX6_isNear 10 (some .boolean) 5 := ⟨wM_X10_179, wIM_yX6_isNear, wSel_yX6_isNear, wI_X6, wC_yX6_isNear, by decide +kernel, by decide +kernel, by decide +kernel⟩
theorem lk_X10_191 : LkS RX10 191 yX6_xOf cX6_xOf 1 (some .int) 1 := ⟨wM_X10_191, wS_yX6_xOf, wI_X6, wC_yX6_xOf, by decide +kernel, by decide +kernel, by decide +kernel⟩
theorem lk_X10_194 : LkS RX10 194 yX6_yOf cX6_yOf 1 (some .int) 1 := ⟨wM_X10_194, wS_yX6_yOf, wI_X6, wC_yX6_yOf, by decide +kernel, by decide +kernel, by decide +kernel⟩
theorem lk_X10_208 : LkV RX10 208 yX4_hasRoomFor cX4_hasRoomFor 2 (some .boolean) 1 := ⟨wM_X10_208, wIM_yX4_hasRoomFor, wSel_yX4_hasRoomFor, wI_X4, wC_yX4_hasRoomFor, by decide +kernel, by decide +kernel, by decide +kernel⟩
theorem lk_X10_211 : LkV RX10 211 yX4_take cX4_take 3 none 1 := ⟨wM_X10_211, wIM_yX4_take, wSel_yX4_take, wI_X4, wC_yX4_take, by decide +kernel, by decide +kernel, by decide +kernel⟩
theorem lk_X10_218 : LkS RX10 218 yX10_isAuthor cX10_isAuthor 1 (some .boolean) 1 := ⟨wM_X10_218, wS_yX10_isAuthor, wI_X10, wC_yX10_isAuthor, by decide +kernel, by decide +kernel, by decide +kernel⟩
theorem lk_X10_221 : LkV RX10 221 yX2_isFull cX2_isFull 1 (some .boolean) 0 := ⟨wM_X10_221, wIM_yX2_isFull, wSel_yX2_isFull, wI_X2, wC_yX2_isFull, by decide +kernel, by decide +kernel, by decide +kernel⟩
theorem lk_X10_225 : LkV RX10 225 yX4_read cX4_read 3 (some .int) 1 := ⟨wM_X10_225, wIM_yX4_read, wSel_yX4_read, wI_X4, wC_yX4_read, by decide +kernel, by decide +kernel, by decide +kernel⟩
theorem lk_X10_228 : LkV RX10 228 yX2_enact cX2_enact 3 (some .int) 2 := ⟨wM_X10_228, wIM_yX2_enact, wSel_yX2_enact, wI_X2, wC_yX2_enact, by decide +kernel, by decide +kernel, by decide +kernel⟩
theorem lk_X10_231 : LkV RX10 231 yX2_has cX2_has 2 (some .boolean) 1 := ⟨wM_X10_231, wIM_yX2_has, wSel_yX2_has, wI_X2, wC_yX2_has, by decide +kernel, by decide +kernel, by decide +kernel⟩
theorem lk_X10_232 : LkV RX10 232 yX2_stands cX2_stands 3 (some .boolean) 2 := ⟨wM_X10_232, wIM_yX2_stands, wSel_yX2_stands, wI_X2, wC_yX2_stands, by decide +kernel, by decide +kernel, by decide +kernel⟩
theorem lk_X10_235 : LkV RX10 235 yX6_depthAt cX6_depthAt 3 (some .int) 2 := ⟨wM_X10_235, wIM_yX6_depthAt, wSel_yX6_depthAt, wI_X6, wC_yX6_depthAt, by decide +kernel, by decide +kernel, by decide +kernel⟩
theorem lk_X10_244 : LkV RX10 244 yX10_askOf cX10_askOf 5 none 4 := ⟨wM_X10_244, wIM_yX10_askOf, wSel_yX10_askOf, wI_X10, wC_yX10_askOf, by decide +kernel, by decide +kernel, by decide +kernel⟩
theorem lk_X10_248 : LkV RX10 248 yX10_canAsk cX10_canAsk 6 (some .boolean) 5 := ⟨wM_X10_248, wIM_yX10_canAsk, wSel_yX10_canAsk, wI_X10, wC_yX10_canAsk, by decide +kernel, by decide +kernel, by decide +kernel⟩
theorem lk_X10_251 : LkV RX10 251 yX10_findMay cX10_findMay 8 (some .int) 6 := ⟨wM_X10_251, wIM_yX10_findMay, wSel_yX10_findMay, wI_X10, wC_yX10_findMay, by decide +kernel, by decide +kernel, by decide +kernel⟩
theorem lk_X10_254 : LkV RX10 254 yX2_allows cX2_allows 5 (some .boolean) 2 := ⟨wM_X10_254, wIM_yX2_allows, wSel_yX2_allows, wI_X2, wC_yX2_allows, by decide +kernel, by decide +kernel, by decide +kernel⟩
theorem lk_X10_257 : LkV RX10 257 yX10_meshFor cX10_meshFor 6 (some .long) 5 := ⟨wM_X10_257, wIM_yX10_meshFor, wSel_yX10_meshFor, wI_X10, wC_yX10_meshFor, by decide +kernel, by decide +kernel, by decide +kernel⟩
theorem lk_X10_261 : LkV RX10 261 yX10_isKept cX10_isKept 9 (some .boolean) 2 := ⟨wM_X10_261, wIM_yX10_isKept, wSel_yX10_isKept, wI_X10, wC_yX10_isKept, by decide +kernel, by decide +kernel, by decide +kernel⟩
theorem lk_X10_264 : LkV RX10 264 yX1_lay cX1_lay 6 none 3 := ⟨wM_X10_264, wIM_yX1_lay, wSel_yX1_lay, wI_X1, wC_yX1_lay, by decide +kernel, by decide +kernel, by decide +kernel⟩
theorem lk_X10_268 : LkV RX10 268 yX1_play cX1_play 7 (some .int) 4 := ⟨wM_X10_268, wIM_yX1_play, wSel_yX1_play, wI_X1, wC_yX1_play, by decide +kernel, by decide +kernel, by decide +kernel⟩
theorem lk_X10_274 : LkS RX10 274 yX10_overtakes cX10_overtakes 10 (some .boolean) 4 := ⟨wM_X10_274, wS_yX10_overtakes, wI_X10, wC_yX10_overtakes, by decide +kernel, by decide +kernel, by decide +kernel⟩
theorem lk_X10_278 : LkS RX10 278 yX10_isToTheRight cX10_isToTheRight 7 (some .boolean) 3 := ⟨wM_X10_278, wS_yX10_isToTheRight, wI_X10, wC_yX10_isToTheRight, by decide +kernel, by decide +kernel, by decide +kernel⟩
theorem lk_X10_288 : LkS RX10 288 yX8_isYear cX8_isYear 1 (some .boolean) 1 := ⟨wM_X10_288, wS_yX8_isYear, wI_X8, wC_yX8_isYear, by decide +kernel, by decide +kernel, by decide +kernel⟩
theorem lk_X10_292 : LkV RX10 292 yX8_changeYear cX8_changeYear 5 (some .int) 3 := ⟨wM_X10_292, wIM_yX8_changeYear, wSel_yX8_changeYear, wI_X8, wC_yX8_changeYear, by decide +kernel, by decide +kernel, by decide +kernel⟩
theorem lk_X10_295 : LkV RX10 295 yX8_stockWith cX8_stockWith 7 (some .long) 3 := ⟨wM_X10_295, wIM_yX8_stockWith, wSel_yX8_stockWith, wI_X8, wC_yX8_stockWith, by decide +kernel, by decide +kernel, by decide +kernel⟩
theorem lk_X10_299 : LkV RX10 299 yX8_failsIn cX8_failsIn 5 (some .int) 1 := ⟨wM_X10_299, wIM_yX8_failsIn, wSel_yX8_failsIn, wI_X8, wC_yX8_failsIn, by decide +kernel, by decide +kernel, by decide +kernel⟩
theorem lk_X10_302 : LkV RX10 302 yX8_nearestLoss cX8_nearestLoss 10 (some .int) 3 := ⟨wM_X10_302, wIM_yX8_nearestLoss, wSel_yX8_nearestLoss, wI_X8, wC_yX8_nearestLoss, by decide +kernel, by decide +kernel, by decide +kernel⟩
theorem lk_X10_316 : LkS RX10 316 yX10_canFish cX10_canFish 4 (some .boolean) 4 := ⟨wM_X10_316, wS_yX10_canFish, wI_X10, wC_yX10_canFish, by decide +kernel, by decide +kernel, by decide +kernel⟩
theorem lk_X10_319 : LkV RX10 319 yX8_landedBy cX8_landedBy 9 (some .long) 5 := ⟨wM_X10_319, wIM_yX8_landedBy, wSel_yX8_landedBy, wI_X8, wC_yX8_landedBy, by decide +kernel, by decide +kernel, by decide +kernel⟩
theorem lk_X10_322 : LkV RX10 322 yX8_paysFrom cX8_paysFrom 9 (some .int) 5 := ⟨wM_X10_322, wIM_yX8_paysFrom, wSel_yX8_paysFrom, wI_X8, wC_yX8_paysFrom, by decide +kernel, by decide +kernel, by decide +kernel⟩
theorem lk_X10_327 : LkV RX10 327 yX9_add cX9_add 5 (some .int) 4 := ⟨wM_X10_327, wIM_yX9_add, wSel_yX9_add, wI_X9, wC_yX9_add, by decide +kernel, by decide +kernel, by decide +kernel⟩
theorem lk_X10_328 : LkV RX10 328 yX9_has cX9_has 2 (some .boolean) 1 := ⟨wM_X10_328, wIM_yX9_has, wSel_yX9_has, wI_X9, wC_yX9_has, by decide +kernel, by decide +kernel, by decide +kernel⟩
theorem lk_X10_329 : LkS RX10 329 yX9_isWeek cX9_isWeek 1 (some .boolean) 1 := ⟨wM_X10_329, wS_yX9_isWeek, wI_X9, wC_yX9_isWeek, by decide +kernel, by decide +kernel, by decide +kernel⟩
theorem lk_X10_332 : LkV RX10 332 yX9_addBar cX9_addBar 5 (some .int) 3 := ⟨wM_X10_332, wIM_yX9_addBar, wSel_yX9_addBar, wI_X9, wC_yX9_addBar, by decide +kernel, by decide +kernel, by decide +kernel⟩
theorem lk_X10_335 : LkV RX10 335 yX9_lostBy cX9_lostBy 5 (some .int) 2 := ⟨wM_X10_335, wIM_yX9_lostBy, wSel_yX9_lostBy, wI_X9, wC_yX9_lostBy, by decide +kernel, by decide +kernel, by decide +kernel⟩
theorem lk_X10_338 : LkV RX10 338 yX9_weekOf cX9_weekOf 4 (some .int) 1 := ⟨wM_X10_338, wIM_yX9_weekOf, wSel_yX9_weekOf, wI_X9, wC_yX9_weekOf, by decide +kernel, by decide +kernel, by decide +kernel⟩
theorem lk_X10_341 : LkV RX10 341 yX9_weekOfSide cX9_weekOfSide 5 (some .int) 1 := ⟨wM_X10_341, wIM_yX9_weekOfSide, wSel_yX9_weekOfSide, wI_X9, wC_yX9_weekOfSide, by decide +kernel, by decide +kernel, by decide +kernel⟩
theorem lk_X10_344 : LkV RX10 344 yX3_add cX3_add 3 (some .int) 2 := ⟨wM_X10_344, wIM_yX3_add, wSel_yX3_add, wI_X3, wC_yX3_add, by decide +kernel, by decide +kernel, by decide +kernel⟩
theorem lk_X10_347 : LkV RX10 347 yX3_bestSet cX3_bestSet 9 (some .int) 2 := ⟨wM_X10_347, wIM_yX3_bestSet, wSel_yX3_bestSet, wI_X3, wC_yX3_bestSet, by decide +kernel, by decide +kernel, by decide +kernel⟩
theorem lk_X10_350 : LkV RX10 350 yX0_add cX0_add 4 (some .int) 3 := ⟨wM_X10_350, wIM_yX0_add, wSel_yX0_add, wI_X0, wC_yX0_add, by decide +kernel, by decide +kernel, by decide +kernel⟩
theorem lk_X10_353 : LkV RX10 353 yX0_give cX0_give 4 (some .int) 2 := ⟨wM_X10_353, wIM_yX0_give, wSel_yX0_give, wI_X0, wC_yX0_give, by decide +kernel, by decide +kernel, by decide +kernel⟩
theorem lk_X10_356 : LkV RX10 356 yX0_given cX0_given 2 (some .int) 1 := ⟨wM_X10_356, wIM_yX0_given, wSel_yX0_given, wI_X0, wC_yX0_given, by decide +kernel, by decide +kernel, by decide +kernel⟩
theorem lk_X11_233 : LkS RX11 233 yX11_in cX11_in 6 (some .boolean) 3 := ⟨wM_X11_233, wS_yX11_in, wI_X11, wC_yX11_in, by decide +kernel, by decide +kernel, by decide +kernel⟩
theorem lk_X11_242 : LkS RX11 242 yX11_isCell cX11_isCell 2 (some .boolean) 2 := ⟨wM_X11_242, wS_yX11_isCell, wI_X11, wC_yX11_isCell, by decide +kernel, by decide +kernel, by decide +kernel⟩
theorem lk_X11_251 : LkS RX11 251 yX11_isSide cX11_isSide 1 (some .boolean) 1 := ⟨wM_X11_251, wS_yX11_isSide, wI_X11, wC_yX11_isSide, by decide +kernel, by decide +kernel, by decide +kernel⟩
theorem lk_X11_264 : LkV RX11 264 yX11_isShip cX11_isShip 2 (some .boolean) 1 := ⟨wM_X11_264, wIM_yX11_isShip, wSel_yX11_isShip, wI_X11, wC_yX11_isShip, by decide +kernel, by decide +kernel, by decide +kernel⟩
theorem lk_X11_267 : LkS RX11 267 yX11_isMinute cX11_isMinute 1 (some .boolean) 1 := ⟨wM_X11_267, wS_yX11_isMinute, wI_X11, wC_yX11_isMinute, by decide +kernel, by decide +kernel, by decide +kernel⟩
theorem lk_X11_270 : LkV RX11 270 yX11_whereIs cX11_whereIs 6 (some .int) 3 := ⟨wM_X11_270, wIM_yX11_whereIs, wSel_yX11_whereIs, wI_X11, wC_yX11_whereIs, by decide +kernel, by decide +kernel, by decide +kernel⟩
theorem lk_X11_274 : LkS RX11 274 yX11_without cX11_without 1 (some .int) 1 := ⟨wM_X11_274, wS_yX11_without, wI_X11, wC_yX11_without, by decide +kernel, by decide +kernel, by decide +kernel⟩
theorem lk_X11_278 : LkV RX11 278 yX11_canBoth cX11_canBoth 6 (some .boolean) 3 := ⟨wM_X11_278, wIM_yX11_canBoth, wSel_yX11_canBoth, wI_X11, wC_yX11_canBoth, by decide +kernel, by decide +kernel, by decide +kernel⟩
theorem lk_X11_293 : LkV RX11 293 yX11_asks cX11_asks 6 none 5 := ⟨wM_X11_293, wIM_yX11_asks, wSel_yX11_asks, wI_X11, wC_yX11_asks, by decide +kernel, by decide +kernel, by decide +kernel⟩
theorem lk_X11_297 : LkV RX11 297 yX11_telling cX11_telling 8 (some .int) 3 := ⟨wM_X11_297, wIM_yX11_telling, wSel_yX11_telling, wI_X11, wC_yX11_telling, by decide +kernel, by decide +kernel, by decide +kernel⟩
theorem lk_X11_300 : LkV RX11 300 yX11_works cX11_works 11 (some .long) 3 := ⟨wM_X11_300, wIM_yX11_works, wSel_yX11_works, wI_X11, wC_yX11_works, by decide +kernel, by decide +kernel, by decide +kernel⟩
theorem lk_X11_306 : LkV RX11 306 yX11_reachOf cX11_reachOf 6 (some .int) 2 := ⟨wM_X11_306, wIM_yX11_reachOf, wSel_yX11_reachOf, wI_X11, wC_yX11_reachOf, by decide +kernel, by decide +kernel, by decide +kernel⟩
theorem lk_X11_310 : LkV RX11 310 yX11_isNear cX11_isNear 9 (some .boolean) 5 := ⟨wM_X11_310, wIM_yX11_isNear, wSel_yX11_isNear, wI_X11, wC_yX11_isNear, by decide +kernel, by decide +kernel, by decide +kernel⟩
theorem lk_X11_319 : LkV RX11 319 yX11_four cX11_four 3 none 1 := ⟨wM_X11_319, wIM_yX11_four, wSel_yX11_four, wI_X11, wC_yX11_four, by decide +kernel, by decide +kernel, by decide +kernel⟩
theorem lk_X11_329 : LkV RX11 329 yX11_see cX11_see 1 (some .int) 0 := ⟨wM_X11_329, wIM_yX11_see, wSel_yX11_see, wI_X11, wC_yX11_see, by decide +kernel, by decide +kernel, by decide +kernel⟩
theorem lk_X11_333 : LkV RX11 333 yX11_isDigit cX11_isDigit 1 (some .boolean) 0 := ⟨wM_X11_333, wIM_yX11_isDigit, wSel_yX11_isDigit, wI_X11, wC_yX11_isDigit, by decide +kernel, by decide +kernel, by decide +kernel⟩
theorem lk_X11_337 : LkV RX11 337 yX11_fails cX11_fails 3 (some .boolean) 2 := ⟨wM_X11_337, wIM_yX11_fails, wSel_yX11_fails, wI_X11, wC_yX11_fails, by decide +kernel, by decide +kernel, by decide +kernel⟩
theorem lk_X11_343 : LkV RX11 343 yX11_isWord cX11_isWord 6 (some .boolean) 1 := ⟨wM_X11_343, wIM_yX11_isWord, wSel_yX11_isWord, wI_X11, wC_yX11_isWord, by decide +kernel, by decide +kernel, by decide +kernel⟩
theorem lk_X11_347 : LkV RX11 347 yX11_skips cX11_skips 1 none 0 := ⟨wM_X11_347, wIM_yX11_skips, wSel_yX11_skips, wI_X11, wC_yX11_skips, by decide +kernel, by decide +kernel, by decide +kernel⟩
theorem lk_X11_359 : LkV RX11 359 yX11_lays cX11_lays 3 none 2 := ⟨wM_X11_359, wIM_yX11_lays, wSel_yX11_lays, wI_X11, wC_yX11_lays, by decide +kernel, by decide +kernel, by decide +kernel⟩
theorem lk_X11_369 : LkV RX11 369 yX11_number cX11_number 3 (some .boolean) 0 := ⟨wM_X11_369, wIM_yX11_number, wSel_yX11_number, wI_X11, wC_yX11_number, by decide +kernel, by decide +kernel, by decide +kernel⟩
theorem lk_X11_372 : LkV RX11 372 yX11_makes cX11_makes 2 (some .boolean) 1 := ⟨wM_X11_372, wIM_yX11_makes, wSel_yX11_makes, wI_X11, wC_yX11_makes, by decide +kernel, by decide +kernel, by decide +kernel⟩
theorem lk_X11_375 : LkV RX11 375 yX11_opens cX11_opens 2 (some .boolean) 1 := ⟨wM_X11_375, wIM_yX11_opens, wSel_yX11_opens, wI_X11, wC_yX11_opens, by decide +kernel, by decide +kernel, by decide +kernel⟩
theorem lk_X11_378 : LkV RX11 378 yX11_waits cX11_waits 2 none 1 := ⟨wM_X11_378, wIM_yX11_waits, wSel_yX11_waits, wI_X11, wC_yX11_waits, by decide +kernel, by decide +kernel, by decide +kernel⟩
theorem lk_X11_380 : LkV RX11 380 yX11_isTop cX11_isTop 3 (some .boolean) 2 := ⟨wM_X11_380, wIM_yX11_isTop, wSel_yX11_isTop, wI_X11, wC_yX11_isTop, by decide +kernel, by decide +kernel, by decide +kernel⟩
theorem lk_X11_383 : LkV RX11 383 yX11_pops cX11_pops 1 none 0 := ⟨wM_X11_383, wIM_yX11_pops, wSel_yX11_pops, wI_X11, wC_yX11_pops, by decide +kernel, by decide +kernel, by decide +kernel⟩
theorem lk_X11_386 : LkV RX11 386 yX11_begins cX11_begins 4 (some .int) 0 := ⟨wM_X11_386, wIM_yX11_begins, wSel_yX11_begins, wI_X11, wC_yX11_begins, by decide +kernel, by decide +kernel, by decide +kernel⟩
theorem lk_X11_389 : LkV RX11 389 yX11_has cX11_has 4 (some .boolean) 2 := ⟨wM_X11_389, wIM_yX11_has, wSel_yX11_has, wI_X11, wC_yX11_has, by decide +kernel, by decide +kernel, by decide +kernel⟩
theorem lk_X11_392 : LkV RX11 392 yX11_endsSum cX11_endsSum 2 none 1 := ⟨wM_X11_392, wIM_yX11_endsSum, wSel_yX11_endsSum, wI_X11, wC_yX11_endsSum, by decide +kernel, by decide +kernel, by decide +kernel⟩
theorem lk_X11_395 : LkV RX11 395 yX11_sum cX11_sum 4 (some .boolean) 0 := ⟨wM_X11_395, wIM_yX11_sum, wSel_yX11_sum, wI_X11, wC_yX11_sum, by decide +kernel, by decide +kernel, by decide +kernel⟩
theorem lk_X11_400 : LkV RX11 400 yX11_fact cX11_fact 5 (some .boolean) 0 := ⟨wM_X11_400, wIM_yX11_fact, wSel_yX11_fact, wI_X11, wC_yX11_fact, by decide +kernel, by decide +kernel, by decide +kernel⟩
theorem lk_X11_403 : LkV RX11 403 yX11_endedFact cX11_endedFact 2 none 1 := ⟨wM_X11_403, wIM_yX11_endedFact, wSel_yX11_endedFact, wI_X11, wC_yX11_endedFact, by decide +kernel, by decide +kernel, by decide +kernel⟩
theorem lk_X11_410 : LkV RX11 410 yX11_takesWord cX11_takesWord 3 (some .boolean) 1 := ⟨wM_X11_410, wIM_yX11_takesWord, wSel_yX11_takesWord, wI_X11, wC_yX11_takesWord, by decide +kernel, by decide +kernel, by decide +kernel⟩
theorem lk_X11_423 : LkV RX11 423 yX11_whatFollows cX11_whatFollows 3 (some .boolean) 1 := ⟨wM_X11_423, wIM_yX11_whatFollows, wSel_yX11_whatFollows, wI_X11, wC_yX11_whatFollows, by decide +kernel, by decide +kernel, by decide +kernel⟩
theorem lk_X11_430 : LkV RX11 430 yX11_test cX11_test 5 (some .boolean) 0 := ⟨wM_X11_430, wIM_yX11_test, wSel_yX11_test, wI_X11, wC_yX11_test, by decide +kernel, by decide +kernel, by decide +kernel⟩
theorem lk_X11_433 : LkV RX11 433 yX11_clause cX11_clause 9 (some .boolean) 1 := ⟨wM_X11_433, wIM_yX11_clause, wSel_yX11_clause, wI_X11, wC_yX11_clause, by decide +kernel, by decide +kernel, by decide +kernel⟩
theorem lk_X11_436 : LkV RX11 436 yX11_text cX11_text 3 (some .boolean) 1 := ⟨wM_X11_436, wIM_yX11_text, wSel_yX11_text, wI_X11, wC_yX11_text, by decide +kernel, by decide +kernel, by decide +kernel⟩
theorem lk_X11_454 : LkV RX11 454 yX11_wordNow cX11_wordNow 2 (some .long) 1 := ⟨wM_X11_454, wIM_yX11_wordNow, wSel_yX11_wordNow, wI_X11, wC_yX11_wordNow, by decide +kernel, by decide +kernel, by decide +kernel⟩
theorem lk_X11_458 : LkS RX11 458 yX11_holds cX11_holds 5 (some .boolean) 3 := ⟨wM_X11_458, wS_yX11_holds, wI_X11, wC_yX11_holds, by decide +kernel, by decide +kernel, by decide +kernel⟩
theorem lk_X11_462 : LkV RX11 462 yX11_isInForce cX11_isInForce 5 (some .boolean) 2 := ⟨wM_X11_462, wIM_yX11_isInForce, wSel_yX11_isInForce, wI_X11, wC_yX11_isInForce, by decide +kernel, by decide +kernel, by decide +kernel⟩
theorem lk_X11_465 : LkV RX11 465 yX11_clauseOf cX11_clauseOf 4 (some .int) 2 := ⟨wM_X11_465, wIM_yX11_clauseOf, wSel_yX11_clauseOf, wI_X11, wC_yX11_clauseOf, by decide +kernel, by decide +kernel, by decide +kernel⟩
theorem lk_X11_468 : LkV RX11 468 yX11_mayBy cX11_mayBy 9 (some .int) 6 := ⟨wM_X11_468, wIM_yX11_mayBy, wSel_yX11_mayBy, wI_X11, wC_yX11_mayBy, by decide +kernel, by decide +kernel, by decide +kernel⟩
theorem lk_X11_474 : LkS RX11 474 yX11_isWhat cX11_isWhat 2 (some .boolean) 2 := ⟨wM_X11_474, wS_yX11_isWhat, wI_X11, wC_yX11_isWhat, by decide +kernel, by decide +kernel, by decide +kernel⟩
theorem lk_X11_477 : LkV RX11 477 yX11_mayDo cX11_mayDo 8 (some .boolean) 6 := ⟨wM_X11_477, wIM_yX11_mayDo, wSel_yX11_mayDo, wI_X11, wC_yX11_mayDo, by decide +kernel, by decide +kernel, by decide +kernel⟩
theorem lk_X11_481 : LkV RX11 481 yX11_meshOf cX11_meshOf 7 (some .long) 5 := ⟨wM_X11_481, wIM_yX11_meshOf, wSel_yX11_meshOf, wI_X11, wC_yX11_meshOf, by decide +kernel, by decide +kernel, by decide +kernel⟩
theorem lk_X11_488 : LkV RX11 488 yX11_isKept cX11_isKept 3 (some .boolean) 2 := ⟨wM_X11_488, wIM_yX11_isKept, wSel_yX11_isKept, wI_X11, wC_yX11_isKept, by decide +kernel, by decide +kernel, by decide +kernel⟩
theorem lk_X11_497 : LkV RX11 497 yX11_stepTo cX11_stepTo 5 (some .int) 2 := ⟨wM_X11_497, wIM_yX11_stepTo, wSel_yX11_stepTo, wI_X11, wC_yX11_stepTo, by decide +kernel, by decide +kernel, by decide +kernel⟩
theorem lk_X11_500 : LkS RX11 500 yX11_state cX11_state 3 (some .int) 3 := ⟨wM_X11_500, wS_yX11_state, wI_X11, wC_yX11_state, by decide +kernel, by decide +kernel, by decide +kernel⟩
theorem lk_X11_503 : LkV RX11 503 yX11_isLost cX11_isLost 6 (some .boolean) 3 := ⟨wM_X11_503, wIM_yX11_isLost, wSel_yX11_isLost, wI_X11, wC_yX11_isLost, by decide +kernel, by decide +kernel, by decide +kernel⟩
theorem lk_X11_506 : LkV RX11 506 yX11_isHooked cX11_isHooked 6 (some .boolean) 3 := ⟨wM_X11_506, wIM_yX11_isHooked, wSel_yX11_isHooked, wI_X11, wC_yX11_isHooked, by decide +kernel, by decide +kernel, by decide +kernel⟩
theorem lk_X11_509 : LkV RX11 509 yX11_firstHook cX11_firstHook 7 (some .int) 3 := ⟨wM_X11_509, wIM_yX11_firstHook, wSel_yX11_firstHook, wI_X11, wC_yX11_firstHook, by decide +kernel, by decide +kernel, by decide +kernel⟩
theorem lk_X11_516 : LkV RX11 516 yX11_levels cX11_levels 5 none 0 := ⟨wM_X11_516, wIM_yX11_levels, wSel_yX11_levels, wI_X11, wC_yX11_levels, by decide +kernel, by decide +kernel, by decide +kernel⟩
theorem lk_X11_519 : LkV RX11 519 yX11_xOf cX11_xOf 2 (some .int) 1 := ⟨wM_X11_519, wIM_yX11_xOf, wSel_yX11_xOf, wI_X11, wC_yX11_xOf, by decide +kernel, by decide +kernel, by decide +kernel⟩
theorem lk_X11_522 : LkV RX11 522 yX11_yOf cX11_yOf 2 (some .int) 1 := ⟨wM_X11_522, wIM_yX11_yOf, wSel_yX11_yOf, wI_X11, wC_yX11_yOf, by decide +kernel, by decide +kernel, by decide +kernel⟩
theorem lk_X11_525 : LkV RX11 525 yX11_goes cX11_goes 3 (some .boolean) 2 := ⟨wM_X11_525, wIM_yX11_goes, wSel_yX11_goes, wI_X11, wC_yX11_goes, by decide +kernel, by decide +kernel, by decide +kernel⟩
theorem lk_X11_528 : LkV RX11 528 yX11_overtakes cX11_overtakes 9 (some .boolean) 4 := ⟨wM_X11_528, wIM_yX11_overtakes, wSel_yX11_overtakes, wI_X11, wC_yX11_overtakes, by decide +kernel, by decide +kernel, by decide +kernel⟩
theorem lk_X11_532 : LkV RX11 532 yX11_isRight cX11_isRight 6 (some .boolean) 3 := ⟨wM_X11_532, wIM_yX11_isRight, wSel_yX11_isRight, wI_X11, wC_yX11_isRight, by decide +kernel, by decide +kernel, by decide +kernel⟩
theorem lk_X11_535 : LkV RX11 535 yX11_hasTo cX11_hasTo 5 (some .boolean) 4 := ⟨wM_X11_535, wIM_yX11_hasTo, wSel_yX11_hasTo, wI_X11, wC_yX11_hasTo, by decide +kernel, by decide +kernel, by decide +kernel⟩
theorem lk_X11_546 : LkS RX11 546 yX11_isYear cX11_isYear 1 (some .boolean) 1 := ⟨wM_X11_546, wS_yX11_isYear, wI_X11, wC_yX11_isYear, by decide +kernel, by decide +kernel, by decide +kernel⟩
theorem lk_X11_549 : LkV RX11 549 yX11_stockOf cX11_stockOf 9 (some .long) 3 := ⟨wM_X11_549, wIM_yX11_stockOf, wSel_yX11_stockOf, wI_X11, wC_yX11_stockOf, by decide +kernel, by decide +kernel, by decide +kernel⟩
theorem lk_X11_558 : LkS RX11 558 yX11_isFishing cX11_isFishing 4 (some .boolean) 4 := ⟨wM_X11_558, wS_yX11_isFishing, wI_X11, wC_yX11_isFishing, by decide +kernel, by decide +kernel, by decide +kernel⟩
theorem lk_X11_561 : LkV RX11 561 yX11_asToday cX11_asToday 3 none 1 := ⟨wM_X11_561, wIM_yX11_asToday, wSel_yX11_asToday, wI_X11, wC_yX11_asToday, by decide +kernel, by decide +kernel, by decide +kernel⟩
theorem lk_X11_564 : LkV RX11 564 yX11_fishes cX11_fishes 15 (some .long) 5 := ⟨wM_X11_564, wIM_yX11_fishes, wSel_yX11_fishes, wI_X11, wC_yX11_fishes, by decide +kernel, by decide +kernel, by decide +kernel⟩
theorem lk_X11_577 : LkV RX11 577 yX11_isTown cX11_isTown 2 (some .boolean) 1 := ⟨wM_X11_577, wIM_yX11_isTown, wSel_yX11_isTown, wI_X11, wC_yX11_isTown, by decide +kernel, by decide +kernel, by decide +kernel⟩
theorem lk_X11_580 : LkS RX11 580 yX11_isWeek cX11_isWeek 1 (some .boolean) 1 := ⟨wM_X11_580, wS_yX11_isWeek, wI_X11, wC_yX11_isWeek, by decide +kernel, by decide +kernel, by decide +kernel⟩
theorem lk_X11_583 : LkV RX11 583 yX11_lostBy cX11_lostBy 7 (some .int) 2 := ⟨wM_X11_583, wIM_yX11_lostBy, wSel_yX11_lostBy, wI_X11, wC_yX11_lostBy, by decide +kernel, by decide +kernel, by decide +kernel⟩
theorem lk_X11_586 : LkV RX11 586 yX11_gaveWay cX11_gaveWay 4 (some .boolean) 2 := ⟨wM_X11_586, wIM_yX11_gaveWay, wSel_yX11_gaveWay, wI_X11, wC_yX11_gaveWay, by decide +kernel, by decide +kernel, by decide +kernel⟩
theorem lk_X11_603 : LkV RX11 603 yX11_cut cX11_cut 5 (some .int) 3 := ⟨wM_X11_603, wIM_yX11_cut, wSel_yX11_cut, wI_X11, wC_yX11_cut, by decide +kernel, by decide +kernel, by decide +kernel⟩
theorem lk_X11_606 : LkV RX11 606 yX11_caughtIn cX11_caughtIn 3 (some .int) 2 := ⟨wM_X11_606, wIM_yX11_caughtIn, wSel_yX11_caughtIn, wI_X11, wC_yX11_caughtIn, by decide +kernel, by decide +kernel, by decide +kernel⟩
theorem lk_X11_611 : LkS RX11 611 yX11_place cX11_place 3 (some .int) 3 := ⟨wM_X11_611, wS_yX11_place, wI_X11, wC_yX11_place, by decide +kernel, by decide +kernel, by decide +kernel⟩
theorem lk_X11_614 : LkV RX11 614 yX11_worth cX11_worth 4 (some .long) 3 := ⟨wM_X11_614, wIM_yX11_worth, wSel_yX11_worth, wI_X11, wC_yX11_worth, by decide +kernel, by decide +kernel, by decide +kernel⟩
theorem lk_X11_621 : LkV RX11 621 yX11_bestFrom cX11_bestFrom 10 (some .long) 3 := ⟨wM_X11_621, wIM_yX11_bestFrom, wSel_yX11_bestFrom, wI_X11, wC_yX11_bestFrom, by decide +kernel, by decide +kernel, by decide +kernel⟩
theorem lk_X11_627 : LkV RX11 627 yX11_gives cX11_gives 8 none 3 := ⟨wM_X11_627, wIM_yX11_gives, wSel_yX11_gives, wI_X11, wC_yX11_gives, by decide +kernel, by decide +kernel, by decide +kernel⟩
theorem lk_X2_56 : LkV RX2 56 yX2_has cX2_has 2 (some .boolean) 1 := ⟨wM_X2_56, wIM_yX2_has, wSel_yX2_has, wI_X2, wC_yX2_has, by decide +kernel, by decide +kernel, by decide +kernel⟩
theorem lk_X2_66 : LkS RX2 66 yJ9_max_7cf53 cJ9_max_7cf53 2 (some .int) 2 := ⟨wM_X2_66, wS_yJ9_max_7cf53, wI_J9, wC_yJ9_max_7cf53, by decide +kernel, by decide +kernel, by decide +kernel⟩
theorem lk_X2_72 : LkS RX2 72 yJ7_copyOf_59c91 cJ7_copyOf_59c91 3 (some (.array .int)) 2 := ⟨wM_X2_72, wS_yJ7_copyOf_59c91, wI_J7, wC_yJ7_copyOf_59c91, by decide +kernel, by decide +kernel, by decide +kernel⟩
theorem lk_X2_78 : LkV RX2 78 yX2_clausesRead cX2_clausesRead 1 (some .int) 0 := ⟨wM_X2_78, wIM_yX2_clausesRead, wSel_yX2_clausesRead, wI_X2, wC_yX2_clausesRead, by decide +kernel, by decide +kernel, by decide +kernel⟩
theorem lk_X2_82 : LkV RX2 82 yX2_clauseBeingRead cX2_clauseBeingRead 1 (some .int) 0 := ⟨wM_X2_82, wIM_yX2_clauseBeingRead, wSel_yX2_clauseBeingRead, wI_X2, wC_yX2_clauseBeingRead, by decide +kernel, by decide +kernel, by decide +kernel⟩
theorem lk_X2_85 : LkV RX2 85 yX2_putInOrder cX2_putInOrder 3 none 1 := ⟨wM_X2_85, wIM_yX2_putInOrder, wSel_yX2_putInOrder, wI_X2, wC_yX2_putInOrder, by decide +kernel, by decide +kernel, by decide +kernel⟩
theorem lk_X2_89 : LkV RX2 89 yX2_strikeOthers cX2_strikeOthers 5 none 1 := ⟨wM_X2_89, wIM_yX2_strikeOthers, wSel_yX2_strikeOthers, wI_X2, wC_yX2_strikeOthers, by decide +kernel, by decide +kernel, by decide +kernel⟩
theorem lk_X2_92 : LkV RX2 92 yX2_minuteAt cX2_minuteAt 3 (some .int) 1 := ⟨wM_X2_92, wIM_yX2_minuteAt, wSel_yX2_minuteAt, wI_X2, wC_yX2_minuteAt, by decide +kernel, by decide +kernel, by decide +kernel⟩
theorem lk_X2_100 : LkS RX2 100 yJ9_min_7cf53 cJ9_min_7cf53 2 (some .int) 2 := ⟨wM_X2_100, wS_yJ9_min_7cf53, wI_J9, wC_yJ9_min_7cf53, by decide +kernel, by decide +kernel, by decide +kernel⟩
theorem lk_X2_103 : LkV RX2 103 yX2_isOf cX2_isOf 3 (some .boolean) 2 := ⟨wM_X2_103, wIM_yX2_isOf, wSel_yX2_isOf, wI_X2, wC_yX2_isOf, by decide +kernel, by decide +kernel, by decide +kernel⟩
theorem lk_X2_107 : LkV RX2 107 yX2_stands cX2_stands 3 (some .boolean) 2 := ⟨wM_X2_107, wIM_yX2_stands, wSel_yX2_stands, wI_X2, wC_yX2_stands, by decide +kernel, by decide +kernel, by decide +kernel⟩
theorem lk_X2_110 : LkV RX2 110 yX2_holds cX2_holds 4 (some .boolean) 2 := ⟨wM_X2_110, wIM_yX2_holds, wSel_yX2_holds, wI_X2, wC_yX2_holds, by decide +kernel, by decide +kernel, by decide +kernel⟩
theorem lk_X2_114 : LkV RX2 114 yX2_valueOf cX2_valueOf 7 (some .long) 3 := ⟨wM_X2_114, wIM_yX2_valueOf, wSel_yX2_valueOf, wI_X2, wC_yX2_valueOf, by decide +kernel, by decide +kernel, by decide +kernel⟩
theorem lk_X2_118 : LkS RX2 118 yX2_wordOf cX2_wordOf 3 (some .long) 2 := ⟨wM_X2_118, wS_yX2_wordOf, wI_X2, wC_yX2_wordOf, by decide +kernel, by decide +kernel, by decide +kernel⟩
theorem lk_X2_122 : LkS RX2 122 yX2_join cX2_join 5 (some .long) 3 := ⟨wM_X2_122, wS_yX2_join, wI_X2, wC_yX2_join, by decide +kernel, by decide +kernel, by decide +kernel⟩
theorem lk_X3_22 : LkV RX3 22 yX3_worthOf cX3_worthOf 5 (some .int) 2 := ⟨wM_X3_22, wIM_yX3_worthOf, wSel_yX3_worthOf, wI_X3, wC_yX3_worthOf, by decide +kernel, by decide +kernel, by decide +kernel⟩
theorem lk_X3_26 : LkS RX3 26 yJ6_bitCount_0f7a4 cJ6_bitCount_0f7a4 1 (some .int) 1 := ⟨wM_X3_26, wS_yJ6_bitCount_0f7a4, wI_J6, wC_yJ6_bitCount_0f7a4, by decide +kernel, by decide +kernel, by decide +kernel⟩
theorem lk_X3_33 : LkS RX3 33 yJ9_abs_0f7a4 cJ9_abs_0f7a4 1 (some .int) 1 := ⟨wM_X3_33, wS_yJ9_abs_0f7a4, wI_J9, wC_yJ9_abs_0f7a4, by decide +kernel, by decide +kernel, by decide +kernel⟩
theorem lk_X4_34 : LkV RX4 34 yX2_beginReading cX2_beginReading 1 none 0 := ⟨wM_X4_34, wIM_yX2_beginReading, wSel_yX2_beginReading, wI_X2, wC_yX2_beginReading, by decide +kernel, by decide +kernel, by decide +kernel⟩
theorem lk_X4_37 : LkV RX4 37 yX4_advance cX4_advance 2 none 0 := ⟨wM_X4_37, wIM_yX4_advance, wSel_yX4_advance, wI_X4, wC_yX4_advance, by decide +kernel, by decide +kernel, by decide +kernel⟩
theorem lk_X4_40 : LkV RX4 40 yX4_readClause cX4_readClause 4 none 1 := ⟨wM_X4_40, wIM_yX4_readClause, wSel_yX4_readClause, wI_X4, wC_yX4_readClause, by decide +kernel, by decide +kernel, by decide +kernel⟩
theorem lk_X4_47 : LkV RX4 47 yX4_fail cX4_fail 2 none 1 := ⟨wM_X4_47, wIM_yX4_fail, wSel_yX4_fail, wI_X4, wC_yX4_fail, by decide +kernel, by decide +kernel, by decide +kernel⟩
theorem lk_X4_55 : LkV RX4 55 yX4_isWord cX4_isWord 3 (some .boolean) 1 := ⟨wM_X4_55, wIM_yX4_isWord, wSel_yX4_isWord, wI_X4, wC_yX4_isWord, by decide +kernel, by decide +kernel, by decide +kernel⟩
theorem lk_X4_67 : LkV RX4 67 yX2_clausesRead cX2_clausesRead 1 (some .int) 0 := ⟨wM_X4_67, wIM_yX2_clausesRead, wSel_yX2_clausesRead, wI_X2, wC_yX2_clausesRead, by decide +kernel, by decide +kernel, by decide +kernel⟩
theorem lk_X4_71 : LkV RX4 71 yX4_readStruck cX4_readStruck 2 none 1 := ⟨wM_X4_71, wIM_yX4_readStruck, wSel_yX4_readStruck, wI_X4, wC_yX4_readStruck, by decide +kernel, by decide +kernel, by decide +kernel⟩
theorem lk_X4_74 : LkV RX4 74 yX4_readWhat cX4_readWhat 3 none 1 := ⟨wM_X4_74, wIM_yX4_readWhat, wSel_yX4_readWhat, wI_X4, wC_yX4_readWhat, by decide +kernel, by decide +kernel, by decide +kernel⟩
theorem lk_X4_77 : LkV RX4 77 yX2_beginClause cX2_beginClause 4 none 2 := ⟨wM_X4_77, wIM_yX2_beginClause, wSel_yX2_beginClause, wI_X2, wC_yX2_beginClause, by decide +kernel, by decide +kernel, by decide +kernel⟩
theorem lk_X4_81 : LkV RX4 81 yX4_readSum cX4_readSum 4 none 1 := ⟨wM_X4_81, wIM_yX4_readSum, wSel_yX4_readSum, wI_X4, wC_yX4_readSum, by decide +kernel, by decide +kernel, by decide +kernel⟩
theorem lk_X4_84 : LkV RX4 84 yX2_beginCond cX2_beginCond 1 none 0 := ⟨wM_X4_84, wIM_yX2_beginCond, wSel_yX2_beginCond, wI_X2, wC_yX2_beginCond, by decide +kernel, by decide +kernel, by decide +kernel⟩
theorem lk_X4_87 : LkV RX4 87 yX4_readCond cX4_readCond 2 none 0 := ⟨wM_X4_87, wIM_yX4_readCond, wSel_yX4_readCond, wI_X4, wC_yX4_readCond, by decide +kernel, by decide +kernel, by decide +kernel⟩
theorem lk_X4_90 : LkV RX4 90 yX2_endClause cX2_endClause 1 none 0 := ⟨wM_X4_90, wIM_yX2_endClause, wSel_yX2_endClause, wI_X2, wC_yX2_endClause, by decide +kernel, by decide +kernel, by decide +kernel⟩
theorem lk_X4_99 : LkV RX4 99 yX2_isOf cX2_isOf 3 (some .boolean) 2 := ⟨wM_X4_99, wIM_yX2_isOf, wSel_yX2_isOf, wI_X2, wC_yX2_isOf, by decide +kernel, by decide +kernel, by decide +kernel⟩
theorem lk_X4_117 : LkV RX4 117 yX2_setCond cX2_setCond 2 none 1 := ⟨wM_X4_117, wIM_yX2_setCond, wSel_yX2_setCond, wI_X2, wC_yX2_setCond, by decide +kernel, by decide +kernel, by decide +kernel⟩
theorem lk_X4_120 : LkV RX4 120 yX4_readTest cX4_readTest 3 none 1 := ⟨wM_X4_120, wIM_yX4_readTest, wSel_yX4_readTest, wI_X4, wC_yX4_readTest, by decide +kernel, by decide +kernel, by decide +kernel⟩
theorem lk_X4_123 : LkV RX4 123 yX4_readPart cX4_readPart 3 none 1 := ⟨wM_X4_123, wIM_yX4_readPart, wSel_yX4_readPart, wI_X4, wC_yX4_readPart, by decide +kernel, by decide +kernel, by decide +kernel⟩
theorem lk_X4_128 : LkV RX4 128 yX2_emit cX2_emit 2 none 1 := ⟨wM_X4_128, wIM_yX2_emit, wSel_yX2_emit, wI_X2, wC_yX2_emit, by decide +kernel, by decide +kernel, by decide +kernel⟩
theorem lk_X4_131 : LkV RX4 131 yX4_readFact cX4_readFact 2 none 1 := ⟨wM_X4_131, wIM_yX4_readFact, wSel_yX4_readFact, wI_X4, wC_yX4_readFact, by decide +kernel, by decide +kernel, by decide +kernel⟩
theorem lk_X4_138 : LkV RX4 138 yX4_goesDeeper cX4_goesDeeper 2 (some .boolean) 1 := ⟨wM_X4_138, wIM_yX4_goesDeeper, wSel_yX4_goesDeeper, wI_X4, wC_yX4_goesDeeper, by decide +kernel, by decide +kernel, by decide +kernel⟩
theorem lk_X4_142 : LkV RX4 142 yX4_readClosing cX4_readClosing 2 none 1 := ⟨wM_X4_142, wIM_yX4_readClosing, wSel_yX4_readClosing, wI_X4, wC_yX4_readClosing, by decide +kernel, by decide +kernel, by decide +kernel⟩
theorem lk_X4_145 : LkV RX4 145 yX4_readComparison cX4_readComparison 3 none 1 := ⟨wM_X4_145, wIM_yX4_readComparison, wSel_yX4_readComparison, wI_X4, wC_yX4_readComparison, by decide +kernel, by decide +kernel, by decide +kernel⟩
theorem lk_X4_148 : LkS RX4 148 yX4_comparisonOf cX4_comparisonOf 1 (some .int) 1 := ⟨wM_X4_148, wS_yX4_comparisonOf, wI_X4, wC_yX4_comparisonOf, by decide +kernel, by decide +kernel, by decide +kernel⟩
theorem lk_X4_152 : LkV RX4 152 yX4_countsOneMore cX4_countsOneMore 1 (some .boolean) 0 := ⟨wM_X4_152, wIM_yX4_countsOneMore, wSel_yX4_countsOneMore, wI_X4, wC_yX4_countsOneMore, by decide +kernel, by decide +kernel, by decide +kernel⟩
theorem lk_X4_156 : LkV RX4 156 yX4_readProduct cX4_readProduct 3 none 1 := ⟨wM_X4_156, wIM_yX4_readProduct, wSel_yX4_readProduct, wI_X4, wC_yX4_readProduct, by decide +kernel, by decide +kernel, by decide +kernel⟩
theorem lk_X4_159 : LkV RX4 159 yX4_readValue cX4_readValue 3 none 1 := ⟨wM_X4_159, wIM_yX4_readValue, wSel_yX4_readValue, wI_X4, wC_yX4_readValue, by decide +kernel, by decide +kernel, by decide +kernel⟩
theorem lk_X4_162 : LkV RX4 162 yX4_wordNumber cX4_wordNumber 1 (some .int) 0 := ⟨wM_X4_162, wIM_yX4_wordNumber, wSel_yX4_wordNumber, wI_X4, wC_yX4_wordNumber, by decide +kernel, by decide +kernel, by decide +kernel⟩
theorem lk_X4_183 : LkV RX4 183 yJ0_length_8abf5 cJ0_length_8abf5 1 (some .int) 0 := ⟨wM_X4_183, wIM_yJ0_length_8abf5, wSel_yJ0_length_8abf5, wI_J0, wC_yJ0_length_8abf5, by decide +kernel, by decide +kernel, by decide +kernel⟩
theorem lk_X4_187 : LkV RX4 187 yX4_byteAt cX4_byteAt 2 (some .int) 1 := ⟨wM_X4_187, wIM_yX4_byteAt, wSel_yX4_byteAt, wI_X4, wC_yX4_byteAt, by decide +kernel, by decide +kernel, by decide +kernel⟩
theorem lk_X4_190 : LkV RX4 190 yJ0_charAt_5068e cJ0_charAt_5068e 2 (some .char) 1 := ⟨wM_X4_190, wIM_yJ0_charAt_5068e, wSel_yJ0_charAt_5068e, wI_J0, wC_yJ0_charAt_5068e, by decide +kernel, by decide +kernel, by decide +kernel⟩
theorem lk_X5_46 : LkV RX5 46 yX5_putInOrder cX5_putInOrder 4 none 2 := ⟨wM_X5_46, wIM_yX5_putInOrder, wSel_yX5_putInOrder, wI_X5, wC_yX5_putInOrder, by decide +kernel, by decide +kernel, by decide +kernel⟩
theorem lk_X5_50 : LkV RX5 50 yX5_minuteAt cX5_minuteAt 3 (some .int) 1 := ⟨wM_X5_50, wIM_yX5_minuteAt, wSel_yX5_minuteAt, wI_X5, wC_yX5_minuteAt, by decide +kernel, by decide +kernel, by decide +kernel⟩
theorem lk_X5_60 : LkV RX5 60 yX5_pick cX5_pick 6 (some .int) 2 := ⟨wM_X5_60, wIM_yX5_pick, wSel_yX5_pick, wI_X5, wC_yX5_pick, by decide +kernel, by decide +kernel, by decide +kernel⟩
theorem lk_X5_64 : LkV RX5 64 yX5_measure cX5_measure 7 (some .int) 2 := ⟨wM_X5_64, wIM_yX5_measure, wSel_yX5_measure, wI_X5, wC_yX5_measure, by decide +kernel, by decide +kernel, by decide +kernel⟩
theorem lk_X5_67 : LkV RX5 67 yX5_follow cX5_follow 5 none 3 := ⟨wM_X5_67, wIM_yX5_follow, wSel_yX5_follow, wI_X5, wC_yX5_follow, by decide +kernel, by decide +kernel, by decide +kernel⟩
theorem lk_X5_74 : LkV RX5 74 yX5_canBothBe cX5_canBothBe 5 (some .boolean) 3 := ⟨wM_X5_74, wIM_yX5_canBothBe, wSel_yX5_canBothBe, wI_X5, wC_yX5_canBothBe, by decide +kernel, by decide +kernel, by decide +kernel⟩
theorem lk_X5_77 : LkS RX5 77 yJ9_max_7cf53 cJ9_max_7cf53 2 (some .int) 2 := ⟨wM_X5_77, wS_yJ9_max_7cf53, wI_J9, wC_yJ9_max_7cf53, by decide +kernel, by decide +kernel, by decide +kernel⟩
theorem lk_X5_82 : LkS RX5 82 yJ9_abs_0f7a4 cJ9_abs_0f7a4 1 (some .int) 1 := ⟨wM_X5_82, wS_yJ9_abs_0f7a4, wI_J9, wC_yJ9_abs_0f7a4, by decide +kernel, by decide +kernel, by decide +kernel⟩
theorem lk_X6_28 : LkS RX6 28 yX6_isCell cX6_isCell 2 (some .boolean) 2 := ⟨wM_X6_28, wS_yX6_isCell, wI_X6, wC_yX6_isCell, by decide +kernel, by decide +kernel, by decide +kernel⟩
theorem lk_X8_41 : LkS RX8 41 yX8_isYear cX8_isYear 1 (some .boolean) 1 := ⟨wM_X8_41, wS_yX8_isYear, wI_X8, wC_yX8_isYear, by decide +kernel, by decide +kernel, by decide +kernel⟩
theorem lk_X8_45 : LkV RX8 45 yX8_toldOf cX8_toldOf 3 (some .int) 2 := ⟨wM_X8_45, wIM_yX8_toldOf, wSel_yX8_toldOf, wI_X8, wC_yX8_toldOf, by decide +kernel, by decide +kernel, by decide +kernel⟩
theorem lk_X8_49 : LkS RX8 49 yJ9_max_f86c9 cJ9_max_f86c9 4 (some .long) 2 := ⟨wM_X8_49, wS_yJ9_max_f86c9, wI_J9, wC_yJ9_max_f86c9, by decide +kernel, by decide +kernel, by decide +kernel⟩
theorem lk_X8_59 : LkV RX8 59 yX8_nextStock cX8_nextStock 8 (some .long) 4 := ⟨wM_X8_59, wIM_yX8_nextStock, wSel_yX8_nextStock, wI_X8, wC_yX8_nextStock, by decide +kernel, by decide +kernel, by decide +kernel⟩
theorem lk_X8_63 : LkV RX8 63 yX8_leastLoss cX8_leastLoss 9 (some .int) 3 := ⟨wM_X8_63, wIM_yX8_leastLoss, wSel_yX8_leastLoss, wI_X8, wC_yX8_leastLoss, by decide +kernel, by decide +kernel, by decide +kernel⟩
theorem lk_X8_67 : LkV RX8 67 yX8_stockWith cX8_stockWith 7 (some .long) 3 := ⟨wM_X8_67, wIM_yX8_stockWith, wSel_yX8_stockWith, wI_X8, wC_yX8_stockWith, by decide +kernel, by decide +kernel, by decide +kernel⟩
theorem lk_X8_71 : LkS RX8 71 yJ9_min_7cf53 cJ9_min_7cf53 2 (some .int) 2 := ⟨wM_X8_71, wS_yJ9_min_7cf53, wI_J9, wC_yJ9_min_7cf53, by decide +kernel, by decide +kernel, by decide +kernel⟩
theorem lk_X8_74 : LkV RX8 74 yX8_beginFish cX8_beginFish 3 none 1 := ⟨wM_X8_74, wIM_yX8_beginFish, wSel_yX8_beginFish, wI_X8, wC_yX8_beginFish, by decide +kernel, by decide +kernel, by decide +kernel⟩
theorem lk_X8_78 : LkV RX8 78 yX8_landedInYear cX8_landedInYear 15 (some .long) 5 := ⟨wM_X8_78, wIM_yX8_landedInYear, wSel_yX8_landedInYear, wI_X8, wC_yX8_landedInYear, by decide +kernel, by decide +kernel, by decide +kernel⟩
theorem lk_X9_39 : LkV RX9 39 yX9_has cX9_has 2 (some .boolean) 1 := ⟨wM_X9_39, wIM_yX9_has, wSel_yX9_has, wI_X9, wC_yX9_has, by decide +kernel, by decide +kernel, by decide +kernel⟩
theorem lk_X9_43 : LkS RX9 43 yX9_isWeek cX9_isWeek 1 (some .boolean) 1 := ⟨wM_X9_43, wS_yX9_isWeek, wI_X9, wC_yX9_isWeek, by decide +kernel, by decide +kernel, by decide +kernel⟩
theorem lk_X9_46 : LkV RX9 46 yX9_weekOf cX9_weekOf 4 (some .int) 1 := ⟨wM_X9_46, wIM_yX9_weekOf, wSel_yX9_weekOf, wI_X9, wC_yX9_weekOf, by decide +kernel, by decide +kernel, by decide +kernel⟩
theorem lk_X9_50 : LkV RX9 50 yX9_isEnough cX9_isEnough 7 (some .boolean) 2 := ⟨wM_X9_50, wIM_yX9_isEnough, wSel_yX9_isEnough, wI_X9, wC_yX9_isEnough, by decide +kernel, by decide +kernel, by decide +kernel⟩
theorem lkn_X10_isSide : LkN yX10_isSide cX10_isSide 1 (some .boolean) 1 := ⟨wS_yX10_isSide, wI_X10, wC_yX10_isSide, by decide +kernel, by decide +kernel, by decide +kernel⟩
theorem lkn_X10_lies : LkN yX10_lies cX10_lies 3 (some .boolean) 3 := ⟨wS_yX10_lies, wI_X10, wC_yX10_lies, by decide +kernel, by decide +kernel, by decide +kernel⟩
def nestW : List Cond := [.methodLinkNest RX0 39 yX10_lies RX10, .methodLinkNest RX1 65 yX10_lies RX10, .methodLinkNest RX2 96 yX10_lies RX10, .methodLinkNest RX4 194 yX10_lies RX10, .methodLinkNest RX5 54 yX10_lies RX10, .methodLinkNest RX6 24 yX10_lies RX10, .methodLinkNest RX6 32 yX10_isSide RX10, .methodLinkNest RX8 37 yX10_lies RX10, .methodLinkNest RX9 28 yX10_lies RX10]
theorem nw_X0_39 : Cond.methodLinkNest RX0 39 yX10_lies RX10 ∈ nestW := List.mem_of_getElem? (i := 0) rfl
theorem nw_X1_65 : Cond.methodLinkNest RX1 65 yX10_lies RX10 ∈ nestW := List.mem_of_getElem? (i := 1) rfl
theorem nw_X2_96 : Cond.methodLinkNest RX2 96 yX10_lies RX10 ∈ nestW := List.mem_of_getElem? (i := 2) rfl
theorem nw_X4_194 : Cond.methodLinkNest RX4 194 yX10_lies RX10 ∈ nestW := List.mem_of_getElem? (i := 3) rfl
theorem nw_X5_54 : Cond.methodLinkNest RX5 54 yX10_lies RX10 ∈ nestW := List.mem_of_getElem? (i := 4) rfl
theorem nw_X6_24 : Cond.methodLinkNest RX6 24 yX10_lies RX10 ∈ nestW := List.mem_of_getElem? (i := 5) rfl
theorem nw_X6_32 : Cond.methodLinkNest RX6 32 yX10_isSide RX10 ∈ nestW := List.mem_of_getElem? (i := 6) rfl
theorem nw_X8_37 : Cond.methodLinkNest RX8 37 yX10_lies RX10 ∈ nestW := List.mem_of_getElem? (i := 7) rfl
theorem nw_X9_28 : Cond.methodLinkNest RX9 28 yX10_lies RX10 ∈ nestW := List.mem_of_getElem? (i := 8) rfl
theorem nestW_tbl : ∀ w ∈ nestW, w ∈ lw_tbl := by
  intro w hw
  unfold nestW at hw
  simp only [List.mem_cons, List.not_mem_nil, or_false] at hw
  rcases hw with rfl | rfl | rfl | rfl | rfl | rfl | rfl | rfl | rfl
  · exact wMN_X0_39
  · exact wMN_X1_65
  · exact wMN_X2_96
  · exact wMN_X4_194
  · exact wMN_X5_54
  · exact wMN_X6_24
  · exact wMN_X6_32
  · exact wMN_X8_37
  · exact wMN_X9_28
theorem nestW_warm {s U : State} (hW : s.WarmedH U.vm) (h : ∀ w ∈ nestW, va_Nw w s) : ∀ w ∈ nestW, va_Nw w U := by
  intro w hw
  have h1 := h w hw
  unfold nestW at hw
  simp only [List.mem_cons, List.not_mem_nil, or_false] at hw
  rcases hw with rfl | rfl | rfl | rfl | rfl | rfl | rfl | rfl | rfl
  · exact va_Nw.warmM hW h1
  · exact va_Nw.warmM hW h1
  · exact va_Nw.warmM hW h1
  · exact va_Nw.warmM hW h1
  · exact va_Nw.warmM hW h1
  · exact va_Nw.warmM hW h1
  · exact va_Nw.warmM hW h1
  · exact va_Nw.warmM hW h1
  · exact va_Nw.warmM hW h1
theorem nestW_same {s U : State} (hv : s.vm = U.vm) (h : ∀ w ∈ nestW, va_Nw w s) : ∀ w ∈ nestW, va_Nw w U := by
  intro w hw
  have h1 := h w hw
  unfold nestW at hw
  simp only [List.mem_cons, List.not_mem_nil, or_false] at hw
  rcases hw with rfl | rfl | rfl | rfl | rfl | rfl | rfl | rfl | rfl
  · exact va_Nw.same rfl hv h1
  · exact va_Nw.same rfl hv h1
  · exact va_Nw.same rfl hv h1
  · exact va_Nw.same rfl hv h1
  · exact va_Nw.same rfl hv h1
  · exact va_Nw.same rfl hv h1
  · exact va_Nw.same rfl hv h1
  · exact va_Nw.same rfl hv h1
  · exact va_Nw.same rfl hv h1
/-! what the class's methods have beside their cells: links to nest mates, its String constants, two statics of the JDK -/
def ushr (x y : Int32) : Int32 := (x.toUInt32 >>> (y.toUInt32 &&& Int32.toUInt32 31)).toInt32
def lshl_ (x : Int64) (y : Int32) : Int64 := x <<< (y.toInt64 &&& 63)
def lshr_ (x : Int64) (y : Int32) : Int64 := x >>> (y.toInt64 &&& 63)
def FU : Nat := 70000
def f_J9_max_7cf53 (x y : Int32) : Int32 := if x < y then y else x
def f_J9_min_7cf53 (x y : Int32) : Int32 := if y < x then y else x
def f_J9_abs_0f7a4 (x : Int32) : Int32 := if 0 ≤ x then x else 0 - x
def f_J9_max_f86c9 (x y : Int64) : Int64 := if y < x then x else y
def f_J9_min_f86c9 (x y : Int64) : Int64 := if y < x then y else x
section MATH
variable {E : ExT} {p : Program} {l : Launch} {e : Env} {R : Room} {s : State} {m : MethodId} {args : Array Value} {below : List Frame} {meth : Method} {c : Code} {H : Heap} {locs : List Loc} {cells slots : Nat} {Q : State → Prop}
variable {cc : ByteArray} {nL idx : Nat} {own : String} {pc : Nat} {ls : Array Slot} {rest : List Value} {D : va_G} {kc : Nat → ClassId} {A : Nat → Prop} {lv : List (Nat × Value)}
theorem g_max_7cf53 (C : Cx E p s m args c cc nL own D kc A) (hl : lv_has ls nL lv) (hw : Cond.methodLink own idx yJ9_max_7cf53 ∈ bw) (hR : 1 ≤ R.frames ∧ 21 ≤ R.locals ∧ cells ≤ R.cells ∧ slots ≤ R.slots) (hW : (rest.map fun v => v.category).sum ≤ 8) {x y : Int32} (hd : decode cc pc = .ok (.invokestatic idx, 3)) (kk : W p l e R s m args below meth c H locs cells slots Q (F0 m (pc + 3) ls (.int (f_J9_max_7cf53 x y) :: rest))) : W p l e R s m args below meth c H locs cells slots Q (F0 m pc ls (.int y :: .int x :: rest)) :=
  va_mmax C.1.1 C.1.2.1 (C.1.2.2.1.trans hl.1.symm) C.1.2.2.2.1 (C.1.2.2.2.2 _ hw) (C.1.2.2.2.2 _ wS_yJ9_max_7cf53) (C.1.2.2.2.2 _ wI_J9) (C.1.2.2.2.2 _ wC_yJ9_max_7cf53) hR.1 (by omega) hR.2.2.1 hR.2.2.2 hd kk
theorem g_min_7cf53 (C : Cx E p s m args c cc nL own D kc A) (hl : lv_has ls nL lv) (hw : Cond.methodLink own idx yJ9_min_7cf53 ∈ bw) (hR : 1 ≤ R.frames ∧ 21 ≤ R.locals ∧ cells ≤ R.cells ∧ slots ≤ R.slots) (hW : (rest.map fun v => v.category).sum ≤ 8) {x y : Int32} (hd : decode cc pc = .ok (.invokestatic idx, 3)) (kk : W p l e R s m args below meth c H locs cells slots Q (F0 m (pc + 3) ls (.int (f_J9_min_7cf53 x y) :: rest))) : W p l e R s m args below meth c H locs cells slots Q (F0 m pc ls (.int y :: .int x :: rest)) :=
  va_mmin C.1.1 C.1.2.1 (C.1.2.2.1.trans hl.1.symm) C.1.2.2.2.1 (C.1.2.2.2.2 _ hw) (C.1.2.2.2.2 _ wS_yJ9_min_7cf53) (C.1.2.2.2.2 _ wI_J9) (C.1.2.2.2.2 _ wC_yJ9_min_7cf53) hR.1 (by omega) hR.2.2.1 hR.2.2.2 hd kk
theorem g_abs_0f7a4 (C : Cx E p s m args c cc nL own D kc A) (hl : lv_has ls nL lv) (hw : Cond.methodLink own idx yJ9_abs_0f7a4 ∈ bw) (hR : 1 ≤ R.frames ∧ 21 ≤ R.locals ∧ cells ≤ R.cells ∧ slots ≤ R.slots) (hW : (rest.map fun v => v.category).sum ≤ 8) {x : Int32} (hd : decode cc pc = .ok (.invokestatic idx, 3)) (kk : W p l e R s m args below meth c H locs cells slots Q (F0 m (pc + 3) ls (.int (f_J9_abs_0f7a4 x) :: rest))) : W p l e R s m args below meth c H locs cells slots Q (F0 m pc ls (.int x :: rest)) :=
  va_mabs C.1.1 C.1.2.1 (C.1.2.2.1.trans hl.1.symm) C.1.2.2.2.1 (C.1.2.2.2.2 _ hw) (C.1.2.2.2.2 _ wS_yJ9_abs_0f7a4) (C.1.2.2.2.2 _ wI_J9) (C.1.2.2.2.2 _ wC_yJ9_abs_0f7a4) hR.1 (by omega) hR.2.2.1 hR.2.2.2 hd kk
theorem g_max_f86c9 (C : Cx E p s m args c cc nL own D kc A) (hl : lv_has ls nL lv) (hw : Cond.methodLink own idx yJ9_max_f86c9 ∈ bw) (hR : 1 ≤ R.frames ∧ 23 ≤ R.locals ∧ cells ≤ R.cells ∧ slots ≤ R.slots) (hW : (rest.map fun v => v.category).sum ≤ 8) {x y : Int64} (hd : decode cc pc = .ok (.invokestatic idx, 3)) (kk : W p l e R s m args below meth c H locs cells slots Q (F0 m (pc + 3) ls (.long (f_J9_max_f86c9 x y) :: rest))) : W p l e R s m args below meth c H locs cells slots Q (F0 m pc ls (.long y :: .long x :: rest)) :=
  va_mmax_long C.1.1 C.1.2.1 (C.1.2.2.1.trans hl.1.symm) C.1.2.2.2.1 (C.1.2.2.2.2 _ hw) (C.1.2.2.2.2 _ wS_yJ9_max_f86c9) (C.1.2.2.2.2 _ wI_J9) (C.1.2.2.2.2 _ wC_yJ9_max_f86c9) hR.1 (by omega) hR.2.2.1 hR.2.2.2 hd kk
theorem g_min_f86c9 (C : Cx E p s m args c cc nL own D kc A) (hl : lv_has ls nL lv) (hw : Cond.methodLink own idx yJ9_min_f86c9 ∈ bw) (hR : 1 ≤ R.frames ∧ 23 ≤ R.locals ∧ cells ≤ R.cells ∧ slots ≤ R.slots) (hW : (rest.map fun v => v.category).sum ≤ 8) {x y : Int64} (hd : decode cc pc = .ok (.invokestatic idx, 3)) (kk : W p l e R s m args below meth c H locs cells slots Q (F0 m (pc + 3) ls (.long (f_J9_min_f86c9 x y) :: rest))) : W p l e R s m args below meth c H locs cells slots Q (F0 m pc ls (.long y :: .long x :: rest)) :=
  va_mmin_long C.1.1 C.1.2.1 (C.1.2.2.1.trans hl.1.symm) C.1.2.2.2.1 (C.1.2.2.2.2 _ hw) (C.1.2.2.2.2 _ wS_yJ9_min_f86c9) (C.1.2.2.2.2 _ wI_J9) (C.1.2.2.2.2 _ wC_yJ9_min_f86c9) hR.1 (by omega) hR.2.2.1 hR.2.2.2 hd kk
end MATH
theorem i32_of {a b : Int32} {n : Int} (e : a.toInt = n) (h : b.toInt = n) : a = b := Int32.toInt_inj.mp (e.trans h.symm)
def srN : Nat := 24
def srI : List Nat := [53, 59, 61, 63, 65, 103, 105, 107, 109, 111, 113, 115, 126, 134, 136, 165, 167, 169, 171, 173, 175, 177, 179, 181]
def srT : List String := ["reach", "mesh", "strike", "may", "not", "fish", "stop", "cut", "lean", "land", "if", "unless", "or", "and", "no", "minute", "x", "y", "depth", "side", "kind", "net", "speed", "inside"]
def srLen : List Nat := [5, 4, 6, 3, 3, 4, 4, 3, 4, 4, 2, 6, 2, 3, 2, 6, 1, 1, 5, 4, 4, 3, 5, 6]
def srByt : List (List Int32) := [[114, 101, 97, 99, 104], [109, 101, 115, 104], [115, 116, 114, 105, 107, 101], [109, 97, 121], [110, 111, 116], [102, 105, 115, 104], [115, 116, 111, 112], [99, 117, 116], [108, 101, 97, 110], [108, 97, 110, 100], [105, 102], [117, 110, 108, 101, 115, 115], [111, 114], [97, 110, 100], [110, 111], [109, 105, 110, 117, 116, 101], [120], [121], [100, 101, 112, 116, 104], [115, 105, 100, 101], [107, 105, 110, 100], [110, 101, 116], [115, 112, 101, 101, 100], [105, 110, 115, 105, 100, 101]]
def eM : ExT := fun _ _ _ => True
theorem eM_ok : EOK eM := ⟨fun _ _ _ _ _ _ => trivial, fun _ _ _ _ _ _ => trivial, fun _ _ _ _ _ _ => trivial, fun _ _ _ _ _ _ => trivial⟩
def eC (adK adV : Nat → Nat) : ExT := fun A U H => (∀ w ∈ nestW, va_Nw w U) ∧ (∀ i, i < srN → vk_R RX4 (srI.getD i 0) (srT.getD i "") (adK i) U) ∧ vk_S srN srLen srByt adK adV A U H ∧ va_Z "java/lang/String" "COMPACT_STRINGS" "Z" (.int 1) A U H ∧ va_Zq "jdk/internal/util/Preconditions" "SIOOBE_FORMATTER" "Ljava/util/function/BiFunction;" A U H
theorem eC_ok (adK adV : Nat → Nat) : EOK (eC adK adV) := by
  refine ⟨fun A s U H hW h => ?_, fun A s H H1 hq h => ?_, fun A B s H hq h => ?_, fun A s U H hv h => ?_⟩
  · obtain ⟨h1, h2, h3, h4, h5⟩ := h
    exact ⟨nestW_warm hW h1, fun i hi => (h2 i hi).warm hW, h3.moved hW.alike, h4.moved hW.alike, h5.moved hW.alike⟩
  · obtain ⟨h1, h2, h3, h4, h5⟩ := h
    exact ⟨h1, h2, h3.kept hq, h4.kept hq, h5.kept hq⟩
  · obtain ⟨h1, h2, h3, h4, h5⟩ := h
    exact ⟨h1, h2, h3.narrow hq, h4.narrow hq, h5.narrow hq⟩
  · obtain ⟨h1, h2, h3, h4, h5⟩ := h
    have ha : s.vm.Alike U.vm := hv ▸ Vm.Alike.refl s.vm
    exact ⟨nestW_same hv h1, fun i hi => (h2 i hi).same hv.symm, h3.moved ha, h4.moved ha, h5.moved ha⟩
