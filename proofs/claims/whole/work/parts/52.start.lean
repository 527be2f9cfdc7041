/-! what holds as the law begins: classes, arrays' classes, the String constants, two statics -/
theorem st_arr {args : Array Value} {s : State} {ty : FieldType} (hty : ty = .int ∨ ty = .long ∨ ty = .byte ∨ ty = .boolean) (h : (Cond.arrayClass ty).before args s = true) : ∃ cA : ClassId, ArrOfT s cA ty ∧ va_RA s cA ty := by
  obtain ⟨cA, kA, comp, h1, h2, h3⟩ := Cond.arrayClass_spec h
  refine ⟨cA, fun n z => ⟨fun k h => (by cases h), kA, h2, comp, h3⟩, ?_⟩
  rcases hty with rfl | rfl | rfl | rfl <;> exact h1
theorem st_kc {args : Array Value} {s : State} (hB : ∀ w ∈ bw, w.before args s = true) : ∃ kc : Nat → ClassId, ∀ (k : Nat) (q : ClassId × FieldType), (kts kc)[k]? = some q → ArrOfT s q.1 q.2 ∧ va_RA s q.1 q.2 := by
  obtain ⟨c0, h0⟩ := st_arr (Or.inl rfl) (hB _ wA_int)
  obtain ⟨c1, h1⟩ := st_arr (Or.inr (Or.inl rfl)) (hB _ wA_long)
  obtain ⟨c2, h2⟩ := st_arr (Or.inr (Or.inr (Or.inl rfl))) (hB _ wA_byte)
  obtain ⟨c3, h3⟩ := st_arr (Or.inr (Or.inr (Or.inr rfl))) (hB _ wA_boolean)
  refine ⟨fun k => if k = 0 then c0 else if k = 1 then c1 else if k = 2 then c2 else c3, fun k q hq => ?_⟩
  match k, hq with
  | 0, hq => cases hq; exact h0
  | 1, hq => cases hq; exact h1
  | 2, hq => cases hq; exact h2
  | 3, hq => cases hq; exact h3
  | k + 4, hq => simp [kts] at hq
theorem st_cl {args : Array Value} {s : State} (hB : ∀ w ∈ bw, w.before args s = true) : ∃ D : va_G, ∀ (k : Nat) (q : vw_C), vwCl[k]? = some q → u_Kn s q.1 q.2.1 q.2.2 (D.1 k) (D.2 k) := by
  obtain ⟨c0, i0, h0⟩ := u_known (C := RX0) (T := TX0) (N := 9) (n := 9) hB inX0 (hB _ wN_X0)
  obtain ⟨c1, i1, h1⟩ := u_known (C := RX1) (T := TX1) (N := 12) (n := 12) hB inX1 (hB _ wN_X1)
  obtain ⟨c2, i2, h2⟩ := u_known (C := RX2) (T := TX2) (N := 16) (n := 16) hB inX2 (hB _ wN_X2)
  obtain ⟨c3, i3, h3⟩ := u_known (C := RX3) (T := TX3) (N := 3) (n := 3) hB inX3 (hB _ wN_X3)
  obtain ⟨c4, i4, h4⟩ := u_known (C := RX4) (T := TX4) (N := 10) (n := 10) hB inX4 (hB _ wN_X4)
  obtain ⟨c5, i5, h5⟩ := u_known (C := RX5) (T := TX5) (N := 12) (n := 12) hB inX5 (hB _ wN_X5)
  obtain ⟨c6, i6, h6⟩ := u_known (C := RX6) (T := TX6) (N := 6) (n := 6) hB inX6 (hB _ wN_X6)
  obtain ⟨c7, i7, h7⟩ := u_known (C := RX7) (T := TX7) (N := 5) (n := 5) hB inX7 (hB _ wN_X7)
  obtain ⟨c8, i8, h8⟩ := u_known (C := RX8) (T := TX8) (N := 8) (n := 8) hB inX8 (hB _ wN_X8)
  obtain ⟨c9, i9, h9⟩ := u_known (C := RX9) (T := TX9) (N := 7) (n := 7) hB inX9 (hB _ wN_X9)
  obtain ⟨c10, i10, h10⟩ := u_known (C := RX10) (T := TX10) (N := 15) (n := 15) hB inX10 (hB _ wN_X10)
  obtain ⟨c11, i11, h11⟩ := u_known (C := RX11) (T := TX11) (N := 93) (n := 93) hB inX11 (hB _ wN_X11)
  refine ⟨(fun k => if k = 0 then c0 else if k = 1 then c1 else if k = 2 then c2 else if k = 3 then c3 else if k = 4 then c4 else if k = 5 then c5 else if k = 6 then c6 else if k = 7 then c7 else if k = 8 then c8 else if k = 9 then c9 else if k = 10 then c10 else c11, fun k => if k = 0 then i0 else if k = 1 then i1 else if k = 2 then i2 else if k = 3 then i3 else if k = 4 then i4 else if k = 5 then i5 else if k = 6 then i6 else if k = 7 then i7 else if k = 8 then i8 else if k = 9 then i9 else if k = 10 then i10 else i11), ?_⟩
  intro k q hq
  match k, hq with
  | 0, hq => cases hq; exact h0
  | 1, hq => cases hq; exact h1
  | 2, hq => cases hq; exact h2
  | 3, hq => cases hq; exact h3
  | 4, hq => cases hq; exact h4
  | 5, hq => cases hq; exact h5
  | 6, hq => cases hq; exact h6
  | 7, hq => cases hq; exact h7
  | 8, hq => cases hq; exact h8
  | 9, hq => cases hq; exact h9
  | 10, hq => cases hq; exact h10
  | 11, hq => cases hq; exact h11
  | k + 12, hq => simp [vwCl] at hq
def srTm (i : Nat) : Term := .string RX4 (srI.getD i 0)
def gvL : List Cond := flatC (Jvm.Cond.and given_1 narrow_1)
theorem st_1 : ∀ i, i < srN → Cond.exactly (srTm i) "java/lang/String" ∈ gvL := by decide +kernel
theorem st_2 : ∀ i, i < srN → Cond.eq (.field (srTm i) "java/lang/String" "coder" "B") (.int 0) ∈ gvL := by decide +kernel
theorem st_3 : ∀ i, i < srN → Cond.arrayOf (.field (srTm i) "java/lang/String" "value" "[B") .byte ∈ gvL := by decide +kernel
theorem st_4 : ∀ i, i < srN → Cond.eq (.length (.field (srTm i) "java/lang/String" "value" "[B")) (.int (Int32.ofNat (srLen.getD i 0))) ∈ gvL := by decide +kernel
theorem st_5 : ∀ i, i < srN → ∀ j, j < srLen.getD i 0 → Cond.eq (.elem (.field (srTm i) "java/lang/String" "value" "[B") (.int (Int32.ofNat j))) (.int ((srByt.getD i []).getD j 0)) ∈ gvL := by decide +kernel
def neP : List (List Nat) := [[0, 26, 37, 46, 56, 68, 81, 94, 109, 125, 337, 366, 448, 420, 392, 144, 159, 175, 196, 217, 239, 261, 286, 313], [26, 0, 38, 47, 57, 69, 82, 95, 110, 126, 338, 367, 449, 421, 393, 145, 160, 176, 197, 218, 240, 262, 287, 314], [37, 38, 0, 48, 58, 70, 83, 96, 111, 127, 339, 368, 450, 422, 394, 146, 161, 177, 198, 219, 241, 263, 288, 315], [46, 47, 48, 0, 59, 71, 84, 97, 112, 128, 340, 369, 451, 423, 395, 147, 162, 178, 199, 220, 242, 264, 289, 316], [56, 57, 58, 59, 0, 72, 85, 98, 113, 129, 341, 370, 452, 424, 396, 148, 163, 179, 200, 221, 243, 265, 290, 317], [68, 69, 70, 71, 72, 0, 86, 99, 114, 130, 342, 371, 453, 425, 397, 149, 164, 180, 201, 222, 244, 266, 291, 318], [81, 82, 83, 84, 85, 86, 0, 100, 115, 131, 343, 372, 454, 426, 398, 150, 165, 181, 202, 223, 245, 267, 292, 319], [94, 95, 96, 97, 98, 99, 100, 0, 116, 132, 344, 373, 455, 427, 399, 151, 166, 182, 203, 224, 246, 268, 293, 320], [109, 110, 111, 112, 113, 114, 115, 116, 0, 133, 345, 374, 456, 428, 400, 152, 167, 183, 204, 225, 247, 269, 294, 321], [125, 126, 127, 128, 129, 130, 131, 132, 133, 0, 346, 375, 457, 429, 401, 153, 168, 184, 205, 226, 248, 270, 295, 322], [337, 338, 339, 340, 341, 342, 343, 344, 345, 346, 0, 385, 467, 439, 411, 347, 348, 349, 350, 351, 352, 353, 354, 355], [366, 367, 368, 369, 370, 371, 372, 373, 374, 375, 385, 0, 468, 440, 412, 376, 377, 378, 379, 380, 381, 382, 383, 384], [448, 449, 450, 451, 452, 453, 454, 455, 456, 457, 467, 468, 0, 470, 469, 458, 459, 460, 461, 462, 463, 464, 465, 466], [420, 421, 422, 423, 424, 425, 426, 427, 428, 429, 439, 440, 470, 0, 441, 430, 431, 432, 433, 434, 435, 436, 437, 438], [392, 393, 394, 395, 396, 397, 398, 399, 400, 401, 411, 412, 469, 441, 0, 402, 403, 404, 405, 406, 407, 408, 409, 410], [144, 145, 146, 147, 148, 149, 150, 151, 152, 153, 347, 376, 458, 430, 402, 0, 169, 185, 206, 227, 249, 271, 296, 323], [159, 160, 161, 162, 163, 164, 165, 166, 167, 168, 348, 377, 459, 431, 403, 169, 0, 186, 207, 228, 250, 272, 297, 324], [175, 176, 177, 178, 179, 180, 181, 182, 183, 184, 349, 378, 460, 432, 404, 185, 186, 0, 208, 229, 251, 273, 298, 325], [196, 197, 198, 199, 200, 201, 202, 203, 204, 205, 350, 379, 461, 433, 405, 206, 207, 208, 0, 230, 252, 274, 299, 326], [217, 218, 219, 220, 221, 222, 223, 224, 225, 226, 351, 380, 462, 434, 406, 227, 228, 229, 230, 0, 253, 275, 300, 327], [239, 240, 241, 242, 243, 244, 245, 246, 247, 248, 352, 381, 463, 435, 407, 249, 250, 251, 252, 253, 0, 276, 301, 328], [261, 262, 263, 264, 265, 266, 267, 268, 269, 270, 353, 382, 464, 436, 408, 271, 272, 273, 274, 275, 276, 0, 302, 329], [286, 287, 288, 289, 290, 291, 292, 293, 294, 295, 354, 383, 465, 437, 409, 296, 297, 298, 299, 300, 301, 302, 0, 330], [313, 314, 315, 316, 317, 318, 319, 320, 321, 322, 355, 384, 466, 438, 410, 323, 324, 325, 326, 327, 328, 329, 330, 0]]
theorem st_6a : ∀ i, i < srN → ∀ j, j < srN → i < j → (gvL[(neP.getD i []).getD j 0]? = some (Cond.not (Cond.eq (srTm i) (srTm j))) ∨ gvL[(neP.getD i []).getD j 0]? = some (Cond.not (Cond.eq (srTm j) (srTm i)))) := by decide +kernel
theorem st_6 : ∀ i, i < srN → ∀ j, j < srN → i ≠ j → (Cond.not (Cond.eq (srTm i) (srTm j)) ∈ gvL ∨ Cond.not (Cond.eq (srTm j) (srTm i)) ∈ gvL) := by
  intro i hi j hj hne
  rcases Nat.lt_or_gt_of_ne hne with h | h
  · exact (st_6a i hi j hj h).elim (fun z => Or.inl (List.mem_of_getElem? z)) (fun z => Or.inr (List.mem_of_getElem? z))
  · exact (st_6a j hj i hi h).elim (fun z => Or.inr (List.mem_of_getElem? z)) (fun z => Or.inl (List.mem_of_getElem? z))
theorem st_7 : ∀ i, i < srN → Cond.stringRef RX4 (srI.getD i 0) (srT.getD i "") ∈ lw_tbl := by
  intro i hi
  match i, hi with
  | 0, _ => exact wSR_X4_53
  | 1, _ => exact wSR_X4_59
  | 2, _ => exact wSR_X4_61
  | 3, _ => exact wSR_X4_63
  | 4, _ => exact wSR_X4_65
  | 5, _ => exact wSR_X4_103
  | 6, _ => exact wSR_X4_105
  | 7, _ => exact wSR_X4_107
  | 8, _ => exact wSR_X4_109
  | 9, _ => exact wSR_X4_111
  | 10, _ => exact wSR_X4_113
  | 11, _ => exact wSR_X4_115
  | 12, _ => exact wSR_X4_126
  | 13, _ => exact wSR_X4_134
  | 14, _ => exact wSR_X4_136
  | 15, _ => exact wSR_X4_165
  | 16, _ => exact wSR_X4_167
  | 17, _ => exact wSR_X4_169
  | 18, _ => exact wSR_X4_171
  | 19, _ => exact wSR_X4_173
  | 20, _ => exact wSR_X4_175
  | 21, _ => exact wSR_X4_177
  | 22, _ => exact wSR_X4_179
  | 23, _ => exact wSR_X4_181
  | k + 24, h => exact absurd h (by unfold srN; omega)
theorem nest_on : ∀ w ∈ nestW, w.onTables = true := by decide
theorem nestI_on : ∀ w ∈ nestI, w.onTables = true := by decide
theorem st_eC {s : State} {b : Nat} {A : Nat → Prop} (hts : ∀ w ∈ lw_tbl, w.before #[Value.ref b] s = true) (hgv : (Jvm.Cond.and given_1 narrow_1).before #[Value.ref b] s = true) (hA : ∀ a : Nat, a < s.heap.size → ¬ A a) : ∃ adK adV : Nat → Nat, eC adK adV A s s.heap := by
  have hg := flat_of_before _ hgv
  obtain ⟨adK, adV, h1, h2⟩ := vk_Sof (N := srN) (tm := srTm) (len := srLen) (byt := srByt) (A := A) (by decide) (fun i hi => hg _ (st_1 i hi)) (fun i hi => hg _ (st_2 i hi)) (fun i hi => hg _ (st_3 i hi)) (fun i hi => hg _ (st_4 i hi)) (fun i hi j hj => hg _ (st_5 i hi j hj)) (fun i j hi hj hne => (st_6 i hi j hj hne).elim (fun h => Or.inl (hg _ h)) (fun h => Or.inr (hg _ h))) hA
  have hz : (Cond.eq (.static "java/lang/String" "COMPACT_STRINGS" "Z") (.int 1)).before #[Value.ref b] s = true := hg _ (by decide +kernel)
  have hz2 : (Term.static "java/lang/String" "COMPACT_STRINGS" "Z").eval #[Value.ref b] s none [] s = some (.int 1) := va_eqv hz rfl
  refine ⟨adK, adV, fun w hw => va_Nw.of (nest_on w hw) (hts w (nestW_tbl w hw)), fun i hi => vk_R.of (hts _ (st_7 i hi)) (h2 i hi), h1, va_Zof (hts _ (lt_t3 226 rfl)) (hts _ (List.mem_filter.mp wI_J0).1) hz2 hA, va_Zqof (hts _ (lt_t4 2 rfl)) (hts _ (List.mem_filter.mp wI_J3).1) (hg _ (by decide +kernel)) hA⟩
def σ0M : St := (fun k => if k = 61 then -1 else 0, fun _ _ => 0, fun a => if a = 31 then (vp_updL (vp_updL (vp_updL (vp_updL (vp_updL (vp_updL (vp_updL (vp_updL (vp_updL (fun _ => 0) (0 : Int32).toNatClampNeg 120299592184933) (1 : Int32).toNatClampNeg 120) (2 : Int32).toNatClampNeg 121) (3 : Int32).toNatClampNeg 431198598248) (4 : Int32).toNatClampNeg 1936286821) (5 : Int32).toNatClampNeg 1802071652) (6 : Int32).toNatClampNeg 7234932) (7 : Int32).toNatClampNeg 495806932324) (8 : Int32).toNatClampNeg 115923103605861) else if a = 32 then (vp_updL (vp_updL (vp_updL (vp_updL (vp_updL (fun _ => 0) (0 : Int32).toNatClampNeg 1718186856) (1 : Int32).toNatClampNeg 1937010544) (2 : Int32).toNatClampNeg 6518132) (3 : Int32).toNatClampNeg 1818583406) (4 : Int32).toNatClampNeg 1818324580) else fun _ => 0)
def adM (q : Nat) (ad : Nat → Nat) (j : Nat) : Nat := match j with
  | 0 => q
  | j + 1 => ad j
set_option maxRecDepth 100000 in
set_option maxHeartbeats 4000000 in
theorem eoM {q : Nat} {ad : Nat → Nat} : (List.range 93).map (ph_X11 ad) = (List.range 93).map (fval tM (adM q ad) σ0M 0) := rfl
set_option maxRecDepth 100000 in
theorem PM_at {kc : Nat → ClassId} {q : Nat} {ad : Nat → Nat} {j : Nat} (hj : j < 63) : (PW 11 93 q (ph_X11 ad) 62 ad (ae_X11 kc))[j]? = some (adM q ad j, ent tM kc (adM q ad) σ0M j) := by
  match j, hj with
  | 0, _ => rw [ent_o (ci := 11) (n := 93) rfl, ← eoM]; rfl
  | 1, _ => rw [PW_arr (j := 0) (by decide)]; rfl
  | 2, _ => rw [PW_arr (j := 1) (by decide)]; rfl
  | 3, _ => rw [PW_arr (j := 2) (by decide)]; rfl
  | 4, _ => rw [PW_arr (j := 3) (by decide)]; rfl
  | 5, _ => rw [PW_arr (j := 4) (by decide)]; rfl
  | 6, _ => rw [PW_arr (j := 5) (by decide)]; rfl
  | 7, _ => rw [PW_arr (j := 6) (by decide)]; rfl
  | 8, _ => rw [PW_arr (j := 7) (by decide)]; rfl
  | 9, _ => rw [PW_arr (j := 8) (by decide)]; rfl
  | 10, _ => rw [PW_arr (j := 9) (by decide)]; rfl
  | 11, _ => rw [PW_arr (j := 10) (by decide)]; rfl
  | 12, _ => rw [PW_arr (j := 11) (by decide)]; rfl
  | 13, _ => rw [PW_arr (j := 12) (by decide)]; rfl
  | 14, _ => rw [PW_arr (j := 13) (by decide)]; rfl
  | 15, _ => rw [PW_arr (j := 14) (by decide)]; rfl
  | 16, _ => rw [PW_arr (j := 15) (by decide)]; rfl
  | 17, _ => rw [PW_arr (j := 16) (by decide)]; rfl
  | 18, _ => rw [PW_arr (j := 17) (by decide)]; rfl
  | 19, _ => rw [PW_arr (j := 18) (by decide)]; rfl
  | 20, _ => rw [PW_arr (j := 19) (by decide)]; rfl
  | 21, _ => rw [PW_arr (j := 20) (by decide)]; rfl
  | 22, _ => rw [PW_arr (j := 21) (by decide)]; rfl
  | 23, _ => rw [PW_arr (j := 22) (by decide)]; rfl
  | 24, _ => rw [PW_arr (j := 23) (by decide)]; rfl
  | 25, _ => rw [PW_arr (j := 24) (by decide)]; rfl
  | 26, _ => rw [PW_arr (j := 25) (by decide)]; rfl
  | 27, _ => rw [PW_arr (j := 26) (by decide)]; rfl
  | 28, _ => rw [PW_arr (j := 27) (by decide)]; rfl
  | 29, _ => rw [PW_arr (j := 28) (by decide)]; rfl
  | 30, _ => rw [PW_arr (j := 29) (by decide)]; rfl
  | 31, _ => rw [PW_arr (j := 30) (by decide)]; rfl
  | 32, _ => rw [PW_arr (j := 31) (by decide)]; rfl
  | 33, _ => rw [PW_arr (j := 32) (by decide)]; rfl
  | 34, _ => rw [PW_arr (j := 33) (by decide)]; rfl
  | 35, _ => rw [PW_arr (j := 34) (by decide)]; rfl
  | 36, _ => rw [PW_arr (j := 35) (by decide)]; rfl
  | 37, _ => rw [PW_arr (j := 36) (by decide)]; rfl
  | 38, _ => rw [PW_arr (j := 37) (by decide)]; rfl
  | 39, _ => rw [PW_arr (j := 38) (by decide)]; rfl
  | 40, _ => rw [PW_arr (j := 39) (by decide)]; rfl
  | 41, _ => rw [PW_arr (j := 40) (by decide)]; rfl
  | 42, _ => rw [PW_arr (j := 41) (by decide)]; rfl
  | 43, _ => rw [PW_arr (j := 42) (by decide)]; rfl
  | 44, _ => rw [PW_arr (j := 43) (by decide)]; rfl
  | 45, _ => rw [PW_arr (j := 44) (by decide)]; rfl
  | 46, _ => rw [PW_arr (j := 45) (by decide)]; rfl
  | 47, _ => rw [PW_arr (j := 46) (by decide)]; rfl
  | 48, _ => rw [PW_arr (j := 47) (by decide)]; rfl
  | 49, _ => rw [PW_arr (j := 48) (by decide)]; rfl
  | 50, _ => rw [PW_arr (j := 49) (by decide)]; rfl
  | 51, _ => rw [PW_arr (j := 50) (by decide)]; rfl
  | 52, _ => rw [PW_arr (j := 51) (by decide)]; rfl
  | 53, _ => rw [PW_arr (j := 52) (by decide)]; rfl
  | 54, _ => rw [PW_arr (j := 53) (by decide)]; rfl
  | 55, _ => rw [PW_arr (j := 54) (by decide)]; rfl
  | 56, _ => rw [PW_arr (j := 55) (by decide)]; rfl
  | 57, _ => rw [PW_arr (j := 56) (by decide)]; rfl
  | 58, _ => rw [PW_arr (j := 57) (by decide)]; rfl
  | 59, _ => rw [PW_arr (j := 58) (by decide)]; rfl
  | 60, _ => rw [PW_arr (j := 59) (by decide)]; rfl
  | 61, _ => rw [PW_arr (j := 60) (by decide)]; rfl
  | 62, _ => rw [PW_arr (j := 61) (by decide)]; rfl
  | n + 63, h => exact absurd h (by omega)
theorem PM_eq {kc : Nat → ClassId} {q : Nat} {ad : Nat → Nat} : PW 11 93 q (ph_X11 ad) 62 ad (ae_X11 kc) = wsW tM kc (adM q ad) σ0M := by
  apply List.ext_getElem?
  intro i
  by_cases hi : i < 63
  · rw [PM_at hi, ws_get (T := tM) hi]
  · rw [List.getElem?_eq_none (by rw [PW_len]; omega), List.getElem?_eq_none (by rw [ws_len (T := tM)]; show 63 ≤ i; omega)]
