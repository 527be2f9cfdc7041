def f_X11_in_17 : Int32 :=
  0
def f_X11_in (x0 : Int64) (x2 : Int64) (x4 : Int64) : Int32 :=
  if x0 < x2 then
    f_X11_in_17
  else
    (if x4 < x0 then
      f_X11_in_17
    else
      1)
def f_X11_isMinute_15 : Int32 :=
  0
def f_X11_isMinute (x0 : Int32) : Int32 :=
  if x0 < 0 then
    f_X11_isMinute_15
  else
    (if 9000 ≤ x0 then
      f_X11_isMinute_15
    else
      1)
def f_X11_isSide_9 : Int32 :=
  1
def f_X11_isSide (x0 : Int32) : Int32 :=
  if x0 = 0 then
    f_X11_isSide_9
  else
    (if x0 = 1 then
      f_X11_isSide_9
    else
      0)
def f_X11_isCell_28 : Int32 :=
  0
def f_X11_isCell (x0 : Int32) (x1 : Int32) : Int32 :=
  if (f_X11_in x0.toInt64 0 23) = 0 then
    f_X11_isCell_28
  else
    (if (f_X11_in x1.toInt64 0 23) = 0 then
      f_X11_isCell_28
    else
      1)
def f_X11_without (x0 : Int32) : Int32 :=
  bnd (if 0 ≤ x0 then x0 else -x0 : Int32) fun v1 =>
  v1
def f_X11_clock (x1 : Int32) (σ : St) : Option (Int32 × St) :=
  if (f_X11_in x1.toInt64 ((gF σ 0).toInt64) 8999) = 0 then
    some (0, σ)
  else
    (bnd (sF σ 0 x1) fun σ3 =>
    some (1, σ3))
def f_X11_depth (x1 : Int32) (x2 : Int32) (x3 : Int32) (σ : St) : Option (Int32 × St) :=
  if (f_X11_isCell x1 x2) = 0 then
    some ((-1), σ)
  else
    (if (f_X11_in x3.toInt64 0 999) = 0 then
      some ((-1), σ)
    else
      ((rd tM σ 1 ((24 * x2) + x1)).bind fun v5 =>
      (wr tM σ 1 ((24 * x2) + x1) x3).bind fun σ6 =>
      some (v5, σ6)))
def f_X11_isShip_16 (σ : St) : Int32 :=
  0
def f_X11_isShip (x1 : Int32) (σ : St) : Int32 :=
  if x1 < 0 then
    f_X11_isShip_16 σ
  else
    (if (gF σ 2) ≤ x1 then
      f_X11_isShip_16 σ
    else
      1)
def f_X11_ship (x1 : Int32) (x2 : Int32) (x3 : Int32) (x4 : Int32) (σ : St) : Option (Int32 × St) :=
  if (gF σ 2) = 40 then
    some ((-1), σ)
  else
    (if (f_X11_isSide x1) = 0 then
      some ((-1), σ)
    else
      (if (f_X11_in x2.toInt64 0 2) = 0 then
        some ((-1), σ)
      else
        (if (f_X11_in x3.toInt64 1 3) = 0 then
          some ((-1), σ)
        else
          (if (f_X11_in x4.toInt64 0 199) = 0 then
            some ((-1), σ)
          else
            ((wr tM σ 2 (gF σ 2) x1).bind fun σ11 =>
            (wr tM σ11 3 (gF σ11 2) x2).bind fun σ12 =>
            (wr tM σ12 4 (gF σ12 2) x3).bind fun σ13 =>
            (wr tM σ13 5 (gF σ13 2) x4).bind fun σ14 =>
            bnd (sF σ14 2 ((gF σ14 2) + 1)) fun σ15 =>
            some ((gF σ15 2) - 1, σ15))))))
def f_X11_report (x1 : Int32) (x2 : Int32) (x3 : Int32) (x4 : Int32) (x5 : Int32) (σ : St) : Option (Int32 × St) :=
  if (gF σ 7) = 300 then
    some ((-1), σ)
  else
    (if (f_X11_isShip x1 σ) = 0 then
      some ((-1), σ)
    else
      (if (f_X11_isShip x2 σ) = 0 then
        some ((-1), σ)
      else
        (if (f_X11_in x3.toInt64 0 ((gF σ 0).toInt64)) = 0 then
          some ((-1), σ)
        else
          (if (f_X11_isCell x4 x5) = 0 then
            some ((-1), σ)
          else
            ((wr tM σ 6 (gF σ 7) x1).bind fun σ15 =>
            (wr tM σ15 7 (gF σ15 7) x2).bind fun σ16 =>
            (wr tM σ16 8 (gF σ16 7) x3).bind fun σ17 =>
            (wr tM σ17 9 (gF σ17 7) x4).bind fun σ18 =>
            (wr tM σ18 10 (gF σ18 7) x5).bind fun σ19 =>
            (wr tM σ19 11 (gF σ19 7) (gF σ19 0)).bind fun σ20 =>
            bnd (sF σ20 7 ((gF σ20 7) + 1)) fun σ21 =>
            some ((gF σ21 7) - 1, σ21))))))
def f_X11_whereIs_88 (x1 : Int32) (x2 : Int32) (x3 : Int32) (x4 : Int32) (x5 : Int32) (σ : St) (k6 : Int32 → Int32 → Option (Int32)) : Option (Int32) :=
  bnd (x5 + 1 : Int32) fun v25 =>
  k6 x4 v25
def f_X11_whereIs_84 (x1 : Int32) (x2 : Int32) (x3 : Int32) (x5 : Int32) (σ : St) (k6 : Int32 → Int32 → Option (Int32)) : Option (Int32) :=
  f_X11_whereIs_88 x1 x2 x3 x5 x5 σ k6
def f_X11_whereIs_94 (x4 : Int32) (σ : St) : Option (Int32) :=
  if 0 ≤ x4 then
    ((rd tM σ 10 x4).bind fun v26 =>
    (rd tM σ 9 x4).bind fun v27 =>
    some ((24 * v26) + v27))
  else
    some (-1)
def f_X11_whereIs_6 (x1 : Int32) (x2 : Int32) (x3 : Int32) (σ : St) : Nat → Int32 → Int32 → Option (Int32)
  | 0, _, _ => none
  | n + 1, x4, x5 =>
    if (gF σ 7) ≤ x5 then
      f_X11_whereIs_94 x4 σ
    else
      ((rd tM σ 7 x5).bind fun v19 =>
      if v19 = x1 then
        ((rd tM σ 6 x5).bind fun v20 =>
        if v20 = x1 then
          ((rd tM σ 11 x5).bind fun v21 =>
          if x3 < v21 then
            f_X11_whereIs_88 x1 x2 x3 x4 x5 σ (f_X11_whereIs_6 x1 x2 x3 σ n)
          else
            ((rd tM σ 8 x5).bind fun v22 =>
            if v22 ≤ x2 then
              (if x4 < 0 then
                f_X11_whereIs_84 x1 x2 x3 x5 σ (f_X11_whereIs_6 x1 x2 x3 σ n)
              else
                ((rd tM σ 8 x5).bind fun v23 =>
                (rd tM σ 8 x4).bind fun v24 =>
                if v23 < v24 then
                  f_X11_whereIs_88 x1 x2 x3 x4 x5 σ (f_X11_whereIs_6 x1 x2 x3 σ n)
                else
                  f_X11_whereIs_84 x1 x2 x3 x5 σ (f_X11_whereIs_6 x1 x2 x3 σ n)))
            else
              f_X11_whereIs_88 x1 x2 x3 x4 x5 σ (f_X11_whereIs_6 x1 x2 x3 σ n)))
        else
          f_X11_whereIs_88 x1 x2 x3 x4 x5 σ (f_X11_whereIs_6 x1 x2 x3 σ n))
      else
        f_X11_whereIs_88 x1 x2 x3 x4 x5 σ (f_X11_whereIs_6 x1 x2 x3 σ n))
def f_X11_whereIs (x1 : Int32) (x2 : Int32) (x3 : Int32) (σ : St) : Option (Int32) :=
  f_X11_whereIs_6 x1 x2 x3 σ FU (-1) 0
def f_X11_where_32 (σ : St) : Option (Int32) :=
  some (-1)
def f_X11_where (x1 : Int32) (x2 : Int32) (x3 : Int32) (σ : St) : Option (Int32) :=
  if (f_X11_isShip x1 σ) = 0 then
    f_X11_where_32 σ
  else
    (if (f_X11_isMinute x2) = 0 then
      f_X11_where_32 σ
    else
      (if (f_X11_isMinute x3) = 0 then
        f_X11_where_32 σ
      else
        ((f_X11_whereIs x1 x2 x3 σ).bind fun v3 =>
        some v3)))
def f_X11_canBoth (x1 : Int32) (x2 : Int32) (x3 : Int32) (σ : St) : Option (Int32) :=
  (rd tM σ 9 x1).bind fun v17 =>
  (rd tM σ 9 x2).bind fun v18 =>
  bnd (f_X11_without (v17 - v18) : Int32) fun v19 =>
  (rd tM σ 10 x1).bind fun v20 =>
  (rd tM σ 10 x2).bind fun v21 =>
  bnd (f_X11_without (v20 - v21) : Int32) fun v22 =>
  bnd (if v19 ≤ v22 then v22 else v19 : Int32) fun v23 =>
  (rd tM σ 8 x1).bind fun v24 =>
  (rd tM σ 8 x2).bind fun v25 =>
  bnd (if (x3 * (f_X11_without (v24 - v25))) < v23 then 0 else 1 : Int32) fun v26 =>
  some (vp_nar .boolean v26)
def f_X11_chain_122 (x1 : Int32) (x2 : Int32) (x3 : Int32) (x4 : Int32) (σ : St) (k22 : Int32 → Int32 → St → Option (Int32 × St)) : Option (Int32 × St) :=
  bnd (x4 + 1 : Int32) fun v83 =>
  k22 x3 v83 σ
def f_X11_chain_110 (x1 : Int32) (x2 : Int32) (x3 : Int32) (x4 : Int32) (x5 : Int32) (σ : St) (k22 : Int32 → Int32 → St → Option (Int32 × St)) : Option (Int32 × St) :=
  (wr tM σ 13 x5 x4).bind fun σ81 =>
  bnd (x3 + 1 : Int32) fun v82 =>
  f_X11_chain_122 x1 x2 v82 x4 σ81 k22
def f_X11_chain_59 (x1 : Int32) (x2 : Int32) (x3 : Int32) (x4 : Int32) (k22 : Int32 → Int32 → St → Option (Int32 × St)) : Nat → Int32 → St → Option (Int32 × St)
  | 0, _, _ => none
  | n + 1, x5, σ =>
    if x5 ≤ 0 then
      f_X11_chain_110 x1 x2 x3 x4 x5 σ k22
    else
      ((rd tM σ 13 (x5 - 1)).bind fun v75 =>
      (rd tM σ 8 v75).bind fun v76 =>
      (rd tM σ 8 x4).bind fun v77 =>
      if v76 ≤ v77 then
        f_X11_chain_110 x1 x2 x3 x4 x5 σ k22
      else
        ((rd tM σ 13 (x5 - 1)).bind fun v78 =>
        (wr tM σ 13 x5 v78).bind fun σ79 =>
        bnd (x5 + (-1) : Int32) fun v80 =>
        f_X11_chain_59 x1 x2 x3 x4 k22 n v80 σ79))
def f_X11_chain_223 (x1 : Int32) (x3 : Int32) (x4 : Int32) (x5 : Int32) (x6 : Int32) (σ : St) (k155 : Int32 → St → Option (Int32 × St)) (k136 : Int32 → Int32 → St → Option (Int32 × St)) : Option (Int32 × St) :=
  bnd (x6 + 1 : Int32) fun v95 =>
  k155 v95 σ
def f_X11_chain_253 (x1 : Int32) (x3 : Int32) (x5 : Int32) (y0 : Int32) (σ : St) (k136 : Int32 → Int32 → St → Option (Int32 × St)) : Option (Int32 × St) :=
  bnd (x5 + (-1) : Int32) fun v98 =>
  k136 y0 v98 σ
def f_X11_chain_229 (x1 : Int32) (x3 : Int32) (x4 : Int32) (x5 : Int32) (σ : St) (k136 : Int32 → Int32 → St → Option (Int32 × St)) : Option (Int32 × St) :=
  (rd tM σ 14 x5).bind fun v96 =>
  if v96 ≤ x4 then
    f_X11_chain_253 x1 x3 x5 x4 σ k136
  else
    ((rd tM σ 14 x5).bind fun v97 =>
    f_X11_chain_253 x1 x3 x5 v97 σ k136)
def f_X11_chain_155 (x1 : Int32) (x3 : Int32) (x4 : Int32) (x5 : Int32) (k136 : Int32 → Int32 → St → Option (Int32 × St)) : Nat → Int32 → St → Option (Int32 × St)
  | 0, _, _ => none
  | n + 1, x6, σ =>
    if x3 ≤ x6 then
      f_X11_chain_229 x1 x3 x4 x5 σ k136
    else
      ((rd tM σ 14 x6).bind fun v87 =>
      (rd tM σ 14 x5).bind fun v88 =>
      if (v87 + 1) ≤ v88 then
        f_X11_chain_223 x1 x3 x4 x5 x6 σ (f_X11_chain_155 x1 x3 x4 x5 k136 n) k136
      else
        ((rd tM σ 13 x5).bind fun v89 =>
        (rd tM σ 13 x6).bind fun v90 =>
        (rd tM σ 4 x1).bind fun v91 =>
        (f_X11_canBoth v89 v90 v91 σ).bind fun v92 =>
        if v92 = 0 then
          f_X11_chain_223 x1 x3 x4 x5 x6 σ (f_X11_chain_155 x1 x3 x4 x5 k136 n) k136
        else
          ((rd tM σ 14 x6).bind fun v93 =>
          (wr tM σ 14 x5 (v93 + 1)).bind fun σ94 =>
          f_X11_chain_223 x1 x3 x4 x5 x6 σ94 (f_X11_chain_155 x1 x3 x4 x5 k136 n) k136)))
def f_X11_chain_359 (x1 : Int32) (x3 : Int32) (x4 : Int32) (x5 : Int32) (x6 : Int32) (x7 : Int32) (σ : St) (k277 : Int32 → Int32 → Int32 → St → Option (Int32 × St)) : Option (Int32 × St) :=
  bnd (x7 + 1 : Int32) fun v108 =>
  k277 x5 x6 v108 σ
def f_X11_chain_335 (x1 : Int32) (x3 : Int32) (x4 : Int32) (x6 : Int32) (x7 : Int32) (σ : St) (k277 : Int32 → Int32 → Int32 → St → Option (Int32 × St)) : Option (Int32 × St) :=
  (rd tM σ 13 x7).bind fun v105 =>
  (wr tM σ 12 (x4 - x6) v105).bind fun σ106 =>
  bnd (x6 + (-1) : Int32) fun v107 =>
  f_X11_chain_359 x1 x3 x4 x7 v107 x7 σ106 k277
def f_X11_chain_277 (x1 : Int32) (x3 : Int32) (x4 : Int32) : Nat → Int32 → Int32 → Int32 → St → Option (Int32 × St)
  | 0, _, _, _, _ => none
  | n + 1, x5, x6, x7, σ =>
    if x3 ≤ x7 then
      some (x4, σ)
    else
      (if x6 ≤ 0 then
        some (x4, σ)
      else
        ((rd tM σ 14 x7).bind fun v100 =>
        if v100 = x6 then
          (if x5 < 0 then
            f_X11_chain_335 x1 x3 x4 x6 x7 σ (f_X11_chain_277 x1 x3 x4 n)
          else
            ((rd tM σ 13 x5).bind fun v101 =>
            (rd tM σ 13 x7).bind fun v102 =>
            (rd tM σ 4 x1).bind fun v103 =>
            (f_X11_canBoth v101 v102 v103 σ).bind fun v104 =>
            if v104 = 0 then
              f_X11_chain_359 x1 x3 x4 x5 x6 x7 σ (f_X11_chain_277 x1 x3 x4 n)
            else
              f_X11_chain_335 x1 x3 x4 x6 x7 σ (f_X11_chain_277 x1 x3 x4 n)))
        else
          f_X11_chain_359 x1 x3 x4 x5 x6 x7 σ (f_X11_chain_277 x1 x3 x4 n)))
def f_X11_chain_261 (x1 : Int32) (x3 : Int32) (x4 : Int32) (σ : St) : Option (Int32 × St) :=
  bnd (sF σ 14 x4) fun σ99 =>
  f_X11_chain_277 x1 x3 x4 FU (-1) x4 0 σ99
def f_X11_chain_136 (x1 : Int32) (x3 : Int32) : Nat → Int32 → Int32 → St → Option (Int32 × St)
  | 0, _, _, _ => none
  | n + 1, x4, x5, σ =>
    if x5 < 0 then
      f_X11_chain_261 x1 x3 x4 σ
    else
      ((wr tM σ 14 x5 1).bind fun σ85 =>
      bnd (x5 + 1 : Int32) fun v86 =>
      f_X11_chain_155 x1 x3 x4 x5 (f_X11_chain_136 x1 x3 n) FU v86 σ85)
def f_X11_chain_128 (x1 : Int32) (x3 : Int32) (σ : St) : Option (Int32 × St) :=
  bnd (x3 - 1 : Int32) fun v84 =>
  f_X11_chain_136 x1 x3 FU 0 v84 σ
def f_X11_chain_22 (x1 : Int32) (x2 : Int32) : Nat → Int32 → Int32 → St → Option (Int32 × St)
  | 0, _, _, _ => none
  | n + 1, x3, x4, σ =>
    if (gF σ 7) ≤ x4 then
      f_X11_chain_128 x1 x3 σ
    else
      ((rd tM σ 7 x4).bind fun v73 =>
      if v73 = x1 then
        ((rd tM σ 11 x4).bind fun v74 =>
        if v74 ≤ x2 then
          f_X11_chain_59 x1 x2 x3 x4 (f_X11_chain_22 x1 x2 n) FU x3 σ
        else
          f_X11_chain_122 x1 x2 x3 x4 σ (f_X11_chain_22 x1 x2 n))
      else
        f_X11_chain_122 x1 x2 x3 x4 σ (f_X11_chain_22 x1 x2 n))
def f_X11_chain (x1 : Int32) (x2 : Int32) (σ : St) : Option (Int32 × St) :=
  if (f_X11_isShip x1 σ) = 0 then
    some ((-1), σ)
  else
    (if (f_X11_isMinute x2) = 0 then
      some ((-1), σ)
    else
      f_X11_chain_22 x1 x2 FU 0 0 σ)
def f_X11_chained (x1 : Int32) (σ : St) : Option (Int32) :=
  if (f_X11_in x1.toInt64 0 (((gF σ 14) - 1).toInt64)) = 0 then
    some (-1)
  else
    ((rd tM σ 12 x1).bind fun v3 =>
    some v3)
def f_X11_point (x1 : Int32) (x2 : Int32) (x3 : Int32) (σ : St) : Option (Int32 × St) :=
  if (f_X11_isSide x1) = 0 then
    some ((-1), σ)
  else
    ((rd tM σ 15 x1).bind fun v17 =>
    if v17 = 16 then
      some ((-1), σ)
    else
      (if (f_X11_isCell x2 x3) = 0 then
        some ((-1), σ)
      else
        ((rd tM σ 15 x1).bind fun v18 =>
        (wr tM σ 16 ((16 * x1) + v18) x2).bind fun σ19 =>
        (rd tM σ19 15 x1).bind fun v20 =>
        (wr tM σ19 17 ((16 * x1) + v20) x3).bind fun σ21 =>
        (rd tM σ21 15 x1).bind fun v22 =>
        (wr tM σ21 15 x1 (v22 + 1)).bind fun σ23 =>
        (rd tM σ23 15 x1).bind fun v24 =>
        some (v24 - 1, σ23))))
def f_X11_chart (x1 : Int32) (x2 : Int32) (σ : St) : Option (Int32 × St) :=
  if (f_X11_in x1.toInt64 (-3) 3) = 0 then
    some (0, σ)
  else
    (if (f_X11_in x2.toInt64 (-3) 3) = 0 then
      some (0, σ)
    else
      (bnd (sF σ 21 x1) fun σ5 =>
      bnd (sF σ5 22 x2) fun σ6 =>
      some (1, σ6)))
def f_X11_isNear_6 (x1 : Int32) (x2 : Int32) (x3 : Int32) (x4 : Int32) (x5 : Int32) (σ : St) : Nat → Int32 → Option (Int32)
  | 0, _ => none
  | n + 1, x6 =>
    (rd tM σ 15 x1).bind fun v16 =>
    if ((16 * x1) + v16) ≤ x6 then
      some 0
    else
      ((rd tM σ 16 x6).bind fun v17 =>
      bnd (if x2 = 1 then gF σ 21 else 0 : Int32) fun v18 =>
      bnd ((x3 - v17) - v18 : Int32) fun v19 =>
      (rd tM σ 17 x6).bind fun v20 =>
      bnd (if x2 = 1 then gF σ 22 else 0 : Int32) fun v21 =>
      bnd ((x4 - v20) - v21 : Int32) fun v22 =>
      if (x5 * x5) < ((v19 * v19) + (v22 * v22)) then
        (bnd (x6 + 1 : Int32) fun v23 =>
        f_X11_isNear_6 x1 x2 x3 x4 x5 σ n v23)
      else
        some 1)
def f_X11_isNear (x1 : Int32) (x2 : Int32) (x3 : Int32) (x4 : Int32) (x5 : Int32) (σ : St) : Option (Int32) :=
  bnd (16 * x1 : Int32) fun v15 =>
  f_X11_isNear_6 x1 x2 x3 x4 x5 σ FU v15
def f_X11_asks (x1 : Int32) (x2 : Int32) (x3 : Int32) (x4 : Int32) (x5 : Int32) (σ : St) : Option (St) :=
  bnd (sF σ 47 x1) fun σ6 =>
  bnd (sF σ6 48 x2) fun σ7 =>
  bnd (sF σ7 49 x3) fun σ8 =>
  bnd (sF σ8 50 x4) fun σ9 =>
  bnd (sF σ9 51 x5) fun σ10 =>
  some σ10
def f_X11_isInForce_82 (x1 : Int32) (x2 : Int32) (x3 : Int32) (x4 : Int32) (σ : St) (k41 : Int32 → Option (Int32)) (k14 : Int32 → Option (Int32)) : Option (Int32) :=
  bnd (x4 + 1 : Int32) fun v23 =>
  k41 v23
def f_X11_isInForce_88 (x1 : Int32) (x2 : Int32) (x3 : Int32) (σ : St) (k14 : Int32 → Option (Int32)) : Option (Int32) :=
  bnd (x3 + 1 : Int32) fun v24 =>
  k14 v24
def f_X11_isInForce_41 (x1 : Int32) (x2 : Int32) (x3 : Int32) (σ : St) (k14 : Int32 → Option (Int32)) : Nat → Int32 → Option (Int32)
  | 0, _ => none
  | n + 1, x4 =>
    (rd tM σ 21 x3).bind fun v20 =>
    if ((12 * x3) + v20) ≤ x4 then
      f_X11_isInForce_88 x1 x2 x3 σ k14
    else
      ((rd tM σ 22 x4).bind fun v21 =>
      if v21 = 7 then
        ((rd tM σ 23 x4).bind fun v22 =>
        if v22 = x1 then
          some 0
        else
          f_X11_isInForce_82 x1 x2 x3 x4 σ (f_X11_isInForce_41 x1 x2 x3 σ k14 n) k14)
      else
        f_X11_isInForce_82 x1 x2 x3 x4 σ (f_X11_isInForce_41 x1 x2 x3 σ k14 n) k14)
def f_X11_isInForce_14 (x1 : Int32) (x2 : Int32) (σ : St) : Nat → Int32 → Option (Int32)
  | 0, _ => none
  | n + 1, x3 =>
    if (gF σ 25) ≤ x3 then
      some 1
    else
      ((rd tM σ 20 x3).bind fun v18 =>
      if v18 ≤ x2 then
        (bnd (12 * x3 : Int32) fun v19 =>
        f_X11_isInForce_41 x1 x2 x3 σ (f_X11_isInForce_14 x1 x2 σ n) FU v19)
      else
        f_X11_isInForce_88 x1 x2 x3 σ (f_X11_isInForce_14 x1 x2 σ n))
def f_X11_isInForce (x1 : Int32) (x2 : Int32) (σ : St) : Option (Int32) :=
  (rd tM σ 20 x1).bind fun v17 =>
  if v17 ≤ x2 then
    f_X11_isInForce_14 x1 x2 σ FU 0
  else
    some 0
def f_X11_wordNow (x1 : Int32) (σ : St) : Option (Int64) :=
  if x1 = 0 then
    some ((gF σ 47).toInt64)
  else
    (if 0 ≤ (gF σ 48) then
      (if x1 = 1 then
        some ((gF σ 49).toInt64)
      else
      if x1 = 2 then
        some ((gF σ 50).toInt64)
      else
      if x1 = 3 then
        ((rd tM σ 1 ((24 * (gF σ 50)) + (gF σ 49))).bind fun v11 =>
        some v11.toInt64)
      else
      if x1 = 4 then
        ((rd tM σ 2 (gF σ 48)).bind fun v12 =>
        some v12.toInt64)
      else
      if x1 = 5 then
        ((rd tM σ 3 (gF σ 48)).bind fun v13 =>
        some v13.toInt64)
      else
      if x1 = 6 then
        ((rd tM σ 5 (gF σ 48)).bind fun v14 =>
        some v14.toInt64)
      else
      if x1 = 7 then
        ((rd tM σ 4 (gF σ 48)).bind fun v15 =>
        some v15.toInt64)
      else
      some ((gF σ 51).toInt64))
    else
      some 0)
def f_X11_holds (x0 : Int32) (x1 : Int64) (x3 : Int64) : Int32 :=
  if x0 = 0 then
    (bnd (if x3 ≤ x1 then 0 else 1 : Int32) fun v1 =>
    vp_nar .boolean v1)
  else
  if x0 = 1 then
    (bnd (if x3 < x1 then 0 else 1 : Int32) fun v2 =>
    vp_nar .boolean v2)
  else
  if x0 = 2 then
    (bnd (if x1 = x3 then 1 else 0 : Int32) fun v3 =>
    vp_nar .boolean v3)
  else
  if x0 = 3 then
    (bnd (if x1 < x3 then 0 else 1 : Int32) fun v4 =>
    vp_nar .boolean v4)
  else
  (bnd (if x1 ≤ x3 then 0 else 1 : Int32) fun v5 =>
  vp_nar .boolean v5)
def f_X11_works_274 (x2 : Int32) (x3 : Int32) (x4 : Int32) (x5 : Int32) (σ : St) (k12 : Int32 → Int32 → St → Option (Int64 × St)) : Option (Int64 × St) :=
  bnd (x5 + 1 : Int32) fun v55 =>
  k12 x4 v55 σ
def f_X11_works_77 (x2 : Int32) (x3 : Int32) (x4 : Int32) (x5 : Int32) (y1 : Int32) (y2 : Int64) (σ : St) (k12 : Int32 → Int32 → St → Option (Int64 × St)) : Option (Int64 × St) :=
  (wl tM σ 33 y1 y2).bind fun σ52 =>
  bnd (x4 + 1 : Int32) fun v53 =>
  f_X11_works_274 x2 x3 v53 x5 σ52 k12
def f_X11_works_44 (x2 : Int32) (x3 : Int32) (x4 : Int32) (x5 : Int32) (x6 : Int32) (σ : St) (k12 : Int32 → Int32 → St → Option (Int64 × St)) : Option (Int64 × St) :=
  if x6 = 0 then
    ((rd tM σ 29 x5).bind fun v51 =>
    f_X11_works_77 x2 x3 x4 x5 x4 v51.toInt64 σ k12)
  else
    ((rd tM σ 29 x5).bind fun v49 =>
    (f_X11_wordNow v49 σ).bind fun v50 =>
    f_X11_works_77 x2 x3 x4 x5 x4 v50 σ k12)
def f_X11_works_184 (x2 : Int32) (x3 : Int32) (x4 : Int32) (x5 : Int32) (y1 : Int32) (y2 : Int64) (σ : St) (k12 : Int32 → Int32 → St → Option (Int64 × St)) : Option (Int64 × St) :=
  (wl tM σ 33 y1 y2).bind fun σ54 =>
  f_X11_works_274 x2 x3 x4 x5 σ54 k12
def f_X11_works_280 (σ : St) : Option (Int64 × St) :=
  (rl tM σ 33 0).bind fun v56 =>
  some (v56, σ)
def f_X11_works_12 (x2 : Int32) (x3 : Int32) : Nat → Int32 → Int32 → St → Option (Int64 × St)
  | 0, _, _, _ => none
  | n + 1, x4, x5, σ =>
    if ((420 * x3) + x2) ≤ x5 then
      f_X11_works_280 σ
    else
      ((rd tM σ 28 x5).bind fun v38 =>
      if v38 = 0 then
        f_X11_works_44 x2 x3 x4 x5 v38 σ (f_X11_works_12 x2 x3 n)
      else
        (if v38 = 1 then
          f_X11_works_44 x2 x3 x4 x5 v38 σ (f_X11_works_12 x2 x3 n)
        else
          (if v38 = 10 then
            ((rl tM σ 33 (x4 - 1)).bind fun v47 =>
            (wl tM σ 33 (x4 - 1) (1 - v47)).bind fun σ48 =>
            f_X11_works_274 x2 x3 x4 x5 σ48 (f_X11_works_12 x2 x3 n))
          else
            (bnd (x4 + (-1) : Int32) fun v39 =>
            (rl tM σ 33 (v39 - 1)).bind fun v40 =>
            (rl tM σ 33 v39).bind fun v41 =>
            if 5 ≤ v38 then
              (if v38 = 11 then
                ((wl tM σ 33 (v39 - 1) (v40 * v41)).bind fun σ46 =>
                f_X11_works_274 x2 x3 v39 x5 σ46 (f_X11_works_12 x2 x3 n))
              else
                (if v38 = 12 then
                  (bnd (if (v40 + v41) ≤ 0 then 0 else 1 : Int64) fun v44 =>
                  (wl tM σ 33 (v39 - 1) v44).bind fun σ45 =>
                  f_X11_works_274 x2 x3 v39 x5 σ45 (f_X11_works_12 x2 x3 n))
                else
                  (bnd (if (f_X11_holds (v38 - 5) v40 v41) = 0 then 0 else 1 : Int64) fun v42 =>
                  (wl tM σ 33 (v39 - 1) v42).bind fun σ43 =>
                  f_X11_works_274 x2 x3 v39 x5 σ43 (f_X11_works_12 x2 x3 n))))
            else
              (if v38 = 2 then
                f_X11_works_184 x2 x3 v39 x5 (v39 - 1) (v40 * v41) σ (f_X11_works_12 x2 x3 n)
              else
                (if v38 = 3 then
                  f_X11_works_184 x2 x3 v39 x5 (v39 - 1) (v40 + v41) σ (f_X11_works_12 x2 x3 n)
                else
                  f_X11_works_184 x2 x3 v39 x5 (v39 - 1) (v40 - v41) σ (f_X11_works_12 x2 x3 n)))))))
def f_X11_works (x1 : Int32) (x2 : Int32) (x3 : Int32) (σ : St) : Option (Int64 × St) :=
  bnd ((420 * x3) + x1 : Int32) fun v37 =>
  f_X11_works_12 x2 x3 FU 0 v37 σ
def f_X11_clauseOf_89 (x1 : Int32) (x2 : Int32) (x3 : Int32) (σ : St) (k5 : Int32 → St → Option (Int32 × St)) : Option (Int32 × St) :=
  bnd (x3 + 1 : Int32) fun v29 =>
  k5 v29 σ
def f_X11_clauseOf_5 (x1 : Int32) (x2 : Int32) : Nat → Int32 → St → Option (Int32 × St)
  | 0, _, _ => none
  | n + 1, x3, σ =>
    (rd tM σ 21 x1).bind fun v20 =>
    if ((12 * x1) + v20) ≤ x3 then
      some ((-1), σ)
    else
      ((rd tM σ 22 x3).bind fun v21 =>
      if v21 = x2 then
        ((rd tM σ 27 x3).bind fun v22 =>
        if v22 = 0 then
          some (x3, σ)
        else
          ((rd tM σ 25 x3).bind fun v23 =>
          (rd tM σ 26 x3).bind fun v24 =>
          (f_X11_works v23 v24 x1 σ).bind fun u25 =>
          bnd (if u25.1 = 1 then 1 else 0 : Int32) fun v26 =>
          (rd tM u25.2 27 x3).bind fun v27 =>
          bnd (if v27 = 1 then 1 else 0 : Int32) fun v28 =>
          if v26 = v28 then
            some (x3, u25.2)
          else
            f_X11_clauseOf_89 x1 x2 x3 u25.2 (f_X11_clauseOf_5 x1 x2 n)))
      else
        f_X11_clauseOf_89 x1 x2 x3 σ (f_X11_clauseOf_5 x1 x2 n))
def f_X11_clauseOf (x1 : Int32) (x2 : Int32) (σ : St) : Option (Int32 × St) :=
  bnd (12 * x1 : Int32) fun v19 =>
  f_X11_clauseOf_5 x1 x2 FU v19 σ
def f_X11_telling_89 (x1 : Int32) (x2 : Int32) (x3 : Int32) (x4 : Int32) (x5 : Int32) (x6 : Int32) (σ : St) (k9 : Int32 → Int32 → Int32 → St → Option (Int32 × St)) : Option (Int32 × St) :=
  bnd (x6 + 1 : Int32) fun v18 =>
  k9 x4 x5 v18 σ
def f_X11_telling_64 (x1 : Int32) (x2 : Int32) (x3 : Int32) (x4 : Int32) (x5 : Int32) (x6 : Int32) (σ : St) (k9 : Int32 → Int32 → Int32 → St → Option (Int32 × St)) : Option (Int32 × St) :=
  (f_X11_clauseOf x6 x2 σ).bind fun u17 =>
  if 0 ≤ u17.1 then
    f_X11_telling_89 x1 x2 x3 x6 u17.1 x6 u17.2 k9
  else
    f_X11_telling_89 x1 x2 x3 x4 x5 x6 u17.2 k9
def f_X11_telling_9 (x1 : Int32) (x2 : Int32) (x3 : Int32) : Nat → Int32 → Int32 → Int32 → St → Option (Int32 × St)
  | 0, _, _, _, _ => none
  | n + 1, x4, x5, x6, σ =>
    if (gF σ 25) ≤ x6 then
      some (x5, σ)
    else
      ((rd tM σ 19 x6).bind fun v13 =>
      if v13 = x1 then
        ((f_X11_isInForce x6 x3 σ).bind fun v14 =>
        if v14 = 0 then
          f_X11_telling_89 x1 x2 x3 x4 x5 x6 σ (f_X11_telling_9 x1 x2 x3 n)
        else
          (if x4 < 0 then
            f_X11_telling_64 x1 x2 x3 x4 x5 x6 σ (f_X11_telling_9 x1 x2 x3 n)
          else
            ((rd tM σ 20 x6).bind fun v15 =>
            (rd tM σ 20 x4).bind fun v16 =>
            if v16 ≤ v15 then
              f_X11_telling_64 x1 x2 x3 x4 x5 x6 σ (f_X11_telling_9 x1 x2 x3 n)
            else
              f_X11_telling_89 x1 x2 x3 x4 x5 x6 σ (f_X11_telling_9 x1 x2 x3 n))))
      else
        f_X11_telling_89 x1 x2 x3 x4 x5 x6 σ (f_X11_telling_9 x1 x2 x3 n))
def f_X11_telling (x1 : Int32) (x2 : Int32) (x3 : Int32) (σ : St) : Option (Int32 × St) :=
  f_X11_telling_9 x1 x2 x3 FU (-1) (-1) 0 σ
def f_X11_reachOf (x1 : Int32) (x2 : Int32) (σ : St) : Option (Int32 × St) :=
  (f_X11_asks x2 (-1) (-1) (-1) 0 σ).bind fun σ11 =>
  (f_X11_telling x1 0 x2 σ11).bind fun u12 =>
  if 0 ≤ u12.1 then
    ((rd tM u12.2 24 u12.1).bind fun v13 =>
    (rd tM u12.2 25 u12.1).bind fun v14 =>
    (f_X11_works v13 v14 (u12.1 / 12) u12.2).bind fun u15 =>
    if 0 ≤ u15.1 then
      (if u15.1 ≤ 40 then
        some (u15.1.toInt32, u15.2)
      else
        some (40, u15.2))
    else
      some (0, u15.2))
  else
    some (3, u12.2)
def f_X11_reach_23 (σ : St) : Option (Int32 × St) :=
  some ((-1), σ)
def f_X11_reach (x1 : Int32) (x2 : Int32) (σ : St) : Option (Int32 × St) :=
  if (f_X11_isSide x1) = 0 then
    f_X11_reach_23 σ
  else
    (if (f_X11_isMinute x2) = 0 then
      f_X11_reach_23 σ
    else
      ((f_X11_reachOf x1 x2 σ).bind fun u3 =>
      some (u3.1, u3.2)))
def f_X11_within (x1 : Int32) (x2 : Int32) (x3 : Int32) (x4 : Int32) (x5 : Int32) (σ : St) : Option (Int32 × St) :=
  if (f_X11_isSide x1) = 0 then
    some ((-1), σ)
  else
    (if (f_X11_in x2.toInt64 0 1) = 0 then
      some ((-1), σ)
    else
      (if (f_X11_isCell x3 x4) = 0 then
        some ((-1), σ)
      else
        (if (f_X11_isMinute x5) = 0 then
          some ((-1), σ)
        else
          ((f_X11_reachOf x1 x5 σ).bind fun u5 =>
          (f_X11_isNear x1 x2 x3 x4 u5.1 u5.2).bind fun v6 =>
          bnd (if v6 = 0 then 0 else 1 : Int32) fun v7 =>
          some (v7, u5.2)))))
def f_X11_inside_120 (x1 : Int32) (x2 : Int32) (x3 : Int32) (x4 : Int32) (x5 : Int32) (x6 : Int64) (x8 : Int32) (σ : St) (k50 : Int64 → Int32 → Option (Int64 × St)) : Option (Int64 × St) :=
  bnd (x8 + 1 : Int32) fun v18 =>
  k50 x6 v18
def f_X11_inside_83 (x1 : Int32) (x2 : Int32) (x3 : Int32) (x4 : Int32) (x5 : Int32) (x6 : Int64) (x8 : Int32) (y0 : Int32) (σ : St) (k50 : Int64 → Int32 → Option (Int64 × St)) : Option (Int64 × St) :=
  if y0 < 0 then
    f_X11_inside_120 x1 x2 x3 x4 x5 x6 x8 σ k50
  else
    ((f_X11_isNear x1 x2 (y0 - y0 / 24 * 24) (y0 / 24) x5 σ).bind fun v16 =>
    if v16 = 0 then
      f_X11_inside_120 x1 x2 x3 x4 x5 x6 x8 σ k50
    else
      (bnd (x6 ||| (lshl_ 1 x8) : Int64) fun v17 =>
      f_X11_inside_120 x1 x2 x3 x4 x5 v17 x8 σ k50))
def f_X11_inside_50 (x1 : Int32) (x2 : Int32) (x3 : Int32) (x4 : Int32) (x5 : Int32) (σ : St) : Nat → Int64 → Int32 → Option (Int64 × St)
  | 0, _, _ => none
  | n + 1, x6, x8 =>
    if (gF σ 2) ≤ x8 then
      some (x6, σ)
    else
      ((rd tM σ 2 x8).bind fun v14 =>
      if v14 = x1 then
        f_X11_inside_83 x1 x2 x3 x4 x5 x6 x8 (-1) σ (f_X11_inside_50 x1 x2 x3 x4 x5 σ n)
      else
        ((f_X11_whereIs x8 x3 x4 σ).bind fun v15 =>
        f_X11_inside_83 x1 x2 x3 x4 x5 x6 x8 v15 σ (f_X11_inside_50 x1 x2 x3 x4 x5 σ n)))
def f_X11_inside (x1 : Int32) (x2 : Int32) (x3 : Int32) (x4 : Int32) (σ : St) : Option (Int64 × St) :=
  if (f_X11_isSide x1) = 0 then
    some ((-1), σ)
  else
    (if (f_X11_in x2.toInt64 0 1) = 0 then
      some ((-1), σ)
    else
      (if (f_X11_isMinute x3) = 0 then
        some ((-1), σ)
      else
        (if (f_X11_isMinute x4) = 0 then
          some ((-1), σ)
        else
          ((f_X11_reachOf x1 x3 σ).bind fun u13 =>
          f_X11_inside_50 x1 x2 x3 x4 u13.1 u13.2 FU 0 0))))
def f_X11_beside_95 (x1 : Int32) (x2 : Int32) (x3 : Int32) (x4 : Int32) (σ : St) (k26 : Int32 → Int32 → Option (Int32)) : Option (Int32) :=
  bnd (x4 + 1 : Int32) fun v27 =>
  k26 x3 v27
def f_X11_beside_26 (x1 : Int32) (x2 : Int32) (σ : St) : Nat → Int32 → Int32 → Option (Int32)
  | 0, _, _ => none
  | n + 1, x3, x4 =>
    if (gF σ 7) ≤ x4 then
      some x3
    else
      ((rd tM σ 6 x4).bind fun v19 =>
      (rd tM σ 7 x4).bind fun v20 =>
      if v19 = v20 then
        ((rd tM σ 7 x4).bind fun v21 =>
        (rd tM σ 2 v21).bind fun v22 =>
        if v22 = x1 then
          f_X11_beside_95 x1 x2 x3 x4 σ (f_X11_beside_26 x1 x2 σ n)
        else
          ((rd tM σ 9 x4).bind fun v23 =>
          (rd tM σ 10 x4).bind fun v24 =>
          (f_X11_isNear x1 0 v23 v24 x2 σ).bind fun v25 =>
          if v25 = 0 then
            f_X11_beside_95 x1 x2 x3 x4 σ (f_X11_beside_26 x1 x2 σ n)
          else
            (bnd (x3 + 1 : Int32) fun v26 =>
            f_X11_beside_95 x1 x2 v26 x4 σ (f_X11_beside_26 x1 x2 σ n))))
      else
        f_X11_beside_95 x1 x2 x3 x4 σ (f_X11_beside_26 x1 x2 σ n))
def f_X11_beside (x1 : Int32) (x2 : Int32) (σ : St) : Option (Int32) :=
  if (f_X11_isSide x1) = 0 then
    some (-1)
  else
    (if (f_X11_in x2.toInt64 0 40) = 0 then
      some (-1)
    else
      f_X11_beside_26 x1 x2 σ FU 0 0)
def f_X11_four_3 (x1 : Int32) : Nat → Int32 → St → Option (St)
  | 0, _, _ => none
  | n + 1, x2, σ =>
    if x2 < 0 then
      some σ
    else
      ((wr tM σ 18 (gF σ 24) (vp_nar .byte ((x1 >>> (x2 &&& 31)).toInt8.toInt32))).bind fun σ7 =>
      bnd (sF σ7 24 ((gF σ7 24) + 1)) fun σ8 =>
      bnd (x2 + (-8) : Int32) fun v9 =>
      f_X11_four_3 x1 n v9 σ8)
def f_X11_four (x1 : Int32) (σ : St) : Option (St) :=
  f_X11_four_3 x1 FU 24 σ
def f_X11_feed (x1 : Int32) (x2 : Int32) (x3 : Int32) (x4 : Int32) (x5 : Int32) (σ : St) : Option (Int32 × St) :=
  if ((gF σ 24) + 20) ≤ 400 then
    ((f_X11_four x1 σ).bind fun σ11 =>
    (f_X11_four x2 σ11).bind fun σ12 =>
    (f_X11_four x3 σ12).bind fun σ13 =>
    (f_X11_four x4 σ13).bind fun σ14 =>
    (f_X11_four x5 σ14).bind fun σ15 =>
    some (gF σ15 24, σ15))
  else
    some ((-1), σ)
def f_X11_end (x1 : Int32) (σ : St) : Option (Int32 × St) :=
  if x1 < 0 then
    some ((-1), σ)
  else
    (if x1 ≤ (gF σ 24) then
      (bnd (sF σ 24 x1) fun σ3 =>
      some (x1, σ3))
    else
      some ((-1), σ))
def f_X11_fails (x1 : Int32) (x2 : Int32) (σ : St) : Option (Int32 × St) :=
  if (gF σ 39) = 0 then
    (bnd (sF σ 39 ((1 + (8 * x2)) + x1)) fun σ3 =>
    some (0, σ3))
  else
    some (0, σ)
def f_X11_see_38 (σ : St) : Option (Int32 × St) :=
  if (gF σ 24) ≤ (gF σ 38) then
    some ((-1), σ)
  else
    ((rd tM σ 18 (gF σ 38)).bind fun v9 =>
    some (v9 &&& 255, σ))
def f_X11_see_0 : Nat → St → Option (Int32 × St)
  | 0, _ => none
  | n + 1, σ =>
    if (gF σ 24) ≤ (gF σ 38) then
      f_X11_see_38 σ
    else
      ((rd tM σ 18 (gF σ 38)).bind fun v7 =>
      if v7 = 32 then
        (bnd (sF σ 38 ((gF σ 38) + 1)) fun σ8 =>
        f_X11_see_0 n σ8)
      else
        f_X11_see_38 σ)
def f_X11_see (σ : St) : Option (Int32 × St) := f_X11_see_0 FU σ
def f_X11_isDigit_43 (σ : St) : Option (Int32) :=
  some 0
def f_X11_isDigit (σ : St) : Option (Int32) :=
  if (gF σ 24) ≤ (gF σ 38) then
    f_X11_isDigit_43 σ
  else
    ((rd tM σ 18 (gF σ 38)).bind fun v5 =>
    if v5 < 48 then
      f_X11_isDigit_43 σ
    else
      ((rd tM σ 18 (gF σ 38)).bind fun v6 =>
      if 57 < v6 then
        f_X11_isDigit_43 σ
      else
        some 1))
def f_X11_number_64 (x1 : Int32) (x2 : Int32) (σ : St) (k29 : Int32 → St → Option (Int32 × St)) : Option (Int32 × St) :=
  bnd (sF σ 38 ((gF σ 38) + 1)) fun σ28 =>
  k29 x2 σ28
def f_X11_number_101 (σ : St) : Option (Int32 × St) :=
  some (1, σ)
def f_X11_number_77 (x1 : Int32) (x2 : Int32) (σ : St) : Option (Int32 × St) :=
  bnd (sF σ 40 x2) fun σ29 =>
  if ((gF σ29 38) - x1) ≤ 5 then
    f_X11_number_101 σ29
  else
    ((f_X11_fails 1 x1 σ29).bind fun u30 =>
    if u30.1 = 0 then
      some (0, u30.2)
    else
      f_X11_number_101 u30.2)
def f_X11_number_29 (x1 : Int32) : Nat → Int32 → St → Option (Int32 × St)
  | 0, _, _ => none
  | n + 1, x2, σ =>
    (f_X11_isDigit σ).bind fun v25 =>
    if v25 = 0 then
      f_X11_number_77 x1 x2 σ
    else
      (if 5 ≤ ((gF σ 38) - x1) then
        f_X11_number_64 x1 x2 σ (f_X11_number_29 x1 n)
      else
        ((rd tM σ 18 (gF σ 38)).bind fun v26 =>
        bnd (((10 * x2) + v26) - 48 : Int32) fun v27 =>
        f_X11_number_64 x1 v27 σ (f_X11_number_29 x1 n)))
def f_X11_number (σ : St) : Option (Int32 × St) :=
  (f_X11_see σ).bind fun u21 =>
  (f_X11_isDigit u21.2).bind fun v22 =>
  if v22 = 0 then
    ((f_X11_fails 0 (gF u21.2 38) u21.2).bind fun u24 =>
    some (vp_nar .boolean u24.1, u24.2))
  else
    (bnd (gF u21.2 38 : Int32) fun v23 =>
    f_X11_number_29 v23 FU 0 u21.2)
def f_X11_isWord_84 (x1 : Int64) (x3 : Int64) (x5 : Int32) (σ : St) (k10 : Int64 → Int32 → Option (Int32 × St)) : Option (Int32 × St) :=
  bnd (x5 + 1 : Int32) fun v18 =>
  k10 x3 v18
def f_X11_isWord_112 (σ : St) : Option (Int32 × St) :=
  some (0, σ)
def f_X11_isWord_90 (x1 : Int64) (x3 : Int64) (x5 : Int32) (σ : St) : Option (Int32 × St) :=
  if x5 ≤ 0 then
    f_X11_isWord_112 σ
  else
    (if 8 ≤ x5 then
      f_X11_isWord_112 σ
    else
      (if x3 = x1 then
        some (1, σ)
      else
        f_X11_isWord_112 σ))
def f_X11_isWord_10 (x1 : Int64) (σ : St) : Nat → Int64 → Int32 → Option (Int32 × St)
  | 0, _, _ => none
  | n + 1, x3, x5 =>
    if (gF σ 24) ≤ ((gF σ 38) + x5) then
      f_X11_isWord_90 x1 x3 x5 σ
    else
      ((rd tM σ 18 ((gF σ 38) + x5)).bind fun v14 =>
      if v14 < 97 then
        f_X11_isWord_90 x1 x3 x5 σ
      else
        ((rd tM σ 18 ((gF σ 38) + x5)).bind fun v15 =>
        if 122 < v15 then
          f_X11_isWord_90 x1 x3 x5 σ
        else
          (if 7 ≤ x5 then
            f_X11_isWord_84 x1 x3 x5 σ (f_X11_isWord_10 x1 σ n)
          else
            ((rd tM σ 18 ((gF σ 38) + x5)).bind fun v16 =>
            bnd ((lshl_ x3 8) ||| v16.toInt64 : Int64) fun v17 =>
            f_X11_isWord_84 x1 v17 x5 σ (f_X11_isWord_10 x1 σ n)))))
def f_X11_isWord (x1 : Int64) (σ : St) : Option (Int32 × St) :=
  (f_X11_see σ).bind fun u13 =>
  f_X11_isWord_10 x1 u13.2 FU 0 0
def f_X11_skips_0 : Nat → St → Option (St)
  | 0, _ => none
  | n + 1, σ =>
    if (gF σ 24) ≤ (gF σ 38) then
      some σ
    else
      ((rd tM σ 18 (gF σ 38)).bind fun v7 =>
      if v7 < 97 then
        some σ
      else
        ((rd tM σ 18 (gF σ 38)).bind fun v8 =>
        if 122 < v8 then
          some σ
        else
          (bnd (sF σ 38 ((gF σ 38) + 1)) fun σ9 =>
          f_X11_skips_0 n σ9)))
def f_X11_skips (σ : St) : Option (St) := f_X11_skips_0 FU σ
def f_X11_takesWord (x1 : Int64) (σ : St) : Option (Int32 × St) :=
  (f_X11_isWord x1 σ).bind fun u5 =>
  if u5.1 = 0 then
    some (0, u5.2)
  else
    ((f_X11_skips u5.2).bind fun σ6 =>
    some (1, σ6))
def f_X11_lays (x1 : Int32) (x2 : Int32) (σ : St) : Option (St) :=
  (wr tM σ 28 ((420 * (gF σ 25)) + (gF σ 35)) x1).bind fun σ4 =>
  (wr tM σ4 29 ((420 * (gF σ4 25)) + (gF σ4 35)) x2).bind fun σ5 =>
  bnd (sF σ5 35 ((gF σ5 35) + 1)) fun σ6 =>
  some σ6
def f_X11_waits (x1 : Int32) (σ : St) : Option (St) :=
  (wr tM σ 30 (gF σ 43) x1).bind fun σ3 =>
  bnd (sF σ3 43 ((gF σ3 43) + 1)) fun σ4 =>
  some σ4
def f_X11_pops (σ : St) : Option (St) :=
  bnd (sF σ 43 ((gF σ 43) - 1)) fun σ4 =>
  (rd tM σ4 30 (gF σ4 43)).bind fun v5 =>
  (f_X11_lays v5 0 σ4).bind fun σ6 =>
  some σ6
def f_X11_opens (x1 : Int32) (σ : St) : Option (Int32 × St) :=
  if (gF σ 41) = 10 then
    ((f_X11_fails 2 x1 σ).bind fun u6 =>
    some (vp_nar .boolean u6.1, u6.2))
  else
    (bnd (sF σ 41 ((gF σ 41) + 1)) fun σ5 =>
    some (1, σ5))
def f_X11_makes (x1 : Int32) (σ : St) : Option (Int32 × St) :=
  if (gF σ 42) = 80 then
    ((f_X11_fails 3 x1 σ).bind fun u6 =>
    some (vp_nar .boolean u6.1, u6.2))
  else
    (bnd (sF σ 42 ((gF σ 42) + 1)) fun σ5 =>
    some (1, σ5))
def f_X11_isTop_27 (σ : St) : Option (Int32) :=
  some 0
def f_X11_isTop (x1 : Int32) (x2 : Int32) (σ : St) : Option (Int32) :=
  if (gF σ 43) ≤ x1 then
    f_X11_isTop_27 σ
  else
    ((rd tM σ 30 ((gF σ 43) - 1)).bind fun v3 =>
    if v3 = x2 then
      some 1
    else
      f_X11_isTop_27 σ)
def f_X11_has_2 (x2 : Int32) (σ : St) : Nat → Int32 → Option (Int32)
  | 0, _ => none
  | n + 1, x3 =>
    if (gF σ 43) ≤ x3 then
      some 0
    else
      ((rd tM σ 30 x3).bind fun v5 =>
      if v5 = x2 then
        some 1
      else
        (bnd (x3 + 1 : Int32) fun v6 =>
        f_X11_has_2 x2 σ n v6))
def f_X11_has (x1 : Int32) (x2 : Int32) (σ : St) : Option (Int32) :=
  f_X11_has_2 x2 σ FU x1
def f_X11_begins_111 (x2 : Int32) (x3 : Int32) (σ : St) : Option (Int32 × St) :=
  (f_X11_makes x2 σ).bind fun u48 =>
  if u48.1 = 0 then
    some ((-1), u48.2)
  else
    ((f_X11_skips u48.2).bind fun σ49 =>
    (f_X11_lays 1 x3 σ49).bind fun σ50 =>
    some (1, σ50))
def f_X11_begins_139 (x2 : Int32) (σ : St) : Option (Int32 × St) :=
  (f_X11_fails 0 x2 σ).bind fun u51 =>
  some ((-1), u51.2)
def f_X11_begins_89 (x2 : Int32) : Nat → Int32 → St → Option (Int32 × St)
  | 0, _, _ => none
  | n + 1, x3, σ =>
    if 9 ≤ x3 then
      f_X11_begins_139 x2 σ
    else
      ((rl tM σ 31 x3).bind fun v45 =>
      (f_X11_isWord v45 σ).bind fun u46 =>
      if u46.1 = 0 then
        (bnd (x3 + 1 : Int32) fun v47 =>
        f_X11_begins_89 x2 n v47 u46.2)
      else
        f_X11_begins_111 x2 x3 u46.2)
def f_X11_begins (σ : St) : Option (Int32 × St) :=
  (f_X11_see σ).bind fun u35 =>
  bnd (gF u35.2 38 : Int32) fun v36 =>
  (f_X11_isDigit u35.2).bind fun v37 =>
  if v37 = 0 then
    (if u35.1 = 40 then
      ((f_X11_opens v36 u35.2).bind fun u38 =>
      if u38.1 = 0 then
        some ((-1), u38.2)
      else
        ((f_X11_makes v36 u38.2).bind fun u39 =>
        if u39.1 = 0 then
          some ((-1), u39.2)
        else
          ((f_X11_waits 13 u39.2).bind fun σ40 =>
          bnd (sF σ40 38 ((gF σ40 38) + 1)) fun σ41 =>
          some (0, σ41))))
    else
      f_X11_begins_89 v36 FU 0 u35.2)
  else
    ((f_X11_number u35.2).bind fun u42 =>
    if u42.1 = 0 then
      some ((-1), u42.2)
    else
      ((f_X11_makes v36 u42.2).bind fun u43 =>
      if u43.1 = 0 then
        some ((-1), u43.2)
      else
        ((f_X11_lays 0 (gF u43.2 40) u43.2).bind fun σ44 =>
        some (1, σ44))))
def f_X11_endsSum_18 (σ : St) : Option (St) :=
  (f_X11_pops σ).bind fun σ9 =>
  some σ9
def f_X11_endsSum (x1 : Int32) (σ : St) : Option (St) :=
  (f_X11_isTop x1 3 σ).bind fun v7 =>
  if v7 = 0 then
    ((f_X11_isTop x1 4 σ).bind fun v8 =>
    if v8 = 0 then
      some σ
    else
      f_X11_endsSum_18 σ)
  else
    f_X11_endsSum_18 σ
def f_X11_sum_157 (x1 : Int32) (σ : St) (k5 : St → Option (Int32 × St)) : Option (Int32 × St) :=
  bnd (sF σ 38 ((gF σ 38) + 1)) fun σ58 =>
  k5 σ58
def f_X11_sum_137 (x1 : Int32) (x3 : Int32) (σ : St) (k5 : St → Option (Int32 × St)) : Option (Int32 × St) :=
  (f_X11_endsSum x1 σ).bind fun σ55 =>
  bnd (if x3 = 43 then 3 else 4 : Int32) fun v56 =>
  (f_X11_waits v56 σ55).bind fun σ57 =>
  f_X11_sum_157 x1 σ57 k5
def f_X11_sum_170 (x1 : Int32) (σ : St) : Option (Int32 × St) :=
  (f_X11_has x1 13 σ).bind fun v59 =>
  if v59 = 0 then
    ((f_X11_endsSum x1 σ).bind fun σ60 =>
    some (1, σ60))
  else
    ((f_X11_fails 0 (gF σ 38) σ).bind fun u61 =>
    some (vp_nar .boolean u61.1, u61.2))
def f_X11_sum_106 (x1 : Int32) (σ : St) (k5 : St → Option (Int32 × St)) : Option (Int32 × St) :=
  (f_X11_see σ).bind fun u53 =>
  if u53.1 = 42 then
    ((f_X11_waits 2 u53.2).bind fun σ54 =>
    f_X11_sum_157 x1 σ54 k5)
  else
    (if u53.1 = 43 then
      f_X11_sum_137 x1 u53.1 u53.2 k5
    else
      (if u53.1 = 45 then
        f_X11_sum_137 x1 u53.1 u53.2 k5
      else
        f_X11_sum_170 x1 u53.2))
def f_X11_sum_36 (x1 : Int32) (k5 : St → Option (Int32 × St)) : Nat → St → Option (Int32 × St)
  | 0, _ => none
  | n + 1, σ =>
    (f_X11_see σ).bind fun u45 =>
    if u45.1 = 41 then
      ((f_X11_has x1 13 u45.2).bind fun v46 =>
      if v46 = 0 then
        f_X11_sum_106 x1 u45.2 k5
      else
        ((f_X11_endsSum x1 u45.2).bind fun σ47 =>
        bnd (sF σ47 43 ((gF σ47 43) - 1)) fun σ48 =>
        bnd (sF σ48 41 ((gF σ48 41) - 1)) fun σ49 =>
        bnd (sF σ49 38 ((gF σ49 38) + 1)) fun σ50 =>
        (f_X11_isTop x1 2 σ50).bind fun v51 =>
        if v51 = 0 then
          f_X11_sum_36 x1 k5 n σ50
        else
          ((f_X11_pops σ50).bind fun σ52 =>
          f_X11_sum_36 x1 k5 n σ52)))
    else
      f_X11_sum_106 x1 u45.2 k5
def f_X11_sum_5 (x1 : Int32) : Nat → St → Option (Int32 × St)
  | 0, _ => none
  | n + 1, σ =>
    (f_X11_begins σ).bind fun u42 =>
    if 0 ≤ u42.1 then
      (if u42.1 = 0 then
        f_X11_sum_5 x1 n u42.2
      else
        ((f_X11_isTop x1 2 u42.2).bind fun v43 =>
        if v43 = 0 then
          f_X11_sum_36 x1 (f_X11_sum_5 x1 n) FU u42.2
        else
          ((f_X11_pops u42.2).bind fun σ44 =>
          f_X11_sum_36 x1 (f_X11_sum_5 x1 n) FU σ44)))
    else
      some (0, u42.2)
def f_X11_sum (σ : St) : Option (Int32 × St) :=
  bnd (gF σ 43 : Int32) fun v41 =>
  f_X11_sum_5 v41 FU σ
def f_X11_fact_152 (y0 : Int32) (σ : St) : Option (Int32 × St) :=
  (f_X11_sum σ).bind fun u29 =>
  if u29.1 = 0 then
    some (0, u29.2)
  else
    ((f_X11_lays (5 + y0) 0 u29.2).bind fun σ30 =>
    some (1, σ30))
def f_X11_fact_115 (x1 : Int32) (x3 : Int32) (σ : St) : Option (Int32 × St) :=
  if x1 = 61 then
    f_X11_fact_152 2 σ
  else
    (if x1 = 60 then
      (if x3 = 0 then
        f_X11_fact_152 0 σ
      else
        f_X11_fact_152 1 σ)
    else
      (if x3 = 0 then
        f_X11_fact_152 4 σ
      else
        f_X11_fact_152 3 σ))
def f_X11_fact_100 (x1 : Int32) (y0 : Int32) (σ : St) : Option (Int32 × St) :=
  if y0 = 0 then
    f_X11_fact_115 x1 y0 σ
  else
    (bnd (sF σ 38 ((gF σ 38) + 1)) fun σ28 =>
    f_X11_fact_115 x1 y0 σ28)
def f_X11_fact_99 (x1 : Int32) (σ : St) : Option (Int32 × St) :=
  f_X11_fact_100 x1 0 σ
def f_X11_fact_44 (x1 : Int32) (x2 : Int32) (σ : St) : Option (Int32 × St) :=
  (f_X11_makes x2 σ).bind fun u25 =>
  if u25.1 = 0 then
    some (0, u25.2)
  else
    (bnd (sF u25.2 38 ((gF u25.2 38) + 1)) fun σ26 =>
    if x1 = 61 then
      f_X11_fact_99 x1 σ26
    else
      (if (gF σ26 24) ≤ (gF σ26 38) then
        f_X11_fact_99 x1 σ26
      else
        ((rd tM σ26 18 (gF σ26 38)).bind fun v27 =>
        if v27 = 61 then
          f_X11_fact_100 x1 1 σ26
        else
          f_X11_fact_99 x1 σ26)))
def f_X11_fact (σ : St) : Option (Int32 × St) :=
  (f_X11_sum σ).bind fun u21 =>
  if u21.1 = 0 then
    some (0, u21.2)
  else
    ((f_X11_see u21.2).bind fun u22 =>
    bnd (gF u22.2 38 : Int32) fun v23 =>
    if u22.1 = 60 then
      f_X11_fact_44 u22.1 v23 u22.2
    else
      (if u22.1 = 61 then
        f_X11_fact_44 u22.1 v23 u22.2
      else
        (if u22.1 = 62 then
          f_X11_fact_44 u22.1 v23 u22.2
        else
          ((f_X11_fails 0 v23 u22.2).bind fun u24 =>
          some (vp_nar .boolean u24.1, u24.2)))))
def f_X11_endedFact_0 (x1 : Int32) : Nat → St → Option (St)
  | 0, _ => none
  | n + 1, σ =>
    (f_X11_isTop x1 10 σ).bind fun v7 =>
    if v7 = 0 then
      some σ
    else
      ((f_X11_pops σ).bind fun σ8 =>
      bnd (sF σ8 41 ((gF σ8 41) - 1)) fun σ9 =>
      f_X11_endedFact_0 x1 n σ9)
def f_X11_endedFact (x1 : Int32) (σ : St) : Option (St) := f_X11_endedFact_0 x1 FU σ
def f_X11_test_28 (x1 : Int32) (x3 : Int32) (σ : St) (k5 : St → Option (Int32 × St)) : Option (Int32 × St) :=
  (f_X11_opens (gF σ 38) σ).bind fun u58 =>
  if u58.1 = 0 then
    some (0, u58.2)
  else
    (bnd (if x3 = 0 then 14 else 10 : Int32) fun v59 =>
    (f_X11_waits v59 u58.2).bind fun σ60 =>
    bnd (if x3 = 0 then 1 else 2 : Int32) fun v61 =>
    bnd (sF σ60 38 ((gF σ60 38) + v61)) fun σ62 =>
    k5 σ62)
def f_X11_test_127 (x1 : Int32) (σ : St) (k91 : St → Option (Int32 × St)) (k5 : St → Option (Int32 × St)) : Option (Int32 × St) :=
  bnd (sF σ 43 ((gF σ 43) - 1)) fun σ67 =>
  bnd (sF σ67 41 ((gF σ67 41) - 1)) fun σ68 =>
  bnd (sF σ68 38 ((gF σ68 38) + 1)) fun σ69 =>
  (f_X11_endedFact x1 σ69).bind fun σ70 =>
  k91 σ70
def f_X11_test_110 (x1 : Int32) (k91 : St → Option (Int32 × St)) (k5 : St → Option (Int32 × St)) : Nat → St → Option (Int32 × St)
  | 0, _ => none
  | n + 1, σ =>
    (f_X11_isTop x1 14 σ).bind fun v65 =>
    if v65 = 0 then
      ((f_X11_pops σ).bind fun σ66 =>
      f_X11_test_110 x1 k91 k5 n σ66)
    else
      f_X11_test_127 x1 σ k91 k5
def f_X11_test_267 (x1 : Int32) : Nat → St → Option (Int32 × St)
  | 0, _ => none
  | n + 1, σ =>
    if (gF σ 43) ≤ x1 then
      some (1, σ)
    else
      ((f_X11_pops σ).bind fun σ81 =>
      f_X11_test_267 x1 n σ81)
def f_X11_test_189 (x1 : Int32) (σ : St) : Option (Int32 × St) :=
  (f_X11_has x1 14 σ).bind fun v73 =>
  if v73 = 0 then
    f_X11_test_267 x1 FU σ
  else
    ((f_X11_fails 0 (gF σ 38) σ).bind fun u74 =>
    some (vp_nar .boolean u74.1, u74.2))
def f_X11_test_221 (x1 : Int32) (x4 : Int32) (σ : St) (k196 : St → Option (Int32 × St)) (k5 : St → Option (Int32 × St)) : Option (Int32 × St) :=
  (f_X11_pops σ).bind fun σ78 =>
  k196 σ78
def f_X11_test_228 (x1 : Int32) (x4 : Int32) (σ : St) (k5 : St → Option (Int32 × St)) : Option (Int32 × St) :=
  bnd (if x4 = 0 then 12 else 11 : Int32) fun v79 =>
  (f_X11_waits v79 σ).bind fun σ80 =>
  k5 σ80
def f_X11_test_196 (x1 : Int32) (x4 : Int32) (k5 : St → Option (Int32 × St)) : Nat → St → Option (Int32 × St)
  | 0, _ => none
  | n + 1, σ =>
    (f_X11_isTop x1 11 σ).bind fun v76 =>
    if v76 = 0 then
      (if x4 = 0 then
        ((f_X11_isTop x1 12 σ).bind fun v77 =>
        if v77 = 0 then
          f_X11_test_228 x1 x4 σ k5
        else
          f_X11_test_221 x1 x4 σ (f_X11_test_196 x1 x4 k5 n) k5)
      else
        f_X11_test_228 x1 x4 σ k5)
    else
      f_X11_test_221 x1 x4 σ (f_X11_test_196 x1 x4 k5 n) k5
def f_X11_test_192 (x1 : Int32) (x4 : Int32) (σ : St) (k5 : St → Option (Int32 × St)) : Option (Int32 × St) :=
  (f_X11_skips σ).bind fun σ75 =>
  f_X11_test_196 x1 x4 k5 FU σ75
def f_X11_test_165 (x1 : Int32) (σ : St) (k5 : St → Option (Int32 × St)) : Option (Int32 × St) :=
  (f_X11_isWord 6385252 σ).bind fun u71 =>
  if u71.1 = 0 then
    ((f_X11_isWord 28530 u71.2).bind fun u72 =>
    if u72.1 = 0 then
      f_X11_test_189 x1 u72.2
    else
      f_X11_test_192 x1 u71.1 u72.2 k5)
  else
    f_X11_test_192 x1 u71.1 u71.2 k5
def f_X11_test_91 (x1 : Int32) (k5 : St → Option (Int32 × St)) : Nat → St → Option (Int32 × St)
  | 0, _ => none
  | n + 1, σ =>
    (f_X11_see σ).bind fun u63 =>
    if u63.1 = 93 then
      ((f_X11_has x1 14 u63.2).bind fun v64 =>
      if v64 = 0 then
        f_X11_test_165 x1 u63.2 k5
      else
        f_X11_test_110 x1 (f_X11_test_91 x1 k5 n) k5 FU u63.2)
    else
      f_X11_test_165 x1 u63.2 k5
def f_X11_test_5 (x1 : Int32) : Nat → St → Option (Int32 × St)
  | 0, _ => none
  | n + 1, σ =>
    (f_X11_see σ).bind fun u54 =>
    (f_X11_isWord 28271 u54.2).bind fun u55 =>
    if u55.1 = 0 then
      (if u54.1 = 91 then
        f_X11_test_28 x1 u55.1 u55.2 (f_X11_test_5 x1 n)
      else
        ((f_X11_fact u55.2).bind fun u56 =>
        if u56.1 = 0 then
          some (0, u56.2)
        else
          ((f_X11_endedFact x1 u56.2).bind fun σ57 =>
          f_X11_test_91 x1 (f_X11_test_5 x1 n) FU σ57)))
    else
      f_X11_test_28 x1 u55.1 u55.2 (f_X11_test_5 x1 n)
def f_X11_test (σ : St) : Option (Int32 × St) :=
  bnd (gF σ 43 : Int32) fun v53 =>
  f_X11_test_5 v53 FU σ
def f_X11_whatFollows_28 (x1 : Int32) (x2 : Int32) (σ : St) : Option (Int32 × St) :=
  (wr tM σ 22 x1 (2 + x2)).bind fun σ17 =>
  some (1, σ17)
def f_X11_whatFollows_45 (σ : St) : Option (Int32 × St) :=
  (f_X11_fails 0 (gF σ 38) σ).bind fun u18 =>
  some (vp_nar .boolean u18.1, u18.2)
def f_X11_whatFollows_7 (x1 : Int32) : Nat → Int32 → St → Option (Int32 × St)
  | 0, _, _ => none
  | n + 1, x2, σ =>
    if 5 ≤ x2 then
      f_X11_whatFollows_45 σ
    else
      ((rl tM σ 32 x2).bind fun v14 =>
      (f_X11_takesWord v14 σ).bind fun u15 =>
      if u15.1 = 0 then
        (bnd (x2 + 1 : Int32) fun v16 =>
        f_X11_whatFollows_7 x1 n v16 u15.2)
      else
        f_X11_whatFollows_28 x1 x2 u15.2)
def f_X11_whatFollows (x1 : Int32) (σ : St) : Option (Int32 × St) :=
  (f_X11_see σ).bind fun u13 =>
  f_X11_whatFollows_7 x1 FU 0 u13.2
def f_X11_clause_380 (x7 : Int32) (σ : St) : Option (Int32 × St) :=
  (wr tM σ 26 x7 (gF σ 35)).bind fun σ109 =>
  some (1, σ109)
def f_X11_clause_361 (x7 : Int32) (σ : St) : Option (Int32 × St) :=
  (rd tM σ 27 x7).bind fun v107 =>
  if v107 ≤ 0 then
    f_X11_clause_380 x7 σ
  else
    ((f_X11_test σ).bind fun u108 =>
    if u108.1 = 0 then
      some (0, u108.2)
    else
      f_X11_clause_380 x7 u108.2)
def f_X11_clause_360 (x7 : Int32) (y1 : Int32) (y2 : Int32) (σ : St) : Option (Int32 × St) :=
  (wr tM σ 27 y1 y2).bind fun σ106 =>
  f_X11_clause_361 x7 σ106
def f_X11_clause_302 (x7 : Int32) (σ : St) : Option (Int32 × St) :=
  (wr tM σ 25 x7 (gF σ 35)).bind fun σ102 =>
  (rd tM σ102 22 x7).bind fun v103 =>
  if v103 = 7 then
    f_X11_clause_361 x7 σ102
  else
    ((f_X11_takesWord 26982 σ102).bind fun u104 =>
    if u104.1 = 0 then
      ((f_X11_takesWord 129117125440371 u104.2).bind fun u105 =>
      if u105.1 = 0 then
        f_X11_clause_360 x7 x7 0 u105.2
      else
        f_X11_clause_360 x7 x7 2 u105.2)
    else
      f_X11_clause_360 x7 x7 1 u104.2)
def f_X11_clause_209 (x7 : Int32) (σ : St) : Option (Int32 × St) :=
  (f_X11_sum σ).bind fun u99 =>
  if u99.1 = 0 then
    some (0, u99.2)
  else
    f_X11_clause_302 x7 u99.2
def f_X11_clause_228 (x7 : Int32) (σ : St) : Option (Int32 × St) :=
  (f_X11_whatFollows x7 σ).bind fun u100 =>
  if u100.1 = 0 then
    some (0, u100.2)
  else
    f_X11_clause_302 x7 u100.2
def f_X11_clause_283 (x8 : Int32) (σ : St) : Option (Int32 × St) :=
  (f_X11_fails 1 x8 σ).bind fun u101 =>
  some (vp_nar .boolean u101.1, u101.2)
def f_X11_clause_163 (x1 : Int32) (x3 : Int32) (x4 : Int32) (x5 : Int32) (x6 : Int32) (x7 : Int32) (y1 : Int32) (y2 : Int32) (σ : St) : Option (Int32 × St) :=
  (wr tM σ 22 y1 y2).bind fun σ89 =>
  bnd (if x5 = 0 then 0 else 1 : Int32) fun v90 =>
  (wr tM σ89 23 x7 v90).bind fun σ91 =>
  (wr tM σ91 27 x7 0).bind fun σ92 =>
  (wr tM σ92 24 x7 (gF σ92 35)).bind fun σ93 =>
  if x3 = 0 then
    (if x4 = 0 then
      (if x5 = 0 then
        (if x6 = 0 then
          ((f_X11_see σ93).bind fun u94 =>
          bnd (gF u94.2 38 : Int32) fun v95 =>
          (f_X11_number u94.2).bind fun u96 =>
          if u96.1 = 0 then
            some (0, u96.2)
          else
            (if (gF u96.2 25) ≤ (gF u96.2 40) then
              f_X11_clause_283 v95 u96.2
            else
              ((rd tM u96.2 19 (gF u96.2 40)).bind fun v97 =>
              if v97 = x1 then
                ((wr tM u96.2 23 x7 (gF u96.2 40)).bind fun σ98 =>
                f_X11_clause_302 x7 σ98)
              else
                f_X11_clause_283 v95 u96.2)))
        else
          f_X11_clause_228 x7 σ93)
      else
        f_X11_clause_228 x7 σ93)
    else
      f_X11_clause_209 x7 σ93)
  else
    f_X11_clause_209 x7 σ93
def f_X11_clause_81 (x1 : Int32) (x2 : Int32) (x3 : Int32) (x4 : Int32) (x5 : Int32) (x6 : Int32) (σ : St) : Option (Int32 × St) :=
  (rd tM σ 21 (gF σ 25)).bind fun v81 =>
  if v81 = 12 then
    ((f_X11_fails 4 x2 σ).bind fun u88 =>
    some (vp_nar .boolean u88.1, u88.2))
  else
    ((rd tM σ 21 (gF σ 25)).bind fun v82 =>
    bnd ((12 * (gF σ 25)) + v82 : Int32) fun v83 =>
    bnd (gF σ 25 : Int32) fun v84 =>
    (rd tM σ 21 v84).bind fun v85 =>
    (wr tM σ 21 v84 (v85 + 1)).bind fun σ86 =>
    (f_X11_skips σ86).bind fun σ87 =>
    if x3 = 0 then
      (if x4 = 0 then
        f_X11_clause_163 x1 x3 x4 x5 x6 v83 v83 7 σ87
      else
        f_X11_clause_163 x1 x3 x4 x5 x6 v83 v83 1 σ87)
    else
      f_X11_clause_163 x1 x3 x4 x5 x6 v83 v83 0 σ87)
def f_X11_clause (x1 : Int32) (σ : St) : Option (Int32 × St) :=
  (f_X11_see σ).bind fun u73 =>
  bnd (gF u73.2 38 : Int32) fun v74 =>
  (f_X11_isWord 491327153000 u73.2).bind fun u75 =>
  (f_X11_isWord 1835365224 u75.2).bind fun u76 =>
  (f_X11_isWord 7168377 u76.2).bind fun u77 =>
  (f_X11_isWord 7237492 u77.2).bind fun u78 =>
  if u75.1 = 0 then
    (if u76.1 = 0 then
      (if u77.1 = 0 then
        (if u78.1 = 0 then
          ((f_X11_isWord 126943972911973 u78.2).bind fun u79 =>
          if u79.1 = 0 then
            ((f_X11_fails 0 v74 u79.2).bind fun u80 =>
            some (vp_nar .boolean u80.1, u80.2))
          else
            f_X11_clause_81 x1 v74 u75.1 u76.1 u77.1 u78.1 u79.2)
        else
          f_X11_clause_81 x1 v74 u75.1 u76.1 u77.1 u78.1 u78.2)
      else
        f_X11_clause_81 x1 v74 u75.1 u76.1 u77.1 u78.1 u78.2)
    else
      f_X11_clause_81 x1 v74 u75.1 u76.1 u77.1 u78.1 u78.2)
  else
    f_X11_clause_81 x1 v74 u75.1 u76.1 u77.1 u78.1 u78.2
def f_X11_text_68 (σ : St) : Option (Int32 × St) :=
  some (1, σ)
def f_X11_text_48 (σ : St) : Option (Int32 × St) :=
  (f_X11_see σ).bind fun u15 =>
  if u15.1 = (-1) then
    f_X11_text_68 u15.2
  else
    ((f_X11_fails 0 (gF u15.2 38) u15.2).bind fun u16 =>
    if u16.1 = 0 then
      some (0, u16.2)
    else
      f_X11_text_68 u16.2)
def f_X11_text_2 (x1 : Int32) : Nat → Int32 → St → Option (Int32 × St)
  | 0, _, _ => none
  | n + 1, x2, σ =>
    if x2 = 0 then
      f_X11_text_48 σ
    else
      ((f_X11_clause x1 σ).bind fun u11 =>
      if u11.1 = 0 then
        some (0, u11.2)
      else
        ((f_X11_see u11.2).bind fun u12 =>
        bnd (if u12.1 = 59 then 1 else 0 : Int32) fun v13 =>
        if v13 = 0 then
          f_X11_text_2 x1 n v13 u12.2
        else
          (bnd (sF u12.2 38 ((gF u12.2 38) + 1)) fun σ14 =>
          f_X11_text_2 x1 n v13 σ14)))
def f_X11_text (x1 : Int32) (σ : St) : Option (Int32 × St) :=
  f_X11_text_2 x1 FU 1 σ
def f_X11_statute (x1 : Int32) (x2 : Int32) (σ : St) : Option (Int32 × St) :=
  if (gF σ 25) = 12 then
    some ((-1), σ)
  else
    (if (f_X11_in x1.toInt64 0 2) = 0 then
      some ((-1), σ)
    else
      (if (f_X11_in x2.toInt64 ((gF σ 0).toInt64) 8999) = 0 then
        some ((-1), σ)
      else
        (bnd (sF σ 38 0) fun σ25 =>
        bnd (sF σ25 39 0) fun σ26 =>
        bnd (sF σ26 41 0) fun σ27 =>
        bnd (sF σ27 42 0) fun σ28 =>
        bnd (sF σ28 43 0) fun σ29 =>
        bnd (sF σ29 35 0) fun σ30 =>
        (wr tM σ30 21 (gF σ30 25) 0).bind fun σ31 =>
        (f_X11_text x1 σ31).bind fun u32 =>
        bnd (sF u32.2 24 0) fun σ33 =>
        if u32.1 = 0 then
          some ((-2) - (gF σ33 39), σ33)
        else
          ((wr tM σ33 19 (gF σ33 25) x1).bind fun σ34 =>
          (wr tM σ34 20 (gF σ34 25) x2).bind fun σ35 =>
          bnd (sF σ35 25 ((gF σ35 25) + 1)) fun σ36 =>
          some ((gF σ36 25) - 1, σ36)))))
def f_X11_inForce_23 (σ : St) : Option (Int32) :=
  some (-1)
def f_X11_inForce (x1 : Int32) (x2 : Int32) (σ : St) : Option (Int32) :=
  if (f_X11_in x1.toInt64 0 (((gF σ 25) - 1).toInt64)) = 0 then
    f_X11_inForce_23 σ
  else
    (if (f_X11_isMinute x2) = 0 then
      f_X11_inForce_23 σ
    else
      ((f_X11_isInForce x1 x2 σ).bind fun v3 =>
      if v3 = 0 then
        some 0
      else
        some 1))
def f_X11_mayBy (x1 : Int32) (x2 : Int32) (x3 : Int32) (x4 : Int32) (x5 : Int32) (x6 : Int32) (σ : St) : Option (Int32 × St) :=
  bnd (if x1 = 2 then 0 else x1 : Int32) fun v9 =>
  (f_X11_reachOf v9 x6 σ).bind fun u10 =>
  (f_X11_isNear v9 0 x4 x5 u10.1 u10.2).bind fun v11 =>
  bnd (if v11 = 0 then 0 else 1 : Int32) fun v12 =>
  (f_X11_asks x6 x3 x4 x5 v12 u10.2).bind fun σ13 =>
  (f_X11_telling x1 (2 + x2) x6 σ13).bind fun u14 =>
  some (u14.1, u14.2)
def f_X11_mayDo_29 (σ : St) : Option (Int32 × St) :=
  some (1, σ)
def f_X11_mayDo (x1 : Int32) (x2 : Int32) (x3 : Int32) (x4 : Int32) (x5 : Int32) (x6 : Int32) (σ : St) : Option (Int32 × St) :=
  (f_X11_mayBy x1 x2 x3 x4 x5 x6 σ).bind fun u5 =>
  if 0 ≤ u5.1 then
    ((rd tM u5.2 23 u5.1).bind fun v6 =>
    if v6 = 1 then
      some (1, u5.2)
    else
      some (0, u5.2))
  else
    (if x2 = 0 then
      f_X11_mayDo_29 u5.2
    else
      (if x2 = 4 then
        f_X11_mayDo_29 u5.2
      else
        some (0, u5.2)))
def f_X11_isWhat_28 : Int32 :=
  0
def f_X11_isWhat (x0 : Int32) (x1 : Int32) : Int32 :=
  if (f_X11_in x0.toInt64 0 2) = 0 then
    f_X11_isWhat_28
  else
    (if (f_X11_in x1.toInt64 0 4) = 0 then
      f_X11_isWhat_28
    else
      1)
def f_X11_may (x1 : Int32) (x2 : Int32) (x3 : Int32) (x4 : Int32) (x5 : Int32) (x6 : Int32) (σ : St) : Option (Int32 × St) :=
  if (f_X11_isWhat x1 x2) = 0 then
    some ((-1), σ)
  else
    (if (f_X11_isShip x3 σ) = 0 then
      some ((-1), σ)
    else
      (if (f_X11_isCell x4 x5) = 0 then
        some ((-1), σ)
      else
        (if (f_X11_isMinute x6) = 0 then
          some ((-1), σ)
        else
          ((f_X11_mayDo x1 x2 x3 x4 x5 x6 σ).bind fun u3 =>
          bnd (if u3.1 = 0 then 0 else 1 : Int32) fun v4 =>
          some (v4, u3.2)))))
def f_X11_meshOf (x1 : Int32) (x2 : Int32) (x3 : Int32) (x4 : Int32) (x5 : Int32) (σ : St) : Option (Int64 × St) :=
  (f_X11_asks x5 x2 x3 x4 0 σ).bind fun σ11 =>
  (f_X11_telling x1 1 x5 σ11).bind fun u12 =>
  if 0 ≤ u12.1 then
    ((rd tM u12.2 24 u12.1).bind fun v13 =>
    (rd tM u12.2 25 u12.1).bind fun v14 =>
    (f_X11_works v13 v14 (u12.1 / 12) u12.2).bind fun u15 =>
    some (u15.1, u15.2))
  else
    some (0, u12.2)
def f_X11_mesh_47 (σ : St) : Option (Int64 × St) :=
  some (0, σ)
def f_X11_mesh (x1 : Int32) (x2 : Int32) (x3 : Int32) (x4 : Int32) (x5 : Int32) (σ : St) : Option (Int64 × St) :=
  if (f_X11_isWhat x1 0) = 0 then
    f_X11_mesh_47 σ
  else
    (if (f_X11_isShip x2 σ) = 0 then
      f_X11_mesh_47 σ
    else
      (if (f_X11_isCell x3 x4) = 0 then
        f_X11_mesh_47 σ
      else
        (if (f_X11_isMinute x5) = 0 then
          f_X11_mesh_47 σ
        else
          ((f_X11_meshOf x1 x2 x3 x4 x5 σ).bind fun u3 =>
          some (u3.1, u3.2)))))
def f_X11_by (x1 : Int32) (x2 : Int32) (x3 : Int32) (x4 : Int32) (x5 : Int32) (x6 : Int32) (σ : St) : Option (Int32 × St) :=
  if (f_X11_isWhat x1 x2) = 0 then
    some ((-1), σ)
  else
    (if (f_X11_isShip x3 σ) = 0 then
      some ((-1), σ)
    else
      (if (f_X11_isCell x4 x5) = 0 then
        some ((-1), σ)
      else
        (if (f_X11_isMinute x6) = 0 then
          some ((-1), σ)
        else
          ((f_X11_mayBy x1 x2 x3 x4 x5 x6 σ).bind fun u3 =>
          if 0 ≤ u3.1 then
            some ((16 * (u3.1 / 12)) + (u3.1 - u3.1 / 12 * 12), u3.2)
          else
            some ((-1), u3.2)))))
def f_X11_act (x1 : Int32) (x2 : Int32) (x3 : Int32) (x4 : Int32) (x5 : Int32) (σ : St) : Option (Int32 × St) :=
  if (gF σ 53) = 150 then
    some ((-1), σ)
  else
    (if (f_X11_isShip x1 σ) = 0 then
      some ((-1), σ)
    else
      (if (f_X11_in x2.toInt64 0 4) = 0 then
        some ((-1), σ)
      else
        (if (f_X11_isCell x3 x4) = 0 then
          some ((-1), σ)
        else
          (if (f_X11_in x5.toInt64 0 ((gF σ 0).toInt64)) = 0 then
            some ((-1), σ)
          else
            ((wr tM σ 34 (gF σ 53) x1).bind fun σ13 =>
            (wr tM σ13 35 (gF σ13 53) x2).bind fun σ14 =>
            (wr tM σ14 36 (gF σ14 53) x3).bind fun σ15 =>
            (wr tM σ15 37 (gF σ15 53) x4).bind fun σ16 =>
            (wr tM σ16 38 (gF σ16 53) x5).bind fun σ17 =>
            bnd (sF σ17 53 ((gF σ17 53) + 1)) fun σ18 =>
            some ((gF σ18 53) - 1, σ18))))))
def f_X11_isKept_94 (σ : St) : Option (Int32 × St) :=
  some (1, σ)
def f_X11_isKept (x1 : Int32) (x2 : Int32) (σ : St) : Option (Int32 × St) :=
  (rd tM σ 35 x1).bind fun v29 =>
  (rd tM σ 34 x1).bind fun v30 =>
  (rd tM σ 36 x1).bind fun v31 =>
  (rd tM σ 37 x1).bind fun v32 =>
  (rd tM σ 38 x1).bind fun v33 =>
  (f_X11_mayDo x2 v29 v30 v31 v32 v33 σ).bind fun u34 =>
  if u34.1 = 0 then
    some (0, u34.2)
  else
    ((rd tM u34.2 35 x1).bind fun v35 =>
    if v35 = 0 then
      ((rd tM u34.2 34 x1).bind fun v36 =>
      (rd tM u34.2 5 v36).bind fun v37 =>
      (rd tM u34.2 34 x1).bind fun v38 =>
      (rd tM u34.2 36 x1).bind fun v39 =>
      (rd tM u34.2 37 x1).bind fun v40 =>
      (rd tM u34.2 38 x1).bind fun v41 =>
      (f_X11_meshOf x2 v38 v39 v40 v41 u34.2).bind fun u42 =>
      if v37.toInt64 < u42.1 then
        some (0, u42.2)
      else
        f_X11_isKept_94 u42.2)
    else
      f_X11_isKept_94 u34.2)
def f_X11_kept_28 (σ : St) : Option (Int32 × St) :=
  some ((-1), σ)
def f_X11_kept (x1 : Int32) (x2 : Int32) (σ : St) : Option (Int32 × St) :=
  if (f_X11_in x1.toInt64 0 (((gF σ 53) - 1).toInt64)) = 0 then
    f_X11_kept_28 σ
  else
    (if (f_X11_in x2.toInt64 0 2) = 0 then
      f_X11_kept_28 σ
    else
      ((f_X11_isKept x1 x2 σ).bind fun u3 =>
      if u3.1 = 0 then
        some (0, u3.2)
      else
        some (1, u3.2)))
def f_X11_broken_64 (x1 : Int32) (x2 : Int32) (x3 : Int32) (x4 : Int32) (σ : St) (k26 : Int32 → Int32 → St → Option (Int32 × St)) : Option (Int32 × St) :=
  bnd (x4 + 1 : Int32) fun v15 =>
  k26 x3 v15 σ
def f_X11_broken_26 (x1 : Int32) (x2 : Int32) : Nat → Int32 → Int32 → St → Option (Int32 × St)
  | 0, _, _, _ => none
  | n + 1, x3, x4, σ =>
    if (gF σ 53) ≤ x4 then
      some (x3, σ)
    else
      ((rd tM σ 34 x4).bind fun v11 =>
      (rd tM σ 2 v11).bind fun v12 =>
      if v12 = x1 then
        ((f_X11_isKept x4 x2 σ).bind fun u13 =>
        if u13.1 = 0 then
          (bnd (x3 + 1 : Int32) fun v14 =>
          f_X11_broken_64 x1 x2 v14 x4 u13.2 (f_X11_broken_26 x1 x2 n))
        else
          f_X11_broken_64 x1 x2 x3 x4 u13.2 (f_X11_broken_26 x1 x2 n))
      else
        f_X11_broken_64 x1 x2 x3 x4 σ (f_X11_broken_26 x1 x2 n))
def f_X11_broken (x1 : Int32) (x2 : Int32) (σ : St) : Option (Int32 × St) :=
  if (f_X11_isSide x1) = 0 then
    some ((-1), σ)
  else
    (if (f_X11_in x2.toInt64 0 2) = 0 then
      some ((-1), σ)
    else
      f_X11_broken_26 x1 x2 FU 0 0 σ)
def f_X11_stepTo_100 (σ : St) : Option (Int32) :=
  some (-1)
def f_X11_stepTo_52 (x3 : Int32) (y0 : Int32) (y1 : Int32) (σ : St) : Option (Int32) :=
  bnd (y0 + y1 : Int32) fun v12 =>
  if (f_X11_in x3.toInt64 0 (((gF σ 62) - 1).toInt64)) = 0 then
    f_X11_stepTo_100 σ
  else
    (if (f_X11_in v12.toInt64 0 (((gF σ 63) - 1).toInt64)) = 0 then
      f_X11_stepTo_100 σ
    else
      some (((gF σ 62) * v12) + x3))
def f_X11_stepTo_25 (x1 : Int32) (x2 : Int32) (y0 : Int32) (y1 : Int32) (σ : St) : Option (Int32) :=
  bnd (y0 + y1 : Int32) fun v10 =>
  (dvi x1 (gF σ 62)).bind fun v11 =>
  if x2 = 3 then
    f_X11_stepTo_52 v10 v11 1 σ
  else
    (if x2 = 4 then
      f_X11_stepTo_52 v10 v11 (-1) σ
    else
      f_X11_stepTo_52 v10 v11 0 σ)
def f_X11_stepTo (x1 : Int32) (x2 : Int32) (σ : St) : Option (Int32) :=
  (rmi x1 (gF σ 62)).bind fun v9 =>
  if x2 = 1 then
    f_X11_stepTo_25 x1 x2 v9 1 σ
  else
    (if x2 = 2 then
      f_X11_stepTo_25 x1 x2 v9 (-1) σ
    else
      f_X11_stepTo_25 x1 x2 v9 0 σ)
def f_X11_state (x0 : Int32) (x1 : Int32) (x2 : Int32) : Int32 :=
  bnd (if 0 ≤ x2 then x2 else 25 : Int32) fun v1 =>
  (25 * ((26 * x1) + v1)) + x0
def f_X11_isLost_46 (x1 : Int32) (x2 : Int32) (x3 : Int32) (x4 : Int32) (σ : St) (k3 : Int32 → Option (Int32)) : Option (Int32) :=
  bnd (x4 + 1 : Int32) fun v9 =>
  k3 v9
def f_X11_isLost_3 (x1 : Int32) (x2 : Int32) (x3 : Int32) (σ : St) : Nat → Int32 → Option (Int32)
  | 0, _ => none
  | n + 1, x4 =>
    if 5 ≤ x4 then
      some 1
    else
      ((f_X11_stepTo x1 x4 σ).bind fun v7 =>
      if v7 < 0 then
        f_X11_isLost_46 x1 x2 x3 x4 σ (f_X11_isLost_3 x1 x2 x3 σ n)
      else
        (if v7 = x2 then
          f_X11_isLost_46 x1 x2 x3 x4 σ (f_X11_isLost_3 x1 x2 x3 σ n)
        else
          ((rd tM σ 39 (f_X11_state v7 x2 x3)).bind fun v8 =>
          if v8 = 0 then
            some 0
          else
            f_X11_isLost_46 x1 x2 x3 x4 σ (f_X11_isLost_3 x1 x2 x3 σ n))))
def f_X11_isLost (x1 : Int32) (x2 : Int32) (x3 : Int32) (σ : St) : Option (Int32) :=
  f_X11_isLost_3 x1 x2 x3 σ FU 0
def f_X11_isHooked_61 (x1 : Int32) (x2 : Int32) (x3 : Int32) (x4 : Int32) (σ : St) (k22 : Int32 → Option (Int32)) : Option (Int32) :=
  bnd (x4 + 1 : Int32) fun v12 =>
  k22 v12
def f_X11_isHooked_22 (x1 : Int32) (x2 : Int32) (x3 : Int32) (σ : St) : Nat → Int32 → Option (Int32)
  | 0, _ => none
  | n + 1, x4 =>
    if 5 ≤ x4 then
      some 1
    else
      ((f_X11_stepTo x3 x4 σ).bind fun v10 =>
      if v10 < 0 then
        f_X11_isHooked_61 x1 x2 x3 x4 σ (f_X11_isHooked_22 x1 x2 x3 σ n)
      else
        (if v10 = x2 then
          f_X11_isHooked_61 x1 x2 x3 x4 σ (f_X11_isHooked_22 x1 x2 x3 σ n)
        else
          ((f_X11_isLost x1 x2 v10 σ).bind fun v11 =>
          if v11 = 0 then
            some 0
          else
            f_X11_isHooked_61 x1 x2 x3 x4 σ (f_X11_isHooked_22 x1 x2 x3 σ n))))
def f_X11_isHooked (x1 : Int32) (x2 : Int32) (x3 : Int32) (σ : St) : Option (Int32) :=
  if x2 = x1 then
    some 1
  else
    (if 0 ≤ x3 then
      f_X11_isHooked_22 x1 x2 x3 σ FU 0
    else
      ((f_X11_isLost x1 x2 (-1) σ).bind fun v9 =>
      some (vp_nar .boolean v9)))
def f_X11_firstHook_62 (x1 : Int32) (x2 : Int32) (x3 : Int32) (x4 : Int32) (x5 : Int32) (σ : St) (k6 : Int32 → Int32 → Option (Int32)) : Option (Int32) :=
  bnd (x5 + 1 : Int32) fun v9 =>
  k6 x4 v9
def f_X11_firstHook_47 (x1 : Int32) (x2 : Int32) (x3 : Int32) (x4 : Int32) (x5 : Int32) (x6 : Int32) (σ : St) (k6 : Int32 → Int32 → Option (Int32)) : Option (Int32) :=
  (f_X11_isHooked x1 x6 x3 σ).bind fun v8 =>
  if v8 = 0 then
    f_X11_firstHook_62 x1 x2 x3 x4 x5 σ k6
  else
    f_X11_firstHook_62 x1 x2 x3 x6 x5 σ k6
def f_X11_firstHook_6 (x1 : Int32) (x2 : Int32) (x3 : Int32) (σ : St) : Nat → Int32 → Int32 → Option (Int32)
  | 0, _, _ => none
  | n + 1, x4, x5 =>
    if 5 ≤ x5 then
      some x4
    else
      ((f_X11_stepTo x2 x5 σ).bind fun v7 =>
      if v7 < 0 then
        f_X11_firstHook_62 x1 x2 x3 x4 x5 σ (f_X11_firstHook_6 x1 x2 x3 σ n)
      else
        (if v7 = x3 then
          f_X11_firstHook_62 x1 x2 x3 x4 x5 σ (f_X11_firstHook_6 x1 x2 x3 σ n)
        else
          (if x4 < 0 then
            f_X11_firstHook_47 x1 x2 x3 x4 x5 v7 σ (f_X11_firstHook_6 x1 x2 x3 σ n)
          else
            (if v7 ≤ x4 then
              f_X11_firstHook_47 x1 x2 x3 x4 x5 v7 σ (f_X11_firstHook_6 x1 x2 x3 σ n)
            else
              f_X11_firstHook_62 x1 x2 x3 x4 x5 σ (f_X11_firstHook_6 x1 x2 x3 σ n)))))
def f_X11_firstHook (x1 : Int32) (x2 : Int32) (x3 : Int32) (σ : St) : Option (Int32) :=
  f_X11_firstHook_6 x1 x2 x3 σ FU (-1) 0
def f_X11_levels_83 (x1 : Int32) (x2 : Int32) (x3 : Int32) (x4 : Int32) (y1 : Int32) (y2 : Int32) (σ : St) (k35 : Int32 → St → Option (St)) (k19 : Int32 → St → Option (St)) (k12 : Int32 → St → Option (St)) : Option (St) :=
  (wr tM σ 40 y1 (vp_nar .boolean y2)).bind fun σ24 =>
  bnd (x4 + 1 : Int32) fun v25 =>
  k35 v25 σ24
def f_X11_levels_78 (x1 : Int32) (x2 : Int32) (x3 : Int32) (x4 : Int32) (y1 : Int32) (σ : St) (k35 : Int32 → St → Option (St)) (k19 : Int32 → St → Option (St)) (k12 : Int32 → St → Option (St)) : Option (St) :=
  f_X11_levels_83 x1 x2 x3 x4 y1 1 σ k35 k19 k12
def f_X11_levels_90 (x1 : Int32) (x2 : Int32) (x3 : Int32) (σ : St) (k19 : Int32 → St → Option (St)) (k12 : Int32 → St → Option (St)) : Option (St) :=
  bnd (x3 + 1 : Int32) fun v26 =>
  k19 v26 σ
def f_X11_levels_35 (x1 : Int32) (x2 : Int32) (x3 : Int32) (k19 : Int32 → St → Option (St)) (k12 : Int32 → St → Option (St)) : Nat → Int32 → St → Option (St)
  | 0, _, _ => none
  | n + 1, x4, σ =>
    if x1 ≤ x4 then
      f_X11_levels_90 x1 x2 x3 σ k19 k12
    else
      ((rd tM σ 39 (f_X11_state x4 x2 x3)).bind fun v22 =>
      if v22 = 0 then
        ((f_X11_firstHook x4 x2 x3 σ).bind fun v23 =>
        if v23 < 0 then
          f_X11_levels_83 x1 x2 x3 x4 (f_X11_state x4 x2 x3) 0 σ (f_X11_levels_35 x1 x2 x3 k19 k12 n) k19 k12
        else
          f_X11_levels_78 x1 x2 x3 x4 (f_X11_state x4 x2 x3) σ (f_X11_levels_35 x1 x2 x3 k19 k12 n) k19 k12)
      else
        f_X11_levels_78 x1 x2 x3 x4 (f_X11_state x4 x2 x3) σ (f_X11_levels_35 x1 x2 x3 k19 k12 n) k19 k12)
def f_X11_levels_96 (x1 : Int32) (x2 : Int32) (σ : St) (k12 : Int32 → St → Option (St)) : Option (St) :=
  bnd (x2 + 1 : Int32) fun v27 =>
  k12 v27 σ
def f_X11_levels_19 (x1 : Int32) (x2 : Int32) (k12 : Int32 → St → Option (St)) : Nat → Int32 → St → Option (St)
  | 0, _, _ => none
  | n + 1, x3, σ =>
    if x1 ≤ x3 then
      f_X11_levels_96 x1 x2 σ k12
    else
      (if x3 = x2 then
        f_X11_levels_90 x1 x2 x3 σ (f_X11_levels_19 x1 x2 k12 n) k12
      else
        f_X11_levels_35 x1 x2 x3 (f_X11_levels_19 x1 x2 k12 n) k12 FU 0 σ)
def f_X11_levels_104 : Nat → Int32 → St → Option (St)
  | 0, _, _ => none
  | n + 1, x2, σ =>
    if 16250 ≤ x2 then
      some σ
    else
      ((rd tM σ 40 x2).bind fun v28 =>
      (wr tM σ 39 x2 (vp_nar .boolean v28)).bind fun σ29 =>
      bnd (x2 + 1 : Int32) fun v30 =>
      f_X11_levels_104 n v30 σ29)
def f_X11_levels_102 (σ : St) : Option (St) :=
  f_X11_levels_104 FU 0 σ
def f_X11_levels_12 (x1 : Int32) : Nat → Int32 → St → Option (St)
  | 0, _, _ => none
  | n + 1, x2, σ =>
    if x1 ≤ x2 then
      f_X11_levels_102 σ
    else
      f_X11_levels_19 x1 x2 (f_X11_levels_12 x1 n) FU (-1) σ
def f_X11_levels (σ : St) : Option (St) :=
  bnd ((gF σ 62) * (gF σ 63) : Int32) fun v21 =>
  f_X11_levels_12 v21 FU 0 σ
def f_X11_hook_196 (x8 : Int32) (x9 : Int32) (σ : St) : Option (Int32 × St) :=
  bnd (sF σ 61 x9) fun σ31 =>
  some (x8, σ31)
def f_X11_hook_173 (x3 : Int32) (x4 : Int32) (x5 : Int32) (x6 : Int32) : Nat → Int32 → St → Option (Int32 × St)
  | 0, _, _ => none
  | n + 1, x8, σ =>
    if x6 < x8 then
      some ((-2), σ)
    else
      ((f_X11_firstHook x3 x4 x5 σ).bind fun v28 =>
      if v28 < 0 then
        ((f_X11_levels σ).bind fun σ29 =>
        bnd (x8 + 1 : Int32) fun v30 =>
        f_X11_hook_173 x3 x4 x5 x6 n v30 σ29)
      else
        f_X11_hook_196 x8 v28 σ)
def f_X11_hook_170 (x3 : Int32) (x4 : Int32) (x5 : Int32) (x6 : Int32) (σ : St) : Option (Int32 × St) :=
  f_X11_hook_173 x3 x4 x5 x6 FU 1 σ
def f_X11_hook_120 (x3 : Int32) (x4 : Int32) (x5 : Int32) (x6 : Int32) : Nat → Int32 → St → Option (Int32 × St)
  | 0, _, _ => none
  | n + 1, x8, σ =>
    if 16250 ≤ x8 then
      f_X11_hook_170 x3 x4 x5 x6 σ
    else
      (bnd (if ((x8 / 25) / 26) = (x8 - x8 / 25 * 25) then 1 else 0 : Int32) fun v24 =>
      (wr tM σ 39 x8 (vp_nar .boolean v24)).bind fun σ25 =>
      (wr tM σ25 40 x8 (vp_nar .boolean 0)).bind fun σ26 =>
      bnd (x8 + 1 : Int32) fun v27 =>
      f_X11_hook_120 x3 x4 x5 x6 n v27 σ26)
def f_X11_hook (x1 : Int32) (x2 : Int32) (x3 : Int32) (x4 : Int32) (x5 : Int32) (x6 : Int32) (σ : St) : Option (Int32 × St) :=
  if (f_X11_in x1.toInt64 1 5) = 0 then
    some ((-1), σ)
  else
    (if (f_X11_in x2.toInt64 1 5) = 0 then
      some ((-1), σ)
    else
      (if (f_X11_in x6.toInt64 0 8) = 0 then
        some ((-1), σ)
      else
        (bnd (x1 * x2 : Int32) fun v21 =>
        if (f_X11_in x3.toInt64 0 ((v21 - 1).toInt64)) = 0 then
          some ((-1), σ)
        else
          (if (f_X11_in x4.toInt64 0 ((v21 - 1).toInt64)) = 0 then
            some ((-1), σ)
          else
            (if (f_X11_in x5.toInt64 (-1) ((v21 - 1).toInt64)) = 0 then
              some ((-1), σ)
            else
              (if x4 = x5 then
                some ((-1), σ)
              else
                (if x3 = x4 then
                  some (0, σ)
                else
                  (bnd (sF σ 62 x1) fun σ22 =>
                  bnd (sF σ22 63 x2) fun σ23 =>
                  f_X11_hook_120 x3 x4 x5 x6 FU 0 σ23))))))))
def f_X11_hooks (σ : St) : Int32 :=
  gF σ 61
def f_X11_xOf (x1 : Int32) : Int32 :=
  x1 - x1 / 24 * 24
def f_X11_yOf (x1 : Int32) : Int32 :=
  x1 / 24
def f_X11_goes (x1 : Int32) (x2 : Int32) : Int32 :=
  bnd (if x1 = x2 then 0 else 1 : Int32) fun v1 =>
  vp_nar .boolean v1
def f_X11_overtakes_104 : Int32 :=
  0
def f_X11_overtakes (x1 : Int32) (x2 : Int32) (x3 : Int32) (x4 : Int32) : Int32 :=
  bnd ((f_X11_xOf x2) - (f_X11_xOf x1) : Int32) fun v9 =>
  bnd ((f_X11_yOf x2) - (f_X11_yOf x1) : Int32) fun v10 =>
  bnd ((f_X11_xOf x4) - (f_X11_xOf x3) : Int32) fun v11 =>
  bnd ((f_X11_yOf x4) - (f_X11_yOf x3) : Int32) fun v12 =>
  if ((v9 * v11) + (v10 * v12)) ≤ 0 then
    f_X11_overtakes_104
  else
    (if 0 ≤ ((((f_X11_xOf x1) - (f_X11_xOf x3)) * v11) + (((f_X11_yOf x1) - (f_X11_yOf x3)) * v12)) then
      f_X11_overtakes_104
    else
      1)
def f_X11_isRight (x1 : Int32) (x2 : Int32) (x3 : Int32) : Int32 :=
  bnd ((f_X11_xOf x2) - (f_X11_xOf x1) : Int32) fun v5 =>
  bnd ((f_X11_yOf x2) - (f_X11_yOf x1) : Int32) fun v6 =>
  bnd (if ((v5 * ((f_X11_yOf x3) - (f_X11_yOf x1))) - (v6 * ((f_X11_xOf x3) - (f_X11_xOf x1)))) ≤ 0 then 0 else 1 : Int32) fun v7 =>
  vp_nar .boolean v7
def f_X11_hasTo_45 : Int32 :=
  1
def f_X11_hasTo (x1 : Int32) (x2 : Int32) (x3 : Int32) (x4 : Int32) : Int32 :=
  if (f_X11_goes x1 x2) = 0 then
    0
  else
    (if (f_X11_overtakes x3 x4 x1 x2) = 0 then
      (if (f_X11_overtakes x1 x2 x3 x4) = 0 then
        (if (f_X11_isRight x1 x2 x3) = 0 then
          0
        else
          f_X11_hasTo_45)
      else
        f_X11_hasTo_45)
    else
      0)
def f_X11_way (x1 : Int32) (x2 : Int32) (x3 : Int32) (x4 : Int32) (σ : St) : Option (Int32) :=
  if (f_X11_isShip x1 σ) = 0 then
    some (-1)
  else
    (if (f_X11_isShip x2 σ) = 0 then
      some (-1)
    else
      (if x1 = x2 then
        some (-1)
      else
        (if (f_X11_in x3.toInt64 1 8999) = 0 then
          some (-1)
        else
          (if (f_X11_isMinute x4) = 0 then
            some (-1)
          else
            ((f_X11_whereIs x1 (x3 - 1) x4 σ).bind fun v9 =>
            (f_X11_whereIs x1 x3 x4 σ).bind fun v10 =>
            (f_X11_whereIs x2 (x3 - 1) x4 σ).bind fun v11 =>
            (f_X11_whereIs x2 x3 x4 σ).bind fun v12 =>
            if v9 < 0 then
              some (-2)
            else
              (if v10 < 0 then
                some (-2)
              else
                (if v11 < 0 then
                  some (-2)
                else
                  (if 0 ≤ v12 then
                    (bnd (if (f_X11_hasTo v9 v10 v11 v12) = 0 then 0 else 1 : Int32) fun v13 =>
                    bnd (if (f_X11_hasTo v11 v12 v9 v10) = 0 then 0 else 2 : Int32) fun v14 =>
                    some (v13 + v14))
                  else
                    some (-2)))))))))
def f_X11_office (x1 : Int32) (x2 : Int32) (x3 : Int32) (σ : St) : Option (Int32 × St) :=
  if (f_X11_isSide x1) = 0 then
    some (0, σ)
  else
    (if (f_X11_in x2.toInt64 0 99999999) = 0 then
      some (0, σ)
    else
      (if (f_X11_in x3.toInt64 0 1000) = 0 then
        some (0, σ)
      else
        ((wr tM σ 41 x1 x2).bind fun σ5 =>
        (wr tM σ5 42 x1 x3).bind fun σ6 =>
        some (1, σ6))))
def f_X11_year (x1 : Int32) (x2 : Int32) (x3 : Int32) (σ : St) : Option (Int32 × St) :=
  if (f_X11_in x1.toInt64 0 2) = 0 then
    some ((-1), σ)
  else
    (if (f_X11_in x2.toInt64 0 39) = 0 then
      some ((-1), σ)
    else
      (if (f_X11_in x3.toInt64 0 9999999) = 0 then
        some ((-1), σ)
      else
        ((rd tM σ 43 ((40 * x1) + x2)).bind fun v5 =>
        (wr tM σ 43 ((40 * x1) + x2) x3).bind fun σ6 =>
        some (v5, σ6))))
def f_X11_stockOf_12 (x1 : Int32) (x2 : Int32) (x3 : Int32) (σ : St) : Nat → Int64 → Int32 → Option (Int64)
  | 0, _, _ => none
  | n + 1, x4, x6 =>
    if x2 ≤ x6 then
      some x4
    else
      ((rd tM σ 43 (80 + x6)).bind fun v14 =>
      bnd (x4 - v14.toInt64 : Int64) fun v15 =>
      bnd (if 0 ≤ v15 then v15 else 0 : Int64) fun v16 =>
      (rd tM σ 43 ((40 * x1) + x6)).bind fun v17 =>
      bnd (((v16 * ((1000 - x3).toInt64)) / 1000) + v17.toInt64 : Int64) fun v18 =>
      bnd (x6 + 1 : Int32) fun v19 =>
      f_X11_stockOf_12 x1 x2 x3 σ n v18 v19)
def f_X11_stockOf (x1 : Int32) (x2 : Int32) (x3 : Int32) (σ : St) : Option (Int64) :=
  (rd tM σ 41 x1).bind fun v13 =>
  f_X11_stockOf_12 x1 x2 x3 σ FU v13.toInt64 0
def f_X11_isYear_14 : Int32 :=
  0
def f_X11_isYear (x0 : Int32) : Int32 :=
  if x0 < 0 then
    f_X11_isYear_14
  else
    (if 40 ≤ x0 then
      f_X11_isYear_14
    else
      1)
def f_X11_stock_29 (σ : St) : Option (Int64) :=
  some (-1)
def f_X11_stock (x1 : Int32) (x2 : Int32) (σ : St) : Option (Int64) :=
  if (f_X11_isSide x1) = 0 then
    f_X11_stock_29 σ
  else
    (if (f_X11_isYear x2) = 0 then
      f_X11_stock_29 σ
    else
      ((rd tM σ 42 x1).bind fun v5 =>
      (f_X11_stockOf x1 x2 v5 σ).bind fun v6 =>
      some v6))
def f_X11_fails__11 (x1 : Int32) (σ : St) : Nat → Int32 → Option (Int32)
  | 0, _ => none
  | n + 1, x2 =>
    if 40 ≤ x2 then
      some (-2)
    else
      ((rd tM σ 43 (80 + x2)).bind fun v9 =>
      (rd tM σ 42 x1).bind fun v10 =>
      (f_X11_stockOf x1 x2 v10 σ).bind fun v11 =>
      if v9.toInt64 ≤ v11 then
        (bnd (x2 + 1 : Int32) fun v12 =>
        f_X11_fails__11 x1 σ n v12)
      else
        some x2)
def f_X11_fails_ (x1 : Int32) (σ : St) : Option (Int32) :=
  if (f_X11_isSide x1) = 0 then
    some (-1)
  else
    f_X11_fails__11 x1 σ FU 0
def f_X11_agree_107 (x1 : Int32) (x2 : Int32) (x3 : Int64) (x5 : Int32) (x6 : Int64) (x8 : Int32) (σ : St) (k44 : Int32 → Int64 → Int32 → Option (Int32)) : Option (Int32) :=
  bnd (x8 + 1 : Int32) fun v17 =>
  k44 x5 x6 v17
def f_X11_agree_99 (x1 : Int32) (x2 : Int32) (x3 : Int64) (x8 : Int32) (x9 : Int64) (σ : St) (k44 : Int32 → Int64 → Int32 → Option (Int32)) : Option (Int32) :=
  f_X11_agree_107 x1 x2 x3 x8 x9 x8 σ k44
def f_X11_agree_79 (x1 : Int32) (x2 : Int32) (x3 : Int64) (x5 : Int32) (x6 : Int64) (x8 : Int32) (y0 : Int64) (σ : St) (k44 : Int32 → Int64 → Int32 → Option (Int32)) : Option (Int32) :=
  if x6 < 0 then
    f_X11_agree_99 x1 x2 x3 x8 y0 σ k44
  else
    (if y0 < x6 then
      f_X11_agree_99 x1 x2 x3 x8 y0 σ k44
    else
      f_X11_agree_107 x1 x2 x3 x5 x6 x8 σ k44)
def f_X11_agree_44 (x1 : Int32) (x2 : Int32) (x3 : Int64) (σ : St) : Nat → Int32 → Int64 → Int32 → Option (Int32)
  | 0, _, _, _ => none
  | n + 1, x5, x6, x8 =>
    if 1000 < x8 then
      some x5
    else
      ((f_X11_stockOf x1 x2 x8 σ).bind fun v15 =>
      bnd (v15 - x3 : Int64) fun v16 =>
      if 0 ≤ v16 then
        f_X11_agree_79 x1 x2 x3 x5 x6 x8 v16 σ (f_X11_agree_44 x1 x2 x3 σ n)
      else
        f_X11_agree_79 x1 x2 x3 x5 x6 x8 (-v16) σ (f_X11_agree_44 x1 x2 x3 σ n))
def f_X11_agree (x1 : Int32) (x2 : Int32) (σ : St) : Option (Int32) :=
  if (f_X11_isSide x1) = 0 then
    some (-1)
  else
    (if (f_X11_isYear x2) = 0 then
      some (-1)
    else
      ((rd tM σ 42 (1 - x1)).bind fun v13 =>
      (f_X11_stockOf (1 - x1) x2 v13 σ).bind fun v14 =>
      f_X11_agree_44 x1 x2 v14 σ FU 0 (-1) 0))
def f_X11_age (x1 : Int32) (x2 : Int32) (x3 : Int32) (x4 : Int32) (σ : St) : Option (Int32 × St) :=
  if (f_X11_in x1.toInt64 0 7) = 0 then
    some (0, σ)
  else
    (if (f_X11_in x2.toInt64 0 999999) = 0 then
      some (0, σ)
    else
      (if (f_X11_in x3.toInt64 0 199) = 0 then
        some (0, σ)
      else
        (if (f_X11_in x4.toInt64 0 999) = 0 then
          some (0, σ)
        else
          ((wr tM σ 44 x1 x2).bind fun σ7 =>
          (wr tM σ7 45 x1 x3).bind fun σ8 =>
          (wr tM σ8 46 x1 x4).bind fun σ9 =>
          some (1, σ9)))))
def f_X11_asToday_2 (x1 : Int32) : Nat → Int32 → St → Option (St)
  | 0, _, _ => none
  | n + 1, x2, σ =>
    if 8 ≤ x2 then
      some σ
    else
      ((rd tM σ 44 x2).bind fun v7 =>
      (wl tM σ 47 (x1 + x2) v7.toInt64).bind fun σ8 =>
      bnd (x2 + 1 : Int32) fun v9 =>
      f_X11_asToday_2 x1 n v9 σ8)
def f_X11_asToday (x1 : Int32) (σ : St) : Option (St) :=
  f_X11_asToday_2 x1 FU 0 σ
def f_X11_fishes_144 (x1 : Int32) (x2 : Int32) (x3 : Int32) (x4 : Int32) (x5 : Int32) (x6 : Int64) (x8 : Int32) (σ : St) (k7 : Int64 → Int32 → St → Option (Int64 × St)) : Option (Int64 × St) :=
  bnd (x8 + (-1) : Int32) fun v35 =>
  k7 x6 v35 σ
def f_X11_fishes_47 (x1 : Int32) (x2 : Int32) (x3 : Int32) (x4 : Int32) (x5 : Int32) (x6 : Int64) (x8 : Int32) (x9 : Int64) (y0 : Int64) (σ : St) (k7 : Int64 → Int32 → St → Option (Int64 × St)) : Option (Int64 × St) :=
  (rd tM σ 46 x8).bind fun v27 =>
  bnd (x6 + (y0 * v27.toInt64) : Int64) fun v28 =>
  bnd (((x9 - y0) * ((1000 - x4).toInt64)) / 1000 : Int64) fun v29 =>
  if x8 = 7 then
    ((wl tM σ 47 (x1 + x8) v29).bind fun σ34 =>
    f_X11_fishes_144 x1 x2 x3 x4 x5 v28 x8 σ34 k7)
  else
    (if x8 = 6 then
      (bnd ((x1 + x8) + 1 : Int32) fun v31 =>
      (rl tM σ 47 v31).bind fun v32 =>
      (wl tM σ 47 v31 (v32 + v29)).bind fun σ33 =>
      f_X11_fishes_144 x1 x2 x3 x4 x5 v28 x8 σ33 k7)
    else
      ((wl tM σ 47 ((x1 + x8) + 1) v29).bind fun σ30 =>
      f_X11_fishes_144 x1 x2 x3 x4 x5 v28 x8 σ30 k7))
def f_X11_fishes_150 (x1 : Int32) (x5 : Int32) (x6 : Int64) (σ : St) : Option (Int64 × St) :=
  (wl tM σ 47 x1 x5.toInt64).bind fun σ36 =>
  some (x6, σ36)
def f_X11_fishes_7 (x1 : Int32) (x2 : Int32) (x3 : Int32) (x4 : Int32) (x5 : Int32) : Nat → Int64 → Int32 → St → Option (Int64 × St)
  | 0, _, _, _ => none
  | n + 1, x6, x8, σ =>
    if x8 < 0 then
      f_X11_fishes_150 x1 x5 x6 σ
    else
      ((rl tM σ 47 (x1 + x8)).bind fun v25 =>
      (rd tM σ 45 x8).bind fun v26 =>
      if x2 ≤ v26 then
        f_X11_fishes_47 x1 x2 x3 x4 x5 x6 x8 v25 ((v25 * x3.toInt64) / 1000) σ (f_X11_fishes_7 x1 x2 x3 x4 x5 n)
      else
        f_X11_fishes_47 x1 x2 x3 x4 x5 x6 x8 v25 0 σ (f_X11_fishes_7 x1 x2 x3 x4 x5 n))
def f_X11_fishes (x1 : Int32) (x2 : Int32) (x3 : Int32) (x4 : Int32) (x5 : Int32) (σ : St) : Option (Int64 × St) :=
  f_X11_fishes_7 x1 x2 x3 x4 x5 FU 0 7 σ
def f_X11_isFishing_52 : Int32 :=
  0
def f_X11_isFishing (x0 : Int32) (x1 : Int32) (x2 : Int32) (x3 : Int32) : Int32 :=
  if (f_X11_in x0.toInt64 0 199) = 0 then
    f_X11_isFishing_52
  else
    (if (f_X11_in x1.toInt64 0 1000) = 0 then
      f_X11_isFishing_52
    else
      (if (f_X11_in x2.toInt64 0 1000) = 0 then
        f_X11_isFishing_52
      else
        (if (f_X11_in x3.toInt64 0 999999) = 0 then
          f_X11_isFishing_52
        else
          1)))
def f_X11_landed_39 (x1 : Int32) (x2 : Int32) (x3 : Int32) (x4 : Int32) (x5 : Int32) : Nat → Int64 → Int32 → St → Option (Int64 × St)
  | 0, _, _, _ => none
  | n + 1, x6, x8, σ =>
    if x1 ≤ x8 then
      some (x6, σ)
    else
      ((f_X11_fishes 0 x2 x3 x4 x5 σ).bind fun u10 =>
      bnd (x6 + u10.1 : Int64) fun v11 =>
      bnd (x8 + 1 : Int32) fun v12 =>
      f_X11_landed_39 x1 x2 x3 x4 x5 n v11 v12 u10.2)
def f_X11_landed (x1 : Int32) (x2 : Int32) (x3 : Int32) (x4 : Int32) (x5 : Int32) (σ : St) : Option (Int64 × St) :=
  if (f_X11_in x1.toInt64 1 30) = 0 then
    some ((-1), σ)
  else
    (if (f_X11_isFishing x2 x3 x4 x5) = 0 then
      some ((-1), σ)
    else
      ((f_X11_asToday 0 σ).bind fun σ9 =>
      f_X11_landed_39 x1 x2 x3 x4 x5 FU 0 0 σ9))
def f_X11_pays_46 (x1 : Int32) (x2 : Int32) (x3 : Int32) (x4 : Int32) (x5 : Int32) : Nat → Int64 → Int64 → Int32 → St → Option (Int32 × St)
  | 0, _, _, _, _ => none
  | n + 1, x6, x8, x10, σ =>
    if 30 < x10 then
      some ((-2), σ)
    else
      ((f_X11_fishes 0 x1 x3 x4 x5 σ).bind fun u17 =>
      bnd (x6 + u17.1 : Int64) fun v18 =>
      (f_X11_fishes 8 x2 x3 x4 x5 u17.2).bind fun u19 =>
      bnd (x8 + u19.1 : Int64) fun v20 =>
      if v20 < v18 then
        (bnd (x10 + 1 : Int32) fun v21 =>
        f_X11_pays_46 x1 x2 x3 x4 x5 n v18 v20 v21 u19.2)
      else
        some (x10, u19.2))
def f_X11_pays (x1 : Int32) (x2 : Int32) (x3 : Int32) (x4 : Int32) (x5 : Int32) (σ : St) : Option (Int32 × St) :=
  if (f_X11_isFishing x1 x3 x4 x5) = 0 then
    some ((-1), σ)
  else
    (if (f_X11_in x2.toInt64 0 199) = 0 then
      some ((-1), σ)
    else
      ((f_X11_asToday 0 σ).bind fun σ15 =>
      (f_X11_asToday 8 σ15).bind fun σ16 =>
      f_X11_pays_46 x1 x2 x3 x4 x5 FU 0 0 1 σ16))
def f_X11_town (x1 : Int32) (x2 : Int32) (x3 : Int32) (x4 : Int32) (σ : St) : Option (Int32 × St) :=
  if (gF σ 71) = 8 then
    some ((-1), σ)
  else
    (if (f_X11_isSide x1) = 0 then
      some ((-1), σ)
    else
      (if (f_X11_in x2.toInt64 0 9999) = 0 then
        some ((-1), σ)
      else
        (if (f_X11_in x3.toInt64 0 9999999) = 0 then
          some ((-1), σ)
        else
          (if (f_X11_in x4.toInt64 0 99999) = 0 then
            some ((-1), σ)
          else
            ((wr tM σ 48 (gF σ 71) x1).bind fun σ11 =>
            (wr tM σ11 49 (gF σ11 71) x2).bind fun σ12 =>
            (wr tM σ12 50 (gF σ12 71) x3).bind fun σ13 =>
            (wr tM σ13 51 (gF σ13 71) x4).bind fun σ14 =>
            bnd (sF σ14 71 ((gF σ14 71) + 1)) fun σ15 =>
            some ((gF σ15 71) - 1, σ15))))))
def f_X11_isTown_16 (σ : St) : Int32 :=
  0
def f_X11_isTown (x1 : Int32) (σ : St) : Int32 :=
  if x1 < 0 then
    f_X11_isTown_16 σ
  else
    (if (gF σ 71) ≤ x1 then
      f_X11_isTown_16 σ
    else
      1)
def f_X11_isWeek_14 : Int32 :=
  0
def f_X11_isWeek (x0 : Int32) : Int32 :=
  if x0 < 0 then
    f_X11_isWeek_14
  else
    (if 100 ≤ x0 then
      f_X11_isWeek_14
    else
      1)
def f_X11_bar (x1 : Int32) (x2 : Int32) (x3 : Int32) (σ : St) : Option (Int32 × St) :=
  if (gF σ 76) = 20 then
    some ((-1), σ)
  else
    (if (f_X11_isTown x1 σ) = 0 then
      some ((-1), σ)
    else
      (if (f_X11_isWeek x3) = 0 then
        some ((-1), σ)
      else
        (if (f_X11_in x2.toInt64 0 x3.toInt64) = 0 then
          some ((-1), σ)
        else
          ((wr tM σ 52 (gF σ 76) x1).bind fun σ9 =>
          (wr tM σ9 53 (gF σ9 76) x2).bind fun σ10 =>
          (wr tM σ10 54 (gF σ10 76) x3).bind fun σ11 =>
          bnd (sF σ11 76 ((gF σ11 76) + 1)) fun σ12 =>
          some (gF σ12 76, σ12)))))
def f_X11_lostBy_72 (x1 : Int32) (x2 : Int32) (x3 : Int32) (x4 : Int32) (x6 : Int32) (y0 : Int32) (σ : St) (k17 : Int32 → Int32 → Option (Int32)) (k5 : Int32 → Int32 → Option (Int32)) : Option (Int32) :=
  bnd (x6 + 1 : Int32) fun v18 =>
  k17 y0 v18
def f_X11_lostBy_67 (x1 : Int32) (x2 : Int32) (x3 : Int32) (x4 : Int32) (x6 : Int32) (σ : St) (k17 : Int32 → Int32 → Option (Int32)) (k5 : Int32 → Int32 → Option (Int32)) : Option (Int32) :=
  f_X11_lostBy_72 x1 x2 x3 x4 x6 1 σ k17 k5
def f_X11_lostBy_71 (x1 : Int32) (x2 : Int32) (x3 : Int32) (x4 : Int32) (x6 : Int32) (σ : St) (k17 : Int32 → Int32 → Option (Int32)) (k5 : Int32 → Int32 → Option (Int32)) : Option (Int32) :=
  f_X11_lostBy_72 x1 x2 x3 x4 x6 0 σ k17 k5
def f_X11_lostBy_96 (x1 : Int32) (x2 : Int32) (x4 : Int32) (y0 : Int32) (y1 : Int32) (σ : St) (k5 : Int32 → Int32 → Option (Int32)) : Option (Int32) :=
  bnd (y0 + y1 : Int32) fun v20 =>
  bnd (x4 + 1 : Int32) fun v21 =>
  k5 v20 v21
def f_X11_lostBy_80 (x1 : Int32) (x2 : Int32) (x3 : Int32) (x4 : Int32) (x5 : Int32) (σ : St) (k5 : Int32 → Int32 → Option (Int32)) : Option (Int32) :=
  if x5 = 0 then
    f_X11_lostBy_96 x1 x2 x4 x3 0 σ k5
  else
    ((rd tM σ 51 x1).bind fun v19 =>
    f_X11_lostBy_96 x1 x2 x4 x3 v19 σ k5)
def f_X11_lostBy_17 (x1 : Int32) (x2 : Int32) (x3 : Int32) (x4 : Int32) (σ : St) (k5 : Int32 → Int32 → Option (Int32)) : Nat → Int32 → Int32 → Option (Int32)
  | 0, _, _ => none
  | n + 1, x5, x6 =>
    if (gF σ 76) ≤ x6 then
      f_X11_lostBy_80 x1 x2 x3 x4 x5 σ k5
    else
      (if x5 = 0 then
        ((rd tM σ 52 x6).bind fun v15 =>
        if v15 = x1 then
          ((rd tM σ 53 x6).bind fun v16 =>
          (rd tM σ 54 x6).bind fun v17 =>
          if (f_X11_in x4.toInt64 v16.toInt64 v17.toInt64) = 0 then
            f_X11_lostBy_71 x1 x2 x3 x4 x6 σ (f_X11_lostBy_17 x1 x2 x3 x4 σ k5 n) k5
          else
            f_X11_lostBy_67 x1 x2 x3 x4 x6 σ (f_X11_lostBy_17 x1 x2 x3 x4 σ k5 n) k5)
        else
          f_X11_lostBy_71 x1 x2 x3 x4 x6 σ (f_X11_lostBy_17 x1 x2 x3 x4 σ k5 n) k5)
      else
        f_X11_lostBy_67 x1 x2 x3 x4 x6 σ (f_X11_lostBy_17 x1 x2 x3 x4 σ k5 n) k5)
def f_X11_lostBy_5 (x1 : Int32) (x2 : Int32) (σ : St) : Nat → Int32 → Int32 → Option (Int32)
  | 0, _, _ => none
  | n + 1, x3, x4 =>
    if x2 < x4 then
      some x3
    else
      f_X11_lostBy_17 x1 x2 x3 x4 σ (f_X11_lostBy_5 x1 x2 σ n) FU 0 0
def f_X11_lostBy (x1 : Int32) (x2 : Int32) (σ : St) : Option (Int32) :=
  f_X11_lostBy_5 x1 x2 σ FU 0 0
def f_X11_lost_24 (σ : St) : Option (Int32) :=
  some (-1)
def f_X11_lost (x1 : Int32) (x2 : Int32) (σ : St) : Option (Int32) :=
  if (f_X11_isTown x1 σ) = 0 then
    f_X11_lost_24 σ
  else
    (if (f_X11_isWeek x2) = 0 then
      f_X11_lost_24 σ
    else
      ((f_X11_lostBy x1 x2 σ).bind fun v3 =>
      some v3))
def f_X11_gaveWay_25 (σ : St) : Option (Int32) :=
  some 0
def f_X11_gaveWay (x1 : Int32) (x2 : Int32) (σ : St) : Option (Int32) :=
  (f_X11_lostBy x1 x2 σ).bind fun v5 =>
  if v5 ≤ 0 then
    f_X11_gaveWay_25 σ
  else
    ((rd tM σ 50 x1).bind fun v6 =>
    if v5 < v6 then
      f_X11_gaveWay_25 σ
    else
      some 1)
def f_X11_yields_12 (x1 : Int32) (σ : St) : Nat → Int32 → Option (Int32)
  | 0, _ => none
  | n + 1, x2 =>
    if 100 ≤ x2 then
      some (-2)
    else
      ((f_X11_gaveWay x1 x2 σ).bind fun v5 =>
      if v5 = 0 then
        (bnd (x2 + 1 : Int32) fun v6 =>
        f_X11_yields_12 x1 σ n v6)
      else
        some x2)
def f_X11_yields (x1 : Int32) (σ : St) : Option (Int32) :=
  if (f_X11_isTown x1 σ) = 0 then
    some (-1)
  else
    f_X11_yields_12 x1 σ FU 0
def f_X11_sideYields_84 (x1 : Int32) (x2 : Int32) (x3 : Int32) (x4 : Int32) (x5 : Int32) (σ : St) (k25 : Int32 → Int32 → Int32 → Option (Int32)) (k11 : Int32 → Option (Int32)) : Option (Int32) :=
  bnd (x5 + 1 : Int32) fun v23 =>
  k25 x3 x4 v23
def f_X11_sideYields_81 (x1 : Int32) (x2 : Int32) (x3 : Int32) (x5 : Int32) (y0 : Int32) (y1 : Int32) (σ : St) (k25 : Int32 → Int32 → Int32 → Option (Int32)) (k11 : Int32 → Option (Int32)) : Option (Int32) :=
  bnd (y0 + y1 : Int32) fun v22 =>
  f_X11_sideYields_84 x1 x2 x3 v22 x5 σ k25 k11
def f_X11_sideYields_90 (x1 : Int32) (x2 : Int32) (x3 : Int32) (x4 : Int32) (σ : St) (k11 : Int32 → Option (Int32)) : Option (Int32) :=
  if (2 * x4) ≤ x3 then
    (bnd (x2 + 1 : Int32) fun v24 =>
    k11 v24)
  else
    some x2
def f_X11_sideYields_25 (x1 : Int32) (x2 : Int32) (σ : St) (k11 : Int32 → Option (Int32)) : Nat → Int32 → Int32 → Int32 → Option (Int32)
  | 0, _, _, _ => none
  | n + 1, x3, x4, x5 =>
    if (gF σ 71) ≤ x5 then
      f_X11_sideYields_90 x1 x2 x3 x4 σ k11
    else
      ((rd tM σ 48 x5).bind fun v17 =>
      if v17 = x1 then
        ((rd tM σ 49 x5).bind fun v18 =>
        bnd (x3 + v18 : Int32) fun v19 =>
        (f_X11_gaveWay x5 x2 σ).bind fun v20 =>
        if v20 = 0 then
          f_X11_sideYields_81 x1 x2 v19 x5 x4 0 σ (f_X11_sideYields_25 x1 x2 σ k11 n) k11
        else
          ((rd tM σ 49 x5).bind fun v21 =>
          f_X11_sideYields_81 x1 x2 v19 x5 x4 v21 σ (f_X11_sideYields_25 x1 x2 σ k11 n) k11))
      else
        f_X11_sideYields_84 x1 x2 x3 x4 x5 σ (f_X11_sideYields_25 x1 x2 σ k11 n) k11)
def f_X11_sideYields_11 (x1 : Int32) (σ : St) : Nat → Int32 → Option (Int32)
  | 0, _ => none
  | n + 1, x2 =>
    if 100 ≤ x2 then
      some (-2)
    else
      f_X11_sideYields_25 x1 x2 σ (f_X11_sideYields_11 x1 σ n) FU 0 0 0
def f_X11_sideYields (x1 : Int32) (σ : St) : Option (Int32) :=
  if (f_X11_isSide x1) = 0 then
    some (-1)
  else
    f_X11_sideYields_11 x1 σ FU 0
def f_X11_term (x1 : Int32) (x2 : Int32) (σ : St) : Option (Int32 × St) :=
  if (gF σ 80) = 9 then
    some ((-1), σ)
  else
    (if (f_X11_in x1.toInt64 (-9999) 9999) = 0 then
      some ((-1), σ)
    else
      (if (f_X11_in x2.toInt64 (-9999) 9999) = 0 then
        some ((-1), σ)
      else
        ((wr tM σ 55 (gF σ 80) x1).bind fun σ7 =>
        (wr tM σ7 56 (gF σ7 80) x2).bind fun σ8 =>
        bnd (sF σ8 80 ((gF σ8 80) + 1)) fun σ9 =>
        some ((gF σ9 80) - 1, σ9))))
def f_X11_sign_114 (x1 : Int32) (x2 : Int32) (x3 : Int32) (x4 : Int32) (x5 : Int32) (x6 : Int32) (x7 : Int32) (x8 : Int32) (x9 : Int32) (x10 : Int32) (σ : St) (k65 : Int32 → Int32 → Int32 → Int32 → Option (Int32)) (k42 : Int32 → Int32 → Int32 → Int32 → Option (Int32)) : Option (Int32) :=
  bnd (x10 + 1 : Int32) fun v22 =>
  k65 x7 x8 x9 v22
def f_X11_sign_181 (x1 : Int32) (x2 : Int32) (x3 : Int32) (x4 : Int32) (x5 : Int32) (x6 : Int32) (σ : St) (k42 : Int32 → Int32 → Int32 → Int32 → Option (Int32)) : Option (Int32) :=
  bnd (x6 + 1 : Int32) fun v24 =>
  k42 x3 x4 x5 v24
def f_X11_sign_170 (x1 : Int32) (x2 : Int32) (x6 : Int32) (x7 : Int32) (x10 : Int32) (σ : St) (k42 : Int32 → Int32 → Int32 → Int32 → Option (Int32)) : Option (Int32) :=
  f_X11_sign_181 x1 x2 x6 x7 x10 x6 σ k42
def f_X11_sign_120 (x1 : Int32) (x2 : Int32) (x3 : Int32) (x4 : Int32) (x5 : Int32) (x6 : Int32) (x7 : Int32) (x8 : Int32) (x9 : Int32) (σ : St) (k42 : Int32 → Int32 → Int32 → Int32 → Option (Int32)) : Option (Int32) :=
  bnd (f_X11_without (x8 - x9) : Int32) fun v23 =>
  if x8 < x1 then
    f_X11_sign_181 x1 x2 x3 x4 x5 x6 σ k42
  else
    (if x9 < x2 then
      f_X11_sign_181 x1 x2 x3 x4 x5 x6 σ k42
    else
      (if x3 < 0 then
        f_X11_sign_170 x1 x2 x6 x7 v23 σ k42
      else
        (if x4 < x7 then
          f_X11_sign_181 x1 x2 x3 x4 x5 x6 σ k42
        else
          (if x7 = x4 then
            (if v23 < x5 then
              f_X11_sign_170 x1 x2 x6 x7 v23 σ k42
            else
              f_X11_sign_181 x1 x2 x3 x4 x5 x6 σ k42)
          else
            f_X11_sign_170 x1 x2 x6 x7 v23 σ k42))))
def f_X11_sign_65 (x1 : Int32) (x2 : Int32) (x3 : Int32) (x4 : Int32) (x5 : Int32) (x6 : Int32) (σ : St) (k42 : Int32 → Int32 → Int32 → Int32 → Option (Int32)) : Nat → Int32 → Int32 → Int32 → Int32 → Option (Int32)
  | 0, _, _, _, _ => none
  | n + 1, x7, x8, x9, x10 =>
    if (gF σ 80) ≤ x10 then
      f_X11_sign_120 x1 x2 x3 x4 x5 x6 x7 x8 x9 σ k42
    else
      (if ((x6 >>> (x10 &&& 31)) &&& 1) = 0 then
        f_X11_sign_114 x1 x2 x3 x4 x5 x6 x7 x8 x9 x10 σ (f_X11_sign_65 x1 x2 x3 x4 x5 x6 σ k42 n) k42
      else
        (bnd (x7 + 1 : Int32) fun v17 =>
        (rd tM σ 55 x10).bind fun v18 =>
        bnd (x8 + v18 : Int32) fun v19 =>
        (rd tM σ 56 x10).bind fun v20 =>
        bnd (x9 + v20 : Int32) fun v21 =>
        f_X11_sign_114 x1 x2 x3 x4 x5 x6 v17 v19 v21 x10 σ (f_X11_sign_65 x1 x2 x3 x4 x5 x6 σ k42 n) k42))
def f_X11_sign_42 (x1 : Int32) (x2 : Int32) (σ : St) : Nat → Int32 → Int32 → Int32 → Int32 → Option (Int32)
  | 0, _, _, _, _ => none
  | n + 1, x3, x4, x5, x6 =>
    if (1 <<< ((gF σ 80) &&& 31)) ≤ x6 then
      some x3
    else
      f_X11_sign_65 x1 x2 x3 x4 x5 x6 σ (f_X11_sign_42 x1 x2 σ n) FU 0 0 0 0
def f_X11_sign (x1 : Int32) (x2 : Int32) (σ : St) : Option (Int32) :=
  if (f_X11_in x1.toInt64 (-99999) 99999) = 0 then
    some (-1)
  else
    (if (f_X11_in x2.toInt64 (-99999) 99999) = 0 then
      some (-1)
    else
      f_X11_sign_42 x1 x2 σ FU (-2) 0 0 0)
def f_X11_box (x1 : Int32) (x2 : Int32) (x3 : Int32) (σ : St) : Option (Int32 × St) :=
  if (gF σ 83) = 6 then
    some ((-1), σ)
  else
    (if (f_X11_in x1.toInt64 0 9999) = 0 then
      some ((-1), σ)
    else
      (if (f_X11_in x2.toInt64 0 999) = 0 then
        some ((-1), σ)
      else
        (if (f_X11_in x3.toInt64 0 99) = 0 then
          some ((-1), σ)
        else
          ((wr tM σ 57 (gF σ 83) x1).bind fun σ9 =>
          (wr tM σ9 58 (gF σ9 83) x2).bind fun σ10 =>
          (wr tM σ10 59 (gF σ10 83) x3).bind fun σ11 =>
          bnd (sF σ11 83 ((gF σ11 83) + 1)) fun σ12 =>
          some ((gF σ12 83) - 1, σ12)))))
def f_X11_cut (x1 : Int32) (x2 : Int32) (x3 : Int32) (σ : St) : Option (Int32) :=
  (rd tM σ 59 x1).bind fun v5 =>
  bnd ((x2 * v5) - (10 * x3) : Int32) fun v6 =>
  bnd (if 0 ≤ v6 then v6 else 0 : Int32) fun v7 =>
  some v7
def f_X11_caughtIn (x1 : Int32) (x2 : Int32) (σ : St) : Option (Int32) :=
  (rd tM σ 57 x1).bind fun v3 =>
  (rd tM σ 58 x1).bind fun v4 =>
  some ((x2 * v3) - ((x2 * (x2 - 1)) * v4))
def f_X11_place (x0 : Int32) (x1 : Int32) (x2 : Int32) : Int32 :=
  ((91 * x0) + (7 * x1)) + x2
def f_X11_worth (x1 : Int32) (x2 : Int32) (x3 : Int32) (σ : St) : Option (Int64) :=
  (f_X11_cut x1 x2 x3 σ).bind fun v3 =>
  (f_X11_caughtIn x1 x2 σ).bind fun v4 =>
  some ((1000000 * v3.toInt64) - v4.toInt64)
def f_X11_bestFrom_85 (x1 : Int32) (x2 : Int32) (x3 : Int32) (x4 : Int64) (x6 : Int32) (x7 : Int32) (σ : St) (k17 : Int64 → Int32 → Option (Int64)) (k8 : Int64 → Int32 → Option (Int64)) : Option (Int64) :=
  bnd (x7 + 1 : Int32) fun v17 =>
  k17 x4 v17
def f_X11_bestFrom_91 (x1 : Int32) (x2 : Int32) (x3 : Int32) (x4 : Int64) (x6 : Int32) (σ : St) (k8 : Int64 → Int32 → Option (Int64)) : Option (Int64) :=
  bnd (x6 + 1 : Int32) fun v18 =>
  k8 x4 v18
def f_X11_bestFrom_17 (x1 : Int32) (x2 : Int32) (x3 : Int32) (x6 : Int32) (σ : St) (k8 : Int64 → Int32 → Option (Int64)) : Nat → Int64 → Int32 → Option (Int64)
  | 0, _, _ => none
  | n + 1, x4, x7 =>
    if x3 < x7 then
      f_X11_bestFrom_91 x1 x2 x3 x4 x6 σ k8
    else
      ((rl tM σ 60 (f_X11_place (x1 + 1) (x2 - x6) (x3 - x7))).bind fun v13 =>
      if 1000000000000 ≤ v13 then
        f_X11_bestFrom_85 x1 x2 x3 x4 x6 x7 σ (f_X11_bestFrom_17 x1 x2 x3 x6 σ k8 n) k8
      else
        ((f_X11_worth x1 x6 x7 σ).bind fun v14 =>
        if x4 ≤ (v14 + v13) then
          f_X11_bestFrom_85 x1 x2 x3 x4 x6 x7 σ (f_X11_bestFrom_17 x1 x2 x3 x6 σ k8 n) k8
        else
          ((f_X11_worth x1 x6 x7 σ).bind fun v15 =>
          bnd (v15 + v13 : Int64) fun v16 =>
          f_X11_bestFrom_85 x1 x2 x3 v16 x6 x7 σ (f_X11_bestFrom_17 x1 x2 x3 x6 σ k8 n) k8)))
def f_X11_bestFrom_8 (x1 : Int32) (x2 : Int32) (x3 : Int32) (σ : St) : Nat → Int64 → Int32 → Option (Int64)
  | 0, _, _ => none
  | n + 1, x4, x6 =>
    if x2 < x6 then
      some x4
    else
      f_X11_bestFrom_17 x1 x2 x3 x6 σ (f_X11_bestFrom_8 x1 x2 x3 σ n) FU x4 0
def f_X11_bestFrom (x1 : Int32) (x2 : Int32) (x3 : Int32) (σ : St) : Option (Int64) :=
  f_X11_bestFrom_8 x1 x2 x3 σ FU 1000000000000 0
def f_X11_gives_78 (x1 : Int32) (x4 : Int32) (x5 : Int32) (σ : St) : Option (St) :=
  (wr tM σ 61 x1 x4).bind fun σ18 =>
  (wr tM σ18 62 x1 x5).bind fun σ19 =>
  some σ19
def f_X11_gives_95 (x1 : Int32) (x2 : Int32) (x3 : Int32) (x4 : Int32) (x5 : Int32) (σ : St) (k12 : Int32 → Option (St)) (k3 : Int32 → Option (St)) : Option (St) :=
  bnd (x5 + 1 : Int32) fun v20 =>
  k12 v20
def f_X11_gives_101 (x1 : Int32) (x2 : Int32) (x3 : Int32) (x4 : Int32) (σ : St) (k3 : Int32 → Option (St)) : Option (St) :=
  bnd (x4 + 1 : Int32) fun v21 =>
  k3 v21
def f_X11_gives_12 (x1 : Int32) (x2 : Int32) (x3 : Int32) (x4 : Int32) (σ : St) (k3 : Int32 → Option (St)) : Nat → Int32 → Option (St)
  | 0, _ => none
  | n + 1, x5 =>
    if x3 < x5 then
      f_X11_gives_101 x1 x2 x3 x4 σ k3
    else
      ((rl tM σ 60 (f_X11_place (x1 + 1) (x2 - x4) (x3 - x5))).bind fun v15 =>
      if 1000000000000 ≤ v15 then
        f_X11_gives_95 x1 x2 x3 x4 x5 σ (f_X11_gives_12 x1 x2 x3 x4 σ k3 n) k3
      else
        ((f_X11_worth x1 x4 x5 σ).bind fun v16 =>
        (rl tM σ 60 (f_X11_place x1 x2 x3)).bind fun v17 =>
        if (v16 + v15) = v17 then
          f_X11_gives_78 x1 x4 x5 σ
        else
          f_X11_gives_95 x1 x2 x3 x4 x5 σ (f_X11_gives_12 x1 x2 x3 x4 σ k3 n) k3))
def f_X11_gives_3 (x1 : Int32) (x2 : Int32) (x3 : Int32) (σ : St) : Nat → Int32 → Option (St)
  | 0, _ => none
  | n + 1, x4 =>
    if x2 < x4 then
      some σ
    else
      f_X11_gives_12 x1 x2 x3 x4 σ (f_X11_gives_3 x1 x2 x3 σ n) FU 0
def f_X11_gives (x1 : Int32) (x2 : Int32) (x3 : Int32) (σ : St) : Option (St) :=
  f_X11_gives_3 x1 x2 x3 σ FU 0
def f_X11_escort_74 (x1 : Int32) (x2 : Int32) (x3 : Int32) (x4 : Int32) (y1 : Int32) (y2 : Int64) (σ : St) (k37 : Int32 → St → Option (Int32 × St)) (k28 : Int32 → St → Option (Int32 × St)) : Option (Int32 × St) :=
  (wl tM σ 60 y1 y2).bind fun σ53 =>
  bnd (x4 + 1 : Int32) fun v54 =>
  k37 v54 σ53
def f_X11_escort_71 (x1 : Int32) (x2 : Int32) (x3 : Int32) (x4 : Int32) (y1 : Int32) (σ : St) (k37 : Int32 → St → Option (Int32 × St)) (k28 : Int32 → St → Option (Int32 × St)) : Option (Int32 × St) :=
  f_X11_escort_74 x1 x2 x3 x4 y1 1000000000000 σ k37 k28
def f_X11_escort_81 (x1 : Int32) (x2 : Int32) (x3 : Int32) (σ : St) (k28 : Int32 → St → Option (Int32 × St)) : Option (Int32 × St) :=
  bnd (x3 + 1 : Int32) fun v55 =>
  k28 v55 σ
def f_X11_escort_37 (x1 : Int32) (x2 : Int32) (x3 : Int32) (k28 : Int32 → St → Option (Int32 × St)) : Nat → Int32 → St → Option (Int32 × St)
  | 0, _, _ => none
  | n + 1, x4, σ =>
    if 6 < x4 then
      f_X11_escort_81 x1 x2 x3 σ k28
    else
      (if x3 = 0 then
        (if x4 = 0 then
          f_X11_escort_74 x1 x2 x3 x4 (f_X11_place (gF σ 83) x3 x4) 0 σ (f_X11_escort_37 x1 x2 x3 k28 n) k28
        else
          f_X11_escort_71 x1 x2 x3 x4 (f_X11_place (gF σ 83) x3 x4) σ (f_X11_escort_37 x1 x2 x3 k28 n) k28)
      else
        f_X11_escort_71 x1 x2 x3 x4 (f_X11_place (gF σ 83) x3 x4) σ (f_X11_escort_37 x1 x2 x3 k28 n) k28)
def f_X11_escort_144 (x1 : Int32) (x2 : Int32) (x3 : Int32) (x4 : Int32) (σ : St) (k101 : Int32 → St → Option (Int32 × St)) (k94 : Int32 → St → Option (Int32 × St)) : Option (Int32 × St) :=
  bnd (x4 + 1 : Int32) fun v60 =>
  k101 v60 σ
def f_X11_escort_110 (x1 : Int32) (x2 : Int32) (x3 : Int32) (x4 : Int32) (k101 : Int32 → St → Option (Int32 × St)) (k94 : Int32 → St → Option (Int32 × St)) : Nat → Int32 → St → Option (Int32 × St)
  | 0, _, _ => none
  | n + 1, x5, σ =>
    if x2 < x5 then
      f_X11_escort_144 x1 x2 x3 x4 σ k101 k94
    else
      ((f_X11_bestFrom x3 x4 x5 σ).bind fun v57 =>
      (wl tM σ 60 (f_X11_place x3 x4 x5) v57).bind fun σ58 =>
      bnd (x5 + 1 : Int32) fun v59 =>
      f_X11_escort_110 x1 x2 x3 x4 k101 k94 n v59 σ58)
def f_X11_escort_150 (x1 : Int32) (x2 : Int32) (x3 : Int32) (σ : St) (k94 : Int32 → St → Option (Int32 × St)) : Option (Int32 × St) :=
  bnd (x3 + (-1) : Int32) fun v61 =>
  k94 v61 σ
def f_X11_escort_101 (x1 : Int32) (x2 : Int32) (x3 : Int32) (k94 : Int32 → St → Option (Int32 × St)) : Nat → Int32 → St → Option (Int32 × St)
  | 0, _, _ => none
  | n + 1, x4, σ =>
    if x1 < x4 then
      f_X11_escort_150 x1 x2 x3 σ k94
    else
      f_X11_escort_110 x1 x2 x3 x4 (f_X11_escort_101 x1 x2 x3 k94 n) k94 FU 0 σ
def f_X11_escort_286 (x5 : Int32) (σ : St) : Option (Int32 × St) :=
  bnd (sF σ 88 1) fun σ77 =>
  bnd (sF σ77 89 (gF σ77 83)) fun σ78 =>
  some (x5, σ78)
def f_X11_escort_193 : Nat → Int32 → Int32 → Int32 → Int32 → St → Option (Int32 × St)
  | 0, _, _, _, _, _ => none
  | n + 1, x3, x4, x5, x6, σ =>
    if (gF σ 83) ≤ x6 then
      f_X11_escort_286 x5 σ
    else
      ((f_X11_gives x6 x3 x4 σ).bind fun σ64 =>
      (rd tM σ64 61 x6).bind fun v65 =>
      bnd (x3 - v65 : Int32) fun v66 =>
      (rd tM σ64 62 x6).bind fun v67 =>
      bnd (x4 - v67 : Int32) fun v68 =>
      (rd tM σ64 61 x6).bind fun v69 =>
      (rd tM σ64 62 x6).bind fun v70 =>
      (f_X11_cut x6 v69 v70 σ64).bind fun v71 =>
      bnd (x5 + v71 : Int32) fun v72 =>
      (rd tM σ64 61 x6).bind fun v73 =>
      (f_X11_caughtIn x6 v73 σ64).bind fun v74 =>
      bnd (sF σ64 90 ((gF σ64 90) + v74)) fun σ75 =>
      bnd (x6 + 1 : Int32) fun v76 =>
      f_X11_escort_193 n v66 v68 v72 v76 σ75)
def f_X11_escort_156 (x1 : Int32) (x2 : Int32) (σ : St) : Option (Int32 × St) :=
  (rl tM σ 60 (f_X11_place 0 x1 x2)).bind fun v62 =>
  if v62 < 1000000000000 then
    (bnd (sF σ 90 0) fun σ63 =>
    f_X11_escort_193 FU x1 x2 0 0 σ63)
  else
    some ((-2), σ)
def f_X11_escort_94 (x1 : Int32) (x2 : Int32) : Nat → Int32 → St → Option (Int32 × St)
  | 0, _, _ => none
  | n + 1, x3, σ =>
    if x3 < 0 then
      f_X11_escort_156 x1 x2 σ
    else
      f_X11_escort_101 x1 x2 x3 (f_X11_escort_94 x1 x2 n) FU 0 σ
def f_X11_escort_87 (x1 : Int32) (x2 : Int32) (σ : St) : Option (Int32 × St) :=
  bnd ((gF σ 83) - 1 : Int32) fun v56 =>
  f_X11_escort_94 x1 x2 FU v56 σ
def f_X11_escort_28 (x1 : Int32) (x2 : Int32) : Nat → Int32 → St → Option (Int32 × St)
  | 0, _, _ => none
  | n + 1, x3, σ =>
    if 12 < x3 then
      f_X11_escort_87 x1 x2 σ
    else
      f_X11_escort_37 x1 x2 x3 (f_X11_escort_28 x1 x2 n) FU 0 σ
def f_X11_escort (x1 : Int32) (x2 : Int32) (σ : St) : Option (Int32 × St) :=
  if (f_X11_in x1.toInt64 0 12) = 0 then
    some ((-1), σ)
  else
    (if (f_X11_in x2.toInt64 0 6) = 0 then
      some ((-1), σ)
    else
      f_X11_escort_28 x1 x2 FU 0 σ)
def f_X11_escorts (x1 : Int32) (σ : St) : Option (Int32) :=
  if (gF σ 88) = 0 then
    some (-1000000000)
  else
    (if x1 = 0 then
      some (gF σ 90)
    else
      (if (f_X11_in x1.toInt64 100 ((99 + (gF σ 89)).toInt64)) = 0 then
        (if (f_X11_in x1.toInt64 200 ((199 + (gF σ 89)).toInt64)) = 0 then
          some (-1000000000)
        else
          ((rd tM σ 62 (x1 - 200)).bind fun v5 =>
          some v5))
      else
        ((rd tM σ 61 (x1 - 100)).bind fun v6 =>
        some v6)))
def f_X11_count (x1 : Int32) (σ : St) : Option (Int32) :=
  if x1 = 0 then
    some (gF σ 0)
  else
  if x1 = 1 then
    some (gF σ 2)
  else
  if x1 = 2 then
    some (gF σ 7)
  else
  if x1 = 3 then
    ((rd tM σ 15 0).bind fun v5 =>
    some v5)
  else
  if x1 = 4 then
    ((rd tM σ 15 1).bind fun v6 =>
    some v6)
  else
  if x1 = 5 then
    some (gF σ 25)
  else
  if x1 = 6 then
    some (gF σ 53)
  else
  if x1 = 7 then
    some (gF σ 71)
  else
  if x1 = 8 then
    some (gF σ 76)
  else
  if x1 = 9 then
    some (gF σ 80)
  else
  if x1 = 10 then
    some (gF σ 83)
  else
  if x1 = 11 then
    some (gF σ 24)
  else
  some (-1)
