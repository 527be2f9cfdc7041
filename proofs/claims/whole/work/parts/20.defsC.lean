def f_X0_add (x1 : Int32) (x2 : Int32) (x3 : Int32) (σ : St) : Option (Int32 × St) :=
  if (gF σ 1003) < 6 then
    ((wr tC σ 65 (gF σ 1003) x1).bind fun σ9 =>
    (wr tC σ9 66 (gF σ9 1003) x2).bind fun σ10 =>
    (wr tC σ10 67 (gF σ10 1003) x3).bind fun σ11 =>
    bnd (sF σ11 1003 ((gF σ11 1003) + 1)) fun σ12 =>
    some ((gF σ12 1003) - 1, σ12))
  else
    some ((-1), σ)
def f_X10_lies_14 : Int32 :=
  0
def f_X10_lies (x0 : Int32) (x1 : Int32) (x2 : Int32) : Int32 :=
  if x0 < x1 then
    f_X10_lies_14
  else
    (if x2 < x0 then
      f_X10_lies_14
    else
      1)
def f_X0_cutOf (x1 : Int32) (x2 : Int32) (x3 : Int32) (σ : St) : Option (Int32) :=
  if (f_X10_lies x1 0 ((gF σ 1003) - 1)) = 0 then
    some 0
  else
    ((rd tC σ 67 x1).bind fun v3 =>
    some (f_J9_max_7cf53 0 ((x2 * v3) - (10 * x3))))
def f_X0_caughtOf (x1 : Int32) (x2 : Int32) (σ : St) : Option (Int32) :=
  if (f_X10_lies x1 0 ((gF σ 1003) - 1)) = 0 then
    some 0
  else
    ((rd tC σ 65 x1).bind fun v5 =>
    (rd tC σ 66 x1).bind fun v6 =>
    some ((x2 * v5) - ((x2 * (x2 - 1)) * v6)))
def f_X0_weightOf (x1 : Int32) (x2 : Int32) (x3 : Int32) (σ : St) : Option (Int64) :=
  (f_X0_cutOf x1 x2 x3 σ).bind fun v3 =>
  (f_X0_caughtOf x1 x2 σ).bind fun v4 =>
  some ((v3.toInt64 * 1000000) - v4.toInt64)
def f_X0_placeOf (x0 : Int32) (x1 : Int32) (x2 : Int32) : Int32 :=
  (((x0 * 13) + x1) * 7) + x2
def f_X0_leastFrom (x1 : Int32) (x2 : Int32) (x3 : Int32) (σ : St) : Option (Int64) :=
  bnd (f_X0_placeOf x1 x2 x3 : Int32) fun v5 =>
  if (f_X10_lies v5 0 (637 - 1)) = 0 then
    some 1000000000000
  else
    ((rl tC σ 68 v5).bind fun v6 =>
    some v6)
def f_J7_fill_d0a16_6 (a0 : Nat) (x1 : Int64) (x4 : Int32) : Nat → Int32 → St → Option (St)
  | 0, _, _ => none
  | n + 1, x3, σ =>
    if x4 ≤ x3 then
      some σ
    else
      ((wl tC σ a0 x3 x1).bind fun σ8 =>
      bnd (x3 + 1 : Int32) fun v9 =>
      f_J7_fill_d0a16_6 a0 x1 x4 n v9 σ8)
def f_J7_fill_d0a16 (a0 : Nat) (x1 : Int64) (σ : St) : Option (St) :=
  bnd (lenI tC σ a0 : Int32) fun v7 =>
  f_J7_fill_d0a16_6 a0 x1 v7 FU 0 σ
def f_X0_weigh_68 (x1 : Int32) (x2 : Int32) (x3 : Int32) (x4 : Int64) (x6 : Int32) (x7 : Int32) (σ : St) (k17 : Int64 → Int32 → Option (Int64)) (k8 : Int64 → Int32 → Option (Int64)) : Option (Int64) :=
  bnd (x7 + 1 : Int32) fun v14 =>
  k17 x4 v14
def f_X0_weigh_74 (x1 : Int32) (x2 : Int32) (x3 : Int32) (x4 : Int64) (x6 : Int32) (σ : St) (k8 : Int64 → Int32 → Option (Int64)) : Option (Int64) :=
  bnd (x6 + 1 : Int32) fun v15 =>
  k8 x4 v15
def f_X0_weigh_17 (x1 : Int32) (x2 : Int32) (x3 : Int32) (x6 : Int32) (σ : St) (k8 : Int64 → Int32 → Option (Int64)) : Nat → Int64 → Int32 → Option (Int64)
  | 0, _, _ => none
  | n + 1, x4, x7 =>
    if x3 < x7 then
      f_X0_weigh_74 x1 x2 x3 x4 x6 σ k8
    else
      ((f_X0_leastFrom (x1 + 1) (x2 - x6) (x3 - x7) σ).bind fun v11 =>
      if 1000000000000 ≤ v11 then
        f_X0_weigh_68 x1 x2 x3 x4 x6 x7 σ (f_X0_weigh_17 x1 x2 x3 x6 σ k8 n) k8
      else
        ((f_X0_weightOf x1 x6 x7 σ).bind fun v12 =>
        bnd (f_J9_min_f86c9 x4 (v11 + v12) : Int64) fun v13 =>
        f_X0_weigh_68 x1 x2 x3 v13 x6 x7 σ (f_X0_weigh_17 x1 x2 x3 x6 σ k8 n) k8))
def f_X0_weigh_8 (x1 : Int32) (x2 : Int32) (x3 : Int32) (σ : St) : Nat → Int64 → Int32 → Option (Int64)
  | 0, _, _ => none
  | n + 1, x4, x6 =>
    if x2 < x6 then
      some x4
    else
      f_X0_weigh_17 x1 x2 x3 x6 σ (f_X0_weigh_8 x1 x2 x3 σ n) FU x4 0
def f_X0_weigh (x1 : Int32) (x2 : Int32) (x3 : Int32) (σ : St) : Option (Int64) :=
  f_X0_weigh_8 x1 x2 x3 σ FU 1000000000000 0
def f_X0_weighFrom_60 (x1 : Int32) (x2 : Int32) (x3 : Int32) (x4 : Int32) (σ : St) (k3 : Int32 → St → Option (St)) : Option (St) :=
  bnd (x4 + 1 : Int32) fun v12 =>
  k3 v12 σ
def f_X0_weighFrom_19 (x1 : Int32) (x2 : Int32) (x3 : Int32) (x4 : Int32) (k3 : Int32 → St → Option (St)) : Nat → Int32 → St → Option (St)
  | 0, _, _ => none
  | n + 1, x5, σ =>
    if x3 < x5 then
      f_X0_weighFrom_60 x1 x2 x3 x4 σ k3
    else
      (if 6 < x5 then
        f_X0_weighFrom_60 x1 x2 x3 x4 σ k3
      else
        ((f_X0_weigh x1 x4 x5 σ).bind fun v9 =>
        (wl tC σ 68 (f_X0_placeOf x1 x4 x5) v9).bind fun σ10 =>
        bnd (x5 + 1 : Int32) fun v11 =>
        f_X0_weighFrom_19 x1 x2 x3 x4 k3 n v11 σ10))
def f_X0_weighFrom_3 (x1 : Int32) (x2 : Int32) (x3 : Int32) : Nat → Int32 → St → Option (St)
  | 0, _, _ => none
  | n + 1, x4, σ =>
    if x2 < x4 then
      some σ
    else
      (if 12 < x4 then
        some σ
      else
        f_X0_weighFrom_19 x1 x2 x3 x4 (f_X0_weighFrom_3 x1 x2 x3 n) FU 0 σ)
def f_X0_weighFrom (x1 : Int32) (x2 : Int32) (x3 : Int32) (σ : St) : Option (St) :=
  f_X0_weighFrom_3 x1 x2 x3 FU 0 σ
def f_X0_takeIn_71 (x1 : Int32) (x6 : Int32) (x7 : Int32) (σ : St) : Option (St) :=
  (wr tC σ 69 x1 x6).bind fun σ18 =>
  (wr tC σ18 70 x1 x7).bind fun σ19 =>
  some σ19
def f_X0_takeIn_88 (x1 : Int32) (x2 : Int32) (x3 : Int32) (x4 : Int64) (x6 : Int32) (x7 : Int32) (σ : St) (k21 : Int32 → Option (St)) (k12 : Int32 → Option (St)) : Option (St) :=
  bnd (x7 + 1 : Int32) fun v20 =>
  k21 v20
def f_X0_takeIn_94 (x1 : Int32) (x2 : Int32) (x3 : Int32) (x4 : Int64) (x6 : Int32) (σ : St) (k12 : Int32 → Option (St)) : Option (St) :=
  bnd (x6 + 1 : Int32) fun v21 =>
  k12 v21
def f_X0_takeIn_21 (x1 : Int32) (x2 : Int32) (x3 : Int32) (x4 : Int64) (x6 : Int32) (σ : St) (k12 : Int32 → Option (St)) : Nat → Int32 → Option (St)
  | 0, _ => none
  | n + 1, x7 =>
    if x3 < x7 then
      f_X0_takeIn_94 x1 x2 x3 x4 x6 σ k12
    else
      ((f_X0_leastFrom (x1 + 1) (x2 - x6) (x3 - x7) σ).bind fun v16 =>
      if 1000000000000 ≤ v16 then
        f_X0_takeIn_88 x1 x2 x3 x4 x6 x7 σ (f_X0_takeIn_21 x1 x2 x3 x4 x6 σ k12 n) k12
      else
        ((f_X0_weightOf x1 x6 x7 σ).bind fun v17 =>
        if (v16 + v17) = x4 then
          f_X0_takeIn_71 x1 x6 x7 σ
        else
          f_X0_takeIn_88 x1 x2 x3 x4 x6 x7 σ (f_X0_takeIn_21 x1 x2 x3 x4 x6 σ k12 n) k12))
def f_X0_takeIn_12 (x1 : Int32) (x2 : Int32) (x3 : Int32) (x4 : Int64) (σ : St) : Nat → Int32 → Option (St)
  | 0, _ => none
  | n + 1, x6 =>
    if x2 < x6 then
      some σ
    else
      f_X0_takeIn_21 x1 x2 x3 x4 x6 σ (f_X0_takeIn_12 x1 x2 x3 x4 σ n) FU 0
def f_X0_takeIn (x1 : Int32) (x2 : Int32) (x3 : Int32) (σ : St) : Option (St) :=
  (f_X0_leastFrom x1 x2 x3 σ).bind fun v15 =>
  f_X0_takeIn_12 x1 x2 x3 v15 σ FU 0
def f_X0_takeFirst_24 : Nat → Int32 → Int32 → Int32 → Int32 → St → Option (Int32 × St)
  | 0, _, _, _, _, _ => none
  | n + 1, x3, x4, x5, x6, σ =>
    if (gF σ 1003) ≤ x6 then
      some (x5, σ)
    else
      ((f_X0_takeIn x6 x3 x4 σ).bind fun σ33 =>
      (rd tC σ33 69 x6).bind fun v34 =>
      bnd (x3 - v34 : Int32) fun v35 =>
      (rd tC σ33 70 x6).bind fun v36 =>
      bnd (x4 - v36 : Int32) fun v37 =>
      (rd tC σ33 69 x6).bind fun v38 =>
      (rd tC σ33 70 x6).bind fun v39 =>
      (f_X0_cutOf x6 v38 v39 σ33).bind fun v40 =>
      bnd (x5 + v40 : Int32) fun v41 =>
      (rd tC σ33 69 x6).bind fun v42 =>
      (f_X0_caughtOf x6 v42 σ33).bind fun v43 =>
      bnd (sF σ33 1007 ((gF σ33 1007) + v43)) fun σ44 =>
      bnd (x6 + 1 : Int32) fun v45 =>
      f_X0_takeFirst_24 n v35 v37 v41 v45 σ44)
def f_X0_takeFirst (x1 : Int32) (x2 : Int32) (σ : St) : Option (Int32 × St) :=
  bnd (sF σ 1007 0) fun σ31 =>
  bnd (sF σ31 1008 (gF σ31 1003)) fun σ32 =>
  f_X0_takeFirst_24 FU x1 x2 0 0 σ32
def f_X0_give_49 (x1 : Int32) (x2 : Int32) (σ : St) : Option (Int32 × St) :=
  (f_X0_takeFirst x1 x2 σ).bind fun u18 =>
  some (u18.1, u18.2)
def f_X0_give_32 (x1 : Int32) (x2 : Int32) : Nat → Int32 → St → Option (Int32 × St)
  | 0, _, _ => none
  | n + 1, x3, σ =>
    if x3 < 0 then
      f_X0_give_49 x1 x2 σ
    else
      ((f_X0_weighFrom x3 x1 x2 σ).bind fun σ16 =>
      bnd (x3 + (-1) : Int32) fun v17 =>
      f_X0_give_32 x1 x2 n v17 σ16)
def f_X0_give (x1 : Int32) (x2 : Int32) (σ : St) : Option (Int32 × St) :=
  (f_J7_fill_d0a16 68 1000000000000 σ).bind fun σ13 =>
  (wl tC σ13 68 (f_X0_placeOf (gF σ13 1003) 0 0) 0).bind fun σ14 =>
  bnd ((gF σ14 1003) - 1 : Int32) fun v15 =>
  f_X0_give_32 x1 x2 FU v15 σ14
def f_X0_given (x1 : Int32) (σ : St) : Option (Int32) :=
  if x1 = 0 then
    some (gF σ 1007)
  else
    (if (f_X10_lies x1 100 (99 + (gF σ 1008))) = 0 then
      (if (f_X10_lies x1 200 (199 + (gF σ 1008))) = 0 then
        some (-1000000000)
      else
        ((rd tC σ 70 (x1 - 200)).bind fun v5 =>
        some v5))
    else
      ((rd tC σ 69 (x1 - 100)).bind fun v6 =>
      some v6))
def f_J7_fill_53178_5 (a0 : Nat) (x1 : Int32) (x3 : Int32) : Nat → Int32 → St → Option (St)
  | 0, _, _ => none
  | n + 1, x2, σ =>
    if x3 ≤ x2 then
      some σ
    else
      ((wr tC σ a0 x2 x1).bind fun σ8 =>
      bnd (x2 + 1 : Int32) fun v9 =>
      f_J7_fill_53178_5 a0 x1 x3 n v9 σ8)
def f_J7_fill_53178 (a0 : Nat) (x1 : Int32) (σ : St) : Option (St) :=
  bnd (lenI tC σ a0 : Int32) fun v7 =>
  f_J7_fill_53178_5 a0 x1 v7 FU 0 σ
def f_X1_layCell (x1 : Int32) (x2 : Int32) (x3 : Int32) (σ : St) : Option (St) :=
  bnd (((gF σ 600) * x2) + x1 : Int32) fun v17 =>
  if (f_X10_lies v17 0 24) = 0 then
    some σ
  else
    (bnd (if x1 ≤ 0 then 0 else 1 <<< (v17 &&& 31) : Int32) fun v18 =>
    bnd (sF σ 605 ((gF σ 605) ||| v18)) fun σ19 =>
    bnd (if ((gF σ19 600) - 1) ≤ x1 then 0 else 1 <<< (v17 &&& 31) : Int32) fun v20 =>
    bnd (sF σ19 606 ((gF σ19 606) ||| v20)) fun σ21 =>
    bnd (if x2 ≤ 0 then (-1) else v17 - (gF σ21 600) : Int32) fun v22 =>
    (wr tC σ21 46 (v17 * 5) v22).bind fun σ23 =>
    bnd (if x1 ≤ 0 then (-1) else v17 - 1 : Int32) fun v24 =>
    (wr tC σ23 46 ((v17 * 5) + 1) v24).bind fun σ25 =>
    (wr tC σ25 46 ((v17 * 5) + 2) v17).bind fun σ26 =>
    bnd (if ((gF σ26 600) - 1) ≤ x1 then (-1) else v17 + 1 : Int32) fun v27 =>
    (wr tC σ26 46 ((v17 * 5) + 3) v27).bind fun σ28 =>
    bnd (if (x3 - 1) ≤ x2 then (-1) else v17 + (gF σ28 600) : Int32) fun v29 =>
    (wr tC σ28 46 ((v17 * 5) + 4) v29).bind fun σ30 =>
    some σ30)
def f_X1_lay_122 (x1 : Int32) (x2 : Int32) (x4 : Int32) (σ : St) (k92 : Int32 → St → Option (St)) : Option (St) :=
  bnd (x4 + 1 : Int32) fun v38 =>
  k92 v38 σ
def f_X1_lay_101 (x1 : Int32) (x2 : Int32) (x4 : Int32) (k92 : Int32 → St → Option (St)) : Nat → Int32 → St → Option (St)
  | 0, _, _ => none
  | n + 1, x5, σ =>
    if x1 ≤ x5 then
      f_X1_lay_122 x1 x2 x4 σ k92
    else
      ((f_X1_layCell x5 x4 x2 σ).bind fun σ36 =>
      bnd (x5 + 1 : Int32) fun v37 =>
      f_X1_lay_101 x1 x2 x4 k92 n v37 σ36)
def f_X1_lay_92 (x1 : Int32) (x2 : Int32) : Nat → Int32 → St → Option (St)
  | 0, _, _ => none
  | n + 1, x4, σ =>
    if x2 ≤ x4 then
      some σ
    else
      f_X1_lay_101 x1 x2 x4 (f_X1_lay_92 x1 x2 n) FU 0 σ
def f_X1_lay (x1 : Int32) (x2 : Int32) (x3 : Int32) (σ : St) : Option (St) :=
  bnd (sF σ 600 x1) fun σ25 =>
  bnd (sF σ25 601 (f_J9_min_7cf53 (x1 * x2) 25)) fun σ26 =>
  bnd (sF σ26 604 ((1 <<< ((gF σ26 601) &&& 31)) - 1)) fun σ27 =>
  bnd (sF σ27 605 0) fun σ28 =>
  bnd (sF σ28 606 0) fun σ29 =>
  bnd (if x3 = 0 then 25 else 0 : Int32) fun v30 =>
  bnd (sF σ29 602 v30) fun σ31 =>
  bnd (if x3 = 0 then 25 else (gF σ31 601) - 1 : Int32) fun v32 =>
  bnd (sF σ31 603 v32) fun σ33 =>
  (f_J7_fill_53178 46 (-1) σ33).bind fun σ34 =>
  (wr tC σ34 46 127 25).bind fun σ35 =>
  f_X1_lay_92 x1 x2 FU 0 σ35
def f_X1_beginRows_43 (x1 : Int32) (σ : St) (k5 : Int32 → St → Option (St)) : Option (St) :=
  bnd (x1 + 1 : Int32) fun v12 =>
  k5 v12 σ
def f_X1_beginRows_15 (x1 : Int32) (k5 : Int32 → St → Option (St)) : Nat → Int32 → St → Option (St)
  | 0, _, _ => none
  | n + 1, x2, σ =>
    if (gF σ 601) ≤ x2 then
      f_X1_beginRows_43 x1 σ k5
    else
      ((wr tC σ 47 ((x1 * 25) + x2) (1 <<< (x2 &&& 31))).bind fun σ10 =>
      bnd (x2 + 1 : Int32) fun v11 =>
      f_X1_beginRows_15 x1 k5 n v11 σ10)
def f_X1_beginRows_5 : Nat → Int32 → St → Option (St)
  | 0, _, _ => none
  | n + 1, x1, σ =>
    if (gF σ 603) < x1 then
      some σ
    else
      f_X1_beginRows_15 x1 (f_X1_beginRows_5 n) FU 0 σ
def f_X1_beginRows (σ : St) : Option (St) :=
  bnd (gF σ 602 : Int32) fun v9 =>
  f_X1_beginRows_5 FU v9 σ
def f_X1_moveTrawler_103 (x1 : Int32) (σ : St) (k5 : Int32 → St → Option (St)) : Option (St) :=
  bnd (x1 + 1 : Int32) fun v21 =>
  k5 v21 σ
def f_X1_moveTrawler_15 (x1 : Int32) (k5 : Int32 → St → Option (St)) : Nat → Int32 → St → Option (St)
  | 0, _, _ => none
  | n + 1, x2, σ =>
    if (gF σ 601) ≤ x2 then
      f_X1_moveTrawler_103 x1 σ k5
    else
      ((rd tC σ 47 ((x1 * 25) + x2)).bind fun v16 =>
      bnd ((gF σ 604) &&& (v16 ^^^ (-1)) : Int32) fun v17 =>
      bnd ((((v17 ||| (v17 <<< ((gF σ 600) &&& 31))) ||| (ushr v17 (gF σ 600))) ||| ((v17 &&& (gF σ 606)) <<< (1 &&& 31))) ||| (ushr (v17 &&& (gF σ 605)) 1) : Int32) fun v18 =>
      (wr tC σ 49 ((x1 * 25) + x2) ((gF σ 604) &&& (v18 ^^^ (-1)))).bind fun σ19 =>
      bnd (x2 + 1 : Int32) fun v20 =>
      f_X1_moveTrawler_15 x1 k5 n v20 σ19)
def f_X1_moveTrawler_5 : Nat → Int32 → St → Option (St)
  | 0, _, _ => none
  | n + 1, x1, σ =>
    if (gF σ 603) < x1 then
      some σ
    else
      f_X1_moveTrawler_15 x1 (f_X1_moveTrawler_5 n) FU 0 σ
def f_X1_moveTrawler (σ : St) : Option (St) :=
  bnd (gF σ 602 : Int32) fun v15 =>
  f_X1_moveTrawler_5 FU v15 σ
def f_X1_moveFrigate_87 (x1 : Int32) (x2 : Int32) (x3 : Int32) (x4 : Int32) (σ : St) (k31 : Int32 → Int32 → Option (St)) (k15 : Int32 → St → Option (St)) (k5 : Int32 → St → Option (St)) : Option (St) :=
  bnd (x4 + 1 : Int32) fun v24 =>
  k31 x3 v24
def f_X1_moveFrigate_93 (x1 : Int32) (x2 : Int32) (x3 : Int32) (σ : St) (k15 : Int32 → St → Option (St)) (k5 : Int32 → St → Option (St)) : Option (St) :=
  (wr tC σ 48 ((x1 * 25) + x2) (x3 ||| (1 <<< (x2 &&& 31)))).bind fun σ25 =>
  bnd (x2 + 1 : Int32) fun v26 =>
  k15 v26 σ25
def f_X1_moveFrigate_31 (x1 : Int32) (x2 : Int32) (σ : St) (k15 : Int32 → St → Option (St)) (k5 : Int32 → St → Option (St)) : Nat → Int32 → Int32 → Option (St)
  | 0, _, _ => none
  | n + 1, x3, x4 =>
    if 5 ≤ x4 then
      f_X1_moveFrigate_93 x1 x2 x3 σ k15 k5
    else
      ((rd tC σ 46 ((x1 * 5) + x4)).bind fun v21 =>
      if v21 = x2 then
        f_X1_moveFrigate_87 x1 x2 x3 x4 σ (f_X1_moveFrigate_31 x1 x2 σ k15 k5 n) k15 k5
      else
        (if (f_X10_lies v21 (gF σ 602) (gF σ 603)) = 0 then
          f_X1_moveFrigate_87 x1 x2 x3 x4 σ (f_X1_moveFrigate_31 x1 x2 σ k15 k5 n) k15 k5
        else
          ((rd tC σ 49 ((v21 * 25) + x2)).bind fun v22 =>
          bnd (x3 &&& v22 : Int32) fun v23 =>
          f_X1_moveFrigate_87 x1 x2 v23 x4 σ (f_X1_moveFrigate_31 x1 x2 σ k15 k5 n) k15 k5)))
def f_X1_moveFrigate_115 (x1 : Int32) (σ : St) (k5 : Int32 → St → Option (St)) : Option (St) :=
  bnd (x1 + 1 : Int32) fun v27 =>
  k5 v27 σ
def f_X1_moveFrigate_15 (x1 : Int32) (k5 : Int32 → St → Option (St)) : Nat → Int32 → St → Option (St)
  | 0, _, _ => none
  | n + 1, x2, σ =>
    if (gF σ 601) ≤ x2 then
      f_X1_moveFrigate_115 x1 σ k5
    else
      (bnd (gF σ 604 : Int32) fun v20 =>
      f_X1_moveFrigate_31 x1 x2 σ (f_X1_moveFrigate_15 x1 k5 n) k5 FU v20 0)
def f_X1_moveFrigate_5 : Nat → Int32 → St → Option (St)
  | 0, _, _ => none
  | n + 1, x1, σ =>
    if (gF σ 603) < x1 then
      some σ
    else
      f_X1_moveFrigate_15 x1 (f_X1_moveFrigate_5 n) FU 0 σ
def f_X1_moveFrigate (σ : St) : Option (St) :=
  bnd (gF σ 602 : Int32) fun v19 =>
  f_X1_moveFrigate_5 FU v19 σ
def f_X1_moveWarder_85 (x1 : Int32) (x2 : Int32) (x3 : Int32) (x4 : Int32) (σ : St) (k30 : Int32 → Int32 → Option (St)) (k15 : Int32 → St → Option (St)) (k5 : Int32 → St → Option (St)) : Option (St) :=
  bnd (x4 + 1 : Int32) fun v24 =>
  k30 x3 v24
def f_X1_moveWarder_91 (x1 : Int32) (x2 : Int32) (x3 : Int32) (σ : St) (k15 : Int32 → St → Option (St)) (k5 : Int32 → St → Option (St)) : Option (St) :=
  (wr tC σ 47 ((x1 * 25) + x2) x3).bind fun σ25 =>
  bnd (x2 + 1 : Int32) fun v26 =>
  k15 v26 σ25
def f_X1_moveWarder_30 (x1 : Int32) (x2 : Int32) (σ : St) (k15 : Int32 → St → Option (St)) (k5 : Int32 → St → Option (St)) : Nat → Int32 → Int32 → Option (St)
  | 0, _, _ => none
  | n + 1, x3, x4 =>
    if 5 ≤ x4 then
      f_X1_moveWarder_91 x1 x2 x3 σ k15 k5
    else
      ((rd tC σ 46 ((x2 * 5) + x4)).bind fun v21 =>
      if v21 = x1 then
        f_X1_moveWarder_85 x1 x2 x3 x4 σ (f_X1_moveWarder_30 x1 x2 σ k15 k5 n) k15 k5
      else
        (if (f_X10_lies v21 0 ((gF σ 601) - 1)) = 0 then
          f_X1_moveWarder_85 x1 x2 x3 x4 σ (f_X1_moveWarder_30 x1 x2 σ k15 k5 n) k15 k5
        else
          ((rd tC σ 48 ((x1 * 25) + v21)).bind fun v22 =>
          bnd (x3 ||| v22 : Int32) fun v23 =>
          f_X1_moveWarder_85 x1 x2 v23 x4 σ (f_X1_moveWarder_30 x1 x2 σ k15 k5 n) k15 k5)))
def f_X1_moveWarder_109 (x1 : Int32) (σ : St) (k5 : Int32 → St → Option (St)) : Option (St) :=
  bnd (x1 + 1 : Int32) fun v27 =>
  k5 v27 σ
def f_X1_moveWarder_15 (x1 : Int32) (k5 : Int32 → St → Option (St)) : Nat → Int32 → St → Option (St)
  | 0, _, _ => none
  | n + 1, x2, σ =>
    if (gF σ 601) ≤ x2 then
      f_X1_moveWarder_109 x1 σ k5
    else
      (bnd (1 <<< (x2 &&& 31) : Int32) fun v20 =>
      f_X1_moveWarder_30 x1 x2 σ (f_X1_moveWarder_15 x1 k5 n) k5 FU v20 0)
def f_X1_moveWarder_5 : Nat → Int32 → St → Option (St)
  | 0, _, _ => none
  | n + 1, x1, σ =>
    if (gF σ 603) < x1 then
      some σ
    else
      f_X1_moveWarder_15 x1 (f_X1_moveWarder_5 n) FU 0 σ
def f_X1_moveWarder (σ : St) : Option (St) :=
  bnd (gF σ 602 : Int32) fun v19 =>
  f_X1_moveWarder_5 FU v19 σ
def f_X1_has_37 (σ : St) : Option (Int32) :=
  some 0
def f_X1_has (a0 : Nat) (x1 : Int32) (x2 : Int32) (x3 : Int32) (σ : St) : Option (Int32) :=
  bnd ((x2 * 25) + x1 : Int32) fun v5 =>
  if (f_X10_lies v5 0 ((lenI tC σ a0) - 1)) = 0 then
    f_X1_has_37 σ
  else
    ((rd tC σ a0 v5).bind fun v6 =>
    if ((ushr v6 x3) &&& 1) = 1 then
      some 1
    else
      f_X1_has_37 σ)
def f_X1_leastMove_75 (x1 : Int32) (x2 : Int32) (x3 : Int32) (x4 : Int32) (σ : St) (k3 : Int32 → Option (Int32)) : Option (Int32) :=
  bnd (x4 + 1 : Int32) fun v12 =>
  k3 v12
def f_X1_leastMove_44 (x1 : Int32) (x2 : Int32) (x3 : Int32) (x4 : Int32) (y0 : Int32) (σ : St) (k3 : Int32 → Option (Int32)) : Option (Int32) :=
  if y0 = (-1) then
    f_X1_leastMove_75 x1 x2 x3 x4 σ k3
  else
    (if y0 = x3 then
      f_X1_leastMove_75 x1 x2 x3 x4 σ k3
    else
      ((f_X1_has 48 y0 x3 x1 σ).bind fun v11 =>
      if v11 = 0 then
        f_X1_leastMove_75 x1 x2 x3 x4 σ k3
      else
        some y0))
def f_X1_leastMove_3 (x1 : Int32) (x2 : Int32) (x3 : Int32) (σ : St) : Nat → Int32 → Option (Int32)
  | 0, _ => none
  | n + 1, x4 =>
    if 5 ≤ x4 then
      some (-1)
    else
      (bnd ((x2 * 5) + x4 : Int32) fun v9 =>
      if (f_X10_lies v9 0 (130 - 1)) = 0 then
        f_X1_leastMove_44 x1 x2 x3 x4 (-1) σ (f_X1_leastMove_3 x1 x2 x3 σ n)
      else
        ((rd tC σ 46 v9).bind fun v10 =>
        f_X1_leastMove_44 x1 x2 x3 x4 v10 σ (f_X1_leastMove_3 x1 x2 x3 σ n)))
def f_X1_leastMove (x1 : Int32) (x2 : Int32) (x3 : Int32) (σ : St) : Option (Int32) :=
  f_X1_leastMove_3 x1 x2 x3 σ FU 0
def f_X1_play_60 (x1 : Int32) (x2 : Int32) (x5 : Int32) (x6 : Int32) (σ : St) : Option (Int32 × St) :=
  (f_X1_leastMove x1 x2 x5 σ).bind fun v24 =>
  bnd (sF σ 611 v24) fun σ25 =>
  some (x6, σ25)
def f_X1_play_27 (x1 : Int32) (x2 : Int32) (x4 : Int32) (x5 : Int32) : Nat → Int32 → St → Option (Int32 × St)
  | 0, _, _ => none
  | n + 1, x6, σ =>
    if x4 < x6 then
      some ((-2), σ)
    else
      ((f_X1_moveTrawler σ).bind fun σ19 =>
      (f_X1_moveFrigate σ19).bind fun σ20 =>
      (f_X1_moveWarder σ20).bind fun σ21 =>
      (f_X1_has 47 x2 x5 x1 σ21).bind fun v22 =>
      if v22 = 0 then
        (bnd (x6 + 1 : Int32) fun v23 =>
        f_X1_play_27 x1 x2 x4 x5 n v23 σ21)
      else
        f_X1_play_60 x1 x2 x5 x6 σ21)
def f_X1_play (x1 : Int32) (x2 : Int32) (x3 : Int32) (x4 : Int32) (σ : St) : Option (Int32 × St) :=
  if x1 = x2 then
    some (0, σ)
  else
    (bnd (if x3 = (-1) then 25 else x3 : Int32) fun v17 =>
    (f_X1_beginRows σ).bind fun σ18 =>
    f_X1_play_27 x1 x2 x4 v17 FU 1 σ18)
def f_X2_has_16 (σ : St) : Int32 :=
  0
def f_X2_has (x1 : Int32) (σ : St) : Int32 :=
  if x1 < 0 then
    f_X2_has_16 σ
  else
    (if (gF σ 400) ≤ x1 then
      f_X2_has_16 σ
    else
      1)
def f_X2_isFull (σ : St) : Int32 :=
  bnd (if (gF σ 400) < 12 then 0 else 1 : Int32) fun v1 =>
  vp_nar .boolean v1
def f_X2_isOf_22 (σ : St) : Option (Int32) :=
  some 0
def f_X2_isOf (x1 : Int32) (x2 : Int32) (σ : St) : Option (Int32) :=
  if (f_X2_has x1 σ) = 0 then
    f_X2_isOf_22 σ
  else
    ((rd tC σ 32 x1).bind fun v3 =>
    if v3 = x2 then
      some 1
    else
      f_X2_isOf_22 σ)
def growC (σ : St) (n : Int32) : Option St := if n < 0 ∨ 5300 < n.toNatClampNeg ∨ n = lenI tC σ 37 then none else some (fun j => if j = 3799 then n else σ.1 j, fun b => if b = 37 then va_cpy (σ.2.1 37) (fun _ => 0) 0 0 (Min.min (lnO tC σ 37) n.toNatClampNeg) else σ.2.1 b, σ.2.2)
def f_X2_beginReading_47 (σ : St) : Option St :=
  if 12 ≤ (gF σ 400) then
    some σ
  else
    ((wr tC σ 36 (gF σ 400) 0).bind fun σ3 =>
    some σ3)
def f_X2_beginReading (σ : St) : Option St :=
  bnd (sF σ 408 (gF σ 407)) fun σ1 =>
  if ((gF σ1 407) + 400) ≤ (lenI tC σ1 37) then
    f_X2_beginReading_47 σ1
  else
    ((growC σ1 ((f_J9_max_7cf53 0 (gF σ1 407)) + 400)).bind fun σ2 =>
    f_X2_beginReading_47 σ2)
def f_X2_clausesRead (σ : St) : Option (Int32) :=
  if 12 ≤ (gF σ 400) then
    some 12
  else
    ((rd tC σ 36 (gF σ 400)).bind fun v3 =>
    some v3)
def f_X2_clauseBeingRead (σ : St) : Option (Int32) :=
  (f_X2_clausesRead σ).bind fun v2 =>
  some (((gF σ 400) * 12) + v2)
def f_X2_beginClause (x1 : Int32) (x2 : Int32) (σ : St) : Option (St) :=
  (f_X2_clausesRead σ).bind fun v13 =>
  if 12 ≤ v13 then
    some σ
  else
    ((f_X2_clauseBeingRead σ).bind fun v14 =>
    (wr tC σ 38 v14 x1).bind fun σ15 =>
    (wr tC σ15 39 v14 x2).bind fun σ16 =>
    (wr tC σ16 40 v14 0).bind fun σ17 =>
    (wr tC σ17 41 v14 (gF σ17 408)).bind fun σ18 =>
    some σ18)
def f_X2_beginCond (σ : St) : Option (St) :=
  (f_X2_clausesRead σ).bind fun v7 =>
  if 12 ≤ v7 then
    some σ
  else
    ((f_X2_clauseBeingRead σ).bind fun v8 =>
    (wr tC σ 42 v8 (gF σ 408)).bind fun σ9 =>
    some σ9)
def f_X2_setCond (x1 : Int32) (σ : St) : Option (St) :=
  (f_X2_clausesRead σ).bind fun v7 =>
  if 12 ≤ v7 then
    some σ
  else
    ((f_X2_clauseBeingRead σ).bind fun v8 =>
    (wr tC σ 40 v8 x1).bind fun σ9 =>
    some σ9)
def f_X2_endClause (σ : St) : Option (St) :=
  (f_X2_clausesRead σ).bind fun v13 =>
  if 12 ≤ v13 then
    some σ
  else
    ((f_X2_clauseBeingRead σ).bind fun v14 =>
    (wr tC σ 43 v14 (gF σ 408)).bind fun σ15 =>
    bnd (gF σ15 400 : Int32) fun v16 =>
    (rd tC σ15 36 v16).bind fun v17 =>
    (wr tC σ15 36 v16 (v17 + 1)).bind fun σ18 =>
    some σ18)
def f_X2_emit (x1 : Int32) (σ : St) : Option (St) :=
  if (lenI tC σ 37) ≤ (gF σ 408) then
    some σ
  else
    ((wr tC σ 37 (gF σ 408) x1).bind fun σ5 =>
    bnd (sF σ5 408 ((gF σ5 408) + 1)) fun σ6 =>
    some σ6)
def f_X2_minuteAt (x1 : Int32) (σ : St) : Option (Int32) :=
  (rd tC σ 35 x1).bind fun v5 =>
  if (f_X10_lies v5 0 11) = 0 then
    some 0
  else
    ((rd tC σ 33 v5).bind fun v6 =>
    some v6)
def f_X2_putInOrder_40 (x2 : Int32) (σ : St) : Option (St) :=
  (wr tC σ 35 x2 (gF σ 400)).bind fun σ18 =>
  some σ18
def f_X2_putInOrder_5 (x1 : Int32) : Nat → Int32 → St → Option (St)
  | 0, _, _ => none
  | n + 1, x2, σ =>
    if x2 ≤ 0 then
      f_X2_putInOrder_40 x2 σ
    else
      ((f_X2_minuteAt (x2 - 1) σ).bind fun v14 =>
      if x1 < v14 then
        f_X2_putInOrder_40 x2 σ
      else
        ((rd tC σ 35 (x2 - 1)).bind fun v15 =>
        (wr tC σ 35 x2 v15).bind fun σ16 =>
        bnd (x2 + (-1) : Int32) fun v17 =>
        f_X2_putInOrder_5 x1 n v17 σ16))
def f_X2_putInOrder (x1 : Int32) (σ : St) : Option (St) :=
  bnd (gF σ 400 : Int32) fun v13 =>
  f_X2_putInOrder_5 x1 FU v13 σ
def f_X2_strikeOthers_75 (x1 : Int32) (x2 : Int32) (x3 : Int32) (σ : St) (k10 : Int32 → St → Option (St)) : Option (St) :=
  bnd (x3 + 1 : Int32) fun v24 =>
  k10 v24 σ
def f_X2_strikeOthers_10 (x1 : Int32) (x2 : Int32) : Nat → Int32 → St → Option (St)
  | 0, _, _ => none
  | n + 1, x3, σ =>
    (rd tC σ 36 (gF σ 400)).bind fun v18 =>
    if (x2 + v18) ≤ x3 then
      some σ
    else
      ((rd tC σ 38 x3).bind fun v19 =>
      if v19 = 7 then
        ((rd tC σ 39 x3).bind fun v20 =>
        if (f_X2_has v20 σ) = 0 then
          f_X2_strikeOthers_75 x1 x2 x3 σ (f_X2_strikeOthers_10 x1 x2 n)
        else
          ((rd tC σ 39 x3).bind fun v21 =>
          (rd tC σ 34 v21).bind fun v22 =>
          (wr tC σ 34 v21 (f_J9_min_7cf53 v22 x1)).bind fun σ23 =>
          f_X2_strikeOthers_75 x1 x2 x3 σ23 (f_X2_strikeOthers_10 x1 x2 n)))
      else
        f_X2_strikeOthers_75 x1 x2 x3 σ (f_X2_strikeOthers_10 x1 x2 n))
def f_X2_strikeOthers (x1 : Int32) (σ : St) : Option (St) :=
  bnd ((gF σ 400) * 12 : Int32) fun v17 =>
  f_X2_strikeOthers_10 x1 v17 FU v17 σ
def f_X2_enact (x1 : Int32) (x2 : Int32) (σ : St) : Option (Int32 × St) :=
  if (gF σ 400) < 12 then
    ((wr tC σ 32 (gF σ 400) x1).bind fun σ15 =>
    (wr tC σ15 33 (gF σ15 400) x2).bind fun σ16 =>
    (wr tC σ16 34 (gF σ16 400) 9000).bind fun σ17 =>
    bnd (sF σ17 407 (gF σ17 408)) fun σ18 =>
    (f_X2_putInOrder x2 σ18).bind fun σ19 =>
    (f_X2_strikeOthers x2 σ19).bind fun σ20 =>
    bnd (sF σ20 400 ((gF σ20 400) + 1)) fun σ21 =>
    some ((gF σ21 400) - 1, σ21))
  else
    some ((-1), σ)
def f_X2_stands_32 (σ : St) : Option (Int32) :=
  some 0
def f_X2_stands (x1 : Int32) (x2 : Int32) (σ : St) : Option (Int32) :=
  if (f_X2_has x1 σ) = 0 then
    f_X2_stands_32 σ
  else
    ((rd tC σ 33 x1).bind fun v5 =>
    if x2 < v5 then
      f_X2_stands_32 σ
    else
      ((rd tC σ 34 x1).bind fun v6 =>
      if v6 ≤ x2 then
        f_X2_stands_32 σ
      else
        some 1))
def f_X2_wordOf_20 (σ : St) : Option (Int64) :=
  some 0
def f_X2_wordOf (a1 : Nat) (x0 : Int32) (σ : St) : Option (Int64) :=
  bnd ((-1) - x0 : Int32) fun v5 =>
  if v5 < 0 then
    f_X2_wordOf_20 σ
  else
    (if (lenI tC σ a1) ≤ v5 then
      f_X2_wordOf_20 σ
    else
      ((rl tC σ a1 v5).bind fun v6 =>
      some v6))
def f_X2_join (x0 : Int32) (x1 : Int64) (x3 : Int64) : Int64 :=
  if x0 = (-20) then
    (bnd (if x1 ≤ x3 then 0 else 1 : Int64) fun v1 =>
    v1)
  else
  if x0 = (-19) then
    (bnd (if x1 < x3 then 0 else 1 : Int64) fun v2 =>
    v2)
  else
  if x0 = (-18) then
    (bnd (if x1 = x3 then 1 else 0 : Int64) fun v3 =>
    v3)
  else
  if x0 = (-17) then
    (bnd (if x3 < x1 then 0 else 1 : Int64) fun v4 =>
    v4)
  else
  if x0 = (-16) then
    (bnd (if x3 ≤ x1 then 0 else 1 : Int64) fun v5 =>
    v5)
  else
  if x0 = (-15) then
    x1 * x3
  else
  if x0 = (-14) then
    x1 - x3
  else
  if x0 = (-13) then
    x1 + x3
  else
  if x0 = (-12) then
    x1 ||| x3
  else
  if x0 = (-11) then
    x1 &&& x3
  else
  0
def f_X2_valueOf_168 (a3 : Nat) (x2 : Int32) (x4 : Int32) (x5 : Int32) (σ : St) (k10 : Int32 → Int32 → St → Option (Int64 × St)) : Option (Int64 × St) :=
  bnd (x5 + 1 : Int32) fun v39 =>
  k10 x4 v39 σ
def f_X2_valueOf_74 (a3 : Nat) (x2 : Int32) (x4 : Int32) (x5 : Int32) (y1 : Int32) (y2 : Int64) (σ : St) (k10 : Int32 → Int32 → St → Option (Int64 × St)) : Option (Int64 × St) :=
  (wl tC σ 44 y1 y2).bind fun σ37 =>
  bnd (x4 + 1 : Int32) fun v38 =>
  f_X2_valueOf_168 a3 x2 v38 x5 σ37 k10
def f_X2_valueOf_174 (x4 : Int32) (σ : St) : Option (Int64 × St) :=
  if x4 = 1 then
    ((rl tC σ 44 0).bind fun v40 =>
    some (v40, σ))
  else
    some (0, σ)
def f_X2_valueOf_10 (a3 : Nat) (x2 : Int32) : Nat → Int32 → Int32 → St → Option (Int64 × St)
  | 0, _, _, _ => none
  | n + 1, x4, x5, σ =>
    if x2 ≤ x5 then
      f_X2_valueOf_174 x4 σ
    else
      (if (lenI tC σ 37) ≤ x5 then
        f_X2_valueOf_174 x4 σ
      else
        ((rd tC σ 37 x5).bind fun v28 =>
        if v28 ≤ (-10) then
          (if v28 = (-10) then
            (if 1 ≤ x4 then
              ((rl tC σ 44 (x4 - 1)).bind fun v33 =>
              bnd (if v33 = 0 then 1 else 0 : Int64) fun v34 =>
              (wl tC σ 44 (x4 - 1) v34).bind fun σ35 =>
              f_X2_valueOf_168 a3 x2 x4 x5 σ35 (f_X2_valueOf_10 a3 x2 n))
            else
              some (0, σ))
          else
            (if 2 ≤ x4 then
              (bnd (x4 + (-1) : Int32) fun v29 =>
              (rl tC σ 44 (v29 - 1)).bind fun v30 =>
              (rl tC σ 44 v29).bind fun v31 =>
              (wl tC σ 44 (v29 - 1) (f_X2_join v28 v30 v31)).bind fun σ32 =>
              f_X2_valueOf_168 a3 x2 v29 x5 σ32 (f_X2_valueOf_10 a3 x2 n))
            else
              some (0, σ)))
        else
          (if x4 < 96 then
            (if v28 < 0 then
              ((f_X2_wordOf a3 v28 σ).bind fun v36 =>
              f_X2_valueOf_74 a3 x2 x4 x5 x4 v36 σ (f_X2_valueOf_10 a3 x2 n))
            else
              f_X2_valueOf_74 a3 x2 x4 x5 x4 v28.toInt64 σ (f_X2_valueOf_10 a3 x2 n))
          else
            some (0, σ))))
def f_X2_valueOf (a3 : Nat) (x1 : Int32) (x2 : Int32) (σ : St) : Option (Int64 × St) :=
  bnd (f_J9_max_7cf53 0 x1 : Int32) fun v27 =>
  f_X2_valueOf_10 a3 x2 FU 0 v27 σ
def f_X2_holds (a2 : Nat) (x1 : Int32) (σ : St) : Option (Int32 × St) :=
  (rd tC σ 40 x1).bind fun v11 =>
  if v11 = 0 then
    some (1, σ)
  else
    ((rd tC σ 42 x1).bind fun v12 =>
    (rd tC σ 43 x1).bind fun v13 =>
    (f_X2_valueOf a2 v12 v13 σ).bind fun u14 =>
    bnd (if u14.1 = 0 then 0 else 1 : Int32) fun v15 =>
    (rd tC u14.2 40 x1).bind fun v16 =>
    bnd (if v16 = 1 then 1 else 0 : Int32) fun v17 =>
    bnd (if v15 = v17 then 1 else 0 : Int32) fun v18 =>
    some (vp_nar .boolean v18, u14.2))
def f_X2_findClause_93 (x6 : Int32) (x7 : Int32) (σ : St) : Option (Int32 × St) :=
  some ((16 * x6) + x7, σ)
def f_X2_findClause_102 (a4 : Nat) (x1 : Int32) (x2 : Int32) (x3 : Int32) (x5 : Int32) (x6 : Int32) (x7 : Int32) (σ : St) (k47 : Int32 → St → Option (Int32 × St)) (k3 : Int32 → St → Option (Int32 × St)) : Option (Int32 × St) :=
  bnd (x7 + 1 : Int32) fun v23 =>
  k47 v23 σ
def f_X2_findClause_108 (a4 : Nat) (x1 : Int32) (x2 : Int32) (x3 : Int32) (x5 : Int32) (σ : St) (k3 : Int32 → St → Option (Int32 × St)) : Option (Int32 × St) :=
  bnd (x5 + 1 : Int32) fun v24 =>
  k3 v24 σ
def f_X2_findClause_47 (a4 : Nat) (x1 : Int32) (x2 : Int32) (x3 : Int32) (x5 : Int32) (x6 : Int32) (k3 : Int32 → St → Option (Int32 × St)) : Nat → Int32 → St → Option (Int32 × St)
  | 0, _, _ => none
  | n + 1, x7, σ =>
    (rd tC σ 36 x6).bind fun v20 =>
    if v20 ≤ x7 then
      f_X2_findClause_108 a4 x1 x2 x3 x5 σ k3
    else
      ((rd tC σ 38 ((x6 * 12) + x7)).bind fun v21 =>
      if v21 = x2 then
        ((f_X2_holds a4 ((x6 * 12) + x7) σ).bind fun u22 =>
        if u22.1 = 0 then
          f_X2_findClause_102 a4 x1 x2 x3 x5 x6 x7 u22.2 (f_X2_findClause_47 a4 x1 x2 x3 x5 x6 k3 n) k3
        else
          f_X2_findClause_93 x6 x7 u22.2)
      else
        f_X2_findClause_102 a4 x1 x2 x3 x5 x6 x7 σ (f_X2_findClause_47 a4 x1 x2 x3 x5 x6 k3 n) k3)
def f_X2_findClause_3 (a4 : Nat) (x1 : Int32) (x2 : Int32) (x3 : Int32) : Nat → Int32 → St → Option (Int32 × St)
  | 0, _, _ => none
  | n + 1, x5, σ =>
    if (gF σ 400) ≤ x5 then
      some ((-1), σ)
    else
      ((rd tC σ 35 x5).bind fun v17 =>
      (f_X2_isOf v17 x1 σ).bind fun v18 =>
      if v18 = 0 then
        f_X2_findClause_108 a4 x1 x2 x3 x5 σ (f_X2_findClause_3 a4 x1 x2 x3 n)
      else
        ((f_X2_stands v17 x3 σ).bind fun v19 =>
        if v19 = 0 then
          f_X2_findClause_108 a4 x1 x2 x3 x5 σ (f_X2_findClause_3 a4 x1 x2 x3 n)
        else
          f_X2_findClause_47 a4 x1 x2 x3 x5 v17 (f_X2_findClause_3 a4 x1 x2 x3 n) FU 0 σ))
def f_X2_findClause (a4 : Nat) (x1 : Int32) (x2 : Int32) (x3 : Int32) (σ : St) : Option (Int32 × St) :=
  f_X2_findClause_3 a4 x1 x2 x3 FU 0 σ
def f_X2_allows_39 (σ : St) : Option (Int32) :=
  some 1
def f_X2_allows_30 (x2 : Int32) (σ : St) : Option (Int32) :=
  if x2 = 0 then
    f_X2_allows_39 σ
  else
    (if x2 = 4 then
      f_X2_allows_39 σ
    else
      some 0)
def f_X2_allows (x1 : Int32) (x2 : Int32) (σ : St) : Option (Int32) :=
  bnd (x1 / 16 : Int32) fun v7 =>
  bnd (x1 - x1 / 16 * 16 : Int32) fun v8 =>
  if x1 < 0 then
    f_X2_allows_30 x2 σ
  else
    (if (f_X2_has v7 σ) = 0 then
      f_X2_allows_30 x2 σ
    else
      (if v8 < 12 then
        ((rd tC σ 39 ((v7 * 12) + v8)).bind fun v9 =>
        bnd (if v9 = 1 then 1 else 0 : Int32) fun v10 =>
        some (vp_nar .boolean v10))
      else
        f_X2_allows_30 x2 σ))
def f_X2_sumOf (a2 : Nat) (x1 : Int32) (σ : St) : Option (Int64 × St) :=
  bnd (x1 / 16 : Int32) fun v11 =>
  bnd (x1 - x1 / 16 * 16 : Int32) fun v12 =>
  if x1 < 0 then
    some (0, σ)
  else
    (if (f_X2_has v11 σ) = 0 then
      some (0, σ)
    else
      (if v12 < 12 then
        ((rd tC σ 41 ((v11 * 12) + v12)).bind fun v13 =>
        (rd tC σ 42 ((v11 * 12) + v12)).bind fun v14 =>
        (f_X2_valueOf a2 v13 v14 σ).bind fun u15 =>
        some (u15.1, u15.2))
      else
        some (0, σ)))
def f_X3_add (x1 : Int32) (x2 : Int32) (σ : St) : Option (Int32 × St) :=
  if (gF σ 902) < 9 then
    ((wr tC σ 63 (gF σ 902) x1).bind fun σ7 =>
    (wr tC σ7 64 (gF σ7 902) x2).bind fun σ8 =>
    bnd (sF σ8 902 ((gF σ8 902) + 1)) fun σ9 =>
    some ((gF σ9 902) - 1, σ9))
  else
    some ((-1), σ)
def f_X3_worthOf_40 (a1 : Nat) (x2 : Int32) (x4 : Int32) (y0 : Int32) (y1 : Int32) (σ : St) (k5 : Int32 → Int32 → Option (Int32)) : Option (Int32) :=
  bnd (y0 + y1 : Int32) fun v8 =>
  bnd (x4 + 1 : Int32) fun v9 =>
  k5 v8 v9
def f_X3_worthOf_5 (a1 : Nat) (x2 : Int32) (σ : St) : Nat → Int32 → Int32 → Option (Int32)
  | 0, _, _ => none
  | n + 1, x3, x4 =>
    if (gF σ 902) ≤ x4 then
      some x3
    else
      (if (lenI tC σ a1) ≤ x4 then
        some x3
      else
        (if ((ushr x2 x4) &&& 1) = 1 then
          ((rd tC σ a1 x4).bind fun v7 =>
          f_X3_worthOf_40 a1 x2 x4 x3 v7 σ (f_X3_worthOf_5 a1 x2 σ n))
        else
          f_X3_worthOf_40 a1 x2 x4 x3 0 σ (f_X3_worthOf_5 a1 x2 σ n)))
def f_X3_worthOf (a1 : Nat) (x2 : Int32) (σ : St) : Option (Int32) :=
  f_X3_worthOf_5 a1 x2 σ FU 0 0
def f_J6_bitCount_0f7a4 (x0 : Int32) : Int32 :=
  bnd (x0 - ((ushr x0 1) &&& 1431655765) : Int32) fun v6 =>
  bnd ((v6 &&& 858993459) + ((ushr v6 2) &&& 858993459) : Int32) fun v7 =>
  bnd ((v7 + (ushr v7 4)) &&& 252645135 : Int32) fun v8 =>
  bnd (v8 + (ushr v8 8) : Int32) fun v9 =>
  bnd (v9 + (ushr v9 16) : Int32) fun v10 =>
  v10 &&& 63
def f_X3_bestSet_95 (x1 : Int32) (x2 : Int32) (x3 : Int32) (x4 : Int32) (x5 : Int32) (σ : St) (k9 : Int32 → Int32 → Int32 → Option (Int32)) : Option (Int32) :=
  bnd (x5 + 1 : Int32) fun v12 =>
  k9 x3 x4 v12
def f_X3_bestSet_88 (x1 : Int32) (x2 : Int32) (x5 : Int32) (x8 : Int32) (σ : St) (k9 : Int32 → Int32 → Int32 → Option (Int32)) : Option (Int32) :=
  f_X3_bestSet_95 x1 x2 x5 x8 x5 σ k9
def f_X3_bestSet_9 (x1 : Int32) (x2 : Int32) (σ : St) : Nat → Int32 → Int32 → Int32 → Option (Int32)
  | 0, _, _, _ => none
  | n + 1, x3, x4, x5 =>
    if (1 <<< ((gF σ 902) &&& 31)) ≤ x5 then
      some x3
    else
      ((f_X3_worthOf 63 x5 σ).bind fun v9 =>
      (f_X3_worthOf 64 x5 σ).bind fun v10 =>
      bnd (((f_J6_bitCount_0f7a4 x5) * 1000000) + (f_J9_abs_0f7a4 (v9 - v10)) : Int32) fun v11 =>
      if v9 < x1 then
        f_X3_bestSet_95 x1 x2 x3 x4 x5 σ (f_X3_bestSet_9 x1 x2 σ n)
      else
        (if v10 < x2 then
          f_X3_bestSet_95 x1 x2 x3 x4 x5 σ (f_X3_bestSet_9 x1 x2 σ n)
        else
          (if x3 = (-2) then
            f_X3_bestSet_88 x1 x2 x5 v11 σ (f_X3_bestSet_9 x1 x2 σ n)
          else
            (if x4 ≤ v11 then
              f_X3_bestSet_95 x1 x2 x3 x4 x5 σ (f_X3_bestSet_9 x1 x2 σ n)
            else
              f_X3_bestSet_88 x1 x2 x5 v11 σ (f_X3_bestSet_9 x1 x2 σ n)))))
def f_X3_bestSet (x1 : Int32) (x2 : Int32) (σ : St) : Option (Int32) :=
  f_X3_bestSet_9 x1 x2 σ FU (-2) 0 0
def f_X4_hasRoomFor (x1 : Int32) (σ : St) : Int32 :=
  bnd (if 400 < ((gF σ 502) + x1) then 0 else 1 : Int32) fun v1 =>
  vp_nar .boolean v1
def f_X4_take_45 (x1 : Int32) (x2 : Int32) (σ : St) (k3 : Int32 → St → Option (St)) : Option (St) :=
  bnd (x2 + (-8) : Int32) fun v9 =>
  k3 v9 σ
def f_X4_take_3 (x1 : Int32) : Nat → Int32 → St → Option (St)
  | 0, _, _ => none
  | n + 1, x2, σ =>
    if x2 < 0 then
      some σ
    else
      (if 400 ≤ (gF σ 502) then
        f_X4_take_45 x1 x2 σ (f_X4_take_3 x1 n)
      else
        ((wr tC σ 45 (gF σ 502) ((ushr x1 x2) &&& 255)).bind fun σ7 =>
        bnd (sF σ7 502 ((gF σ7 502) + 1)) fun σ8 =>
        f_X4_take_45 x1 x2 σ8 (f_X4_take_3 x1 n)))
def f_X4_take (x1 : Int32) (σ : St) : Option (St) :=
  f_X4_take_3 x1 FU 24 σ
def f_X4_byteAt_30 (σ : St) : Option (Int32) :=
  some (-1)
def f_X4_byteAt (x1 : Int32) (σ : St) : Option (Int32) :=
  if x1 < 0 then
    f_X4_byteAt_30 σ
  else
    (if (gF σ 502) ≤ x1 then
      f_X4_byteAt_30 σ
    else
      (if 400 ≤ x1 then
        f_X4_byteAt_30 σ
      else
        ((rd tC σ 45 x1).bind fun v3 =>
        some v3)))
def f_X4_advance_71 : Nat → St → Option (St)
  | 0, _ => none
  | n + 1, σ =>
    if (gF σ 502) ≤ (gF σ 503) then
      some σ
    else
      ((f_X4_byteAt (gF σ 503) σ).bind fun v54 =>
      if (f_X10_lies v54 97 122) = 0 then
        some σ
      else
        (bnd (sF σ 503 ((gF σ 503) + 1)) fun σ55 =>
        f_X4_advance_71 n σ55))
def f_X4_advance_204 (y1 : Int32) (σ : St) (k140 : St → Option (St)) : Option (St) :=
  bnd (sF σ 506 y1) fun σ58 =>
  bnd (sF σ58 507 ((gF σ58 507) + 1)) fun σ59 =>
  bnd (sF σ59 503 ((gF σ59 503) + 1)) fun σ60 =>
  k140 σ60
def f_X4_advance_140 : Nat → St → Option (St)
  | 0, _ => none
  | n + 1, σ =>
    if (gF σ 502) ≤ (gF σ 503) then
      some σ
    else
      ((f_X4_byteAt (gF σ 503) σ).bind fun v56 =>
      if (f_X10_lies v56 48 57) = 0 then
        some σ
      else
        (if 5 ≤ (gF σ 507) then
          f_X4_advance_204 (gF σ 506) σ (f_X4_advance_140 n)
        else
          ((f_X4_byteAt (gF σ 503) σ).bind fun v57 =>
          f_X4_advance_204 ((((gF σ 506) * 10) + v57) - 48) σ (f_X4_advance_140 n))))
def f_X4_advance_270 (x1 : Int32) (σ : St) : Option (St) :=
  (f_X4_byteAt (gF σ 503) σ).bind fun v61 =>
  if v61 = 61 then
    (bnd (sF σ 503 ((gF σ 503) + 1)) fun σ62 =>
    bnd (sF σ62 504 (x1 + 256)) fun σ63 =>
    some σ63)
  else
    some σ
def f_X4_advance_37 (σ : St) : Option (St) :=
  bnd (sF σ 505 (gF σ 503)) fun σ45 =>
  (f_X4_byteAt (gF σ45 503) σ45).bind fun v46 =>
  if (f_X10_lies v46 97 122) = 0 then
    (if (f_X10_lies v46 48 57) = 0 then
      (if v46 = (-1) then
        (bnd (sF σ45 504 (-1)) fun σ49 =>
        some σ49)
      else
        (bnd (sF σ45 503 ((gF σ45 503) + 1)) fun σ47 =>
        bnd (sF σ47 504 v46) fun σ48 =>
        if v46 = 60 then
          f_X4_advance_270 v46 σ48
        else
          (if v46 = 62 then
            f_X4_advance_270 v46 σ48
          else
            some σ48)))
    else
      (bnd (sF σ45 504 (-3)) fun σ50 =>
      bnd (sF σ50 506 0) fun σ51 =>
      bnd (sF σ51 507 0) fun σ52 =>
      f_X4_advance_140 FU σ52))
  else
    (bnd (sF σ45 504 (-2)) fun σ53 =>
    f_X4_advance_71 FU σ53)
def f_X4_advance_0 : Nat → St → Option (St)
  | 0, _ => none
  | n + 1, σ =>
    if (gF σ 502) ≤ (gF σ 503) then
      f_X4_advance_37 σ
    else
      ((f_X4_byteAt (gF σ 503) σ).bind fun v43 =>
      if v43 = 32 then
        (bnd (sF σ 503 ((gF σ 503) + 1)) fun σ44 =>
        f_X4_advance_0 n σ44)
      else
        f_X4_advance_37 σ)
def f_X4_advance (σ : St) : Option (St) := f_X4_advance_0 FU σ
def f_X4_isWord_29 (w1 : Nat) (σ : St) : Nat → Int32 → Option (Int32)
  | 0, _ => none
  | n + 1, x2 =>
    (f_J0_length_8abf5 w1 σ).bind fun v12 =>
    if v12 ≤ x2 then
      some 1
    else
      ((f_X4_byteAt ((gF σ 505) + x2) σ).bind fun v13 =>
      (f_J0_charAt_5068e w1 x2 σ).bind fun v14 =>
      if v13 = v14 then
        (bnd (x2 + 1 : Int32) fun v15 =>
        f_X4_isWord_29 w1 σ n v15)
      else
        some 0)
def f_X4_isWord (w1 : Nat) (σ : St) : Option (Int32) :=
  if (gF σ 504) = (-2) then
    ((f_J0_length_8abf5 w1 σ).bind fun v11 =>
    if ((gF σ 503) - (gF σ 505)) = v11 then
      f_X4_isWord_29 w1 σ FU 0
    else
      some 0)
  else
    some 0
def f_X4_fail (x1 : Int32) (σ : St) : Option (St) :=
  if (gF σ 509) = 0 then
    (bnd (sF σ 509 ((1 + (8 * (gF σ 505))) + x1)) fun σ3 =>
    some σ3)
  else
    some σ
def f_X4_readStruck_40 (σ : St) : Option (St) :=
  (f_X4_fail 1 σ).bind fun σ15 =>
  some σ15
def f_X4_readStruck (x1 : Int32) (σ : St) : Option (St) :=
  if (gF σ 504) = (-3) then
    (if 5 < (gF σ 507) then
      f_X4_readStruck_40 σ
    else
      ((f_X2_isOf (gF σ 506) x1 σ).bind fun v11 =>
      if v11 = 0 then
        f_X4_readStruck_40 σ
      else
        ((f_X2_beginClause 7 (gF σ 506) σ).bind fun σ12 =>
        (f_X4_advance σ12).bind fun σ13 =>
        some σ13)))
  else
    ((f_X4_fail 0 σ).bind fun σ14 =>
    some σ14)
def f_X4_readWhat_66 (x1 : Int32) (y0 : Int32) (σ : St) : Option (St) :=
  if y0 = (-1) then
    ((f_X4_fail 0 σ).bind fun σ24 =>
    some σ24)
  else
    ((f_X2_beginClause y0 x1 σ).bind fun σ22 =>
    (f_X4_advance σ22).bind fun σ23 =>
    some σ23)
def f_X4_readWhat (x1 : Int32) (σ : St) : Option (St) :=
  (f_X4_isWord 5 σ).bind fun v17 =>
  if v17 = 0 then
    ((f_X4_isWord 6 σ).bind fun v18 =>
    if v18 = 0 then
      ((f_X4_isWord 7 σ).bind fun v19 =>
      if v19 = 0 then
        ((f_X4_isWord 8 σ).bind fun v20 =>
        if v20 = 0 then
          ((f_X4_isWord 9 σ).bind fun v21 =>
          if v21 = 0 then
            f_X4_readWhat_66 x1 (-1) σ
          else
            f_X4_readWhat_66 x1 4 σ)
        else
          f_X4_readWhat_66 x1 3 σ)
      else
        f_X4_readWhat_66 x1 2 σ)
    else
      f_X4_readWhat_66 x1 1 σ)
  else
    f_X4_readWhat_66 x1 0 σ
def f_X4_wordNumber (σ : St) : Option (Int32) :=
  if (gF σ 504) = (-2) then
    ((f_X4_isWord 15 σ).bind fun v19 =>
    if v19 = 0 then
      ((f_X4_isWord 16 σ).bind fun v20 =>
      if v20 = 0 then
        ((f_X4_isWord 17 σ).bind fun v21 =>
        if v21 = 0 then
          ((f_X4_isWord 18 σ).bind fun v22 =>
          if v22 = 0 then
            ((f_X4_isWord 19 σ).bind fun v23 =>
            if v23 = 0 then
              ((f_X4_isWord 20 σ).bind fun v24 =>
              if v24 = 0 then
                ((f_X4_isWord 21 σ).bind fun v25 =>
                if v25 = 0 then
                  ((f_X4_isWord 22 σ).bind fun v26 =>
                  if v26 = 0 then
                    ((f_X4_isWord 23 σ).bind fun v27 =>
                    if v27 = 0 then
                      some (-1)
                    else
                      some 8)
                  else
                    some 7)
                else
                  some 6)
              else
                some 5)
            else
              some 4)
          else
            some 3)
        else
          some 2)
      else
        some 1)
    else
      some 0)
  else
    some (-1)
def f_X4_goesDeeper_18 (σ : St) : Option (Int32 × St) :=
  bnd (if (gF σ 509) = 0 then 1 else 0 : Int32) fun v4 =>
  some (vp_nar .boolean v4, σ)
def f_X4_goesDeeper (x1 : Int32) (σ : St) : Option (Int32 × St) :=
  if (gF σ 509) = 0 then
    (if x1 < 10 then
      f_X4_goesDeeper_18 σ
    else
      ((f_X4_fail 2 σ).bind fun σ3 =>
      f_X4_goesDeeper_18 σ3))
  else
    f_X4_goesDeeper_18 σ
def f_X4_countsOneMore_21 (σ : St) : Option (Int32 × St) :=
  bnd (sF σ 508 ((gF σ 508) + 1)) fun σ6 =>
  bnd (if (gF σ6 509) = 0 then 1 else 0 : Int32) fun v7 =>
  some (vp_nar .boolean v7, σ6)
def f_X4_countsOneMore (σ : St) : Option (Int32 × St) :=
  if (gF σ 509) = 0 then
    (if (gF σ 508) < 80 then
      f_X4_countsOneMore_21 σ
    else
      ((f_X4_fail 3 σ).bind fun σ5 =>
      f_X4_countsOneMore_21 σ5))
  else
    f_X4_countsOneMore_21 σ
def f_X4_readClosing (x1 : Int32) (σ : St) : Option (St) :=
  if (gF σ 509) = 0 then
    (if (gF σ 504) = x1 then
      ((f_X4_advance σ).bind fun σ6 =>
      some σ6)
    else
      ((f_X4_fail 0 σ).bind fun σ5 =>
      some σ5))
  else
    some σ
def f_X4_readValue_69 (rc : Nat → Int32 → St → Option St) (x1 : Int32) (x2 : Int32) (σ : St) : Option (St) :=
  if (gF σ 504) = 40 then
    ((f_X4_goesDeeper x1 σ).bind fun u30 =>
    if u30.1 = 0 then
      some u30.2
    else
      ((f_X4_countsOneMore u30.2).bind fun u31 =>
      if u31.1 = 0 then
        some u31.2
      else
        ((f_X4_advance u31.2).bind fun σ32 =>
        (rc 4 (x1 + 1) σ32).bind fun σ33 =>
        (f_X4_readClosing 41 σ33).bind fun σ34 =>
        some σ34)))
  else
    ((f_X4_countsOneMore σ).bind fun u26 =>
    if u26.1 = 0 then
      some u26.2
    else
      (bnd (if (gF u26.2 504) = (-3) then gF u26.2 506 else (-1) - x2 : Int32) fun v27 =>
      (f_X2_emit v27 u26.2).bind fun σ28 =>
      (f_X4_advance σ28).bind fun σ29 =>
      some σ29))
def f_X4_readValue_44 (rc : Nat → Int32 → St → Option St) (x1 : Int32) (x2 : Int32) (σ : St) : Option (St) :=
  if (gF σ 504) = (-3) then
    (if (gF σ 507) ≤ 5 then
      f_X4_readValue_69 rc x1 x2 σ
    else
      ((f_X4_fail 1 σ).bind fun σ25 =>
      some σ25))
  else
    f_X4_readValue_69 rc x1 x2 σ
def f_X4_readValue (rc : Nat → Int32 → St → Option St) (x1 : Int32) (σ : St) : Option (St) :=
  (f_X4_wordNumber σ).bind fun v23 =>
  if (gF σ 509) = 0 then
    (if (gF σ 504) = (-3) then
      f_X4_readValue_44 rc x1 v23 σ
    else
      (if (gF σ 504) = 40 then
        f_X4_readValue_44 rc x1 v23 σ
      else
        (if v23 = (-1) then
          ((f_X4_fail 0 σ).bind fun σ24 =>
          some σ24)
        else
          f_X4_readValue_44 rc x1 v23 σ)))
  else
    some σ
def f_X4_readProduct_7 (rc : Nat → Int32 → St → Option St) (x1 : Int32) : Nat → Int32 → St → Option (St)
  | 0, _, _ => none
  | n + 1, x2, σ =>
    if 400 ≤ x2 then
      some σ
    else
      (if (gF σ 509) = 0 then
        (if (gF σ 504) = 42 then
          ((f_X4_advance σ).bind fun σ12 =>
          (rc 6 x1 σ12).bind fun σ13 =>
          (f_X2_emit (-15) σ13).bind fun σ14 =>
          bnd (x2 + 1 : Int32) fun v15 =>
          f_X4_readProduct_7 rc x1 n v15 σ14)
        else
          some σ)
      else
        some σ)
def f_X4_readProduct (rc : Nat → Int32 → St → Option St) (x1 : Int32) (σ : St) : Option (St) :=
  (rc 6 x1 σ).bind fun σ11 =>
  f_X4_readProduct_7 rc x1 FU 0 σ11
def f_X4_readSum_39 (rc : Nat → Int32 → St → Option St) (x1 : Int32) (x2 : Int32) (σ : St) (k7 : Int32 → St → Option (St)) : Option (St) :=
  bnd (if (gF σ 504) = 43 then (-13) else (-14) : Int32) fun v12 =>
  (f_X4_advance σ).bind fun σ13 =>
  (rc 5 x1 σ13).bind fun σ14 =>
  (f_X2_emit v12 σ14).bind fun σ15 =>
  bnd (x2 + 1 : Int32) fun v16 =>
  k7 v16 σ15
def f_X4_readSum_7 (rc : Nat → Int32 → St → Option St) (x1 : Int32) : Nat → Int32 → St → Option (St)
  | 0, _, _ => none
  | n + 1, x2, σ =>
    if 400 ≤ x2 then
      some σ
    else
      (if (gF σ 509) = 0 then
        (if (gF σ 504) = 43 then
          f_X4_readSum_39 rc x1 x2 σ (f_X4_readSum_7 rc x1 n)
        else
          (if (gF σ 504) = 45 then
            f_X4_readSum_39 rc x1 x2 σ (f_X4_readSum_7 rc x1 n)
          else
            some σ))
      else
        some σ)
def f_X4_readSum (rc : Nat → Int32 → St → Option St) (x1 : Int32) (σ : St) : Option (St) :=
  (rc 5 x1 σ).bind fun σ11 =>
  f_X4_readSum_7 rc x1 FU 0 σ11
def f_X4_comparisonOf (x0 : Int32) : Int32 :=
  if x0 = 60 then
    (-16)
  else
  if x0 = 61 then
    (-18)
  else
  if x0 = 62 then
    (-20)
  else
  if x0 = 316 then
    (-17)
  else
  if x0 = 318 then
    (-19)
  else
  (-1)
def f_X4_readComparison (rc : Nat → Int32 → St → Option St) (x1 : Int32) (σ : St) : Option (St) :=
  (rc 4 x1 σ).bind fun σ15 =>
  bnd (f_X4_comparisonOf (gF σ15 504) : Int32) fun v16 =>
  if (gF σ15 509) = 0 then
    (if v16 = (-1) then
      ((f_X4_fail 0 σ15).bind fun σ21 =>
      some σ21)
    else
      ((f_X4_countsOneMore σ15).bind fun u17 =>
      if u17.1 = 0 then
        some u17.2
      else
        ((f_X4_advance u17.2).bind fun σ18 =>
        (rc 4 x1 σ18).bind fun σ19 =>
        (f_X2_emit v16 σ19).bind fun σ20 =>
        some σ20)))
  else
    some σ15
def f_X4_readFact (rc : Nat → Int32 → St → Option St) (x1 : Int32) (σ : St) : Option (St) :=
  (f_X4_isWord 14 σ).bind fun v21 =>
  if v21 = 0 then
    (if (gF σ 504) = 91 then
      ((f_X4_goesDeeper x1 σ).bind fun u23 =>
      if u23.1 = 0 then
        some u23.2
      else
        ((f_X4_advance u23.2).bind fun σ24 =>
        (rc 0 (x1 + 1) σ24).bind fun σ25 =>
        (f_X4_readClosing 93 σ25).bind fun σ26 =>
        some σ26))
    else
      ((rc 3 x1 σ).bind fun σ22 =>
      some σ22))
  else
    ((f_X4_goesDeeper x1 σ).bind fun u27 =>
    if u27.1 = 0 then
      some u27.2
    else
      ((f_X4_advance u27.2).bind fun σ28 =>
      (rc 2 (x1 + 1) σ28).bind fun σ29 =>
      (f_X2_emit (-10) σ29).bind fun σ30 =>
      some σ30))
def f_X4_readPart_7 (rc : Nat → Int32 → St → Option St) (x1 : Int32) : Nat → Int32 → St → Option (St)
  | 0, _, _ => none
  | n + 1, x2, σ =>
    if 400 ≤ x2 then
      some σ
    else
      (if (gF σ 509) = 0 then
        ((f_X4_isWord 13 σ).bind fun v14 =>
        if v14 = 0 then
          some σ
        else
          ((f_X4_advance σ).bind fun σ15 =>
          (rc 2 x1 σ15).bind fun σ16 =>
          (f_X2_emit (-11) σ16).bind fun σ17 =>
          bnd (x2 + 1 : Int32) fun v18 =>
          f_X4_readPart_7 rc x1 n v18 σ17))
      else
        some σ)
def f_X4_readPart (rc : Nat → Int32 → St → Option St) (x1 : Int32) (σ : St) : Option (St) :=
  (rc 2 x1 σ).bind fun σ13 =>
  f_X4_readPart_7 rc x1 FU 0 σ13
def f_X4_readTest_7 (rc : Nat → Int32 → St → Option St) (x1 : Int32) : Nat → Int32 → St → Option (St)
  | 0, _, _ => none
  | n + 1, x2, σ =>
    if 400 ≤ x2 then
      some σ
    else
      (if (gF σ 509) = 0 then
        ((f_X4_isWord 12 σ).bind fun v14 =>
        if v14 = 0 then
          some σ
        else
          ((f_X4_advance σ).bind fun σ15 =>
          (rc 1 x1 σ15).bind fun σ16 =>
          (f_X2_emit (-12) σ16).bind fun σ17 =>
          bnd (x2 + 1 : Int32) fun v18 =>
          f_X4_readTest_7 rc x1 n v18 σ17))
      else
        some σ)
def f_X4_readTest (rc : Nat → Int32 → St → Option St) (x1 : Int32) (σ : St) : Option (St) :=
  (rc 1 x1 σ).bind fun σ13 =>
  f_X4_readTest_7 rc x1 FU 0 σ13
def RG : Nat → Nat → Int32 → St → Option St
  | 0, _, _, _ => none
  | n + 1, w, d, σ => match w with
    | 0 => f_X4_readTest (RG n) d σ
    | 1 => f_X4_readPart (RG n) d σ
    | 2 => f_X4_readFact (RG n) d σ
    | 3 => f_X4_readComparison (RG n) d σ
    | 4 => f_X4_readSum (RG n) d σ
    | 5 => f_X4_readProduct (RG n) d σ
    | 6 => f_X4_readValue (RG n) d σ
    | _ => none
def rG (w : Nat) (d : Int32) (σ : St) : Option St := RG 120 w d σ
def f_X4_readCond_27 (y0 : Int32) (σ : St) : Option (St) :=
  if (gF σ 509) = 0 then
    (if y0 = 0 then
      some σ
    else
      ((f_X2_setCond y0 σ).bind fun σ13 =>
      (f_X4_advance σ13).bind fun σ14 =>
      (rG 0 0 σ14).bind fun σ15 =>
      some σ15))
  else
    some σ
def f_X4_readCond (σ : St) : Option (St) :=
  (f_X4_isWord 10 σ).bind fun v11 =>
  if v11 = 0 then
    ((f_X4_isWord 11 σ).bind fun v12 =>
    if v12 = 0 then
      f_X4_readCond_27 0 σ
    else
      f_X4_readCond_27 2 σ)
  else
    f_X4_readCond_27 1 σ
def f_X4_readClause_162 (σ : St) : Option (St) :=
  (f_X2_endClause σ).bind fun σ49 =>
  some σ49
def f_X4_readClause_145 (x2 : Int32) (σ : St) : Option (St) :=
  (f_X2_beginCond σ).bind fun σ47 =>
  if x2 = 7 then
    f_X4_readClause_162 σ47
  else
    ((f_X4_readCond σ47).bind fun σ48 =>
    f_X4_readClause_162 σ48)
def f_X4_readClause_82 (x1 : Int32) (x2 : Int32) (x3 : Int32) (σ : St) : Option (St) :=
  (f_X2_clausesRead σ).bind fun v40 =>
  if v40 < 12 then
    ((f_X4_advance σ).bind fun σ41 =>
    if x2 = 7 then
      ((f_X4_readStruck x1 σ41).bind fun σ45 =>
      f_X4_readClause_145 x2 σ45)
    else
      (if x2 = (-1) then
        ((f_X4_readWhat x3 σ41).bind fun σ44 =>
        f_X4_readClause_145 x2 σ44)
      else
        ((f_X2_beginClause x2 0 σ41).bind fun σ42 =>
        (rG 4 0 σ42).bind fun σ43 =>
        f_X4_readClause_145 x2 σ43)))
  else
    ((f_X4_fail 4 σ).bind fun σ46 =>
    some σ46)
def f_X4_readClause_42 (x1 : Int32) (y0 : Int32) (σ : St) : Option (St) :=
  (f_X4_isWord 3 σ).bind fun v36 =>
  bnd (if v36 = 0 then 0 else 1 : Int32) fun v37 =>
  if y0 = (-1) then
    (if v37 = 0 then
      ((f_X4_isWord 4 σ).bind fun v38 =>
      if v38 = 0 then
        ((f_X4_fail 0 σ).bind fun σ39 =>
        some σ39)
      else
        f_X4_readClause_82 x1 y0 v37 σ)
    else
      f_X4_readClause_82 x1 y0 v37 σ)
  else
    f_X4_readClause_82 x1 y0 v37 σ
def f_X4_readClause (x1 : Int32) (σ : St) : Option (St) :=
  (f_X4_isWord 0 σ).bind fun v33 =>
  if v33 = 0 then
    ((f_X4_isWord 1 σ).bind fun v34 =>
    if v34 = 0 then
      ((f_X4_isWord 2 σ).bind fun v35 =>
      if v35 = 0 then
        f_X4_readClause_42 x1 (-1) σ
      else
        f_X4_readClause_42 x1 7 σ)
    else
      f_X4_readClause_42 x1 6 σ)
  else
    f_X4_readClause_42 x1 5 σ
def f_X4_read_70 (σ : St) : Option (Int32 × St) :=
  if (gF σ 504) = (-1) then
    some (gF σ 509, σ)
  else
    ((f_X4_fail 0 σ).bind fun σ30 =>
    some (gF σ30 509, σ30))
def f_X4_read_33 (x1 : Int32) : Nat → Int32 → St → Option (Int32 × St)
  | 0, _, _ => none
  | n + 1, x2, σ =>
    if 12 ≤ x2 then
      f_X4_read_70 σ
    else
      (if (gF σ 509) = 0 then
        (if (gF σ 504) = 59 then
          ((f_X4_advance σ).bind fun σ27 =>
          (f_X4_readClause x1 σ27).bind fun σ28 =>
          bnd (x2 + 1 : Int32) fun v29 =>
          f_X4_read_33 x1 n v29 σ28)
        else
          f_X4_read_70 σ)
      else
        f_X4_read_70 σ)
def f_X4_read_22 (x1 : Int32) (σ : St) : Option (Int32 × St) :=
  (f_X4_advance σ).bind fun σ25 =>
  (f_X4_readClause x1 σ25).bind fun σ26 =>
  f_X4_read_33 x1 FU 0 σ26
def f_X4_read (x1 : Int32) (σ : St) : Option (Int32 × St) :=
  bnd (sF σ 503 0) fun σ21 =>
  bnd (sF σ21 508 0) fun σ22 =>
  bnd (sF σ22 509 0) fun σ23 =>
  (f_X2_beginReading σ23).bind fun σ24 =>
  f_X4_read_22 x1 σ24
def f_X5_minuteAt (x1 : Int32) (σ : St) : Option (Int32) :=
  (rd tC σ 28 x1).bind fun v5 =>
  if (f_X10_lies v5 0 299) = 0 then
    some 0
  else
    ((rd tC σ 24 v5).bind fun v6 =>
    some v6)
def f_X5_putInOrder_37 (x1 : Int32) (x3 : Int32) (σ : St) : Option (St) :=
  (wr tC σ 28 x3 x1).bind fun σ15 =>
  some σ15
def f_X5_putInOrder_2 (x1 : Int32) (x2 : Int32) : Nat → Int32 → St → Option (St)
  | 0, _, _ => none
  | n + 1, x3, σ =>
    if x3 ≤ 0 then
      f_X5_putInOrder_37 x1 x3 σ
    else
      ((f_X5_minuteAt (x3 - 1) σ).bind fun v11 =>
      if v11 ≤ x2 then
        f_X5_putInOrder_37 x1 x3 σ
      else
        ((rd tC σ 28 (x3 - 1)).bind fun v12 =>
        (wr tC σ 28 x3 v12).bind fun σ13 =>
        bnd (x3 + (-1) : Int32) fun v14 =>
        f_X5_putInOrder_2 x1 x2 n v14 σ13))
def f_X5_putInOrder (x1 : Int32) (x2 : Int32) (σ : St) : Option (St) :=
  f_X5_putInOrder_2 x1 x2 FU x1 σ
def f_X5_add (x1 : Int32) (x2 : Int32) (x3 : Int32) (x4 : Int32) (x5 : Int32) (x6 : Int32) (σ : St) : Option (Int32 × St) :=
  if (gF σ 307) < 300 then
    ((wr tC σ 22 (gF σ 307) x1).bind fun σ17 =>
    (wr tC σ17 23 (gF σ17 307) x2).bind fun σ18 =>
    (wr tC σ18 24 (gF σ18 307) x3).bind fun σ19 =>
    (wr tC σ19 25 (gF σ19 307) x4).bind fun σ20 =>
    (wr tC σ20 26 (gF σ20 307) x5).bind fun σ21 =>
    (wr tC σ21 27 (gF σ21 307) x6).bind fun σ22 =>
    (f_X5_putInOrder (gF σ22 307) x3 σ22).bind fun σ23 =>
    bnd (sF σ23 307 ((gF σ23 307) + 1)) fun σ24 =>
    some ((gF σ24 307) - 1, σ24))
  else
    some ((-1), σ)
def f_X5_cellOf_81 (x5 : Int32) (σ : St) : Option (Int32) :=
  (rd tC σ 26 x5).bind fun v25 =>
  (rd tC σ 25 x5).bind fun v26 =>
  some ((24 * v25) + v26)
def f_X5_cellOf_100 (x1 : Int32) (x2 : Int32) (x3 : Int32) (x4 : Int32) (σ : St) (k8 : Int32 → Option (Int32)) : Option (Int32) :=
  bnd (x4 + (-1) : Int32) fun v27 =>
  k8 v27
def f_X5_cellOf_8 (x1 : Int32) (x2 : Int32) (x3 : Int32) (σ : St) : Nat → Int32 → Option (Int32)
  | 0, _ => none
  | n + 1, x4 =>
    if x4 < 0 then
      some (-1)
    else
      ((rd tC σ 28 x4).bind fun v20 =>
      if (f_X10_lies v20 0 ((gF σ 307) - 1)) = 0 then
        f_X5_cellOf_100 x1 x2 x3 x4 σ (f_X5_cellOf_8 x1 x2 x3 σ n)
      else
        ((rd tC σ 23 v20).bind fun v21 =>
        if v21 = x1 then
          ((rd tC σ 22 v20).bind fun v22 =>
          if v22 = x1 then
            ((rd tC σ 24 v20).bind fun v23 =>
            if x2 < v23 then
              f_X5_cellOf_100 x1 x2 x3 x4 σ (f_X5_cellOf_8 x1 x2 x3 σ n)
            else
              ((rd tC σ 27 v20).bind fun v24 =>
              if x3 < v24 then
                f_X5_cellOf_100 x1 x2 x3 x4 σ (f_X5_cellOf_8 x1 x2 x3 σ n)
              else
                f_X5_cellOf_81 v20 σ))
          else
            f_X5_cellOf_100 x1 x2 x3 x4 σ (f_X5_cellOf_8 x1 x2 x3 σ n))
        else
          f_X5_cellOf_100 x1 x2 x3 x4 σ (f_X5_cellOf_8 x1 x2 x3 σ n)))
def f_X5_cellOf (x1 : Int32) (x2 : Int32) (x3 : Int32) (σ : St) : Option (Int32) :=
  bnd ((gF σ 307) - 1 : Int32) fun v19 =>
  f_X5_cellOf_8 x1 x2 x3 σ FU v19
def f_X5_pick_71 (x1 : Int32) (x2 : Int32) (x3 : Int32) (x4 : Int32) (σ : St) (k5 : Int32 → Int32 → St → Option (Int32 × St)) : Option (Int32 × St) :=
  bnd (x4 + 1 : Int32) fun v18 =>
  k5 x3 v18 σ
def f_X5_pick_5 (x1 : Int32) (x2 : Int32) : Nat → Int32 → Int32 → St → Option (Int32 × St)
  | 0, _, _, _ => none
  | n + 1, x3, x4, σ =>
    if (gF σ 307) ≤ x4 then
      some (x3, σ)
    else
      ((rd tC σ 28 x4).bind fun v13 =>
      if (f_X10_lies v13 0 ((gF σ 307) - 1)) = 0 then
        f_X5_pick_71 x1 x2 x3 x4 σ (f_X5_pick_5 x1 x2 n)
      else
        ((rd tC σ 23 v13).bind fun v14 =>
        if v14 = x1 then
          ((rd tC σ 27 v13).bind fun v15 =>
          if x2 < v15 then
            f_X5_pick_71 x1 x2 x3 x4 σ (f_X5_pick_5 x1 x2 n)
          else
            ((wr tC σ 29 x3 v13).bind fun σ16 =>
            bnd (x3 + 1 : Int32) fun v17 =>
            f_X5_pick_71 x1 x2 v17 x4 σ16 (f_X5_pick_5 x1 x2 n)))
        else
          f_X5_pick_71 x1 x2 x3 x4 σ (f_X5_pick_5 x1 x2 n)))
def f_X5_pick (x1 : Int32) (x2 : Int32) (σ : St) : Option (Int32 × St) :=
  f_X5_pick_5 x1 x2 FU 0 0 σ
def f_X5_canBothBe (x1 : Int32) (x2 : Int32) (x3 : Int32) (σ : St) : Option (Int32) :=
  if (f_X10_lies x1 0 ((gF σ 307) - 1)) = 0 then
    some 0
  else
    (if (f_X10_lies x2 0 ((gF σ 307) - 1)) = 0 then
      some 0
    else
      ((rd tC σ 25 x1).bind fun v15 =>
      (rd tC σ 25 x2).bind fun v16 =>
      (rd tC σ 26 x1).bind fun v17 =>
      (rd tC σ 26 x2).bind fun v18 =>
      bnd (f_J9_max_7cf53 (f_J9_abs_0f7a4 (v15 - v16)) (f_J9_abs_0f7a4 (v17 - v18)) : Int32) fun v19 =>
      (rd tC σ 24 x1).bind fun v20 =>
      (rd tC σ 24 x2).bind fun v21 =>
      bnd (if (x3 * (f_J9_abs_0f7a4 (v20 - v21))) < v19 then 0 else 1 : Int32) fun v22 =>
      some (vp_nar .boolean v22)))
def f_X5_measure_70 (x1 : Int32) (x2 : Int32) (x3 : Int32) (x4 : Int32) (x5 : Int32) (x6 : Int32) (σ : St) (k21 : Int32 → Int32 → Option (Int32 × St)) (k7 : Int32 → Int32 → St → Option (Int32 × St)) : Option (Int32 × St) :=
  bnd (x6 + 1 : Int32) fun v32 =>
  k21 x5 v32
def f_X5_measure_76 (x1 : Int32) (x2 : Int32) (x3 : Int32) (x4 : Int32) (x5 : Int32) (σ : St) (k7 : Int32 → Int32 → St → Option (Int32 × St)) : Option (Int32 × St) :=
  (wr tC σ 30 x4 (x5 + 1)).bind fun σ33 =>
  (rd tC σ33 30 x4).bind fun v34 =>
  bnd (f_J9_max_7cf53 x3 v34 : Int32) fun v35 =>
  bnd (x4 + (-1) : Int32) fun v36 =>
  k7 v35 v36 σ33
def f_X5_measure_21 (x1 : Int32) (x2 : Int32) (x3 : Int32) (x4 : Int32) (σ : St) (k7 : Int32 → Int32 → St → Option (Int32 × St)) : Nat → Int32 → Int32 → Option (Int32 × St)
  | 0, _, _ => none
  | n + 1, x5, x6 =>
    if x1 ≤ x6 then
      f_X5_measure_76 x1 x2 x3 x4 x5 σ k7
    else
      ((rd tC σ 30 x6).bind fun v27 =>
      if v27 ≤ x5 then
        f_X5_measure_70 x1 x2 x3 x4 x5 x6 σ (f_X5_measure_21 x1 x2 x3 x4 σ k7 n) k7
      else
        ((rd tC σ 29 x4).bind fun v28 =>
        (rd tC σ 29 x6).bind fun v29 =>
        (f_X5_canBothBe v28 v29 x2 σ).bind fun v30 =>
        if v30 = 0 then
          f_X5_measure_70 x1 x2 x3 x4 x5 x6 σ (f_X5_measure_21 x1 x2 x3 x4 σ k7 n) k7
        else
          ((rd tC σ 30 x6).bind fun v31 =>
          f_X5_measure_70 x1 x2 x3 x4 v31 x6 σ (f_X5_measure_21 x1 x2 x3 x4 σ k7 n) k7)))
def f_X5_measure_7 (x1 : Int32) (x2 : Int32) : Nat → Int32 → Int32 → St → Option (Int32 × St)
  | 0, _, _, _ => none
  | n + 1, x3, x4, σ =>
    if x4 < 0 then
      some (x3, σ)
    else
      (bnd (x4 + 1 : Int32) fun v26 =>
      f_X5_measure_21 x1 x2 x3 x4 σ (f_X5_measure_7 x1 x2 n) FU 0 v26)
def f_X5_measure (x1 : Int32) (x2 : Int32) (σ : St) : Option (Int32 × St) :=
  bnd (x1 - 1 : Int32) fun v25 =>
  f_X5_measure_7 x1 x2 FU 0 v25 σ
def f_X5_follow_97 (x1 : Int32) (x2 : Int32) (x3 : Int32) (x4 : Int32) (σ : St) (k8 : Int32 → St → Option (St)) : Option (St) :=
  bnd (x4 + 1 : Int32) fun v27 =>
  k8 v27 σ
def f_X5_follow_71 (x1 : Int32) (x2 : Int32) (x3 : Int32) (x4 : Int32) (σ : St) (k8 : Int32 → St → Option (St)) : Option (St) :=
  (rd tC σ 29 x4).bind fun v24 =>
  (wr tC σ 31 (gF σ 311) v24).bind fun σ25 =>
  bnd (sF σ25 311 ((gF σ25 311) + 1)) fun σ26 =>
  f_X5_follow_97 x1 x2 x3 x4 σ26 k8
def f_X5_follow_8 (x1 : Int32) (x2 : Int32) (x3 : Int32) : Nat → Int32 → St → Option (St)
  | 0, _, _ => none
  | n + 1, x4, σ =>
    if x1 ≤ x4 then
      some σ
    else
      (if x3 ≤ (gF σ 311) then
        some σ
      else
        ((rd tC σ 30 x4).bind fun v20 =>
        if v20 = (x3 - (gF σ 311)) then
          (if (gF σ 311) = 0 then
            f_X5_follow_71 x1 x2 x3 x4 σ (f_X5_follow_8 x1 x2 x3 n)
          else
            ((rd tC σ 31 ((gF σ 311) - 1)).bind fun v21 =>
            (rd tC σ 29 x4).bind fun v22 =>
            (f_X5_canBothBe v21 v22 x2 σ).bind fun v23 =>
            if v23 = 0 then
              f_X5_follow_97 x1 x2 x3 x4 σ (f_X5_follow_8 x1 x2 x3 n)
            else
              f_X5_follow_71 x1 x2 x3 x4 σ (f_X5_follow_8 x1 x2 x3 n)))
        else
          f_X5_follow_97 x1 x2 x3 x4 σ (f_X5_follow_8 x1 x2 x3 n)))
def f_X5_follow (x1 : Int32) (x2 : Int32) (x3 : Int32) (σ : St) : Option (St) :=
  bnd (sF σ 311 0) fun σ19 =>
  f_X5_follow_8 x1 x2 x3 FU 0 σ19
def f_X5_findChain (x1 : Int32) (x2 : Int32) (x3 : Int32) (σ : St) : Option (Int32 × St) :=
  (f_X5_pick x1 x3 σ).bind fun u4 =>
  (f_X5_measure u4.1 x2 u4.2).bind fun u5 =>
  (f_X5_follow u4.1 x2 u5.1 u5.2).bind fun σ6 =>
  some (gF σ6 311, σ6)
def f_X5_inChain_21 (σ : St) : Option (Int32) :=
  some (-1)
def f_X5_inChain (x1 : Int32) (σ : St) : Option (Int32) :=
  if x1 < 0 then
    f_X5_inChain_21 σ
  else
    (if (gF σ 311) ≤ x1 then
      f_X5_inChain_21 σ
    else
      ((rd tC σ 31 x1).bind fun v3 =>
      some v3))
def f_X6_isCell_24 : Int32 :=
  0
def f_X6_isCell (x0 : Int32) (x1 : Int32) : Int32 :=
  if (f_X10_lies x0 0 23) = 0 then
    f_X6_isCell_24
  else
    (if (f_X10_lies x1 0 23) = 0 then
      f_X6_isCell_24
    else
      1)
def f_X6_xOf (x0 : Int32) : Int32 :=
  x0 - x0 / 24 * 24
def f_X6_yOf (x0 : Int32) : Int32 :=
  x0 / 24
def f_X6_depthAt (x1 : Int32) (x2 : Int32) (σ : St) : Option (Int32) :=
  if (f_X6_isCell x1 x2) = 0 then
    some 0
  else
    ((rd tC σ 14 ((24 * x2) + x1)).bind fun v3 =>
    some v3)
def f_X6_changeDepth (x1 : Int32) (x2 : Int32) (x3 : Int32) (σ : St) : Option (Int32 × St) :=
  if (f_X6_isCell x1 x2) = 0 then
    some ((-1), σ)
  else
    ((rd tC σ 14 ((24 * x2) + x1)).bind fun v5 =>
    (wr tC σ 14 ((24 * x2) + x1) x3).bind fun σ6 =>
    some (v5, σ6))
def f_X10_isSide (x0 : Int32) : Int32 :=
  vp_nar .boolean (f_X10_lies x0 0 1)
def f_X6_addPoint (x1 : Int32) (x2 : Int32) (x3 : Int32) (σ : St) : Option (Int32 × St) :=
  if (f_X10_isSide x1) = 0 then
    some ((-1), σ)
  else
    ((rd tC σ 17 x1).bind fun v11 =>
    if v11 < 16 then
      ((rd tC σ 17 x1).bind fun v12 =>
      (wr tC σ 15 ((x1 * 16) + v12) x2).bind fun σ13 =>
      (wr tC σ13 16 ((x1 * 16) + v12) x3).bind fun σ14 =>
      (wr tC σ14 17 x1 (v12 + 1)).bind fun σ15 =>
      some (v12, σ15))
    else
      some ((-1), σ))
def f_X6_isNear_19 (x1 : Int32) (x2 : Int32) (x3 : Int32) (x4 : Int32) (x5 : Int32) (x6 : Int32) (σ : St) : Nat → Int32 → Option (Int32)
  | 0, _ => none
  | n + 1, x7 =>
    (rd tC σ 17 x1).bind fun v16 =>
    if (x6 + v16) ≤ x7 then
      some 0
    else
      ((rd tC σ 15 x7).bind fun v17 =>
      bnd (if x2 = 1 then gF σ 104 else 0 : Int32) fun v18 =>
      bnd ((x3 - v17) - v18 : Int32) fun v19 =>
      (rd tC σ 16 x7).bind fun v20 =>
      bnd (if x2 = 1 then gF σ 105 else 0 : Int32) fun v21 =>
      bnd ((x4 - v20) - v21 : Int32) fun v22 =>
      if (x5 * x5) < ((v19 * v19) + (v22 * v22)) then
        (bnd (x7 + 1 : Int32) fun v23 =>
        f_X6_isNear_19 x1 x2 x3 x4 x5 x6 σ n v23)
      else
        some 1)
def f_X6_isNear (x1 : Int32) (x2 : Int32) (x3 : Int32) (x4 : Int32) (x5 : Int32) (σ : St) : Option (Int32) :=
  if (f_X10_isSide x1) = 0 then
    some 0
  else
    (bnd (x1 * 16 : Int32) fun v15 =>
    f_X6_isNear_19 x1 x2 x3 x4 x5 v15 σ FU v15)
def f_X7_has_16 (σ : St) : Int32 :=
  0
def f_X7_has (x1 : Int32) (σ : St) : Int32 :=
  if x1 < 0 then
    f_X7_has_16 σ
  else
    (if (gF σ 204) ≤ x1 then
      f_X7_has_16 σ
    else
      1)
def f_X7_add (x1 : Int32) (x2 : Int32) (x3 : Int32) (x4 : Int32) (σ : St) : Option (Int32 × St) :=
  if (gF σ 204) < 40 then
    ((wr tC σ 18 (gF σ 204) x1).bind fun σ11 =>
    (wr tC σ11 19 (gF σ11 204) x2).bind fun σ12 =>
    (wr tC σ12 20 (gF σ12 204) x3).bind fun σ13 =>
    (wr tC σ13 21 (gF σ13 204) x4).bind fun σ14 =>
    bnd (sF σ14 204 ((gF σ14 204) + 1)) fun σ15 =>
    some ((gF σ15 204) - 1, σ15))
  else
    some ((-1), σ)
def f_X8_isYear (x0 : Int32) : Int32 :=
  vp_nar .boolean (f_X10_lies x0 0 39)
def f_X8_changeYear (x1 : Int32) (x2 : Int32) (x3 : Int32) (σ : St) : Option (Int32 × St) :=
  if (f_X10_lies x1 0 2) = 0 then
    some ((-1), σ)
  else
    (if (f_X8_isYear x2) = 0 then
      some ((-1), σ)
    else
      ((rd tC σ 52 ((x1 * 40) + x2)).bind fun v5 =>
      (wr tC σ 52 ((x1 * 40) + x2) x3).bind fun σ6 =>
      some (v5, σ6)))
def f_X8_toldOf_30 (σ : St) : Option (Int32) :=
  some 0
def f_X8_toldOf (x1 : Int32) (x2 : Int32) (σ : St) : Option (Int32) :=
  if (f_X10_lies x1 0 2) = 0 then
    f_X8_toldOf_30 σ
  else
    (if (f_X8_isYear x2) = 0 then
      f_X8_toldOf_30 σ
    else
      ((rd tC σ 52 ((x1 * 40) + x2)).bind fun v3 =>
      some v3))
def f_X8_nextStock (x1 : Int32) (x2 : Int32) (x3 : Int32) (x4 : Int64) (σ : St) : Option (Int64) :=
  (f_X8_toldOf 2 x2 σ).bind fun v4 =>
  bnd (f_J9_max_f86c9 0 (x4 - v4.toInt64) : Int64) fun v5 =>
  (f_X8_toldOf x1 x2 σ).bind fun v6 =>
  some (((v5 * ((1000 - x3).toInt64)) / 1000) + v6.toInt64)
def f_X8_stockWith_25 (x1 : Int32) (x2 : Int32) (x3 : Int32) (σ : St) : Nat → Int64 → Int32 → Option (Int64)
  | 0, _, _ => none
  | n + 1, x4, x6 =>
    if x2 ≤ x6 then
      some x4
    else
      ((f_X8_nextStock x1 x6 x3 x4 σ).bind fun v8 =>
      bnd (x6 + 1 : Int32) fun v9 =>
      f_X8_stockWith_25 x1 x2 x3 σ n v8 v9)
def f_X8_stockWith (x1 : Int32) (x2 : Int32) (x3 : Int32) (σ : St) : Option (Int64) :=
  if (f_X10_lies x1 0 1) = 0 then
    some (-1)
  else
    ((rd tC σ 50 x1).bind fun v7 =>
    f_X8_stockWith_25 x1 x2 x3 σ FU v7.toInt64 0)
def f_X8_failsIn_22 (x1 : Int32) (σ : St) : Nat → Int64 → Int32 → Option (Int32)
  | 0, _, _ => none
  | n + 1, x2, x4 =>
    if 40 ≤ x4 then
      some (-2)
    else
      ((f_X8_toldOf 2 x4 σ).bind fun v12 =>
      if v12.toInt64 ≤ x2 then
        ((rd tC σ 51 x1).bind fun v13 =>
        (f_X8_nextStock x1 x4 v13 x2 σ).bind fun v14 =>
        bnd (x4 + 1 : Int32) fun v15 =>
        f_X8_failsIn_22 x1 σ n v14 v15)
      else
        some x4)
def f_X8_failsIn (x1 : Int32) (σ : St) : Option (Int32) :=
  if (f_X10_lies x1 0 1) = 0 then
    some (-1)
  else
    ((rd tC σ 50 x1).bind fun v11 =>
    f_X8_failsIn_22 x1 σ FU v11.toInt64 0)
def f_X8_leastLoss_60 (x1 : Int32) (x2 : Int32) (x3 : Int64) (x5 : Int32) (x6 : Int32) (x7 : Int32) (σ : St) (k11 : Int32 → Int32 → Int32 → Option (Int32)) : Option (Int32) :=
  bnd (x7 + 1 : Int32) fun v12 =>
  k11 x5 x6 v12
def f_X8_leastLoss_11 (x1 : Int32) (x2 : Int32) (x3 : Int64) (σ : St) : Nat → Int32 → Int32 → Int32 → Option (Int32)
  | 0, _, _, _ => none
  | n + 1, x5, x6, x7 =>
    if 12 ≤ x7 then
      some x5
    else
      (if x6 ≤ x5 then
        some x5
      else
        (bnd ((x5 + x6) / 2 : Int32) fun v9 =>
        (f_X8_stockWith x1 x2 v9 σ).bind fun v10 =>
        if x3 < v10 then
          (bnd (v9 + 1 : Int32) fun v11 =>
          f_X8_leastLoss_60 x1 x2 x3 v11 x6 x7 σ (f_X8_leastLoss_11 x1 x2 x3 σ n))
        else
          f_X8_leastLoss_60 x1 x2 x3 x5 v9 x7 σ (f_X8_leastLoss_11 x1 x2 x3 σ n)))
def f_X8_leastLoss (x1 : Int32) (x2 : Int32) (x3 : Int64) (σ : St) : Option (Int32) :=
  f_X8_leastLoss_11 x1 x2 x3 σ FU 0 1001 0
def f_X8_nearestLoss_67 (x1 : Int32) (x2 : Int32) (x6 : Int64) (σ : St) : Option (Int32) :=
  (f_X8_leastLoss x1 x2 x6 σ).bind fun v12 =>
  some v12
def f_X8_nearestLoss (x1 : Int32) (x2 : Int32) (x3 : Int64) (σ : St) : Option (Int32) :=
  (f_X8_leastLoss x1 x2 x3 σ).bind fun v9 =>
  if v9 = 0 then
    some 0
  else
    ((f_X8_stockWith x1 x2 (v9 - 1) σ).bind fun v10 =>
    (f_X8_stockWith x1 x2 (f_J9_min_7cf53 v9 1000) σ).bind fun v11 =>
    if 1000 < v9 then
      f_X8_nearestLoss_67 x1 x2 v10 σ
    else
      (if (v10 - x3) ≤ (x3 - v11) then
        f_X8_nearestLoss_67 x1 x2 v10 σ
      else
        some v9))
def f_X8_beginFish_2 (a1 : Nat) : Nat → Int32 → St → Option (St)
  | 0, _, _ => none
  | n + 1, x2, σ =>
    if 8 ≤ x2 then
      some σ
    else
      (if (lenI tC σ a1) ≤ x2 then
        some σ
      else
        ((rd tC σ 53 x2).bind fun v7 =>
        (wl tC σ a1 x2 v7.toInt64).bind fun σ8 =>
        bnd (x2 + 1 : Int32) fun v9 =>
        f_X8_beginFish_2 a1 n v9 σ8))
def f_X8_beginFish (a1 : Nat) (σ : St) : Option (St) :=
  f_X8_beginFish_2 a1 FU 0 σ
def f_X8_landedInYear_115 (a1 : Nat) (x2 : Int32) (x3 : Int32) (x4 : Int32) (x5 : Int32) (x6 : Int64) (x8 : Int64) (x10 : Int32) (σ : St) (k10 : Int64 → Int64 → Int32 → St → Option (Int64 × St)) : Option (Int64 × St) :=
  bnd (x10 + (-1) : Int32) fun v28 =>
  k10 x6 x8 v28 σ
def f_X8_landedInYear_48 (a1 : Nat) (x2 : Int32) (x3 : Int32) (x4 : Int32) (x5 : Int32) (x6 : Int64) (x8 : Int64) (x10 : Int32) (y0 : Int64) (σ : St) (k10 : Int64 → Int64 → Int32 → St → Option (Int64 × St)) : Option (Int64 × St) :=
  (rl tC σ a1 x10).bind fun v23 =>
  bnd (((v23 - y0) * ((1000 - x4).toInt64)) / 1000 : Int64) fun v24 =>
  (rd tC σ 55 x10).bind fun v25 =>
  bnd (x6 + (y0 * v25.toInt64) : Int64) fun v26 =>
  if x10 = 7 then
    f_X8_landedInYear_115 a1 x2 x3 x4 x5 v26 v24 x10 σ k10
  else
    ((wl tC σ a1 (x10 + 1) (v24 + x8)).bind fun σ27 =>
    f_X8_landedInYear_115 a1 x2 x3 x4 x5 v26 0 x10 σ27 k10)
def f_X8_landedInYear_121 (a1 : Nat) (x5 : Int32) (x6 : Int64) (σ : St) : Option (Int64 × St) :=
  if (lenI tC σ a1) ≤ 0 then
    some (x6, σ)
  else
    ((wl tC σ a1 0 x5.toInt64).bind fun σ29 =>
    some (x6, σ29))
def f_X8_landedInYear_10 (a1 : Nat) (x2 : Int32) (x3 : Int32) (x4 : Int32) (x5 : Int32) : Nat → Int64 → Int64 → Int32 → St → Option (Int64 × St)
  | 0, _, _, _, _ => none
  | n + 1, x6, x8, x10, σ =>
    if x10 < 0 then
      f_X8_landedInYear_121 a1 x5 x6 σ
    else
      (if (lenI tC σ a1) ≤ x10 then
        f_X8_landedInYear_121 a1 x5 x6 σ
      else
        ((rd tC σ 54 x10).bind fun v21 =>
        if v21 < x2 then
          f_X8_landedInYear_48 a1 x2 x3 x4 x5 x6 x8 x10 0 σ (f_X8_landedInYear_10 a1 x2 x3 x4 x5 n)
        else
          ((rl tC σ a1 x10).bind fun v22 =>
          f_X8_landedInYear_48 a1 x2 x3 x4 x5 x6 x8 x10 ((v22 * x3.toInt64) / 1000) σ (f_X8_landedInYear_10 a1 x2 x3 x4 x5 n))))
def f_X8_landedInYear (a1 : Nat) (x2 : Int32) (x3 : Int32) (x4 : Int32) (x5 : Int32) (σ : St) : Option (Int64 × St) :=
  f_X8_landedInYear_10 a1 x2 x3 x4 x5 FU 0 0 7 σ
def f_X8_landedBy_14 (x1 : Int32) (x2 : Int32) (x3 : Int32) (x4 : Int32) (x5 : Int32) : Nat → Int64 → Int32 → St → Option (Int64 × St)
  | 0, _, _, _ => none
  | n + 1, x6, x8, σ =>
    if x1 ≤ x8 then
      some (x6, σ)
    else
      ((f_X8_landedInYear 56 x2 x3 x4 x5 σ).bind fun u10 =>
      bnd (x6 + u10.1 : Int64) fun v11 =>
      bnd (x8 + 1 : Int32) fun v12 =>
      f_X8_landedBy_14 x1 x2 x3 x4 x5 n v11 v12 u10.2)
def f_X8_landedBy (x1 : Int32) (x2 : Int32) (x3 : Int32) (x4 : Int32) (x5 : Int32) (σ : St) : Option (Int64 × St) :=
  (f_X8_beginFish 56 σ).bind fun σ9 =>
  f_X8_landedBy_14 x1 x2 x3 x4 x5 FU 0 0 σ9
def f_X8_paysFrom_22 (x1 : Int32) (x2 : Int32) (x3 : Int32) (x4 : Int32) (x5 : Int32) : Nat → Int64 → Int32 → St → Option (Int32 × St)
  | 0, _, _, _ => none
  | n + 1, x6, x8, σ =>
    if 30 < x8 then
      some ((-2), σ)
    else
      ((f_X8_landedInYear 57 x2 x3 x4 x5 σ).bind fun u17 =>
      bnd (x6 + u17.1 : Int64) fun v18 =>
      (f_X8_landedInYear 56 x1 x3 x4 x5 u17.2).bind fun u19 =>
      bnd (v18 - u19.1 : Int64) fun v20 =>
      if v20 < 0 then
        (bnd (x8 + 1 : Int32) fun v21 =>
        f_X8_paysFrom_22 x1 x2 x3 x4 x5 n v20 v21 u19.2)
      else
        some (x8, u19.2))
def f_X8_paysFrom (x1 : Int32) (x2 : Int32) (x3 : Int32) (x4 : Int32) (x5 : Int32) (σ : St) : Option (Int32 × St) :=
  (f_X8_beginFish 56 σ).bind fun σ15 =>
  (f_X8_beginFish 57 σ15).bind fun σ16 =>
  f_X8_paysFrom_22 x1 x2 x3 x4 x5 FU 0 1 σ16
def f_X9_isWeek (x0 : Int32) : Int32 :=
  vp_nar .boolean (f_X10_lies x0 0 99)
def f_X9_has_16 (σ : St) : Int32 :=
  0
def f_X9_has (x1 : Int32) (σ : St) : Int32 :=
  if x1 < 0 then
    f_X9_has_16 σ
  else
    (if (gF σ 804) ≤ x1 then
      f_X9_has_16 σ
    else
      1)
def f_X9_add (x1 : Int32) (x2 : Int32) (x3 : Int32) (x4 : Int32) (σ : St) : Option (Int32 × St) :=
  if (gF σ 804) < 8 then
    ((wr tC σ 58 (gF σ 804) x1).bind fun σ11 =>
    (wr tC σ11 59 (gF σ11 804) x2).bind fun σ12 =>
    (wr tC σ12 60 (gF σ12 804) x3).bind fun σ13 =>
    (wr tC σ13 61 (gF σ13 804) x4).bind fun σ14 =>
    bnd (sF σ14 804 ((gF σ14 804) + 1)) fun σ15 =>
    some ((gF σ15 804) - 1, σ15))
  else
    some ((-1), σ)
def f_X9_addBar_61 (σ : St) : Option (Int32 × St) :=
  bnd (sF σ 806 ((gF σ 806) + 1)) fun σ9 =>
  some (gF σ9 806, σ9)
def f_X9_addBar_36 (x1 : Int32) (x3 : Int32) : Nat → Int32 → St → Option (Int32 × St)
  | 0, _, _ => none
  | n + 1, x4, σ =>
    if x3 < x4 then
      f_X9_addBar_61 σ
    else
      ((wr tC σ 62 ((x1 * 100) + x4) (vp_nar .boolean 1)).bind fun σ7 =>
      bnd (x4 + 1 : Int32) fun v8 =>
      f_X9_addBar_36 x1 x3 n v8 σ7)
def f_X9_addBar (x1 : Int32) (x2 : Int32) (x3 : Int32) (σ : St) : Option (Int32 × St) :=
  if 20 ≤ (gF σ 806) then
    some ((-1), σ)
  else
    (if (f_X9_has x1 σ) = 0 then
      some ((-1), σ)
    else
      (if (f_X9_isWeek x2) = 0 then
        some ((-1), σ)
      else
        (if (f_X9_isWeek x3) = 0 then
          some ((-1), σ)
        else
          f_X9_addBar_36 x1 x3 FU x2 σ)))
def f_X9_lostBy_54 (x1 : Int32) (x2 : Int32) (x4 : Int32) (y0 : Int32) (y1 : Int32) (σ : St) (k15 : Int32 → Int32 → Option (Int32)) : Option (Int32) :=
  bnd (y0 + y1 : Int32) fun v11 =>
  bnd (x4 + 1 : Int32) fun v12 =>
  k15 v11 v12
def f_X9_lostBy_15 (x1 : Int32) (x2 : Int32) (σ : St) : Nat → Int32 → Int32 → Option (Int32)
  | 0, _, _ => none
  | n + 1, x3, x4 =>
    if x2 < x4 then
      some x3
    else
      (if 100 ≤ x4 then
        some x3
      else
        ((rd tC σ 62 ((x1 * 100) + x4)).bind fun v9 =>
        if v9 = 0 then
          f_X9_lostBy_54 x1 x2 x4 x3 0 σ (f_X9_lostBy_15 x1 x2 σ n)
        else
          ((rd tC σ 61 x1).bind fun v10 =>
          f_X9_lostBy_54 x1 x2 x4 x3 v10 σ (f_X9_lostBy_15 x1 x2 σ n))))
def f_X9_lostBy (x1 : Int32) (x2 : Int32) (σ : St) : Option (Int32) :=
  if (f_X9_has x1 σ) = 0 then
    some (-1)
  else
    f_X9_lostBy_15 x1 x2 σ FU 0 0
def f_X9_weekOf_63 (x1 : Int32) (x2 : Int32) (x3 : Int32) (σ : St) (k14 : Int32 → Int32 → Option (Int32)) : Option (Int32) :=
  bnd (x3 + 1 : Int32) fun v15 =>
  k14 x2 v15
def f_X9_weekOf_45 (x1 : Int32) (x3 : Int32) (y0 : Int32) (y1 : Int32) (σ : St) (k14 : Int32 → Int32 → Option (Int32)) : Option (Int32) :=
  bnd (y0 + y1 : Int32) fun v13 =>
  if v13 ≤ 0 then
    f_X9_weekOf_63 x1 v13 x3 σ k14
  else
    ((rd tC σ 60 x1).bind fun v14 =>
    if v13 < v14 then
      f_X9_weekOf_63 x1 v13 x3 σ k14
    else
      some x3)
def f_X9_weekOf_14 (x1 : Int32) (σ : St) : Nat → Int32 → Int32 → Option (Int32)
  | 0, _, _ => none
  | n + 1, x2, x3 =>
    if 100 ≤ x3 then
      some (-2)
    else
      ((rd tC σ 62 ((x1 * 100) + x3)).bind fun v11 =>
      if v11 = 0 then
        f_X9_weekOf_45 x1 x3 x2 0 σ (f_X9_weekOf_14 x1 σ n)
      else
        ((rd tC σ 61 x1).bind fun v12 =>
        f_X9_weekOf_45 x1 x3 x2 v12 σ (f_X9_weekOf_14 x1 σ n)))
def f_X9_weekOf (x1 : Int32) (σ : St) : Option (Int32) :=
  if (f_X9_has x1 σ) = 0 then
    some (-1)
  else
    f_X9_weekOf_14 x1 σ FU 0 0
def f_X9_isEnough_73 (x1 : Int32) (x2 : Int32) (x3 : Int32) (x4 : Int32) (x5 : Int32) (σ : St) (k8 : Int32 → Int32 → Int32 → Option (Int32)) : Option (Int32) :=
  bnd (x5 + 1 : Int32) fun v21 =>
  k8 x3 x4 v21
def f_X9_isEnough_70 (x1 : Int32) (x2 : Int32) (x3 : Int32) (x5 : Int32) (y0 : Int32) (y1 : Int32) (σ : St) (k8 : Int32 → Int32 → Int32 → Option (Int32)) : Option (Int32) :=
  bnd (y0 + y1 : Int32) fun v20 =>
  f_X9_isEnough_73 x1 x2 x3 v20 x5 σ k8
def f_X9_isEnough_69 (x1 : Int32) (x2 : Int32) (x3 : Int32) (x5 : Int32) (y0 : Int32) (σ : St) (k8 : Int32 → Int32 → Int32 → Option (Int32)) : Option (Int32) :=
  f_X9_isEnough_70 x1 x2 x3 x5 y0 0 σ k8
def f_X9_isEnough_79 (x3 : Int32) (x4 : Int32) (σ : St) : Option (Int32) :=
  bnd (if (2 * x4) ≤ x3 then 0 else 1 : Int32) fun v22 =>
  some (vp_nar .boolean v22)
def f_X9_isEnough_8 (x1 : Int32) (x2 : Int32) (σ : St) : Nat → Int32 → Int32 → Int32 → Option (Int32)
  | 0, _, _, _ => none
  | n + 1, x3, x4, x5 =>
    if (gF σ 804) ≤ x5 then
      f_X9_isEnough_79 x3 x4 σ
    else
      ((rd tC σ 58 x5).bind fun v15 =>
      if v15 = x1 then
        ((f_X9_weekOf x5 σ).bind fun v16 =>
        (rd tC σ 59 x5).bind fun v17 =>
        bnd (x3 + v17 : Int32) fun v18 =>
        if v16 < 0 then
          f_X9_isEnough_69 x1 x2 v18 x5 x4 σ (f_X9_isEnough_8 x1 x2 σ n)
        else
          (if x2 < v16 then
            f_X9_isEnough_69 x1 x2 v18 x5 x4 σ (f_X9_isEnough_8 x1 x2 σ n)
          else
            ((rd tC σ 59 x5).bind fun v19 =>
            f_X9_isEnough_70 x1 x2 v18 x5 x4 v19 σ (f_X9_isEnough_8 x1 x2 σ n))))
      else
        f_X9_isEnough_73 x1 x2 x3 x4 x5 σ (f_X9_isEnough_8 x1 x2 σ n))
def f_X9_isEnough (x1 : Int32) (x2 : Int32) (σ : St) : Option (Int32) :=
  f_X9_isEnough_8 x1 x2 σ FU 0 0 0
def f_X9_weekOfSide_65 (x1 : Int32) (x2 : Int32) (x3 : Int32) (σ : St) (k5 : Int32 → Int32 → Option (Int32)) : Option (Int32) :=
  bnd (x3 + 1 : Int32) fun v12 =>
  k5 x2 v12
def f_X9_weekOfSide_52 (x1 : Int32) (x2 : Int32) (x3 : Int32) (x4 : Int32) (σ : St) (k5 : Int32 → Int32 → Option (Int32)) : Option (Int32) :=
  (f_X9_isEnough x1 x4 σ).bind fun v11 =>
  if v11 = 0 then
    f_X9_weekOfSide_65 x1 x2 x3 σ k5
  else
    f_X9_weekOfSide_65 x1 x4 x3 σ k5
def f_X9_weekOfSide_33 (x1 : Int32) (x2 : Int32) (x3 : Int32) (y0 : Int32) (σ : St) (k5 : Int32 → Int32 → Option (Int32)) : Option (Int32) :=
  if y0 < 0 then
    f_X9_weekOfSide_65 x1 x2 x3 σ k5
  else
    (if x2 = (-2) then
      f_X9_weekOfSide_52 x1 x2 x3 y0 σ k5
    else
      (if x2 ≤ y0 then
        f_X9_weekOfSide_65 x1 x2 x3 σ k5
      else
        f_X9_weekOfSide_52 x1 x2 x3 y0 σ k5))
def f_X9_weekOfSide_5 (x1 : Int32) (σ : St) : Nat → Int32 → Int32 → Option (Int32)
  | 0, _, _ => none
  | n + 1, x2, x3 =>
    if (gF σ 804) ≤ x3 then
      some x2
    else
      ((rd tC σ 58 x3).bind fun v9 =>
      if v9 = x1 then
        ((f_X9_weekOf x3 σ).bind fun v10 =>
        f_X9_weekOfSide_33 x1 x2 x3 v10 σ (f_X9_weekOfSide_5 x1 σ n))
      else
        f_X9_weekOfSide_33 x1 x2 x3 (-2) σ (f_X9_weekOfSide_5 x1 σ n))
def f_X9_weekOfSide (x1 : Int32) (σ : St) : Option (Int32) :=
  f_X9_weekOfSide_5 x1 σ FU (-2) 0
def f_X10_isMinute (x0 : Int32) : Int32 :=
  vp_nar .boolean (f_X10_lies x0 0 8999)
def f_X10_isAuthor (x0 : Int32) : Int32 :=
  vp_nar .boolean (f_X10_lies x0 0 2)
def f_X10_clock (x1 : Int32) (σ : St) : Option (Int32 × St) :=
  if (f_X10_lies x1 (gF σ 0) 8999) = 0 then
    some (0, σ)
  else
    (bnd (sF σ 0 x1) fun σ3 =>
    some (1, σ3))
def f_X10_depth (x1 : Int32) (x2 : Int32) (x3 : Int32) (σ : St) : Option (Int32 × St) :=
  if (f_X6_isCell x1 x2) = 0 then
    some ((-1), σ)
  else
    (if (f_X10_lies x3 0 999) = 0 then
      some ((-1), σ)
    else
      ((f_X6_changeDepth x1 x2 x3 σ).bind fun u3 =>
      some (u3.1, u3.2)))
def f_X10_ship (x1 : Int32) (x2 : Int32) (x3 : Int32) (x4 : Int32) (σ : St) : Option (Int32 × St) :=
  if (f_X10_isSide x1) = 0 then
    some ((-1), σ)
  else
    (if (f_X10_lies x2 0 2) = 0 then
      some ((-1), σ)
    else
      (if (f_X10_lies x3 1 3) = 0 then
        some ((-1), σ)
      else
        (if (f_X10_lies x4 0 199) = 0 then
          some ((-1), σ)
        else
          ((f_X7_add x1 x2 x3 x4 σ).bind fun u3 =>
          some (u3.1, u3.2)))))
def f_X10_report (x1 : Int32) (x2 : Int32) (x3 : Int32) (x4 : Int32) (x5 : Int32) (σ : St) : Option (Int32 × St) :=
  if (f_X7_has x1 σ) = 0 then
    some ((-1), σ)
  else
    (if (f_X7_has x2 σ) = 0 then
      some ((-1), σ)
    else
      (if (f_X10_lies x3 0 (gF σ 0)) = 0 then
        some ((-1), σ)
      else
        (if (f_X6_isCell x4 x5) = 0 then
          some ((-1), σ)
        else
          ((f_X5_add x1 x2 x3 x4 x5 (gF σ 0) σ).bind fun u3 =>
          some (u3.1, u3.2)))))
def f_X10_where (x1 : Int32) (x2 : Int32) (x3 : Int32) (σ : St) : Option (Int32) :=
  if (f_X7_has x1 σ) = 0 then
    some (-1)
  else
    (if (f_X10_isMinute x2) = 0 then
      some (-1)
    else
      (if (f_X10_isMinute x3) = 0 then
        some (-1)
      else
        ((f_X5_cellOf x1 x2 x3 σ).bind fun v3 =>
        some v3)))
def f_X10_chain (x1 : Int32) (x2 : Int32) (σ : St) : Option (Int32 × St) :=
  if (f_X7_has x1 σ) = 0 then
    some ((-1), σ)
  else
    (if (f_X10_isMinute x2) = 0 then
      some ((-1), σ)
    else
      ((rd tC σ 20 x1).bind fun v5 =>
      (f_X5_findChain x1 v5 x2 σ).bind fun u6 =>
      some (u6.1, u6.2)))
def f_X10_chained (x1 : Int32) (σ : St) : Option (Int32) :=
  (f_X5_inChain x1 σ).bind fun v2 =>
  some v2
def f_X10_point (x1 : Int32) (x2 : Int32) (x3 : Int32) (σ : St) : Option (Int32 × St) :=
  if (f_X10_isSide x1) = 0 then
    some ((-1), σ)
  else
    (if (f_X6_isCell x2 x3) = 0 then
      some ((-1), σ)
    else
      ((f_X6_addPoint x1 x2 x3 σ).bind fun u3 =>
      some (u3.1, u3.2)))
def f_X10_chart (x1 : Int32) (x2 : Int32) (σ : St) : Option (Int32 × St) :=
  if (f_X10_lies x1 (-3) 3) = 0 then
    some (0, σ)
  else
    (if (f_X10_lies x2 (-3) 3) = 0 then
      some (0, σ)
    else
      (bnd (sF σ 104 x1) fun σ5 =>
      bnd (sF σ5 105 x2) fun σ6 =>
      some (1, σ6)))
def f_X10_reachOf (x1 : Int32) (x2 : Int32) (σ : St) : Option (Int32 × St) :=
  (f_J7_fill_d0a16 12 0 σ).bind fun σ9 =>
  (wl tC σ9 12 0 x2.toInt64).bind fun σ10 =>
  (f_X2_findClause 12 x1 5 x2 σ10).bind fun u11 =>
  if u11.1 = (-1) then
    some (3, u11.2)
  else
    ((f_X2_sumOf 12 u11.1 u11.2).bind fun u12 =>
    some ((f_J9_max_f86c9 0 (f_J9_min_f86c9 40 u12.1)).toInt32, u12.2))
def f_X10_reach (x1 : Int32) (x2 : Int32) (σ : St) : Option (Int32 × St) :=
  if (f_X10_isSide x1) = 0 then
    some ((-1), σ)
  else
    (if (f_X10_isMinute x2) = 0 then
      some ((-1), σ)
    else
      ((f_X10_reachOf x1 x2 σ).bind fun u3 =>
      some (u3.1, u3.2)))
def f_X10_within (x1 : Int32) (x2 : Int32) (x3 : Int32) (x4 : Int32) (x5 : Int32) (σ : St) : Option (Int32 × St) :=
  if (f_X10_isSide x1) = 0 then
    some ((-1), σ)
  else
    (if (f_X10_lies x2 0 1) = 0 then
      some ((-1), σ)
    else
      (if (f_X6_isCell x3 x4) = 0 then
        some ((-1), σ)
      else
        (if (f_X10_isMinute x5) = 0 then
          some ((-1), σ)
        else
          ((f_X10_reachOf x1 x5 σ).bind fun u5 =>
          (f_X6_isNear x1 x2 x3 x4 u5.1 u5.2).bind fun v6 =>
          bnd (if v6 = 0 then 0 else 1 : Int32) fun v7 =>
          some (v7, u5.2)))))
def f_X10_inside_131 (x1 : Int32) (x2 : Int32) (x3 : Int32) (x4 : Int32) (x5 : Int32) (x6 : Int64) (x8 : Int32) (σ : St) (k49 : Int64 → Int32 → Option (Int64 × St)) : Option (Int64 × St) :=
  bnd (x8 + 1 : Int32) fun v18 =>
  k49 x6 v18
def f_X10_inside_49 (x1 : Int32) (x2 : Int32) (x3 : Int32) (x4 : Int32) (x5 : Int32) (σ : St) : Nat → Int64 → Int32 → Option (Int64 × St)
  | 0, _, _ => none
  | n + 1, x6, x8 =>
    if (gF σ 204) ≤ x8 then
      some (x6, σ)
    else
      ((rd tC σ 18 x8).bind fun v14 =>
      if v14 = x1 then
        f_X10_inside_131 x1 x2 x3 x4 x5 x6 x8 σ (f_X10_inside_49 x1 x2 x3 x4 x5 σ n)
      else
        ((f_X5_cellOf x8 x3 x4 σ).bind fun v15 =>
        if v15 = (-1) then
          f_X10_inside_131 x1 x2 x3 x4 x5 x6 x8 σ (f_X10_inside_49 x1 x2 x3 x4 x5 σ n)
        else
          ((f_X6_isNear x1 x2 (f_X6_xOf v15) (f_X6_yOf v15) x5 σ).bind fun v16 =>
          if v16 = 0 then
            f_X10_inside_131 x1 x2 x3 x4 x5 x6 x8 σ (f_X10_inside_49 x1 x2 x3 x4 x5 σ n)
          else
            (bnd (x6 ||| (lshl_ 1 x8) : Int64) fun v17 =>
            f_X10_inside_131 x1 x2 x3 x4 x5 v17 x8 σ (f_X10_inside_49 x1 x2 x3 x4 x5 σ n)))))
def f_X10_inside (x1 : Int32) (x2 : Int32) (x3 : Int32) (x4 : Int32) (σ : St) : Option (Int64 × St) :=
  if (f_X10_isSide x1) = 0 then
    some ((-1), σ)
  else
    (if (f_X10_lies x2 0 1) = 0 then
      some ((-1), σ)
    else
      (if (f_X10_isMinute x3) = 0 then
        some ((-1), σ)
      else
        (if (f_X10_isMinute x4) = 0 then
          some ((-1), σ)
        else
          ((f_X10_reachOf x1 x3 σ).bind fun u13 =>
          f_X10_inside_49 x1 x2 x3 x4 u13.1 u13.2 FU 0 0))))
def f_X10_beside_125 (x1 : Int32) (x2 : Int32) (x3 : Int32) (x4 : Int32) (σ : St) (k24 : Int32 → Int32 → Option (Int32)) : Option (Int32) :=
  bnd (x4 + 1 : Int32) fun v24 =>
  k24 x3 v24
def f_X10_beside_24 (x1 : Int32) (x2 : Int32) (σ : St) : Nat → Int32 → Int32 → Option (Int32)
  | 0, _, _ => none
  | n + 1, x3, x4 =>
    if (gF σ 307) ≤ x4 then
      some x3
    else
      ((rd tC σ 22 x4).bind fun v17 =>
      (rd tC σ 23 x4).bind fun v18 =>
      if v17 = v18 then
        (if (f_X7_has v17 σ) = 0 then
          f_X10_beside_125 x1 x2 x3 x4 σ (f_X10_beside_24 x1 x2 σ n)
        else
          ((rd tC σ 18 v17).bind fun v19 =>
          if v19 = x1 then
            f_X10_beside_125 x1 x2 x3 x4 σ (f_X10_beside_24 x1 x2 σ n)
          else
            ((rd tC σ 25 x4).bind fun v20 =>
            (rd tC σ 26 x4).bind fun v21 =>
            (f_X6_isNear x1 0 v20 v21 x2 σ).bind fun v22 =>
            if v22 = 0 then
              f_X10_beside_125 x1 x2 x3 x4 σ (f_X10_beside_24 x1 x2 σ n)
            else
              (bnd (x3 + 1 : Int32) fun v23 =>
              f_X10_beside_125 x1 x2 v23 x4 σ (f_X10_beside_24 x1 x2 σ n)))))
      else
        f_X10_beside_125 x1 x2 x3 x4 σ (f_X10_beside_24 x1 x2 σ n))
def f_X10_beside (x1 : Int32) (x2 : Int32) (σ : St) : Option (Int32) :=
  if (f_X10_isSide x1) = 0 then
    some (-1)
  else
    (if (f_X10_lies x2 0 40) = 0 then
      some (-1)
    else
      f_X10_beside_24 x1 x2 σ FU 0 0)
def f_X10_feed (x1 : Int32) (x2 : Int32) (x3 : Int32) (x4 : Int32) (x5 : Int32) (σ : St) : Option (Int32 × St) :=
  if (f_X4_hasRoomFor 20 σ) = 0 then
    some ((-1), σ)
  else
    ((f_X4_take x1 σ).bind fun σ11 =>
    (f_X4_take x2 σ11).bind fun σ12 =>
    (f_X4_take x3 σ12).bind fun σ13 =>
    (f_X4_take x4 σ13).bind fun σ14 =>
    (f_X4_take x5 σ14).bind fun σ15 =>
    some (gF σ15 502, σ15))
def f_X10_end (x1 : Int32) (σ : St) : Option (Int32 × St) :=
  if (f_X10_lies x1 0 (gF σ 502)) = 0 then
    some ((-1), σ)
  else
    (bnd (sF σ 502 x1) fun σ3 =>
    some (x1, σ3))
def f_X10_statute_41 (x1 : Int32) (x2 : Int32) (y0 : Int32) (σ : St) : Option (Int32 × St) :=
  bnd (sF σ 502 0) fun σ8 =>
  if y0 = 0 then
    ((f_X2_enact x1 x2 σ8).bind fun u9 =>
    some (u9.1, u9.2))
  else
    some ((-2) - y0, σ8)
def f_X10_statute (x1 : Int32) (x2 : Int32) (σ : St) : Option (Int32 × St) :=
  if (f_X10_isAuthor x1) = 0 then
    some ((-1), σ)
  else
    (if (f_X10_lies x2 (gF σ 0) 8999) = 0 then
      some ((-1), σ)
    else
      (if (f_X2_isFull σ) = 0 then
        ((f_X4_read x1 σ).bind fun u7 =>
        f_X10_statute_41 x1 x2 u7.1 u7.2)
      else
        some ((-1), σ)))
def f_X10_inForce (x1 : Int32) (x2 : Int32) (σ : St) : Option (Int32) :=
  if (f_X2_has x1 σ) = 0 then
    some (-1)
  else
    (if (f_X10_isMinute x2) = 0 then
      some (-1)
    else
      ((f_X2_stands x1 x2 σ).bind fun v3 =>
      bnd (if v3 = 0 then 0 else 1 : Int32) fun v4 =>
      some v4))
def f_X10_canAsk_39 (σ : St) : Int32 :=
  0
def f_X10_canAsk (x1 : Int32) (x2 : Int32) (x3 : Int32) (x4 : Int32) (x5 : Int32) (σ : St) : Int32 :=
  if (f_X10_isAuthor x1) = 0 then
    f_X10_canAsk_39 σ
  else
    (if (f_X7_has x2 σ) = 0 then
      f_X10_canAsk_39 σ
    else
      (if (f_X6_isCell x3 x4) = 0 then
        f_X10_canAsk_39 σ
      else
        (if (f_X10_isMinute x5) = 0 then
          f_X10_canAsk_39 σ
        else
          1)))
def f_X10_askOf (x1 : Int32) (x2 : Int32) (x3 : Int32) (x4 : Int32) (σ : St) : Option (St) :=
  (f_J7_fill_d0a16 11 0 σ).bind fun σ29 =>
  (wl tC σ29 11 0 x4.toInt64).bind fun σ30 =>
  (wl tC σ30 11 1 x2.toInt64).bind fun σ31 =>
  (wl tC σ31 11 2 x3.toInt64).bind fun σ32 =>
  (f_X6_depthAt x2 x3 σ32).bind fun v33 =>
  (wl tC σ32 11 3 v33.toInt64).bind fun σ34 =>
  if (f_X7_has x1 σ34) = 0 then
    some σ34
  else
    ((rd tC σ34 18 x1).bind fun v35 =>
    (wl tC σ34 11 4 v35.toInt64).bind fun σ36 =>
    (rd tC σ36 19 x1).bind fun v37 =>
    (wl tC σ36 11 5 v37.toInt64).bind fun σ38 =>
    (rd tC σ38 21 x1).bind fun v39 =>
    (wl tC σ38 11 6 v39.toInt64).bind fun σ40 =>
    (rd tC σ40 20 x1).bind fun v41 =>
    (wl tC σ40 11 7 v41.toInt64).bind fun σ42 =>
    some σ42)
def f_X10_findMay (x1 : Int32) (x2 : Int32) (x3 : Int32) (x4 : Int32) (x5 : Int32) (x6 : Int32) (σ : St) : Option (Int32 × St) :=
  (f_X10_askOf x3 x4 x5 x6 σ).bind fun σ11 =>
  bnd (if x1 = 2 then 0 else x1 : Int32) fun v12 =>
  (f_X10_reachOf v12 x6 σ11).bind fun u13 =>
  (f_X6_isNear v12 0 x4 x5 u13.1 u13.2).bind fun v14 =>
  bnd (if v14 = 0 then 0 else 1 : Int64) fun v15 =>
  (wl tC u13.2 11 8 v15).bind fun σ16 =>
  (f_X2_findClause 11 x1 x2 x6 σ16).bind fun u17 =>
  some (u17.1, u17.2)
def f_X10_meshFor (x1 : Int32) (x2 : Int32) (x3 : Int32) (x4 : Int32) (x5 : Int32) (σ : St) : Option (Int64 × St) :=
  (f_X10_askOf x2 x3 x4 x5 σ).bind fun σ4 =>
  (f_X2_findClause 11 x1 6 x5 σ4).bind fun u5 =>
  (f_X2_sumOf 11 u5.1 u5.2).bind fun u6 =>
  some (u6.1, u6.2)
def f_X10_may (x1 : Int32) (x2 : Int32) (x3 : Int32) (x4 : Int32) (x5 : Int32) (x6 : Int32) (σ : St) : Option (Int32 × St) :=
  if (f_X10_canAsk x1 x3 x4 x5 x6 σ) = 0 then
    some ((-1), σ)
  else
    (if (f_X10_lies x2 0 4) = 0 then
      some ((-1), σ)
    else
      ((f_X10_findMay x1 x2 x3 x4 x5 x6 σ).bind fun u5 =>
      (f_X2_allows u5.1 x2 u5.2).bind fun v6 =>
      bnd (if v6 = 0 then 0 else 1 : Int32) fun v7 =>
      some (v7, u5.2)))
def f_X10_mesh (x1 : Int32) (x2 : Int32) (x3 : Int32) (x4 : Int32) (x5 : Int32) (σ : St) : Option (Int64 × St) :=
  if (f_X10_canAsk x1 x2 x3 x4 x5 σ) = 0 then
    some (0, σ)
  else
    ((f_X10_meshFor x1 x2 x3 x4 x5 σ).bind fun u3 =>
    some (u3.1, u3.2))
def f_X10_by (x1 : Int32) (x2 : Int32) (x3 : Int32) (x4 : Int32) (x5 : Int32) (x6 : Int32) (σ : St) : Option (Int32 × St) :=
  if (f_X10_canAsk x1 x3 x4 x5 x6 σ) = 0 then
    some ((-1), σ)
  else
    (if (f_X10_lies x2 0 4) = 0 then
      some ((-1), σ)
    else
      ((f_X10_findMay x1 x2 x3 x4 x5 x6 σ).bind fun u3 =>
      some (u3.1, u3.2)))
def f_X10_act (x1 : Int32) (x2 : Int32) (x3 : Int32) (x4 : Int32) (x5 : Int32) (σ : St) : Option (Int32 × St) :=
  if 150 ≤ (gF σ 9) then
    some ((-1), σ)
  else
    (if (f_X7_has x1 σ) = 0 then
      some ((-1), σ)
    else
      (if (f_X10_lies x2 0 4) = 0 then
        some ((-1), σ)
      else
        (if (f_X6_isCell x3 x4) = 0 then
          some ((-1), σ)
        else
          (if (f_X10_lies x5 0 (gF σ 0)) = 0 then
            some ((-1), σ)
          else
            (bnd ((gF σ 9) * 5 : Int32) fun v15 =>
            (wr tC σ 13 v15 x1).bind fun σ16 =>
            (wr tC σ16 13 (v15 + 1) x2).bind fun σ17 =>
            (wr tC σ17 13 (v15 + 2) x3).bind fun σ18 =>
            (wr tC σ18 13 (v15 + 3) x4).bind fun σ19 =>
            (wr tC σ19 13 (v15 + 4) x5).bind fun σ20 =>
            bnd (sF σ20 9 ((gF σ20 9) + 1)) fun σ21 =>
            some ((gF σ21 9) - 1, σ21))))))
def f_X10_isKept_143 (σ : St) : Option (Int32 × St) :=
  some (1, σ)
def f_X10_isKept (x1 : Int32) (x2 : Int32) (σ : St) : Option (Int32 × St) :=
  bnd (x1 * 5 : Int32) fun v21 =>
  if (f_X10_lies v21 0 (750 - 5)) = 0 then
    some (0, σ)
  else
    ((rd tC σ 13 v21).bind fun v22 =>
    (rd tC σ 13 (v21 + 1)).bind fun v23 =>
    (rd tC σ 13 (v21 + 2)).bind fun v24 =>
    (rd tC σ 13 (v21 + 3)).bind fun v25 =>
    (rd tC σ 13 (v21 + 4)).bind fun v26 =>
    if (f_X7_has v22 σ) = 0 then
      some (0, σ)
    else
      ((f_X10_findMay x2 v23 v22 v24 v25 v26 σ).bind fun u27 =>
      (f_X2_allows u27.1 v23 u27.2).bind fun v28 =>
      if v28 = 0 then
        some (0, u27.2)
      else
        (if v23 = 0 then
          ((rd tC u27.2 21 v22).bind fun v29 =>
          (f_X10_meshFor x2 v22 v24 v25 v26 u27.2).bind fun u30 =>
          if v29.toInt64 < u30.1 then
            some (0, u30.2)
          else
            f_X10_isKept_143 u30.2)
        else
          f_X10_isKept_143 u27.2)))
def f_X10_kept (x1 : Int32) (x2 : Int32) (σ : St) : Option (Int32 × St) :=
  if (f_X10_lies x1 0 ((gF σ 9) - 1)) = 0 then
    some ((-1), σ)
  else
    (if (f_X10_isAuthor x2) = 0 then
      some ((-1), σ)
    else
      ((f_X10_isKept x1 x2 σ).bind fun u3 =>
      bnd (if u3.1 = 0 then 0 else 1 : Int32) fun v4 =>
      some (v4, u3.2)))
def f_X10_broken_80 (x1 : Int32) (x2 : Int32) (x3 : Int32) (x4 : Int32) (σ : St) (k21 : Int32 → Int32 → St → Option (Int32 × St)) : Option (Int32 × St) :=
  bnd (x4 + 1 : Int32) fun v15 =>
  k21 x3 v15 σ
def f_X10_broken_21 (x1 : Int32) (x2 : Int32) : Nat → Int32 → Int32 → St → Option (Int32 × St)
  | 0, _, _, _ => none
  | n + 1, x3, x4, σ =>
    if (gF σ 9) ≤ x4 then
      some (x3, σ)
    else
      ((rd tC σ 13 (x4 * 5)).bind fun v11 =>
      if (f_X7_has v11 σ) = 0 then
        f_X10_broken_80 x1 x2 x3 x4 σ (f_X10_broken_21 x1 x2 n)
      else
        ((rd tC σ 18 v11).bind fun v12 =>
        if v12 = x1 then
          ((f_X10_isKept x4 x2 σ).bind fun u13 =>
          if u13.1 = 0 then
            (bnd (x3 + 1 : Int32) fun v14 =>
            f_X10_broken_80 x1 x2 v14 x4 u13.2 (f_X10_broken_21 x1 x2 n))
          else
            f_X10_broken_80 x1 x2 x3 x4 u13.2 (f_X10_broken_21 x1 x2 n))
        else
          f_X10_broken_80 x1 x2 x3 x4 σ (f_X10_broken_21 x1 x2 n)))
def f_X10_broken (x1 : Int32) (x2 : Int32) (σ : St) : Option (Int32 × St) :=
  if (f_X10_isSide x1) = 0 then
    some ((-1), σ)
  else
    (if (f_X10_isAuthor x2) = 0 then
      some ((-1), σ)
    else
      f_X10_broken_21 x1 x2 FU 0 0 σ)
def f_X10_hook (x1 : Int32) (x2 : Int32) (x3 : Int32) (x4 : Int32) (x5 : Int32) (x6 : Int32) (σ : St) : Option (Int32 × St) :=
  if (f_X10_lies x1 1 5) = 0 then
    some ((-1), σ)
  else
    (if (f_X10_lies x2 1 5) = 0 then
      some ((-1), σ)
    else
      (if (f_X10_lies x6 0 8) = 0 then
        some ((-1), σ)
      else
        (bnd ((x1 * x2) - 1 : Int32) fun v7 =>
        if (f_X10_lies x3 0 v7) = 0 then
          some ((-1), σ)
        else
          (if (f_X10_lies x4 0 v7) = 0 then
            some ((-1), σ)
          else
            (if (f_X10_lies x5 (-1) v7) = 0 then
              some ((-1), σ)
            else
              (if x4 = x5 then
                some ((-1), σ)
              else
                (bnd (if x5 = (-1) then 0 else 1 : Int32) fun v8 =>
                (f_X1_lay x1 x2 v8 σ).bind fun σ9 =>
                (f_X1_play x3 x4 x5 x6 σ9).bind fun u10 =>
                some (u10.1, u10.2))))))))
def f_X10_hooks (σ : St) : Int32 :=
  gF σ 611
def f_X10_overtakes_98 : Int32 :=
  0
def f_X10_overtakes (x0 : Int32) (x1 : Int32) (x2 : Int32) (x3 : Int32) : Int32 :=
  bnd ((f_X6_xOf x1) - (f_X6_xOf x0) : Int32) fun v13 =>
  bnd ((f_X6_yOf x1) - (f_X6_yOf x0) : Int32) fun v14 =>
  bnd ((f_X6_xOf x3) - (f_X6_xOf x2) : Int32) fun v15 =>
  bnd ((f_X6_yOf x3) - (f_X6_yOf x2) : Int32) fun v16 =>
  bnd ((f_X6_xOf x0) - (f_X6_xOf x2) : Int32) fun v17 =>
  bnd ((f_X6_yOf x0) - (f_X6_yOf x2) : Int32) fun v18 =>
  if ((v13 * v15) + (v14 * v16)) ≤ 0 then
    f_X10_overtakes_98
  else
    (if 0 ≤ ((v17 * v15) + (v18 * v16)) then
      f_X10_overtakes_98
    else
      1)
def f_X10_isToTheRight (x0 : Int32) (x1 : Int32) (x2 : Int32) : Int32 :=
  bnd ((f_X6_xOf x1) - (f_X6_xOf x0) : Int32) fun v9 =>
  bnd ((f_X6_yOf x1) - (f_X6_yOf x0) : Int32) fun v10 =>
  bnd ((f_X6_xOf x2) - (f_X6_xOf x0) : Int32) fun v11 =>
  bnd ((f_X6_yOf x2) - (f_X6_yOf x0) : Int32) fun v12 =>
  bnd (if ((v9 * v12) - (v10 * v11)) ≤ 0 then 0 else 1 : Int32) fun v13 =>
  vp_nar .boolean v13
def f_X10_way_213 (x11 : Int32) (y0 : Int32) (σ : St) : Option (Int32) :=
  bnd (if x11 = 0 then 0 else 1 : Int32) fun v19 =>
  bnd (if y0 = 0 then 0 else 2 : Int32) fun v20 =>
  some (v19 + v20)
def f_X10_way_208 (x11 : Int32) (σ : St) : Option (Int32) :=
  f_X10_way_213 x11 1 σ
def f_X10_way_212 (x11 : Int32) (σ : St) : Option (Int32) :=
  f_X10_way_213 x11 0 σ
def f_X10_way_184 (x5 : Int32) (x7 : Int32) (x8 : Int32) (x9 : Int32) (x10 : Int32) (y0 : Int32) (σ : St) : Option (Int32) :=
  if x9 = 0 then
    (if x10 = 0 then
      (if (f_X10_isToTheRight x7 x8 x5) = 0 then
        f_X10_way_212 y0 σ
      else
        f_X10_way_208 y0 σ)
    else
      f_X10_way_208 y0 σ)
  else
    f_X10_way_212 y0 σ
def f_X10_way_179 (x5 : Int32) (x7 : Int32) (x8 : Int32) (x9 : Int32) (x10 : Int32) (σ : St) : Option (Int32) :=
  f_X10_way_184 x5 x7 x8 x9 x10 1 σ
def f_X10_way_183 (x5 : Int32) (x7 : Int32) (x8 : Int32) (x9 : Int32) (x10 : Int32) (σ : St) : Option (Int32) :=
  f_X10_way_184 x5 x7 x8 x9 x10 0 σ
def f_X10_way (x1 : Int32) (x2 : Int32) (x3 : Int32) (x4 : Int32) (σ : St) : Option (Int32) :=
  if (f_X7_has x1 σ) = 0 then
    some (-1)
  else
    (if (f_X7_has x2 σ) = 0 then
      some (-1)
    else
      (if x1 = x2 then
        some (-1)
      else
        (if (f_X10_lies x3 1 8999) = 0 then
          some (-1)
        else
          (if (f_X10_isMinute x4) = 0 then
            some (-1)
          else
            ((f_X5_cellOf x1 (x3 - 1) x4 σ).bind fun v13 =>
            (f_X5_cellOf x1 x3 x4 σ).bind fun v14 =>
            (f_X5_cellOf x2 (x3 - 1) x4 σ).bind fun v15 =>
            (f_X5_cellOf x2 x3 x4 σ).bind fun v16 =>
            if v13 = (-1) then
              some (-2)
            else
              (if v14 = (-1) then
                some (-2)
              else
                (if v15 = (-1) then
                  some (-2)
                else
                  (if v16 = (-1) then
                    some (-2)
                  else
                    (bnd (f_X10_overtakes v13 v14 v15 v16 : Int32) fun v17 =>
                    bnd (f_X10_overtakes v15 v16 v13 v14 : Int32) fun v18 =>
                    if v18 = 0 then
                      (if v17 = 0 then
                        (if (f_X10_isToTheRight v13 v14 v15) = 0 then
                          f_X10_way_183 v13 v15 v16 v17 v18 σ
                        else
                          f_X10_way_179 v13 v15 v16 v17 v18 σ)
                      else
                        f_X10_way_179 v13 v15 v16 v17 v18 σ)
                    else
                      f_X10_way_183 v13 v15 v16 v17 v18 σ)))))))))
def f_X10_office (x1 : Int32) (x2 : Int32) (x3 : Int32) (σ : St) : Option (Int32 × St) :=
  if (f_X10_lies x1 0 1) = 0 then
    some (0, σ)
  else
    (if (f_X10_lies x2 0 99999999) = 0 then
      some (0, σ)
    else
      (if (f_X10_lies x3 0 1000) = 0 then
        some (0, σ)
      else
        ((wr tC σ 50 x1 x2).bind fun σ5 =>
        (wr tC σ5 51 x1 x3).bind fun σ6 =>
        some (1, σ6))))
def f_X10_year (x1 : Int32) (x2 : Int32) (x3 : Int32) (σ : St) : Option (Int32 × St) :=
  if (f_X10_lies x1 0 2) = 0 then
    some ((-1), σ)
  else
    (if (f_X8_isYear x2) = 0 then
      some ((-1), σ)
    else
      (if (f_X10_lies x3 0 9999999) = 0 then
        some ((-1), σ)
      else
        ((f_X8_changeYear x1 x2 x3 σ).bind fun u3 =>
        some (u3.1, u3.2))))
def f_X10_stock (x1 : Int32) (x2 : Int32) (σ : St) : Option (Int64) :=
  if (f_X10_lies x1 0 1) = 0 then
    some (-1)
  else
    (if (f_X8_isYear x2) = 0 then
      some (-1)
    else
      ((rd tC σ 51 x1).bind fun v5 =>
      (f_X8_stockWith x1 x2 v5 σ).bind fun v6 =>
      some v6))
def f_X10_fails (x1 : Int32) (σ : St) : Option (Int32) :=
  if (f_X10_lies x1 0 1) = 0 then
    some (-1)
  else
    ((f_X8_failsIn x1 σ).bind fun v3 =>
    some v3)
def f_X10_agree (x1 : Int32) (x2 : Int32) (σ : St) : Option (Int32) :=
  if (f_X10_lies x1 0 1) = 0 then
    some (-1)
  else
    (if (f_X8_isYear x2) = 0 then
      some (-1)
    else
      ((rd tC σ 51 (1 - x1)).bind fun v7 =>
      (f_X8_stockWith (1 - x1) x2 v7 σ).bind fun v8 =>
      (f_X8_nearestLoss x1 x2 v8 σ).bind fun v9 =>
      some v9))
def f_X10_age (x1 : Int32) (x2 : Int32) (x3 : Int32) (x4 : Int32) (σ : St) : Option (Int32 × St) :=
  if (f_X10_lies x1 0 7) = 0 then
    some (0, σ)
  else
    (if (f_X10_lies x2 0 999999) = 0 then
      some (0, σ)
    else
      (if (f_X10_lies x3 0 199) = 0 then
        some (0, σ)
      else
        (if (f_X10_lies x4 0 999) = 0 then
          some (0, σ)
        else
          ((wr tC σ 53 x1 x2).bind fun σ7 =>
          (wr tC σ7 54 x1 x3).bind fun σ8 =>
          (wr tC σ8 55 x1 x4).bind fun σ9 =>
          some (1, σ9)))))
def f_X10_canFish_48 : Int32 :=
  0
def f_X10_canFish (x0 : Int32) (x1 : Int32) (x2 : Int32) (x3 : Int32) : Int32 :=
  if (f_X10_lies x0 0 199) = 0 then
    f_X10_canFish_48
  else
    (if (f_X10_lies x1 0 1000) = 0 then
      f_X10_canFish_48
    else
      (if (f_X10_lies x2 0 1000) = 0 then
        f_X10_canFish_48
      else
        (if (f_X10_lies x3 0 999999) = 0 then
          f_X10_canFish_48
        else
          1)))
def f_X10_landed (x1 : Int32) (x2 : Int32) (x3 : Int32) (x4 : Int32) (x5 : Int32) (σ : St) : Option (Int64 × St) :=
  if (f_X10_lies x1 1 30) = 0 then
    some ((-1), σ)
  else
    (if (f_X10_canFish x2 x3 x4 x5) = 0 then
      some ((-1), σ)
    else
      ((f_X8_landedBy x1 x2 x3 x4 x5 σ).bind fun u3 =>
      some (u3.1, u3.2)))
def f_X10_pays (x1 : Int32) (x2 : Int32) (x3 : Int32) (x4 : Int32) (x5 : Int32) (σ : St) : Option (Int32 × St) :=
  if (f_X10_canFish x1 x3 x4 x5) = 0 then
    some ((-1), σ)
  else
    (if (f_X10_canFish x2 x3 x4 x5) = 0 then
      some ((-1), σ)
    else
      ((f_X8_paysFrom x1 x2 x3 x4 x5 σ).bind fun u3 =>
      some (u3.1, u3.2)))
def f_X10_town (x1 : Int32) (x2 : Int32) (x3 : Int32) (x4 : Int32) (σ : St) : Option (Int32 × St) :=
  if (f_X10_isSide x1) = 0 then
    some ((-1), σ)
  else
    (if (f_X10_lies x2 0 9999) = 0 then
      some ((-1), σ)
    else
      (if (f_X10_lies x3 0 9999999) = 0 then
        some ((-1), σ)
      else
        (if (f_X10_lies x4 0 99999) = 0 then
          some ((-1), σ)
        else
          ((f_X9_add x1 x2 x3 x4 σ).bind fun u3 =>
          some (u3.1, u3.2)))))
def f_X10_bar (x1 : Int32) (x2 : Int32) (x3 : Int32) (σ : St) : Option (Int32 × St) :=
  if (f_X9_has x1 σ) = 0 then
    some ((-1), σ)
  else
    (if (f_X9_isWeek x2) = 0 then
      some ((-1), σ)
    else
      (if (f_X9_isWeek x3) = 0 then
        some ((-1), σ)
      else
        (if x2 ≤ x3 then
          ((f_X9_addBar x1 x2 x3 σ).bind fun u3 =>
          some (u3.1, u3.2))
        else
          some ((-1), σ))))
def f_X10_lost (x1 : Int32) (x2 : Int32) (σ : St) : Option (Int32) :=
  if (f_X9_has x1 σ) = 0 then
    some (-1)
  else
    (if (f_X9_isWeek x2) = 0 then
      some (-1)
    else
      ((f_X9_lostBy x1 x2 σ).bind fun v3 =>
      some v3))
def f_X10_yields (x1 : Int32) (σ : St) : Option (Int32) :=
  if (f_X9_has x1 σ) = 0 then
    some (-1)
  else
    ((f_X9_weekOf x1 σ).bind fun v3 =>
    some v3)
def f_X10_sideYields (x1 : Int32) (σ : St) : Option (Int32) :=
  if (f_X10_isSide x1) = 0 then
    some (-1)
  else
    ((f_X9_weekOfSide x1 σ).bind fun v3 =>
    some v3)
def f_X10_term (x1 : Int32) (x2 : Int32) (σ : St) : Option (Int32 × St) :=
  if (f_X10_lies x1 (-9999) 9999) = 0 then
    some ((-1), σ)
  else
    (if (f_X10_lies x2 (-9999) 9999) = 0 then
      some ((-1), σ)
    else
      ((f_X3_add x1 x2 σ).bind fun u3 =>
      some (u3.1, u3.2)))
def f_X10_sign (x1 : Int32) (x2 : Int32) (σ : St) : Option (Int32) :=
  if (f_X10_lies x1 (-99999) 99999) = 0 then
    some (-1)
  else
    (if (f_X10_lies x2 (-99999) 99999) = 0 then
      some (-1)
    else
      ((f_X3_bestSet x1 x2 σ).bind fun v3 =>
      some v3))
def f_X10_box (x1 : Int32) (x2 : Int32) (x3 : Int32) (σ : St) : Option (Int32 × St) :=
  if (f_X10_lies x1 0 9999) = 0 then
    some ((-1), σ)
  else
    (if (f_X10_lies x2 0 999) = 0 then
      some ((-1), σ)
    else
      (if (f_X10_lies x3 0 99) = 0 then
        some ((-1), σ)
      else
        ((f_X0_add x1 x2 x3 σ).bind fun u3 =>
        some (u3.1, u3.2))))
def f_X10_escort_43 (x1 : Int32) (x2 : Int32) (σ : St) : Option (Int32 × St) :=
  (f_X0_give x1 x2 σ).bind fun u3 =>
  some (u3.1, u3.2)
def f_X10_escort (x1 : Int32) (x2 : Int32) (σ : St) : Option (Int32 × St) :=
  if (f_X10_lies x1 0 12) = 0 then
    some ((-1), σ)
  else
    (if (f_X10_lies x2 0 6) = 0 then
      some ((-1), σ)
    else
      (if (gF σ 1003) = 0 then
        (if 0 < x1 then
          some ((-2), σ)
        else
          (if x2 ≤ 0 then
            f_X10_escort_43 x1 x2 σ
          else
            some ((-2), σ)))
      else
        f_X10_escort_43 x1 x2 σ))
def f_X10_escorts (x1 : Int32) (σ : St) : Option (Int32) :=
  (f_X0_given x1 σ).bind fun v2 =>
  some v2
def f_X10_count (x1 : Int32) (σ : St) : Option (Int32) :=
  if x1 = 0 then
    some (gF σ 0)
  else
  if x1 = 1 then
    some (gF σ 204)
  else
  if x1 = 2 then
    some (gF σ 307)
  else
  if x1 = 3 then
    ((rd tC σ 17 0).bind fun v5 =>
    some v5)
  else
  if x1 = 4 then
    ((rd tC σ 17 1).bind fun v6 =>
    some v6)
  else
  if x1 = 5 then
    some (gF σ 400)
  else
  if x1 = 6 then
    some (gF σ 9)
  else
  if x1 = 7 then
    some (gF σ 804)
  else
  if x1 = 8 then
    some (gF σ 806)
  else
  if x1 = 9 then
    some (gF σ 902)
  else
  if x1 = 10 then
    some (gF σ 1003)
  else
  if x1 = 11 then
    some (gF σ 502)
  else
  some (-1)
