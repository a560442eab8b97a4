theorem u_f_X0_init (a0 : Nat) (hs : Hs) : f_X0_init a0 hs = (
    nwI 0 (8 : Int32) 8 fun q1 =>
    pR (some a0) 3 0 (some q1) (
    rtn ())) hs := rfl
theorem u_f_J7_fill_53178 (p0 : Option Nat) (p1 : Int32) (hs : Hs) : f_J7_fill_53178 p0 p1 hs = (
    lets (0 : Int32) fun (v1 : Int32) =>
    alen p0 fun v2 =>
    lets v2 fun (v3 : Int32) =>
    L_J7_fill_53178_5 p0 p1 v3 (rtn ()) 100000 v1) hs := rfl
theorem u_f_Jx4a65c_size_8abf5 (a0 : Nat) (hs : Hs) : f_Jx4a65c_size_8abf5 a0 hs = (
    gI (some a0) 2 2 fun v1 =>
    rtn v1) hs := rfl
theorem u_f_J15_checkIndex_7cf53 (p0 : Int32) (p1 : Int32) (hs : Hs) : f_J15_checkIndex_7cf53 p0 p1 hs = (
    call (f_J3_checkIndex_8e157 p0 p1 none) (fun (v1 : Int32) =>
    rtn v1) nox) hs := rfl
theorem u_f_Jx4a65c_elementData_915e3 (a0 : Nat) (p1 : Int32) (hs : Hs) : f_Jx4a65c_elementData_915e3 a0 p1 hs = (
    gR (some a0) 2 1 fun v1 =>
    ldR 4 v1 p1 fun v2 =>
    rtn v2) hs := rfl
theorem u_f_Jx4a65c_get_915e3 (a0 : Nat) (p1 : Int32) (hs : Hs) : f_Jx4a65c_get_915e3 a0 p1 hs = (
    gI (some a0) 2 2 fun v1 =>
    call (f_J15_checkIndex_7cf53 p1 v1) (fun (v2 : Int32) =>
    rcv (some a0) 2 fun r4 => call (f_Jx4a65c_elementData_915e3 r4 p1) (fun (v3 : Option Nat) =>
    rtn v3) nox) nox) hs := rfl
theorem u_f_X8_has (p0 : Int32) (p1 : Int32) (hs : Hs) : f_X8_has p0 p1 hs = (
    (if (((ushr p0 p1) &&& (1 : Int32))) = 0 then
    retZ (0 : Int32)
    else
    retZ (1 : Int32))) hs := rfl
theorem u_j_X0_largestGroup_74 (a0 : Option Nat) (a1 : Int32) (a2 : Int32) (a3 : Option Nat) (a4 : Int32)  (rec_5 : Option Nat → Int32 → OO (Option Nat)) (hs : Hs) : j_X0_largestGroup_74 a0 a1 a2 a3 a4 rec_5 hs = (
  lets (a4 + (1 : Int32)) fun (v9 : Int32) =>
    rec_5 a3 v9) hs := rfl
theorem u_j_X0_largestGroup_71 (a0 : Option Nat) (a1 : Int32) (a2 : Int32) (a4 : Int32) (a5 : Option Nat)  (rec_5 : Option Nat → Int32 → OO (Option Nat)) (hs : Hs) : j_X0_largestGroup_71 a0 a1 a2 a4 a5 rec_5 hs = (
  lets a5 fun (v11 : Option Nat) =>
    j_X0_largestGroup_74 a0 a1 a2 v11 a4 rec_5) hs := rfl
theorem u_f_X0_largestGroup (p0 : Option Nat) (p1 : Int32) (p2 : Int32) (hs : Hs) : f_X0_largestGroup p0 p1 p2 hs = (
    lets none fun (v1 : Option Nat) =>
    lets (0 : Int32) fun (v2 : Int32) =>
    L_X0_largestGroup_5 p0 p1 p2 (fun (v18 : Option Nat) => rtn v18) 100000 v1 v2) hs := rfl
theorem u_j_X0_giveHour_93 (a0 : Option Nat) (a1 : Option Nat) (a2 : Option Nat) (a3 : Int32)  (rec_2 : Int32 → OO Int32) (hs : Hs) : j_X0_giveHour_93 a0 a1 a2 a3 rec_2 hs = (
  lets (a3 + (1 : Int32)) fun (v10 : Int32) =>
    rec_2 v10) hs := rfl
theorem u_f_X0_giveHour (a0 : Nat) (p1 : Option Nat) (p2 : Option Nat) (hs : Hs) : f_X0_giveHour a0 p1 p2 hs = (
    lets (0 : Int32) fun (v1 : Int32) =>
    L_X0_giveHour_2 (some a0) p1 p2 (fun (v20 : Int32) => gR (some a0) 3 0 fun v21 =>
    ldI 0 v21 v20 fun v22 =>
    stI v21 v20 (v22 + (1 : Int32)) (
    retZ (1 : Int32))) (retZ (0 : Int32)) 100000 v1) hs := rfl
theorem u_j_X0_lackByGiving_85 (a0 : Option Nat) (a1 : Option Nat) (a2 : Int32) (a4 : Int32) (a5 : Int32) (a6 : Option Nat) (a7 : Int32) (s0 : Int32) (s1 : Int32) (rec_59 : Int32 → Int32 → OO Int32) (hs : Hs) : j_X0_lackByGiving_85 a0 a1 a2 a4 a5 a6 a7 s0 s1 rec_59 hs = (
  lets (s1 + s0) fun (v15 : Int32) =>
    lets (a7 + (1 : Int32)) fun (v16 : Int32) =>
    rec_59 v15 v16) hs := rfl
theorem u_f_X0_lackByGiving (a0 : Nat) (p1 : Option Nat) (p2 : Int32) (hs : Hs) : f_X0_lackByGiving a0 p1 p2 hs = (
    gR (some a0) 3 0 fun v1 =>
    call (f_J7_fill_53178 v1 (0 : Int32)) (fun (v2 : Unit) =>
    lets (0 : Int32) fun (v3 : Int32) =>
    lets (0 : Int32) fun (v4 : Int32) =>
    lets (0 : Int32) fun (v5 : Int32) =>
    L_X0_lackByGiving_16 (some a0) p1 p2 (fun (v21 : Int32) => rtn v21) (fun (v22 : Int32) => rtn v22) 100000 v3 v4 v5) nox) hs := rfl
theorem u_j_X0_excessAbove_62 (a0 : Option Nat) (a1 : Int32) (a2 : Int32) (a4 : Int32) (s0 : Int32) (s1 : Int32) (rec_5 : Int32 → Int32 → OO Int32) (hs : Hs) : j_X0_excessAbove_62 a0 a1 a2 a4 s0 s1 rec_5 hs = (
  lets (s1 + s0) fun (v9 : Int32) =>
    lets (a4 + (1 : Int32)) fun (v10 : Int32) =>
    rec_5 v9 v10) hs := rfl
theorem u_j_X0_excessAbove_61 (a0 : Option Nat) (a1 : Int32) (a2 : Int32) (a4 : Int32) (s0 : Int32) (rec_5 : Int32 → Int32 → OO Int32) (hs : Hs) : j_X0_excessAbove_61 a0 a1 a2 a4 s0 rec_5 hs = (
  j_X0_excessAbove_62 a0 a1 a2 a4 (0 : Int32) s0 rec_5) hs := rfl
theorem u_j_X0_excessAbove_132 (a0 : Option Nat) (a1 : Int32) (a2 : Int32) (a4 : Int32) (s0 : Int32) (s1 : Int32) (rec_73 : Int32 → Int32 → OO Int32) (hs : Hs) : j_X0_excessAbove_132 a0 a1 a2 a4 s0 s1 rec_73 hs = (
  lets (s1 - s0) fun (v24 : Int32) =>
    lets (a4 + (1 : Int32)) fun (v25 : Int32) =>
    rec_73 v24 v25) hs := rfl
theorem u_j_X0_excessAbove_131 (a0 : Option Nat) (a1 : Int32) (a2 : Int32) (a4 : Int32) (s0 : Int32) (rec_73 : Int32 → Int32 → OO Int32) (hs : Hs) : j_X0_excessAbove_131 a0 a1 a2 a4 s0 rec_73 hs = (
  j_X0_excessAbove_132 a0 a1 a2 a4 (0 : Int32) s0 rec_73) hs := rfl
theorem u_f_X0_excessAbove (p0 : Option Nat) (p1 : Int32) (p2 : Int32) (hs : Hs) : f_X0_excessAbove p0 p1 p2 hs = (
    lets (0 : Int32) fun (v1 : Int32) =>
    lets (0 : Int32) fun (v2 : Int32) =>
    L_X0_excessAbove_5 p0 p1 p2 (fun (v16 : Int32) => lets (0 : Int32) fun (v17 : Int32) =>
    L_X0_excessAbove_73 p0 p1 p2 (fun (v30 : Int32) => rtn v30) 100000 v16 v17) 100000 v1 v2) hs := rfl
theorem u_f_X0_lackByNumbers (a0 : Nat) (p1 : Option Nat) (p2 : Int32) (hs : Hs) : f_X0_lackByNumbers a0 p1 p2 hs = (
    call (f_X0_excessAbove p1 p2 (0 : Int32)) (fun (v1 : Int32) =>
    lets ((if (0 : Int32) < v1 then v1 else (0 : Int32))) fun (v2 : Int32) =>
    lets (0 : Int32) fun (v3 : Int32) =>
    L_X0_lackByNumbers_14 p1 p2 (fun (v14 : Int32) => rtn v14) 100000 v2 v3) nox) hs := rfl
theorem u_f_X1_init (a0 : Nat) (hs : Hs) : f_X1_init a0 hs = (
    nwI 0 (240 : Int32) 240 fun q1 =>
    pR (some a0) 4 0 (some q1) (
    rtn ())) hs := rfl
theorem u_j_X6_unplaced_40 (a0 : Option Nat) (a2 : Int32) (s0 : Int32) (s1 : Int32) (rec_4 : Int32 → Int32 → OO Int32) (hs : Hs) : j_X6_unplaced_40 a0 a2 s0 s1 rec_4 hs = (
  lets (s1 ||| s0) fun (v8 : Int32) =>
    lets (a2 + (1 : Int32)) fun (v9 : Int32) =>
    rec_4 v8 v9) hs := rfl
theorem u_f_X6_unplaced (a0 : Nat) (hs : Hs) : f_X6_unplaced a0 hs = (
    lets (0 : Int32) fun (v1 : Int32) =>
    lets (0 : Int32) fun (v2 : Int32) =>
    L_X6_unplaced_4 (some a0) (fun (v12 : Int32) => rtn v12) 100000 v1 v2) hs := rfl
theorem u_f_X4_forgetOthers (a0 : Nat) (p1 : Int32) (hs : Hs) : f_X4_forgetOthers a0 p1 hs = (
    pI (some a0) 7 11 (((((1 : Int32) <<< (((6 : Int32) * p1) &&& 31))) - (1 : Int32))) (
    pI (some a0) 7 12 (0 : Int32) (
    pI (some a0) 7 13 (0 : Int32) (
    gR (some a0) 7 14 fun v1 =>
    call (f_J7_fill_53178 v1 (0 : Int32)) (fun (v2 : Unit) =>
    gR (some a0) 7 15 fun v3 =>
    call (f_J7_fill_53178 v3 (0 : Int32)) (fun (v4 : Unit) =>
    pI (some a0) 7 16 (0 : Int32) (
    gR (some a0) 7 17 fun v5 =>
    call (f_J7_fill_53178 v5 (0 : Int32)) (fun (v6 : Unit) =>
    rtn ()) nox)) nox) nox)))) hs := rfl
theorem u_f_X4_hoursFrom (a0 : Nat) (p1 : Int32) (hs : Hs) : f_X4_hoursFrom a0 p1 hs = (
    gI (some a0) 7 4 fun v1 =>
    dvz (6 : Int32) (
    rtn (((((((((1 : Int32) <<< (v1 &&& 31))) - (1 : Int32))) <<< (p1 &&& 31))) &&& (((63 : Int32) <<< ((p1 - (irem p1 (6 : Int32))) &&& 31))))))) hs := rfl
theorem u_f_X8_slotsThatMeet (p0 : Int32) (p1 : Int32) (hs : Hs) : f_X8_slotsThatMeet p0 p1 hs = (
    lets (0 : Int32) fun (v1 : Int32) =>
    lets p0 fun (v2 : Int32) =>
    lets (0 : Int32) fun (v3 : Int32) =>
    L_X8_slotsThatMeet_7 p1 (fun (v7 : Int32) => rtn v7) 100000 v1 v2 v3) hs := rfl
theorem u_f_X8_addSlots (p0 : Option Nat) (p1 : Int32) (p2 : Int32) (hs : Hs) : f_X8_addSlots p0 p1 p2 hs = (
    (if p1 < 0 then
    rtn ()
    else
    alen p0 fun v1 =>
    (if v1 ≤ p1 then
    rtn ()
    else
    ldI 0 p0 p1 fun v2 =>
    stI p0 p1 (v2 ||| p2) (
    rtn ())))) hs := rfl
theorem u_f_X4_countMate (a0 : Nat) (p1 : Option Nat) (hs : Hs) : f_X4_countMate a0 p1 hs = (
    gI p1 7 7 fun v1 =>
    dvz (6 : Int32) (
    lets (v1 / (6 : Int32)) fun (v2 : Int32) =>
    gI p1 7 5 fun v3 =>
    gI (some a0) 7 5 fun v4 =>
    (if ¬ v3 = v4 then
    rtn ()
    else
    (if v2 < 0 then
    rtn ()
    else
    gR (some a0) 7 17 fun v5 =>
    alen v5 fun v6 =>
    (if v6 ≤ v2 then
    rtn ()
    else
    gR (some a0) 7 17 fun v7 =>
    ldI 0 v7 v2 fun v8 =>
    stI v7 v2 (v8 + (1 : Int32)) (
    rtn ())))))) hs := rfl
theorem u_j_X4_slotsTouching_34 (a0 : Option Nat) (a1 : Option Nat) (a2 : Int32) (s0 : Int32) (hs : Hs) : j_X4_slotsTouching_34 a0 a1 a2 s0 hs = (
  lets s0 fun (v4 : Int32) =>
    gI a0 7 4 fun v5 =>
    (if a2 < v5 then
    lets (0 : Int32) fun (v6 : Int32) =>
    rtn (v4 ||| v6)
    else
    gI a1 7 7 fun v7 =>
    gI a0 7 4 fun v8 =>
    lets (((1 : Int32) <<< ((v7 - v8) &&& 31))) fun (v9 : Int32) =>
    rtn (v4 ||| v9))) hs := rfl
theorem u_f_X4_slotsTouching (a0 : Nat) (p1 : Option Nat) (hs : Hs) : f_X4_slotsTouching a0 p1 hs = (
    gI p1 7 7 fun v1 =>
    dvz (6 : Int32) (
    lets (irem v1 (6 : Int32)) fun (v2 : Int32) =>
    gI p1 7 4 fun v3 =>
    (if (6 : Int32) ≤ (v2 + v3) then
    j_X4_slotsTouching_34 (some a0) p1 v2 (0 : Int32)
    else
    gI p1 7 7 fun v10 =>
    gI p1 7 4 fun v11 =>
    j_X4_slotsTouching_34 (some a0) p1 v2 (((1 : Int32) <<< ((v10 + v11) &&& 31)))))) hs := rfl
theorem u_j_X4_addWay_28 (a0 : Option Nat) (a1 : Int32) (a2 : Int32) (a3 : Int32) (s0 : Int32) (s1 : Int32) (s2 : Int32) (s3 : Option Nat) (rec_2 : Int32 → OO Unit) (hs : Hs) : j_X4_addWay_28 a0 a1 a2 a3 s0 s1 s2 s3 rec_2 hs = (
  stI s3 s2 (s1 ||| s0) (
    lets (a3 + (1 : Int32)) fun (v6 : Int32) =>
    rec_2 v6)) hs := rfl
theorem u_f_X4_addWay (a0 : Nat) (p1 : Int32) (p2 : Int32) (hs : Hs) : f_X4_addWay a0 p1 p2 hs = (
    lets (0 : Int32) fun (v1 : Int32) =>
    L_X4_addWay_2 (some a0) p1 p2 (rtn ()) 100000 v1) hs := rfl
theorem u_j_X4_see_128 (a0 : Option Nat) (a1 : Option Nat) (a2 : Option Nat) (hs : Hs) : j_X4_see_128 a0 a1 a2 hs = (
  gI a2 8 1 fun v18 =>
    rcv a0 7 fun r22 => call (f_X4_slotsTouching r22 a1) (fun (v19 : Int32) =>
    rcv a0 7 fun r21 => call (f_X4_addWay r21 v18 v19) (fun (v20 : Unit) =>
    rtn ()) nox) nox) hs := rfl
theorem u_j_X4_see_106 (a0 : Option Nat) (a1 : Option Nat) (a2 : Option Nat) (hs : Hs) : j_X4_see_106 a0 a1 a2 hs = (
  gR a1 7 2 fun v16 =>
    gR a0 7 2 fun v17 =>
    (if v16 = v17 then
    j_X4_see_128 a0 a1 a2
    else
    gR a1 7 1 fun v23 =>
    gR a0 7 1 fun v24 =>
    (if ¬ v23 = v24 then
    rtn ()
    else
    j_X4_see_128 a0 a1 a2))) hs := rfl
theorem u_j_X4_see_69 (a0 : Option Nat) (a1 : Option Nat) (a2 : Option Nat) (a3 : Int32) (a4 : Int32) (hs : Hs) : j_X4_see_69 a0 a1 a2 a3 a4 hs = (
  gR a1 7 1 fun v14 =>
    gR a0 7 1 fun v15 =>
    (if ¬ v14 = v15 then
    j_X4_see_106 a0 a1 a2
    else
    gI a0 7 13 fun v25 =>
    pI a0 7 13 (v25 ||| a4) (
    gI a0 7 16 fun v26 =>
    pI a0 7 16 (v26 ||| a3) (
    rcv a0 7 fun r28 => call (f_X4_countMate r28 a1) (fun (v27 : Unit) =>
    j_X4_see_106 a0 a1 a2) nox)))) hs := rfl
theorem u_f_X4_see (a0 : Nat) (p1 : Option Nat) (hs : Hs) : f_X4_see a0 p1 hs = (
    gR p1 7 6 fun v1 =>
    lets v1 fun (v2 : Option Nat) =>
    (if p1 = (some a0) then
    rtn ()
    else
    (if ¬ v2 = none then
    gI p1 7 7 fun v3 =>
    rcv p1 7 fun r30 => call (f_X4_hoursFrom r30 v3) (fun (v4 : Int32) =>
    lets v4 fun (v5 : Int32) =>
    gI (some a0) 7 4 fun v6 =>
    call (f_X8_slotsThatMeet v5 v6) (fun (v7 : Int32) =>
    lets v7 fun (v8 : Int32) =>
    gR (some a0) 7 14 fun v9 =>
    gI v2 8 0 fun v10 =>
    call (f_X8_addSlots v9 v10 v8) (fun (v11 : Unit) =>
    gR p1 7 2 fun v12 =>
    gR (some a0) 7 2 fun v13 =>
    (if ¬ v12 = v13 then
    j_X4_see_69 (some a0) p1 v2 v5 v8
    else
    gI (some a0) 7 12 fun v29 =>
    pI (some a0) 7 12 (v29 ||| v8) (
    j_X4_see_69 (some a0) p1 v2 v5 v8))) nox) nox) nox
    else
    rtn ()))) hs := rfl
theorem u_f_X6_lookAround (a0 : Nat) (p1 : Option Nat) (hs : Hs) : f_X6_lookAround a0 p1 hs = (
    gI (some a0) 9 5 fun v1 =>
    rcv p1 7 fun r13 => call (f_X4_forgetOthers r13 v1) (fun (v2 : Unit) =>
    lets (0 : Int32) fun (v3 : Int32) =>
    L_X6_lookAround_10 (some a0) p1 (rtn ()) 100000 v3) nox) hs := rfl
theorem u_f_X8_at (p0 : Option Nat) (p1 : Int32) (hs : Hs) : f_X8_at p0 p1 hs = (
    (if p1 < 0 then
    rtn (0 : Int32)
    else
    alen p0 fun v1 =>
    (if v1 ≤ p1 then
    rtn (0 : Int32)
    else
    ldI 0 p0 p1 fun v2 =>
    rtn v2))) hs := rfl
theorem u_f_X4_barredBy (a0 : Nat) (p1 : Int32) (p2 : Option Nat) (hs : Hs) : f_X4_barredBy a0 p1 p2 hs = (
    (if p1 = (0 : Int32) then
    gI (some a0) 7 9 fun v18 =>
    rtn v18
    else
    (if p1 = (1 : Int32) then
    gI (some a0) 7 11 fun v17 =>
    rtn v17
    else
    (if p1 = (2 : Int32) then
    gR (some a0) 7 2 fun v15 =>
    gI v15 10 1 fun v16 =>
    rtn v16
    else
    (if p1 = (3 : Int32) then
    gI p2 8 2 fun v13 =>
    gI (some a0) 7 3 fun v14 =>
    (if v13 = v14 then
    rtn (0 : Int32)
    else
    rtn (1073741823 : Int32))
    else
    (if p1 = (4 : Int32) then
    gI p2 8 3 fun v10 =>
    gR (some a0) 7 1 fun v11 =>
    gI v11 5 0 fun v12 =>
    (if v12 ≤ v10 then
    rtn (0 : Int32)
    else
    rtn (1073741823 : Int32))
    else
    (if p1 = (5 : Int32) then
    gI p2 8 4 fun v9 =>
    (if v9 = 0 then
    rtn (1073741823 : Int32)
    else
    rtn (0 : Int32))
    else
    (if p1 = (6 : Int32) then
    gR (some a0) 7 14 fun v6 =>
    gI p2 8 0 fun v7 =>
    call (f_X8_at v6 v7) (fun (v8 : Int32) =>
    rtn v8) nox
    else
    (if p1 = (7 : Int32) then
    gI (some a0) 7 12 fun v5 =>
    rtn v5
    else
    (if p1 = (8 : Int32) then
    gI (some a0) 7 13 fun v4 =>
    rtn v4
    else
    (if p1 = (9 : Int32) then
    gR (some a0) 7 15 fun v1 =>
    gI p2 8 1 fun v2 =>
    call (f_X8_at v1 v2) (fun (v3 : Int32) =>
    rtn v3) nox
    else
    rtn (0 : Int32)))))))))))) hs := rfl
theorem u_f_X4_findPossibleSlots (a0 : Nat) (p1 : Option Nat) (hs : Hs) : f_X4_findPossibleSlots a0 p1 hs = (
    gR (some a0) 7 10 fun v1 =>
    call (f_J7_fill_53178 v1 (0 : Int32)) (fun (v2 : Unit) =>
    lets (0 : Int32) fun (v3 : Int32) =>
    L_X4_findPossibleSlots_10 (some a0) p1 (rtn ()) 100000 v3) nox) hs := rfl
theorem u_f_X6_judgePlaces (a0 : Nat) (p1 : Option Nat) (hs : Hs) : f_X6_judgePlaces a0 p1 hs = (
    rcv (some a0) 9 fun r5 => call (f_X6_lookAround r5 p1) (fun (v1 : Unit) =>
    gR (some a0) 9 0 fun v2 =>
    rcv p1 7 fun r4 => call (f_X4_findPossibleSlots r4 v2) (fun (v3 : Unit) =>
    rtn ()) nox) nox) hs := rfl
theorem u_f_J6_bitCount_0f7a4 (p0 : Int32) (hs : Hs) : f_J6_bitCount_0f7a4 p0 hs = (
    lets ((p0 - (((ushr p0 (1 : Int32)) &&& (1431655765 : Int32))))) fun (v1 : Int32) =>
    lets (((v1 &&& (858993459 : Int32)) + (((ushr v1 (2 : Int32)) &&& (858993459 : Int32))))) fun (v2 : Int32) =>
    lets (((v2 + (ushr v2 (4 : Int32))) &&& (252645135 : Int32))) fun (v3 : Int32) =>
    lets (v3 + (ushr v3 (8 : Int32))) fun (v4 : Int32) =>
    lets (v4 + (ushr v4 (16 : Int32))) fun (v5 : Int32) =>
    rtn (v5 &&& (63 : Int32))) hs := rfl
theorem u_f_X4_countPossiblePlaces (a0 : Nat) (hs : Hs) : f_X4_countPossiblePlaces a0 hs = (
    lets (0 : Int32) fun (v1 : Int32) =>
    lets (0 : Int32) fun (v2 : Int32) =>
    L_X4_countPossiblePlaces_4 (some a0) (fun (v10 : Int32) => rtn v10) 100000 v1 v2) hs := rfl
theorem u_f_X6_countPossible (a0 : Nat) (p1 : Option Nat) (hs : Hs) : f_X6_countPossible a0 p1 hs = (
    rcv (some a0) 9 fun r4 => call (f_X6_judgePlaces r4 p1) (fun (v1 : Unit) =>
    rcv p1 7 fun r3 => call (f_X4_countPossiblePlaces r3 ) (fun (v2 : Int32) =>
    rtn v2) nox) nox) hs := rfl
theorem u_j_X6_findHardest_72 (a0 : Option Nat) (a1 : Int32) (a2 : Option Nat) (a3 : Int32) (a4 : Int32)  (rec_7 : Option Nat → Int32 → Int32 → OO (Option Nat)) (hs : Hs) : j_X6_findHardest_72 a0 a1 a2 a3 a4 rec_7 hs = (
  lets (a4 + (1 : Int32)) fun (v7 : Int32) =>
    rec_7 a2 a3 v7) hs := rfl
theorem u_j_X6_findHardest_56 (a0 : Option Nat) (a1 : Int32) (a4 : Int32) (a5 : Int32)  (rec_7 : Option Nat → Int32 → Int32 → OO (Option Nat)) (hs : Hs) : j_X6_findHardest_56 a0 a1 a4 a5 rec_7 hs = (
  gR a0 9 2 fun v12 =>
    rcv v12 2 fun r16 => call (f_Jx4a65c_get_915e3 r16 a4) (fun (v13 : Option Nat) =>
    cst v13 7 (
    lets v13 fun (v14 : Option Nat) =>
    lets a5 fun (v15 : Int32) =>
    j_X6_findHardest_72 a0 a1 v14 v15 a4 rec_7)) nox) hs := rfl
theorem u_f_X6_findHardest (a0 : Nat) (p1 : Int32) (hs : Hs) : f_X6_findHardest a0 p1 hs = (
    lets none fun (v1 : Option Nat) =>
    lets (0 : Int32) fun (v2 : Int32) =>
    lets (0 : Int32) fun (v3 : Int32) =>
    L_X6_findHardest_7 (some a0) p1 (fun (v20 : Option Nat) => rtn v20) 100000 v1 v2 v3) hs := rfl
theorem u_f_X4_firstRoomAt (a0 : Nat) (p1 : Int32) (hs : Hs) : f_X4_firstRoomAt a0 p1 hs = (
    lets (0 : Int32) fun (v1 : Int32) =>
    L_X4_firstRoomAt_2 (some a0) p1 (fun (v8 : Int32) => rtn v8) (rtn (-1 : Int32)) 100000 v1) hs := rfl
theorem u_f_X8_slotsOfDay (p0 : Int32) (hs : Hs) : f_X8_slotsOfDay p0 hs = (
    rtn (((63 : Int32) <<< (((6 : Int32) * p0) &&& 31)))) hs := rfl
theorem u_f_X8_gapsAmong (p0 : Int32) (hs : Hs) : f_X8_gapsAmong p0 hs = (
    lets (p0 ||| (p0 <<< ((1 : Int32) &&& 31))) fun (v1 : Int32) =>
    lets (v1 ||| (v1 <<< ((2 : Int32) &&& 31))) fun (v2 : Int32) =>
    lets (v2 ||| (v2 <<< ((4 : Int32) &&& 31))) fun (v3 : Int32) =>
    lets (p0 ||| (ushr p0 (1 : Int32))) fun (v4 : Int32) =>
    lets (v4 ||| (ushr v4 (2 : Int32))) fun (v5 : Int32) =>
    lets (v5 ||| (ushr v5 (4 : Int32))) fun (v6 : Int32) =>
    rtn (((v3 &&& v6) &&& (p0 ^^^ (-1 : Int32))))) hs := rfl
theorem u_j_X4_wishesIn_45 (a0 : Option Nat) (a3 : Int32) (a4 : Int32) (s0 : Int32) (s1 : Int32) (rec_7 : Int32 → Int32 → Int32 → OO Int32) (hs : Hs) : j_X4_wishesIn_45 a0 a3 a4 s0 s1 rec_7 hs = (
  lets (s1 + s0) fun (v7 : Int32) =>
    lets (ushr a3 (1 : Int32)) fun (v8 : Int32) =>
    lets (a4 + (1 : Int32)) fun (v9 : Int32) =>
    rec_7 v7 v8 v9) hs := rfl
theorem u_f_X4_wishesIn (a0 : Nat) (p1 : Int32) (hs : Hs) : f_X4_wishesIn a0 p1 hs = (
    lets (0 : Int32) fun (v1 : Int32) =>
    lets p1 fun (v2 : Int32) =>
    lets (0 : Int32) fun (v3 : Int32) =>
    L_X4_wishesIn_7 (some a0) (fun (v13 : Int32) => rtn v13) 100000 v1 v2 v3) hs := rfl
theorem u_f_X4_addedTo (a0 : Nat) (p1 : Int32) (p2 : Int32) (hs : Hs) : f_X4_addedTo a0 p1 p2 hs = (
    rcv (some a0) 7 fun r16 => call (f_X4_hoursFrom r16 p2) (fun (v1 : Int32) =>
    lets v1 fun (v2 : Int32) =>
    (if p1 = (0 : Int32) then
    gI (some a0) 7 16 fun v9 =>
    dvz (6 : Int32) (
    call (f_X8_slotsOfDay (p2 / (6 : Int32))) (fun (v10 : Int32) =>
    lets (v9 &&& v10) fun (v11 : Int32) =>
    call (f_X8_gapsAmong (v11 ||| v2)) (fun (v12 : Int32) =>
    call (f_J6_bitCount_0f7a4 v12) (fun (v13 : Int32) =>
    call (f_X8_gapsAmong v11) (fun (v14 : Int32) =>
    call (f_J6_bitCount_0f7a4 v14) (fun (v15 : Int32) =>
    rtn (v13 - v15)) nox) nox) nox) nox) nox)
    else
    (if p1 = (1 : Int32) then
    (if (v2 &&& (545392672 : Int32)) = 0 then
    rtn (0 : Int32)
    else
    gR (some a0) 7 2 fun v7 =>
    gI v7 10 2 fun v8 =>
    rtn ((1 : Int32) + v8))
    else
    (if p1 = (2 : Int32) then
    rcv (some a0) 7 fun r6 => call (f_X4_wishesIn r6 v2) (fun (v5 : Int32) =>
    rtn v5) nox
    else
    (if p1 = (3 : Int32) then
    gR (some a0) 7 17 fun v3 =>
    dvz (6 : Int32) (
    call (f_X8_at v3 (p2 / (6 : Int32))) (fun (v4 : Int32) =>
    rtn v4) nox)
    else
    rtn (0 : Int32)))))) nox) hs := rfl
theorem u_j_X6_addedCost_45 (a0 : Option Nat) (a1 : Option Nat) (a2 : Int32) (a4 : Int32) (s0 : Int32) (s1 : Int32) (rec_5 : Int32 → Int32 → OO Int32) (hs : Hs) : j_X6_addedCost_45 a0 a1 a2 a4 s0 s1 rec_5 hs = (
  lets (s1 + s0) fun (v10 : Int32) =>
    lets (a4 + (1 : Int32)) fun (v11 : Int32) =>
    rec_5 v10 v11) hs := rfl
theorem u_f_X6_addedCost (a0 : Nat) (p1 : Option Nat) (p2 : Int32) (hs : Hs) : f_X6_addedCost a0 p1 p2 hs = (
    lets (0 : Int32) fun (v1 : Int32) =>
    lets (0 : Int32) fun (v2 : Int32) =>
    L_X6_addedCost_5 (some a0) p1 p2 (fun (v13 : Int32) => rtn v13) 100000 v1 v2) hs := rfl
theorem u_j_X6_cheapestAmongJudged_60 (a0 : Option Nat) (a1 : Option Nat) (a2 : Int32) (a3 : Int32) (a4 : Int32)  (rec_7 : Int32 → Int32 → Int32 → OO Int32) (hs : Hs) : j_X6_cheapestAmongJudged_60 a0 a1 a2 a3 a4 rec_7 hs = (
  lets (a4 + (1 : Int32)) fun (v6 : Int32) =>
    rec_7 a2 a3 v6) hs := rfl
theorem u_j_X6_cheapestAmongJudged_48 (a0 : Option Nat) (a1 : Option Nat) (a4 : Int32) (a5 : Int32) (a6 : Int32)  (rec_7 : Int32 → Int32 → Int32 → OO Int32) (hs : Hs) : j_X6_cheapestAmongJudged_48 a0 a1 a4 a5 a6 rec_7 hs = (
  lets (((8 : Int32) * a4) + a5) fun (v9 : Int32) =>
    lets a6 fun (v10 : Int32) =>
    j_X6_cheapestAmongJudged_60 a0 a1 v9 v10 a4 rec_7) hs := rfl
theorem u_f_X6_cheapestAmongJudged (a0 : Nat) (p1 : Option Nat) (hs : Hs) : f_X6_cheapestAmongJudged a0 p1 hs = (
    lets (-1 : Int32) fun (v1 : Int32) =>
    lets (0 : Int32) fun (v2 : Int32) =>
    lets (0 : Int32) fun (v3 : Int32) =>
    L_X6_cheapestAmongJudged_7 (some a0) p1 (fun (v13 : Int32) => rtn v13) 100000 v1 v2 v3) hs := rfl
theorem u_f_X6_findCheapest (a0 : Nat) (p1 : Option Nat) (hs : Hs) : f_X6_findCheapest a0 p1 hs = (
    rcv (some a0) 9 fun r4 => call (f_X6_judgePlaces r4 p1) (fun (v1 : Unit) =>
    rcv (some a0) 9 fun r3 => call (f_X6_cheapestAmongJudged r3 p1) (fun (v2 : Int32) =>
    rtn v2) nox) nox) hs := rfl
theorem u_f_X6_changeAmounts (a0 : Nat) (p1 : Option Nat) (p2 : Int32) (hs : Hs) : f_X6_changeAmounts a0 p1 p2 hs = (
    lets (0 : Int32) fun (v1 : Int32) =>
    L_X6_changeAmounts_2 (some a0) p1 p2 (rtn ()) 100000 v1) hs := rfl
theorem u_f_X6_put (a0 : Nat) (p1 : Option Nat) (p2 : Int32) (p3 : Option Nat) (hs : Hs) : f_X6_put a0 p1 p2 p3 hs = (
    rcv (some a0) 9 fun r6 => call (f_X6_lookAround r6 p1) (fun (v1 : Unit) =>
    rcv (some a0) 9 fun r5 => call (f_X6_changeAmounts r5 p1 (-1 : Int32)) (fun (v2 : Unit) =>
    pI p1 7 7 p2 (
    pR p1 7 6 p3 (
    rcv (some a0) 9 fun r4 => call (f_X6_changeAmounts r4 p1 (1 : Int32)) (fun (v3 : Unit) =>
    rtn ()) nox))) nox) nox) hs := rfl
theorem u_f_X6_putAt (a0 : Nat) (p1 : Option Nat) (p2 : Int32) (hs : Hs) : f_X6_putAt a0 p1 p2 hs = (
    dvz (8 : Int32) (
    lets (irem p2 (8 : Int32)) fun (v1 : Int32) =>
    (if p2 < 0 then
    rtn ()
    else
    dvz (8 : Int32) (
    (if (30 : Int32) ≤ (p2 / (8 : Int32)) then
    rtn ()
    else
    gR (some a0) 9 0 fun v2 =>
    rcv v2 2 fun r9 => call (f_Jx4a65c_size_8abf5 r9 ) (fun (v3 : Int32) =>
    (if v3 ≤ v1 then
    rtn ()
    else
    dvz (8 : Int32) (
    gR (some a0) 9 0 fun v4 =>
    rcv v4 2 fun r8 => call (f_Jx4a65c_get_915e3 r8 v1) (fun (v5 : Option Nat) =>
    cst v5 8 (
    rcv (some a0) 9 fun r7 => call (f_X6_put r7 p1 (p2 / (8 : Int32)) v5) (fun (v6 : Unit) =>
    rtn ()) nox)) nox))) nox))))) hs := rfl
theorem u_f_X4_barredByOneOf (a0 : Nat) (p1 : Int32) (p2 : Int32) (p3 : Option Nat) (hs : Hs) : f_X4_barredByOneOf a0 p1 p2 p3 hs = (
    lets (0 : Int32) fun (v1 : Int32) =>
    lets p1 fun (v2 : Int32) =>
    L_X4_barredByOneOf_6 (some a0) p2 p3 (fun (v7 : Int32) => rtn v7) 100000 v1 v2) hs := rfl
theorem u_f_X1_openSlots (p0 : Option Nat) (p1 : Option Nat) (hs : Hs) : f_X1_openSlots p0 p1 hs = (
    rcv p0 7 fun r2 => call (f_X4_barredByOneOf r2 (0 : Int32) (6 : Int32) p1) (fun (v1 : Int32) =>
    rtn (((1073741823 : Int32) &&& (v1 ^^^ (-1 : Int32))))) nox) hs := rfl
theorem u_j_X1_addAtSlots_49 (a0 : Option Nat) (a1 : Int32) (a2 : Int32) (a3 : Int32) (a4 : Int32)  (rec_3 : Int32 → OO Unit) (hs : Hs) : j_X1_addAtSlots_49 a0 a1 a2 a3 a4 rec_3 hs = (
  lets (a4 + (1 : Int32)) fun (v4 : Int32) =>
    rec_3 v4) hs := rfl
theorem u_f_X1_addAtSlots (a0 : Nat) (p1 : Int32) (p2 : Int32) (p3 : Int32) (hs : Hs) : f_X1_addAtSlots a0 p1 p2 p3 hs = (
    lets (0 : Int32) fun (v1 : Int32) =>
    L_X1_addAtSlots_3 (some a0) p1 p2 p3 (rtn ()) 100000 v1) hs := rfl
theorem u_f_X1_slotsBarredByOne (p0 : Option Nat) (p1 : Option Nat) (p2 : Int32) (p3 : Int32) (hs : Hs) : f_X1_slotsBarredByOne p0 p1 p2 p3 hs = (
    gR p0 9 2 fun v1 =>
    rcv v1 2 fun r19 => call (f_Jx4a65c_size_8abf5 r19 ) (fun (v2 : Int32) =>
    (if v2 ≤ p2 then
    rtn (0 : Int32)
    else
    gR p0 9 0 fun v3 =>
    rcv v3 2 fun r18 => call (f_Jx4a65c_size_8abf5 r18 ) (fun (v4 : Int32) =>
    (if p3 < v4 then
    gI p0 9 5 fun v5 =>
    rcv p1 7 fun r17 => call (f_X4_forgetOthers r17 v5) (fun (v6 : Unit) =>
    gR p0 9 2 fun v7 =>
    rcv v7 2 fun r16 => call (f_Jx4a65c_get_915e3 r16 p2) (fun (v8 : Option Nat) =>
    cst v8 7 (
    rcv p1 7 fun r15 => call (f_X4_see r15 v8) (fun (v9 : Unit) =>
    gR p0 9 0 fun v10 =>
    rcv v10 2 fun r14 => call (f_Jx4a65c_get_915e3 r14 p3) (fun (v11 : Option Nat) =>
    cst v11 8 (
    rcv p1 7 fun r13 => call (f_X4_barredByOneOf r13 (6 : Int32) (10 : Int32) v11) (fun (v12 : Int32) =>
    rtn v12) nox)) nox) nox)) nox) nox
    else
    rtn (0 : Int32))) nox)) nox) hs := rfl
theorem u_j_X1_countOthersInTheWay_94 (a0 : Option Nat) (a1 : Option Nat) (a2 : Option Nat) (a3 : Int32) (s0 : Int32) (rec_59 : Int32 → OO Unit) (hs : Hs) : j_X1_countOthersInTheWay_94 a0 a1 a2 a3 s0 rec_59 hs = (
  lets s0 fun (v21 : Int32) =>
    lets (0 : Int32) fun (v22 : Int32) =>
    L_X1_countOthersInTheWay_99 a0 a1 a2 a3 v21 (lets (a3 + (1 : Int32)) fun (v30 : Int32) =>
    rec_59 v30) 100000 v22) hs := rfl
theorem u_f_X1_countOthersInTheWay (a0 : Nat) (p1 : Option Nat) (p2 : Option Nat) (hs : Hs) : f_X1_countOthersInTheWay a0 p1 p2 hs = (
    gR (some a0) 4 0 fun v1 =>
    call (f_J7_fill_53178 v1 (1000 : Int32)) (fun (v2 : Unit) =>
    rcv p1 9 fun r33 => call (f_X6_lookAround r33 p2) (fun (v3 : Unit) =>
    lets (0 : Int32) fun (v4 : Int32) =>
    L_X1_countOthersInTheWay_17 (some a0) p1 p2 (lets (0 : Int32) fun (v15 : Int32) =>
    L_X1_countOthersInTheWay_59 (some a0) p1 p2 (rtn ()) 100000 v15) 100000 v4) nox) nox) hs := rfl
theorem u_f_X6_take (a0 : Nat) (p1 : Option Nat) (hs : Hs) : f_X6_take a0 p1 hs = (
    rcv (some a0) 9 fun r4 => call (f_X6_lookAround r4 p1) (fun (v1 : Unit) =>
    rcv (some a0) 9 fun r3 => call (f_X6_changeAmounts r3 p1 (-1 : Int32)) (fun (v2 : Unit) =>
    pI p1 7 7 (-1 : Int32) (
    pR p1 7 6 none (
    rtn ()))) nox) nox) hs := rfl
theorem u_j_X1_throwOthersOut_50 (a0 : Option Nat) (a1 : Option Nat) (a2 : Option Nat) (a3 : Int32) (a4 : Int32) (a5 : Int32)  (rec_16 : Int32 → Int32 → Int32 → OO Int32) (hs : Hs) : j_X1_throwOthersOut_50 a0 a1 a2 a3 a4 a5 rec_16 hs = (
  lets (a5 + (1 : Int32)) fun (v9 : Int32) =>
    rec_16 a3 a4 v9) hs := rfl
theorem u_j_X1_throwOthersOut_115 (a1 : Option Nat) (a2 : Option Nat) (a3 : Int32) (a5 : Int32)  (rec_66 : Int32 → OO Int32) (hs : Hs) : j_X1_throwOthersOut_115 a1 a2 a3 a5 rec_66 hs = (
  lets (a5 + (1 : Int32)) fun (v20 : Int32) =>
    rec_66 v20) hs := rfl
theorem u_f_X1_throwOthersOut (a0 : Nat) (p1 : Option Nat) (p2 : Option Nat) (hs : Hs) : f_X1_throwOthersOut a0 p1 p2 hs = (
    rcv (some a0) 4 fun r29 => call (f_X1_countOthersInTheWay r29 p1 p2) (fun (v1 : Unit) =>
    lets (-1 : Int32) fun (v2 : Int32) =>
    lets (1000 : Int32) fun (v3 : Int32) =>
    lets (0 : Int32) fun (v4 : Int32) =>
    L_X1_throwOthersOut_16 (some a0) p1 p2 (fun (v14 : Int32) => (if ¬ v14 = (-1 : Int32) then
    lets (0 : Int32) fun (v15 : Int32) =>
    L_X1_throwOthersOut_66 p1 p2 v14 (rcv p1 9 fun r28 => call (f_X6_putAt r28 p2 v14) (fun (v27 : Unit) =>
    retZ (1 : Int32)) nox) 100000 v15
    else
    retZ (0 : Int32))) 100000 v2 v3 v4) nox) hs := rfl
theorem u_j_X1_fillUp_92 (a0 : Option Nat) (a1 : Option Nat) (a2 : Int32) (a3 : Int32) (a4 : Int32)  (rec_7 : Int32 → Int32 → Int32 → OO Unit) (hs : Hs) : j_X1_fillUp_92 a0 a1 a2 a3 a4 rec_7 hs = (
  lets (a4 + (1 : Int32)) fun (v11 : Int32) =>
    rec_7 a2 a3 v11) hs := rfl
theorem u_j_X1_fillUp_82 (a0 : Option Nat) (a1 : Option Nat) (a2 : Int32) (a3 : Int32) (a4 : Int32) (a5 : Option Nat)  (rec_7 : Int32 → Int32 → Int32 → OO Unit) (hs : Hs) : j_X1_fillUp_82 a0 a1 a2 a3 a4 a5 rec_7 hs = (
  gI a5 7 0 fun v9 =>
    lets ((a2 ||| (((1 : Int32) <<< (v9 &&& 31))))) fun (v10 : Int32) =>
    j_X1_fillUp_92 a0 a1 v10 a3 a4 rec_7) hs := rfl
theorem u_f_X1_fillUp (a0 : Nat) (p1 : Option Nat) (hs : Hs) : f_X1_fillUp a0 p1 hs = (
    lets (0 : Int32) fun (v1 : Int32) =>
    lets (0 : Int32) fun (v2 : Int32) =>
    lets (0 : Int32) fun (v3 : Int32) =>
    L_X1_fillUp_7 (some a0) p1 (rtn ()) (rtn ()) 100000 v1 v2 v3) hs := rfl
theorem u_f_X2_init (a0 : Nat) (p1 : Int32) (hs : Hs) : f_X2_init a0 p1 hs = (
    pI (some a0) 5 0 p1 (
    rtn ())) hs := rfl
theorem u_f_X3_init (a0 : Nat) (hs : Hs) : f_X3_init a0 hs = (
    nwI 0 (16 : Int32) 16 fun q1 =>
    pR (some a0) 6 0 (some q1) (
    nwI 0 (16 : Int32) 16 fun q2 =>
    pR (some a0) 6 1 (some q2) (
    rtn ()))) hs := rfl
theorem u_f_X4_placeNow (a0 : Nat) (hs : Hs) : f_X4_placeNow a0 hs = (
    gR (some a0) 7 6 fun v1 =>
    (if ¬ v1 = none then
    gI (some a0) 7 7 fun v2 =>
    gR (some a0) 7 6 fun v3 =>
    gI v3 8 0 fun v4 =>
    rtn (((8 : Int32) * v2) + v4)
    else
    rtn (-1 : Int32))) hs := rfl
theorem u_f_X6_copyPlaces (a0 : Nat) (p1 : Option Nat) (hs : Hs) : f_X6_copyPlaces a0 p1 hs = (
    call (f_J7_fill_53178 p1 (-1 : Int32)) (fun (v1 : Unit) =>
    lets (0 : Int32) fun (v2 : Int32) =>
    L_X6_copyPlaces_7 (some a0) p1 (rtn ()) 100000 v2) nox) hs := rfl
theorem u_f_X6_costKept (a0 : Nat) (hs : Hs) : f_X6_costKept a0 hs = (
    lets (0 : Int32) fun (v1 : Int32) =>
    lets (0 : Int32) fun (v2 : Int32) =>
    L_X6_costKept_4 (some a0) (fun (v9 : Int32) => rtn v9) 100000 v1 v2) hs := rfl
theorem u_f_X6_isPast (a0 : Nat) (p1 : Option Nat) (hs : Hs) : f_X6_isPast a0 p1 hs = (
    gR p1 7 6 fun v1 =>
    (if v1 = none then
    retZ (0 : Int32)
    else
    gI p1 7 7 fun v2 =>
    dvz (6 : Int32) (
    gI (some a0) 9 5 fun v3 =>
    (if v3 ≤ (v2 / (6 : Int32)) then
    retZ (0 : Int32)
    else
    retZ (1 : Int32))))) hs := rfl
theorem u_f_X6_isFree (a0 : Nat) (p1 : Option Nat) (hs : Hs) : f_X6_isFree a0 p1 hs = (
    gI p1 7 8 fun v1 =>
    (if ¬ v1 = 0 then
    retZ (0 : Int32)
    else
    rcv (some a0) 9 fun r3 => call (f_X6_isPast r3 p1) (fun (v2 : Int32) =>
    (if ¬ v2 = 0 then
    retZ (0 : Int32)
    else
    retZ (1 : Int32))) nox)) hs := rfl
theorem u_f_X3_mayMove (a0 : Nat) (p1 : Option Nat) (p2 : Option Nat) (p3 : Int32) (hs : Hs) : f_X3_mayMove a0 p1 p2 p3 hs = (
    gR p2 7 6 fun v1 =>
    (if v1 = none then
    retZ (0 : Int32)
    else
    rcv p1 9 fun r6 => call (f_X6_isFree r6 p2) (fun (v2 : Int32) =>
    (if v2 = 0 then
    retZ (0 : Int32)
    else
    gR (some a0) 6 1 fun v3 =>
    gI p2 7 0 fun v4 =>
    call (f_X8_at v3 v4) (fun (v5 : Int32) =>
    (if (p3 - v5) ≤ (3 : Int32) then
    retZ (0 : Int32)
    else
    retZ (1 : Int32))) nox)) nox)) hs := rfl
theorem u_f_X4_leaveOutOwnPlace (a0 : Nat) (hs : Hs) : f_X4_leaveOutOwnPlace a0 hs = (
    gR (some a0) 7 6 fun v1 =>
    (if v1 = none then
    rtn ()
    else
    gR (some a0) 7 6 fun v2 =>
    gI v2 8 0 fun v3 =>
    (if v3 < 0 then
    rtn ()
    else
    gR (some a0) 7 6 fun v4 =>
    gI v4 8 0 fun v5 =>
    gR (some a0) 7 10 fun v6 =>
    alen v6 fun v7 =>
    (if v7 ≤ v5 then
    rtn ()
    else
    gR (some a0) 7 10 fun v8 =>
    gR (some a0) 7 6 fun v9 =>
    gI v9 8 0 fun v10 =>
    ldI 0 v8 v10 fun v11 =>
    gI (some a0) 7 7 fun v12 =>
    stI v8 v10 ((v11 &&& (((((1 : Int32) <<< (v12 &&& 31))) ^^^ (-1 : Int32))))) (
    rtn ()))))) hs := rfl
theorem u_f_X6_findCheapestElsewhere (a0 : Nat) (p1 : Option Nat) (hs : Hs) : f_X6_findCheapestElsewhere a0 p1 hs = (
    rcv (some a0) 9 fun r6 => call (f_X6_judgePlaces r6 p1) (fun (v1 : Unit) =>
    rcv p1 7 fun r5 => call (f_X4_leaveOutOwnPlace r5 ) (fun (v2 : Unit) =>
    rcv (some a0) 9 fun r4 => call (f_X6_cheapestAmongJudged r4 p1) (fun (v3 : Int32) =>
    rtn v3) nox) nox) nox) hs := rfl
theorem u_j_X6_costFrom_24 (a0 : Option Nat) (a1 : Option Nat) (a2 : Int32) (s0 : Int32) (s1 : Int32) (hs : Hs) : j_X6_costFrom_24 a0 a1 a2 s0 s1 hs = (
  lets (s1 - s0) fun (v5 : Int32) =>
    rcv a0 9 fun r7 => call (f_X6_addedCost r7 a1 a2) (fun (v6 : Int32) =>
    rtn (v5 + v6)) nox) hs := rfl
theorem u_f_X6_costFrom (a0 : Nat) (p1 : Option Nat) (p2 : Int32) (hs : Hs) : f_X6_costFrom a0 p1 p2 hs = (
    rcv (some a0) 9 fun r9 => call (f_X6_costKept r9 ) (fun (v1 : Int32) =>
    gR p1 7 6 fun v2 =>
    (if ¬ v2 = none then
    gI p1 7 7 fun v3 =>
    rcv (some a0) 9 fun r8 => call (f_X6_addedCost r8 p1 v3) (fun (v4 : Int32) =>
    j_X6_costFrom_24 (some a0) p1 p2 v4 v1) nox
    else
    j_X6_costFrom_24 (some a0) p1 p2 (0 : Int32) v1)) nox) hs := rfl
theorem u_j_X3_findMover_94 (a0 : Option Nat) (a1 : Option Nat) (a2 : Int32) (a3 : Option Nat) (a4 : Int32) (a5 : Int32)  (rec_8 : Option Nat → Int32 → Int32 → OO (Option Nat)) (hs : Hs) : j_X3_findMover_94 a0 a1 a2 a3 a4 a5 rec_8 hs = (
  lets (a5 + (1 : Int32)) fun (v11 : Int32) =>
    rec_8 a3 a4 v11) hs := rfl
theorem u_j_X3_findMover_87 (a0 : Option Nat) (a1 : Option Nat) (a2 : Int32) (a5 : Int32) (a6 : Option Nat) (a8 : Int32)  (rec_8 : Option Nat → Int32 → Int32 → OO (Option Nat)) (hs : Hs) : j_X3_findMover_87 a0 a1 a2 a5 a6 a8 rec_8 hs = (
  lets a6 fun (v14 : Option Nat) =>
    lets a8 fun (v15 : Int32) =>
    j_X3_findMover_94 a0 a1 a2 v14 v15 a5 rec_8) hs := rfl
theorem u_j_X3_findMover_55 (a0 : Option Nat) (a1 : Option Nat) (a2 : Int32) (a3 : Option Nat) (a4 : Int32) (a5 : Int32) (a6 : Option Nat) (s0 : Int32) (rec_8 : Option Nat → Int32 → Int32 → OO (Option Nat)) (hs : Hs) : j_X3_findMover_55 a0 a1 a2 a3 a4 a5 a6 s0 rec_8 hs = (
  lets s0 fun (v10 : Int32) =>
    (if v10 = (-1 : Int32) then
    j_X3_findMover_94 a0 a1 a2 a3 a4 a5 rec_8
    else
    dvz (8 : Int32) (
    rcv a1 9 fun r16 => call (f_X6_costFrom r16 a6 (v10 / (8 : Int32))) (fun (v12 : Int32) =>
    lets v12 fun (v13 : Int32) =>
    (if a3 = none then
    j_X3_findMover_87 a0 a1 a2 a5 a6 v13 rec_8
    else
    (if a4 ≤ v13 then
    j_X3_findMover_94 a0 a1 a2 a3 a4 a5 rec_8
    else
    j_X3_findMover_87 a0 a1 a2 a5 a6 v13 rec_8))) nox))) hs := rfl
theorem u_f_X3_findMover (a0 : Nat) (p1 : Option Nat) (p2 : Int32) (hs : Hs) : f_X3_findMover a0 p1 p2 hs = (
    lets none fun (v1 : Option Nat) =>
    lets (0 : Int32) fun (v2 : Int32) =>
    lets (0 : Int32) fun (v3 : Int32) =>
    L_X3_findMover_8 (some a0) p1 p2 (fun (v22 : Option Nat) => rtn v22) 100000 v1 v2 v3) hs := rfl
theorem u_f_X3_noteMove (a0 : Nat) (p1 : Option Nat) (p2 : Int32) (hs : Hs) : f_X3_noteMove a0 p1 p2 hs = (
    gI p1 7 0 fun v1 =>
    (if v1 < 0 then
    rtn ()
    else
    gI p1 7 0 fun v2 =>
    gR (some a0) 6 1 fun v3 =>
    alen v3 fun v4 =>
    (if v4 ≤ v2 then
    rtn ()
    else
    gR (some a0) 6 1 fun v5 =>
    gI p1 7 0 fun v6 =>
    stI v5 v6 p2 (
    rtn ())))) hs := rfl
theorem u_j_X6_takeAll_36 (a0 : Option Nat) (a1 : Int32) (a2 : Int32)  (rec_2 : Int32 → OO Unit) (hs : Hs) : j_X6_takeAll_36 a0 a1 a2 rec_2 hs = (
  lets (a2 + (1 : Int32)) fun (v5 : Int32) =>
    rec_2 v5) hs := rfl
theorem u_f_X6_takeAll (a0 : Nat) (p1 : Int32) (hs : Hs) : f_X6_takeAll a0 p1 hs = (
    lets (0 : Int32) fun (v1 : Int32) =>
    L_X6_takeAll_2 (some a0) p1 (rtn ()) 100000 v1) hs := rfl
theorem u_j_X3_becomeBest_48 (a0 : Option Nat) (a1 : Option Nat) (a3 : Int32) (s0 : Int32) (s1 : Int32) (rec_4 : Int32 → Int32 → OO Unit) (hs : Hs) : j_X3_becomeBest_48 a0 a1 a3 s0 s1 rec_4 hs = (
  lets (s1 ||| s0) fun (v10 : Int32) =>
    lets (a3 + (1 : Int32)) fun (v11 : Int32) =>
    rec_4 v10 v11) hs := rfl
theorem u_j_X3_becomeBest_105 (a0 : Option Nat) (a1 : Option Nat) (a2 : Int32) (a3 : Int32)  (rec_63 : Int32 → OO Unit) (hs : Hs) : j_X3_becomeBest_105 a0 a1 a2 a3 rec_63 hs = (
  lets (a3 + (1 : Int32)) fun (v21 : Int32) =>
    rec_63 v21) hs := rfl
theorem u_f_X3_becomeBest (a0 : Nat) (p1 : Option Nat) (hs : Hs) : f_X3_becomeBest a0 p1 hs = (
    lets (0 : Int32) fun (v1 : Int32) =>
    lets (0 : Int32) fun (v2 : Int32) =>
    L_X3_becomeBest_4 (some a0) p1 (fun (v15 : Int32) => rcv p1 9 fun r30 => call (f_X6_takeAll r30 v15) (fun (v16 : Unit) =>
    lets (0 : Int32) fun (v17 : Int32) =>
    L_X3_becomeBest_63 (some a0) p1 v15 (rtn ()) 100000 v17) nox) 100000 v1 v2) hs := rfl
theorem u_j_X3_improveTable_90 (a0 : Option Nat) (a1 : Option Nat) (a2 : Int32) (a3 : Int32) (a4 : Int32)  (rec_26 : Int32 → Int32 → OO Unit) (hs : Hs) : j_X3_improveTable_90 a0 a1 a2 a3 a4 rec_26 hs = (
  lets (a4 + (1 : Int32)) fun (v14 : Int32) =>
    rec_26 a3 v14) hs := rfl
theorem u_j_X3_improveTable_96 (a0 : Option Nat) (a1 : Option Nat) (hs : Hs) : j_X3_improveTable_96 a0 a1 hs = (
  rcv a0 6 fun r27 => call (f_X3_becomeBest r27 a1) (fun (v26 : Unit) =>
    rtn ()) nox) hs := rfl
theorem u_f_X3_improveTable (a0 : Nat) (p1 : Option Nat) (p2 : Int32) (hs : Hs) : f_X3_improveTable a0 p1 p2 hs = (
    gR (some a0) 6 1 fun v1 =>
    call (f_J7_fill_53178 v1 (-1000 : Int32)) (fun (v2 : Unit) =>
    gR (some a0) 6 0 fun v3 =>
    rcv p1 9 fun r29 => call (f_X6_copyPlaces r29 v3) (fun (v4 : Unit) =>
    rcv p1 9 fun r28 => call (f_X6_costKept r28 ) (fun (v5 : Int32) =>
    lets v5 fun (v6 : Int32) =>
    lets (0 : Int32) fun (v7 : Int32) =>
    L_X3_improveTable_26 (some a0) p1 p2 (j_X3_improveTable_96 (some a0) p1) (j_X3_improveTable_96 (some a0) p1) 100000 v6 v7) nox) nox) nox) hs := rfl
theorem u_f_X4_init (a0 : Nat) (p1 : Int32) (p2 : Option Nat) (p3 : Option Nat) (p4 : Int32) (p5 : Int32) (p6 : Int32) (hs : Hs) : f_X4_init a0 p1 p2 p3 p4 p5 p6 hs = (
    pI (some a0) 7 7 (-1 : Int32) (
    nwI 0 (8 : Int32) 8 fun q1 =>
    pR (some a0) 7 10 (some q1) (
    nwI 0 (8 : Int32) 8 fun q2 =>
    pR (some a0) 7 14 (some q2) (
    nwI 0 (3 : Int32) 3 fun q3 =>
    pR (some a0) 7 15 (some q3) (
    nwI 0 (5 : Int32) 5 fun q4 =>
    pR (some a0) 7 17 (some q4) (
    pI (some a0) 7 0 p1 (
    pR (some a0) 7 1 p2 (
    pR (some a0) 7 2 p3 (
    pI (some a0) 7 3 p4 (
    pI (some a0) 7 4 p5 (
    pI (some a0) 7 5 p6 (
    call (f_X8_slotsThatMeet (545392672 : Int32) (p5 - (1 : Int32))) (fun (v5 : Int32) =>
    pI (some a0) 7 9 v5 (
    rtn ())) nox)))))))))))) hs := rfl
theorem u_f_X4_isOn (a0 : Nat) (p1 : Int32) (hs : Hs) : f_X4_isOn a0 p1 hs = (
    gR (some a0) 7 6 fun v1 =>
    (if v1 = none then
    retZ (0 : Int32)
    else
    gI (some a0) 7 7 fun v2 =>
    dvz (6 : Int32) (
    (if ¬ (v2 / (6 : Int32)) = p1 then
    retZ (0 : Int32)
    else
    retZ (1 : Int32))))) hs := rfl
theorem u_f_X4_hoursNow (a0 : Nat) (hs : Hs) : f_X4_hoursNow a0 hs = (
    gR (some a0) 7 6 fun v1 =>
    (if ¬ v1 = none then
    gI (some a0) 7 7 fun v2 =>
    rcv (some a0) 7 fun r4 => call (f_X4_hoursFrom r4 v2) (fun (v3 : Int32) =>
    rtn v3) nox
    else
    rtn (0 : Int32))) hs := rfl
theorem u_j_X4_lettersAt_38 (a0 : Option Nat) (a1 : Int32) (a2 : Option Nat) (a4 : Int32) (s0 : Int32) (s1 : Int32) (rec_5 : Int32 → Int32 → OO Int32) (hs : Hs) : j_X4_lettersAt_38 a0 a1 a2 a4 s0 s1 rec_5 hs = (
  lets (s1 ||| s0) fun (v5 : Int32) =>
    lets (a4 + (1 : Int32)) fun (v6 : Int32) =>
    rec_5 v5 v6) hs := rfl
theorem u_f_X4_lettersAt (a0 : Nat) (p1 : Int32) (p2 : Option Nat) (hs : Hs) : f_X4_lettersAt a0 p1 p2 hs = (
    lets (0 : Int32) fun (v1 : Int32) =>
    lets (0 : Int32) fun (v2 : Int32) =>
    L_X4_lettersAt_5 (some a0) p1 p2 (fun (v8 : Int32) => rtn v8) 100000 v1 v2) hs := rfl
theorem u_f_X4_isPossible (a0 : Nat) (p1 : Int32) (hs : Hs) : f_X4_isPossible a0 p1 hs = (
    (if p1 < 0 then
    retZ (0 : Int32)
    else
    gR (some a0) 7 10 fun v1 =>
    dvz (8 : Int32) (
    call (f_X8_at v1 (irem p1 (8 : Int32))) (fun (v2 : Int32) =>
    dvz (8 : Int32) (
    call (f_X8_has v2 (p1 / (8 : Int32))) (fun (v3 : Int32) =>
    (if v3 = 0 then
    retZ (0 : Int32)
    else
    retZ (1 : Int32))) nox)) nox))) hs := rfl
theorem u_f_X5_init (a0 : Nat) (p1 : Int32) (p2 : Int32) (p3 : Int32) (p4 : Int32) (hs : Hs) : f_X5_init a0 p1 p2 p3 p4 hs = (
    pZ (some a0) 8 4 (1 : Int32) (
    pI (some a0) 8 0 p1 (
    pI (some a0) 8 1 p2 (
    pI (some a0) 8 2 p3 (
    pI (some a0) 8 3 p4 (
    rtn ())))))) hs := rfl
theorem u_f_Jxa1e45_init_da8c8 (a0 : Nat) (hs : Hs) : f_Jxa1e45_init_da8c8 a0 hs = (
    rtn ()) hs := rfl
theorem u_f_Jxc12de_init_da8c8 (a0 : Nat) (hs : Hs) : f_Jxc12de_init_da8c8 a0 hs = (
    call (f_Jxa1e45_init_da8c8 a0 ) (fun (v1 : Unit) =>
    pI (some a0) 2 0 (0 : Int32) (
    rtn ())) nox) hs := rfl
theorem u_f_Jx4a65c_init_da8c8 (a0 : Nat) (hs : Hs) : f_Jx4a65c_init_da8c8 a0 hs = (
    call (f_Jxc12de_init_da8c8 a0 ) (fun (v1 : Unit) =>
    gE fun (v2 : Option Nat) =>
    pR (some a0) 2 1 v2 (
    rtn ())) nox) hs := rfl
theorem u_f_X6_init (a0 : Nat) (hs : Hs) : f_X6_init a0 hs = (
    nw 2 [.int 0, .null, .int 0] fun q1 =>
    call (f_Jx4a65c_init_da8c8 q1 ) (fun (v2 : Unit) =>
    pR (some a0) 9 0 (some q1) (
    nw 2 [.int 0, .null, .int 0] fun q3 =>
    call (f_Jx4a65c_init_da8c8 q3 ) (fun (v4 : Unit) =>
    pR (some a0) 9 1 (some q3) (
    nw 2 [.int 0, .null, .int 0] fun q5 =>
    call (f_Jx4a65c_init_da8c8 q5 ) (fun (v6 : Unit) =>
    pR (some a0) 9 2 (some q5) (
    nwI 0 (4 : Int32) 4 fun q7 =>
    stI (some q7) (0 : Int32) (1 : Int32) (
    stI (some q7) (1 : Int32) (1 : Int32) (
    stI (some q7) (2 : Int32) (1 : Int32) (
    stI (some q7) (3 : Int32) (1 : Int32) (
    pR (some a0) 9 3 (some q7) (
    nwI 0 (4 : Int32) 4 fun q8 =>
    pR (some a0) 9 4 (some q8) (
    rtn ())))))))) nox)) nox)) nox) hs := rfl
theorem u_j_X6_repair_60 (a0 : Option Nat) (a1 : Int32) (hs : Hs) : j_X6_repair_60 a0 a1 hs = (
  rcv a0 9 fun r16 => call (f_X6_unplaced r16 ) (fun (v14 : Int32) =>
    call (f_J6_bitCount_0f7a4 (a1 &&& v14)) (fun (v15 : Int32) =>
    rtn v15) nox) nox) hs := rfl
theorem u_f_X6_repair (a0 : Nat) (p1 : Int32) (hs : Hs) : f_X6_repair a0 p1 hs = (
    rcv (some a0) 9 fun r17 => call (f_X6_takeAll r17 p1) (fun (v1 : Unit) =>
    lets p1 fun (v2 : Int32) =>
    lets (0 : Int32) fun (v3 : Int32) =>
    L_X6_repair_9 (some a0) p1 (j_X6_repair_60 (some a0) p1) (j_X6_repair_60 (some a0) p1) 100000 v2 v3) nox) hs := rfl
theorem u_j_X6_setFreeLessons_41 (a0 : Option Nat) (a1 : Option Nat) (a3 : Int32) (s0 : Int32) (s1 : Int32) (rec_4 : Int32 → Int32 → OO Unit) (hs : Hs) : j_X6_setFreeLessons_41 a0 a1 a3 s0 s1 rec_4 hs = (
  lets (s1 ||| s0) fun (v8 : Int32) =>
    lets (a3 + (1 : Int32)) fun (v9 : Int32) =>
    rec_4 v8 v9) hs := rfl
theorem u_j_X6_setFreeLessons_127 (a0 : Option Nat) (a1 : Option Nat) (a2 : Int32) (a3 : Int32)  (rec_56 : Int32 → OO Unit) (hs : Hs) : j_X6_setFreeLessons_127 a0 a1 a2 a3 rec_56 hs = (
  lets (a3 + (1 : Int32)) fun (v22 : Int32) =>
    rec_56 v22) hs := rfl
theorem u_f_X6_setFreeLessons (a0 : Nat) (p1 : Option Nat) (hs : Hs) : f_X6_setFreeLessons a0 p1 hs = (
    lets (0 : Int32) fun (v1 : Int32) =>
    lets (0 : Int32) fun (v2 : Int32) =>
    L_X6_setFreeLessons_4 (some a0) p1 (fun (v13 : Int32) => rcv (some a0) 9 fun r34 => call (f_X6_takeAll r34 v13) (fun (v14 : Unit) =>
    lets (0 : Int32) fun (v15 : Int32) =>
    L_X6_setFreeLessons_56 (some a0) p1 v13 (rtn ()) 100000 v15) nox) 100000 v1 v2) hs := rfl
theorem u_j_X6_changeWish_73 (a0 : Option Nat) (a1 : Option Nat) (a2 : Int32) (a3 : Int32) (a4 : Int32) (a5 : Int32)  (rec_13 : Int32 → OO Int32) (hs : Hs) : j_X6_changeWish_73 a0 a1 a2 a3 a4 a5 rec_13 hs = (
  lets (a5 + (1 : Int32)) fun (v11 : Int32) =>
    rec_13 v11) hs := rfl
theorem u_f_X6_changeWish (a0 : Nat) (p1 : Option Nat) (p2 : Int32) (p3 : Int32) (hs : Hs) : f_X6_changeWish a0 p1 p2 p3 hs = (
    gR p1 10 0 fun v1 =>
    call (f_X8_at v1 p2) (fun (v2 : Int32) =>
    lets v2 fun (v3 : Int32) =>
    lets (0 : Int32) fun (v4 : Int32) =>
    L_X6_changeWish_13 (some a0) p1 p2 p3 v3 ((if p2 < 0 then
    rtn v3
    else
    gR p1 10 0 fun v19 =>
    alen v19 fun v20 =>
    (if v20 ≤ p2 then
    rtn v3
    else
    gR p1 10 0 fun v21 =>
    stI v21 p2 p3 (
    rtn v3)))) 100000 v4) nox) hs := rfl
theorem u_f_X6_changeWeight (a0 : Nat) (p1 : Int32) (p2 : Int32) (hs : Hs) : f_X6_changeWeight a0 p1 p2 hs = (
    gR (some a0) 9 3 fun v1 =>
    call (f_X8_at v1 p1) (fun (v2 : Int32) =>
    lets v2 fun (v3 : Int32) =>
    (if p1 < 0 then
    rtn v3
    else
    gR (some a0) 9 3 fun v4 =>
    alen v4 fun v5 =>
    (if v5 ≤ p1 then
    rtn v3
    else
    gR (some a0) 9 3 fun v6 =>
    stI v6 p1 p2 (
    rtn v3)))) nox) hs := rfl
theorem u_f_X6_isLate (p0 : Option Nat) (hs : Hs) : f_X6_isLate p0 hs = (
    rcv p0 7 fun r2 => call (f_X4_hoursNow r2 ) (fun (v1 : Int32) =>
    (if (v1 &&& (545392672 : Int32)) = 0 then
    retZ (0 : Int32)
    else
    retZ (1 : Int32))) nox) hs := rfl
theorem u_j_X6_lateLessonsOf_53 (a0 : Option Nat) (a1 : Option Nat) (a2 : Int32) (a3 : Int32)  (rec_4 : Int32 → Int32 → OO Int32) (hs : Hs) : j_X6_lateLessonsOf_53 a0 a1 a2 a3 rec_4 hs = (
  lets (a3 + (1 : Int32)) fun (v8 : Int32) =>
    rec_4 a2 v8) hs := rfl
theorem u_f_X6_lateLessonsOf (a0 : Nat) (p1 : Option Nat) (hs : Hs) : f_X6_lateLessonsOf a0 p1 hs = (
    lets (0 : Int32) fun (v1 : Int32) =>
    lets (0 : Int32) fun (v2 : Int32) =>
    L_X6_lateLessonsOf_4 (some a0) p1 (fun (v16 : Int32) => rtn v16) 100000 v1 v2) hs := rfl
theorem u_j_X6_bookLateHours_74 (a0 : Option Nat) (a1 : Int32)  (rec_2 : Int32 → OO Unit) (hs : Hs) : j_X6_bookLateHours_74 a0 a1 rec_2 hs = (
  lets (a1 + (1 : Int32)) fun (v8 : Int32) =>
    rec_2 v8) hs := rfl
theorem u_f_X6_bookLateHours (a0 : Nat) (hs : Hs) : f_X6_bookLateHours a0 hs = (
    lets (0 : Int32) fun (v1 : Int32) =>
    L_X6_bookLateHours_2 (some a0) (rtn ()) 100000 v1) hs := rfl
theorem u_j_X6_findPossible_37 (a1 : Option Nat) (a3 : Int32) (a4 : Int32)  (rec_10 : Int32 → Int32 → OO Int32) (hs : Hs) : j_X6_findPossible_37 a1 a3 a4 rec_10 hs = (
  lets (a4 + (1 : Int32)) fun (v5 : Int32) =>
    rec_10 a3 v5) hs := rfl
theorem u_f_X6_findPossible (a0 : Nat) (p1 : Option Nat) (p2 : Int32) (hs : Hs) : f_X6_findPossible a0 p1 p2 hs = (
    rcv (some a0) 9 fun r9 => call (f_X6_judgePlaces r9 p1) (fun (v1 : Unit) =>
    lets p2 fun (v2 : Int32) =>
    lets (0 : Int32) fun (v3 : Int32) =>
    L_X6_findPossible_10 p1 (fun (v8 : Int32) => rtn v8) (rtn (-1 : Int32)) 100000 v2 v3) nox) hs := rfl
theorem u_j_X6_broken_74 (a0 : Option Nat) (a1 : Int32) (a2 : Int32)  (rec_4 : Int32 → Int32 → OO Int32) (hs : Hs) : j_X6_broken_74 a0 a1 a2 rec_4 hs = (
  lets (a2 + (1 : Int32)) fun (v10 : Int32) =>
    rec_4 a1 v10) hs := rfl
theorem u_j_X6_broken_72 (a0 : Option Nat) (a2 : Int32) (s0 : Int32) (s1 : Int32) (rec_4 : Int32 → Int32 → OO Int32) (hs : Hs) : j_X6_broken_72 a0 a2 s0 s1 rec_4 hs = (
  lets (s1 ||| s0) fun (v15 : Int32) =>
    j_X6_broken_74 a0 v15 a2 rec_4) hs := rfl
theorem u_f_X6_broken (a0 : Nat) (hs : Hs) : f_X6_broken a0 hs = (
    lets (0 : Int32) fun (v1 : Int32) =>
    lets (0 : Int32) fun (v2 : Int32) =>
    L_X6_broken_4 (some a0) (fun (v21 : Int32) => rtn v21) 100000 v1 v2) hs := rfl
theorem u_f_X6_countBreaks (a0 : Nat) (hs : Hs) : f_X6_countBreaks a0 hs = (
    rcv (some a0) 9 fun r3 => call (f_X6_broken r3 ) (fun (v1 : Int32) =>
    call (f_J6_bitCount_0f7a4 v1) (fun (v2 : Int32) =>
    rtn v2) nox) nox) hs := rfl
theorem u_j_X6_hoursOf_52 (a0 : Option Nat) (a1 : Option Nat) (a3 : Int32) (s0 : Int32) (s1 : Int32) (rec_4 : Int32 → Int32 → OO Int32) (hs : Hs) : j_X6_hoursOf_52 a0 a1 a3 s0 s1 rec_4 hs = (
  lets (s1 ||| s0) fun (v8 : Int32) =>
    lets (a3 + (1 : Int32)) fun (v9 : Int32) =>
    rec_4 v8 v9) hs := rfl
theorem u_f_X6_hoursOf (a0 : Nat) (p1 : Option Nat) (hs : Hs) : f_X6_hoursOf a0 p1 hs = (
    lets (0 : Int32) fun (v1 : Int32) =>
    lets (0 : Int32) fun (v2 : Int32) =>
    L_X6_hoursOf_4 (some a0) p1 (fun (v17 : Int32) => rtn v17) 100000 v1 v2) hs := rfl
theorem u_j_X6_gapsOnDay_55 (a0 : Int32) (a1 : Int32) (a2 : Int32) (a3 : Int32) (a4 : Int32) (a5 : Int32)  (rec_10 : Int32 → Int32 → Int32 → Int32 → OO Int32) (hs : Hs) : j_X6_gapsOnDay_55 a0 a1 a2 a3 a4 a5 rec_10 hs = (
  lets (a5 + (1 : Int32)) fun (v7 : Int32) =>
    rec_10 a2 a3 a4 v7) hs := rfl
theorem u_j_X6_gapsOnDay_42 (a0 : Int32) (a1 : Int32) (a5 : Int32) (s0 : Int32) (s1 : Int32) (rec_10 : Int32 → Int32 → Int32 → Int32 → OO Int32) (hs : Hs) : j_X6_gapsOnDay_42 a0 a1 a5 s0 s1 rec_10 hs = (
  lets (s1 + s0) fun (v8 : Int32) =>
    lets (0 : Int32) fun (v9 : Int32) =>
    lets (1 : Int32) fun (v10 : Int32) =>
    j_X6_gapsOnDay_55 a0 a1 v8 v9 v10 a5 rec_10) hs := rfl
theorem u_f_X6_gapsOnDay (p0 : Int32) (p1 : Int32) (hs : Hs) : f_X6_gapsOnDay p0 p1 hs = (
    lets (0 : Int32) fun (v1 : Int32) =>
    lets (0 : Int32) fun (v2 : Int32) =>
    lets (0 : Int32) fun (v3 : Int32) =>
    lets (0 : Int32) fun (v4 : Int32) =>
    L_X6_gapsOnDay_10 p0 p1 (fun (v11 : Int32) => rtn v11) 100000 v1 v2 v3 v4) hs := rfl
theorem u_f_X6_gapsAnew (a0 : Nat) (hs : Hs) : f_X6_gapsAnew a0 hs = (
    lets (0 : Int32) fun (v1 : Int32) =>
    lets (0 : Int32) fun (v2 : Int32) =>
    L_X6_gapsAnew_4 (some a0) (fun (v18 : Int32) => rtn v18) 100000 v1 v2) hs := rfl
theorem u_j_X6_lateHoursAnew_56 (a0 : Option Nat) (a2 : Int32) (s0 : Int32) (s1 : Int32) (rec_4 : Int32 → Int32 → OO Int32) (hs : Hs) : j_X6_lateHoursAnew_56 a0 a2 s0 s1 rec_4 hs = (
  lets (s1 + s0) fun (v8 : Int32) =>
    lets (a2 + (1 : Int32)) fun (v9 : Int32) =>
    rec_4 v8 v9) hs := rfl
theorem u_f_X6_lateHoursAnew (a0 : Nat) (hs : Hs) : f_X6_lateHoursAnew a0 hs = (
    lets (0 : Int32) fun (v1 : Int32) =>
    lets (0 : Int32) fun (v2 : Int32) =>
    L_X6_lateHoursAnew_4 (some a0) (fun (v17 : Int32) => rtn v17) 100000 v1 v2) hs := rfl
theorem u_j_X6_wishesAnew_68 (a0 : Option Nat) (a2 : Int32) (a3 : Option Nat) (a4 : Int32) (s0 : Int32) (s1 : Int32) (rec_30 : Int32 → Int32 → OO Int32) (hs : Hs) : j_X6_wishesAnew_68 a0 a2 a3 a4 s0 s1 rec_30 hs = (
  lets (s1 + s0) fun (v15 : Int32) =>
    lets (a4 + (1 : Int32)) fun (v16 : Int32) =>
    rec_30 v15 v16) hs := rfl
theorem u_f_X6_wishesAnew (a0 : Nat) (hs : Hs) : f_X6_wishesAnew a0 hs = (
    lets (0 : Int32) fun (v1 : Int32) =>
    lets (0 : Int32) fun (v2 : Int32) =>
    L_X6_wishesAnew_4 (some a0) (fun (v21 : Int32) => rtn v21) 100000 v1 v2) hs := rfl
theorem u_f_X6_areCrowd (p0 : Option Nat) (p1 : Option Nat) (hs : Hs) : f_X6_areCrowd p0 p1 hs = (
    gR p0 7 6 fun v1 =>
    (if v1 = none then
    retZ (0 : Int32)
    else
    gI p0 7 7 fun v2 =>
    dvz (6 : Int32) (
    rcv p1 7 fun r8 => call (f_X4_isOn r8 (v2 / (6 : Int32))) (fun (v3 : Int32) =>
    (if v3 = 0 then
    retZ (0 : Int32)
    else
    gR p0 7 1 fun v4 =>
    gR p1 7 1 fun v5 =>
    (if ¬ v4 = v5 then
    retZ (0 : Int32)
    else
    gI p0 7 5 fun v6 =>
    gI p1 7 5 fun v7 =>
    (if ¬ v6 = v7 then
    retZ (0 : Int32)
    else
    retZ (1 : Int32))))) nox))) hs := rfl
theorem u_j_X6_crowdsAnew_56 (a0 : Option Nat) (a2 : Int32) (a3 : Int32) (s0 : Int32) (s1 : Int32) (rec_17 : Int32 → Int32 → OO Int32) (hs : Hs) : j_X6_crowdsAnew_56 a0 a2 a3 s0 s1 rec_17 hs = (
  lets (s1 + s0) fun (v11 : Int32) =>
    lets (a3 + (1 : Int32)) fun (v12 : Int32) =>
    rec_17 v11 v12) hs := rfl
theorem u_f_X6_crowdsAnew (a0 : Nat) (hs : Hs) : f_X6_crowdsAnew a0 hs = (
    lets (0 : Int32) fun (v1 : Int32) =>
    lets (0 : Int32) fun (v2 : Int32) =>
    L_X6_crowdsAnew_4 (some a0) (fun (v18 : Int32) => rtn v18) 100000 v1 v2) hs := rfl
theorem u_f_X6_amountAnew (a0 : Nat) (p1 : Int32) (hs : Hs) : f_X6_amountAnew a0 p1 hs = (
    (if p1 = (0 : Int32) then
    rcv (some a0) 9 fun r8 => call (f_X6_gapsAnew r8 ) (fun (v7 : Int32) =>
    rtn v7) nox
    else
    (if p1 = (1 : Int32) then
    rcv (some a0) 9 fun r6 => call (f_X6_lateHoursAnew r6 ) (fun (v5 : Int32) =>
    rtn v5) nox
    else
    (if p1 = (2 : Int32) then
    rcv (some a0) 9 fun r4 => call (f_X6_wishesAnew r4 ) (fun (v3 : Int32) =>
    rtn v3) nox
    else
    (if p1 = (3 : Int32) then
    rcv (some a0) 9 fun r2 => call (f_X6_crowdsAnew r2 ) (fun (v1 : Int32) =>
    rtn v1) nox
    else
    rtn (0 : Int32)))))) hs := rfl
theorem u_f_X7_init (a0 : Nat) (p1 : Int32) (hs : Hs) : f_X7_init a0 p1 hs = (
    nwI 0 (30 : Int32) 30 fun q1 =>
    pR (some a0) 10 0 (some q1) (
    pI (some a0) 10 1 p1 (
    rtn ()))) hs := rfl
theorem u_f_X8_init (a0 : Nat) (hs : Hs) : f_X8_init a0 hs = (
    nw 2 [.int 0, .null, .int 0] fun q1 =>
    call (f_Jx4a65c_init_da8c8 q1 ) (fun (v2 : Unit) =>
    pR (some a0) 11 0 (some q1) (
    nw 9 [.null, .null, .null, .null, .null, .int 0] fun q3 =>
    call (f_X6_init q3 ) (fun (v4 : Unit) =>
    pR (some a0) 11 1 (some q3) (
    nw 4 [.null] fun q5 =>
    call (f_X1_init q5 ) (fun (v6 : Unit) =>
    pR (some a0) 11 2 (some q5) (
    nw 6 [.null, .null] fun q7 =>
    call (f_X3_init q7 ) (fun (v8 : Unit) =>
    pR (some a0) 11 3 (some q7) (
    nw 3 [.null] fun q9 =>
    call (f_X0_init q9 ) (fun (v10 : Unit) =>
    pR (some a0) 11 4 (some q9) (
    nw2 fun q11 =>
    pR (some a0) 11 5 (some q11) (
    nwI 0 (16 : Int32) 16 fun q12 =>
    pR (some a0) 11 6 (some q12) (
    nwI 0 (8 : Int32) 8 fun q13 =>
    pR (some a0) 11 7 (some q13) (
    rtn ()))))) nox)) nox)) nox)) nox)) nox) hs := rfl
theorem u_j_X8_isOutside_10 (hs : Hs) : j_X8_isOutside_10  hs = (
  retZ (1 : Int32)) hs := rfl
theorem u_f_X8_isOutside (p0 : Int32) (p1 : Int32) (p2 : Int32) (hs : Hs) : f_X8_isOutside p0 p1 p2 hs = (
    (if p0 < p1 then
    j_X8_isOutside_10
    else
    (if p0 ≤ p2 then
    retZ (0 : Int32)
    else
    j_X8_isOutside_10))) hs := rfl
theorem u_f_J8_hugeLength_7cf53 (p0 : Int32) (p1 : Int32) (hs : Hs) : f_J8_hugeLength_7cf53 p0 p1 hs = (
    lets (p0 + p1) fun (v1 : Int32) =>
    (if 0 ≤ v1 then
    (if (2147483639 : Int32) < v1 then
    rtn v1
    else
    rtn (2147483639 : Int32))
    else
    failO)) hs := rfl
theorem u_j_J8_newLength_cabcc_21 (a0 : Int32) (a1 : Int32) (hs : Hs) : j_J8_newLength_cabcc_21 a0 a1 hs = (
  call (f_J8_hugeLength_7cf53 a0 a1) (fun (v2 : Int32) =>
    rtn v2) nox) hs := rfl
theorem u_f_J8_newLength_cabcc (p0 : Int32) (p1 : Int32) (p2 : Int32) (hs : Hs) : f_J8_newLength_cabcc p0 p1 p2 hs = (
    lets (p0 + (if p1 < p2 then p2 else p1)) fun (v1 : Int32) =>
    (if v1 ≤ (0 : Int32) then
    j_J8_newLength_cabcc_21 p0 p1
    else
    (if (2147483639 : Int32) < v1 then
    j_J8_newLength_cabcc_21 p0 p1
    else
    rtn v1))) hs := rfl
theorem u_j_J7_copyOf_6403c_24 (a0 : Option Nat) (a1 : Int32) (s0 : Option Nat) (hs : Hs) : j_J7_copyOf_6403c_24 a0 a1 s0 hs = (
  lets s0 fun (v2 : Option Nat) =>
    alen a0 fun v3 =>
    cpy a0 v2 (if a1 < v3 then a1 else v3) (
    rtn v2)) hs := rfl
theorem u_f_J7_copyOf_6403c (p0 : Option Nat) (p1 : Int32) (hs : Hs) : f_J7_copyOf_6403c p0 p1 hs = (
    nwO p1 30 fun q1 =>
    j_J7_copyOf_6403c_24 p0 p1 (some q1)) hs := rfl
theorem u_f_J7_copyOf_1904c (p0 : Option Nat) (p1 : Int32) (hs : Hs) : f_J7_copyOf_1904c p0 p1 hs = (
    arrO p0 (
    call (f_J7_copyOf_6403c p0 p1) (fun (v1 : Option Nat) =>
    rtn v1) nox)) hs := rfl
theorem u_j_Jx4a65c_grow_92f84_20 (a0 : Option Nat) (a1 : Int32) (a2 : Int32) (hs : Hs) : j_Jx4a65c_grow_92f84_20 a0 a1 a2 hs = (
  call (f_J8_newLength_cabcc a2 (a1 - a2) (a2 >>> ((1 : Int32) &&& 31))) (fun (v4 : Int32) =>
    lets v4 fun (v5 : Int32) =>
    gR a0 2 1 fun v6 =>
    call (f_J7_copyOf_1904c v6 v5) (fun (v7 : Option Nat) =>
    pR a0 2 1 v7 (
    rtn v7)) nox) nox) hs := rfl
theorem u_f_Jx4a65c_grow_92f84 (a0 : Nat) (p1 : Int32) (hs : Hs) : f_Jx4a65c_grow_92f84 a0 p1 hs = (
    gR (some a0) 2 1 fun v1 =>
    alen v1 fun v2 =>
    lets v2 fun (v3 : Int32) =>
    (if 0 < v3 then
    j_Jx4a65c_grow_92f84_20 (some a0) p1 v3
    else
    gR (some a0) 2 1 fun v8 =>
    gE fun (v9 : Option Nat) =>
    (if v8 = v9 then
    nwO ((if (10 : Int32) < p1 then p1 else (10 : Int32))) 30 fun q10 =>
    pR (some a0) 2 1 (some q10) (
    rtn (some q10))
    else
    j_Jx4a65c_grow_92f84_20 (some a0) p1 v3))) hs := rfl
theorem u_f_Jx4a65c_grow_d5877 (a0 : Nat) (hs : Hs) : f_Jx4a65c_grow_d5877 a0 hs = (
    gI (some a0) 2 2 fun v1 =>
    rcv (some a0) 2 fun r3 => call (f_Jx4a65c_grow_92f84 r3 (v1 + (1 : Int32))) (fun (v2 : Option Nat) =>
    rtn v2) nox) hs := rfl
theorem u_j_Jx4a65c_add_72be8_11 (a0 : Option Nat) (a1 : Option Nat) (a2 : Option Nat) (a3 : Int32) (hs : Hs) : j_Jx4a65c_add_72be8_11 a0 a1 a2 a3 hs = (
  stO [5, 7, 8, 10] a2 a3 a1 (
    pI a0 2 2 (a3 + (1 : Int32)) (
    rtn ()))) hs := rfl
theorem u_f_Jx4a65c_add_72be8 (a0 : Nat) (p1 : Option Nat) (p2 : Option Nat) (p3 : Int32) (hs : Hs) : f_Jx4a65c_add_72be8 a0 p1 p2 p3 hs = (
    alen p2 fun v1 =>
    (if ¬ p3 = v1 then
    j_Jx4a65c_add_72be8_11 (some a0) p1 p2 p3
    else
    rcv (some a0) 2 fun r4 => call (f_Jx4a65c_grow_d5877 r4 ) (fun (v2 : Option Nat) =>
    lets v2 fun (v3 : Option Nat) =>
    j_Jx4a65c_add_72be8_11 (some a0) p1 v3 p3) nox)) hs := rfl
theorem u_f_Jx4a65c_add_9ea2d (a0 : Nat) (p1 : Option Nat) (hs : Hs) : f_Jx4a65c_add_9ea2d a0 p1 hs = (
    gI (some a0) 2 0 fun v1 =>
    pI (some a0) 2 0 (v1 + (1 : Int32)) (
    gR (some a0) 2 1 fun v2 =>
    gI (some a0) 2 2 fun v3 =>
    rcv (some a0) 2 fun r5 => call (f_Jx4a65c_add_72be8 r5 p1 v2 v3) (fun (v4 : Unit) =>
    retZ (1 : Int32)) nox)) hs := rfl
theorem u_j_X8_addRoom_28 (hs : Hs) : j_X8_addRoom_28  hs = (
  nthrow 1) hs := rfl
theorem u_f_X8_addRoom (a0 : Nat) (p1 : Int32) (p2 : Int32) (p3 : Int32) (hs : Hs) : f_X8_addRoom a0 p1 p2 p3 hs = (
    call (f_X8_isOutside p1 (0 : Int32) (2 : Int32)) (fun (v1 : Int32) =>
    (if ¬ v1 = 0 then
    j_X8_addRoom_28
    else
    call (f_X8_isOutside p2 (0 : Int32) (3 : Int32)) (fun (v2 : Int32) =>
    (if ¬ v2 = 0 then
    j_X8_addRoom_28
    else
    call (f_X8_isOutside p3 (1 : Int32) (99 : Int32)) (fun (v3 : Int32) =>
    (if v3 = 0 then
    gR (some a0) 11 1 fun v4 =>
    gR v4 9 0 fun v5 =>
    rcv v5 2 fun r14 => call (f_Jx4a65c_size_8abf5 r14 ) (fun (v6 : Int32) =>
    lets v6 fun (v7 : Int32) =>
    (if v7 < (8 : Int32) then
    gR (some a0) 11 1 fun v8 =>
    gR v8 9 0 fun v9 =>
    nw 8 [.int 0, .int 0, .int 0, .int 0, .int 0] fun q10 =>
    call (f_X5_init q10 v7 p1 p2 p3) (fun (v11 : Unit) =>
    rcv v9 2 fun r13 => call (f_Jx4a65c_add_9ea2d r13 (some q10)) (fun (v12 : Int32) =>
    rtn v7) nox) nox
    else
    nthrow 2)) nox
    else
    j_X8_addRoom_28)) nox)) nox)) nox) hs := rfl
theorem u_j_X8_slotsOfDays_26 (a0 : Int32) (a2 : Int32) (s0 : Int32) (s1 : Int32) (rec_4 : Int32 → Int32 → OO Int32) (hs : Hs) : j_X8_slotsOfDays_26 a0 a2 s0 s1 rec_4 hs = (
  lets (s1 ||| s0) fun (v4 : Int32) =>
    lets (a2 + (1 : Int32)) fun (v5 : Int32) =>
    rec_4 v4 v5) hs := rfl
theorem u_f_X8_slotsOfDays (p0 : Int32) (hs : Hs) : f_X8_slotsOfDays p0 hs = (
    lets (0 : Int32) fun (v1 : Int32) =>
    lets (0 : Int32) fun (v2 : Int32) =>
    L_X8_slotsOfDays_4 p0 (fun (v7 : Int32) => rtn v7) 100000 v1 v2) hs := rfl
theorem u_f_X8_addTeacher (a0 : Nat) (p1 : Int32) (hs : Hs) : f_X8_addTeacher a0 p1 hs = (
    call (f_X8_isOutside p1 (0 : Int32) (31 : Int32)) (fun (v1 : Int32) =>
    (if v1 = 0 then
    gR (some a0) 11 0 fun v2 =>
    rcv v2 2 fun r11 => call (f_Jx4a65c_size_8abf5 r11 ) (fun (v3 : Int32) =>
    lets v3 fun (v4 : Int32) =>
    (if v4 < (8 : Int32) then
    gR (some a0) 11 0 fun v5 =>
    nw 10 [.null, .int 0, .int 0] fun q6 =>
    call (f_X8_slotsOfDays p1) (fun (v7 : Int32) =>
    call (f_X7_init q6 v7) (fun (v8 : Unit) =>
    rcv v5 2 fun r10 => call (f_Jx4a65c_add_9ea2d r10 (some q6)) (fun (v9 : Int32) =>
    rtn v4) nox) nox) nox
    else
    nthrow 2)) nox
    else
    nthrow 1)) nox) hs := rfl
theorem u_f_X8_addGroup (a0 : Nat) (p1 : Int32) (hs : Hs) : f_X8_addGroup a0 p1 hs = (
    call (f_X8_isOutside p1 (1 : Int32) (99 : Int32)) (fun (v1 : Int32) =>
    (if v1 = 0 then
    gR (some a0) 11 1 fun v2 =>
    gR v2 9 1 fun v3 =>
    rcv v3 2 fun r12 => call (f_Jx4a65c_size_8abf5 r12 ) (fun (v4 : Int32) =>
    lets v4 fun (v5 : Int32) =>
    (if v5 < (8 : Int32) then
    gR (some a0) 11 1 fun v6 =>
    gR v6 9 1 fun v7 =>
    nw 5 [.int 0] fun q8 =>
    call (f_X2_init q8 p1) (fun (v9 : Unit) =>
    rcv v7 2 fun r11 => call (f_Jx4a65c_add_9ea2d r11 (some q8)) (fun (v10 : Int32) =>
    rtn v5) nox) nox
    else
    nthrow 2)) nox
    else
    nthrow 1)) nox) hs := rfl
theorem u_j_X8_groupNumbered_18 (hs : Hs) : j_X8_groupNumbered_18  hs = (
  nthrow 0) hs := rfl
theorem u_f_X8_groupNumbered (a0 : Nat) (p1 : Int32) (hs : Hs) : f_X8_groupNumbered a0 p1 hs = (
    (if p1 < 0 then
    j_X8_groupNumbered_18
    else
    gR (some a0) 11 1 fun v1 =>
    gR v1 9 1 fun v2 =>
    rcv v2 2 fun r8 => call (f_Jx4a65c_size_8abf5 r8 ) (fun (v3 : Int32) =>
    (if p1 < v3 then
    gR (some a0) 11 1 fun v4 =>
    gR v4 9 1 fun v5 =>
    rcv v5 2 fun r7 => call (f_Jx4a65c_get_915e3 r7 p1) (fun (v6 : Option Nat) =>
    cst v6 5 (
    rtn v6)) nox
    else
    j_X8_groupNumbered_18)) nox)) hs := rfl
theorem u_j_X8_teacherNumbered_15 (hs : Hs) : j_X8_teacherNumbered_15  hs = (
  nthrow 0) hs := rfl
theorem u_f_X8_teacherNumbered (a0 : Nat) (p1 : Int32) (hs : Hs) : f_X8_teacherNumbered a0 p1 hs = (
    (if p1 < 0 then
    j_X8_teacherNumbered_15
    else
    gR (some a0) 11 0 fun v1 =>
    rcv v1 2 fun r6 => call (f_Jx4a65c_size_8abf5 r6 ) (fun (v2 : Int32) =>
    (if p1 < v2 then
    gR (some a0) 11 0 fun v3 =>
    rcv v3 2 fun r5 => call (f_Jx4a65c_get_915e3 r5 p1) (fun (v4 : Option Nat) =>
    cst v4 10 (
    rtn v4)) nox
    else
    j_X8_teacherNumbered_15)) nox)) hs := rfl
theorem u_j_X8_addLesson_44 (hs : Hs) : j_X8_addLesson_44  hs = (
  nthrow 1) hs := rfl
theorem u_f_X8_addLesson (a0 : Nat) (p1 : Int32) (p2 : Int32) (p3 : Int32) (p4 : Int32) (p5 : Int32) (hs : Hs) : f_X8_addLesson a0 p1 p2 p3 p4 p5 hs = (
    rcv (some a0) 11 fun r20 => call (f_X8_groupNumbered r20 p1) (fun (v1 : Option Nat) =>
    lets v1 fun (v2 : Option Nat) =>
    rcv (some a0) 11 fun r19 => call (f_X8_teacherNumbered r19 p2) (fun (v3 : Option Nat) =>
    lets v3 fun (v4 : Option Nat) =>
    call (f_X8_isOutside p3 (0 : Int32) (3 : Int32)) (fun (v5 : Int32) =>
    (if ¬ v5 = 0 then
    j_X8_addLesson_44
    else
    call (f_X8_isOutside p4 (1 : Int32) (3 : Int32)) (fun (v6 : Int32) =>
    (if ¬ v6 = 0 then
    j_X8_addLesson_44
    else
    call (f_X8_isOutside p5 (0 : Int32) (9 : Int32)) (fun (v7 : Int32) =>
    (if v7 = 0 then
    gR (some a0) 11 1 fun v8 =>
    gR v8 9 2 fun v9 =>
    rcv v9 2 fun r18 => call (f_Jx4a65c_size_8abf5 r18 ) (fun (v10 : Int32) =>
    lets v10 fun (v11 : Int32) =>
    (if v11 < (16 : Int32) then
    gR (some a0) 11 1 fun v12 =>
    gR v12 9 2 fun v13 =>
    nw 7 [.int 0, .null, .null, .int 0, .int 0, .int 0, .null, .int 0, .int 0, .int 0, .null, .int 0, .int 0, .int 0, .null, .null, .int 0, .null] fun q14 =>
    call (f_X4_init q14 v11 v2 v4 p3 p4 p5) (fun (v15 : Unit) =>
    rcv v13 2 fun r17 => call (f_Jx4a65c_add_9ea2d r17 (some q14)) (fun (v16 : Int32) =>
    rtn v11) nox) nox
    else
    nthrow 2)) nox
    else
    j_X8_addLesson_44)) nox)) nox)) nox) thr) thr) hs := rfl
theorem u_f_X8_requireSlot (p0 : Int32) (hs : Hs) : f_X8_requireSlot p0 hs = (
    call (f_X8_isOutside p0 (0 : Int32) (29 : Int32)) (fun (v1 : Int32) =>
    (if v1 = 0 then
    rtn ()
    else
    nthrow 1)) nox) hs := rfl
theorem u_f_X8_setWish (a0 : Nat) (p1 : Int32) (p2 : Int32) (p3 : Int32) (hs : Hs) : f_X8_setWish a0 p1 p2 p3 hs = (
    rcv (some a0) 11 fun r8 => call (f_X8_teacherNumbered r8 p1) (fun (v1 : Option Nat) =>
    lets v1 fun (v2 : Option Nat) =>
    call (f_X8_requireSlot p2) (fun (v3 : Unit) =>
    call (f_X8_isOutside p3 (0 : Int32) (9 : Int32)) (fun (v4 : Int32) =>
    (if v4 = 0 then
    gR (some a0) 11 1 fun v5 =>
    rcv v5 9 fun r7 => call (f_X6_changeWish r7 v2 p2 p3) (fun (v6 : Int32) =>
    rtn v6) nox
    else
    nthrow 1)) nox) thr) thr) hs := rfl
theorem u_f_X8_requirePiece (p0 : Int32) (hs : Hs) : f_X8_requirePiece p0 hs = (
    call (f_X8_isOutside p0 (0 : Int32) (3 : Int32)) (fun (v1 : Int32) =>
    (if v1 = 0 then
    rtn ()
    else
    nthrow 1)) nox) hs := rfl
theorem u_f_X8_setWeight (a0 : Nat) (p1 : Int32) (p2 : Int32) (hs : Hs) : f_X8_setWeight a0 p1 p2 hs = (
    call (f_X8_requirePiece p1) (fun (v1 : Unit) =>
    call (f_X8_isOutside p2 (0 : Int32) (9 : Int32)) (fun (v2 : Int32) =>
    (if v2 = 0 then
    gR (some a0) 11 1 fun v3 =>
    rcv v3 9 fun r5 => call (f_X6_changeWeight r5 p1 p2) (fun (v4 : Int32) =>
    rtn v4) nox
    else
    nthrow 1)) nox) thr) hs := rfl
theorem u_j_X8_lessonNumbered_18 (hs : Hs) : j_X8_lessonNumbered_18  hs = (
  nthrow 0) hs := rfl
theorem u_f_X8_lessonNumbered (a0 : Nat) (p1 : Int32) (hs : Hs) : f_X8_lessonNumbered a0 p1 hs = (
    (if p1 < 0 then
    j_X8_lessonNumbered_18
    else
    gR (some a0) 11 1 fun v1 =>
    gR v1 9 2 fun v2 =>
    rcv v2 2 fun r8 => call (f_Jx4a65c_size_8abf5 r8 ) (fun (v3 : Int32) =>
    (if p1 < v3 then
    gR (some a0) 11 1 fun v4 =>
    gR v4 9 2 fun v5 =>
    rcv v5 2 fun r7 => call (f_Jx4a65c_get_915e3 r7 p1) (fun (v6 : Option Nat) =>
    cst v6 7 (
    rtn v6)) nox
    else
    j_X8_lessonNumbered_18)) nox)) hs := rfl
theorem u_j_X8_roomOfPlace_22 (hs : Hs) : j_X8_roomOfPlace_22  hs = (
  nthrow 1) hs := rfl
theorem u_f_X8_roomOfPlace (a0 : Nat) (p1 : Int32) (p2 : Int32) (hs : Hs) : f_X8_roomOfPlace a0 p1 p2 hs = (
    call (f_X8_requireSlot p1) (fun (v1 : Unit) =>
    (if p2 < 0 then
    j_X8_roomOfPlace_22
    else
    gR (some a0) 11 1 fun v2 =>
    gR v2 9 0 fun v3 =>
    rcv v3 2 fun r9 => call (f_Jx4a65c_size_8abf5 r9 ) (fun (v4 : Int32) =>
    (if p2 < v4 then
    gR (some a0) 11 1 fun v5 =>
    gR v5 9 0 fun v6 =>
    rcv v6 2 fun r8 => call (f_Jx4a65c_get_915e3 r8 p2) (fun (v7 : Option Nat) =>
    cst v7 8 (
    rtn v7)) nox
    else
    j_X8_roomOfPlace_22)) nox)) thr) hs := rfl
theorem u_f_X8_reason (a0 : Nat) (p1 : Int32) (p2 : Int32) (p3 : Int32) (hs : Hs) : f_X8_reason a0 p1 p2 p3 hs = (
    rcv (some a0) 11 fun r17 => call (f_X8_lessonNumbered r17 p1) (fun (v1 : Option Nat) =>
    lets v1 fun (v2 : Option Nat) =>
    rcv (some a0) 11 fun r16 => call (f_X8_roomOfPlace r16 p2 p3) (fun (v3 : Option Nat) =>
    lets v3 fun (v4 : Option Nat) =>
    gR (some a0) 11 1 fun v5 =>
    rcv v5 9 fun r15 => call (f_X6_lookAround r15 v2) (fun (v6 : Unit) =>
    rcv v2 7 fun r14 => call (f_X4_lettersAt r14 p2 v4) (fun (v7 : Int32) =>
    lets v7 fun (v8 : Int32) =>
    lets (0 : Int32) fun (v9 : Int32) =>
    L_X8_reason_37 v8 (fun (v12 : Int32) => letAt v12 fun v13 =>
    retC v13) (retC (45 : Int32)) 100000 v9) nox) nox) thr) thr) hs := rfl
theorem u_f_Jx4a65c_isEmpty_aae02 (a0 : Nat) (hs : Hs) : f_Jx4a65c_isEmpty_aae02 a0 hs = (
    gI (some a0) 2 2 fun v1 =>
    (if ¬ v1 = 0 then
    retZ (0 : Int32)
    else
    retZ (1 : Int32))) hs := rfl
theorem u_f_X8_barEachRoom (a0 : Nat) (p1 : Int32) (hs : Hs) : f_X8_barEachRoom a0 p1 hs = (
    lets (0 : Int32) fun (v1 : Int32) =>
    L_X8_barEachRoom_2 (some a0) p1 (retZ (0 : Int32)) (retZ (1 : Int32)) 100000 v1) hs := rfl
theorem u_j_X8_leastReasons_49 (a0 : Option Nat) (a1 : Int32) (a2 : Int32)  (rec_21 : Int32 → Int32 → OO Int32) (hs : Hs) : j_X8_leastReasons_49 a0 a1 a2 rec_21 hs = (
  lets (a2 + (1 : Int32)) fun (v8 : Int32) =>
    rec_21 a1 v8) hs := rfl
theorem u_f_X8_leastReasons (a0 : Nat) (hs : Hs) : f_X8_leastReasons a0 hs = (
    gR (some a0) 11 1 fun v1 =>
    gR v1 9 0 fun v2 =>
    rcv v2 2 fun r13 => call (f_Jx4a65c_isEmpty_aae02 r13 ) (fun (v3 : Int32) =>
    (if v3 = 0 then
    lets (1023 : Int32) fun (v4 : Int32) =>
    lets (1 : Int32) fun (v5 : Int32) =>
    L_X8_leastReasons_21 (some a0) (fun (v12 : Int32) => rtn v12) 100000 v4 v5
    else
    rtn (0 : Int32))) nox) hs := rfl
theorem u_j_X8_reasons_107 (a0 : Option Nat) (hs : Hs) : j_X8_reasons_107 a0 hs = (
  rcv a0 11 fun r26 => call (f_X8_leastReasons r26 ) (fun (v25 : Int32) =>
    rtn v25) nox) hs := rfl
theorem u_f_X8_reasons (a0 : Nat) (p1 : Int32) (p2 : Int32) (hs : Hs) : f_X8_reasons a0 p1 p2 hs = (
    rcv (some a0) 11 fun r28 => call (f_X8_lessonNumbered r28 p1) (fun (v1 : Option Nat) =>
    lets v1 fun (v2 : Option Nat) =>
    call (f_X8_requireSlot p2) (fun (v3 : Unit) =>
    gR (some a0) 11 1 fun v4 =>
    rcv v4 9 fun r27 => call (f_X6_lookAround r27 v2) (fun (v5 : Unit) =>
    gR (some a0) 11 7 fun v6 =>
    call (f_J7_fill_53178 v6 (0 : Int32)) (fun (v7 : Unit) =>
    lets (0 : Int32) fun (v8 : Int32) =>
    L_X8_reasons_29 (some a0) p2 v2 (nthrow 3) (j_X8_reasons_107 (some a0)) 100000 v8) nox) nox) thr) thr) hs := rfl
theorem u_f_X8_requireFree (a0 : Nat) (p1 : Option Nat) (hs : Hs) : f_X8_requireFree a0 p1 hs = (
    gR (some a0) 11 1 fun v1 =>
    rcv v1 9 fun r3 => call (f_X6_isFree r3 p1) (fun (v2 : Int32) =>
    (if ¬ v2 = 0 then
    rtn ()
    else
    nthrow 2)) nox) hs := rfl
theorem u_f_X8_requirePossible (a0 : Nat) (p1 : Option Nat) (p2 : Int32) (p3 : Option Nat) (hs : Hs) : f_X8_requirePossible a0 p1 p2 p3 hs = (
    gR (some a0) 11 1 fun v1 =>
    rcv v1 9 fun r5 => call (f_X6_lookAround r5 p1) (fun (v2 : Unit) =>
    rcv p1 7 fun r4 => call (f_X4_lettersAt r4 p2 p3) (fun (v3 : Int32) =>
    (if v3 = 0 then
    rtn ()
    else
    nthrow 4)) nox) nox) hs := rfl
theorem u_f_X8_place (a0 : Nat) (p1 : Int32) (p2 : Int32) (p3 : Int32) (hs : Hs) : f_X8_place a0 p1 p2 p3 hs = (
    rcv (some a0) 11 fun r16 => call (f_X8_lessonNumbered r16 p1) (fun (v1 : Option Nat) =>
    lets v1 fun (v2 : Option Nat) =>
    rcv (some a0) 11 fun r15 => call (f_X8_roomOfPlace r15 p2 p3) (fun (v3 : Option Nat) =>
    lets v3 fun (v4 : Option Nat) =>
    rcv (some a0) 11 fun r14 => call (f_X8_requireFree r14 v2) (fun (v5 : Unit) =>
    rcv (some a0) 11 fun r13 => call (f_X8_requirePossible r13 v2 p2 v4) (fun (v6 : Unit) =>
    gR (some a0) 11 1 fun v7 =>
    rcv v7 9 fun r12 => call (f_X6_put r12 v2 p2 v4) (fun (v8 : Unit) =>
    gR (some a0) 11 1 fun v9 =>
    rcv v9 9 fun r11 => call (f_X6_costKept r11 ) (fun (v10 : Int32) =>
    rtn v10) nox) nox) thr) thr) thr) thr) hs := rfl
theorem u_f_X8_requirePlaced (p0 : Option Nat) (hs : Hs) : f_X8_requirePlaced p0 hs = (
    gR p0 7 6 fun v1 =>
    (if ¬ v1 = none then
    rtn ()
    else
    nthrow 2)) hs := rfl
theorem u_f_X8_remove (a0 : Nat) (p1 : Int32) (hs : Hs) : f_X8_remove a0 p1 hs = (
    rcv (some a0) 11 fun r12 => call (f_X8_lessonNumbered r12 p1) (fun (v1 : Option Nat) =>
    lets v1 fun (v2 : Option Nat) =>
    call (f_X8_requirePlaced v2) (fun (v3 : Unit) =>
    rcv (some a0) 11 fun r11 => call (f_X8_requireFree r11 v2) (fun (v4 : Unit) =>
    gR (some a0) 11 1 fun v5 =>
    rcv v5 9 fun r10 => call (f_X6_take r10 v2) (fun (v6 : Unit) =>
    gR (some a0) 11 1 fun v7 =>
    rcv v7 9 fun r9 => call (f_X6_costKept r9 ) (fun (v8 : Int32) =>
    rtn v8) nox) nox) thr) thr) thr) hs := rfl
theorem u_j_X8_lockedLessons_41 (a0 : Option Nat) (a1 : Int32) (a2 : Int32)  (rec_4 : Int32 → Int32 → OO Int32) (hs : Hs) : j_X8_lockedLessons_41 a0 a1 a2 rec_4 hs = (
  lets (a2 + (1 : Int32)) fun (v10 : Int32) =>
    rec_4 a1 v10) hs := rfl
theorem u_f_X8_lockedLessons (a0 : Nat) (hs : Hs) : f_X8_lockedLessons a0 hs = (
    lets (0 : Int32) fun (v1 : Int32) =>
    lets (0 : Int32) fun (v2 : Int32) =>
    L_X8_lockedLessons_4 (some a0) (fun (v14 : Int32) => rtn v14) 100000 v1 v2) hs := rfl
theorem u_f_X8_lock (a0 : Nat) (p1 : Int32) (hs : Hs) : f_X8_lock a0 p1 hs = (
    rcv (some a0) 11 fun r8 => call (f_X8_lessonNumbered r8 p1) (fun (v1 : Option Nat) =>
    lets v1 fun (v2 : Option Nat) =>
    call (f_X8_requirePlaced v2) (fun (v3 : Unit) =>
    rcv (some a0) 11 fun r7 => call (f_X8_requireFree r7 v2) (fun (v4 : Unit) =>
    pZ v2 7 8 (1 : Int32) (
    rcv (some a0) 11 fun r6 => call (f_X8_lockedLessons r6 ) (fun (v5 : Int32) =>
    rtn v5) nox)) thr) thr) thr) hs := rfl
theorem u_f_X8_unlock (a0 : Nat) (p1 : Int32) (hs : Hs) : f_X8_unlock a0 p1 hs = (
    rcv (some a0) 11 fun r6 => call (f_X8_lessonNumbered r6 p1) (fun (v1 : Option Nat) =>
    lets v1 fun (v2 : Option Nat) =>
    gI v2 7 8 fun v3 =>
    (if ¬ v3 = 0 then
    pZ v2 7 8 (0 : Int32) (
    rcv (some a0) 11 fun r5 => call (f_X8_lockedLessons r5 ) (fun (v4 : Int32) =>
    rtn v4) nox)
    else
    nthrow 2)) thr) hs := rfl
theorem u_f_X8_isLocked (a0 : Nat) (p1 : Int32) (hs : Hs) : f_X8_isLocked a0 p1 hs = (
    rcv (some a0) 11 fun r3 => call (f_X8_lessonNumbered r3 p1) (fun (v1 : Option Nat) =>
    gI v1 7 8 fun v2 =>
    retZ v2) thr) hs := rfl
theorem u_f_X8_placeOf (a0 : Nat) (p1 : Int32) (hs : Hs) : f_X8_placeOf a0 p1 hs = (
    rcv (some a0) 11 fun r5 => call (f_X8_lessonNumbered r5 p1) (fun (v1 : Option Nat) =>
    rcv v1 7 fun r4 => call (f_X4_placeNow r4 ) (fun (v2 : Int32) =>
    lets v2 fun (v3 : Int32) =>
    (if ¬ v3 = (-1 : Int32) then
    rtn v3
    else
    nthrow 3)) nox) thr) hs := rfl
theorem u_j_X8_groupAt_72 (a0 : Option Nat) (a2 : Int32) (a3 : Option Nat) (a4 : Int32)  (rec_13 : Int32 → OO Int32) (hs : Hs) : j_X8_groupAt_72 a0 a2 a3 a4 rec_13 hs = (
  lets (a4 + (1 : Int32)) fun (v13 : Int32) =>
    rec_13 v13) hs := rfl
theorem u_f_X8_groupAt (a0 : Nat) (p1 : Int32) (p2 : Int32) (hs : Hs) : f_X8_groupAt a0 p1 p2 hs = (
    rcv (some a0) 11 fun r21 => call (f_X8_groupNumbered r21 p1) (fun (v1 : Option Nat) =>
    lets v1 fun (v2 : Option Nat) =>
    call (f_X8_requireSlot p2) (fun (v3 : Unit) =>
    lets (0 : Int32) fun (v4 : Int32) =>
    L_X8_groupAt_13 (some a0) p2 v2 (fun (v19 : Option Nat) => gI v19 7 0 fun v20 =>
    rtn v20) (nthrow 3) 100000 v4) thr) thr) hs := rfl
theorem u_j_X8_teacherAt_72 (a0 : Option Nat) (a2 : Int32) (a3 : Option Nat) (a4 : Int32)  (rec_13 : Int32 → OO Int32) (hs : Hs) : j_X8_teacherAt_72 a0 a2 a3 a4 rec_13 hs = (
  lets (a4 + (1 : Int32)) fun (v13 : Int32) =>
    rec_13 v13) hs := rfl
theorem u_f_X8_teacherAt (a0 : Nat) (p1 : Int32) (p2 : Int32) (hs : Hs) : f_X8_teacherAt a0 p1 p2 hs = (
    rcv (some a0) 11 fun r21 => call (f_X8_teacherNumbered r21 p1) (fun (v1 : Option Nat) =>
    lets v1 fun (v2 : Option Nat) =>
    call (f_X8_requireSlot p2) (fun (v3 : Unit) =>
    lets (0 : Int32) fun (v4 : Int32) =>
    L_X8_teacherAt_13 (some a0) p2 v2 (fun (v19 : Option Nat) => gI v19 7 0 fun v20 =>
    rtn v20) (nthrow 3) 100000 v4) thr) thr) hs := rfl
theorem u_f_X8_possible (a0 : Nat) (p1 : Int32) (hs : Hs) : f_X8_possible a0 p1 hs = (
    gR (some a0) 11 1 fun v1 =>
    rcv (some a0) 11 fun r5 => call (f_X8_lessonNumbered r5 p1) (fun (v2 : Option Nat) =>
    rcv v1 9 fun r4 => call (f_X6_countPossible r4 v2) (fun (v3 : Int32) =>
    rtn v3) nox) thr) hs := rfl
theorem u_f_X8_possibleAt (a0 : Nat) (p1 : Int32) (p2 : Int32) (hs : Hs) : f_X8_possibleAt a0 p1 p2 hs = (
    gR (some a0) 11 1 fun v1 =>
    rcv (some a0) 11 fun r6 => call (f_X8_lessonNumbered r6 p1) (fun (v2 : Option Nat) =>
    rcv v1 9 fun r5 => call (f_X6_findPossible r5 v2 p2) (fun (v3 : Int32) =>
    lets v3 fun (v4 : Int32) =>
    (if ¬ v4 = (-1 : Int32) then
    rtn v4
    else
    nthrow 3)) nox) thr) hs := rfl
theorem u_f_X8_cheapest (a0 : Nat) (p1 : Int32) (hs : Hs) : f_X8_cheapest a0 p1 hs = (
    gR (some a0) 11 1 fun v1 =>
    rcv (some a0) 11 fun r6 => call (f_X8_lessonNumbered r6 p1) (fun (v2 : Option Nat) =>
    rcv v1 9 fun r5 => call (f_X6_findCheapest r5 v2) (fun (v3 : Int32) =>
    lets v3 fun (v4 : Int32) =>
    (if ¬ v4 = (-1 : Int32) then
    rtn v4
    else
    nthrow 3)) nox) thr) hs := rfl
theorem u_f_X8_costWith (a0 : Nat) (p1 : Int32) (p2 : Int32) (p3 : Int32) (hs : Hs) : f_X8_costWith a0 p1 p2 p3 hs = (
    rcv (some a0) 11 fun r11 => call (f_X8_lessonNumbered r11 p1) (fun (v1 : Option Nat) =>
    lets v1 fun (v2 : Option Nat) =>
    rcv (some a0) 11 fun r10 => call (f_X8_roomOfPlace r10 p2 p3) (fun (v3 : Option Nat) =>
    lets v3 fun (v4 : Option Nat) =>
    rcv (some a0) 11 fun r9 => call (f_X8_requirePossible r9 v2 p2 v4) (fun (v5 : Unit) =>
    gR (some a0) 11 1 fun v6 =>
    rcv v6 9 fun r8 => call (f_X6_costFrom r8 v2 p2) (fun (v7 : Int32) =>
    rtn v7) nox) thr) thr) thr) hs := rfl
theorem u_f_X8_hardest (a0 : Nat) (hs : Hs) : f_X8_hardest a0 hs = (
    gR (some a0) 11 1 fun v1 =>
    gR (some a0) 11 1 fun v2 =>
    rcv v2 9 fun r8 => call (f_X6_unplaced r8 ) (fun (v3 : Int32) =>
    rcv v1 9 fun r7 => call (f_X6_findHardest r7 v3) (fun (v4 : Option Nat) =>
    lets v4 fun (v5 : Option Nat) =>
    (if ¬ v5 = none then
    gI v5 7 0 fun v6 =>
    rtn v6
    else
    nthrow 3)) nox) nox) hs := rfl
theorem u_f_X8_fill (a0 : Nat) (hs : Hs) : f_X8_fill a0 hs = (
    gR (some a0) 11 2 fun v1 =>
    gR (some a0) 11 1 fun v2 =>
    rcv v1 4 fun r8 => call (f_X1_fillUp r8 v2) (fun (v3 : Unit) =>
    gR (some a0) 11 1 fun v4 =>
    rcv v4 9 fun r7 => call (f_X6_unplaced r7 ) (fun (v5 : Int32) =>
    call (f_J6_bitCount_0f7a4 v5) (fun (v6 : Int32) =>
    rtn v6) nox) nox) nox) hs := rfl
theorem u_f_X8_improve (a0 : Nat) (p1 : Int32) (hs : Hs) : f_X8_improve a0 p1 hs = (
    call (f_X8_isOutside p1 (1 : Int32) (20 : Int32)) (fun (v1 : Int32) =>
    (if v1 = 0 then
    gR (some a0) 11 3 fun v2 =>
    gR (some a0) 11 1 fun v3 =>
    rcv v2 6 fun r8 => call (f_X3_improveTable r8 v3 p1) (fun (v4 : Unit) =>
    gR (some a0) 11 1 fun v5 =>
    rcv v5 9 fun r7 => call (f_X6_costKept r7 ) (fun (v6 : Int32) =>
    rtn v6) nox) nox
    else
    nthrow 1)) nox) hs := rfl
theorem u_f_X8_cost (a0 : Nat) (hs : Hs) : f_X8_cost a0 hs = (
    gR (some a0) 11 1 fun v1 =>
    rcv v1 9 fun r3 => call (f_X6_costKept r3 ) (fun (v2 : Int32) =>
    rtn v2) nox) hs := rfl
theorem u_f_X8_costAnew (a0 : Nat) (hs : Hs) : f_X8_costAnew a0 hs = (
    lets (0 : Int32) fun (v1 : Int32) =>
    lets (0 : Int32) fun (v2 : Int32) =>
    L_X8_costAnew_4 (some a0) (fun (v14 : Int32) => rtn v14) 100000 v1 v2) hs := rfl
theorem u_f_X8_amount (a0 : Nat) (p1 : Int32) (hs : Hs) : f_X8_amount a0 p1 hs = (
    call (f_X8_requirePiece p1) (fun (v1 : Unit) =>
    gR (some a0) 11 1 fun v2 =>
    gR v2 9 4 fun v3 =>
    call (f_X8_at v3 p1) (fun (v4 : Int32) =>
    rtn v4) nox) thr) hs := rfl
theorem u_f_X8_breaks (a0 : Nat) (hs : Hs) : f_X8_breaks a0 hs = (
    gR (some a0) 11 1 fun v1 =>
    rcv v1 9 fun r3 => call (f_X6_countBreaks r3 ) (fun (v2 : Int32) =>
    rtn v2) nox) hs := rfl
theorem u_f_X8_requireKind (p0 : Int32) (hs : Hs) : f_X8_requireKind p0 hs = (
    call (f_X8_isOutside p0 (0 : Int32) (3 : Int32)) (fun (v1 : Int32) =>
    (if v1 = 0 then
    rtn ()
    else
    nthrow 1)) nox) hs := rfl
theorem u_f_X8_lacking (a0 : Nat) (p1 : Int32) (hs : Hs) : f_X8_lacking a0 p1 hs = (
    call (f_X8_requireKind p1) (fun (v1 : Unit) =>
    gR (some a0) 11 4 fun v2 =>
    gR (some a0) 11 1 fun v3 =>
    rcv v2 3 fun r5 => call (f_X0_lackByGiving r5 v3 p1) (fun (v4 : Int32) =>
    rtn v4) nox) thr) hs := rfl
theorem u_f_X8_lackingBySeats (a0 : Nat) (p1 : Int32) (hs : Hs) : f_X8_lackingBySeats a0 p1 hs = (
    call (f_X8_requireKind p1) (fun (v1 : Unit) =>
    gR (some a0) 11 4 fun v2 =>
    gR (some a0) 11 1 fun v3 =>
    rcv v2 3 fun r5 => call (f_X0_lackByNumbers r5 v3 p1) (fun (v4 : Int32) =>
    rtn v4) nox) thr) hs := rfl
theorem u_j_X8_ill_139 (a0 : Option Nat) (a2 : Int32) (a3 : Option Nat) (a4 : Int32) (a5 : Int32)  (rec_61 : Int32 → Int32 → OO Int32) (hs : Hs) : j_X8_ill_139 a0 a2 a3 a4 a5 rec_61 hs = (
  lets (a5 + (1 : Int32)) fun (v18 : Int32) =>
    rec_61 a4 v18) hs := rfl
theorem u_f_X8_ill (a0 : Nat) (p1 : Int32) (p2 : Int32) (hs : Hs) : f_X8_ill a0 p1 p2 hs = (
    rcv (some a0) 11 fun r31 => call (f_X8_teacherNumbered r31 p1) (fun (v1 : Option Nat) =>
    lets v1 fun (v2 : Option Nat) =>
    gR (some a0) 11 1 fun v3 =>
    gI v3 9 5 fun v4 =>
    call (f_X8_isOutside p2 v4 (4 : Int32)) (fun (v5 : Int32) =>
    (if v5 = 0 then
    gI v2 10 1 fun v6 =>
    call (f_X8_slotsOfDay p2) (fun (v7 : Int32) =>
    (if (v6 &&& v7) = 0 then
    lets (0 : Int32) fun (v8 : Int32) =>
    lets (0 : Int32) fun (v9 : Int32) =>
    L_X8_ill_61 (some a0) p2 v2 (nthrow 4) (fun (v25 : Int32) => gI v2 10 1 fun v26 =>
    call (f_X8_slotsOfDay p2) (fun (v27 : Int32) =>
    pI v2 10 1 (v26 ||| v27) (
    gR (some a0) 11 1 fun v28 =>
    rcv v28 9 fun r30 => call (f_X6_repair r30 v25) (fun (v29 : Int32) =>
    rtn v29) nox)) nox) 100000 v8 v9
    else
    nthrow 2)) nox
    else
    nthrow 1)) nox) thr) hs := rfl
theorem u_j_X8_roomNumbered_18 (hs : Hs) : j_X8_roomNumbered_18  hs = (
  nthrow 0) hs := rfl
theorem u_f_X8_roomNumbered (a0 : Nat) (p1 : Int32) (hs : Hs) : f_X8_roomNumbered a0 p1 hs = (
    (if p1 < 0 then
    j_X8_roomNumbered_18
    else
    gR (some a0) 11 1 fun v1 =>
    gR v1 9 0 fun v2 =>
    rcv v2 2 fun r8 => call (f_Jx4a65c_size_8abf5 r8 ) (fun (v3 : Int32) =>
    (if p1 < v3 then
    gR (some a0) 11 1 fun v4 =>
    gR v4 9 0 fun v5 =>
    rcv v5 2 fun r7 => call (f_Jx4a65c_get_915e3 r7 p1) (fun (v6 : Option Nat) =>
    cst v6 8 (
    rtn v6)) nox
    else
    j_X8_roomNumbered_18)) nox)) hs := rfl
theorem u_j_X8_close_112 (a0 : Option Nat) (a2 : Option Nat) (a3 : Int32) (a4 : Int32)  (rec_29 : Int32 → Int32 → OO Int32) (hs : Hs) : j_X8_close_112 a0 a2 a3 a4 rec_29 hs = (
  lets (a4 + (1 : Int32)) fun (v14 : Int32) =>
    rec_29 a3 v14) hs := rfl
theorem u_j_X8_close_110 (a0 : Option Nat) (a2 : Option Nat) (a4 : Int32) (s0 : Int32) (s1 : Int32) (rec_29 : Int32 → Int32 → OO Int32) (hs : Hs) : j_X8_close_110 a0 a2 a4 s0 s1 rec_29 hs = (
  lets (s1 ||| s0) fun (v18 : Int32) =>
    j_X8_close_112 a0 a2 v18 a4 rec_29) hs := rfl
theorem u_f_X8_close (a0 : Nat) (p1 : Int32) (hs : Hs) : f_X8_close a0 p1 hs = (
    rcv (some a0) 11 fun r26 => call (f_X8_roomNumbered r26 p1) (fun (v1 : Option Nat) =>
    lets v1 fun (v2 : Option Nat) =>
    gI v2 8 4 fun v3 =>
    (if ¬ v3 = 0 then
    lets (0 : Int32) fun (v4 : Int32) =>
    lets (0 : Int32) fun (v5 : Int32) =>
    L_X8_close_29 (some a0) v2 (nthrow 4) (fun (v22 : Int32) => pZ v2 8 4 (0 : Int32) (
    gR (some a0) 11 1 fun v23 =>
    rcv v23 9 fun r25 => call (f_X6_repair r25 v22) (fun (v24 : Int32) =>
    rtn v24) nox)) 100000 v4 v5
    else
    nthrow 2)) thr) hs := rfl
theorem u_j_X8_open_73 (a0 : Option Nat) (a3 : Int32) (a4 : Int32)  (rec_34 : Int32 → Int32 → OO Int32) (hs : Hs) : j_X8_open_73 a0 a3 a4 rec_34 hs = (
  lets (a4 + (1 : Int32)) fun (v13 : Int32) =>
    rec_34 a3 v13) hs := rfl
theorem u_f_X8_open (a0 : Nat) (p1 : Int32) (hs : Hs) : f_X8_open a0 p1 hs = (
    rcv (some a0) 11 fun r18 => call (f_X8_roomNumbered r18 p1) (fun (v1 : Option Nat) =>
    lets v1 fun (v2 : Option Nat) =>
    gI v2 8 4 fun v3 =>
    (if v3 = 0 then
    pZ v2 8 4 (1 : Int32) (
    lets (0 : Int32) fun (v4 : Int32) =>
    lets (0 : Int32) fun (v5 : Int32) =>
    L_X8_open_34 (some a0) (fun (v17 : Int32) => rtn v17) 100000 v4 v5)
    else
    nthrow 2)) thr) hs := rfl
theorem u_f_X8_passDay (a0 : Nat) (hs : Hs) : f_X8_passDay a0 hs = (
    gR (some a0) 11 1 fun v1 =>
    gI v1 9 5 fun v2 =>
    (if v2 < (4 : Int32) then
    gR (some a0) 11 1 fun v3 =>
    gI v3 9 5 fun v4 =>
    pI v3 9 5 (v4 + (1 : Int32)) (
    gR (some a0) 11 1 fun v5 =>
    gI v5 9 5 fun v6 =>
    rtn v6)
    else
    nthrow 2)) hs := rfl
theorem u_f_X8_nextWeek (a0 : Nat) (hs : Hs) : f_X8_nextWeek a0 hs = (
    gR (some a0) 11 1 fun v1 =>
    gI v1 9 5 fun v2 =>
    (if v2 = (4 : Int32) then
    gR (some a0) 11 1 fun v3 =>
    rcv v3 9 fun r14 => call (f_X6_bookLateHours r14 ) (fun (v4 : Unit) =>
    gR (some a0) 11 1 fun v5 =>
    pI v5 9 5 (0 : Int32) (
    gR (some a0) 11 1 fun v6 =>
    gR (some a0) 11 1 fun v7 =>
    rcv v7 9 fun r13 => call (f_X6_broken r13 ) (fun (v8 : Int32) =>
    rcv v6 9 fun r12 => call (f_X6_repair r12 v8) (fun (v9 : Int32) =>
    gI (some a0) 11 9 fun v10 =>
    pI (some a0) 11 9 (v10 + (1 : Int32)) (
    gI (some a0) 11 9 fun v11 =>
    rtn v11)) nox) nox)) nox
    else
    nthrow 2)) hs := rfl
theorem u_f_X8_today (a0 : Nat) (hs : Hs) : f_X8_today a0 hs = (
    gR (some a0) 11 1 fun v1 =>
    gI v1 9 5 fun v2 =>
    rtn v2) hs := rfl
theorem u_f_X8_account (a0 : Nat) (p1 : Int32) (hs : Hs) : f_X8_account a0 p1 hs = (
    rcv (some a0) 11 fun r3 => call (f_X8_teacherNumbered r3 p1) (fun (v1 : Option Nat) =>
    gI v1 10 2 fun v2 =>
    rtn v2) thr) hs := rfl
theorem u_f_X8_save (a0 : Nat) (hs : Hs) : f_X8_save a0 hs = (
    gI (some a0) 11 8 fun v1 =>
    gR (some a0) 11 5 fun v2 =>
    alen v2 fun v3 =>
    (if v1 < v3 then
    gR (some a0) 11 1 fun v4 =>
    gR (some a0) 11 5 fun v5 =>
    gI (some a0) 11 8 fun v6 =>
    ldR 5 v5 v6 fun v7 =>
    rcv v4 9 fun r11 => call (f_X6_copyPlaces r11 v7) (fun (v8 : Unit) =>
    gI (some a0) 11 8 fun v9 =>
    pI (some a0) 11 8 (v9 + (1 : Int32)) (
    gI (some a0) 11 8 fun v10 =>
    rtn (v10 - (1 : Int32)))) nox
    else
    nthrow 2)) hs := rfl
theorem u_j_X8_versionNumbered_21 (hs : Hs) : j_X8_versionNumbered_21  hs = (
  nthrow 3) hs := rfl
theorem u_f_X8_versionNumbered (a0 : Nat) (p1 : Int32) (hs : Hs) : f_X8_versionNumbered a0 p1 hs = (
    (if p1 < 0 then
    j_X8_versionNumbered_21
    else
    gI (some a0) 11 8 fun v1 =>
    (if v1 ≤ p1 then
    j_X8_versionNumbered_21
    else
    gR (some a0) 11 5 fun v2 =>
    alen v2 fun v3 =>
    (if p1 < v3 then
    gR (some a0) 11 5 fun v4 =>
    ldR 5 v4 p1 fun v5 =>
    rtn v5
    else
    j_X8_versionNumbered_21)))) hs := rfl
theorem u_f_X8_placeIn (a0 : Nat) (p1 : Int32) (p2 : Int32) (hs : Hs) : f_X8_placeIn a0 p1 p2 hs = (
    rcv (some a0) 11 fun r8 => call (f_X8_versionNumbered r8 p1) (fun (v1 : Option Nat) =>
    lets v1 fun (v2 : Option Nat) =>
    rcv (some a0) 11 fun r7 => call (f_X8_lessonNumbered r7 p2) (fun (v3 : Option Nat) =>
    gI v3 7 0 fun v4 =>
    call (f_X8_at v2 v4) (fun (v5 : Int32) =>
    lets v5 fun (v6 : Int32) =>
    (if ¬ v6 = (-1 : Int32) then
    rtn v6
    else
    nthrow 3)) nox) thr) thr) hs := rfl
theorem u_j_X8_differences_45 (a3 : Option Nat) (a4 : Option Nat) (a5 : Int32) (a6 : Int32)  (rec_19 : Int32 → Int32 → OO Int32) (hs : Hs) : j_X8_differences_45 a3 a4 a5 a6 rec_19 hs = (
  lets (a6 + (1 : Int32)) fun (v9 : Int32) =>
    rec_19 a5 v9) hs := rfl
theorem u_f_X8_differences (a0 : Nat) (p1 : Int32) (p2 : Int32) (hs : Hs) : f_X8_differences a0 p1 p2 hs = (
    rcv (some a0) 11 fun r13 => call (f_X8_versionNumbered r13 p1) (fun (v1 : Option Nat) =>
    lets v1 fun (v2 : Option Nat) =>
    rcv (some a0) 11 fun r12 => call (f_X8_versionNumbered r12 p2) (fun (v3 : Option Nat) =>
    lets v3 fun (v4 : Option Nat) =>
    lets (0 : Int32) fun (v5 : Int32) =>
    lets (0 : Int32) fun (v6 : Int32) =>
    L_X8_differences_19 v2 v4 (fun (v11 : Int32) => rtn v11) 100000 v5 v6) thr) thr) hs := rfl
theorem u_j_X8_restore_64 (a0 : Option Nat) (a2 : Option Nat) (a3 : Int32) (a4 : Int32)  (rec_19 : Int32 → Int32 → OO Int32) (hs : Hs) : j_X8_restore_64 a0 a2 a3 a4 rec_19 hs = (
  lets (a4 + (1 : Int32)) fun (v15 : Int32) =>
    rec_19 a3 v15) hs := rfl
theorem u_f_X8_restore (a0 : Nat) (p1 : Int32) (hs : Hs) : f_X8_restore a0 p1 hs = (
    rcv (some a0) 11 fun r22 => call (f_X8_versionNumbered r22 p1) (fun (v1 : Option Nat) =>
    lets v1 fun (v2 : Option Nat) =>
    gR (some a0) 11 1 fun v3 =>
    rcv v3 9 fun r21 => call (f_X6_setFreeLessons r21 v2) (fun (v4 : Unit) =>
    lets (0 : Int32) fun (v5 : Int32) =>
    lets (0 : Int32) fun (v6 : Int32) =>
    L_X8_restore_19 (some a0) v2 (fun (v20 : Int32) => rtn v20) 100000 v5 v6) nox) thr) hs := rfl
theorem u_j_X8_merge_153 (a0 : Option Nat) (a3 : Option Nat) (a4 : Option Nat) (a5 : Int32) (a6 : Int32)  (rec_30 : Int32 → Int32 → OO Int32) (hs : Hs) : j_X8_merge_153 a0 a3 a4 a5 a6 rec_30 hs = (
  lets (a6 + (1 : Int32)) fun (v22 : Int32) =>
    rec_30 a5 v22) hs := rfl
theorem u_j_X8_merge_128 (a0 : Option Nat) (a3 : Option Nat) (a4 : Option Nat) (a5 : Int32) (a6 : Int32) (a7 : Int32)  (rec_30 : Int32 → Int32 → OO Int32) (hs : Hs) : j_X8_merge_128 a0 a3 a4 a5 a6 a7 rec_30 hs = (
  (if a7 = 0 then
    j_X8_merge_153 a0 a3 a4 a5 a6 rec_30
    else
    gR a0 11 6 fun v23 =>
    ldI 0 v23 a6 fun v24 =>
    call (f_X8_at a4 a6) (fun (v25 : Int32) =>
    (if v24 = v25 then
    j_X8_merge_153 a0 a3 a4 a5 a6 rec_30
    else
    lets (a5 + (1 : Int32)) fun (v26 : Int32) =>
    j_X8_merge_153 a0 a3 a4 v26 a6 rec_30)) nox)) hs := rfl
theorem u_j_X8_merge_99 (a0 : Option Nat) (a3 : Option Nat) (a4 : Option Nat) (a5 : Int32) (a6 : Int32) (a7 : Int32) (s0 : Int32) (rec_30 : Int32 → Int32 → OO Int32) (hs : Hs) : j_X8_merge_99 a0 a3 a4 a5 a6 a7 s0 rec_30 hs = (
  lets s0 fun (v21 : Int32) =>
    (if a7 = 0 then
    j_X8_merge_128 a0 a3 a4 a5 a6 a7 rec_30
    else
    (if ¬ v21 = 0 then
    j_X8_merge_128 a0 a3 a4 a5 a6 a7 rec_30
    else
    gR a0 11 6 fun v27 =>
    call (f_X8_at a4 a6) (fun (v28 : Int32) =>
    stI v27 a6 v28 (
    j_X8_merge_153 a0 a3 a4 a5 a6 rec_30)) nox))) hs := rfl
theorem u_j_X8_merge_76 (a0 : Option Nat) (a3 : Option Nat) (a4 : Option Nat) (a5 : Int32) (a6 : Int32) (s0 : Int32) (rec_30 : Int32 → Int32 → OO Int32) (hs : Hs) : j_X8_merge_76 a0 a3 a4 a5 a6 s0 rec_30 hs = (
  lets s0 fun (v17 : Int32) =>
    gR a0 11 6 fun v18 =>
    ldI 0 v18 a6 fun v19 =>
    call (f_X8_at a3 a6) (fun (v20 : Int32) =>
    (if v19 = v20 then
    j_X8_merge_99 a0 a3 a4 a5 a6 v17 (0 : Int32) rec_30
    else
    j_X8_merge_99 a0 a3 a4 a5 a6 v17 (1 : Int32) rec_30)) nox) hs := rfl
theorem u_j_X8_merge_159 (a0 : Option Nat) (a5 : Int32) (hs : Hs) : j_X8_merge_159 a0 a5 hs = (
  gR a0 11 1 fun v31 =>
    gR a0 11 6 fun v32 =>
    rcv v31 9 fun r34 => call (f_X6_setFreeLessons r34 v32) (fun (v33 : Unit) =>
    rtn a5) nox) hs := rfl
theorem u_f_X8_merge (a0 : Nat) (p1 : Int32) (p2 : Int32) (hs : Hs) : f_X8_merge a0 p1 p2 hs = (
    rcv (some a0) 11 fun r37 => call (f_X8_versionNumbered r37 p1) (fun (v1 : Option Nat) =>
    lets v1 fun (v2 : Option Nat) =>
    rcv (some a0) 11 fun r36 => call (f_X8_versionNumbered r36 p2) (fun (v3 : Option Nat) =>
    lets v3 fun (v4 : Option Nat) =>
    gR (some a0) 11 1 fun v5 =>
    gR (some a0) 11 6 fun v6 =>
    rcv v5 9 fun r35 => call (f_X6_copyPlaces r35 v6) (fun (v7 : Unit) =>
    lets (0 : Int32) fun (v8 : Int32) =>
    lets (0 : Int32) fun (v9 : Int32) =>
    L_X8_merge_30 (some a0) v2 v4 (fun (v30 : Int32) => j_X8_merge_159 (some a0) v30) 100000 v8 v9) nox) thr) thr) hs := rfl
theorem u_f_X8_placedShare (a0 : Nat) (hs : Hs) : f_X8_placedShare a0 hs = (
    gR (some a0) 11 1 fun v1 =>
    gR v1 9 2 fun v2 =>
    rcv v2 2 fun r11 => call (f_Jx4a65c_size_8abf5 r11 ) (fun (v3 : Int32) =>
    lets v3 fun (v4 : Int32) =>
    (if ¬ v4 = 0 then
    gR (some a0) 11 1 fun v5 =>
    rcv v5 9 fun r10 => call (f_X6_unplaced r10 ) (fun (v6 : Int32) =>
    call (f_J6_bitCount_0f7a4 v6) (fun (v7 : Int32) =>
    lets (v4 - v7) fun (v8 : Int32) =>
    fdv (FP.i2f v8) (FP.i2f v4) fun v9 =>
    rtn v9) nox) nox
    else
    nthrow 5)) nox) hs := rfl
theorem u_f_X8_meanPossible (a0 : Nat) (hs : Hs) : f_X8_meanPossible a0 hs = (
    gR (some a0) 11 1 fun v1 =>
    gR v1 9 2 fun v2 =>
    rcv v2 2 fun r18 => call (f_Jx4a65c_size_8abf5 r18 ) (fun (v3 : Int32) =>
    lets v3 fun (v4 : Int32) =>
    (if ¬ v4 = 0 then
    lets (0 : Int32) fun (v5 : Int32) =>
    lets (0 : Int32) fun (v6 : Int32) =>
    L_X8_meanPossible_30 (some a0) v4 (fun (v16 : Int32) => ddv (FP.i2d v16) (FP.i2d v4) fun v17 =>
    rtn v17) 100000 v5 v6
    else
    nthrow 5)) nox) hs := rfl
theorem u_f_X8_isSound (a0 : Nat) (hs : Hs) : f_X8_isSound a0 hs = (
    rcv (some a0) 11 fun r16 => call (f_X8_cost r16 ) (fun (v1 : Int32) =>
    rcv (some a0) 11 fun r15 => call (f_X8_costAnew r15 ) (fun (v2 : Int32) =>
    (if ¬ v1 = v2 then
    retZ (0 : Int32)
    else
    rcv (some a0) 11 fun r14 => call (f_X8_breaks r14 ) (fun (v3 : Int32) =>
    (if v3 = 0 then
    lets (0 : Int32) fun (v4 : Int32) =>
    L_X8_isSound_22 (some a0) (retZ (0 : Int32)) (retZ (1 : Int32)) 100000 v4
    else
    retZ (0 : Int32))) nox)) nox) nox) hs := rfl
theorem u_f_X9_init (a0 : Nat) (hs : Hs) : f_X9_init a0 hs = (
    nwI 0 (8 : Int32) 8 fun q1 =>
    pR (some a0) 12 0 (some q1) (
    nwI 0 (8 : Int32) 8 fun q2 =>
    pR (some a0) 12 1 (some q2) (
    nwI 0 (8 : Int32) 8 fun q3 =>
    pR (some a0) 12 2 (some q3) (
    nwI 0 (8 : Int32) 8 fun q4 =>
    pR (some a0) 12 3 (some q4) (
    nwI 0 (8 : Int32) 8 fun q5 =>
    pR (some a0) 12 4 (some q5) (
    nwI 0 (8 : Int32) 8 fun q6 =>
    pR (some a0) 12 5 (some q6) (
    nwI 0 (240 : Int32) 240 fun q7 =>
    pR (some a0) 12 6 (some q7) (
    nwI 1 (8 : Int32) 8 fun q8 =>
    pR (some a0) 12 7 (some q8) (
    nwI 1 (16 : Int32) 16 fun q9 =>
    pR (some a0) 12 8 (some q9) (
    nwI 0 (16 : Int32) 16 fun q10 =>
    pR (some a0) 12 9 (some q10) (
    nwI 0 (16 : Int32) 16 fun q11 =>
    pR (some a0) 12 10 (some q11) (
    nwI 0 (16 : Int32) 16 fun q12 =>
    pR (some a0) 12 11 (some q12) (
    nwI 0 (16 : Int32) 16 fun q13 =>
    pR (some a0) 12 12 (some q13) (
    nwI 0 (16 : Int32) 16 fun q14 =>
    pR (some a0) 12 13 (some q14) (
    nwI 0 (16 : Int32) 16 fun q15 =>
    pR (some a0) 12 14 (some q15) (
    nwI 0 (4 : Int32) 4 fun q16 =>
    pR (some a0) 12 15 (some q16) (
    nwI 0 (96 : Int32) 96 fun q17 =>
    pR (some a0) 12 16 (some q17) (
    nwI 0 (16 : Int32) 16 fun q18 =>
    pR (some a0) 12 17 (some q18) (
    nwI 0 (3 : Int32) 3 fun q19 =>
    pR (some a0) 12 18 (some q19) (
    nwI 0 (16 : Int32) 16 fun q20 =>
    pR (some a0) 12 19 (some q20) (
    pI (some a0) 12 20 (0 : Int32) (
    pI (some a0) 12 21 (0 : Int32) (
    pI (some a0) 12 22 (0 : Int32) (
    pI (some a0) 12 23 (0 : Int32) (
    pI (some a0) 12 24 (0 : Int32) (
    pI (some a0) 12 25 (0 : Int32) (
    pI (some a0) 12 26 (0 : Int32) (
    pI (some a0) 12 27 (0 : Int32) (
    lets (0 : Int32) fun (v21 : Int32) =>
    L_X9_init_205 (some a0) (rtn ()) 100000 v21))))))))))))))))))))))))))))) hs := rfl
theorem u_f_X9_thrown (a0 : Nat) (hs : Hs) : f_X9_thrown a0 hs = (
    gI (some a0) 12 20 fun v1 =>
    rtn v1) hs := rfl
theorem u_f_X9_in (p0 : Int32) (p1 : Int32) (p2 : Int32) (hs : Hs) : f_X9_in p0 p1 p2 hs = (
    (if p0 < p1 then
    retZ (0 : Int32)
    else
    (if p2 < p0 then
    retZ (0 : Int32)
    else
    retZ (1 : Int32)))) hs := rfl
theorem u_f_X9_plain (a0 : Nat) (p1 : Int32) (hs : Hs) : f_X9_plain a0 p1 hs = (
    pI (some a0) 12 20 (0 : Int32) (
    rtn p1)) hs := rfl
theorem u_j_X9_checked_10 (a0 : Option Nat) (s0 : Int32) (s1 : Option Nat) (hs : Hs) : j_X9_checked_10 a0 s0 s1 hs = (
  pI s1 12 20 s0 (
    gI a0 12 20 fun v1 =>
    rtn v1)) hs := rfl
theorem u_f_X9_checked (a0 : Nat) (p1 : Int32) (hs : Hs) : f_X9_checked a0 p1 hs = (
    (if p1 = 0 then
    j_X9_checked_10 (some a0) (1 : Int32) (some a0)
    else
    j_X9_checked_10 (some a0) (0 : Int32) (some a0))) hs := rfl
theorem u_f_X9_isLesson (a0 : Nat) (p1 : Int32) (hs : Hs) : f_X9_isLesson a0 p1 hs = (
    gI (some a0) 12 24 fun v1 =>
    call (f_X9_in p1 (0 : Int32) (v1 - (1 : Int32))) (fun (v2 : Int32) =>
    retZ v2) nox) hs := rfl
theorem u_f_X9_isTeacher (a0 : Nat) (p1 : Int32) (hs : Hs) : f_X9_isTeacher a0 p1 hs = (
    gI (some a0) 12 22 fun v1 =>
    call (f_X9_in p1 (0 : Int32) (v1 - (1 : Int32))) (fun (v2 : Int32) =>
    retZ v2) nox) hs := rfl
theorem u_f_X9_isGroup (a0 : Nat) (p1 : Int32) (hs : Hs) : f_X9_isGroup a0 p1 hs = (
    gI (some a0) 12 23 fun v1 =>
    call (f_X9_in p1 (0 : Int32) (v1 - (1 : Int32))) (fun (v2 : Int32) =>
    retZ v2) nox) hs := rfl
theorem u_f_X9_isRoom (a0 : Nat) (p1 : Int32) (hs : Hs) : f_X9_isRoom a0 p1 hs = (
    gI (some a0) 12 21 fun v1 =>
    call (f_X9_in p1 (0 : Int32) (v1 - (1 : Int32))) (fun (v2 : Int32) =>
    retZ v2) nox) hs := rfl
theorem u_f_X9_isSlot (p0 : Int32) (hs : Hs) : f_X9_isSlot p0 hs = (
    call (f_X9_in p0 (0 : Int32) (29 : Int32)) (fun (v1 : Int32) =>
    retZ v1) nox) hs := rfl
theorem u_j_X9_addRoom_47 (a0 : Option Nat) (a1 : Int32) (a2 : Int32) (a3 : Int32) (s0 : Int32) (s1 : Option Nat) (hs : Hs) : j_X9_addRoom_47 a0 a1 a2 a3 s0 s1 hs = (
  pI s1 12 20 s0 (
    gI a0 12 20 fun v2 =>
    (if v2 ≤ 0 then
    gR a0 12 0 fun v3 =>
    gI a0 12 21 fun v4 =>
    stI v3 v4 a1 (
    gR a0 12 1 fun v5 =>
    gI a0 12 21 fun v6 =>
    stI v5 v6 a2 (
    gR a0 12 2 fun v7 =>
    gI a0 12 21 fun v8 =>
    stI v7 v8 a3 (
    gI a0 12 21 fun v9 =>
    pI a0 12 21 (v9 + (1 : Int32)) (
    gI a0 12 21 fun v10 =>
    rtn (v10 - (1 : Int32))))))
    else
    rtn (0 : Int32)))) hs := rfl
theorem u_j_X9_addRoom_29 (a0 : Option Nat) (a1 : Int32) (a2 : Int32) (a3 : Int32) (s0 : Option Nat) (hs : Hs) : j_X9_addRoom_29 a0 a1 a2 a3 s0 hs = (
  j_X9_addRoom_47 a0 a1 a2 a3 (1 : Int32) s0) hs := rfl
theorem u_f_X9_addRoom (a0 : Nat) (p1 : Int32) (p2 : Int32) (p3 : Int32) (hs : Hs) : f_X9_addRoom a0 p1 p2 p3 hs = (
    call (f_X9_in p1 (0 : Int32) (2 : Int32)) (fun (v1 : Int32) =>
    (if v1 = 0 then
    j_X9_addRoom_29 (some a0) p1 p2 p3 (some a0)
    else
    call (f_X9_in p2 (0 : Int32) (3 : Int32)) (fun (v11 : Int32) =>
    (if v11 = 0 then
    j_X9_addRoom_29 (some a0) p1 p2 p3 (some a0)
    else
    call (f_X9_in p3 (1 : Int32) (99 : Int32)) (fun (v12 : Int32) =>
    (if ¬ v12 = 0 then
    gI (some a0) 12 21 fun v13 =>
    (if ¬ v13 = (8 : Int32) then
    j_X9_addRoom_47 (some a0) p1 p2 p3 (0 : Int32) (some a0)
    else
    j_X9_addRoom_47 (some a0) p1 p2 p3 (2 : Int32) (some a0))
    else
    j_X9_addRoom_29 (some a0) p1 p2 p3 (some a0))) nox)) nox)) nox) hs := rfl
theorem u_j_X9_addTeacher_29 (a0 : Option Nat) (a1 : Int32) (s0 : Int32) (s1 : Option Nat) (hs : Hs) : j_X9_addTeacher_29 a0 a1 s0 s1 hs = (
  pI s1 12 20 s0 (
    gI a0 12 20 fun v3 =>
    (if v3 ≤ 0 then
    gR a0 12 3 fun v4 =>
    gI a0 12 22 fun v5 =>
    stI v4 v5 a1 (
    gI a0 12 22 fun v6 =>
    pI a0 12 22 (v6 + (1 : Int32)) (
    gI a0 12 22 fun v7 =>
    rtn (v7 - (1 : Int32))))
    else
    rtn (0 : Int32)))) hs := rfl
theorem u_f_X9_addTeacher (a0 : Nat) (p1 : Int32) (hs : Hs) : f_X9_addTeacher a0 p1 hs = (
    call (f_X9_in p1 (0 : Int32) (31 : Int32)) (fun (v1 : Int32) =>
    (if ¬ v1 = 0 then
    gI (some a0) 12 22 fun v2 =>
    (if ¬ v2 = (8 : Int32) then
    j_X9_addTeacher_29 (some a0) p1 (0 : Int32) (some a0)
    else
    j_X9_addTeacher_29 (some a0) p1 (2 : Int32) (some a0))
    else
    j_X9_addTeacher_29 (some a0) p1 (1 : Int32) (some a0))) nox) hs := rfl
theorem u_j_X9_addGroup_29 (a0 : Option Nat) (a1 : Int32) (s0 : Int32) (s1 : Option Nat) (hs : Hs) : j_X9_addGroup_29 a0 a1 s0 s1 hs = (
  pI s1 12 20 s0 (
    gI a0 12 20 fun v3 =>
    (if v3 ≤ 0 then
    gR a0 12 5 fun v4 =>
    gI a0 12 23 fun v5 =>
    stI v4 v5 a1 (
    gI a0 12 23 fun v6 =>
    pI a0 12 23 (v6 + (1 : Int32)) (
    gI a0 12 23 fun v7 =>
    rtn (v7 - (1 : Int32))))
    else
    rtn (0 : Int32)))) hs := rfl
theorem u_f_X9_addGroup (a0 : Nat) (p1 : Int32) (hs : Hs) : f_X9_addGroup a0 p1 hs = (
    call (f_X9_in p1 (1 : Int32) (99 : Int32)) (fun (v1 : Int32) =>
    (if ¬ v1 = 0 then
    gI (some a0) 12 23 fun v2 =>
    (if ¬ v2 = (8 : Int32) then
    j_X9_addGroup_29 (some a0) p1 (0 : Int32) (some a0)
    else
    j_X9_addGroup_29 (some a0) p1 (2 : Int32) (some a0))
    else
    j_X9_addGroup_29 (some a0) p1 (1 : Int32) (some a0))) nox) hs := rfl
theorem u_j_X9_addLesson_69 (a0 : Option Nat) (a1 : Int32) (a2 : Int32) (a3 : Int32) (a4 : Int32) (a5 : Int32) (s0 : Int32) (s1 : Option Nat) (hs : Hs) : j_X9_addLesson_69 a0 a1 a2 a3 a4 a5 s0 s1 hs = (
  pI s1 12 20 s0 (
    gI a0 12 20 fun v2 =>
    (if v2 ≤ 0 then
    gR a0 12 9 fun v3 =>
    gI a0 12 24 fun v4 =>
    stI v3 v4 a1 (
    gR a0 12 10 fun v5 =>
    gI a0 12 24 fun v6 =>
    stI v5 v6 a2 (
    gR a0 12 11 fun v7 =>
    gI a0 12 24 fun v8 =>
    stI v7 v8 a3 (
    gR a0 12 12 fun v9 =>
    gI a0 12 24 fun v10 =>
    stI v9 v10 a4 (
    gR a0 12 13 fun v11 =>
    gI a0 12 24 fun v12 =>
    stI v11 v12 a5 (
    gR a0 12 14 fun v13 =>
    gI a0 12 24 fun v14 =>
    stI v13 v14 (-1 : Int32) (
    gI a0 12 24 fun v15 =>
    pI a0 12 24 (v15 + (1 : Int32)) (
    gI a0 12 24 fun v16 =>
    rtn (v16 - (1 : Int32)))))))))
    else
    rtn (0 : Int32)))) hs := rfl
theorem u_j_X9_addLesson_17 (a0 : Option Nat) (a1 : Int32) (a2 : Int32) (a3 : Int32) (a4 : Int32) (a5 : Int32) (s0 : Option Nat) (hs : Hs) : j_X9_addLesson_17 a0 a1 a2 a3 a4 a5 s0 hs = (
  j_X9_addLesson_69 a0 a1 a2 a3 a4 a5 (1 : Int32) s0) hs := rfl
theorem u_j_X9_addLesson_51 (a0 : Option Nat) (a1 : Int32) (a2 : Int32) (a3 : Int32) (a4 : Int32) (a5 : Int32) (s0 : Option Nat) (hs : Hs) : j_X9_addLesson_51 a0 a1 a2 a3 a4 a5 s0 hs = (
  j_X9_addLesson_69 a0 a1 a2 a3 a4 a5 (2 : Int32) s0) hs := rfl
theorem u_f_X9_addLesson (a0 : Nat) (p1 : Int32) (p2 : Int32) (p3 : Int32) (p4 : Int32) (p5 : Int32) (hs : Hs) : f_X9_addLesson a0 p1 p2 p3 p4 p5 hs = (
    rcv (some a0) 12 fun r23 => call (f_X9_isGroup r23 p1) (fun (v1 : Int32) =>
    (if v1 = 0 then
    j_X9_addLesson_17 (some a0) p1 p2 p3 p4 p5 (some a0)
    else
    rcv (some a0) 12 fun r22 => call (f_X9_isTeacher r22 p2) (fun (v17 : Int32) =>
    (if ¬ v17 = 0 then
    call (f_X9_in p3 (0 : Int32) (3 : Int32)) (fun (v18 : Int32) =>
    (if v18 = 0 then
    j_X9_addLesson_51 (some a0) p1 p2 p3 p4 p5 (some a0)
    else
    call (f_X9_in p4 (1 : Int32) (3 : Int32)) (fun (v19 : Int32) =>
    (if v19 = 0 then
    j_X9_addLesson_51 (some a0) p1 p2 p3 p4 p5 (some a0)
    else
    call (f_X9_in p5 (0 : Int32) (9 : Int32)) (fun (v20 : Int32) =>
    (if ¬ v20 = 0 then
    gI (some a0) 12 24 fun v21 =>
    (if ¬ v21 = (16 : Int32) then
    j_X9_addLesson_69 (some a0) p1 p2 p3 p4 p5 (0 : Int32) (some a0)
    else
    j_X9_addLesson_69 (some a0) p1 p2 p3 p4 p5 (3 : Int32) (some a0))
    else
    j_X9_addLesson_51 (some a0) p1 p2 p3 p4 p5 (some a0))) nox)) nox)) nox
    else
    j_X9_addLesson_17 (some a0) p1 p2 p3 p4 p5 (some a0))) nox)) nox) hs := rfl
theorem u_j_X9_setWish_35 (a0 : Option Nat) (a1 : Int32) (a2 : Int32) (a3 : Int32) (s0 : Int32) (s1 : Option Nat) (hs : Hs) : j_X9_setWish_35 a0 a1 a2 a3 s0 s1 hs = (
  pI s1 12 20 s0 (
    gI a0 12 20 fun v3 =>
    (if v3 ≤ 0 then
    gR a0 12 6 fun v4 =>
    ldI 0 v4 (((30 : Int32) * a1) + a2) fun v5 =>
    lets v5 fun (v6 : Int32) =>
    gR a0 12 6 fun v7 =>
    stI v7 (((30 : Int32) * a1) + a2) a3 (
    rtn v6)
    else
    rtn (0 : Int32)))) hs := rfl
theorem u_j_X9_setWish_30 (a0 : Option Nat) (a1 : Int32) (a2 : Int32) (a3 : Int32) (s0 : Option Nat) (hs : Hs) : j_X9_setWish_30 a0 a1 a2 a3 s0 hs = (
  j_X9_setWish_35 a0 a1 a2 a3 (2 : Int32) s0) hs := rfl
theorem u_f_X9_setWish (a0 : Nat) (p1 : Int32) (p2 : Int32) (p3 : Int32) (hs : Hs) : f_X9_setWish a0 p1 p2 p3 hs = (
    rcv (some a0) 12 fun r9 => call (f_X9_isTeacher r9 p1) (fun (v1 : Int32) =>
    (if ¬ v1 = 0 then
    call (f_X9_isSlot p2) (fun (v2 : Int32) =>
    (if v2 = 0 then
    j_X9_setWish_30 (some a0) p1 p2 p3 (some a0)
    else
    call (f_X9_in p3 (0 : Int32) (9 : Int32)) (fun (v8 : Int32) =>
    (if ¬ v8 = 0 then
    j_X9_setWish_35 (some a0) p1 p2 p3 (0 : Int32) (some a0)
    else
    j_X9_setWish_30 (some a0) p1 p2 p3 (some a0))) nox)) nox
    else
    j_X9_setWish_35 (some a0) p1 p2 p3 (1 : Int32) (some a0))) nox) hs := rfl
theorem u_j_X9_setWeight_25 (a0 : Option Nat) (a1 : Int32) (a2 : Int32) (s0 : Int32) (s1 : Option Nat) (hs : Hs) : j_X9_setWeight_25 a0 a1 a2 s0 s1 hs = (
  rcv s1 12 fun r7 => call (f_X9_checked r7 s0) (fun (v2 : Int32) =>
    (if v2 ≤ 0 then
    gR a0 12 15 fun v3 =>
    ldI 0 v3 a1 fun v4 =>
    lets v4 fun (v5 : Int32) =>
    gR a0 12 15 fun v6 =>
    stI v6 a1 a2 (
    rtn v5)
    else
    rtn (0 : Int32))) nox) hs := rfl
theorem u_j_X9_setWeight_24 (a0 : Option Nat) (a1 : Int32) (a2 : Int32) (s0 : Option Nat) (hs : Hs) : j_X9_setWeight_24 a0 a1 a2 s0 hs = (
  j_X9_setWeight_25 a0 a1 a2 (0 : Int32) s0) hs := rfl
theorem u_f_X9_setWeight (a0 : Nat) (p1 : Int32) (p2 : Int32) (hs : Hs) : f_X9_setWeight a0 p1 p2 hs = (
    call (f_X9_in p1 (0 : Int32) (3 : Int32)) (fun (v1 : Int32) =>
    (if v1 = 0 then
    j_X9_setWeight_24 (some a0) p1 p2 (some a0)
    else
    call (f_X9_in p2 (0 : Int32) (9 : Int32)) (fun (v8 : Int32) =>
    (if v8 = 0 then
    j_X9_setWeight_24 (some a0) p1 p2 (some a0)
    else
    j_X9_setWeight_25 (some a0) p1 p2 (1 : Int32) (some a0))) nox)) nox) hs := rfl
theorem u_f_X9_slotOf (a0 : Nat) (p1 : Int32) (hs : Hs) : f_X9_slotOf a0 p1 hs = (
    gR (some a0) 12 14 fun v1 =>
    ldI 0 v1 p1 fun v2 =>
    dvz (8 : Int32) (
    rtn (v2 / (8 : Int32)))) hs := rfl
theorem u_f_X9_endOf (a0 : Nat) (p1 : Int32) (hs : Hs) : f_X9_endOf a0 p1 hs = (
    rcv (some a0) 12 fun r4 => call (f_X9_slotOf r4 p1) (fun (v1 : Int32) =>
    gR (some a0) 12 12 fun v2 =>
    ldI 0 v2 p1 fun v3 =>
    rtn (v1 + v3)) nox) hs := rfl
theorem u_f_X9_isPlaced (a0 : Nat) (p1 : Int32) (hs : Hs) : f_X9_isPlaced a0 p1 hs = (
    gR (some a0) 12 14 fun v1 =>
    ldI 0 v1 p1 fun v2 =>
    (if v2 < 0 then
    retZ (0 : Int32)
    else
    retZ (1 : Int32))) hs := rfl
theorem u_f_X9_isPast (a0 : Nat) (p1 : Int32) (hs : Hs) : f_X9_isPast a0 p1 hs = (
    rcv (some a0) 12 fun r5 => call (f_X9_isPlaced r5 p1) (fun (v1 : Int32) =>
    (if v1 = 0 then
    retZ (0 : Int32)
    else
    rcv (some a0) 12 fun r4 => call (f_X9_slotOf r4 p1) (fun (v2 : Int32) =>
    dvz (6 : Int32) (
    gI (some a0) 12 26 fun v3 =>
    (if v3 ≤ (v2 / (6 : Int32)) then
    retZ (0 : Int32)
    else
    retZ (1 : Int32)))) nox)) nox) hs := rfl
theorem u_f_X9_endFrom (a0 : Nat) (p1 : Int32) (p2 : Int32) (hs : Hs) : f_X9_endFrom a0 p1 p2 hs = (
    gR (some a0) 12 12 fun v1 =>
    ldI 0 v1 p1 fun v2 =>
    lets (p2 + v2) fun (v3 : Int32) =>
    dvz (6 : Int32) (
    lets (((((6 : Int32) * (p2 / (6 : Int32)))) + (6 : Int32))) fun (v4 : Int32) =>
    (if v4 ≤ v3 then
    rtn v4
    else
    rtn v3))) hs := rfl
theorem u_f_X9_meets (a0 : Nat) (p1 : Int32) (p2 : Int32) (p3 : Int32) (hs : Hs) : f_X9_meets a0 p1 p2 p3 hs = (
    rcv (some a0) 12 fun r4 => call (f_X9_slotOf r4 p1) (fun (v1 : Int32) =>
    (if p3 ≤ v1 then
    retZ (0 : Int32)
    else
    rcv (some a0) 12 fun r3 => call (f_X9_endOf r3 p1) (fun (v2 : Int32) =>
    (if v2 ≤ p2 then
    retZ (0 : Int32)
    else
    retZ (1 : Int32))) nox)) nox) hs := rfl
theorem u_j_X9_touches_35 (hs : Hs) : j_X9_touches_35  hs = (
  retZ (1 : Int32)) hs := rfl
theorem u_f_X9_touches (a0 : Nat) (p1 : Int32) (p2 : Int32) (p3 : Int32) (hs : Hs) : f_X9_touches a0 p1 p2 p3 hs = (
    rcv (some a0) 12 fun r6 => call (f_X9_slotOf r6 p1) (fun (v1 : Int32) =>
    dvz (6 : Int32) (
    dvz (6 : Int32) (
    (if (v1 / (6 : Int32)) = (p2 / (6 : Int32)) then
    rcv (some a0) 12 fun r5 => call (f_X9_endOf r5 p1) (fun (v2 : Int32) =>
    (if v2 = p2 then
    j_X9_touches_35
    else
    rcv (some a0) 12 fun r4 => call (f_X9_slotOf r4 p1) (fun (v3 : Int32) =>
    (if ¬ v3 = p3 then
    retZ (0 : Int32)
    else
    j_X9_touches_35)) nox)) nox
    else
    retZ (0 : Int32))))) nox) hs := rfl
theorem u_j_X9_lettersBy_158 (a0 : Option Nat) (a1 : Int32) (a3 : Int32) (a4 : Int32) (a5 : Int32) (a7 : Int32) (s0 : Int32) (s1 : Int32) (hs : Hs) : j_X9_lettersBy_158 a0 a1 a3 a4 a5 a7 s0 s1 hs = (
  lets (s1 + s0) fun (v13 : Int32) =>
    (if a7 = 0 then
    rtn (v13 + (0 : Int32))
    else
    gR a0 12 0 fun v14 =>
    gR a0 12 14 fun v15 =>
    ldI 0 v15 a1 fun v16 =>
    dvz (8 : Int32) (
    ldI 0 v14 (irem v16 (8 : Int32)) fun v17 =>
    gR a0 12 0 fun v18 =>
    ldI 0 v18 a4 fun v19 =>
    (if v17 = v19 then
    rtn (v13 + (0 : Int32))
    else
    rcv a0 12 fun r21 => call (f_X9_touches r21 a1 a3 a5) (fun (v20 : Int32) =>
    (if v20 = 0 then
    rtn (v13 + (0 : Int32))
    else
    rtn (v13 + (512 : Int32)))) nox)))) hs := rfl
theorem u_j_X9_lettersBy_157 (a0 : Option Nat) (a1 : Int32) (a3 : Int32) (a4 : Int32) (a5 : Int32) (a7 : Int32) (s0 : Int32) (hs : Hs) : j_X9_lettersBy_157 a0 a1 a3 a4 a5 a7 s0 hs = (
  j_X9_lettersBy_158 a0 a1 a3 a4 a5 a7 (0 : Int32) s0) hs := rfl
theorem u_j_X9_lettersBy_126 (a0 : Option Nat) (a1 : Int32) (a2 : Int32) (a3 : Int32) (a4 : Int32) (a5 : Int32) (a6 : Int32) (a7 : Int32) (s0 : Int32) (s1 : Int32) (hs : Hs) : j_X9_lettersBy_126 a0 a1 a2 a3 a4 a5 a6 a7 s0 s1 hs = (
  lets (s1 + s0) fun (v12 : Int32) =>
    (if a6 = 0 then
    j_X9_lettersBy_157 a0 a1 a3 a4 a5 a7 v12
    else
    gR a0 12 9 fun v22 =>
    ldI 0 v22 a1 fun v23 =>
    gR a0 12 9 fun v24 =>
    ldI 0 v24 a2 fun v25 =>
    (if ¬ v23 = v25 then
    j_X9_lettersBy_157 a0 a1 a3 a4 a5 a7 v12
    else
    j_X9_lettersBy_158 a0 a1 a3 a4 a5 a7 (256 : Int32) v12))) hs := rfl
theorem u_j_X9_lettersBy_125 (a0 : Option Nat) (a1 : Int32) (a2 : Int32) (a3 : Int32) (a4 : Int32) (a5 : Int32) (a6 : Int32) (a7 : Int32) (s0 : Int32) (hs : Hs) : j_X9_lettersBy_125 a0 a1 a2 a3 a4 a5 a6 a7 s0 hs = (
  j_X9_lettersBy_126 a0 a1 a2 a3 a4 a5 a6 a7 (0 : Int32) s0) hs := rfl
theorem u_j_X9_lettersBy_95 (a0 : Option Nat) (a1 : Int32) (a2 : Int32) (a3 : Int32) (a4 : Int32) (a5 : Int32) (a6 : Int32) (a7 : Int32) (s0 : Int32) (hs : Hs) : j_X9_lettersBy_95 a0 a1 a2 a3 a4 a5 a6 a7 s0 hs = (
  lets s0 fun (v11 : Int32) =>
    (if a6 = 0 then
    j_X9_lettersBy_125 a0 a1 a2 a3 a4 a5 a6 a7 v11
    else
    gR a0 12 10 fun v26 =>
    ldI 0 v26 a1 fun v27 =>
    gR a0 12 10 fun v28 =>
    ldI 0 v28 a2 fun v29 =>
    (if ¬ v27 = v29 then
    j_X9_lettersBy_125 a0 a1 a2 a3 a4 a5 a6 a7 v11
    else
    j_X9_lettersBy_126 a0 a1 a2 a3 a4 a5 a6 a7 (128 : Int32) v11))) hs := rfl
theorem u_j_X9_lettersBy_94 (a0 : Option Nat) (a1 : Int32) (a2 : Int32) (a3 : Int32) (a4 : Int32) (a5 : Int32) (a6 : Int32) (a7 : Int32) (hs : Hs) : j_X9_lettersBy_94 a0 a1 a2 a3 a4 a5 a6 a7 hs = (
  j_X9_lettersBy_95 a0 a1 a2 a3 a4 a5 a6 a7 (0 : Int32)) hs := rfl
theorem u_j_X9_lettersBy_68 (a0 : Option Nat) (a1 : Int32) (a2 : Int32) (a3 : Int32) (a4 : Int32) (a5 : Int32) (a6 : Int32) (s0 : Int32) (hs : Hs) : j_X9_lettersBy_68 a0 a1 a2 a3 a4 a5 a6 s0 hs = (
  lets s0 fun (v10 : Int32) =>
    (if a6 = 0 then
    j_X9_lettersBy_94 a0 a1 a2 a3 a4 a5 a6 v10
    else
    gR a0 12 14 fun v30 =>
    ldI 0 v30 a1 fun v31 =>
    dvz (8 : Int32) (
    (if ¬ (irem v31 (8 : Int32)) = a4 then
    j_X9_lettersBy_94 a0 a1 a2 a3 a4 a5 a6 v10
    else
    j_X9_lettersBy_95 a0 a1 a2 a3 a4 a5 a6 v10 (64 : Int32))))) hs := rfl
theorem u_j_X9_lettersBy_63 (a0 : Option Nat) (a1 : Int32) (a2 : Int32) (a3 : Int32) (a4 : Int32) (a5 : Int32) (a6 : Int32) (hs : Hs) : j_X9_lettersBy_63 a0 a1 a2 a3 a4 a5 a6 hs = (
  j_X9_lettersBy_68 a0 a1 a2 a3 a4 a5 a6 (1 : Int32)) hs := rfl
theorem u_f_X9_lettersBy (a0 : Nat) (p1 : Int32) (p2 : Int32) (p3 : Int32) (p4 : Int32) (hs : Hs) : f_X9_lettersBy a0 p1 p2 p3 p4 hs = (
    (if p1 = p2 then
    rtn (0 : Int32)
    else
    rcv (some a0) 12 fun r38 => call (f_X9_isPlaced r38 p1) (fun (v1 : Int32) =>
    (if ¬ v1 = 0 then
    rcv (some a0) 12 fun r37 => call (f_X9_endFrom r37 p2 p3) (fun (v2 : Int32) =>
    lets v2 fun (v3 : Int32) =>
    rcv (some a0) 12 fun r36 => call (f_X9_meets r36 p1 p3 v3) (fun (v4 : Int32) =>
    lets v4 fun (v5 : Int32) =>
    gR (some a0) 12 10 fun v6 =>
    ldI 0 v6 p1 fun v7 =>
    gR (some a0) 12 10 fun v8 =>
    ldI 0 v8 p2 fun v9 =>
    (if v7 = v9 then
    j_X9_lettersBy_63 (some a0) p1 p2 p3 p4 v3 v5
    else
    gR (some a0) 12 9 fun v32 =>
    ldI 0 v32 p1 fun v33 =>
    gR (some a0) 12 9 fun v34 =>
    ldI 0 v34 p2 fun v35 =>
    (if ¬ v33 = v35 then
    j_X9_lettersBy_68 (some a0) p1 p2 p3 p4 v3 v5 (0 : Int32)
    else
    j_X9_lettersBy_63 (some a0) p1 p2 p3 p4 v3 v5))) nox) nox
    else
    rtn (0 : Int32))) nox)) hs := rfl
theorem u_j_X9_plainLetters_132 (a0 : Option Nat) (a3 : Int32) (s0 : Int32) (s1 : Int32) (hs : Hs) : j_X9_plainLetters_132 a0 a3 s0 s1 hs = (
  lets (s1 + s0) fun (v23 : Int32) =>
    gR a0 12 7 fun v24 =>
    ldI 1 v24 a3 fun v25 =>
    (if v25 = 0 then
    rtn (v23 + (0 : Int32))
    else
    rtn (v23 + (32 : Int32)))) hs := rfl
theorem u_j_X9_plainLetters_101 (a0 : Option Nat) (a1 : Int32) (a3 : Int32) (s0 : Int32) (s1 : Int32) (hs : Hs) : j_X9_plainLetters_101 a0 a1 a3 s0 s1 hs = (
  lets (s1 + s0) fun (v16 : Int32) =>
    gR a0 12 2 fun v17 =>
    ldI 0 v17 a3 fun v18 =>
    gR a0 12 5 fun v19 =>
    gR a0 12 9 fun v20 =>
    ldI 0 v20 a1 fun v21 =>
    ldI 0 v19 v21 fun v22 =>
    (if v22 ≤ v18 then
    j_X9_plainLetters_132 a0 a3 (0 : Int32) v16
    else
    j_X9_plainLetters_132 a0 a3 (16 : Int32) v16)) hs := rfl
theorem u_j_X9_plainLetters_75 (a0 : Option Nat) (a1 : Int32) (a3 : Int32) (s0 : Int32) (s1 : Int32) (hs : Hs) : j_X9_plainLetters_75 a0 a1 a3 s0 s1 hs = (
  lets (s1 + s0) fun (v11 : Int32) =>
    gR a0 12 1 fun v12 =>
    ldI 0 v12 a3 fun v13 =>
    gR a0 12 11 fun v14 =>
    ldI 0 v14 a1 fun v15 =>
    (if v13 = v15 then
    j_X9_plainLetters_101 a0 a1 a3 (0 : Int32) v11
    else
    j_X9_plainLetters_101 a0 a1 a3 (8 : Int32) v11)) hs := rfl
theorem u_j_X9_plainLetters_45 (a0 : Option Nat) (a1 : Int32) (a3 : Int32) (a4 : Int32) (s0 : Int32) (s1 : Int32) (hs : Hs) : j_X9_plainLetters_45 a0 a1 a3 a4 s0 s1 hs = (
  lets (s1 + s0) fun (v6 : Int32) =>
    gR a0 12 3 fun v7 =>
    gR a0 12 10 fun v8 =>
    ldI 0 v8 a1 fun v9 =>
    ldI 0 v7 v9 fun v10 =>
    dvz (2 : Int32) (
    (if ¬ ((irem (v10 >>> (a4 &&& 31)) (2 : Int32))) = (1 : Int32) then
    j_X9_plainLetters_75 a0 a1 a3 (0 : Int32) v6
    else
    j_X9_plainLetters_75 a0 a1 a3 (4 : Int32) v6))) hs := rfl
theorem u_j_X9_plainLetters_27 (a0 : Option Nat) (a1 : Int32) (a3 : Int32) (a4 : Int32) (s0 : Int32) (hs : Hs) : j_X9_plainLetters_27 a0 a1 a3 a4 s0 hs = (
  lets s0 fun (v4 : Int32) =>
    gI a0 12 26 fun v5 =>
    (if v5 ≤ a4 then
    j_X9_plainLetters_45 a0 a1 a3 a4 (0 : Int32) v4
    else
    j_X9_plainLetters_45 a0 a1 a3 a4 (2 : Int32) v4)) hs := rfl
theorem u_f_X9_plainLetters (a0 : Nat) (p1 : Int32) (p2 : Int32) (p3 : Int32) (hs : Hs) : f_X9_plainLetters a0 p1 p2 p3 hs = (
    dvz (6 : Int32) (
    lets (p2 / (6 : Int32)) fun (v1 : Int32) =>
    dvz (6 : Int32) (
    gR (some a0) 12 12 fun v2 =>
    ldI 0 v2 p1 fun v3 =>
    (if ((irem p2 (6 : Int32)) + v3) ≤ (6 : Int32) then
    j_X9_plainLetters_27 (some a0) p1 p3 v1 (0 : Int32)
    else
    j_X9_plainLetters_27 (some a0) p1 p3 v1 (1 : Int32))))) hs := rfl
theorem u_f_X9_both (p0 : Int32) (p1 : Int32) (hs : Hs) : f_X9_both p0 p1 hs = (
    rtn (p0 ||| p1)) hs := rfl
theorem u_f_X9_letters (a0 : Nat) (p1 : Int32) (p2 : Int32) (p3 : Int32) (hs : Hs) : f_X9_letters a0 p1 p2 p3 hs = (
    rcv (some a0) 12 fun r11 => call (f_X9_plainLetters r11 p1 p2 p3) (fun (v1 : Int32) =>
    lets v1 fun (v2 : Int32) =>
    lets (0 : Int32) fun (v3 : Int32) =>
    L_X9_letters_12 (some a0) p1 p2 p3 (fun (v10 : Int32) => rtn v10) 100000 v2 v3) nox) hs := rfl
theorem u_f_X9_isPossible (a0 : Nat) (p1 : Int32) (p2 : Int32) (hs : Hs) : f_X9_isPossible a0 p1 p2 hs = (
    dvz (8 : Int32) (
    gI (some a0) 12 21 fun v1 =>
    (if v1 ≤ (irem p2 (8 : Int32)) then
    retZ (0 : Int32)
    else
    dvz (8 : Int32) (
    dvz (8 : Int32) (
    rcv (some a0) 12 fun r3 => call (f_X9_letters r3 p1 (p2 / (8 : Int32)) (irem p2 (8 : Int32))) (fun (v2 : Int32) =>
    (if ¬ v2 = 0 then
    retZ (0 : Int32)
    else
    retZ (1 : Int32))) nox))))) hs := rfl
theorem u_j_X9_wrongPlace_27 (hs : Hs) : j_X9_wrongPlace_27  hs = (
  rtn (2 : Int32)) hs := rfl
theorem u_f_X9_wrongPlace (a0 : Nat) (p1 : Int32) (p2 : Int32) (p3 : Int32) (hs : Hs) : f_X9_wrongPlace a0 p1 p2 p3 hs = (
    rcv (some a0) 12 fun r5 => call (f_X9_isLesson r5 p1) (fun (v1 : Int32) =>
    (if ¬ v1 = 0 then
    call (f_X9_isSlot p2) (fun (v2 : Int32) =>
    (if v2 = 0 then
    j_X9_wrongPlace_27
    else
    rcv (some a0) 12 fun r4 => call (f_X9_isRoom r4 p3) (fun (v3 : Int32) =>
    (if ¬ v3 = 0 then
    rtn (0 : Int32)
    else
    j_X9_wrongPlace_27)) nox)) nox
    else
    rtn (1 : Int32))) nox) hs := rfl
theorem u_f_X9_letter (p0 : Int32) (hs : Hs) : f_X9_letter p0 hs = (
    (if (5 : Int32) ≤ p0 then
    (if ¬ p0 = (5 : Int32) then
    (if ¬ p0 = (6 : Int32) then
    (if ¬ p0 = (7 : Int32) then
    (if ¬ p0 = (8 : Int32) then
    retC (118 : Int32)
    else
    retC (103 : Int32))
    else
    retC (116 : Int32))
    else
    retC (114 : Int32))
    else
    retC (99 : Int32))
    else
    (if ¬ p0 = 0 then
    (if ¬ p0 = (1 : Int32) then
    (if ¬ p0 = (2 : Int32) then
    (if ¬ p0 = (3 : Int32) then
    retC (115 : Int32)
    else
    retC (107 : Int32))
    else
    retC (111 : Int32))
    else
    retC (112 : Int32))
    else
    retC (104 : Int32)))) hs := rfl
theorem u_f_X9_reason (a0 : Nat) (p1 : Int32) (p2 : Int32) (p3 : Int32) (hs : Hs) : f_X9_reason a0 p1 p2 p3 hs = (
    rcv (some a0) 12 fun r10 => call (f_X9_wrongPlace r10 p1 p2 p3) (fun (v1 : Int32) =>
    pI (some a0) 12 20 v1 (
    gI (some a0) 12 20 fun v2 =>
    (if v2 ≤ 0 then
    rcv (some a0) 12 fun r9 => call (f_X9_letters r9 p1 p2 p3) (fun (v3 : Int32) =>
    lets v3 fun (v4 : Int32) =>
    lets (0 : Int32) fun (v5 : Int32) =>
    L_X9_reason_33 v4 (fun (v7 : Int32) => call (f_X9_letter v7) (fun (v8 : Int32) =>
    retC v8) nox) (retC (45 : Int32)) 100000 v5) nox
    else
    retC (32 : Int32)))) nox) hs := rfl
theorem u_f_X9_manyBits (p0 : Int32) (hs : Hs) : f_X9_manyBits p0 hs = (
    lets (0 : Int32) fun (v1 : Int32) =>
    lets p0 fun (v2 : Int32) =>
    L_X9_manyBits_4 (fun (v5 : Int32) => rtn v5) 100000 v1 v2) hs := rfl
theorem u_f_X9_barsAll (a0 : Nat) (p1 : Int32) (p2 : Int32) (p3 : Int32) (hs : Hs) : f_X9_barsAll a0 p1 p2 p3 hs = (
    lets (0 : Int32) fun (v1 : Int32) =>
    L_X9_barsAll_3 (some a0) p1 p2 p3 (retZ (0 : Int32)) (retZ (1 : Int32)) 100000 v1) hs := rfl
theorem u_f_X9_isOpenAt (a0 : Nat) (p1 : Int32) (p2 : Int32) (hs : Hs) : f_X9_isOpenAt a0 p1 p2 hs = (
    lets (0 : Int32) fun (v1 : Int32) =>
    L_X9_isOpenAt_2 (some a0) p1 p2 (retZ (1 : Int32)) (retZ (0 : Int32)) 100000 v1) hs := rfl
theorem u_j_X9_reasons_90 (a0 : Option Nat) (a1 : Int32) (a2 : Int32) (a3 : Int32) (a4 : Int32)  (rec_59 : Int32 → Int32 → OO Int32) (hs : Hs) : j_X9_reasons_90 a0 a1 a2 a3 a4 rec_59 hs = (
  lets (a4 + (-1 : Int32)) fun (v8 : Int32) =>
    rec_59 a3 v8) hs := rfl
theorem u_j_X9_reasons_38 (a0 : Option Nat) (a1 : Int32) (a2 : Int32) (s0 : Int32) (s1 : Option Nat) (hs : Hs) : j_X9_reasons_38 a0 a1 a2 s0 s1 hs = (
  pI s1 12 20 s0 (
    gI a0 12 20 fun v4 =>
    (if v4 ≤ 0 then
    lets (1023 : Int32) fun (v5 : Int32) =>
    lets (1022 : Int32) fun (v6 : Int32) =>
    L_X9_reasons_59 a0 a1 a2 (fun (v13 : Int32) => rtn v13) 100000 v5 v6
    else
    rtn (0 : Int32)))) hs := rfl
theorem u_f_X9_reasons (a0 : Nat) (p1 : Int32) (p2 : Int32) (hs : Hs) : f_X9_reasons a0 p1 p2 hs = (
    rcv (some a0) 12 fun r15 => call (f_X9_isLesson r15 p1) (fun (v1 : Int32) =>
    (if ¬ v1 = 0 then
    call (f_X9_isSlot p2) (fun (v2 : Int32) =>
    (if ¬ v2 = 0 then
    rcv (some a0) 12 fun r14 => call (f_X9_isOpenAt r14 p1 p2) (fun (v3 : Int32) =>
    (if v3 = 0 then
    j_X9_reasons_38 (some a0) p1 p2 (0 : Int32) (some a0)
    else
    j_X9_reasons_38 (some a0) p1 p2 (3 : Int32) (some a0))) nox
    else
    j_X9_reasons_38 (some a0) p1 p2 (2 : Int32) (some a0))) nox
    else
    j_X9_reasons_38 (some a0) p1 p2 (1 : Int32) (some a0))) nox) hs := rfl
theorem u_f_X9_hasAt (a0 : Nat) (p1 : Int32) (p2 : Int32) (hs : Hs) : f_X9_hasAt a0 p1 p2 hs = (
    rcv (some a0) 12 fun r7 => call (f_X9_isPlaced r7 p1) (fun (v1 : Int32) =>
    (if v1 = 0 then
    retZ (0 : Int32)
    else
    rcv (some a0) 12 fun r6 => call (f_X9_slotOf r6 p1) (fun (v2 : Int32) =>
    rcv (some a0) 12 fun r5 => call (f_X9_endOf r5 p1) (fun (v3 : Int32) =>
    call (f_X9_in p2 v2 (v3 - (1 : Int32))) (fun (v4 : Int32) =>
    (if v4 = 0 then
    retZ (0 : Int32)
    else
    retZ (1 : Int32))) nox) nox) nox)) nox) hs := rfl
theorem u_j_X9_isBusy_31 (a0 : Option Nat) (a1 : Int32) (a2 : Int32) (a3 : Int32)  (rec_2 : Int32 → OO Int32) (hs : Hs) : j_X9_isBusy_31 a0 a1 a2 a3 rec_2 hs = (
  lets (a3 + (1 : Int32)) fun (v5 : Int32) =>
    rec_2 v5) hs := rfl
theorem u_f_X9_isBusy (a0 : Nat) (p1 : Int32) (p2 : Int32) (hs : Hs) : f_X9_isBusy a0 p1 p2 hs = (
    lets (0 : Int32) fun (v1 : Int32) =>
    L_X9_isBusy_2 (some a0) p1 p2 (retZ (1 : Int32)) (retZ (0 : Int32)) 100000 v1) hs := rfl
theorem u_j_X9_gapsOn_61 (a0 : Option Nat) (a1 : Int32) (a2 : Int32) (a3 : Int32) (a4 : Int32) (a5 : Int32)  (rec_11 : Int32 → Int32 → Int32 → OO Int32) (hs : Hs) : j_X9_gapsOn_61 a0 a1 a2 a3 a4 a5 rec_11 hs = (
  lets (a5 + (1 : Int32)) fun (v5 : Int32) =>
    rec_11 a3 a4 v5) hs := rfl
theorem u_j_X9_gapsOn_45 (a0 : Option Nat) (a1 : Int32) (a2 : Int32) (a5 : Int32) (s0 : Int32) (s1 : Int32) (rec_11 : Int32 → Int32 → Int32 → OO Int32) (hs : Hs) : j_X9_gapsOn_45 a0 a1 a2 a5 s0 s1 rec_11 hs = (
  lets (s1 + s0) fun (v7 : Int32) =>
    lets (0 : Int32) fun (v8 : Int32) =>
    j_X9_gapsOn_61 a0 a1 a2 v7 v8 a5 rec_11) hs := rfl
theorem u_f_X9_gapsOn (a0 : Nat) (p1 : Int32) (p2 : Int32) (hs : Hs) : f_X9_gapsOn a0 p1 p2 hs = (
    lets (0 : Int32) fun (v1 : Int32) =>
    lets (-1 : Int32) fun (v2 : Int32) =>
    lets ((6 : Int32) * p2) fun (v3 : Int32) =>
    L_X9_gapsOn_11 (some a0) p1 p2 (fun (v10 : Int32) => rtn v10) 100000 v1 v2 v3) hs := rfl
theorem u_f_X9_isLate (a0 : Nat) (p1 : Int32) (hs : Hs) : f_X9_isLate a0 p1 hs = (
    rcv (some a0) 12 fun r4 => call (f_X9_isPlaced r4 p1) (fun (v1 : Int32) =>
    (if v1 = 0 then
    retZ (0 : Int32)
    else
    rcv (some a0) 12 fun r3 => call (f_X9_endOf r3 p1) (fun (v2 : Int32) =>
    dvz (6 : Int32) (
    (if ¬ (irem v2 (6 : Int32)) = 0 then
    retZ (0 : Int32)
    else
    retZ (1 : Int32)))) nox)) nox) hs := rfl
theorem u_f_X9_isCrowd (a0 : Nat) (p1 : Int32) (p2 : Int32) (hs : Hs) : f_X9_isCrowd a0 p1 p2 hs = (
    rcv (some a0) 12 fun r16 => call (f_X9_isPlaced r16 p1) (fun (v1 : Int32) =>
    (if v1 = 0 then
    retZ (0 : Int32)
    else
    rcv (some a0) 12 fun r15 => call (f_X9_isPlaced r15 p2) (fun (v2 : Int32) =>
    (if v2 = 0 then
    retZ (0 : Int32)
    else
    gR (some a0) 12 9 fun v3 =>
    ldI 0 v3 p1 fun v4 =>
    gR (some a0) 12 9 fun v5 =>
    ldI 0 v5 p2 fun v6 =>
    (if ¬ v4 = v6 then
    retZ (0 : Int32)
    else
    gR (some a0) 12 13 fun v7 =>
    ldI 0 v7 p1 fun v8 =>
    gR (some a0) 12 13 fun v9 =>
    ldI 0 v9 p2 fun v10 =>
    (if ¬ v8 = v10 then
    retZ (0 : Int32)
    else
    rcv (some a0) 12 fun r14 => call (f_X9_slotOf r14 p1) (fun (v11 : Int32) =>
    dvz (6 : Int32) (
    rcv (some a0) 12 fun r13 => call (f_X9_slotOf r13 p2) (fun (v12 : Int32) =>
    dvz (6 : Int32) (
    (if ¬ (v11 / (6 : Int32)) = (v12 / (6 : Int32)) then
    retZ (0 : Int32)
    else
    retZ (1 : Int32)))) nox)) nox)))) nox)) nox) hs := rfl
theorem u_j_X9_amountOf_78 (a0 : Option Nat) (a1 : Int32) (a3 : Int32) (s0 : Int32) (s1 : Int32) (rec_39 : Int32 → Int32 → OO Int32) (hs : Hs) : j_X9_amountOf_78 a0 a1 a3 s0 s1 rec_39 hs = (
  lets (s1 + s0) fun (v12 : Int32) =>
    lets (a3 + (1 : Int32)) fun (v13 : Int32) =>
    rec_39 v12 v13) hs := rfl
theorem u_j_X9_amountOf_155 (a0 : Option Nat) (a1 : Int32) (a2 : Int32) (a3 : Int32)  (rec_88 : Int32 → Int32 → OO Int32) (hs : Hs) : j_X9_amountOf_155 a0 a1 a2 a3 rec_88 hs = (
  lets (a3 + (1 : Int32)) fun (v36 : Int32) =>
    rec_88 a2 v36) hs := rfl
theorem u_j_X9_amountOf_201 (a0 : Option Nat) (a1 : Int32) (a3 : Int32) (a4 : Int32) (s0 : Int32) (s1 : Int32) (rec_179 : Int32 → Int32 → OO Int32) (hs : Hs) : j_X9_amountOf_201 a0 a1 a3 a4 s0 s1 rec_179 hs = (
  lets (s1 + s0) fun (v42 : Int32) =>
    lets (a4 + (1 : Int32)) fun (v43 : Int32) =>
    rec_179 v42 v43) hs := rfl
theorem u_j_X9_amountOf_161 (a0 : Option Nat) (a1 : Int32) (a2 : Int32) (hs : Hs) : j_X9_amountOf_161 a0 a1 a2 hs = (
  lets (0 : Int32) fun (v38 : Int32) =>
    L_X9_amountOf_163 a0 a1 (fun (v47 : Int32) => rtn v47) 100000 a2 v38) hs := rfl
theorem u_j_X9_amountOf_86 (a0 : Option Nat) (a1 : Int32) (a2 : Int32) (hs : Hs) : j_X9_amountOf_86 a0 a1 a2 hs = (
  lets (0 : Int32) fun (v20 : Int32) =>
    L_X9_amountOf_88 a0 a1 (fun (v37 : Int32) => j_X9_amountOf_161 a0 a1 v37) 100000 a2 v20) hs := rfl
theorem u_j_X9_amountOf_37 (a0 : Option Nat) (a1 : Int32) (a2 : Int32) (hs : Hs) : j_X9_amountOf_37 a0 a1 a2 hs = (
  lets (0 : Int32) fun (v9 : Int32) =>
    L_X9_amountOf_39 a0 a1 (fun (v19 : Int32) => j_X9_amountOf_86 a0 a1 v19) 100000 a2 v9) hs := rfl
theorem u_f_X9_amountOf (a0 : Nat) (p1 : Int32) (hs : Hs) : f_X9_amountOf a0 p1 hs = (
    lets (0 : Int32) fun (v1 : Int32) =>
    lets (0 : Int32) fun (v2 : Int32) =>
    L_X9_amountOf_4 (some a0) p1 (fun (v8 : Int32) => j_X9_amountOf_37 (some a0) p1 v8) 100000 v1 v2) hs := rfl
theorem u_j_X9_costNow_35 (a0 : Option Nat) (a2 : Int32) (s0 : Int32) (s1 : Int32) (rec_4 : Int32 → Int32 → OO Int32) (hs : Hs) : j_X9_costNow_35 a0 a2 s0 s1 rec_4 hs = (
  lets (s1 + s0) fun (v5 : Int32) =>
    lets (a2 + (1 : Int32)) fun (v6 : Int32) =>
    rec_4 v5 v6) hs := rfl
theorem u_f_X9_costNow (a0 : Nat) (hs : Hs) : f_X9_costNow a0 hs = (
    lets (0 : Int32) fun (v1 : Int32) =>
    lets (0 : Int32) fun (v2 : Int32) =>
    L_X9_costNow_4 (some a0) (fun (v11 : Int32) => rtn v11) 100000 v1 v2) hs := rfl
theorem u_f_X9_costAt (a0 : Nat) (p1 : Int32) (p2 : Int32) (hs : Hs) : f_X9_costAt a0 p1 p2 hs = (
    gR (some a0) 12 14 fun v1 =>
    ldI 0 v1 p1 fun v2 =>
    lets v2 fun (v3 : Int32) =>
    gR (some a0) 12 14 fun v4 =>
    stI v4 p1 p2 (
    rcv (some a0) 12 fun r8 => call (f_X9_costNow r8 ) (fun (v5 : Int32) =>
    lets v5 fun (v6 : Int32) =>
    gR (some a0) 12 14 fun v7 =>
    stI v7 p1 v3 (
    rtn v6)) nox)) hs := rfl
theorem u_j_X9_manyPossible_26 (a0 : Option Nat) (a1 : Int32) (a3 : Int32) (s0 : Int32) (s1 : Int32) (rec_4 : Int32 → Int32 → OO Int32) (hs : Hs) : j_X9_manyPossible_26 a0 a1 a3 s0 s1 rec_4 hs = (
  lets (s1 + s0) fun (v4 : Int32) =>
    lets (a3 + (1 : Int32)) fun (v5 : Int32) =>
    rec_4 v4 v5) hs := rfl
theorem u_f_X9_manyPossible (a0 : Nat) (p1 : Int32) (hs : Hs) : f_X9_manyPossible a0 p1 hs = (
    lets (0 : Int32) fun (v1 : Int32) =>
    lets (0 : Int32) fun (v2 : Int32) =>
    L_X9_manyPossible_4 (some a0) p1 (fun (v7 : Int32) => rtn v7) 100000 v1 v2) hs := rfl
theorem u_j_X9_cheapestOf_56 (a0 : Option Nat) (a1 : Int32) (a2 : Int32) (a3 : Int32) (a4 : Int32)  (rec_7 : Int32 → Int32 → Int32 → OO Int32) (hs : Hs) : j_X9_cheapestOf_56 a0 a1 a2 a3 a4 rec_7 hs = (
  lets (a4 + (1 : Int32)) fun (v9 : Int32) =>
    rec_7 a2 a3 v9) hs := rfl
theorem u_j_X9_cheapestOf_50 (a0 : Option Nat) (a1 : Int32) (a4 : Int32) (a5 : Int32)  (rec_7 : Int32 → Int32 → Int32 → OO Int32) (hs : Hs) : j_X9_cheapestOf_50 a0 a1 a4 a5 rec_7 hs = (
  lets a4 fun (v7 : Int32) =>
    lets a5 fun (v8 : Int32) =>
    j_X9_cheapestOf_56 a0 a1 v7 v8 a4 rec_7) hs := rfl
theorem u_f_X9_cheapestOf (a0 : Nat) (p1 : Int32) (hs : Hs) : f_X9_cheapestOf a0 p1 hs = (
    lets (-1 : Int32) fun (v1 : Int32) =>
    lets (0 : Int32) fun (v2 : Int32) =>
    lets (0 : Int32) fun (v3 : Int32) =>
    L_X9_cheapestOf_7 (some a0) p1 (fun (v12 : Int32) => rtn v12) 100000 v1 v2 v3) hs := rfl
theorem u_j_X9_hardestOf_53 (a0 : Option Nat) (a1 : Option Nat) (a2 : Int32) (a3 : Int32) (a4 : Int32)  (rec_7 : Int32 → Int32 → Int32 → OO Int32) (hs : Hs) : j_X9_hardestOf_53 a0 a1 a2 a3 a4 rec_7 hs = (
  lets (a4 + (1 : Int32)) fun (v10 : Int32) =>
    rec_7 a2 a3 v10) hs := rfl
theorem u_j_X9_hardestOf_47 (a0 : Option Nat) (a1 : Option Nat) (a4 : Int32) (a5 : Int32)  (rec_7 : Int32 → Int32 → Int32 → OO Int32) (hs : Hs) : j_X9_hardestOf_47 a0 a1 a4 a5 rec_7 hs = (
  lets a4 fun (v8 : Int32) =>
    lets a5 fun (v9 : Int32) =>
    j_X9_hardestOf_53 a0 a1 v8 v9 a4 rec_7) hs := rfl
theorem u_f_X9_hardestOf (a0 : Nat) (p1 : Option Nat) (hs : Hs) : f_X9_hardestOf a0 p1 hs = (
    lets (-1 : Int32) fun (v1 : Int32) =>
    lets (0 : Int32) fun (v2 : Int32) =>
    lets (0 : Int32) fun (v3 : Int32) =>
    L_X9_hardestOf_7 (some a0) p1 (fun (v12 : Int32) => rtn v12) 100000 v1 v2 v3) hs := rfl
theorem u_j_X9_place_58 (a0 : Option Nat) (a1 : Int32) (a2 : Int32) (a3 : Int32) (hs : Hs) : j_X9_place_58 a0 a1 a2 a3 hs = (
  gI a0 12 20 fun v3 =>
    (if v3 ≤ 0 then
    gR a0 12 14 fun v4 =>
    stI v4 a1 (((8 : Int32) * a2) + a3) (
    rcv a0 12 fun r6 => call (f_X9_costNow r6 ) (fun (v5 : Int32) =>
    rtn v5) nox)
    else
    rtn (0 : Int32))) hs := rfl
theorem u_j_X9_place_55 (a0 : Option Nat) (a1 : Int32) (a2 : Int32) (a3 : Int32) (s0 : Int32) (s1 : Option Nat) (hs : Hs) : j_X9_place_55 a0 a1 a2 a3 s0 s1 hs = (
  pI s1 12 20 s0 (
    j_X9_place_58 a0 a1 a2 a3)) hs := rfl
theorem u_j_X9_place_36 (a0 : Option Nat) (a1 : Int32) (a2 : Int32) (a3 : Int32) (s0 : Option Nat) (hs : Hs) : j_X9_place_36 a0 a1 a2 a3 s0 hs = (
  j_X9_place_55 a0 a1 a2 a3 (3 : Int32) s0) hs := rfl
theorem u_f_X9_place (a0 : Nat) (p1 : Int32) (p2 : Int32) (p3 : Int32) (hs : Hs) : f_X9_place a0 p1 p2 p3 hs = (
    rcv (some a0) 12 fun r13 => call (f_X9_wrongPlace r13 p1 p2 p3) (fun (v1 : Int32) =>
    pI (some a0) 12 20 v1 (
    gI (some a0) 12 20 fun v2 =>
    (if ¬ v2 = 0 then
    j_X9_place_58 (some a0) p1 p2 p3
    else
    gR (some a0) 12 8 fun v7 =>
    ldI 1 v7 p1 fun v8 =>
    (if ¬ v8 = 0 then
    j_X9_place_36 (some a0) p1 p2 p3 (some a0)
    else
    rcv (some a0) 12 fun r12 => call (f_X9_isPast r12 p1) (fun (v9 : Int32) =>
    (if v9 = 0 then
    rcv (some a0) 12 fun r11 => call (f_X9_letters r11 p1 p2 p3) (fun (v10 : Int32) =>
    (if v10 ≤ 0 then
    j_X9_place_55 (some a0) p1 p2 p3 (0 : Int32) (some a0)
    else
    j_X9_place_55 (some a0) p1 p2 p3 (4 : Int32) (some a0))) nox
    else
    j_X9_place_36 (some a0) p1 p2 p3 (some a0))) nox)))) nox) hs := rfl
theorem u_j_X9_wrongFree_37 (hs : Hs) : j_X9_wrongFree_37  hs = (
  rtn (2 : Int32)) hs := rfl
theorem u_f_X9_wrongFree (a0 : Nat) (p1 : Int32) (hs : Hs) : f_X9_wrongFree a0 p1 hs = (
    rcv (some a0) 12 fun r8 => call (f_X9_isLesson r8 p1) (fun (v1 : Int32) =>
    (if ¬ v1 = 0 then
    rcv (some a0) 12 fun r7 => call (f_X9_isPlaced r7 p1) (fun (v2 : Int32) =>
    (if v2 = 0 then
    j_X9_wrongFree_37
    else
    gR (some a0) 12 8 fun v3 =>
    ldI 1 v3 p1 fun v4 =>
    (if ¬ v4 = 0 then
    j_X9_wrongFree_37
    else
    rcv (some a0) 12 fun r6 => call (f_X9_isPast r6 p1) (fun (v5 : Int32) =>
    (if v5 = 0 then
    rtn (0 : Int32)
    else
    j_X9_wrongFree_37)) nox))) nox
    else
    rtn (1 : Int32))) nox) hs := rfl
theorem u_f_X9_remove (a0 : Nat) (p1 : Int32) (hs : Hs) : f_X9_remove a0 p1 hs = (
    rcv (some a0) 12 fun r6 => call (f_X9_wrongFree r6 p1) (fun (v1 : Int32) =>
    pI (some a0) 12 20 v1 (
    gI (some a0) 12 20 fun v2 =>
    (if v2 ≤ 0 then
    gR (some a0) 12 14 fun v3 =>
    stI v3 p1 (-1 : Int32) (
    rcv (some a0) 12 fun r5 => call (f_X9_costNow r5 ) (fun (v4 : Int32) =>
    rtn v4) nox)
    else
    rtn (0 : Int32)))) nox) hs := rfl
theorem u_j_X9_manyLocked_27 (a0 : Option Nat) (a2 : Int32) (s0 : Int32) (s1 : Int32) (rec_4 : Int32 → Int32 → OO Int32) (hs : Hs) : j_X9_manyLocked_27 a0 a2 s0 s1 rec_4 hs = (
  lets (s1 + s0) fun (v6 : Int32) =>
    lets (a2 + (1 : Int32)) fun (v7 : Int32) =>
    rec_4 v6 v7) hs := rfl
theorem u_f_X9_manyLocked (a0 : Nat) (hs : Hs) : f_X9_manyLocked a0 hs = (
    lets (0 : Int32) fun (v1 : Int32) =>
    lets (0 : Int32) fun (v2 : Int32) =>
    L_X9_manyLocked_4 (some a0) (fun (v8 : Int32) => rtn v8) 100000 v1 v2) hs := rfl
theorem u_f_X9_lock (a0 : Nat) (p1 : Int32) (hs : Hs) : f_X9_lock a0 p1 hs = (
    rcv (some a0) 12 fun r6 => call (f_X9_wrongFree r6 p1) (fun (v1 : Int32) =>
    pI (some a0) 12 20 v1 (
    gI (some a0) 12 20 fun v2 =>
    (if v2 ≤ 0 then
    gR (some a0) 12 8 fun v3 =>
    stZ v3 p1 (1 : Int32) (
    rcv (some a0) 12 fun r5 => call (f_X9_manyLocked r5 ) (fun (v4 : Int32) =>
    rtn v4) nox)
    else
    rtn (0 : Int32)))) nox) hs := rfl
theorem u_j_X9_unlock_27 (a0 : Option Nat) (a1 : Int32) (s0 : Int32) (s1 : Option Nat) (hs : Hs) : j_X9_unlock_27 a0 a1 s0 s1 hs = (
  pI s1 12 20 s0 (
    gI a0 12 20 fun v4 =>
    (if v4 ≤ 0 then
    gR a0 12 8 fun v5 =>
    stZ v5 a1 (0 : Int32) (
    rcv a0 12 fun r7 => call (f_X9_manyLocked r7 ) (fun (v6 : Int32) =>
    rtn v6) nox)
    else
    rtn (0 : Int32)))) hs := rfl
theorem u_f_X9_unlock (a0 : Nat) (p1 : Int32) (hs : Hs) : f_X9_unlock a0 p1 hs = (
    rcv (some a0) 12 fun r8 => call (f_X9_isLesson r8 p1) (fun (v1 : Int32) =>
    (if ¬ v1 = 0 then
    gR (some a0) 12 8 fun v2 =>
    ldI 1 v2 p1 fun v3 =>
    (if ¬ v3 = 0 then
    j_X9_unlock_27 (some a0) p1 (0 : Int32) (some a0)
    else
    j_X9_unlock_27 (some a0) p1 (2 : Int32) (some a0))
    else
    j_X9_unlock_27 (some a0) p1 (1 : Int32) (some a0))) nox) hs := rfl
theorem u_f_X9_isLocked (a0 : Nat) (p1 : Int32) (hs : Hs) : f_X9_isLocked a0 p1 hs = (
    rcv (some a0) 12 fun r6 => call (f_X9_isLesson r6 p1) (fun (v1 : Int32) =>
    rcv (some a0) 12 fun r5 => call (f_X9_checked r5 v1) (fun (v2 : Int32) =>
    (if ¬ v2 = 0 then
    retZ (0 : Int32)
    else
    gR (some a0) 12 8 fun v3 =>
    ldI 1 v3 p1 fun v4 =>
    (if v4 = 0 then
    retZ (0 : Int32)
    else
    retZ (1 : Int32)))) nox) nox) hs := rfl
theorem u_j_X9_placeOf_26 (a0 : Option Nat) (a1 : Int32) (s0 : Int32) (s1 : Option Nat) (hs : Hs) : j_X9_placeOf_26 a0 a1 s0 s1 hs = (
  pI s1 12 20 s0 (
    gI a0 12 20 fun v3 =>
    (if v3 ≤ 0 then
    gR a0 12 14 fun v4 =>
    ldI 0 v4 a1 fun v5 =>
    rtn v5
    else
    rtn (0 : Int32)))) hs := rfl
theorem u_f_X9_placeOf (a0 : Nat) (p1 : Int32) (hs : Hs) : f_X9_placeOf a0 p1 hs = (
    rcv (some a0) 12 fun r7 => call (f_X9_isLesson r7 p1) (fun (v1 : Int32) =>
    (if ¬ v1 = 0 then
    rcv (some a0) 12 fun r6 => call (f_X9_isPlaced r6 p1) (fun (v2 : Int32) =>
    (if ¬ v2 = 0 then
    j_X9_placeOf_26 (some a0) p1 (0 : Int32) (some a0)
    else
    j_X9_placeOf_26 (some a0) p1 (2 : Int32) (some a0))) nox
    else
    j_X9_placeOf_26 (some a0) p1 (1 : Int32) (some a0))) nox) hs := rfl
theorem u_j_X9_groupAt_73 (a0 : Option Nat) (a1 : Int32) (a2 : Int32) (a3 : Int32)  (rec_40 : Int32 → OO Int32) (hs : Hs) : j_X9_groupAt_73 a0 a1 a2 a3 rec_40 hs = (
  lets (a3 + (1 : Int32)) fun (v8 : Int32) =>
    rec_40 v8) hs := rfl
theorem u_j_X9_groupAt_25 (a0 : Option Nat) (a1 : Int32) (a2 : Int32) (s0 : Int32) (s1 : Option Nat) (hs : Hs) : j_X9_groupAt_25 a0 a1 a2 s0 s1 hs = (
  pI s1 12 20 s0 (
    gI a0 12 20 fun v3 =>
    (if (3 : Int32) ≤ v3 then
    lets (0 : Int32) fun (v4 : Int32) =>
    L_X9_groupAt_40 a0 a1 a2 (fun (v11 : Int32) => rcv a0 12 fun r13 => call (f_X9_plain r13 v11) (fun (v12 : Int32) =>
    rtn v12) nox) (rtn (0 : Int32)) 100000 v4
    else
    rtn (0 : Int32)))) hs := rfl
theorem u_f_X9_groupAt (a0 : Nat) (p1 : Int32) (p2 : Int32) (hs : Hs) : f_X9_groupAt a0 p1 p2 hs = (
    rcv (some a0) 12 fun r14 => call (f_X9_isGroup r14 p1) (fun (v1 : Int32) =>
    (if ¬ v1 = 0 then
    call (f_X9_isSlot p2) (fun (v2 : Int32) =>
    (if ¬ v2 = 0 then
    j_X9_groupAt_25 (some a0) p1 p2 (3 : Int32) (some a0)
    else
    j_X9_groupAt_25 (some a0) p1 p2 (2 : Int32) (some a0))) nox
    else
    j_X9_groupAt_25 (some a0) p1 p2 (1 : Int32) (some a0))) nox) hs := rfl
theorem u_j_X9_teacherAt_73 (a0 : Option Nat) (a1 : Int32) (a2 : Int32) (a3 : Int32)  (rec_40 : Int32 → OO Int32) (hs : Hs) : j_X9_teacherAt_73 a0 a1 a2 a3 rec_40 hs = (
  lets (a3 + (1 : Int32)) fun (v8 : Int32) =>
    rec_40 v8) hs := rfl
theorem u_j_X9_teacherAt_25 (a0 : Option Nat) (a1 : Int32) (a2 : Int32) (s0 : Int32) (s1 : Option Nat) (hs : Hs) : j_X9_teacherAt_25 a0 a1 a2 s0 s1 hs = (
  pI s1 12 20 s0 (
    gI a0 12 20 fun v3 =>
    (if (3 : Int32) ≤ v3 then
    lets (0 : Int32) fun (v4 : Int32) =>
    L_X9_teacherAt_40 a0 a1 a2 (fun (v11 : Int32) => rcv a0 12 fun r13 => call (f_X9_plain r13 v11) (fun (v12 : Int32) =>
    rtn v12) nox) (rtn (0 : Int32)) 100000 v4
    else
    rtn (0 : Int32)))) hs := rfl
theorem u_f_X9_teacherAt (a0 : Nat) (p1 : Int32) (p2 : Int32) (hs : Hs) : f_X9_teacherAt a0 p1 p2 hs = (
    rcv (some a0) 12 fun r14 => call (f_X9_isTeacher r14 p1) (fun (v1 : Int32) =>
    (if ¬ v1 = 0 then
    call (f_X9_isSlot p2) (fun (v2 : Int32) =>
    (if ¬ v2 = 0 then
    j_X9_teacherAt_25 (some a0) p1 p2 (3 : Int32) (some a0)
    else
    j_X9_teacherAt_25 (some a0) p1 p2 (2 : Int32) (some a0))) nox
    else
    j_X9_teacherAt_25 (some a0) p1 p2 (1 : Int32) (some a0))) nox) hs := rfl
theorem u_f_X9_possible (a0 : Nat) (p1 : Int32) (hs : Hs) : f_X9_possible a0 p1 hs = (
    rcv (some a0) 12 fun r6 => call (f_X9_isLesson r6 p1) (fun (v1 : Int32) =>
    rcv (some a0) 12 fun r5 => call (f_X9_checked r5 v1) (fun (v2 : Int32) =>
    (if v2 ≤ 0 then
    rcv (some a0) 12 fun r4 => call (f_X9_manyPossible r4 p1) (fun (v3 : Int32) =>
    rtn v3) nox
    else
    rtn (0 : Int32))) nox) nox) hs := rfl
theorem u_j_X9_possibleAt_71 (a0 : Option Nat) (a1 : Int32) (a3 : Int32) (a4 : Int32)  (rec_36 : Int32 → Int32 → OO Int32) (hs : Hs) : j_X9_possibleAt_71 a0 a1 a3 a4 rec_36 hs = (
  lets (a4 + (1 : Int32)) fun (v7 : Int32) =>
    rec_36 a3 v7) hs := rfl
theorem u_j_X9_possibleAt_14 (a0 : Option Nat) (a1 : Int32) (a2 : Int32) (s0 : Int32) (s1 : Option Nat) (hs : Hs) : j_X9_possibleAt_14 a0 a1 a2 s0 s1 hs = (
  pI s1 12 20 s0 (
    gI a0 12 20 fun v2 =>
    (if v2 = (1 : Int32) then
    rtn (0 : Int32)
    else
    (if 0 ≤ a2 then
    lets a2 fun (v3 : Int32) =>
    lets (0 : Int32) fun (v4 : Int32) =>
    L_X9_possibleAt_36 a0 a1 (fun (v9 : Int32) => rcv a0 12 fun r11 => call (f_X9_plain r11 v9) (fun (v10 : Int32) =>
    rtn v10) nox) (rtn (0 : Int32)) 100000 v3 v4
    else
    rtn (0 : Int32))))) hs := rfl
theorem u_f_X9_possibleAt (a0 : Nat) (p1 : Int32) (p2 : Int32) (hs : Hs) : f_X9_possibleAt a0 p1 p2 hs = (
    rcv (some a0) 12 fun r12 => call (f_X9_isLesson r12 p1) (fun (v1 : Int32) =>
    (if ¬ v1 = 0 then
    j_X9_possibleAt_14 (some a0) p1 p2 (2 : Int32) (some a0)
    else
    j_X9_possibleAt_14 (some a0) p1 p2 (1 : Int32) (some a0))) nox) hs := rfl
theorem u_j_X9_cheapest_30 (a0 : Option Nat) (a2 : Int32) (s0 : Int32) (s1 : Option Nat) (hs : Hs) : j_X9_cheapest_30 a0 a2 s0 s1 hs = (
  pI s1 12 20 s0 (
    gI a0 12 20 fun v5 =>
    (if v5 ≤ 0 then
    rtn a2
    else
    rtn (0 : Int32)))) hs := rfl
theorem u_f_X9_cheapest (a0 : Nat) (p1 : Int32) (hs : Hs) : f_X9_cheapest a0 p1 hs = (
    rcv (some a0) 12 fun r8 => call (f_X9_isLesson r8 p1) (fun (v1 : Int32) =>
    rcv (some a0) 12 fun r7 => call (f_X9_checked r7 v1) (fun (v2 : Int32) =>
    (if v2 ≤ 0 then
    rcv (some a0) 12 fun r6 => call (f_X9_cheapestOf r6 p1) (fun (v3 : Int32) =>
    lets v3 fun (v4 : Int32) =>
    (if 0 ≤ v4 then
    j_X9_cheapest_30 (some a0) v4 (0 : Int32) (some a0)
    else
    j_X9_cheapest_30 (some a0) v4 (2 : Int32) (some a0))) nox
    else
    rtn (0 : Int32))) nox) nox) hs := rfl
theorem u_j_X9_costWith_37 (a0 : Option Nat) (a1 : Int32) (a2 : Int32) (a3 : Int32) (hs : Hs) : j_X9_costWith_37 a0 a1 a2 a3 hs = (
  gI a0 12 20 fun v3 =>
    (if v3 ≤ 0 then
    rcv a0 12 fun r5 => call (f_X9_costAt r5 a1 (((8 : Int32) * a2) + a3)) (fun (v4 : Int32) =>
    rtn v4) nox
    else
    rtn (0 : Int32))) hs := rfl
theorem u_j_X9_costWith_34 (a0 : Option Nat) (a1 : Int32) (a2 : Int32) (a3 : Int32) (s0 : Int32) (s1 : Option Nat) (hs : Hs) : j_X9_costWith_34 a0 a1 a2 a3 s0 s1 hs = (
  pI s1 12 20 s0 (
    j_X9_costWith_37 a0 a1 a2 a3)) hs := rfl
theorem u_f_X9_costWith (a0 : Nat) (p1 : Int32) (p2 : Int32) (p3 : Int32) (hs : Hs) : f_X9_costWith a0 p1 p2 p3 hs = (
    rcv (some a0) 12 fun r8 => call (f_X9_wrongPlace r8 p1 p2 p3) (fun (v1 : Int32) =>
    pI (some a0) 12 20 v1 (
    gI (some a0) 12 20 fun v2 =>
    (if ¬ v2 = 0 then
    j_X9_costWith_37 (some a0) p1 p2 p3
    else
    rcv (some a0) 12 fun r7 => call (f_X9_letters r7 p1 p2 p3) (fun (v6 : Int32) =>
    (if v6 ≤ 0 then
    j_X9_costWith_34 (some a0) p1 p2 p3 (0 : Int32) (some a0)
    else
    j_X9_costWith_34 (some a0) p1 p2 p3 (3 : Int32) (some a0))) nox))) nox) hs := rfl
theorem u_j_X9_unplaced_30 (a0 : Option Nat) (a1 : Option Nat) (a2 : Int32) (s0 : Int32) (s1 : Int32) (s2 : Option Nat) (rec_7 : Int32 → OO (Option Nat)) (hs : Hs) : j_X9_unplaced_30 a0 a1 a2 s0 s1 s2 rec_7 hs = (
  stZ s2 s1 s0 (
    lets (a2 + (1 : Int32)) fun (v6 : Int32) =>
    rec_7 v6)) hs := rfl
theorem u_f_X9_unplaced (a0 : Nat) (hs : Hs) : f_X9_unplaced a0 hs = (
    nwI 1 (16 : Int32) 16 fun q1 =>
    lets (some q1) fun (v2 : Option Nat) =>
    lets (0 : Int32) fun (v3 : Int32) =>
    L_X9_unplaced_7 (some a0) v2 (rtn v2) 100000 v3) hs := rfl
theorem u_j_X9_hardest_19 (a1 : Int32) (s0 : Int32) (s1 : Option Nat) (hs : Hs) : j_X9_hardest_19 a1 s0 s1 hs = (
  rcv s1 12 fun r5 => call (f_X9_checked r5 s0) (fun (v4 : Int32) =>
    (if v4 ≤ 0 then
    rtn a1
    else
    rtn (0 : Int32))) nox) hs := rfl
theorem u_f_X9_hardest (a0 : Nat) (hs : Hs) : f_X9_hardest a0 hs = (
    rcv (some a0) 12 fun r7 => call (f_X9_unplaced r7 ) (fun (v1 : Option Nat) =>
    rcv (some a0) 12 fun r6 => call (f_X9_hardestOf r6 v1) (fun (v2 : Int32) =>
    lets v2 fun (v3 : Int32) =>
    (if v3 < 0 then
    j_X9_hardest_19 v3 (0 : Int32) (some a0)
    else
    j_X9_hardest_19 v3 (1 : Int32) (some a0))) nox) nox) hs := rfl
theorem u_j_X9_barring_83 (a0 : Option Nat) (a1 : Int32) (a2 : Int32) (a3 : Int32) (a4 : Int32)  (rec_34 : Int32 → Int32 → OO Int32) (hs : Hs) : j_X9_barring_83 a0 a1 a2 a3 a4 rec_34 hs = (
  lets (a4 + (1 : Int32)) fun (v10 : Int32) =>
    rec_34 a3 v10) hs := rfl
theorem u_f_X9_barring (a0 : Nat) (p1 : Int32) (p2 : Int32) (hs : Hs) : f_X9_barring a0 p1 p2 hs = (
    dvz (8 : Int32) (
    gI (some a0) 12 21 fun v1 =>
    (if v1 ≤ (irem p2 (8 : Int32)) then
    rtn (-1 : Int32)
    else
    dvz (8 : Int32) (
    dvz (8 : Int32) (
    rcv (some a0) 12 fun r13 => call (f_X9_plainLetters r13 p1 (p2 / (8 : Int32)) (irem p2 (8 : Int32))) (fun (v2 : Int32) =>
    (if v2 ≤ 0 then
    lets (0 : Int32) fun (v3 : Int32) =>
    lets (0 : Int32) fun (v4 : Int32) =>
    L_X9_barring_34 (some a0) p1 p2 (rtn (-1 : Int32)) (fun (v12 : Int32) => rtn v12) 100000 v3 v4
    else
    rtn (-1 : Int32))) nox))))) hs := rfl
theorem u_j_X9_throwsOut_54 (a0 : Option Nat) (a1 : Int32) (a2 : Int32) (a3 : Int32) (a4 : Int32)  (rec_7 : Int32 → Int32 → Int32 → OO Int32) (hs : Hs) : j_X9_throwsOut_54 a0 a1 a2 a3 a4 rec_7 hs = (
  lets (a4 + (1 : Int32)) fun (v6 : Int32) =>
    rec_7 a2 a3 v6) hs := rfl
theorem u_j_X9_throwsOut_48 (a0 : Option Nat) (a1 : Int32) (a4 : Int32) (a5 : Int32)  (rec_7 : Int32 → Int32 → Int32 → OO Int32) (hs : Hs) : j_X9_throwsOut_48 a0 a1 a4 a5 rec_7 hs = (
  lets a4 fun (v7 : Int32) =>
    lets a5 fun (v8 : Int32) =>
    j_X9_throwsOut_54 a0 a1 v7 v8 a4 rec_7) hs := rfl
theorem u_j_X9_throwsOut_96 (a0 : Option Nat) (a1 : Int32) (a2 : Int32) (a3 : Int32) (a4 : Int32)  (rec_69 : Int32 → OO Int32) (hs : Hs) : j_X9_throwsOut_96 a0 a1 a2 a3 a4 rec_69 hs = (
  lets (a4 + (1 : Int32)) fun (v16 : Int32) =>
    rec_69 v16) hs := rfl
theorem u_f_X9_throwsOut (a0 : Nat) (p1 : Int32) (hs : Hs) : f_X9_throwsOut a0 p1 hs = (
    lets (-1 : Int32) fun (v1 : Int32) =>
    lets (0 : Int32) fun (v2 : Int32) =>
    lets (0 : Int32) fun (v3 : Int32) =>
    L_X9_throwsOut_7 (some a0) p1 (fun (v12 : Int32) (v13 : Int32) => (if 0 ≤ v12 then
    lets (0 : Int32) fun (v14 : Int32) =>
    L_X9_throwsOut_69 (some a0) p1 v12 v13 (gR (some a0) 12 14 fun v18 =>
    stI v18 p1 v12 (
    retZ (1 : Int32))) 100000 v14
    else
    retZ (0 : Int32))) 100000 v1 v2 v3) hs := rfl
theorem u_j_X9_fill_119 (a0 : Option Nat) (a1 : Option Nat) (a2 : Int32) (a3 : Option Nat) (a6 : Int32) (s0 : Int32) (s1 : Int32) (s2 : Option Nat) (rec_88 : Int32 → OO Int32) (hs : Hs) : j_X9_fill_119 a0 a1 a2 a3 a6 s0 s1 s2 rec_88 hs = (
  stZ s2 s1 s0 (
    lets (a6 + (1 : Int32)) fun (v15 : Int32) =>
    rec_88 v15)) hs := rfl
theorem u_j_X9_fill_118 (a0 : Option Nat) (a1 : Option Nat) (a2 : Int32) (a3 : Option Nat) (a6 : Int32) (s0 : Int32) (s1 : Option Nat) (rec_88 : Int32 → OO Int32) (hs : Hs) : j_X9_fill_118 a0 a1 a2 a3 a6 s0 s1 rec_88 hs = (
  j_X9_fill_119 a0 a1 a2 a3 a6 (0 : Int32) s0 s1 rec_88) hs := rfl
theorem u_j_X9_fill_80 (a0 : Option Nat) (a1 : Option Nat) (a2 : Int32)  (rec_24 : Int32 → Int32 → OO Int32) (hs : Hs) : j_X9_fill_80 a0 a1 a2 rec_24 hs = (
  rcv a0 12 fun r20 => call (f_X9_unplaced r20 ) (fun (v10 : Option Nat) =>
    lets v10 fun (v11 : Option Nat) =>
    lets (0 : Int32) fun (v12 : Int32) =>
    L_X9_fill_88 a0 a1 a2 v11 (rcv a0 12 fun r19 => call (f_X9_hardestOf r19 v11) (fun (v17 : Int32) =>
    lets v17 fun (v18 : Int32) =>
    rec_24 a2 v18) nox) 300 v12) nox) hs := rfl
theorem u_j_X9_fill_75 (a0 : Option Nat) (a1 : Option Nat) (a2 : Int32) (a4 : Int32)  (rec_24 : Int32 → Int32 → OO Int32) (hs : Hs) : j_X9_fill_75 a0 a1 a2 a4 rec_24 hs = (
  stZ a1 a4 (1 : Int32) (
    j_X9_fill_80 a0 a1 a2 rec_24)) hs := rfl
theorem u_j_X9_fill_167 (a0 : Option Nat) (a6 : Int32) (s0 : Int32) (s1 : Int32) (rec_142 : Int32 → Int32 → OO Int32) (hs : Hs) : j_X9_fill_167 a0 a6 s0 s1 rec_142 hs = (
  lets (s1 + s0) fun (v30 : Int32) =>
    lets (a6 + (1 : Int32)) fun (v31 : Int32) =>
    rec_142 v30 v31) hs := rfl
theorem u_f_X9_fill (a0 : Nat) (hs : Hs) : f_X9_fill a0 hs = (
    pI (some a0) 12 20 (0 : Int32) (
    nwI 1 (16 : Int32) 16 fun q1 =>
    lets (some q1) fun (v2 : Option Nat) =>
    lets (0 : Int32) fun (v3 : Int32) =>
    rcv (some a0) 12 fun r35 => call (f_X9_unplaced r35 ) (fun (v4 : Option Nat) =>
    lets v4 fun (v5 : Option Nat) =>
    rcv (some a0) 12 fun r34 => call (f_X9_hardestOf r34 v5) (fun (v6 : Int32) =>
    lets v6 fun (v7 : Int32) =>
    L_X9_fill_24 (some a0) v2 (lets (0 : Int32) fun (v26 : Int32) =>
    lets (0 : Int32) fun (v27 : Int32) =>
    L_X9_fill_142 (some a0) (fun (v33 : Int32) => rtn v33) 300 v26 v27) 300 v3 v7) nox) nox)) hs := rfl
theorem u_j_X9_wasMoved_30 (hs : Hs) : j_X9_wasMoved_30  hs = (
  retZ (1 : Int32)) hs := rfl
theorem u_f_X9_wasMoved (a0 : Nat) (p1 : Int32) (hs : Hs) : f_X9_wasMoved a0 p1 hs = (
    gR (some a0) 12 18 fun v1 =>
    ldI 0 v1 (0 : Int32) fun v2 =>
    (if v2 = p1 then
    j_X9_wasMoved_30
    else
    gR (some a0) 12 18 fun v3 =>
    ldI 0 v3 (1 : Int32) fun v4 =>
    (if v4 = p1 then
    j_X9_wasMoved_30
    else
    gR (some a0) 12 18 fun v5 =>
    ldI 0 v5 (2 : Int32) fun v6 =>
    (if ¬ v6 = p1 then
    retZ (0 : Int32)
    else
    j_X9_wasMoved_30)))) hs := rfl
theorem u_j_X9_moves_133 (a0 : Option Nat) (a1 : Int32) (a2 : Int32) (a3 : Int32) (a4 : Int32)  (rec_9 : Int32 → Int32 → Int32 → Int32 → OO Int32) (hs : Hs) : j_X9_moves_133 a0 a1 a2 a3 a4 rec_9 hs = (
  lets (a4 + (1 : Int32)) fun (v7 : Int32) =>
    rec_9 a1 a2 a3 v7) hs := rfl
theorem u_j_X9_moves_127 (a0 : Option Nat) (a1 : Int32) (a2 : Int32) (a3 : Int32) (a4 : Int32) (a5 : Int32)  (rec_61 : Int32 → Int32 → Int32 → Int32 → OO Int32) (hs : Hs) : j_X9_moves_127 a0 a1 a2 a3 a4 a5 rec_61 hs = (
  lets (a5 + (1 : Int32)) fun (v15 : Int32) =>
    rec_61 a1 a2 a3 v15) hs := rfl
theorem u_j_X9_moves_118 (a0 : Option Nat) (a4 : Int32) (a5 : Int32) (a6 : Int32)  (rec_61 : Int32 → Int32 → Int32 → Int32 → OO Int32) (hs : Hs) : j_X9_moves_118 a0 a4 a5 a6 rec_61 hs = (
  lets a4 fun (v19 : Int32) =>
    lets a5 fun (v20 : Int32) =>
    lets a6 fun (v21 : Int32) =>
    j_X9_moves_127 a0 v19 v20 v21 a4 a5 rec_61) hs := rfl
theorem u_f_X9_moves (a0 : Nat) (hs : Hs) : f_X9_moves a0 hs = (
    lets (-1 : Int32) fun (v1 : Int32) =>
    lets (0 : Int32) fun (v2 : Int32) =>
    lets (0 : Int32) fun (v3 : Int32) =>
    lets (0 : Int32) fun (v4 : Int32) =>
    L_X9_moves_9 (some a0) (fun (v30 : Int32) (v31 : Int32) => (if 0 ≤ v30 then
    gR (some a0) 12 14 fun v32 =>
    stI v32 v30 v31 (
    gR (some a0) 12 18 fun v33 =>
    gR (some a0) 12 18 fun v34 =>
    ldI 0 v34 (1 : Int32) fun v35 =>
    stI v33 (2 : Int32) v35 (
    gR (some a0) 12 18 fun v36 =>
    gR (some a0) 12 18 fun v37 =>
    ldI 0 v37 (0 : Int32) fun v38 =>
    stI v36 (1 : Int32) v38 (
    gR (some a0) 12 18 fun v39 =>
    stI v39 (0 : Int32) v30 (
    retZ (1 : Int32)))))
    else
    retZ (0 : Int32))) 100000 v1 v2 v3 v4) hs := rfl
theorem u_j_X9_improve_129 (a0 : Option Nat) (a1 : Int32) (a2 : Int32) (a3 : Int32)  (rec_69 : Int32 → Int32 → OO Int32) (hs : Hs) : j_X9_improve_129 a0 a1 a2 a3 rec_69 hs = (
  lets (a3 + (1 : Int32)) fun (v23 : Int32) =>
    rec_69 a2 v23) hs := rfl
theorem u_j_X9_improve_135 (a0 : Option Nat) (a2 : Int32) (hs : Hs) : j_X9_improve_135 a0 a2 hs = (
  lets (0 : Int32) fun (v27 : Int32) =>
    L_X9_improve_137 a0 a2 (rtn a2) 100000 v27) hs := rfl
theorem u_f_X9_improve (a0 : Nat) (p1 : Int32) (hs : Hs) : f_X9_improve a0 p1 hs = (
    call (f_X9_in p1 (1 : Int32) (20 : Int32)) (fun (v1 : Int32) =>
    rcv (some a0) 12 fun r33 => call (f_X9_checked r33 v1) (fun (v2 : Int32) =>
    (if v2 ≤ 0 then
    lets (0 : Int32) fun (v3 : Int32) =>
    L_X9_improve_18 (some a0) p1 (lets (0 : Int32) fun (v6 : Int32) =>
    L_X9_improve_38 (some a0) p1 (rcv (some a0) 12 fun r32 => call (f_X9_costNow r32 ) (fun (v11 : Int32) =>
    lets v11 fun (v12 : Int32) =>
    lets (0 : Int32) fun (v13 : Int32) =>
    L_X9_improve_69 (some a0) p1 (fun (v26 : Int32) => j_X9_improve_135 (some a0) v26) 100000 v12 v13) nox) 100000 v6) 100000 v3
    else
    rtn (0 : Int32))) nox) nox) hs := rfl
theorem u_f_X9_cost (a0 : Nat) (hs : Hs) : f_X9_cost a0 hs = (
    rcv (some a0) 12 fun r4 => call (f_X9_costNow r4 ) (fun (v1 : Int32) =>
    rcv (some a0) 12 fun r3 => call (f_X9_plain r3 v1) (fun (v2 : Int32) =>
    rtn v2) nox) nox) hs := rfl
theorem u_f_X9_costAnew (a0 : Nat) (hs : Hs) : f_X9_costAnew a0 hs = (
    rcv (some a0) 12 fun r4 => call (f_X9_costNow r4 ) (fun (v1 : Int32) =>
    rcv (some a0) 12 fun r3 => call (f_X9_plain r3 v1) (fun (v2 : Int32) =>
    rtn v2) nox) nox) hs := rfl
theorem u_f_X9_amount (a0 : Nat) (p1 : Int32) (hs : Hs) : f_X9_amount a0 p1 hs = (
    call (f_X9_in p1 (0 : Int32) (3 : Int32)) (fun (v1 : Int32) =>
    rcv (some a0) 12 fun r5 => call (f_X9_checked r5 v1) (fun (v2 : Int32) =>
    (if v2 ≤ 0 then
    rcv (some a0) 12 fun r4 => call (f_X9_amountOf r4 p1) (fun (v3 : Int32) =>
    rtn v3) nox
    else
    rtn (0 : Int32))) nox) nox) hs := rfl
theorem u_j_X9_breaks_60 (a0 : Option Nat) (a2 : Int32) (s0 : Int32) (s1 : Int32) (rec_4 : Int32 → Int32 → OO Int32) (hs : Hs) : j_X9_breaks_60 a0 a2 s0 s1 rec_4 hs = (
  lets (s1 + s0) fun (v5 : Int32) =>
    lets (a2 + (1 : Int32)) fun (v6 : Int32) =>
    rec_4 v5 v6) hs := rfl
theorem u_j_X9_breaks_59 (a0 : Option Nat) (a2 : Int32) (s0 : Int32) (rec_4 : Int32 → Int32 → OO Int32) (hs : Hs) : j_X9_breaks_59 a0 a2 s0 rec_4 hs = (
  j_X9_breaks_60 a0 a2 (0 : Int32) s0 rec_4) hs := rfl
theorem u_f_X9_breaks (a0 : Nat) (hs : Hs) : f_X9_breaks a0 hs = (
    lets (0 : Int32) fun (v1 : Int32) =>
    lets (0 : Int32) fun (v2 : Int32) =>
    L_X9_breaks_4 (some a0) (fun (v16 : Int32) => rcv (some a0) 12 fun r18 => call (f_X9_plain r18 v16) (fun (v17 : Int32) =>
    rtn v17) nox) 100000 v1 v2) hs := rfl
theorem u_j_X9_lacksAbove_53 (a0 : Option Nat) (a1 : Int32) (a2 : Int32) (a4 : Int32) (s0 : Int32) (s1 : Int32) (rec_5 : Int32 → Int32 → OO Int32) (hs : Hs) : j_X9_lacksAbove_53 a0 a1 a2 a4 s0 s1 rec_5 hs = (
  lets (s1 + s0) fun (v6 : Int32) =>
    lets (a4 + (1 : Int32)) fun (v7 : Int32) =>
    rec_5 v6 v7) hs := rfl
theorem u_j_X9_lacksAbove_52 (a0 : Option Nat) (a1 : Int32) (a2 : Int32) (a4 : Int32) (s0 : Int32) (rec_5 : Int32 → Int32 → OO Int32) (hs : Hs) : j_X9_lacksAbove_52 a0 a1 a2 a4 s0 rec_5 hs = (
  j_X9_lacksAbove_53 a0 a1 a2 a4 (0 : Int32) s0 rec_5) hs := rfl
theorem u_j_X9_lacksAbove_112 (a0 : Option Nat) (a1 : Int32) (a2 : Int32) (a4 : Int32) (s0 : Int32) (s1 : Int32) (rec_64 : Int32 → Int32 → OO Int32) (hs : Hs) : j_X9_lacksAbove_112 a0 a1 a2 a4 s0 s1 rec_64 hs = (
  lets (s1 - s0) fun (v19 : Int32) =>
    lets (a4 + (1 : Int32)) fun (v20 : Int32) =>
    rec_64 v19 v20) hs := rfl
theorem u_j_X9_lacksAbove_111 (a0 : Option Nat) (a1 : Int32) (a2 : Int32) (a4 : Int32) (s0 : Int32) (rec_64 : Int32 → Int32 → OO Int32) (hs : Hs) : j_X9_lacksAbove_111 a0 a1 a2 a4 s0 rec_64 hs = (
  j_X9_lacksAbove_112 a0 a1 a2 a4 (0 : Int32) s0 rec_64) hs := rfl
theorem u_f_X9_lacksAbove (a0 : Nat) (p1 : Int32) (p2 : Int32) (hs : Hs) : f_X9_lacksAbove a0 p1 p2 hs = (
    lets (0 : Int32) fun (v1 : Int32) =>
    lets (0 : Int32) fun (v2 : Int32) =>
    L_X9_lacksAbove_5 (some a0) p1 p2 (fun (v14 : Int32) => lets (0 : Int32) fun (v15 : Int32) =>
    L_X9_lacksAbove_64 (some a0) p1 p2 (fun (v25 : Int32) => rtn v25) 100000 v14 v15) 100000 v1 v2) hs := rfl
theorem u_j_X9_lacking_45 (a0 : Option Nat) (a1 : Int32) (a3 : Int32) (s0 : Int32) (rec_19 : Int32 → Int32 → OO Int32) (hs : Hs) : j_X9_lacking_45 a0 a1 a3 s0 rec_19 hs = (
  lets s0 fun (v6 : Int32) =>
    lets (a3 + (1 : Int32)) fun (v7 : Int32) =>
    rec_19 v6 v7) hs := rfl
theorem u_f_X9_lacking (a0 : Nat) (p1 : Int32) (hs : Hs) : f_X9_lacking a0 p1 hs = (
    call (f_X9_in p1 (0 : Int32) (3 : Int32)) (fun (v1 : Int32) =>
    rcv (some a0) 12 fun r12 => call (f_X9_checked r12 v1) (fun (v2 : Int32) =>
    (if v2 ≤ 0 then
    lets (0 : Int32) fun (v3 : Int32) =>
    lets (0 : Int32) fun (v4 : Int32) =>
    L_X9_lacking_19 (some a0) p1 (fun (v11 : Int32) => rtn v11) 100000 v3 v4
    else
    rtn (0 : Int32))) nox) nox) hs := rfl
theorem u_f_X9_lackingBySeats (a0 : Nat) (p1 : Int32) (hs : Hs) : f_X9_lackingBySeats a0 p1 hs = (
    rcv (some a0) 12 fun r2 => call (f_X9_lacking r2 p1) (fun (v1 : Int32) =>
    rtn v1) nox) hs := rfl
theorem u_j_X9_repairs_35 (a0 : Option Nat) (a1 : Option Nat) (a2 : Int32) (a3 : Int32)  (rec_4 : Int32 → OO Int32) (hs : Hs) : j_X9_repairs_35 a0 a1 a2 a3 rec_4 hs = (
  lets (a3 + (1 : Int32)) fun (v7 : Int32) =>
    rec_4 v7) hs := rfl
theorem u_j_X9_repairs_80 (a0 : Option Nat) (a1 : Option Nat) (s0 : Int32) (s1 : Int32) (rec_47 : Int32 → Int32 → OO Int32) (hs : Hs) : j_X9_repairs_80 a0 a1 s0 s1 rec_47 hs = (
  lets (s1 + s0) fun (v13 : Int32) =>
    rcv a0 12 fun r16 => call (f_X9_hardestOf r16 a1) (fun (v14 : Int32) =>
    lets v14 fun (v15 : Int32) =>
    rec_47 v13 v15) nox) hs := rfl
theorem u_f_X9_repairs (a0 : Nat) (p1 : Option Nat) (hs : Hs) : f_X9_repairs a0 p1 hs = (
    lets (0 : Int32) fun (v1 : Int32) =>
    lets (0 : Int32) fun (v2 : Int32) =>
    L_X9_repairs_4 (some a0) p1 v1 (rcv (some a0) 12 fun r20 => call (f_X9_hardestOf r20 p1) (fun (v8 : Int32) =>
    lets v8 fun (v9 : Int32) =>
    L_X9_repairs_47 (some a0) p1 (fun (v19 : Int32) => rtn v19) 100000 v1 v9) nox) 100000 v2) hs := rfl
theorem u_j_X9_hasLocked_27 (a0 : Option Nat) (a1 : Option Nat) (a2 : Int32)  (rec_2 : Int32 → OO Int32) (hs : Hs) : j_X9_hasLocked_27 a0 a1 a2 rec_2 hs = (
  lets (a2 + (1 : Int32)) fun (v4 : Int32) =>
    rec_2 v4) hs := rfl
theorem u_f_X9_hasLocked (a0 : Nat) (p1 : Option Nat) (hs : Hs) : f_X9_hasLocked a0 p1 hs = (
    lets (0 : Int32) fun (v1 : Int32) =>
    L_X9_hasLocked_2 (some a0) p1 (retZ (1 : Int32)) (retZ (0 : Int32)) 100000 v1) hs := rfl
theorem u_j_X9_ill_118 (a0 : Option Nat) (a1 : Int32) (a2 : Int32) (a3 : Option Nat) (a4 : Int32) (s0 : Int32) (s1 : Int32) (s2 : Option Nat) (rec_68 : Int32 → OO Int32) (hs : Hs) : j_X9_ill_118 a0 a1 a2 a3 a4 s0 s1 s2 rec_68 hs = (
  stZ s2 s1 s0 (
    lets (a4 + (1 : Int32)) fun (v13 : Int32) =>
    rec_68 v13)) hs := rfl
theorem u_j_X9_ill_117 (a0 : Option Nat) (a1 : Int32) (a2 : Int32) (a3 : Option Nat) (a4 : Int32) (s0 : Int32) (s1 : Option Nat) (rec_68 : Int32 → OO Int32) (hs : Hs) : j_X9_ill_117 a0 a1 a2 a3 a4 s0 s1 rec_68 hs = (
  j_X9_ill_118 a0 a1 a2 a3 a4 (0 : Int32) s0 s1 rec_68) hs := rfl
theorem u_j_X9_ill_139 (a0 : Option Nat) (a1 : Int32) (a2 : Int32) (a3 : Option Nat) (s0 : Int32) (s1 : Option Nat) (hs : Hs) : j_X9_ill_139 a0 a1 a2 a3 s0 s1 hs = (
  pI s1 12 20 s0 (
    gI a0 12 20 fun v19 =>
    (if v19 ≤ 0 then
    gR a0 12 3 fun v20 =>
    ldI 0 v20 a1 fun v21 =>
    stI v20 a1 ((v21 + (((1 : Int32) <<< (a2 &&& 31))))) (
    rcv a0 12 fun r23 => call (f_X9_repairs r23 a3) (fun (v22 : Int32) =>
    rtn v22) nox)
    else
    rtn (0 : Int32)))) hs := rfl
theorem u_j_X9_ill_48 (a0 : Option Nat) (a1 : Int32) (a2 : Int32) (s0 : Int32) (s1 : Option Nat) (hs : Hs) : j_X9_ill_48 a0 a1 a2 s0 s1 hs = (
  pI s1 12 20 s0 (
    gI a0 12 20 fun v6 =>
    (if v6 ≤ 0 then
    nwI 1 (16 : Int32) 16 fun q7 =>
    lets (some q7) fun (v8 : Option Nat) =>
    lets (0 : Int32) fun (v9 : Int32) =>
    L_X9_ill_68 a0 a1 a2 v8 (rcv a0 12 fun r24 => call (f_X9_hasLocked r24 v8) (fun (v18 : Int32) =>
    (if v18 = 0 then
    j_X9_ill_139 a0 a1 a2 v8 (0 : Int32) a0
    else
    j_X9_ill_139 a0 a1 a2 v8 (4 : Int32) a0)) nox) 100000 v9
    else
    rtn (0 : Int32)))) hs := rfl
theorem u_f_X9_ill (a0 : Nat) (p1 : Int32) (p2 : Int32) (hs : Hs) : f_X9_ill a0 p1 p2 hs = (
    rcv (some a0) 12 fun r25 => call (f_X9_isTeacher r25 p1) (fun (v1 : Int32) =>
    (if ¬ v1 = 0 then
    gI (some a0) 12 26 fun v2 =>
    call (f_X9_in p2 v2 (4 : Int32)) (fun (v3 : Int32) =>
    (if ¬ v3 = 0 then
    gR (some a0) 12 3 fun v4 =>
    ldI 0 v4 p1 fun v5 =>
    dvz (2 : Int32) (
    (if ¬ ((irem (v5 >>> (p2 &&& 31)) (2 : Int32))) = (1 : Int32) then
    j_X9_ill_48 (some a0) p1 p2 (0 : Int32) (some a0)
    else
    j_X9_ill_48 (some a0) p1 p2 (3 : Int32) (some a0)))
    else
    j_X9_ill_48 (some a0) p1 p2 (2 : Int32) (some a0))) nox
    else
    j_X9_ill_48 (some a0) p1 p2 (1 : Int32) (some a0))) nox) hs := rfl
theorem u_j_X9_close_82 (a0 : Option Nat) (a1 : Int32) (a2 : Option Nat) (a3 : Int32) (s0 : Int32) (s1 : Int32) (s2 : Option Nat) (rec_46 : Int32 → OO Int32) (hs : Hs) : j_X9_close_82 a0 a1 a2 a3 s0 s1 s2 rec_46 hs = (
  stZ s2 s1 s0 (
    lets (a3 + (1 : Int32)) fun (v10 : Int32) =>
    rec_46 v10)) hs := rfl
theorem u_j_X9_close_81 (a0 : Option Nat) (a1 : Int32) (a2 : Option Nat) (a3 : Int32) (s0 : Int32) (s1 : Option Nat) (rec_46 : Int32 → OO Int32) (hs : Hs) : j_X9_close_81 a0 a1 a2 a3 s0 s1 rec_46 hs = (
  j_X9_close_82 a0 a1 a2 a3 (0 : Int32) s0 s1 rec_46) hs := rfl
theorem u_j_X9_close_153 (a0 : Option Nat) (a2 : Option Nat) (a3 : Int32) (s0 : Int32) (s1 : Int32) (s2 : Option Nat) (rec_124 : Int32 → OO Int32) (hs : Hs) : j_X9_close_153 a0 a2 a3 s0 s1 s2 rec_124 hs = (
  stZ s2 s1 s0 (
    lets (a3 + (1 : Int32)) fun (v20 : Int32) =>
    rec_124 v20)) hs := rfl
theorem u_j_X9_close_152 (a0 : Option Nat) (a2 : Option Nat) (a3 : Int32) (s0 : Int32) (s1 : Option Nat) (rec_124 : Int32 → OO Int32) (hs : Hs) : j_X9_close_152 a0 a2 a3 s0 s1 rec_124 hs = (
  j_X9_close_153 a0 a2 a3 (0 : Int32) s0 s1 rec_124) hs := rfl
theorem u_j_X9_close_103 (a0 : Option Nat) (a1 : Int32) (a2 : Option Nat) (s0 : Int32) (s1 : Option Nat) (hs : Hs) : j_X9_close_103 a0 a1 a2 s0 s1 hs = (
  pI s1 12 20 s0 (
    gI a0 12 20 fun v15 =>
    (if v15 ≤ 0 then
    gR a0 12 7 fun v16 =>
    stZ v16 a1 (1 : Int32) (
    lets (0 : Int32) fun (v17 : Int32) =>
    L_X9_close_124 a0 a2 (rcv a0 12 fun r24 => call (f_X9_repairs r24 a2) (fun (v23 : Int32) =>
    rtn v23) nox) 100000 v17)
    else
    rtn (0 : Int32)))) hs := rfl
theorem u_j_X9_close_27 (a0 : Option Nat) (a1 : Int32) (s0 : Int32) (s1 : Option Nat) (hs : Hs) : j_X9_close_27 a0 a1 s0 s1 hs = (
  pI s1 12 20 s0 (
    gI a0 12 20 fun v4 =>
    (if v4 ≤ 0 then
    nwI 1 (16 : Int32) 16 fun q5 =>
    lets (some q5) fun (v6 : Option Nat) =>
    lets (0 : Int32) fun (v7 : Int32) =>
    L_X9_close_46 a0 a1 v6 (rcv a0 12 fun r25 => call (f_X9_hasLocked r25 v6) (fun (v14 : Int32) =>
    (if v14 = 0 then
    j_X9_close_103 a0 a1 v6 (0 : Int32) a0
    else
    j_X9_close_103 a0 a1 v6 (3 : Int32) a0)) nox) 100000 v7
    else
    rtn (0 : Int32)))) hs := rfl
theorem u_f_X9_close (a0 : Nat) (p1 : Int32) (hs : Hs) : f_X9_close a0 p1 hs = (
    rcv (some a0) 12 fun r26 => call (f_X9_isRoom r26 p1) (fun (v1 : Int32) =>
    (if ¬ v1 = 0 then
    gR (some a0) 12 7 fun v2 =>
    ldI 1 v2 p1 fun v3 =>
    (if v3 = 0 then
    j_X9_close_27 (some a0) p1 (0 : Int32) (some a0)
    else
    j_X9_close_27 (some a0) p1 (2 : Int32) (some a0))
    else
    j_X9_close_27 (some a0) p1 (1 : Int32) (some a0))) nox) hs := rfl
theorem u_j_X9_open_73 (a0 : Option Nat) (a3 : Int32) (s0 : Int32) (s1 : Int32) (rec_50 : Int32 → Int32 → OO Int32) (hs : Hs) : j_X9_open_73 a0 a3 s0 s1 rec_50 hs = (
  lets (s1 + s0) fun (v11 : Int32) =>
    lets (a3 + (1 : Int32)) fun (v12 : Int32) =>
    rec_50 v11 v12) hs := rfl
theorem u_j_X9_open_27 (a0 : Option Nat) (a1 : Int32) (s0 : Int32) (s1 : Option Nat) (hs : Hs) : j_X9_open_27 a0 a1 s0 s1 hs = (
  pI s1 12 20 s0 (
    gI a0 12 20 fun v4 =>
    (if v4 ≤ 0 then
    gR a0 12 7 fun v5 =>
    stZ v5 a1 (0 : Int32) (
    lets (0 : Int32) fun (v6 : Int32) =>
    lets (0 : Int32) fun (v7 : Int32) =>
    L_X9_open_50 a0 (fun (v13 : Int32) => rtn v13) 100000 v6 v7)
    else
    rtn (0 : Int32)))) hs := rfl
theorem u_f_X9_open (a0 : Nat) (p1 : Int32) (hs : Hs) : f_X9_open a0 p1 hs = (
    rcv (some a0) 12 fun r14 => call (f_X9_isRoom r14 p1) (fun (v1 : Int32) =>
    (if ¬ v1 = 0 then
    gR (some a0) 12 7 fun v2 =>
    ldI 1 v2 p1 fun v3 =>
    (if ¬ v3 = 0 then
    j_X9_open_27 (some a0) p1 (0 : Int32) (some a0)
    else
    j_X9_open_27 (some a0) p1 (2 : Int32) (some a0))
    else
    j_X9_open_27 (some a0) p1 (1 : Int32) (some a0))) nox) hs := rfl
theorem u_j_X9_passDay_14 (a0 : Option Nat) (s0 : Int32) (s1 : Option Nat) (hs : Hs) : j_X9_passDay_14 a0 s0 s1 hs = (
  rcv s1 12 fun r5 => call (f_X9_checked r5 s0) (fun (v2 : Int32) =>
    (if v2 ≤ 0 then
    gI a0 12 26 fun v3 =>
    pI a0 12 26 (v3 + (1 : Int32)) (
    gI a0 12 26 fun v4 =>
    rtn v4)
    else
    rtn (0 : Int32))) nox) hs := rfl
theorem u_f_X9_passDay (a0 : Nat) (hs : Hs) : f_X9_passDay a0 hs = (
    gI (some a0) 12 26 fun v1 =>
    (if (4 : Int32) ≤ v1 then
    j_X9_passDay_14 (some a0) (0 : Int32) (some a0)
    else
    j_X9_passDay_14 (some a0) (1 : Int32) (some a0))) hs := rfl
theorem u_j_X9_nextWeek_71 (a0 : Option Nat) (a1 : Int32)  (rec_24 : Int32 → OO Int32) (hs : Hs) : j_X9_nextWeek_71 a0 a1 rec_24 hs = (
  lets (a1 + (1 : Int32)) fun (v6 : Int32) =>
    rec_24 v6) hs := rfl
theorem u_j_X9_nextWeek_148 (a0 : Option Nat) (a1 : Option Nat) (a2 : Int32) (s0 : Int32) (s1 : Int32) (s2 : Option Nat) (rec_99 : Int32 → OO Int32) (hs : Hs) : j_X9_nextWeek_148 a0 a1 a2 s0 s1 s2 rec_99 hs = (
  stZ s2 s1 s0 (
    lets (a2 + (1 : Int32)) fun (v22 : Int32) =>
    rec_99 v22)) hs := rfl
theorem u_j_X9_nextWeek_147 (a0 : Option Nat) (a1 : Option Nat) (a2 : Int32) (s0 : Int32) (s1 : Option Nat) (rec_99 : Int32 → OO Int32) (hs : Hs) : j_X9_nextWeek_147 a0 a1 a2 s0 s1 rec_99 hs = (
  j_X9_nextWeek_148 a0 a1 a2 (0 : Int32) s0 s1 rec_99) hs := rfl
theorem u_j_X9_nextWeek_14 (a0 : Option Nat) (s0 : Int32) (s1 : Option Nat) (hs : Hs) : j_X9_nextWeek_14 a0 s0 s1 hs = (
  rcv s1 12 fun r34 => call (f_X9_checked r34 s0) (fun (v2 : Int32) =>
    (if v2 ≤ 0 then
    lets (0 : Int32) fun (v3 : Int32) =>
    L_X9_nextWeek_24 a0 (pI a0 12 26 (0 : Int32) (
    gI a0 12 27 fun v16 =>
    pI a0 12 27 (v16 + (1 : Int32)) (
    nwI 1 (16 : Int32) 16 fun q17 =>
    lets (some q17) fun (v18 : Option Nat) =>
    lets (0 : Int32) fun (v19 : Int32) =>
    L_X9_nextWeek_99 a0 v18 (rcv a0 12 fun r33 => call (f_X9_repairs r33 v18) (fun (v30 : Int32) =>
    lets v30 fun (v31 : Int32) =>
    gI a0 12 27 fun v32 =>
    rtn v32) nox) 100000 v19))) 100000 v3
    else
    rtn (0 : Int32))) nox) hs := rfl
theorem u_f_X9_nextWeek (a0 : Nat) (hs : Hs) : f_X9_nextWeek a0 hs = (
    gI (some a0) 12 26 fun v1 =>
    (if ¬ v1 = (4 : Int32) then
    j_X9_nextWeek_14 (some a0) (0 : Int32) (some a0)
    else
    j_X9_nextWeek_14 (some a0) (1 : Int32) (some a0))) hs := rfl
theorem u_f_X9_today (a0 : Nat) (hs : Hs) : f_X9_today a0 hs = (
    gI (some a0) 12 26 fun v1 =>
    rcv (some a0) 12 fun r3 => call (f_X9_plain r3 v1) (fun (v2 : Int32) =>
    rtn v2) nox) hs := rfl
theorem u_f_X9_account (a0 : Nat) (p1 : Int32) (hs : Hs) : f_X9_account a0 p1 hs = (
    rcv (some a0) 12 fun r6 => call (f_X9_isTeacher r6 p1) (fun (v1 : Int32) =>
    rcv (some a0) 12 fun r5 => call (f_X9_checked r5 v1) (fun (v2 : Int32) =>
    (if v2 ≤ 0 then
    gR (some a0) 12 4 fun v3 =>
    ldI 0 v3 p1 fun v4 =>
    rtn v4
    else
    rtn (0 : Int32))) nox) nox) hs := rfl
theorem u_f_X9_isVersion (a0 : Nat) (p1 : Int32) (hs : Hs) : f_X9_isVersion a0 p1 hs = (
    gI (some a0) 12 25 fun v1 =>
    call (f_X9_in p1 (0 : Int32) (v1 - (1 : Int32))) (fun (v2 : Int32) =>
    retZ v2) nox) hs := rfl
theorem u_j_X9_save_62 (a0 : Option Nat) (a1 : Int32) (s0 : Int32) (s1 : Int32) (s2 : Option Nat) (rec_25 : Int32 → OO Int32) (hs : Hs) : j_X9_save_62 a0 a1 s0 s1 s2 rec_25 hs = (
  stI s2 s1 s0 (
    lets (a1 + (1 : Int32)) fun (v7 : Int32) =>
    rec_25 v7)) hs := rfl
theorem u_j_X9_save_15 (a0 : Option Nat) (s0 : Int32) (s1 : Option Nat) (hs : Hs) : j_X9_save_15 a0 s0 s1 hs = (
  rcv s1 12 fun r12 => call (f_X9_checked r12 s0) (fun (v2 : Int32) =>
    (if v2 ≤ 0 then
    lets (0 : Int32) fun (v3 : Int32) =>
    L_X9_save_25 a0 (gI a0 12 25 fun v10 =>
    pI a0 12 25 (v10 + (1 : Int32)) (
    gI a0 12 25 fun v11 =>
    rtn (v11 - (1 : Int32)))) 100000 v3
    else
    rtn (0 : Int32))) nox) hs := rfl
theorem u_f_X9_save (a0 : Nat) (hs : Hs) : f_X9_save a0 hs = (
    gI (some a0) 12 25 fun v1 =>
    (if (6 : Int32) ≤ v1 then
    j_X9_save_15 (some a0) (0 : Int32) (some a0)
    else
    j_X9_save_15 (some a0) (1 : Int32) (some a0))) hs := rfl
theorem u_j_X9_placeIn_44 (a0 : Option Nat) (a1 : Int32) (a2 : Int32) (s0 : Int32) (s1 : Option Nat) (hs : Hs) : j_X9_placeIn_44 a0 a1 a2 s0 s1 hs = (
  pI s1 12 20 s0 (
    gI a0 12 20 fun v5 =>
    (if v5 ≤ 0 then
    gR a0 12 16 fun v6 =>
    ldI 0 v6 (((16 : Int32) * a1) + a2) fun v7 =>
    rtn v7
    else
    rtn (0 : Int32)))) hs := rfl
theorem u_f_X9_placeIn (a0 : Nat) (p1 : Int32) (p2 : Int32) (hs : Hs) : f_X9_placeIn a0 p1 p2 hs = (
    rcv (some a0) 12 fun r9 => call (f_X9_isVersion r9 p1) (fun (v1 : Int32) =>
    (if ¬ v1 = 0 then
    rcv (some a0) 12 fun r8 => call (f_X9_isLesson r8 p2) (fun (v2 : Int32) =>
    (if ¬ v2 = 0 then
    gR (some a0) 12 16 fun v3 =>
    ldI 0 v3 (((16 : Int32) * p1) + p2) fun v4 =>
    (if 0 ≤ v4 then
    j_X9_placeIn_44 (some a0) p1 p2 (0 : Int32) (some a0)
    else
    j_X9_placeIn_44 (some a0) p1 p2 (1 : Int32) (some a0))
    else
    j_X9_placeIn_44 (some a0) p1 p2 (2 : Int32) (some a0))) nox
    else
    j_X9_placeIn_44 (some a0) p1 p2 (1 : Int32) (some a0))) nox) hs := rfl
theorem u_j_X9_differences_75 (a0 : Option Nat) (a1 : Int32) (a2 : Int32) (a4 : Int32) (s0 : Int32) (s1 : Int32) (rec_35 : Int32 → Int32 → OO Int32) (hs : Hs) : j_X9_differences_75 a0 a1 a2 a4 s0 s1 rec_35 hs = (
  lets (s1 + s0) fun (v9 : Int32) =>
    lets (a4 + (1 : Int32)) fun (v10 : Int32) =>
    rec_35 v9 v10) hs := rfl
theorem u_j_X9_differences_22 (a0 : Option Nat) (a1 : Int32) (a2 : Int32) (s0 : Int32) (s1 : Option Nat) (hs : Hs) : j_X9_differences_22 a0 a1 a2 s0 s1 hs = (
  rcv s1 12 fun r12 => call (f_X9_checked r12 s0) (fun (v2 : Int32) =>
    (if v2 ≤ 0 then
    lets (0 : Int32) fun (v3 : Int32) =>
    lets (0 : Int32) fun (v4 : Int32) =>
    L_X9_differences_35 a0 a1 a2 (fun (v11 : Int32) => rtn v11) 100000 v3 v4
    else
    rtn (0 : Int32))) nox) hs := rfl
theorem u_j_X9_differences_21 (a0 : Option Nat) (a1 : Int32) (a2 : Int32) (s0 : Option Nat) (hs : Hs) : j_X9_differences_21 a0 a1 a2 s0 hs = (
  j_X9_differences_22 a0 a1 a2 (0 : Int32) s0) hs := rfl
theorem u_f_X9_differences (a0 : Nat) (p1 : Int32) (p2 : Int32) (hs : Hs) : f_X9_differences a0 p1 p2 hs = (
    rcv (some a0) 12 fun r15 => call (f_X9_isVersion r15 p1) (fun (v1 : Int32) =>
    (if v1 = 0 then
    j_X9_differences_21 (some a0) p1 p2 (some a0)
    else
    rcv (some a0) 12 fun r14 => call (f_X9_isVersion r14 p2) (fun (v13 : Int32) =>
    (if v13 = 0 then
    j_X9_differences_21 (some a0) p1 p2 (some a0)
    else
    j_X9_differences_22 (some a0) p1 p2 (1 : Int32) (some a0))) nox)) nox) hs := rfl
theorem u_j_X9_setsFree_39 (a0 : Option Nat) (a1 : Option Nat) (a2 : Int32) (s0 : Int32) (s1 : Int32) (s2 : Option Nat) (rec_7 : Int32 → OO Unit) (hs : Hs) : j_X9_setsFree_39 a0 a1 a2 s0 s1 s2 rec_7 hs = (
  stZ s2 s1 s0 (
    lets (a2 + (1 : Int32)) fun (v7 : Int32) =>
    rec_7 v7)) hs := rfl
theorem u_j_X9_setsFree_38 (a0 : Option Nat) (a1 : Option Nat) (a2 : Int32) (s0 : Int32) (s1 : Option Nat) (rec_7 : Int32 → OO Unit) (hs : Hs) : j_X9_setsFree_38 a0 a1 a2 s0 s1 rec_7 hs = (
  j_X9_setsFree_39 a0 a1 a2 (0 : Int32) s0 s1 rec_7) hs := rfl
theorem u_j_X9_setsFree_69 (a0 : Option Nat) (a1 : Option Nat) (a2 : Int32)  (rec_48 : Int32 → OO Unit) (hs : Hs) : j_X9_setsFree_69 a0 a1 a2 rec_48 hs = (
  lets (a2 + (1 : Int32)) fun (v13 : Int32) =>
    rec_48 v13) hs := rfl
theorem u_j_X9_setsFree_126 (a0 : Option Nat) (a1 : Option Nat) (a2 : Int32)  (rec_77 : Int32 → OO Unit) (hs : Hs) : j_X9_setsFree_126 a0 a1 a2 rec_77 hs = (
  lets (a2 + (1 : Int32)) fun (v18 : Int32) =>
    rec_77 v18) hs := rfl
theorem u_f_X9_setsFree (a0 : Nat) (hs : Hs) : f_X9_setsFree a0 hs = (
    nwI 1 (16 : Int32) 16 fun q1 =>
    lets (some q1) fun (v2 : Option Nat) =>
    lets (0 : Int32) fun (v3 : Int32) =>
    L_X9_setsFree_7 (some a0) v2 (lets (0 : Int32) fun (v10 : Int32) =>
    L_X9_setsFree_48 (some a0) v2 (lets (0 : Int32) fun (v15 : Int32) =>
    L_X9_setsFree_77 (some a0) v2 (rtn ()) 100000 v15) 100000 v10) 100000 v3) hs := rfl
theorem u_j_X9_restore_87 (a0 : Option Nat) (a1 : Int32) (a3 : Int32) (s0 : Int32) (s1 : Int32) (rec_53 : Int32 → Int32 → OO Int32) (hs : Hs) : j_X9_restore_87 a0 a1 a3 s0 s1 rec_53 hs = (
  lets (s1 + s0) fun (v16 : Int32) =>
    lets (a3 + (1 : Int32)) fun (v17 : Int32) =>
    rec_53 v16 v17) hs := rfl
theorem u_f_X9_restore (a0 : Nat) (p1 : Int32) (hs : Hs) : f_X9_restore a0 p1 hs = (
    rcv (some a0) 12 fun r21 => call (f_X9_isVersion r21 p1) (fun (v1 : Int32) =>
    rcv (some a0) 12 fun r20 => call (f_X9_checked r20 v1) (fun (v2 : Int32) =>
    (if v2 ≤ 0 then
    lets (0 : Int32) fun (v3 : Int32) =>
    L_X9_restore_16 (some a0) p1 (rcv (some a0) 12 fun r19 => call (f_X9_setsFree r19 ) (fun (v8 : Unit) =>
    lets (0 : Int32) fun (v9 : Int32) =>
    lets (0 : Int32) fun (v10 : Int32) =>
    L_X9_restore_53 (some a0) p1 (fun (v18 : Int32) => rtn v18) 100000 v9 v10) nox) 100000 v3
    else
    rtn (0 : Int32))) nox) nox) hs := rfl
theorem u_j_X9_merge_147 (a0 : Option Nat) (a1 : Int32) (a2 : Int32) (a4 : Int32) (s0 : Int32) (s1 : Int32) (rec_35 : Int32 → Int32 → OO Int32) (hs : Hs) : j_X9_merge_147 a0 a1 a2 a4 s0 s1 rec_35 hs = (
  lets (s1 + s0) fun (v15 : Int32) =>
    lets (a4 + (1 : Int32)) fun (v16 : Int32) =>
    rec_35 v15 v16) hs := rfl
theorem u_j_X9_merge_146 (a0 : Option Nat) (a1 : Int32) (a2 : Int32) (a4 : Int32) (s0 : Int32) (rec_35 : Int32 → Int32 → OO Int32) (hs : Hs) : j_X9_merge_146 a0 a1 a2 a4 s0 rec_35 hs = (
  j_X9_merge_147 a0 a1 a2 a4 (0 : Int32) s0 rec_35) hs := rfl
theorem u_j_X9_merge_109 (a0 : Option Nat) (a1 : Int32) (a2 : Int32) (a3 : Int32) (a4 : Int32) (a5 : Int32) (a6 : Int32) (s0 : Int32) (s1 : Int32) (s2 : Option Nat) (rec_35 : Int32 → Int32 → OO Int32) (hs : Hs) : j_X9_merge_109 a0 a1 a2 a3 a4 a5 a6 s0 s1 s2 rec_35 hs = (
  stI s2 s1 s0 (
    (if a6 = a5 then
    j_X9_merge_146 a0 a1 a2 a4 a3 rec_35
    else
    gR a0 12 14 fun v17 =>
    ldI 0 v17 a4 fun v18 =>
    (if v18 = a5 then
    j_X9_merge_146 a0 a1 a2 a4 a3 rec_35
    else
    gR a0 12 14 fun v19 =>
    ldI 0 v19 a4 fun v20 =>
    (if v20 = a6 then
    j_X9_merge_146 a0 a1 a2 a4 a3 rec_35
    else
    j_X9_merge_147 a0 a1 a2 a4 (1 : Int32) a3 rec_35))))) hs := rfl
theorem u_j_X9_merge_102 (a0 : Option Nat) (a1 : Int32) (a2 : Int32) (a3 : Int32) (a4 : Int32) (a5 : Int32) (a6 : Int32) (s0 : Int32) (s1 : Option Nat) (rec_35 : Int32 → Int32 → OO Int32) (hs : Hs) : j_X9_merge_102 a0 a1 a2 a3 a4 a5 a6 s0 s1 rec_35 hs = (
  gR a0 12 14 fun v13 =>
    ldI 0 v13 a4 fun v14 =>
    j_X9_merge_109 a0 a1 a2 a3 a4 a5 a6 v14 s0 s1 rec_35) hs := rfl
theorem u_j_X9_merge_22 (a0 : Option Nat) (a1 : Int32) (a2 : Int32) (s0 : Int32) (s1 : Option Nat) (hs : Hs) : j_X9_merge_22 a0 a1 a2 s0 s1 hs = (
  rcv s1 12 fun r26 => call (f_X9_checked r26 s0) (fun (v2 : Int32) =>
    (if v2 ≤ 0 then
    lets (0 : Int32) fun (v3 : Int32) =>
    lets (0 : Int32) fun (v4 : Int32) =>
    L_X9_merge_35 a0 a1 a2 (fun (v23 : Int32) => rcv a0 12 fun r25 => call (f_X9_setsFree r25 ) (fun (v24 : Unit) =>
    rtn v23) nox) 100000 v3 v4
    else
    rtn (0 : Int32))) nox) hs := rfl
theorem u_j_X9_merge_21 (a0 : Option Nat) (a1 : Int32) (a2 : Int32) (s0 : Option Nat) (hs : Hs) : j_X9_merge_21 a0 a1 a2 s0 hs = (
  j_X9_merge_22 a0 a1 a2 (0 : Int32) s0) hs := rfl
theorem u_f_X9_merge (a0 : Nat) (p1 : Int32) (p2 : Int32) (hs : Hs) : f_X9_merge a0 p1 p2 hs = (
    rcv (some a0) 12 fun r29 => call (f_X9_isVersion r29 p1) (fun (v1 : Int32) =>
    (if v1 = 0 then
    j_X9_merge_21 (some a0) p1 p2 (some a0)
    else
    rcv (some a0) 12 fun r28 => call (f_X9_isVersion r28 p2) (fun (v27 : Int32) =>
    (if v27 = 0 then
    j_X9_merge_21 (some a0) p1 p2 (some a0)
    else
    j_X9_merge_22 (some a0) p1 p2 (1 : Int32) (some a0))) nox)) nox) hs := rfl
theorem u_j_X9_placedShare_26 (a0 : Option Nat) (a2 : Int32) (s0 : Int32) (s1 : Int32) (rec_4 : Int32 → Int32 → OO UInt32) (hs : Hs) : j_X9_placedShare_26 a0 a2 s0 s1 rec_4 hs = (
  lets (s1 + s0) fun (v5 : Int32) =>
    lets (a2 + (1 : Int32)) fun (v6 : Int32) =>
    rec_4 v5 v6) hs := rfl
theorem u_j_X9_placedShare_47 (a0 : Option Nat) (a1 : Int32) (s0 : Int32) (s1 : Option Nat) (hs : Hs) : j_X9_placedShare_47 a0 a1 s0 s1 hs = (
  rcv s1 12 fun r13 => call (f_X9_checked r13 s0) (fun (v10 : Int32) =>
    (if v10 ≤ 0 then
    gI a0 12 24 fun v11 =>
    fdv (FP.i2f a1) (FP.i2f v11) fun v12 =>
    rtn v12
    else
    rtn FP.fconst0)) nox) hs := rfl
theorem u_f_X9_placedShare (a0 : Nat) (hs : Hs) : f_X9_placedShare a0 hs = (
    lets (0 : Int32) fun (v1 : Int32) =>
    lets (0 : Int32) fun (v2 : Int32) =>
    L_X9_placedShare_4 (some a0) (fun (v8 : Int32) => gI (some a0) 12 24 fun v9 =>
    (if v9 ≤ 0 then
    j_X9_placedShare_47 (some a0) v8 (0 : Int32) (some a0)
    else
    j_X9_placedShare_47 (some a0) v8 (1 : Int32) (some a0))) 100000 v1 v2) hs := rfl
theorem u_j_X9_meanPossible_39 (a0 : Option Nat) (a1 : Int32) (s0 : Int32) (s1 : Option Nat) (hs : Hs) : j_X9_meanPossible_39 a0 a1 s0 s1 hs = (
  rcv s1 12 fun r13 => call (f_X9_checked r13 s0) (fun (v10 : Int32) =>
    (if v10 ≤ 0 then
    gI a0 12 24 fun v11 =>
    ddv (FP.i2d a1) (FP.i2d v11) fun v12 =>
    rtn v12
    else
    rtn FP.dconst0)) nox) hs := rfl
theorem u_f_X9_meanPossible (a0 : Nat) (hs : Hs) : f_X9_meanPossible a0 hs = (
    lets (0 : Int32) fun (v1 : Int32) =>
    lets (0 : Int32) fun (v2 : Int32) =>
    L_X9_meanPossible_4 (some a0) (fun (v8 : Int32) => gI (some a0) 12 24 fun v9 =>
    (if v9 ≤ 0 then
    j_X9_meanPossible_39 (some a0) v8 (0 : Int32) (some a0)
    else
    j_X9_meanPossible_39 (some a0) v8 (1 : Int32) (some a0))) 100000 v1 v2) hs := rfl
theorem u_f_X9_isSound (a0 : Nat) (hs : Hs) : f_X9_isSound a0 hs = (
    pI (some a0) 12 20 (0 : Int32) (
    retZ (1 : Int32))) hs := rfl
