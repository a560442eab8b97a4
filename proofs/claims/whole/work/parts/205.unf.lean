theorem u_f_X0_init (a0 : Nat) (hs : Hs) : f_X0_init a0 hs = (
    nwI 0 (8 : Int32) 8 fun q1 =>
    pR (some a0) 3 0 (some q1) (
    rtn ())) hs := rfl
theorem u_f_J7_fill_53178 (p0 : Option Nat) (p1 : Int32) (hs : Hs) : f_J7_fill_53178 p0 p1 hs = (
    lets (0 : Int32) fun (v1 : Int32) =>
    alen p0 fun v2 =>
    lets v2 fun (v3 : Int32) =>
    L_J7_fill_53178_5 p0 p1 v3 (rtn ()) 100000 v1) hs := rfl
theorem u_f_Jx4a65c_size_8abf5 (a0 : Nat) (hs : Hs) : f_Jx4a65c_size_8abf5 a0 hs = (
    gI (some a0) 2 2 fun v1 =>
    rtn v1) hs := rfl
theorem u_f_J15_checkIndex_7cf53 (p0 : Int32) (p1 : Int32) (hs : Hs) : f_J15_checkIndex_7cf53 p0 p1 hs = (
    call (f_J3_checkIndex_8e157 p0 p1 none) (fun (v1 : Int32) =>
    rtn v1) nox) hs := rfl
theorem u_f_Jx4a65c_elementData_915e3 (a0 : Nat) (p1 : Int32) (hs : Hs) : f_Jx4a65c_elementData_915e3 a0 p1 hs = (
    gR (some a0) 2 1 fun v1 =>
    ldR 4 v1 p1 fun v2 =>
    rtn v2) hs := rfl
theorem u_f_Jx4a65c_get_915e3 (a0 : Nat) (p1 : Int32) (hs : Hs) : f_Jx4a65c_get_915e3 a0 p1 hs = (
    gI (some a0) 2 2 fun v1 =>
    call (f_J15_checkIndex_7cf53 p1 v1) (fun (v2 : Int32) =>
    rcv (some a0) 2 fun r4 => call (f_Jx4a65c_elementData_915e3 r4 p1) (fun (v3 : Option Nat) =>
    rtn v3) nox) nox) hs := rfl
theorem u_f_X8_has (p0 : Int32) (p1 : Int32) (hs : Hs) : f_X8_has p0 p1 hs = (
    (if (((ushr p0 p1) &&& (1 : Int32))) = 0 then
    retZ (0 : Int32)
    else
    retZ (1 : Int32))) hs := rfl
theorem u_j_X0_largestGroup_74 (a0 : Option Nat) (a1 : Int32) (a2 : Int32) (a3 : Option Nat) (a4 : Int32)  (rec_5 : Option Nat → Int32 → OO (Option Nat)) (hs : Hs) : j_X0_largestGroup_74 a0 a1 a2 a3 a4 rec_5 hs = (
  lets (a4 + (1 : Int32)) fun (v9 : Int32) =>
    rec_5 a3 v9) hs := rfl
theorem u_j_X0_largestGroup_71 (a0 : Option Nat) (a1 : Int32) (a2 : Int32) (a4 : Int32) (a5 : Option Nat)  (rec_5 : Option Nat → Int32 → OO (Option Nat)) (hs : Hs) : j_X0_largestGroup_71 a0 a1 a2 a4 a5 rec_5 hs = (
  lets a5 fun (v11 : Option Nat) =>
    j_X0_largestGroup_74 a0 a1 a2 v11 a4 rec_5) hs := rfl
theorem u_f_X0_largestGroup (p0 : Option Nat) (p1 : Int32) (p2 : Int32) (hs : Hs) : f_X0_largestGroup p0 p1 p2 hs = (
    lets none fun (v1 : Option Nat) =>
    lets (0 : Int32) fun (v2 : Int32) =>
    L_X0_largestGroup_5 p0 p1 p2 (fun (v18 : Option Nat) => rtn v18) 100000 v1 v2) hs := rfl
theorem u_j_X0_giveHour_93 (a0 : Option Nat) (a1 : Option Nat) (a2 : Option Nat) (a3 : Int32)  (rec_2 : Int32 → OO Int32) (hs : Hs) : j_X0_giveHour_93 a0 a1 a2 a3 rec_2 hs = (
  lets (a3 + (1 : Int32)) fun (v10 : Int32) =>
    rec_2 v10) hs := rfl
theorem u_f_X0_giveHour (a0 : Nat) (p1 : Option Nat) (p2 : Option Nat) (hs : Hs) : f_X0_giveHour a0 p1 p2 hs = (
    lets (0 : Int32) fun (v1 : Int32) =>
    L_X0_giveHour_2 (some a0) p1 p2 (fun (v20 : Int32) => gR (some a0) 3 0 fun v21 =>
    ldI 0 v21 v20 fun v22 =>
    stI v21 v20 (v22 + (1 : Int32)) (
    retZ (1 : Int32))) (retZ (0 : Int32)) 100000 v1) hs := rfl
theorem u_j_X0_lackByGiving_85 (a0 : Option Nat) (a1 : Option Nat) (a2 : Int32) (a4 : Int32) (a5 : Int32) (a6 : Option Nat) (a7 : Int32) (s0 : Int32) (s1 : Int32) (rec_59 : Int32 → Int32 → OO Int32) (hs : Hs) : j_X0_lackByGiving_85 a0 a1 a2 a4 a5 a6 a7 s0 s1 rec_59 hs = (
  lets (s1 + s0) fun (v15 : Int32) =>
    lets (a7 + (1 : Int32)) fun (v16 : Int32) =>
    rec_59 v15 v16) hs := rfl
theorem u_f_X0_lackByGiving (a0 : Nat) (p1 : Option Nat) (p2 : Int32) (hs : Hs) : f_X0_lackByGiving a0 p1 p2 hs = (
    gR (some a0) 3 0 fun v1 =>
    call (f_J7_fill_53178 v1 (0 : Int32)) (fun (v2 : Unit) =>
    lets (0 : Int32) fun (v3 : Int32) =>
    lets (0 : Int32) fun (v4 : Int32) =>
    lets (0 : Int32) fun (v5 : Int32) =>
    L_X0_lackByGiving_16 (some a0) p1 p2 (fun (v21 : Int32) => rtn v21) (fun (v22 : Int32) => rtn v22) 100000 v3 v4 v5) nox) hs := rfl
theorem u_j_X0_excessAbove_62 (a0 : Option Nat) (a1 : Int32) (a2 : Int32) (a4 : Int32) (s0 : Int32) (s1 : Int32) (rec_5 : Int32 → Int32 → OO Int32) (hs : Hs) : j_X0_excessAbove_62 a0 a1 a2 a4 s0 s1 rec_5 hs = (
  lets (s1 + s0) fun (v9 : Int32) =>
    lets (a4 + (1 : Int32)) fun (v10 : Int32) =>
    rec_5 v9 v10) hs := rfl
theorem u_j_X0_excessAbove_61 (a0 : Option Nat) (a1 : Int32) (a2 : Int32) (a4 : Int32) (s0 : Int32) (rec_5 : Int32 → Int32 → OO Int32) (hs : Hs) : j_X0_excessAbove_61 a0 a1 a2 a4 s0 rec_5 hs = (
  j_X0_excessAbove_62 a0 a1 a2 a4 (0 : Int32) s0 rec_5) hs := rfl
theorem u_j_X0_excessAbove_132 (a0 : Option Nat) (a1 : Int32) (a2 : Int32) (a4 : Int32) (s0 : Int32) (s1 : Int32) (rec_73 : Int32 → Int32 → OO Int32) (hs : Hs) : j_X0_excessAbove_132 a0 a1 a2 a4 s0 s1 rec_73 hs = (
  lets (s1 - s0) fun (v24 : Int32) =>
    lets (a4 + (1 : Int32)) fun (v25 : Int32) =>
    rec_73 v24 v25) hs := rfl
theorem u_j_X0_excessAbove_131 (a0 : Option Nat) (a1 : Int32) (a2 : Int32) (a4 : Int32) (s0 : Int32) (rec_73 : Int32 → Int32 → OO Int32) (hs : Hs) : j_X0_excessAbove_131 a0 a1 a2 a4 s0 rec_73 hs = (
  j_X0_excessAbove_132 a0 a1 a2 a4 (0 : Int32) s0 rec_73) hs := rfl
theorem u_f_X0_excessAbove (p0 : Option Nat) (p1 : Int32) (p2 : Int32) (hs : Hs) : f_X0_excessAbove p0 p1 p2 hs = (
    lets (0 : Int32) fun (v1 : Int32) =>
    lets (0 : Int32) fun (v2 : Int32) =>
    L_X0_excessAbove_5 p0 p1 p2 (fun (v16 : Int32) => lets (0 : Int32) fun (v17 : Int32) =>
    L_X0_excessAbove_73 p0 p1 p2 (fun (v30 : Int32) => rtn v30) 100000 v16 v17) 100000 v1 v2) hs := rfl
theorem u_f_X0_lackByNumbers (a0 : Nat) (p1 : Option Nat) (p2 : Int32) (hs : Hs) : f_X0_lackByNumbers a0 p1 p2 hs = (
    call (f_X0_excessAbove p1 p2 (0 : Int32)) (fun (v1 : Int32) =>
    lets ((if (0 : Int32) < v1 then v1 else (0 : Int32))) fun (v2 : Int32) =>
    lets (0 : Int32) fun (v3 : Int32) =>
    L_X0_lackByNumbers_14 p1 p2 (fun (v14 : Int32) => rtn v14) 100000 v2 v3) nox) hs := rfl
theorem u_f_X1_init (a0 : Nat) (hs : Hs) : f_X1_init a0 hs = (
    nwI 0 (240 : Int32) 240 fun q1 =>
    pR (some a0) 4 0 (some q1) (
    rtn ())) hs := rfl
theorem u_j_X6_unplaced_40 (a0 : Option Nat) (a2 : Int32) (s0 : Int32) (s1 : Int32) (rec_4 : Int32 → Int32 → OO Int32) (hs : Hs) : j_X6_unplaced_40 a0 a2 s0 s1 rec_4 hs = (
  lets (s1 ||| s0) fun (v8 : Int32) =>
    lets (a2 + (1 : Int32)) fun (v9 : Int32) =>
    rec_4 v8 v9) hs := rfl
theorem u_f_X6_unplaced (a0 : Nat) (hs : Hs) : f_X6_unplaced a0 hs = (
    lets (0 : Int32) fun (v1 : Int32) =>
    lets (0 : Int32) fun (v2 : Int32) =>
    L_X6_unplaced_4 (some a0) (fun (v12 : Int32) => rtn v12) 100000 v1 v2) hs := rfl
theorem u_L_J7_fill_53178_5 (a0 : Option Nat) (a1 : Int32) (a3 : Int32) (k_5_20 : OO Unit) (n : Nat) (x2 : Int32) (hs : Hs) : L_J7_fill_53178_5 a0 a1 a3 k_5_20 (n + 1) x2 hs = (
    (if a3 ≤ x2 then
    k_5_20
    else
    stI a0 x2 a1 (
    lets (x2 + (1 : Int32)) fun (v4 : Int32) =>
    (L_J7_fill_53178_5 a0 a1 a3 k_5_20 n) v4))) hs := rfl
theorem u_L_X0_largestGroup_5 (a0 : Option Nat) (a1 : Int32) (a2 : Int32) (k_5_80 : Option Nat → OO (Option Nat)) (n : Nat) (x3 : Option Nat) (x4 : Int32) (hs : Hs) : L_X0_largestGroup_5 a0 a1 a2 k_5_80 (n + 1) x3 x4 hs = (
    gR a0 9 2 fun v3 =>
    rcv v3 2 fun r17 => call (f_Jx4a65c_size_8abf5 r17 ) (fun (v4 : Int32) =>
    (if v4 ≤ x4 then
    k_5_80 x3
    else
    gR a0 9 2 fun v5 =>
    rcv v5 2 fun r16 => call (f_Jx4a65c_get_915e3 r16 x4) (fun (v6 : Option Nat) =>
    cst v6 7 (
    lets v6 fun (v7 : Option Nat) =>
    gI v7 7 3 fun v8 =>
    (if ¬ v8 = a1 then
    j_X0_largestGroup_74 a0 a1 a2 x3 x4 (L_X0_largestGroup_5 a0 a1 a2 k_5_80 n)
    else
    call (f_X8_has a2 x4) (fun (v10 : Int32) =>
    (if ¬ v10 = 0 then
    j_X0_largestGroup_74 a0 a1 a2 x3 x4 (L_X0_largestGroup_5 a0 a1 a2 k_5_80 n)
    else
    (if x3 = none then
    j_X0_largestGroup_71 a0 a1 a2 x4 v7 (L_X0_largestGroup_5 a0 a1 a2 k_5_80 n)
    else
    gR v7 7 1 fun v12 =>
    gI v12 5 0 fun v13 =>
    gR x3 7 1 fun v14 =>
    gI v14 5 0 fun v15 =>
    (if v13 ≤ v15 then
    j_X0_largestGroup_74 a0 a1 a2 x3 x4 (L_X0_largestGroup_5 a0 a1 a2 k_5_80 n)
    else
    j_X0_largestGroup_71 a0 a1 a2 x4 v7 (L_X0_largestGroup_5 a0 a1 a2 k_5_80 n))))) nox))) nox)) nox) hs := rfl
theorem u_L_X0_giveHour_2 (a0 : Option Nat) (a1 : Option Nat) (a2 : Option Nat) (k_2_81 : Int32 → OO Int32) (k_2_99 : OO Int32) (n : Nat) (x3 : Int32) (hs : Hs) : L_X0_giveHour_2 a0 a1 a2 k_2_81 k_2_99 (n + 1) x3 hs = (
    gR a1 9 0 fun v2 =>
    rcv v2 2 fun r19 => call (f_Jx4a65c_size_8abf5 r19 ) (fun (v3 : Int32) =>
    (if v3 ≤ x3 then
    k_2_99
    else
    gR a0 3 0 fun v4 =>
    alen v4 fun v5 =>
    (if v5 ≤ x3 then
    k_2_99
    else
    gR a1 9 0 fun v6 =>
    rcv v6 2 fun r18 => call (f_Jx4a65c_get_915e3 r18 x3) (fun (v7 : Option Nat) =>
    cst v7 8 (
    lets v7 fun (v8 : Option Nat) =>
    gI v8 8 4 fun v9 =>
    (if v9 = 0 then
    j_X0_giveHour_93 a0 a1 a2 x3 (L_X0_giveHour_2 a0 a1 a2 k_2_81 k_2_99 n)
    else
    gI v8 8 2 fun v11 =>
    gI a2 7 3 fun v12 =>
    (if ¬ v11 = v12 then
    j_X0_giveHour_93 a0 a1 a2 x3 (L_X0_giveHour_2 a0 a1 a2 k_2_81 k_2_99 n)
    else
    gI v8 8 3 fun v13 =>
    gR a2 7 1 fun v14 =>
    gI v14 5 0 fun v15 =>
    (if v13 < v15 then
    j_X0_giveHour_93 a0 a1 a2 x3 (L_X0_giveHour_2 a0 a1 a2 k_2_81 k_2_99 n)
    else
    gR a0 3 0 fun v16 =>
    ldI 0 v16 x3 fun v17 =>
    (if (30 : Int32) ≤ v17 then
    j_X0_giveHour_93 a0 a1 a2 x3 (L_X0_giveHour_2 a0 a1 a2 k_2_81 k_2_99 n)
    else
    k_2_81 x3)))))) nox))) nox) hs := rfl
theorem u_L_X0_lackByGiving_59 (a0 : Option Nat) (a1 : Option Nat) (a2 : Int32) (a4 : Int32) (a5 : Int32) (a6 : Option Nat) (k_59_93 : Int32 → OO Int32) (n : Nat) (x3 : Int32) (x7 : Int32) (hs : Hs) : L_X0_lackByGiving_59 a0 a1 a2 a4 a5 a6 k_59_93 (n + 1) x3 x7 hs = (
    gI a6 7 4 fun v13 =>
    (if v13 ≤ x7 then
    k_59_93 x3
    else
    rcv a0 3 fun r17 => call (f_X0_giveHour r17 a1 a6) (fun (v14 : Int32) =>
    (if v14 = 0 then
    j_X0_lackByGiving_85 a0 a1 a2 a4 a5 a6 x7 (1 : Int32) x3 (L_X0_lackByGiving_59 a0 a1 a2 a4 a5 a6 k_59_93 n)
    else
    j_X0_lackByGiving_85 a0 a1 a2 a4 a5 a6 x7 (0 : Int32) x3 (L_X0_lackByGiving_59 a0 a1 a2 a4 a5 a6 k_59_93 n))) nox)) hs := rfl
theorem u_L_X0_lackByGiving_16 (a0 : Option Nat) (a1 : Option Nat) (a2 : Int32) (k_16_42 : Int32 → OO Int32) (k_16_99 : Int32 → OO Int32) (n : Nat) (x3 : Int32) (x4 : Int32) (x5 : Int32) (hs : Hs) : L_X0_lackByGiving_16 a0 a1 a2 k_16_42 k_16_99 (n + 1) x3 x4 x5 hs = (
    gR a1 9 2 fun v6 =>
    rcv v6 2 fun r20 => call (f_Jx4a65c_size_8abf5 r20 ) (fun (v7 : Int32) =>
    (if v7 ≤ x5 then
    k_16_99 x3
    else
    call (f_X0_largestGroup a1 a2 x4) (fun (v8 : Option Nat) =>
    lets v8 fun (v9 : Option Nat) =>
    (if ¬ v9 = none then
    gI v9 7 0 fun v10 =>
    lets ((x4 ||| (((1 : Int32) <<< (v10 &&& 31))))) fun (v11 : Int32) =>
    lets (0 : Int32) fun (v12 : Int32) =>
    L_X0_lackByGiving_59 a0 a1 a2 v11 x5 v9 (fun (v18 : Int32) => lets (x5 + (1 : Int32)) fun (v19 : Int32) =>
    (L_X0_lackByGiving_16 a0 a1 a2 k_16_42 k_16_99 n) v18 v11 v19) 100000 x3 v12
    else
    k_16_42 x3)) nox)) nox) hs := rfl
theorem u_L_X0_excessAbove_5 (a0 : Option Nat) (a1 : Int32) (a2 : Int32) (k_5_70 : Int32 → OO Int32) (n : Nat) (x3 : Int32) (x4 : Int32) (hs : Hs) : L_X0_excessAbove_5 a0 a1 a2 k_5_70 (n + 1) x3 x4 hs = (
    gR a0 9 2 fun v3 =>
    rcv v3 2 fun r15 => call (f_Jx4a65c_size_8abf5 r15 ) (fun (v4 : Int32) =>
    (if v4 ≤ x4 then
    k_5_70 x3
    else
    gR a0 9 2 fun v5 =>
    rcv v5 2 fun r14 => call (f_Jx4a65c_get_915e3 r14 x4) (fun (v6 : Option Nat) =>
    cst v6 7 (
    lets v6 fun (v7 : Option Nat) =>
    gI v7 7 3 fun v8 =>
    (if ¬ v8 = a1 then
    j_X0_excessAbove_61 a0 a1 a2 x4 x3 (L_X0_excessAbove_5 a0 a1 a2 k_5_70 n)
    else
    gR v7 7 1 fun v11 =>
    gI v11 5 0 fun v12 =>
    (if v12 ≤ a2 then
    j_X0_excessAbove_61 a0 a1 a2 x4 x3 (L_X0_excessAbove_5 a0 a1 a2 k_5_70 n)
    else
    gI v7 7 4 fun v13 =>
    j_X0_excessAbove_62 a0 a1 a2 x4 v13 x3 (L_X0_excessAbove_5 a0 a1 a2 k_5_70 n))))) nox)) nox) hs := rfl
theorem u_L_X0_excessAbove_73 (a0 : Option Nat) (a1 : Int32) (a2 : Int32) (k_73_140 : Int32 → OO Int32) (n : Nat) (x3 : Int32) (x4 : Int32) (hs : Hs) : L_X0_excessAbove_73 a0 a1 a2 k_73_140 (n + 1) x3 x4 hs = (
    gR a0 9 0 fun v18 =>
    rcv v18 2 fun r29 => call (f_Jx4a65c_size_8abf5 r29 ) (fun (v19 : Int32) =>
    (if v19 ≤ x4 then
    k_73_140 x3
    else
    gR a0 9 0 fun v20 =>
    rcv v20 2 fun r28 => call (f_Jx4a65c_get_915e3 r28 x4) (fun (v21 : Option Nat) =>
    cst v21 8 (
    lets v21 fun (v22 : Option Nat) =>
    gI v22 8 4 fun v23 =>
    (if v23 = 0 then
    j_X0_excessAbove_131 a0 a1 a2 x4 x3 (L_X0_excessAbove_73 a0 a1 a2 k_73_140 n)
    else
    gI v22 8 2 fun v26 =>
    (if ¬ v26 = a1 then
    j_X0_excessAbove_131 a0 a1 a2 x4 x3 (L_X0_excessAbove_73 a0 a1 a2 k_73_140 n)
    else
    gI v22 8 3 fun v27 =>
    (if v27 ≤ a2 then
    j_X0_excessAbove_131 a0 a1 a2 x4 x3 (L_X0_excessAbove_73 a0 a1 a2 k_73_140 n)
    else
    j_X0_excessAbove_132 a0 a1 a2 x4 (30 : Int32) x3 (L_X0_excessAbove_73 a0 a1 a2 k_73_140 n)))))) nox)) nox) hs := rfl
theorem u_L_X0_lackByNumbers_14 (a1 : Option Nat) (a2 : Int32) (k_14_57 : Int32 → OO Int32) (n : Nat) (x3 : Int32) (x4 : Int32) (hs : Hs) : L_X0_lackByNumbers_14 a1 a2 k_14_57 (n + 1) x3 x4 hs = (
    gR a1 9 0 fun v4 =>
    rcv v4 2 fun r13 => call (f_Jx4a65c_size_8abf5 r13 ) (fun (v5 : Int32) =>
    (if v5 ≤ x4 then
    k_14_57 x3
    else
    gR a1 9 0 fun v6 =>
    rcv v6 2 fun r12 => call (f_Jx4a65c_get_915e3 r12 x4) (fun (v7 : Option Nat) =>
    cst v7 8 (
    gI v7 8 3 fun v8 =>
    call (f_X0_excessAbove a1 a2 v8) (fun (v9 : Int32) =>
    lets (if x3 < v9 then v9 else x3) fun (v10 : Int32) =>
    lets (x4 + (1 : Int32)) fun (v11 : Int32) =>
    (L_X0_lackByNumbers_14 a1 a2 k_14_57 n) v10 v11) nox)) nox)) nox) hs := rfl
theorem u_L_X6_unplaced_4 (a0 : Option Nat) (k_4_48 : Int32 → OO Int32) (n : Nat) (x1 : Int32) (x2 : Int32) (hs : Hs) : L_X6_unplaced_4 a0 k_4_48 (n + 1) x1 x2 hs = (
    gR a0 9 2 fun v3 =>
    rcv v3 2 fun r11 => call (f_Jx4a65c_size_8abf5 r11 ) (fun (v4 : Int32) =>
    (if v4 ≤ x2 then
    k_4_48 x1
    else
    gR a0 9 2 fun v5 =>
    rcv v5 2 fun r10 => call (f_Jx4a65c_get_915e3 r10 x2) (fun (v6 : Option Nat) =>
    cst v6 7 (
    gR v6 7 6 fun v7 =>
    (if ¬ v7 = none then
    j_X6_unplaced_40 a0 x2 (0 : Int32) x1 (L_X6_unplaced_4 a0 k_4_48 n)
    else
    j_X6_unplaced_40 a0 x2 (((1 : Int32) <<< (x2 &&& 31))) x1 (L_X6_unplaced_4 a0 k_4_48 n)))) nox)) nox) hs := rfl
theorem u_f_X4_forgetOthers (a0 : Nat) (p1 : Int32) (hs : Hs) : f_X4_forgetOthers a0 p1 hs = (
    pI (some a0) 7 11 (((((1 : Int32) <<< (((6 : Int32) * p1) &&& 31))) - (1 : Int32))) (
    pI (some a0) 7 12 (0 : Int32) (
    pI (some a0) 7 13 (0 : Int32) (
    gR (some a0) 7 14 fun v1 =>
    call (f_J7_fill_53178 v1 (0 : Int32)) (fun (v2 : Unit) =>
    gR (some a0) 7 15 fun v3 =>
    call (f_J7_fill_53178 v3 (0 : Int32)) (fun (v4 : Unit) =>
    pI (some a0) 7 16 (0 : Int32) (
    gR (some a0) 7 17 fun v5 =>
    call (f_J7_fill_53178 v5 (0 : Int32)) (fun (v6 : Unit) =>
    rtn ()) nox)) nox) nox)))) hs := rfl
theorem u_f_X4_hoursFrom (a0 : Nat) (p1 : Int32) (hs : Hs) : f_X4_hoursFrom a0 p1 hs = (
    gI (some a0) 7 4 fun v1 =>
    dvz (6 : Int32) (
    rtn (((((((((1 : Int32) <<< (v1 &&& 31))) - (1 : Int32))) <<< (p1 &&& 31))) &&& (((63 : Int32) <<< ((p1 - (irem p1 (6 : Int32))) &&& 31))))))) hs := rfl
theorem u_f_X8_slotsThatMeet (p0 : Int32) (p1 : Int32) (hs : Hs) : f_X8_slotsThatMeet p0 p1 hs = (
    lets (0 : Int32) fun (v1 : Int32) =>
    lets p0 fun (v2 : Int32) =>
    lets (0 : Int32) fun (v3 : Int32) =>
    L_X8_slotsThatMeet_7 p1 (fun (v7 : Int32) => rtn v7) 100000 v1 v2 v3) hs := rfl
theorem u_f_X8_addSlots (p0 : Option Nat) (p1 : Int32) (p2 : Int32) (hs : Hs) : f_X8_addSlots p0 p1 p2 hs = (
    (if p1 < 0 then
    rtn ()
    else
    alen p0 fun v1 =>
    (if v1 ≤ p1 then
    rtn ()
    else
    ldI 0 p0 p1 fun v2 =>
    stI p0 p1 (v2 ||| p2) (
    rtn ())))) hs := rfl
theorem u_f_X4_countMate (a0 : Nat) (p1 : Option Nat) (hs : Hs) : f_X4_countMate a0 p1 hs = (
    gI p1 7 7 fun v1 =>
    dvz (6 : Int32) (
    lets (v1 / (6 : Int32)) fun (v2 : Int32) =>
    gI p1 7 5 fun v3 =>
    gI (some a0) 7 5 fun v4 =>
    (if ¬ v3 = v4 then
    rtn ()
    else
    (if v2 < 0 then
    rtn ()
    else
    gR (some a0) 7 17 fun v5 =>
    alen v5 fun v6 =>
    (if v6 ≤ v2 then
    rtn ()
    else
    gR (some a0) 7 17 fun v7 =>
    ldI 0 v7 v2 fun v8 =>
    stI v7 v2 (v8 + (1 : Int32)) (
    rtn ())))))) hs := rfl
theorem u_j_X4_slotsTouching_34 (a0 : Option Nat) (a1 : Option Nat) (a2 : Int32) (s0 : Int32) (hs : Hs) : j_X4_slotsTouching_34 a0 a1 a2 s0 hs = (
  lets s0 fun (v4 : Int32) =>
    gI a0 7 4 fun v5 =>
    (if a2 < v5 then
    lets (0 : Int32) fun (v6 : Int32) =>
    rtn (v4 ||| v6)
    else
    gI a1 7 7 fun v7 =>
    gI a0 7 4 fun v8 =>
    lets (((1 : Int32) <<< ((v7 - v8) &&& 31))) fun (v9 : Int32) =>
    rtn (v4 ||| v9))) hs := rfl
theorem u_f_X4_slotsTouching (a0 : Nat) (p1 : Option Nat) (hs : Hs) : f_X4_slotsTouching a0 p1 hs = (
    gI p1 7 7 fun v1 =>
    dvz (6 : Int32) (
    lets (irem v1 (6 : Int32)) fun (v2 : Int32) =>
    gI p1 7 4 fun v3 =>
    (if (6 : Int32) ≤ (v2 + v3) then
    j_X4_slotsTouching_34 (some a0) p1 v2 (0 : Int32)
    else
    gI p1 7 7 fun v10 =>
    gI p1 7 4 fun v11 =>
    j_X4_slotsTouching_34 (some a0) p1 v2 (((1 : Int32) <<< ((v10 + v11) &&& 31)))))) hs := rfl
theorem u_j_X4_addWay_28 (a0 : Option Nat) (a1 : Int32) (a2 : Int32) (a3 : Int32) (s0 : Int32) (s1 : Int32) (s2 : Int32) (s3 : Option Nat) (rec_2 : Int32 → OO Unit) (hs : Hs) : j_X4_addWay_28 a0 a1 a2 a3 s0 s1 s2 s3 rec_2 hs = (
  stI s3 s2 (s1 ||| s0) (
    lets (a3 + (1 : Int32)) fun (v6 : Int32) =>
    rec_2 v6)) hs := rfl
theorem u_f_X4_addWay (a0 : Nat) (p1 : Int32) (p2 : Int32) (hs : Hs) : f_X4_addWay a0 p1 p2 hs = (
    lets (0 : Int32) fun (v1 : Int32) =>
    L_X4_addWay_2 (some a0) p1 p2 (rtn ()) 100000 v1) hs := rfl
theorem u_j_X4_see_128 (a0 : Option Nat) (a1 : Option Nat) (a2 : Option Nat) (hs : Hs) : j_X4_see_128 a0 a1 a2 hs = (
  gI a2 8 1 fun v18 =>
    rcv a0 7 fun r22 => call (f_X4_slotsTouching r22 a1) (fun (v19 : Int32) =>
    rcv a0 7 fun r21 => call (f_X4_addWay r21 v18 v19) (fun (v20 : Unit) =>
    rtn ()) nox) nox) hs := rfl
theorem u_j_X4_see_106 (a0 : Option Nat) (a1 : Option Nat) (a2 : Option Nat) (hs : Hs) : j_X4_see_106 a0 a1 a2 hs = (
  gR a1 7 2 fun v16 =>
    gR a0 7 2 fun v17 =>
    (if v16 = v17 then
    j_X4_see_128 a0 a1 a2
    else
    gR a1 7 1 fun v23 =>
    gR a0 7 1 fun v24 =>
    (if ¬ v23 = v24 then
    rtn ()
    else
    j_X4_see_128 a0 a1 a2))) hs := rfl
theorem u_j_X4_see_69 (a0 : Option Nat) (a1 : Option Nat) (a2 : Option Nat) (a3 : Int32) (a4 : Int32) (hs : Hs) : j_X4_see_69 a0 a1 a2 a3 a4 hs = (
  gR a1 7 1 fun v14 =>
    gR a0 7 1 fun v15 =>
    (if ¬ v14 = v15 then
    j_X4_see_106 a0 a1 a2
    else
    gI a0 7 13 fun v25 =>
    pI a0 7 13 (v25 ||| a4) (
    gI a0 7 16 fun v26 =>
    pI a0 7 16 (v26 ||| a3) (
    rcv a0 7 fun r28 => call (f_X4_countMate r28 a1) (fun (v27 : Unit) =>
    j_X4_see_106 a0 a1 a2) nox)))) hs := rfl
theorem u_f_X4_see (a0 : Nat) (p1 : Option Nat) (hs : Hs) : f_X4_see a0 p1 hs = (
    gR p1 7 6 fun v1 =>
    lets v1 fun (v2 : Option Nat) =>
    (if p1 = (some a0) then
    rtn ()
    else
    (if ¬ v2 = none then
    gI p1 7 7 fun v3 =>
    rcv p1 7 fun r30 => call (f_X4_hoursFrom r30 v3) (fun (v4 : Int32) =>
    lets v4 fun (v5 : Int32) =>
    gI (some a0) 7 4 fun v6 =>
    call (f_X8_slotsThatMeet v5 v6) (fun (v7 : Int32) =>
    lets v7 fun (v8 : Int32) =>
    gR (some a0) 7 14 fun v9 =>
    gI v2 8 0 fun v10 =>
    call (f_X8_addSlots v9 v10 v8) (fun (v11 : Unit) =>
    gR p1 7 2 fun v12 =>
    gR (some a0) 7 2 fun v13 =>
    (if ¬ v12 = v13 then
    j_X4_see_69 (some a0) p1 v2 v5 v8
    else
    gI (some a0) 7 12 fun v29 =>
    pI (some a0) 7 12 (v29 ||| v8) (
    j_X4_see_69 (some a0) p1 v2 v5 v8))) nox) nox) nox
    else
    rtn ()))) hs := rfl
theorem u_f_X6_lookAround (a0 : Nat) (p1 : Option Nat) (hs : Hs) : f_X6_lookAround a0 p1 hs = (
    gI (some a0) 9 5 fun v1 =>
    rcv p1 7 fun r13 => call (f_X4_forgetOthers r13 v1) (fun (v2 : Unit) =>
    lets (0 : Int32) fun (v3 : Int32) =>
    L_X6_lookAround_10 (some a0) p1 (rtn ()) 100000 v3) nox) hs := rfl
theorem u_f_X8_at (p0 : Option Nat) (p1 : Int32) (hs : Hs) : f_X8_at p0 p1 hs = (
    (if p1 < 0 then
    rtn (0 : Int32)
    else
    alen p0 fun v1 =>
    (if v1 ≤ p1 then
    rtn (0 : Int32)
    else
    ldI 0 p0 p1 fun v2 =>
    rtn v2))) hs := rfl
theorem u_f_X4_barredBy (a0 : Nat) (p1 : Int32) (p2 : Option Nat) (hs : Hs) : f_X4_barredBy a0 p1 p2 hs = (
    (if p1 = (0 : Int32) then
    gI (some a0) 7 9 fun v18 =>
    rtn v18
    else
    (if p1 = (1 : Int32) then
    gI (some a0) 7 11 fun v17 =>
    rtn v17
    else
    (if p1 = (2 : Int32) then
    gR (some a0) 7 2 fun v15 =>
    gI v15 10 1 fun v16 =>
    rtn v16
    else
    (if p1 = (3 : Int32) then
    gI p2 8 2 fun v13 =>
    gI (some a0) 7 3 fun v14 =>
    (if v13 = v14 then
    rtn (0 : Int32)
    else
    rtn (1073741823 : Int32))
    else
    (if p1 = (4 : Int32) then
    gI p2 8 3 fun v10 =>
    gR (some a0) 7 1 fun v11 =>
    gI v11 5 0 fun v12 =>
    (if v12 ≤ v10 then
    rtn (0 : Int32)
    else
    rtn (1073741823 : Int32))
    else
    (if p1 = (5 : Int32) then
    gI p2 8 4 fun v9 =>
    (if v9 = 0 then
    rtn (1073741823 : Int32)
    else
    rtn (0 : Int32))
    else
    (if p1 = (6 : Int32) then
    gR (some a0) 7 14 fun v6 =>
    gI p2 8 0 fun v7 =>
    call (f_X8_at v6 v7) (fun (v8 : Int32) =>
    rtn v8) nox
    else
    (if p1 = (7 : Int32) then
    gI (some a0) 7 12 fun v5 =>
    rtn v5
    else
    (if p1 = (8 : Int32) then
    gI (some a0) 7 13 fun v4 =>
    rtn v4
    else
    (if p1 = (9 : Int32) then
    gR (some a0) 7 15 fun v1 =>
    gI p2 8 1 fun v2 =>
    call (f_X8_at v1 v2) (fun (v3 : Int32) =>
    rtn v3) nox
    else
    rtn (0 : Int32)))))))))))) hs := rfl
theorem u_f_X4_findPossibleSlots (a0 : Nat) (p1 : Option Nat) (hs : Hs) : f_X4_findPossibleSlots a0 p1 hs = (
    gR (some a0) 7 10 fun v1 =>
    call (f_J7_fill_53178 v1 (0 : Int32)) (fun (v2 : Unit) =>
    lets (0 : Int32) fun (v3 : Int32) =>
    L_X4_findPossibleSlots_10 (some a0) p1 (rtn ()) 100000 v3) nox) hs := rfl
theorem u_f_X6_judgePlaces (a0 : Nat) (p1 : Option Nat) (hs : Hs) : f_X6_judgePlaces a0 p1 hs = (
    rcv (some a0) 9 fun r5 => call (f_X6_lookAround r5 p1) (fun (v1 : Unit) =>
    gR (some a0) 9 0 fun v2 =>
    rcv p1 7 fun r4 => call (f_X4_findPossibleSlots r4 v2) (fun (v3 : Unit) =>
    rtn ()) nox) nox) hs := rfl
theorem u_f_J6_bitCount_0f7a4 (p0 : Int32) (hs : Hs) : f_J6_bitCount_0f7a4 p0 hs = (
    lets ((p0 - (((ushr p0 (1 : Int32)) &&& (1431655765 : Int32))))) fun (v1 : Int32) =>
    lets (((v1 &&& (858993459 : Int32)) + (((ushr v1 (2 : Int32)) &&& (858993459 : Int32))))) fun (v2 : Int32) =>
    lets (((v2 + (ushr v2 (4 : Int32))) &&& (252645135 : Int32))) fun (v3 : Int32) =>
    lets (v3 + (ushr v3 (8 : Int32))) fun (v4 : Int32) =>
    lets (v4 + (ushr v4 (16 : Int32))) fun (v5 : Int32) =>
    rtn (v5 &&& (63 : Int32))) hs := rfl
theorem u_f_X4_countPossiblePlaces (a0 : Nat) (hs : Hs) : f_X4_countPossiblePlaces a0 hs = (
    lets (0 : Int32) fun (v1 : Int32) =>
    lets (0 : Int32) fun (v2 : Int32) =>
    L_X4_countPossiblePlaces_4 (some a0) (fun (v10 : Int32) => rtn v10) 100000 v1 v2) hs := rfl
theorem u_L_X8_slotsThatMeet_7 (a1 : Int32) (k_7_31 : Int32 → OO Int32) (n : Nat) (x2 : Int32) (x3 : Int32) (x4 : Int32) (hs : Hs) : L_X8_slotsThatMeet_7 a1 k_7_31 (n + 1) x2 x3 x4 hs = (
    (if a1 ≤ x4 then
    k_7_31 x2
    else
    lets (x2 ||| x3) fun (v4 : Int32) =>
    lets ((ushr (x3 &&& (-17043522 : Int32)) (1 : Int32))) fun (v5 : Int32) =>
    lets (x4 + (1 : Int32)) fun (v6 : Int32) =>
    (L_X8_slotsThatMeet_7 a1 k_7_31 n) v4 v5 v6)) hs := rfl
theorem u_L_X4_addWay_2 (a0 : Option Nat) (a1 : Int32) (a2 : Int32) (k_2_36 : OO Unit) (n : Nat) (x3 : Int32) (hs : Hs) : L_X4_addWay_2 a0 a1 a2 k_2_36 (n + 1) x3 hs = (
    gR a0 7 15 fun v2 =>
    alen v2 fun v3 =>
    (if v3 ≤ x3 then
    k_2_36
    else
    gR a0 7 15 fun v4 =>
    ldI 0 v4 x3 fun v5 =>
    (if ¬ x3 = a1 then
    j_X4_addWay_28 a0 a1 a2 x3 a2 v5 x3 v4 (L_X4_addWay_2 a0 a1 a2 k_2_36 n)
    else
    j_X4_addWay_28 a0 a1 a2 x3 (0 : Int32) v5 x3 v4 (L_X4_addWay_2 a0 a1 a2 k_2_36 n)))) hs := rfl
theorem u_L_X6_lookAround_10 (a0 : Option Nat) (a1 : Option Nat) (k_10_42 : OO Unit) (n : Nat) (x2 : Int32) (hs : Hs) : L_X6_lookAround_10 a0 a1 k_10_42 (n + 1) x2 hs = (
    gR a0 9 2 fun v4 =>
    rcv v4 2 fun r12 => call (f_Jx4a65c_size_8abf5 r12 ) (fun (v5 : Int32) =>
    (if v5 ≤ x2 then
    k_10_42
    else
    gR a0 9 2 fun v6 =>
    rcv v6 2 fun r11 => call (f_Jx4a65c_get_915e3 r11 x2) (fun (v7 : Option Nat) =>
    cst v7 7 (
    rcv a1 7 fun r10 => call (f_X4_see r10 v7) (fun (v8 : Unit) =>
    lets (x2 + (1 : Int32)) fun (v9 : Int32) =>
    (L_X6_lookAround_10 a0 a1 k_10_42 n) v9) nox)) nox)) nox) hs := rfl
theorem u_L_X4_findPossibleSlots_37 (a0 : Option Nat) (a1 : Option Nat) (a2 : Int32) (k_37_76 : OO Unit) (n : Nat) (x3 : Int32) (hs : Hs) : L_X4_findPossibleSlots_37 a0 a1 a2 k_37_76 (n + 1) x3 hs = (
    (if (10 : Int32) ≤ x3 then
    k_37_76
    else
    gR a0 7 10 fun v9 =>
    ldI 0 v9 a2 fun v10 =>
    rcv a1 2 fun r15 => call (f_Jx4a65c_get_915e3 r15 a2) (fun (v11 : Option Nat) =>
    cst v11 8 (
    rcv a0 7 fun r14 => call (f_X4_barredBy r14 x3 v11) (fun (v12 : Int32) =>
    stI v9 a2 (v10 &&& (v12 ^^^ (-1 : Int32))) (
    lets (x3 + (1 : Int32)) fun (v13 : Int32) =>
    (L_X4_findPossibleSlots_37 a0 a1 a2 k_37_76 n) v13)) nox)) nox)) hs := rfl
theorem u_L_X4_findPossibleSlots_10 (a0 : Option Nat) (a1 : Option Nat) (k_10_82 : OO Unit) (n : Nat) (x2 : Int32) (hs : Hs) : L_X4_findPossibleSlots_10 a0 a1 k_10_82 (n + 1) x2 hs = (
    rcv a1 2 fun r17 => call (f_Jx4a65c_size_8abf5 r17 ) (fun (v4 : Int32) =>
    (if v4 ≤ x2 then
    k_10_82
    else
    gR a0 7 10 fun v5 =>
    alen v5 fun v6 =>
    (if v6 ≤ x2 then
    k_10_82
    else
    gR a0 7 10 fun v7 =>
    stI v7 x2 (1073741823 : Int32) (
    lets (0 : Int32) fun (v8 : Int32) =>
    L_X4_findPossibleSlots_37 a0 a1 x2 (lets (x2 + (1 : Int32)) fun (v16 : Int32) =>
    (L_X4_findPossibleSlots_10 a0 a1 k_10_82 n) v16) 100000 v8)))) nox) hs := rfl
theorem u_L_X4_countPossiblePlaces_4 (a0 : Option Nat) (k_4_31 : Int32 → OO Int32) (n : Nat) (x1 : Int32) (x2 : Int32) (hs : Hs) : L_X4_countPossiblePlaces_4 a0 k_4_31 (n + 1) x1 x2 hs = (
    gR a0 7 10 fun v3 =>
    alen v3 fun v4 =>
    (if v4 ≤ x2 then
    k_4_31 x1
    else
    gR a0 7 10 fun v5 =>
    ldI 0 v5 x2 fun v6 =>
    call (f_J6_bitCount_0f7a4 v6) (fun (v7 : Int32) =>
    lets (x1 + v7) fun (v8 : Int32) =>
    lets (x2 + (1 : Int32)) fun (v9 : Int32) =>
    (L_X4_countPossiblePlaces_4 a0 k_4_31 n) v8 v9) nox)) hs := rfl
theorem u_f_X6_countPossible (a0 : Nat) (p1 : Option Nat) (hs : Hs) : f_X6_countPossible a0 p1 hs = (
    rcv (some a0) 9 fun r4 => call (f_X6_judgePlaces r4 p1) (fun (v1 : Unit) =>
    rcv p1 7 fun r3 => call (f_X4_countPossiblePlaces r3 ) (fun (v2 : Int32) =>
    rtn v2) nox) nox) hs := rfl
theorem u_j_X6_findHardest_72 (a0 : Option Nat) (a1 : Int32) (a2 : Option Nat) (a3 : Int32) (a4 : Int32)  (rec_7 : Option Nat → Int32 → Int32 → OO (Option Nat)) (hs : Hs) : j_X6_findHardest_72 a0 a1 a2 a3 a4 rec_7 hs = (
  lets (a4 + (1 : Int32)) fun (v7 : Int32) =>
    rec_7 a2 a3 v7) hs := rfl
theorem u_j_X6_findHardest_56 (a0 : Option Nat) (a1 : Int32) (a4 : Int32) (a5 : Int32)  (rec_7 : Option Nat → Int32 → Int32 → OO (Option Nat)) (hs : Hs) : j_X6_findHardest_56 a0 a1 a4 a5 rec_7 hs = (
  gR a0 9 2 fun v12 =>
    rcv v12 2 fun r16 => call (f_Jx4a65c_get_915e3 r16 a4) (fun (v13 : Option Nat) =>
    cst v13 7 (
    lets v13 fun (v14 : Option Nat) =>
    lets a5 fun (v15 : Int32) =>
    j_X6_findHardest_72 a0 a1 v14 v15 a4 rec_7)) nox) hs := rfl
theorem u_f_X6_findHardest (a0 : Nat) (p1 : Int32) (hs : Hs) : f_X6_findHardest a0 p1 hs = (
    lets none fun (v1 : Option Nat) =>
    lets (0 : Int32) fun (v2 : Int32) =>
    lets (0 : Int32) fun (v3 : Int32) =>
    L_X6_findHardest_7 (some a0) p1 (fun (v20 : Option Nat) => rtn v20) 100000 v1 v2 v3) hs := rfl
theorem u_f_X4_firstRoomAt (a0 : Nat) (p1 : Int32) (hs : Hs) : f_X4_firstRoomAt a0 p1 hs = (
    lets (0 : Int32) fun (v1 : Int32) =>
    L_X4_firstRoomAt_2 (some a0) p1 (fun (v8 : Int32) => rtn v8) (rtn (-1 : Int32)) 100000 v1) hs := rfl
theorem u_f_X8_slotsOfDay (p0 : Int32) (hs : Hs) : f_X8_slotsOfDay p0 hs = (
    rtn (((63 : Int32) <<< (((6 : Int32) * p0) &&& 31)))) hs := rfl
theorem u_f_X8_gapsAmong (p0 : Int32) (hs : Hs) : f_X8_gapsAmong p0 hs = (
    lets (p0 ||| (p0 <<< ((1 : Int32) &&& 31))) fun (v1 : Int32) =>
    lets (v1 ||| (v1 <<< ((2 : Int32) &&& 31))) fun (v2 : Int32) =>
    lets (v2 ||| (v2 <<< ((4 : Int32) &&& 31))) fun (v3 : Int32) =>
    lets (p0 ||| (ushr p0 (1 : Int32))) fun (v4 : Int32) =>
    lets (v4 ||| (ushr v4 (2 : Int32))) fun (v5 : Int32) =>
    lets (v5 ||| (ushr v5 (4 : Int32))) fun (v6 : Int32) =>
    rtn (((v3 &&& v6) &&& (p0 ^^^ (-1 : Int32))))) hs := rfl
theorem u_j_X4_wishesIn_45 (a0 : Option Nat) (a3 : Int32) (a4 : Int32) (s0 : Int32) (s1 : Int32) (rec_7 : Int32 → Int32 → Int32 → OO Int32) (hs : Hs) : j_X4_wishesIn_45 a0 a3 a4 s0 s1 rec_7 hs = (
  lets (s1 + s0) fun (v7 : Int32) =>
    lets (ushr a3 (1 : Int32)) fun (v8 : Int32) =>
    lets (a4 + (1 : Int32)) fun (v9 : Int32) =>
    rec_7 v7 v8 v9) hs := rfl
theorem u_f_X4_wishesIn (a0 : Nat) (p1 : Int32) (hs : Hs) : f_X4_wishesIn a0 p1 hs = (
    lets (0 : Int32) fun (v1 : Int32) =>
    lets p1 fun (v2 : Int32) =>
    lets (0 : Int32) fun (v3 : Int32) =>
    L_X4_wishesIn_7 (some a0) (fun (v13 : Int32) => rtn v13) 100000 v1 v2 v3) hs := rfl
theorem u_f_X4_addedTo (a0 : Nat) (p1 : Int32) (p2 : Int32) (hs : Hs) : f_X4_addedTo a0 p1 p2 hs = (
    rcv (some a0) 7 fun r16 => call (f_X4_hoursFrom r16 p2) (fun (v1 : Int32) =>
    lets v1 fun (v2 : Int32) =>
    (if p1 = (0 : Int32) then
    gI (some a0) 7 16 fun v9 =>
    dvz (6 : Int32) (
    call (f_X8_slotsOfDay (p2 / (6 : Int32))) (fun (v10 : Int32) =>
    lets (v9 &&& v10) fun (v11 : Int32) =>
    call (f_X8_gapsAmong (v11 ||| v2)) (fun (v12 : Int32) =>
    call (f_J6_bitCount_0f7a4 v12) (fun (v13 : Int32) =>
    call (f_X8_gapsAmong v11) (fun (v14 : Int32) =>
    call (f_J6_bitCount_0f7a4 v14) (fun (v15 : Int32) =>
    rtn (v13 - v15)) nox) nox) nox) nox) nox)
    else
    (if p1 = (1 : Int32) then
    (if (v2 &&& (545392672 : Int32)) = 0 then
    rtn (0 : Int32)
    else
    gR (some a0) 7 2 fun v7 =>
    gI v7 10 2 fun v8 =>
    rtn ((1 : Int32) + v8))
    else
    (if p1 = (2 : Int32) then
    rcv (some a0) 7 fun r6 => call (f_X4_wishesIn r6 v2) (fun (v5 : Int32) =>
    rtn v5) nox
    else
    (if p1 = (3 : Int32) then
    gR (some a0) 7 17 fun v3 =>
    dvz (6 : Int32) (
    call (f_X8_at v3 (p2 / (6 : Int32))) (fun (v4 : Int32) =>
    rtn v4) nox)
    else
    rtn (0 : Int32)))))) nox) hs := rfl
theorem u_j_X6_addedCost_45 (a0 : Option Nat) (a1 : Option Nat) (a2 : Int32) (a4 : Int32) (s0 : Int32) (s1 : Int32) (rec_5 : Int32 → Int32 → OO Int32) (hs : Hs) : j_X6_addedCost_45 a0 a1 a2 a4 s0 s1 rec_5 hs = (
  lets (s1 + s0) fun (v10 : Int32) =>
    lets (a4 + (1 : Int32)) fun (v11 : Int32) =>
    rec_5 v10 v11) hs := rfl
theorem u_f_X6_addedCost (a0 : Nat) (p1 : Option Nat) (p2 : Int32) (hs : Hs) : f_X6_addedCost a0 p1 p2 hs = (
    lets (0 : Int32) fun (v1 : Int32) =>
    lets (0 : Int32) fun (v2 : Int32) =>
    L_X6_addedCost_5 (some a0) p1 p2 (fun (v13 : Int32) => rtn v13) 100000 v1 v2) hs := rfl
theorem u_j_X6_cheapestAmongJudged_60 (a0 : Option Nat) (a1 : Option Nat) (a2 : Int32) (a3 : Int32) (a4 : Int32)  (rec_7 : Int32 → Int32 → Int32 → OO Int32) (hs : Hs) : j_X6_cheapestAmongJudged_60 a0 a1 a2 a3 a4 rec_7 hs = (
  lets (a4 + (1 : Int32)) fun (v6 : Int32) =>
    rec_7 a2 a3 v6) hs := rfl
theorem u_j_X6_cheapestAmongJudged_48 (a0 : Option Nat) (a1 : Option Nat) (a4 : Int32) (a5 : Int32) (a6 : Int32)  (rec_7 : Int32 → Int32 → Int32 → OO Int32) (hs : Hs) : j_X6_cheapestAmongJudged_48 a0 a1 a4 a5 a6 rec_7 hs = (
  lets (((8 : Int32) * a4) + a5) fun (v9 : Int32) =>
    lets a6 fun (v10 : Int32) =>
    j_X6_cheapestAmongJudged_60 a0 a1 v9 v10 a4 rec_7) hs := rfl
theorem u_f_X6_cheapestAmongJudged (a0 : Nat) (p1 : Option Nat) (hs : Hs) : f_X6_cheapestAmongJudged a0 p1 hs = (
    lets (-1 : Int32) fun (v1 : Int32) =>
    lets (0 : Int32) fun (v2 : Int32) =>
    lets (0 : Int32) fun (v3 : Int32) =>
    L_X6_cheapestAmongJudged_7 (some a0) p1 (fun (v13 : Int32) => rtn v13) 100000 v1 v2 v3) hs := rfl
theorem u_f_X6_findCheapest (a0 : Nat) (p1 : Option Nat) (hs : Hs) : f_X6_findCheapest a0 p1 hs = (
    rcv (some a0) 9 fun r4 => call (f_X6_judgePlaces r4 p1) (fun (v1 : Unit) =>
    rcv (some a0) 9 fun r3 => call (f_X6_cheapestAmongJudged r3 p1) (fun (v2 : Int32) =>
    rtn v2) nox) nox) hs := rfl
theorem u_f_X6_changeAmounts (a0 : Nat) (p1 : Option Nat) (p2 : Int32) (hs : Hs) : f_X6_changeAmounts a0 p1 p2 hs = (
    lets (0 : Int32) fun (v1 : Int32) =>
    L_X6_changeAmounts_2 (some a0) p1 p2 (rtn ()) 100000 v1) hs := rfl
theorem u_f_X6_put (a0 : Nat) (p1 : Option Nat) (p2 : Int32) (p3 : Option Nat) (hs : Hs) : f_X6_put a0 p1 p2 p3 hs = (
    rcv (some a0) 9 fun r6 => call (f_X6_lookAround r6 p1) (fun (v1 : Unit) =>
    rcv (some a0) 9 fun r5 => call (f_X6_changeAmounts r5 p1 (-1 : Int32)) (fun (v2 : Unit) =>
    pI p1 7 7 p2 (
    pR p1 7 6 p3 (
    rcv (some a0) 9 fun r4 => call (f_X6_changeAmounts r4 p1 (1 : Int32)) (fun (v3 : Unit) =>
    rtn ()) nox))) nox) nox) hs := rfl
theorem u_f_X6_putAt (a0 : Nat) (p1 : Option Nat) (p2 : Int32) (hs : Hs) : f_X6_putAt a0 p1 p2 hs = (
    dvz (8 : Int32) (
    lets (irem p2 (8 : Int32)) fun (v1 : Int32) =>
    (if p2 < 0 then
    rtn ()
    else
    dvz (8 : Int32) (
    (if (30 : Int32) ≤ (p2 / (8 : Int32)) then
    rtn ()
    else
    gR (some a0) 9 0 fun v2 =>
    rcv v2 2 fun r9 => call (f_Jx4a65c_size_8abf5 r9 ) (fun (v3 : Int32) =>
    (if v3 ≤ v1 then
    rtn ()
    else
    dvz (8 : Int32) (
    gR (some a0) 9 0 fun v4 =>
    rcv v4 2 fun r8 => call (f_Jx4a65c_get_915e3 r8 v1) (fun (v5 : Option Nat) =>
    cst v5 8 (
    rcv (some a0) 9 fun r7 => call (f_X6_put r7 p1 (p2 / (8 : Int32)) v5) (fun (v6 : Unit) =>
    rtn ()) nox)) nox))) nox))))) hs := rfl
theorem u_f_X4_barredByOneOf (a0 : Nat) (p1 : Int32) (p2 : Int32) (p3 : Option Nat) (hs : Hs) : f_X4_barredByOneOf a0 p1 p2 p3 hs = (
    lets (0 : Int32) fun (v1 : Int32) =>
    lets p1 fun (v2 : Int32) =>
    L_X4_barredByOneOf_6 (some a0) p2 p3 (fun (v7 : Int32) => rtn v7) 100000 v1 v2) hs := rfl
theorem u_f_X1_openSlots (p0 : Option Nat) (p1 : Option Nat) (hs : Hs) : f_X1_openSlots p0 p1 hs = (
    rcv p0 7 fun r2 => call (f_X4_barredByOneOf r2 (0 : Int32) (6 : Int32) p1) (fun (v1 : Int32) =>
    rtn (((1073741823 : Int32) &&& (v1 ^^^ (-1 : Int32))))) nox) hs := rfl
theorem u_L_X6_findHardest_7 (a0 : Option Nat) (a1 : Int32) (k_7_78 : Option Nat → OO (Option Nat)) (n : Nat) (x2 : Option Nat) (x3 : Int32) (x4 : Int32) (hs : Hs) : L_X6_findHardest_7 a0 a1 k_7_78 (n + 1) x2 x3 x4 hs = (
    gR a0 9 2 fun v4 =>
    rcv v4 2 fun r19 => call (f_Jx4a65c_size_8abf5 r19 ) (fun (v5 : Int32) =>
    (if v5 ≤ x4 then
    k_7_78 x2
    else
    call (f_X8_has a1 x4) (fun (v6 : Int32) =>
    (if v6 = 0 then
    j_X6_findHardest_72 a0 a1 x2 x3 x4 (L_X6_findHardest_7 a0 a1 k_7_78 n)
    else
    gR a0 9 2 fun v8 =>
    rcv v8 2 fun r18 => call (f_Jx4a65c_get_915e3 r18 x4) (fun (v9 : Option Nat) =>
    cst v9 7 (
    rcv a0 9 fun r17 => call (f_X6_countPossible r17 v9) (fun (v10 : Int32) =>
    lets v10 fun (v11 : Int32) =>
    (if x2 = none then
    j_X6_findHardest_56 a0 a1 x4 v11 (L_X6_findHardest_7 a0 a1 k_7_78 n)
    else
    (if x3 ≤ v11 then
    j_X6_findHardest_72 a0 a1 x2 x3 x4 (L_X6_findHardest_7 a0 a1 k_7_78 n)
    else
    j_X6_findHardest_56 a0 a1 x4 v11 (L_X6_findHardest_7 a0 a1 k_7_78 n)))) nox)) nox)) nox)) nox) hs := rfl
theorem u_L_X4_firstRoomAt_2 (a0 : Option Nat) (a1 : Int32) (k_2_24 : Int32 → OO Int32) (k_2_32 : OO Int32) (n : Nat) (x2 : Int32) (hs : Hs) : L_X4_firstRoomAt_2 a0 a1 k_2_24 k_2_32 (n + 1) x2 hs = (
    gR a0 7 10 fun v2 =>
    alen v2 fun v3 =>
    (if v3 ≤ x2 then
    k_2_32
    else
    gR a0 7 10 fun v4 =>
    ldI 0 v4 x2 fun v5 =>
    call (f_X8_has v5 a1) (fun (v6 : Int32) =>
    (if v6 = 0 then
    lets (x2 + (1 : Int32)) fun (v7 : Int32) =>
    (L_X4_firstRoomAt_2 a0 a1 k_2_24 k_2_32 n) v7
    else
    k_2_24 x2)) nox)) hs := rfl
theorem u_L_X4_wishesIn_7 (a0 : Option Nat) (k_7_57 : Int32 → OO Int32) (n : Nat) (x2 : Int32) (x3 : Int32) (x4 : Int32) (hs : Hs) : L_X4_wishesIn_7 a0 k_7_57 (n + 1) x2 x3 x4 hs = (
    gR a0 7 2 fun v4 =>
    gR v4 10 0 fun v5 =>
    alen v5 fun v6 =>
    (if v6 ≤ x4 then
    k_7_57 x2
    else
    (if x3 = 0 then
    k_7_57 x2
    else
    (if (x3 &&& (1 : Int32)) = 0 then
    j_X4_wishesIn_45 a0 x3 x4 (0 : Int32) x2 (L_X4_wishesIn_7 a0 k_7_57 n)
    else
    gR a0 7 2 fun v10 =>
    gR v10 10 0 fun v11 =>
    ldI 0 v11 x4 fun v12 =>
    j_X4_wishesIn_45 a0 x3 x4 v12 x2 (L_X4_wishesIn_7 a0 k_7_57 n))))) hs := rfl
theorem u_L_X6_addedCost_5 (a0 : Option Nat) (a1 : Option Nat) (a2 : Int32) (k_5_53 : Int32 → OO Int32) (n : Nat) (x3 : Int32) (x4 : Int32) (hs : Hs) : L_X6_addedCost_5 a0 a1 a2 k_5_53 (n + 1) x3 x4 hs = (
    gR a0 9 3 fun v3 =>
    alen v3 fun v4 =>
    (if v4 ≤ x4 then
    k_5_53 x3
    else
    gR a0 9 3 fun v5 =>
    ldI 0 v5 x4 fun v6 =>
    (if ¬ v6 = 0 then
    gR a0 9 3 fun v7 =>
    ldI 0 v7 x4 fun v8 =>
    rcv a1 7 fun r12 => call (f_X4_addedTo r12 x4 a2) (fun (v9 : Int32) =>
    j_X6_addedCost_45 a0 a1 a2 x4 (v8 * v9) x3 (L_X6_addedCost_5 a0 a1 a2 k_5_53 n)) nox
    else
    j_X6_addedCost_45 a0 a1 a2 x4 (0 : Int32) x3 (L_X6_addedCost_5 a0 a1 a2 k_5_53 n)))) hs := rfl
theorem u_L_X6_cheapestAmongJudged_7 (a0 : Option Nat) (a1 : Option Nat) (k_7_66 : Int32 → OO Int32) (n : Nat) (x2 : Int32) (x3 : Int32) (x4 : Int32) (hs : Hs) : L_X6_cheapestAmongJudged_7 a0 a1 k_7_66 (n + 1) x2 x3 x4 hs = (
    (if (30 : Int32) ≤ x4 then
    k_7_66 x2
    else
    rcv a1 7 fun r12 => call (f_X4_firstRoomAt r12 x4) (fun (v4 : Int32) =>
    lets v4 fun (v5 : Int32) =>
    (if v5 = (-1 : Int32) then
    j_X6_cheapestAmongJudged_60 a0 a1 x2 x3 x4 (L_X6_cheapestAmongJudged_7 a0 a1 k_7_66 n)
    else
    rcv a0 9 fun r11 => call (f_X6_addedCost r11 a1 x4) (fun (v7 : Int32) =>
    lets v7 fun (v8 : Int32) =>
    (if x2 = (-1 : Int32) then
    j_X6_cheapestAmongJudged_48 a0 a1 x4 v5 v8 (L_X6_cheapestAmongJudged_7 a0 a1 k_7_66 n)
    else
    (if x3 ≤ v8 then
    j_X6_cheapestAmongJudged_60 a0 a1 x2 x3 x4 (L_X6_cheapestAmongJudged_7 a0 a1 k_7_66 n)
    else
    j_X6_cheapestAmongJudged_48 a0 a1 x4 v5 v8 (L_X6_cheapestAmongJudged_7 a0 a1 k_7_66 n)))) nox)) nox)) hs := rfl
theorem u_L_X6_changeAmounts_2 (a0 : Option Nat) (a1 : Option Nat) (a2 : Int32) (k_2_44 : OO Unit) (n : Nat) (x3 : Int32) (hs : Hs) : L_X6_changeAmounts_2 a0 a1 a2 k_2_44 (n + 1) x3 hs = (
    gR a0 9 4 fun v2 =>
    alen v2 fun v3 =>
    (if v3 ≤ x3 then
    k_2_44
    else
    gR a1 7 6 fun v4 =>
    (if v4 = none then
    k_2_44
    else
    gR a0 9 4 fun v5 =>
    ldI 0 v5 x3 fun v6 =>
    gI a1 7 7 fun v7 =>
    rcv a1 7 fun r10 => call (f_X4_addedTo r10 x3 v7) (fun (v8 : Int32) =>
    stI v5 x3 (v6 + (a2 * v8)) (
    lets (x3 + (1 : Int32)) fun (v9 : Int32) =>
    (L_X6_changeAmounts_2 a0 a1 a2 k_2_44 n) v9)) nox))) hs := rfl
theorem u_L_X4_barredByOneOf_6 (a0 : Option Nat) (a2 : Int32) (a3 : Option Nat) (k_6_30 : Int32 → OO Int32) (n : Nat) (x4 : Int32) (x5 : Int32) (hs : Hs) : L_X4_barredByOneOf_6 a0 a2 a3 k_6_30 (n + 1) x4 x5 hs = (
    (if a2 ≤ x5 then
    k_6_30 x4
    else
    rcv a0 7 fun r6 => call (f_X4_barredBy r6 x5 a3) (fun (v3 : Int32) =>
    lets (x4 ||| v3) fun (v4 : Int32) =>
    lets (x5 + (1 : Int32)) fun (v5 : Int32) =>
    (L_X4_barredByOneOf_6 a0 a2 a3 k_6_30 n) v4 v5) nox)) hs := rfl
theorem u_j_X1_addAtSlots_49 (a0 : Option Nat) (a1 : Int32) (a2 : Int32) (a3 : Int32) (a4 : Int32)  (rec_3 : Int32 → OO Unit) (hs : Hs) : j_X1_addAtSlots_49 a0 a1 a2 a3 a4 rec_3 hs = (
  lets (a4 + (1 : Int32)) fun (v4 : Int32) =>
    rec_3 v4) hs := rfl
theorem u_f_X1_addAtSlots (a0 : Nat) (p1 : Int32) (p2 : Int32) (p3 : Int32) (hs : Hs) : f_X1_addAtSlots a0 p1 p2 p3 hs = (
    lets (0 : Int32) fun (v1 : Int32) =>
    L_X1_addAtSlots_3 (some a0) p1 p2 p3 (rtn ()) 100000 v1) hs := rfl
theorem u_f_X1_slotsBarredByOne (p0 : Option Nat) (p1 : Option Nat) (p2 : Int32) (p3 : Int32) (hs : Hs) : f_X1_slotsBarredByOne p0 p1 p2 p3 hs = (
    gR p0 9 2 fun v1 =>
    rcv v1 2 fun r19 => call (f_Jx4a65c_size_8abf5 r19 ) (fun (v2 : Int32) =>
    (if v2 ≤ p2 then
    rtn (0 : Int32)
    else
    gR p0 9 0 fun v3 =>
    rcv v3 2 fun r18 => call (f_Jx4a65c_size_8abf5 r18 ) (fun (v4 : Int32) =>
    (if p3 < v4 then
    gI p0 9 5 fun v5 =>
    rcv p1 7 fun r17 => call (f_X4_forgetOthers r17 v5) (fun (v6 : Unit) =>
    gR p0 9 2 fun v7 =>
    rcv v7 2 fun r16 => call (f_Jx4a65c_get_915e3 r16 p2) (fun (v8 : Option Nat) =>
    cst v8 7 (
    rcv p1 7 fun r15 => call (f_X4_see r15 v8) (fun (v9 : Unit) =>
    gR p0 9 0 fun v10 =>
    rcv v10 2 fun r14 => call (f_Jx4a65c_get_915e3 r14 p3) (fun (v11 : Option Nat) =>
    cst v11 8 (
    rcv p1 7 fun r13 => call (f_X4_barredByOneOf r13 (6 : Int32) (10 : Int32) v11) (fun (v12 : Int32) =>
    rtn v12) nox)) nox) nox)) nox) nox
    else
    rtn (0 : Int32))) nox)) nox) hs := rfl
theorem u_j_X1_countOthersInTheWay_94 (a0 : Option Nat) (a1 : Option Nat) (a2 : Option Nat) (a3 : Int32) (s0 : Int32) (rec_59 : Int32 → OO Unit) (hs : Hs) : j_X1_countOthersInTheWay_94 a0 a1 a2 a3 s0 rec_59 hs = (
  lets s0 fun (v21 : Int32) =>
    lets (0 : Int32) fun (v22 : Int32) =>
    L_X1_countOthersInTheWay_99 a0 a1 a2 a3 v21 (lets (a3 + (1 : Int32)) fun (v30 : Int32) =>
    rec_59 v30) 100000 v22) hs := rfl
theorem u_f_X1_countOthersInTheWay (a0 : Nat) (p1 : Option Nat) (p2 : Option Nat) (hs : Hs) : f_X1_countOthersInTheWay a0 p1 p2 hs = (
    gR (some a0) 4 0 fun v1 =>
    call (f_J7_fill_53178 v1 (1000 : Int32)) (fun (v2 : Unit) =>
    rcv p1 9 fun r33 => call (f_X6_lookAround r33 p2) (fun (v3 : Unit) =>
    lets (0 : Int32) fun (v4 : Int32) =>
    L_X1_countOthersInTheWay_17 (some a0) p1 p2 (lets (0 : Int32) fun (v15 : Int32) =>
    L_X1_countOthersInTheWay_59 (some a0) p1 p2 (rtn ()) 100000 v15) 100000 v4) nox) nox) hs := rfl
theorem u_f_X6_take (a0 : Nat) (p1 : Option Nat) (hs : Hs) : f_X6_take a0 p1 hs = (
    rcv (some a0) 9 fun r4 => call (f_X6_lookAround r4 p1) (fun (v1 : Unit) =>
    rcv (some a0) 9 fun r3 => call (f_X6_changeAmounts r3 p1 (-1 : Int32)) (fun (v2 : Unit) =>
    pI p1 7 7 (-1 : Int32) (
    pR p1 7 6 none (
    rtn ()))) nox) nox) hs := rfl
theorem u_j_X1_throwOthersOut_50 (a0 : Option Nat) (a1 : Option Nat) (a2 : Option Nat) (a3 : Int32) (a4 : Int32) (a5 : Int32)  (rec_16 : Int32 → Int32 → Int32 → OO Int32) (hs : Hs) : j_X1_throwOthersOut_50 a0 a1 a2 a3 a4 a5 rec_16 hs = (
  lets (a5 + (1 : Int32)) fun (v9 : Int32) =>
    rec_16 a3 a4 v9) hs := rfl
theorem u_j_X1_throwOthersOut_115 (a1 : Option Nat) (a2 : Option Nat) (a3 : Int32) (a5 : Int32)  (rec_66 : Int32 → OO Int32) (hs : Hs) : j_X1_throwOthersOut_115 a1 a2 a3 a5 rec_66 hs = (
  lets (a5 + (1 : Int32)) fun (v20 : Int32) =>
    rec_66 v20) hs := rfl
theorem u_f_X1_throwOthersOut (a0 : Nat) (p1 : Option Nat) (p2 : Option Nat) (hs : Hs) : f_X1_throwOthersOut a0 p1 p2 hs = (
    rcv (some a0) 4 fun r29 => call (f_X1_countOthersInTheWay r29 p1 p2) (fun (v1 : Unit) =>
    lets (-1 : Int32) fun (v2 : Int32) =>
    lets (1000 : Int32) fun (v3 : Int32) =>
    lets (0 : Int32) fun (v4 : Int32) =>
    L_X1_throwOthersOut_16 (some a0) p1 p2 (fun (v14 : Int32) => (if ¬ v14 = (-1 : Int32) then
    lets (0 : Int32) fun (v15 : Int32) =>
    L_X1_throwOthersOut_66 p1 p2 v14 (rcv p1 9 fun r28 => call (f_X6_putAt r28 p2 v14) (fun (v27 : Unit) =>
    retZ (1 : Int32)) nox) 100000 v15
    else
    retZ (0 : Int32))) 100000 v2 v3 v4) nox) hs := rfl
theorem u_j_X1_fillUp_92 (a0 : Option Nat) (a1 : Option Nat) (a2 : Int32) (a3 : Int32) (a4 : Int32)  (rec_7 : Int32 → Int32 → Int32 → OO Unit) (hs : Hs) : j_X1_fillUp_92 a0 a1 a2 a3 a4 rec_7 hs = (
  lets (a4 + (1 : Int32)) fun (v11 : Int32) =>
    rec_7 a2 a3 v11) hs := rfl
theorem u_j_X1_fillUp_82 (a0 : Option Nat) (a1 : Option Nat) (a2 : Int32) (a3 : Int32) (a4 : Int32) (a5 : Option Nat)  (rec_7 : Int32 → Int32 → Int32 → OO Unit) (hs : Hs) : j_X1_fillUp_82 a0 a1 a2 a3 a4 a5 rec_7 hs = (
  gI a5 7 0 fun v9 =>
    lets ((a2 ||| (((1 : Int32) <<< (v9 &&& 31))))) fun (v10 : Int32) =>
    j_X1_fillUp_92 a0 a1 v10 a3 a4 rec_7) hs := rfl
theorem u_f_X1_fillUp (a0 : Nat) (p1 : Option Nat) (hs : Hs) : f_X1_fillUp a0 p1 hs = (
    lets (0 : Int32) fun (v1 : Int32) =>
    lets (0 : Int32) fun (v2 : Int32) =>
    lets (0 : Int32) fun (v3 : Int32) =>
    L_X1_fillUp_7 (some a0) p1 (rtn ()) (rtn ()) 100000 v1 v2 v3) hs := rfl
theorem u_f_X2_init (a0 : Nat) (p1 : Int32) (hs : Hs) : f_X2_init a0 p1 hs = (
    pI (some a0) 5 0 p1 (
    rtn ())) hs := rfl
theorem u_f_X3_init (a0 : Nat) (hs : Hs) : f_X3_init a0 hs = (
    nwI 0 (16 : Int32) 16 fun q1 =>
    pR (some a0) 6 0 (some q1) (
    nwI 0 (16 : Int32) 16 fun q2 =>
    pR (some a0) 6 1 (some q2) (
    rtn ()))) hs := rfl
theorem u_f_X4_placeNow (a0 : Nat) (hs : Hs) : f_X4_placeNow a0 hs = (
    gR (some a0) 7 6 fun v1 =>
    (if ¬ v1 = none then
    gI (some a0) 7 7 fun v2 =>
    gR (some a0) 7 6 fun v3 =>
    gI v3 8 0 fun v4 =>
    rtn (((8 : Int32) * v2) + v4)
    else
    rtn (-1 : Int32))) hs := rfl
theorem u_f_X6_copyPlaces (a0 : Nat) (p1 : Option Nat) (hs : Hs) : f_X6_copyPlaces a0 p1 hs = (
    call (f_J7_fill_53178 p1 (-1 : Int32)) (fun (v1 : Unit) =>
    lets (0 : Int32) fun (v2 : Int32) =>
    L_X6_copyPlaces_7 (some a0) p1 (rtn ()) 100000 v2) nox) hs := rfl
theorem u_f_X6_costKept (a0 : Nat) (hs : Hs) : f_X6_costKept a0 hs = (
    lets (0 : Int32) fun (v1 : Int32) =>
    lets (0 : Int32) fun (v2 : Int32) =>
    L_X6_costKept_4 (some a0) (fun (v9 : Int32) => rtn v9) 100000 v1 v2) hs := rfl
theorem u_f_X6_isPast (a0 : Nat) (p1 : Option Nat) (hs : Hs) : f_X6_isPast a0 p1 hs = (
    gR p1 7 6 fun v1 =>
    (if v1 = none then
    retZ (0 : Int32)
    else
    gI p1 7 7 fun v2 =>
    dvz (6 : Int32) (
    gI (some a0) 9 5 fun v3 =>
    (if v3 ≤ (v2 / (6 : Int32)) then
    retZ (0 : Int32)
    else
    retZ (1 : Int32))))) hs := rfl
theorem u_f_X6_isFree (a0 : Nat) (p1 : Option Nat) (hs : Hs) : f_X6_isFree a0 p1 hs = (
    gI p1 7 8 fun v1 =>
    (if ¬ v1 = 0 then
    retZ (0 : Int32)
    else
    rcv (some a0) 9 fun r3 => call (f_X6_isPast r3 p1) (fun (v2 : Int32) =>
    (if ¬ v2 = 0 then
    retZ (0 : Int32)
    else
    retZ (1 : Int32))) nox)) hs := rfl
theorem u_L_X1_addAtSlots_3 (a0 : Option Nat) (a1 : Int32) (a2 : Int32) (a3 : Int32) (k_3_55 : OO Unit) (n : Nat) (x4 : Int32) (hs : Hs) : L_X1_addAtSlots_3 a0 a1 a2 a3 k_3_55 (n + 1) x4 hs = (
    (if (30 : Int32) ≤ x4 then
    k_3_55
    else
    lets (((8 : Int32) * x4) + a1) fun (v2 : Int32) =>
    call (f_X8_has a2 x4) (fun (v3 : Int32) =>
    (if v3 = 0 then
    j_X1_addAtSlots_49 a0 a1 a2 a3 x4 (L_X1_addAtSlots_3 a0 a1 a2 a3 k_3_55 n)
    else
    gR a0 4 0 fun v5 =>
    alen v5 fun v6 =>
    (if v6 ≤ v2 then
    j_X1_addAtSlots_49 a0 a1 a2 a3 x4 (L_X1_addAtSlots_3 a0 a1 a2 a3 k_3_55 n)
    else
    gR a0 4 0 fun v7 =>
    ldI 0 v7 v2 fun v8 =>
    stI v7 v2 (v8 + a3) (
    j_X1_addAtSlots_49 a0 a1 a2 a3 x4 (L_X1_addAtSlots_3 a0 a1 a2 a3 k_3_55 n))))) nox)) hs := rfl
theorem u_L_X1_countOthersInTheWay_17 (a0 : Option Nat) (a1 : Option Nat) (a2 : Option Nat) (k_17_57 : OO Unit) (n : Nat) (x3 : Int32) (hs : Hs) : L_X1_countOthersInTheWay_17 a0 a1 a2 k_17_57 (n + 1) x3 hs = (
    gR a1 9 0 fun v5 =>
    rcv v5 2 fun r14 => call (f_Jx4a65c_size_8abf5 r14 ) (fun (v6 : Int32) =>
    (if v6 ≤ x3 then
    k_17_57
    else
    gR a1 9 0 fun v7 =>
    rcv v7 2 fun r13 => call (f_Jx4a65c_get_915e3 r13 x3) (fun (v8 : Option Nat) =>
    cst v8 8 (
    call (f_X1_openSlots a2 v8) (fun (v9 : Int32) =>
    rcv a0 4 fun r12 => call (f_X1_addAtSlots r12 x3 v9 (-1000 : Int32)) (fun (v10 : Unit) =>
    lets (x3 + (1 : Int32)) fun (v11 : Int32) =>
    (L_X1_countOthersInTheWay_17 a0 a1 a2 k_17_57 n) v11) nox) nox)) nox)) nox) hs := rfl
theorem u_L_X1_countOthersInTheWay_99 (a0 : Option Nat) (a1 : Option Nat) (a2 : Option Nat) (a3 : Int32) (a4 : Int32) (k_99_133 : OO Unit) (n : Nat) (x5 : Int32) (hs : Hs) : L_X1_countOthersInTheWay_99 a0 a1 a2 a3 a4 k_99_133 (n + 1) x5 hs = (
    gR a1 9 0 fun v23 =>
    rcv v23 2 fun r29 => call (f_Jx4a65c_size_8abf5 r29 ) (fun (v24 : Int32) =>
    (if v24 ≤ x5 then
    k_99_133
    else
    call (f_X1_slotsBarredByOne a1 a2 a3 x5) (fun (v25 : Int32) =>
    rcv a0 4 fun r28 => call (f_X1_addAtSlots r28 x5 v25 a4) (fun (v26 : Unit) =>
    lets (x5 + (1 : Int32)) fun (v27 : Int32) =>
    (L_X1_countOthersInTheWay_99 a0 a1 a2 a3 a4 k_99_133 n) v27) nox) nox)) nox) hs := rfl
theorem u_L_X1_countOthersInTheWay_59 (a0 : Option Nat) (a1 : Option Nat) (a2 : Option Nat) (k_59_139 : OO Unit) (n : Nat) (x3 : Int32) (hs : Hs) : L_X1_countOthersInTheWay_59 a0 a1 a2 k_59_139 (n + 1) x3 hs = (
    gR a1 9 2 fun v16 =>
    rcv v16 2 fun r32 => call (f_Jx4a65c_size_8abf5 r32 ) (fun (v17 : Int32) =>
    (if v17 ≤ x3 then
    k_59_139
    else
    gR a1 9 2 fun v18 =>
    rcv v18 2 fun r31 => call (f_Jx4a65c_get_915e3 r31 x3) (fun (v19 : Option Nat) =>
    cst v19 7 (
    gI v19 7 8 fun v20 =>
    (if v20 = 0 then
    j_X1_countOthersInTheWay_94 a0 a1 a2 x3 (1 : Int32) (L_X1_countOthersInTheWay_59 a0 a1 a2 k_59_139 n)
    else
    j_X1_countOthersInTheWay_94 a0 a1 a2 x3 (1000 : Int32) (L_X1_countOthersInTheWay_59 a0 a1 a2 k_59_139 n)))) nox)) nox) hs := rfl
theorem u_L_X1_throwOthersOut_16 (a0 : Option Nat) (a1 : Option Nat) (a2 : Option Nat) (k_16_56 : Int32 → OO Int32) (n : Nat) (x3 : Int32) (x4 : Int32) (x5 : Int32) (hs : Hs) : L_X1_throwOthersOut_16 a0 a1 a2 k_16_56 (n + 1) x3 x4 x5 hs = (
    gR a0 4 0 fun v5 =>
    alen v5 fun v6 =>
    (if v6 ≤ x5 then
    k_16_56 x3
    else
    gR a0 4 0 fun v7 =>
    ldI 0 v7 x5 fun v8 =>
    (if x4 ≤ v8 then
    j_X1_throwOthersOut_50 a0 a1 a2 x3 x4 x5 (L_X1_throwOthersOut_16 a0 a1 a2 k_16_56 n)
    else
    lets x5 fun (v10 : Int32) =>
    gR a0 4 0 fun v11 =>
    ldI 0 v11 x5 fun v12 =>
    lets v12 fun (v13 : Int32) =>
    j_X1_throwOthersOut_50 a0 a1 a2 v10 v13 x5 (L_X1_throwOthersOut_16 a0 a1 a2 k_16_56 n)))) hs := rfl
theorem u_L_X1_throwOthersOut_66 (a1 : Option Nat) (a2 : Option Nat) (a3 : Int32) (k_66_121 : OO Int32) (n : Nat) (x5 : Int32) (hs : Hs) : L_X1_throwOthersOut_66 a1 a2 a3 k_66_121 (n + 1) x5 hs = (
    gR a1 9 2 fun v16 =>
    rcv v16 2 fun r26 => call (f_Jx4a65c_size_8abf5 r26 ) (fun (v17 : Int32) =>
    (if v17 ≤ x5 then
    k_66_121
    else
    dvz (8 : Int32) (
    call (f_X1_slotsBarredByOne a1 a2 x5 (irem a3 (8 : Int32))) (fun (v18 : Int32) =>
    dvz (8 : Int32) (
    call (f_X8_has v18 (a3 / (8 : Int32))) (fun (v19 : Int32) =>
    (if v19 = 0 then
    j_X1_throwOthersOut_115 a1 a2 a3 x5 (L_X1_throwOthersOut_66 a1 a2 a3 k_66_121 n)
    else
    gR a1 9 2 fun v21 =>
    rcv v21 2 fun r25 => call (f_Jx4a65c_get_915e3 r25 x5) (fun (v22 : Option Nat) =>
    cst v22 7 (
    rcv a1 9 fun r24 => call (f_X6_take r24 v22) (fun (v23 : Unit) =>
    j_X1_throwOthersOut_115 a1 a2 a3 x5 (L_X1_throwOthersOut_66 a1 a2 a3 k_66_121 n)) nox)) nox)) nox)) nox))) nox) hs := rfl
theorem u_L_X1_fillUp_7 (a0 : Option Nat) (a1 : Option Nat) (k_7_34 : OO Unit) (k_7_98 : OO Unit) (n : Nat) (x2 : Int32) (x3 : Int32) (x4 : Int32) (hs : Hs) : L_X1_fillUp_7 a0 a1 k_7_34 k_7_98 (n + 1) x2 x3 x4 hs = (
    (if (1000 : Int32) ≤ x4 then
    k_7_98
    else
    rcv a1 9 fun r19 => call (f_X6_unplaced r19 ) (fun (v4 : Int32) =>
    rcv a1 9 fun r18 => call (f_X6_findHardest r18 (v4 &&& (x2 ^^^ (-1 : Int32)))) (fun (v5 : Option Nat) =>
    lets v5 fun (v6 : Option Nat) =>
    (if ¬ v6 = none then
    rcv a1 9 fun r17 => call (f_X6_findCheapest r17 v6) (fun (v7 : Int32) =>
    lets v7 fun (v8 : Int32) =>
    (if v8 = (-1 : Int32) then
    (if (10 : Int32) ≤ x3 then
    j_X1_fillUp_82 a0 a1 x2 x3 x4 v6 (L_X1_fillUp_7 a0 a1 k_7_34 k_7_98 n)
    else
    rcv a0 4 fun r14 => call (f_X1_throwOthersOut r14 a1 v6) (fun (v12 : Int32) =>
    (if v12 = 0 then
    j_X1_fillUp_82 a0 a1 x2 x3 x4 v6 (L_X1_fillUp_7 a0 a1 k_7_34 k_7_98 n)
    else
    lets (x3 + (1 : Int32)) fun (v13 : Int32) =>
    j_X1_fillUp_92 a0 a1 x2 v13 x4 (L_X1_fillUp_7 a0 a1 k_7_34 k_7_98 n))) nox)
    else
    rcv a1 9 fun r16 => call (f_X6_putAt r16 v6 v8) (fun (v15 : Unit) =>
    j_X1_fillUp_92 a0 a1 x2 x3 x4 (L_X1_fillUp_7 a0 a1 k_7_34 k_7_98 n)) nox)) nox
    else
    k_7_34)) nox) nox)) hs := rfl
theorem u_L_X6_copyPlaces_7 (a0 : Option Nat) (a1 : Option Nat) (k_7_47 : OO Unit) (n : Nat) (x2 : Int32) (hs : Hs) : L_X6_copyPlaces_7 a0 a1 k_7_47 (n + 1) x2 hs = (
    gR a0 9 2 fun v3 =>
    rcv v3 2 fun r12 => call (f_Jx4a65c_size_8abf5 r12 ) (fun (v4 : Int32) =>
    (if v4 ≤ x2 then
    k_7_47
    else
    alen a1 fun v5 =>
    (if v5 ≤ x2 then
    k_7_47
    else
    gR a0 9 2 fun v6 =>
    rcv v6 2 fun r11 => call (f_Jx4a65c_get_915e3 r11 x2) (fun (v7 : Option Nat) =>
    cst v7 7 (
    rcv v7 7 fun r10 => call (f_X4_placeNow r10 ) (fun (v8 : Int32) =>
    stI a1 x2 v8 (
    lets (x2 + (1 : Int32)) fun (v9 : Int32) =>
    (L_X6_copyPlaces_7 a0 a1 k_7_47 n) v9)) nox)) nox))) nox) hs := rfl
theorem u_L_X6_costKept_4 (a0 : Option Nat) (k_4_35 : Int32 → OO Int32) (n : Nat) (x1 : Int32) (x2 : Int32) (hs : Hs) : L_X6_costKept_4 a0 k_4_35 (n + 1) x1 x2 hs = (
    (if (4 : Int32) ≤ x2 then
    k_4_35 x1
    else
    gR a0 9 3 fun v3 =>
    call (f_X8_at v3 x2) (fun (v4 : Int32) =>
    gR a0 9 4 fun v5 =>
    call (f_X8_at v5 x2) (fun (v6 : Int32) =>
    lets (x1 + (v4 * v6)) fun (v7 : Int32) =>
    lets (x2 + (1 : Int32)) fun (v8 : Int32) =>
    (L_X6_costKept_4 a0 k_4_35 n) v7 v8) nox) nox)) hs := rfl
theorem u_f_X3_mayMove (a0 : Nat) (p1 : Option Nat) (p2 : Option Nat) (p3 : Int32) (hs : Hs) : f_X3_mayMove a0 p1 p2 p3 hs = (
    gR p2 7 6 fun v1 =>
    (if v1 = none then
    retZ (0 : Int32)
    else
    rcv p1 9 fun r6 => call (f_X6_isFree r6 p2) (fun (v2 : Int32) =>
    (if v2 = 0 then
    retZ (0 : Int32)
    else
    gR (some a0) 6 1 fun v3 =>
    gI p2 7 0 fun v4 =>
    call (f_X8_at v3 v4) (fun (v5 : Int32) =>
    (if (p3 - v5) ≤ (3 : Int32) then
    retZ (0 : Int32)
    else
    retZ (1 : Int32))) nox)) nox)) hs := rfl
theorem u_f_X4_leaveOutOwnPlace (a0 : Nat) (hs : Hs) : f_X4_leaveOutOwnPlace a0 hs = (
    gR (some a0) 7 6 fun v1 =>
    (if v1 = none then
    rtn ()
    else
    gR (some a0) 7 6 fun v2 =>
    gI v2 8 0 fun v3 =>
    (if v3 < 0 then
    rtn ()
    else
    gR (some a0) 7 6 fun v4 =>
    gI v4 8 0 fun v5 =>
    gR (some a0) 7 10 fun v6 =>
    alen v6 fun v7 =>
    (if v7 ≤ v5 then
    rtn ()
    else
    gR (some a0) 7 10 fun v8 =>
    gR (some a0) 7 6 fun v9 =>
    gI v9 8 0 fun v10 =>
    ldI 0 v8 v10 fun v11 =>
    gI (some a0) 7 7 fun v12 =>
    stI v8 v10 ((v11 &&& (((((1 : Int32) <<< (v12 &&& 31))) ^^^ (-1 : Int32))))) (
    rtn ()))))) hs := rfl
theorem u_f_X6_findCheapestElsewhere (a0 : Nat) (p1 : Option Nat) (hs : Hs) : f_X6_findCheapestElsewhere a0 p1 hs = (
    rcv (some a0) 9 fun r6 => call (f_X6_judgePlaces r6 p1) (fun (v1 : Unit) =>
    rcv p1 7 fun r5 => call (f_X4_leaveOutOwnPlace r5 ) (fun (v2 : Unit) =>
    rcv (some a0) 9 fun r4 => call (f_X6_cheapestAmongJudged r4 p1) (fun (v3 : Int32) =>
    rtn v3) nox) nox) nox) hs := rfl
theorem u_j_X6_costFrom_24 (a0 : Option Nat) (a1 : Option Nat) (a2 : Int32) (s0 : Int32) (s1 : Int32) (hs : Hs) : j_X6_costFrom_24 a0 a1 a2 s0 s1 hs = (
  lets (s1 - s0) fun (v5 : Int32) =>
    rcv a0 9 fun r7 => call (f_X6_addedCost r7 a1 a2) (fun (v6 : Int32) =>
    rtn (v5 + v6)) nox) hs := rfl
theorem u_f_X6_costFrom (a0 : Nat) (p1 : Option Nat) (p2 : Int32) (hs : Hs) : f_X6_costFrom a0 p1 p2 hs = (
    rcv (some a0) 9 fun r9 => call (f_X6_costKept r9 ) (fun (v1 : Int32) =>
    gR p1 7 6 fun v2 =>
    (if ¬ v2 = none then
    gI p1 7 7 fun v3 =>
    rcv (some a0) 9 fun r8 => call (f_X6_addedCost r8 p1 v3) (fun (v4 : Int32) =>
    j_X6_costFrom_24 (some a0) p1 p2 v4 v1) nox
    else
    j_X6_costFrom_24 (some a0) p1 p2 (0 : Int32) v1)) nox) hs := rfl
theorem u_j_X3_findMover_94 (a0 : Option Nat) (a1 : Option Nat) (a2 : Int32) (a3 : Option Nat) (a4 : Int32) (a5 : Int32)  (rec_8 : Option Nat → Int32 → Int32 → OO (Option Nat)) (hs : Hs) : j_X3_findMover_94 a0 a1 a2 a3 a4 a5 rec_8 hs = (
  lets (a5 + (1 : Int32)) fun (v11 : Int32) =>
    rec_8 a3 a4 v11) hs := rfl
theorem u_j_X3_findMover_87 (a0 : Option Nat) (a1 : Option Nat) (a2 : Int32) (a5 : Int32) (a6 : Option Nat) (a8 : Int32)  (rec_8 : Option Nat → Int32 → Int32 → OO (Option Nat)) (hs : Hs) : j_X3_findMover_87 a0 a1 a2 a5 a6 a8 rec_8 hs = (
  lets a6 fun (v14 : Option Nat) =>
    lets a8 fun (v15 : Int32) =>
    j_X3_findMover_94 a0 a1 a2 v14 v15 a5 rec_8) hs := rfl
theorem u_j_X3_findMover_55 (a0 : Option Nat) (a1 : Option Nat) (a2 : Int32) (a3 : Option Nat) (a4 : Int32) (a5 : Int32) (a6 : Option Nat) (s0 : Int32) (rec_8 : Option Nat → Int32 → Int32 → OO (Option Nat)) (hs : Hs) : j_X3_findMover_55 a0 a1 a2 a3 a4 a5 a6 s0 rec_8 hs = (
  lets s0 fun (v10 : Int32) =>
    (if v10 = (-1 : Int32) then
    j_X3_findMover_94 a0 a1 a2 a3 a4 a5 rec_8
    else
    dvz (8 : Int32) (
    rcv a1 9 fun r16 => call (f_X6_costFrom r16 a6 (v10 / (8 : Int32))) (fun (v12 : Int32) =>
    lets v12 fun (v13 : Int32) =>
    (if a3 = none then
    j_X3_findMover_87 a0 a1 a2 a5 a6 v13 rec_8
    else
    (if a4 ≤ v13 then
    j_X3_findMover_94 a0 a1 a2 a3 a4 a5 rec_8
    else
    j_X3_findMover_87 a0 a1 a2 a5 a6 v13 rec_8))) nox))) hs := rfl
theorem u_f_X3_findMover (a0 : Nat) (p1 : Option Nat) (p2 : Int32) (hs : Hs) : f_X3_findMover a0 p1 p2 hs = (
    lets none fun (v1 : Option Nat) =>
    lets (0 : Int32) fun (v2 : Int32) =>
    lets (0 : Int32) fun (v3 : Int32) =>
    L_X3_findMover_8 (some a0) p1 p2 (fun (v22 : Option Nat) => rtn v22) 100000 v1 v2 v3) hs := rfl
theorem u_f_X3_noteMove (a0 : Nat) (p1 : Option Nat) (p2 : Int32) (hs : Hs) : f_X3_noteMove a0 p1 p2 hs = (
    gI p1 7 0 fun v1 =>
    (if v1 < 0 then
    rtn ()
    else
    gI p1 7 0 fun v2 =>
    gR (some a0) 6 1 fun v3 =>
    alen v3 fun v4 =>
    (if v4 ≤ v2 then
    rtn ()
    else
    gR (some a0) 6 1 fun v5 =>
    gI p1 7 0 fun v6 =>
    stI v5 v6 p2 (
    rtn ())))) hs := rfl
theorem u_j_X6_takeAll_36 (a0 : Option Nat) (a1 : Int32) (a2 : Int32)  (rec_2 : Int32 → OO Unit) (hs : Hs) : j_X6_takeAll_36 a0 a1 a2 rec_2 hs = (
  lets (a2 + (1 : Int32)) fun (v5 : Int32) =>
    rec_2 v5) hs := rfl
theorem u_f_X6_takeAll (a0 : Nat) (p1 : Int32) (hs : Hs) : f_X6_takeAll a0 p1 hs = (
    lets (0 : Int32) fun (v1 : Int32) =>
    L_X6_takeAll_2 (some a0) p1 (rtn ()) 100000 v1) hs := rfl
theorem u_j_X3_becomeBest_48 (a0 : Option Nat) (a1 : Option Nat) (a3 : Int32) (s0 : Int32) (s1 : Int32) (rec_4 : Int32 → Int32 → OO Unit) (hs : Hs) : j_X3_becomeBest_48 a0 a1 a3 s0 s1 rec_4 hs = (
  lets (s1 ||| s0) fun (v10 : Int32) =>
    lets (a3 + (1 : Int32)) fun (v11 : Int32) =>
    rec_4 v10 v11) hs := rfl
theorem u_j_X3_becomeBest_105 (a0 : Option Nat) (a1 : Option Nat) (a2 : Int32) (a3 : Int32)  (rec_63 : Int32 → OO Unit) (hs : Hs) : j_X3_becomeBest_105 a0 a1 a2 a3 rec_63 hs = (
  lets (a3 + (1 : Int32)) fun (v21 : Int32) =>
    rec_63 v21) hs := rfl
theorem u_f_X3_becomeBest (a0 : Nat) (p1 : Option Nat) (hs : Hs) : f_X3_becomeBest a0 p1 hs = (
    lets (0 : Int32) fun (v1 : Int32) =>
    lets (0 : Int32) fun (v2 : Int32) =>
    L_X3_becomeBest_4 (some a0) p1 (fun (v15 : Int32) => rcv p1 9 fun r30 => call (f_X6_takeAll r30 v15) (fun (v16 : Unit) =>
    lets (0 : Int32) fun (v17 : Int32) =>
    L_X3_becomeBest_63 (some a0) p1 v15 (rtn ()) 100000 v17) nox) 100000 v1 v2) hs := rfl
theorem u_j_X3_improveTable_90 (a0 : Option Nat) (a1 : Option Nat) (a2 : Int32) (a3 : Int32) (a4 : Int32)  (rec_26 : Int32 → Int32 → OO Unit) (hs : Hs) : j_X3_improveTable_90 a0 a1 a2 a3 a4 rec_26 hs = (
  lets (a4 + (1 : Int32)) fun (v14 : Int32) =>
    rec_26 a3 v14) hs := rfl
theorem u_j_X3_improveTable_96 (a0 : Option Nat) (a1 : Option Nat) (hs : Hs) : j_X3_improveTable_96 a0 a1 hs = (
  rcv a0 6 fun r27 => call (f_X3_becomeBest r27 a1) (fun (v26 : Unit) =>
    rtn ()) nox) hs := rfl
theorem u_f_X3_improveTable (a0 : Nat) (p1 : Option Nat) (p2 : Int32) (hs : Hs) : f_X3_improveTable a0 p1 p2 hs = (
    gR (some a0) 6 1 fun v1 =>
    call (f_J7_fill_53178 v1 (-1000 : Int32)) (fun (v2 : Unit) =>
    gR (some a0) 6 0 fun v3 =>
    rcv p1 9 fun r29 => call (f_X6_copyPlaces r29 v3) (fun (v4 : Unit) =>
    rcv p1 9 fun r28 => call (f_X6_costKept r28 ) (fun (v5 : Int32) =>
    lets v5 fun (v6 : Int32) =>
    lets (0 : Int32) fun (v7 : Int32) =>
    L_X3_improveTable_26 (some a0) p1 p2 (j_X3_improveTable_96 (some a0) p1) (j_X3_improveTable_96 (some a0) p1) 100000 v6 v7) nox) nox) nox) hs := rfl
theorem u_f_X4_init (a0 : Nat) (p1 : Int32) (p2 : Option Nat) (p3 : Option Nat) (p4 : Int32) (p5 : Int32) (p6 : Int32) (hs : Hs) : f_X4_init a0 p1 p2 p3 p4 p5 p6 hs = (
    pI (some a0) 7 7 (-1 : Int32) (
    nwI 0 (8 : Int32) 8 fun q1 =>
    pR (some a0) 7 10 (some q1) (
    nwI 0 (8 : Int32) 8 fun q2 =>
    pR (some a0) 7 14 (some q2) (
    nwI 0 (3 : Int32) 3 fun q3 =>
    pR (some a0) 7 15 (some q3) (
    nwI 0 (5 : Int32) 5 fun q4 =>
    pR (some a0) 7 17 (some q4) (
    pI (some a0) 7 0 p1 (
    pR (some a0) 7 1 p2 (
    pR (some a0) 7 2 p3 (
    pI (some a0) 7 3 p4 (
    pI (some a0) 7 4 p5 (
    pI (some a0) 7 5 p6 (
    call (f_X8_slotsThatMeet (545392672 : Int32) (p5 - (1 : Int32))) (fun (v5 : Int32) =>
    pI (some a0) 7 9 v5 (
    rtn ())) nox)))))))))))) hs := rfl
theorem u_f_X4_isOn (a0 : Nat) (p1 : Int32) (hs : Hs) : f_X4_isOn a0 p1 hs = (
    gR (some a0) 7 6 fun v1 =>
    (if v1 = none then
    retZ (0 : Int32)
    else
    gI (some a0) 7 7 fun v2 =>
    dvz (6 : Int32) (
    (if ¬ (v2 / (6 : Int32)) = p1 then
    retZ (0 : Int32)
    else
    retZ (1 : Int32))))) hs := rfl
theorem u_f_X4_hoursNow (a0 : Nat) (hs : Hs) : f_X4_hoursNow a0 hs = (
    gR (some a0) 7 6 fun v1 =>
    (if ¬ v1 = none then
    gI (some a0) 7 7 fun v2 =>
    rcv (some a0) 7 fun r4 => call (f_X4_hoursFrom r4 v2) (fun (v3 : Int32) =>
    rtn v3) nox
    else
    rtn (0 : Int32))) hs := rfl
theorem u_j_X4_lettersAt_38 (a0 : Option Nat) (a1 : Int32) (a2 : Option Nat) (a4 : Int32) (s0 : Int32) (s1 : Int32) (rec_5 : Int32 → Int32 → OO Int32) (hs : Hs) : j_X4_lettersAt_38 a0 a1 a2 a4 s0 s1 rec_5 hs = (
  lets (s1 ||| s0) fun (v5 : Int32) =>
    lets (a4 + (1 : Int32)) fun (v6 : Int32) =>
    rec_5 v5 v6) hs := rfl
theorem u_f_X4_lettersAt (a0 : Nat) (p1 : Int32) (p2 : Option Nat) (hs : Hs) : f_X4_lettersAt a0 p1 p2 hs = (
    lets (0 : Int32) fun (v1 : Int32) =>
    lets (0 : Int32) fun (v2 : Int32) =>
    L_X4_lettersAt_5 (some a0) p1 p2 (fun (v8 : Int32) => rtn v8) 100000 v1 v2) hs := rfl
theorem u_L_X3_findMover_8 (a0 : Option Nat) (a1 : Option Nat) (a2 : Int32) (k_8_100 : Option Nat → OO (Option Nat)) (n : Nat) (x3 : Option Nat) (x4 : Int32) (x5 : Int32) (hs : Hs) : L_X3_findMover_8 a0 a1 a2 k_8_100 (n + 1) x3 x4 x5 hs = (
    gR a1 9 2 fun v4 =>
    rcv v4 2 fun r21 => call (f_Jx4a65c_size_8abf5 r21 ) (fun (v5 : Int32) =>
    (if v5 ≤ x5 then
    k_8_100 x3
    else
    gR a1 9 2 fun v6 =>
    rcv v6 2 fun r20 => call (f_Jx4a65c_get_915e3 r20 x5) (fun (v7 : Option Nat) =>
    cst v7 7 (
    lets v7 fun (v8 : Option Nat) =>
    rcv a0 6 fun r19 => call (f_X3_mayMove r19 a1 v8 a2) (fun (v9 : Int32) =>
    (if v9 = 0 then
    j_X3_findMover_55 a0 a1 a2 x3 x4 x5 v8 (-1 : Int32) (L_X3_findMover_8 a0 a1 a2 k_8_100 n)
    else
    rcv a1 9 fun r18 => call (f_X6_findCheapestElsewhere r18 v8) (fun (v17 : Int32) =>
    j_X3_findMover_55 a0 a1 a2 x3 x4 x5 v8 v17 (L_X3_findMover_8 a0 a1 a2 k_8_100 n)) nox)) nox)) nox)) nox) hs := rfl
theorem u_L_X6_takeAll_2 (a0 : Option Nat) (a1 : Int32) (k_2_42 : OO Unit) (n : Nat) (x2 : Int32) (hs : Hs) : L_X6_takeAll_2 a0 a1 k_2_42 (n + 1) x2 hs = (
    gR a0 9 2 fun v2 =>
    rcv v2 2 fun r11 => call (f_Jx4a65c_size_8abf5 r11 ) (fun (v3 : Int32) =>
    (if v3 ≤ x2 then
    k_2_42
    else
    call (f_X8_has a1 x2) (fun (v4 : Int32) =>
    (if v4 = 0 then
    j_X6_takeAll_36 a0 a1 x2 (L_X6_takeAll_2 a0 a1 k_2_42 n)
    else
    gR a0 9 2 fun v6 =>
    rcv v6 2 fun r10 => call (f_Jx4a65c_get_915e3 r10 x2) (fun (v7 : Option Nat) =>
    cst v7 7 (
    rcv a0 9 fun r9 => call (f_X6_take r9 v7) (fun (v8 : Unit) =>
    j_X6_takeAll_36 a0 a1 x2 (L_X6_takeAll_2 a0 a1 k_2_42 n)) nox)) nox)) nox)) nox) hs := rfl
theorem u_L_X3_becomeBest_4 (a0 : Option Nat) (a1 : Option Nat) (k_4_56 : Int32 → OO Unit) (n : Nat) (x2 : Int32) (x3 : Int32) (hs : Hs) : L_X3_becomeBest_4 a0 a1 k_4_56 (n + 1) x2 x3 hs = (
    gR a1 9 2 fun v3 =>
    rcv v3 2 fun r14 => call (f_Jx4a65c_size_8abf5 r14 ) (fun (v4 : Int32) =>
    (if v4 ≤ x3 then
    k_4_56 x2
    else
    gR a1 9 2 fun v5 =>
    rcv v5 2 fun r13 => call (f_Jx4a65c_get_915e3 r13 x3) (fun (v6 : Option Nat) =>
    cst v6 7 (
    rcv v6 7 fun r12 => call (f_X4_placeNow r12 ) (fun (v7 : Int32) =>
    gR a0 6 0 fun v8 =>
    call (f_X8_at v8 x3) (fun (v9 : Int32) =>
    (if v7 = v9 then
    j_X3_becomeBest_48 a0 a1 x3 (0 : Int32) x2 (L_X3_becomeBest_4 a0 a1 k_4_56 n)
    else
    j_X3_becomeBest_48 a0 a1 x3 (((1 : Int32) <<< (x3 &&& 31))) x2 (L_X3_becomeBest_4 a0 a1 k_4_56 n))) nox) nox)) nox)) nox) hs := rfl
theorem u_L_X3_becomeBest_63 (a0 : Option Nat) (a1 : Option Nat) (a2 : Int32) (k_63_111 : OO Unit) (n : Nat) (x3 : Int32) (hs : Hs) : L_X3_becomeBest_63 a0 a1 a2 k_63_111 (n + 1) x3 hs = (
    gR a1 9 2 fun v18 =>
    rcv v18 2 fun r29 => call (f_Jx4a65c_size_8abf5 r29 ) (fun (v19 : Int32) =>
    (if v19 ≤ x3 then
    k_63_111
    else
    call (f_X8_has a2 x3) (fun (v20 : Int32) =>
    (if v20 = 0 then
    j_X3_becomeBest_105 a0 a1 a2 x3 (L_X3_becomeBest_63 a0 a1 a2 k_63_111 n)
    else
    gR a1 9 2 fun v22 =>
    rcv v22 2 fun r28 => call (f_Jx4a65c_get_915e3 r28 x3) (fun (v23 : Option Nat) =>
    cst v23 7 (
    gR a0 6 0 fun v24 =>
    call (f_X8_at v24 x3) (fun (v25 : Int32) =>
    rcv a1 9 fun r27 => call (f_X6_putAt r27 v23 v25) (fun (v26 : Unit) =>
    j_X3_becomeBest_105 a0 a1 a2 x3 (L_X3_becomeBest_63 a0 a1 a2 k_63_111 n)) nox) nox)) nox)) nox)) nox) hs := rfl
theorem u_L_X3_improveTable_26 (a0 : Option Nat) (a1 : Option Nat) (a2 : Int32) (k_26_46 : OO Unit) (k_26_96 : OO Unit) (n : Nat) (x3 : Int32) (x4 : Int32) (hs : Hs) : L_X3_improveTable_26 a0 a1 a2 k_26_46 k_26_96 (n + 1) x3 x4 hs = (
    (if a2 ≤ x4 then
    k_26_96
    else
    rcv a0 6 fun r25 => call (f_X3_findMover r25 a1 x4) (fun (v8 : Option Nat) =>
    lets v8 fun (v9 : Option Nat) =>
    (if ¬ v9 = none then
    rcv a1 9 fun r24 => call (f_X6_findCheapestElsewhere r24 v9) (fun (v10 : Int32) =>
    rcv a1 9 fun r23 => call (f_X6_putAt r23 v9 v10) (fun (v11 : Unit) =>
    rcv a0 6 fun r22 => call (f_X3_noteMove r22 v9 x4) (fun (v12 : Unit) =>
    rcv a1 9 fun r21 => call (f_X6_costKept r21 ) (fun (v13 : Int32) =>
    (if x3 ≤ v13 then
    j_X3_improveTable_90 a0 a1 a2 x3 x4 (L_X3_improveTable_26 a0 a1 a2 k_26_46 k_26_96 n)
    else
    rcv a1 9 fun r20 => call (f_X6_costKept r20 ) (fun (v15 : Int32) =>
    lets v15 fun (v16 : Int32) =>
    gR a0 6 0 fun v17 =>
    rcv a1 9 fun r19 => call (f_X6_copyPlaces r19 v17) (fun (v18 : Unit) =>
    j_X3_improveTable_90 a0 a1 a2 v16 x4 (L_X3_improveTable_26 a0 a1 a2 k_26_46 k_26_96 n)) nox) nox)) nox) nox) nox) nox
    else
    k_26_46)) nox)) hs := rfl
theorem u_L_X4_lettersAt_5 (a0 : Option Nat) (a1 : Int32) (a2 : Option Nat) (k_5_46 : Int32 → OO Int32) (n : Nat) (x3 : Int32) (x4 : Int32) (hs : Hs) : L_X4_lettersAt_5 a0 a1 a2 k_5_46 (n + 1) x3 x4 hs = (
    (if (10 : Int32) ≤ x4 then
    k_5_46 x3
    else
    rcv a0 7 fun r7 => call (f_X4_barredBy r7 x4 a2) (fun (v3 : Int32) =>
    call (f_X8_has v3 a1) (fun (v4 : Int32) =>
    (if v4 = 0 then
    j_X4_lettersAt_38 a0 a1 a2 x4 (0 : Int32) x3 (L_X4_lettersAt_5 a0 a1 a2 k_5_46 n)
    else
    j_X4_lettersAt_38 a0 a1 a2 x4 (((1 : Int32) <<< (x4 &&& 31))) x3 (L_X4_lettersAt_5 a0 a1 a2 k_5_46 n))) nox) nox)) hs := rfl
theorem u_f_X4_isPossible (a0 : Nat) (p1 : Int32) (hs : Hs) : f_X4_isPossible a0 p1 hs = (
    (if p1 < 0 then
    retZ (0 : Int32)
    else
    gR (some a0) 7 10 fun v1 =>
    dvz (8 : Int32) (
    call (f_X8_at v1 (irem p1 (8 : Int32))) (fun (v2 : Int32) =>
    dvz (8 : Int32) (
    call (f_X8_has v2 (p1 / (8 : Int32))) (fun (v3 : Int32) =>
    (if v3 = 0 then
    retZ (0 : Int32)
    else
    retZ (1 : Int32))) nox)) nox))) hs := rfl
theorem u_f_X5_init (a0 : Nat) (p1 : Int32) (p2 : Int32) (p3 : Int32) (p4 : Int32) (hs : Hs) : f_X5_init a0 p1 p2 p3 p4 hs = (
    pZ (some a0) 8 4 (1 : Int32) (
    pI (some a0) 8 0 p1 (
    pI (some a0) 8 1 p2 (
    pI (some a0) 8 2 p3 (
    pI (some a0) 8 3 p4 (
    rtn ())))))) hs := rfl
theorem u_f_Jxa1e45_init_da8c8 (a0 : Nat) (hs : Hs) : f_Jxa1e45_init_da8c8 a0 hs = (
    rtn ()) hs := rfl
theorem u_f_Jxc12de_init_da8c8 (a0 : Nat) (hs : Hs) : f_Jxc12de_init_da8c8 a0 hs = (
    call (f_Jxa1e45_init_da8c8 a0 ) (fun (v1 : Unit) =>
    pI (some a0) 2 0 (0 : Int32) (
    rtn ())) nox) hs := rfl
theorem u_f_Jx4a65c_init_da8c8 (a0 : Nat) (hs : Hs) : f_Jx4a65c_init_da8c8 a0 hs = (
    call (f_Jxc12de_init_da8c8 a0 ) (fun (v1 : Unit) =>
    gE fun (v2 : Option Nat) =>
    pR (some a0) 2 1 v2 (
    rtn ())) nox) hs := rfl
theorem u_f_X6_init (a0 : Nat) (hs : Hs) : f_X6_init a0 hs = (
    nw 2 [.int 0, .null, .int 0] fun q1 =>
    call (f_Jx4a65c_init_da8c8 q1 ) (fun (v2 : Unit) =>
    pR (some a0) 9 0 (some q1) (
    nw 2 [.int 0, .null, .int 0] fun q3 =>
    call (f_Jx4a65c_init_da8c8 q3 ) (fun (v4 : Unit) =>
    pR (some a0) 9 1 (some q3) (
    nw 2 [.int 0, .null, .int 0] fun q5 =>
    call (f_Jx4a65c_init_da8c8 q5 ) (fun (v6 : Unit) =>
    pR (some a0) 9 2 (some q5) (
    nwI 0 (4 : Int32) 4 fun q7 =>
    stI (some q7) (0 : Int32) (1 : Int32) (
    stI (some q7) (1 : Int32) (1 : Int32) (
    stI (some q7) (2 : Int32) (1 : Int32) (
    stI (some q7) (3 : Int32) (1 : Int32) (
    pR (some a0) 9 3 (some q7) (
    nwI 0 (4 : Int32) 4 fun q8 =>
    pR (some a0) 9 4 (some q8) (
    rtn ())))))))) nox)) nox)) nox) hs := rfl
theorem u_j_X6_repair_60 (a0 : Option Nat) (a1 : Int32) (hs : Hs) : j_X6_repair_60 a0 a1 hs = (
  rcv a0 9 fun r16 => call (f_X6_unplaced r16 ) (fun (v14 : Int32) =>
    call (f_J6_bitCount_0f7a4 (a1 &&& v14)) (fun (v15 : Int32) =>
    rtn v15) nox) nox) hs := rfl
theorem u_f_X6_repair (a0 : Nat) (p1 : Int32) (hs : Hs) : f_X6_repair a0 p1 hs = (
    rcv (some a0) 9 fun r17 => call (f_X6_takeAll r17 p1) (fun (v1 : Unit) =>
    lets p1 fun (v2 : Int32) =>
    lets (0 : Int32) fun (v3 : Int32) =>
    L_X6_repair_9 (some a0) p1 (j_X6_repair_60 (some a0) p1) (j_X6_repair_60 (some a0) p1) 100000 v2 v3) nox) hs := rfl
theorem u_j_X6_setFreeLessons_41 (a0 : Option Nat) (a1 : Option Nat) (a3 : Int32) (s0 : Int32) (s1 : Int32) (rec_4 : Int32 → Int32 → OO Unit) (hs : Hs) : j_X6_setFreeLessons_41 a0 a1 a3 s0 s1 rec_4 hs = (
  lets (s1 ||| s0) fun (v8 : Int32) =>
    lets (a3 + (1 : Int32)) fun (v9 : Int32) =>
    rec_4 v8 v9) hs := rfl
theorem u_j_X6_setFreeLessons_127 (a0 : Option Nat) (a1 : Option Nat) (a2 : Int32) (a3 : Int32)  (rec_56 : Int32 → OO Unit) (hs : Hs) : j_X6_setFreeLessons_127 a0 a1 a2 a3 rec_56 hs = (
  lets (a3 + (1 : Int32)) fun (v22 : Int32) =>
    rec_56 v22) hs := rfl
theorem u_f_X6_setFreeLessons (a0 : Nat) (p1 : Option Nat) (hs : Hs) : f_X6_setFreeLessons a0 p1 hs = (
    lets (0 : Int32) fun (v1 : Int32) =>
    lets (0 : Int32) fun (v2 : Int32) =>
    L_X6_setFreeLessons_4 (some a0) p1 (fun (v13 : Int32) => rcv (some a0) 9 fun r34 => call (f_X6_takeAll r34 v13) (fun (v14 : Unit) =>
    lets (0 : Int32) fun (v15 : Int32) =>
    L_X6_setFreeLessons_56 (some a0) p1 v13 (rtn ()) 100000 v15) nox) 100000 v1 v2) hs := rfl
theorem u_j_X6_changeWish_73 (a0 : Option Nat) (a1 : Option Nat) (a2 : Int32) (a3 : Int32) (a4 : Int32) (a5 : Int32)  (rec_13 : Int32 → OO Int32) (hs : Hs) : j_X6_changeWish_73 a0 a1 a2 a3 a4 a5 rec_13 hs = (
  lets (a5 + (1 : Int32)) fun (v11 : Int32) =>
    rec_13 v11) hs := rfl
theorem u_f_X6_changeWish (a0 : Nat) (p1 : Option Nat) (p2 : Int32) (p3 : Int32) (hs : Hs) : f_X6_changeWish a0 p1 p2 p3 hs = (
    gR p1 10 0 fun v1 =>
    call (f_X8_at v1 p2) (fun (v2 : Int32) =>
    lets v2 fun (v3 : Int32) =>
    lets (0 : Int32) fun (v4 : Int32) =>
    L_X6_changeWish_13 (some a0) p1 p2 p3 v3 ((if p2 < 0 then
    rtn v3
    else
    gR p1 10 0 fun v19 =>
    alen v19 fun v20 =>
    (if v20 ≤ p2 then
    rtn v3
    else
    gR p1 10 0 fun v21 =>
    stI v21 p2 p3 (
    rtn v3)))) 100000 v4) nox) hs := rfl
theorem u_f_X6_changeWeight (a0 : Nat) (p1 : Int32) (p2 : Int32) (hs : Hs) : f_X6_changeWeight a0 p1 p2 hs = (
    gR (some a0) 9 3 fun v1 =>
    call (f_X8_at v1 p1) (fun (v2 : Int32) =>
    lets v2 fun (v3 : Int32) =>
    (if p1 < 0 then
    rtn v3
    else
    gR (some a0) 9 3 fun v4 =>
    alen v4 fun v5 =>
    (if v5 ≤ p1 then
    rtn v3
    else
    gR (some a0) 9 3 fun v6 =>
    stI v6 p1 p2 (
    rtn v3)))) nox) hs := rfl
theorem u_f_X6_isLate (p0 : Option Nat) (hs : Hs) : f_X6_isLate p0 hs = (
    rcv p0 7 fun r2 => call (f_X4_hoursNow r2 ) (fun (v1 : Int32) =>
    (if (v1 &&& (545392672 : Int32)) = 0 then
    retZ (0 : Int32)
    else
    retZ (1 : Int32))) nox) hs := rfl
theorem u_j_X6_lateLessonsOf_53 (a0 : Option Nat) (a1 : Option Nat) (a2 : Int32) (a3 : Int32)  (rec_4 : Int32 → Int32 → OO Int32) (hs : Hs) : j_X6_lateLessonsOf_53 a0 a1 a2 a3 rec_4 hs = (
  lets (a3 + (1 : Int32)) fun (v8 : Int32) =>
    rec_4 a2 v8) hs := rfl
theorem u_f_X6_lateLessonsOf (a0 : Nat) (p1 : Option Nat) (hs : Hs) : f_X6_lateLessonsOf a0 p1 hs = (
    lets (0 : Int32) fun (v1 : Int32) =>
    lets (0 : Int32) fun (v2 : Int32) =>
    L_X6_lateLessonsOf_4 (some a0) p1 (fun (v16 : Int32) => rtn v16) 100000 v1 v2) hs := rfl
theorem u_j_X6_bookLateHours_74 (a0 : Option Nat) (a1 : Int32)  (rec_2 : Int32 → OO Unit) (hs : Hs) : j_X6_bookLateHours_74 a0 a1 rec_2 hs = (
  lets (a1 + (1 : Int32)) fun (v8 : Int32) =>
    rec_2 v8) hs := rfl
theorem u_f_X6_bookLateHours (a0 : Nat) (hs : Hs) : f_X6_bookLateHours a0 hs = (
    lets (0 : Int32) fun (v1 : Int32) =>
    L_X6_bookLateHours_2 (some a0) (rtn ()) 100000 v1) hs := rfl
theorem u_j_X6_findPossible_37 (a1 : Option Nat) (a3 : Int32) (a4 : Int32)  (rec_10 : Int32 → Int32 → OO Int32) (hs : Hs) : j_X6_findPossible_37 a1 a3 a4 rec_10 hs = (
  lets (a4 + (1 : Int32)) fun (v5 : Int32) =>
    rec_10 a3 v5) hs := rfl
theorem u_f_X6_findPossible (a0 : Nat) (p1 : Option Nat) (p2 : Int32) (hs : Hs) : f_X6_findPossible a0 p1 p2 hs = (
    rcv (some a0) 9 fun r9 => call (f_X6_judgePlaces r9 p1) (fun (v1 : Unit) =>
    lets p2 fun (v2 : Int32) =>
    lets (0 : Int32) fun (v3 : Int32) =>
    L_X6_findPossible_10 p1 (fun (v8 : Int32) => rtn v8) (rtn (-1 : Int32)) 100000 v2 v3) nox) hs := rfl
theorem u_L_X6_repair_9 (a0 : Option Nat) (a1 : Int32) (k_9_27 : OO Int32) (k_9_60 : OO Int32) (n : Nat) (x2 : Int32) (x3 : Int32) (hs : Hs) : L_X6_repair_9 a0 a1 k_9_27 k_9_60 (n + 1) x2 x3 hs = (
    (if (16 : Int32) ≤ x3 then
    k_9_60
    else
    rcv a0 9 fun r13 => call (f_X6_findHardest r13 x2) (fun (v4 : Option Nat) =>
    lets v4 fun (v5 : Option Nat) =>
    (if ¬ v5 = none then
    gI v5 7 0 fun v6 =>
    lets ((x2 &&& (((((1 : Int32) <<< (v6 &&& 31))) ^^^ (-1 : Int32))))) fun (v7 : Int32) =>
    rcv a0 9 fun r12 => call (f_X6_findCheapest r12 v5) (fun (v8 : Int32) =>
    rcv a0 9 fun r11 => call (f_X6_putAt r11 v5 v8) (fun (v9 : Unit) =>
    lets (x3 + (1 : Int32)) fun (v10 : Int32) =>
    (L_X6_repair_9 a0 a1 k_9_27 k_9_60 n) v7 v10) nox) nox
    else
    k_9_27)) nox)) hs := rfl
theorem u_L_X6_setFreeLessons_4 (a0 : Option Nat) (a1 : Option Nat) (k_4_49 : Int32 → OO Unit) (n : Nat) (x2 : Int32) (x3 : Int32) (hs : Hs) : L_X6_setFreeLessons_4 a0 a1 k_4_49 (n + 1) x2 x3 hs = (
    gR a0 9 2 fun v3 =>
    rcv v3 2 fun r12 => call (f_Jx4a65c_size_8abf5 r12 ) (fun (v4 : Int32) =>
    (if v4 ≤ x3 then
    k_4_49 x2
    else
    gR a0 9 2 fun v5 =>
    rcv v5 2 fun r11 => call (f_Jx4a65c_get_915e3 r11 x3) (fun (v6 : Option Nat) =>
    cst v6 7 (
    rcv a0 9 fun r10 => call (f_X6_isFree r10 v6) (fun (v7 : Int32) =>
    (if v7 = 0 then
    j_X6_setFreeLessons_41 a0 a1 x3 (0 : Int32) x2 (L_X6_setFreeLessons_4 a0 a1 k_4_49 n)
    else
    j_X6_setFreeLessons_41 a0 a1 x3 (((1 : Int32) <<< (x3 &&& 31))) x2 (L_X6_setFreeLessons_4 a0 a1 k_4_49 n))) nox)) nox)) nox) hs := rfl
theorem u_L_X6_setFreeLessons_56 (a0 : Option Nat) (a1 : Option Nat) (a2 : Int32) (k_56_133 : OO Unit) (n : Nat) (x3 : Int32) (hs : Hs) : L_X6_setFreeLessons_56 a0 a1 a2 k_56_133 (n + 1) x3 hs = (
    gR a0 9 2 fun v16 =>
    rcv v16 2 fun r33 => call (f_Jx4a65c_size_8abf5 r33 ) (fun (v17 : Int32) =>
    (if v17 ≤ x3 then
    k_56_133
    else
    gR a0 9 2 fun v18 =>
    rcv v18 2 fun r32 => call (f_Jx4a65c_get_915e3 r32 x3) (fun (v19 : Option Nat) =>
    cst v19 7 (
    lets v19 fun (v20 : Option Nat) =>
    call (f_X8_has a2 x3) (fun (v21 : Int32) =>
    (if v21 = 0 then
    j_X6_setFreeLessons_127 a0 a1 a2 x3 (L_X6_setFreeLessons_56 a0 a1 a2 k_56_133 n)
    else
    call (f_X8_at a1 x3) (fun (v23 : Int32) =>
    (if v23 = (-1 : Int32) then
    j_X6_setFreeLessons_127 a0 a1 a2 x3 (L_X6_setFreeLessons_56 a0 a1 a2 k_56_133 n)
    else
    rcv a0 9 fun r31 => call (f_X6_judgePlaces r31 v20) (fun (v24 : Unit) =>
    call (f_X8_at a1 x3) (fun (v25 : Int32) =>
    rcv v20 7 fun r30 => call (f_X4_isPossible r30 v25) (fun (v26 : Int32) =>
    (if v26 = 0 then
    j_X6_setFreeLessons_127 a0 a1 a2 x3 (L_X6_setFreeLessons_56 a0 a1 a2 k_56_133 n)
    else
    call (f_X8_at a1 x3) (fun (v27 : Int32) =>
    rcv a0 9 fun r29 => call (f_X6_putAt r29 v20 v27) (fun (v28 : Unit) =>
    j_X6_setFreeLessons_127 a0 a1 a2 x3 (L_X6_setFreeLessons_56 a0 a1 a2 k_56_133 n)) nox) nox)) nox) nox) nox)) nox)) nox)) nox)) nox) hs := rfl
theorem u_L_X6_changeWish_13 (a0 : Option Nat) (a1 : Option Nat) (a2 : Int32) (a3 : Int32) (a4 : Int32) (k_13_79 : OO Int32) (n : Nat) (x5 : Int32) (hs : Hs) : L_X6_changeWish_13 a0 a1 a2 a3 a4 k_13_79 (n + 1) x5 hs = (
    gR a0 9 2 fun v5 =>
    rcv v5 2 fun r18 => call (f_Jx4a65c_size_8abf5 r18 ) (fun (v6 : Int32) =>
    (if v6 ≤ x5 then
    k_13_79
    else
    gR a0 9 2 fun v7 =>
    rcv v7 2 fun r17 => call (f_Jx4a65c_get_915e3 r17 x5) (fun (v8 : Option Nat) =>
    cst v8 7 (
    lets v8 fun (v9 : Option Nat) =>
    gR v9 7 2 fun v10 =>
    (if ¬ v10 = a1 then
    j_X6_changeWish_73 a0 a1 a2 a3 a4 x5 (L_X6_changeWish_13 a0 a1 a2 a3 a4 k_13_79 n)
    else
    rcv v9 7 fun r16 => call (f_X4_hoursNow r16 ) (fun (v12 : Int32) =>
    call (f_X8_has v12 a2) (fun (v13 : Int32) =>
    (if v13 = 0 then
    j_X6_changeWish_73 a0 a1 a2 a3 a4 x5 (L_X6_changeWish_13 a0 a1 a2 a3 a4 k_13_79 n)
    else
    gR a0 9 4 fun v14 =>
    ldI 0 v14 (2 : Int32) fun v15 =>
    stI v14 (2 : Int32) (v15 + (a3 - a4)) (
    j_X6_changeWish_73 a0 a1 a2 a3 a4 x5 (L_X6_changeWish_13 a0 a1 a2 a3 a4 k_13_79 n)))) nox) nox))) nox)) nox) hs := rfl
theorem u_L_X6_lateLessonsOf_4 (a0 : Option Nat) (a1 : Option Nat) (k_4_59 : Int32 → OO Int32) (n : Nat) (x2 : Int32) (x3 : Int32) (hs : Hs) : L_X6_lateLessonsOf_4 a0 a1 k_4_59 (n + 1) x2 x3 hs = (
    gR a0 9 2 fun v3 =>
    rcv v3 2 fun r15 => call (f_Jx4a65c_size_8abf5 r15 ) (fun (v4 : Int32) =>
    (if v4 ≤ x3 then
    k_4_59 x2
    else
    gR a0 9 2 fun v5 =>
    rcv v5 2 fun r14 => call (f_Jx4a65c_get_915e3 r14 x3) (fun (v6 : Option Nat) =>
    cst v6 7 (
    gR v6 7 2 fun v7 =>
    (if ¬ v7 = a1 then
    j_X6_lateLessonsOf_53 a0 a1 x2 x3 (L_X6_lateLessonsOf_4 a0 a1 k_4_59 n)
    else
    gR a0 9 2 fun v9 =>
    rcv v9 2 fun r13 => call (f_Jx4a65c_get_915e3 r13 x3) (fun (v10 : Option Nat) =>
    cst v10 7 (
    call (f_X6_isLate v10) (fun (v11 : Int32) =>
    (if v11 = 0 then
    j_X6_lateLessonsOf_53 a0 a1 x2 x3 (L_X6_lateLessonsOf_4 a0 a1 k_4_59 n)
    else
    lets (x2 + (1 : Int32)) fun (v12 : Int32) =>
    j_X6_lateLessonsOf_53 a0 a1 v12 x3 (L_X6_lateLessonsOf_4 a0 a1 k_4_59 n))) nox)) nox))) nox)) nox) hs := rfl
theorem u_L_X6_bookLateHours_2 (a0 : Option Nat) (k_2_80 : OO Unit) (n : Nat) (x1 : Int32) (hs : Hs) : L_X6_bookLateHours_2 a0 k_2_80 (n + 1) x1 hs = (
    gR a0 9 2 fun v2 =>
    rcv v2 2 fun r19 => call (f_Jx4a65c_size_8abf5 r19 ) (fun (v3 : Int32) =>
    (if v3 ≤ x1 then
    k_2_80
    else
    gR a0 9 2 fun v4 =>
    rcv v4 2 fun r18 => call (f_Jx4a65c_get_915e3 r18 x1) (fun (v5 : Option Nat) =>
    cst v5 7 (
    lets v5 fun (v6 : Option Nat) =>
    call (f_X6_isLate v6) (fun (v7 : Int32) =>
    (if v7 = 0 then
    j_X6_bookLateHours_74 a0 x1 (L_X6_bookLateHours_2 a0 k_2_80 n)
    else
    gR v6 7 2 fun v9 =>
    gI v9 10 2 fun v10 =>
    (if (9 : Int32) ≤ v10 then
    j_X6_bookLateHours_74 a0 x1 (L_X6_bookLateHours_2 a0 k_2_80 n)
    else
    gR v6 7 2 fun v11 =>
    gI v11 10 2 fun v12 =>
    pI v11 10 2 (v12 + (1 : Int32)) (
    gR a0 9 4 fun v13 =>
    ldI 0 v13 (1 : Int32) fun v14 =>
    gR v6 7 2 fun v15 =>
    rcv a0 9 fun r17 => call (f_X6_lateLessonsOf r17 v15) (fun (v16 : Int32) =>
    stI v13 (1 : Int32) (v14 + v16) (
    j_X6_bookLateHours_74 a0 x1 (L_X6_bookLateHours_2 a0 k_2_80 n))) nox)))) nox)) nox)) nox) hs := rfl
theorem u_L_X6_findPossible_10 (a1 : Option Nat) (k_10_31 : Int32 → OO Int32) (k_10_43 : OO Int32) (n : Nat) (x3 : Int32) (x4 : Int32) (hs : Hs) : L_X6_findPossible_10 a1 k_10_31 k_10_43 (n + 1) x3 x4 hs = (
    (if (240 : Int32) ≤ x4 then
    k_10_43
    else
    rcv a1 7 fun r7 => call (f_X4_isPossible r7 x4) (fun (v4 : Int32) =>
    (if v4 = 0 then
    j_X6_findPossible_37 a1 x3 x4 (L_X6_findPossible_10 a1 k_10_31 k_10_43 n)
    else
    (if ¬ x3 = 0 then
    lets (x3 + (-1 : Int32)) fun (v6 : Int32) =>
    j_X6_findPossible_37 a1 v6 x4 (L_X6_findPossible_10 a1 k_10_31 k_10_43 n)
    else
    k_10_31 x4))) nox)) hs := rfl
theorem u_j_X6_broken_74 (a0 : Option Nat) (a1 : Int32) (a2 : Int32)  (rec_4 : Int32 → Int32 → OO Int32) (hs : Hs) : j_X6_broken_74 a0 a1 a2 rec_4 hs = (
  lets (a2 + (1 : Int32)) fun (v10 : Int32) =>
    rec_4 a1 v10) hs := rfl
theorem u_j_X6_broken_72 (a0 : Option Nat) (a2 : Int32) (s0 : Int32) (s1 : Int32) (rec_4 : Int32 → Int32 → OO Int32) (hs : Hs) : j_X6_broken_72 a0 a2 s0 s1 rec_4 hs = (
  lets (s1 ||| s0) fun (v15 : Int32) =>
    j_X6_broken_74 a0 v15 a2 rec_4) hs := rfl
theorem u_f_X6_broken (a0 : Nat) (hs : Hs) : f_X6_broken a0 hs = (
    lets (0 : Int32) fun (v1 : Int32) =>
    lets (0 : Int32) fun (v2 : Int32) =>
    L_X6_broken_4 (some a0) (fun (v21 : Int32) => rtn v21) 100000 v1 v2) hs := rfl
theorem u_f_X6_countBreaks (a0 : Nat) (hs : Hs) : f_X6_countBreaks a0 hs = (
    rcv (some a0) 9 fun r3 => call (f_X6_broken r3 ) (fun (v1 : Int32) =>
    call (f_J6_bitCount_0f7a4 v1) (fun (v2 : Int32) =>
    rtn v2) nox) nox) hs := rfl
theorem u_j_X6_hoursOf_52 (a0 : Option Nat) (a1 : Option Nat) (a3 : Int32) (s0 : Int32) (s1 : Int32) (rec_4 : Int32 → Int32 → OO Int32) (hs : Hs) : j_X6_hoursOf_52 a0 a1 a3 s0 s1 rec_4 hs = (
  lets (s1 ||| s0) fun (v8 : Int32) =>
    lets (a3 + (1 : Int32)) fun (v9 : Int32) =>
    rec_4 v8 v9) hs := rfl
theorem u_f_X6_hoursOf (a0 : Nat) (p1 : Option Nat) (hs : Hs) : f_X6_hoursOf a0 p1 hs = (
    lets (0 : Int32) fun (v1 : Int32) =>
    lets (0 : Int32) fun (v2 : Int32) =>
    L_X6_hoursOf_4 (some a0) p1 (fun (v17 : Int32) => rtn v17) 100000 v1 v2) hs := rfl
theorem u_j_X6_gapsOnDay_55 (a0 : Int32) (a1 : Int32) (a2 : Int32) (a3 : Int32) (a4 : Int32) (a5 : Int32)  (rec_10 : Int32 → Int32 → Int32 → Int32 → OO Int32) (hs : Hs) : j_X6_gapsOnDay_55 a0 a1 a2 a3 a4 a5 rec_10 hs = (
  lets (a5 + (1 : Int32)) fun (v7 : Int32) =>
    rec_10 a2 a3 a4 v7) hs := rfl
theorem u_j_X6_gapsOnDay_42 (a0 : Int32) (a1 : Int32) (a5 : Int32) (s0 : Int32) (s1 : Int32) (rec_10 : Int32 → Int32 → Int32 → Int32 → OO Int32) (hs : Hs) : j_X6_gapsOnDay_42 a0 a1 a5 s0 s1 rec_10 hs = (
  lets (s1 + s0) fun (v8 : Int32) =>
    lets (0 : Int32) fun (v9 : Int32) =>
    lets (1 : Int32) fun (v10 : Int32) =>
    j_X6_gapsOnDay_55 a0 a1 v8 v9 v10 a5 rec_10) hs := rfl
theorem u_f_X6_gapsOnDay (p0 : Int32) (p1 : Int32) (hs : Hs) : f_X6_gapsOnDay p0 p1 hs = (
    lets (0 : Int32) fun (v1 : Int32) =>
    lets (0 : Int32) fun (v2 : Int32) =>
    lets (0 : Int32) fun (v3 : Int32) =>
    lets (0 : Int32) fun (v4 : Int32) =>
    L_X6_gapsOnDay_10 p0 p1 (fun (v11 : Int32) => rtn v11) 100000 v1 v2 v3 v4) hs := rfl
theorem u_f_X6_gapsAnew (a0 : Nat) (hs : Hs) : f_X6_gapsAnew a0 hs = (
    lets (0 : Int32) fun (v1 : Int32) =>
    lets (0 : Int32) fun (v2 : Int32) =>
    L_X6_gapsAnew_4 (some a0) (fun (v18 : Int32) => rtn v18) 100000 v1 v2) hs := rfl
theorem u_j_X6_lateHoursAnew_56 (a0 : Option Nat) (a2 : Int32) (s0 : Int32) (s1 : Int32) (rec_4 : Int32 → Int32 → OO Int32) (hs : Hs) : j_X6_lateHoursAnew_56 a0 a2 s0 s1 rec_4 hs = (
  lets (s1 + s0) fun (v8 : Int32) =>
    lets (a2 + (1 : Int32)) fun (v9 : Int32) =>
    rec_4 v8 v9) hs := rfl
theorem u_f_X6_lateHoursAnew (a0 : Nat) (hs : Hs) : f_X6_lateHoursAnew a0 hs = (
    lets (0 : Int32) fun (v1 : Int32) =>
    lets (0 : Int32) fun (v2 : Int32) =>
    L_X6_lateHoursAnew_4 (some a0) (fun (v17 : Int32) => rtn v17) 100000 v1 v2) hs := rfl
theorem u_j_X6_wishesAnew_68 (a0 : Option Nat) (a2 : Int32) (a3 : Option Nat) (a4 : Int32) (s0 : Int32) (s1 : Int32) (rec_30 : Int32 → Int32 → OO Int32) (hs : Hs) : j_X6_wishesAnew_68 a0 a2 a3 a4 s0 s1 rec_30 hs = (
  lets (s1 + s0) fun (v15 : Int32) =>
    lets (a4 + (1 : Int32)) fun (v16 : Int32) =>
    rec_30 v15 v16) hs := rfl
theorem u_f_X6_wishesAnew (a0 : Nat) (hs : Hs) : f_X6_wishesAnew a0 hs = (
    lets (0 : Int32) fun (v1 : Int32) =>
    lets (0 : Int32) fun (v2 : Int32) =>
    L_X6_wishesAnew_4 (some a0) (fun (v21 : Int32) => rtn v21) 100000 v1 v2) hs := rfl
theorem u_f_X6_areCrowd (p0 : Option Nat) (p1 : Option Nat) (hs : Hs) : f_X6_areCrowd p0 p1 hs = (
    gR p0 7 6 fun v1 =>
    (if v1 = none then
    retZ (0 : Int32)
    else
    gI p0 7 7 fun v2 =>
    dvz (6 : Int32) (
    rcv p1 7 fun r8 => call (f_X4_isOn r8 (v2 / (6 : Int32))) (fun (v3 : Int32) =>
    (if v3 = 0 then
    retZ (0 : Int32)
    else
    gR p0 7 1 fun v4 =>
    gR p1 7 1 fun v5 =>
    (if ¬ v4 = v5 then
    retZ (0 : Int32)
    else
    gI p0 7 5 fun v6 =>
    gI p1 7 5 fun v7 =>
    (if ¬ v6 = v7 then
    retZ (0 : Int32)
    else
    retZ (1 : Int32))))) nox))) hs := rfl
theorem u_j_X6_crowdsAnew_56 (a0 : Option Nat) (a2 : Int32) (a3 : Int32) (s0 : Int32) (s1 : Int32) (rec_17 : Int32 → Int32 → OO Int32) (hs : Hs) : j_X6_crowdsAnew_56 a0 a2 a3 s0 s1 rec_17 hs = (
  lets (s1 + s0) fun (v11 : Int32) =>
    lets (a3 + (1 : Int32)) fun (v12 : Int32) =>
    rec_17 v11 v12) hs := rfl
theorem u_f_X6_crowdsAnew (a0 : Nat) (hs : Hs) : f_X6_crowdsAnew a0 hs = (
    lets (0 : Int32) fun (v1 : Int32) =>
    lets (0 : Int32) fun (v2 : Int32) =>
    L_X6_crowdsAnew_4 (some a0) (fun (v18 : Int32) => rtn v18) 100000 v1 v2) hs := rfl
theorem u_f_X6_amountAnew (a0 : Nat) (p1 : Int32) (hs : Hs) : f_X6_amountAnew a0 p1 hs = (
    (if p1 = (0 : Int32) then
    rcv (some a0) 9 fun r8 => call (f_X6_gapsAnew r8 ) (fun (v7 : Int32) =>
    rtn v7) nox
    else
    (if p1 = (1 : Int32) then
    rcv (some a0) 9 fun r6 => call (f_X6_lateHoursAnew r6 ) (fun (v5 : Int32) =>
    rtn v5) nox
    else
    (if p1 = (2 : Int32) then
    rcv (some a0) 9 fun r4 => call (f_X6_wishesAnew r4 ) (fun (v3 : Int32) =>
    rtn v3) nox
    else
    (if p1 = (3 : Int32) then
    rcv (some a0) 9 fun r2 => call (f_X6_crowdsAnew r2 ) (fun (v1 : Int32) =>
    rtn v1) nox
    else
    rtn (0 : Int32)))))) hs := rfl
theorem u_f_X7_init (a0 : Nat) (p1 : Int32) (hs : Hs) : f_X7_init a0 p1 hs = (
    nwI 0 (30 : Int32) 30 fun q1 =>
    pR (some a0) 10 0 (some q1) (
    pI (some a0) 10 1 p1 (
    rtn ()))) hs := rfl
theorem u_f_X8_init (a0 : Nat) (hs : Hs) : f_X8_init a0 hs = (
    nw 2 [.int 0, .null, .int 0] fun q1 =>
    call (f_Jx4a65c_init_da8c8 q1 ) (fun (v2 : Unit) =>
    pR (some a0) 11 0 (some q1) (
    nw 9 [.null, .null, .null, .null, .null, .int 0] fun q3 =>
    call (f_X6_init q3 ) (fun (v4 : Unit) =>
    pR (some a0) 11 1 (some q3) (
    nw 4 [.null] fun q5 =>
    call (f_X1_init q5 ) (fun (v6 : Unit) =>
    pR (some a0) 11 2 (some q5) (
    nw 6 [.null, .null] fun q7 =>
    call (f_X3_init q7 ) (fun (v8 : Unit) =>
    pR (some a0) 11 3 (some q7) (
    nw 3 [.null] fun q9 =>
    call (f_X0_init q9 ) (fun (v10 : Unit) =>
    pR (some a0) 11 4 (some q9) (
    nw2 fun q11 =>
    pR (some a0) 11 5 (some q11) (
    nwI 0 (16 : Int32) 16 fun q12 =>
    pR (some a0) 11 6 (some q12) (
    nwI 0 (8 : Int32) 8 fun q13 =>
    pR (some a0) 11 7 (some q13) (
    rtn ()))))) nox)) nox)) nox)) nox)) nox) hs := rfl
theorem u_L_X6_broken_4 (a0 : Option Nat) (k_4_80 : Int32 → OO Int32) (n : Nat) (x1 : Int32) (x2 : Int32) (hs : Hs) : L_X6_broken_4 a0 k_4_80 (n + 1) x1 x2 hs = (
    gR a0 9 2 fun v3 =>
    rcv v3 2 fun r20 => call (f_Jx4a65c_size_8abf5 r20 ) (fun (v4 : Int32) =>
    (if v4 ≤ x2 then
    k_4_80 x1
    else
    gR a0 9 2 fun v5 =>
    rcv v5 2 fun r19 => call (f_Jx4a65c_get_915e3 r19 x2) (fun (v6 : Option Nat) =>
    cst v6 7 (
    lets v6 fun (v7 : Option Nat) =>
    gR v7 7 6 fun v8 =>
    lets v8 fun (v9 : Option Nat) =>
    (if v9 = none then
    j_X6_broken_74 a0 x1 x2 (L_X6_broken_4 a0 k_4_80 n)
    else
    rcv a0 9 fun r18 => call (f_X6_isPast r18 v7) (fun (v11 : Int32) =>
    (if ¬ v11 = 0 then
    j_X6_broken_74 a0 x1 x2 (L_X6_broken_4 a0 k_4_80 n)
    else
    rcv a0 9 fun r17 => call (f_X6_lookAround r17 v7) (fun (v12 : Unit) =>
    gI v7 7 7 fun v13 =>
    rcv v7 7 fun r16 => call (f_X4_lettersAt r16 v13 v9) (fun (v14 : Int32) =>
    (if v14 = 0 then
    j_X6_broken_72 a0 x2 (0 : Int32) x1 (L_X6_broken_4 a0 k_4_80 n)
    else
    j_X6_broken_72 a0 x2 (((1 : Int32) <<< (x2 &&& 31))) x1 (L_X6_broken_4 a0 k_4_80 n))) nox) nox)) nox))) nox)) nox) hs := rfl
theorem u_L_X6_hoursOf_4 (a0 : Option Nat) (a1 : Option Nat) (k_4_60 : Int32 → OO Int32) (n : Nat) (x2 : Int32) (x3 : Int32) (hs : Hs) : L_X6_hoursOf_4 a0 a1 k_4_60 (n + 1) x2 x3 hs = (
    gR a0 9 2 fun v3 =>
    rcv v3 2 fun r16 => call (f_Jx4a65c_size_8abf5 r16 ) (fun (v4 : Int32) =>
    (if v4 ≤ x3 then
    k_4_60 x2
    else
    gR a0 9 2 fun v5 =>
    rcv v5 2 fun r15 => call (f_Jx4a65c_get_915e3 r15 x3) (fun (v6 : Option Nat) =>
    cst v6 7 (
    gR v6 7 1 fun v7 =>
    (if ¬ v7 = a1 then
    j_X6_hoursOf_52 a0 a1 x3 (0 : Int32) x2 (L_X6_hoursOf_4 a0 a1 k_4_60 n)
    else
    gR a0 9 2 fun v10 =>
    rcv v10 2 fun r14 => call (f_Jx4a65c_get_915e3 r14 x3) (fun (v11 : Option Nat) =>
    cst v11 7 (
    rcv v11 7 fun r13 => call (f_X4_hoursNow r13 ) (fun (v12 : Int32) =>
    j_X6_hoursOf_52 a0 a1 x3 v12 x2 (L_X6_hoursOf_4 a0 a1 k_4_60 n)) nox)) nox))) nox)) nox) hs := rfl
theorem u_L_X6_gapsOnDay_10 (a0 : Int32) (a1 : Int32) (k_10_61 : Int32 → OO Int32) (n : Nat) (x2 : Int32) (x3 : Int32) (x4 : Int32) (x5 : Int32) (hs : Hs) : L_X6_gapsOnDay_10 a0 a1 k_10_61 (n + 1) x2 x3 x4 x5 hs = (
    (if (6 : Int32) ≤ x5 then
    k_10_61 x2
    else
    call (f_X8_has a0 (((6 : Int32) * a1) + x5)) (fun (v5 : Int32) =>
    (if v5 = 0 then
    lets (x3 + (1 : Int32)) fun (v6 : Int32) =>
    j_X6_gapsOnDay_55 a0 a1 x2 v6 x4 x5 (L_X6_gapsOnDay_10 a0 a1 k_10_61 n)
    else
    (if x4 = 0 then
    j_X6_gapsOnDay_42 a0 a1 x5 (0 : Int32) x2 (L_X6_gapsOnDay_10 a0 a1 k_10_61 n)
    else
    j_X6_gapsOnDay_42 a0 a1 x5 x3 x2 (L_X6_gapsOnDay_10 a0 a1 k_10_61 n)))) nox)) hs := rfl
theorem u_L_X6_gapsAnew_34 (a0 : Option Nat) (a2 : Int32) (a3 : Int32) (k_34_55 : Int32 → OO Int32) (n : Nat) (x1 : Int32) (x4 : Int32) (hs : Hs) : L_X6_gapsAnew_34 a0 a2 a3 k_34_55 (n + 1) x1 x4 hs = (
    (if (5 : Int32) ≤ x4 then
    k_34_55 x1
    else
    call (f_X6_gapsOnDay a3 x4) (fun (v10 : Int32) =>
    lets (x1 + v10) fun (v11 : Int32) =>
    lets (x4 + (1 : Int32)) fun (v12 : Int32) =>
    (L_X6_gapsAnew_34 a0 a2 a3 k_34_55 n) v11 v12) nox)) hs := rfl
theorem u_L_X6_gapsAnew_4 (a0 : Option Nat) (k_4_61 : Int32 → OO Int32) (n : Nat) (x1 : Int32) (x2 : Int32) (hs : Hs) : L_X6_gapsAnew_4 a0 k_4_61 (n + 1) x1 x2 hs = (
    gR a0 9 1 fun v3 =>
    rcv v3 2 fun r17 => call (f_Jx4a65c_size_8abf5 r17 ) (fun (v4 : Int32) =>
    (if v4 ≤ x2 then
    k_4_61 x1
    else
    gR a0 9 1 fun v5 =>
    rcv v5 2 fun r16 => call (f_Jx4a65c_get_915e3 r16 x2) (fun (v6 : Option Nat) =>
    cst v6 5 (
    rcv a0 9 fun r15 => call (f_X6_hoursOf r15 v6) (fun (v7 : Int32) =>
    lets v7 fun (v8 : Int32) =>
    lets (0 : Int32) fun (v9 : Int32) =>
    L_X6_gapsAnew_34 a0 x2 v8 (fun (v13 : Int32) => lets (x2 + (1 : Int32)) fun (v14 : Int32) =>
    (L_X6_gapsAnew_4 a0 k_4_61 n) v13 v14) 100000 x1 v9) nox)) nox)) nox) hs := rfl
theorem u_L_X6_lateHoursAnew_4 (a0 : Option Nat) (k_4_64 : Int32 → OO Int32) (n : Nat) (x1 : Int32) (x2 : Int32) (hs : Hs) : L_X6_lateHoursAnew_4 a0 k_4_64 (n + 1) x1 x2 hs = (
    gR a0 9 2 fun v3 =>
    rcv v3 2 fun r16 => call (f_Jx4a65c_size_8abf5 r16 ) (fun (v4 : Int32) =>
    (if v4 ≤ x2 then
    k_4_64 x1
    else
    gR a0 9 2 fun v5 =>
    rcv v5 2 fun r15 => call (f_Jx4a65c_get_915e3 r15 x2) (fun (v6 : Option Nat) =>
    cst v6 7 (
    call (f_X6_isLate v6) (fun (v7 : Int32) =>
    (if v7 = 0 then
    j_X6_lateHoursAnew_56 a0 x2 (0 : Int32) x1 (L_X6_lateHoursAnew_4 a0 k_4_64 n)
    else
    gR a0 9 2 fun v10 =>
    rcv v10 2 fun r14 => call (f_Jx4a65c_get_915e3 r14 x2) (fun (v11 : Option Nat) =>
    cst v11 7 (
    gR v11 7 2 fun v12 =>
    gI v12 10 2 fun v13 =>
    j_X6_lateHoursAnew_56 a0 x2 ((1 : Int32) + v13) x1 (L_X6_lateHoursAnew_4 a0 k_4_64 n))) nox)) nox)) nox)) nox) hs := rfl
theorem u_L_X6_wishesAnew_30 (a0 : Option Nat) (a2 : Int32) (a3 : Option Nat) (k_30_76 : Int32 → OO Int32) (n : Nat) (x1 : Int32) (x4 : Int32) (hs : Hs) : L_X6_wishesAnew_30 a0 a2 a3 k_30_76 (n + 1) x1 x4 hs = (
    gI a3 7 4 fun v9 =>
    (if v9 ≤ x4 then
    k_30_76 x1
    else
    gR a3 7 6 fun v10 =>
    (if ¬ v10 = none then
    gR a3 7 2 fun v11 =>
    gR v11 10 0 fun v12 =>
    gI a3 7 7 fun v13 =>
    call (f_X8_at v12 (v13 + x4)) (fun (v14 : Int32) =>
    j_X6_wishesAnew_68 a0 a2 a3 x4 v14 x1 (L_X6_wishesAnew_30 a0 a2 a3 k_30_76 n)) nox
    else
    j_X6_wishesAnew_68 a0 a2 a3 x4 (0 : Int32) x1 (L_X6_wishesAnew_30 a0 a2 a3 k_30_76 n)))) hs := rfl
theorem u_L_X6_wishesAnew_4 (a0 : Option Nat) (k_4_82 : Int32 → OO Int32) (n : Nat) (x1 : Int32) (x2 : Int32) (hs : Hs) : L_X6_wishesAnew_4 a0 k_4_82 (n + 1) x1 x2 hs = (
    gR a0 9 2 fun v3 =>
    rcv v3 2 fun r20 => call (f_Jx4a65c_size_8abf5 r20 ) (fun (v4 : Int32) =>
    (if v4 ≤ x2 then
    k_4_82 x1
    else
    gR a0 9 2 fun v5 =>
    rcv v5 2 fun r19 => call (f_Jx4a65c_get_915e3 r19 x2) (fun (v6 : Option Nat) =>
    cst v6 7 (
    lets v6 fun (v7 : Option Nat) =>
    lets (0 : Int32) fun (v8 : Int32) =>
    L_X6_wishesAnew_30 a0 x2 v7 (fun (v17 : Int32) => lets (x2 + (1 : Int32)) fun (v18 : Int32) =>
    (L_X6_wishesAnew_4 a0 k_4_82 n) v17 v18) 100000 x1 v8)) nox)) nox) hs := rfl
theorem u_L_X6_crowdsAnew_17 (a0 : Option Nat) (a2 : Int32) (k_17_64 : Int32 → OO Int32) (n : Nat) (x1 : Int32) (x3 : Int32) (hs : Hs) : L_X6_crowdsAnew_17 a0 a2 k_17_64 (n + 1) x1 x3 hs = (
    (if a2 ≤ x3 then
    k_17_64 x1
    else
    gR a0 9 2 fun v6 =>
    rcv v6 2 fun r14 => call (f_Jx4a65c_get_915e3 r14 a2) (fun (v7 : Option Nat) =>
    cst v7 7 (
    gR a0 9 2 fun v8 =>
    rcv v8 2 fun r13 => call (f_Jx4a65c_get_915e3 r13 x3) (fun (v9 : Option Nat) =>
    cst v9 7 (
    call (f_X6_areCrowd v7 v9) (fun (v10 : Int32) =>
    (if v10 = 0 then
    j_X6_crowdsAnew_56 a0 a2 x3 (0 : Int32) x1 (L_X6_crowdsAnew_17 a0 a2 k_17_64 n)
    else
    j_X6_crowdsAnew_56 a0 a2 x3 (1 : Int32) x1 (L_X6_crowdsAnew_17 a0 a2 k_17_64 n))) nox)) nox)) nox)) hs := rfl
theorem u_L_X6_crowdsAnew_4 (a0 : Option Nat) (k_4_70 : Int32 → OO Int32) (n : Nat) (x1 : Int32) (x2 : Int32) (hs : Hs) : L_X6_crowdsAnew_4 a0 k_4_70 (n + 1) x1 x2 hs = (
    gR a0 9 2 fun v3 =>
    rcv v3 2 fun r17 => call (f_Jx4a65c_size_8abf5 r17 ) (fun (v4 : Int32) =>
    (if v4 ≤ x2 then
    k_4_70 x1
    else
    lets (0 : Int32) fun (v5 : Int32) =>
    L_X6_crowdsAnew_17 a0 x2 (fun (v15 : Int32) => lets (x2 + (1 : Int32)) fun (v16 : Int32) =>
    (L_X6_crowdsAnew_4 a0 k_4_70 n) v15 v16) 100000 x1 v5)) nox) hs := rfl
theorem u_j_X8_isOutside_10 (hs : Hs) : j_X8_isOutside_10  hs = (
  retZ (1 : Int32)) hs := rfl
theorem u_f_X8_isOutside (p0 : Int32) (p1 : Int32) (p2 : Int32) (hs : Hs) : f_X8_isOutside p0 p1 p2 hs = (
    (if p0 < p1 then
    j_X8_isOutside_10
    else
    (if p0 ≤ p2 then
    retZ (0 : Int32)
    else
    j_X8_isOutside_10))) hs := rfl
theorem u_f_J8_hugeLength_7cf53 (p0 : Int32) (p1 : Int32) (hs : Hs) : f_J8_hugeLength_7cf53 p0 p1 hs = (
    lets (p0 + p1) fun (v1 : Int32) =>
    (if 0 ≤ v1 then
    (if (2147483639 : Int32) < v1 then
    rtn v1
    else
    rtn (2147483639 : Int32))
    else
    failO)) hs := rfl
theorem u_j_J8_newLength_cabcc_21 (a0 : Int32) (a1 : Int32) (hs : Hs) : j_J8_newLength_cabcc_21 a0 a1 hs = (
  call (f_J8_hugeLength_7cf53 a0 a1) (fun (v2 : Int32) =>
    rtn v2) nox) hs := rfl
theorem u_f_J8_newLength_cabcc (p0 : Int32) (p1 : Int32) (p2 : Int32) (hs : Hs) : f_J8_newLength_cabcc p0 p1 p2 hs = (
    lets (p0 + (if p1 < p2 then p2 else p1)) fun (v1 : Int32) =>
    (if v1 ≤ (0 : Int32) then
    j_J8_newLength_cabcc_21 p0 p1
    else
    (if (2147483639 : Int32) < v1 then
    j_J8_newLength_cabcc_21 p0 p1
    else
    rtn v1))) hs := rfl
theorem u_j_J7_copyOf_6403c_24 (a0 : Option Nat) (a1 : Int32) (s0 : Option Nat) (hs : Hs) : j_J7_copyOf_6403c_24 a0 a1 s0 hs = (
  lets s0 fun (v2 : Option Nat) =>
    alen a0 fun v3 =>
    cpy a0 v2 (if a1 < v3 then a1 else v3) (
    rtn v2)) hs := rfl
theorem u_f_J7_copyOf_6403c (p0 : Option Nat) (p1 : Int32) (hs : Hs) : f_J7_copyOf_6403c p0 p1 hs = (
    nwO p1 30 fun q1 =>
    j_J7_copyOf_6403c_24 p0 p1 (some q1)) hs := rfl
theorem u_f_J7_copyOf_1904c (p0 : Option Nat) (p1 : Int32) (hs : Hs) : f_J7_copyOf_1904c p0 p1 hs = (
    arrO p0 (
    call (f_J7_copyOf_6403c p0 p1) (fun (v1 : Option Nat) =>
    rtn v1) nox)) hs := rfl
theorem u_j_Jx4a65c_grow_92f84_20 (a0 : Option Nat) (a1 : Int32) (a2 : Int32) (hs : Hs) : j_Jx4a65c_grow_92f84_20 a0 a1 a2 hs = (
  call (f_J8_newLength_cabcc a2 (a1 - a2) (a2 >>> ((1 : Int32) &&& 31))) (fun (v4 : Int32) =>
    lets v4 fun (v5 : Int32) =>
    gR a0 2 1 fun v6 =>
    call (f_J7_copyOf_1904c v6 v5) (fun (v7 : Option Nat) =>
    pR a0 2 1 v7 (
    rtn v7)) nox) nox) hs := rfl
theorem u_f_Jx4a65c_grow_92f84 (a0 : Nat) (p1 : Int32) (hs : Hs) : f_Jx4a65c_grow_92f84 a0 p1 hs = (
    gR (some a0) 2 1 fun v1 =>
    alen v1 fun v2 =>
    lets v2 fun (v3 : Int32) =>
    (if 0 < v3 then
    j_Jx4a65c_grow_92f84_20 (some a0) p1 v3
    else
    gR (some a0) 2 1 fun v8 =>
    gE fun (v9 : Option Nat) =>
    (if v8 = v9 then
    nwO ((if (10 : Int32) < p1 then p1 else (10 : Int32))) 30 fun q10 =>
    pR (some a0) 2 1 (some q10) (
    rtn (some q10))
    else
    j_Jx4a65c_grow_92f84_20 (some a0) p1 v3))) hs := rfl
theorem u_f_Jx4a65c_grow_d5877 (a0 : Nat) (hs : Hs) : f_Jx4a65c_grow_d5877 a0 hs = (
    gI (some a0) 2 2 fun v1 =>
    rcv (some a0) 2 fun r3 => call (f_Jx4a65c_grow_92f84 r3 (v1 + (1 : Int32))) (fun (v2 : Option Nat) =>
    rtn v2) nox) hs := rfl
theorem u_j_Jx4a65c_add_72be8_11 (a0 : Option Nat) (a1 : Option Nat) (a2 : Option Nat) (a3 : Int32) (hs : Hs) : j_Jx4a65c_add_72be8_11 a0 a1 a2 a3 hs = (
  stO [5, 7, 8, 10] a2 a3 a1 (
    pI a0 2 2 (a3 + (1 : Int32)) (
    rtn ()))) hs := rfl
theorem u_f_Jx4a65c_add_72be8 (a0 : Nat) (p1 : Option Nat) (p2 : Option Nat) (p3 : Int32) (hs : Hs) : f_Jx4a65c_add_72be8 a0 p1 p2 p3 hs = (
    alen p2 fun v1 =>
    (if ¬ p3 = v1 then
    j_Jx4a65c_add_72be8_11 (some a0) p1 p2 p3
    else
    rcv (some a0) 2 fun r4 => call (f_Jx4a65c_grow_d5877 r4 ) (fun (v2 : Option Nat) =>
    lets v2 fun (v3 : Option Nat) =>
    j_Jx4a65c_add_72be8_11 (some a0) p1 v3 p3) nox)) hs := rfl
theorem u_f_Jx4a65c_add_9ea2d (a0 : Nat) (p1 : Option Nat) (hs : Hs) : f_Jx4a65c_add_9ea2d a0 p1 hs = (
    gI (some a0) 2 0 fun v1 =>
    pI (some a0) 2 0 (v1 + (1 : Int32)) (
    gR (some a0) 2 1 fun v2 =>
    gI (some a0) 2 2 fun v3 =>
    rcv (some a0) 2 fun r5 => call (f_Jx4a65c_add_72be8 r5 p1 v2 v3) (fun (v4 : Unit) =>
    retZ (1 : Int32)) nox)) hs := rfl
theorem u_j_X8_addRoom_28 (hs : Hs) : j_X8_addRoom_28  hs = (
  nthrow 1) hs := rfl
theorem u_f_X8_addRoom (a0 : Nat) (p1 : Int32) (p2 : Int32) (p3 : Int32) (hs : Hs) : f_X8_addRoom a0 p1 p2 p3 hs = (
    call (f_X8_isOutside p1 (0 : Int32) (2 : Int32)) (fun (v1 : Int32) =>
    (if ¬ v1 = 0 then
    j_X8_addRoom_28
    else
    call (f_X8_isOutside p2 (0 : Int32) (3 : Int32)) (fun (v2 : Int32) =>
    (if ¬ v2 = 0 then
    j_X8_addRoom_28
    else
    call (f_X8_isOutside p3 (1 : Int32) (99 : Int32)) (fun (v3 : Int32) =>
    (if v3 = 0 then
    gR (some a0) 11 1 fun v4 =>
    gR v4 9 0 fun v5 =>
    rcv v5 2 fun r14 => call (f_Jx4a65c_size_8abf5 r14 ) (fun (v6 : Int32) =>
    lets v6 fun (v7 : Int32) =>
    (if v7 < (8 : Int32) then
    gR (some a0) 11 1 fun v8 =>
    gR v8 9 0 fun v9 =>
    nw 8 [.int 0, .int 0, .int 0, .int 0, .int 0] fun q10 =>
    call (f_X5_init q10 v7 p1 p2 p3) (fun (v11 : Unit) =>
    rcv v9 2 fun r13 => call (f_Jx4a65c_add_9ea2d r13 (some q10)) (fun (v12 : Int32) =>
    rtn v7) nox) nox
    else
    nthrow 2)) nox
    else
    j_X8_addRoom_28)) nox)) nox)) nox) hs := rfl
theorem u_j_X8_slotsOfDays_26 (a0 : Int32) (a2 : Int32) (s0 : Int32) (s1 : Int32) (rec_4 : Int32 → Int32 → OO Int32) (hs : Hs) : j_X8_slotsOfDays_26 a0 a2 s0 s1 rec_4 hs = (
  lets (s1 ||| s0) fun (v4 : Int32) =>
    lets (a2 + (1 : Int32)) fun (v5 : Int32) =>
    rec_4 v4 v5) hs := rfl
theorem u_f_X8_slotsOfDays (p0 : Int32) (hs : Hs) : f_X8_slotsOfDays p0 hs = (
    lets (0 : Int32) fun (v1 : Int32) =>
    lets (0 : Int32) fun (v2 : Int32) =>
    L_X8_slotsOfDays_4 p0 (fun (v7 : Int32) => rtn v7) 100000 v1 v2) hs := rfl
theorem u_f_X8_addTeacher (a0 : Nat) (p1 : Int32) (hs : Hs) : f_X8_addTeacher a0 p1 hs = (
    call (f_X8_isOutside p1 (0 : Int32) (31 : Int32)) (fun (v1 : Int32) =>
    (if v1 = 0 then
    gR (some a0) 11 0 fun v2 =>
    rcv v2 2 fun r11 => call (f_Jx4a65c_size_8abf5 r11 ) (fun (v3 : Int32) =>
    lets v3 fun (v4 : Int32) =>
    (if v4 < (8 : Int32) then
    gR (some a0) 11 0 fun v5 =>
    nw 10 [.null, .int 0, .int 0] fun q6 =>
    call (f_X8_slotsOfDays p1) (fun (v7 : Int32) =>
    call (f_X7_init q6 v7) (fun (v8 : Unit) =>
    rcv v5 2 fun r10 => call (f_Jx4a65c_add_9ea2d r10 (some q6)) (fun (v9 : Int32) =>
    rtn v4) nox) nox) nox
    else
    nthrow 2)) nox
    else
    nthrow 1)) nox) hs := rfl
theorem u_f_X8_addGroup (a0 : Nat) (p1 : Int32) (hs : Hs) : f_X8_addGroup a0 p1 hs = (
    call (f_X8_isOutside p1 (1 : Int32) (99 : Int32)) (fun (v1 : Int32) =>
    (if v1 = 0 then
    gR (some a0) 11 1 fun v2 =>
    gR v2 9 1 fun v3 =>
    rcv v3 2 fun r12 => call (f_Jx4a65c_size_8abf5 r12 ) (fun (v4 : Int32) =>
    lets v4 fun (v5 : Int32) =>
    (if v5 < (8 : Int32) then
    gR (some a0) 11 1 fun v6 =>
    gR v6 9 1 fun v7 =>
    nw 5 [.int 0] fun q8 =>
    call (f_X2_init q8 p1) (fun (v9 : Unit) =>
    rcv v7 2 fun r11 => call (f_Jx4a65c_add_9ea2d r11 (some q8)) (fun (v10 : Int32) =>
    rtn v5) nox) nox
    else
    nthrow 2)) nox
    else
    nthrow 1)) nox) hs := rfl
theorem u_j_X8_groupNumbered_18 (hs : Hs) : j_X8_groupNumbered_18  hs = (
  nthrow 0) hs := rfl
theorem u_f_X8_groupNumbered (a0 : Nat) (p1 : Int32) (hs : Hs) : f_X8_groupNumbered a0 p1 hs = (
    (if p1 < 0 then
    j_X8_groupNumbered_18
    else
    gR (some a0) 11 1 fun v1 =>
    gR v1 9 1 fun v2 =>
    rcv v2 2 fun r8 => call (f_Jx4a65c_size_8abf5 r8 ) (fun (v3 : Int32) =>
    (if p1 < v3 then
    gR (some a0) 11 1 fun v4 =>
    gR v4 9 1 fun v5 =>
    rcv v5 2 fun r7 => call (f_Jx4a65c_get_915e3 r7 p1) (fun (v6 : Option Nat) =>
    cst v6 5 (
    rtn v6)) nox
    else
    j_X8_groupNumbered_18)) nox)) hs := rfl
theorem u_j_X8_teacherNumbered_15 (hs : Hs) : j_X8_teacherNumbered_15  hs = (
  nthrow 0) hs := rfl
theorem u_f_X8_teacherNumbered (a0 : Nat) (p1 : Int32) (hs : Hs) : f_X8_teacherNumbered a0 p1 hs = (
    (if p1 < 0 then
    j_X8_teacherNumbered_15
    else
    gR (some a0) 11 0 fun v1 =>
    rcv v1 2 fun r6 => call (f_Jx4a65c_size_8abf5 r6 ) (fun (v2 : Int32) =>
    (if p1 < v2 then
    gR (some a0) 11 0 fun v3 =>
    rcv v3 2 fun r5 => call (f_Jx4a65c_get_915e3 r5 p1) (fun (v4 : Option Nat) =>
    cst v4 10 (
    rtn v4)) nox
    else
    j_X8_teacherNumbered_15)) nox)) hs := rfl
theorem u_j_X8_addLesson_44 (hs : Hs) : j_X8_addLesson_44  hs = (
  nthrow 1) hs := rfl
theorem u_f_X8_addLesson (a0 : Nat) (p1 : Int32) (p2 : Int32) (p3 : Int32) (p4 : Int32) (p5 : Int32) (hs : Hs) : f_X8_addLesson a0 p1 p2 p3 p4 p5 hs = (
    rcv (some a0) 11 fun r20 => call (f_X8_groupNumbered r20 p1) (fun (v1 : Option Nat) =>
    lets v1 fun (v2 : Option Nat) =>
    rcv (some a0) 11 fun r19 => call (f_X8_teacherNumbered r19 p2) (fun (v3 : Option Nat) =>
    lets v3 fun (v4 : Option Nat) =>
    call (f_X8_isOutside p3 (0 : Int32) (3 : Int32)) (fun (v5 : Int32) =>
    (if ¬ v5 = 0 then
    j_X8_addLesson_44
    else
    call (f_X8_isOutside p4 (1 : Int32) (3 : Int32)) (fun (v6 : Int32) =>
    (if ¬ v6 = 0 then
    j_X8_addLesson_44
    else
    call (f_X8_isOutside p5 (0 : Int32) (9 : Int32)) (fun (v7 : Int32) =>
    (if v7 = 0 then
    gR (some a0) 11 1 fun v8 =>
    gR v8 9 2 fun v9 =>
    rcv v9 2 fun r18 => call (f_Jx4a65c_size_8abf5 r18 ) (fun (v10 : Int32) =>
    lets v10 fun (v11 : Int32) =>
    (if v11 < (16 : Int32) then
    gR (some a0) 11 1 fun v12 =>
    gR v12 9 2 fun v13 =>
    nw 7 [.int 0, .null, .null, .int 0, .int 0, .int 0, .null, .int 0, .int 0, .int 0, .null, .int 0, .int 0, .int 0, .null, .null, .int 0, .null] fun q14 =>
    call (f_X4_init q14 v11 v2 v4 p3 p4 p5) (fun (v15 : Unit) =>
    rcv v13 2 fun r17 => call (f_Jx4a65c_add_9ea2d r17 (some q14)) (fun (v16 : Int32) =>
    rtn v11) nox) nox
    else
    nthrow 2)) nox
    else
    j_X8_addLesson_44)) nox)) nox)) nox) thr) thr) hs := rfl
theorem u_f_X8_requireSlot (p0 : Int32) (hs : Hs) : f_X8_requireSlot p0 hs = (
    call (f_X8_isOutside p0 (0 : Int32) (29 : Int32)) (fun (v1 : Int32) =>
    (if v1 = 0 then
    rtn ()
    else
    nthrow 1)) nox) hs := rfl
theorem u_L_X8_slotsOfDays_4 (a0 : Int32) (k_4_34 : Int32 → OO Int32) (n : Nat) (x1 : Int32) (x2 : Int32) (hs : Hs) : L_X8_slotsOfDays_4 a0 k_4_34 (n + 1) x1 x2 hs = (
    (if (5 : Int32) ≤ x2 then
    k_4_34 x1
    else
    call (f_X8_has a0 x2) (fun (v3 : Int32) =>
    (if v3 = 0 then
    j_X8_slotsOfDays_26 a0 x2 (0 : Int32) x1 (L_X8_slotsOfDays_4 a0 k_4_34 n)
    else
    call (f_X8_slotsOfDay x2) (fun (v6 : Int32) =>
    j_X8_slotsOfDays_26 a0 x2 v6 x1 (L_X8_slotsOfDays_4 a0 k_4_34 n)) nox)) nox)) hs := rfl
theorem u_f_X8_setWish (a0 : Nat) (p1 : Int32) (p2 : Int32) (p3 : Int32) (hs : Hs) : f_X8_setWish a0 p1 p2 p3 hs = (
    rcv (some a0) 11 fun r8 => call (f_X8_teacherNumbered r8 p1) (fun (v1 : Option Nat) =>
    lets v1 fun (v2 : Option Nat) =>
    call (f_X8_requireSlot p2) (fun (v3 : Unit) =>
    call (f_X8_isOutside p3 (0 : Int32) (9 : Int32)) (fun (v4 : Int32) =>
    (if v4 = 0 then
    gR (some a0) 11 1 fun v5 =>
    rcv v5 9 fun r7 => call (f_X6_changeWish r7 v2 p2 p3) (fun (v6 : Int32) =>
    rtn v6) nox
    else
    nthrow 1)) nox) thr) thr) hs := rfl
theorem u_f_X8_requirePiece (p0 : Int32) (hs : Hs) : f_X8_requirePiece p0 hs = (
    call (f_X8_isOutside p0 (0 : Int32) (3 : Int32)) (fun (v1 : Int32) =>
    (if v1 = 0 then
    rtn ()
    else
    nthrow 1)) nox) hs := rfl
theorem u_f_X8_setWeight (a0 : Nat) (p1 : Int32) (p2 : Int32) (hs : Hs) : f_X8_setWeight a0 p1 p2 hs = (
    call (f_X8_requirePiece p1) (fun (v1 : Unit) =>
    call (f_X8_isOutside p2 (0 : Int32) (9 : Int32)) (fun (v2 : Int32) =>
    (if v2 = 0 then
    gR (some a0) 11 1 fun v3 =>
    rcv v3 9 fun r5 => call (f_X6_changeWeight r5 p1 p2) (fun (v4 : Int32) =>
    rtn v4) nox
    else
    nthrow 1)) nox) thr) hs := rfl
theorem u_j_X8_lessonNumbered_18 (hs : Hs) : j_X8_lessonNumbered_18  hs = (
  nthrow 0) hs := rfl
theorem u_f_X8_lessonNumbered (a0 : Nat) (p1 : Int32) (hs : Hs) : f_X8_lessonNumbered a0 p1 hs = (
    (if p1 < 0 then
    j_X8_lessonNumbered_18
    else
    gR (some a0) 11 1 fun v1 =>
    gR v1 9 2 fun v2 =>
    rcv v2 2 fun r8 => call (f_Jx4a65c_size_8abf5 r8 ) (fun (v3 : Int32) =>
    (if p1 < v3 then
    gR (some a0) 11 1 fun v4 =>
    gR v4 9 2 fun v5 =>
    rcv v5 2 fun r7 => call (f_Jx4a65c_get_915e3 r7 p1) (fun (v6 : Option Nat) =>
    cst v6 7 (
    rtn v6)) nox
    else
    j_X8_lessonNumbered_18)) nox)) hs := rfl
theorem u_j_X8_roomOfPlace_22 (hs : Hs) : j_X8_roomOfPlace_22  hs = (
  nthrow 1) hs := rfl
theorem u_f_X8_roomOfPlace (a0 : Nat) (p1 : Int32) (p2 : Int32) (hs : Hs) : f_X8_roomOfPlace a0 p1 p2 hs = (
    call (f_X8_requireSlot p1) (fun (v1 : Unit) =>
    (if p2 < 0 then
    j_X8_roomOfPlace_22
    else
    gR (some a0) 11 1 fun v2 =>
    gR v2 9 0 fun v3 =>
    rcv v3 2 fun r9 => call (f_Jx4a65c_size_8abf5 r9 ) (fun (v4 : Int32) =>
    (if p2 < v4 then
    gR (some a0) 11 1 fun v5 =>
    gR v5 9 0 fun v6 =>
    rcv v6 2 fun r8 => call (f_Jx4a65c_get_915e3 r8 p2) (fun (v7 : Option Nat) =>
    cst v7 8 (
    rtn v7)) nox
    else
    j_X8_roomOfPlace_22)) nox)) thr) hs := rfl
theorem u_f_X8_reason (a0 : Nat) (p1 : Int32) (p2 : Int32) (p3 : Int32) (hs : Hs) : f_X8_reason a0 p1 p2 p3 hs = (
    rcv (some a0) 11 fun r17 => call (f_X8_lessonNumbered r17 p1) (fun (v1 : Option Nat) =>
    lets v1 fun (v2 : Option Nat) =>
    rcv (some a0) 11 fun r16 => call (f_X8_roomOfPlace r16 p2 p3) (fun (v3 : Option Nat) =>
    lets v3 fun (v4 : Option Nat) =>
    gR (some a0) 11 1 fun v5 =>
    rcv v5 9 fun r15 => call (f_X6_lookAround r15 v2) (fun (v6 : Unit) =>
    rcv v2 7 fun r14 => call (f_X4_lettersAt r14 p2 v4) (fun (v7 : Int32) =>
    lets v7 fun (v8 : Int32) =>
    lets (0 : Int32) fun (v9 : Int32) =>
    L_X8_reason_37 v8 (fun (v12 : Int32) => letAt v12 fun v13 =>
    retC v13) (retC (45 : Int32)) 100000 v9) nox) nox) thr) thr) hs := rfl
theorem u_f_Jx4a65c_isEmpty_aae02 (a0 : Nat) (hs : Hs) : f_Jx4a65c_isEmpty_aae02 a0 hs = (
    gI (some a0) 2 2 fun v1 =>
    (if ¬ v1 = 0 then
    retZ (0 : Int32)
    else
    retZ (1 : Int32))) hs := rfl
theorem u_f_X8_barEachRoom (a0 : Nat) (p1 : Int32) (hs : Hs) : f_X8_barEachRoom a0 p1 hs = (
    lets (0 : Int32) fun (v1 : Int32) =>
    L_X8_barEachRoom_2 (some a0) p1 (retZ (0 : Int32)) (retZ (1 : Int32)) 100000 v1) hs := rfl
theorem u_j_X8_leastReasons_49 (a0 : Option Nat) (a1 : Int32) (a2 : Int32)  (rec_21 : Int32 → Int32 → OO Int32) (hs : Hs) : j_X8_leastReasons_49 a0 a1 a2 rec_21 hs = (
  lets (a2 + (1 : Int32)) fun (v8 : Int32) =>
    rec_21 a1 v8) hs := rfl
theorem u_f_X8_leastReasons (a0 : Nat) (hs : Hs) : f_X8_leastReasons a0 hs = (
    gR (some a0) 11 1 fun v1 =>
    gR v1 9 0 fun v2 =>
    rcv v2 2 fun r13 => call (f_Jx4a65c_isEmpty_aae02 r13 ) (fun (v3 : Int32) =>
    (if v3 = 0 then
    lets (1023 : Int32) fun (v4 : Int32) =>
    lets (1 : Int32) fun (v5 : Int32) =>
    L_X8_leastReasons_21 (some a0) (fun (v12 : Int32) => rtn v12) 100000 v4 v5
    else
    rtn (0 : Int32))) nox) hs := rfl
theorem u_j_X8_reasons_107 (a0 : Option Nat) (hs : Hs) : j_X8_reasons_107 a0 hs = (
  rcv a0 11 fun r26 => call (f_X8_leastReasons r26 ) (fun (v25 : Int32) =>
    rtn v25) nox) hs := rfl
theorem u_f_X8_reasons (a0 : Nat) (p1 : Int32) (p2 : Int32) (hs : Hs) : f_X8_reasons a0 p1 p2 hs = (
    rcv (some a0) 11 fun r28 => call (f_X8_lessonNumbered r28 p1) (fun (v1 : Option Nat) =>
    lets v1 fun (v2 : Option Nat) =>
    call (f_X8_requireSlot p2) (fun (v3 : Unit) =>
    gR (some a0) 11 1 fun v4 =>
    rcv v4 9 fun r27 => call (f_X6_lookAround r27 v2) (fun (v5 : Unit) =>
    gR (some a0) 11 7 fun v6 =>
    call (f_J7_fill_53178 v6 (0 : Int32)) (fun (v7 : Unit) =>
    lets (0 : Int32) fun (v8 : Int32) =>
    L_X8_reasons_29 (some a0) p2 v2 (nthrow 3) (j_X8_reasons_107 (some a0)) 100000 v8) nox) nox) thr) thr) hs := rfl
theorem u_f_X8_requireFree (a0 : Nat) (p1 : Option Nat) (hs : Hs) : f_X8_requireFree a0 p1 hs = (
    gR (some a0) 11 1 fun v1 =>
    rcv v1 9 fun r3 => call (f_X6_isFree r3 p1) (fun (v2 : Int32) =>
    (if ¬ v2 = 0 then
    rtn ()
    else
    nthrow 2)) nox) hs := rfl
theorem u_f_X8_requirePossible (a0 : Nat) (p1 : Option Nat) (p2 : Int32) (p3 : Option Nat) (hs : Hs) : f_X8_requirePossible a0 p1 p2 p3 hs = (
    gR (some a0) 11 1 fun v1 =>
    rcv v1 9 fun r5 => call (f_X6_lookAround r5 p1) (fun (v2 : Unit) =>
    rcv p1 7 fun r4 => call (f_X4_lettersAt r4 p2 p3) (fun (v3 : Int32) =>
    (if v3 = 0 then
    rtn ()
    else
    nthrow 4)) nox) nox) hs := rfl
theorem u_f_X8_place (a0 : Nat) (p1 : Int32) (p2 : Int32) (p3 : Int32) (hs : Hs) : f_X8_place a0 p1 p2 p3 hs = (
    rcv (some a0) 11 fun r16 => call (f_X8_lessonNumbered r16 p1) (fun (v1 : Option Nat) =>
    lets v1 fun (v2 : Option Nat) =>
    rcv (some a0) 11 fun r15 => call (f_X8_roomOfPlace r15 p2 p3) (fun (v3 : Option Nat) =>
    lets v3 fun (v4 : Option Nat) =>
    rcv (some a0) 11 fun r14 => call (f_X8_requireFree r14 v2) (fun (v5 : Unit) =>
    rcv (some a0) 11 fun r13 => call (f_X8_requirePossible r13 v2 p2 v4) (fun (v6 : Unit) =>
    gR (some a0) 11 1 fun v7 =>
    rcv v7 9 fun r12 => call (f_X6_put r12 v2 p2 v4) (fun (v8 : Unit) =>
    gR (some a0) 11 1 fun v9 =>
    rcv v9 9 fun r11 => call (f_X6_costKept r11 ) (fun (v10 : Int32) =>
    rtn v10) nox) nox) thr) thr) thr) thr) hs := rfl
theorem u_f_X8_requirePlaced (p0 : Option Nat) (hs : Hs) : f_X8_requirePlaced p0 hs = (
    gR p0 7 6 fun v1 =>
    (if ¬ v1 = none then
    rtn ()
    else
    nthrow 2)) hs := rfl
theorem u_f_X8_remove (a0 : Nat) (p1 : Int32) (hs : Hs) : f_X8_remove a0 p1 hs = (
    rcv (some a0) 11 fun r12 => call (f_X8_lessonNumbered r12 p1) (fun (v1 : Option Nat) =>
    lets v1 fun (v2 : Option Nat) =>
    call (f_X8_requirePlaced v2) (fun (v3 : Unit) =>
    rcv (some a0) 11 fun r11 => call (f_X8_requireFree r11 v2) (fun (v4 : Unit) =>
    gR (some a0) 11 1 fun v5 =>
    rcv v5 9 fun r10 => call (f_X6_take r10 v2) (fun (v6 : Unit) =>
    gR (some a0) 11 1 fun v7 =>
    rcv v7 9 fun r9 => call (f_X6_costKept r9 ) (fun (v8 : Int32) =>
    rtn v8) nox) nox) thr) thr) thr) hs := rfl
theorem u_j_X8_lockedLessons_41 (a0 : Option Nat) (a1 : Int32) (a2 : Int32)  (rec_4 : Int32 → Int32 → OO Int32) (hs : Hs) : j_X8_lockedLessons_41 a0 a1 a2 rec_4 hs = (
  lets (a2 + (1 : Int32)) fun (v10 : Int32) =>
    rec_4 a1 v10) hs := rfl
theorem u_f_X8_lockedLessons (a0 : Nat) (hs : Hs) : f_X8_lockedLessons a0 hs = (
    lets (0 : Int32) fun (v1 : Int32) =>
    lets (0 : Int32) fun (v2 : Int32) =>
    L_X8_lockedLessons_4 (some a0) (fun (v14 : Int32) => rtn v14) 100000 v1 v2) hs := rfl
theorem u_f_X8_lock (a0 : Nat) (p1 : Int32) (hs : Hs) : f_X8_lock a0 p1 hs = (
    rcv (some a0) 11 fun r8 => call (f_X8_lessonNumbered r8 p1) (fun (v1 : Option Nat) =>
    lets v1 fun (v2 : Option Nat) =>
    call (f_X8_requirePlaced v2) (fun (v3 : Unit) =>
    rcv (some a0) 11 fun r7 => call (f_X8_requireFree r7 v2) (fun (v4 : Unit) =>
    pZ v2 7 8 (1 : Int32) (
    rcv (some a0) 11 fun r6 => call (f_X8_lockedLessons r6 ) (fun (v5 : Int32) =>
    rtn v5) nox)) thr) thr) thr) hs := rfl
theorem u_f_X8_unlock (a0 : Nat) (p1 : Int32) (hs : Hs) : f_X8_unlock a0 p1 hs = (
    rcv (some a0) 11 fun r6 => call (f_X8_lessonNumbered r6 p1) (fun (v1 : Option Nat) =>
    lets v1 fun (v2 : Option Nat) =>
    gI v2 7 8 fun v3 =>
    (if ¬ v3 = 0 then
    pZ v2 7 8 (0 : Int32) (
    rcv (some a0) 11 fun r5 => call (f_X8_lockedLessons r5 ) (fun (v4 : Int32) =>
    rtn v4) nox)
    else
    nthrow 2)) thr) hs := rfl
theorem u_L_X8_reason_37 (a6 : Int32) (k_37_57 : Int32 → OO Int32) (k_37_71 : OO Int32) (n : Nat) (x7 : Int32) (hs : Hs) : L_X8_reason_37 a6 k_37_57 k_37_71 (n + 1) x7 hs = (
    (if (10 : Int32) ≤ x7 then
    k_37_71
    else
    call (f_X8_has a6 x7) (fun (v10 : Int32) =>
    (if v10 = 0 then
    lets (x7 + (1 : Int32)) fun (v11 : Int32) =>
    (L_X8_reason_37 a6 k_37_57 k_37_71 n) v11
    else
    k_37_57 x7)) nox)) hs := rfl
theorem u_L_X8_barEachRoom_2 (a0 : Option Nat) (a1 : Int32) (k_2_36 : OO Int32) (k_2_44 : OO Int32) (n : Nat) (x2 : Int32) (hs : Hs) : L_X8_barEachRoom_2 a0 a1 k_2_36 k_2_44 (n + 1) x2 hs = (
    gR a0 11 1 fun v2 =>
    gR v2 9 0 fun v3 =>
    rcv v3 2 fun r10 => call (f_Jx4a65c_size_8abf5 r10 ) (fun (v4 : Int32) =>
    (if v4 ≤ x2 then
    k_2_44
    else
    gR a0 11 7 fun v5 =>
    alen v5 fun v6 =>
    (if v6 ≤ x2 then
    k_2_44
    else
    gR a0 11 7 fun v7 =>
    ldI 0 v7 x2 fun v8 =>
    (if ¬ (v8 &&& a1) = 0 then
    lets (x2 + (1 : Int32)) fun (v9 : Int32) =>
    (L_X8_barEachRoom_2 a0 a1 k_2_36 k_2_44 n) v9
    else
    k_2_36)))) nox) hs := rfl
theorem u_L_X8_leastReasons_21 (a0 : Option Nat) (k_21_55 : Int32 → OO Int32) (n : Nat) (x1 : Int32) (x2 : Int32) (hs : Hs) : L_X8_leastReasons_21 a0 k_21_55 (n + 1) x1 x2 hs = (
    (if (1023 : Int32) ≤ x2 then
    k_21_55 x1
    else
    call (f_J6_bitCount_0f7a4 x2) (fun (v6 : Int32) =>
    call (f_J6_bitCount_0f7a4 x1) (fun (v7 : Int32) =>
    (if v7 ≤ v6 then
    j_X8_leastReasons_49 a0 x1 x2 (L_X8_leastReasons_21 a0 k_21_55 n)
    else
    rcv a0 11 fun r11 => call (f_X8_barEachRoom r11 x2) (fun (v9 : Int32) =>
    (if v9 = 0 then
    j_X8_leastReasons_49 a0 x1 x2 (L_X8_leastReasons_21 a0 k_21_55 n)
    else
    lets x2 fun (v10 : Int32) =>
    j_X8_leastReasons_49 a0 v10 x2 (L_X8_leastReasons_21 a0 k_21_55 n))) nox)) nox) nox)) hs := rfl
theorem u_L_X8_reasons_29 (a0 : Option Nat) (a2 : Int32) (a3 : Option Nat) (k_29_91 : OO Int32) (k_29_107 : OO Int32) (n : Nat) (x4 : Int32) (hs : Hs) : L_X8_reasons_29 a0 a2 a3 k_29_91 k_29_107 (n + 1) x4 hs = (
    gR a0 11 1 fun v9 =>
    gR v9 9 0 fun v10 =>
    rcv v10 2 fun r24 => call (f_Jx4a65c_size_8abf5 r24 ) (fun (v11 : Int32) =>
    (if v11 ≤ x4 then
    k_29_107
    else
    gR a0 11 7 fun v12 =>
    alen v12 fun v13 =>
    (if v13 ≤ x4 then
    k_29_107
    else
    gR a0 11 7 fun v14 =>
    gR a0 11 1 fun v15 =>
    gR v15 9 0 fun v16 =>
    rcv v16 2 fun r23 => call (f_Jx4a65c_get_915e3 r23 x4) (fun (v17 : Option Nat) =>
    cst v17 8 (
    rcv a3 7 fun r22 => call (f_X4_lettersAt r22 a2 v17) (fun (v18 : Int32) =>
    stI v14 x4 v18 (
    gR a0 11 7 fun v19 =>
    ldI 0 v19 x4 fun v20 =>
    (if ¬ v20 = 0 then
    lets (x4 + (1 : Int32)) fun (v21 : Int32) =>
    (L_X8_reasons_29 a0 a2 a3 k_29_91 k_29_107 n) v21
    else
    k_29_91))) nox)) nox))) nox) hs := rfl
theorem u_L_X8_lockedLessons_4 (a0 : Option Nat) (k_4_47 : Int32 → OO Int32) (n : Nat) (x1 : Int32) (x2 : Int32) (hs : Hs) : L_X8_lockedLessons_4 a0 k_4_47 (n + 1) x1 x2 hs = (
    gR a0 11 1 fun v3 =>
    gR v3 9 2 fun v4 =>
    rcv v4 2 fun r13 => call (f_Jx4a65c_size_8abf5 r13 ) (fun (v5 : Int32) =>
    (if v5 ≤ x2 then
    k_4_47 x1
    else
    gR a0 11 1 fun v6 =>
    gR v6 9 2 fun v7 =>
    rcv v7 2 fun r12 => call (f_Jx4a65c_get_915e3 r12 x2) (fun (v8 : Option Nat) =>
    cst v8 7 (
    gI v8 7 8 fun v9 =>
    (if v9 = 0 then
    j_X8_lockedLessons_41 a0 x1 x2 (L_X8_lockedLessons_4 a0 k_4_47 n)
    else
    lets (x1 + (1 : Int32)) fun (v11 : Int32) =>
    j_X8_lockedLessons_41 a0 v11 x2 (L_X8_lockedLessons_4 a0 k_4_47 n)))) nox)) nox) hs := rfl
theorem u_f_X8_isLocked (a0 : Nat) (p1 : Int32) (hs : Hs) : f_X8_isLocked a0 p1 hs = (
    rcv (some a0) 11 fun r3 => call (f_X8_lessonNumbered r3 p1) (fun (v1 : Option Nat) =>
    gI v1 7 8 fun v2 =>
    retZ v2) thr) hs := rfl
theorem u_f_X8_placeOf (a0 : Nat) (p1 : Int32) (hs : Hs) : f_X8_placeOf a0 p1 hs = (
    rcv (some a0) 11 fun r5 => call (f_X8_lessonNumbered r5 p1) (fun (v1 : Option Nat) =>
    rcv v1 7 fun r4 => call (f_X4_placeNow r4 ) (fun (v2 : Int32) =>
    lets v2 fun (v3 : Int32) =>
    (if ¬ v3 = (-1 : Int32) then
    rtn v3
    else
    nthrow 3)) nox) thr) hs := rfl
theorem u_j_X8_groupAt_72 (a0 : Option Nat) (a2 : Int32) (a3 : Option Nat) (a4 : Int32)  (rec_13 : Int32 → OO Int32) (hs : Hs) : j_X8_groupAt_72 a0 a2 a3 a4 rec_13 hs = (
  lets (a4 + (1 : Int32)) fun (v13 : Int32) =>
    rec_13 v13) hs := rfl
theorem u_f_X8_groupAt (a0 : Nat) (p1 : Int32) (p2 : Int32) (hs : Hs) : f_X8_groupAt a0 p1 p2 hs = (
    rcv (some a0) 11 fun r21 => call (f_X8_groupNumbered r21 p1) (fun (v1 : Option Nat) =>
    lets v1 fun (v2 : Option Nat) =>
    call (f_X8_requireSlot p2) (fun (v3 : Unit) =>
    lets (0 : Int32) fun (v4 : Int32) =>
    L_X8_groupAt_13 (some a0) p2 v2 (fun (v19 : Option Nat) => gI v19 7 0 fun v20 =>
    rtn v20) (nthrow 3) 100000 v4) thr) thr) hs := rfl
theorem u_j_X8_teacherAt_72 (a0 : Option Nat) (a2 : Int32) (a3 : Option Nat) (a4 : Int32)  (rec_13 : Int32 → OO Int32) (hs : Hs) : j_X8_teacherAt_72 a0 a2 a3 a4 rec_13 hs = (
  lets (a4 + (1 : Int32)) fun (v13 : Int32) =>
    rec_13 v13) hs := rfl
theorem u_f_X8_teacherAt (a0 : Nat) (p1 : Int32) (p2 : Int32) (hs : Hs) : f_X8_teacherAt a0 p1 p2 hs = (
    rcv (some a0) 11 fun r21 => call (f_X8_teacherNumbered r21 p1) (fun (v1 : Option Nat) =>
    lets v1 fun (v2 : Option Nat) =>
    call (f_X8_requireSlot p2) (fun (v3 : Unit) =>
    lets (0 : Int32) fun (v4 : Int32) =>
    L_X8_teacherAt_13 (some a0) p2 v2 (fun (v19 : Option Nat) => gI v19 7 0 fun v20 =>
    rtn v20) (nthrow 3) 100000 v4) thr) thr) hs := rfl
theorem u_f_X8_possible (a0 : Nat) (p1 : Int32) (hs : Hs) : f_X8_possible a0 p1 hs = (
    gR (some a0) 11 1 fun v1 =>
    rcv (some a0) 11 fun r5 => call (f_X8_lessonNumbered r5 p1) (fun (v2 : Option Nat) =>
    rcv v1 9 fun r4 => call (f_X6_countPossible r4 v2) (fun (v3 : Int32) =>
    rtn v3) nox) thr) hs := rfl
theorem u_f_X8_possibleAt (a0 : Nat) (p1 : Int32) (p2 : Int32) (hs : Hs) : f_X8_possibleAt a0 p1 p2 hs = (
    gR (some a0) 11 1 fun v1 =>
    rcv (some a0) 11 fun r6 => call (f_X8_lessonNumbered r6 p1) (fun (v2 : Option Nat) =>
    rcv v1 9 fun r5 => call (f_X6_findPossible r5 v2 p2) (fun (v3 : Int32) =>
    lets v3 fun (v4 : Int32) =>
    (if ¬ v4 = (-1 : Int32) then
    rtn v4
    else
    nthrow 3)) nox) thr) hs := rfl
theorem u_f_X8_cheapest (a0 : Nat) (p1 : Int32) (hs : Hs) : f_X8_cheapest a0 p1 hs = (
    gR (some a0) 11 1 fun v1 =>
    rcv (some a0) 11 fun r6 => call (f_X8_lessonNumbered r6 p1) (fun (v2 : Option Nat) =>
    rcv v1 9 fun r5 => call (f_X6_findCheapest r5 v2) (fun (v3 : Int32) =>
    lets v3 fun (v4 : Int32) =>
    (if ¬ v4 = (-1 : Int32) then
    rtn v4
    else
    nthrow 3)) nox) thr) hs := rfl
theorem u_f_X8_costWith (a0 : Nat) (p1 : Int32) (p2 : Int32) (p3 : Int32) (hs : Hs) : f_X8_costWith a0 p1 p2 p3 hs = (
    rcv (some a0) 11 fun r11 => call (f_X8_lessonNumbered r11 p1) (fun (v1 : Option Nat) =>
    lets v1 fun (v2 : Option Nat) =>
    rcv (some a0) 11 fun r10 => call (f_X8_roomOfPlace r10 p2 p3) (fun (v3 : Option Nat) =>
    lets v3 fun (v4 : Option Nat) =>
    rcv (some a0) 11 fun r9 => call (f_X8_requirePossible r9 v2 p2 v4) (fun (v5 : Unit) =>
    gR (some a0) 11 1 fun v6 =>
    rcv v6 9 fun r8 => call (f_X6_costFrom r8 v2 p2) (fun (v7 : Int32) =>
    rtn v7) nox) thr) thr) thr) hs := rfl
theorem u_f_X8_hardest (a0 : Nat) (hs : Hs) : f_X8_hardest a0 hs = (
    gR (some a0) 11 1 fun v1 =>
    gR (some a0) 11 1 fun v2 =>
    rcv v2 9 fun r8 => call (f_X6_unplaced r8 ) (fun (v3 : Int32) =>
    rcv v1 9 fun r7 => call (f_X6_findHardest r7 v3) (fun (v4 : Option Nat) =>
    lets v4 fun (v5 : Option Nat) =>
    (if ¬ v5 = none then
    gI v5 7 0 fun v6 =>
    rtn v6
    else
    nthrow 3)) nox) nox) hs := rfl
theorem u_f_X8_fill (a0 : Nat) (hs : Hs) : f_X8_fill a0 hs = (
    gR (some a0) 11 2 fun v1 =>
    gR (some a0) 11 1 fun v2 =>
    rcv v1 4 fun r8 => call (f_X1_fillUp r8 v2) (fun (v3 : Unit) =>
    gR (some a0) 11 1 fun v4 =>
    rcv v4 9 fun r7 => call (f_X6_unplaced r7 ) (fun (v5 : Int32) =>
    call (f_J6_bitCount_0f7a4 v5) (fun (v6 : Int32) =>
    rtn v6) nox) nox) nox) hs := rfl
theorem u_f_X8_improve (a0 : Nat) (p1 : Int32) (hs : Hs) : f_X8_improve a0 p1 hs = (
    call (f_X8_isOutside p1 (1 : Int32) (20 : Int32)) (fun (v1 : Int32) =>
    (if v1 = 0 then
    gR (some a0) 11 3 fun v2 =>
    gR (some a0) 11 1 fun v3 =>
    rcv v2 6 fun r8 => call (f_X3_improveTable r8 v3 p1) (fun (v4 : Unit) =>
    gR (some a0) 11 1 fun v5 =>
    rcv v5 9 fun r7 => call (f_X6_costKept r7 ) (fun (v6 : Int32) =>
    rtn v6) nox) nox
    else
    nthrow 1)) nox) hs := rfl
theorem u_f_X8_cost (a0 : Nat) (hs : Hs) : f_X8_cost a0 hs = (
    gR (some a0) 11 1 fun v1 =>
    rcv v1 9 fun r3 => call (f_X6_costKept r3 ) (fun (v2 : Int32) =>
    rtn v2) nox) hs := rfl
theorem u_f_X8_costAnew (a0 : Nat) (hs : Hs) : f_X8_costAnew a0 hs = (
    lets (0 : Int32) fun (v1 : Int32) =>
    lets (0 : Int32) fun (v2 : Int32) =>
    L_X8_costAnew_4 (some a0) (fun (v14 : Int32) => rtn v14) 100000 v1 v2) hs := rfl
theorem u_f_X8_amount (a0 : Nat) (p1 : Int32) (hs : Hs) : f_X8_amount a0 p1 hs = (
    call (f_X8_requirePiece p1) (fun (v1 : Unit) =>
    gR (some a0) 11 1 fun v2 =>
    gR v2 9 4 fun v3 =>
    call (f_X8_at v3 p1) (fun (v4 : Int32) =>
    rtn v4) nox) thr) hs := rfl
theorem u_f_X8_breaks (a0 : Nat) (hs : Hs) : f_X8_breaks a0 hs = (
    gR (some a0) 11 1 fun v1 =>
    rcv v1 9 fun r3 => call (f_X6_countBreaks r3 ) (fun (v2 : Int32) =>
    rtn v2) nox) hs := rfl
theorem u_f_X8_requireKind (p0 : Int32) (hs : Hs) : f_X8_requireKind p0 hs = (
    call (f_X8_isOutside p0 (0 : Int32) (3 : Int32)) (fun (v1 : Int32) =>
    (if v1 = 0 then
    rtn ()
    else
    nthrow 1)) nox) hs := rfl
theorem u_f_X8_lacking (a0 : Nat) (p1 : Int32) (hs : Hs) : f_X8_lacking a0 p1 hs = (
    call (f_X8_requireKind p1) (fun (v1 : Unit) =>
    gR (some a0) 11 4 fun v2 =>
    gR (some a0) 11 1 fun v3 =>
    rcv v2 3 fun r5 => call (f_X0_lackByGiving r5 v3 p1) (fun (v4 : Int32) =>
    rtn v4) nox) thr) hs := rfl
theorem u_f_X8_lackingBySeats (a0 : Nat) (p1 : Int32) (hs : Hs) : f_X8_lackingBySeats a0 p1 hs = (
    call (f_X8_requireKind p1) (fun (v1 : Unit) =>
    gR (some a0) 11 4 fun v2 =>
    gR (some a0) 11 1 fun v3 =>
    rcv v2 3 fun r5 => call (f_X0_lackByNumbers r5 v3 p1) (fun (v4 : Int32) =>
    rtn v4) nox) thr) hs := rfl
theorem u_j_X8_ill_139 (a0 : Option Nat) (a2 : Int32) (a3 : Option Nat) (a4 : Int32) (a5 : Int32)  (rec_61 : Int32 → Int32 → OO Int32) (hs : Hs) : j_X8_ill_139 a0 a2 a3 a4 a5 rec_61 hs = (
  lets (a5 + (1 : Int32)) fun (v18 : Int32) =>
    rec_61 a4 v18) hs := rfl
theorem u_f_X8_ill (a0 : Nat) (p1 : Int32) (p2 : Int32) (hs : Hs) : f_X8_ill a0 p1 p2 hs = (
    rcv (some a0) 11 fun r31 => call (f_X8_teacherNumbered r31 p1) (fun (v1 : Option Nat) =>
    lets v1 fun (v2 : Option Nat) =>
    gR (some a0) 11 1 fun v3 =>
    gI v3 9 5 fun v4 =>
    call (f_X8_isOutside p2 v4 (4 : Int32)) (fun (v5 : Int32) =>
    (if v5 = 0 then
    gI v2 10 1 fun v6 =>
    call (f_X8_slotsOfDay p2) (fun (v7 : Int32) =>
    (if (v6 &&& v7) = 0 then
    lets (0 : Int32) fun (v8 : Int32) =>
    lets (0 : Int32) fun (v9 : Int32) =>
    L_X8_ill_61 (some a0) p2 v2 (nthrow 4) (fun (v25 : Int32) => gI v2 10 1 fun v26 =>
    call (f_X8_slotsOfDay p2) (fun (v27 : Int32) =>
    pI v2 10 1 (v26 ||| v27) (
    gR (some a0) 11 1 fun v28 =>
    rcv v28 9 fun r30 => call (f_X6_repair r30 v25) (fun (v29 : Int32) =>
    rtn v29) nox)) nox) 100000 v8 v9
    else
    nthrow 2)) nox
    else
    nthrow 1)) nox) thr) hs := rfl
theorem u_j_X8_roomNumbered_18 (hs : Hs) : j_X8_roomNumbered_18  hs = (
  nthrow 0) hs := rfl
theorem u_f_X8_roomNumbered (a0 : Nat) (p1 : Int32) (hs : Hs) : f_X8_roomNumbered a0 p1 hs = (
    (if p1 < 0 then
    j_X8_roomNumbered_18
    else
    gR (some a0) 11 1 fun v1 =>
    gR v1 9 0 fun v2 =>
    rcv v2 2 fun r8 => call (f_Jx4a65c_size_8abf5 r8 ) (fun (v3 : Int32) =>
    (if p1 < v3 then
    gR (some a0) 11 1 fun v4 =>
    gR v4 9 0 fun v5 =>
    rcv v5 2 fun r7 => call (f_Jx4a65c_get_915e3 r7 p1) (fun (v6 : Option Nat) =>
    cst v6 8 (
    rtn v6)) nox
    else
    j_X8_roomNumbered_18)) nox)) hs := rfl
theorem u_L_X8_groupAt_13 (a0 : Option Nat) (a2 : Int32) (a3 : Option Nat) (k_13_66 : Option Nat → OO Int32) (k_13_78 : OO Int32) (n : Nat) (x4 : Int32) (hs : Hs) : L_X8_groupAt_13 a0 a2 a3 k_13_66 k_13_78 (n + 1) x4 hs = (
    gR a0 11 1 fun v5 =>
    gR v5 9 2 fun v6 =>
    rcv v6 2 fun r18 => call (f_Jx4a65c_size_8abf5 r18 ) (fun (v7 : Int32) =>
    (if v7 ≤ x4 then
    k_13_78
    else
    gR a0 11 1 fun v8 =>
    gR v8 9 2 fun v9 =>
    rcv v9 2 fun r17 => call (f_Jx4a65c_get_915e3 r17 x4) (fun (v10 : Option Nat) =>
    cst v10 7 (
    lets v10 fun (v11 : Option Nat) =>
    gR v11 7 1 fun v12 =>
    (if ¬ v12 = a3 then
    j_X8_groupAt_72 a0 a2 a3 x4 (L_X8_groupAt_13 a0 a2 a3 k_13_66 k_13_78 n)
    else
    rcv v11 7 fun r16 => call (f_X4_hoursNow r16 ) (fun (v14 : Int32) =>
    call (f_X8_has v14 a2) (fun (v15 : Int32) =>
    (if v15 = 0 then
    j_X8_groupAt_72 a0 a2 a3 x4 (L_X8_groupAt_13 a0 a2 a3 k_13_66 k_13_78 n)
    else
    k_13_66 v11)) nox) nox))) nox)) nox) hs := rfl
theorem u_L_X8_teacherAt_13 (a0 : Option Nat) (a2 : Int32) (a3 : Option Nat) (k_13_66 : Option Nat → OO Int32) (k_13_78 : OO Int32) (n : Nat) (x4 : Int32) (hs : Hs) : L_X8_teacherAt_13 a0 a2 a3 k_13_66 k_13_78 (n + 1) x4 hs = (
    gR a0 11 1 fun v5 =>
    gR v5 9 2 fun v6 =>
    rcv v6 2 fun r18 => call (f_Jx4a65c_size_8abf5 r18 ) (fun (v7 : Int32) =>
    (if v7 ≤ x4 then
    k_13_78
    else
    gR a0 11 1 fun v8 =>
    gR v8 9 2 fun v9 =>
    rcv v9 2 fun r17 => call (f_Jx4a65c_get_915e3 r17 x4) (fun (v10 : Option Nat) =>
    cst v10 7 (
    lets v10 fun (v11 : Option Nat) =>
    gR v11 7 2 fun v12 =>
    (if ¬ v12 = a3 then
    j_X8_teacherAt_72 a0 a2 a3 x4 (L_X8_teacherAt_13 a0 a2 a3 k_13_66 k_13_78 n)
    else
    rcv v11 7 fun r16 => call (f_X4_hoursNow r16 ) (fun (v14 : Int32) =>
    call (f_X8_has v14 a2) (fun (v15 : Int32) =>
    (if v15 = 0 then
    j_X8_teacherAt_72 a0 a2 a3 x4 (L_X8_teacherAt_13 a0 a2 a3 k_13_66 k_13_78 n)
    else
    k_13_66 v11)) nox) nox))) nox)) nox) hs := rfl
theorem u_L_X8_costAnew_4 (a0 : Option Nat) (k_4_43 : Int32 → OO Int32) (n : Nat) (x1 : Int32) (x2 : Int32) (hs : Hs) : L_X8_costAnew_4 a0 k_4_43 (n + 1) x1 x2 hs = (
    gR a0 11 1 fun v3 =>
    gR v3 9 3 fun v4 =>
    alen v4 fun v5 =>
    (if v5 ≤ x2 then
    k_4_43 x1
    else
    gR a0 11 1 fun v6 =>
    gR v6 9 3 fun v7 =>
    ldI 0 v7 x2 fun v8 =>
    gR a0 11 1 fun v9 =>
    rcv v9 9 fun r13 => call (f_X6_amountAnew r13 x2) (fun (v10 : Int32) =>
    lets (x1 + (v8 * v10)) fun (v11 : Int32) =>
    lets (x2 + (1 : Int32)) fun (v12 : Int32) =>
    (L_X8_costAnew_4 a0 k_4_43 n) v11 v12) nox)) hs := rfl
theorem u_L_X8_ill_61 (a0 : Option Nat) (a2 : Int32) (a3 : Option Nat) (k_61_119 : OO Int32) (k_61_145 : Int32 → OO Int32) (n : Nat) (x4 : Int32) (x5 : Int32) (hs : Hs) : L_X8_ill_61 a0 a2 a3 k_61_119 k_61_145 (n + 1) x4 x5 hs = (
    gR a0 11 1 fun v10 =>
    gR v10 9 2 fun v11 =>
    rcv v11 2 fun r24 => call (f_Jx4a65c_size_8abf5 r24 ) (fun (v12 : Int32) =>
    (if v12 ≤ x5 then
    k_61_145 x4
    else
    gR a0 11 1 fun v13 =>
    gR v13 9 2 fun v14 =>
    rcv v14 2 fun r23 => call (f_Jx4a65c_get_915e3 r23 x5) (fun (v15 : Option Nat) =>
    cst v15 7 (
    lets v15 fun (v16 : Option Nat) =>
    gR v16 7 2 fun v17 =>
    (if ¬ v17 = a3 then
    j_X8_ill_139 a0 a2 a3 x4 x5 (L_X8_ill_61 a0 a2 a3 k_61_119 k_61_145 n)
    else
    rcv v16 7 fun r22 => call (f_X4_isOn r22 a2) (fun (v19 : Int32) =>
    (if v19 = 0 then
    j_X8_ill_139 a0 a2 a3 x4 x5 (L_X8_ill_61 a0 a2 a3 k_61_119 k_61_145 n)
    else
    gI v16 7 8 fun v20 =>
    (if v20 = 0 then
    lets ((x4 ||| (((1 : Int32) <<< (x5 &&& 31))))) fun (v21 : Int32) =>
    j_X8_ill_139 a0 a2 a3 v21 x5 (L_X8_ill_61 a0 a2 a3 k_61_119 k_61_145 n)
    else
    k_61_119))) nox))) nox)) nox) hs := rfl
theorem u_j_X8_close_112 (a0 : Option Nat) (a2 : Option Nat) (a3 : Int32) (a4 : Int32)  (rec_29 : Int32 → Int32 → OO Int32) (hs : Hs) : j_X8_close_112 a0 a2 a3 a4 rec_29 hs = (
  lets (a4 + (1 : Int32)) fun (v14 : Int32) =>
    rec_29 a3 v14) hs := rfl
theorem u_j_X8_close_110 (a0 : Option Nat) (a2 : Option Nat) (a4 : Int32) (s0 : Int32) (s1 : Int32) (rec_29 : Int32 → Int32 → OO Int32) (hs : Hs) : j_X8_close_110 a0 a2 a4 s0 s1 rec_29 hs = (
  lets (s1 ||| s0) fun (v18 : Int32) =>
    j_X8_close_112 a0 a2 v18 a4 rec_29) hs := rfl
theorem u_f_X8_close (a0 : Nat) (p1 : Int32) (hs : Hs) : f_X8_close a0 p1 hs = (
    rcv (some a0) 11 fun r26 => call (f_X8_roomNumbered r26 p1) (fun (v1 : Option Nat) =>
    lets v1 fun (v2 : Option Nat) =>
    gI v2 8 4 fun v3 =>
    (if ¬ v3 = 0 then
    lets (0 : Int32) fun (v4 : Int32) =>
    lets (0 : Int32) fun (v5 : Int32) =>
    L_X8_close_29 (some a0) v2 (nthrow 4) (fun (v22 : Int32) => pZ v2 8 4 (0 : Int32) (
    gR (some a0) 11 1 fun v23 =>
    rcv v23 9 fun r25 => call (f_X6_repair r25 v22) (fun (v24 : Int32) =>
    rtn v24) nox)) 100000 v4 v5
    else
    nthrow 2)) thr) hs := rfl
theorem u_j_X8_open_73 (a0 : Option Nat) (a3 : Int32) (a4 : Int32)  (rec_34 : Int32 → Int32 → OO Int32) (hs : Hs) : j_X8_open_73 a0 a3 a4 rec_34 hs = (
  lets (a4 + (1 : Int32)) fun (v13 : Int32) =>
    rec_34 a3 v13) hs := rfl
theorem u_f_X8_open (a0 : Nat) (p1 : Int32) (hs : Hs) : f_X8_open a0 p1 hs = (
    rcv (some a0) 11 fun r18 => call (f_X8_roomNumbered r18 p1) (fun (v1 : Option Nat) =>
    lets v1 fun (v2 : Option Nat) =>
    gI v2 8 4 fun v3 =>
    (if v3 = 0 then
    pZ v2 8 4 (1 : Int32) (
    lets (0 : Int32) fun (v4 : Int32) =>
    lets (0 : Int32) fun (v5 : Int32) =>
    L_X8_open_34 (some a0) (fun (v17 : Int32) => rtn v17) 100000 v4 v5)
    else
    nthrow 2)) thr) hs := rfl
theorem u_f_X8_passDay (a0 : Nat) (hs : Hs) : f_X8_passDay a0 hs = (
    gR (some a0) 11 1 fun v1 =>
    gI v1 9 5 fun v2 =>
    (if v2 < (4 : Int32) then
    gR (some a0) 11 1 fun v3 =>
    gI v3 9 5 fun v4 =>
    pI v3 9 5 (v4 + (1 : Int32)) (
    gR (some a0) 11 1 fun v5 =>
    gI v5 9 5 fun v6 =>
    rtn v6)
    else
    nthrow 2)) hs := rfl
theorem u_f_X8_nextWeek (a0 : Nat) (hs : Hs) : f_X8_nextWeek a0 hs = (
    gR (some a0) 11 1 fun v1 =>
    gI v1 9 5 fun v2 =>
    (if v2 = (4 : Int32) then
    gR (some a0) 11 1 fun v3 =>
    rcv v3 9 fun r14 => call (f_X6_bookLateHours r14 ) (fun (v4 : Unit) =>
    gR (some a0) 11 1 fun v5 =>
    pI v5 9 5 (0 : Int32) (
    gR (some a0) 11 1 fun v6 =>
    gR (some a0) 11 1 fun v7 =>
    rcv v7 9 fun r13 => call (f_X6_broken r13 ) (fun (v8 : Int32) =>
    rcv v6 9 fun r12 => call (f_X6_repair r12 v8) (fun (v9 : Int32) =>
    gI (some a0) 11 9 fun v10 =>
    pI (some a0) 11 9 (v10 + (1 : Int32)) (
    gI (some a0) 11 9 fun v11 =>
    rtn v11)) nox) nox)) nox
    else
    nthrow 2)) hs := rfl
theorem u_f_X8_today (a0 : Nat) (hs : Hs) : f_X8_today a0 hs = (
    gR (some a0) 11 1 fun v1 =>
    gI v1 9 5 fun v2 =>
    rtn v2) hs := rfl
theorem u_f_X8_account (a0 : Nat) (p1 : Int32) (hs : Hs) : f_X8_account a0 p1 hs = (
    rcv (some a0) 11 fun r3 => call (f_X8_teacherNumbered r3 p1) (fun (v1 : Option Nat) =>
    gI v1 10 2 fun v2 =>
    rtn v2) thr) hs := rfl
theorem u_f_X8_save (a0 : Nat) (hs : Hs) : f_X8_save a0 hs = (
    gI (some a0) 11 8 fun v1 =>
    gR (some a0) 11 5 fun v2 =>
    alen v2 fun v3 =>
    (if v1 < v3 then
    gR (some a0) 11 1 fun v4 =>
    gR (some a0) 11 5 fun v5 =>
    gI (some a0) 11 8 fun v6 =>
    ldR 5 v5 v6 fun v7 =>
    rcv v4 9 fun r11 => call (f_X6_copyPlaces r11 v7) (fun (v8 : Unit) =>
    gI (some a0) 11 8 fun v9 =>
    pI (some a0) 11 8 (v9 + (1 : Int32)) (
    gI (some a0) 11 8 fun v10 =>
    rtn (v10 - (1 : Int32)))) nox
    else
    nthrow 2)) hs := rfl
theorem u_j_X8_versionNumbered_21 (hs : Hs) : j_X8_versionNumbered_21  hs = (
  nthrow 3) hs := rfl
theorem u_f_X8_versionNumbered (a0 : Nat) (p1 : Int32) (hs : Hs) : f_X8_versionNumbered a0 p1 hs = (
    (if p1 < 0 then
    j_X8_versionNumbered_21
    else
    gI (some a0) 11 8 fun v1 =>
    (if v1 ≤ p1 then
    j_X8_versionNumbered_21
    else
    gR (some a0) 11 5 fun v2 =>
    alen v2 fun v3 =>
    (if p1 < v3 then
    gR (some a0) 11 5 fun v4 =>
    ldR 5 v4 p1 fun v5 =>
    rtn v5
    else
    j_X8_versionNumbered_21)))) hs := rfl
theorem u_f_X8_placeIn (a0 : Nat) (p1 : Int32) (p2 : Int32) (hs : Hs) : f_X8_placeIn a0 p1 p2 hs = (
    rcv (some a0) 11 fun r8 => call (f_X8_versionNumbered r8 p1) (fun (v1 : Option Nat) =>
    lets v1 fun (v2 : Option Nat) =>
    rcv (some a0) 11 fun r7 => call (f_X8_lessonNumbered r7 p2) (fun (v3 : Option Nat) =>
    gI v3 7 0 fun v4 =>
    call (f_X8_at v2 v4) (fun (v5 : Int32) =>
    lets v5 fun (v6 : Int32) =>
    (if ¬ v6 = (-1 : Int32) then
    rtn v6
    else
    nthrow 3)) nox) thr) thr) hs := rfl
theorem u_j_X8_differences_45 (a3 : Option Nat) (a4 : Option Nat) (a5 : Int32) (a6 : Int32)  (rec_19 : Int32 → Int32 → OO Int32) (hs : Hs) : j_X8_differences_45 a3 a4 a5 a6 rec_19 hs = (
  lets (a6 + (1 : Int32)) fun (v9 : Int32) =>
    rec_19 a5 v9) hs := rfl
theorem u_f_X8_differences (a0 : Nat) (p1 : Int32) (p2 : Int32) (hs : Hs) : f_X8_differences a0 p1 p2 hs = (
    rcv (some a0) 11 fun r13 => call (f_X8_versionNumbered r13 p1) (fun (v1 : Option Nat) =>
    lets v1 fun (v2 : Option Nat) =>
    rcv (some a0) 11 fun r12 => call (f_X8_versionNumbered r12 p2) (fun (v3 : Option Nat) =>
    lets v3 fun (v4 : Option Nat) =>
    lets (0 : Int32) fun (v5 : Int32) =>
    lets (0 : Int32) fun (v6 : Int32) =>
    L_X8_differences_19 v2 v4 (fun (v11 : Int32) => rtn v11) 100000 v5 v6) thr) thr) hs := rfl
theorem u_j_X8_restore_64 (a0 : Option Nat) (a2 : Option Nat) (a3 : Int32) (a4 : Int32)  (rec_19 : Int32 → Int32 → OO Int32) (hs : Hs) : j_X8_restore_64 a0 a2 a3 a4 rec_19 hs = (
  lets (a4 + (1 : Int32)) fun (v15 : Int32) =>
    rec_19 a3 v15) hs := rfl
theorem u_f_X8_restore (a0 : Nat) (p1 : Int32) (hs : Hs) : f_X8_restore a0 p1 hs = (
    rcv (some a0) 11 fun r22 => call (f_X8_versionNumbered r22 p1) (fun (v1 : Option Nat) =>
    lets v1 fun (v2 : Option Nat) =>
    gR (some a0) 11 1 fun v3 =>
    rcv v3 9 fun r21 => call (f_X6_setFreeLessons r21 v2) (fun (v4 : Unit) =>
    lets (0 : Int32) fun (v5 : Int32) =>
    lets (0 : Int32) fun (v6 : Int32) =>
    L_X8_restore_19 (some a0) v2 (fun (v20 : Int32) => rtn v20) 100000 v5 v6) nox) thr) hs := rfl
theorem u_j_X8_merge_153 (a0 : Option Nat) (a3 : Option Nat) (a4 : Option Nat) (a5 : Int32) (a6 : Int32)  (rec_30 : Int32 → Int32 → OO Int32) (hs : Hs) : j_X8_merge_153 a0 a3 a4 a5 a6 rec_30 hs = (
  lets (a6 + (1 : Int32)) fun (v22 : Int32) =>
    rec_30 a5 v22) hs := rfl
theorem u_j_X8_merge_128 (a0 : Option Nat) (a3 : Option Nat) (a4 : Option Nat) (a5 : Int32) (a6 : Int32) (a7 : Int32)  (rec_30 : Int32 → Int32 → OO Int32) (hs : Hs) : j_X8_merge_128 a0 a3 a4 a5 a6 a7 rec_30 hs = (
  (if a7 = 0 then
    j_X8_merge_153 a0 a3 a4 a5 a6 rec_30
    else
    gR a0 11 6 fun v23 =>
    ldI 0 v23 a6 fun v24 =>
    call (f_X8_at a4 a6) (fun (v25 : Int32) =>
    (if v24 = v25 then
    j_X8_merge_153 a0 a3 a4 a5 a6 rec_30
    else
    lets (a5 + (1 : Int32)) fun (v26 : Int32) =>
    j_X8_merge_153 a0 a3 a4 v26 a6 rec_30)) nox)) hs := rfl
theorem u_j_X8_merge_99 (a0 : Option Nat) (a3 : Option Nat) (a4 : Option Nat) (a5 : Int32) (a6 : Int32) (a7 : Int32) (s0 : Int32) (rec_30 : Int32 → Int32 → OO Int32) (hs : Hs) : j_X8_merge_99 a0 a3 a4 a5 a6 a7 s0 rec_30 hs = (
  lets s0 fun (v21 : Int32) =>
    (if a7 = 0 then
    j_X8_merge_128 a0 a3 a4 a5 a6 a7 rec_30
    else
    (if ¬ v21 = 0 then
    j_X8_merge_128 a0 a3 a4 a5 a6 a7 rec_30
    else
    gR a0 11 6 fun v27 =>
    call (f_X8_at a4 a6) (fun (v28 : Int32) =>
    stI v27 a6 v28 (
    j_X8_merge_153 a0 a3 a4 a5 a6 rec_30)) nox))) hs := rfl
theorem u_j_X8_merge_76 (a0 : Option Nat) (a3 : Option Nat) (a4 : Option Nat) (a5 : Int32) (a6 : Int32) (s0 : Int32) (rec_30 : Int32 → Int32 → OO Int32) (hs : Hs) : j_X8_merge_76 a0 a3 a4 a5 a6 s0 rec_30 hs = (
  lets s0 fun (v17 : Int32) =>
    gR a0 11 6 fun v18 =>
    ldI 0 v18 a6 fun v19 =>
    call (f_X8_at a3 a6) (fun (v20 : Int32) =>
    (if v19 = v20 then
    j_X8_merge_99 a0 a3 a4 a5 a6 v17 (0 : Int32) rec_30
    else
    j_X8_merge_99 a0 a3 a4 a5 a6 v17 (1 : Int32) rec_30)) nox) hs := rfl
theorem u_j_X8_merge_159 (a0 : Option Nat) (a5 : Int32) (hs : Hs) : j_X8_merge_159 a0 a5 hs = (
  gR a0 11 1 fun v31 =>
    gR a0 11 6 fun v32 =>
    rcv v31 9 fun r34 => call (f_X6_setFreeLessons r34 v32) (fun (v33 : Unit) =>
    rtn a5) nox) hs := rfl
theorem u_f_X8_merge (a0 : Nat) (p1 : Int32) (p2 : Int32) (hs : Hs) : f_X8_merge a0 p1 p2 hs = (
    rcv (some a0) 11 fun r37 => call (f_X8_versionNumbered r37 p1) (fun (v1 : Option Nat) =>
    lets v1 fun (v2 : Option Nat) =>
    rcv (some a0) 11 fun r36 => call (f_X8_versionNumbered r36 p2) (fun (v3 : Option Nat) =>
    lets v3 fun (v4 : Option Nat) =>
    gR (some a0) 11 1 fun v5 =>
    gR (some a0) 11 6 fun v6 =>
    rcv v5 9 fun r35 => call (f_X6_copyPlaces r35 v6) (fun (v7 : Unit) =>
    lets (0 : Int32) fun (v8 : Int32) =>
    lets (0 : Int32) fun (v9 : Int32) =>
    L_X8_merge_30 (some a0) v2 v4 (fun (v30 : Int32) => j_X8_merge_159 (some a0) v30) 100000 v8 v9) nox) thr) thr) hs := rfl
theorem u_f_X8_placedShare (a0 : Nat) (hs : Hs) : f_X8_placedShare a0 hs = (
    gR (some a0) 11 1 fun v1 =>
    gR v1 9 2 fun v2 =>
    rcv v2 2 fun r11 => call (f_Jx4a65c_size_8abf5 r11 ) (fun (v3 : Int32) =>
    lets v3 fun (v4 : Int32) =>
    (if ¬ v4 = 0 then
    gR (some a0) 11 1 fun v5 =>
    rcv v5 9 fun r10 => call (f_X6_unplaced r10 ) (fun (v6 : Int32) =>
    call (f_J6_bitCount_0f7a4 v6) (fun (v7 : Int32) =>
    lets (v4 - v7) fun (v8 : Int32) =>
    fdv (FP.i2f v8) (FP.i2f v4) fun v9 =>
    rtn v9) nox) nox
    else
    nthrow 5)) nox) hs := rfl
theorem u_f_X8_meanPossible (a0 : Nat) (hs : Hs) : f_X8_meanPossible a0 hs = (
    gR (some a0) 11 1 fun v1 =>
    gR v1 9 2 fun v2 =>
    rcv v2 2 fun r18 => call (f_Jx4a65c_size_8abf5 r18 ) (fun (v3 : Int32) =>
    lets v3 fun (v4 : Int32) =>
    (if ¬ v4 = 0 then
    lets (0 : Int32) fun (v5 : Int32) =>
    lets (0 : Int32) fun (v6 : Int32) =>
    L_X8_meanPossible_30 (some a0) v4 (fun (v16 : Int32) => ddv (FP.i2d v16) (FP.i2d v4) fun v17 =>
    rtn v17) 100000 v5 v6
    else
    nthrow 5)) nox) hs := rfl
theorem u_L_X8_close_29 (a0 : Option Nat) (a2 : Option Nat) (k_29_78 : OO Int32) (k_29_118 : Int32 → OO Int32) (n : Nat) (x3 : Int32) (x4 : Int32) (hs : Hs) : L_X8_close_29 a0 a2 k_29_78 k_29_118 (n + 1) x3 x4 hs = (
    gR a0 11 1 fun v6 =>
    gR v6 9 2 fun v7 =>
    rcv v7 2 fun r21 => call (f_Jx4a65c_size_8abf5 r21 ) (fun (v8 : Int32) =>
    (if v8 ≤ x4 then
    k_29_118 x3
    else
    gR a0 11 1 fun v9 =>
    gR v9 9 2 fun v10 =>
    rcv v10 2 fun r20 => call (f_Jx4a65c_get_915e3 r20 x4) (fun (v11 : Option Nat) =>
    cst v11 7 (
    lets v11 fun (v12 : Option Nat) =>
    gR v12 7 6 fun v13 =>
    (if ¬ v13 = a2 then
    j_X8_close_112 a0 a2 x3 x4 (L_X8_close_29 a0 a2 k_29_78 k_29_118 n)
    else
    gI v12 7 8 fun v15 =>
    (if v15 = 0 then
    gR a0 11 1 fun v16 =>
    rcv v16 9 fun r19 => call (f_X6_isPast r19 v12) (fun (v17 : Int32) =>
    (if v17 = 0 then
    j_X8_close_110 a0 a2 x4 (((1 : Int32) <<< (x4 &&& 31))) x3 (L_X8_close_29 a0 a2 k_29_78 k_29_118 n)
    else
    j_X8_close_110 a0 a2 x4 (0 : Int32) x3 (L_X8_close_29 a0 a2 k_29_78 k_29_118 n))) nox
    else
    k_29_78)))) nox)) nox) hs := rfl
theorem u_L_X8_open_34 (a0 : Option Nat) (k_34_79 : Int32 → OO Int32) (n : Nat) (x3 : Int32) (x4 : Int32) (hs : Hs) : L_X8_open_34 a0 k_34_79 (n + 1) x3 x4 hs = (
    gR a0 11 1 fun v6 =>
    gR v6 9 0 fun v7 =>
    rcv v7 2 fun r16 => call (f_Jx4a65c_size_8abf5 r16 ) (fun (v8 : Int32) =>
    (if v8 ≤ x4 then
    k_34_79 x3
    else
    gR a0 11 1 fun v9 =>
    gR v9 9 0 fun v10 =>
    rcv v10 2 fun r15 => call (f_Jx4a65c_get_915e3 r15 x4) (fun (v11 : Option Nat) =>
    cst v11 8 (
    gI v11 8 4 fun v12 =>
    (if v12 = 0 then
    j_X8_open_73 a0 x3 x4 (L_X8_open_34 a0 k_34_79 n)
    else
    lets (x3 + (1 : Int32)) fun (v14 : Int32) =>
    j_X8_open_73 a0 v14 x4 (L_X8_open_34 a0 k_34_79 n)))) nox)) nox) hs := rfl
theorem u_L_X8_differences_19 (a3 : Option Nat) (a4 : Option Nat) (k_19_51 : Int32 → OO Int32) (n : Nat) (x5 : Int32) (x6 : Int32) (hs : Hs) : L_X8_differences_19 a3 a4 k_19_51 (n + 1) x5 x6 hs = (
    (if (16 : Int32) ≤ x6 then
    k_19_51 x5
    else
    call (f_X8_at a3 x6) (fun (v7 : Int32) =>
    call (f_X8_at a4 x6) (fun (v8 : Int32) =>
    (if v7 = v8 then
    j_X8_differences_45 a3 a4 x5 x6 (L_X8_differences_19 a3 a4 k_19_51 n)
    else
    lets (x5 + (1 : Int32)) fun (v10 : Int32) =>
    j_X8_differences_45 a3 a4 v10 x6 (L_X8_differences_19 a3 a4 k_19_51 n))) nox) nox)) hs := rfl
theorem u_L_X8_restore_19 (a0 : Option Nat) (a2 : Option Nat) (k_19_70 : Int32 → OO Int32) (n : Nat) (x3 : Int32) (x4 : Int32) (hs : Hs) : L_X8_restore_19 a0 a2 k_19_70 (n + 1) x3 x4 hs = (
    gR a0 11 1 fun v7 =>
    gR v7 9 2 fun v8 =>
    rcv v8 2 fun r19 => call (f_Jx4a65c_size_8abf5 r19 ) (fun (v9 : Int32) =>
    (if v9 ≤ x4 then
    k_19_70 x3
    else
    gR a0 11 1 fun v10 =>
    gR v10 9 2 fun v11 =>
    rcv v11 2 fun r18 => call (f_Jx4a65c_get_915e3 r18 x4) (fun (v12 : Option Nat) =>
    cst v12 7 (
    rcv v12 7 fun r17 => call (f_X4_placeNow r17 ) (fun (v13 : Int32) =>
    call (f_X8_at a2 x4) (fun (v14 : Int32) =>
    (if v13 = v14 then
    j_X8_restore_64 a0 a2 x3 x4 (L_X8_restore_19 a0 a2 k_19_70 n)
    else
    lets (x3 + (1 : Int32)) fun (v16 : Int32) =>
    j_X8_restore_64 a0 a2 v16 x4 (L_X8_restore_19 a0 a2 k_19_70 n))) nox) nox)) nox)) nox) hs := rfl
theorem u_L_X8_merge_30 (a0 : Option Nat) (a3 : Option Nat) (a4 : Option Nat) (k_30_159 : Int32 → OO Int32) (n : Nat) (x5 : Int32) (x6 : Int32) (hs : Hs) : L_X8_merge_30 a0 a3 a4 k_30_159 (n + 1) x5 x6 hs = (
    gR a0 11 1 fun v10 =>
    gR v10 9 2 fun v11 =>
    rcv v11 2 fun r29 => call (f_Jx4a65c_size_8abf5 r29 ) (fun (v12 : Int32) =>
    (if v12 ≤ x6 then
    k_30_159 x5
    else
    gR a0 11 6 fun v13 =>
    alen v13 fun v14 =>
    (if v14 ≤ x6 then
    k_30_159 x5
    else
    call (f_X8_at a4 x6) (fun (v15 : Int32) =>
    call (f_X8_at a3 x6) (fun (v16 : Int32) =>
    (if v15 = v16 then
    j_X8_merge_76 a0 a3 a4 x5 x6 (0 : Int32) (L_X8_merge_30 a0 a3 a4 k_30_159 n)
    else
    j_X8_merge_76 a0 a3 a4 x5 x6 (1 : Int32) (L_X8_merge_30 a0 a3 a4 k_30_159 n))) nox) nox))) nox) hs := rfl
theorem u_L_X8_meanPossible_30 (a0 : Option Nat) (a1 : Int32) (k_30_65 : Int32 → OO UInt64) (n : Nat) (x2 : Int32) (x3 : Int32) (hs : Hs) : L_X8_meanPossible_30 a0 a1 k_30_65 (n + 1) x2 x3 hs = (
    (if a1 ≤ x3 then
    k_30_65 x2
    else
    gR a0 11 1 fun v7 =>
    gR a0 11 1 fun v8 =>
    gR v8 9 2 fun v9 =>
    rcv v9 2 fun r15 => call (f_Jx4a65c_get_915e3 r15 x3) (fun (v10 : Option Nat) =>
    cst v10 7 (
    rcv v7 9 fun r14 => call (f_X6_countPossible r14 v10) (fun (v11 : Int32) =>
    lets (x2 + v11) fun (v12 : Int32) =>
    lets (x3 + (1 : Int32)) fun (v13 : Int32) =>
    (L_X8_meanPossible_30 a0 a1 k_30_65 n) v12 v13) nox)) nox)) hs := rfl
theorem u_f_X8_isSound (a0 : Nat) (hs : Hs) : f_X8_isSound a0 hs = (
    rcv (some a0) 11 fun r16 => call (f_X8_cost r16 ) (fun (v1 : Int32) =>
    rcv (some a0) 11 fun r15 => call (f_X8_costAnew r15 ) (fun (v2 : Int32) =>
    (if ¬ v1 = v2 then
    retZ (0 : Int32)
    else
    rcv (some a0) 11 fun r14 => call (f_X8_breaks r14 ) (fun (v3 : Int32) =>
    (if v3 = 0 then
    lets (0 : Int32) fun (v4 : Int32) =>
    L_X8_isSound_22 (some a0) (retZ (0 : Int32)) (retZ (1 : Int32)) 100000 v4
    else
    retZ (0 : Int32))) nox)) nox) nox) hs := rfl
theorem u_f_X9_init (a0 : Nat) (hs : Hs) : f_X9_init a0 hs = (
    nwI 0 (8 : Int32) 8 fun q1 =>
    pR (some a0) 12 0 (some q1) (
    nwI 0 (8 : Int32) 8 fun q2 =>
    pR (some a0) 12 1 (some q2) (
    nwI 0 (8 : Int32) 8 fun q3 =>
    pR (some a0) 12 2 (some q3) (
    nwI 0 (8 : Int32) 8 fun q4 =>
    pR (some a0) 12 3 (some q4) (
    nwI 0 (8 : Int32) 8 fun q5 =>
    pR (some a0) 12 4 (some q5) (
    nwI 0 (8 : Int32) 8 fun q6 =>
    pR (some a0) 12 5 (some q6) (
    nwI 0 (240 : Int32) 240 fun q7 =>
    pR (some a0) 12 6 (some q7) (
    nwI 1 (8 : Int32) 8 fun q8 =>
    pR (some a0) 12 7 (some q8) (
    nwI 1 (16 : Int32) 16 fun q9 =>
    pR (some a0) 12 8 (some q9) (
    nwI 0 (16 : Int32) 16 fun q10 =>
    pR (some a0) 12 9 (some q10) (
    nwI 0 (16 : Int32) 16 fun q11 =>
    pR (some a0) 12 10 (some q11) (
    nwI 0 (16 : Int32) 16 fun q12 =>
    pR (some a0) 12 11 (some q12) (
    nwI 0 (16 : Int32) 16 fun q13 =>
    pR (some a0) 12 12 (some q13) (
    nwI 0 (16 : Int32) 16 fun q14 =>
    pR (some a0) 12 13 (some q14) (
    nwI 0 (16 : Int32) 16 fun q15 =>
    pR (some a0) 12 14 (some q15) (
    nwI 0 (4 : Int32) 4 fun q16 =>
    pR (some a0) 12 15 (some q16) (
    nwI 0 (96 : Int32) 96 fun q17 =>
    pR (some a0) 12 16 (some q17) (
    nwI 0 (16 : Int32) 16 fun q18 =>
    pR (some a0) 12 17 (some q18) (
    nwI 0 (3 : Int32) 3 fun q19 =>
    pR (some a0) 12 18 (some q19) (
    nwI 0 (16 : Int32) 16 fun q20 =>
    pR (some a0) 12 19 (some q20) (
    pI (some a0) 12 20 (0 : Int32) (
    pI (some a0) 12 21 (0 : Int32) (
    pI (some a0) 12 22 (0 : Int32) (
    pI (some a0) 12 23 (0 : Int32) (
    pI (some a0) 12 24 (0 : Int32) (
    pI (some a0) 12 25 (0 : Int32) (
    pI (some a0) 12 26 (0 : Int32) (
    pI (some a0) 12 27 (0 : Int32) (
    lets (0 : Int32) fun (v21 : Int32) =>
    L_X9_init_205 (some a0) (rtn ()) 100000 v21))))))))))))))))))))))))))))) hs := rfl
theorem u_f_X9_thrown (a0 : Nat) (hs : Hs) : f_X9_thrown a0 hs = (
    gI (some a0) 12 20 fun v1 =>
    rtn v1) hs := rfl
theorem u_f_X9_in (p0 : Int32) (p1 : Int32) (p2 : Int32) (hs : Hs) : f_X9_in p0 p1 p2 hs = (
    (if p0 < p1 then
    retZ (0 : Int32)
    else
    (if p2 < p0 then
    retZ (0 : Int32)
    else
    retZ (1 : Int32)))) hs := rfl
theorem u_f_X9_plain (a0 : Nat) (p1 : Int32) (hs : Hs) : f_X9_plain a0 p1 hs = (
    pI (some a0) 12 20 (0 : Int32) (
    rtn p1)) hs := rfl
theorem u_j_X9_checked_10 (a0 : Option Nat) (s0 : Int32) (s1 : Option Nat) (hs : Hs) : j_X9_checked_10 a0 s0 s1 hs = (
  pI s1 12 20 s0 (
    gI a0 12 20 fun v1 =>
    rtn v1)) hs := rfl
theorem u_f_X9_checked (a0 : Nat) (p1 : Int32) (hs : Hs) : f_X9_checked a0 p1 hs = (
    (if p1 = 0 then
    j_X9_checked_10 (some a0) (1 : Int32) (some a0)
    else
    j_X9_checked_10 (some a0) (0 : Int32) (some a0))) hs := rfl
theorem u_f_X9_isLesson (a0 : Nat) (p1 : Int32) (hs : Hs) : f_X9_isLesson a0 p1 hs = (
    gI (some a0) 12 24 fun v1 =>
    call (f_X9_in p1 (0 : Int32) (v1 - (1 : Int32))) (fun (v2 : Int32) =>
    retZ v2) nox) hs := rfl
theorem u_f_X9_isTeacher (a0 : Nat) (p1 : Int32) (hs : Hs) : f_X9_isTeacher a0 p1 hs = (
    gI (some a0) 12 22 fun v1 =>
    call (f_X9_in p1 (0 : Int32) (v1 - (1 : Int32))) (fun (v2 : Int32) =>
    retZ v2) nox) hs := rfl
theorem u_f_X9_isGroup (a0 : Nat) (p1 : Int32) (hs : Hs) : f_X9_isGroup a0 p1 hs = (
    gI (some a0) 12 23 fun v1 =>
    call (f_X9_in p1 (0 : Int32) (v1 - (1 : Int32))) (fun (v2 : Int32) =>
    retZ v2) nox) hs := rfl
theorem u_f_X9_isRoom (a0 : Nat) (p1 : Int32) (hs : Hs) : f_X9_isRoom a0 p1 hs = (
    gI (some a0) 12 21 fun v1 =>
    call (f_X9_in p1 (0 : Int32) (v1 - (1 : Int32))) (fun (v2 : Int32) =>
    retZ v2) nox) hs := rfl
theorem u_f_X9_isSlot (p0 : Int32) (hs : Hs) : f_X9_isSlot p0 hs = (
    call (f_X9_in p0 (0 : Int32) (29 : Int32)) (fun (v1 : Int32) =>
    retZ v1) nox) hs := rfl
theorem u_j_X9_addRoom_47 (a0 : Option Nat) (a1 : Int32) (a2 : Int32) (a3 : Int32) (s0 : Int32) (s1 : Option Nat) (hs : Hs) : j_X9_addRoom_47 a0 a1 a2 a3 s0 s1 hs = (
  pI s1 12 20 s0 (
    gI a0 12 20 fun v2 =>
    (if v2 ≤ 0 then
    gR a0 12 0 fun v3 =>
    gI a0 12 21 fun v4 =>
    stI v3 v4 a1 (
    gR a0 12 1 fun v5 =>
    gI a0 12 21 fun v6 =>
    stI v5 v6 a2 (
    gR a0 12 2 fun v7 =>
    gI a0 12 21 fun v8 =>
    stI v7 v8 a3 (
    gI a0 12 21 fun v9 =>
    pI a0 12 21 (v9 + (1 : Int32)) (
    gI a0 12 21 fun v10 =>
    rtn (v10 - (1 : Int32))))))
    else
    rtn (0 : Int32)))) hs := rfl
theorem u_j_X9_addRoom_29 (a0 : Option Nat) (a1 : Int32) (a2 : Int32) (a3 : Int32) (s0 : Option Nat) (hs : Hs) : j_X9_addRoom_29 a0 a1 a2 a3 s0 hs = (
  j_X9_addRoom_47 a0 a1 a2 a3 (1 : Int32) s0) hs := rfl
theorem u_f_X9_addRoom (a0 : Nat) (p1 : Int32) (p2 : Int32) (p3 : Int32) (hs : Hs) : f_X9_addRoom a0 p1 p2 p3 hs = (
    call (f_X9_in p1 (0 : Int32) (2 : Int32)) (fun (v1 : Int32) =>
    (if v1 = 0 then
    j_X9_addRoom_29 (some a0) p1 p2 p3 (some a0)
    else
    call (f_X9_in p2 (0 : Int32) (3 : Int32)) (fun (v11 : Int32) =>
    (if v11 = 0 then
    j_X9_addRoom_29 (some a0) p1 p2 p3 (some a0)
    else
    call (f_X9_in p3 (1 : Int32) (99 : Int32)) (fun (v12 : Int32) =>
    (if ¬ v12 = 0 then
    gI (some a0) 12 21 fun v13 =>
    (if ¬ v13 = (8 : Int32) then
    j_X9_addRoom_47 (some a0) p1 p2 p3 (0 : Int32) (some a0)
    else
    j_X9_addRoom_47 (some a0) p1 p2 p3 (2 : Int32) (some a0))
    else
    j_X9_addRoom_29 (some a0) p1 p2 p3 (some a0))) nox)) nox)) nox) hs := rfl
theorem u_j_X9_addTeacher_29 (a0 : Option Nat) (a1 : Int32) (s0 : Int32) (s1 : Option Nat) (hs : Hs) : j_X9_addTeacher_29 a0 a1 s0 s1 hs = (
  pI s1 12 20 s0 (
    gI a0 12 20 fun v3 =>
    (if v3 ≤ 0 then
    gR a0 12 3 fun v4 =>
    gI a0 12 22 fun v5 =>
    stI v4 v5 a1 (
    gI a0 12 22 fun v6 =>
    pI a0 12 22 (v6 + (1 : Int32)) (
    gI a0 12 22 fun v7 =>
    rtn (v7 - (1 : Int32))))
    else
    rtn (0 : Int32)))) hs := rfl
theorem u_f_X9_addTeacher (a0 : Nat) (p1 : Int32) (hs : Hs) : f_X9_addTeacher a0 p1 hs = (
    call (f_X9_in p1 (0 : Int32) (31 : Int32)) (fun (v1 : Int32) =>
    (if ¬ v1 = 0 then
    gI (some a0) 12 22 fun v2 =>
    (if ¬ v2 = (8 : Int32) then
    j_X9_addTeacher_29 (some a0) p1 (0 : Int32) (some a0)
    else
    j_X9_addTeacher_29 (some a0) p1 (2 : Int32) (some a0))
    else
    j_X9_addTeacher_29 (some a0) p1 (1 : Int32) (some a0))) nox) hs := rfl
theorem u_j_X9_addGroup_29 (a0 : Option Nat) (a1 : Int32) (s0 : Int32) (s1 : Option Nat) (hs : Hs) : j_X9_addGroup_29 a0 a1 s0 s1 hs = (
  pI s1 12 20 s0 (
    gI a0 12 20 fun v3 =>
    (if v3 ≤ 0 then
    gR a0 12 5 fun v4 =>
    gI a0 12 23 fun v5 =>
    stI v4 v5 a1 (
    gI a0 12 23 fun v6 =>
    pI a0 12 23 (v6 + (1 : Int32)) (
    gI a0 12 23 fun v7 =>
    rtn (v7 - (1 : Int32))))
    else
    rtn (0 : Int32)))) hs := rfl
theorem u_f_X9_addGroup (a0 : Nat) (p1 : Int32) (hs : Hs) : f_X9_addGroup a0 p1 hs = (
    call (f_X9_in p1 (1 : Int32) (99 : Int32)) (fun (v1 : Int32) =>
    (if ¬ v1 = 0 then
    gI (some a0) 12 23 fun v2 =>
    (if ¬ v2 = (8 : Int32) then
    j_X9_addGroup_29 (some a0) p1 (0 : Int32) (some a0)
    else
    j_X9_addGroup_29 (some a0) p1 (2 : Int32) (some a0))
    else
    j_X9_addGroup_29 (some a0) p1 (1 : Int32) (some a0))) nox) hs := rfl
theorem u_j_X9_addLesson_69 (a0 : Option Nat) (a1 : Int32) (a2 : Int32) (a3 : Int32) (a4 : Int32) (a5 : Int32) (s0 : Int32) (s1 : Option Nat) (hs : Hs) : j_X9_addLesson_69 a0 a1 a2 a3 a4 a5 s0 s1 hs = (
  pI s1 12 20 s0 (
    gI a0 12 20 fun v2 =>
    (if v2 ≤ 0 then
    gR a0 12 9 fun v3 =>
    gI a0 12 24 fun v4 =>
    stI v3 v4 a1 (
    gR a0 12 10 fun v5 =>
    gI a0 12 24 fun v6 =>
    stI v5 v6 a2 (
    gR a0 12 11 fun v7 =>
    gI a0 12 24 fun v8 =>
    stI v7 v8 a3 (
    gR a0 12 12 fun v9 =>
    gI a0 12 24 fun v10 =>
    stI v9 v10 a4 (
    gR a0 12 13 fun v11 =>
    gI a0 12 24 fun v12 =>
    stI v11 v12 a5 (
    gR a0 12 14 fun v13 =>
    gI a0 12 24 fun v14 =>
    stI v13 v14 (-1 : Int32) (
    gI a0 12 24 fun v15 =>
    pI a0 12 24 (v15 + (1 : Int32)) (
    gI a0 12 24 fun v16 =>
    rtn (v16 - (1 : Int32)))))))))
    else
    rtn (0 : Int32)))) hs := rfl
theorem u_j_X9_addLesson_17 (a0 : Option Nat) (a1 : Int32) (a2 : Int32) (a3 : Int32) (a4 : Int32) (a5 : Int32) (s0 : Option Nat) (hs : Hs) : j_X9_addLesson_17 a0 a1 a2 a3 a4 a5 s0 hs = (
  j_X9_addLesson_69 a0 a1 a2 a3 a4 a5 (1 : Int32) s0) hs := rfl
theorem u_j_X9_addLesson_51 (a0 : Option Nat) (a1 : Int32) (a2 : Int32) (a3 : Int32) (a4 : Int32) (a5 : Int32) (s0 : Option Nat) (hs : Hs) : j_X9_addLesson_51 a0 a1 a2 a3 a4 a5 s0 hs = (
  j_X9_addLesson_69 a0 a1 a2 a3 a4 a5 (2 : Int32) s0) hs := rfl
theorem u_f_X9_addLesson (a0 : Nat) (p1 : Int32) (p2 : Int32) (p3 : Int32) (p4 : Int32) (p5 : Int32) (hs : Hs) : f_X9_addLesson a0 p1 p2 p3 p4 p5 hs = (
    rcv (some a0) 12 fun r23 => call (f_X9_isGroup r23 p1) (fun (v1 : Int32) =>
    (if v1 = 0 then
    j_X9_addLesson_17 (some a0) p1 p2 p3 p4 p5 (some a0)
    else
    rcv (some a0) 12 fun r22 => call (f_X9_isTeacher r22 p2) (fun (v17 : Int32) =>
    (if ¬ v17 = 0 then
    call (f_X9_in p3 (0 : Int32) (3 : Int32)) (fun (v18 : Int32) =>
    (if v18 = 0 then
    j_X9_addLesson_51 (some a0) p1 p2 p3 p4 p5 (some a0)
    else
    call (f_X9_in p4 (1 : Int32) (3 : Int32)) (fun (v19 : Int32) =>
    (if v19 = 0 then
    j_X9_addLesson_51 (some a0) p1 p2 p3 p4 p5 (some a0)
    else
    call (f_X9_in p5 (0 : Int32) (9 : Int32)) (fun (v20 : Int32) =>
    (if ¬ v20 = 0 then
    gI (some a0) 12 24 fun v21 =>
    (if ¬ v21 = (16 : Int32) then
    j_X9_addLesson_69 (some a0) p1 p2 p3 p4 p5 (0 : Int32) (some a0)
    else
    j_X9_addLesson_69 (some a0) p1 p2 p3 p4 p5 (3 : Int32) (some a0))
    else
    j_X9_addLesson_51 (some a0) p1 p2 p3 p4 p5 (some a0))) nox)) nox)) nox
    else
    j_X9_addLesson_17 (some a0) p1 p2 p3 p4 p5 (some a0))) nox)) nox) hs := rfl
theorem u_j_X9_setWish_35 (a0 : Option Nat) (a1 : Int32) (a2 : Int32) (a3 : Int32) (s0 : Int32) (s1 : Option Nat) (hs : Hs) : j_X9_setWish_35 a0 a1 a2 a3 s0 s1 hs = (
  pI s1 12 20 s0 (
    gI a0 12 20 fun v3 =>
    (if v3 ≤ 0 then
    gR a0 12 6 fun v4 =>
    ldI 0 v4 (((30 : Int32) * a1) + a2) fun v5 =>
    lets v5 fun (v6 : Int32) =>
    gR a0 12 6 fun v7 =>
    stI v7 (((30 : Int32) * a1) + a2) a3 (
    rtn v6)
    else
    rtn (0 : Int32)))) hs := rfl
theorem u_j_X9_setWish_30 (a0 : Option Nat) (a1 : Int32) (a2 : Int32) (a3 : Int32) (s0 : Option Nat) (hs : Hs) : j_X9_setWish_30 a0 a1 a2 a3 s0 hs = (
  j_X9_setWish_35 a0 a1 a2 a3 (2 : Int32) s0) hs := rfl
theorem u_f_X9_setWish (a0 : Nat) (p1 : Int32) (p2 : Int32) (p3 : Int32) (hs : Hs) : f_X9_setWish a0 p1 p2 p3 hs = (
    rcv (some a0) 12 fun r9 => call (f_X9_isTeacher r9 p1) (fun (v1 : Int32) =>
    (if ¬ v1 = 0 then
    call (f_X9_isSlot p2) (fun (v2 : Int32) =>
    (if v2 = 0 then
    j_X9_setWish_30 (some a0) p1 p2 p3 (some a0)
    else
    call (f_X9_in p3 (0 : Int32) (9 : Int32)) (fun (v8 : Int32) =>
    (if ¬ v8 = 0 then
    j_X9_setWish_35 (some a0) p1 p2 p3 (0 : Int32) (some a0)
    else
    j_X9_setWish_30 (some a0) p1 p2 p3 (some a0))) nox)) nox
    else
    j_X9_setWish_35 (some a0) p1 p2 p3 (1 : Int32) (some a0))) nox) hs := rfl
theorem u_L_X8_isSound_22 (a0 : Option Nat) (k_22_54 : OO Int32) (k_22_62 : OO Int32) (n : Nat) (x1 : Int32) (hs : Hs) : L_X8_isSound_22 a0 k_22_54 k_22_62 (n + 1) x1 hs = (
    (if (4 : Int32) ≤ x1 then
    k_22_62
    else
    gR a0 11 4 fun v5 =>
    gR a0 11 1 fun v6 =>
    rcv v5 3 fun r13 => call (f_X0_lackByGiving r13 v6 x1) (fun (v7 : Int32) =>
    gR a0 11 4 fun v8 =>
    gR a0 11 1 fun v9 =>
    rcv v8 3 fun r12 => call (f_X0_lackByNumbers r12 v9 x1) (fun (v10 : Int32) =>
    (if v7 = v10 then
    lets (x1 + (1 : Int32)) fun (v11 : Int32) =>
    (L_X8_isSound_22 a0 k_22_54 k_22_62 n) v11
    else
    k_22_54)) nox) nox)) hs := rfl
theorem u_L_X9_init_205 (a0 : Option Nat) (k_205_223 : OO Unit) (n : Nat) (x1 : Int32) (hs : Hs) : L_X9_init_205 a0 k_205_223 (n + 1) x1 hs = (
    (if (4 : Int32) ≤ x1 then
    k_205_223
    else
    gR a0 12 15 fun v22 =>
    stI v22 x1 (1 : Int32) (
    lets (x1 + (1 : Int32)) fun (v23 : Int32) =>
    (L_X9_init_205 a0 k_205_223 n) v23))) hs := rfl
theorem u_j_X9_setWeight_25 (a0 : Option Nat) (a1 : Int32) (a2 : Int32) (s0 : Int32) (s1 : Option Nat) (hs : Hs) : j_X9_setWeight_25 a0 a1 a2 s0 s1 hs = (
  rcv s1 12 fun r7 => call (f_X9_checked r7 s0) (fun (v2 : Int32) =>
    (if v2 ≤ 0 then
    gR a0 12 15 fun v3 =>
    ldI 0 v3 a1 fun v4 =>
    lets v4 fun (v5 : Int32) =>
    gR a0 12 15 fun v6 =>
    stI v6 a1 a2 (
    rtn v5)
    else
    rtn (0 : Int32))) nox) hs := rfl
theorem u_j_X9_setWeight_24 (a0 : Option Nat) (a1 : Int32) (a2 : Int32) (s0 : Option Nat) (hs : Hs) : j_X9_setWeight_24 a0 a1 a2 s0 hs = (
  j_X9_setWeight_25 a0 a1 a2 (0 : Int32) s0) hs := rfl
theorem u_f_X9_setWeight (a0 : Nat) (p1 : Int32) (p2 : Int32) (hs : Hs) : f_X9_setWeight a0 p1 p2 hs = (
    call (f_X9_in p1 (0 : Int32) (3 : Int32)) (fun (v1 : Int32) =>
    (if v1 = 0 then
    j_X9_setWeight_24 (some a0) p1 p2 (some a0)
    else
    call (f_X9_in p2 (0 : Int32) (9 : Int32)) (fun (v8 : Int32) =>
    (if v8 = 0 then
    j_X9_setWeight_24 (some a0) p1 p2 (some a0)
    else
    j_X9_setWeight_25 (some a0) p1 p2 (1 : Int32) (some a0))) nox)) nox) hs := rfl
theorem u_f_X9_slotOf (a0 : Nat) (p1 : Int32) (hs : Hs) : f_X9_slotOf a0 p1 hs = (
    gR (some a0) 12 14 fun v1 =>
    ldI 0 v1 p1 fun v2 =>
    dvz (8 : Int32) (
    rtn (v2 / (8 : Int32)))) hs := rfl
theorem u_f_X9_endOf (a0 : Nat) (p1 : Int32) (hs : Hs) : f_X9_endOf a0 p1 hs = (
    rcv (some a0) 12 fun r4 => call (f_X9_slotOf r4 p1) (fun (v1 : Int32) =>
    gR (some a0) 12 12 fun v2 =>
    ldI 0 v2 p1 fun v3 =>
    rtn (v1 + v3)) nox) hs := rfl
theorem u_f_X9_isPlaced (a0 : Nat) (p1 : Int32) (hs : Hs) : f_X9_isPlaced a0 p1 hs = (
    gR (some a0) 12 14 fun v1 =>
    ldI 0 v1 p1 fun v2 =>
    (if v2 < 0 then
    retZ (0 : Int32)
    else
    retZ (1 : Int32))) hs := rfl
theorem u_f_X9_isPast (a0 : Nat) (p1 : Int32) (hs : Hs) : f_X9_isPast a0 p1 hs = (
    rcv (some a0) 12 fun r5 => call (f_X9_isPlaced r5 p1) (fun (v1 : Int32) =>
    (if v1 = 0 then
    retZ (0 : Int32)
    else
    rcv (some a0) 12 fun r4 => call (f_X9_slotOf r4 p1) (fun (v2 : Int32) =>
    dvz (6 : Int32) (
    gI (some a0) 12 26 fun v3 =>
    (if v3 ≤ (v2 / (6 : Int32)) then
    retZ (0 : Int32)
    else
    retZ (1 : Int32)))) nox)) nox) hs := rfl
theorem u_f_X9_endFrom (a0 : Nat) (p1 : Int32) (p2 : Int32) (hs : Hs) : f_X9_endFrom a0 p1 p2 hs = (
    gR (some a0) 12 12 fun v1 =>
    ldI 0 v1 p1 fun v2 =>
    lets (p2 + v2) fun (v3 : Int32) =>
    dvz (6 : Int32) (
    lets (((((6 : Int32) * (p2 / (6 : Int32)))) + (6 : Int32))) fun (v4 : Int32) =>
    (if v4 ≤ v3 then
    rtn v4
    else
    rtn v3))) hs := rfl
theorem u_f_X9_meets (a0 : Nat) (p1 : Int32) (p2 : Int32) (p3 : Int32) (hs : Hs) : f_X9_meets a0 p1 p2 p3 hs = (
    rcv (some a0) 12 fun r4 => call (f_X9_slotOf r4 p1) (fun (v1 : Int32) =>
    (if p3 ≤ v1 then
    retZ (0 : Int32)
    else
    rcv (some a0) 12 fun r3 => call (f_X9_endOf r3 p1) (fun (v2 : Int32) =>
    (if v2 ≤ p2 then
    retZ (0 : Int32)
    else
    retZ (1 : Int32))) nox)) nox) hs := rfl
theorem u_j_X9_touches_35 (hs : Hs) : j_X9_touches_35  hs = (
  retZ (1 : Int32)) hs := rfl
theorem u_f_X9_touches (a0 : Nat) (p1 : Int32) (p2 : Int32) (p3 : Int32) (hs : Hs) : f_X9_touches a0 p1 p2 p3 hs = (
    rcv (some a0) 12 fun r6 => call (f_X9_slotOf r6 p1) (fun (v1 : Int32) =>
    dvz (6 : Int32) (
    dvz (6 : Int32) (
    (if (v1 / (6 : Int32)) = (p2 / (6 : Int32)) then
    rcv (some a0) 12 fun r5 => call (f_X9_endOf r5 p1) (fun (v2 : Int32) =>
    (if v2 = p2 then
    j_X9_touches_35
    else
    rcv (some a0) 12 fun r4 => call (f_X9_slotOf r4 p1) (fun (v3 : Int32) =>
    (if ¬ v3 = p3 then
    retZ (0 : Int32)
    else
    j_X9_touches_35)) nox)) nox
    else
    retZ (0 : Int32))))) nox) hs := rfl
theorem u_j_X9_lettersBy_158 (a0 : Option Nat) (a1 : Int32) (a3 : Int32) (a4 : Int32) (a5 : Int32) (a7 : Int32) (s0 : Int32) (s1 : Int32) (hs : Hs) : j_X9_lettersBy_158 a0 a1 a3 a4 a5 a7 s0 s1 hs = (
  lets (s1 + s0) fun (v13 : Int32) =>
    (if a7 = 0 then
    rtn (v13 + (0 : Int32))
    else
    gR a0 12 0 fun v14 =>
    gR a0 12 14 fun v15 =>
    ldI 0 v15 a1 fun v16 =>
    dvz (8 : Int32) (
    ldI 0 v14 (irem v16 (8 : Int32)) fun v17 =>
    gR a0 12 0 fun v18 =>
    ldI 0 v18 a4 fun v19 =>
    (if v17 = v19 then
    rtn (v13 + (0 : Int32))
    else
    rcv a0 12 fun r21 => call (f_X9_touches r21 a1 a3 a5) (fun (v20 : Int32) =>
    (if v20 = 0 then
    rtn (v13 + (0 : Int32))
    else
    rtn (v13 + (512 : Int32)))) nox)))) hs := rfl
theorem u_j_X9_lettersBy_157 (a0 : Option Nat) (a1 : Int32) (a3 : Int32) (a4 : Int32) (a5 : Int32) (a7 : Int32) (s0 : Int32) (hs : Hs) : j_X9_lettersBy_157 a0 a1 a3 a4 a5 a7 s0 hs = (
  j_X9_lettersBy_158 a0 a1 a3 a4 a5 a7 (0 : Int32) s0) hs := rfl
theorem u_j_X9_lettersBy_126 (a0 : Option Nat) (a1 : Int32) (a2 : Int32) (a3 : Int32) (a4 : Int32) (a5 : Int32) (a6 : Int32) (a7 : Int32) (s0 : Int32) (s1 : Int32) (hs : Hs) : j_X9_lettersBy_126 a0 a1 a2 a3 a4 a5 a6 a7 s0 s1 hs = (
  lets (s1 + s0) fun (v12 : Int32) =>
    (if a6 = 0 then
    j_X9_lettersBy_157 a0 a1 a3 a4 a5 a7 v12
    else
    gR a0 12 9 fun v22 =>
    ldI 0 v22 a1 fun v23 =>
    gR a0 12 9 fun v24 =>
    ldI 0 v24 a2 fun v25 =>
    (if ¬ v23 = v25 then
    j_X9_lettersBy_157 a0 a1 a3 a4 a5 a7 v12
    else
    j_X9_lettersBy_158 a0 a1 a3 a4 a5 a7 (256 : Int32) v12))) hs := rfl
theorem u_j_X9_lettersBy_125 (a0 : Option Nat) (a1 : Int32) (a2 : Int32) (a3 : Int32) (a4 : Int32) (a5 : Int32) (a6 : Int32) (a7 : Int32) (s0 : Int32) (hs : Hs) : j_X9_lettersBy_125 a0 a1 a2 a3 a4 a5 a6 a7 s0 hs = (
  j_X9_lettersBy_126 a0 a1 a2 a3 a4 a5 a6 a7 (0 : Int32) s0) hs := rfl
theorem u_j_X9_lettersBy_95 (a0 : Option Nat) (a1 : Int32) (a2 : Int32) (a3 : Int32) (a4 : Int32) (a5 : Int32) (a6 : Int32) (a7 : Int32) (s0 : Int32) (hs : Hs) : j_X9_lettersBy_95 a0 a1 a2 a3 a4 a5 a6 a7 s0 hs = (
  lets s0 fun (v11 : Int32) =>
    (if a6 = 0 then
    j_X9_lettersBy_125 a0 a1 a2 a3 a4 a5 a6 a7 v11
    else
    gR a0 12 10 fun v26 =>
    ldI 0 v26 a1 fun v27 =>
    gR a0 12 10 fun v28 =>
    ldI 0 v28 a2 fun v29 =>
    (if ¬ v27 = v29 then
    j_X9_lettersBy_125 a0 a1 a2 a3 a4 a5 a6 a7 v11
    else
    j_X9_lettersBy_126 a0 a1 a2 a3 a4 a5 a6 a7 (128 : Int32) v11))) hs := rfl
theorem u_j_X9_lettersBy_94 (a0 : Option Nat) (a1 : Int32) (a2 : Int32) (a3 : Int32) (a4 : Int32) (a5 : Int32) (a6 : Int32) (a7 : Int32) (hs : Hs) : j_X9_lettersBy_94 a0 a1 a2 a3 a4 a5 a6 a7 hs = (
  j_X9_lettersBy_95 a0 a1 a2 a3 a4 a5 a6 a7 (0 : Int32)) hs := rfl
theorem u_j_X9_lettersBy_68 (a0 : Option Nat) (a1 : Int32) (a2 : Int32) (a3 : Int32) (a4 : Int32) (a5 : Int32) (a6 : Int32) (s0 : Int32) (hs : Hs) : j_X9_lettersBy_68 a0 a1 a2 a3 a4 a5 a6 s0 hs = (
  lets s0 fun (v10 : Int32) =>
    (if a6 = 0 then
    j_X9_lettersBy_94 a0 a1 a2 a3 a4 a5 a6 v10
    else
    gR a0 12 14 fun v30 =>
    ldI 0 v30 a1 fun v31 =>
    dvz (8 : Int32) (
    (if ¬ (irem v31 (8 : Int32)) = a4 then
    j_X9_lettersBy_94 a0 a1 a2 a3 a4 a5 a6 v10
    else
    j_X9_lettersBy_95 a0 a1 a2 a3 a4 a5 a6 v10 (64 : Int32))))) hs := rfl
theorem u_j_X9_lettersBy_63 (a0 : Option Nat) (a1 : Int32) (a2 : Int32) (a3 : Int32) (a4 : Int32) (a5 : Int32) (a6 : Int32) (hs : Hs) : j_X9_lettersBy_63 a0 a1 a2 a3 a4 a5 a6 hs = (
  j_X9_lettersBy_68 a0 a1 a2 a3 a4 a5 a6 (1 : Int32)) hs := rfl
theorem u_f_X9_lettersBy (a0 : Nat) (p1 : Int32) (p2 : Int32) (p3 : Int32) (p4 : Int32) (hs : Hs) : f_X9_lettersBy a0 p1 p2 p3 p4 hs = (
    (if p1 = p2 then
    rtn (0 : Int32)
    else
    rcv (some a0) 12 fun r38 => call (f_X9_isPlaced r38 p1) (fun (v1 : Int32) =>
    (if ¬ v1 = 0 then
    rcv (some a0) 12 fun r37 => call (f_X9_endFrom r37 p2 p3) (fun (v2 : Int32) =>
    lets v2 fun (v3 : Int32) =>
    rcv (some a0) 12 fun r36 => call (f_X9_meets r36 p1 p3 v3) (fun (v4 : Int32) =>
    lets v4 fun (v5 : Int32) =>
    gR (some a0) 12 10 fun v6 =>
    ldI 0 v6 p1 fun v7 =>
    gR (some a0) 12 10 fun v8 =>
    ldI 0 v8 p2 fun v9 =>
    (if v7 = v9 then
    j_X9_lettersBy_63 (some a0) p1 p2 p3 p4 v3 v5
    else
    gR (some a0) 12 9 fun v32 =>
    ldI 0 v32 p1 fun v33 =>
    gR (some a0) 12 9 fun v34 =>
    ldI 0 v34 p2 fun v35 =>
    (if ¬ v33 = v35 then
    j_X9_lettersBy_68 (some a0) p1 p2 p3 p4 v3 v5 (0 : Int32)
    else
    j_X9_lettersBy_63 (some a0) p1 p2 p3 p4 v3 v5))) nox) nox
    else
    rtn (0 : Int32))) nox)) hs := rfl
theorem u_j_X9_plainLetters_132 (a0 : Option Nat) (a3 : Int32) (s0 : Int32) (s1 : Int32) (hs : Hs) : j_X9_plainLetters_132 a0 a3 s0 s1 hs = (
  lets (s1 + s0) fun (v23 : Int32) =>
    gR a0 12 7 fun v24 =>
    ldI 1 v24 a3 fun v25 =>
    (if v25 = 0 then
    rtn (v23 + (0 : Int32))
    else
    rtn (v23 + (32 : Int32)))) hs := rfl
theorem u_j_X9_plainLetters_101 (a0 : Option Nat) (a1 : Int32) (a3 : Int32) (s0 : Int32) (s1 : Int32) (hs : Hs) : j_X9_plainLetters_101 a0 a1 a3 s0 s1 hs = (
  lets (s1 + s0) fun (v16 : Int32) =>
    gR a0 12 2 fun v17 =>
    ldI 0 v17 a3 fun v18 =>
    gR a0 12 5 fun v19 =>
    gR a0 12 9 fun v20 =>
    ldI 0 v20 a1 fun v21 =>
    ldI 0 v19 v21 fun v22 =>
    (if v22 ≤ v18 then
    j_X9_plainLetters_132 a0 a3 (0 : Int32) v16
    else
    j_X9_plainLetters_132 a0 a3 (16 : Int32) v16)) hs := rfl
theorem u_j_X9_plainLetters_75 (a0 : Option Nat) (a1 : Int32) (a3 : Int32) (s0 : Int32) (s1 : Int32) (hs : Hs) : j_X9_plainLetters_75 a0 a1 a3 s0 s1 hs = (
  lets (s1 + s0) fun (v11 : Int32) =>
    gR a0 12 1 fun v12 =>
    ldI 0 v12 a3 fun v13 =>
    gR a0 12 11 fun v14 =>
    ldI 0 v14 a1 fun v15 =>
    (if v13 = v15 then
    j_X9_plainLetters_101 a0 a1 a3 (0 : Int32) v11
    else
    j_X9_plainLetters_101 a0 a1 a3 (8 : Int32) v11)) hs := rfl
theorem u_j_X9_plainLetters_45 (a0 : Option Nat) (a1 : Int32) (a3 : Int32) (a4 : Int32) (s0 : Int32) (s1 : Int32) (hs : Hs) : j_X9_plainLetters_45 a0 a1 a3 a4 s0 s1 hs = (
  lets (s1 + s0) fun (v6 : Int32) =>
    gR a0 12 3 fun v7 =>
    gR a0 12 10 fun v8 =>
    ldI 0 v8 a1 fun v9 =>
    ldI 0 v7 v9 fun v10 =>
    dvz (2 : Int32) (
    (if ¬ ((irem (v10 >>> (a4 &&& 31)) (2 : Int32))) = (1 : Int32) then
    j_X9_plainLetters_75 a0 a1 a3 (0 : Int32) v6
    else
    j_X9_plainLetters_75 a0 a1 a3 (4 : Int32) v6))) hs := rfl
theorem u_j_X9_plainLetters_27 (a0 : Option Nat) (a1 : Int32) (a3 : Int32) (a4 : Int32) (s0 : Int32) (hs : Hs) : j_X9_plainLetters_27 a0 a1 a3 a4 s0 hs = (
  lets s0 fun (v4 : Int32) =>
    gI a0 12 26 fun v5 =>
    (if v5 ≤ a4 then
    j_X9_plainLetters_45 a0 a1 a3 a4 (0 : Int32) v4
    else
    j_X9_plainLetters_45 a0 a1 a3 a4 (2 : Int32) v4)) hs := rfl
theorem u_f_X9_plainLetters (a0 : Nat) (p1 : Int32) (p2 : Int32) (p3 : Int32) (hs : Hs) : f_X9_plainLetters a0 p1 p2 p3 hs = (
    dvz (6 : Int32) (
    lets (p2 / (6 : Int32)) fun (v1 : Int32) =>
    dvz (6 : Int32) (
    gR (some a0) 12 12 fun v2 =>
    ldI 0 v2 p1 fun v3 =>
    (if ((irem p2 (6 : Int32)) + v3) ≤ (6 : Int32) then
    j_X9_plainLetters_27 (some a0) p1 p3 v1 (0 : Int32)
    else
    j_X9_plainLetters_27 (some a0) p1 p3 v1 (1 : Int32))))) hs := rfl
theorem u_f_X9_both (p0 : Int32) (p1 : Int32) (hs : Hs) : f_X9_both p0 p1 hs = (
    rtn (p0 ||| p1)) hs := rfl
theorem u_f_X9_letters (a0 : Nat) (p1 : Int32) (p2 : Int32) (p3 : Int32) (hs : Hs) : f_X9_letters a0 p1 p2 p3 hs = (
    rcv (some a0) 12 fun r11 => call (f_X9_plainLetters r11 p1 p2 p3) (fun (v1 : Int32) =>
    lets v1 fun (v2 : Int32) =>
    lets (0 : Int32) fun (v3 : Int32) =>
    L_X9_letters_12 (some a0) p1 p2 p3 (fun (v10 : Int32) => rtn v10) 100000 v2 v3) nox) hs := rfl
theorem u_f_X9_isPossible (a0 : Nat) (p1 : Int32) (p2 : Int32) (hs : Hs) : f_X9_isPossible a0 p1 p2 hs = (
    dvz (8 : Int32) (
    gI (some a0) 12 21 fun v1 =>
    (if v1 ≤ (irem p2 (8 : Int32)) then
    retZ (0 : Int32)
    else
    dvz (8 : Int32) (
    dvz (8 : Int32) (
    rcv (some a0) 12 fun r3 => call (f_X9_letters r3 p1 (p2 / (8 : Int32)) (irem p2 (8 : Int32))) (fun (v2 : Int32) =>
    (if ¬ v2 = 0 then
    retZ (0 : Int32)
    else
    retZ (1 : Int32))) nox))))) hs := rfl
theorem u_j_X9_wrongPlace_27 (hs : Hs) : j_X9_wrongPlace_27  hs = (
  rtn (2 : Int32)) hs := rfl
theorem u_f_X9_wrongPlace (a0 : Nat) (p1 : Int32) (p2 : Int32) (p3 : Int32) (hs : Hs) : f_X9_wrongPlace a0 p1 p2 p3 hs = (
    rcv (some a0) 12 fun r5 => call (f_X9_isLesson r5 p1) (fun (v1 : Int32) =>
    (if ¬ v1 = 0 then
    call (f_X9_isSlot p2) (fun (v2 : Int32) =>
    (if v2 = 0 then
    j_X9_wrongPlace_27
    else
    rcv (some a0) 12 fun r4 => call (f_X9_isRoom r4 p3) (fun (v3 : Int32) =>
    (if ¬ v3 = 0 then
    rtn (0 : Int32)
    else
    j_X9_wrongPlace_27)) nox)) nox
    else
    rtn (1 : Int32))) nox) hs := rfl
theorem u_f_X9_letter (p0 : Int32) (hs : Hs) : f_X9_letter p0 hs = (
    (if (5 : Int32) ≤ p0 then
    (if ¬ p0 = (5 : Int32) then
    (if ¬ p0 = (6 : Int32) then
    (if ¬ p0 = (7 : Int32) then
    (if ¬ p0 = (8 : Int32) then
    retC (118 : Int32)
    else
    retC (103 : Int32))
    else
    retC (116 : Int32))
    else
    retC (114 : Int32))
    else
    retC (99 : Int32))
    else
    (if ¬ p0 = 0 then
    (if ¬ p0 = (1 : Int32) then
    (if ¬ p0 = (2 : Int32) then
    (if ¬ p0 = (3 : Int32) then
    retC (115 : Int32)
    else
    retC (107 : Int32))
    else
    retC (111 : Int32))
    else
    retC (112 : Int32))
    else
    retC (104 : Int32)))) hs := rfl
theorem u_f_X9_reason (a0 : Nat) (p1 : Int32) (p2 : Int32) (p3 : Int32) (hs : Hs) : f_X9_reason a0 p1 p2 p3 hs = (
    rcv (some a0) 12 fun r10 => call (f_X9_wrongPlace r10 p1 p2 p3) (fun (v1 : Int32) =>
    pI (some a0) 12 20 v1 (
    gI (some a0) 12 20 fun v2 =>
    (if v2 ≤ 0 then
    rcv (some a0) 12 fun r9 => call (f_X9_letters r9 p1 p2 p3) (fun (v3 : Int32) =>
    lets v3 fun (v4 : Int32) =>
    lets (0 : Int32) fun (v5 : Int32) =>
    L_X9_reason_33 v4 (fun (v7 : Int32) => call (f_X9_letter v7) (fun (v8 : Int32) =>
    retC v8) nox) (retC (45 : Int32)) 100000 v5) nox
    else
    retC (32 : Int32)))) nox) hs := rfl
theorem u_L_X9_letters_12 (a0 : Option Nat) (a1 : Int32) (a2 : Int32) (a3 : Int32) (k_12_43 : Int32 → OO Int32) (n : Nat) (x4 : Int32) (x5 : Int32) (hs : Hs) : L_X9_letters_12 a0 a1 a2 a3 k_12_43 (n + 1) x4 x5 hs = (
    gI a0 12 24 fun v4 =>
    (if v4 ≤ x5 then
    k_12_43 x4
    else
    rcv a0 12 fun r9 => call (f_X9_lettersBy r9 x5 a1 a2 a3) (fun (v5 : Int32) =>
    call (f_X9_both x4 v5) (fun (v6 : Int32) =>
    lets v6 fun (v7 : Int32) =>
    lets (x5 + (1 : Int32)) fun (v8 : Int32) =>
    (L_X9_letters_12 a0 a1 a2 a3 k_12_43 n) v7 v8) nox) nox)) hs := rfl
theorem u_L_X9_reason_33 (a4 : Int32) (k_33_51 : Int32 → OO Int32) (k_33_63 : OO Int32) (n : Nat) (x5 : Int32) (hs : Hs) : L_X9_reason_33 a4 k_33_51 k_33_63 (n + 1) x5 hs = (
    (if (10 : Int32) ≤ x5 then
    k_33_63
    else
    dvz (2 : Int32) (
    (if ¬ ((irem (a4 >>> (x5 &&& 31)) (2 : Int32))) = (1 : Int32) then
    lets (x5 + (1 : Int32)) fun (v6 : Int32) =>
    (L_X9_reason_33 a4 k_33_51 k_33_63 n) v6
    else
    k_33_51 x5)))) hs := rfl
theorem u_f_X9_manyBits (p0 : Int32) (hs : Hs) : f_X9_manyBits p0 hs = (
    lets (0 : Int32) fun (v1 : Int32) =>
    lets p0 fun (v2 : Int32) =>
    L_X9_manyBits_4 (fun (v5 : Int32) => rtn v5) 100000 v1 v2) hs := rfl
theorem u_f_X9_barsAll (a0 : Nat) (p1 : Int32) (p2 : Int32) (p3 : Int32) (hs : Hs) : f_X9_barsAll a0 p1 p2 p3 hs = (
    lets (0 : Int32) fun (v1 : Int32) =>
    L_X9_barsAll_3 (some a0) p1 p2 p3 (retZ (0 : Int32)) (retZ (1 : Int32)) 100000 v1) hs := rfl
theorem u_f_X9_isOpenAt (a0 : Nat) (p1 : Int32) (p2 : Int32) (hs : Hs) : f_X9_isOpenAt a0 p1 p2 hs = (
    lets (0 : Int32) fun (v1 : Int32) =>
    L_X9_isOpenAt_2 (some a0) p1 p2 (retZ (1 : Int32)) (retZ (0 : Int32)) 100000 v1) hs := rfl
theorem u_j_X9_reasons_90 (a0 : Option Nat) (a1 : Int32) (a2 : Int32) (a3 : Int32) (a4 : Int32)  (rec_59 : Int32 → Int32 → OO Int32) (hs : Hs) : j_X9_reasons_90 a0 a1 a2 a3 a4 rec_59 hs = (
  lets (a4 + (-1 : Int32)) fun (v8 : Int32) =>
    rec_59 a3 v8) hs := rfl
theorem u_j_X9_reasons_38 (a0 : Option Nat) (a1 : Int32) (a2 : Int32) (s0 : Int32) (s1 : Option Nat) (hs : Hs) : j_X9_reasons_38 a0 a1 a2 s0 s1 hs = (
  pI s1 12 20 s0 (
    gI a0 12 20 fun v4 =>
    (if v4 ≤ 0 then
    lets (1023 : Int32) fun (v5 : Int32) =>
    lets (1022 : Int32) fun (v6 : Int32) =>
    L_X9_reasons_59 a0 a1 a2 (fun (v13 : Int32) => rtn v13) 100000 v5 v6
    else
    rtn (0 : Int32)))) hs := rfl
theorem u_f_X9_reasons (a0 : Nat) (p1 : Int32) (p2 : Int32) (hs : Hs) : f_X9_reasons a0 p1 p2 hs = (
    rcv (some a0) 12 fun r15 => call (f_X9_isLesson r15 p1) (fun (v1 : Int32) =>
    (if ¬ v1 = 0 then
    call (f_X9_isSlot p2) (fun (v2 : Int32) =>
    (if ¬ v2 = 0 then
    rcv (some a0) 12 fun r14 => call (f_X9_isOpenAt r14 p1 p2) (fun (v3 : Int32) =>
    (if v3 = 0 then
    j_X9_reasons_38 (some a0) p1 p2 (0 : Int32) (some a0)
    else
    j_X9_reasons_38 (some a0) p1 p2 (3 : Int32) (some a0))) nox
    else
    j_X9_reasons_38 (some a0) p1 p2 (2 : Int32) (some a0))) nox
    else
    j_X9_reasons_38 (some a0) p1 p2 (1 : Int32) (some a0))) nox) hs := rfl
theorem u_f_X9_hasAt (a0 : Nat) (p1 : Int32) (p2 : Int32) (hs : Hs) : f_X9_hasAt a0 p1 p2 hs = (
    rcv (some a0) 12 fun r7 => call (f_X9_isPlaced r7 p1) (fun (v1 : Int32) =>
    (if v1 = 0 then
    retZ (0 : Int32)
    else
    rcv (some a0) 12 fun r6 => call (f_X9_slotOf r6 p1) (fun (v2 : Int32) =>
    rcv (some a0) 12 fun r5 => call (f_X9_endOf r5 p1) (fun (v3 : Int32) =>
    call (f_X9_in p2 v2 (v3 - (1 : Int32))) (fun (v4 : Int32) =>
    (if v4 = 0 then
    retZ (0 : Int32)
    else
    retZ (1 : Int32))) nox) nox) nox)) nox) hs := rfl
theorem u_j_X9_isBusy_31 (a0 : Option Nat) (a1 : Int32) (a2 : Int32) (a3 : Int32)  (rec_2 : Int32 → OO Int32) (hs : Hs) : j_X9_isBusy_31 a0 a1 a2 a3 rec_2 hs = (
  lets (a3 + (1 : Int32)) fun (v5 : Int32) =>
    rec_2 v5) hs := rfl
theorem u_f_X9_isBusy (a0 : Nat) (p1 : Int32) (p2 : Int32) (hs : Hs) : f_X9_isBusy a0 p1 p2 hs = (
    lets (0 : Int32) fun (v1 : Int32) =>
    L_X9_isBusy_2 (some a0) p1 p2 (retZ (1 : Int32)) (retZ (0 : Int32)) 100000 v1) hs := rfl
theorem u_j_X9_gapsOn_61 (a0 : Option Nat) (a1 : Int32) (a2 : Int32) (a3 : Int32) (a4 : Int32) (a5 : Int32)  (rec_11 : Int32 → Int32 → Int32 → OO Int32) (hs : Hs) : j_X9_gapsOn_61 a0 a1 a2 a3 a4 a5 rec_11 hs = (
  lets (a5 + (1 : Int32)) fun (v5 : Int32) =>
    rec_11 a3 a4 v5) hs := rfl
theorem u_j_X9_gapsOn_45 (a0 : Option Nat) (a1 : Int32) (a2 : Int32) (a5 : Int32) (s0 : Int32) (s1 : Int32) (rec_11 : Int32 → Int32 → Int32 → OO Int32) (hs : Hs) : j_X9_gapsOn_45 a0 a1 a2 a5 s0 s1 rec_11 hs = (
  lets (s1 + s0) fun (v7 : Int32) =>
    lets (0 : Int32) fun (v8 : Int32) =>
    j_X9_gapsOn_61 a0 a1 a2 v7 v8 a5 rec_11) hs := rfl
theorem u_f_X9_gapsOn (a0 : Nat) (p1 : Int32) (p2 : Int32) (hs : Hs) : f_X9_gapsOn a0 p1 p2 hs = (
    lets (0 : Int32) fun (v1 : Int32) =>
    lets (-1 : Int32) fun (v2 : Int32) =>
    lets ((6 : Int32) * p2) fun (v3 : Int32) =>
    L_X9_gapsOn_11 (some a0) p1 p2 (fun (v10 : Int32) => rtn v10) 100000 v1 v2 v3) hs := rfl
theorem u_f_X9_isLate (a0 : Nat) (p1 : Int32) (hs : Hs) : f_X9_isLate a0 p1 hs = (
    rcv (some a0) 12 fun r4 => call (f_X9_isPlaced r4 p1) (fun (v1 : Int32) =>
    (if v1 = 0 then
    retZ (0 : Int32)
    else
    rcv (some a0) 12 fun r3 => call (f_X9_endOf r3 p1) (fun (v2 : Int32) =>
    dvz (6 : Int32) (
    (if ¬ (irem v2 (6 : Int32)) = 0 then
    retZ (0 : Int32)
    else
    retZ (1 : Int32)))) nox)) nox) hs := rfl
theorem u_f_X9_isCrowd (a0 : Nat) (p1 : Int32) (p2 : Int32) (hs : Hs) : f_X9_isCrowd a0 p1 p2 hs = (
    rcv (some a0) 12 fun r16 => call (f_X9_isPlaced r16 p1) (fun (v1 : Int32) =>
    (if v1 = 0 then
    retZ (0 : Int32)
    else
    rcv (some a0) 12 fun r15 => call (f_X9_isPlaced r15 p2) (fun (v2 : Int32) =>
    (if v2 = 0 then
    retZ (0 : Int32)
    else
    gR (some a0) 12 9 fun v3 =>
    ldI 0 v3 p1 fun v4 =>
    gR (some a0) 12 9 fun v5 =>
    ldI 0 v5 p2 fun v6 =>
    (if ¬ v4 = v6 then
    retZ (0 : Int32)
    else
    gR (some a0) 12 13 fun v7 =>
    ldI 0 v7 p1 fun v8 =>
    gR (some a0) 12 13 fun v9 =>
    ldI 0 v9 p2 fun v10 =>
    (if ¬ v8 = v10 then
    retZ (0 : Int32)
    else
    rcv (some a0) 12 fun r14 => call (f_X9_slotOf r14 p1) (fun (v11 : Int32) =>
    dvz (6 : Int32) (
    rcv (some a0) 12 fun r13 => call (f_X9_slotOf r13 p2) (fun (v12 : Int32) =>
    dvz (6 : Int32) (
    (if ¬ (v11 / (6 : Int32)) = (v12 / (6 : Int32)) then
    retZ (0 : Int32)
    else
    retZ (1 : Int32)))) nox)) nox)))) nox)) nox) hs := rfl
theorem u_j_X9_amountOf_78 (a0 : Option Nat) (a1 : Int32) (a3 : Int32) (s0 : Int32) (s1 : Int32) (rec_39 : Int32 → Int32 → OO Int32) (hs : Hs) : j_X9_amountOf_78 a0 a1 a3 s0 s1 rec_39 hs = (
  lets (s1 + s0) fun (v12 : Int32) =>
    lets (a3 + (1 : Int32)) fun (v13 : Int32) =>
    rec_39 v12 v13) hs := rfl
theorem u_j_X9_amountOf_155 (a0 : Option Nat) (a1 : Int32) (a2 : Int32) (a3 : Int32)  (rec_88 : Int32 → Int32 → OO Int32) (hs : Hs) : j_X9_amountOf_155 a0 a1 a2 a3 rec_88 hs = (
  lets (a3 + (1 : Int32)) fun (v36 : Int32) =>
    rec_88 a2 v36) hs := rfl
theorem u_j_X9_amountOf_201 (a0 : Option Nat) (a1 : Int32) (a3 : Int32) (a4 : Int32) (s0 : Int32) (s1 : Int32) (rec_179 : Int32 → Int32 → OO Int32) (hs : Hs) : j_X9_amountOf_201 a0 a1 a3 a4 s0 s1 rec_179 hs = (
  lets (s1 + s0) fun (v42 : Int32) =>
    lets (a4 + (1 : Int32)) fun (v43 : Int32) =>
    rec_179 v42 v43) hs := rfl
theorem u_j_X9_amountOf_161 (a0 : Option Nat) (a1 : Int32) (a2 : Int32) (hs : Hs) : j_X9_amountOf_161 a0 a1 a2 hs = (
  lets (0 : Int32) fun (v38 : Int32) =>
    L_X9_amountOf_163 a0 a1 (fun (v47 : Int32) => rtn v47) 100000 a2 v38) hs := rfl
theorem u_j_X9_amountOf_86 (a0 : Option Nat) (a1 : Int32) (a2 : Int32) (hs : Hs) : j_X9_amountOf_86 a0 a1 a2 hs = (
  lets (0 : Int32) fun (v20 : Int32) =>
    L_X9_amountOf_88 a0 a1 (fun (v37 : Int32) => j_X9_amountOf_161 a0 a1 v37) 100000 a2 v20) hs := rfl
theorem u_j_X9_amountOf_37 (a0 : Option Nat) (a1 : Int32) (a2 : Int32) (hs : Hs) : j_X9_amountOf_37 a0 a1 a2 hs = (
  lets (0 : Int32) fun (v9 : Int32) =>
    L_X9_amountOf_39 a0 a1 (fun (v19 : Int32) => j_X9_amountOf_86 a0 a1 v19) 100000 a2 v9) hs := rfl
theorem u_f_X9_amountOf (a0 : Nat) (p1 : Int32) (hs : Hs) : f_X9_amountOf a0 p1 hs = (
    lets (0 : Int32) fun (v1 : Int32) =>
    lets (0 : Int32) fun (v2 : Int32) =>
    L_X9_amountOf_4 (some a0) p1 (fun (v8 : Int32) => j_X9_amountOf_37 (some a0) p1 v8) 100000 v1 v2) hs := rfl
theorem u_j_X9_costNow_35 (a0 : Option Nat) (a2 : Int32) (s0 : Int32) (s1 : Int32) (rec_4 : Int32 → Int32 → OO Int32) (hs : Hs) : j_X9_costNow_35 a0 a2 s0 s1 rec_4 hs = (
  lets (s1 + s0) fun (v5 : Int32) =>
    lets (a2 + (1 : Int32)) fun (v6 : Int32) =>
    rec_4 v5 v6) hs := rfl
theorem u_f_X9_costNow (a0 : Nat) (hs : Hs) : f_X9_costNow a0 hs = (
    lets (0 : Int32) fun (v1 : Int32) =>
    lets (0 : Int32) fun (v2 : Int32) =>
    L_X9_costNow_4 (some a0) (fun (v11 : Int32) => rtn v11) 100000 v1 v2) hs := rfl
theorem u_f_X9_costAt (a0 : Nat) (p1 : Int32) (p2 : Int32) (hs : Hs) : f_X9_costAt a0 p1 p2 hs = (
    gR (some a0) 12 14 fun v1 =>
    ldI 0 v1 p1 fun v2 =>
    lets v2 fun (v3 : Int32) =>
    gR (some a0) 12 14 fun v4 =>
    stI v4 p1 p2 (
    rcv (some a0) 12 fun r8 => call (f_X9_costNow r8 ) (fun (v5 : Int32) =>
    lets v5 fun (v6 : Int32) =>
    gR (some a0) 12 14 fun v7 =>
    stI v7 p1 v3 (
    rtn v6)) nox)) hs := rfl
theorem u_L_X9_manyBits_4  (k_4_21 : Int32 → OO Int32) (n : Nat) (x1 : Int32) (x2 : Int32) (hs : Hs) : L_X9_manyBits_4 k_4_21 (n + 1) x1 x2 hs = (
    (if x2 ≤ 0 then
    k_4_21 x1
    else
    dvz (2 : Int32) (
    lets (x1 + (irem x2 (2 : Int32))) fun (v3 : Int32) =>
    dvz (2 : Int32) (
    lets (x2 / (2 : Int32)) fun (v4 : Int32) =>
    (L_X9_manyBits_4 k_4_21 n) v3 v4)))) hs := rfl
theorem u_L_X9_barsAll_3 (a0 : Option Nat) (a1 : Int32) (a2 : Int32) (a3 : Int32) (k_3_25 : OO Int32) (k_3_33 : OO Int32) (n : Nat) (x4 : Int32) (hs : Hs) : L_X9_barsAll_3 a0 a1 a2 a3 k_3_25 k_3_33 (n + 1) x4 hs = (
    gI a0 12 21 fun v2 =>
    (if v2 ≤ x4 then
    k_3_33
    else
    rcv a0 12 fun r5 => call (f_X9_letters r5 a2 a3 x4) (fun (v3 : Int32) =>
    (if ¬ (v3 &&& a1) = 0 then
    lets (x4 + (1 : Int32)) fun (v4 : Int32) =>
    (L_X9_barsAll_3 a0 a1 a2 a3 k_3_25 k_3_33 n) v4
    else
    k_3_25)) nox)) hs := rfl
theorem u_L_X9_isOpenAt_2 (a0 : Option Nat) (a1 : Int32) (a2 : Int32) (k_2_20 : OO Int32) (k_2_28 : OO Int32) (n : Nat) (x3 : Int32) (hs : Hs) : L_X9_isOpenAt_2 a0 a1 a2 k_2_20 k_2_28 (n + 1) x3 hs = (
    gI a0 12 21 fun v2 =>
    (if v2 ≤ x3 then
    k_2_28
    else
    rcv a0 12 fun r5 => call (f_X9_letters r5 a1 a2 x3) (fun (v3 : Int32) =>
    (if ¬ v3 = 0 then
    lets (x3 + (1 : Int32)) fun (v4 : Int32) =>
    (L_X9_isOpenAt_2 a0 a1 a2 k_2_20 k_2_28 n) v4
    else
    k_2_20)) nox)) hs := rfl
theorem u_L_X9_reasons_59 (a0 : Option Nat) (a1 : Int32) (a2 : Int32) (k_59_96 : Int32 → OO Int32) (n : Nat) (x3 : Int32) (x4 : Int32) (hs : Hs) : L_X9_reasons_59 a0 a1 a2 k_59_96 (n + 1) x3 x4 hs = (
    (if x4 < 0 then
    k_59_96 x3
    else
    rcv a0 12 fun r12 => call (f_X9_barsAll r12 x4 a1 a2) (fun (v7 : Int32) =>
    (if v7 = 0 then
    j_X9_reasons_90 a0 a1 a2 x3 x4 (L_X9_reasons_59 a0 a1 a2 k_59_96 n)
    else
    call (f_X9_manyBits x4) (fun (v9 : Int32) =>
    call (f_X9_manyBits x3) (fun (v10 : Int32) =>
    (if v10 < v9 then
    j_X9_reasons_90 a0 a1 a2 x3 x4 (L_X9_reasons_59 a0 a1 a2 k_59_96 n)
    else
    lets x4 fun (v11 : Int32) =>
    j_X9_reasons_90 a0 a1 a2 v11 x4 (L_X9_reasons_59 a0 a1 a2 k_59_96 n))) nox) nox)) nox)) hs := rfl
theorem u_L_X9_isBusy_2 (a0 : Option Nat) (a1 : Int32) (a2 : Int32) (k_2_29 : OO Int32) (k_2_37 : OO Int32) (n : Nat) (x3 : Int32) (hs : Hs) : L_X9_isBusy_2 a0 a1 a2 k_2_29 k_2_37 (n + 1) x3 hs = (
    gI a0 12 24 fun v2 =>
    (if v2 ≤ x3 then
    k_2_37
    else
    gR a0 12 9 fun v3 =>
    ldI 0 v3 x3 fun v4 =>
    (if ¬ v4 = a1 then
    j_X9_isBusy_31 a0 a1 a2 x3 (L_X9_isBusy_2 a0 a1 a2 k_2_29 k_2_37 n)
    else
    rcv a0 12 fun r7 => call (f_X9_hasAt r7 x3 a2) (fun (v6 : Int32) =>
    (if v6 = 0 then
    j_X9_isBusy_31 a0 a1 a2 x3 (L_X9_isBusy_2 a0 a1 a2 k_2_29 k_2_37 n)
    else
    k_2_29)) nox))) hs := rfl
theorem u_L_X9_gapsOn_11 (a0 : Option Nat) (a1 : Int32) (a2 : Int32) (k_11_67 : Int32 → OO Int32) (n : Nat) (x3 : Int32) (x4 : Int32) (x5 : Int32) (hs : Hs) : L_X9_gapsOn_11 a0 a1 a2 k_11_67 (n + 1) x3 x4 x5 hs = (
    (if ((((6 : Int32) * a2) + (6 : Int32))) ≤ x5 then
    k_11_67 x3
    else
    rcv a0 12 fun r9 => call (f_X9_isBusy r9 a1 x5) (fun (v4 : Int32) =>
    (if v4 = 0 then
    (if x4 < 0 then
    j_X9_gapsOn_61 a0 a1 a2 x3 x4 x5 (L_X9_gapsOn_11 a0 a1 a2 k_11_67 n)
    else
    lets (x4 + (1 : Int32)) fun (v6 : Int32) =>
    j_X9_gapsOn_61 a0 a1 a2 x3 v6 x5 (L_X9_gapsOn_11 a0 a1 a2 k_11_67 n))
    else
    (if x4 ≤ 0 then
    j_X9_gapsOn_45 a0 a1 a2 x5 (0 : Int32) x3 (L_X9_gapsOn_11 a0 a1 a2 k_11_67 n)
    else
    j_X9_gapsOn_45 a0 a1 a2 x5 x4 x3 (L_X9_gapsOn_11 a0 a1 a2 k_11_67 n)))) nox)) hs := rfl
theorem u_L_X9_amountOf_4 (a0 : Option Nat) (a1 : Int32) (k_4_37 : Int32 → OO Int32) (n : Nat) (x2 : Int32) (x3 : Int32) (hs : Hs) : L_X9_amountOf_4 a0 a1 k_4_37 (n + 1) x2 x3 hs = (
    (if ¬ a1 = 0 then
    k_4_37 x2
    else
    gI a0 12 23 fun v3 =>
    (if (v3 * (5 : Int32)) ≤ x3 then
    k_4_37 x2
    else
    dvz (5 : Int32) (
    dvz (5 : Int32) (
    rcv a0 12 fun r7 => call (f_X9_gapsOn r7 (x3 / (5 : Int32)) (irem x3 (5 : Int32))) (fun (v4 : Int32) =>
    lets (x2 + v4) fun (v5 : Int32) =>
    lets (x3 + (1 : Int32)) fun (v6 : Int32) =>
    (L_X9_amountOf_4 a0 a1 k_4_37 n) v5 v6) nox))))) hs := rfl
theorem u_L_X9_amountOf_39 (a0 : Option Nat) (a1 : Int32) (k_39_86 : Int32 → OO Int32) (n : Nat) (x2 : Int32) (x3 : Int32) (hs : Hs) : L_X9_amountOf_39 a0 a1 k_39_86 (n + 1) x2 x3 hs = (
    (if ¬ a1 = (1 : Int32) then
    k_39_86 x2
    else
    gI a0 12 24 fun v10 =>
    (if v10 ≤ x3 then
    k_39_86 x2
    else
    rcv a0 12 fun r18 => call (f_X9_isLate r18 x3) (fun (v11 : Int32) =>
    (if v11 = 0 then
    j_X9_amountOf_78 a0 a1 x3 (0 : Int32) x2 (L_X9_amountOf_39 a0 a1 k_39_86 n)
    else
    gR a0 12 4 fun v14 =>
    gR a0 12 10 fun v15 =>
    ldI 0 v15 x3 fun v16 =>
    ldI 0 v14 v16 fun v17 =>
    j_X9_amountOf_78 a0 a1 x3 ((1 : Int32) + v17) x2 (L_X9_amountOf_39 a0 a1 k_39_86 n))) nox))) hs := rfl
theorem u_L_X9_amountOf_104 (a0 : Option Nat) (a1 : Int32) (a3 : Int32) (k_104_155 : Int32 → OO Int32) (n : Nat) (x2 : Int32) (x4 : Int32) (hs : Hs) : L_X9_amountOf_104 a0 a1 a3 k_104_155 (n + 1) x2 x4 hs = (
    gR a0 12 12 fun v23 =>
    ldI 0 v23 a3 fun v24 =>
    (if v24 ≤ x4 then
    k_104_155 x2
    else
    rcv a0 12 fun r34 => call (f_X9_isPlaced r34 a3) (fun (v25 : Int32) =>
    (if v25 = 0 then
    k_104_155 x2
    else
    gR a0 12 6 fun v26 =>
    gR a0 12 10 fun v27 =>
    ldI 0 v27 a3 fun v28 =>
    rcv a0 12 fun r33 => call (f_X9_slotOf r33 a3) (fun (v29 : Int32) =>
    ldI 0 v26 ((((30 : Int32) * v28) + v29) + x4) fun v30 =>
    lets (x2 + v30) fun (v31 : Int32) =>
    lets (x4 + (1 : Int32)) fun (v32 : Int32) =>
    (L_X9_amountOf_104 a0 a1 a3 k_104_155 n) v31 v32) nox)) nox)) hs := rfl
theorem u_L_X9_amountOf_88 (a0 : Option Nat) (a1 : Int32) (k_88_161 : Int32 → OO Int32) (n : Nat) (x2 : Int32) (x3 : Int32) (hs : Hs) : L_X9_amountOf_88 a0 a1 k_88_161 (n + 1) x2 x3 hs = (
    (if ¬ a1 = (2 : Int32) then
    k_88_161 x2
    else
    gI a0 12 24 fun v21 =>
    (if v21 ≤ x3 then
    k_88_161 x2
    else
    lets (0 : Int32) fun (v22 : Int32) =>
    L_X9_amountOf_104 a0 a1 x3 (fun (v35 : Int32) => j_X9_amountOf_155 a0 a1 v35 x3 (L_X9_amountOf_88 a0 a1 k_88_161 n)) 100000 x2 v22))) hs := rfl
theorem u_L_X9_amountOf_179 (a0 : Option Nat) (a1 : Int32) (a3 : Int32) (k_179_209 : Int32 → OO Int32) (n : Nat) (x2 : Int32) (x4 : Int32) (hs : Hs) : L_X9_amountOf_179 a0 a1 a3 k_179_209 (n + 1) x2 x4 hs = (
    (if a3 ≤ x4 then
    k_179_209 x2
    else
    rcv a0 12 fun r44 => call (f_X9_isCrowd r44 a3 x4) (fun (v41 : Int32) =>
    (if v41 = 0 then
    j_X9_amountOf_201 a0 a1 a3 x4 (0 : Int32) x2 (L_X9_amountOf_179 a0 a1 a3 k_179_209 n)
    else
    j_X9_amountOf_201 a0 a1 a3 x4 (1 : Int32) x2 (L_X9_amountOf_179 a0 a1 a3 k_179_209 n))) nox)) hs := rfl
theorem u_L_X9_amountOf_163 (a0 : Option Nat) (a1 : Int32) (k_163_215 : Int32 → OO Int32) (n : Nat) (x2 : Int32) (x3 : Int32) (hs : Hs) : L_X9_amountOf_163 a0 a1 k_163_215 (n + 1) x2 x3 hs = (
    (if ¬ a1 = (3 : Int32) then
    k_163_215 x2
    else
    gI a0 12 24 fun v39 =>
    (if v39 ≤ x3 then
    k_163_215 x2
    else
    lets (0 : Int32) fun (v40 : Int32) =>
    L_X9_amountOf_179 a0 a1 x3 (fun (v45 : Int32) => lets (x3 + (1 : Int32)) fun (v46 : Int32) =>
    (L_X9_amountOf_163 a0 a1 k_163_215 n) v45 v46) 100000 x2 v40))) hs := rfl
theorem u_L_X9_costNow_4 (a0 : Option Nat) (k_4_43 : Int32 → OO Int32) (n : Nat) (x1 : Int32) (x2 : Int32) (hs : Hs) : L_X9_costNow_4 a0 k_4_43 (n + 1) x1 x2 hs = (
    (if (4 : Int32) ≤ x2 then
    k_4_43 x1
    else
    gR a0 12 15 fun v3 =>
    ldI 0 v3 x2 fun v4 =>
    (if v4 ≤ 0 then
    j_X9_costNow_35 a0 x2 (0 : Int32) x1 (L_X9_costNow_4 a0 k_4_43 n)
    else
    gR a0 12 15 fun v7 =>
    ldI 0 v7 x2 fun v8 =>
    rcv a0 12 fun r10 => call (f_X9_amountOf r10 x2) (fun (v9 : Int32) =>
    j_X9_costNow_35 a0 x2 (v8 * v9) x1 (L_X9_costNow_4 a0 k_4_43 n)) nox))) hs := rfl
theorem u_j_X9_manyPossible_26 (a0 : Option Nat) (a1 : Int32) (a3 : Int32) (s0 : Int32) (s1 : Int32) (rec_4 : Int32 → Int32 → OO Int32) (hs : Hs) : j_X9_manyPossible_26 a0 a1 a3 s0 s1 rec_4 hs = (
  lets (s1 + s0) fun (v4 : Int32) =>
    lets (a3 + (1 : Int32)) fun (v5 : Int32) =>
    rec_4 v4 v5) hs := rfl
theorem u_f_X9_manyPossible (a0 : Nat) (p1 : Int32) (hs : Hs) : f_X9_manyPossible a0 p1 hs = (
    lets (0 : Int32) fun (v1 : Int32) =>
    lets (0 : Int32) fun (v2 : Int32) =>
    L_X9_manyPossible_4 (some a0) p1 (fun (v7 : Int32) => rtn v7) 100000 v1 v2) hs := rfl
theorem u_j_X9_cheapestOf_56 (a0 : Option Nat) (a1 : Int32) (a2 : Int32) (a3 : Int32) (a4 : Int32)  (rec_7 : Int32 → Int32 → Int32 → OO Int32) (hs : Hs) : j_X9_cheapestOf_56 a0 a1 a2 a3 a4 rec_7 hs = (
  lets (a4 + (1 : Int32)) fun (v9 : Int32) =>
    rec_7 a2 a3 v9) hs := rfl
theorem u_j_X9_cheapestOf_50 (a0 : Option Nat) (a1 : Int32) (a4 : Int32) (a5 : Int32)  (rec_7 : Int32 → Int32 → Int32 → OO Int32) (hs : Hs) : j_X9_cheapestOf_50 a0 a1 a4 a5 rec_7 hs = (
  lets a4 fun (v7 : Int32) =>
    lets a5 fun (v8 : Int32) =>
    j_X9_cheapestOf_56 a0 a1 v7 v8 a4 rec_7) hs := rfl
theorem u_f_X9_cheapestOf (a0 : Nat) (p1 : Int32) (hs : Hs) : f_X9_cheapestOf a0 p1 hs = (
    lets (-1 : Int32) fun (v1 : Int32) =>
    lets (0 : Int32) fun (v2 : Int32) =>
    lets (0 : Int32) fun (v3 : Int32) =>
    L_X9_cheapestOf_7 (some a0) p1 (fun (v12 : Int32) => rtn v12) 100000 v1 v2 v3) hs := rfl
theorem u_j_X9_hardestOf_53 (a0 : Option Nat) (a1 : Option Nat) (a2 : Int32) (a3 : Int32) (a4 : Int32)  (rec_7 : Int32 → Int32 → Int32 → OO Int32) (hs : Hs) : j_X9_hardestOf_53 a0 a1 a2 a3 a4 rec_7 hs = (
  lets (a4 + (1 : Int32)) fun (v10 : Int32) =>
    rec_7 a2 a3 v10) hs := rfl
theorem u_j_X9_hardestOf_47 (a0 : Option Nat) (a1 : Option Nat) (a4 : Int32) (a5 : Int32)  (rec_7 : Int32 → Int32 → Int32 → OO Int32) (hs : Hs) : j_X9_hardestOf_47 a0 a1 a4 a5 rec_7 hs = (
  lets a4 fun (v8 : Int32) =>
    lets a5 fun (v9 : Int32) =>
    j_X9_hardestOf_53 a0 a1 v8 v9 a4 rec_7) hs := rfl
theorem u_f_X9_hardestOf (a0 : Nat) (p1 : Option Nat) (hs : Hs) : f_X9_hardestOf a0 p1 hs = (
    lets (-1 : Int32) fun (v1 : Int32) =>
    lets (0 : Int32) fun (v2 : Int32) =>
    lets (0 : Int32) fun (v3 : Int32) =>
    L_X9_hardestOf_7 (some a0) p1 (fun (v12 : Int32) => rtn v12) 100000 v1 v2 v3) hs := rfl
theorem u_j_X9_place_58 (a0 : Option Nat) (a1 : Int32) (a2 : Int32) (a3 : Int32) (hs : Hs) : j_X9_place_58 a0 a1 a2 a3 hs = (
  gI a0 12 20 fun v3 =>
    (if v3 ≤ 0 then
    gR a0 12 14 fun v4 =>
    stI v4 a1 (((8 : Int32) * a2) + a3) (
    rcv a0 12 fun r6 => call (f_X9_costNow r6 ) (fun (v5 : Int32) =>
    rtn v5) nox)
    else
    rtn (0 : Int32))) hs := rfl
theorem u_j_X9_place_55 (a0 : Option Nat) (a1 : Int32) (a2 : Int32) (a3 : Int32) (s0 : Int32) (s1 : Option Nat) (hs : Hs) : j_X9_place_55 a0 a1 a2 a3 s0 s1 hs = (
  pI s1 12 20 s0 (
    j_X9_place_58 a0 a1 a2 a3)) hs := rfl
theorem u_j_X9_place_36 (a0 : Option Nat) (a1 : Int32) (a2 : Int32) (a3 : Int32) (s0 : Option Nat) (hs : Hs) : j_X9_place_36 a0 a1 a2 a3 s0 hs = (
  j_X9_place_55 a0 a1 a2 a3 (3 : Int32) s0) hs := rfl
theorem u_f_X9_place (a0 : Nat) (p1 : Int32) (p2 : Int32) (p3 : Int32) (hs : Hs) : f_X9_place a0 p1 p2 p3 hs = (
    rcv (some a0) 12 fun r13 => call (f_X9_wrongPlace r13 p1 p2 p3) (fun (v1 : Int32) =>
    pI (some a0) 12 20 v1 (
    gI (some a0) 12 20 fun v2 =>
    (if ¬ v2 = 0 then
    j_X9_place_58 (some a0) p1 p2 p3
    else
    gR (some a0) 12 8 fun v7 =>
    ldI 1 v7 p1 fun v8 =>
    (if ¬ v8 = 0 then
    j_X9_place_36 (some a0) p1 p2 p3 (some a0)
    else
    rcv (some a0) 12 fun r12 => call (f_X9_isPast r12 p1) (fun (v9 : Int32) =>
    (if v9 = 0 then
    rcv (some a0) 12 fun r11 => call (f_X9_letters r11 p1 p2 p3) (fun (v10 : Int32) =>
    (if v10 ≤ 0 then
    j_X9_place_55 (some a0) p1 p2 p3 (0 : Int32) (some a0)
    else
    j_X9_place_55 (some a0) p1 p2 p3 (4 : Int32) (some a0))) nox
    else
    j_X9_place_36 (some a0) p1 p2 p3 (some a0))) nox)))) nox) hs := rfl
theorem u_j_X9_wrongFree_37 (hs : Hs) : j_X9_wrongFree_37  hs = (
  rtn (2 : Int32)) hs := rfl
theorem u_f_X9_wrongFree (a0 : Nat) (p1 : Int32) (hs : Hs) : f_X9_wrongFree a0 p1 hs = (
    rcv (some a0) 12 fun r8 => call (f_X9_isLesson r8 p1) (fun (v1 : Int32) =>
    (if ¬ v1 = 0 then
    rcv (some a0) 12 fun r7 => call (f_X9_isPlaced r7 p1) (fun (v2 : Int32) =>
    (if v2 = 0 then
    j_X9_wrongFree_37
    else
    gR (some a0) 12 8 fun v3 =>
    ldI 1 v3 p1 fun v4 =>
    (if ¬ v4 = 0 then
    j_X9_wrongFree_37
    else
    rcv (some a0) 12 fun r6 => call (f_X9_isPast r6 p1) (fun (v5 : Int32) =>
    (if v5 = 0 then
    rtn (0 : Int32)
    else
    j_X9_wrongFree_37)) nox))) nox
    else
    rtn (1 : Int32))) nox) hs := rfl
theorem u_f_X9_remove (a0 : Nat) (p1 : Int32) (hs : Hs) : f_X9_remove a0 p1 hs = (
    rcv (some a0) 12 fun r6 => call (f_X9_wrongFree r6 p1) (fun (v1 : Int32) =>
    pI (some a0) 12 20 v1 (
    gI (some a0) 12 20 fun v2 =>
    (if v2 ≤ 0 then
    gR (some a0) 12 14 fun v3 =>
    stI v3 p1 (-1 : Int32) (
    rcv (some a0) 12 fun r5 => call (f_X9_costNow r5 ) (fun (v4 : Int32) =>
    rtn v4) nox)
    else
    rtn (0 : Int32)))) nox) hs := rfl
theorem u_j_X9_manyLocked_27 (a0 : Option Nat) (a2 : Int32) (s0 : Int32) (s1 : Int32) (rec_4 : Int32 → Int32 → OO Int32) (hs : Hs) : j_X9_manyLocked_27 a0 a2 s0 s1 rec_4 hs = (
  lets (s1 + s0) fun (v6 : Int32) =>
    lets (a2 + (1 : Int32)) fun (v7 : Int32) =>
    rec_4 v6 v7) hs := rfl
theorem u_f_X9_manyLocked (a0 : Nat) (hs : Hs) : f_X9_manyLocked a0 hs = (
    lets (0 : Int32) fun (v1 : Int32) =>
    lets (0 : Int32) fun (v2 : Int32) =>
    L_X9_manyLocked_4 (some a0) (fun (v8 : Int32) => rtn v8) 100000 v1 v2) hs := rfl
theorem u_f_X9_lock (a0 : Nat) (p1 : Int32) (hs : Hs) : f_X9_lock a0 p1 hs = (
    rcv (some a0) 12 fun r6 => call (f_X9_wrongFree r6 p1) (fun (v1 : Int32) =>
    pI (some a0) 12 20 v1 (
    gI (some a0) 12 20 fun v2 =>
    (if v2 ≤ 0 then
    gR (some a0) 12 8 fun v3 =>
    stZ v3 p1 (1 : Int32) (
    rcv (some a0) 12 fun r5 => call (f_X9_manyLocked r5 ) (fun (v4 : Int32) =>
    rtn v4) nox)
    else
    rtn (0 : Int32)))) nox) hs := rfl
theorem u_j_X9_unlock_27 (a0 : Option Nat) (a1 : Int32) (s0 : Int32) (s1 : Option Nat) (hs : Hs) : j_X9_unlock_27 a0 a1 s0 s1 hs = (
  pI s1 12 20 s0 (
    gI a0 12 20 fun v4 =>
    (if v4 ≤ 0 then
    gR a0 12 8 fun v5 =>
    stZ v5 a1 (0 : Int32) (
    rcv a0 12 fun r7 => call (f_X9_manyLocked r7 ) (fun (v6 : Int32) =>
    rtn v6) nox)
    else
    rtn (0 : Int32)))) hs := rfl
theorem u_f_X9_unlock (a0 : Nat) (p1 : Int32) (hs : Hs) : f_X9_unlock a0 p1 hs = (
    rcv (some a0) 12 fun r8 => call (f_X9_isLesson r8 p1) (fun (v1 : Int32) =>
    (if ¬ v1 = 0 then
    gR (some a0) 12 8 fun v2 =>
    ldI 1 v2 p1 fun v3 =>
    (if ¬ v3 = 0 then
    j_X9_unlock_27 (some a0) p1 (0 : Int32) (some a0)
    else
    j_X9_unlock_27 (some a0) p1 (2 : Int32) (some a0))
    else
    j_X9_unlock_27 (some a0) p1 (1 : Int32) (some a0))) nox) hs := rfl
theorem u_f_X9_isLocked (a0 : Nat) (p1 : Int32) (hs : Hs) : f_X9_isLocked a0 p1 hs = (
    rcv (some a0) 12 fun r6 => call (f_X9_isLesson r6 p1) (fun (v1 : Int32) =>
    rcv (some a0) 12 fun r5 => call (f_X9_checked r5 v1) (fun (v2 : Int32) =>
    (if ¬ v2 = 0 then
    retZ (0 : Int32)
    else
    gR (some a0) 12 8 fun v3 =>
    ldI 1 v3 p1 fun v4 =>
    (if v4 = 0 then
    retZ (0 : Int32)
    else
    retZ (1 : Int32)))) nox) nox) hs := rfl
theorem u_j_X9_placeOf_26 (a0 : Option Nat) (a1 : Int32) (s0 : Int32) (s1 : Option Nat) (hs : Hs) : j_X9_placeOf_26 a0 a1 s0 s1 hs = (
  pI s1 12 20 s0 (
    gI a0 12 20 fun v3 =>
    (if v3 ≤ 0 then
    gR a0 12 14 fun v4 =>
    ldI 0 v4 a1 fun v5 =>
    rtn v5
    else
    rtn (0 : Int32)))) hs := rfl
theorem u_f_X9_placeOf (a0 : Nat) (p1 : Int32) (hs : Hs) : f_X9_placeOf a0 p1 hs = (
    rcv (some a0) 12 fun r7 => call (f_X9_isLesson r7 p1) (fun (v1 : Int32) =>
    (if ¬ v1 = 0 then
    rcv (some a0) 12 fun r6 => call (f_X9_isPlaced r6 p1) (fun (v2 : Int32) =>
    (if ¬ v2 = 0 then
    j_X9_placeOf_26 (some a0) p1 (0 : Int32) (some a0)
    else
    j_X9_placeOf_26 (some a0) p1 (2 : Int32) (some a0))) nox
    else
    j_X9_placeOf_26 (some a0) p1 (1 : Int32) (some a0))) nox) hs := rfl
theorem u_j_X9_groupAt_73 (a0 : Option Nat) (a1 : Int32) (a2 : Int32) (a3 : Int32)  (rec_40 : Int32 → OO Int32) (hs : Hs) : j_X9_groupAt_73 a0 a1 a2 a3 rec_40 hs = (
  lets (a3 + (1 : Int32)) fun (v8 : Int32) =>
    rec_40 v8) hs := rfl
theorem u_j_X9_groupAt_25 (a0 : Option Nat) (a1 : Int32) (a2 : Int32) (s0 : Int32) (s1 : Option Nat) (hs : Hs) : j_X9_groupAt_25 a0 a1 a2 s0 s1 hs = (
  pI s1 12 20 s0 (
    gI a0 12 20 fun v3 =>
    (if (3 : Int32) ≤ v3 then
    lets (0 : Int32) fun (v4 : Int32) =>
    L_X9_groupAt_40 a0 a1 a2 (fun (v11 : Int32) => rcv a0 12 fun r13 => call (f_X9_plain r13 v11) (fun (v12 : Int32) =>
    rtn v12) nox) (rtn (0 : Int32)) 100000 v4
    else
    rtn (0 : Int32)))) hs := rfl
theorem u_f_X9_groupAt (a0 : Nat) (p1 : Int32) (p2 : Int32) (hs : Hs) : f_X9_groupAt a0 p1 p2 hs = (
    rcv (some a0) 12 fun r14 => call (f_X9_isGroup r14 p1) (fun (v1 : Int32) =>
    (if ¬ v1 = 0 then
    call (f_X9_isSlot p2) (fun (v2 : Int32) =>
    (if ¬ v2 = 0 then
    j_X9_groupAt_25 (some a0) p1 p2 (3 : Int32) (some a0)
    else
    j_X9_groupAt_25 (some a0) p1 p2 (2 : Int32) (some a0))) nox
    else
    j_X9_groupAt_25 (some a0) p1 p2 (1 : Int32) (some a0))) nox) hs := rfl
theorem u_j_X9_teacherAt_73 (a0 : Option Nat) (a1 : Int32) (a2 : Int32) (a3 : Int32)  (rec_40 : Int32 → OO Int32) (hs : Hs) : j_X9_teacherAt_73 a0 a1 a2 a3 rec_40 hs = (
  lets (a3 + (1 : Int32)) fun (v8 : Int32) =>
    rec_40 v8) hs := rfl
theorem u_j_X9_teacherAt_25 (a0 : Option Nat) (a1 : Int32) (a2 : Int32) (s0 : Int32) (s1 : Option Nat) (hs : Hs) : j_X9_teacherAt_25 a0 a1 a2 s0 s1 hs = (
  pI s1 12 20 s0 (
    gI a0 12 20 fun v3 =>
    (if (3 : Int32) ≤ v3 then
    lets (0 : Int32) fun (v4 : Int32) =>
    L_X9_teacherAt_40 a0 a1 a2 (fun (v11 : Int32) => rcv a0 12 fun r13 => call (f_X9_plain r13 v11) (fun (v12 : Int32) =>
    rtn v12) nox) (rtn (0 : Int32)) 100000 v4
    else
    rtn (0 : Int32)))) hs := rfl
theorem u_f_X9_teacherAt (a0 : Nat) (p1 : Int32) (p2 : Int32) (hs : Hs) : f_X9_teacherAt a0 p1 p2 hs = (
    rcv (some a0) 12 fun r14 => call (f_X9_isTeacher r14 p1) (fun (v1 : Int32) =>
    (if ¬ v1 = 0 then
    call (f_X9_isSlot p2) (fun (v2 : Int32) =>
    (if ¬ v2 = 0 then
    j_X9_teacherAt_25 (some a0) p1 p2 (3 : Int32) (some a0)
    else
    j_X9_teacherAt_25 (some a0) p1 p2 (2 : Int32) (some a0))) nox
    else
    j_X9_teacherAt_25 (some a0) p1 p2 (1 : Int32) (some a0))) nox) hs := rfl
theorem u_f_X9_possible (a0 : Nat) (p1 : Int32) (hs : Hs) : f_X9_possible a0 p1 hs = (
    rcv (some a0) 12 fun r6 => call (f_X9_isLesson r6 p1) (fun (v1 : Int32) =>
    rcv (some a0) 12 fun r5 => call (f_X9_checked r5 v1) (fun (v2 : Int32) =>
    (if v2 ≤ 0 then
    rcv (some a0) 12 fun r4 => call (f_X9_manyPossible r4 p1) (fun (v3 : Int32) =>
    rtn v3) nox
    else
    rtn (0 : Int32))) nox) nox) hs := rfl
theorem u_L_X9_manyPossible_4 (a0 : Option Nat) (a1 : Int32) (k_4_34 : Int32 → OO Int32) (n : Nat) (x2 : Int32) (x3 : Int32) (hs : Hs) : L_X9_manyPossible_4 a0 a1 k_4_34 (n + 1) x2 x3 hs = (
    (if (240 : Int32) ≤ x3 then
    k_4_34 x2
    else
    rcv a0 12 fun r6 => call (f_X9_isPossible r6 a1 x3) (fun (v3 : Int32) =>
    (if v3 = 0 then
    j_X9_manyPossible_26 a0 a1 x3 (0 : Int32) x2 (L_X9_manyPossible_4 a0 a1 k_4_34 n)
    else
    j_X9_manyPossible_26 a0 a1 x3 (1 : Int32) x2 (L_X9_manyPossible_4 a0 a1 k_4_34 n))) nox)) hs := rfl
theorem u_L_X9_cheapestOf_7 (a0 : Option Nat) (a1 : Int32) (k_7_62 : Int32 → OO Int32) (n : Nat) (x2 : Int32) (x3 : Int32) (x4 : Int32) (hs : Hs) : L_X9_cheapestOf_7 a0 a1 k_7_62 (n + 1) x2 x3 x4 hs = (
    (if (240 : Int32) ≤ x4 then
    k_7_62 x2
    else
    rcv a0 12 fun r11 => call (f_X9_isPossible r11 a1 x4) (fun (v4 : Int32) =>
    (if ¬ v4 = 0 then
    rcv a0 12 fun r10 => call (f_X9_costAt r10 a1 x4) (fun (v5 : Int32) =>
    lets v5 fun (v6 : Int32) =>
    (if x2 < 0 then
    j_X9_cheapestOf_50 a0 a1 x4 v6 (L_X9_cheapestOf_7 a0 a1 k_7_62 n)
    else
    (if v6 < x3 then
    j_X9_cheapestOf_50 a0 a1 x4 v6 (L_X9_cheapestOf_7 a0 a1 k_7_62 n)
    else
    j_X9_cheapestOf_56 a0 a1 x2 x3 x4 (L_X9_cheapestOf_7 a0 a1 k_7_62 n)))) nox
    else
    j_X9_cheapestOf_56 a0 a1 x2 x3 x4 (L_X9_cheapestOf_7 a0 a1 k_7_62 n))) nox)) hs := rfl
theorem u_L_X9_hardestOf_7 (a0 : Option Nat) (a1 : Option Nat) (k_7_59 : Int32 → OO Int32) (n : Nat) (x2 : Int32) (x3 : Int32) (x4 : Int32) (hs : Hs) : L_X9_hardestOf_7 a0 a1 k_7_59 (n + 1) x2 x3 x4 hs = (
    gI a0 12 24 fun v4 =>
    (if v4 ≤ x4 then
    k_7_59 x2
    else
    ldI 1 a1 x4 fun v5 =>
    (if ¬ v5 = 0 then
    rcv a0 12 fun r11 => call (f_X9_manyPossible r11 x4) (fun (v6 : Int32) =>
    lets v6 fun (v7 : Int32) =>
    (if x2 < 0 then
    j_X9_hardestOf_47 a0 a1 x4 v7 (L_X9_hardestOf_7 a0 a1 k_7_59 n)
    else
    (if v7 < x3 then
    j_X9_hardestOf_47 a0 a1 x4 v7 (L_X9_hardestOf_7 a0 a1 k_7_59 n)
    else
    j_X9_hardestOf_53 a0 a1 x2 x3 x4 (L_X9_hardestOf_7 a0 a1 k_7_59 n)))) nox
    else
    j_X9_hardestOf_53 a0 a1 x2 x3 x4 (L_X9_hardestOf_7 a0 a1 k_7_59 n)))) hs := rfl
theorem u_L_X9_manyLocked_4 (a0 : Option Nat) (k_4_35 : Int32 → OO Int32) (n : Nat) (x1 : Int32) (x2 : Int32) (hs : Hs) : L_X9_manyLocked_4 a0 k_4_35 (n + 1) x1 x2 hs = (
    gI a0 12 24 fun v3 =>
    (if v3 ≤ x2 then
    k_4_35 x1
    else
    gR a0 12 8 fun v4 =>
    ldI 1 v4 x2 fun v5 =>
    (if v5 = 0 then
    j_X9_manyLocked_27 a0 x2 (0 : Int32) x1 (L_X9_manyLocked_4 a0 k_4_35 n)
    else
    j_X9_manyLocked_27 a0 x2 (1 : Int32) x1 (L_X9_manyLocked_4 a0 k_4_35 n)))) hs := rfl
theorem u_L_X9_groupAt_40 (a0 : Option Nat) (a1 : Int32) (a2 : Int32) (k_40_67 : Int32 → OO Int32) (k_40_79 : OO Int32) (n : Nat) (x3 : Int32) (hs : Hs) : L_X9_groupAt_40 a0 a1 a2 k_40_67 k_40_79 (n + 1) x3 hs = (
    gI a0 12 24 fun v5 =>
    (if v5 ≤ x3 then
    k_40_79
    else
    gR a0 12 9 fun v6 =>
    ldI 0 v6 x3 fun v7 =>
    (if ¬ v7 = a1 then
    j_X9_groupAt_73 a0 a1 a2 x3 (L_X9_groupAt_40 a0 a1 a2 k_40_67 k_40_79 n)
    else
    rcv a0 12 fun r10 => call (f_X9_hasAt r10 x3 a2) (fun (v9 : Int32) =>
    (if v9 = 0 then
    j_X9_groupAt_73 a0 a1 a2 x3 (L_X9_groupAt_40 a0 a1 a2 k_40_67 k_40_79 n)
    else
    k_40_67 x3)) nox))) hs := rfl
theorem u_L_X9_teacherAt_40 (a0 : Option Nat) (a1 : Int32) (a2 : Int32) (k_40_67 : Int32 → OO Int32) (k_40_79 : OO Int32) (n : Nat) (x3 : Int32) (hs : Hs) : L_X9_teacherAt_40 a0 a1 a2 k_40_67 k_40_79 (n + 1) x3 hs = (
    gI a0 12 24 fun v5 =>
    (if v5 ≤ x3 then
    k_40_79
    else
    gR a0 12 10 fun v6 =>
    ldI 0 v6 x3 fun v7 =>
    (if ¬ v7 = a1 then
    j_X9_teacherAt_73 a0 a1 a2 x3 (L_X9_teacherAt_40 a0 a1 a2 k_40_67 k_40_79 n)
    else
    rcv a0 12 fun r10 => call (f_X9_hasAt r10 x3 a2) (fun (v9 : Int32) =>
    (if v9 = 0 then
    j_X9_teacherAt_73 a0 a1 a2 x3 (L_X9_teacherAt_40 a0 a1 a2 k_40_67 k_40_79 n)
    else
    k_40_67 x3)) nox))) hs := rfl
theorem u_j_X9_possibleAt_71 (a0 : Option Nat) (a1 : Int32) (a3 : Int32) (a4 : Int32)  (rec_36 : Int32 → Int32 → OO Int32) (hs : Hs) : j_X9_possibleAt_71 a0 a1 a3 a4 rec_36 hs = (
  lets (a4 + (1 : Int32)) fun (v7 : Int32) =>
    rec_36 a3 v7) hs := rfl
theorem u_j_X9_possibleAt_14 (a0 : Option Nat) (a1 : Int32) (a2 : Int32) (s0 : Int32) (s1 : Option Nat) (hs : Hs) : j_X9_possibleAt_14 a0 a1 a2 s0 s1 hs = (
  pI s1 12 20 s0 (
    gI a0 12 20 fun v2 =>
    (if v2 = (1 : Int32) then
    rtn (0 : Int32)
    else
    (if 0 ≤ a2 then
    lets a2 fun (v3 : Int32) =>
    lets (0 : Int32) fun (v4 : Int32) =>
    L_X9_possibleAt_36 a0 a1 (fun (v9 : Int32) => rcv a0 12 fun r11 => call (f_X9_plain r11 v9) (fun (v10 : Int32) =>
    rtn v10) nox) (rtn (0 : Int32)) 100000 v3 v4
    else
    rtn (0 : Int32))))) hs := rfl
theorem u_f_X9_possibleAt (a0 : Nat) (p1 : Int32) (p2 : Int32) (hs : Hs) : f_X9_possibleAt a0 p1 p2 hs = (
    rcv (some a0) 12 fun r12 => call (f_X9_isLesson r12 p1) (fun (v1 : Int32) =>
    (if ¬ v1 = 0 then
    j_X9_possibleAt_14 (some a0) p1 p2 (2 : Int32) (some a0)
    else
    j_X9_possibleAt_14 (some a0) p1 p2 (1 : Int32) (some a0))) nox) hs := rfl
theorem u_j_X9_cheapest_30 (a0 : Option Nat) (a2 : Int32) (s0 : Int32) (s1 : Option Nat) (hs : Hs) : j_X9_cheapest_30 a0 a2 s0 s1 hs = (
  pI s1 12 20 s0 (
    gI a0 12 20 fun v5 =>
    (if v5 ≤ 0 then
    rtn a2
    else
    rtn (0 : Int32)))) hs := rfl
theorem u_f_X9_cheapest (a0 : Nat) (p1 : Int32) (hs : Hs) : f_X9_cheapest a0 p1 hs = (
    rcv (some a0) 12 fun r8 => call (f_X9_isLesson r8 p1) (fun (v1 : Int32) =>
    rcv (some a0) 12 fun r7 => call (f_X9_checked r7 v1) (fun (v2 : Int32) =>
    (if v2 ≤ 0 then
    rcv (some a0) 12 fun r6 => call (f_X9_cheapestOf r6 p1) (fun (v3 : Int32) =>
    lets v3 fun (v4 : Int32) =>
    (if 0 ≤ v4 then
    j_X9_cheapest_30 (some a0) v4 (0 : Int32) (some a0)
    else
    j_X9_cheapest_30 (some a0) v4 (2 : Int32) (some a0))) nox
    else
    rtn (0 : Int32))) nox) nox) hs := rfl
theorem u_j_X9_costWith_37 (a0 : Option Nat) (a1 : Int32) (a2 : Int32) (a3 : Int32) (hs : Hs) : j_X9_costWith_37 a0 a1 a2 a3 hs = (
  gI a0 12 20 fun v3 =>
    (if v3 ≤ 0 then
    rcv a0 12 fun r5 => call (f_X9_costAt r5 a1 (((8 : Int32) * a2) + a3)) (fun (v4 : Int32) =>
    rtn v4) nox
    else
    rtn (0 : Int32))) hs := rfl
theorem u_j_X9_costWith_34 (a0 : Option Nat) (a1 : Int32) (a2 : Int32) (a3 : Int32) (s0 : Int32) (s1 : Option Nat) (hs : Hs) : j_X9_costWith_34 a0 a1 a2 a3 s0 s1 hs = (
  pI s1 12 20 s0 (
    j_X9_costWith_37 a0 a1 a2 a3)) hs := rfl
theorem u_f_X9_costWith (a0 : Nat) (p1 : Int32) (p2 : Int32) (p3 : Int32) (hs : Hs) : f_X9_costWith a0 p1 p2 p3 hs = (
    rcv (some a0) 12 fun r8 => call (f_X9_wrongPlace r8 p1 p2 p3) (fun (v1 : Int32) =>
    pI (some a0) 12 20 v1 (
    gI (some a0) 12 20 fun v2 =>
    (if ¬ v2 = 0 then
    j_X9_costWith_37 (some a0) p1 p2 p3
    else
    rcv (some a0) 12 fun r7 => call (f_X9_letters r7 p1 p2 p3) (fun (v6 : Int32) =>
    (if v6 ≤ 0 then
    j_X9_costWith_34 (some a0) p1 p2 p3 (0 : Int32) (some a0)
    else
    j_X9_costWith_34 (some a0) p1 p2 p3 (3 : Int32) (some a0))) nox))) nox) hs := rfl
theorem u_j_X9_unplaced_30 (a0 : Option Nat) (a1 : Option Nat) (a2 : Int32) (s0 : Int32) (s1 : Int32) (s2 : Option Nat) (rec_7 : Int32 → OO (Option Nat)) (hs : Hs) : j_X9_unplaced_30 a0 a1 a2 s0 s1 s2 rec_7 hs = (
  stZ s2 s1 s0 (
    lets (a2 + (1 : Int32)) fun (v6 : Int32) =>
    rec_7 v6)) hs := rfl
theorem u_f_X9_unplaced (a0 : Nat) (hs : Hs) : f_X9_unplaced a0 hs = (
    nwI 1 (16 : Int32) 16 fun q1 =>
    lets (some q1) fun (v2 : Option Nat) =>
    lets (0 : Int32) fun (v3 : Int32) =>
    L_X9_unplaced_7 (some a0) v2 (rtn v2) 100000 v3) hs := rfl
theorem u_j_X9_hardest_19 (a1 : Int32) (s0 : Int32) (s1 : Option Nat) (hs : Hs) : j_X9_hardest_19 a1 s0 s1 hs = (
  rcv s1 12 fun r5 => call (f_X9_checked r5 s0) (fun (v4 : Int32) =>
    (if v4 ≤ 0 then
    rtn a1
    else
    rtn (0 : Int32))) nox) hs := rfl
theorem u_f_X9_hardest (a0 : Nat) (hs : Hs) : f_X9_hardest a0 hs = (
    rcv (some a0) 12 fun r7 => call (f_X9_unplaced r7 ) (fun (v1 : Option Nat) =>
    rcv (some a0) 12 fun r6 => call (f_X9_hardestOf r6 v1) (fun (v2 : Int32) =>
    lets v2 fun (v3 : Int32) =>
    (if v3 < 0 then
    j_X9_hardest_19 v3 (0 : Int32) (some a0)
    else
    j_X9_hardest_19 v3 (1 : Int32) (some a0))) nox) nox) hs := rfl
theorem u_j_X9_barring_83 (a0 : Option Nat) (a1 : Int32) (a2 : Int32) (a3 : Int32) (a4 : Int32)  (rec_34 : Int32 → Int32 → OO Int32) (hs : Hs) : j_X9_barring_83 a0 a1 a2 a3 a4 rec_34 hs = (
  lets (a4 + (1 : Int32)) fun (v10 : Int32) =>
    rec_34 a3 v10) hs := rfl
theorem u_f_X9_barring (a0 : Nat) (p1 : Int32) (p2 : Int32) (hs : Hs) : f_X9_barring a0 p1 p2 hs = (
    dvz (8 : Int32) (
    gI (some a0) 12 21 fun v1 =>
    (if v1 ≤ (irem p2 (8 : Int32)) then
    rtn (-1 : Int32)
    else
    dvz (8 : Int32) (
    dvz (8 : Int32) (
    rcv (some a0) 12 fun r13 => call (f_X9_plainLetters r13 p1 (p2 / (8 : Int32)) (irem p2 (8 : Int32))) (fun (v2 : Int32) =>
    (if v2 ≤ 0 then
    lets (0 : Int32) fun (v3 : Int32) =>
    lets (0 : Int32) fun (v4 : Int32) =>
    L_X9_barring_34 (some a0) p1 p2 (rtn (-1 : Int32)) (fun (v12 : Int32) => rtn v12) 100000 v3 v4
    else
    rtn (-1 : Int32))) nox))))) hs := rfl
theorem u_j_X9_throwsOut_54 (a0 : Option Nat) (a1 : Int32) (a2 : Int32) (a3 : Int32) (a4 : Int32)  (rec_7 : Int32 → Int32 → Int32 → OO Int32) (hs : Hs) : j_X9_throwsOut_54 a0 a1 a2 a3 a4 rec_7 hs = (
  lets (a4 + (1 : Int32)) fun (v6 : Int32) =>
    rec_7 a2 a3 v6) hs := rfl
theorem u_j_X9_throwsOut_48 (a0 : Option Nat) (a1 : Int32) (a4 : Int32) (a5 : Int32)  (rec_7 : Int32 → Int32 → Int32 → OO Int32) (hs : Hs) : j_X9_throwsOut_48 a0 a1 a4 a5 rec_7 hs = (
  lets a4 fun (v7 : Int32) =>
    lets a5 fun (v8 : Int32) =>
    j_X9_throwsOut_54 a0 a1 v7 v8 a4 rec_7) hs := rfl
theorem u_j_X9_throwsOut_96 (a0 : Option Nat) (a1 : Int32) (a2 : Int32) (a3 : Int32) (a4 : Int32)  (rec_69 : Int32 → OO Int32) (hs : Hs) : j_X9_throwsOut_96 a0 a1 a2 a3 a4 rec_69 hs = (
  lets (a4 + (1 : Int32)) fun (v16 : Int32) =>
    rec_69 v16) hs := rfl
theorem u_f_X9_throwsOut (a0 : Nat) (p1 : Int32) (hs : Hs) : f_X9_throwsOut a0 p1 hs = (
    lets (-1 : Int32) fun (v1 : Int32) =>
    lets (0 : Int32) fun (v2 : Int32) =>
    lets (0 : Int32) fun (v3 : Int32) =>
    L_X9_throwsOut_7 (some a0) p1 (fun (v12 : Int32) (v13 : Int32) => (if 0 ≤ v12 then
    lets (0 : Int32) fun (v14 : Int32) =>
    L_X9_throwsOut_69 (some a0) p1 v12 v13 (gR (some a0) 12 14 fun v18 =>
    stI v18 p1 v12 (
    retZ (1 : Int32))) 100000 v14
    else
    retZ (0 : Int32))) 100000 v1 v2 v3) hs := rfl
theorem u_j_X9_fill_119 (a0 : Option Nat) (a1 : Option Nat) (a2 : Int32) (a3 : Option Nat) (a6 : Int32) (s0 : Int32) (s1 : Int32) (s2 : Option Nat) (rec_88 : Int32 → OO Int32) (hs : Hs) : j_X9_fill_119 a0 a1 a2 a3 a6 s0 s1 s2 rec_88 hs = (
  stZ s2 s1 s0 (
    lets (a6 + (1 : Int32)) fun (v15 : Int32) =>
    rec_88 v15)) hs := rfl
theorem u_j_X9_fill_118 (a0 : Option Nat) (a1 : Option Nat) (a2 : Int32) (a3 : Option Nat) (a6 : Int32) (s0 : Int32) (s1 : Option Nat) (rec_88 : Int32 → OO Int32) (hs : Hs) : j_X9_fill_118 a0 a1 a2 a3 a6 s0 s1 rec_88 hs = (
  j_X9_fill_119 a0 a1 a2 a3 a6 (0 : Int32) s0 s1 rec_88) hs := rfl
theorem u_j_X9_fill_80 (a0 : Option Nat) (a1 : Option Nat) (a2 : Int32)  (rec_24 : Int32 → Int32 → OO Int32) (hs : Hs) : j_X9_fill_80 a0 a1 a2 rec_24 hs = (
  rcv a0 12 fun r20 => call (f_X9_unplaced r20 ) (fun (v10 : Option Nat) =>
    lets v10 fun (v11 : Option Nat) =>
    lets (0 : Int32) fun (v12 : Int32) =>
    L_X9_fill_88 a0 a1 a2 v11 (rcv a0 12 fun r19 => call (f_X9_hardestOf r19 v11) (fun (v17 : Int32) =>
    lets v17 fun (v18 : Int32) =>
    rec_24 a2 v18) nox) 300 v12) nox) hs := rfl
theorem u_j_X9_fill_75 (a0 : Option Nat) (a1 : Option Nat) (a2 : Int32) (a4 : Int32)  (rec_24 : Int32 → Int32 → OO Int32) (hs : Hs) : j_X9_fill_75 a0 a1 a2 a4 rec_24 hs = (
  stZ a1 a4 (1 : Int32) (
    j_X9_fill_80 a0 a1 a2 rec_24)) hs := rfl
theorem u_j_X9_fill_167 (a0 : Option Nat) (a6 : Int32) (s0 : Int32) (s1 : Int32) (rec_142 : Int32 → Int32 → OO Int32) (hs : Hs) : j_X9_fill_167 a0 a6 s0 s1 rec_142 hs = (
  lets (s1 + s0) fun (v30 : Int32) =>
    lets (a6 + (1 : Int32)) fun (v31 : Int32) =>
    rec_142 v30 v31) hs := rfl
theorem u_f_X9_fill (a0 : Nat) (hs : Hs) : f_X9_fill a0 hs = (
    pI (some a0) 12 20 (0 : Int32) (
    nwI 1 (16 : Int32) 16 fun q1 =>
    lets (some q1) fun (v2 : Option Nat) =>
    lets (0 : Int32) fun (v3 : Int32) =>
    rcv (some a0) 12 fun r35 => call (f_X9_unplaced r35 ) (fun (v4 : Option Nat) =>
    lets v4 fun (v5 : Option Nat) =>
    rcv (some a0) 12 fun r34 => call (f_X9_hardestOf r34 v5) (fun (v6 : Int32) =>
    lets v6 fun (v7 : Int32) =>
    L_X9_fill_24 (some a0) v2 (lets (0 : Int32) fun (v26 : Int32) =>
    lets (0 : Int32) fun (v27 : Int32) =>
    L_X9_fill_142 (some a0) (fun (v33 : Int32) => rtn v33) 300 v26 v27) 300 v3 v7) nox) nox)) hs := rfl
theorem u_j_X9_wasMoved_30 (hs : Hs) : j_X9_wasMoved_30  hs = (
  retZ (1 : Int32)) hs := rfl
theorem u_f_X9_wasMoved (a0 : Nat) (p1 : Int32) (hs : Hs) : f_X9_wasMoved a0 p1 hs = (
    gR (some a0) 12 18 fun v1 =>
    ldI 0 v1 (0 : Int32) fun v2 =>
    (if v2 = p1 then
    j_X9_wasMoved_30
    else
    gR (some a0) 12 18 fun v3 =>
    ldI 0 v3 (1 : Int32) fun v4 =>
    (if v4 = p1 then
    j_X9_wasMoved_30
    else
    gR (some a0) 12 18 fun v5 =>
    ldI 0 v5 (2 : Int32) fun v6 =>
    (if ¬ v6 = p1 then
    retZ (0 : Int32)
    else
    j_X9_wasMoved_30)))) hs := rfl
theorem u_L_X9_possibleAt_36 (a0 : Option Nat) (a1 : Int32) (k_36_61 : Int32 → OO Int32) (k_36_77 : OO Int32) (n : Nat) (x3 : Int32) (x4 : Int32) (hs : Hs) : L_X9_possibleAt_36 a0 a1 k_36_61 k_36_77 (n + 1) x3 x4 hs = (
    (if (240 : Int32) ≤ x4 then
    k_36_77
    else
    rcv a0 12 fun r8 => call (f_X9_isPossible r8 a1 x4) (fun (v5 : Int32) =>
    (if ¬ v5 = 0 then
    (if ¬ x3 = 0 then
    lets (x3 + (-1 : Int32)) fun (v6 : Int32) =>
    j_X9_possibleAt_71 a0 a1 v6 x4 (L_X9_possibleAt_36 a0 a1 k_36_61 k_36_77 n)
    else
    k_36_61 x4)
    else
    j_X9_possibleAt_71 a0 a1 x3 x4 (L_X9_possibleAt_36 a0 a1 k_36_61 k_36_77 n))) nox)) hs := rfl
theorem u_L_X9_unplaced_7 (a0 : Option Nat) (a1 : Option Nat) (k_7_37 : OO (Option Nat)) (n : Nat) (x2 : Int32) (hs : Hs) : L_X9_unplaced_7 a0 a1 k_7_37 (n + 1) x2 hs = (
    gI a0 12 24 fun v4 =>
    (if v4 ≤ x2 then
    k_7_37
    else
    rcv a0 12 fun r7 => call (f_X9_isPlaced r7 x2) (fun (v5 : Int32) =>
    (if ¬ v5 = 0 then
    j_X9_unplaced_30 a0 a1 x2 (0 : Int32) x2 a1 (L_X9_unplaced_7 a0 a1 k_7_37 n)
    else
    j_X9_unplaced_30 a0 a1 x2 (1 : Int32) x2 a1 (L_X9_unplaced_7 a0 a1 k_7_37 n))) nox)) hs := rfl
theorem u_L_X9_barring_34 (a0 : Option Nat) (a1 : Int32) (a2 : Int32) (k_34_74 : OO Int32) (k_34_89 : Int32 → OO Int32) (n : Nat) (x3 : Int32) (x4 : Int32) (hs : Hs) : L_X9_barring_34 a0 a1 a2 k_34_74 k_34_89 (n + 1) x3 x4 hs = (
    gI a0 12 24 fun v5 =>
    (if v5 ≤ x4 then
    k_34_89 x3
    else
    dvz (8 : Int32) (
    dvz (8 : Int32) (
    rcv a0 12 fun r11 => call (f_X9_lettersBy r11 x4 a1 (a2 / (8 : Int32)) (irem a2 (8 : Int32))) (fun (v6 : Int32) =>
    (if ¬ v6 = 0 then
    gR a0 12 8 fun v7 =>
    ldI 1 v7 x4 fun v8 =>
    (if v8 = 0 then
    lets ((x3 + (((1 : Int32) <<< (x4 &&& 31))))) fun (v9 : Int32) =>
    j_X9_barring_83 a0 a1 a2 v9 x4 (L_X9_barring_34 a0 a1 a2 k_34_74 k_34_89 n)
    else
    k_34_74)
    else
    j_X9_barring_83 a0 a1 a2 x3 x4 (L_X9_barring_34 a0 a1 a2 k_34_74 k_34_89 n))) nox)))) hs := rfl
theorem u_L_X9_throwsOut_7 (a0 : Option Nat) (a1 : Int32) (k_7_60 : Int32 → Int32 → OO Int32) (n : Nat) (x2 : Int32) (x3 : Int32) (x4 : Int32) (hs : Hs) : L_X9_throwsOut_7 a0 a1 k_7_60 (n + 1) x2 x3 x4 hs = (
    (if (240 : Int32) ≤ x4 then
    k_7_60 x2 x3
    else
    rcv a0 12 fun r11 => call (f_X9_barring r11 a1 x4) (fun (v4 : Int32) =>
    lets v4 fun (v5 : Int32) =>
    (if v5 < 0 then
    j_X9_throwsOut_54 a0 a1 x2 x3 x4 (L_X9_throwsOut_7 a0 a1 k_7_60 n)
    else
    (if x2 < 0 then
    j_X9_throwsOut_48 a0 a1 x4 v5 (L_X9_throwsOut_7 a0 a1 k_7_60 n)
    else
    call (f_X9_manyBits v5) (fun (v9 : Int32) =>
    call (f_X9_manyBits x3) (fun (v10 : Int32) =>
    (if v9 < v10 then
    j_X9_throwsOut_48 a0 a1 x4 v5 (L_X9_throwsOut_7 a0 a1 k_7_60 n)
    else
    j_X9_throwsOut_54 a0 a1 x2 x3 x4 (L_X9_throwsOut_7 a0 a1 k_7_60 n))) nox) nox))) nox)) hs := rfl
theorem u_L_X9_throwsOut_69 (a0 : Option Nat) (a1 : Int32) (a2 : Int32) (a3 : Int32) (k_69_102 : OO Int32) (n : Nat) (x4 : Int32) (hs : Hs) : L_X9_throwsOut_69 a0 a1 a2 a3 k_69_102 (n + 1) x4 hs = (
    gI a0 12 24 fun v15 =>
    (if v15 ≤ x4 then
    k_69_102
    else
    dvz (2 : Int32) (
    (if ¬ ((irem (a3 >>> (x4 &&& 31)) (2 : Int32))) = (1 : Int32) then
    j_X9_throwsOut_96 a0 a1 a2 a3 x4 (L_X9_throwsOut_69 a0 a1 a2 a3 k_69_102 n)
    else
    gR a0 12 14 fun v17 =>
    stI v17 x4 (-1 : Int32) (
    j_X9_throwsOut_96 a0 a1 a2 a3 x4 (L_X9_throwsOut_69 a0 a1 a2 a3 k_69_102 n)))))) hs := rfl
theorem u_L_X9_fill_88 (a0 : Option Nat) (a1 : Option Nat) (a2 : Int32) (a3 : Option Nat) (k_88_126 : OO Int32) (n : Nat) (x6 : Int32) (hs : Hs) : L_X9_fill_88 a0 a1 a2 a3 k_88_126 (n + 1) x6 hs = (
    gI a0 12 24 fun v13 =>
    (if v13 ≤ x6 then
    k_88_126
    else
    ldI 1 a3 x6 fun v14 =>
    (if v14 = 0 then
    j_X9_fill_118 a0 a1 a2 a3 x6 x6 a3 (L_X9_fill_88 a0 a1 a2 a3 k_88_126 n)
    else
    ldI 1 a1 x6 fun v16 =>
    (if ¬ v16 = 0 then
    j_X9_fill_118 a0 a1 a2 a3 x6 x6 a3 (L_X9_fill_88 a0 a1 a2 a3 k_88_126 n)
    else
    j_X9_fill_119 a0 a1 a2 a3 x6 (1 : Int32) x6 a3 (L_X9_fill_88 a0 a1 a2 a3 k_88_126 n))))) hs := rfl
theorem u_L_X9_fill_24 (a0 : Option Nat) (a1 : Option Nat) (k_24_136 : OO Int32) (n : Nat) (x2 : Int32) (x4 : Int32) (hs : Hs) : L_X9_fill_24 a0 a1 k_24_136 (n + 1) x2 x4 hs = (
    (if x4 < 0 then
    k_24_136
    else
    rcv a0 12 fun r25 => call (f_X9_cheapestOf r25 x4) (fun (v8 : Int32) =>
    lets v8 fun (v9 : Int32) =>
    (if v9 < 0 then
    (if (10 : Int32) ≤ x2 then
    j_X9_fill_75 a0 a1 x2 x4 (L_X9_fill_24 a0 a1 k_24_136 n)
    else
    rcv a0 12 fun r23 => call (f_X9_throwsOut r23 x4) (fun (v21 : Int32) =>
    (if v21 = 0 then
    j_X9_fill_75 a0 a1 x2 x4 (L_X9_fill_24 a0 a1 k_24_136 n)
    else
    lets (x2 + (1 : Int32)) fun (v22 : Int32) =>
    j_X9_fill_80 a0 a1 v22 (L_X9_fill_24 a0 a1 k_24_136 n))) nox)
    else
    gR a0 12 14 fun v24 =>
    stI v24 x4 v9 (
    j_X9_fill_80 a0 a1 x2 (L_X9_fill_24 a0 a1 k_24_136 n)))) nox)) hs := rfl
theorem u_L_X9_fill_142 (a0 : Option Nat) (k_142_176 : Int32 → OO Int32) (n : Nat) (x5 : Int32) (x6 : Int32) (hs : Hs) : L_X9_fill_142 a0 k_142_176 (n + 1) x5 x6 hs = (
    gI a0 12 24 fun v28 =>
    (if v28 ≤ x6 then
    k_142_176 x5
    else
    rcv a0 12 fun r32 => call (f_X9_isPlaced r32 x6) (fun (v29 : Int32) =>
    (if v29 = 0 then
    j_X9_fill_167 a0 x6 (1 : Int32) x5 (L_X9_fill_142 a0 k_142_176 n)
    else
    j_X9_fill_167 a0 x6 (0 : Int32) x5 (L_X9_fill_142 a0 k_142_176 n))) nox)) hs := rfl
theorem u_j_X9_moves_133 (a0 : Option Nat) (a1 : Int32) (a2 : Int32) (a3 : Int32) (a4 : Int32)  (rec_9 : Int32 → Int32 → Int32 → Int32 → OO Int32) (hs : Hs) : j_X9_moves_133 a0 a1 a2 a3 a4 rec_9 hs = (
  lets (a4 + (1 : Int32)) fun (v7 : Int32) =>
    rec_9 a1 a2 a3 v7) hs := rfl
theorem u_j_X9_moves_127 (a0 : Option Nat) (a1 : Int32) (a2 : Int32) (a3 : Int32) (a4 : Int32) (a5 : Int32)  (rec_61 : Int32 → Int32 → Int32 → Int32 → OO Int32) (hs : Hs) : j_X9_moves_127 a0 a1 a2 a3 a4 a5 rec_61 hs = (
  lets (a5 + (1 : Int32)) fun (v15 : Int32) =>
    rec_61 a1 a2 a3 v15) hs := rfl
theorem u_j_X9_moves_118 (a0 : Option Nat) (a4 : Int32) (a5 : Int32) (a6 : Int32)  (rec_61 : Int32 → Int32 → Int32 → Int32 → OO Int32) (hs : Hs) : j_X9_moves_118 a0 a4 a5 a6 rec_61 hs = (
  lets a4 fun (v19 : Int32) =>
    lets a5 fun (v20 : Int32) =>
    lets a6 fun (v21 : Int32) =>
    j_X9_moves_127 a0 v19 v20 v21 a4 a5 rec_61) hs := rfl
theorem u_f_X9_moves (a0 : Nat) (hs : Hs) : f_X9_moves a0 hs = (
    lets (-1 : Int32) fun (v1 : Int32) =>
    lets (0 : Int32) fun (v2 : Int32) =>
    lets (0 : Int32) fun (v3 : Int32) =>
    lets (0 : Int32) fun (v4 : Int32) =>
    L_X9_moves_9 (some a0) (fun (v30 : Int32) (v31 : Int32) => (if 0 ≤ v30 then
    gR (some a0) 12 14 fun v32 =>
    stI v32 v30 v31 (
    gR (some a0) 12 18 fun v33 =>
    gR (some a0) 12 18 fun v34 =>
    ldI 0 v34 (1 : Int32) fun v35 =>
    stI v33 (2 : Int32) v35 (
    gR (some a0) 12 18 fun v36 =>
    gR (some a0) 12 18 fun v37 =>
    ldI 0 v37 (0 : Int32) fun v38 =>
    stI v36 (1 : Int32) v38 (
    gR (some a0) 12 18 fun v39 =>
    stI v39 (0 : Int32) v30 (
    retZ (1 : Int32)))))
    else
    retZ (0 : Int32))) 100000 v1 v2 v3 v4) hs := rfl
theorem u_j_X9_improve_129 (a0 : Option Nat) (a1 : Int32) (a2 : Int32) (a3 : Int32)  (rec_69 : Int32 → Int32 → OO Int32) (hs : Hs) : j_X9_improve_129 a0 a1 a2 a3 rec_69 hs = (
  lets (a3 + (1 : Int32)) fun (v23 : Int32) =>
    rec_69 a2 v23) hs := rfl
theorem u_j_X9_improve_135 (a0 : Option Nat) (a2 : Int32) (hs : Hs) : j_X9_improve_135 a0 a2 hs = (
  lets (0 : Int32) fun (v27 : Int32) =>
    L_X9_improve_137 a0 a2 (rtn a2) 100000 v27) hs := rfl
theorem u_f_X9_improve (a0 : Nat) (p1 : Int32) (hs : Hs) : f_X9_improve a0 p1 hs = (
    call (f_X9_in p1 (1 : Int32) (20 : Int32)) (fun (v1 : Int32) =>
    rcv (some a0) 12 fun r33 => call (f_X9_checked r33 v1) (fun (v2 : Int32) =>
    (if v2 ≤ 0 then
    lets (0 : Int32) fun (v3 : Int32) =>
    L_X9_improve_18 (some a0) p1 (lets (0 : Int32) fun (v6 : Int32) =>
    L_X9_improve_38 (some a0) p1 (rcv (some a0) 12 fun r32 => call (f_X9_costNow r32 ) (fun (v11 : Int32) =>
    lets v11 fun (v12 : Int32) =>
    lets (0 : Int32) fun (v13 : Int32) =>
    L_X9_improve_69 (some a0) p1 (fun (v26 : Int32) => j_X9_improve_135 (some a0) v26) 100000 v12 v13) nox) 100000 v6) 100000 v3
    else
    rtn (0 : Int32))) nox) nox) hs := rfl
theorem u_f_X9_cost (a0 : Nat) (hs : Hs) : f_X9_cost a0 hs = (
    rcv (some a0) 12 fun r4 => call (f_X9_costNow r4 ) (fun (v1 : Int32) =>
    rcv (some a0) 12 fun r3 => call (f_X9_plain r3 v1) (fun (v2 : Int32) =>
    rtn v2) nox) nox) hs := rfl
theorem u_f_X9_costAnew (a0 : Nat) (hs : Hs) : f_X9_costAnew a0 hs = (
    rcv (some a0) 12 fun r4 => call (f_X9_costNow r4 ) (fun (v1 : Int32) =>
    rcv (some a0) 12 fun r3 => call (f_X9_plain r3 v1) (fun (v2 : Int32) =>
    rtn v2) nox) nox) hs := rfl
theorem u_f_X9_amount (a0 : Nat) (p1 : Int32) (hs : Hs) : f_X9_amount a0 p1 hs = (
    call (f_X9_in p1 (0 : Int32) (3 : Int32)) (fun (v1 : Int32) =>
    rcv (some a0) 12 fun r5 => call (f_X9_checked r5 v1) (fun (v2 : Int32) =>
    (if v2 ≤ 0 then
    rcv (some a0) 12 fun r4 => call (f_X9_amountOf r4 p1) (fun (v3 : Int32) =>
    rtn v3) nox
    else
    rtn (0 : Int32))) nox) nox) hs := rfl
theorem u_j_X9_breaks_60 (a0 : Option Nat) (a2 : Int32) (s0 : Int32) (s1 : Int32) (rec_4 : Int32 → Int32 → OO Int32) (hs : Hs) : j_X9_breaks_60 a0 a2 s0 s1 rec_4 hs = (
  lets (s1 + s0) fun (v5 : Int32) =>
    lets (a2 + (1 : Int32)) fun (v6 : Int32) =>
    rec_4 v5 v6) hs := rfl
theorem u_j_X9_breaks_59 (a0 : Option Nat) (a2 : Int32) (s0 : Int32) (rec_4 : Int32 → Int32 → OO Int32) (hs : Hs) : j_X9_breaks_59 a0 a2 s0 rec_4 hs = (
  j_X9_breaks_60 a0 a2 (0 : Int32) s0 rec_4) hs := rfl
theorem u_f_X9_breaks (a0 : Nat) (hs : Hs) : f_X9_breaks a0 hs = (
    lets (0 : Int32) fun (v1 : Int32) =>
    lets (0 : Int32) fun (v2 : Int32) =>
    L_X9_breaks_4 (some a0) (fun (v16 : Int32) => rcv (some a0) 12 fun r18 => call (f_X9_plain r18 v16) (fun (v17 : Int32) =>
    rtn v17) nox) 100000 v1 v2) hs := rfl
theorem u_j_X9_lacksAbove_53 (a0 : Option Nat) (a1 : Int32) (a2 : Int32) (a4 : Int32) (s0 : Int32) (s1 : Int32) (rec_5 : Int32 → Int32 → OO Int32) (hs : Hs) : j_X9_lacksAbove_53 a0 a1 a2 a4 s0 s1 rec_5 hs = (
  lets (s1 + s0) fun (v6 : Int32) =>
    lets (a4 + (1 : Int32)) fun (v7 : Int32) =>
    rec_5 v6 v7) hs := rfl
theorem u_j_X9_lacksAbove_52 (a0 : Option Nat) (a1 : Int32) (a2 : Int32) (a4 : Int32) (s0 : Int32) (rec_5 : Int32 → Int32 → OO Int32) (hs : Hs) : j_X9_lacksAbove_52 a0 a1 a2 a4 s0 rec_5 hs = (
  j_X9_lacksAbove_53 a0 a1 a2 a4 (0 : Int32) s0 rec_5) hs := rfl
theorem u_j_X9_lacksAbove_112 (a0 : Option Nat) (a1 : Int32) (a2 : Int32) (a4 : Int32) (s0 : Int32) (s1 : Int32) (rec_64 : Int32 → Int32 → OO Int32) (hs : Hs) : j_X9_lacksAbove_112 a0 a1 a2 a4 s0 s1 rec_64 hs = (
  lets (s1 - s0) fun (v19 : Int32) =>
    lets (a4 + (1 : Int32)) fun (v20 : Int32) =>
    rec_64 v19 v20) hs := rfl
theorem u_j_X9_lacksAbove_111 (a0 : Option Nat) (a1 : Int32) (a2 : Int32) (a4 : Int32) (s0 : Int32) (rec_64 : Int32 → Int32 → OO Int32) (hs : Hs) : j_X9_lacksAbove_111 a0 a1 a2 a4 s0 rec_64 hs = (
  j_X9_lacksAbove_112 a0 a1 a2 a4 (0 : Int32) s0 rec_64) hs := rfl
theorem u_f_X9_lacksAbove (a0 : Nat) (p1 : Int32) (p2 : Int32) (hs : Hs) : f_X9_lacksAbove a0 p1 p2 hs = (
    lets (0 : Int32) fun (v1 : Int32) =>
    lets (0 : Int32) fun (v2 : Int32) =>
    L_X9_lacksAbove_5 (some a0) p1 p2 (fun (v14 : Int32) => lets (0 : Int32) fun (v15 : Int32) =>
    L_X9_lacksAbove_64 (some a0) p1 p2 (fun (v25 : Int32) => rtn v25) 100000 v14 v15) 100000 v1 v2) hs := rfl
theorem u_j_X9_lacking_45 (a0 : Option Nat) (a1 : Int32) (a3 : Int32) (s0 : Int32) (rec_19 : Int32 → Int32 → OO Int32) (hs : Hs) : j_X9_lacking_45 a0 a1 a3 s0 rec_19 hs = (
  lets s0 fun (v6 : Int32) =>
    lets (a3 + (1 : Int32)) fun (v7 : Int32) =>
    rec_19 v6 v7) hs := rfl
theorem u_f_X9_lacking (a0 : Nat) (p1 : Int32) (hs : Hs) : f_X9_lacking a0 p1 hs = (
    call (f_X9_in p1 (0 : Int32) (3 : Int32)) (fun (v1 : Int32) =>
    rcv (some a0) 12 fun r12 => call (f_X9_checked r12 v1) (fun (v2 : Int32) =>
    (if v2 ≤ 0 then
    lets (0 : Int32) fun (v3 : Int32) =>
    lets (0 : Int32) fun (v4 : Int32) =>
    L_X9_lacking_19 (some a0) p1 (fun (v11 : Int32) => rtn v11) 100000 v3 v4
    else
    rtn (0 : Int32))) nox) nox) hs := rfl
theorem u_f_X9_lackingBySeats (a0 : Nat) (p1 : Int32) (hs : Hs) : f_X9_lackingBySeats a0 p1 hs = (
    rcv (some a0) 12 fun r2 => call (f_X9_lacking r2 p1) (fun (v1 : Int32) =>
    rtn v1) nox) hs := rfl
theorem u_j_X9_repairs_35 (a0 : Option Nat) (a1 : Option Nat) (a2 : Int32) (a3 : Int32)  (rec_4 : Int32 → OO Int32) (hs : Hs) : j_X9_repairs_35 a0 a1 a2 a3 rec_4 hs = (
  lets (a3 + (1 : Int32)) fun (v7 : Int32) =>
    rec_4 v7) hs := rfl
theorem u_j_X9_repairs_80 (a0 : Option Nat) (a1 : Option Nat) (s0 : Int32) (s1 : Int32) (rec_47 : Int32 → Int32 → OO Int32) (hs : Hs) : j_X9_repairs_80 a0 a1 s0 s1 rec_47 hs = (
  lets (s1 + s0) fun (v13 : Int32) =>
    rcv a0 12 fun r16 => call (f_X9_hardestOf r16 a1) (fun (v14 : Int32) =>
    lets v14 fun (v15 : Int32) =>
    rec_47 v13 v15) nox) hs := rfl
theorem u_f_X9_repairs (a0 : Nat) (p1 : Option Nat) (hs : Hs) : f_X9_repairs a0 p1 hs = (
    lets (0 : Int32) fun (v1 : Int32) =>
    lets (0 : Int32) fun (v2 : Int32) =>
    L_X9_repairs_4 (some a0) p1 v1 (rcv (some a0) 12 fun r20 => call (f_X9_hardestOf r20 p1) (fun (v8 : Int32) =>
    lets v8 fun (v9 : Int32) =>
    L_X9_repairs_47 (some a0) p1 (fun (v19 : Int32) => rtn v19) 100000 v1 v9) nox) 100000 v2) hs := rfl
theorem u_L_X9_moves_61 (a0 : Option Nat) (a4 : Int32) (k_61_133 : Int32 → Int32 → Int32 → OO Int32) (n : Nat) (x1 : Int32) (x2 : Int32) (x3 : Int32) (x5 : Int32) (hs : Hs) : L_X9_moves_61 a0 a4 k_61_133 (n + 1) x1 x2 x3 x5 hs = (
    (if (240 : Int32) ≤ x5 then
    k_61_133 x1 x2 x3
    else
    gR a0 12 14 fun v13 =>
    ldI 0 v13 a4 fun v14 =>
    (if x5 = v14 then
    j_X9_moves_127 a0 x1 x2 x3 a4 x5 (L_X9_moves_61 a0 a4 k_61_133 n)
    else
    rcv a0 12 fun r23 => call (f_X9_isPossible r23 a4 x5) (fun (v16 : Int32) =>
    (if ¬ v16 = 0 then
    rcv a0 12 fun r22 => call (f_X9_costAt r22 a4 x5) (fun (v17 : Int32) =>
    lets v17 fun (v18 : Int32) =>
    (if x1 < 0 then
    j_X9_moves_118 a0 a4 x5 v18 (L_X9_moves_61 a0 a4 k_61_133 n)
    else
    (if v18 < x3 then
    j_X9_moves_118 a0 a4 x5 v18 (L_X9_moves_61 a0 a4 k_61_133 n)
    else
    j_X9_moves_127 a0 x1 x2 x3 a4 x5 (L_X9_moves_61 a0 a4 k_61_133 n)))) nox
    else
    j_X9_moves_127 a0 x1 x2 x3 a4 x5 (L_X9_moves_61 a0 a4 k_61_133 n))) nox))) hs := rfl
theorem u_L_X9_moves_9 (a0 : Option Nat) (k_9_139 : Int32 → Int32 → OO Int32) (n : Nat) (x1 : Int32) (x2 : Int32) (x3 : Int32) (x4 : Int32) (hs : Hs) : L_X9_moves_9 a0 k_9_139 (n + 1) x1 x2 x3 x4 hs = (
    gI a0 12 24 fun v5 =>
    (if v5 ≤ x4 then
    k_9_139 x1 x2
    else
    rcv a0 12 fun r29 => call (f_X9_isPlaced r29 x4) (fun (v6 : Int32) =>
    (if v6 = 0 then
    j_X9_moves_133 a0 x1 x2 x3 x4 (L_X9_moves_9 a0 k_9_139 n)
    else
    gR a0 12 8 fun v8 =>
    ldI 1 v8 x4 fun v9 =>
    (if ¬ v9 = 0 then
    j_X9_moves_133 a0 x1 x2 x3 x4 (L_X9_moves_9 a0 k_9_139 n)
    else
    rcv a0 12 fun r28 => call (f_X9_isPast r28 x4) (fun (v10 : Int32) =>
    (if ¬ v10 = 0 then
    j_X9_moves_133 a0 x1 x2 x3 x4 (L_X9_moves_9 a0 k_9_139 n)
    else
    rcv a0 12 fun r27 => call (f_X9_wasMoved r27 x4) (fun (v11 : Int32) =>
    (if v11 = 0 then
    lets (0 : Int32) fun (v12 : Int32) =>
    L_X9_moves_61 a0 x4 (fun (v24 : Int32) (v25 : Int32) (v26 : Int32) => j_X9_moves_133 a0 v24 v25 v26 x4 (L_X9_moves_9 a0 k_9_139 n)) 100000 x1 x2 x3 v12
    else
    j_X9_moves_133 a0 x1 x2 x3 x4 (L_X9_moves_9 a0 k_9_139 n))) nox)) nox))) nox)) hs := rfl
theorem u_L_X9_improve_18 (a0 : Option Nat) (a1 : Int32) (k_18_36 : OO Int32) (n : Nat) (x2 : Int32) (hs : Hs) : L_X9_improve_18 a0 a1 k_18_36 (n + 1) x2 hs = (
    (if (3 : Int32) ≤ x2 then
    k_18_36
    else
    gR a0 12 18 fun v4 =>
    stI v4 x2 (-1 : Int32) (
    lets (x2 + (1 : Int32)) fun (v5 : Int32) =>
    (L_X9_improve_18 a0 a1 k_18_36 n) v5))) hs := rfl
theorem u_L_X9_improve_38 (a0 : Option Nat) (a1 : Int32) (k_38_62 : OO Int32) (n : Nat) (x2 : Int32) (hs : Hs) : L_X9_improve_38 a0 a1 k_38_62 (n + 1) x2 hs = (
    (if (16 : Int32) ≤ x2 then
    k_38_62
    else
    gR a0 12 19 fun v7 =>
    gR a0 12 14 fun v8 =>
    ldI 0 v8 x2 fun v9 =>
    stI v7 x2 v9 (
    lets (x2 + (1 : Int32)) fun (v10 : Int32) =>
    (L_X9_improve_38 a0 a1 k_38_62 n) v10))) hs := rfl
theorem u_L_X9_improve_102 (a0 : Option Nat) (a1 : Int32) (a2 : Int32) (a3 : Int32) (k_102_129 : OO Int32) (n : Nat) (x5 : Int32) (hs : Hs) : L_X9_improve_102 a0 a1 a2 a3 k_102_129 (n + 1) x5 hs = (
    (if (16 : Int32) ≤ x5 then
    k_102_129
    else
    gR a0 12 19 fun v19 =>
    gR a0 12 14 fun v20 =>
    ldI 0 v20 x5 fun v21 =>
    stI v19 x5 v21 (
    lets (x5 + (1 : Int32)) fun (v22 : Int32) =>
    (L_X9_improve_102 a0 a1 a2 a3 k_102_129 n) v22))) hs := rfl
theorem u_L_X9_improve_69 (a0 : Option Nat) (a1 : Int32) (k_69_135 : Int32 → OO Int32) (n : Nat) (x2 : Int32) (x3 : Int32) (hs : Hs) : L_X9_improve_69 a0 a1 k_69_135 (n + 1) x2 x3 hs = (
    (if a1 ≤ x3 then
    k_69_135 x2
    else
    rcv a0 12 fun r25 => call (f_X9_moves r25 ) (fun (v14 : Int32) =>
    (if v14 = 0 then
    k_69_135 x2
    else
    rcv a0 12 fun r24 => call (f_X9_costNow r24 ) (fun (v15 : Int32) =>
    lets v15 fun (v16 : Int32) =>
    (if v16 < x2 then
    lets v16 fun (v17 : Int32) =>
    lets (0 : Int32) fun (v18 : Int32) =>
    L_X9_improve_102 a0 a1 v17 x3 (j_X9_improve_129 a0 a1 v17 x3 (L_X9_improve_69 a0 a1 k_69_135 n)) 100000 v18
    else
    j_X9_improve_129 a0 a1 x2 x3 (L_X9_improve_69 a0 a1 k_69_135 n))) nox)) nox)) hs := rfl
theorem u_L_X9_improve_137 (a0 : Option Nat) (a2 : Int32) (k_137_161 : OO Int32) (n : Nat) (x3 : Int32) (hs : Hs) : L_X9_improve_137 a0 a2 k_137_161 (n + 1) x3 hs = (
    (if (16 : Int32) ≤ x3 then
    k_137_161
    else
    gR a0 12 14 fun v28 =>
    gR a0 12 19 fun v29 =>
    ldI 0 v29 x3 fun v30 =>
    stI v28 x3 v30 (
    lets (x3 + (1 : Int32)) fun (v31 : Int32) =>
    (L_X9_improve_137 a0 a2 k_137_161 n) v31))) hs := rfl
theorem u_L_X9_breaks_4 (a0 : Option Nat) (k_4_68 : Int32 → OO Int32) (n : Nat) (x1 : Int32) (x2 : Int32) (hs : Hs) : L_X9_breaks_4 a0 k_4_68 (n + 1) x1 x2 hs = (
    gI a0 12 24 fun v3 =>
    (if v3 ≤ x2 then
    k_4_68 x1
    else
    rcv a0 12 fun r15 => call (f_X9_isPlaced r15 x2) (fun (v4 : Int32) =>
    (if v4 = 0 then
    j_X9_breaks_59 a0 x2 x1 (L_X9_breaks_4 a0 k_4_68 n)
    else
    rcv a0 12 fun r14 => call (f_X9_isPast r14 x2) (fun (v7 : Int32) =>
    (if ¬ v7 = 0 then
    j_X9_breaks_59 a0 x2 x1 (L_X9_breaks_4 a0 k_4_68 n)
    else
    gR a0 12 14 fun v8 =>
    ldI 0 v8 x2 fun v9 =>
    dvz (8 : Int32) (
    gR a0 12 14 fun v10 =>
    ldI 0 v10 x2 fun v11 =>
    dvz (8 : Int32) (
    rcv a0 12 fun r13 => call (f_X9_letters r13 x2 (v9 / (8 : Int32)) (irem v11 (8 : Int32))) (fun (v12 : Int32) =>
    (if v12 ≤ 0 then
    j_X9_breaks_59 a0 x2 x1 (L_X9_breaks_4 a0 k_4_68 n)
    else
    j_X9_breaks_60 a0 x2 (1 : Int32) x1 (L_X9_breaks_4 a0 k_4_68 n))) nox)))) nox)) nox)) hs := rfl
theorem u_L_X9_lacksAbove_5 (a0 : Option Nat) (a1 : Int32) (a2 : Int32) (k_5_61 : Int32 → OO Int32) (n : Nat) (x3 : Int32) (x4 : Int32) (hs : Hs) : L_X9_lacksAbove_5 a0 a1 a2 k_5_61 (n + 1) x3 x4 hs = (
    gI a0 12 24 fun v3 =>
    (if v3 ≤ x4 then
    k_5_61 x3
    else
    gR a0 12 11 fun v4 =>
    ldI 0 v4 x4 fun v5 =>
    (if ¬ v5 = a1 then
    j_X9_lacksAbove_52 a0 a1 a2 x4 x3 (L_X9_lacksAbove_5 a0 a1 a2 k_5_61 n)
    else
    gR a0 12 5 fun v8 =>
    gR a0 12 9 fun v9 =>
    ldI 0 v9 x4 fun v10 =>
    ldI 0 v8 v10 fun v11 =>
    (if v11 ≤ a2 then
    j_X9_lacksAbove_52 a0 a1 a2 x4 x3 (L_X9_lacksAbove_5 a0 a1 a2 k_5_61 n)
    else
    gR a0 12 12 fun v12 =>
    ldI 0 v12 x4 fun v13 =>
    j_X9_lacksAbove_53 a0 a1 a2 x4 v13 x3 (L_X9_lacksAbove_5 a0 a1 a2 k_5_61 n))))) hs := rfl
theorem u_L_X9_lacksAbove_64 (a0 : Option Nat) (a1 : Int32) (a2 : Int32) (k_64_120 : Int32 → OO Int32) (n : Nat) (x3 : Int32) (x4 : Int32) (hs : Hs) : L_X9_lacksAbove_64 a0 a1 a2 k_64_120 (n + 1) x3 x4 hs = (
    gI a0 12 21 fun v16 =>
    (if v16 ≤ x4 then
    k_64_120 x3
    else
    gR a0 12 1 fun v17 =>
    ldI 0 v17 x4 fun v18 =>
    (if ¬ v18 = a1 then
    j_X9_lacksAbove_111 a0 a1 a2 x4 x3 (L_X9_lacksAbove_64 a0 a1 a2 k_64_120 n)
    else
    gR a0 12 7 fun v21 =>
    ldI 1 v21 x4 fun v22 =>
    (if ¬ v22 = 0 then
    j_X9_lacksAbove_111 a0 a1 a2 x4 x3 (L_X9_lacksAbove_64 a0 a1 a2 k_64_120 n)
    else
    gR a0 12 2 fun v23 =>
    ldI 0 v23 x4 fun v24 =>
    (if v24 ≤ a2 then
    j_X9_lacksAbove_111 a0 a1 a2 x4 x3 (L_X9_lacksAbove_64 a0 a1 a2 k_64_120 n)
    else
    j_X9_lacksAbove_112 a0 a1 a2 x4 (30 : Int32) x3 (L_X9_lacksAbove_64 a0 a1 a2 k_64_120 n)))))) hs := rfl
theorem u_L_X9_lacking_19 (a0 : Option Nat) (a1 : Int32) (k_19_52 : Int32 → OO Int32) (n : Nat) (x2 : Int32) (x3 : Int32) (hs : Hs) : L_X9_lacking_19 a0 a1 k_19_52 (n + 1) x2 x3 hs = (
    (if (100 : Int32) ≤ x3 then
    k_19_52 x2
    else
    rcv a0 12 fun r10 => call (f_X9_lacksAbove r10 a1 x3) (fun (v5 : Int32) =>
    (if v5 ≤ x2 then
    j_X9_lacking_45 a0 a1 x3 x2 (L_X9_lacking_19 a0 a1 k_19_52 n)
    else
    rcv a0 12 fun r9 => call (f_X9_lacksAbove r9 a1 x3) (fun (v8 : Int32) =>
    j_X9_lacking_45 a0 a1 x3 v8 (L_X9_lacking_19 a0 a1 k_19_52 n)) nox)) nox)) hs := rfl
theorem u_L_X9_repairs_4 (a0 : Option Nat) (a1 : Option Nat) (a2 : Int32) (k_4_41 : OO Int32) (n : Nat) (x3 : Int32) (hs : Hs) : L_X9_repairs_4 a0 a1 a2 k_4_41 (n + 1) x3 hs = (
    gI a0 12 24 fun v3 =>
    (if v3 ≤ x3 then
    k_4_41
    else
    ldI 1 a1 x3 fun v4 =>
    (if ¬ v4 = 0 then
    gR a0 12 14 fun v5 =>
    stI v5 x3 (-1 : Int32) (
    gR a0 12 8 fun v6 =>
    stZ v6 x3 (0 : Int32) (
    j_X9_repairs_35 a0 a1 a2 x3 (L_X9_repairs_4 a0 a1 a2 k_4_41 n)))
    else
    j_X9_repairs_35 a0 a1 a2 x3 (L_X9_repairs_4 a0 a1 a2 k_4_41 n)))) hs := rfl
theorem u_L_X9_repairs_47 (a0 : Option Nat) (a1 : Option Nat) (k_47_91 : Int32 → OO Int32) (n : Nat) (x2 : Int32) (x3 : Int32) (hs : Hs) : L_X9_repairs_47 a0 a1 k_47_91 (n + 1) x2 x3 hs = (
    (if x3 < 0 then
    k_47_91 x2
    else
    stZ a1 x3 (0 : Int32) (
    gR a0 12 14 fun v10 =>
    rcv a0 12 fun r18 => call (f_X9_cheapestOf r18 x3) (fun (v11 : Int32) =>
    stI v10 x3 v11 (
    rcv a0 12 fun r17 => call (f_X9_isPlaced r17 x3) (fun (v12 : Int32) =>
    (if v12 = 0 then
    j_X9_repairs_80 a0 a1 (1 : Int32) x2 (L_X9_repairs_47 a0 a1 k_47_91 n)
    else
    j_X9_repairs_80 a0 a1 (0 : Int32) x2 (L_X9_repairs_47 a0 a1 k_47_91 n))) nox)) nox))) hs := rfl
theorem u_j_X9_hasLocked_27 (a0 : Option Nat) (a1 : Option Nat) (a2 : Int32)  (rec_2 : Int32 → OO Int32) (hs : Hs) : j_X9_hasLocked_27 a0 a1 a2 rec_2 hs = (
  lets (a2 + (1 : Int32)) fun (v4 : Int32) =>
    rec_2 v4) hs := rfl
theorem u_f_X9_hasLocked (a0 : Nat) (p1 : Option Nat) (hs : Hs) : f_X9_hasLocked a0 p1 hs = (
    lets (0 : Int32) fun (v1 : Int32) =>
    L_X9_hasLocked_2 (some a0) p1 (retZ (1 : Int32)) (retZ (0 : Int32)) 100000 v1) hs := rfl
theorem u_j_X9_ill_118 (a0 : Option Nat) (a1 : Int32) (a2 : Int32) (a3 : Option Nat) (a4 : Int32) (s0 : Int32) (s1 : Int32) (s2 : Option Nat) (rec_68 : Int32 → OO Int32) (hs : Hs) : j_X9_ill_118 a0 a1 a2 a3 a4 s0 s1 s2 rec_68 hs = (
  stZ s2 s1 s0 (
    lets (a4 + (1 : Int32)) fun (v13 : Int32) =>
    rec_68 v13)) hs := rfl
theorem u_j_X9_ill_117 (a0 : Option Nat) (a1 : Int32) (a2 : Int32) (a3 : Option Nat) (a4 : Int32) (s0 : Int32) (s1 : Option Nat) (rec_68 : Int32 → OO Int32) (hs : Hs) : j_X9_ill_117 a0 a1 a2 a3 a4 s0 s1 rec_68 hs = (
  j_X9_ill_118 a0 a1 a2 a3 a4 (0 : Int32) s0 s1 rec_68) hs := rfl
theorem u_j_X9_ill_139 (a0 : Option Nat) (a1 : Int32) (a2 : Int32) (a3 : Option Nat) (s0 : Int32) (s1 : Option Nat) (hs : Hs) : j_X9_ill_139 a0 a1 a2 a3 s0 s1 hs = (
  pI s1 12 20 s0 (
    gI a0 12 20 fun v19 =>
    (if v19 ≤ 0 then
    gR a0 12 3 fun v20 =>
    ldI 0 v20 a1 fun v21 =>
    stI v20 a1 ((v21 + (((1 : Int32) <<< (a2 &&& 31))))) (
    rcv a0 12 fun r23 => call (f_X9_repairs r23 a3) (fun (v22 : Int32) =>
    rtn v22) nox)
    else
    rtn (0 : Int32)))) hs := rfl
theorem u_j_X9_ill_48 (a0 : Option Nat) (a1 : Int32) (a2 : Int32) (s0 : Int32) (s1 : Option Nat) (hs : Hs) : j_X9_ill_48 a0 a1 a2 s0 s1 hs = (
  pI s1 12 20 s0 (
    gI a0 12 20 fun v6 =>
    (if v6 ≤ 0 then
    nwI 1 (16 : Int32) 16 fun q7 =>
    lets (some q7) fun (v8 : Option Nat) =>
    lets (0 : Int32) fun (v9 : Int32) =>
    L_X9_ill_68 a0 a1 a2 v8 (rcv a0 12 fun r24 => call (f_X9_hasLocked r24 v8) (fun (v18 : Int32) =>
    (if v18 = 0 then
    j_X9_ill_139 a0 a1 a2 v8 (0 : Int32) a0
    else
    j_X9_ill_139 a0 a1 a2 v8 (4 : Int32) a0)) nox) 100000 v9
    else
    rtn (0 : Int32)))) hs := rfl
theorem u_f_X9_ill (a0 : Nat) (p1 : Int32) (p2 : Int32) (hs : Hs) : f_X9_ill a0 p1 p2 hs = (
    rcv (some a0) 12 fun r25 => call (f_X9_isTeacher r25 p1) (fun (v1 : Int32) =>
    (if ¬ v1 = 0 then
    gI (some a0) 12 26 fun v2 =>
    call (f_X9_in p2 v2 (4 : Int32)) (fun (v3 : Int32) =>
    (if ¬ v3 = 0 then
    gR (some a0) 12 3 fun v4 =>
    ldI 0 v4 p1 fun v5 =>
    dvz (2 : Int32) (
    (if ¬ ((irem (v5 >>> (p2 &&& 31)) (2 : Int32))) = (1 : Int32) then
    j_X9_ill_48 (some a0) p1 p2 (0 : Int32) (some a0)
    else
    j_X9_ill_48 (some a0) p1 p2 (3 : Int32) (some a0)))
    else
    j_X9_ill_48 (some a0) p1 p2 (2 : Int32) (some a0))) nox
    else
    j_X9_ill_48 (some a0) p1 p2 (1 : Int32) (some a0))) nox) hs := rfl
theorem u_j_X9_close_82 (a0 : Option Nat) (a1 : Int32) (a2 : Option Nat) (a3 : Int32) (s0 : Int32) (s1 : Int32) (s2 : Option Nat) (rec_46 : Int32 → OO Int32) (hs : Hs) : j_X9_close_82 a0 a1 a2 a3 s0 s1 s2 rec_46 hs = (
  stZ s2 s1 s0 (
    lets (a3 + (1 : Int32)) fun (v10 : Int32) =>
    rec_46 v10)) hs := rfl
theorem u_j_X9_close_81 (a0 : Option Nat) (a1 : Int32) (a2 : Option Nat) (a3 : Int32) (s0 : Int32) (s1 : Option Nat) (rec_46 : Int32 → OO Int32) (hs : Hs) : j_X9_close_81 a0 a1 a2 a3 s0 s1 rec_46 hs = (
  j_X9_close_82 a0 a1 a2 a3 (0 : Int32) s0 s1 rec_46) hs := rfl
theorem u_j_X9_close_153 (a0 : Option Nat) (a2 : Option Nat) (a3 : Int32) (s0 : Int32) (s1 : Int32) (s2 : Option Nat) (rec_124 : Int32 → OO Int32) (hs : Hs) : j_X9_close_153 a0 a2 a3 s0 s1 s2 rec_124 hs = (
  stZ s2 s1 s0 (
    lets (a3 + (1 : Int32)) fun (v20 : Int32) =>
    rec_124 v20)) hs := rfl
theorem u_j_X9_close_152 (a0 : Option Nat) (a2 : Option Nat) (a3 : Int32) (s0 : Int32) (s1 : Option Nat) (rec_124 : Int32 → OO Int32) (hs : Hs) : j_X9_close_152 a0 a2 a3 s0 s1 rec_124 hs = (
  j_X9_close_153 a0 a2 a3 (0 : Int32) s0 s1 rec_124) hs := rfl
theorem u_j_X9_close_103 (a0 : Option Nat) (a1 : Int32) (a2 : Option Nat) (s0 : Int32) (s1 : Option Nat) (hs : Hs) : j_X9_close_103 a0 a1 a2 s0 s1 hs = (
  pI s1 12 20 s0 (
    gI a0 12 20 fun v15 =>
    (if v15 ≤ 0 then
    gR a0 12 7 fun v16 =>
    stZ v16 a1 (1 : Int32) (
    lets (0 : Int32) fun (v17 : Int32) =>
    L_X9_close_124 a0 a2 (rcv a0 12 fun r24 => call (f_X9_repairs r24 a2) (fun (v23 : Int32) =>
    rtn v23) nox) 100000 v17)
    else
    rtn (0 : Int32)))) hs := rfl
theorem u_j_X9_close_27 (a0 : Option Nat) (a1 : Int32) (s0 : Int32) (s1 : Option Nat) (hs : Hs) : j_X9_close_27 a0 a1 s0 s1 hs = (
  pI s1 12 20 s0 (
    gI a0 12 20 fun v4 =>
    (if v4 ≤ 0 then
    nwI 1 (16 : Int32) 16 fun q5 =>
    lets (some q5) fun (v6 : Option Nat) =>
    lets (0 : Int32) fun (v7 : Int32) =>
    L_X9_close_46 a0 a1 v6 (rcv a0 12 fun r25 => call (f_X9_hasLocked r25 v6) (fun (v14 : Int32) =>
    (if v14 = 0 then
    j_X9_close_103 a0 a1 v6 (0 : Int32) a0
    else
    j_X9_close_103 a0 a1 v6 (3 : Int32) a0)) nox) 100000 v7
    else
    rtn (0 : Int32)))) hs := rfl
theorem u_f_X9_close (a0 : Nat) (p1 : Int32) (hs : Hs) : f_X9_close a0 p1 hs = (
    rcv (some a0) 12 fun r26 => call (f_X9_isRoom r26 p1) (fun (v1 : Int32) =>
    (if ¬ v1 = 0 then
    gR (some a0) 12 7 fun v2 =>
    ldI 1 v2 p1 fun v3 =>
    (if v3 = 0 then
    j_X9_close_27 (some a0) p1 (0 : Int32) (some a0)
    else
    j_X9_close_27 (some a0) p1 (2 : Int32) (some a0))
    else
    j_X9_close_27 (some a0) p1 (1 : Int32) (some a0))) nox) hs := rfl
theorem u_j_X9_open_73 (a0 : Option Nat) (a3 : Int32) (s0 : Int32) (s1 : Int32) (rec_50 : Int32 → Int32 → OO Int32) (hs : Hs) : j_X9_open_73 a0 a3 s0 s1 rec_50 hs = (
  lets (s1 + s0) fun (v11 : Int32) =>
    lets (a3 + (1 : Int32)) fun (v12 : Int32) =>
    rec_50 v11 v12) hs := rfl
theorem u_j_X9_open_27 (a0 : Option Nat) (a1 : Int32) (s0 : Int32) (s1 : Option Nat) (hs : Hs) : j_X9_open_27 a0 a1 s0 s1 hs = (
  pI s1 12 20 s0 (
    gI a0 12 20 fun v4 =>
    (if v4 ≤ 0 then
    gR a0 12 7 fun v5 =>
    stZ v5 a1 (0 : Int32) (
    lets (0 : Int32) fun (v6 : Int32) =>
    lets (0 : Int32) fun (v7 : Int32) =>
    L_X9_open_50 a0 (fun (v13 : Int32) => rtn v13) 100000 v6 v7)
    else
    rtn (0 : Int32)))) hs := rfl
theorem u_f_X9_open (a0 : Nat) (p1 : Int32) (hs : Hs) : f_X9_open a0 p1 hs = (
    rcv (some a0) 12 fun r14 => call (f_X9_isRoom r14 p1) (fun (v1 : Int32) =>
    (if ¬ v1 = 0 then
    gR (some a0) 12 7 fun v2 =>
    ldI 1 v2 p1 fun v3 =>
    (if ¬ v3 = 0 then
    j_X9_open_27 (some a0) p1 (0 : Int32) (some a0)
    else
    j_X9_open_27 (some a0) p1 (2 : Int32) (some a0))
    else
    j_X9_open_27 (some a0) p1 (1 : Int32) (some a0))) nox) hs := rfl
theorem u_j_X9_passDay_14 (a0 : Option Nat) (s0 : Int32) (s1 : Option Nat) (hs : Hs) : j_X9_passDay_14 a0 s0 s1 hs = (
  rcv s1 12 fun r5 => call (f_X9_checked r5 s0) (fun (v2 : Int32) =>
    (if v2 ≤ 0 then
    gI a0 12 26 fun v3 =>
    pI a0 12 26 (v3 + (1 : Int32)) (
    gI a0 12 26 fun v4 =>
    rtn v4)
    else
    rtn (0 : Int32))) nox) hs := rfl
theorem u_f_X9_passDay (a0 : Nat) (hs : Hs) : f_X9_passDay a0 hs = (
    gI (some a0) 12 26 fun v1 =>
    (if (4 : Int32) ≤ v1 then
    j_X9_passDay_14 (some a0) (0 : Int32) (some a0)
    else
    j_X9_passDay_14 (some a0) (1 : Int32) (some a0))) hs := rfl
theorem u_j_X9_nextWeek_71 (a0 : Option Nat) (a1 : Int32)  (rec_24 : Int32 → OO Int32) (hs : Hs) : j_X9_nextWeek_71 a0 a1 rec_24 hs = (
  lets (a1 + (1 : Int32)) fun (v6 : Int32) =>
    rec_24 v6) hs := rfl
theorem u_j_X9_nextWeek_148 (a0 : Option Nat) (a1 : Option Nat) (a2 : Int32) (s0 : Int32) (s1 : Int32) (s2 : Option Nat) (rec_99 : Int32 → OO Int32) (hs : Hs) : j_X9_nextWeek_148 a0 a1 a2 s0 s1 s2 rec_99 hs = (
  stZ s2 s1 s0 (
    lets (a2 + (1 : Int32)) fun (v22 : Int32) =>
    rec_99 v22)) hs := rfl
theorem u_j_X9_nextWeek_147 (a0 : Option Nat) (a1 : Option Nat) (a2 : Int32) (s0 : Int32) (s1 : Option Nat) (rec_99 : Int32 → OO Int32) (hs : Hs) : j_X9_nextWeek_147 a0 a1 a2 s0 s1 rec_99 hs = (
  j_X9_nextWeek_148 a0 a1 a2 (0 : Int32) s0 s1 rec_99) hs := rfl
theorem u_j_X9_nextWeek_14 (a0 : Option Nat) (s0 : Int32) (s1 : Option Nat) (hs : Hs) : j_X9_nextWeek_14 a0 s0 s1 hs = (
  rcv s1 12 fun r34 => call (f_X9_checked r34 s0) (fun (v2 : Int32) =>
    (if v2 ≤ 0 then
    lets (0 : Int32) fun (v3 : Int32) =>
    L_X9_nextWeek_24 a0 (pI a0 12 26 (0 : Int32) (
    gI a0 12 27 fun v16 =>
    pI a0 12 27 (v16 + (1 : Int32)) (
    nwI 1 (16 : Int32) 16 fun q17 =>
    lets (some q17) fun (v18 : Option Nat) =>
    lets (0 : Int32) fun (v19 : Int32) =>
    L_X9_nextWeek_99 a0 v18 (rcv a0 12 fun r33 => call (f_X9_repairs r33 v18) (fun (v30 : Int32) =>
    lets v30 fun (v31 : Int32) =>
    gI a0 12 27 fun v32 =>
    rtn v32) nox) 100000 v19))) 100000 v3
    else
    rtn (0 : Int32))) nox) hs := rfl
theorem u_f_X9_nextWeek (a0 : Nat) (hs : Hs) : f_X9_nextWeek a0 hs = (
    gI (some a0) 12 26 fun v1 =>
    (if ¬ v1 = (4 : Int32) then
    j_X9_nextWeek_14 (some a0) (0 : Int32) (some a0)
    else
    j_X9_nextWeek_14 (some a0) (1 : Int32) (some a0))) hs := rfl
theorem u_f_X9_today (a0 : Nat) (hs : Hs) : f_X9_today a0 hs = (
    gI (some a0) 12 26 fun v1 =>
    rcv (some a0) 12 fun r3 => call (f_X9_plain r3 v1) (fun (v2 : Int32) =>
    rtn v2) nox) hs := rfl
theorem u_f_X9_account (a0 : Nat) (p1 : Int32) (hs : Hs) : f_X9_account a0 p1 hs = (
    rcv (some a0) 12 fun r6 => call (f_X9_isTeacher r6 p1) (fun (v1 : Int32) =>
    rcv (some a0) 12 fun r5 => call (f_X9_checked r5 v1) (fun (v2 : Int32) =>
    (if v2 ≤ 0 then
    gR (some a0) 12 4 fun v3 =>
    ldI 0 v3 p1 fun v4 =>
    rtn v4
    else
    rtn (0 : Int32))) nox) nox) hs := rfl
theorem u_f_X9_isVersion (a0 : Nat) (p1 : Int32) (hs : Hs) : f_X9_isVersion a0 p1 hs = (
    gI (some a0) 12 25 fun v1 =>
    call (f_X9_in p1 (0 : Int32) (v1 - (1 : Int32))) (fun (v2 : Int32) =>
    retZ v2) nox) hs := rfl
theorem u_j_X9_save_62 (a0 : Option Nat) (a1 : Int32) (s0 : Int32) (s1 : Int32) (s2 : Option Nat) (rec_25 : Int32 → OO Int32) (hs : Hs) : j_X9_save_62 a0 a1 s0 s1 s2 rec_25 hs = (
  stI s2 s1 s0 (
    lets (a1 + (1 : Int32)) fun (v7 : Int32) =>
    rec_25 v7)) hs := rfl
theorem u_j_X9_save_15 (a0 : Option Nat) (s0 : Int32) (s1 : Option Nat) (hs : Hs) : j_X9_save_15 a0 s0 s1 hs = (
  rcv s1 12 fun r12 => call (f_X9_checked r12 s0) (fun (v2 : Int32) =>
    (if v2 ≤ 0 then
    lets (0 : Int32) fun (v3 : Int32) =>
    L_X9_save_25 a0 (gI a0 12 25 fun v10 =>
    pI a0 12 25 (v10 + (1 : Int32)) (
    gI a0 12 25 fun v11 =>
    rtn (v11 - (1 : Int32)))) 100000 v3
    else
    rtn (0 : Int32))) nox) hs := rfl
theorem u_f_X9_save (a0 : Nat) (hs : Hs) : f_X9_save a0 hs = (
    gI (some a0) 12 25 fun v1 =>
    (if (6 : Int32) ≤ v1 then
    j_X9_save_15 (some a0) (0 : Int32) (some a0)
    else
    j_X9_save_15 (some a0) (1 : Int32) (some a0))) hs := rfl
theorem u_j_X9_placeIn_44 (a0 : Option Nat) (a1 : Int32) (a2 : Int32) (s0 : Int32) (s1 : Option Nat) (hs : Hs) : j_X9_placeIn_44 a0 a1 a2 s0 s1 hs = (
  pI s1 12 20 s0 (
    gI a0 12 20 fun v5 =>
    (if v5 ≤ 0 then
    gR a0 12 16 fun v6 =>
    ldI 0 v6 (((16 : Int32) * a1) + a2) fun v7 =>
    rtn v7
    else
    rtn (0 : Int32)))) hs := rfl
theorem u_f_X9_placeIn (a0 : Nat) (p1 : Int32) (p2 : Int32) (hs : Hs) : f_X9_placeIn a0 p1 p2 hs = (
    rcv (some a0) 12 fun r9 => call (f_X9_isVersion r9 p1) (fun (v1 : Int32) =>
    (if ¬ v1 = 0 then
    rcv (some a0) 12 fun r8 => call (f_X9_isLesson r8 p2) (fun (v2 : Int32) =>
    (if ¬ v2 = 0 then
    gR (some a0) 12 16 fun v3 =>
    ldI 0 v3 (((16 : Int32) * p1) + p2) fun v4 =>
    (if 0 ≤ v4 then
    j_X9_placeIn_44 (some a0) p1 p2 (0 : Int32) (some a0)
    else
    j_X9_placeIn_44 (some a0) p1 p2 (1 : Int32) (some a0))
    else
    j_X9_placeIn_44 (some a0) p1 p2 (2 : Int32) (some a0))) nox
    else
    j_X9_placeIn_44 (some a0) p1 p2 (1 : Int32) (some a0))) nox) hs := rfl
theorem u_L_X9_hasLocked_2 (a0 : Option Nat) (a1 : Option Nat) (k_2_25 : OO Int32) (k_2_33 : OO Int32) (n : Nat) (x2 : Int32) (hs : Hs) : L_X9_hasLocked_2 a0 a1 k_2_25 k_2_33 (n + 1) x2 hs = (
    gI a0 12 24 fun v2 =>
    (if v2 ≤ x2 then
    k_2_33
    else
    ldI 1 a1 x2 fun v3 =>
    (if v3 = 0 then
    j_X9_hasLocked_27 a0 a1 x2 (L_X9_hasLocked_2 a0 a1 k_2_25 k_2_33 n)
    else
    gR a0 12 8 fun v5 =>
    ldI 1 v5 x2 fun v6 =>
    (if v6 = 0 then
    j_X9_hasLocked_27 a0 a1 x2 (L_X9_hasLocked_2 a0 a1 k_2_25 k_2_33 n)
    else
    k_2_25)))) hs := rfl
theorem u_L_X9_ill_68 (a0 : Option Nat) (a1 : Int32) (a2 : Int32) (a3 : Option Nat) (k_68_125 : OO Int32) (n : Nat) (x4 : Int32) (hs : Hs) : L_X9_ill_68 a0 a1 a2 a3 k_68_125 (n + 1) x4 hs = (
    gI a0 12 24 fun v10 =>
    (if v10 ≤ x4 then
    k_68_125
    else
    gR a0 12 10 fun v11 =>
    ldI 0 v11 x4 fun v12 =>
    (if ¬ v12 = a1 then
    j_X9_ill_117 a0 a1 a2 a3 x4 x4 a3 (L_X9_ill_68 a0 a1 a2 a3 k_68_125 n)
    else
    rcv a0 12 fun r17 => call (f_X9_isPlaced r17 x4) (fun (v14 : Int32) =>
    (if v14 = 0 then
    j_X9_ill_117 a0 a1 a2 a3 x4 x4 a3 (L_X9_ill_68 a0 a1 a2 a3 k_68_125 n)
    else
    rcv a0 12 fun r16 => call (f_X9_slotOf r16 x4) (fun (v15 : Int32) =>
    dvz (6 : Int32) (
    (if ¬ (v15 / (6 : Int32)) = a2 then
    j_X9_ill_117 a0 a1 a2 a3 x4 x4 a3 (L_X9_ill_68 a0 a1 a2 a3 k_68_125 n)
    else
    j_X9_ill_118 a0 a1 a2 a3 x4 (1 : Int32) x4 a3 (L_X9_ill_68 a0 a1 a2 a3 k_68_125 n)))) nox)) nox))) hs := rfl
theorem u_L_X9_close_46 (a0 : Option Nat) (a1 : Int32) (a2 : Option Nat) (k_46_89 : OO Int32) (n : Nat) (x3 : Int32) (hs : Hs) : L_X9_close_46 a0 a1 a2 k_46_89 (n + 1) x3 hs = (
    gI a0 12 24 fun v8 =>
    (if v8 ≤ x3 then
    k_46_89
    else
    rcv a0 12 fun r13 => call (f_X9_isPlaced r13 x3) (fun (v9 : Int32) =>
    (if v9 = 0 then
    j_X9_close_81 a0 a1 a2 x3 x3 a2 (L_X9_close_46 a0 a1 a2 k_46_89 n)
    else
    gR a0 12 14 fun v11 =>
    ldI 0 v11 x3 fun v12 =>
    dvz (8 : Int32) (
    (if ¬ (irem v12 (8 : Int32)) = a1 then
    j_X9_close_81 a0 a1 a2 x3 x3 a2 (L_X9_close_46 a0 a1 a2 k_46_89 n)
    else
    j_X9_close_82 a0 a1 a2 x3 (1 : Int32) x3 a2 (L_X9_close_46 a0 a1 a2 k_46_89 n))))) nox)) hs := rfl
theorem u_L_X9_close_124 (a0 : Option Nat) (a2 : Option Nat) (k_124_160 : OO Int32) (n : Nat) (x3 : Int32) (hs : Hs) : L_X9_close_124 a0 a2 k_124_160 (n + 1) x3 hs = (
    gI a0 12 24 fun v18 =>
    (if v18 ≤ x3 then
    k_124_160
    else
    ldI 1 a2 x3 fun v19 =>
    (if v19 = 0 then
    j_X9_close_152 a0 a2 x3 x3 a2 (L_X9_close_124 a0 a2 k_124_160 n)
    else
    rcv a0 12 fun r22 => call (f_X9_isPast r22 x3) (fun (v21 : Int32) =>
    (if ¬ v21 = 0 then
    j_X9_close_152 a0 a2 x3 x3 a2 (L_X9_close_124 a0 a2 k_124_160 n)
    else
    j_X9_close_153 a0 a2 x3 (1 : Int32) x3 a2 (L_X9_close_124 a0 a2 k_124_160 n))) nox))) hs := rfl
theorem u_L_X9_open_50 (a0 : Option Nat) (k_50_81 : Int32 → OO Int32) (n : Nat) (x2 : Int32) (x3 : Int32) (hs : Hs) : L_X9_open_50 a0 k_50_81 (n + 1) x2 x3 hs = (
    gI a0 12 21 fun v8 =>
    (if v8 ≤ x3 then
    k_50_81 x2
    else
    gR a0 12 7 fun v9 =>
    ldI 1 v9 x3 fun v10 =>
    (if v10 = 0 then
    j_X9_open_73 a0 x3 (1 : Int32) x2 (L_X9_open_50 a0 k_50_81 n)
    else
    j_X9_open_73 a0 x3 (0 : Int32) x2 (L_X9_open_50 a0 k_50_81 n)))) hs := rfl
theorem u_L_X9_nextWeek_24 (a0 : Option Nat) (k_24_77 : OO Int32) (n : Nat) (x1 : Int32) (hs : Hs) : L_X9_nextWeek_24 a0 k_24_77 (n + 1) x1 hs = (
    gI a0 12 24 fun v4 =>
    (if v4 ≤ x1 then
    k_24_77
    else
    rcv a0 12 fun r15 => call (f_X9_isLate r15 x1) (fun (v5 : Int32) =>
    (if v5 = 0 then
    j_X9_nextWeek_71 a0 x1 (L_X9_nextWeek_24 a0 k_24_77 n)
    else
    gR a0 12 4 fun v7 =>
    gR a0 12 10 fun v8 =>
    ldI 0 v8 x1 fun v9 =>
    ldI 0 v7 v9 fun v10 =>
    (if (9 : Int32) ≤ v10 then
    j_X9_nextWeek_71 a0 x1 (L_X9_nextWeek_24 a0 k_24_77 n)
    else
    gR a0 12 4 fun v11 =>
    gR a0 12 10 fun v12 =>
    ldI 0 v12 x1 fun v13 =>
    ldI 0 v11 v13 fun v14 =>
    stI v11 v13 (v14 + (1 : Int32)) (
    j_X9_nextWeek_71 a0 x1 (L_X9_nextWeek_24 a0 k_24_77 n))))) nox)) hs := rfl
theorem u_L_X9_nextWeek_99 (a0 : Option Nat) (a1 : Option Nat) (k_99_155 : OO Int32) (n : Nat) (x2 : Int32) (hs : Hs) : L_X9_nextWeek_99 a0 a1 k_99_155 (n + 1) x2 hs = (
    gI a0 12 24 fun v20 =>
    (if v20 ≤ x2 then
    k_99_155
    else
    rcv a0 12 fun r29 => call (f_X9_isPlaced r29 x2) (fun (v21 : Int32) =>
    (if v21 = 0 then
    j_X9_nextWeek_147 a0 a1 x2 x2 a1 (L_X9_nextWeek_99 a0 a1 k_99_155 n)
    else
    gR a0 12 14 fun v23 =>
    ldI 0 v23 x2 fun v24 =>
    dvz (8 : Int32) (
    gR a0 12 14 fun v25 =>
    ldI 0 v25 x2 fun v26 =>
    dvz (8 : Int32) (
    rcv a0 12 fun r28 => call (f_X9_letters r28 x2 (v24 / (8 : Int32)) (irem v26 (8 : Int32))) (fun (v27 : Int32) =>
    (if v27 ≤ 0 then
    j_X9_nextWeek_147 a0 a1 x2 x2 a1 (L_X9_nextWeek_99 a0 a1 k_99_155 n)
    else
    j_X9_nextWeek_148 a0 a1 x2 (1 : Int32) x2 a1 (L_X9_nextWeek_99 a0 a1 k_99_155 n))) nox)))) nox)) hs := rfl
theorem u_L_X9_save_25 (a0 : Option Nat) (k_25_69 : OO Int32) (n : Nat) (x1 : Int32) (hs : Hs) : L_X9_save_25 a0 k_25_69 (n + 1) x1 hs = (
    (if (16 : Int32) ≤ x1 then
    k_25_69
    else
    gR a0 12 16 fun v4 =>
    gI a0 12 25 fun v5 =>
    gI a0 12 24 fun v6 =>
    (if v6 ≤ x1 then
    j_X9_save_62 a0 x1 (-1 : Int32) (((16 : Int32) * v5) + x1) v4 (L_X9_save_25 a0 k_25_69 n)
    else
    gR a0 12 14 fun v8 =>
    ldI 0 v8 x1 fun v9 =>
    j_X9_save_62 a0 x1 v9 (((16 : Int32) * v5) + x1) v4 (L_X9_save_25 a0 k_25_69 n)))) hs := rfl
theorem u_j_X9_differences_75 (a0 : Option Nat) (a1 : Int32) (a2 : Int32) (a4 : Int32) (s0 : Int32) (s1 : Int32) (rec_35 : Int32 → Int32 → OO Int32) (hs : Hs) : j_X9_differences_75 a0 a1 a2 a4 s0 s1 rec_35 hs = (
  lets (s1 + s0) fun (v9 : Int32) =>
    lets (a4 + (1 : Int32)) fun (v10 : Int32) =>
    rec_35 v9 v10) hs := rfl
theorem u_j_X9_differences_22 (a0 : Option Nat) (a1 : Int32) (a2 : Int32) (s0 : Int32) (s1 : Option Nat) (hs : Hs) : j_X9_differences_22 a0 a1 a2 s0 s1 hs = (
  rcv s1 12 fun r12 => call (f_X9_checked r12 s0) (fun (v2 : Int32) =>
    (if v2 ≤ 0 then
    lets (0 : Int32) fun (v3 : Int32) =>
    lets (0 : Int32) fun (v4 : Int32) =>
    L_X9_differences_35 a0 a1 a2 (fun (v11 : Int32) => rtn v11) 100000 v3 v4
    else
    rtn (0 : Int32))) nox) hs := rfl
theorem u_j_X9_differences_21 (a0 : Option Nat) (a1 : Int32) (a2 : Int32) (s0 : Option Nat) (hs : Hs) : j_X9_differences_21 a0 a1 a2 s0 hs = (
  j_X9_differences_22 a0 a1 a2 (0 : Int32) s0) hs := rfl
theorem u_f_X9_differences (a0 : Nat) (p1 : Int32) (p2 : Int32) (hs : Hs) : f_X9_differences a0 p1 p2 hs = (
    rcv (some a0) 12 fun r15 => call (f_X9_isVersion r15 p1) (fun (v1 : Int32) =>
    (if v1 = 0 then
    j_X9_differences_21 (some a0) p1 p2 (some a0)
    else
    rcv (some a0) 12 fun r14 => call (f_X9_isVersion r14 p2) (fun (v13 : Int32) =>
    (if v13 = 0 then
    j_X9_differences_21 (some a0) p1 p2 (some a0)
    else
    j_X9_differences_22 (some a0) p1 p2 (1 : Int32) (some a0))) nox)) nox) hs := rfl
theorem u_j_X9_setsFree_39 (a0 : Option Nat) (a1 : Option Nat) (a2 : Int32) (s0 : Int32) (s1 : Int32) (s2 : Option Nat) (rec_7 : Int32 → OO Unit) (hs : Hs) : j_X9_setsFree_39 a0 a1 a2 s0 s1 s2 rec_7 hs = (
  stZ s2 s1 s0 (
    lets (a2 + (1 : Int32)) fun (v7 : Int32) =>
    rec_7 v7)) hs := rfl
theorem u_j_X9_setsFree_38 (a0 : Option Nat) (a1 : Option Nat) (a2 : Int32) (s0 : Int32) (s1 : Option Nat) (rec_7 : Int32 → OO Unit) (hs : Hs) : j_X9_setsFree_38 a0 a1 a2 s0 s1 rec_7 hs = (
  j_X9_setsFree_39 a0 a1 a2 (0 : Int32) s0 s1 rec_7) hs := rfl
theorem u_j_X9_setsFree_69 (a0 : Option Nat) (a1 : Option Nat) (a2 : Int32)  (rec_48 : Int32 → OO Unit) (hs : Hs) : j_X9_setsFree_69 a0 a1 a2 rec_48 hs = (
  lets (a2 + (1 : Int32)) fun (v13 : Int32) =>
    rec_48 v13) hs := rfl
theorem u_j_X9_setsFree_126 (a0 : Option Nat) (a1 : Option Nat) (a2 : Int32)  (rec_77 : Int32 → OO Unit) (hs : Hs) : j_X9_setsFree_126 a0 a1 a2 rec_77 hs = (
  lets (a2 + (1 : Int32)) fun (v18 : Int32) =>
    rec_77 v18) hs := rfl
theorem u_f_X9_setsFree (a0 : Nat) (hs : Hs) : f_X9_setsFree a0 hs = (
    nwI 1 (16 : Int32) 16 fun q1 =>
    lets (some q1) fun (v2 : Option Nat) =>
    lets (0 : Int32) fun (v3 : Int32) =>
    L_X9_setsFree_7 (some a0) v2 (lets (0 : Int32) fun (v10 : Int32) =>
    L_X9_setsFree_48 (some a0) v2 (lets (0 : Int32) fun (v15 : Int32) =>
    L_X9_setsFree_77 (some a0) v2 (rtn ()) 100000 v15) 100000 v10) 100000 v3) hs := rfl
theorem u_j_X9_restore_87 (a0 : Option Nat) (a1 : Int32) (a3 : Int32) (s0 : Int32) (s1 : Int32) (rec_53 : Int32 → Int32 → OO Int32) (hs : Hs) : j_X9_restore_87 a0 a1 a3 s0 s1 rec_53 hs = (
  lets (s1 + s0) fun (v16 : Int32) =>
    lets (a3 + (1 : Int32)) fun (v17 : Int32) =>
    rec_53 v16 v17) hs := rfl
theorem u_f_X9_restore (a0 : Nat) (p1 : Int32) (hs : Hs) : f_X9_restore a0 p1 hs = (
    rcv (some a0) 12 fun r21 => call (f_X9_isVersion r21 p1) (fun (v1 : Int32) =>
    rcv (some a0) 12 fun r20 => call (f_X9_checked r20 v1) (fun (v2 : Int32) =>
    (if v2 ≤ 0 then
    lets (0 : Int32) fun (v3 : Int32) =>
    L_X9_restore_16 (some a0) p1 (rcv (some a0) 12 fun r19 => call (f_X9_setsFree r19 ) (fun (v8 : Unit) =>
    lets (0 : Int32) fun (v9 : Int32) =>
    lets (0 : Int32) fun (v10 : Int32) =>
    L_X9_restore_53 (some a0) p1 (fun (v18 : Int32) => rtn v18) 100000 v9 v10) nox) 100000 v3
    else
    rtn (0 : Int32))) nox) nox) hs := rfl
theorem u_j_X9_merge_147 (a0 : Option Nat) (a1 : Int32) (a2 : Int32) (a4 : Int32) (s0 : Int32) (s1 : Int32) (rec_35 : Int32 → Int32 → OO Int32) (hs : Hs) : j_X9_merge_147 a0 a1 a2 a4 s0 s1 rec_35 hs = (
  lets (s1 + s0) fun (v15 : Int32) =>
    lets (a4 + (1 : Int32)) fun (v16 : Int32) =>
    rec_35 v15 v16) hs := rfl
theorem u_j_X9_merge_146 (a0 : Option Nat) (a1 : Int32) (a2 : Int32) (a4 : Int32) (s0 : Int32) (rec_35 : Int32 → Int32 → OO Int32) (hs : Hs) : j_X9_merge_146 a0 a1 a2 a4 s0 rec_35 hs = (
  j_X9_merge_147 a0 a1 a2 a4 (0 : Int32) s0 rec_35) hs := rfl
theorem u_j_X9_merge_109 (a0 : Option Nat) (a1 : Int32) (a2 : Int32) (a3 : Int32) (a4 : Int32) (a5 : Int32) (a6 : Int32) (s0 : Int32) (s1 : Int32) (s2 : Option Nat) (rec_35 : Int32 → Int32 → OO Int32) (hs : Hs) : j_X9_merge_109 a0 a1 a2 a3 a4 a5 a6 s0 s1 s2 rec_35 hs = (
  stI s2 s1 s0 (
    (if a6 = a5 then
    j_X9_merge_146 a0 a1 a2 a4 a3 rec_35
    else
    gR a0 12 14 fun v17 =>
    ldI 0 v17 a4 fun v18 =>
    (if v18 = a5 then
    j_X9_merge_146 a0 a1 a2 a4 a3 rec_35
    else
    gR a0 12 14 fun v19 =>
    ldI 0 v19 a4 fun v20 =>
    (if v20 = a6 then
    j_X9_merge_146 a0 a1 a2 a4 a3 rec_35
    else
    j_X9_merge_147 a0 a1 a2 a4 (1 : Int32) a3 rec_35))))) hs := rfl
theorem u_j_X9_merge_102 (a0 : Option Nat) (a1 : Int32) (a2 : Int32) (a3 : Int32) (a4 : Int32) (a5 : Int32) (a6 : Int32) (s0 : Int32) (s1 : Option Nat) (rec_35 : Int32 → Int32 → OO Int32) (hs : Hs) : j_X9_merge_102 a0 a1 a2 a3 a4 a5 a6 s0 s1 rec_35 hs = (
  gR a0 12 14 fun v13 =>
    ldI 0 v13 a4 fun v14 =>
    j_X9_merge_109 a0 a1 a2 a3 a4 a5 a6 v14 s0 s1 rec_35) hs := rfl
theorem u_j_X9_merge_22 (a0 : Option Nat) (a1 : Int32) (a2 : Int32) (s0 : Int32) (s1 : Option Nat) (hs : Hs) : j_X9_merge_22 a0 a1 a2 s0 s1 hs = (
  rcv s1 12 fun r26 => call (f_X9_checked r26 s0) (fun (v2 : Int32) =>
    (if v2 ≤ 0 then
    lets (0 : Int32) fun (v3 : Int32) =>
    lets (0 : Int32) fun (v4 : Int32) =>
    L_X9_merge_35 a0 a1 a2 (fun (v23 : Int32) => rcv a0 12 fun r25 => call (f_X9_setsFree r25 ) (fun (v24 : Unit) =>
    rtn v23) nox) 100000 v3 v4
    else
    rtn (0 : Int32))) nox) hs := rfl
theorem u_j_X9_merge_21 (a0 : Option Nat) (a1 : Int32) (a2 : Int32) (s0 : Option Nat) (hs : Hs) : j_X9_merge_21 a0 a1 a2 s0 hs = (
  j_X9_merge_22 a0 a1 a2 (0 : Int32) s0) hs := rfl
theorem u_f_X9_merge (a0 : Nat) (p1 : Int32) (p2 : Int32) (hs : Hs) : f_X9_merge a0 p1 p2 hs = (
    rcv (some a0) 12 fun r29 => call (f_X9_isVersion r29 p1) (fun (v1 : Int32) =>
    (if v1 = 0 then
    j_X9_merge_21 (some a0) p1 p2 (some a0)
    else
    rcv (some a0) 12 fun r28 => call (f_X9_isVersion r28 p2) (fun (v27 : Int32) =>
    (if v27 = 0 then
    j_X9_merge_21 (some a0) p1 p2 (some a0)
    else
    j_X9_merge_22 (some a0) p1 p2 (1 : Int32) (some a0))) nox)) nox) hs := rfl
theorem u_j_X9_placedShare_26 (a0 : Option Nat) (a2 : Int32) (s0 : Int32) (s1 : Int32) (rec_4 : Int32 → Int32 → OO UInt32) (hs : Hs) : j_X9_placedShare_26 a0 a2 s0 s1 rec_4 hs = (
  lets (s1 + s0) fun (v5 : Int32) =>
    lets (a2 + (1 : Int32)) fun (v6 : Int32) =>
    rec_4 v5 v6) hs := rfl
theorem u_j_X9_placedShare_47 (a0 : Option Nat) (a1 : Int32) (s0 : Int32) (s1 : Option Nat) (hs : Hs) : j_X9_placedShare_47 a0 a1 s0 s1 hs = (
  rcv s1 12 fun r13 => call (f_X9_checked r13 s0) (fun (v10 : Int32) =>
    (if v10 ≤ 0 then
    gI a0 12 24 fun v11 =>
    fdv (FP.i2f a1) (FP.i2f v11) fun v12 =>
    rtn v12
    else
    rtn FP.fconst0)) nox) hs := rfl
theorem u_f_X9_placedShare (a0 : Nat) (hs : Hs) : f_X9_placedShare a0 hs = (
    lets (0 : Int32) fun (v1 : Int32) =>
    lets (0 : Int32) fun (v2 : Int32) =>
    L_X9_placedShare_4 (some a0) (fun (v8 : Int32) => gI (some a0) 12 24 fun v9 =>
    (if v9 ≤ 0 then
    j_X9_placedShare_47 (some a0) v8 (0 : Int32) (some a0)
    else
    j_X9_placedShare_47 (some a0) v8 (1 : Int32) (some a0))) 100000 v1 v2) hs := rfl
theorem u_j_X9_meanPossible_39 (a0 : Option Nat) (a1 : Int32) (s0 : Int32) (s1 : Option Nat) (hs : Hs) : j_X9_meanPossible_39 a0 a1 s0 s1 hs = (
  rcv s1 12 fun r13 => call (f_X9_checked r13 s0) (fun (v10 : Int32) =>
    (if v10 ≤ 0 then
    gI a0 12 24 fun v11 =>
    ddv (FP.i2d a1) (FP.i2d v11) fun v12 =>
    rtn v12
    else
    rtn FP.dconst0)) nox) hs := rfl
theorem u_f_X9_meanPossible (a0 : Nat) (hs : Hs) : f_X9_meanPossible a0 hs = (
    lets (0 : Int32) fun (v1 : Int32) =>
    lets (0 : Int32) fun (v2 : Int32) =>
    L_X9_meanPossible_4 (some a0) (fun (v8 : Int32) => gI (some a0) 12 24 fun v9 =>
    (if v9 ≤ 0 then
    j_X9_meanPossible_39 (some a0) v8 (0 : Int32) (some a0)
    else
    j_X9_meanPossible_39 (some a0) v8 (1 : Int32) (some a0))) 100000 v1 v2) hs := rfl
theorem u_f_X9_isSound (a0 : Nat) (hs : Hs) : f_X9_isSound a0 hs = (
    pI (some a0) 12 20 (0 : Int32) (
    retZ (1 : Int32))) hs := rfl
theorem u_L_X9_differences_35 (a0 : Option Nat) (a1 : Int32) (a2 : Int32) (k_35_83 : Int32 → OO Int32) (n : Nat) (x3 : Int32) (x4 : Int32) (hs : Hs) : L_X9_differences_35 a0 a1 a2 k_35_83 (n + 1) x3 x4 hs = (
    (if (16 : Int32) ≤ x4 then
    k_35_83 x3
    else
    gR a0 12 16 fun v5 =>
    ldI 0 v5 (((16 : Int32) * a1) + x4) fun v6 =>
    gR a0 12 16 fun v7 =>
    ldI 0 v7 (((16 : Int32) * a2) + x4) fun v8 =>
    (if v6 = v8 then
    j_X9_differences_75 a0 a1 a2 x4 (0 : Int32) x3 (L_X9_differences_35 a0 a1 a2 k_35_83 n)
    else
    j_X9_differences_75 a0 a1 a2 x4 (1 : Int32) x3 (L_X9_differences_35 a0 a1 a2 k_35_83 n)))) hs := rfl
theorem u_L_X9_setsFree_7 (a0 : Option Nat) (a1 : Option Nat) (k_7_46 : OO Unit) (n : Nat) (x2 : Int32) (hs : Hs) : L_X9_setsFree_7 a0 a1 k_7_46 (n + 1) x2 hs = (
    gI a0 12 24 fun v4 =>
    (if v4 ≤ x2 then
    k_7_46
    else
    gR a0 12 8 fun v5 =>
    ldI 1 v5 x2 fun v6 =>
    (if ¬ v6 = 0 then
    j_X9_setsFree_38 a0 a1 x2 x2 a1 (L_X9_setsFree_7 a0 a1 k_7_46 n)
    else
    rcv a0 12 fun r9 => call (f_X9_isPast r9 x2) (fun (v8 : Int32) =>
    (if ¬ v8 = 0 then
    j_X9_setsFree_38 a0 a1 x2 x2 a1 (L_X9_setsFree_7 a0 a1 k_7_46 n)
    else
    j_X9_setsFree_39 a0 a1 x2 (1 : Int32) x2 a1 (L_X9_setsFree_7 a0 a1 k_7_46 n))) nox))) hs := rfl
theorem u_L_X9_setsFree_48 (a0 : Option Nat) (a1 : Option Nat) (k_48_75 : OO Unit) (n : Nat) (x2 : Int32) (hs : Hs) : L_X9_setsFree_48 a0 a1 k_48_75 (n + 1) x2 hs = (
    gI a0 12 24 fun v11 =>
    (if v11 ≤ x2 then
    k_48_75
    else
    ldI 1 a1 x2 fun v12 =>
    (if v12 = 0 then
    j_X9_setsFree_69 a0 a1 x2 (L_X9_setsFree_48 a0 a1 k_48_75 n)
    else
    gR a0 12 14 fun v14 =>
    stI v14 x2 (-1 : Int32) (
    j_X9_setsFree_69 a0 a1 x2 (L_X9_setsFree_48 a0 a1 k_48_75 n))))) hs := rfl
theorem u_L_X9_setsFree_77 (a0 : Option Nat) (a1 : Option Nat) (k_77_132 : OO Unit) (n : Nat) (x2 : Int32) (hs : Hs) : L_X9_setsFree_77 a0 a1 k_77_132 (n + 1) x2 hs = (
    gI a0 12 24 fun v16 =>
    (if v16 ≤ x2 then
    k_77_132
    else
    ldI 1 a1 x2 fun v17 =>
    (if v17 = 0 then
    j_X9_setsFree_126 a0 a1 x2 (L_X9_setsFree_77 a0 a1 k_77_132 n)
    else
    gR a0 12 17 fun v19 =>
    ldI 0 v19 x2 fun v20 =>
    (if v20 < 0 then
    j_X9_setsFree_126 a0 a1 x2 (L_X9_setsFree_77 a0 a1 k_77_132 n)
    else
    gR a0 12 17 fun v21 =>
    ldI 0 v21 x2 fun v22 =>
    rcv a0 12 fun r27 => call (f_X9_isPossible r27 x2 v22) (fun (v23 : Int32) =>
    (if v23 = 0 then
    j_X9_setsFree_126 a0 a1 x2 (L_X9_setsFree_77 a0 a1 k_77_132 n)
    else
    gR a0 12 14 fun v24 =>
    gR a0 12 17 fun v25 =>
    ldI 0 v25 x2 fun v26 =>
    stI v24 x2 v26 (
    j_X9_setsFree_126 a0 a1 x2 (L_X9_setsFree_77 a0 a1 k_77_132 n)))) nox)))) hs := rfl
theorem u_L_X9_restore_16 (a0 : Option Nat) (a1 : Int32) (k_16_45 : OO Int32) (n : Nat) (x2 : Int32) (hs : Hs) : L_X9_restore_16 a0 a1 k_16_45 (n + 1) x2 hs = (
    (if (16 : Int32) ≤ x2 then
    k_16_45
    else
    gR a0 12 17 fun v4 =>
    gR a0 12 16 fun v5 =>
    ldI 0 v5 (((16 : Int32) * a1) + x2) fun v6 =>
    stI v4 x2 v6 (
    lets (x2 + (1 : Int32)) fun (v7 : Int32) =>
    (L_X9_restore_16 a0 a1 k_16_45 n) v7))) hs := rfl
theorem u_L_X9_restore_53 (a0 : Option Nat) (a1 : Int32) (k_53_95 : Int32 → OO Int32) (n : Nat) (x2 : Int32) (x3 : Int32) (hs : Hs) : L_X9_restore_53 a0 a1 k_53_95 (n + 1) x2 x3 hs = (
    gI a0 12 24 fun v11 =>
    (if v11 ≤ x3 then
    k_53_95 x2
    else
    gR a0 12 14 fun v12 =>
    ldI 0 v12 x3 fun v13 =>
    gR a0 12 16 fun v14 =>
    ldI 0 v14 (((16 : Int32) * a1) + x3) fun v15 =>
    (if v13 = v15 then
    j_X9_restore_87 a0 a1 x3 (0 : Int32) x2 (L_X9_restore_53 a0 a1 k_53_95 n)
    else
    j_X9_restore_87 a0 a1 x3 (1 : Int32) x2 (L_X9_restore_53 a0 a1 k_53_95 n)))) hs := rfl
theorem u_L_X9_merge_35 (a0 : Option Nat) (a1 : Int32) (a2 : Int32) (k_35_155 : Int32 → OO Int32) (n : Nat) (x3 : Int32) (x4 : Int32) (hs : Hs) : L_X9_merge_35 a0 a1 a2 k_35_155 (n + 1) x3 x4 hs = (
    gI a0 12 24 fun v5 =>
    (if v5 ≤ x4 then
    k_35_155 x3
    else
    gR a0 12 16 fun v6 =>
    ldI 0 v6 (((16 : Int32) * a1) + x4) fun v7 =>
    lets v7 fun (v8 : Int32) =>
    gR a0 12 16 fun v9 =>
    ldI 0 v9 (((16 : Int32) * a2) + x4) fun v10 =>
    lets v10 fun (v11 : Int32) =>
    gR a0 12 17 fun v12 =>
    (if v11 = v8 then
    j_X9_merge_102 a0 a1 a2 x3 x4 v8 v11 x4 v12 (L_X9_merge_35 a0 a1 a2 k_35_155 n)
    else
    gR a0 12 14 fun v21 =>
    ldI 0 v21 x4 fun v22 =>
    (if ¬ v22 = v8 then
    j_X9_merge_102 a0 a1 a2 x3 x4 v8 v11 x4 v12 (L_X9_merge_35 a0 a1 a2 k_35_155 n)
    else
    j_X9_merge_109 a0 a1 a2 x3 x4 v8 v11 v11 x4 v12 (L_X9_merge_35 a0 a1 a2 k_35_155 n))))) hs := rfl
theorem u_L_X9_placedShare_4 (a0 : Option Nat) (k_4_34 : Int32 → OO UInt32) (n : Nat) (x1 : Int32) (x2 : Int32) (hs : Hs) : L_X9_placedShare_4 a0 k_4_34 (n + 1) x1 x2 hs = (
    gI a0 12 24 fun v3 =>
    (if v3 ≤ x2 then
    k_4_34 x1
    else
    rcv a0 12 fun r7 => call (f_X9_isPlaced r7 x2) (fun (v4 : Int32) =>
    (if v4 = 0 then
    j_X9_placedShare_26 a0 x2 (0 : Int32) x1 (L_X9_placedShare_4 a0 k_4_34 n)
    else
    j_X9_placedShare_26 a0 x2 (1 : Int32) x1 (L_X9_placedShare_4 a0 k_4_34 n))) nox)) hs := rfl
theorem u_L_X9_meanPossible_4 (a0 : Option Nat) (k_4_26 : Int32 → OO UInt64) (n : Nat) (x1 : Int32) (x2 : Int32) (hs : Hs) : L_X9_meanPossible_4 a0 k_4_26 (n + 1) x1 x2 hs = (
    gI a0 12 24 fun v3 =>
    (if v3 ≤ x2 then
    k_4_26 x1
    else
    rcv a0 12 fun r7 => call (f_X9_manyPossible r7 x2) (fun (v4 : Int32) =>
    lets (x1 + v4) fun (v5 : Int32) =>
    lets (x2 + (1 : Int32)) fun (v6 : Int32) =>
    (L_X9_meanPossible_4 a0 k_4_26 n) v5 v6) nox)) hs := rfl
