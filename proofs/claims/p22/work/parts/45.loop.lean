def flaw (N K L : Nat) (xs : Nat → Int32) : Nat → Int32 → CS → MS → Int64 → Option Int32
  | 0, _, _, _, _ => none
  | fu + 1, i, S, M, nv =>
    (if (Int32.ofNat L - (6 : Int32)) < i then some 1 else (if i < 0 ∨ L ≤ i.toNatClampNeg then none else (if (xs i.toNatClampNeg &&& (63 : Int32)) = (0 : Int32) then flc_0 N K L xs (flaw N K L xs fu) i S M nv else (if (xs i.toNatClampNeg &&& (63 : Int32)) = (1 : Int32) then flc_1 N K L xs (flaw N K L xs fu) i S M nv else (if (xs i.toNatClampNeg &&& (63 : Int32)) = (2 : Int32) then flc_2 N K L xs (flaw N K L xs fu) i S M nv else (if (xs i.toNatClampNeg &&& (63 : Int32)) = (3 : Int32) then flc_3 N K L xs (flaw N K L xs fu) i S M nv else (if (xs i.toNatClampNeg &&& (63 : Int32)) = (4 : Int32) then flc_4 N K L xs (flaw N K L xs fu) i S M nv else (if (xs i.toNatClampNeg &&& (63 : Int32)) = (5 : Int32) then flc_5 N K L xs (flaw N K L xs fu) i S M nv else (if (xs i.toNatClampNeg &&& (63 : Int32)) = (6 : Int32) then flc_6 N K L xs (flaw N K L xs fu) i S M nv else (if (xs i.toNatClampNeg &&& (63 : Int32)) = (7 : Int32) then flc_7 N K L xs (flaw N K L xs fu) i S M nv else (if (xs i.toNatClampNeg &&& (63 : Int32)) = (8 : Int32) then flc_8 N K L xs (flaw N K L xs fu) i S M nv else (if (xs i.toNatClampNeg &&& (63 : Int32)) = (9 : Int32) then flc_9 N K L xs (flaw N K L xs fu) i S M nv else (if (xs i.toNatClampNeg &&& (63 : Int32)) = (10 : Int32) then flc_10 N K L xs (flaw N K L xs fu) i S M nv else (if (xs i.toNatClampNeg &&& (63 : Int32)) = (11 : Int32) then flc_11 N K L xs (flaw N K L xs fu) i S M nv else (if (xs i.toNatClampNeg &&& (63 : Int32)) = (12 : Int32) then flc_12 N K L xs (flaw N K L xs fu) i S M nv else (if (xs i.toNatClampNeg &&& (63 : Int32)) = (13 : Int32) then flc_13 N K L xs (flaw N K L xs fu) i S M nv else (if (xs i.toNatClampNeg &&& (63 : Int32)) = (14 : Int32) then flc_14 N K L xs (flaw N K L xs fu) i S M nv else (if (xs i.toNatClampNeg &&& (63 : Int32)) = (15 : Int32) then flc_15 N K L xs (flaw N K L xs fu) i S M nv else (if (xs i.toNatClampNeg &&& (63 : Int32)) = (16 : Int32) then flc_16 N K L xs (flaw N K L xs fu) i S M nv else (if (xs i.toNatClampNeg &&& (63 : Int32)) = (17 : Int32) then flc_17 N K L xs (flaw N K L xs fu) i S M nv else (if (xs i.toNatClampNeg &&& (63 : Int32)) = (18 : Int32) then flc_18 N K L xs (flaw N K L xs fu) i S M nv else (if (xs i.toNatClampNeg &&& (63 : Int32)) = (19 : Int32) then flc_19 N K L xs (flaw N K L xs fu) i S M nv else (if (xs i.toNatClampNeg &&& (63 : Int32)) = (20 : Int32) then flc_20 N K L xs (flaw N K L xs fu) i S M nv else (if (xs i.toNatClampNeg &&& (63 : Int32)) = (21 : Int32) then flc_21 N K L xs (flaw N K L xs fu) i S M nv else (if (xs i.toNatClampNeg &&& (63 : Int32)) = (22 : Int32) then flc_22 N K L xs (flaw N K L xs fu) i S M nv else (if (xs i.toNatClampNeg &&& (63 : Int32)) = (23 : Int32) then flc_23 N K L xs (flaw N K L xs fu) i S M nv else (if (xs i.toNatClampNeg &&& (63 : Int32)) = (24 : Int32) then flc_24 N K L xs (flaw N K L xs fu) i S M nv else (if (xs i.toNatClampNeg &&& (63 : Int32)) = (25 : Int32) then flc_25 N K L xs (flaw N K L xs fu) i S M nv else (if (xs i.toNatClampNeg &&& (63 : Int32)) = (26 : Int32) then flc_26 N K L xs (flaw N K L xs fu) i S M nv else (if (xs i.toNatClampNeg &&& (63 : Int32)) = (27 : Int32) then flc_27 N K L xs (flaw N K L xs fu) i S M nv else (if (xs i.toNatClampNeg &&& (63 : Int32)) = (28 : Int32) then flc_28 N K L xs (flaw N K L xs fu) i S M nv else (if (xs i.toNatClampNeg &&& (63 : Int32)) = (29 : Int32) then flc_29 N K L xs (flaw N K L xs fu) i S M nv else (if (xs i.toNatClampNeg &&& (63 : Int32)) = (30 : Int32) then flc_30 N K L xs (flaw N K L xs fu) i S M nv else (if (xs i.toNatClampNeg &&& (63 : Int32)) = (31 : Int32) then flc_31 N K L xs (flaw N K L xs fu) i S M nv else (if (xs i.toNatClampNeg &&& (63 : Int32)) = (32 : Int32) then flc_32 N K L xs (flaw N K L xs fu) i S M nv else (if (xs i.toNatClampNeg &&& (63 : Int32)) = (33 : Int32) then flc_33 N K L xs (flaw N K L xs fu) i S M nv else (if (xs i.toNatClampNeg &&& (63 : Int32)) = (34 : Int32) then flc_34 N K L xs (flaw N K L xs fu) i S M nv else (if (xs i.toNatClampNeg &&& (63 : Int32)) = (35 : Int32) then flc_35 N K L xs (flaw N K L xs fu) i S M nv else (if (xs i.toNatClampNeg &&& (63 : Int32)) = (36 : Int32) then flc_36 N K L xs (flaw N K L xs fu) i S M nv else (if (xs i.toNatClampNeg &&& (63 : Int32)) = (37 : Int32) then flc_37 N K L xs (flaw N K L xs fu) i S M nv else (if (xs i.toNatClampNeg &&& (63 : Int32)) = (38 : Int32) then flc_38 N K L xs (flaw N K L xs fu) i S M nv else (if (xs i.toNatClampNeg &&& (63 : Int32)) = (39 : Int32) then flc_39 N K L xs (flaw N K L xs fu) i S M nv else (if (xs i.toNatClampNeg &&& (63 : Int32)) = (40 : Int32) then flc_40 N K L xs (flaw N K L xs fu) i S M nv else (if (xs i.toNatClampNeg &&& (63 : Int32)) = (41 : Int32) then flc_41 N K L xs (flaw N K L xs fu) i S M nv else flaw N K L xs fu (i + (6 : Int32)) S M nv))))))))))))))))))))))))))))))))))))))))))))
set_option maxHeartbeats 4000000 in
set_option maxRecDepth 100000 in
theorem tlaw {nm : String} {hh : List (Nat × Nat × Nat × Nat)} {N K b L : Nat} {xs : Nat → Int32} {r rq : Nat → Nat} {o : Nat} : ∀ (fu : Nat) (i : Int32) (S : CS) (M : MS) (nv : Int64) (sv : Value), AW RL nm cL_law 7 (some .boolean) hh (XS b L xs) (2 * K + 20) (PZ) (fu * 300) (fu * 17000) (flaw N K L xs fu i S M nv) 27 [(0, .ref b), (1, .ref (r 0)), (2, .ref (rq 0)), (3, .ref o), (4, .int i)] [] (WA r rq o S M nv sv) := by
  intro fu
  induction fu with
  | zero => intro i S M nv sv; exact aw_none
  | succ fu ih =>
    intro i S M nv sv
    unfold flaw
    refine aw_iload (q := 29) dL_law_27 rfl 4 rfl ?_
    refine aw_aload_n (q := 30) dL_law_29 rfl 0 rfl ?_
    refine aw_slen (q := 31) dL_law_30 rfl ?_
    refine aw_bipush (q := 33) (v := 6) dL_law_31 rfl (by decide) ?_
    refine aw_isub (q := 34) dL_law_33 rfl ?_
    refine aw_icmp_gt (tgt := 2090) (q := 37) dL_law_34 (by decide) rfl (fun h9 => ?_) (fun h9 => ?_)
    · refine aw_iconst (q := 2091) (v := 1) dL_law_2090 rfl (by decide) ?_
      exact aw_ireturn (w := []) [] dL_law_2091 rfl rfl rfl rfl rfl
    refine aw_aload_n (q := 38) dL_law_37 rfl 0 rfl ?_
    refine aw_iload (q := 40) dL_law_38 rfl 4 rfl ?_
    refine aw_sld (q := 41) dL_law_40 rfl ?_
    refine aw_bipush (q := 43) (v := 63) dL_law_41 rfl (by decide) ?_
    refine aw_iand (q := 44) dL_law_43 rfl ?_
    refine aw_tsw (v := 0) (off := 184) (tgt := 228) dL_law_44 (by decide) (by decide) (by decide) (by decide) (fun hs_0 => ?_) (fun hs_0 => ?_)
    · refine aw_room (kc' := fu * 300 + 300) (ks' := fu * 17000 + 17000) (by omega) (by omega) ?_
      exact tlc_0 ih i S M nv sv
    refine aw_tsw (v := 1) (off := 248) (tgt := 292) dL_law_44 (by decide) (by decide) (by decide) (by decide) (fun hs_1 => ?_) (fun hs_1 => ?_)
    · refine aw_room (kc' := fu * 300 + 300) (ks' := fu * 17000 + 17000) (by omega) (by omega) ?_
      exact tlc_1 ih i S M nv sv
    refine aw_tsw (v := 2) (off := 300) (tgt := 344) dL_law_44 (by decide) (by decide) (by decide) (by decide) (fun hs_2 => ?_) (fun hs_2 => ?_)
    · refine aw_room (kc' := fu * 300 + 300) (ks' := fu * 17000 + 17000) (by omega) (by omega) ?_
      exact tlc_2 ih i S M nv sv
    refine aw_tsw (v := 3) (off := 340) (tgt := 384) dL_law_44 (by decide) (by decide) (by decide) (by decide) (fun hs_3 => ?_) (fun hs_3 => ?_)
    · refine aw_room (kc' := fu * 300 + 300) (ks' := fu * 17000 + 17000) (by omega) (by omega) ?_
      exact tlc_3 ih i S M nv sv
    refine aw_tsw (v := 4) (off := 380) (tgt := 424) dL_law_44 (by decide) (by decide) (by decide) (by decide) (fun hs_4 => ?_) (fun hs_4 => ?_)
    · refine aw_room (kc' := fu * 300 + 300) (ks' := fu * 17000 + 17000) (by omega) (by omega) ?_
      exact tlc_4 ih i S M nv sv
    refine aw_tsw (v := 5) (off := 444) (tgt := 488) dL_law_44 (by decide) (by decide) (by decide) (by decide) (fun hs_5 => ?_) (fun hs_5 => ?_)
    · refine aw_room (kc' := fu * 300 + 300) (ks' := fu * 17000 + 17000) (by omega) (by omega) ?_
      exact tlc_5 ih i S M nv sv
    refine aw_tsw (v := 6) (off := 508) (tgt := 552) dL_law_44 (by decide) (by decide) (by decide) (by decide) (fun hs_6 => ?_) (fun hs_6 => ?_)
    · refine aw_room (kc' := fu * 300 + 300) (ks' := fu * 17000 + 17000) (by omega) (by omega) ?_
      exact tlc_6 ih i S M nv sv
    refine aw_tsw (v := 7) (off := 572) (tgt := 616) dL_law_44 (by decide) (by decide) (by decide) (by decide) (fun hs_7 => ?_) (fun hs_7 => ?_)
    · refine aw_room (kc' := fu * 300 + 300) (ks' := fu * 17000 + 17000) (by omega) (by omega) ?_
      exact tlc_7 ih i S M nv sv
    refine aw_tsw (v := 8) (off := 648) (tgt := 692) dL_law_44 (by decide) (by decide) (by decide) (by decide) (fun hs_8 => ?_) (fun hs_8 => ?_)
    · refine aw_room (kc' := fu * 300 + 300) (ks' := fu * 17000 + 17000) (by omega) (by omega) ?_
      exact tlc_8 ih i S M nv sv
    refine aw_tsw (v := 9) (off := 700) (tgt := 744) dL_law_44 (by decide) (by decide) (by decide) (by decide) (fun hs_9 => ?_) (fun hs_9 => ?_)
    · refine aw_room (kc' := fu * 300 + 300) (ks' := fu * 17000 + 17000) (by omega) (by omega) ?_
      exact tlc_9 ih i S M nv sv
    refine aw_tsw (v := 10) (off := 728) (tgt := 772) dL_law_44 (by decide) (by decide) (by decide) (by decide) (fun hs_10 => ?_) (fun hs_10 => ?_)
    · refine aw_room (kc' := fu * 300 + 300) (ks' := fu * 17000 + 17000) (by omega) (by omega) ?_
      exact tlc_10 ih i S M nv sv
    refine aw_tsw (v := 11) (off := 768) (tgt := 812) dL_law_44 (by decide) (by decide) (by decide) (by decide) (fun hs_11 => ?_) (fun hs_11 => ?_)
    · refine aw_room (kc' := fu * 300 + 300) (ks' := fu * 17000 + 17000) (by omega) (by omega) ?_
      exact tlc_11 ih i S M nv sv
    refine aw_tsw (v := 12) (off := 808) (tgt := 852) dL_law_44 (by decide) (by decide) (by decide) (by decide) (fun hs_12 => ?_) (fun hs_12 => ?_)
    · refine aw_room (kc' := fu * 300 + 300) (ks' := fu * 17000 + 17000) (by omega) (by omega) ?_
      exact tlc_12 ih i S M nv sv
    refine aw_tsw (v := 13) (off := 884) (tgt := 928) dL_law_44 (by decide) (by decide) (by decide) (by decide) (fun hs_13 => ?_) (fun hs_13 => ?_)
    · refine aw_room (kc' := fu * 300 + 300) (ks' := fu * 17000 + 17000) (by omega) (by omega) ?_
      exact tlc_13 ih i S M nv sv
    refine aw_tsw (v := 14) (off := 960) (tgt := 1004) dL_law_44 (by decide) (by decide) (by decide) (by decide) (fun hs_14 => ?_) (fun hs_14 => ?_)
    · refine aw_room (kc' := fu * 300 + 300) (ks' := fu * 17000 + 17000) (by omega) (by omega) ?_
      exact tlc_14 ih i S M nv sv
    refine aw_tsw (v := 15) (off := 1036) (tgt := 1080) dL_law_44 (by decide) (by decide) (by decide) (by decide) (fun hs_15 => ?_) (fun hs_15 => ?_)
    · refine aw_room (kc' := fu * 300 + 300) (ks' := fu * 17000 + 17000) (by omega) (by omega) ?_
      exact tlc_15 ih i S M nv sv
    refine aw_tsw (v := 16) (off := 1076) (tgt := 1120) dL_law_44 (by decide) (by decide) (by decide) (by decide) (fun hs_16 => ?_) (fun hs_16 => ?_)
    · refine aw_room (kc' := fu * 300 + 300) (ks' := fu * 17000 + 17000) (by omega) (by omega) ?_
      exact tlc_16 ih i S M nv sv
    refine aw_tsw (v := 17) (off := 1116) (tgt := 1160) dL_law_44 (by decide) (by decide) (by decide) (by decide) (fun hs_17 => ?_) (fun hs_17 => ?_)
    · refine aw_room (kc' := fu * 300 + 300) (ks' := fu * 17000 + 17000) (by omega) (by omega) ?_
      exact tlc_17 ih i S M nv sv
    refine aw_tsw (v := 18) (off := 1168) (tgt := 1212) dL_law_44 (by decide) (by decide) (by decide) (by decide) (fun hs_18 => ?_) (fun hs_18 => ?_)
    · refine aw_room (kc' := fu * 300 + 300) (ks' := fu * 17000 + 17000) (by omega) (by omega) ?_
      exact tlc_18 ih i S M nv sv
    refine aw_tsw (v := 19) (off := 1208) (tgt := 1252) dL_law_44 (by decide) (by decide) (by decide) (by decide) (fun hs_19 => ?_) (fun hs_19 => ?_)
    · refine aw_room (kc' := fu * 300 + 300) (ks' := fu * 17000 + 17000) (by omega) (by omega) ?_
      exact tlc_19 ih i S M nv sv
    refine aw_tsw (v := 20) (off := 1260) (tgt := 1304) dL_law_44 (by decide) (by decide) (by decide) (by decide) (fun hs_20 => ?_) (fun hs_20 => ?_)
    · refine aw_room (kc' := fu * 300 + 300) (ks' := fu * 17000 + 17000) (by omega) (by omega) ?_
      exact tlc_20 ih i S M nv sv
    refine aw_tsw (v := 21) (off := 1341) (tgt := 1385) dL_law_44 (by decide) (by decide) (by decide) (by decide) (fun hs_21 => ?_) (fun hs_21 => ?_)
    · refine aw_room (kc' := fu * 300 + 300) (ks' := fu * 17000 + 17000) (by omega) (by omega) ?_
      exact tlc_21 ih i S M nv sv
    refine aw_tsw (v := 22) (off := 1381) (tgt := 1425) dL_law_44 (by decide) (by decide) (by decide) (by decide) (fun hs_22 => ?_) (fun hs_22 => ?_)
    · refine aw_room (kc' := fu * 300 + 300) (ks' := fu * 17000 + 17000) (by omega) (by omega) ?_
      exact tlc_22 ih i S M nv sv
    refine aw_tsw (v := 23) (off := 1421) (tgt := 1465) dL_law_44 (by decide) (by decide) (by decide) (by decide) (fun hs_23 => ?_) (fun hs_23 => ?_)
    · refine aw_room (kc' := fu * 300 + 300) (ks' := fu * 17000 + 17000) (by omega) (by omega) ?_
      exact tlc_23 ih i S M nv sv
    refine aw_tsw (v := 24) (off := 1461) (tgt := 1505) dL_law_44 (by decide) (by decide) (by decide) (by decide) (fun hs_24 => ?_) (fun hs_24 => ?_)
    · refine aw_room (kc' := fu * 300 + 300) (ks' := fu * 17000 + 17000) (by omega) (by omega) ?_
      exact tlc_24 ih i S M nv sv
    refine aw_tsw (v := 25) (off := 1513) (tgt := 1557) dL_law_44 (by decide) (by decide) (by decide) (by decide) (fun hs_25 => ?_) (fun hs_25 => ?_)
    · refine aw_room (kc' := fu * 300 + 300) (ks' := fu * 17000 + 17000) (by omega) (by omega) ?_
      exact tlc_25 ih i S M nv sv
    refine aw_tsw (v := 26) (off := 1565) (tgt := 1609) dL_law_44 (by decide) (by decide) (by decide) (by decide) (fun hs_26 => ?_) (fun hs_26 => ?_)
    · refine aw_room (kc' := fu * 300 + 300) (ks' := fu * 17000 + 17000) (by omega) (by omega) ?_
      exact tlc_26 ih i S M nv sv
    refine aw_tsw (v := 27) (off := 1605) (tgt := 1649) dL_law_44 (by decide) (by decide) (by decide) (by decide) (fun hs_27 => ?_) (fun hs_27 => ?_)
    · refine aw_room (kc' := fu * 300 + 300) (ks' := fu * 17000 + 17000) (by omega) (by omega) ?_
      exact tlc_27 ih i S M nv sv
    refine aw_tsw (v := 28) (off := 1645) (tgt := 1689) dL_law_44 (by decide) (by decide) (by decide) (by decide) (fun hs_28 => ?_) (fun hs_28 => ?_)
    · refine aw_room (kc' := fu * 300 + 300) (ks' := fu * 17000 + 17000) (by omega) (by omega) ?_
      exact tlc_28 ih i S M nv sv
    refine aw_tsw (v := 29) (off := 1673) (tgt := 1717) dL_law_44 (by decide) (by decide) (by decide) (by decide) (fun hs_29 => ?_) (fun hs_29 => ?_)
    · refine aw_room (kc' := fu * 300 + 300) (ks' := fu * 17000 + 17000) (by omega) (by omega) ?_
      exact tlc_29 ih i S M nv sv
    refine aw_tsw (v := 30) (off := 1701) (tgt := 1745) dL_law_44 (by decide) (by decide) (by decide) (by decide) (fun hs_30 => ?_) (fun hs_30 => ?_)
    · refine aw_room (kc' := fu * 300 + 300) (ks' := fu * 17000 + 17000) (by omega) (by omega) ?_
      exact tlc_30 ih i S M nv sv
    refine aw_tsw (v := 31) (off := 1729) (tgt := 1773) dL_law_44 (by decide) (by decide) (by decide) (by decide) (fun hs_31 => ?_) (fun hs_31 => ?_)
    · refine aw_room (kc' := fu * 300 + 300) (ks' := fu * 17000 + 17000) (by omega) (by omega) ?_
      exact tlc_31 ih i S M nv sv
    refine aw_tsw (v := 32) (off := 1757) (tgt := 1801) dL_law_44 (by decide) (by decide) (by decide) (by decide) (fun hs_32 => ?_) (fun hs_32 => ?_)
    · refine aw_room (kc' := fu * 300 + 300) (ks' := fu * 17000 + 17000) (by omega) (by omega) ?_
      exact tlc_32 ih i S M nv sv
    refine aw_tsw (v := 33) (off := 1785) (tgt := 1829) dL_law_44 (by decide) (by decide) (by decide) (by decide) (fun hs_33 => ?_) (fun hs_33 => ?_)
    · refine aw_room (kc' := fu * 300 + 300) (ks' := fu * 17000 + 17000) (by omega) (by omega) ?_
      exact tlc_33 ih i S M nv sv
    refine aw_tsw (v := 34) (off := 1825) (tgt := 1869) dL_law_44 (by decide) (by decide) (by decide) (by decide) (fun hs_34 => ?_) (fun hs_34 => ?_)
    · refine aw_room (kc' := fu * 300 + 300) (ks' := fu * 17000 + 17000) (by omega) (by omega) ?_
      exact tlc_34 ih i S M nv sv
    refine aw_tsw (v := 35) (off := 1865) (tgt := 1909) dL_law_44 (by decide) (by decide) (by decide) (by decide) (fun hs_35 => ?_) (fun hs_35 => ?_)
    · refine aw_room (kc' := fu * 300 + 300) (ks' := fu * 17000 + 17000) (by omega) (by omega) ?_
      exact tlc_35 ih i S M nv sv
    refine aw_tsw (v := 36) (off := 1893) (tgt := 1937) dL_law_44 (by decide) (by decide) (by decide) (by decide) (fun hs_36 => ?_) (fun hs_36 => ?_)
    · refine aw_room (kc' := fu * 300 + 300) (ks' := fu * 17000 + 17000) (by omega) (by omega) ?_
      exact tlc_36 ih i S M nv sv
    refine aw_tsw (v := 37) (off := 1945) (tgt := 1989) dL_law_44 (by decide) (by decide) (by decide) (by decide) (fun hs_37 => ?_) (fun hs_37 => ?_)
    · refine aw_room (kc' := fu * 300 + 300) (ks' := fu * 17000 + 17000) (by omega) (by omega) ?_
      exact tlc_37 ih i S M nv sv
    refine aw_tsw (v := 38) (off := 1958) (tgt := 2002) dL_law_44 (by decide) (by decide) (by decide) (by decide) (fun hs_38 => ?_) (fun hs_38 => ?_)
    · refine aw_room (kc' := fu * 300 + 300) (ks' := fu * 17000 + 17000) (by omega) (by omega) ?_
      exact tlc_38 ih i S M nv sv
    refine aw_tsw (v := 39) (off := 1986) (tgt := 2030) dL_law_44 (by decide) (by decide) (by decide) (by decide) (fun hs_39 => ?_) (fun hs_39 => ?_)
    · refine aw_room (kc' := fu * 300 + 300) (ks' := fu * 17000 + 17000) (by omega) (by omega) ?_
      exact tlc_39 ih i S M nv sv
    refine aw_tsw (v := 40) (off := 1999) (tgt := 2043) dL_law_44 (by decide) (by decide) (by decide) (by decide) (fun hs_40 => ?_) (fun hs_40 => ?_)
    · refine aw_room (kc' := fu * 300 + 300) (ks' := fu * 17000 + 17000) (by omega) (by omega) ?_
      exact tlc_40 ih i S M nv sv
    refine aw_tsw (v := 41) (off := 2027) (tgt := 2071) dL_law_44 (by decide) (by decide) (by decide) (by decide) (fun hs_41 => ?_) (fun hs_41 => ?_)
    · refine aw_room (kc' := fu * 300 + 300) (ks' := fu * 17000 + 17000) (by omega) (by omega) ?_
      exact tlc_41 ih i S M nv sv
    refine aw_tswD (tgt := 2084) dL_law_44 (by have e0 := lv_neT (a := 0) hs_0 (by decide); have e1 := lv_neT (a := 1) hs_1 (by decide); have e2 := lv_neT (a := 2) hs_2 (by decide); have e3 := lv_neT (a := 3) hs_3 (by decide); have e4 := lv_neT (a := 4) hs_4 (by decide); have e5 := lv_neT (a := 5) hs_5 (by decide); have e6 := lv_neT (a := 6) hs_6 (by decide); have e7 := lv_neT (a := 7) hs_7 (by decide); have e8 := lv_neT (a := 8) hs_8 (by decide); have e9 := lv_neT (a := 9) hs_9 (by decide); have e10 := lv_neT (a := 10) hs_10 (by decide); have e11 := lv_neT (a := 11) hs_11 (by decide); have e12 := lv_neT (a := 12) hs_12 (by decide); have e13 := lv_neT (a := 13) hs_13 (by decide); have e14 := lv_neT (a := 14) hs_14 (by decide); have e15 := lv_neT (a := 15) hs_15 (by decide); have e16 := lv_neT (a := 16) hs_16 (by decide); have e17 := lv_neT (a := 17) hs_17 (by decide); have e18 := lv_neT (a := 18) hs_18 (by decide); have e19 := lv_neT (a := 19) hs_19 (by decide); have e20 := lv_neT (a := 20) hs_20 (by decide); have e21 := lv_neT (a := 21) hs_21 (by decide); have e22 := lv_neT (a := 22) hs_22 (by decide); have e23 := lv_neT (a := 23) hs_23 (by decide); have e24 := lv_neT (a := 24) hs_24 (by decide); have e25 := lv_neT (a := 25) hs_25 (by decide); have e26 := lv_neT (a := 26) hs_26 (by decide); have e27 := lv_neT (a := 27) hs_27 (by decide); have e28 := lv_neT (a := 28) hs_28 (by decide); have e29 := lv_neT (a := 29) hs_29 (by decide); have e30 := lv_neT (a := 30) hs_30 (by decide); have e31 := lv_neT (a := 31) hs_31 (by decide); have e32 := lv_neT (a := 32) hs_32 (by decide); have e33 := lv_neT (a := 33) hs_33 (by decide); have e34 := lv_neT (a := 34) hs_34 (by decide); have e35 := lv_neT (a := 35) hs_35 (by decide); have e36 := lv_neT (a := 36) hs_36 (by decide); have e37 := lv_neT (a := 37) hs_37 (by decide); have e38 := lv_neT (a := 38) hs_38 (by decide); have e39 := lv_neT (a := 39) hs_39 (by decide); have e40 := lv_neT (a := 40) hs_40 (by decide); have e41 := lv_neT (a := 41) hs_41 (by decide); omega) (by decide) ?_
    refine aw_iinc (q := 2087) (v := (i + (6 : Int32))) (lv' := [(4, .int (i + (6 : Int32))), (0, .ref b), (1, .ref (r 0)), (2, .ref (rq 0)), (3, .ref o)]) dL_law_2084 rfl 4 rfl rfl (by decide) rfl ?_
    refine aw_goto (tgt := 27) dL_law_2087 (by decide) ?_
    refine aw_locals (lv' := [(0, .ref b), (1, .ref (r 0)), (2, .ref (rq 0)), (3, .ref o), (4, .int (i + (6 : Int32)))]) [1, 2, 3, 4, 0] rfl ?_
    refine aw_room (kc' := fu * 300) (ks' := fu * 17000) (by omega) (by omega) ?_
    exact ih _ _ _ _ _
