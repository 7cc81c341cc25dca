def gL_know (N K : Nat) (S : CS) (p0 : Int32) (p1 : Int32) (p2 : Int32) (p3 : Int32) (nv : Int64) : Option (Int32 × CS × Int64) := wb (gX_know N K S p0 p1 p2 p3) (fun z => some ((0 : Int32), z.2, z.1.toInt64)) (some ((1 : Int32), S, nv)) (some ((2 : Int32), S, nv))
set_option maxHeartbeats 4000000 in
set_option maxRecDepth 100000 in
theorem ogL_know {N K : Nat} {r : Nat → Nat} {o : Nat} {S : CS} {nv : Int64} {sv : Value} {p0 : Int32} {p1 : Int32} {p2 : Int32} {p3 : Int32} {x : Int32 × CS × Int64} (hE : gL_know N K S p0 p1 p2 p3 nv = some x) : OkM yL_know (.codeWith yL_know cL_know 7 (some .int) [(0, 15, 18, 19), (0, 15, 22, 21)]) (2 * K + 11) 4 24 [.ref (r 0), .int p0, .int p1, .int p2, .int p3, .ref o] (WX r S ++ [OC o nv sv]) ((PN (U := Int32 × CS × Int64) (fun z _ => some (.int z.1)) (fun z g => WX r z.2.1 ++ [OC o z.2.2 sv])) x) := by
  refine ok_ofH (by decide) (Nat.le_of_ble_eq_true rfl) hE ?_
  refine aw_locals (lv' := [(0, .ref (r 0)), (1, .int p0), (2, .int p1), (3, .int p2), (4, .int p3), (5, .ref o)]) [0, 1, 2, 3, 4, 5] rfl ?_
  refine aw_aload (q := 2) dL_know_0 rfl 5 rfl ?_
  refine aw_aload_n (q := 3) dL_know_2 rfl 0 rfl ?_
  refine aw_iload_n (q := 4) dL_know_3 rfl 1 rfl ?_
  refine aw_iload_n (q := 5) dL_know_4 rfl 2 rfl ?_
  refine aw_iload_n (q := 6) dL_know_5 rfl 3 rfl ?_
  refine aw_iload (q := 8) dL_know_6 rfl 4 rfl ?_
  refine aw_callC (q := 11) (hp1 := 18) (hp2 := 22) (kc1 := 0) (ks1 := 0) (wc := WX r S) (wr := [OC o nv sv]) (st1 := fun z g => [.int z.1, .ref o]) (ws1 := fun z g => [OC o nv sv] ++ WX r z.2) (As := [.ref (r 0), .int p0, .int p1, .int p2, .int p3]) [0, 1, 2, 3, 4, 5, 6, 7, 8, 9, 10, 11, 12, 13, 14, 15, 16, 17, 18, 19, 20, 21, 22, 23, 24, 25, 26] [27] (fun _ => runV (q0 := 0) dL_know_8 mi_X5_know im_X5_know se_X5_know ml_L_7 (by omega) rfl (Nat.le_of_ble_eq_true rfl) rfl rfl rfl rfl) (fun x9 h9 => ogX_know h9) rfl rfl rfl rfl rfl (by decide) (by omega) (by omega) (fun _ _ => rfl) (fun _ _ => rfl) (Or.inr ⟨⟨[], _, [_], "java/lang/IndexOutOfBoundsException", rfl, (fun z h => by cases h), by decide, by decide, cl_L_19, ca_IndexOutOfBoundsException, rfl⟩, fun q9 => ?_⟩) (Or.inr ⟨⟨[_], _, [], "java/lang/IllegalArgumentException", rfl, (fun z h => by rcases List.mem_cons.mp h with rfl | h <;> first | exact ⟨by decide, rfl, cl_L_19⟩ | cases h), by decide, by decide, cl_L_21, ca_IllegalArgumentException, rfl⟩, fun q9 => ?_⟩) (fun z g => ?_)
  · refine aw_astore (q := 20) (lv' := [(6, .ref q9), (0, .ref (r 0)), (1, .int p0), (2, .int p1), (3, .int p2), (4, .int p3), (5, .ref o)]) dL_know_18 rfl (by decide) rfl ?_
    refine aw_iconst (q := 21) (v := 1) dL_know_20 rfl (by decide) ?_
    exact aw_ireturn [1, 2, 3, 4, 5, 6, 7, 8, 9, 10, 11, 12, 13, 14, 15, 16, 17, 18, 19, 20, 21, 22, 23, 24, 25, 26, 27, 0] dL_know_21 rfl rfl rfl rfl (PN.mk (fun _ => 0) rfl rfl)
  · refine aw_astore (q := 24) (lv' := [(6, .ref q9), (0, .ref (r 0)), (1, .int p0), (2, .int p1), (3, .int p2), (4, .int p3), (5, .ref o)]) dL_know_22 rfl (by decide) rfl ?_
    refine aw_iconst (q := 25) (v := 2) dL_know_24 rfl (by decide) ?_
    exact aw_ireturn [1, 2, 3, 4, 5, 6, 7, 8, 9, 10, 11, 12, 13, 14, 15, 16, 17, 18, 19, 20, 21, 22, 23, 24, 25, 26, 27, 0] dL_know_25 rfl rfl rfl rfl (PN.mk (fun _ => 0) rfl rfl)
  refine aw_i2l (q := 12) dL_know_11 rfl ?_
  refine aw_putN (q := 15) (ws' := [OC o z.1.toInt64 sv] ++ WX r z.2) dL_know_12 rfl fn_L_13 0 rfl rfl rfl (Nat.le_of_ble_eq_true rfl) rfl ?_
  refine aw_goto (tgt := 26) dL_know_15 (by decide) ?_
  refine aw_iconst (q := 27) (v := 0) dL_know_26 rfl (by decide) ?_
  exact aw_ireturn [1, 2, 3, 4, 5, 6, 7, 8, 9, 10, 11, 12, 13, 14, 15, 16, 17, 18, 19, 20, 21, 22, 23, 24, 25, 26, 27, 0] dL_know_27 rfl rfl rfl rfl (PN.mk g rfl rfl)
def gL_few (N K : Nat) (S : CS) (p0 : Int32) (p1 : Int32) (p2 : Int32) (nv : Int64) : Option (Int32 × CS × Int64) := wb (gX_few N K S p0 p1 p2) (fun z => some ((0 : Int32), z.2, z.1.toInt64)) (some ((1 : Int32), S, nv)) (some ((2 : Int32), S, nv))
set_option maxHeartbeats 4000000 in
set_option maxRecDepth 100000 in
theorem ogL_few {N K : Nat} {r : Nat → Nat} {o : Nat} {S : CS} {nv : Int64} {sv : Value} {p0 : Int32} {p1 : Int32} {p2 : Int32} {x : Int32 × CS × Int64} (hE : gL_few N K S p0 p1 p2 nv = some x) : OkM yL_few (.codeWith yL_few cL_few 6 (some .int) [(0, 13, 16, 19), (0, 13, 20, 21)]) (2 * K + 10) 3 18 [.ref (r 0), .int p0, .int p1, .int p2, .ref o] (WX r S ++ [OC o nv sv]) ((PN (U := Int32 × CS × Int64) (fun z _ => some (.int z.1)) (fun z g => WX r z.2.1 ++ [OC o z.2.2 sv])) x) := by
  refine ok_ofH (by decide) (Nat.le_of_ble_eq_true rfl) hE ?_
  refine aw_locals (lv' := [(0, .ref (r 0)), (1, .int p0), (2, .int p1), (3, .int p2), (4, .ref o)]) [0, 1, 2, 3, 4] rfl ?_
  refine aw_aload (q := 2) dL_few_0 rfl 4 rfl ?_
  refine aw_aload_n (q := 3) dL_few_2 rfl 0 rfl ?_
  refine aw_iload_n (q := 4) dL_few_3 rfl 1 rfl ?_
  refine aw_iload_n (q := 5) dL_few_4 rfl 2 rfl ?_
  refine aw_iload_n (q := 6) dL_few_5 rfl 3 rfl ?_
  refine aw_callC (q := 9) (hp1 := 16) (hp2 := 20) (kc1 := 0) (ks1 := 0) (wc := WX r S) (wr := [OC o nv sv]) (st1 := fun z g => [.int z.1, .ref o]) (ws1 := fun z g => [OC o nv sv] ++ WX r z.2) (As := [.ref (r 0), .int p0, .int p1, .int p2]) [0, 1, 2, 3, 4, 5, 6, 7, 8, 9, 10, 11, 12, 13, 14, 15, 16, 17, 18, 19, 20, 21, 22, 23, 24, 25, 26] [27] (fun _ => runV (q0 := 0) dL_few_6 mi_X5_few im_X5_few se_X5_few ml_L_23 (by omega) rfl (Nat.le_of_ble_eq_true rfl) rfl rfl rfl rfl) (fun x9 h9 => ogX_few h9) rfl rfl rfl rfl rfl (by decide) (by omega) (by omega) (fun _ _ => rfl) (fun _ _ => rfl) (Or.inr ⟨⟨[], _, [_], "java/lang/IndexOutOfBoundsException", rfl, (fun z h => by cases h), by decide, by decide, cl_L_19, ca_IndexOutOfBoundsException, rfl⟩, fun q9 => ?_⟩) (Or.inr ⟨⟨[_], _, [], "java/lang/IllegalArgumentException", rfl, (fun z h => by rcases List.mem_cons.mp h with rfl | h <;> first | exact ⟨by decide, rfl, cl_L_19⟩ | cases h), by decide, by decide, cl_L_21, ca_IllegalArgumentException, rfl⟩, fun q9 => ?_⟩) (fun z g => ?_)
  · refine aw_astore (q := 18) (lv' := [(5, .ref q9), (0, .ref (r 0)), (1, .int p0), (2, .int p1), (3, .int p2), (4, .ref o)]) dL_few_16 rfl (by decide) rfl ?_
    refine aw_iconst (q := 19) (v := 1) dL_few_18 rfl (by decide) ?_
    exact aw_ireturn [1, 2, 3, 4, 5, 6, 7, 8, 9, 10, 11, 12, 13, 14, 15, 16, 17, 18, 19, 20, 21, 22, 23, 24, 25, 26, 27, 0] dL_few_19 rfl rfl rfl rfl (PN.mk (fun _ => 0) rfl rfl)
  · refine aw_astore (q := 22) (lv' := [(5, .ref q9), (0, .ref (r 0)), (1, .int p0), (2, .int p1), (3, .int p2), (4, .ref o)]) dL_few_20 rfl (by decide) rfl ?_
    refine aw_iconst (q := 23) (v := 2) dL_few_22 rfl (by decide) ?_
    exact aw_ireturn [1, 2, 3, 4, 5, 6, 7, 8, 9, 10, 11, 12, 13, 14, 15, 16, 17, 18, 19, 20, 21, 22, 23, 24, 25, 26, 27, 0] dL_few_23 rfl rfl rfl rfl (PN.mk (fun _ => 0) rfl rfl)
  refine aw_i2l (q := 10) dL_few_9 rfl ?_
  refine aw_putN (q := 13) (ws' := [OC o z.1.toInt64 sv] ++ WX r z.2) dL_few_10 rfl fn_L_13 0 rfl rfl rfl (Nat.le_of_ble_eq_true rfl) rfl ?_
  refine aw_goto (tgt := 24) dL_few_13 (by decide) ?_
  refine aw_iconst (q := 25) (v := 0) dL_few_24 rfl (by decide) ?_
  exact aw_ireturn [1, 2, 3, 4, 5, 6, 7, 8, 9, 10, 11, 12, 13, 14, 15, 16, 17, 18, 19, 20, 21, 22, 23, 24, 25, 26, 27, 0] dL_few_25 rfl rfl rfl rfl (PN.mk g rfl rfl)
def gL_surplus (N K : Nat) (S : CS) (p0 : Int32) (p1 : Int32) (nv : Int64) : Option (Int32 × CS × Int64) := wb (gX_surplus N K S p0 p1) (fun z => some ((0 : Int32), z.2, z.1.toInt64)) (some ((1 : Int32), S, nv)) (some ((2 : Int32), S, nv))
set_option maxHeartbeats 4000000 in
set_option maxRecDepth 100000 in
theorem ogL_surplus {N K : Nat} {r : Nat → Nat} {o : Nat} {S : CS} {nv : Int64} {sv : Value} {p0 : Int32} {p1 : Int32} {x : Int32 × CS × Int64} (hE : gL_surplus N K S p0 p1 nv = some x) : OkM yL_surplus (.codeWith yL_surplus cL_surplus 5 (some .int) [(0, 11, 14, 19), (0, 11, 18, 21)]) (2 * K + 10) 2 12 [.ref (r 0), .int p0, .int p1, .ref o] (WX r S ++ [OC o nv sv]) ((PN (U := Int32 × CS × Int64) (fun z _ => some (.int z.1)) (fun z g => WX r z.2.1 ++ [OC o z.2.2 sv])) x) := by
  refine ok_ofH (by decide) (Nat.le_of_ble_eq_true rfl) hE ?_
  refine aw_locals (lv' := [(0, .ref (r 0)), (1, .int p0), (2, .int p1), (3, .ref o)]) [0, 1, 2, 3] rfl ?_
  refine aw_aload_n (q := 1) dL_surplus_0 rfl 3 rfl ?_
  refine aw_aload_n (q := 2) dL_surplus_1 rfl 0 rfl ?_
  refine aw_iload_n (q := 3) dL_surplus_2 rfl 1 rfl ?_
  refine aw_iload_n (q := 4) dL_surplus_3 rfl 2 rfl ?_
  refine aw_callC (q := 7) (hp1 := 14) (hp2 := 18) (kc1 := 0) (ks1 := 0) (wc := WX r S) (wr := [OC o nv sv]) (st1 := fun z g => [.int z.1, .ref o]) (ws1 := fun z g => [OC o nv sv] ++ WX r z.2) (As := [.ref (r 0), .int p0, .int p1]) [0, 1, 2, 3, 4, 5, 6, 7, 8, 9, 10, 11, 12, 13, 14, 15, 16, 17, 18, 19, 20, 21, 22, 23, 24, 25, 26] [27] (fun _ => runV (q0 := 0) dL_surplus_4 mi_X5_surplus im_X5_surplus se_X5_surplus ml_L_27 (by omega) rfl (Nat.le_of_ble_eq_true rfl) rfl rfl rfl rfl) (fun x9 h9 => ogX_surplus h9) rfl rfl rfl rfl rfl (by decide) (by omega) (by omega) (fun _ _ => rfl) (fun _ _ => rfl) (Or.inr ⟨⟨[], _, [_], "java/lang/IndexOutOfBoundsException", rfl, (fun z h => by cases h), by decide, by decide, cl_L_19, ca_IndexOutOfBoundsException, rfl⟩, fun q9 => ?_⟩) (Or.inr ⟨⟨[_], _, [], "java/lang/IllegalArgumentException", rfl, (fun z h => by rcases List.mem_cons.mp h with rfl | h <;> first | exact ⟨by decide, rfl, cl_L_19⟩ | cases h), by decide, by decide, cl_L_21, ca_IllegalArgumentException, rfl⟩, fun q9 => ?_⟩) (fun z g => ?_)
  · refine aw_astore (q := 16) (lv' := [(4, .ref q9), (0, .ref (r 0)), (1, .int p0), (2, .int p1), (3, .ref o)]) dL_surplus_14 rfl (by decide) rfl ?_
    refine aw_iconst (q := 17) (v := 1) dL_surplus_16 rfl (by decide) ?_
    exact aw_ireturn [1, 2, 3, 4, 5, 6, 7, 8, 9, 10, 11, 12, 13, 14, 15, 16, 17, 18, 19, 20, 21, 22, 23, 24, 25, 26, 27, 0] dL_surplus_17 rfl rfl rfl rfl (PN.mk (fun _ => 0) rfl rfl)
  · refine aw_astore (q := 20) (lv' := [(4, .ref q9), (0, .ref (r 0)), (1, .int p0), (2, .int p1), (3, .ref o)]) dL_surplus_18 rfl (by decide) rfl ?_
    refine aw_iconst (q := 21) (v := 2) dL_surplus_20 rfl (by decide) ?_
    exact aw_ireturn [1, 2, 3, 4, 5, 6, 7, 8, 9, 10, 11, 12, 13, 14, 15, 16, 17, 18, 19, 20, 21, 22, 23, 24, 25, 26, 27, 0] dL_surplus_21 rfl rfl rfl rfl (PN.mk (fun _ => 0) rfl rfl)
  refine aw_i2l (q := 8) dL_surplus_7 rfl ?_
  refine aw_putN (q := 11) (ws' := [OC o z.1.toInt64 sv] ++ WX r z.2) dL_surplus_8 rfl fn_L_13 0 rfl rfl rfl (Nat.le_of_ble_eq_true rfl) rfl ?_
  refine aw_goto (tgt := 22) dL_surplus_11 (by decide) ?_
  refine aw_iconst (q := 23) (v := 0) dL_surplus_22 rfl (by decide) ?_
  exact aw_ireturn [1, 2, 3, 4, 5, 6, 7, 8, 9, 10, 11, 12, 13, 14, 15, 16, 17, 18, 19, 20, 21, 22, 23, 24, 25, 26, 27, 0] dL_surplus_23 rfl rfl rfl rfl (PN.mk g rfl rfl)
def gL_place (N K : Nat) (S : CS) (p0 : Int32) (p1 : Int32) (nv : Int64) : Option (Int32 × CS × Int64) := wb (gX_place N K S p0 p1) (fun z => some ((0 : Int32), z.2, z.1.toInt64)) (some ((1 : Int32), S, nv)) none
set_option maxHeartbeats 4000000 in
set_option maxRecDepth 100000 in
theorem ogL_place {N K : Nat} {r : Nat → Nat} {o : Nat} {S : CS} {nv : Int64} {sv : Value} {p0 : Int32} {p1 : Int32} {x : Int32 × CS × Int64} (hE : gL_place N K S p0 p1 nv = some x) : OkM yL_place (.codeWith yL_place cL_place 5 (some .int) [(0, 11, 14, 19)]) (2 * K + 10) 2 12 [.ref (r 0), .int p0, .int p1, .ref o] (WX r S ++ [OC o nv sv]) ((PN (U := Int32 × CS × Int64) (fun z _ => some (.int z.1)) (fun z g => WX r z.2.1 ++ [OC o z.2.2 sv])) x) := by
  refine ok_ofH (by decide) (Nat.le_of_ble_eq_true rfl) hE ?_
  refine aw_locals (lv' := [(0, .ref (r 0)), (1, .int p0), (2, .int p1), (3, .ref o)]) [0, 1, 2, 3] rfl ?_
  refine aw_aload_n (q := 1) dL_place_0 rfl 3 rfl ?_
  refine aw_aload_n (q := 2) dL_place_1 rfl 0 rfl ?_
  refine aw_iload_n (q := 3) dL_place_2 rfl 1 rfl ?_
  refine aw_iload_n (q := 4) dL_place_3 rfl 2 rfl ?_
  refine aw_callC (q := 7) (hp1 := 14) (hp2 := 0) (kc1 := 0) (ks1 := 0) (wc := WX r S) (wr := [OC o nv sv]) (st1 := fun z g => [.int z.1, .ref o]) (ws1 := fun z g => [OC o nv sv] ++ WX r z.2) (As := [.ref (r 0), .int p0, .int p1]) [0, 1, 2, 3, 4, 5, 6, 7, 8, 9, 10, 11, 12, 13, 14, 15, 16, 17, 18, 19, 20, 21, 22, 23, 24, 25, 26] [27] (fun _ => runV (q0 := 0) dL_place_4 mi_X5_place im_X5_place se_X5_place ml_L_31 (by omega) rfl (Nat.le_of_ble_eq_true rfl) rfl rfl rfl rfl) (fun x9 h9 => ogX_place h9) rfl rfl rfl rfl rfl (by decide) (by omega) (by omega) (fun _ _ => rfl) (fun _ _ => rfl) (Or.inr ⟨⟨[], _, [], "java/lang/IndexOutOfBoundsException", rfl, (fun z h => by cases h), by decide, by decide, cl_L_19, ca_IndexOutOfBoundsException, rfl⟩, fun q9 => ?_⟩) (Or.inl rfl) (fun z g => ?_)
  · refine aw_astore (q := 16) (lv' := [(4, .ref q9), (0, .ref (r 0)), (1, .int p0), (2, .int p1), (3, .ref o)]) dL_place_14 rfl (by decide) rfl ?_
    refine aw_iconst (q := 17) (v := 1) dL_place_16 rfl (by decide) ?_
    exact aw_ireturn [1, 2, 3, 4, 5, 6, 7, 8, 9, 10, 11, 12, 13, 14, 15, 16, 17, 18, 19, 20, 21, 22, 23, 24, 25, 26, 27, 0] dL_place_17 rfl rfl rfl rfl (PN.mk (fun _ => 0) rfl rfl)
  refine aw_i2l (q := 8) dL_place_7 rfl ?_
  refine aw_putN (q := 11) (ws' := [OC o z.1.toInt64 sv] ++ WX r z.2) dL_place_8 rfl fn_L_13 0 rfl rfl rfl (Nat.le_of_ble_eq_true rfl) rfl ?_
  refine aw_goto (tgt := 18) dL_place_11 (by decide) ?_
  refine aw_iconst (q := 19) (v := 0) dL_place_18 rfl (by decide) ?_
  exact aw_ireturn [1, 2, 3, 4, 5, 6, 7, 8, 9, 10, 11, 12, 13, 14, 15, 16, 17, 18, 19, 20, 21, 22, 23, 24, 25, 26, 27, 0] dL_place_19 rfl rfl rfl rfl (PN.mk g rfl rfl)
def gL_learn (N K : Nat) (S : CS) (p0 : Int32) (p1 : Int32) (p2 : Int32) (p3 : Int32) (nv : Int64) : Option (Int32 × CS × Int64) := wb (gX_learn N K S p0 p1 p2 p3) (fun z => some ((0 : Int32), z.2, z.1.toInt64)) (some ((1 : Int32), S, nv)) (some ((2 : Int32), S, nv))
set_option maxHeartbeats 4000000 in
set_option maxRecDepth 100000 in
theorem ogL_learn {N K : Nat} {r : Nat → Nat} {o : Nat} {S : CS} {nv : Int64} {sv : Value} {p0 : Int32} {p1 : Int32} {p2 : Int32} {p3 : Int32} {x : Int32 × CS × Int64} (hE : gL_learn N K S p0 p1 p2 p3 nv = some x) : OkM yL_learn (.codeWith yL_learn cL_learn 7 (some .int) [(0, 15, 18, 19), (0, 15, 22, 21)]) (11) 4 24 [.ref (r 0), .int p0, .int p1, .int p2, .int p3, .ref o] (WX r S ++ [OC o nv sv]) ((PN (U := Int32 × CS × Int64) (fun z _ => some (.int z.1)) (fun z g => WX r z.2.1 ++ [OC o z.2.2 sv])) x) := by
  refine ok_ofH (by decide) (Nat.le_of_ble_eq_true rfl) hE ?_
  refine aw_locals (lv' := [(0, .ref (r 0)), (1, .int p0), (2, .int p1), (3, .int p2), (4, .int p3), (5, .ref o)]) [0, 1, 2, 3, 4, 5] rfl ?_
  refine aw_aload (q := 2) dL_learn_0 rfl 5 rfl ?_
  refine aw_aload_n (q := 3) dL_learn_2 rfl 0 rfl ?_
  refine aw_iload_n (q := 4) dL_learn_3 rfl 1 rfl ?_
  refine aw_iload_n (q := 5) dL_learn_4 rfl 2 rfl ?_
  refine aw_iload_n (q := 6) dL_learn_5 rfl 3 rfl ?_
  refine aw_iload (q := 8) dL_learn_6 rfl 4 rfl ?_
  refine aw_callC (q := 11) (hp1 := 18) (hp2 := 22) (kc1 := 0) (ks1 := 0) (wc := WX r S) (wr := [OC o nv sv]) (st1 := fun z g => [.int z.1, .ref o]) (ws1 := fun z g => [OC o nv sv] ++ WX r z.2) (As := [.ref (r 0), .int p0, .int p1, .int p2, .int p3]) [0, 1, 2, 3, 4, 5, 6, 7, 8, 9, 10, 11, 12, 13, 14, 15, 16, 17, 18, 19, 20, 21, 22, 23, 24, 25, 26] [27] (fun _ => runV (q0 := 0) dL_learn_8 mi_X5_learn im_X5_learn se_X5_learn ml_L_34 (by omega) rfl (Nat.le_of_ble_eq_true rfl) rfl rfl rfl rfl) (fun x9 h9 => ogX_learn h9) rfl rfl rfl rfl rfl (by decide) (by omega) (by omega) (fun _ _ => rfl) (fun _ _ => rfl) (Or.inr ⟨⟨[], _, [_], "java/lang/IndexOutOfBoundsException", rfl, (fun z h => by cases h), by decide, by decide, cl_L_19, ca_IndexOutOfBoundsException, rfl⟩, fun q9 => ?_⟩) (Or.inr ⟨⟨[_], _, [], "java/lang/IllegalArgumentException", rfl, (fun z h => by rcases List.mem_cons.mp h with rfl | h <;> first | exact ⟨by decide, rfl, cl_L_19⟩ | cases h), by decide, by decide, cl_L_21, ca_IllegalArgumentException, rfl⟩, fun q9 => ?_⟩) (fun z g => ?_)
  · refine aw_astore (q := 20) (lv' := [(6, .ref q9), (0, .ref (r 0)), (1, .int p0), (2, .int p1), (3, .int p2), (4, .int p3), (5, .ref o)]) dL_learn_18 rfl (by decide) rfl ?_
    refine aw_iconst (q := 21) (v := 1) dL_learn_20 rfl (by decide) ?_
    exact aw_ireturn [1, 2, 3, 4, 5, 6, 7, 8, 9, 10, 11, 12, 13, 14, 15, 16, 17, 18, 19, 20, 21, 22, 23, 24, 25, 26, 27, 0] dL_learn_21 rfl rfl rfl rfl (PN.mk (fun _ => 0) rfl rfl)
  · refine aw_astore (q := 24) (lv' := [(6, .ref q9), (0, .ref (r 0)), (1, .int p0), (2, .int p1), (3, .int p2), (4, .int p3), (5, .ref o)]) dL_learn_22 rfl (by decide) rfl ?_
    refine aw_iconst (q := 25) (v := 2) dL_learn_24 rfl (by decide) ?_
    exact aw_ireturn [1, 2, 3, 4, 5, 6, 7, 8, 9, 10, 11, 12, 13, 14, 15, 16, 17, 18, 19, 20, 21, 22, 23, 24, 25, 26, 27, 0] dL_learn_25 rfl rfl rfl rfl (PN.mk (fun _ => 0) rfl rfl)
  refine aw_i2l (q := 12) dL_learn_11 rfl ?_
  refine aw_putN (q := 15) (ws' := [OC o z.1.toInt64 sv] ++ WX r z.2) dL_learn_12 rfl fn_L_13 0 rfl rfl rfl (Nat.le_of_ble_eq_true rfl) rfl ?_
  refine aw_goto (tgt := 26) dL_learn_15 (by decide) ?_
  refine aw_iconst (q := 27) (v := 0) dL_learn_26 rfl (by decide) ?_
  exact aw_ireturn [1, 2, 3, 4, 5, 6, 7, 8, 9, 10, 11, 12, 13, 14, 15, 16, 17, 18, 19, 20, 21, 22, 23, 24, 25, 26, 27, 0] dL_learn_27 rfl rfl rfl rfl (PN.mk g rfl rfl)
def gL_relearn (N K : Nat) (S : CS) (p0 : Int32) (p1 : Int32) (p2 : Int32) (p3 : Int32) (nv : Int64) : Option (Int32 × CS × Int64) := wb (gX_relearn N K S p0 p1 p2 p3) (fun z => some ((0 : Int32), z.2, z.1.toInt64)) (some ((1 : Int32), S, nv)) (some ((2 : Int32), S, nv))
set_option maxHeartbeats 4000000 in
set_option maxRecDepth 100000 in
theorem ogL_relearn {N K : Nat} {r : Nat → Nat} {o : Nat} {S : CS} {nv : Int64} {sv : Value} {p0 : Int32} {p1 : Int32} {p2 : Int32} {p3 : Int32} {x : Int32 × CS × Int64} (hE : gL_relearn N K S p0 p1 p2 p3 nv = some x) : OkM yL_relearn (.codeWith yL_relearn cL_relearn 7 (some .int) [(0, 15, 18, 19), (0, 15, 22, 21)]) (11) 4 24 [.ref (r 0), .int p0, .int p1, .int p2, .int p3, .ref o] (WX r S ++ [OC o nv sv]) ((PN (U := Int32 × CS × Int64) (fun z _ => some (.int z.1)) (fun z g => WX r z.2.1 ++ [OC o z.2.2 sv])) x) := by
  refine ok_ofH (by decide) (Nat.le_of_ble_eq_true rfl) hE ?_
  refine aw_locals (lv' := [(0, .ref (r 0)), (1, .int p0), (2, .int p1), (3, .int p2), (4, .int p3), (5, .ref o)]) [0, 1, 2, 3, 4, 5] rfl ?_
  refine aw_aload (q := 2) dL_relearn_0 rfl 5 rfl ?_
  refine aw_aload_n (q := 3) dL_relearn_2 rfl 0 rfl ?_
  refine aw_iload_n (q := 4) dL_relearn_3 rfl 1 rfl ?_
  refine aw_iload_n (q := 5) dL_relearn_4 rfl 2 rfl ?_
  refine aw_iload_n (q := 6) dL_relearn_5 rfl 3 rfl ?_
  refine aw_iload (q := 8) dL_relearn_6 rfl 4 rfl ?_
  refine aw_callC (q := 11) (hp1 := 18) (hp2 := 22) (kc1 := 0) (ks1 := 0) (wc := WX r S) (wr := [OC o nv sv]) (st1 := fun z g => [.int z.1, .ref o]) (ws1 := fun z g => [OC o nv sv] ++ WX r z.2) (As := [.ref (r 0), .int p0, .int p1, .int p2, .int p3]) [0, 1, 2, 3, 4, 5, 6, 7, 8, 9, 10, 11, 12, 13, 14, 15, 16, 17, 18, 19, 20, 21, 22, 23, 24, 25, 26] [27] (fun _ => runV (q0 := 0) dL_relearn_8 mi_X5_relearn im_X5_relearn se_X5_relearn ml_L_37 (by omega) rfl (Nat.le_of_ble_eq_true rfl) rfl rfl rfl rfl) (fun x9 h9 => ogX_relearn h9) rfl rfl rfl rfl rfl (by decide) (by omega) (by omega) (fun _ _ => rfl) (fun _ _ => rfl) (Or.inr ⟨⟨[], _, [_], "java/lang/IndexOutOfBoundsException", rfl, (fun z h => by cases h), by decide, by decide, cl_L_19, ca_IndexOutOfBoundsException, rfl⟩, fun q9 => ?_⟩) (Or.inr ⟨⟨[_], _, [], "java/lang/IllegalArgumentException", rfl, (fun z h => by rcases List.mem_cons.mp h with rfl | h <;> first | exact ⟨by decide, rfl, cl_L_19⟩ | cases h), by decide, by decide, cl_L_21, ca_IllegalArgumentException, rfl⟩, fun q9 => ?_⟩) (fun z g => ?_)
  · refine aw_astore (q := 20) (lv' := [(6, .ref q9), (0, .ref (r 0)), (1, .int p0), (2, .int p1), (3, .int p2), (4, .int p3), (5, .ref o)]) dL_relearn_18 rfl (by decide) rfl ?_
    refine aw_iconst (q := 21) (v := 1) dL_relearn_20 rfl (by decide) ?_
    exact aw_ireturn [1, 2, 3, 4, 5, 6, 7, 8, 9, 10, 11, 12, 13, 14, 15, 16, 17, 18, 19, 20, 21, 22, 23, 24, 25, 26, 27, 0] dL_relearn_21 rfl rfl rfl rfl (PN.mk (fun _ => 0) rfl rfl)
  · refine aw_astore (q := 24) (lv' := [(6, .ref q9), (0, .ref (r 0)), (1, .int p0), (2, .int p1), (3, .int p2), (4, .int p3), (5, .ref o)]) dL_relearn_22 rfl (by decide) rfl ?_
    refine aw_iconst (q := 25) (v := 2) dL_relearn_24 rfl (by decide) ?_
    exact aw_ireturn [1, 2, 3, 4, 5, 6, 7, 8, 9, 10, 11, 12, 13, 14, 15, 16, 17, 18, 19, 20, 21, 22, 23, 24, 25, 26, 27, 0] dL_relearn_25 rfl rfl rfl rfl (PN.mk (fun _ => 0) rfl rfl)
  refine aw_i2l (q := 12) dL_relearn_11 rfl ?_
  refine aw_putN (q := 15) (ws' := [OC o z.1.toInt64 sv] ++ WX r z.2) dL_relearn_12 rfl fn_L_13 0 rfl rfl rfl (Nat.le_of_ble_eq_true rfl) rfl ?_
  refine aw_goto (tgt := 26) dL_relearn_15 (by decide) ?_
  refine aw_iconst (q := 27) (v := 0) dL_relearn_26 rfl (by decide) ?_
  exact aw_ireturn [1, 2, 3, 4, 5, 6, 7, 8, 9, 10, 11, 12, 13, 14, 15, 16, 17, 18, 19, 20, 21, 22, 23, 24, 25, 26, 27, 0] dL_relearn_27 rfl rfl rfl rfl (PN.mk g rfl rfl)
def gL_forget (N K : Nat) (S : CS) (p0 : Int32) (p1 : Int32) (p2 : Int32) (p3 : Int32) (nv : Int64) : Option (Int32 × CS × Int64) := wb (gX_forget N K S p0 p1 p2 p3) (fun z => some ((0 : Int32), z.2, z.1.toInt64)) (some ((1 : Int32), S, nv)) (some ((2 : Int32), S, nv))
set_option maxHeartbeats 4000000 in
set_option maxRecDepth 100000 in
theorem ogL_forget {N K : Nat} {r : Nat → Nat} {o : Nat} {S : CS} {nv : Int64} {sv : Value} {p0 : Int32} {p1 : Int32} {p2 : Int32} {p3 : Int32} {x : Int32 × CS × Int64} (hE : gL_forget N K S p0 p1 p2 p3 nv = some x) : OkM yL_forget (.codeWith yL_forget cL_forget 7 (some .int) [(0, 15, 18, 19), (0, 15, 22, 21)]) (11) 4 24 [.ref (r 0), .int p0, .int p1, .int p2, .int p3, .ref o] (WX r S ++ [OC o nv sv]) ((PN (U := Int32 × CS × Int64) (fun z _ => some (.int z.1)) (fun z g => WX r z.2.1 ++ [OC o z.2.2 sv])) x) := by
  refine ok_ofH (by decide) (Nat.le_of_ble_eq_true rfl) hE ?_
  refine aw_locals (lv' := [(0, .ref (r 0)), (1, .int p0), (2, .int p1), (3, .int p2), (4, .int p3), (5, .ref o)]) [0, 1, 2, 3, 4, 5] rfl ?_
  refine aw_aload (q := 2) dL_forget_0 rfl 5 rfl ?_
  refine aw_aload_n (q := 3) dL_forget_2 rfl 0 rfl ?_
  refine aw_iload_n (q := 4) dL_forget_3 rfl 1 rfl ?_
  refine aw_iload_n (q := 5) dL_forget_4 rfl 2 rfl ?_
  refine aw_iload_n (q := 6) dL_forget_5 rfl 3 rfl ?_
  refine aw_iload (q := 8) dL_forget_6 rfl 4 rfl ?_
  refine aw_callC (q := 11) (hp1 := 18) (hp2 := 22) (kc1 := 0) (ks1 := 0) (wc := WX r S) (wr := [OC o nv sv]) (st1 := fun z g => [.int z.1, .ref o]) (ws1 := fun z g => [OC o nv sv] ++ WX r z.2) (As := [.ref (r 0), .int p0, .int p1, .int p2, .int p3]) [0, 1, 2, 3, 4, 5, 6, 7, 8, 9, 10, 11, 12, 13, 14, 15, 16, 17, 18, 19, 20, 21, 22, 23, 24, 25, 26] [27] (fun _ => runV (q0 := 0) dL_forget_8 mi_X5_forget im_X5_forget se_X5_forget ml_L_40 (by omega) rfl (Nat.le_of_ble_eq_true rfl) rfl rfl rfl rfl) (fun x9 h9 => ogX_forget h9) rfl rfl rfl rfl rfl (by decide) (by omega) (by omega) (fun _ _ => rfl) (fun _ _ => rfl) (Or.inr ⟨⟨[], _, [_], "java/lang/IndexOutOfBoundsException", rfl, (fun z h => by cases h), by decide, by decide, cl_L_19, ca_IndexOutOfBoundsException, rfl⟩, fun q9 => ?_⟩) (Or.inr ⟨⟨[_], _, [], "java/lang/IllegalArgumentException", rfl, (fun z h => by rcases List.mem_cons.mp h with rfl | h <;> first | exact ⟨by decide, rfl, cl_L_19⟩ | cases h), by decide, by decide, cl_L_21, ca_IllegalArgumentException, rfl⟩, fun q9 => ?_⟩) (fun z g => ?_)
  · refine aw_astore (q := 20) (lv' := [(6, .ref q9), (0, .ref (r 0)), (1, .int p0), (2, .int p1), (3, .int p2), (4, .int p3), (5, .ref o)]) dL_forget_18 rfl (by decide) rfl ?_
    refine aw_iconst (q := 21) (v := 1) dL_forget_20 rfl (by decide) ?_
    exact aw_ireturn [1, 2, 3, 4, 5, 6, 7, 8, 9, 10, 11, 12, 13, 14, 15, 16, 17, 18, 19, 20, 21, 22, 23, 24, 25, 26, 27, 0] dL_forget_21 rfl rfl rfl rfl (PN.mk (fun _ => 0) rfl rfl)
  · refine aw_astore (q := 24) (lv' := [(6, .ref q9), (0, .ref (r 0)), (1, .int p0), (2, .int p1), (3, .int p2), (4, .int p3), (5, .ref o)]) dL_forget_22 rfl (by decide) rfl ?_
    refine aw_iconst (q := 25) (v := 2) dL_forget_24 rfl (by decide) ?_
    exact aw_ireturn [1, 2, 3, 4, 5, 6, 7, 8, 9, 10, 11, 12, 13, 14, 15, 16, 17, 18, 19, 20, 21, 22, 23, 24, 25, 26, 27, 0] dL_forget_25 rfl rfl rfl rfl (PN.mk (fun _ => 0) rfl rfl)
  refine aw_i2l (q := 12) dL_forget_11 rfl ?_
  refine aw_putN (q := 15) (ws' := [OC o z.1.toInt64 sv] ++ WX r z.2) dL_forget_12 rfl fn_L_13 0 rfl rfl rfl (Nat.le_of_ble_eq_true rfl) rfl ?_
  refine aw_goto (tgt := 26) dL_forget_15 (by decide) ?_
  refine aw_iconst (q := 27) (v := 0) dL_forget_26 rfl (by decide) ?_
  exact aw_ireturn [1, 2, 3, 4, 5, 6, 7, 8, 9, 10, 11, 12, 13, 14, 15, 16, 17, 18, 19, 20, 21, 22, 23, 24, 25, 26, 27, 0] dL_forget_27 rfl rfl rfl rfl (PN.mk g rfl rfl)
def gL_forgetIf (N K : Nat) (S : CS) (p0 : Int32) (p1 : Int32) (p2 : Int32) (p3 : Int32) (p4 : Int32) (nv : Int64) : Option (Int32 × CS × Int64) := wb (gX_forgetIf N K S p0 p1 p2 p3 p4) (fun z => some ((0 : Int32), z.2, z.1.toInt64)) (some ((1 : Int32), S, nv)) (some ((2 : Int32), S, nv))
set_option maxHeartbeats 4000000 in
set_option maxRecDepth 100000 in
theorem ogL_forgetIf {N K : Nat} {r : Nat → Nat} {o : Nat} {S : CS} {nv : Int64} {sv : Value} {p0 : Int32} {p1 : Int32} {p2 : Int32} {p3 : Int32} {p4 : Int32} {x : Int32 × CS × Int64} (hE : gL_forgetIf N K S p0 p1 p2 p3 p4 nv = some x) : OkM yL_forgetIf (.codeWith yL_forgetIf cL_forgetIf 8 (some .int) [(0, 17, 20, 19), (0, 17, 24, 21)]) (11) 4 24 [.ref (r 0), .int p0, .int p1, .int p2, .int p3, .int p4, .ref o] (WX r S ++ [OC o nv sv]) ((PN (U := Int32 × CS × Int64) (fun z _ => some (.int z.1)) (fun z g => WX r z.2.1 ++ [OC o z.2.2 sv])) x) := by
  refine ok_ofH (by decide) (Nat.le_of_ble_eq_true rfl) hE ?_
  refine aw_locals (lv' := [(0, .ref (r 0)), (1, .int p0), (2, .int p1), (3, .int p2), (4, .int p3), (5, .int p4), (6, .ref o)]) [0, 1, 2, 3, 4, 5, 6] rfl ?_
  refine aw_aload (q := 2) dL_forgetIf_0 rfl 6 rfl ?_
  refine aw_aload_n (q := 3) dL_forgetIf_2 rfl 0 rfl ?_
  refine aw_iload_n (q := 4) dL_forgetIf_3 rfl 1 rfl ?_
  refine aw_iload_n (q := 5) dL_forgetIf_4 rfl 2 rfl ?_
  refine aw_iload_n (q := 6) dL_forgetIf_5 rfl 3 rfl ?_
  refine aw_iload (q := 8) dL_forgetIf_6 rfl 4 rfl ?_
  refine aw_iload (q := 10) dL_forgetIf_8 rfl 5 rfl ?_
  refine aw_callC (q := 13) (hp1 := 20) (hp2 := 24) (kc1 := 0) (ks1 := 0) (wc := WX r S) (wr := [OC o nv sv]) (st1 := fun z g => [.int z.1, .ref o]) (ws1 := fun z g => [OC o nv sv] ++ WX r z.2) (As := [.ref (r 0), .int p0, .int p1, .int p2, .int p3, .int p4]) [0, 1, 2, 3, 4, 5, 6, 7, 8, 9, 10, 11, 12, 13, 14, 15, 16, 17, 18, 19, 20, 21, 22, 23, 24, 25, 26] [27] (fun _ => runV (q0 := 0) dL_forgetIf_10 mi_X5_forgetIf im_X5_forgetIf se_X5_forgetIf ml_L_43 (by omega) rfl (Nat.le_of_ble_eq_true rfl) rfl rfl rfl rfl) (fun x9 h9 => ogX_forgetIf h9) rfl rfl rfl rfl rfl (by decide) (by omega) (by omega) (fun _ _ => rfl) (fun _ _ => rfl) (Or.inr ⟨⟨[], _, [_], "java/lang/IndexOutOfBoundsException", rfl, (fun z h => by cases h), by decide, by decide, cl_L_19, ca_IndexOutOfBoundsException, rfl⟩, fun q9 => ?_⟩) (Or.inr ⟨⟨[_], _, [], "java/lang/IllegalArgumentException", rfl, (fun z h => by rcases List.mem_cons.mp h with rfl | h <;> first | exact ⟨by decide, rfl, cl_L_19⟩ | cases h), by decide, by decide, cl_L_21, ca_IllegalArgumentException, rfl⟩, fun q9 => ?_⟩) (fun z g => ?_)
  · refine aw_astore (q := 22) (lv' := [(7, .ref q9), (0, .ref (r 0)), (1, .int p0), (2, .int p1), (3, .int p2), (4, .int p3), (5, .int p4), (6, .ref o)]) dL_forgetIf_20 rfl (by decide) rfl ?_
    refine aw_iconst (q := 23) (v := 1) dL_forgetIf_22 rfl (by decide) ?_
    exact aw_ireturn [1, 2, 3, 4, 5, 6, 7, 8, 9, 10, 11, 12, 13, 14, 15, 16, 17, 18, 19, 20, 21, 22, 23, 24, 25, 26, 27, 0] dL_forgetIf_23 rfl rfl rfl rfl (PN.mk (fun _ => 0) rfl rfl)
  · refine aw_astore (q := 26) (lv' := [(7, .ref q9), (0, .ref (r 0)), (1, .int p0), (2, .int p1), (3, .int p2), (4, .int p3), (5, .int p4), (6, .ref o)]) dL_forgetIf_24 rfl (by decide) rfl ?_
    refine aw_iconst (q := 27) (v := 2) dL_forgetIf_26 rfl (by decide) ?_
    exact aw_ireturn [1, 2, 3, 4, 5, 6, 7, 8, 9, 10, 11, 12, 13, 14, 15, 16, 17, 18, 19, 20, 21, 22, 23, 24, 25, 26, 27, 0] dL_forgetIf_27 rfl rfl rfl rfl (PN.mk (fun _ => 0) rfl rfl)
  refine aw_i2l (q := 14) dL_forgetIf_13 rfl ?_
  refine aw_putN (q := 17) (ws' := [OC o z.1.toInt64 sv] ++ WX r z.2) dL_forgetIf_14 rfl fn_L_13 0 rfl rfl rfl (Nat.le_of_ble_eq_true rfl) rfl ?_
  refine aw_goto (tgt := 28) dL_forgetIf_17 (by decide) ?_
  refine aw_iconst (q := 29) (v := 0) dL_forgetIf_28 rfl (by decide) ?_
  exact aw_ireturn [1, 2, 3, 4, 5, 6, 7, 8, 9, 10, 11, 12, 13, 14, 15, 16, 17, 18, 19, 20, 21, 22, 23, 24, 25, 26, 27, 0] dL_forgetIf_29 rfl rfl rfl rfl (PN.mk g rfl rfl)
def gL_forgetAll (N K : Nat) (S : CS) (p0 : Int32) (p1 : Int32) (p2 : Int32) (nv : Int64) : Option (Int32 × CS × Int64) := wb (gX_forgetAll N K S p0 p1 p2) (fun z => some ((0 : Int32), z.2, z.1.toInt64)) (some ((1 : Int32), S, nv)) (some ((2 : Int32), S, nv))
set_option maxHeartbeats 4000000 in
set_option maxRecDepth 100000 in
theorem ogL_forgetAll {N K : Nat} {r : Nat → Nat} {o : Nat} {S : CS} {nv : Int64} {sv : Value} {p0 : Int32} {p1 : Int32} {p2 : Int32} {x : Int32 × CS × Int64} (hE : gL_forgetAll N K S p0 p1 p2 nv = some x) : OkM yL_forgetAll (.codeWith yL_forgetAll cL_forgetAll 6 (some .int) [(0, 13, 16, 19), (0, 13, 20, 21)]) (10) 2 12 [.ref (r 0), .int p0, .int p1, .int p2, .ref o] (WX r S ++ [OC o nv sv]) ((PN (U := Int32 × CS × Int64) (fun z _ => some (.int z.1)) (fun z g => WX r z.2.1 ++ [OC o z.2.2 sv])) x) := by
  refine ok_ofH (by decide) (Nat.le_of_ble_eq_true rfl) hE ?_
  refine aw_locals (lv' := [(0, .ref (r 0)), (1, .int p0), (2, .int p1), (3, .int p2), (4, .ref o)]) [0, 1, 2, 3, 4] rfl ?_
  refine aw_aload (q := 2) dL_forgetAll_0 rfl 4 rfl ?_
  refine aw_aload_n (q := 3) dL_forgetAll_2 rfl 0 rfl ?_
  refine aw_iload_n (q := 4) dL_forgetAll_3 rfl 1 rfl ?_
  refine aw_iload_n (q := 5) dL_forgetAll_4 rfl 2 rfl ?_
  refine aw_iload_n (q := 6) dL_forgetAll_5 rfl 3 rfl ?_
  refine aw_callC (q := 9) (hp1 := 16) (hp2 := 20) (kc1 := 0) (ks1 := 0) (wc := WX r S) (wr := [OC o nv sv]) (st1 := fun z g => [.int z.1, .ref o]) (ws1 := fun z g => [OC o nv sv] ++ WX r z.2) (As := [.ref (r 0), .int p0, .int p1, .int p2]) [0, 1, 2, 3, 4, 5, 6, 7, 8, 9, 10, 11, 12, 13, 14, 15, 16, 17, 18, 19, 20, 21, 22, 23, 24, 25, 26] [27] (fun _ => runV (q0 := 0) dL_forgetAll_6 mi_X5_forgetAll im_X5_forgetAll se_X5_forgetAll ml_L_47 (by omega) rfl (Nat.le_of_ble_eq_true rfl) rfl rfl rfl rfl) (fun x9 h9 => ogX_forgetAll h9) rfl rfl rfl rfl rfl (by decide) (by omega) (by omega) (fun _ _ => rfl) (fun _ _ => rfl) (Or.inr ⟨⟨[], _, [_], "java/lang/IndexOutOfBoundsException", rfl, (fun z h => by cases h), by decide, by decide, cl_L_19, ca_IndexOutOfBoundsException, rfl⟩, fun q9 => ?_⟩) (Or.inr ⟨⟨[_], _, [], "java/lang/IllegalArgumentException", rfl, (fun z h => by rcases List.mem_cons.mp h with rfl | h <;> first | exact ⟨by decide, rfl, cl_L_19⟩ | cases h), by decide, by decide, cl_L_21, ca_IllegalArgumentException, rfl⟩, fun q9 => ?_⟩) (fun z g => ?_)
  · refine aw_astore (q := 18) (lv' := [(5, .ref q9), (0, .ref (r 0)), (1, .int p0), (2, .int p1), (3, .int p2), (4, .ref o)]) dL_forgetAll_16 rfl (by decide) rfl ?_
    refine aw_iconst (q := 19) (v := 1) dL_forgetAll_18 rfl (by decide) ?_
    exact aw_ireturn [1, 2, 3, 4, 5, 6, 7, 8, 9, 10, 11, 12, 13, 14, 15, 16, 17, 18, 19, 20, 21, 22, 23, 24, 25, 26, 27, 0] dL_forgetAll_19 rfl rfl rfl rfl (PN.mk (fun _ => 0) rfl rfl)
  · refine aw_astore (q := 22) (lv' := [(5, .ref q9), (0, .ref (r 0)), (1, .int p0), (2, .int p1), (3, .int p2), (4, .ref o)]) dL_forgetAll_20 rfl (by decide) rfl ?_
    refine aw_iconst (q := 23) (v := 2) dL_forgetAll_22 rfl (by decide) ?_
    exact aw_ireturn [1, 2, 3, 4, 5, 6, 7, 8, 9, 10, 11, 12, 13, 14, 15, 16, 17, 18, 19, 20, 21, 22, 23, 24, 25, 26, 27, 0] dL_forgetAll_23 rfl rfl rfl rfl (PN.mk (fun _ => 0) rfl rfl)
  refine aw_i2l (q := 10) dL_forgetAll_9 rfl ?_
  refine aw_putN (q := 13) (ws' := [OC o z.1.toInt64 sv] ++ WX r z.2) dL_forgetAll_10 rfl fn_L_13 0 rfl rfl rfl (Nat.le_of_ble_eq_true rfl) rfl ?_
  refine aw_goto (tgt := 24) dL_forgetAll_13 (by decide) ?_
  refine aw_iconst (q := 25) (v := 0) dL_forgetAll_24 rfl (by decide) ?_
  exact aw_ireturn [1, 2, 3, 4, 5, 6, 7, 8, 9, 10, 11, 12, 13, 14, 15, 16, 17, 18, 19, 20, 21, 22, 23, 24, 25, 26, 27, 0] dL_forgetAll_25 rfl rfl rfl rfl (PN.mk g rfl rfl)
def gL_clear (N K : Nat) (S : CS) (p0 : Int32) (nv : Int64) : Option (Int32 × CS × Int64) := wb (gX_clear N K S p0) (fun z => some ((0 : Int32), z.2, z.1.toInt64)) (some ((1 : Int32), S, nv)) none
set_option maxHeartbeats 4000000 in
set_option maxRecDepth 100000 in
theorem ogL_clear {N K : Nat} {r : Nat → Nat} {o : Nat} {S : CS} {nv : Int64} {sv : Value} {p0 : Int32} {x : Int32 × CS × Int64} (hE : gL_clear N K S p0 nv = some x) : OkM yL_clear (.codeWith yL_clear cL_clear 4 (some .int) [(0, 10, 13, 19)]) (10) 1 6 [.ref (r 0), .int p0, .ref o] (WX r S ++ [OC o nv sv]) ((PN (U := Int32 × CS × Int64) (fun z _ => some (.int z.1)) (fun z g => WX r z.2.1 ++ [OC o z.2.2 sv])) x) := by
  refine ok_ofH (by decide) (Nat.le_of_ble_eq_true rfl) hE ?_
  refine aw_locals (lv' := [(0, .ref (r 0)), (1, .int p0), (2, .ref o)]) [0, 1, 2] rfl ?_
  refine aw_aload_n (q := 1) dL_clear_0 rfl 2 rfl ?_
  refine aw_aload_n (q := 2) dL_clear_1 rfl 0 rfl ?_
  refine aw_iload_n (q := 3) dL_clear_2 rfl 1 rfl ?_
  refine aw_callC (q := 6) (hp1 := 13) (hp2 := 0) (kc1 := 0) (ks1 := 0) (wc := WX r S) (wr := [OC o nv sv]) (st1 := fun z g => [.int z.1, .ref o]) (ws1 := fun z g => [OC o nv sv] ++ WX r z.2) (As := [.ref (r 0), .int p0]) [0, 1, 2, 3, 4, 5, 6, 7, 8, 9, 10, 11, 12, 13, 14, 15, 16, 17, 18, 19, 20, 21, 22, 23, 24, 25, 26] [27] (fun _ => runV (q0 := 0) dL_clear_3 mi_X5_clear im_X5_clear se_X5_clear ml_L_50 (by omega) rfl (Nat.le_of_ble_eq_true rfl) rfl rfl rfl rfl) (fun x9 h9 => ogX_clear h9) rfl rfl rfl rfl rfl (by decide) (by omega) (by omega) (fun _ _ => rfl) (fun _ _ => rfl) (Or.inr ⟨⟨[], _, [], "java/lang/IndexOutOfBoundsException", rfl, (fun z h => by cases h), by decide, by decide, cl_L_19, ca_IndexOutOfBoundsException, rfl⟩, fun q9 => ?_⟩) (Or.inl rfl) (fun z g => ?_)
  · refine aw_astore_n (q := 14) (lv' := [(3, .ref q9), (0, .ref (r 0)), (1, .int p0), (2, .ref o)]) dL_clear_13 rfl (by decide) rfl ?_
    refine aw_iconst (q := 15) (v := 1) dL_clear_14 rfl (by decide) ?_
    exact aw_ireturn [1, 2, 3, 4, 5, 6, 7, 8, 9, 10, 11, 12, 13, 14, 15, 16, 17, 18, 19, 20, 21, 22, 23, 24, 25, 26, 27, 0] dL_clear_15 rfl rfl rfl rfl (PN.mk (fun _ => 0) rfl rfl)
  refine aw_i2l (q := 7) dL_clear_6 rfl ?_
  refine aw_putN (q := 10) (ws' := [OC o z.1.toInt64 sv] ++ WX r z.2) dL_clear_7 rfl fn_L_13 0 rfl rfl rfl (Nat.le_of_ble_eq_true rfl) rfl ?_
  refine aw_goto (tgt := 16) dL_clear_10 (by decide) ?_
  refine aw_iconst (q := 17) (v := 0) dL_clear_16 rfl (by decide) ?_
  exact aw_ireturn [1, 2, 3, 4, 5, 6, 7, 8, 9, 10, 11, 12, 13, 14, 15, 16, 17, 18, 19, 20, 21, 22, 23, 24, 25, 26, 27, 0] dL_clear_17 rfl rfl rfl rfl (PN.mk g rfl rfl)
def gL_copy (N K : Nat) (S : CS) (p0 : Int32) (p1 : Int32) (nv : Int64) : Option (Int32 × CS × Int64) := wb (gX_copy N K S p0 p1) (fun z => some ((0 : Int32), z.2, z.1.toInt64)) (some ((1 : Int32), S, nv)) none
set_option maxHeartbeats 4000000 in
set_option maxRecDepth 100000 in
theorem ogL_copy {N K : Nat} {r : Nat → Nat} {o : Nat} {S : CS} {nv : Int64} {sv : Value} {p0 : Int32} {p1 : Int32} {x : Int32 × CS × Int64} (hE : gL_copy N K S p0 p1 nv = some x) : OkM yL_copy (.codeWith yL_copy cL_copy 5 (some .int) [(0, 11, 14, 19)]) (10) 2 12 [.ref (r 0), .int p0, .int p1, .ref o] (WX r S ++ [OC o nv sv]) ((PN (U := Int32 × CS × Int64) (fun z _ => some (.int z.1)) (fun z g => WX r z.2.1 ++ [OC o z.2.2 sv])) x) := by
  refine ok_ofH (by decide) (Nat.le_of_ble_eq_true rfl) hE ?_
  refine aw_locals (lv' := [(0, .ref (r 0)), (1, .int p0), (2, .int p1), (3, .ref o)]) [0, 1, 2, 3] rfl ?_
  refine aw_aload_n (q := 1) dL_copy_0 rfl 3 rfl ?_
  refine aw_aload_n (q := 2) dL_copy_1 rfl 0 rfl ?_
  refine aw_iload_n (q := 3) dL_copy_2 rfl 1 rfl ?_
  refine aw_iload_n (q := 4) dL_copy_3 rfl 2 rfl ?_
  refine aw_callC (q := 7) (hp1 := 14) (hp2 := 0) (kc1 := 0) (ks1 := 0) (wc := WX r S) (wr := [OC o nv sv]) (st1 := fun z g => [.int z.1, .ref o]) (ws1 := fun z g => [OC o nv sv] ++ WX r z.2) (As := [.ref (r 0), .int p0, .int p1]) [0, 1, 2, 3, 4, 5, 6, 7, 8, 9, 10, 11, 12, 13, 14, 15, 16, 17, 18, 19, 20, 21, 22, 23, 24, 25, 26] [27] (fun _ => runV (q0 := 0) dL_copy_4 mi_X5_copy im_X5_copy se_X5_copy ml_L_54 (by omega) rfl (Nat.le_of_ble_eq_true rfl) rfl rfl rfl rfl) (fun x9 h9 => ogX_copy h9) rfl rfl rfl rfl rfl (by decide) (by omega) (by omega) (fun _ _ => rfl) (fun _ _ => rfl) (Or.inr ⟨⟨[], _, [], "java/lang/IndexOutOfBoundsException", rfl, (fun z h => by cases h), by decide, by decide, cl_L_19, ca_IndexOutOfBoundsException, rfl⟩, fun q9 => ?_⟩) (Or.inl rfl) (fun z g => ?_)
  · refine aw_astore (q := 16) (lv' := [(4, .ref q9), (0, .ref (r 0)), (1, .int p0), (2, .int p1), (3, .ref o)]) dL_copy_14 rfl (by decide) rfl ?_
    refine aw_iconst (q := 17) (v := 1) dL_copy_16 rfl (by decide) ?_
    exact aw_ireturn [1, 2, 3, 4, 5, 6, 7, 8, 9, 10, 11, 12, 13, 14, 15, 16, 17, 18, 19, 20, 21, 22, 23, 24, 25, 26, 27, 0] dL_copy_17 rfl rfl rfl rfl (PN.mk (fun _ => 0) rfl rfl)
  refine aw_i2l (q := 8) dL_copy_7 rfl ?_
  refine aw_putN (q := 11) (ws' := [OC o z.1.toInt64 sv] ++ WX r z.2) dL_copy_8 rfl fn_L_13 0 rfl rfl rfl (Nat.le_of_ble_eq_true rfl) rfl ?_
  refine aw_goto (tgt := 18) dL_copy_11 (by decide) ?_
  refine aw_iconst (q := 19) (v := 0) dL_copy_18 rfl (by decide) ?_
  exact aw_ireturn [1, 2, 3, 4, 5, 6, 7, 8, 9, 10, 11, 12, 13, 14, 15, 16, 17, 18, 19, 20, 21, 22, 23, 24, 25, 26, 27, 0] dL_copy_19 rfl rfl rfl rfl (PN.mk g rfl rfl)
def gL_pour (N K : Nat) (S : CS) (p0 : Int32) (p1 : Int32) (nv : Int64) : Option (Int32 × CS × Int64) := wb (gX_pour N K S p0 p1) (fun z => some ((0 : Int32), z.2, z.1.toInt64)) (some ((1 : Int32), S, nv)) none
set_option maxHeartbeats 4000000 in
set_option maxRecDepth 100000 in
theorem ogL_pour {N K : Nat} {r : Nat → Nat} {o : Nat} {S : CS} {nv : Int64} {sv : Value} {p0 : Int32} {p1 : Int32} {x : Int32 × CS × Int64} (hE : gL_pour N K S p0 p1 nv = some x) : OkM yL_pour (.codeWith yL_pour cL_pour 5 (some .int) [(0, 11, 14, 19)]) (10) 2 12 [.ref (r 0), .int p0, .int p1, .ref o] (WX r S ++ [OC o nv sv]) ((PN (U := Int32 × CS × Int64) (fun z _ => some (.int z.1)) (fun z g => WX r z.2.1 ++ [OC o z.2.2 sv])) x) := by
  refine ok_ofH (by decide) (Nat.le_of_ble_eq_true rfl) hE ?_
  refine aw_locals (lv' := [(0, .ref (r 0)), (1, .int p0), (2, .int p1), (3, .ref o)]) [0, 1, 2, 3] rfl ?_
  refine aw_aload_n (q := 1) dL_pour_0 rfl 3 rfl ?_
  refine aw_aload_n (q := 2) dL_pour_1 rfl 0 rfl ?_
  refine aw_iload_n (q := 3) dL_pour_2 rfl 1 rfl ?_
  refine aw_iload_n (q := 4) dL_pour_3 rfl 2 rfl ?_
  refine aw_callC (q := 7) (hp1 := 14) (hp2 := 0) (kc1 := 0) (ks1 := 0) (wc := WX r S) (wr := [OC o nv sv]) (st1 := fun z g => [.int z.1, .ref o]) (ws1 := fun z g => [OC o nv sv] ++ WX r z.2) (As := [.ref (r 0), .int p0, .int p1]) [0, 1, 2, 3, 4, 5, 6, 7, 8, 9, 10, 11, 12, 13, 14, 15, 16, 17, 18, 19, 20, 21, 22, 23, 24, 25, 26] [27] (fun _ => runV (q0 := 0) dL_pour_4 mi_X5_pour im_X5_pour se_X5_pour ml_L_57 (by omega) rfl (Nat.le_of_ble_eq_true rfl) rfl rfl rfl rfl) (fun x9 h9 => ogX_pour h9) rfl rfl rfl rfl rfl (by decide) (by omega) (by omega) (fun _ _ => rfl) (fun _ _ => rfl) (Or.inr ⟨⟨[], _, [], "java/lang/IndexOutOfBoundsException", rfl, (fun z h => by cases h), by decide, by decide, cl_L_19, ca_IndexOutOfBoundsException, rfl⟩, fun q9 => ?_⟩) (Or.inl rfl) (fun z g => ?_)
  · refine aw_astore (q := 16) (lv' := [(4, .ref q9), (0, .ref (r 0)), (1, .int p0), (2, .int p1), (3, .ref o)]) dL_pour_14 rfl (by decide) rfl ?_
    refine aw_iconst (q := 17) (v := 1) dL_pour_16 rfl (by decide) ?_
    exact aw_ireturn [1, 2, 3, 4, 5, 6, 7, 8, 9, 10, 11, 12, 13, 14, 15, 16, 17, 18, 19, 20, 21, 22, 23, 24, 25, 26, 27, 0] dL_pour_17 rfl rfl rfl rfl (PN.mk (fun _ => 0) rfl rfl)
  refine aw_i2l (q := 8) dL_pour_7 rfl ?_
  refine aw_putN (q := 11) (ws' := [OC o z.1.toInt64 sv] ++ WX r z.2) dL_pour_8 rfl fn_L_13 0 rfl rfl rfl (Nat.le_of_ble_eq_true rfl) rfl ?_
  refine aw_goto (tgt := 18) dL_pour_11 (by decide) ?_
  refine aw_iconst (q := 19) (v := 0) dL_pour_18 rfl (by decide) ?_
  exact aw_ireturn [1, 2, 3, 4, 5, 6, 7, 8, 9, 10, 11, 12, 13, 14, 15, 16, 17, 18, 19, 20, 21, 22, 23, 24, 25, 26, 27, 0] dL_pour_19 rfl rfl rfl rfl (PN.mk g rfl rfl)
def gL_isKept (N K : Nat) (S : CS) (p0 : Int32) (p1 : Int32) (p2 : Int32) (p3 : Int32) (p4 : Int32) (nv : Int64) : Option (Int32 × CS × Int64) := wb (gX_isKept N K S p0 p1 p2 p3 p4) (fun z => (if z.1 = 0 then some ((0 : Int32), z.2, (0 : Int64)) else some ((0 : Int32), z.2, (1 : Int64)))) (some ((1 : Int32), S, nv)) (some ((2 : Int32), S, nv))
set_option maxHeartbeats 4000000 in
set_option maxRecDepth 100000 in
theorem ogL_isKept {N K : Nat} {r : Nat → Nat} {o : Nat} {S : CS} {nv : Int64} {sv : Value} {p0 : Int32} {p1 : Int32} {p2 : Int32} {p3 : Int32} {p4 : Int32} {x : Int32 × CS × Int64} (hE : gL_isKept N K S p0 p1 p2 p3 p4 nv = some x) : OkM yL_isKept (.codeWith yL_isKept cL_isKept 8 (some .int) [(0, 24, 27, 19), (0, 24, 31, 21)]) (11) 5 30 [.ref (r 0), .int p0, .int p1, .int p2, .int p3, .int p4, .ref o] (WX r S ++ [OC o nv sv]) ((PN (U := Int32 × CS × Int64) (fun z _ => some (.int z.1)) (fun z g => WX r z.2.1 ++ [OC o z.2.2 sv])) x) := by
  refine ok_ofH (by decide) (Nat.le_of_ble_eq_true rfl) hE ?_
  refine aw_locals (lv' := [(0, .ref (r 0)), (1, .int p0), (2, .int p1), (3, .int p2), (4, .int p3), (5, .int p4), (6, .ref o)]) [0, 1, 2, 3, 4, 5, 6] rfl ?_
  refine aw_aload (q := 2) dL_isKept_0 rfl 6 rfl ?_
  refine aw_aload_n (q := 3) dL_isKept_2 rfl 0 rfl ?_
  refine aw_iload_n (q := 4) dL_isKept_3 rfl 1 rfl ?_
  refine aw_iload_n (q := 5) dL_isKept_4 rfl 2 rfl ?_
  refine aw_iload_n (q := 6) dL_isKept_5 rfl 3 rfl ?_
  refine aw_iload (q := 8) dL_isKept_6 rfl 4 rfl ?_
  refine aw_iload (q := 10) dL_isKept_8 rfl 5 rfl ?_
  refine aw_callC (q := 13) (hp1 := 27) (hp2 := 31) (kc1 := 0) (ks1 := 0) (wc := WX r S) (wr := [OC o nv sv]) (st1 := fun z g => [.int z.1, .ref o]) (ws1 := fun z g => [OC o nv sv] ++ WX r z.2) (As := [.ref (r 0), .int p0, .int p1, .int p2, .int p3, .int p4]) [0, 1, 2, 3, 4, 5, 6, 7, 8, 9, 10, 11, 12, 13, 14, 15, 16, 17, 18, 19, 20, 21, 22, 23, 24, 25, 26] [27] (fun _ => runV (q0 := 0) dL_isKept_10 mi_X5_isKept im_X5_isKept se_X5_isKept ml_L_60 (by omega) rfl (Nat.le_of_ble_eq_true rfl) rfl rfl rfl rfl) (fun x9 h9 => ogX_isKept h9) rfl rfl rfl rfl rfl (by decide) (by omega) (by omega) (fun _ _ => rfl) (fun _ _ => rfl) (Or.inr ⟨⟨[], _, [_], "java/lang/IndexOutOfBoundsException", rfl, (fun z h => by cases h), by decide, by decide, cl_L_19, ca_IndexOutOfBoundsException, rfl⟩, fun q9 => ?_⟩) (Or.inr ⟨⟨[_], _, [], "java/lang/IllegalArgumentException", rfl, (fun z h => by rcases List.mem_cons.mp h with rfl | h <;> first | exact ⟨by decide, rfl, cl_L_19⟩ | cases h), by decide, by decide, cl_L_21, ca_IllegalArgumentException, rfl⟩, fun q9 => ?_⟩) (fun z g => ?_)
  · refine aw_astore (q := 29) (lv' := [(7, .ref q9), (0, .ref (r 0)), (1, .int p0), (2, .int p1), (3, .int p2), (4, .int p3), (5, .int p4), (6, .ref o)]) dL_isKept_27 rfl (by decide) rfl ?_
    refine aw_iconst (q := 30) (v := 1) dL_isKept_29 rfl (by decide) ?_
    exact aw_ireturn [1, 2, 3, 4, 5, 6, 7, 8, 9, 10, 11, 12, 13, 14, 15, 16, 17, 18, 19, 20, 21, 22, 23, 24, 25, 26, 27, 0] dL_isKept_30 rfl rfl rfl rfl (PN.mk (fun _ => 0) rfl rfl)
  · refine aw_astore (q := 33) (lv' := [(7, .ref q9), (0, .ref (r 0)), (1, .int p0), (2, .int p1), (3, .int p2), (4, .int p3), (5, .int p4), (6, .ref o)]) dL_isKept_31 rfl (by decide) rfl ?_
    refine aw_iconst (q := 34) (v := 2) dL_isKept_33 rfl (by decide) ?_
    exact aw_ireturn [1, 2, 3, 4, 5, 6, 7, 8, 9, 10, 11, 12, 13, 14, 15, 16, 17, 18, 19, 20, 21, 22, 23, 24, 25, 26, 27, 0] dL_isKept_34 rfl rfl rfl rfl (PN.mk (fun _ => 0) rfl rfl)
  refine aw_if_eq (tgt := 20) (q := 16) dL_isKept_13 (by decide) rfl (fun h0 => ?_) (fun h0 => ?_)
  · refine aw_lconst (q := 21) (v := 0) dL_isKept_20 rfl (by decide) ?_
    refine aw_putN (q := 24) (ws' := [OC o 0 sv] ++ WX r z.2) dL_isKept_21 rfl fn_L_13 0 rfl rfl rfl (Nat.le_of_ble_eq_true rfl) rfl ?_
    refine aw_goto (tgt := 35) dL_isKept_24 (by decide) ?_
    refine aw_iconst (q := 36) (v := 0) dL_isKept_35 rfl (by decide) ?_
    exact aw_ireturn [1, 2, 3, 4, 5, 6, 7, 8, 9, 10, 11, 12, 13, 14, 15, 16, 17, 18, 19, 20, 21, 22, 23, 24, 25, 26, 27, 0] dL_isKept_36 rfl rfl rfl rfl (PN.mk g rfl rfl)
  · refine aw_lconst (q := 17) (v := 1) dL_isKept_16 rfl (by decide) ?_
    refine aw_goto (tgt := 21) dL_isKept_17 (by decide) ?_
    refine aw_putN (q := 24) (ws' := [OC o 1 sv] ++ WX r z.2) dL_isKept_21 rfl fn_L_13 0 rfl rfl rfl (Nat.le_of_ble_eq_true rfl) rfl ?_
    refine aw_goto (tgt := 35) dL_isKept_24 (by decide) ?_
    refine aw_iconst (q := 36) (v := 0) dL_isKept_35 rfl (by decide) ?_
    exact aw_ireturn [1, 2, 3, 4, 5, 6, 7, 8, 9, 10, 11, 12, 13, 14, 15, 16, 17, 18, 19, 20, 21, 22, 23, 24, 25, 26, 27, 0] dL_isKept_36 rfl rfl rfl rfl (PN.mk g rfl rfl)
def gL_worthOr (N K : Nat) (S : CS) (p0 : Int32) (p1 : Int32) (p2 : Int32) (p3 : Int32) (p4 : Int32) (nv : Int64) : Option (Int32 × CS × Int64) := wb (gX_worthOr N K S p0 p1 p2 p3 p4) (fun z => some ((0 : Int32), z.2, z.1.toInt64)) (some ((1 : Int32), S, nv)) (some ((2 : Int32), S, nv))
set_option maxHeartbeats 4000000 in
set_option maxRecDepth 100000 in
theorem ogL_worthOr {N K : Nat} {r : Nat → Nat} {o : Nat} {S : CS} {nv : Int64} {sv : Value} {p0 : Int32} {p1 : Int32} {p2 : Int32} {p3 : Int32} {p4 : Int32} {x : Int32 × CS × Int64} (hE : gL_worthOr N K S p0 p1 p2 p3 p4 nv = some x) : OkM yL_worthOr (.codeWith yL_worthOr cL_worthOr 8 (some .int) [(0, 17, 20, 19), (0, 17, 24, 21)]) (11) 4 24 [.ref (r 0), .int p0, .int p1, .int p2, .int p3, .int p4, .ref o] (WX r S ++ [OC o nv sv]) ((PN (U := Int32 × CS × Int64) (fun z _ => some (.int z.1)) (fun z g => WX r z.2.1 ++ [OC o z.2.2 sv])) x) := by
  refine ok_ofH (by decide) (Nat.le_of_ble_eq_true rfl) hE ?_
  refine aw_locals (lv' := [(0, .ref (r 0)), (1, .int p0), (2, .int p1), (3, .int p2), (4, .int p3), (5, .int p4), (6, .ref o)]) [0, 1, 2, 3, 4, 5, 6] rfl ?_
  refine aw_aload (q := 2) dL_worthOr_0 rfl 6 rfl ?_
  refine aw_aload_n (q := 3) dL_worthOr_2 rfl 0 rfl ?_
  refine aw_iload_n (q := 4) dL_worthOr_3 rfl 1 rfl ?_
  refine aw_iload_n (q := 5) dL_worthOr_4 rfl 2 rfl ?_
  refine aw_iload_n (q := 6) dL_worthOr_5 rfl 3 rfl ?_
  refine aw_iload (q := 8) dL_worthOr_6 rfl 4 rfl ?_
  refine aw_iload (q := 10) dL_worthOr_8 rfl 5 rfl ?_
  refine aw_callC (q := 13) (hp1 := 20) (hp2 := 24) (kc1 := 0) (ks1 := 0) (wc := WX r S) (wr := [OC o nv sv]) (st1 := fun z g => [.int z.1, .ref o]) (ws1 := fun z g => [OC o nv sv] ++ WX r z.2) (As := [.ref (r 0), .int p0, .int p1, .int p2, .int p3, .int p4]) [0, 1, 2, 3, 4, 5, 6, 7, 8, 9, 10, 11, 12, 13, 14, 15, 16, 17, 18, 19, 20, 21, 22, 23, 24, 25, 26] [27] (fun _ => runV (q0 := 0) dL_worthOr_10 mi_X5_worthOr im_X5_worthOr se_X5_worthOr ml_L_64 (by omega) rfl (Nat.le_of_ble_eq_true rfl) rfl rfl rfl rfl) (fun x9 h9 => ogX_worthOr h9) rfl rfl rfl rfl rfl (by decide) (by omega) (by omega) (fun _ _ => rfl) (fun _ _ => rfl) (Or.inr ⟨⟨[], _, [_], "java/lang/IndexOutOfBoundsException", rfl, (fun z h => by cases h), by decide, by decide, cl_L_19, ca_IndexOutOfBoundsException, rfl⟩, fun q9 => ?_⟩) (Or.inr ⟨⟨[_], _, [], "java/lang/IllegalArgumentException", rfl, (fun z h => by rcases List.mem_cons.mp h with rfl | h <;> first | exact ⟨by decide, rfl, cl_L_19⟩ | cases h), by decide, by decide, cl_L_21, ca_IllegalArgumentException, rfl⟩, fun q9 => ?_⟩) (fun z g => ?_)
  · refine aw_astore (q := 22) (lv' := [(7, .ref q9), (0, .ref (r 0)), (1, .int p0), (2, .int p1), (3, .int p2), (4, .int p3), (5, .int p4), (6, .ref o)]) dL_worthOr_20 rfl (by decide) rfl ?_
    refine aw_iconst (q := 23) (v := 1) dL_worthOr_22 rfl (by decide) ?_
    exact aw_ireturn [1, 2, 3, 4, 5, 6, 7, 8, 9, 10, 11, 12, 13, 14, 15, 16, 17, 18, 19, 20, 21, 22, 23, 24, 25, 26, 27, 0] dL_worthOr_23 rfl rfl rfl rfl (PN.mk (fun _ => 0) rfl rfl)
  · refine aw_astore (q := 26) (lv' := [(7, .ref q9), (0, .ref (r 0)), (1, .int p0), (2, .int p1), (3, .int p2), (4, .int p3), (5, .int p4), (6, .ref o)]) dL_worthOr_24 rfl (by decide) rfl ?_
    refine aw_iconst (q := 27) (v := 2) dL_worthOr_26 rfl (by decide) ?_
    exact aw_ireturn [1, 2, 3, 4, 5, 6, 7, 8, 9, 10, 11, 12, 13, 14, 15, 16, 17, 18, 19, 20, 21, 22, 23, 24, 25, 26, 27, 0] dL_worthOr_27 rfl rfl rfl rfl (PN.mk (fun _ => 0) rfl rfl)
  refine aw_i2l (q := 14) dL_worthOr_13 rfl ?_
  refine aw_putN (q := 17) (ws' := [OC o z.1.toInt64 sv] ++ WX r z.2) dL_worthOr_14 rfl fn_L_13 0 rfl rfl rfl (Nat.le_of_ble_eq_true rfl) rfl ?_
  refine aw_goto (tgt := 28) dL_worthOr_17 (by decide) ?_
  refine aw_iconst (q := 29) (v := 0) dL_worthOr_28 rfl (by decide) ?_
  exact aw_ireturn [1, 2, 3, 4, 5, 6, 7, 8, 9, 10, 11, 12, 13, 14, 15, 16, 17, 18, 19, 20, 21, 22, 23, 24, 25, 26, 27, 0] dL_worthOr_29 rfl rfl rfl rfl (PN.mk g rfl rfl)
def gL_confirm (N K : Nat) (S : CS) (p0 : Int32) (p1 : Int32) (p2 : Int32) (p3 : Int32) (p4 : Int32) (nv : Int64) : Option (Int32 × CS × Int64) := wb (gX_confirm N K S p0 p1 p2 p3 p4) (fun z => (if z.1 = 0 then some ((0 : Int32), z.2, (0 : Int64)) else some ((0 : Int32), z.2, (1 : Int64)))) (some ((1 : Int32), S, nv)) (some ((2 : Int32), S, nv))
set_option maxHeartbeats 4000000 in
set_option maxRecDepth 100000 in
theorem ogL_confirm {N K : Nat} {r : Nat → Nat} {o : Nat} {S : CS} {nv : Int64} {sv : Value} {p0 : Int32} {p1 : Int32} {p2 : Int32} {p3 : Int32} {p4 : Int32} {x : Int32 × CS × Int64} (hE : gL_confirm N K S p0 p1 p2 p3 p4 nv = some x) : OkM yL_confirm (.codeWith yL_confirm cL_confirm 8 (some .int) [(0, 24, 27, 19), (0, 24, 31, 21)]) (11) 4 24 [.ref (r 0), .int p0, .int p1, .int p2, .int p3, .int p4, .ref o] (WX r S ++ [OC o nv sv]) ((PN (U := Int32 × CS × Int64) (fun z _ => some (.int z.1)) (fun z g => WX r z.2.1 ++ [OC o z.2.2 sv])) x) := by
  refine ok_ofH (by decide) (Nat.le_of_ble_eq_true rfl) hE ?_
  refine aw_locals (lv' := [(0, .ref (r 0)), (1, .int p0), (2, .int p1), (3, .int p2), (4, .int p3), (5, .int p4), (6, .ref o)]) [0, 1, 2, 3, 4, 5, 6] rfl ?_
  refine aw_aload (q := 2) dL_confirm_0 rfl 6 rfl ?_
  refine aw_aload_n (q := 3) dL_confirm_2 rfl 0 rfl ?_
  refine aw_iload_n (q := 4) dL_confirm_3 rfl 1 rfl ?_
  refine aw_iload_n (q := 5) dL_confirm_4 rfl 2 rfl ?_
  refine aw_iload_n (q := 6) dL_confirm_5 rfl 3 rfl ?_
  refine aw_iload (q := 8) dL_confirm_6 rfl 4 rfl ?_
  refine aw_iload (q := 10) dL_confirm_8 rfl 5 rfl ?_
  refine aw_callC (q := 13) (hp1 := 27) (hp2 := 31) (kc1 := 0) (ks1 := 0) (wc := WX r S) (wr := [OC o nv sv]) (st1 := fun z g => [.int z.1, .ref o]) (ws1 := fun z g => [OC o nv sv] ++ WX r z.2) (As := [.ref (r 0), .int p0, .int p1, .int p2, .int p3, .int p4]) [0, 1, 2, 3, 4, 5, 6, 7, 8, 9, 10, 11, 12, 13, 14, 15, 16, 17, 18, 19, 20, 21, 22, 23, 24, 25, 26] [27] (fun _ => runV (q0 := 0) dL_confirm_10 mi_X5_confirm im_X5_confirm se_X5_confirm ml_L_67 (by omega) rfl (Nat.le_of_ble_eq_true rfl) rfl rfl rfl rfl) (fun x9 h9 => ogX_confirm h9) rfl rfl rfl rfl rfl (by decide) (by omega) (by omega) (fun _ _ => rfl) (fun _ _ => rfl) (Or.inr ⟨⟨[], _, [_], "java/lang/IndexOutOfBoundsException", rfl, (fun z h => by cases h), by decide, by decide, cl_L_19, ca_IndexOutOfBoundsException, rfl⟩, fun q9 => ?_⟩) (Or.inr ⟨⟨[_], _, [], "java/lang/IllegalArgumentException", rfl, (fun z h => by rcases List.mem_cons.mp h with rfl | h <;> first | exact ⟨by decide, rfl, cl_L_19⟩ | cases h), by decide, by decide, cl_L_21, ca_IllegalArgumentException, rfl⟩, fun q9 => ?_⟩) (fun z g => ?_)
  · refine aw_astore (q := 29) (lv' := [(7, .ref q9), (0, .ref (r 0)), (1, .int p0), (2, .int p1), (3, .int p2), (4, .int p3), (5, .int p4), (6, .ref o)]) dL_confirm_27 rfl (by decide) rfl ?_
    refine aw_iconst (q := 30) (v := 1) dL_confirm_29 rfl (by decide) ?_
    exact aw_ireturn [1, 2, 3, 4, 5, 6, 7, 8, 9, 10, 11, 12, 13, 14, 15, 16, 17, 18, 19, 20, 21, 22, 23, 24, 25, 26, 27, 0] dL_confirm_30 rfl rfl rfl rfl (PN.mk (fun _ => 0) rfl rfl)
  · refine aw_astore (q := 33) (lv' := [(7, .ref q9), (0, .ref (r 0)), (1, .int p0), (2, .int p1), (3, .int p2), (4, .int p3), (5, .int p4), (6, .ref o)]) dL_confirm_31 rfl (by decide) rfl ?_
    refine aw_iconst (q := 34) (v := 2) dL_confirm_33 rfl (by decide) ?_
    exact aw_ireturn [1, 2, 3, 4, 5, 6, 7, 8, 9, 10, 11, 12, 13, 14, 15, 16, 17, 18, 19, 20, 21, 22, 23, 24, 25, 26, 27, 0] dL_confirm_34 rfl rfl rfl rfl (PN.mk (fun _ => 0) rfl rfl)
  refine aw_if_eq (tgt := 20) (q := 16) dL_confirm_13 (by decide) rfl (fun h0 => ?_) (fun h0 => ?_)
  · refine aw_lconst (q := 21) (v := 0) dL_confirm_20 rfl (by decide) ?_
    refine aw_putN (q := 24) (ws' := [OC o 0 sv] ++ WX r z.2) dL_confirm_21 rfl fn_L_13 0 rfl rfl rfl (Nat.le_of_ble_eq_true rfl) rfl ?_
    refine aw_goto (tgt := 35) dL_confirm_24 (by decide) ?_
    refine aw_iconst (q := 36) (v := 0) dL_confirm_35 rfl (by decide) ?_
    exact aw_ireturn [1, 2, 3, 4, 5, 6, 7, 8, 9, 10, 11, 12, 13, 14, 15, 16, 17, 18, 19, 20, 21, 22, 23, 24, 25, 26, 27, 0] dL_confirm_36 rfl rfl rfl rfl (PN.mk g rfl rfl)
  · refine aw_lconst (q := 17) (v := 1) dL_confirm_16 rfl (by decide) ?_
    refine aw_goto (tgt := 21) dL_confirm_17 (by decide) ?_
    refine aw_putN (q := 24) (ws' := [OC o 1 sv] ++ WX r z.2) dL_confirm_21 rfl fn_L_13 0 rfl rfl rfl (Nat.le_of_ble_eq_true rfl) rfl ?_
    refine aw_goto (tgt := 35) dL_confirm_24 (by decide) ?_
    refine aw_iconst (q := 36) (v := 0) dL_confirm_35 rfl (by decide) ?_
    exact aw_ireturn [1, 2, 3, 4, 5, 6, 7, 8, 9, 10, 11, 12, 13, 14, 15, 16, 17, 18, 19, 20, 21, 22, 23, 24, 25, 26, 27, 0] dL_confirm_36 rfl rfl rfl rfl (PN.mk g rfl rfl)
def gL_about (N K : Nat) (S : CS) (p0 : Int32) (p1 : Int32) (nv : Int64) : Option (Int32 × CS × Int64) := wb (gX_about N K S p0 p1) (fun z => some ((0 : Int32), z.2, z.1.toInt64)) (some ((1 : Int32), S, nv)) (some ((2 : Int32), S, nv))
set_option maxHeartbeats 4000000 in
set_option maxRecDepth 100000 in
theorem ogL_about {N K : Nat} {r : Nat → Nat} {o : Nat} {S : CS} {nv : Int64} {sv : Value} {p0 : Int32} {p1 : Int32} {x : Int32 × CS × Int64} (hE : gL_about N K S p0 p1 nv = some x) : OkM yL_about (.codeWith yL_about cL_about 5 (some .int) [(0, 11, 14, 19), (0, 11, 18, 21)]) (10) 2 12 [.ref (r 0), .int p0, .int p1, .ref o] (WX r S ++ [OC o nv sv]) ((PN (U := Int32 × CS × Int64) (fun z _ => some (.int z.1)) (fun z g => WX r z.2.1 ++ [OC o z.2.2 sv])) x) := by
  refine ok_ofH (by decide) (Nat.le_of_ble_eq_true rfl) hE ?_
  refine aw_locals (lv' := [(0, .ref (r 0)), (1, .int p0), (2, .int p1), (3, .ref o)]) [0, 1, 2, 3] rfl ?_
  refine aw_aload_n (q := 1) dL_about_0 rfl 3 rfl ?_
  refine aw_aload_n (q := 2) dL_about_1 rfl 0 rfl ?_
  refine aw_iload_n (q := 3) dL_about_2 rfl 1 rfl ?_
  refine aw_iload_n (q := 4) dL_about_3 rfl 2 rfl ?_
  refine aw_callC (q := 7) (hp1 := 14) (hp2 := 18) (kc1 := 0) (ks1 := 0) (wc := WX r S) (wr := [OC o nv sv]) (st1 := fun z g => [.int z.1, .ref o]) (ws1 := fun z g => [OC o nv sv] ++ WX r z.2) (As := [.ref (r 0), .int p0, .int p1]) [0, 1, 2, 3, 4, 5, 6, 7, 8, 9, 10, 11, 12, 13, 14, 15, 16, 17, 18, 19, 20, 21, 22, 23, 24, 25, 26] [27] (fun _ => runV (q0 := 0) dL_about_4 mi_X5_about im_X5_about se_X5_about ml_L_70 (by omega) rfl (Nat.le_of_ble_eq_true rfl) rfl rfl rfl rfl) (fun x9 h9 => ogX_about h9) rfl rfl rfl rfl rfl (by decide) (by omega) (by omega) (fun _ _ => rfl) (fun _ _ => rfl) (Or.inr ⟨⟨[], _, [_], "java/lang/IndexOutOfBoundsException", rfl, (fun z h => by cases h), by decide, by decide, cl_L_19, ca_IndexOutOfBoundsException, rfl⟩, fun q9 => ?_⟩) (Or.inr ⟨⟨[_], _, [], "java/lang/IllegalArgumentException", rfl, (fun z h => by rcases List.mem_cons.mp h with rfl | h <;> first | exact ⟨by decide, rfl, cl_L_19⟩ | cases h), by decide, by decide, cl_L_21, ca_IllegalArgumentException, rfl⟩, fun q9 => ?_⟩) (fun z g => ?_)
  · refine aw_astore (q := 16) (lv' := [(4, .ref q9), (0, .ref (r 0)), (1, .int p0), (2, .int p1), (3, .ref o)]) dL_about_14 rfl (by decide) rfl ?_
    refine aw_iconst (q := 17) (v := 1) dL_about_16 rfl (by decide) ?_
    exact aw_ireturn [1, 2, 3, 4, 5, 6, 7, 8, 9, 10, 11, 12, 13, 14, 15, 16, 17, 18, 19, 20, 21, 22, 23, 24, 25, 26, 27, 0] dL_about_17 rfl rfl rfl rfl (PN.mk (fun _ => 0) rfl rfl)
  · refine aw_astore (q := 20) (lv' := [(4, .ref q9), (0, .ref (r 0)), (1, .int p0), (2, .int p1), (3, .ref o)]) dL_about_18 rfl (by decide) rfl ?_
    refine aw_iconst (q := 21) (v := 2) dL_about_20 rfl (by decide) ?_
    exact aw_ireturn [1, 2, 3, 4, 5, 6, 7, 8, 9, 10, 11, 12, 13, 14, 15, 16, 17, 18, 19, 20, 21, 22, 23, 24, 25, 26, 27, 0] dL_about_21 rfl rfl rfl rfl (PN.mk (fun _ => 0) rfl rfl)
  refine aw_i2l (q := 8) dL_about_7 rfl ?_
  refine aw_putN (q := 11) (ws' := [OC o z.1.toInt64 sv] ++ WX r z.2) dL_about_8 rfl fn_L_13 0 rfl rfl rfl (Nat.le_of_ble_eq_true rfl) rfl ?_
  refine aw_goto (tgt := 22) dL_about_11 (by decide) ?_
  refine aw_iconst (q := 23) (v := 0) dL_about_22 rfl (by decide) ?_
  exact aw_ireturn [1, 2, 3, 4, 5, 6, 7, 8, 9, 10, 11, 12, 13, 14, 15, 16, 17, 18, 19, 20, 21, 22, 23, 24, 25, 26, 27, 0] dL_about_23 rfl rfl rfl rfl (PN.mk g rfl rfl)
def gL_has (N K : Nat) (S : CS) (p0 : Int32) (p1 : Int32) (nv : Int64) : Option (Int32 × CS × Int64) := wb (gX_has N K S p0 p1) (fun z => (if z.1 = 0 then some ((0 : Int32), z.2, (0 : Int64)) else some ((0 : Int32), z.2, (1 : Int64)))) (some ((1 : Int32), S, nv)) none
set_option maxHeartbeats 4000000 in
set_option maxRecDepth 100000 in
theorem ogL_has {N K : Nat} {r : Nat → Nat} {o : Nat} {S : CS} {nv : Int64} {sv : Value} {p0 : Int32} {p1 : Int32} {x : Int32 × CS × Int64} (hE : gL_has N K S p0 p1 nv = some x) : OkM yL_has (.codeWith yL_has cL_has 5 (some .int) [(0, 18, 21, 19)]) (10) 1 6 [.ref (r 0), .int p0, .int p1, .ref o] (WX r S ++ [OC o nv sv]) ((PN (U := Int32 × CS × Int64) (fun z _ => some (.int z.1)) (fun z g => WX r z.2.1 ++ [OC o z.2.2 sv])) x) := by
  refine ok_ofH (by decide) (Nat.le_of_ble_eq_true rfl) hE ?_
  refine aw_locals (lv' := [(0, .ref (r 0)), (1, .int p0), (2, .int p1), (3, .ref o)]) [0, 1, 2, 3] rfl ?_
  refine aw_aload_n (q := 1) dL_has_0 rfl 3 rfl ?_
  refine aw_aload_n (q := 2) dL_has_1 rfl 0 rfl ?_
  refine aw_iload_n (q := 3) dL_has_2 rfl 1 rfl ?_
  refine aw_iload_n (q := 4) dL_has_3 rfl 2 rfl ?_
  refine aw_callC (q := 7) (hp1 := 21) (hp2 := 0) (kc1 := 0) (ks1 := 0) (wc := WX r S) (wr := [OC o nv sv]) (st1 := fun z g => [.int z.1, .ref o]) (ws1 := fun z g => [OC o nv sv] ++ WX r z.2) (As := [.ref (r 0), .int p0, .int p1]) [0, 1, 2, 3, 4, 5, 6, 7, 8, 9, 10, 11, 12, 13, 14, 15, 16, 17, 18, 19, 20, 21, 22, 23, 24, 25, 26] [27] (fun _ => runV (q0 := 0) dL_has_4 mi_X5_has im_X5_has se_X5_has ml_L_73 (by omega) rfl (Nat.le_of_ble_eq_true rfl) rfl rfl rfl rfl) (fun x9 h9 => ogX_has h9) rfl rfl rfl rfl rfl (by decide) (by omega) (by omega) (fun _ _ => rfl) (fun _ _ => rfl) (Or.inr ⟨⟨[], _, [], "java/lang/IndexOutOfBoundsException", rfl, (fun z h => by cases h), by decide, by decide, cl_L_19, ca_IndexOutOfBoundsException, rfl⟩, fun q9 => ?_⟩) (Or.inl rfl) (fun z g => ?_)
  · refine aw_astore (q := 23) (lv' := [(4, .ref q9), (0, .ref (r 0)), (1, .int p0), (2, .int p1), (3, .ref o)]) dL_has_21 rfl (by decide) rfl ?_
    refine aw_iconst (q := 24) (v := 1) dL_has_23 rfl (by decide) ?_
    exact aw_ireturn [1, 2, 3, 4, 5, 6, 7, 8, 9, 10, 11, 12, 13, 14, 15, 16, 17, 18, 19, 20, 21, 22, 23, 24, 25, 26, 27, 0] dL_has_24 rfl rfl rfl rfl (PN.mk (fun _ => 0) rfl rfl)
  refine aw_if_eq (tgt := 14) (q := 10) dL_has_7 (by decide) rfl (fun h0 => ?_) (fun h0 => ?_)
  · refine aw_lconst (q := 15) (v := 0) dL_has_14 rfl (by decide) ?_
    refine aw_putN (q := 18) (ws' := [OC o 0 sv] ++ WX r z.2) dL_has_15 rfl fn_L_13 0 rfl rfl rfl (Nat.le_of_ble_eq_true rfl) rfl ?_
    refine aw_goto (tgt := 25) dL_has_18 (by decide) ?_
    refine aw_iconst (q := 26) (v := 0) dL_has_25 rfl (by decide) ?_
    exact aw_ireturn [1, 2, 3, 4, 5, 6, 7, 8, 9, 10, 11, 12, 13, 14, 15, 16, 17, 18, 19, 20, 21, 22, 23, 24, 25, 26, 27, 0] dL_has_26 rfl rfl rfl rfl (PN.mk g rfl rfl)
  · refine aw_lconst (q := 11) (v := 1) dL_has_10 rfl (by decide) ?_
    refine aw_goto (tgt := 15) dL_has_11 (by decide) ?_
    refine aw_putN (q := 18) (ws' := [OC o 1 sv] ++ WX r z.2) dL_has_15 rfl fn_L_13 0 rfl rfl rfl (Nat.le_of_ble_eq_true rfl) rfl ?_
    refine aw_goto (tgt := 25) dL_has_18 (by decide) ?_
    refine aw_iconst (q := 26) (v := 0) dL_has_25 rfl (by decide) ?_
    exact aw_ireturn [1, 2, 3, 4, 5, 6, 7, 8, 9, 10, 11, 12, 13, 14, 15, 16, 17, 18, 19, 20, 21, 22, 23, 24, 25, 26, 27, 0] dL_has_26 rfl rfl rfl rfl (PN.mk g rfl rfl)
def gL_count (N K : Nat) (S : CS) (p0 : Int32) (p1 : Int32) (p2 : Int32) (nv : Int64) : Option (Int32 × CS × Int64) := wb (gX_count N K S p0 p1 p2) (fun z => some ((0 : Int32), z.2, z.1.toInt64)) (some ((1 : Int32), S, nv)) (some ((2 : Int32), S, nv))
set_option maxHeartbeats 4000000 in
set_option maxRecDepth 100000 in
theorem ogL_count {N K : Nat} {r : Nat → Nat} {o : Nat} {S : CS} {nv : Int64} {sv : Value} {p0 : Int32} {p1 : Int32} {p2 : Int32} {x : Int32 × CS × Int64} (hE : gL_count N K S p0 p1 p2 nv = some x) : OkM yL_count (.codeWith yL_count cL_count 6 (some .int) [(0, 13, 16, 19), (0, 13, 20, 21)]) (10) 2 12 [.ref (r 0), .int p0, .int p1, .int p2, .ref o] (WX r S ++ [OC o nv sv]) ((PN (U := Int32 × CS × Int64) (fun z _ => some (.int z.1)) (fun z g => WX r z.2.1 ++ [OC o z.2.2 sv])) x) := by
  refine ok_ofH (by decide) (Nat.le_of_ble_eq_true rfl) hE ?_
  refine aw_locals (lv' := [(0, .ref (r 0)), (1, .int p0), (2, .int p1), (3, .int p2), (4, .ref o)]) [0, 1, 2, 3, 4] rfl ?_
  refine aw_aload (q := 2) dL_count_0 rfl 4 rfl ?_
  refine aw_aload_n (q := 3) dL_count_2 rfl 0 rfl ?_
  refine aw_iload_n (q := 4) dL_count_3 rfl 1 rfl ?_
  refine aw_iload_n (q := 5) dL_count_4 rfl 2 rfl ?_
  refine aw_iload_n (q := 6) dL_count_5 rfl 3 rfl ?_
  refine aw_callC (q := 9) (hp1 := 16) (hp2 := 20) (kc1 := 0) (ks1 := 0) (wc := WX r S) (wr := [OC o nv sv]) (st1 := fun z g => [.int z.1, .ref o]) (ws1 := fun z g => [OC o nv sv] ++ WX r z.2) (As := [.ref (r 0), .int p0, .int p1, .int p2]) [0, 1, 2, 3, 4, 5, 6, 7, 8, 9, 10, 11, 12, 13, 14, 15, 16, 17, 18, 19, 20, 21, 22, 23, 24, 25, 26] [27] (fun _ => runV (q0 := 0) dL_count_6 mi_X5_count im_X5_count se_X5_count ml_L_77 (by omega) rfl (Nat.le_of_ble_eq_true rfl) rfl rfl rfl rfl) (fun x9 h9 => ogX_count h9) rfl rfl rfl rfl rfl (by decide) (by omega) (by omega) (fun _ _ => rfl) (fun _ _ => rfl) (Or.inr ⟨⟨[], _, [_], "java/lang/IndexOutOfBoundsException", rfl, (fun z h => by cases h), by decide, by decide, cl_L_19, ca_IndexOutOfBoundsException, rfl⟩, fun q9 => ?_⟩) (Or.inr ⟨⟨[_], _, [], "java/lang/IllegalArgumentException", rfl, (fun z h => by rcases List.mem_cons.mp h with rfl | h <;> first | exact ⟨by decide, rfl, cl_L_19⟩ | cases h), by decide, by decide, cl_L_21, ca_IllegalArgumentException, rfl⟩, fun q9 => ?_⟩) (fun z g => ?_)
  · refine aw_astore (q := 18) (lv' := [(5, .ref q9), (0, .ref (r 0)), (1, .int p0), (2, .int p1), (3, .int p2), (4, .ref o)]) dL_count_16 rfl (by decide) rfl ?_
    refine aw_iconst (q := 19) (v := 1) dL_count_18 rfl (by decide) ?_
    exact aw_ireturn [1, 2, 3, 4, 5, 6, 7, 8, 9, 10, 11, 12, 13, 14, 15, 16, 17, 18, 19, 20, 21, 22, 23, 24, 25, 26, 27, 0] dL_count_19 rfl rfl rfl rfl (PN.mk (fun _ => 0) rfl rfl)
  · refine aw_astore (q := 22) (lv' := [(5, .ref q9), (0, .ref (r 0)), (1, .int p0), (2, .int p1), (3, .int p2), (4, .ref o)]) dL_count_20 rfl (by decide) rfl ?_
    refine aw_iconst (q := 23) (v := 2) dL_count_22 rfl (by decide) ?_
    exact aw_ireturn [1, 2, 3, 4, 5, 6, 7, 8, 9, 10, 11, 12, 13, 14, 15, 16, 17, 18, 19, 20, 21, 22, 23, 24, 25, 26, 27, 0] dL_count_23 rfl rfl rfl rfl (PN.mk (fun _ => 0) rfl rfl)
  refine aw_i2l (q := 10) dL_count_9 rfl ?_
  refine aw_putN (q := 13) (ws' := [OC o z.1.toInt64 sv] ++ WX r z.2) dL_count_10 rfl fn_L_13 0 rfl rfl rfl (Nat.le_of_ble_eq_true rfl) rfl ?_
  refine aw_goto (tgt := 24) dL_count_13 (by decide) ?_
  refine aw_iconst (q := 25) (v := 0) dL_count_24 rfl (by decide) ?_
  exact aw_ireturn [1, 2, 3, 4, 5, 6, 7, 8, 9, 10, 11, 12, 13, 14, 15, 16, 17, 18, 19, 20, 21, 22, 23, 24, 25, 26, 27, 0] dL_count_25 rfl rfl rfl rfl (PN.mk g rfl rfl)
def gL_isSame (N K : Nat) (S : CS) (p0 : Int32) (p1 : Int32) (nv : Int64) : Option (Int32 × CS × Int64) := wb (gX_isSame N K S p0 p1) (fun z => (if z.1 = 0 then some ((0 : Int32), z.2, (0 : Int64)) else some ((0 : Int32), z.2, (1 : Int64)))) (some ((1 : Int32), S, nv)) none
set_option maxHeartbeats 4000000 in
set_option maxRecDepth 100000 in
theorem ogL_isSame {N K : Nat} {r : Nat → Nat} {o : Nat} {S : CS} {nv : Int64} {sv : Value} {p0 : Int32} {p1 : Int32} {x : Int32 × CS × Int64} (hE : gL_isSame N K S p0 p1 nv = some x) : OkM yL_isSame (.codeWith yL_isSame cL_isSame 5 (some .int) [(0, 18, 21, 19)]) (10) 2 12 [.ref (r 0), .int p0, .int p1, .ref o] (WX r S ++ [OC o nv sv]) ((PN (U := Int32 × CS × Int64) (fun z _ => some (.int z.1)) (fun z g => WX r z.2.1 ++ [OC o z.2.2 sv])) x) := by
  refine ok_ofH (by decide) (Nat.le_of_ble_eq_true rfl) hE ?_
  refine aw_locals (lv' := [(0, .ref (r 0)), (1, .int p0), (2, .int p1), (3, .ref o)]) [0, 1, 2, 3] rfl ?_
  refine aw_aload_n (q := 1) dL_isSame_0 rfl 3 rfl ?_
  refine aw_aload_n (q := 2) dL_isSame_1 rfl 0 rfl ?_
  refine aw_iload_n (q := 3) dL_isSame_2 rfl 1 rfl ?_
  refine aw_iload_n (q := 4) dL_isSame_3 rfl 2 rfl ?_
  refine aw_callC (q := 7) (hp1 := 21) (hp2 := 0) (kc1 := 0) (ks1 := 0) (wc := WX r S) (wr := [OC o nv sv]) (st1 := fun z g => [.int z.1, .ref o]) (ws1 := fun z g => [OC o nv sv] ++ WX r z.2) (As := [.ref (r 0), .int p0, .int p1]) [0, 1, 2, 3, 4, 5, 6, 7, 8, 9, 10, 11, 12, 13, 14, 15, 16, 17, 18, 19, 20, 21, 22, 23, 24, 25, 26] [27] (fun _ => runV (q0 := 0) dL_isSame_4 mi_X5_isSame im_X5_isSame se_X5_isSame ml_L_80 (by omega) rfl (Nat.le_of_ble_eq_true rfl) rfl rfl rfl rfl) (fun x9 h9 => ogX_isSame h9) rfl rfl rfl rfl rfl (by decide) (by omega) (by omega) (fun _ _ => rfl) (fun _ _ => rfl) (Or.inr ⟨⟨[], _, [], "java/lang/IndexOutOfBoundsException", rfl, (fun z h => by cases h), by decide, by decide, cl_L_19, ca_IndexOutOfBoundsException, rfl⟩, fun q9 => ?_⟩) (Or.inl rfl) (fun z g => ?_)
  · refine aw_astore (q := 23) (lv' := [(4, .ref q9), (0, .ref (r 0)), (1, .int p0), (2, .int p1), (3, .ref o)]) dL_isSame_21 rfl (by decide) rfl ?_
    refine aw_iconst (q := 24) (v := 1) dL_isSame_23 rfl (by decide) ?_
    exact aw_ireturn [1, 2, 3, 4, 5, 6, 7, 8, 9, 10, 11, 12, 13, 14, 15, 16, 17, 18, 19, 20, 21, 22, 23, 24, 25, 26, 27, 0] dL_isSame_24 rfl rfl rfl rfl (PN.mk (fun _ => 0) rfl rfl)
  refine aw_if_eq (tgt := 14) (q := 10) dL_isSame_7 (by decide) rfl (fun h0 => ?_) (fun h0 => ?_)
  · refine aw_lconst (q := 15) (v := 0) dL_isSame_14 rfl (by decide) ?_
    refine aw_putN (q := 18) (ws' := [OC o 0 sv] ++ WX r z.2) dL_isSame_15 rfl fn_L_13 0 rfl rfl rfl (Nat.le_of_ble_eq_true rfl) rfl ?_
    refine aw_goto (tgt := 25) dL_isSame_18 (by decide) ?_
    refine aw_iconst (q := 26) (v := 0) dL_isSame_25 rfl (by decide) ?_
    exact aw_ireturn [1, 2, 3, 4, 5, 6, 7, 8, 9, 10, 11, 12, 13, 14, 15, 16, 17, 18, 19, 20, 21, 22, 23, 24, 25, 26, 27, 0] dL_isSame_26 rfl rfl rfl rfl (PN.mk g rfl rfl)
  · refine aw_lconst (q := 11) (v := 1) dL_isSame_10 rfl (by decide) ?_
    refine aw_goto (tgt := 15) dL_isSame_11 (by decide) ?_
    refine aw_putN (q := 18) (ws' := [OC o 1 sv] ++ WX r z.2) dL_isSame_15 rfl fn_L_13 0 rfl rfl rfl (Nat.le_of_ble_eq_true rfl) rfl ?_
    refine aw_goto (tgt := 25) dL_isSame_18 (by decide) ?_
    refine aw_iconst (q := 26) (v := 0) dL_isSame_25 rfl (by decide) ?_
    exact aw_ireturn [1, 2, 3, 4, 5, 6, 7, 8, 9, 10, 11, 12, 13, 14, 15, 16, 17, 18, 19, 20, 21, 22, 23, 24, 25, 26, 27, 0] dL_isSame_26 rfl rfl rfl rfl (PN.mk g rfl rfl)
def gL_walk (N K : Nat) (S : CS) (p0 : Int32) (p1 : Int32) (p2 : Int32) (nv : Int64) : Option (Int32 × CS × Int64) := wb (gX_walk N K S p0 p1 p2) (fun z => some ((0 : Int32), z.2, z.1.toInt64)) none (some ((1 : Int32), S, nv))
set_option maxHeartbeats 4000000 in
set_option maxRecDepth 100000 in
theorem ogL_walk {N K : Nat} {r : Nat → Nat} {o : Nat} {S : CS} {nv : Int64} {sv : Value} {p0 : Int32} {p1 : Int32} {p2 : Int32} {x : Int32 × CS × Int64} (hE : gL_walk N K S p0 p1 p2 nv = some x) : OkM yL_walk (.codeWith yL_walk cL_walk 6 (some .int) [(0, 13, 16, 21)]) (11) 3 18 [.ref (r 0), .int p0, .int p1, .int p2, .ref o] (WX r S ++ [OC o nv sv]) ((PN (U := Int32 × CS × Int64) (fun z _ => some (.int z.1)) (fun z g => WX r z.2.1 ++ [OC o z.2.2 sv])) x) := by
  refine ok_ofH (by decide) (Nat.le_of_ble_eq_true rfl) hE ?_
  refine aw_locals (lv' := [(0, .ref (r 0)), (1, .int p0), (2, .int p1), (3, .int p2), (4, .ref o)]) [0, 1, 2, 3, 4] rfl ?_
  refine aw_aload (q := 2) dL_walk_0 rfl 4 rfl ?_
  refine aw_aload_n (q := 3) dL_walk_2 rfl 0 rfl ?_
  refine aw_iload_n (q := 4) dL_walk_3 rfl 1 rfl ?_
  refine aw_iload_n (q := 5) dL_walk_4 rfl 2 rfl ?_
  refine aw_iload_n (q := 6) dL_walk_5 rfl 3 rfl ?_
  refine aw_callC (q := 9) (hp1 := 0) (hp2 := 16) (kc1 := 0) (ks1 := 0) (wc := WX r S) (wr := [OC o nv sv]) (st1 := fun z g => [.int z.1, .ref o]) (ws1 := fun z g => [OC o nv sv] ++ WX r z.2) (As := [.ref (r 0), .int p0, .int p1, .int p2]) [0, 1, 2, 3, 4, 5, 6, 7, 8, 9, 10, 11, 12, 13, 14, 15, 16, 17, 18, 19, 20, 21, 22, 23, 24, 25, 26] [27] (fun _ => runV (q0 := 0) dL_walk_6 mi_X5_walk im_X5_walk se_X5_walk ml_L_83 (by omega) rfl (Nat.le_of_ble_eq_true rfl) rfl rfl rfl rfl) (fun x9 h9 => ogX_walk h9) rfl rfl rfl rfl rfl (by decide) (by omega) (by omega) (fun _ _ => rfl) (fun _ _ => rfl) (Or.inl rfl) (Or.inr ⟨⟨[], _, [], "java/lang/IllegalArgumentException", rfl, (fun z h => by cases h), by decide, by decide, cl_L_21, ca_IllegalArgumentException, rfl⟩, fun q9 => ?_⟩) (fun z g => ?_)
  · refine aw_astore (q := 18) (lv' := [(5, .ref q9), (0, .ref (r 0)), (1, .int p0), (2, .int p1), (3, .int p2), (4, .ref o)]) dL_walk_16 rfl (by decide) rfl ?_
    refine aw_iconst (q := 19) (v := 1) dL_walk_18 rfl (by decide) ?_
    exact aw_ireturn [1, 2, 3, 4, 5, 6, 7, 8, 9, 10, 11, 12, 13, 14, 15, 16, 17, 18, 19, 20, 21, 22, 23, 24, 25, 26, 27, 0] dL_walk_19 rfl rfl rfl rfl (PN.mk (fun _ => 0) rfl rfl)
  refine aw_i2l (q := 10) dL_walk_9 rfl ?_
  refine aw_putN (q := 13) (ws' := [OC o z.1.toInt64 sv] ++ WX r z.2) dL_walk_10 rfl fn_L_13 0 rfl rfl rfl (Nat.le_of_ble_eq_true rfl) rfl ?_
  refine aw_goto (tgt := 20) dL_walk_13 (by decide) ?_
  refine aw_iconst (q := 21) (v := 0) dL_walk_20 rfl (by decide) ?_
  exact aw_ireturn [1, 2, 3, 4, 5, 6, 7, 8, 9, 10, 11, 12, 13, 14, 15, 16, 17, 18, 19, 20, 21, 22, 23, 24, 25, 26, 27, 0] dL_walk_21 rfl rfl rfl rfl (PN.mk g rfl rfl)
def gL_product (N K : Nat) (S : CS) (p0 : Int32) (p1 : Int32) (p2 : Int32) (nv : Int64) : Option (Int32 × CS × Int64) := wb (gX_product N K S p0 p1 p2) (fun z => some ((0 : Int32), z.2, z.1.toInt64)) none (some ((1 : Int32), S, nv))
set_option maxHeartbeats 4000000 in
set_option maxRecDepth 100000 in
theorem ogL_product {N K : Nat} {r : Nat → Nat} {o : Nat} {S : CS} {nv : Int64} {sv : Value} {p0 : Int32} {p1 : Int32} {p2 : Int32} {x : Int32 × CS × Int64} (hE : gL_product N K S p0 p1 p2 nv = some x) : OkM yL_product (.codeWith yL_product cL_product 6 (some .int) [(0, 13, 16, 21)]) (11) 3 18 [.ref (r 0), .int p0, .int p1, .int p2, .ref o] (WX r S ++ [OC o nv sv]) ((PN (U := Int32 × CS × Int64) (fun z _ => some (.int z.1)) (fun z g => WX r z.2.1 ++ [OC o z.2.2 sv])) x) := by
  refine ok_ofH (by decide) (Nat.le_of_ble_eq_true rfl) hE ?_
  refine aw_locals (lv' := [(0, .ref (r 0)), (1, .int p0), (2, .int p1), (3, .int p2), (4, .ref o)]) [0, 1, 2, 3, 4] rfl ?_
  refine aw_aload (q := 2) dL_product_0 rfl 4 rfl ?_
  refine aw_aload_n (q := 3) dL_product_2 rfl 0 rfl ?_
  refine aw_iload_n (q := 4) dL_product_3 rfl 1 rfl ?_
  refine aw_iload_n (q := 5) dL_product_4 rfl 2 rfl ?_
  refine aw_iload_n (q := 6) dL_product_5 rfl 3 rfl ?_
  refine aw_callC (q := 9) (hp1 := 0) (hp2 := 16) (kc1 := 0) (ks1 := 0) (wc := WX r S) (wr := [OC o nv sv]) (st1 := fun z g => [.int z.1, .ref o]) (ws1 := fun z g => [OC o nv sv] ++ WX r z.2) (As := [.ref (r 0), .int p0, .int p1, .int p2]) [0, 1, 2, 3, 4, 5, 6, 7, 8, 9, 10, 11, 12, 13, 14, 15, 16, 17, 18, 19, 20, 21, 22, 23, 24, 25, 26] [27] (fun _ => runV (q0 := 0) dL_product_6 mi_X5_product im_X5_product se_X5_product ml_L_86 (by omega) rfl (Nat.le_of_ble_eq_true rfl) rfl rfl rfl rfl) (fun x9 h9 => ogX_product h9) rfl rfl rfl rfl rfl (by decide) (by omega) (by omega) (fun _ _ => rfl) (fun _ _ => rfl) (Or.inl rfl) (Or.inr ⟨⟨[], _, [], "java/lang/IllegalArgumentException", rfl, (fun z h => by cases h), by decide, by decide, cl_L_21, ca_IllegalArgumentException, rfl⟩, fun q9 => ?_⟩) (fun z g => ?_)
  · refine aw_astore (q := 18) (lv' := [(5, .ref q9), (0, .ref (r 0)), (1, .int p0), (2, .int p1), (3, .int p2), (4, .ref o)]) dL_product_16 rfl (by decide) rfl ?_
    refine aw_iconst (q := 19) (v := 1) dL_product_18 rfl (by decide) ?_
    exact aw_ireturn [1, 2, 3, 4, 5, 6, 7, 8, 9, 10, 11, 12, 13, 14, 15, 16, 17, 18, 19, 20, 21, 22, 23, 24, 25, 26, 27, 0] dL_product_19 rfl rfl rfl rfl (PN.mk (fun _ => 0) rfl rfl)
  refine aw_i2l (q := 10) dL_product_9 rfl ?_
  refine aw_putN (q := 13) (ws' := [OC o z.1.toInt64 sv] ++ WX r z.2) dL_product_10 rfl fn_L_13 0 rfl rfl rfl (Nat.le_of_ble_eq_true rfl) rfl ?_
  refine aw_goto (tgt := 20) dL_product_13 (by decide) ?_
  refine aw_iconst (q := 21) (v := 0) dL_product_20 rfl (by decide) ?_
  exact aw_ireturn [1, 2, 3, 4, 5, 6, 7, 8, 9, 10, 11, 12, 13, 14, 15, 16, 17, 18, 19, 20, 21, 22, 23, 24, 25, 26, 27, 0] dL_product_21 rfl rfl rfl rfl (PN.mk g rfl rfl)
def gL_rule (N K : Nat) (S : CS) (p0 : Int32) (p1 : Int32) (nv : Int64) : Option (Int32 × CS × Int64) := wb (gX_rule N K S p0 p1) (fun z => some ((0 : Int32), z.2, z.1.toInt64)) (some ((1 : Int32), S, nv)) (some ((2 : Int32), S, nv))
set_option maxHeartbeats 4000000 in
set_option maxRecDepth 100000 in
theorem ogL_rule {N K : Nat} {r : Nat → Nat} {o : Nat} {S : CS} {nv : Int64} {sv : Value} {p0 : Int32} {p1 : Int32} {x : Int32 × CS × Int64} (hE : gL_rule N K S p0 p1 nv = some x) : OkM yL_rule (.codeWith yL_rule cL_rule 5 (some .int) [(0, 11, 14, 19), (0, 11, 18, 21)]) (2 * K + 10) 2 12 [.ref (r 0), .int p0, .int p1, .ref o] (WX r S ++ [OC o nv sv]) ((PN (U := Int32 × CS × Int64) (fun z _ => some (.int z.1)) (fun z g => WX r z.2.1 ++ [OC o z.2.2 sv])) x) := by
  refine ok_ofH (by decide) (Nat.le_of_ble_eq_true rfl) hE ?_
  refine aw_locals (lv' := [(0, .ref (r 0)), (1, .int p0), (2, .int p1), (3, .ref o)]) [0, 1, 2, 3] rfl ?_
  refine aw_aload_n (q := 1) dL_rule_0 rfl 3 rfl ?_
  refine aw_aload_n (q := 2) dL_rule_1 rfl 0 rfl ?_
  refine aw_iload_n (q := 3) dL_rule_2 rfl 1 rfl ?_
  refine aw_iload_n (q := 4) dL_rule_3 rfl 2 rfl ?_
  refine aw_callC (q := 7) (hp1 := 14) (hp2 := 18) (kc1 := 0) (ks1 := 0) (wc := WX r S) (wr := [OC o nv sv]) (st1 := fun z g => [.int z.1, .ref o]) (ws1 := fun z g => [OC o nv sv] ++ WX r z.2) (As := [.ref (r 0), .int p0, .int p1]) [0, 1, 2, 3, 4, 5, 6, 7, 8, 9, 10, 11, 12, 13, 14, 15, 16, 17, 18, 19, 20, 21, 22, 23, 24, 25, 26] [27] (fun _ => runV (q0 := 0) dL_rule_4 mi_X5_rule im_X5_rule se_X5_rule ml_L_89 (by omega) rfl (Nat.le_of_ble_eq_true rfl) rfl rfl rfl rfl) (fun x9 h9 => ogX_rule h9) rfl rfl rfl rfl rfl (by decide) (by omega) (by omega) (fun _ _ => rfl) (fun _ _ => rfl) (Or.inr ⟨⟨[], _, [_], "java/lang/IndexOutOfBoundsException", rfl, (fun z h => by cases h), by decide, by decide, cl_L_19, ca_IndexOutOfBoundsException, rfl⟩, fun q9 => ?_⟩) (Or.inr ⟨⟨[_], _, [], "java/lang/IllegalArgumentException", rfl, (fun z h => by rcases List.mem_cons.mp h with rfl | h <;> first | exact ⟨by decide, rfl, cl_L_19⟩ | cases h), by decide, by decide, cl_L_21, ca_IllegalArgumentException, rfl⟩, fun q9 => ?_⟩) (fun z g => ?_)
  · refine aw_astore (q := 16) (lv' := [(4, .ref q9), (0, .ref (r 0)), (1, .int p0), (2, .int p1), (3, .ref o)]) dL_rule_14 rfl (by decide) rfl ?_
    refine aw_iconst (q := 17) (v := 1) dL_rule_16 rfl (by decide) ?_
    exact aw_ireturn [1, 2, 3, 4, 5, 6, 7, 8, 9, 10, 11, 12, 13, 14, 15, 16, 17, 18, 19, 20, 21, 22, 23, 24, 25, 26, 27, 0] dL_rule_17 rfl rfl rfl rfl (PN.mk (fun _ => 0) rfl rfl)
  · refine aw_astore (q := 20) (lv' := [(4, .ref q9), (0, .ref (r 0)), (1, .int p0), (2, .int p1), (3, .ref o)]) dL_rule_18 rfl (by decide) rfl ?_
    refine aw_iconst (q := 21) (v := 2) dL_rule_20 rfl (by decide) ?_
    exact aw_ireturn [1, 2, 3, 4, 5, 6, 7, 8, 9, 10, 11, 12, 13, 14, 15, 16, 17, 18, 19, 20, 21, 22, 23, 24, 25, 26, 27, 0] dL_rule_21 rfl rfl rfl rfl (PN.mk (fun _ => 0) rfl rfl)
  refine aw_i2l (q := 8) dL_rule_7 rfl ?_
  refine aw_putN (q := 11) (ws' := [OC o z.1.toInt64 sv] ++ WX r z.2) dL_rule_8 rfl fn_L_13 0 rfl rfl rfl (Nat.le_of_ble_eq_true rfl) rfl ?_
  refine aw_goto (tgt := 22) dL_rule_11 (by decide) ?_
  refine aw_iconst (q := 23) (v := 0) dL_rule_22 rfl (by decide) ?_
  exact aw_ireturn [1, 2, 3, 4, 5, 6, 7, 8, 9, 10, 11, 12, 13, 14, 15, 16, 17, 18, 19, 20, 21, 22, 23, 24, 25, 26, 27, 0] dL_rule_23 rfl rfl rfl rfl (PN.mk g rfl rfl)
def gL_forgetRule (N K : Nat) (S : CS) (p0 : Int32) (p1 : Int32) (nv : Int64) : Option (Int32 × CS × Int64) := wb (gX_forgetRule N K S p0 p1) (fun z => some ((0 : Int32), z.2, z.1.toInt64)) (some ((1 : Int32), S, nv)) (some ((2 : Int32), S, nv))
set_option maxHeartbeats 4000000 in
set_option maxRecDepth 100000 in
theorem ogL_forgetRule {N K : Nat} {r : Nat → Nat} {o : Nat} {S : CS} {nv : Int64} {sv : Value} {p0 : Int32} {p1 : Int32} {x : Int32 × CS × Int64} (hE : gL_forgetRule N K S p0 p1 nv = some x) : OkM yL_forgetRule (.codeWith yL_forgetRule cL_forgetRule 5 (some .int) [(0, 11, 14, 19), (0, 11, 18, 21)]) (10) 2 12 [.ref (r 0), .int p0, .int p1, .ref o] (WX r S ++ [OC o nv sv]) ((PN (U := Int32 × CS × Int64) (fun z _ => some (.int z.1)) (fun z g => WX r z.2.1 ++ [OC o z.2.2 sv])) x) := by
  refine ok_ofH (by decide) (Nat.le_of_ble_eq_true rfl) hE ?_
  refine aw_locals (lv' := [(0, .ref (r 0)), (1, .int p0), (2, .int p1), (3, .ref o)]) [0, 1, 2, 3] rfl ?_
  refine aw_aload_n (q := 1) dL_forgetRule_0 rfl 3 rfl ?_
  refine aw_aload_n (q := 2) dL_forgetRule_1 rfl 0 rfl ?_
  refine aw_iload_n (q := 3) dL_forgetRule_2 rfl 1 rfl ?_
  refine aw_iload_n (q := 4) dL_forgetRule_3 rfl 2 rfl ?_
  refine aw_callC (q := 7) (hp1 := 14) (hp2 := 18) (kc1 := 0) (ks1 := 0) (wc := WX r S) (wr := [OC o nv sv]) (st1 := fun z g => [.int z.1, .ref o]) (ws1 := fun z g => [OC o nv sv] ++ WX r z.2) (As := [.ref (r 0), .int p0, .int p1]) [0, 1, 2, 3, 4, 5, 6, 7, 8, 9, 10, 11, 12, 13, 14, 15, 16, 17, 18, 19, 20, 21, 22, 23, 24, 25, 26] [27] (fun _ => runV (q0 := 0) dL_forgetRule_4 mi_X5_forgetRule im_X5_forgetRule se_X5_forgetRule ml_L_92 (by omega) rfl (Nat.le_of_ble_eq_true rfl) rfl rfl rfl rfl) (fun x9 h9 => ogX_forgetRule h9) rfl rfl rfl rfl rfl (by decide) (by omega) (by omega) (fun _ _ => rfl) (fun _ _ => rfl) (Or.inr ⟨⟨[], _, [_], "java/lang/IndexOutOfBoundsException", rfl, (fun z h => by cases h), by decide, by decide, cl_L_19, ca_IndexOutOfBoundsException, rfl⟩, fun q9 => ?_⟩) (Or.inr ⟨⟨[_], _, [], "java/lang/IllegalArgumentException", rfl, (fun z h => by rcases List.mem_cons.mp h with rfl | h <;> first | exact ⟨by decide, rfl, cl_L_19⟩ | cases h), by decide, by decide, cl_L_21, ca_IllegalArgumentException, rfl⟩, fun q9 => ?_⟩) (fun z g => ?_)
  · refine aw_astore (q := 16) (lv' := [(4, .ref q9), (0, .ref (r 0)), (1, .int p0), (2, .int p1), (3, .ref o)]) dL_forgetRule_14 rfl (by decide) rfl ?_
    refine aw_iconst (q := 17) (v := 1) dL_forgetRule_16 rfl (by decide) ?_
    exact aw_ireturn [1, 2, 3, 4, 5, 6, 7, 8, 9, 10, 11, 12, 13, 14, 15, 16, 17, 18, 19, 20, 21, 22, 23, 24, 25, 26, 27, 0] dL_forgetRule_17 rfl rfl rfl rfl (PN.mk (fun _ => 0) rfl rfl)
  · refine aw_astore (q := 20) (lv' := [(4, .ref q9), (0, .ref (r 0)), (1, .int p0), (2, .int p1), (3, .ref o)]) dL_forgetRule_18 rfl (by decide) rfl ?_
    refine aw_iconst (q := 21) (v := 2) dL_forgetRule_20 rfl (by decide) ?_
    exact aw_ireturn [1, 2, 3, 4, 5, 6, 7, 8, 9, 10, 11, 12, 13, 14, 15, 16, 17, 18, 19, 20, 21, 22, 23, 24, 25, 26, 27, 0] dL_forgetRule_21 rfl rfl rfl rfl (PN.mk (fun _ => 0) rfl rfl)
  refine aw_i2l (q := 8) dL_forgetRule_7 rfl ?_
  refine aw_putN (q := 11) (ws' := [OC o z.1.toInt64 sv] ++ WX r z.2) dL_forgetRule_8 rfl fn_L_13 0 rfl rfl rfl (Nat.le_of_ble_eq_true rfl) rfl ?_
  refine aw_goto (tgt := 22) dL_forgetRule_11 (by decide) ?_
  refine aw_iconst (q := 23) (v := 0) dL_forgetRule_22 rfl (by decide) ?_
  exact aw_ireturn [1, 2, 3, 4, 5, 6, 7, 8, 9, 10, 11, 12, 13, 14, 15, 16, 17, 18, 19, 20, 21, 22, 23, 24, 25, 26, 27, 0] dL_forgetRule_23 rfl rfl rfl rfl (PN.mk g rfl rfl)
def gL_ledger (N K : Nat) (S : CS) (p0 : Int32) (p1 : Int32) (nv : Int64) : Option (Int32 × CS × Int64) := wb (gX_ledger N K S p0 p1) (fun z => some ((0 : Int32), z.2, z.1.toInt64)) (some ((1 : Int32), S, nv)) (some ((2 : Int32), S, nv))
set_option maxHeartbeats 4000000 in
set_option maxRecDepth 100000 in
theorem ogL_ledger {N K : Nat} {r : Nat → Nat} {o : Nat} {S : CS} {nv : Int64} {sv : Value} {p0 : Int32} {p1 : Int32} {x : Int32 × CS × Int64} (hE : gL_ledger N K S p0 p1 nv = some x) : OkM yL_ledger (.codeWith yL_ledger cL_ledger 5 (some .int) [(0, 11, 14, 19), (0, 11, 18, 21)]) (10) 2 12 [.ref (r 0), .int p0, .int p1, .ref o] (WX r S ++ [OC o nv sv]) ((PN (U := Int32 × CS × Int64) (fun z _ => some (.int z.1)) (fun z g => WX r z.2.1 ++ [OC o z.2.2 sv])) x) := by
  refine ok_ofH (by decide) (Nat.le_of_ble_eq_true rfl) hE ?_
  refine aw_locals (lv' := [(0, .ref (r 0)), (1, .int p0), (2, .int p1), (3, .ref o)]) [0, 1, 2, 3] rfl ?_
  refine aw_aload_n (q := 1) dL_ledger_0 rfl 3 rfl ?_
  refine aw_aload_n (q := 2) dL_ledger_1 rfl 0 rfl ?_
  refine aw_iload_n (q := 3) dL_ledger_2 rfl 1 rfl ?_
  refine aw_iload_n (q := 4) dL_ledger_3 rfl 2 rfl ?_
  refine aw_callC (q := 7) (hp1 := 14) (hp2 := 18) (kc1 := 0) (ks1 := 0) (wc := WX r S) (wr := [OC o nv sv]) (st1 := fun z g => [.int z.1, .ref o]) (ws1 := fun z g => [OC o nv sv] ++ WX r z.2) (As := [.ref (r 0), .int p0, .int p1]) [0, 1, 2, 3, 4, 5, 6, 7, 8, 9, 10, 11, 12, 13, 14, 15, 16, 17, 18, 19, 20, 21, 22, 23, 24, 25, 26] [27] (fun _ => runV (q0 := 0) dL_ledger_4 mi_X5_ledger im_X5_ledger se_X5_ledger ml_L_95 (by omega) rfl (Nat.le_of_ble_eq_true rfl) rfl rfl rfl rfl) (fun x9 h9 => ogX_ledger h9) rfl rfl rfl rfl rfl (by decide) (by omega) (by omega) (fun _ _ => rfl) (fun _ _ => rfl) (Or.inr ⟨⟨[], _, [_], "java/lang/IndexOutOfBoundsException", rfl, (fun z h => by cases h), by decide, by decide, cl_L_19, ca_IndexOutOfBoundsException, rfl⟩, fun q9 => ?_⟩) (Or.inr ⟨⟨[_], _, [], "java/lang/IllegalArgumentException", rfl, (fun z h => by rcases List.mem_cons.mp h with rfl | h <;> first | exact ⟨by decide, rfl, cl_L_19⟩ | cases h), by decide, by decide, cl_L_21, ca_IllegalArgumentException, rfl⟩, fun q9 => ?_⟩) (fun z g => ?_)
  · refine aw_astore (q := 16) (lv' := [(4, .ref q9), (0, .ref (r 0)), (1, .int p0), (2, .int p1), (3, .ref o)]) dL_ledger_14 rfl (by decide) rfl ?_
    refine aw_iconst (q := 17) (v := 1) dL_ledger_16 rfl (by decide) ?_
    exact aw_ireturn [1, 2, 3, 4, 5, 6, 7, 8, 9, 10, 11, 12, 13, 14, 15, 16, 17, 18, 19, 20, 21, 22, 23, 24, 25, 26, 27, 0] dL_ledger_17 rfl rfl rfl rfl (PN.mk (fun _ => 0) rfl rfl)
  · refine aw_astore (q := 20) (lv' := [(4, .ref q9), (0, .ref (r 0)), (1, .int p0), (2, .int p1), (3, .ref o)]) dL_ledger_18 rfl (by decide) rfl ?_
    refine aw_iconst (q := 21) (v := 2) dL_ledger_20 rfl (by decide) ?_
    exact aw_ireturn [1, 2, 3, 4, 5, 6, 7, 8, 9, 10, 11, 12, 13, 14, 15, 16, 17, 18, 19, 20, 21, 22, 23, 24, 25, 26, 27, 0] dL_ledger_21 rfl rfl rfl rfl (PN.mk (fun _ => 0) rfl rfl)
  refine aw_i2l (q := 8) dL_ledger_7 rfl ?_
  refine aw_putN (q := 11) (ws' := [OC o z.1.toInt64 sv] ++ WX r z.2) dL_ledger_8 rfl fn_L_13 0 rfl rfl rfl (Nat.le_of_ble_eq_true rfl) rfl ?_
  refine aw_goto (tgt := 22) dL_ledger_11 (by decide) ?_
  refine aw_iconst (q := 23) (v := 0) dL_ledger_22 rfl (by decide) ?_
  exact aw_ireturn [1, 2, 3, 4, 5, 6, 7, 8, 9, 10, 11, 12, 13, 14, 15, 16, 17, 18, 19, 20, 21, 22, 23, 24, 25, 26, 27, 0] dL_ledger_23 rfl rfl rfl rfl (PN.mk g rfl rfl)
def gL_ruleWorth (N K : Nat) (S : CS) (p0 : Int32) (p1 : Int32) (p2 : Int32) (nv : Int64) : Option (Int32 × CS × Int64) := wb (gX_ruleWorth N K S p0 p1 p2) (fun z => some ((0 : Int32), z.2, z.1.toInt64)) (some ((1 : Int32), S, nv)) (some ((2 : Int32), S, nv))
set_option maxHeartbeats 4000000 in
set_option maxRecDepth 100000 in
theorem ogL_ruleWorth {N K : Nat} {r : Nat → Nat} {o : Nat} {S : CS} {nv : Int64} {sv : Value} {p0 : Int32} {p1 : Int32} {p2 : Int32} {x : Int32 × CS × Int64} (hE : gL_ruleWorth N K S p0 p1 p2 nv = some x) : OkM yL_ruleWorth (.codeWith yL_ruleWorth cL_ruleWorth 6 (some .int) [(0, 13, 16, 19), (0, 13, 20, 21)]) (10) 3 18 [.ref (r 0), .int p0, .int p1, .int p2, .ref o] (WX r S ++ [OC o nv sv]) ((PN (U := Int32 × CS × Int64) (fun z _ => some (.int z.1)) (fun z g => WX r z.2.1 ++ [OC o z.2.2 sv])) x) := by
  refine ok_ofH (by decide) (Nat.le_of_ble_eq_true rfl) hE ?_
  refine aw_locals (lv' := [(0, .ref (r 0)), (1, .int p0), (2, .int p1), (3, .int p2), (4, .ref o)]) [0, 1, 2, 3, 4] rfl ?_
  refine aw_aload (q := 2) dL_ruleWorth_0 rfl 4 rfl ?_
  refine aw_aload_n (q := 3) dL_ruleWorth_2 rfl 0 rfl ?_
  refine aw_iload_n (q := 4) dL_ruleWorth_3 rfl 1 rfl ?_
  refine aw_iload_n (q := 5) dL_ruleWorth_4 rfl 2 rfl ?_
  refine aw_iload_n (q := 6) dL_ruleWorth_5 rfl 3 rfl ?_
  refine aw_callC (q := 9) (hp1 := 16) (hp2 := 20) (kc1 := 0) (ks1 := 0) (wc := WX r S) (wr := [OC o nv sv]) (st1 := fun z g => [.int z.1, .ref o]) (ws1 := fun z g => [OC o nv sv] ++ WX r z.2) (As := [.ref (r 0), .int p0, .int p1, .int p2]) [0, 1, 2, 3, 4, 5, 6, 7, 8, 9, 10, 11, 12, 13, 14, 15, 16, 17, 18, 19, 20, 21, 22, 23, 24, 25, 26] [27] (fun _ => runV (q0 := 0) dL_ruleWorth_6 mi_X5_ruleWorth im_X5_ruleWorth se_X5_ruleWorth ml_L_98 (by omega) rfl (Nat.le_of_ble_eq_true rfl) rfl rfl rfl rfl) (fun x9 h9 => ogX_ruleWorth h9) rfl rfl rfl rfl rfl (by decide) (by omega) (by omega) (fun _ _ => rfl) (fun _ _ => rfl) (Or.inr ⟨⟨[], _, [_], "java/lang/IndexOutOfBoundsException", rfl, (fun z h => by cases h), by decide, by decide, cl_L_19, ca_IndexOutOfBoundsException, rfl⟩, fun q9 => ?_⟩) (Or.inr ⟨⟨[_], _, [], "java/lang/IllegalArgumentException", rfl, (fun z h => by rcases List.mem_cons.mp h with rfl | h <;> first | exact ⟨by decide, rfl, cl_L_19⟩ | cases h), by decide, by decide, cl_L_21, ca_IllegalArgumentException, rfl⟩, fun q9 => ?_⟩) (fun z g => ?_)
  · refine aw_astore (q := 18) (lv' := [(5, .ref q9), (0, .ref (r 0)), (1, .int p0), (2, .int p1), (3, .int p2), (4, .ref o)]) dL_ruleWorth_16 rfl (by decide) rfl ?_
    refine aw_iconst (q := 19) (v := 1) dL_ruleWorth_18 rfl (by decide) ?_
    exact aw_ireturn [1, 2, 3, 4, 5, 6, 7, 8, 9, 10, 11, 12, 13, 14, 15, 16, 17, 18, 19, 20, 21, 22, 23, 24, 25, 26, 27, 0] dL_ruleWorth_19 rfl rfl rfl rfl (PN.mk (fun _ => 0) rfl rfl)
  · refine aw_astore (q := 22) (lv' := [(5, .ref q9), (0, .ref (r 0)), (1, .int p0), (2, .int p1), (3, .int p2), (4, .ref o)]) dL_ruleWorth_20 rfl (by decide) rfl ?_
    refine aw_iconst (q := 23) (v := 2) dL_ruleWorth_22 rfl (by decide) ?_
    exact aw_ireturn [1, 2, 3, 4, 5, 6, 7, 8, 9, 10, 11, 12, 13, 14, 15, 16, 17, 18, 19, 20, 21, 22, 23, 24, 25, 26, 27, 0] dL_ruleWorth_23 rfl rfl rfl rfl (PN.mk (fun _ => 0) rfl rfl)
  refine aw_i2l (q := 10) dL_ruleWorth_9 rfl ?_
  refine aw_putN (q := 13) (ws' := [OC o z.1.toInt64 sv] ++ WX r z.2) dL_ruleWorth_10 rfl fn_L_13 0 rfl rfl rfl (Nat.le_of_ble_eq_true rfl) rfl ?_
  refine aw_goto (tgt := 24) dL_ruleWorth_13 (by decide) ?_
  refine aw_iconst (q := 25) (v := 0) dL_ruleWorth_24 rfl (by decide) ?_
  exact aw_ireturn [1, 2, 3, 4, 5, 6, 7, 8, 9, 10, 11, 12, 13, 14, 15, 16, 17, 18, 19, 20, 21, 22, 23, 24, 25, 26, 27, 0] dL_ruleWorth_25 rfl rfl rfl rfl (PN.mk g rfl rfl)
def gL_addPart (N K : Nat) (S : CS) (p0 : Int32) (p1 : Int32) (p2 : Int32) (nv : Int64) : Option (Int32 × CS × Int64) := wb (gX_addPart N K S p0 p1 p2) (fun z => some ((0 : Int32), z.2, z.1.toInt64)) (some ((1 : Int32), S, nv)) (some ((2 : Int32), S, nv))
set_option maxHeartbeats 4000000 in
set_option maxRecDepth 100000 in
theorem ogL_addPart {N K : Nat} {r : Nat → Nat} {o : Nat} {S : CS} {nv : Int64} {sv : Value} {p0 : Int32} {p1 : Int32} {p2 : Int32} {x : Int32 × CS × Int64} (hE : gL_addPart N K S p0 p1 p2 nv = some x) : OkM yL_addPart (.codeWith yL_addPart cL_addPart 6 (some .int) [(0, 13, 16, 19), (0, 13, 20, 21)]) (10) 3 18 [.ref (r 0), .int p0, .int p1, .int p2, .ref o] (WX r S ++ [OC o nv sv]) ((PN (U := Int32 × CS × Int64) (fun z _ => some (.int z.1)) (fun z g => WX r z.2.1 ++ [OC o z.2.2 sv])) x) := by
  refine ok_ofH (by decide) (Nat.le_of_ble_eq_true rfl) hE ?_
  refine aw_locals (lv' := [(0, .ref (r 0)), (1, .int p0), (2, .int p1), (3, .int p2), (4, .ref o)]) [0, 1, 2, 3, 4] rfl ?_
  refine aw_aload (q := 2) dL_addPart_0 rfl 4 rfl ?_
  refine aw_aload_n (q := 3) dL_addPart_2 rfl 0 rfl ?_
  refine aw_iload_n (q := 4) dL_addPart_3 rfl 1 rfl ?_
  refine aw_iload_n (q := 5) dL_addPart_4 rfl 2 rfl ?_
  refine aw_iload_n (q := 6) dL_addPart_5 rfl 3 rfl ?_
  refine aw_callC (q := 9) (hp1 := 16) (hp2 := 20) (kc1 := 0) (ks1 := 0) (wc := WX r S) (wr := [OC o nv sv]) (st1 := fun z g => [.int z.1, .ref o]) (ws1 := fun z g => [OC o nv sv] ++ WX r z.2) (As := [.ref (r 0), .int p0, .int p1, .int p2]) [0, 1, 2, 3, 4, 5, 6, 7, 8, 9, 10, 11, 12, 13, 14, 15, 16, 17, 18, 19, 20, 21, 22, 23, 24, 25, 26] [27] (fun _ => runV (q0 := 0) dL_addPart_6 mi_X5_addPart im_X5_addPart se_X5_addPart ml_L_101 (by omega) rfl (Nat.le_of_ble_eq_true rfl) rfl rfl rfl rfl) (fun x9 h9 => ogX_addPart h9) rfl rfl rfl rfl rfl (by decide) (by omega) (by omega) (fun _ _ => rfl) (fun _ _ => rfl) (Or.inr ⟨⟨[], _, [_], "java/lang/IndexOutOfBoundsException", rfl, (fun z h => by cases h), by decide, by decide, cl_L_19, ca_IndexOutOfBoundsException, rfl⟩, fun q9 => ?_⟩) (Or.inr ⟨⟨[_], _, [], "java/lang/IllegalArgumentException", rfl, (fun z h => by rcases List.mem_cons.mp h with rfl | h <;> first | exact ⟨by decide, rfl, cl_L_19⟩ | cases h), by decide, by decide, cl_L_21, ca_IllegalArgumentException, rfl⟩, fun q9 => ?_⟩) (fun z g => ?_)
  · refine aw_astore (q := 18) (lv' := [(5, .ref q9), (0, .ref (r 0)), (1, .int p0), (2, .int p1), (3, .int p2), (4, .ref o)]) dL_addPart_16 rfl (by decide) rfl ?_
    refine aw_iconst (q := 19) (v := 1) dL_addPart_18 rfl (by decide) ?_
    exact aw_ireturn [1, 2, 3, 4, 5, 6, 7, 8, 9, 10, 11, 12, 13, 14, 15, 16, 17, 18, 19, 20, 21, 22, 23, 24, 25, 26, 27, 0] dL_addPart_19 rfl rfl rfl rfl (PN.mk (fun _ => 0) rfl rfl)
  · refine aw_astore (q := 22) (lv' := [(5, .ref q9), (0, .ref (r 0)), (1, .int p0), (2, .int p1), (3, .int p2), (4, .ref o)]) dL_addPart_20 rfl (by decide) rfl ?_
    refine aw_iconst (q := 23) (v := 2) dL_addPart_22 rfl (by decide) ?_
    exact aw_ireturn [1, 2, 3, 4, 5, 6, 7, 8, 9, 10, 11, 12, 13, 14, 15, 16, 17, 18, 19, 20, 21, 22, 23, 24, 25, 26, 27, 0] dL_addPart_23 rfl rfl rfl rfl (PN.mk (fun _ => 0) rfl rfl)
  refine aw_i2l (q := 10) dL_addPart_9 rfl ?_
  refine aw_putN (q := 13) (ws' := [OC o z.1.toInt64 sv] ++ WX r z.2) dL_addPart_10 rfl fn_L_13 0 rfl rfl rfl (Nat.le_of_ble_eq_true rfl) rfl ?_
  refine aw_goto (tgt := 24) dL_addPart_13 (by decide) ?_
  refine aw_iconst (q := 25) (v := 0) dL_addPart_24 rfl (by decide) ?_
  exact aw_ireturn [1, 2, 3, 4, 5, 6, 7, 8, 9, 10, 11, 12, 13, 14, 15, 16, 17, 18, 19, 20, 21, 22, 23, 24, 25, 26, 27, 0] dL_addPart_25 rfl rfl rfl rfl (PN.mk g rfl rfl)
def gL_takePart (N K : Nat) (S : CS) (p0 : Int32) (p1 : Int32) (nv : Int64) : Option (Int32 × CS × Int64) := wb (gX_takePart N K S p0 p1) (fun z => some ((0 : Int32), z.2, z.1.toInt64)) (some ((1 : Int32), S, nv)) (some ((2 : Int32), S, nv))
set_option maxHeartbeats 4000000 in
set_option maxRecDepth 100000 in
theorem ogL_takePart {N K : Nat} {r : Nat → Nat} {o : Nat} {S : CS} {nv : Int64} {sv : Value} {p0 : Int32} {p1 : Int32} {x : Int32 × CS × Int64} (hE : gL_takePart N K S p0 p1 nv = some x) : OkM yL_takePart (.codeWith yL_takePart cL_takePart 5 (some .int) [(0, 11, 14, 19), (0, 11, 18, 21)]) (10) 2 12 [.ref (r 0), .int p0, .int p1, .ref o] (WX r S ++ [OC o nv sv]) ((PN (U := Int32 × CS × Int64) (fun z _ => some (.int z.1)) (fun z g => WX r z.2.1 ++ [OC o z.2.2 sv])) x) := by
  refine ok_ofH (by decide) (Nat.le_of_ble_eq_true rfl) hE ?_
  refine aw_locals (lv' := [(0, .ref (r 0)), (1, .int p0), (2, .int p1), (3, .ref o)]) [0, 1, 2, 3] rfl ?_
  refine aw_aload_n (q := 1) dL_takePart_0 rfl 3 rfl ?_
  refine aw_aload_n (q := 2) dL_takePart_1 rfl 0 rfl ?_
  refine aw_iload_n (q := 3) dL_takePart_2 rfl 1 rfl ?_
  refine aw_iload_n (q := 4) dL_takePart_3 rfl 2 rfl ?_
  refine aw_callC (q := 7) (hp1 := 14) (hp2 := 18) (kc1 := 0) (ks1 := 0) (wc := WX r S) (wr := [OC o nv sv]) (st1 := fun z g => [.int z.1, .ref o]) (ws1 := fun z g => [OC o nv sv] ++ WX r z.2) (As := [.ref (r 0), .int p0, .int p1]) [0, 1, 2, 3, 4, 5, 6, 7, 8, 9, 10, 11, 12, 13, 14, 15, 16, 17, 18, 19, 20, 21, 22, 23, 24, 25, 26] [27] (fun _ => runV (q0 := 0) dL_takePart_4 mi_X5_takePart im_X5_takePart se_X5_takePart ml_L_104 (by omega) rfl (Nat.le_of_ble_eq_true rfl) rfl rfl rfl rfl) (fun x9 h9 => ogX_takePart h9) rfl rfl rfl rfl rfl (by decide) (by omega) (by omega) (fun _ _ => rfl) (fun _ _ => rfl) (Or.inr ⟨⟨[], _, [_], "java/lang/IndexOutOfBoundsException", rfl, (fun z h => by cases h), by decide, by decide, cl_L_19, ca_IndexOutOfBoundsException, rfl⟩, fun q9 => ?_⟩) (Or.inr ⟨⟨[_], _, [], "java/lang/IllegalArgumentException", rfl, (fun z h => by rcases List.mem_cons.mp h with rfl | h <;> first | exact ⟨by decide, rfl, cl_L_19⟩ | cases h), by decide, by decide, cl_L_21, ca_IllegalArgumentException, rfl⟩, fun q9 => ?_⟩) (fun z g => ?_)
  · refine aw_astore (q := 16) (lv' := [(4, .ref q9), (0, .ref (r 0)), (1, .int p0), (2, .int p1), (3, .ref o)]) dL_takePart_14 rfl (by decide) rfl ?_
    refine aw_iconst (q := 17) (v := 1) dL_takePart_16 rfl (by decide) ?_
    exact aw_ireturn [1, 2, 3, 4, 5, 6, 7, 8, 9, 10, 11, 12, 13, 14, 15, 16, 17, 18, 19, 20, 21, 22, 23, 24, 25, 26, 27, 0] dL_takePart_17 rfl rfl rfl rfl (PN.mk (fun _ => 0) rfl rfl)
  · refine aw_astore (q := 20) (lv' := [(4, .ref q9), (0, .ref (r 0)), (1, .int p0), (2, .int p1), (3, .ref o)]) dL_takePart_18 rfl (by decide) rfl ?_
    refine aw_iconst (q := 21) (v := 2) dL_takePart_20 rfl (by decide) ?_
    exact aw_ireturn [1, 2, 3, 4, 5, 6, 7, 8, 9, 10, 11, 12, 13, 14, 15, 16, 17, 18, 19, 20, 21, 22, 23, 24, 25, 26, 27, 0] dL_takePart_21 rfl rfl rfl rfl (PN.mk (fun _ => 0) rfl rfl)
  refine aw_i2l (q := 8) dL_takePart_7 rfl ?_
  refine aw_putN (q := 11) (ws' := [OC o z.1.toInt64 sv] ++ WX r z.2) dL_takePart_8 rfl fn_L_13 0 rfl rfl rfl (Nat.le_of_ble_eq_true rfl) rfl ?_
  refine aw_goto (tgt := 22) dL_takePart_11 (by decide) ?_
  refine aw_iconst (q := 23) (v := 0) dL_takePart_22 rfl (by decide) ?_
  exact aw_ireturn [1, 2, 3, 4, 5, 6, 7, 8, 9, 10, 11, 12, 13, 14, 15, 16, 17, 18, 19, 20, 21, 22, 23, 24, 25, 26, 27, 0] dL_takePart_23 rfl rfl rfl rfl (PN.mk g rfl rfl)
def gL_layFirst (N K : Nat) (S : CS) (p0 : Int32) (p1 : Int32) (nv : Int64) : Option (Int32 × CS × Int64) := wb (gX_layFirst N K S p0 p1) (fun z => some ((0 : Int32), z.2, z.1.toInt64)) (some ((1 : Int32), S, nv)) (some ((2 : Int32), S, nv))
set_option maxHeartbeats 4000000 in
set_option maxRecDepth 100000 in
theorem ogL_layFirst {N K : Nat} {r : Nat → Nat} {o : Nat} {S : CS} {nv : Int64} {sv : Value} {p0 : Int32} {p1 : Int32} {x : Int32 × CS × Int64} (hE : gL_layFirst N K S p0 p1 nv = some x) : OkM yL_layFirst (.codeWith yL_layFirst cL_layFirst 5 (some .int) [(0, 11, 14, 19), (0, 11, 18, 21)]) (10) 2 12 [.ref (r 0), .int p0, .int p1, .ref o] (WX r S ++ [OC o nv sv]) ((PN (U := Int32 × CS × Int64) (fun z _ => some (.int z.1)) (fun z g => WX r z.2.1 ++ [OC o z.2.2 sv])) x) := by
  refine ok_ofH (by decide) (Nat.le_of_ble_eq_true rfl) hE ?_
  refine aw_locals (lv' := [(0, .ref (r 0)), (1, .int p0), (2, .int p1), (3, .ref o)]) [0, 1, 2, 3] rfl ?_
  refine aw_aload_n (q := 1) dL_layFirst_0 rfl 3 rfl ?_
  refine aw_aload_n (q := 2) dL_layFirst_1 rfl 0 rfl ?_
  refine aw_iload_n (q := 3) dL_layFirst_2 rfl 1 rfl ?_
  refine aw_iload_n (q := 4) dL_layFirst_3 rfl 2 rfl ?_
  refine aw_callC (q := 7) (hp1 := 14) (hp2 := 18) (kc1 := 0) (ks1 := 0) (wc := WX r S) (wr := [OC o nv sv]) (st1 := fun z g => [.int z.1, .ref o]) (ws1 := fun z g => [OC o nv sv] ++ WX r z.2) (As := [.ref (r 0), .int p0, .int p1]) [0, 1, 2, 3, 4, 5, 6, 7, 8, 9, 10, 11, 12, 13, 14, 15, 16, 17, 18, 19, 20, 21, 22, 23, 24, 25, 26] [27] (fun _ => runV (q0 := 0) dL_layFirst_4 mi_X5_layFirst im_X5_layFirst se_X5_layFirst ml_L_107 (by omega) rfl (Nat.le_of_ble_eq_true rfl) rfl rfl rfl rfl) (fun x9 h9 => ogX_layFirst h9) rfl rfl rfl rfl rfl (by decide) (by omega) (by omega) (fun _ _ => rfl) (fun _ _ => rfl) (Or.inr ⟨⟨[], _, [_], "java/lang/IndexOutOfBoundsException", rfl, (fun z h => by cases h), by decide, by decide, cl_L_19, ca_IndexOutOfBoundsException, rfl⟩, fun q9 => ?_⟩) (Or.inr ⟨⟨[_], _, [], "java/lang/IllegalArgumentException", rfl, (fun z h => by rcases List.mem_cons.mp h with rfl | h <;> first | exact ⟨by decide, rfl, cl_L_19⟩ | cases h), by decide, by decide, cl_L_21, ca_IllegalArgumentException, rfl⟩, fun q9 => ?_⟩) (fun z g => ?_)
  · refine aw_astore (q := 16) (lv' := [(4, .ref q9), (0, .ref (r 0)), (1, .int p0), (2, .int p1), (3, .ref o)]) dL_layFirst_14 rfl (by decide) rfl ?_
    refine aw_iconst (q := 17) (v := 1) dL_layFirst_16 rfl (by decide) ?_
    exact aw_ireturn [1, 2, 3, 4, 5, 6, 7, 8, 9, 10, 11, 12, 13, 14, 15, 16, 17, 18, 19, 20, 21, 22, 23, 24, 25, 26, 27, 0] dL_layFirst_17 rfl rfl rfl rfl (PN.mk (fun _ => 0) rfl rfl)
  · refine aw_astore (q := 20) (lv' := [(4, .ref q9), (0, .ref (r 0)), (1, .int p0), (2, .int p1), (3, .ref o)]) dL_layFirst_18 rfl (by decide) rfl ?_
    refine aw_iconst (q := 21) (v := 2) dL_layFirst_20 rfl (by decide) ?_
    exact aw_ireturn [1, 2, 3, 4, 5, 6, 7, 8, 9, 10, 11, 12, 13, 14, 15, 16, 17, 18, 19, 20, 21, 22, 23, 24, 25, 26, 27, 0] dL_layFirst_21 rfl rfl rfl rfl (PN.mk (fun _ => 0) rfl rfl)
  refine aw_i2l (q := 8) dL_layFirst_7 rfl ?_
  refine aw_putN (q := 11) (ws' := [OC o z.1.toInt64 sv] ++ WX r z.2) dL_layFirst_8 rfl fn_L_13 0 rfl rfl rfl (Nat.le_of_ble_eq_true rfl) rfl ?_
  refine aw_goto (tgt := 22) dL_layFirst_11 (by decide) ?_
  refine aw_iconst (q := 23) (v := 0) dL_layFirst_22 rfl (by decide) ?_
  exact aw_ireturn [1, 2, 3, 4, 5, 6, 7, 8, 9, 10, 11, 12, 13, 14, 15, 16, 17, 18, 19, 20, 21, 22, 23, 24, 25, 26, 27, 0] dL_layFirst_23 rfl rfl rfl rfl (PN.mk g rfl rfl)
def gL_next (N K : Nat) (S : CS) (p0 : Int32) (nv : Int64) : Option (Int32 × CS × Int64) := wb (gX_next N K S p0) (fun z => some ((0 : Int32), z.2, z.1.toInt64)) (some ((1 : Int32), S, nv)) none
set_option maxHeartbeats 4000000 in
set_option maxRecDepth 100000 in
theorem ogL_next {N K : Nat} {r : Nat → Nat} {o : Nat} {S : CS} {nv : Int64} {sv : Value} {p0 : Int32} {x : Int32 × CS × Int64} (hE : gL_next N K S p0 nv = some x) : OkM yL_next (.codeWith yL_next cL_next 4 (some .int) [(0, 10, 13, 19)]) (10) 1 6 [.ref (r 0), .int p0, .ref o] (WX r S ++ [OC o nv sv]) ((PN (U := Int32 × CS × Int64) (fun z _ => some (.int z.1)) (fun z g => WX r z.2.1 ++ [OC o z.2.2 sv])) x) := by
  refine ok_ofH (by decide) (Nat.le_of_ble_eq_true rfl) hE ?_
  refine aw_locals (lv' := [(0, .ref (r 0)), (1, .int p0), (2, .ref o)]) [0, 1, 2] rfl ?_
  refine aw_aload_n (q := 1) dL_next_0 rfl 2 rfl ?_
  refine aw_aload_n (q := 2) dL_next_1 rfl 0 rfl ?_
  refine aw_iload_n (q := 3) dL_next_2 rfl 1 rfl ?_
  refine aw_callC (q := 6) (hp1 := 13) (hp2 := 0) (kc1 := 0) (ks1 := 0) (wc := WX r S) (wr := [OC o nv sv]) (st1 := fun z g => [.int z.1, .ref o]) (ws1 := fun z g => [OC o nv sv] ++ WX r z.2) (As := [.ref (r 0), .int p0]) [0, 1, 2, 3, 4, 5, 6, 7, 8, 9, 10, 11, 12, 13, 14, 15, 16, 17, 18, 19, 20, 21, 22, 23, 24, 25, 26] [27] (fun _ => runV (q0 := 0) dL_next_3 mi_X5_next im_X5_next se_X5_next ml_L_110 (by omega) rfl (Nat.le_of_ble_eq_true rfl) rfl rfl rfl rfl) (fun x9 h9 => ogX_next h9) rfl rfl rfl rfl rfl (by decide) (by omega) (by omega) (fun _ _ => rfl) (fun _ _ => rfl) (Or.inr ⟨⟨[], _, [], "java/lang/IndexOutOfBoundsException", rfl, (fun z h => by cases h), by decide, by decide, cl_L_19, ca_IndexOutOfBoundsException, rfl⟩, fun q9 => ?_⟩) (Or.inl rfl) (fun z g => ?_)
  · refine aw_astore_n (q := 14) (lv' := [(3, .ref q9), (0, .ref (r 0)), (1, .int p0), (2, .ref o)]) dL_next_13 rfl (by decide) rfl ?_
    refine aw_iconst (q := 15) (v := 1) dL_next_14 rfl (by decide) ?_
    exact aw_ireturn [1, 2, 3, 4, 5, 6, 7, 8, 9, 10, 11, 12, 13, 14, 15, 16, 17, 18, 19, 20, 21, 22, 23, 24, 25, 26, 27, 0] dL_next_15 rfl rfl rfl rfl (PN.mk (fun _ => 0) rfl rfl)
  refine aw_i2l (q := 7) dL_next_6 rfl ?_
  refine aw_putN (q := 10) (ws' := [OC o z.1.toInt64 sv] ++ WX r z.2) dL_next_7 rfl fn_L_13 0 rfl rfl rfl (Nat.le_of_ble_eq_true rfl) rfl ?_
  refine aw_goto (tgt := 16) dL_next_10 (by decide) ?_
  refine aw_iconst (q := 17) (v := 0) dL_next_16 rfl (by decide) ?_
  exact aw_ireturn [1, 2, 3, 4, 5, 6, 7, 8, 9, 10, 11, 12, 13, 14, 15, 16, 17, 18, 19, 20, 21, 22, 23, 24, 25, 26, 27, 0] dL_next_17 rfl rfl rfl rfl (PN.mk g rfl rfl)
def gL_turn (N K : Nat) (S : CS) (p0 : Int32) (nv : Int64) : Option (Int32 × CS × Int64) := wb (gX_turn N K S p0) (fun z => some ((0 : Int32), z.2, z.1.toInt64)) (some ((1 : Int32), S, nv)) none
set_option maxHeartbeats 4000000 in
set_option maxRecDepth 100000 in
theorem ogL_turn {N K : Nat} {r : Nat → Nat} {o : Nat} {S : CS} {nv : Int64} {sv : Value} {p0 : Int32} {x : Int32 × CS × Int64} (hE : gL_turn N K S p0 nv = some x) : OkM yL_turn (.codeWith yL_turn cL_turn 4 (some .int) [(0, 10, 13, 19)]) (10) 1 6 [.ref (r 0), .int p0, .ref o] (WX r S ++ [OC o nv sv]) ((PN (U := Int32 × CS × Int64) (fun z _ => some (.int z.1)) (fun z g => WX r z.2.1 ++ [OC o z.2.2 sv])) x) := by
  refine ok_ofH (by decide) (Nat.le_of_ble_eq_true rfl) hE ?_
  refine aw_locals (lv' := [(0, .ref (r 0)), (1, .int p0), (2, .ref o)]) [0, 1, 2] rfl ?_
  refine aw_aload_n (q := 1) dL_turn_0 rfl 2 rfl ?_
  refine aw_aload_n (q := 2) dL_turn_1 rfl 0 rfl ?_
  refine aw_iload_n (q := 3) dL_turn_2 rfl 1 rfl ?_
  refine aw_callC (q := 6) (hp1 := 13) (hp2 := 0) (kc1 := 0) (ks1 := 0) (wc := WX r S) (wr := [OC o nv sv]) (st1 := fun z g => [.int z.1, .ref o]) (ws1 := fun z g => [OC o nv sv] ++ WX r z.2) (As := [.ref (r 0), .int p0]) [0, 1, 2, 3, 4, 5, 6, 7, 8, 9, 10, 11, 12, 13, 14, 15, 16, 17, 18, 19, 20, 21, 22, 23, 24, 25, 26] [27] (fun _ => runV (q0 := 0) dL_turn_3 mi_X5_turn im_X5_turn se_X5_turn ml_L_113 (by omega) rfl (Nat.le_of_ble_eq_true rfl) rfl rfl rfl rfl) (fun x9 h9 => ogX_turn h9) rfl rfl rfl rfl rfl (by decide) (by omega) (by omega) (fun _ _ => rfl) (fun _ _ => rfl) (Or.inr ⟨⟨[], _, [], "java/lang/IndexOutOfBoundsException", rfl, (fun z h => by cases h), by decide, by decide, cl_L_19, ca_IndexOutOfBoundsException, rfl⟩, fun q9 => ?_⟩) (Or.inl rfl) (fun z g => ?_)
  · refine aw_astore_n (q := 14) (lv' := [(3, .ref q9), (0, .ref (r 0)), (1, .int p0), (2, .ref o)]) dL_turn_13 rfl (by decide) rfl ?_
    refine aw_iconst (q := 15) (v := 1) dL_turn_14 rfl (by decide) ?_
    exact aw_ireturn [1, 2, 3, 4, 5, 6, 7, 8, 9, 10, 11, 12, 13, 14, 15, 16, 17, 18, 19, 20, 21, 22, 23, 24, 25, 26, 27, 0] dL_turn_15 rfl rfl rfl rfl (PN.mk (fun _ => 0) rfl rfl)
  refine aw_i2l (q := 7) dL_turn_6 rfl ?_
  refine aw_putN (q := 10) (ws' := [OC o z.1.toInt64 sv] ++ WX r z.2) dL_turn_7 rfl fn_L_13 0 rfl rfl rfl (Nat.le_of_ble_eq_true rfl) rfl ?_
  refine aw_goto (tgt := 16) dL_turn_10 (by decide) ?_
  refine aw_iconst (q := 17) (v := 0) dL_turn_16 rfl (by decide) ?_
  exact aw_ireturn [1, 2, 3, 4, 5, 6, 7, 8, 9, 10, 11, 12, 13, 14, 15, 16, 17, 18, 19, 20, 21, 22, 23, 24, 25, 26, 27, 0] dL_turn_17 rfl rfl rfl rfl (PN.mk g rfl rfl)
def gL_toUnlike (N K : Nat) (S : CS) (p0 : Int32) (nv : Int64) : Option (Int32 × CS × Int64) := wb (gX_toUnlike N K S p0) (fun z => some ((0 : Int32), z.2, z.1.toInt64)) (some ((1 : Int32), S, nv)) none
set_option maxHeartbeats 4000000 in
set_option maxRecDepth 100000 in
theorem ogL_toUnlike {N K : Nat} {r : Nat → Nat} {o : Nat} {S : CS} {nv : Int64} {sv : Value} {p0 : Int32} {x : Int32 × CS × Int64} (hE : gL_toUnlike N K S p0 nv = some x) : OkM yL_toUnlike (.codeWith yL_toUnlike cL_toUnlike 4 (some .int) [(0, 10, 13, 19)]) (10) 1 6 [.ref (r 0), .int p0, .ref o] (WX r S ++ [OC o nv sv]) ((PN (U := Int32 × CS × Int64) (fun z _ => some (.int z.1)) (fun z g => WX r z.2.1 ++ [OC o z.2.2 sv])) x) := by
  refine ok_ofH (by decide) (Nat.le_of_ble_eq_true rfl) hE ?_
  refine aw_locals (lv' := [(0, .ref (r 0)), (1, .int p0), (2, .ref o)]) [0, 1, 2] rfl ?_
  refine aw_aload_n (q := 1) dL_toUnlike_0 rfl 2 rfl ?_
  refine aw_aload_n (q := 2) dL_toUnlike_1 rfl 0 rfl ?_
  refine aw_iload_n (q := 3) dL_toUnlike_2 rfl 1 rfl ?_
  refine aw_callC (q := 6) (hp1 := 13) (hp2 := 0) (kc1 := 0) (ks1 := 0) (wc := WX r S) (wr := [OC o nv sv]) (st1 := fun z g => [.int z.1, .ref o]) (ws1 := fun z g => [OC o nv sv] ++ WX r z.2) (As := [.ref (r 0), .int p0]) [0, 1, 2, 3, 4, 5, 6, 7, 8, 9, 10, 11, 12, 13, 14, 15, 16, 17, 18, 19, 20, 21, 22, 23, 24, 25, 26] [27] (fun _ => runV (q0 := 0) dL_toUnlike_3 mi_X5_toUnlike im_X5_toUnlike se_X5_toUnlike ml_L_116 (by omega) rfl (Nat.le_of_ble_eq_true rfl) rfl rfl rfl rfl) (fun x9 h9 => ogX_toUnlike h9) rfl rfl rfl rfl rfl (by decide) (by omega) (by omega) (fun _ _ => rfl) (fun _ _ => rfl) (Or.inr ⟨⟨[], _, [], "java/lang/IndexOutOfBoundsException", rfl, (fun z h => by cases h), by decide, by decide, cl_L_19, ca_IndexOutOfBoundsException, rfl⟩, fun q9 => ?_⟩) (Or.inl rfl) (fun z g => ?_)
  · refine aw_astore_n (q := 14) (lv' := [(3, .ref q9), (0, .ref (r 0)), (1, .int p0), (2, .ref o)]) dL_toUnlike_13 rfl (by decide) rfl ?_
    refine aw_iconst (q := 15) (v := 1) dL_toUnlike_14 rfl (by decide) ?_
    exact aw_ireturn [1, 2, 3, 4, 5, 6, 7, 8, 9, 10, 11, 12, 13, 14, 15, 16, 17, 18, 19, 20, 21, 22, 23, 24, 25, 26, 27, 0] dL_toUnlike_15 rfl rfl rfl rfl (PN.mk (fun _ => 0) rfl rfl)
  refine aw_i2l (q := 7) dL_toUnlike_6 rfl ?_
  refine aw_putN (q := 10) (ws' := [OC o z.1.toInt64 sv] ++ WX r z.2) dL_toUnlike_7 rfl fn_L_13 0 rfl rfl rfl (Nat.le_of_ble_eq_true rfl) rfl ?_
  refine aw_goto (tgt := 16) dL_toUnlike_10 (by decide) ?_
  refine aw_iconst (q := 17) (v := 0) dL_toUnlike_16 rfl (by decide) ?_
  exact aw_ireturn [1, 2, 3, 4, 5, 6, 7, 8, 9, 10, 11, 12, 13, 14, 15, 16, 17, 18, 19, 20, 21, 22, 23, 24, 25, 26, 27, 0] dL_toUnlike_17 rfl rfl rfl rfl (PN.mk g rfl rfl)
def gL_toOdd (N K : Nat) (S : CS) (p0 : Int32) (nv : Int64) : Option (Int32 × CS × Int64) := wb (gX_toOdd N K S p0) (fun z => some ((0 : Int32), z.2, z.1.toInt64)) (some ((1 : Int32), S, nv)) none
set_option maxHeartbeats 4000000 in
set_option maxRecDepth 100000 in
theorem ogL_toOdd {N K : Nat} {r : Nat → Nat} {o : Nat} {S : CS} {nv : Int64} {sv : Value} {p0 : Int32} {x : Int32 × CS × Int64} (hE : gL_toOdd N K S p0 nv = some x) : OkM yL_toOdd (.codeWith yL_toOdd cL_toOdd 4 (some .int) [(0, 10, 13, 19)]) (10) 1 6 [.ref (r 0), .int p0, .ref o] (WX r S ++ [OC o nv sv]) ((PN (U := Int32 × CS × Int64) (fun z _ => some (.int z.1)) (fun z g => WX r z.2.1 ++ [OC o z.2.2 sv])) x) := by
  refine ok_ofH (by decide) (Nat.le_of_ble_eq_true rfl) hE ?_
  refine aw_locals (lv' := [(0, .ref (r 0)), (1, .int p0), (2, .ref o)]) [0, 1, 2] rfl ?_
  refine aw_aload_n (q := 1) dL_toOdd_0 rfl 2 rfl ?_
  refine aw_aload_n (q := 2) dL_toOdd_1 rfl 0 rfl ?_
  refine aw_iload_n (q := 3) dL_toOdd_2 rfl 1 rfl ?_
  refine aw_callC (q := 6) (hp1 := 13) (hp2 := 0) (kc1 := 0) (ks1 := 0) (wc := WX r S) (wr := [OC o nv sv]) (st1 := fun z g => [.int z.1, .ref o]) (ws1 := fun z g => [OC o nv sv] ++ WX r z.2) (As := [.ref (r 0), .int p0]) [0, 1, 2, 3, 4, 5, 6, 7, 8, 9, 10, 11, 12, 13, 14, 15, 16, 17, 18, 19, 20, 21, 22, 23, 24, 25, 26] [27] (fun _ => runV (q0 := 0) dL_toOdd_3 mi_X5_toOdd im_X5_toOdd se_X5_toOdd ml_L_119 (by omega) rfl (Nat.le_of_ble_eq_true rfl) rfl rfl rfl rfl) (fun x9 h9 => ogX_toOdd h9) rfl rfl rfl rfl rfl (by decide) (by omega) (by omega) (fun _ _ => rfl) (fun _ _ => rfl) (Or.inr ⟨⟨[], _, [], "java/lang/IndexOutOfBoundsException", rfl, (fun z h => by cases h), by decide, by decide, cl_L_19, ca_IndexOutOfBoundsException, rfl⟩, fun q9 => ?_⟩) (Or.inl rfl) (fun z g => ?_)
  · refine aw_astore_n (q := 14) (lv' := [(3, .ref q9), (0, .ref (r 0)), (1, .int p0), (2, .ref o)]) dL_toOdd_13 rfl (by decide) rfl ?_
    refine aw_iconst (q := 15) (v := 1) dL_toOdd_14 rfl (by decide) ?_
    exact aw_ireturn [1, 2, 3, 4, 5, 6, 7, 8, 9, 10, 11, 12, 13, 14, 15, 16, 17, 18, 19, 20, 21, 22, 23, 24, 25, 26, 27, 0] dL_toOdd_15 rfl rfl rfl rfl (PN.mk (fun _ => 0) rfl rfl)
  refine aw_i2l (q := 7) dL_toOdd_6 rfl ?_
  refine aw_putN (q := 10) (ws' := [OC o z.1.toInt64 sv] ++ WX r z.2) dL_toOdd_7 rfl fn_L_13 0 rfl rfl rfl (Nat.le_of_ble_eq_true rfl) rfl ?_
  refine aw_goto (tgt := 16) dL_toOdd_10 (by decide) ?_
  refine aw_iconst (q := 17) (v := 0) dL_toOdd_16 rfl (by decide) ?_
  exact aw_ireturn [1, 2, 3, 4, 5, 6, 7, 8, 9, 10, 11, 12, 13, 14, 15, 16, 17, 18, 19, 20, 21, 22, 23, 24, 25, 26, 27, 0] dL_toOdd_17 rfl rfl rfl rfl (PN.mk g rfl rfl)
def gL_copyDesk (N K : Nat) (S : CS) (p0 : Int32) (nv : Int64) : Option (Int32 × CS × Int64) := wb (gX_copyDesk N K S p0) (fun z => some ((0 : Int32), z.2, z.1.toInt64)) (some ((1 : Int32), S, nv)) none
set_option maxHeartbeats 4000000 in
set_option maxRecDepth 100000 in
theorem ogL_copyDesk {N K : Nat} {r : Nat → Nat} {o : Nat} {S : CS} {nv : Int64} {sv : Value} {p0 : Int32} {x : Int32 × CS × Int64} (hE : gL_copyDesk N K S p0 nv = some x) : OkM yL_copyDesk (.codeWith yL_copyDesk cL_copyDesk 4 (some .int) [(0, 10, 13, 19)]) (10) 2 12 [.ref (r 0), .int p0, .ref o] (WX r S ++ [OC o nv sv]) ((PN (U := Int32 × CS × Int64) (fun z _ => some (.int z.1)) (fun z g => WX r z.2.1 ++ [OC o z.2.2 sv])) x) := by
  refine ok_ofH (by decide) (Nat.le_of_ble_eq_true rfl) hE ?_
  refine aw_locals (lv' := [(0, .ref (r 0)), (1, .int p0), (2, .ref o)]) [0, 1, 2] rfl ?_
  refine aw_aload_n (q := 1) dL_copyDesk_0 rfl 2 rfl ?_
  refine aw_aload_n (q := 2) dL_copyDesk_1 rfl 0 rfl ?_
  refine aw_iload_n (q := 3) dL_copyDesk_2 rfl 1 rfl ?_
  refine aw_callC (q := 6) (hp1 := 13) (hp2 := 0) (kc1 := 0) (ks1 := 0) (wc := WX r S) (wr := [OC o nv sv]) (st1 := fun z g => [.int z.1, .ref o]) (ws1 := fun z g => [OC o nv sv] ++ WX r z.2) (As := [.ref (r 0), .int p0]) [0, 1, 2, 3, 4, 5, 6, 7, 8, 9, 10, 11, 12, 13, 14, 15, 16, 17, 18, 19, 20, 21, 22, 23, 24, 25, 26] [27] (fun _ => runV (q0 := 0) dL_copyDesk_3 mi_X5_copyDesk im_X5_copyDesk se_X5_copyDesk ml_L_122 (by omega) rfl (Nat.le_of_ble_eq_true rfl) rfl rfl rfl rfl) (fun x9 h9 => ogX_copyDesk h9) rfl rfl rfl rfl rfl (by decide) (by omega) (by omega) (fun _ _ => rfl) (fun _ _ => rfl) (Or.inr ⟨⟨[], _, [], "java/lang/IndexOutOfBoundsException", rfl, (fun z h => by cases h), by decide, by decide, cl_L_19, ca_IndexOutOfBoundsException, rfl⟩, fun q9 => ?_⟩) (Or.inl rfl) (fun z g => ?_)
  · refine aw_astore_n (q := 14) (lv' := [(3, .ref q9), (0, .ref (r 0)), (1, .int p0), (2, .ref o)]) dL_copyDesk_13 rfl (by decide) rfl ?_
    refine aw_iconst (q := 15) (v := 1) dL_copyDesk_14 rfl (by decide) ?_
    exact aw_ireturn [1, 2, 3, 4, 5, 6, 7, 8, 9, 10, 11, 12, 13, 14, 15, 16, 17, 18, 19, 20, 21, 22, 23, 24, 25, 26, 27, 0] dL_copyDesk_15 rfl rfl rfl rfl (PN.mk (fun _ => 0) rfl rfl)
  refine aw_i2l (q := 7) dL_copyDesk_6 rfl ?_
  refine aw_putN (q := 10) (ws' := [OC o z.1.toInt64 sv] ++ WX r z.2) dL_copyDesk_7 rfl fn_L_13 0 rfl rfl rfl (Nat.le_of_ble_eq_true rfl) rfl ?_
  refine aw_goto (tgt := 16) dL_copyDesk_10 (by decide) ?_
  refine aw_iconst (q := 17) (v := 0) dL_copyDesk_16 rfl (by decide) ?_
  exact aw_ireturn [1, 2, 3, 4, 5, 6, 7, 8, 9, 10, 11, 12, 13, 14, 15, 16, 17, 18, 19, 20, 21, 22, 23, 24, 25, 26, 27, 0] dL_copyDesk_17 rfl rfl rfl rfl (PN.mk g rfl rfl)
def gL_times (N K : Nat) (S : CS) (p0 : Int32) (p1 : Int32) (nv : Int64) : Option (Int32 × CS × Int64) := wb (gX_times N K S p0 p1) (fun z => some ((0 : Int32), z.2, z.1.toInt64)) (some ((1 : Int32), S, nv)) (some ((2 : Int32), S, nv))
set_option maxHeartbeats 4000000 in
set_option maxRecDepth 100000 in
theorem ogL_times {N K : Nat} {r : Nat → Nat} {o : Nat} {S : CS} {nv : Int64} {sv : Value} {p0 : Int32} {p1 : Int32} {x : Int32 × CS × Int64} (hE : gL_times N K S p0 p1 nv = some x) : OkM yL_times (.codeWith yL_times cL_times 5 (some .int) [(0, 11, 14, 19), (0, 11, 18, 21)]) (10) 2 12 [.ref (r 0), .int p0, .int p1, .ref o] (WX r S ++ [OC o nv sv]) ((PN (U := Int32 × CS × Int64) (fun z _ => some (.int z.1)) (fun z g => WX r z.2.1 ++ [OC o z.2.2 sv])) x) := by
  refine ok_ofH (by decide) (Nat.le_of_ble_eq_true rfl) hE ?_
  refine aw_locals (lv' := [(0, .ref (r 0)), (1, .int p0), (2, .int p1), (3, .ref o)]) [0, 1, 2, 3] rfl ?_
  refine aw_aload_n (q := 1) dL_times_0 rfl 3 rfl ?_
  refine aw_aload_n (q := 2) dL_times_1 rfl 0 rfl ?_
  refine aw_iload_n (q := 3) dL_times_2 rfl 1 rfl ?_
  refine aw_iload_n (q := 4) dL_times_3 rfl 2 rfl ?_
  refine aw_callC (q := 7) (hp1 := 14) (hp2 := 18) (kc1 := 0) (ks1 := 0) (wc := WX r S) (wr := [OC o nv sv]) (st1 := fun z g => [.int z.1, .ref o]) (ws1 := fun z g => [OC o nv sv] ++ WX r z.2) (As := [.ref (r 0), .int p0, .int p1]) [0, 1, 2, 3, 4, 5, 6, 7, 8, 9, 10, 11, 12, 13, 14, 15, 16, 17, 18, 19, 20, 21, 22, 23, 24, 25, 26] [27] (fun _ => runV (q0 := 0) dL_times_4 mi_X5_times im_X5_times se_X5_times ml_L_125 (by omega) rfl (Nat.le_of_ble_eq_true rfl) rfl rfl rfl rfl) (fun x9 h9 => ogX_times h9) rfl rfl rfl rfl rfl (by decide) (by omega) (by omega) (fun _ _ => rfl) (fun _ _ => rfl) (Or.inr ⟨⟨[], _, [_], "java/lang/IndexOutOfBoundsException", rfl, (fun z h => by cases h), by decide, by decide, cl_L_19, ca_IndexOutOfBoundsException, rfl⟩, fun q9 => ?_⟩) (Or.inr ⟨⟨[_], _, [], "java/lang/IllegalArgumentException", rfl, (fun z h => by rcases List.mem_cons.mp h with rfl | h <;> first | exact ⟨by decide, rfl, cl_L_19⟩ | cases h), by decide, by decide, cl_L_21, ca_IllegalArgumentException, rfl⟩, fun q9 => ?_⟩) (fun z g => ?_)
  · refine aw_astore (q := 16) (lv' := [(4, .ref q9), (0, .ref (r 0)), (1, .int p0), (2, .int p1), (3, .ref o)]) dL_times_14 rfl (by decide) rfl ?_
    refine aw_iconst (q := 17) (v := 1) dL_times_16 rfl (by decide) ?_
    exact aw_ireturn [1, 2, 3, 4, 5, 6, 7, 8, 9, 10, 11, 12, 13, 14, 15, 16, 17, 18, 19, 20, 21, 22, 23, 24, 25, 26, 27, 0] dL_times_17 rfl rfl rfl rfl (PN.mk (fun _ => 0) rfl rfl)
  · refine aw_astore (q := 20) (lv' := [(4, .ref q9), (0, .ref (r 0)), (1, .int p0), (2, .int p1), (3, .ref o)]) dL_times_18 rfl (by decide) rfl ?_
    refine aw_iconst (q := 21) (v := 2) dL_times_20 rfl (by decide) ?_
    exact aw_ireturn [1, 2, 3, 4, 5, 6, 7, 8, 9, 10, 11, 12, 13, 14, 15, 16, 17, 18, 19, 20, 21, 22, 23, 24, 25, 26, 27, 0] dL_times_21 rfl rfl rfl rfl (PN.mk (fun _ => 0) rfl rfl)
  refine aw_i2l (q := 8) dL_times_7 rfl ?_
  refine aw_putN (q := 11) (ws' := [OC o z.1.toInt64 sv] ++ WX r z.2) dL_times_8 rfl fn_L_13 0 rfl rfl rfl (Nat.le_of_ble_eq_true rfl) rfl ?_
  refine aw_goto (tgt := 22) dL_times_11 (by decide) ?_
  refine aw_iconst (q := 23) (v := 0) dL_times_22 rfl (by decide) ?_
  exact aw_ireturn [1, 2, 3, 4, 5, 6, 7, 8, 9, 10, 11, 12, 13, 14, 15, 16, 17, 18, 19, 20, 21, 22, 23, 24, 25, 26, 27, 0] dL_times_23 rfl rfl rfl rfl (PN.mk g rfl rfl)
def gL_way (N K : Nat) (S : CS) (p0 : Int32) (p1 : Int32) (nv : Int64) : Option (Int32 × CS × Int64) := wb (gX_way N K S p0 p1) (fun z => some ((0 : Int32), z.2, z.1.toInt64)) (some ((1 : Int32), S, nv)) (some ((2 : Int32), S, nv))
set_option maxHeartbeats 4000000 in
set_option maxRecDepth 100000 in
theorem ogL_way {N K : Nat} {r : Nat → Nat} {o : Nat} {S : CS} {nv : Int64} {sv : Value} {p0 : Int32} {p1 : Int32} {x : Int32 × CS × Int64} (hE : gL_way N K S p0 p1 nv = some x) : OkM yL_way (.codeWith yL_way cL_way 5 (some .int) [(0, 11, 14, 19), (0, 11, 18, 21)]) (10) 2 12 [.ref (r 0), .int p0, .int p1, .ref o] (WX r S ++ [OC o nv sv]) ((PN (U := Int32 × CS × Int64) (fun z _ => some (.int z.1)) (fun z g => WX r z.2.1 ++ [OC o z.2.2 sv])) x) := by
  refine ok_ofH (by decide) (Nat.le_of_ble_eq_true rfl) hE ?_
  refine aw_locals (lv' := [(0, .ref (r 0)), (1, .int p0), (2, .int p1), (3, .ref o)]) [0, 1, 2, 3] rfl ?_
  refine aw_aload_n (q := 1) dL_way_0 rfl 3 rfl ?_
  refine aw_aload_n (q := 2) dL_way_1 rfl 0 rfl ?_
  refine aw_iload_n (q := 3) dL_way_2 rfl 1 rfl ?_
  refine aw_iload_n (q := 4) dL_way_3 rfl 2 rfl ?_
  refine aw_callC (q := 7) (hp1 := 14) (hp2 := 18) (kc1 := 0) (ks1 := 0) (wc := WX r S) (wr := [OC o nv sv]) (st1 := fun z g => [.int z.1, .ref o]) (ws1 := fun z g => [OC o nv sv] ++ WX r z.2) (As := [.ref (r 0), .int p0, .int p1]) [0, 1, 2, 3, 4, 5, 6, 7, 8, 9, 10, 11, 12, 13, 14, 15, 16, 17, 18, 19, 20, 21, 22, 23, 24, 25, 26] [27] (fun _ => runV (q0 := 0) dL_way_4 mi_X5_way im_X5_way se_X5_way ml_L_128 (by omega) rfl (Nat.le_of_ble_eq_true rfl) rfl rfl rfl rfl) (fun x9 h9 => ogX_way h9) rfl rfl rfl rfl rfl (by decide) (by omega) (by omega) (fun _ _ => rfl) (fun _ _ => rfl) (Or.inr ⟨⟨[], _, [_], "java/lang/IndexOutOfBoundsException", rfl, (fun z h => by cases h), by decide, by decide, cl_L_19, ca_IndexOutOfBoundsException, rfl⟩, fun q9 => ?_⟩) (Or.inr ⟨⟨[_], _, [], "java/lang/IllegalArgumentException", rfl, (fun z h => by rcases List.mem_cons.mp h with rfl | h <;> first | exact ⟨by decide, rfl, cl_L_19⟩ | cases h), by decide, by decide, cl_L_21, ca_IllegalArgumentException, rfl⟩, fun q9 => ?_⟩) (fun z g => ?_)
  · refine aw_astore (q := 16) (lv' := [(4, .ref q9), (0, .ref (r 0)), (1, .int p0), (2, .int p1), (3, .ref o)]) dL_way_14 rfl (by decide) rfl ?_
    refine aw_iconst (q := 17) (v := 1) dL_way_16 rfl (by decide) ?_
    exact aw_ireturn [1, 2, 3, 4, 5, 6, 7, 8, 9, 10, 11, 12, 13, 14, 15, 16, 17, 18, 19, 20, 21, 22, 23, 24, 25, 26, 27, 0] dL_way_17 rfl rfl rfl rfl (PN.mk (fun _ => 0) rfl rfl)
  · refine aw_astore (q := 20) (lv' := [(4, .ref q9), (0, .ref (r 0)), (1, .int p0), (2, .int p1), (3, .ref o)]) dL_way_18 rfl (by decide) rfl ?_
    refine aw_iconst (q := 21) (v := 2) dL_way_20 rfl (by decide) ?_
    exact aw_ireturn [1, 2, 3, 4, 5, 6, 7, 8, 9, 10, 11, 12, 13, 14, 15, 16, 17, 18, 19, 20, 21, 22, 23, 24, 25, 26, 27, 0] dL_way_21 rfl rfl rfl rfl (PN.mk (fun _ => 0) rfl rfl)
  refine aw_i2l (q := 8) dL_way_7 rfl ?_
  refine aw_putN (q := 11) (ws' := [OC o z.1.toInt64 sv] ++ WX r z.2) dL_way_8 rfl fn_L_13 0 rfl rfl rfl (Nat.le_of_ble_eq_true rfl) rfl ?_
  refine aw_goto (tgt := 22) dL_way_11 (by decide) ?_
  refine aw_iconst (q := 23) (v := 0) dL_way_22 rfl (by decide) ?_
  exact aw_ireturn [1, 2, 3, 4, 5, 6, 7, 8, 9, 10, 11, 12, 13, 14, 15, 16, 17, 18, 19, 20, 21, 22, 23, 24, 25, 26, 27, 0] dL_way_23 rfl rfl rfl rfl (PN.mk g rfl rfl)
def gL_wayText (N K : Nat) (S : CS) (p0 : Int32) (nv : Int64) : Option (Int32 × CS × Int64) := wb (gX_wayText N K S p0) (fun z => some ((0 : Int32), z, nv)) (some ((1 : Int32), S, nv)) none
set_option maxHeartbeats 4000000 in
set_option maxRecDepth 100000 in
theorem ogL_wayText {N K : Nat} {r : Nat → Nat} {o : Nat} {S : CS} {nv : Int64} {sv : Value} {p0 : Int32} {x : Int32 × CS × Int64} (hE : gL_wayText N K S p0 nv = some x) : OkM yL_wayText (.codeWith yL_wayText cL_wayText 4 (some .int) [(0, 9, 12, 19)]) (10) 111 8006 [.ref (r 0), .int p0, .ref o] (WX r S ++ [OC o nv sv]) ((PN (U := Int32 × CS × Int64) (fun z _ => some (.int z.1)) (fun z g => WX r z.2.1 ++ [OC o z.2.2 (if z.1 = 0 then .ref (g 0) else sv)])) x) := by
  refine ok_ofH (by decide) (Nat.le_of_ble_eq_true rfl) hE ?_
  refine aw_locals (lv' := [(0, .ref (r 0)), (1, .int p0), (2, .ref o)]) [0, 1, 2] rfl ?_
  refine aw_aload_n (q := 1) dL_wayText_0 rfl 2 rfl ?_
  refine aw_aload_n (q := 2) dL_wayText_1 rfl 0 rfl ?_
  refine aw_iload_n (q := 3) dL_wayText_2 rfl 1 rfl ?_
  refine aw_callC (q := 6) (hp1 := 12) (hp2 := 0) (kc1 := 0) (ks1 := 0) (wc := WX r S) (wr := [OC o nv sv]) (st1 := fun z g => [.ref (g 0), .ref o]) (ws1 := fun z g => [OC o nv sv] ++ WX r z) (As := [.ref (r 0), .int p0]) [0, 1, 2, 3, 4, 5, 6, 7, 8, 9, 10, 11, 12, 13, 14, 15, 16, 17, 18, 19, 20, 21, 22, 23, 24, 25, 26] [27] (fun _ => runV (q0 := 0) dL_wayText_3 mi_X5_wayText im_X5_wayText se_X5_wayText ml_L_131 (by omega) rfl (Nat.le_of_ble_eq_true rfl) rfl rfl rfl rfl) (fun x9 h9 => ogX_wayText h9) rfl rfl rfl rfl rfl (by decide) (by omega) (by omega) (fun _ _ => rfl) (fun _ _ => rfl) (Or.inr ⟨⟨[], _, [], "java/lang/IndexOutOfBoundsException", rfl, (fun z h => by cases h), by decide, by decide, cl_L_19, ca_IndexOutOfBoundsException, rfl⟩, fun q9 => ?_⟩) (Or.inl rfl) (fun z g => ?_)
  · refine aw_astore_n (q := 13) (lv' := [(3, .ref q9), (0, .ref (r 0)), (1, .int p0), (2, .ref o)]) dL_wayText_12 rfl (by decide) rfl ?_
    refine aw_iconst (q := 14) (v := 1) dL_wayText_13 rfl (by decide) ?_
    exact aw_ireturn [1, 2, 3, 4, 5, 6, 7, 8, 9, 10, 11, 12, 13, 14, 15, 16, 17, 18, 19, 20, 21, 22, 23, 24, 25, 26, 27, 0] dL_wayText_14 rfl rfl rfl rfl (PN.mk (fun _ => 0) rfl rfl)
  refine aw_putN (q := 9) (ws' := [OC o nv (.ref (g 0))] ++ WX r z) dL_wayText_6 rfl fn_L_135 0 rfl rfl rfl (Nat.le_of_ble_eq_true rfl) rfl ?_
  refine aw_goto (tgt := 15) dL_wayText_9 (by decide) ?_
  refine aw_iconst (q := 16) (v := 0) dL_wayText_15 rfl (by decide) ?_
  exact aw_ireturn [1, 2, 3, 4, 5, 6, 7, 8, 9, 10, 11, 12, 13, 14, 15, 16, 17, 18, 19, 20, 21, 22, 23, 24, 25, 26, 27, 0] dL_wayText_16 rfl rfl rfl rfl (PN.mk g rfl rfl)
def gL_isOf (N K : Nat) (S : CS) (p0 : Int32) (p1 : Int32) (p2 : Int32) (nv : Int64) : Option (Int32 × CS × Int64) := wb (gX_isOf N K S p0 p1 p2) (fun z => (if z.1 = 0 then some ((0 : Int32), z.2, (0 : Int64)) else some ((0 : Int32), z.2, (1 : Int64)))) (some ((1 : Int32), S, nv)) (some ((2 : Int32), S, nv))
set_option maxHeartbeats 4000000 in
set_option maxRecDepth 100000 in
theorem ogL_isOf {N K : Nat} {r : Nat → Nat} {o : Nat} {S : CS} {nv : Int64} {sv : Value} {p0 : Int32} {p1 : Int32} {p2 : Int32} {x : Int32 × CS × Int64} (hE : gL_isOf N K S p0 p1 p2 nv = some x) : OkM yL_isOf (.codeWith yL_isOf cL_isOf 6 (some .int) [(0, 20, 23, 19), (0, 20, 27, 21)]) (10) 3 18 [.ref (r 0), .int p0, .int p1, .int p2, .ref o] (WX r S ++ [OC o nv sv]) ((PN (U := Int32 × CS × Int64) (fun z _ => some (.int z.1)) (fun z g => WX r z.2.1 ++ [OC o z.2.2 sv])) x) := by
  refine ok_ofH (by decide) (Nat.le_of_ble_eq_true rfl) hE ?_
  refine aw_locals (lv' := [(0, .ref (r 0)), (1, .int p0), (2, .int p1), (3, .int p2), (4, .ref o)]) [0, 1, 2, 3, 4] rfl ?_
  refine aw_aload (q := 2) dL_isOf_0 rfl 4 rfl ?_
  refine aw_aload_n (q := 3) dL_isOf_2 rfl 0 rfl ?_
  refine aw_iload_n (q := 4) dL_isOf_3 rfl 1 rfl ?_
  refine aw_iload_n (q := 5) dL_isOf_4 rfl 2 rfl ?_
  refine aw_iload_n (q := 6) dL_isOf_5 rfl 3 rfl ?_
  refine aw_callC (q := 9) (hp1 := 23) (hp2 := 27) (kc1 := 0) (ks1 := 0) (wc := WX r S) (wr := [OC o nv sv]) (st1 := fun z g => [.int z.1, .ref o]) (ws1 := fun z g => [OC o nv sv] ++ WX r z.2) (As := [.ref (r 0), .int p0, .int p1, .int p2]) [0, 1, 2, 3, 4, 5, 6, 7, 8, 9, 10, 11, 12, 13, 14, 15, 16, 17, 18, 19, 20, 21, 22, 23, 24, 25, 26] [27] (fun _ => runV (q0 := 0) dL_isOf_6 mi_X5_isOf im_X5_isOf se_X5_isOf ml_L_139 (by omega) rfl (Nat.le_of_ble_eq_true rfl) rfl rfl rfl rfl) (fun x9 h9 => ogX_isOf h9) rfl rfl rfl rfl rfl (by decide) (by omega) (by omega) (fun _ _ => rfl) (fun _ _ => rfl) (Or.inr ⟨⟨[], _, [_], "java/lang/IndexOutOfBoundsException", rfl, (fun z h => by cases h), by decide, by decide, cl_L_19, ca_IndexOutOfBoundsException, rfl⟩, fun q9 => ?_⟩) (Or.inr ⟨⟨[_], _, [], "java/lang/IllegalArgumentException", rfl, (fun z h => by rcases List.mem_cons.mp h with rfl | h <;> first | exact ⟨by decide, rfl, cl_L_19⟩ | cases h), by decide, by decide, cl_L_21, ca_IllegalArgumentException, rfl⟩, fun q9 => ?_⟩) (fun z g => ?_)
  · refine aw_astore (q := 25) (lv' := [(5, .ref q9), (0, .ref (r 0)), (1, .int p0), (2, .int p1), (3, .int p2), (4, .ref o)]) dL_isOf_23 rfl (by decide) rfl ?_
    refine aw_iconst (q := 26) (v := 1) dL_isOf_25 rfl (by decide) ?_
    exact aw_ireturn [1, 2, 3, 4, 5, 6, 7, 8, 9, 10, 11, 12, 13, 14, 15, 16, 17, 18, 19, 20, 21, 22, 23, 24, 25, 26, 27, 0] dL_isOf_26 rfl rfl rfl rfl (PN.mk (fun _ => 0) rfl rfl)
  · refine aw_astore (q := 29) (lv' := [(5, .ref q9), (0, .ref (r 0)), (1, .int p0), (2, .int p1), (3, .int p2), (4, .ref o)]) dL_isOf_27 rfl (by decide) rfl ?_
    refine aw_iconst (q := 30) (v := 2) dL_isOf_29 rfl (by decide) ?_
    exact aw_ireturn [1, 2, 3, 4, 5, 6, 7, 8, 9, 10, 11, 12, 13, 14, 15, 16, 17, 18, 19, 20, 21, 22, 23, 24, 25, 26, 27, 0] dL_isOf_30 rfl rfl rfl rfl (PN.mk (fun _ => 0) rfl rfl)
  refine aw_if_eq (tgt := 16) (q := 12) dL_isOf_9 (by decide) rfl (fun h0 => ?_) (fun h0 => ?_)
  · refine aw_lconst (q := 17) (v := 0) dL_isOf_16 rfl (by decide) ?_
    refine aw_putN (q := 20) (ws' := [OC o 0 sv] ++ WX r z.2) dL_isOf_17 rfl fn_L_13 0 rfl rfl rfl (Nat.le_of_ble_eq_true rfl) rfl ?_
    refine aw_goto (tgt := 31) dL_isOf_20 (by decide) ?_
    refine aw_iconst (q := 32) (v := 0) dL_isOf_31 rfl (by decide) ?_
    exact aw_ireturn [1, 2, 3, 4, 5, 6, 7, 8, 9, 10, 11, 12, 13, 14, 15, 16, 17, 18, 19, 20, 21, 22, 23, 24, 25, 26, 27, 0] dL_isOf_32 rfl rfl rfl rfl (PN.mk g rfl rfl)
  · refine aw_lconst (q := 13) (v := 1) dL_isOf_12 rfl (by decide) ?_
    refine aw_goto (tgt := 17) dL_isOf_13 (by decide) ?_
    refine aw_putN (q := 20) (ws' := [OC o 1 sv] ++ WX r z.2) dL_isOf_17 rfl fn_L_13 0 rfl rfl rfl (Nat.le_of_ble_eq_true rfl) rfl ?_
    refine aw_goto (tgt := 31) dL_isOf_20 (by decide) ?_
    refine aw_iconst (q := 32) (v := 0) dL_isOf_31 rfl (by decide) ?_
    exact aw_ireturn [1, 2, 3, 4, 5, 6, 7, 8, 9, 10, 11, 12, 13, 14, 15, 16, 17, 18, 19, 20, 21, 22, 23, 24, 25, 26, 27, 0] dL_isOf_32 rfl rfl rfl rfl (PN.mk g rfl rfl)
def gL_tally (N K : Nat) (S : CS) (p0 : Int32) (nv : Int64) : Option (Int32 × CS × Int64) := wb (gX_tally N K S p0) (fun z => some ((0 : Int32), z.2, z.1.toInt64)) none (some ((1 : Int32), S, nv))
set_option maxHeartbeats 4000000 in
set_option maxRecDepth 100000 in
theorem ogL_tally {N K : Nat} {r : Nat → Nat} {o : Nat} {S : CS} {nv : Int64} {sv : Value} {p0 : Int32} {x : Int32 × CS × Int64} (hE : gL_tally N K S p0 nv = some x) : OkM yL_tally (.codeWith yL_tally cL_tally 4 (some .int) [(0, 10, 13, 21)]) (10) 1 6 [.ref (r 0), .int p0, .ref o] (WX r S ++ [OC o nv sv]) ((PN (U := Int32 × CS × Int64) (fun z _ => some (.int z.1)) (fun z g => WX r z.2.1 ++ [OC o z.2.2 sv])) x) := by
  refine ok_ofH (by decide) (Nat.le_of_ble_eq_true rfl) hE ?_
  refine aw_locals (lv' := [(0, .ref (r 0)), (1, .int p0), (2, .ref o)]) [0, 1, 2] rfl ?_
  refine aw_aload_n (q := 1) dL_tally_0 rfl 2 rfl ?_
  refine aw_aload_n (q := 2) dL_tally_1 rfl 0 rfl ?_
  refine aw_iload_n (q := 3) dL_tally_2 rfl 1 rfl ?_
  refine aw_callC (q := 6) (hp1 := 0) (hp2 := 13) (kc1 := 0) (ks1 := 0) (wc := WX r S) (wr := [OC o nv sv]) (st1 := fun z g => [.int z.1, .ref o]) (ws1 := fun z g => [OC o nv sv] ++ WX r z.2) (As := [.ref (r 0), .int p0]) [0, 1, 2, 3, 4, 5, 6, 7, 8, 9, 10, 11, 12, 13, 14, 15, 16, 17, 18, 19, 20, 21, 22, 23, 24, 25, 26] [27] (fun _ => runV (q0 := 0) dL_tally_3 mi_X5_tally im_X5_tally se_X5_tally ml_L_143 (by omega) rfl (Nat.le_of_ble_eq_true rfl) rfl rfl rfl rfl) (fun x9 h9 => ogX_tally h9) rfl rfl rfl rfl rfl (by decide) (by omega) (by omega) (fun _ _ => rfl) (fun _ _ => rfl) (Or.inl rfl) (Or.inr ⟨⟨[], _, [], "java/lang/IllegalArgumentException", rfl, (fun z h => by cases h), by decide, by decide, cl_L_21, ca_IllegalArgumentException, rfl⟩, fun q9 => ?_⟩) (fun z g => ?_)
  · refine aw_astore_n (q := 14) (lv' := [(3, .ref q9), (0, .ref (r 0)), (1, .int p0), (2, .ref o)]) dL_tally_13 rfl (by decide) rfl ?_
    refine aw_iconst (q := 15) (v := 1) dL_tally_14 rfl (by decide) ?_
    exact aw_ireturn [1, 2, 3, 4, 5, 6, 7, 8, 9, 10, 11, 12, 13, 14, 15, 16, 17, 18, 19, 20, 21, 22, 23, 24, 25, 26, 27, 0] dL_tally_15 rfl rfl rfl rfl (PN.mk (fun _ => 0) rfl rfl)
  refine aw_i2l (q := 7) dL_tally_6 rfl ?_
  refine aw_putN (q := 10) (ws' := [OC o z.1.toInt64 sv] ++ WX r z.2) dL_tally_7 rfl fn_L_13 0 rfl rfl rfl (Nat.le_of_ble_eq_true rfl) rfl ?_
  refine aw_goto (tgt := 16) dL_tally_10 (by decide) ?_
  refine aw_iconst (q := 17) (v := 0) dL_tally_16 rfl (by decide) ?_
  exact aw_ireturn [1, 2, 3, 4, 5, 6, 7, 8, 9, 10, 11, 12, 13, 14, 15, 16, 17, 18, 19, 20, 21, 22, 23, 24, 25, 26, 27, 0] dL_tally_17 rfl rfl rfl rfl (PN.mk g rfl rfl)
def gL_isSound (N K : Nat) (S : CS) (p0 : Int32) (nv : Int64) : Option (Int32 × CS × Int64) := wb (gX_isSound N K S p0) (fun z => (if z.1 = 0 then some ((0 : Int32), z.2, (0 : Int64)) else some ((0 : Int32), z.2, (1 : Int64)))) (some ((1 : Int32), S, nv)) none
set_option maxHeartbeats 4000000 in
set_option maxRecDepth 100000 in
theorem ogL_isSound {N K : Nat} {r : Nat → Nat} {o : Nat} {S : CS} {nv : Int64} {sv : Value} {p0 : Int32} {x : Int32 × CS × Int64} (hE : gL_isSound N K S p0 nv = some x) : OkM yL_isSound (.codeWith yL_isSound cL_isSound 4 (some .int) [(0, 17, 20, 19)]) (10) 1 6 [.ref (r 0), .int p0, .ref o] (WX r S ++ [OC o nv sv]) ((PN (U := Int32 × CS × Int64) (fun z _ => some (.int z.1)) (fun z g => WX r z.2.1 ++ [OC o z.2.2 sv])) x) := by
  refine ok_ofH (by decide) (Nat.le_of_ble_eq_true rfl) hE ?_
  refine aw_locals (lv' := [(0, .ref (r 0)), (1, .int p0), (2, .ref o)]) [0, 1, 2] rfl ?_
  refine aw_aload_n (q := 1) dL_isSound_0 rfl 2 rfl ?_
  refine aw_aload_n (q := 2) dL_isSound_1 rfl 0 rfl ?_
  refine aw_iload_n (q := 3) dL_isSound_2 rfl 1 rfl ?_
  refine aw_callC (q := 6) (hp1 := 20) (hp2 := 0) (kc1 := 0) (ks1 := 0) (wc := WX r S) (wr := [OC o nv sv]) (st1 := fun z g => [.int z.1, .ref o]) (ws1 := fun z g => [OC o nv sv] ++ WX r z.2) (As := [.ref (r 0), .int p0]) [0, 1, 2, 3, 4, 5, 6, 7, 8, 9, 10, 11, 12, 13, 14, 15, 16, 17, 18, 19, 20, 21, 22, 23, 24, 25, 26] [27] (fun _ => runV (q0 := 0) dL_isSound_3 mi_X5_isSound im_X5_isSound se_X5_isSound ml_L_146 (by omega) rfl (Nat.le_of_ble_eq_true rfl) rfl rfl rfl rfl) (fun x9 h9 => ogX_isSound h9) rfl rfl rfl rfl rfl (by decide) (by omega) (by omega) (fun _ _ => rfl) (fun _ _ => rfl) (Or.inr ⟨⟨[], _, [], "java/lang/IndexOutOfBoundsException", rfl, (fun z h => by cases h), by decide, by decide, cl_L_19, ca_IndexOutOfBoundsException, rfl⟩, fun q9 => ?_⟩) (Or.inl rfl) (fun z g => ?_)
  · refine aw_astore_n (q := 21) (lv' := [(3, .ref q9), (0, .ref (r 0)), (1, .int p0), (2, .ref o)]) dL_isSound_20 rfl (by decide) rfl ?_
    refine aw_iconst (q := 22) (v := 1) dL_isSound_21 rfl (by decide) ?_
    exact aw_ireturn [1, 2, 3, 4, 5, 6, 7, 8, 9, 10, 11, 12, 13, 14, 15, 16, 17, 18, 19, 20, 21, 22, 23, 24, 25, 26, 27, 0] dL_isSound_22 rfl rfl rfl rfl (PN.mk (fun _ => 0) rfl rfl)
  refine aw_if_eq (tgt := 13) (q := 9) dL_isSound_6 (by decide) rfl (fun h0 => ?_) (fun h0 => ?_)
  · refine aw_lconst (q := 14) (v := 0) dL_isSound_13 rfl (by decide) ?_
    refine aw_putN (q := 17) (ws' := [OC o 0 sv] ++ WX r z.2) dL_isSound_14 rfl fn_L_13 0 rfl rfl rfl (Nat.le_of_ble_eq_true rfl) rfl ?_
    refine aw_goto (tgt := 23) dL_isSound_17 (by decide) ?_
    refine aw_iconst (q := 24) (v := 0) dL_isSound_23 rfl (by decide) ?_
    exact aw_ireturn [1, 2, 3, 4, 5, 6, 7, 8, 9, 10, 11, 12, 13, 14, 15, 16, 17, 18, 19, 20, 21, 22, 23, 24, 25, 26, 27, 0] dL_isSound_24 rfl rfl rfl rfl (PN.mk g rfl rfl)
  · refine aw_lconst (q := 10) (v := 1) dL_isSound_9 rfl (by decide) ?_
    refine aw_goto (tgt := 14) dL_isSound_10 (by decide) ?_
    refine aw_putN (q := 17) (ws' := [OC o 1 sv] ++ WX r z.2) dL_isSound_14 rfl fn_L_13 0 rfl rfl rfl (Nat.le_of_ble_eq_true rfl) rfl ?_
    refine aw_goto (tgt := 23) dL_isSound_17 (by decide) ?_
    refine aw_iconst (q := 24) (v := 0) dL_isSound_23 rfl (by decide) ?_
    exact aw_ireturn [1, 2, 3, 4, 5, 6, 7, 8, 9, 10, 11, 12, 13, 14, 15, 16, 17, 18, 19, 20, 21, 22, 23, 24, 25, 26, 27, 0] dL_isSound_24 rfl rfl rfl rfl (PN.mk g rfl rfl)
