def gL_know (N K : Nat) (S : CS) (p0 : Int32) (p1 : Int32) (p2 : Int32) (p3 : Int32) (nv : Int64) : Option (Int32 × CS × Int64) := wb (gX_know N K S p0 p1 p2 p3) (fun z => some ((0 : Int32), z.2, z.1.toInt64)) (some ((1 : Int32), S, nv)) (some ((2 : Int32), S, nv))
set_option maxHeartbeats 4000000 in
set_option maxRecDepth 100000 in
theorem ogL_know {N K : Nat} {r : Nat → Nat} {o : Nat} {S : CS} {nv : Int64} {sv : Value} {p0 : Int32} {p1 : Int32} {p2 : Int32} {p3 : Int32} {x : Int32 × CS × Int64} (hE : gL_know N K S p0 p1 p2 p3 nv = some x) : OkM yL_know (.codeWith yL_know cL_know 7 (some .int) [(0, 15, 18, 19), (0, 15, 22, 21)]) (2 * K + 11) 4 24 [.ref (r 0), .int p0, .int p1, .int p2, .int p3, .ref o] (WX r S ++ [OC o nv sv]) ((PN (U := Int32 × CS × Int64) (fun z _ => some (.int z.1)) (fun z g => WX r z.2.1 ++ [OC o z.2.2 sv])) x) := by
  refine ok_ofH (by decide) (Nat.le_of_ble_eq_true rfl) hE ?_
  refine aw_locals (lv' := [(0, .ref (r 0)), (1, .int p0), (2, .int p1), (3, .int p2), (4, .int p3), (5, .ref o)]) [0, 1, 2, 3, 4, 5] rfl ?_
  refine aw_aload (q := 2) gdL_know_0.1 rfl 5 rfl ?_
  refine aw_aload_n (q := 3) gdL_know_0.2.1 rfl 0 rfl ?_
  refine aw_iload_n (q := 4) gdL_know_0.2.2.1 rfl 1 rfl ?_
  refine aw_iload_n (q := 5) gdL_know_0.2.2.2.1 rfl 2 rfl ?_
  refine aw_iload_n (q := 6) gdL_know_0.2.2.2.2.1 rfl 3 rfl ?_
  refine aw_iload (q := 8) gdL_know_0.2.2.2.2.2.1 rfl 4 rfl ?_
  refine aw_callC (q := 11) (hp1 := 18) (hp2 := 22) (kc1 := 0) (ks1 := 0) (wc := WX r S) (wr := [OC o nv sv]) (st1 := fun z g => [.int z.1, .ref o]) (ws1 := fun z g => [OC o nv sv] ++ WX r z.2) (As := [.ref (r 0), .int p0, .int p1, .int p2, .int p3]) [0, 1, 2, 3, 4, 5, 6, 7, 8, 9, 10, 11, 12, 13, 14, 15, 16, 17, 18, 19, 20, 21, 22, 23, 24, 25, 26] [27] (fun _ => runV (q0 := 0) gdL_know_0.2.2.2.2.2.2.1 mi_X5_know im_X5_know se_X5_know ml_L_7 (by omega) rfl (Nat.le_of_ble_eq_true rfl) rfl rfl rfl rfl) (fun x9 h9 => ogX_know h9) rfl rfl rfl rfl rfl (by decide +kernel) (by omega) (by omega) (fun _ _ => rfl) (fun _ _ => rfl) (Or.inr ⟨⟨[], _, [_], "java/lang/IndexOutOfBoundsException", rfl, (fun z h => by cases h), by decide, by decide, cl_L_19, ca_IndexOutOfBoundsException, rfl⟩, fun q9 => ?_⟩) (Or.inr ⟨⟨[_], _, [], "java/lang/IllegalArgumentException", rfl, (fun z h => by rcases List.mem_cons.mp h with rfl | h <;> first | exact ⟨by decide, rfl, cl_L_19⟩ | cases h), by decide, by decide, cl_L_21, ca_IllegalArgumentException, rfl⟩, fun q9 => ?_⟩) (fun z g => ?_)
  · refine aw_astore (q := 20) (lv' := [(6, .ref q9), (0, .ref (r 0)), (1, .int p0), (2, .int p1), (3, .int p2), (4, .int p3), (5, .ref o)]) gdL_know_12.2.2.1 rfl (by decide) rfl ?_
    refine aw_iconst (q := 21) (v := 1) gdL_know_12.2.2.2.1 rfl (by decide) ?_
    exact aw_ireturn [1, 2, 3, 4, 5, 6, 7, 8, 9, 10, 11, 12, 13, 14, 15, 16, 17, 18, 19, 20, 21, 22, 23, 24, 25, 26, 27, 0] gdL_know_12.2.2.2.2.1 rfl rfl rfl rfl (PN.mk (fun _ => 0) rfl rfl)
  · refine aw_astore (q := 24) (lv' := [(6, .ref q9), (0, .ref (r 0)), (1, .int p0), (2, .int p1), (3, .int p2), (4, .int p3), (5, .ref o)]) gdL_know_12.2.2.2.2.2.1 rfl (by decide) rfl ?_
    refine aw_iconst (q := 25) (v := 2) gdL_know_12.2.2.2.2.2.2.1 rfl (by decide) ?_
    exact aw_ireturn [1, 2, 3, 4, 5, 6, 7, 8, 9, 10, 11, 12, 13, 14, 15, 16, 17, 18, 19, 20, 21, 22, 23, 24, 25, 26, 27, 0] gdL_know_12.2.2.2.2.2.2.2 rfl rfl rfl rfl (PN.mk (fun _ => 0) rfl rfl)
  refine aw_i2l (q := 12) gdL_know_0.2.2.2.2.2.2.2 rfl ?_
  refine aw_putN (q := 15) (ws' := [OC o z.1.toInt64 sv] ++ WX r z.2) gdL_know_12.1 rfl fn_L_13 0 rfl rfl rfl (Nat.le_of_ble_eq_true rfl) rfl ?_
  refine aw_goto (tgt := 26) gdL_know_12.2.1 (by decide) ?_
  refine aw_iconst (q := 27) (v := 0) gdL_know_26.1 rfl (by decide) ?_
  exact aw_ireturn [1, 2, 3, 4, 5, 6, 7, 8, 9, 10, 11, 12, 13, 14, 15, 16, 17, 18, 19, 20, 21, 22, 23, 24, 25, 26, 27, 0] gdL_know_26.2 rfl rfl rfl rfl (PN.mk g rfl rfl)
def gL_few (N K : Nat) (S : CS) (p0 : Int32) (p1 : Int32) (p2 : Int32) (nv : Int64) : Option (Int32 × CS × Int64) := wb (gX_few N K S p0 p1 p2) (fun z => some ((0 : Int32), z.2, z.1.toInt64)) (some ((1 : Int32), S, nv)) (some ((2 : Int32), S, nv))
set_option maxHeartbeats 4000000 in
set_option maxRecDepth 100000 in
theorem ogL_few {N K : Nat} {r : Nat → Nat} {o : Nat} {S : CS} {nv : Int64} {sv : Value} {p0 : Int32} {p1 : Int32} {p2 : Int32} {x : Int32 × CS × Int64} (hE : gL_few N K S p0 p1 p2 nv = some x) : OkM yL_few (.codeWith yL_few cL_few 6 (some .int) [(0, 13, 16, 19), (0, 13, 20, 21)]) (2 * K + 10) 3 18 [.ref (r 0), .int p0, .int p1, .int p2, .ref o] (WX r S ++ [OC o nv sv]) ((PN (U := Int32 × CS × Int64) (fun z _ => some (.int z.1)) (fun z g => WX r z.2.1 ++ [OC o z.2.2 sv])) x) := by
  refine ok_ofH (by decide) (Nat.le_of_ble_eq_true rfl) hE ?_
  refine aw_locals (lv' := [(0, .ref (r 0)), (1, .int p0), (2, .int p1), (3, .int p2), (4, .ref o)]) [0, 1, 2, 3, 4] rfl ?_
  refine aw_aload (q := 2) gdL_few_0.1 rfl 4 rfl ?_
  refine aw_aload_n (q := 3) gdL_few_0.2.1 rfl 0 rfl ?_
  refine aw_iload_n (q := 4) gdL_few_0.2.2.1 rfl 1 rfl ?_
  refine aw_iload_n (q := 5) gdL_few_0.2.2.2.1 rfl 2 rfl ?_
  refine aw_iload_n (q := 6) gdL_few_0.2.2.2.2.1 rfl 3 rfl ?_
  refine aw_callC (q := 9) (hp1 := 16) (hp2 := 20) (kc1 := 0) (ks1 := 0) (wc := WX r S) (wr := [OC o nv sv]) (st1 := fun z g => [.int z.1, .ref o]) (ws1 := fun z g => [OC o nv sv] ++ WX r z.2) (As := [.ref (r 0), .int p0, .int p1, .int p2]) [0, 1, 2, 3, 4, 5, 6, 7, 8, 9, 10, 11, 12, 13, 14, 15, 16, 17, 18, 19, 20, 21, 22, 23, 24, 25, 26] [27] (fun _ => runV (q0 := 0) gdL_few_0.2.2.2.2.2.1 mi_X5_few im_X5_few se_X5_few ml_L_23 (by omega) rfl (Nat.le_of_ble_eq_true rfl) rfl rfl rfl rfl) (fun x9 h9 => ogX_few h9) rfl rfl rfl rfl rfl (by decide +kernel) (by omega) (by omega) (fun _ _ => rfl) (fun _ _ => rfl) (Or.inr ⟨⟨[], _, [_], "java/lang/IndexOutOfBoundsException", rfl, (fun z h => by cases h), by decide, by decide, cl_L_19, ca_IndexOutOfBoundsException, rfl⟩, fun q9 => ?_⟩) (Or.inr ⟨⟨[_], _, [], "java/lang/IllegalArgumentException", rfl, (fun z h => by rcases List.mem_cons.mp h with rfl | h <;> first | exact ⟨by decide, rfl, cl_L_19⟩ | cases h), by decide, by decide, cl_L_21, ca_IllegalArgumentException, rfl⟩, fun q9 => ?_⟩) (fun z g => ?_)
  · refine aw_astore (q := 18) (lv' := [(5, .ref q9), (0, .ref (r 0)), (1, .int p0), (2, .int p1), (3, .int p2), (4, .ref o)]) gdL_few_13.2.1 rfl (by decide) rfl ?_
    refine aw_iconst (q := 19) (v := 1) gdL_few_13.2.2.1 rfl (by decide) ?_
    exact aw_ireturn [1, 2, 3, 4, 5, 6, 7, 8, 9, 10, 11, 12, 13, 14, 15, 16, 17, 18, 19, 20, 21, 22, 23, 24, 25, 26, 27, 0] gdL_few_13.2.2.2.1 rfl rfl rfl rfl (PN.mk (fun _ => 0) rfl rfl)
  · refine aw_astore (q := 22) (lv' := [(5, .ref q9), (0, .ref (r 0)), (1, .int p0), (2, .int p1), (3, .int p2), (4, .ref o)]) gdL_few_13.2.2.2.2.1 rfl (by decide) rfl ?_
    refine aw_iconst (q := 23) (v := 2) gdL_few_13.2.2.2.2.2.1 rfl (by decide) ?_
    exact aw_ireturn [1, 2, 3, 4, 5, 6, 7, 8, 9, 10, 11, 12, 13, 14, 15, 16, 17, 18, 19, 20, 21, 22, 23, 24, 25, 26, 27, 0] gdL_few_13.2.2.2.2.2.2.1 rfl rfl rfl rfl (PN.mk (fun _ => 0) rfl rfl)
  refine aw_i2l (q := 10) gdL_few_0.2.2.2.2.2.2.1 rfl ?_
  refine aw_putN (q := 13) (ws' := [OC o z.1.toInt64 sv] ++ WX r z.2) gdL_few_0.2.2.2.2.2.2.2 rfl fn_L_13 0 rfl rfl rfl (Nat.le_of_ble_eq_true rfl) rfl ?_
  refine aw_goto (tgt := 24) gdL_few_13.1 (by decide) ?_
  refine aw_iconst (q := 25) (v := 0) gdL_few_13.2.2.2.2.2.2.2 rfl (by decide) ?_
  exact aw_ireturn [1, 2, 3, 4, 5, 6, 7, 8, 9, 10, 11, 12, 13, 14, 15, 16, 17, 18, 19, 20, 21, 22, 23, 24, 25, 26, 27, 0] dL_few_25 rfl rfl rfl rfl (PN.mk g rfl rfl)
def gL_surplus (N K : Nat) (S : CS) (p0 : Int32) (p1 : Int32) (nv : Int64) : Option (Int32 × CS × Int64) := wb (gX_surplus N K S p0 p1) (fun z => some ((0 : Int32), z.2, z.1.toInt64)) (some ((1 : Int32), S, nv)) (some ((2 : Int32), S, nv))
set_option maxHeartbeats 4000000 in
set_option maxRecDepth 100000 in
theorem ogL_surplus {N K : Nat} {r : Nat → Nat} {o : Nat} {S : CS} {nv : Int64} {sv : Value} {p0 : Int32} {p1 : Int32} {x : Int32 × CS × Int64} (hE : gL_surplus N K S p0 p1 nv = some x) : OkM yL_surplus (.codeWith yL_surplus cL_surplus 5 (some .int) [(0, 11, 14, 19), (0, 11, 18, 21)]) (2 * K + 10) 2 12 [.ref (r 0), .int p0, .int p1, .ref o] (WX r S ++ [OC o nv sv]) ((PN (U := Int32 × CS × Int64) (fun z _ => some (.int z.1)) (fun z g => WX r z.2.1 ++ [OC o z.2.2 sv])) x) := by
  refine ok_ofH (by decide) (Nat.le_of_ble_eq_true rfl) hE ?_
  refine aw_locals (lv' := [(0, .ref (r 0)), (1, .int p0), (2, .int p1), (3, .ref o)]) [0, 1, 2, 3] rfl ?_
  refine aw_aload_n (q := 1) gdL_surplus_0.1 rfl 3 rfl ?_
  refine aw_aload_n (q := 2) gdL_surplus_0.2.1 rfl 0 rfl ?_
  refine aw_iload_n (q := 3) gdL_surplus_0.2.2.1 rfl 1 rfl ?_
  refine aw_iload_n (q := 4) gdL_surplus_0.2.2.2.1 rfl 2 rfl ?_
  refine aw_callC (q := 7) (hp1 := 14) (hp2 := 18) (kc1 := 0) (ks1 := 0) (wc := WX r S) (wr := [OC o nv sv]) (st1 := fun z g => [.int z.1, .ref o]) (ws1 := fun z g => [OC o nv sv] ++ WX r z.2) (As := [.ref (r 0), .int p0, .int p1]) [0, 1, 2, 3, 4, 5, 6, 7, 8, 9, 10, 11, 12, 13, 14, 15, 16, 17, 18, 19, 20, 21, 22, 23, 24, 25, 26] [27] (fun _ => runV (q0 := 0) gdL_surplus_0.2.2.2.2.1 mi_X5_surplus im_X5_surplus se_X5_surplus ml_L_27 (by omega) rfl (Nat.le_of_ble_eq_true rfl) rfl rfl rfl rfl) (fun x9 h9 => ogX_surplus h9) rfl rfl rfl rfl rfl (by decide +kernel) (by omega) (by omega) (fun _ _ => rfl) (fun _ _ => rfl) (Or.inr ⟨⟨[], _, [_], "java/lang/IndexOutOfBoundsException", rfl, (fun z h => by cases h), by decide, by decide, cl_L_19, ca_IndexOutOfBoundsException, rfl⟩, fun q9 => ?_⟩) (Or.inr ⟨⟨[_], _, [], "java/lang/IllegalArgumentException", rfl, (fun z h => by rcases List.mem_cons.mp h with rfl | h <;> first | exact ⟨by decide, rfl, cl_L_19⟩ | cases h), by decide, by decide, cl_L_21, ca_IllegalArgumentException, rfl⟩, fun q9 => ?_⟩) (fun z g => ?_)
  · refine aw_astore (q := 16) (lv' := [(4, .ref q9), (0, .ref (r 0)), (1, .int p0), (2, .int p1), (3, .ref o)]) gdL_surplus_14.1 rfl (by decide) rfl ?_
    refine aw_iconst (q := 17) (v := 1) gdL_surplus_14.2.1 rfl (by decide) ?_
    exact aw_ireturn [1, 2, 3, 4, 5, 6, 7, 8, 9, 10, 11, 12, 13, 14, 15, 16, 17, 18, 19, 20, 21, 22, 23, 24, 25, 26, 27, 0] gdL_surplus_14.2.2.1 rfl rfl rfl rfl (PN.mk (fun _ => 0) rfl rfl)
  · refine aw_astore (q := 20) (lv' := [(4, .ref q9), (0, .ref (r 0)), (1, .int p0), (2, .int p1), (3, .ref o)]) gdL_surplus_14.2.2.2.1 rfl (by decide) rfl ?_
    refine aw_iconst (q := 21) (v := 2) gdL_surplus_14.2.2.2.2.1 rfl (by decide) ?_
    exact aw_ireturn [1, 2, 3, 4, 5, 6, 7, 8, 9, 10, 11, 12, 13, 14, 15, 16, 17, 18, 19, 20, 21, 22, 23, 24, 25, 26, 27, 0] gdL_surplus_14.2.2.2.2.2.1 rfl rfl rfl rfl (PN.mk (fun _ => 0) rfl rfl)
  refine aw_i2l (q := 8) gdL_surplus_0.2.2.2.2.2.1 rfl ?_
  refine aw_putN (q := 11) (ws' := [OC o z.1.toInt64 sv] ++ WX r z.2) gdL_surplus_0.2.2.2.2.2.2.1 rfl fn_L_13 0 rfl rfl rfl (Nat.le_of_ble_eq_true rfl) rfl ?_
  refine aw_goto (tgt := 22) gdL_surplus_0.2.2.2.2.2.2.2 (by decide) ?_
  refine aw_iconst (q := 23) (v := 0) gdL_surplus_14.2.2.2.2.2.2.1 rfl (by decide) ?_
  exact aw_ireturn [1, 2, 3, 4, 5, 6, 7, 8, 9, 10, 11, 12, 13, 14, 15, 16, 17, 18, 19, 20, 21, 22, 23, 24, 25, 26, 27, 0] gdL_surplus_14.2.2.2.2.2.2.2 rfl rfl rfl rfl (PN.mk g rfl rfl)
def gL_place (N K : Nat) (S : CS) (p0 : Int32) (p1 : Int32) (nv : Int64) : Option (Int32 × CS × Int64) := wb (gX_place N K S p0 p1) (fun z => some ((0 : Int32), z.2, z.1.toInt64)) (some ((1 : Int32), S, nv)) none
set_option maxHeartbeats 4000000 in
set_option maxRecDepth 100000 in
theorem ogL_place {N K : Nat} {r : Nat → Nat} {o : Nat} {S : CS} {nv : Int64} {sv : Value} {p0 : Int32} {p1 : Int32} {x : Int32 × CS × Int64} (hE : gL_place N K S p0 p1 nv = some x) : OkM yL_place (.codeWith yL_place cL_place 5 (some .int) [(0, 11, 14, 19)]) (2 * K + 10) 2 12 [.ref (r 0), .int p0, .int p1, .ref o] (WX r S ++ [OC o nv sv]) ((PN (U := Int32 × CS × Int64) (fun z _ => some (.int z.1)) (fun z g => WX r z.2.1 ++ [OC o z.2.2 sv])) x) := by
  refine ok_ofH (by decide) (Nat.le_of_ble_eq_true rfl) hE ?_
  refine aw_locals (lv' := [(0, .ref (r 0)), (1, .int p0), (2, .int p1), (3, .ref o)]) [0, 1, 2, 3] rfl ?_
  refine aw_aload_n (q := 1) gdL_place_0.1 rfl 3 rfl ?_
  refine aw_aload_n (q := 2) gdL_place_0.2.1 rfl 0 rfl ?_
  refine aw_iload_n (q := 3) gdL_place_0.2.2.1 rfl 1 rfl ?_
  refine aw_iload_n (q := 4) gdL_place_0.2.2.2.1 rfl 2 rfl ?_
  refine aw_callC (q := 7) (hp1 := 14) (hp2 := 0) (kc1 := 0) (ks1 := 0) (wc := WX r S) (wr := [OC o nv sv]) (st1 := fun z g => [.int z.1, .ref o]) (ws1 := fun z g => [OC o nv sv] ++ WX r z.2) (As := [.ref (r 0), .int p0, .int p1]) [0, 1, 2, 3, 4, 5, 6, 7, 8, 9, 10, 11, 12, 13, 14, 15, 16, 17, 18, 19, 20, 21, 22, 23, 24, 25, 26] [27] (fun _ => runV (q0 := 0) gdL_place_0.2.2.2.2.1 mi_X5_place im_X5_place se_X5_place ml_L_31 (by omega) rfl (Nat.le_of_ble_eq_true rfl) rfl rfl rfl rfl) (fun x9 h9 => ogX_place h9) rfl rfl rfl rfl rfl (by decide +kernel) (by omega) (by omega) (fun _ _ => rfl) (fun _ _ => rfl) (Or.inr ⟨⟨[], _, [], "java/lang/IndexOutOfBoundsException", rfl, (fun z h => by cases h), by decide, by decide, cl_L_19, ca_IndexOutOfBoundsException, rfl⟩, fun q9 => ?_⟩) (Or.inl rfl) (fun z g => ?_)
  · refine aw_astore (q := 16) (lv' := [(4, .ref q9), (0, .ref (r 0)), (1, .int p0), (2, .int p1), (3, .ref o)]) gdL_place_14.1 rfl (by decide) rfl ?_
    refine aw_iconst (q := 17) (v := 1) gdL_place_14.2.1 rfl (by decide) ?_
    exact aw_ireturn [1, 2, 3, 4, 5, 6, 7, 8, 9, 10, 11, 12, 13, 14, 15, 16, 17, 18, 19, 20, 21, 22, 23, 24, 25, 26, 27, 0] gdL_place_14.2.2.1 rfl rfl rfl rfl (PN.mk (fun _ => 0) rfl rfl)
  refine aw_i2l (q := 8) gdL_place_0.2.2.2.2.2.1 rfl ?_
  refine aw_putN (q := 11) (ws' := [OC o z.1.toInt64 sv] ++ WX r z.2) gdL_place_0.2.2.2.2.2.2.1 rfl fn_L_13 0 rfl rfl rfl (Nat.le_of_ble_eq_true rfl) rfl ?_
  refine aw_goto (tgt := 18) gdL_place_0.2.2.2.2.2.2.2 (by decide) ?_
  refine aw_iconst (q := 19) (v := 0) gdL_place_14.2.2.2.1 rfl (by decide) ?_
  exact aw_ireturn [1, 2, 3, 4, 5, 6, 7, 8, 9, 10, 11, 12, 13, 14, 15, 16, 17, 18, 19, 20, 21, 22, 23, 24, 25, 26, 27, 0] gdL_place_14.2.2.2.2 rfl rfl rfl rfl (PN.mk g rfl rfl)
def gL_learn (N K : Nat) (S : CS) (p0 : Int32) (p1 : Int32) (p2 : Int32) (p3 : Int32) (nv : Int64) : Option (Int32 × CS × Int64) := wb (gX_learn N K S p0 p1 p2 p3) (fun z => some ((0 : Int32), z.2, z.1.toInt64)) (some ((1 : Int32), S, nv)) (some ((2 : Int32), S, nv))
set_option maxHeartbeats 4000000 in
set_option maxRecDepth 100000 in
theorem ogL_learn {N K : Nat} {r : Nat → Nat} {o : Nat} {S : CS} {nv : Int64} {sv : Value} {p0 : Int32} {p1 : Int32} {p2 : Int32} {p3 : Int32} {x : Int32 × CS × Int64} (hE : gL_learn N K S p0 p1 p2 p3 nv = some x) : OkM yL_learn (.codeWith yL_learn cL_learn 7 (some .int) [(0, 15, 18, 19), (0, 15, 22, 21)]) (11) 4 24 [.ref (r 0), .int p0, .int p1, .int p2, .int p3, .ref o] (WX r S ++ [OC o nv sv]) ((PN (U := Int32 × CS × Int64) (fun z _ => some (.int z.1)) (fun z g => WX r z.2.1 ++ [OC o z.2.2 sv])) x) := by
  refine ok_ofH (by decide) (Nat.le_of_ble_eq_true rfl) hE ?_
  refine aw_locals (lv' := [(0, .ref (r 0)), (1, .int p0), (2, .int p1), (3, .int p2), (4, .int p3), (5, .ref o)]) [0, 1, 2, 3, 4, 5] rfl ?_
  refine aw_aload (q := 2) gdL_learn_0.1 rfl 5 rfl ?_
  refine aw_aload_n (q := 3) gdL_learn_0.2.1 rfl 0 rfl ?_
  refine aw_iload_n (q := 4) gdL_learn_0.2.2.1 rfl 1 rfl ?_
  refine aw_iload_n (q := 5) gdL_learn_0.2.2.2.1 rfl 2 rfl ?_
  refine aw_iload_n (q := 6) gdL_learn_0.2.2.2.2.1 rfl 3 rfl ?_
  refine aw_iload (q := 8) gdL_learn_0.2.2.2.2.2.1 rfl 4 rfl ?_
  refine aw_callC (q := 11) (hp1 := 18) (hp2 := 22) (kc1 := 0) (ks1 := 0) (wc := WX r S) (wr := [OC o nv sv]) (st1 := fun z g => [.int z.1, .ref o]) (ws1 := fun z g => [OC o nv sv] ++ WX r z.2) (As := [.ref (r 0), .int p0, .int p1, .int p2, .int p3]) [0, 1, 2, 3, 4, 5, 6, 7, 8, 9, 10, 11, 12, 13, 14, 15, 16, 17, 18, 19, 20, 21, 22, 23, 24, 25, 26] [27] (fun _ => runV (q0 := 0) gdL_learn_0.2.2.2.2.2.2.1 mi_X5_learn im_X5_learn se_X5_learn ml_L_34 (by omega) rfl (Nat.le_of_ble_eq_true rfl) rfl rfl rfl rfl) (fun x9 h9 => ogX_learn h9) rfl rfl rfl rfl rfl (by decide +kernel) (by omega) (by omega) (fun _ _ => rfl) (fun _ _ => rfl) (Or.inr ⟨⟨[], _, [_], "java/lang/IndexOutOfBoundsException", rfl, (fun z h => by cases h), by decide, by decide, cl_L_19, ca_IndexOutOfBoundsException, rfl⟩, fun q9 => ?_⟩) (Or.inr ⟨⟨[_], _, [], "java/lang/IllegalArgumentException", rfl, (fun z h => by rcases List.mem_cons.mp h with rfl | h <;> first | exact ⟨by decide, rfl, cl_L_19⟩ | cases h), by decide, by decide, cl_L_21, ca_IllegalArgumentException, rfl⟩, fun q9 => ?_⟩) (fun z g => ?_)
  · refine aw_astore (q := 20) (lv' := [(6, .ref q9), (0, .ref (r 0)), (1, .int p0), (2, .int p1), (3, .int p2), (4, .int p3), (5, .ref o)]) gdL_learn_12.2.2.1 rfl (by decide) rfl ?_
    refine aw_iconst (q := 21) (v := 1) gdL_learn_12.2.2.2.1 rfl (by decide) ?_
    exact aw_ireturn [1, 2, 3, 4, 5, 6, 7, 8, 9, 10, 11, 12, 13, 14, 15, 16, 17, 18, 19, 20, 21, 22, 23, 24, 25, 26, 27, 0] gdL_learn_12.2.2.2.2.1 rfl rfl rfl rfl (PN.mk (fun _ => 0) rfl rfl)
  · refine aw_astore (q := 24) (lv' := [(6, .ref q9), (0, .ref (r 0)), (1, .int p0), (2, .int p1), (3, .int p2), (4, .int p3), (5, .ref o)]) gdL_learn_12.2.2.2.2.2.1 rfl (by decide) rfl ?_
    refine aw_iconst (q := 25) (v := 2) gdL_learn_12.2.2.2.2.2.2.1 rfl (by decide) ?_
    exact aw_ireturn [1, 2, 3, 4, 5, 6, 7, 8, 9, 10, 11, 12, 13, 14, 15, 16, 17, 18, 19, 20, 21, 22, 23, 24, 25, 26, 27, 0] gdL_learn_12.2.2.2.2.2.2.2 rfl rfl rfl rfl (PN.mk (fun _ => 0) rfl rfl)
  refine aw_i2l (q := 12) gdL_learn_0.2.2.2.2.2.2.2 rfl ?_
  refine aw_putN (q := 15) (ws' := [OC o z.1.toInt64 sv] ++ WX r z.2) gdL_learn_12.1 rfl fn_L_13 0 rfl rfl rfl (Nat.le_of_ble_eq_true rfl) rfl ?_
  refine aw_goto (tgt := 26) gdL_learn_12.2.1 (by decide) ?_
  refine aw_iconst (q := 27) (v := 0) gdL_learn_26.1 rfl (by decide) ?_
  exact aw_ireturn [1, 2, 3, 4, 5, 6, 7, 8, 9, 10, 11, 12, 13, 14, 15, 16, 17, 18, 19, 20, 21, 22, 23, 24, 25, 26, 27, 0] gdL_learn_26.2 rfl rfl rfl rfl (PN.mk g rfl rfl)
def gL_relearn (N K : Nat) (S : CS) (p0 : Int32) (p1 : Int32) (p2 : Int32) (p3 : Int32) (nv : Int64) : Option (Int32 × CS × Int64) := wb (gX_relearn N K S p0 p1 p2 p3) (fun z => some ((0 : Int32), z.2, z.1.toInt64)) (some ((1 : Int32), S, nv)) (some ((2 : Int32), S, nv))
set_option maxHeartbeats 4000000 in
set_option maxRecDepth 100000 in
theorem ogL_relearn {N K : Nat} {r : Nat → Nat} {o : Nat} {S : CS} {nv : Int64} {sv : Value} {p0 : Int32} {p1 : Int32} {p2 : Int32} {p3 : Int32} {x : Int32 × CS × Int64} (hE : gL_relearn N K S p0 p1 p2 p3 nv = some x) : OkM yL_relearn (.codeWith yL_relearn cL_relearn 7 (some .int) [(0, 15, 18, 19), (0, 15, 22, 21)]) (11) 4 24 [.ref (r 0), .int p0, .int p1, .int p2, .int p3, .ref o] (WX r S ++ [OC o nv sv]) ((PN (U := Int32 × CS × Int64) (fun z _ => some (.int z.1)) (fun z g => WX r z.2.1 ++ [OC o z.2.2 sv])) x) := by
  refine ok_ofH (by decide) (Nat.le_of_ble_eq_true rfl) hE ?_
  refine aw_locals (lv' := [(0, .ref (r 0)), (1, .int p0), (2, .int p1), (3, .int p2), (4, .int p3), (5, .ref o)]) [0, 1, 2, 3, 4, 5] rfl ?_
  refine aw_aload (q := 2) gdL_relearn_0.1 rfl 5 rfl ?_
  refine aw_aload_n (q := 3) gdL_relearn_0.2.1 rfl 0 rfl ?_
  refine aw_iload_n (q := 4) gdL_relearn_0.2.2.1 rfl 1 rfl ?_
  refine aw_iload_n (q := 5) gdL_relearn_0.2.2.2.1 rfl 2 rfl ?_
  refine aw_iload_n (q := 6) gdL_relearn_0.2.2.2.2.1 rfl 3 rfl ?_
  refine aw_iload (q := 8) gdL_relearn_0.2.2.2.2.2.1 rfl 4 rfl ?_
  refine aw_callC (q := 11) (hp1 := 18) (hp2 := 22) (kc1 := 0) (ks1 := 0) (wc := WX r S) (wr := [OC o nv sv]) (st1 := fun z g => [.int z.1, .ref o]) (ws1 := fun z g => [OC o nv sv] ++ WX r z.2) (As := [.ref (r 0), .int p0, .int p1, .int p2, .int p3]) [0, 1, 2, 3, 4, 5, 6, 7, 8, 9, 10, 11, 12, 13, 14, 15, 16, 17, 18, 19, 20, 21, 22, 23, 24, 25, 26] [27] (fun _ => runV (q0 := 0) gdL_relearn_0.2.2.2.2.2.2.1 mi_X5_relearn im_X5_relearn se_X5_relearn ml_L_37 (by omega) rfl (Nat.le_of_ble_eq_true rfl) rfl rfl rfl rfl) (fun x9 h9 => ogX_relearn h9) rfl rfl rfl rfl rfl (by decide +kernel) (by omega) (by omega) (fun _ _ => rfl) (fun _ _ => rfl) (Or.inr ⟨⟨[], _, [_], "java/lang/IndexOutOfBoundsException", rfl, (fun z h => by cases h), by decide, by decide, cl_L_19, ca_IndexOutOfBoundsException, rfl⟩, fun q9 => ?_⟩) (Or.inr ⟨⟨[_], _, [], "java/lang/IllegalArgumentException", rfl, (fun z h => by rcases List.mem_cons.mp h with rfl | h <;> first | exact ⟨by decide, rfl, cl_L_19⟩ | cases h), by decide, by decide, cl_L_21, ca_IllegalArgumentException, rfl⟩, fun q9 => ?_⟩) (fun z g => ?_)
  · refine aw_astore (q := 20) (lv' := [(6, .ref q9), (0, .ref (r 0)), (1, .int p0), (2, .int p1), (3, .int p2), (4, .int p3), (5, .ref o)]) gdL_relearn_12.2.2.1 rfl (by decide) rfl ?_
    refine aw_iconst (q := 21) (v := 1) gdL_relearn_12.2.2.2.1 rfl (by decide) ?_
    exact aw_ireturn [1, 2, 3, 4, 5, 6, 7, 8, 9, 10, 11, 12, 13, 14, 15, 16, 17, 18, 19, 20, 21, 22, 23, 24, 25, 26, 27, 0] gdL_relearn_12.2.2.2.2.1 rfl rfl rfl rfl (PN.mk (fun _ => 0) rfl rfl)
  · refine aw_astore (q := 24) (lv' := [(6, .ref q9), (0, .ref (r 0)), (1, .int p0), (2, .int p1), (3, .int p2), (4, .int p3), (5, .ref o)]) gdL_relearn_12.2.2.2.2.2.1 rfl (by decide) rfl ?_
    refine aw_iconst (q := 25) (v := 2) gdL_relearn_12.2.2.2.2.2.2.1 rfl (by decide) ?_
    exact aw_ireturn [1, 2, 3, 4, 5, 6, 7, 8, 9, 10, 11, 12, 13, 14, 15, 16, 17, 18, 19, 20, 21, 22, 23, 24, 25, 26, 27, 0] gdL_relearn_12.2.2.2.2.2.2.2 rfl rfl rfl rfl (PN.mk (fun _ => 0) rfl rfl)
  refine aw_i2l (q := 12) gdL_relearn_0.2.2.2.2.2.2.2 rfl ?_
  refine aw_putN (q := 15) (ws' := [OC o z.1.toInt64 sv] ++ WX r z.2) gdL_relearn_12.1 rfl fn_L_13 0 rfl rfl rfl (Nat.le_of_ble_eq_true rfl) rfl ?_
  refine aw_goto (tgt := 26) gdL_relearn_12.2.1 (by decide) ?_
  refine aw_iconst (q := 27) (v := 0) gdL_relearn_26.1 rfl (by decide) ?_
  exact aw_ireturn [1, 2, 3, 4, 5, 6, 7, 8, 9, 10, 11, 12, 13, 14, 15, 16, 17, 18, 19, 20, 21, 22, 23, 24, 25, 26, 27, 0] gdL_relearn_26.2 rfl rfl rfl rfl (PN.mk g rfl rfl)
def gL_forget (N K : Nat) (S : CS) (p0 : Int32) (p1 : Int32) (p2 : Int32) (p3 : Int32) (nv : Int64) : Option (Int32 × CS × Int64) := wb (gX_forget N K S p0 p1 p2 p3) (fun z => some ((0 : Int32), z.2, z.1.toInt64)) (some ((1 : Int32), S, nv)) (some ((2 : Int32), S, nv))
set_option maxHeartbeats 4000000 in
set_option maxRecDepth 100000 in
theorem ogL_forget {N K : Nat} {r : Nat → Nat} {o : Nat} {S : CS} {nv : Int64} {sv : Value} {p0 : Int32} {p1 : Int32} {p2 : Int32} {p3 : Int32} {x : Int32 × CS × Int64} (hE : gL_forget N K S p0 p1 p2 p3 nv = some x) : OkM yL_forget (.codeWith yL_forget cL_forget 7 (some .int) [(0, 15, 18, 19), (0, 15, 22, 21)]) (11) 4 24 [.ref (r 0), .int p0, .int p1, .int p2, .int p3, .ref o] (WX r S ++ [OC o nv sv]) ((PN (U := Int32 × CS × Int64) (fun z _ => some (.int z.1)) (fun z g => WX r z.2.1 ++ [OC o z.2.2 sv])) x) := by
  refine ok_ofH (by decide) (Nat.le_of_ble_eq_true rfl) hE ?_
  refine aw_locals (lv' := [(0, .ref (r 0)), (1, .int p0), (2, .int p1), (3, .int p2), (4, .int p3), (5, .ref o)]) [0, 1, 2, 3, 4, 5] rfl ?_
  refine aw_aload (q := 2) gdL_forget_0.1 rfl 5 rfl ?_
  refine aw_aload_n (q := 3) gdL_forget_0.2.1 rfl 0 rfl ?_
  refine aw_iload_n (q := 4) gdL_forget_0.2.2.1 rfl 1 rfl ?_
  refine aw_iload_n (q := 5) gdL_forget_0.2.2.2.1 rfl 2 rfl ?_
  refine aw_iload_n (q := 6) gdL_forget_0.2.2.2.2.1 rfl 3 rfl ?_
  refine aw_iload (q := 8) gdL_forget_0.2.2.2.2.2.1 rfl 4 rfl ?_
  refine aw_callC (q := 11) (hp1 := 18) (hp2 := 22) (kc1 := 0) (ks1 := 0) (wc := WX r S) (wr := [OC o nv sv]) (st1 := fun z g => [.int z.1, .ref o]) (ws1 := fun z g => [OC o nv sv] ++ WX r z.2) (As := [.ref (r 0), .int p0, .int p1, .int p2, .int p3]) [0, 1, 2, 3, 4, 5, 6, 7, 8, 9, 10, 11, 12, 13, 14, 15, 16, 17, 18, 19, 20, 21, 22, 23, 24, 25, 26] [27] (fun _ => runV (q0 := 0) gdL_forget_0.2.2.2.2.2.2.1 mi_X5_forget im_X5_forget se_X5_forget ml_L_40 (by omega) rfl (Nat.le_of_ble_eq_true rfl) rfl rfl rfl rfl) (fun x9 h9 => ogX_forget h9) rfl rfl rfl rfl rfl (by decide +kernel) (by omega) (by omega) (fun _ _ => rfl) (fun _ _ => rfl) (Or.inr ⟨⟨[], _, [_], "java/lang/IndexOutOfBoundsException", rfl, (fun z h => by cases h), by decide, by decide, cl_L_19, ca_IndexOutOfBoundsException, rfl⟩, fun q9 => ?_⟩) (Or.inr ⟨⟨[_], _, [], "java/lang/IllegalArgumentException", rfl, (fun z h => by rcases List.mem_cons.mp h with rfl | h <;> first | exact ⟨by decide, rfl, cl_L_19⟩ | cases h), by decide, by decide, cl_L_21, ca_IllegalArgumentException, rfl⟩, fun q9 => ?_⟩) (fun z g => ?_)
  · refine aw_astore (q := 20) (lv' := [(6, .ref q9), (0, .ref (r 0)), (1, .int p0), (2, .int p1), (3, .int p2), (4, .int p3), (5, .ref o)]) gdL_forget_12.2.2.1 rfl (by decide) rfl ?_
    refine aw_iconst (q := 21) (v := 1) gdL_forget_12.2.2.2.1 rfl (by decide) ?_
    exact aw_ireturn [1, 2, 3, 4, 5, 6, 7, 8, 9, 10, 11, 12, 13, 14, 15, 16, 17, 18, 19, 20, 21, 22, 23, 24, 25, 26, 27, 0] gdL_forget_12.2.2.2.2.1 rfl rfl rfl rfl (PN.mk (fun _ => 0) rfl rfl)
  · refine aw_astore (q := 24) (lv' := [(6, .ref q9), (0, .ref (r 0)), (1, .int p0), (2, .int p1), (3, .int p2), (4, .int p3), (5, .ref o)]) gdL_forget_12.2.2.2.2.2.1 rfl (by decide) rfl ?_
    refine aw_iconst (q := 25) (v := 2) gdL_forget_12.2.2.2.2.2.2.1 rfl (by decide) ?_
    exact aw_ireturn [1, 2, 3, 4, 5, 6, 7, 8, 9, 10, 11, 12, 13, 14, 15, 16, 17, 18, 19, 20, 21, 22, 23, 24, 25, 26, 27, 0] gdL_forget_12.2.2.2.2.2.2.2 rfl rfl rfl rfl (PN.mk (fun _ => 0) rfl rfl)
  refine aw_i2l (q := 12) gdL_forget_0.2.2.2.2.2.2.2 rfl ?_
  refine aw_putN (q := 15) (ws' := [OC o z.1.toInt64 sv] ++ WX r z.2) gdL_forget_12.1 rfl fn_L_13 0 rfl rfl rfl (Nat.le_of_ble_eq_true rfl) rfl ?_
  refine aw_goto (tgt := 26) gdL_forget_12.2.1 (by decide) ?_
  refine aw_iconst (q := 27) (v := 0) gdL_forget_26.1 rfl (by decide) ?_
  exact aw_ireturn [1, 2, 3, 4, 5, 6, 7, 8, 9, 10, 11, 12, 13, 14, 15, 16, 17, 18, 19, 20, 21, 22, 23, 24, 25, 26, 27, 0] gdL_forget_26.2 rfl rfl rfl rfl (PN.mk g rfl rfl)
def gL_forgetIf (N K : Nat) (S : CS) (p0 : Int32) (p1 : Int32) (p2 : Int32) (p3 : Int32) (p4 : Int32) (nv : Int64) : Option (Int32 × CS × Int64) := wb (gX_forgetIf N K S p0 p1 p2 p3 p4) (fun z => some ((0 : Int32), z.2, z.1.toInt64)) (some ((1 : Int32), S, nv)) (some ((2 : Int32), S, nv))
set_option maxHeartbeats 4000000 in
set_option maxRecDepth 100000 in
theorem ogL_forgetIf {N K : Nat} {r : Nat → Nat} {o : Nat} {S : CS} {nv : Int64} {sv : Value} {p0 : Int32} {p1 : Int32} {p2 : Int32} {p3 : Int32} {p4 : Int32} {x : Int32 × CS × Int64} (hE : gL_forgetIf N K S p0 p1 p2 p3 p4 nv = some x) : OkM yL_forgetIf (.codeWith yL_forgetIf cL_forgetIf 8 (some .int) [(0, 17, 20, 19), (0, 17, 24, 21)]) (11) 4 24 [.ref (r 0), .int p0, .int p1, .int p2, .int p3, .int p4, .ref o] (WX r S ++ [OC o nv sv]) ((PN (U := Int32 × CS × Int64) (fun z _ => some (.int z.1)) (fun z g => WX r z.2.1 ++ [OC o z.2.2 sv])) x) := by
  refine ok_ofH (by decide) (Nat.le_of_ble_eq_true rfl) hE ?_
  refine aw_locals (lv' := [(0, .ref (r 0)), (1, .int p0), (2, .int p1), (3, .int p2), (4, .int p3), (5, .int p4), (6, .ref o)]) [0, 1, 2, 3, 4, 5, 6] rfl ?_
  refine aw_aload (q := 2) gdL_forgetIf_0.1 rfl 6 rfl ?_
  refine aw_aload_n (q := 3) gdL_forgetIf_0.2.1 rfl 0 rfl ?_
  refine aw_iload_n (q := 4) gdL_forgetIf_0.2.2.1 rfl 1 rfl ?_
  refine aw_iload_n (q := 5) gdL_forgetIf_0.2.2.2.1 rfl 2 rfl ?_
  refine aw_iload_n (q := 6) gdL_forgetIf_0.2.2.2.2.1 rfl 3 rfl ?_
  refine aw_iload (q := 8) gdL_forgetIf_0.2.2.2.2.2.1 rfl 4 rfl ?_
  refine aw_iload (q := 10) gdL_forgetIf_0.2.2.2.2.2.2.1 rfl 5 rfl ?_
  refine aw_callC (q := 13) (hp1 := 20) (hp2 := 24) (kc1 := 0) (ks1 := 0) (wc := WX r S) (wr := [OC o nv sv]) (st1 := fun z g => [.int z.1, .ref o]) (ws1 := fun z g => [OC o nv sv] ++ WX r z.2) (As := [.ref (r 0), .int p0, .int p1, .int p2, .int p3, .int p4]) [0, 1, 2, 3, 4, 5, 6, 7, 8, 9, 10, 11, 12, 13, 14, 15, 16, 17, 18, 19, 20, 21, 22, 23, 24, 25, 26] [27] (fun _ => runV (q0 := 0) gdL_forgetIf_0.2.2.2.2.2.2.2 mi_X5_forgetIf im_X5_forgetIf se_X5_forgetIf ml_L_43 (by omega) rfl (Nat.le_of_ble_eq_true rfl) rfl rfl rfl rfl) (fun x9 h9 => ogX_forgetIf h9) rfl rfl rfl rfl rfl (by decide +kernel) (by omega) (by omega) (fun _ _ => rfl) (fun _ _ => rfl) (Or.inr ⟨⟨[], _, [_], "java/lang/IndexOutOfBoundsException", rfl, (fun z h => by cases h), by decide, by decide, cl_L_19, ca_IndexOutOfBoundsException, rfl⟩, fun q9 => ?_⟩) (Or.inr ⟨⟨[_], _, [], "java/lang/IllegalArgumentException", rfl, (fun z h => by rcases List.mem_cons.mp h with rfl | h <;> first | exact ⟨by decide, rfl, cl_L_19⟩ | cases h), by decide, by decide, cl_L_21, ca_IllegalArgumentException, rfl⟩, fun q9 => ?_⟩) (fun z g => ?_)
  · refine aw_astore (q := 22) (lv' := [(7, .ref q9), (0, .ref (r 0)), (1, .int p0), (2, .int p1), (3, .int p2), (4, .int p3), (5, .int p4), (6, .ref o)]) gdL_forgetIf_13.2.2.2.1 rfl (by decide) rfl ?_
    refine aw_iconst (q := 23) (v := 1) gdL_forgetIf_13.2.2.2.2.1 rfl (by decide) ?_
    exact aw_ireturn [1, 2, 3, 4, 5, 6, 7, 8, 9, 10, 11, 12, 13, 14, 15, 16, 17, 18, 19, 20, 21, 22, 23, 24, 25, 26, 27, 0] gdL_forgetIf_13.2.2.2.2.2.1 rfl rfl rfl rfl (PN.mk (fun _ => 0) rfl rfl)
  · refine aw_astore (q := 26) (lv' := [(7, .ref q9), (0, .ref (r 0)), (1, .int p0), (2, .int p1), (3, .int p2), (4, .int p3), (5, .int p4), (6, .ref o)]) gdL_forgetIf_13.2.2.2.2.2.2.1 rfl (by decide) rfl ?_
    refine aw_iconst (q := 27) (v := 2) gdL_forgetIf_13.2.2.2.2.2.2.2 rfl (by decide) ?_
    exact aw_ireturn [1, 2, 3, 4, 5, 6, 7, 8, 9, 10, 11, 12, 13, 14, 15, 16, 17, 18, 19, 20, 21, 22, 23, 24, 25, 26, 27, 0] gdL_forgetIf_27.1 rfl rfl rfl rfl (PN.mk (fun _ => 0) rfl rfl)
  refine aw_i2l (q := 14) gdL_forgetIf_13.1 rfl ?_
  refine aw_putN (q := 17) (ws' := [OC o z.1.toInt64 sv] ++ WX r z.2) gdL_forgetIf_13.2.1 rfl fn_L_13 0 rfl rfl rfl (Nat.le_of_ble_eq_true rfl) rfl ?_
  refine aw_goto (tgt := 28) gdL_forgetIf_13.2.2.1 (by decide) ?_
  refine aw_iconst (q := 29) (v := 0) gdL_forgetIf_27.2.1 rfl (by decide) ?_
  exact aw_ireturn [1, 2, 3, 4, 5, 6, 7, 8, 9, 10, 11, 12, 13, 14, 15, 16, 17, 18, 19, 20, 21, 22, 23, 24, 25, 26, 27, 0] gdL_forgetIf_27.2.2 rfl rfl rfl rfl (PN.mk g rfl rfl)
def gL_forgetAll (N K : Nat) (S : CS) (p0 : Int32) (p1 : Int32) (p2 : Int32) (nv : Int64) : Option (Int32 × CS × Int64) := wb (gX_forgetAll N K S p0 p1 p2) (fun z => some ((0 : Int32), z.2, z.1.toInt64)) (some ((1 : Int32), S, nv)) (some ((2 : Int32), S, nv))
set_option maxHeartbeats 4000000 in
set_option maxRecDepth 100000 in
theorem ogL_forgetAll {N K : Nat} {r : Nat → Nat} {o : Nat} {S : CS} {nv : Int64} {sv : Value} {p0 : Int32} {p1 : Int32} {p2 : Int32} {x : Int32 × CS × Int64} (hE : gL_forgetAll N K S p0 p1 p2 nv = some x) : OkM yL_forgetAll (.codeWith yL_forgetAll cL_forgetAll 6 (some .int) [(0, 13, 16, 19), (0, 13, 20, 21)]) (10) 2 12 [.ref (r 0), .int p0, .int p1, .int p2, .ref o] (WX r S ++ [OC o nv sv]) ((PN (U := Int32 × CS × Int64) (fun z _ => some (.int z.1)) (fun z g => WX r z.2.1 ++ [OC o z.2.2 sv])) x) := by
  refine ok_ofH (by decide) (Nat.le_of_ble_eq_true rfl) hE ?_
  refine aw_locals (lv' := [(0, .ref (r 0)), (1, .int p0), (2, .int p1), (3, .int p2), (4, .ref o)]) [0, 1, 2, 3, 4] rfl ?_
  refine aw_aload (q := 2) gdL_forgetAll_0.1 rfl 4 rfl ?_
  refine aw_aload_n (q := 3) gdL_forgetAll_0.2.1 rfl 0 rfl ?_
  refine aw_iload_n (q := 4) gdL_forgetAll_0.2.2.1 rfl 1 rfl ?_
  refine aw_iload_n (q := 5) gdL_forgetAll_0.2.2.2.1 rfl 2 rfl ?_
  refine aw_iload_n (q := 6) gdL_forgetAll_0.2.2.2.2.1 rfl 3 rfl ?_
  refine aw_callC (q := 9) (hp1 := 16) (hp2 := 20) (kc1 := 0) (ks1 := 0) (wc := WX r S) (wr := [OC o nv sv]) (st1 := fun z g => [.int z.1, .ref o]) (ws1 := fun z g => [OC o nv sv] ++ WX r z.2) (As := [.ref (r 0), .int p0, .int p1, .int p2]) [0, 1, 2, 3, 4, 5, 6, 7, 8, 9, 10, 11, 12, 13, 14, 15, 16, 17, 18, 19, 20, 21, 22, 23, 24, 25, 26] [27] (fun _ => runV (q0 := 0) gdL_forgetAll_0.2.2.2.2.2.1 mi_X5_forgetAll im_X5_forgetAll se_X5_forgetAll ml_L_47 (by omega) rfl (Nat.le_of_ble_eq_true rfl) rfl rfl rfl rfl) (fun x9 h9 => ogX_forgetAll h9) rfl rfl rfl rfl rfl (by decide +kernel) (by omega) (by omega) (fun _ _ => rfl) (fun _ _ => rfl) (Or.inr ⟨⟨[], _, [_], "java/lang/IndexOutOfBoundsException", rfl, (fun z h => by cases h), by decide, by decide, cl_L_19, ca_IndexOutOfBoundsException, rfl⟩, fun q9 => ?_⟩) (Or.inr ⟨⟨[_], _, [], "java/lang/IllegalArgumentException", rfl, (fun z h => by rcases List.mem_cons.mp h with rfl | h <;> first | exact ⟨by decide, rfl, cl_L_19⟩ | cases h), by decide, by decide, cl_L_21, ca_IllegalArgumentException, rfl⟩, fun q9 => ?_⟩) (fun z g => ?_)
  · refine aw_astore (q := 18) (lv' := [(5, .ref q9), (0, .ref (r 0)), (1, .int p0), (2, .int p1), (3, .int p2), (4, .ref o)]) gdL_forgetAll_13.2.1 rfl (by decide) rfl ?_
    refine aw_iconst (q := 19) (v := 1) gdL_forgetAll_13.2.2.1 rfl (by decide) ?_
    exact aw_ireturn [1, 2, 3, 4, 5, 6, 7, 8, 9, 10, 11, 12, 13, 14, 15, 16, 17, 18, 19, 20, 21, 22, 23, 24, 25, 26, 27, 0] gdL_forgetAll_13.2.2.2.1 rfl rfl rfl rfl (PN.mk (fun _ => 0) rfl rfl)
  · refine aw_astore (q := 22) (lv' := [(5, .ref q9), (0, .ref (r 0)), (1, .int p0), (2, .int p1), (3, .int p2), (4, .ref o)]) gdL_forgetAll_13.2.2.2.2.1 rfl (by decide) rfl ?_
    refine aw_iconst (q := 23) (v := 2) gdL_forgetAll_13.2.2.2.2.2.1 rfl (by decide) ?_
    exact aw_ireturn [1, 2, 3, 4, 5, 6, 7, 8, 9, 10, 11, 12, 13, 14, 15, 16, 17, 18, 19, 20, 21, 22, 23, 24, 25, 26, 27, 0] gdL_forgetAll_13.2.2.2.2.2.2.1 rfl rfl rfl rfl (PN.mk (fun _ => 0) rfl rfl)
  refine aw_i2l (q := 10) gdL_forgetAll_0.2.2.2.2.2.2.1 rfl ?_
  refine aw_putN (q := 13) (ws' := [OC o z.1.toInt64 sv] ++ WX r z.2) gdL_forgetAll_0.2.2.2.2.2.2.2 rfl fn_L_13 0 rfl rfl rfl (Nat.le_of_ble_eq_true rfl) rfl ?_
  refine aw_goto (tgt := 24) gdL_forgetAll_13.1 (by decide) ?_
  refine aw_iconst (q := 25) (v := 0) gdL_forgetAll_13.2.2.2.2.2.2.2 rfl (by decide) ?_
  exact aw_ireturn [1, 2, 3, 4, 5, 6, 7, 8, 9, 10, 11, 12, 13, 14, 15, 16, 17, 18, 19, 20, 21, 22, 23, 24, 25, 26, 27, 0] dL_forgetAll_25 rfl rfl rfl rfl (PN.mk g rfl rfl)
def gL_clear (N K : Nat) (S : CS) (p0 : Int32) (nv : Int64) : Option (Int32 × CS × Int64) := wb (gX_clear N K S p0) (fun z => some ((0 : Int32), z.2, z.1.toInt64)) (some ((1 : Int32), S, nv)) none
set_option maxHeartbeats 4000000 in
set_option maxRecDepth 100000 in
theorem ogL_clear {N K : Nat} {r : Nat → Nat} {o : Nat} {S : CS} {nv : Int64} {sv : Value} {p0 : Int32} {x : Int32 × CS × Int64} (hE : gL_clear N K S p0 nv = some x) : OkM yL_clear (.codeWith yL_clear cL_clear 4 (some .int) [(0, 10, 13, 19)]) (10) 1 6 [.ref (r 0), .int p0, .ref o] (WX r S ++ [OC o nv sv]) ((PN (U := Int32 × CS × Int64) (fun z _ => some (.int z.1)) (fun z g => WX r z.2.1 ++ [OC o z.2.2 sv])) x) := by
  refine ok_ofH (by decide) (Nat.le_of_ble_eq_true rfl) hE ?_
  refine aw_locals (lv' := [(0, .ref (r 0)), (1, .int p0), (2, .ref o)]) [0, 1, 2] rfl ?_
  refine aw_aload_n (q := 1) gdL_clear_0.1 rfl 2 rfl ?_
  refine aw_aload_n (q := 2) gdL_clear_0.2.1 rfl 0 rfl ?_
  refine aw_iload_n (q := 3) gdL_clear_0.2.2.1 rfl 1 rfl ?_
  refine aw_callC (q := 6) (hp1 := 13) (hp2 := 0) (kc1 := 0) (ks1 := 0) (wc := WX r S) (wr := [OC o nv sv]) (st1 := fun z g => [.int z.1, .ref o]) (ws1 := fun z g => [OC o nv sv] ++ WX r z.2) (As := [.ref (r 0), .int p0]) [0, 1, 2, 3, 4, 5, 6, 7, 8, 9, 10, 11, 12, 13, 14, 15, 16, 17, 18, 19, 20, 21, 22, 23, 24, 25, 26] [27] (fun _ => runV (q0 := 0) gdL_clear_0.2.2.2.1 mi_X5_clear im_X5_clear se_X5_clear ml_L_50 (by omega) rfl (Nat.le_of_ble_eq_true rfl) rfl rfl rfl rfl) (fun x9 h9 => ogX_clear h9) rfl rfl rfl rfl rfl (by decide +kernel) (by omega) (by omega) (fun _ _ => rfl) (fun _ _ => rfl) (Or.inr ⟨⟨[], _, [], "java/lang/IndexOutOfBoundsException", rfl, (fun z h => by cases h), by decide, by decide, cl_L_19, ca_IndexOutOfBoundsException, rfl⟩, fun q9 => ?_⟩) (Or.inl rfl) (fun z g => ?_)
  · refine aw_astore_n (q := 14) (lv' := [(3, .ref q9), (0, .ref (r 0)), (1, .int p0), (2, .ref o)]) gdL_clear_0.2.2.2.2.2.2.2 rfl (by decide) rfl ?_
    refine aw_iconst (q := 15) (v := 1) gdL_clear_14.1 rfl (by decide) ?_
    exact aw_ireturn [1, 2, 3, 4, 5, 6, 7, 8, 9, 10, 11, 12, 13, 14, 15, 16, 17, 18, 19, 20, 21, 22, 23, 24, 25, 26, 27, 0] gdL_clear_14.2.1 rfl rfl rfl rfl (PN.mk (fun _ => 0) rfl rfl)
  refine aw_i2l (q := 7) gdL_clear_0.2.2.2.2.1 rfl ?_
  refine aw_putN (q := 10) (ws' := [OC o z.1.toInt64 sv] ++ WX r z.2) gdL_clear_0.2.2.2.2.2.1 rfl fn_L_13 0 rfl rfl rfl (Nat.le_of_ble_eq_true rfl) rfl ?_
  refine aw_goto (tgt := 16) gdL_clear_0.2.2.2.2.2.2.1 (by decide) ?_
  refine aw_iconst (q := 17) (v := 0) gdL_clear_14.2.2.1 rfl (by decide) ?_
  exact aw_ireturn [1, 2, 3, 4, 5, 6, 7, 8, 9, 10, 11, 12, 13, 14, 15, 16, 17, 18, 19, 20, 21, 22, 23, 24, 25, 26, 27, 0] gdL_clear_14.2.2.2 rfl rfl rfl rfl (PN.mk g rfl rfl)
def gL_copy (N K : Nat) (S : CS) (p0 : Int32) (p1 : Int32) (nv : Int64) : Option (Int32 × CS × Int64) := wb (gX_copy N K S p0 p1) (fun z => some ((0 : Int32), z.2, z.1.toInt64)) (some ((1 : Int32), S, nv)) none
set_option maxHeartbeats 4000000 in
set_option maxRecDepth 100000 in
theorem ogL_copy {N K : Nat} {r : Nat → Nat} {o : Nat} {S : CS} {nv : Int64} {sv : Value} {p0 : Int32} {p1 : Int32} {x : Int32 × CS × Int64} (hE : gL_copy N K S p0 p1 nv = some x) : OkM yL_copy (.codeWith yL_copy cL_copy 5 (some .int) [(0, 11, 14, 19)]) (10) 2 12 [.ref (r 0), .int p0, .int p1, .ref o] (WX r S ++ [OC o nv sv]) ((PN (U := Int32 × CS × Int64) (fun z _ => some (.int z.1)) (fun z g => WX r z.2.1 ++ [OC o z.2.2 sv])) x) := by
  refine ok_ofH (by decide) (Nat.le_of_ble_eq_true rfl) hE ?_
  refine aw_locals (lv' := [(0, .ref (r 0)), (1, .int p0), (2, .int p1), (3, .ref o)]) [0, 1, 2, 3] rfl ?_
  refine aw_aload_n (q := 1) gdL_copy_0.1 rfl 3 rfl ?_
  refine aw_aload_n (q := 2) gdL_copy_0.2.1 rfl 0 rfl ?_
  refine aw_iload_n (q := 3) gdL_copy_0.2.2.1 rfl 1 rfl ?_
  refine aw_iload_n (q := 4) gdL_copy_0.2.2.2.1 rfl 2 rfl ?_
  refine aw_callC (q := 7) (hp1 := 14) (hp2 := 0) (kc1 := 0) (ks1 := 0) (wc := WX r S) (wr := [OC o nv sv]) (st1 := fun z g => [.int z.1, .ref o]) (ws1 := fun z g => [OC o nv sv] ++ WX r z.2) (As := [.ref (r 0), .int p0, .int p1]) [0, 1, 2, 3, 4, 5, 6, 7, 8, 9, 10, 11, 12, 13, 14, 15, 16, 17, 18, 19, 20, 21, 22, 23, 24, 25, 26] [27] (fun _ => runV (q0 := 0) gdL_copy_0.2.2.2.2.1 mi_X5_copy im_X5_copy se_X5_copy ml_L_54 (by omega) rfl (Nat.le_of_ble_eq_true rfl) rfl rfl rfl rfl) (fun x9 h9 => ogX_copy h9) rfl rfl rfl rfl rfl (by decide +kernel) (by omega) (by omega) (fun _ _ => rfl) (fun _ _ => rfl) (Or.inr ⟨⟨[], _, [], "java/lang/IndexOutOfBoundsException", rfl, (fun z h => by cases h), by decide, by decide, cl_L_19, ca_IndexOutOfBoundsException, rfl⟩, fun q9 => ?_⟩) (Or.inl rfl) (fun z g => ?_)
  · refine aw_astore (q := 16) (lv' := [(4, .ref q9), (0, .ref (r 0)), (1, .int p0), (2, .int p1), (3, .ref o)]) gdL_copy_14.1 rfl (by decide) rfl ?_
    refine aw_iconst (q := 17) (v := 1) gdL_copy_14.2.1 rfl (by decide) ?_
    exact aw_ireturn [1, 2, 3, 4, 5, 6, 7, 8, 9, 10, 11, 12, 13, 14, 15, 16, 17, 18, 19, 20, 21, 22, 23, 24, 25, 26, 27, 0] gdL_copy_14.2.2.1 rfl rfl rfl rfl (PN.mk (fun _ => 0) rfl rfl)
  refine aw_i2l (q := 8) gdL_copy_0.2.2.2.2.2.1 rfl ?_
  refine aw_putN (q := 11) (ws' := [OC o z.1.toInt64 sv] ++ WX r z.2) gdL_copy_0.2.2.2.2.2.2.1 rfl fn_L_13 0 rfl rfl rfl (Nat.le_of_ble_eq_true rfl) rfl ?_
  refine aw_goto (tgt := 18) gdL_copy_0.2.2.2.2.2.2.2 (by decide) ?_
  refine aw_iconst (q := 19) (v := 0) gdL_copy_14.2.2.2.1 rfl (by decide) ?_
  exact aw_ireturn [1, 2, 3, 4, 5, 6, 7, 8, 9, 10, 11, 12, 13, 14, 15, 16, 17, 18, 19, 20, 21, 22, 23, 24, 25, 26, 27, 0] gdL_copy_14.2.2.2.2 rfl rfl rfl rfl (PN.mk g rfl rfl)
def gL_pour (N K : Nat) (S : CS) (p0 : Int32) (p1 : Int32) (nv : Int64) : Option (Int32 × CS × Int64) := wb (gX_pour N K S p0 p1) (fun z => some ((0 : Int32), z.2, z.1.toInt64)) (some ((1 : Int32), S, nv)) none
set_option maxHeartbeats 4000000 in
set_option maxRecDepth 100000 in
theorem ogL_pour {N K : Nat} {r : Nat → Nat} {o : Nat} {S : CS} {nv : Int64} {sv : Value} {p0 : Int32} {p1 : Int32} {x : Int32 × CS × Int64} (hE : gL_pour N K S p0 p1 nv = some x) : OkM yL_pour (.codeWith yL_pour cL_pour 5 (some .int) [(0, 11, 14, 19)]) (10) 2 12 [.ref (r 0), .int p0, .int p1, .ref o] (WX r S ++ [OC o nv sv]) ((PN (U := Int32 × CS × Int64) (fun z _ => some (.int z.1)) (fun z g => WX r z.2.1 ++ [OC o z.2.2 sv])) x) := by
  refine ok_ofH (by decide) (Nat.le_of_ble_eq_true rfl) hE ?_
  refine aw_locals (lv' := [(0, .ref (r 0)), (1, .int p0), (2, .int p1), (3, .ref o)]) [0, 1, 2, 3] rfl ?_
  refine aw_aload_n (q := 1) gdL_pour_0.1 rfl 3 rfl ?_
  refine aw_aload_n (q := 2) gdL_pour_0.2.1 rfl 0 rfl ?_
  refine aw_iload_n (q := 3) gdL_pour_0.2.2.1 rfl 1 rfl ?_
  refine aw_iload_n (q := 4) gdL_pour_0.2.2.2.1 rfl 2 rfl ?_
  refine aw_callC (q := 7) (hp1 := 14) (hp2 := 0) (kc1 := 0) (ks1 := 0) (wc := WX r S) (wr := [OC o nv sv]) (st1 := fun z g => [.int z.1, .ref o]) (ws1 := fun z g => [OC o nv sv] ++ WX r z.2) (As := [.ref (r 0), .int p0, .int p1]) [0, 1, 2, 3, 4, 5, 6, 7, 8, 9, 10, 11, 12, 13, 14, 15, 16, 17, 18, 19, 20, 21, 22, 23, 24, 25, 26] [27] (fun _ => runV (q0 := 0) gdL_pour_0.2.2.2.2.1 mi_X5_pour im_X5_pour se_X5_pour ml_L_57 (by omega) rfl (Nat.le_of_ble_eq_true rfl) rfl rfl rfl rfl) (fun x9 h9 => ogX_pour h9) rfl rfl rfl rfl rfl (by decide +kernel) (by omega) (by omega) (fun _ _ => rfl) (fun _ _ => rfl) (Or.inr ⟨⟨[], _, [], "java/lang/IndexOutOfBoundsException", rfl, (fun z h => by cases h), by decide, by decide, cl_L_19, ca_IndexOutOfBoundsException, rfl⟩, fun q9 => ?_⟩) (Or.inl rfl) (fun z g => ?_)
  · refine aw_astore (q := 16) (lv' := [(4, .ref q9), (0, .ref (r 0)), (1, .int p0), (2, .int p1), (3, .ref o)]) gdL_pour_14.1 rfl (by decide) rfl ?_
    refine aw_iconst (q := 17) (v := 1) gdL_pour_14.2.1 rfl (by decide) ?_
    exact aw_ireturn [1, 2, 3, 4, 5, 6, 7, 8, 9, 10, 11, 12, 13, 14, 15, 16, 17, 18, 19, 20, 21, 22, 23, 24, 25, 26, 27, 0] gdL_pour_14.2.2.1 rfl rfl rfl rfl (PN.mk (fun _ => 0) rfl rfl)
  refine aw_i2l (q := 8) gdL_pour_0.2.2.2.2.2.1 rfl ?_
  refine aw_putN (q := 11) (ws' := [OC o z.1.toInt64 sv] ++ WX r z.2) gdL_pour_0.2.2.2.2.2.2.1 rfl fn_L_13 0 rfl rfl rfl (Nat.le_of_ble_eq_true rfl) rfl ?_
  refine aw_goto (tgt := 18) gdL_pour_0.2.2.2.2.2.2.2 (by decide) ?_
  refine aw_iconst (q := 19) (v := 0) gdL_pour_14.2.2.2.1 rfl (by decide) ?_
  exact aw_ireturn [1, 2, 3, 4, 5, 6, 7, 8, 9, 10, 11, 12, 13, 14, 15, 16, 17, 18, 19, 20, 21, 22, 23, 24, 25, 26, 27, 0] gdL_pour_14.2.2.2.2 rfl rfl rfl rfl (PN.mk g rfl rfl)
def gL_isKept (N K : Nat) (S : CS) (p0 : Int32) (p1 : Int32) (p2 : Int32) (p3 : Int32) (p4 : Int32) (nv : Int64) : Option (Int32 × CS × Int64) := wb (gX_isKept N K S p0 p1 p2 p3 p4) (fun z => (if z.1 = 0 then some ((0 : Int32), z.2, (0 : Int64)) else some ((0 : Int32), z.2, (1 : Int64)))) (some ((1 : Int32), S, nv)) (some ((2 : Int32), S, nv))
set_option maxHeartbeats 4000000 in
set_option maxRecDepth 100000 in
theorem ogL_isKept {N K : Nat} {r : Nat → Nat} {o : Nat} {S : CS} {nv : Int64} {sv : Value} {p0 : Int32} {p1 : Int32} {p2 : Int32} {p3 : Int32} {p4 : Int32} {x : Int32 × CS × Int64} (hE : gL_isKept N K S p0 p1 p2 p3 p4 nv = some x) : OkM yL_isKept (.codeWith yL_isKept cL_isKept 8 (some .int) [(0, 24, 27, 19), (0, 24, 31, 21)]) (11) 5 30 [.ref (r 0), .int p0, .int p1, .int p2, .int p3, .int p4, .ref o] (WX r S ++ [OC o nv sv]) ((PN (U := Int32 × CS × Int64) (fun z _ => some (.int z.1)) (fun z g => WX r z.2.1 ++ [OC o z.2.2 sv])) x) := by
  refine ok_ofH (by decide) (Nat.le_of_ble_eq_true rfl) hE ?_
  refine aw_locals (lv' := [(0, .ref (r 0)), (1, .int p0), (2, .int p1), (3, .int p2), (4, .int p3), (5, .int p4), (6, .ref o)]) [0, 1, 2, 3, 4, 5, 6] rfl ?_
  refine aw_aload (q := 2) gdL_isKept_0.1 rfl 6 rfl ?_
  refine aw_aload_n (q := 3) gdL_isKept_0.2.1 rfl 0 rfl ?_
  refine aw_iload_n (q := 4) gdL_isKept_0.2.2.1 rfl 1 rfl ?_
  refine aw_iload_n (q := 5) gdL_isKept_0.2.2.2.1 rfl 2 rfl ?_
  refine aw_iload_n (q := 6) gdL_isKept_0.2.2.2.2.1 rfl 3 rfl ?_
  refine aw_iload (q := 8) gdL_isKept_0.2.2.2.2.2.1 rfl 4 rfl ?_
  refine aw_iload (q := 10) gdL_isKept_0.2.2.2.2.2.2.1 rfl 5 rfl ?_
  refine aw_callC (q := 13) (hp1 := 27) (hp2 := 31) (kc1 := 0) (ks1 := 0) (wc := WX r S) (wr := [OC o nv sv]) (st1 := fun z g => [.int z.1, .ref o]) (ws1 := fun z g => [OC o nv sv] ++ WX r z.2) (As := [.ref (r 0), .int p0, .int p1, .int p2, .int p3, .int p4]) [0, 1, 2, 3, 4, 5, 6, 7, 8, 9, 10, 11, 12, 13, 14, 15, 16, 17, 18, 19, 20, 21, 22, 23, 24, 25, 26] [27] (fun _ => runV (q0 := 0) gdL_isKept_0.2.2.2.2.2.2.2 mi_X5_isKept im_X5_isKept se_X5_isKept ml_L_60 (by omega) rfl (Nat.le_of_ble_eq_true rfl) rfl rfl rfl rfl) (fun x9 h9 => ogX_isKept h9) rfl rfl rfl rfl rfl (by decide +kernel) (by omega) (by omega) (fun _ _ => rfl) (fun _ _ => rfl) (Or.inr ⟨⟨[], _, [_], "java/lang/IndexOutOfBoundsException", rfl, (fun z h => by cases h), by decide, by decide, cl_L_19, ca_IndexOutOfBoundsException, rfl⟩, fun q9 => ?_⟩) (Or.inr ⟨⟨[_], _, [], "java/lang/IllegalArgumentException", rfl, (fun z h => by rcases List.mem_cons.mp h with rfl | h <;> first | exact ⟨by decide, rfl, cl_L_19⟩ | cases h), by decide, by decide, cl_L_21, ca_IllegalArgumentException, rfl⟩, fun q9 => ?_⟩) (fun z g => ?_)
  · refine aw_astore (q := 29) (lv' := [(7, .ref q9), (0, .ref (r 0)), (1, .int p0), (2, .int p1), (3, .int p2), (4, .int p3), (5, .int p4), (6, .ref o)]) gdL_isKept_13.2.2.2.2.2.2.1 rfl (by decide) rfl ?_
    refine aw_iconst (q := 30) (v := 1) gdL_isKept_13.2.2.2.2.2.2.2 rfl (by decide) ?_
    exact aw_ireturn [1, 2, 3, 4, 5, 6, 7, 8, 9, 10, 11, 12, 13, 14, 15, 16, 17, 18, 19, 20, 21, 22, 23, 24, 25, 26, 27, 0] gdL_isKept_30.1 rfl rfl rfl rfl (PN.mk (fun _ => 0) rfl rfl)
  · refine aw_astore (q := 33) (lv' := [(7, .ref q9), (0, .ref (r 0)), (1, .int p0), (2, .int p1), (3, .int p2), (4, .int p3), (5, .int p4), (6, .ref o)]) gdL_isKept_30.2.1 rfl (by decide) rfl ?_
    refine aw_iconst (q := 34) (v := 2) gdL_isKept_30.2.2.1 rfl (by decide) ?_
    exact aw_ireturn [1, 2, 3, 4, 5, 6, 7, 8, 9, 10, 11, 12, 13, 14, 15, 16, 17, 18, 19, 20, 21, 22, 23, 24, 25, 26, 27, 0] gdL_isKept_30.2.2.2.1 rfl rfl rfl rfl (PN.mk (fun _ => 0) rfl rfl)
  refine aw_if_eq (tgt := 20) (q := 16) gdL_isKept_13.1 (by decide) rfl (fun h0 => ?_) (fun h0 => ?_)
  · refine aw_lconst (q := 21) (v := 0) gdL_isKept_13.2.2.2.1 rfl (by decide) ?_
    refine aw_putN (q := 24) (ws' := [OC o 0 sv] ++ WX r z.2) gdL_isKept_13.2.2.2.2.1 rfl fn_L_13 0 rfl rfl rfl (Nat.le_of_ble_eq_true rfl) rfl ?_
    refine aw_goto (tgt := 35) gdL_isKept_13.2.2.2.2.2.1 (by decide) ?_
    refine aw_iconst (q := 36) (v := 0) gdL_isKept_30.2.2.2.2.1 rfl (by decide) ?_
    exact aw_ireturn [1, 2, 3, 4, 5, 6, 7, 8, 9, 10, 11, 12, 13, 14, 15, 16, 17, 18, 19, 20, 21, 22, 23, 24, 25, 26, 27, 0] gdL_isKept_30.2.2.2.2.2 rfl rfl rfl rfl (PN.mk g rfl rfl)
  · refine aw_lconst (q := 17) (v := 1) gdL_isKept_13.2.1 rfl (by decide) ?_
    refine aw_goto (tgt := 21) gdL_isKept_13.2.2.1 (by decide) ?_
    refine aw_putN (q := 24) (ws' := [OC o 1 sv] ++ WX r z.2) gdL_isKept_13.2.2.2.2.1 rfl fn_L_13 0 rfl rfl rfl (Nat.le_of_ble_eq_true rfl) rfl ?_
    refine aw_goto (tgt := 35) gdL_isKept_13.2.2.2.2.2.1 (by decide) ?_
    refine aw_iconst (q := 36) (v := 0) gdL_isKept_30.2.2.2.2.1 rfl (by decide) ?_
    exact aw_ireturn [1, 2, 3, 4, 5, 6, 7, 8, 9, 10, 11, 12, 13, 14, 15, 16, 17, 18, 19, 20, 21, 22, 23, 24, 25, 26, 27, 0] gdL_isKept_30.2.2.2.2.2 rfl rfl rfl rfl (PN.mk g rfl rfl)
def gL_worthOr (N K : Nat) (S : CS) (p0 : Int32) (p1 : Int32) (p2 : Int32) (p3 : Int32) (p4 : Int32) (nv : Int64) : Option (Int32 × CS × Int64) := wb (gX_worthOr N K S p0 p1 p2 p3 p4) (fun z => some ((0 : Int32), z.2, z.1.toInt64)) (some ((1 : Int32), S, nv)) (some ((2 : Int32), S, nv))
set_option maxHeartbeats 4000000 in
set_option maxRecDepth 100000 in
theorem ogL_worthOr {N K : Nat} {r : Nat → Nat} {o : Nat} {S : CS} {nv : Int64} {sv : Value} {p0 : Int32} {p1 : Int32} {p2 : Int32} {p3 : Int32} {p4 : Int32} {x : Int32 × CS × Int64} (hE : gL_worthOr N K S p0 p1 p2 p3 p4 nv = some x) : OkM yL_worthOr (.codeWith yL_worthOr cL_worthOr 8 (some .int) [(0, 17, 20, 19), (0, 17, 24, 21)]) (11) 4 24 [.ref (r 0), .int p0, .int p1, .int p2, .int p3, .int p4, .ref o] (WX r S ++ [OC o nv sv]) ((PN (U := Int32 × CS × Int64) (fun z _ => some (.int z.1)) (fun z g => WX r z.2.1 ++ [OC o z.2.2 sv])) x) := by
  refine ok_ofH (by decide) (Nat.le_of_ble_eq_true rfl) hE ?_
  refine aw_locals (lv' := [(0, .ref (r 0)), (1, .int p0), (2, .int p1), (3, .int p2), (4, .int p3), (5, .int p4), (6, .ref o)]) [0, 1, 2, 3, 4, 5, 6] rfl ?_
  refine aw_aload (q := 2) gdL_worthOr_0.1 rfl 6 rfl ?_
  refine aw_aload_n (q := 3) gdL_worthOr_0.2.1 rfl 0 rfl ?_
  refine aw_iload_n (q := 4) gdL_worthOr_0.2.2.1 rfl 1 rfl ?_
  refine aw_iload_n (q := 5) gdL_worthOr_0.2.2.2.1 rfl 2 rfl ?_
  refine aw_iload_n (q := 6) gdL_worthOr_0.2.2.2.2.1 rfl 3 rfl ?_
  refine aw_iload (q := 8) gdL_worthOr_0.2.2.2.2.2.1 rfl 4 rfl ?_
  refine aw_iload (q := 10) gdL_worthOr_0.2.2.2.2.2.2.1 rfl 5 rfl ?_
  refine aw_callC (q := 13) (hp1 := 20) (hp2 := 24) (kc1 := 0) (ks1 := 0) (wc := WX r S) (wr := [OC o nv sv]) (st1 := fun z g => [.int z.1, .ref o]) (ws1 := fun z g => [OC o nv sv] ++ WX r z.2) (As := [.ref (r 0), .int p0, .int p1, .int p2, .int p3, .int p4]) [0, 1, 2, 3, 4, 5, 6, 7, 8, 9, 10, 11, 12, 13, 14, 15, 16, 17, 18, 19, 20, 21, 22, 23, 24, 25, 26] [27] (fun _ => runV (q0 := 0) gdL_worthOr_0.2.2.2.2.2.2.2 mi_X5_worthOr im_X5_worthOr se_X5_worthOr ml_L_64 (by omega) rfl (Nat.le_of_ble_eq_true rfl) rfl rfl rfl rfl) (fun x9 h9 => ogX_worthOr h9) rfl rfl rfl rfl rfl (by decide +kernel) (by omega) (by omega) (fun _ _ => rfl) (fun _ _ => rfl) (Or.inr ⟨⟨[], _, [_], "java/lang/IndexOutOfBoundsException", rfl, (fun z h => by cases h), by decide, by decide, cl_L_19, ca_IndexOutOfBoundsException, rfl⟩, fun q9 => ?_⟩) (Or.inr ⟨⟨[_], _, [], "java/lang/IllegalArgumentException", rfl, (fun z h => by rcases List.mem_cons.mp h with rfl | h <;> first | exact ⟨by decide, rfl, cl_L_19⟩ | cases h), by decide, by decide, cl_L_21, ca_IllegalArgumentException, rfl⟩, fun q9 => ?_⟩) (fun z g => ?_)
  · refine aw_astore (q := 22) (lv' := [(7, .ref q9), (0, .ref (r 0)), (1, .int p0), (2, .int p1), (3, .int p2), (4, .int p3), (5, .int p4), (6, .ref o)]) gdL_worthOr_13.2.2.2.1 rfl (by decide) rfl ?_
    refine aw_iconst (q := 23) (v := 1) gdL_worthOr_13.2.2.2.2.1 rfl (by decide) ?_
    exact aw_ireturn [1, 2, 3, 4, 5, 6, 7, 8, 9, 10, 11, 12, 13, 14, 15, 16, 17, 18, 19, 20, 21, 22, 23, 24, 25, 26, 27, 0] gdL_worthOr_13.2.2.2.2.2.1 rfl rfl rfl rfl (PN.mk (fun _ => 0) rfl rfl)
  · refine aw_astore (q := 26) (lv' := [(7, .ref q9), (0, .ref (r 0)), (1, .int p0), (2, .int p1), (3, .int p2), (4, .int p3), (5, .int p4), (6, .ref o)]) gdL_worthOr_13.2.2.2.2.2.2.1 rfl (by decide) rfl ?_
    refine aw_iconst (q := 27) (v := 2) gdL_worthOr_13.2.2.2.2.2.2.2 rfl (by decide) ?_
    exact aw_ireturn [1, 2, 3, 4, 5, 6, 7, 8, 9, 10, 11, 12, 13, 14, 15, 16, 17, 18, 19, 20, 21, 22, 23, 24, 25, 26, 27, 0] gdL_worthOr_27.1 rfl rfl rfl rfl (PN.mk (fun _ => 0) rfl rfl)
  refine aw_i2l (q := 14) gdL_worthOr_13.1 rfl ?_
  refine aw_putN (q := 17) (ws' := [OC o z.1.toInt64 sv] ++ WX r z.2) gdL_worthOr_13.2.1 rfl fn_L_13 0 rfl rfl rfl (Nat.le_of_ble_eq_true rfl) rfl ?_
  refine aw_goto (tgt := 28) gdL_worthOr_13.2.2.1 (by decide) ?_
  refine aw_iconst (q := 29) (v := 0) gdL_worthOr_27.2.1 rfl (by decide) ?_
  exact aw_ireturn [1, 2, 3, 4, 5, 6, 7, 8, 9, 10, 11, 12, 13, 14, 15, 16, 17, 18, 19, 20, 21, 22, 23, 24, 25, 26, 27, 0] gdL_worthOr_27.2.2 rfl rfl rfl rfl (PN.mk g rfl rfl)
def gL_confirm (N K : Nat) (S : CS) (p0 : Int32) (p1 : Int32) (p2 : Int32) (p3 : Int32) (p4 : Int32) (nv : Int64) : Option (Int32 × CS × Int64) := wb (gX_confirm N K S p0 p1 p2 p3 p4) (fun z => (if z.1 = 0 then some ((0 : Int32), z.2, (0 : Int64)) else some ((0 : Int32), z.2, (1 : Int64)))) (some ((1 : Int32), S, nv)) (some ((2 : Int32), S, nv))
set_option maxHeartbeats 4000000 in
set_option maxRecDepth 100000 in
theorem ogL_confirm {N K : Nat} {r : Nat → Nat} {o : Nat} {S : CS} {nv : Int64} {sv : Value} {p0 : Int32} {p1 : Int32} {p2 : Int32} {p3 : Int32} {p4 : Int32} {x : Int32 × CS × Int64} (hE : gL_confirm N K S p0 p1 p2 p3 p4 nv = some x) : OkM yL_confirm (.codeWith yL_confirm cL_confirm 8 (some .int) [(0, 24, 27, 19), (0, 24, 31, 21)]) (11) 4 24 [.ref (r 0), .int p0, .int p1, .int p2, .int p3, .int p4, .ref o] (WX r S ++ [OC o nv sv]) ((PN (U := Int32 × CS × Int64) (fun z _ => some (.int z.1)) (fun z g => WX r z.2.1 ++ [OC o z.2.2 sv])) x) := by
  refine ok_ofH (by decide) (Nat.le_of_ble_eq_true rfl) hE ?_
  refine aw_locals (lv' := [(0, .ref (r 0)), (1, .int p0), (2, .int p1), (3, .int p2), (4, .int p3), (5, .int p4), (6, .ref o)]) [0, 1, 2, 3, 4, 5, 6] rfl ?_
  refine aw_aload (q := 2) gdL_confirm_0.1 rfl 6 rfl ?_
  refine aw_aload_n (q := 3) gdL_confirm_0.2.1 rfl 0 rfl ?_
  refine aw_iload_n (q := 4) gdL_confirm_0.2.2.1 rfl 1 rfl ?_
  refine aw_iload_n (q := 5) gdL_confirm_0.2.2.2.1 rfl 2 rfl ?_
  refine aw_iload_n (q := 6) gdL_confirm_0.2.2.2.2.1 rfl 3 rfl ?_
  refine aw_iload (q := 8) gdL_confirm_0.2.2.2.2.2.1 rfl 4 rfl ?_
  refine aw_iload (q := 10) gdL_confirm_0.2.2.2.2.2.2.1 rfl 5 rfl ?_
  refine aw_callC (q := 13) (hp1 := 27) (hp2 := 31) (kc1 := 0) (ks1 := 0) (wc := WX r S) (wr := [OC o nv sv]) (st1 := fun z g => [.int z.1, .ref o]) (ws1 := fun z g => [OC o nv sv] ++ WX r z.2) (As := [.ref (r 0), .int p0, .int p1, .int p2, .int p3, .int p4]) [0, 1, 2, 3, 4, 5, 6, 7, 8, 9, 10, 11, 12, 13, 14, 15, 16, 17, 18, 19, 20, 21, 22, 23, 24, 25, 26] [27] (fun _ => runV (q0 := 0) gdL_confirm_0.2.2.2.2.2.2.2 mi_X5_confirm im_X5_confirm se_X5_confirm ml_L_67 (by omega) rfl (Nat.le_of_ble_eq_true rfl) rfl rfl rfl rfl) (fun x9 h9 => ogX_confirm h9) rfl rfl rfl rfl rfl (by decide +kernel) (by omega) (by omega) (fun _ _ => rfl) (fun _ _ => rfl) (Or.inr ⟨⟨[], _, [_], "java/lang/IndexOutOfBoundsException", rfl, (fun z h => by cases h), by decide, by decide, cl_L_19, ca_IndexOutOfBoundsException, rfl⟩, fun q9 => ?_⟩) (Or.inr ⟨⟨[_], _, [], "java/lang/IllegalArgumentException", rfl, (fun z h => by rcases List.mem_cons.mp h with rfl | h <;> first | exact ⟨by decide, rfl, cl_L_19⟩ | cases h), by decide, by decide, cl_L_21, ca_IllegalArgumentException, rfl⟩, fun q9 => ?_⟩) (fun z g => ?_)
  · refine aw_astore (q := 29) (lv' := [(7, .ref q9), (0, .ref (r 0)), (1, .int p0), (2, .int p1), (3, .int p2), (4, .int p3), (5, .int p4), (6, .ref o)]) gdL_confirm_13.2.2.2.2.2.2.1 rfl (by decide) rfl ?_
    refine aw_iconst (q := 30) (v := 1) gdL_confirm_13.2.2.2.2.2.2.2 rfl (by decide) ?_
    exact aw_ireturn [1, 2, 3, 4, 5, 6, 7, 8, 9, 10, 11, 12, 13, 14, 15, 16, 17, 18, 19, 20, 21, 22, 23, 24, 25, 26, 27, 0] gdL_confirm_30.1 rfl rfl rfl rfl (PN.mk (fun _ => 0) rfl rfl)
  · refine aw_astore (q := 33) (lv' := [(7, .ref q9), (0, .ref (r 0)), (1, .int p0), (2, .int p1), (3, .int p2), (4, .int p3), (5, .int p4), (6, .ref o)]) gdL_confirm_30.2.1 rfl (by decide) rfl ?_
    refine aw_iconst (q := 34) (v := 2) gdL_confirm_30.2.2.1 rfl (by decide) ?_
    exact aw_ireturn [1, 2, 3, 4, 5, 6, 7, 8, 9, 10, 11, 12, 13, 14, 15, 16, 17, 18, 19, 20, 21, 22, 23, 24, 25, 26, 27, 0] gdL_confirm_30.2.2.2.1 rfl rfl rfl rfl (PN.mk (fun _ => 0) rfl rfl)
  refine aw_if_eq (tgt := 20) (q := 16) gdL_confirm_13.1 (by decide) rfl (fun h0 => ?_) (fun h0 => ?_)
  · refine aw_lconst (q := 21) (v := 0) gdL_confirm_13.2.2.2.1 rfl (by decide) ?_
    refine aw_putN (q := 24) (ws' := [OC o 0 sv] ++ WX r z.2) gdL_confirm_13.2.2.2.2.1 rfl fn_L_13 0 rfl rfl rfl (Nat.le_of_ble_eq_true rfl) rfl ?_
    refine aw_goto (tgt := 35) gdL_confirm_13.2.2.2.2.2.1 (by decide) ?_
    refine aw_iconst (q := 36) (v := 0) gdL_confirm_30.2.2.2.2.1 rfl (by decide) ?_
    exact aw_ireturn [1, 2, 3, 4, 5, 6, 7, 8, 9, 10, 11, 12, 13, 14, 15, 16, 17, 18, 19, 20, 21, 22, 23, 24, 25, 26, 27, 0] gdL_confirm_30.2.2.2.2.2 rfl rfl rfl rfl (PN.mk g rfl rfl)
  · refine aw_lconst (q := 17) (v := 1) gdL_confirm_13.2.1 rfl (by decide) ?_
    refine aw_goto (tgt := 21) gdL_confirm_13.2.2.1 (by decide) ?_
    refine aw_putN (q := 24) (ws' := [OC o 1 sv] ++ WX r z.2) gdL_confirm_13.2.2.2.2.1 rfl fn_L_13 0 rfl rfl rfl (Nat.le_of_ble_eq_true rfl) rfl ?_
    refine aw_goto (tgt := 35) gdL_confirm_13.2.2.2.2.2.1 (by decide) ?_
    refine aw_iconst (q := 36) (v := 0) gdL_confirm_30.2.2.2.2.1 rfl (by decide) ?_
    exact aw_ireturn [1, 2, 3, 4, 5, 6, 7, 8, 9, 10, 11, 12, 13, 14, 15, 16, 17, 18, 19, 20, 21, 22, 23, 24, 25, 26, 27, 0] gdL_confirm_30.2.2.2.2.2 rfl rfl rfl rfl (PN.mk g rfl rfl)
def gL_about (N K : Nat) (S : CS) (p0 : Int32) (p1 : Int32) (nv : Int64) : Option (Int32 × CS × Int64) := wb (gX_about N K S p0 p1) (fun z => some ((0 : Int32), z.2, z.1.toInt64)) (some ((1 : Int32), S, nv)) (some ((2 : Int32), S, nv))
set_option maxHeartbeats 4000000 in
set_option maxRecDepth 100000 in
theorem ogL_about {N K : Nat} {r : Nat → Nat} {o : Nat} {S : CS} {nv : Int64} {sv : Value} {p0 : Int32} {p1 : Int32} {x : Int32 × CS × Int64} (hE : gL_about N K S p0 p1 nv = some x) : OkM yL_about (.codeWith yL_about cL_about 5 (some .int) [(0, 11, 14, 19), (0, 11, 18, 21)]) (10) 2 12 [.ref (r 0), .int p0, .int p1, .ref o] (WX r S ++ [OC o nv sv]) ((PN (U := Int32 × CS × Int64) (fun z _ => some (.int z.1)) (fun z g => WX r z.2.1 ++ [OC o z.2.2 sv])) x) := by
  refine ok_ofH (by decide) (Nat.le_of_ble_eq_true rfl) hE ?_
  refine aw_locals (lv' := [(0, .ref (r 0)), (1, .int p0), (2, .int p1), (3, .ref o)]) [0, 1, 2, 3] rfl ?_
  refine aw_aload_n (q := 1) gdL_about_0.1 rfl 3 rfl ?_
  refine aw_aload_n (q := 2) gdL_about_0.2.1 rfl 0 rfl ?_
  refine aw_iload_n (q := 3) gdL_about_0.2.2.1 rfl 1 rfl ?_
  refine aw_iload_n (q := 4) gdL_about_0.2.2.2.1 rfl 2 rfl ?_
  refine aw_callC (q := 7) (hp1 := 14) (hp2 := 18) (kc1 := 0) (ks1 := 0) (wc := WX r S) (wr := [OC o nv sv]) (st1 := fun z g => [.int z.1, .ref o]) (ws1 := fun z g => [OC o nv sv] ++ WX r z.2) (As := [.ref (r 0), .int p0, .int p1]) [0, 1, 2, 3, 4, 5, 6, 7, 8, 9, 10, 11, 12, 13, 14, 15, 16, 17, 18, 19, 20, 21, 22, 23, 24, 25, 26] [27] (fun _ => runV (q0 := 0) gdL_about_0.2.2.2.2.1 mi_X5_about im_X5_about se_X5_about ml_L_70 (by omega) rfl (Nat.le_of_ble_eq_true rfl) rfl rfl rfl rfl) (fun x9 h9 => ogX_about h9) rfl rfl rfl rfl rfl (by decide +kernel) (by omega) (by omega) (fun _ _ => rfl) (fun _ _ => rfl) (Or.inr ⟨⟨[], _, [_], "java/lang/IndexOutOfBoundsException", rfl, (fun z h => by cases h), by decide, by decide, cl_L_19, ca_IndexOutOfBoundsException, rfl⟩, fun q9 => ?_⟩) (Or.inr ⟨⟨[_], _, [], "java/lang/IllegalArgumentException", rfl, (fun z h => by rcases List.mem_cons.mp h with rfl | h <;> first | exact ⟨by decide, rfl, cl_L_19⟩ | cases h), by decide, by decide, cl_L_21, ca_IllegalArgumentException, rfl⟩, fun q9 => ?_⟩) (fun z g => ?_)
  · refine aw_astore (q := 16) (lv' := [(4, .ref q9), (0, .ref (r 0)), (1, .int p0), (2, .int p1), (3, .ref o)]) gdL_about_14.1 rfl (by decide) rfl ?_
    refine aw_iconst (q := 17) (v := 1) gdL_about_14.2.1 rfl (by decide) ?_
    exact aw_ireturn [1, 2, 3, 4, 5, 6, 7, 8, 9, 10, 11, 12, 13, 14, 15, 16, 17, 18, 19, 20, 21, 22, 23, 24, 25, 26, 27, 0] gdL_about_14.2.2.1 rfl rfl rfl rfl (PN.mk (fun _ => 0) rfl rfl)
  · refine aw_astore (q := 20) (lv' := [(4, .ref q9), (0, .ref (r 0)), (1, .int p0), (2, .int p1), (3, .ref o)]) gdL_about_14.2.2.2.1 rfl (by decide) rfl ?_
    refine aw_iconst (q := 21) (v := 2) gdL_about_14.2.2.2.2.1 rfl (by decide) ?_
    exact aw_ireturn [1, 2, 3, 4, 5, 6, 7, 8, 9, 10, 11, 12, 13, 14, 15, 16, 17, 18, 19, 20, 21, 22, 23, 24, 25, 26, 27, 0] gdL_about_14.2.2.2.2.2.1 rfl rfl rfl rfl (PN.mk (fun _ => 0) rfl rfl)
  refine aw_i2l (q := 8) gdL_about_0.2.2.2.2.2.1 rfl ?_
  refine aw_putN (q := 11) (ws' := [OC o z.1.toInt64 sv] ++ WX r z.2) gdL_about_0.2.2.2.2.2.2.1 rfl fn_L_13 0 rfl rfl rfl (Nat.le_of_ble_eq_true rfl) rfl ?_
  refine aw_goto (tgt := 22) gdL_about_0.2.2.2.2.2.2.2 (by decide) ?_
  refine aw_iconst (q := 23) (v := 0) gdL_about_14.2.2.2.2.2.2.1 rfl (by decide) ?_
  exact aw_ireturn [1, 2, 3, 4, 5, 6, 7, 8, 9, 10, 11, 12, 13, 14, 15, 16, 17, 18, 19, 20, 21, 22, 23, 24, 25, 26, 27, 0] gdL_about_14.2.2.2.2.2.2.2 rfl rfl rfl rfl (PN.mk g rfl rfl)
def gL_has (N K : Nat) (S : CS) (p0 : Int32) (p1 : Int32) (nv : Int64) : Option (Int32 × CS × Int64) := wb (gX_has N K S p0 p1) (fun z => (if z.1 = 0 then some ((0 : Int32), z.2, (0 : Int64)) else some ((0 : Int32), z.2, (1 : Int64)))) (some ((1 : Int32), S, nv)) none
set_option maxHeartbeats 4000000 in
set_option maxRecDepth 100000 in
theorem ogL_has {N K : Nat} {r : Nat → Nat} {o : Nat} {S : CS} {nv : Int64} {sv : Value} {p0 : Int32} {p1 : Int32} {x : Int32 × CS × Int64} (hE : gL_has N K S p0 p1 nv = some x) : OkM yL_has (.codeWith yL_has cL_has 5 (some .int) [(0, 18, 21, 19)]) (10) 1 6 [.ref (r 0), .int p0, .int p1, .ref o] (WX r S ++ [OC o nv sv]) ((PN (U := Int32 × CS × Int64) (fun z _ => some (.int z.1)) (fun z g => WX r z.2.1 ++ [OC o z.2.2 sv])) x) := by
  refine ok_ofH (by decide) (Nat.le_of_ble_eq_true rfl) hE ?_
  refine aw_locals (lv' := [(0, .ref (r 0)), (1, .int p0), (2, .int p1), (3, .ref o)]) [0, 1, 2, 3] rfl ?_
  refine aw_aload_n (q := 1) gdL_has_0.1 rfl 3 rfl ?_
  refine aw_aload_n (q := 2) gdL_has_0.2.1 rfl 0 rfl ?_
  refine aw_iload_n (q := 3) gdL_has_0.2.2.1 rfl 1 rfl ?_
  refine aw_iload_n (q := 4) gdL_has_0.2.2.2.1 rfl 2 rfl ?_
  refine aw_callC (q := 7) (hp1 := 21) (hp2 := 0) (kc1 := 0) (ks1 := 0) (wc := WX r S) (wr := [OC o nv sv]) (st1 := fun z g => [.int z.1, .ref o]) (ws1 := fun z g => [OC o nv sv] ++ WX r z.2) (As := [.ref (r 0), .int p0, .int p1]) [0, 1, 2, 3, 4, 5, 6, 7, 8, 9, 10, 11, 12, 13, 14, 15, 16, 17, 18, 19, 20, 21, 22, 23, 24, 25, 26] [27] (fun _ => runV (q0 := 0) gdL_has_0.2.2.2.2.1 mi_X5_has im_X5_has se_X5_has ml_L_73 (by omega) rfl (Nat.le_of_ble_eq_true rfl) rfl rfl rfl rfl) (fun x9 h9 => ogX_has h9) rfl rfl rfl rfl rfl (by decide +kernel) (by omega) (by omega) (fun _ _ => rfl) (fun _ _ => rfl) (Or.inr ⟨⟨[], _, [], "java/lang/IndexOutOfBoundsException", rfl, (fun z h => by cases h), by decide, by decide, cl_L_19, ca_IndexOutOfBoundsException, rfl⟩, fun q9 => ?_⟩) (Or.inl rfl) (fun z g => ?_)
  · refine aw_astore (q := 23) (lv' := [(4, .ref q9), (0, .ref (r 0)), (1, .int p0), (2, .int p1), (3, .ref o)]) gdL_has_14.2.2.2.1 rfl (by decide) rfl ?_
    refine aw_iconst (q := 24) (v := 1) gdL_has_14.2.2.2.2.1 rfl (by decide) ?_
    exact aw_ireturn [1, 2, 3, 4, 5, 6, 7, 8, 9, 10, 11, 12, 13, 14, 15, 16, 17, 18, 19, 20, 21, 22, 23, 24, 25, 26, 27, 0] gdL_has_14.2.2.2.2.2.1 rfl rfl rfl rfl (PN.mk (fun _ => 0) rfl rfl)
  refine aw_if_eq (tgt := 14) (q := 10) gdL_has_0.2.2.2.2.2.1 (by decide) rfl (fun h0 => ?_) (fun h0 => ?_)
  · refine aw_lconst (q := 15) (v := 0) gdL_has_14.1 rfl (by decide) ?_
    refine aw_putN (q := 18) (ws' := [OC o 0 sv] ++ WX r z.2) gdL_has_14.2.1 rfl fn_L_13 0 rfl rfl rfl (Nat.le_of_ble_eq_true rfl) rfl ?_
    refine aw_goto (tgt := 25) gdL_has_14.2.2.1 (by decide) ?_
    refine aw_iconst (q := 26) (v := 0) gdL_has_14.2.2.2.2.2.2.1 rfl (by decide) ?_
    exact aw_ireturn [1, 2, 3, 4, 5, 6, 7, 8, 9, 10, 11, 12, 13, 14, 15, 16, 17, 18, 19, 20, 21, 22, 23, 24, 25, 26, 27, 0] gdL_has_14.2.2.2.2.2.2.2 rfl rfl rfl rfl (PN.mk g rfl rfl)
  · refine aw_lconst (q := 11) (v := 1) gdL_has_0.2.2.2.2.2.2.1 rfl (by decide) ?_
    refine aw_goto (tgt := 15) gdL_has_0.2.2.2.2.2.2.2 (by decide) ?_
    refine aw_putN (q := 18) (ws' := [OC o 1 sv] ++ WX r z.2) gdL_has_14.2.1 rfl fn_L_13 0 rfl rfl rfl (Nat.le_of_ble_eq_true rfl) rfl ?_
    refine aw_goto (tgt := 25) gdL_has_14.2.2.1 (by decide) ?_
    refine aw_iconst (q := 26) (v := 0) gdL_has_14.2.2.2.2.2.2.1 rfl (by decide) ?_
    exact aw_ireturn [1, 2, 3, 4, 5, 6, 7, 8, 9, 10, 11, 12, 13, 14, 15, 16, 17, 18, 19, 20, 21, 22, 23, 24, 25, 26, 27, 0] gdL_has_14.2.2.2.2.2.2.2 rfl rfl rfl rfl (PN.mk g rfl rfl)
def gL_count (N K : Nat) (S : CS) (p0 : Int32) (p1 : Int32) (p2 : Int32) (nv : Int64) : Option (Int32 × CS × Int64) := wb (gX_count N K S p0 p1 p2) (fun z => some ((0 : Int32), z.2, z.1.toInt64)) (some ((1 : Int32), S, nv)) (some ((2 : Int32), S, nv))
set_option maxHeartbeats 4000000 in
set_option maxRecDepth 100000 in
theorem ogL_count {N K : Nat} {r : Nat → Nat} {o : Nat} {S : CS} {nv : Int64} {sv : Value} {p0 : Int32} {p1 : Int32} {p2 : Int32} {x : Int32 × CS × Int64} (hE : gL_count N K S p0 p1 p2 nv = some x) : OkM yL_count (.codeWith yL_count cL_count 6 (some .int) [(0, 13, 16, 19), (0, 13, 20, 21)]) (10) 2 12 [.ref (r 0), .int p0, .int p1, .int p2, .ref o] (WX r S ++ [OC o nv sv]) ((PN (U := Int32 × CS × Int64) (fun z _ => some (.int z.1)) (fun z g => WX r z.2.1 ++ [OC o z.2.2 sv])) x) := by
  refine ok_ofH (by decide) (Nat.le_of_ble_eq_true rfl) hE ?_
  refine aw_locals (lv' := [(0, .ref (r 0)), (1, .int p0), (2, .int p1), (3, .int p2), (4, .ref o)]) [0, 1, 2, 3, 4] rfl ?_
  refine aw_aload (q := 2) gdL_count_0.1 rfl 4 rfl ?_
  refine aw_aload_n (q := 3) gdL_count_0.2.1 rfl 0 rfl ?_
  refine aw_iload_n (q := 4) gdL_count_0.2.2.1 rfl 1 rfl ?_
  refine aw_iload_n (q := 5) gdL_count_0.2.2.2.1 rfl 2 rfl ?_
  refine aw_iload_n (q := 6) gdL_count_0.2.2.2.2.1 rfl 3 rfl ?_
  refine aw_callC (q := 9) (hp1 := 16) (hp2 := 20) (kc1 := 0) (ks1 := 0) (wc := WX r S) (wr := [OC o nv sv]) (st1 := fun z g => [.int z.1, .ref o]) (ws1 := fun z g => [OC o nv sv] ++ WX r z.2) (As := [.ref (r 0), .int p0, .int p1, .int p2]) [0, 1, 2, 3, 4, 5, 6, 7, 8, 9, 10, 11, 12, 13, 14, 15, 16, 17, 18, 19, 20, 21, 22, 23, 24, 25, 26] [27] (fun _ => runV (q0 := 0) gdL_count_0.2.2.2.2.2.1 mi_X5_count im_X5_count se_X5_count ml_L_77 (by omega) rfl (Nat.le_of_ble_eq_true rfl) rfl rfl rfl rfl) (fun x9 h9 => ogX_count h9) rfl rfl rfl rfl rfl (by decide +kernel) (by omega) (by omega) (fun _ _ => rfl) (fun _ _ => rfl) (Or.inr ⟨⟨[], _, [_], "java/lang/IndexOutOfBoundsException", rfl, (fun z h => by cases h), by decide, by decide, cl_L_19, ca_IndexOutOfBoundsException, rfl⟩, fun q9 => ?_⟩) (Or.inr ⟨⟨[_], _, [], "java/lang/IllegalArgumentException", rfl, (fun z h => by rcases List.mem_cons.mp h with rfl | h <;> first | exact ⟨by decide, rfl, cl_L_19⟩ | cases h), by decide, by decide, cl_L_21, ca_IllegalArgumentException, rfl⟩, fun q9 => ?_⟩) (fun z g => ?_)
  · refine aw_astore (q := 18) (lv' := [(5, .ref q9), (0, .ref (r 0)), (1, .int p0), (2, .int p1), (3, .int p2), (4, .ref o)]) gdL_count_13.2.1 rfl (by decide) rfl ?_
    refine aw_iconst (q := 19) (v := 1) gdL_count_13.2.2.1 rfl (by decide) ?_
    exact aw_ireturn [1, 2, 3, 4, 5, 6, 7, 8, 9, 10, 11, 12, 13, 14, 15, 16, 17, 18, 19, 20, 21, 22, 23, 24, 25, 26, 27, 0] gdL_count_13.2.2.2.1 rfl rfl rfl rfl (PN.mk (fun _ => 0) rfl rfl)
  · refine aw_astore (q := 22) (lv' := [(5, .ref q9), (0, .ref (r 0)), (1, .int p0), (2, .int p1), (3, .int p2), (4, .ref o)]) gdL_count_13.2.2.2.2.1 rfl (by decide) rfl ?_
    refine aw_iconst (q := 23) (v := 2) gdL_count_13.2.2.2.2.2.1 rfl (by decide) ?_
    exact aw_ireturn [1, 2, 3, 4, 5, 6, 7, 8, 9, 10, 11, 12, 13, 14, 15, 16, 17, 18, 19, 20, 21, 22, 23, 24, 25, 26, 27, 0] gdL_count_13.2.2.2.2.2.2.1 rfl rfl rfl rfl (PN.mk (fun _ => 0) rfl rfl)
  refine aw_i2l (q := 10) gdL_count_0.2.2.2.2.2.2.1 rfl ?_
  refine aw_putN (q := 13) (ws' := [OC o z.1.toInt64 sv] ++ WX r z.2) gdL_count_0.2.2.2.2.2.2.2 rfl fn_L_13 0 rfl rfl rfl (Nat.le_of_ble_eq_true rfl) rfl ?_
  refine aw_goto (tgt := 24) gdL_count_13.1 (by decide) ?_
  refine aw_iconst (q := 25) (v := 0) gdL_count_13.2.2.2.2.2.2.2 rfl (by decide) ?_
  exact aw_ireturn [1, 2, 3, 4, 5, 6, 7, 8, 9, 10, 11, 12, 13, 14, 15, 16, 17, 18, 19, 20, 21, 22, 23, 24, 25, 26, 27, 0] dL_count_25 rfl rfl rfl rfl (PN.mk g rfl rfl)
def gL_isSame (N K : Nat) (S : CS) (p0 : Int32) (p1 : Int32) (nv : Int64) : Option (Int32 × CS × Int64) := wb (gX_isSame N K S p0 p1) (fun z => (if z.1 = 0 then some ((0 : Int32), z.2, (0 : Int64)) else some ((0 : Int32), z.2, (1 : Int64)))) (some ((1 : Int32), S, nv)) none
set_option maxHeartbeats 4000000 in
set_option maxRecDepth 100000 in
theorem ogL_isSame {N K : Nat} {r : Nat → Nat} {o : Nat} {S : CS} {nv : Int64} {sv : Value} {p0 : Int32} {p1 : Int32} {x : Int32 × CS × Int64} (hE : gL_isSame N K S p0 p1 nv = some x) : OkM yL_isSame (.codeWith yL_isSame cL_isSame 5 (some .int) [(0, 18, 21, 19)]) (10) 2 12 [.ref (r 0), .int p0, .int p1, .ref o] (WX r S ++ [OC o nv sv]) ((PN (U := Int32 × CS × Int64) (fun z _ => some (.int z.1)) (fun z g => WX r z.2.1 ++ [OC o z.2.2 sv])) x) := by
  refine ok_ofH (by decide) (Nat.le_of_ble_eq_true rfl) hE ?_
  refine aw_locals (lv' := [(0, .ref (r 0)), (1, .int p0), (2, .int p1), (3, .ref o)]) [0, 1, 2, 3] rfl ?_
  refine aw_aload_n (q := 1) gdL_isSame_0.1 rfl 3 rfl ?_
  refine aw_aload_n (q := 2) gdL_isSame_0.2.1 rfl 0 rfl ?_
  refine aw_iload_n (q := 3) gdL_isSame_0.2.2.1 rfl 1 rfl ?_
  refine aw_iload_n (q := 4) gdL_isSame_0.2.2.2.1 rfl 2 rfl ?_
  refine aw_callC (q := 7) (hp1 := 21) (hp2 := 0) (kc1 := 0) (ks1 := 0) (wc := WX r S) (wr := [OC o nv sv]) (st1 := fun z g => [.int z.1, .ref o]) (ws1 := fun z g => [OC o nv sv] ++ WX r z.2) (As := [.ref (r 0), .int p0, .int p1]) [0, 1, 2, 3, 4, 5, 6, 7, 8, 9, 10, 11, 12, 13, 14, 15, 16, 17, 18, 19, 20, 21, 22, 23, 24, 25, 26] [27] (fun _ => runV (q0 := 0) gdL_isSame_0.2.2.2.2.1 mi_X5_isSame im_X5_isSame se_X5_isSame ml_L_80 (by omega) rfl (Nat.le_of_ble_eq_true rfl) rfl rfl rfl rfl) (fun x9 h9 => ogX_isSame h9) rfl rfl rfl rfl rfl (by decide +kernel) (by omega) (by omega) (fun _ _ => rfl) (fun _ _ => rfl) (Or.inr ⟨⟨[], _, [], "java/lang/IndexOutOfBoundsException", rfl, (fun z h => by cases h), by decide, by decide, cl_L_19, ca_IndexOutOfBoundsException, rfl⟩, fun q9 => ?_⟩) (Or.inl rfl) (fun z g => ?_)
  · refine aw_astore (q := 23) (lv' := [(4, .ref q9), (0, .ref (r 0)), (1, .int p0), (2, .int p1), (3, .ref o)]) gdL_isSame_14.2.2.2.1 rfl (by decide) rfl ?_
    refine aw_iconst (q := 24) (v := 1) gdL_isSame_14.2.2.2.2.1 rfl (by decide) ?_
    exact aw_ireturn [1, 2, 3, 4, 5, 6, 7, 8, 9, 10, 11, 12, 13, 14, 15, 16, 17, 18, 19, 20, 21, 22, 23, 24, 25, 26, 27, 0] gdL_isSame_14.2.2.2.2.2.1 rfl rfl rfl rfl (PN.mk (fun _ => 0) rfl rfl)
  refine aw_if_eq (tgt := 14) (q := 10) gdL_isSame_0.2.2.2.2.2.1 (by decide) rfl (fun h0 => ?_) (fun h0 => ?_)
  · refine aw_lconst (q := 15) (v := 0) gdL_isSame_14.1 rfl (by decide) ?_
    refine aw_putN (q := 18) (ws' := [OC o 0 sv] ++ WX r z.2) gdL_isSame_14.2.1 rfl fn_L_13 0 rfl rfl rfl (Nat.le_of_ble_eq_true rfl) rfl ?_
    refine aw_goto (tgt := 25) gdL_isSame_14.2.2.1 (by decide) ?_
    refine aw_iconst (q := 26) (v := 0) gdL_isSame_14.2.2.2.2.2.2.1 rfl (by decide) ?_
    exact aw_ireturn [1, 2, 3, 4, 5, 6, 7, 8, 9, 10, 11, 12, 13, 14, 15, 16, 17, 18, 19, 20, 21, 22, 23, 24, 25, 26, 27, 0] gdL_isSame_14.2.2.2.2.2.2.2 rfl rfl rfl rfl (PN.mk g rfl rfl)
  · refine aw_lconst (q := 11) (v := 1) gdL_isSame_0.2.2.2.2.2.2.1 rfl (by decide) ?_
    refine aw_goto (tgt := 15) gdL_isSame_0.2.2.2.2.2.2.2 (by decide) ?_
    refine aw_putN (q := 18) (ws' := [OC o 1 sv] ++ WX r z.2) gdL_isSame_14.2.1 rfl fn_L_13 0 rfl rfl rfl (Nat.le_of_ble_eq_true rfl) rfl ?_
    refine aw_goto (tgt := 25) gdL_isSame_14.2.2.1 (by decide) ?_
    refine aw_iconst (q := 26) (v := 0) gdL_isSame_14.2.2.2.2.2.2.1 rfl (by decide) ?_
    exact aw_ireturn [1, 2, 3, 4, 5, 6, 7, 8, 9, 10, 11, 12, 13, 14, 15, 16, 17, 18, 19, 20, 21, 22, 23, 24, 25, 26, 27, 0] gdL_isSame_14.2.2.2.2.2.2.2 rfl rfl rfl rfl (PN.mk g rfl rfl)
def gL_walk (N K : Nat) (S : CS) (p0 : Int32) (p1 : Int32) (p2 : Int32) (nv : Int64) : Option (Int32 × CS × Int64) := wb (gX_walk N K S p0 p1 p2) (fun z => some ((0 : Int32), z.2, z.1.toInt64)) none (some ((1 : Int32), S, nv))
set_option maxHeartbeats 4000000 in
set_option maxRecDepth 100000 in
theorem ogL_walk {N K : Nat} {r : Nat → Nat} {o : Nat} {S : CS} {nv : Int64} {sv : Value} {p0 : Int32} {p1 : Int32} {p2 : Int32} {x : Int32 × CS × Int64} (hE : gL_walk N K S p0 p1 p2 nv = some x) : OkM yL_walk (.codeWith yL_walk cL_walk 6 (some .int) [(0, 13, 16, 21)]) (11) 3 18 [.ref (r 0), .int p0, .int p1, .int p2, .ref o] (WX r S ++ [OC o nv sv]) ((PN (U := Int32 × CS × Int64) (fun z _ => some (.int z.1)) (fun z g => WX r z.2.1 ++ [OC o z.2.2 sv])) x) := by
  refine ok_ofH (by decide) (Nat.le_of_ble_eq_true rfl) hE ?_
  refine aw_locals (lv' := [(0, .ref (r 0)), (1, .int p0), (2, .int p1), (3, .int p2), (4, .ref o)]) [0, 1, 2, 3, 4] rfl ?_
  refine aw_aload (q := 2) gdL_walk_0.1 rfl 4 rfl ?_
  refine aw_aload_n (q := 3) gdL_walk_0.2.1 rfl 0 rfl ?_
  refine aw_iload_n (q := 4) gdL_walk_0.2.2.1 rfl 1 rfl ?_
  refine aw_iload_n (q := 5) gdL_walk_0.2.2.2.1 rfl 2 rfl ?_
  refine aw_iload_n (q := 6) gdL_walk_0.2.2.2.2.1 rfl 3 rfl ?_
  refine aw_callC (q := 9) (hp1 := 0) (hp2 := 16) (kc1 := 0) (ks1 := 0) (wc := WX r S) (wr := [OC o nv sv]) (st1 := fun z g => [.int z.1, .ref o]) (ws1 := fun z g => [OC o nv sv] ++ WX r z.2) (As := [.ref (r 0), .int p0, .int p1, .int p2]) [0, 1, 2, 3, 4, 5, 6, 7, 8, 9, 10, 11, 12, 13, 14, 15, 16, 17, 18, 19, 20, 21, 22, 23, 24, 25, 26] [27] (fun _ => runV (q0 := 0) gdL_walk_0.2.2.2.2.2.1 mi_X5_walk im_X5_walk se_X5_walk ml_L_83 (by omega) rfl (Nat.le_of_ble_eq_true rfl) rfl rfl rfl rfl) (fun x9 h9 => ogX_walk h9) rfl rfl rfl rfl rfl (by decide +kernel) (by omega) (by omega) (fun _ _ => rfl) (fun _ _ => rfl) (Or.inl rfl) (Or.inr ⟨⟨[], _, [], "java/lang/IllegalArgumentException", rfl, (fun z h => by cases h), by decide, by decide, cl_L_21, ca_IllegalArgumentException, rfl⟩, fun q9 => ?_⟩) (fun z g => ?_)
  · refine aw_astore (q := 18) (lv' := [(5, .ref q9), (0, .ref (r 0)), (1, .int p0), (2, .int p1), (3, .int p2), (4, .ref o)]) gdL_walk_13.2.1 rfl (by decide) rfl ?_
    refine aw_iconst (q := 19) (v := 1) gdL_walk_13.2.2.1 rfl (by decide) ?_
    exact aw_ireturn [1, 2, 3, 4, 5, 6, 7, 8, 9, 10, 11, 12, 13, 14, 15, 16, 17, 18, 19, 20, 21, 22, 23, 24, 25, 26, 27, 0] gdL_walk_13.2.2.2.1 rfl rfl rfl rfl (PN.mk (fun _ => 0) rfl rfl)
  refine aw_i2l (q := 10) gdL_walk_0.2.2.2.2.2.2.1 rfl ?_
  refine aw_putN (q := 13) (ws' := [OC o z.1.toInt64 sv] ++ WX r z.2) gdL_walk_0.2.2.2.2.2.2.2 rfl fn_L_13 0 rfl rfl rfl (Nat.le_of_ble_eq_true rfl) rfl ?_
  refine aw_goto (tgt := 20) gdL_walk_13.1 (by decide) ?_
  refine aw_iconst (q := 21) (v := 0) gdL_walk_13.2.2.2.2.1 rfl (by decide) ?_
  exact aw_ireturn [1, 2, 3, 4, 5, 6, 7, 8, 9, 10, 11, 12, 13, 14, 15, 16, 17, 18, 19, 20, 21, 22, 23, 24, 25, 26, 27, 0] gdL_walk_13.2.2.2.2.2 rfl rfl rfl rfl (PN.mk g rfl rfl)
def gL_product (N K : Nat) (S : CS) (p0 : Int32) (p1 : Int32) (p2 : Int32) (nv : Int64) : Option (Int32 × CS × Int64) := wb (gX_product N K S p0 p1 p2) (fun z => some ((0 : Int32), z.2, z.1.toInt64)) none (some ((1 : Int32), S, nv))
set_option maxHeartbeats 4000000 in
set_option maxRecDepth 100000 in
theorem ogL_product {N K : Nat} {r : Nat → Nat} {o : Nat} {S : CS} {nv : Int64} {sv : Value} {p0 : Int32} {p1 : Int32} {p2 : Int32} {x : Int32 × CS × Int64} (hE : gL_product N K S p0 p1 p2 nv = some x) : OkM yL_product (.codeWith yL_product cL_product 6 (some .int) [(0, 13, 16, 21)]) (11) 3 18 [.ref (r 0), .int p0, .int p1, .int p2, .ref o] (WX r S ++ [OC o nv sv]) ((PN (U := Int32 × CS × Int64) (fun z _ => some (.int z.1)) (fun z g => WX r z.2.1 ++ [OC o z.2.2 sv])) x) := by
  refine ok_ofH (by decide) (Nat.le_of_ble_eq_true rfl) hE ?_
  refine aw_locals (lv' := [(0, .ref (r 0)), (1, .int p0), (2, .int p1), (3, .int p2), (4, .ref o)]) [0, 1, 2, 3, 4] rfl ?_
  refine aw_aload (q := 2) gdL_product_0.1 rfl 4 rfl ?_
  refine aw_aload_n (q := 3) gdL_product_0.2.1 rfl 0 rfl ?_
  refine aw_iload_n (q := 4) gdL_product_0.2.2.1 rfl 1 rfl ?_
  refine aw_iload_n (q := 5) gdL_product_0.2.2.2.1 rfl 2 rfl ?_
  refine aw_iload_n (q := 6) gdL_product_0.2.2.2.2.1 rfl 3 rfl ?_
  refine aw_callC (q := 9) (hp1 := 0) (hp2 := 16) (kc1 := 0) (ks1 := 0) (wc := WX r S) (wr := [OC o nv sv]) (st1 := fun z g => [.int z.1, .ref o]) (ws1 := fun z g => [OC o nv sv] ++ WX r z.2) (As := [.ref (r 0), .int p0, .int p1, .int p2]) [0, 1, 2, 3, 4, 5, 6, 7, 8, 9, 10, 11, 12, 13, 14, 15, 16, 17, 18, 19, 20, 21, 22, 23, 24, 25, 26] [27] (fun _ => runV (q0 := 0) gdL_product_0.2.2.2.2.2.1 mi_X5_product im_X5_product se_X5_product ml_L_86 (by omega) rfl (Nat.le_of_ble_eq_true rfl) rfl rfl rfl rfl) (fun x9 h9 => ogX_product h9) rfl rfl rfl rfl rfl (by decide +kernel) (by omega) (by omega) (fun _ _ => rfl) (fun _ _ => rfl) (Or.inl rfl) (Or.inr ⟨⟨[], _, [], "java/lang/IllegalArgumentException", rfl, (fun z h => by cases h), by decide, by decide, cl_L_21, ca_IllegalArgumentException, rfl⟩, fun q9 => ?_⟩) (fun z g => ?_)
  · refine aw_astore (q := 18) (lv' := [(5, .ref q9), (0, .ref (r 0)), (1, .int p0), (2, .int p1), (3, .int p2), (4, .ref o)]) gdL_product_13.2.1 rfl (by decide) rfl ?_
    refine aw_iconst (q := 19) (v := 1) gdL_product_13.2.2.1 rfl (by decide) ?_
    exact aw_ireturn [1, 2, 3, 4, 5, 6, 7, 8, 9, 10, 11, 12, 13, 14, 15, 16, 17, 18, 19, 20, 21, 22, 23, 24, 25, 26, 27, 0] gdL_product_13.2.2.2.1 rfl rfl rfl rfl (PN.mk (fun _ => 0) rfl rfl)
  refine aw_i2l (q := 10) gdL_product_0.2.2.2.2.2.2.1 rfl ?_
  refine aw_putN (q := 13) (ws' := [OC o z.1.toInt64 sv] ++ WX r z.2) gdL_product_0.2.2.2.2.2.2.2 rfl fn_L_13 0 rfl rfl rfl (Nat.le_of_ble_eq_true rfl) rfl ?_
  refine aw_goto (tgt := 20) gdL_product_13.1 (by decide) ?_
  refine aw_iconst (q := 21) (v := 0) gdL_product_13.2.2.2.2.1 rfl (by decide) ?_
  exact aw_ireturn [1, 2, 3, 4, 5, 6, 7, 8, 9, 10, 11, 12, 13, 14, 15, 16, 17, 18, 19, 20, 21, 22, 23, 24, 25, 26, 27, 0] gdL_product_13.2.2.2.2.2 rfl rfl rfl rfl (PN.mk g rfl rfl)
def gL_rule (N K : Nat) (S : CS) (p0 : Int32) (p1 : Int32) (nv : Int64) : Option (Int32 × CS × Int64) := wb (gX_rule N K S p0 p1) (fun z => some ((0 : Int32), z.2, z.1.toInt64)) (some ((1 : Int32), S, nv)) (some ((2 : Int32), S, nv))
set_option maxHeartbeats 4000000 in
set_option maxRecDepth 100000 in
theorem ogL_rule {N K : Nat} {r : Nat → Nat} {o : Nat} {S : CS} {nv : Int64} {sv : Value} {p0 : Int32} {p1 : Int32} {x : Int32 × CS × Int64} (hE : gL_rule N K S p0 p1 nv = some x) : OkM yL_rule (.codeWith yL_rule cL_rule 5 (some .int) [(0, 11, 14, 19), (0, 11, 18, 21)]) (2 * K + 10) 2 12 [.ref (r 0), .int p0, .int p1, .ref o] (WX r S ++ [OC o nv sv]) ((PN (U := Int32 × CS × Int64) (fun z _ => some (.int z.1)) (fun z g => WX r z.2.1 ++ [OC o z.2.2 sv])) x) := by
  refine ok_ofH (by decide) (Nat.le_of_ble_eq_true rfl) hE ?_
  refine aw_locals (lv' := [(0, .ref (r 0)), (1, .int p0), (2, .int p1), (3, .ref o)]) [0, 1, 2, 3] rfl ?_
  refine aw_aload_n (q := 1) gdL_rule_0.1 rfl 3 rfl ?_
  refine aw_aload_n (q := 2) gdL_rule_0.2.1 rfl 0 rfl ?_
  refine aw_iload_n (q := 3) gdL_rule_0.2.2.1 rfl 1 rfl ?_
  refine aw_iload_n (q := 4) gdL_rule_0.2.2.2.1 rfl 2 rfl ?_
  refine aw_callC (q := 7) (hp1 := 14) (hp2 := 18) (kc1 := 0) (ks1 := 0) (wc := WX r S) (wr := [OC o nv sv]) (st1 := fun z g => [.int z.1, .ref o]) (ws1 := fun z g => [OC o nv sv] ++ WX r z.2) (As := [.ref (r 0), .int p0, .int p1]) [0, 1, 2, 3, 4, 5, 6, 7, 8, 9, 10, 11, 12, 13, 14, 15, 16, 17, 18, 19, 20, 21, 22, 23, 24, 25, 26] [27] (fun _ => runV (q0 := 0) gdL_rule_0.2.2.2.2.1 mi_X5_rule im_X5_rule se_X5_rule ml_L_89 (by omega) rfl (Nat.le_of_ble_eq_true rfl) rfl rfl rfl rfl) (fun x9 h9 => ogX_rule h9) rfl rfl rfl rfl rfl (by decide +kernel) (by omega) (by omega) (fun _ _ => rfl) (fun _ _ => rfl) (Or.inr ⟨⟨[], _, [_], "java/lang/IndexOutOfBoundsException", rfl, (fun z h => by cases h), by decide, by decide, cl_L_19, ca_IndexOutOfBoundsException, rfl⟩, fun q9 => ?_⟩) (Or.inr ⟨⟨[_], _, [], "java/lang/IllegalArgumentException", rfl, (fun z h => by rcases List.mem_cons.mp h with rfl | h <;> first | exact ⟨by decide, rfl, cl_L_19⟩ | cases h), by decide, by decide, cl_L_21, ca_IllegalArgumentException, rfl⟩, fun q9 => ?_⟩) (fun z g => ?_)
  · refine aw_astore (q := 16) (lv' := [(4, .ref q9), (0, .ref (r 0)), (1, .int p0), (2, .int p1), (3, .ref o)]) gdL_rule_14.1 rfl (by decide) rfl ?_
    refine aw_iconst (q := 17) (v := 1) gdL_rule_14.2.1 rfl (by decide) ?_
    exact aw_ireturn [1, 2, 3, 4, 5, 6, 7, 8, 9, 10, 11, 12, 13, 14, 15, 16, 17, 18, 19, 20, 21, 22, 23, 24, 25, 26, 27, 0] gdL_rule_14.2.2.1 rfl rfl rfl rfl (PN.mk (fun _ => 0) rfl rfl)
  · refine aw_astore (q := 20) (lv' := [(4, .ref q9), (0, .ref (r 0)), (1, .int p0), (2, .int p1), (3, .ref o)]) gdL_rule_14.2.2.2.1 rfl (by decide) rfl ?_
    refine aw_iconst (q := 21) (v := 2) gdL_rule_14.2.2.2.2.1 rfl (by decide) ?_
    exact aw_ireturn [1, 2, 3, 4, 5, 6, 7, 8, 9, 10, 11, 12, 13, 14, 15, 16, 17, 18, 19, 20, 21, 22, 23, 24, 25, 26, 27, 0] gdL_rule_14.2.2.2.2.2.1 rfl rfl rfl rfl (PN.mk (fun _ => 0) rfl rfl)
  refine aw_i2l (q := 8) gdL_rule_0.2.2.2.2.2.1 rfl ?_
  refine aw_putN (q := 11) (ws' := [OC o z.1.toInt64 sv] ++ WX r z.2) gdL_rule_0.2.2.2.2.2.2.1 rfl fn_L_13 0 rfl rfl rfl (Nat.le_of_ble_eq_true rfl) rfl ?_
  refine aw_goto (tgt := 22) gdL_rule_0.2.2.2.2.2.2.2 (by decide) ?_
  refine aw_iconst (q := 23) (v := 0) gdL_rule_14.2.2.2.2.2.2.1 rfl (by decide) ?_
  exact aw_ireturn [1, 2, 3, 4, 5, 6, 7, 8, 9, 10, 11, 12, 13, 14, 15, 16, 17, 18, 19, 20, 21, 22, 23, 24, 25, 26, 27, 0] gdL_rule_14.2.2.2.2.2.2.2 rfl rfl rfl rfl (PN.mk g rfl rfl)
def gL_forgetRule (N K : Nat) (S : CS) (p0 : Int32) (p1 : Int32) (nv : Int64) : Option (Int32 × CS × Int64) := wb (gX_forgetRule N K S p0 p1) (fun z => some ((0 : Int32), z.2, z.1.toInt64)) (some ((1 : Int32), S, nv)) (some ((2 : Int32), S, nv))
set_option maxHeartbeats 4000000 in
set_option maxRecDepth 100000 in
theorem ogL_forgetRule {N K : Nat} {r : Nat → Nat} {o : Nat} {S : CS} {nv : Int64} {sv : Value} {p0 : Int32} {p1 : Int32} {x : Int32 × CS × Int64} (hE : gL_forgetRule N K S p0 p1 nv = some x) : OkM yL_forgetRule (.codeWith yL_forgetRule cL_forgetRule 5 (some .int) [(0, 11, 14, 19), (0, 11, 18, 21)]) (10) 2 12 [.ref (r 0), .int p0, .int p1, .ref o] (WX r S ++ [OC o nv sv]) ((PN (U := Int32 × CS × Int64) (fun z _ => some (.int z.1)) (fun z g => WX r z.2.1 ++ [OC o z.2.2 sv])) x) := by
  refine ok_ofH (by decide) (Nat.le_of_ble_eq_true rfl) hE ?_
  refine aw_locals (lv' := [(0, .ref (r 0)), (1, .int p0), (2, .int p1), (3, .ref o)]) [0, 1, 2, 3] rfl ?_
  refine aw_aload_n (q := 1) gdL_forgetRule_0.1 rfl 3 rfl ?_
  refine aw_aload_n (q := 2) gdL_forgetRule_0.2.1 rfl 0 rfl ?_
  refine aw_iload_n (q := 3) gdL_forgetRule_0.2.2.1 rfl 1 rfl ?_
  refine aw_iload_n (q := 4) gdL_forgetRule_0.2.2.2.1 rfl 2 rfl ?_
  refine aw_callC (q := 7) (hp1 := 14) (hp2 := 18) (kc1 := 0) (ks1 := 0) (wc := WX r S) (wr := [OC o nv sv]) (st1 := fun z g => [.int z.1, .ref o]) (ws1 := fun z g => [OC o nv sv] ++ WX r z.2) (As := [.ref (r 0), .int p0, .int p1]) [0, 1, 2, 3, 4, 5, 6, 7, 8, 9, 10, 11, 12, 13, 14, 15, 16, 17, 18, 19, 20, 21, 22, 23, 24, 25, 26] [27] (fun _ => runV (q0 := 0) gdL_forgetRule_0.2.2.2.2.1 mi_X5_forgetRule im_X5_forgetRule se_X5_forgetRule ml_L_92 (by omega) rfl (Nat.le_of_ble_eq_true rfl) rfl rfl rfl rfl) (fun x9 h9 => ogX_forgetRule h9) rfl rfl rfl rfl rfl (by decide +kernel) (by omega) (by omega) (fun _ _ => rfl) (fun _ _ => rfl) (Or.inr ⟨⟨[], _, [_], "java/lang/IndexOutOfBoundsException", rfl, (fun z h => by cases h), by decide, by decide, cl_L_19, ca_IndexOutOfBoundsException, rfl⟩, fun q9 => ?_⟩) (Or.inr ⟨⟨[_], _, [], "java/lang/IllegalArgumentException", rfl, (fun z h => by rcases List.mem_cons.mp h with rfl | h <;> first | exact ⟨by decide, rfl, cl_L_19⟩ | cases h), by decide, by decide, cl_L_21, ca_IllegalArgumentException, rfl⟩, fun q9 => ?_⟩) (fun z g => ?_)
  · refine aw_astore (q := 16) (lv' := [(4, .ref q9), (0, .ref (r 0)), (1, .int p0), (2, .int p1), (3, .ref o)]) gdL_forgetRule_14.1 rfl (by decide) rfl ?_
    refine aw_iconst (q := 17) (v := 1) gdL_forgetRule_14.2.1 rfl (by decide) ?_
    exact aw_ireturn [1, 2, 3, 4, 5, 6, 7, 8, 9, 10, 11, 12, 13, 14, 15, 16, 17, 18, 19, 20, 21, 22, 23, 24, 25, 26, 27, 0] gdL_forgetRule_14.2.2.1 rfl rfl rfl rfl (PN.mk (fun _ => 0) rfl rfl)
  · refine aw_astore (q := 20) (lv' := [(4, .ref q9), (0, .ref (r 0)), (1, .int p0), (2, .int p1), (3, .ref o)]) gdL_forgetRule_14.2.2.2.1 rfl (by decide) rfl ?_
    refine aw_iconst (q := 21) (v := 2) gdL_forgetRule_14.2.2.2.2.1 rfl (by decide) ?_
    exact aw_ireturn [1, 2, 3, 4, 5, 6, 7, 8, 9, 10, 11, 12, 13, 14, 15, 16, 17, 18, 19, 20, 21, 22, 23, 24, 25, 26, 27, 0] gdL_forgetRule_14.2.2.2.2.2.1 rfl rfl rfl rfl (PN.mk (fun _ => 0) rfl rfl)
  refine aw_i2l (q := 8) gdL_forgetRule_0.2.2.2.2.2.1 rfl ?_
  refine aw_putN (q := 11) (ws' := [OC o z.1.toInt64 sv] ++ WX r z.2) gdL_forgetRule_0.2.2.2.2.2.2.1 rfl fn_L_13 0 rfl rfl rfl (Nat.le_of_ble_eq_true rfl) rfl ?_
  refine aw_goto (tgt := 22) gdL_forgetRule_0.2.2.2.2.2.2.2 (by decide) ?_
  refine aw_iconst (q := 23) (v := 0) gdL_forgetRule_14.2.2.2.2.2.2.1 rfl (by decide) ?_
  exact aw_ireturn [1, 2, 3, 4, 5, 6, 7, 8, 9, 10, 11, 12, 13, 14, 15, 16, 17, 18, 19, 20, 21, 22, 23, 24, 25, 26, 27, 0] gdL_forgetRule_14.2.2.2.2.2.2.2 rfl rfl rfl rfl (PN.mk g rfl rfl)
def gL_ledger (N K : Nat) (S : CS) (p0 : Int32) (p1 : Int32) (nv : Int64) : Option (Int32 × CS × Int64) := wb (gX_ledger N K S p0 p1) (fun z => some ((0 : Int32), z.2, z.1.toInt64)) (some ((1 : Int32), S, nv)) (some ((2 : Int32), S, nv))
set_option maxHeartbeats 4000000 in
set_option maxRecDepth 100000 in
theorem ogL_ledger {N K : Nat} {r : Nat → Nat} {o : Nat} {S : CS} {nv : Int64} {sv : Value} {p0 : Int32} {p1 : Int32} {x : Int32 × CS × Int64} (hE : gL_ledger N K S p0 p1 nv = some x) : OkM yL_ledger (.codeWith yL_ledger cL_ledger 5 (some .int) [(0, 11, 14, 19), (0, 11, 18, 21)]) (10) 2 12 [.ref (r 0), .int p0, .int p1, .ref o] (WX r S ++ [OC o nv sv]) ((PN (U := Int32 × CS × Int64) (fun z _ => some (.int z.1)) (fun z g => WX r z.2.1 ++ [OC o z.2.2 sv])) x) := by
  refine ok_ofH (by decide) (Nat.le_of_ble_eq_true rfl) hE ?_
  refine aw_locals (lv' := [(0, .ref (r 0)), (1, .int p0), (2, .int p1), (3, .ref o)]) [0, 1, 2, 3] rfl ?_
  refine aw_aload_n (q := 1) gdL_ledger_0.1 rfl 3 rfl ?_
  refine aw_aload_n (q := 2) gdL_ledger_0.2.1 rfl 0 rfl ?_
  refine aw_iload_n (q := 3) gdL_ledger_0.2.2.1 rfl 1 rfl ?_
  refine aw_iload_n (q := 4) gdL_ledger_0.2.2.2.1 rfl 2 rfl ?_
  refine aw_callC (q := 7) (hp1 := 14) (hp2 := 18) (kc1 := 0) (ks1 := 0) (wc := WX r S) (wr := [OC o nv sv]) (st1 := fun z g => [.int z.1, .ref o]) (ws1 := fun z g => [OC o nv sv] ++ WX r z.2) (As := [.ref (r 0), .int p0, .int p1]) [0, 1, 2, 3, 4, 5, 6, 7, 8, 9, 10, 11, 12, 13, 14, 15, 16, 17, 18, 19, 20, 21, 22, 23, 24, 25, 26] [27] (fun _ => runV (q0 := 0) gdL_ledger_0.2.2.2.2.1 mi_X5_ledger im_X5_ledger se_X5_ledger ml_L_95 (by omega) rfl (Nat.le_of_ble_eq_true rfl) rfl rfl rfl rfl) (fun x9 h9 => ogX_ledger h9) rfl rfl rfl rfl rfl (by decide +kernel) (by omega) (by omega) (fun _ _ => rfl) (fun _ _ => rfl) (Or.inr ⟨⟨[], _, [_], "java/lang/IndexOutOfBoundsException", rfl, (fun z h => by cases h), by decide, by decide, cl_L_19, ca_IndexOutOfBoundsException, rfl⟩, fun q9 => ?_⟩) (Or.inr ⟨⟨[_], _, [], "java/lang/IllegalArgumentException", rfl, (fun z h => by rcases List.mem_cons.mp h with rfl | h <;> first | exact ⟨by decide, rfl, cl_L_19⟩ | cases h), by decide, by decide, cl_L_21, ca_IllegalArgumentException, rfl⟩, fun q9 => ?_⟩) (fun z g => ?_)
  · refine aw_astore (q := 16) (lv' := [(4, .ref q9), (0, .ref (r 0)), (1, .int p0), (2, .int p1), (3, .ref o)]) gdL_ledger_14.1 rfl (by decide) rfl ?_
    refine aw_iconst (q := 17) (v := 1) gdL_ledger_14.2.1 rfl (by decide) ?_
    exact aw_ireturn [1, 2, 3, 4, 5, 6, 7, 8, 9, 10, 11, 12, 13, 14, 15, 16, 17, 18, 19, 20, 21, 22, 23, 24, 25, 26, 27, 0] gdL_ledger_14.2.2.1 rfl rfl rfl rfl (PN.mk (fun _ => 0) rfl rfl)
  · refine aw_astore (q := 20) (lv' := [(4, .ref q9), (0, .ref (r 0)), (1, .int p0), (2, .int p1), (3, .ref o)]) gdL_ledger_14.2.2.2.1 rfl (by decide) rfl ?_
    refine aw_iconst (q := 21) (v := 2) gdL_ledger_14.2.2.2.2.1 rfl (by decide) ?_
    exact aw_ireturn [1, 2, 3, 4, 5, 6, 7, 8, 9, 10, 11, 12, 13, 14, 15, 16, 17, 18, 19, 20, 21, 22, 23, 24, 25, 26, 27, 0] gdL_ledger_14.2.2.2.2.2.1 rfl rfl rfl rfl (PN.mk (fun _ => 0) rfl rfl)
  refine aw_i2l (q := 8) gdL_ledger_0.2.2.2.2.2.1 rfl ?_
  refine aw_putN (q := 11) (ws' := [OC o z.1.toInt64 sv] ++ WX r z.2) gdL_ledger_0.2.2.2.2.2.2.1 rfl fn_L_13 0 rfl rfl rfl (Nat.le_of_ble_eq_true rfl) rfl ?_
  refine aw_goto (tgt := 22) gdL_ledger_0.2.2.2.2.2.2.2 (by decide) ?_
  refine aw_iconst (q := 23) (v := 0) gdL_ledger_14.2.2.2.2.2.2.1 rfl (by decide) ?_
  exact aw_ireturn [1, 2, 3, 4, 5, 6, 7, 8, 9, 10, 11, 12, 13, 14, 15, 16, 17, 18, 19, 20, 21, 22, 23, 24, 25, 26, 27, 0] gdL_ledger_14.2.2.2.2.2.2.2 rfl rfl rfl rfl (PN.mk g rfl rfl)
def gL_ruleWorth (N K : Nat) (S : CS) (p0 : Int32) (p1 : Int32) (p2 : Int32) (nv : Int64) : Option (Int32 × CS × Int64) := wb (gX_ruleWorth N K S p0 p1 p2) (fun z => some ((0 : Int32), z.2, z.1.toInt64)) (some ((1 : Int32), S, nv)) (some ((2 : Int32), S, nv))
set_option maxHeartbeats 4000000 in
set_option maxRecDepth 100000 in
theorem ogL_ruleWorth {N K : Nat} {r : Nat → Nat} {o : Nat} {S : CS} {nv : Int64} {sv : Value} {p0 : Int32} {p1 : Int32} {p2 : Int32} {x : Int32 × CS × Int64} (hE : gL_ruleWorth N K S p0 p1 p2 nv = some x) : OkM yL_ruleWorth (.codeWith yL_ruleWorth cL_ruleWorth 6 (some .int) [(0, 13, 16, 19), (0, 13, 20, 21)]) (10) 3 18 [.ref (r 0), .int p0, .int p1, .int p2, .ref o] (WX r S ++ [OC o nv sv]) ((PN (U := Int32 × CS × Int64) (fun z _ => some (.int z.1)) (fun z g => WX r z.2.1 ++ [OC o z.2.2 sv])) x) := by
  refine ok_ofH (by decide) (Nat.le_of_ble_eq_true rfl) hE ?_
  refine aw_locals (lv' := [(0, .ref (r 0)), (1, .int p0), (2, .int p1), (3, .int p2), (4, .ref o)]) [0, 1, 2, 3, 4] rfl ?_
  refine aw_aload (q := 2) gdL_ruleWorth_0.1 rfl 4 rfl ?_
  refine aw_aload_n (q := 3) gdL_ruleWorth_0.2.1 rfl 0 rfl ?_
  refine aw_iload_n (q := 4) gdL_ruleWorth_0.2.2.1 rfl 1 rfl ?_
  refine aw_iload_n (q := 5) gdL_ruleWorth_0.2.2.2.1 rfl 2 rfl ?_
  refine aw_iload_n (q := 6) gdL_ruleWorth_0.2.2.2.2.1 rfl 3 rfl ?_
  refine aw_callC (q := 9) (hp1 := 16) (hp2 := 20) (kc1 := 0) (ks1 := 0) (wc := WX r S) (wr := [OC o nv sv]) (st1 := fun z g => [.int z.1, .ref o]) (ws1 := fun z g => [OC o nv sv] ++ WX r z.2) (As := [.ref (r 0), .int p0, .int p1, .int p2]) [0, 1, 2, 3, 4, 5, 6, 7, 8, 9, 10, 11, 12, 13, 14, 15, 16, 17, 18, 19, 20, 21, 22, 23, 24, 25, 26] [27] (fun _ => runV (q0 := 0) gdL_ruleWorth_0.2.2.2.2.2.1 mi_X5_ruleWorth im_X5_ruleWorth se_X5_ruleWorth ml_L_98 (by omega) rfl (Nat.le_of_ble_eq_true rfl) rfl rfl rfl rfl) (fun x9 h9 => ogX_ruleWorth h9) rfl rfl rfl rfl rfl (by decide +kernel) (by omega) (by omega) (fun _ _ => rfl) (fun _ _ => rfl) (Or.inr ⟨⟨[], _, [_], "java/lang/IndexOutOfBoundsException", rfl, (fun z h => by cases h), by decide, by decide, cl_L_19, ca_IndexOutOfBoundsException, rfl⟩, fun q9 => ?_⟩) (Or.inr ⟨⟨[_], _, [], "java/lang/IllegalArgumentException", rfl, (fun z h => by rcases List.mem_cons.mp h with rfl | h <;> first | exact ⟨by decide, rfl, cl_L_19⟩ | cases h), by decide, by decide, cl_L_21, ca_IllegalArgumentException, rfl⟩, fun q9 => ?_⟩) (fun z g => ?_)
  · refine aw_astore (q := 18) (lv' := [(5, .ref q9), (0, .ref (r 0)), (1, .int p0), (2, .int p1), (3, .int p2), (4, .ref o)]) gdL_ruleWorth_13.2.1 rfl (by decide) rfl ?_
    refine aw_iconst (q := 19) (v := 1) gdL_ruleWorth_13.2.2.1 rfl (by decide) ?_
    exact aw_ireturn [1, 2, 3, 4, 5, 6, 7, 8, 9, 10, 11, 12, 13, 14, 15, 16, 17, 18, 19, 20, 21, 22, 23, 24, 25, 26, 27, 0] gdL_ruleWorth_13.2.2.2.1 rfl rfl rfl rfl (PN.mk (fun _ => 0) rfl rfl)
  · refine aw_astore (q := 22) (lv' := [(5, .ref q9), (0, .ref (r 0)), (1, .int p0), (2, .int p1), (3, .int p2), (4, .ref o)]) gdL_ruleWorth_13.2.2.2.2.1 rfl (by decide) rfl ?_
    refine aw_iconst (q := 23) (v := 2) gdL_ruleWorth_13.2.2.2.2.2.1 rfl (by decide) ?_
    exact aw_ireturn [1, 2, 3, 4, 5, 6, 7, 8, 9, 10, 11, 12, 13, 14, 15, 16, 17, 18, 19, 20, 21, 22, 23, 24, 25, 26, 27, 0] gdL_ruleWorth_13.2.2.2.2.2.2.1 rfl rfl rfl rfl (PN.mk (fun _ => 0) rfl rfl)
  refine aw_i2l (q := 10) gdL_ruleWorth_0.2.2.2.2.2.2.1 rfl ?_
  refine aw_putN (q := 13) (ws' := [OC o z.1.toInt64 sv] ++ WX r z.2) gdL_ruleWorth_0.2.2.2.2.2.2.2 rfl fn_L_13 0 rfl rfl rfl (Nat.le_of_ble_eq_true rfl) rfl ?_
  refine aw_goto (tgt := 24) gdL_ruleWorth_13.1 (by decide) ?_
  refine aw_iconst (q := 25) (v := 0) gdL_ruleWorth_13.2.2.2.2.2.2.2 rfl (by decide) ?_
  exact aw_ireturn [1, 2, 3, 4, 5, 6, 7, 8, 9, 10, 11, 12, 13, 14, 15, 16, 17, 18, 19, 20, 21, 22, 23, 24, 25, 26, 27, 0] dL_ruleWorth_25 rfl rfl rfl rfl (PN.mk g rfl rfl)
def gL_addPart (N K : Nat) (S : CS) (p0 : Int32) (p1 : Int32) (p2 : Int32) (nv : Int64) : Option (Int32 × CS × Int64) := wb (gX_addPart N K S p0 p1 p2) (fun z => some ((0 : Int32), z.2, z.1.toInt64)) (some ((1 : Int32), S, nv)) (some ((2 : Int32), S, nv))
set_option maxHeartbeats 4000000 in
set_option maxRecDepth 100000 in
theorem ogL_addPart {N K : Nat} {r : Nat → Nat} {o : Nat} {S : CS} {nv : Int64} {sv : Value} {p0 : Int32} {p1 : Int32} {p2 : Int32} {x : Int32 × CS × Int64} (hE : gL_addPart N K S p0 p1 p2 nv = some x) : OkM yL_addPart (.codeWith yL_addPart cL_addPart 6 (some .int) [(0, 13, 16, 19), (0, 13, 20, 21)]) (10) 3 18 [.ref (r 0), .int p0, .int p1, .int p2, .ref o] (WX r S ++ [OC o nv sv]) ((PN (U := Int32 × CS × Int64) (fun z _ => some (.int z.1)) (fun z g => WX r z.2.1 ++ [OC o z.2.2 sv])) x) := by
  refine ok_ofH (by decide) (Nat.le_of_ble_eq_true rfl) hE ?_
  refine aw_locals (lv' := [(0, .ref (r 0)), (1, .int p0), (2, .int p1), (3, .int p2), (4, .ref o)]) [0, 1, 2, 3, 4] rfl ?_
  refine aw_aload (q := 2) gdL_addPart_0.1 rfl 4 rfl ?_
  refine aw_aload_n (q := 3) gdL_addPart_0.2.1 rfl 0 rfl ?_
  refine aw_iload_n (q := 4) gdL_addPart_0.2.2.1 rfl 1 rfl ?_
  refine aw_iload_n (q := 5) gdL_addPart_0.2.2.2.1 rfl 2 rfl ?_
  refine aw_iload_n (q := 6) gdL_addPart_0.2.2.2.2.1 rfl 3 rfl ?_
  refine aw_callC (q := 9) (hp1 := 16) (hp2 := 20) (kc1 := 0) (ks1 := 0) (wc := WX r S) (wr := [OC o nv sv]) (st1 := fun z g => [.int z.1, .ref o]) (ws1 := fun z g => [OC o nv sv] ++ WX r z.2) (As := [.ref (r 0), .int p0, .int p1, .int p2]) [0, 1, 2, 3, 4, 5, 6, 7, 8, 9, 10, 11, 12, 13, 14, 15, 16, 17, 18, 19, 20, 21, 22, 23, 24, 25, 26] [27] (fun _ => runV (q0 := 0) gdL_addPart_0.2.2.2.2.2.1 mi_X5_addPart im_X5_addPart se_X5_addPart ml_L_101 (by omega) rfl (Nat.le_of_ble_eq_true rfl) rfl rfl rfl rfl) (fun x9 h9 => ogX_addPart h9) rfl rfl rfl rfl rfl (by decide +kernel) (by omega) (by omega) (fun _ _ => rfl) (fun _ _ => rfl) (Or.inr ⟨⟨[], _, [_], "java/lang/IndexOutOfBoundsException", rfl, (fun z h => by cases h), by decide, by decide, cl_L_19, ca_IndexOutOfBoundsException, rfl⟩, fun q9 => ?_⟩) (Or.inr ⟨⟨[_], _, [], "java/lang/IllegalArgumentException", rfl, (fun z h => by rcases List.mem_cons.mp h with rfl | h <;> first | exact ⟨by decide, rfl, cl_L_19⟩ | cases h), by decide, by decide, cl_L_21, ca_IllegalArgumentException, rfl⟩, fun q9 => ?_⟩) (fun z g => ?_)
  · refine aw_astore (q := 18) (lv' := [(5, .ref q9), (0, .ref (r 0)), (1, .int p0), (2, .int p1), (3, .int p2), (4, .ref o)]) gdL_addPart_13.2.1 rfl (by decide) rfl ?_
    refine aw_iconst (q := 19) (v := 1) gdL_addPart_13.2.2.1 rfl (by decide) ?_
    exact aw_ireturn [1, 2, 3, 4, 5, 6, 7, 8, 9, 10, 11, 12, 13, 14, 15, 16, 17, 18, 19, 20, 21, 22, 23, 24, 25, 26, 27, 0] gdL_addPart_13.2.2.2.1 rfl rfl rfl rfl (PN.mk (fun _ => 0) rfl rfl)
  · refine aw_astore (q := 22) (lv' := [(5, .ref q9), (0, .ref (r 0)), (1, .int p0), (2, .int p1), (3, .int p2), (4, .ref o)]) gdL_addPart_13.2.2.2.2.1 rfl (by decide) rfl ?_
    refine aw_iconst (q := 23) (v := 2) gdL_addPart_13.2.2.2.2.2.1 rfl (by decide) ?_
    exact aw_ireturn [1, 2, 3, 4, 5, 6, 7, 8, 9, 10, 11, 12, 13, 14, 15, 16, 17, 18, 19, 20, 21, 22, 23, 24, 25, 26, 27, 0] gdL_addPart_13.2.2.2.2.2.2.1 rfl rfl rfl rfl (PN.mk (fun _ => 0) rfl rfl)
  refine aw_i2l (q := 10) gdL_addPart_0.2.2.2.2.2.2.1 rfl ?_
  refine aw_putN (q := 13) (ws' := [OC o z.1.toInt64 sv] ++ WX r z.2) gdL_addPart_0.2.2.2.2.2.2.2 rfl fn_L_13 0 rfl rfl rfl (Nat.le_of_ble_eq_true rfl) rfl ?_
  refine aw_goto (tgt := 24) gdL_addPart_13.1 (by decide) ?_
  refine aw_iconst (q := 25) (v := 0) gdL_addPart_13.2.2.2.2.2.2.2 rfl (by decide) ?_
  exact aw_ireturn [1, 2, 3, 4, 5, 6, 7, 8, 9, 10, 11, 12, 13, 14, 15, 16, 17, 18, 19, 20, 21, 22, 23, 24, 25, 26, 27, 0] dL_addPart_25 rfl rfl rfl rfl (PN.mk g rfl rfl)
def gL_takePart (N K : Nat) (S : CS) (p0 : Int32) (p1 : Int32) (nv : Int64) : Option (Int32 × CS × Int64) := wb (gX_takePart N K S p0 p1) (fun z => some ((0 : Int32), z.2, z.1.toInt64)) (some ((1 : Int32), S, nv)) (some ((2 : Int32), S, nv))
set_option maxHeartbeats 4000000 in
set_option maxRecDepth 100000 in
theorem ogL_takePart {N K : Nat} {r : Nat → Nat} {o : Nat} {S : CS} {nv : Int64} {sv : Value} {p0 : Int32} {p1 : Int32} {x : Int32 × CS × Int64} (hE : gL_takePart N K S p0 p1 nv = some x) : OkM yL_takePart (.codeWith yL_takePart cL_takePart 5 (some .int) [(0, 11, 14, 19), (0, 11, 18, 21)]) (10) 2 12 [.ref (r 0), .int p0, .int p1, .ref o] (WX r S ++ [OC o nv sv]) ((PN (U := Int32 × CS × Int64) (fun z _ => some (.int z.1)) (fun z g => WX r z.2.1 ++ [OC o z.2.2 sv])) x) := by
  refine ok_ofH (by decide) (Nat.le_of_ble_eq_true rfl) hE ?_
  refine aw_locals (lv' := [(0, .ref (r 0)), (1, .int p0), (2, .int p1), (3, .ref o)]) [0, 1, 2, 3] rfl ?_
  refine aw_aload_n (q := 1) gdL_takePart_0.1 rfl 3 rfl ?_
  refine aw_aload_n (q := 2) gdL_takePart_0.2.1 rfl 0 rfl ?_
  refine aw_iload_n (q := 3) gdL_takePart_0.2.2.1 rfl 1 rfl ?_
  refine aw_iload_n (q := 4) gdL_takePart_0.2.2.2.1 rfl 2 rfl ?_
  refine aw_callC (q := 7) (hp1 := 14) (hp2 := 18) (kc1 := 0) (ks1 := 0) (wc := WX r S) (wr := [OC o nv sv]) (st1 := fun z g => [.int z.1, .ref o]) (ws1 := fun z g => [OC o nv sv] ++ WX r z.2) (As := [.ref (r 0), .int p0, .int p1]) [0, 1, 2, 3, 4, 5, 6, 7, 8, 9, 10, 11, 12, 13, 14, 15, 16, 17, 18, 19, 20, 21, 22, 23, 24, 25, 26] [27] (fun _ => runV (q0 := 0) gdL_takePart_0.2.2.2.2.1 mi_X5_takePart im_X5_takePart se_X5_takePart ml_L_104 (by omega) rfl (Nat.le_of_ble_eq_true rfl) rfl rfl rfl rfl) (fun x9 h9 => ogX_takePart h9) rfl rfl rfl rfl rfl (by decide +kernel) (by omega) (by omega) (fun _ _ => rfl) (fun _ _ => rfl) (Or.inr ⟨⟨[], _, [_], "java/lang/IndexOutOfBoundsException", rfl, (fun z h => by cases h), by decide, by decide, cl_L_19, ca_IndexOutOfBoundsException, rfl⟩, fun q9 => ?_⟩) (Or.inr ⟨⟨[_], _, [], "java/lang/IllegalArgumentException", rfl, (fun z h => by rcases List.mem_cons.mp h with rfl | h <;> first | exact ⟨by decide, rfl, cl_L_19⟩ | cases h), by decide, by decide, cl_L_21, ca_IllegalArgumentException, rfl⟩, fun q9 => ?_⟩) (fun z g => ?_)
  · refine aw_astore (q := 16) (lv' := [(4, .ref q9), (0, .ref (r 0)), (1, .int p0), (2, .int p1), (3, .ref o)]) gdL_takePart_14.1 rfl (by decide) rfl ?_
    refine aw_iconst (q := 17) (v := 1) gdL_takePart_14.2.1 rfl (by decide) ?_
    exact aw_ireturn [1, 2, 3, 4, 5, 6, 7, 8, 9, 10, 11, 12, 13, 14, 15, 16, 17, 18, 19, 20, 21, 22, 23, 24, 25, 26, 27, 0] gdL_takePart_14.2.2.1 rfl rfl rfl rfl (PN.mk (fun _ => 0) rfl rfl)
  · refine aw_astore (q := 20) (lv' := [(4, .ref q9), (0, .ref (r 0)), (1, .int p0), (2, .int p1), (3, .ref o)]) gdL_takePart_14.2.2.2.1 rfl (by decide) rfl ?_
    refine aw_iconst (q := 21) (v := 2) gdL_takePart_14.2.2.2.2.1 rfl (by decide) ?_
    exact aw_ireturn [1, 2, 3, 4, 5, 6, 7, 8, 9, 10, 11, 12, 13, 14, 15, 16, 17, 18, 19, 20, 21, 22, 23, 24, 25, 26, 27, 0] gdL_takePart_14.2.2.2.2.2.1 rfl rfl rfl rfl (PN.mk (fun _ => 0) rfl rfl)
  refine aw_i2l (q := 8) gdL_takePart_0.2.2.2.2.2.1 rfl ?_
  refine aw_putN (q := 11) (ws' := [OC o z.1.toInt64 sv] ++ WX r z.2) gdL_takePart_0.2.2.2.2.2.2.1 rfl fn_L_13 0 rfl rfl rfl (Nat.le_of_ble_eq_true rfl) rfl ?_
  refine aw_goto (tgt := 22) gdL_takePart_0.2.2.2.2.2.2.2 (by decide) ?_
  refine aw_iconst (q := 23) (v := 0) gdL_takePart_14.2.2.2.2.2.2.1 rfl (by decide) ?_
  exact aw_ireturn [1, 2, 3, 4, 5, 6, 7, 8, 9, 10, 11, 12, 13, 14, 15, 16, 17, 18, 19, 20, 21, 22, 23, 24, 25, 26, 27, 0] gdL_takePart_14.2.2.2.2.2.2.2 rfl rfl rfl rfl (PN.mk g rfl rfl)
def gL_layFirst (N K : Nat) (S : CS) (p0 : Int32) (p1 : Int32) (nv : Int64) : Option (Int32 × CS × Int64) := wb (gX_layFirst N K S p0 p1) (fun z => some ((0 : Int32), z.2, z.1.toInt64)) (some ((1 : Int32), S, nv)) (some ((2 : Int32), S, nv))
set_option maxHeartbeats 4000000 in
set_option maxRecDepth 100000 in
theorem ogL_layFirst {N K : Nat} {r : Nat → Nat} {o : Nat} {S : CS} {nv : Int64} {sv : Value} {p0 : Int32} {p1 : Int32} {x : Int32 × CS × Int64} (hE : gL_layFirst N K S p0 p1 nv = some x) : OkM yL_layFirst (.codeWith yL_layFirst cL_layFirst 5 (some .int) [(0, 11, 14, 19), (0, 11, 18, 21)]) (10) 2 12 [.ref (r 0), .int p0, .int p1, .ref o] (WX r S ++ [OC o nv sv]) ((PN (U := Int32 × CS × Int64) (fun z _ => some (.int z.1)) (fun z g => WX r z.2.1 ++ [OC o z.2.2 sv])) x) := by
  refine ok_ofH (by decide) (Nat.le_of_ble_eq_true rfl) hE ?_
  refine aw_locals (lv' := [(0, .ref (r 0)), (1, .int p0), (2, .int p1), (3, .ref o)]) [0, 1, 2, 3] rfl ?_
  refine aw_aload_n (q := 1) gdL_layFirst_0.1 rfl 3 rfl ?_
  refine aw_aload_n (q := 2) gdL_layFirst_0.2.1 rfl 0 rfl ?_
  refine aw_iload_n (q := 3) gdL_layFirst_0.2.2.1 rfl 1 rfl ?_
  refine aw_iload_n (q := 4) gdL_layFirst_0.2.2.2.1 rfl 2 rfl ?_
  refine aw_callC (q := 7) (hp1 := 14) (hp2 := 18) (kc1 := 0) (ks1 := 0) (wc := WX r S) (wr := [OC o nv sv]) (st1 := fun z g => [.int z.1, .ref o]) (ws1 := fun z g => [OC o nv sv] ++ WX r z.2) (As := [.ref (r 0), .int p0, .int p1]) [0, 1, 2, 3, 4, 5, 6, 7, 8, 9, 10, 11, 12, 13, 14, 15, 16, 17, 18, 19, 20, 21, 22, 23, 24, 25, 26] [27] (fun _ => runV (q0 := 0) gdL_layFirst_0.2.2.2.2.1 mi_X5_layFirst im_X5_layFirst se_X5_layFirst ml_L_107 (by omega) rfl (Nat.le_of_ble_eq_true rfl) rfl rfl rfl rfl) (fun x9 h9 => ogX_layFirst h9) rfl rfl rfl rfl rfl (by decide +kernel) (by omega) (by omega) (fun _ _ => rfl) (fun _ _ => rfl) (Or.inr ⟨⟨[], _, [_], "java/lang/IndexOutOfBoundsException", rfl, (fun z h => by cases h), by decide, by decide, cl_L_19, ca_IndexOutOfBoundsException, rfl⟩, fun q9 => ?_⟩) (Or.inr ⟨⟨[_], _, [], "java/lang/IllegalArgumentException", rfl, (fun z h => by rcases List.mem_cons.mp h with rfl | h <;> first | exact ⟨by decide, rfl, cl_L_19⟩ | cases h), by decide, by decide, cl_L_21, ca_IllegalArgumentException, rfl⟩, fun q9 => ?_⟩) (fun z g => ?_)
  · refine aw_astore (q := 16) (lv' := [(4, .ref q9), (0, .ref (r 0)), (1, .int p0), (2, .int p1), (3, .ref o)]) gdL_layFirst_14.1 rfl (by decide) rfl ?_
    refine aw_iconst (q := 17) (v := 1) gdL_layFirst_14.2.1 rfl (by decide) ?_
    exact aw_ireturn [1, 2, 3, 4, 5, 6, 7, 8, 9, 10, 11, 12, 13, 14, 15, 16, 17, 18, 19, 20, 21, 22, 23, 24, 25, 26, 27, 0] gdL_layFirst_14.2.2.1 rfl rfl rfl rfl (PN.mk (fun _ => 0) rfl rfl)
  · refine aw_astore (q := 20) (lv' := [(4, .ref q9), (0, .ref (r 0)), (1, .int p0), (2, .int p1), (3, .ref o)]) gdL_layFirst_14.2.2.2.1 rfl (by decide) rfl ?_
    refine aw_iconst (q := 21) (v := 2) gdL_layFirst_14.2.2.2.2.1 rfl (by decide) ?_
    exact aw_ireturn [1, 2, 3, 4, 5, 6, 7, 8, 9, 10, 11, 12, 13, 14, 15, 16, 17, 18, 19, 20, 21, 22, 23, 24, 25, 26, 27, 0] gdL_layFirst_14.2.2.2.2.2.1 rfl rfl rfl rfl (PN.mk (fun _ => 0) rfl rfl)
  refine aw_i2l (q := 8) gdL_layFirst_0.2.2.2.2.2.1 rfl ?_
  refine aw_putN (q := 11) (ws' := [OC o z.1.toInt64 sv] ++ WX r z.2) gdL_layFirst_0.2.2.2.2.2.2.1 rfl fn_L_13 0 rfl rfl rfl (Nat.le_of_ble_eq_true rfl) rfl ?_
  refine aw_goto (tgt := 22) gdL_layFirst_0.2.2.2.2.2.2.2 (by decide) ?_
  refine aw_iconst (q := 23) (v := 0) gdL_layFirst_14.2.2.2.2.2.2.1 rfl (by decide) ?_
  exact aw_ireturn [1, 2, 3, 4, 5, 6, 7, 8, 9, 10, 11, 12, 13, 14, 15, 16, 17, 18, 19, 20, 21, 22, 23, 24, 25, 26, 27, 0] gdL_layFirst_14.2.2.2.2.2.2.2 rfl rfl rfl rfl (PN.mk g rfl rfl)
def gL_next (N K : Nat) (S : CS) (p0 : Int32) (nv : Int64) : Option (Int32 × CS × Int64) := wb (gX_next N K S p0) (fun z => some ((0 : Int32), z.2, z.1.toInt64)) (some ((1 : Int32), S, nv)) none
set_option maxHeartbeats 4000000 in
set_option maxRecDepth 100000 in
theorem ogL_next {N K : Nat} {r : Nat → Nat} {o : Nat} {S : CS} {nv : Int64} {sv : Value} {p0 : Int32} {x : Int32 × CS × Int64} (hE : gL_next N K S p0 nv = some x) : OkM yL_next (.codeWith yL_next cL_next 4 (some .int) [(0, 10, 13, 19)]) (10) 1 6 [.ref (r 0), .int p0, .ref o] (WX r S ++ [OC o nv sv]) ((PN (U := Int32 × CS × Int64) (fun z _ => some (.int z.1)) (fun z g => WX r z.2.1 ++ [OC o z.2.2 sv])) x) := by
  refine ok_ofH (by decide) (Nat.le_of_ble_eq_true rfl) hE ?_
  refine aw_locals (lv' := [(0, .ref (r 0)), (1, .int p0), (2, .ref o)]) [0, 1, 2] rfl ?_
  refine aw_aload_n (q := 1) gdL_next_0.1 rfl 2 rfl ?_
  refine aw_aload_n (q := 2) gdL_next_0.2.1 rfl 0 rfl ?_
  refine aw_iload_n (q := 3) gdL_next_0.2.2.1 rfl 1 rfl ?_
  refine aw_callC (q := 6) (hp1 := 13) (hp2 := 0) (kc1 := 0) (ks1 := 0) (wc := WX r S) (wr := [OC o nv sv]) (st1 := fun z g => [.int z.1, .ref o]) (ws1 := fun z g => [OC o nv sv] ++ WX r z.2) (As := [.ref (r 0), .int p0]) [0, 1, 2, 3, 4, 5, 6, 7, 8, 9, 10, 11, 12, 13, 14, 15, 16, 17, 18, 19, 20, 21, 22, 23, 24, 25, 26] [27] (fun _ => runV (q0 := 0) gdL_next_0.2.2.2.1 mi_X5_next im_X5_next se_X5_next ml_L_110 (by omega) rfl (Nat.le_of_ble_eq_true rfl) rfl rfl rfl rfl) (fun x9 h9 => ogX_next h9) rfl rfl rfl rfl rfl (by decide +kernel) (by omega) (by omega) (fun _ _ => rfl) (fun _ _ => rfl) (Or.inr ⟨⟨[], _, [], "java/lang/IndexOutOfBoundsException", rfl, (fun z h => by cases h), by decide, by decide, cl_L_19, ca_IndexOutOfBoundsException, rfl⟩, fun q9 => ?_⟩) (Or.inl rfl) (fun z g => ?_)
  · refine aw_astore_n (q := 14) (lv' := [(3, .ref q9), (0, .ref (r 0)), (1, .int p0), (2, .ref o)]) gdL_next_0.2.2.2.2.2.2.2 rfl (by decide) rfl ?_
    refine aw_iconst (q := 15) (v := 1) gdL_next_14.1 rfl (by decide) ?_
    exact aw_ireturn [1, 2, 3, 4, 5, 6, 7, 8, 9, 10, 11, 12, 13, 14, 15, 16, 17, 18, 19, 20, 21, 22, 23, 24, 25, 26, 27, 0] gdL_next_14.2.1 rfl rfl rfl rfl (PN.mk (fun _ => 0) rfl rfl)
  refine aw_i2l (q := 7) gdL_next_0.2.2.2.2.1 rfl ?_
  refine aw_putN (q := 10) (ws' := [OC o z.1.toInt64 sv] ++ WX r z.2) gdL_next_0.2.2.2.2.2.1 rfl fn_L_13 0 rfl rfl rfl (Nat.le_of_ble_eq_true rfl) rfl ?_
  refine aw_goto (tgt := 16) gdL_next_0.2.2.2.2.2.2.1 (by decide) ?_
  refine aw_iconst (q := 17) (v := 0) gdL_next_14.2.2.1 rfl (by decide) ?_
  exact aw_ireturn [1, 2, 3, 4, 5, 6, 7, 8, 9, 10, 11, 12, 13, 14, 15, 16, 17, 18, 19, 20, 21, 22, 23, 24, 25, 26, 27, 0] gdL_next_14.2.2.2 rfl rfl rfl rfl (PN.mk g rfl rfl)
def gL_turn (N K : Nat) (S : CS) (p0 : Int32) (nv : Int64) : Option (Int32 × CS × Int64) := wb (gX_turn N K S p0) (fun z => some ((0 : Int32), z.2, z.1.toInt64)) (some ((1 : Int32), S, nv)) none
set_option maxHeartbeats 4000000 in
set_option maxRecDepth 100000 in
theorem ogL_turn {N K : Nat} {r : Nat → Nat} {o : Nat} {S : CS} {nv : Int64} {sv : Value} {p0 : Int32} {x : Int32 × CS × Int64} (hE : gL_turn N K S p0 nv = some x) : OkM yL_turn (.codeWith yL_turn cL_turn 4 (some .int) [(0, 10, 13, 19)]) (10) 1 6 [.ref (r 0), .int p0, .ref o] (WX r S ++ [OC o nv sv]) ((PN (U := Int32 × CS × Int64) (fun z _ => some (.int z.1)) (fun z g => WX r z.2.1 ++ [OC o z.2.2 sv])) x) := by
  refine ok_ofH (by decide) (Nat.le_of_ble_eq_true rfl) hE ?_
  refine aw_locals (lv' := [(0, .ref (r 0)), (1, .int p0), (2, .ref o)]) [0, 1, 2] rfl ?_
  refine aw_aload_n (q := 1) gdL_turn_0.1 rfl 2 rfl ?_
  refine aw_aload_n (q := 2) gdL_turn_0.2.1 rfl 0 rfl ?_
  refine aw_iload_n (q := 3) gdL_turn_0.2.2.1 rfl 1 rfl ?_
  refine aw_callC (q := 6) (hp1 := 13) (hp2 := 0) (kc1 := 0) (ks1 := 0) (wc := WX r S) (wr := [OC o nv sv]) (st1 := fun z g => [.int z.1, .ref o]) (ws1 := fun z g => [OC o nv sv] ++ WX r z.2) (As := [.ref (r 0), .int p0]) [0, 1, 2, 3, 4, 5, 6, 7, 8, 9, 10, 11, 12, 13, 14, 15, 16, 17, 18, 19, 20, 21, 22, 23, 24, 25, 26] [27] (fun _ => runV (q0 := 0) gdL_turn_0.2.2.2.1 mi_X5_turn im_X5_turn se_X5_turn ml_L_113 (by omega) rfl (Nat.le_of_ble_eq_true rfl) rfl rfl rfl rfl) (fun x9 h9 => ogX_turn h9) rfl rfl rfl rfl rfl (by decide +kernel) (by omega) (by omega) (fun _ _ => rfl) (fun _ _ => rfl) (Or.inr ⟨⟨[], _, [], "java/lang/IndexOutOfBoundsException", rfl, (fun z h => by cases h), by decide, by decide, cl_L_19, ca_IndexOutOfBoundsException, rfl⟩, fun q9 => ?_⟩) (Or.inl rfl) (fun z g => ?_)
  · refine aw_astore_n (q := 14) (lv' := [(3, .ref q9), (0, .ref (r 0)), (1, .int p0), (2, .ref o)]) gdL_turn_0.2.2.2.2.2.2.2 rfl (by decide) rfl ?_
    refine aw_iconst (q := 15) (v := 1) gdL_turn_14.1 rfl (by decide) ?_
    exact aw_ireturn [1, 2, 3, 4, 5, 6, 7, 8, 9, 10, 11, 12, 13, 14, 15, 16, 17, 18, 19, 20, 21, 22, 23, 24, 25, 26, 27, 0] gdL_turn_14.2.1 rfl rfl rfl rfl (PN.mk (fun _ => 0) rfl rfl)
  refine aw_i2l (q := 7) gdL_turn_0.2.2.2.2.1 rfl ?_
  refine aw_putN (q := 10) (ws' := [OC o z.1.toInt64 sv] ++ WX r z.2) gdL_turn_0.2.2.2.2.2.1 rfl fn_L_13 0 rfl rfl rfl (Nat.le_of_ble_eq_true rfl) rfl ?_
  refine aw_goto (tgt := 16) gdL_turn_0.2.2.2.2.2.2.1 (by decide) ?_
  refine aw_iconst (q := 17) (v := 0) gdL_turn_14.2.2.1 rfl (by decide) ?_
  exact aw_ireturn [1, 2, 3, 4, 5, 6, 7, 8, 9, 10, 11, 12, 13, 14, 15, 16, 17, 18, 19, 20, 21, 22, 23, 24, 25, 26, 27, 0] gdL_turn_14.2.2.2 rfl rfl rfl rfl (PN.mk g rfl rfl)
def gL_toUnlike (N K : Nat) (S : CS) (p0 : Int32) (nv : Int64) : Option (Int32 × CS × Int64) := wb (gX_toUnlike N K S p0) (fun z => some ((0 : Int32), z.2, z.1.toInt64)) (some ((1 : Int32), S, nv)) none
set_option maxHeartbeats 4000000 in
set_option maxRecDepth 100000 in
theorem ogL_toUnlike {N K : Nat} {r : Nat → Nat} {o : Nat} {S : CS} {nv : Int64} {sv : Value} {p0 : Int32} {x : Int32 × CS × Int64} (hE : gL_toUnlike N K S p0 nv = some x) : OkM yL_toUnlike (.codeWith yL_toUnlike cL_toUnlike 4 (some .int) [(0, 10, 13, 19)]) (10) 1 6 [.ref (r 0), .int p0, .ref o] (WX r S ++ [OC o nv sv]) ((PN (U := Int32 × CS × Int64) (fun z _ => some (.int z.1)) (fun z g => WX r z.2.1 ++ [OC o z.2.2 sv])) x) := by
  refine ok_ofH (by decide) (Nat.le_of_ble_eq_true rfl) hE ?_
  refine aw_locals (lv' := [(0, .ref (r 0)), (1, .int p0), (2, .ref o)]) [0, 1, 2] rfl ?_
  refine aw_aload_n (q := 1) gdL_toUnlike_0.1 rfl 2 rfl ?_
  refine aw_aload_n (q := 2) gdL_toUnlike_0.2.1 rfl 0 rfl ?_
  refine aw_iload_n (q := 3) gdL_toUnlike_0.2.2.1 rfl 1 rfl ?_
  refine aw_callC (q := 6) (hp1 := 13) (hp2 := 0) (kc1 := 0) (ks1 := 0) (wc := WX r S) (wr := [OC o nv sv]) (st1 := fun z g => [.int z.1, .ref o]) (ws1 := fun z g => [OC o nv sv] ++ WX r z.2) (As := [.ref (r 0), .int p0]) [0, 1, 2, 3, 4, 5, 6, 7, 8, 9, 10, 11, 12, 13, 14, 15, 16, 17, 18, 19, 20, 21, 22, 23, 24, 25, 26] [27] (fun _ => runV (q0 := 0) gdL_toUnlike_0.2.2.2.1 mi_X5_toUnlike im_X5_toUnlike se_X5_toUnlike ml_L_116 (by omega) rfl (Nat.le_of_ble_eq_true rfl) rfl rfl rfl rfl) (fun x9 h9 => ogX_toUnlike h9) rfl rfl rfl rfl rfl (by decide +kernel) (by omega) (by omega) (fun _ _ => rfl) (fun _ _ => rfl) (Or.inr ⟨⟨[], _, [], "java/lang/IndexOutOfBoundsException", rfl, (fun z h => by cases h), by decide, by decide, cl_L_19, ca_IndexOutOfBoundsException, rfl⟩, fun q9 => ?_⟩) (Or.inl rfl) (fun z g => ?_)
  · refine aw_astore_n (q := 14) (lv' := [(3, .ref q9), (0, .ref (r 0)), (1, .int p0), (2, .ref o)]) gdL_toUnlike_0.2.2.2.2.2.2.2 rfl (by decide) rfl ?_
    refine aw_iconst (q := 15) (v := 1) gdL_toUnlike_14.1 rfl (by decide) ?_
    exact aw_ireturn [1, 2, 3, 4, 5, 6, 7, 8, 9, 10, 11, 12, 13, 14, 15, 16, 17, 18, 19, 20, 21, 22, 23, 24, 25, 26, 27, 0] gdL_toUnlike_14.2.1 rfl rfl rfl rfl (PN.mk (fun _ => 0) rfl rfl)
  refine aw_i2l (q := 7) gdL_toUnlike_0.2.2.2.2.1 rfl ?_
  refine aw_putN (q := 10) (ws' := [OC o z.1.toInt64 sv] ++ WX r z.2) gdL_toUnlike_0.2.2.2.2.2.1 rfl fn_L_13 0 rfl rfl rfl (Nat.le_of_ble_eq_true rfl) rfl ?_
  refine aw_goto (tgt := 16) gdL_toUnlike_0.2.2.2.2.2.2.1 (by decide) ?_
  refine aw_iconst (q := 17) (v := 0) gdL_toUnlike_14.2.2.1 rfl (by decide) ?_
  exact aw_ireturn [1, 2, 3, 4, 5, 6, 7, 8, 9, 10, 11, 12, 13, 14, 15, 16, 17, 18, 19, 20, 21, 22, 23, 24, 25, 26, 27, 0] gdL_toUnlike_14.2.2.2 rfl rfl rfl rfl (PN.mk g rfl rfl)
def gL_toOdd (N K : Nat) (S : CS) (p0 : Int32) (nv : Int64) : Option (Int32 × CS × Int64) := wb (gX_toOdd N K S p0) (fun z => some ((0 : Int32), z.2, z.1.toInt64)) (some ((1 : Int32), S, nv)) none
set_option maxHeartbeats 4000000 in
set_option maxRecDepth 100000 in
theorem ogL_toOdd {N K : Nat} {r : Nat → Nat} {o : Nat} {S : CS} {nv : Int64} {sv : Value} {p0 : Int32} {x : Int32 × CS × Int64} (hE : gL_toOdd N K S p0 nv = some x) : OkM yL_toOdd (.codeWith yL_toOdd cL_toOdd 4 (some .int) [(0, 10, 13, 19)]) (10) 1 6 [.ref (r 0), .int p0, .ref o] (WX r S ++ [OC o nv sv]) ((PN (U := Int32 × CS × Int64) (fun z _ => some (.int z.1)) (fun z g => WX r z.2.1 ++ [OC o z.2.2 sv])) x) := by
  refine ok_ofH (by decide) (Nat.le_of_ble_eq_true rfl) hE ?_
  refine aw_locals (lv' := [(0, .ref (r 0)), (1, .int p0), (2, .ref o)]) [0, 1, 2] rfl ?_
  refine aw_aload_n (q := 1) gdL_toOdd_0.1 rfl 2 rfl ?_
  refine aw_aload_n (q := 2) gdL_toOdd_0.2.1 rfl 0 rfl ?_
  refine aw_iload_n (q := 3) gdL_toOdd_0.2.2.1 rfl 1 rfl ?_
  refine aw_callC (q := 6) (hp1 := 13) (hp2 := 0) (kc1 := 0) (ks1 := 0) (wc := WX r S) (wr := [OC o nv sv]) (st1 := fun z g => [.int z.1, .ref o]) (ws1 := fun z g => [OC o nv sv] ++ WX r z.2) (As := [.ref (r 0), .int p0]) [0, 1, 2, 3, 4, 5, 6, 7, 8, 9, 10, 11, 12, 13, 14, 15, 16, 17, 18, 19, 20, 21, 22, 23, 24, 25, 26] [27] (fun _ => runV (q0 := 0) gdL_toOdd_0.2.2.2.1 mi_X5_toOdd im_X5_toOdd se_X5_toOdd ml_L_119 (by omega) rfl (Nat.le_of_ble_eq_true rfl) rfl rfl rfl rfl) (fun x9 h9 => ogX_toOdd h9) rfl rfl rfl rfl rfl (by decide +kernel) (by omega) (by omega) (fun _ _ => rfl) (fun _ _ => rfl) (Or.inr ⟨⟨[], _, [], "java/lang/IndexOutOfBoundsException", rfl, (fun z h => by cases h), by decide, by decide, cl_L_19, ca_IndexOutOfBoundsException, rfl⟩, fun q9 => ?_⟩) (Or.inl rfl) (fun z g => ?_)
  · refine aw_astore_n (q := 14) (lv' := [(3, .ref q9), (0, .ref (r 0)), (1, .int p0), (2, .ref o)]) gdL_toOdd_0.2.2.2.2.2.2.2 rfl (by decide) rfl ?_
    refine aw_iconst (q := 15) (v := 1) gdL_toOdd_14.1 rfl (by decide) ?_
    exact aw_ireturn [1, 2, 3, 4, 5, 6, 7, 8, 9, 10, 11, 12, 13, 14, 15, 16, 17, 18, 19, 20, 21, 22, 23, 24, 25, 26, 27, 0] gdL_toOdd_14.2.1 rfl rfl rfl rfl (PN.mk (fun _ => 0) rfl rfl)
  refine aw_i2l (q := 7) gdL_toOdd_0.2.2.2.2.1 rfl ?_
  refine aw_putN (q := 10) (ws' := [OC o z.1.toInt64 sv] ++ WX r z.2) gdL_toOdd_0.2.2.2.2.2.1 rfl fn_L_13 0 rfl rfl rfl (Nat.le_of_ble_eq_true rfl) rfl ?_
  refine aw_goto (tgt := 16) gdL_toOdd_0.2.2.2.2.2.2.1 (by decide) ?_
  refine aw_iconst (q := 17) (v := 0) gdL_toOdd_14.2.2.1 rfl (by decide) ?_
  exact aw_ireturn [1, 2, 3, 4, 5, 6, 7, 8, 9, 10, 11, 12, 13, 14, 15, 16, 17, 18, 19, 20, 21, 22, 23, 24, 25, 26, 27, 0] gdL_toOdd_14.2.2.2 rfl rfl rfl rfl (PN.mk g rfl rfl)
def gL_copyDesk (N K : Nat) (S : CS) (p0 : Int32) (nv : Int64) : Option (Int32 × CS × Int64) := wb (gX_copyDesk N K S p0) (fun z => some ((0 : Int32), z.2, z.1.toInt64)) (some ((1 : Int32), S, nv)) none
set_option maxHeartbeats 4000000 in
set_option maxRecDepth 100000 in
theorem ogL_copyDesk {N K : Nat} {r : Nat → Nat} {o : Nat} {S : CS} {nv : Int64} {sv : Value} {p0 : Int32} {x : Int32 × CS × Int64} (hE : gL_copyDesk N K S p0 nv = some x) : OkM yL_copyDesk (.codeWith yL_copyDesk cL_copyDesk 4 (some .int) [(0, 10, 13, 19)]) (10) 2 12 [.ref (r 0), .int p0, .ref o] (WX r S ++ [OC o nv sv]) ((PN (U := Int32 × CS × Int64) (fun z _ => some (.int z.1)) (fun z g => WX r z.2.1 ++ [OC o z.2.2 sv])) x) := by
  refine ok_ofH (by decide) (Nat.le_of_ble_eq_true rfl) hE ?_
  refine aw_locals (lv' := [(0, .ref (r 0)), (1, .int p0), (2, .ref o)]) [0, 1, 2] rfl ?_
  refine aw_aload_n (q := 1) gdL_copyDesk_0.1 rfl 2 rfl ?_
  refine aw_aload_n (q := 2) gdL_copyDesk_0.2.1 rfl 0 rfl ?_
  refine aw_iload_n (q := 3) gdL_copyDesk_0.2.2.1 rfl 1 rfl ?_
  refine aw_callC (q := 6) (hp1 := 13) (hp2 := 0) (kc1 := 0) (ks1 := 0) (wc := WX r S) (wr := [OC o nv sv]) (st1 := fun z g => [.int z.1, .ref o]) (ws1 := fun z g => [OC o nv sv] ++ WX r z.2) (As := [.ref (r 0), .int p0]) [0, 1, 2, 3, 4, 5, 6, 7, 8, 9, 10, 11, 12, 13, 14, 15, 16, 17, 18, 19, 20, 21, 22, 23, 24, 25, 26] [27] (fun _ => runV (q0 := 0) gdL_copyDesk_0.2.2.2.1 mi_X5_copyDesk im_X5_copyDesk se_X5_copyDesk ml_L_122 (by omega) rfl (Nat.le_of_ble_eq_true rfl) rfl rfl rfl rfl) (fun x9 h9 => ogX_copyDesk h9) rfl rfl rfl rfl rfl (by decide +kernel) (by omega) (by omega) (fun _ _ => rfl) (fun _ _ => rfl) (Or.inr ⟨⟨[], _, [], "java/lang/IndexOutOfBoundsException", rfl, (fun z h => by cases h), by decide, by decide, cl_L_19, ca_IndexOutOfBoundsException, rfl⟩, fun q9 => ?_⟩) (Or.inl rfl) (fun z g => ?_)
  · refine aw_astore_n (q := 14) (lv' := [(3, .ref q9), (0, .ref (r 0)), (1, .int p0), (2, .ref o)]) gdL_copyDesk_0.2.2.2.2.2.2.2 rfl (by decide) rfl ?_
    refine aw_iconst (q := 15) (v := 1) gdL_copyDesk_14.1 rfl (by decide) ?_
    exact aw_ireturn [1, 2, 3, 4, 5, 6, 7, 8, 9, 10, 11, 12, 13, 14, 15, 16, 17, 18, 19, 20, 21, 22, 23, 24, 25, 26, 27, 0] gdL_copyDesk_14.2.1 rfl rfl rfl rfl (PN.mk (fun _ => 0) rfl rfl)
  refine aw_i2l (q := 7) gdL_copyDesk_0.2.2.2.2.1 rfl ?_
  refine aw_putN (q := 10) (ws' := [OC o z.1.toInt64 sv] ++ WX r z.2) gdL_copyDesk_0.2.2.2.2.2.1 rfl fn_L_13 0 rfl rfl rfl (Nat.le_of_ble_eq_true rfl) rfl ?_
  refine aw_goto (tgt := 16) gdL_copyDesk_0.2.2.2.2.2.2.1 (by decide) ?_
  refine aw_iconst (q := 17) (v := 0) gdL_copyDesk_14.2.2.1 rfl (by decide) ?_
  exact aw_ireturn [1, 2, 3, 4, 5, 6, 7, 8, 9, 10, 11, 12, 13, 14, 15, 16, 17, 18, 19, 20, 21, 22, 23, 24, 25, 26, 27, 0] gdL_copyDesk_14.2.2.2 rfl rfl rfl rfl (PN.mk g rfl rfl)
def gL_times (N K : Nat) (S : CS) (p0 : Int32) (p1 : Int32) (nv : Int64) : Option (Int32 × CS × Int64) := wb (gX_times N K S p0 p1) (fun z => some ((0 : Int32), z.2, z.1.toInt64)) (some ((1 : Int32), S, nv)) (some ((2 : Int32), S, nv))
set_option maxHeartbeats 4000000 in
set_option maxRecDepth 100000 in
theorem ogL_times {N K : Nat} {r : Nat → Nat} {o : Nat} {S : CS} {nv : Int64} {sv : Value} {p0 : Int32} {p1 : Int32} {x : Int32 × CS × Int64} (hE : gL_times N K S p0 p1 nv = some x) : OkM yL_times (.codeWith yL_times cL_times 5 (some .int) [(0, 11, 14, 19), (0, 11, 18, 21)]) (10) 2 12 [.ref (r 0), .int p0, .int p1, .ref o] (WX r S ++ [OC o nv sv]) ((PN (U := Int32 × CS × Int64) (fun z _ => some (.int z.1)) (fun z g => WX r z.2.1 ++ [OC o z.2.2 sv])) x) := by
  refine ok_ofH (by decide) (Nat.le_of_ble_eq_true rfl) hE ?_
  refine aw_locals (lv' := [(0, .ref (r 0)), (1, .int p0), (2, .int p1), (3, .ref o)]) [0, 1, 2, 3] rfl ?_
  refine aw_aload_n (q := 1) gdL_times_0.1 rfl 3 rfl ?_
  refine aw_aload_n (q := 2) gdL_times_0.2.1 rfl 0 rfl ?_
  refine aw_iload_n (q := 3) gdL_times_0.2.2.1 rfl 1 rfl ?_
  refine aw_iload_n (q := 4) gdL_times_0.2.2.2.1 rfl 2 rfl ?_
  refine aw_callC (q := 7) (hp1 := 14) (hp2 := 18) (kc1 := 0) (ks1 := 0) (wc := WX r S) (wr := [OC o nv sv]) (st1 := fun z g => [.int z.1, .ref o]) (ws1 := fun z g => [OC o nv sv] ++ WX r z.2) (As := [.ref (r 0), .int p0, .int p1]) [0, 1, 2, 3, 4, 5, 6, 7, 8, 9, 10, 11, 12, 13, 14, 15, 16, 17, 18, 19, 20, 21, 22, 23, 24, 25, 26] [27] (fun _ => runV (q0 := 0) gdL_times_0.2.2.2.2.1 mi_X5_times im_X5_times se_X5_times ml_L_125 (by omega) rfl (Nat.le_of_ble_eq_true rfl) rfl rfl rfl rfl) (fun x9 h9 => ogX_times h9) rfl rfl rfl rfl rfl (by decide +kernel) (by omega) (by omega) (fun _ _ => rfl) (fun _ _ => rfl) (Or.inr ⟨⟨[], _, [_], "java/lang/IndexOutOfBoundsException", rfl, (fun z h => by cases h), by decide, by decide, cl_L_19, ca_IndexOutOfBoundsException, rfl⟩, fun q9 => ?_⟩) (Or.inr ⟨⟨[_], _, [], "java/lang/IllegalArgumentException", rfl, (fun z h => by rcases List.mem_cons.mp h with rfl | h <;> first | exact ⟨by decide, rfl, cl_L_19⟩ | cases h), by decide, by decide, cl_L_21, ca_IllegalArgumentException, rfl⟩, fun q9 => ?_⟩) (fun z g => ?_)
  · refine aw_astore (q := 16) (lv' := [(4, .ref q9), (0, .ref (r 0)), (1, .int p0), (2, .int p1), (3, .ref o)]) gdL_times_14.1 rfl (by decide) rfl ?_
    refine aw_iconst (q := 17) (v := 1) gdL_times_14.2.1 rfl (by decide) ?_
    exact aw_ireturn [1, 2, 3, 4, 5, 6, 7, 8, 9, 10, 11, 12, 13, 14, 15, 16, 17, 18, 19, 20, 21, 22, 23, 24, 25, 26, 27, 0] gdL_times_14.2.2.1 rfl rfl rfl rfl (PN.mk (fun _ => 0) rfl rfl)
  · refine aw_astore (q := 20) (lv' := [(4, .ref q9), (0, .ref (r 0)), (1, .int p0), (2, .int p1), (3, .ref o)]) gdL_times_14.2.2.2.1 rfl (by decide) rfl ?_
    refine aw_iconst (q := 21) (v := 2) gdL_times_14.2.2.2.2.1 rfl (by decide) ?_
    exact aw_ireturn [1, 2, 3, 4, 5, 6, 7, 8, 9, 10, 11, 12, 13, 14, 15, 16, 17, 18, 19, 20, 21, 22, 23, 24, 25, 26, 27, 0] gdL_times_14.2.2.2.2.2.1 rfl rfl rfl rfl (PN.mk (fun _ => 0) rfl rfl)
  refine aw_i2l (q := 8) gdL_times_0.2.2.2.2.2.1 rfl ?_
  refine aw_putN (q := 11) (ws' := [OC o z.1.toInt64 sv] ++ WX r z.2) gdL_times_0.2.2.2.2.2.2.1 rfl fn_L_13 0 rfl rfl rfl (Nat.le_of_ble_eq_true rfl) rfl ?_
  refine aw_goto (tgt := 22) gdL_times_0.2.2.2.2.2.2.2 (by decide) ?_
  refine aw_iconst (q := 23) (v := 0) gdL_times_14.2.2.2.2.2.2.1 rfl (by decide) ?_
  exact aw_ireturn [1, 2, 3, 4, 5, 6, 7, 8, 9, 10, 11, 12, 13, 14, 15, 16, 17, 18, 19, 20, 21, 22, 23, 24, 25, 26, 27, 0] gdL_times_14.2.2.2.2.2.2.2 rfl rfl rfl rfl (PN.mk g rfl rfl)
def gL_way (N K : Nat) (S : CS) (p0 : Int32) (p1 : Int32) (nv : Int64) : Option (Int32 × CS × Int64) := wb (gX_way N K S p0 p1) (fun z => some ((0 : Int32), z.2, z.1.toInt64)) (some ((1 : Int32), S, nv)) (some ((2 : Int32), S, nv))
set_option maxHeartbeats 4000000 in
set_option maxRecDepth 100000 in
theorem ogL_way {N K : Nat} {r : Nat → Nat} {o : Nat} {S : CS} {nv : Int64} {sv : Value} {p0 : Int32} {p1 : Int32} {x : Int32 × CS × Int64} (hE : gL_way N K S p0 p1 nv = some x) : OkM yL_way (.codeWith yL_way cL_way 5 (some .int) [(0, 11, 14, 19), (0, 11, 18, 21)]) (10) 2 12 [.ref (r 0), .int p0, .int p1, .ref o] (WX r S ++ [OC o nv sv]) ((PN (U := Int32 × CS × Int64) (fun z _ => some (.int z.1)) (fun z g => WX r z.2.1 ++ [OC o z.2.2 sv])) x) := by
  refine ok_ofH (by decide) (Nat.le_of_ble_eq_true rfl) hE ?_
  refine aw_locals (lv' := [(0, .ref (r 0)), (1, .int p0), (2, .int p1), (3, .ref o)]) [0, 1, 2, 3] rfl ?_
  refine aw_aload_n (q := 1) gdL_way_0.1 rfl 3 rfl ?_
  refine aw_aload_n (q := 2) gdL_way_0.2.1 rfl 0 rfl ?_
  refine aw_iload_n (q := 3) gdL_way_0.2.2.1 rfl 1 rfl ?_
  refine aw_iload_n (q := 4) gdL_way_0.2.2.2.1 rfl 2 rfl ?_
  refine aw_callC (q := 7) (hp1 := 14) (hp2 := 18) (kc1 := 0) (ks1 := 0) (wc := WX r S) (wr := [OC o nv sv]) (st1 := fun z g => [.int z.1, .ref o]) (ws1 := fun z g => [OC o nv sv] ++ WX r z.2) (As := [.ref (r 0), .int p0, .int p1]) [0, 1, 2, 3, 4, 5, 6, 7, 8, 9, 10, 11, 12, 13, 14, 15, 16, 17, 18, 19, 20, 21, 22, 23, 24, 25, 26] [27] (fun _ => runV (q0 := 0) gdL_way_0.2.2.2.2.1 mi_X5_way im_X5_way se_X5_way ml_L_128 (by omega) rfl (Nat.le_of_ble_eq_true rfl) rfl rfl rfl rfl) (fun x9 h9 => ogX_way h9) rfl rfl rfl rfl rfl (by decide +kernel) (by omega) (by omega) (fun _ _ => rfl) (fun _ _ => rfl) (Or.inr ⟨⟨[], _, [_], "java/lang/IndexOutOfBoundsException", rfl, (fun z h => by cases h), by decide, by decide, cl_L_19, ca_IndexOutOfBoundsException, rfl⟩, fun q9 => ?_⟩) (Or.inr ⟨⟨[_], _, [], "java/lang/IllegalArgumentException", rfl, (fun z h => by rcases List.mem_cons.mp h with rfl | h <;> first | exact ⟨by decide, rfl, cl_L_19⟩ | cases h), by decide, by decide, cl_L_21, ca_IllegalArgumentException, rfl⟩, fun q9 => ?_⟩) (fun z g => ?_)
  · refine aw_astore (q := 16) (lv' := [(4, .ref q9), (0, .ref (r 0)), (1, .int p0), (2, .int p1), (3, .ref o)]) gdL_way_14.1 rfl (by decide) rfl ?_
    refine aw_iconst (q := 17) (v := 1) gdL_way_14.2.1 rfl (by decide) ?_
    exact aw_ireturn [1, 2, 3, 4, 5, 6, 7, 8, 9, 10, 11, 12, 13, 14, 15, 16, 17, 18, 19, 20, 21, 22, 23, 24, 25, 26, 27, 0] gdL_way_14.2.2.1 rfl rfl rfl rfl (PN.mk (fun _ => 0) rfl rfl)
  · refine aw_astore (q := 20) (lv' := [(4, .ref q9), (0, .ref (r 0)), (1, .int p0), (2, .int p1), (3, .ref o)]) gdL_way_14.2.2.2.1 rfl (by decide) rfl ?_
    refine aw_iconst (q := 21) (v := 2) gdL_way_14.2.2.2.2.1 rfl (by decide) ?_
    exact aw_ireturn [1, 2, 3, 4, 5, 6, 7, 8, 9, 10, 11, 12, 13, 14, 15, 16, 17, 18, 19, 20, 21, 22, 23, 24, 25, 26, 27, 0] gdL_way_14.2.2.2.2.2.1 rfl rfl rfl rfl (PN.mk (fun _ => 0) rfl rfl)
  refine aw_i2l (q := 8) gdL_way_0.2.2.2.2.2.1 rfl ?_
  refine aw_putN (q := 11) (ws' := [OC o z.1.toInt64 sv] ++ WX r z.2) gdL_way_0.2.2.2.2.2.2.1 rfl fn_L_13 0 rfl rfl rfl (Nat.le_of_ble_eq_true rfl) rfl ?_
  refine aw_goto (tgt := 22) gdL_way_0.2.2.2.2.2.2.2 (by decide) ?_
  refine aw_iconst (q := 23) (v := 0) gdL_way_14.2.2.2.2.2.2.1 rfl (by decide) ?_
  exact aw_ireturn [1, 2, 3, 4, 5, 6, 7, 8, 9, 10, 11, 12, 13, 14, 15, 16, 17, 18, 19, 20, 21, 22, 23, 24, 25, 26, 27, 0] gdL_way_14.2.2.2.2.2.2.2 rfl rfl rfl rfl (PN.mk g rfl rfl)
def gL_wayText (N K : Nat) (S : CS) (p0 : Int32) (nv : Int64) : Option (Int32 × CS × Int64) := wb (gX_wayText N K S p0) (fun z => some ((0 : Int32), z, nv)) (some ((1 : Int32), S, nv)) none
set_option maxHeartbeats 4000000 in
set_option maxRecDepth 100000 in
theorem ogL_wayText {N K : Nat} {r : Nat → Nat} {o : Nat} {S : CS} {nv : Int64} {sv : Value} {p0 : Int32} {x : Int32 × CS × Int64} (hE : gL_wayText N K S p0 nv = some x) : OkM yL_wayText (.codeWith yL_wayText cL_wayText 4 (some .int) [(0, 9, 12, 19)]) (10) 111 8006 [.ref (r 0), .int p0, .ref o] (WX r S ++ [OC o nv sv]) ((PN (U := Int32 × CS × Int64) (fun z _ => some (.int z.1)) (fun z g => WX r z.2.1 ++ [OC o z.2.2 (if z.1 = 0 then .ref (g 0) else sv)])) x) := by
  refine ok_ofH (by decide) (Nat.le_of_ble_eq_true rfl) hE ?_
  refine aw_locals (lv' := [(0, .ref (r 0)), (1, .int p0), (2, .ref o)]) [0, 1, 2] rfl ?_
  refine aw_aload_n (q := 1) gdL_wayText_0.1 rfl 2 rfl ?_
  refine aw_aload_n (q := 2) gdL_wayText_0.2.1 rfl 0 rfl ?_
  refine aw_iload_n (q := 3) gdL_wayText_0.2.2.1 rfl 1 rfl ?_
  refine aw_callC (q := 6) (hp1 := 12) (hp2 := 0) (kc1 := 0) (ks1 := 0) (wc := WX r S) (wr := [OC o nv sv]) (st1 := fun z g => [.ref (g 0), .ref o]) (ws1 := fun z g => [OC o nv sv] ++ WX r z) (As := [.ref (r 0), .int p0]) [0, 1, 2, 3, 4, 5, 6, 7, 8, 9, 10, 11, 12, 13, 14, 15, 16, 17, 18, 19, 20, 21, 22, 23, 24, 25, 26] [27] (fun _ => runV (q0 := 0) gdL_wayText_0.2.2.2.1 mi_X5_wayText im_X5_wayText se_X5_wayText ml_L_131 (by omega) rfl (Nat.le_of_ble_eq_true rfl) rfl rfl rfl rfl) (fun x9 h9 => ogX_wayText h9) rfl rfl rfl rfl rfl (by decide +kernel) (by omega) (by omega) (fun _ _ => rfl) (fun _ _ => rfl) (Or.inr ⟨⟨[], _, [], "java/lang/IndexOutOfBoundsException", rfl, (fun z h => by cases h), by decide, by decide, cl_L_19, ca_IndexOutOfBoundsException, rfl⟩, fun q9 => ?_⟩) (Or.inl rfl) (fun z g => ?_)
  · refine aw_astore_n (q := 13) (lv' := [(3, .ref q9), (0, .ref (r 0)), (1, .int p0), (2, .ref o)]) gdL_wayText_0.2.2.2.2.2.2.1 rfl (by decide) rfl ?_
    refine aw_iconst (q := 14) (v := 1) gdL_wayText_0.2.2.2.2.2.2.2 rfl (by decide) ?_
    exact aw_ireturn [1, 2, 3, 4, 5, 6, 7, 8, 9, 10, 11, 12, 13, 14, 15, 16, 17, 18, 19, 20, 21, 22, 23, 24, 25, 26, 27, 0] gdL_wayText_14.1 rfl rfl rfl rfl (PN.mk (fun _ => 0) rfl rfl)
  refine aw_putN (q := 9) (ws' := [OC o nv (.ref (g 0))] ++ WX r z) gdL_wayText_0.2.2.2.2.1 rfl fn_L_135 0 rfl rfl rfl (Nat.le_of_ble_eq_true rfl) rfl ?_
  refine aw_goto (tgt := 15) gdL_wayText_0.2.2.2.2.2.1 (by decide) ?_
  refine aw_iconst (q := 16) (v := 0) gdL_wayText_14.2.1 rfl (by decide) ?_
  exact aw_ireturn [1, 2, 3, 4, 5, 6, 7, 8, 9, 10, 11, 12, 13, 14, 15, 16, 17, 18, 19, 20, 21, 22, 23, 24, 25, 26, 27, 0] gdL_wayText_14.2.2 rfl rfl rfl rfl (PN.mk g rfl rfl)
def gL_isOf (N K : Nat) (S : CS) (p0 : Int32) (p1 : Int32) (p2 : Int32) (nv : Int64) : Option (Int32 × CS × Int64) := wb (gX_isOf N K S p0 p1 p2) (fun z => (if z.1 = 0 then some ((0 : Int32), z.2, (0 : Int64)) else some ((0 : Int32), z.2, (1 : Int64)))) (some ((1 : Int32), S, nv)) (some ((2 : Int32), S, nv))
set_option maxHeartbeats 4000000 in
set_option maxRecDepth 100000 in
theorem ogL_isOf {N K : Nat} {r : Nat → Nat} {o : Nat} {S : CS} {nv : Int64} {sv : Value} {p0 : Int32} {p1 : Int32} {p2 : Int32} {x : Int32 × CS × Int64} (hE : gL_isOf N K S p0 p1 p2 nv = some x) : OkM yL_isOf (.codeWith yL_isOf cL_isOf 6 (some .int) [(0, 20, 23, 19), (0, 20, 27, 21)]) (10) 3 18 [.ref (r 0), .int p0, .int p1, .int p2, .ref o] (WX r S ++ [OC o nv sv]) ((PN (U := Int32 × CS × Int64) (fun z _ => some (.int z.1)) (fun z g => WX r z.2.1 ++ [OC o z.2.2 sv])) x) := by
  refine ok_ofH (by decide) (Nat.le_of_ble_eq_true rfl) hE ?_
  refine aw_locals (lv' := [(0, .ref (r 0)), (1, .int p0), (2, .int p1), (3, .int p2), (4, .ref o)]) [0, 1, 2, 3, 4] rfl ?_
  refine aw_aload (q := 2) gdL_isOf_0.1 rfl 4 rfl ?_
  refine aw_aload_n (q := 3) gdL_isOf_0.2.1 rfl 0 rfl ?_
  refine aw_iload_n (q := 4) gdL_isOf_0.2.2.1 rfl 1 rfl ?_
  refine aw_iload_n (q := 5) gdL_isOf_0.2.2.2.1 rfl 2 rfl ?_
  refine aw_iload_n (q := 6) gdL_isOf_0.2.2.2.2.1 rfl 3 rfl ?_
  refine aw_callC (q := 9) (hp1 := 23) (hp2 := 27) (kc1 := 0) (ks1 := 0) (wc := WX r S) (wr := [OC o nv sv]) (st1 := fun z g => [.int z.1, .ref o]) (ws1 := fun z g => [OC o nv sv] ++ WX r z.2) (As := [.ref (r 0), .int p0, .int p1, .int p2]) [0, 1, 2, 3, 4, 5, 6, 7, 8, 9, 10, 11, 12, 13, 14, 15, 16, 17, 18, 19, 20, 21, 22, 23, 24, 25, 26] [27] (fun _ => runV (q0 := 0) gdL_isOf_0.2.2.2.2.2.1 mi_X5_isOf im_X5_isOf se_X5_isOf ml_L_139 (by omega) rfl (Nat.le_of_ble_eq_true rfl) rfl rfl rfl rfl) (fun x9 h9 => ogX_isOf h9) rfl rfl rfl rfl rfl (by decide +kernel) (by omega) (by omega) (fun _ _ => rfl) (fun _ _ => rfl) (Or.inr ⟨⟨[], _, [_], "java/lang/IndexOutOfBoundsException", rfl, (fun z h => by cases h), by decide, by decide, cl_L_19, ca_IndexOutOfBoundsException, rfl⟩, fun q9 => ?_⟩) (Or.inr ⟨⟨[_], _, [], "java/lang/IllegalArgumentException", rfl, (fun z h => by rcases List.mem_cons.mp h with rfl | h <;> first | exact ⟨by decide, rfl, cl_L_19⟩ | cases h), by decide, by decide, cl_L_21, ca_IllegalArgumentException, rfl⟩, fun q9 => ?_⟩) (fun z g => ?_)
  · refine aw_astore (q := 25) (lv' := [(5, .ref q9), (0, .ref (r 0)), (1, .int p0), (2, .int p1), (3, .int p2), (4, .ref o)]) gdL_isOf_13.2.2.2.2.1 rfl (by decide) rfl ?_
    refine aw_iconst (q := 26) (v := 1) gdL_isOf_13.2.2.2.2.2.1 rfl (by decide) ?_
    exact aw_ireturn [1, 2, 3, 4, 5, 6, 7, 8, 9, 10, 11, 12, 13, 14, 15, 16, 17, 18, 19, 20, 21, 22, 23, 24, 25, 26, 27, 0] gdL_isOf_13.2.2.2.2.2.2.1 rfl rfl rfl rfl (PN.mk (fun _ => 0) rfl rfl)
  · refine aw_astore (q := 29) (lv' := [(5, .ref q9), (0, .ref (r 0)), (1, .int p0), (2, .int p1), (3, .int p2), (4, .ref o)]) gdL_isOf_13.2.2.2.2.2.2.2 rfl (by decide) rfl ?_
    refine aw_iconst (q := 30) (v := 2) gdL_isOf_29.1 rfl (by decide) ?_
    exact aw_ireturn [1, 2, 3, 4, 5, 6, 7, 8, 9, 10, 11, 12, 13, 14, 15, 16, 17, 18, 19, 20, 21, 22, 23, 24, 25, 26, 27, 0] gdL_isOf_29.2.1 rfl rfl rfl rfl (PN.mk (fun _ => 0) rfl rfl)
  refine aw_if_eq (tgt := 16) (q := 12) gdL_isOf_0.2.2.2.2.2.2.1 (by decide) rfl (fun h0 => ?_) (fun h0 => ?_)
  · refine aw_lconst (q := 17) (v := 0) gdL_isOf_13.2.1 rfl (by decide) ?_
    refine aw_putN (q := 20) (ws' := [OC o 0 sv] ++ WX r z.2) gdL_isOf_13.2.2.1 rfl fn_L_13 0 rfl rfl rfl (Nat.le_of_ble_eq_true rfl) rfl ?_
    refine aw_goto (tgt := 31) gdL_isOf_13.2.2.2.1 (by decide) ?_
    refine aw_iconst (q := 32) (v := 0) gdL_isOf_29.2.2.1 rfl (by decide) ?_
    exact aw_ireturn [1, 2, 3, 4, 5, 6, 7, 8, 9, 10, 11, 12, 13, 14, 15, 16, 17, 18, 19, 20, 21, 22, 23, 24, 25, 26, 27, 0] gdL_isOf_29.2.2.2 rfl rfl rfl rfl (PN.mk g rfl rfl)
  · refine aw_lconst (q := 13) (v := 1) gdL_isOf_0.2.2.2.2.2.2.2 rfl (by decide) ?_
    refine aw_goto (tgt := 17) gdL_isOf_13.1 (by decide) ?_
    refine aw_putN (q := 20) (ws' := [OC o 1 sv] ++ WX r z.2) gdL_isOf_13.2.2.1 rfl fn_L_13 0 rfl rfl rfl (Nat.le_of_ble_eq_true rfl) rfl ?_
    refine aw_goto (tgt := 31) gdL_isOf_13.2.2.2.1 (by decide) ?_
    refine aw_iconst (q := 32) (v := 0) gdL_isOf_29.2.2.1 rfl (by decide) ?_
    exact aw_ireturn [1, 2, 3, 4, 5, 6, 7, 8, 9, 10, 11, 12, 13, 14, 15, 16, 17, 18, 19, 20, 21, 22, 23, 24, 25, 26, 27, 0] gdL_isOf_29.2.2.2 rfl rfl rfl rfl (PN.mk g rfl rfl)
def gL_tally (N K : Nat) (S : CS) (p0 : Int32) (nv : Int64) : Option (Int32 × CS × Int64) := wb (gX_tally N K S p0) (fun z => some ((0 : Int32), z.2, z.1.toInt64)) none (some ((1 : Int32), S, nv))
set_option maxHeartbeats 4000000 in
set_option maxRecDepth 100000 in
theorem ogL_tally {N K : Nat} {r : Nat → Nat} {o : Nat} {S : CS} {nv : Int64} {sv : Value} {p0 : Int32} {x : Int32 × CS × Int64} (hE : gL_tally N K S p0 nv = some x) : OkM yL_tally (.codeWith yL_tally cL_tally 4 (some .int) [(0, 10, 13, 21)]) (10) 1 6 [.ref (r 0), .int p0, .ref o] (WX r S ++ [OC o nv sv]) ((PN (U := Int32 × CS × Int64) (fun z _ => some (.int z.1)) (fun z g => WX r z.2.1 ++ [OC o z.2.2 sv])) x) := by
  refine ok_ofH (by decide) (Nat.le_of_ble_eq_true rfl) hE ?_
  refine aw_locals (lv' := [(0, .ref (r 0)), (1, .int p0), (2, .ref o)]) [0, 1, 2] rfl ?_
  refine aw_aload_n (q := 1) gdL_tally_0.1 rfl 2 rfl ?_
  refine aw_aload_n (q := 2) gdL_tally_0.2.1 rfl 0 rfl ?_
  refine aw_iload_n (q := 3) gdL_tally_0.2.2.1 rfl 1 rfl ?_
  refine aw_callC (q := 6) (hp1 := 0) (hp2 := 13) (kc1 := 0) (ks1 := 0) (wc := WX r S) (wr := [OC o nv sv]) (st1 := fun z g => [.int z.1, .ref o]) (ws1 := fun z g => [OC o nv sv] ++ WX r z.2) (As := [.ref (r 0), .int p0]) [0, 1, 2, 3, 4, 5, 6, 7, 8, 9, 10, 11, 12, 13, 14, 15, 16, 17, 18, 19, 20, 21, 22, 23, 24, 25, 26] [27] (fun _ => runV (q0 := 0) gdL_tally_0.2.2.2.1 mi_X5_tally im_X5_tally se_X5_tally ml_L_143 (by omega) rfl (Nat.le_of_ble_eq_true rfl) rfl rfl rfl rfl) (fun x9 h9 => ogX_tally h9) rfl rfl rfl rfl rfl (by decide +kernel) (by omega) (by omega) (fun _ _ => rfl) (fun _ _ => rfl) (Or.inl rfl) (Or.inr ⟨⟨[], _, [], "java/lang/IllegalArgumentException", rfl, (fun z h => by cases h), by decide, by decide, cl_L_21, ca_IllegalArgumentException, rfl⟩, fun q9 => ?_⟩) (fun z g => ?_)
  · refine aw_astore_n (q := 14) (lv' := [(3, .ref q9), (0, .ref (r 0)), (1, .int p0), (2, .ref o)]) gdL_tally_0.2.2.2.2.2.2.2 rfl (by decide) rfl ?_
    refine aw_iconst (q := 15) (v := 1) gdL_tally_14.1 rfl (by decide) ?_
    exact aw_ireturn [1, 2, 3, 4, 5, 6, 7, 8, 9, 10, 11, 12, 13, 14, 15, 16, 17, 18, 19, 20, 21, 22, 23, 24, 25, 26, 27, 0] gdL_tally_14.2.1 rfl rfl rfl rfl (PN.mk (fun _ => 0) rfl rfl)
  refine aw_i2l (q := 7) gdL_tally_0.2.2.2.2.1 rfl ?_
  refine aw_putN (q := 10) (ws' := [OC o z.1.toInt64 sv] ++ WX r z.2) gdL_tally_0.2.2.2.2.2.1 rfl fn_L_13 0 rfl rfl rfl (Nat.le_of_ble_eq_true rfl) rfl ?_
  refine aw_goto (tgt := 16) gdL_tally_0.2.2.2.2.2.2.1 (by decide) ?_
  refine aw_iconst (q := 17) (v := 0) gdL_tally_14.2.2.1 rfl (by decide) ?_
  exact aw_ireturn [1, 2, 3, 4, 5, 6, 7, 8, 9, 10, 11, 12, 13, 14, 15, 16, 17, 18, 19, 20, 21, 22, 23, 24, 25, 26, 27, 0] gdL_tally_14.2.2.2 rfl rfl rfl rfl (PN.mk g rfl rfl)
def gL_isSound (N K : Nat) (S : CS) (p0 : Int32) (nv : Int64) : Option (Int32 × CS × Int64) := wb (gX_isSound N K S p0) (fun z => (if z.1 = 0 then some ((0 : Int32), z.2, (0 : Int64)) else some ((0 : Int32), z.2, (1 : Int64)))) (some ((1 : Int32), S, nv)) none
set_option maxHeartbeats 4000000 in
set_option maxRecDepth 100000 in
theorem ogL_isSound {N K : Nat} {r : Nat → Nat} {o : Nat} {S : CS} {nv : Int64} {sv : Value} {p0 : Int32} {x : Int32 × CS × Int64} (hE : gL_isSound N K S p0 nv = some x) : OkM yL_isSound (.codeWith yL_isSound cL_isSound 4 (some .int) [(0, 17, 20, 19)]) (10) 1 6 [.ref (r 0), .int p0, .ref o] (WX r S ++ [OC o nv sv]) ((PN (U := Int32 × CS × Int64) (fun z _ => some (.int z.1)) (fun z g => WX r z.2.1 ++ [OC o z.2.2 sv])) x) := by
  refine ok_ofH (by decide) (Nat.le_of_ble_eq_true rfl) hE ?_
  refine aw_locals (lv' := [(0, .ref (r 0)), (1, .int p0), (2, .ref o)]) [0, 1, 2] rfl ?_
  refine aw_aload_n (q := 1) gdL_isSound_0.1 rfl 2 rfl ?_
  refine aw_aload_n (q := 2) gdL_isSound_0.2.1 rfl 0 rfl ?_
  refine aw_iload_n (q := 3) gdL_isSound_0.2.2.1 rfl 1 rfl ?_
  refine aw_callC (q := 6) (hp1 := 20) (hp2 := 0) (kc1 := 0) (ks1 := 0) (wc := WX r S) (wr := [OC o nv sv]) (st1 := fun z g => [.int z.1, .ref o]) (ws1 := fun z g => [OC o nv sv] ++ WX r z.2) (As := [.ref (r 0), .int p0]) [0, 1, 2, 3, 4, 5, 6, 7, 8, 9, 10, 11, 12, 13, 14, 15, 16, 17, 18, 19, 20, 21, 22, 23, 24, 25, 26] [27] (fun _ => runV (q0 := 0) gdL_isSound_0.2.2.2.1 mi_X5_isSound im_X5_isSound se_X5_isSound ml_L_146 (by omega) rfl (Nat.le_of_ble_eq_true rfl) rfl rfl rfl rfl) (fun x9 h9 => ogX_isSound h9) rfl rfl rfl rfl rfl (by decide +kernel) (by omega) (by omega) (fun _ _ => rfl) (fun _ _ => rfl) (Or.inr ⟨⟨[], _, [], "java/lang/IndexOutOfBoundsException", rfl, (fun z h => by cases h), by decide, by decide, cl_L_19, ca_IndexOutOfBoundsException, rfl⟩, fun q9 => ?_⟩) (Or.inl rfl) (fun z g => ?_)
  · refine aw_astore_n (q := 21) (lv' := [(3, .ref q9), (0, .ref (r 0)), (1, .int p0), (2, .ref o)]) gdL_isSound_14.2.2.1 rfl (by decide) rfl ?_
    refine aw_iconst (q := 22) (v := 1) gdL_isSound_14.2.2.2.1 rfl (by decide) ?_
    exact aw_ireturn [1, 2, 3, 4, 5, 6, 7, 8, 9, 10, 11, 12, 13, 14, 15, 16, 17, 18, 19, 20, 21, 22, 23, 24, 25, 26, 27, 0] gdL_isSound_14.2.2.2.2.1 rfl rfl rfl rfl (PN.mk (fun _ => 0) rfl rfl)
  refine aw_if_eq (tgt := 13) (q := 9) gdL_isSound_0.2.2.2.2.1 (by decide) rfl (fun h0 => ?_) (fun h0 => ?_)
  · refine aw_lconst (q := 14) (v := 0) gdL_isSound_0.2.2.2.2.2.2.2 rfl (by decide) ?_
    refine aw_putN (q := 17) (ws' := [OC o 0 sv] ++ WX r z.2) gdL_isSound_14.1 rfl fn_L_13 0 rfl rfl rfl (Nat.le_of_ble_eq_true rfl) rfl ?_
    refine aw_goto (tgt := 23) gdL_isSound_14.2.1 (by decide) ?_
    refine aw_iconst (q := 24) (v := 0) gdL_isSound_14.2.2.2.2.2.1 rfl (by decide) ?_
    exact aw_ireturn [1, 2, 3, 4, 5, 6, 7, 8, 9, 10, 11, 12, 13, 14, 15, 16, 17, 18, 19, 20, 21, 22, 23, 24, 25, 26, 27, 0] gdL_isSound_14.2.2.2.2.2.2 rfl rfl rfl rfl (PN.mk g rfl rfl)
  · refine aw_lconst (q := 10) (v := 1) gdL_isSound_0.2.2.2.2.2.1 rfl (by decide) ?_
    refine aw_goto (tgt := 14) gdL_isSound_0.2.2.2.2.2.2.1 (by decide) ?_
    refine aw_putN (q := 17) (ws' := [OC o 1 sv] ++ WX r z.2) gdL_isSound_14.1 rfl fn_L_13 0 rfl rfl rfl (Nat.le_of_ble_eq_true rfl) rfl ?_
    refine aw_goto (tgt := 23) gdL_isSound_14.2.1 (by decide) ?_
    refine aw_iconst (q := 24) (v := 0) gdL_isSound_14.2.2.2.2.2.1 rfl (by decide) ?_
    exact aw_ireturn [1, 2, 3, 4, 5, 6, 7, 8, 9, 10, 11, 12, 13, 14, 15, 16, 17, 18, 19, 20, 21, 22, 23, 24, 25, 26, 27, 0] gdL_isSound_14.2.2.2.2.2.2 rfl rfl rfl rfl (PN.mk g rfl rfl)
