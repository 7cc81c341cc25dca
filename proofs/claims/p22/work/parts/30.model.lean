def fX7_isNo (N K : Nat) (p0 : Int32) (p1 : Int32) (p2 : Int32) : Option (Int32) :=
  (if p0 < p1 then (some (1 : Int32)) else (if p0 ≤ p2 then (some (0 : Int32)) else (some (1 : Int32))))
set_option maxHeartbeats 4000000 in
set_option maxRecDepth 100000 in
theorem ok_X7_isNo {N K : Nat} {p0 : Int32} {p1 : Int32} {p2 : Int32} {xr : Int32} (hE : fX7_isNo N K p0 p1 p2 = some xr) : OkM yX7_isNo (.code yX7_isNo cX7_isNo 3 (some .boolean)) (0) 0 0 [.int p0, .int p1, .int p2] [] ((PN (U := Int32) (fun zz _ => some (.int zz)) (fun zz ad => [])) xr) := by
  refine ok_of (by decide) (Nat.le_of_ble_eq_true rfl) hE ?_
  refine aw_locals (lv' := [(0, .int p0), (1, .int p1), (2, .int p2)]) [0, 1, 2] rfl ?_
  refine aw_iload_n (q := 1) gdX7_isNo_0.1 rfl 0 rfl ?_
  refine aw_iload_n (q := 2) gdX7_isNo_0.2.1 rfl 1 rfl ?_
  refine aw_icmp_lt (tgt := 10) (q := 5) gdX7_isNo_0.2.2.1 (by decide) rfl (fun h_2 => ?_) (fun h_2 => ?_)
  · refine aw_iconst (q := 11) (v := 1) gdX7_isNo_0.2.2.2.2.2.2.1 rfl (by decide) ?_
    refine aw_goto (tgt := 15) gdX7_isNo_0.2.2.2.2.2.2.2 (by decide) ?_
    exact aw_ireturn (w := []) [] gdX7_isNo_14.2 rfl rfl rfl rfl (PN.mk (fun _ => 0) rfl rfl)
  · refine aw_iload_n (q := 6) gdX7_isNo_0.2.2.2.1 rfl 0 rfl ?_
    refine aw_iload_n (q := 7) gdX7_isNo_0.2.2.2.2.1 rfl 2 rfl ?_
    refine aw_icmp_le (tgt := 14) (q := 10) gdX7_isNo_0.2.2.2.2.2.1 (by decide) rfl (fun h_7 => ?_) (fun h_7 => ?_)
    · refine aw_iconst (q := 15) (v := 0) gdX7_isNo_14.1 rfl (by decide) ?_
      exact aw_ireturn (w := []) [] gdX7_isNo_14.2 rfl rfl rfl rfl (PN.mk (fun _ => 0) rfl rfl)
    · refine aw_iconst (q := 11) (v := 1) gdX7_isNo_0.2.2.2.2.2.2.1 rfl (by decide) ?_
      refine aw_goto (tgt := 15) gdX7_isNo_0.2.2.2.2.2.2.2 (by decide) ?_
      exact aw_ireturn (w := []) [] gdX7_isNo_14.2 rfl rfl rfl rfl (PN.mk (fun _ => 0) rfl rfl)
def fX7_isOut (N K : Nat) (p0 : Int32) (p1 : Int32) (p2 : Int32) : Option (Int32) :=
  ((fX7_isNo N K p0 (0 : Int32) (5 : Int32)).bind (fun x3 => (if x3 = 0 then ((fX7_isNo N K p1 (0 : Int32) (20 : Int32)).bind (fun x13 => (if x13 = 0 then ((fX7_isNo N K p2 (0 : Int32) (20 : Int32)).bind (fun x23 => (if x23 = 0 then (some (0 : Int32)) else (some (1 : Int32))))) else (some (1 : Int32))))) else (some (1 : Int32)))))
set_option maxHeartbeats 4000000 in
set_option maxRecDepth 100000 in
theorem ok_X7_isOut {N K : Nat} {p0 : Int32} {p1 : Int32} {p2 : Int32} {xr : Int32} (hE : fX7_isOut N K p0 p1 p2 = some xr) : OkM yX7_isOut (.code yX7_isOut cX7_isOut 3 (some .boolean)) (1) 0 0 [.int p0, .int p1, .int p2] [] ((PN (U := Int32) (fun zz _ => some (.int zz)) (fun zz ad => [])) xr) := by
  refine ok_of (by decide) (Nat.le_of_ble_eq_true rfl) hE ?_
  refine aw_locals (lv' := [(0, .int p0), (1, .int p1), (2, .int p2)]) [0, 1, 2] rfl ?_
  refine aw_iload_n (q := 1) gdX7_isOut_0.1 rfl 0 rfl ?_
  refine aw_iconst (q := 2) (v := 0) gdX7_isOut_0.2.1 rfl (by decide) ?_
  refine aw_iconst (q := 3) (v := 5) gdX7_isOut_0.2.2.1 rfl (by decide) ?_
  refine aw_call (q := 6) (kc1 := 0) (ks1 := 0) (wc := []) (wr := []) (st1 := fun x3 g3 => [.int x3]) (ws1 := fun x3 g3 => []) (As := [.int p0, .int (0 : Int32), .int (5 : Int32)]) [] [] (fun _ => runS gdX7_isOut_0.2.2.2.1 mi_X7_isNo st_X7_isNo ml_X7_31 (by omega) rfl (Nat.le_of_ble_eq_true rfl) rfl) (fun x9 h9 => ok_X7_isNo h9) rfl rfl rfl rfl rfl (by decide +kernel) (by omega) (by omega) (fun _ _ => rfl) (fun _ _ => rfl) (fun x3 g3 => ?_)
  refine aw_if_ne (tgt := 29) (q := 9) gdX7_isOut_0.2.2.2.2.1 (by decide) rfl (fun h_6 => ?_) (fun h_6 => ?_)
  · refine aw_iconst (q := 30) (v := 1) gdX7_isOut_13.2.2.2.2.2.2.2 rfl (by decide) ?_
    refine aw_goto (tgt := 34) gdX7_isOut_30.1 (by decide) ?_
    exact aw_ireturn (w := []) [] gdX7_isOut_30.2.2 rfl rfl rfl rfl (PN.mk (fun _ => 0) rfl rfl)
  · refine aw_iload_n (q := 10) gdX7_isOut_0.2.2.2.2.2.1 rfl 1 rfl ?_
    refine aw_iconst (q := 11) (v := 0) gdX7_isOut_0.2.2.2.2.2.2.1 rfl (by decide) ?_
    refine aw_bipush (q := 13) (v := 20) gdX7_isOut_0.2.2.2.2.2.2.2 rfl (by decide) ?_
    refine aw_call (q := 16) (kc1 := 0) (ks1 := 0) (wc := []) (wr := []) (st1 := fun x13 g13 => [.int x13]) (ws1 := fun x13 g13 => []) (As := [.int p1, .int (0 : Int32), .int (20 : Int32)]) [] [] (fun _ => runS gdX7_isOut_13.1 mi_X7_isNo st_X7_isNo ml_X7_31 (by omega) rfl (Nat.le_of_ble_eq_true rfl) rfl) (fun x9 h9 => ok_X7_isNo h9) rfl rfl rfl rfl rfl (by decide +kernel) (by omega) (by omega) (fun _ _ => rfl) (fun _ _ => rfl) (fun x13 g13 => ?_)
    refine aw_if_ne (tgt := 29) (q := 19) gdX7_isOut_13.2.1 (by decide) rfl (fun h_16 => ?_) (fun h_16 => ?_)
    · refine aw_iconst (q := 30) (v := 1) gdX7_isOut_13.2.2.2.2.2.2.2 rfl (by decide) ?_
      refine aw_goto (tgt := 34) gdX7_isOut_30.1 (by decide) ?_
      exact aw_ireturn (w := []) [] gdX7_isOut_30.2.2 rfl rfl rfl rfl (PN.mk (fun _ => 0) rfl rfl)
    · refine aw_iload_n (q := 20) gdX7_isOut_13.2.2.1 rfl 2 rfl ?_
      refine aw_iconst (q := 21) (v := 0) gdX7_isOut_13.2.2.2.1 rfl (by decide) ?_
      refine aw_bipush (q := 23) (v := 20) gdX7_isOut_13.2.2.2.2.1 rfl (by decide) ?_
      refine aw_call (q := 26) (kc1 := 0) (ks1 := 0) (wc := []) (wr := []) (st1 := fun x23 g23 => [.int x23]) (ws1 := fun x23 g23 => []) (As := [.int p2, .int (0 : Int32), .int (20 : Int32)]) [] [] (fun _ => runS gdX7_isOut_13.2.2.2.2.2.1 mi_X7_isNo st_X7_isNo ml_X7_31 (by omega) rfl (Nat.le_of_ble_eq_true rfl) rfl) (fun x9 h9 => ok_X7_isNo h9) rfl rfl rfl rfl rfl (by decide +kernel) (by omega) (by omega) (fun _ _ => rfl) (fun _ _ => rfl) (fun x23 g23 => ?_)
      refine aw_if_eq (tgt := 33) (q := 29) gdX7_isOut_13.2.2.2.2.2.2.1 (by decide) rfl (fun h_26 => ?_) (fun h_26 => ?_)
      · refine aw_iconst (q := 34) (v := 0) gdX7_isOut_30.2.1 rfl (by decide) ?_
        exact aw_ireturn (w := []) [] gdX7_isOut_30.2.2 rfl rfl rfl rfl (PN.mk (fun _ => 0) rfl rfl)
      · refine aw_iconst (q := 30) (v := 1) gdX7_isOut_13.2.2.2.2.2.2.2 rfl (by decide) ?_
        refine aw_goto (tgt := 34) gdX7_isOut_30.1 (by decide) ?_
        exact aw_ireturn (w := []) [] gdX7_isOut_30.2.2 rfl rfl rfl rfl (PN.mk (fun _ => 0) rfl rfl)
def fX7_bit (N K : Nat) (p0 : Int32) : Option (Int32) :=
  (if p0 = 0 then (some (0 : Int32)) else (some (1 : Int32)))
set_option maxHeartbeats 4000000 in
set_option maxRecDepth 100000 in
theorem ok_X7_bit {N K : Nat} {p0 : Int32} {xr : Int32} (hE : fX7_bit N K p0 = some xr) : OkM yX7_bit (.code yX7_bit cX7_bit 1 (some .int)) (0) 0 0 [.int p0] [] ((PN (U := Int32) (fun zz _ => some (.int zz)) (fun zz ad => [])) xr) := by
  refine ok_of (by decide) (Nat.le_of_ble_eq_true rfl) hE ?_
  refine aw_locals (lv' := [(0, .int p0)]) [0] rfl ?_
  refine aw_iload_n (q := 1) gdX7_bit_0.1 rfl 0 rfl ?_
  refine aw_if_eq (tgt := 8) (q := 4) gdX7_bit_0.2.1 (by decide) rfl (fun h_1 => ?_) (fun h_1 => ?_)
  · refine aw_iconst (q := 9) (v := 0) gdX7_bit_0.2.2.2.2.1 rfl (by decide) ?_
    exact aw_ireturn (w := []) [] gdX7_bit_0.2.2.2.2.2 rfl rfl rfl rfl (PN.mk (fun _ => 0) rfl rfl)
  · refine aw_iconst (q := 5) (v := 1) gdX7_bit_0.2.2.1 rfl (by decide) ?_
    refine aw_goto (tgt := 9) gdX7_bit_0.2.2.2.1 (by decide) ?_
    exact aw_ireturn (w := []) [] gdX7_bit_0.2.2.2.2.2 rfl rfl rfl rfl (PN.mk (fun _ => 0) rfl rfl)
def fX7_code (N K : Nat) (p0 : Int32) (p1 : Int32) (p2 : Int32) : Option (Int32) :=
  (some ((((1024 : Int32) * p0) + ((32 : Int32) * p1)) + p2))
set_option maxHeartbeats 4000000 in
set_option maxRecDepth 100000 in
theorem ok_X7_code {N K : Nat} {p0 : Int32} {p1 : Int32} {p2 : Int32} {xr : Int32} (hE : fX7_code N K p0 p1 p2 = some xr) : OkM yX7_code (.code yX7_code cX7_code 3 (some .int)) (0) 0 0 [.int p0, .int p1, .int p2] [] ((PN (U := Int32) (fun zz _ => some (.int zz)) (fun zz ad => [])) xr) := by
  refine ok_of (by decide) (Nat.le_of_ble_eq_true rfl) hE ?_
  refine aw_locals (lv' := [(0, .int p0), (1, .int p1), (2, .int p2)]) [0, 1, 2] rfl ?_
  refine aw_sipush (q := 3) (v := 1024) gdX7_code_0.1 rfl (by decide) ?_
  refine aw_iload_n (q := 4) gdX7_code_0.2.1 rfl 0 rfl ?_
  refine aw_imul (q := 5) gdX7_code_0.2.2.1 rfl ?_
  refine aw_bipush (q := 7) (v := 32) gdX7_code_0.2.2.2.1 rfl (by decide) ?_
  refine aw_iload_n (q := 8) gdX7_code_0.2.2.2.2.1 rfl 1 rfl ?_
  refine aw_imul (q := 9) gdX7_code_0.2.2.2.2.2.1 rfl ?_
  refine aw_iadd (q := 10) gdX7_code_0.2.2.2.2.2.2.1 rfl ?_
  refine aw_iload_n (q := 11) gdX7_code_0.2.2.2.2.2.2.2 rfl 2 rfl ?_
  refine aw_iadd (q := 12) gdX7_code_11.1 rfl ?_
  exact aw_ireturn (w := []) [] gdX7_code_11.2 rfl rfl rfl rfl (PN.mk (fun _ => 0) rfl rfl)
def fX7_kindOf (N K : Nat) (p0 : Int32) : Option (Int32) :=
  (some (p0 / (1024 : Int32)))
set_option maxHeartbeats 4000000 in
set_option maxRecDepth 100000 in
theorem ok_X7_kindOf {N K : Nat} {p0 : Int32} {xr : Int32} (hE : fX7_kindOf N K p0 = some xr) : OkM yX7_kindOf (.code yX7_kindOf cX7_kindOf 1 (some .int)) (0) 0 0 [.int p0] [] ((PN (U := Int32) (fun zz _ => some (.int zz)) (fun zz ad => [])) xr) := by
  refine ok_of (by decide) (Nat.le_of_ble_eq_true rfl) hE ?_
  refine aw_locals (lv' := [(0, .int p0)]) [0] rfl ?_
  refine aw_iload_n (q := 1) gdX7_kindOf_0.1 rfl 0 rfl ?_
  refine aw_sipush (q := 4) (v := 1024) gdX7_kindOf_0.2.1 rfl (by decide) ?_
  refine aw_idivT (q := 5) gdX7_kindOf_0.2.2.1 rfl (by decide) ?_
  exact aw_ireturn (w := []) [] gdX7_kindOf_0.2.2.2 rfl rfl rfl rfl (PN.mk (fun _ => 0) rfl rfl)
def fX7_numberOf (N K : Nat) (p0 : Int32) : Option (Int32) :=
  (some ((p0 / (32 : Int32)) % (32 : Int32)))
set_option maxHeartbeats 4000000 in
set_option maxRecDepth 100000 in
theorem ok_X7_numberOf {N K : Nat} {p0 : Int32} {xr : Int32} (hE : fX7_numberOf N K p0 = some xr) : OkM yX7_numberOf (.code yX7_numberOf cX7_numberOf 1 (some .int)) (0) 0 0 [.int p0] [] ((PN (U := Int32) (fun zz _ => some (.int zz)) (fun zz ad => [])) xr) := by
  refine ok_of (by decide) (Nat.le_of_ble_eq_true rfl) hE ?_
  refine aw_locals (lv' := [(0, .int p0)]) [0] rfl ?_
  refine aw_iload_n (q := 1) gdX7_numberOf_0.1 rfl 0 rfl ?_
  refine aw_bipush (q := 3) (v := 32) gdX7_numberOf_0.2.1 rfl (by decide) ?_
  refine aw_idivT (q := 4) gdX7_numberOf_0.2.2.1 rfl (by decide) ?_
  refine aw_bipush (q := 6) (v := 32) gdX7_numberOf_0.2.2.2.1 rfl (by decide) ?_
  refine aw_iremT (q := 7) gdX7_numberOf_0.2.2.2.2.1 rfl (by decide) ?_
  exact aw_ireturn (w := []) [] gdX7_numberOf_0.2.2.2.2.2 rfl rfl rfl rfl (PN.mk (fun _ => 0) rfl rfl)
def fX7_measureOf (N K : Nat) (p0 : Int32) : Option (Int32) :=
  (some (p0 % (32 : Int32)))
set_option maxHeartbeats 4000000 in
set_option maxRecDepth 100000 in
theorem ok_X7_measureOf {N K : Nat} {p0 : Int32} {xr : Int32} (hE : fX7_measureOf N K p0 = some xr) : OkM yX7_measureOf (.code yX7_measureOf cX7_measureOf 1 (some .int)) (0) 0 0 [.int p0] [] ((PN (U := Int32) (fun zz _ => some (.int zz)) (fun zz ad => [])) xr) := by
  refine ok_of (by decide) (Nat.le_of_ble_eq_true rfl) hE ?_
  refine aw_locals (lv' := [(0, .int p0)]) [0] rfl ?_
  refine aw_iload_n (q := 1) gdX7_measureOf_0.1 rfl 0 rfl ?_
  refine aw_bipush (q := 3) (v := 32) gdX7_measureOf_0.2.1 rfl (by decide) ?_
  refine aw_iremT (q := 4) gdX7_measureOf_0.2.2.1 rfl (by decide) ?_
  exact aw_ireturn (w := []) [] gdX7_measureOf_0.2.2.2 rfl rfl rfl rfl (PN.mk (fun _ => 0) rfl rfl)
def fX7_rests (N K : Nat) (p0 : Int32) (p1 : Int32) : Option (Int32) :=
  (if p0 ≤ 0 then (some (1 : Int32)) else (if p1 = 0 then (some (1 : Int32)) else (some (0 : Int32))))
set_option maxHeartbeats 4000000 in
set_option maxRecDepth 100000 in
theorem ok_X7_rests {N K : Nat} {p0 : Int32} {p1 : Int32} {xr : Int32} (hE : fX7_rests N K p0 p1 = some xr) : OkM yX7_rests (.code yX7_rests cX7_rests 2 (some .boolean)) (0) 0 0 [.int p0, .int p1] [] ((PN (U := Int32) (fun zz _ => some (.int zz)) (fun zz ad => [])) xr) := by
  refine ok_of (by decide) (Nat.le_of_ble_eq_true rfl) hE ?_
  refine aw_locals (lv' := [(0, .int p0), (1, .int p1)]) [0, 1] rfl ?_
  refine aw_iload_n (q := 1) gdX7_rests_0.1 rfl 0 rfl ?_
  refine aw_if_le (tgt := 8) (q := 4) gdX7_rests_0.2.1 (by decide) rfl (fun h_1 => ?_) (fun h_1 => ?_)
  · refine aw_iconst (q := 9) (v := 1) gdX7_rests_0.2.2.2.2.1 rfl (by decide) ?_
    refine aw_goto (tgt := 13) gdX7_rests_0.2.2.2.2.2.1 (by decide) ?_
    exact aw_ireturn (w := []) [] gdX7_rests_0.2.2.2.2.2.2.2 rfl rfl rfl rfl (PN.mk (fun _ => 0) rfl rfl)
  · refine aw_iload_n (q := 5) gdX7_rests_0.2.2.1 rfl 1 rfl ?_
    refine aw_if_ne (tgt := 12) (q := 8) gdX7_rests_0.2.2.2.1 (by decide) rfl (fun h_5 => ?_) (fun h_5 => ?_)
    · refine aw_iconst (q := 13) (v := 0) gdX7_rests_0.2.2.2.2.2.2.1 rfl (by decide) ?_
      exact aw_ireturn (w := []) [] gdX7_rests_0.2.2.2.2.2.2.2 rfl rfl rfl rfl (PN.mk (fun _ => 0) rfl rfl)
    · refine aw_iconst (q := 9) (v := 1) gdX7_rests_0.2.2.2.2.1 rfl (by decide) ?_
      refine aw_goto (tgt := 13) gdX7_rests_0.2.2.2.2.2.1 (by decide) ?_
      exact aw_ireturn (w := []) [] gdX7_rests_0.2.2.2.2.2.2.2 rfl rfl rfl rfl (PN.mk (fun _ => 0) rfl rfl)
def fX7_hasLeg (N K : Nat) (p0 : Int32) (p1 : Int32) (p2 : Int32) : Option (Int32) :=
  (if p2 = 0 then (some (1 : Int32)) else (if (p1 % (2 : Int32)) = (1 : Int32) then (some (1 : Int32)) else (if p0 = (3 : Int32) then (some (0 : Int32)) else (if p0 = (4 : Int32) then (some (0 : Int32)) else (some (1 : Int32))))))
set_option maxHeartbeats 4000000 in
set_option maxRecDepth 100000 in
theorem ok_X7_hasLeg {N K : Nat} {p0 : Int32} {p1 : Int32} {p2 : Int32} {xr : Int32} (hE : fX7_hasLeg N K p0 p1 p2 = some xr) : OkM yX7_hasLeg (.code yX7_hasLeg cX7_hasLeg 3 (some .boolean)) (0) 0 0 [.int p0, .int p1, .int p2] [] ((PN (U := Int32) (fun zz _ => some (.int zz)) (fun zz ad => [])) xr) := by
  refine ok_of (by decide) (Nat.le_of_ble_eq_true rfl) hE ?_
  refine aw_locals (lv' := [(0, .int p0), (1, .int p1), (2, .int p2)]) [0, 1, 2] rfl ?_
  refine aw_iload_n (q := 1) gdX7_hasLeg_0.1 rfl 2 rfl ?_
  refine aw_if_eq (tgt := 21) (q := 4) gdX7_hasLeg_0.2.1 (by decide) rfl (fun h_1 => ?_) (fun h_1 => ?_)
  · refine aw_iconst (q := 22) (v := 1) gdX7_hasLeg_12.2.2.2.2.2.1 rfl (by decide) ?_
    refine aw_goto (tgt := 26) gdX7_hasLeg_12.2.2.2.2.2.2.1 (by decide) ?_
    exact aw_ireturn (w := []) [] dX7_hasLeg_26 rfl rfl rfl rfl (PN.mk (fun _ => 0) rfl rfl)
  · refine aw_iload_n (q := 5) gdX7_hasLeg_0.2.2.1 rfl 1 rfl ?_
    refine aw_iconst (q := 6) (v := 2) gdX7_hasLeg_0.2.2.2.1 rfl (by decide) ?_
    refine aw_iremT (q := 7) gdX7_hasLeg_0.2.2.2.2.1 rfl (by decide) ?_
    refine aw_iconst (q := 8) (v := 1) gdX7_hasLeg_0.2.2.2.2.2.1 rfl (by decide) ?_
    refine aw_icmp_eq (tgt := 21) (q := 11) gdX7_hasLeg_0.2.2.2.2.2.2.1 (by decide) rfl (fun h_8 => ?_) (fun h_8 => ?_)
    · refine aw_iconst (q := 22) (v := 1) gdX7_hasLeg_12.2.2.2.2.2.1 rfl (by decide) ?_
      refine aw_goto (tgt := 26) gdX7_hasLeg_12.2.2.2.2.2.2.1 (by decide) ?_
      exact aw_ireturn (w := []) [] dX7_hasLeg_26 rfl rfl rfl rfl (PN.mk (fun _ => 0) rfl rfl)
    · refine aw_iload_n (q := 12) gdX7_hasLeg_0.2.2.2.2.2.2.2 rfl 0 rfl ?_
      refine aw_iconst (q := 13) (v := 3) gdX7_hasLeg_12.1 rfl (by decide) ?_
      refine aw_icmp_eq (tgt := 25) (q := 16) gdX7_hasLeg_12.2.1 (by decide) rfl (fun h_13 => ?_) (fun h_13 => ?_)
      · refine aw_iconst (q := 26) (v := 0) gdX7_hasLeg_12.2.2.2.2.2.2.2 rfl (by decide) ?_
        exact aw_ireturn (w := []) [] dX7_hasLeg_26 rfl rfl rfl rfl (PN.mk (fun _ => 0) rfl rfl)
      · refine aw_iload_n (q := 17) gdX7_hasLeg_12.2.2.1 rfl 0 rfl ?_
        refine aw_iconst (q := 18) (v := 4) gdX7_hasLeg_12.2.2.2.1 rfl (by decide) ?_
        refine aw_icmp_eq (tgt := 25) (q := 21) gdX7_hasLeg_12.2.2.2.2.1 (by decide) rfl (fun h_18 => ?_) (fun h_18 => ?_)
        · refine aw_iconst (q := 26) (v := 0) gdX7_hasLeg_12.2.2.2.2.2.2.2 rfl (by decide) ?_
          exact aw_ireturn (w := []) [] dX7_hasLeg_26 rfl rfl rfl rfl (PN.mk (fun _ => 0) rfl rfl)
        · refine aw_iconst (q := 22) (v := 1) gdX7_hasLeg_12.2.2.2.2.2.1 rfl (by decide) ?_
          refine aw_goto (tgt := 26) gdX7_hasLeg_12.2.2.2.2.2.2.1 (by decide) ?_
          exact aw_ireturn (w := []) [] dX7_hasLeg_26 rfl rfl rfl rfl (PN.mk (fun _ => 0) rfl rfl)
def fX7_legNumber (N K : Nat) (p0 : Int32) (p1 : Int32) (p2 : Int32) (p3 : Int32) : Option (Int32) :=
  (if p3 = (1 : Int32) then (some (p1 - p2)) else (if p0 = (5 : Int32) then (some (p1 - p2)) else (if p0 = (1 : Int32) then (some (p1 - (1 : Int32))) else (some p1))))
set_option maxHeartbeats 4000000 in
set_option maxRecDepth 100000 in
theorem ok_X7_legNumber {N K : Nat} {p0 : Int32} {p1 : Int32} {p2 : Int32} {p3 : Int32} {xr : Int32} (hE : fX7_legNumber N K p0 p1 p2 p3 = some xr) : OkM yX7_legNumber (.code yX7_legNumber cX7_legNumber 4 (some .int)) (0) 0 0 [.int p0, .int p1, .int p2, .int p3] [] ((PN (U := Int32) (fun zz _ => some (.int zz)) (fun zz ad => [])) xr) := by
  refine ok_of (by decide) (Nat.le_of_ble_eq_true rfl) hE ?_
  refine aw_locals (lv' := [(0, .int p0), (1, .int p1), (2, .int p2), (3, .int p3)]) [0, 1, 2, 3] rfl ?_
  refine aw_iload_n (q := 1) gdX7_legNumber_0.1 rfl 3 rfl ?_
  refine aw_iconst (q := 2) (v := 1) gdX7_legNumber_0.2.1 rfl (by decide) ?_
  refine aw_icmp_eq (tgt := 10) (q := 5) gdX7_legNumber_0.2.2.1 (by decide) rfl (fun h_2 => ?_) (fun h_2 => ?_)
  · refine aw_iload_n (q := 11) gdX7_legNumber_0.2.2.2.2.2.2.1 rfl 1 rfl ?_
    refine aw_iload_n (q := 12) gdX7_legNumber_0.2.2.2.2.2.2.2 rfl 2 rfl ?_
    refine aw_isub (q := 13) gdX7_legNumber_12.1 rfl ?_
    exact aw_ireturn (w := []) [] gdX7_legNumber_12.2.1 rfl rfl rfl rfl (PN.mk (fun _ => 0) rfl rfl)
  · refine aw_iload_n (q := 6) gdX7_legNumber_0.2.2.2.1 rfl 0 rfl ?_
    refine aw_iconst (q := 7) (v := 5) gdX7_legNumber_0.2.2.2.2.1 rfl (by decide) ?_
    refine aw_icmp_ne (tgt := 14) (q := 10) gdX7_legNumber_0.2.2.2.2.2.1 (by decide) rfl (fun h_7 => ?_) (fun h_7 => ?_)
    · refine aw_iload_n (q := 15) gdX7_legNumber_12.2.2.1 rfl 0 rfl ?_
      refine aw_iconst (q := 16) (v := 1) gdX7_legNumber_12.2.2.2.1 rfl (by decide) ?_
      refine aw_icmp_ne (tgt := 25) (q := 19) gdX7_legNumber_12.2.2.2.2.1 (by decide) rfl (fun h_16 => ?_) (fun h_16 => ?_)
      · refine aw_iload_n (q := 26) gdX7_legNumber_22.2.1 rfl 1 rfl ?_
        exact aw_ireturn (w := []) [] gdX7_legNumber_22.2.2 rfl rfl rfl rfl (PN.mk (fun _ => 0) rfl rfl)
      · refine aw_iload_n (q := 20) gdX7_legNumber_12.2.2.2.2.2.1 rfl 1 rfl ?_
        refine aw_iconst (q := 21) (v := 1) gdX7_legNumber_12.2.2.2.2.2.2.1 rfl (by decide) ?_
        refine aw_isub (q := 22) gdX7_legNumber_12.2.2.2.2.2.2.2 rfl ?_
        refine aw_goto (tgt := 26) gdX7_legNumber_22.1 (by decide) ?_
        exact aw_ireturn (w := []) [] gdX7_legNumber_22.2.2 rfl rfl rfl rfl (PN.mk (fun _ => 0) rfl rfl)
    · refine aw_iload_n (q := 11) gdX7_legNumber_0.2.2.2.2.2.2.1 rfl 1 rfl ?_
      refine aw_iload_n (q := 12) gdX7_legNumber_0.2.2.2.2.2.2.2 rfl 2 rfl ?_
      refine aw_isub (q := 13) gdX7_legNumber_12.1 rfl ?_
      exact aw_ireturn (w := []) [] gdX7_legNumber_12.2.1 rfl rfl rfl rfl (PN.mk (fun _ => 0) rfl rfl)
def fX7_legMeasure_36 (N K : Nat) (p0 : Int32) (p1 : Int32) (p2 : Int32) (s0 : Int32) : Option (Int32) :=
  (if s0 = 0 then (some (p1 - (1 : Int32))) else (some p1))
set_option maxHeartbeats 4000000 in
set_option maxRecDepth 100000 in
theorem tX7_legMeasure_36 {N K : Nat} {p0 : Int32} {p1 : Int32} {p2 : Int32} : ∀ (s0 : Int32), AW RX7 "legMeasure" cX7_legMeasure 4 (some .int) [] (fun _ _ => True) (0) (PN (U := Int32) (fun zz _ => some (.int zz)) (fun zz ad => [])) 0 0 (fX7_legMeasure_36 N K p0 p1 p2  s0) 36 [(1, .int p1)] [.int s0] [] := by
  intro s0
  refine aw_istore_n (q := 37) (lv' := [(3, .int s0), (1, .int p1)]) gdX7_legMeasure_28.2.2.2.2.1 rfl (by decide) rfl ?_
  refine aw_iload_n (q := 38) gdX7_legMeasure_28.2.2.2.2.2.1 rfl 0 rfl ?_
  refine aw_if_eq (tgt := 45) (q := 41) gdX7_legMeasure_28.2.2.2.2.2.2.1 (by decide) rfl (fun h_38 => ?_) (fun h_38 => ?_)
  · refine aw_iload_n (q := 46) gdX7_legMeasure_42.2.1 rfl 1 rfl ?_
    refine aw_iconst (q := 47) (v := 1) gdX7_legMeasure_42.2.2.1 rfl (by decide) ?_
    refine aw_isub (q := 48) gdX7_legMeasure_42.2.2.2.1 rfl ?_
    exact aw_ireturn (w := []) [] gdX7_legMeasure_42.2.2.2.2 rfl rfl rfl rfl (PN.mk (fun _ => 0) rfl rfl)
  · refine aw_iload_n (q := 42) gdX7_legMeasure_28.2.2.2.2.2.2.2 rfl 1 rfl ?_
    refine aw_goto (tgt := 48) gdX7_legMeasure_42.1 (by decide) ?_
    exact aw_ireturn (w := []) [] gdX7_legMeasure_42.2.2.2.2 rfl rfl rfl rfl (PN.mk (fun _ => 0) rfl rfl)
def fX7_legMeasure_31 (N K : Nat) (p0 : Int32) (p1 : Int32) (p2 : Int32)  : Option (Int32) :=
  fX7_legMeasure_36 N K p0 p1 p2  (1 : Int32)
set_option maxHeartbeats 4000000 in
set_option maxRecDepth 100000 in
theorem tX7_legMeasure_31 {N K : Nat} {p0 : Int32} {p1 : Int32} {p2 : Int32} : AW RX7 "legMeasure" cX7_legMeasure 4 (some .int) [] (fun _ _ => True) (0) (PN (U := Int32) (fun zz _ => some (.int zz)) (fun zz ad => [])) 0 0 (fX7_legMeasure_31 N K p0 p1 p2  ) 31 [(1, .int p1)] [] [] := by
  refine aw_iconst (q := 32) (v := 1) gdX7_legMeasure_28.2.1 rfl (by decide) ?_
  refine aw_goto (tgt := 36) gdX7_legMeasure_28.2.2.1 (by decide) ?_
  exact tX7_legMeasure_36  _
def fX7_legMeasure (N K : Nat) (p0 : Int32) (p1 : Int32) (p2 : Int32) : Option (Int32) :=
  (if p2 = 0 then (if p0 = (5 : Int32) then fX7_legMeasure_36 N K p0 p1 p2  (1 : Int32) else fX7_legMeasure_36 N K p0 p1 p2  (0 : Int32)) else (if p0 = 0 then fX7_legMeasure_31 N K p0 p1 p2   else (if p0 = (1 : Int32) then fX7_legMeasure_31 N K p0 p1 p2   else (if p0 = (3 : Int32) then fX7_legMeasure_31 N K p0 p1 p2   else fX7_legMeasure_36 N K p0 p1 p2  (0 : Int32)))))
set_option maxHeartbeats 4000000 in
set_option maxRecDepth 100000 in
theorem ok_X7_legMeasure {N K : Nat} {p0 : Int32} {p1 : Int32} {p2 : Int32} {xr : Int32} (hE : fX7_legMeasure N K p0 p1 p2 = some xr) : OkM yX7_legMeasure (.code yX7_legMeasure cX7_legMeasure 4 (some .int)) (0) 0 0 [.int p0, .int p1, .int p2] [] ((PN (U := Int32) (fun zz _ => some (.int zz)) (fun zz ad => [])) xr) := by
  refine ok_of (by decide) (Nat.le_of_ble_eq_true rfl) hE ?_
  refine aw_locals (lv' := [(0, .int p0), (1, .int p1), (2, .int p2)]) [0, 1, 2] rfl ?_
  refine aw_iload_n (q := 1) gdX7_legMeasure_0.1 rfl 2 rfl ?_
  refine aw_if_ne (tgt := 17) (q := 4) gdX7_legMeasure_0.2.1 (by decide) rfl (fun h_1 => ?_) (fun h_1 => ?_)
  · refine aw_iload_n (q := 18) gdX7_legMeasure_14.2.1 rfl 0 rfl ?_
    refine aw_if_eq (tgt := 31) (q := 21) gdX7_legMeasure_14.2.2.1 (by decide) rfl (fun h_18 => ?_) (fun h_18 => ?_)
    · refine aw_locals (lv' := [(1, .int p1)]) [1] rfl ?_
      exact tX7_legMeasure_31  
    · refine aw_iload_n (q := 22) gdX7_legMeasure_14.2.2.2.1 rfl 0 rfl ?_
      refine aw_iconst (q := 23) (v := 1) gdX7_legMeasure_14.2.2.2.2.1 rfl (by decide) ?_
      refine aw_icmp_eq (tgt := 31) (q := 26) gdX7_legMeasure_14.2.2.2.2.2.1 (by decide) rfl (fun h_23 => ?_) (fun h_23 => ?_)
      · refine aw_locals (lv' := [(1, .int p1)]) [1] rfl ?_
        exact tX7_legMeasure_31  
      · refine aw_iload_n (q := 27) gdX7_legMeasure_14.2.2.2.2.2.2.1 rfl 0 rfl ?_
        refine aw_iconst (q := 28) (v := 3) gdX7_legMeasure_14.2.2.2.2.2.2.2 rfl (by decide) ?_
        refine aw_icmp_ne (tgt := 35) (q := 31) gdX7_legMeasure_28.1 (by decide) rfl (fun h_28 => ?_) (fun h_28 => ?_)
        · refine aw_iconst (q := 36) (v := 0) gdX7_legMeasure_28.2.2.2.1 rfl (by decide) ?_
          refine aw_locals (lv' := [(1, .int p1)]) [1] rfl ?_
          exact tX7_legMeasure_36  _
        · refine aw_locals (lv' := [(1, .int p1)]) [1] rfl ?_
          exact tX7_legMeasure_31  
  · refine aw_iload_n (q := 5) gdX7_legMeasure_0.2.2.1 rfl 0 rfl ?_
    refine aw_iconst (q := 6) (v := 5) gdX7_legMeasure_0.2.2.2.1 rfl (by decide) ?_
    refine aw_icmp_ne (tgt := 13) (q := 9) gdX7_legMeasure_0.2.2.2.2.1 (by decide) rfl (fun h_6 => ?_) (fun h_6 => ?_)
    · refine aw_iconst (q := 14) (v := 0) gdX7_legMeasure_0.2.2.2.2.2.2.2 rfl (by decide) ?_
      refine aw_goto (tgt := 36) gdX7_legMeasure_14.1 (by decide) ?_
      refine aw_locals (lv' := [(1, .int p1)]) [1] rfl ?_
      exact tX7_legMeasure_36  _
    · refine aw_iconst (q := 10) (v := 1) gdX7_legMeasure_0.2.2.2.2.2.1 rfl (by decide) ?_
      refine aw_goto (tgt := 36) gdX7_legMeasure_0.2.2.2.2.2.2.1 (by decide) ?_
      refine aw_locals (lv' := [(1, .int p1)]) [1] rfl ?_
      exact tX7_legMeasure_36  _
def fX7_thrown (N K : Nat) (th : Int32) : Option (Int32) :=
  (some th)
set_option maxHeartbeats 4000000 in
set_option maxRecDepth 100000 in
theorem ok_X7_thrown {N K : Nat} {m Mo Lo Do tl ca : Nat} {th : Int32} {xr : Int32} (hE : fX7_thrown N K th = some xr) : OkM yX7_thrown (.code yX7_thrown cX7_thrown 1 (some .int)) (0) 0 0 [.ref m] [(m, .inr (9, [.ref Mo, .ref Lo, .ref Do, .ref tl, .ref ca, .int th]))] ((PN (U := Int32) (fun zz _ => some (.int zz)) (fun zz ad => [(m, .inr (9, [.ref Mo, .ref Lo, .ref Do, .ref tl, .ref ca, .int th]))])) xr) := by
  refine ok_of (by decide) (Nat.le_of_ble_eq_true rfl) hE ?_
  refine aw_locals (lv' := [(0, .ref m)]) [0] rfl ?_
  refine aw_aload_n (q := 1) gdX7_thrown_0.1 rfl 0 rfl ?_
  refine aw_get (q := 4) gdX7_thrown_0.2.1 rfl fl_X7_27 0 rfl rfl ?_
  exact aw_ireturn (w := [(m, .inr (9, [.ref Mo, .ref Lo, .ref Do, .ref tl, .ref ca, .int th]))]) [0] gdX7_thrown_0.2.2 rfl rfl rfl rfl (PN.mk (fun _ => 0) rfl rfl)
def fX7_isThrown_18 (N K : Nat) (th : Int32) (p0 : Int32) (p1 : Int32) (s0 : Int32) (th_ : Int32) : Option (Int32 × Int32) :=
  (if s0 ≤ 0 then (some ((0 : Int32), s0)) else (some ((1 : Int32), s0)))
set_option maxHeartbeats 4000000 in
set_option maxRecDepth 100000 in
theorem tX7_isThrown_18 {N K : Nat} {m Mo Lo Do tl ca : Nat} {th : Int32} {p0 : Int32} {p1 : Int32} : ∀ (s0 : Int32) (th_ : Int32), AW RX7 "isThrown" cX7_isThrown 3 (some .boolean) [] (fun _ _ => True) (0) (PN (U := Int32 × Int32) (fun zz _ => some (.int zz.1)) (fun zz ad => [(m, .inr (9, [.ref Mo, .ref Lo, .ref Do, .ref tl, .ref ca, .int zz.2]))])) 0 0 (fX7_isThrown_18 N K th p0 p1  s0 th_) 18 [(0, .ref m)] [.int s0, .ref m] [(m, .inr (9, [.ref Mo, .ref Lo, .ref Do, .ref tl, .ref ca, .int th_]))] := by
  intro s0 th_
  refine aw_put (q := 21) (ws' := [(m, .inr (9, [.ref Mo, .ref Lo, .ref Do, .ref tl, .ref ca, .int s0]))]) gdX7_isThrown_14.2.2.1 rfl fl_X7_27 0 rfl rfl rfl (Nat.le_of_ble_eq_true rfl) rfl ?_
  refine aw_aload_n (q := 22) gdX7_isThrown_14.2.2.2.1 rfl 0 rfl ?_
  refine aw_get (q := 25) gdX7_isThrown_14.2.2.2.2.1 rfl fl_X7_27 0 rfl rfl ?_
  refine aw_if_le (tgt := 32) (q := 28) gdX7_isThrown_14.2.2.2.2.2.1 (by decide) rfl (fun h_25 => ?_) (fun h_25 => ?_)
  · refine aw_iconst (q := 33) (v := 0) gdX7_isThrown_32.1 rfl (by decide) ?_
    exact aw_ireturn (w := [(m, .inr (9, [.ref Mo, .ref Lo, .ref Do, .ref tl, .ref ca, .int s0]))]) [0] gdX7_isThrown_32.2 rfl rfl rfl rfl (PN.mk (fun _ => 0) rfl rfl)
  · refine aw_iconst (q := 29) (v := 1) gdX7_isThrown_14.2.2.2.2.2.2.1 rfl (by decide) ?_
    refine aw_goto (tgt := 33) gdX7_isThrown_14.2.2.2.2.2.2.2 (by decide) ?_
    exact aw_ireturn (w := [(m, .inr (9, [.ref Mo, .ref Lo, .ref Do, .ref tl, .ref ca, .int s0]))]) [0] gdX7_isThrown_32.2 rfl rfl rfl rfl (PN.mk (fun _ => 0) rfl rfl)
def fX7_isThrown (N K : Nat) (th : Int32) (p0 : Int32) (p1 : Int32) : Option (Int32 × Int32) :=
  (if p0 = 0 then (if p1 = 0 then fX7_isThrown_18 N K th p0 p1  (0 : Int32) th else fX7_isThrown_18 N K th p0 p1  (2 : Int32) th) else fX7_isThrown_18 N K th p0 p1  (1 : Int32) th)
set_option maxHeartbeats 4000000 in
set_option maxRecDepth 100000 in
theorem ok_X7_isThrown {N K : Nat} {m Mo Lo Do tl ca : Nat} {th : Int32} {p0 : Int32} {p1 : Int32} {xr : Int32 × Int32} (hE : fX7_isThrown N K th p0 p1 = some xr) : OkM yX7_isThrown (.code yX7_isThrown cX7_isThrown 3 (some .boolean)) (0) 0 0 [.ref m, .int p0, .int p1] [(m, .inr (9, [.ref Mo, .ref Lo, .ref Do, .ref tl, .ref ca, .int th]))] ((PN (U := Int32 × Int32) (fun zz _ => some (.int zz.1)) (fun zz ad => [(m, .inr (9, [.ref Mo, .ref Lo, .ref Do, .ref tl, .ref ca, .int zz.2]))])) xr) := by
  refine ok_of (by decide) (Nat.le_of_ble_eq_true rfl) hE ?_
  refine aw_locals (lv' := [(0, .ref m), (1, .int p0), (2, .int p1)]) [0, 1, 2] rfl ?_
  refine aw_aload_n (q := 1) gdX7_isThrown_0.1 rfl 0 rfl ?_
  refine aw_iload_n (q := 2) gdX7_isThrown_0.2.1 rfl 1 rfl ?_
  refine aw_if_eq (tgt := 9) (q := 5) gdX7_isThrown_0.2.2.1 (by decide) rfl (fun h_2 => ?_) (fun h_2 => ?_)
  · refine aw_iload_n (q := 10) gdX7_isThrown_0.2.2.2.2.2.1 rfl 2 rfl ?_
    refine aw_if_eq (tgt := 17) (q := 13) gdX7_isThrown_0.2.2.2.2.2.2.1 (by decide) rfl (fun h_10 => ?_) (fun h_10 => ?_)
    · refine aw_iconst (q := 18) (v := 0) gdX7_isThrown_14.2.1 rfl (by decide) ?_
      refine aw_locals (lv' := [(0, .ref m)]) [0] rfl ?_
      exact tX7_isThrown_18  _ _
    · refine aw_iconst (q := 14) (v := 2) gdX7_isThrown_0.2.2.2.2.2.2.2 rfl (by decide) ?_
      refine aw_goto (tgt := 18) gdX7_isThrown_14.1 (by decide) ?_
      refine aw_locals (lv' := [(0, .ref m)]) [0] rfl ?_
      exact tX7_isThrown_18  _ _
  · refine aw_iconst (q := 6) (v := 1) gdX7_isThrown_0.2.2.2.1 rfl (by decide) ?_
    refine aw_goto (tgt := 18) gdX7_isThrown_0.2.2.2.2.1 (by decide) ?_
    refine aw_locals (lv' := [(0, .ref m)]) [0] rfl ?_
    exact tX7_isThrown_18  _ _
def fX7_done (N K : Nat) (th : Int32) (t : Nat → Int32) (p0 : Int32) : Option (Int32 × (Nat → Int32)) :=
  (some (p0, (upd t (0 : Int32).toNatClampNeg ((t (0 : Int32).toNatClampNeg) + (1 : Int32)))))
set_option maxHeartbeats 4000000 in
set_option maxRecDepth 100000 in
theorem ok_X7_done {N K : Nat} {m Mo Lo Do tl ca : Nat} {th : Int32} {t : Nat → Int32} {p0 : Int32} {xr : Int32 × (Nat → Int32)} (hE : fX7_done N K th t p0 = some xr) : OkM yX7_done (.code yX7_done cX7_done 2 (some .int)) (0) 0 0 [.ref m, .int p0] [(m, .inr (9, [.ref Mo, .ref Lo, .ref Do, .ref tl, .ref ca, .int th])), (tl, .inl (0, 6, .inl t))] ((PN (U := Int32 × (Nat → Int32)) (fun zz _ => some (.int zz.1)) (fun zz ad => [(m, .inr (9, [.ref Mo, .ref Lo, .ref Do, .ref tl, .ref ca, .int th])), (tl, .inl (0, 6, .inl zz.2))])) xr) := by
  refine ok_of (by decide) (Nat.le_of_ble_eq_true rfl) hE ?_
  refine aw_locals (lv' := [(0, .ref m), (1, .int p0)]) [0, 1] rfl ?_
  refine aw_aload_n (q := 1) gdX7_done_0.1 rfl 0 rfl ?_
  refine aw_get (q := 4) gdX7_done_0.2.1 rfl fl_X7_20 0 rfl rfl ?_
  refine aw_iconst (q := 5) (v := 0) gdX7_done_0.2.2.1 rfl (by decide) ?_
  refine aw_dup2 (q := 6) gdX7_done_0.2.2.2.1 rfl rfl rfl ?_
  refine aw_ialdT (q := 7) (by decide) gdX7_done_0.2.2.2.2.1 rfl 1 rfl ?_
  refine aw_iconst (q := 8) (v := 1) gdX7_done_0.2.2.2.2.2.1 rfl (by decide) ?_
  refine aw_iadd (q := 9) gdX7_done_0.2.2.2.2.2.2.1 rfl ?_
  refine aw_iastT (q := 10) (ws' := [(m, .inr (9, [.ref Mo, .ref Lo, .ref Do, .ref tl, .ref ca, .int th])), (tl, .inl (0, 6, .inl (upd t (0 : Int32).toNatClampNeg ((t (0 : Int32).toNatClampNeg) + (1 : Int32)))))]) (by decide) gdX7_done_0.2.2.2.2.2.2.2 rfl 1 rfl rfl ?_
  refine aw_iload_n (q := 11) gdX7_done_10.1 rfl 1 rfl ?_
  exact aw_ireturn (w := [(m, .inr (9, [.ref Mo, .ref Lo, .ref Do, .ref tl, .ref ca, .int th])), (tl, .inl (0, 6, .inl (upd t (0 : Int32).toNatClampNeg ((t (0 : Int32).toNatClampNeg) + (1 : Int32)))))]) [0, 1] gdX7_done_10.2 rfl rfl rfl rfl (PN.mk (fun _ => 0) rfl rfl)
def fX7_refused (N K : Nat) (th : Int32) (t : Nat → Int32) : Option (Int32 × (Nat → Int32)) :=
  (some ((-9 : Int32), (upd t (4 : Int32).toNatClampNeg ((t (4 : Int32).toNatClampNeg) + (1 : Int32)))))
set_option maxHeartbeats 4000000 in
set_option maxRecDepth 100000 in
theorem ok_X7_refused {N K : Nat} {m Mo Lo Do tl ca : Nat} {th : Int32} {t : Nat → Int32} {xr : Int32 × (Nat → Int32)} (hE : fX7_refused N K th t = some xr) : OkM yX7_refused (.code yX7_refused cX7_refused 1 (some .int)) (0) 0 0 [.ref m] [(m, .inr (9, [.ref Mo, .ref Lo, .ref Do, .ref tl, .ref ca, .int th])), (tl, .inl (0, 6, .inl t))] ((PN (U := Int32 × (Nat → Int32)) (fun zz _ => some (.int zz.1)) (fun zz ad => [(m, .inr (9, [.ref Mo, .ref Lo, .ref Do, .ref tl, .ref ca, .int th])), (tl, .inl (0, 6, .inl zz.2))])) xr) := by
  refine ok_of (by decide) (Nat.le_of_ble_eq_true rfl) hE ?_
  refine aw_locals (lv' := [(0, .ref m)]) [0] rfl ?_
  refine aw_aload_n (q := 1) gdX7_refused_0.1 rfl 0 rfl ?_
  refine aw_get (q := 4) gdX7_refused_0.2.1 rfl fl_X7_20 0 rfl rfl ?_
  refine aw_iconst (q := 5) (v := 4) gdX7_refused_0.2.2.1 rfl (by decide) ?_
  refine aw_dup2 (q := 6) gdX7_refused_0.2.2.2.1 rfl rfl rfl ?_
  refine aw_ialdT (q := 7) (by decide) gdX7_refused_0.2.2.2.2.1 rfl 1 rfl ?_
  refine aw_iconst (q := 8) (v := 1) gdX7_refused_0.2.2.2.2.2.1 rfl (by decide) ?_
  refine aw_iadd (q := 9) gdX7_refused_0.2.2.2.2.2.2.1 rfl ?_
  refine aw_iastT (q := 10) (ws' := [(m, .inr (9, [.ref Mo, .ref Lo, .ref Do, .ref tl, .ref ca, .int th])), (tl, .inl (0, 6, .inl (upd t (4 : Int32).toNatClampNeg ((t (4 : Int32).toNatClampNeg) + (1 : Int32)))))]) (by decide) gdX7_refused_0.2.2.2.2.2.2.2 rfl 1 rfl rfl ?_
  refine aw_bipush (q := 12) (v := (-9)) gdX7_refused_10.1 rfl (by decide) ?_
  exact aw_ireturn (w := [(m, .inr (9, [.ref Mo, .ref Lo, .ref Do, .ref tl, .ref ca, .int th])), (tl, .inl (0, 6, .inl (upd t (4 : Int32).toNatClampNeg ((t (4 : Int32).toNatClampNeg) + (1 : Int32)))))]) [0, 1] gdX7_refused_10.2 rfl rfl rfl rfl (PN.mk (fun _ => 0) rfl rfl)
def fX7_worth_48 (N K : Nat) (th : Int32) (f : Nat → Int32) (p0 : Int32) (p1 : Int32) (p2 : Int32) (p3 : Int32) (s0 : Int32) : Option (Int32) :=
  ((fX7_bit N K s0).bind (fun x48 => (some x48)))
set_option maxHeartbeats 4000000 in
set_option maxRecDepth 100000 in
theorem tX7_worth_48 {N K : Nat} {m Mo Lo Do tl ca q : Nat} {mm : Nat → Option Nat} {th : Int32} {f : Nat → Int32} {p0 : Int32} {p1 : Int32} {p2 : Int32} {p3 : Int32} (hm : ¬ (p0 < 0 ∨ 3 ≤ p0.toNatClampNeg) → mm p0.toNatClampNeg = some q) : ∀ (s0 : Int32), AW RX7 "worth" cX7_worth 5 (some .int) [] (fun _ _ => True) (1) (PN (U := Int32) (fun zz _ => some (.int zz)) (fun zz ad => [(m, .inr (9, [.ref Mo, .ref Lo, .ref Do, .ref tl, .ref ca, .int th])), (Mo, .inl (4, 3, .inr (.inr (.inr (.inr mm))))), (q, .inl (0, 6144, .inl f))])) 0 0 (fX7_worth_48 N K th f p0 p1 p2 p3  s0) 48 [] [.int s0] [(m, .inr (9, [.ref Mo, .ref Lo, .ref Do, .ref tl, .ref ca, .int th])), (Mo, .inl (4, 3, .inr (.inr (.inr (.inr mm))))), (q, .inl (0, 6144, .inl f))] := by
  intro s0
  refine aw_call (q := 51) (kc1 := 0) (ks1 := 0) (wc := []) (wr := [(m, .inr (9, [.ref Mo, .ref Lo, .ref Do, .ref tl, .ref ca, .int th])), (Mo, .inl (4, 3, .inr (.inr (.inr (.inr mm))))), (q, .inl (0, 6144, .inl f))]) (st1 := fun x48 g48 => [.int x48]) (ws1 := fun x48 g48 => [(m, .inr (9, [.ref Mo, .ref Lo, .ref Do, .ref tl, .ref ca, .int th])), (Mo, .inl (4, 3, .inr (.inr (.inr (.inr mm))))), (q, .inl (0, 6144, .inl f))]) (As := [.int s0]) [] [0, 1, 2] (fun _ => runS gdX7_worth_43.2.2.2.1 mi_X7_bit st_X7_bit ml_X7_43 (by omega) rfl (Nat.le_of_ble_eq_true rfl) rfl) (fun x9 h9 => ok_X7_bit h9) rfl rfl rfl rfl rfl (by decide +kernel) (by omega) (by omega) (fun _ _ => rfl) (fun _ _ => rfl) (fun x48 g48 => ?_)
  exact aw_ireturn (w := [(m, .inr (9, [.ref Mo, .ref Lo, .ref Do, .ref tl, .ref ca, .int th])), (Mo, .inl (4, 3, .inr (.inr (.inr (.inr mm))))), (q, .inl (0, 6144, .inl f))]) [0, 1, 2] gdX7_worth_43.2.2.2.2 rfl rfl rfl rfl (PN.mk (fun _ => 0) rfl rfl)
def fX7_worth_47 (N K : Nat) (th : Int32) (f : Nat → Int32) (p0 : Int32) (p1 : Int32) (p2 : Int32) (p3 : Int32)  : Option (Int32) :=
  fX7_worth_48 N K th f p0 p1 p2 p3  (0 : Int32)
set_option maxHeartbeats 4000000 in
set_option maxRecDepth 100000 in
theorem tX7_worth_47 {N K : Nat} {m Mo Lo Do tl ca q : Nat} {mm : Nat → Option Nat} {th : Int32} {f : Nat → Int32} {p0 : Int32} {p1 : Int32} {p2 : Int32} {p3 : Int32} (hm : ¬ (p0 < 0 ∨ 3 ≤ p0.toNatClampNeg) → mm p0.toNatClampNeg = some q) : AW RX7 "worth" cX7_worth 5 (some .int) [] (fun _ _ => True) (1) (PN (U := Int32) (fun zz _ => some (.int zz)) (fun zz ad => [(m, .inr (9, [.ref Mo, .ref Lo, .ref Do, .ref tl, .ref ca, .int th])), (Mo, .inl (4, 3, .inr (.inr (.inr (.inr mm))))), (q, .inl (0, 6144, .inl f))])) 0 0 (fX7_worth_47 N K th f p0 p1 p2 p3  ) 47 [] [] [(m, .inr (9, [.ref Mo, .ref Lo, .ref Do, .ref tl, .ref ca, .int th])), (Mo, .inl (4, 3, .inr (.inr (.inr (.inr mm))))), (q, .inl (0, 6144, .inl f))] := by
  refine aw_iconst (q := 48) (v := 0) gdX7_worth_43.2.2.1 rfl (by decide) ?_
  exact tX7_worth_48 hm _
def fX7_worth_43 (N K : Nat) (th : Int32) (f : Nat → Int32) (p0 : Int32) (p1 : Int32) (p2 : Int32) (p3 : Int32)  : Option (Int32) :=
  fX7_worth_48 N K th f p0 p1 p2 p3  (1 : Int32)
set_option maxHeartbeats 4000000 in
set_option maxRecDepth 100000 in
theorem tX7_worth_43 {N K : Nat} {m Mo Lo Do tl ca q : Nat} {mm : Nat → Option Nat} {th : Int32} {f : Nat → Int32} {p0 : Int32} {p1 : Int32} {p2 : Int32} {p3 : Int32} (hm : ¬ (p0 < 0 ∨ 3 ≤ p0.toNatClampNeg) → mm p0.toNatClampNeg = some q) : AW RX7 "worth" cX7_worth 5 (some .int) [] (fun _ _ => True) (1) (PN (U := Int32) (fun zz _ => some (.int zz)) (fun zz ad => [(m, .inr (9, [.ref Mo, .ref Lo, .ref Do, .ref tl, .ref ca, .int th])), (Mo, .inl (4, 3, .inr (.inr (.inr (.inr mm))))), (q, .inl (0, 6144, .inl f))])) 0 0 (fX7_worth_43 N K th f p0 p1 p2 p3  ) 43 [] [] [(m, .inr (9, [.ref Mo, .ref Lo, .ref Do, .ref tl, .ref ca, .int th])), (Mo, .inl (4, 3, .inr (.inr (.inr (.inr mm))))), (q, .inl (0, 6144, .inl f))] := by
  refine aw_iconst (q := 44) (v := 1) gdX7_worth_43.1 rfl (by decide) ?_
  refine aw_goto (tgt := 48) gdX7_worth_43.2.1 (by decide) ?_
  exact tX7_worth_48 hm _
def fX7_worth (N K : Nat) (th : Int32) (f : Nat → Int32) (p0 : Int32) (p1 : Int32) (p2 : Int32) (p3 : Int32) : Option (Int32) :=
  ((fX7_rests N K p2 p3).bind (fun x3 => (if x3 = 0 then (if p0 < 0 ∨ 3 ≤ p0.toNatClampNeg then none else ((fX7_code N K p1 p2 p3).bind (fun x19 => (if x19 < 0 ∨ 6144 ≤ x19.toNatClampNeg then none else (some (f x19.toNatClampNeg)))))) else (if p2 = 0 then (if p3 = 0 then fX7_worth_43 N K th f p0 p1 p2 p3   else (if p1 = (1 : Int32) then fX7_worth_47 N K th f p0 p1 p2 p3   else (if p1 = (5 : Int32) then fX7_worth_47 N K th f p0 p1 p2 p3   else fX7_worth_43 N K th f p0 p1 p2 p3  ))) else fX7_worth_47 N K th f p0 p1 p2 p3  ))))
set_option maxHeartbeats 4000000 in
set_option maxRecDepth 100000 in
theorem ok_X7_worth {N K : Nat} {m Mo Lo Do tl ca q : Nat} {mm : Nat → Option Nat} {th : Int32} {f : Nat → Int32} {p0 : Int32} {p1 : Int32} {p2 : Int32} {p3 : Int32} (hm : ¬ (p0 < 0 ∨ 3 ≤ p0.toNatClampNeg) → mm p0.toNatClampNeg = some q) {xr : Int32} (hE : fX7_worth N K th f p0 p1 p2 p3 = some xr) : OkM yX7_worth (.code yX7_worth cX7_worth 5 (some .int)) (1) 0 0 [.ref m, .int p0, .int p1, .int p2, .int p3] [(m, .inr (9, [.ref Mo, .ref Lo, .ref Do, .ref tl, .ref ca, .int th])), (Mo, .inl (4, 3, .inr (.inr (.inr (.inr mm))))), (q, .inl (0, 6144, .inl f))] ((PN (U := Int32) (fun zz _ => some (.int zz)) (fun zz ad => [(m, .inr (9, [.ref Mo, .ref Lo, .ref Do, .ref tl, .ref ca, .int th])), (Mo, .inl (4, 3, .inr (.inr (.inr (.inr mm))))), (q, .inl (0, 6144, .inl f))])) xr) := by
  refine ok_of (by decide) (Nat.le_of_ble_eq_true rfl) hE ?_
  refine aw_locals (lv' := [(0, .ref m), (1, .int p0), (2, .int p1), (3, .int p2), (4, .int p3)]) [0, 1, 2, 3, 4] rfl ?_
  refine aw_iload_n (q := 1) gdX7_worth_0.1 rfl 3 rfl ?_
  refine aw_iload (q := 3) gdX7_worth_0.2.1 rfl 4 rfl ?_
  refine aw_call (q := 6) (kc1 := 0) (ks1 := 0) (wc := []) (wr := [(m, .inr (9, [.ref Mo, .ref Lo, .ref Do, .ref tl, .ref ca, .int th])), (Mo, .inl (4, 3, .inr (.inr (.inr (.inr mm))))), (q, .inl (0, 6144, .inl f))]) (st1 := fun x3 g3 => [.int x3]) (ws1 := fun x3 g3 => [(m, .inr (9, [.ref Mo, .ref Lo, .ref Do, .ref tl, .ref ca, .int th])), (Mo, .inl (4, 3, .inr (.inr (.inr (.inr mm))))), (q, .inl (0, 6144, .inl f))]) (As := [.int p2, .int p3]) [] [0, 1, 2] (fun _ => runS gdX7_worth_0.2.2.1 mi_X7_rests st_X7_rests ml_X7_35 (by omega) rfl (Nat.le_of_ble_eq_true rfl) rfl) (fun x9 h9 => ok_X7_rests h9) rfl rfl rfl rfl rfl (by decide +kernel) (by omega) (by omega) (fun _ _ => rfl) (fun _ _ => rfl) (fun x3 g3 => ?_)
  refine aw_if_ne (tgt := 24) (q := 9) gdX7_worth_0.2.2.2.1 (by decide) rfl (fun h_6 => ?_) (fun h_6 => ?_)
  · refine aw_iload_n (q := 25) gdX7_worth_15.2.2.2.2.2.2.1 rfl 3 rfl ?_
    refine aw_if_ne (tgt := 47) (q := 28) gdX7_worth_15.2.2.2.2.2.2.2 (by decide) rfl (fun h_25 => ?_) (fun h_25 => ?_)
    · refine aw_locals (lv' := []) [] rfl ?_
      exact tX7_worth_47 hm 
    · refine aw_iload (q := 30) gdX7_worth_28.1 rfl 4 rfl ?_
      refine aw_if_eq (tgt := 43) (q := 33) gdX7_worth_28.2.1 (by decide) rfl (fun h_30 => ?_) (fun h_30 => ?_)
      · refine aw_locals (lv' := []) [] rfl ?_
        exact tX7_worth_43 hm 
      · refine aw_iload_n (q := 34) gdX7_worth_28.2.2.1 rfl 2 rfl ?_
        refine aw_iconst (q := 35) (v := 1) gdX7_worth_28.2.2.2.1 rfl (by decide) ?_
        refine aw_icmp_eq (tgt := 47) (q := 38) gdX7_worth_28.2.2.2.2.1 (by decide) rfl (fun h_35 => ?_) (fun h_35 => ?_)
        · refine aw_locals (lv' := []) [] rfl ?_
          exact tX7_worth_47 hm 
        · refine aw_iload_n (q := 39) gdX7_worth_28.2.2.2.2.2.1 rfl 2 rfl ?_
          refine aw_iconst (q := 40) (v := 5) gdX7_worth_28.2.2.2.2.2.2.1 rfl (by decide) ?_
          refine aw_icmp_eq (tgt := 47) (q := 43) gdX7_worth_28.2.2.2.2.2.2.2 (by decide) rfl (fun h_40 => ?_) (fun h_40 => ?_)
          · refine aw_locals (lv' := []) [] rfl ?_
            exact tX7_worth_47 hm 
          · refine aw_locals (lv' := []) [] rfl ?_
            exact tX7_worth_43 hm 
  · refine aw_aload_n (q := 10) gdX7_worth_0.2.2.2.2.1 rfl 0 rfl ?_
    refine aw_get (q := 13) gdX7_worth_0.2.2.2.2.2.1 rfl fl_X7_11 0 rfl rfl ?_
    refine aw_iload_n (q := 14) gdX7_worth_0.2.2.2.2.2.2.1 rfl 1 rfl ?_
    refine aw_aald (q := 15) gdX7_worth_0.2.2.2.2.2.2.2 rfl 1 rfl (by decide) rfl hm ?_
    refine aw_iload_n (q := 16) gdX7_worth_15.1 rfl 2 rfl ?_
    refine aw_iload_n (q := 17) gdX7_worth_15.2.1 rfl 3 rfl ?_
    refine aw_iload (q := 19) gdX7_worth_15.2.2.1 rfl 4 rfl ?_
    refine aw_call (q := 22) (kc1 := 0) (ks1 := 0) (wc := []) (wr := [(m, .inr (9, [.ref Mo, .ref Lo, .ref Do, .ref tl, .ref ca, .int th])), (Mo, .inl (4, 3, .inr (.inr (.inr (.inr mm))))), (q, .inl (0, 6144, .inl f))]) (st1 := fun x19 g19 => [.int x19, .ref q]) (ws1 := fun x19 g19 => [(m, .inr (9, [.ref Mo, .ref Lo, .ref Do, .ref tl, .ref ca, .int th])), (Mo, .inl (4, 3, .inr (.inr (.inr (.inr mm))))), (q, .inl (0, 6144, .inl f))]) (As := [.int p1, .int p2, .int p3]) [] [0, 1, 2] (fun _ => runS gdX7_worth_15.2.2.2.1 mi_X7_code st_X7_code ml_X7_39 (by omega) rfl (Nat.le_of_ble_eq_true rfl) rfl) (fun x9 h9 => ok_X7_code h9) rfl rfl rfl rfl rfl (by decide +kernel) (by omega) (by omega) (fun _ _ => rfl) (fun _ _ => rfl) (fun x19 g19 => ?_)
    refine aw_iald (q := 23) gdX7_worth_15.2.2.2.2.1 rfl 2 rfl ?_
    exact aw_ireturn (w := [(m, .inr (9, [.ref Mo, .ref Lo, .ref Do, .ref tl, .ref ca, .int th])), (Mo, .inl (4, 3, .inr (.inr (.inr (.inr mm))))), (q, .inl (0, 6144, .inl f))]) [0, 1, 2] gdX7_worth_15.2.2.2.2.2.1 rfl rfl rfl rfl (PN.mk (fun _ => 0) rfl rfl)
def fX7_kept (N K : Nat) (th : Int32) (f : Nat → Int32) (p0 : Int32) (p1 : Int32) (p2 : Int32) (p3 : Int32) : Option (Int32) :=
  (if p0 < 0 ∨ 3 ≤ p0.toNatClampNeg then none else ((fX7_code N K p1 p2 p3).bind (fun x10 => (if x10 < 0 ∨ 6144 ≤ x10.toNatClampNeg then none else (some (f x10.toNatClampNeg))))))
set_option maxHeartbeats 4000000 in
set_option maxRecDepth 100000 in
theorem ok_X7_kept {N K : Nat} {m Mo Lo Do tl ca q : Nat} {mm : Nat → Option Nat} {th : Int32} {f : Nat → Int32} {p0 : Int32} {p1 : Int32} {p2 : Int32} {p3 : Int32} (hm : ¬ (p0 < 0 ∨ 3 ≤ p0.toNatClampNeg) → mm p0.toNatClampNeg = some q) {xr : Int32} (hE : fX7_kept N K th f p0 p1 p2 p3 = some xr) : OkM yX7_kept (.code yX7_kept cX7_kept 5 (some .int)) (1) 0 0 [.ref m, .int p0, .int p1, .int p2, .int p3] [(m, .inr (9, [.ref Mo, .ref Lo, .ref Do, .ref tl, .ref ca, .int th])), (Mo, .inl (4, 3, .inr (.inr (.inr (.inr mm))))), (q, .inl (0, 6144, .inl f))] ((PN (U := Int32) (fun zz _ => some (.int zz)) (fun zz ad => [(m, .inr (9, [.ref Mo, .ref Lo, .ref Do, .ref tl, .ref ca, .int th])), (Mo, .inl (4, 3, .inr (.inr (.inr (.inr mm))))), (q, .inl (0, 6144, .inl f))])) xr) := by
  refine ok_of (by decide) (Nat.le_of_ble_eq_true rfl) hE ?_
  refine aw_locals (lv' := [(0, .ref m), (1, .int p0), (2, .int p1), (3, .int p2), (4, .int p3)]) [0, 1, 2, 3, 4] rfl ?_
  refine aw_aload_n (q := 1) gdX7_kept_0.1 rfl 0 rfl ?_
  refine aw_get (q := 4) gdX7_kept_0.2.1 rfl fl_X7_11 0 rfl rfl ?_
  refine aw_iload_n (q := 5) gdX7_kept_0.2.2.1 rfl 1 rfl ?_
  refine aw_aald (q := 6) gdX7_kept_0.2.2.2.1 rfl 1 rfl (by decide) rfl hm ?_
  refine aw_iload_n (q := 7) gdX7_kept_0.2.2.2.2.1 rfl 2 rfl ?_
  refine aw_iload_n (q := 8) gdX7_kept_0.2.2.2.2.2.1 rfl 3 rfl ?_
  refine aw_iload (q := 10) gdX7_kept_0.2.2.2.2.2.2.1 rfl 4 rfl ?_
  refine aw_call (q := 13) (kc1 := 0) (ks1 := 0) (wc := []) (wr := [(m, .inr (9, [.ref Mo, .ref Lo, .ref Do, .ref tl, .ref ca, .int th])), (Mo, .inl (4, 3, .inr (.inr (.inr (.inr mm))))), (q, .inl (0, 6144, .inl f))]) (st1 := fun x10 g10 => [.int x10, .ref q]) (ws1 := fun x10 g10 => [(m, .inr (9, [.ref Mo, .ref Lo, .ref Do, .ref tl, .ref ca, .int th])), (Mo, .inl (4, 3, .inr (.inr (.inr (.inr mm))))), (q, .inl (0, 6144, .inl f))]) (As := [.int p1, .int p2, .int p3]) [] [0, 1, 2] (fun _ => runS gdX7_kept_0.2.2.2.2.2.2.2 mi_X7_code st_X7_code ml_X7_39 (by omega) rfl (Nat.le_of_ble_eq_true rfl) rfl) (fun x9 h9 => ok_X7_code h9) rfl rfl rfl rfl rfl (by decide +kernel) (by omega) (by omega) (fun _ _ => rfl) (fun _ _ => rfl) (fun x10 g10 => ?_)
  refine aw_iald (q := 14) gdX7_kept_13.1 rfl 2 rfl ?_
  exact aw_ireturn (w := [(m, .inr (9, [.ref Mo, .ref Lo, .ref Do, .ref tl, .ref ca, .int th])), (Mo, .inl (4, 3, .inr (.inr (.inr (.inr mm))))), (q, .inl (0, 6144, .inl f))]) [0, 1, 2] gdX7_kept_13.2 rfl rfl rfl rfl (PN.mk (fun _ => 0) rfl rfl)
def fX7_keep_64 (N K : Nat) (th : Int32) (f : Nat → Int32) (p0 : Int32) (p1 : Int32) (p2 : Int32) (p3 : Int32) (k_19 : Int32 → Int32 → (Nat → Int32) → Option ((Nat → Int32))) (l5 : Int32) (l6 : Int32) (f_ : Nat → Int32) : Option ((Nat → Int32)) :=
  k_19 l5 (l6 + (1 : Int32)) f_
set_option maxHeartbeats 4000000 in
set_option maxRecDepth 100000 in
theorem tX7_keep_64 {N K : Nat} {m Mo Lo Do tl ca q : Nat} {mm : Nat → Option Nat} {th : Int32} {f : Nat → Int32} {p0 : Int32} {p1 : Int32} {p2 : Int32} {p3 : Int32} (hm : ¬ (p0 < 0 ∨ 3 ≤ p0.toNatClampNeg) → mm p0.toNatClampNeg = some q) {k_19 : Int32 → Int32 → (Nat → Int32) → Option ((Nat → Int32))} (hk_19 : ∀ (l5 : Int32) (l6 : Int32) (f_ : Nat → Int32), AW RX7 "keep" cX7_keep 7 none [] (fun _ _ => True) (2) (PN (U := (Nat → Int32)) (fun _ _ => none) (fun zz ad => [(m, .inr (9, [.ref Mo, .ref Lo, .ref Do, .ref tl, .ref ca, .int th])), (Mo, .inl (4, 3, .inr (.inr (.inr (.inr mm))))), (q, .inl (0, 6144, .inl zz))])) 0 0 (k_19 l5 l6 f_) 19 [(0, .ref m), (1, .int p0), (2, .int p1), (3, .int p2), (4, .int p3), (5, .int l5), (6, .int l6)] [] [(m, .inr (9, [.ref Mo, .ref Lo, .ref Do, .ref tl, .ref ca, .int th])), (Mo, .inl (4, 3, .inr (.inr (.inr (.inr mm))))), (q, .inl (0, 6144, .inl f_))]) : ∀ (l5 : Int32) (l6 : Int32) (f_ : Nat → Int32), AW RX7 "keep" cX7_keep 7 none [] (fun _ _ => True) (2) (PN (U := (Nat → Int32)) (fun _ _ => none) (fun zz ad => [(m, .inr (9, [.ref Mo, .ref Lo, .ref Do, .ref tl, .ref ca, .int th])), (Mo, .inl (4, 3, .inr (.inr (.inr (.inr mm))))), (q, .inl (0, 6144, .inl zz))])) 0 0 (fX7_keep_64 N K th f p0 p1 p2 p3 k_19 l5 l6 f_) 64 [(0, .ref m), (1, .int p0), (2, .int p1), (3, .int p2), (4, .int p3), (5, .int l5), (6, .int l6)] [] [(m, .inr (9, [.ref Mo, .ref Lo, .ref Do, .ref tl, .ref ca, .int th])), (Mo, .inl (4, 3, .inr (.inr (.inr (.inr mm))))), (q, .inl (0, 6144, .inl f_))] := by
  intro l5 l6 f_
  refine aw_iinc (q := 67) (v := (l6 + (1 : Int32))) (lv' := [(6, .int (l6 + (1 : Int32))), (0, .ref m), (1, .int p0), (2, .int p1), (3, .int p2), (4, .int p3), (5, .int l5)]) gdX7_keep_55.2.2.2.2.1 rfl 6 rfl rfl (by decide) rfl ?_
  refine aw_goto (tgt := 19) gdX7_keep_55.2.2.2.2.2.1 (by decide) ?_
  refine aw_locals (lv' := [(0, .ref m), (1, .int p0), (2, .int p1), (3, .int p2), (4, .int p3), (5, .int l5), (6, .int (l6 + (1 : Int32)))]) [1, 2, 3, 4, 5, 6, 0] rfl ?_
  exact hk_19 _ _ _
def fX7_keep_19 (N K : Nat) (th : Int32) (f : Nat → Int32) (p0 : Int32) (p1 : Int32) (p2 : Int32) (p3 : Int32) : Nat → Int32 → Int32 → (Nat → Int32) → Option ((Nat → Int32))
  | 0, _, _, _ => none
  | fu + 1, l5, l6, f_ =>
    (if (2 : Int32) ≤ l6 then (if p0 < 0 ∨ 3 ≤ p0.toNatClampNeg then none else ((fX7_code N K p1 p2 p3).bind (fun x80 => (if x80 < 0 ∨ 6144 ≤ x80.toNatClampNeg then none else (some (upd f_ x80.toNatClampNeg l5)))))) else ((fX7_hasLeg N K p1 p3 l6).bind (fun x30 => (if x30 = 0 then fX7_keep_64 N K th f p0 p1 p2 p3 (fX7_keep_19 N K th f p0 p1 p2 p3  fu) l5 l6 f_ else ((fX7_legNumber N K p1 p2 p3 l6).bind (fun x47 => ((fX7_legMeasure N K p1 p3 l6).bind (fun x55 => ((fX7_worth N K th f_ p0 p1 x47 x55).bind (fun x58 => fX7_keep_64 N K th f p0 p1 p2 p3 (fX7_keep_19 N K th f p0 p1 p2 p3  fu) (l5 + x58) l6 f_))))))))))
set_option maxHeartbeats 4000000 in
set_option maxRecDepth 100000 in
theorem tX7_keep_19 {N K : Nat} {m Mo Lo Do tl ca q : Nat} {mm : Nat → Option Nat} {th : Int32} {f : Nat → Int32} {p0 : Int32} {p1 : Int32} {p2 : Int32} {p3 : Int32} (hm : ¬ (p0 < 0 ∨ 3 ≤ p0.toNatClampNeg) → mm p0.toNatClampNeg = some q) : ∀ (fu : Nat) (l5 : Int32) (l6 : Int32) (f_ : Nat → Int32), AW RX7 "keep" cX7_keep 7 none [] (fun _ _ => True) (2) (PN (U := (Nat → Int32)) (fun _ _ => none) (fun zz ad => [(m, .inr (9, [.ref Mo, .ref Lo, .ref Do, .ref tl, .ref ca, .int th])), (Mo, .inl (4, 3, .inr (.inr (.inr (.inr mm))))), (q, .inl (0, 6144, .inl zz))])) 0 0 (fX7_keep_19 N K th f p0 p1 p2 p3  fu l5 l6 f_) 19 [(0, .ref m), (1, .int p0), (2, .int p1), (3, .int p2), (4, .int p3), (5, .int l5), (6, .int l6)] [] [(m, .inr (9, [.ref Mo, .ref Lo, .ref Do, .ref tl, .ref ca, .int th])), (Mo, .inl (4, 3, .inr (.inr (.inr (.inr mm))))), (q, .inl (0, 6144, .inl f_))] := by
  intro fu
  induction fu with
  | zero => intro l5 l6 f_; exact aw_none
  | succ fu ih =>
    intro l5 l6 f_
    refine aw_iload (q := 21) gdX7_keep_13.2.2.2.2.1 rfl 6 rfl ?_
    refine aw_iconst (q := 22) (v := 2) gdX7_keep_13.2.2.2.2.2.1 rfl (by decide) ?_
    refine aw_icmp_ge (tgt := 70) (q := 25) gdX7_keep_13.2.2.2.2.2.2.1 (by decide) rfl (fun h_22 => ?_) (fun h_22 => ?_)
    · refine aw_aload_n (q := 71) gdX7_keep_55.2.2.2.2.2.2.1 rfl 0 rfl ?_
      refine aw_get (q := 74) gdX7_keep_55.2.2.2.2.2.2.2 rfl fl_X7_11 0 rfl rfl ?_
      refine aw_iload_n (q := 75) gdX7_keep_74.1 rfl 1 rfl ?_
      refine aw_aald (q := 76) gdX7_keep_74.2.1 rfl 1 rfl (by decide) rfl hm ?_
      refine aw_iload_n (q := 77) gdX7_keep_74.2.2.1 rfl 2 rfl ?_
      refine aw_iload_n (q := 78) gdX7_keep_74.2.2.2.1 rfl 3 rfl ?_
      refine aw_iload (q := 80) gdX7_keep_74.2.2.2.2.1 rfl 4 rfl ?_
      refine aw_call (q := 83) (kc1 := 0) (ks1 := 0) (wc := []) (wr := [(m, .inr (9, [.ref Mo, .ref Lo, .ref Do, .ref tl, .ref ca, .int th])), (Mo, .inl (4, 3, .inr (.inr (.inr (.inr mm))))), (q, .inl (0, 6144, .inl f_))]) (st1 := fun x80 g80 => [.int x80, .ref q]) (ws1 := fun x80 g80 => [(m, .inr (9, [.ref Mo, .ref Lo, .ref Do, .ref tl, .ref ca, .int th])), (Mo, .inl (4, 3, .inr (.inr (.inr (.inr mm))))), (q, .inl (0, 6144, .inl f_))]) (As := [.int p1, .int p2, .int p3]) [] [0, 1, 2] (fun _ => runS gdX7_keep_74.2.2.2.2.2.1 mi_X7_code st_X7_code ml_X7_39 (by omega) rfl (Nat.le_of_ble_eq_true rfl) rfl) (fun x9 h9 => ok_X7_code h9) rfl rfl rfl rfl rfl (by decide +kernel) (by omega) (by omega) (fun _ _ => rfl) (fun _ _ => rfl) (fun x80 g80 => ?_)
      refine aw_iload (q := 85) gdX7_keep_74.2.2.2.2.2.2.1 rfl 5 rfl ?_
      refine aw_iast (q := 86) (ws' := [(m, .inr (9, [.ref Mo, .ref Lo, .ref Do, .ref tl, .ref ca, .int th])), (Mo, .inl (4, 3, .inr (.inr (.inr (.inr mm))))), (q, .inl (0, 6144, .inl (upd f_ x80.toNatClampNeg l5)))]) gdX7_keep_74.2.2.2.2.2.2.2 rfl 2 rfl rfl ?_
      exact aw_return (w := [(m, .inr (9, [.ref Mo, .ref Lo, .ref Do, .ref tl, .ref ca, .int th])), (Mo, .inl (4, 3, .inr (.inr (.inr (.inr mm))))), (q, .inl (0, 6144, .inl (upd f_ x80.toNatClampNeg l5)))]) [0, 1, 2] dX7_keep_86 rfl rfl rfl (PN.mk (fun _ => 0) rfl rfl)
    · refine aw_iload_n (q := 26) gdX7_keep_13.2.2.2.2.2.2.2 rfl 2 rfl ?_
      refine aw_iload (q := 28) gdX7_keep_26.1 rfl 4 rfl ?_
      refine aw_iload (q := 30) gdX7_keep_26.2.1 rfl 6 rfl ?_
      refine aw_call (q := 33) (kc1 := 0) (ks1 := 0) (wc := []) (wr := [(m, .inr (9, [.ref Mo, .ref Lo, .ref Do, .ref tl, .ref ca, .int th])), (Mo, .inl (4, 3, .inr (.inr (.inr (.inr mm))))), (q, .inl (0, 6144, .inl f_))]) (st1 := fun x30 g30 => [.int x30]) (ws1 := fun x30 g30 => [(m, .inr (9, [.ref Mo, .ref Lo, .ref Do, .ref tl, .ref ca, .int th])), (Mo, .inl (4, 3, .inr (.inr (.inr (.inr mm))))), (q, .inl (0, 6144, .inl f_))]) (As := [.int p1, .int p3, .int l6]) [] [0, 1, 2] (fun _ => runS gdX7_keep_26.2.2.1 mi_X7_hasLeg st_X7_hasLeg ml_X7_57 (by omega) rfl (Nat.le_of_ble_eq_true rfl) rfl) (fun x9 h9 => ok_X7_hasLeg h9) rfl rfl rfl rfl rfl (by decide +kernel) (by omega) (by omega) (fun _ _ => rfl) (fun _ _ => rfl) (fun x30 g30 => ?_)
      refine aw_if_eq (tgt := 64) (q := 36) gdX7_keep_26.2.2.2.1 (by decide) rfl (fun h_33 => ?_) (fun h_33 => ?_)
      · exact tX7_keep_64 hm ih _ _ _
      · refine aw_iload (q := 38) gdX7_keep_26.2.2.2.2.1 rfl 5 rfl ?_
        refine aw_aload_n (q := 39) gdX7_keep_26.2.2.2.2.2.1 rfl 0 rfl ?_
        refine aw_iload_n (q := 40) gdX7_keep_26.2.2.2.2.2.2.1 rfl 1 rfl ?_
        refine aw_iload_n (q := 41) gdX7_keep_26.2.2.2.2.2.2.2 rfl 2 rfl ?_
        refine aw_iload_n (q := 42) gdX7_keep_41.1 rfl 2 rfl ?_
        refine aw_iload_n (q := 43) gdX7_keep_41.2.1 rfl 3 rfl ?_
        refine aw_iload (q := 45) gdX7_keep_41.2.2.1 rfl 4 rfl ?_
        refine aw_iload (q := 47) gdX7_keep_41.2.2.2.1 rfl 6 rfl ?_
        refine aw_call (q := 50) (kc1 := 0) (ks1 := 0) (wc := []) (wr := [(m, .inr (9, [.ref Mo, .ref Lo, .ref Do, .ref tl, .ref ca, .int th])), (Mo, .inl (4, 3, .inr (.inr (.inr (.inr mm))))), (q, .inl (0, 6144, .inl f_))]) (st1 := fun x47 g47 => [.int x47, .int p1, .int p0, .ref m, .int l5]) (ws1 := fun x47 g47 => [(m, .inr (9, [.ref Mo, .ref Lo, .ref Do, .ref tl, .ref ca, .int th])), (Mo, .inl (4, 3, .inr (.inr (.inr (.inr mm))))), (q, .inl (0, 6144, .inl f_))]) (As := [.int p1, .int p2, .int p3, .int l6]) [] [0, 1, 2] (fun _ => runS gdX7_keep_41.2.2.2.2.1 mi_X7_legNumber st_X7_legNumber ml_X7_51 (by omega) rfl (Nat.le_of_ble_eq_true rfl) rfl) (fun x9 h9 => ok_X7_legNumber h9) rfl rfl rfl rfl rfl (by decide +kernel) (by omega) (by omega) (fun _ _ => rfl) (fun _ _ => rfl) (fun x47 g47 => ?_)
        refine aw_iload_n (q := 51) gdX7_keep_41.2.2.2.2.2.1 rfl 2 rfl ?_
        refine aw_iload (q := 53) gdX7_keep_41.2.2.2.2.2.2.1 rfl 4 rfl ?_
        refine aw_iload (q := 55) gdX7_keep_41.2.2.2.2.2.2.2 rfl 6 rfl ?_
        refine aw_call (q := 58) (kc1 := 0) (ks1 := 0) (wc := []) (wr := [(m, .inr (9, [.ref Mo, .ref Lo, .ref Do, .ref tl, .ref ca, .int th])), (Mo, .inl (4, 3, .inr (.inr (.inr (.inr mm))))), (q, .inl (0, 6144, .inl f_))]) (st1 := fun x55 g55 => [.int x55, .int x47, .int p1, .int p0, .ref m, .int l5]) (ws1 := fun x55 g55 => [(m, .inr (9, [.ref Mo, .ref Lo, .ref Do, .ref tl, .ref ca, .int th])), (Mo, .inl (4, 3, .inr (.inr (.inr (.inr mm))))), (q, .inl (0, 6144, .inl f_))]) (As := [.int p1, .int p3, .int l6]) [] [0, 1, 2] (fun _ => runS gdX7_keep_55.1 mi_X7_legMeasure st_X7_legMeasure ml_X7_54 (by omega) rfl (Nat.le_of_ble_eq_true rfl) rfl) (fun x9 h9 => ok_X7_legMeasure h9) rfl rfl rfl rfl rfl (by decide +kernel) (by omega) (by omega) (fun _ _ => rfl) (fun _ _ => rfl) (fun x55 g55 => ?_)
        refine aw_call (q := 61) (kc1 := 0) (ks1 := 0) (wc := [(m, .inr (9, [.ref Mo, .ref Lo, .ref Do, .ref tl, .ref ca, .int th])), (Mo, .inl (4, 3, .inr (.inr (.inr (.inr mm))))), (q, .inl (0, 6144, .inl f_))]) (wr := []) (st1 := fun x58 g58 => [.int x58, .int l5]) (ws1 := fun x58 g58 => [(m, .inr (9, [.ref Mo, .ref Lo, .ref Do, .ref tl, .ref ca, .int th])), (Mo, .inl (4, 3, .inr (.inr (.inr (.inr mm))))), (q, .inl (0, 6144, .inl f_))]) (As := [.ref m, .int p0, .int p1, .int x47, .int x55]) [0, 1, 2] [] (fun _ => runV (q0 := 0) gdX7_keep_55.2.1 mi_X7_worth im_X7_worth se_X7_worth ml_X7_47 (by omega) rfl (Nat.le_of_ble_eq_true rfl) rfl rfl rfl rfl) (fun x9 h9 => ok_X7_worth hm h9) rfl rfl rfl rfl rfl (by decide +kernel) (by omega) (by omega) (fun _ _ => rfl) (fun _ _ => rfl) (fun x58 g58 => ?_)
        refine aw_iadd (q := 62) gdX7_keep_55.2.2.1 rfl ?_
        refine aw_istore (q := 64) (lv' := [(5, .int (l5 + x58)), (0, .ref m), (1, .int p0), (2, .int p1), (3, .int p2), (4, .int p3), (6, .int l6)]) gdX7_keep_55.2.2.2.1 rfl (by decide) rfl ?_
        refine aw_locals (lv' := [(0, .ref m), (1, .int p0), (2, .int p1), (3, .int p2), (4, .int p3), (5, .int (l5 + x58)), (6, .int l6)]) [1, 2, 3, 4, 5, 0, 6] rfl ?_
        exact tX7_keep_64 hm ih _ _ _
def fX7_keep (N K : Nat) (th : Int32) (f : Nat → Int32) (p0 : Int32) (p1 : Int32) (p2 : Int32) (p3 : Int32) : Option ((Nat → Int32)) :=
  ((fX7_worth N K th f p0 p1 p2 p3).bind (fun x6 => (if x6 < 0 then fX7_keep_19 N K th f p0 p1 p2 p3  N (0 : Int32) (0 : Int32) f else (some f))))
set_option maxHeartbeats 4000000 in
set_option maxRecDepth 100000 in
theorem ok_X7_keep {N K : Nat} {m Mo Lo Do tl ca q : Nat} {mm : Nat → Option Nat} {th : Int32} {f : Nat → Int32} {p0 : Int32} {p1 : Int32} {p2 : Int32} {p3 : Int32} (hm : ¬ (p0 < 0 ∨ 3 ≤ p0.toNatClampNeg) → mm p0.toNatClampNeg = some q) {xr : (Nat → Int32)} (hE : fX7_keep N K th f p0 p1 p2 p3 = some xr) : OkM yX7_keep (.code yX7_keep cX7_keep 7 none) (2) 0 0 [.ref m, .int p0, .int p1, .int p2, .int p3] [(m, .inr (9, [.ref Mo, .ref Lo, .ref Do, .ref tl, .ref ca, .int th])), (Mo, .inl (4, 3, .inr (.inr (.inr (.inr mm))))), (q, .inl (0, 6144, .inl f))] ((PN (U := (Nat → Int32)) (fun _ _ => none) (fun zz ad => [(m, .inr (9, [.ref Mo, .ref Lo, .ref Do, .ref tl, .ref ca, .int th])), (Mo, .inl (4, 3, .inr (.inr (.inr (.inr mm))))), (q, .inl (0, 6144, .inl zz))])) xr) := by
  refine ok_of (by decide) (Nat.le_of_ble_eq_true rfl) hE ?_
  refine aw_locals (lv' := [(0, .ref m), (1, .int p0), (2, .int p1), (3, .int p2), (4, .int p3)]) [0, 1, 2, 3, 4] rfl ?_
  refine aw_aload_n (q := 1) gdX7_keep_0.1 rfl 0 rfl ?_
  refine aw_iload_n (q := 2) gdX7_keep_0.2.1 rfl 1 rfl ?_
  refine aw_iload_n (q := 3) gdX7_keep_0.2.2.1 rfl 2 rfl ?_
  refine aw_iload_n (q := 4) gdX7_keep_0.2.2.2.1 rfl 3 rfl ?_
  refine aw_iload (q := 6) gdX7_keep_0.2.2.2.2.1 rfl 4 rfl ?_
  refine aw_call (q := 9) (kc1 := 0) (ks1 := 0) (wc := [(m, .inr (9, [.ref Mo, .ref Lo, .ref Do, .ref tl, .ref ca, .int th])), (Mo, .inl (4, 3, .inr (.inr (.inr (.inr mm))))), (q, .inl (0, 6144, .inl f))]) (wr := []) (st1 := fun x6 g6 => [.int x6]) (ws1 := fun x6 g6 => [(m, .inr (9, [.ref Mo, .ref Lo, .ref Do, .ref tl, .ref ca, .int th])), (Mo, .inl (4, 3, .inr (.inr (.inr (.inr mm))))), (q, .inl (0, 6144, .inl f))]) (As := [.ref m, .int p0, .int p1, .int p2, .int p3]) [0, 1, 2] [] (fun _ => runV (q0 := 0) gdX7_keep_0.2.2.2.2.2.1 mi_X7_worth im_X7_worth se_X7_worth ml_X7_47 (by omega) rfl (Nat.le_of_ble_eq_true rfl) rfl rfl rfl rfl) (fun x9 h9 => ok_X7_worth hm h9) rfl rfl rfl rfl rfl (by decide +kernel) (by omega) (by omega) (fun _ _ => rfl) (fun _ _ => rfl) (fun x6 g6 => ?_)
  refine aw_if_lt (tgt := 13) (q := 12) gdX7_keep_0.2.2.2.2.2.2.1 (by decide) rfl (fun h_9 => ?_) (fun h_9 => ?_)
  · refine aw_iconst (q := 14) (v := 0) gdX7_keep_13.1 rfl (by decide) ?_
    refine aw_istore (q := 16) (lv' := [(5, .int (0 : Int32)), (0, .ref m), (1, .int p0), (2, .int p1), (3, .int p2), (4, .int p3)]) gdX7_keep_13.2.1 rfl (by decide) rfl ?_
    refine aw_iconst (q := 17) (v := 0) gdX7_keep_13.2.2.1 rfl (by decide) ?_
    refine aw_istore (q := 19) (lv' := [(6, .int (0 : Int32)), (5, .int (0 : Int32)), (0, .ref m), (1, .int p0), (2, .int p1), (3, .int p2), (4, .int p3)]) gdX7_keep_13.2.2.2.1 rfl (by decide) rfl ?_
    refine aw_locals (lv' := [(0, .ref m), (1, .int p0), (2, .int p1), (3, .int p2), (4, .int p3), (5, .int (0 : Int32)), (6, .int (0 : Int32))]) [2, 3, 4, 5, 6, 1, 0] rfl ?_
    exact tX7_keep_19 hm N _ _ _
  · exact aw_return (w := [(m, .inr (9, [.ref Mo, .ref Lo, .ref Do, .ref tl, .ref ca, .int th])), (Mo, .inl (4, 3, .inr (.inr (.inr (.inr mm))))), (q, .inl (0, 6144, .inl f))]) [0, 1, 2] gdX7_keep_0.2.2.2.2.2.2.2 rfl rfl rfl (PN.mk (fun _ => 0) rfl rfl)
def fX7_known_315 (N K : Nat) (th : Int32) (f : Nat → Int32) (t : Nat → Int32) (u : Nat → Int32) (p0 : Int32) (p1 : Int32) (p2 : Int32) (p3 : Int32) (k_277 : Int32 → (Nat → Int32) → (Nat → Int32) → (Nat → Int32) → Option (Int32 × (Nat → Int32) × (Nat → Int32) × (Nat → Int32))) (l5 : Int32) (f_ : Nat → Int32) (t_ : Nat → Int32) (u_ : Nat → Int32) : Option (Int32 × (Nat → Int32) × (Nat → Int32) × (Nat → Int32)) :=
  k_277 (l5 + (1 : Int32)) f_ t_ u_
set_option maxHeartbeats 4000000 in
set_option maxRecDepth 100000 in
theorem tX7_known_315 {N K : Nat} {m Mo Lo Do tl ca q : Nat} {mm : Nat → Option Nat} {th : Int32} {f : Nat → Int32} {t : Nat → Int32} {u : Nat → Int32} {p0 : Int32} {p1 : Int32} {p2 : Int32} {p3 : Int32} (hm : ¬ (p0 < 0 ∨ 3 ≤ p0.toNatClampNeg) → mm p0.toNatClampNeg = some q) {k_277 : Int32 → (Nat → Int32) → (Nat → Int32) → (Nat → Int32) → Option (Int32 × (Nat → Int32) × (Nat → Int32) × (Nat → Int32))} (hk_277 : ∀ (l5 : Int32) (f_ : Nat → Int32) (t_ : Nat → Int32) (u_ : Nat → Int32), AW RX7 "known" cX7_known 12 (some .int) [] (fun _ _ => True) (3) (PN (U := Int32 × (Nat → Int32) × (Nat → Int32) × (Nat → Int32)) (fun zz _ => some (.int zz.1)) (fun zz ad => [(m, .inr (9, [.ref Mo, .ref Lo, .ref Do, .ref tl, .ref ca, .int th])), (Mo, .inl (4, 3, .inr (.inr (.inr (.inr mm))))), (q, .inl (0, 6144, .inl zz.2.1)), (tl, .inl (0, 6, .inl zz.2.2.1)), (ca, .inl (0, 441, .inl zz.2.2.2))])) 0 0 (k_277 l5 f_ t_ u_) 277 [(0, .ref m), (1, .int p0), (2, .int p1), (3, .int p2), (4, .int p3), (5, .int l5)] [] [(m, .inr (9, [.ref Mo, .ref Lo, .ref Do, .ref tl, .ref ca, .int th])), (Mo, .inl (4, 3, .inr (.inr (.inr (.inr mm))))), (q, .inl (0, 6144, .inl f_)), (tl, .inl (0, 6, .inl t_)), (ca, .inl (0, 441, .inl u_))]) : ∀ (l5 : Int32) (f_ : Nat → Int32) (t_ : Nat → Int32) (u_ : Nat → Int32), AW RX7 "known" cX7_known 12 (some .int) [] (fun _ _ => True) (3) (PN (U := Int32 × (Nat → Int32) × (Nat → Int32) × (Nat → Int32)) (fun zz _ => some (.int zz.1)) (fun zz ad => [(m, .inr (9, [.ref Mo, .ref Lo, .ref Do, .ref tl, .ref ca, .int th])), (Mo, .inl (4, 3, .inr (.inr (.inr (.inr mm))))), (q, .inl (0, 6144, .inl zz.2.1)), (tl, .inl (0, 6, .inl zz.2.2.1)), (ca, .inl (0, 441, .inl zz.2.2.2))])) 0 0 (fX7_known_315 N K th f t u p0 p1 p2 p3 k_277 l5 f_ t_ u_) 315 [(0, .ref m), (1, .int p0), (2, .int p1), (3, .int p2), (4, .int p3), (5, .int l5)] [] [(m, .inr (9, [.ref Mo, .ref Lo, .ref Do, .ref tl, .ref ca, .int th])), (Mo, .inl (4, 3, .inr (.inr (.inr (.inr mm))))), (q, .inl (0, 6144, .inl f_)), (tl, .inl (0, 6, .inl t_)), (ca, .inl (0, 441, .inl u_))] := by
  intro l5 f_ t_ u_
  refine aw_iinc (q := 318) (v := (l5 + (1 : Int32))) (lv' := [(5, .int (l5 + (1 : Int32))), (0, .ref m), (1, .int p0), (2, .int p1), (3, .int p2), (4, .int p3)]) gdX7_known_315.1 rfl 5 rfl rfl (by decide) rfl ?_
  refine aw_goto (tgt := 277) gdX7_known_315.2.1 (by decide) ?_
  refine aw_locals (lv' := [(0, .ref m), (1, .int p0), (2, .int p1), (3, .int p2), (4, .int p3), (5, .int (l5 + (1 : Int32)))]) [1, 2, 3, 4, 5, 0] rfl ?_
  exact hk_277 _ _ _ _
def fX7_known_277 (N K : Nat) (th : Int32) (f : Nat → Int32) (t : Nat → Int32) (u : Nat → Int32) (p0 : Int32) (p1 : Int32) (p2 : Int32) (p3 : Int32) : Nat → Int32 → (Nat → Int32) → (Nat → Int32) → (Nat → Int32) → Option (Int32 × (Nat → Int32) × (Nat → Int32) × (Nat → Int32))
  | 0, _, _, _, _ => none
  | fu + 1, l5, f_, t_, u_ =>
    (if (((21 : Int32) * p3) + p2) < l5 then ((fX7_worth N K th f_ p0 p1 p2 p3).bind (fun x327 => (some (x327, f_, t_, u_)))) else (if l5 < 0 ∨ 441 ≤ l5.toNatClampNeg then none else (if (u_ l5.toNatClampNeg) ≤ 0 then fX7_known_315 N K th f t u p0 p1 p2 p3 (fX7_known_277 N K th f t u p0 p1 p2 p3  fu) l5 f_ t_ u_ else ((fX7_keep N K th f_ p0 p1 (l5 % (21 : Int32)) (l5 / (21 : Int32))).bind (fun x312 => fX7_known_315 N K th f t u p0 p1 p2 p3 (fX7_known_277 N K th f t u p0 p1 p2 p3  fu) l5 x312 t_ u_)))))
set_option maxHeartbeats 4000000 in
set_option maxRecDepth 100000 in
theorem tX7_known_277 {N K : Nat} {m Mo Lo Do tl ca q : Nat} {mm : Nat → Option Nat} {th : Int32} {f : Nat → Int32} {t : Nat → Int32} {u : Nat → Int32} {p0 : Int32} {p1 : Int32} {p2 : Int32} {p3 : Int32} (hm : ¬ (p0 < 0 ∨ 3 ≤ p0.toNatClampNeg) → mm p0.toNatClampNeg = some q) : ∀ (fu : Nat) (l5 : Int32) (f_ : Nat → Int32) (t_ : Nat → Int32) (u_ : Nat → Int32), AW RX7 "known" cX7_known 12 (some .int) [] (fun _ _ => True) (3) (PN (U := Int32 × (Nat → Int32) × (Nat → Int32) × (Nat → Int32)) (fun zz _ => some (.int zz.1)) (fun zz ad => [(m, .inr (9, [.ref Mo, .ref Lo, .ref Do, .ref tl, .ref ca, .int th])), (Mo, .inl (4, 3, .inr (.inr (.inr (.inr mm))))), (q, .inl (0, 6144, .inl zz.2.1)), (tl, .inl (0, 6, .inl zz.2.2.1)), (ca, .inl (0, 441, .inl zz.2.2.2))])) 0 0 (fX7_known_277 N K th f t u p0 p1 p2 p3  fu l5 f_ t_ u_) 277 [(0, .ref m), (1, .int p0), (2, .int p1), (3, .int p2), (4, .int p3), (5, .int l5)] [] [(m, .inr (9, [.ref Mo, .ref Lo, .ref Do, .ref tl, .ref ca, .int th])), (Mo, .inl (4, 3, .inr (.inr (.inr (.inr mm))))), (q, .inl (0, 6144, .inl f_)), (tl, .inl (0, 6, .inl t_)), (ca, .inl (0, 441, .inl u_))] := by
  intro fu
  induction fu with
  | zero => intro l5 f_ t_ u_; exact aw_none
  | succ fu ih =>
    intro l5 f_ t_ u_
    refine aw_iload (q := 279) gdX7_known_274.2.2.1 rfl 5 rfl ?_
    refine aw_bipush (q := 281) (v := 21) gdX7_known_274.2.2.2.1 rfl (by decide) ?_
    refine aw_iload (q := 283) gdX7_known_274.2.2.2.2.1 rfl 4 rfl ?_
    refine aw_imul (q := 284) gdX7_known_274.2.2.2.2.2.1 rfl ?_
    refine aw_iload_n (q := 285) gdX7_known_274.2.2.2.2.2.2.1 rfl 3 rfl ?_
    refine aw_iadd (q := 286) gdX7_known_274.2.2.2.2.2.2.2 rfl ?_
    refine aw_icmp_gt (tgt := 321) (q := 289) gdX7_known_286.1 (by decide) rfl (fun h_286 => ?_) (fun h_286 => ?_)
    · refine aw_aload_n (q := 322) gdX7_known_315.2.2.1 rfl 0 rfl ?_
      refine aw_iload_n (q := 323) gdX7_known_315.2.2.2.1 rfl 1 rfl ?_
      refine aw_iload_n (q := 324) gdX7_known_315.2.2.2.2.1 rfl 2 rfl ?_
      refine aw_iload_n (q := 325) gdX7_known_315.2.2.2.2.2.1 rfl 3 rfl ?_
      refine aw_iload (q := 327) gdX7_known_315.2.2.2.2.2.2.1 rfl 4 rfl ?_
      refine aw_call (q := 330) (kc1 := 0) (ks1 := 0) (wc := [(m, .inr (9, [.ref Mo, .ref Lo, .ref Do, .ref tl, .ref ca, .int th])), (Mo, .inl (4, 3, .inr (.inr (.inr (.inr mm))))), (q, .inl (0, 6144, .inl f_))]) (wr := [(tl, .inl (0, 6, .inl t_)), (ca, .inl (0, 441, .inl u_))]) (st1 := fun x327 g327 => [.int x327]) (ws1 := fun x327 g327 => [(tl, .inl (0, 6, .inl t_)), (ca, .inl (0, 441, .inl u_)), (m, .inr (9, [.ref Mo, .ref Lo, .ref Do, .ref tl, .ref ca, .int th])), (Mo, .inl (4, 3, .inr (.inr (.inr (.inr mm))))), (q, .inl (0, 6144, .inl f_))]) (As := [.ref m, .int p0, .int p1, .int p2, .int p3]) [0, 1, 2] [3, 4] (fun _ => runV (q0 := 0) gdX7_known_315.2.2.2.2.2.2.2 mi_X7_worth im_X7_worth se_X7_worth ml_X7_47 (by omega) rfl (Nat.le_of_ble_eq_true rfl) rfl rfl rfl rfl) (fun x9 h9 => ok_X7_worth hm h9) rfl rfl rfl rfl rfl (by decide +kernel) (by omega) (by omega) (fun _ _ => rfl) (fun _ _ => rfl) (fun x327 g327 => ?_)
      exact aw_ireturn (w := [(m, .inr (9, [.ref Mo, .ref Lo, .ref Do, .ref tl, .ref ca, .int th])), (Mo, .inl (4, 3, .inr (.inr (.inr (.inr mm))))), (q, .inl (0, 6144, .inl f_)), (tl, .inl (0, 6, .inl t_)), (ca, .inl (0, 441, .inl u_))]) [2, 3, 4, 0, 1] dX7_known_330 rfl rfl rfl rfl (PN.mk (fun _ => 0) rfl rfl)
    · refine aw_aload_n (q := 290) gdX7_known_286.2.1 rfl 0 rfl ?_
      refine aw_get (q := 293) gdX7_known_286.2.2.1 rfl fl_X7_24 0 rfl rfl ?_
      refine aw_iload (q := 295) gdX7_known_286.2.2.2.1 rfl 5 rfl ?_
      refine aw_iald (q := 296) gdX7_known_286.2.2.2.2.1 rfl 4 rfl ?_
      refine aw_if_le (tgt := 315) (q := 299) gdX7_known_286.2.2.2.2.2.1 (by decide) rfl (fun h_296 => ?_) (fun h_296 => ?_)
      · exact tX7_known_315 hm ih _ _ _ _
      · refine aw_aload_n (q := 300) gdX7_known_286.2.2.2.2.2.2.1 rfl 0 rfl ?_
        refine aw_iload_n (q := 301) gdX7_known_286.2.2.2.2.2.2.2 rfl 1 rfl ?_
        refine aw_iload_n (q := 302) gdX7_known_301.1 rfl 2 rfl ?_
        refine aw_iload (q := 304) gdX7_known_301.2.1 rfl 5 rfl ?_
        refine aw_bipush (q := 306) (v := 21) gdX7_known_301.2.2.1 rfl (by decide) ?_
        refine aw_iremT (q := 307) gdX7_known_301.2.2.2.1 rfl (by decide) ?_
        refine aw_iload (q := 309) gdX7_known_301.2.2.2.2.1 rfl 5 rfl ?_
        refine aw_bipush (q := 311) (v := 21) gdX7_known_301.2.2.2.2.2.1 rfl (by decide) ?_
        refine aw_idivT (q := 312) gdX7_known_301.2.2.2.2.2.2.1 rfl (by decide) ?_
        refine aw_call (q := 315) (kc1 := 0) (ks1 := 0) (wc := [(m, .inr (9, [.ref Mo, .ref Lo, .ref Do, .ref tl, .ref ca, .int th])), (Mo, .inl (4, 3, .inr (.inr (.inr (.inr mm))))), (q, .inl (0, 6144, .inl f_))]) (wr := [(tl, .inl (0, 6, .inl t_)), (ca, .inl (0, 441, .inl u_))]) (st1 := fun x312 g312 => []) (ws1 := fun x312 g312 => [(tl, .inl (0, 6, .inl t_)), (ca, .inl (0, 441, .inl u_)), (m, .inr (9, [.ref Mo, .ref Lo, .ref Do, .ref tl, .ref ca, .int th])), (Mo, .inl (4, 3, .inr (.inr (.inr (.inr mm))))), (q, .inl (0, 6144, .inl x312))]) (As := [.ref m, .int p0, .int p1, .int (l5 % (21 : Int32)), .int (l5 / (21 : Int32))]) [0, 1, 2] [3, 4] (fun _ => runV (q0 := 0) gdX7_known_301.2.2.2.2.2.2.2 mi_X7_keep im_X7_keep se_X7_keep ml_X7_60 (by omega) rfl (Nat.le_of_ble_eq_true rfl) rfl rfl rfl rfl) (fun x9 h9 => ok_X7_keep hm h9) rfl rfl rfl rfl rfl (by decide +kernel) (by omega) (by omega) (fun _ _ => rfl) (fun _ _ => rfl) (fun x312 g312 => ?_)
        refine aw_world (ws' := [(m, .inr (9, [.ref Mo, .ref Lo, .ref Do, .ref tl, .ref ca, .int th])), (Mo, .inl (4, 3, .inr (.inr (.inr (.inr mm))))), (q, .inl (0, 6144, .inl x312)), (tl, .inl (0, 6, .inl t_)), (ca, .inl (0, 441, .inl u_))]) [2, 3, 4, 0, 1] rfl rfl ?_
        exact tX7_known_315 hm ih _ _ _ _
def fX7_known_268 (N K : Nat) (th : Int32) (f : Nat → Int32) (t : Nat → Int32) (u : Nat → Int32) (p0 : Int32) (p1 : Int32) (p2 : Int32) (p3 : Int32) (k_68 : Int32 → (Nat → Int32) → (Nat → Int32) → (Nat → Int32) → Option (Int32 × (Nat → Int32) × (Nat → Int32) × (Nat → Int32))) (l5 : Int32) (f_ : Nat → Int32) (t_ : Nat → Int32) (u_ : Nat → Int32) : Option (Int32 × (Nat → Int32) × (Nat → Int32) × (Nat → Int32)) :=
  k_68 (l5 + (-1 : Int32)) f_ t_ u_
set_option maxHeartbeats 4000000 in
set_option maxRecDepth 100000 in
theorem tX7_known_268 {N K : Nat} {m Mo Lo Do tl ca q : Nat} {mm : Nat → Option Nat} {th : Int32} {f : Nat → Int32} {t : Nat → Int32} {u : Nat → Int32} {p0 : Int32} {p1 : Int32} {p2 : Int32} {p3 : Int32} (hm : ¬ (p0 < 0 ∨ 3 ≤ p0.toNatClampNeg) → mm p0.toNatClampNeg = some q) {k_68 : Int32 → (Nat → Int32) → (Nat → Int32) → (Nat → Int32) → Option (Int32 × (Nat → Int32) × (Nat → Int32) × (Nat → Int32))} (hk_68 : ∀ (l5 : Int32) (f_ : Nat → Int32) (t_ : Nat → Int32) (u_ : Nat → Int32), AW RX7 "known" cX7_known 12 (some .int) [] (fun _ _ => True) (3) (PN (U := Int32 × (Nat → Int32) × (Nat → Int32) × (Nat → Int32)) (fun zz _ => some (.int zz.1)) (fun zz ad => [(m, .inr (9, [.ref Mo, .ref Lo, .ref Do, .ref tl, .ref ca, .int th])), (Mo, .inl (4, 3, .inr (.inr (.inr (.inr mm))))), (q, .inl (0, 6144, .inl zz.2.1)), (tl, .inl (0, 6, .inl zz.2.2.1)), (ca, .inl (0, 441, .inl zz.2.2.2))])) 0 0 (k_68 l5 f_ t_ u_) 68 [(0, .ref m), (1, .int p0), (2, .int p1), (3, .int p2), (4, .int p3), (5, .int l5)] [] [(m, .inr (9, [.ref Mo, .ref Lo, .ref Do, .ref tl, .ref ca, .int th])), (Mo, .inl (4, 3, .inr (.inr (.inr (.inr mm))))), (q, .inl (0, 6144, .inl f_)), (tl, .inl (0, 6, .inl t_)), (ca, .inl (0, 441, .inl u_))]) : ∀ (l5 : Int32) (f_ : Nat → Int32) (t_ : Nat → Int32) (u_ : Nat → Int32), AW RX7 "known" cX7_known 12 (some .int) [] (fun _ _ => True) (3) (PN (U := Int32 × (Nat → Int32) × (Nat → Int32) × (Nat → Int32)) (fun zz _ => some (.int zz.1)) (fun zz ad => [(m, .inr (9, [.ref Mo, .ref Lo, .ref Do, .ref tl, .ref ca, .int th])), (Mo, .inl (4, 3, .inr (.inr (.inr (.inr mm))))), (q, .inl (0, 6144, .inl zz.2.1)), (tl, .inl (0, 6, .inl zz.2.2.1)), (ca, .inl (0, 441, .inl zz.2.2.2))])) 0 0 (fX7_known_268 N K th f t u p0 p1 p2 p3 k_68 l5 f_ t_ u_) 268 [(0, .ref m), (1, .int p0), (2, .int p1), (3, .int p2), (4, .int p3), (5, .int l5)] [] [(m, .inr (9, [.ref Mo, .ref Lo, .ref Do, .ref tl, .ref ca, .int th])), (Mo, .inl (4, 3, .inr (.inr (.inr (.inr mm))))), (q, .inl (0, 6144, .inl f_)), (tl, .inl (0, 6, .inl t_)), (ca, .inl (0, 441, .inl u_))] := by
  intro l5 f_ t_ u_
  refine aw_iinc (q := 271) (v := (l5 + (-1 : Int32))) (lv' := [(5, .int (l5 + (-1 : Int32))), (0, .ref m), (1, .int p0), (2, .int p1), (3, .int p2), (4, .int p3)]) gdX7_known_258.2.2.2.2.2.2.1 rfl 5 rfl rfl (by decide) rfl ?_
  refine aw_goto (tgt := 68) gdX7_known_258.2.2.2.2.2.2.2 (by decide) ?_
  refine aw_locals (lv' := [(0, .ref m), (1, .int p0), (2, .int p1), (3, .int p2), (4, .int p3), (5, .int (l5 + (-1 : Int32)))]) [1, 2, 3, 4, 5, 0] rfl ?_
  exact hk_68 _ _ _ _
def fX7_known_262 (N K : Nat) (th : Int32) (f : Nat → Int32) (t : Nat → Int32) (u : Nat → Int32) (p0 : Int32) (p1 : Int32) (p2 : Int32) (p3 : Int32) (k_68 : Int32 → (Nat → Int32) → (Nat → Int32) → (Nat → Int32) → Option (Int32 × (Nat → Int32) × (Nat → Int32) × (Nat → Int32))) (k_191 : Int32 → Int32 → Int32 → Int32 → Int32 → (Nat → Int32) → (Nat → Int32) → (Nat → Int32) → Option (Int32 × (Nat → Int32) × (Nat → Int32) × (Nat → Int32))) (l5 : Int32) (l6 : Int32) (l7 : Int32) (l8 : Int32) (l9 : Int32) (f_ : Nat → Int32) (t_ : Nat → Int32) (u_ : Nat → Int32) : Option (Int32 × (Nat → Int32) × (Nat → Int32) × (Nat → Int32)) :=
  k_191 l5 l6 l7 l8 (l9 + (1 : Int32)) f_ t_ u_
set_option maxHeartbeats 4000000 in
set_option maxRecDepth 100000 in
theorem tX7_known_262 {N K : Nat} {m Mo Lo Do tl ca q : Nat} {mm : Nat → Option Nat} {th : Int32} {f : Nat → Int32} {t : Nat → Int32} {u : Nat → Int32} {p0 : Int32} {p1 : Int32} {p2 : Int32} {p3 : Int32} (hm : ¬ (p0 < 0 ∨ 3 ≤ p0.toNatClampNeg) → mm p0.toNatClampNeg = some q) {k_68 : Int32 → (Nat → Int32) → (Nat → Int32) → (Nat → Int32) → Option (Int32 × (Nat → Int32) × (Nat → Int32) × (Nat → Int32))} (hk_68 : ∀ (l5 : Int32) (f_ : Nat → Int32) (t_ : Nat → Int32) (u_ : Nat → Int32), AW RX7 "known" cX7_known 12 (some .int) [] (fun _ _ => True) (3) (PN (U := Int32 × (Nat → Int32) × (Nat → Int32) × (Nat → Int32)) (fun zz _ => some (.int zz.1)) (fun zz ad => [(m, .inr (9, [.ref Mo, .ref Lo, .ref Do, .ref tl, .ref ca, .int th])), (Mo, .inl (4, 3, .inr (.inr (.inr (.inr mm))))), (q, .inl (0, 6144, .inl zz.2.1)), (tl, .inl (0, 6, .inl zz.2.2.1)), (ca, .inl (0, 441, .inl zz.2.2.2))])) 0 0 (k_68 l5 f_ t_ u_) 68 [(0, .ref m), (1, .int p0), (2, .int p1), (3, .int p2), (4, .int p3), (5, .int l5)] [] [(m, .inr (9, [.ref Mo, .ref Lo, .ref Do, .ref tl, .ref ca, .int th])), (Mo, .inl (4, 3, .inr (.inr (.inr (.inr mm))))), (q, .inl (0, 6144, .inl f_)), (tl, .inl (0, 6, .inl t_)), (ca, .inl (0, 441, .inl u_))]) {k_191 : Int32 → Int32 → Int32 → Int32 → Int32 → (Nat → Int32) → (Nat → Int32) → (Nat → Int32) → Option (Int32 × (Nat → Int32) × (Nat → Int32) × (Nat → Int32))} (hk_191 : ∀ (l5 : Int32) (l6 : Int32) (l7 : Int32) (l8 : Int32) (l9 : Int32) (f_ : Nat → Int32) (t_ : Nat → Int32) (u_ : Nat → Int32), AW RX7 "known" cX7_known 12 (some .int) [] (fun _ _ => True) (3) (PN (U := Int32 × (Nat → Int32) × (Nat → Int32) × (Nat → Int32)) (fun zz _ => some (.int zz.1)) (fun zz ad => [(m, .inr (9, [.ref Mo, .ref Lo, .ref Do, .ref tl, .ref ca, .int th])), (Mo, .inl (4, 3, .inr (.inr (.inr (.inr mm))))), (q, .inl (0, 6144, .inl zz.2.1)), (tl, .inl (0, 6, .inl zz.2.2.1)), (ca, .inl (0, 441, .inl zz.2.2.2))])) 0 0 (k_191 l5 l6 l7 l8 l9 f_ t_ u_) 191 [(0, .ref m), (1, .int p0), (2, .int p1), (3, .int p2), (4, .int p3), (5, .int l5), (6, .int l6), (7, .int l7), (8, .int l8), (9, .int l9)] [] [(m, .inr (9, [.ref Mo, .ref Lo, .ref Do, .ref tl, .ref ca, .int th])), (Mo, .inl (4, 3, .inr (.inr (.inr (.inr mm))))), (q, .inl (0, 6144, .inl f_)), (tl, .inl (0, 6, .inl t_)), (ca, .inl (0, 441, .inl u_))]) : ∀ (l5 : Int32) (l6 : Int32) (l7 : Int32) (l8 : Int32) (l9 : Int32) (f_ : Nat → Int32) (t_ : Nat → Int32) (u_ : Nat → Int32), AW RX7 "known" cX7_known 12 (some .int) [] (fun _ _ => True) (3) (PN (U := Int32 × (Nat → Int32) × (Nat → Int32) × (Nat → Int32)) (fun zz _ => some (.int zz.1)) (fun zz ad => [(m, .inr (9, [.ref Mo, .ref Lo, .ref Do, .ref tl, .ref ca, .int th])), (Mo, .inl (4, 3, .inr (.inr (.inr (.inr mm))))), (q, .inl (0, 6144, .inl zz.2.1)), (tl, .inl (0, 6, .inl zz.2.2.1)), (ca, .inl (0, 441, .inl zz.2.2.2))])) 0 0 (fX7_known_262 N K th f t u p0 p1 p2 p3 k_68 k_191 l5 l6 l7 l8 l9 f_ t_ u_) 262 [(0, .ref m), (1, .int p0), (2, .int p1), (3, .int p2), (4, .int p3), (5, .int l5), (6, .int l6), (7, .int l7), (8, .int l8), (9, .int l9)] [] [(m, .inr (9, [.ref Mo, .ref Lo, .ref Do, .ref tl, .ref ca, .int th])), (Mo, .inl (4, 3, .inr (.inr (.inr (.inr mm))))), (q, .inl (0, 6144, .inl f_)), (tl, .inl (0, 6, .inl t_)), (ca, .inl (0, 441, .inl u_))] := by
  intro l5 l6 l7 l8 l9 f_ t_ u_
  refine aw_iinc (q := 265) (v := (l9 + (1 : Int32))) (lv' := [(9, .int (l9 + (1 : Int32))), (0, .ref m), (1, .int p0), (2, .int p1), (3, .int p2), (4, .int p3), (5, .int l5), (6, .int l6), (7, .int l7), (8, .int l8)]) gdX7_known_258.2.2.2.2.1 rfl 9 rfl rfl (by decide) rfl ?_
  refine aw_goto (tgt := 191) gdX7_known_258.2.2.2.2.2.1 (by decide) ?_
  refine aw_locals (lv' := [(0, .ref m), (1, .int p0), (2, .int p1), (3, .int p2), (4, .int p3), (5, .int l5), (6, .int l6), (7, .int l7), (8, .int l8), (9, .int (l9 + (1 : Int32)))]) [1, 2, 3, 4, 5, 6, 7, 8, 9, 0] rfl ?_
  exact hk_191 _ _ _ _ _ _ _ _
def fX7_known_191 (N K : Nat) (th : Int32) (f : Nat → Int32) (t : Nat → Int32) (u : Nat → Int32) (p0 : Int32) (p1 : Int32) (p2 : Int32) (p3 : Int32) (k_68 : Int32 → (Nat → Int32) → (Nat → Int32) → (Nat → Int32) → Option (Int32 × (Nat → Int32) × (Nat → Int32) × (Nat → Int32))) : Nat → Int32 → Int32 → Int32 → Int32 → Int32 → (Nat → Int32) → (Nat → Int32) → (Nat → Int32) → Option (Int32 × (Nat → Int32) × (Nat → Int32) × (Nat → Int32))
  | 0, _, _, _, _, _, _, _, _ => none
  | fu + 1, l5, l6, l7, l8, l9, f_, t_, u_ =>
    (if (2 : Int32) ≤ l9 then fX7_known_268 N K th f t u p0 p1 p2 p3 k_68 l5 f_ t_ u_ else (if l8 = 0 then ((fX7_legNumber N K p1 l6 l7 l9).bind (fun x209 => ((fX7_legMeasure N K p1 l7 l9).bind (fun x219 => ((fX7_hasLeg N K p1 l7 l9).bind (fun x229 => (if x229 = 0 then fX7_known_262 N K th f t u p0 p1 p2 p3 k_68 (fX7_known_191 N K th f t u p0 p1 p2 p3 k_68 fu) l5 l6 l7 l8 l9 f_ t_ u_ else ((fX7_rests N K x209 x219).bind (fun x239 => (if x239 = 0 then (if (((21 : Int32) * x219) + x209) < 0 ∨ 441 ≤ (((21 : Int32) * x219) + x209).toNatClampNeg then none else (if (((21 : Int32) * x219) + x209) < 0 ∨ 441 ≤ (((21 : Int32) * x219) + x209).toNatClampNeg then none else fX7_known_262 N K th f t u p0 p1 p2 p3 k_68 (fX7_known_191 N K th f t u p0 p1 p2 p3 k_68 fu) l5 l6 l7 l8 l9 f_ t_ (upd u_ (((21 : Int32) * x219) + x209).toNatClampNeg ((u_ (((21 : Int32) * x219) + x209).toNatClampNeg) + (1 : Int32))))) else fX7_known_262 N K th f t u p0 p1 p2 p3 k_68 (fX7_known_191 N K th f t u p0 p1 p2 p3 k_68 fu) l5 l6 l7 l8 l9 f_ t_ u_)))))))))) else fX7_known_268 N K th f t u p0 p1 p2 p3 k_68 l5 f_ t_ u_))
set_option maxHeartbeats 4000000 in
set_option maxRecDepth 100000 in
theorem tX7_known_191 {N K : Nat} {m Mo Lo Do tl ca q : Nat} {mm : Nat → Option Nat} {th : Int32} {f : Nat → Int32} {t : Nat → Int32} {u : Nat → Int32} {p0 : Int32} {p1 : Int32} {p2 : Int32} {p3 : Int32} (hm : ¬ (p0 < 0 ∨ 3 ≤ p0.toNatClampNeg) → mm p0.toNatClampNeg = some q) {k_68 : Int32 → (Nat → Int32) → (Nat → Int32) → (Nat → Int32) → Option (Int32 × (Nat → Int32) × (Nat → Int32) × (Nat → Int32))} (hk_68 : ∀ (l5 : Int32) (f_ : Nat → Int32) (t_ : Nat → Int32) (u_ : Nat → Int32), AW RX7 "known" cX7_known 12 (some .int) [] (fun _ _ => True) (3) (PN (U := Int32 × (Nat → Int32) × (Nat → Int32) × (Nat → Int32)) (fun zz _ => some (.int zz.1)) (fun zz ad => [(m, .inr (9, [.ref Mo, .ref Lo, .ref Do, .ref tl, .ref ca, .int th])), (Mo, .inl (4, 3, .inr (.inr (.inr (.inr mm))))), (q, .inl (0, 6144, .inl zz.2.1)), (tl, .inl (0, 6, .inl zz.2.2.1)), (ca, .inl (0, 441, .inl zz.2.2.2))])) 0 0 (k_68 l5 f_ t_ u_) 68 [(0, .ref m), (1, .int p0), (2, .int p1), (3, .int p2), (4, .int p3), (5, .int l5)] [] [(m, .inr (9, [.ref Mo, .ref Lo, .ref Do, .ref tl, .ref ca, .int th])), (Mo, .inl (4, 3, .inr (.inr (.inr (.inr mm))))), (q, .inl (0, 6144, .inl f_)), (tl, .inl (0, 6, .inl t_)), (ca, .inl (0, 441, .inl u_))]) : ∀ (fu : Nat) (l5 : Int32) (l6 : Int32) (l7 : Int32) (l8 : Int32) (l9 : Int32) (f_ : Nat → Int32) (t_ : Nat → Int32) (u_ : Nat → Int32), AW RX7 "known" cX7_known 12 (some .int) [] (fun _ _ => True) (3) (PN (U := Int32 × (Nat → Int32) × (Nat → Int32) × (Nat → Int32)) (fun zz _ => some (.int zz.1)) (fun zz ad => [(m, .inr (9, [.ref Mo, .ref Lo, .ref Do, .ref tl, .ref ca, .int th])), (Mo, .inl (4, 3, .inr (.inr (.inr (.inr mm))))), (q, .inl (0, 6144, .inl zz.2.1)), (tl, .inl (0, 6, .inl zz.2.2.1)), (ca, .inl (0, 441, .inl zz.2.2.2))])) 0 0 (fX7_known_191 N K th f t u p0 p1 p2 p3 k_68 fu l5 l6 l7 l8 l9 f_ t_ u_) 191 [(0, .ref m), (1, .int p0), (2, .int p1), (3, .int p2), (4, .int p3), (5, .int l5), (6, .int l6), (7, .int l7), (8, .int l8), (9, .int l9)] [] [(m, .inr (9, [.ref Mo, .ref Lo, .ref Do, .ref tl, .ref ca, .int th])), (Mo, .inl (4, 3, .inr (.inr (.inr (.inr mm))))), (q, .inl (0, 6144, .inl f_)), (tl, .inl (0, 6, .inl t_)), (ca, .inl (0, 441, .inl u_))] := by
  intro fu
  induction fu with
  | zero => intro l5 l6 l7 l8 l9 f_ t_ u_; exact aw_none
  | succ fu ih =>
    intro l5 l6 l7 l8 l9 f_ t_ u_
    refine aw_iload (q := 193) gdX7_known_181.2.2.2.2.2.2.2 rfl 9 rfl ?_
    refine aw_iconst (q := 194) (v := 2) gdX7_known_193.1 rfl (by decide) ?_
    refine aw_icmp_ge (tgt := 268) (q := 197) gdX7_known_193.2.1 (by decide) rfl (fun h_194 => ?_) (fun h_194 => ?_)
    · refine aw_locals (lv' := [(0, .ref m), (1, .int p0), (2, .int p1), (3, .int p2), (4, .int p3), (5, .int l5)]) [0, 1, 2, 3, 4, 5] rfl ?_
      exact tX7_known_268 hm hk_68 _ _ _ _
    · refine aw_iload (q := 199) gdX7_known_193.2.2.1 rfl 8 rfl ?_
      refine aw_if_ne (tgt := 268) (q := 202) gdX7_known_193.2.2.2.1 (by decide) rfl (fun h_199 => ?_) (fun h_199 => ?_)
      · refine aw_locals (lv' := [(0, .ref m), (1, .int p0), (2, .int p1), (3, .int p2), (4, .int p3), (5, .int l5)]) [0, 1, 2, 3, 4, 5] rfl ?_
        exact tX7_known_268 hm hk_68 _ _ _ _
      · refine aw_iload_n (q := 203) gdX7_known_193.2.2.2.2.1 rfl 2 rfl ?_
        refine aw_iload (q := 205) gdX7_known_193.2.2.2.2.2.1 rfl 6 rfl ?_
        refine aw_iload (q := 207) gdX7_known_193.2.2.2.2.2.2.1 rfl 7 rfl ?_
        refine aw_iload (q := 209) gdX7_known_193.2.2.2.2.2.2.2 rfl 9 rfl ?_
        refine aw_call (q := 212) (kc1 := 0) (ks1 := 0) (wc := []) (wr := [(m, .inr (9, [.ref Mo, .ref Lo, .ref Do, .ref tl, .ref ca, .int th])), (Mo, .inl (4, 3, .inr (.inr (.inr (.inr mm))))), (q, .inl (0, 6144, .inl f_)), (tl, .inl (0, 6, .inl t_)), (ca, .inl (0, 441, .inl u_))]) (st1 := fun x209 g209 => [.int x209]) (ws1 := fun x209 g209 => [(m, .inr (9, [.ref Mo, .ref Lo, .ref Do, .ref tl, .ref ca, .int th])), (Mo, .inl (4, 3, .inr (.inr (.inr (.inr mm))))), (q, .inl (0, 6144, .inl f_)), (tl, .inl (0, 6, .inl t_)), (ca, .inl (0, 441, .inl u_))]) (As := [.int p1, .int l6, .int l7, .int l9]) [] [0, 1, 2, 3, 4] (fun _ => runS gdX7_known_209.1 mi_X7_legNumber st_X7_legNumber ml_X7_51 (by omega) rfl (Nat.le_of_ble_eq_true rfl) rfl) (fun x9 h9 => ok_X7_legNumber h9) rfl rfl rfl rfl rfl (by decide +kernel) (by omega) (by omega) (fun _ _ => rfl) (fun _ _ => rfl) (fun x209 g209 => ?_)
        refine aw_istore (q := 214) (lv' := [(10, .int x209), (0, .ref m), (1, .int p0), (2, .int p1), (3, .int p2), (4, .int p3), (5, .int l5), (6, .int l6), (7, .int l7), (8, .int l8), (9, .int l9)]) gdX7_known_209.2.1 rfl (by decide) rfl ?_
        refine aw_iload_n (q := 215) gdX7_known_209.2.2.1 rfl 3 rfl ?_
        refine aw_iload (q := 217) gdX7_known_209.2.2.2.1 rfl 8 rfl ?_
        refine aw_iload (q := 219) gdX7_known_209.2.2.2.2.1 rfl 10 rfl ?_
        refine aw_call (q := 222) (kc1 := 0) (ks1 := 0) (wc := []) (wr := [(m, .inr (9, [.ref Mo, .ref Lo, .ref Do, .ref tl, .ref ca, .int th])), (Mo, .inl (4, 3, .inr (.inr (.inr (.inr mm))))), (q, .inl (0, 6144, .inl f_)), (tl, .inl (0, 6, .inl t_)), (ca, .inl (0, 441, .inl u_))]) (st1 := fun x219 g219 => [.int x219]) (ws1 := fun x219 g219 => [(m, .inr (9, [.ref Mo, .ref Lo, .ref Do, .ref tl, .ref ca, .int th])), (Mo, .inl (4, 3, .inr (.inr (.inr (.inr mm))))), (q, .inl (0, 6144, .inl f_)), (tl, .inl (0, 6, .inl t_)), (ca, .inl (0, 441, .inl u_))]) (As := [.int p1, .int l7, .int l9]) [] [0, 1, 2, 3, 4] (fun _ => runS gdX7_known_209.2.2.2.2.2.1 mi_X7_legMeasure st_X7_legMeasure ml_X7_54 (by omega) rfl (Nat.le_of_ble_eq_true rfl) rfl) (fun x9 h9 => ok_X7_legMeasure h9) rfl rfl rfl rfl rfl (by decide +kernel) (by omega) (by omega) (fun _ _ => rfl) (fun _ _ => rfl) (fun x219 g219 => ?_)
        refine aw_istore (q := 224) (lv' := [(11, .int x219), (10, .int x209), (0, .ref m), (1, .int p0), (2, .int p1), (3, .int p2), (4, .int p3), (5, .int l5), (6, .int l6), (7, .int l7), (8, .int l8), (9, .int l9)]) gdX7_known_209.2.2.2.2.2.2.1 rfl (by decide) rfl ?_
        refine aw_iload_n (q := 225) gdX7_known_209.2.2.2.2.2.2.2 rfl 4 rfl ?_
        refine aw_iload (q := 227) gdX7_known_225.1 rfl 9 rfl ?_
        refine aw_iload (q := 229) gdX7_known_225.2.1 rfl 11 rfl ?_
        refine aw_call (q := 232) (kc1 := 0) (ks1 := 0) (wc := []) (wr := [(m, .inr (9, [.ref Mo, .ref Lo, .ref Do, .ref tl, .ref ca, .int th])), (Mo, .inl (4, 3, .inr (.inr (.inr (.inr mm))))), (q, .inl (0, 6144, .inl f_)), (tl, .inl (0, 6, .inl t_)), (ca, .inl (0, 441, .inl u_))]) (st1 := fun x229 g229 => [.int x229]) (ws1 := fun x229 g229 => [(m, .inr (9, [.ref Mo, .ref Lo, .ref Do, .ref tl, .ref ca, .int th])), (Mo, .inl (4, 3, .inr (.inr (.inr (.inr mm))))), (q, .inl (0, 6144, .inl f_)), (tl, .inl (0, 6, .inl t_)), (ca, .inl (0, 441, .inl u_))]) (As := [.int p1, .int l7, .int l9]) [] [0, 1, 2, 3, 4] (fun _ => runS gdX7_known_225.2.2.1 mi_X7_hasLeg st_X7_hasLeg ml_X7_57 (by omega) rfl (Nat.le_of_ble_eq_true rfl) rfl) (fun x9 h9 => ok_X7_hasLeg h9) rfl rfl rfl rfl rfl (by decide +kernel) (by omega) (by omega) (fun _ _ => rfl) (fun _ _ => rfl) (fun x229 g229 => ?_)
        refine aw_if_eq (tgt := 262) (q := 235) gdX7_known_225.2.2.2.1 (by decide) rfl (fun h_232 => ?_) (fun h_232 => ?_)
        · refine aw_locals (lv' := [(0, .ref m), (1, .int p0), (2, .int p1), (3, .int p2), (4, .int p3), (5, .int l5), (6, .int l6), (7, .int l7), (8, .int l8), (9, .int l9)]) [2, 3, 4, 5, 6, 7, 8, 9, 10, 11] rfl ?_
          exact tX7_known_262 hm hk_68 ih _ _ _ _ _ _ _ _
        · refine aw_iload (q := 237) gdX7_known_225.2.2.2.2.1 rfl 1 rfl ?_
          refine aw_iload (q := 239) gdX7_known_225.2.2.2.2.2.1 rfl 0 rfl ?_
          refine aw_call (q := 242) (kc1 := 0) (ks1 := 0) (wc := []) (wr := [(m, .inr (9, [.ref Mo, .ref Lo, .ref Do, .ref tl, .ref ca, .int th])), (Mo, .inl (4, 3, .inr (.inr (.inr (.inr mm))))), (q, .inl (0, 6144, .inl f_)), (tl, .inl (0, 6, .inl t_)), (ca, .inl (0, 441, .inl u_))]) (st1 := fun x239 g239 => [.int x239]) (ws1 := fun x239 g239 => [(m, .inr (9, [.ref Mo, .ref Lo, .ref Do, .ref tl, .ref ca, .int th])), (Mo, .inl (4, 3, .inr (.inr (.inr (.inr mm))))), (q, .inl (0, 6144, .inl f_)), (tl, .inl (0, 6, .inl t_)), (ca, .inl (0, 441, .inl u_))]) (As := [.int x209, .int x219]) [] [0, 1, 2, 3, 4] (fun _ => runS gdX7_known_225.2.2.2.2.2.2.1 mi_X7_rests st_X7_rests ml_X7_35 (by omega) rfl (Nat.le_of_ble_eq_true rfl) rfl) (fun x9 h9 => ok_X7_rests h9) rfl rfl rfl rfl rfl (by decide +kernel) (by omega) (by omega) (fun _ _ => rfl) (fun _ _ => rfl) (fun x239 g239 => ?_)
          refine aw_if_ne (tgt := 262) (q := 245) gdX7_known_225.2.2.2.2.2.2.2 (by decide) rfl (fun h_242 => ?_) (fun h_242 => ?_)
          · refine aw_locals (lv' := [(0, .ref m), (1, .int p0), (2, .int p1), (3, .int p2), (4, .int p3), (5, .int l5), (6, .int l6), (7, .int l7), (8, .int l8), (9, .int l9)]) [2, 3, 4, 5, 6, 7, 8, 9, 10, 11] rfl ?_
            exact tX7_known_262 hm hk_68 ih _ _ _ _ _ _ _ _
          · refine aw_aload_n (q := 246) gdX7_known_245.1 rfl 2 rfl ?_
            refine aw_get (q := 249) gdX7_known_245.2.1 rfl fl_X7_24 0 rfl rfl ?_
            refine aw_bipush (q := 251) (v := 21) gdX7_known_245.2.2.1 rfl (by decide) ?_
            refine aw_iload (q := 253) gdX7_known_245.2.2.2.1 rfl 0 rfl ?_
            refine aw_imul (q := 254) gdX7_known_245.2.2.2.2.1 rfl ?_
            refine aw_iload (q := 256) gdX7_known_245.2.2.2.2.2.1 rfl 1 rfl ?_
            refine aw_iadd (q := 257) gdX7_known_245.2.2.2.2.2.2.1 rfl ?_
            refine aw_dup2 (q := 258) gdX7_known_245.2.2.2.2.2.2.2 rfl rfl rfl ?_
            refine aw_iald (q := 259) gdX7_known_258.1 rfl 4 rfl ?_
            refine aw_iconst (q := 260) (v := 1) gdX7_known_258.2.1 rfl (by decide) ?_
            refine aw_iadd (q := 261) gdX7_known_258.2.2.1 rfl ?_
            refine aw_iast (q := 262) (ws' := [(m, .inr (9, [.ref Mo, .ref Lo, .ref Do, .ref tl, .ref ca, .int th])), (Mo, .inl (4, 3, .inr (.inr (.inr (.inr mm))))), (q, .inl (0, 6144, .inl f_)), (tl, .inl (0, 6, .inl t_)), (ca, .inl (0, 441, .inl (upd u_ (((21 : Int32) * x219) + x209).toNatClampNeg ((u_ (((21 : Int32) * x219) + x209).toNatClampNeg) + (1 : Int32)))))]) gdX7_known_258.2.2.2.1 rfl 4 rfl rfl ?_
            refine aw_locals (lv' := [(0, .ref m), (1, .int p0), (2, .int p1), (3, .int p2), (4, .int p3), (5, .int l5), (6, .int l6), (7, .int l7), (8, .int l8), (9, .int l9)]) [2, 3, 4, 5, 6, 7, 8, 9, 10, 11] rfl ?_
            exact tX7_known_262 hm hk_68 ih _ _ _ _ _ _ _ _
def fX7_known_182 (N K : Nat) (th : Int32) (f : Nat → Int32) (t : Nat → Int32) (u : Nat → Int32) (p0 : Int32) (p1 : Int32) (p2 : Int32) (p3 : Int32) (k_68 : Int32 → (Nat → Int32) → (Nat → Int32) → (Nat → Int32) → Option (Int32 × (Nat → Int32) × (Nat → Int32) × (Nat → Int32))) (l5 : Int32) (l6 : Int32) (l7 : Int32) (l8 : Int32) (s0 : Int32) (s1 : Int32) (s2 : Int32) (s3 : Int32) (f_ : Nat → Int32) (t_ : Nat → Int32) (u_ : Nat → Int32) : Option (Int32 × (Nat → Int32) × (Nat → Int32) × (Nat → Int32)) :=
  ((fX7_bit N K s0).bind (fun x182 => (if s3 < 0 ∨ 6 ≤ s3.toNatClampNeg then none else fX7_known_191 N K th f t u p0 p1 p2 p3 k_68 N l5 l6 l7 l8 (0 : Int32) f_ (upd t_ s3.toNatClampNeg (s2 + (s1 - x182))) u_)))
set_option maxHeartbeats 4000000 in
set_option maxRecDepth 100000 in
theorem tX7_known_182 {N K : Nat} {m Mo Lo Do tl ca q : Nat} {mm : Nat → Option Nat} {th : Int32} {f : Nat → Int32} {t : Nat → Int32} {u : Nat → Int32} {p0 : Int32} {p1 : Int32} {p2 : Int32} {p3 : Int32} (hm : ¬ (p0 < 0 ∨ 3 ≤ p0.toNatClampNeg) → mm p0.toNatClampNeg = some q) {k_68 : Int32 → (Nat → Int32) → (Nat → Int32) → (Nat → Int32) → Option (Int32 × (Nat → Int32) × (Nat → Int32) × (Nat → Int32))} (hk_68 : ∀ (l5 : Int32) (f_ : Nat → Int32) (t_ : Nat → Int32) (u_ : Nat → Int32), AW RX7 "known" cX7_known 12 (some .int) [] (fun _ _ => True) (3) (PN (U := Int32 × (Nat → Int32) × (Nat → Int32) × (Nat → Int32)) (fun zz _ => some (.int zz.1)) (fun zz ad => [(m, .inr (9, [.ref Mo, .ref Lo, .ref Do, .ref tl, .ref ca, .int th])), (Mo, .inl (4, 3, .inr (.inr (.inr (.inr mm))))), (q, .inl (0, 6144, .inl zz.2.1)), (tl, .inl (0, 6, .inl zz.2.2.1)), (ca, .inl (0, 441, .inl zz.2.2.2))])) 0 0 (k_68 l5 f_ t_ u_) 68 [(0, .ref m), (1, .int p0), (2, .int p1), (3, .int p2), (4, .int p3), (5, .int l5)] [] [(m, .inr (9, [.ref Mo, .ref Lo, .ref Do, .ref tl, .ref ca, .int th])), (Mo, .inl (4, 3, .inr (.inr (.inr (.inr mm))))), (q, .inl (0, 6144, .inl f_)), (tl, .inl (0, 6, .inl t_)), (ca, .inl (0, 441, .inl u_))]) : ∀ (l5 : Int32) (l6 : Int32) (l7 : Int32) (l8 : Int32) (s0 : Int32) (s1 : Int32) (s2 : Int32) (s3 : Int32) (f_ : Nat → Int32) (t_ : Nat → Int32) (u_ : Nat → Int32), AW RX7 "known" cX7_known 12 (some .int) [] (fun _ _ => True) (3) (PN (U := Int32 × (Nat → Int32) × (Nat → Int32) × (Nat → Int32)) (fun zz _ => some (.int zz.1)) (fun zz ad => [(m, .inr (9, [.ref Mo, .ref Lo, .ref Do, .ref tl, .ref ca, .int th])), (Mo, .inl (4, 3, .inr (.inr (.inr (.inr mm))))), (q, .inl (0, 6144, .inl zz.2.1)), (tl, .inl (0, 6, .inl zz.2.2.1)), (ca, .inl (0, 441, .inl zz.2.2.2))])) 0 0 (fX7_known_182 N K th f t u p0 p1 p2 p3 k_68 l5 l6 l7 l8 s0 s1 s2 s3 f_ t_ u_) 182 [(0, .ref m), (1, .int p0), (2, .int p1), (3, .int p2), (4, .int p3), (5, .int l5), (6, .int l6), (7, .int l7), (8, .int l8)] [.int s0, .int s1, .int s2, .int s3, .ref tl] [(m, .inr (9, [.ref Mo, .ref Lo, .ref Do, .ref tl, .ref ca, .int th])), (Mo, .inl (4, 3, .inr (.inr (.inr (.inr mm))))), (q, .inl (0, 6144, .inl f_)), (tl, .inl (0, 6, .inl t_)), (ca, .inl (0, 441, .inl u_))] := by
  intro l5 l6 l7 l8 s0 s1 s2 s3 f_ t_ u_
  refine aw_call (q := 185) (kc1 := 0) (ks1 := 0) (wc := []) (wr := [(m, .inr (9, [.ref Mo, .ref Lo, .ref Do, .ref tl, .ref ca, .int th])), (Mo, .inl (4, 3, .inr (.inr (.inr (.inr mm))))), (q, .inl (0, 6144, .inl f_)), (tl, .inl (0, 6, .inl t_)), (ca, .inl (0, 441, .inl u_))]) (st1 := fun x182 g182 => [.int x182, .int s1, .int s2, .int s3, .ref tl]) (ws1 := fun x182 g182 => [(m, .inr (9, [.ref Mo, .ref Lo, .ref Do, .ref tl, .ref ca, .int th])), (Mo, .inl (4, 3, .inr (.inr (.inr (.inr mm))))), (q, .inl (0, 6144, .inl f_)), (tl, .inl (0, 6, .inl t_)), (ca, .inl (0, 441, .inl u_))]) (As := [.int s0]) [] [0, 1, 2, 3, 4] (fun _ => runS gdX7_known_181.2.1 mi_X7_bit st_X7_bit ml_X7_43 (by omega) rfl (Nat.le_of_ble_eq_true rfl) rfl) (fun x9 h9 => ok_X7_bit h9) rfl rfl rfl rfl rfl (by decide +kernel) (by omega) (by omega) (fun _ _ => rfl) (fun _ _ => rfl) (fun x182 g182 => ?_)
  refine aw_isub (q := 186) gdX7_known_181.2.2.1 rfl ?_
  refine aw_iadd (q := 187) gdX7_known_181.2.2.2.1 rfl ?_
  refine aw_iast (q := 188) (ws' := [(m, .inr (9, [.ref Mo, .ref Lo, .ref Do, .ref tl, .ref ca, .int th])), (Mo, .inl (4, 3, .inr (.inr (.inr (.inr mm))))), (q, .inl (0, 6144, .inl f_)), (tl, .inl (0, 6, .inl (upd t_ s3.toNatClampNeg (s2 + (s1 - x182))))), (ca, .inl (0, 441, .inl u_))]) gdX7_known_181.2.2.2.2.1 rfl 3 rfl rfl ?_
  refine aw_iconst (q := 189) (v := 0) gdX7_known_181.2.2.2.2.2.1 rfl (by decide) ?_
  refine aw_istore (q := 191) (lv' := [(9, .int (0 : Int32)), (0, .ref m), (1, .int p0), (2, .int p1), (3, .int p2), (4, .int p3), (5, .int l5), (6, .int l6), (7, .int l7), (8, .int l8)]) gdX7_known_181.2.2.2.2.2.2.1 rfl (by decide) rfl ?_
  refine aw_locals (lv' := [(0, .ref m), (1, .int p0), (2, .int p1), (3, .int p2), (4, .int p3), (5, .int l5), (6, .int l6), (7, .int l7), (8, .int l8), (9, .int (0 : Int32))]) [1, 2, 3, 4, 5, 6, 7, 8, 9, 0] rfl ?_
  exact tX7_known_191 hm hk_68 N _ _ _ _ _ _ _ _
def fX7_known_153 (N K : Nat) (th : Int32) (f : Nat → Int32) (t : Nat → Int32) (u : Nat → Int32) (p0 : Int32) (p1 : Int32) (p2 : Int32) (p3 : Int32) (k_68 : Int32 → (Nat → Int32) → (Nat → Int32) → (Nat → Int32) → Option (Int32 × (Nat → Int32) × (Nat → Int32) × (Nat → Int32))) (l5 : Int32) (l6 : Int32) (l7 : Int32) (l8 : Int32) (s0 : Int32) (s1 : Int32) (s2 : Int32) (f_ : Nat → Int32) (t_ : Nat → Int32) (u_ : Nat → Int32) : Option (Int32 × (Nat → Int32) × (Nat → Int32) × (Nat → Int32)) :=
  ((fX7_bit N K s0).bind (fun x153 => (if s2 < 0 ∨ 6 ≤ s2.toNatClampNeg then none else (if l5 < 0 ∨ 441 ≤ l5.toNatClampNeg then none else (if l8 = 0 then fX7_known_182 N K th f t u p0 p1 p2 p3 k_68 l5 l6 l7 l8 (1 : Int32) (u_ l5.toNatClampNeg) ((upd t_ s2.toNatClampNeg (s1 + x153)) (3 : Int32).toNatClampNeg) (3 : Int32) f_ (upd t_ s2.toNatClampNeg (s1 + x153)) u_ else fX7_known_182 N K th f t u p0 p1 p2 p3 k_68 l5 l6 l7 l8 (0 : Int32) (u_ l5.toNatClampNeg) ((upd t_ s2.toNatClampNeg (s1 + x153)) (3 : Int32).toNatClampNeg) (3 : Int32) f_ (upd t_ s2.toNatClampNeg (s1 + x153)) u_)))))
set_option maxHeartbeats 4000000 in
set_option maxRecDepth 100000 in
theorem tX7_known_153 {N K : Nat} {m Mo Lo Do tl ca q : Nat} {mm : Nat → Option Nat} {th : Int32} {f : Nat → Int32} {t : Nat → Int32} {u : Nat → Int32} {p0 : Int32} {p1 : Int32} {p2 : Int32} {p3 : Int32} (hm : ¬ (p0 < 0 ∨ 3 ≤ p0.toNatClampNeg) → mm p0.toNatClampNeg = some q) {k_68 : Int32 → (Nat → Int32) → (Nat → Int32) → (Nat → Int32) → Option (Int32 × (Nat → Int32) × (Nat → Int32) × (Nat → Int32))} (hk_68 : ∀ (l5 : Int32) (f_ : Nat → Int32) (t_ : Nat → Int32) (u_ : Nat → Int32), AW RX7 "known" cX7_known 12 (some .int) [] (fun _ _ => True) (3) (PN (U := Int32 × (Nat → Int32) × (Nat → Int32) × (Nat → Int32)) (fun zz _ => some (.int zz.1)) (fun zz ad => [(m, .inr (9, [.ref Mo, .ref Lo, .ref Do, .ref tl, .ref ca, .int th])), (Mo, .inl (4, 3, .inr (.inr (.inr (.inr mm))))), (q, .inl (0, 6144, .inl zz.2.1)), (tl, .inl (0, 6, .inl zz.2.2.1)), (ca, .inl (0, 441, .inl zz.2.2.2))])) 0 0 (k_68 l5 f_ t_ u_) 68 [(0, .ref m), (1, .int p0), (2, .int p1), (3, .int p2), (4, .int p3), (5, .int l5)] [] [(m, .inr (9, [.ref Mo, .ref Lo, .ref Do, .ref tl, .ref ca, .int th])), (Mo, .inl (4, 3, .inr (.inr (.inr (.inr mm))))), (q, .inl (0, 6144, .inl f_)), (tl, .inl (0, 6, .inl t_)), (ca, .inl (0, 441, .inl u_))]) : ∀ (l5 : Int32) (l6 : Int32) (l7 : Int32) (l8 : Int32) (s0 : Int32) (s1 : Int32) (s2 : Int32) (f_ : Nat → Int32) (t_ : Nat → Int32) (u_ : Nat → Int32), AW RX7 "known" cX7_known 12 (some .int) [] (fun _ _ => True) (3) (PN (U := Int32 × (Nat → Int32) × (Nat → Int32) × (Nat → Int32)) (fun zz _ => some (.int zz.1)) (fun zz ad => [(m, .inr (9, [.ref Mo, .ref Lo, .ref Do, .ref tl, .ref ca, .int th])), (Mo, .inl (4, 3, .inr (.inr (.inr (.inr mm))))), (q, .inl (0, 6144, .inl zz.2.1)), (tl, .inl (0, 6, .inl zz.2.2.1)), (ca, .inl (0, 441, .inl zz.2.2.2))])) 0 0 (fX7_known_153 N K th f t u p0 p1 p2 p3 k_68 l5 l6 l7 l8 s0 s1 s2 f_ t_ u_) 153 [(0, .ref m), (1, .int p0), (2, .int p1), (3, .int p2), (4, .int p3), (5, .int l5), (6, .int l6), (7, .int l7), (8, .int l8)] [.int s0, .int s1, .int s2, .ref tl] [(m, .inr (9, [.ref Mo, .ref Lo, .ref Do, .ref tl, .ref ca, .int th])), (Mo, .inl (4, 3, .inr (.inr (.inr (.inr mm))))), (q, .inl (0, 6144, .inl f_)), (tl, .inl (0, 6, .inl t_)), (ca, .inl (0, 441, .inl u_))] := by
  intro l5 l6 l7 l8 s0 s1 s2 f_ t_ u_
  refine aw_call (q := 156) (kc1 := 0) (ks1 := 0) (wc := []) (wr := [(m, .inr (9, [.ref Mo, .ref Lo, .ref Do, .ref tl, .ref ca, .int th])), (Mo, .inl (4, 3, .inr (.inr (.inr (.inr mm))))), (q, .inl (0, 6144, .inl f_)), (tl, .inl (0, 6, .inl t_)), (ca, .inl (0, 441, .inl u_))]) (st1 := fun x153 g153 => [.int x153, .int s1, .int s2, .ref tl]) (ws1 := fun x153 g153 => [(m, .inr (9, [.ref Mo, .ref Lo, .ref Do, .ref tl, .ref ca, .int th])), (Mo, .inl (4, 3, .inr (.inr (.inr (.inr mm))))), (q, .inl (0, 6144, .inl f_)), (tl, .inl (0, 6, .inl t_)), (ca, .inl (0, 441, .inl u_))]) (As := [.int s0]) [] [0, 1, 2, 3, 4] (fun _ => runS gdX7_known_153.1 mi_X7_bit st_X7_bit ml_X7_43 (by omega) rfl (Nat.le_of_ble_eq_true rfl) rfl) (fun x9 h9 => ok_X7_bit h9) rfl rfl rfl rfl rfl (by decide +kernel) (by omega) (by omega) (fun _ _ => rfl) (fun _ _ => rfl) (fun x153 g153 => ?_)
  refine aw_iadd (q := 157) gdX7_known_153.2.1 rfl ?_
  refine aw_iast (q := 158) (ws' := [(m, .inr (9, [.ref Mo, .ref Lo, .ref Do, .ref tl, .ref ca, .int th])), (Mo, .inl (4, 3, .inr (.inr (.inr (.inr mm))))), (q, .inl (0, 6144, .inl f_)), (tl, .inl (0, 6, .inl (upd t_ s2.toNatClampNeg (s1 + x153)))), (ca, .inl (0, 441, .inl u_))]) gdX7_known_153.2.2.1 rfl 3 rfl rfl ?_
  refine aw_aload_n (q := 159) gdX7_known_153.2.2.2.1 rfl 0 rfl ?_
  refine aw_get (q := 162) gdX7_known_153.2.2.2.2.1 rfl fl_X7_20 0 rfl rfl ?_
  refine aw_iconst (q := 163) (v := 3) gdX7_known_153.2.2.2.2.2.1 rfl (by decide) ?_
  refine aw_dup2 (q := 164) gdX7_known_153.2.2.2.2.2.2.1 rfl rfl rfl ?_
  refine aw_ialdT (q := 165) (by decide) gdX7_known_153.2.2.2.2.2.2.2 rfl 3 rfl ?_
  refine aw_aload_n (q := 166) gdX7_known_165.1 rfl 0 rfl ?_
  refine aw_get (q := 169) gdX7_known_165.2.1 rfl fl_X7_24 0 rfl rfl ?_
  refine aw_iload (q := 171) gdX7_known_165.2.2.1 rfl 5 rfl ?_
  refine aw_iald (q := 172) gdX7_known_165.2.2.2.1 rfl 4 rfl ?_
  refine aw_iload (q := 174) gdX7_known_165.2.2.2.2.1 rfl 8 rfl ?_
  refine aw_if_ne (tgt := 181) (q := 177) gdX7_known_165.2.2.2.2.2.1 (by decide) rfl (fun h_174 => ?_) (fun h_174 => ?_)
  · refine aw_iconst (q := 182) (v := 0) gdX7_known_181.1 rfl (by decide) ?_
    exact tX7_known_182 hm hk_68 _ _ _ _ _ _ _ _ _ _ _
  · refine aw_iconst (q := 178) (v := 1) gdX7_known_165.2.2.2.2.2.2.1 rfl (by decide) ?_
    refine aw_goto (tgt := 182) gdX7_known_165.2.2.2.2.2.2.2 (by decide) ?_
    exact tX7_known_182 hm hk_68 _ _ _ _ _ _ _ _ _ _ _
def fX7_known_118 (N K : Nat) (th : Int32) (f : Nat → Int32) (t : Nat → Int32) (u : Nat → Int32) (p0 : Int32) (p1 : Int32) (p2 : Int32) (p3 : Int32) (k_68 : Int32 → (Nat → Int32) → (Nat → Int32) → (Nat → Int32) → Option (Int32 × (Nat → Int32) × (Nat → Int32) × (Nat → Int32))) (l5 : Int32) (l6 : Int32) (l7 : Int32) (s0 : Int32) (f_ : Nat → Int32) (t_ : Nat → Int32) (u_ : Nat → Int32) : Option (Int32 × (Nat → Int32) × (Nat → Int32) × (Nat → Int32)) :=
  (if l5 < 0 ∨ 441 ≤ l5.toNatClampNeg then none else (if s0 = 0 then fX7_known_153 N K th f t u p0 p1 p2 p3 k_68 l5 l6 l7 s0 (1 : Int32) ((upd t_ (1 : Int32).toNatClampNeg ((t_ (1 : Int32).toNatClampNeg) + (u_ l5.toNatClampNeg))) (2 : Int32).toNatClampNeg) (2 : Int32) f_ (upd t_ (1 : Int32).toNatClampNeg ((t_ (1 : Int32).toNatClampNeg) + (u_ l5.toNatClampNeg))) u_ else fX7_known_153 N K th f t u p0 p1 p2 p3 k_68 l5 l6 l7 s0 (0 : Int32) ((upd t_ (1 : Int32).toNatClampNeg ((t_ (1 : Int32).toNatClampNeg) + (u_ l5.toNatClampNeg))) (2 : Int32).toNatClampNeg) (2 : Int32) f_ (upd t_ (1 : Int32).toNatClampNeg ((t_ (1 : Int32).toNatClampNeg) + (u_ l5.toNatClampNeg))) u_))
set_option maxHeartbeats 4000000 in
set_option maxRecDepth 100000 in
theorem tX7_known_118 {N K : Nat} {m Mo Lo Do tl ca q : Nat} {mm : Nat → Option Nat} {th : Int32} {f : Nat → Int32} {t : Nat → Int32} {u : Nat → Int32} {p0 : Int32} {p1 : Int32} {p2 : Int32} {p3 : Int32} (hm : ¬ (p0 < 0 ∨ 3 ≤ p0.toNatClampNeg) → mm p0.toNatClampNeg = some q) {k_68 : Int32 → (Nat → Int32) → (Nat → Int32) → (Nat → Int32) → Option (Int32 × (Nat → Int32) × (Nat → Int32) × (Nat → Int32))} (hk_68 : ∀ (l5 : Int32) (f_ : Nat → Int32) (t_ : Nat → Int32) (u_ : Nat → Int32), AW RX7 "known" cX7_known 12 (some .int) [] (fun _ _ => True) (3) (PN (U := Int32 × (Nat → Int32) × (Nat → Int32) × (Nat → Int32)) (fun zz _ => some (.int zz.1)) (fun zz ad => [(m, .inr (9, [.ref Mo, .ref Lo, .ref Do, .ref tl, .ref ca, .int th])), (Mo, .inl (4, 3, .inr (.inr (.inr (.inr mm))))), (q, .inl (0, 6144, .inl zz.2.1)), (tl, .inl (0, 6, .inl zz.2.2.1)), (ca, .inl (0, 441, .inl zz.2.2.2))])) 0 0 (k_68 l5 f_ t_ u_) 68 [(0, .ref m), (1, .int p0), (2, .int p1), (3, .int p2), (4, .int p3), (5, .int l5)] [] [(m, .inr (9, [.ref Mo, .ref Lo, .ref Do, .ref tl, .ref ca, .int th])), (Mo, .inl (4, 3, .inr (.inr (.inr (.inr mm))))), (q, .inl (0, 6144, .inl f_)), (tl, .inl (0, 6, .inl t_)), (ca, .inl (0, 441, .inl u_))]) : ∀ (l5 : Int32) (l6 : Int32) (l7 : Int32) (s0 : Int32) (f_ : Nat → Int32) (t_ : Nat → Int32) (u_ : Nat → Int32), AW RX7 "known" cX7_known 12 (some .int) [] (fun _ _ => True) (3) (PN (U := Int32 × (Nat → Int32) × (Nat → Int32) × (Nat → Int32)) (fun zz _ => some (.int zz.1)) (fun zz ad => [(m, .inr (9, [.ref Mo, .ref Lo, .ref Do, .ref tl, .ref ca, .int th])), (Mo, .inl (4, 3, .inr (.inr (.inr (.inr mm))))), (q, .inl (0, 6144, .inl zz.2.1)), (tl, .inl (0, 6, .inl zz.2.2.1)), (ca, .inl (0, 441, .inl zz.2.2.2))])) 0 0 (fX7_known_118 N K th f t u p0 p1 p2 p3 k_68 l5 l6 l7 s0 f_ t_ u_) 118 [(0, .ref m), (1, .int p0), (2, .int p1), (3, .int p2), (4, .int p3), (5, .int l5), (6, .int l6), (7, .int l7)] [.int s0] [(m, .inr (9, [.ref Mo, .ref Lo, .ref Do, .ref tl, .ref ca, .int th])), (Mo, .inl (4, 3, .inr (.inr (.inr (.inr mm))))), (q, .inl (0, 6144, .inl f_)), (tl, .inl (0, 6, .inl t_)), (ca, .inl (0, 441, .inl u_))] := by
  intro l5 l6 l7 s0 f_ t_ u_
  refine aw_istore (q := 120) (lv' := [(8, .int s0), (0, .ref m), (1, .int p0), (2, .int p1), (3, .int p2), (4, .int p3), (5, .int l5), (6, .int l6), (7, .int l7)]) gdX7_known_114.2.2.1 rfl (by decide) rfl ?_
  refine aw_aload_n (q := 121) gdX7_known_114.2.2.2.1 rfl 1 rfl ?_
  refine aw_get (q := 124) gdX7_known_114.2.2.2.2.1 rfl fl_X7_20 0 rfl rfl ?_
  refine aw_iconst (q := 125) (v := 1) gdX7_known_114.2.2.2.2.2.1 rfl (by decide) ?_
  refine aw_dup2 (q := 126) gdX7_known_114.2.2.2.2.2.2.1 rfl rfl rfl ?_
  refine aw_ialdT (q := 127) (by decide) gdX7_known_114.2.2.2.2.2.2.2 rfl 3 rfl ?_
  refine aw_aload_n (q := 128) gdX7_known_127.1 rfl 1 rfl ?_
  refine aw_get (q := 131) gdX7_known_127.2.1 rfl fl_X7_24 0 rfl rfl ?_
  refine aw_iload (q := 133) gdX7_known_127.2.2.1 rfl 6 rfl ?_
  refine aw_iald (q := 134) gdX7_known_127.2.2.2.1 rfl 4 rfl ?_
  refine aw_iadd (q := 135) gdX7_known_127.2.2.2.2.1 rfl ?_
  refine aw_iastT (q := 136) (ws' := [(m, .inr (9, [.ref Mo, .ref Lo, .ref Do, .ref tl, .ref ca, .int th])), (Mo, .inl (4, 3, .inr (.inr (.inr (.inr mm))))), (q, .inl (0, 6144, .inl f_)), (tl, .inl (0, 6, .inl (upd t_ (1 : Int32).toNatClampNeg ((t_ (1 : Int32).toNatClampNeg) + (u_ l5.toNatClampNeg))))), (ca, .inl (0, 441, .inl u_))]) (by decide) gdX7_known_127.2.2.2.2.2.1 rfl 3 rfl rfl ?_
  refine aw_aload_n (q := 137) gdX7_known_127.2.2.2.2.2.2.1 rfl 1 rfl ?_
  refine aw_get (q := 140) gdX7_known_127.2.2.2.2.2.2.2 rfl fl_X7_20 0 rfl rfl ?_
  refine aw_iconst (q := 141) (v := 2) gdX7_known_140.1 rfl (by decide) ?_
  refine aw_dup2 (q := 142) gdX7_known_140.2.1 rfl rfl rfl ?_
  refine aw_ialdT (q := 143) (by decide) gdX7_known_140.2.2.1 rfl 3 rfl ?_
  refine aw_iload (q := 145) gdX7_known_140.2.2.2.1 rfl 0 rfl ?_
  refine aw_if_ne (tgt := 152) (q := 148) gdX7_known_140.2.2.2.2.1 (by decide) rfl (fun h_145 => ?_) (fun h_145 => ?_)
  · refine aw_iconst (q := 153) (v := 0) gdX7_known_140.2.2.2.2.2.2.2 rfl (by decide) ?_
    refine aw_locals (lv' := [(0, .ref m), (1, .int p0), (2, .int p1), (3, .int p2), (4, .int p3), (5, .int l5), (6, .int l6), (7, .int l7), (8, .int s0)]) [1, 2, 3, 4, 5, 6, 7, 8, 0] rfl ?_
    exact tX7_known_153 hm hk_68 _ _ _ _ _ _ _ _ _ _
  · refine aw_iconst (q := 149) (v := 1) gdX7_known_140.2.2.2.2.2.1 rfl (by decide) ?_
    refine aw_goto (tgt := 153) gdX7_known_140.2.2.2.2.2.2.1 (by decide) ?_
    refine aw_locals (lv' := [(0, .ref m), (1, .int p0), (2, .int p1), (3, .int p2), (4, .int p3), (5, .int l5), (6, .int l6), (7, .int l7), (8, .int s0)]) [1, 2, 3, 4, 5, 6, 7, 8, 0] rfl ?_
    exact tX7_known_153 hm hk_68 _ _ _ _ _ _ _ _ _ _
def fX7_known_68 (N K : Nat) (th : Int32) (f : Nat → Int32) (t : Nat → Int32) (u : Nat → Int32) (p0 : Int32) (p1 : Int32) (p2 : Int32) (p3 : Int32) : Nat → Int32 → (Nat → Int32) → (Nat → Int32) → (Nat → Int32) → Option (Int32 × (Nat → Int32) × (Nat → Int32) × (Nat → Int32))
  | 0, _, _, _, _ => none
  | fu + 1, l5, f_, t_, u_ =>
    (if l5 ≤ 0 then fX7_known_277 N K th f t u p0 p1 p2 p3  N (0 : Int32) f_ t_ u_ else (if l5 < 0 ∨ 441 ≤ l5.toNatClampNeg then none else (if (u_ l5.toNatClampNeg) = 0 then fX7_known_268 N K th f t u p0 p1 p2 p3 (fX7_known_68 N K th f t u p0 p1 p2 p3  fu) l5 f_ t_ u_ else ((fX7_worth N K th f_ p0 p1 (l5 % (21 : Int32)) (l5 / (21 : Int32))).bind (fun x107 => (if x107 < 0 then fX7_known_118 N K th f t u p0 p1 p2 p3 (fX7_known_68 N K th f t u p0 p1 p2 p3  fu) l5 (l5 % (21 : Int32)) (l5 / (21 : Int32)) (0 : Int32) f_ t_ u_ else fX7_known_118 N K th f t u p0 p1 p2 p3 (fX7_known_68 N K th f t u p0 p1 p2 p3  fu) l5 (l5 % (21 : Int32)) (l5 / (21 : Int32)) (1 : Int32) f_ t_ u_))))))
set_option maxHeartbeats 4000000 in
set_option maxRecDepth 100000 in
theorem tX7_known_68 {N K : Nat} {m Mo Lo Do tl ca q : Nat} {mm : Nat → Option Nat} {th : Int32} {f : Nat → Int32} {t : Nat → Int32} {u : Nat → Int32} {p0 : Int32} {p1 : Int32} {p2 : Int32} {p3 : Int32} (hm : ¬ (p0 < 0 ∨ 3 ≤ p0.toNatClampNeg) → mm p0.toNatClampNeg = some q) : ∀ (fu : Nat) (l5 : Int32) (f_ : Nat → Int32) (t_ : Nat → Int32) (u_ : Nat → Int32), AW RX7 "known" cX7_known 12 (some .int) [] (fun _ _ => True) (3) (PN (U := Int32 × (Nat → Int32) × (Nat → Int32) × (Nat → Int32)) (fun zz _ => some (.int zz.1)) (fun zz ad => [(m, .inr (9, [.ref Mo, .ref Lo, .ref Do, .ref tl, .ref ca, .int th])), (Mo, .inl (4, 3, .inr (.inr (.inr (.inr mm))))), (q, .inl (0, 6144, .inl zz.2.1)), (tl, .inl (0, 6, .inl zz.2.2.1)), (ca, .inl (0, 441, .inl zz.2.2.2))])) 0 0 (fX7_known_68 N K th f t u p0 p1 p2 p3  fu l5 f_ t_ u_) 68 [(0, .ref m), (1, .int p0), (2, .int p1), (3, .int p2), (4, .int p3), (5, .int l5)] [] [(m, .inr (9, [.ref Mo, .ref Lo, .ref Do, .ref tl, .ref ca, .int th])), (Mo, .inl (4, 3, .inr (.inr (.inr (.inr mm))))), (q, .inl (0, 6144, .inl f_)), (tl, .inl (0, 6, .inl t_)), (ca, .inl (0, 441, .inl u_))] := by
  intro fu
  induction fu with
  | zero => intro l5 f_ t_ u_; exact aw_none
  | succ fu ih =>
    intro l5 f_ t_ u_
    refine aw_iload (q := 70) gdX7_known_68.1 rfl 5 rfl ?_
    refine aw_if_le (tgt := 274) (q := 73) gdX7_known_68.2.1 (by decide) rfl (fun h_70 => ?_) (fun h_70 => ?_)
    · refine aw_iconst (q := 275) (v := 0) gdX7_known_274.1 rfl (by decide) ?_
      refine aw_istore (q := 277) (lv' := [(5, .int (0 : Int32)), (0, .ref m), (1, .int p0), (2, .int p1), (3, .int p2), (4, .int p3)]) gdX7_known_274.2.1 rfl (by decide) rfl ?_
      refine aw_locals (lv' := [(0, .ref m), (1, .int p0), (2, .int p1), (3, .int p2), (4, .int p3), (5, .int (0 : Int32))]) [1, 2, 3, 4, 5, 0] rfl ?_
      exact tX7_known_277 hm N _ _ _ _
    · refine aw_iload (q := 75) gdX7_known_68.2.2.1 rfl 5 rfl ?_
      refine aw_bipush (q := 77) (v := 21) gdX7_known_68.2.2.2.1 rfl (by decide) ?_
      refine aw_iremT (q := 78) gdX7_known_68.2.2.2.2.1 rfl (by decide) ?_
      refine aw_istore (q := 80) (lv' := [(6, .int (l5 % (21 : Int32))), (0, .ref m), (1, .int p0), (2, .int p1), (3, .int p2), (4, .int p3), (5, .int l5)]) gdX7_known_68.2.2.2.2.2.1 rfl (by decide) rfl ?_
      refine aw_iload (q := 82) gdX7_known_68.2.2.2.2.2.2.1 rfl 6 rfl ?_
      refine aw_bipush (q := 84) (v := 21) gdX7_known_68.2.2.2.2.2.2.2 rfl (by decide) ?_
      refine aw_idivT (q := 85) gdX7_known_84.1 rfl (by decide) ?_
      refine aw_istore (q := 87) (lv' := [(7, .int (l5 / (21 : Int32))), (6, .int (l5 % (21 : Int32))), (0, .ref m), (1, .int p0), (2, .int p1), (3, .int p2), (4, .int p3), (5, .int l5)]) gdX7_known_84.2.1 rfl (by decide) rfl ?_
      refine aw_aload_n (q := 88) gdX7_known_84.2.2.1 rfl 2 rfl ?_
      refine aw_get (q := 91) gdX7_known_84.2.2.2.1 rfl fl_X7_24 0 rfl rfl ?_
      refine aw_iload (q := 93) gdX7_known_84.2.2.2.2.1 rfl 7 rfl ?_
      refine aw_iald (q := 94) gdX7_known_84.2.2.2.2.2.1 rfl 4 rfl ?_
      refine aw_if_ne (tgt := 100) (q := 97) gdX7_known_84.2.2.2.2.2.2.1 (by decide) rfl (fun h_94 => ?_) (fun h_94 => ?_)
      · refine aw_aload_n (q := 101) gdX7_known_100.1 rfl 2 rfl ?_
        refine aw_iload_n (q := 102) gdX7_known_100.2.1 rfl 3 rfl ?_
        refine aw_iload_n (q := 103) gdX7_known_100.2.2.1 rfl 4 rfl ?_
        refine aw_iload (q := 105) gdX7_known_100.2.2.2.1 rfl 1 rfl ?_
        refine aw_iload (q := 107) gdX7_known_100.2.2.2.2.1 rfl 0 rfl ?_
        refine aw_call (q := 110) (kc1 := 0) (ks1 := 0) (wc := [(m, .inr (9, [.ref Mo, .ref Lo, .ref Do, .ref tl, .ref ca, .int th])), (Mo, .inl (4, 3, .inr (.inr (.inr (.inr mm))))), (q, .inl (0, 6144, .inl f_))]) (wr := [(tl, .inl (0, 6, .inl t_)), (ca, .inl (0, 441, .inl u_))]) (st1 := fun x107 g107 => [.int x107]) (ws1 := fun x107 g107 => [(tl, .inl (0, 6, .inl t_)), (ca, .inl (0, 441, .inl u_)), (m, .inr (9, [.ref Mo, .ref Lo, .ref Do, .ref tl, .ref ca, .int th])), (Mo, .inl (4, 3, .inr (.inr (.inr (.inr mm))))), (q, .inl (0, 6144, .inl f_))]) (As := [.ref m, .int p0, .int p1, .int (l5 % (21 : Int32)), .int (l5 / (21 : Int32))]) [0, 1, 2] [3, 4] (fun _ => runV (q0 := 0) gdX7_known_100.2.2.2.2.2.1 mi_X7_worth im_X7_worth se_X7_worth ml_X7_47 (by omega) rfl (Nat.le_of_ble_eq_true rfl) rfl rfl rfl rfl) (fun x9 h9 => ok_X7_worth hm h9) rfl rfl rfl rfl rfl (by decide +kernel) (by omega) (by omega) (fun _ _ => rfl) (fun _ _ => rfl) (fun x107 g107 => ?_)
        refine aw_if_lt (tgt := 117) (q := 113) gdX7_known_100.2.2.2.2.2.2.1 (by decide) rfl (fun h_110 => ?_) (fun h_110 => ?_)
        · refine aw_iconst (q := 118) (v := 0) gdX7_known_114.2.1 rfl (by decide) ?_
          refine aw_locals (lv' := [(0, .ref m), (1, .int p0), (2, .int p1), (3, .int p2), (4, .int p3), (5, .int l5), (6, .int (l5 % (21 : Int32))), (7, .int (l5 / (21 : Int32)))]) [2, 3, 4, 5, 6, 7, 1, 0] rfl ?_
          refine aw_world (ws' := [(m, .inr (9, [.ref Mo, .ref Lo, .ref Do, .ref tl, .ref ca, .int th])), (Mo, .inl (4, 3, .inr (.inr (.inr (.inr mm))))), (q, .inl (0, 6144, .inl f_)), (tl, .inl (0, 6, .inl t_)), (ca, .inl (0, 441, .inl u_))]) [2, 3, 4, 0, 1] rfl rfl ?_
          exact tX7_known_118 hm ih _ _ _ _ _ _ _
        · refine aw_iconst (q := 114) (v := 1) gdX7_known_100.2.2.2.2.2.2.2 rfl (by decide) ?_
          refine aw_goto (tgt := 118) gdX7_known_114.1 (by decide) ?_
          refine aw_locals (lv' := [(0, .ref m), (1, .int p0), (2, .int p1), (3, .int p2), (4, .int p3), (5, .int l5), (6, .int (l5 % (21 : Int32))), (7, .int (l5 / (21 : Int32)))]) [2, 3, 4, 5, 6, 7, 1, 0] rfl ?_
          refine aw_world (ws' := [(m, .inr (9, [.ref Mo, .ref Lo, .ref Do, .ref tl, .ref ca, .int th])), (Mo, .inl (4, 3, .inr (.inr (.inr (.inr mm))))), (q, .inl (0, 6144, .inl f_)), (tl, .inl (0, 6, .inl t_)), (ca, .inl (0, 441, .inl u_))]) [2, 3, 4, 0, 1] rfl rfl ?_
          exact tX7_known_118 hm ih _ _ _ _ _ _ _
      · refine aw_goto (tgt := 268) gdX7_known_84.2.2.2.2.2.2.2 (by decide) ?_
        refine aw_locals (lv' := [(0, .ref m), (1, .int p0), (2, .int p1), (3, .int p2), (4, .int p3), (5, .int l5)]) [2, 3, 4, 5, 6, 7] rfl ?_
        exact tX7_known_268 hm ih _ _ _ _
def fX7_known_22 (N K : Nat) (th : Int32) (f : Nat → Int32) (t : Nat → Int32) (u : Nat → Int32) (p0 : Int32) (p1 : Int32) (p2 : Int32) (p3 : Int32) : Nat → Int32 → (Nat → Int32) → (Nat → Int32) → (Nat → Int32) → Option (Int32 × (Nat → Int32) × (Nat → Int32) × (Nat → Int32))
  | 0, _, _, _, _ => none
  | fu + 1, l5, f_, t_, u_ =>
    (if (441 : Int32) ≤ l5 then (if (((21 : Int32) * p3) + p2) < 0 ∨ 441 ≤ (((21 : Int32) * p3) + p2).toNatClampNeg then none else fX7_known_68 N K th f t u p0 p1 p2 p3  N (((21 : Int32) * p3) + p2) f_ t_ (upd u_ (((21 : Int32) * p3) + p2).toNatClampNeg (1 : Int32))) else (if l5 < 0 ∨ 441 ≤ l5.toNatClampNeg then none else fX7_known_22 N K th f t u p0 p1 p2 p3  fu (l5 + (1 : Int32)) f_ t_ (upd u_ l5.toNatClampNeg (0 : Int32))))
set_option maxHeartbeats 4000000 in
set_option maxRecDepth 100000 in
theorem tX7_known_22 {N K : Nat} {m Mo Lo Do tl ca q : Nat} {mm : Nat → Option Nat} {th : Int32} {f : Nat → Int32} {t : Nat → Int32} {u : Nat → Int32} {p0 : Int32} {p1 : Int32} {p2 : Int32} {p3 : Int32} (hm : ¬ (p0 < 0 ∨ 3 ≤ p0.toNatClampNeg) → mm p0.toNatClampNeg = some q) : ∀ (fu : Nat) (l5 : Int32) (f_ : Nat → Int32) (t_ : Nat → Int32) (u_ : Nat → Int32), AW RX7 "known" cX7_known 12 (some .int) [] (fun _ _ => True) (3) (PN (U := Int32 × (Nat → Int32) × (Nat → Int32) × (Nat → Int32)) (fun zz _ => some (.int zz.1)) (fun zz ad => [(m, .inr (9, [.ref Mo, .ref Lo, .ref Do, .ref tl, .ref ca, .int th])), (Mo, .inl (4, 3, .inr (.inr (.inr (.inr mm))))), (q, .inl (0, 6144, .inl zz.2.1)), (tl, .inl (0, 6, .inl zz.2.2.1)), (ca, .inl (0, 441, .inl zz.2.2.2))])) 0 0 (fX7_known_22 N K th f t u p0 p1 p2 p3  fu l5 f_ t_ u_) 22 [(0, .ref m), (1, .int p0), (2, .int p1), (3, .int p2), (4, .int p3), (5, .int l5)] [] [(m, .inr (9, [.ref Mo, .ref Lo, .ref Do, .ref tl, .ref ca, .int th])), (Mo, .inl (4, 3, .inr (.inr (.inr (.inr mm))))), (q, .inl (0, 6144, .inl f_)), (tl, .inl (0, 6, .inl t_)), (ca, .inl (0, 441, .inl u_))] := by
  intro fu
  induction fu with
  | zero => intro l5 f_ t_ u_; exact aw_none
  | succ fu ih =>
    intro l5 f_ t_ u_
    refine aw_iload (q := 24) gdX7_known_13.2.2.2.2.2.1 rfl 5 rfl ?_
    refine aw_aload_n (q := 25) gdX7_known_13.2.2.2.2.2.2.1 rfl 0 rfl ?_
    refine aw_get (q := 28) gdX7_known_13.2.2.2.2.2.2.2 rfl fl_X7_24 0 rfl rfl ?_
    refine aw_alen (q := 29) (v := 441) gdX7_known_28.1 rfl 4 rfl (by decide) rfl ?_
    refine aw_icmp_ge (tgt := 46) (q := 32) gdX7_known_28.2.1 (by decide) rfl (fun h_29 => ?_) (fun h_29 => ?_)
    · refine aw_aload_n (q := 47) gdX7_known_43.2.1 rfl 0 rfl ?_
      refine aw_get (q := 50) gdX7_known_43.2.2.1 rfl fl_X7_24 0 rfl rfl ?_
      refine aw_bipush (q := 52) (v := 21) gdX7_known_43.2.2.2.1 rfl (by decide) ?_
      refine aw_iload (q := 54) gdX7_known_43.2.2.2.2.1 rfl 4 rfl ?_
      refine aw_imul (q := 55) gdX7_known_43.2.2.2.2.2.1 rfl ?_
      refine aw_iload_n (q := 56) gdX7_known_43.2.2.2.2.2.2.1 rfl 3 rfl ?_
      refine aw_iadd (q := 57) gdX7_known_43.2.2.2.2.2.2.2 rfl ?_
      refine aw_iconst (q := 58) (v := 1) gdX7_known_57.1 rfl (by decide) ?_
      refine aw_iast (q := 59) (ws' := [(m, .inr (9, [.ref Mo, .ref Lo, .ref Do, .ref tl, .ref ca, .int th])), (Mo, .inl (4, 3, .inr (.inr (.inr (.inr mm))))), (q, .inl (0, 6144, .inl f_)), (tl, .inl (0, 6, .inl t_)), (ca, .inl (0, 441, .inl (upd u_ (((21 : Int32) * p3) + p2).toNatClampNeg (1 : Int32))))]) gdX7_known_57.2.1 rfl 4 rfl rfl ?_
      refine aw_bipush (q := 61) (v := 21) gdX7_known_57.2.2.1 rfl (by decide) ?_
      refine aw_iload (q := 63) gdX7_known_57.2.2.2.1 rfl 4 rfl ?_
      refine aw_imul (q := 64) gdX7_known_57.2.2.2.2.1 rfl ?_
      refine aw_iload_n (q := 65) gdX7_known_57.2.2.2.2.2.1 rfl 3 rfl ?_
      refine aw_iadd (q := 66) gdX7_known_57.2.2.2.2.2.2.1 rfl ?_
      refine aw_istore (q := 68) (lv' := [(5, .int (((21 : Int32) * p3) + p2)), (0, .ref m), (1, .int p0), (2, .int p1), (3, .int p2), (4, .int p3)]) gdX7_known_57.2.2.2.2.2.2.2 rfl (by decide) rfl ?_
      refine aw_locals (lv' := [(0, .ref m), (1, .int p0), (2, .int p1), (3, .int p2), (4, .int p3), (5, .int (((21 : Int32) * p3) + p2))]) [1, 2, 3, 4, 5, 0] rfl ?_
      exact tX7_known_68 hm N _ _ _ _
    · refine aw_aload_n (q := 33) gdX7_known_28.2.2.1 rfl 0 rfl ?_
      refine aw_get (q := 36) gdX7_known_28.2.2.2.1 rfl fl_X7_24 0 rfl rfl ?_
      refine aw_iload (q := 38) gdX7_known_28.2.2.2.2.1 rfl 5 rfl ?_
      refine aw_iconst (q := 39) (v := 0) gdX7_known_28.2.2.2.2.2.1 rfl (by decide) ?_
      refine aw_iast (q := 40) (ws' := [(m, .inr (9, [.ref Mo, .ref Lo, .ref Do, .ref tl, .ref ca, .int th])), (Mo, .inl (4, 3, .inr (.inr (.inr (.inr mm))))), (q, .inl (0, 6144, .inl f_)), (tl, .inl (0, 6, .inl t_)), (ca, .inl (0, 441, .inl (upd u_ l5.toNatClampNeg (0 : Int32))))]) gdX7_known_28.2.2.2.2.2.2.1 rfl 4 rfl rfl ?_
      refine aw_iinc (q := 43) (v := (l5 + (1 : Int32))) (lv' := [(5, .int (l5 + (1 : Int32))), (0, .ref m), (1, .int p0), (2, .int p1), (3, .int p2), (4, .int p3)]) gdX7_known_28.2.2.2.2.2.2.2 rfl 5 rfl rfl (by decide) rfl ?_
      refine aw_goto (tgt := 22) gdX7_known_43.1 (by decide) ?_
      refine aw_locals (lv' := [(0, .ref m), (1, .int p0), (2, .int p1), (3, .int p2), (4, .int p3), (5, .int (l5 + (1 : Int32)))]) [1, 2, 3, 4, 5, 0] rfl ?_
      exact ih _ _ _ _
def fX7_known (N K : Nat) (th : Int32) (f : Nat → Int32) (t : Nat → Int32) (u : Nat → Int32) (p0 : Int32) (p1 : Int32) (p2 : Int32) (p3 : Int32) : Option (Int32 × (Nat → Int32) × (Nat → Int32) × (Nat → Int32)) :=
  ((fX7_rests N K p2 p3).bind (fun x3 => (if x3 = 0 then fX7_known_22 N K th f t u p0 p1 p2 p3  N (0 : Int32) f t u else ((fX7_worth N K th f p0 p1 p2 p3).bind (fun x15 => (some (x15, f, t, u)))))))
set_option maxHeartbeats 4000000 in
set_option maxRecDepth 100000 in
theorem ok_X7_known {N K : Nat} {m Mo Lo Do tl ca q : Nat} {mm : Nat → Option Nat} {th : Int32} {f : Nat → Int32} {t : Nat → Int32} {u : Nat → Int32} {p0 : Int32} {p1 : Int32} {p2 : Int32} {p3 : Int32} (hm : ¬ (p0 < 0 ∨ 3 ≤ p0.toNatClampNeg) → mm p0.toNatClampNeg = some q) {xr : Int32 × (Nat → Int32) × (Nat → Int32) × (Nat → Int32)} (hE : fX7_known N K th f t u p0 p1 p2 p3 = some xr) : OkM yX7_known (.code yX7_known cX7_known 12 (some .int)) (3) 0 0 [.ref m, .int p0, .int p1, .int p2, .int p3] [(m, .inr (9, [.ref Mo, .ref Lo, .ref Do, .ref tl, .ref ca, .int th])), (Mo, .inl (4, 3, .inr (.inr (.inr (.inr mm))))), (q, .inl (0, 6144, .inl f)), (tl, .inl (0, 6, .inl t)), (ca, .inl (0, 441, .inl u))] ((PN (U := Int32 × (Nat → Int32) × (Nat → Int32) × (Nat → Int32)) (fun zz _ => some (.int zz.1)) (fun zz ad => [(m, .inr (9, [.ref Mo, .ref Lo, .ref Do, .ref tl, .ref ca, .int th])), (Mo, .inl (4, 3, .inr (.inr (.inr (.inr mm))))), (q, .inl (0, 6144, .inl zz.2.1)), (tl, .inl (0, 6, .inl zz.2.2.1)), (ca, .inl (0, 441, .inl zz.2.2.2))])) xr) := by
  refine ok_of (by decide) (Nat.le_of_ble_eq_true rfl) hE ?_
  refine aw_locals (lv' := [(0, .ref m), (1, .int p0), (2, .int p1), (3, .int p2), (4, .int p3)]) [0, 1, 2, 3, 4] rfl ?_
  refine aw_iload_n (q := 1) gdX7_known_0.1 rfl 3 rfl ?_
  refine aw_iload (q := 3) gdX7_known_0.2.1 rfl 4 rfl ?_
  refine aw_call (q := 6) (kc1 := 0) (ks1 := 0) (wc := []) (wr := [(m, .inr (9, [.ref Mo, .ref Lo, .ref Do, .ref tl, .ref ca, .int th])), (Mo, .inl (4, 3, .inr (.inr (.inr (.inr mm))))), (q, .inl (0, 6144, .inl f)), (tl, .inl (0, 6, .inl t)), (ca, .inl (0, 441, .inl u))]) (st1 := fun x3 g3 => [.int x3]) (ws1 := fun x3 g3 => [(m, .inr (9, [.ref Mo, .ref Lo, .ref Do, .ref tl, .ref ca, .int th])), (Mo, .inl (4, 3, .inr (.inr (.inr (.inr mm))))), (q, .inl (0, 6144, .inl f)), (tl, .inl (0, 6, .inl t)), (ca, .inl (0, 441, .inl u))]) (As := [.int p2, .int p3]) [] [0, 1, 2, 3, 4] (fun _ => runS gdX7_known_0.2.2.1 mi_X7_rests st_X7_rests ml_X7_35 (by omega) rfl (Nat.le_of_ble_eq_true rfl) rfl) (fun x9 h9 => ok_X7_rests h9) rfl rfl rfl rfl rfl (by decide +kernel) (by omega) (by omega) (fun _ _ => rfl) (fun _ _ => rfl) (fun x3 g3 => ?_)
  refine aw_if_eq (tgt := 19) (q := 9) gdX7_known_0.2.2.2.1 (by decide) rfl (fun h_6 => ?_) (fun h_6 => ?_)
  · refine aw_iconst (q := 20) (v := 0) gdX7_known_13.2.2.2.1 rfl (by decide) ?_
    refine aw_istore (q := 22) (lv' := [(5, .int (0 : Int32)), (0, .ref m), (1, .int p0), (2, .int p1), (3, .int p2), (4, .int p3)]) gdX7_known_13.2.2.2.2.1 rfl (by decide) rfl ?_
    refine aw_locals (lv' := [(0, .ref m), (1, .int p0), (2, .int p1), (3, .int p2), (4, .int p3), (5, .int (0 : Int32))]) [1, 2, 3, 4, 5, 0] rfl ?_
    exact tX7_known_22 hm N _ _ _ _
  · refine aw_aload_n (q := 10) gdX7_known_0.2.2.2.2.1 rfl 0 rfl ?_
    refine aw_iload_n (q := 11) gdX7_known_0.2.2.2.2.2.1 rfl 1 rfl ?_
    refine aw_iload_n (q := 12) gdX7_known_0.2.2.2.2.2.2.1 rfl 2 rfl ?_
    refine aw_iload_n (q := 13) gdX7_known_0.2.2.2.2.2.2.2 rfl 3 rfl ?_
    refine aw_iload (q := 15) gdX7_known_13.1 rfl 4 rfl ?_
    refine aw_call (q := 18) (kc1 := 0) (ks1 := 0) (wc := [(m, .inr (9, [.ref Mo, .ref Lo, .ref Do, .ref tl, .ref ca, .int th])), (Mo, .inl (4, 3, .inr (.inr (.inr (.inr mm))))), (q, .inl (0, 6144, .inl f))]) (wr := [(tl, .inl (0, 6, .inl t)), (ca, .inl (0, 441, .inl u))]) (st1 := fun x15 g15 => [.int x15]) (ws1 := fun x15 g15 => [(tl, .inl (0, 6, .inl t)), (ca, .inl (0, 441, .inl u)), (m, .inr (9, [.ref Mo, .ref Lo, .ref Do, .ref tl, .ref ca, .int th])), (Mo, .inl (4, 3, .inr (.inr (.inr (.inr mm))))), (q, .inl (0, 6144, .inl f))]) (As := [.ref m, .int p0, .int p1, .int p2, .int p3]) [0, 1, 2] [3, 4] (fun _ => runV (q0 := 0) gdX7_known_13.2.1 mi_X7_worth im_X7_worth se_X7_worth ml_X7_47 (by omega) rfl (Nat.le_of_ble_eq_true rfl) rfl rfl rfl rfl) (fun x9 h9 => ok_X7_worth hm h9) rfl rfl rfl rfl rfl (by decide +kernel) (by omega) (by omega) (fun _ _ => rfl) (fun _ _ => rfl) (fun x15 g15 => ?_)
    exact aw_ireturn (w := [(m, .inr (9, [.ref Mo, .ref Lo, .ref Do, .ref tl, .ref ca, .int th])), (Mo, .inl (4, 3, .inr (.inr (.inr (.inr mm))))), (q, .inl (0, 6144, .inl f)), (tl, .inl (0, 6, .inl t)), (ca, .inl (0, 441, .inl u))]) [2, 3, 4, 0, 1] gdX7_known_13.2.2.1 rfl rfl rfl rfl (PN.mk (fun _ => 0) rfl rfl)
def fX7_row_153 (N K : Nat) (p0 : Int32) (p1 : Int32) (k_74 : Int32 → Int32 → Int32 → Int32 → (Nat → Int32) → Option ((Nat → Int32))) (l3 : Int32) (l4 : Int32) (l5 : Int32) (l6 : Int32) (e_v0 : Nat → Int32) : Option ((Nat → Int32)) :=
  k_74 l3 l4 l5 (l6 + (1 : Int32)) e_v0
set_option maxHeartbeats 4000000 in
set_option maxRecDepth 100000 in
theorem tX7_row_153 {N K : Nat} {p0 : Int32} {p1 : Int32} {k_74 : Int32 → Int32 → Int32 → Int32 → (Nat → Int32) → Option ((Nat → Int32))} (hk_74 : ∀ (l3 : Int32) (l4 : Int32) (l5 : Int32) (l6 : Int32) (e_v0 : Nat → Int32) (v0 : Nat), AW RX7 "row" cX7_row 9 (some (.array .int)) [] (fun _ _ => True) (0) (PN (U := (Nat → Int32)) (fun _ ad => some (.ref (ad 0))) (fun zz ad => [((ad 0), .inl (0, 21, .inl zz))])) 0 0 (k_74 l3 l4 l5 l6 e_v0) 74 [(2, .ref v0), (3, .int l3), (4, .int l4), (5, .int l5), (6, .int l6)] [] [(v0, .inl (0, 21, .inl e_v0))]) : ∀ (l3 : Int32) (l4 : Int32) (l5 : Int32) (l6 : Int32) (e_v0 : Nat → Int32) (v0 : Nat), AW RX7 "row" cX7_row 9 (some (.array .int)) [] (fun _ _ => True) (0) (PN (U := (Nat → Int32)) (fun _ ad => some (.ref (ad 0))) (fun zz ad => [((ad 0), .inl (0, 21, .inl zz))])) 0 0 (fX7_row_153 N K p0 p1 k_74 l3 l4 l5 l6 e_v0) 153 [(2, .ref v0), (3, .int l3), (4, .int l4), (5, .int l5), (6, .int l6)] [] [(v0, .inl (0, 21, .inl e_v0))] := by
  intro l3 l4 l5 l6 e_v0 v0
  refine aw_iinc (q := 156) (v := (l6 + (1 : Int32))) (lv' := [(6, .int (l6 + (1 : Int32))), (2, .ref v0), (3, .int l3), (4, .int l4), (5, .int l5)]) gdX7_row_141.2.2.2.2.2.2.2 rfl 4 rfl rfl (by decide) rfl ?_
  refine aw_goto (tgt := 74) gdX7_row_156.1 (by decide) ?_
  refine aw_locals (lv' := [(2, .ref v0), (3, .int l3), (4, .int l4), (5, .int l5), (6, .int (l6 + (1 : Int32)))]) [1, 2, 3, 4, 0] rfl ?_
  exact hk_74 _ _ _ _ _ _
def fX7_row_131 (N K : Nat) (p0 : Int32) (p1 : Int32) (k_74 : Int32 → Int32 → Int32 → Int32 → (Nat → Int32) → Option ((Nat → Int32))) (k_106 : Int32 → Int32 → Int32 → Int32 → Int32 → (Nat → Int32) → Option ((Nat → Int32))) (l3 : Int32) (l4 : Int32) (l5 : Int32) (l6 : Int32) (l7 : Int32) (s0 : Int32) (e_v0 : Nat → Int32) : Option ((Nat → Int32)) :=
  (if s0 < 0 ∨ 21 ≤ s0.toNatClampNeg then none else (if (s0 - l6) < 0 ∨ 21 ≤ (s0 - l6).toNatClampNeg then none else (if s0 < 0 ∨ 21 ≤ s0.toNatClampNeg then none else k_106 l3 l4 l5 l6 (l7 + (1 : Int32)) (upd e_v0 s0.toNatClampNeg ((e_v0 s0.toNatClampNeg) + (e_v0 (s0 - l6).toNatClampNeg))))))
set_option maxHeartbeats 4000000 in
set_option maxRecDepth 100000 in
theorem tX7_row_131 {N K : Nat} {p0 : Int32} {p1 : Int32} {k_74 : Int32 → Int32 → Int32 → Int32 → (Nat → Int32) → Option ((Nat → Int32))} (hk_74 : ∀ (l3 : Int32) (l4 : Int32) (l5 : Int32) (l6 : Int32) (e_v0 : Nat → Int32) (v0 : Nat), AW RX7 "row" cX7_row 9 (some (.array .int)) [] (fun _ _ => True) (0) (PN (U := (Nat → Int32)) (fun _ ad => some (.ref (ad 0))) (fun zz ad => [((ad 0), .inl (0, 21, .inl zz))])) 0 0 (k_74 l3 l4 l5 l6 e_v0) 74 [(2, .ref v0), (3, .int l3), (4, .int l4), (5, .int l5), (6, .int l6)] [] [(v0, .inl (0, 21, .inl e_v0))]) {k_106 : Int32 → Int32 → Int32 → Int32 → Int32 → (Nat → Int32) → Option ((Nat → Int32))} (hk_106 : ∀ (l3 : Int32) (l4 : Int32) (l5 : Int32) (l6 : Int32) (l7 : Int32) (e_v0 : Nat → Int32) (v0 : Nat), AW RX7 "row" cX7_row 9 (some (.array .int)) [] (fun _ _ => True) (0) (PN (U := (Nat → Int32)) (fun _ ad => some (.ref (ad 0))) (fun zz ad => [((ad 0), .inl (0, 21, .inl zz))])) 0 0 (k_106 l3 l4 l5 l6 l7 e_v0) 106 [(2, .ref v0), (3, .int l3), (4, .int l4), (5, .int l5), (6, .int l6), (7, .int l7)] [] [(v0, .inl (0, 21, .inl e_v0))]) : ∀ (l3 : Int32) (l4 : Int32) (l5 : Int32) (l6 : Int32) (l7 : Int32) (s0 : Int32) (e_v0 : Nat → Int32) (v0 : Nat), AW RX7 "row" cX7_row 9 (some (.array .int)) [] (fun _ _ => True) (0) (PN (U := (Nat → Int32)) (fun _ ad => some (.ref (ad 0))) (fun zz ad => [((ad 0), .inl (0, 21, .inl zz))])) 0 0 (fX7_row_131 N K p0 p1 k_74 k_106 l3 l4 l5 l6 l7 s0 e_v0) 131 [(2, .ref v0), (3, .int l3), (4, .int l4), (5, .int l5), (6, .int l6), (7, .int l7)] [.int s0] [(v0, .inl (0, 21, .inl e_v0))] := by
  intro l3 l4 l5 l6 l7 s0 e_v0 v0
  refine aw_istore (q := 133) (lv' := [(8, .int s0), (2, .ref v0), (3, .int l3), (4, .int l4), (5, .int l5), (6, .int l6), (7, .int l7)]) gdX7_row_129.2.1 rfl (by decide) rfl ?_
  refine aw_aload_n (q := 134) gdX7_row_129.2.2.1 rfl 1 rfl ?_
  refine aw_iload (q := 136) gdX7_row_129.2.2.2.1 rfl 0 rfl ?_
  refine aw_dup2 (q := 137) gdX7_row_129.2.2.2.2.1 rfl rfl rfl ?_
  refine aw_iald (q := 138) gdX7_row_129.2.2.2.2.2.1 rfl 0 rfl ?_
  refine aw_aload_n (q := 139) gdX7_row_129.2.2.2.2.2.2.1 rfl 1 rfl ?_
  refine aw_iload (q := 141) gdX7_row_129.2.2.2.2.2.2.2 rfl 0 rfl ?_
  refine aw_iload (q := 143) gdX7_row_141.1 rfl 5 rfl ?_
  refine aw_isub (q := 144) gdX7_row_141.2.1 rfl ?_
  refine aw_iald (q := 145) gdX7_row_141.2.2.1 rfl 0 rfl ?_
  refine aw_iadd (q := 146) gdX7_row_141.2.2.2.1 rfl ?_
  refine aw_iast (q := 147) (ws' := [(v0, .inl (0, 21, .inl (upd e_v0 s0.toNatClampNeg ((e_v0 s0.toNatClampNeg) + (e_v0 (s0 - l6).toNatClampNeg)))))]) gdX7_row_141.2.2.2.2.1 rfl 0 rfl rfl ?_
  refine aw_iinc (q := 150) (v := (l7 + (1 : Int32))) (lv' := [(7, .int (l7 + (1 : Int32))), (8, .int s0), (2, .ref v0), (3, .int l3), (4, .int l4), (5, .int l5), (6, .int l6)]) gdX7_row_141.2.2.2.2.2.1 rfl 6 rfl rfl (by decide) rfl ?_
  refine aw_goto (tgt := 106) gdX7_row_141.2.2.2.2.2.2.1 (by decide) ?_
  refine aw_locals (lv' := [(2, .ref v0), (3, .int l3), (4, .int l4), (5, .int l5), (6, .int l6), (7, .int (l7 + (1 : Int32)))]) [2, 3, 4, 5, 6, 0] rfl ?_
  exact hk_106 _ _ _ _ _ _ _
def fX7_row_106 (N K : Nat) (p0 : Int32) (p1 : Int32) (k_74 : Int32 → Int32 → Int32 → Int32 → (Nat → Int32) → Option ((Nat → Int32))) : Nat → Int32 → Int32 → Int32 → Int32 → Int32 → (Nat → Int32) → Option ((Nat → Int32))
  | 0, _, _, _, _, _, _ => none
  | fu + 1, l3, l4, l5, l6, l7, e_v0 =>
    (if (20 : Int32) < l7 then fX7_row_153 N K p0 p1 k_74 l3 l4 l5 l6 e_v0 else (if l5 = 0 then fX7_row_131 N K p0 p1 k_74 (fX7_row_106 N K p0 p1 k_74 fu) l3 l4 l5 l6 l7 l7 e_v0 else fX7_row_131 N K p0 p1 k_74 (fX7_row_106 N K p0 p1 k_74 fu) l3 l4 l5 l6 l7 (((20 : Int32) + l6) - l7) e_v0))
set_option maxHeartbeats 4000000 in
set_option maxRecDepth 100000 in
theorem tX7_row_106 {N K : Nat} {p0 : Int32} {p1 : Int32} {k_74 : Int32 → Int32 → Int32 → Int32 → (Nat → Int32) → Option ((Nat → Int32))} (hk_74 : ∀ (l3 : Int32) (l4 : Int32) (l5 : Int32) (l6 : Int32) (e_v0 : Nat → Int32) (v0 : Nat), AW RX7 "row" cX7_row 9 (some (.array .int)) [] (fun _ _ => True) (0) (PN (U := (Nat → Int32)) (fun _ ad => some (.ref (ad 0))) (fun zz ad => [((ad 0), .inl (0, 21, .inl zz))])) 0 0 (k_74 l3 l4 l5 l6 e_v0) 74 [(2, .ref v0), (3, .int l3), (4, .int l4), (5, .int l5), (6, .int l6)] [] [(v0, .inl (0, 21, .inl e_v0))]) : ∀ (fu : Nat) (l3 : Int32) (l4 : Int32) (l5 : Int32) (l6 : Int32) (l7 : Int32) (e_v0 : Nat → Int32) (v0 : Nat), AW RX7 "row" cX7_row 9 (some (.array .int)) [] (fun _ _ => True) (0) (PN (U := (Nat → Int32)) (fun _ ad => some (.ref (ad 0))) (fun zz ad => [((ad 0), .inl (0, 21, .inl zz))])) 0 0 (fX7_row_106 N K p0 p1 k_74 fu l3 l4 l5 l6 l7 e_v0) 106 [(2, .ref v0), (3, .int l3), (4, .int l4), (5, .int l5), (6, .int l6), (7, .int l7)] [] [(v0, .inl (0, 21, .inl e_v0))] := by
  intro fu
  induction fu with
  | zero => intro l3 l4 l5 l6 l7 e_v0 v0; exact aw_none
  | succ fu ih =>
    intro l3 l4 l5 l6 l7 e_v0 v0
    refine aw_iload (q := 108) gdX7_row_95.2.2.2.2.2.1 rfl 5 rfl ?_
    refine aw_bipush (q := 110) (v := 20) gdX7_row_95.2.2.2.2.2.2.1 rfl (by decide) ?_
    refine aw_icmp_gt (tgt := 153) (q := 113) gdX7_row_95.2.2.2.2.2.2.2 (by decide) rfl (fun h_110 => ?_) (fun h_110 => ?_)
    · refine aw_locals (lv' := [(2, .ref v0), (3, .int l3), (4, .int l4), (5, .int l5), (6, .int l6)]) [0, 1, 2, 3, 4] rfl ?_
      exact tX7_row_153 hk_74 _ _ _ _ _ _
    · refine aw_iload (q := 115) gdX7_row_113.1 rfl 3 rfl ?_
      refine aw_if_eq (tgt := 129) (q := 118) gdX7_row_113.2.1 (by decide) rfl (fun h_115 => ?_) (fun h_115 => ?_)
      · refine aw_iload (q := 131) gdX7_row_129.1 rfl 5 rfl ?_
        exact tX7_row_131 hk_74 ih _ _ _ _ _ _ _ _
      · refine aw_bipush (q := 120) (v := 20) gdX7_row_113.2.2.1 rfl (by decide) ?_
        refine aw_iload (q := 122) gdX7_row_113.2.2.2.1 rfl 4 rfl ?_
        refine aw_iadd (q := 123) gdX7_row_113.2.2.2.2.1 rfl ?_
        refine aw_iload (q := 125) gdX7_row_113.2.2.2.2.2.1 rfl 5 rfl ?_
        refine aw_isub (q := 126) gdX7_row_113.2.2.2.2.2.2.1 rfl ?_
        refine aw_goto (tgt := 131) gdX7_row_113.2.2.2.2.2.2.2 (by decide) ?_
        exact tX7_row_131 hk_74 ih _ _ _ _ _ _ _ _
def fX7_row_102 (N K : Nat) (p0 : Int32) (p1 : Int32) (k_74 : Int32 → Int32 → Int32 → Int32 → (Nat → Int32) → Option ((Nat → Int32))) (l3 : Int32) (l4 : Int32) (l5 : Int32) (l6 : Int32) (e_v0 : Nat → Int32) : Option ((Nat → Int32)) :=
  fX7_row_106 N K p0 p1 k_74 N l3 l4 l5 l6 l6 e_v0
set_option maxHeartbeats 4000000 in
set_option maxRecDepth 100000 in
theorem tX7_row_102 {N K : Nat} {p0 : Int32} {p1 : Int32} {k_74 : Int32 → Int32 → Int32 → Int32 → (Nat → Int32) → Option ((Nat → Int32))} (hk_74 : ∀ (l3 : Int32) (l4 : Int32) (l5 : Int32) (l6 : Int32) (e_v0 : Nat → Int32) (v0 : Nat), AW RX7 "row" cX7_row 9 (some (.array .int)) [] (fun _ _ => True) (0) (PN (U := (Nat → Int32)) (fun _ ad => some (.ref (ad 0))) (fun zz ad => [((ad 0), .inl (0, 21, .inl zz))])) 0 0 (k_74 l3 l4 l5 l6 e_v0) 74 [(2, .ref v0), (3, .int l3), (4, .int l4), (5, .int l5), (6, .int l6)] [] [(v0, .inl (0, 21, .inl e_v0))]) : ∀ (l3 : Int32) (l4 : Int32) (l5 : Int32) (l6 : Int32) (e_v0 : Nat → Int32) (v0 : Nat), AW RX7 "row" cX7_row 9 (some (.array .int)) [] (fun _ _ => True) (0) (PN (U := (Nat → Int32)) (fun _ ad => some (.ref (ad 0))) (fun zz ad => [((ad 0), .inl (0, 21, .inl zz))])) 0 0 (fX7_row_102 N K p0 p1 k_74 l3 l4 l5 l6 e_v0) 102 [(2, .ref v0), (3, .int l3), (4, .int l4), (5, .int l5), (6, .int l6)] [] [(v0, .inl (0, 21, .inl e_v0))] := by
  intro l3 l4 l5 l6 e_v0 v0
  refine aw_iload (q := 104) gdX7_row_95.2.2.2.1 rfl 4 rfl ?_
  refine aw_istore (q := 106) (lv' := [(7, .int l6), (2, .ref v0), (3, .int l3), (4, .int l4), (5, .int l5), (6, .int l6)]) gdX7_row_95.2.2.2.2.1 rfl (by decide) rfl ?_
  refine aw_locals (lv' := [(2, .ref v0), (3, .int l3), (4, .int l4), (5, .int l5), (6, .int l6), (7, .int l6)]) [1, 2, 3, 4, 5, 0] rfl ?_
  exact tX7_row_106 hk_74 N _ _ _ _ _ _ _
def fX7_row_74 (N K : Nat) (p0 : Int32) (p1 : Int32) : Nat → Int32 → Int32 → Int32 → Int32 → (Nat → Int32) → Option ((Nat → Int32))
  | 0, _, _, _, _, _ => none
  | fu + 1, l3, l4, l5, l6, e_v0 =>
    (if l3 < l6 then (some e_v0) else (if (20 : Int32) < l6 then (some e_v0) else (if l4 = 0 then fX7_row_102 N K p0 p1 (fX7_row_74 N K p0 p1  fu) l3 l4 l5 l6 e_v0 else (if (l6 % (2 : Int32)) = 0 then fX7_row_153 N K p0 p1 (fX7_row_74 N K p0 p1  fu) l3 l4 l5 l6 e_v0 else fX7_row_102 N K p0 p1 (fX7_row_74 N K p0 p1  fu) l3 l4 l5 l6 e_v0))))
set_option maxHeartbeats 4000000 in
set_option maxRecDepth 100000 in
theorem tX7_row_74 {N K : Nat} {p0 : Int32} {p1 : Int32} : ∀ (fu : Nat) (l3 : Int32) (l4 : Int32) (l5 : Int32) (l6 : Int32) (e_v0 : Nat → Int32) (v0 : Nat), AW RX7 "row" cX7_row 9 (some (.array .int)) [] (fun _ _ => True) (0) (PN (U := (Nat → Int32)) (fun _ ad => some (.ref (ad 0))) (fun zz ad => [((ad 0), .inl (0, 21, .inl zz))])) 0 0 (fX7_row_74 N K p0 p1  fu l3 l4 l5 l6 e_v0) 74 [(2, .ref v0), (3, .int l3), (4, .int l4), (5, .int l5), (6, .int l6)] [] [(v0, .inl (0, 21, .inl e_v0))] := by
  intro fu
  induction fu with
  | zero => intro l3 l4 l5 l6 e_v0 v0; exact aw_none
  | succ fu ih =>
    intro l3 l4 l5 l6 e_v0 v0
    refine aw_iload (q := 76) gdX7_row_64.2.2.2.2.2.2.1 rfl 4 rfl ?_
    refine aw_iload_n (q := 77) gdX7_row_64.2.2.2.2.2.2.2 rfl 1 rfl ?_
    refine aw_icmp_gt (tgt := 159) (q := 80) gdX7_row_77.1 (by decide) rfl (fun h_77 => ?_) (fun h_77 => ?_)
    · refine aw_aload_n (q := 160) gdX7_row_156.2.1 rfl 0 rfl ?_
      exact aw_areturn (w := [(v0, .inl (0, 21, .inl e_v0))]) [0] gdX7_row_156.2.2 rfl (Or.inr ⟨_, rfl⟩) rfl rfl (PN.mk (fun j => if j = 0 then v0 else 0) rfl rfl)
    · refine aw_iload (q := 82) gdX7_row_77.2.1 rfl 4 rfl ?_
      refine aw_bipush (q := 84) (v := 20) gdX7_row_77.2.2.1 rfl (by decide) ?_
      refine aw_icmp_gt (tgt := 159) (q := 87) gdX7_row_77.2.2.2.1 (by decide) rfl (fun h_84 => ?_) (fun h_84 => ?_)
      · refine aw_aload_n (q := 160) gdX7_row_156.2.1 rfl 0 rfl ?_
        exact aw_areturn (w := [(v0, .inl (0, 21, .inl e_v0))]) [0] gdX7_row_156.2.2 rfl (Or.inr ⟨_, rfl⟩) rfl rfl (PN.mk (fun j => if j = 0 then v0 else 0) rfl rfl)
      · refine aw_iload (q := 89) gdX7_row_77.2.2.2.2.1 rfl 2 rfl ?_
        refine aw_if_eq (tgt := 102) (q := 92) gdX7_row_77.2.2.2.2.2.1 (by decide) rfl (fun h_89 => ?_) (fun h_89 => ?_)
        · exact tX7_row_102 ih _ _ _ _ _ _
        · refine aw_iload (q := 94) gdX7_row_77.2.2.2.2.2.2.1 rfl 4 rfl ?_
          refine aw_iconst (q := 95) (v := 2) gdX7_row_77.2.2.2.2.2.2.2 rfl (by decide) ?_
          refine aw_iremT (q := 96) gdX7_row_95.1 rfl (by decide) ?_
          refine aw_if_ne (tgt := 102) (q := 99) gdX7_row_95.2.1 (by decide) rfl (fun h_96 => ?_) (fun h_96 => ?_)
          · exact tX7_row_102 ih _ _ _ _ _ _
          · refine aw_goto (tgt := 153) gdX7_row_95.2.2.1 (by decide) ?_
            exact tX7_row_153 ih _ _ _ _ _ _
def fX7_row_69 (N K : Nat) (p0 : Int32) (p1 : Int32) (l3 : Int32) (l4 : Int32) (s0 : Int32) (e_v0 : Nat → Int32) : Option ((Nat → Int32)) :=
  fX7_row_74 N K p0 p1  N l3 l4 s0 (1 : Int32) e_v0
set_option maxHeartbeats 4000000 in
set_option maxRecDepth 100000 in
theorem tX7_row_69 {N K : Nat} {p0 : Int32} {p1 : Int32} : ∀ (l3 : Int32) (l4 : Int32) (s0 : Int32) (e_v0 : Nat → Int32) (v0 : Nat), AW RX7 "row" cX7_row 9 (some (.array .int)) [] (fun _ _ => True) (0) (PN (U := (Nat → Int32)) (fun _ ad => some (.ref (ad 0))) (fun zz ad => [((ad 0), .inl (0, 21, .inl zz))])) 0 0 (fX7_row_69 N K p0 p1  l3 l4 s0 e_v0) 69 [(2, .ref v0), (3, .int l3), (4, .int l4)] [.int s0] [(v0, .inl (0, 21, .inl e_v0))] := by
  intro l3 l4 s0 e_v0 v0
  refine aw_istore (q := 71) (lv' := [(5, .int s0), (2, .ref v0), (3, .int l3), (4, .int l4)]) gdX7_row_64.2.2.2.1 rfl (by decide) rfl ?_
  refine aw_iconst (q := 72) (v := 1) gdX7_row_64.2.2.2.2.1 rfl (by decide) ?_
  refine aw_istore (q := 74) (lv' := [(6, .int (1 : Int32)), (5, .int s0), (2, .ref v0), (3, .int l3), (4, .int l4)]) gdX7_row_64.2.2.2.2.2.1 rfl (by decide) rfl ?_
  refine aw_locals (lv' := [(2, .ref v0), (3, .int l3), (4, .int l4), (5, .int s0), (6, .int (1 : Int32))]) [2, 3, 4, 1, 0] rfl ?_
  exact tX7_row_74  N _ _ _ _ _ _
def fX7_row_64 (N K : Nat) (p0 : Int32) (p1 : Int32) (l3 : Int32) (l4 : Int32) (e_v0 : Nat → Int32) : Option ((Nat → Int32)) :=
  fX7_row_69 N K p0 p1  l3 l4 (1 : Int32) e_v0
set_option maxHeartbeats 4000000 in
set_option maxRecDepth 100000 in
theorem tX7_row_64 {N K : Nat} {p0 : Int32} {p1 : Int32} : ∀ (l3 : Int32) (l4 : Int32) (e_v0 : Nat → Int32) (v0 : Nat), AW RX7 "row" cX7_row 9 (some (.array .int)) [] (fun _ _ => True) (0) (PN (U := (Nat → Int32)) (fun _ ad => some (.ref (ad 0))) (fun zz ad => [((ad 0), .inl (0, 21, .inl zz))])) 0 0 (fX7_row_64 N K p0 p1  l3 l4 e_v0) 64 [(2, .ref v0), (3, .int l3), (4, .int l4)] [] [(v0, .inl (0, 21, .inl e_v0))] := by
  intro l3 l4 e_v0 v0
  refine aw_iconst (q := 65) (v := 1) gdX7_row_64.1 rfl (by decide) ?_
  refine aw_goto (tgt := 69) gdX7_row_64.2.1 (by decide) ?_
  exact tX7_row_69  _ _ _ _ _
def fX7_row_46 (N K : Nat) (p0 : Int32) (p1 : Int32) (l3 : Int32) (s0 : Int32) (e_v0 : Nat → Int32) : Option ((Nat → Int32)) :=
  (if p0 = (2 : Int32) then fX7_row_64 N K p0 p1  l3 s0 e_v0 else (if p0 = (4 : Int32) then fX7_row_64 N K p0 p1  l3 s0 e_v0 else (if p0 = (7 : Int32) then fX7_row_64 N K p0 p1  l3 s0 e_v0 else fX7_row_69 N K p0 p1  l3 s0 (0 : Int32) e_v0)))
set_option maxHeartbeats 4000000 in
set_option maxRecDepth 100000 in
theorem tX7_row_46 {N K : Nat} {p0 : Int32} {p1 : Int32} : ∀ (l3 : Int32) (s0 : Int32) (e_v0 : Nat → Int32) (v0 : Nat), AW RX7 "row" cX7_row 9 (some (.array .int)) [] (fun _ _ => True) (0) (PN (U := (Nat → Int32)) (fun _ ad => some (.ref (ad 0))) (fun zz ad => [((ad 0), .inl (0, 21, .inl zz))])) 0 0 (fX7_row_46 N K p0 p1  l3 s0 e_v0) 46 [(0, .int p0), (2, .ref v0), (3, .int l3)] [.int s0] [(v0, .inl (0, 21, .inl e_v0))] := by
  intro l3 s0 e_v0 v0
  refine aw_istore (q := 48) (lv' := [(4, .int s0), (0, .int p0), (2, .ref v0), (3, .int l3)]) gdX7_row_35.2.2.2.2.2.2.1 rfl (by decide) rfl ?_
  refine aw_iload_n (q := 49) gdX7_row_35.2.2.2.2.2.2.2 rfl 1 rfl ?_
  refine aw_iconst (q := 50) (v := 2) gdX7_row_49.1 rfl (by decide) ?_
  refine aw_icmp_eq (tgt := 64) (q := 53) gdX7_row_49.2.1 (by decide) rfl (fun h_50 => ?_) (fun h_50 => ?_)
  · refine aw_locals (lv' := [(2, .ref v0), (3, .int l3), (4, .int s0)]) [2, 3, 0] rfl ?_
    exact tX7_row_64  _ _ _ _
  · refine aw_iload_n (q := 54) gdX7_row_49.2.2.1 rfl 1 rfl ?_
    refine aw_iconst (q := 55) (v := 4) gdX7_row_49.2.2.2.1 rfl (by decide) ?_
    refine aw_icmp_eq (tgt := 64) (q := 58) gdX7_row_49.2.2.2.2.1 (by decide) rfl (fun h_55 => ?_) (fun h_55 => ?_)
    · refine aw_locals (lv' := [(2, .ref v0), (3, .int l3), (4, .int s0)]) [2, 3, 0] rfl ?_
      exact tX7_row_64  _ _ _ _
    · refine aw_iload_n (q := 59) gdX7_row_49.2.2.2.2.2.1 rfl 1 rfl ?_
      refine aw_bipush (q := 61) (v := 7) gdX7_row_49.2.2.2.2.2.2.1 rfl (by decide) ?_
      refine aw_icmp_ne (tgt := 68) (q := 64) gdX7_row_49.2.2.2.2.2.2.2 (by decide) rfl (fun h_61 => ?_) (fun h_61 => ?_)
      · refine aw_iconst (q := 69) (v := 0) gdX7_row_64.2.2.1 rfl (by decide) ?_
        refine aw_locals (lv' := [(2, .ref v0), (3, .int l3), (4, .int s0)]) [2, 3, 0] rfl ?_
        exact tX7_row_69  _ _ _ _ _
      · refine aw_locals (lv' := [(2, .ref v0), (3, .int l3), (4, .int s0)]) [2, 3, 0] rfl ?_
        exact tX7_row_64  _ _ _ _
def fX7_row_41 (N K : Nat) (p0 : Int32) (p1 : Int32) (l3 : Int32) (e_v0 : Nat → Int32) : Option ((Nat → Int32)) :=
  fX7_row_46 N K p0 p1  l3 (1 : Int32) e_v0
set_option maxHeartbeats 4000000 in
set_option maxRecDepth 100000 in
theorem tX7_row_41 {N K : Nat} {p0 : Int32} {p1 : Int32} : ∀ (l3 : Int32) (e_v0 : Nat → Int32) (v0 : Nat), AW RX7 "row" cX7_row 9 (some (.array .int)) [] (fun _ _ => True) (0) (PN (U := (Nat → Int32)) (fun _ ad => some (.ref (ad 0))) (fun zz ad => [((ad 0), .inl (0, 21, .inl zz))])) 0 0 (fX7_row_41 N K p0 p1  l3 e_v0) 41 [(0, .int p0), (2, .ref v0), (3, .int l3)] [] [(v0, .inl (0, 21, .inl e_v0))] := by
  intro l3 e_v0 v0
  refine aw_iconst (q := 42) (v := 1) gdX7_row_35.2.2.2.1 rfl (by decide) ?_
  refine aw_goto (tgt := 46) gdX7_row_35.2.2.2.2.1 (by decide) ?_
  exact tX7_row_46  _ _ _ _
def fX7_row_24 (N K : Nat) (p0 : Int32) (p1 : Int32) (s0 : Int32) (e_v0 : Nat → Int32) : Option ((Nat → Int32)) :=
  (if p0 = (3 : Int32) then fX7_row_41 N K p0 p1  s0 e_v0 else (if p0 = (4 : Int32) then fX7_row_41 N K p0 p1  s0 e_v0 else (if p0 = (7 : Int32) then fX7_row_41 N K p0 p1  s0 e_v0 else fX7_row_46 N K p0 p1  s0 (0 : Int32) e_v0)))
set_option maxHeartbeats 4000000 in
set_option maxRecDepth 100000 in
theorem tX7_row_24 {N K : Nat} {p0 : Int32} {p1 : Int32} : ∀ (s0 : Int32) (e_v0 : Nat → Int32) (v0 : Nat), AW RX7 "row" cX7_row 9 (some (.array .int)) [] (fun _ _ => True) (0) (PN (U := (Nat → Int32)) (fun _ ad => some (.ref (ad 0))) (fun zz ad => [((ad 0), .inl (0, 21, .inl zz))])) 0 0 (fX7_row_24 N K p0 p1  s0 e_v0) 24 [(0, .int p0), (2, .ref v0)] [.int s0] [(v0, .inl (0, 21, .inl e_v0))] := by
  intro s0 e_v0 v0
  refine aw_istore_n (q := 25) (lv' := [(3, .int s0), (0, .int p0), (2, .ref v0)]) gdX7_row_23.2.1 rfl (by decide) rfl ?_
  refine aw_iload_n (q := 26) gdX7_row_23.2.2.1 rfl 1 rfl ?_
  refine aw_iconst (q := 27) (v := 3) gdX7_row_23.2.2.2.1 rfl (by decide) ?_
  refine aw_icmp_eq (tgt := 41) (q := 30) gdX7_row_23.2.2.2.2.1 (by decide) rfl (fun h_27 => ?_) (fun h_27 => ?_)
  · refine aw_locals (lv' := [(0, .int p0), (2, .ref v0), (3, .int s0)]) [1, 2, 0] rfl ?_
    exact tX7_row_41  _ _ _
  · refine aw_iload_n (q := 31) gdX7_row_23.2.2.2.2.2.1 rfl 1 rfl ?_
    refine aw_iconst (q := 32) (v := 4) gdX7_row_23.2.2.2.2.2.2.1 rfl (by decide) ?_
    refine aw_icmp_eq (tgt := 41) (q := 35) gdX7_row_23.2.2.2.2.2.2.2 (by decide) rfl (fun h_32 => ?_) (fun h_32 => ?_)
    · refine aw_locals (lv' := [(0, .int p0), (2, .ref v0), (3, .int s0)]) [1, 2, 0] rfl ?_
      exact tX7_row_41  _ _ _
    · refine aw_iload_n (q := 36) gdX7_row_35.1 rfl 1 rfl ?_
      refine aw_bipush (q := 38) (v := 7) gdX7_row_35.2.1 rfl (by decide) ?_
      refine aw_icmp_ne (tgt := 45) (q := 41) gdX7_row_35.2.2.1 (by decide) rfl (fun h_38 => ?_) (fun h_38 => ?_)
      · refine aw_iconst (q := 46) (v := 0) gdX7_row_35.2.2.2.2.2.1 rfl (by decide) ?_
        refine aw_locals (lv' := [(0, .int p0), (2, .ref v0), (3, .int s0)]) [1, 2, 0] rfl ?_
        exact tX7_row_46  _ _ _ _
      · refine aw_locals (lv' := [(0, .int p0), (2, .ref v0), (3, .int s0)]) [1, 2, 0] rfl ?_
        exact tX7_row_41  _ _ _
def fX7_row (N K : Nat) (p0 : Int32) (p1 : Int32) : Option ((Nat → Int32)) :=
  (if p0 = (7 : Int32) then fX7_row_24 N K p0 p1  (((2 : Int32) * p1) - (1 : Int32)) (upd (fun _ => 0) (0 : Int32).toNatClampNeg (1 : Int32)) else fX7_row_24 N K p0 p1  p1 (upd (fun _ => 0) (0 : Int32).toNatClampNeg (1 : Int32)))
set_option maxHeartbeats 4000000 in
set_option maxRecDepth 100000 in
theorem ok_X7_row {N K : Nat} {p0 : Int32} {p1 : Int32} {xr : (Nat → Int32)} (hE : fX7_row N K p0 p1 = some xr) : OkM yX7_row (.code yX7_row cX7_row 9 (some (.array .int))) (0) 1 21 [.int p0, .int p1] [] ((PN (U := (Nat → Int32)) (fun _ ad => some (.ref (ad 0))) (fun zz ad => [((ad 0), .inl (0, 21, .inl zz))])) xr) := by
  refine ok_of (by decide) (Nat.le_of_ble_eq_true rfl) hE ?_
  refine aw_locals (lv' := [(0, .int p0), (1, .int p1)]) [0, 1] rfl ?_
  refine aw_bipush (q := 2) (v := 21) gdX7_row_0.1 rfl (by decide) ?_
  refine aw_newarr (q := 4) (t := 0) (N := 21) (kc' := 0) (ks' := 0) (ws' := fun r2 => [(r2, .inl (0, 21, .inl (fun _ => 0)))]) gdX7_row_0.2.1 rfl (by decide) rfl ac_int (fun _ => rfl) (by decide) (by decide) (by decide) (by omega) (by omega) (fun _ => rfl) (fun r2 => ?_)
  refine aw_astore_n (q := 5) (lv' := [(2, .ref r2), (0, .int p0), (1, .int p1)]) gdX7_row_0.2.2.1 rfl (by decide) rfl ?_
  refine aw_aload_n (q := 6) gdX7_row_0.2.2.2.1 rfl 0 rfl ?_
  refine aw_iconst (q := 7) (v := 0) gdX7_row_0.2.2.2.2.1 rfl (by decide) ?_
  refine aw_iconst (q := 8) (v := 1) gdX7_row_0.2.2.2.2.2.1 rfl (by decide) ?_
  refine aw_iastT (q := 9) (ws' := [(r2, .inl (0, 21, .inl (upd (fun _ => 0) (0 : Int32).toNatClampNeg (1 : Int32))))]) (by decide) gdX7_row_0.2.2.2.2.2.2.1 rfl 0 rfl rfl ?_
  refine aw_iload_n (q := 10) gdX7_row_0.2.2.2.2.2.2.2 rfl 1 rfl ?_
  refine aw_bipush (q := 12) (v := 7) gdX7_row_10.1 rfl (by decide) ?_
  refine aw_icmp_ne (tgt := 23) (q := 15) gdX7_row_10.2.1 (by decide) rfl (fun h_12 => ?_) (fun h_12 => ?_)
  · refine aw_iload_n (q := 24) gdX7_row_23.1 rfl 2 rfl ?_
    refine aw_locals (lv' := [(0, .int p0), (2, .ref r2)]) [1, 0] rfl ?_
    exact tX7_row_24  _ _ _
  · refine aw_iconst (q := 16) (v := 2) gdX7_row_10.2.2.1 rfl (by decide) ?_
    refine aw_iload_n (q := 17) gdX7_row_10.2.2.2.1 rfl 2 rfl ?_
    refine aw_imul (q := 18) gdX7_row_10.2.2.2.2.1 rfl ?_
    refine aw_iconst (q := 19) (v := 1) gdX7_row_10.2.2.2.2.2.1 rfl (by decide) ?_
    refine aw_isub (q := 20) gdX7_row_10.2.2.2.2.2.2.1 rfl ?_
    refine aw_goto (tgt := 24) gdX7_row_10.2.2.2.2.2.2.2 (by decide) ?_
    refine aw_locals (lv' := [(0, .int p0), (2, .ref r2)]) [1, 0] rfl ?_
    exact tX7_row_24  _ _ _
def fX7_told_29 (N K : Nat) (f : Nat → Int32) (p0 : Int32) (p1 : Int32) (p2 : Int32) (s0 : Int32) : Option (Int32) :=
  (if 0 ≤ s0 then (if s0 < 0 ∨ 21 ≤ s0.toNatClampNeg then none else (some (f s0.toNatClampNeg))) else (some (0 : Int32)))
set_option maxHeartbeats 4000000 in
set_option maxRecDepth 100000 in
theorem tX7_told_29 {N K : Nat} {a : Nat} {f : Nat → Int32} {p0 : Int32} {p1 : Int32} {p2 : Int32} : ∀ (s0 : Int32), AW RX7 "told" cX7_told 5 (some .int) [] (fun _ _ => True) (0) (PN (U := Int32) (fun zz _ => some (.int zz)) (fun zz ad => [(a, .inl (0, 21, .inl f))])) 0 0 (fX7_told_29 N K f p0 p1 p2  s0) 29 [(0, .ref a)] [.int s0] [(a, .inl (0, 21, .inl f))] := by
  intro s0
  refine aw_istore (q := 31) (lv' := [(4, .int s0), (0, .ref a)]) gdX7_told_22.2.2.2.2.2.1 rfl (by decide) rfl ?_
  refine aw_iload (q := 33) gdX7_told_22.2.2.2.2.2.2.1 rfl 0 rfl ?_
  refine aw_if_ge (tgt := 40) (q := 36) gdX7_told_22.2.2.2.2.2.2.2 (by decide) rfl (fun h_33 => ?_) (fun h_33 => ?_)
  · refine aw_aload_n (q := 41) gdX7_told_36.2.2.1 rfl 1 rfl ?_
    refine aw_iload (q := 43) gdX7_told_36.2.2.2.1 rfl 0 rfl ?_
    refine aw_iald (q := 44) gdX7_told_36.2.2.2.2.1 rfl 0 rfl ?_
    exact aw_ireturn (w := [(a, .inl (0, 21, .inl f))]) [0] gdX7_told_36.2.2.2.2.2 rfl rfl rfl rfl (PN.mk (fun _ => 0) rfl rfl)
  · refine aw_iconst (q := 37) (v := 0) gdX7_told_36.1 rfl (by decide) ?_
    refine aw_goto (tgt := 44) gdX7_told_36.2.1 (by decide) ?_
    exact aw_ireturn (w := [(a, .inl (0, 21, .inl f))]) [0] gdX7_told_36.2.2.2.2.2 rfl rfl rfl rfl (PN.mk (fun _ => 0) rfl rfl)
def fX7_told (N K : Nat) (f : Nat → Int32) (p0 : Int32) (p1 : Int32) (p2 : Int32) : Option (Int32) :=
  (if p0 = (1 : Int32) then fX7_told_29 N K f p0 p1 p2  (p1 - p2) else (if p0 = (5 : Int32) then fX7_told_29 N K f p0 p1 p2  (p1 - ((p2 * (p2 + (1 : Int32))) / (2 : Int32))) else fX7_told_29 N K f p0 p1 p2  p1))
set_option maxHeartbeats 4000000 in
set_option maxRecDepth 100000 in
theorem ok_X7_told {N K : Nat} {a : Nat} {f : Nat → Int32} {p0 : Int32} {p1 : Int32} {p2 : Int32} {xr : Int32} (hE : fX7_told N K f p0 p1 p2 = some xr) : OkM yX7_told (.code yX7_told cX7_told 5 (some .int)) (0) 0 0 [.ref a, .int p0, .int p1, .int p2] [(a, .inl (0, 21, .inl f))] ((PN (U := Int32) (fun zz _ => some (.int zz)) (fun zz ad => [(a, .inl (0, 21, .inl f))])) xr) := by
  refine ok_of (by decide) (Nat.le_of_ble_eq_true rfl) hE ?_
  refine aw_locals (lv' := [(0, .ref a), (1, .int p0), (2, .int p1), (3, .int p2)]) [0, 1, 2, 3] rfl ?_
  refine aw_iload_n (q := 1) gdX7_told_0.1 rfl 1 rfl ?_
  refine aw_iconst (q := 2) (v := 1) gdX7_told_0.2.1 rfl (by decide) ?_
  refine aw_icmp_ne (tgt := 11) (q := 5) gdX7_told_0.2.2.1 (by decide) rfl (fun h_2 => ?_) (fun h_2 => ?_)
  · refine aw_iload_n (q := 12) gdX7_told_0.2.2.2.2.2.2.2 rfl 1 rfl ?_
    refine aw_iconst (q := 13) (v := 5) gdX7_told_12.1 rfl (by decide) ?_
    refine aw_icmp_ne (tgt := 28) (q := 16) gdX7_told_12.2.1 (by decide) rfl (fun h_13 => ?_) (fun h_13 => ?_)
    · refine aw_iload_n (q := 29) gdX7_told_22.2.2.2.2.1 rfl 2 rfl ?_
      refine aw_locals (lv' := [(0, .ref a)]) [0] rfl ?_
      exact tX7_told_29  _
    · refine aw_iload_n (q := 17) gdX7_told_12.2.2.1 rfl 2 rfl ?_
      refine aw_iload_n (q := 18) gdX7_told_12.2.2.2.1 rfl 3 rfl ?_
      refine aw_iload_n (q := 19) gdX7_told_12.2.2.2.2.1 rfl 3 rfl ?_
      refine aw_iconst (q := 20) (v := 1) gdX7_told_12.2.2.2.2.2.1 rfl (by decide) ?_
      refine aw_iadd (q := 21) gdX7_told_12.2.2.2.2.2.2.1 rfl ?_
      refine aw_imul (q := 22) gdX7_told_12.2.2.2.2.2.2.2 rfl ?_
      refine aw_iconst (q := 23) (v := 2) gdX7_told_22.1 rfl (by decide) ?_
      refine aw_idivT (q := 24) gdX7_told_22.2.1 rfl (by decide) ?_
      refine aw_isub (q := 25) gdX7_told_22.2.2.1 rfl ?_
      refine aw_goto (tgt := 29) gdX7_told_22.2.2.2.1 (by decide) ?_
      refine aw_locals (lv' := [(0, .ref a)]) [0] rfl ?_
      exact tX7_told_29  _
  · refine aw_iload_n (q := 6) gdX7_told_0.2.2.2.1 rfl 2 rfl ?_
    refine aw_iload_n (q := 7) gdX7_told_0.2.2.2.2.1 rfl 3 rfl ?_
    refine aw_isub (q := 8) gdX7_told_0.2.2.2.2.2.1 rfl ?_
    refine aw_goto (tgt := 29) gdX7_told_0.2.2.2.2.2.2.1 (by decide) ?_
    refine aw_locals (lv' := [(0, .ref a)]) [0] rfl ?_
    exact tX7_told_29  _
def fX7_series (N K : Nat) (p0 : Int32) (p1 : Int32) (p2 : Int32) : Option (Int32) :=
  ((fX7_row N K p0 p2).bind (fun x2 => ((fX7_told N K x2 p0 p1 p2).bind (fun x8 => (some x8)))))
set_option maxHeartbeats 4000000 in
set_option maxRecDepth 100000 in
theorem ok_X7_series {N K : Nat} {p0 : Int32} {p1 : Int32} {p2 : Int32} {xr : Int32} (hE : fX7_series N K p0 p1 p2 = some xr) : OkM yX7_series (.code yX7_series cX7_series 3 (some .int)) (1) 1 21 [.int p0, .int p1, .int p2] [] ((PN (U := Int32) (fun zz _ => some (.int zz)) (fun zz ad => [])) xr) := by
  refine ok_of (by decide) (Nat.le_of_ble_eq_true rfl) hE ?_
  refine aw_locals (lv' := [(0, .int p0), (1, .int p1), (2, .int p2)]) [0, 1, 2] rfl ?_
  refine aw_iload_n (q := 1) gdX7_series_0.1 rfl 0 rfl ?_
  refine aw_iload_n (q := 2) gdX7_series_0.2.1 rfl 2 rfl ?_
  refine aw_call (q := 5) (kc1 := 0) (ks1 := 0) (wc := []) (wr := []) (st1 := fun x2 g2 => [.ref (g2 0)]) (ws1 := fun x2 g2 => [((g2 0), .inl (0, 21, .inl x2))]) (As := [.int p0, .int p2]) [] [] (fun _ => runS gdX7_series_0.2.2.1 mi_X7_row st_X7_row ml_X7_64 (by omega) rfl (Nat.le_of_ble_eq_true rfl) rfl) (fun x9 h9 => ok_X7_row h9) rfl rfl rfl rfl rfl (by decide +kernel) (by omega) (by omega) (fun _ _ => rfl) (fun _ _ => rfl) (fun x2 g2 => ?_)
  refine aw_iload_n (q := 6) gdX7_series_0.2.2.2.1 rfl 0 rfl ?_
  refine aw_iload_n (q := 7) gdX7_series_0.2.2.2.2.1 rfl 1 rfl ?_
  refine aw_iload_n (q := 8) gdX7_series_0.2.2.2.2.2.1 rfl 2 rfl ?_
  refine aw_call (q := 11) (kc1 := 0) (ks1 := 0) (wc := [((g2 0), .inl (0, 21, .inl x2))]) (wr := []) (st1 := fun x8 g8 => [.int x8]) (ws1 := fun x8 g8 => [((g2 0), .inl (0, 21, .inl x2))]) (As := [.ref (g2 0), .int p0, .int p1, .int p2]) [0] [] (fun _ => runS gdX7_series_0.2.2.2.2.2.2.1 mi_X7_told st_X7_told ml_X7_68 (by omega) rfl (Nat.le_of_ble_eq_true rfl) rfl) (fun x9 h9 => ok_X7_told h9) rfl rfl rfl rfl rfl (by decide +kernel) (by omega) (by omega) (fun _ _ => rfl) (fun _ _ => rfl) (fun x8 g8 => ?_)
  exact aw_ireturn (w := []) [] gdX7_series_0.2.2.2.2.2.2.2 rfl rfl rfl rfl (PN.mk (fun _ => 0) rfl rfl)
def fX7_number_4 (N K : Nat) (f : Nat → Int32) : Nat → Int32 → Int32 → Option (Int32)
  | 0, _, _ => none
  | fu + 1, l1, l2 =>
    (if (20 : Int32) < l2 then (some l1) else (if l2 < 0 ∨ 21 ≤ l2.toNatClampNeg then none else fX7_number_4 N K f  fu (l1 + (l2 * (f l2.toNatClampNeg))) (l2 + (1 : Int32))))
set_option maxHeartbeats 4000000 in
set_option maxRecDepth 100000 in
theorem tX7_number_4 {N K : Nat} {a : Nat} {f : Nat → Int32} : ∀ (fu : Nat) (l1 : Int32) (l2 : Int32), AW RX7 "number" cX7_number 3 (some .int) [] (fun _ _ => True) (0) (PN (U := Int32) (fun zz _ => some (.int zz)) (fun zz ad => [(a, .inl (0, 21, .inl f))])) 0 0 (fX7_number_4 N K f  fu l1 l2) 4 [(0, .ref a), (1, .int l1), (2, .int l2)] [] [(a, .inl (0, 21, .inl f))] := by
  intro fu
  induction fu with
  | zero => intro l1 l2; exact aw_none
  | succ fu ih =>
    intro l1 l2
    refine aw_iload_n (q := 5) gdX7_number_0.2.2.2.2.1 rfl 2 rfl ?_
    refine aw_bipush (q := 7) (v := 20) gdX7_number_0.2.2.2.2.2.1 rfl (by decide) ?_
    refine aw_icmp_gt (tgt := 24) (q := 10) gdX7_number_0.2.2.2.2.2.2.1 (by decide) rfl (fun h_7 => ?_) (fun h_7 => ?_)
    · refine aw_iload_n (q := 25) gdX7_number_21.2.1 rfl 1 rfl ?_
      exact aw_ireturn (w := [(a, .inl (0, 21, .inl f))]) [0] gdX7_number_21.2.2 rfl rfl rfl rfl (PN.mk (fun _ => 0) rfl rfl)
    · refine aw_iload_n (q := 11) gdX7_number_0.2.2.2.2.2.2.2 rfl 1 rfl ?_
      refine aw_iload_n (q := 12) gdX7_number_11.1 rfl 2 rfl ?_
      refine aw_aload_n (q := 13) gdX7_number_11.2.1 rfl 0 rfl ?_
      refine aw_iload_n (q := 14) gdX7_number_11.2.2.1 rfl 2 rfl ?_
      refine aw_iald (q := 15) gdX7_number_11.2.2.2.1 rfl 0 rfl ?_
      refine aw_imul (q := 16) gdX7_number_11.2.2.2.2.1 rfl ?_
      refine aw_iadd (q := 17) gdX7_number_11.2.2.2.2.2.1 rfl ?_
      refine aw_istore_n (q := 18) (lv' := [(1, .int (l1 + (l2 * (f l2.toNatClampNeg)))), (0, .ref a), (2, .int l2)]) gdX7_number_11.2.2.2.2.2.2.1 rfl (by decide) rfl ?_
      refine aw_iinc (q := 21) (v := (l2 + (1 : Int32))) (lv' := [(2, .int (l2 + (1 : Int32))), (1, .int (l1 + (l2 * (f l2.toNatClampNeg)))), (0, .ref a)]) gdX7_number_11.2.2.2.2.2.2.2 rfl 2 rfl rfl (by decide) rfl ?_
      refine aw_goto (tgt := 4) gdX7_number_21.1 (by decide) ?_
      refine aw_locals (lv' := [(0, .ref a), (1, .int (l1 + (l2 * (f l2.toNatClampNeg)))), (2, .int (l2 + (1 : Int32)))]) [2, 1, 0] rfl ?_
      exact ih _ _
def fX7_number (N K : Nat) (f : Nat → Int32) : Option (Int32) :=
  fX7_number_4 N K f  N (0 : Int32) (1 : Int32)
set_option maxHeartbeats 4000000 in
set_option maxRecDepth 100000 in
theorem ok_X7_number {N K : Nat} {a : Nat} {f : Nat → Int32} {xr : Int32} (hE : fX7_number N K f = some xr) : OkM yX7_number (.code yX7_number cX7_number 3 (some .int)) (0) 0 0 [.ref a] [(a, .inl (0, 21, .inl f))] ((PN (U := Int32) (fun zz _ => some (.int zz)) (fun zz ad => [(a, .inl (0, 21, .inl f))])) xr) := by
  refine ok_of (by decide) (Nat.le_of_ble_eq_true rfl) hE ?_
  refine aw_locals (lv' := [(0, .ref a)]) [0] rfl ?_
  refine aw_iconst (q := 1) (v := 0) gdX7_number_0.1 rfl (by decide) ?_
  refine aw_istore_n (q := 2) (lv' := [(1, .int (0 : Int32)), (0, .ref a)]) gdX7_number_0.2.1 rfl (by decide) rfl ?_
  refine aw_iconst (q := 3) (v := 1) gdX7_number_0.2.2.1 rfl (by decide) ?_
  refine aw_istore_n (q := 4) (lv' := [(2, .int (1 : Int32)), (1, .int (0 : Int32)), (0, .ref a)]) gdX7_number_0.2.2.2.1 rfl (by decide) rfl ?_
  refine aw_locals (lv' := [(0, .ref a), (1, .int (0 : Int32)), (2, .int (1 : Int32))]) [2, 1, 0] rfl ?_
  exact tX7_number_4  N _ _
def fX7_parts_4 (N K : Nat) (f : Nat → Int32) : Nat → Int32 → Int32 → Option (Int32)
  | 0, _, _ => none
  | fu + 1, l1, l2 =>
    (if (20 : Int32) < l2 then (some l1) else (if l2 < 0 ∨ 21 ≤ l2.toNatClampNeg then none else fX7_parts_4 N K f  fu (l1 + (f l2.toNatClampNeg)) (l2 + (1 : Int32))))
set_option maxHeartbeats 4000000 in
set_option maxRecDepth 100000 in
theorem tX7_parts_4 {N K : Nat} {a : Nat} {f : Nat → Int32} : ∀ (fu : Nat) (l1 : Int32) (l2 : Int32), AW RX7 "parts" cX7_parts 3 (some .int) [] (fun _ _ => True) (0) (PN (U := Int32) (fun zz _ => some (.int zz)) (fun zz ad => [(a, .inl (0, 21, .inl f))])) 0 0 (fX7_parts_4 N K f  fu l1 l2) 4 [(0, .ref a), (1, .int l1), (2, .int l2)] [] [(a, .inl (0, 21, .inl f))] := by
  intro fu
  induction fu with
  | zero => intro l1 l2; exact aw_none
  | succ fu ih =>
    intro l1 l2
    refine aw_iload_n (q := 5) gdX7_parts_0.2.2.2.2.1 rfl 2 rfl ?_
    refine aw_bipush (q := 7) (v := 20) gdX7_parts_0.2.2.2.2.2.1 rfl (by decide) ?_
    refine aw_icmp_gt (tgt := 22) (q := 10) gdX7_parts_0.2.2.2.2.2.2.1 (by decide) rfl (fun h_7 => ?_) (fun h_7 => ?_)
    · refine aw_iload_n (q := 23) gdX7_parts_11.2.2.2.2.2.2.2 rfl 1 rfl ?_
      exact aw_ireturn (w := [(a, .inl (0, 21, .inl f))]) [0] dX7_parts_23 rfl rfl rfl rfl (PN.mk (fun _ => 0) rfl rfl)
    · refine aw_iload_n (q := 11) gdX7_parts_0.2.2.2.2.2.2.2 rfl 1 rfl ?_
      refine aw_aload_n (q := 12) gdX7_parts_11.1 rfl 0 rfl ?_
      refine aw_iload_n (q := 13) gdX7_parts_11.2.1 rfl 2 rfl ?_
      refine aw_iald (q := 14) gdX7_parts_11.2.2.1 rfl 0 rfl ?_
      refine aw_iadd (q := 15) gdX7_parts_11.2.2.2.1 rfl ?_
      refine aw_istore_n (q := 16) (lv' := [(1, .int (l1 + (f l2.toNatClampNeg))), (0, .ref a), (2, .int l2)]) gdX7_parts_11.2.2.2.2.1 rfl (by decide) rfl ?_
      refine aw_iinc (q := 19) (v := (l2 + (1 : Int32))) (lv' := [(2, .int (l2 + (1 : Int32))), (1, .int (l1 + (f l2.toNatClampNeg))), (0, .ref a)]) gdX7_parts_11.2.2.2.2.2.1 rfl 2 rfl rfl (by decide) rfl ?_
      refine aw_goto (tgt := 4) gdX7_parts_11.2.2.2.2.2.2.1 (by decide) ?_
      refine aw_locals (lv' := [(0, .ref a), (1, .int (l1 + (f l2.toNatClampNeg))), (2, .int (l2 + (1 : Int32)))]) [2, 1, 0] rfl ?_
      exact ih _ _
def fX7_parts (N K : Nat) (f : Nat → Int32) : Option (Int32) :=
  fX7_parts_4 N K f  N (0 : Int32) (1 : Int32)
set_option maxHeartbeats 4000000 in
set_option maxRecDepth 100000 in
theorem ok_X7_parts {N K : Nat} {a : Nat} {f : Nat → Int32} {xr : Int32} (hE : fX7_parts N K f = some xr) : OkM yX7_parts (.code yX7_parts cX7_parts 3 (some .int)) (0) 0 0 [.ref a] [(a, .inl (0, 21, .inl f))] ((PN (U := Int32) (fun zz _ => some (.int zz)) (fun zz ad => [(a, .inl (0, 21, .inl f))])) xr) := by
  refine ok_of (by decide) (Nat.le_of_ble_eq_true rfl) hE ?_
  refine aw_locals (lv' := [(0, .ref a)]) [0] rfl ?_
  refine aw_iconst (q := 1) (v := 0) gdX7_parts_0.1 rfl (by decide) ?_
  refine aw_istore_n (q := 2) (lv' := [(1, .int (0 : Int32)), (0, .ref a)]) gdX7_parts_0.2.1 rfl (by decide) rfl ?_
  refine aw_iconst (q := 3) (v := 1) gdX7_parts_0.2.2.1 rfl (by decide) ?_
  refine aw_istore_n (q := 4) (lv' := [(2, .int (1 : Int32)), (1, .int (0 : Int32)), (0, .ref a)]) gdX7_parts_0.2.2.2.1 rfl (by decide) rfl ?_
  refine aw_locals (lv' := [(0, .ref a), (1, .int (0 : Int32)), (2, .int (1 : Int32))]) [2, 1, 0] rfl ?_
  exact tX7_parts_4  N _ _
def fX7_unlikeOnes_22 (N K : Nat) (f : Nat → Int32) (k_4 : Int32 → Int32 → Option (Int32)) (l2 : Int32) (s0 : Int32) (s1 : Int32) : Option (Int32) :=
  ((fX7_bit N K s0).bind (fun x22 => k_4 (s1 + x22) (l2 + (1 : Int32))))
set_option maxHeartbeats 4000000 in
set_option maxRecDepth 100000 in
theorem tX7_unlikeOnes_22 {N K : Nat} {a : Nat} {f : Nat → Int32} {k_4 : Int32 → Int32 → Option (Int32)} (hk_4 : ∀ (l1 : Int32) (l2 : Int32), AW RX7 "unlikeOnes" cX7_unlikeOnes 3 (some .int) [] (fun _ _ => True) (1) (PN (U := Int32) (fun zz _ => some (.int zz)) (fun zz ad => [(a, .inl (0, 21, .inl f))])) 0 0 (k_4 l1 l2) 4 [(0, .ref a), (1, .int l1), (2, .int l2)] [] [(a, .inl (0, 21, .inl f))]) : ∀ (l2 : Int32) (s0 : Int32) (s1 : Int32), AW RX7 "unlikeOnes" cX7_unlikeOnes 3 (some .int) [] (fun _ _ => True) (1) (PN (U := Int32) (fun zz _ => some (.int zz)) (fun zz ad => [(a, .inl (0, 21, .inl f))])) 0 0 (fX7_unlikeOnes_22 N K f k_4 l2 s0 s1) 22 [(0, .ref a), (2, .int l2)] [.int s0, .int s1] [(a, .inl (0, 21, .inl f))] := by
  intro l2 s0 s1
  refine aw_call (q := 25) (kc1 := 0) (ks1 := 0) (wc := []) (wr := [(a, .inl (0, 21, .inl f))]) (st1 := fun x22 g22 => [.int x22, .int s1]) (ws1 := fun x22 g22 => [(a, .inl (0, 21, .inl f))]) (As := [.int s0]) [] [0] (fun _ => runS gdX7_unlikeOnes_11.2.2.2.2.2.2.2 mi_X7_bit st_X7_bit ml_X7_43 (by omega) rfl (Nat.le_of_ble_eq_true rfl) rfl) (fun x9 h9 => ok_X7_bit h9) rfl rfl rfl rfl rfl (by decide +kernel) (by omega) (by omega) (fun _ _ => rfl) (fun _ _ => rfl) (fun x22 g22 => ?_)
  refine aw_iadd (q := 26) gdX7_unlikeOnes_25.1 rfl ?_
  refine aw_istore_n (q := 27) (lv' := [(1, .int (s1 + x22)), (0, .ref a), (2, .int l2)]) gdX7_unlikeOnes_25.2.1 rfl (by decide) rfl ?_
  refine aw_iinc (q := 30) (v := (l2 + (1 : Int32))) (lv' := [(2, .int (l2 + (1 : Int32))), (1, .int (s1 + x22)), (0, .ref a)]) gdX7_unlikeOnes_25.2.2.1 rfl 2 rfl rfl (by decide) rfl ?_
  refine aw_goto (tgt := 4) gdX7_unlikeOnes_25.2.2.2.1 (by decide) ?_
  refine aw_locals (lv' := [(0, .ref a), (1, .int (s1 + x22)), (2, .int (l2 + (1 : Int32)))]) [2, 1, 0] rfl ?_
  exact hk_4 _ _
def fX7_unlikeOnes_4 (N K : Nat) (f : Nat → Int32) : Nat → Int32 → Int32 → Option (Int32)
  | 0, _, _ => none
  | fu + 1, l1, l2 =>
    (if (20 : Int32) < l2 then (some l1) else (if l2 < 0 ∨ 21 ≤ l2.toNatClampNeg then none else (if (f l2.toNatClampNeg) ≤ 0 then fX7_unlikeOnes_22 N K f (fX7_unlikeOnes_4 N K f  fu) l2 (0 : Int32) l1 else fX7_unlikeOnes_22 N K f (fX7_unlikeOnes_4 N K f  fu) l2 (1 : Int32) l1)))
set_option maxHeartbeats 4000000 in
set_option maxRecDepth 100000 in
theorem tX7_unlikeOnes_4 {N K : Nat} {a : Nat} {f : Nat → Int32} : ∀ (fu : Nat) (l1 : Int32) (l2 : Int32), AW RX7 "unlikeOnes" cX7_unlikeOnes 3 (some .int) [] (fun _ _ => True) (1) (PN (U := Int32) (fun zz _ => some (.int zz)) (fun zz ad => [(a, .inl (0, 21, .inl f))])) 0 0 (fX7_unlikeOnes_4 N K f  fu l1 l2) 4 [(0, .ref a), (1, .int l1), (2, .int l2)] [] [(a, .inl (0, 21, .inl f))] := by
  intro fu
  induction fu with
  | zero => intro l1 l2; exact aw_none
  | succ fu ih =>
    intro l1 l2
    refine aw_iload_n (q := 5) gdX7_unlikeOnes_0.2.2.2.2.1 rfl 2 rfl ?_
    refine aw_bipush (q := 7) (v := 20) gdX7_unlikeOnes_0.2.2.2.2.2.1 rfl (by decide) ?_
    refine aw_icmp_gt (tgt := 33) (q := 10) gdX7_unlikeOnes_0.2.2.2.2.2.2.1 (by decide) rfl (fun h_7 => ?_) (fun h_7 => ?_)
    · refine aw_iload_n (q := 34) gdX7_unlikeOnes_25.2.2.2.2.1 rfl 1 rfl ?_
      exact aw_ireturn (w := [(a, .inl (0, 21, .inl f))]) [0] gdX7_unlikeOnes_25.2.2.2.2.2 rfl rfl rfl rfl (PN.mk (fun _ => 0) rfl rfl)
    · refine aw_iload_n (q := 11) gdX7_unlikeOnes_0.2.2.2.2.2.2.2 rfl 1 rfl ?_
      refine aw_aload_n (q := 12) gdX7_unlikeOnes_11.1 rfl 0 rfl ?_
      refine aw_iload_n (q := 13) gdX7_unlikeOnes_11.2.1 rfl 2 rfl ?_
      refine aw_iald (q := 14) gdX7_unlikeOnes_11.2.2.1 rfl 0 rfl ?_
      refine aw_if_le (tgt := 21) (q := 17) gdX7_unlikeOnes_11.2.2.2.1 (by decide) rfl (fun h_14 => ?_) (fun h_14 => ?_)
      · refine aw_iconst (q := 22) (v := 0) gdX7_unlikeOnes_11.2.2.2.2.2.2.1 rfl (by decide) ?_
        refine aw_locals (lv' := [(0, .ref a), (2, .int l2)]) [0, 2] rfl ?_
        exact tX7_unlikeOnes_22 ih _ _ _
      · refine aw_iconst (q := 18) (v := 1) gdX7_unlikeOnes_11.2.2.2.2.1 rfl (by decide) ?_
        refine aw_goto (tgt := 22) gdX7_unlikeOnes_11.2.2.2.2.2.1 (by decide) ?_
        refine aw_locals (lv' := [(0, .ref a), (2, .int l2)]) [0, 2] rfl ?_
        exact tX7_unlikeOnes_22 ih _ _ _
def fX7_unlikeOnes (N K : Nat) (f : Nat → Int32) : Option (Int32) :=
  fX7_unlikeOnes_4 N K f  N (0 : Int32) (1 : Int32)
set_option maxHeartbeats 4000000 in
set_option maxRecDepth 100000 in
theorem ok_X7_unlikeOnes {N K : Nat} {a : Nat} {f : Nat → Int32} {xr : Int32} (hE : fX7_unlikeOnes N K f = some xr) : OkM yX7_unlikeOnes (.code yX7_unlikeOnes cX7_unlikeOnes 3 (some .int)) (1) 0 0 [.ref a] [(a, .inl (0, 21, .inl f))] ((PN (U := Int32) (fun zz _ => some (.int zz)) (fun zz ad => [(a, .inl (0, 21, .inl f))])) xr) := by
  refine ok_of (by decide) (Nat.le_of_ble_eq_true rfl) hE ?_
  refine aw_locals (lv' := [(0, .ref a)]) [0] rfl ?_
  refine aw_iconst (q := 1) (v := 0) gdX7_unlikeOnes_0.1 rfl (by decide) ?_
  refine aw_istore_n (q := 2) (lv' := [(1, .int (0 : Int32)), (0, .ref a)]) gdX7_unlikeOnes_0.2.1 rfl (by decide) rfl ?_
  refine aw_iconst (q := 3) (v := 1) gdX7_unlikeOnes_0.2.2.1 rfl (by decide) ?_
  refine aw_istore_n (q := 4) (lv' := [(2, .int (1 : Int32)), (1, .int (0 : Int32)), (0, .ref a)]) gdX7_unlikeOnes_0.2.2.2.1 rfl (by decide) rfl ?_
  refine aw_locals (lv' := [(0, .ref a), (1, .int (0 : Int32)), (2, .int (1 : Int32))]) [2, 1, 0] rfl ?_
  exact tX7_unlikeOnes_4  N _ _
def fX7_isUnlike (N K : Nat) (f : Nat → Int32) : Option (Int32) :=
  ((fX7_parts N K f).bind (fun x1 => ((fX7_unlikeOnes N K f).bind (fun x5 => (if x1 = x5 then (some (1 : Int32)) else (some (0 : Int32)))))))
set_option maxHeartbeats 4000000 in
set_option maxRecDepth 100000 in
theorem ok_X7_isUnlike {N K : Nat} {a : Nat} {f : Nat → Int32} {xr : Int32} (hE : fX7_isUnlike N K f = some xr) : OkM yX7_isUnlike (.code yX7_isUnlike cX7_isUnlike 1 (some .boolean)) (2) 0 0 [.ref a] [(a, .inl (0, 21, .inl f))] ((PN (U := Int32) (fun zz _ => some (.int zz)) (fun zz ad => [(a, .inl (0, 21, .inl f))])) xr) := by
  refine ok_of (by decide) (Nat.le_of_ble_eq_true rfl) hE ?_
  refine aw_locals (lv' := [(0, .ref a)]) [0] rfl ?_
  refine aw_aload_n (q := 1) gdX7_isUnlike_0.1 rfl 0 rfl ?_
  refine aw_call (q := 4) (kc1 := 0) (ks1 := 0) (wc := [(a, .inl (0, 21, .inl f))]) (wr := []) (st1 := fun x1 g1 => [.int x1]) (ws1 := fun x1 g1 => [(a, .inl (0, 21, .inl f))]) (As := [.ref a]) [0] [] (fun _ => runS gdX7_isUnlike_0.2.1 mi_X7_parts st_X7_parts ml_X7_72 (by omega) rfl (Nat.le_of_ble_eq_true rfl) rfl) (fun x9 h9 => ok_X7_parts h9) rfl rfl rfl rfl rfl (by decide +kernel) (by omega) (by omega) (fun _ _ => rfl) (fun _ _ => rfl) (fun x1 g1 => ?_)
  refine aw_aload_n (q := 5) gdX7_isUnlike_0.2.2.1 rfl 0 rfl ?_
  refine aw_call (q := 8) (kc1 := 0) (ks1 := 0) (wc := [(a, .inl (0, 21, .inl f))]) (wr := []) (st1 := fun x5 g5 => [.int x5, .int x1]) (ws1 := fun x5 g5 => [(a, .inl (0, 21, .inl f))]) (As := [.ref a]) [0] [] (fun _ => runS gdX7_isUnlike_0.2.2.2.1 mi_X7_unlikeOnes st_X7_unlikeOnes ml_X7_76 (by omega) rfl (Nat.le_of_ble_eq_true rfl) rfl) (fun x9 h9 => ok_X7_unlikeOnes h9) rfl rfl rfl rfl rfl (by decide +kernel) (by omega) (by omega) (fun _ _ => rfl) (fun _ _ => rfl) (fun x5 g5 => ?_)
  refine aw_icmp_ne (tgt := 15) (q := 11) gdX7_isUnlike_0.2.2.2.2.1 (by decide) rfl (fun h_8 => ?_) (fun h_8 => ?_)
  · refine aw_iconst (q := 16) (v := 0) gdX7_isUnlike_0.2.2.2.2.2.2.2 rfl (by decide) ?_
    exact aw_ireturn (w := [(a, .inl (0, 21, .inl f))]) [0] dX7_isUnlike_16 rfl rfl rfl rfl (PN.mk (fun _ => 0) rfl rfl)
  · refine aw_iconst (q := 12) (v := 1) gdX7_isUnlike_0.2.2.2.2.2.1 rfl (by decide) ?_
    refine aw_goto (tgt := 16) gdX7_isUnlike_0.2.2.2.2.2.2.1 (by decide) ?_
    exact aw_ireturn (w := [(a, .inl (0, 21, .inl f))]) [0] dX7_isUnlike_16 rfl rfl rfl rfl (PN.mk (fun _ => 0) rfl rfl)
def fX7_isOdd_22 (N K : Nat) (f : Nat → Int32) (k_4 : Int32 → Int32 → Option (Int32)) (l2 : Int32) (s0 : Int32) (s1 : Int32) : Option (Int32) :=
  k_4 (s1 &&& s0) (l2 + (2 : Int32))
set_option maxHeartbeats 4000000 in
set_option maxRecDepth 100000 in
theorem tX7_isOdd_22 {N K : Nat} {a : Nat} {f : Nat → Int32} {k_4 : Int32 → Int32 → Option (Int32)} (hk_4 : ∀ (l1 : Int32) (l2 : Int32), AW RX7 "isOdd" cX7_isOdd 3 (some .boolean) [] (fun _ _ => True) (0) (PN (U := Int32) (fun zz _ => some (.int zz)) (fun zz ad => [(a, .inl (0, 21, .inl f))])) 0 0 (k_4 l1 l2) 4 [(0, .ref a), (1, .int l1), (2, .int l2)] [] [(a, .inl (0, 21, .inl f))]) : ∀ (l2 : Int32) (s0 : Int32) (s1 : Int32), AW RX7 "isOdd" cX7_isOdd 3 (some .boolean) [] (fun _ _ => True) (0) (PN (U := Int32) (fun zz _ => some (.int zz)) (fun zz ad => [(a, .inl (0, 21, .inl f))])) 0 0 (fX7_isOdd_22 N K f k_4 l2 s0 s1) 22 [(0, .ref a), (2, .int l2)] [.int s0, .int s1] [(a, .inl (0, 21, .inl f))] := by
  intro l2 s0 s1
  refine aw_iand (q := 23) gdX7_isOdd_11.2.2.2.2.2.2.2 rfl ?_
  refine aw_istore_n (q := 24) (lv' := [(1, .int (s1 &&& s0)), (0, .ref a), (2, .int l2)]) gdX7_isOdd_23.1 rfl (by decide) rfl ?_
  refine aw_iinc (q := 27) (v := (l2 + (2 : Int32))) (lv' := [(2, .int (l2 + (2 : Int32))), (1, .int (s1 &&& s0)), (0, .ref a)]) gdX7_isOdd_23.2.1 rfl 2 rfl rfl (by decide) rfl ?_
  refine aw_goto (tgt := 4) gdX7_isOdd_23.2.2.1 (by decide) ?_
  refine aw_locals (lv' := [(0, .ref a), (1, .int (s1 &&& s0)), (2, .int (l2 + (2 : Int32)))]) [2, 1, 0] rfl ?_
  exact hk_4 _ _
def fX7_isOdd_4 (N K : Nat) (f : Nat → Int32) : Nat → Int32 → Int32 → Option (Int32)
  | 0, _, _ => none
  | fu + 1, l1, l2 =>
    (if (20 : Int32) < l2 then (if l1 = 0 ∨ l1 = 1 then (some l1) else none) else (if l2 < 0 ∨ 21 ≤ l2.toNatClampNeg then none else (if (f l2.toNatClampNeg) = 0 then fX7_isOdd_22 N K f (fX7_isOdd_4 N K f  fu) l2 (1 : Int32) l1 else fX7_isOdd_22 N K f (fX7_isOdd_4 N K f  fu) l2 (0 : Int32) l1)))
set_option maxHeartbeats 4000000 in
set_option maxRecDepth 100000 in
theorem tX7_isOdd_4 {N K : Nat} {a : Nat} {f : Nat → Int32} : ∀ (fu : Nat) (l1 : Int32) (l2 : Int32), AW RX7 "isOdd" cX7_isOdd 3 (some .boolean) [] (fun _ _ => True) (0) (PN (U := Int32) (fun zz _ => some (.int zz)) (fun zz ad => [(a, .inl (0, 21, .inl f))])) 0 0 (fX7_isOdd_4 N K f  fu l1 l2) 4 [(0, .ref a), (1, .int l1), (2, .int l2)] [] [(a, .inl (0, 21, .inl f))] := by
  intro fu
  induction fu with
  | zero => intro l1 l2; exact aw_none
  | succ fu ih =>
    intro l1 l2
    refine aw_iload_n (q := 5) gdX7_isOdd_0.2.2.2.2.1 rfl 2 rfl ?_
    refine aw_bipush (q := 7) (v := 20) gdX7_isOdd_0.2.2.2.2.2.1 rfl (by decide) ?_
    refine aw_icmp_gt (tgt := 30) (q := 10) gdX7_isOdd_0.2.2.2.2.2.2.1 (by decide) rfl (fun h_7 => ?_) (fun h_7 => ?_)
    · refine aw_iload_n (q := 31) gdX7_isOdd_23.2.2.2.1 rfl 1 rfl ?_
      exact aw_zreturn (w := [(a, .inl (0, 21, .inl f))]) [0] gdX7_isOdd_23.2.2.2.2 rfl rfl rfl (PN.mk (fun _ => 0) rfl rfl)
    · refine aw_iload_n (q := 11) gdX7_isOdd_0.2.2.2.2.2.2.2 rfl 1 rfl ?_
      refine aw_aload_n (q := 12) gdX7_isOdd_11.1 rfl 0 rfl ?_
      refine aw_iload_n (q := 13) gdX7_isOdd_11.2.1 rfl 2 rfl ?_
      refine aw_iald (q := 14) gdX7_isOdd_11.2.2.1 rfl 0 rfl ?_
      refine aw_if_ne (tgt := 21) (q := 17) gdX7_isOdd_11.2.2.2.1 (by decide) rfl (fun h_14 => ?_) (fun h_14 => ?_)
      · refine aw_iconst (q := 22) (v := 0) gdX7_isOdd_11.2.2.2.2.2.2.1 rfl (by decide) ?_
        refine aw_locals (lv' := [(0, .ref a), (2, .int l2)]) [0, 2] rfl ?_
        exact tX7_isOdd_22 ih _ _ _
      · refine aw_iconst (q := 18) (v := 1) gdX7_isOdd_11.2.2.2.2.1 rfl (by decide) ?_
        refine aw_goto (tgt := 22) gdX7_isOdd_11.2.2.2.2.2.1 (by decide) ?_
        refine aw_locals (lv' := [(0, .ref a), (2, .int l2)]) [0, 2] rfl ?_
        exact tX7_isOdd_22 ih _ _ _
def fX7_isOdd (N K : Nat) (f : Nat → Int32) : Option (Int32) :=
  fX7_isOdd_4 N K f  N (1 : Int32) (2 : Int32)
set_option maxHeartbeats 4000000 in
set_option maxRecDepth 100000 in
theorem ok_X7_isOdd {N K : Nat} {a : Nat} {f : Nat → Int32} {xr : Int32} (hE : fX7_isOdd N K f = some xr) : OkM yX7_isOdd (.code yX7_isOdd cX7_isOdd 3 (some .boolean)) (0) 0 0 [.ref a] [(a, .inl (0, 21, .inl f))] ((PN (U := Int32) (fun zz _ => some (.int zz)) (fun zz ad => [(a, .inl (0, 21, .inl f))])) xr) := by
  refine ok_of (by decide) (Nat.le_of_ble_eq_true rfl) hE ?_
  refine aw_locals (lv' := [(0, .ref a)]) [0] rfl ?_
  refine aw_iconst (q := 1) (v := 1) gdX7_isOdd_0.1 rfl (by decide) ?_
  refine aw_istore_n (q := 2) (lv' := [(1, .int (1 : Int32)), (0, .ref a)]) gdX7_isOdd_0.2.1 rfl (by decide) rfl ?_
  refine aw_iconst (q := 3) (v := 2) gdX7_isOdd_0.2.2.1 rfl (by decide) ?_
  refine aw_istore_n (q := 4) (lv' := [(2, .int (2 : Int32)), (1, .int (1 : Int32)), (0, .ref a)]) gdX7_isOdd_0.2.2.2.1 rfl (by decide) rfl ?_
  refine aw_locals (lv' := [(0, .ref a), (1, .int (1 : Int32)), (2, .int (2 : Int32))]) [2, 1, 0] rfl ?_
  exact tX7_isOdd_4  N _ _
def fX7_greatest_3 (N K : Nat) (f : Nat → Int32) : Nat → Int32 → Option (Int32)
  | 0, _ => none
  | fu + 1, l1 =>
    (if l1 ≤ 0 then (some l1) else (if l1 < 0 ∨ 21 ≤ l1.toNatClampNeg then none else (if (f l1.toNatClampNeg) = 0 then fX7_greatest_3 N K f  fu (l1 + (-1 : Int32)) else (some l1))))
set_option maxHeartbeats 4000000 in
set_option maxRecDepth 100000 in
theorem tX7_greatest_3 {N K : Nat} {a : Nat} {f : Nat → Int32} : ∀ (fu : Nat) (l1 : Int32), AW RX7 "greatest" cX7_greatest 2 (some .int) [] (fun _ _ => True) (0) (PN (U := Int32) (fun zz _ => some (.int zz)) (fun zz ad => [(a, .inl (0, 21, .inl f))])) 0 0 (fX7_greatest_3 N K f  fu l1) 3 [(0, .ref a), (1, .int l1)] [] [(a, .inl (0, 21, .inl f))] := by
  intro fu
  induction fu with
  | zero => intro l1; exact aw_none
  | succ fu ih =>
    intro l1
    refine aw_iload_n (q := 4) gdX7_greatest_0.2.2.1 rfl 1 rfl ?_
    refine aw_if_le (tgt := 19) (q := 7) gdX7_greatest_0.2.2.2.1 (by decide) rfl (fun h_4 => ?_) (fun h_4 => ?_)
    · refine aw_iload_n (q := 20) gdX7_greatest_13.2.2.1 rfl 1 rfl ?_
      exact aw_ireturn (w := [(a, .inl (0, 21, .inl f))]) [0] gdX7_greatest_13.2.2.2 rfl rfl rfl rfl (PN.mk (fun _ => 0) rfl rfl)
    · refine aw_aload_n (q := 8) gdX7_greatest_0.2.2.2.2.1 rfl 0 rfl ?_
      refine aw_iload_n (q := 9) gdX7_greatest_0.2.2.2.2.2.1 rfl 1 rfl ?_
      refine aw_iald (q := 10) gdX7_greatest_0.2.2.2.2.2.2.1 rfl 0 rfl ?_
      refine aw_if_ne (tgt := 19) (q := 13) gdX7_greatest_0.2.2.2.2.2.2.2 (by decide) rfl (fun h_10 => ?_) (fun h_10 => ?_)
      · refine aw_iload_n (q := 20) gdX7_greatest_13.2.2.1 rfl 1 rfl ?_
        exact aw_ireturn (w := [(a, .inl (0, 21, .inl f))]) [0] gdX7_greatest_13.2.2.2 rfl rfl rfl rfl (PN.mk (fun _ => 0) rfl rfl)
      · refine aw_iinc (q := 16) (v := (l1 + (-1 : Int32))) (lv' := [(1, .int (l1 + (-1 : Int32))), (0, .ref a)]) gdX7_greatest_13.1 rfl 1 rfl rfl (by decide) rfl ?_
        refine aw_goto (tgt := 3) gdX7_greatest_13.2.1 (by decide) ?_
        refine aw_locals (lv' := [(0, .ref a), (1, .int (l1 + (-1 : Int32)))]) [1, 0] rfl ?_
        exact ih _
def fX7_greatest (N K : Nat) (f : Nat → Int32) : Option (Int32) :=
  fX7_greatest_3 N K f  N (20 : Int32)
set_option maxHeartbeats 4000000 in
set_option maxRecDepth 100000 in
theorem ok_X7_greatest {N K : Nat} {a : Nat} {f : Nat → Int32} {xr : Int32} (hE : fX7_greatest N K f = some xr) : OkM yX7_greatest (.code yX7_greatest cX7_greatest 2 (some .int)) (0) 0 0 [.ref a] [(a, .inl (0, 21, .inl f))] ((PN (U := Int32) (fun zz _ => some (.int zz)) (fun zz ad => [(a, .inl (0, 21, .inl f))])) xr) := by
  refine ok_of (by decide) (Nat.le_of_ble_eq_true rfl) hE ?_
  refine aw_locals (lv' := [(0, .ref a)]) [0] rfl ?_
  refine aw_bipush (q := 2) (v := 20) gdX7_greatest_0.1 rfl (by decide) ?_
  refine aw_istore_n (q := 3) (lv' := [(1, .int (20 : Int32)), (0, .ref a)]) gdX7_greatest_0.2.1 rfl (by decide) rfl ?_
  refine aw_locals (lv' := [(0, .ref a), (1, .int (20 : Int32))]) [1, 0] rfl ?_
  exact tX7_greatest_3  N _
def fX7_partAt_5 (N K : Nat) (f : Nat → Int32) (p0 : Int32) : Nat → Int32 → Int32 → Option (Int32)
  | 0, _, _ => none
  | fu + 1, l2, l3 =>
    (if l3 ≤ 0 then (some (0 : Int32)) else (if l3 < 0 ∨ 21 ≤ l3.toNatClampNeg then none else (if (l2 + (f l3.toNatClampNeg)) < p0 then fX7_partAt_5 N K f p0  fu (l2 + (f l3.toNatClampNeg)) (l3 + (-1 : Int32)) else (some l3))))
set_option maxHeartbeats 4000000 in
set_option maxRecDepth 100000 in
theorem tX7_partAt_5 {N K : Nat} {a : Nat} {f : Nat → Int32} {p0 : Int32} : ∀ (fu : Nat) (l2 : Int32) (l3 : Int32), AW RX7 "partAt" cX7_partAt 4 (some .int) [] (fun _ _ => True) (0) (PN (U := Int32) (fun zz _ => some (.int zz)) (fun zz ad => [(a, .inl (0, 21, .inl f))])) 0 0 (fX7_partAt_5 N K f p0  fu l2 l3) 5 [(0, .ref a), (1, .int p0), (2, .int l2), (3, .int l3)] [] [(a, .inl (0, 21, .inl f))] := by
  intro fu
  induction fu with
  | zero => intro l2 l3; exact aw_none
  | succ fu ih =>
    intro l2 l3
    refine aw_iload_n (q := 6) gdX7_partAt_0.2.2.2.2.1 rfl 3 rfl ?_
    refine aw_if_le (tgt := 28) (q := 9) gdX7_partAt_0.2.2.2.2.2.1 (by decide) rfl (fun h_6 => ?_) (fun h_6 => ?_)
    · refine aw_iconst (q := 29) (v := 0) gdX7_partAt_21.2.2.2.1 rfl (by decide) ?_
      exact aw_ireturn (w := [(a, .inl (0, 21, .inl f))]) [0] gdX7_partAt_21.2.2.2.2 rfl rfl rfl rfl (PN.mk (fun _ => 0) rfl rfl)
    · refine aw_iload_n (q := 10) gdX7_partAt_0.2.2.2.2.2.2.1 rfl 2 rfl ?_
      refine aw_aload_n (q := 11) gdX7_partAt_0.2.2.2.2.2.2.2 rfl 0 rfl ?_
      refine aw_iload_n (q := 12) gdX7_partAt_11.1 rfl 3 rfl ?_
      refine aw_iald (q := 13) gdX7_partAt_11.2.1 rfl 0 rfl ?_
      refine aw_iadd (q := 14) gdX7_partAt_11.2.2.1 rfl ?_
      refine aw_istore_n (q := 15) (lv' := [(2, .int (l2 + (f l3.toNatClampNeg))), (0, .ref a), (1, .int p0), (3, .int l3)]) gdX7_partAt_11.2.2.2.1 rfl (by decide) rfl ?_
      refine aw_iload_n (q := 16) gdX7_partAt_11.2.2.2.2.1 rfl 0 rfl ?_
      refine aw_iload_n (q := 17) gdX7_partAt_11.2.2.2.2.2.1 rfl 2 rfl ?_
      refine aw_icmp_lt (tgt := 22) (q := 20) gdX7_partAt_11.2.2.2.2.2.2.1 (by decide) rfl (fun h_17 => ?_) (fun h_17 => ?_)
      · refine aw_iinc (q := 25) (v := (l3 + (-1 : Int32))) (lv' := [(3, .int (l3 + (-1 : Int32))), (2, .int (l2 + (f l3.toNatClampNeg))), (0, .ref a), (1, .int p0)]) gdX7_partAt_21.2.1 rfl 3 rfl rfl (by decide) rfl ?_
        refine aw_goto (tgt := 5) gdX7_partAt_21.2.2.1 (by decide) ?_
        refine aw_locals (lv' := [(0, .ref a), (1, .int p0), (2, .int (l2 + (f l3.toNatClampNeg))), (3, .int (l3 + (-1 : Int32)))]) [2, 3, 1, 0] rfl ?_
        exact ih _ _
      · refine aw_iload_n (q := 21) gdX7_partAt_11.2.2.2.2.2.2.2 rfl 3 rfl ?_
        exact aw_ireturn (w := [(a, .inl (0, 21, .inl f))]) [0] gdX7_partAt_21.1 rfl rfl rfl rfl (PN.mk (fun _ => 0) rfl rfl)
def fX7_partAt (N K : Nat) (f : Nat → Int32) (p0 : Int32) : Option (Int32) :=
  fX7_partAt_5 N K f p0  N (0 : Int32) (20 : Int32)
set_option maxHeartbeats 4000000 in
set_option maxRecDepth 100000 in
theorem ok_X7_partAt {N K : Nat} {a : Nat} {f : Nat → Int32} {p0 : Int32} {xr : Int32} (hE : fX7_partAt N K f p0 = some xr) : OkM yX7_partAt (.code yX7_partAt cX7_partAt 4 (some .int)) (0) 0 0 [.ref a, .int p0] [(a, .inl (0, 21, .inl f))] ((PN (U := Int32) (fun zz _ => some (.int zz)) (fun zz ad => [(a, .inl (0, 21, .inl f))])) xr) := by
  refine ok_of (by decide) (Nat.le_of_ble_eq_true rfl) hE ?_
  refine aw_locals (lv' := [(0, .ref a), (1, .int p0)]) [0, 1] rfl ?_
  refine aw_iconst (q := 1) (v := 0) gdX7_partAt_0.1 rfl (by decide) ?_
  refine aw_istore_n (q := 2) (lv' := [(2, .int (0 : Int32)), (0, .ref a), (1, .int p0)]) gdX7_partAt_0.2.1 rfl (by decide) rfl ?_
  refine aw_bipush (q := 4) (v := 20) gdX7_partAt_0.2.2.1 rfl (by decide) ?_
  refine aw_istore_n (q := 5) (lv' := [(3, .int (20 : Int32)), (2, .int (0 : Int32)), (0, .ref a), (1, .int p0)]) gdX7_partAt_0.2.2.2.1 rfl (by decide) rfl ?_
  refine aw_locals (lv' := [(0, .ref a), (1, .int p0), (2, .int (0 : Int32)), (3, .int (20 : Int32))]) [2, 3, 1, 0] rfl ?_
  exact tX7_partAt_5  N _ _
def fX7_isOwnTurned_50 (N K : Nat) (f : Nat → Int32) (k_22 : Int32 → Int32 → Int32 → Option (Int32)) (l1 : Int32) (l3 : Int32) (s0 : Int32) : Option (Int32) :=
  k_22 l1 s0 (l3 + (-1 : Int32))
set_option maxHeartbeats 4000000 in
set_option maxRecDepth 100000 in
theorem tX7_isOwnTurned_50 {N K : Nat} {a : Nat} {f : Nat → Int32} {k_22 : Int32 → Int32 → Int32 → Option (Int32)} (hk_22 : ∀ (l1 : Int32) (l2 : Int32) (l3 : Int32), AW RX7 "isOwnTurned" cX7_isOwnTurned 4 (some .boolean) [] (fun _ _ => True) (1) (PN (U := Int32) (fun zz _ => some (.int zz)) (fun zz ad => [(a, .inl (0, 21, .inl f))])) 0 0 (k_22 l1 l2 l3) 22 [(0, .ref a), (1, .int l1), (2, .int l2), (3, .int l3)] [] [(a, .inl (0, 21, .inl f))]) : ∀ (l1 : Int32) (l3 : Int32) (s0 : Int32), AW RX7 "isOwnTurned" cX7_isOwnTurned 4 (some .boolean) [] (fun _ _ => True) (1) (PN (U := Int32) (fun zz _ => some (.int zz)) (fun zz ad => [(a, .inl (0, 21, .inl f))])) 0 0 (fX7_isOwnTurned_50 N K f k_22 l1 l3 s0) 50 [(0, .ref a), (1, .int l1), (3, .int l3)] [.int s0] [(a, .inl (0, 21, .inl f))] := by
  intro l1 l3 s0
  refine aw_istore_n (q := 51) (lv' := [(2, .int s0), (0, .ref a), (1, .int l1), (3, .int l3)]) gdX7_isOwnTurned_37.2.2.2.2.2.2.2 rfl (by decide) rfl ?_
  refine aw_iinc (q := 54) (v := (l3 + (-1 : Int32))) (lv' := [(3, .int (l3 + (-1 : Int32))), (2, .int s0), (0, .ref a), (1, .int l1)]) gdX7_isOwnTurned_51.1 rfl 3 rfl rfl (by decide) rfl ?_
  refine aw_goto (tgt := 22) gdX7_isOwnTurned_51.2.1 (by decide) ?_
  refine aw_locals (lv' := [(0, .ref a), (1, .int l1), (2, .int s0), (3, .int (l3 + (-1 : Int32)))]) [2, 3, 1, 0] rfl ?_
  exact hk_22 _ _ _
def fX7_isOwnTurned_22 (N K : Nat) (f : Nat → Int32) : Nat → Int32 → Int32 → Int32 → Option (Int32)
  | 0, _, _, _ => none
  | fu + 1, l1, l2, l3 =>
    (if l3 ≤ 0 then (if l2 = 0 ∨ l2 = 1 then (some l2) else none) else (if l2 = 0 then (if l2 = 0 ∨ l2 = 1 then (some l2) else none) else (if l3 < 0 ∨ 21 ≤ l3.toNatClampNeg then none else ((fX7_partAt N K f l3).bind (fun x38 => (if x38 = (l1 + (f l3.toNatClampNeg)) then fX7_isOwnTurned_50 N K f (fX7_isOwnTurned_22 N K f  fu) (l1 + (f l3.toNatClampNeg)) l3 (1 : Int32) else fX7_isOwnTurned_50 N K f (fX7_isOwnTurned_22 N K f  fu) (l1 + (f l3.toNatClampNeg)) l3 (0 : Int32)))))))
set_option maxHeartbeats 4000000 in
set_option maxRecDepth 100000 in
theorem tX7_isOwnTurned_22 {N K : Nat} {a : Nat} {f : Nat → Int32} : ∀ (fu : Nat) (l1 : Int32) (l2 : Int32) (l3 : Int32), AW RX7 "isOwnTurned" cX7_isOwnTurned 4 (some .boolean) [] (fun _ _ => True) (1) (PN (U := Int32) (fun zz _ => some (.int zz)) (fun zz ad => [(a, .inl (0, 21, .inl f))])) 0 0 (fX7_isOwnTurned_22 N K f  fu l1 l2 l3) 22 [(0, .ref a), (1, .int l1), (2, .int l2), (3, .int l3)] [] [(a, .inl (0, 21, .inl f))] := by
  intro fu
  induction fu with
  | zero => intro l1 l2 l3; exact aw_none
  | succ fu ih =>
    intro l1 l2 l3
    refine aw_iload_n (q := 23) gdX7_isOwnTurned_14.2.2.2.2.2.1 rfl 3 rfl ?_
    refine aw_if_le (tgt := 57) (q := 26) gdX7_isOwnTurned_14.2.2.2.2.2.2.1 (by decide) rfl (fun h_23 => ?_) (fun h_23 => ?_)
    · refine aw_iload_n (q := 58) gdX7_isOwnTurned_51.2.2.1 rfl 2 rfl ?_
      exact aw_zreturn (w := [(a, .inl (0, 21, .inl f))]) [0] gdX7_isOwnTurned_51.2.2.2 rfl rfl rfl (PN.mk (fun _ => 0) rfl rfl)
    · refine aw_iload_n (q := 27) gdX7_isOwnTurned_14.2.2.2.2.2.2.2 rfl 2 rfl ?_
      refine aw_if_eq (tgt := 57) (q := 30) gdX7_isOwnTurned_27.1 (by decide) rfl (fun h_27 => ?_) (fun h_27 => ?_)
      · refine aw_iload_n (q := 58) gdX7_isOwnTurned_51.2.2.1 rfl 2 rfl ?_
        exact aw_zreturn (w := [(a, .inl (0, 21, .inl f))]) [0] gdX7_isOwnTurned_51.2.2.2 rfl rfl rfl (PN.mk (fun _ => 0) rfl rfl)
      · refine aw_iload_n (q := 31) gdX7_isOwnTurned_27.2.1 rfl 1 rfl ?_
        refine aw_aload_n (q := 32) gdX7_isOwnTurned_27.2.2.1 rfl 0 rfl ?_
        refine aw_iload_n (q := 33) gdX7_isOwnTurned_27.2.2.2.1 rfl 3 rfl ?_
        refine aw_iald (q := 34) gdX7_isOwnTurned_27.2.2.2.2.1 rfl 0 rfl ?_
        refine aw_iadd (q := 35) gdX7_isOwnTurned_27.2.2.2.2.2.1 rfl ?_
        refine aw_istore_n (q := 36) (lv' := [(1, .int (l1 + (f l3.toNatClampNeg))), (0, .ref a), (2, .int l2), (3, .int l3)]) gdX7_isOwnTurned_27.2.2.2.2.2.2.1 rfl (by decide) rfl ?_
        refine aw_aload_n (q := 37) gdX7_isOwnTurned_27.2.2.2.2.2.2.2 rfl 1 rfl ?_
        refine aw_iload_n (q := 38) gdX7_isOwnTurned_37.1 rfl 3 rfl ?_
        refine aw_call (q := 41) (kc1 := 0) (ks1 := 0) (wc := [(a, .inl (0, 21, .inl f))]) (wr := []) (st1 := fun x38 g38 => [.int x38]) (ws1 := fun x38 g38 => [(a, .inl (0, 21, .inl f))]) (As := [.ref a, .int l3]) [0] [] (fun _ => runS gdX7_isOwnTurned_37.2.1 mi_X7_partAt st_X7_partAt ml_X7_82 (by omega) rfl (Nat.le_of_ble_eq_true rfl) rfl) (fun x9 h9 => ok_X7_partAt h9) rfl rfl rfl rfl rfl (by decide +kernel) (by omega) (by omega) (fun _ _ => rfl) (fun _ _ => rfl) (fun x38 g38 => ?_)
        refine aw_iload_n (q := 42) gdX7_isOwnTurned_37.2.2.1 rfl 0 rfl ?_
        refine aw_icmp_ne (tgt := 49) (q := 45) gdX7_isOwnTurned_37.2.2.2.1 (by decide) rfl (fun h_42 => ?_) (fun h_42 => ?_)
        · refine aw_iconst (q := 50) (v := 0) gdX7_isOwnTurned_37.2.2.2.2.2.2.1 rfl (by decide) ?_
          refine aw_locals (lv' := [(0, .ref a), (1, .int (l1 + (f l3.toNatClampNeg))), (3, .int l3)]) [1, 0, 3] rfl ?_
          exact tX7_isOwnTurned_50 ih _ _ _
        · refine aw_iconst (q := 46) (v := 1) gdX7_isOwnTurned_37.2.2.2.2.1 rfl (by decide) ?_
          refine aw_goto (tgt := 50) gdX7_isOwnTurned_37.2.2.2.2.2.1 (by decide) ?_
          refine aw_locals (lv' := [(0, .ref a), (1, .int (l1 + (f l3.toNatClampNeg))), (3, .int l3)]) [1, 0, 3] rfl ?_
          exact tX7_isOwnTurned_50 ih _ _ _
def fX7_isOwnTurned_18 (N K : Nat) (f : Nat → Int32) (s0 : Int32) : Option (Int32) :=
  fX7_isOwnTurned_22 N K f  N (0 : Int32) s0 (20 : Int32)
set_option maxHeartbeats 4000000 in
set_option maxRecDepth 100000 in
theorem tX7_isOwnTurned_18 {N K : Nat} {a : Nat} {f : Nat → Int32} : ∀ (s0 : Int32), AW RX7 "isOwnTurned" cX7_isOwnTurned 4 (some .boolean) [] (fun _ _ => True) (1) (PN (U := Int32) (fun zz _ => some (.int zz)) (fun zz ad => [(a, .inl (0, 21, .inl f))])) 0 0 (fX7_isOwnTurned_18 N K f  s0) 18 [(0, .ref a), (1, .int (0 : Int32))] [.int s0] [(a, .inl (0, 21, .inl f))] := by
  intro s0
  refine aw_istore_n (q := 19) (lv' := [(2, .int s0), (0, .ref a), (1, .int (0 : Int32))]) gdX7_isOwnTurned_14.2.2.1 rfl (by decide) rfl ?_
  refine aw_bipush (q := 21) (v := 20) gdX7_isOwnTurned_14.2.2.2.1 rfl (by decide) ?_
  refine aw_istore_n (q := 22) (lv' := [(3, .int (20 : Int32)), (2, .int s0), (0, .ref a), (1, .int (0 : Int32))]) gdX7_isOwnTurned_14.2.2.2.2.1 rfl (by decide) rfl ?_
  refine aw_locals (lv' := [(0, .ref a), (1, .int (0 : Int32)), (2, .int s0), (3, .int (20 : Int32))]) [2, 3, 1, 0] rfl ?_
  exact tX7_isOwnTurned_22  N _ _ _
def fX7_isOwnTurned (N K : Nat) (f : Nat → Int32) : Option (Int32) :=
  ((fX7_parts N K f).bind (fun x3 => ((fX7_greatest N K f).bind (fun x7 => (if x3 = x7 then fX7_isOwnTurned_18 N K f  (1 : Int32) else fX7_isOwnTurned_18 N K f  (0 : Int32))))))
set_option maxHeartbeats 4000000 in
set_option maxRecDepth 100000 in
theorem ok_X7_isOwnTurned {N K : Nat} {a : Nat} {f : Nat → Int32} {xr : Int32} (hE : fX7_isOwnTurned N K f = some xr) : OkM yX7_isOwnTurned (.code yX7_isOwnTurned cX7_isOwnTurned 4 (some .boolean)) (1) 0 0 [.ref a] [(a, .inl (0, 21, .inl f))] ((PN (U := Int32) (fun zz _ => some (.int zz)) (fun zz ad => [(a, .inl (0, 21, .inl f))])) xr) := by
  refine ok_of (by decide) (Nat.le_of_ble_eq_true rfl) hE ?_
  refine aw_locals (lv' := [(0, .ref a)]) [0] rfl ?_
  refine aw_iconst (q := 1) (v := 0) gdX7_isOwnTurned_0.1 rfl (by decide) ?_
  refine aw_istore_n (q := 2) (lv' := [(1, .int (0 : Int32)), (0, .ref a)]) gdX7_isOwnTurned_0.2.1 rfl (by decide) rfl ?_
  refine aw_aload_n (q := 3) gdX7_isOwnTurned_0.2.2.1 rfl 1 rfl ?_
  refine aw_call (q := 6) (kc1 := 0) (ks1 := 0) (wc := [(a, .inl (0, 21, .inl f))]) (wr := []) (st1 := fun x3 g3 => [.int x3]) (ws1 := fun x3 g3 => [(a, .inl (0, 21, .inl f))]) (As := [.ref a]) [0] [] (fun _ => runS gdX7_isOwnTurned_0.2.2.2.1 mi_X7_parts st_X7_parts ml_X7_72 (by omega) rfl (Nat.le_of_ble_eq_true rfl) rfl) (fun x9 h9 => ok_X7_parts h9) rfl rfl rfl rfl rfl (by decide +kernel) (by omega) (by omega) (fun _ _ => rfl) (fun _ _ => rfl) (fun x3 g3 => ?_)
  refine aw_aload_n (q := 7) gdX7_isOwnTurned_0.2.2.2.2.1 rfl 1 rfl ?_
  refine aw_call (q := 10) (kc1 := 0) (ks1 := 0) (wc := [(a, .inl (0, 21, .inl f))]) (wr := []) (st1 := fun x7 g7 => [.int x7, .int x3]) (ws1 := fun x7 g7 => [(a, .inl (0, 21, .inl f))]) (As := [.ref a]) [0] [] (fun _ => runS gdX7_isOwnTurned_0.2.2.2.2.2.1 mi_X7_greatest st_X7_greatest ml_X7_79 (by omega) rfl (Nat.le_of_ble_eq_true rfl) rfl) (fun x9 h9 => ok_X7_greatest h9) rfl rfl rfl rfl rfl (by decide +kernel) (by omega) (by omega) (fun _ _ => rfl) (fun _ _ => rfl) (fun x7 g7 => ?_)
  refine aw_icmp_ne (tgt := 17) (q := 13) gdX7_isOwnTurned_0.2.2.2.2.2.2.1 (by decide) rfl (fun h_10 => ?_) (fun h_10 => ?_)
  · refine aw_iconst (q := 18) (v := 0) gdX7_isOwnTurned_14.2.1 rfl (by decide) ?_
    refine aw_locals (lv' := [(0, .ref a), (1, .int (0 : Int32))]) [1, 0] rfl ?_
    exact tX7_isOwnTurned_18  _
  · refine aw_iconst (q := 14) (v := 1) gdX7_isOwnTurned_0.2.2.2.2.2.2.2 rfl (by decide) ?_
    refine aw_goto (tgt := 18) gdX7_isOwnTurned_14.1 (by decide) ?_
    refine aw_locals (lv' := [(0, .ref a), (1, .int (0 : Int32))]) [1, 0] rfl ?_
    exact tX7_isOwnTurned_18  _
def fX7_isOfKind (N K : Nat) (f : Nat → Int32) (p0 : Int32) (p1 : Int32) : Option (Int32) :=
  (if p0 = (0 : Int32) then ((fX7_greatest N K f).bind (fun x45 => (if p1 < x45 then (some (0 : Int32)) else (some (1 : Int32))))) else (if p0 = (1 : Int32) then ((fX7_parts N K f).bind (fun x59 => (if x59 = p1 then (some (1 : Int32)) else (some (0 : Int32))))) else (if p0 = (2 : Int32) then ((fX7_isUnlike N K f).bind (fun x73 => (if x73 = 0 then (some (0 : Int32)) else ((fX7_greatest N K f).bind (fun x80 => (if p1 < x80 then (some (0 : Int32)) else (some (1 : Int32)))))))) else (if p0 = (3 : Int32) then ((fX7_isOdd N K f).bind (fun x94 => (if x94 = 0 then (some (0 : Int32)) else ((fX7_greatest N K f).bind (fun x101 => (if p1 < x101 then (some (0 : Int32)) else (some (1 : Int32)))))))) else (if p0 = (4 : Int32) then ((fX7_isOdd N K f).bind (fun x115 => (if x115 = 0 then (some (0 : Int32)) else ((fX7_isUnlike N K f).bind (fun x122 => (if x122 = 0 then (some (0 : Int32)) else ((fX7_greatest N K f).bind (fun x129 => (if p1 < x129 then (some (0 : Int32)) else (some (1 : Int32))))))))))) else (if p0 = (5 : Int32) then ((fX7_isUnlike N K f).bind (fun x143 => (if x143 = 0 then (some (0 : Int32)) else ((fX7_parts N K f).bind (fun x150 => (if x150 = p1 then (some (1 : Int32)) else (some (0 : Int32)))))))) else (if p0 = (6 : Int32) then ((fX7_parts N K f).bind (fun x164 => (if p1 < x164 then (some (0 : Int32)) else (some (1 : Int32))))) else ((fX7_greatest N K f).bind (fun x178 => (if p1 < x178 then (some (0 : Int32)) else ((fX7_isOwnTurned N K f).bind (fun x186 => (if x186 = 0 then (some (0 : Int32)) else (some (1 : Int32)))))))))))))))
set_option maxHeartbeats 4000000 in
set_option maxRecDepth 100000 in
theorem ok_X7_isOfKind {N K : Nat} {a : Nat} {f : Nat → Int32} {p0 : Int32} {p1 : Int32} {xr : Int32} (hE : fX7_isOfKind N K f p0 p1 = some xr) : OkM yX7_isOfKind (.code yX7_isOfKind cX7_isOfKind 3 (some .boolean)) (3) 0 0 [.ref a, .int p0, .int p1] [(a, .inl (0, 21, .inl f))] ((PN (U := Int32) (fun zz _ => some (.int zz)) (fun zz ad => [(a, .inl (0, 21, .inl f))])) xr) := by
  refine ok_of (by decide) (Nat.le_of_ble_eq_true rfl) hE ?_
  refine aw_locals (lv' := [(0, .ref a), (1, .int p0), (2, .int p1)]) [0, 1, 2] rfl ?_
  refine aw_iload_n (q := 1) gdX7_isOfKind_0.1 rfl 1 rfl ?_
  refine aw_tsw (v := 0) (off := 43) (tgt := 44) gdX7_isOfKind_0.2.1 (by decide) (by decide) (by decide) (by decide) (fun hs_1_0 => ?_) (fun hs_1_0 => ?_)
  · refine aw_aload_n (q := 45) gdX7_isOfKind_0.2.2.1 rfl 0 rfl ?_
    refine aw_call (q := 48) (kc1 := 0) (ks1 := 0) (wc := [(a, .inl (0, 21, .inl f))]) (wr := []) (st1 := fun x45 g45 => [.int x45]) (ws1 := fun x45 g45 => [(a, .inl (0, 21, .inl f))]) (As := [.ref a]) [0] [] (fun _ => runS gdX7_isOfKind_0.2.2.2.1 mi_X7_greatest st_X7_greatest ml_X7_79 (by omega) rfl (Nat.le_of_ble_eq_true rfl) rfl) (fun x9 h9 => ok_X7_greatest h9) rfl rfl rfl rfl rfl (by decide +kernel) (by omega) (by omega) (fun _ _ => rfl) (fun _ _ => rfl) (fun x45 g45 => ?_)
    refine aw_iload_n (q := 49) gdX7_isOfKind_0.2.2.2.2.1 rfl 2 rfl ?_
    refine aw_icmp_gt (tgt := 56) (q := 52) gdX7_isOfKind_0.2.2.2.2.2.1 (by decide) rfl (fun h_49 => ?_) (fun h_49 => ?_)
    · refine aw_iconst (q := 57) (v := 0) gdX7_isOfKind_56.1 rfl (by decide) ?_
      exact aw_ireturn (w := [(a, .inl (0, 21, .inl f))]) [0] gdX7_isOfKind_56.2.1 rfl rfl rfl rfl (PN.mk (fun _ => 0) rfl rfl)
    · refine aw_iconst (q := 53) (v := 1) gdX7_isOfKind_0.2.2.2.2.2.2.1 rfl (by decide) ?_
      refine aw_goto (tgt := 57) gdX7_isOfKind_0.2.2.2.2.2.2.2 (by decide) ?_
      exact aw_ireturn (w := [(a, .inl (0, 21, .inl f))]) [0] gdX7_isOfKind_56.2.1 rfl rfl rfl rfl (PN.mk (fun _ => 0) rfl rfl)
  · refine aw_tsw (v := 1) (off := 57) (tgt := 58) gdX7_isOfKind_0.2.1 (by decide) (by decide) (by decide) (by decide) (fun hs_1_1 => ?_) (fun hs_1_1 => ?_)
    · refine aw_aload_n (q := 59) gdX7_isOfKind_56.2.2.1 rfl 0 rfl ?_
      refine aw_call (q := 62) (kc1 := 0) (ks1 := 0) (wc := [(a, .inl (0, 21, .inl f))]) (wr := []) (st1 := fun x59 g59 => [.int x59]) (ws1 := fun x59 g59 => [(a, .inl (0, 21, .inl f))]) (As := [.ref a]) [0] [] (fun _ => runS gdX7_isOfKind_56.2.2.2.1 mi_X7_parts st_X7_parts ml_X7_72 (by omega) rfl (Nat.le_of_ble_eq_true rfl) rfl) (fun x9 h9 => ok_X7_parts h9) rfl rfl rfl rfl rfl (by decide +kernel) (by omega) (by omega) (fun _ _ => rfl) (fun _ _ => rfl) (fun x59 g59 => ?_)
      refine aw_iload_n (q := 63) gdX7_isOfKind_56.2.2.2.2.1 rfl 2 rfl ?_
      refine aw_icmp_ne (tgt := 70) (q := 66) gdX7_isOfKind_56.2.2.2.2.2.1 (by decide) rfl (fun h_63 => ?_) (fun h_63 => ?_)
      · refine aw_iconst (q := 71) (v := 0) gdX7_isOfKind_70.1 rfl (by decide) ?_
        exact aw_ireturn (w := [(a, .inl (0, 21, .inl f))]) [0] gdX7_isOfKind_70.2.1 rfl rfl rfl rfl (PN.mk (fun _ => 0) rfl rfl)
      · refine aw_iconst (q := 67) (v := 1) gdX7_isOfKind_56.2.2.2.2.2.2.1 rfl (by decide) ?_
        refine aw_goto (tgt := 71) gdX7_isOfKind_56.2.2.2.2.2.2.2 (by decide) ?_
        exact aw_ireturn (w := [(a, .inl (0, 21, .inl f))]) [0] gdX7_isOfKind_70.2.1 rfl rfl rfl rfl (PN.mk (fun _ => 0) rfl rfl)
    · refine aw_tsw (v := 2) (off := 71) (tgt := 72) gdX7_isOfKind_0.2.1 (by decide) (by decide) (by decide) (by decide) (fun hs_1_2 => ?_) (fun hs_1_2 => ?_)
      · refine aw_aload_n (q := 73) gdX7_isOfKind_70.2.2.1 rfl 0 rfl ?_
        refine aw_call (q := 76) (kc1 := 0) (ks1 := 0) (wc := [(a, .inl (0, 21, .inl f))]) (wr := []) (st1 := fun x73 g73 => [.int x73]) (ws1 := fun x73 g73 => [(a, .inl (0, 21, .inl f))]) (As := [.ref a]) [0] [] (fun _ => runS gdX7_isOfKind_70.2.2.2.1 mi_X7_isUnlike st_X7_isUnlike ml_X7_86 (by omega) rfl (Nat.le_of_ble_eq_true rfl) rfl) (fun x9 h9 => ok_X7_isUnlike h9) rfl rfl rfl rfl rfl (by decide +kernel) (by omega) (by omega) (fun _ _ => rfl) (fun _ _ => rfl) (fun x73 g73 => ?_)
        refine aw_if_eq (tgt := 91) (q := 79) gdX7_isOfKind_70.2.2.2.2.1 (by decide) rfl (fun h_76 => ?_) (fun h_76 => ?_)
        · refine aw_iconst (q := 92) (v := 0) gdX7_isOfKind_84.2.2.2.1 rfl (by decide) ?_
          exact aw_ireturn (w := [(a, .inl (0, 21, .inl f))]) [0] gdX7_isOfKind_84.2.2.2.2.1 rfl rfl rfl rfl (PN.mk (fun _ => 0) rfl rfl)
        · refine aw_aload_n (q := 80) gdX7_isOfKind_70.2.2.2.2.2.1 rfl 0 rfl ?_
          refine aw_call (q := 83) (kc1 := 0) (ks1 := 0) (wc := [(a, .inl (0, 21, .inl f))]) (wr := []) (st1 := fun x80 g80 => [.int x80]) (ws1 := fun x80 g80 => [(a, .inl (0, 21, .inl f))]) (As := [.ref a]) [0] [] (fun _ => runS gdX7_isOfKind_70.2.2.2.2.2.2.1 mi_X7_greatest st_X7_greatest ml_X7_79 (by omega) rfl (Nat.le_of_ble_eq_true rfl) rfl) (fun x9 h9 => ok_X7_greatest h9) rfl rfl rfl rfl rfl (by decide +kernel) (by omega) (by omega) (fun _ _ => rfl) (fun _ _ => rfl) (fun x80 g80 => ?_)
          refine aw_iload_n (q := 84) gdX7_isOfKind_70.2.2.2.2.2.2.2 rfl 2 rfl ?_
          refine aw_icmp_gt (tgt := 91) (q := 87) gdX7_isOfKind_84.1 (by decide) rfl (fun h_84 => ?_) (fun h_84 => ?_)
          · refine aw_iconst (q := 92) (v := 0) gdX7_isOfKind_84.2.2.2.1 rfl (by decide) ?_
            exact aw_ireturn (w := [(a, .inl (0, 21, .inl f))]) [0] gdX7_isOfKind_84.2.2.2.2.1 rfl rfl rfl rfl (PN.mk (fun _ => 0) rfl rfl)
          · refine aw_iconst (q := 88) (v := 1) gdX7_isOfKind_84.2.1 rfl (by decide) ?_
            refine aw_goto (tgt := 92) gdX7_isOfKind_84.2.2.1 (by decide) ?_
            exact aw_ireturn (w := [(a, .inl (0, 21, .inl f))]) [0] gdX7_isOfKind_84.2.2.2.2.1 rfl rfl rfl rfl (PN.mk (fun _ => 0) rfl rfl)
      · refine aw_tsw (v := 3) (off := 92) (tgt := 93) gdX7_isOfKind_0.2.1 (by decide) (by decide) (by decide) (by decide) (fun hs_1_3 => ?_) (fun hs_1_3 => ?_)
        · refine aw_aload_n (q := 94) gdX7_isOfKind_84.2.2.2.2.2.1 rfl 0 rfl ?_
          refine aw_call (q := 97) (kc1 := 0) (ks1 := 0) (wc := [(a, .inl (0, 21, .inl f))]) (wr := []) (st1 := fun x94 g94 => [.int x94]) (ws1 := fun x94 g94 => [(a, .inl (0, 21, .inl f))]) (As := [.ref a]) [0] [] (fun _ => runS gdX7_isOfKind_84.2.2.2.2.2.2.1 mi_X7_isOdd st_X7_isOdd ml_X7_90 (by omega) rfl (Nat.le_of_ble_eq_true rfl) rfl) (fun x9 h9 => ok_X7_isOdd h9) rfl rfl rfl rfl rfl (by decide +kernel) (by omega) (by omega) (fun _ _ => rfl) (fun _ _ => rfl) (fun x94 g94 => ?_)
          refine aw_if_eq (tgt := 112) (q := 100) gdX7_isOfKind_84.2.2.2.2.2.2.2 (by decide) rfl (fun h_97 => ?_) (fun h_97 => ?_)
          · refine aw_iconst (q := 113) (v := 0) gdX7_isOfKind_100.2.2.2.2.2.2.1 rfl (by decide) ?_
            exact aw_ireturn (w := [(a, .inl (0, 21, .inl f))]) [0] gdX7_isOfKind_100.2.2.2.2.2.2.2 rfl rfl rfl rfl (PN.mk (fun _ => 0) rfl rfl)
          · refine aw_aload_n (q := 101) gdX7_isOfKind_100.1 rfl 0 rfl ?_
            refine aw_call (q := 104) (kc1 := 0) (ks1 := 0) (wc := [(a, .inl (0, 21, .inl f))]) (wr := []) (st1 := fun x101 g101 => [.int x101]) (ws1 := fun x101 g101 => [(a, .inl (0, 21, .inl f))]) (As := [.ref a]) [0] [] (fun _ => runS gdX7_isOfKind_100.2.1 mi_X7_greatest st_X7_greatest ml_X7_79 (by omega) rfl (Nat.le_of_ble_eq_true rfl) rfl) (fun x9 h9 => ok_X7_greatest h9) rfl rfl rfl rfl rfl (by decide +kernel) (by omega) (by omega) (fun _ _ => rfl) (fun _ _ => rfl) (fun x101 g101 => ?_)
            refine aw_iload_n (q := 105) gdX7_isOfKind_100.2.2.1 rfl 2 rfl ?_
            refine aw_icmp_gt (tgt := 112) (q := 108) gdX7_isOfKind_100.2.2.2.1 (by decide) rfl (fun h_105 => ?_) (fun h_105 => ?_)
            · refine aw_iconst (q := 113) (v := 0) gdX7_isOfKind_100.2.2.2.2.2.2.1 rfl (by decide) ?_
              exact aw_ireturn (w := [(a, .inl (0, 21, .inl f))]) [0] gdX7_isOfKind_100.2.2.2.2.2.2.2 rfl rfl rfl rfl (PN.mk (fun _ => 0) rfl rfl)
            · refine aw_iconst (q := 109) (v := 1) gdX7_isOfKind_100.2.2.2.2.1 rfl (by decide) ?_
              refine aw_goto (tgt := 113) gdX7_isOfKind_100.2.2.2.2.2.1 (by decide) ?_
              exact aw_ireturn (w := [(a, .inl (0, 21, .inl f))]) [0] gdX7_isOfKind_100.2.2.2.2.2.2.2 rfl rfl rfl rfl (PN.mk (fun _ => 0) rfl rfl)
        · refine aw_tsw (v := 4) (off := 113) (tgt := 114) gdX7_isOfKind_0.2.1 (by decide) (by decide) (by decide) (by decide) (fun hs_1_4 => ?_) (fun hs_1_4 => ?_)
          · refine aw_aload_n (q := 115) gdX7_isOfKind_114.1 rfl 0 rfl ?_
            refine aw_call (q := 118) (kc1 := 0) (ks1 := 0) (wc := [(a, .inl (0, 21, .inl f))]) (wr := []) (st1 := fun x115 g115 => [.int x115]) (ws1 := fun x115 g115 => [(a, .inl (0, 21, .inl f))]) (As := [.ref a]) [0] [] (fun _ => runS gdX7_isOfKind_114.2.1 mi_X7_isOdd st_X7_isOdd ml_X7_90 (by omega) rfl (Nat.le_of_ble_eq_true rfl) rfl) (fun x9 h9 => ok_X7_isOdd h9) rfl rfl rfl rfl rfl (by decide +kernel) (by omega) (by omega) (fun _ _ => rfl) (fun _ _ => rfl) (fun x115 g115 => ?_)
            refine aw_if_eq (tgt := 140) (q := 121) gdX7_isOfKind_114.2.2.1 (by decide) rfl (fun h_118 => ?_) (fun h_118 => ?_)
            · refine aw_iconst (q := 141) (v := 0) gdX7_isOfKind_132.2.2.2.2.1 rfl (by decide) ?_
              exact aw_ireturn (w := [(a, .inl (0, 21, .inl f))]) [0] gdX7_isOfKind_132.2.2.2.2.2.1 rfl rfl rfl rfl (PN.mk (fun _ => 0) rfl rfl)
            · refine aw_aload_n (q := 122) gdX7_isOfKind_114.2.2.2.1 rfl 0 rfl ?_
              refine aw_call (q := 125) (kc1 := 0) (ks1 := 0) (wc := [(a, .inl (0, 21, .inl f))]) (wr := []) (st1 := fun x122 g122 => [.int x122]) (ws1 := fun x122 g122 => [(a, .inl (0, 21, .inl f))]) (As := [.ref a]) [0] [] (fun _ => runS gdX7_isOfKind_114.2.2.2.2.1 mi_X7_isUnlike st_X7_isUnlike ml_X7_86 (by omega) rfl (Nat.le_of_ble_eq_true rfl) rfl) (fun x9 h9 => ok_X7_isUnlike h9) rfl rfl rfl rfl rfl (by decide +kernel) (by omega) (by omega) (fun _ _ => rfl) (fun _ _ => rfl) (fun x122 g122 => ?_)
              refine aw_if_eq (tgt := 140) (q := 128) gdX7_isOfKind_114.2.2.2.2.2.1 (by decide) rfl (fun h_125 => ?_) (fun h_125 => ?_)
              · refine aw_iconst (q := 141) (v := 0) gdX7_isOfKind_132.2.2.2.2.1 rfl (by decide) ?_
                exact aw_ireturn (w := [(a, .inl (0, 21, .inl f))]) [0] gdX7_isOfKind_132.2.2.2.2.2.1 rfl rfl rfl rfl (PN.mk (fun _ => 0) rfl rfl)
              · refine aw_aload_n (q := 129) gdX7_isOfKind_114.2.2.2.2.2.2.1 rfl 0 rfl ?_
                refine aw_call (q := 132) (kc1 := 0) (ks1 := 0) (wc := [(a, .inl (0, 21, .inl f))]) (wr := []) (st1 := fun x129 g129 => [.int x129]) (ws1 := fun x129 g129 => [(a, .inl (0, 21, .inl f))]) (As := [.ref a]) [0] [] (fun _ => runS gdX7_isOfKind_114.2.2.2.2.2.2.2 mi_X7_greatest st_X7_greatest ml_X7_79 (by omega) rfl (Nat.le_of_ble_eq_true rfl) rfl) (fun x9 h9 => ok_X7_greatest h9) rfl rfl rfl rfl rfl (by decide +kernel) (by omega) (by omega) (fun _ _ => rfl) (fun _ _ => rfl) (fun x129 g129 => ?_)
                refine aw_iload_n (q := 133) gdX7_isOfKind_132.1 rfl 2 rfl ?_
                refine aw_icmp_gt (tgt := 140) (q := 136) gdX7_isOfKind_132.2.1 (by decide) rfl (fun h_133 => ?_) (fun h_133 => ?_)
                · refine aw_iconst (q := 141) (v := 0) gdX7_isOfKind_132.2.2.2.2.1 rfl (by decide) ?_
                  exact aw_ireturn (w := [(a, .inl (0, 21, .inl f))]) [0] gdX7_isOfKind_132.2.2.2.2.2.1 rfl rfl rfl rfl (PN.mk (fun _ => 0) rfl rfl)
                · refine aw_iconst (q := 137) (v := 1) gdX7_isOfKind_132.2.2.1 rfl (by decide) ?_
                  refine aw_goto (tgt := 141) gdX7_isOfKind_132.2.2.2.1 (by decide) ?_
                  exact aw_ireturn (w := [(a, .inl (0, 21, .inl f))]) [0] gdX7_isOfKind_132.2.2.2.2.2.1 rfl rfl rfl rfl (PN.mk (fun _ => 0) rfl rfl)
          · refine aw_tsw (v := 5) (off := 141) (tgt := 142) gdX7_isOfKind_0.2.1 (by decide) (by decide) (by decide) (by decide) (fun hs_1_5 => ?_) (fun hs_1_5 => ?_)
            · refine aw_aload_n (q := 143) gdX7_isOfKind_132.2.2.2.2.2.2.1 rfl 0 rfl ?_
              refine aw_call (q := 146) (kc1 := 0) (ks1 := 0) (wc := [(a, .inl (0, 21, .inl f))]) (wr := []) (st1 := fun x143 g143 => [.int x143]) (ws1 := fun x143 g143 => [(a, .inl (0, 21, .inl f))]) (As := [.ref a]) [0] [] (fun _ => runS gdX7_isOfKind_132.2.2.2.2.2.2.2 mi_X7_isUnlike st_X7_isUnlike ml_X7_86 (by omega) rfl (Nat.le_of_ble_eq_true rfl) rfl) (fun x9 h9 => ok_X7_isUnlike h9) rfl rfl rfl rfl rfl (by decide +kernel) (by omega) (by omega) (fun _ _ => rfl) (fun _ _ => rfl) (fun x143 g143 => ?_)
              refine aw_if_eq (tgt := 161) (q := 149) gdX7_isOfKind_146.1 (by decide) rfl (fun h_146 => ?_) (fun h_146 => ?_)
              · refine aw_iconst (q := 162) (v := 0) gdX7_isOfKind_146.2.2.2.2.2.2.2 rfl (by decide) ?_
                exact aw_ireturn (w := [(a, .inl (0, 21, .inl f))]) [0] gdX7_isOfKind_162.1 rfl rfl rfl rfl (PN.mk (fun _ => 0) rfl rfl)
              · refine aw_aload_n (q := 150) gdX7_isOfKind_146.2.1 rfl 0 rfl ?_
                refine aw_call (q := 153) (kc1 := 0) (ks1 := 0) (wc := [(a, .inl (0, 21, .inl f))]) (wr := []) (st1 := fun x150 g150 => [.int x150]) (ws1 := fun x150 g150 => [(a, .inl (0, 21, .inl f))]) (As := [.ref a]) [0] [] (fun _ => runS gdX7_isOfKind_146.2.2.1 mi_X7_parts st_X7_parts ml_X7_72 (by omega) rfl (Nat.le_of_ble_eq_true rfl) rfl) (fun x9 h9 => ok_X7_parts h9) rfl rfl rfl rfl rfl (by decide +kernel) (by omega) (by omega) (fun _ _ => rfl) (fun _ _ => rfl) (fun x150 g150 => ?_)
                refine aw_iload_n (q := 154) gdX7_isOfKind_146.2.2.2.1 rfl 2 rfl ?_
                refine aw_icmp_ne (tgt := 161) (q := 157) gdX7_isOfKind_146.2.2.2.2.1 (by decide) rfl (fun h_154 => ?_) (fun h_154 => ?_)
                · refine aw_iconst (q := 162) (v := 0) gdX7_isOfKind_146.2.2.2.2.2.2.2 rfl (by decide) ?_
                  exact aw_ireturn (w := [(a, .inl (0, 21, .inl f))]) [0] gdX7_isOfKind_162.1 rfl rfl rfl rfl (PN.mk (fun _ => 0) rfl rfl)
                · refine aw_iconst (q := 158) (v := 1) gdX7_isOfKind_146.2.2.2.2.2.1 rfl (by decide) ?_
                  refine aw_goto (tgt := 162) gdX7_isOfKind_146.2.2.2.2.2.2.1 (by decide) ?_
                  exact aw_ireturn (w := [(a, .inl (0, 21, .inl f))]) [0] gdX7_isOfKind_162.1 rfl rfl rfl rfl (PN.mk (fun _ => 0) rfl rfl)
            · refine aw_tsw (v := 6) (off := 162) (tgt := 163) gdX7_isOfKind_0.2.1 (by decide) (by decide) (by decide) (by decide) (fun hs_1_6 => ?_) (fun hs_1_6 => ?_)
              · refine aw_aload_n (q := 164) gdX7_isOfKind_162.2.1 rfl 0 rfl ?_
                refine aw_call (q := 167) (kc1 := 0) (ks1 := 0) (wc := [(a, .inl (0, 21, .inl f))]) (wr := []) (st1 := fun x164 g164 => [.int x164]) (ws1 := fun x164 g164 => [(a, .inl (0, 21, .inl f))]) (As := [.ref a]) [0] [] (fun _ => runS gdX7_isOfKind_162.2.2.1 mi_X7_parts st_X7_parts ml_X7_72 (by omega) rfl (Nat.le_of_ble_eq_true rfl) rfl) (fun x9 h9 => ok_X7_parts h9) rfl rfl rfl rfl rfl (by decide +kernel) (by omega) (by omega) (fun _ _ => rfl) (fun _ _ => rfl) (fun x164 g164 => ?_)
                refine aw_iload_n (q := 168) gdX7_isOfKind_162.2.2.2.1 rfl 2 rfl ?_
                refine aw_icmp_gt (tgt := 175) (q := 171) gdX7_isOfKind_162.2.2.2.2.1 (by decide) rfl (fun h_168 => ?_) (fun h_168 => ?_)
                · refine aw_iconst (q := 176) (v := 0) gdX7_isOfKind_162.2.2.2.2.2.2.2 rfl (by decide) ?_
                  exact aw_ireturn (w := [(a, .inl (0, 21, .inl f))]) [0] gdX7_isOfKind_176.1 rfl rfl rfl rfl (PN.mk (fun _ => 0) rfl rfl)
                · refine aw_iconst (q := 172) (v := 1) gdX7_isOfKind_162.2.2.2.2.2.1 rfl (by decide) ?_
                  refine aw_goto (tgt := 176) gdX7_isOfKind_162.2.2.2.2.2.2.1 (by decide) ?_
                  exact aw_ireturn (w := [(a, .inl (0, 21, .inl f))]) [0] gdX7_isOfKind_176.1 rfl rfl rfl rfl (PN.mk (fun _ => 0) rfl rfl)
              · refine aw_tswD (tgt := 177) gdX7_isOfKind_0.2.1 (by have e0 := lv_neT (a := 0) hs_1_0 (by decide); have e1 := lv_neT (a := 1) hs_1_1 (by decide); have e2 := lv_neT (a := 2) hs_1_2 (by decide); have e3 := lv_neT (a := 3) hs_1_3 (by decide); have e4 := lv_neT (a := 4) hs_1_4 (by decide); have e5 := lv_neT (a := 5) hs_1_5 (by decide); have e6 := lv_neT (a := 6) hs_1_6 (by decide); omega) (by decide) ?_
                refine aw_aload_n (q := 178) gdX7_isOfKind_176.2.1 rfl 0 rfl ?_
                refine aw_call (q := 181) (kc1 := 0) (ks1 := 0) (wc := [(a, .inl (0, 21, .inl f))]) (wr := []) (st1 := fun x178 g178 => [.int x178]) (ws1 := fun x178 g178 => [(a, .inl (0, 21, .inl f))]) (As := [.ref a]) [0] [] (fun _ => runS gdX7_isOfKind_176.2.2.1 mi_X7_greatest st_X7_greatest ml_X7_79 (by omega) rfl (Nat.le_of_ble_eq_true rfl) rfl) (fun x9 h9 => ok_X7_greatest h9) rfl rfl rfl rfl rfl (by decide +kernel) (by omega) (by omega) (fun _ _ => rfl) (fun _ _ => rfl) (fun x178 g178 => ?_)
                refine aw_iload_n (q := 182) gdX7_isOfKind_176.2.2.2.1 rfl 2 rfl ?_
                refine aw_icmp_gt (tgt := 196) (q := 185) gdX7_isOfKind_176.2.2.2.2.1 (by decide) rfl (fun h_182 => ?_) (fun h_182 => ?_)
                · refine aw_iconst (q := 197) (v := 0) gdX7_isOfKind_192.2.2.1 rfl (by decide) ?_
                  exact aw_ireturn (w := [(a, .inl (0, 21, .inl f))]) [0] gdX7_isOfKind_192.2.2.2 rfl rfl rfl rfl (PN.mk (fun _ => 0) rfl rfl)
                · refine aw_aload_n (q := 186) gdX7_isOfKind_176.2.2.2.2.2.1 rfl 0 rfl ?_
                  refine aw_call (q := 189) (kc1 := 0) (ks1 := 0) (wc := [(a, .inl (0, 21, .inl f))]) (wr := []) (st1 := fun x186 g186 => [.int x186]) (ws1 := fun x186 g186 => [(a, .inl (0, 21, .inl f))]) (As := [.ref a]) [0] [] (fun _ => runS gdX7_isOfKind_176.2.2.2.2.2.2.1 mi_X7_isOwnTurned st_X7_isOwnTurned ml_X7_93 (by omega) rfl (Nat.le_of_ble_eq_true rfl) rfl) (fun x9 h9 => ok_X7_isOwnTurned h9) rfl rfl rfl rfl rfl (by decide +kernel) (by omega) (by omega) (fun _ _ => rfl) (fun _ _ => rfl) (fun x186 g186 => ?_)
                  refine aw_if_eq (tgt := 196) (q := 192) gdX7_isOfKind_176.2.2.2.2.2.2.2 (by decide) rfl (fun h_189 => ?_) (fun h_189 => ?_)
                  · refine aw_iconst (q := 197) (v := 0) gdX7_isOfKind_192.2.2.1 rfl (by decide) ?_
                    exact aw_ireturn (w := [(a, .inl (0, 21, .inl f))]) [0] gdX7_isOfKind_192.2.2.2 rfl rfl rfl rfl (PN.mk (fun _ => 0) rfl rfl)
                  · refine aw_iconst (q := 193) (v := 1) gdX7_isOfKind_192.1 rfl (by decide) ?_
                    refine aw_goto (tgt := 197) gdX7_isOfKind_192.2.1 (by decide) ?_
                    exact aw_ireturn (w := [(a, .inl (0, 21, .inl f))]) [0] gdX7_isOfKind_192.2.2.2 rfl rfl rfl rfl (PN.mk (fun _ => 0) rfl rfl)
def fX7_turned_31 (N K : Nat) (f : Nat → Int32) (k_10 : Int32 → Int32 → (Nat → Int32) → Option ((Nat → Int32))) (l2 : Int32) (l3 : Int32) (e_v0 : Nat → Int32) : Option ((Nat → Int32)) :=
  k_10 l2 (l3 + (-1 : Int32)) e_v0
set_option maxHeartbeats 4000000 in
set_option maxRecDepth 100000 in
theorem tX7_turned_31 {N K : Nat} {a : Nat} {f : Nat → Int32} {k_10 : Int32 → Int32 → (Nat → Int32) → Option ((Nat → Int32))} (hk_10 : ∀ (l2 : Int32) (l3 : Int32) (e_v0 : Nat → Int32) (v0 : Nat), AW RX7 "turned" cX7_turned 4 (some (.array .int)) [] (fun _ _ => True) (0) (PN (U := (Nat → Int32)) (fun _ ad => some (.ref (ad 0))) (fun zz ad => [(a, .inl (0, 21, .inl f)), ((ad 0), .inl (0, 21, .inl zz))])) 0 0 (k_10 l2 l3 e_v0) 10 [(0, .ref a), (1, .ref v0), (2, .int l2), (3, .int l3)] [] [(a, .inl (0, 21, .inl f)), (v0, .inl (0, 21, .inl e_v0))]) : ∀ (l2 : Int32) (l3 : Int32) (e_v0 : Nat → Int32) (v0 : Nat), AW RX7 "turned" cX7_turned 4 (some (.array .int)) [] (fun _ _ => True) (0) (PN (U := (Nat → Int32)) (fun _ ad => some (.ref (ad 0))) (fun zz ad => [(a, .inl (0, 21, .inl f)), ((ad 0), .inl (0, 21, .inl zz))])) 0 0 (fX7_turned_31 N K f k_10 l2 l3 e_v0) 31 [(0, .ref a), (1, .ref v0), (2, .int l2), (3, .int l3)] [] [(a, .inl (0, 21, .inl f)), (v0, .inl (0, 21, .inl e_v0))] := by
  intro l2 l3 e_v0 v0
  refine aw_iinc (q := 34) (v := (l3 + (-1 : Int32))) (lv' := [(3, .int (l3 + (-1 : Int32))), (0, .ref a), (1, .ref v0), (2, .int l2)]) gdX7_turned_31.1 rfl 3 rfl rfl (by decide) rfl ?_
  refine aw_goto (tgt := 10) gdX7_turned_31.2.1 (by decide) ?_
  refine aw_locals (lv' := [(0, .ref a), (1, .ref v0), (2, .int l2), (3, .int (l3 + (-1 : Int32)))]) [1, 2, 3, 0] rfl ?_
  exact hk_10 _ _ _ _
def fX7_turned_10 (N K : Nat) (f : Nat → Int32) : Nat → Int32 → Int32 → (Nat → Int32) → Option ((Nat → Int32))
  | 0, _, _, _ => none
  | fu + 1, l2, l3, e_v0 =>
    (if l3 ≤ 0 then (some e_v0) else (if l3 < 0 ∨ 21 ≤ l3.toNatClampNeg then none else (if (l2 + (f l3.toNatClampNeg)) ≤ 0 then fX7_turned_31 N K f (fX7_turned_10 N K f  fu) (l2 + (f l3.toNatClampNeg)) l3 e_v0 else (if (l2 + (f l3.toNatClampNeg)) < 0 ∨ 21 ≤ (l2 + (f l3.toNatClampNeg)).toNatClampNeg then none else (if (l2 + (f l3.toNatClampNeg)) < 0 ∨ 21 ≤ (l2 + (f l3.toNatClampNeg)).toNatClampNeg then none else fX7_turned_31 N K f (fX7_turned_10 N K f  fu) (l2 + (f l3.toNatClampNeg)) l3 (upd e_v0 (l2 + (f l3.toNatClampNeg)).toNatClampNeg ((e_v0 (l2 + (f l3.toNatClampNeg)).toNatClampNeg) + (1 : Int32))))))))
set_option maxHeartbeats 4000000 in
set_option maxRecDepth 100000 in
theorem tX7_turned_10 {N K : Nat} {a : Nat} {f : Nat → Int32} : ∀ (fu : Nat) (l2 : Int32) (l3 : Int32) (e_v0 : Nat → Int32) (v0 : Nat), AW RX7 "turned" cX7_turned 4 (some (.array .int)) [] (fun _ _ => True) (0) (PN (U := (Nat → Int32)) (fun _ ad => some (.ref (ad 0))) (fun zz ad => [(a, .inl (0, 21, .inl f)), ((ad 0), .inl (0, 21, .inl zz))])) 0 0 (fX7_turned_10 N K f  fu l2 l3 e_v0) 10 [(0, .ref a), (1, .ref v0), (2, .int l2), (3, .int l3)] [] [(a, .inl (0, 21, .inl f)), (v0, .inl (0, 21, .inl e_v0))] := by
  intro fu
  induction fu with
  | zero => intro l2 l3 e_v0 v0; exact aw_none
  | succ fu ih =>
    intro l2 l3 e_v0 v0
    refine aw_iload_n (q := 11) gdX7_turned_0.2.2.2.2.2.2.2 rfl 3 rfl ?_
    refine aw_if_le (tgt := 37) (q := 14) gdX7_turned_11.1 (by decide) rfl (fun h_11 => ?_) (fun h_11 => ?_)
    · refine aw_aload_n (q := 38) gdX7_turned_31.2.2.1 rfl 1 rfl ?_
      exact aw_areturn (w := [(a, .inl (0, 21, .inl f)), (v0, .inl (0, 21, .inl e_v0))]) [0, 1] gdX7_turned_31.2.2.2 rfl (Or.inr ⟨_, rfl⟩) rfl rfl (PN.mk (fun j => if j = 0 then v0 else 0) rfl rfl)
    · refine aw_iload_n (q := 15) gdX7_turned_11.2.1 rfl 2 rfl ?_
      refine aw_aload_n (q := 16) gdX7_turned_11.2.2.1 rfl 0 rfl ?_
      refine aw_iload_n (q := 17) gdX7_turned_11.2.2.2.1 rfl 3 rfl ?_
      refine aw_iald (q := 18) gdX7_turned_11.2.2.2.2.1 rfl 0 rfl ?_
      refine aw_iadd (q := 19) gdX7_turned_11.2.2.2.2.2.1 rfl ?_
      refine aw_istore_n (q := 20) (lv' := [(2, .int (l2 + (f l3.toNatClampNeg))), (0, .ref a), (1, .ref v0), (3, .int l3)]) gdX7_turned_11.2.2.2.2.2.2.1 rfl (by decide) rfl ?_
      refine aw_iload_n (q := 21) gdX7_turned_11.2.2.2.2.2.2.2 rfl 0 rfl ?_
      refine aw_if_le (tgt := 31) (q := 24) gdX7_turned_21.1 (by decide) rfl (fun h_21 => ?_) (fun h_21 => ?_)
      · refine aw_locals (lv' := [(0, .ref a), (1, .ref v0), (2, .int (l2 + (f l3.toNatClampNeg))), (3, .int l3)]) [1, 2, 0, 3] rfl ?_
        exact tX7_turned_31 ih _ _ _ _
      · refine aw_aload_n (q := 25) gdX7_turned_21.2.1 rfl 2 rfl ?_
        refine aw_iload_n (q := 26) gdX7_turned_21.2.2.1 rfl 0 rfl ?_
        refine aw_dup2 (q := 27) gdX7_turned_21.2.2.2.1 rfl rfl rfl ?_
        refine aw_iald (q := 28) gdX7_turned_21.2.2.2.2.1 rfl 1 rfl ?_
        refine aw_iconst (q := 29) (v := 1) gdX7_turned_21.2.2.2.2.2.1 rfl (by decide) ?_
        refine aw_iadd (q := 30) gdX7_turned_21.2.2.2.2.2.2.1 rfl ?_
        refine aw_iast (q := 31) (ws' := [(a, .inl (0, 21, .inl f)), (v0, .inl (0, 21, .inl (upd e_v0 (l2 + (f l3.toNatClampNeg)).toNatClampNeg ((e_v0 (l2 + (f l3.toNatClampNeg)).toNatClampNeg) + (1 : Int32)))))]) gdX7_turned_21.2.2.2.2.2.2.2 rfl 1 rfl rfl ?_
        refine aw_locals (lv' := [(0, .ref a), (1, .ref v0), (2, .int (l2 + (f l3.toNatClampNeg))), (3, .int l3)]) [1, 2, 0, 3] rfl ?_
        exact tX7_turned_31 ih _ _ _ _
def fX7_turned (N K : Nat) (f : Nat → Int32) : Option ((Nat → Int32)) :=
  fX7_turned_10 N K f  N (0 : Int32) (20 : Int32) (fun _ => 0)
set_option maxHeartbeats 4000000 in
set_option maxRecDepth 100000 in
theorem ok_X7_turned {N K : Nat} {a : Nat} {f : Nat → Int32} {xr : (Nat → Int32)} (hE : fX7_turned N K f = some xr) : OkM yX7_turned (.code yX7_turned cX7_turned 4 (some (.array .int))) (0) 1 21 [.ref a] [(a, .inl (0, 21, .inl f))] ((PN (U := (Nat → Int32)) (fun _ ad => some (.ref (ad 0))) (fun zz ad => [(a, .inl (0, 21, .inl f)), ((ad 0), .inl (0, 21, .inl zz))])) xr) := by
  refine ok_of (by decide) (Nat.le_of_ble_eq_true rfl) hE ?_
  refine aw_locals (lv' := [(0, .ref a)]) [0] rfl ?_
  refine aw_bipush (q := 2) (v := 21) gdX7_turned_0.1 rfl (by decide) ?_
  refine aw_newarr (q := 4) (t := 0) (N := 21) (kc' := 0) (ks' := 0) (ws' := fun r2 => [(a, .inl (0, 21, .inl f)), (r2, .inl (0, 21, .inl (fun _ => 0)))]) gdX7_turned_0.2.1 rfl (by decide) rfl ac_int (fun _ => rfl) (by decide) (by decide) (by decide) (by omega) (by omega) (fun _ => rfl) (fun r2 => ?_)
  refine aw_astore_n (q := 5) (lv' := [(1, .ref r2), (0, .ref a)]) gdX7_turned_0.2.2.1 rfl (by decide) rfl ?_
  refine aw_iconst (q := 6) (v := 0) gdX7_turned_0.2.2.2.1 rfl (by decide) ?_
  refine aw_istore_n (q := 7) (lv' := [(2, .int (0 : Int32)), (1, .ref r2), (0, .ref a)]) gdX7_turned_0.2.2.2.2.1 rfl (by decide) rfl ?_
  refine aw_bipush (q := 9) (v := 20) gdX7_turned_0.2.2.2.2.2.1 rfl (by decide) ?_
  refine aw_istore_n (q := 10) (lv' := [(3, .int (20 : Int32)), (2, .int (0 : Int32)), (1, .ref r2), (0, .ref a)]) gdX7_turned_0.2.2.2.2.2.2.1 rfl (by decide) rfl ?_
  refine aw_locals (lv' := [(0, .ref a), (1, .ref r2), (2, .int (0 : Int32)), (3, .int (20 : Int32))]) [3, 2, 1, 0] rfl ?_
  exact tX7_turned_10  N _ _ _ _
def fX7_areSame_25 (N K : Nat) (f : Nat → Int32) (g : Nat → Int32) (k_4 : Int32 → Int32 → Option (Int32)) (l3 : Int32) (s0 : Int32) (s1 : Int32) : Option (Int32) :=
  k_4 (s1 &&& s0) (l3 + (1 : Int32))
set_option maxHeartbeats 4000000 in
set_option maxRecDepth 100000 in
theorem tX7_areSame_25 {N K : Nat} {a b : Nat} {f : Nat → Int32} {g : Nat → Int32} {k_4 : Int32 → Int32 → Option (Int32)} (hk_4 : ∀ (l2 : Int32) (l3 : Int32), AW RX7 "areSame" cX7_areSame 4 (some .boolean) [] (fun _ _ => True) (0) (PN (U := Int32) (fun zz _ => some (.int zz)) (fun zz ad => [(a, .inl (0, 21, .inl f)), (b, .inl (0, 21, .inl g))])) 0 0 (k_4 l2 l3) 4 [(0, .ref a), (1, .ref b), (2, .int l2), (3, .int l3)] [] [(a, .inl (0, 21, .inl f)), (b, .inl (0, 21, .inl g))]) : ∀ (l3 : Int32) (s0 : Int32) (s1 : Int32), AW RX7 "areSame" cX7_areSame 4 (some .boolean) [] (fun _ _ => True) (0) (PN (U := Int32) (fun zz _ => some (.int zz)) (fun zz ad => [(a, .inl (0, 21, .inl f)), (b, .inl (0, 21, .inl g))])) 0 0 (fX7_areSame_25 N K f g k_4 l3 s0 s1) 25 [(0, .ref a), (1, .ref b), (3, .int l3)] [.int s0, .int s1] [(a, .inl (0, 21, .inl f)), (b, .inl (0, 21, .inl g))] := by
  intro l3 s0 s1
  refine aw_iand (q := 26) gdX7_areSame_21.2.2.1 rfl ?_
  refine aw_istore_n (q := 27) (lv' := [(2, .int (s1 &&& s0)), (0, .ref a), (1, .ref b), (3, .int l3)]) gdX7_areSame_21.2.2.2.1 rfl (by decide) rfl ?_
  refine aw_iinc (q := 30) (v := (l3 + (1 : Int32))) (lv' := [(3, .int (l3 + (1 : Int32))), (2, .int (s1 &&& s0)), (0, .ref a), (1, .ref b)]) gdX7_areSame_21.2.2.2.2.1 rfl 3 rfl rfl (by decide) rfl ?_
  refine aw_goto (tgt := 4) gdX7_areSame_21.2.2.2.2.2.1 (by decide) ?_
  refine aw_locals (lv' := [(0, .ref a), (1, .ref b), (2, .int (s1 &&& s0)), (3, .int (l3 + (1 : Int32)))]) [2, 3, 1, 0] rfl ?_
  exact hk_4 _ _
def fX7_areSame_4 (N K : Nat) (f : Nat → Int32) (g : Nat → Int32) : Nat → Int32 → Int32 → Option (Int32)
  | 0, _, _ => none
  | fu + 1, l2, l3 =>
    (if (20 : Int32) < l3 then (if l2 = 0 ∨ l2 = 1 then (some l2) else none) else (if l3 < 0 ∨ 21 ≤ l3.toNatClampNeg then none else (if l3 < 0 ∨ 21 ≤ l3.toNatClampNeg then none else (if (f l3.toNatClampNeg) = (g l3.toNatClampNeg) then fX7_areSame_25 N K f g (fX7_areSame_4 N K f g  fu) l3 (1 : Int32) l2 else fX7_areSame_25 N K f g (fX7_areSame_4 N K f g  fu) l3 (0 : Int32) l2))))
set_option maxHeartbeats 4000000 in
set_option maxRecDepth 100000 in
theorem tX7_areSame_4 {N K : Nat} {a b : Nat} {f : Nat → Int32} {g : Nat → Int32} : ∀ (fu : Nat) (l2 : Int32) (l3 : Int32), AW RX7 "areSame" cX7_areSame 4 (some .boolean) [] (fun _ _ => True) (0) (PN (U := Int32) (fun zz _ => some (.int zz)) (fun zz ad => [(a, .inl (0, 21, .inl f)), (b, .inl (0, 21, .inl g))])) 0 0 (fX7_areSame_4 N K f g  fu l2 l3) 4 [(0, .ref a), (1, .ref b), (2, .int l2), (3, .int l3)] [] [(a, .inl (0, 21, .inl f)), (b, .inl (0, 21, .inl g))] := by
  intro fu
  induction fu with
  | zero => intro l2 l3; exact aw_none
  | succ fu ih =>
    intro l2 l3
    refine aw_iload_n (q := 5) gdX7_areSame_0.2.2.2.2.1 rfl 3 rfl ?_
    refine aw_bipush (q := 7) (v := 20) gdX7_areSame_0.2.2.2.2.2.1 rfl (by decide) ?_
    refine aw_icmp_gt (tgt := 33) (q := 10) gdX7_areSame_0.2.2.2.2.2.2.1 (by decide) rfl (fun h_7 => ?_) (fun h_7 => ?_)
    · refine aw_iload_n (q := 34) gdX7_areSame_21.2.2.2.2.2.2.1 rfl 2 rfl ?_
      exact aw_zreturn (w := [(a, .inl (0, 21, .inl f)), (b, .inl (0, 21, .inl g))]) [0, 1] gdX7_areSame_21.2.2.2.2.2.2.2 rfl rfl rfl (PN.mk (fun _ => 0) rfl rfl)
    · refine aw_iload_n (q := 11) gdX7_areSame_0.2.2.2.2.2.2.2 rfl 2 rfl ?_
      refine aw_aload_n (q := 12) gdX7_areSame_11.1 rfl 0 rfl ?_
      refine aw_iload_n (q := 13) gdX7_areSame_11.2.1 rfl 3 rfl ?_
      refine aw_iald (q := 14) gdX7_areSame_11.2.2.1 rfl 0 rfl ?_
      refine aw_aload_n (q := 15) gdX7_areSame_11.2.2.2.1 rfl 1 rfl ?_
      refine aw_iload_n (q := 16) gdX7_areSame_11.2.2.2.2.1 rfl 3 rfl ?_
      refine aw_iald (q := 17) gdX7_areSame_11.2.2.2.2.2.1 rfl 1 rfl ?_
      refine aw_icmp_ne (tgt := 24) (q := 20) gdX7_areSame_11.2.2.2.2.2.2.1 (by decide) rfl (fun h_17 => ?_) (fun h_17 => ?_)
      · refine aw_iconst (q := 25) (v := 0) gdX7_areSame_21.2.1 rfl (by decide) ?_
        refine aw_locals (lv' := [(0, .ref a), (1, .ref b), (3, .int l3)]) [0, 1, 3] rfl ?_
        exact tX7_areSame_25 ih _ _ _
      · refine aw_iconst (q := 21) (v := 1) gdX7_areSame_11.2.2.2.2.2.2.2 rfl (by decide) ?_
        refine aw_goto (tgt := 25) gdX7_areSame_21.1 (by decide) ?_
        refine aw_locals (lv' := [(0, .ref a), (1, .ref b), (3, .int l3)]) [0, 1, 3] rfl ?_
        exact tX7_areSame_25 ih _ _ _
def fX7_areSame (N K : Nat) (f : Nat → Int32) (g : Nat → Int32) : Option (Int32) :=
  fX7_areSame_4 N K f g  N (1 : Int32) (1 : Int32)
set_option maxHeartbeats 4000000 in
set_option maxRecDepth 100000 in
theorem ok_X7_areSame {N K : Nat} {a b : Nat} {f : Nat → Int32} {g : Nat → Int32} {xr : Int32} (hE : fX7_areSame N K f g = some xr) : OkM yX7_areSame (.code yX7_areSame cX7_areSame 4 (some .boolean)) (0) 0 0 [.ref a, .ref b] [(a, .inl (0, 21, .inl f)), (b, .inl (0, 21, .inl g))] ((PN (U := Int32) (fun zz _ => some (.int zz)) (fun zz ad => [(a, .inl (0, 21, .inl f)), (b, .inl (0, 21, .inl g))])) xr) := by
  refine ok_of (by decide) (Nat.le_of_ble_eq_true rfl) hE ?_
  refine aw_locals (lv' := [(0, .ref a), (1, .ref b)]) [0, 1] rfl ?_
  refine aw_iconst (q := 1) (v := 1) gdX7_areSame_0.1 rfl (by decide) ?_
  refine aw_istore_n (q := 2) (lv' := [(2, .int (1 : Int32)), (0, .ref a), (1, .ref b)]) gdX7_areSame_0.2.1 rfl (by decide) rfl ?_
  refine aw_iconst (q := 3) (v := 1) gdX7_areSame_0.2.2.1 rfl (by decide) ?_
  refine aw_istore_n (q := 4) (lv' := [(3, .int (1 : Int32)), (2, .int (1 : Int32)), (0, .ref a), (1, .ref b)]) gdX7_areSame_0.2.2.2.1 rfl (by decide) rfl ?_
  refine aw_locals (lv' := [(0, .ref a), (1, .ref b), (2, .int (1 : Int32)), (3, .int (1 : Int32))]) [2, 3, 1, 0] rfl ?_
  exact tX7_areSame_4  N _ _
def fX7_firstWay (N K : Nat) (p0 : Int32) : Option ((Nat → Int32)) :=
  (if p0 ≤ 0 then (some (fun _ => 0)) else (if p0 < 0 ∨ 21 ≤ p0.toNatClampNeg then none else (some (upd (fun _ => 0) p0.toNatClampNeg (1 : Int32)))))
set_option maxHeartbeats 4000000 in
set_option maxRecDepth 100000 in
theorem ok_X7_firstWay {N K : Nat} {p0 : Int32} {xr : (Nat → Int32)} (hE : fX7_firstWay N K p0 = some xr) : OkM yX7_firstWay (.code yX7_firstWay cX7_firstWay 2 (some (.array .int))) (0) 1 21 [.int p0] [] ((PN (U := (Nat → Int32)) (fun _ ad => some (.ref (ad 0))) (fun zz ad => [((ad 0), .inl (0, 21, .inl zz))])) xr) := by
  refine ok_of (by decide) (Nat.le_of_ble_eq_true rfl) hE ?_
  refine aw_locals (lv' := [(0, .int p0)]) [0] rfl ?_
  refine aw_bipush (q := 2) (v := 21) gdX7_firstWay_0.1 rfl (by decide) ?_
  refine aw_newarr (q := 4) (t := 0) (N := 21) (kc' := 0) (ks' := 0) (ws' := fun r2 => [(r2, .inl (0, 21, .inl (fun _ => 0)))]) gdX7_firstWay_0.2.1 rfl (by decide) rfl ac_int (fun _ => rfl) (by decide) (by decide) (by decide) (by omega) (by omega) (fun _ => rfl) (fun r2 => ?_)
  refine aw_astore_n (q := 5) (lv' := [(1, .ref r2), (0, .int p0)]) gdX7_firstWay_0.2.2.1 rfl (by decide) rfl ?_
  refine aw_iload_n (q := 6) gdX7_firstWay_0.2.2.2.1 rfl 1 rfl ?_
  refine aw_if_le (tgt := 13) (q := 9) gdX7_firstWay_0.2.2.2.2.1 (by decide) rfl (fun h_6 => ?_) (fun h_6 => ?_)
  · refine aw_aload_n (q := 14) gdX7_firstWay_12.2.1 rfl 0 rfl ?_
    exact aw_areturn (w := [(r2, .inl (0, 21, .inl (fun _ => 0)))]) [0] gdX7_firstWay_12.2.2 rfl (Or.inr ⟨_, rfl⟩) rfl rfl (PN.mk (fun j => if j = 0 then r2 else 0) rfl rfl)
  · refine aw_aload_n (q := 10) gdX7_firstWay_0.2.2.2.2.2.1 rfl 0 rfl ?_
    refine aw_iload_n (q := 11) gdX7_firstWay_0.2.2.2.2.2.2.1 rfl 1 rfl ?_
    refine aw_iconst (q := 12) (v := 1) gdX7_firstWay_0.2.2.2.2.2.2.2 rfl (by decide) ?_
    refine aw_iast (q := 13) (ws' := [(r2, .inl (0, 21, .inl (upd (fun _ => 0) p0.toNatClampNeg (1 : Int32))))]) gdX7_firstWay_12.1 rfl 0 rfl rfl ?_
    refine aw_aload_n (q := 14) gdX7_firstWay_12.2.1 rfl 0 rfl ?_
    exact aw_areturn (w := [(r2, .inl (0, 21, .inl (upd (fun _ => 0) p0.toNatClampNeg (1 : Int32))))]) [0] gdX7_firstWay_12.2.2 rfl (Or.inr ⟨_, rfl⟩) rfl rfl (PN.mk (fun j => if j = 0 then r2 else 0) rfl rfl)
def fX7_isNext_49 (N K : Nat) (f : Nat → Int32) : Nat → Int32 → Int32 → (Nat → Int32) → Option (Int32 × (Nat → Int32))
  | 0, _, _, _ => none
  | fu + 1, l2, l3, f_ =>
    (if l3 ≤ 0 then (some ((1 : Int32), f_)) else (if l3 < 0 ∨ 21 ≤ l3.toNatClampNeg then none else (if l3 = 0 then none else (if l3 < 0 ∨ 21 ≤ l3.toNatClampNeg then none else (if l3 = 0 then none else fX7_isNext_49 N K f  fu (l2 % l3) (l3 + (-1 : Int32)) (upd f_ l3.toNatClampNeg ((f_ l3.toNatClampNeg) + (l2 / l3))))))))
set_option maxHeartbeats 4000000 in
set_option maxRecDepth 100000 in
theorem tX7_isNext_49 {N K : Nat} {a : Nat} {f : Nat → Int32} : ∀ (fu : Nat) (l2 : Int32) (l3 : Int32) (f_ : Nat → Int32), AW RX7 "isNext" cX7_isNext 4 (some .boolean) [] (fun _ _ => True) (0) (PN (U := Int32 × (Nat → Int32)) (fun zz _ => some (.int zz.1)) (fun zz ad => [(a, .inl (0, 21, .inl zz.2))])) 0 0 (fX7_isNext_49 N K f  fu l2 l3 f_) 49 [(0, .ref a), (2, .int l2), (3, .int l3)] [] [(a, .inl (0, 21, .inl f_))] := by
  intro fu
  induction fu with
  | zero => intro l2 l3 f_; exact aw_none
  | succ fu ih =>
    intro l2 l3 f_
    refine aw_iload_n (q := 50) gdX7_isNext_44.2.2.2.2.2.1 rfl 2 rfl ?_
    refine aw_if_le (tgt := 72) (q := 53) gdX7_isNext_44.2.2.2.2.2.2.1 (by decide) rfl (fun h_50 => ?_) (fun h_50 => ?_)
    · refine aw_iconst (q := 73) (v := 1) gdX7_isNext_62.2.2.2.2.2.2.1 rfl (by decide) ?_
      exact aw_ireturn (w := [(a, .inl (0, 21, .inl f_))]) [0] gdX7_isNext_62.2.2.2.2.2.2.2 rfl rfl rfl rfl (PN.mk (fun _ => 0) rfl rfl)
    · refine aw_aload_n (q := 54) gdX7_isNext_44.2.2.2.2.2.2.2 rfl 0 rfl ?_
      refine aw_iload_n (q := 55) gdX7_isNext_54.1 rfl 2 rfl ?_
      refine aw_dup2 (q := 56) gdX7_isNext_54.2.1 rfl rfl rfl ?_
      refine aw_iald (q := 57) gdX7_isNext_54.2.2.1 rfl 0 rfl ?_
      refine aw_iload_n (q := 58) gdX7_isNext_54.2.2.2.1 rfl 1 rfl ?_
      refine aw_iload_n (q := 59) gdX7_isNext_54.2.2.2.2.1 rfl 2 rfl ?_
      refine aw_idiv (q := 60) gdX7_isNext_54.2.2.2.2.2.1 rfl ?_
      refine aw_iadd (q := 61) gdX7_isNext_54.2.2.2.2.2.2.1 rfl ?_
      refine aw_iast (q := 62) (ws' := [(a, .inl (0, 21, .inl (upd f_ l3.toNatClampNeg ((f_ l3.toNatClampNeg) + (l2 / l3)))))]) gdX7_isNext_54.2.2.2.2.2.2.2 rfl 0 rfl rfl ?_
      refine aw_iload_n (q := 63) gdX7_isNext_62.1 rfl 1 rfl ?_
      refine aw_iload_n (q := 64) gdX7_isNext_62.2.1 rfl 2 rfl ?_
      refine aw_irem (q := 65) gdX7_isNext_62.2.2.1 rfl ?_
      refine aw_istore_n (q := 66) (lv' := [(2, .int (l2 % l3)), (0, .ref a), (3, .int l3)]) gdX7_isNext_62.2.2.2.1 rfl (by decide) rfl ?_
      refine aw_iinc (q := 69) (v := (l3 + (-1 : Int32))) (lv' := [(3, .int (l3 + (-1 : Int32))), (2, .int (l2 % l3)), (0, .ref a)]) gdX7_isNext_62.2.2.2.2.1 rfl 2 rfl rfl (by decide) rfl ?_
      refine aw_goto (tgt := 49) gdX7_isNext_62.2.2.2.2.2.1 (by decide) ?_
      refine aw_locals (lv' := [(0, .ref a), (2, .int (l2 % l3)), (3, .int (l3 + (-1 : Int32)))]) [2, 1, 0] rfl ?_
      exact ih _ _ _
def fX7_isNext_20 (N K : Nat) (f : Nat → Int32) (l1 : Int32) (f_ : Nat → Int32) : Option (Int32 × (Nat → Int32)) :=
  (if l1 ≤ (20 : Int32) then (if l1 < 0 ∨ 21 ≤ l1.toNatClampNeg then none else (if l1 < 0 ∨ 21 ≤ l1.toNatClampNeg then none else fX7_isNext_49 N K f  N (l1 + (f_ (1 : Int32).toNatClampNeg)) (l1 - (1 : Int32)) (upd (upd f_ (1 : Int32).toNatClampNeg (0 : Int32)) l1.toNatClampNeg (((upd f_ (1 : Int32).toNatClampNeg (0 : Int32)) l1.toNatClampNeg) - (1 : Int32))))) else (some ((0 : Int32), f_)))
set_option maxHeartbeats 4000000 in
set_option maxRecDepth 100000 in
theorem tX7_isNext_20 {N K : Nat} {a : Nat} {f : Nat → Int32} : ∀ (l1 : Int32) (f_ : Nat → Int32), AW RX7 "isNext" cX7_isNext 4 (some .boolean) [] (fun _ _ => True) (0) (PN (U := Int32 × (Nat → Int32)) (fun zz _ => some (.int zz.1)) (fun zz ad => [(a, .inl (0, 21, .inl zz.2))])) 0 0 (fX7_isNext_20 N K f  l1 f_) 20 [(0, .ref a), (1, .int l1)] [] [(a, .inl (0, 21, .inl f_))] := by
  intro l1 f_
  refine aw_iload_n (q := 21) gdX7_isNext_11.2.2.2.1 rfl 1 rfl ?_
  refine aw_bipush (q := 23) (v := 20) gdX7_isNext_11.2.2.2.2.1 rfl (by decide) ?_
  refine aw_icmp_le (tgt := 28) (q := 26) gdX7_isNext_11.2.2.2.2.2.1 (by decide) rfl (fun h_23 => ?_) (fun h_23 => ?_)
  · refine aw_iload_n (q := 29) gdX7_isNext_28.1 rfl 1 rfl ?_
    refine aw_aload_n (q := 30) gdX7_isNext_28.2.1 rfl 0 rfl ?_
    refine aw_iconst (q := 31) (v := 1) gdX7_isNext_28.2.2.1 rfl (by decide) ?_
    refine aw_ialdT (q := 32) (by decide) gdX7_isNext_28.2.2.2.1 rfl 0 rfl ?_
    refine aw_iadd (q := 33) gdX7_isNext_28.2.2.2.2.1 rfl ?_
    refine aw_istore_n (q := 34) (lv' := [(2, .int (l1 + (f_ (1 : Int32).toNatClampNeg))), (0, .ref a), (1, .int l1)]) gdX7_isNext_28.2.2.2.2.2.1 rfl (by decide) rfl ?_
    refine aw_aload_n (q := 35) gdX7_isNext_28.2.2.2.2.2.2.1 rfl 1 rfl ?_
    refine aw_iconst (q := 36) (v := 1) gdX7_isNext_28.2.2.2.2.2.2.2 rfl (by decide) ?_
    refine aw_iconst (q := 37) (v := 0) gdX7_isNext_36.1 rfl (by decide) ?_
    refine aw_iastT (q := 38) (ws' := [(a, .inl (0, 21, .inl (upd f_ (1 : Int32).toNatClampNeg (0 : Int32))))]) (by decide) gdX7_isNext_36.2.1 rfl 0 rfl rfl ?_
    refine aw_aload_n (q := 39) gdX7_isNext_36.2.2.1 rfl 1 rfl ?_
    refine aw_iload_n (q := 40) gdX7_isNext_36.2.2.2.1 rfl 2 rfl ?_
    refine aw_dup2 (q := 41) gdX7_isNext_36.2.2.2.2.1 rfl rfl rfl ?_
    refine aw_iald (q := 42) gdX7_isNext_36.2.2.2.2.2.1 rfl 0 rfl ?_
    refine aw_iconst (q := 43) (v := 1) gdX7_isNext_36.2.2.2.2.2.2.1 rfl (by decide) ?_
    refine aw_isub (q := 44) gdX7_isNext_36.2.2.2.2.2.2.2 rfl ?_
    refine aw_iast (q := 45) (ws' := [(a, .inl (0, 21, .inl (upd (upd f_ (1 : Int32).toNatClampNeg (0 : Int32)) l1.toNatClampNeg (((upd f_ (1 : Int32).toNatClampNeg (0 : Int32)) l1.toNatClampNeg) - (1 : Int32)))))]) gdX7_isNext_44.1 rfl 0 rfl rfl ?_
    refine aw_iload_n (q := 46) gdX7_isNext_44.2.1 rfl 2 rfl ?_
    refine aw_iconst (q := 47) (v := 1) gdX7_isNext_44.2.2.1 rfl (by decide) ?_
    refine aw_isub (q := 48) gdX7_isNext_44.2.2.2.1 rfl ?_
    refine aw_istore_n (q := 49) (lv' := [(3, .int (l1 - (1 : Int32))), (2, .int (l1 + (f_ (1 : Int32).toNatClampNeg))), (0, .ref a), (1, .int l1)]) gdX7_isNext_44.2.2.2.2.1 rfl (by decide) rfl ?_
    refine aw_locals (lv' := [(0, .ref a), (2, .int (l1 + (f_ (1 : Int32).toNatClampNeg))), (3, .int (l1 - (1 : Int32)))]) [2, 1, 0] rfl ?_
    exact tX7_isNext_49  N _ _ _
  · refine aw_iconst (q := 27) (v := 0) gdX7_isNext_11.2.2.2.2.2.2.1 rfl (by decide) ?_
    exact aw_ireturn (w := [(a, .inl (0, 21, .inl f_))]) [0] gdX7_isNext_11.2.2.2.2.2.2.2 rfl rfl rfl rfl (PN.mk (fun _ => 0) rfl rfl)
def fX7_isNext_2 (N K : Nat) (f : Nat → Int32) : Nat → Int32 → (Nat → Int32) → Option (Int32 × (Nat → Int32))
  | 0, _, _ => none
  | fu + 1, l1, f_ =>
    (if (20 : Int32) < l1 then fX7_isNext_20 N K f  l1 f_ else (if l1 < 0 ∨ 21 ≤ l1.toNatClampNeg then none else (if (f_ l1.toNatClampNeg) = 0 then fX7_isNext_2 N K f  fu (l1 + (1 : Int32)) f_ else fX7_isNext_20 N K f  l1 f_)))
set_option maxHeartbeats 4000000 in
set_option maxRecDepth 100000 in
theorem tX7_isNext_2 {N K : Nat} {a : Nat} {f : Nat → Int32} : ∀ (fu : Nat) (l1 : Int32) (f_ : Nat → Int32), AW RX7 "isNext" cX7_isNext 4 (some .boolean) [] (fun _ _ => True) (0) (PN (U := Int32 × (Nat → Int32)) (fun zz _ => some (.int zz.1)) (fun zz ad => [(a, .inl (0, 21, .inl zz.2))])) 0 0 (fX7_isNext_2 N K f  fu l1 f_) 2 [(0, .ref a), (1, .int l1)] [] [(a, .inl (0, 21, .inl f_))] := by
  intro fu
  induction fu with
  | zero => intro l1 f_; exact aw_none
  | succ fu ih =>
    intro l1 f_
    refine aw_iload_n (q := 3) gdX7_isNext_0.2.2.1 rfl 1 rfl ?_
    refine aw_bipush (q := 5) (v := 20) gdX7_isNext_0.2.2.2.1 rfl (by decide) ?_
    refine aw_icmp_gt (tgt := 20) (q := 8) gdX7_isNext_0.2.2.2.2.1 (by decide) rfl (fun h_5 => ?_) (fun h_5 => ?_)
    · exact tX7_isNext_20  _ _
    · refine aw_aload_n (q := 9) gdX7_isNext_0.2.2.2.2.2.1 rfl 0 rfl ?_
      refine aw_iload_n (q := 10) gdX7_isNext_0.2.2.2.2.2.2.1 rfl 1 rfl ?_
      refine aw_iald (q := 11) gdX7_isNext_0.2.2.2.2.2.2.2 rfl 0 rfl ?_
      refine aw_if_ne (tgt := 20) (q := 14) gdX7_isNext_11.1 (by decide) rfl (fun h_11 => ?_) (fun h_11 => ?_)
      · exact tX7_isNext_20  _ _
      · refine aw_iinc (q := 17) (v := (l1 + (1 : Int32))) (lv' := [(1, .int (l1 + (1 : Int32))), (0, .ref a)]) gdX7_isNext_11.2.1 rfl 1 rfl rfl (by decide) rfl ?_
        refine aw_goto (tgt := 2) gdX7_isNext_11.2.2.1 (by decide) ?_
        refine aw_locals (lv' := [(0, .ref a), (1, .int (l1 + (1 : Int32)))]) [1, 0] rfl ?_
        exact ih _ _
def fX7_isNext (N K : Nat) (f : Nat → Int32) : Option (Int32 × (Nat → Int32)) :=
  fX7_isNext_2 N K f  N (2 : Int32) f
set_option maxHeartbeats 4000000 in
set_option maxRecDepth 100000 in
theorem ok_X7_isNext {N K : Nat} {a : Nat} {f : Nat → Int32} {xr : Int32 × (Nat → Int32)} (hE : fX7_isNext N K f = some xr) : OkM yX7_isNext (.code yX7_isNext cX7_isNext 4 (some .boolean)) (0) 0 0 [.ref a] [(a, .inl (0, 21, .inl f))] ((PN (U := Int32 × (Nat → Int32)) (fun zz _ => some (.int zz.1)) (fun zz ad => [(a, .inl (0, 21, .inl zz.2))])) xr) := by
  refine ok_of (by decide) (Nat.le_of_ble_eq_true rfl) hE ?_
  refine aw_locals (lv' := [(0, .ref a)]) [0] rfl ?_
  refine aw_iconst (q := 1) (v := 2) gdX7_isNext_0.1 rfl (by decide) ?_
  refine aw_istore_n (q := 2) (lv' := [(1, .int (2 : Int32)), (0, .ref a)]) gdX7_isNext_0.2.1 rfl (by decide) rfl ?_
  refine aw_locals (lv' := [(0, .ref a), (1, .int (2 : Int32))]) [1, 0] rfl ?_
  exact tX7_isNext_2  N _ _
def fX7_walked_8 (N K : Nat) (p0 : Int32) (p1 : Int32) (p2 : Int32) : Nat → Int32 → (Nat → Int32) → Option (Int32)
  | 0, _, _ => none
  | fu + 1, l4, e_v0 =>
    ((fX7_isOfKind N K e_v0 p0 p2).bind (fun x13 => ((fX7_bit N K x13).bind (fun x16 => ((fX7_isNext N K e_v0).bind (fun x23 => (if x23.1 = 0 then (some (l4 + x16)) else fX7_walked_8 N K p0 p1 p2  fu (l4 + x16) x23.2)))))))
set_option maxHeartbeats 4000000 in
set_option maxRecDepth 100000 in
theorem tX7_walked_8 {N K : Nat} {p0 : Int32} {p1 : Int32} {p2 : Int32} : ∀ (fu : Nat) (l4 : Int32) (e_v0 : Nat → Int32) (v0 : Nat), AW RX7 "walked" cX7_walked 5 (some .int) [] (fun _ _ => True) (4) (PN (U := Int32) (fun zz _ => some (.int zz)) (fun zz ad => [])) 0 0 (fX7_walked_8 N K p0 p1 p2  fu l4 e_v0) 8 [(0, .int p0), (2, .int p2), (3, .ref v0), (4, .int l4)] [] [(v0, .inl (0, 21, .inl e_v0))] := by
  intro fu
  induction fu with
  | zero => intro l4 e_v0 v0; exact aw_none
  | succ fu ih =>
    intro l4 e_v0 v0
    refine aw_iload (q := 10) gdX7_walked_0.2.2.2.2.2.1 rfl 3 rfl ?_
    refine aw_aload_n (q := 11) gdX7_walked_0.2.2.2.2.2.2.1 rfl 2 rfl ?_
    refine aw_iload_n (q := 12) gdX7_walked_0.2.2.2.2.2.2.2 rfl 0 rfl ?_
    refine aw_iload_n (q := 13) gdX7_walked_12.1 rfl 1 rfl ?_
    refine aw_call (q := 16) (kc1 := 0) (ks1 := 0) (wc := [(v0, .inl (0, 21, .inl e_v0))]) (wr := []) (st1 := fun x13 g13 => [.int x13, .int l4]) (ws1 := fun x13 g13 => [(v0, .inl (0, 21, .inl e_v0))]) (As := [.ref v0, .int p0, .int p2]) [0] [] (fun _ => runS gdX7_walked_12.2.1 mi_X7_isOfKind st_X7_isOfKind ml_X7_100 (by omega) rfl (Nat.le_of_ble_eq_true rfl) rfl) (fun x9 h9 => ok_X7_isOfKind h9) rfl rfl rfl rfl rfl (by decide +kernel) (by omega) (by omega) (fun _ _ => rfl) (fun _ _ => rfl) (fun x13 g13 => ?_)
    refine aw_call (q := 19) (kc1 := 0) (ks1 := 0) (wc := []) (wr := [(v0, .inl (0, 21, .inl e_v0))]) (st1 := fun x16 g16 => [.int x16, .int l4]) (ws1 := fun x16 g16 => [(v0, .inl (0, 21, .inl e_v0))]) (As := [.int x13]) [] [0] (fun _ => runS gdX7_walked_12.2.2.1 mi_X7_bit st_X7_bit ml_X7_43 (by omega) rfl (Nat.le_of_ble_eq_true rfl) rfl) (fun x9 h9 => ok_X7_bit h9) rfl rfl rfl rfl rfl (by decide +kernel) (by omega) (by omega) (fun _ _ => rfl) (fun _ _ => rfl) (fun x16 g16 => ?_)
    refine aw_iadd (q := 20) gdX7_walked_12.2.2.2.1 rfl ?_
    refine aw_istore (q := 22) (lv' := [(4, .int (l4 + x16)), (0, .int p0), (2, .int p2), (3, .ref v0)]) gdX7_walked_12.2.2.2.2.1 rfl (by decide) rfl ?_
    refine aw_aload_n (q := 23) gdX7_walked_12.2.2.2.2.2.1 rfl 3 rfl ?_
    refine aw_call (q := 26) (kc1 := 0) (ks1 := 0) (wc := [(v0, .inl (0, 21, .inl e_v0))]) (wr := []) (st1 := fun x23 g23 => [.int x23.1]) (ws1 := fun x23 g23 => [(v0, .inl (0, 21, .inl x23.2))]) (As := [.ref v0]) [0] [] (fun _ => runS gdX7_walked_12.2.2.2.2.2.2.1 mi_X7_isNext st_X7_isNext ml_X7_104 (by omega) rfl (Nat.le_of_ble_eq_true rfl) rfl) (fun x9 h9 => ok_X7_isNext h9) rfl rfl rfl rfl rfl (by decide +kernel) (by omega) (by omega) (fun _ _ => rfl) (fun _ _ => rfl) (fun x23 g23 => ?_)
    refine aw_if_ne (tgt := 8) (q := 29) gdX7_walked_12.2.2.2.2.2.2.2 (by decide) rfl (fun h_26 => ?_) (fun h_26 => ?_)
    · refine aw_locals (lv' := [(0, .int p0), (2, .int p2), (3, .ref v0), (4, .int (l4 + x16))]) [1, 2, 3, 0] rfl ?_
      exact ih _ _ _
    · refine aw_iload (q := 31) gdX7_walked_29.1 rfl 0 rfl ?_
      exact aw_ireturn (w := []) [] gdX7_walked_29.2 rfl rfl rfl rfl (PN.mk (fun _ => 0) rfl rfl)
def fX7_walked (N K : Nat) (p0 : Int32) (p1 : Int32) (p2 : Int32) : Option (Int32) :=
  ((fX7_firstWay N K p1).bind (fun x1 => fX7_walked_8 N K p0 p1 p2  N (0 : Int32) x1))
set_option maxHeartbeats 4000000 in
set_option maxRecDepth 100000 in
theorem ok_X7_walked {N K : Nat} {p0 : Int32} {p1 : Int32} {p2 : Int32} {xr : Int32} (hE : fX7_walked N K p0 p1 p2 = some xr) : OkM yX7_walked (.code yX7_walked cX7_walked 5 (some .int)) (4) 1 21 [.int p0, .int p1, .int p2] [] ((PN (U := Int32) (fun zz _ => some (.int zz)) (fun zz ad => [])) xr) := by
  refine ok_of (by decide) (Nat.le_of_ble_eq_true rfl) hE ?_
  refine aw_locals (lv' := [(0, .int p0), (1, .int p1), (2, .int p2)]) [0, 1, 2] rfl ?_
  refine aw_iload_n (q := 1) gdX7_walked_0.1 rfl 1 rfl ?_
  refine aw_call (q := 4) (kc1 := 0) (ks1 := 0) (wc := []) (wr := []) (st1 := fun x1 g1 => [.ref (g1 0)]) (ws1 := fun x1 g1 => [((g1 0), .inl (0, 21, .inl x1))]) (As := [.int p1]) [] [] (fun _ => runS gdX7_walked_0.2.1 mi_X7_firstWay st_X7_firstWay ml_X7_96 (by omega) rfl (Nat.le_of_ble_eq_true rfl) rfl) (fun x9 h9 => ok_X7_firstWay h9) rfl rfl rfl rfl rfl (by decide +kernel) (by omega) (by omega) (fun _ _ => rfl) (fun _ _ => rfl) (fun x1 g1 => ?_)
  refine aw_astore_n (q := 5) (lv' := [(3, .ref (g1 0)), (0, .int p0), (1, .int p1), (2, .int p2)]) gdX7_walked_0.2.2.1 rfl (by decide) rfl ?_
  refine aw_iconst (q := 6) (v := 0) gdX7_walked_0.2.2.2.1 rfl (by decide) ?_
  refine aw_istore (q := 8) (lv' := [(4, .int (0 : Int32)), (3, .ref (g1 0)), (0, .int p0), (1, .int p1), (2, .int p2)]) gdX7_walked_0.2.2.2.2.1 rfl (by decide) rfl ?_
  refine aw_locals (lv' := [(0, .int p0), (2, .int p2), (3, .ref (g1 0)), (4, .int (0 : Int32))]) [2, 4, 1, 0] rfl ?_
  exact tX7_walked_8  N _ _ _
