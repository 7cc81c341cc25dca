def fX5_rests (N K : Nat) (p0 : Int32) (p1 : Int32) : Option (Int32) :=
  (if p0 ≤ 0 then (some (1 : Int32)) else (if p1 = 0 then (some (1 : Int32)) else (some (0 : Int32))))
set_option maxHeartbeats 4000000 in
set_option maxRecDepth 100000 in
theorem ok_X5_rests {N K : Nat} {p0 : Int32} {p1 : Int32} {xr : Int32} (hE : fX5_rests N K p0 p1 = some xr) : OkM yX5_rests (.code yX5_rests cX5_rests 2 (some .boolean)) (0) 0 0 [.int p0, .int p1] [] ((PN (U := Int32) (fun zz _ => some (.int zz)) (fun zz ad => [])) xr) := by
  refine ok_of (by decide) (Nat.le_of_ble_eq_true rfl) hE ?_
  refine aw_locals (lv' := [(0, .int p0), (1, .int p1)]) [0, 1] rfl ?_
  refine aw_iload_n (q := 1) gdX5_rests_0.1 rfl 0 rfl ?_
  refine aw_if_le (tgt := 8) (q := 4) gdX5_rests_0.2.1 (by decide) rfl (fun h_1 => ?_) (fun h_1 => ?_)
  · refine aw_iconst (q := 9) (v := 1) gdX5_rests_0.2.2.2.2.1 rfl (by decide) ?_
    refine aw_goto (tgt := 13) gdX5_rests_0.2.2.2.2.2.1 (by decide) ?_
    exact aw_ireturn (w := []) [] gdX5_rests_0.2.2.2.2.2.2.2 rfl rfl rfl rfl (PN.mk (fun _ => 0) rfl rfl)
  · refine aw_iload_n (q := 5) gdX5_rests_0.2.2.1 rfl 1 rfl ?_
    refine aw_if_ne (tgt := 12) (q := 8) gdX5_rests_0.2.2.2.1 (by decide) rfl (fun h_5 => ?_) (fun h_5 => ?_)
    · refine aw_iconst (q := 13) (v := 0) gdX5_rests_0.2.2.2.2.2.2.1 rfl (by decide) ?_
      exact aw_ireturn (w := []) [] gdX5_rests_0.2.2.2.2.2.2.2 rfl rfl rfl rfl (PN.mk (fun _ => 0) rfl rfl)
    · refine aw_iconst (q := 9) (v := 1) gdX5_rests_0.2.2.2.2.1 rfl (by decide) ?_
      refine aw_goto (tgt := 13) gdX5_rests_0.2.2.2.2.2.1 (by decide) ?_
      exact aw_ireturn (w := []) [] gdX5_rests_0.2.2.2.2.2.2.2 rfl rfl rfl rfl (PN.mk (fun _ => 0) rfl rfl)
def fX5_restingWorth_16 (N K : Nat) (p0 : Int32) (p1 : Int32) (p2 : Int32)  : Option (Int32) :=
  (if p2 = 0 then (some (1 : Int32)) else (some (0 : Int32)))
set_option maxHeartbeats 4000000 in
set_option maxRecDepth 100000 in
theorem tX5_restingWorth_16 {N K : Nat} {p0 : Int32} {p1 : Int32} {p2 : Int32} : AW RX5 "restingWorth" cX5_restingWorth 3 (some .int) [] (fun _ _ => True) (0) (PN (U := Int32) (fun zz _ => some (.int zz)) (fun zz ad => [])) 0 0 (fX5_restingWorth_16 N K p0 p1 p2  ) 16 [(2, .int p2)] [] [] := by
  refine aw_iload_n (q := 17) gdX5_restingWorth_12.2.2.1 rfl 0 rfl ?_
  refine aw_if_eq (tgt := 24) (q := 20) gdX5_restingWorth_12.2.2.2.1 (by decide) rfl (fun h_17 => ?_) (fun h_17 => ?_)
  · refine aw_iconst (q := 25) (v := 1) gdX5_restingWorth_12.2.2.2.2.2.2.1 rfl (by decide) ?_
    exact aw_ireturn (w := []) [] gdX5_restingWorth_12.2.2.2.2.2.2.2 rfl rfl rfl rfl (PN.mk (fun _ => 0) rfl rfl)
  · refine aw_iconst (q := 21) (v := 0) gdX5_restingWorth_12.2.2.2.2.1 rfl (by decide) ?_
    refine aw_goto (tgt := 25) gdX5_restingWorth_12.2.2.2.2.2.1 (by decide) ?_
    exact aw_ireturn (w := []) [] gdX5_restingWorth_12.2.2.2.2.2.2.2 rfl rfl rfl rfl (PN.mk (fun _ => 0) rfl rfl)
def fX5_restingWorth (N K : Nat) (p0 : Int32) (p1 : Int32) (p2 : Int32) : Option (Int32) :=
  (if p1 = 0 then (if p0 = (1 : Int32) then fX5_restingWorth_16 N K p0 p1 p2   else (if p0 = (5 : Int32) then fX5_restingWorth_16 N K p0 p1 p2   else (some (1 : Int32)))) else (some (0 : Int32)))
set_option maxHeartbeats 4000000 in
set_option maxRecDepth 100000 in
theorem ok_X5_restingWorth {N K : Nat} {p0 : Int32} {p1 : Int32} {p2 : Int32} {xr : Int32} (hE : fX5_restingWorth N K p0 p1 p2 = some xr) : OkM yX5_restingWorth (.code yX5_restingWorth cX5_restingWorth 3 (some .int)) (0) 0 0 [.int p0, .int p1, .int p2] [] ((PN (U := Int32) (fun zz _ => some (.int zz)) (fun zz ad => [])) xr) := by
  refine ok_of (by decide) (Nat.le_of_ble_eq_true rfl) hE ?_
  refine aw_locals (lv' := [(0, .int p0), (1, .int p1), (2, .int p2)]) [0, 1, 2] rfl ?_
  refine aw_iload_n (q := 1) gdX5_restingWorth_0.1 rfl 1 rfl ?_
  refine aw_if_eq (tgt := 6) (q := 4) gdX5_restingWorth_0.2.1 (by decide) rfl (fun h_1 => ?_) (fun h_1 => ?_)
  · refine aw_iload_n (q := 7) gdX5_restingWorth_0.2.2.2.2.1 rfl 0 rfl ?_
    refine aw_iconst (q := 8) (v := 1) gdX5_restingWorth_0.2.2.2.2.2.1 rfl (by decide) ?_
    refine aw_icmp_eq (tgt := 16) (q := 11) gdX5_restingWorth_0.2.2.2.2.2.2.1 (by decide) rfl (fun h_8 => ?_) (fun h_8 => ?_)
    · refine aw_locals (lv' := [(2, .int p2)]) [2] rfl ?_
      exact tX5_restingWorth_16  
    · refine aw_iload_n (q := 12) gdX5_restingWorth_0.2.2.2.2.2.2.2 rfl 0 rfl ?_
      refine aw_iconst (q := 13) (v := 5) gdX5_restingWorth_12.1 rfl (by decide) ?_
      refine aw_icmp_ne (tgt := 24) (q := 16) gdX5_restingWorth_12.2.1 (by decide) rfl (fun h_13 => ?_) (fun h_13 => ?_)
      · refine aw_iconst (q := 25) (v := 1) gdX5_restingWorth_12.2.2.2.2.2.2.1 rfl (by decide) ?_
        exact aw_ireturn (w := []) [] gdX5_restingWorth_12.2.2.2.2.2.2.2 rfl rfl rfl rfl (PN.mk (fun _ => 0) rfl rfl)
      · refine aw_locals (lv' := [(2, .int p2)]) [2] rfl ?_
        exact tX5_restingWorth_16  
  · refine aw_iconst (q := 5) (v := 0) gdX5_restingWorth_0.2.2.1 rfl (by decide) ?_
    exact aw_ireturn (w := []) [] gdX5_restingWorth_0.2.2.2.1 rfl rfl rfl rfl (PN.mk (fun _ => 0) rfl rfl)
def fX2_slotOf (N K : Nat) (p0 : Int32) (p1 : Int32) (p2 : Int32) : Option (Int32) :=
  (if p0 < 0 then (some (-1 : Int32)) else (if (6 : Int32) ≤ p0 then (some (-1 : Int32)) else (if p1 < 0 then (some (-1 : Int32)) else (if (20 : Int32) < p1 then (some (-1 : Int32)) else (if p2 < 0 then (some (-1 : Int32)) else (if p2 ≤ (20 : Int32) then (some ((((p0 * (21 : Int32)) + p1) * (21 : Int32)) + p2)) else (some (-1 : Int32))))))))
set_option maxHeartbeats 4000000 in
set_option maxRecDepth 100000 in
theorem ok_X2_slotOf {N K : Nat} {p0 : Int32} {p1 : Int32} {p2 : Int32} {xr : Int32} (hE : fX2_slotOf N K p0 p1 p2 = some xr) : OkM yX2_slotOf (.code yX2_slotOf cX2_slotOf 3 (some .int)) (0) 0 0 [.int p0, .int p1, .int p2] [] ((PN (U := Int32) (fun zz _ => some (.int zz)) (fun zz ad => [])) xr) := by
  refine ok_of (by decide) (Nat.le_of_ble_eq_true rfl) hE ?_
  refine aw_locals (lv' := [(0, .int p0), (1, .int p1), (2, .int p2)]) [0, 1, 2] rfl ?_
  refine aw_iload_n (q := 1) gdX2_slotOf_0.1 rfl 0 rfl ?_
  refine aw_if_lt (tgt := 30) (q := 4) gdX2_slotOf_0.2.1 (by decide) rfl (fun h_1 => ?_) (fun h_1 => ?_)
  · refine aw_iconst (q := 31) (v := (-1)) gdX2_slotOf_15.2.2.2.2.2.2.2 rfl (by decide) ?_
    exact aw_ireturn (w := []) [] gdX2_slotOf_31.1 rfl rfl rfl rfl (PN.mk (fun _ => 0) rfl rfl)
  · refine aw_iload_n (q := 5) gdX2_slotOf_0.2.2.1 rfl 0 rfl ?_
    refine aw_bipush (q := 7) (v := 6) gdX2_slotOf_0.2.2.2.1 rfl (by decide) ?_
    refine aw_icmp_ge (tgt := 30) (q := 10) gdX2_slotOf_0.2.2.2.2.1 (by decide) rfl (fun h_7 => ?_) (fun h_7 => ?_)
    · refine aw_iconst (q := 31) (v := (-1)) gdX2_slotOf_15.2.2.2.2.2.2.2 rfl (by decide) ?_
      exact aw_ireturn (w := []) [] gdX2_slotOf_31.1 rfl rfl rfl rfl (PN.mk (fun _ => 0) rfl rfl)
    · refine aw_iload_n (q := 11) gdX2_slotOf_0.2.2.2.2.2.1 rfl 1 rfl ?_
      refine aw_if_lt (tgt := 30) (q := 14) gdX2_slotOf_0.2.2.2.2.2.2.1 (by decide) rfl (fun h_11 => ?_) (fun h_11 => ?_)
      · refine aw_iconst (q := 31) (v := (-1)) gdX2_slotOf_15.2.2.2.2.2.2.2 rfl (by decide) ?_
        exact aw_ireturn (w := []) [] gdX2_slotOf_31.1 rfl rfl rfl rfl (PN.mk (fun _ => 0) rfl rfl)
      · refine aw_iload_n (q := 15) gdX2_slotOf_0.2.2.2.2.2.2.2 rfl 1 rfl ?_
        refine aw_bipush (q := 17) (v := 20) gdX2_slotOf_15.1 rfl (by decide) ?_
        refine aw_icmp_gt (tgt := 30) (q := 20) gdX2_slotOf_15.2.1 (by decide) rfl (fun h_17 => ?_) (fun h_17 => ?_)
        · refine aw_iconst (q := 31) (v := (-1)) gdX2_slotOf_15.2.2.2.2.2.2.2 rfl (by decide) ?_
          exact aw_ireturn (w := []) [] gdX2_slotOf_31.1 rfl rfl rfl rfl (PN.mk (fun _ => 0) rfl rfl)
        · refine aw_iload_n (q := 21) gdX2_slotOf_15.2.2.1 rfl 2 rfl ?_
          refine aw_if_lt (tgt := 30) (q := 24) gdX2_slotOf_15.2.2.2.1 (by decide) rfl (fun h_21 => ?_) (fun h_21 => ?_)
          · refine aw_iconst (q := 31) (v := (-1)) gdX2_slotOf_15.2.2.2.2.2.2.2 rfl (by decide) ?_
            exact aw_ireturn (w := []) [] gdX2_slotOf_31.1 rfl rfl rfl rfl (PN.mk (fun _ => 0) rfl rfl)
          · refine aw_iload_n (q := 25) gdX2_slotOf_15.2.2.2.2.1 rfl 2 rfl ?_
            refine aw_bipush (q := 27) (v := 20) gdX2_slotOf_15.2.2.2.2.2.1 rfl (by decide) ?_
            refine aw_icmp_le (tgt := 32) (q := 30) gdX2_slotOf_15.2.2.2.2.2.2.1 (by decide) rfl (fun h_27 => ?_) (fun h_27 => ?_)
            · refine aw_iload_n (q := 33) gdX2_slotOf_31.2.1 rfl 0 rfl ?_
              refine aw_bipush (q := 35) (v := 21) gdX2_slotOf_31.2.2.1 rfl (by decide) ?_
              refine aw_imul (q := 36) gdX2_slotOf_31.2.2.2.1 rfl ?_
              refine aw_iload_n (q := 37) gdX2_slotOf_31.2.2.2.2.1 rfl 1 rfl ?_
              refine aw_iadd (q := 38) gdX2_slotOf_31.2.2.2.2.2.1 rfl ?_
              refine aw_bipush (q := 40) (v := 21) gdX2_slotOf_31.2.2.2.2.2.2.1 rfl (by decide) ?_
              refine aw_imul (q := 41) gdX2_slotOf_31.2.2.2.2.2.2.2 rfl ?_
              refine aw_iload_n (q := 42) gdX2_slotOf_41.1 rfl 2 rfl ?_
              refine aw_iadd (q := 43) gdX2_slotOf_41.2.1 rfl ?_
              exact aw_ireturn (w := []) [] gdX2_slotOf_41.2.2 rfl rfl rfl rfl (PN.mk (fun _ => 0) rfl rfl)
            · refine aw_iconst (q := 31) (v := (-1)) gdX2_slotOf_15.2.2.2.2.2.2.2 rfl (by decide) ?_
              exact aw_ireturn (w := []) [] gdX2_slotOf_31.1 rfl rfl rfl rfl (PN.mk (fun _ => 0) rfl rfl)
def fX2_kindOf (N K : Nat) (p0 : Int32) : Option (Int32) :=
  (some (p0 / (441 : Int32)))
set_option maxHeartbeats 4000000 in
set_option maxRecDepth 100000 in
theorem ok_X2_kindOf {N K : Nat} {p0 : Int32} {xr : Int32} (hE : fX2_kindOf N K p0 = some xr) : OkM yX2_kindOf (.code yX2_kindOf cX2_kindOf 1 (some .int)) (0) 0 0 [.int p0] [] ((PN (U := Int32) (fun zz _ => some (.int zz)) (fun zz ad => [])) xr) := by
  refine ok_of (by decide) (Nat.le_of_ble_eq_true rfl) hE ?_
  refine aw_locals (lv' := [(0, .int p0)]) [0] rfl ?_
  refine aw_iload_n (q := 1) gdX2_kindOf_0.1 rfl 0 rfl ?_
  refine aw_sipush (q := 4) (v := 441) gdX2_kindOf_0.2.1 rfl (by decide) ?_
  refine aw_idivT (q := 5) gdX2_kindOf_0.2.2.1 rfl (by decide) ?_
  exact aw_ireturn (w := []) [] gdX2_kindOf_0.2.2.2 rfl rfl rfl rfl (PN.mk (fun _ => 0) rfl rfl)
def fX2_numberOf (N K : Nat) (p0 : Int32) : Option (Int32) :=
  (some ((p0 / (21 : Int32)) % (21 : Int32)))
set_option maxHeartbeats 4000000 in
set_option maxRecDepth 100000 in
theorem ok_X2_numberOf {N K : Nat} {p0 : Int32} {xr : Int32} (hE : fX2_numberOf N K p0 = some xr) : OkM yX2_numberOf (.code yX2_numberOf cX2_numberOf 1 (some .int)) (0) 0 0 [.int p0] [] ((PN (U := Int32) (fun zz _ => some (.int zz)) (fun zz ad => [])) xr) := by
  refine ok_of (by decide) (Nat.le_of_ble_eq_true rfl) hE ?_
  refine aw_locals (lv' := [(0, .int p0)]) [0] rfl ?_
  refine aw_iload_n (q := 1) gdX2_numberOf_0.1 rfl 0 rfl ?_
  refine aw_bipush (q := 3) (v := 21) gdX2_numberOf_0.2.1 rfl (by decide) ?_
  refine aw_idivT (q := 4) gdX2_numberOf_0.2.2.1 rfl (by decide) ?_
  refine aw_bipush (q := 6) (v := 21) gdX2_numberOf_0.2.2.2.1 rfl (by decide) ?_
  refine aw_iremT (q := 7) gdX2_numberOf_0.2.2.2.2.1 rfl (by decide) ?_
  exact aw_ireturn (w := []) [] gdX2_numberOf_0.2.2.2.2.2 rfl rfl rfl rfl (PN.mk (fun _ => 0) rfl rfl)
def fX2_measureOf (N K : Nat) (p0 : Int32) : Option (Int32) :=
  (some (p0 % (21 : Int32)))
set_option maxHeartbeats 4000000 in
set_option maxRecDepth 100000 in
theorem ok_X2_measureOf {N K : Nat} {p0 : Int32} {xr : Int32} (hE : fX2_measureOf N K p0 = some xr) : OkM yX2_measureOf (.code yX2_measureOf cX2_measureOf 1 (some .int)) (0) 0 0 [.int p0] [] ((PN (U := Int32) (fun zz _ => some (.int zz)) (fun zz ad => [])) xr) := by
  refine ok_of (by decide) (Nat.le_of_ble_eq_true rfl) hE ?_
  refine aw_locals (lv' := [(0, .int p0)]) [0] rfl ?_
  refine aw_iload_n (q := 1) gdX2_measureOf_0.1 rfl 0 rfl ?_
  refine aw_bipush (q := 3) (v := 21) gdX2_measureOf_0.2.1 rfl (by decide) ?_
  refine aw_iremT (q := 4) gdX2_measureOf_0.2.2.1 rfl (by decide) ?_
  exact aw_ireturn (w := []) [] gdX2_measureOf_0.2.2.2 rfl rfl rfl rfl (PN.mk (fun _ => 0) rfl rfl)
def fX2_codeOf (N K : Nat) (p0 : Int32) : Option (Int32) :=
  ((fX2_kindOf N K p0).bind (fun x1 => ((fX2_numberOf N K p0).bind (fun x9 => ((fX2_measureOf N K p0).bind (fun x17 => (some (((x1 * (1024 : Int32)) + (x9 * (32 : Int32))) + x17))))))))
set_option maxHeartbeats 4000000 in
set_option maxRecDepth 100000 in
theorem ok_X2_codeOf {N K : Nat} {p0 : Int32} {xr : Int32} (hE : fX2_codeOf N K p0 = some xr) : OkM yX2_codeOf (.code yX2_codeOf cX2_codeOf 1 (some .int)) (1) 0 0 [.int p0] [] ((PN (U := Int32) (fun zz _ => some (.int zz)) (fun zz ad => [])) xr) := by
  refine ok_of (by decide) (Nat.le_of_ble_eq_true rfl) hE ?_
  refine aw_locals (lv' := [(0, .int p0)]) [0] rfl ?_
  refine aw_iload_n (q := 1) gdX2_codeOf_0.1 rfl 0 rfl ?_
  refine aw_call (q := 4) (kc1 := 0) (ks1 := 0) (wc := []) (wr := []) (st1 := fun x1 g1 => [.int x1]) (ws1 := fun x1 g1 => []) (As := [.int p0]) [] [] (fun _ => runS gdX2_codeOf_0.2.1 mi_X2_kindOf st_X2_kindOf ml_X2_98 (by omega) rfl (Nat.le_of_ble_eq_true rfl) rfl) (fun x9 h9 => ok_X2_kindOf h9) rfl rfl rfl rfl rfl (by decide +kernel) (by omega) (by omega) (fun _ _ => rfl) (fun _ _ => rfl) (fun x1 g1 => ?_)
  refine aw_sipush (q := 7) (v := 1024) gdX2_codeOf_0.2.2.1 rfl (by decide) ?_
  refine aw_imul (q := 8) gdX2_codeOf_0.2.2.2.1 rfl ?_
  refine aw_iload_n (q := 9) gdX2_codeOf_0.2.2.2.2.1 rfl 0 rfl ?_
  refine aw_call (q := 12) (kc1 := 0) (ks1 := 0) (wc := []) (wr := []) (st1 := fun x9 g9 => [.int x9, .int (x1 * (1024 : Int32))]) (ws1 := fun x9 g9 => []) (As := [.int p0]) [] [] (fun _ => runS gdX2_codeOf_0.2.2.2.2.2.1 mi_X2_numberOf st_X2_numberOf ml_X2_92 (by omega) rfl (Nat.le_of_ble_eq_true rfl) rfl) (fun x9 h9 => ok_X2_numberOf h9) rfl rfl rfl rfl rfl (by decide +kernel) (by omega) (by omega) (fun _ _ => rfl) (fun _ _ => rfl) (fun x9 g9 => ?_)
  refine aw_bipush (q := 14) (v := 32) gdX2_codeOf_0.2.2.2.2.2.2.1 rfl (by decide) ?_
  refine aw_imul (q := 15) gdX2_codeOf_0.2.2.2.2.2.2.2 rfl ?_
  refine aw_iadd (q := 16) gdX2_codeOf_15.1 rfl ?_
  refine aw_iload_n (q := 17) gdX2_codeOf_15.2.1 rfl 0 rfl ?_
  refine aw_call (q := 20) (kc1 := 0) (ks1 := 0) (wc := []) (wr := []) (st1 := fun x17 g17 => [.int x17, .int ((x1 * (1024 : Int32)) + (x9 * (32 : Int32)))]) (ws1 := fun x17 g17 => []) (As := [.int p0]) [] [] (fun _ => runS gdX2_codeOf_15.2.2.1 mi_X2_measureOf st_X2_measureOf ml_X2_95 (by omega) rfl (Nat.le_of_ble_eq_true rfl) rfl) (fun x9 h9 => ok_X2_measureOf h9) rfl rfl rfl rfl rfl (by decide +kernel) (by omega) (by omega) (fun _ _ => rfl) (fun _ _ => rfl) (fun x17 g17 => ?_)
  refine aw_iadd (q := 21) gdX2_codeOf_15.2.2.2.1 rfl ?_
  exact aw_ireturn (w := []) [] gdX2_codeOf_15.2.2.2.2 rfl rfl rfl rfl (PN.mk (fun _ => 0) rfl rfl)
def fX2_size (N K : Nat) (sz : Int32) (f : Nat → Int32) : Option (Int32) :=
  (some sz)
set_option maxHeartbeats 4000000 in
set_option maxRecDepth 100000 in
theorem ok_X2_size {N K : Nat} {h a : Nat} {sz : Int32} {f : Nat → Int32} {xr : Int32} (hE : fX2_size N K sz f = some xr) : OkM yX2_size (.code yX2_size cX2_size 1 (some .int)) (0) 0 0 [.ref h] [(h, .inr (4, [.ref a, .int sz])), (a, .inl (0, 2646, .inl f))] ((PN (U := Int32) (fun zz _ => some (.int zz)) (fun zz ad => [(h, .inr (4, [.ref a, .int sz])), (a, .inl (0, 2646, .inl f))])) xr) := by
  refine ok_of (by decide) (Nat.le_of_ble_eq_true rfl) hE ?_
  refine aw_locals (lv' := [(0, .ref h)]) [0] rfl ?_
  refine aw_aload_n (q := 1) gdX2_size_0.1 rfl 0 rfl ?_
  refine aw_get (q := 4) gdX2_size_0.2.1 rfl fl_X2_21 0 rfl rfl ?_
  exact aw_ireturn (w := [(h, .inr (4, [.ref a, .int sz])), (a, .inl (0, 2646, .inl f))]) [0, 1] gdX2_size_0.2.2 rfl rfl rfl rfl (PN.mk (fun _ => 0) rfl rfl)
def fX2_keptWorth (N K : Nat) (sz : Int32) (f : Nat → Int32) (p0 : Int32) (p1 : Int32) (p2 : Int32) : Option (Int32) :=
  ((fX2_slotOf N K p0 p1 p2).bind (fun x3 => (if x3 = (-1 : Int32) then (some (-1 : Int32)) else (if x3 < 0 ∨ 2646 ≤ x3.toNatClampNeg then none else (some (f x3.toNatClampNeg))))))
set_option maxHeartbeats 4000000 in
set_option maxRecDepth 100000 in
theorem ok_X2_keptWorth {N K : Nat} {h a : Nat} {sz : Int32} {f : Nat → Int32} {p0 : Int32} {p1 : Int32} {p2 : Int32} {xr : Int32} (hE : fX2_keptWorth N K sz f p0 p1 p2 = some xr) : OkM yX2_keptWorth (.code yX2_keptWorth cX2_keptWorth 5 (some .int)) (1) 0 0 [.ref h, .int p0, .int p1, .int p2] [(h, .inr (4, [.ref a, .int sz])), (a, .inl (0, 2646, .inl f))] ((PN (U := Int32) (fun zz _ => some (.int zz)) (fun zz ad => [(h, .inr (4, [.ref a, .int sz])), (a, .inl (0, 2646, .inl f))])) xr) := by
  refine ok_of (by decide) (Nat.le_of_ble_eq_true rfl) hE ?_
  refine aw_locals (lv' := [(0, .ref h), (1, .int p0), (2, .int p1), (3, .int p2)]) [0, 1, 2, 3] rfl ?_
  refine aw_iload_n (q := 1) gdX2_keptWorth_0.1 rfl 1 rfl ?_
  refine aw_iload_n (q := 2) gdX2_keptWorth_0.2.1 rfl 2 rfl ?_
  refine aw_iload_n (q := 3) gdX2_keptWorth_0.2.2.1 rfl 3 rfl ?_
  refine aw_call (q := 6) (kc1 := 0) (ks1 := 0) (wc := []) (wr := [(h, .inr (4, [.ref a, .int sz])), (a, .inl (0, 2646, .inl f))]) (st1 := fun x3 g3 => [.int x3]) (ws1 := fun x3 g3 => [(h, .inr (4, [.ref a, .int sz])), (a, .inl (0, 2646, .inl f))]) (As := [.int p0, .int p1, .int p2]) [] [0, 1] (fun _ => runS gdX2_keptWorth_0.2.2.2.1 mi_X2_slotOf st_X2_slotOf ml_X2_37 (by omega) rfl (Nat.le_of_ble_eq_true rfl) rfl) (fun x9 h9 => ok_X2_slotOf h9) rfl rfl rfl rfl rfl (by decide +kernel) (by omega) (by omega) (fun _ _ => rfl) (fun _ _ => rfl) (fun x3 g3 => ?_)
  refine aw_istore (q := 8) (lv' := [(4, .int x3), (0, .ref h), (1, .int p0), (2, .int p1), (3, .int p2)]) gdX2_keptWorth_0.2.2.2.2.1 rfl (by decide) rfl ?_
  refine aw_iload (q := 10) gdX2_keptWorth_0.2.2.2.2.2.1 rfl 0 rfl ?_
  refine aw_iconst (q := 11) (v := (-1)) gdX2_keptWorth_0.2.2.2.2.2.2.1 rfl (by decide) ?_
  refine aw_icmp_ne (tgt := 18) (q := 14) gdX2_keptWorth_0.2.2.2.2.2.2.2 (by decide) rfl (fun h_11 => ?_) (fun h_11 => ?_)
  · refine aw_aload_n (q := 19) gdX2_keptWorth_14.2.2.1 rfl 1 rfl ?_
    refine aw_get (q := 22) gdX2_keptWorth_14.2.2.2.1 rfl fl_X2_11 0 rfl rfl ?_
    refine aw_iload (q := 24) gdX2_keptWorth_14.2.2.2.2.1 rfl 0 rfl ?_
    refine aw_iald (q := 25) gdX2_keptWorth_14.2.2.2.2.2.1 rfl 1 rfl ?_
    exact aw_ireturn (w := [(h, .inr (4, [.ref a, .int sz])), (a, .inl (0, 2646, .inl f))]) [0, 1] gdX2_keptWorth_14.2.2.2.2.2.2 rfl rfl rfl rfl (PN.mk (fun _ => 0) rfl rfl)
  · refine aw_iconst (q := 15) (v := (-1)) gdX2_keptWorth_14.1 rfl (by decide) ?_
    refine aw_goto (tgt := 25) gdX2_keptWorth_14.2.1 (by decide) ?_
    exact aw_ireturn (w := [(h, .inr (4, [.ref a, .int sz])), (a, .inl (0, 2646, .inl f))]) [0, 1] gdX2_keptWorth_14.2.2.2.2.2.2 rfl rfl rfl rfl (PN.mk (fun _ => 0) rfl rfl)
def fX2_keeps (N K : Nat) (sz : Int32) (f : Nat → Int32) (p0 : Int32) (p1 : Int32) (p2 : Int32) : Option (Int32) :=
  ((fX2_keptWorth N K sz f p0 p1 p2).bind (fun x4 => (if x4 = (-1 : Int32) then (some (0 : Int32)) else (some (1 : Int32)))))
set_option maxHeartbeats 4000000 in
set_option maxRecDepth 100000 in
theorem ok_X2_keeps {N K : Nat} {h a : Nat} {sz : Int32} {f : Nat → Int32} {p0 : Int32} {p1 : Int32} {p2 : Int32} {xr : Int32} (hE : fX2_keeps N K sz f p0 p1 p2 = some xr) : OkM yX2_keeps (.code yX2_keeps cX2_keeps 4 (some .boolean)) (2) 0 0 [.ref h, .int p0, .int p1, .int p2] [(h, .inr (4, [.ref a, .int sz])), (a, .inl (0, 2646, .inl f))] ((PN (U := Int32) (fun zz _ => some (.int zz)) (fun zz ad => [(h, .inr (4, [.ref a, .int sz])), (a, .inl (0, 2646, .inl f))])) xr) := by
  refine ok_of (by decide) (Nat.le_of_ble_eq_true rfl) hE ?_
  refine aw_locals (lv' := [(0, .ref h), (1, .int p0), (2, .int p1), (3, .int p2)]) [0, 1, 2, 3] rfl ?_
  refine aw_aload_n (q := 1) gdX2_keeps_0.1 rfl 0 rfl ?_
  refine aw_iload_n (q := 2) gdX2_keeps_0.2.1 rfl 1 rfl ?_
  refine aw_iload_n (q := 3) gdX2_keeps_0.2.2.1 rfl 2 rfl ?_
  refine aw_iload_n (q := 4) gdX2_keeps_0.2.2.2.1 rfl 3 rfl ?_
  refine aw_call (q := 7) (kc1 := 0) (ks1 := 0) (wc := [(h, .inr (4, [.ref a, .int sz])), (a, .inl (0, 2646, .inl f))]) (wr := []) (st1 := fun x4 g4 => [.int x4]) (ws1 := fun x4 g4 => [(h, .inr (4, [.ref a, .int sz])), (a, .inl (0, 2646, .inl f))]) (As := [.ref h, .int p0, .int p1, .int p2]) [0, 1] [] (fun _ => runV (q0 := 0) gdX2_keeps_0.2.2.2.2.1 mi_X2_keptWorth im_X2_keptWorth se_X2_keptWorth ml_X2_58 (by omega) rfl (Nat.le_of_ble_eq_true rfl) rfl rfl rfl rfl) (fun x9 h9 => ok_X2_keptWorth h9) rfl rfl rfl rfl rfl (by decide +kernel) (by omega) (by omega) (fun _ _ => rfl) (fun _ _ => rfl) (fun x4 g4 => ?_)
  refine aw_iconst (q := 8) (v := (-1)) gdX2_keeps_0.2.2.2.2.2.1 rfl (by decide) ?_
  refine aw_icmp_eq (tgt := 15) (q := 11) gdX2_keeps_0.2.2.2.2.2.2.1 (by decide) rfl (fun h_8 => ?_) (fun h_8 => ?_)
  · refine aw_iconst (q := 16) (v := 0) gdX2_keeps_12.2.1 rfl (by decide) ?_
    exact aw_ireturn (w := [(h, .inr (4, [.ref a, .int sz])), (a, .inl (0, 2646, .inl f))]) [0, 1] gdX2_keeps_12.2.2 rfl rfl rfl rfl (PN.mk (fun _ => 0) rfl rfl)
  · refine aw_iconst (q := 12) (v := 1) gdX2_keeps_0.2.2.2.2.2.2.2 rfl (by decide) ?_
    refine aw_goto (tgt := 16) gdX2_keeps_12.1 (by decide) ?_
    exact aw_ireturn (w := [(h, .inr (4, [.ref a, .int sz])), (a, .inl (0, 2646, .inl f))]) [0, 1] gdX2_keeps_12.2.2 rfl rfl rfl rfl (PN.mk (fun _ => 0) rfl rfl)
def fX2_keepsWith (N K : Nat) (sz : Int32) (f : Nat → Int32) (p0 : Int32) (p1 : Int32) (p2 : Int32) (p3 : Int32) : Option (Int32) :=
  ((fX2_keeps N K sz f p0 p1 p2).bind (fun x4 => (if x4 = 0 then (some (0 : Int32)) else ((fX2_keptWorth N K sz f p0 p1 p2).bind (fun x14 => (if x14 = p3 then (some (1 : Int32)) else (some (0 : Int32))))))))
set_option maxHeartbeats 4000000 in
set_option maxRecDepth 100000 in
theorem ok_X2_keepsWith {N K : Nat} {h a : Nat} {sz : Int32} {f : Nat → Int32} {p0 : Int32} {p1 : Int32} {p2 : Int32} {p3 : Int32} {xr : Int32} (hE : fX2_keepsWith N K sz f p0 p1 p2 p3 = some xr) : OkM yX2_keepsWith (.code yX2_keepsWith cX2_keepsWith 5 (some .boolean)) (3) 0 0 [.ref h, .int p0, .int p1, .int p2, .int p3] [(h, .inr (4, [.ref a, .int sz])), (a, .inl (0, 2646, .inl f))] ((PN (U := Int32) (fun zz _ => some (.int zz)) (fun zz ad => [(h, .inr (4, [.ref a, .int sz])), (a, .inl (0, 2646, .inl f))])) xr) := by
  refine ok_of (by decide) (Nat.le_of_ble_eq_true rfl) hE ?_
  refine aw_locals (lv' := [(0, .ref h), (1, .int p0), (2, .int p1), (3, .int p2), (4, .int p3)]) [0, 1, 2, 3, 4] rfl ?_
  refine aw_aload_n (q := 1) gdX2_keepsWith_0.1 rfl 0 rfl ?_
  refine aw_iload_n (q := 2) gdX2_keepsWith_0.2.1 rfl 1 rfl ?_
  refine aw_iload_n (q := 3) gdX2_keepsWith_0.2.2.1 rfl 2 rfl ?_
  refine aw_iload_n (q := 4) gdX2_keepsWith_0.2.2.2.1 rfl 3 rfl ?_
  refine aw_call (q := 7) (kc1 := 0) (ks1 := 0) (wc := [(h, .inr (4, [.ref a, .int sz])), (a, .inl (0, 2646, .inl f))]) (wr := []) (st1 := fun x4 g4 => [.int x4]) (ws1 := fun x4 g4 => [(h, .inr (4, [.ref a, .int sz])), (a, .inl (0, 2646, .inl f))]) (As := [.ref h, .int p0, .int p1, .int p2]) [0, 1] [] (fun _ => runV (q0 := 0) gdX2_keepsWith_0.2.2.2.2.1 mi_X2_keeps im_X2_keeps se_X2_keeps ml_X2_61 (by omega) rfl (Nat.le_of_ble_eq_true rfl) rfl rfl rfl rfl) (fun x9 h9 => ok_X2_keeps h9) rfl rfl rfl rfl rfl (by decide +kernel) (by omega) (by omega) (fun _ _ => rfl) (fun _ _ => rfl) (fun x4 g4 => ?_)
  refine aw_if_eq (tgt := 26) (q := 10) gdX2_keepsWith_0.2.2.2.2.2.1 (by decide) rfl (fun h_7 => ?_) (fun h_7 => ?_)
  · refine aw_iconst (q := 27) (v := 0) gdX2_keepsWith_12.2.2.2.2.2.2.2 rfl (by decide) ?_
    exact aw_ireturn (w := [(h, .inr (4, [.ref a, .int sz])), (a, .inl (0, 2646, .inl f))]) [0, 1] dX2_keepsWith_27 rfl rfl rfl rfl (PN.mk (fun _ => 0) rfl rfl)
  · refine aw_aload_n (q := 11) gdX2_keepsWith_0.2.2.2.2.2.2.1 rfl 0 rfl ?_
    refine aw_iload_n (q := 12) gdX2_keepsWith_0.2.2.2.2.2.2.2 rfl 1 rfl ?_
    refine aw_iload_n (q := 13) gdX2_keepsWith_12.1 rfl 2 rfl ?_
    refine aw_iload_n (q := 14) gdX2_keepsWith_12.2.1 rfl 3 rfl ?_
    refine aw_call (q := 17) (kc1 := 0) (ks1 := 0) (wc := [(h, .inr (4, [.ref a, .int sz])), (a, .inl (0, 2646, .inl f))]) (wr := []) (st1 := fun x14 g14 => [.int x14]) (ws1 := fun x14 g14 => [(h, .inr (4, [.ref a, .int sz])), (a, .inl (0, 2646, .inl f))]) (As := [.ref h, .int p0, .int p1, .int p2]) [0, 1] [] (fun _ => runV (q0 := 0) gdX2_keepsWith_12.2.2.1 mi_X2_keptWorth im_X2_keptWorth se_X2_keptWorth ml_X2_58 (by omega) rfl (Nat.le_of_ble_eq_true rfl) rfl rfl rfl rfl) (fun x9 h9 => ok_X2_keptWorth h9) rfl rfl rfl rfl rfl (by decide +kernel) (by omega) (by omega) (fun _ _ => rfl) (fun _ _ => rfl) (fun x14 g14 => ?_)
    refine aw_iload (q := 19) gdX2_keepsWith_12.2.2.2.1 rfl 4 rfl ?_
    refine aw_icmp_ne (tgt := 26) (q := 22) gdX2_keepsWith_12.2.2.2.2.1 (by decide) rfl (fun h_19 => ?_) (fun h_19 => ?_)
    · refine aw_iconst (q := 27) (v := 0) gdX2_keepsWith_12.2.2.2.2.2.2.2 rfl (by decide) ?_
      exact aw_ireturn (w := [(h, .inr (4, [.ref a, .int sz])), (a, .inl (0, 2646, .inl f))]) [0, 1] dX2_keepsWith_27 rfl rfl rfl rfl (PN.mk (fun _ => 0) rfl rfl)
    · refine aw_iconst (q := 23) (v := 1) gdX2_keepsWith_12.2.2.2.2.2.1 rfl (by decide) ?_
      refine aw_goto (tgt := 27) gdX2_keepsWith_12.2.2.2.2.2.2.1 (by decide) ?_
      exact aw_ireturn (w := [(h, .inr (4, [.ref a, .int sz])), (a, .inl (0, 2646, .inl f))]) [0, 1] dX2_keepsWith_27 rfl rfl rfl rfl (PN.mk (fun _ => 0) rfl rfl)
def fX2_keep (N K : Nat) (sz : Int32) (f : Nat → Int32) (p0 : Int32) (p1 : Int32) (p2 : Int32) (p3 : Int32) : Option (Int32 × (Nat → Int32)) :=
  ((fX2_slotOf N K p0 p1 p2).bind (fun x3 => (if x3 = (-1 : Int32) then (some (sz, f)) else (if x3 < 0 ∨ 2646 ≤ x3.toNatClampNeg then none else (if (f x3.toNatClampNeg) = (-1 : Int32) then (if x3 < 0 ∨ 2646 ≤ x3.toNatClampNeg then none else (some ((sz + (1 : Int32)), (upd f x3.toNatClampNeg p3)))) else (if x3 < 0 ∨ 2646 ≤ x3.toNatClampNeg then none else (some (sz, (upd f x3.toNatClampNeg p3)))))))))
set_option maxHeartbeats 4000000 in
set_option maxRecDepth 100000 in
theorem ok_X2_keep {N K : Nat} {h a : Nat} {sz : Int32} {f : Nat → Int32} {p0 : Int32} {p1 : Int32} {p2 : Int32} {p3 : Int32} {xr : Int32 × (Nat → Int32)} (hE : fX2_keep N K sz f p0 p1 p2 p3 = some xr) : OkM yX2_keep (.code yX2_keep cX2_keep 6 none) (1) 0 0 [.ref h, .int p0, .int p1, .int p2, .int p3] [(h, .inr (4, [.ref a, .int sz])), (a, .inl (0, 2646, .inl f))] ((PN (U := Int32 × (Nat → Int32)) (fun _ _ => none) (fun zz ad => [(h, .inr (4, [.ref a, .int zz.1])), (a, .inl (0, 2646, .inl zz.2))])) xr) := by
  refine ok_of (by decide) (Nat.le_of_ble_eq_true rfl) hE ?_
  refine aw_locals (lv' := [(0, .ref h), (1, .int p0), (2, .int p1), (3, .int p2), (4, .int p3)]) [0, 1, 2, 3, 4] rfl ?_
  refine aw_iload_n (q := 1) gdX2_keep_0.1 rfl 1 rfl ?_
  refine aw_iload_n (q := 2) gdX2_keep_0.2.1 rfl 2 rfl ?_
  refine aw_iload_n (q := 3) gdX2_keep_0.2.2.1 rfl 3 rfl ?_
  refine aw_call (q := 6) (kc1 := 0) (ks1 := 0) (wc := []) (wr := [(h, .inr (4, [.ref a, .int sz])), (a, .inl (0, 2646, .inl f))]) (st1 := fun x3 g3 => [.int x3]) (ws1 := fun x3 g3 => [(h, .inr (4, [.ref a, .int sz])), (a, .inl (0, 2646, .inl f))]) (As := [.int p0, .int p1, .int p2]) [] [0, 1] (fun _ => runS gdX2_keep_0.2.2.2.1 mi_X2_slotOf st_X2_slotOf ml_X2_37 (by omega) rfl (Nat.le_of_ble_eq_true rfl) rfl) (fun x9 h9 => ok_X2_slotOf h9) rfl rfl rfl rfl rfl (by decide +kernel) (by omega) (by omega) (fun _ _ => rfl) (fun _ _ => rfl) (fun x3 g3 => ?_)
  refine aw_istore (q := 8) (lv' := [(5, .int x3), (0, .ref h), (1, .int p0), (2, .int p1), (3, .int p2), (4, .int p3)]) gdX2_keep_0.2.2.2.2.1 rfl (by decide) rfl ?_
  refine aw_iload (q := 10) gdX2_keep_0.2.2.2.2.2.1 rfl 0 rfl ?_
  refine aw_iconst (q := 11) (v := (-1)) gdX2_keep_0.2.2.2.2.2.2.1 rfl (by decide) ?_
  refine aw_icmp_ne (tgt := 15) (q := 14) gdX2_keep_0.2.2.2.2.2.2.2 (by decide) rfl (fun h_11 => ?_) (fun h_11 => ?_)
  · refine aw_aload_n (q := 16) gdX2_keep_14.2.1 rfl 1 rfl ?_
    refine aw_get (q := 19) gdX2_keep_14.2.2.1 rfl fl_X2_11 0 rfl rfl ?_
    refine aw_iload (q := 21) gdX2_keep_14.2.2.2.1 rfl 0 rfl ?_
    refine aw_iald (q := 22) gdX2_keep_14.2.2.2.2.1 rfl 1 rfl ?_
    refine aw_iconst (q := 23) (v := (-1)) gdX2_keep_14.2.2.2.2.2.1 rfl (by decide) ?_
    refine aw_icmp_ne (tgt := 36) (q := 26) gdX2_keep_14.2.2.2.2.2.2.1 (by decide) rfl (fun h_23 => ?_) (fun h_23 => ?_)
    · refine aw_aload_n (q := 37) gdX2_keep_27.2.2.2.2.2.1 rfl 1 rfl ?_
      refine aw_get (q := 40) gdX2_keep_27.2.2.2.2.2.2.1 rfl fl_X2_11 0 rfl rfl ?_
      refine aw_iload (q := 42) gdX2_keep_27.2.2.2.2.2.2.2 rfl 0 rfl ?_
      refine aw_iload (q := 44) gdX2_keep_42.1 rfl 5 rfl ?_
      refine aw_iast (q := 45) (ws' := [(h, .inr (4, [.ref a, .int sz])), (a, .inl (0, 2646, .inl (upd f x3.toNatClampNeg p3)))]) gdX2_keep_42.2.1 rfl 1 rfl rfl ?_
      exact aw_return (w := [(h, .inr (4, [.ref a, .int sz])), (a, .inl (0, 2646, .inl (upd f x3.toNatClampNeg p3)))]) [0, 1] gdX2_keep_42.2.2 rfl rfl rfl (PN.mk (fun _ => 0) rfl rfl)
    · refine aw_aload_n (q := 27) gdX2_keep_14.2.2.2.2.2.2.2 rfl 1 rfl ?_
      refine aw_dup (q := 28) gdX2_keep_27.1 rfl rfl ?_
      refine aw_get (q := 31) gdX2_keep_27.2.1 rfl fl_X2_21 0 rfl rfl ?_
      refine aw_iconst (q := 32) (v := 1) gdX2_keep_27.2.2.1 rfl (by decide) ?_
      refine aw_iadd (q := 33) gdX2_keep_27.2.2.2.1 rfl ?_
      refine aw_put (q := 36) (ws' := [(h, .inr (4, [.ref a, .int (sz + (1 : Int32))])), (a, .inl (0, 2646, .inl f))]) gdX2_keep_27.2.2.2.2.1 rfl fl_X2_21 0 rfl rfl rfl (Nat.le_of_ble_eq_true rfl) rfl ?_
      refine aw_aload_n (q := 37) gdX2_keep_27.2.2.2.2.2.1 rfl 1 rfl ?_
      refine aw_get (q := 40) gdX2_keep_27.2.2.2.2.2.2.1 rfl fl_X2_11 0 rfl rfl ?_
      refine aw_iload (q := 42) gdX2_keep_27.2.2.2.2.2.2.2 rfl 0 rfl ?_
      refine aw_iload (q := 44) gdX2_keep_42.1 rfl 5 rfl ?_
      refine aw_iast (q := 45) (ws' := [(h, .inr (4, [.ref a, .int (sz + (1 : Int32))])), (a, .inl (0, 2646, .inl (upd f x3.toNatClampNeg p3)))]) gdX2_keep_42.2.1 rfl 1 rfl rfl ?_
      exact aw_return (w := [(h, .inr (4, [.ref a, .int (sz + (1 : Int32))])), (a, .inl (0, 2646, .inl (upd f x3.toNatClampNeg p3)))]) [0, 1] gdX2_keep_42.2.2 rfl rfl rfl (PN.mk (fun _ => 0) rfl rfl)
  · exact aw_return (w := [(h, .inr (4, [.ref a, .int sz])), (a, .inl (0, 2646, .inl f))]) [0, 1] gdX2_keep_14.1 rfl rfl rfl (PN.mk (fun _ => 0) rfl rfl)
def fX2_drop (N K : Nat) (sz : Int32) (f : Nat → Int32) (p0 : Int32) (p1 : Int32) (p2 : Int32) : Option (Int32 × (Nat → Int32)) :=
  ((fX2_slotOf N K p0 p1 p2).bind (fun x3 => (if x3 = (-1 : Int32) then (some (sz, f)) else (if x3 < 0 ∨ 2646 ≤ x3.toNatClampNeg then none else (if (f x3.toNatClampNeg) = (-1 : Int32) then (some (sz, f)) else (if x3 < 0 ∨ 2646 ≤ x3.toNatClampNeg then none else (some ((sz - (1 : Int32)), (upd f x3.toNatClampNeg (-1 : Int32))))))))))
set_option maxHeartbeats 4000000 in
set_option maxRecDepth 100000 in
theorem ok_X2_drop {N K : Nat} {h a : Nat} {sz : Int32} {f : Nat → Int32} {p0 : Int32} {p1 : Int32} {p2 : Int32} {xr : Int32 × (Nat → Int32)} (hE : fX2_drop N K sz f p0 p1 p2 = some xr) : OkM yX2_drop (.code yX2_drop cX2_drop 5 none) (1) 0 0 [.ref h, .int p0, .int p1, .int p2] [(h, .inr (4, [.ref a, .int sz])), (a, .inl (0, 2646, .inl f))] ((PN (U := Int32 × (Nat → Int32)) (fun _ _ => none) (fun zz ad => [(h, .inr (4, [.ref a, .int zz.1])), (a, .inl (0, 2646, .inl zz.2))])) xr) := by
  refine ok_of (by decide) (Nat.le_of_ble_eq_true rfl) hE ?_
  refine aw_locals (lv' := [(0, .ref h), (1, .int p0), (2, .int p1), (3, .int p2)]) [0, 1, 2, 3] rfl ?_
  refine aw_iload_n (q := 1) gdX2_drop_0.1 rfl 1 rfl ?_
  refine aw_iload_n (q := 2) gdX2_drop_0.2.1 rfl 2 rfl ?_
  refine aw_iload_n (q := 3) gdX2_drop_0.2.2.1 rfl 3 rfl ?_
  refine aw_call (q := 6) (kc1 := 0) (ks1 := 0) (wc := []) (wr := [(h, .inr (4, [.ref a, .int sz])), (a, .inl (0, 2646, .inl f))]) (st1 := fun x3 g3 => [.int x3]) (ws1 := fun x3 g3 => [(h, .inr (4, [.ref a, .int sz])), (a, .inl (0, 2646, .inl f))]) (As := [.int p0, .int p1, .int p2]) [] [0, 1] (fun _ => runS gdX2_drop_0.2.2.2.1 mi_X2_slotOf st_X2_slotOf ml_X2_37 (by omega) rfl (Nat.le_of_ble_eq_true rfl) rfl) (fun x9 h9 => ok_X2_slotOf h9) rfl rfl rfl rfl rfl (by decide +kernel) (by omega) (by omega) (fun _ _ => rfl) (fun _ _ => rfl) (fun x3 g3 => ?_)
  refine aw_istore (q := 8) (lv' := [(4, .int x3), (0, .ref h), (1, .int p0), (2, .int p1), (3, .int p2)]) gdX2_drop_0.2.2.2.2.1 rfl (by decide) rfl ?_
  refine aw_iload (q := 10) gdX2_drop_0.2.2.2.2.2.1 rfl 0 rfl ?_
  refine aw_iconst (q := 11) (v := (-1)) gdX2_drop_0.2.2.2.2.2.2.1 rfl (by decide) ?_
  refine aw_icmp_eq (tgt := 43) (q := 14) gdX2_drop_0.2.2.2.2.2.2.2 (by decide) rfl (fun h_11 => ?_) (fun h_11 => ?_)
  · exact aw_return (w := [(h, .inr (4, [.ref a, .int sz])), (a, .inl (0, 2646, .inl f))]) [0, 1] gdX2_drop_40.2 rfl rfl rfl (PN.mk (fun _ => 0) rfl rfl)
  · refine aw_aload_n (q := 15) gdX2_drop_14.1 rfl 1 rfl ?_
    refine aw_get (q := 18) gdX2_drop_14.2.1 rfl fl_X2_11 0 rfl rfl ?_
    refine aw_iload (q := 20) gdX2_drop_14.2.2.1 rfl 0 rfl ?_
    refine aw_iald (q := 21) gdX2_drop_14.2.2.2.1 rfl 1 rfl ?_
    refine aw_iconst (q := 22) (v := (-1)) gdX2_drop_14.2.2.2.2.1 rfl (by decide) ?_
    refine aw_icmp_eq (tgt := 43) (q := 25) gdX2_drop_14.2.2.2.2.2.1 (by decide) rfl (fun h_22 => ?_) (fun h_22 => ?_)
    · exact aw_return (w := [(h, .inr (4, [.ref a, .int sz])), (a, .inl (0, 2646, .inl f))]) [0, 1] gdX2_drop_40.2 rfl rfl rfl (PN.mk (fun _ => 0) rfl rfl)
    · refine aw_aload_n (q := 26) gdX2_drop_14.2.2.2.2.2.2.1 rfl 1 rfl ?_
      refine aw_get (q := 29) gdX2_drop_14.2.2.2.2.2.2.2 rfl fl_X2_11 0 rfl rfl ?_
      refine aw_iload (q := 31) gdX2_drop_29.1 rfl 0 rfl ?_
      refine aw_iconst (q := 32) (v := (-1)) gdX2_drop_29.2.1 rfl (by decide) ?_
      refine aw_iast (q := 33) (ws' := [(h, .inr (4, [.ref a, .int sz])), (a, .inl (0, 2646, .inl (upd f x3.toNatClampNeg (-1 : Int32))))]) gdX2_drop_29.2.2.1 rfl 1 rfl rfl ?_
      refine aw_aload_n (q := 34) gdX2_drop_29.2.2.2.1 rfl 1 rfl ?_
      refine aw_dup (q := 35) gdX2_drop_29.2.2.2.2.1 rfl rfl ?_
      refine aw_get (q := 38) gdX2_drop_29.2.2.2.2.2.1 rfl fl_X2_21 0 rfl rfl ?_
      refine aw_iconst (q := 39) (v := 1) gdX2_drop_29.2.2.2.2.2.2.1 rfl (by decide) ?_
      refine aw_isub (q := 40) gdX2_drop_29.2.2.2.2.2.2.2 rfl ?_
      refine aw_put (q := 43) (ws' := [(h, .inr (4, [.ref a, .int (sz - (1 : Int32))])), (a, .inl (0, 2646, .inl (upd f x3.toNatClampNeg (-1 : Int32))))]) gdX2_drop_40.1 rfl fl_X2_21 0 rfl rfl rfl (Nat.le_of_ble_eq_true rfl) rfl ?_
      exact aw_return (w := [(h, .inr (4, [.ref a, .int (sz - (1 : Int32))])), (a, .inl (0, 2646, .inl (upd f x3.toNatClampNeg (-1 : Int32))))]) [0, 1] gdX2_drop_40.2 rfl rfl rfl (PN.mk (fun _ => 0) rfl rfl)
def fX2_aspect (N K : Nat) (sz : Int32) (f : Nat → Int32) (p0 : Int32) (p1 : Int32) : Option (Int32) :=
  (if p1 = (0 : Int32) then ((fX2_kindOf N K p0).bind (fun x29 => (some x29))) else (if p1 = (1 : Int32) then ((fX2_numberOf N K p0).bind (fun x34 => (some x34))) else (if p1 = (2 : Int32) then ((fX2_measureOf N K p0).bind (fun x39 => (some x39))) else (if p0 < 0 then (some (-1 : Int32)) else (if p0 < (2646 : Int32) then (if p0 < 0 ∨ 2646 ≤ p0.toNatClampNeg then none else (some (f p0.toNatClampNeg))) else (some (-1 : Int32)))))))
set_option maxHeartbeats 4000000 in
set_option maxRecDepth 100000 in
theorem ok_X2_aspect {N K : Nat} {h a : Nat} {sz : Int32} {f : Nat → Int32} {p0 : Int32} {p1 : Int32} {xr : Int32} (hE : fX2_aspect N K sz f p0 p1 = some xr) : OkM yX2_aspect (.code yX2_aspect cX2_aspect 3 (some .int)) (1) 0 0 [.ref h, .int p0, .int p1] [(h, .inr (4, [.ref a, .int sz])), (a, .inl (0, 2646, .inl f))] ((PN (U := Int32) (fun zz _ => some (.int zz)) (fun zz ad => [(h, .inr (4, [.ref a, .int sz])), (a, .inl (0, 2646, .inl f))])) xr) := by
  refine ok_of (by decide) (Nat.le_of_ble_eq_true rfl) hE ?_
  refine aw_locals (lv' := [(0, .ref h), (1, .int p0), (2, .int p1)]) [0, 1, 2] rfl ?_
  refine aw_iload_n (q := 1) gdX2_aspect_0.1 rfl 2 rfl ?_
  refine aw_tsw (v := 0) (off := 27) (tgt := 28) gdX2_aspect_0.2.1 (by decide) (by decide) (by decide) (by decide) (fun hs_1_0 => ?_) (fun hs_1_0 => ?_)
  · refine aw_iload_n (q := 29) gdX2_aspect_0.2.2.1 rfl 1 rfl ?_
    refine aw_call (q := 32) (kc1 := 0) (ks1 := 0) (wc := []) (wr := [(h, .inr (4, [.ref a, .int sz])), (a, .inl (0, 2646, .inl f))]) (st1 := fun x29 g29 => [.int x29]) (ws1 := fun x29 g29 => [(h, .inr (4, [.ref a, .int sz])), (a, .inl (0, 2646, .inl f))]) (As := [.int p0]) [] [0, 1] (fun _ => runS gdX2_aspect_0.2.2.2.1 mi_X2_kindOf st_X2_kindOf ml_X2_98 (by omega) rfl (Nat.le_of_ble_eq_true rfl) rfl) (fun x9 h9 => ok_X2_kindOf h9) rfl rfl rfl rfl rfl (by decide +kernel) (by omega) (by omega) (fun _ _ => rfl) (fun _ _ => rfl) (fun x29 g29 => ?_)
    exact aw_ireturn (w := [(h, .inr (4, [.ref a, .int sz])), (a, .inl (0, 2646, .inl f))]) [0, 1] gdX2_aspect_0.2.2.2.2.1 rfl rfl rfl rfl (PN.mk (fun _ => 0) rfl rfl)
  · refine aw_tsw (v := 1) (off := 32) (tgt := 33) gdX2_aspect_0.2.1 (by decide) (by decide) (by decide) (by decide) (fun hs_1_1 => ?_) (fun hs_1_1 => ?_)
    · refine aw_iload_n (q := 34) gdX2_aspect_0.2.2.2.2.2.1 rfl 1 rfl ?_
      refine aw_call (q := 37) (kc1 := 0) (ks1 := 0) (wc := []) (wr := [(h, .inr (4, [.ref a, .int sz])), (a, .inl (0, 2646, .inl f))]) (st1 := fun x34 g34 => [.int x34]) (ws1 := fun x34 g34 => [(h, .inr (4, [.ref a, .int sz])), (a, .inl (0, 2646, .inl f))]) (As := [.int p0]) [] [0, 1] (fun _ => runS gdX2_aspect_0.2.2.2.2.2.2.1 mi_X2_numberOf st_X2_numberOf ml_X2_92 (by omega) rfl (Nat.le_of_ble_eq_true rfl) rfl) (fun x9 h9 => ok_X2_numberOf h9) rfl rfl rfl rfl rfl (by decide +kernel) (by omega) (by omega) (fun _ _ => rfl) (fun _ _ => rfl) (fun x34 g34 => ?_)
      exact aw_ireturn (w := [(h, .inr (4, [.ref a, .int sz])), (a, .inl (0, 2646, .inl f))]) [0, 1] gdX2_aspect_0.2.2.2.2.2.2.2 rfl rfl rfl rfl (PN.mk (fun _ => 0) rfl rfl)
    · refine aw_tsw (v := 2) (off := 37) (tgt := 38) gdX2_aspect_0.2.1 (by decide) (by decide) (by decide) (by decide) (fun hs_1_2 => ?_) (fun hs_1_2 => ?_)
      · refine aw_iload_n (q := 39) gdX2_aspect_38.1 rfl 1 rfl ?_
        refine aw_call (q := 42) (kc1 := 0) (ks1 := 0) (wc := []) (wr := [(h, .inr (4, [.ref a, .int sz])), (a, .inl (0, 2646, .inl f))]) (st1 := fun x39 g39 => [.int x39]) (ws1 := fun x39 g39 => [(h, .inr (4, [.ref a, .int sz])), (a, .inl (0, 2646, .inl f))]) (As := [.int p0]) [] [0, 1] (fun _ => runS gdX2_aspect_38.2.1 mi_X2_measureOf st_X2_measureOf ml_X2_95 (by omega) rfl (Nat.le_of_ble_eq_true rfl) rfl) (fun x9 h9 => ok_X2_measureOf h9) rfl rfl rfl rfl rfl (by decide +kernel) (by omega) (by omega) (fun _ _ => rfl) (fun _ _ => rfl) (fun x39 g39 => ?_)
        exact aw_ireturn (w := [(h, .inr (4, [.ref a, .int sz])), (a, .inl (0, 2646, .inl f))]) [0, 1] gdX2_aspect_38.2.2.1 rfl rfl rfl rfl (PN.mk (fun _ => 0) rfl rfl)
      · refine aw_tswD (tgt := 43) gdX2_aspect_0.2.1 (by have e0 := lv_neT (a := 0) hs_1_0 (by decide); have e1 := lv_neT (a := 1) hs_1_1 (by decide); have e2 := lv_neT (a := 2) hs_1_2 (by decide); omega) (by decide) ?_
        refine aw_iload_n (q := 44) gdX2_aspect_38.2.2.2.1 rfl 1 rfl ?_
        refine aw_if_lt (tgt := 54) (q := 47) gdX2_aspect_38.2.2.2.2.1 (by decide) rfl (fun h_44 => ?_) (fun h_44 => ?_)
        · refine aw_iconst (q := 55) (v := (-1)) gdX2_aspect_54.1 rfl (by decide) ?_
          refine aw_goto (tgt := 64) gdX2_aspect_54.2.1 (by decide) ?_
          exact aw_ireturn (w := [(h, .inr (4, [.ref a, .int sz])), (a, .inl (0, 2646, .inl f))]) [0, 1] gdX2_aspect_54.2.2.2.2.2.2 rfl rfl rfl rfl (PN.mk (fun _ => 0) rfl rfl)
        · refine aw_iload_n (q := 48) gdX2_aspect_38.2.2.2.2.2.1 rfl 1 rfl ?_
          refine aw_sipush (q := 51) (v := 2646) gdX2_aspect_38.2.2.2.2.2.2.1 rfl (by decide) ?_
          refine aw_icmp_lt (tgt := 58) (q := 54) gdX2_aspect_38.2.2.2.2.2.2.2 (by decide) rfl (fun h_51 => ?_) (fun h_51 => ?_)
          · refine aw_aload_n (q := 59) gdX2_aspect_54.2.2.1 rfl 0 rfl ?_
            refine aw_get (q := 62) gdX2_aspect_54.2.2.2.1 rfl fl_X2_11 0 rfl rfl ?_
            refine aw_iload_n (q := 63) gdX2_aspect_54.2.2.2.2.1 rfl 1 rfl ?_
            refine aw_iald (q := 64) gdX2_aspect_54.2.2.2.2.2.1 rfl 1 rfl ?_
            exact aw_ireturn (w := [(h, .inr (4, [.ref a, .int sz])), (a, .inl (0, 2646, .inl f))]) [0, 1] gdX2_aspect_54.2.2.2.2.2.2 rfl rfl rfl rfl (PN.mk (fun _ => 0) rfl rfl)
          · refine aw_iconst (q := 55) (v := (-1)) gdX2_aspect_54.1 rfl (by decide) ?_
            refine aw_goto (tgt := 64) gdX2_aspect_54.2.1 (by decide) ?_
            exact aw_ireturn (w := [(h, .inr (4, [.ref a, .int sz])), (a, .inl (0, 2646, .inl f))]) [0, 1] gdX2_aspect_54.2.2.2.2.2.2 rfl rfl rfl rfl (PN.mk (fun _ => 0) rfl rfl)
def fX2_dropEach_46 (N K : Nat) (sz : Int32) (f : Nat → Int32) (p0 : Int32) (p1 : Int32) (k_5 : Int32 → Int32 → Int32 → (Nat → Int32) → Option (Int32 × Int32 × (Nat → Int32))) (l3 : Int32) (l4 : Int32) (sz_ : Int32) (f_ : Nat → Int32) : Option (Int32 × Int32 × (Nat → Int32)) :=
  k_5 l3 (l4 + (1 : Int32)) sz_ f_
set_option maxHeartbeats 4000000 in
set_option maxRecDepth 100000 in
theorem tX2_dropEach_46 {N K : Nat} {h a : Nat} {sz : Int32} {f : Nat → Int32} {p0 : Int32} {p1 : Int32} {k_5 : Int32 → Int32 → Int32 → (Nat → Int32) → Option (Int32 × Int32 × (Nat → Int32))} (hk_5 : ∀ (l3 : Int32) (l4 : Int32) (sz_ : Int32) (f_ : Nat → Int32), AW RX2 "dropEach" cX2_dropEach 5 (some .int) [] (fun _ _ => True) (2) (PN (U := Int32 × Int32 × (Nat → Int32)) (fun zz _ => some (.int zz.1)) (fun zz ad => [(h, .inr (4, [.ref a, .int zz.2.1])), (a, .inl (0, 2646, .inl zz.2.2))])) 0 0 (k_5 l3 l4 sz_ f_) 5 [(0, .ref h), (1, .int p0), (2, .int p1), (3, .int l3), (4, .int l4)] [] [(h, .inr (4, [.ref a, .int sz_])), (a, .inl (0, 2646, .inl f_))]) : ∀ (l3 : Int32) (l4 : Int32) (sz_ : Int32) (f_ : Nat → Int32), AW RX2 "dropEach" cX2_dropEach 5 (some .int) [] (fun _ _ => True) (2) (PN (U := Int32 × Int32 × (Nat → Int32)) (fun zz _ => some (.int zz.1)) (fun zz ad => [(h, .inr (4, [.ref a, .int zz.2.1])), (a, .inl (0, 2646, .inl zz.2.2))])) 0 0 (fX2_dropEach_46 N K sz f p0 p1 k_5 l3 l4 sz_ f_) 46 [(0, .ref h), (1, .int p0), (2, .int p1), (3, .int l3), (4, .int l4)] [] [(h, .inr (4, [.ref a, .int sz_])), (a, .inl (0, 2646, .inl f_))] := by
  intro l3 l4 sz_ f_
  refine aw_iinc (q := 49) (v := (l4 + (1 : Int32))) (lv' := [(4, .int (l4 + (1 : Int32))), (0, .ref h), (1, .int p0), (2, .int p1), (3, .int l3)]) gdX2_dropEach_43.2.1 rfl 4 rfl rfl (by decide) rfl ?_
  refine aw_goto (tgt := 5) gdX2_dropEach_43.2.2.1 (by decide) ?_
  refine aw_locals (lv' := [(0, .ref h), (1, .int p0), (2, .int p1), (3, .int l3), (4, .int (l4 + (1 : Int32)))]) [1, 2, 3, 4, 0] rfl ?_
  exact hk_5 _ _ _ _
def fX2_dropEach_5 (N K : Nat) (sz : Int32) (f : Nat → Int32) (p0 : Int32) (p1 : Int32) : Nat → Int32 → Int32 → Int32 → (Nat → Int32) → Option (Int32 × Int32 × (Nat → Int32))
  | 0, _, _, _, _ => none
  | fu + 1, l3, l4, sz_, f_ =>
    (if (2646 : Int32) ≤ l4 then (some (l3, (sz_ - l3), f_)) else (if l4 < 0 ∨ 2646 ≤ l4.toNatClampNeg then none else (if (f_ l4.toNatClampNeg) = (-1 : Int32) then fX2_dropEach_46 N K sz f p0 p1 (fX2_dropEach_5 N K sz f p0 p1  fu) l3 l4 sz_ f_ else ((fX2_aspect N K sz_ f_ l4 p0).bind (fun x28 => (if x28 = p1 then (if l4 < 0 ∨ 2646 ≤ l4.toNatClampNeg then none else fX2_dropEach_46 N K sz f p0 p1 (fX2_dropEach_5 N K sz f p0 p1  fu) (l3 + (1 : Int32)) l4 sz_ (upd f_ l4.toNatClampNeg (-1 : Int32))) else fX2_dropEach_46 N K sz f p0 p1 (fX2_dropEach_5 N K sz f p0 p1  fu) l3 l4 sz_ f_))))))
set_option maxHeartbeats 4000000 in
set_option maxRecDepth 100000 in
theorem tX2_dropEach_5 {N K : Nat} {h a : Nat} {sz : Int32} {f : Nat → Int32} {p0 : Int32} {p1 : Int32} : ∀ (fu : Nat) (l3 : Int32) (l4 : Int32) (sz_ : Int32) (f_ : Nat → Int32), AW RX2 "dropEach" cX2_dropEach 5 (some .int) [] (fun _ _ => True) (2) (PN (U := Int32 × Int32 × (Nat → Int32)) (fun zz _ => some (.int zz.1)) (fun zz ad => [(h, .inr (4, [.ref a, .int zz.2.1])), (a, .inl (0, 2646, .inl zz.2.2))])) 0 0 (fX2_dropEach_5 N K sz f p0 p1  fu l3 l4 sz_ f_) 5 [(0, .ref h), (1, .int p0), (2, .int p1), (3, .int l3), (4, .int l4)] [] [(h, .inr (4, [.ref a, .int sz_])), (a, .inl (0, 2646, .inl f_))] := by
  intro fu
  induction fu with
  | zero => intro l3 l4 sz_ f_; exact aw_none
  | succ fu ih =>
    intro l3 l4 sz_ f_
    refine aw_iload (q := 7) gdX2_dropEach_0.2.2.2.2.1 rfl 4 rfl ?_
    refine aw_sipush (q := 10) (v := 2646) gdX2_dropEach_0.2.2.2.2.2.1 rfl (by decide) ?_
    refine aw_icmp_ge (tgt := 52) (q := 13) gdX2_dropEach_0.2.2.2.2.2.2.1 (by decide) rfl (fun h_10 => ?_) (fun h_10 => ?_)
    · refine aw_aload_n (q := 53) gdX2_dropEach_43.2.2.2.1 rfl 0 rfl ?_
      refine aw_dup (q := 54) gdX2_dropEach_43.2.2.2.2.1 rfl rfl ?_
      refine aw_get (q := 57) gdX2_dropEach_43.2.2.2.2.2.1 rfl fl_X2_21 0 rfl rfl ?_
      refine aw_iload_n (q := 58) gdX2_dropEach_43.2.2.2.2.2.2.1 rfl 3 rfl ?_
      refine aw_isub (q := 59) gdX2_dropEach_43.2.2.2.2.2.2.2 rfl ?_
      refine aw_put (q := 62) (ws' := [(h, .inr (4, [.ref a, .int (sz_ - l3)])), (a, .inl (0, 2646, .inl f_))]) gdX2_dropEach_59.1 rfl fl_X2_21 0 rfl rfl rfl (Nat.le_of_ble_eq_true rfl) rfl ?_
      refine aw_iload_n (q := 63) gdX2_dropEach_59.2.1 rfl 3 rfl ?_
      exact aw_ireturn (w := [(h, .inr (4, [.ref a, .int (sz_ - l3)])), (a, .inl (0, 2646, .inl f_))]) [0, 1] gdX2_dropEach_59.2.2 rfl rfl rfl rfl (PN.mk (fun _ => 0) rfl rfl)
    · refine aw_aload_n (q := 14) gdX2_dropEach_0.2.2.2.2.2.2.2 rfl 0 rfl ?_
      refine aw_get (q := 17) gdX2_dropEach_14.1 rfl fl_X2_11 0 rfl rfl ?_
      refine aw_iload (q := 19) gdX2_dropEach_14.2.1 rfl 4 rfl ?_
      refine aw_iald (q := 20) gdX2_dropEach_14.2.2.1 rfl 1 rfl ?_
      refine aw_iconst (q := 21) (v := (-1)) gdX2_dropEach_14.2.2.2.1 rfl (by decide) ?_
      refine aw_icmp_eq (tgt := 46) (q := 24) gdX2_dropEach_14.2.2.2.2.1 (by decide) rfl (fun h_21 => ?_) (fun h_21 => ?_)
      · exact tX2_dropEach_46 ih _ _ _ _
      · refine aw_aload_n (q := 25) gdX2_dropEach_14.2.2.2.2.2.1 rfl 0 rfl ?_
        refine aw_iload (q := 27) gdX2_dropEach_14.2.2.2.2.2.2.1 rfl 4 rfl ?_
        refine aw_iload_n (q := 28) gdX2_dropEach_14.2.2.2.2.2.2.2 rfl 1 rfl ?_
        refine aw_call (q := 31) (kc1 := 0) (ks1 := 0) (wc := [(h, .inr (4, [.ref a, .int sz_])), (a, .inl (0, 2646, .inl f_))]) (wr := []) (st1 := fun x28 g28 => [.int x28]) (ws1 := fun x28 g28 => [(h, .inr (4, [.ref a, .int sz_])), (a, .inl (0, 2646, .inl f_))]) (As := [.ref h, .int l4, .int p0]) [0, 1] [] (fun _ => runV (q0 := 0) gdX2_dropEach_28.1 mi_X2_aspect im_X2_aspect se_X2_aspect ml_X2_65 (by omega) rfl (Nat.le_of_ble_eq_true rfl) rfl rfl rfl rfl) (fun x9 h9 => ok_X2_aspect h9) rfl rfl rfl rfl rfl (by decide +kernel) (by omega) (by omega) (fun _ _ => rfl) (fun _ _ => rfl) (fun x28 g28 => ?_)
        refine aw_iload_n (q := 32) gdX2_dropEach_28.2.1 rfl 2 rfl ?_
        refine aw_icmp_ne (tgt := 46) (q := 35) gdX2_dropEach_28.2.2.1 (by decide) rfl (fun h_32 => ?_) (fun h_32 => ?_)
        · exact tX2_dropEach_46 ih _ _ _ _
        · refine aw_aload_n (q := 36) gdX2_dropEach_28.2.2.2.1 rfl 0 rfl ?_
          refine aw_get (q := 39) gdX2_dropEach_28.2.2.2.2.1 rfl fl_X2_11 0 rfl rfl ?_
          refine aw_iload (q := 41) gdX2_dropEach_28.2.2.2.2.2.1 rfl 4 rfl ?_
          refine aw_iconst (q := 42) (v := (-1)) gdX2_dropEach_28.2.2.2.2.2.2.1 rfl (by decide) ?_
          refine aw_iast (q := 43) (ws' := [(h, .inr (4, [.ref a, .int sz_])), (a, .inl (0, 2646, .inl (upd f_ l4.toNatClampNeg (-1 : Int32))))]) gdX2_dropEach_28.2.2.2.2.2.2.2 rfl 1 rfl rfl ?_
          refine aw_iinc (q := 46) (v := (l3 + (1 : Int32))) (lv' := [(3, .int (l3 + (1 : Int32))), (0, .ref h), (1, .int p0), (2, .int p1), (4, .int l4)]) gdX2_dropEach_43.1 rfl 3 rfl rfl (by decide) rfl ?_
          refine aw_locals (lv' := [(0, .ref h), (1, .int p0), (2, .int p1), (3, .int (l3 + (1 : Int32))), (4, .int l4)]) [1, 2, 3, 0, 4] rfl ?_
          exact tX2_dropEach_46 ih _ _ _ _
def fX2_dropEach (N K : Nat) (sz : Int32) (f : Nat → Int32) (p0 : Int32) (p1 : Int32) : Option (Int32 × Int32 × (Nat → Int32)) :=
  fX2_dropEach_5 N K sz f p0 p1  N (0 : Int32) (0 : Int32) sz f
set_option maxHeartbeats 4000000 in
set_option maxRecDepth 100000 in
theorem ok_X2_dropEach {N K : Nat} {h a : Nat} {sz : Int32} {f : Nat → Int32} {p0 : Int32} {p1 : Int32} {xr : Int32 × Int32 × (Nat → Int32)} (hE : fX2_dropEach N K sz f p0 p1 = some xr) : OkM yX2_dropEach (.code yX2_dropEach cX2_dropEach 5 (some .int)) (2) 0 0 [.ref h, .int p0, .int p1] [(h, .inr (4, [.ref a, .int sz])), (a, .inl (0, 2646, .inl f))] ((PN (U := Int32 × Int32 × (Nat → Int32)) (fun zz _ => some (.int zz.1)) (fun zz ad => [(h, .inr (4, [.ref a, .int zz.2.1])), (a, .inl (0, 2646, .inl zz.2.2))])) xr) := by
  refine ok_of (by decide) (Nat.le_of_ble_eq_true rfl) hE ?_
  refine aw_locals (lv' := [(0, .ref h), (1, .int p0), (2, .int p1)]) [0, 1, 2] rfl ?_
  refine aw_iconst (q := 1) (v := 0) gdX2_dropEach_0.1 rfl (by decide) ?_
  refine aw_istore_n (q := 2) (lv' := [(3, .int (0 : Int32)), (0, .ref h), (1, .int p0), (2, .int p1)]) gdX2_dropEach_0.2.1 rfl (by decide) rfl ?_
  refine aw_iconst (q := 3) (v := 0) gdX2_dropEach_0.2.2.1 rfl (by decide) ?_
  refine aw_istore (q := 5) (lv' := [(4, .int (0 : Int32)), (3, .int (0 : Int32)), (0, .ref h), (1, .int p0), (2, .int p1)]) gdX2_dropEach_0.2.2.2.1 rfl (by decide) rfl ?_
  refine aw_locals (lv' := [(0, .ref h), (1, .int p0), (2, .int p1), (3, .int (0 : Int32)), (4, .int (0 : Int32))]) [2, 3, 4, 1, 0] rfl ?_
  exact tX2_dropEach_5  N _ _ _ _
def fX2_dropAll (N K : Nat) (sz : Int32) (f : Nat → Int32) : Option (Int32 × Int32 × (Nat → Int32)) :=
  ((fJ_fill N K 2646 f (-1 : Int32)).bind (fun x10 => (some (sz, (0 : Int32), x10))))
set_option maxHeartbeats 4000000 in
set_option maxRecDepth 100000 in
theorem ok_X2_dropAll {N K : Nat} {h a : Nat} {sz : Int32} {f : Nat → Int32} {xr : Int32 × Int32 × (Nat → Int32)} (hE : fX2_dropAll N K sz f = some xr) : OkM yX2_dropAll (.code yX2_dropAll cX2_dropAll 2 (some .int)) (1) 0 0 [.ref h] [(h, .inr (4, [.ref a, .int sz])), (a, .inl (0, 2646, .inl f))] ((PN (U := Int32 × Int32 × (Nat → Int32)) (fun zz _ => some (.int zz.1)) (fun zz ad => [(h, .inr (4, [.ref a, .int zz.2.1])), (a, .inl (0, 2646, .inl zz.2.2))])) xr) := by
  refine ok_of (by decide) (Nat.le_of_ble_eq_true rfl) hE ?_
  refine aw_locals (lv' := [(0, .ref h)]) [0] rfl ?_
  refine aw_aload_n (q := 1) gdX2_dropAll_0.1 rfl 0 rfl ?_
  refine aw_get (q := 4) gdX2_dropAll_0.2.1 rfl fl_X2_21 0 rfl rfl ?_
  refine aw_istore_n (q := 5) (lv' := [(1, .int sz), (0, .ref h)]) gdX2_dropAll_0.2.2.1 rfl (by decide) rfl ?_
  refine aw_aload_n (q := 6) gdX2_dropAll_0.2.2.2.1 rfl 1 rfl ?_
  refine aw_get (q := 9) gdX2_dropAll_0.2.2.2.2.1 rfl fl_X2_11 0 rfl rfl ?_
  refine aw_iconst (q := 10) (v := (-1)) gdX2_dropAll_0.2.2.2.2.2.1 rfl (by decide) ?_
  refine aw_call (q := 13) (kc1 := 0) (ks1 := 0) (wc := [(a, .inl (0, 2646, .inl f))]) (wr := [(h, .inr (4, [.ref a, .int sz]))]) (st1 := fun x10 g10 => []) (ws1 := fun x10 g10 => [(h, .inr (4, [.ref a, .int sz])), (a, .inl (0, 2646, .inl x10))]) (As := [.ref a, .int (-1 : Int32)]) [1] [0] (fun _ => runS gdX2_dropAll_0.2.2.2.2.2.2.1 mi_J7_fill_53178 st_J7_fill_53178 ml_X2_15 (by omega) rfl (Nat.le_of_ble_eq_true rfl) rfl) (fun x9 h9 => ok_J_fill h9) rfl rfl rfl rfl rfl (by decide +kernel) (by omega) (by omega) (fun _ _ => rfl) (fun _ _ => rfl) (fun x10 g10 => ?_)
  refine aw_aload_n (q := 14) gdX2_dropAll_0.2.2.2.2.2.2.2 rfl 1 rfl ?_
  refine aw_iconst (q := 15) (v := 0) gdX2_dropAll_14.1 rfl (by decide) ?_
  refine aw_put (q := 18) (ws' := [(h, .inr (4, [.ref a, .int (0 : Int32)])), (a, .inl (0, 2646, .inl x10))]) gdX2_dropAll_14.2.1 rfl fl_X2_21 0 rfl rfl rfl (Nat.le_of_ble_eq_true rfl) rfl ?_
  refine aw_iload_n (q := 19) gdX2_dropAll_14.2.2.1 rfl 0 rfl ?_
  exact aw_ireturn (w := [(h, .inr (4, [.ref a, .int (0 : Int32)])), (a, .inl (0, 2646, .inl x10))]) [0, 1] gdX2_dropAll_14.2.2.2 rfl rfl rfl rfl (PN.mk (fun _ => 0) rfl rfl)
def fX2_howMany_38 (N K : Nat) (sz : Int32) (f : Nat → Int32) (p0 : Int32) (p1 : Int32) (k_5 : Int32 → Int32 → Option (Int32)) (l3 : Int32) (l4 : Int32) : Option (Int32) :=
  k_5 l3 (l4 + (1 : Int32))
set_option maxHeartbeats 4000000 in
set_option maxRecDepth 100000 in
theorem tX2_howMany_38 {N K : Nat} {h a : Nat} {sz : Int32} {f : Nat → Int32} {p0 : Int32} {p1 : Int32} {k_5 : Int32 → Int32 → Option (Int32)} (hk_5 : ∀ (l3 : Int32) (l4 : Int32), AW RX2 "howMany" cX2_howMany 5 (some .int) [] (fun _ _ => True) (2) (PN (U := Int32) (fun zz _ => some (.int zz)) (fun zz ad => [(h, .inr (4, [.ref a, .int sz])), (a, .inl (0, 2646, .inl f))])) 0 0 (k_5 l3 l4) 5 [(0, .ref h), (1, .int p0), (2, .int p1), (3, .int l3), (4, .int l4)] [] [(h, .inr (4, [.ref a, .int sz])), (a, .inl (0, 2646, .inl f))]) : ∀ (l3 : Int32) (l4 : Int32), AW RX2 "howMany" cX2_howMany 5 (some .int) [] (fun _ _ => True) (2) (PN (U := Int32) (fun zz _ => some (.int zz)) (fun zz ad => [(h, .inr (4, [.ref a, .int sz])), (a, .inl (0, 2646, .inl f))])) 0 0 (fX2_howMany_38 N K sz f p0 p1 k_5 l3 l4) 38 [(0, .ref h), (1, .int p0), (2, .int p1), (3, .int l3), (4, .int l4)] [] [(h, .inr (4, [.ref a, .int sz])), (a, .inl (0, 2646, .inl f))] := by
  intro l3 l4
  refine aw_iinc (q := 41) (v := (l4 + (1 : Int32))) (lv' := [(4, .int (l4 + (1 : Int32))), (0, .ref h), (1, .int p0), (2, .int p1), (3, .int l3)]) gdX2_howMany_28.2.2.2.2.1 rfl 4 rfl rfl (by decide) rfl ?_
  refine aw_goto (tgt := 5) gdX2_howMany_28.2.2.2.2.2.1 (by decide) ?_
  refine aw_locals (lv' := [(0, .ref h), (1, .int p0), (2, .int p1), (3, .int l3), (4, .int (l4 + (1 : Int32)))]) [1, 2, 3, 4, 0] rfl ?_
  exact hk_5 _ _
def fX2_howMany_5 (N K : Nat) (sz : Int32) (f : Nat → Int32) (p0 : Int32) (p1 : Int32) : Nat → Int32 → Int32 → Option (Int32)
  | 0, _, _ => none
  | fu + 1, l3, l4 =>
    (if (2646 : Int32) ≤ l4 then (some l3) else (if l4 < 0 ∨ 2646 ≤ l4.toNatClampNeg then none else (if (f l4.toNatClampNeg) = (-1 : Int32) then fX2_howMany_38 N K sz f p0 p1 (fX2_howMany_5 N K sz f p0 p1  fu) l3 l4 else ((fX2_aspect N K sz f l4 p0).bind (fun x28 => (if x28 = p1 then fX2_howMany_38 N K sz f p0 p1 (fX2_howMany_5 N K sz f p0 p1  fu) (l3 + (1 : Int32)) l4 else fX2_howMany_38 N K sz f p0 p1 (fX2_howMany_5 N K sz f p0 p1  fu) l3 l4))))))
set_option maxHeartbeats 4000000 in
set_option maxRecDepth 100000 in
theorem tX2_howMany_5 {N K : Nat} {h a : Nat} {sz : Int32} {f : Nat → Int32} {p0 : Int32} {p1 : Int32} : ∀ (fu : Nat) (l3 : Int32) (l4 : Int32), AW RX2 "howMany" cX2_howMany 5 (some .int) [] (fun _ _ => True) (2) (PN (U := Int32) (fun zz _ => some (.int zz)) (fun zz ad => [(h, .inr (4, [.ref a, .int sz])), (a, .inl (0, 2646, .inl f))])) 0 0 (fX2_howMany_5 N K sz f p0 p1  fu l3 l4) 5 [(0, .ref h), (1, .int p0), (2, .int p1), (3, .int l3), (4, .int l4)] [] [(h, .inr (4, [.ref a, .int sz])), (a, .inl (0, 2646, .inl f))] := by
  intro fu
  induction fu with
  | zero => intro l3 l4; exact aw_none
  | succ fu ih =>
    intro l3 l4
    refine aw_iload (q := 7) gdX2_howMany_0.2.2.2.2.1 rfl 4 rfl ?_
    refine aw_sipush (q := 10) (v := 2646) gdX2_howMany_0.2.2.2.2.2.1 rfl (by decide) ?_
    refine aw_icmp_ge (tgt := 44) (q := 13) gdX2_howMany_0.2.2.2.2.2.2.1 (by decide) rfl (fun h_10 => ?_) (fun h_10 => ?_)
    · refine aw_iload_n (q := 45) gdX2_howMany_28.2.2.2.2.2.2.1 rfl 3 rfl ?_
      exact aw_ireturn (w := [(h, .inr (4, [.ref a, .int sz])), (a, .inl (0, 2646, .inl f))]) [0, 1] gdX2_howMany_28.2.2.2.2.2.2.2 rfl rfl rfl rfl (PN.mk (fun _ => 0) rfl rfl)
    · refine aw_aload_n (q := 14) gdX2_howMany_0.2.2.2.2.2.2.2 rfl 0 rfl ?_
      refine aw_get (q := 17) gdX2_howMany_14.1 rfl fl_X2_11 0 rfl rfl ?_
      refine aw_iload (q := 19) gdX2_howMany_14.2.1 rfl 4 rfl ?_
      refine aw_iald (q := 20) gdX2_howMany_14.2.2.1 rfl 1 rfl ?_
      refine aw_iconst (q := 21) (v := (-1)) gdX2_howMany_14.2.2.2.1 rfl (by decide) ?_
      refine aw_icmp_eq (tgt := 38) (q := 24) gdX2_howMany_14.2.2.2.2.1 (by decide) rfl (fun h_21 => ?_) (fun h_21 => ?_)
      · exact tX2_howMany_38 ih _ _
      · refine aw_aload_n (q := 25) gdX2_howMany_14.2.2.2.2.2.1 rfl 0 rfl ?_
        refine aw_iload (q := 27) gdX2_howMany_14.2.2.2.2.2.2.1 rfl 4 rfl ?_
        refine aw_iload_n (q := 28) gdX2_howMany_14.2.2.2.2.2.2.2 rfl 1 rfl ?_
        refine aw_call (q := 31) (kc1 := 0) (ks1 := 0) (wc := [(h, .inr (4, [.ref a, .int sz])), (a, .inl (0, 2646, .inl f))]) (wr := []) (st1 := fun x28 g28 => [.int x28]) (ws1 := fun x28 g28 => [(h, .inr (4, [.ref a, .int sz])), (a, .inl (0, 2646, .inl f))]) (As := [.ref h, .int l4, .int p0]) [0, 1] [] (fun _ => runV (q0 := 0) gdX2_howMany_28.1 mi_X2_aspect im_X2_aspect se_X2_aspect ml_X2_65 (by omega) rfl (Nat.le_of_ble_eq_true rfl) rfl rfl rfl rfl) (fun x9 h9 => ok_X2_aspect h9) rfl rfl rfl rfl rfl (by decide +kernel) (by omega) (by omega) (fun _ _ => rfl) (fun _ _ => rfl) (fun x28 g28 => ?_)
        refine aw_iload_n (q := 32) gdX2_howMany_28.2.1 rfl 2 rfl ?_
        refine aw_icmp_ne (tgt := 38) (q := 35) gdX2_howMany_28.2.2.1 (by decide) rfl (fun h_32 => ?_) (fun h_32 => ?_)
        · exact tX2_howMany_38 ih _ _
        · refine aw_iinc (q := 38) (v := (l3 + (1 : Int32))) (lv' := [(3, .int (l3 + (1 : Int32))), (0, .ref h), (1, .int p0), (2, .int p1), (4, .int l4)]) gdX2_howMany_28.2.2.2.1 rfl 3 rfl rfl (by decide) rfl ?_
          refine aw_locals (lv' := [(0, .ref h), (1, .int p0), (2, .int p1), (3, .int (l3 + (1 : Int32))), (4, .int l4)]) [1, 2, 3, 0, 4] rfl ?_
          exact tX2_howMany_38 ih _ _
def fX2_howMany (N K : Nat) (sz : Int32) (f : Nat → Int32) (p0 : Int32) (p1 : Int32) : Option (Int32) :=
  fX2_howMany_5 N K sz f p0 p1  N (0 : Int32) (0 : Int32)
set_option maxHeartbeats 4000000 in
set_option maxRecDepth 100000 in
theorem ok_X2_howMany {N K : Nat} {h a : Nat} {sz : Int32} {f : Nat → Int32} {p0 : Int32} {p1 : Int32} {xr : Int32} (hE : fX2_howMany N K sz f p0 p1 = some xr) : OkM yX2_howMany (.code yX2_howMany cX2_howMany 5 (some .int)) (2) 0 0 [.ref h, .int p0, .int p1] [(h, .inr (4, [.ref a, .int sz])), (a, .inl (0, 2646, .inl f))] ((PN (U := Int32) (fun zz _ => some (.int zz)) (fun zz ad => [(h, .inr (4, [.ref a, .int sz])), (a, .inl (0, 2646, .inl f))])) xr) := by
  refine ok_of (by decide) (Nat.le_of_ble_eq_true rfl) hE ?_
  refine aw_locals (lv' := [(0, .ref h), (1, .int p0), (2, .int p1)]) [0, 1, 2] rfl ?_
  refine aw_iconst (q := 1) (v := 0) gdX2_howMany_0.1 rfl (by decide) ?_
  refine aw_istore_n (q := 2) (lv' := [(3, .int (0 : Int32)), (0, .ref h), (1, .int p0), (2, .int p1)]) gdX2_howMany_0.2.1 rfl (by decide) rfl ?_
  refine aw_iconst (q := 3) (v := 0) gdX2_howMany_0.2.2.1 rfl (by decide) ?_
  refine aw_istore (q := 5) (lv' := [(4, .int (0 : Int32)), (3, .int (0 : Int32)), (0, .ref h), (1, .int p0), (2, .int p1)]) gdX2_howMany_0.2.2.2.1 rfl (by decide) rfl ?_
  refine aw_locals (lv' := [(0, .ref h), (1, .int p0), (2, .int p1), (3, .int (0 : Int32)), (4, .int (0 : Int32))]) [2, 3, 4, 1, 0] rfl ?_
  exact tX2_howMany_5  N _ _
def fX2_mark_35 (N K : Nat) (sz : Int32) (f : Nat → Int32) (k_4 : Int32 → Int32 → Option (Int32)) (l1 : Int32) (l2 : Int32) : Option (Int32) :=
  k_4 l1 (l2 + (1 : Int32))
set_option maxHeartbeats 4000000 in
set_option maxRecDepth 100000 in
theorem tX2_mark_35 {N K : Nat} {h a : Nat} {sz : Int32} {f : Nat → Int32} {k_4 : Int32 → Int32 → Option (Int32)} (hk_4 : ∀ (l1 : Int32) (l2 : Int32), AW RX2 "mark" cX2_mark 3 (some .int) [] (fun _ _ => True) (2) (PN (U := Int32) (fun zz _ => some (.int zz)) (fun zz ad => [(h, .inr (4, [.ref a, .int sz])), (a, .inl (0, 2646, .inl f))])) 0 0 (k_4 l1 l2) 4 [(0, .ref h), (1, .int l1), (2, .int l2)] [] [(h, .inr (4, [.ref a, .int sz])), (a, .inl (0, 2646, .inl f))]) : ∀ (l1 : Int32) (l2 : Int32), AW RX2 "mark" cX2_mark 3 (some .int) [] (fun _ _ => True) (2) (PN (U := Int32) (fun zz _ => some (.int zz)) (fun zz ad => [(h, .inr (4, [.ref a, .int sz])), (a, .inl (0, 2646, .inl f))])) 0 0 (fX2_mark_35 N K sz f k_4 l1 l2) 35 [(0, .ref h), (1, .int l1), (2, .int l2)] [] [(h, .inr (4, [.ref a, .int sz])), (a, .inl (0, 2646, .inl f))] := by
  intro l1 l2
  refine aw_iinc (q := 38) (v := (l2 + (1 : Int32))) (lv' := [(2, .int (l2 + (1 : Int32))), (0, .ref h), (1, .int l1)]) gdX2_mark_26.2.2.2.2.2.2.2 rfl 2 rfl rfl (by decide) rfl ?_
  refine aw_goto (tgt := 4) gdX2_mark_38.1 (by decide) ?_
  refine aw_locals (lv' := [(0, .ref h), (1, .int l1), (2, .int (l2 + (1 : Int32)))]) [1, 2, 0] rfl ?_
  exact hk_4 _ _
def fX2_mark_4 (N K : Nat) (sz : Int32) (f : Nat → Int32) : Nat → Int32 → Int32 → Option (Int32)
  | 0, _, _ => none
  | fu + 1, l1, l2 =>
    (if (2646 : Int32) ≤ l2 then (some l1) else (if l2 < 0 ∨ 2646 ≤ l2.toNatClampNeg then none else (if (f l2.toNatClampNeg) = (-1 : Int32) then fX2_mark_35 N K sz f (fX2_mark_4 N K sz f  fu) l1 l2 else ((fX2_codeOf N K l2).bind (fun x23 => (if l2 < 0 ∨ 2646 ≤ l2.toNatClampNeg then none else fX2_mark_35 N K sz f (fX2_mark_4 N K sz f  fu) (l1 + (x23 ^^^ (f l2.toNatClampNeg))) l2))))))
set_option maxHeartbeats 4000000 in
set_option maxRecDepth 100000 in
theorem tX2_mark_4 {N K : Nat} {h a : Nat} {sz : Int32} {f : Nat → Int32} : ∀ (fu : Nat) (l1 : Int32) (l2 : Int32), AW RX2 "mark" cX2_mark 3 (some .int) [] (fun _ _ => True) (2) (PN (U := Int32) (fun zz _ => some (.int zz)) (fun zz ad => [(h, .inr (4, [.ref a, .int sz])), (a, .inl (0, 2646, .inl f))])) 0 0 (fX2_mark_4 N K sz f  fu l1 l2) 4 [(0, .ref h), (1, .int l1), (2, .int l2)] [] [(h, .inr (4, [.ref a, .int sz])), (a, .inl (0, 2646, .inl f))] := by
  intro fu
  induction fu with
  | zero => intro l1 l2; exact aw_none
  | succ fu ih =>
    intro l1 l2
    refine aw_iload_n (q := 5) gdX2_mark_0.2.2.2.2.1 rfl 2 rfl ?_
    refine aw_sipush (q := 8) (v := 2646) gdX2_mark_0.2.2.2.2.2.1 rfl (by decide) ?_
    refine aw_icmp_ge (tgt := 41) (q := 11) gdX2_mark_0.2.2.2.2.2.2.1 (by decide) rfl (fun h_8 => ?_) (fun h_8 => ?_)
    · refine aw_iload_n (q := 42) gdX2_mark_38.2.1 rfl 1 rfl ?_
      exact aw_ireturn (w := [(h, .inr (4, [.ref a, .int sz])), (a, .inl (0, 2646, .inl f))]) [0, 1] gdX2_mark_38.2.2 rfl rfl rfl rfl (PN.mk (fun _ => 0) rfl rfl)
    · refine aw_aload_n (q := 12) gdX2_mark_0.2.2.2.2.2.2.2 rfl 0 rfl ?_
      refine aw_get (q := 15) gdX2_mark_12.1 rfl fl_X2_11 0 rfl rfl ?_
      refine aw_iload_n (q := 16) gdX2_mark_12.2.1 rfl 2 rfl ?_
      refine aw_iald (q := 17) gdX2_mark_12.2.2.1 rfl 1 rfl ?_
      refine aw_iconst (q := 18) (v := (-1)) gdX2_mark_12.2.2.2.1 rfl (by decide) ?_
      refine aw_icmp_eq (tgt := 35) (q := 21) gdX2_mark_12.2.2.2.2.1 (by decide) rfl (fun h_18 => ?_) (fun h_18 => ?_)
      · exact tX2_mark_35 ih _ _
      · refine aw_iload_n (q := 22) gdX2_mark_12.2.2.2.2.2.1 rfl 1 rfl ?_
        refine aw_iload_n (q := 23) gdX2_mark_12.2.2.2.2.2.2.1 rfl 2 rfl ?_
        refine aw_call (q := 26) (kc1 := 0) (ks1 := 0) (wc := []) (wr := [(h, .inr (4, [.ref a, .int sz])), (a, .inl (0, 2646, .inl f))]) (st1 := fun x23 g23 => [.int x23, .int l1]) (ws1 := fun x23 g23 => [(h, .inr (4, [.ref a, .int sz])), (a, .inl (0, 2646, .inl f))]) (As := [.int l2]) [] [0, 1] (fun _ => runS gdX2_mark_12.2.2.2.2.2.2.2 mi_X2_codeOf st_X2_codeOf ml_X2_75 (by omega) rfl (Nat.le_of_ble_eq_true rfl) rfl) (fun x9 h9 => ok_X2_codeOf h9) rfl rfl rfl rfl rfl (by decide +kernel) (by omega) (by omega) (fun _ _ => rfl) (fun _ _ => rfl) (fun x23 g23 => ?_)
        refine aw_aload_n (q := 27) gdX2_mark_26.1 rfl 0 rfl ?_
        refine aw_get (q := 30) gdX2_mark_26.2.1 rfl fl_X2_11 0 rfl rfl ?_
        refine aw_iload_n (q := 31) gdX2_mark_26.2.2.1 rfl 2 rfl ?_
        refine aw_iald (q := 32) gdX2_mark_26.2.2.2.1 rfl 1 rfl ?_
        refine aw_ixor (q := 33) gdX2_mark_26.2.2.2.2.1 rfl ?_
        refine aw_iadd (q := 34) gdX2_mark_26.2.2.2.2.2.1 rfl ?_
        refine aw_istore_n (q := 35) (lv' := [(1, .int (l1 + (x23 ^^^ (f l2.toNatClampNeg)))), (0, .ref h), (2, .int l2)]) gdX2_mark_26.2.2.2.2.2.2.1 rfl (by decide) rfl ?_
        refine aw_locals (lv' := [(0, .ref h), (1, .int (l1 + (x23 ^^^ (f l2.toNatClampNeg)))), (2, .int l2)]) [1, 0, 2] rfl ?_
        exact tX2_mark_35 ih _ _
def fX2_mark (N K : Nat) (sz : Int32) (f : Nat → Int32) : Option (Int32) :=
  fX2_mark_4 N K sz f  N (0 : Int32) (0 : Int32)
set_option maxHeartbeats 4000000 in
set_option maxRecDepth 100000 in
theorem ok_X2_mark {N K : Nat} {h a : Nat} {sz : Int32} {f : Nat → Int32} {xr : Int32} (hE : fX2_mark N K sz f = some xr) : OkM yX2_mark (.code yX2_mark cX2_mark 3 (some .int)) (2) 0 0 [.ref h] [(h, .inr (4, [.ref a, .int sz])), (a, .inl (0, 2646, .inl f))] ((PN (U := Int32) (fun zz _ => some (.int zz)) (fun zz ad => [(h, .inr (4, [.ref a, .int sz])), (a, .inl (0, 2646, .inl f))])) xr) := by
  refine ok_of (by decide) (Nat.le_of_ble_eq_true rfl) hE ?_
  refine aw_locals (lv' := [(0, .ref h)]) [0] rfl ?_
  refine aw_iconst (q := 1) (v := 0) gdX2_mark_0.1 rfl (by decide) ?_
  refine aw_istore_n (q := 2) (lv' := [(1, .int (0 : Int32)), (0, .ref h)]) gdX2_mark_0.2.1 rfl (by decide) rfl ?_
  refine aw_iconst (q := 3) (v := 0) gdX2_mark_0.2.2.1 rfl (by decide) ?_
  refine aw_istore_n (q := 4) (lv' := [(2, .int (0 : Int32)), (1, .int (0 : Int32)), (0, .ref h)]) gdX2_mark_0.2.2.2.1 rfl (by decide) rfl ?_
  refine aw_locals (lv' := [(0, .ref h), (1, .int (0 : Int32)), (2, .int (0 : Int32))]) [2, 1, 0] rfl ?_
  exact tX2_mark_4  N _ _
def fX2_sumOfWorths_30 (N K : Nat) (sz : Int32) (f : Nat → Int32) (k_4 : Int32 → Int32 → Option (Int32)) (l1 : Int32) (l2 : Int32) : Option (Int32) :=
  k_4 l1 (l2 + (1 : Int32))
set_option maxHeartbeats 4000000 in
set_option maxRecDepth 100000 in
theorem tX2_sumOfWorths_30 {N K : Nat} {h a : Nat} {sz : Int32} {f : Nat → Int32} {k_4 : Int32 → Int32 → Option (Int32)} (hk_4 : ∀ (l1 : Int32) (l2 : Int32), AW RX2 "sumOfWorths" cX2_sumOfWorths 3 (some .int) [] (fun _ _ => True) (0) (PN (U := Int32) (fun zz _ => some (.int zz)) (fun zz ad => [(h, .inr (4, [.ref a, .int sz])), (a, .inl (0, 2646, .inl f))])) 0 0 (k_4 l1 l2) 4 [(0, .ref h), (1, .int l1), (2, .int l2)] [] [(h, .inr (4, [.ref a, .int sz])), (a, .inl (0, 2646, .inl f))]) : ∀ (l1 : Int32) (l2 : Int32), AW RX2 "sumOfWorths" cX2_sumOfWorths 3 (some .int) [] (fun _ _ => True) (0) (PN (U := Int32) (fun zz _ => some (.int zz)) (fun zz ad => [(h, .inr (4, [.ref a, .int sz])), (a, .inl (0, 2646, .inl f))])) 0 0 (fX2_sumOfWorths_30 N K sz f k_4 l1 l2) 30 [(0, .ref h), (1, .int l1), (2, .int l2)] [] [(h, .inr (4, [.ref a, .int sz])), (a, .inl (0, 2646, .inl f))] := by
  intro l1 l2
  refine aw_iinc (q := 33) (v := (l2 + (1 : Int32))) (lv' := [(2, .int (l2 + (1 : Int32))), (0, .ref h), (1, .int l1)]) gdX2_sumOfWorths_26.2.2.2.2.1 rfl 2 rfl rfl (by decide) rfl ?_
  refine aw_goto (tgt := 4) gdX2_sumOfWorths_26.2.2.2.2.2.1 (by decide) ?_
  refine aw_locals (lv' := [(0, .ref h), (1, .int l1), (2, .int (l2 + (1 : Int32)))]) [1, 2, 0] rfl ?_
  exact hk_4 _ _
def fX2_sumOfWorths_4 (N K : Nat) (sz : Int32) (f : Nat → Int32) : Nat → Int32 → Int32 → Option (Int32)
  | 0, _, _ => none
  | fu + 1, l1, l2 =>
    (if (2646 : Int32) ≤ l2 then (some l1) else (if l2 < 0 ∨ 2646 ≤ l2.toNatClampNeg then none else (if (f l2.toNatClampNeg) = (-1 : Int32) then fX2_sumOfWorths_30 N K sz f (fX2_sumOfWorths_4 N K sz f  fu) l1 l2 else (if l2 < 0 ∨ 2646 ≤ l2.toNatClampNeg then none else fX2_sumOfWorths_30 N K sz f (fX2_sumOfWorths_4 N K sz f  fu) (l1 + (f l2.toNatClampNeg)) l2))))
set_option maxHeartbeats 4000000 in
set_option maxRecDepth 100000 in
theorem tX2_sumOfWorths_4 {N K : Nat} {h a : Nat} {sz : Int32} {f : Nat → Int32} : ∀ (fu : Nat) (l1 : Int32) (l2 : Int32), AW RX2 "sumOfWorths" cX2_sumOfWorths 3 (some .int) [] (fun _ _ => True) (0) (PN (U := Int32) (fun zz _ => some (.int zz)) (fun zz ad => [(h, .inr (4, [.ref a, .int sz])), (a, .inl (0, 2646, .inl f))])) 0 0 (fX2_sumOfWorths_4 N K sz f  fu l1 l2) 4 [(0, .ref h), (1, .int l1), (2, .int l2)] [] [(h, .inr (4, [.ref a, .int sz])), (a, .inl (0, 2646, .inl f))] := by
  intro fu
  induction fu with
  | zero => intro l1 l2; exact aw_none
  | succ fu ih =>
    intro l1 l2
    refine aw_iload_n (q := 5) gdX2_sumOfWorths_0.2.2.2.2.1 rfl 2 rfl ?_
    refine aw_sipush (q := 8) (v := 2646) gdX2_sumOfWorths_0.2.2.2.2.2.1 rfl (by decide) ?_
    refine aw_icmp_ge (tgt := 36) (q := 11) gdX2_sumOfWorths_0.2.2.2.2.2.2.1 (by decide) rfl (fun h_8 => ?_) (fun h_8 => ?_)
    · refine aw_iload_n (q := 37) gdX2_sumOfWorths_26.2.2.2.2.2.2.1 rfl 1 rfl ?_
      exact aw_ireturn (w := [(h, .inr (4, [.ref a, .int sz])), (a, .inl (0, 2646, .inl f))]) [0, 1] gdX2_sumOfWorths_26.2.2.2.2.2.2.2 rfl rfl rfl rfl (PN.mk (fun _ => 0) rfl rfl)
    · refine aw_aload_n (q := 12) gdX2_sumOfWorths_0.2.2.2.2.2.2.2 rfl 0 rfl ?_
      refine aw_get (q := 15) gdX2_sumOfWorths_12.1 rfl fl_X2_11 0 rfl rfl ?_
      refine aw_iload_n (q := 16) gdX2_sumOfWorths_12.2.1 rfl 2 rfl ?_
      refine aw_iald (q := 17) gdX2_sumOfWorths_12.2.2.1 rfl 1 rfl ?_
      refine aw_iconst (q := 18) (v := (-1)) gdX2_sumOfWorths_12.2.2.2.1 rfl (by decide) ?_
      refine aw_icmp_eq (tgt := 30) (q := 21) gdX2_sumOfWorths_12.2.2.2.2.1 (by decide) rfl (fun h_18 => ?_) (fun h_18 => ?_)
      · exact tX2_sumOfWorths_30 ih _ _
      · refine aw_iload_n (q := 22) gdX2_sumOfWorths_12.2.2.2.2.2.1 rfl 1 rfl ?_
        refine aw_aload_n (q := 23) gdX2_sumOfWorths_12.2.2.2.2.2.2.1 rfl 0 rfl ?_
        refine aw_get (q := 26) gdX2_sumOfWorths_12.2.2.2.2.2.2.2 rfl fl_X2_11 0 rfl rfl ?_
        refine aw_iload_n (q := 27) gdX2_sumOfWorths_26.1 rfl 2 rfl ?_
        refine aw_iald (q := 28) gdX2_sumOfWorths_26.2.1 rfl 1 rfl ?_
        refine aw_iadd (q := 29) gdX2_sumOfWorths_26.2.2.1 rfl ?_
        refine aw_istore_n (q := 30) (lv' := [(1, .int (l1 + (f l2.toNatClampNeg))), (0, .ref h), (2, .int l2)]) gdX2_sumOfWorths_26.2.2.2.1 rfl (by decide) rfl ?_
        refine aw_locals (lv' := [(0, .ref h), (1, .int (l1 + (f l2.toNatClampNeg))), (2, .int l2)]) [1, 0, 2] rfl ?_
        exact tX2_sumOfWorths_30 ih _ _
def fX2_sumOfWorths (N K : Nat) (sz : Int32) (f : Nat → Int32) : Option (Int32) :=
  fX2_sumOfWorths_4 N K sz f  N (0 : Int32) (0 : Int32)
set_option maxHeartbeats 4000000 in
set_option maxRecDepth 100000 in
theorem ok_X2_sumOfWorths {N K : Nat} {h a : Nat} {sz : Int32} {f : Nat → Int32} {xr : Int32} (hE : fX2_sumOfWorths N K sz f = some xr) : OkM yX2_sumOfWorths (.code yX2_sumOfWorths cX2_sumOfWorths 3 (some .int)) (0) 0 0 [.ref h] [(h, .inr (4, [.ref a, .int sz])), (a, .inl (0, 2646, .inl f))] ((PN (U := Int32) (fun zz _ => some (.int zz)) (fun zz ad => [(h, .inr (4, [.ref a, .int sz])), (a, .inl (0, 2646, .inl f))])) xr) := by
  refine ok_of (by decide) (Nat.le_of_ble_eq_true rfl) hE ?_
  refine aw_locals (lv' := [(0, .ref h)]) [0] rfl ?_
  refine aw_iconst (q := 1) (v := 0) gdX2_sumOfWorths_0.1 rfl (by decide) ?_
  refine aw_istore_n (q := 2) (lv' := [(1, .int (0 : Int32)), (0, .ref h)]) gdX2_sumOfWorths_0.2.1 rfl (by decide) rfl ?_
  refine aw_iconst (q := 3) (v := 0) gdX2_sumOfWorths_0.2.2.1 rfl (by decide) ?_
  refine aw_istore_n (q := 4) (lv' := [(2, .int (0 : Int32)), (1, .int (0 : Int32)), (0, .ref h)]) gdX2_sumOfWorths_0.2.2.2.1 rfl (by decide) rfl ?_
  refine aw_locals (lv' := [(0, .ref h), (1, .int (0 : Int32)), (2, .int (0 : Int32))]) [2, 1, 0] rfl ?_
  exact tX2_sumOfWorths_4  N _ _
def fX2_isWellCounted_40 (N K : Nat) (sz : Int32) (f : Nat → Int32) (k_4 : Int32 → Int32 → Option (Int32)) (l1 : Int32) (l2 : Int32) : Option (Int32) :=
  k_4 l1 (l2 + (1 : Int32))
set_option maxHeartbeats 4000000 in
set_option maxRecDepth 100000 in
theorem tX2_isWellCounted_40 {N K : Nat} {h a : Nat} {sz : Int32} {f : Nat → Int32} {k_4 : Int32 → Int32 → Option (Int32)} (hk_4 : ∀ (l1 : Int32) (l2 : Int32), AW RX2 "isWellCounted" cX2_isWellCounted 3 (some .boolean) [] (fun _ _ => True) (1) (PN (U := Int32) (fun zz _ => some (.int zz)) (fun zz ad => [(h, .inr (4, [.ref a, .int sz])), (a, .inl (0, 2646, .inl f))])) 0 0 (k_4 l1 l2) 4 [(0, .ref h), (1, .int l1), (2, .int l2)] [] [(h, .inr (4, [.ref a, .int sz])), (a, .inl (0, 2646, .inl f))]) : ∀ (l1 : Int32) (l2 : Int32), AW RX2 "isWellCounted" cX2_isWellCounted 3 (some .boolean) [] (fun _ _ => True) (1) (PN (U := Int32) (fun zz _ => some (.int zz)) (fun zz ad => [(h, .inr (4, [.ref a, .int sz])), (a, .inl (0, 2646, .inl f))])) 0 0 (fX2_isWellCounted_40 N K sz f k_4 l1 l2) 40 [(0, .ref h), (1, .int l1), (2, .int l2)] [] [(h, .inr (4, [.ref a, .int sz])), (a, .inl (0, 2646, .inl f))] := by
  intro l1 l2
  refine aw_iinc (q := 43) (v := (l2 + (1 : Int32))) (lv' := [(2, .int (l2 + (1 : Int32))), (0, .ref h), (1, .int l1)]) gdX2_isWellCounted_26.2.2.2.2.2.2.1 rfl 2 rfl rfl (by decide) rfl ?_
  refine aw_goto (tgt := 4) gdX2_isWellCounted_26.2.2.2.2.2.2.2 (by decide) ?_
  refine aw_locals (lv' := [(0, .ref h), (1, .int l1), (2, .int (l2 + (1 : Int32)))]) [1, 2, 0] rfl ?_
  exact hk_4 _ _
def fX2_isWellCounted_4 (N K : Nat) (sz : Int32) (f : Nat → Int32) : Nat → Int32 → Int32 → Option (Int32)
  | 0, _, _ => none
  | fu + 1, l1, l2 =>
    (if (2646 : Int32) ≤ l2 then (if l1 = sz then (some (1 : Int32)) else (some (0 : Int32))) else (if l2 < 0 ∨ 2646 ≤ l2.toNatClampNeg then none else (if (f l2.toNatClampNeg) = (-1 : Int32) then fX2_isWellCounted_40 N K sz f (fX2_isWellCounted_4 N K sz f  fu) l1 l2 else ((fX2_numberOf N K l2).bind (fun x22 => ((fX2_measureOf N K l2).bind (fun x26 => ((fX5_rests N K x22 x26).bind (fun x29 => (if x29 = 0 then fX2_isWellCounted_40 N K sz f (fX2_isWellCounted_4 N K sz f  fu) (l1 + (1 : Int32)) l2 else (some (0 : Int32))))))))))))
set_option maxHeartbeats 4000000 in
set_option maxRecDepth 100000 in
theorem tX2_isWellCounted_4 {N K : Nat} {h a : Nat} {sz : Int32} {f : Nat → Int32} : ∀ (fu : Nat) (l1 : Int32) (l2 : Int32), AW RX2 "isWellCounted" cX2_isWellCounted 3 (some .boolean) [] (fun _ _ => True) (1) (PN (U := Int32) (fun zz _ => some (.int zz)) (fun zz ad => [(h, .inr (4, [.ref a, .int sz])), (a, .inl (0, 2646, .inl f))])) 0 0 (fX2_isWellCounted_4 N K sz f  fu l1 l2) 4 [(0, .ref h), (1, .int l1), (2, .int l2)] [] [(h, .inr (4, [.ref a, .int sz])), (a, .inl (0, 2646, .inl f))] := by
  intro fu
  induction fu with
  | zero => intro l1 l2; exact aw_none
  | succ fu ih =>
    intro l1 l2
    refine aw_iload_n (q := 5) gdX2_isWellCounted_0.2.2.2.2.1 rfl 2 rfl ?_
    refine aw_sipush (q := 8) (v := 2646) gdX2_isWellCounted_0.2.2.2.2.2.1 rfl (by decide) ?_
    refine aw_icmp_ge (tgt := 46) (q := 11) gdX2_isWellCounted_0.2.2.2.2.2.2.1 (by decide) rfl (fun h_8 => ?_) (fun h_8 => ?_)
    · refine aw_iload_n (q := 47) gdX2_isWellCounted_46.1 rfl 1 rfl ?_
      refine aw_aload_n (q := 48) gdX2_isWellCounted_46.2.1 rfl 0 rfl ?_
      refine aw_get (q := 51) gdX2_isWellCounted_46.2.2.1 rfl fl_X2_21 0 rfl rfl ?_
      refine aw_icmp_ne (tgt := 58) (q := 54) gdX2_isWellCounted_46.2.2.2.1 (by decide) rfl (fun h_51 => ?_) (fun h_51 => ?_)
      · refine aw_iconst (q := 59) (v := 0) gdX2_isWellCounted_46.2.2.2.2.2.2.1 rfl (by decide) ?_
        exact aw_ireturn (w := [(h, .inr (4, [.ref a, .int sz])), (a, .inl (0, 2646, .inl f))]) [0, 1] gdX2_isWellCounted_46.2.2.2.2.2.2.2 rfl rfl rfl rfl (PN.mk (fun _ => 0) rfl rfl)
      · refine aw_iconst (q := 55) (v := 1) gdX2_isWellCounted_46.2.2.2.2.1 rfl (by decide) ?_
        refine aw_goto (tgt := 59) gdX2_isWellCounted_46.2.2.2.2.2.1 (by decide) ?_
        exact aw_ireturn (w := [(h, .inr (4, [.ref a, .int sz])), (a, .inl (0, 2646, .inl f))]) [0, 1] gdX2_isWellCounted_46.2.2.2.2.2.2.2 rfl rfl rfl rfl (PN.mk (fun _ => 0) rfl rfl)
    · refine aw_aload_n (q := 12) gdX2_isWellCounted_0.2.2.2.2.2.2.2 rfl 0 rfl ?_
      refine aw_get (q := 15) gdX2_isWellCounted_12.1 rfl fl_X2_11 0 rfl rfl ?_
      refine aw_iload_n (q := 16) gdX2_isWellCounted_12.2.1 rfl 2 rfl ?_
      refine aw_iald (q := 17) gdX2_isWellCounted_12.2.2.1 rfl 1 rfl ?_
      refine aw_iconst (q := 18) (v := (-1)) gdX2_isWellCounted_12.2.2.2.1 rfl (by decide) ?_
      refine aw_icmp_eq (tgt := 40) (q := 21) gdX2_isWellCounted_12.2.2.2.2.1 (by decide) rfl (fun h_18 => ?_) (fun h_18 => ?_)
      · exact tX2_isWellCounted_40 ih _ _
      · refine aw_iload_n (q := 22) gdX2_isWellCounted_12.2.2.2.2.2.1 rfl 2 rfl ?_
        refine aw_call (q := 25) (kc1 := 0) (ks1 := 0) (wc := []) (wr := [(h, .inr (4, [.ref a, .int sz])), (a, .inl (0, 2646, .inl f))]) (st1 := fun x22 g22 => [.int x22]) (ws1 := fun x22 g22 => [(h, .inr (4, [.ref a, .int sz])), (a, .inl (0, 2646, .inl f))]) (As := [.int l2]) [] [0, 1] (fun _ => runS gdX2_isWellCounted_12.2.2.2.2.2.2.1 mi_X2_numberOf st_X2_numberOf ml_X2_92 (by omega) rfl (Nat.le_of_ble_eq_true rfl) rfl) (fun x9 h9 => ok_X2_numberOf h9) rfl rfl rfl rfl rfl (by decide +kernel) (by omega) (by omega) (fun _ _ => rfl) (fun _ _ => rfl) (fun x22 g22 => ?_)
        refine aw_iload_n (q := 26) gdX2_isWellCounted_12.2.2.2.2.2.2.2 rfl 2 rfl ?_
        refine aw_call (q := 29) (kc1 := 0) (ks1 := 0) (wc := []) (wr := [(h, .inr (4, [.ref a, .int sz])), (a, .inl (0, 2646, .inl f))]) (st1 := fun x26 g26 => [.int x26, .int x22]) (ws1 := fun x26 g26 => [(h, .inr (4, [.ref a, .int sz])), (a, .inl (0, 2646, .inl f))]) (As := [.int l2]) [] [0, 1] (fun _ => runS gdX2_isWellCounted_26.1 mi_X2_measureOf st_X2_measureOf ml_X2_95 (by omega) rfl (Nat.le_of_ble_eq_true rfl) rfl) (fun x9 h9 => ok_X2_measureOf h9) rfl rfl rfl rfl rfl (by decide +kernel) (by omega) (by omega) (fun _ _ => rfl) (fun _ _ => rfl) (fun x26 g26 => ?_)
        refine aw_call (q := 32) (kc1 := 0) (ks1 := 0) (wc := []) (wr := [(h, .inr (4, [.ref a, .int sz])), (a, .inl (0, 2646, .inl f))]) (st1 := fun x29 g29 => [.int x29]) (ws1 := fun x29 g29 => [(h, .inr (4, [.ref a, .int sz])), (a, .inl (0, 2646, .inl f))]) (As := [.int x22, .int x26]) [] [0, 1] (fun _ => runSN gdX2_isWellCounted_26.2.1 mi_X5_rests st_X5_rests mn_X2_29 (by omega) rfl (Nat.le_of_ble_eq_true rfl) rfl) (fun x9 h9 => ok_X5_rests h9) rfl rfl rfl rfl rfl (by decide +kernel) (by omega) (by omega) (fun _ _ => rfl) (fun _ _ => rfl) (fun x29 g29 => ?_)
        refine aw_if_eq (tgt := 37) (q := 35) gdX2_isWellCounted_26.2.2.1 (by decide) rfl (fun h_32 => ?_) (fun h_32 => ?_)
        · refine aw_iinc (q := 40) (v := (l1 + (1 : Int32))) (lv' := [(1, .int (l1 + (1 : Int32))), (0, .ref h), (2, .int l2)]) gdX2_isWellCounted_26.2.2.2.2.2.1 rfl 1 rfl rfl (by decide) rfl ?_
          refine aw_locals (lv' := [(0, .ref h), (1, .int (l1 + (1 : Int32))), (2, .int l2)]) [1, 0, 2] rfl ?_
          exact tX2_isWellCounted_40 ih _ _
        · refine aw_iconst (q := 36) (v := 0) gdX2_isWellCounted_26.2.2.2.1 rfl (by decide) ?_
          exact aw_ireturn (w := [(h, .inr (4, [.ref a, .int sz])), (a, .inl (0, 2646, .inl f))]) [0, 1] gdX2_isWellCounted_26.2.2.2.2.1 rfl rfl rfl rfl (PN.mk (fun _ => 0) rfl rfl)
def fX2_isWellCounted (N K : Nat) (sz : Int32) (f : Nat → Int32) : Option (Int32) :=
  fX2_isWellCounted_4 N K sz f  N (0 : Int32) (0 : Int32)
set_option maxHeartbeats 4000000 in
set_option maxRecDepth 100000 in
theorem ok_X2_isWellCounted {N K : Nat} {h a : Nat} {sz : Int32} {f : Nat → Int32} {xr : Int32} (hE : fX2_isWellCounted N K sz f = some xr) : OkM yX2_isWellCounted (.code yX2_isWellCounted cX2_isWellCounted 3 (some .boolean)) (1) 0 0 [.ref h] [(h, .inr (4, [.ref a, .int sz])), (a, .inl (0, 2646, .inl f))] ((PN (U := Int32) (fun zz _ => some (.int zz)) (fun zz ad => [(h, .inr (4, [.ref a, .int sz])), (a, .inl (0, 2646, .inl f))])) xr) := by
  refine ok_of (by decide) (Nat.le_of_ble_eq_true rfl) hE ?_
  refine aw_locals (lv' := [(0, .ref h)]) [0] rfl ?_
  refine aw_iconst (q := 1) (v := 0) gdX2_isWellCounted_0.1 rfl (by decide) ?_
  refine aw_istore_n (q := 2) (lv' := [(1, .int (0 : Int32)), (0, .ref h)]) gdX2_isWellCounted_0.2.1 rfl (by decide) rfl ?_
  refine aw_iconst (q := 3) (v := 0) gdX2_isWellCounted_0.2.2.1 rfl (by decide) ?_
  refine aw_istore_n (q := 4) (lv' := [(2, .int (0 : Int32)), (1, .int (0 : Int32)), (0, .ref h)]) gdX2_isWellCounted_0.2.2.2.1 rfl (by decide) rfl ?_
  refine aw_locals (lv' := [(0, .ref h), (1, .int (0 : Int32)), (2, .int (0 : Int32))]) [2, 1, 0] rfl ?_
  exact tX2_isWellCounted_4  N _ _
def fX2_become (N K : Nat) (sz : Int32) (f : Nat → Int32) (tz : Int32) (g : Nat → Int32) : Option (Int32 × (Nat → Int32)) :=
  (some (tz, (va_cpy g f (0 : Int32).toNatClampNeg (0 : Int32).toNatClampNeg (2646 : Int32).toNatClampNeg)))
set_option maxHeartbeats 4000000 in
set_option maxRecDepth 100000 in
theorem ok_X2_become {N K : Nat} {h v a b : Nat} {sz : Int32} {f : Nat → Int32} {tz : Int32} {g : Nat → Int32} {xr : Int32 × (Nat → Int32)} (hE : fX2_become N K sz f tz g = some xr) : OkM yX2_become (.code yX2_become cX2_become 2 none) (2) 0 0 [.ref h, .ref v] [(h, .inr (4, [.ref a, .int sz])), (a, .inl (0, 2646, .inl f)), (v, .inr (4, [.ref b, .int tz])), (b, .inl (0, 2646, .inl g))] ((PN (U := Int32 × (Nat → Int32)) (fun _ _ => none) (fun zz ad => [(h, .inr (4, [.ref a, .int zz.1])), (a, .inl (0, 2646, .inl zz.2)), (v, .inr (4, [.ref b, .int tz])), (b, .inl (0, 2646, .inl g))])) xr) := by
  refine ok_of (by decide) (Nat.le_of_ble_eq_true rfl) hE ?_
  refine aw_locals (lv' := [(0, .ref h), (1, .ref v)]) [0, 1] rfl ?_
  refine aw_aload_n (q := 1) gdX2_become_0.1 rfl 1 rfl ?_
  refine aw_get (q := 4) gdX2_become_0.2.1 rfl fl_X2_11 2 rfl rfl ?_
  refine aw_iconst (q := 5) (v := 0) gdX2_become_0.2.2.1 rfl (by decide) ?_
  refine aw_aload_n (q := 6) gdX2_become_0.2.2.2.1 rfl 0 rfl ?_
  refine aw_get (q := 9) gdX2_become_0.2.2.2.2.1 rfl fl_X2_11 0 rfl rfl ?_
  refine aw_iconst (q := 10) (v := 0) gdX2_become_0.2.2.2.2.2.1 rfl (by decide) ?_
  refine aw_sipush (q := 13) (v := 2646) gdX2_become_0.2.2.2.2.2.2.1 rfl (by decide) ?_
  refine aw_copy (q := 16) (ws' := [(h, .inr (4, [.ref a, .int sz])), (a, .inl (0, 2646, .inl (va_cpy g f (0 : Int32).toNatClampNeg (0 : Int32).toNatClampNeg (2646 : Int32).toNatClampNeg))), (v, .inr (4, [.ref b, .int tz])), (b, .inl (0, 2646, .inl g))]) gdX2_become_0.2.2.2.2.2.2.2 rfl ml_X2_69 w_ac (by omega) (Nat.le_of_ble_eq_true rfl) 3 1 rfl rfl (by decide) (by decide) (by decide) (by decide) (by decide) rfl ?_
  refine aw_aload_n (q := 17) gdX2_become_16.1 rfl 0 rfl ?_
  refine aw_aload_n (q := 18) gdX2_become_16.2.1 rfl 1 rfl ?_
  refine aw_get (q := 21) gdX2_become_16.2.2.1 rfl fl_X2_21 2 rfl rfl ?_
  refine aw_put (q := 24) (ws' := [(h, .inr (4, [.ref a, .int tz])), (a, .inl (0, 2646, .inl (va_cpy g f (0 : Int32).toNatClampNeg (0 : Int32).toNatClampNeg (2646 : Int32).toNatClampNeg))), (v, .inr (4, [.ref b, .int tz])), (b, .inl (0, 2646, .inl g))]) gdX2_become_16.2.2.2.1 rfl fl_X2_21 0 rfl rfl rfl (Nat.le_of_ble_eq_true rfl) rfl ?_
  exact aw_return (w := [(h, .inr (4, [.ref a, .int tz])), (a, .inl (0, 2646, .inl (va_cpy g f (0 : Int32).toNatClampNeg (0 : Int32).toNatClampNeg (2646 : Int32).toNatClampNeg))), (v, .inr (4, [.ref b, .int tz])), (b, .inl (0, 2646, .inl g))]) [0, 1, 2, 3] gdX2_become_16.2.2.2.2 rfl rfl rfl (PN.mk (fun _ => 0) rfl rfl)
def fX2_takeIn_46 (N K : Nat) (sz : Int32) (f : Nat → Int32) (tz : Int32) (g : Nat → Int32) (k_4 : Int32 → Int32 → Int32 → (Nat → Int32) → Option (Int32 × Int32 × (Nat → Int32))) (l2 : Int32) (l3 : Int32) (sz_ : Int32) (f_ : Nat → Int32) : Option (Int32 × Int32 × (Nat → Int32)) :=
  k_4 l2 (l3 + (1 : Int32)) sz_ f_
set_option maxHeartbeats 4000000 in
set_option maxRecDepth 100000 in
theorem tX2_takeIn_46 {N K : Nat} {h v a b : Nat} {sz : Int32} {f : Nat → Int32} {tz : Int32} {g : Nat → Int32} {k_4 : Int32 → Int32 → Int32 → (Nat → Int32) → Option (Int32 × Int32 × (Nat → Int32))} (hk_4 : ∀ (l2 : Int32) (l3 : Int32) (sz_ : Int32) (f_ : Nat → Int32), AW RX2 "takeIn" cX2_takeIn 4 (some .int) [] (fun _ _ => True) (0) (PN (U := Int32 × Int32 × (Nat → Int32)) (fun zz _ => some (.int zz.1)) (fun zz ad => [(h, .inr (4, [.ref a, .int zz.2.1])), (a, .inl (0, 2646, .inl zz.2.2)), (v, .inr (4, [.ref b, .int tz])), (b, .inl (0, 2646, .inl g))])) 0 0 (k_4 l2 l3 sz_ f_) 4 [(0, .ref h), (1, .ref v), (2, .int l2), (3, .int l3)] [] [(h, .inr (4, [.ref a, .int sz_])), (a, .inl (0, 2646, .inl f_)), (v, .inr (4, [.ref b, .int tz])), (b, .inl (0, 2646, .inl g))]) : ∀ (l2 : Int32) (l3 : Int32) (sz_ : Int32) (f_ : Nat → Int32), AW RX2 "takeIn" cX2_takeIn 4 (some .int) [] (fun _ _ => True) (0) (PN (U := Int32 × Int32 × (Nat → Int32)) (fun zz _ => some (.int zz.1)) (fun zz ad => [(h, .inr (4, [.ref a, .int zz.2.1])), (a, .inl (0, 2646, .inl zz.2.2)), (v, .inr (4, [.ref b, .int tz])), (b, .inl (0, 2646, .inl g))])) 0 0 (fX2_takeIn_46 N K sz f tz g k_4 l2 l3 sz_ f_) 46 [(0, .ref h), (1, .ref v), (2, .int l2), (3, .int l3)] [] [(h, .inr (4, [.ref a, .int sz_])), (a, .inl (0, 2646, .inl f_)), (v, .inr (4, [.ref b, .int tz])), (b, .inl (0, 2646, .inl g))] := by
  intro l2 l3 sz_ f_
  refine aw_iinc (q := 49) (v := (l3 + (1 : Int32))) (lv' := [(3, .int (l3 + (1 : Int32))), (0, .ref h), (1, .ref v), (2, .int l2)]) gdX2_takeIn_40.2.2.2.2.1 rfl 3 rfl rfl (by decide) rfl ?_
  refine aw_goto (tgt := 4) gdX2_takeIn_40.2.2.2.2.2.1 (by decide) ?_
  refine aw_locals (lv' := [(0, .ref h), (1, .ref v), (2, .int l2), (3, .int (l3 + (1 : Int32)))]) [1, 2, 3, 0] rfl ?_
  exact hk_4 _ _ _ _
def fX2_takeIn_34 (N K : Nat) (sz : Int32) (f : Nat → Int32) (tz : Int32) (g : Nat → Int32) (k_4 : Int32 → Int32 → Int32 → (Nat → Int32) → Option (Int32 × Int32 × (Nat → Int32))) (l2 : Int32) (l3 : Int32) (sz_ : Int32) (f_ : Nat → Int32) : Option (Int32 × Int32 × (Nat → Int32)) :=
  (if l3 < 0 ∨ 2646 ≤ l3.toNatClampNeg then none else (if l3 < 0 ∨ 2646 ≤ l3.toNatClampNeg then none else fX2_takeIn_46 N K sz f tz g k_4 l2 l3 sz_ (upd f_ l3.toNatClampNeg (g l3.toNatClampNeg))))
set_option maxHeartbeats 4000000 in
set_option maxRecDepth 100000 in
theorem tX2_takeIn_34 {N K : Nat} {h v a b : Nat} {sz : Int32} {f : Nat → Int32} {tz : Int32} {g : Nat → Int32} {k_4 : Int32 → Int32 → Int32 → (Nat → Int32) → Option (Int32 × Int32 × (Nat → Int32))} (hk_4 : ∀ (l2 : Int32) (l3 : Int32) (sz_ : Int32) (f_ : Nat → Int32), AW RX2 "takeIn" cX2_takeIn 4 (some .int) [] (fun _ _ => True) (0) (PN (U := Int32 × Int32 × (Nat → Int32)) (fun zz _ => some (.int zz.1)) (fun zz ad => [(h, .inr (4, [.ref a, .int zz.2.1])), (a, .inl (0, 2646, .inl zz.2.2)), (v, .inr (4, [.ref b, .int tz])), (b, .inl (0, 2646, .inl g))])) 0 0 (k_4 l2 l3 sz_ f_) 4 [(0, .ref h), (1, .ref v), (2, .int l2), (3, .int l3)] [] [(h, .inr (4, [.ref a, .int sz_])), (a, .inl (0, 2646, .inl f_)), (v, .inr (4, [.ref b, .int tz])), (b, .inl (0, 2646, .inl g))]) : ∀ (l2 : Int32) (l3 : Int32) (sz_ : Int32) (f_ : Nat → Int32), AW RX2 "takeIn" cX2_takeIn 4 (some .int) [] (fun _ _ => True) (0) (PN (U := Int32 × Int32 × (Nat → Int32)) (fun zz _ => some (.int zz.1)) (fun zz ad => [(h, .inr (4, [.ref a, .int zz.2.1])), (a, .inl (0, 2646, .inl zz.2.2)), (v, .inr (4, [.ref b, .int tz])), (b, .inl (0, 2646, .inl g))])) 0 0 (fX2_takeIn_34 N K sz f tz g k_4 l2 l3 sz_ f_) 34 [(0, .ref h), (1, .ref v), (2, .int l2), (3, .int l3)] [] [(h, .inr (4, [.ref a, .int sz_])), (a, .inl (0, 2646, .inl f_)), (v, .inr (4, [.ref b, .int tz])), (b, .inl (0, 2646, .inl g))] := by
  intro l2 l3 sz_ f_
  refine aw_aload_n (q := 35) gdX2_takeIn_26.2.2.2.2.1 rfl 0 rfl ?_
  refine aw_get (q := 38) gdX2_takeIn_26.2.2.2.2.2.1 rfl fl_X2_11 0 rfl rfl ?_
  refine aw_iload_n (q := 39) gdX2_takeIn_26.2.2.2.2.2.2.1 rfl 3 rfl ?_
  refine aw_aload_n (q := 40) gdX2_takeIn_26.2.2.2.2.2.2.2 rfl 1 rfl ?_
  refine aw_get (q := 43) gdX2_takeIn_40.1 rfl fl_X2_11 2 rfl rfl ?_
  refine aw_iload_n (q := 44) gdX2_takeIn_40.2.1 rfl 3 rfl ?_
  refine aw_iald (q := 45) gdX2_takeIn_40.2.2.1 rfl 3 rfl ?_
  refine aw_iast (q := 46) (ws' := [(h, .inr (4, [.ref a, .int sz_])), (a, .inl (0, 2646, .inl (upd f_ l3.toNatClampNeg (g l3.toNatClampNeg)))), (v, .inr (4, [.ref b, .int tz])), (b, .inl (0, 2646, .inl g))]) gdX2_takeIn_40.2.2.2.1 rfl 1 rfl rfl ?_
  exact tX2_takeIn_46 hk_4 _ _ _ _
def fX2_takeIn_4 (N K : Nat) (sz : Int32) (f : Nat → Int32) (tz : Int32) (g : Nat → Int32) : Nat → Int32 → Int32 → Int32 → (Nat → Int32) → Option (Int32 × Int32 × (Nat → Int32))
  | 0, _, _, _, _ => none
  | fu + 1, l2, l3, sz_, f_ =>
    (if (2646 : Int32) ≤ l3 then (some (l2, (sz_ + l2), f_)) else (if l3 < 0 ∨ 2646 ≤ l3.toNatClampNeg then none else (if (g l3.toNatClampNeg) = (-1 : Int32) then fX2_takeIn_46 N K sz f tz g (fX2_takeIn_4 N K sz f tz g  fu) l2 l3 sz_ f_ else (if l3 < 0 ∨ 2646 ≤ l3.toNatClampNeg then none else (if (f_ l3.toNatClampNeg) = (-1 : Int32) then fX2_takeIn_34 N K sz f tz g (fX2_takeIn_4 N K sz f tz g  fu) (l2 + (1 : Int32)) l3 sz_ f_ else fX2_takeIn_34 N K sz f tz g (fX2_takeIn_4 N K sz f tz g  fu) l2 l3 sz_ f_)))))
set_option maxHeartbeats 4000000 in
set_option maxRecDepth 100000 in
theorem tX2_takeIn_4 {N K : Nat} {h v a b : Nat} {sz : Int32} {f : Nat → Int32} {tz : Int32} {g : Nat → Int32} : ∀ (fu : Nat) (l2 : Int32) (l3 : Int32) (sz_ : Int32) (f_ : Nat → Int32), AW RX2 "takeIn" cX2_takeIn 4 (some .int) [] (fun _ _ => True) (0) (PN (U := Int32 × Int32 × (Nat → Int32)) (fun zz _ => some (.int zz.1)) (fun zz ad => [(h, .inr (4, [.ref a, .int zz.2.1])), (a, .inl (0, 2646, .inl zz.2.2)), (v, .inr (4, [.ref b, .int tz])), (b, .inl (0, 2646, .inl g))])) 0 0 (fX2_takeIn_4 N K sz f tz g  fu l2 l3 sz_ f_) 4 [(0, .ref h), (1, .ref v), (2, .int l2), (3, .int l3)] [] [(h, .inr (4, [.ref a, .int sz_])), (a, .inl (0, 2646, .inl f_)), (v, .inr (4, [.ref b, .int tz])), (b, .inl (0, 2646, .inl g))] := by
  intro fu
  induction fu with
  | zero => intro l2 l3 sz_ f_; exact aw_none
  | succ fu ih =>
    intro l2 l3 sz_ f_
    refine aw_iload_n (q := 5) gdX2_takeIn_0.2.2.2.2.1 rfl 3 rfl ?_
    refine aw_sipush (q := 8) (v := 2646) gdX2_takeIn_0.2.2.2.2.2.1 rfl (by decide) ?_
    refine aw_icmp_ge (tgt := 52) (q := 11) gdX2_takeIn_0.2.2.2.2.2.2.1 (by decide) rfl (fun h_8 => ?_) (fun h_8 => ?_)
    · refine aw_aload_n (q := 53) gdX2_takeIn_40.2.2.2.2.2.2.1 rfl 0 rfl ?_
      refine aw_dup (q := 54) gdX2_takeIn_40.2.2.2.2.2.2.2 rfl rfl ?_
      refine aw_get (q := 57) gdX2_takeIn_54.1 rfl fl_X2_21 0 rfl rfl ?_
      refine aw_iload_n (q := 58) gdX2_takeIn_54.2.1 rfl 2 rfl ?_
      refine aw_iadd (q := 59) gdX2_takeIn_54.2.2.1 rfl ?_
      refine aw_put (q := 62) (ws' := [(h, .inr (4, [.ref a, .int (sz_ + l2)])), (a, .inl (0, 2646, .inl f_)), (v, .inr (4, [.ref b, .int tz])), (b, .inl (0, 2646, .inl g))]) gdX2_takeIn_54.2.2.2.1 rfl fl_X2_21 0 rfl rfl rfl (Nat.le_of_ble_eq_true rfl) rfl ?_
      refine aw_iload_n (q := 63) gdX2_takeIn_54.2.2.2.2.1 rfl 2 rfl ?_
      exact aw_ireturn (w := [(h, .inr (4, [.ref a, .int (sz_ + l2)])), (a, .inl (0, 2646, .inl f_)), (v, .inr (4, [.ref b, .int tz])), (b, .inl (0, 2646, .inl g))]) [0, 1, 2, 3] gdX2_takeIn_54.2.2.2.2.2 rfl rfl rfl rfl (PN.mk (fun _ => 0) rfl rfl)
    · refine aw_aload_n (q := 12) gdX2_takeIn_0.2.2.2.2.2.2.2 rfl 1 rfl ?_
      refine aw_get (q := 15) gdX2_takeIn_12.1 rfl fl_X2_11 2 rfl rfl ?_
      refine aw_iload_n (q := 16) gdX2_takeIn_12.2.1 rfl 3 rfl ?_
      refine aw_iald (q := 17) gdX2_takeIn_12.2.2.1 rfl 3 rfl ?_
      refine aw_iconst (q := 18) (v := (-1)) gdX2_takeIn_12.2.2.2.1 rfl (by decide) ?_
      refine aw_icmp_eq (tgt := 46) (q := 21) gdX2_takeIn_12.2.2.2.2.1 (by decide) rfl (fun h_18 => ?_) (fun h_18 => ?_)
      · exact tX2_takeIn_46 ih _ _ _ _
      · refine aw_aload_n (q := 22) gdX2_takeIn_12.2.2.2.2.2.1 rfl 0 rfl ?_
        refine aw_get (q := 25) gdX2_takeIn_12.2.2.2.2.2.2.1 rfl fl_X2_11 0 rfl rfl ?_
        refine aw_iload_n (q := 26) gdX2_takeIn_12.2.2.2.2.2.2.2 rfl 3 rfl ?_
        refine aw_iald (q := 27) gdX2_takeIn_26.1 rfl 1 rfl ?_
        refine aw_iconst (q := 28) (v := (-1)) gdX2_takeIn_26.2.1 rfl (by decide) ?_
        refine aw_icmp_ne (tgt := 34) (q := 31) gdX2_takeIn_26.2.2.1 (by decide) rfl (fun h_28 => ?_) (fun h_28 => ?_)
        · exact tX2_takeIn_34 ih _ _ _ _
        · refine aw_iinc (q := 34) (v := (l2 + (1 : Int32))) (lv' := [(2, .int (l2 + (1 : Int32))), (0, .ref h), (1, .ref v), (3, .int l3)]) gdX2_takeIn_26.2.2.2.1 rfl 2 rfl rfl (by decide) rfl ?_
          refine aw_locals (lv' := [(0, .ref h), (1, .ref v), (2, .int (l2 + (1 : Int32))), (3, .int l3)]) [1, 2, 0, 3] rfl ?_
          exact tX2_takeIn_34 ih _ _ _ _
def fX2_takeIn (N K : Nat) (sz : Int32) (f : Nat → Int32) (tz : Int32) (g : Nat → Int32) : Option (Int32 × Int32 × (Nat → Int32)) :=
  fX2_takeIn_4 N K sz f tz g  N (0 : Int32) (0 : Int32) sz f
set_option maxHeartbeats 4000000 in
set_option maxRecDepth 100000 in
theorem ok_X2_takeIn {N K : Nat} {h v a b : Nat} {sz : Int32} {f : Nat → Int32} {tz : Int32} {g : Nat → Int32} {xr : Int32 × Int32 × (Nat → Int32)} (hE : fX2_takeIn N K sz f tz g = some xr) : OkM yX2_takeIn (.code yX2_takeIn cX2_takeIn 4 (some .int)) (0) 0 0 [.ref h, .ref v] [(h, .inr (4, [.ref a, .int sz])), (a, .inl (0, 2646, .inl f)), (v, .inr (4, [.ref b, .int tz])), (b, .inl (0, 2646, .inl g))] ((PN (U := Int32 × Int32 × (Nat → Int32)) (fun zz _ => some (.int zz.1)) (fun zz ad => [(h, .inr (4, [.ref a, .int zz.2.1])), (a, .inl (0, 2646, .inl zz.2.2)), (v, .inr (4, [.ref b, .int tz])), (b, .inl (0, 2646, .inl g))])) xr) := by
  refine ok_of (by decide) (Nat.le_of_ble_eq_true rfl) hE ?_
  refine aw_locals (lv' := [(0, .ref h), (1, .ref v)]) [0, 1] rfl ?_
  refine aw_iconst (q := 1) (v := 0) gdX2_takeIn_0.1 rfl (by decide) ?_
  refine aw_istore_n (q := 2) (lv' := [(2, .int (0 : Int32)), (0, .ref h), (1, .ref v)]) gdX2_takeIn_0.2.1 rfl (by decide) rfl ?_
  refine aw_iconst (q := 3) (v := 0) gdX2_takeIn_0.2.2.1 rfl (by decide) ?_
  refine aw_istore_n (q := 4) (lv' := [(3, .int (0 : Int32)), (2, .int (0 : Int32)), (0, .ref h), (1, .ref v)]) gdX2_takeIn_0.2.2.2.1 rfl (by decide) rfl ?_
  refine aw_locals (lv' := [(0, .ref h), (1, .ref v), (2, .int (0 : Int32)), (3, .int (0 : Int32))]) [2, 3, 1, 0] rfl ?_
  exact tX2_takeIn_4  N _ _ _ _
def fX2_isLike_2 (N K : Nat) (sz : Int32) (f : Nat → Int32) (tz : Int32) (g : Nat → Int32) : Nat → Int32 → Option (Int32)
  | 0, _ => none
  | fu + 1, l2 =>
    (if (2646 : Int32) ≤ l2 then (some (1 : Int32)) else (if l2 < 0 ∨ 2646 ≤ l2.toNatClampNeg then none else (if l2 < 0 ∨ 2646 ≤ l2.toNatClampNeg then none else (if (f l2.toNatClampNeg) = (g l2.toNatClampNeg) then fX2_isLike_2 N K sz f tz g  fu (l2 + (1 : Int32)) else (some (0 : Int32))))))
set_option maxHeartbeats 4000000 in
set_option maxRecDepth 100000 in
theorem tX2_isLike_2 {N K : Nat} {h v a b : Nat} {sz : Int32} {f : Nat → Int32} {tz : Int32} {g : Nat → Int32} : ∀ (fu : Nat) (l2 : Int32), AW RX2 "isLike" cX2_isLike 3 (some .boolean) [] (fun _ _ => True) (0) (PN (U := Int32) (fun zz _ => some (.int zz)) (fun zz ad => [(h, .inr (4, [.ref a, .int sz])), (a, .inl (0, 2646, .inl f)), (v, .inr (4, [.ref b, .int tz])), (b, .inl (0, 2646, .inl g))])) 0 0 (fX2_isLike_2 N K sz f tz g  fu l2) 2 [(0, .ref h), (1, .ref v), (2, .int l2)] [] [(h, .inr (4, [.ref a, .int sz])), (a, .inl (0, 2646, .inl f)), (v, .inr (4, [.ref b, .int tz])), (b, .inl (0, 2646, .inl g))] := by
  intro fu
  induction fu with
  | zero => intro l2; exact aw_none
  | succ fu ih =>
    intro l2
    refine aw_iload_n (q := 3) gdX2_isLike_0.2.2.1 rfl 2 rfl ?_
    refine aw_sipush (q := 6) (v := 2646) gdX2_isLike_0.2.2.2.1 rfl (by decide) ?_
    refine aw_icmp_ge (tgt := 32) (q := 9) gdX2_isLike_0.2.2.2.2.1 (by decide) rfl (fun h_6 => ?_) (fun h_6 => ?_)
    · refine aw_iconst (q := 33) (v := 1) gdX2_isLike_26.2.2.1 rfl (by decide) ?_
      exact aw_ireturn (w := [(h, .inr (4, [.ref a, .int sz])), (a, .inl (0, 2646, .inl f)), (v, .inr (4, [.ref b, .int tz])), (b, .inl (0, 2646, .inl g))]) [0, 1, 2, 3] gdX2_isLike_26.2.2.2 rfl rfl rfl rfl (PN.mk (fun _ => 0) rfl rfl)
    · refine aw_aload_n (q := 10) gdX2_isLike_0.2.2.2.2.2.1 rfl 0 rfl ?_
      refine aw_get (q := 13) gdX2_isLike_0.2.2.2.2.2.2.1 rfl fl_X2_11 0 rfl rfl ?_
      refine aw_iload_n (q := 14) gdX2_isLike_0.2.2.2.2.2.2.2 rfl 2 rfl ?_
      refine aw_iald (q := 15) gdX2_isLike_14.1 rfl 1 rfl ?_
      refine aw_aload_n (q := 16) gdX2_isLike_14.2.1 rfl 1 rfl ?_
      refine aw_get (q := 19) gdX2_isLike_14.2.2.1 rfl fl_X2_11 2 rfl rfl ?_
      refine aw_iload_n (q := 20) gdX2_isLike_14.2.2.2.1 rfl 2 rfl ?_
      refine aw_iald (q := 21) gdX2_isLike_14.2.2.2.2.1 rfl 3 rfl ?_
      refine aw_icmp_eq (tgt := 26) (q := 24) gdX2_isLike_14.2.2.2.2.2.1 (by decide) rfl (fun h_21 => ?_) (fun h_21 => ?_)
      · refine aw_iinc (q := 29) (v := (l2 + (1 : Int32))) (lv' := [(2, .int (l2 + (1 : Int32))), (0, .ref h), (1, .ref v)]) gdX2_isLike_26.1 rfl 2 rfl rfl (by decide) rfl ?_
        refine aw_goto (tgt := 2) gdX2_isLike_26.2.1 (by decide) ?_
        refine aw_locals (lv' := [(0, .ref h), (1, .ref v), (2, .int (l2 + (1 : Int32)))]) [1, 2, 0] rfl ?_
        exact ih _
      · refine aw_iconst (q := 25) (v := 0) gdX2_isLike_14.2.2.2.2.2.2.1 rfl (by decide) ?_
        exact aw_ireturn (w := [(h, .inr (4, [.ref a, .int sz])), (a, .inl (0, 2646, .inl f)), (v, .inr (4, [.ref b, .int tz])), (b, .inl (0, 2646, .inl g))]) [0, 1, 2, 3] gdX2_isLike_14.2.2.2.2.2.2.2 rfl rfl rfl rfl (PN.mk (fun _ => 0) rfl rfl)
def fX2_isLike (N K : Nat) (sz : Int32) (f : Nat → Int32) (tz : Int32) (g : Nat → Int32) : Option (Int32) :=
  fX2_isLike_2 N K sz f tz g  N (0 : Int32)
set_option maxHeartbeats 4000000 in
set_option maxRecDepth 100000 in
theorem ok_X2_isLike {N K : Nat} {h v a b : Nat} {sz : Int32} {f : Nat → Int32} {tz : Int32} {g : Nat → Int32} {xr : Int32} (hE : fX2_isLike N K sz f tz g = some xr) : OkM yX2_isLike (.code yX2_isLike cX2_isLike 3 (some .boolean)) (0) 0 0 [.ref h, .ref v] [(h, .inr (4, [.ref a, .int sz])), (a, .inl (0, 2646, .inl f)), (v, .inr (4, [.ref b, .int tz])), (b, .inl (0, 2646, .inl g))] ((PN (U := Int32) (fun zz _ => some (.int zz)) (fun zz ad => [(h, .inr (4, [.ref a, .int sz])), (a, .inl (0, 2646, .inl f)), (v, .inr (4, [.ref b, .int tz])), (b, .inl (0, 2646, .inl g))])) xr) := by
  refine ok_of (by decide) (Nat.le_of_ble_eq_true rfl) hE ?_
  refine aw_locals (lv' := [(0, .ref h), (1, .ref v)]) [0, 1] rfl ?_
  refine aw_iconst (q := 1) (v := 0) gdX2_isLike_0.1 rfl (by decide) ?_
  refine aw_istore_n (q := 2) (lv' := [(2, .int (0 : Int32)), (0, .ref h), (1, .ref v)]) gdX2_isLike_0.2.1 rfl (by decide) rfl ?_
  refine aw_locals (lv' := [(0, .ref h), (1, .ref v), (2, .int (0 : Int32))]) [1, 2, 0] rfl ?_
  exact tX2_isLike_2  N _
def fX2_becomeOwn (N K : Nat) (sz : Int32) (f : Nat → Int32) : Option (Int32 × (Nat → Int32)) :=
  (some (sz, (va_cpy f f (0 : Int32).toNatClampNeg (0 : Int32).toNatClampNeg (2646 : Int32).toNatClampNeg)))
set_option maxHeartbeats 4000000 in
set_option maxRecDepth 100000 in
theorem ok_X2_becomeOwn {N K : Nat} {h a : Nat} {sz : Int32} {f : Nat → Int32} {xr : Int32 × (Nat → Int32)} (hE : fX2_becomeOwn N K sz f = some xr) : OkM yX2_become (.code yX2_become cX2_become 2 none) (2) 0 0 [.ref h, .ref h] [(h, .inr (4, [.ref a, .int sz])), (a, .inl (0, 2646, .inl f))] ((PN (U := Int32 × (Nat → Int32)) (fun _ _ => none) (fun zz ad => [(h, .inr (4, [.ref a, .int zz.1])), (a, .inl (0, 2646, .inl zz.2))])) xr) := by
  refine ok_of (by decide) (Nat.le_of_ble_eq_true rfl) hE ?_
  refine aw_locals (lv' := [(0, .ref h), (1, .ref h)]) [0, 1] rfl ?_
  refine aw_aload_n (q := 1) gdX2_become_0.1 rfl 1 rfl ?_
  refine aw_get (q := 4) gdX2_become_0.2.1 rfl fl_X2_11 0 rfl rfl ?_
  refine aw_iconst (q := 5) (v := 0) gdX2_become_0.2.2.1 rfl (by decide) ?_
  refine aw_aload_n (q := 6) gdX2_become_0.2.2.2.1 rfl 0 rfl ?_
  refine aw_get (q := 9) gdX2_become_0.2.2.2.2.1 rfl fl_X2_11 0 rfl rfl ?_
  refine aw_iconst (q := 10) (v := 0) gdX2_become_0.2.2.2.2.2.1 rfl (by decide) ?_
  refine aw_sipush (q := 13) (v := 2646) gdX2_become_0.2.2.2.2.2.2.1 rfl (by decide) ?_
  refine aw_copy (q := 16) (ws' := [(h, .inr (4, [.ref a, .int sz])), (a, .inl (0, 2646, .inl (va_cpy f f (0 : Int32).toNatClampNeg (0 : Int32).toNatClampNeg (2646 : Int32).toNatClampNeg)))]) gdX2_become_0.2.2.2.2.2.2.2 rfl ml_X2_69 w_ac (by omega) (Nat.le_of_ble_eq_true rfl) 1 1 rfl rfl (by decide) (by decide) (by decide) (by decide) (by decide) rfl ?_
  refine aw_aload_n (q := 17) gdX2_become_16.1 rfl 0 rfl ?_
  refine aw_aload_n (q := 18) gdX2_become_16.2.1 rfl 1 rfl ?_
  refine aw_get (q := 21) gdX2_become_16.2.2.1 rfl fl_X2_21 0 rfl rfl ?_
  refine aw_put (q := 24) (ws' := [(h, .inr (4, [.ref a, .int sz])), (a, .inl (0, 2646, .inl (va_cpy f f (0 : Int32).toNatClampNeg (0 : Int32).toNatClampNeg (2646 : Int32).toNatClampNeg)))]) gdX2_become_16.2.2.2.1 rfl fl_X2_21 0 rfl rfl rfl (Nat.le_of_ble_eq_true rfl) rfl ?_
  exact aw_return (w := [(h, .inr (4, [.ref a, .int sz])), (a, .inl (0, 2646, .inl (va_cpy f f (0 : Int32).toNatClampNeg (0 : Int32).toNatClampNeg (2646 : Int32).toNatClampNeg)))]) [0, 1] gdX2_become_16.2.2.2.2 rfl rfl rfl (PN.mk (fun _ => 0) rfl rfl)
def fX2_isLikeOwn_2 (N K : Nat) (sz : Int32) (f : Nat → Int32) : Nat → Int32 → Option (Int32)
  | 0, _ => none
  | fu + 1, l2 =>
    (if (2646 : Int32) ≤ l2 then (some (1 : Int32)) else (if l2 < 0 ∨ 2646 ≤ l2.toNatClampNeg then none else (if l2 < 0 ∨ 2646 ≤ l2.toNatClampNeg then none else fX2_isLikeOwn_2 N K sz f  fu (l2 + (1 : Int32)))))
set_option maxHeartbeats 4000000 in
set_option maxRecDepth 100000 in
theorem tX2_isLikeOwn_2 {N K : Nat} {h a : Nat} {sz : Int32} {f : Nat → Int32} : ∀ (fu : Nat) (l2 : Int32), AW RX2 "isLike" cX2_isLike 3 (some .boolean) [] (fun _ _ => True) (0) (PN (U := Int32) (fun zz _ => some (.int zz)) (fun zz ad => [(h, .inr (4, [.ref a, .int sz])), (a, .inl (0, 2646, .inl f))])) 0 0 (fX2_isLikeOwn_2 N K sz f  fu l2) 2 [(0, .ref h), (1, .ref h), (2, .int l2)] [] [(h, .inr (4, [.ref a, .int sz])), (a, .inl (0, 2646, .inl f))] := by
  intro fu
  induction fu with
  | zero => intro l2; exact aw_none
  | succ fu ih =>
    intro l2
    refine aw_iload_n (q := 3) gdX2_isLike_0.2.2.1 rfl 2 rfl ?_
    refine aw_sipush (q := 6) (v := 2646) gdX2_isLike_0.2.2.2.1 rfl (by decide) ?_
    refine aw_icmp_ge (tgt := 32) (q := 9) gdX2_isLike_0.2.2.2.2.1 (by decide) rfl (fun h_6 => ?_) (fun h_6 => ?_)
    · refine aw_iconst (q := 33) (v := 1) gdX2_isLike_26.2.2.1 rfl (by decide) ?_
      exact aw_ireturn (w := [(h, .inr (4, [.ref a, .int sz])), (a, .inl (0, 2646, .inl f))]) [0, 1] gdX2_isLike_26.2.2.2 rfl rfl rfl rfl (PN.mk (fun _ => 0) rfl rfl)
    · refine aw_aload_n (q := 10) gdX2_isLike_0.2.2.2.2.2.1 rfl 0 rfl ?_
      refine aw_get (q := 13) gdX2_isLike_0.2.2.2.2.2.2.1 rfl fl_X2_11 0 rfl rfl ?_
      refine aw_iload_n (q := 14) gdX2_isLike_0.2.2.2.2.2.2.2 rfl 2 rfl ?_
      refine aw_iald (q := 15) gdX2_isLike_14.1 rfl 1 rfl ?_
      refine aw_aload_n (q := 16) gdX2_isLike_14.2.1 rfl 1 rfl ?_
      refine aw_get (q := 19) gdX2_isLike_14.2.2.1 rfl fl_X2_11 0 rfl rfl ?_
      refine aw_iload_n (q := 20) gdX2_isLike_14.2.2.2.1 rfl 2 rfl ?_
      refine aw_iald (q := 21) gdX2_isLike_14.2.2.2.2.1 rfl 1 rfl ?_
      refine aw_icmp_eqT (tgt := 26) gdX2_isLike_14.2.2.2.2.2.1 (by decide) rfl ?_
      refine aw_iinc (q := 29) (v := (l2 + (1 : Int32))) (lv' := [(2, .int (l2 + (1 : Int32))), (0, .ref h), (1, .ref h)]) gdX2_isLike_26.1 rfl 2 rfl rfl (by decide) rfl ?_
      refine aw_goto (tgt := 2) gdX2_isLike_26.2.1 (by decide) ?_
      refine aw_locals (lv' := [(0, .ref h), (1, .ref h), (2, .int (l2 + (1 : Int32)))]) [1, 2, 0] rfl ?_
      exact ih _
def fX2_isLikeOwn (N K : Nat) (sz : Int32) (f : Nat → Int32) : Option (Int32) :=
  fX2_isLikeOwn_2 N K sz f  N (0 : Int32)
set_option maxHeartbeats 4000000 in
set_option maxRecDepth 100000 in
theorem ok_X2_isLikeOwn {N K : Nat} {h a : Nat} {sz : Int32} {f : Nat → Int32} {xr : Int32} (hE : fX2_isLikeOwn N K sz f = some xr) : OkM yX2_isLike (.code yX2_isLike cX2_isLike 3 (some .boolean)) (0) 0 0 [.ref h, .ref h] [(h, .inr (4, [.ref a, .int sz])), (a, .inl (0, 2646, .inl f))] ((PN (U := Int32) (fun zz _ => some (.int zz)) (fun zz ad => [(h, .inr (4, [.ref a, .int sz])), (a, .inl (0, 2646, .inl f))])) xr) := by
  refine ok_of (by decide) (Nat.le_of_ble_eq_true rfl) hE ?_
  refine aw_locals (lv' := [(0, .ref h), (1, .ref h)]) [0, 1] rfl ?_
  refine aw_iconst (q := 1) (v := 0) gdX2_isLike_0.1 rfl (by decide) ?_
  refine aw_istore_n (q := 2) (lv' := [(2, .int (0 : Int32)), (0, .ref h), (1, .ref h)]) gdX2_isLike_0.2.1 rfl (by decide) rfl ?_
  refine aw_locals (lv' := [(0, .ref h), (1, .ref h), (2, .int (0 : Int32))]) [1, 2, 0] rfl ?_
  exact tX2_isLikeOwn_2  N _
def fX2_agreesWithRow_42 (N K : Nat) (sz : Int32) (f : Nat → Int32) (g : Nat → Int32) (p0 : Int32) (p1 : Int32) (k_3 : Int32 → Option (Int32)) (l4 : Int32) : Option (Int32) :=
  k_3 (l4 + (1 : Int32))
set_option maxHeartbeats 4000000 in
set_option maxRecDepth 100000 in
theorem tX2_agreesWithRow_42 {N K : Nat} {h s a r : Nat} {sz : Int32} {f : Nat → Int32} {g : Nat → Int32} {p0 : Int32} {p1 : Int32} {k_3 : Int32 → Option (Int32)} (hk_3 : ∀ (l4 : Int32), AW RX2 "agreesWithRow" cX2_agreesWithRow 5 (some .boolean) [] (fun _ _ => True) (3) (PN (U := Int32) (fun zz _ => some (.int zz)) (fun zz ad => [(h, .inr (4, [.ref a, .int sz])), (a, .inl (0, 2646, .inl f)), (s, .inr (5, [.ref r])), (r, .inl (0, 21, .inl g))])) 0 0 (k_3 l4) 3 [(0, .ref h), (1, .int p0), (2, .int p1), (3, .ref s), (4, .int l4)] [] [(h, .inr (4, [.ref a, .int sz])), (a, .inl (0, 2646, .inl f)), (s, .inr (5, [.ref r])), (r, .inl (0, 21, .inl g))]) : ∀ (l4 : Int32), AW RX2 "agreesWithRow" cX2_agreesWithRow 5 (some .boolean) [] (fun _ _ => True) (3) (PN (U := Int32) (fun zz _ => some (.int zz)) (fun zz ad => [(h, .inr (4, [.ref a, .int sz])), (a, .inl (0, 2646, .inl f)), (s, .inr (5, [.ref r])), (r, .inl (0, 21, .inl g))])) 0 0 (fX2_agreesWithRow_42 N K sz f g p0 p1 k_3 l4) 42 [(0, .ref h), (1, .int p0), (2, .int p1), (3, .ref s), (4, .int l4)] [] [(h, .inr (4, [.ref a, .int sz])), (a, .inl (0, 2646, .inl f)), (s, .inr (5, [.ref r])), (r, .inl (0, 21, .inl g))] := by
  intro l4
  refine aw_iinc (q := 45) (v := (l4 + (1 : Int32))) (lv' := [(4, .int (l4 + (1 : Int32))), (0, .ref h), (1, .int p0), (2, .int p1), (3, .ref s)]) gdX2_agreesWithRow_42.1 rfl 4 rfl rfl (by decide) rfl ?_
  refine aw_goto (tgt := 3) gdX2_agreesWithRow_42.2.1 (by decide) ?_
  refine aw_locals (lv' := [(0, .ref h), (1, .int p0), (2, .int p1), (3, .ref s), (4, .int (l4 + (1 : Int32)))]) [1, 2, 3, 4, 0] rfl ?_
  exact hk_3 _
def fX2_agreesWithRow_3 (N K : Nat) (sz : Int32) (f : Nat → Int32) (g : Nat → Int32) (p0 : Int32) (p1 : Int32) : Nat → Int32 → Option (Int32)
  | 0, _ => none
  | fu + 1, l4 =>
    (if (20 : Int32) < l4 then (some (1 : Int32)) else ((fX2_keeps N K sz f p0 l4 p1).bind (fun x15 => (if x15 = 0 then fX2_agreesWithRow_42 N K sz f g p0 p1 (fX2_agreesWithRow_3 N K sz f g p0 p1  fu) l4 else ((fX2_keptWorth N K sz f p0 l4 p1).bind (fun x26 => ((fX3_reckoned N K g p0 l4 p1).bind (fun x34 => (if x26 = x34 then fX2_agreesWithRow_42 N K sz f g p0 p1 (fX2_agreesWithRow_3 N K sz f g p0 p1  fu) l4 else (some (0 : Int32)))))))))))
set_option maxHeartbeats 4000000 in
set_option maxRecDepth 100000 in
theorem tX2_agreesWithRow_3 {N K : Nat} {h s a r : Nat} {sz : Int32} {f : Nat → Int32} {g : Nat → Int32} {p0 : Int32} {p1 : Int32} : ∀ (fu : Nat) (l4 : Int32), AW RX2 "agreesWithRow" cX2_agreesWithRow 5 (some .boolean) [] (fun _ _ => True) (3) (PN (U := Int32) (fun zz _ => some (.int zz)) (fun zz ad => [(h, .inr (4, [.ref a, .int sz])), (a, .inl (0, 2646, .inl f)), (s, .inr (5, [.ref r])), (r, .inl (0, 21, .inl g))])) 0 0 (fX2_agreesWithRow_3 N K sz f g p0 p1  fu l4) 3 [(0, .ref h), (1, .int p0), (2, .int p1), (3, .ref s), (4, .int l4)] [] [(h, .inr (4, [.ref a, .int sz])), (a, .inl (0, 2646, .inl f)), (s, .inr (5, [.ref r])), (r, .inl (0, 21, .inl g))] := by
  intro fu
  induction fu with
  | zero => intro l4; exact aw_none
  | succ fu ih =>
    intro l4
    refine aw_iload (q := 5) gdX2_agreesWithRow_0.2.2.1 rfl 4 rfl ?_
    refine aw_bipush (q := 7) (v := 20) gdX2_agreesWithRow_0.2.2.2.1 rfl (by decide) ?_
    refine aw_icmp_gt (tgt := 48) (q := 10) gdX2_agreesWithRow_0.2.2.2.2.1 (by decide) rfl (fun h_7 => ?_) (fun h_7 => ?_)
    · refine aw_iconst (q := 49) (v := 1) gdX2_agreesWithRow_42.2.2.1 rfl (by decide) ?_
      exact aw_ireturn (w := [(h, .inr (4, [.ref a, .int sz])), (a, .inl (0, 2646, .inl f)), (s, .inr (5, [.ref r])), (r, .inl (0, 21, .inl g))]) [0, 1, 2, 3] gdX2_agreesWithRow_42.2.2.2 rfl rfl rfl rfl (PN.mk (fun _ => 0) rfl rfl)
    · refine aw_aload_n (q := 11) gdX2_agreesWithRow_0.2.2.2.2.2.1 rfl 0 rfl ?_
      refine aw_iload_n (q := 12) gdX2_agreesWithRow_0.2.2.2.2.2.2.1 rfl 1 rfl ?_
      refine aw_iload (q := 14) gdX2_agreesWithRow_0.2.2.2.2.2.2.2 rfl 4 rfl ?_
      refine aw_iload_n (q := 15) gdX2_agreesWithRow_14.1 rfl 2 rfl ?_
      refine aw_call (q := 18) (kc1 := 0) (ks1 := 0) (wc := [(h, .inr (4, [.ref a, .int sz])), (a, .inl (0, 2646, .inl f))]) (wr := [(s, .inr (5, [.ref r])), (r, .inl (0, 21, .inl g))]) (st1 := fun x15 g15 => [.int x15]) (ws1 := fun x15 g15 => [(s, .inr (5, [.ref r])), (r, .inl (0, 21, .inl g)), (h, .inr (4, [.ref a, .int sz])), (a, .inl (0, 2646, .inl f))]) (As := [.ref h, .int p0, .int l4, .int p1]) [0, 1] [2, 3] (fun _ => runV (q0 := 0) gdX2_agreesWithRow_14.2.1 mi_X2_keeps im_X2_keeps se_X2_keeps ml_X2_61 (by omega) rfl (Nat.le_of_ble_eq_true rfl) rfl rfl rfl rfl) (fun x9 h9 => ok_X2_keeps h9) rfl rfl rfl rfl rfl (by decide +kernel) (by omega) (by omega) (fun _ _ => rfl) (fun _ _ => rfl) (fun x15 g15 => ?_)
      refine aw_if_eq (tgt := 42) (q := 21) gdX2_agreesWithRow_14.2.2.1 (by decide) rfl (fun h_18 => ?_) (fun h_18 => ?_)
      · refine aw_world (ws' := [(h, .inr (4, [.ref a, .int sz])), (a, .inl (0, 2646, .inl f)), (s, .inr (5, [.ref r])), (r, .inl (0, 21, .inl g))]) [2, 3, 0, 1] rfl rfl ?_
        exact tX2_agreesWithRow_42 ih _
      · refine aw_aload_n (q := 22) gdX2_agreesWithRow_14.2.2.2.1 rfl 0 rfl ?_
        refine aw_iload_n (q := 23) gdX2_agreesWithRow_14.2.2.2.2.1 rfl 1 rfl ?_
        refine aw_iload (q := 25) gdX2_agreesWithRow_14.2.2.2.2.2.1 rfl 4 rfl ?_
        refine aw_iload_n (q := 26) gdX2_agreesWithRow_14.2.2.2.2.2.2.1 rfl 2 rfl ?_
        refine aw_call (q := 29) (kc1 := 0) (ks1 := 0) (wc := [(h, .inr (4, [.ref a, .int sz])), (a, .inl (0, 2646, .inl f))]) (wr := [(s, .inr (5, [.ref r])), (r, .inl (0, 21, .inl g))]) (st1 := fun x26 g26 => [.int x26]) (ws1 := fun x26 g26 => [(s, .inr (5, [.ref r])), (r, .inl (0, 21, .inl g)), (h, .inr (4, [.ref a, .int sz])), (a, .inl (0, 2646, .inl f))]) (As := [.ref h, .int p0, .int l4, .int p1]) [2, 3] [0, 1] (fun _ => runV (q0 := 2) gdX2_agreesWithRow_14.2.2.2.2.2.2.2 mi_X2_keptWorth im_X2_keptWorth se_X2_keptWorth ml_X2_58 (by omega) rfl (Nat.le_of_ble_eq_true rfl) rfl rfl rfl rfl) (fun x9 h9 => ok_X2_keptWorth h9) rfl rfl rfl rfl rfl (by decide +kernel) (by omega) (by omega) (fun _ _ => rfl) (fun _ _ => rfl) (fun x26 g26 => ?_)
        refine aw_aload_n (q := 30) gdX2_agreesWithRow_29.1 rfl 3 rfl ?_
        refine aw_iload_n (q := 31) gdX2_agreesWithRow_29.2.1 rfl 1 rfl ?_
        refine aw_iload (q := 33) gdX2_agreesWithRow_29.2.2.1 rfl 4 rfl ?_
        refine aw_iload_n (q := 34) gdX2_agreesWithRow_29.2.2.2.1 rfl 2 rfl ?_
        refine aw_call (q := 37) (kc1 := 0) (ks1 := 0) (wc := [(s, .inr (5, [.ref r])), (r, .inl (0, 21, .inl g))]) (wr := [(h, .inr (4, [.ref a, .int sz])), (a, .inl (0, 2646, .inl f))]) (st1 := fun x34 g34 => [.int x34, .int x26]) (ws1 := fun x34 g34 => [(h, .inr (4, [.ref a, .int sz])), (a, .inl (0, 2646, .inl f)), (s, .inr (5, [.ref r])), (r, .inl (0, 21, .inl g))]) (As := [.ref s, .int p0, .int l4, .int p1]) [0, 1] [2, 3] (fun _ => runV (q0 := 0) gdX2_agreesWithRow_29.2.2.2.2.1 mi_X3_reckoned im_X3_reckoned se_X3_reckoned ml_X2_89 (by omega) rfl (Nat.le_of_ble_eq_true rfl) rfl rfl rfl rfl) (fun x9 h9 => ok_X3_reckoned h9) rfl rfl rfl rfl rfl (by decide +kernel) (by omega) (by omega) (fun _ _ => rfl) (fun _ _ => rfl) (fun x34 g34 => ?_)
        refine aw_icmp_eq (tgt := 42) (q := 40) gdX2_agreesWithRow_29.2.2.2.2.2.1 (by decide) rfl (fun h_37 => ?_) (fun h_37 => ?_)
        · exact tX2_agreesWithRow_42 ih _
        · refine aw_iconst (q := 41) (v := 0) gdX2_agreesWithRow_29.2.2.2.2.2.2.1 rfl (by decide) ?_
          exact aw_ireturn (w := [(h, .inr (4, [.ref a, .int sz])), (a, .inl (0, 2646, .inl f)), (s, .inr (5, [.ref r])), (r, .inl (0, 21, .inl g))]) [0, 1, 2, 3] gdX2_agreesWithRow_29.2.2.2.2.2.2.2 rfl rfl rfl rfl (PN.mk (fun _ => 0) rfl rfl)
def fX2_agreesWithRow (N K : Nat) (sz : Int32) (f : Nat → Int32) (g : Nat → Int32) (p0 : Int32) (p1 : Int32) : Option (Int32) :=
  fX2_agreesWithRow_3 N K sz f g p0 p1  N (0 : Int32)
set_option maxHeartbeats 4000000 in
set_option maxRecDepth 100000 in
theorem ok_X2_agreesWithRow {N K : Nat} {h s a r : Nat} {sz : Int32} {f : Nat → Int32} {g : Nat → Int32} {p0 : Int32} {p1 : Int32} {xr : Int32} (hE : fX2_agreesWithRow N K sz f g p0 p1 = some xr) : OkM yX2_agreesWithRow (.code yX2_agreesWithRow cX2_agreesWithRow 5 (some .boolean)) (3) 0 0 [.ref h, .int p0, .int p1, .ref s] [(h, .inr (4, [.ref a, .int sz])), (a, .inl (0, 2646, .inl f)), (s, .inr (5, [.ref r])), (r, .inl (0, 21, .inl g))] ((PN (U := Int32) (fun zz _ => some (.int zz)) (fun zz ad => [(h, .inr (4, [.ref a, .int sz])), (a, .inl (0, 2646, .inl f)), (s, .inr (5, [.ref r])), (r, .inl (0, 21, .inl g))])) xr) := by
  refine ok_of (by decide) (Nat.le_of_ble_eq_true rfl) hE ?_
  refine aw_locals (lv' := [(0, .ref h), (1, .int p0), (2, .int p1), (3, .ref s)]) [0, 1, 2, 3] rfl ?_
  refine aw_iconst (q := 1) (v := 0) gdX2_agreesWithRow_0.1 rfl (by decide) ?_
  refine aw_istore (q := 3) (lv' := [(4, .int (0 : Int32)), (0, .ref h), (1, .int p0), (2, .int p1), (3, .ref s)]) gdX2_agreesWithRow_0.2.1 rfl (by decide) rfl ?_
  refine aw_locals (lv' := [(0, .ref h), (1, .int p0), (2, .int p1), (3, .ref s), (4, .int (0 : Int32))]) [1, 2, 3, 4, 0] rfl ?_
  exact tX2_agreesWithRow_3  N _
def fX2_agreesWith_10 (N K : Nat) (sz : Int32) (f : Nat → Int32) (g : Nat → Int32) (k_2 : Int32 → (Nat → Int32) → Option (Int32 × (Nat → Int32))) : Nat → Int32 → Int32 → (Nat → Int32) → Option (Int32 × (Nat → Int32))
  | 0, _, _, _ => none
  | fu + 1, l2, l3, g_ =>
    (if (20 : Int32) < l3 then k_2 (l2 + (1 : Int32)) g_ else ((fX3_reckon N K g_ l2 l3).bind (fun x19 => ((fX2_agreesWithRow N K sz f x19 l2 l3).bind (fun x26 => (if x26 = 0 then (some ((0 : Int32), x19)) else fX2_agreesWith_10 N K sz f g k_2 fu l2 (l3 + (1 : Int32)) x19))))))
set_option maxHeartbeats 4000000 in
set_option maxRecDepth 100000 in
theorem tX2_agreesWith_10 {N K : Nat} {h s a r : Nat} {sz : Int32} {f : Nat → Int32} {g : Nat → Int32} {k_2 : Int32 → (Nat → Int32) → Option (Int32 × (Nat → Int32))} (hk_2 : ∀ (l2 : Int32) (g_ : Nat → Int32), AW RX2 "agreesWith" cX2_agreesWith 4 (some .boolean) [] (fun _ _ => True) (4) (PN (U := Int32 × (Nat → Int32)) (fun zz _ => some (.int zz.1)) (fun zz ad => [(h, .inr (4, [.ref a, .int sz])), (a, .inl (0, 2646, .inl f)), (s, .inr (5, [.ref r])), (r, .inl (0, 21, .inl zz.2))])) 0 0 (k_2 l2 g_) 2 [(0, .ref h), (1, .ref s), (2, .int l2)] [] [(h, .inr (4, [.ref a, .int sz])), (a, .inl (0, 2646, .inl f)), (s, .inr (5, [.ref r])), (r, .inl (0, 21, .inl g_))]) : ∀ (fu : Nat) (l2 : Int32) (l3 : Int32) (g_ : Nat → Int32), AW RX2 "agreesWith" cX2_agreesWith 4 (some .boolean) [] (fun _ _ => True) (4) (PN (U := Int32 × (Nat → Int32)) (fun zz _ => some (.int zz.1)) (fun zz ad => [(h, .inr (4, [.ref a, .int sz])), (a, .inl (0, 2646, .inl f)), (s, .inr (5, [.ref r])), (r, .inl (0, 21, .inl zz.2))])) 0 0 (fX2_agreesWith_10 N K sz f g k_2 fu l2 l3 g_) 10 [(0, .ref h), (1, .ref s), (2, .int l2), (3, .int l3)] [] [(h, .inr (4, [.ref a, .int sz])), (a, .inl (0, 2646, .inl f)), (s, .inr (5, [.ref r])), (r, .inl (0, 21, .inl g_))] := by
  intro fu
  induction fu with
  | zero => intro l2 l3 g_; exact aw_none
  | succ fu ih =>
    intro l2 l3 g_
    refine aw_iload_n (q := 11) gdX2_agreesWith_0.2.2.2.2.2.2.2 rfl 3 rfl ?_
    refine aw_bipush (q := 13) (v := 20) gdX2_agreesWith_11.1 rfl (by decide) ?_
    refine aw_icmp_gt (tgt := 40) (q := 16) gdX2_agreesWith_11.2.1 (by decide) rfl (fun h_13 => ?_) (fun h_13 => ?_)
    · refine aw_iinc (q := 43) (v := (l2 + (1 : Int32))) (lv' := [(2, .int (l2 + (1 : Int32))), (0, .ref h), (1, .ref s), (3, .int l3)]) gdX2_agreesWith_40.1 rfl 2 rfl rfl (by decide) rfl ?_
      refine aw_goto (tgt := 2) gdX2_agreesWith_40.2.1 (by decide) ?_
      refine aw_locals (lv' := [(0, .ref h), (1, .ref s), (2, .int (l2 + (1 : Int32)))]) [1, 2, 0] rfl ?_
      exact hk_2 _ _
    · refine aw_aload_n (q := 17) gdX2_agreesWith_11.2.2.1 rfl 1 rfl ?_
      refine aw_iload_n (q := 18) gdX2_agreesWith_11.2.2.2.1 rfl 2 rfl ?_
      refine aw_iload_n (q := 19) gdX2_agreesWith_11.2.2.2.2.1 rfl 3 rfl ?_
      refine aw_call (q := 22) (kc1 := 0) (ks1 := 0) (wc := [(s, .inr (5, [.ref r])), (r, .inl (0, 21, .inl g_))]) (wr := [(h, .inr (4, [.ref a, .int sz])), (a, .inl (0, 2646, .inl f))]) (st1 := fun x19 g19 => []) (ws1 := fun x19 g19 => [(h, .inr (4, [.ref a, .int sz])), (a, .inl (0, 2646, .inl f)), (s, .inr (5, [.ref r])), (r, .inl (0, 21, .inl x19))]) (As := [.ref s, .int l2, .int l3]) [2, 3] [0, 1] (fun _ => runV (q0 := 2) gdX2_agreesWith_11.2.2.2.2.2.1 mi_X3_reckon im_X3_reckon se_X3_reckon ml_X2_79 (by omega) rfl (Nat.le_of_ble_eq_true rfl) rfl rfl rfl rfl) (fun x9 h9 => ok_X3_reckon h9) rfl rfl rfl rfl rfl (by decide +kernel) (by omega) (by omega) (fun _ _ => rfl) (fun _ _ => rfl) (fun x19 g19 => ?_)
      refine aw_aload_n (q := 23) gdX2_agreesWith_11.2.2.2.2.2.2.1 rfl 0 rfl ?_
      refine aw_iload_n (q := 24) gdX2_agreesWith_11.2.2.2.2.2.2.2 rfl 2 rfl ?_
      refine aw_iload_n (q := 25) gdX2_agreesWith_24.1 rfl 3 rfl ?_
      refine aw_aload_n (q := 26) gdX2_agreesWith_24.2.1 rfl 1 rfl ?_
      refine aw_call (q := 29) (kc1 := 0) (ks1 := 0) (wc := [(h, .inr (4, [.ref a, .int sz])), (a, .inl (0, 2646, .inl f)), (s, .inr (5, [.ref r])), (r, .inl (0, 21, .inl x19))]) (wr := []) (st1 := fun x26 g26 => [.int x26]) (ws1 := fun x26 g26 => [(h, .inr (4, [.ref a, .int sz])), (a, .inl (0, 2646, .inl f)), (s, .inr (5, [.ref r])), (r, .inl (0, 21, .inl x19))]) (As := [.ref h, .int l2, .int l3, .ref s]) [0, 1, 2, 3] [] (fun _ => runV (q0 := 0) gdX2_agreesWith_24.2.2.1 mi_X2_agreesWithRow im_X2_agreesWithRow se_X2_agreesWithRow ml_X2_85 (by omega) rfl (Nat.le_of_ble_eq_true rfl) rfl rfl rfl rfl) (fun x9 h9 => ok_X2_agreesWithRow h9) rfl rfl rfl rfl rfl (by decide +kernel) (by omega) (by omega) (fun _ _ => rfl) (fun _ _ => rfl) (fun x26 g26 => ?_)
      refine aw_if_ne (tgt := 34) (q := 32) gdX2_agreesWith_24.2.2.2.1 (by decide) rfl (fun h_29 => ?_) (fun h_29 => ?_)
      · refine aw_iinc (q := 37) (v := (l3 + (1 : Int32))) (lv' := [(3, .int (l3 + (1 : Int32))), (0, .ref h), (1, .ref s), (2, .int l2)]) gdX2_agreesWith_24.2.2.2.2.2.2.1 rfl 3 rfl rfl (by decide) rfl ?_
        refine aw_goto (tgt := 10) gdX2_agreesWith_24.2.2.2.2.2.2.2 (by decide) ?_
        refine aw_locals (lv' := [(0, .ref h), (1, .ref s), (2, .int l2), (3, .int (l3 + (1 : Int32)))]) [1, 2, 3, 0] rfl ?_
        exact ih _ _ _
      · refine aw_iconst (q := 33) (v := 0) gdX2_agreesWith_24.2.2.2.2.1 rfl (by decide) ?_
        exact aw_ireturn (w := [(h, .inr (4, [.ref a, .int sz])), (a, .inl (0, 2646, .inl f)), (s, .inr (5, [.ref r])), (r, .inl (0, 21, .inl x19))]) [0, 1, 2, 3] gdX2_agreesWith_24.2.2.2.2.2.1 rfl rfl rfl rfl (PN.mk (fun _ => 0) rfl rfl)
def fX2_agreesWith_2 (N K : Nat) (sz : Int32) (f : Nat → Int32) (g : Nat → Int32) : Nat → Int32 → (Nat → Int32) → Option (Int32 × (Nat → Int32))
  | 0, _, _ => none
  | fu + 1, l2, g_ =>
    (if (6 : Int32) ≤ l2 then (some ((1 : Int32), g_)) else fX2_agreesWith_10 N K sz f g (fX2_agreesWith_2 N K sz f g  fu) N l2 (0 : Int32) g_)
set_option maxHeartbeats 4000000 in
set_option maxRecDepth 100000 in
theorem tX2_agreesWith_2 {N K : Nat} {h s a r : Nat} {sz : Int32} {f : Nat → Int32} {g : Nat → Int32} : ∀ (fu : Nat) (l2 : Int32) (g_ : Nat → Int32), AW RX2 "agreesWith" cX2_agreesWith 4 (some .boolean) [] (fun _ _ => True) (4) (PN (U := Int32 × (Nat → Int32)) (fun zz _ => some (.int zz.1)) (fun zz ad => [(h, .inr (4, [.ref a, .int sz])), (a, .inl (0, 2646, .inl f)), (s, .inr (5, [.ref r])), (r, .inl (0, 21, .inl zz.2))])) 0 0 (fX2_agreesWith_2 N K sz f g  fu l2 g_) 2 [(0, .ref h), (1, .ref s), (2, .int l2)] [] [(h, .inr (4, [.ref a, .int sz])), (a, .inl (0, 2646, .inl f)), (s, .inr (5, [.ref r])), (r, .inl (0, 21, .inl g_))] := by
  intro fu
  induction fu with
  | zero => intro l2 g_; exact aw_none
  | succ fu ih =>
    intro l2 g_
    refine aw_iload_n (q := 3) gdX2_agreesWith_0.2.2.1 rfl 2 rfl ?_
    refine aw_bipush (q := 5) (v := 6) gdX2_agreesWith_0.2.2.2.1 rfl (by decide) ?_
    refine aw_icmp_ge (tgt := 46) (q := 8) gdX2_agreesWith_0.2.2.2.2.1 (by decide) rfl (fun h_5 => ?_) (fun h_5 => ?_)
    · refine aw_iconst (q := 47) (v := 1) gdX2_agreesWith_40.2.2.1 rfl (by decide) ?_
      exact aw_ireturn (w := [(h, .inr (4, [.ref a, .int sz])), (a, .inl (0, 2646, .inl f)), (s, .inr (5, [.ref r])), (r, .inl (0, 21, .inl g_))]) [0, 1, 2, 3] gdX2_agreesWith_40.2.2.2 rfl rfl rfl rfl (PN.mk (fun _ => 0) rfl rfl)
    · refine aw_iconst (q := 9) (v := 0) gdX2_agreesWith_0.2.2.2.2.2.1 rfl (by decide) ?_
      refine aw_istore_n (q := 10) (lv' := [(3, .int (0 : Int32)), (0, .ref h), (1, .ref s), (2, .int l2)]) gdX2_agreesWith_0.2.2.2.2.2.2.1 rfl (by decide) rfl ?_
      refine aw_locals (lv' := [(0, .ref h), (1, .ref s), (2, .int l2), (3, .int (0 : Int32))]) [1, 2, 3, 0] rfl ?_
      exact tX2_agreesWith_10 ih N _ _ _
def fX2_agreesWith (N K : Nat) (sz : Int32) (f : Nat → Int32) (g : Nat → Int32) : Option (Int32 × (Nat → Int32)) :=
  fX2_agreesWith_2 N K sz f g  N (0 : Int32) g
set_option maxHeartbeats 4000000 in
set_option maxRecDepth 100000 in
theorem ok_X2_agreesWith {N K : Nat} {h s a r : Nat} {sz : Int32} {f : Nat → Int32} {g : Nat → Int32} {xr : Int32 × (Nat → Int32)} (hE : fX2_agreesWith N K sz f g = some xr) : OkM yX2_agreesWith (.code yX2_agreesWith cX2_agreesWith 4 (some .boolean)) (4) 0 0 [.ref h, .ref s] [(h, .inr (4, [.ref a, .int sz])), (a, .inl (0, 2646, .inl f)), (s, .inr (5, [.ref r])), (r, .inl (0, 21, .inl g))] ((PN (U := Int32 × (Nat → Int32)) (fun zz _ => some (.int zz.1)) (fun zz ad => [(h, .inr (4, [.ref a, .int sz])), (a, .inl (0, 2646, .inl f)), (s, .inr (5, [.ref r])), (r, .inl (0, 21, .inl zz.2))])) xr) := by
  refine ok_of (by decide) (Nat.le_of_ble_eq_true rfl) hE ?_
  refine aw_locals (lv' := [(0, .ref h), (1, .ref s)]) [0, 1] rfl ?_
  refine aw_iconst (q := 1) (v := 0) gdX2_agreesWith_0.1 rfl (by decide) ?_
  refine aw_istore_n (q := 2) (lv' := [(2, .int (0 : Int32)), (0, .ref h), (1, .ref s)]) gdX2_agreesWith_0.2.1 rfl (by decide) rfl ?_
  refine aw_locals (lv' := [(0, .ref h), (1, .ref s), (2, .int (0 : Int32))]) [1, 2, 0] rfl ?_
  exact tX2_agreesWith_2  N _ _
def fX2_sumOfLegs_11 (N K : Nat) (rec : Int32 → (Nat → Int32) → Int32 → Int32 → Int32 → Int32 → Int32 → Int32 → Int32 → Int32 → Int32 → Int32 → Option (Int32 × Int32 × (Nat → Int32) × Int32 × Int32 × Int32)) (sz : Int32) (f : Nat → Int32) (c0 : Int32) (c1 : Int32) (c2 : Int32) (c3 : Int32) (c4 : Int32) (c5 : Int32) (p0 : Int32) (p1 : Int32) (p2 : Int32) (p3 : Int32) (s0 : Int32) (sz_ : Int32) (f_ : Nat → Int32) (c1_ : Int32) (c2_ : Int32) (c3_ : Int32) : Option (Int32 × Int32 × (Nat → Int32) × Int32 × Int32 × Int32) :=
  (if p0 = (0 : Int32) then ((rec sz_ f_ c0 c1_ c2_ c3_ c4 c5 p0 p1 (p2 - (1 : Int32)) p3).bind (fun x58 => ((rec x58.2.1 x58.2.2.1 c0 x58.2.2.2.1 x58.2.2.2.2.1 x58.2.2.2.2.2 c4 c5 p0 (p1 - p2) p2 p3).bind (fun x71 => (some ((x58.1 + x71.1), x71.2.1, x71.2.2.1, x71.2.2.2.1, x71.2.2.2.2.1, x71.2.2.2.2.2)))))) else (if p0 = (1 : Int32) then ((rec sz_ f_ c0 c1_ c2_ c3_ c4 c5 p0 (p1 - (1 : Int32)) (p2 - (1 : Int32)) p3).bind (fun x88 => ((rec x88.2.1 x88.2.2.1 c0 x88.2.2.2.1 x88.2.2.2.2.1 x88.2.2.2.2.2 c4 c5 p0 (p1 - p2) p2 p3).bind (fun x101 => (some ((x88.1 + x101.1), x101.2.1, x101.2.2.1, x101.2.2.2.1, x101.2.2.2.2.1, x101.2.2.2.2.2)))))) else (if p0 = (2 : Int32) then ((rec sz_ f_ c0 c1_ c2_ c3_ c4 c5 p0 p1 (p2 - (1 : Int32)) p3).bind (fun x116 => ((rec x116.2.1 x116.2.2.1 c0 x116.2.2.2.1 x116.2.2.2.2.1 x116.2.2.2.2.2 c4 c5 p0 (p1 - p2) (p2 - (1 : Int32)) p3).bind (fun x131 => (some ((x116.1 + x131.1), x131.2.1, x131.2.2.1, x131.2.2.2.1, x131.2.2.2.2.1, x131.2.2.2.2.2)))))) else (if p0 = (3 : Int32) then ((rec sz_ f_ c0 c1_ c2_ c3_ c4 c5 p0 p1 (p2 - (1 : Int32)) p3).bind (fun x146 => (if s0 = 0 then (some ((x146.1 + (0 : Int32)), x146.2.1, x146.2.2.1, x146.2.2.2.1, x146.2.2.2.2.1, x146.2.2.2.2.2)) else ((rec x146.2.1 x146.2.2.1 c0 x146.2.2.2.1 x146.2.2.2.2.1 x146.2.2.2.2.2 c4 c5 p0 (p1 - p2) p2 p3).bind (fun x164 => (some ((x146.1 + x164.1), x164.2.1, x164.2.2.1, x164.2.2.2.1, x164.2.2.2.2.1, x164.2.2.2.2.2))))))) else (if p0 = (4 : Int32) then ((rec sz_ f_ c0 c1_ c2_ c3_ c4 c5 p0 p1 (p2 - (1 : Int32)) p3).bind (fun x183 => (if s0 = 0 then (some ((x183.1 + (0 : Int32)), x183.2.1, x183.2.2.1, x183.2.2.2.1, x183.2.2.2.2.1, x183.2.2.2.2.2)) else ((rec x183.2.1 x183.2.2.1 c0 x183.2.2.2.1 x183.2.2.2.2.1 x183.2.2.2.2.2 c4 c5 p0 (p1 - p2) (p2 - (1 : Int32)) p3).bind (fun x203 => (some ((x183.1 + x203.1), x203.2.1, x203.2.2.1, x203.2.2.2.1, x203.2.2.2.2.1, x203.2.2.2.2.2))))))) else ((rec sz_ f_ c0 c1_ c2_ c3_ c4 c5 p0 (p1 - p2) p2 p3).bind (fun x222 => ((rec x222.2.1 x222.2.2.1 c0 x222.2.2.2.1 x222.2.2.2.2.1 x222.2.2.2.2.2 c4 c5 p0 (p1 - p2) (p2 - (1 : Int32)) p3).bind (fun x237 => (some ((x222.1 + x237.1), x237.2.1, x237.2.2.1, x237.2.2.2.1, x237.2.2.2.2.1, x237.2.2.2.2.2)))))))))))
set_option maxHeartbeats 4000000 in
set_option maxRecDepth 100000 in
theorem tX2_sumOfLegs_11 {N K : Nat} {h c a : Nat} {sz : Int32} {f : Nat → Int32} {c0 : Int32} {c1 : Int32} {c2 : Int32} {c3 : Int32} {c4 : Int32} {c5 : Int32} {p0 : Int32} {p1 : Int32} {p2 : Int32} {p3 : Int32} {rec : Int32 → (Nat → Int32) → Int32 → Int32 → Int32 → Int32 → Int32 → Int32 → Int32 → Int32 → Int32 → Int32 → Option (Int32 × Int32 × (Nat → Int32) × Int32 × Int32 × Int32)} {dr : Nat} (hrec : ∀ (sz : Int32) (f : Nat → Int32) (c0 : Int32) (c1 : Int32) (c2 : Int32) (c3 : Int32) (c4 : Int32) (c5 : Int32) (p0 : Int32) (p1 : Int32) (p2 : Int32) (p3 : Int32) (xr : Int32 × Int32 × (Nat → Int32) × Int32 × Int32 × Int32), rec sz f c0 c1 c2 c3 c4 c5 p0 p1 p2 p3 = some xr → OkM yX2_worthKnown (.code yX2_worthKnown cX2_worthKnown 8 (some .int)) (dr) 0 0 [.ref h, .int p0, .int p1, .int p2, .ref c, .int p3] [(h, .inr (4, [.ref a, .int sz])), (a, .inl (0, 2646, .inl f)), (c, .inr (2, [.int c0, .int c1, .int c2, .int c3, .int c4, .int c5]))] ((PN (U := Int32 × Int32 × (Nat → Int32) × Int32 × Int32 × Int32) (fun zz _ => some (.int zz.1)) (fun zz ad => [(h, .inr (4, [.ref a, .int zz.2.1])), (a, .inl (0, 2646, .inl zz.2.2.1)), (c, .inr (2, [.int c0, .int zz.2.2.2.1, .int zz.2.2.2.2.1, .int zz.2.2.2.2.2, .int c4, .int c5]))])) xr)) : ∀ (s0 : Int32) (sz_ : Int32) (f_ : Nat → Int32) (c1_ : Int32) (c2_ : Int32) (c3_ : Int32), AW RX2 "sumOfLegs" cX2_sumOfLegs 7 (some .int) [] (fun _ _ => True) (dr + 1) (PN (U := Int32 × Int32 × (Nat → Int32) × Int32 × Int32 × Int32) (fun zz _ => some (.int zz.1)) (fun zz ad => [(h, .inr (4, [.ref a, .int zz.2.1])), (a, .inl (0, 2646, .inl zz.2.2.1)), (c, .inr (2, [.int c0, .int zz.2.2.2.1, .int zz.2.2.2.2.1, .int zz.2.2.2.2.2, .int c4, .int c5]))])) 0 0 (fX2_sumOfLegs_11 N K rec sz f c0 c1 c2 c3 c4 c5 p0 p1 p2 p3  s0 sz_ f_ c1_ c2_ c3_) 11 [(0, .ref h), (1, .int p0), (2, .int p1), (3, .int p2), (4, .ref c), (5, .int p3)] [.int s0] [(h, .inr (4, [.ref a, .int sz_])), (a, .inl (0, 2646, .inl f_)), (c, .inr (2, [.int c0, .int c1_, .int c2_, .int c3_, .int c4, .int c5]))] := by
  intro s0 sz_ f_ c1_ c2_ c3_
  refine aw_istore (q := 13) (lv' := [(6, .int s0), (0, .ref h), (1, .int p0), (2, .int p1), (3, .int p2), (4, .ref c), (5, .int p3)]) gdX2_sumOfLegs_0.2.2.2.2.2.2.2 rfl (by decide) rfl ?_
  refine aw_iload_n (q := 14) gdX2_sumOfLegs_13.1 rfl 2 rfl ?_
  refine aw_tsw (v := 0) (off := 34) (tgt := 48) gdX2_sumOfLegs_13.2.1 (by decide) (by decide) (by decide) (by decide) (fun hs_14_0 => ?_) (fun hs_14_0 => ?_)
  · refine aw_aload_n (q := 49) gdX2_sumOfLegs_13.2.2.1 rfl 1 rfl ?_
    refine aw_iload_n (q := 50) gdX2_sumOfLegs_13.2.2.2.1 rfl 2 rfl ?_
    refine aw_iload_n (q := 51) gdX2_sumOfLegs_13.2.2.2.2.1 rfl 3 rfl ?_
    refine aw_iload_n (q := 52) gdX2_sumOfLegs_13.2.2.2.2.2.1 rfl 4 rfl ?_
    refine aw_iconst (q := 53) (v := 1) gdX2_sumOfLegs_13.2.2.2.2.2.2.1 rfl (by decide) ?_
    refine aw_isub (q := 54) gdX2_sumOfLegs_13.2.2.2.2.2.2.2 rfl ?_
    refine aw_aload (q := 56) gdX2_sumOfLegs_54.1 rfl 5 rfl ?_
    refine aw_iload (q := 58) gdX2_sumOfLegs_54.2.1 rfl 6 rfl ?_
    refine aw_call (q := 61) (kc1 := 0) (ks1 := 0) (wc := [(h, .inr (4, [.ref a, .int sz_])), (a, .inl (0, 2646, .inl f_)), (c, .inr (2, [.int c0, .int c1_, .int c2_, .int c3_, .int c4, .int c5]))]) (wr := []) (st1 := fun x58 g58 => [.int x58.1]) (ws1 := fun x58 g58 => [(h, .inr (4, [.ref a, .int x58.2.1])), (a, .inl (0, 2646, .inl x58.2.2.1)), (c, .inr (2, [.int c0, .int x58.2.2.2.1, .int x58.2.2.2.2.1, .int x58.2.2.2.2.2, .int c4, .int c5]))]) (As := [.ref h, .int p0, .int p1, .int (p2 - (1 : Int32)), .ref c, .int p3]) [0, 1, 2] [] (fun _ => runV (q0 := 0) gdX2_sumOfLegs_54.2.2.1 mi_X2_worthKnown im_X2_worthKnown se_X2_worthKnown ml_X2_25 (by omega) rfl (Nat.le_of_ble_eq_true rfl) rfl rfl rfl rfl) (fun x9 h9 => hrec _ _ _ _ _ _ _ _ _ _ _ _ x9 h9) rfl rfl rfl rfl rfl (by decide +kernel) (by omega) (by omega) (fun _ _ => rfl) (fun _ _ => rfl) (fun x58 g58 => ?_)
    refine aw_aload_n (q := 62) gdX2_sumOfLegs_54.2.2.2.1 rfl 1 rfl ?_
    refine aw_iload_n (q := 63) gdX2_sumOfLegs_54.2.2.2.2.1 rfl 2 rfl ?_
    refine aw_iload_n (q := 64) gdX2_sumOfLegs_54.2.2.2.2.2.1 rfl 3 rfl ?_
    refine aw_iload_n (q := 65) gdX2_sumOfLegs_54.2.2.2.2.2.2.1 rfl 4 rfl ?_
    refine aw_isub (q := 66) gdX2_sumOfLegs_54.2.2.2.2.2.2.2 rfl ?_
    refine aw_iload_n (q := 67) gdX2_sumOfLegs_66.1 rfl 4 rfl ?_
    refine aw_aload (q := 69) gdX2_sumOfLegs_66.2.1 rfl 5 rfl ?_
    refine aw_iload (q := 71) gdX2_sumOfLegs_66.2.2.1 rfl 6 rfl ?_
    refine aw_call (q := 74) (kc1 := 0) (ks1 := 0) (wc := [(h, .inr (4, [.ref a, .int x58.2.1])), (a, .inl (0, 2646, .inl x58.2.2.1)), (c, .inr (2, [.int c0, .int x58.2.2.2.1, .int x58.2.2.2.2.1, .int x58.2.2.2.2.2, .int c4, .int c5]))]) (wr := []) (st1 := fun x71 g71 => [.int x71.1, .int x58.1]) (ws1 := fun x71 g71 => [(h, .inr (4, [.ref a, .int x71.2.1])), (a, .inl (0, 2646, .inl x71.2.2.1)), (c, .inr (2, [.int c0, .int x71.2.2.2.1, .int x71.2.2.2.2.1, .int x71.2.2.2.2.2, .int c4, .int c5]))]) (As := [.ref h, .int p0, .int (p1 - p2), .int p2, .ref c, .int p3]) [0, 1, 2] [] (fun _ => runV (q0 := 0) gdX2_sumOfLegs_66.2.2.2.1 mi_X2_worthKnown im_X2_worthKnown se_X2_worthKnown ml_X2_25 (by omega) rfl (Nat.le_of_ble_eq_true rfl) rfl rfl rfl rfl) (fun x9 h9 => hrec _ _ _ _ _ _ _ _ _ _ _ _ x9 h9) rfl rfl rfl rfl rfl (by decide +kernel) (by omega) (by omega) (fun _ _ => rfl) (fun _ _ => rfl) (fun x71 g71 => ?_)
    refine aw_iadd (q := 75) gdX2_sumOfLegs_66.2.2.2.2.1 rfl ?_
    exact aw_ireturn (w := [(h, .inr (4, [.ref a, .int x71.2.1])), (a, .inl (0, 2646, .inl x71.2.2.1)), (c, .inr (2, [.int c0, .int x71.2.2.2.1, .int x71.2.2.2.2.1, .int x71.2.2.2.2.2, .int c4, .int c5]))]) [0, 1, 2] gdX2_sumOfLegs_66.2.2.2.2.2.1 rfl rfl rfl rfl (PN.mk (fun _ => 0) rfl rfl)
  · refine aw_tsw (v := 1) (off := 62) (tgt := 76) gdX2_sumOfLegs_13.2.1 (by decide) (by decide) (by decide) (by decide) (fun hs_14_1 => ?_) (fun hs_14_1 => ?_)
    · refine aw_aload_n (q := 77) gdX2_sumOfLegs_66.2.2.2.2.2.2.1 rfl 1 rfl ?_
      refine aw_iload_n (q := 78) gdX2_sumOfLegs_66.2.2.2.2.2.2.2 rfl 2 rfl ?_
      refine aw_iload_n (q := 79) gdX2_sumOfLegs_78.1 rfl 3 rfl ?_
      refine aw_iconst (q := 80) (v := 1) gdX2_sumOfLegs_78.2.1 rfl (by decide) ?_
      refine aw_isub (q := 81) gdX2_sumOfLegs_78.2.2.1 rfl ?_
      refine aw_iload_n (q := 82) gdX2_sumOfLegs_78.2.2.2.1 rfl 4 rfl ?_
      refine aw_iconst (q := 83) (v := 1) gdX2_sumOfLegs_78.2.2.2.2.1 rfl (by decide) ?_
      refine aw_isub (q := 84) gdX2_sumOfLegs_78.2.2.2.2.2.1 rfl ?_
      refine aw_aload (q := 86) gdX2_sumOfLegs_78.2.2.2.2.2.2.1 rfl 5 rfl ?_
      refine aw_iload (q := 88) gdX2_sumOfLegs_78.2.2.2.2.2.2.2 rfl 6 rfl ?_
      refine aw_call (q := 91) (kc1 := 0) (ks1 := 0) (wc := [(h, .inr (4, [.ref a, .int sz_])), (a, .inl (0, 2646, .inl f_)), (c, .inr (2, [.int c0, .int c1_, .int c2_, .int c3_, .int c4, .int c5]))]) (wr := []) (st1 := fun x88 g88 => [.int x88.1]) (ws1 := fun x88 g88 => [(h, .inr (4, [.ref a, .int x88.2.1])), (a, .inl (0, 2646, .inl x88.2.2.1)), (c, .inr (2, [.int c0, .int x88.2.2.2.1, .int x88.2.2.2.2.1, .int x88.2.2.2.2.2, .int c4, .int c5]))]) (As := [.ref h, .int p0, .int (p1 - (1 : Int32)), .int (p2 - (1 : Int32)), .ref c, .int p3]) [0, 1, 2] [] (fun _ => runV (q0 := 0) gdX2_sumOfLegs_88.1 mi_X2_worthKnown im_X2_worthKnown se_X2_worthKnown ml_X2_25 (by omega) rfl (Nat.le_of_ble_eq_true rfl) rfl rfl rfl rfl) (fun x9 h9 => hrec _ _ _ _ _ _ _ _ _ _ _ _ x9 h9) rfl rfl rfl rfl rfl (by decide +kernel) (by omega) (by omega) (fun _ _ => rfl) (fun _ _ => rfl) (fun x88 g88 => ?_)
      refine aw_aload_n (q := 92) gdX2_sumOfLegs_88.2.1 rfl 1 rfl ?_
      refine aw_iload_n (q := 93) gdX2_sumOfLegs_88.2.2.1 rfl 2 rfl ?_
      refine aw_iload_n (q := 94) gdX2_sumOfLegs_88.2.2.2.1 rfl 3 rfl ?_
      refine aw_iload_n (q := 95) gdX2_sumOfLegs_88.2.2.2.2.1 rfl 4 rfl ?_
      refine aw_isub (q := 96) gdX2_sumOfLegs_88.2.2.2.2.2.1 rfl ?_
      refine aw_iload_n (q := 97) gdX2_sumOfLegs_88.2.2.2.2.2.2.1 rfl 4 rfl ?_
      refine aw_aload (q := 99) gdX2_sumOfLegs_88.2.2.2.2.2.2.2 rfl 5 rfl ?_
      refine aw_iload (q := 101) gdX2_sumOfLegs_99.1 rfl 6 rfl ?_
      refine aw_call (q := 104) (kc1 := 0) (ks1 := 0) (wc := [(h, .inr (4, [.ref a, .int x88.2.1])), (a, .inl (0, 2646, .inl x88.2.2.1)), (c, .inr (2, [.int c0, .int x88.2.2.2.1, .int x88.2.2.2.2.1, .int x88.2.2.2.2.2, .int c4, .int c5]))]) (wr := []) (st1 := fun x101 g101 => [.int x101.1, .int x88.1]) (ws1 := fun x101 g101 => [(h, .inr (4, [.ref a, .int x101.2.1])), (a, .inl (0, 2646, .inl x101.2.2.1)), (c, .inr (2, [.int c0, .int x101.2.2.2.1, .int x101.2.2.2.2.1, .int x101.2.2.2.2.2, .int c4, .int c5]))]) (As := [.ref h, .int p0, .int (p1 - p2), .int p2, .ref c, .int p3]) [0, 1, 2] [] (fun _ => runV (q0 := 0) gdX2_sumOfLegs_99.2.1 mi_X2_worthKnown im_X2_worthKnown se_X2_worthKnown ml_X2_25 (by omega) rfl (Nat.le_of_ble_eq_true rfl) rfl rfl rfl rfl) (fun x9 h9 => hrec _ _ _ _ _ _ _ _ _ _ _ _ x9 h9) rfl rfl rfl rfl rfl (by decide +kernel) (by omega) (by omega) (fun _ _ => rfl) (fun _ _ => rfl) (fun x101 g101 => ?_)
      refine aw_iadd (q := 105) gdX2_sumOfLegs_99.2.2.1 rfl ?_
      exact aw_ireturn (w := [(h, .inr (4, [.ref a, .int x101.2.1])), (a, .inl (0, 2646, .inl x101.2.2.1)), (c, .inr (2, [.int c0, .int x101.2.2.2.1, .int x101.2.2.2.2.1, .int x101.2.2.2.2.2, .int c4, .int c5]))]) [0, 1, 2] gdX2_sumOfLegs_99.2.2.2.1 rfl rfl rfl rfl (PN.mk (fun _ => 0) rfl rfl)
    · refine aw_tsw (v := 2) (off := 92) (tgt := 106) gdX2_sumOfLegs_13.2.1 (by decide) (by decide) (by decide) (by decide) (fun hs_14_2 => ?_) (fun hs_14_2 => ?_)
      · refine aw_aload_n (q := 107) gdX2_sumOfLegs_99.2.2.2.2.1 rfl 1 rfl ?_
        refine aw_iload_n (q := 108) gdX2_sumOfLegs_99.2.2.2.2.2.1 rfl 2 rfl ?_
        refine aw_iload_n (q := 109) gdX2_sumOfLegs_99.2.2.2.2.2.2.1 rfl 3 rfl ?_
        refine aw_iload_n (q := 110) gdX2_sumOfLegs_99.2.2.2.2.2.2.2 rfl 4 rfl ?_
        refine aw_iconst (q := 111) (v := 1) gdX2_sumOfLegs_110.1 rfl (by decide) ?_
        refine aw_isub (q := 112) gdX2_sumOfLegs_110.2.1 rfl ?_
        refine aw_aload (q := 114) gdX2_sumOfLegs_110.2.2.1 rfl 5 rfl ?_
        refine aw_iload (q := 116) gdX2_sumOfLegs_110.2.2.2.1 rfl 6 rfl ?_
        refine aw_call (q := 119) (kc1 := 0) (ks1 := 0) (wc := [(h, .inr (4, [.ref a, .int sz_])), (a, .inl (0, 2646, .inl f_)), (c, .inr (2, [.int c0, .int c1_, .int c2_, .int c3_, .int c4, .int c5]))]) (wr := []) (st1 := fun x116 g116 => [.int x116.1]) (ws1 := fun x116 g116 => [(h, .inr (4, [.ref a, .int x116.2.1])), (a, .inl (0, 2646, .inl x116.2.2.1)), (c, .inr (2, [.int c0, .int x116.2.2.2.1, .int x116.2.2.2.2.1, .int x116.2.2.2.2.2, .int c4, .int c5]))]) (As := [.ref h, .int p0, .int p1, .int (p2 - (1 : Int32)), .ref c, .int p3]) [0, 1, 2] [] (fun _ => runV (q0 := 0) gdX2_sumOfLegs_110.2.2.2.2.1 mi_X2_worthKnown im_X2_worthKnown se_X2_worthKnown ml_X2_25 (by omega) rfl (Nat.le_of_ble_eq_true rfl) rfl rfl rfl rfl) (fun x9 h9 => hrec _ _ _ _ _ _ _ _ _ _ _ _ x9 h9) rfl rfl rfl rfl rfl (by decide +kernel) (by omega) (by omega) (fun _ _ => rfl) (fun _ _ => rfl) (fun x116 g116 => ?_)
        refine aw_aload_n (q := 120) gdX2_sumOfLegs_110.2.2.2.2.2.1 rfl 1 rfl ?_
        refine aw_iload_n (q := 121) gdX2_sumOfLegs_110.2.2.2.2.2.2.1 rfl 2 rfl ?_
        refine aw_iload_n (q := 122) gdX2_sumOfLegs_110.2.2.2.2.2.2.2 rfl 3 rfl ?_
        refine aw_iload_n (q := 123) gdX2_sumOfLegs_122.1 rfl 4 rfl ?_
        refine aw_isub (q := 124) gdX2_sumOfLegs_122.2.1 rfl ?_
        refine aw_iload_n (q := 125) gdX2_sumOfLegs_122.2.2.1 rfl 4 rfl ?_
        refine aw_iconst (q := 126) (v := 1) gdX2_sumOfLegs_122.2.2.2.1 rfl (by decide) ?_
        refine aw_isub (q := 127) gdX2_sumOfLegs_122.2.2.2.2.1 rfl ?_
        refine aw_aload (q := 129) gdX2_sumOfLegs_122.2.2.2.2.2.1 rfl 5 rfl ?_
        refine aw_iload (q := 131) gdX2_sumOfLegs_122.2.2.2.2.2.2.1 rfl 6 rfl ?_
        refine aw_call (q := 134) (kc1 := 0) (ks1 := 0) (wc := [(h, .inr (4, [.ref a, .int x116.2.1])), (a, .inl (0, 2646, .inl x116.2.2.1)), (c, .inr (2, [.int c0, .int x116.2.2.2.1, .int x116.2.2.2.2.1, .int x116.2.2.2.2.2, .int c4, .int c5]))]) (wr := []) (st1 := fun x131 g131 => [.int x131.1, .int x116.1]) (ws1 := fun x131 g131 => [(h, .inr (4, [.ref a, .int x131.2.1])), (a, .inl (0, 2646, .inl x131.2.2.1)), (c, .inr (2, [.int c0, .int x131.2.2.2.1, .int x131.2.2.2.2.1, .int x131.2.2.2.2.2, .int c4, .int c5]))]) (As := [.ref h, .int p0, .int (p1 - p2), .int (p2 - (1 : Int32)), .ref c, .int p3]) [0, 1, 2] [] (fun _ => runV (q0 := 0) gdX2_sumOfLegs_122.2.2.2.2.2.2.2 mi_X2_worthKnown im_X2_worthKnown se_X2_worthKnown ml_X2_25 (by omega) rfl (Nat.le_of_ble_eq_true rfl) rfl rfl rfl rfl) (fun x9 h9 => hrec _ _ _ _ _ _ _ _ _ _ _ _ x9 h9) rfl rfl rfl rfl rfl (by decide +kernel) (by omega) (by omega) (fun _ _ => rfl) (fun _ _ => rfl) (fun x131 g131 => ?_)
        refine aw_iadd (q := 135) gdX2_sumOfLegs_134.1 rfl ?_
        exact aw_ireturn (w := [(h, .inr (4, [.ref a, .int x131.2.1])), (a, .inl (0, 2646, .inl x131.2.2.1)), (c, .inr (2, [.int c0, .int x131.2.2.2.1, .int x131.2.2.2.2.1, .int x131.2.2.2.2.2, .int c4, .int c5]))]) [0, 1, 2] gdX2_sumOfLegs_134.2.1 rfl rfl rfl rfl (PN.mk (fun _ => 0) rfl rfl)
      · refine aw_tsw (v := 3) (off := 122) (tgt := 136) gdX2_sumOfLegs_13.2.1 (by decide) (by decide) (by decide) (by decide) (fun hs_14_3 => ?_) (fun hs_14_3 => ?_)
        · refine aw_aload_n (q := 137) gdX2_sumOfLegs_134.2.2.1 rfl 1 rfl ?_
          refine aw_iload_n (q := 138) gdX2_sumOfLegs_134.2.2.2.1 rfl 2 rfl ?_
          refine aw_iload_n (q := 139) gdX2_sumOfLegs_134.2.2.2.2.1 rfl 3 rfl ?_
          refine aw_iload_n (q := 140) gdX2_sumOfLegs_134.2.2.2.2.2.1 rfl 4 rfl ?_
          refine aw_iconst (q := 141) (v := 1) gdX2_sumOfLegs_134.2.2.2.2.2.2.1 rfl (by decide) ?_
          refine aw_isub (q := 142) gdX2_sumOfLegs_134.2.2.2.2.2.2.2 rfl ?_
          refine aw_aload (q := 144) gdX2_sumOfLegs_142.1 rfl 5 rfl ?_
          refine aw_iload (q := 146) gdX2_sumOfLegs_142.2.1 rfl 6 rfl ?_
          refine aw_call (q := 149) (kc1 := 0) (ks1 := 0) (wc := [(h, .inr (4, [.ref a, .int sz_])), (a, .inl (0, 2646, .inl f_)), (c, .inr (2, [.int c0, .int c1_, .int c2_, .int c3_, .int c4, .int c5]))]) (wr := []) (st1 := fun x146 g146 => [.int x146.1]) (ws1 := fun x146 g146 => [(h, .inr (4, [.ref a, .int x146.2.1])), (a, .inl (0, 2646, .inl x146.2.2.1)), (c, .inr (2, [.int c0, .int x146.2.2.2.1, .int x146.2.2.2.2.1, .int x146.2.2.2.2.2, .int c4, .int c5]))]) (As := [.ref h, .int p0, .int p1, .int (p2 - (1 : Int32)), .ref c, .int p3]) [0, 1, 2] [] (fun _ => runV (q0 := 0) gdX2_sumOfLegs_142.2.2.1 mi_X2_worthKnown im_X2_worthKnown se_X2_worthKnown ml_X2_25 (by omega) rfl (Nat.le_of_ble_eq_true rfl) rfl rfl rfl rfl) (fun x9 h9 => hrec _ _ _ _ _ _ _ _ _ _ _ _ x9 h9) rfl rfl rfl rfl rfl (by decide +kernel) (by omega) (by omega) (fun _ _ => rfl) (fun _ _ => rfl) (fun x146 g146 => ?_)
          refine aw_iload (q := 151) gdX2_sumOfLegs_142.2.2.2.1 rfl 0 rfl ?_
          refine aw_if_eq (tgt := 170) (q := 154) gdX2_sumOfLegs_142.2.2.2.2.1 (by decide) rfl (fun h_151 => ?_) (fun h_151 => ?_)
          · refine aw_iconst (q := 171) (v := 0) gdX2_sumOfLegs_157.2.2.2.2.2.2.2 rfl (by decide) ?_
            refine aw_iadd (q := 172) gdX2_sumOfLegs_171.1 rfl ?_
            exact aw_ireturn (w := [(h, .inr (4, [.ref a, .int x146.2.1])), (a, .inl (0, 2646, .inl x146.2.2.1)), (c, .inr (2, [.int c0, .int x146.2.2.2.1, .int x146.2.2.2.2.1, .int x146.2.2.2.2.2, .int c4, .int c5]))]) [0, 1, 2] gdX2_sumOfLegs_171.2.1 rfl rfl rfl rfl (PN.mk (fun _ => 0) rfl rfl)
          · refine aw_aload_n (q := 155) gdX2_sumOfLegs_142.2.2.2.2.2.1 rfl 1 rfl ?_
            refine aw_iload_n (q := 156) gdX2_sumOfLegs_142.2.2.2.2.2.2.1 rfl 2 rfl ?_
            refine aw_iload_n (q := 157) gdX2_sumOfLegs_142.2.2.2.2.2.2.2 rfl 3 rfl ?_
            refine aw_iload_n (q := 158) gdX2_sumOfLegs_157.1 rfl 4 rfl ?_
            refine aw_isub (q := 159) gdX2_sumOfLegs_157.2.1 rfl ?_
            refine aw_iload_n (q := 160) gdX2_sumOfLegs_157.2.2.1 rfl 4 rfl ?_
            refine aw_aload (q := 162) gdX2_sumOfLegs_157.2.2.2.1 rfl 5 rfl ?_
            refine aw_iload (q := 164) gdX2_sumOfLegs_157.2.2.2.2.1 rfl 6 rfl ?_
            refine aw_call (q := 167) (kc1 := 0) (ks1 := 0) (wc := [(h, .inr (4, [.ref a, .int x146.2.1])), (a, .inl (0, 2646, .inl x146.2.2.1)), (c, .inr (2, [.int c0, .int x146.2.2.2.1, .int x146.2.2.2.2.1, .int x146.2.2.2.2.2, .int c4, .int c5]))]) (wr := []) (st1 := fun x164 g164 => [.int x164.1, .int x146.1]) (ws1 := fun x164 g164 => [(h, .inr (4, [.ref a, .int x164.2.1])), (a, .inl (0, 2646, .inl x164.2.2.1)), (c, .inr (2, [.int c0, .int x164.2.2.2.1, .int x164.2.2.2.2.1, .int x164.2.2.2.2.2, .int c4, .int c5]))]) (As := [.ref h, .int p0, .int (p1 - p2), .int p2, .ref c, .int p3]) [0, 1, 2] [] (fun _ => runV (q0 := 0) gdX2_sumOfLegs_157.2.2.2.2.2.1 mi_X2_worthKnown im_X2_worthKnown se_X2_worthKnown ml_X2_25 (by omega) rfl (Nat.le_of_ble_eq_true rfl) rfl rfl rfl rfl) (fun x9 h9 => hrec _ _ _ _ _ _ _ _ _ _ _ _ x9 h9) rfl rfl rfl rfl rfl (by decide +kernel) (by omega) (by omega) (fun _ _ => rfl) (fun _ _ => rfl) (fun x164 g164 => ?_)
            refine aw_goto (tgt := 171) gdX2_sumOfLegs_157.2.2.2.2.2.2.1 (by decide) ?_
            refine aw_iadd (q := 172) gdX2_sumOfLegs_171.1 rfl ?_
            exact aw_ireturn (w := [(h, .inr (4, [.ref a, .int x164.2.1])), (a, .inl (0, 2646, .inl x164.2.2.1)), (c, .inr (2, [.int c0, .int x164.2.2.2.1, .int x164.2.2.2.2.1, .int x164.2.2.2.2.2, .int c4, .int c5]))]) [0, 1, 2] gdX2_sumOfLegs_171.2.1 rfl rfl rfl rfl (PN.mk (fun _ => 0) rfl rfl)
        · refine aw_tsw (v := 4) (off := 159) (tgt := 173) gdX2_sumOfLegs_13.2.1 (by decide) (by decide) (by decide) (by decide) (fun hs_14_4 => ?_) (fun hs_14_4 => ?_)
          · refine aw_aload_n (q := 174) gdX2_sumOfLegs_171.2.2.1 rfl 1 rfl ?_
            refine aw_iload_n (q := 175) gdX2_sumOfLegs_171.2.2.2.1 rfl 2 rfl ?_
            refine aw_iload_n (q := 176) gdX2_sumOfLegs_171.2.2.2.2.1 rfl 3 rfl ?_
            refine aw_iload_n (q := 177) gdX2_sumOfLegs_171.2.2.2.2.2.1 rfl 4 rfl ?_
            refine aw_iconst (q := 178) (v := 1) gdX2_sumOfLegs_171.2.2.2.2.2.2.1 rfl (by decide) ?_
            refine aw_isub (q := 179) gdX2_sumOfLegs_171.2.2.2.2.2.2.2 rfl ?_
            refine aw_aload (q := 181) gdX2_sumOfLegs_179.1 rfl 5 rfl ?_
            refine aw_iload (q := 183) gdX2_sumOfLegs_179.2.1 rfl 6 rfl ?_
            refine aw_call (q := 186) (kc1 := 0) (ks1 := 0) (wc := [(h, .inr (4, [.ref a, .int sz_])), (a, .inl (0, 2646, .inl f_)), (c, .inr (2, [.int c0, .int c1_, .int c2_, .int c3_, .int c4, .int c5]))]) (wr := []) (st1 := fun x183 g183 => [.int x183.1]) (ws1 := fun x183 g183 => [(h, .inr (4, [.ref a, .int x183.2.1])), (a, .inl (0, 2646, .inl x183.2.2.1)), (c, .inr (2, [.int c0, .int x183.2.2.2.1, .int x183.2.2.2.2.1, .int x183.2.2.2.2.2, .int c4, .int c5]))]) (As := [.ref h, .int p0, .int p1, .int (p2 - (1 : Int32)), .ref c, .int p3]) [0, 1, 2] [] (fun _ => runV (q0 := 0) gdX2_sumOfLegs_179.2.2.1 mi_X2_worthKnown im_X2_worthKnown se_X2_worthKnown ml_X2_25 (by omega) rfl (Nat.le_of_ble_eq_true rfl) rfl rfl rfl rfl) (fun x9 h9 => hrec _ _ _ _ _ _ _ _ _ _ _ _ x9 h9) rfl rfl rfl rfl rfl (by decide +kernel) (by omega) (by omega) (fun _ _ => rfl) (fun _ _ => rfl) (fun x183 g183 => ?_)
            refine aw_iload (q := 188) gdX2_sumOfLegs_179.2.2.2.1 rfl 0 rfl ?_
            refine aw_if_eq (tgt := 209) (q := 191) gdX2_sumOfLegs_179.2.2.2.2.1 (by decide) rfl (fun h_188 => ?_) (fun h_188 => ?_)
            · refine aw_iconst (q := 210) (v := 0) gdX2_sumOfLegs_206.2.1 rfl (by decide) ?_
              refine aw_iadd (q := 211) gdX2_sumOfLegs_206.2.2.1 rfl ?_
              exact aw_ireturn (w := [(h, .inr (4, [.ref a, .int x183.2.1])), (a, .inl (0, 2646, .inl x183.2.2.1)), (c, .inr (2, [.int c0, .int x183.2.2.2.1, .int x183.2.2.2.2.1, .int x183.2.2.2.2.2, .int c4, .int c5]))]) [0, 1, 2] gdX2_sumOfLegs_206.2.2.2.1 rfl rfl rfl rfl (PN.mk (fun _ => 0) rfl rfl)
            · refine aw_aload_n (q := 192) gdX2_sumOfLegs_179.2.2.2.2.2.1 rfl 1 rfl ?_
              refine aw_iload_n (q := 193) gdX2_sumOfLegs_179.2.2.2.2.2.2.1 rfl 2 rfl ?_
              refine aw_iload_n (q := 194) gdX2_sumOfLegs_179.2.2.2.2.2.2.2 rfl 3 rfl ?_
              refine aw_iload_n (q := 195) gdX2_sumOfLegs_194.1 rfl 4 rfl ?_
              refine aw_isub (q := 196) gdX2_sumOfLegs_194.2.1 rfl ?_
              refine aw_iload_n (q := 197) gdX2_sumOfLegs_194.2.2.1 rfl 4 rfl ?_
              refine aw_iconst (q := 198) (v := 1) gdX2_sumOfLegs_194.2.2.2.1 rfl (by decide) ?_
              refine aw_isub (q := 199) gdX2_sumOfLegs_194.2.2.2.2.1 rfl ?_
              refine aw_aload (q := 201) gdX2_sumOfLegs_194.2.2.2.2.2.1 rfl 5 rfl ?_
              refine aw_iload (q := 203) gdX2_sumOfLegs_194.2.2.2.2.2.2.1 rfl 6 rfl ?_
              refine aw_call (q := 206) (kc1 := 0) (ks1 := 0) (wc := [(h, .inr (4, [.ref a, .int x183.2.1])), (a, .inl (0, 2646, .inl x183.2.2.1)), (c, .inr (2, [.int c0, .int x183.2.2.2.1, .int x183.2.2.2.2.1, .int x183.2.2.2.2.2, .int c4, .int c5]))]) (wr := []) (st1 := fun x203 g203 => [.int x203.1, .int x183.1]) (ws1 := fun x203 g203 => [(h, .inr (4, [.ref a, .int x203.2.1])), (a, .inl (0, 2646, .inl x203.2.2.1)), (c, .inr (2, [.int c0, .int x203.2.2.2.1, .int x203.2.2.2.2.1, .int x203.2.2.2.2.2, .int c4, .int c5]))]) (As := [.ref h, .int p0, .int (p1 - p2), .int (p2 - (1 : Int32)), .ref c, .int p3]) [0, 1, 2] [] (fun _ => runV (q0 := 0) gdX2_sumOfLegs_194.2.2.2.2.2.2.2 mi_X2_worthKnown im_X2_worthKnown se_X2_worthKnown ml_X2_25 (by omega) rfl (Nat.le_of_ble_eq_true rfl) rfl rfl rfl rfl) (fun x9 h9 => hrec _ _ _ _ _ _ _ _ _ _ _ _ x9 h9) rfl rfl rfl rfl rfl (by decide +kernel) (by omega) (by omega) (fun _ _ => rfl) (fun _ _ => rfl) (fun x203 g203 => ?_)
              refine aw_goto (tgt := 210) gdX2_sumOfLegs_206.1 (by decide) ?_
              refine aw_iadd (q := 211) gdX2_sumOfLegs_206.2.2.1 rfl ?_
              exact aw_ireturn (w := [(h, .inr (4, [.ref a, .int x203.2.1])), (a, .inl (0, 2646, .inl x203.2.2.1)), (c, .inr (2, [.int c0, .int x203.2.2.2.1, .int x203.2.2.2.2.1, .int x203.2.2.2.2.2, .int c4, .int c5]))]) [0, 1, 2] gdX2_sumOfLegs_206.2.2.2.1 rfl rfl rfl rfl (PN.mk (fun _ => 0) rfl rfl)
          · refine aw_tswD (tgt := 212) gdX2_sumOfLegs_13.2.1 (by have e0 := lv_neT (a := 0) hs_14_0 (by decide); have e1 := lv_neT (a := 1) hs_14_1 (by decide); have e2 := lv_neT (a := 2) hs_14_2 (by decide); have e3 := lv_neT (a := 3) hs_14_3 (by decide); have e4 := lv_neT (a := 4) hs_14_4 (by decide); omega) (by decide) ?_
            refine aw_aload_n (q := 213) gdX2_sumOfLegs_206.2.2.2.2.1 rfl 1 rfl ?_
            refine aw_iload_n (q := 214) gdX2_sumOfLegs_206.2.2.2.2.2.1 rfl 2 rfl ?_
            refine aw_iload_n (q := 215) gdX2_sumOfLegs_206.2.2.2.2.2.2.1 rfl 3 rfl ?_
            refine aw_iload_n (q := 216) gdX2_sumOfLegs_206.2.2.2.2.2.2.2 rfl 4 rfl ?_
            refine aw_isub (q := 217) gdX2_sumOfLegs_216.1 rfl ?_
            refine aw_iload_n (q := 218) gdX2_sumOfLegs_216.2.1 rfl 4 rfl ?_
            refine aw_aload (q := 220) gdX2_sumOfLegs_216.2.2.1 rfl 5 rfl ?_
            refine aw_iload (q := 222) gdX2_sumOfLegs_216.2.2.2.1 rfl 6 rfl ?_
            refine aw_call (q := 225) (kc1 := 0) (ks1 := 0) (wc := [(h, .inr (4, [.ref a, .int sz_])), (a, .inl (0, 2646, .inl f_)), (c, .inr (2, [.int c0, .int c1_, .int c2_, .int c3_, .int c4, .int c5]))]) (wr := []) (st1 := fun x222 g222 => [.int x222.1]) (ws1 := fun x222 g222 => [(h, .inr (4, [.ref a, .int x222.2.1])), (a, .inl (0, 2646, .inl x222.2.2.1)), (c, .inr (2, [.int c0, .int x222.2.2.2.1, .int x222.2.2.2.2.1, .int x222.2.2.2.2.2, .int c4, .int c5]))]) (As := [.ref h, .int p0, .int (p1 - p2), .int p2, .ref c, .int p3]) [0, 1, 2] [] (fun _ => runV (q0 := 0) gdX2_sumOfLegs_216.2.2.2.2.1 mi_X2_worthKnown im_X2_worthKnown se_X2_worthKnown ml_X2_25 (by omega) rfl (Nat.le_of_ble_eq_true rfl) rfl rfl rfl rfl) (fun x9 h9 => hrec _ _ _ _ _ _ _ _ _ _ _ _ x9 h9) rfl rfl rfl rfl rfl (by decide +kernel) (by omega) (by omega) (fun _ _ => rfl) (fun _ _ => rfl) (fun x222 g222 => ?_)
            refine aw_aload_n (q := 226) gdX2_sumOfLegs_216.2.2.2.2.2.1 rfl 1 rfl ?_
            refine aw_iload_n (q := 227) gdX2_sumOfLegs_216.2.2.2.2.2.2.1 rfl 2 rfl ?_
            refine aw_iload_n (q := 228) gdX2_sumOfLegs_216.2.2.2.2.2.2.2 rfl 3 rfl ?_
            refine aw_iload_n (q := 229) gdX2_sumOfLegs_228.1 rfl 4 rfl ?_
            refine aw_isub (q := 230) gdX2_sumOfLegs_228.2.1 rfl ?_
            refine aw_iload_n (q := 231) gdX2_sumOfLegs_228.2.2.1 rfl 4 rfl ?_
            refine aw_iconst (q := 232) (v := 1) gdX2_sumOfLegs_228.2.2.2.1 rfl (by decide) ?_
            refine aw_isub (q := 233) gdX2_sumOfLegs_228.2.2.2.2.1 rfl ?_
            refine aw_aload (q := 235) gdX2_sumOfLegs_228.2.2.2.2.2.1 rfl 5 rfl ?_
            refine aw_iload (q := 237) gdX2_sumOfLegs_228.2.2.2.2.2.2.1 rfl 6 rfl ?_
            refine aw_call (q := 240) (kc1 := 0) (ks1 := 0) (wc := [(h, .inr (4, [.ref a, .int x222.2.1])), (a, .inl (0, 2646, .inl x222.2.2.1)), (c, .inr (2, [.int c0, .int x222.2.2.2.1, .int x222.2.2.2.2.1, .int x222.2.2.2.2.2, .int c4, .int c5]))]) (wr := []) (st1 := fun x237 g237 => [.int x237.1, .int x222.1]) (ws1 := fun x237 g237 => [(h, .inr (4, [.ref a, .int x237.2.1])), (a, .inl (0, 2646, .inl x237.2.2.1)), (c, .inr (2, [.int c0, .int x237.2.2.2.1, .int x237.2.2.2.2.1, .int x237.2.2.2.2.2, .int c4, .int c5]))]) (As := [.ref h, .int p0, .int (p1 - p2), .int (p2 - (1 : Int32)), .ref c, .int p3]) [0, 1, 2] [] (fun _ => runV (q0 := 0) gdX2_sumOfLegs_228.2.2.2.2.2.2.2 mi_X2_worthKnown im_X2_worthKnown se_X2_worthKnown ml_X2_25 (by omega) rfl (Nat.le_of_ble_eq_true rfl) rfl rfl rfl rfl) (fun x9 h9 => hrec _ _ _ _ _ _ _ _ _ _ _ _ x9 h9) rfl rfl rfl rfl rfl (by decide +kernel) (by omega) (by omega) (fun _ _ => rfl) (fun _ _ => rfl) (fun x237 g237 => ?_)
            refine aw_iadd (q := 241) gdX2_sumOfLegs_240.1 rfl ?_
            exact aw_ireturn (w := [(h, .inr (4, [.ref a, .int x237.2.1])), (a, .inl (0, 2646, .inl x237.2.2.1)), (c, .inr (2, [.int c0, .int x237.2.2.2.1, .int x237.2.2.2.2.1, .int x237.2.2.2.2.2, .int c4, .int c5]))]) [0, 1, 2] gdX2_sumOfLegs_240.2 rfl rfl rfl rfl (PN.mk (fun _ => 0) rfl rfl)
def fX2_sumOfLegs (N K : Nat) (rec : Int32 → (Nat → Int32) → Int32 → Int32 → Int32 → Int32 → Int32 → Int32 → Int32 → Int32 → Int32 → Int32 → Option (Int32 × Int32 × (Nat → Int32) × Int32 × Int32 × Int32)) (sz : Int32) (f : Nat → Int32) (c0 : Int32) (c1 : Int32) (c2 : Int32) (c3 : Int32) (c4 : Int32) (c5 : Int32) (p0 : Int32) (p1 : Int32) (p2 : Int32) (p3 : Int32) : Option (Int32 × Int32 × (Nat → Int32) × Int32 × Int32 × Int32) :=
  (if (p2 % (2 : Int32)) = 0 then fX2_sumOfLegs_11 N K rec sz f c0 c1 c2 c3 c4 c5 p0 p1 p2 p3  (0 : Int32) sz f c1 c2 c3 else fX2_sumOfLegs_11 N K rec sz f c0 c1 c2 c3 c4 c5 p0 p1 p2 p3  (1 : Int32) sz f c1 c2 c3)
set_option maxHeartbeats 4000000 in
set_option maxRecDepth 100000 in
theorem ok_X2_sumOfLegs {N K : Nat} {h c a : Nat} {sz : Int32} {f : Nat → Int32} {c0 : Int32} {c1 : Int32} {c2 : Int32} {c3 : Int32} {c4 : Int32} {c5 : Int32} {p0 : Int32} {p1 : Int32} {p2 : Int32} {p3 : Int32} {rec : Int32 → (Nat → Int32) → Int32 → Int32 → Int32 → Int32 → Int32 → Int32 → Int32 → Int32 → Int32 → Int32 → Option (Int32 × Int32 × (Nat → Int32) × Int32 × Int32 × Int32)} {dr : Nat} (hrec : ∀ (sz : Int32) (f : Nat → Int32) (c0 : Int32) (c1 : Int32) (c2 : Int32) (c3 : Int32) (c4 : Int32) (c5 : Int32) (p0 : Int32) (p1 : Int32) (p2 : Int32) (p3 : Int32) (xr : Int32 × Int32 × (Nat → Int32) × Int32 × Int32 × Int32), rec sz f c0 c1 c2 c3 c4 c5 p0 p1 p2 p3 = some xr → OkM yX2_worthKnown (.code yX2_worthKnown cX2_worthKnown 8 (some .int)) (dr) 0 0 [.ref h, .int p0, .int p1, .int p2, .ref c, .int p3] [(h, .inr (4, [.ref a, .int sz])), (a, .inl (0, 2646, .inl f)), (c, .inr (2, [.int c0, .int c1, .int c2, .int c3, .int c4, .int c5]))] ((PN (U := Int32 × Int32 × (Nat → Int32) × Int32 × Int32 × Int32) (fun zz _ => some (.int zz.1)) (fun zz ad => [(h, .inr (4, [.ref a, .int zz.2.1])), (a, .inl (0, 2646, .inl zz.2.2.1)), (c, .inr (2, [.int c0, .int zz.2.2.2.1, .int zz.2.2.2.2.1, .int zz.2.2.2.2.2, .int c4, .int c5]))])) xr)) {xr : Int32 × Int32 × (Nat → Int32) × Int32 × Int32 × Int32} (hE : fX2_sumOfLegs N K rec sz f c0 c1 c2 c3 c4 c5 p0 p1 p2 p3 = some xr) : OkM yX2_sumOfLegs (.code yX2_sumOfLegs cX2_sumOfLegs 7 (some .int)) (dr + 1) 0 0 [.ref h, .int p0, .int p1, .int p2, .ref c, .int p3] [(h, .inr (4, [.ref a, .int sz])), (a, .inl (0, 2646, .inl f)), (c, .inr (2, [.int c0, .int c1, .int c2, .int c3, .int c4, .int c5]))] ((PN (U := Int32 × Int32 × (Nat → Int32) × Int32 × Int32 × Int32) (fun zz _ => some (.int zz.1)) (fun zz ad => [(h, .inr (4, [.ref a, .int zz.2.1])), (a, .inl (0, 2646, .inl zz.2.2.1)), (c, .inr (2, [.int c0, .int zz.2.2.2.1, .int zz.2.2.2.2.1, .int zz.2.2.2.2.2, .int c4, .int c5]))])) xr) := by
  refine ok_of (by decide) (Nat.le_of_ble_eq_true rfl) hE ?_
  refine aw_locals (lv' := [(0, .ref h), (1, .int p0), (2, .int p1), (3, .int p2), (4, .ref c), (5, .int p3)]) [0, 1, 2, 3, 4, 5] rfl ?_
  refine aw_iload_n (q := 1) gdX2_sumOfLegs_0.1 rfl 3 rfl ?_
  refine aw_iconst (q := 2) (v := 2) gdX2_sumOfLegs_0.2.1 rfl (by decide) ?_
  refine aw_iremT (q := 3) gdX2_sumOfLegs_0.2.2.1 rfl (by decide) ?_
  refine aw_if_eq (tgt := 10) (q := 6) gdX2_sumOfLegs_0.2.2.2.1 (by decide) rfl (fun h_3 => ?_) (fun h_3 => ?_)
  · refine aw_iconst (q := 11) (v := 0) gdX2_sumOfLegs_0.2.2.2.2.2.2.1 rfl (by decide) ?_
    exact tX2_sumOfLegs_11 hrec _ _ _ _ _ _
  · refine aw_iconst (q := 7) (v := 1) gdX2_sumOfLegs_0.2.2.2.2.1 rfl (by decide) ?_
    refine aw_goto (tgt := 11) gdX2_sumOfLegs_0.2.2.2.2.2.1 (by decide) ?_
    exact tX2_sumOfLegs_11 hrec _ _ _ _ _ _
def fX2_worthKnown (N K : Nat) : Nat → Int32 → (Nat → Int32) → Int32 → Int32 → Int32 → Int32 → Int32 → Int32 → Int32 → Int32 → Int32 → Int32 → Option (Int32 × Int32 × (Nat → Int32) × Int32 × Int32 × Int32)
  | 0, _, _, _, _, _, _, _, _, _, _, _, _ => none
  | k + 1, sz, f, c0, c1, c2, c3, c4, c5, p0, p1, p2, p3 =>
    ((fX5_rests N K p1 p2).bind (fun x2 => (if x2 = 0 then ((fX2_slotOf N K p0 p1 p2).bind (fun x18 => (if x18 = (-1 : Int32) then (some ((0 : Int32), sz, f, c1, c2, c3)) else (if p3 ≤ (45 : Int32) then (if x18 < 0 ∨ 2646 ≤ x18.toNatClampNeg then none else (if (f x18.toNatClampNeg) = (-1 : Int32) then ((fX2_sumOfLegs N K (fX2_worthKnown N K k) sz f c0 (c1 + (1 : Int32)) c2 c3 c4 c5 p0 p1 p2 (p3 + (1 : Int32))).bind (fun x89 => ((fX2_keep N K x89.2.1 x89.2.2.1 p0 p1 p2 x89.1).bind (fun x100 => (some (x89.1, x100.1, x100.2, x89.2.2.2.1, (x89.2.2.2.2.1 + (1 : Int32)), x89.2.2.2.2.2)))))) else (if x18 < 0 ∨ 2646 ≤ x18.toNatClampNeg then none else (some ((f x18.toNatClampNeg), sz, f, (c1 + (1 : Int32)), c2, (c3 + (1 : Int32))))))) else (some ((0 : Int32), sz, f, c1, c2, c3)))))) else ((fX5_restingWorth N K p0 p1 p2).bind (fun x11 => (some (x11, sz, f, c1, c2, c3)))))))
set_option maxHeartbeats 4000000 in
set_option maxRecDepth 100000 in
theorem ok_X2_worthKnown {N K : Nat} : ∀ (k : Nat) (h c a : Nat) (sz : Int32) (f : Nat → Int32) (c0 : Int32) (c1 : Int32) (c2 : Int32) (c3 : Int32) (c4 : Int32) (c5 : Int32) (p0 : Int32) (p1 : Int32) (p2 : Int32) (p3 : Int32) (xr : Int32 × Int32 × (Nat → Int32) × Int32 × Int32 × Int32), fX2_worthKnown N K k sz f c0 c1 c2 c3 c4 c5 p0 p1 p2 p3 = some xr → OkM yX2_worthKnown (.code yX2_worthKnown cX2_worthKnown 8 (some .int)) (2 * k + 6) 0 0 [.ref h, .int p0, .int p1, .int p2, .ref c, .int p3] [(h, .inr (4, [.ref a, .int sz])), (a, .inl (0, 2646, .inl f)), (c, .inr (2, [.int c0, .int c1, .int c2, .int c3, .int c4, .int c5]))] ((PN (U := Int32 × Int32 × (Nat → Int32) × Int32 × Int32 × Int32) (fun zz _ => some (.int zz.1)) (fun zz ad => [(h, .inr (4, [.ref a, .int zz.2.1])), (a, .inl (0, 2646, .inl zz.2.2.1)), (c, .inr (2, [.int c0, .int zz.2.2.2.1, .int zz.2.2.2.2.1, .int zz.2.2.2.2.2, .int c4, .int c5]))])) xr) := by
  intro k
  induction k with
  | zero => intro h c a sz f c0 c1 c2 c3 c4 c5 p0 p1 p2 p3 xr hE; cases hE
  | succ k ih =>
    intro h c a sz f c0 c1 c2 c3 c4 c5 p0 p1 p2 p3 xr hE
    refine ok_of (by decide) (Nat.le_of_ble_eq_true rfl) hE ?_
    refine aw_locals (lv' := [(0, .ref h), (1, .int p0), (2, .int p1), (3, .int p2), (4, .ref c), (5, .int p3)]) [0, 1, 2, 3, 4, 5] rfl ?_
    refine aw_iload_n (q := 1) gdX2_worthKnown_0.1 rfl 2 rfl ?_
    refine aw_iload_n (q := 2) gdX2_worthKnown_0.2.1 rfl 3 rfl ?_
    refine aw_call (q := 5) (kc1 := 0) (ks1 := 0) (wc := []) (wr := [(h, .inr (4, [.ref a, .int sz])), (a, .inl (0, 2646, .inl f)), (c, .inr (2, [.int c0, .int c1, .int c2, .int c3, .int c4, .int c5]))]) (st1 := fun x2 g2 => [.int x2]) (ws1 := fun x2 g2 => [(h, .inr (4, [.ref a, .int sz])), (a, .inl (0, 2646, .inl f)), (c, .inr (2, [.int c0, .int c1, .int c2, .int c3, .int c4, .int c5]))]) (As := [.int p1, .int p2]) [] [0, 1, 2] (fun _ => runSN gdX2_worthKnown_0.2.2.1 mi_X5_rests st_X5_rests mn_X2_29 (by omega) rfl (Nat.le_of_ble_eq_true rfl) rfl) (fun x9 h9 => ok_X5_rests h9) rfl rfl rfl rfl rfl (by decide +kernel) (by omega) (by omega) (fun _ _ => rfl) (fun _ _ => rfl) (fun x2 g2 => ?_)
    refine aw_if_eq (tgt := 15) (q := 8) gdX2_worthKnown_0.2.2.2.1 (by decide) rfl (fun h_5 => ?_) (fun h_5 => ?_)
    · refine aw_iload_n (q := 16) gdX2_worthKnown_14.2.1 rfl 1 rfl ?_
      refine aw_iload_n (q := 17) gdX2_worthKnown_14.2.2.1 rfl 2 rfl ?_
      refine aw_iload_n (q := 18) gdX2_worthKnown_14.2.2.2.1 rfl 3 rfl ?_
      refine aw_call (q := 21) (kc1 := 0) (ks1 := 0) (wc := []) (wr := [(h, .inr (4, [.ref a, .int sz])), (a, .inl (0, 2646, .inl f)), (c, .inr (2, [.int c0, .int c1, .int c2, .int c3, .int c4, .int c5]))]) (st1 := fun x18 g18 => [.int x18]) (ws1 := fun x18 g18 => [(h, .inr (4, [.ref a, .int sz])), (a, .inl (0, 2646, .inl f)), (c, .inr (2, [.int c0, .int c1, .int c2, .int c3, .int c4, .int c5]))]) (As := [.int p0, .int p1, .int p2]) [] [0, 1, 2] (fun _ => runS gdX2_worthKnown_14.2.2.2.2.1 mi_X2_slotOf st_X2_slotOf ml_X2_37 (by omega) rfl (Nat.le_of_ble_eq_true rfl) rfl) (fun x9 h9 => ok_X2_slotOf h9) rfl rfl rfl rfl rfl (by decide +kernel) (by omega) (by omega) (fun _ _ => rfl) (fun _ _ => rfl) (fun x18 g18 => ?_)
      refine aw_istore (q := 23) (lv' := [(6, .int x18), (0, .ref h), (1, .int p0), (2, .int p1), (3, .int p2), (4, .ref c), (5, .int p3)]) gdX2_worthKnown_14.2.2.2.2.2.1 rfl (by decide) rfl ?_
      refine aw_iload (q := 25) gdX2_worthKnown_14.2.2.2.2.2.2.1 rfl 0 rfl ?_
      refine aw_iconst (q := 26) (v := (-1)) gdX2_worthKnown_14.2.2.2.2.2.2.2 rfl (by decide) ?_
      refine aw_icmp_eq (tgt := 36) (q := 29) gdX2_worthKnown_26.1 (by decide) rfl (fun h_26 => ?_) (fun h_26 => ?_)
      · refine aw_iconst (q := 37) (v := 0) gdX2_worthKnown_26.2.2.2.2.1 rfl (by decide) ?_
        exact aw_ireturn (w := [(h, .inr (4, [.ref a, .int sz])), (a, .inl (0, 2646, .inl f)), (c, .inr (2, [.int c0, .int c1, .int c2, .int c3, .int c4, .int c5]))]) [0, 1, 2] gdX2_worthKnown_26.2.2.2.2.2.1 rfl rfl rfl rfl (PN.mk (fun _ => 0) rfl rfl)
      · refine aw_iload (q := 31) gdX2_worthKnown_26.2.1 rfl 6 rfl ?_
        refine aw_bipush (q := 33) (v := 45) gdX2_worthKnown_26.2.2.1 rfl (by decide) ?_
        refine aw_icmp_le (tgt := 38) (q := 36) gdX2_worthKnown_26.2.2.2.1 (by decide) rfl (fun h_33 => ?_) (fun h_33 => ?_)
        · refine aw_aload (q := 40) gdX2_worthKnown_26.2.2.2.2.2.2.1 rfl 5 rfl ?_
          refine aw_dup (q := 41) gdX2_worthKnown_26.2.2.2.2.2.2.2 rfl rfl ?_
          refine aw_get (q := 44) gdX2_worthKnown_41.1 rfl fl_X2_40 2 rfl rfl ?_
          refine aw_iconst (q := 45) (v := 1) gdX2_worthKnown_41.2.1 rfl (by decide) ?_
          refine aw_iadd (q := 46) gdX2_worthKnown_41.2.2.1 rfl ?_
          refine aw_put (q := 49) (ws' := [(h, .inr (4, [.ref a, .int sz])), (a, .inl (0, 2646, .inl f)), (c, .inr (2, [.int c0, .int (c1 + (1 : Int32)), .int c2, .int c3, .int c4, .int c5]))]) gdX2_worthKnown_41.2.2.2.1 rfl fl_X2_40 2 rfl rfl rfl (Nat.le_of_ble_eq_true rfl) rfl ?_
          refine aw_aload_n (q := 50) gdX2_worthKnown_41.2.2.2.2.1 rfl 1 rfl ?_
          refine aw_get (q := 53) gdX2_worthKnown_41.2.2.2.2.2.1 rfl fl_X2_11 0 rfl rfl ?_
          refine aw_iload (q := 55) gdX2_worthKnown_41.2.2.2.2.2.2.1 rfl 0 rfl ?_
          refine aw_iald (q := 56) gdX2_worthKnown_41.2.2.2.2.2.2.2 rfl 1 rfl ?_
          refine aw_iconst (q := 57) (v := (-1)) gdX2_worthKnown_56.1 rfl (by decide) ?_
          refine aw_icmp_eq (tgt := 79) (q := 60) gdX2_worthKnown_56.2.1 (by decide) rfl (fun h_57 => ?_) (fun h_57 => ?_)
          · refine aw_aload_n (q := 80) gdX2_worthKnown_71.2.2.2.2.2.1 rfl 1 rfl ?_
            refine aw_iload_n (q := 81) gdX2_worthKnown_71.2.2.2.2.2.2.1 rfl 2 rfl ?_
            refine aw_iload_n (q := 82) gdX2_worthKnown_71.2.2.2.2.2.2.2 rfl 3 rfl ?_
            refine aw_iload_n (q := 83) gdX2_worthKnown_82.1 rfl 4 rfl ?_
            refine aw_aload (q := 85) gdX2_worthKnown_82.2.1 rfl 5 rfl ?_
            refine aw_iload (q := 87) gdX2_worthKnown_82.2.2.1 rfl 6 rfl ?_
            refine aw_iconst (q := 88) (v := 1) gdX2_worthKnown_82.2.2.2.1 rfl (by decide) ?_
            refine aw_iadd (q := 89) gdX2_worthKnown_82.2.2.2.2.1 rfl ?_
            refine aw_call (q := 92) (kc1 := 0) (ks1 := 0) (wc := [(h, .inr (4, [.ref a, .int sz])), (a, .inl (0, 2646, .inl f)), (c, .inr (2, [.int c0, .int (c1 + (1 : Int32)), .int c2, .int c3, .int c4, .int c5]))]) (wr := []) (st1 := fun x89 g89 => [.int x89.1]) (ws1 := fun x89 g89 => [(h, .inr (4, [.ref a, .int x89.2.1])), (a, .inl (0, 2646, .inl x89.2.2.1)), (c, .inr (2, [.int c0, .int x89.2.2.2.1, .int x89.2.2.2.2.1, .int x89.2.2.2.2.2, .int c4, .int c5]))]) (As := [.ref h, .int p0, .int p1, .int p2, .ref c, .int (p3 + (1 : Int32))]) [0, 1, 2] [] (fun _ => runV (q0 := 0) gdX2_worthKnown_82.2.2.2.2.2.1 mi_X2_sumOfLegs im_X2_sumOfLegs se_X2_sumOfLegs ml_X2_48 (by omega) rfl (Nat.le_of_ble_eq_true rfl) rfl rfl rfl rfl) (fun x9 h9 => ok_X2_sumOfLegs (fun _ _ _ _ _ _ _ _ _ _ _ _ x8 h8 => ih _ _ _ _ _ _ _ _ _ _ _ _ _ _ _ x8 h8) h9) rfl rfl rfl rfl rfl (by decide +kernel) (by omega) (by omega) (fun _ _ => rfl) (fun _ _ => rfl) (fun x89 g89 => ?_)
            refine aw_istore (q := 94) (lv' := [(7, .int x89.1), (6, .int x18), (0, .ref h), (1, .int p0), (2, .int p1), (3, .int p2), (4, .ref c), (5, .int p3)]) gdX2_worthKnown_82.2.2.2.2.2.2.1 rfl (by decide) rfl ?_
            refine aw_aload_n (q := 95) gdX2_worthKnown_82.2.2.2.2.2.2.2 rfl 2 rfl ?_
            refine aw_iload_n (q := 96) gdX2_worthKnown_95.1 rfl 3 rfl ?_
            refine aw_iload_n (q := 97) gdX2_worthKnown_95.2.1 rfl 4 rfl ?_
            refine aw_iload_n (q := 98) gdX2_worthKnown_95.2.2.1 rfl 5 rfl ?_
            refine aw_iload (q := 100) gdX2_worthKnown_95.2.2.2.1 rfl 0 rfl ?_
            refine aw_call (q := 103) (kc1 := 0) (ks1 := 0) (wc := [(h, .inr (4, [.ref a, .int x89.2.1])), (a, .inl (0, 2646, .inl x89.2.2.1))]) (wr := [(c, .inr (2, [.int c0, .int x89.2.2.2.1, .int x89.2.2.2.2.1, .int x89.2.2.2.2.2, .int c4, .int c5]))]) (st1 := fun x100 g100 => []) (ws1 := fun x100 g100 => [(c, .inr (2, [.int c0, .int x89.2.2.2.1, .int x89.2.2.2.2.1, .int x89.2.2.2.2.2, .int c4, .int c5])), (h, .inr (4, [.ref a, .int x100.1])), (a, .inl (0, 2646, .inl x100.2))]) (As := [.ref h, .int p0, .int p1, .int p2, .int x89.1]) [0, 1] [2] (fun _ => runV (q0 := 0) gdX2_worthKnown_95.2.2.2.2.1 mi_X2_keep im_X2_keep se_X2_keep ml_X2_51 (by omega) rfl (Nat.le_of_ble_eq_true rfl) rfl rfl rfl rfl) (fun x9 h9 => ok_X2_keep h9) rfl rfl rfl rfl rfl (by decide +kernel) (by omega) (by omega) (fun _ _ => rfl) (fun _ _ => rfl) (fun x100 g100 => ?_)
            refine aw_aload (q := 105) gdX2_worthKnown_95.2.2.2.2.2.1 rfl 6 rfl ?_
            refine aw_dup (q := 106) gdX2_worthKnown_95.2.2.2.2.2.2.1 rfl rfl ?_
            refine aw_get (q := 109) gdX2_worthKnown_95.2.2.2.2.2.2.2 rfl fl_X2_55 0 rfl rfl ?_
            refine aw_iconst (q := 110) (v := 1) gdX2_worthKnown_109.1 rfl (by decide) ?_
            refine aw_iadd (q := 111) gdX2_worthKnown_109.2.1 rfl ?_
            refine aw_put (q := 114) (ws' := [(c, .inr (2, [.int c0, .int x89.2.2.2.1, .int (x89.2.2.2.2.1 + (1 : Int32)), .int x89.2.2.2.2.2, .int c4, .int c5])), (h, .inr (4, [.ref a, .int x100.1])), (a, .inl (0, 2646, .inl x100.2))]) gdX2_worthKnown_109.2.2.1 rfl fl_X2_55 0 rfl rfl rfl (Nat.le_of_ble_eq_true rfl) rfl ?_
            refine aw_iload (q := 116) gdX2_worthKnown_109.2.2.2.1 rfl 0 rfl ?_
            exact aw_ireturn (w := [(h, .inr (4, [.ref a, .int x100.1])), (a, .inl (0, 2646, .inl x100.2)), (c, .inr (2, [.int c0, .int x89.2.2.2.1, .int (x89.2.2.2.2.1 + (1 : Int32)), .int x89.2.2.2.2.2, .int c4, .int c5]))]) [1, 2, 0] gdX2_worthKnown_109.2.2.2.2 rfl rfl rfl rfl (PN.mk (fun _ => 0) rfl rfl)
          · refine aw_aload (q := 62) gdX2_worthKnown_56.2.2.1 rfl 5 rfl ?_
            refine aw_dup (q := 63) gdX2_worthKnown_56.2.2.2.1 rfl rfl ?_
            refine aw_get (q := 66) gdX2_worthKnown_56.2.2.2.2.1 rfl fl_X2_45 2 rfl rfl ?_
            refine aw_iconst (q := 67) (v := 1) gdX2_worthKnown_56.2.2.2.2.2.1 rfl (by decide) ?_
            refine aw_iadd (q := 68) gdX2_worthKnown_56.2.2.2.2.2.2.1 rfl ?_
            refine aw_put (q := 71) (ws' := [(h, .inr (4, [.ref a, .int sz])), (a, .inl (0, 2646, .inl f)), (c, .inr (2, [.int c0, .int (c1 + (1 : Int32)), .int c2, .int (c3 + (1 : Int32)), .int c4, .int c5]))]) gdX2_worthKnown_56.2.2.2.2.2.2.2 rfl fl_X2_45 2 rfl rfl rfl (Nat.le_of_ble_eq_true rfl) rfl ?_
            refine aw_aload_n (q := 72) gdX2_worthKnown_71.1 rfl 1 rfl ?_
            refine aw_get (q := 75) gdX2_worthKnown_71.2.1 rfl fl_X2_11 0 rfl rfl ?_
            refine aw_iload (q := 77) gdX2_worthKnown_71.2.2.1 rfl 0 rfl ?_
            refine aw_iald (q := 78) gdX2_worthKnown_71.2.2.2.1 rfl 1 rfl ?_
            exact aw_ireturn (w := [(h, .inr (4, [.ref a, .int sz])), (a, .inl (0, 2646, .inl f)), (c, .inr (2, [.int c0, .int (c1 + (1 : Int32)), .int c2, .int (c3 + (1 : Int32)), .int c4, .int c5]))]) [0, 1, 2] gdX2_worthKnown_71.2.2.2.2.1 rfl rfl rfl rfl (PN.mk (fun _ => 0) rfl rfl)
        · refine aw_iconst (q := 37) (v := 0) gdX2_worthKnown_26.2.2.2.2.1 rfl (by decide) ?_
          exact aw_ireturn (w := [(h, .inr (4, [.ref a, .int sz])), (a, .inl (0, 2646, .inl f)), (c, .inr (2, [.int c0, .int c1, .int c2, .int c3, .int c4, .int c5]))]) [0, 1, 2] gdX2_worthKnown_26.2.2.2.2.2.1 rfl rfl rfl rfl (PN.mk (fun _ => 0) rfl rfl)
    · refine aw_iload_n (q := 9) gdX2_worthKnown_0.2.2.2.2.1 rfl 1 rfl ?_
      refine aw_iload_n (q := 10) gdX2_worthKnown_0.2.2.2.2.2.1 rfl 2 rfl ?_
      refine aw_iload_n (q := 11) gdX2_worthKnown_0.2.2.2.2.2.2.1 rfl 3 rfl ?_
      refine aw_call (q := 14) (kc1 := 0) (ks1 := 0) (wc := []) (wr := [(h, .inr (4, [.ref a, .int sz])), (a, .inl (0, 2646, .inl f)), (c, .inr (2, [.int c0, .int c1, .int c2, .int c3, .int c4, .int c5]))]) (st1 := fun x11 g11 => [.int x11]) (ws1 := fun x11 g11 => [(h, .inr (4, [.ref a, .int sz])), (a, .inl (0, 2646, .inl f)), (c, .inr (2, [.int c0, .int c1, .int c2, .int c3, .int c4, .int c5]))]) (As := [.int p0, .int p1, .int p2]) [] [0, 1, 2] (fun _ => runSN gdX2_worthKnown_0.2.2.2.2.2.2.2 mi_X5_restingWorth st_X5_restingWorth mn_X2_33 (by omega) rfl (Nat.le_of_ble_eq_true rfl) rfl) (fun x9 h9 => ok_X5_restingWorth h9) rfl rfl rfl rfl rfl (by decide +kernel) (by omega) (by omega) (fun _ _ => rfl) (fun _ _ => rfl) (fun x11 g11 => ?_)
      exact aw_ireturn (w := [(h, .inr (4, [.ref a, .int sz])), (a, .inl (0, 2646, .inl f)), (c, .inr (2, [.int c0, .int c1, .int c2, .int c3, .int c4, .int c5]))]) [0, 1, 2] gdX2_worthKnown_14.1 rfl rfl rfl rfl (PN.mk (fun _ => 0) rfl rfl)
def fX2_recall (N K : Nat) (sz : Int32) (f : Nat → Int32) (c0 : Int32) (c1 : Int32) (c2 : Int32) (c3 : Int32) (c4 : Int32) (c5 : Int32) (p0 : Int32) (p1 : Int32) (p2 : Int32) : Option (Int32 × Int32 × (Nat → Int32) × Int32 × Int32 × Int32) :=
  ((fX2_worthKnown N K K sz f c0 c1 c2 c3 c4 c5 p0 p1 p2 (0 : Int32)).bind (fun x7 => (some (x7.1, x7.2.1, x7.2.2.1, x7.2.2.2.1, x7.2.2.2.2.1, x7.2.2.2.2.2))))
set_option maxHeartbeats 4000000 in
set_option maxRecDepth 100000 in
theorem ok_X2_recall {N K : Nat} {h c a : Nat} {sz : Int32} {f : Nat → Int32} {c0 : Int32} {c1 : Int32} {c2 : Int32} {c3 : Int32} {c4 : Int32} {c5 : Int32} {p0 : Int32} {p1 : Int32} {p2 : Int32} {xr : Int32 × Int32 × (Nat → Int32) × Int32 × Int32 × Int32} (hE : fX2_recall N K sz f c0 c1 c2 c3 c4 c5 p0 p1 p2 = some xr) : OkM yX2_recall (.code yX2_recall cX2_recall 5 (some .int)) (2 * K + 7) 0 0 [.ref h, .int p0, .int p1, .int p2, .ref c] [(h, .inr (4, [.ref a, .int sz])), (a, .inl (0, 2646, .inl f)), (c, .inr (2, [.int c0, .int c1, .int c2, .int c3, .int c4, .int c5]))] ((PN (U := Int32 × Int32 × (Nat → Int32) × Int32 × Int32 × Int32) (fun zz _ => some (.int zz.1)) (fun zz ad => [(h, .inr (4, [.ref a, .int zz.2.1])), (a, .inl (0, 2646, .inl zz.2.2.1)), (c, .inr (2, [.int c0, .int zz.2.2.2.1, .int zz.2.2.2.2.1, .int zz.2.2.2.2.2, .int c4, .int c5]))])) xr) := by
  refine ok_of (by decide) (Nat.le_of_ble_eq_true rfl) hE ?_
  refine aw_locals (lv' := [(0, .ref h), (1, .int p0), (2, .int p1), (3, .int p2), (4, .ref c)]) [0, 1, 2, 3, 4] rfl ?_
  refine aw_aload_n (q := 1) gdX2_recall_0.1 rfl 0 rfl ?_
  refine aw_iload_n (q := 2) gdX2_recall_0.2.1 rfl 1 rfl ?_
  refine aw_iload_n (q := 3) gdX2_recall_0.2.2.1 rfl 2 rfl ?_
  refine aw_iload_n (q := 4) gdX2_recall_0.2.2.2.1 rfl 3 rfl ?_
  refine aw_aload (q := 6) gdX2_recall_0.2.2.2.2.1 rfl 4 rfl ?_
  refine aw_iconst (q := 7) (v := 0) gdX2_recall_0.2.2.2.2.2.1 rfl (by decide) ?_
  refine aw_call (q := 10) (kc1 := 0) (ks1 := 0) (wc := [(h, .inr (4, [.ref a, .int sz])), (a, .inl (0, 2646, .inl f)), (c, .inr (2, [.int c0, .int c1, .int c2, .int c3, .int c4, .int c5]))]) (wr := []) (st1 := fun x7 g7 => [.int x7.1]) (ws1 := fun x7 g7 => [(h, .inr (4, [.ref a, .int x7.2.1])), (a, .inl (0, 2646, .inl x7.2.2.1)), (c, .inr (2, [.int c0, .int x7.2.2.2.1, .int x7.2.2.2.2.1, .int x7.2.2.2.2.2, .int c4, .int c5]))]) (As := [.ref h, .int p0, .int p1, .int p2, .ref c, .int (0 : Int32)]) [0, 1, 2] [] (fun _ => runV (q0 := 0) gdX2_recall_0.2.2.2.2.2.2.1 mi_X2_worthKnown im_X2_worthKnown se_X2_worthKnown ml_X2_25 (by omega) rfl (Nat.le_of_ble_eq_true rfl) rfl rfl rfl rfl) (fun x9 h9 => ok_X2_worthKnown K _ _ _ _ _ _ _ _ _ _ _ _ _ _ _ x9 h9) rfl rfl rfl rfl rfl (by decide +kernel) (by omega) (by omega) (fun _ _ => rfl) (fun _ _ => rfl) (fun x7 g7 => ?_)
  exact aw_ireturn (w := [(h, .inr (4, [.ref a, .int x7.2.1])), (a, .inl (0, 2646, .inl x7.2.2.1)), (c, .inr (2, [.int c0, .int x7.2.2.2.1, .int x7.2.2.2.2.1, .int x7.2.2.2.2.2, .int c4, .int c5]))]) [0, 1, 2] gdX2_recall_0.2.2.2.2.2.2.2 rfl rfl rfl rfl (PN.mk (fun _ => 0) rfl rfl)
