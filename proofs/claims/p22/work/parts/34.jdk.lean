def fJ_newLength (N K : Nat) (p0 : Int32) (p1 : Int32) (p2 : Int32) : Option (Int32) :=
  (if (p0 + (if p1 < p2 then p2 else p1)) ≤ (0 : Int32) then none else (if (2147483639 : Int32) < (p0 + (if p1 < p2 then p2 else p1)) then none else (some (p0 + (if p1 < p2 then p2 else p1)))))
set_option maxHeartbeats 4000000 in
set_option maxRecDepth 100000 in
theorem ok_J_newLength {N K : Nat} {p0 : Int32} {p1 : Int32} {p2 : Int32} {xr : Int32} (hE : fJ_newLength N K p0 p1 p2 = some xr) : OkM yJ8_newLength_cabcc (.code yJ8_newLength_cabcc cJ8_newLength_cabcc 4 (some .int)) (1) 0 0 [.int p0, .int p1, .int p2] [] ((PN (U := Int32) (fun zz _ => some (.int zz)) (fun zz ad => [])) xr) := by
  refine ok_of (by decide) (Nat.le_of_ble_eq_true rfl) hE ?_
  refine aw_locals (lv' := [(0, .int p0), (1, .int p1), (2, .int p2)]) [0, 1, 2] rfl ?_
  refine aw_iload_n (q := 1) gdJ8_newLength_cabcc_0.1 rfl 0 rfl ?_
  refine aw_iload_n (q := 2) gdJ8_newLength_cabcc_0.2.1 rfl 1 rfl ?_
  refine aw_iload_n (q := 3) gdJ8_newLength_cabcc_0.2.2.1 rfl 2 rfl ?_
  refine aw_mmax (q := 6) gdJ8_newLength_cabcc_0.2.2.2.1 rfl ⟨mm_J8_194, ms_max, mi_Math, mc_max⟩ (by omega) (Nat.le_of_ble_eq_true rfl) ?_
  refine aw_iadd (q := 7) gdJ8_newLength_cabcc_0.2.2.2.2.1 rfl ?_
  refine aw_istore_n (q := 8) (lv' := [(3, .int (p0 + (if p1 < p2 then p2 else p1))), (0, .int p0), (1, .int p1), (2, .int p2)]) gdJ8_newLength_cabcc_0.2.2.2.2.2.1 rfl (by decide) rfl ?_
  refine aw_iconst (q := 9) (v := 0) gdJ8_newLength_cabcc_0.2.2.2.2.2.2.1 rfl (by decide) ?_
  refine aw_iload_n (q := 10) gdJ8_newLength_cabcc_0.2.2.2.2.2.2.2 rfl 0 rfl ?_
  refine aw_icmp_ge (tgt := 21) (q := 13) gdJ8_newLength_cabcc_10.1 (by decide) rfl (fun h_10 => ?_) (fun h_10 => ?_)
  · refine aw_iload_n (q := 22) gdJ8_newLength_cabcc_10.2.2.2.2.2.2.1 rfl 1 rfl ?_
    refine aw_iload_n (q := 23) gdJ8_newLength_cabcc_10.2.2.2.2.2.2.2 rfl 2 rfl ?_
    exact aw_none
  · refine aw_iload_n (q := 14) gdJ8_newLength_cabcc_10.2.1 rfl 0 rfl ?_
    refine aw_ldc (q := 16) gdJ8_newLength_cabcc_10.2.2.1 rfl co_J8_200 ?_
    refine aw_icmp_gt (tgt := 21) (q := 19) gdJ8_newLength_cabcc_10.2.2.2.1 (by decide) rfl (fun h_16 => ?_) (fun h_16 => ?_)
    · refine aw_iload_n (q := 22) gdJ8_newLength_cabcc_10.2.2.2.2.2.2.1 rfl 1 rfl ?_
      refine aw_iload_n (q := 23) gdJ8_newLength_cabcc_10.2.2.2.2.2.2.2 rfl 2 rfl ?_
      exact aw_none
    · refine aw_iload_n (q := 20) gdJ8_newLength_cabcc_10.2.2.2.2.1 rfl 0 rfl ?_
      exact aw_ireturn (w := []) [] gdJ8_newLength_cabcc_10.2.2.2.2.2.1 rfl rfl rfl rfl (PN.mk (fun _ => 0) rfl rfl)
def fJ_size_16 (N K : Nat) (p0 : Int32) : Nat → Int32 → Int32 → Int32 → Option (Int32)
  | 0, _, _, _ => none
  | fu + 1, l0, l2, l3 =>
    (if (10 : Int32) ≤ l3 then (some ((10 : Int32) + (1 : Int32))) else (if l0 ≤ l2 then fJ_size_16 N K p0  fu l0 ((10 : Int32) * l2) (l3 + (1 : Int32)) else (some (l3 + (1 : Int32)))))
set_option maxHeartbeats 4000000 in
set_option maxRecDepth 100000 in
theorem tJ_size_16 {N K : Nat} {p0 : Int32} : ∀ (fu : Nat) (l0 : Int32) (l2 : Int32) (l3 : Int32), AW RJ6 "stringSize" cJ6_stringSize_0f7a4 4 (some .int) [] (fun _ _ => True) (0) (PN (U := Int32) (fun zz _ => some (.int zz)) (fun zz ad => [])) 0 0 (fJ_size_16 N K p0  fu l0 l2 l3) 16 [(0, .int l0), (1, .int (1 : Int32)), (2, .int l2), (3, .int l3)] [] [] := by
  intro fu
  induction fu with
  | zero => intro l0 l2 l3; exact aw_none
  | succ fu ih =>
    intro l0 l2 l3
    refine aw_iload_n (q := 17) gdJ6_stringSize_0f7a4_10.2.2.2.2.2.1 rfl 3 rfl ?_
    refine aw_bipush (q := 19) (v := 10) gdJ6_stringSize_0f7a4_10.2.2.2.2.2.2.1 rfl (by decide) ?_
    refine aw_icmp_ge (tgt := 42) (q := 22) gdJ6_stringSize_0f7a4_10.2.2.2.2.2.2.2 (by decide) rfl (fun h_19 => ?_) (fun h_19 => ?_)
    · refine aw_bipush (q := 44) (v := 10) gdJ6_stringSize_0f7a4_33.2.2.2.2.2.1 rfl (by decide) ?_
      refine aw_iload_n (q := 45) gdJ6_stringSize_0f7a4_33.2.2.2.2.2.2.1 rfl 1 rfl ?_
      refine aw_iadd (q := 46) gdJ6_stringSize_0f7a4_33.2.2.2.2.2.2.2 rfl ?_
      exact aw_ireturn (w := []) [] dJ6_stringSize_0f7a4_46 rfl rfl rfl rfl (PN.mk (fun _ => 0) rfl rfl)
    · refine aw_iload_n (q := 23) gdJ6_stringSize_0f7a4_22.1 rfl 0 rfl ?_
      refine aw_iload_n (q := 24) gdJ6_stringSize_0f7a4_22.2.1 rfl 2 rfl ?_
      refine aw_icmp_le (tgt := 31) (q := 27) gdJ6_stringSize_0f7a4_22.2.2.1 (by decide) rfl (fun h_24 => ?_) (fun h_24 => ?_)
      · refine aw_bipush (q := 33) (v := 10) gdJ6_stringSize_0f7a4_22.2.2.2.2.2.2.2 rfl (by decide) ?_
        refine aw_iload_n (q := 34) gdJ6_stringSize_0f7a4_33.1 rfl 2 rfl ?_
        refine aw_imul (q := 35) gdJ6_stringSize_0f7a4_33.2.1 rfl ?_
        refine aw_istore_n (q := 36) (lv' := [(2, .int ((10 : Int32) * l2)), (0, .int l0), (1, .int (1 : Int32)), (3, .int l3)]) gdJ6_stringSize_0f7a4_33.2.2.1 rfl (by decide) rfl ?_
        refine aw_iinc (q := 39) (v := (l3 + (1 : Int32))) (lv' := [(3, .int (l3 + (1 : Int32))), (2, .int ((10 : Int32) * l2)), (0, .int l0), (1, .int (1 : Int32))]) gdJ6_stringSize_0f7a4_33.2.2.2.1 rfl 3 rfl rfl (by decide) rfl ?_
        refine aw_goto (tgt := 16) gdJ6_stringSize_0f7a4_33.2.2.2.2.1 (by decide) ?_
        refine aw_locals (lv' := [(0, .int l0), (1, .int (1 : Int32)), (2, .int ((10 : Int32) * l2)), (3, .int (l3 + (1 : Int32)))]) [2, 3, 1, 0] rfl ?_
        exact ih _ _ _
      · refine aw_iload_n (q := 28) gdJ6_stringSize_0f7a4_22.2.2.2.1 rfl 3 rfl ?_
        refine aw_iload_n (q := 29) gdJ6_stringSize_0f7a4_22.2.2.2.2.1 rfl 1 rfl ?_
        refine aw_iadd (q := 30) gdJ6_stringSize_0f7a4_22.2.2.2.2.2.1 rfl ?_
        exact aw_ireturn (w := []) [] gdJ6_stringSize_0f7a4_22.2.2.2.2.2.2.1 rfl rfl rfl rfl (PN.mk (fun _ => 0) rfl rfl)
def fJ_size_16v (N K : Nat) (p0 : Int32) : Nat → Int32 → Int32 → Int32 → Option (Int32)
  | 0, _, _, _ => none
  | fu + 1, l0, l2, l3 =>
    (if (10 : Int32) ≤ l3 then (some ((10 : Int32) + (0 : Int32))) else (if l0 ≤ l2 then fJ_size_16v N K p0  fu l0 ((10 : Int32) * l2) (l3 + (1 : Int32)) else (some (l3 + (0 : Int32)))))
set_option maxHeartbeats 4000000 in
set_option maxRecDepth 100000 in
theorem tJ_size_16v {N K : Nat} {p0 : Int32} : ∀ (fu : Nat) (l0 : Int32) (l2 : Int32) (l3 : Int32), AW RJ6 "stringSize" cJ6_stringSize_0f7a4 4 (some .int) [] (fun _ _ => True) (0) (PN (U := Int32) (fun zz _ => some (.int zz)) (fun zz ad => [])) 0 0 (fJ_size_16v N K p0  fu l0 l2 l3) 16 [(0, .int l0), (1, .int (0 : Int32)), (2, .int l2), (3, .int l3)] [] [] := by
  intro fu
  induction fu with
  | zero => intro l0 l2 l3; exact aw_none
  | succ fu ih =>
    intro l0 l2 l3
    refine aw_iload_n (q := 17) gdJ6_stringSize_0f7a4_10.2.2.2.2.2.1 rfl 3 rfl ?_
    refine aw_bipush (q := 19) (v := 10) gdJ6_stringSize_0f7a4_10.2.2.2.2.2.2.1 rfl (by decide) ?_
    refine aw_icmp_ge (tgt := 42) (q := 22) gdJ6_stringSize_0f7a4_10.2.2.2.2.2.2.2 (by decide) rfl (fun h_19 => ?_) (fun h_19 => ?_)
    · refine aw_bipush (q := 44) (v := 10) gdJ6_stringSize_0f7a4_33.2.2.2.2.2.1 rfl (by decide) ?_
      refine aw_iload_n (q := 45) gdJ6_stringSize_0f7a4_33.2.2.2.2.2.2.1 rfl 1 rfl ?_
      refine aw_iadd (q := 46) gdJ6_stringSize_0f7a4_33.2.2.2.2.2.2.2 rfl ?_
      exact aw_ireturn (w := []) [] dJ6_stringSize_0f7a4_46 rfl rfl rfl rfl (PN.mk (fun _ => 0) rfl rfl)
    · refine aw_iload_n (q := 23) gdJ6_stringSize_0f7a4_22.1 rfl 0 rfl ?_
      refine aw_iload_n (q := 24) gdJ6_stringSize_0f7a4_22.2.1 rfl 2 rfl ?_
      refine aw_icmp_le (tgt := 31) (q := 27) gdJ6_stringSize_0f7a4_22.2.2.1 (by decide) rfl (fun h_24 => ?_) (fun h_24 => ?_)
      · refine aw_bipush (q := 33) (v := 10) gdJ6_stringSize_0f7a4_22.2.2.2.2.2.2.2 rfl (by decide) ?_
        refine aw_iload_n (q := 34) gdJ6_stringSize_0f7a4_33.1 rfl 2 rfl ?_
        refine aw_imul (q := 35) gdJ6_stringSize_0f7a4_33.2.1 rfl ?_
        refine aw_istore_n (q := 36) (lv' := [(2, .int ((10 : Int32) * l2)), (0, .int l0), (1, .int (0 : Int32)), (3, .int l3)]) gdJ6_stringSize_0f7a4_33.2.2.1 rfl (by decide) rfl ?_
        refine aw_iinc (q := 39) (v := (l3 + (1 : Int32))) (lv' := [(3, .int (l3 + (1 : Int32))), (2, .int ((10 : Int32) * l2)), (0, .int l0), (1, .int (0 : Int32))]) gdJ6_stringSize_0f7a4_33.2.2.2.1 rfl 3 rfl rfl (by decide) rfl ?_
        refine aw_goto (tgt := 16) gdJ6_stringSize_0f7a4_33.2.2.2.2.1 (by decide) ?_
        refine aw_locals (lv' := [(0, .int l0), (1, .int (0 : Int32)), (2, .int ((10 : Int32) * l2)), (3, .int (l3 + (1 : Int32)))]) [2, 3, 1, 0] rfl ?_
        exact ih _ _ _
      · refine aw_iload_n (q := 28) gdJ6_stringSize_0f7a4_22.2.2.2.1 rfl 3 rfl ?_
        refine aw_iload_n (q := 29) gdJ6_stringSize_0f7a4_22.2.2.2.2.1 rfl 1 rfl ?_
        refine aw_iadd (q := 30) gdJ6_stringSize_0f7a4_22.2.2.2.2.2.1 rfl ?_
        exact aw_ireturn (w := []) [] gdJ6_stringSize_0f7a4_22.2.2.2.2.2.2.1 rfl rfl rfl rfl (PN.mk (fun _ => 0) rfl rfl)
def fJ_size (N K : Nat) (p0 : Int32) : Option (Int32) :=
  (if p0 < 0 then fJ_size_16 N K p0  N p0 (-10 : Int32) (1 : Int32) else fJ_size_16v N K p0  N (-p0) (-10 : Int32) (1 : Int32))
set_option maxHeartbeats 4000000 in
set_option maxRecDepth 100000 in
theorem ok_J_size {N K : Nat} {p0 : Int32} {xr : Int32} (hE : fJ_size N K p0 = some xr) : OkM yJ6_stringSize_0f7a4 (.code yJ6_stringSize_0f7a4 cJ6_stringSize_0f7a4 4 (some .int)) (0) 0 0 [.int p0] [] ((PN (U := Int32) (fun zz _ => some (.int zz)) (fun zz ad => [])) xr) := by
  refine ok_of (by decide) (Nat.le_of_ble_eq_true rfl) hE ?_
  refine aw_locals (lv' := [(0, .int p0)]) [0] rfl ?_
  refine aw_iconst (q := 1) (v := 1) gdJ6_stringSize_0f7a4_0.1 rfl (by decide) ?_
  refine aw_istore_n (q := 2) (lv' := [(1, .int (1 : Int32)), (0, .int p0)]) gdJ6_stringSize_0f7a4_0.2.1 rfl (by decide) rfl ?_
  refine aw_iload_n (q := 3) gdJ6_stringSize_0f7a4_0.2.2.1 rfl 1 rfl ?_
  refine aw_if_lt (tgt := 11) (q := 6) gdJ6_stringSize_0f7a4_0.2.2.2.1 (by decide) rfl (fun h_3 => ?_) (fun h_3 => ?_)
  · refine aw_bipush (q := 13) (v := (-10)) gdJ6_stringSize_0f7a4_10.2.1 rfl (by decide) ?_
    refine aw_istore_n (q := 14) (lv' := [(2, .int (-10 : Int32)), (1, .int (1 : Int32)), (0, .int p0)]) gdJ6_stringSize_0f7a4_10.2.2.1 rfl (by decide) rfl ?_
    refine aw_iconst (q := 15) (v := 1) gdJ6_stringSize_0f7a4_10.2.2.2.1 rfl (by decide) ?_
    refine aw_istore_n (q := 16) (lv' := [(3, .int (1 : Int32)), (2, .int (-10 : Int32)), (1, .int (1 : Int32)), (0, .int p0)]) gdJ6_stringSize_0f7a4_10.2.2.2.2.1 rfl (by decide) rfl ?_
    refine aw_locals (lv' := [(0, .int p0), (1, .int (1 : Int32)), (2, .int (-10 : Int32)), (3, .int (1 : Int32))]) [3, 2, 1, 0] rfl ?_
    exact tJ_size_16  N _ _ _
  · refine aw_iconst (q := 7) (v := 0) gdJ6_stringSize_0f7a4_0.2.2.2.2.1 rfl (by decide) ?_
    refine aw_istore_n (q := 8) (lv' := [(1, .int (0 : Int32)), (0, .int p0)]) gdJ6_stringSize_0f7a4_0.2.2.2.2.2.1 rfl (by decide) rfl ?_
    refine aw_iload_n (q := 9) gdJ6_stringSize_0f7a4_0.2.2.2.2.2.2.1 rfl 1 rfl ?_
    refine aw_ineg (q := 10) gdJ6_stringSize_0f7a4_0.2.2.2.2.2.2.2 rfl ?_
    refine aw_istore_n (q := 11) (lv' := [(0, .int (-p0)), (1, .int (0 : Int32))]) gdJ6_stringSize_0f7a4_10.1 rfl (by decide) rfl ?_
    refine aw_bipush (q := 13) (v := (-10)) gdJ6_stringSize_0f7a4_10.2.1 rfl (by decide) ?_
    refine aw_istore_n (q := 14) (lv' := [(2, .int (-10 : Int32)), (0, .int (-p0)), (1, .int (0 : Int32))]) gdJ6_stringSize_0f7a4_10.2.2.1 rfl (by decide) rfl ?_
    refine aw_iconst (q := 15) (v := 1) gdJ6_stringSize_0f7a4_10.2.2.2.1 rfl (by decide) ?_
    refine aw_istore_n (q := 16) (lv' := [(3, .int (1 : Int32)), (2, .int (-10 : Int32)), (0, .int (-p0)), (1, .int (0 : Int32))]) gdJ6_stringSize_0f7a4_10.2.2.2.2.1 rfl (by decide) rfl ?_
    refine aw_locals (lv' := [(0, .int (-p0)), (1, .int (0 : Int32)), (2, .int (-10 : Int32)), (3, .int (1 : Int32))]) [2, 3, 1, 0] rfl ?_
    exact tJ_size_16v  N _ _ _
def fJ_canEncode (N K : Nat) (p0 : Int32) : Option (Int32) :=
  (if (255 : Int32) < p0 then (some (0 : Int32)) else (some (1 : Int32)))
set_option maxHeartbeats 4000000 in
set_option maxRecDepth 100000 in
theorem ok_J_canEncode {N K : Nat} {p0 : Int32} {xr : Int32} (hE : fJ_canEncode N K p0 = some xr) : OkM yJ1_canEncode_fc78d (.code yJ1_canEncode_fc78d cJ1_canEncode_fc78d 1 (some .boolean)) (0) 0 0 [.int p0] [] ((PN (U := Int32) (fun zz _ => some (.int zz)) (fun zz ad => [])) xr) := by
  refine ok_of (by decide) (Nat.le_of_ble_eq_true rfl) hE ?_
  refine aw_locals (lv' := [(0, .int p0)]) [0] rfl ?_
  refine aw_iload_n (q := 1) gdJ1_canEncode_fc78d_0.1 rfl 0 rfl ?_
  refine aw_sipush (q := 4) (v := 255) gdJ1_canEncode_fc78d_0.2.1 rfl (by decide) ?_
  refine aw_icmp_gt (tgt := 11) (q := 7) gdJ1_canEncode_fc78d_0.2.2.1 (by decide) rfl (fun h_4 => ?_) (fun h_4 => ?_)
  · refine aw_iconst (q := 12) (v := 0) gdJ1_canEncode_fc78d_0.2.2.2.2.2.1 rfl (by decide) ?_
    exact aw_ireturn (w := []) [] gdJ1_canEncode_fc78d_0.2.2.2.2.2.2 rfl rfl rfl rfl (PN.mk (fun _ => 0) rfl rfl)
  · refine aw_iconst (q := 8) (v := 1) gdJ1_canEncode_fc78d_0.2.2.2.1 rfl (by decide) ?_
    refine aw_goto (tgt := 12) gdJ1_canEncode_fc78d_0.2.2.2.2.1 (by decide) ?_
    exact aw_ireturn (w := []) [] gdJ1_canEncode_fc78d_0.2.2.2.2.2.2 rfl rfl rfl rfl (PN.mk (fun _ => 0) rfl rfl)
def fJ_len (N K : Nat) (cnt : Int32) (n : Nat) (f : Nat → Int32) : Option (Int32) :=
  (some cnt)
set_option maxHeartbeats 4000000 in
set_option maxRecDepth 100000 in
theorem ok_J_len {N K : Nat} {b v : Nat} {cnt : Int32} {n : Nat} {f : Nat → Int32} {xr : Int32} (hE : fJ_len N K cnt n f = some xr) : OkM yJ5_length_8abf5 (.code yJ5_length_8abf5 cJ5_length_8abf5 1 (some .int)) (0) 0 0 [.ref b] [(b, .inr (1, [.ref v, .int (0 : Int32), .int (0 : Int32), .int cnt])), (v, .inl (5, n, .inl f))] ((PN (U := Int32) (fun zz _ => some (.int zz)) (fun zz ad => [(b, .inr (1, [.ref v, .int (0 : Int32), .int (0 : Int32), .int cnt])), (v, .inl (5, n, .inl f))])) xr) := by
  refine ok_of (by decide) (Nat.le_of_ble_eq_true rfl) hE ?_
  refine aw_locals (lv' := [(0, .ref b)]) [0] rfl ?_
  refine aw_aload_n (q := 1) gdJ5_length_8abf5_0.1 rfl 0 rfl ?_
  refine aw_get (q := 4) gdJ5_length_8abf5_0.2.1 rfl fl_J5_79 0 rfl rfl ?_
  exact aw_ireturn (w := [(b, .inr (1, [.ref v, .int (0 : Int32), .int (0 : Int32), .int cnt])), (v, .inl (5, n, .inl f))]) [0, 1] gdJ5_length_8abf5_0.2.2 rfl rfl rfl rfl (PN.mk (fun _ => 0) rfl rfl)
def fJ_length (N K : Nat) (cnt : Int32) (n : Nat) (f : Nat → Int32) : Option (Int32) :=
  ((fJ_len N K cnt n f).bind (fun x1 => (some x1)))
set_option maxHeartbeats 4000000 in
set_option maxRecDepth 100000 in
theorem ok_J_length {N K : Nat} {b v : Nat} {cnt : Int32} {n : Nat} {f : Nat → Int32} {xr : Int32} (hE : fJ_length N K cnt n f = some xr) : OkM yJ4_length_8abf5 (.code yJ4_length_8abf5 cJ4_length_8abf5 1 (some .int)) (1) 0 0 [.ref b] [(b, .inr (1, [.ref v, .int (0 : Int32), .int (0 : Int32), .int cnt])), (v, .inl (5, n, .inl f))] ((PN (U := Int32) (fun zz _ => some (.int zz)) (fun zz ad => [(b, .inr (1, [.ref v, .int (0 : Int32), .int (0 : Int32), .int cnt])), (v, .inl (5, n, .inl f))])) xr) := by
  refine ok_of (by decide) (Nat.le_of_ble_eq_true rfl) hE ?_
  refine aw_locals (lv' := [(0, .ref b)]) [0] rfl ?_
  refine aw_aload_n (q := 1) gdJ4_length_8abf5_0.1 rfl 0 rfl ?_
  refine aw_call (q := 4) (kc1 := 0) (ks1 := 0) (wc := [(b, .inr (1, [.ref v, .int (0 : Int32), .int (0 : Int32), .int cnt])), (v, .inl (5, n, .inl f))]) (wr := []) (st1 := fun x1 g1 => [.int x1]) (ws1 := fun x1 g1 => [(b, .inr (1, [.ref v, .int (0 : Int32), .int (0 : Int32), .int cnt])), (v, .inl (5, n, .inl f))]) (As := [.ref b]) [0, 1] [] (fun _ => runSU (q0 := 0) gdJ4_length_8abf5_0.2.1 mi_J5_length_8abf5 (by decide) im_J5_length_8abf5 sm_J5_length_8abf5 sp_J4_J5 ml_J4_343 (by omega) rfl (Nat.le_of_ble_eq_true rfl) rfl rfl rfl) (fun x9 h9 => ok_J_len h9) rfl rfl rfl rfl rfl (by decide +kernel) (by omega) (by omega) (fun _ _ => rfl) (fun _ _ => rfl) (fun x1 g1 => ?_)
  exact aw_ireturn (w := [(b, .inr (1, [.ref v, .int (0 : Int32), .int (0 : Int32), .int cnt])), (v, .inl (5, n, .inl f))]) [0, 1] gdJ4_length_8abf5_0.2.2 rfl rfl rfl rfl (PN.mk (fun _ => 0) rfl rfl)
def fJ_isLatin1 (N K : Nat) (cnt : Int32) (n : Nat) (f : Nat → Int32) : Option (Int32) :=
  (some (1 : Int32))
set_option maxHeartbeats 4000000 in
set_option maxRecDepth 100000 in
theorem ok_J_isLatin1 {N K : Nat} {b v : Nat} {cnt : Int32} {n : Nat} {f : Nat → Int32} {xr : Int32} (hE : fJ_isLatin1 N K cnt n f = some xr) : OkM yJ5_isLatin1_aae02 (.code yJ5_isLatin1_aae02 cJ5_isLatin1_aae02 1 (some .boolean)) (0) 0 0 [.ref b] [(b, .inr (1, [.ref v, .int (0 : Int32), .int (0 : Int32), .int cnt])), (v, .inl (5, n, .inl f))] ((PN (U := Int32) (fun zz _ => some (.int zz)) (fun zz ad => [(b, .inr (1, [.ref v, .int (0 : Int32), .int (0 : Int32), .int cnt])), (v, .inl (5, n, .inl f))])) xr) := by
  refine ok_of (by decide) (Nat.le_of_ble_eq_true rfl) hE ?_
  refine aw_locals (lv' := [(0, .ref b)]) [0] rfl ?_
  refine aw_getsC (q := 3) gdJ5_isLatin1_aae02_0.1 rfl gs_J5_18 ?_
  refine aw_if_eqF (q := 6) (off := 14) (tgt := 17) gdJ5_isLatin1_aae02_0.2.1 (by decide) rfl (by decide) ?_
  refine aw_aload_n (q := 7) gdJ5_isLatin1_aae02_0.2.2.1 rfl 0 rfl ?_
  refine aw_get (q := 10) gdJ5_isLatin1_aae02_0.2.2.2.1 rfl fl_J5_22 0 rfl rfl ?_
  refine aw_if_neF (q := 13) (off := 7) (tgt := 17) gdJ5_isLatin1_aae02_0.2.2.2.2.1 (by decide) rfl (by decide) ?_
  refine aw_iconst (q := 14) (v := 1) gdJ5_isLatin1_aae02_0.2.2.2.2.2.1 rfl (by decide) ?_
  refine aw_goto (tgt := 18) gdJ5_isLatin1_aae02_0.2.2.2.2.2.2.1 (by decide) ?_
  exact aw_ireturn (w := [(b, .inr (1, [.ref v, .int (0 : Int32), .int (0 : Int32), .int cnt])), (v, .inl (5, n, .inl f))]) [0, 1] gdJ5_isLatin1_aae02_0.2.2.2.2.2.2.2 rfl rfl rfl rfl (PN.mk (fun _ => 0) rfl rfl)
def fJ_getValue (N K : Nat) (cnt : Int32) (n : Nat) (f : Nat → Int32) : Option (Unit) :=
  (some ())
set_option maxHeartbeats 4000000 in
set_option maxRecDepth 100000 in
theorem ok_J_getValue {N K : Nat} {b v : Nat} {cnt : Int32} {n : Nat} {f : Nat → Int32} {xr : Unit} (hE : fJ_getValue N K cnt n f = some xr) : OkM yJ5_getValue_6d5f1 (.code yJ5_getValue_6d5f1 cJ5_getValue_6d5f1 1 (some (.array .byte))) (0) 0 0 [.ref b] [(b, .inr (1, [.ref v, .int (0 : Int32), .int (0 : Int32), .int cnt])), (v, .inl (5, n, .inl f))] ((PN (U := Unit) (fun _ _ => some (.ref v)) (fun zz ad => [(b, .inr (1, [.ref v, .int (0 : Int32), .int (0 : Int32), .int cnt])), (v, .inl (5, n, .inl f))])) xr) := by
  refine ok_of (by decide) (Nat.le_of_ble_eq_true rfl) hE ?_
  refine aw_locals (lv' := [(0, .ref b)]) [0] rfl ?_
  refine aw_aload_n (q := 1) gdJ5_getValue_6d5f1_0.1 rfl 0 rfl ?_
  refine aw_get (q := 4) gdJ5_getValue_6d5f1_0.2.1 rfl fl_J5_15 0 rfl rfl ?_
  exact aw_areturn (w := [(b, .inr (1, [.ref v, .int (0 : Int32), .int (0 : Int32), .int cnt])), (v, .inl (5, n, .inl f))]) [0, 1] gdJ5_getValue_6d5f1_0.2.2 rfl (Or.inr ⟨_, rfl⟩) rfl rfl (PN.mk (fun _ => 0) rfl rfl)
def fJ_copyOf (N K : Nat) (n : Nat) (f : Nat → Int32) (p0 : Int32) : Option (Nat × (Nat → Int32)) :=
  (if p0 = (Int32.ofNat n) then (if 80 < n ∨ ¬ ∀ i, i < n → fits .byte (.int (f i)) = true then none else (some (n, f))) else (if p0 < 0 ∨ 80 < p0.toNatClampNeg then none else (if (0 : Int32) < 0 ∨ (0 : Int32) < 0 ∨ (if p0 < (Int32.ofNat n) then p0 else (Int32.ofNat n)) < 0 ∨ n < (0 : Int32).toNatClampNeg + (if p0 < (Int32.ofNat n) then p0 else (Int32.ofNat n)).toNatClampNeg ∨ p0.toNatClampNeg < (0 : Int32).toNatClampNeg + (if p0 < (Int32.ofNat n) then p0 else (Int32.ofNat n)).toNatClampNeg ∨ ¬ ∀ i, i < (if p0 < (Int32.ofNat n) then p0 else (Int32.ofNat n)).toNatClampNeg → fits .byte (.int (f ((0 : Int32).toNatClampNeg + i))) = true then none else (some (p0.toNatClampNeg, (va_cpy f (fun _ => 0) (0 : Int32).toNatClampNeg (0 : Int32).toNatClampNeg (if p0 < (Int32.ofNat n) then p0 else (Int32.ofNat n)).toNatClampNeg))))))
set_option maxHeartbeats 4000000 in
set_option maxRecDepth 100000 in
theorem ok_J_copyOf {N K : Nat} {a : Nat} {n : Nat} {f : Nat → Int32} {p0 : Int32} {xr : Nat × (Nat → Int32)} (hE : fJ_copyOf N K n f p0 = some xr) : OkM yJ7_copyOf_9075b (.code yJ7_copyOf_9075b cJ7_copyOf_9075b 3 (some (.array .byte))) (2) 1 80 [.ref a, .int p0] [(a, .inl (5, n, .inl f))] ((PN (U := Nat × (Nat → Int32)) (fun _ ad => some (.ref (ad 0))) (fun zz ad => [(a, .inl (5, n, .inl f)), ((ad 0), .inl (5, zz.1, .inl zz.2))])) xr) := by
  refine ok_of (by decide) (Nat.le_of_ble_eq_true rfl) hE ?_
  refine aw_locals (lv' := [(0, .ref a), (1, .int p0)]) [0, 1] rfl ?_
  refine aw_iload_n (q := 1) gdJ7_copyOf_9075b_0.1 rfl 1 rfl ?_
  refine aw_aload_n (q := 2) gdJ7_copyOf_9075b_0.2.1 rfl 0 rfl ?_
  refine aw_alen (q := 3) (v := (Int32.ofNat n)) gdJ7_copyOf_9075b_0.2.2.1 rfl 0 rfl (by decide) rfl ?_
  refine aw_icmp_ne (tgt := 14) (q := 6) gdJ7_copyOf_9075b_0.2.2.2.1 (by decide) rfl (fun h_3 => ?_) (fun h_3 => ?_)
  · refine aw_iload_n (q := 15) gdJ7_copyOf_9075b_14.1 rfl 1 rfl ?_
    refine aw_newB (q := 17) (B := 80) (kc' := 0) (ks' := 0) (ws' := fun r15 => [(a, .inl (5, n, .inl f)), (r15, .inl (5, p0.toNatClampNeg, .inl (fun _ => 0)))]) gdJ7_copyOf_9075b_14.2.1 rfl ac_byte (by decide) (by omega) (by omega) (fun _ => rfl) (fun r15 => ?_)
    refine aw_astore_n (q := 18) (lv' := [(2, .ref r15), (0, .ref a), (1, .int p0)]) gdJ7_copyOf_9075b_14.2.2.1 rfl (by decide) rfl ?_
    refine aw_aload_n (q := 19) gdJ7_copyOf_9075b_14.2.2.2.1 rfl 1 rfl ?_
    refine aw_iconst (q := 20) (v := 0) gdJ7_copyOf_9075b_14.2.2.2.2.1 rfl (by decide) ?_
    refine aw_aload_n (q := 21) gdJ7_copyOf_9075b_14.2.2.2.2.2.1 rfl 0 rfl ?_
    refine aw_iconst (q := 22) (v := 0) gdJ7_copyOf_9075b_14.2.2.2.2.2.2.1 rfl (by decide) ?_
    refine aw_aload_n (q := 23) gdJ7_copyOf_9075b_14.2.2.2.2.2.2.2 rfl 1 rfl ?_
    refine aw_alen (q := 24) (v := (Int32.ofNat n)) gdJ7_copyOf_9075b_23.1 rfl 0 rfl (by decide) rfl ?_
    refine aw_iload_n (q := 25) gdJ7_copyOf_9075b_23.2.1 rfl 2 rfl ?_
    refine aw_mmin (q := 28) gdJ7_copyOf_9075b_23.2.2.1 rfl ⟨mm_J7_304, ms_min, mi_Math, mc_min⟩ (by omega) (Nat.le_of_ble_eq_true rfl) ?_
    refine aw_copyB (q := 31) (ws' := [(a, .inl (5, n, .inl f)), (r15, .inl (5, p0.toNatClampNeg, .inl (va_cpy f (fun _ => 0) (0 : Int32).toNatClampNeg (0 : Int32).toNatClampNeg (if p0 < (Int32.ofNat n) then p0 else (Int32.ofNat n)).toNatClampNeg)))]) gdJ7_copyOf_9075b_23.2.2.2.1 rfl ml_J7_150 w_ac (by omega) (Nat.le_of_ble_eq_true rfl) 0 1 rfl rfl rfl ?_
    refine aw_aload_n (q := 32) gdJ7_copyOf_9075b_23.2.2.2.2.1 rfl 0 rfl ?_
    exact aw_areturn (w := [(a, .inl (5, n, .inl f)), (r15, .inl (5, p0.toNatClampNeg, .inl (va_cpy f (fun _ => 0) (0 : Int32).toNatClampNeg (0 : Int32).toNatClampNeg (if p0 < (Int32.ofNat n) then p0 else (Int32.ofNat n)).toNatClampNeg)))]) [0, 1] gdJ7_copyOf_9075b_23.2.2.2.2.2 rfl (Or.inr ⟨_, rfl⟩) rfl rfl (PN.mk (fun j => if j = 0 then r15 else 0) rfl rfl)
  · refine aw_aload_n (q := 7) gdJ7_copyOf_9075b_0.2.2.2.2.1 rfl 0 rfl ?_
    refine aw_cloneB (q := 13) (B := 80) (kc' := 0) (ks' := 0) (ws' := fun r7 => [(a, .inl (5, n, .inl f)), (r7, .inl (5, n, .inl f))]) gdJ7_copyOf_9075b_0.2.2.2.2.2.1 gdJ7_copyOf_9075b_0.2.2.2.2.2.2.1 rfl w_cl (by omega) (Nat.le_of_ble_eq_true rfl) 0 rfl (by omega) (by omega) (fun _ => rfl) (fun r7 => ?_)
    exact aw_areturn (w := [(a, .inl (5, n, .inl f)), (r7, .inl (5, n, .inl f))]) [0, 1] gdJ7_copyOf_9075b_0.2.2.2.2.2.2.2 rfl (Or.inr ⟨_, rfl⟩) rfl rfl (PN.mk (fun j => if j = 0 then r7 else 0) rfl rfl)
def fJ_checkLength (N K : Nat) (p0 : Int32) (p1 : Int32) : Option (Unit) :=
  (if p0 ≤ p1 then (some ()) else none)
set_option maxHeartbeats 4000000 in
set_option maxRecDepth 100000 in
theorem ok_J_checkLength {N K : Nat} {p0 : Int32} {p1 : Int32} {xr : Unit} (hE : fJ_checkLength N K p0 p1 = some xr) : OkM yJ7_checkLength_df160 (.code yJ7_checkLength_df160 cJ7_checkLength_df160 2 none) (0) 0 0 [.int p0, .int p1] [] ((PN (U := Unit) (fun _ _ => none) (fun zz ad => [])) xr) := by
  refine ok_of (by decide) (Nat.le_of_ble_eq_true rfl) hE ?_
  refine aw_locals (lv' := [(0, .int p0), (1, .int p1)]) [0, 1] rfl ?_
  refine aw_iload_n (q := 1) gdJ7_checkLength_df160_0.1 rfl 1 rfl ?_
  refine aw_iload_n (q := 2) gdJ7_checkLength_df160_0.2.1 rfl 0 rfl ?_
  refine aw_icmp_ge (tgt := 37) (q := 5) gdJ7_checkLength_df160_0.2.2.1 (by decide) rfl (fun h_2 => ?_) (fun h_2 => ?_)
  · exact aw_return (w := []) [] gdJ7_checkLength_df160_0.2.2.2 rfl rfl rfl (PN.mk (fun _ => 0) rfl rfl)
  · exact aw_none
def fJ_copyOfRangeByte (N K : Nat) (n : Nat) (f : Nat → Int32) (p0 : Int32) (p1 : Int32) : Option (Nat × (Nat → Int32)) :=
  ((fJ_checkLength N K p0 p1).bind (fun x2 => (if (p1 - p0) < 0 ∨ 80 < (p1 - p0).toNatClampNeg then none else (if p0 < 0 ∨ (0 : Int32) < 0 ∨ (if (p1 - p0) < ((Int32.ofNat n) - p0) then (p1 - p0) else ((Int32.ofNat n) - p0)) < 0 ∨ n < p0.toNatClampNeg + (if (p1 - p0) < ((Int32.ofNat n) - p0) then (p1 - p0) else ((Int32.ofNat n) - p0)).toNatClampNeg ∨ ((p1 - p0).toNatClampNeg) < (0 : Int32).toNatClampNeg + (if (p1 - p0) < ((Int32.ofNat n) - p0) then (p1 - p0) else ((Int32.ofNat n) - p0)).toNatClampNeg ∨ ¬ ∀ i, i < (if (p1 - p0) < ((Int32.ofNat n) - p0) then (p1 - p0) else ((Int32.ofNat n) - p0)).toNatClampNeg → fits .byte (.int (f (p0.toNatClampNeg + i))) = true then none else (some ((p1 - p0).toNatClampNeg, (va_cpy f (fun _ => 0) p0.toNatClampNeg (0 : Int32).toNatClampNeg (if (p1 - p0) < ((Int32.ofNat n) - p0) then (p1 - p0) else ((Int32.ofNat n) - p0)).toNatClampNeg)))))))
set_option maxHeartbeats 4000000 in
set_option maxRecDepth 100000 in
theorem ok_J_copyOfRangeByte {N K : Nat} {a : Nat} {n : Nat} {f : Nat → Int32} {p0 : Int32} {p1 : Int32} {xr : Nat × (Nat → Int32)} (hE : fJ_copyOfRangeByte N K n f p0 p1 = some xr) : OkM yJ7_copyOfRangeByte_39247 (.code yJ7_copyOfRangeByte_39247 cJ7_copyOfRangeByte_39247 5 (some (.array .byte))) (2) 1 80 [.ref a, .int p0, .int p1] [(a, .inl (5, n, .inl f))] ((PN (U := Nat × (Nat → Int32)) (fun _ ad => some (.ref (ad 0))) (fun zz ad => [(a, .inl (5, n, .inl f)), ((ad 0), .inl (5, zz.1, .inl zz.2))])) xr) := by
  refine ok_of (by decide) (Nat.le_of_ble_eq_true rfl) hE ?_
  refine aw_locals (lv' := [(0, .ref a), (1, .int p0), (2, .int p1)]) [0, 1, 2] rfl ?_
  refine aw_iload_n (q := 1) gdJ7_copyOfRangeByte_39247_0.1 rfl 1 rfl ?_
  refine aw_iload_n (q := 2) gdJ7_copyOfRangeByte_39247_0.2.1 rfl 2 rfl ?_
  refine aw_call (q := 5) (kc1 := 1) (ks1 := 80) (wc := []) (wr := [(a, .inl (5, n, .inl f))]) (st1 := fun x2 g2 => []) (ws1 := fun x2 g2 => [(a, .inl (5, n, .inl f))]) (As := [.int p0, .int p1]) [] [0] (fun _ => runS gdJ7_copyOfRangeByte_39247_0.2.2.1 mi_J7_checkLength_df160 st_J7_checkLength_df160 ml_J7_343 (by omega) rfl (Nat.le_of_ble_eq_true rfl) rfl) (fun x9 h9 => ok_J_checkLength h9) rfl rfl rfl rfl rfl (by decide +kernel) (by omega) (by omega) (fun _ _ => rfl) (fun _ _ => rfl) (fun x2 g2 => ?_)
  refine aw_iload_n (q := 6) gdJ7_copyOfRangeByte_39247_0.2.2.2.1 rfl 2 rfl ?_
  refine aw_iload_n (q := 7) gdJ7_copyOfRangeByte_39247_0.2.2.2.2.1 rfl 1 rfl ?_
  refine aw_isub (q := 8) gdJ7_copyOfRangeByte_39247_0.2.2.2.2.2.1 rfl ?_
  refine aw_istore_n (q := 9) (lv' := [(3, .int (p1 - p0)), (0, .ref a), (1, .int p0), (2, .int p1)]) gdJ7_copyOfRangeByte_39247_0.2.2.2.2.2.2.1 rfl (by decide) rfl ?_
  refine aw_iload_n (q := 10) gdJ7_copyOfRangeByte_39247_0.2.2.2.2.2.2.2 rfl 0 rfl ?_
  refine aw_newB (q := 12) (B := 80) (kc' := 0) (ks' := 0) (ws' := fun r10 => [(a, .inl (5, n, .inl f)), (r10, .inl (5, ((p1 - p0).toNatClampNeg), .inl (fun _ => 0)))]) gdJ7_copyOfRangeByte_39247_10.1 rfl ac_byte (by decide) (by omega) (by omega) (fun _ => rfl) (fun r10 => ?_)
  refine aw_astore (q := 14) (lv' := [(4, .ref r10), (3, .int (p1 - p0)), (0, .ref a), (1, .int p0), (2, .int p1)]) gdJ7_copyOfRangeByte_39247_10.2.1 rfl (by decide) rfl ?_
  refine aw_aload_n (q := 15) gdJ7_copyOfRangeByte_39247_10.2.2.1 rfl 2 rfl ?_
  refine aw_iload_n (q := 16) gdJ7_copyOfRangeByte_39247_10.2.2.2.1 rfl 3 rfl ?_
  refine aw_aload (q := 18) gdJ7_copyOfRangeByte_39247_10.2.2.2.2.1 rfl 0 rfl ?_
  refine aw_iconst (q := 19) (v := 0) gdJ7_copyOfRangeByte_39247_10.2.2.2.2.2.1 rfl (by decide) ?_
  refine aw_aload_n (q := 20) gdJ7_copyOfRangeByte_39247_10.2.2.2.2.2.2.1 rfl 2 rfl ?_
  refine aw_alen (q := 21) (v := (Int32.ofNat n)) gdJ7_copyOfRangeByte_39247_10.2.2.2.2.2.2.2 rfl 0 rfl (by decide) rfl ?_
  refine aw_iload_n (q := 22) gdJ7_copyOfRangeByte_39247_21.1 rfl 3 rfl ?_
  refine aw_isub (q := 23) gdJ7_copyOfRangeByte_39247_21.2.1 rfl ?_
  refine aw_iload_n (q := 24) gdJ7_copyOfRangeByte_39247_21.2.2.1 rfl 1 rfl ?_
  refine aw_mmin (q := 27) gdJ7_copyOfRangeByte_39247_21.2.2.2.1 rfl ⟨mm_J7_304, ms_min, mi_Math, mc_min⟩ (by omega) (Nat.le_of_ble_eq_true rfl) ?_
  refine aw_copyB (q := 30) (ws' := [(a, .inl (5, n, .inl f)), (r10, .inl (5, ((p1 - p0).toNatClampNeg), .inl (va_cpy f (fun _ => 0) p0.toNatClampNeg (0 : Int32).toNatClampNeg (if (p1 - p0) < ((Int32.ofNat n) - p0) then (p1 - p0) else ((Int32.ofNat n) - p0)).toNatClampNeg)))]) gdJ7_copyOfRangeByte_39247_21.2.2.2.2.1 rfl ml_J7_150 w_ac (by omega) (Nat.le_of_ble_eq_true rfl) 0 1 rfl rfl rfl ?_
  refine aw_aload (q := 32) gdJ7_copyOfRangeByte_39247_21.2.2.2.2.2.1 rfl 0 rfl ?_
  exact aw_areturn (w := [(a, .inl (5, n, .inl f)), (r10, .inl (5, ((p1 - p0).toNatClampNeg), .inl (va_cpy f (fun _ => 0) p0.toNatClampNeg (0 : Int32).toNatClampNeg (if (p1 - p0) < ((Int32.ofNat n) - p0) then (p1 - p0) else ((Int32.ofNat n) - p0)).toNatClampNeg)))]) [0, 1] gdJ7_copyOfRangeByte_39247_21.2.2.2.2.2.2 rfl (Or.inr ⟨_, rfl⟩) rfl rfl (PN.mk (fun j => if j = 0 then r10 else 0) rfl rfl)
def fJ_copyOfRange (N K : Nat) (n : Nat) (f : Nat → Int32) (p0 : Int32) (p1 : Int32) : Option (Nat × (Nat → Int32)) :=
  (if p0 = 0 then (if p1 = (Int32.ofNat n) then (if 80 < n ∨ ¬ ∀ i, i < n → fits .byte (.int (f i)) = true then none else (some (n, f))) else ((fJ_copyOfRangeByte N K n f p0 p1).bind (fun x13_1 => (some (x13_1.1, x13_1.2))))) else ((fJ_copyOfRangeByte N K n f p0 p1).bind (fun x13 => (some (x13.1, x13.2)))))
set_option maxHeartbeats 4000000 in
set_option maxRecDepth 100000 in
theorem ok_J_copyOfRange {N K : Nat} {a : Nat} {n : Nat} {f : Nat → Int32} {p0 : Int32} {p1 : Int32} {xr : Nat × (Nat → Int32)} (hE : fJ_copyOfRange N K n f p0 p1 = some xr) : OkM yJ7_copyOfRange_39247 (.code yJ7_copyOfRange_39247 cJ7_copyOfRange_39247 3 (some (.array .byte))) (3) 1 80 [.ref a, .int p0, .int p1] [(a, .inl (5, n, .inl f))] ((PN (U := Nat × (Nat → Int32)) (fun _ ad => some (.ref (ad 0))) (fun zz ad => [(a, .inl (5, n, .inl f)), ((ad 0), .inl (5, zz.1, .inl zz.2))])) xr) := by
  refine ok_of (by decide) (Nat.le_of_ble_eq_true rfl) hE ?_
  refine aw_locals (lv' := [(0, .ref a), (1, .int p0), (2, .int p1)]) [0, 1, 2] rfl ?_
  refine aw_iload_n (q := 1) gdJ7_copyOfRange_39247_0.1 rfl 1 rfl ?_
  refine aw_if_ne (tgt := 10) (q := 4) gdJ7_copyOfRange_39247_0.2.1 (by decide) rfl (fun h_1 => ?_) (fun h_1 => ?_)
  · refine aw_aload_n (q := 11) gdJ7_copyOfRange_39247_0.2.2.2.2.2.2.1 rfl 0 rfl ?_
    refine aw_iload_n (q := 12) gdJ7_copyOfRange_39247_0.2.2.2.2.2.2.2 rfl 1 rfl ?_
    refine aw_iload_n (q := 13) gdJ7_copyOfRange_39247_12.1 rfl 2 rfl ?_
    refine aw_call (q := 16) (kc1 := 0) (ks1 := 0) (wc := [(a, .inl (5, n, .inl f))]) (wr := []) (st1 := fun x13 g13 => [.ref (g13 0)]) (ws1 := fun x13 g13 => [(a, .inl (5, n, .inl f)), ((g13 0), .inl (5, x13.1, .inl x13.2))]) (As := [.ref a, .int p0, .int p1]) [0] [] (fun _ => runS gdJ7_copyOfRange_39247_12.2.1 mi_J7_copyOfRangeByte_39247 st_J7_copyOfRangeByte_39247 ml_J7_339 (by omega) rfl (Nat.le_of_ble_eq_true rfl) rfl) (fun x9 h9 => ok_J_copyOfRangeByte h9) rfl rfl rfl rfl rfl (by decide +kernel) (by omega) (by omega) (fun _ _ => rfl) (fun _ _ => rfl) (fun x13 g13 => ?_)
    exact aw_areturn (w := [(a, .inl (5, n, .inl f)), ((g13 0), .inl (5, x13.1, .inl x13.2))]) [0, 1] gdJ7_copyOfRange_39247_12.2.2.1 rfl (Or.inr ⟨_, rfl⟩) rfl rfl (PN.mk (fun j => if j = 0 then (g13 0) else 0) rfl rfl)
  · refine aw_iload_n (q := 5) gdJ7_copyOfRange_39247_0.2.2.1 rfl 2 rfl ?_
    refine aw_aload_n (q := 6) gdJ7_copyOfRange_39247_0.2.2.2.1 rfl 0 rfl ?_
    refine aw_alen (q := 7) (v := (Int32.ofNat n)) gdJ7_copyOfRange_39247_0.2.2.2.2.1 rfl 0 rfl (by decide) rfl ?_
    refine aw_icmp_eq (tgt := 17) (q := 10) gdJ7_copyOfRange_39247_0.2.2.2.2.2.1 (by decide) rfl (fun h_7 => ?_) (fun h_7 => ?_)
    · refine aw_aload_n (q := 18) gdJ7_copyOfRange_39247_12.2.2.2.1 rfl 0 rfl ?_
      refine aw_cloneB (q := 24) (B := 80) (kc' := 0) (ks' := 0) (ws' := fun r18 => [(a, .inl (5, n, .inl f)), (r18, .inl (5, n, .inl f))]) gdJ7_copyOfRange_39247_12.2.2.2.2.1 gdJ7_copyOfRange_39247_12.2.2.2.2.2.1 rfl w_cl (by omega) (Nat.le_of_ble_eq_true rfl) 0 rfl (by omega) (by omega) (fun _ => rfl) (fun r18 => ?_)
      exact aw_areturn (w := [(a, .inl (5, n, .inl f)), (r18, .inl (5, n, .inl f))]) [0, 1] gdJ7_copyOfRange_39247_12.2.2.2.2.2.2 rfl (Or.inr ⟨_, rfl⟩) rfl rfl (PN.mk (fun j => if j = 0 then r18 else 0) rfl rfl)
    · refine aw_aload_n (q := 11) gdJ7_copyOfRange_39247_0.2.2.2.2.2.2.1 rfl 0 rfl ?_
      refine aw_iload_n (q := 12) gdJ7_copyOfRange_39247_0.2.2.2.2.2.2.2 rfl 1 rfl ?_
      refine aw_iload_n (q := 13) gdJ7_copyOfRange_39247_12.1 rfl 2 rfl ?_
      refine aw_call (q := 16) (kc1 := 0) (ks1 := 0) (wc := [(a, .inl (5, n, .inl f))]) (wr := []) (st1 := fun x13_1 g13_1 => [.ref (g13_1 0)]) (ws1 := fun x13_1 g13_1 => [(a, .inl (5, n, .inl f)), ((g13_1 0), .inl (5, x13_1.1, .inl x13_1.2))]) (As := [.ref a, .int p0, .int p1]) [0] [] (fun _ => runS gdJ7_copyOfRange_39247_12.2.1 mi_J7_copyOfRangeByte_39247 st_J7_copyOfRangeByte_39247 ml_J7_339 (by omega) rfl (Nat.le_of_ble_eq_true rfl) rfl) (fun x9 h9 => ok_J_copyOfRangeByte h9) rfl rfl rfl rfl rfl (by decide +kernel) (by omega) (by omega) (fun _ _ => rfl) (fun _ _ => rfl) (fun x13_1 g13_1 => ?_)
      exact aw_areturn (w := [(a, .inl (5, n, .inl f)), ((g13_1 0), .inl (5, x13_1.1, .inl x13_1.2))]) [0, 1] gdJ7_copyOfRange_39247_12.2.2.1 rfl (Or.inr ⟨_, rfl⟩) rfl rfl (PN.mk (fun j => if j = 0 then (g13_1 0) else 0) rfl rfl)
def fJ_newCapacity (N K : Nat) (cnt : Int32) (n : Nat) (f : Nat → Int32) (p0 : Int32) : Option (Int32) :=
  ((fJ_newLength N K (Int32.ofNat n) ((p0 <<< ((0 : Int32) &&& (31 : Int32))) - (Int32.ofNat n)) ((Int32.ofNat n) + ((2 : Int32) <<< ((0 : Int32) &&& (31 : Int32))))).bind (fun x29 => (if x29 = (2147483647 : Int32) then none else (some (x29 >>> ((0 : Int32) &&& (31 : Int32)))))))
set_option maxHeartbeats 4000000 in
set_option maxRecDepth 100000 in
theorem ok_J_newCapacity {N K : Nat} {b v : Nat} {cnt : Int32} {n : Nat} {f : Nat → Int32} {p0 : Int32} {xr : Int32} (hE : fJ_newCapacity N K cnt n f p0 = some xr) : OkM yJ5_newCapacity_0f7a4 (.code yJ5_newCapacity_0f7a4 cJ5_newCapacity_0f7a4 6 (some .int)) (2) 0 0 [.ref b, .int p0] [(b, .inr (1, [.ref v, .int (0 : Int32), .int (0 : Int32), .int cnt])), (v, .inl (5, n, .inl f))] ((PN (U := Int32) (fun zz _ => some (.int zz)) (fun zz ad => [(b, .inr (1, [.ref v, .int (0 : Int32), .int (0 : Int32), .int cnt])), (v, .inl (5, n, .inl f))])) xr) := by
  refine ok_of (by decide) (Nat.le_of_ble_eq_true rfl) hE ?_
  refine aw_locals (lv' := [(0, .ref b), (1, .int p0)]) [0, 1] rfl ?_
  refine aw_aload_n (q := 1) gdJ5_newCapacity_0f7a4_0.1 rfl 0 rfl ?_
  refine aw_get (q := 4) gdJ5_newCapacity_0f7a4_0.2.1 rfl fl_J5_15 0 rfl rfl ?_
  refine aw_alen (q := 5) (v := (Int32.ofNat n)) gdJ5_newCapacity_0f7a4_0.2.2.1 rfl 1 rfl (by decide) rfl ?_
  refine aw_istore_n (q := 6) (lv' := [(2, .int (Int32.ofNat n)), (0, .ref b), (1, .int p0)]) gdJ5_newCapacity_0f7a4_0.2.2.2.1 rfl (by decide) rfl ?_
  refine aw_iload_n (q := 7) gdJ5_newCapacity_0f7a4_0.2.2.2.2.1 rfl 2 rfl ?_
  refine aw_aload_n (q := 8) gdJ5_newCapacity_0f7a4_0.2.2.2.2.2.1 rfl 1 rfl ?_
  refine aw_get (q := 11) gdJ5_newCapacity_0f7a4_0.2.2.2.2.2.2.1 rfl fl_J5_22 0 rfl rfl ?_
  refine aw_ishl (q := 12) gdJ5_newCapacity_0f7a4_0.2.2.2.2.2.2.2 rfl ?_
  refine aw_istore_n (q := 13) (lv' := [(3, .int (p0 <<< ((0 : Int32) &&& (31 : Int32)))), (2, .int (Int32.ofNat n)), (0, .ref b), (1, .int p0)]) gdJ5_newCapacity_0f7a4_12.1 rfl (by decide) rfl ?_
  refine aw_iload_n (q := 14) gdJ5_newCapacity_0f7a4_12.2.1 rfl 0 rfl ?_
  refine aw_iload_n (q := 15) gdJ5_newCapacity_0f7a4_12.2.2.1 rfl 1 rfl ?_
  refine aw_isub (q := 16) gdJ5_newCapacity_0f7a4_12.2.2.2.1 rfl ?_
  refine aw_istore (q := 18) (lv' := [(4, .int ((p0 <<< ((0 : Int32) &&& (31 : Int32))) - (Int32.ofNat n))), (3, .int (p0 <<< ((0 : Int32) &&& (31 : Int32)))), (2, .int (Int32.ofNat n)), (0, .ref b), (1, .int p0)]) gdJ5_newCapacity_0f7a4_12.2.2.2.2.1 rfl (by decide) rfl ?_
  refine aw_iload_n (q := 19) gdJ5_newCapacity_0f7a4_12.2.2.2.2.2.1 rfl 2 rfl ?_
  refine aw_iload (q := 21) gdJ5_newCapacity_0f7a4_12.2.2.2.2.2.2.1 rfl 0 rfl ?_
  refine aw_iload_n (q := 22) gdJ5_newCapacity_0f7a4_12.2.2.2.2.2.2.2 rfl 2 rfl ?_
  refine aw_iconst (q := 23) (v := 2) gdJ5_newCapacity_0f7a4_22.1 rfl (by decide) ?_
  refine aw_aload_n (q := 24) gdJ5_newCapacity_0f7a4_22.2.1 rfl 3 rfl ?_
  refine aw_get (q := 27) gdJ5_newCapacity_0f7a4_22.2.2.1 rfl fl_J5_22 0 rfl rfl ?_
  refine aw_ishl (q := 28) gdJ5_newCapacity_0f7a4_22.2.2.2.1 rfl ?_
  refine aw_iadd (q := 29) gdJ5_newCapacity_0f7a4_22.2.2.2.2.1 rfl ?_
  refine aw_call (q := 32) (kc1 := 0) (ks1 := 0) (wc := []) (wr := [(b, .inr (1, [.ref v, .int (0 : Int32), .int (0 : Int32), .int cnt])), (v, .inl (5, n, .inl f))]) (st1 := fun x29 g29 => [.int x29]) (ws1 := fun x29 g29 => [(b, .inr (1, [.ref v, .int (0 : Int32), .int (0 : Int32), .int cnt])), (v, .inl (5, n, .inl f))]) (As := [.int (Int32.ofNat n), .int ((p0 <<< ((0 : Int32) &&& (31 : Int32))) - (Int32.ofNat n)), .int ((Int32.ofNat n) + ((2 : Int32) <<< ((0 : Int32) &&& (31 : Int32))))]) [] [0, 1] (fun _ => runS gdJ5_newCapacity_0f7a4_22.2.2.2.2.2.1 mi_J8_newLength_cabcc st_J8_newLength_cabcc ml_J5_114 (by omega) rfl (Nat.le_of_ble_eq_true rfl) rfl) (fun x9 h9 => ok_J_newLength h9) rfl rfl rfl rfl rfl (by decide +kernel) (by omega) (by omega) (fun _ _ => rfl) (fun _ _ => rfl) (fun x29 g29 => ?_)
  refine aw_istore (q := 34) (lv' := [(5, .int x29), (4, .int ((p0 <<< ((0 : Int32) &&& (31 : Int32))) - (Int32.ofNat n))), (3, .int (p0 <<< ((0 : Int32) &&& (31 : Int32)))), (2, .int (Int32.ofNat n)), (0, .ref b), (1, .int p0)]) gdJ5_newCapacity_0f7a4_22.2.2.2.2.2.2.1 rfl (by decide) rfl ?_
  refine aw_iload (q := 36) gdJ5_newCapacity_0f7a4_22.2.2.2.2.2.2.2 rfl 0 rfl ?_
  refine aw_ldc (q := 38) gdJ5_newCapacity_0f7a4_36.1 rfl co_J5_39 ?_
  refine aw_icmp_ne (tgt := 51) (q := 41) gdJ5_newCapacity_0f7a4_36.2.1 (by decide) rfl (fun h_38 => ?_) (fun h_38 => ?_)
  · refine aw_iload (q := 53) gdJ5_newCapacity_0f7a4_36.2.2.1 rfl 0 rfl ?_
    refine aw_aload_n (q := 54) gdJ5_newCapacity_0f7a4_36.2.2.2.1 rfl 4 rfl ?_
    refine aw_get (q := 57) gdJ5_newCapacity_0f7a4_36.2.2.2.2.1 rfl fl_J5_22 0 rfl rfl ?_
    refine aw_ishr (q := 58) gdJ5_newCapacity_0f7a4_36.2.2.2.2.2.1 rfl ?_
    exact aw_ireturn (w := [(b, .inr (1, [.ref v, .int (0 : Int32), .int (0 : Int32), .int cnt])), (v, .inl (5, n, .inl f))]) [0, 1] gdJ5_newCapacity_0f7a4_36.2.2.2.2.2.2 rfl rfl rfl rfl (PN.mk (fun _ => 0) rfl rfl)
  · exact aw_none
def fJ_ensure (N K : Nat) (cnt : Int32) (n : Nat) (f : Nat → Int32) (p0 : Int32) : Option (Nat × (Nat → Int32)) :=
  (if (p0 - ((Int32.ofNat n) >>> ((0 : Int32) &&& (31 : Int32)))) ≤ 0 then (some (n, f)) else ((fJ_newCapacity N K cnt n f p0).bind (fun x24 => ((fJ_copyOf N K n f (x24 <<< ((0 : Int32) &&& (31 : Int32)))).bind (fun x32 => (some (x32.1, x32.2)))))))
set_option maxHeartbeats 4000000 in
set_option maxRecDepth 100000 in
theorem ok_J_ensure {N K : Nat} {b v : Nat} {cnt : Int32} {n : Nat} {f : Nat → Int32} {p0 : Int32} {xr : Nat × (Nat → Int32)} (hE : fJ_ensure N K cnt n f p0 = some xr) : OkM yJ5_ensureCapacityInternal_d00df (.code yJ5_ensureCapacityInternal_d00df cJ5_ensureCapacityInternal_d00df 3 none) (3) 1 80 [.ref b, .int p0] [(b, .inr (1, [.ref v, .int (0 : Int32), .int (0 : Int32), .int cnt])), (v, .inl (5, n, .inl f))] ((PN (U := Nat × (Nat → Int32)) (fun _ _ => none) (fun zz ad => [(b, .inr (1, [.ref (ad 0), .int (0 : Int32), .int (0 : Int32), .int cnt])), ((ad 0), .inl (5, zz.1, .inl zz.2))])) xr) := by
  refine ok_of (by decide) (Nat.le_of_ble_eq_true rfl) hE ?_
  refine aw_locals (lv' := [(0, .ref b), (1, .int p0)]) [0, 1] rfl ?_
  refine aw_aload_n (q := 1) gdJ5_ensureCapacityInternal_d00df_0.1 rfl 0 rfl ?_
  refine aw_get (q := 4) gdJ5_ensureCapacityInternal_d00df_0.2.1 rfl fl_J5_15 0 rfl rfl ?_
  refine aw_alen (q := 5) (v := (Int32.ofNat n)) gdJ5_ensureCapacityInternal_d00df_0.2.2.1 rfl 1 rfl (by decide) rfl ?_
  refine aw_aload_n (q := 6) gdJ5_ensureCapacityInternal_d00df_0.2.2.2.1 rfl 0 rfl ?_
  refine aw_get (q := 9) gdJ5_ensureCapacityInternal_d00df_0.2.2.2.2.1 rfl fl_J5_22 0 rfl rfl ?_
  refine aw_ishr (q := 10) gdJ5_ensureCapacityInternal_d00df_0.2.2.2.2.2.1 rfl ?_
  refine aw_istore_n (q := 11) (lv' := [(2, .int ((Int32.ofNat n) >>> ((0 : Int32) &&& (31 : Int32)))), (0, .ref b), (1, .int p0)]) gdJ5_ensureCapacityInternal_d00df_0.2.2.2.2.2.2.1 rfl (by decide) rfl ?_
  refine aw_iload_n (q := 12) gdJ5_ensureCapacityInternal_d00df_0.2.2.2.2.2.2.2 rfl 2 rfl ?_
  refine aw_iload_n (q := 13) gdJ5_ensureCapacityInternal_d00df_12.1 rfl 0 rfl ?_
  refine aw_isub (q := 14) gdJ5_ensureCapacityInternal_d00df_12.2.1 rfl ?_
  refine aw_if_le (tgt := 38) (q := 17) gdJ5_ensureCapacityInternal_d00df_12.2.2.1 (by decide) rfl (fun h_14 => ?_) (fun h_14 => ?_)
  · exact aw_return (w := [(b, .inr (1, [.ref v, .int (0 : Int32), .int (0 : Int32), .int cnt])), (v, .inl (5, n, .inl f))]) [0, 1] gdJ5_ensureCapacityInternal_d00df_24.2.2.2.2.2.2 rfl rfl rfl (PN.mk (fun j => if j = 0 then v else 0) rfl rfl)
  · refine aw_aload_n (q := 18) gdJ5_ensureCapacityInternal_d00df_12.2.2.2.1 rfl 1 rfl ?_
    refine aw_aload_n (q := 19) gdJ5_ensureCapacityInternal_d00df_12.2.2.2.2.1 rfl 1 rfl ?_
    refine aw_get (q := 22) gdJ5_ensureCapacityInternal_d00df_12.2.2.2.2.2.1 rfl fl_J5_15 0 rfl rfl ?_
    refine aw_aload_n (q := 23) gdJ5_ensureCapacityInternal_d00df_12.2.2.2.2.2.2.1 rfl 1 rfl ?_
    refine aw_iload_n (q := 24) gdJ5_ensureCapacityInternal_d00df_12.2.2.2.2.2.2.2 rfl 2 rfl ?_
    refine aw_call (q := 27) (kc1 := 1) (ks1 := 80) (wc := [(b, .inr (1, [.ref v, .int (0 : Int32), .int (0 : Int32), .int cnt])), (v, .inl (5, n, .inl f))]) (wr := []) (st1 := fun x24 g24 => [.int x24, .ref v, .ref b]) (ws1 := fun x24 g24 => [(b, .inr (1, [.ref v, .int (0 : Int32), .int (0 : Int32), .int cnt])), (v, .inl (5, n, .inl f))]) (As := [.ref b, .int p0]) [0, 1] [] (fun _ => runU (q0 := 0) gdJ5_ensureCapacityInternal_d00df_24.1 mi_J5_newCapacity_0f7a4 im_J5_newCapacity_0f7a4 (fun _ _ h9 h8 => sel_sub (h9 _ su_J5_isLatin1_aae02) rfl (by decide +kernel) (NGW_use pv_J5_newCapacity_0f7a4 (h8 _ pv_J5_newCapacity_0f7a4)) (h9 _ im_J5_newCapacity_0f7a4)) sm_J5_newCapacity_0f7a4 im_J5_newCapacity_0f7a4 cd_J5_newCapacity_0f7a4 ml_J5_104 (by decide +kernel) (by omega) rfl (Nat.le_of_ble_eq_true rfl) rfl rfl rfl rfl) (fun x9 h9 => ok_J_newCapacity h9) rfl rfl rfl rfl rfl (by decide +kernel) (by omega) (by omega) (fun _ _ => rfl) (fun _ _ => rfl) (fun x24 g24 => ?_)
    refine aw_aload_n (q := 28) gdJ5_ensureCapacityInternal_d00df_24.2.1 rfl 1 rfl ?_
    refine aw_get (q := 31) gdJ5_ensureCapacityInternal_d00df_24.2.2.1 rfl fl_J5_22 0 rfl rfl ?_
    refine aw_ishl (q := 32) gdJ5_ensureCapacityInternal_d00df_24.2.2.2.1 rfl ?_
    refine aw_call (q := 35) (kc1 := 0) (ks1 := 0) (wc := [(v, .inl (5, n, .inl f))]) (wr := [(b, .inr (1, [.ref v, .int (0 : Int32), .int (0 : Int32), .int cnt]))]) (st1 := fun x32 g32 => [.ref (g32 0), .ref b]) (ws1 := fun x32 g32 => [(b, .inr (1, [.ref v, .int (0 : Int32), .int (0 : Int32), .int cnt])), (v, .inl (5, n, .inl f)), ((g32 0), .inl (5, x32.1, .inl x32.2))]) (As := [.ref v, .int (x24 <<< ((0 : Int32) &&& (31 : Int32)))]) [1] [0] (fun _ => runS gdJ5_ensureCapacityInternal_d00df_24.2.2.2.2.1 mi_J7_copyOf_9075b st_J7_copyOf_9075b ml_J5_108 (by omega) rfl (Nat.le_of_ble_eq_true rfl) rfl) (fun x9 h9 => ok_J_copyOf h9) rfl rfl rfl rfl rfl (by decide +kernel) (by omega) (by omega) (fun _ _ => rfl) (fun _ _ => rfl) (fun x32 g32 => ?_)
    refine aw_put (q := 38) (ws' := [(b, .inr (1, [.ref (g32 0), .int (0 : Int32), .int (0 : Int32), .int cnt])), (v, .inl (5, n, .inl f)), ((g32 0), .inl (5, x32.1, .inl x32.2))]) gdJ5_ensureCapacityInternal_d00df_24.2.2.2.2.2.1 rfl fl_J5_15 0 rfl rfl rfl (Nat.le_of_ble_eq_true rfl) rfl ?_
    exact aw_return (w := [(b, .inr (1, [.ref (g32 0), .int (0 : Int32), .int (0 : Int32), .int cnt])), ((g32 0), .inl (5, x32.1, .inl x32.2))]) [0, 2] gdJ5_ensureCapacityInternal_d00df_24.2.2.2.2.2.2 rfl rfl rfl (PN.mk (fun j => if j = 0 then (g32 0) else 0) rfl rfl)
def fJ_getChars_22 (N K : Nat) (n : Nat) (f : Nat → Int32) (p0 : Int32) (p1 : Int32) : Nat → Int32 → Int32 → (Nat → Int32) → Option (Int32 × (Nat → Int32))
  | 0, _, _, _ => none
  | fu + 1, l0, l5, f_ =>
    (if (-100 : Int32) < l0 then (if (-l0) < 0 ∨ 100 ≤ (-l0).toNatClampNeg then none else (if (l5 + (-1 : Int32)) < 0 ∨ n ≤ (l5 + (-1 : Int32)).toNatClampNeg then none else (if (-9 : Int32) ≤ l0 then (some ((l5 + (-1 : Int32)), (upd f_ (l5 + (-1 : Int32)).toNatClampNeg (vp_nar .byte ((fun j => Int32.ofNat (48 + j % 10)) (-l0).toNatClampNeg))))) else (if (-l0) < 0 ∨ 100 ≤ (-l0).toNatClampNeg then none else (if ((l5 + (-1 : Int32)) + (-1 : Int32)) < 0 ∨ n ≤ ((l5 + (-1 : Int32)) + (-1 : Int32)).toNatClampNeg then none else (some (((l5 + (-1 : Int32)) + (-1 : Int32)), (upd (upd f_ (l5 + (-1 : Int32)).toNatClampNeg (vp_nar .byte ((fun j => Int32.ofNat (48 + j % 10)) (-l0).toNatClampNeg))) ((l5 + (-1 : Int32)) + (-1 : Int32)).toNatClampNeg (vp_nar .byte ((fun j => Int32.ofNat (48 + j / 10)) (-l0).toNatClampNeg)))))))))) else (if (((l0 / (100 : Int32)) * (100 : Int32)) - l0) < 0 ∨ 100 ≤ (((l0 / (100 : Int32)) * (100 : Int32)) - l0).toNatClampNeg then none else (if (l5 + (-1 : Int32)) < 0 ∨ n ≤ (l5 + (-1 : Int32)).toNatClampNeg then none else (if (((l0 / (100 : Int32)) * (100 : Int32)) - l0) < 0 ∨ 100 ≤ (((l0 / (100 : Int32)) * (100 : Int32)) - l0).toNatClampNeg then none else (if ((l5 + (-1 : Int32)) + (-1 : Int32)) < 0 ∨ n ≤ ((l5 + (-1 : Int32)) + (-1 : Int32)).toNatClampNeg then none else fJ_getChars_22 N K n f p0 p1  fu (l0 / (100 : Int32)) ((l5 + (-1 : Int32)) + (-1 : Int32)) (upd (upd f_ (l5 + (-1 : Int32)).toNatClampNeg (vp_nar .byte ((fun j => Int32.ofNat (48 + j % 10)) (((l0 / (100 : Int32)) * (100 : Int32)) - l0).toNatClampNeg))) ((l5 + (-1 : Int32)) + (-1 : Int32)).toNatClampNeg (vp_nar .byte ((fun j => Int32.ofNat (48 + j / 10)) (((l0 / (100 : Int32)) * (100 : Int32)) - l0).toNatClampNeg))))))))
set_option maxHeartbeats 4000000 in
set_option maxRecDepth 100000 in
theorem tJ_getChars_22 {N K : Nat} {a : Nat} {n : Nat} {f : Nat → Int32} {p0 : Int32} {p1 : Int32} : ∀ (fu : Nat) (l0 : Int32) (l5 : Int32) (f_ : Nat → Int32), AW RJ6 "getChars" cJ6_getChars_ba4f3 7 (some .int) [] (fun _ _ => True) (0) (PN (U := Int32 × (Nat → Int32)) (fun zz _ => some (.int zz.1)) (fun zz ad => [(a, .inl (5, n, .inl zz.2))])) 0 0 (fJ_getChars_22 N K n f p0 p1  fu l0 l5 f_) 22 [(0, .int l0), (2, .ref a), (5, .int l5), (6, .int (0 : Int32))] [] [(a, .inl (5, n, .inl f_))] := by
  intro fu
  induction fu with
  | zero => intro l0 l5 f_; exact aw_none
  | succ fu ih =>
    intro l0 l5 f_
    refine aw_iload_n (q := 23) gdJ6_getChars_ba4f3_14.2.2.2.2.2.1 rfl 0 rfl ?_
    refine aw_bipush (q := 25) (v := (-100)) gdJ6_getChars_ba4f3_14.2.2.2.2.2.2.1 rfl (by decide) ?_
    refine aw_icmp_gt (tgt := 72) (q := 28) gdJ6_getChars_ba4f3_14.2.2.2.2.2.2.2 (by decide) rfl (fun h_25 => ?_) (fun h_25 => ?_)
    · refine aw_aload_n (q := 73) gdJ6_getChars_ba4f3_67.2.2.2.1 rfl 1 rfl ?_
      refine aw_iinc (q := 76) (v := (l5 + (-1 : Int32))) (lv' := [(5, .int (l5 + (-1 : Int32))), (0, .int l0), (2, .ref a), (6, .int (0 : Int32))]) gdJ6_getChars_ba4f3_67.2.2.2.2.1 rfl 2 rfl rfl (by decide) rfl ?_
      refine aw_iload (q := 78) gdJ6_getChars_ba4f3_67.2.2.2.2.2.1 rfl 0 rfl ?_
      refine aw_tab1 (q := 84) (S := "DigitOnes") (tb := (fun j => Int32.ofNat (48 + j % 10))) gdJ6_getChars_ba4f3_67.2.2.2.2.2.2.1 gdJ6_getChars_ba4f3_67.2.2.2.2.2.2.2 gdJ6_getChars_ba4f3_82.1 gdJ6_getChars_ba4f3_82.2.1 rfl gs_J6_83 (List.mem_of_getElem? (i := 0) rfl) 1 rfl ?_
      refine aw_bast (q := 85) (ws' := [(a, .inl (5, n, .inl (upd f_ (l5 + (-1 : Int32)).toNatClampNeg (vp_nar .byte ((fun j => Int32.ofNat (48 + j % 10)) (-l0).toNatClampNeg)))))]) gdJ6_getChars_ba4f3_82.2.2.1 rfl 0 rfl rfl ?_
      refine aw_iload_n (q := 86) gdJ6_getChars_ba4f3_82.2.2.2.1 rfl 1 rfl ?_
      refine aw_bipush (q := 88) (v := (-9)) gdJ6_getChars_ba4f3_82.2.2.2.2.1 rfl (by decide) ?_
      refine aw_icmp_ge (tgt := 104) (q := 91) gdJ6_getChars_ba4f3_82.2.2.2.2.2.1 (by decide) rfl (fun h_88 => ?_) (fun h_88 => ?_)
      · refine aw_iload (q := 106) gdJ6_getChars_ba4f3_95.2.2.2.2.2.2.1 rfl 3 rfl ?_
        refine aw_if_eqT (tgt := 118) gdJ6_getChars_ba4f3_95.2.2.2.2.2.2.2 (by decide) (by decide) ?_
        refine aw_iload (q := 120) gdJ6_getChars_ba4f3_109.2.2.2.2.2.1 rfl 0 rfl ?_
        exact aw_ireturn (w := [(a, .inl (5, n, .inl (upd f_ (l5 + (-1 : Int32)).toNatClampNeg (vp_nar .byte ((fun j => Int32.ofNat (48 + j % 10)) (-l0).toNatClampNeg)))))]) [0] gdJ6_getChars_ba4f3_109.2.2.2.2.2.2 rfl rfl rfl rfl (PN.mk (fun _ => 0) rfl rfl)
      · refine aw_aload_n (q := 92) gdJ6_getChars_ba4f3_82.2.2.2.2.2.2.1 rfl 2 rfl ?_
        refine aw_iinc (q := 95) (v := ((l5 + (-1 : Int32)) + (-1 : Int32))) (lv' := [(5, .int ((l5 + (-1 : Int32)) + (-1 : Int32))), (0, .int l0), (2, .ref a), (6, .int (0 : Int32))]) gdJ6_getChars_ba4f3_82.2.2.2.2.2.2.2 rfl 0 rfl rfl (by decide) rfl ?_
        refine aw_iload (q := 97) gdJ6_getChars_ba4f3_95.1 rfl 0 rfl ?_
        refine aw_tab1 (q := 103) (S := "DigitTens") (tb := (fun j => Int32.ofNat (48 + j / 10))) gdJ6_getChars_ba4f3_95.2.1 gdJ6_getChars_ba4f3_95.2.2.1 gdJ6_getChars_ba4f3_95.2.2.2.1 gdJ6_getChars_ba4f3_95.2.2.2.2.1 rfl gs_J6_87 (List.mem_of_getElem? (i := 1) rfl) 1 rfl ?_
        refine aw_bast (q := 104) (ws' := [(a, .inl (5, n, .inl (upd (upd f_ (l5 + (-1 : Int32)).toNatClampNeg (vp_nar .byte ((fun j => Int32.ofNat (48 + j % 10)) (-l0).toNatClampNeg))) ((l5 + (-1 : Int32)) + (-1 : Int32)).toNatClampNeg (vp_nar .byte ((fun j => Int32.ofNat (48 + j / 10)) (-l0).toNatClampNeg)))))]) gdJ6_getChars_ba4f3_95.2.2.2.2.2.1 rfl 0 rfl rfl ?_
        refine aw_iload (q := 106) gdJ6_getChars_ba4f3_95.2.2.2.2.2.2.1 rfl 3 rfl ?_
        refine aw_if_eqT (tgt := 118) gdJ6_getChars_ba4f3_95.2.2.2.2.2.2.2 (by decide) (by decide) ?_
        refine aw_iload (q := 120) gdJ6_getChars_ba4f3_109.2.2.2.2.2.1 rfl 0 rfl ?_
        exact aw_ireturn (w := [(a, .inl (5, n, .inl (upd (upd f_ (l5 + (-1 : Int32)).toNatClampNeg (vp_nar .byte ((fun j => Int32.ofNat (48 + j % 10)) (-l0).toNatClampNeg))) ((l5 + (-1 : Int32)) + (-1 : Int32)).toNatClampNeg (vp_nar .byte ((fun j => Int32.ofNat (48 + j / 10)) (-l0).toNatClampNeg)))))]) [0] gdJ6_getChars_ba4f3_109.2.2.2.2.2.2 rfl rfl rfl rfl (PN.mk (fun _ => 0) rfl rfl)
    · refine aw_iload_n (q := 29) gdJ6_getChars_ba4f3_28.1 rfl 0 rfl ?_
      refine aw_bipush (q := 31) (v := 100) gdJ6_getChars_ba4f3_28.2.1 rfl (by decide) ?_
      refine aw_idivT (q := 32) gdJ6_getChars_ba4f3_28.2.2.1 rfl (by decide) ?_
      refine aw_istore_n (q := 33) (lv' := [(3, .int (l0 / (100 : Int32))), (0, .int l0), (2, .ref a), (5, .int l5), (6, .int (0 : Int32))]) gdJ6_getChars_ba4f3_28.2.2.2.1 rfl (by decide) rfl ?_
      refine aw_iload_n (q := 34) gdJ6_getChars_ba4f3_28.2.2.2.2.1 rfl 0 rfl ?_
      refine aw_bipush (q := 36) (v := 100) gdJ6_getChars_ba4f3_28.2.2.2.2.2.1 rfl (by decide) ?_
      refine aw_imul (q := 37) gdJ6_getChars_ba4f3_28.2.2.2.2.2.2.1 rfl ?_
      refine aw_iload_n (q := 38) gdJ6_getChars_ba4f3_28.2.2.2.2.2.2.2 rfl 1 rfl ?_
      refine aw_isub (q := 39) gdJ6_getChars_ba4f3_38.1 rfl ?_
      refine aw_istore (q := 41) (lv' := [(4, .int (((l0 / (100 : Int32)) * (100 : Int32)) - l0)), (3, .int (l0 / (100 : Int32))), (0, .int l0), (2, .ref a), (5, .int l5), (6, .int (0 : Int32))]) gdJ6_getChars_ba4f3_38.2.1 rfl (by decide) rfl ?_
      refine aw_iload_n (q := 42) gdJ6_getChars_ba4f3_38.2.2.1 rfl 1 rfl ?_
      refine aw_istore_n (q := 43) (lv' := [(0, .int (l0 / (100 : Int32))), (4, .int (((l0 / (100 : Int32)) * (100 : Int32)) - l0)), (3, .int (l0 / (100 : Int32))), (2, .ref a), (5, .int l5), (6, .int (0 : Int32))]) gdJ6_getChars_ba4f3_38.2.2.2.1 rfl (by decide) rfl ?_
      refine aw_aload_n (q := 44) gdJ6_getChars_ba4f3_38.2.2.2.2.1 rfl 3 rfl ?_
      refine aw_iinc (q := 47) (v := (l5 + (-1 : Int32))) (lv' := [(5, .int (l5 + (-1 : Int32))), (0, .int (l0 / (100 : Int32))), (4, .int (((l0 / (100 : Int32)) * (100 : Int32)) - l0)), (3, .int (l0 / (100 : Int32))), (2, .ref a), (6, .int (0 : Int32))]) gdJ6_getChars_ba4f3_38.2.2.2.2.2.1 rfl 4 rfl rfl (by decide) rfl ?_
      refine aw_iload (q := 49) gdJ6_getChars_ba4f3_38.2.2.2.2.2.2.1 rfl 0 rfl ?_
      refine aw_tab2 (q := 55) (S := "DigitOnes") (tb := (fun j => Int32.ofNat (48 + j % 10))) gdJ6_getChars_ba4f3_38.2.2.2.2.2.2.2 gdJ6_getChars_ba4f3_52.1 gdJ6_getChars_ba4f3_52.2.1 rfl gs_J6_83 (List.mem_of_getElem? (i := 0) rfl) 2 rfl ?_
      refine aw_bast (q := 56) (ws' := [(a, .inl (5, n, .inl (upd f_ (l5 + (-1 : Int32)).toNatClampNeg (vp_nar .byte ((fun j => Int32.ofNat (48 + j % 10)) (((l0 / (100 : Int32)) * (100 : Int32)) - l0).toNatClampNeg)))))]) gdJ6_getChars_ba4f3_52.2.2.1 rfl 0 rfl rfl ?_
      refine aw_aload_n (q := 57) gdJ6_getChars_ba4f3_52.2.2.2.1 rfl 4 rfl ?_
      refine aw_iinc (q := 60) (v := ((l5 + (-1 : Int32)) + (-1 : Int32))) (lv' := [(5, .int ((l5 + (-1 : Int32)) + (-1 : Int32))), (0, .int (l0 / (100 : Int32))), (4, .int (((l0 / (100 : Int32)) * (100 : Int32)) - l0)), (3, .int (l0 / (100 : Int32))), (2, .ref a), (6, .int (0 : Int32))]) gdJ6_getChars_ba4f3_52.2.2.2.2.1 rfl 0 rfl rfl (by decide) rfl ?_
      refine aw_iload (q := 62) gdJ6_getChars_ba4f3_52.2.2.2.2.2.1 rfl 0 rfl ?_
      refine aw_tab2 (q := 68) (S := "DigitTens") (tb := (fun j => Int32.ofNat (48 + j / 10))) gdJ6_getChars_ba4f3_52.2.2.2.2.2.2.1 gdJ6_getChars_ba4f3_52.2.2.2.2.2.2.2 gdJ6_getChars_ba4f3_67.1 rfl gs_J6_87 (List.mem_of_getElem? (i := 1) rfl) 2 rfl ?_
      refine aw_bast (q := 69) (ws' := [(a, .inl (5, n, .inl (upd (upd f_ (l5 + (-1 : Int32)).toNatClampNeg (vp_nar .byte ((fun j => Int32.ofNat (48 + j % 10)) (((l0 / (100 : Int32)) * (100 : Int32)) - l0).toNatClampNeg))) ((l5 + (-1 : Int32)) + (-1 : Int32)).toNatClampNeg (vp_nar .byte ((fun j => Int32.ofNat (48 + j / 10)) (((l0 / (100 : Int32)) * (100 : Int32)) - l0).toNatClampNeg)))))]) gdJ6_getChars_ba4f3_67.2.1 rfl 0 rfl rfl ?_
      refine aw_goto (tgt := 22) gdJ6_getChars_ba4f3_67.2.2.1 (by decide) ?_
      refine aw_locals (lv' := [(0, .int (l0 / (100 : Int32))), (2, .ref a), (5, .int ((l5 + (-1 : Int32)) + (-1 : Int32))), (6, .int (0 : Int32))]) [1, 4, 0, 5] rfl ?_
      exact ih _ _ _
def fJ_getChars_22v (N K : Nat) (n : Nat) (f : Nat → Int32) (p0 : Int32) (p1 : Int32) : Nat → Int32 → Int32 → (Nat → Int32) → Option (Int32 × (Nat → Int32))
  | 0, _, _, _ => none
  | fu + 1, l0, l5, f_ =>
    (if (-100 : Int32) < l0 then (if (-l0) < 0 ∨ 100 ≤ (-l0).toNatClampNeg then none else (if (l5 + (-1 : Int32)) < 0 ∨ n ≤ (l5 + (-1 : Int32)).toNatClampNeg then none else (if (-9 : Int32) ≤ l0 then (if ((l5 + (-1 : Int32)) + (-1 : Int32)) < 0 ∨ n ≤ ((l5 + (-1 : Int32)) + (-1 : Int32)).toNatClampNeg then none else (some (((l5 + (-1 : Int32)) + (-1 : Int32)), (upd (upd f_ (l5 + (-1 : Int32)).toNatClampNeg (vp_nar .byte ((fun j => Int32.ofNat (48 + j % 10)) (-l0).toNatClampNeg))) ((l5 + (-1 : Int32)) + (-1 : Int32)).toNatClampNeg (vp_nar .byte (45 : Int32)))))) else (if (-l0) < 0 ∨ 100 ≤ (-l0).toNatClampNeg then none else (if ((l5 + (-1 : Int32)) + (-1 : Int32)) < 0 ∨ n ≤ ((l5 + (-1 : Int32)) + (-1 : Int32)).toNatClampNeg then none else (if (((l5 + (-1 : Int32)) + (-1 : Int32)) + (-1 : Int32)) < 0 ∨ n ≤ (((l5 + (-1 : Int32)) + (-1 : Int32)) + (-1 : Int32)).toNatClampNeg then none else (some ((((l5 + (-1 : Int32)) + (-1 : Int32)) + (-1 : Int32)), (upd (upd (upd f_ (l5 + (-1 : Int32)).toNatClampNeg (vp_nar .byte ((fun j => Int32.ofNat (48 + j % 10)) (-l0).toNatClampNeg))) ((l5 + (-1 : Int32)) + (-1 : Int32)).toNatClampNeg (vp_nar .byte ((fun j => Int32.ofNat (48 + j / 10)) (-l0).toNatClampNeg))) (((l5 + (-1 : Int32)) + (-1 : Int32)) + (-1 : Int32)).toNatClampNeg (vp_nar .byte (45 : Int32))))))))))) else (if (((l0 / (100 : Int32)) * (100 : Int32)) - l0) < 0 ∨ 100 ≤ (((l0 / (100 : Int32)) * (100 : Int32)) - l0).toNatClampNeg then none else (if (l5 + (-1 : Int32)) < 0 ∨ n ≤ (l5 + (-1 : Int32)).toNatClampNeg then none else (if (((l0 / (100 : Int32)) * (100 : Int32)) - l0) < 0 ∨ 100 ≤ (((l0 / (100 : Int32)) * (100 : Int32)) - l0).toNatClampNeg then none else (if ((l5 + (-1 : Int32)) + (-1 : Int32)) < 0 ∨ n ≤ ((l5 + (-1 : Int32)) + (-1 : Int32)).toNatClampNeg then none else fJ_getChars_22v N K n f p0 p1  fu (l0 / (100 : Int32)) ((l5 + (-1 : Int32)) + (-1 : Int32)) (upd (upd f_ (l5 + (-1 : Int32)).toNatClampNeg (vp_nar .byte ((fun j => Int32.ofNat (48 + j % 10)) (((l0 / (100 : Int32)) * (100 : Int32)) - l0).toNatClampNeg))) ((l5 + (-1 : Int32)) + (-1 : Int32)).toNatClampNeg (vp_nar .byte ((fun j => Int32.ofNat (48 + j / 10)) (((l0 / (100 : Int32)) * (100 : Int32)) - l0).toNatClampNeg))))))))
set_option maxHeartbeats 4000000 in
set_option maxRecDepth 100000 in
theorem tJ_getChars_22v {N K : Nat} {a : Nat} {n : Nat} {f : Nat → Int32} {p0 : Int32} {p1 : Int32} : ∀ (fu : Nat) (l0 : Int32) (l5 : Int32) (f_ : Nat → Int32), AW RJ6 "getChars" cJ6_getChars_ba4f3 7 (some .int) [] (fun _ _ => True) (0) (PN (U := Int32 × (Nat → Int32)) (fun zz _ => some (.int zz.1)) (fun zz ad => [(a, .inl (5, n, .inl zz.2))])) 0 0 (fJ_getChars_22v N K n f p0 p1  fu l0 l5 f_) 22 [(0, .int l0), (2, .ref a), (5, .int l5), (6, .int (1 : Int32))] [] [(a, .inl (5, n, .inl f_))] := by
  intro fu
  induction fu with
  | zero => intro l0 l5 f_; exact aw_none
  | succ fu ih =>
    intro l0 l5 f_
    refine aw_iload_n (q := 23) gdJ6_getChars_ba4f3_14.2.2.2.2.2.1 rfl 0 rfl ?_
    refine aw_bipush (q := 25) (v := (-100)) gdJ6_getChars_ba4f3_14.2.2.2.2.2.2.1 rfl (by decide) ?_
    refine aw_icmp_gt (tgt := 72) (q := 28) gdJ6_getChars_ba4f3_14.2.2.2.2.2.2.2 (by decide) rfl (fun h_25 => ?_) (fun h_25 => ?_)
    · refine aw_aload_n (q := 73) gdJ6_getChars_ba4f3_67.2.2.2.1 rfl 1 rfl ?_
      refine aw_iinc (q := 76) (v := (l5 + (-1 : Int32))) (lv' := [(5, .int (l5 + (-1 : Int32))), (0, .int l0), (2, .ref a), (6, .int (1 : Int32))]) gdJ6_getChars_ba4f3_67.2.2.2.2.1 rfl 2 rfl rfl (by decide) rfl ?_
      refine aw_iload (q := 78) gdJ6_getChars_ba4f3_67.2.2.2.2.2.1 rfl 0 rfl ?_
      refine aw_tab1 (q := 84) (S := "DigitOnes") (tb := (fun j => Int32.ofNat (48 + j % 10))) gdJ6_getChars_ba4f3_67.2.2.2.2.2.2.1 gdJ6_getChars_ba4f3_67.2.2.2.2.2.2.2 gdJ6_getChars_ba4f3_82.1 gdJ6_getChars_ba4f3_82.2.1 rfl gs_J6_83 (List.mem_of_getElem? (i := 0) rfl) 1 rfl ?_
      refine aw_bast (q := 85) (ws' := [(a, .inl (5, n, .inl (upd f_ (l5 + (-1 : Int32)).toNatClampNeg (vp_nar .byte ((fun j => Int32.ofNat (48 + j % 10)) (-l0).toNatClampNeg)))))]) gdJ6_getChars_ba4f3_82.2.2.1 rfl 0 rfl rfl ?_
      refine aw_iload_n (q := 86) gdJ6_getChars_ba4f3_82.2.2.2.1 rfl 1 rfl ?_
      refine aw_bipush (q := 88) (v := (-9)) gdJ6_getChars_ba4f3_82.2.2.2.2.1 rfl (by decide) ?_
      refine aw_icmp_ge (tgt := 104) (q := 91) gdJ6_getChars_ba4f3_82.2.2.2.2.2.1 (by decide) rfl (fun h_88 => ?_) (fun h_88 => ?_)
      · refine aw_iload (q := 106) gdJ6_getChars_ba4f3_95.2.2.2.2.2.2.1 rfl 3 rfl ?_
        refine aw_if_eqF (q := 109) (off := 12) (tgt := 118) gdJ6_getChars_ba4f3_95.2.2.2.2.2.2.2 (by decide) rfl (by decide) ?_
        refine aw_aload_n (q := 110) gdJ6_getChars_ba4f3_109.1 rfl 2 rfl ?_
        refine aw_iinc (q := 113) (v := ((l5 + (-1 : Int32)) + (-1 : Int32))) (lv' := [(5, .int ((l5 + (-1 : Int32)) + (-1 : Int32))), (0, .int l0), (2, .ref a), (6, .int (1 : Int32))]) gdJ6_getChars_ba4f3_109.2.1 rfl 0 rfl rfl (by decide) rfl ?_
        refine aw_iload (q := 115) gdJ6_getChars_ba4f3_109.2.2.1 rfl 0 rfl ?_
        refine aw_bipush (q := 117) (v := 45) gdJ6_getChars_ba4f3_109.2.2.2.1 rfl (by decide) ?_
        refine aw_bast (q := 118) (ws' := [(a, .inl (5, n, .inl (upd (upd f_ (l5 + (-1 : Int32)).toNatClampNeg (vp_nar .byte ((fun j => Int32.ofNat (48 + j % 10)) (-l0).toNatClampNeg))) ((l5 + (-1 : Int32)) + (-1 : Int32)).toNatClampNeg (vp_nar .byte (45 : Int32)))))]) gdJ6_getChars_ba4f3_109.2.2.2.2.1 rfl 0 rfl rfl ?_
        refine aw_iload (q := 120) gdJ6_getChars_ba4f3_109.2.2.2.2.2.1 rfl 0 rfl ?_
        exact aw_ireturn (w := [(a, .inl (5, n, .inl (upd (upd f_ (l5 + (-1 : Int32)).toNatClampNeg (vp_nar .byte ((fun j => Int32.ofNat (48 + j % 10)) (-l0).toNatClampNeg))) ((l5 + (-1 : Int32)) + (-1 : Int32)).toNatClampNeg (vp_nar .byte (45 : Int32)))))]) [0] gdJ6_getChars_ba4f3_109.2.2.2.2.2.2 rfl rfl rfl rfl (PN.mk (fun _ => 0) rfl rfl)
      · refine aw_aload_n (q := 92) gdJ6_getChars_ba4f3_82.2.2.2.2.2.2.1 rfl 2 rfl ?_
        refine aw_iinc (q := 95) (v := ((l5 + (-1 : Int32)) + (-1 : Int32))) (lv' := [(5, .int ((l5 + (-1 : Int32)) + (-1 : Int32))), (0, .int l0), (2, .ref a), (6, .int (1 : Int32))]) gdJ6_getChars_ba4f3_82.2.2.2.2.2.2.2 rfl 0 rfl rfl (by decide) rfl ?_
        refine aw_iload (q := 97) gdJ6_getChars_ba4f3_95.1 rfl 0 rfl ?_
        refine aw_tab1 (q := 103) (S := "DigitTens") (tb := (fun j => Int32.ofNat (48 + j / 10))) gdJ6_getChars_ba4f3_95.2.1 gdJ6_getChars_ba4f3_95.2.2.1 gdJ6_getChars_ba4f3_95.2.2.2.1 gdJ6_getChars_ba4f3_95.2.2.2.2.1 rfl gs_J6_87 (List.mem_of_getElem? (i := 1) rfl) 1 rfl ?_
        refine aw_bast (q := 104) (ws' := [(a, .inl (5, n, .inl (upd (upd f_ (l5 + (-1 : Int32)).toNatClampNeg (vp_nar .byte ((fun j => Int32.ofNat (48 + j % 10)) (-l0).toNatClampNeg))) ((l5 + (-1 : Int32)) + (-1 : Int32)).toNatClampNeg (vp_nar .byte ((fun j => Int32.ofNat (48 + j / 10)) (-l0).toNatClampNeg)))))]) gdJ6_getChars_ba4f3_95.2.2.2.2.2.1 rfl 0 rfl rfl ?_
        refine aw_iload (q := 106) gdJ6_getChars_ba4f3_95.2.2.2.2.2.2.1 rfl 3 rfl ?_
        refine aw_if_eqF (q := 109) (off := 12) (tgt := 118) gdJ6_getChars_ba4f3_95.2.2.2.2.2.2.2 (by decide) rfl (by decide) ?_
        refine aw_aload_n (q := 110) gdJ6_getChars_ba4f3_109.1 rfl 2 rfl ?_
        refine aw_iinc (q := 113) (v := (((l5 + (-1 : Int32)) + (-1 : Int32)) + (-1 : Int32))) (lv' := [(5, .int (((l5 + (-1 : Int32)) + (-1 : Int32)) + (-1 : Int32))), (0, .int l0), (2, .ref a), (6, .int (1 : Int32))]) gdJ6_getChars_ba4f3_109.2.1 rfl 0 rfl rfl (by decide) rfl ?_
        refine aw_iload (q := 115) gdJ6_getChars_ba4f3_109.2.2.1 rfl 0 rfl ?_
        refine aw_bipush (q := 117) (v := 45) gdJ6_getChars_ba4f3_109.2.2.2.1 rfl (by decide) ?_
        refine aw_bast (q := 118) (ws' := [(a, .inl (5, n, .inl (upd (upd (upd f_ (l5 + (-1 : Int32)).toNatClampNeg (vp_nar .byte ((fun j => Int32.ofNat (48 + j % 10)) (-l0).toNatClampNeg))) ((l5 + (-1 : Int32)) + (-1 : Int32)).toNatClampNeg (vp_nar .byte ((fun j => Int32.ofNat (48 + j / 10)) (-l0).toNatClampNeg))) (((l5 + (-1 : Int32)) + (-1 : Int32)) + (-1 : Int32)).toNatClampNeg (vp_nar .byte (45 : Int32)))))]) gdJ6_getChars_ba4f3_109.2.2.2.2.1 rfl 0 rfl rfl ?_
        refine aw_iload (q := 120) gdJ6_getChars_ba4f3_109.2.2.2.2.2.1 rfl 0 rfl ?_
        exact aw_ireturn (w := [(a, .inl (5, n, .inl (upd (upd (upd f_ (l5 + (-1 : Int32)).toNatClampNeg (vp_nar .byte ((fun j => Int32.ofNat (48 + j % 10)) (-l0).toNatClampNeg))) ((l5 + (-1 : Int32)) + (-1 : Int32)).toNatClampNeg (vp_nar .byte ((fun j => Int32.ofNat (48 + j / 10)) (-l0).toNatClampNeg))) (((l5 + (-1 : Int32)) + (-1 : Int32)) + (-1 : Int32)).toNatClampNeg (vp_nar .byte (45 : Int32)))))]) [0] gdJ6_getChars_ba4f3_109.2.2.2.2.2.2 rfl rfl rfl rfl (PN.mk (fun _ => 0) rfl rfl)
    · refine aw_iload_n (q := 29) gdJ6_getChars_ba4f3_28.1 rfl 0 rfl ?_
      refine aw_bipush (q := 31) (v := 100) gdJ6_getChars_ba4f3_28.2.1 rfl (by decide) ?_
      refine aw_idivT (q := 32) gdJ6_getChars_ba4f3_28.2.2.1 rfl (by decide) ?_
      refine aw_istore_n (q := 33) (lv' := [(3, .int (l0 / (100 : Int32))), (0, .int l0), (2, .ref a), (5, .int l5), (6, .int (1 : Int32))]) gdJ6_getChars_ba4f3_28.2.2.2.1 rfl (by decide) rfl ?_
      refine aw_iload_n (q := 34) gdJ6_getChars_ba4f3_28.2.2.2.2.1 rfl 0 rfl ?_
      refine aw_bipush (q := 36) (v := 100) gdJ6_getChars_ba4f3_28.2.2.2.2.2.1 rfl (by decide) ?_
      refine aw_imul (q := 37) gdJ6_getChars_ba4f3_28.2.2.2.2.2.2.1 rfl ?_
      refine aw_iload_n (q := 38) gdJ6_getChars_ba4f3_28.2.2.2.2.2.2.2 rfl 1 rfl ?_
      refine aw_isub (q := 39) gdJ6_getChars_ba4f3_38.1 rfl ?_
      refine aw_istore (q := 41) (lv' := [(4, .int (((l0 / (100 : Int32)) * (100 : Int32)) - l0)), (3, .int (l0 / (100 : Int32))), (0, .int l0), (2, .ref a), (5, .int l5), (6, .int (1 : Int32))]) gdJ6_getChars_ba4f3_38.2.1 rfl (by decide) rfl ?_
      refine aw_iload_n (q := 42) gdJ6_getChars_ba4f3_38.2.2.1 rfl 1 rfl ?_
      refine aw_istore_n (q := 43) (lv' := [(0, .int (l0 / (100 : Int32))), (4, .int (((l0 / (100 : Int32)) * (100 : Int32)) - l0)), (3, .int (l0 / (100 : Int32))), (2, .ref a), (5, .int l5), (6, .int (1 : Int32))]) gdJ6_getChars_ba4f3_38.2.2.2.1 rfl (by decide) rfl ?_
      refine aw_aload_n (q := 44) gdJ6_getChars_ba4f3_38.2.2.2.2.1 rfl 3 rfl ?_
      refine aw_iinc (q := 47) (v := (l5 + (-1 : Int32))) (lv' := [(5, .int (l5 + (-1 : Int32))), (0, .int (l0 / (100 : Int32))), (4, .int (((l0 / (100 : Int32)) * (100 : Int32)) - l0)), (3, .int (l0 / (100 : Int32))), (2, .ref a), (6, .int (1 : Int32))]) gdJ6_getChars_ba4f3_38.2.2.2.2.2.1 rfl 4 rfl rfl (by decide) rfl ?_
      refine aw_iload (q := 49) gdJ6_getChars_ba4f3_38.2.2.2.2.2.2.1 rfl 0 rfl ?_
      refine aw_tab2 (q := 55) (S := "DigitOnes") (tb := (fun j => Int32.ofNat (48 + j % 10))) gdJ6_getChars_ba4f3_38.2.2.2.2.2.2.2 gdJ6_getChars_ba4f3_52.1 gdJ6_getChars_ba4f3_52.2.1 rfl gs_J6_83 (List.mem_of_getElem? (i := 0) rfl) 2 rfl ?_
      refine aw_bast (q := 56) (ws' := [(a, .inl (5, n, .inl (upd f_ (l5 + (-1 : Int32)).toNatClampNeg (vp_nar .byte ((fun j => Int32.ofNat (48 + j % 10)) (((l0 / (100 : Int32)) * (100 : Int32)) - l0).toNatClampNeg)))))]) gdJ6_getChars_ba4f3_52.2.2.1 rfl 0 rfl rfl ?_
      refine aw_aload_n (q := 57) gdJ6_getChars_ba4f3_52.2.2.2.1 rfl 4 rfl ?_
      refine aw_iinc (q := 60) (v := ((l5 + (-1 : Int32)) + (-1 : Int32))) (lv' := [(5, .int ((l5 + (-1 : Int32)) + (-1 : Int32))), (0, .int (l0 / (100 : Int32))), (4, .int (((l0 / (100 : Int32)) * (100 : Int32)) - l0)), (3, .int (l0 / (100 : Int32))), (2, .ref a), (6, .int (1 : Int32))]) gdJ6_getChars_ba4f3_52.2.2.2.2.1 rfl 0 rfl rfl (by decide) rfl ?_
      refine aw_iload (q := 62) gdJ6_getChars_ba4f3_52.2.2.2.2.2.1 rfl 0 rfl ?_
      refine aw_tab2 (q := 68) (S := "DigitTens") (tb := (fun j => Int32.ofNat (48 + j / 10))) gdJ6_getChars_ba4f3_52.2.2.2.2.2.2.1 gdJ6_getChars_ba4f3_52.2.2.2.2.2.2.2 gdJ6_getChars_ba4f3_67.1 rfl gs_J6_87 (List.mem_of_getElem? (i := 1) rfl) 2 rfl ?_
      refine aw_bast (q := 69) (ws' := [(a, .inl (5, n, .inl (upd (upd f_ (l5 + (-1 : Int32)).toNatClampNeg (vp_nar .byte ((fun j => Int32.ofNat (48 + j % 10)) (((l0 / (100 : Int32)) * (100 : Int32)) - l0).toNatClampNeg))) ((l5 + (-1 : Int32)) + (-1 : Int32)).toNatClampNeg (vp_nar .byte ((fun j => Int32.ofNat (48 + j / 10)) (((l0 / (100 : Int32)) * (100 : Int32)) - l0).toNatClampNeg)))))]) gdJ6_getChars_ba4f3_67.2.1 rfl 0 rfl rfl ?_
      refine aw_goto (tgt := 22) gdJ6_getChars_ba4f3_67.2.2.1 (by decide) ?_
      refine aw_locals (lv' := [(0, .int (l0 / (100 : Int32))), (2, .ref a), (5, .int ((l5 + (-1 : Int32)) + (-1 : Int32))), (6, .int (1 : Int32))]) [1, 4, 0, 5] rfl ?_
      exact ih _ _ _
def fJ_getChars (N K : Nat) (n : Nat) (f : Nat → Int32) (p0 : Int32) (p1 : Int32) : Option (Int32 × (Nat → Int32)) :=
  (if 0 ≤ p0 then fJ_getChars_22 N K n f p0 p1  N (-p0) p1 f else fJ_getChars_22v N K n f p0 p1  N p0 p1 f)
set_option maxHeartbeats 4000000 in
set_option maxRecDepth 100000 in
theorem ok_J_getChars {N K : Nat} {a : Nat} {n : Nat} {f : Nat → Int32} {p0 : Int32} {p1 : Int32} {xr : Int32 × (Nat → Int32)} (hE : fJ_getChars N K n f p0 p1 = some xr) : OkM yJ6_getChars_ba4f3 (.code yJ6_getChars_ba4f3 cJ6_getChars_ba4f3 7 (some .int)) (0) 0 0 [.int p0, .int p1, .ref a] [(a, .inl (5, n, .inl f))] ((PN (U := Int32 × (Nat → Int32)) (fun zz _ => some (.int zz.1)) (fun zz ad => [(a, .inl (5, n, .inl zz.2))])) xr) := by
  refine ok_of (by decide) (Nat.le_of_ble_eq_true rfl) hE ?_
  refine aw_locals (lv' := [(0, .int p0), (1, .int p1), (2, .ref a)]) [0, 1, 2] rfl ?_
  refine aw_iload_n (q := 1) gdJ6_getChars_ba4f3_0.1 rfl 1 rfl ?_
  refine aw_istore (q := 3) (lv' := [(5, .int p1), (0, .int p0), (1, .int p1), (2, .ref a)]) gdJ6_getChars_ba4f3_0.2.1 rfl (by decide) rfl ?_
  refine aw_iload_n (q := 4) gdJ6_getChars_ba4f3_0.2.2.1 rfl 1 rfl ?_
  refine aw_if_ge (tgt := 11) (q := 7) gdJ6_getChars_ba4f3_0.2.2.2.1 (by decide) rfl (fun h_4 => ?_) (fun h_4 => ?_)
  · refine aw_iconst (q := 12) (v := 0) gdJ6_getChars_ba4f3_0.2.2.2.2.2.2.1 rfl (by decide) ?_
    refine aw_istore (q := 14) (lv' := [(6, .int (0 : Int32)), (5, .int p1), (0, .int p0), (1, .int p1), (2, .ref a)]) gdJ6_getChars_ba4f3_0.2.2.2.2.2.2.2 rfl (by decide) rfl ?_
    refine aw_iload (q := 16) gdJ6_getChars_ba4f3_14.1 rfl 0 rfl ?_
    refine aw_if_neF (q := 19) (off := 6) (tgt := 22) gdJ6_getChars_ba4f3_14.2.1 (by decide) rfl (by decide) ?_
    refine aw_iload_n (q := 20) gdJ6_getChars_ba4f3_14.2.2.1 rfl 2 rfl ?_
    refine aw_ineg (q := 21) gdJ6_getChars_ba4f3_14.2.2.2.1 rfl ?_
    refine aw_istore_n (q := 22) (lv' := [(0, .int (-p0)), (6, .int (0 : Int32)), (5, .int p1), (1, .int p1), (2, .ref a)]) gdJ6_getChars_ba4f3_14.2.2.2.2.1 rfl (by decide) rfl ?_
    refine aw_locals (lv' := [(0, .int (-p0)), (2, .ref a), (5, .int p1), (6, .int (0 : Int32))]) [0, 4, 2, 1] rfl ?_
    exact tJ_getChars_22  N _ _ _
  · refine aw_iconst (q := 8) (v := 1) gdJ6_getChars_ba4f3_0.2.2.2.2.1 rfl (by decide) ?_
    refine aw_goto (tgt := 12) gdJ6_getChars_ba4f3_0.2.2.2.2.2.1 (by decide) ?_
    refine aw_istore (q := 14) (lv' := [(6, .int (1 : Int32)), (5, .int p1), (0, .int p0), (1, .int p1), (2, .ref a)]) gdJ6_getChars_ba4f3_0.2.2.2.2.2.2.2 rfl (by decide) rfl ?_
    refine aw_iload (q := 16) gdJ6_getChars_ba4f3_14.1 rfl 0 rfl ?_
    refine aw_if_neT (tgt := 22) gdJ6_getChars_ba4f3_14.2.1 (by decide) (by decide) ?_
    refine aw_locals (lv' := [(0, .int p0), (2, .ref a), (5, .int p1), (6, .int (1 : Int32))]) [2, 4, 1, 0] rfl ?_
    exact tJ_getChars_22v  N _ _ _
def fJ_appendC5 (N K : Nat) (cnt : Int32) (n : Nat) (f : Nat → Int32) (p0 : Int32) : Option (Int32 × Nat × (Nat → Int32)) :=
  ((fJ_ensure N K cnt n f (cnt + (1 : Int32))).bind (fun x7 => ((fJ_isLatin1 N K cnt x7.1 x7.2).bind (fun x11 => (if x11 = 0 then ((fJ_isLatin1 N K cnt x7.1 x7.2).bind (fun x46 => (if x46 = 0 then none else none))) else ((fJ_canEncode N K p0).bind (fun x18 => (if x18 = 0 then ((fJ_isLatin1 N K cnt x7.1 x7.2).bind (fun x46_1 => (if x46_1 = 0 then none else none))) else (if cnt < 0 ∨ x7.1 ≤ cnt.toNatClampNeg then none else (some ((cnt + (1 : Int32)), x7.1, (upd x7.2 cnt.toNatClampNeg (vp_nar .byte p0.toInt8.toInt32)))))))))))))
set_option maxHeartbeats 4000000 in
set_option maxRecDepth 100000 in
theorem ok_J_appendC5 {N K : Nat} {b v : Nat} {cnt : Int32} {n : Nat} {f : Nat → Int32} {p0 : Int32} {xr : Int32 × Nat × (Nat → Int32)} (hE : fJ_appendC5 N K cnt n f p0 = some xr) : OkM yJ5_append_3fe6f (.code yJ5_append_3fe6f cJ5_append_3fe6f 2 (some (.object "java/lang/AbstractStringBuilder"))) (4) 1 80 [.ref b, .int p0] [(b, .inr (1, [.ref v, .int (0 : Int32), .int (0 : Int32), .int cnt])), (v, .inl (5, n, .inl f))] ((PN (U := Int32 × Nat × (Nat → Int32)) (fun _ _ => some (.ref b)) (fun zz ad => [(b, .inr (1, [.ref (ad 0), .int (0 : Int32), .int (0 : Int32), .int zz.1])), ((ad 0), .inl (5, zz.2.1, .inl zz.2.2))])) xr) := by
  refine ok_of (by decide) (Nat.le_of_ble_eq_true rfl) hE ?_
  refine aw_locals (lv' := [(0, .ref b), (1, .int p0)]) [0, 1] rfl ?_
  refine aw_aload_n (q := 1) gdJ5_append_3fe6f_0.1 rfl 0 rfl ?_
  refine aw_aload_n (q := 2) gdJ5_append_3fe6f_0.2.1 rfl 0 rfl ?_
  refine aw_get (q := 5) gdJ5_append_3fe6f_0.2.2.1 rfl fl_J5_79 0 rfl rfl ?_
  refine aw_iconst (q := 6) (v := 1) gdJ5_append_3fe6f_0.2.2.2.1 rfl (by decide) ?_
  refine aw_iadd (q := 7) gdJ5_append_3fe6f_0.2.2.2.2.1 rfl ?_
  refine aw_call (q := 10) (kc1 := 0) (ks1 := 0) (wc := [(b, .inr (1, [.ref v, .int (0 : Int32), .int (0 : Int32), .int cnt])), (v, .inl (5, n, .inl f))]) (wr := []) (st1 := fun x7 g7 => []) (ws1 := fun x7 g7 => [(b, .inr (1, [.ref (g7 0), .int (0 : Int32), .int (0 : Int32), .int cnt])), ((g7 0), .inl (5, x7.1, .inl x7.2))]) (As := [.ref b, .int (cnt + (1 : Int32))]) [0, 1] [] (fun _ => runU (q0 := 0) gdJ5_append_3fe6f_0.2.2.2.2.2.1 mi_J5_ensureCapacityInternal_d00df im_J5_ensureCapacityInternal_d00df (fun _ _ h9 h8 => sel_sub (h9 _ su_J5_isLatin1_aae02) rfl (by decide +kernel) (NGW_use pv_J5_ensureCapacityInternal_d00df (h8 _ pv_J5_ensureCapacityInternal_d00df)) (h9 _ im_J5_ensureCapacityInternal_d00df)) sm_J5_ensureCapacityInternal_d00df im_J5_ensureCapacityInternal_d00df cd_J5_ensureCapacityInternal_d00df ml_J5_100 (by decide +kernel) (by omega) rfl (Nat.le_of_ble_eq_true rfl) rfl rfl rfl rfl) (fun x9 h9 => ok_J_ensure h9) rfl rfl rfl rfl rfl (by decide +kernel) (by omega) (by omega) (fun _ _ => rfl) (fun _ _ => rfl) (fun x7 g7 => ?_)
  refine aw_aload_n (q := 11) gdJ5_append_3fe6f_0.2.2.2.2.2.2.1 rfl 0 rfl ?_
  refine aw_call (q := 14) (kc1 := 0) (ks1 := 0) (wc := [(b, .inr (1, [.ref (g7 0), .int (0 : Int32), .int (0 : Int32), .int cnt])), ((g7 0), .inl (5, x7.1, .inl x7.2))]) (wr := []) (st1 := fun x11 g11 => [.int x11]) (ws1 := fun x11 g11 => [(b, .inr (1, [.ref (g7 0), .int (0 : Int32), .int (0 : Int32), .int cnt])), ((g7 0), .inl (5, x7.1, .inl x7.2))]) (As := [.ref b]) [0, 1] [] (fun _ => runU (q0 := 0) gdJ5_append_3fe6f_0.2.2.2.2.2.2.2 mi_J5_isLatin1_aae02 im_J5_isLatin1_aae02 (fun _ _ h9 _ => h9 _ su_J5_isLatin1_aae02) sm_J5_isLatin1_aae02 im_J5_isLatin1_aae02 cd_J5_isLatin1_aae02 ml_J5_83 (by decide +kernel) (by omega) rfl (Nat.le_of_ble_eq_true rfl) rfl rfl rfl rfl) (fun x9 h9 => ok_J_isLatin1 h9) rfl rfl rfl rfl rfl (by decide +kernel) (by omega) (by omega) (fun _ _ => rfl) (fun _ _ => rfl) (fun x11 g11 => ?_)
  refine aw_if_eq (tgt := 45) (q := 17) gdJ5_append_3fe6f_14.1 (by decide) rfl (fun h_14 => ?_) (fun h_14 => ?_)
  · refine aw_aload_n (q := 46) gdJ5_append_3fe6f_42.2.1 rfl 0 rfl ?_
    refine aw_call (q := 49) (kc1 := 0) (ks1 := 0) (wc := [(b, .inr (1, [.ref (g7 0), .int (0 : Int32), .int (0 : Int32), .int cnt])), ((g7 0), .inl (5, x7.1, .inl x7.2))]) (wr := []) (st1 := fun x46 g46 => [.int x46]) (ws1 := fun x46 g46 => [(b, .inr (1, [.ref (g7 0), .int (0 : Int32), .int (0 : Int32), .int cnt])), ((g7 0), .inl (5, x7.1, .inl x7.2))]) (As := [.ref b]) [0, 1] [] (fun _ => runU (q0 := 0) gdJ5_append_3fe6f_42.2.2.1 mi_J5_isLatin1_aae02 im_J5_isLatin1_aae02 (fun _ _ h9 _ => h9 _ su_J5_isLatin1_aae02) sm_J5_isLatin1_aae02 im_J5_isLatin1_aae02 cd_J5_isLatin1_aae02 ml_J5_83 (by decide +kernel) (by omega) rfl (Nat.le_of_ble_eq_true rfl) rfl rfl rfl rfl) (fun x9 h9 => ok_J_isLatin1 h9) rfl rfl rfl rfl rfl (by decide +kernel) (by omega) (by omega) (fun _ _ => rfl) (fun _ _ => rfl) (fun x46 g46 => ?_)
    refine aw_if_eq (tgt := 56) (q := 52) gdJ5_append_3fe6f_42.2.2.2.1 (by decide) rfl (fun h_49 => ?_) (fun h_49 => ?_)
    · refine aw_aload_n (q := 57) gdJ5_append_3fe6f_42.2.2.2.2.2.1 rfl 0 rfl ?_
      refine aw_get (q := 60) gdJ5_append_3fe6f_42.2.2.2.2.2.2.1 rfl fl_J5_15 0 rfl rfl ?_
      refine aw_aload_n (q := 61) gdJ5_append_3fe6f_42.2.2.2.2.2.2.2 rfl 0 rfl ?_
      refine aw_dup (q := 62) gdJ5_append_3fe6f_61.1 rfl rfl ?_
      refine aw_get (q := 65) gdJ5_append_3fe6f_61.2.1 rfl fl_J5_79 0 rfl rfl ?_
      refine aw_dup_x1 (q := 66) gdJ5_append_3fe6f_61.2.2.1 rfl rfl rfl ?_
      refine aw_iconst (q := 67) (v := 1) gdJ5_append_3fe6f_61.2.2.2.1 rfl (by decide) ?_
      refine aw_iadd (q := 68) gdJ5_append_3fe6f_61.2.2.2.2.1 rfl ?_
      refine aw_put (q := 71) (ws' := [(b, .inr (1, [.ref (g7 0), .int (0 : Int32), .int (0 : Int32), .int (cnt + (1 : Int32))])), ((g7 0), .inl (5, x7.1, .inl x7.2))]) gdJ5_append_3fe6f_61.2.2.2.2.2.1 rfl fl_J5_79 0 rfl rfl rfl (Nat.le_of_ble_eq_true rfl) rfl ?_
      refine aw_iload_n (q := 72) gdJ5_append_3fe6f_61.2.2.2.2.2.2.1 rfl 1 rfl ?_
      exact aw_none
    · refine aw_aload_n (q := 53) gdJ5_append_3fe6f_42.2.2.2.2.1 rfl 0 rfl ?_
      exact aw_none
  · refine aw_iload_n (q := 18) gdJ5_append_3fe6f_14.2.1 rfl 1 rfl ?_
    refine aw_call (q := 21) (kc1 := 0) (ks1 := 0) (wc := []) (wr := [(b, .inr (1, [.ref (g7 0), .int (0 : Int32), .int (0 : Int32), .int cnt])), ((g7 0), .inl (5, x7.1, .inl x7.2))]) (st1 := fun x18 g18 => [.int x18]) (ws1 := fun x18 g18 => [(b, .inr (1, [.ref (g7 0), .int (0 : Int32), .int (0 : Int32), .int cnt])), ((g7 0), .inl (5, x7.1, .inl x7.2))]) (As := [.int p0]) [] [0, 1] (fun _ => runS gdJ5_append_3fe6f_14.2.2.1 mi_J1_canEncode_fc78d st_J1_canEncode_fc78d ml_J5_191 (by omega) rfl (Nat.le_of_ble_eq_true rfl) rfl) (fun x9 h9 => ok_J_canEncode h9) rfl rfl rfl rfl rfl (by decide +kernel) (by omega) (by omega) (fun _ _ => rfl) (fun _ _ => rfl) (fun x18 g18 => ?_)
    refine aw_if_eq (tgt := 45) (q := 24) gdJ5_append_3fe6f_14.2.2.2.1 (by decide) rfl (fun h_21 => ?_) (fun h_21 => ?_)
    · refine aw_aload_n (q := 46) gdJ5_append_3fe6f_42.2.1 rfl 0 rfl ?_
      refine aw_call (q := 49) (kc1 := 0) (ks1 := 0) (wc := [(b, .inr (1, [.ref (g7 0), .int (0 : Int32), .int (0 : Int32), .int cnt])), ((g7 0), .inl (5, x7.1, .inl x7.2))]) (wr := []) (st1 := fun x46_1 g46_1 => [.int x46_1]) (ws1 := fun x46_1 g46_1 => [(b, .inr (1, [.ref (g7 0), .int (0 : Int32), .int (0 : Int32), .int cnt])), ((g7 0), .inl (5, x7.1, .inl x7.2))]) (As := [.ref b]) [0, 1] [] (fun _ => runU (q0 := 0) gdJ5_append_3fe6f_42.2.2.1 mi_J5_isLatin1_aae02 im_J5_isLatin1_aae02 (fun _ _ h9 _ => h9 _ su_J5_isLatin1_aae02) sm_J5_isLatin1_aae02 im_J5_isLatin1_aae02 cd_J5_isLatin1_aae02 ml_J5_83 (by decide +kernel) (by omega) rfl (Nat.le_of_ble_eq_true rfl) rfl rfl rfl rfl) (fun x9 h9 => ok_J_isLatin1 h9) rfl rfl rfl rfl rfl (by decide +kernel) (by omega) (by omega) (fun _ _ => rfl) (fun _ _ => rfl) (fun x46_1 g46_1 => ?_)
      refine aw_if_eq (tgt := 56) (q := 52) gdJ5_append_3fe6f_42.2.2.2.1 (by decide) rfl (fun h_49 => ?_) (fun h_49 => ?_)
      · refine aw_aload_n (q := 57) gdJ5_append_3fe6f_42.2.2.2.2.2.1 rfl 0 rfl ?_
        refine aw_get (q := 60) gdJ5_append_3fe6f_42.2.2.2.2.2.2.1 rfl fl_J5_15 0 rfl rfl ?_
        refine aw_aload_n (q := 61) gdJ5_append_3fe6f_42.2.2.2.2.2.2.2 rfl 0 rfl ?_
        refine aw_dup (q := 62) gdJ5_append_3fe6f_61.1 rfl rfl ?_
        refine aw_get (q := 65) gdJ5_append_3fe6f_61.2.1 rfl fl_J5_79 0 rfl rfl ?_
        refine aw_dup_x1 (q := 66) gdJ5_append_3fe6f_61.2.2.1 rfl rfl rfl ?_
        refine aw_iconst (q := 67) (v := 1) gdJ5_append_3fe6f_61.2.2.2.1 rfl (by decide) ?_
        refine aw_iadd (q := 68) gdJ5_append_3fe6f_61.2.2.2.2.1 rfl ?_
        refine aw_put (q := 71) (ws' := [(b, .inr (1, [.ref (g7 0), .int (0 : Int32), .int (0 : Int32), .int (cnt + (1 : Int32))])), ((g7 0), .inl (5, x7.1, .inl x7.2))]) gdJ5_append_3fe6f_61.2.2.2.2.2.1 rfl fl_J5_79 0 rfl rfl rfl (Nat.le_of_ble_eq_true rfl) rfl ?_
        refine aw_iload_n (q := 72) gdJ5_append_3fe6f_61.2.2.2.2.2.2.1 rfl 1 rfl ?_
        exact aw_none
      · refine aw_aload_n (q := 53) gdJ5_append_3fe6f_42.2.2.2.2.1 rfl 0 rfl ?_
        exact aw_none
    · refine aw_aload_n (q := 25) gdJ5_append_3fe6f_14.2.2.2.2.1 rfl 0 rfl ?_
      refine aw_get (q := 28) gdJ5_append_3fe6f_14.2.2.2.2.2.1 rfl fl_J5_15 0 rfl rfl ?_
      refine aw_aload_n (q := 29) gdJ5_append_3fe6f_14.2.2.2.2.2.2.1 rfl 0 rfl ?_
      refine aw_dup (q := 30) gdJ5_append_3fe6f_14.2.2.2.2.2.2.2 rfl rfl ?_
      refine aw_get (q := 33) gdJ5_append_3fe6f_30.1 rfl fl_J5_79 0 rfl rfl ?_
      refine aw_dup_x1 (q := 34) gdJ5_append_3fe6f_30.2.1 rfl rfl rfl ?_
      refine aw_iconst (q := 35) (v := 1) gdJ5_append_3fe6f_30.2.2.1 rfl (by decide) ?_
      refine aw_iadd (q := 36) gdJ5_append_3fe6f_30.2.2.2.1 rfl ?_
      refine aw_put (q := 39) (ws' := [(b, .inr (1, [.ref (g7 0), .int (0 : Int32), .int (0 : Int32), .int (cnt + (1 : Int32))])), ((g7 0), .inl (5, x7.1, .inl x7.2))]) gdJ5_append_3fe6f_30.2.2.2.2.1 rfl fl_J5_79 0 rfl rfl rfl (Nat.le_of_ble_eq_true rfl) rfl ?_
      refine aw_iload_n (q := 40) gdJ5_append_3fe6f_30.2.2.2.2.2.1 rfl 1 rfl ?_
      refine aw_i2b (q := 41) gdJ5_append_3fe6f_30.2.2.2.2.2.2.1 rfl ?_
      refine aw_bast (q := 42) (ws' := [(b, .inr (1, [.ref (g7 0), .int (0 : Int32), .int (0 : Int32), .int (cnt + (1 : Int32))])), ((g7 0), .inl (5, x7.1, .inl (upd x7.2 cnt.toNatClampNeg (vp_nar .byte p0.toInt8.toInt32))))]) gdJ5_append_3fe6f_30.2.2.2.2.2.2.2 rfl 1 rfl rfl ?_
      refine aw_goto (tgt := 75) gdJ5_append_3fe6f_42.1 (by decide) ?_
      refine aw_aload_n (q := 76) gdJ5_append_3fe6f_61.2.2.2.2.2.2.2 rfl 0 rfl ?_
      exact aw_areturn (w := [(b, .inr (1, [.ref (g7 0), .int (0 : Int32), .int (0 : Int32), .int (cnt + (1 : Int32))])), ((g7 0), .inl (5, x7.1, .inl (upd x7.2 cnt.toNatClampNeg (vp_nar .byte p0.toInt8.toInt32))))]) [0, 1] dJ5_append_3fe6f_76 rfl (Or.inl ⟨_, rfl⟩) rfl rfl (PN.mk (fun j => if j = 0 then (g7 0) else 0) rfl rfl)
def fJ_appendI5 (N K : Nat) (cnt : Int32) (n : Nat) (f : Nat → Int32) (p0 : Int32) : Option (Int32 × Nat × (Nat → Int32)) :=
  ((fJ_size N K p0).bind (fun x7 => ((fJ_ensure N K cnt n f (cnt + x7)).bind (fun x14 => ((fJ_isLatin1 N K cnt x14.1 x14.2).bind (fun x18 => (if x18 = 0 then none else ((fJ_getChars N K x14.1 x14.2 p0 (cnt + x7)).bind (fun x30 => (some ((cnt + x7), x14.1, x30.2)))))))))))
set_option maxHeartbeats 4000000 in
set_option maxRecDepth 100000 in
theorem ok_J_appendI5 {N K : Nat} {b v : Nat} {cnt : Int32} {n : Nat} {f : Nat → Int32} {p0 : Int32} {xr : Int32 × Nat × (Nat → Int32)} (hE : fJ_appendI5 N K cnt n f p0 = some xr) : OkM yJ5_append_c97b9 (.code yJ5_append_c97b9 cJ5_append_c97b9 4 (some (.object "java/lang/AbstractStringBuilder"))) (4) 1 80 [.ref b, .int p0] [(b, .inr (1, [.ref v, .int (0 : Int32), .int (0 : Int32), .int cnt])), (v, .inl (5, n, .inl f))] ((PN (U := Int32 × Nat × (Nat → Int32)) (fun _ _ => some (.ref b)) (fun zz ad => [(b, .inr (1, [.ref (ad 0), .int (0 : Int32), .int (0 : Int32), .int zz.1])), ((ad 0), .inl (5, zz.2.1, .inl zz.2.2))])) xr) := by
  refine ok_of (by decide) (Nat.le_of_ble_eq_true rfl) hE ?_
  refine aw_locals (lv' := [(0, .ref b), (1, .int p0)]) [0, 1] rfl ?_
  refine aw_aload_n (q := 1) gdJ5_append_c97b9_0.1 rfl 0 rfl ?_
  refine aw_get (q := 4) gdJ5_append_c97b9_0.2.1 rfl fl_J5_79 0 rfl rfl ?_
  refine aw_istore_n (q := 5) (lv' := [(2, .int cnt), (0, .ref b), (1, .int p0)]) gdJ5_append_c97b9_0.2.2.1 rfl (by decide) rfl ?_
  refine aw_iload_n (q := 6) gdJ5_append_c97b9_0.2.2.2.1 rfl 0 rfl ?_
  refine aw_iload_n (q := 7) gdJ5_append_c97b9_0.2.2.2.2.1 rfl 2 rfl ?_
  refine aw_call (q := 10) (kc1 := 1) (ks1 := 80) (wc := []) (wr := [(b, .inr (1, [.ref v, .int (0 : Int32), .int (0 : Int32), .int cnt])), (v, .inl (5, n, .inl f))]) (st1 := fun x7 g7 => [.int x7, .int cnt]) (ws1 := fun x7 g7 => [(b, .inr (1, [.ref v, .int (0 : Int32), .int (0 : Int32), .int cnt])), (v, .inl (5, n, .inl f))]) (As := [.int p0]) [] [0, 1] (fun _ => runS gdJ5_append_c97b9_0.2.2.2.2.2.1 mi_J6_stringSize_0f7a4 st_J6_stringSize_0f7a4 ml_J5_245 (by omega) rfl (Nat.le_of_ble_eq_true rfl) rfl) (fun x9 h9 => ok_J_size h9) rfl rfl rfl rfl rfl (by decide +kernel) (by omega) (by omega) (fun _ _ => rfl) (fun _ _ => rfl) (fun x7 g7 => ?_)
  refine aw_iadd (q := 11) gdJ5_append_c97b9_0.2.2.2.2.2.2.1 rfl ?_
  refine aw_istore_n (q := 12) (lv' := [(3, .int (cnt + x7)), (2, .int cnt), (0, .ref b), (1, .int p0)]) gdJ5_append_c97b9_0.2.2.2.2.2.2.2 rfl (by decide) rfl ?_
  refine aw_aload_n (q := 13) gdJ5_append_c97b9_12.1 rfl 2 rfl ?_
  refine aw_iload_n (q := 14) gdJ5_append_c97b9_12.2.1 rfl 0 rfl ?_
  refine aw_call (q := 17) (kc1 := 0) (ks1 := 0) (wc := [(b, .inr (1, [.ref v, .int (0 : Int32), .int (0 : Int32), .int cnt])), (v, .inl (5, n, .inl f))]) (wr := []) (st1 := fun x14 g14 => []) (ws1 := fun x14 g14 => [(b, .inr (1, [.ref (g14 0), .int (0 : Int32), .int (0 : Int32), .int cnt])), ((g14 0), .inl (5, x14.1, .inl x14.2))]) (As := [.ref b, .int (cnt + x7)]) [0, 1] [] (fun _ => runU (q0 := 0) gdJ5_append_c97b9_12.2.2.1 mi_J5_ensureCapacityInternal_d00df im_J5_ensureCapacityInternal_d00df (fun _ _ h9 h8 => sel_sub (h9 _ su_J5_isLatin1_aae02) rfl (by decide +kernel) (NGW_use pv_J5_ensureCapacityInternal_d00df (h8 _ pv_J5_ensureCapacityInternal_d00df)) (h9 _ im_J5_ensureCapacityInternal_d00df)) sm_J5_ensureCapacityInternal_d00df im_J5_ensureCapacityInternal_d00df cd_J5_ensureCapacityInternal_d00df ml_J5_100 (by decide +kernel) (by omega) rfl (Nat.le_of_ble_eq_true rfl) rfl rfl rfl rfl) (fun x9 h9 => ok_J_ensure h9) rfl rfl rfl rfl rfl (by decide +kernel) (by omega) (by omega) (fun _ _ => rfl) (fun _ _ => rfl) (fun x14 g14 => ?_)
  refine aw_aload_n (q := 18) gdJ5_append_c97b9_12.2.2.2.1 rfl 2 rfl ?_
  refine aw_call (q := 21) (kc1 := 0) (ks1 := 0) (wc := [(b, .inr (1, [.ref (g14 0), .int (0 : Int32), .int (0 : Int32), .int cnt])), ((g14 0), .inl (5, x14.1, .inl x14.2))]) (wr := []) (st1 := fun x18 g18 => [.int x18]) (ws1 := fun x18 g18 => [(b, .inr (1, [.ref (g14 0), .int (0 : Int32), .int (0 : Int32), .int cnt])), ((g14 0), .inl (5, x14.1, .inl x14.2))]) (As := [.ref b]) [0, 1] [] (fun _ => runU (q0 := 0) gdJ5_append_c97b9_12.2.2.2.2.1 mi_J5_isLatin1_aae02 im_J5_isLatin1_aae02 (fun _ _ h9 _ => h9 _ su_J5_isLatin1_aae02) sm_J5_isLatin1_aae02 im_J5_isLatin1_aae02 cd_J5_isLatin1_aae02 ml_J5_83 (by decide +kernel) (by omega) rfl (Nat.le_of_ble_eq_true rfl) rfl rfl rfl rfl) (fun x9 h9 => ok_J_isLatin1 h9) rfl rfl rfl rfl rfl (by decide +kernel) (by omega) (by omega) (fun _ _ => rfl) (fun _ _ => rfl) (fun x18 g18 => ?_)
  refine aw_if_eq (tgt := 37) (q := 24) gdJ5_append_c97b9_12.2.2.2.2.2.1 (by decide) rfl (fun h_21 => ?_) (fun h_21 => ?_)
  · refine aw_iload_n (q := 38) gdJ5_append_c97b9_26.2.2.2.2.2.1 rfl 3 rfl ?_
    refine aw_iload_n (q := 39) gdJ5_append_c97b9_26.2.2.2.2.2.2.1 rfl 1 rfl ?_
    refine aw_iload_n (q := 40) gdJ5_append_c97b9_26.2.2.2.2.2.2.2 rfl 0 rfl ?_
    refine aw_aload_n (q := 41) gdJ5_append_c97b9_40.1 rfl 2 rfl ?_
    refine aw_get (q := 44) gdJ5_append_c97b9_40.2.1 rfl fl_J5_15 0 rfl rfl ?_
    exact aw_none
  · refine aw_iload_n (q := 25) gdJ5_append_c97b9_12.2.2.2.2.2.2.1 rfl 3 rfl ?_
    refine aw_iload_n (q := 26) gdJ5_append_c97b9_12.2.2.2.2.2.2.2 rfl 0 rfl ?_
    refine aw_aload_n (q := 27) gdJ5_append_c97b9_26.1 rfl 2 rfl ?_
    refine aw_get (q := 30) gdJ5_append_c97b9_26.2.1 rfl fl_J5_15 0 rfl rfl ?_
    refine aw_call (q := 33) (kc1 := 0) (ks1 := 0) (wc := [((g14 0), .inl (5, x14.1, .inl x14.2))]) (wr := [(b, .inr (1, [.ref (g14 0), .int (0 : Int32), .int (0 : Int32), .int cnt]))]) (st1 := fun x30 g30 => [.int x30.1]) (ws1 := fun x30 g30 => [(b, .inr (1, [.ref (g14 0), .int (0 : Int32), .int (0 : Int32), .int cnt])), ((g14 0), .inl (5, x14.1, .inl x30.2))]) (As := [.int p0, .int (cnt + x7), .ref (g14 0)]) [1] [0] (fun _ => runS gdJ5_append_c97b9_26.2.2.1 mi_J6_getChars_ba4f3 st_J6_getChars_ba4f3 ml_J5_248 (by omega) rfl (Nat.le_of_ble_eq_true rfl) rfl) (fun x9 h9 => ok_J_getChars h9) rfl rfl rfl rfl rfl (by decide +kernel) (by omega) (by omega) (fun _ _ => rfl) (fun _ _ => rfl) (fun x30 g30 => ?_)
    refine aw_pop (q := 34) gdJ5_append_c97b9_26.2.2.2.1 rfl rfl ?_
    refine aw_goto (tgt := 48) gdJ5_append_c97b9_26.2.2.2.2.1 (by decide) ?_
    refine aw_aload_n (q := 49) gdJ5_append_c97b9_40.2.2.1 rfl 2 rfl ?_
    refine aw_iload_n (q := 50) gdJ5_append_c97b9_40.2.2.2.1 rfl 0 rfl ?_
    refine aw_put (q := 53) (ws' := [(b, .inr (1, [.ref (g14 0), .int (0 : Int32), .int (0 : Int32), .int (cnt + x7)])), ((g14 0), .inl (5, x14.1, .inl x30.2))]) gdJ5_append_c97b9_40.2.2.2.2.1 rfl fl_J5_79 0 rfl rfl rfl (Nat.le_of_ble_eq_true rfl) rfl ?_
    refine aw_aload_n (q := 54) gdJ5_append_c97b9_40.2.2.2.2.2.1 rfl 2 rfl ?_
    exact aw_areturn (w := [(b, .inr (1, [.ref (g14 0), .int (0 : Int32), .int (0 : Int32), .int (cnt + x7)])), ((g14 0), .inl (5, x14.1, .inl x30.2))]) [0, 1] gdJ5_append_c97b9_40.2.2.2.2.2.2 rfl (Or.inl ⟨_, rfl⟩) rfl rfl (PN.mk (fun j => if j = 0 then (g14 0) else 0) rfl rfl)
def fJ_appendC (N K : Nat) (cnt : Int32) (n : Nat) (f : Nat → Int32) (p0 : Int32) : Option (Int32 × Nat × (Nat → Int32)) :=
  ((fJ_appendC5 N K cnt n f p0).bind (fun x2 => (some (x2.1, x2.2.1, x2.2.2))))
set_option maxHeartbeats 4000000 in
set_option maxRecDepth 100000 in
theorem ok_J_appendC {N K : Nat} {b v : Nat} {cnt : Int32} {n : Nat} {f : Nat → Int32} {p0 : Int32} {xr : Int32 × Nat × (Nat → Int32)} (hE : fJ_appendC N K cnt n f p0 = some xr) : OkM yJ4_append_cf468 (.code yJ4_append_cf468 cJ4_append_cf468 2 (some (.object "java/lang/StringBuilder"))) (5) 1 80 [.ref b, .int p0] [(b, .inr (1, [.ref v, .int (0 : Int32), .int (0 : Int32), .int cnt])), (v, .inl (5, n, .inl f))] ((PN (U := Int32 × Nat × (Nat → Int32)) (fun _ _ => some (.ref b)) (fun zz ad => [(b, .inr (1, [.ref (ad 0), .int (0 : Int32), .int (0 : Int32), .int zz.1])), ((ad 0), .inl (5, zz.2.1, .inl zz.2.2))])) xr) := by
  refine ok_of (by decide) (Nat.le_of_ble_eq_true rfl) hE ?_
  refine aw_locals (lv' := [(0, .ref b), (1, .int p0)]) [0, 1] rfl ?_
  refine aw_aload_n (q := 1) gdJ4_append_cf468_0.1 rfl 0 rfl ?_
  refine aw_iload_n (q := 2) gdJ4_append_cf468_0.2.1 rfl 1 rfl ?_
  refine aw_call (q := 5) (kc1 := 0) (ks1 := 0) (wc := [(b, .inr (1, [.ref v, .int (0 : Int32), .int (0 : Int32), .int cnt])), (v, .inl (5, n, .inl f))]) (wr := []) (st1 := fun x2 g2 => [.ref b]) (ws1 := fun x2 g2 => [(b, .inr (1, [.ref (g2 0), .int (0 : Int32), .int (0 : Int32), .int x2.1])), ((g2 0), .inl (5, x2.2.1, .inl x2.2.2))]) (As := [.ref b, .int p0]) [0, 1] [] (fun _ => runSU (q0 := 0) gdJ4_append_cf468_0.2.2.1 mi_J5_append_3fe6f (by decide) im_J5_append_3fe6f sm_J5_append_3fe6f sp_J4_J5 ml_J4_50 (by omega) rfl (Nat.le_of_ble_eq_true rfl) rfl rfl rfl) (fun x9 h9 => ok_J_appendC5 h9) rfl rfl rfl rfl rfl (by decide +kernel) (by omega) (by omega) (fun _ _ => rfl) (fun _ _ => rfl) (fun x2 g2 => ?_)
  refine aw_pop (q := 6) gdJ4_append_cf468_0.2.2.2.1 rfl rfl ?_
  refine aw_aload_n (q := 7) gdJ4_append_cf468_0.2.2.2.2.1 rfl 0 rfl ?_
  exact aw_areturn (w := [(b, .inr (1, [.ref (g2 0), .int (0 : Int32), .int (0 : Int32), .int x2.1])), ((g2 0), .inl (5, x2.2.1, .inl x2.2.2))]) [0, 1] gdJ4_append_cf468_0.2.2.2.2.2 rfl (Or.inl ⟨_, rfl⟩) rfl rfl (PN.mk (fun j => if j = 0 then (g2 0) else 0) rfl rfl)
def fJ_appendI (N K : Nat) (cnt : Int32) (n : Nat) (f : Nat → Int32) (p0 : Int32) : Option (Int32 × Nat × (Nat → Int32)) :=
  ((fJ_appendI5 N K cnt n f p0).bind (fun x2 => (some (x2.1, x2.2.1, x2.2.2))))
set_option maxHeartbeats 4000000 in
set_option maxRecDepth 100000 in
theorem ok_J_appendI {N K : Nat} {b v : Nat} {cnt : Int32} {n : Nat} {f : Nat → Int32} {p0 : Int32} {xr : Int32 × Nat × (Nat → Int32)} (hE : fJ_appendI N K cnt n f p0 = some xr) : OkM yJ4_append_bf812 (.code yJ4_append_bf812 cJ4_append_bf812 2 (some (.object "java/lang/StringBuilder"))) (5) 1 80 [.ref b, .int p0] [(b, .inr (1, [.ref v, .int (0 : Int32), .int (0 : Int32), .int cnt])), (v, .inl (5, n, .inl f))] ((PN (U := Int32 × Nat × (Nat → Int32)) (fun _ _ => some (.ref b)) (fun zz ad => [(b, .inr (1, [.ref (ad 0), .int (0 : Int32), .int (0 : Int32), .int zz.1])), ((ad 0), .inl (5, zz.2.1, .inl zz.2.2))])) xr) := by
  refine ok_of (by decide) (Nat.le_of_ble_eq_true rfl) hE ?_
  refine aw_locals (lv' := [(0, .ref b), (1, .int p0)]) [0, 1] rfl ?_
  refine aw_aload_n (q := 1) gdJ4_append_bf812_0.1 rfl 0 rfl ?_
  refine aw_iload_n (q := 2) gdJ4_append_bf812_0.2.1 rfl 1 rfl ?_
  refine aw_call (q := 5) (kc1 := 0) (ks1 := 0) (wc := [(b, .inr (1, [.ref v, .int (0 : Int32), .int (0 : Int32), .int cnt])), (v, .inl (5, n, .inl f))]) (wr := []) (st1 := fun x2 g2 => [.ref b]) (ws1 := fun x2 g2 => [(b, .inr (1, [.ref (g2 0), .int (0 : Int32), .int (0 : Int32), .int x2.1])), ((g2 0), .inl (5, x2.2.1, .inl x2.2.2))]) (As := [.ref b, .int p0]) [0, 1] [] (fun _ => runSU (q0 := 0) gdJ4_append_bf812_0.2.2.1 mi_J5_append_c97b9 (by decide) im_J5_append_c97b9 sm_J5_append_c97b9 sp_J4_J5 ml_J4_53 (by omega) rfl (Nat.le_of_ble_eq_true rfl) rfl rfl rfl) (fun x9 h9 => ok_J_appendI5 h9) rfl rfl rfl rfl rfl (by decide +kernel) (by omega) (by omega) (fun _ _ => rfl) (fun _ _ => rfl) (fun x2 g2 => ?_)
  refine aw_pop (q := 6) gdJ4_append_bf812_0.2.2.2.1 rfl rfl ?_
  refine aw_aload_n (q := 7) gdJ4_append_bf812_0.2.2.2.2.1 rfl 0 rfl ?_
  exact aw_areturn (w := [(b, .inr (1, [.ref (g2 0), .int (0 : Int32), .int (0 : Int32), .int x2.1])), ((g2 0), .inl (5, x2.2.1, .inl x2.2.2))]) [0, 1] gdJ4_append_bf812_0.2.2.2.2.2 rfl (Or.inl ⟨_, rfl⟩) rfl rfl (PN.mk (fun j => if j = 0 then (g2 0) else 0) rfl rfl)
def fJ_init5 (N K : Nat) (p0 : Int32) : Option (Nat × (Nat → Int32)) :=
  (if p0 < 0 ∨ 80 < p0.toNatClampNeg then none else (some (p0.toNatClampNeg, (fun _ => 0))))
set_option maxHeartbeats 4000000 in
set_option maxRecDepth 100000 in
theorem ok_J_init5 {N K : Nat} {b : Nat} {p0 : Int32} {xr : Nat × (Nat → Int32)} (hE : fJ_init5 N K p0 = some xr) : OkM yJ5_init_d00df (.code yJ5_init_d00df cJ5_init_d00df 2 none) (1) 1 80 [.ref b, .int p0] [(b, .inr (1, [.null, .int (0 : Int32), .int (0 : Int32), .int (0 : Int32)]))] ((PN (U := Nat × (Nat → Int32)) (fun _ _ => none) (fun zz ad => [(b, .inr (1, [.ref (ad 0), .int (0 : Int32), .int (0 : Int32), .int (0 : Int32)])), ((ad 0), .inl (5, zz.1, .inl zz.2))])) xr) := by
  refine ok_of (by decide) (Nat.le_of_ble_eq_true rfl) hE ?_
  refine aw_locals (lv' := [(0, .ref b), (1, .int p0)]) [0, 1] rfl ?_
  refine aw_aload_n (q := 1) gdJ5_init_d00df_0.1 rfl 0 rfl ?_
  refine aw_objInit (q := 4) gdJ5_init_d00df_0.2.1 rfl ml_J5_3 w_oi (by omega) (Nat.le_of_ble_eq_true rfl) ?_
  refine aw_getsC (q := 7) gdJ5_init_d00df_0.2.2.1 rfl gs_J5_18 ?_
  refine aw_if_eqF (q := 10) (off := 18) (tgt := 25) gdJ5_init_d00df_0.2.2.2.1 (by decide) rfl (by decide) ?_
  refine aw_aload_n (q := 11) gdJ5_init_d00df_0.2.2.2.2.1 rfl 0 rfl ?_
  refine aw_iload_n (q := 12) gdJ5_init_d00df_0.2.2.2.2.2.1 rfl 1 rfl ?_
  refine aw_newB (q := 14) (B := 80) (kc' := 0) (ks' := 0) (ws' := fun r12 => [(b, .inr (1, [.null, .int (0 : Int32), .int (0 : Int32), .int (0 : Int32)])), (r12, .inl (5, p0.toNatClampNeg, .inl (fun _ => 0)))]) gdJ5_init_d00df_0.2.2.2.2.2.2.1 rfl ac_byte (by decide) (by omega) (by omega) (fun _ => rfl) (fun r12 => ?_)
  refine aw_put (q := 17) (ws' := [(b, .inr (1, [.ref r12, .int (0 : Int32), .int (0 : Int32), .int (0 : Int32)])), (r12, .inl (5, p0.toNatClampNeg, .inl (fun _ => 0)))]) gdJ5_init_d00df_0.2.2.2.2.2.2.2 rfl fl_J5_15 0 rfl rfl rfl (Nat.le_of_ble_eq_true rfl) rfl ?_
  refine aw_aload_n (q := 18) gdJ5_init_d00df_17.1 rfl 0 rfl ?_
  refine aw_iconst (q := 19) (v := 0) gdJ5_init_d00df_17.2.1 rfl (by decide) ?_
  refine aw_put (q := 22) (ws' := [(b, .inr (1, [.ref r12, .int (0 : Int32), .int (0 : Int32), .int (0 : Int32)])), (r12, .inl (5, p0.toNatClampNeg, .inl (fun _ => 0)))]) gdJ5_init_d00df_17.2.2.1 rfl fl_J5_22 0 rfl rfl rfl (Nat.le_of_ble_eq_true rfl) rfl ?_
  refine aw_goto (tgt := 38) gdJ5_init_d00df_17.2.2.2.1 (by decide) ?_
  exact aw_return (w := [(b, .inr (1, [.ref r12, .int (0 : Int32), .int (0 : Int32), .int (0 : Int32)])), (r12, .inl (5, p0.toNatClampNeg, .inl (fun _ => 0)))]) [0, 1] gdJ5_init_d00df_17.2.2.2.2 rfl rfl rfl (PN.mk (fun j => if j = 0 then r12 else 0) rfl rfl)
def fJ_init4 (N K : Nat)  : Option (Nat × (Nat → Int32)) :=
  ((fJ_init5 N K (16 : Int32)).bind (fun x3 => (some (x3.1, x3.2))))
set_option maxHeartbeats 4000000 in
set_option maxRecDepth 100000 in
theorem ok_J_init4 {N K : Nat} {b : Nat} {xr : Nat × (Nat → Int32)} (hE : fJ_init4 N K  = some xr) : OkM yJ4_init_da8c8 (.code yJ4_init_da8c8 cJ4_init_da8c8 1 none) (2) 1 80 [.ref b] [(b, .inr (1, [.null, .int (0 : Int32), .int (0 : Int32), .int (0 : Int32)]))] ((PN (U := Nat × (Nat → Int32)) (fun _ _ => none) (fun zz ad => [(b, .inr (1, [.ref (ad 0), .int (0 : Int32), .int (0 : Int32), .int (0 : Int32)])), ((ad 0), .inl (5, zz.1, .inl zz.2))])) xr) := by
  refine ok_of (by decide) (Nat.le_of_ble_eq_true rfl) hE ?_
  refine aw_locals (lv' := [(0, .ref b)]) [0] rfl ?_
  refine aw_aload_n (q := 1) gdJ4_init_da8c8_0.1 rfl 0 rfl ?_
  refine aw_bipush (q := 3) (v := 16) gdJ4_init_da8c8_0.2.1 rfl (by decide) ?_
  refine aw_call (q := 6) (kc1 := 0) (ks1 := 0) (wc := [(b, .inr (1, [.null, .int (0 : Int32), .int (0 : Int32), .int (0 : Int32)]))]) (wr := []) (st1 := fun x3 g3 => []) (ws1 := fun x3 g3 => [(b, .inr (1, [.ref (g3 0), .int (0 : Int32), .int (0 : Int32), .int (0 : Int32)])), ((g3 0), .inl (5, x3.1, .inl x3.2))]) (As := [.ref b, .int (16 : Int32)]) [0] [] (fun _ => runI gdJ4_init_da8c8_0.2.2.1 mi_J5_init_d00df rfl im_J5_init_d00df ml_J4_1 (by omega) rfl (Nat.le_of_ble_eq_true rfl) rfl) (fun x9 h9 => ok_J_init5 h9) rfl rfl rfl rfl rfl (by decide +kernel) (by omega) (by omega) (fun _ _ => rfl) (fun _ _ => rfl) (fun x3 g3 => ?_)
  exact aw_return (w := [(b, .inr (1, [.ref (g3 0), .int (0 : Int32), .int (0 : Int32), .int (0 : Int32)])), ((g3 0), .inl (5, x3.1, .inl x3.2))]) [0, 1] gdJ4_init_da8c8_0.2.2.2 rfl rfl rfl (PN.mk (fun j => if j = 0 then (g3 0) else 0) rfl rfl)
def fJ_str2 (N K : Nat) (cnt : Int32) (n : Nat) (f : Nat → Int32) : Option (Nat × (Nat → Int32)) :=
  ((fJ_getValue N K cnt n f).bind (fun x5 => ((fJ_length N K cnt n f).bind (fun x10 => ((fJ_isLatin1 N K cnt n f).bind (fun x16 => (if x16 = 0 then none else ((fJ_copyOfRange N K n f (0 : Int32) x10).bind (fun x32 => (some (x32.1, x32.2)))))))))))
set_option maxHeartbeats 4000000 in
set_option maxRecDepth 100000 in
theorem ok_J_str2 {N K : Nat} {k b v : Nat} {cnt : Int32} {n : Nat} {f : Nat → Int32} {xr : Nat × (Nat → Int32)} (hE : fJ_str2 N K cnt n f = some xr) : OkM yJ0_init_db425 (.code yJ0_init_db425 cJ0_init_db425 5 none) (4) 1 80 [.ref k, .ref b, .null] [(k, .inr (0, [.null, .int (0 : Int32), .int (0 : Int32), .int (0 : Int32)])), (b, .inr (1, [.ref v, .int (0 : Int32), .int (0 : Int32), .int cnt])), (v, .inl (5, n, .inl f))] ((PN (U := Nat × (Nat → Int32)) (fun _ _ => none) (fun zz ad => [(k, .inr (0, [.ref (ad 0), .int (0 : Int32), .int (0 : Int32), .int (0 : Int32)])), (b, .inr (1, [.ref v, .int (0 : Int32), .int (0 : Int32), .int cnt])), (v, .inl (5, n, .inl f)), ((ad 0), .inl (5, zz.1, .inl zz.2))])) xr) := by
  refine ok_of (by decide) (Nat.le_of_ble_eq_true rfl) hE ?_
  refine aw_locals (lv' := [(0, .ref k), (1, .ref b), (2, .null)]) [0, 1, 2] rfl ?_
  refine aw_aload_n (q := 1) gdJ0_init_db425_0.1 rfl 0 rfl ?_
  refine aw_objInit (q := 4) gdJ0_init_db425_0.2.1 rfl ml_J0_1 w_oi (by omega) (Nat.le_of_ble_eq_true rfl) ?_
  refine aw_aload_n (q := 5) gdJ0_init_db425_0.2.2.1 rfl 1 rfl ?_
  refine aw_call (q := 8) (kc1 := 1) (ks1 := 80) (wc := [(b, .inr (1, [.ref v, .int (0 : Int32), .int (0 : Int32), .int cnt])), (v, .inl (5, n, .inl f))]) (wr := [(k, .inr (0, [.null, .int (0 : Int32), .int (0 : Int32), .int (0 : Int32)]))]) (st1 := fun x5 g5 => [.ref v]) (ws1 := fun x5 g5 => [(k, .inr (0, [.null, .int (0 : Int32), .int (0 : Int32), .int (0 : Int32)])), (b, .inr (1, [.ref v, .int (0 : Int32), .int (0 : Int32), .int cnt])), (v, .inl (5, n, .inl f))]) (As := [.ref b]) [1, 2] [0] (fun _ => runU (q0 := 1) gdJ0_init_db425_0.2.2.2.1 mi_J5_getValue_6d5f1 im_J5_getValue_6d5f1 (fun _ _ h9 _ => h9 _ su_J5_getValue_6d5f1) sm_J5_getValue_6d5f1 im_J5_getValue_6d5f1 cd_J5_getValue_6d5f1 ml_J0_552 (by decide +kernel) (by omega) rfl (Nat.le_of_ble_eq_true rfl) rfl rfl rfl rfl) (fun x9 h9 => ok_J_getValue h9) rfl rfl rfl rfl rfl (by decide +kernel) (by omega) (by omega) (fun _ _ => rfl) (fun _ _ => rfl) (fun x5 g5 => ?_)
  refine aw_astore_n (q := 9) (lv' := [(3, .ref v), (0, .ref k), (1, .ref b), (2, .null)]) gdJ0_init_db425_0.2.2.2.2.1 rfl (by decide) rfl ?_
  refine aw_aload_n (q := 10) gdJ0_init_db425_0.2.2.2.2.2.1 rfl 2 rfl ?_
  refine aw_call (q := 13) (kc1 := 1) (ks1 := 80) (wc := [(b, .inr (1, [.ref v, .int (0 : Int32), .int (0 : Int32), .int cnt])), (v, .inl (5, n, .inl f))]) (wr := [(k, .inr (0, [.null, .int (0 : Int32), .int (0 : Int32), .int (0 : Int32)]))]) (st1 := fun x10 g10 => [.int x10]) (ws1 := fun x10 g10 => [(k, .inr (0, [.null, .int (0 : Int32), .int (0 : Int32), .int (0 : Int32)])), (b, .inr (1, [.ref v, .int (0 : Int32), .int (0 : Int32), .int cnt])), (v, .inl (5, n, .inl f))]) (As := [.ref b]) [1, 2] [0] (fun _ => runU (q0 := 1) gdJ0_init_db425_0.2.2.2.2.2.2.1 mi_J4_length_8abf5 im_J4_length_8abf5 (fun _ _ h9 _ => h9 _ su_J5_length_8abf5) sm_J5_length_8abf5 im_J5_length_8abf5 cd_J5_length_8abf5 ml_J0_549 (by decide +kernel) (by omega) rfl (Nat.le_of_ble_eq_true rfl) rfl rfl rfl rfl) (fun x9 h9 => ok_J_length h9) rfl rfl rfl rfl rfl (by decide +kernel) (by omega) (by omega) (fun _ _ => rfl) (fun _ _ => rfl) (fun x10 g10 => ?_)
  refine aw_istore (q := 15) (lv' := [(4, .int x10), (3, .ref v), (0, .ref k), (1, .ref b), (2, .null)]) gdJ0_init_db425_0.2.2.2.2.2.2.2 rfl (by decide) rfl ?_
  refine aw_aload_n (q := 16) gdJ0_init_db425_15.1 rfl 3 rfl ?_
  refine aw_call (q := 19) (kc1 := 1) (ks1 := 80) (wc := [(b, .inr (1, [.ref v, .int (0 : Int32), .int (0 : Int32), .int cnt])), (v, .inl (5, n, .inl f))]) (wr := [(k, .inr (0, [.null, .int (0 : Int32), .int (0 : Int32), .int (0 : Int32)]))]) (st1 := fun x16 g16 => [.int x16]) (ws1 := fun x16 g16 => [(k, .inr (0, [.null, .int (0 : Int32), .int (0 : Int32), .int (0 : Int32)])), (b, .inr (1, [.ref v, .int (0 : Int32), .int (0 : Int32), .int cnt])), (v, .inl (5, n, .inl f))]) (As := [.ref b]) [1, 2] [0] (fun _ => runU (q0 := 1) gdJ0_init_db425_15.2.1 mi_J5_isLatin1_aae02 im_J5_isLatin1_aae02 (fun _ _ h9 _ => h9 _ su_J5_isLatin1_aae02) sm_J5_isLatin1_aae02 im_J5_isLatin1_aae02 cd_J5_isLatin1_aae02 ml_J0_1047 (by decide +kernel) (by omega) rfl (Nat.le_of_ble_eq_true rfl) rfl rfl rfl rfl) (fun x9 h9 => ok_J_isLatin1 h9) rfl rfl rfl rfl rfl (by decide +kernel) (by omega) (by omega) (fun _ _ => rfl) (fun _ _ => rfl) (fun x16 g16 => ?_)
  refine aw_if_eq (tgt := 41) (q := 22) gdJ0_init_db425_15.2.2.1 (by decide) rfl (fun h_19 => ?_) (fun h_19 => ?_)
  · exact aw_none
  · refine aw_aload_n (q := 23) gdJ0_init_db425_15.2.2.2.1 rfl 2 rfl ?_
    refine aw_iconst (q := 24) (v := 0) gdJ0_init_db425_15.2.2.2.2.1 rfl (by decide) ?_
    refine aw_putF (q := 27) (ws' := [(k, .inr (0, [.null, .int (0 : Int32), .int (0 : Int32), .int (0 : Int32)])), (b, .inr (1, [.ref v, .int (0 : Int32), .int (0 : Int32), .int cnt])), (v, .inl (5, n, .inl f))]) gdJ0_init_db425_15.2.2.2.2.2.1 rfl fl_J0_15 (fun _ _ _ h9 => by cases h9; rfl) rfl 0 rfl rfl rfl (Nat.le_of_ble_eq_true rfl) rfl ?_
    refine aw_aload_n (q := 28) gdJ0_init_db425_15.2.2.2.2.2.2.1 rfl 2 rfl ?_
    refine aw_aload_n (q := 29) gdJ0_init_db425_15.2.2.2.2.2.2.2 rfl 1 rfl ?_
    refine aw_iconst (q := 30) (v := 0) gdJ0_init_db425_29.1 rfl (by decide) ?_
    refine aw_iload (q := 32) gdJ0_init_db425_29.2.1 rfl 0 rfl ?_
    refine aw_call (q := 35) (kc1 := 0) (ks1 := 0) (wc := [(v, .inl (5, n, .inl f))]) (wr := [(k, .inr (0, [.null, .int (0 : Int32), .int (0 : Int32), .int (0 : Int32)])), (b, .inr (1, [.ref v, .int (0 : Int32), .int (0 : Int32), .int cnt]))]) (st1 := fun x32 g32 => [.ref (g32 0), .ref k]) (ws1 := fun x32 g32 => [(k, .inr (0, [.null, .int (0 : Int32), .int (0 : Int32), .int (0 : Int32)])), (b, .inr (1, [.ref v, .int (0 : Int32), .int (0 : Int32), .int cnt])), (v, .inl (5, n, .inl f)), ((g32 0), .inl (5, x32.1, .inl x32.2))]) (As := [.ref v, .int (0 : Int32), .int x10]) [2] [0, 1] (fun _ => runS gdJ0_init_db425_29.2.2.1 mi_J7_copyOfRange_39247 st_J7_copyOfRange_39247 ml_J0_54 (by omega) rfl (Nat.le_of_ble_eq_true rfl) rfl) (fun x9 h9 => ok_J_copyOfRange h9) rfl rfl rfl rfl rfl (by decide +kernel) (by omega) (by omega) (fun _ _ => rfl) (fun _ _ => rfl) (fun x32 g32 => ?_)
    refine aw_putF (q := 38) (ws' := [(k, .inr (0, [.ref (g32 0), .int (0 : Int32), .int (0 : Int32), .int (0 : Int32)])), (b, .inr (1, [.ref v, .int (0 : Int32), .int (0 : Int32), .int cnt])), (v, .inl (5, n, .inl f)), ((g32 0), .inl (5, x32.1, .inl x32.2))]) gdJ0_init_db425_29.2.2.2.1 rfl fl_J0_9 (fun _ _ _ h9 => by cases h9; rfl) rfl 0 rfl rfl rfl (Nat.le_of_ble_eq_true rfl) rfl ?_
    refine aw_goto (tgt := 97) gdJ0_init_db425_29.2.2.2.2.1 (by decide) ?_
    exact aw_return (w := [(k, .inr (0, [.ref (g32 0), .int (0 : Int32), .int (0 : Int32), .int (0 : Int32)])), (b, .inr (1, [.ref v, .int (0 : Int32), .int (0 : Int32), .int cnt])), (v, .inl (5, n, .inl f)), ((g32 0), .inl (5, x32.1, .inl x32.2))]) [0, 1, 2, 3] gdJ0_init_db425_29.2.2.2.2.2 rfl rfl rfl (PN.mk (fun j => if j = 0 then (g32 0) else 0) rfl rfl)
def fJ_str1 (N K : Nat) (cnt : Int32) (n : Nat) (f : Nat → Int32) : Option (Nat × (Nat → Int32)) :=
  ((fJ_str2 N K cnt n f).bind (fun x3 => (some (x3.1, x3.2))))
set_option maxHeartbeats 4000000 in
set_option maxRecDepth 100000 in
theorem ok_J_str1 {N K : Nat} {k b v : Nat} {cnt : Int32} {n : Nat} {f : Nat → Int32} {xr : Nat × (Nat → Int32)} (hE : fJ_str1 N K cnt n f = some xr) : OkM yJ0_init_81219 (.code yJ0_init_81219 cJ0_init_81219 2 none) (5) 1 80 [.ref k, .ref b] [(k, .inr (0, [.null, .int (0 : Int32), .int (0 : Int32), .int (0 : Int32)])), (b, .inr (1, [.ref v, .int (0 : Int32), .int (0 : Int32), .int cnt])), (v, .inl (5, n, .inl f))] ((PN (U := Nat × (Nat → Int32)) (fun _ _ => none) (fun zz ad => [(k, .inr (0, [.ref (ad 0), .int (0 : Int32), .int (0 : Int32), .int (0 : Int32)])), (b, .inr (1, [.ref v, .int (0 : Int32), .int (0 : Int32), .int cnt])), (v, .inl (5, n, .inl f)), ((ad 0), .inl (5, zz.1, .inl zz.2))])) xr) := by
  refine ok_of (by decide) (Nat.le_of_ble_eq_true rfl) hE ?_
  refine aw_locals (lv' := [(0, .ref k), (1, .ref b)]) [0, 1] rfl ?_
  refine aw_aload_n (q := 1) gdJ0_init_81219_0.1 rfl 0 rfl ?_
  refine aw_aload_n (q := 2) gdJ0_init_81219_0.2.1 rfl 1 rfl ?_
  refine aw_null (q := 3) gdJ0_init_81219_0.2.2.1 rfl ?_
  refine aw_call (q := 6) (kc1 := 0) (ks1 := 0) (wc := [(k, .inr (0, [.null, .int (0 : Int32), .int (0 : Int32), .int (0 : Int32)])), (b, .inr (1, [.ref v, .int (0 : Int32), .int (0 : Int32), .int cnt])), (v, .inl (5, n, .inl f))]) (wr := []) (st1 := fun x3 g3 => []) (ws1 := fun x3 g3 => [(k, .inr (0, [.ref (g3 0), .int (0 : Int32), .int (0 : Int32), .int (0 : Int32)])), (b, .inr (1, [.ref v, .int (0 : Int32), .int (0 : Int32), .int cnt])), (v, .inl (5, n, .inl f)), ((g3 0), .inl (5, x3.1, .inl x3.2))]) (As := [.ref k, .ref b, .null]) [0, 1, 2] [] (fun _ => runI gdJ0_init_81219_0.2.2.2.1 mi_J0_init_db425 rfl im_J0_init_db425 ml_J0_489 (by omega) rfl (Nat.le_of_ble_eq_true rfl) rfl) (fun x9 h9 => ok_J_str2 h9) rfl rfl rfl rfl rfl (by decide +kernel) (by omega) (by omega) (fun _ _ => rfl) (fun _ _ => rfl) (fun x3 g3 => ?_)
  exact aw_return (w := [(k, .inr (0, [.ref (g3 0), .int (0 : Int32), .int (0 : Int32), .int (0 : Int32)])), (b, .inr (1, [.ref v, .int (0 : Int32), .int (0 : Int32), .int cnt])), (v, .inl (5, n, .inl f)), ((g3 0), .inl (5, x3.1, .inl x3.2))]) [0, 1, 2, 3] gdJ0_init_81219_0.2.2.2.2 rfl rfl rfl (PN.mk (fun j => if j = 0 then (g3 0) else 0) rfl rfl)
def fJ_toString (N K : Nat) (cnt : Int32) (n : Nat) (f : Nat → Int32) : Option (Unit) :=
  ((fJ_str1 N K cnt n f).bind (fun x5 => (some ())))
set_option maxHeartbeats 4000000 in
set_option maxRecDepth 100000 in
theorem ok_J_toString {N K : Nat} {b v : Nat} {cnt : Int32} {n : Nat} {f : Nat → Int32} {xr : Unit} (hE : fJ_toString N K cnt n f = some xr) : OkM yJ4_toString_0e30d (.code yJ4_toString_0e30d cJ4_toString_0e30d 1 (some (.object "java/lang/String"))) (6) 2 84 [.ref b] [(b, .inr (1, [.ref v, .int (0 : Int32), .int (0 : Int32), .int cnt])), (v, .inl (5, n, .inl f))] ((PN (U := Unit) (fun _ ad => some (.ref (ad 0))) (fun zz ad => [(b, .inr (1, [.ref v, .int (0 : Int32), .int (0 : Int32), .int cnt])), (v, .inl (5, n, .inl f))])) xr) := by
  refine ok_of (by decide) (Nat.le_of_ble_eq_true rfl) hE ?_
  refine aw_locals (lv' := [(0, .ref b)]) [0] rfl ?_
  refine aw_new (q := 3) (kc' := 1) (ks' := 80) (ws' := fun r0 => [(b, .inr (1, [.ref v, .int (0 : Int32), .int (0 : Int32), .int cnt])), (v, .inl (5, n, .inl f)), (r0, .inr (0, [.null, .int (0 : Int32), .int (0 : Int32), .int (0 : Int32)]))]) gdJ4_toString_0e30d_0.1 rfl nw_J4_18 (by omega) (by omega) (fun _ => rfl) (fun r0 => ?_)
  refine aw_dup (q := 4) gdJ4_toString_0e30d_0.2.1 rfl rfl ?_
  refine aw_aload_n (q := 5) gdJ4_toString_0e30d_0.2.2.1 rfl 0 rfl ?_
  refine aw_call (q := 8) (kc1 := 0) (ks1 := 0) (wc := [(r0, .inr (0, [.null, .int (0 : Int32), .int (0 : Int32), .int (0 : Int32)])), (b, .inr (1, [.ref v, .int (0 : Int32), .int (0 : Int32), .int cnt])), (v, .inl (5, n, .inl f))]) (wr := []) (st1 := fun x5 g5 => [.ref r0]) (ws1 := fun x5 g5 => [(r0, .inr (0, [.ref (g5 0), .int (0 : Int32), .int (0 : Int32), .int (0 : Int32)])), (b, .inr (1, [.ref v, .int (0 : Int32), .int (0 : Int32), .int cnt])), (v, .inl (5, n, .inl f)), ((g5 0), .inl (5, x5.1, .inl x5.2))]) (As := [.ref r0, .ref b]) [2, 0, 1] [] (fun _ => runI gdJ4_toString_0e30d_0.2.2.2.1 mi_J0_init_81219 rfl im_J0_init_81219 ml_J4_137 (by omega) rfl (Nat.le_of_ble_eq_true rfl) rfl) (fun x9 h9 => ok_J_str1 h9) rfl rfl rfl rfl rfl (by decide +kernel) (by omega) (by omega) (fun _ _ => rfl) (fun _ _ => rfl) (fun x5 g5 => ?_)
  exact aw_areturn (w := [(b, .inr (1, [.ref v, .int (0 : Int32), .int (0 : Int32), .int cnt])), (v, .inl (5, n, .inl f))]) [1, 2] gdJ4_toString_0e30d_0.2.2.2.2 rfl (Or.inl ⟨_, rfl⟩) rfl rfl (PN.mk (fun j => if j = 0 then r0 else 0) rfl rfl)
