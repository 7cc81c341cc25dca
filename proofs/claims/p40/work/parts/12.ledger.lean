def fX1_size (N K : Nat) (ru : Int32) (sz : Int32) (f : Nat → Int32) : Option (Int32) :=
  (some sz)
set_option maxHeartbeats 4000000 in
set_option maxRecDepth 100000 in
theorem ok_X1_size {N K : Nat} {h a : Nat} {ru : Int32} {sz : Int32} {f : Nat → Int32} {xr : Int32} (hE : fX1_size N K ru sz f = some xr) : OkM yX1_size (.code yX1_size cX1_size 1 (some .int)) (0) 0 0 [.ref h] [(h, .inr (3, [.int ru, .ref a, .int sz])), (a, .inl (0, 21, .inl f))] ((PN (U := Int32) (fun zz _ => some (.int zz)) (fun zz ad => [(h, .inr (3, [.int ru, .ref a, .int sz])), (a, .inl (0, 21, .inl f))])) xr) := by
  refine ok_of (by decide) (Nat.le_of_ble_eq_true rfl) hE ?_
  refine aw_locals (lv' := [(0, .ref h)]) [0] rfl ?_
  refine aw_aload_n (q := 1) dX1_size_0 rfl 0 rfl ?_
  refine aw_get (q := 4) dX1_size_1 rfl fl_X1_25 0 rfl rfl ?_
  exact aw_ireturn (w := [(h, .inr (3, [.int ru, .ref a, .int sz])), (a, .inl (0, 21, .inl f))]) [0, 1] dX1_size_4 rfl rfl rfl rfl (PN.mk (fun _ => 0) rfl rfl)
def fX1_keptWorth (N K : Nat) (ru : Int32) (sz : Int32) (f : Nat → Int32) (p0 : Int32) : Option (Int32) :=
  (if p0 < (1 : Int32) then (some (-1 : Int32)) else (if p0 ≤ (20 : Int32) then (if p0 < 0 ∨ 21 ≤ p0.toNatClampNeg then none else (some (f p0.toNatClampNeg))) else (some (-1 : Int32))))
set_option maxHeartbeats 4000000 in
set_option maxRecDepth 100000 in
theorem ok_X1_keptWorth {N K : Nat} {h a : Nat} {ru : Int32} {sz : Int32} {f : Nat → Int32} {p0 : Int32} {xr : Int32} (hE : fX1_keptWorth N K ru sz f p0 = some xr) : OkM yX1_keptWorth (.code yX1_keptWorth cX1_keptWorth 2 (some .int)) (0) 0 0 [.ref h, .int p0] [(h, .inr (3, [.int ru, .ref a, .int sz])), (a, .inl (0, 21, .inl f))] ((PN (U := Int32) (fun zz _ => some (.int zz)) (fun zz ad => [(h, .inr (3, [.int ru, .ref a, .int sz])), (a, .inl (0, 21, .inl f))])) xr) := by
  refine ok_of (by decide) (Nat.le_of_ble_eq_true rfl) hE ?_
  refine aw_locals (lv' := [(0, .ref h), (1, .int p0)]) [0, 1] rfl ?_
  refine aw_iload_n (q := 1) dX1_keptWorth_0 rfl 1 rfl ?_
  refine aw_iconst (q := 2) (v := 1) dX1_keptWorth_1 rfl (by decide) ?_
  refine aw_icmp_lt (tgt := 11) (q := 5) dX1_keptWorth_2 (by decide) rfl (fun h_2 => ?_) (fun h_2 => ?_)
  · refine aw_iconst (q := 12) (v := (-1)) dX1_keptWorth_11 rfl (by decide) ?_
    refine aw_goto (tgt := 21) dX1_keptWorth_12 (by decide) ?_
    exact aw_ireturn (w := [(h, .inr (3, [.int ru, .ref a, .int sz])), (a, .inl (0, 21, .inl f))]) [0, 1] dX1_keptWorth_21 rfl rfl rfl rfl (PN.mk (fun _ => 0) rfl rfl)
  · refine aw_iload_n (q := 6) dX1_keptWorth_5 rfl 1 rfl ?_
    refine aw_bipush (q := 8) (v := 20) dX1_keptWorth_6 rfl (by decide) ?_
    refine aw_icmp_le (tgt := 15) (q := 11) dX1_keptWorth_8 (by decide) rfl (fun h_8 => ?_) (fun h_8 => ?_)
    · refine aw_aload_n (q := 16) dX1_keptWorth_15 rfl 0 rfl ?_
      refine aw_get (q := 19) dX1_keptWorth_16 rfl fl_X1_9 0 rfl rfl ?_
      refine aw_iload_n (q := 20) dX1_keptWorth_19 rfl 1 rfl ?_
      refine aw_iald (q := 21) dX1_keptWorth_20 rfl 1 rfl ?_
      exact aw_ireturn (w := [(h, .inr (3, [.int ru, .ref a, .int sz])), (a, .inl (0, 21, .inl f))]) [0, 1] dX1_keptWorth_21 rfl rfl rfl rfl (PN.mk (fun _ => 0) rfl rfl)
    · refine aw_iconst (q := 12) (v := (-1)) dX1_keptWorth_11 rfl (by decide) ?_
      refine aw_goto (tgt := 21) dX1_keptWorth_12 (by decide) ?_
      exact aw_ireturn (w := [(h, .inr (3, [.int ru, .ref a, .int sz])), (a, .inl (0, 21, .inl f))]) [0, 1] dX1_keptWorth_21 rfl rfl rfl rfl (PN.mk (fun _ => 0) rfl rfl)
def fX1_keeps (N K : Nat) (ru : Int32) (sz : Int32) (f : Nat → Int32) (p0 : Int32) : Option (Int32) :=
  ((fX1_keptWorth N K ru sz f p0).bind (fun x2 => (if x2 = (-1 : Int32) then (some (0 : Int32)) else (some (1 : Int32)))))
set_option maxHeartbeats 4000000 in
set_option maxRecDepth 100000 in
theorem ok_X1_keeps {N K : Nat} {h a : Nat} {ru : Int32} {sz : Int32} {f : Nat → Int32} {p0 : Int32} {xr : Int32} (hE : fX1_keeps N K ru sz f p0 = some xr) : OkM yX1_keeps (.code yX1_keeps cX1_keeps 2 (some .boolean)) (1) 0 0 [.ref h, .int p0] [(h, .inr (3, [.int ru, .ref a, .int sz])), (a, .inl (0, 21, .inl f))] ((PN (U := Int32) (fun zz _ => some (.int zz)) (fun zz ad => [(h, .inr (3, [.int ru, .ref a, .int sz])), (a, .inl (0, 21, .inl f))])) xr) := by
  refine ok_of (by decide) (Nat.le_of_ble_eq_true rfl) hE ?_
  refine aw_locals (lv' := [(0, .ref h), (1, .int p0)]) [0, 1] rfl ?_
  refine aw_aload_n (q := 1) dX1_keeps_0 rfl 0 rfl ?_
  refine aw_iload_n (q := 2) dX1_keeps_1 rfl 1 rfl ?_
  refine aw_call (q := 5) (kc1 := 0) (ks1 := 0) (wc := [(h, .inr (3, [.int ru, .ref a, .int sz])), (a, .inl (0, 21, .inl f))]) (wr := []) (st1 := fun x2 g2 => [.int x2]) (ws1 := fun x2 g2 => [(h, .inr (3, [.int ru, .ref a, .int sz])), (a, .inl (0, 21, .inl f))]) (As := [.ref h, .int p0]) [0, 1] [] (fun _ => runV (q0 := 0) dX1_keeps_2 mi_X1_keptWorth im_X1_keptWorth se_X1_keptWorth ml_X1_53 (by omega) rfl (Nat.le_of_ble_eq_true rfl) rfl rfl rfl rfl) (fun x9 h9 => ok_X1_keptWorth h9) rfl rfl rfl rfl rfl (by decide) (by omega) (by omega) (fun _ _ => rfl) (fun _ _ => rfl) (fun x2 g2 => ?_)
  refine aw_iconst (q := 6) (v := (-1)) dX1_keeps_5 rfl (by decide) ?_
  refine aw_icmp_eq (tgt := 13) (q := 9) dX1_keeps_6 (by decide) rfl (fun h_6 => ?_) (fun h_6 => ?_)
  · refine aw_iconst (q := 14) (v := 0) dX1_keeps_13 rfl (by decide) ?_
    exact aw_ireturn (w := [(h, .inr (3, [.int ru, .ref a, .int sz])), (a, .inl (0, 21, .inl f))]) [0, 1] dX1_keeps_14 rfl rfl rfl rfl (PN.mk (fun _ => 0) rfl rfl)
  · refine aw_iconst (q := 10) (v := 1) dX1_keeps_9 rfl (by decide) ?_
    refine aw_goto (tgt := 14) dX1_keeps_10 (by decide) ?_
    exact aw_ireturn (w := [(h, .inr (3, [.int ru, .ref a, .int sz])), (a, .inl (0, 21, .inl f))]) [0, 1] dX1_keeps_14 rfl rfl rfl rfl (PN.mk (fun _ => 0) rfl rfl)
def fX1_sumOfDivisors_37 (N K : Nat) (ru : Int32) (sz : Int32) (f : Nat → Int32) (p0 : Int32) (k_19 : Int32 → Int32 → Int32 → Option (Int32)) (l2 : Int32) (l3 : Int32) (l4 : Int32) : Option (Int32) :=
  k_19 l2 l3 (l4 + l2)
set_option maxHeartbeats 4000000 in
set_option maxRecDepth 100000 in
theorem tX1_sumOfDivisors_37 {N K : Nat} {h a : Nat} {ru : Int32} {sz : Int32} {f : Nat → Int32} {p0 : Int32} {k_19 : Int32 → Int32 → Int32 → Option (Int32)} (hk_19 : ∀ (l2 : Int32) (l3 : Int32) (l4 : Int32), AW RX1 "sumOfDivisors" cX1_sumOfDivisors 5 (some .int) [] (fun _ _ => True) (0) (PN (U := Int32) (fun zz _ => some (.int zz)) (fun zz ad => [(h, .inr (3, [.int ru, .ref a, .int sz])), (a, .inl (0, 21, .inl f))])) 0 0 (k_19 l2 l3 l4) 19 [(1, .int p0), (2, .int l2), (3, .int l3), (4, .int l4)] [] [(h, .inr (3, [.int ru, .ref a, .int sz])), (a, .inl (0, 21, .inl f))]) : ∀ (l2 : Int32) (l3 : Int32) (l4 : Int32), AW RX1 "sumOfDivisors" cX1_sumOfDivisors 5 (some .int) [] (fun _ _ => True) (0) (PN (U := Int32) (fun zz _ => some (.int zz)) (fun zz ad => [(h, .inr (3, [.int ru, .ref a, .int sz])), (a, .inl (0, 21, .inl f))])) 0 0 (fX1_sumOfDivisors_37 N K ru sz f p0 k_19 l2 l3 l4) 37 [(1, .int p0), (2, .int l2), (3, .int l3), (4, .int l4)] [] [(h, .inr (3, [.int ru, .ref a, .int sz])), (a, .inl (0, 21, .inl f))] := by
  intro l2 l3 l4
  refine aw_iload (q := 39) dX1_sumOfDivisors_37 rfl 3 rfl ?_
  refine aw_iload_n (q := 40) dX1_sumOfDivisors_39 rfl 1 rfl ?_
  refine aw_iadd (q := 41) dX1_sumOfDivisors_40 rfl ?_
  refine aw_istore (q := 43) (lv' := [(4, .int (l4 + l2)), (1, .int p0), (2, .int l2), (3, .int l3)]) dX1_sumOfDivisors_41 rfl (by decide) rfl ?_
  refine aw_goto (tgt := 19) dX1_sumOfDivisors_43 (by decide) ?_
  refine aw_locals (lv' := [(1, .int p0), (2, .int l2), (3, .int l3), (4, .int (l4 + l2))]) [1, 2, 3, 0] rfl ?_
  exact hk_19 _ _ _
def fX1_sumOfDivisors_19 (N K : Nat) (ru : Int32) (sz : Int32) (f : Nat → Int32) (p0 : Int32) : Nat → Int32 → Int32 → Int32 → Option (Int32)
  | 0, _, _, _ => none
  | fu + 1, l2, l3, l4 =>
    (if p0 < l4 then (some l3) else (if l4 = 0 then none else (if (p0 % l4) = 0 then fX1_sumOfDivisors_37 N K ru sz f p0 (fX1_sumOfDivisors_19 N K ru sz f p0  fu) l2 (l3 + l4) l4 else fX1_sumOfDivisors_37 N K ru sz f p0 (fX1_sumOfDivisors_19 N K ru sz f p0  fu) l2 l3 l4)))
set_option maxHeartbeats 4000000 in
set_option maxRecDepth 100000 in
theorem tX1_sumOfDivisors_19 {N K : Nat} {h a : Nat} {ru : Int32} {sz : Int32} {f : Nat → Int32} {p0 : Int32} : ∀ (fu : Nat) (l2 : Int32) (l3 : Int32) (l4 : Int32), AW RX1 "sumOfDivisors" cX1_sumOfDivisors 5 (some .int) [] (fun _ _ => True) (0) (PN (U := Int32) (fun zz _ => some (.int zz)) (fun zz ad => [(h, .inr (3, [.int ru, .ref a, .int sz])), (a, .inl (0, 21, .inl f))])) 0 0 (fX1_sumOfDivisors_19 N K ru sz f p0  fu l2 l3 l4) 19 [(1, .int p0), (2, .int l2), (3, .int l3), (4, .int l4)] [] [(h, .inr (3, [.int ru, .ref a, .int sz])), (a, .inl (0, 21, .inl f))] := by
  intro fu
  induction fu with
  | zero => intro l2 l3 l4; exact aw_none
  | succ fu ih =>
    intro l2 l3 l4
    refine aw_iload (q := 21) dX1_sumOfDivisors_19 rfl 3 rfl ?_
    refine aw_iload_n (q := 22) dX1_sumOfDivisors_21 rfl 0 rfl ?_
    refine aw_icmp_gt (tgt := 46) (q := 25) dX1_sumOfDivisors_22 (by decide) rfl (fun h_22 => ?_) (fun h_22 => ?_)
    · refine aw_iload_n (q := 47) dX1_sumOfDivisors_46 rfl 2 rfl ?_
      exact aw_ireturn (w := [(h, .inr (3, [.int ru, .ref a, .int sz])), (a, .inl (0, 21, .inl f))]) [0, 1] dX1_sumOfDivisors_47 rfl rfl rfl rfl (PN.mk (fun _ => 0) rfl rfl)
    · refine aw_iload_n (q := 26) dX1_sumOfDivisors_25 rfl 0 rfl ?_
      refine aw_iload (q := 28) dX1_sumOfDivisors_26 rfl 3 rfl ?_
      refine aw_irem (q := 29) dX1_sumOfDivisors_28 rfl ?_
      refine aw_if_ne (tgt := 37) (q := 32) dX1_sumOfDivisors_29 (by decide) rfl (fun h_29 => ?_) (fun h_29 => ?_)
      · exact tX1_sumOfDivisors_37 ih _ _ _
      · refine aw_iload_n (q := 33) dX1_sumOfDivisors_32 rfl 2 rfl ?_
        refine aw_iload (q := 35) dX1_sumOfDivisors_33 rfl 3 rfl ?_
        refine aw_iadd (q := 36) dX1_sumOfDivisors_35 rfl ?_
        refine aw_istore_n (q := 37) (lv' := [(3, .int (l3 + l4)), (1, .int p0), (2, .int l2), (4, .int l4)]) dX1_sumOfDivisors_36 rfl (by decide) rfl ?_
        refine aw_locals (lv' := [(1, .int p0), (2, .int l2), (3, .int (l3 + l4)), (4, .int l4)]) [1, 2, 0, 3] rfl ?_
        exact tX1_sumOfDivisors_37 ih _ _ _
def fX1_sumOfDivisors_13 (N K : Nat) (ru : Int32) (sz : Int32) (f : Nat → Int32) (p0 : Int32) (s0 : Int32) : Option (Int32) :=
  fX1_sumOfDivisors_19 N K ru sz f p0  N s0 (0 : Int32) (1 : Int32)
set_option maxHeartbeats 4000000 in
set_option maxRecDepth 100000 in
theorem tX1_sumOfDivisors_13 {N K : Nat} {h a : Nat} {ru : Int32} {sz : Int32} {f : Nat → Int32} {p0 : Int32} : ∀ (s0 : Int32), AW RX1 "sumOfDivisors" cX1_sumOfDivisors 5 (some .int) [] (fun _ _ => True) (0) (PN (U := Int32) (fun zz _ => some (.int zz)) (fun zz ad => [(h, .inr (3, [.int ru, .ref a, .int sz])), (a, .inl (0, 21, .inl f))])) 0 0 (fX1_sumOfDivisors_13 N K ru sz f p0  s0) 13 [(1, .int p0)] [.int s0] [(h, .inr (3, [.int ru, .ref a, .int sz])), (a, .inl (0, 21, .inl f))] := by
  intro s0
  refine aw_istore_n (q := 14) (lv' := [(2, .int s0), (1, .int p0)]) dX1_sumOfDivisors_13 rfl (by decide) rfl ?_
  refine aw_iconst (q := 15) (v := 0) dX1_sumOfDivisors_14 rfl (by decide) ?_
  refine aw_istore_n (q := 16) (lv' := [(3, .int (0 : Int32)), (2, .int s0), (1, .int p0)]) dX1_sumOfDivisors_15 rfl (by decide) rfl ?_
  refine aw_iconst (q := 17) (v := 1) dX1_sumOfDivisors_16 rfl (by decide) ?_
  refine aw_istore (q := 19) (lv' := [(4, .int (1 : Int32)), (3, .int (0 : Int32)), (2, .int s0), (1, .int p0)]) dX1_sumOfDivisors_17 rfl (by decide) rfl ?_
  refine aw_locals (lv' := [(1, .int p0), (2, .int s0), (3, .int (0 : Int32)), (4, .int (1 : Int32))]) [3, 2, 1, 0] rfl ?_
  exact tX1_sumOfDivisors_19  N _ _ _
def fX1_sumOfDivisors (N K : Nat) (ru : Int32) (sz : Int32) (f : Nat → Int32) (p0 : Int32) : Option (Int32) :=
  (if ru = (2 : Int32) then fX1_sumOfDivisors_13 N K ru sz f p0  (2 : Int32) else fX1_sumOfDivisors_13 N K ru sz f p0  (1 : Int32))
set_option maxHeartbeats 4000000 in
set_option maxRecDepth 100000 in
theorem ok_X1_sumOfDivisors {N K : Nat} {h a : Nat} {ru : Int32} {sz : Int32} {f : Nat → Int32} {p0 : Int32} {xr : Int32} (hE : fX1_sumOfDivisors N K ru sz f p0 = some xr) : OkM yX1_sumOfDivisors (.code yX1_sumOfDivisors cX1_sumOfDivisors 5 (some .int)) (0) 0 0 [.ref h, .int p0] [(h, .inr (3, [.int ru, .ref a, .int sz])), (a, .inl (0, 21, .inl f))] ((PN (U := Int32) (fun zz _ => some (.int zz)) (fun zz ad => [(h, .inr (3, [.int ru, .ref a, .int sz])), (a, .inl (0, 21, .inl f))])) xr) := by
  refine ok_of (by decide) (Nat.le_of_ble_eq_true rfl) hE ?_
  refine aw_locals (lv' := [(0, .ref h), (1, .int p0)]) [0, 1] rfl ?_
  refine aw_aload_n (q := 1) dX1_sumOfDivisors_0 rfl 0 rfl ?_
  refine aw_get (q := 4) dX1_sumOfDivisors_1 rfl fl_X1_15 0 rfl rfl ?_
  refine aw_iconst (q := 5) (v := 2) dX1_sumOfDivisors_4 rfl (by decide) ?_
  refine aw_icmp_ne (tgt := 12) (q := 8) dX1_sumOfDivisors_5 (by decide) rfl (fun h_5 => ?_) (fun h_5 => ?_)
  · refine aw_iconst (q := 13) (v := 1) dX1_sumOfDivisors_12 rfl (by decide) ?_
    refine aw_locals (lv' := [(1, .int p0)]) [1] rfl ?_
    exact tX1_sumOfDivisors_13  _
  · refine aw_iconst (q := 9) (v := 2) dX1_sumOfDivisors_8 rfl (by decide) ?_
    refine aw_goto (tgt := 13) dX1_sumOfDivisors_9 (by decide) ?_
    refine aw_locals (lv' := [(1, .int p0)]) [1] rfl ?_
    exact tX1_sumOfDivisors_13  _
def fX1_mark_31 (N K : Nat) (ru : Int32) (sz : Int32) (f : Nat → Int32) (k_4 : Int32 → Int32 → Option (Int32)) (l1 : Int32) (l2 : Int32) : Option (Int32) :=
  k_4 l1 (l2 + (1 : Int32))
set_option maxHeartbeats 4000000 in
set_option maxRecDepth 100000 in
theorem tX1_mark_31 {N K : Nat} {h a : Nat} {ru : Int32} {sz : Int32} {f : Nat → Int32} {k_4 : Int32 → Int32 → Option (Int32)} (hk_4 : ∀ (l1 : Int32) (l2 : Int32), AW RX1 "mark" cX1_mark 3 (some .int) [] (fun _ _ => True) (0) (PN (U := Int32) (fun zz _ => some (.int zz)) (fun zz ad => [(h, .inr (3, [.int ru, .ref a, .int sz])), (a, .inl (0, 21, .inl f))])) 0 0 (k_4 l1 l2) 4 [(0, .ref h), (1, .int l1), (2, .int l2)] [] [(h, .inr (3, [.int ru, .ref a, .int sz])), (a, .inl (0, 21, .inl f))]) : ∀ (l1 : Int32) (l2 : Int32), AW RX1 "mark" cX1_mark 3 (some .int) [] (fun _ _ => True) (0) (PN (U := Int32) (fun zz _ => some (.int zz)) (fun zz ad => [(h, .inr (3, [.int ru, .ref a, .int sz])), (a, .inl (0, 21, .inl f))])) 0 0 (fX1_mark_31 N K ru sz f k_4 l1 l2) 31 [(0, .ref h), (1, .int l1), (2, .int l2)] [] [(h, .inr (3, [.int ru, .ref a, .int sz])), (a, .inl (0, 21, .inl f))] := by
  intro l1 l2
  refine aw_iinc (q := 34) (v := (l2 + (1 : Int32))) (lv' := [(2, .int (l2 + (1 : Int32))), (0, .ref h), (1, .int l1)]) dX1_mark_31 rfl 2 rfl rfl (by decide) rfl ?_
  refine aw_goto (tgt := 4) dX1_mark_34 (by decide) ?_
  refine aw_locals (lv' := [(0, .ref h), (1, .int l1), (2, .int (l2 + (1 : Int32)))]) [1, 2, 0] rfl ?_
  exact hk_4 _ _
def fX1_mark_4 (N K : Nat) (ru : Int32) (sz : Int32) (f : Nat → Int32) : Nat → Int32 → Int32 → Option (Int32)
  | 0, _, _ => none
  | fu + 1, l1, l2 =>
    (if (20 : Int32) < l2 then (some l1) else (if l2 < 0 ∨ 21 ≤ l2.toNatClampNeg then none else (if (f l2.toNatClampNeg) = (-1 : Int32) then fX1_mark_31 N K ru sz f (fX1_mark_4 N K ru sz f  fu) l1 l2 else (if l2 < 0 ∨ 21 ≤ l2.toNatClampNeg then none else fX1_mark_31 N K ru sz f (fX1_mark_4 N K ru sz f  fu) (l1 + (l2 ^^^ (f l2.toNatClampNeg))) l2))))
set_option maxHeartbeats 4000000 in
set_option maxRecDepth 100000 in
theorem tX1_mark_4 {N K : Nat} {h a : Nat} {ru : Int32} {sz : Int32} {f : Nat → Int32} : ∀ (fu : Nat) (l1 : Int32) (l2 : Int32), AW RX1 "mark" cX1_mark 3 (some .int) [] (fun _ _ => True) (0) (PN (U := Int32) (fun zz _ => some (.int zz)) (fun zz ad => [(h, .inr (3, [.int ru, .ref a, .int sz])), (a, .inl (0, 21, .inl f))])) 0 0 (fX1_mark_4 N K ru sz f  fu l1 l2) 4 [(0, .ref h), (1, .int l1), (2, .int l2)] [] [(h, .inr (3, [.int ru, .ref a, .int sz])), (a, .inl (0, 21, .inl f))] := by
  intro fu
  induction fu with
  | zero => intro l1 l2; exact aw_none
  | succ fu ih =>
    intro l1 l2
    refine aw_iload_n (q := 5) dX1_mark_4 rfl 2 rfl ?_
    refine aw_bipush (q := 7) (v := 20) dX1_mark_5 rfl (by decide) ?_
    refine aw_icmp_gt (tgt := 37) (q := 10) dX1_mark_7 (by decide) rfl (fun h_7 => ?_) (fun h_7 => ?_)
    · refine aw_iload_n (q := 38) dX1_mark_37 rfl 1 rfl ?_
      exact aw_ireturn (w := [(h, .inr (3, [.int ru, .ref a, .int sz])), (a, .inl (0, 21, .inl f))]) [0, 1] dX1_mark_38 rfl rfl rfl rfl (PN.mk (fun _ => 0) rfl rfl)
    · refine aw_aload_n (q := 11) dX1_mark_10 rfl 0 rfl ?_
      refine aw_get (q := 14) dX1_mark_11 rfl fl_X1_9 0 rfl rfl ?_
      refine aw_iload_n (q := 15) dX1_mark_14 rfl 2 rfl ?_
      refine aw_iald (q := 16) dX1_mark_15 rfl 1 rfl ?_
      refine aw_iconst (q := 17) (v := (-1)) dX1_mark_16 rfl (by decide) ?_
      refine aw_icmp_eq (tgt := 31) (q := 20) dX1_mark_17 (by decide) rfl (fun h_17 => ?_) (fun h_17 => ?_)
      · exact tX1_mark_31 ih _ _
      · refine aw_iload_n (q := 21) dX1_mark_20 rfl 1 rfl ?_
        refine aw_iload_n (q := 22) dX1_mark_21 rfl 2 rfl ?_
        refine aw_aload_n (q := 23) dX1_mark_22 rfl 0 rfl ?_
        refine aw_get (q := 26) dX1_mark_23 rfl fl_X1_9 0 rfl rfl ?_
        refine aw_iload_n (q := 27) dX1_mark_26 rfl 2 rfl ?_
        refine aw_iald (q := 28) dX1_mark_27 rfl 1 rfl ?_
        refine aw_ixor (q := 29) dX1_mark_28 rfl ?_
        refine aw_iadd (q := 30) dX1_mark_29 rfl ?_
        refine aw_istore_n (q := 31) (lv' := [(1, .int (l1 + (l2 ^^^ (f l2.toNatClampNeg)))), (0, .ref h), (2, .int l2)]) dX1_mark_30 rfl (by decide) rfl ?_
        refine aw_locals (lv' := [(0, .ref h), (1, .int (l1 + (l2 ^^^ (f l2.toNatClampNeg)))), (2, .int l2)]) [1, 0, 2] rfl ?_
        exact tX1_mark_31 ih _ _
def fX1_mark (N K : Nat) (ru : Int32) (sz : Int32) (f : Nat → Int32) : Option (Int32) :=
  fX1_mark_4 N K ru sz f  N (0 : Int32) (1 : Int32)
set_option maxHeartbeats 4000000 in
set_option maxRecDepth 100000 in
theorem ok_X1_mark {N K : Nat} {h a : Nat} {ru : Int32} {sz : Int32} {f : Nat → Int32} {xr : Int32} (hE : fX1_mark N K ru sz f = some xr) : OkM yX1_mark (.code yX1_mark cX1_mark 3 (some .int)) (0) 0 0 [.ref h] [(h, .inr (3, [.int ru, .ref a, .int sz])), (a, .inl (0, 21, .inl f))] ((PN (U := Int32) (fun zz _ => some (.int zz)) (fun zz ad => [(h, .inr (3, [.int ru, .ref a, .int sz])), (a, .inl (0, 21, .inl f))])) xr) := by
  refine ok_of (by decide) (Nat.le_of_ble_eq_true rfl) hE ?_
  refine aw_locals (lv' := [(0, .ref h)]) [0] rfl ?_
  refine aw_iconst (q := 1) (v := 0) dX1_mark_0 rfl (by decide) ?_
  refine aw_istore_n (q := 2) (lv' := [(1, .int (0 : Int32)), (0, .ref h)]) dX1_mark_1 rfl (by decide) rfl ?_
  refine aw_iconst (q := 3) (v := 1) dX1_mark_2 rfl (by decide) ?_
  refine aw_istore_n (q := 4) (lv' := [(2, .int (1 : Int32)), (1, .int (0 : Int32)), (0, .ref h)]) dX1_mark_3 rfl (by decide) rfl ?_
  refine aw_locals (lv' := [(0, .ref h), (1, .int (0 : Int32)), (2, .int (1 : Int32))]) [2, 1, 0] rfl ?_
  exact tX1_mark_4  N _ _
def fX1_drop (N K : Nat) (ru : Int32) (sz : Int32) (f : Nat → Int32) (p0 : Int32) : Option (Int32 × (Nat → Int32)) :=
  (if p0 < (1 : Int32) then (some (sz, f)) else (if (20 : Int32) < p0 then (some (sz, f)) else (if p0 < 0 ∨ 21 ≤ p0.toNatClampNeg then none else (if (f p0.toNatClampNeg) = (-1 : Int32) then (some (sz, f)) else (if p0 < 0 ∨ 21 ≤ p0.toNatClampNeg then none else (some ((sz - (1 : Int32)), (upd f p0.toNatClampNeg (-1 : Int32)))))))))
set_option maxHeartbeats 4000000 in
set_option maxRecDepth 100000 in
theorem ok_X1_drop {N K : Nat} {h a : Nat} {ru : Int32} {sz : Int32} {f : Nat → Int32} {p0 : Int32} {xr : Int32 × (Nat → Int32)} (hE : fX1_drop N K ru sz f p0 = some xr) : OkM yX1_drop (.code yX1_drop cX1_drop 2 none) (0) 0 0 [.ref h, .int p0] [(h, .inr (3, [.int ru, .ref a, .int sz])), (a, .inl (0, 21, .inl f))] ((PN (U := Int32 × (Nat → Int32)) (fun _ _ => none) (fun zz ad => [(h, .inr (3, [.int ru, .ref a, .int zz.1])), (a, .inl (0, 21, .inl zz.2))])) xr) := by
  refine ok_of (by decide) (Nat.le_of_ble_eq_true rfl) hE ?_
  refine aw_locals (lv' := [(0, .ref h), (1, .int p0)]) [0, 1] rfl ?_
  refine aw_iload_n (q := 1) dX1_drop_0 rfl 1 rfl ?_
  refine aw_iconst (q := 2) (v := 1) dX1_drop_1 rfl (by decide) ?_
  refine aw_icmp_lt (tgt := 38) (q := 5) dX1_drop_2 (by decide) rfl (fun h_2 => ?_) (fun h_2 => ?_)
  · exact aw_return (w := [(h, .inr (3, [.int ru, .ref a, .int sz])), (a, .inl (0, 21, .inl f))]) [0, 1] dX1_drop_38 rfl rfl rfl (PN.mk (fun _ => 0) rfl rfl)
  · refine aw_iload_n (q := 6) dX1_drop_5 rfl 1 rfl ?_
    refine aw_bipush (q := 8) (v := 20) dX1_drop_6 rfl (by decide) ?_
    refine aw_icmp_gt (tgt := 38) (q := 11) dX1_drop_8 (by decide) rfl (fun h_8 => ?_) (fun h_8 => ?_)
    · exact aw_return (w := [(h, .inr (3, [.int ru, .ref a, .int sz])), (a, .inl (0, 21, .inl f))]) [0, 1] dX1_drop_38 rfl rfl rfl (PN.mk (fun _ => 0) rfl rfl)
    · refine aw_aload_n (q := 12) dX1_drop_11 rfl 0 rfl ?_
      refine aw_get (q := 15) dX1_drop_12 rfl fl_X1_9 0 rfl rfl ?_
      refine aw_iload_n (q := 16) dX1_drop_15 rfl 1 rfl ?_
      refine aw_iald (q := 17) dX1_drop_16 rfl 1 rfl ?_
      refine aw_iconst (q := 18) (v := (-1)) dX1_drop_17 rfl (by decide) ?_
      refine aw_icmp_eq (tgt := 38) (q := 21) dX1_drop_18 (by decide) rfl (fun h_18 => ?_) (fun h_18 => ?_)
      · exact aw_return (w := [(h, .inr (3, [.int ru, .ref a, .int sz])), (a, .inl (0, 21, .inl f))]) [0, 1] dX1_drop_38 rfl rfl rfl (PN.mk (fun _ => 0) rfl rfl)
      · refine aw_aload_n (q := 22) dX1_drop_21 rfl 0 rfl ?_
        refine aw_get (q := 25) dX1_drop_22 rfl fl_X1_9 0 rfl rfl ?_
        refine aw_iload_n (q := 26) dX1_drop_25 rfl 1 rfl ?_
        refine aw_iconst (q := 27) (v := (-1)) dX1_drop_26 rfl (by decide) ?_
        refine aw_iast (q := 28) (ws' := [(h, .inr (3, [.int ru, .ref a, .int sz])), (a, .inl (0, 21, .inl (upd f p0.toNatClampNeg (-1 : Int32))))]) dX1_drop_27 rfl 1 rfl rfl ?_
        refine aw_aload_n (q := 29) dX1_drop_28 rfl 0 rfl ?_
        refine aw_dup (q := 30) dX1_drop_29 rfl rfl ?_
        refine aw_get (q := 33) dX1_drop_30 rfl fl_X1_25 0 rfl rfl ?_
        refine aw_iconst (q := 34) (v := 1) dX1_drop_33 rfl (by decide) ?_
        refine aw_isub (q := 35) dX1_drop_34 rfl ?_
        refine aw_put (q := 38) (ws' := [(h, .inr (3, [.int ru, .ref a, .int (sz - (1 : Int32))])), (a, .inl (0, 21, .inl (upd f p0.toNatClampNeg (-1 : Int32))))]) dX1_drop_35 rfl fl_X1_25 0 rfl rfl rfl (Nat.le_of_ble_eq_true rfl) rfl ?_
        exact aw_return (w := [(h, .inr (3, [.int ru, .ref a, .int (sz - (1 : Int32))])), (a, .inl (0, 21, .inl (upd f p0.toNatClampNeg (-1 : Int32))))]) [0, 1] dX1_drop_38 rfl rfl rfl (PN.mk (fun _ => 0) rfl rfl)
def fX1_dropAll (N K : Nat) (ru : Int32) (sz : Int32) (f : Nat → Int32) : Option (Int32 × Int32 × (Nat → Int32)) :=
  ((fJ_fill N K 21 f (-1 : Int32)).bind (fun x10 => (some (sz, (0 : Int32), x10))))
set_option maxHeartbeats 4000000 in
set_option maxRecDepth 100000 in
theorem ok_X1_dropAll {N K : Nat} {h a : Nat} {ru : Int32} {sz : Int32} {f : Nat → Int32} {xr : Int32 × Int32 × (Nat → Int32)} (hE : fX1_dropAll N K ru sz f = some xr) : OkM yX1_dropAll (.code yX1_dropAll cX1_dropAll 2 (some .int)) (1) 0 0 [.ref h] [(h, .inr (3, [.int ru, .ref a, .int sz])), (a, .inl (0, 21, .inl f))] ((PN (U := Int32 × Int32 × (Nat → Int32)) (fun zz _ => some (.int zz.1)) (fun zz ad => [(h, .inr (3, [.int ru, .ref a, .int zz.2.1])), (a, .inl (0, 21, .inl zz.2.2))])) xr) := by
  refine ok_of (by decide) (Nat.le_of_ble_eq_true rfl) hE ?_
  refine aw_locals (lv' := [(0, .ref h)]) [0] rfl ?_
  refine aw_aload_n (q := 1) dX1_dropAll_0 rfl 0 rfl ?_
  refine aw_get (q := 4) dX1_dropAll_1 rfl fl_X1_25 0 rfl rfl ?_
  refine aw_istore_n (q := 5) (lv' := [(1, .int sz), (0, .ref h)]) dX1_dropAll_4 rfl (by decide) rfl ?_
  refine aw_aload_n (q := 6) dX1_dropAll_5 rfl 1 rfl ?_
  refine aw_get (q := 9) dX1_dropAll_6 rfl fl_X1_9 0 rfl rfl ?_
  refine aw_iconst (q := 10) (v := (-1)) dX1_dropAll_9 rfl (by decide) ?_
  refine aw_call (q := 13) (kc1 := 0) (ks1 := 0) (wc := [(a, .inl (0, 21, .inl f))]) (wr := [(h, .inr (3, [.int ru, .ref a, .int sz]))]) (st1 := fun x10 g10 => []) (ws1 := fun x10 g10 => [(h, .inr (3, [.int ru, .ref a, .int sz])), (a, .inl (0, 21, .inl x10))]) (As := [.ref a, .int (-1 : Int32)]) [1] [0] (fun _ => runS dX1_dropAll_10 mi_J7_fill_53178 st_J7_fill_53178 ml_X1_19 (by omega) rfl (Nat.le_of_ble_eq_true rfl) rfl) (fun x9 h9 => ok_J_fill h9) rfl rfl rfl rfl rfl (by decide) (by omega) (by omega) (fun _ _ => rfl) (fun _ _ => rfl) (fun x10 g10 => ?_)
  refine aw_aload_n (q := 14) dX1_dropAll_13 rfl 1 rfl ?_
  refine aw_iconst (q := 15) (v := 0) dX1_dropAll_14 rfl (by decide) ?_
  refine aw_put (q := 18) (ws' := [(h, .inr (3, [.int ru, .ref a, .int (0 : Int32)])), (a, .inl (0, 21, .inl x10))]) dX1_dropAll_15 rfl fl_X1_25 0 rfl rfl rfl (Nat.le_of_ble_eq_true rfl) rfl ?_
  refine aw_iload_n (q := 19) dX1_dropAll_18 rfl 0 rfl ?_
  exact aw_ireturn (w := [(h, .inr (3, [.int ru, .ref a, .int (0 : Int32)])), (a, .inl (0, 21, .inl x10))]) [0, 1] dX1_dropAll_19 rfl rfl rfl rfl (PN.mk (fun _ => 0) rfl rfl)
def fX1_byPentagons_105 (N K : Nat) (rec : Int32 → Int32 → (Nat → Int32) → Int32 → Int32 → Int32 → Int32 → Int32 → Int32 → Int32 → Int32 → Option (Int32 × Int32 × (Nat → Int32) × Int32 × Int32 × Int32)) (ru : Int32) (sz : Int32) (f : Nat → Int32) (c0 : Int32) (c1 : Int32) (c2 : Int32) (c3 : Int32) (c4 : Int32) (c5 : Int32) (p0 : Int32) (p1 : Int32) (k_6 : Int32 → Int32 → Int32 → (Nat → Int32) → Int32 → Int32 → Int32 → Option (Int32 × Int32 × (Nat → Int32) × Int32 × Int32 × Int32)) (l5 : Int32) (s0 : Int32) (s1 : Int32) (sz_ : Int32) (f_ : Nat → Int32) (c1_ : Int32) (c2_ : Int32) (c3_ : Int32) : Option (Int32 × Int32 × (Nat → Int32) × Int32 × Int32 × Int32) :=
  k_6 (s1 + s0) (l5 + (1 : Int32)) sz_ f_ c1_ c2_ c3_
set_option maxHeartbeats 4000000 in
set_option maxRecDepth 100000 in
theorem tX1_byPentagons_105 {N K : Nat} {h c a : Nat} {ru : Int32} {sz : Int32} {f : Nat → Int32} {c0 : Int32} {c1 : Int32} {c2 : Int32} {c3 : Int32} {c4 : Int32} {c5 : Int32} {p0 : Int32} {p1 : Int32} {rec : Int32 → Int32 → (Nat → Int32) → Int32 → Int32 → Int32 → Int32 → Int32 → Int32 → Int32 → Int32 → Option (Int32 × Int32 × (Nat → Int32) × Int32 × Int32 × Int32)} {dr : Nat} (hrec : ∀ (ru : Int32) (sz : Int32) (f : Nat → Int32) (c0 : Int32) (c1 : Int32) (c2 : Int32) (c3 : Int32) (c4 : Int32) (c5 : Int32) (p0 : Int32) (p1 : Int32) (xr : Int32 × Int32 × (Nat → Int32) × Int32 × Int32 × Int32), rec ru sz f c0 c1 c2 c3 c4 c5 p0 p1 = some xr → OkM yX1_worthKnown (.code yX1_worthKnown cX1_worthKnown 5 (some .int)) (dr) 0 0 [.ref h, .int p0, .ref c, .int p1] [(h, .inr (3, [.int ru, .ref a, .int sz])), (a, .inl (0, 21, .inl f)), (c, .inr (2, [.int c0, .int c1, .int c2, .int c3, .int c4, .int c5]))] ((PN (U := Int32 × Int32 × (Nat → Int32) × Int32 × Int32 × Int32) (fun zz _ => some (.int zz.1)) (fun zz ad => [(h, .inr (3, [.int ru, .ref a, .int zz.2.1])), (a, .inl (0, 21, .inl zz.2.2.1)), (c, .inr (2, [.int c0, .int zz.2.2.2.1, .int zz.2.2.2.2.1, .int zz.2.2.2.2.2, .int c4, .int c5]))])) xr)) {k_6 : Int32 → Int32 → Int32 → (Nat → Int32) → Int32 → Int32 → Int32 → Option (Int32 × Int32 × (Nat → Int32) × Int32 × Int32 × Int32)} (hk_6 : ∀ (l4 : Int32) (l5 : Int32) (sz_ : Int32) (f_ : Nat → Int32) (c1_ : Int32) (c2_ : Int32) (c3_ : Int32), AW RX1 "byPentagons" cX1_byPentagons 7 (some .int) [] (fun _ _ => True) (dr + 1) (PN (U := Int32 × Int32 × (Nat → Int32) × Int32 × Int32 × Int32) (fun zz _ => some (.int zz.1)) (fun zz ad => [(h, .inr (3, [.int ru, .ref a, .int zz.2.1])), (a, .inl (0, 21, .inl zz.2.2.1)), (c, .inr (2, [.int c0, .int zz.2.2.2.1, .int zz.2.2.2.2.1, .int zz.2.2.2.2.2, .int c4, .int c5]))])) 0 0 (k_6 l4 l5 sz_ f_ c1_ c2_ c3_) 6 [(0, .ref h), (1, .int p0), (2, .ref c), (3, .int p1), (4, .int l4), (5, .int l5)] [] [(h, .inr (3, [.int ru, .ref a, .int sz_])), (a, .inl (0, 21, .inl f_)), (c, .inr (2, [.int c0, .int c1_, .int c2_, .int c3_, .int c4, .int c5]))]) : ∀ (l5 : Int32) (s0 : Int32) (s1 : Int32) (sz_ : Int32) (f_ : Nat → Int32) (c1_ : Int32) (c2_ : Int32) (c3_ : Int32), AW RX1 "byPentagons" cX1_byPentagons 7 (some .int) [] (fun _ _ => True) (dr + 1) (PN (U := Int32 × Int32 × (Nat → Int32) × Int32 × Int32 × Int32) (fun zz _ => some (.int zz.1)) (fun zz ad => [(h, .inr (3, [.int ru, .ref a, .int zz.2.1])), (a, .inl (0, 21, .inl zz.2.2.1)), (c, .inr (2, [.int c0, .int zz.2.2.2.1, .int zz.2.2.2.2.1, .int zz.2.2.2.2.2, .int c4, .int c5]))])) 0 0 (fX1_byPentagons_105 N K rec ru sz f c0 c1 c2 c3 c4 c5 p0 p1 k_6 l5 s0 s1 sz_ f_ c1_ c2_ c3_) 105 [(0, .ref h), (1, .int p0), (2, .ref c), (3, .int p1), (5, .int l5)] [.int s0, .int s1] [(h, .inr (3, [.int ru, .ref a, .int sz_])), (a, .inl (0, 21, .inl f_)), (c, .inr (2, [.int c0, .int c1_, .int c2_, .int c3_, .int c4, .int c5]))] := by
  intro l5 s0 s1 sz_ f_ c1_ c2_ c3_
  refine aw_iadd (q := 106) dX1_byPentagons_105 rfl ?_
  refine aw_istore (q := 108) (lv' := [(4, .int (s1 + s0)), (0, .ref h), (1, .int p0), (2, .ref c), (3, .int p1), (5, .int l5)]) dX1_byPentagons_106 rfl (by decide) rfl ?_
  refine aw_iinc (q := 111) (v := (l5 + (1 : Int32))) (lv' := [(5, .int (l5 + (1 : Int32))), (4, .int (s1 + s0)), (0, .ref h), (1, .int p0), (2, .ref c), (3, .int p1)]) dX1_byPentagons_108 rfl 5 rfl rfl (by decide) rfl ?_
  refine aw_goto (tgt := 6) dX1_byPentagons_111 (by decide) ?_
  refine aw_locals (lv' := [(0, .ref h), (1, .int p0), (2, .ref c), (3, .int p1), (4, .int (s1 + s0)), (5, .int (l5 + (1 : Int32)))]) [2, 3, 4, 5, 1, 0] rfl ?_
  exact hk_6 _ _ _ _ _ _ _
def fX1_byPentagons_88 (N K : Nat) (rec : Int32 → Int32 → (Nat → Int32) → Int32 → Int32 → Int32 → Int32 → Int32 → Int32 → Int32 → Int32 → Option (Int32 × Int32 × (Nat → Int32) × Int32 × Int32 × Int32)) (ru : Int32) (sz : Int32) (f : Nat → Int32) (c0 : Int32) (c1 : Int32) (c2 : Int32) (c3 : Int32) (c4 : Int32) (c5 : Int32) (p0 : Int32) (p1 : Int32) (k_6 : Int32 → Int32 → Int32 → (Nat → Int32) → Int32 → Int32 → Int32 → Option (Int32 × Int32 × (Nat → Int32) × Int32 × Int32 × Int32)) (l4 : Int32) (l5 : Int32) (l6 : Int32) (sz_ : Int32) (f_ : Nat → Int32) (c1_ : Int32) (c2_ : Int32) (c3_ : Int32) : Option (Int32 × Int32 × (Nat → Int32) × Int32 × Int32 × Int32) :=
  (if (l5 % (2 : Int32)) = 0 then fX1_byPentagons_105 N K rec ru sz f c0 c1 c2 c3 c4 c5 p0 p1 k_6 l5 (-l6) l4 sz_ f_ c1_ c2_ c3_ else fX1_byPentagons_105 N K rec ru sz f c0 c1 c2 c3 c4 c5 p0 p1 k_6 l5 l6 l4 sz_ f_ c1_ c2_ c3_)
set_option maxHeartbeats 4000000 in
set_option maxRecDepth 100000 in
theorem tX1_byPentagons_88 {N K : Nat} {h c a : Nat} {ru : Int32} {sz : Int32} {f : Nat → Int32} {c0 : Int32} {c1 : Int32} {c2 : Int32} {c3 : Int32} {c4 : Int32} {c5 : Int32} {p0 : Int32} {p1 : Int32} {rec : Int32 → Int32 → (Nat → Int32) → Int32 → Int32 → Int32 → Int32 → Int32 → Int32 → Int32 → Int32 → Option (Int32 × Int32 × (Nat → Int32) × Int32 × Int32 × Int32)} {dr : Nat} (hrec : ∀ (ru : Int32) (sz : Int32) (f : Nat → Int32) (c0 : Int32) (c1 : Int32) (c2 : Int32) (c3 : Int32) (c4 : Int32) (c5 : Int32) (p0 : Int32) (p1 : Int32) (xr : Int32 × Int32 × (Nat → Int32) × Int32 × Int32 × Int32), rec ru sz f c0 c1 c2 c3 c4 c5 p0 p1 = some xr → OkM yX1_worthKnown (.code yX1_worthKnown cX1_worthKnown 5 (some .int)) (dr) 0 0 [.ref h, .int p0, .ref c, .int p1] [(h, .inr (3, [.int ru, .ref a, .int sz])), (a, .inl (0, 21, .inl f)), (c, .inr (2, [.int c0, .int c1, .int c2, .int c3, .int c4, .int c5]))] ((PN (U := Int32 × Int32 × (Nat → Int32) × Int32 × Int32 × Int32) (fun zz _ => some (.int zz.1)) (fun zz ad => [(h, .inr (3, [.int ru, .ref a, .int zz.2.1])), (a, .inl (0, 21, .inl zz.2.2.1)), (c, .inr (2, [.int c0, .int zz.2.2.2.1, .int zz.2.2.2.2.1, .int zz.2.2.2.2.2, .int c4, .int c5]))])) xr)) {k_6 : Int32 → Int32 → Int32 → (Nat → Int32) → Int32 → Int32 → Int32 → Option (Int32 × Int32 × (Nat → Int32) × Int32 × Int32 × Int32)} (hk_6 : ∀ (l4 : Int32) (l5 : Int32) (sz_ : Int32) (f_ : Nat → Int32) (c1_ : Int32) (c2_ : Int32) (c3_ : Int32), AW RX1 "byPentagons" cX1_byPentagons 7 (some .int) [] (fun _ _ => True) (dr + 1) (PN (U := Int32 × Int32 × (Nat → Int32) × Int32 × Int32 × Int32) (fun zz _ => some (.int zz.1)) (fun zz ad => [(h, .inr (3, [.int ru, .ref a, .int zz.2.1])), (a, .inl (0, 21, .inl zz.2.2.1)), (c, .inr (2, [.int c0, .int zz.2.2.2.1, .int zz.2.2.2.2.1, .int zz.2.2.2.2.2, .int c4, .int c5]))])) 0 0 (k_6 l4 l5 sz_ f_ c1_ c2_ c3_) 6 [(0, .ref h), (1, .int p0), (2, .ref c), (3, .int p1), (4, .int l4), (5, .int l5)] [] [(h, .inr (3, [.int ru, .ref a, .int sz_])), (a, .inl (0, 21, .inl f_)), (c, .inr (2, [.int c0, .int c1_, .int c2_, .int c3_, .int c4, .int c5]))]) : ∀ (l4 : Int32) (l5 : Int32) (l6 : Int32) (sz_ : Int32) (f_ : Nat → Int32) (c1_ : Int32) (c2_ : Int32) (c3_ : Int32), AW RX1 "byPentagons" cX1_byPentagons 7 (some .int) [] (fun _ _ => True) (dr + 1) (PN (U := Int32 × Int32 × (Nat → Int32) × Int32 × Int32 × Int32) (fun zz _ => some (.int zz.1)) (fun zz ad => [(h, .inr (3, [.int ru, .ref a, .int zz.2.1])), (a, .inl (0, 21, .inl zz.2.2.1)), (c, .inr (2, [.int c0, .int zz.2.2.2.1, .int zz.2.2.2.2.1, .int zz.2.2.2.2.2, .int c4, .int c5]))])) 0 0 (fX1_byPentagons_88 N K rec ru sz f c0 c1 c2 c3 c4 c5 p0 p1 k_6 l4 l5 l6 sz_ f_ c1_ c2_ c3_) 88 [(0, .ref h), (1, .int p0), (2, .ref c), (3, .int p1), (4, .int l4), (5, .int l5), (6, .int l6)] [] [(h, .inr (3, [.int ru, .ref a, .int sz_])), (a, .inl (0, 21, .inl f_)), (c, .inr (2, [.int c0, .int c1_, .int c2_, .int c3_, .int c4, .int c5]))] := by
  intro l4 l5 l6 sz_ f_ c1_ c2_ c3_
  refine aw_iload (q := 90) dX1_byPentagons_88 rfl 4 rfl ?_
  refine aw_iload (q := 92) dX1_byPentagons_90 rfl 5 rfl ?_
  refine aw_iconst (q := 93) (v := 2) dX1_byPentagons_92 rfl (by decide) ?_
  refine aw_iremT (q := 94) dX1_byPentagons_93 rfl (by decide) ?_
  refine aw_if_eq (tgt := 102) (q := 97) dX1_byPentagons_94 (by decide) rfl (fun h_94 => ?_) (fun h_94 => ?_)
  · refine aw_iload (q := 104) dX1_byPentagons_102 rfl 6 rfl ?_
    refine aw_ineg (q := 105) dX1_byPentagons_104 rfl ?_
    refine aw_locals (lv' := [(0, .ref h), (1, .int p0), (2, .ref c), (3, .int p1), (5, .int l5)]) [0, 1, 2, 3, 5] rfl ?_
    exact tX1_byPentagons_105 hrec hk_6 _ _ _ _ _ _ _ _
  · refine aw_iload (q := 99) dX1_byPentagons_97 rfl 6 rfl ?_
    refine aw_goto (tgt := 105) dX1_byPentagons_99 (by decide) ?_
    refine aw_locals (lv' := [(0, .ref h), (1, .int p0), (2, .ref c), (3, .int p1), (5, .int l5)]) [0, 1, 2, 3, 5] rfl ?_
    exact tX1_byPentagons_105 hrec hk_6 _ _ _ _ _ _ _ _
def fX1_byPentagons_6 (N K : Nat) (rec : Int32 → Int32 → (Nat → Int32) → Int32 → Int32 → Int32 → Int32 → Int32 → Int32 → Int32 → Int32 → Option (Int32 × Int32 × (Nat → Int32) × Int32 × Int32 × Int32)) (ru : Int32) (sz : Int32) (f : Nat → Int32) (c0 : Int32) (c1 : Int32) (c2 : Int32) (c3 : Int32) (c4 : Int32) (c5 : Int32) (p0 : Int32) (p1 : Int32) : Nat → Int32 → Int32 → Int32 → (Nat → Int32) → Int32 → Int32 → Int32 → Option (Int32 × Int32 × (Nat → Int32) × Int32 × Int32 × Int32)
  | 0, _, _, _, _, _, _, _ => none
  | fu + 1, l4, l5, sz_, f_, c1_, c2_, c3_ =>
    (if (20 : Int32) < l5 then (some (l4, sz_, f_, c1_, c2_, c3_)) else (if p0 < ((l5 * (((3 : Int32) * l5) - (1 : Int32))) / (2 : Int32)) then (some (l4, sz_, f_, c1_, c2_, c3_)) else ((rec ru sz_ f_ c0 c1_ c2_ c3_ c4 c5 (p0 - ((l5 * (((3 : Int32) * l5) - (1 : Int32))) / (2 : Int32))) p1).bind (fun x44 => (if p0 < ((l5 * (((3 : Int32) * l5) + (1 : Int32))) / (2 : Int32)) then fX1_byPentagons_88 N K rec ru sz f c0 c1 c2 c3 c4 c5 p0 p1 (fX1_byPentagons_6 N K rec ru sz f c0 c1 c2 c3 c4 c5 p0 p1  fu) l4 l5 x44.1 x44.2.1 x44.2.2.1 x44.2.2.2.1 x44.2.2.2.2.1 x44.2.2.2.2.2 else ((rec ru x44.2.1 x44.2.2.1 c0 x44.2.2.2.1 x44.2.2.2.2.1 x44.2.2.2.2.2 c4 c5 (p0 - ((l5 * (((3 : Int32) * l5) + (1 : Int32))) / (2 : Int32))) p1).bind (fun x82 => fX1_byPentagons_88 N K rec ru sz f c0 c1 c2 c3 c4 c5 p0 p1 (fX1_byPentagons_6 N K rec ru sz f c0 c1 c2 c3 c4 c5 p0 p1  fu) l4 l5 (x44.1 + x82.1) x82.2.1 x82.2.2.1 x82.2.2.2.1 x82.2.2.2.2.1 x82.2.2.2.2.2)))))))
set_option maxHeartbeats 4000000 in
set_option maxRecDepth 100000 in
theorem tX1_byPentagons_6 {N K : Nat} {h c a : Nat} {ru : Int32} {sz : Int32} {f : Nat → Int32} {c0 : Int32} {c1 : Int32} {c2 : Int32} {c3 : Int32} {c4 : Int32} {c5 : Int32} {p0 : Int32} {p1 : Int32} {rec : Int32 → Int32 → (Nat → Int32) → Int32 → Int32 → Int32 → Int32 → Int32 → Int32 → Int32 → Int32 → Option (Int32 × Int32 × (Nat → Int32) × Int32 × Int32 × Int32)} {dr : Nat} (hrec : ∀ (ru : Int32) (sz : Int32) (f : Nat → Int32) (c0 : Int32) (c1 : Int32) (c2 : Int32) (c3 : Int32) (c4 : Int32) (c5 : Int32) (p0 : Int32) (p1 : Int32) (xr : Int32 × Int32 × (Nat → Int32) × Int32 × Int32 × Int32), rec ru sz f c0 c1 c2 c3 c4 c5 p0 p1 = some xr → OkM yX1_worthKnown (.code yX1_worthKnown cX1_worthKnown 5 (some .int)) (dr) 0 0 [.ref h, .int p0, .ref c, .int p1] [(h, .inr (3, [.int ru, .ref a, .int sz])), (a, .inl (0, 21, .inl f)), (c, .inr (2, [.int c0, .int c1, .int c2, .int c3, .int c4, .int c5]))] ((PN (U := Int32 × Int32 × (Nat → Int32) × Int32 × Int32 × Int32) (fun zz _ => some (.int zz.1)) (fun zz ad => [(h, .inr (3, [.int ru, .ref a, .int zz.2.1])), (a, .inl (0, 21, .inl zz.2.2.1)), (c, .inr (2, [.int c0, .int zz.2.2.2.1, .int zz.2.2.2.2.1, .int zz.2.2.2.2.2, .int c4, .int c5]))])) xr)) : ∀ (fu : Nat) (l4 : Int32) (l5 : Int32) (sz_ : Int32) (f_ : Nat → Int32) (c1_ : Int32) (c2_ : Int32) (c3_ : Int32), AW RX1 "byPentagons" cX1_byPentagons 7 (some .int) [] (fun _ _ => True) (dr + 1) (PN (U := Int32 × Int32 × (Nat → Int32) × Int32 × Int32 × Int32) (fun zz _ => some (.int zz.1)) (fun zz ad => [(h, .inr (3, [.int ru, .ref a, .int zz.2.1])), (a, .inl (0, 21, .inl zz.2.2.1)), (c, .inr (2, [.int c0, .int zz.2.2.2.1, .int zz.2.2.2.2.1, .int zz.2.2.2.2.2, .int c4, .int c5]))])) 0 0 (fX1_byPentagons_6 N K rec ru sz f c0 c1 c2 c3 c4 c5 p0 p1  fu l4 l5 sz_ f_ c1_ c2_ c3_) 6 [(0, .ref h), (1, .int p0), (2, .ref c), (3, .int p1), (4, .int l4), (5, .int l5)] [] [(h, .inr (3, [.int ru, .ref a, .int sz_])), (a, .inl (0, 21, .inl f_)), (c, .inr (2, [.int c0, .int c1_, .int c2_, .int c3_, .int c4, .int c5]))] := by
  intro fu
  induction fu with
  | zero => intro l4 l5 sz_ f_ c1_ c2_ c3_; exact aw_none
  | succ fu ih =>
    intro l4 l5 sz_ f_ c1_ c2_ c3_
    refine aw_iload (q := 8) dX1_byPentagons_6 rfl 5 rfl ?_
    refine aw_bipush (q := 10) (v := 20) dX1_byPentagons_8 rfl (by decide) ?_
    refine aw_icmp_gt (tgt := 114) (q := 13) dX1_byPentagons_10 (by decide) rfl (fun h_10 => ?_) (fun h_10 => ?_)
    · refine aw_iload (q := 116) dX1_byPentagons_114 rfl 4 rfl ?_
      exact aw_ireturn (w := [(h, .inr (3, [.int ru, .ref a, .int sz_])), (a, .inl (0, 21, .inl f_)), (c, .inr (2, [.int c0, .int c1_, .int c2_, .int c3_, .int c4, .int c5]))]) [0, 1, 2] dX1_byPentagons_116 rfl rfl rfl rfl (PN.mk (fun _ => 0) rfl rfl)
    · refine aw_iload (q := 15) dX1_byPentagons_13 rfl 5 rfl ?_
      refine aw_iconst (q := 16) (v := 3) dX1_byPentagons_15 rfl (by decide) ?_
      refine aw_iload (q := 18) dX1_byPentagons_16 rfl 5 rfl ?_
      refine aw_imul (q := 19) dX1_byPentagons_18 rfl ?_
      refine aw_iconst (q := 20) (v := 1) dX1_byPentagons_19 rfl (by decide) ?_
      refine aw_isub (q := 21) dX1_byPentagons_20 rfl ?_
      refine aw_imul (q := 22) dX1_byPentagons_21 rfl ?_
      refine aw_iconst (q := 23) (v := 2) dX1_byPentagons_22 rfl (by decide) ?_
      refine aw_idivT (q := 24) dX1_byPentagons_23 rfl (by decide) ?_
      refine aw_iload_n (q := 25) dX1_byPentagons_24 rfl 1 rfl ?_
      refine aw_icmp_gt (tgt := 114) (q := 28) dX1_byPentagons_25 (by decide) rfl (fun h_25 => ?_) (fun h_25 => ?_)
      · refine aw_iload (q := 116) dX1_byPentagons_114 rfl 4 rfl ?_
        exact aw_ireturn (w := [(h, .inr (3, [.int ru, .ref a, .int sz_])), (a, .inl (0, 21, .inl f_)), (c, .inr (2, [.int c0, .int c1_, .int c2_, .int c3_, .int c4, .int c5]))]) [0, 1, 2] dX1_byPentagons_116 rfl rfl rfl rfl (PN.mk (fun _ => 0) rfl rfl)
      · refine aw_aload_n (q := 29) dX1_byPentagons_28 rfl 0 rfl ?_
        refine aw_iload_n (q := 30) dX1_byPentagons_29 rfl 1 rfl ?_
        refine aw_iload (q := 32) dX1_byPentagons_30 rfl 5 rfl ?_
        refine aw_iconst (q := 33) (v := 3) dX1_byPentagons_32 rfl (by decide) ?_
        refine aw_iload (q := 35) dX1_byPentagons_33 rfl 5 rfl ?_
        refine aw_imul (q := 36) dX1_byPentagons_35 rfl ?_
        refine aw_iconst (q := 37) (v := 1) dX1_byPentagons_36 rfl (by decide) ?_
        refine aw_isub (q := 38) dX1_byPentagons_37 rfl ?_
        refine aw_imul (q := 39) dX1_byPentagons_38 rfl ?_
        refine aw_iconst (q := 40) (v := 2) dX1_byPentagons_39 rfl (by decide) ?_
        refine aw_idivT (q := 41) dX1_byPentagons_40 rfl (by decide) ?_
        refine aw_isub (q := 42) dX1_byPentagons_41 rfl ?_
        refine aw_aload_n (q := 43) dX1_byPentagons_42 rfl 2 rfl ?_
        refine aw_iload_n (q := 44) dX1_byPentagons_43 rfl 3 rfl ?_
        refine aw_call (q := 47) (kc1 := 0) (ks1 := 0) (wc := [(h, .inr (3, [.int ru, .ref a, .int sz_])), (a, .inl (0, 21, .inl f_)), (c, .inr (2, [.int c0, .int c1_, .int c2_, .int c3_, .int c4, .int c5]))]) (wr := []) (st1 := fun x44 g44 => [.int x44.1]) (ws1 := fun x44 g44 => [(h, .inr (3, [.int ru, .ref a, .int x44.2.1])), (a, .inl (0, 21, .inl x44.2.2.1)), (c, .inr (2, [.int c0, .int x44.2.2.2.1, .int x44.2.2.2.2.1, .int x44.2.2.2.2.2, .int c4, .int c5]))]) (As := [.ref h, .int (p0 - ((l5 * (((3 : Int32) * l5) - (1 : Int32))) / (2 : Int32))), .ref c, .int p1]) [0, 1, 2] [] (fun _ => runV (q0 := 0) dX1_byPentagons_44 mi_X1_worthKnown im_X1_worthKnown se_X1_worthKnown ml_X1_28 (by omega) rfl (Nat.le_of_ble_eq_true rfl) rfl rfl rfl rfl) (fun x9 h9 => hrec _ _ _ _ _ _ _ _ _ _ _ x9 h9) rfl rfl rfl rfl rfl (by decide) (by omega) (by omega) (fun _ _ => rfl) (fun _ _ => rfl) (fun x44 g44 => ?_)
        refine aw_istore (q := 49) (lv' := [(6, .int x44.1), (0, .ref h), (1, .int p0), (2, .ref c), (3, .int p1), (4, .int l4), (5, .int l5)]) dX1_byPentagons_47 rfl (by decide) rfl ?_
        refine aw_iload (q := 51) dX1_byPentagons_49 rfl 6 rfl ?_
        refine aw_iconst (q := 52) (v := 3) dX1_byPentagons_51 rfl (by decide) ?_
        refine aw_iload (q := 54) dX1_byPentagons_52 rfl 6 rfl ?_
        refine aw_imul (q := 55) dX1_byPentagons_54 rfl ?_
        refine aw_iconst (q := 56) (v := 1) dX1_byPentagons_55 rfl (by decide) ?_
        refine aw_iadd (q := 57) dX1_byPentagons_56 rfl ?_
        refine aw_imul (q := 58) dX1_byPentagons_57 rfl ?_
        refine aw_iconst (q := 59) (v := 2) dX1_byPentagons_58 rfl (by decide) ?_
        refine aw_idivT (q := 60) dX1_byPentagons_59 rfl (by decide) ?_
        refine aw_iload_n (q := 61) dX1_byPentagons_60 rfl 2 rfl ?_
        refine aw_icmp_gt (tgt := 88) (q := 64) dX1_byPentagons_61 (by decide) rfl (fun h_61 => ?_) (fun h_61 => ?_)
        · refine aw_locals (lv' := [(0, .ref h), (1, .int p0), (2, .ref c), (3, .int p1), (4, .int l4), (5, .int l5), (6, .int x44.1)]) [1, 2, 3, 4, 5, 6, 0] rfl ?_
          exact tX1_byPentagons_88 hrec ih _ _ _ _ _ _ _ _
        · refine aw_iload (q := 66) dX1_byPentagons_64 rfl 0 rfl ?_
          refine aw_aload_n (q := 67) dX1_byPentagons_66 rfl 1 rfl ?_
          refine aw_iload_n (q := 68) dX1_byPentagons_67 rfl 2 rfl ?_
          refine aw_iload (q := 70) dX1_byPentagons_68 rfl 6 rfl ?_
          refine aw_iconst (q := 71) (v := 3) dX1_byPentagons_70 rfl (by decide) ?_
          refine aw_iload (q := 73) dX1_byPentagons_71 rfl 6 rfl ?_
          refine aw_imul (q := 74) dX1_byPentagons_73 rfl ?_
          refine aw_iconst (q := 75) (v := 1) dX1_byPentagons_74 rfl (by decide) ?_
          refine aw_iadd (q := 76) dX1_byPentagons_75 rfl ?_
          refine aw_imul (q := 77) dX1_byPentagons_76 rfl ?_
          refine aw_iconst (q := 78) (v := 2) dX1_byPentagons_77 rfl (by decide) ?_
          refine aw_idivT (q := 79) dX1_byPentagons_78 rfl (by decide) ?_
          refine aw_isub (q := 80) dX1_byPentagons_79 rfl ?_
          refine aw_aload_n (q := 81) dX1_byPentagons_80 rfl 3 rfl ?_
          refine aw_iload_n (q := 82) dX1_byPentagons_81 rfl 4 rfl ?_
          refine aw_call (q := 85) (kc1 := 0) (ks1 := 0) (wc := [(h, .inr (3, [.int ru, .ref a, .int x44.2.1])), (a, .inl (0, 21, .inl x44.2.2.1)), (c, .inr (2, [.int c0, .int x44.2.2.2.1, .int x44.2.2.2.2.1, .int x44.2.2.2.2.2, .int c4, .int c5]))]) (wr := []) (st1 := fun x82 g82 => [.int x82.1, .int x44.1]) (ws1 := fun x82 g82 => [(h, .inr (3, [.int ru, .ref a, .int x82.2.1])), (a, .inl (0, 21, .inl x82.2.2.1)), (c, .inr (2, [.int c0, .int x82.2.2.2.1, .int x82.2.2.2.2.1, .int x82.2.2.2.2.2, .int c4, .int c5]))]) (As := [.ref h, .int (p0 - ((l5 * (((3 : Int32) * l5) + (1 : Int32))) / (2 : Int32))), .ref c, .int p1]) [0, 1, 2] [] (fun _ => runV (q0 := 0) dX1_byPentagons_82 mi_X1_worthKnown im_X1_worthKnown se_X1_worthKnown ml_X1_28 (by omega) rfl (Nat.le_of_ble_eq_true rfl) rfl rfl rfl rfl) (fun x9 h9 => hrec _ _ _ _ _ _ _ _ _ _ _ x9 h9) rfl rfl rfl rfl rfl (by decide) (by omega) (by omega) (fun _ _ => rfl) (fun _ _ => rfl) (fun x82 g82 => ?_)
          refine aw_iadd (q := 86) dX1_byPentagons_85 rfl ?_
          refine aw_istore (q := 88) (lv' := [(6, .int (x44.1 + x82.1)), (0, .ref h), (1, .int p0), (2, .ref c), (3, .int p1), (4, .int l4), (5, .int l5)]) dX1_byPentagons_86 rfl (by decide) rfl ?_
          refine aw_locals (lv' := [(0, .ref h), (1, .int p0), (2, .ref c), (3, .int p1), (4, .int l4), (5, .int l5), (6, .int (x44.1 + x82.1))]) [1, 2, 3, 4, 5, 6, 0] rfl ?_
          exact tX1_byPentagons_88 hrec ih _ _ _ _ _ _ _ _
def fX1_byPentagons (N K : Nat) (rec : Int32 → Int32 → (Nat → Int32) → Int32 → Int32 → Int32 → Int32 → Int32 → Int32 → Int32 → Int32 → Option (Int32 × Int32 × (Nat → Int32) × Int32 × Int32 × Int32)) (ru : Int32) (sz : Int32) (f : Nat → Int32) (c0 : Int32) (c1 : Int32) (c2 : Int32) (c3 : Int32) (c4 : Int32) (c5 : Int32) (p0 : Int32) (p1 : Int32) : Option (Int32 × Int32 × (Nat → Int32) × Int32 × Int32 × Int32) :=
  fX1_byPentagons_6 N K rec ru sz f c0 c1 c2 c3 c4 c5 p0 p1  N (0 : Int32) (1 : Int32) sz f c1 c2 c3
set_option maxHeartbeats 4000000 in
set_option maxRecDepth 100000 in
theorem ok_X1_byPentagons {N K : Nat} {h c a : Nat} {ru : Int32} {sz : Int32} {f : Nat → Int32} {c0 : Int32} {c1 : Int32} {c2 : Int32} {c3 : Int32} {c4 : Int32} {c5 : Int32} {p0 : Int32} {p1 : Int32} {rec : Int32 → Int32 → (Nat → Int32) → Int32 → Int32 → Int32 → Int32 → Int32 → Int32 → Int32 → Int32 → Option (Int32 × Int32 × (Nat → Int32) × Int32 × Int32 × Int32)} {dr : Nat} (hrec : ∀ (ru : Int32) (sz : Int32) (f : Nat → Int32) (c0 : Int32) (c1 : Int32) (c2 : Int32) (c3 : Int32) (c4 : Int32) (c5 : Int32) (p0 : Int32) (p1 : Int32) (xr : Int32 × Int32 × (Nat → Int32) × Int32 × Int32 × Int32), rec ru sz f c0 c1 c2 c3 c4 c5 p0 p1 = some xr → OkM yX1_worthKnown (.code yX1_worthKnown cX1_worthKnown 5 (some .int)) (dr) 0 0 [.ref h, .int p0, .ref c, .int p1] [(h, .inr (3, [.int ru, .ref a, .int sz])), (a, .inl (0, 21, .inl f)), (c, .inr (2, [.int c0, .int c1, .int c2, .int c3, .int c4, .int c5]))] ((PN (U := Int32 × Int32 × (Nat → Int32) × Int32 × Int32 × Int32) (fun zz _ => some (.int zz.1)) (fun zz ad => [(h, .inr (3, [.int ru, .ref a, .int zz.2.1])), (a, .inl (0, 21, .inl zz.2.2.1)), (c, .inr (2, [.int c0, .int zz.2.2.2.1, .int zz.2.2.2.2.1, .int zz.2.2.2.2.2, .int c4, .int c5]))])) xr)) {xr : Int32 × Int32 × (Nat → Int32) × Int32 × Int32 × Int32} (hE : fX1_byPentagons N K rec ru sz f c0 c1 c2 c3 c4 c5 p0 p1 = some xr) : OkM yX1_byPentagons (.code yX1_byPentagons cX1_byPentagons 7 (some .int)) (dr + 1) 0 0 [.ref h, .int p0, .ref c, .int p1] [(h, .inr (3, [.int ru, .ref a, .int sz])), (a, .inl (0, 21, .inl f)), (c, .inr (2, [.int c0, .int c1, .int c2, .int c3, .int c4, .int c5]))] ((PN (U := Int32 × Int32 × (Nat → Int32) × Int32 × Int32 × Int32) (fun zz _ => some (.int zz.1)) (fun zz ad => [(h, .inr (3, [.int ru, .ref a, .int zz.2.1])), (a, .inl (0, 21, .inl zz.2.2.1)), (c, .inr (2, [.int c0, .int zz.2.2.2.1, .int zz.2.2.2.2.1, .int zz.2.2.2.2.2, .int c4, .int c5]))])) xr) := by
  refine ok_of (by decide) (Nat.le_of_ble_eq_true rfl) hE ?_
  refine aw_locals (lv' := [(0, .ref h), (1, .int p0), (2, .ref c), (3, .int p1)]) [0, 1, 2, 3] rfl ?_
  refine aw_iconst (q := 1) (v := 0) dX1_byPentagons_0 rfl (by decide) ?_
  refine aw_istore (q := 3) (lv' := [(4, .int (0 : Int32)), (0, .ref h), (1, .int p0), (2, .ref c), (3, .int p1)]) dX1_byPentagons_1 rfl (by decide) rfl ?_
  refine aw_iconst (q := 4) (v := 1) dX1_byPentagons_3 rfl (by decide) ?_
  refine aw_istore (q := 6) (lv' := [(5, .int (1 : Int32)), (4, .int (0 : Int32)), (0, .ref h), (1, .int p0), (2, .ref c), (3, .int p1)]) dX1_byPentagons_4 rfl (by decide) rfl ?_
  refine aw_locals (lv' := [(0, .ref h), (1, .int p0), (2, .ref c), (3, .int p1), (4, .int (0 : Int32)), (5, .int (1 : Int32))]) [2, 3, 4, 5, 1, 0] rfl ?_
  exact tX1_byPentagons_6 hrec N _ _ _ _ _ _ _
def fX1_byDivisors_13 (N K : Nat) (rec : Int32 → Int32 → (Nat → Int32) → Int32 → Int32 → Int32 → Int32 → Int32 → Int32 → Int32 → Int32 → Option (Int32 × Int32 × (Nat → Int32) × Int32 × Int32 × Int32)) (ru : Int32) (sz : Int32) (f : Nat → Int32) (c0 : Int32) (c1 : Int32) (c2 : Int32) (c3 : Int32) (c4 : Int32) (c5 : Int32) (p0 : Int32) (p1 : Int32) : Nat → Int32 → Int32 → Int32 → (Nat → Int32) → Int32 → Int32 → Int32 → Option (Int32 × Int32 × (Nat → Int32) × Int32 × Int32 × Int32)
  | 0, _, _, _, _, _, _, _ => none
  | fu + 1, l4, l5, sz_, f_, c1_, c2_, c3_ =>
    (if p0 < l5 then (if p0 = 0 then none else (some ((l4 / p0), sz_, f_, c1_, c2_, c3_))) else ((rec ru sz_ f_ c0 c1_ c2_ c3_ c4 c5 (p0 - l5) p1).bind (fun x28 => ((fX1_sumOfDivisors N K ru x28.2.1 x28.2.2.1 l5).bind (fun x34 => fX1_byDivisors_13 N K rec ru sz f c0 c1 c2 c3 c4 c5 p0 p1  fu (l4 + (x28.1 * x34)) (l5 + (1 : Int32)) x28.2.1 x28.2.2.1 x28.2.2.2.1 x28.2.2.2.2.1 x28.2.2.2.2.2)))))
set_option maxHeartbeats 4000000 in
set_option maxRecDepth 100000 in
theorem tX1_byDivisors_13 {N K : Nat} {h c a : Nat} {ru : Int32} {sz : Int32} {f : Nat → Int32} {c0 : Int32} {c1 : Int32} {c2 : Int32} {c3 : Int32} {c4 : Int32} {c5 : Int32} {p0 : Int32} {p1 : Int32} {rec : Int32 → Int32 → (Nat → Int32) → Int32 → Int32 → Int32 → Int32 → Int32 → Int32 → Int32 → Int32 → Option (Int32 × Int32 × (Nat → Int32) × Int32 × Int32 × Int32)} {dr : Nat} (hrec : ∀ (ru : Int32) (sz : Int32) (f : Nat → Int32) (c0 : Int32) (c1 : Int32) (c2 : Int32) (c3 : Int32) (c4 : Int32) (c5 : Int32) (p0 : Int32) (p1 : Int32) (xr : Int32 × Int32 × (Nat → Int32) × Int32 × Int32 × Int32), rec ru sz f c0 c1 c2 c3 c4 c5 p0 p1 = some xr → OkM yX1_worthKnown (.code yX1_worthKnown cX1_worthKnown 5 (some .int)) (dr) 0 0 [.ref h, .int p0, .ref c, .int p1] [(h, .inr (3, [.int ru, .ref a, .int sz])), (a, .inl (0, 21, .inl f)), (c, .inr (2, [.int c0, .int c1, .int c2, .int c3, .int c4, .int c5]))] ((PN (U := Int32 × Int32 × (Nat → Int32) × Int32 × Int32 × Int32) (fun zz _ => some (.int zz.1)) (fun zz ad => [(h, .inr (3, [.int ru, .ref a, .int zz.2.1])), (a, .inl (0, 21, .inl zz.2.2.1)), (c, .inr (2, [.int c0, .int zz.2.2.2.1, .int zz.2.2.2.2.1, .int zz.2.2.2.2.2, .int c4, .int c5]))])) xr)) : ∀ (fu : Nat) (l4 : Int32) (l5 : Int32) (sz_ : Int32) (f_ : Nat → Int32) (c1_ : Int32) (c2_ : Int32) (c3_ : Int32), AW RX1 "byDivisors" cX1_byDivisors 6 (some .int) [] (fun _ _ => True) (dr + 1) (PN (U := Int32 × Int32 × (Nat → Int32) × Int32 × Int32 × Int32) (fun zz _ => some (.int zz.1)) (fun zz ad => [(h, .inr (3, [.int ru, .ref a, .int zz.2.1])), (a, .inl (0, 21, .inl zz.2.2.1)), (c, .inr (2, [.int c0, .int zz.2.2.2.1, .int zz.2.2.2.2.1, .int zz.2.2.2.2.2, .int c4, .int c5]))])) 0 0 (fX1_byDivisors_13 N K rec ru sz f c0 c1 c2 c3 c4 c5 p0 p1  fu l4 l5 sz_ f_ c1_ c2_ c3_) 13 [(0, .ref h), (1, .int p0), (2, .ref c), (3, .int p1), (4, .int l4), (5, .int l5)] [] [(h, .inr (3, [.int ru, .ref a, .int sz_])), (a, .inl (0, 21, .inl f_)), (c, .inr (2, [.int c0, .int c1_, .int c2_, .int c3_, .int c4, .int c5]))] := by
  intro fu
  induction fu with
  | zero => intro l4 l5 sz_ f_ c1_ c2_ c3_; exact aw_none
  | succ fu ih =>
    intro l4 l5 sz_ f_ c1_ c2_ c3_
    refine aw_iload (q := 15) dX1_byDivisors_13 rfl 5 rfl ?_
    refine aw_iload_n (q := 16) dX1_byDivisors_15 rfl 1 rfl ?_
    refine aw_icmp_gt (tgt := 47) (q := 19) dX1_byDivisors_16 (by decide) rfl (fun h_16 => ?_) (fun h_16 => ?_)
    · refine aw_iload (q := 49) dX1_byDivisors_47 rfl 4 rfl ?_
      refine aw_iload_n (q := 50) dX1_byDivisors_49 rfl 1 rfl ?_
      refine aw_idiv (q := 51) dX1_byDivisors_50 rfl ?_
      exact aw_ireturn (w := [(h, .inr (3, [.int ru, .ref a, .int sz_])), (a, .inl (0, 21, .inl f_)), (c, .inr (2, [.int c0, .int c1_, .int c2_, .int c3_, .int c4, .int c5]))]) [0, 1, 2] dX1_byDivisors_51 rfl rfl rfl rfl (PN.mk (fun _ => 0) rfl rfl)
    · refine aw_iload (q := 21) dX1_byDivisors_19 rfl 4 rfl ?_
      refine aw_aload_n (q := 22) dX1_byDivisors_21 rfl 0 rfl ?_
      refine aw_iload_n (q := 23) dX1_byDivisors_22 rfl 1 rfl ?_
      refine aw_iload (q := 25) dX1_byDivisors_23 rfl 5 rfl ?_
      refine aw_isub (q := 26) dX1_byDivisors_25 rfl ?_
      refine aw_aload_n (q := 27) dX1_byDivisors_26 rfl 2 rfl ?_
      refine aw_iload_n (q := 28) dX1_byDivisors_27 rfl 3 rfl ?_
      refine aw_call (q := 31) (kc1 := 0) (ks1 := 0) (wc := [(h, .inr (3, [.int ru, .ref a, .int sz_])), (a, .inl (0, 21, .inl f_)), (c, .inr (2, [.int c0, .int c1_, .int c2_, .int c3_, .int c4, .int c5]))]) (wr := []) (st1 := fun x28 g28 => [.int x28.1, .int l4]) (ws1 := fun x28 g28 => [(h, .inr (3, [.int ru, .ref a, .int x28.2.1])), (a, .inl (0, 21, .inl x28.2.2.1)), (c, .inr (2, [.int c0, .int x28.2.2.2.1, .int x28.2.2.2.2.1, .int x28.2.2.2.2.2, .int c4, .int c5]))]) (As := [.ref h, .int (p0 - l5), .ref c, .int p1]) [0, 1, 2] [] (fun _ => runV (q0 := 0) dX1_byDivisors_28 mi_X1_worthKnown im_X1_worthKnown se_X1_worthKnown ml_X1_28 (by omega) rfl (Nat.le_of_ble_eq_true rfl) rfl rfl rfl rfl) (fun x9 h9 => hrec _ _ _ _ _ _ _ _ _ _ _ x9 h9) rfl rfl rfl rfl rfl (by decide) (by omega) (by omega) (fun _ _ => rfl) (fun _ _ => rfl) (fun x28 g28 => ?_)
      refine aw_aload_n (q := 32) dX1_byDivisors_31 rfl 0 rfl ?_
      refine aw_iload (q := 34) dX1_byDivisors_32 rfl 5 rfl ?_
      refine aw_call (q := 37) (kc1 := 0) (ks1 := 0) (wc := [(h, .inr (3, [.int ru, .ref a, .int x28.2.1])), (a, .inl (0, 21, .inl x28.2.2.1))]) (wr := [(c, .inr (2, [.int c0, .int x28.2.2.2.1, .int x28.2.2.2.2.1, .int x28.2.2.2.2.2, .int c4, .int c5]))]) (st1 := fun x34 g34 => [.int x34, .int x28.1, .int l4]) (ws1 := fun x34 g34 => [(c, .inr (2, [.int c0, .int x28.2.2.2.1, .int x28.2.2.2.2.1, .int x28.2.2.2.2.2, .int c4, .int c5])), (h, .inr (3, [.int ru, .ref a, .int x28.2.1])), (a, .inl (0, 21, .inl x28.2.2.1))]) (As := [.ref h, .int l5]) [0, 1] [2] (fun _ => runV (q0 := 0) dX1_byDivisors_34 mi_X1_sumOfDivisors im_X1_sumOfDivisors se_X1_sumOfDivisors ml_X1_49 (by omega) rfl (Nat.le_of_ble_eq_true rfl) rfl rfl rfl rfl) (fun x9 h9 => ok_X1_sumOfDivisors h9) rfl rfl rfl rfl rfl (by decide) (by omega) (by omega) (fun _ _ => rfl) (fun _ _ => rfl) (fun x34 g34 => ?_)
      refine aw_imul (q := 38) dX1_byDivisors_37 rfl ?_
      refine aw_iadd (q := 39) dX1_byDivisors_38 rfl ?_
      refine aw_istore (q := 41) (lv' := [(4, .int (l4 + (x28.1 * x34))), (0, .ref h), (1, .int p0), (2, .ref c), (3, .int p1), (5, .int l5)]) dX1_byDivisors_39 rfl (by decide) rfl ?_
      refine aw_iinc (q := 44) (v := (l5 + (1 : Int32))) (lv' := [(5, .int (l5 + (1 : Int32))), (4, .int (l4 + (x28.1 * x34))), (0, .ref h), (1, .int p0), (2, .ref c), (3, .int p1)]) dX1_byDivisors_41 rfl 5 rfl rfl (by decide) rfl ?_
      refine aw_goto (tgt := 13) dX1_byDivisors_44 (by decide) ?_
      refine aw_locals (lv' := [(0, .ref h), (1, .int p0), (2, .ref c), (3, .int p1), (4, .int (l4 + (x28.1 * x34))), (5, .int (l5 + (1 : Int32)))]) [2, 3, 4, 5, 1, 0] rfl ?_
      refine aw_world (ws' := [(h, .inr (3, [.int ru, .ref a, .int x28.2.1])), (a, .inl (0, 21, .inl x28.2.2.1)), (c, .inr (2, [.int c0, .int x28.2.2.2.1, .int x28.2.2.2.2.1, .int x28.2.2.2.2.2, .int c4, .int c5]))]) [1, 2, 0] rfl rfl ?_
      exact ih _ _ _ _ _ _ _
def fX1_byDivisors (N K : Nat) (rec : Int32 → Int32 → (Nat → Int32) → Int32 → Int32 → Int32 → Int32 → Int32 → Int32 → Int32 → Int32 → Option (Int32 × Int32 × (Nat → Int32) × Int32 × Int32 × Int32)) (ru : Int32) (sz : Int32) (f : Nat → Int32) (c0 : Int32) (c1 : Int32) (c2 : Int32) (c3 : Int32) (c4 : Int32) (c5 : Int32) (p0 : Int32) (p1 : Int32) : Option (Int32 × Int32 × (Nat → Int32) × Int32 × Int32 × Int32) :=
  (if (1 : Int32) ≤ p0 then fX1_byDivisors_13 N K rec ru sz f c0 c1 c2 c3 c4 c5 p0 p1  N (0 : Int32) (1 : Int32) sz f c1 c2 c3 else (some ((0 : Int32), sz, f, c1, c2, c3)))
set_option maxHeartbeats 4000000 in
set_option maxRecDepth 100000 in
theorem ok_X1_byDivisors {N K : Nat} {h c a : Nat} {ru : Int32} {sz : Int32} {f : Nat → Int32} {c0 : Int32} {c1 : Int32} {c2 : Int32} {c3 : Int32} {c4 : Int32} {c5 : Int32} {p0 : Int32} {p1 : Int32} {rec : Int32 → Int32 → (Nat → Int32) → Int32 → Int32 → Int32 → Int32 → Int32 → Int32 → Int32 → Int32 → Option (Int32 × Int32 × (Nat → Int32) × Int32 × Int32 × Int32)} {dr : Nat} (hrec : ∀ (ru : Int32) (sz : Int32) (f : Nat → Int32) (c0 : Int32) (c1 : Int32) (c2 : Int32) (c3 : Int32) (c4 : Int32) (c5 : Int32) (p0 : Int32) (p1 : Int32) (xr : Int32 × Int32 × (Nat → Int32) × Int32 × Int32 × Int32), rec ru sz f c0 c1 c2 c3 c4 c5 p0 p1 = some xr → OkM yX1_worthKnown (.code yX1_worthKnown cX1_worthKnown 5 (some .int)) (dr) 0 0 [.ref h, .int p0, .ref c, .int p1] [(h, .inr (3, [.int ru, .ref a, .int sz])), (a, .inl (0, 21, .inl f)), (c, .inr (2, [.int c0, .int c1, .int c2, .int c3, .int c4, .int c5]))] ((PN (U := Int32 × Int32 × (Nat → Int32) × Int32 × Int32 × Int32) (fun zz _ => some (.int zz.1)) (fun zz ad => [(h, .inr (3, [.int ru, .ref a, .int zz.2.1])), (a, .inl (0, 21, .inl zz.2.2.1)), (c, .inr (2, [.int c0, .int zz.2.2.2.1, .int zz.2.2.2.2.1, .int zz.2.2.2.2.2, .int c4, .int c5]))])) xr)) {xr : Int32 × Int32 × (Nat → Int32) × Int32 × Int32 × Int32} (hE : fX1_byDivisors N K rec ru sz f c0 c1 c2 c3 c4 c5 p0 p1 = some xr) : OkM yX1_byDivisors (.code yX1_byDivisors cX1_byDivisors 6 (some .int)) (dr + 1) 0 0 [.ref h, .int p0, .ref c, .int p1] [(h, .inr (3, [.int ru, .ref a, .int sz])), (a, .inl (0, 21, .inl f)), (c, .inr (2, [.int c0, .int c1, .int c2, .int c3, .int c4, .int c5]))] ((PN (U := Int32 × Int32 × (Nat → Int32) × Int32 × Int32 × Int32) (fun zz _ => some (.int zz.1)) (fun zz ad => [(h, .inr (3, [.int ru, .ref a, .int zz.2.1])), (a, .inl (0, 21, .inl zz.2.2.1)), (c, .inr (2, [.int c0, .int zz.2.2.2.1, .int zz.2.2.2.2.1, .int zz.2.2.2.2.2, .int c4, .int c5]))])) xr) := by
  refine ok_of (by decide) (Nat.le_of_ble_eq_true rfl) hE ?_
  refine aw_locals (lv' := [(0, .ref h), (1, .int p0), (2, .ref c), (3, .int p1)]) [0, 1, 2, 3] rfl ?_
  refine aw_iload_n (q := 1) dX1_byDivisors_0 rfl 1 rfl ?_
  refine aw_iconst (q := 2) (v := 1) dX1_byDivisors_1 rfl (by decide) ?_
  refine aw_icmp_ge (tgt := 7) (q := 5) dX1_byDivisors_2 (by decide) rfl (fun h_2 => ?_) (fun h_2 => ?_)
  · refine aw_iconst (q := 8) (v := 0) dX1_byDivisors_7 rfl (by decide) ?_
    refine aw_istore (q := 10) (lv' := [(4, .int (0 : Int32)), (0, .ref h), (1, .int p0), (2, .ref c), (3, .int p1)]) dX1_byDivisors_8 rfl (by decide) rfl ?_
    refine aw_iconst (q := 11) (v := 1) dX1_byDivisors_10 rfl (by decide) ?_
    refine aw_istore (q := 13) (lv' := [(5, .int (1 : Int32)), (4, .int (0 : Int32)), (0, .ref h), (1, .int p0), (2, .ref c), (3, .int p1)]) dX1_byDivisors_11 rfl (by decide) rfl ?_
    refine aw_locals (lv' := [(0, .ref h), (1, .int p0), (2, .ref c), (3, .int p1), (4, .int (0 : Int32)), (5, .int (1 : Int32))]) [2, 3, 4, 5, 1, 0] rfl ?_
    exact tX1_byDivisors_13 hrec N _ _ _ _ _ _ _
  · refine aw_iconst (q := 6) (v := 0) dX1_byDivisors_5 rfl (by decide) ?_
    exact aw_ireturn (w := [(h, .inr (3, [.int ru, .ref a, .int sz])), (a, .inl (0, 21, .inl f)), (c, .inr (2, [.int c0, .int c1, .int c2, .int c3, .int c4, .int c5]))]) [0, 1, 2] dX1_byDivisors_6 rfl rfl rfl rfl (PN.mk (fun _ => 0) rfl rfl)
def fX1_worthKnown (N K : Nat) : Nat → Int32 → Int32 → (Nat → Int32) → Int32 → Int32 → Int32 → Int32 → Int32 → Int32 → Int32 → Int32 → Option (Int32 × Int32 × (Nat → Int32) × Int32 × Int32 × Int32)
  | 0, _, _, _, _, _, _, _, _, _, _, _ => none
  | k + 1, ru, sz, f, c0, c1, c2, c3, c4, c5, p0, p1 =>
    (if p0 = 0 then (some ((1 : Int32), sz, f, c1, c2, c3)) else (if p0 < 0 then (some ((0 : Int32), sz, f, c1, c2, c3)) else (if (20 : Int32) < p0 then (some ((0 : Int32), sz, f, c1, c2, c3)) else (if p1 ≤ (45 : Int32) then (if p0 < 0 ∨ 21 ≤ p0.toNatClampNeg then none else (if (f p0.toNatClampNeg) = (-1 : Int32) then (if ru = 0 then ((fX1_byPentagons N K (fX1_worthKnown N K k) ru sz f c0 (c1 + (1 : Int32)) c2 c3 c4 c5 p0 (p1 + (1 : Int32))).bind (fun x74 => (if p0 < 0 ∨ 21 ≤ p0.toNatClampNeg then none else (some (x74.1, (x74.2.1 + (1 : Int32)), (upd x74.2.2.1 p0.toNatClampNeg x74.1), x74.2.2.2.1, (x74.2.2.2.2.1 + (1 : Int32)), x74.2.2.2.2.2))))) else ((fX1_byDivisors N K (fX1_worthKnown N K k) ru sz f c0 (c1 + (1 : Int32)) c2 c3 c4 c5 p0 (p1 + (1 : Int32))).bind (fun x86 => (if p0 < 0 ∨ 21 ≤ p0.toNatClampNeg then none else (some (x86.1, (x86.2.1 + (1 : Int32)), (upd x86.2.2.1 p0.toNatClampNeg x86.1), x86.2.2.2.1, (x86.2.2.2.2.1 + (1 : Int32)), x86.2.2.2.2.2)))))) else (if p0 < 0 ∨ 21 ≤ p0.toNatClampNeg then none else (some ((f p0.toNatClampNeg), sz, f, (c1 + (1 : Int32)), c2, (c3 + (1 : Int32))))))) else (some ((0 : Int32), sz, f, c1, c2, c3))))))
set_option maxHeartbeats 4000000 in
set_option maxRecDepth 100000 in
theorem ok_X1_worthKnown {N K : Nat} : ∀ (k : Nat) (h c a : Nat) (ru : Int32) (sz : Int32) (f : Nat → Int32) (c0 : Int32) (c1 : Int32) (c2 : Int32) (c3 : Int32) (c4 : Int32) (c5 : Int32) (p0 : Int32) (p1 : Int32) (xr : Int32 × Int32 × (Nat → Int32) × Int32 × Int32 × Int32), fX1_worthKnown N K k ru sz f c0 c1 c2 c3 c4 c5 p0 p1 = some xr → OkM yX1_worthKnown (.code yX1_worthKnown cX1_worthKnown 5 (some .int)) (2 * k + 4) 0 0 [.ref h, .int p0, .ref c, .int p1] [(h, .inr (3, [.int ru, .ref a, .int sz])), (a, .inl (0, 21, .inl f)), (c, .inr (2, [.int c0, .int c1, .int c2, .int c3, .int c4, .int c5]))] ((PN (U := Int32 × Int32 × (Nat → Int32) × Int32 × Int32 × Int32) (fun zz _ => some (.int zz.1)) (fun zz ad => [(h, .inr (3, [.int ru, .ref a, .int zz.2.1])), (a, .inl (0, 21, .inl zz.2.2.1)), (c, .inr (2, [.int c0, .int zz.2.2.2.1, .int zz.2.2.2.2.1, .int zz.2.2.2.2.2, .int c4, .int c5]))])) xr) := by
  intro k
  induction k with
  | zero => intro h c a ru sz f c0 c1 c2 c3 c4 c5 p0 p1 xr hE; cases hE
  | succ k ih =>
    intro h c a ru sz f c0 c1 c2 c3 c4 c5 p0 p1 xr hE
    refine ok_of (by decide) (Nat.le_of_ble_eq_true rfl) hE ?_
    refine aw_locals (lv' := [(0, .ref h), (1, .int p0), (2, .ref c), (3, .int p1)]) [0, 1, 2, 3] rfl ?_
    refine aw_iload_n (q := 1) dX1_worthKnown_0 rfl 1 rfl ?_
    refine aw_if_ne (tgt := 6) (q := 4) dX1_worthKnown_1 (by decide) rfl (fun h_1 => ?_) (fun h_1 => ?_)
    · refine aw_iload_n (q := 7) dX1_worthKnown_6 rfl 1 rfl ?_
      refine aw_if_lt (tgt := 22) (q := 10) dX1_worthKnown_7 (by decide) rfl (fun h_7 => ?_) (fun h_7 => ?_)
      · refine aw_iconst (q := 23) (v := 0) dX1_worthKnown_22 rfl (by decide) ?_
        exact aw_ireturn (w := [(h, .inr (3, [.int ru, .ref a, .int sz])), (a, .inl (0, 21, .inl f)), (c, .inr (2, [.int c0, .int c1, .int c2, .int c3, .int c4, .int c5]))]) [0, 1, 2] dX1_worthKnown_23 rfl rfl rfl rfl (PN.mk (fun _ => 0) rfl rfl)
      · refine aw_iload_n (q := 11) dX1_worthKnown_10 rfl 1 rfl ?_
        refine aw_bipush (q := 13) (v := 20) dX1_worthKnown_11 rfl (by decide) ?_
        refine aw_icmp_gt (tgt := 22) (q := 16) dX1_worthKnown_13 (by decide) rfl (fun h_13 => ?_) (fun h_13 => ?_)
        · refine aw_iconst (q := 23) (v := 0) dX1_worthKnown_22 rfl (by decide) ?_
          exact aw_ireturn (w := [(h, .inr (3, [.int ru, .ref a, .int sz])), (a, .inl (0, 21, .inl f)), (c, .inr (2, [.int c0, .int c1, .int c2, .int c3, .int c4, .int c5]))]) [0, 1, 2] dX1_worthKnown_23 rfl rfl rfl rfl (PN.mk (fun _ => 0) rfl rfl)
        · refine aw_iload_n (q := 17) dX1_worthKnown_16 rfl 3 rfl ?_
          refine aw_bipush (q := 19) (v := 45) dX1_worthKnown_17 rfl (by decide) ?_
          refine aw_icmp_le (tgt := 24) (q := 22) dX1_worthKnown_19 (by decide) rfl (fun h_19 => ?_) (fun h_19 => ?_)
          · refine aw_aload_n (q := 25) dX1_worthKnown_24 rfl 2 rfl ?_
            refine aw_dup (q := 26) dX1_worthKnown_25 rfl rfl ?_
            refine aw_get (q := 29) dX1_worthKnown_26 rfl fl_X1_32 2 rfl rfl ?_
            refine aw_iconst (q := 30) (v := 1) dX1_worthKnown_29 rfl (by decide) ?_
            refine aw_iadd (q := 31) dX1_worthKnown_30 rfl ?_
            refine aw_put (q := 34) (ws' := [(h, .inr (3, [.int ru, .ref a, .int sz])), (a, .inl (0, 21, .inl f)), (c, .inr (2, [.int c0, .int (c1 + (1 : Int32)), .int c2, .int c3, .int c4, .int c5]))]) dX1_worthKnown_31 rfl fl_X1_32 2 rfl rfl rfl (Nat.le_of_ble_eq_true rfl) rfl ?_
            refine aw_aload_n (q := 35) dX1_worthKnown_34 rfl 0 rfl ?_
            refine aw_get (q := 38) dX1_worthKnown_35 rfl fl_X1_9 0 rfl rfl ?_
            refine aw_iload_n (q := 39) dX1_worthKnown_38 rfl 1 rfl ?_
            refine aw_iald (q := 40) dX1_worthKnown_39 rfl 1 rfl ?_
            refine aw_iconst (q := 41) (v := (-1)) dX1_worthKnown_40 rfl (by decide) ?_
            refine aw_icmp_eq (tgt := 61) (q := 44) dX1_worthKnown_41 (by decide) rfl (fun h_41 => ?_) (fun h_41 => ?_)
            · refine aw_aload_n (q := 62) dX1_worthKnown_61 rfl 0 rfl ?_
              refine aw_get (q := 65) dX1_worthKnown_62 rfl fl_X1_15 0 rfl rfl ?_
              refine aw_if_ne (tgt := 80) (q := 68) dX1_worthKnown_65 (by decide) rfl (fun h_65 => ?_) (fun h_65 => ?_)
              · refine aw_aload_n (q := 81) dX1_worthKnown_80 rfl 0 rfl ?_
                refine aw_iload_n (q := 82) dX1_worthKnown_81 rfl 1 rfl ?_
                refine aw_aload_n (q := 83) dX1_worthKnown_82 rfl 2 rfl ?_
                refine aw_iload_n (q := 84) dX1_worthKnown_83 rfl 3 rfl ?_
                refine aw_iconst (q := 85) (v := 1) dX1_worthKnown_84 rfl (by decide) ?_
                refine aw_iadd (q := 86) dX1_worthKnown_85 rfl ?_
                refine aw_call (q := 89) (kc1 := 0) (ks1 := 0) (wc := [(h, .inr (3, [.int ru, .ref a, .int sz])), (a, .inl (0, 21, .inl f)), (c, .inr (2, [.int c0, .int (c1 + (1 : Int32)), .int c2, .int c3, .int c4, .int c5]))]) (wr := []) (st1 := fun x86 g86 => [.int x86.1]) (ws1 := fun x86 g86 => [(h, .inr (3, [.int ru, .ref a, .int x86.2.1])), (a, .inl (0, 21, .inl x86.2.2.1)), (c, .inr (2, [.int c0, .int x86.2.2.2.1, .int x86.2.2.2.2.1, .int x86.2.2.2.2.2, .int c4, .int c5]))]) (As := [.ref h, .int p0, .ref c, .int (p1 + (1 : Int32))]) [0, 1, 2] [] (fun _ => runV (q0 := 0) dX1_worthKnown_86 mi_X1_byDivisors im_X1_byDivisors se_X1_byDivisors ml_X1_43 (by omega) rfl (Nat.le_of_ble_eq_true rfl) rfl rfl rfl rfl) (fun x9 h9 => ok_X1_byDivisors (fun _ _ _ _ _ _ _ _ _ _ _ x8 h8 => ih _ _ _ _ _ _ _ _ _ _ _ _ _ _ x8 h8) h9) rfl rfl rfl rfl rfl (by decide) (by omega) (by omega) (fun _ _ => rfl) (fun _ _ => rfl) (fun x86 g86 => ?_)
                refine aw_istore (q := 91) (lv' := [(4, .int x86.1), (0, .ref h), (1, .int p0), (2, .ref c), (3, .int p1)]) dX1_worthKnown_89 rfl (by decide) rfl ?_
                refine aw_aload_n (q := 92) dX1_worthKnown_91 rfl 1 rfl ?_
                refine aw_get (q := 95) dX1_worthKnown_92 rfl fl_X1_9 0 rfl rfl ?_
                refine aw_iload_n (q := 96) dX1_worthKnown_95 rfl 2 rfl ?_
                refine aw_iload (q := 98) dX1_worthKnown_96 rfl 0 rfl ?_
                refine aw_iast (q := 99) (ws' := [(h, .inr (3, [.int ru, .ref a, .int x86.2.1])), (a, .inl (0, 21, .inl (upd x86.2.2.1 p0.toNatClampNeg x86.1))), (c, .inr (2, [.int c0, .int x86.2.2.2.1, .int x86.2.2.2.2.1, .int x86.2.2.2.2.2, .int c4, .int c5]))]) dX1_worthKnown_98 rfl 1 rfl rfl ?_
                refine aw_aload_n (q := 100) dX1_worthKnown_99 rfl 1 rfl ?_
                refine aw_dup (q := 101) dX1_worthKnown_100 rfl rfl ?_
                refine aw_get (q := 104) dX1_worthKnown_101 rfl fl_X1_25 0 rfl rfl ?_
                refine aw_iconst (q := 105) (v := 1) dX1_worthKnown_104 rfl (by decide) ?_
                refine aw_iadd (q := 106) dX1_worthKnown_105 rfl ?_
                refine aw_put (q := 109) (ws' := [(h, .inr (3, [.int ru, .ref a, .int (x86.2.1 + (1 : Int32))])), (a, .inl (0, 21, .inl (upd x86.2.2.1 p0.toNatClampNeg x86.1))), (c, .inr (2, [.int c0, .int x86.2.2.2.1, .int x86.2.2.2.2.1, .int x86.2.2.2.2.2, .int c4, .int c5]))]) dX1_worthKnown_106 rfl fl_X1_25 0 rfl rfl rfl (Nat.le_of_ble_eq_true rfl) rfl ?_
                refine aw_aload_n (q := 110) dX1_worthKnown_109 rfl 3 rfl ?_
                refine aw_dup (q := 111) dX1_worthKnown_110 rfl rfl ?_
                refine aw_get (q := 114) dX1_worthKnown_111 rfl fl_X1_46 2 rfl rfl ?_
                refine aw_iconst (q := 115) (v := 1) dX1_worthKnown_114 rfl (by decide) ?_
                refine aw_iadd (q := 116) dX1_worthKnown_115 rfl ?_
                refine aw_put (q := 119) (ws' := [(h, .inr (3, [.int ru, .ref a, .int (x86.2.1 + (1 : Int32))])), (a, .inl (0, 21, .inl (upd x86.2.2.1 p0.toNatClampNeg x86.1))), (c, .inr (2, [.int c0, .int x86.2.2.2.1, .int (x86.2.2.2.2.1 + (1 : Int32)), .int x86.2.2.2.2.2, .int c4, .int c5]))]) dX1_worthKnown_116 rfl fl_X1_46 2 rfl rfl rfl (Nat.le_of_ble_eq_true rfl) rfl ?_
                refine aw_iload (q := 121) dX1_worthKnown_119 rfl 0 rfl ?_
                exact aw_ireturn (w := [(h, .inr (3, [.int ru, .ref a, .int (x86.2.1 + (1 : Int32))])), (a, .inl (0, 21, .inl (upd x86.2.2.1 p0.toNatClampNeg x86.1))), (c, .inr (2, [.int c0, .int x86.2.2.2.1, .int (x86.2.2.2.2.1 + (1 : Int32)), .int x86.2.2.2.2.2, .int c4, .int c5]))]) [0, 1, 2] dX1_worthKnown_121 rfl rfl rfl rfl (PN.mk (fun _ => 0) rfl rfl)
              · refine aw_aload_n (q := 69) dX1_worthKnown_68 rfl 0 rfl ?_
                refine aw_iload_n (q := 70) dX1_worthKnown_69 rfl 1 rfl ?_
                refine aw_aload_n (q := 71) dX1_worthKnown_70 rfl 2 rfl ?_
                refine aw_iload_n (q := 72) dX1_worthKnown_71 rfl 3 rfl ?_
                refine aw_iconst (q := 73) (v := 1) dX1_worthKnown_72 rfl (by decide) ?_
                refine aw_iadd (q := 74) dX1_worthKnown_73 rfl ?_
                refine aw_call (q := 77) (kc1 := 0) (ks1 := 0) (wc := [(h, .inr (3, [.int ru, .ref a, .int sz])), (a, .inl (0, 21, .inl f)), (c, .inr (2, [.int c0, .int (c1 + (1 : Int32)), .int c2, .int c3, .int c4, .int c5]))]) (wr := []) (st1 := fun x74 g74 => [.int x74.1]) (ws1 := fun x74 g74 => [(h, .inr (3, [.int ru, .ref a, .int x74.2.1])), (a, .inl (0, 21, .inl x74.2.2.1)), (c, .inr (2, [.int c0, .int x74.2.2.2.1, .int x74.2.2.2.2.1, .int x74.2.2.2.2.2, .int c4, .int c5]))]) (As := [.ref h, .int p0, .ref c, .int (p1 + (1 : Int32))]) [0, 1, 2] [] (fun _ => runV (q0 := 0) dX1_worthKnown_74 mi_X1_byPentagons im_X1_byPentagons se_X1_byPentagons ml_X1_40 (by omega) rfl (Nat.le_of_ble_eq_true rfl) rfl rfl rfl rfl) (fun x9 h9 => ok_X1_byPentagons (fun _ _ _ _ _ _ _ _ _ _ _ x8 h8 => ih _ _ _ _ _ _ _ _ _ _ _ _ _ _ x8 h8) h9) rfl rfl rfl rfl rfl (by decide) (by omega) (by omega) (fun _ _ => rfl) (fun _ _ => rfl) (fun x74 g74 => ?_)
                refine aw_goto (tgt := 89) dX1_worthKnown_77 (by decide) ?_
                refine aw_istore (q := 91) (lv' := [(4, .int x74.1), (0, .ref h), (1, .int p0), (2, .ref c), (3, .int p1)]) dX1_worthKnown_89 rfl (by decide) rfl ?_
                refine aw_aload_n (q := 92) dX1_worthKnown_91 rfl 1 rfl ?_
                refine aw_get (q := 95) dX1_worthKnown_92 rfl fl_X1_9 0 rfl rfl ?_
                refine aw_iload_n (q := 96) dX1_worthKnown_95 rfl 2 rfl ?_
                refine aw_iload (q := 98) dX1_worthKnown_96 rfl 0 rfl ?_
                refine aw_iast (q := 99) (ws' := [(h, .inr (3, [.int ru, .ref a, .int x74.2.1])), (a, .inl (0, 21, .inl (upd x74.2.2.1 p0.toNatClampNeg x74.1))), (c, .inr (2, [.int c0, .int x74.2.2.2.1, .int x74.2.2.2.2.1, .int x74.2.2.2.2.2, .int c4, .int c5]))]) dX1_worthKnown_98 rfl 1 rfl rfl ?_
                refine aw_aload_n (q := 100) dX1_worthKnown_99 rfl 1 rfl ?_
                refine aw_dup (q := 101) dX1_worthKnown_100 rfl rfl ?_
                refine aw_get (q := 104) dX1_worthKnown_101 rfl fl_X1_25 0 rfl rfl ?_
                refine aw_iconst (q := 105) (v := 1) dX1_worthKnown_104 rfl (by decide) ?_
                refine aw_iadd (q := 106) dX1_worthKnown_105 rfl ?_
                refine aw_put (q := 109) (ws' := [(h, .inr (3, [.int ru, .ref a, .int (x74.2.1 + (1 : Int32))])), (a, .inl (0, 21, .inl (upd x74.2.2.1 p0.toNatClampNeg x74.1))), (c, .inr (2, [.int c0, .int x74.2.2.2.1, .int x74.2.2.2.2.1, .int x74.2.2.2.2.2, .int c4, .int c5]))]) dX1_worthKnown_106 rfl fl_X1_25 0 rfl rfl rfl (Nat.le_of_ble_eq_true rfl) rfl ?_
                refine aw_aload_n (q := 110) dX1_worthKnown_109 rfl 3 rfl ?_
                refine aw_dup (q := 111) dX1_worthKnown_110 rfl rfl ?_
                refine aw_get (q := 114) dX1_worthKnown_111 rfl fl_X1_46 2 rfl rfl ?_
                refine aw_iconst (q := 115) (v := 1) dX1_worthKnown_114 rfl (by decide) ?_
                refine aw_iadd (q := 116) dX1_worthKnown_115 rfl ?_
                refine aw_put (q := 119) (ws' := [(h, .inr (3, [.int ru, .ref a, .int (x74.2.1 + (1 : Int32))])), (a, .inl (0, 21, .inl (upd x74.2.2.1 p0.toNatClampNeg x74.1))), (c, .inr (2, [.int c0, .int x74.2.2.2.1, .int (x74.2.2.2.2.1 + (1 : Int32)), .int x74.2.2.2.2.2, .int c4, .int c5]))]) dX1_worthKnown_116 rfl fl_X1_46 2 rfl rfl rfl (Nat.le_of_ble_eq_true rfl) rfl ?_
                refine aw_iload (q := 121) dX1_worthKnown_119 rfl 0 rfl ?_
                exact aw_ireturn (w := [(h, .inr (3, [.int ru, .ref a, .int (x74.2.1 + (1 : Int32))])), (a, .inl (0, 21, .inl (upd x74.2.2.1 p0.toNatClampNeg x74.1))), (c, .inr (2, [.int c0, .int x74.2.2.2.1, .int (x74.2.2.2.2.1 + (1 : Int32)), .int x74.2.2.2.2.2, .int c4, .int c5]))]) [0, 1, 2] dX1_worthKnown_121 rfl rfl rfl rfl (PN.mk (fun _ => 0) rfl rfl)
            · refine aw_aload_n (q := 45) dX1_worthKnown_44 rfl 2 rfl ?_
              refine aw_dup (q := 46) dX1_worthKnown_45 rfl rfl ?_
              refine aw_get (q := 49) dX1_worthKnown_46 rfl fl_X1_37 2 rfl rfl ?_
              refine aw_iconst (q := 50) (v := 1) dX1_worthKnown_49 rfl (by decide) ?_
              refine aw_iadd (q := 51) dX1_worthKnown_50 rfl ?_
              refine aw_put (q := 54) (ws' := [(h, .inr (3, [.int ru, .ref a, .int sz])), (a, .inl (0, 21, .inl f)), (c, .inr (2, [.int c0, .int (c1 + (1 : Int32)), .int c2, .int (c3 + (1 : Int32)), .int c4, .int c5]))]) dX1_worthKnown_51 rfl fl_X1_37 2 rfl rfl rfl (Nat.le_of_ble_eq_true rfl) rfl ?_
              refine aw_aload_n (q := 55) dX1_worthKnown_54 rfl 0 rfl ?_
              refine aw_get (q := 58) dX1_worthKnown_55 rfl fl_X1_9 0 rfl rfl ?_
              refine aw_iload_n (q := 59) dX1_worthKnown_58 rfl 1 rfl ?_
              refine aw_iald (q := 60) dX1_worthKnown_59 rfl 1 rfl ?_
              exact aw_ireturn (w := [(h, .inr (3, [.int ru, .ref a, .int sz])), (a, .inl (0, 21, .inl f)), (c, .inr (2, [.int c0, .int (c1 + (1 : Int32)), .int c2, .int (c3 + (1 : Int32)), .int c4, .int c5]))]) [0, 1, 2] dX1_worthKnown_60 rfl rfl rfl rfl (PN.mk (fun _ => 0) rfl rfl)
          · refine aw_iconst (q := 23) (v := 0) dX1_worthKnown_22 rfl (by decide) ?_
            exact aw_ireturn (w := [(h, .inr (3, [.int ru, .ref a, .int sz])), (a, .inl (0, 21, .inl f)), (c, .inr (2, [.int c0, .int c1, .int c2, .int c3, .int c4, .int c5]))]) [0, 1, 2] dX1_worthKnown_23 rfl rfl rfl rfl (PN.mk (fun _ => 0) rfl rfl)
    · refine aw_iconst (q := 5) (v := 1) dX1_worthKnown_4 rfl (by decide) ?_
      exact aw_ireturn (w := [(h, .inr (3, [.int ru, .ref a, .int sz])), (a, .inl (0, 21, .inl f)), (c, .inr (2, [.int c0, .int c1, .int c2, .int c3, .int c4, .int c5]))]) [0, 1, 2] dX1_worthKnown_5 rfl rfl rfl rfl (PN.mk (fun _ => 0) rfl rfl)
def fX1_recall (N K : Nat) (ru : Int32) (sz : Int32) (f : Nat → Int32) (c0 : Int32) (c1 : Int32) (c2 : Int32) (c3 : Int32) (c4 : Int32) (c5 : Int32) (p0 : Int32) : Option (Int32 × Int32 × (Nat → Int32) × Int32 × Int32 × Int32) :=
  ((fX1_worthKnown N K K ru sz f c0 c1 c2 c3 c4 c5 p0 (0 : Int32)).bind (fun x4 => (some (x4.1, x4.2.1, x4.2.2.1, x4.2.2.2.1, x4.2.2.2.2.1, x4.2.2.2.2.2))))
set_option maxHeartbeats 4000000 in
set_option maxRecDepth 100000 in
theorem ok_X1_recall {N K : Nat} {h c a : Nat} {ru : Int32} {sz : Int32} {f : Nat → Int32} {c0 : Int32} {c1 : Int32} {c2 : Int32} {c3 : Int32} {c4 : Int32} {c5 : Int32} {p0 : Int32} {xr : Int32 × Int32 × (Nat → Int32) × Int32 × Int32 × Int32} (hE : fX1_recall N K ru sz f c0 c1 c2 c3 c4 c5 p0 = some xr) : OkM yX1_recall (.code yX1_recall cX1_recall 3 (some .int)) (2 * K + 5) 0 0 [.ref h, .int p0, .ref c] [(h, .inr (3, [.int ru, .ref a, .int sz])), (a, .inl (0, 21, .inl f)), (c, .inr (2, [.int c0, .int c1, .int c2, .int c3, .int c4, .int c5]))] ((PN (U := Int32 × Int32 × (Nat → Int32) × Int32 × Int32 × Int32) (fun zz _ => some (.int zz.1)) (fun zz ad => [(h, .inr (3, [.int ru, .ref a, .int zz.2.1])), (a, .inl (0, 21, .inl zz.2.2.1)), (c, .inr (2, [.int c0, .int zz.2.2.2.1, .int zz.2.2.2.2.1, .int zz.2.2.2.2.2, .int c4, .int c5]))])) xr) := by
  refine ok_of (by decide) (Nat.le_of_ble_eq_true rfl) hE ?_
  refine aw_locals (lv' := [(0, .ref h), (1, .int p0), (2, .ref c)]) [0, 1, 2] rfl ?_
  refine aw_aload_n (q := 1) dX1_recall_0 rfl 0 rfl ?_
  refine aw_iload_n (q := 2) dX1_recall_1 rfl 1 rfl ?_
  refine aw_aload_n (q := 3) dX1_recall_2 rfl 2 rfl ?_
  refine aw_iconst (q := 4) (v := 0) dX1_recall_3 rfl (by decide) ?_
  refine aw_call (q := 7) (kc1 := 0) (ks1 := 0) (wc := [(h, .inr (3, [.int ru, .ref a, .int sz])), (a, .inl (0, 21, .inl f)), (c, .inr (2, [.int c0, .int c1, .int c2, .int c3, .int c4, .int c5]))]) (wr := []) (st1 := fun x4 g4 => [.int x4.1]) (ws1 := fun x4 g4 => [(h, .inr (3, [.int ru, .ref a, .int x4.2.1])), (a, .inl (0, 21, .inl x4.2.2.1)), (c, .inr (2, [.int c0, .int x4.2.2.2.1, .int x4.2.2.2.2.1, .int x4.2.2.2.2.2, .int c4, .int c5]))]) (As := [.ref h, .int p0, .ref c, .int (0 : Int32)]) [0, 1, 2] [] (fun _ => runV (q0 := 0) dX1_recall_4 mi_X1_worthKnown im_X1_worthKnown se_X1_worthKnown ml_X1_28 (by omega) rfl (Nat.le_of_ble_eq_true rfl) rfl rfl rfl rfl) (fun x9 h9 => ok_X1_worthKnown K _ _ _ _ _ _ _ _ _ _ _ _ _ _ x9 h9) rfl rfl rfl rfl rfl (by decide) (by omega) (by omega) (fun _ _ => rfl) (fun _ _ => rfl) (fun x4 g4 => ?_)
  exact aw_ireturn (w := [(h, .inr (3, [.int ru, .ref a, .int x4.2.1])), (a, .inl (0, 21, .inl x4.2.2.1)), (c, .inr (2, [.int c0, .int x4.2.2.2.1, .int x4.2.2.2.2.1, .int x4.2.2.2.2.2, .int c4, .int c5]))]) [0, 1, 2] dX1_recall_7 rfl rfl rfl rfl (PN.mk (fun _ => 0) rfl rfl)
