def fX1_size (N K : Nat) (ru : Int32) (sz : Int32) (f : Nat → Int32) : Option (Int32) :=
  (some sz)
set_option maxHeartbeats 4000000 in
set_option maxRecDepth 100000 in
theorem ok_X1_size {N K : Nat} {h a : Nat} {ru : Int32} {sz : Int32} {f : Nat → Int32} {xr : Int32} (hE : fX1_size N K ru sz f = some xr) : OkM yX1_size (.code yX1_size cX1_size 1 (some .int)) (0) 0 0 [.ref h] [(h, .inr (3, [.int ru, .ref a, .int sz])), (a, .inl (0, 21, .inl f))] ((PN (U := Int32) (fun zz _ => some (.int zz)) (fun zz ad => [(h, .inr (3, [.int ru, .ref a, .int sz])), (a, .inl (0, 21, .inl f))])) xr) := by
  refine ok_of (by decide) (Nat.le_of_ble_eq_true rfl) hE ?_
  refine aw_locals (lv' := [(0, .ref h)]) [0] rfl ?_
  refine aw_aload_n (q := 1) gdX1_size_0.1 rfl 0 rfl ?_
  refine aw_get (q := 4) gdX1_size_0.2.1 rfl fl_X1_25 0 rfl rfl ?_
  exact aw_ireturn (w := [(h, .inr (3, [.int ru, .ref a, .int sz])), (a, .inl (0, 21, .inl f))]) [0, 1] gdX1_size_0.2.2 rfl rfl rfl rfl (PN.mk (fun _ => 0) rfl rfl)
def fX1_keptWorth (N K : Nat) (ru : Int32) (sz : Int32) (f : Nat → Int32) (p0 : Int32) : Option (Int32) :=
  (if p0 < (1 : Int32) then (some (-1 : Int32)) else (if p0 ≤ (20 : Int32) then (if p0 < 0 ∨ 21 ≤ p0.toNatClampNeg then none else (some (f p0.toNatClampNeg))) else (some (-1 : Int32))))
set_option maxHeartbeats 4000000 in
set_option maxRecDepth 100000 in
theorem ok_X1_keptWorth {N K : Nat} {h a : Nat} {ru : Int32} {sz : Int32} {f : Nat → Int32} {p0 : Int32} {xr : Int32} (hE : fX1_keptWorth N K ru sz f p0 = some xr) : OkM yX1_keptWorth (.code yX1_keptWorth cX1_keptWorth 2 (some .int)) (0) 0 0 [.ref h, .int p0] [(h, .inr (3, [.int ru, .ref a, .int sz])), (a, .inl (0, 21, .inl f))] ((PN (U := Int32) (fun zz _ => some (.int zz)) (fun zz ad => [(h, .inr (3, [.int ru, .ref a, .int sz])), (a, .inl (0, 21, .inl f))])) xr) := by
  refine ok_of (by decide) (Nat.le_of_ble_eq_true rfl) hE ?_
  refine aw_locals (lv' := [(0, .ref h), (1, .int p0)]) [0, 1] rfl ?_
  refine aw_iload_n (q := 1) gdX1_keptWorth_0.1 rfl 1 rfl ?_
  refine aw_iconst (q := 2) (v := 1) gdX1_keptWorth_0.2.1 rfl (by decide) ?_
  refine aw_icmp_lt (tgt := 11) (q := 5) gdX1_keptWorth_0.2.2.1 (by decide) rfl (fun h_2 => ?_) (fun h_2 => ?_)
  · refine aw_iconst (q := 12) (v := (-1)) gdX1_keptWorth_0.2.2.2.2.2.2.1 rfl (by decide) ?_
    refine aw_goto (tgt := 21) gdX1_keptWorth_0.2.2.2.2.2.2.2 (by decide) ?_
    exact aw_ireturn (w := [(h, .inr (3, [.int ru, .ref a, .int sz])), (a, .inl (0, 21, .inl f))]) [0, 1] gdX1_keptWorth_15.2.2.2.2 rfl rfl rfl rfl (PN.mk (fun _ => 0) rfl rfl)
  · refine aw_iload_n (q := 6) gdX1_keptWorth_0.2.2.2.1 rfl 1 rfl ?_
    refine aw_bipush (q := 8) (v := 20) gdX1_keptWorth_0.2.2.2.2.1 rfl (by decide) ?_
    refine aw_icmp_le (tgt := 15) (q := 11) gdX1_keptWorth_0.2.2.2.2.2.1 (by decide) rfl (fun h_8 => ?_) (fun h_8 => ?_)
    · refine aw_aload_n (q := 16) gdX1_keptWorth_15.1 rfl 0 rfl ?_
      refine aw_get (q := 19) gdX1_keptWorth_15.2.1 rfl fl_X1_9 0 rfl rfl ?_
      refine aw_iload_n (q := 20) gdX1_keptWorth_15.2.2.1 rfl 1 rfl ?_
      refine aw_iald (q := 21) gdX1_keptWorth_15.2.2.2.1 rfl 1 rfl ?_
      exact aw_ireturn (w := [(h, .inr (3, [.int ru, .ref a, .int sz])), (a, .inl (0, 21, .inl f))]) [0, 1] gdX1_keptWorth_15.2.2.2.2 rfl rfl rfl rfl (PN.mk (fun _ => 0) rfl rfl)
    · refine aw_iconst (q := 12) (v := (-1)) gdX1_keptWorth_0.2.2.2.2.2.2.1 rfl (by decide) ?_
      refine aw_goto (tgt := 21) gdX1_keptWorth_0.2.2.2.2.2.2.2 (by decide) ?_
      exact aw_ireturn (w := [(h, .inr (3, [.int ru, .ref a, .int sz])), (a, .inl (0, 21, .inl f))]) [0, 1] gdX1_keptWorth_15.2.2.2.2 rfl rfl rfl rfl (PN.mk (fun _ => 0) rfl rfl)
def fX1_keeps (N K : Nat) (ru : Int32) (sz : Int32) (f : Nat → Int32) (p0 : Int32) : Option (Int32) :=
  ((fX1_keptWorth N K ru sz f p0).bind (fun x2 => (if x2 = (-1 : Int32) then (some (0 : Int32)) else (some (1 : Int32)))))
set_option maxHeartbeats 4000000 in
set_option maxRecDepth 100000 in
theorem ok_X1_keeps {N K : Nat} {h a : Nat} {ru : Int32} {sz : Int32} {f : Nat → Int32} {p0 : Int32} {xr : Int32} (hE : fX1_keeps N K ru sz f p0 = some xr) : OkM yX1_keeps (.code yX1_keeps cX1_keeps 2 (some .boolean)) (1) 0 0 [.ref h, .int p0] [(h, .inr (3, [.int ru, .ref a, .int sz])), (a, .inl (0, 21, .inl f))] ((PN (U := Int32) (fun zz _ => some (.int zz)) (fun zz ad => [(h, .inr (3, [.int ru, .ref a, .int sz])), (a, .inl (0, 21, .inl f))])) xr) := by
  refine ok_of (by decide) (Nat.le_of_ble_eq_true rfl) hE ?_
  refine aw_locals (lv' := [(0, .ref h), (1, .int p0)]) [0, 1] rfl ?_
  refine aw_aload_n (q := 1) gdX1_keeps_0.1 rfl 0 rfl ?_
  refine aw_iload_n (q := 2) gdX1_keeps_0.2.1 rfl 1 rfl ?_
  refine aw_call (q := 5) (kc1 := 0) (ks1 := 0) (wc := [(h, .inr (3, [.int ru, .ref a, .int sz])), (a, .inl (0, 21, .inl f))]) (wr := []) (st1 := fun x2 g2 => [.int x2]) (ws1 := fun x2 g2 => [(h, .inr (3, [.int ru, .ref a, .int sz])), (a, .inl (0, 21, .inl f))]) (As := [.ref h, .int p0]) [0, 1] [] (fun _ => runV (q0 := 0) gdX1_keeps_0.2.2.1 mi_X1_keptWorth im_X1_keptWorth se_X1_keptWorth ml_X1_53 (by omega) rfl (Nat.le_of_ble_eq_true rfl) rfl rfl rfl rfl) (fun x9 h9 => ok_X1_keptWorth h9) rfl rfl rfl rfl rfl (by decide +kernel) (by omega) (by omega) (fun _ _ => rfl) (fun _ _ => rfl) (fun x2 g2 => ?_)
  refine aw_iconst (q := 6) (v := (-1)) gdX1_keeps_0.2.2.2.1 rfl (by decide) ?_
  refine aw_icmp_eq (tgt := 13) (q := 9) gdX1_keeps_0.2.2.2.2.1 (by decide) rfl (fun h_6 => ?_) (fun h_6 => ?_)
  · refine aw_iconst (q := 14) (v := 0) gdX1_keeps_0.2.2.2.2.2.2.2 rfl (by decide) ?_
    exact aw_ireturn (w := [(h, .inr (3, [.int ru, .ref a, .int sz])), (a, .inl (0, 21, .inl f))]) [0, 1] dX1_keeps_14 rfl rfl rfl rfl (PN.mk (fun _ => 0) rfl rfl)
  · refine aw_iconst (q := 10) (v := 1) gdX1_keeps_0.2.2.2.2.2.1 rfl (by decide) ?_
    refine aw_goto (tgt := 14) gdX1_keeps_0.2.2.2.2.2.2.1 (by decide) ?_
    exact aw_ireturn (w := [(h, .inr (3, [.int ru, .ref a, .int sz])), (a, .inl (0, 21, .inl f))]) [0, 1] dX1_keeps_14 rfl rfl rfl rfl (PN.mk (fun _ => 0) rfl rfl)
def fX1_sumOfDivisors_37 (N K : Nat) (ru : Int32) (sz : Int32) (f : Nat → Int32) (p0 : Int32) (k_19 : Int32 → Int32 → Int32 → Option (Int32)) (l2 : Int32) (l3 : Int32) (l4 : Int32) : Option (Int32) :=
  k_19 l2 l3 (l4 + l2)
set_option maxHeartbeats 4000000 in
set_option maxRecDepth 100000 in
theorem tX1_sumOfDivisors_37 {N K : Nat} {h a : Nat} {ru : Int32} {sz : Int32} {f : Nat → Int32} {p0 : Int32} {k_19 : Int32 → Int32 → Int32 → Option (Int32)} (hk_19 : ∀ (l2 : Int32) (l3 : Int32) (l4 : Int32), AW RX1 "sumOfDivisors" cX1_sumOfDivisors 5 (some .int) [] (fun _ _ => True) (0) (PN (U := Int32) (fun zz _ => some (.int zz)) (fun zz ad => [(h, .inr (3, [.int ru, .ref a, .int sz])), (a, .inl (0, 21, .inl f))])) 0 0 (k_19 l2 l3 l4) 19 [(1, .int p0), (2, .int l2), (3, .int l3), (4, .int l4)] [] [(h, .inr (3, [.int ru, .ref a, .int sz])), (a, .inl (0, 21, .inl f))]) : ∀ (l2 : Int32) (l3 : Int32) (l4 : Int32), AW RX1 "sumOfDivisors" cX1_sumOfDivisors 5 (some .int) [] (fun _ _ => True) (0) (PN (U := Int32) (fun zz _ => some (.int zz)) (fun zz ad => [(h, .inr (3, [.int ru, .ref a, .int sz])), (a, .inl (0, 21, .inl f))])) 0 0 (fX1_sumOfDivisors_37 N K ru sz f p0 k_19 l2 l3 l4) 37 [(1, .int p0), (2, .int l2), (3, .int l3), (4, .int l4)] [] [(h, .inr (3, [.int ru, .ref a, .int sz])), (a, .inl (0, 21, .inl f))] := by
  intro l2 l3 l4
  refine aw_iload (q := 39) gdX1_sumOfDivisors_26.2.2.2.2.2.2.2 rfl 3 rfl ?_
  refine aw_iload_n (q := 40) gdX1_sumOfDivisors_39.1 rfl 1 rfl ?_
  refine aw_iadd (q := 41) gdX1_sumOfDivisors_39.2.1 rfl ?_
  refine aw_istore (q := 43) (lv' := [(4, .int (l4 + l2)), (1, .int p0), (2, .int l2), (3, .int l3)]) gdX1_sumOfDivisors_39.2.2.1 rfl (by decide) rfl ?_
  refine aw_goto (tgt := 19) gdX1_sumOfDivisors_39.2.2.2.1 (by decide) ?_
  refine aw_locals (lv' := [(1, .int p0), (2, .int l2), (3, .int l3), (4, .int (l4 + l2))]) [1, 2, 3, 0] rfl ?_
  exact hk_19 _ _ _
def fX1_sumOfDivisors_19 (N K : Nat) (ru : Int32) (sz : Int32) (f : Nat → Int32) (p0 : Int32) : Nat → Int32 → Int32 → Int32 → Option (Int32)
  | 0, _, _, _ => none
  | fu + 1, l2, l3, l4 =>
    (if p0 < l4 then (some l3) else (if l4 = 0 then none else (if (p0 % l4) = 0 then fX1_sumOfDivisors_37 N K ru sz f p0 (fX1_sumOfDivisors_19 N K ru sz f p0  fu) l2 (l3 + l4) l4 else fX1_sumOfDivisors_37 N K ru sz f p0 (fX1_sumOfDivisors_19 N K ru sz f p0  fu) l2 l3 l4)))
set_option maxHeartbeats 4000000 in
set_option maxRecDepth 100000 in
theorem tX1_sumOfDivisors_19 {N K : Nat} {h a : Nat} {ru : Int32} {sz : Int32} {f : Nat → Int32} {p0 : Int32} : ∀ (fu : Nat) (l2 : Int32) (l3 : Int32) (l4 : Int32), AW RX1 "sumOfDivisors" cX1_sumOfDivisors 5 (some .int) [] (fun _ _ => True) (0) (PN (U := Int32) (fun zz _ => some (.int zz)) (fun zz ad => [(h, .inr (3, [.int ru, .ref a, .int sz])), (a, .inl (0, 21, .inl f))])) 0 0 (fX1_sumOfDivisors_19 N K ru sz f p0  fu l2 l3 l4) 19 [(1, .int p0), (2, .int l2), (3, .int l3), (4, .int l4)] [] [(h, .inr (3, [.int ru, .ref a, .int sz])), (a, .inl (0, 21, .inl f))] := by
  intro fu
  induction fu with
  | zero => intro l2 l3 l4; exact aw_none
  | succ fu ih =>
    intro l2 l3 l4
    refine aw_iload (q := 21) gdX1_sumOfDivisors_14.2.2.2.2.1 rfl 3 rfl ?_
    refine aw_iload_n (q := 22) gdX1_sumOfDivisors_14.2.2.2.2.2.1 rfl 0 rfl ?_
    refine aw_icmp_gt (tgt := 46) (q := 25) gdX1_sumOfDivisors_14.2.2.2.2.2.2.1 (by decide) rfl (fun h_22 => ?_) (fun h_22 => ?_)
    · refine aw_iload_n (q := 47) gdX1_sumOfDivisors_39.2.2.2.2.1 rfl 2 rfl ?_
      exact aw_ireturn (w := [(h, .inr (3, [.int ru, .ref a, .int sz])), (a, .inl (0, 21, .inl f))]) [0, 1] gdX1_sumOfDivisors_39.2.2.2.2.2 rfl rfl rfl rfl (PN.mk (fun _ => 0) rfl rfl)
    · refine aw_iload_n (q := 26) gdX1_sumOfDivisors_14.2.2.2.2.2.2.2 rfl 0 rfl ?_
      refine aw_iload (q := 28) gdX1_sumOfDivisors_26.1 rfl 3 rfl ?_
      refine aw_irem (q := 29) gdX1_sumOfDivisors_26.2.1 rfl ?_
      refine aw_if_ne (tgt := 37) (q := 32) gdX1_sumOfDivisors_26.2.2.1 (by decide) rfl (fun h_29 => ?_) (fun h_29 => ?_)
      · exact tX1_sumOfDivisors_37 ih _ _ _
      · refine aw_iload_n (q := 33) gdX1_sumOfDivisors_26.2.2.2.1 rfl 2 rfl ?_
        refine aw_iload (q := 35) gdX1_sumOfDivisors_26.2.2.2.2.1 rfl 3 rfl ?_
        refine aw_iadd (q := 36) gdX1_sumOfDivisors_26.2.2.2.2.2.1 rfl ?_
        refine aw_istore_n (q := 37) (lv' := [(3, .int (l3 + l4)), (1, .int p0), (2, .int l2), (4, .int l4)]) gdX1_sumOfDivisors_26.2.2.2.2.2.2.1 rfl (by decide) rfl ?_
        refine aw_locals (lv' := [(1, .int p0), (2, .int l2), (3, .int (l3 + l4)), (4, .int l4)]) [1, 2, 0, 3] rfl ?_
        exact tX1_sumOfDivisors_37 ih _ _ _
def fX1_sumOfDivisors_13 (N K : Nat) (ru : Int32) (sz : Int32) (f : Nat → Int32) (p0 : Int32) (s0 : Int32) : Option (Int32) :=
  fX1_sumOfDivisors_19 N K ru sz f p0  N s0 (0 : Int32) (1 : Int32)
set_option maxHeartbeats 4000000 in
set_option maxRecDepth 100000 in
theorem tX1_sumOfDivisors_13 {N K : Nat} {h a : Nat} {ru : Int32} {sz : Int32} {f : Nat → Int32} {p0 : Int32} : ∀ (s0 : Int32), AW RX1 "sumOfDivisors" cX1_sumOfDivisors 5 (some .int) [] (fun _ _ => True) (0) (PN (U := Int32) (fun zz _ => some (.int zz)) (fun zz ad => [(h, .inr (3, [.int ru, .ref a, .int sz])), (a, .inl (0, 21, .inl f))])) 0 0 (fX1_sumOfDivisors_13 N K ru sz f p0  s0) 13 [(1, .int p0)] [.int s0] [(h, .inr (3, [.int ru, .ref a, .int sz])), (a, .inl (0, 21, .inl f))] := by
  intro s0
  refine aw_istore_n (q := 14) (lv' := [(2, .int s0), (1, .int p0)]) gdX1_sumOfDivisors_0.2.2.2.2.2.2.2 rfl (by decide) rfl ?_
  refine aw_iconst (q := 15) (v := 0) gdX1_sumOfDivisors_14.1 rfl (by decide) ?_
  refine aw_istore_n (q := 16) (lv' := [(3, .int (0 : Int32)), (2, .int s0), (1, .int p0)]) gdX1_sumOfDivisors_14.2.1 rfl (by decide) rfl ?_
  refine aw_iconst (q := 17) (v := 1) gdX1_sumOfDivisors_14.2.2.1 rfl (by decide) ?_
  refine aw_istore (q := 19) (lv' := [(4, .int (1 : Int32)), (3, .int (0 : Int32)), (2, .int s0), (1, .int p0)]) gdX1_sumOfDivisors_14.2.2.2.1 rfl (by decide) rfl ?_
  refine aw_locals (lv' := [(1, .int p0), (2, .int s0), (3, .int (0 : Int32)), (4, .int (1 : Int32))]) [3, 2, 1, 0] rfl ?_
  exact tX1_sumOfDivisors_19  N _ _ _
def fX1_sumOfDivisors (N K : Nat) (ru : Int32) (sz : Int32) (f : Nat → Int32) (p0 : Int32) : Option (Int32) :=
  (if ru = (2 : Int32) then fX1_sumOfDivisors_13 N K ru sz f p0  (2 : Int32) else fX1_sumOfDivisors_13 N K ru sz f p0  (1 : Int32))
set_option maxHeartbeats 4000000 in
set_option maxRecDepth 100000 in
theorem ok_X1_sumOfDivisors {N K : Nat} {h a : Nat} {ru : Int32} {sz : Int32} {f : Nat → Int32} {p0 : Int32} {xr : Int32} (hE : fX1_sumOfDivisors N K ru sz f p0 = some xr) : OkM yX1_sumOfDivisors (.code yX1_sumOfDivisors cX1_sumOfDivisors 5 (some .int)) (0) 0 0 [.ref h, .int p0] [(h, .inr (3, [.int ru, .ref a, .int sz])), (a, .inl (0, 21, .inl f))] ((PN (U := Int32) (fun zz _ => some (.int zz)) (fun zz ad => [(h, .inr (3, [.int ru, .ref a, .int sz])), (a, .inl (0, 21, .inl f))])) xr) := by
  refine ok_of (by decide) (Nat.le_of_ble_eq_true rfl) hE ?_
  refine aw_locals (lv' := [(0, .ref h), (1, .int p0)]) [0, 1] rfl ?_
  refine aw_aload_n (q := 1) gdX1_sumOfDivisors_0.1 rfl 0 rfl ?_
  refine aw_get (q := 4) gdX1_sumOfDivisors_0.2.1 rfl fl_X1_15 0 rfl rfl ?_
  refine aw_iconst (q := 5) (v := 2) gdX1_sumOfDivisors_0.2.2.1 rfl (by decide) ?_
  refine aw_icmp_ne (tgt := 12) (q := 8) gdX1_sumOfDivisors_0.2.2.2.1 (by decide) rfl (fun h_5 => ?_) (fun h_5 => ?_)
  · refine aw_iconst (q := 13) (v := 1) gdX1_sumOfDivisors_0.2.2.2.2.2.2.1 rfl (by decide) ?_
    refine aw_locals (lv' := [(1, .int p0)]) [1] rfl ?_
    exact tX1_sumOfDivisors_13  _
  · refine aw_iconst (q := 9) (v := 2) gdX1_sumOfDivisors_0.2.2.2.2.1 rfl (by decide) ?_
    refine aw_goto (tgt := 13) gdX1_sumOfDivisors_0.2.2.2.2.2.1 (by decide) ?_
    refine aw_locals (lv' := [(1, .int p0)]) [1] rfl ?_
    exact tX1_sumOfDivisors_13  _
def fX1_mark_31 (N K : Nat) (ru : Int32) (sz : Int32) (f : Nat → Int32) (k_4 : Int32 → Int32 → Option (Int32)) (l1 : Int32) (l2 : Int32) : Option (Int32) :=
  k_4 l1 (l2 + (1 : Int32))
set_option maxHeartbeats 4000000 in
set_option maxRecDepth 100000 in
theorem tX1_mark_31 {N K : Nat} {h a : Nat} {ru : Int32} {sz : Int32} {f : Nat → Int32} {k_4 : Int32 → Int32 → Option (Int32)} (hk_4 : ∀ (l1 : Int32) (l2 : Int32), AW RX1 "mark" cX1_mark 3 (some .int) [] (fun _ _ => True) (0) (PN (U := Int32) (fun zz _ => some (.int zz)) (fun zz ad => [(h, .inr (3, [.int ru, .ref a, .int sz])), (a, .inl (0, 21, .inl f))])) 0 0 (k_4 l1 l2) 4 [(0, .ref h), (1, .int l1), (2, .int l2)] [] [(h, .inr (3, [.int ru, .ref a, .int sz])), (a, .inl (0, 21, .inl f))]) : ∀ (l1 : Int32) (l2 : Int32), AW RX1 "mark" cX1_mark 3 (some .int) [] (fun _ _ => True) (0) (PN (U := Int32) (fun zz _ => some (.int zz)) (fun zz ad => [(h, .inr (3, [.int ru, .ref a, .int sz])), (a, .inl (0, 21, .inl f))])) 0 0 (fX1_mark_31 N K ru sz f k_4 l1 l2) 31 [(0, .ref h), (1, .int l1), (2, .int l2)] [] [(h, .inr (3, [.int ru, .ref a, .int sz])), (a, .inl (0, 21, .inl f))] := by
  intro l1 l2
  refine aw_iinc (q := 34) (v := (l2 + (1 : Int32))) (lv' := [(2, .int (l2 + (1 : Int32))), (0, .ref h), (1, .int l1)]) gdX1_mark_23.2.2.2.2.2.2.1 rfl 2 rfl rfl (by decide) rfl ?_
  refine aw_goto (tgt := 4) gdX1_mark_23.2.2.2.2.2.2.2 (by decide) ?_
  refine aw_locals (lv' := [(0, .ref h), (1, .int l1), (2, .int (l2 + (1 : Int32)))]) [1, 2, 0] rfl ?_
  exact hk_4 _ _
def fX1_mark_4 (N K : Nat) (ru : Int32) (sz : Int32) (f : Nat → Int32) : Nat → Int32 → Int32 → Option (Int32)
  | 0, _, _ => none
  | fu + 1, l1, l2 =>
    (if (20 : Int32) < l2 then (some l1) else (if l2 < 0 ∨ 21 ≤ l2.toNatClampNeg then none else (if (f l2.toNatClampNeg) = (-1 : Int32) then fX1_mark_31 N K ru sz f (fX1_mark_4 N K ru sz f  fu) l1 l2 else (if l2 < 0 ∨ 21 ≤ l2.toNatClampNeg then none else fX1_mark_31 N K ru sz f (fX1_mark_4 N K ru sz f  fu) (l1 + (l2 ^^^ (f l2.toNatClampNeg))) l2))))
set_option maxHeartbeats 4000000 in
set_option maxRecDepth 100000 in
theorem tX1_mark_4 {N K : Nat} {h a : Nat} {ru : Int32} {sz : Int32} {f : Nat → Int32} : ∀ (fu : Nat) (l1 : Int32) (l2 : Int32), AW RX1 "mark" cX1_mark 3 (some .int) [] (fun _ _ => True) (0) (PN (U := Int32) (fun zz _ => some (.int zz)) (fun zz ad => [(h, .inr (3, [.int ru, .ref a, .int sz])), (a, .inl (0, 21, .inl f))])) 0 0 (fX1_mark_4 N K ru sz f  fu l1 l2) 4 [(0, .ref h), (1, .int l1), (2, .int l2)] [] [(h, .inr (3, [.int ru, .ref a, .int sz])), (a, .inl (0, 21, .inl f))] := by
  intro fu
  induction fu with
  | zero => intro l1 l2; exact aw_none
  | succ fu ih =>
    intro l1 l2
    refine aw_iload_n (q := 5) gdX1_mark_0.2.2.2.2.1 rfl 2 rfl ?_
    refine aw_bipush (q := 7) (v := 20) gdX1_mark_0.2.2.2.2.2.1 rfl (by decide) ?_
    refine aw_icmp_gt (tgt := 37) (q := 10) gdX1_mark_0.2.2.2.2.2.2.1 (by decide) rfl (fun h_7 => ?_) (fun h_7 => ?_)
    · refine aw_iload_n (q := 38) gdX1_mark_37.1 rfl 1 rfl ?_
      exact aw_ireturn (w := [(h, .inr (3, [.int ru, .ref a, .int sz])), (a, .inl (0, 21, .inl f))]) [0, 1] gdX1_mark_37.2 rfl rfl rfl rfl (PN.mk (fun _ => 0) rfl rfl)
    · refine aw_aload_n (q := 11) gdX1_mark_0.2.2.2.2.2.2.2 rfl 0 rfl ?_
      refine aw_get (q := 14) gdX1_mark_11.1 rfl fl_X1_9 0 rfl rfl ?_
      refine aw_iload_n (q := 15) gdX1_mark_11.2.1 rfl 2 rfl ?_
      refine aw_iald (q := 16) gdX1_mark_11.2.2.1 rfl 1 rfl ?_
      refine aw_iconst (q := 17) (v := (-1)) gdX1_mark_11.2.2.2.1 rfl (by decide) ?_
      refine aw_icmp_eq (tgt := 31) (q := 20) gdX1_mark_11.2.2.2.2.1 (by decide) rfl (fun h_17 => ?_) (fun h_17 => ?_)
      · exact tX1_mark_31 ih _ _
      · refine aw_iload_n (q := 21) gdX1_mark_11.2.2.2.2.2.1 rfl 1 rfl ?_
        refine aw_iload_n (q := 22) gdX1_mark_11.2.2.2.2.2.2.1 rfl 2 rfl ?_
        refine aw_aload_n (q := 23) gdX1_mark_11.2.2.2.2.2.2.2 rfl 0 rfl ?_
        refine aw_get (q := 26) gdX1_mark_23.1 rfl fl_X1_9 0 rfl rfl ?_
        refine aw_iload_n (q := 27) gdX1_mark_23.2.1 rfl 2 rfl ?_
        refine aw_iald (q := 28) gdX1_mark_23.2.2.1 rfl 1 rfl ?_
        refine aw_ixor (q := 29) gdX1_mark_23.2.2.2.1 rfl ?_
        refine aw_iadd (q := 30) gdX1_mark_23.2.2.2.2.1 rfl ?_
        refine aw_istore_n (q := 31) (lv' := [(1, .int (l1 + (l2 ^^^ (f l2.toNatClampNeg)))), (0, .ref h), (2, .int l2)]) gdX1_mark_23.2.2.2.2.2.1 rfl (by decide) rfl ?_
        refine aw_locals (lv' := [(0, .ref h), (1, .int (l1 + (l2 ^^^ (f l2.toNatClampNeg)))), (2, .int l2)]) [1, 0, 2] rfl ?_
        exact tX1_mark_31 ih _ _
def fX1_mark (N K : Nat) (ru : Int32) (sz : Int32) (f : Nat → Int32) : Option (Int32) :=
  fX1_mark_4 N K ru sz f  N (0 : Int32) (1 : Int32)
set_option maxHeartbeats 4000000 in
set_option maxRecDepth 100000 in
theorem ok_X1_mark {N K : Nat} {h a : Nat} {ru : Int32} {sz : Int32} {f : Nat → Int32} {xr : Int32} (hE : fX1_mark N K ru sz f = some xr) : OkM yX1_mark (.code yX1_mark cX1_mark 3 (some .int)) (0) 0 0 [.ref h] [(h, .inr (3, [.int ru, .ref a, .int sz])), (a, .inl (0, 21, .inl f))] ((PN (U := Int32) (fun zz _ => some (.int zz)) (fun zz ad => [(h, .inr (3, [.int ru, .ref a, .int sz])), (a, .inl (0, 21, .inl f))])) xr) := by
  refine ok_of (by decide) (Nat.le_of_ble_eq_true rfl) hE ?_
  refine aw_locals (lv' := [(0, .ref h)]) [0] rfl ?_
  refine aw_iconst (q := 1) (v := 0) gdX1_mark_0.1 rfl (by decide) ?_
  refine aw_istore_n (q := 2) (lv' := [(1, .int (0 : Int32)), (0, .ref h)]) gdX1_mark_0.2.1 rfl (by decide) rfl ?_
  refine aw_iconst (q := 3) (v := 1) gdX1_mark_0.2.2.1 rfl (by decide) ?_
  refine aw_istore_n (q := 4) (lv' := [(2, .int (1 : Int32)), (1, .int (0 : Int32)), (0, .ref h)]) gdX1_mark_0.2.2.2.1 rfl (by decide) rfl ?_
  refine aw_locals (lv' := [(0, .ref h), (1, .int (0 : Int32)), (2, .int (1 : Int32))]) [2, 1, 0] rfl ?_
  exact tX1_mark_4  N _ _
def fX1_drop (N K : Nat) (ru : Int32) (sz : Int32) (f : Nat → Int32) (p0 : Int32) : Option (Int32 × (Nat → Int32)) :=
  (if p0 < (1 : Int32) then (some (sz, f)) else (if (20 : Int32) < p0 then (some (sz, f)) else (if p0 < 0 ∨ 21 ≤ p0.toNatClampNeg then none else (if (f p0.toNatClampNeg) = (-1 : Int32) then (some (sz, f)) else (if p0 < 0 ∨ 21 ≤ p0.toNatClampNeg then none else (some ((sz - (1 : Int32)), (upd f p0.toNatClampNeg (-1 : Int32)))))))))
set_option maxHeartbeats 4000000 in
set_option maxRecDepth 100000 in
theorem ok_X1_drop {N K : Nat} {h a : Nat} {ru : Int32} {sz : Int32} {f : Nat → Int32} {p0 : Int32} {xr : Int32 × (Nat → Int32)} (hE : fX1_drop N K ru sz f p0 = some xr) : OkM yX1_drop (.code yX1_drop cX1_drop 2 none) (0) 0 0 [.ref h, .int p0] [(h, .inr (3, [.int ru, .ref a, .int sz])), (a, .inl (0, 21, .inl f))] ((PN (U := Int32 × (Nat → Int32)) (fun _ _ => none) (fun zz ad => [(h, .inr (3, [.int ru, .ref a, .int zz.1])), (a, .inl (0, 21, .inl zz.2))])) xr) := by
  refine ok_of (by decide) (Nat.le_of_ble_eq_true rfl) hE ?_
  refine aw_locals (lv' := [(0, .ref h), (1, .int p0)]) [0, 1] rfl ?_
  refine aw_iload_n (q := 1) gdX1_drop_0.1 rfl 1 rfl ?_
  refine aw_iconst (q := 2) (v := 1) gdX1_drop_0.2.1 rfl (by decide) ?_
  refine aw_icmp_lt (tgt := 38) (q := 5) gdX1_drop_0.2.2.1 (by decide) rfl (fun h_2 => ?_) (fun h_2 => ?_)
  · exact aw_return (w := [(h, .inr (3, [.int ru, .ref a, .int sz])), (a, .inl (0, 21, .inl f))]) [0, 1] gdX1_drop_27.2.2.2.2.2.2.2 rfl rfl rfl (PN.mk (fun _ => 0) rfl rfl)
  · refine aw_iload_n (q := 6) gdX1_drop_0.2.2.2.1 rfl 1 rfl ?_
    refine aw_bipush (q := 8) (v := 20) gdX1_drop_0.2.2.2.2.1 rfl (by decide) ?_
    refine aw_icmp_gt (tgt := 38) (q := 11) gdX1_drop_0.2.2.2.2.2.1 (by decide) rfl (fun h_8 => ?_) (fun h_8 => ?_)
    · exact aw_return (w := [(h, .inr (3, [.int ru, .ref a, .int sz])), (a, .inl (0, 21, .inl f))]) [0, 1] gdX1_drop_27.2.2.2.2.2.2.2 rfl rfl rfl (PN.mk (fun _ => 0) rfl rfl)
    · refine aw_aload_n (q := 12) gdX1_drop_0.2.2.2.2.2.2.1 rfl 0 rfl ?_
      refine aw_get (q := 15) gdX1_drop_0.2.2.2.2.2.2.2 rfl fl_X1_9 0 rfl rfl ?_
      refine aw_iload_n (q := 16) gdX1_drop_15.1 rfl 1 rfl ?_
      refine aw_iald (q := 17) gdX1_drop_15.2.1 rfl 1 rfl ?_
      refine aw_iconst (q := 18) (v := (-1)) gdX1_drop_15.2.2.1 rfl (by decide) ?_
      refine aw_icmp_eq (tgt := 38) (q := 21) gdX1_drop_15.2.2.2.1 (by decide) rfl (fun h_18 => ?_) (fun h_18 => ?_)
      · exact aw_return (w := [(h, .inr (3, [.int ru, .ref a, .int sz])), (a, .inl (0, 21, .inl f))]) [0, 1] gdX1_drop_27.2.2.2.2.2.2.2 rfl rfl rfl (PN.mk (fun _ => 0) rfl rfl)
      · refine aw_aload_n (q := 22) gdX1_drop_15.2.2.2.2.1 rfl 0 rfl ?_
        refine aw_get (q := 25) gdX1_drop_15.2.2.2.2.2.1 rfl fl_X1_9 0 rfl rfl ?_
        refine aw_iload_n (q := 26) gdX1_drop_15.2.2.2.2.2.2.1 rfl 1 rfl ?_
        refine aw_iconst (q := 27) (v := (-1)) gdX1_drop_15.2.2.2.2.2.2.2 rfl (by decide) ?_
        refine aw_iast (q := 28) (ws' := [(h, .inr (3, [.int ru, .ref a, .int sz])), (a, .inl (0, 21, .inl (upd f p0.toNatClampNeg (-1 : Int32))))]) gdX1_drop_27.1 rfl 1 rfl rfl ?_
        refine aw_aload_n (q := 29) gdX1_drop_27.2.1 rfl 0 rfl ?_
        refine aw_dup (q := 30) gdX1_drop_27.2.2.1 rfl rfl ?_
        refine aw_get (q := 33) gdX1_drop_27.2.2.2.1 rfl fl_X1_25 0 rfl rfl ?_
        refine aw_iconst (q := 34) (v := 1) gdX1_drop_27.2.2.2.2.1 rfl (by decide) ?_
        refine aw_isub (q := 35) gdX1_drop_27.2.2.2.2.2.1 rfl ?_
        refine aw_put (q := 38) (ws' := [(h, .inr (3, [.int ru, .ref a, .int (sz - (1 : Int32))])), (a, .inl (0, 21, .inl (upd f p0.toNatClampNeg (-1 : Int32))))]) gdX1_drop_27.2.2.2.2.2.2.1 rfl fl_X1_25 0 rfl rfl rfl (Nat.le_of_ble_eq_true rfl) rfl ?_
        exact aw_return (w := [(h, .inr (3, [.int ru, .ref a, .int (sz - (1 : Int32))])), (a, .inl (0, 21, .inl (upd f p0.toNatClampNeg (-1 : Int32))))]) [0, 1] gdX1_drop_27.2.2.2.2.2.2.2 rfl rfl rfl (PN.mk (fun _ => 0) rfl rfl)
def fX1_dropAll (N K : Nat) (ru : Int32) (sz : Int32) (f : Nat → Int32) : Option (Int32 × Int32 × (Nat → Int32)) :=
  ((fJ_fill N K 21 f (-1 : Int32)).bind (fun x10 => (some (sz, (0 : Int32), x10))))
set_option maxHeartbeats 4000000 in
set_option maxRecDepth 100000 in
theorem ok_X1_dropAll {N K : Nat} {h a : Nat} {ru : Int32} {sz : Int32} {f : Nat → Int32} {xr : Int32 × Int32 × (Nat → Int32)} (hE : fX1_dropAll N K ru sz f = some xr) : OkM yX1_dropAll (.code yX1_dropAll cX1_dropAll 2 (some .int)) (1) 0 0 [.ref h] [(h, .inr (3, [.int ru, .ref a, .int sz])), (a, .inl (0, 21, .inl f))] ((PN (U := Int32 × Int32 × (Nat → Int32)) (fun zz _ => some (.int zz.1)) (fun zz ad => [(h, .inr (3, [.int ru, .ref a, .int zz.2.1])), (a, .inl (0, 21, .inl zz.2.2))])) xr) := by
  refine ok_of (by decide) (Nat.le_of_ble_eq_true rfl) hE ?_
  refine aw_locals (lv' := [(0, .ref h)]) [0] rfl ?_
  refine aw_aload_n (q := 1) gdX1_dropAll_0.1 rfl 0 rfl ?_
  refine aw_get (q := 4) gdX1_dropAll_0.2.1 rfl fl_X1_25 0 rfl rfl ?_
  refine aw_istore_n (q := 5) (lv' := [(1, .int sz), (0, .ref h)]) gdX1_dropAll_0.2.2.1 rfl (by decide) rfl ?_
  refine aw_aload_n (q := 6) gdX1_dropAll_0.2.2.2.1 rfl 1 rfl ?_
  refine aw_get (q := 9) gdX1_dropAll_0.2.2.2.2.1 rfl fl_X1_9 0 rfl rfl ?_
  refine aw_iconst (q := 10) (v := (-1)) gdX1_dropAll_0.2.2.2.2.2.1 rfl (by decide) ?_
  refine aw_call (q := 13) (kc1 := 0) (ks1 := 0) (wc := [(a, .inl (0, 21, .inl f))]) (wr := [(h, .inr (3, [.int ru, .ref a, .int sz]))]) (st1 := fun x10 g10 => []) (ws1 := fun x10 g10 => [(h, .inr (3, [.int ru, .ref a, .int sz])), (a, .inl (0, 21, .inl x10))]) (As := [.ref a, .int (-1 : Int32)]) [1] [0] (fun _ => runS gdX1_dropAll_0.2.2.2.2.2.2.1 mi_J7_fill_53178 st_J7_fill_53178 ml_X1_19 (by omega) rfl (Nat.le_of_ble_eq_true rfl) rfl) (fun x9 h9 => ok_J_fill h9) rfl rfl rfl rfl rfl (by decide +kernel) (by omega) (by omega) (fun _ _ => rfl) (fun _ _ => rfl) (fun x10 g10 => ?_)
  refine aw_aload_n (q := 14) gdX1_dropAll_0.2.2.2.2.2.2.2 rfl 1 rfl ?_
  refine aw_iconst (q := 15) (v := 0) gdX1_dropAll_14.1 rfl (by decide) ?_
  refine aw_put (q := 18) (ws' := [(h, .inr (3, [.int ru, .ref a, .int (0 : Int32)])), (a, .inl (0, 21, .inl x10))]) gdX1_dropAll_14.2.1 rfl fl_X1_25 0 rfl rfl rfl (Nat.le_of_ble_eq_true rfl) rfl ?_
  refine aw_iload_n (q := 19) gdX1_dropAll_14.2.2.1 rfl 0 rfl ?_
  exact aw_ireturn (w := [(h, .inr (3, [.int ru, .ref a, .int (0 : Int32)])), (a, .inl (0, 21, .inl x10))]) [0, 1] gdX1_dropAll_14.2.2.2 rfl rfl rfl rfl (PN.mk (fun _ => 0) rfl rfl)
def fX1_byPentagons_105 (N K : Nat) (rec : Int32 → Int32 → (Nat → Int32) → Int32 → Int32 → Int32 → Int32 → Int32 → Int32 → Int32 → Int32 → Option (Int32 × Int32 × (Nat → Int32) × Int32 × Int32 × Int32)) (ru : Int32) (sz : Int32) (f : Nat → Int32) (c0 : Int32) (c1 : Int32) (c2 : Int32) (c3 : Int32) (c4 : Int32) (c5 : Int32) (p0 : Int32) (p1 : Int32) (k_6 : Int32 → Int32 → Int32 → (Nat → Int32) → Int32 → Int32 → Int32 → Option (Int32 × Int32 × (Nat → Int32) × Int32 × Int32 × Int32)) (l5 : Int32) (s0 : Int32) (s1 : Int32) (sz_ : Int32) (f_ : Nat → Int32) (c1_ : Int32) (c2_ : Int32) (c3_ : Int32) : Option (Int32 × Int32 × (Nat → Int32) × Int32 × Int32 × Int32) :=
  k_6 (s1 + s0) (l5 + (1 : Int32)) sz_ f_ c1_ c2_ c3_
set_option maxHeartbeats 4000000 in
set_option maxRecDepth 100000 in
theorem tX1_byPentagons_105 {N K : Nat} {h c a : Nat} {ru : Int32} {sz : Int32} {f : Nat → Int32} {c0 : Int32} {c1 : Int32} {c2 : Int32} {c3 : Int32} {c4 : Int32} {c5 : Int32} {p0 : Int32} {p1 : Int32} {rec : Int32 → Int32 → (Nat → Int32) → Int32 → Int32 → Int32 → Int32 → Int32 → Int32 → Int32 → Int32 → Option (Int32 × Int32 × (Nat → Int32) × Int32 × Int32 × Int32)} {dr : Nat} (hrec : ∀ (ru : Int32) (sz : Int32) (f : Nat → Int32) (c0 : Int32) (c1 : Int32) (c2 : Int32) (c3 : Int32) (c4 : Int32) (c5 : Int32) (p0 : Int32) (p1 : Int32) (xr : Int32 × Int32 × (Nat → Int32) × Int32 × Int32 × Int32), rec ru sz f c0 c1 c2 c3 c4 c5 p0 p1 = some xr → OkM yX1_worthKnown (.code yX1_worthKnown cX1_worthKnown 5 (some .int)) (dr) 0 0 [.ref h, .int p0, .ref c, .int p1] [(h, .inr (3, [.int ru, .ref a, .int sz])), (a, .inl (0, 21, .inl f)), (c, .inr (2, [.int c0, .int c1, .int c2, .int c3, .int c4, .int c5]))] ((PN (U := Int32 × Int32 × (Nat → Int32) × Int32 × Int32 × Int32) (fun zz _ => some (.int zz.1)) (fun zz ad => [(h, .inr (3, [.int ru, .ref a, .int zz.2.1])), (a, .inl (0, 21, .inl zz.2.2.1)), (c, .inr (2, [.int c0, .int zz.2.2.2.1, .int zz.2.2.2.2.1, .int zz.2.2.2.2.2, .int c4, .int c5]))])) xr)) {k_6 : Int32 → Int32 → Int32 → (Nat → Int32) → Int32 → Int32 → Int32 → Option (Int32 × Int32 × (Nat → Int32) × Int32 × Int32 × Int32)} (hk_6 : ∀ (l4 : Int32) (l5 : Int32) (sz_ : Int32) (f_ : Nat → Int32) (c1_ : Int32) (c2_ : Int32) (c3_ : Int32), AW RX1 "byPentagons" cX1_byPentagons 7 (some .int) [] (fun _ _ => True) (dr + 1) (PN (U := Int32 × Int32 × (Nat → Int32) × Int32 × Int32 × Int32) (fun zz _ => some (.int zz.1)) (fun zz ad => [(h, .inr (3, [.int ru, .ref a, .int zz.2.1])), (a, .inl (0, 21, .inl zz.2.2.1)), (c, .inr (2, [.int c0, .int zz.2.2.2.1, .int zz.2.2.2.2.1, .int zz.2.2.2.2.2, .int c4, .int c5]))])) 0 0 (k_6 l4 l5 sz_ f_ c1_ c2_ c3_) 6 [(0, .ref h), (1, .int p0), (2, .ref c), (3, .int p1), (4, .int l4), (5, .int l5)] [] [(h, .inr (3, [.int ru, .ref a, .int sz_])), (a, .inl (0, 21, .inl f_)), (c, .inr (2, [.int c0, .int c1_, .int c2_, .int c3_, .int c4, .int c5]))]) : ∀ (l5 : Int32) (s0 : Int32) (s1 : Int32) (sz_ : Int32) (f_ : Nat → Int32) (c1_ : Int32) (c2_ : Int32) (c3_ : Int32), AW RX1 "byPentagons" cX1_byPentagons 7 (some .int) [] (fun _ _ => True) (dr + 1) (PN (U := Int32 × Int32 × (Nat → Int32) × Int32 × Int32 × Int32) (fun zz _ => some (.int zz.1)) (fun zz ad => [(h, .inr (3, [.int ru, .ref a, .int zz.2.1])), (a, .inl (0, 21, .inl zz.2.2.1)), (c, .inr (2, [.int c0, .int zz.2.2.2.1, .int zz.2.2.2.2.1, .int zz.2.2.2.2.2, .int c4, .int c5]))])) 0 0 (fX1_byPentagons_105 N K rec ru sz f c0 c1 c2 c3 c4 c5 p0 p1 k_6 l5 s0 s1 sz_ f_ c1_ c2_ c3_) 105 [(0, .ref h), (1, .int p0), (2, .ref c), (3, .int p1), (5, .int l5)] [.int s0, .int s1] [(h, .inr (3, [.int ru, .ref a, .int sz_])), (a, .inl (0, 21, .inl f_)), (c, .inr (2, [.int c0, .int c1_, .int c2_, .int c3_, .int c4, .int c5]))] := by
  intro l5 s0 s1 sz_ f_ c1_ c2_ c3_
  refine aw_iadd (q := 106) gdX1_byPentagons_105.1 rfl ?_
  refine aw_istore (q := 108) (lv' := [(4, .int (s1 + s0)), (0, .ref h), (1, .int p0), (2, .ref c), (3, .int p1), (5, .int l5)]) gdX1_byPentagons_105.2.1 rfl (by decide) rfl ?_
  refine aw_iinc (q := 111) (v := (l5 + (1 : Int32))) (lv' := [(5, .int (l5 + (1 : Int32))), (4, .int (s1 + s0)), (0, .ref h), (1, .int p0), (2, .ref c), (3, .int p1)]) gdX1_byPentagons_105.2.2.1 rfl 5 rfl rfl (by decide) rfl ?_
  refine aw_goto (tgt := 6) gdX1_byPentagons_105.2.2.2.1 (by decide) ?_
  refine aw_locals (lv' := [(0, .ref h), (1, .int p0), (2, .ref c), (3, .int p1), (4, .int (s1 + s0)), (5, .int (l5 + (1 : Int32)))]) [2, 3, 4, 5, 1, 0] rfl ?_
  exact hk_6 _ _ _ _ _ _ _
def fX1_byPentagons_88 (N K : Nat) (rec : Int32 → Int32 → (Nat → Int32) → Int32 → Int32 → Int32 → Int32 → Int32 → Int32 → Int32 → Int32 → Option (Int32 × Int32 × (Nat → Int32) × Int32 × Int32 × Int32)) (ru : Int32) (sz : Int32) (f : Nat → Int32) (c0 : Int32) (c1 : Int32) (c2 : Int32) (c3 : Int32) (c4 : Int32) (c5 : Int32) (p0 : Int32) (p1 : Int32) (k_6 : Int32 → Int32 → Int32 → (Nat → Int32) → Int32 → Int32 → Int32 → Option (Int32 × Int32 × (Nat → Int32) × Int32 × Int32 × Int32)) (l4 : Int32) (l5 : Int32) (l6 : Int32) (sz_ : Int32) (f_ : Nat → Int32) (c1_ : Int32) (c2_ : Int32) (c3_ : Int32) : Option (Int32 × Int32 × (Nat → Int32) × Int32 × Int32 × Int32) :=
  (if (l5 % (2 : Int32)) = 0 then fX1_byPentagons_105 N K rec ru sz f c0 c1 c2 c3 c4 c5 p0 p1 k_6 l5 (-l6) l4 sz_ f_ c1_ c2_ c3_ else fX1_byPentagons_105 N K rec ru sz f c0 c1 c2 c3 c4 c5 p0 p1 k_6 l5 l6 l4 sz_ f_ c1_ c2_ c3_)
set_option maxHeartbeats 4000000 in
set_option maxRecDepth 100000 in
theorem tX1_byPentagons_88 {N K : Nat} {h c a : Nat} {ru : Int32} {sz : Int32} {f : Nat → Int32} {c0 : Int32} {c1 : Int32} {c2 : Int32} {c3 : Int32} {c4 : Int32} {c5 : Int32} {p0 : Int32} {p1 : Int32} {rec : Int32 → Int32 → (Nat → Int32) → Int32 → Int32 → Int32 → Int32 → Int32 → Int32 → Int32 → Int32 → Option (Int32 × Int32 × (Nat → Int32) × Int32 × Int32 × Int32)} {dr : Nat} (hrec : ∀ (ru : Int32) (sz : Int32) (f : Nat → Int32) (c0 : Int32) (c1 : Int32) (c2 : Int32) (c3 : Int32) (c4 : Int32) (c5 : Int32) (p0 : Int32) (p1 : Int32) (xr : Int32 × Int32 × (Nat → Int32) × Int32 × Int32 × Int32), rec ru sz f c0 c1 c2 c3 c4 c5 p0 p1 = some xr → OkM yX1_worthKnown (.code yX1_worthKnown cX1_worthKnown 5 (some .int)) (dr) 0 0 [.ref h, .int p0, .ref c, .int p1] [(h, .inr (3, [.int ru, .ref a, .int sz])), (a, .inl (0, 21, .inl f)), (c, .inr (2, [.int c0, .int c1, .int c2, .int c3, .int c4, .int c5]))] ((PN (U := Int32 × Int32 × (Nat → Int32) × Int32 × Int32 × Int32) (fun zz _ => some (.int zz.1)) (fun zz ad => [(h, .inr (3, [.int ru, .ref a, .int zz.2.1])), (a, .inl (0, 21, .inl zz.2.2.1)), (c, .inr (2, [.int c0, .int zz.2.2.2.1, .int zz.2.2.2.2.1, .int zz.2.2.2.2.2, .int c4, .int c5]))])) xr)) {k_6 : Int32 → Int32 → Int32 → (Nat → Int32) → Int32 → Int32 → Int32 → Option (Int32 × Int32 × (Nat → Int32) × Int32 × Int32 × Int32)} (hk_6 : ∀ (l4 : Int32) (l5 : Int32) (sz_ : Int32) (f_ : Nat → Int32) (c1_ : Int32) (c2_ : Int32) (c3_ : Int32), AW RX1 "byPentagons" cX1_byPentagons 7 (some .int) [] (fun _ _ => True) (dr + 1) (PN (U := Int32 × Int32 × (Nat → Int32) × Int32 × Int32 × Int32) (fun zz _ => some (.int zz.1)) (fun zz ad => [(h, .inr (3, [.int ru, .ref a, .int zz.2.1])), (a, .inl (0, 21, .inl zz.2.2.1)), (c, .inr (2, [.int c0, .int zz.2.2.2.1, .int zz.2.2.2.2.1, .int zz.2.2.2.2.2, .int c4, .int c5]))])) 0 0 (k_6 l4 l5 sz_ f_ c1_ c2_ c3_) 6 [(0, .ref h), (1, .int p0), (2, .ref c), (3, .int p1), (4, .int l4), (5, .int l5)] [] [(h, .inr (3, [.int ru, .ref a, .int sz_])), (a, .inl (0, 21, .inl f_)), (c, .inr (2, [.int c0, .int c1_, .int c2_, .int c3_, .int c4, .int c5]))]) : ∀ (l4 : Int32) (l5 : Int32) (l6 : Int32) (sz_ : Int32) (f_ : Nat → Int32) (c1_ : Int32) (c2_ : Int32) (c3_ : Int32), AW RX1 "byPentagons" cX1_byPentagons 7 (some .int) [] (fun _ _ => True) (dr + 1) (PN (U := Int32 × Int32 × (Nat → Int32) × Int32 × Int32 × Int32) (fun zz _ => some (.int zz.1)) (fun zz ad => [(h, .inr (3, [.int ru, .ref a, .int zz.2.1])), (a, .inl (0, 21, .inl zz.2.2.1)), (c, .inr (2, [.int c0, .int zz.2.2.2.1, .int zz.2.2.2.2.1, .int zz.2.2.2.2.2, .int c4, .int c5]))])) 0 0 (fX1_byPentagons_88 N K rec ru sz f c0 c1 c2 c3 c4 c5 p0 p1 k_6 l4 l5 l6 sz_ f_ c1_ c2_ c3_) 88 [(0, .ref h), (1, .int p0), (2, .ref c), (3, .int p1), (4, .int l4), (5, .int l5), (6, .int l6)] [] [(h, .inr (3, [.int ru, .ref a, .int sz_])), (a, .inl (0, 21, .inl f_)), (c, .inr (2, [.int c0, .int c1_, .int c2_, .int c3_, .int c4, .int c5]))] := by
  intro l4 l5 l6 sz_ f_ c1_ c2_ c3_
  refine aw_iload (q := 90) gdX1_byPentagons_78.2.2.2.2.2.2.2 rfl 4 rfl ?_
  refine aw_iload (q := 92) gdX1_byPentagons_90.1 rfl 5 rfl ?_
  refine aw_iconst (q := 93) (v := 2) gdX1_byPentagons_90.2.1 rfl (by decide) ?_
  refine aw_iremT (q := 94) gdX1_byPentagons_90.2.2.1 rfl (by decide) ?_
  refine aw_if_eq (tgt := 102) (q := 97) gdX1_byPentagons_90.2.2.2.1 (by decide) rfl (fun h_94 => ?_) (fun h_94 => ?_)
  · refine aw_iload (q := 104) gdX1_byPentagons_90.2.2.2.2.2.2.1 rfl 6 rfl ?_
    refine aw_ineg (q := 105) gdX1_byPentagons_90.2.2.2.2.2.2.2 rfl ?_
    refine aw_locals (lv' := [(0, .ref h), (1, .int p0), (2, .ref c), (3, .int p1), (5, .int l5)]) [0, 1, 2, 3, 5] rfl ?_
    exact tX1_byPentagons_105 hrec hk_6 _ _ _ _ _ _ _ _
  · refine aw_iload (q := 99) gdX1_byPentagons_90.2.2.2.2.1 rfl 6 rfl ?_
    refine aw_goto (tgt := 105) gdX1_byPentagons_90.2.2.2.2.2.1 (by decide) ?_
    refine aw_locals (lv' := [(0, .ref h), (1, .int p0), (2, .ref c), (3, .int p1), (5, .int l5)]) [0, 1, 2, 3, 5] rfl ?_
    exact tX1_byPentagons_105 hrec hk_6 _ _ _ _ _ _ _ _
def fX1_byPentagons_6 (N K : Nat) (rec : Int32 → Int32 → (Nat → Int32) → Int32 → Int32 → Int32 → Int32 → Int32 → Int32 → Int32 → Int32 → Option (Int32 × Int32 × (Nat → Int32) × Int32 × Int32 × Int32)) (ru : Int32) (sz : Int32) (f : Nat → Int32) (c0 : Int32) (c1 : Int32) (c2 : Int32) (c3 : Int32) (c4 : Int32) (c5 : Int32) (p0 : Int32) (p1 : Int32) : Nat → Int32 → Int32 → Int32 → (Nat → Int32) → Int32 → Int32 → Int32 → Option (Int32 × Int32 × (Nat → Int32) × Int32 × Int32 × Int32)
  | 0, _, _, _, _, _, _, _ => none
  | fu + 1, l4, l5, sz_, f_, c1_, c2_, c3_ =>
    (if (20 : Int32) < l5 then (some (l4, sz_, f_, c1_, c2_, c3_)) else (if p0 < ((l5 * (((3 : Int32) * l5) - (1 : Int32))) / (2 : Int32)) then (some (l4, sz_, f_, c1_, c2_, c3_)) else ((rec ru sz_ f_ c0 c1_ c2_ c3_ c4 c5 (p0 - ((l5 * (((3 : Int32) * l5) - (1 : Int32))) / (2 : Int32))) p1).bind (fun x44 => (if p0 < ((l5 * (((3 : Int32) * l5) + (1 : Int32))) / (2 : Int32)) then fX1_byPentagons_88 N K rec ru sz f c0 c1 c2 c3 c4 c5 p0 p1 (fX1_byPentagons_6 N K rec ru sz f c0 c1 c2 c3 c4 c5 p0 p1  fu) l4 l5 x44.1 x44.2.1 x44.2.2.1 x44.2.2.2.1 x44.2.2.2.2.1 x44.2.2.2.2.2 else ((rec ru x44.2.1 x44.2.2.1 c0 x44.2.2.2.1 x44.2.2.2.2.1 x44.2.2.2.2.2 c4 c5 (p0 - ((l5 * (((3 : Int32) * l5) + (1 : Int32))) / (2 : Int32))) p1).bind (fun x82 => fX1_byPentagons_88 N K rec ru sz f c0 c1 c2 c3 c4 c5 p0 p1 (fX1_byPentagons_6 N K rec ru sz f c0 c1 c2 c3 c4 c5 p0 p1  fu) l4 l5 (x44.1 + x82.1) x82.2.1 x82.2.2.1 x82.2.2.2.1 x82.2.2.2.2.1 x82.2.2.2.2.2)))))))
set_option maxHeartbeats 4000000 in
set_option maxRecDepth 100000 in
theorem tX1_byPentagons_6 {N K : Nat} {h c a : Nat} {ru : Int32} {sz : Int32} {f : Nat → Int32} {c0 : Int32} {c1 : Int32} {c2 : Int32} {c3 : Int32} {c4 : Int32} {c5 : Int32} {p0 : Int32} {p1 : Int32} {rec : Int32 → Int32 → (Nat → Int32) → Int32 → Int32 → Int32 → Int32 → Int32 → Int32 → Int32 → Int32 → Option (Int32 × Int32 × (Nat → Int32) × Int32 × Int32 × Int32)} {dr : Nat} (hrec : ∀ (ru : Int32) (sz : Int32) (f : Nat → Int32) (c0 : Int32) (c1 : Int32) (c2 : Int32) (c3 : Int32) (c4 : Int32) (c5 : Int32) (p0 : Int32) (p1 : Int32) (xr : Int32 × Int32 × (Nat → Int32) × Int32 × Int32 × Int32), rec ru sz f c0 c1 c2 c3 c4 c5 p0 p1 = some xr → OkM yX1_worthKnown (.code yX1_worthKnown cX1_worthKnown 5 (some .int)) (dr) 0 0 [.ref h, .int p0, .ref c, .int p1] [(h, .inr (3, [.int ru, .ref a, .int sz])), (a, .inl (0, 21, .inl f)), (c, .inr (2, [.int c0, .int c1, .int c2, .int c3, .int c4, .int c5]))] ((PN (U := Int32 × Int32 × (Nat → Int32) × Int32 × Int32 × Int32) (fun zz _ => some (.int zz.1)) (fun zz ad => [(h, .inr (3, [.int ru, .ref a, .int zz.2.1])), (a, .inl (0, 21, .inl zz.2.2.1)), (c, .inr (2, [.int c0, .int zz.2.2.2.1, .int zz.2.2.2.2.1, .int zz.2.2.2.2.2, .int c4, .int c5]))])) xr)) : ∀ (fu : Nat) (l4 : Int32) (l5 : Int32) (sz_ : Int32) (f_ : Nat → Int32) (c1_ : Int32) (c2_ : Int32) (c3_ : Int32), AW RX1 "byPentagons" cX1_byPentagons 7 (some .int) [] (fun _ _ => True) (dr + 1) (PN (U := Int32 × Int32 × (Nat → Int32) × Int32 × Int32 × Int32) (fun zz _ => some (.int zz.1)) (fun zz ad => [(h, .inr (3, [.int ru, .ref a, .int zz.2.1])), (a, .inl (0, 21, .inl zz.2.2.1)), (c, .inr (2, [.int c0, .int zz.2.2.2.1, .int zz.2.2.2.2.1, .int zz.2.2.2.2.2, .int c4, .int c5]))])) 0 0 (fX1_byPentagons_6 N K rec ru sz f c0 c1 c2 c3 c4 c5 p0 p1  fu l4 l5 sz_ f_ c1_ c2_ c3_) 6 [(0, .ref h), (1, .int p0), (2, .ref c), (3, .int p1), (4, .int l4), (5, .int l5)] [] [(h, .inr (3, [.int ru, .ref a, .int sz_])), (a, .inl (0, 21, .inl f_)), (c, .inr (2, [.int c0, .int c1_, .int c2_, .int c3_, .int c4, .int c5]))] := by
  intro fu
  induction fu with
  | zero => intro l4 l5 sz_ f_ c1_ c2_ c3_; exact aw_none
  | succ fu ih =>
    intro l4 l5 sz_ f_ c1_ c2_ c3_
    refine aw_iload (q := 8) gdX1_byPentagons_0.2.2.2.2.1 rfl 5 rfl ?_
    refine aw_bipush (q := 10) (v := 20) gdX1_byPentagons_0.2.2.2.2.2.1 rfl (by decide) ?_
    refine aw_icmp_gt (tgt := 114) (q := 13) gdX1_byPentagons_0.2.2.2.2.2.2.1 (by decide) rfl (fun h_10 => ?_) (fun h_10 => ?_)
    · refine aw_iload (q := 116) gdX1_byPentagons_105.2.2.2.2.1 rfl 4 rfl ?_
      exact aw_ireturn (w := [(h, .inr (3, [.int ru, .ref a, .int sz_])), (a, .inl (0, 21, .inl f_)), (c, .inr (2, [.int c0, .int c1_, .int c2_, .int c3_, .int c4, .int c5]))]) [0, 1, 2] gdX1_byPentagons_105.2.2.2.2.2 rfl rfl rfl rfl (PN.mk (fun _ => 0) rfl rfl)
    · refine aw_iload (q := 15) gdX1_byPentagons_0.2.2.2.2.2.2.2 rfl 5 rfl ?_
      refine aw_iconst (q := 16) (v := 3) gdX1_byPentagons_15.1 rfl (by decide) ?_
      refine aw_iload (q := 18) gdX1_byPentagons_15.2.1 rfl 5 rfl ?_
      refine aw_imul (q := 19) gdX1_byPentagons_15.2.2.1 rfl ?_
      refine aw_iconst (q := 20) (v := 1) gdX1_byPentagons_15.2.2.2.1 rfl (by decide) ?_
      refine aw_isub (q := 21) gdX1_byPentagons_15.2.2.2.2.1 rfl ?_
      refine aw_imul (q := 22) gdX1_byPentagons_15.2.2.2.2.2.1 rfl ?_
      refine aw_iconst (q := 23) (v := 2) gdX1_byPentagons_15.2.2.2.2.2.2.1 rfl (by decide) ?_
      refine aw_idivT (q := 24) gdX1_byPentagons_15.2.2.2.2.2.2.2 rfl (by decide) ?_
      refine aw_iload_n (q := 25) gdX1_byPentagons_24.1 rfl 1 rfl ?_
      refine aw_icmp_gt (tgt := 114) (q := 28) gdX1_byPentagons_24.2.1 (by decide) rfl (fun h_25 => ?_) (fun h_25 => ?_)
      · refine aw_iload (q := 116) gdX1_byPentagons_105.2.2.2.2.1 rfl 4 rfl ?_
        exact aw_ireturn (w := [(h, .inr (3, [.int ru, .ref a, .int sz_])), (a, .inl (0, 21, .inl f_)), (c, .inr (2, [.int c0, .int c1_, .int c2_, .int c3_, .int c4, .int c5]))]) [0, 1, 2] gdX1_byPentagons_105.2.2.2.2.2 rfl rfl rfl rfl (PN.mk (fun _ => 0) rfl rfl)
      · refine aw_aload_n (q := 29) gdX1_byPentagons_24.2.2.1 rfl 0 rfl ?_
        refine aw_iload_n (q := 30) gdX1_byPentagons_24.2.2.2.1 rfl 1 rfl ?_
        refine aw_iload (q := 32) gdX1_byPentagons_24.2.2.2.2.1 rfl 5 rfl ?_
        refine aw_iconst (q := 33) (v := 3) gdX1_byPentagons_24.2.2.2.2.2.1 rfl (by decide) ?_
        refine aw_iload (q := 35) gdX1_byPentagons_24.2.2.2.2.2.2.1 rfl 5 rfl ?_
        refine aw_imul (q := 36) gdX1_byPentagons_24.2.2.2.2.2.2.2 rfl ?_
        refine aw_iconst (q := 37) (v := 1) gdX1_byPentagons_36.1 rfl (by decide) ?_
        refine aw_isub (q := 38) gdX1_byPentagons_36.2.1 rfl ?_
        refine aw_imul (q := 39) gdX1_byPentagons_36.2.2.1 rfl ?_
        refine aw_iconst (q := 40) (v := 2) gdX1_byPentagons_36.2.2.2.1 rfl (by decide) ?_
        refine aw_idivT (q := 41) gdX1_byPentagons_36.2.2.2.2.1 rfl (by decide) ?_
        refine aw_isub (q := 42) gdX1_byPentagons_36.2.2.2.2.2.1 rfl ?_
        refine aw_aload_n (q := 43) gdX1_byPentagons_36.2.2.2.2.2.2.1 rfl 2 rfl ?_
        refine aw_iload_n (q := 44) gdX1_byPentagons_36.2.2.2.2.2.2.2 rfl 3 rfl ?_
        refine aw_call (q := 47) (kc1 := 0) (ks1 := 0) (wc := [(h, .inr (3, [.int ru, .ref a, .int sz_])), (a, .inl (0, 21, .inl f_)), (c, .inr (2, [.int c0, .int c1_, .int c2_, .int c3_, .int c4, .int c5]))]) (wr := []) (st1 := fun x44 g44 => [.int x44.1]) (ws1 := fun x44 g44 => [(h, .inr (3, [.int ru, .ref a, .int x44.2.1])), (a, .inl (0, 21, .inl x44.2.2.1)), (c, .inr (2, [.int c0, .int x44.2.2.2.1, .int x44.2.2.2.2.1, .int x44.2.2.2.2.2, .int c4, .int c5]))]) (As := [.ref h, .int (p0 - ((l5 * (((3 : Int32) * l5) - (1 : Int32))) / (2 : Int32))), .ref c, .int p1]) [0, 1, 2] [] (fun _ => runV (q0 := 0) gdX1_byPentagons_44.1 mi_X1_worthKnown im_X1_worthKnown se_X1_worthKnown ml_X1_28 (by omega) rfl (Nat.le_of_ble_eq_true rfl) rfl rfl rfl rfl) (fun x9 h9 => hrec _ _ _ _ _ _ _ _ _ _ _ x9 h9) rfl rfl rfl rfl rfl (by decide +kernel) (by omega) (by omega) (fun _ _ => rfl) (fun _ _ => rfl) (fun x44 g44 => ?_)
        refine aw_istore (q := 49) (lv' := [(6, .int x44.1), (0, .ref h), (1, .int p0), (2, .ref c), (3, .int p1), (4, .int l4), (5, .int l5)]) gdX1_byPentagons_44.2.1 rfl (by decide) rfl ?_
        refine aw_iload (q := 51) gdX1_byPentagons_44.2.2.1 rfl 6 rfl ?_
        refine aw_iconst (q := 52) (v := 3) gdX1_byPentagons_44.2.2.2.1 rfl (by decide) ?_
        refine aw_iload (q := 54) gdX1_byPentagons_44.2.2.2.2.1 rfl 6 rfl ?_
        refine aw_imul (q := 55) gdX1_byPentagons_44.2.2.2.2.2.1 rfl ?_
        refine aw_iconst (q := 56) (v := 1) gdX1_byPentagons_44.2.2.2.2.2.2.1 rfl (by decide) ?_
        refine aw_iadd (q := 57) gdX1_byPentagons_44.2.2.2.2.2.2.2 rfl ?_
        refine aw_imul (q := 58) gdX1_byPentagons_57.1 rfl ?_
        refine aw_iconst (q := 59) (v := 2) gdX1_byPentagons_57.2.1 rfl (by decide) ?_
        refine aw_idivT (q := 60) gdX1_byPentagons_57.2.2.1 rfl (by decide) ?_
        refine aw_iload_n (q := 61) gdX1_byPentagons_57.2.2.2.1 rfl 2 rfl ?_
        refine aw_icmp_gt (tgt := 88) (q := 64) gdX1_byPentagons_57.2.2.2.2.1 (by decide) rfl (fun h_61 => ?_) (fun h_61 => ?_)
        · refine aw_locals (lv' := [(0, .ref h), (1, .int p0), (2, .ref c), (3, .int p1), (4, .int l4), (5, .int l5), (6, .int x44.1)]) [1, 2, 3, 4, 5, 6, 0] rfl ?_
          exact tX1_byPentagons_88 hrec ih _ _ _ _ _ _ _ _
        · refine aw_iload (q := 66) gdX1_byPentagons_57.2.2.2.2.2.1 rfl 0 rfl ?_
          refine aw_aload_n (q := 67) gdX1_byPentagons_57.2.2.2.2.2.2.1 rfl 1 rfl ?_
          refine aw_iload_n (q := 68) gdX1_byPentagons_57.2.2.2.2.2.2.2 rfl 2 rfl ?_
          refine aw_iload (q := 70) gdX1_byPentagons_68.1 rfl 6 rfl ?_
          refine aw_iconst (q := 71) (v := 3) gdX1_byPentagons_68.2.1 rfl (by decide) ?_
          refine aw_iload (q := 73) gdX1_byPentagons_68.2.2.1 rfl 6 rfl ?_
          refine aw_imul (q := 74) gdX1_byPentagons_68.2.2.2.1 rfl ?_
          refine aw_iconst (q := 75) (v := 1) gdX1_byPentagons_68.2.2.2.2.1 rfl (by decide) ?_
          refine aw_iadd (q := 76) gdX1_byPentagons_68.2.2.2.2.2.1 rfl ?_
          refine aw_imul (q := 77) gdX1_byPentagons_68.2.2.2.2.2.2.1 rfl ?_
          refine aw_iconst (q := 78) (v := 2) gdX1_byPentagons_68.2.2.2.2.2.2.2 rfl (by decide) ?_
          refine aw_idivT (q := 79) gdX1_byPentagons_78.1 rfl (by decide) ?_
          refine aw_isub (q := 80) gdX1_byPentagons_78.2.1 rfl ?_
          refine aw_aload_n (q := 81) gdX1_byPentagons_78.2.2.1 rfl 3 rfl ?_
          refine aw_iload_n (q := 82) gdX1_byPentagons_78.2.2.2.1 rfl 4 rfl ?_
          refine aw_call (q := 85) (kc1 := 0) (ks1 := 0) (wc := [(h, .inr (3, [.int ru, .ref a, .int x44.2.1])), (a, .inl (0, 21, .inl x44.2.2.1)), (c, .inr (2, [.int c0, .int x44.2.2.2.1, .int x44.2.2.2.2.1, .int x44.2.2.2.2.2, .int c4, .int c5]))]) (wr := []) (st1 := fun x82 g82 => [.int x82.1, .int x44.1]) (ws1 := fun x82 g82 => [(h, .inr (3, [.int ru, .ref a, .int x82.2.1])), (a, .inl (0, 21, .inl x82.2.2.1)), (c, .inr (2, [.int c0, .int x82.2.2.2.1, .int x82.2.2.2.2.1, .int x82.2.2.2.2.2, .int c4, .int c5]))]) (As := [.ref h, .int (p0 - ((l5 * (((3 : Int32) * l5) + (1 : Int32))) / (2 : Int32))), .ref c, .int p1]) [0, 1, 2] [] (fun _ => runV (q0 := 0) gdX1_byPentagons_78.2.2.2.2.1 mi_X1_worthKnown im_X1_worthKnown se_X1_worthKnown ml_X1_28 (by omega) rfl (Nat.le_of_ble_eq_true rfl) rfl rfl rfl rfl) (fun x9 h9 => hrec _ _ _ _ _ _ _ _ _ _ _ x9 h9) rfl rfl rfl rfl rfl (by decide +kernel) (by omega) (by omega) (fun _ _ => rfl) (fun _ _ => rfl) (fun x82 g82 => ?_)
          refine aw_iadd (q := 86) gdX1_byPentagons_78.2.2.2.2.2.1 rfl ?_
          refine aw_istore (q := 88) (lv' := [(6, .int (x44.1 + x82.1)), (0, .ref h), (1, .int p0), (2, .ref c), (3, .int p1), (4, .int l4), (5, .int l5)]) gdX1_byPentagons_78.2.2.2.2.2.2.1 rfl (by decide) rfl ?_
          refine aw_locals (lv' := [(0, .ref h), (1, .int p0), (2, .ref c), (3, .int p1), (4, .int l4), (5, .int l5), (6, .int (x44.1 + x82.1))]) [1, 2, 3, 4, 5, 6, 0] rfl ?_
          exact tX1_byPentagons_88 hrec ih _ _ _ _ _ _ _ _
def fX1_byPentagons (N K : Nat) (rec : Int32 → Int32 → (Nat → Int32) → Int32 → Int32 → Int32 → Int32 → Int32 → Int32 → Int32 → Int32 → Option (Int32 × Int32 × (Nat → Int32) × Int32 × Int32 × Int32)) (ru : Int32) (sz : Int32) (f : Nat → Int32) (c0 : Int32) (c1 : Int32) (c2 : Int32) (c3 : Int32) (c4 : Int32) (c5 : Int32) (p0 : Int32) (p1 : Int32) : Option (Int32 × Int32 × (Nat → Int32) × Int32 × Int32 × Int32) :=
  fX1_byPentagons_6 N K rec ru sz f c0 c1 c2 c3 c4 c5 p0 p1  N (0 : Int32) (1 : Int32) sz f c1 c2 c3
set_option maxHeartbeats 4000000 in
set_option maxRecDepth 100000 in
theorem ok_X1_byPentagons {N K : Nat} {h c a : Nat} {ru : Int32} {sz : Int32} {f : Nat → Int32} {c0 : Int32} {c1 : Int32} {c2 : Int32} {c3 : Int32} {c4 : Int32} {c5 : Int32} {p0 : Int32} {p1 : Int32} {rec : Int32 → Int32 → (Nat → Int32) → Int32 → Int32 → Int32 → Int32 → Int32 → Int32 → Int32 → Int32 → Option (Int32 × Int32 × (Nat → Int32) × Int32 × Int32 × Int32)} {dr : Nat} (hrec : ∀ (ru : Int32) (sz : Int32) (f : Nat → Int32) (c0 : Int32) (c1 : Int32) (c2 : Int32) (c3 : Int32) (c4 : Int32) (c5 : Int32) (p0 : Int32) (p1 : Int32) (xr : Int32 × Int32 × (Nat → Int32) × Int32 × Int32 × Int32), rec ru sz f c0 c1 c2 c3 c4 c5 p0 p1 = some xr → OkM yX1_worthKnown (.code yX1_worthKnown cX1_worthKnown 5 (some .int)) (dr) 0 0 [.ref h, .int p0, .ref c, .int p1] [(h, .inr (3, [.int ru, .ref a, .int sz])), (a, .inl (0, 21, .inl f)), (c, .inr (2, [.int c0, .int c1, .int c2, .int c3, .int c4, .int c5]))] ((PN (U := Int32 × Int32 × (Nat → Int32) × Int32 × Int32 × Int32) (fun zz _ => some (.int zz.1)) (fun zz ad => [(h, .inr (3, [.int ru, .ref a, .int zz.2.1])), (a, .inl (0, 21, .inl zz.2.2.1)), (c, .inr (2, [.int c0, .int zz.2.2.2.1, .int zz.2.2.2.2.1, .int zz.2.2.2.2.2, .int c4, .int c5]))])) xr)) {xr : Int32 × Int32 × (Nat → Int32) × Int32 × Int32 × Int32} (hE : fX1_byPentagons N K rec ru sz f c0 c1 c2 c3 c4 c5 p0 p1 = some xr) : OkM yX1_byPentagons (.code yX1_byPentagons cX1_byPentagons 7 (some .int)) (dr + 1) 0 0 [.ref h, .int p0, .ref c, .int p1] [(h, .inr (3, [.int ru, .ref a, .int sz])), (a, .inl (0, 21, .inl f)), (c, .inr (2, [.int c0, .int c1, .int c2, .int c3, .int c4, .int c5]))] ((PN (U := Int32 × Int32 × (Nat → Int32) × Int32 × Int32 × Int32) (fun zz _ => some (.int zz.1)) (fun zz ad => [(h, .inr (3, [.int ru, .ref a, .int zz.2.1])), (a, .inl (0, 21, .inl zz.2.2.1)), (c, .inr (2, [.int c0, .int zz.2.2.2.1, .int zz.2.2.2.2.1, .int zz.2.2.2.2.2, .int c4, .int c5]))])) xr) := by
  refine ok_of (by decide) (Nat.le_of_ble_eq_true rfl) hE ?_
  refine aw_locals (lv' := [(0, .ref h), (1, .int p0), (2, .ref c), (3, .int p1)]) [0, 1, 2, 3] rfl ?_
  refine aw_iconst (q := 1) (v := 0) gdX1_byPentagons_0.1 rfl (by decide) ?_
  refine aw_istore (q := 3) (lv' := [(4, .int (0 : Int32)), (0, .ref h), (1, .int p0), (2, .ref c), (3, .int p1)]) gdX1_byPentagons_0.2.1 rfl (by decide) rfl ?_
  refine aw_iconst (q := 4) (v := 1) gdX1_byPentagons_0.2.2.1 rfl (by decide) ?_
  refine aw_istore (q := 6) (lv' := [(5, .int (1 : Int32)), (4, .int (0 : Int32)), (0, .ref h), (1, .int p0), (2, .ref c), (3, .int p1)]) gdX1_byPentagons_0.2.2.2.1 rfl (by decide) rfl ?_
  refine aw_locals (lv' := [(0, .ref h), (1, .int p0), (2, .ref c), (3, .int p1), (4, .int (0 : Int32)), (5, .int (1 : Int32))]) [2, 3, 4, 5, 1, 0] rfl ?_
  exact tX1_byPentagons_6 hrec N _ _ _ _ _ _ _
def fX1_byDivisors_13 (N K : Nat) (rec : Int32 → Int32 → (Nat → Int32) → Int32 → Int32 → Int32 → Int32 → Int32 → Int32 → Int32 → Int32 → Option (Int32 × Int32 × (Nat → Int32) × Int32 × Int32 × Int32)) (ru : Int32) (sz : Int32) (f : Nat → Int32) (c0 : Int32) (c1 : Int32) (c2 : Int32) (c3 : Int32) (c4 : Int32) (c5 : Int32) (p0 : Int32) (p1 : Int32) : Nat → Int32 → Int32 → Int32 → (Nat → Int32) → Int32 → Int32 → Int32 → Option (Int32 × Int32 × (Nat → Int32) × Int32 × Int32 × Int32)
  | 0, _, _, _, _, _, _, _ => none
  | fu + 1, l4, l5, sz_, f_, c1_, c2_, c3_ =>
    (if p0 < l5 then (if p0 = 0 then none else (some ((l4 / p0), sz_, f_, c1_, c2_, c3_))) else ((rec ru sz_ f_ c0 c1_ c2_ c3_ c4 c5 (p0 - l5) p1).bind (fun x28 => ((fX1_sumOfDivisors N K ru x28.2.1 x28.2.2.1 l5).bind (fun x34 => fX1_byDivisors_13 N K rec ru sz f c0 c1 c2 c3 c4 c5 p0 p1  fu (l4 + (x28.1 * x34)) (l5 + (1 : Int32)) x28.2.1 x28.2.2.1 x28.2.2.2.1 x28.2.2.2.2.1 x28.2.2.2.2.2)))))
set_option maxHeartbeats 4000000 in
set_option maxRecDepth 100000 in
theorem tX1_byDivisors_13 {N K : Nat} {h c a : Nat} {ru : Int32} {sz : Int32} {f : Nat → Int32} {c0 : Int32} {c1 : Int32} {c2 : Int32} {c3 : Int32} {c4 : Int32} {c5 : Int32} {p0 : Int32} {p1 : Int32} {rec : Int32 → Int32 → (Nat → Int32) → Int32 → Int32 → Int32 → Int32 → Int32 → Int32 → Int32 → Int32 → Option (Int32 × Int32 × (Nat → Int32) × Int32 × Int32 × Int32)} {dr : Nat} (hrec : ∀ (ru : Int32) (sz : Int32) (f : Nat → Int32) (c0 : Int32) (c1 : Int32) (c2 : Int32) (c3 : Int32) (c4 : Int32) (c5 : Int32) (p0 : Int32) (p1 : Int32) (xr : Int32 × Int32 × (Nat → Int32) × Int32 × Int32 × Int32), rec ru sz f c0 c1 c2 c3 c4 c5 p0 p1 = some xr → OkM yX1_worthKnown (.code yX1_worthKnown cX1_worthKnown 5 (some .int)) (dr) 0 0 [.ref h, .int p0, .ref c, .int p1] [(h, .inr (3, [.int ru, .ref a, .int sz])), (a, .inl (0, 21, .inl f)), (c, .inr (2, [.int c0, .int c1, .int c2, .int c3, .int c4, .int c5]))] ((PN (U := Int32 × Int32 × (Nat → Int32) × Int32 × Int32 × Int32) (fun zz _ => some (.int zz.1)) (fun zz ad => [(h, .inr (3, [.int ru, .ref a, .int zz.2.1])), (a, .inl (0, 21, .inl zz.2.2.1)), (c, .inr (2, [.int c0, .int zz.2.2.2.1, .int zz.2.2.2.2.1, .int zz.2.2.2.2.2, .int c4, .int c5]))])) xr)) : ∀ (fu : Nat) (l4 : Int32) (l5 : Int32) (sz_ : Int32) (f_ : Nat → Int32) (c1_ : Int32) (c2_ : Int32) (c3_ : Int32), AW RX1 "byDivisors" cX1_byDivisors 6 (some .int) [] (fun _ _ => True) (dr + 1) (PN (U := Int32 × Int32 × (Nat → Int32) × Int32 × Int32 × Int32) (fun zz _ => some (.int zz.1)) (fun zz ad => [(h, .inr (3, [.int ru, .ref a, .int zz.2.1])), (a, .inl (0, 21, .inl zz.2.2.1)), (c, .inr (2, [.int c0, .int zz.2.2.2.1, .int zz.2.2.2.2.1, .int zz.2.2.2.2.2, .int c4, .int c5]))])) 0 0 (fX1_byDivisors_13 N K rec ru sz f c0 c1 c2 c3 c4 c5 p0 p1  fu l4 l5 sz_ f_ c1_ c2_ c3_) 13 [(0, .ref h), (1, .int p0), (2, .ref c), (3, .int p1), (4, .int l4), (5, .int l5)] [] [(h, .inr (3, [.int ru, .ref a, .int sz_])), (a, .inl (0, 21, .inl f_)), (c, .inr (2, [.int c0, .int c1_, .int c2_, .int c3_, .int c4, .int c5]))] := by
  intro fu
  induction fu with
  | zero => intro l4 l5 sz_ f_ c1_ c2_ c3_; exact aw_none
  | succ fu ih =>
    intro l4 l5 sz_ f_ c1_ c2_ c3_
    refine aw_iload (q := 15) gdX1_byDivisors_11.2.1 rfl 5 rfl ?_
    refine aw_iload_n (q := 16) gdX1_byDivisors_11.2.2.1 rfl 1 rfl ?_
    refine aw_icmp_gt (tgt := 47) (q := 19) gdX1_byDivisors_11.2.2.2.1 (by decide) rfl (fun h_16 => ?_) (fun h_16 => ?_)
    · refine aw_iload (q := 49) gdX1_byDivisors_38.2.2.2.2.1 rfl 4 rfl ?_
      refine aw_iload_n (q := 50) gdX1_byDivisors_38.2.2.2.2.2.1 rfl 1 rfl ?_
      refine aw_idiv (q := 51) gdX1_byDivisors_38.2.2.2.2.2.2.1 rfl ?_
      exact aw_ireturn (w := [(h, .inr (3, [.int ru, .ref a, .int sz_])), (a, .inl (0, 21, .inl f_)), (c, .inr (2, [.int c0, .int c1_, .int c2_, .int c3_, .int c4, .int c5]))]) [0, 1, 2] gdX1_byDivisors_38.2.2.2.2.2.2.2 rfl rfl rfl rfl (PN.mk (fun _ => 0) rfl rfl)
    · refine aw_iload (q := 21) gdX1_byDivisors_11.2.2.2.2.1 rfl 4 rfl ?_
      refine aw_aload_n (q := 22) gdX1_byDivisors_11.2.2.2.2.2.1 rfl 0 rfl ?_
      refine aw_iload_n (q := 23) gdX1_byDivisors_11.2.2.2.2.2.2.1 rfl 1 rfl ?_
      refine aw_iload (q := 25) gdX1_byDivisors_11.2.2.2.2.2.2.2 rfl 5 rfl ?_
      refine aw_isub (q := 26) gdX1_byDivisors_25.1 rfl ?_
      refine aw_aload_n (q := 27) gdX1_byDivisors_25.2.1 rfl 2 rfl ?_
      refine aw_iload_n (q := 28) gdX1_byDivisors_25.2.2.1 rfl 3 rfl ?_
      refine aw_call (q := 31) (kc1 := 0) (ks1 := 0) (wc := [(h, .inr (3, [.int ru, .ref a, .int sz_])), (a, .inl (0, 21, .inl f_)), (c, .inr (2, [.int c0, .int c1_, .int c2_, .int c3_, .int c4, .int c5]))]) (wr := []) (st1 := fun x28 g28 => [.int x28.1, .int l4]) (ws1 := fun x28 g28 => [(h, .inr (3, [.int ru, .ref a, .int x28.2.1])), (a, .inl (0, 21, .inl x28.2.2.1)), (c, .inr (2, [.int c0, .int x28.2.2.2.1, .int x28.2.2.2.2.1, .int x28.2.2.2.2.2, .int c4, .int c5]))]) (As := [.ref h, .int (p0 - l5), .ref c, .int p1]) [0, 1, 2] [] (fun _ => runV (q0 := 0) gdX1_byDivisors_25.2.2.2.1 mi_X1_worthKnown im_X1_worthKnown se_X1_worthKnown ml_X1_28 (by omega) rfl (Nat.le_of_ble_eq_true rfl) rfl rfl rfl rfl) (fun x9 h9 => hrec _ _ _ _ _ _ _ _ _ _ _ x9 h9) rfl rfl rfl rfl rfl (by decide +kernel) (by omega) (by omega) (fun _ _ => rfl) (fun _ _ => rfl) (fun x28 g28 => ?_)
      refine aw_aload_n (q := 32) gdX1_byDivisors_25.2.2.2.2.1 rfl 0 rfl ?_
      refine aw_iload (q := 34) gdX1_byDivisors_25.2.2.2.2.2.1 rfl 5 rfl ?_
      refine aw_call (q := 37) (kc1 := 0) (ks1 := 0) (wc := [(h, .inr (3, [.int ru, .ref a, .int x28.2.1])), (a, .inl (0, 21, .inl x28.2.2.1))]) (wr := [(c, .inr (2, [.int c0, .int x28.2.2.2.1, .int x28.2.2.2.2.1, .int x28.2.2.2.2.2, .int c4, .int c5]))]) (st1 := fun x34 g34 => [.int x34, .int x28.1, .int l4]) (ws1 := fun x34 g34 => [(c, .inr (2, [.int c0, .int x28.2.2.2.1, .int x28.2.2.2.2.1, .int x28.2.2.2.2.2, .int c4, .int c5])), (h, .inr (3, [.int ru, .ref a, .int x28.2.1])), (a, .inl (0, 21, .inl x28.2.2.1))]) (As := [.ref h, .int l5]) [0, 1] [2] (fun _ => runV (q0 := 0) gdX1_byDivisors_25.2.2.2.2.2.2.1 mi_X1_sumOfDivisors im_X1_sumOfDivisors se_X1_sumOfDivisors ml_X1_49 (by omega) rfl (Nat.le_of_ble_eq_true rfl) rfl rfl rfl rfl) (fun x9 h9 => ok_X1_sumOfDivisors h9) rfl rfl rfl rfl rfl (by decide +kernel) (by omega) (by omega) (fun _ _ => rfl) (fun _ _ => rfl) (fun x34 g34 => ?_)
      refine aw_imul (q := 38) gdX1_byDivisors_25.2.2.2.2.2.2.2 rfl ?_
      refine aw_iadd (q := 39) gdX1_byDivisors_38.1 rfl ?_
      refine aw_istore (q := 41) (lv' := [(4, .int (l4 + (x28.1 * x34))), (0, .ref h), (1, .int p0), (2, .ref c), (3, .int p1), (5, .int l5)]) gdX1_byDivisors_38.2.1 rfl (by decide) rfl ?_
      refine aw_iinc (q := 44) (v := (l5 + (1 : Int32))) (lv' := [(5, .int (l5 + (1 : Int32))), (4, .int (l4 + (x28.1 * x34))), (0, .ref h), (1, .int p0), (2, .ref c), (3, .int p1)]) gdX1_byDivisors_38.2.2.1 rfl 5 rfl rfl (by decide) rfl ?_
      refine aw_goto (tgt := 13) gdX1_byDivisors_38.2.2.2.1 (by decide) ?_
      refine aw_locals (lv' := [(0, .ref h), (1, .int p0), (2, .ref c), (3, .int p1), (4, .int (l4 + (x28.1 * x34))), (5, .int (l5 + (1 : Int32)))]) [2, 3, 4, 5, 1, 0] rfl ?_
      refine aw_world (ws' := [(h, .inr (3, [.int ru, .ref a, .int x28.2.1])), (a, .inl (0, 21, .inl x28.2.2.1)), (c, .inr (2, [.int c0, .int x28.2.2.2.1, .int x28.2.2.2.2.1, .int x28.2.2.2.2.2, .int c4, .int c5]))]) [1, 2, 0] rfl rfl ?_
      exact ih _ _ _ _ _ _ _
def fX1_byDivisors (N K : Nat) (rec : Int32 → Int32 → (Nat → Int32) → Int32 → Int32 → Int32 → Int32 → Int32 → Int32 → Int32 → Int32 → Option (Int32 × Int32 × (Nat → Int32) × Int32 × Int32 × Int32)) (ru : Int32) (sz : Int32) (f : Nat → Int32) (c0 : Int32) (c1 : Int32) (c2 : Int32) (c3 : Int32) (c4 : Int32) (c5 : Int32) (p0 : Int32) (p1 : Int32) : Option (Int32 × Int32 × (Nat → Int32) × Int32 × Int32 × Int32) :=
  (if (1 : Int32) ≤ p0 then fX1_byDivisors_13 N K rec ru sz f c0 c1 c2 c3 c4 c5 p0 p1  N (0 : Int32) (1 : Int32) sz f c1 c2 c3 else (some ((0 : Int32), sz, f, c1, c2, c3)))
set_option maxHeartbeats 4000000 in
set_option maxRecDepth 100000 in
theorem ok_X1_byDivisors {N K : Nat} {h c a : Nat} {ru : Int32} {sz : Int32} {f : Nat → Int32} {c0 : Int32} {c1 : Int32} {c2 : Int32} {c3 : Int32} {c4 : Int32} {c5 : Int32} {p0 : Int32} {p1 : Int32} {rec : Int32 → Int32 → (Nat → Int32) → Int32 → Int32 → Int32 → Int32 → Int32 → Int32 → Int32 → Int32 → Option (Int32 × Int32 × (Nat → Int32) × Int32 × Int32 × Int32)} {dr : Nat} (hrec : ∀ (ru : Int32) (sz : Int32) (f : Nat → Int32) (c0 : Int32) (c1 : Int32) (c2 : Int32) (c3 : Int32) (c4 : Int32) (c5 : Int32) (p0 : Int32) (p1 : Int32) (xr : Int32 × Int32 × (Nat → Int32) × Int32 × Int32 × Int32), rec ru sz f c0 c1 c2 c3 c4 c5 p0 p1 = some xr → OkM yX1_worthKnown (.code yX1_worthKnown cX1_worthKnown 5 (some .int)) (dr) 0 0 [.ref h, .int p0, .ref c, .int p1] [(h, .inr (3, [.int ru, .ref a, .int sz])), (a, .inl (0, 21, .inl f)), (c, .inr (2, [.int c0, .int c1, .int c2, .int c3, .int c4, .int c5]))] ((PN (U := Int32 × Int32 × (Nat → Int32) × Int32 × Int32 × Int32) (fun zz _ => some (.int zz.1)) (fun zz ad => [(h, .inr (3, [.int ru, .ref a, .int zz.2.1])), (a, .inl (0, 21, .inl zz.2.2.1)), (c, .inr (2, [.int c0, .int zz.2.2.2.1, .int zz.2.2.2.2.1, .int zz.2.2.2.2.2, .int c4, .int c5]))])) xr)) {xr : Int32 × Int32 × (Nat → Int32) × Int32 × Int32 × Int32} (hE : fX1_byDivisors N K rec ru sz f c0 c1 c2 c3 c4 c5 p0 p1 = some xr) : OkM yX1_byDivisors (.code yX1_byDivisors cX1_byDivisors 6 (some .int)) (dr + 1) 0 0 [.ref h, .int p0, .ref c, .int p1] [(h, .inr (3, [.int ru, .ref a, .int sz])), (a, .inl (0, 21, .inl f)), (c, .inr (2, [.int c0, .int c1, .int c2, .int c3, .int c4, .int c5]))] ((PN (U := Int32 × Int32 × (Nat → Int32) × Int32 × Int32 × Int32) (fun zz _ => some (.int zz.1)) (fun zz ad => [(h, .inr (3, [.int ru, .ref a, .int zz.2.1])), (a, .inl (0, 21, .inl zz.2.2.1)), (c, .inr (2, [.int c0, .int zz.2.2.2.1, .int zz.2.2.2.2.1, .int zz.2.2.2.2.2, .int c4, .int c5]))])) xr) := by
  refine ok_of (by decide) (Nat.le_of_ble_eq_true rfl) hE ?_
  refine aw_locals (lv' := [(0, .ref h), (1, .int p0), (2, .ref c), (3, .int p1)]) [0, 1, 2, 3] rfl ?_
  refine aw_iload_n (q := 1) gdX1_byDivisors_0.1 rfl 1 rfl ?_
  refine aw_iconst (q := 2) (v := 1) gdX1_byDivisors_0.2.1 rfl (by decide) ?_
  refine aw_icmp_ge (tgt := 7) (q := 5) gdX1_byDivisors_0.2.2.1 (by decide) rfl (fun h_2 => ?_) (fun h_2 => ?_)
  · refine aw_iconst (q := 8) (v := 0) gdX1_byDivisors_0.2.2.2.2.2.1 rfl (by decide) ?_
    refine aw_istore (q := 10) (lv' := [(4, .int (0 : Int32)), (0, .ref h), (1, .int p0), (2, .ref c), (3, .int p1)]) gdX1_byDivisors_0.2.2.2.2.2.2.1 rfl (by decide) rfl ?_
    refine aw_iconst (q := 11) (v := 1) gdX1_byDivisors_0.2.2.2.2.2.2.2 rfl (by decide) ?_
    refine aw_istore (q := 13) (lv' := [(5, .int (1 : Int32)), (4, .int (0 : Int32)), (0, .ref h), (1, .int p0), (2, .ref c), (3, .int p1)]) gdX1_byDivisors_11.1 rfl (by decide) rfl ?_
    refine aw_locals (lv' := [(0, .ref h), (1, .int p0), (2, .ref c), (3, .int p1), (4, .int (0 : Int32)), (5, .int (1 : Int32))]) [2, 3, 4, 5, 1, 0] rfl ?_
    exact tX1_byDivisors_13 hrec N _ _ _ _ _ _ _
  · refine aw_iconst (q := 6) (v := 0) gdX1_byDivisors_0.2.2.2.1 rfl (by decide) ?_
    exact aw_ireturn (w := [(h, .inr (3, [.int ru, .ref a, .int sz])), (a, .inl (0, 21, .inl f)), (c, .inr (2, [.int c0, .int c1, .int c2, .int c3, .int c4, .int c5]))]) [0, 1, 2] gdX1_byDivisors_0.2.2.2.2.1 rfl rfl rfl rfl (PN.mk (fun _ => 0) rfl rfl)
def fX1_worthKnown (N K : Nat) : Nat → Int32 → Int32 → (Nat → Int32) → Int32 → Int32 → Int32 → Int32 → Int32 → Int32 → Int32 → Int32 → Option (Int32 × Int32 × (Nat → Int32) × Int32 × Int32 × Int32)
  | 0, _, _, _, _, _, _, _, _, _, _, _ => none
  | k + 1, ru, sz, f, c0, c1, c2, c3, c4, c5, p0, p1 =>
    (if p0 = 0 then (some ((1 : Int32), sz, f, c1, c2, c3)) else (if p0 < 0 then (some ((0 : Int32), sz, f, c1, c2, c3)) else (if (20 : Int32) < p0 then (some ((0 : Int32), sz, f, c1, c2, c3)) else (if p1 ≤ (45 : Int32) then (if p0 < 0 ∨ 21 ≤ p0.toNatClampNeg then none else (if (f p0.toNatClampNeg) = (-1 : Int32) then (if ru = 0 then ((fX1_byPentagons N K (fX1_worthKnown N K k) ru sz f c0 (c1 + (1 : Int32)) c2 c3 c4 c5 p0 (p1 + (1 : Int32))).bind (fun x74 => (if p0 < 0 ∨ 21 ≤ p0.toNatClampNeg then none else (some (x74.1, (x74.2.1 + (1 : Int32)), (upd x74.2.2.1 p0.toNatClampNeg x74.1), x74.2.2.2.1, (x74.2.2.2.2.1 + (1 : Int32)), x74.2.2.2.2.2))))) else ((fX1_byDivisors N K (fX1_worthKnown N K k) ru sz f c0 (c1 + (1 : Int32)) c2 c3 c4 c5 p0 (p1 + (1 : Int32))).bind (fun x86 => (if p0 < 0 ∨ 21 ≤ p0.toNatClampNeg then none else (some (x86.1, (x86.2.1 + (1 : Int32)), (upd x86.2.2.1 p0.toNatClampNeg x86.1), x86.2.2.2.1, (x86.2.2.2.2.1 + (1 : Int32)), x86.2.2.2.2.2)))))) else (if p0 < 0 ∨ 21 ≤ p0.toNatClampNeg then none else (some ((f p0.toNatClampNeg), sz, f, (c1 + (1 : Int32)), c2, (c3 + (1 : Int32))))))) else (some ((0 : Int32), sz, f, c1, c2, c3))))))
set_option maxHeartbeats 4000000 in
set_option maxRecDepth 100000 in
theorem ok_X1_worthKnown {N K : Nat} : ∀ (k : Nat) (h c a : Nat) (ru : Int32) (sz : Int32) (f : Nat → Int32) (c0 : Int32) (c1 : Int32) (c2 : Int32) (c3 : Int32) (c4 : Int32) (c5 : Int32) (p0 : Int32) (p1 : Int32) (xr : Int32 × Int32 × (Nat → Int32) × Int32 × Int32 × Int32), fX1_worthKnown N K k ru sz f c0 c1 c2 c3 c4 c5 p0 p1 = some xr → OkM yX1_worthKnown (.code yX1_worthKnown cX1_worthKnown 5 (some .int)) (2 * k + 4) 0 0 [.ref h, .int p0, .ref c, .int p1] [(h, .inr (3, [.int ru, .ref a, .int sz])), (a, .inl (0, 21, .inl f)), (c, .inr (2, [.int c0, .int c1, .int c2, .int c3, .int c4, .int c5]))] ((PN (U := Int32 × Int32 × (Nat → Int32) × Int32 × Int32 × Int32) (fun zz _ => some (.int zz.1)) (fun zz ad => [(h, .inr (3, [.int ru, .ref a, .int zz.2.1])), (a, .inl (0, 21, .inl zz.2.2.1)), (c, .inr (2, [.int c0, .int zz.2.2.2.1, .int zz.2.2.2.2.1, .int zz.2.2.2.2.2, .int c4, .int c5]))])) xr) := by
  intro k
  induction k with
  | zero => intro h c a ru sz f c0 c1 c2 c3 c4 c5 p0 p1 xr hE; cases hE
  | succ k ih =>
    intro h c a ru sz f c0 c1 c2 c3 c4 c5 p0 p1 xr hE
    refine ok_of (by decide) (Nat.le_of_ble_eq_true rfl) hE ?_
    refine aw_locals (lv' := [(0, .ref h), (1, .int p0), (2, .ref c), (3, .int p1)]) [0, 1, 2, 3] rfl ?_
    refine aw_iload_n (q := 1) gdX1_worthKnown_0.1 rfl 1 rfl ?_
    refine aw_if_ne (tgt := 6) (q := 4) gdX1_worthKnown_0.2.1 (by decide) rfl (fun h_1 => ?_) (fun h_1 => ?_)
    · refine aw_iload_n (q := 7) gdX1_worthKnown_0.2.2.2.2.1 rfl 1 rfl ?_
      refine aw_if_lt (tgt := 22) (q := 10) gdX1_worthKnown_0.2.2.2.2.2.1 (by decide) rfl (fun h_7 => ?_) (fun h_7 => ?_)
      · refine aw_iconst (q := 23) (v := 0) gdX1_worthKnown_13.2.2.2.2.1 rfl (by decide) ?_
        exact aw_ireturn (w := [(h, .inr (3, [.int ru, .ref a, .int sz])), (a, .inl (0, 21, .inl f)), (c, .inr (2, [.int c0, .int c1, .int c2, .int c3, .int c4, .int c5]))]) [0, 1, 2] gdX1_worthKnown_13.2.2.2.2.2.1 rfl rfl rfl rfl (PN.mk (fun _ => 0) rfl rfl)
      · refine aw_iload_n (q := 11) gdX1_worthKnown_0.2.2.2.2.2.2.1 rfl 1 rfl ?_
        refine aw_bipush (q := 13) (v := 20) gdX1_worthKnown_0.2.2.2.2.2.2.2 rfl (by decide) ?_
        refine aw_icmp_gt (tgt := 22) (q := 16) gdX1_worthKnown_13.1 (by decide) rfl (fun h_13 => ?_) (fun h_13 => ?_)
        · refine aw_iconst (q := 23) (v := 0) gdX1_worthKnown_13.2.2.2.2.1 rfl (by decide) ?_
          exact aw_ireturn (w := [(h, .inr (3, [.int ru, .ref a, .int sz])), (a, .inl (0, 21, .inl f)), (c, .inr (2, [.int c0, .int c1, .int c2, .int c3, .int c4, .int c5]))]) [0, 1, 2] gdX1_worthKnown_13.2.2.2.2.2.1 rfl rfl rfl rfl (PN.mk (fun _ => 0) rfl rfl)
        · refine aw_iload_n (q := 17) gdX1_worthKnown_13.2.1 rfl 3 rfl ?_
          refine aw_bipush (q := 19) (v := 45) gdX1_worthKnown_13.2.2.1 rfl (by decide) ?_
          refine aw_icmp_le (tgt := 24) (q := 22) gdX1_worthKnown_13.2.2.2.1 (by decide) rfl (fun h_19 => ?_) (fun h_19 => ?_)
          · refine aw_aload_n (q := 25) gdX1_worthKnown_13.2.2.2.2.2.2.1 rfl 2 rfl ?_
            refine aw_dup (q := 26) gdX1_worthKnown_13.2.2.2.2.2.2.2 rfl rfl ?_
            refine aw_get (q := 29) gdX1_worthKnown_26.1 rfl fl_X1_32 2 rfl rfl ?_
            refine aw_iconst (q := 30) (v := 1) gdX1_worthKnown_26.2.1 rfl (by decide) ?_
            refine aw_iadd (q := 31) gdX1_worthKnown_26.2.2.1 rfl ?_
            refine aw_put (q := 34) (ws' := [(h, .inr (3, [.int ru, .ref a, .int sz])), (a, .inl (0, 21, .inl f)), (c, .inr (2, [.int c0, .int (c1 + (1 : Int32)), .int c2, .int c3, .int c4, .int c5]))]) gdX1_worthKnown_26.2.2.2.1 rfl fl_X1_32 2 rfl rfl rfl (Nat.le_of_ble_eq_true rfl) rfl ?_
            refine aw_aload_n (q := 35) gdX1_worthKnown_26.2.2.2.2.1 rfl 0 rfl ?_
            refine aw_get (q := 38) gdX1_worthKnown_26.2.2.2.2.2.1 rfl fl_X1_9 0 rfl rfl ?_
            refine aw_iload_n (q := 39) gdX1_worthKnown_26.2.2.2.2.2.2.1 rfl 1 rfl ?_
            refine aw_iald (q := 40) gdX1_worthKnown_26.2.2.2.2.2.2.2 rfl 1 rfl ?_
            refine aw_iconst (q := 41) (v := (-1)) gdX1_worthKnown_40.1 rfl (by decide) ?_
            refine aw_icmp_eq (tgt := 61) (q := 44) gdX1_worthKnown_40.2.1 (by decide) rfl (fun h_41 => ?_) (fun h_41 => ?_)
            · refine aw_aload_n (q := 62) gdX1_worthKnown_54.2.2.2.2.2.1 rfl 0 rfl ?_
              refine aw_get (q := 65) gdX1_worthKnown_54.2.2.2.2.2.2.1 rfl fl_X1_15 0 rfl rfl ?_
              refine aw_if_ne (tgt := 80) (q := 68) gdX1_worthKnown_54.2.2.2.2.2.2.2 (by decide) rfl (fun h_65 => ?_) (fun h_65 => ?_)
              · refine aw_aload_n (q := 81) gdX1_worthKnown_80.1 rfl 0 rfl ?_
                refine aw_iload_n (q := 82) gdX1_worthKnown_80.2.1 rfl 1 rfl ?_
                refine aw_aload_n (q := 83) gdX1_worthKnown_80.2.2.1 rfl 2 rfl ?_
                refine aw_iload_n (q := 84) gdX1_worthKnown_80.2.2.2.1 rfl 3 rfl ?_
                refine aw_iconst (q := 85) (v := 1) gdX1_worthKnown_80.2.2.2.2.1 rfl (by decide) ?_
                refine aw_iadd (q := 86) gdX1_worthKnown_80.2.2.2.2.2.1 rfl ?_
                refine aw_call (q := 89) (kc1 := 0) (ks1 := 0) (wc := [(h, .inr (3, [.int ru, .ref a, .int sz])), (a, .inl (0, 21, .inl f)), (c, .inr (2, [.int c0, .int (c1 + (1 : Int32)), .int c2, .int c3, .int c4, .int c5]))]) (wr := []) (st1 := fun x86 g86 => [.int x86.1]) (ws1 := fun x86 g86 => [(h, .inr (3, [.int ru, .ref a, .int x86.2.1])), (a, .inl (0, 21, .inl x86.2.2.1)), (c, .inr (2, [.int c0, .int x86.2.2.2.1, .int x86.2.2.2.2.1, .int x86.2.2.2.2.2, .int c4, .int c5]))]) (As := [.ref h, .int p0, .ref c, .int (p1 + (1 : Int32))]) [0, 1, 2] [] (fun _ => runV (q0 := 0) gdX1_worthKnown_80.2.2.2.2.2.2.1 mi_X1_byDivisors im_X1_byDivisors se_X1_byDivisors ml_X1_43 (by omega) rfl (Nat.le_of_ble_eq_true rfl) rfl rfl rfl rfl) (fun x9 h9 => ok_X1_byDivisors (fun _ _ _ _ _ _ _ _ _ _ _ x8 h8 => ih _ _ _ _ _ _ _ _ _ _ _ _ _ _ x8 h8) h9) rfl rfl rfl rfl rfl (by decide +kernel) (by omega) (by omega) (fun _ _ => rfl) (fun _ _ => rfl) (fun x86 g86 => ?_)
                refine aw_istore (q := 91) (lv' := [(4, .int x86.1), (0, .ref h), (1, .int p0), (2, .ref c), (3, .int p1)]) gdX1_worthKnown_80.2.2.2.2.2.2.2 rfl (by decide) rfl ?_
                refine aw_aload_n (q := 92) gdX1_worthKnown_91.1 rfl 1 rfl ?_
                refine aw_get (q := 95) gdX1_worthKnown_91.2.1 rfl fl_X1_9 0 rfl rfl ?_
                refine aw_iload_n (q := 96) gdX1_worthKnown_91.2.2.1 rfl 2 rfl ?_
                refine aw_iload (q := 98) gdX1_worthKnown_91.2.2.2.1 rfl 0 rfl ?_
                refine aw_iast (q := 99) (ws' := [(h, .inr (3, [.int ru, .ref a, .int x86.2.1])), (a, .inl (0, 21, .inl (upd x86.2.2.1 p0.toNatClampNeg x86.1))), (c, .inr (2, [.int c0, .int x86.2.2.2.1, .int x86.2.2.2.2.1, .int x86.2.2.2.2.2, .int c4, .int c5]))]) gdX1_worthKnown_91.2.2.2.2.1 rfl 1 rfl rfl ?_
                refine aw_aload_n (q := 100) gdX1_worthKnown_91.2.2.2.2.2.1 rfl 1 rfl ?_
                refine aw_dup (q := 101) gdX1_worthKnown_91.2.2.2.2.2.2.1 rfl rfl ?_
                refine aw_get (q := 104) gdX1_worthKnown_91.2.2.2.2.2.2.2 rfl fl_X1_25 0 rfl rfl ?_
                refine aw_iconst (q := 105) (v := 1) gdX1_worthKnown_104.1 rfl (by decide) ?_
                refine aw_iadd (q := 106) gdX1_worthKnown_104.2.1 rfl ?_
                refine aw_put (q := 109) (ws' := [(h, .inr (3, [.int ru, .ref a, .int (x86.2.1 + (1 : Int32))])), (a, .inl (0, 21, .inl (upd x86.2.2.1 p0.toNatClampNeg x86.1))), (c, .inr (2, [.int c0, .int x86.2.2.2.1, .int x86.2.2.2.2.1, .int x86.2.2.2.2.2, .int c4, .int c5]))]) gdX1_worthKnown_104.2.2.1 rfl fl_X1_25 0 rfl rfl rfl (Nat.le_of_ble_eq_true rfl) rfl ?_
                refine aw_aload_n (q := 110) gdX1_worthKnown_104.2.2.2.1 rfl 3 rfl ?_
                refine aw_dup (q := 111) gdX1_worthKnown_104.2.2.2.2.1 rfl rfl ?_
                refine aw_get (q := 114) gdX1_worthKnown_104.2.2.2.2.2.1 rfl fl_X1_46 2 rfl rfl ?_
                refine aw_iconst (q := 115) (v := 1) gdX1_worthKnown_104.2.2.2.2.2.2.1 rfl (by decide) ?_
                refine aw_iadd (q := 116) gdX1_worthKnown_104.2.2.2.2.2.2.2 rfl ?_
                refine aw_put (q := 119) (ws' := [(h, .inr (3, [.int ru, .ref a, .int (x86.2.1 + (1 : Int32))])), (a, .inl (0, 21, .inl (upd x86.2.2.1 p0.toNatClampNeg x86.1))), (c, .inr (2, [.int c0, .int x86.2.2.2.1, .int (x86.2.2.2.2.1 + (1 : Int32)), .int x86.2.2.2.2.2, .int c4, .int c5]))]) gdX1_worthKnown_116.1 rfl fl_X1_46 2 rfl rfl rfl (Nat.le_of_ble_eq_true rfl) rfl ?_
                refine aw_iload (q := 121) gdX1_worthKnown_116.2.1 rfl 0 rfl ?_
                exact aw_ireturn (w := [(h, .inr (3, [.int ru, .ref a, .int (x86.2.1 + (1 : Int32))])), (a, .inl (0, 21, .inl (upd x86.2.2.1 p0.toNatClampNeg x86.1))), (c, .inr (2, [.int c0, .int x86.2.2.2.1, .int (x86.2.2.2.2.1 + (1 : Int32)), .int x86.2.2.2.2.2, .int c4, .int c5]))]) [0, 1, 2] gdX1_worthKnown_116.2.2 rfl rfl rfl rfl (PN.mk (fun _ => 0) rfl rfl)
              · refine aw_aload_n (q := 69) gdX1_worthKnown_68.1 rfl 0 rfl ?_
                refine aw_iload_n (q := 70) gdX1_worthKnown_68.2.1 rfl 1 rfl ?_
                refine aw_aload_n (q := 71) gdX1_worthKnown_68.2.2.1 rfl 2 rfl ?_
                refine aw_iload_n (q := 72) gdX1_worthKnown_68.2.2.2.1 rfl 3 rfl ?_
                refine aw_iconst (q := 73) (v := 1) gdX1_worthKnown_68.2.2.2.2.1 rfl (by decide) ?_
                refine aw_iadd (q := 74) gdX1_worthKnown_68.2.2.2.2.2.1 rfl ?_
                refine aw_call (q := 77) (kc1 := 0) (ks1 := 0) (wc := [(h, .inr (3, [.int ru, .ref a, .int sz])), (a, .inl (0, 21, .inl f)), (c, .inr (2, [.int c0, .int (c1 + (1 : Int32)), .int c2, .int c3, .int c4, .int c5]))]) (wr := []) (st1 := fun x74 g74 => [.int x74.1]) (ws1 := fun x74 g74 => [(h, .inr (3, [.int ru, .ref a, .int x74.2.1])), (a, .inl (0, 21, .inl x74.2.2.1)), (c, .inr (2, [.int c0, .int x74.2.2.2.1, .int x74.2.2.2.2.1, .int x74.2.2.2.2.2, .int c4, .int c5]))]) (As := [.ref h, .int p0, .ref c, .int (p1 + (1 : Int32))]) [0, 1, 2] [] (fun _ => runV (q0 := 0) gdX1_worthKnown_68.2.2.2.2.2.2.1 mi_X1_byPentagons im_X1_byPentagons se_X1_byPentagons ml_X1_40 (by omega) rfl (Nat.le_of_ble_eq_true rfl) rfl rfl rfl rfl) (fun x9 h9 => ok_X1_byPentagons (fun _ _ _ _ _ _ _ _ _ _ _ x8 h8 => ih _ _ _ _ _ _ _ _ _ _ _ _ _ _ x8 h8) h9) rfl rfl rfl rfl rfl (by decide +kernel) (by omega) (by omega) (fun _ _ => rfl) (fun _ _ => rfl) (fun x74 g74 => ?_)
                refine aw_goto (tgt := 89) gdX1_worthKnown_68.2.2.2.2.2.2.2 (by decide) ?_
                refine aw_istore (q := 91) (lv' := [(4, .int x74.1), (0, .ref h), (1, .int p0), (2, .ref c), (3, .int p1)]) gdX1_worthKnown_80.2.2.2.2.2.2.2 rfl (by decide) rfl ?_
                refine aw_aload_n (q := 92) gdX1_worthKnown_91.1 rfl 1 rfl ?_
                refine aw_get (q := 95) gdX1_worthKnown_91.2.1 rfl fl_X1_9 0 rfl rfl ?_
                refine aw_iload_n (q := 96) gdX1_worthKnown_91.2.2.1 rfl 2 rfl ?_
                refine aw_iload (q := 98) gdX1_worthKnown_91.2.2.2.1 rfl 0 rfl ?_
                refine aw_iast (q := 99) (ws' := [(h, .inr (3, [.int ru, .ref a, .int x74.2.1])), (a, .inl (0, 21, .inl (upd x74.2.2.1 p0.toNatClampNeg x74.1))), (c, .inr (2, [.int c0, .int x74.2.2.2.1, .int x74.2.2.2.2.1, .int x74.2.2.2.2.2, .int c4, .int c5]))]) gdX1_worthKnown_91.2.2.2.2.1 rfl 1 rfl rfl ?_
                refine aw_aload_n (q := 100) gdX1_worthKnown_91.2.2.2.2.2.1 rfl 1 rfl ?_
                refine aw_dup (q := 101) gdX1_worthKnown_91.2.2.2.2.2.2.1 rfl rfl ?_
                refine aw_get (q := 104) gdX1_worthKnown_91.2.2.2.2.2.2.2 rfl fl_X1_25 0 rfl rfl ?_
                refine aw_iconst (q := 105) (v := 1) gdX1_worthKnown_104.1 rfl (by decide) ?_
                refine aw_iadd (q := 106) gdX1_worthKnown_104.2.1 rfl ?_
                refine aw_put (q := 109) (ws' := [(h, .inr (3, [.int ru, .ref a, .int (x74.2.1 + (1 : Int32))])), (a, .inl (0, 21, .inl (upd x74.2.2.1 p0.toNatClampNeg x74.1))), (c, .inr (2, [.int c0, .int x74.2.2.2.1, .int x74.2.2.2.2.1, .int x74.2.2.2.2.2, .int c4, .int c5]))]) gdX1_worthKnown_104.2.2.1 rfl fl_X1_25 0 rfl rfl rfl (Nat.le_of_ble_eq_true rfl) rfl ?_
                refine aw_aload_n (q := 110) gdX1_worthKnown_104.2.2.2.1 rfl 3 rfl ?_
                refine aw_dup (q := 111) gdX1_worthKnown_104.2.2.2.2.1 rfl rfl ?_
                refine aw_get (q := 114) gdX1_worthKnown_104.2.2.2.2.2.1 rfl fl_X1_46 2 rfl rfl ?_
                refine aw_iconst (q := 115) (v := 1) gdX1_worthKnown_104.2.2.2.2.2.2.1 rfl (by decide) ?_
                refine aw_iadd (q := 116) gdX1_worthKnown_104.2.2.2.2.2.2.2 rfl ?_
                refine aw_put (q := 119) (ws' := [(h, .inr (3, [.int ru, .ref a, .int (x74.2.1 + (1 : Int32))])), (a, .inl (0, 21, .inl (upd x74.2.2.1 p0.toNatClampNeg x74.1))), (c, .inr (2, [.int c0, .int x74.2.2.2.1, .int (x74.2.2.2.2.1 + (1 : Int32)), .int x74.2.2.2.2.2, .int c4, .int c5]))]) gdX1_worthKnown_116.1 rfl fl_X1_46 2 rfl rfl rfl (Nat.le_of_ble_eq_true rfl) rfl ?_
                refine aw_iload (q := 121) gdX1_worthKnown_116.2.1 rfl 0 rfl ?_
                exact aw_ireturn (w := [(h, .inr (3, [.int ru, .ref a, .int (x74.2.1 + (1 : Int32))])), (a, .inl (0, 21, .inl (upd x74.2.2.1 p0.toNatClampNeg x74.1))), (c, .inr (2, [.int c0, .int x74.2.2.2.1, .int (x74.2.2.2.2.1 + (1 : Int32)), .int x74.2.2.2.2.2, .int c4, .int c5]))]) [0, 1, 2] gdX1_worthKnown_116.2.2 rfl rfl rfl rfl (PN.mk (fun _ => 0) rfl rfl)
            · refine aw_aload_n (q := 45) gdX1_worthKnown_40.2.2.1 rfl 2 rfl ?_
              refine aw_dup (q := 46) gdX1_worthKnown_40.2.2.2.1 rfl rfl ?_
              refine aw_get (q := 49) gdX1_worthKnown_40.2.2.2.2.1 rfl fl_X1_37 2 rfl rfl ?_
              refine aw_iconst (q := 50) (v := 1) gdX1_worthKnown_40.2.2.2.2.2.1 rfl (by decide) ?_
              refine aw_iadd (q := 51) gdX1_worthKnown_40.2.2.2.2.2.2.1 rfl ?_
              refine aw_put (q := 54) (ws' := [(h, .inr (3, [.int ru, .ref a, .int sz])), (a, .inl (0, 21, .inl f)), (c, .inr (2, [.int c0, .int (c1 + (1 : Int32)), .int c2, .int (c3 + (1 : Int32)), .int c4, .int c5]))]) gdX1_worthKnown_40.2.2.2.2.2.2.2 rfl fl_X1_37 2 rfl rfl rfl (Nat.le_of_ble_eq_true rfl) rfl ?_
              refine aw_aload_n (q := 55) gdX1_worthKnown_54.1 rfl 0 rfl ?_
              refine aw_get (q := 58) gdX1_worthKnown_54.2.1 rfl fl_X1_9 0 rfl rfl ?_
              refine aw_iload_n (q := 59) gdX1_worthKnown_54.2.2.1 rfl 1 rfl ?_
              refine aw_iald (q := 60) gdX1_worthKnown_54.2.2.2.1 rfl 1 rfl ?_
              exact aw_ireturn (w := [(h, .inr (3, [.int ru, .ref a, .int sz])), (a, .inl (0, 21, .inl f)), (c, .inr (2, [.int c0, .int (c1 + (1 : Int32)), .int c2, .int (c3 + (1 : Int32)), .int c4, .int c5]))]) [0, 1, 2] gdX1_worthKnown_54.2.2.2.2.1 rfl rfl rfl rfl (PN.mk (fun _ => 0) rfl rfl)
          · refine aw_iconst (q := 23) (v := 0) gdX1_worthKnown_13.2.2.2.2.1 rfl (by decide) ?_
            exact aw_ireturn (w := [(h, .inr (3, [.int ru, .ref a, .int sz])), (a, .inl (0, 21, .inl f)), (c, .inr (2, [.int c0, .int c1, .int c2, .int c3, .int c4, .int c5]))]) [0, 1, 2] gdX1_worthKnown_13.2.2.2.2.2.1 rfl rfl rfl rfl (PN.mk (fun _ => 0) rfl rfl)
    · refine aw_iconst (q := 5) (v := 1) gdX1_worthKnown_0.2.2.1 rfl (by decide) ?_
      exact aw_ireturn (w := [(h, .inr (3, [.int ru, .ref a, .int sz])), (a, .inl (0, 21, .inl f)), (c, .inr (2, [.int c0, .int c1, .int c2, .int c3, .int c4, .int c5]))]) [0, 1, 2] gdX1_worthKnown_0.2.2.2.1 rfl rfl rfl rfl (PN.mk (fun _ => 0) rfl rfl)
def fX1_recall (N K : Nat) (ru : Int32) (sz : Int32) (f : Nat → Int32) (c0 : Int32) (c1 : Int32) (c2 : Int32) (c3 : Int32) (c4 : Int32) (c5 : Int32) (p0 : Int32) : Option (Int32 × Int32 × (Nat → Int32) × Int32 × Int32 × Int32) :=
  ((fX1_worthKnown N K K ru sz f c0 c1 c2 c3 c4 c5 p0 (0 : Int32)).bind (fun x4 => (some (x4.1, x4.2.1, x4.2.2.1, x4.2.2.2.1, x4.2.2.2.2.1, x4.2.2.2.2.2))))
set_option maxHeartbeats 4000000 in
set_option maxRecDepth 100000 in
theorem ok_X1_recall {N K : Nat} {h c a : Nat} {ru : Int32} {sz : Int32} {f : Nat → Int32} {c0 : Int32} {c1 : Int32} {c2 : Int32} {c3 : Int32} {c4 : Int32} {c5 : Int32} {p0 : Int32} {xr : Int32 × Int32 × (Nat → Int32) × Int32 × Int32 × Int32} (hE : fX1_recall N K ru sz f c0 c1 c2 c3 c4 c5 p0 = some xr) : OkM yX1_recall (.code yX1_recall cX1_recall 3 (some .int)) (2 * K + 5) 0 0 [.ref h, .int p0, .ref c] [(h, .inr (3, [.int ru, .ref a, .int sz])), (a, .inl (0, 21, .inl f)), (c, .inr (2, [.int c0, .int c1, .int c2, .int c3, .int c4, .int c5]))] ((PN (U := Int32 × Int32 × (Nat → Int32) × Int32 × Int32 × Int32) (fun zz _ => some (.int zz.1)) (fun zz ad => [(h, .inr (3, [.int ru, .ref a, .int zz.2.1])), (a, .inl (0, 21, .inl zz.2.2.1)), (c, .inr (2, [.int c0, .int zz.2.2.2.1, .int zz.2.2.2.2.1, .int zz.2.2.2.2.2, .int c4, .int c5]))])) xr) := by
  refine ok_of (by decide) (Nat.le_of_ble_eq_true rfl) hE ?_
  refine aw_locals (lv' := [(0, .ref h), (1, .int p0), (2, .ref c)]) [0, 1, 2] rfl ?_
  refine aw_aload_n (q := 1) gdX1_recall_0.1 rfl 0 rfl ?_
  refine aw_iload_n (q := 2) gdX1_recall_0.2.1 rfl 1 rfl ?_
  refine aw_aload_n (q := 3) gdX1_recall_0.2.2.1 rfl 2 rfl ?_
  refine aw_iconst (q := 4) (v := 0) gdX1_recall_0.2.2.2.1 rfl (by decide) ?_
  refine aw_call (q := 7) (kc1 := 0) (ks1 := 0) (wc := [(h, .inr (3, [.int ru, .ref a, .int sz])), (a, .inl (0, 21, .inl f)), (c, .inr (2, [.int c0, .int c1, .int c2, .int c3, .int c4, .int c5]))]) (wr := []) (st1 := fun x4 g4 => [.int x4.1]) (ws1 := fun x4 g4 => [(h, .inr (3, [.int ru, .ref a, .int x4.2.1])), (a, .inl (0, 21, .inl x4.2.2.1)), (c, .inr (2, [.int c0, .int x4.2.2.2.1, .int x4.2.2.2.2.1, .int x4.2.2.2.2.2, .int c4, .int c5]))]) (As := [.ref h, .int p0, .ref c, .int (0 : Int32)]) [0, 1, 2] [] (fun _ => runV (q0 := 0) gdX1_recall_0.2.2.2.2.1 mi_X1_worthKnown im_X1_worthKnown se_X1_worthKnown ml_X1_28 (by omega) rfl (Nat.le_of_ble_eq_true rfl) rfl rfl rfl rfl) (fun x9 h9 => ok_X1_worthKnown K _ _ _ _ _ _ _ _ _ _ _ _ _ _ x9 h9) rfl rfl rfl rfl rfl (by decide +kernel) (by omega) (by omega) (fun _ _ => rfl) (fun _ _ => rfl) (fun x4 g4 => ?_)
  exact aw_ireturn (w := [(h, .inr (3, [.int ru, .ref a, .int x4.2.1])), (a, .inl (0, 21, .inl x4.2.2.1)), (c, .inr (2, [.int c0, .int x4.2.2.2.1, .int x4.2.2.2.2.1, .int x4.2.2.2.2.2, .int c4, .int c5]))]) [0, 1, 2] gdX1_recall_0.2.2.2.2.2 rfl rfl rfl rfl (PN.mk (fun _ => 0) rfl rfl)
