def fJ_fill_5 (N K : Nat) (n : Nat) (f : Nat → Int32) (v : Int32) : Nat → Int32 → Int32 → (Nat → Int32) → Option ((Nat → Int32))
  | 0, _, _, _ => none
  | fu + 1, l2, l3, f_ =>
    (if l3 ≤ l2 then (some f_) else (if l2 < 0 ∨ n ≤ l2.toNatClampNeg then none else fJ_fill_5 N K n f v  fu (l2 + (1 : Int32)) l3 (upd f_ l2.toNatClampNeg v)))
set_option maxHeartbeats 4000000 in
set_option maxRecDepth 100000 in
theorem tJ_fill_5 {N K : Nat} {a : Nat} {n : Nat} {f : Nat → Int32} {v : Int32} : ∀ (fu : Nat) (l2 : Int32) (l3 : Int32) (f_ : Nat → Int32), AW RJ7 "fill" cJ7_fill_53178 4 none [] (fun _ _ => True) (0) (PN (U := (Nat → Int32)) (fun _ _ => none) (fun zz ad => [(a, .inl (0, n, .inl zz))])) 0 0 (fJ_fill_5 N K n f v  fu l2 l3 f_) 5 [(0, .ref a), (1, .int v), (2, .int l2), (3, .int l3)] [] [(a, .inl (0, n, .inl f_))] := by
  intro fu
  induction fu with
  | zero => intro l2 l3 f_; exact aw_none
  | succ fu ih =>
    intro l2 l3 f_
    refine aw_iload_n (q := 6) gdJ7_fill_53178_0.2.2.2.2.2.1 rfl 2 rfl ?_
    refine aw_iload_n (q := 7) gdJ7_fill_53178_0.2.2.2.2.2.2.1 rfl 3 rfl ?_
    refine aw_icmp_ge (tgt := 20) (q := 10) gdJ7_fill_53178_0.2.2.2.2.2.2.2 (by decide) rfl (fun h_7 => ?_) (fun h_7 => ?_)
    · exact aw_return (w := [(a, .inl (0, n, .inl f_))]) [0] gdJ7_fill_53178_10.2.2.2.2.2.2 rfl rfl rfl (PN.mk (fun _ => 0) rfl rfl)
    · refine aw_aload_n (q := 11) gdJ7_fill_53178_10.1 rfl 0 rfl ?_
      refine aw_iload_n (q := 12) gdJ7_fill_53178_10.2.1 rfl 2 rfl ?_
      refine aw_iload_n (q := 13) gdJ7_fill_53178_10.2.2.1 rfl 1 rfl ?_
      refine aw_iast (q := 14) (ws' := [(a, .inl (0, n, .inl (upd f_ l2.toNatClampNeg v)))]) gdJ7_fill_53178_10.2.2.2.1 rfl 0 rfl rfl ?_
      refine aw_iinc (q := 17) (v := (l2 + (1 : Int32))) (lv' := [(2, .int (l2 + (1 : Int32))), (0, .ref a), (1, .int v), (3, .int l3)]) gdJ7_fill_53178_10.2.2.2.2.1 rfl 2 rfl rfl (by decide) rfl ?_
      refine aw_goto (tgt := 5) gdJ7_fill_53178_10.2.2.2.2.2.1 (by decide) ?_
      refine aw_locals (lv' := [(0, .ref a), (1, .int v), (2, .int (l2 + (1 : Int32))), (3, .int l3)]) [1, 2, 0, 3] rfl ?_
      exact ih _ _ _
def fJ_fill (N K : Nat) (n : Nat) (f : Nat → Int32) (v : Int32) : Option ((Nat → Int32)) :=
  fJ_fill_5 N K n f v  N (0 : Int32) (Int32.ofNat n) f
set_option maxHeartbeats 4000000 in
set_option maxRecDepth 100000 in
theorem ok_J_fill {N K : Nat} {a : Nat} {n : Nat} {f : Nat → Int32} {v : Int32} {xr : (Nat → Int32)} (hE : fJ_fill N K n f v = some xr) : OkM yJ7_fill_53178 (.code yJ7_fill_53178 cJ7_fill_53178 4 none) (0) 0 0 [.ref a, .int v] [(a, .inl (0, n, .inl f))] ((PN (U := (Nat → Int32)) (fun _ _ => none) (fun zz ad => [(a, .inl (0, n, .inl zz))])) xr) := by
  refine ok_of (by decide) (Nat.le_of_ble_eq_true rfl) hE ?_
  refine aw_locals (lv' := [(0, .ref a), (1, .int v)]) [0, 1] rfl ?_
  refine aw_iconst (q := 1) (v := 0) gdJ7_fill_53178_0.1 rfl (by decide) ?_
  refine aw_istore_n (q := 2) (lv' := [(2, .int (0 : Int32)), (0, .ref a), (1, .int v)]) gdJ7_fill_53178_0.2.1 rfl (by decide) rfl ?_
  refine aw_aload_n (q := 3) gdJ7_fill_53178_0.2.2.1 rfl 1 rfl ?_
  refine aw_alen (q := 4) (v := (Int32.ofNat n)) gdJ7_fill_53178_0.2.2.2.1 rfl 0 rfl (by decide) rfl ?_
  refine aw_istore_n (q := 5) (lv' := [(3, .int (Int32.ofNat n)), (2, .int (0 : Int32)), (0, .ref a), (1, .int v)]) gdJ7_fill_53178_0.2.2.2.2.1 rfl (by decide) rfl ?_
  refine aw_locals (lv' := [(0, .ref a), (1, .int v), (2, .int (0 : Int32)), (3, .int (Int32.ofNat n))]) [2, 3, 1, 0] rfl ?_
  exact tJ_fill_5  N _ _ _
def fX4_timesOf (N K : Nat) (f : Nat → Int32) (p0 : Int32) : Option (Int32) :=
  (if p0 < (1 : Int32) then (some (0 : Int32)) else (if p0 ≤ (20 : Int32) then (if p0 < 0 ∨ 21 ≤ p0.toNatClampNeg then none else (some (f p0.toNatClampNeg))) else (some (0 : Int32))))
set_option maxHeartbeats 4000000 in
set_option maxRecDepth 100000 in
theorem ok_X4_timesOf {N K : Nat} {w a : Nat} {f : Nat → Int32} {p0 : Int32} {xr : Int32} (hE : fX4_timesOf N K f p0 = some xr) : OkM yX4_timesOf (.code yX4_timesOf cX4_timesOf 2 (some .int)) (0) 0 0 [.ref w, .int p0] [(w, .inr (6, [.ref a])), (a, .inl (0, 21, .inl f))] ((PN (U := Int32) (fun zz _ => some (.int zz)) (fun zz ad => [(w, .inr (6, [.ref a])), (a, .inl (0, 21, .inl f))])) xr) := by
  refine ok_of (by decide) (Nat.le_of_ble_eq_true rfl) hE ?_
  refine aw_locals (lv' := [(0, .ref w), (1, .int p0)]) [0, 1] rfl ?_
  refine aw_iload_n (q := 1) gdX4_timesOf_0.1 rfl 1 rfl ?_
  refine aw_iconst (q := 2) (v := 1) gdX4_timesOf_0.2.1 rfl (by decide) ?_
  refine aw_icmp_lt (tgt := 11) (q := 5) gdX4_timesOf_0.2.2.1 (by decide) rfl (fun h_2 => ?_) (fun h_2 => ?_)
  · refine aw_iconst (q := 12) (v := 0) gdX4_timesOf_0.2.2.2.2.2.2.1 rfl (by decide) ?_
    refine aw_goto (tgt := 21) gdX4_timesOf_0.2.2.2.2.2.2.2 (by decide) ?_
    exact aw_ireturn (w := [(w, .inr (6, [.ref a])), (a, .inl (0, 21, .inl f))]) [0, 1] gdX4_timesOf_15.2.2.2.2 rfl rfl rfl rfl (PN.mk (fun _ => 0) rfl rfl)
  · refine aw_iload_n (q := 6) gdX4_timesOf_0.2.2.2.1 rfl 1 rfl ?_
    refine aw_bipush (q := 8) (v := 20) gdX4_timesOf_0.2.2.2.2.1 rfl (by decide) ?_
    refine aw_icmp_le (tgt := 15) (q := 11) gdX4_timesOf_0.2.2.2.2.2.1 (by decide) rfl (fun h_8 => ?_) (fun h_8 => ?_)
    · refine aw_aload_n (q := 16) gdX4_timesOf_15.1 rfl 0 rfl ?_
      refine aw_get (q := 19) gdX4_timesOf_15.2.1 rfl fl_X4_9 0 rfl rfl ?_
      refine aw_iload_n (q := 20) gdX4_timesOf_15.2.2.1 rfl 1 rfl ?_
      refine aw_iald (q := 21) gdX4_timesOf_15.2.2.2.1 rfl 1 rfl ?_
      exact aw_ireturn (w := [(w, .inr (6, [.ref a])), (a, .inl (0, 21, .inl f))]) [0, 1] gdX4_timesOf_15.2.2.2.2 rfl rfl rfl rfl (PN.mk (fun _ => 0) rfl rfl)
    · refine aw_iconst (q := 12) (v := 0) gdX4_timesOf_0.2.2.2.2.2.2.1 rfl (by decide) ?_
      refine aw_goto (tgt := 21) gdX4_timesOf_0.2.2.2.2.2.2.2 (by decide) ?_
      exact aw_ireturn (w := [(w, .inr (6, [.ref a])), (a, .inl (0, 21, .inl f))]) [0, 1] gdX4_timesOf_15.2.2.2.2 rfl rfl rfl rfl (PN.mk (fun _ => 0) rfl rfl)
def fX4_put (N K : Nat) (f : Nat → Int32) (p0 : Int32) (p1 : Int32) : Option ((Nat → Int32)) :=
  (if p0 < (1 : Int32) then (some f) else (if (20 : Int32) < p0 then (some f) else (if p0 < 0 ∨ 21 ≤ p0.toNatClampNeg then none else (if p0 < 0 ∨ 21 ≤ p0.toNatClampNeg then none else (some (upd f p0.toNatClampNeg ((f p0.toNatClampNeg) + p1)))))))
set_option maxHeartbeats 4000000 in
set_option maxRecDepth 100000 in
theorem ok_X4_put {N K : Nat} {w a : Nat} {f : Nat → Int32} {p0 : Int32} {p1 : Int32} {xr : (Nat → Int32)} (hE : fX4_put N K f p0 p1 = some xr) : OkM yX4_put (.code yX4_put cX4_put 3 none) (0) 0 0 [.ref w, .int p0, .int p1] [(w, .inr (6, [.ref a])), (a, .inl (0, 21, .inl f))] ((PN (U := (Nat → Int32)) (fun _ _ => none) (fun zz ad => [(w, .inr (6, [.ref a])), (a, .inl (0, 21, .inl zz))])) xr) := by
  refine ok_of (by decide) (Nat.le_of_ble_eq_true rfl) hE ?_
  refine aw_locals (lv' := [(0, .ref w), (1, .int p0), (2, .int p1)]) [0, 1, 2] rfl ?_
  refine aw_iload_n (q := 1) gdX4_put_0.1 rfl 1 rfl ?_
  refine aw_iconst (q := 2) (v := 1) gdX4_put_0.2.1 rfl (by decide) ?_
  refine aw_icmp_lt (tgt := 21) (q := 5) gdX4_put_0.2.2.1 (by decide) rfl (fun h_2 => ?_) (fun h_2 => ?_)
  · exact aw_return (w := [(w, .inr (6, [.ref a])), (a, .inl (0, 21, .inl f))]) [0, 1] gdX4_put_15.2.2.2.2.2.2 rfl rfl rfl (PN.mk (fun _ => 0) rfl rfl)
  · refine aw_iload_n (q := 6) gdX4_put_0.2.2.2.1 rfl 1 rfl ?_
    refine aw_bipush (q := 8) (v := 20) gdX4_put_0.2.2.2.2.1 rfl (by decide) ?_
    refine aw_icmp_gt (tgt := 21) (q := 11) gdX4_put_0.2.2.2.2.2.1 (by decide) rfl (fun h_8 => ?_) (fun h_8 => ?_)
    · exact aw_return (w := [(w, .inr (6, [.ref a])), (a, .inl (0, 21, .inl f))]) [0, 1] gdX4_put_15.2.2.2.2.2.2 rfl rfl rfl (PN.mk (fun _ => 0) rfl rfl)
    · refine aw_aload_n (q := 12) gdX4_put_0.2.2.2.2.2.2.1 rfl 0 rfl ?_
      refine aw_get (q := 15) gdX4_put_0.2.2.2.2.2.2.2 rfl fl_X4_9 0 rfl rfl ?_
      refine aw_iload_n (q := 16) gdX4_put_15.1 rfl 1 rfl ?_
      refine aw_dup2 (q := 17) gdX4_put_15.2.1 rfl rfl rfl ?_
      refine aw_iald (q := 18) gdX4_put_15.2.2.1 rfl 1 rfl ?_
      refine aw_iload_n (q := 19) gdX4_put_15.2.2.2.1 rfl 2 rfl ?_
      refine aw_iadd (q := 20) gdX4_put_15.2.2.2.2.1 rfl ?_
      refine aw_iast (q := 21) (ws' := [(w, .inr (6, [.ref a])), (a, .inl (0, 21, .inl (upd f p0.toNatClampNeg ((f p0.toNatClampNeg) + p1))))]) gdX4_put_15.2.2.2.2.2.1 rfl 1 rfl rfl ?_
      exact aw_return (w := [(w, .inr (6, [.ref a])), (a, .inl (0, 21, .inl (upd f p0.toNatClampNeg ((f p0.toNatClampNeg) + p1))))]) [0, 1] gdX4_put_15.2.2.2.2.2.2 rfl rfl rfl (PN.mk (fun _ => 0) rfl rfl)
def fX4_sum_4 (N K : Nat) (f : Nat → Int32) : Nat → Int32 → Int32 → Option (Int32)
  | 0, _, _ => none
  | fu + 1, l1, l2 =>
    (if (20 : Int32) < l2 then (some l1) else (if l2 < 0 ∨ 21 ≤ l2.toNatClampNeg then none else fX4_sum_4 N K f  fu (l1 + (l2 * (f l2.toNatClampNeg))) (l2 + (1 : Int32))))
set_option maxHeartbeats 4000000 in
set_option maxRecDepth 100000 in
theorem tX4_sum_4 {N K : Nat} {w a : Nat} {f : Nat → Int32} : ∀ (fu : Nat) (l1 : Int32) (l2 : Int32), AW RX4 "sum" cX4_sum 3 (some .int) [] (fun _ _ => True) (0) (PN (U := Int32) (fun zz _ => some (.int zz)) (fun zz ad => [(w, .inr (6, [.ref a])), (a, .inl (0, 21, .inl f))])) 0 0 (fX4_sum_4 N K f  fu l1 l2) 4 [(0, .ref w), (1, .int l1), (2, .int l2)] [] [(w, .inr (6, [.ref a])), (a, .inl (0, 21, .inl f))] := by
  intro fu
  induction fu with
  | zero => intro l1 l2; exact aw_none
  | succ fu ih =>
    intro l1 l2
    refine aw_iload_n (q := 5) gdX4_sum_0.2.2.2.2.1 rfl 2 rfl ?_
    refine aw_bipush (q := 7) (v := 20) gdX4_sum_0.2.2.2.2.2.1 rfl (by decide) ?_
    refine aw_icmp_gt (tgt := 27) (q := 10) gdX4_sum_0.2.2.2.2.2.2.1 (by decide) rfl (fun h_7 => ?_) (fun h_7 => ?_)
    · refine aw_iload_n (q := 28) gdX4_sum_21.2.2.1 rfl 1 rfl ?_
      exact aw_ireturn (w := [(w, .inr (6, [.ref a])), (a, .inl (0, 21, .inl f))]) [0, 1] gdX4_sum_21.2.2.2 rfl rfl rfl rfl (PN.mk (fun _ => 0) rfl rfl)
    · refine aw_iload_n (q := 11) gdX4_sum_0.2.2.2.2.2.2.2 rfl 1 rfl ?_
      refine aw_iload_n (q := 12) gdX4_sum_11.1 rfl 2 rfl ?_
      refine aw_aload_n (q := 13) gdX4_sum_11.2.1 rfl 0 rfl ?_
      refine aw_get (q := 16) gdX4_sum_11.2.2.1 rfl fl_X4_9 0 rfl rfl ?_
      refine aw_iload_n (q := 17) gdX4_sum_11.2.2.2.1 rfl 2 rfl ?_
      refine aw_iald (q := 18) gdX4_sum_11.2.2.2.2.1 rfl 1 rfl ?_
      refine aw_imul (q := 19) gdX4_sum_11.2.2.2.2.2.1 rfl ?_
      refine aw_iadd (q := 20) gdX4_sum_11.2.2.2.2.2.2.1 rfl ?_
      refine aw_istore_n (q := 21) (lv' := [(1, .int (l1 + (l2 * (f l2.toNatClampNeg)))), (0, .ref w), (2, .int l2)]) gdX4_sum_11.2.2.2.2.2.2.2 rfl (by decide) rfl ?_
      refine aw_iinc (q := 24) (v := (l2 + (1 : Int32))) (lv' := [(2, .int (l2 + (1 : Int32))), (1, .int (l1 + (l2 * (f l2.toNatClampNeg)))), (0, .ref w)]) gdX4_sum_21.1 rfl 2 rfl rfl (by decide) rfl ?_
      refine aw_goto (tgt := 4) gdX4_sum_21.2.1 (by decide) ?_
      refine aw_locals (lv' := [(0, .ref w), (1, .int (l1 + (l2 * (f l2.toNatClampNeg)))), (2, .int (l2 + (1 : Int32)))]) [2, 1, 0] rfl ?_
      exact ih _ _
def fX4_sum (N K : Nat) (f : Nat → Int32) : Option (Int32) :=
  fX4_sum_4 N K f  N (0 : Int32) (1 : Int32)
set_option maxHeartbeats 4000000 in
set_option maxRecDepth 100000 in
theorem ok_X4_sum {N K : Nat} {w a : Nat} {f : Nat → Int32} {xr : Int32} (hE : fX4_sum N K f = some xr) : OkM yX4_sum (.code yX4_sum cX4_sum 3 (some .int)) (0) 0 0 [.ref w] [(w, .inr (6, [.ref a])), (a, .inl (0, 21, .inl f))] ((PN (U := Int32) (fun zz _ => some (.int zz)) (fun zz ad => [(w, .inr (6, [.ref a])), (a, .inl (0, 21, .inl f))])) xr) := by
  refine ok_of (by decide) (Nat.le_of_ble_eq_true rfl) hE ?_
  refine aw_locals (lv' := [(0, .ref w)]) [0] rfl ?_
  refine aw_iconst (q := 1) (v := 0) gdX4_sum_0.1 rfl (by decide) ?_
  refine aw_istore_n (q := 2) (lv' := [(1, .int (0 : Int32)), (0, .ref w)]) gdX4_sum_0.2.1 rfl (by decide) rfl ?_
  refine aw_iconst (q := 3) (v := 1) gdX4_sum_0.2.2.1 rfl (by decide) ?_
  refine aw_istore_n (q := 4) (lv' := [(2, .int (1 : Int32)), (1, .int (0 : Int32)), (0, .ref w)]) gdX4_sum_0.2.2.2.1 rfl (by decide) rfl ?_
  refine aw_locals (lv' := [(0, .ref w), (1, .int (0 : Int32)), (2, .int (1 : Int32))]) [2, 1, 0] rfl ?_
  exact tX4_sum_4  N _ _
def fX4_parts_4 (N K : Nat) (f : Nat → Int32) : Nat → Int32 → Int32 → Option (Int32)
  | 0, _, _ => none
  | fu + 1, l1, l2 =>
    (if (20 : Int32) < l2 then (some l1) else (if l2 < 0 ∨ 21 ≤ l2.toNatClampNeg then none else fX4_parts_4 N K f  fu (l1 + (f l2.toNatClampNeg)) (l2 + (1 : Int32))))
set_option maxHeartbeats 4000000 in
set_option maxRecDepth 100000 in
theorem tX4_parts_4 {N K : Nat} {w a : Nat} {f : Nat → Int32} : ∀ (fu : Nat) (l1 : Int32) (l2 : Int32), AW RX4 "parts" cX4_parts 3 (some .int) [] (fun _ _ => True) (0) (PN (U := Int32) (fun zz _ => some (.int zz)) (fun zz ad => [(w, .inr (6, [.ref a])), (a, .inl (0, 21, .inl f))])) 0 0 (fX4_parts_4 N K f  fu l1 l2) 4 [(0, .ref w), (1, .int l1), (2, .int l2)] [] [(w, .inr (6, [.ref a])), (a, .inl (0, 21, .inl f))] := by
  intro fu
  induction fu with
  | zero => intro l1 l2; exact aw_none
  | succ fu ih =>
    intro l1 l2
    refine aw_iload_n (q := 5) gdX4_parts_0.2.2.2.2.1 rfl 2 rfl ?_
    refine aw_bipush (q := 7) (v := 20) gdX4_parts_0.2.2.2.2.2.1 rfl (by decide) ?_
    refine aw_icmp_gt (tgt := 25) (q := 10) gdX4_parts_0.2.2.2.2.2.2.1 (by decide) rfl (fun h_7 => ?_) (fun h_7 => ?_)
    · refine aw_iload_n (q := 26) gdX4_parts_25.1 rfl 1 rfl ?_
      exact aw_ireturn (w := [(w, .inr (6, [.ref a])), (a, .inl (0, 21, .inl f))]) [0, 1] gdX4_parts_25.2 rfl rfl rfl rfl (PN.mk (fun _ => 0) rfl rfl)
    · refine aw_iload_n (q := 11) gdX4_parts_0.2.2.2.2.2.2.2 rfl 1 rfl ?_
      refine aw_aload_n (q := 12) gdX4_parts_11.1 rfl 0 rfl ?_
      refine aw_get (q := 15) gdX4_parts_11.2.1 rfl fl_X4_9 0 rfl rfl ?_
      refine aw_iload_n (q := 16) gdX4_parts_11.2.2.1 rfl 2 rfl ?_
      refine aw_iald (q := 17) gdX4_parts_11.2.2.2.1 rfl 1 rfl ?_
      refine aw_iadd (q := 18) gdX4_parts_11.2.2.2.2.1 rfl ?_
      refine aw_istore_n (q := 19) (lv' := [(1, .int (l1 + (f l2.toNatClampNeg))), (0, .ref w), (2, .int l2)]) gdX4_parts_11.2.2.2.2.2.1 rfl (by decide) rfl ?_
      refine aw_iinc (q := 22) (v := (l2 + (1 : Int32))) (lv' := [(2, .int (l2 + (1 : Int32))), (1, .int (l1 + (f l2.toNatClampNeg))), (0, .ref w)]) gdX4_parts_11.2.2.2.2.2.2.1 rfl 2 rfl rfl (by decide) rfl ?_
      refine aw_goto (tgt := 4) gdX4_parts_11.2.2.2.2.2.2.2 (by decide) ?_
      refine aw_locals (lv' := [(0, .ref w), (1, .int (l1 + (f l2.toNatClampNeg))), (2, .int (l2 + (1 : Int32)))]) [2, 1, 0] rfl ?_
      exact ih _ _
def fX4_parts (N K : Nat) (f : Nat → Int32) : Option (Int32) :=
  fX4_parts_4 N K f  N (0 : Int32) (1 : Int32)
set_option maxHeartbeats 4000000 in
set_option maxRecDepth 100000 in
theorem ok_X4_parts {N K : Nat} {w a : Nat} {f : Nat → Int32} {xr : Int32} (hE : fX4_parts N K f = some xr) : OkM yX4_parts (.code yX4_parts cX4_parts 3 (some .int)) (0) 0 0 [.ref w] [(w, .inr (6, [.ref a])), (a, .inl (0, 21, .inl f))] ((PN (U := Int32) (fun zz _ => some (.int zz)) (fun zz ad => [(w, .inr (6, [.ref a])), (a, .inl (0, 21, .inl f))])) xr) := by
  refine ok_of (by decide) (Nat.le_of_ble_eq_true rfl) hE ?_
  refine aw_locals (lv' := [(0, .ref w)]) [0] rfl ?_
  refine aw_iconst (q := 1) (v := 0) gdX4_parts_0.1 rfl (by decide) ?_
  refine aw_istore_n (q := 2) (lv' := [(1, .int (0 : Int32)), (0, .ref w)]) gdX4_parts_0.2.1 rfl (by decide) rfl ?_
  refine aw_iconst (q := 3) (v := 1) gdX4_parts_0.2.2.1 rfl (by decide) ?_
  refine aw_istore_n (q := 4) (lv' := [(2, .int (1 : Int32)), (1, .int (0 : Int32)), (0, .ref w)]) gdX4_parts_0.2.2.2.1 rfl (by decide) rfl ?_
  refine aw_locals (lv' := [(0, .ref w), (1, .int (0 : Int32)), (2, .int (1 : Int32))]) [2, 1, 0] rfl ?_
  exact tX4_parts_4  N _ _
def fX4_differentParts_22 (N K : Nat) (f : Nat → Int32) (k_4 : Int32 → Int32 → Option (Int32)) (l1 : Int32) (l2 : Int32) : Option (Int32) :=
  k_4 l1 (l2 + (1 : Int32))
set_option maxHeartbeats 4000000 in
set_option maxRecDepth 100000 in
theorem tX4_differentParts_22 {N K : Nat} {w a : Nat} {f : Nat → Int32} {k_4 : Int32 → Int32 → Option (Int32)} (hk_4 : ∀ (l1 : Int32) (l2 : Int32), AW RX4 "differentParts" cX4_differentParts 3 (some .int) [] (fun _ _ => True) (0) (PN (U := Int32) (fun zz _ => some (.int zz)) (fun zz ad => [(w, .inr (6, [.ref a])), (a, .inl (0, 21, .inl f))])) 0 0 (k_4 l1 l2) 4 [(0, .ref w), (1, .int l1), (2, .int l2)] [] [(w, .inr (6, [.ref a])), (a, .inl (0, 21, .inl f))]) : ∀ (l1 : Int32) (l2 : Int32), AW RX4 "differentParts" cX4_differentParts 3 (some .int) [] (fun _ _ => True) (0) (PN (U := Int32) (fun zz _ => some (.int zz)) (fun zz ad => [(w, .inr (6, [.ref a])), (a, .inl (0, 21, .inl f))])) 0 0 (fX4_differentParts_22 N K f k_4 l1 l2) 22 [(0, .ref w), (1, .int l1), (2, .int l2)] [] [(w, .inr (6, [.ref a])), (a, .inl (0, 21, .inl f))] := by
  intro l1 l2
  refine aw_iinc (q := 25) (v := (l2 + (1 : Int32))) (lv' := [(2, .int (l2 + (1 : Int32))), (0, .ref w), (1, .int l1)]) gdX4_differentParts_11.2.2.2.2.2.1 rfl 2 rfl rfl (by decide) rfl ?_
  refine aw_goto (tgt := 4) gdX4_differentParts_11.2.2.2.2.2.2.1 (by decide) ?_
  refine aw_locals (lv' := [(0, .ref w), (1, .int l1), (2, .int (l2 + (1 : Int32)))]) [1, 2, 0] rfl ?_
  exact hk_4 _ _
def fX4_differentParts_4 (N K : Nat) (f : Nat → Int32) : Nat → Int32 → Int32 → Option (Int32)
  | 0, _, _ => none
  | fu + 1, l1, l2 =>
    (if (20 : Int32) < l2 then (some l1) else (if l2 < 0 ∨ 21 ≤ l2.toNatClampNeg then none else (if (f l2.toNatClampNeg) ≤ 0 then fX4_differentParts_22 N K f (fX4_differentParts_4 N K f  fu) l1 l2 else fX4_differentParts_22 N K f (fX4_differentParts_4 N K f  fu) (l1 + (1 : Int32)) l2)))
set_option maxHeartbeats 4000000 in
set_option maxRecDepth 100000 in
theorem tX4_differentParts_4 {N K : Nat} {w a : Nat} {f : Nat → Int32} : ∀ (fu : Nat) (l1 : Int32) (l2 : Int32), AW RX4 "differentParts" cX4_differentParts 3 (some .int) [] (fun _ _ => True) (0) (PN (U := Int32) (fun zz _ => some (.int zz)) (fun zz ad => [(w, .inr (6, [.ref a])), (a, .inl (0, 21, .inl f))])) 0 0 (fX4_differentParts_4 N K f  fu l1 l2) 4 [(0, .ref w), (1, .int l1), (2, .int l2)] [] [(w, .inr (6, [.ref a])), (a, .inl (0, 21, .inl f))] := by
  intro fu
  induction fu with
  | zero => intro l1 l2; exact aw_none
  | succ fu ih =>
    intro l1 l2
    refine aw_iload_n (q := 5) gdX4_differentParts_0.2.2.2.2.1 rfl 2 rfl ?_
    refine aw_bipush (q := 7) (v := 20) gdX4_differentParts_0.2.2.2.2.2.1 rfl (by decide) ?_
    refine aw_icmp_gt (tgt := 28) (q := 10) gdX4_differentParts_0.2.2.2.2.2.2.1 (by decide) rfl (fun h_7 => ?_) (fun h_7 => ?_)
    · refine aw_iload_n (q := 29) gdX4_differentParts_11.2.2.2.2.2.2.2 rfl 1 rfl ?_
      exact aw_ireturn (w := [(w, .inr (6, [.ref a])), (a, .inl (0, 21, .inl f))]) [0, 1] dX4_differentParts_29 rfl rfl rfl rfl (PN.mk (fun _ => 0) rfl rfl)
    · refine aw_aload_n (q := 11) gdX4_differentParts_0.2.2.2.2.2.2.2 rfl 0 rfl ?_
      refine aw_get (q := 14) gdX4_differentParts_11.1 rfl fl_X4_9 0 rfl rfl ?_
      refine aw_iload_n (q := 15) gdX4_differentParts_11.2.1 rfl 2 rfl ?_
      refine aw_iald (q := 16) gdX4_differentParts_11.2.2.1 rfl 1 rfl ?_
      refine aw_if_le (tgt := 22) (q := 19) gdX4_differentParts_11.2.2.2.1 (by decide) rfl (fun h_16 => ?_) (fun h_16 => ?_)
      · exact tX4_differentParts_22 ih _ _
      · refine aw_iinc (q := 22) (v := (l1 + (1 : Int32))) (lv' := [(1, .int (l1 + (1 : Int32))), (0, .ref w), (2, .int l2)]) gdX4_differentParts_11.2.2.2.2.1 rfl 1 rfl rfl (by decide) rfl ?_
        refine aw_locals (lv' := [(0, .ref w), (1, .int (l1 + (1 : Int32))), (2, .int l2)]) [1, 0, 2] rfl ?_
        exact tX4_differentParts_22 ih _ _
def fX4_differentParts (N K : Nat) (f : Nat → Int32) : Option (Int32) :=
  fX4_differentParts_4 N K f  N (0 : Int32) (1 : Int32)
set_option maxHeartbeats 4000000 in
set_option maxRecDepth 100000 in
theorem ok_X4_differentParts {N K : Nat} {w a : Nat} {f : Nat → Int32} {xr : Int32} (hE : fX4_differentParts N K f = some xr) : OkM yX4_differentParts (.code yX4_differentParts cX4_differentParts 3 (some .int)) (0) 0 0 [.ref w] [(w, .inr (6, [.ref a])), (a, .inl (0, 21, .inl f))] ((PN (U := Int32) (fun zz _ => some (.int zz)) (fun zz ad => [(w, .inr (6, [.ref a])), (a, .inl (0, 21, .inl f))])) xr) := by
  refine ok_of (by decide) (Nat.le_of_ble_eq_true rfl) hE ?_
  refine aw_locals (lv' := [(0, .ref w)]) [0] rfl ?_
  refine aw_iconst (q := 1) (v := 0) gdX4_differentParts_0.1 rfl (by decide) ?_
  refine aw_istore_n (q := 2) (lv' := [(1, .int (0 : Int32)), (0, .ref w)]) gdX4_differentParts_0.2.1 rfl (by decide) rfl ?_
  refine aw_iconst (q := 3) (v := 1) gdX4_differentParts_0.2.2.1 rfl (by decide) ?_
  refine aw_istore_n (q := 4) (lv' := [(2, .int (1 : Int32)), (1, .int (0 : Int32)), (0, .ref w)]) gdX4_differentParts_0.2.2.2.1 rfl (by decide) rfl ?_
  refine aw_locals (lv' := [(0, .ref w), (1, .int (0 : Int32)), (2, .int (1 : Int32))]) [2, 1, 0] rfl ?_
  exact tX4_differentParts_4  N _ _
def fX4_isUnlike_2 (N K : Nat) (f : Nat → Int32) : Nat → Int32 → Option (Int32)
  | 0, _ => none
  | fu + 1, l1 =>
    (if (20 : Int32) < l1 then (some (1 : Int32)) else (if l1 < 0 ∨ 21 ≤ l1.toNatClampNeg then none else (if (f l1.toNatClampNeg) ≤ (1 : Int32) then fX4_isUnlike_2 N K f  fu (l1 + (1 : Int32)) else (some (0 : Int32)))))
set_option maxHeartbeats 4000000 in
set_option maxRecDepth 100000 in
theorem tX4_isUnlike_2 {N K : Nat} {w a : Nat} {f : Nat → Int32} : ∀ (fu : Nat) (l1 : Int32), AW RX4 "isUnlike" cX4_isUnlike 2 (some .boolean) [] (fun _ _ => True) (0) (PN (U := Int32) (fun zz _ => some (.int zz)) (fun zz ad => [(w, .inr (6, [.ref a])), (a, .inl (0, 21, .inl f))])) 0 0 (fX4_isUnlike_2 N K f  fu l1) 2 [(0, .ref w), (1, .int l1)] [] [(w, .inr (6, [.ref a])), (a, .inl (0, 21, .inl f))] := by
  intro fu
  induction fu with
  | zero => intro l1; exact aw_none
  | succ fu ih =>
    intro l1
    refine aw_iload_n (q := 3) gdX4_isUnlike_0.2.2.1 rfl 1 rfl ?_
    refine aw_bipush (q := 5) (v := 20) gdX4_isUnlike_0.2.2.2.1 rfl (by decide) ?_
    refine aw_icmp_gt (tgt := 26) (q := 8) gdX4_isUnlike_0.2.2.2.2.1 (by decide) rfl (fun h_5 => ?_) (fun h_5 => ?_)
    · refine aw_iconst (q := 27) (v := 1) gdX4_isUnlike_13.2.2.2.2.2.2.2 rfl (by decide) ?_
      exact aw_ireturn (w := [(w, .inr (6, [.ref a])), (a, .inl (0, 21, .inl f))]) [0, 1] dX4_isUnlike_27 rfl rfl rfl rfl (PN.mk (fun _ => 0) rfl rfl)
    · refine aw_aload_n (q := 9) gdX4_isUnlike_0.2.2.2.2.2.1 rfl 0 rfl ?_
      refine aw_get (q := 12) gdX4_isUnlike_0.2.2.2.2.2.2.1 rfl fl_X4_9 0 rfl rfl ?_
      refine aw_iload_n (q := 13) gdX4_isUnlike_0.2.2.2.2.2.2.2 rfl 1 rfl ?_
      refine aw_iald (q := 14) gdX4_isUnlike_13.1 rfl 1 rfl ?_
      refine aw_iconst (q := 15) (v := 1) gdX4_isUnlike_13.2.1 rfl (by decide) ?_
      refine aw_icmp_le (tgt := 20) (q := 18) gdX4_isUnlike_13.2.2.1 (by decide) rfl (fun h_15 => ?_) (fun h_15 => ?_)
      · refine aw_iinc (q := 23) (v := (l1 + (1 : Int32))) (lv' := [(1, .int (l1 + (1 : Int32))), (0, .ref w)]) gdX4_isUnlike_13.2.2.2.2.2.1 rfl 1 rfl rfl (by decide) rfl ?_
        refine aw_goto (tgt := 2) gdX4_isUnlike_13.2.2.2.2.2.2.1 (by decide) ?_
        refine aw_locals (lv' := [(0, .ref w), (1, .int (l1 + (1 : Int32)))]) [1, 0] rfl ?_
        exact ih _
      · refine aw_iconst (q := 19) (v := 0) gdX4_isUnlike_13.2.2.2.1 rfl (by decide) ?_
        exact aw_ireturn (w := [(w, .inr (6, [.ref a])), (a, .inl (0, 21, .inl f))]) [0, 1] gdX4_isUnlike_13.2.2.2.2.1 rfl rfl rfl rfl (PN.mk (fun _ => 0) rfl rfl)
def fX4_isUnlike (N K : Nat) (f : Nat → Int32) : Option (Int32) :=
  fX4_isUnlike_2 N K f  N (1 : Int32)
set_option maxHeartbeats 4000000 in
set_option maxRecDepth 100000 in
theorem ok_X4_isUnlike {N K : Nat} {w a : Nat} {f : Nat → Int32} {xr : Int32} (hE : fX4_isUnlike N K f = some xr) : OkM yX4_isUnlike (.code yX4_isUnlike cX4_isUnlike 2 (some .boolean)) (0) 0 0 [.ref w] [(w, .inr (6, [.ref a])), (a, .inl (0, 21, .inl f))] ((PN (U := Int32) (fun zz _ => some (.int zz)) (fun zz ad => [(w, .inr (6, [.ref a])), (a, .inl (0, 21, .inl f))])) xr) := by
  refine ok_of (by decide) (Nat.le_of_ble_eq_true rfl) hE ?_
  refine aw_locals (lv' := [(0, .ref w)]) [0] rfl ?_
  refine aw_iconst (q := 1) (v := 1) gdX4_isUnlike_0.1 rfl (by decide) ?_
  refine aw_istore_n (q := 2) (lv' := [(1, .int (1 : Int32)), (0, .ref w)]) gdX4_isUnlike_0.2.1 rfl (by decide) rfl ?_
  refine aw_locals (lv' := [(0, .ref w), (1, .int (1 : Int32))]) [1, 0] rfl ?_
  exact tX4_isUnlike_2  N _
def fX4_isOdd_2 (N K : Nat) (f : Nat → Int32) : Nat → Int32 → Option (Int32)
  | 0, _ => none
  | fu + 1, l1 =>
    (if (20 : Int32) < l1 then (some (1 : Int32)) else (if l1 < 0 ∨ 21 ≤ l1.toNatClampNeg then none else (if (f l1.toNatClampNeg) ≤ 0 then fX4_isOdd_2 N K f  fu (l1 + (2 : Int32)) else (some (0 : Int32)))))
set_option maxHeartbeats 4000000 in
set_option maxRecDepth 100000 in
theorem tX4_isOdd_2 {N K : Nat} {w a : Nat} {f : Nat → Int32} : ∀ (fu : Nat) (l1 : Int32), AW RX4 "isOdd" cX4_isOdd 2 (some .boolean) [] (fun _ _ => True) (0) (PN (U := Int32) (fun zz _ => some (.int zz)) (fun zz ad => [(w, .inr (6, [.ref a])), (a, .inl (0, 21, .inl f))])) 0 0 (fX4_isOdd_2 N K f  fu l1) 2 [(0, .ref w), (1, .int l1)] [] [(w, .inr (6, [.ref a])), (a, .inl (0, 21, .inl f))] := by
  intro fu
  induction fu with
  | zero => intro l1; exact aw_none
  | succ fu ih =>
    intro l1
    refine aw_iload_n (q := 3) gdX4_isOdd_0.2.2.1 rfl 1 rfl ?_
    refine aw_bipush (q := 5) (v := 20) gdX4_isOdd_0.2.2.2.1 rfl (by decide) ?_
    refine aw_icmp_gt (tgt := 25) (q := 8) gdX4_isOdd_0.2.2.2.2.1 (by decide) rfl (fun h_5 => ?_) (fun h_5 => ?_)
    · refine aw_iconst (q := 26) (v := 1) gdX4_isOdd_13.2.2.2.2.2.2.1 rfl (by decide) ?_
      exact aw_ireturn (w := [(w, .inr (6, [.ref a])), (a, .inl (0, 21, .inl f))]) [0, 1] gdX4_isOdd_13.2.2.2.2.2.2.2 rfl rfl rfl rfl (PN.mk (fun _ => 0) rfl rfl)
    · refine aw_aload_n (q := 9) gdX4_isOdd_0.2.2.2.2.2.1 rfl 0 rfl ?_
      refine aw_get (q := 12) gdX4_isOdd_0.2.2.2.2.2.2.1 rfl fl_X4_9 0 rfl rfl ?_
      refine aw_iload_n (q := 13) gdX4_isOdd_0.2.2.2.2.2.2.2 rfl 1 rfl ?_
      refine aw_iald (q := 14) gdX4_isOdd_13.1 rfl 1 rfl ?_
      refine aw_if_le (tgt := 19) (q := 17) gdX4_isOdd_13.2.1 (by decide) rfl (fun h_14 => ?_) (fun h_14 => ?_)
      · refine aw_iinc (q := 22) (v := (l1 + (2 : Int32))) (lv' := [(1, .int (l1 + (2 : Int32))), (0, .ref w)]) gdX4_isOdd_13.2.2.2.2.1 rfl 1 rfl rfl (by decide) rfl ?_
        refine aw_goto (tgt := 2) gdX4_isOdd_13.2.2.2.2.2.1 (by decide) ?_
        refine aw_locals (lv' := [(0, .ref w), (1, .int (l1 + (2 : Int32)))]) [1, 0] rfl ?_
        exact ih _
      · refine aw_iconst (q := 18) (v := 0) gdX4_isOdd_13.2.2.1 rfl (by decide) ?_
        exact aw_ireturn (w := [(w, .inr (6, [.ref a])), (a, .inl (0, 21, .inl f))]) [0, 1] gdX4_isOdd_13.2.2.2.1 rfl rfl rfl rfl (PN.mk (fun _ => 0) rfl rfl)
def fX4_isOdd (N K : Nat) (f : Nat → Int32) : Option (Int32) :=
  fX4_isOdd_2 N K f  N (2 : Int32)
set_option maxHeartbeats 4000000 in
set_option maxRecDepth 100000 in
theorem ok_X4_isOdd {N K : Nat} {w a : Nat} {f : Nat → Int32} {xr : Int32} (hE : fX4_isOdd N K f = some xr) : OkM yX4_isOdd (.code yX4_isOdd cX4_isOdd 2 (some .boolean)) (0) 0 0 [.ref w] [(w, .inr (6, [.ref a])), (a, .inl (0, 21, .inl f))] ((PN (U := Int32) (fun zz _ => some (.int zz)) (fun zz ad => [(w, .inr (6, [.ref a])), (a, .inl (0, 21, .inl f))])) xr) := by
  refine ok_of (by decide) (Nat.le_of_ble_eq_true rfl) hE ?_
  refine aw_locals (lv' := [(0, .ref w)]) [0] rfl ?_
  refine aw_iconst (q := 1) (v := 2) gdX4_isOdd_0.1 rfl (by decide) ?_
  refine aw_istore_n (q := 2) (lv' := [(1, .int (2 : Int32)), (0, .ref w)]) gdX4_isOdd_0.2.1 rfl (by decide) rfl ?_
  refine aw_locals (lv' := [(0, .ref w), (1, .int (2 : Int32))]) [1, 0] rfl ?_
  exact tX4_isOdd_2  N _
def fX4_leastAboveOne_2 (N K : Nat) (f : Nat → Int32) : Nat → Int32 → Option (Int32)
  | 0, _ => none
  | fu + 1, l1 =>
    (if (20 : Int32) < l1 then (some (0 : Int32)) else (if l1 < 0 ∨ 21 ≤ l1.toNatClampNeg then none else (if (f l1.toNatClampNeg) ≤ 0 then fX4_leastAboveOne_2 N K f  fu (l1 + (1 : Int32)) else (some l1))))
set_option maxHeartbeats 4000000 in
set_option maxRecDepth 100000 in
theorem tX4_leastAboveOne_2 {N K : Nat} {w a : Nat} {f : Nat → Int32} : ∀ (fu : Nat) (l1 : Int32), AW RX4 "leastAboveOne" cX4_leastAboveOne 2 (some .int) [] (fun _ _ => True) (0) (PN (U := Int32) (fun zz _ => some (.int zz)) (fun zz ad => [(w, .inr (6, [.ref a])), (a, .inl (0, 21, .inl f))])) 0 0 (fX4_leastAboveOne_2 N K f  fu l1) 2 [(0, .ref w), (1, .int l1)] [] [(w, .inr (6, [.ref a])), (a, .inl (0, 21, .inl f))] := by
  intro fu
  induction fu with
  | zero => intro l1; exact aw_none
  | succ fu ih =>
    intro l1
    refine aw_iload_n (q := 3) gdX4_leastAboveOne_0.2.2.1 rfl 1 rfl ?_
    refine aw_bipush (q := 5) (v := 20) gdX4_leastAboveOne_0.2.2.2.1 rfl (by decide) ?_
    refine aw_icmp_gt (tgt := 25) (q := 8) gdX4_leastAboveOne_0.2.2.2.2.1 (by decide) rfl (fun h_5 => ?_) (fun h_5 => ?_)
    · refine aw_iconst (q := 26) (v := 0) gdX4_leastAboveOne_13.2.2.2.2.2.2.1 rfl (by decide) ?_
      exact aw_ireturn (w := [(w, .inr (6, [.ref a])), (a, .inl (0, 21, .inl f))]) [0, 1] gdX4_leastAboveOne_13.2.2.2.2.2.2.2 rfl rfl rfl rfl (PN.mk (fun _ => 0) rfl rfl)
    · refine aw_aload_n (q := 9) gdX4_leastAboveOne_0.2.2.2.2.2.1 rfl 0 rfl ?_
      refine aw_get (q := 12) gdX4_leastAboveOne_0.2.2.2.2.2.2.1 rfl fl_X4_9 0 rfl rfl ?_
      refine aw_iload_n (q := 13) gdX4_leastAboveOne_0.2.2.2.2.2.2.2 rfl 1 rfl ?_
      refine aw_iald (q := 14) gdX4_leastAboveOne_13.1 rfl 1 rfl ?_
      refine aw_if_le (tgt := 19) (q := 17) gdX4_leastAboveOne_13.2.1 (by decide) rfl (fun h_14 => ?_) (fun h_14 => ?_)
      · refine aw_iinc (q := 22) (v := (l1 + (1 : Int32))) (lv' := [(1, .int (l1 + (1 : Int32))), (0, .ref w)]) gdX4_leastAboveOne_13.2.2.2.2.1 rfl 1 rfl rfl (by decide) rfl ?_
        refine aw_goto (tgt := 2) gdX4_leastAboveOne_13.2.2.2.2.2.1 (by decide) ?_
        refine aw_locals (lv' := [(0, .ref w), (1, .int (l1 + (1 : Int32)))]) [1, 0] rfl ?_
        exact ih _
      · refine aw_iload_n (q := 18) gdX4_leastAboveOne_13.2.2.1 rfl 1 rfl ?_
        exact aw_ireturn (w := [(w, .inr (6, [.ref a])), (a, .inl (0, 21, .inl f))]) [0, 1] gdX4_leastAboveOne_13.2.2.2.1 rfl rfl rfl rfl (PN.mk (fun _ => 0) rfl rfl)
def fX4_leastAboveOne (N K : Nat) (f : Nat → Int32) : Option (Int32) :=
  fX4_leastAboveOne_2 N K f  N (2 : Int32)
set_option maxHeartbeats 4000000 in
set_option maxRecDepth 100000 in
theorem ok_X4_leastAboveOne {N K : Nat} {w a : Nat} {f : Nat → Int32} {xr : Int32} (hE : fX4_leastAboveOne N K f = some xr) : OkM yX4_leastAboveOne (.code yX4_leastAboveOne cX4_leastAboveOne 2 (some .int)) (0) 0 0 [.ref w] [(w, .inr (6, [.ref a])), (a, .inl (0, 21, .inl f))] ((PN (U := Int32) (fun zz _ => some (.int zz)) (fun zz ad => [(w, .inr (6, [.ref a])), (a, .inl (0, 21, .inl f))])) xr) := by
  refine ok_of (by decide) (Nat.le_of_ble_eq_true rfl) hE ?_
  refine aw_locals (lv' := [(0, .ref w)]) [0] rfl ?_
  refine aw_iconst (q := 1) (v := 2) gdX4_leastAboveOne_0.1 rfl (by decide) ?_
  refine aw_istore_n (q := 2) (lv' := [(1, .int (2 : Int32)), (0, .ref w)]) gdX4_leastAboveOne_0.2.1 rfl (by decide) rfl ?_
  refine aw_locals (lv' := [(0, .ref w), (1, .int (2 : Int32))]) [1, 0] rfl ?_
  exact tX4_leastAboveOne_2  N _
def fX4_isLike_2 (N K : Nat) (f : Nat → Int32) (g : Nat → Int32) : Nat → Int32 → Option (Int32)
  | 0, _ => none
  | fu + 1, l2 =>
    (if (20 : Int32) < l2 then (some (1 : Int32)) else (if l2 < 0 ∨ 21 ≤ l2.toNatClampNeg then none else (if l2 < 0 ∨ 21 ≤ l2.toNatClampNeg then none else (if (f l2.toNatClampNeg) = (g l2.toNatClampNeg) then fX4_isLike_2 N K f g  fu (l2 + (1 : Int32)) else (some (0 : Int32))))))
set_option maxHeartbeats 4000000 in
set_option maxRecDepth 100000 in
theorem tX4_isLike_2 {N K : Nat} {w v a b : Nat} {f : Nat → Int32} {g : Nat → Int32} : ∀ (fu : Nat) (l2 : Int32), AW RX4 "isLike" cX4_isLike 3 (some .boolean) [] (fun _ _ => True) (0) (PN (U := Int32) (fun zz _ => some (.int zz)) (fun zz ad => [(w, .inr (6, [.ref a])), (a, .inl (0, 21, .inl f)), (v, .inr (6, [.ref b])), (b, .inl (0, 21, .inl g))])) 0 0 (fX4_isLike_2 N K f g  fu l2) 2 [(0, .ref w), (1, .ref v), (2, .int l2)] [] [(w, .inr (6, [.ref a])), (a, .inl (0, 21, .inl f)), (v, .inr (6, [.ref b])), (b, .inl (0, 21, .inl g))] := by
  intro fu
  induction fu with
  | zero => intro l2; exact aw_none
  | succ fu ih =>
    intro l2
    refine aw_iload_n (q := 3) gdX4_isLike_0.2.2.1 rfl 2 rfl ?_
    refine aw_bipush (q := 5) (v := 20) gdX4_isLike_0.2.2.2.1 rfl (by decide) ?_
    refine aw_icmp_gt (tgt := 31) (q := 8) gdX4_isLike_0.2.2.2.2.1 (by decide) rfl (fun h_5 => ?_) (fun h_5 => ?_)
    · refine aw_iconst (q := 32) (v := 1) gdX4_isLike_25.2.2.1 rfl (by decide) ?_
      exact aw_ireturn (w := [(w, .inr (6, [.ref a])), (a, .inl (0, 21, .inl f)), (v, .inr (6, [.ref b])), (b, .inl (0, 21, .inl g))]) [0, 1, 2, 3] gdX4_isLike_25.2.2.2 rfl rfl rfl rfl (PN.mk (fun _ => 0) rfl rfl)
    · refine aw_aload_n (q := 9) gdX4_isLike_0.2.2.2.2.2.1 rfl 0 rfl ?_
      refine aw_get (q := 12) gdX4_isLike_0.2.2.2.2.2.2.1 rfl fl_X4_9 0 rfl rfl ?_
      refine aw_iload_n (q := 13) gdX4_isLike_0.2.2.2.2.2.2.2 rfl 2 rfl ?_
      refine aw_iald (q := 14) gdX4_isLike_13.1 rfl 1 rfl ?_
      refine aw_aload_n (q := 15) gdX4_isLike_13.2.1 rfl 1 rfl ?_
      refine aw_get (q := 18) gdX4_isLike_13.2.2.1 rfl fl_X4_9 2 rfl rfl ?_
      refine aw_iload_n (q := 19) gdX4_isLike_13.2.2.2.1 rfl 2 rfl ?_
      refine aw_iald (q := 20) gdX4_isLike_13.2.2.2.2.1 rfl 3 rfl ?_
      refine aw_icmp_eq (tgt := 25) (q := 23) gdX4_isLike_13.2.2.2.2.2.1 (by decide) rfl (fun h_20 => ?_) (fun h_20 => ?_)
      · refine aw_iinc (q := 28) (v := (l2 + (1 : Int32))) (lv' := [(2, .int (l2 + (1 : Int32))), (0, .ref w), (1, .ref v)]) gdX4_isLike_25.1 rfl 2 rfl rfl (by decide) rfl ?_
        refine aw_goto (tgt := 2) gdX4_isLike_25.2.1 (by decide) ?_
        refine aw_locals (lv' := [(0, .ref w), (1, .ref v), (2, .int (l2 + (1 : Int32)))]) [1, 2, 0] rfl ?_
        exact ih _
      · refine aw_iconst (q := 24) (v := 0) gdX4_isLike_13.2.2.2.2.2.2.1 rfl (by decide) ?_
        exact aw_ireturn (w := [(w, .inr (6, [.ref a])), (a, .inl (0, 21, .inl f)), (v, .inr (6, [.ref b])), (b, .inl (0, 21, .inl g))]) [0, 1, 2, 3] gdX4_isLike_13.2.2.2.2.2.2.2 rfl rfl rfl rfl (PN.mk (fun _ => 0) rfl rfl)
def fX4_isLike (N K : Nat) (f : Nat → Int32) (g : Nat → Int32) : Option (Int32) :=
  fX4_isLike_2 N K f g  N (1 : Int32)
set_option maxHeartbeats 4000000 in
set_option maxRecDepth 100000 in
theorem ok_X4_isLike {N K : Nat} {w v a b : Nat} {f : Nat → Int32} {g : Nat → Int32} {xr : Int32} (hE : fX4_isLike N K f g = some xr) : OkM yX4_isLike (.code yX4_isLike cX4_isLike 3 (some .boolean)) (0) 0 0 [.ref w, .ref v] [(w, .inr (6, [.ref a])), (a, .inl (0, 21, .inl f)), (v, .inr (6, [.ref b])), (b, .inl (0, 21, .inl g))] ((PN (U := Int32) (fun zz _ => some (.int zz)) (fun zz ad => [(w, .inr (6, [.ref a])), (a, .inl (0, 21, .inl f)), (v, .inr (6, [.ref b])), (b, .inl (0, 21, .inl g))])) xr) := by
  refine ok_of (by decide) (Nat.le_of_ble_eq_true rfl) hE ?_
  refine aw_locals (lv' := [(0, .ref w), (1, .ref v)]) [0, 1] rfl ?_
  refine aw_iconst (q := 1) (v := 1) gdX4_isLike_0.1 rfl (by decide) ?_
  refine aw_istore_n (q := 2) (lv' := [(2, .int (1 : Int32)), (0, .ref w), (1, .ref v)]) gdX4_isLike_0.2.1 rfl (by decide) rfl ?_
  refine aw_locals (lv' := [(0, .ref w), (1, .ref v), (2, .int (1 : Int32))]) [1, 2, 0] rfl ?_
  exact tX4_isLike_2  N _
def fX4_hasNoneAbove_3 (N K : Nat) (f : Nat → Int32) (p0 : Int32) : Nat → Int32 → Option (Int32)
  | 0, _ => none
  | fu + 1, l2 =>
    (if l2 ≤ p0 then (some (1 : Int32)) else (if l2 < (1 : Int32) then (some (1 : Int32)) else (if l2 < 0 ∨ 21 ≤ l2.toNatClampNeg then none else (if (f l2.toNatClampNeg) ≤ 0 then fX4_hasNoneAbove_3 N K f p0  fu (l2 + (-1 : Int32)) else (some (0 : Int32))))))
set_option maxHeartbeats 4000000 in
set_option maxRecDepth 100000 in
theorem tX4_hasNoneAbove_3 {N K : Nat} {w a : Nat} {f : Nat → Int32} {p0 : Int32} : ∀ (fu : Nat) (l2 : Int32), AW RX4 "hasNoneAbove" cX4_hasNoneAbove 3 (some .boolean) [] (fun _ _ => True) (0) (PN (U := Int32) (fun zz _ => some (.int zz)) (fun zz ad => [(w, .inr (6, [.ref a])), (a, .inl (0, 21, .inl f))])) 0 0 (fX4_hasNoneAbove_3 N K f p0  fu l2) 3 [(0, .ref w), (1, .int p0), (2, .int l2)] [] [(w, .inr (6, [.ref a])), (a, .inl (0, 21, .inl f))] := by
  intro fu
  induction fu with
  | zero => intro l2; exact aw_none
  | succ fu ih =>
    intro l2
    refine aw_iload_n (q := 4) gdX4_hasNoneAbove_0.2.2.1 rfl 2 rfl ?_
    refine aw_iload_n (q := 5) gdX4_hasNoneAbove_0.2.2.2.1 rfl 1 rfl ?_
    refine aw_icmp_le (tgt := 30) (q := 8) gdX4_hasNoneAbove_0.2.2.2.2.1 (by decide) rfl (fun h_5 => ?_) (fun h_5 => ?_)
    · refine aw_iconst (q := 31) (v := 1) gdX4_hasNoneAbove_27.2.1 rfl (by decide) ?_
      exact aw_ireturn (w := [(w, .inr (6, [.ref a])), (a, .inl (0, 21, .inl f))]) [0, 1] gdX4_hasNoneAbove_27.2.2 rfl rfl rfl rfl (PN.mk (fun _ => 0) rfl rfl)
    · refine aw_iload_n (q := 9) gdX4_hasNoneAbove_0.2.2.2.2.2.1 rfl 2 rfl ?_
      refine aw_iconst (q := 10) (v := 1) gdX4_hasNoneAbove_0.2.2.2.2.2.2.1 rfl (by decide) ?_
      refine aw_icmp_lt (tgt := 30) (q := 13) gdX4_hasNoneAbove_0.2.2.2.2.2.2.2 (by decide) rfl (fun h_10 => ?_) (fun h_10 => ?_)
      · refine aw_iconst (q := 31) (v := 1) gdX4_hasNoneAbove_27.2.1 rfl (by decide) ?_
        exact aw_ireturn (w := [(w, .inr (6, [.ref a])), (a, .inl (0, 21, .inl f))]) [0, 1] gdX4_hasNoneAbove_27.2.2 rfl rfl rfl rfl (PN.mk (fun _ => 0) rfl rfl)
      · refine aw_aload_n (q := 14) gdX4_hasNoneAbove_13.1 rfl 0 rfl ?_
        refine aw_get (q := 17) gdX4_hasNoneAbove_13.2.1 rfl fl_X4_9 0 rfl rfl ?_
        refine aw_iload_n (q := 18) gdX4_hasNoneAbove_13.2.2.1 rfl 2 rfl ?_
        refine aw_iald (q := 19) gdX4_hasNoneAbove_13.2.2.2.1 rfl 1 rfl ?_
        refine aw_if_le (tgt := 24) (q := 22) gdX4_hasNoneAbove_13.2.2.2.2.1 (by decide) rfl (fun h_19 => ?_) (fun h_19 => ?_)
        · refine aw_iinc (q := 27) (v := (l2 + (-1 : Int32))) (lv' := [(2, .int (l2 + (-1 : Int32))), (0, .ref w), (1, .int p0)]) gdX4_hasNoneAbove_13.2.2.2.2.2.2.2 rfl 2 rfl rfl (by decide) rfl ?_
          refine aw_goto (tgt := 3) gdX4_hasNoneAbove_27.1 (by decide) ?_
          refine aw_locals (lv' := [(0, .ref w), (1, .int p0), (2, .int (l2 + (-1 : Int32)))]) [1, 2, 0] rfl ?_
          exact ih _
        · refine aw_iconst (q := 23) (v := 0) gdX4_hasNoneAbove_13.2.2.2.2.2.1 rfl (by decide) ?_
          exact aw_ireturn (w := [(w, .inr (6, [.ref a])), (a, .inl (0, 21, .inl f))]) [0, 1] gdX4_hasNoneAbove_13.2.2.2.2.2.2.1 rfl rfl rfl rfl (PN.mk (fun _ => 0) rfl rfl)
def fX4_hasNoneAbove (N K : Nat) (f : Nat → Int32) (p0 : Int32) : Option (Int32) :=
  fX4_hasNoneAbove_3 N K f p0  N (20 : Int32)
set_option maxHeartbeats 4000000 in
set_option maxRecDepth 100000 in
theorem ok_X4_hasNoneAbove {N K : Nat} {w a : Nat} {f : Nat → Int32} {p0 : Int32} {xr : Int32} (hE : fX4_hasNoneAbove N K f p0 = some xr) : OkM yX4_hasNoneAbove (.code yX4_hasNoneAbove cX4_hasNoneAbove 3 (some .boolean)) (0) 0 0 [.ref w, .int p0] [(w, .inr (6, [.ref a])), (a, .inl (0, 21, .inl f))] ((PN (U := Int32) (fun zz _ => some (.int zz)) (fun zz ad => [(w, .inr (6, [.ref a])), (a, .inl (0, 21, .inl f))])) xr) := by
  refine ok_of (by decide) (Nat.le_of_ble_eq_true rfl) hE ?_
  refine aw_locals (lv' := [(0, .ref w), (1, .int p0)]) [0, 1] rfl ?_
  refine aw_bipush (q := 2) (v := 20) gdX4_hasNoneAbove_0.1 rfl (by decide) ?_
  refine aw_istore_n (q := 3) (lv' := [(2, .int (20 : Int32)), (0, .ref w), (1, .int p0)]) gdX4_hasNoneAbove_0.2.1 rfl (by decide) rfl ?_
  refine aw_locals (lv' := [(0, .ref w), (1, .int p0), (2, .int (20 : Int32))]) [1, 2, 0] rfl ?_
  exact tX4_hasNoneAbove_3  N _
def fX4_becomeEmpty (N K : Nat) (f : Nat → Int32) : Option ((Nat → Int32)) :=
  ((fJ_fill N K 21 f (0 : Int32)).bind (fun x5 => (some x5)))
set_option maxHeartbeats 4000000 in
set_option maxRecDepth 100000 in
theorem ok_X4_becomeEmpty {N K : Nat} {w a : Nat} {f : Nat → Int32} {xr : (Nat → Int32)} (hE : fX4_becomeEmpty N K f = some xr) : OkM yX4_becomeEmpty (.code yX4_becomeEmpty cX4_becomeEmpty 1 none) (1) 0 0 [.ref w] [(w, .inr (6, [.ref a])), (a, .inl (0, 21, .inl f))] ((PN (U := (Nat → Int32)) (fun _ _ => none) (fun zz ad => [(w, .inr (6, [.ref a])), (a, .inl (0, 21, .inl zz))])) xr) := by
  refine ok_of (by decide) (Nat.le_of_ble_eq_true rfl) hE ?_
  refine aw_locals (lv' := [(0, .ref w)]) [0] rfl ?_
  refine aw_aload_n (q := 1) gdX4_becomeEmpty_0.1 rfl 0 rfl ?_
  refine aw_get (q := 4) gdX4_becomeEmpty_0.2.1 rfl fl_X4_9 0 rfl rfl ?_
  refine aw_iconst (q := 5) (v := 0) gdX4_becomeEmpty_0.2.2.1 rfl (by decide) ?_
  refine aw_call (q := 8) (kc1 := 0) (ks1 := 0) (wc := [(a, .inl (0, 21, .inl f))]) (wr := [(w, .inr (6, [.ref a]))]) (st1 := fun x5 g5 => []) (ws1 := fun x5 g5 => [(w, .inr (6, [.ref a])), (a, .inl (0, 21, .inl x5))]) (As := [.ref a, .int (0 : Int32)]) [1] [0] (fun _ => runS gdX4_becomeEmpty_0.2.2.2.1 mi_J7_fill_53178 st_J7_fill_53178 ml_X4_47 (by omega) rfl (Nat.le_of_ble_eq_true rfl) rfl) (fun x9 h9 => ok_J_fill h9) rfl rfl rfl rfl rfl (by decide +kernel) (by omega) (by omega) (fun _ _ => rfl) (fun _ _ => rfl) (fun x5 g5 => ?_)
  exact aw_return (w := [(w, .inr (6, [.ref a])), (a, .inl (0, 21, .inl x5))]) [0, 1] gdX4_becomeEmpty_0.2.2.2.2 rfl rfl rfl (PN.mk (fun _ => 0) rfl rfl)
def fX4_becomeFirst (N K : Nat) (f : Nat → Int32) (p0 : Int32) : Option ((Nat → Int32)) :=
  ((fX4_becomeEmpty N K f).bind (fun x1 => ((fX4_put N K x1 p0 (1 : Int32)).bind (fun x7 => (some x7)))))
set_option maxHeartbeats 4000000 in
set_option maxRecDepth 100000 in
theorem ok_X4_becomeFirst {N K : Nat} {w a : Nat} {f : Nat → Int32} {p0 : Int32} {xr : (Nat → Int32)} (hE : fX4_becomeFirst N K f p0 = some xr) : OkM yX4_becomeFirst (.code yX4_becomeFirst cX4_becomeFirst 2 none) (2) 0 0 [.ref w, .int p0] [(w, .inr (6, [.ref a])), (a, .inl (0, 21, .inl f))] ((PN (U := (Nat → Int32)) (fun _ _ => none) (fun zz ad => [(w, .inr (6, [.ref a])), (a, .inl (0, 21, .inl zz))])) xr) := by
  refine ok_of (by decide) (Nat.le_of_ble_eq_true rfl) hE ?_
  refine aw_locals (lv' := [(0, .ref w), (1, .int p0)]) [0, 1] rfl ?_
  refine aw_aload_n (q := 1) gdX4_becomeFirst_0.1 rfl 0 rfl ?_
  refine aw_call (q := 4) (kc1 := 0) (ks1 := 0) (wc := [(w, .inr (6, [.ref a])), (a, .inl (0, 21, .inl f))]) (wr := []) (st1 := fun x1 g1 => []) (ws1 := fun x1 g1 => [(w, .inr (6, [.ref a])), (a, .inl (0, 21, .inl x1))]) (As := [.ref w]) [0, 1] [] (fun _ => runV (q0 := 0) gdX4_becomeFirst_0.2.1 mi_X4_becomeEmpty im_X4_becomeEmpty se_X4_becomeEmpty ml_X4_53 (by omega) rfl (Nat.le_of_ble_eq_true rfl) rfl rfl rfl rfl) (fun x9 h9 => ok_X4_becomeEmpty h9) rfl rfl rfl rfl rfl (by decide +kernel) (by omega) (by omega) (fun _ _ => rfl) (fun _ _ => rfl) (fun x1 g1 => ?_)
  refine aw_aload_n (q := 5) gdX4_becomeFirst_0.2.2.1 rfl 0 rfl ?_
  refine aw_iload_n (q := 6) gdX4_becomeFirst_0.2.2.2.1 rfl 1 rfl ?_
  refine aw_iconst (q := 7) (v := 1) gdX4_becomeFirst_0.2.2.2.2.1 rfl (by decide) ?_
  refine aw_call (q := 10) (kc1 := 0) (ks1 := 0) (wc := [(w, .inr (6, [.ref a])), (a, .inl (0, 21, .inl x1))]) (wr := []) (st1 := fun x7 g7 => []) (ws1 := fun x7 g7 => [(w, .inr (6, [.ref a])), (a, .inl (0, 21, .inl x7))]) (As := [.ref w, .int p0, .int (1 : Int32)]) [0, 1] [] (fun _ => runV (q0 := 0) gdX4_becomeFirst_0.2.2.2.2.2.1 mi_X4_put im_X4_put se_X4_put ml_X4_56 (by omega) rfl (Nat.le_of_ble_eq_true rfl) rfl rfl rfl rfl) (fun x9 h9 => ok_X4_put h9) rfl rfl rfl rfl rfl (by decide +kernel) (by omega) (by omega) (fun _ _ => rfl) (fun _ _ => rfl) (fun x7 g7 => ?_)
  exact aw_return (w := [(w, .inr (6, [.ref a])), (a, .inl (0, 21, .inl x7))]) [0, 1] gdX4_becomeFirst_0.2.2.2.2.2.2 rfl rfl rfl (PN.mk (fun _ => 0) rfl rfl)
def fX4_becomeTurned_9 (N K : Nat) (f : Nat → Int32) (g : Nat → Int32) : Nat → Int32 → Int32 → (Nat → Int32) → Option ((Nat → Int32))
  | 0, _, _, _ => none
  | fu + 1, l2, l3, f_ =>
    (if l3 < (1 : Int32) then (some f_) else (if l3 < 0 ∨ 21 ≤ l3.toNatClampNeg then none else ((fX4_put N K f_ (l2 + (g l3.toNatClampNeg)) (1 : Int32)).bind (fun x26 => fX4_becomeTurned_9 N K f g  fu (l2 + (g l3.toNatClampNeg)) (l3 + (-1 : Int32)) x26))))
set_option maxHeartbeats 4000000 in
set_option maxRecDepth 100000 in
theorem tX4_becomeTurned_9 {N K : Nat} {w v a b : Nat} {f : Nat → Int32} {g : Nat → Int32} : ∀ (fu : Nat) (l2 : Int32) (l3 : Int32) (f_ : Nat → Int32), AW RX4 "becomeTurned" cX4_becomeTurned 4 none [] (fun _ _ => True) (2) (PN (U := (Nat → Int32)) (fun _ _ => none) (fun zz ad => [(w, .inr (6, [.ref a])), (a, .inl (0, 21, .inl zz)), (v, .inr (6, [.ref b])), (b, .inl (0, 21, .inl g))])) 0 0 (fX4_becomeTurned_9 N K f g  fu l2 l3 f_) 9 [(0, .ref w), (1, .ref v), (2, .int l2), (3, .int l3)] [] [(w, .inr (6, [.ref a])), (a, .inl (0, 21, .inl f_)), (v, .inr (6, [.ref b])), (b, .inl (0, 21, .inl g))] := by
  intro fu
  induction fu with
  | zero => intro l2 l3 f_; exact aw_none
  | succ fu ih =>
    intro l2 l3 f_
    refine aw_iload_n (q := 10) gdX4_becomeTurned_0.2.2.2.2.2.2.1 rfl 3 rfl ?_
    refine aw_iconst (q := 11) (v := 1) gdX4_becomeTurned_0.2.2.2.2.2.2.2 rfl (by decide) ?_
    refine aw_icmp_lt (tgt := 35) (q := 14) gdX4_becomeTurned_11.1 (by decide) rfl (fun h_11 => ?_) (fun h_11 => ?_)
    · exact aw_return (w := [(w, .inr (6, [.ref a])), (a, .inl (0, 21, .inl f_)), (v, .inr (6, [.ref b])), (b, .inl (0, 21, .inl g))]) [0, 1, 2, 3] gdX4_becomeTurned_23.2.2.2.2.2.2 rfl rfl rfl (PN.mk (fun _ => 0) rfl rfl)
    · refine aw_iload_n (q := 15) gdX4_becomeTurned_11.2.1 rfl 2 rfl ?_
      refine aw_aload_n (q := 16) gdX4_becomeTurned_11.2.2.1 rfl 1 rfl ?_
      refine aw_get (q := 19) gdX4_becomeTurned_11.2.2.2.1 rfl fl_X4_9 2 rfl rfl ?_
      refine aw_iload_n (q := 20) gdX4_becomeTurned_11.2.2.2.2.1 rfl 3 rfl ?_
      refine aw_iald (q := 21) gdX4_becomeTurned_11.2.2.2.2.2.1 rfl 3 rfl ?_
      refine aw_iadd (q := 22) gdX4_becomeTurned_11.2.2.2.2.2.2.1 rfl ?_
      refine aw_istore_n (q := 23) (lv' := [(2, .int (l2 + (g l3.toNatClampNeg))), (0, .ref w), (1, .ref v), (3, .int l3)]) gdX4_becomeTurned_11.2.2.2.2.2.2.2 rfl (by decide) rfl ?_
      refine aw_aload_n (q := 24) gdX4_becomeTurned_23.1 rfl 1 rfl ?_
      refine aw_iload_n (q := 25) gdX4_becomeTurned_23.2.1 rfl 0 rfl ?_
      refine aw_iconst (q := 26) (v := 1) gdX4_becomeTurned_23.2.2.1 rfl (by decide) ?_
      refine aw_call (q := 29) (kc1 := 0) (ks1 := 0) (wc := [(w, .inr (6, [.ref a])), (a, .inl (0, 21, .inl f_))]) (wr := [(v, .inr (6, [.ref b])), (b, .inl (0, 21, .inl g))]) (st1 := fun x26 g26 => []) (ws1 := fun x26 g26 => [(v, .inr (6, [.ref b])), (b, .inl (0, 21, .inl g)), (w, .inr (6, [.ref a])), (a, .inl (0, 21, .inl x26))]) (As := [.ref w, .int (l2 + (g l3.toNatClampNeg)), .int (1 : Int32)]) [0, 1] [2, 3] (fun _ => runV (q0 := 0) gdX4_becomeTurned_23.2.2.2.1 mi_X4_put im_X4_put se_X4_put ml_X4_56 (by omega) rfl (Nat.le_of_ble_eq_true rfl) rfl rfl rfl rfl) (fun x9 h9 => ok_X4_put h9) rfl rfl rfl rfl rfl (by decide +kernel) (by omega) (by omega) (fun _ _ => rfl) (fun _ _ => rfl) (fun x26 g26 => ?_)
      refine aw_iinc (q := 32) (v := (l3 + (-1 : Int32))) (lv' := [(3, .int (l3 + (-1 : Int32))), (2, .int (l2 + (g l3.toNatClampNeg))), (0, .ref w), (1, .ref v)]) gdX4_becomeTurned_23.2.2.2.2.1 rfl 3 rfl rfl (by decide) rfl ?_
      refine aw_goto (tgt := 9) gdX4_becomeTurned_23.2.2.2.2.2.1 (by decide) ?_
      refine aw_locals (lv' := [(0, .ref w), (1, .ref v), (2, .int (l2 + (g l3.toNatClampNeg))), (3, .int (l3 + (-1 : Int32)))]) [2, 3, 1, 0] rfl ?_
      refine aw_world (ws' := [(w, .inr (6, [.ref a])), (a, .inl (0, 21, .inl x26)), (v, .inr (6, [.ref b])), (b, .inl (0, 21, .inl g))]) [2, 3, 0, 1] rfl rfl ?_
      exact ih _ _ _
def fX4_becomeTurned (N K : Nat) (f : Nat → Int32) (g : Nat → Int32) : Option ((Nat → Int32)) :=
  ((fX4_becomeEmpty N K f).bind (fun x1 => fX4_becomeTurned_9 N K f g  N (0 : Int32) (20 : Int32) x1))
set_option maxHeartbeats 4000000 in
set_option maxRecDepth 100000 in
theorem ok_X4_becomeTurned {N K : Nat} {w v a b : Nat} {f : Nat → Int32} {g : Nat → Int32} {xr : (Nat → Int32)} (hE : fX4_becomeTurned N K f g = some xr) : OkM yX4_becomeTurned (.code yX4_becomeTurned cX4_becomeTurned 4 none) (2) 0 0 [.ref w, .ref v] [(w, .inr (6, [.ref a])), (a, .inl (0, 21, .inl f)), (v, .inr (6, [.ref b])), (b, .inl (0, 21, .inl g))] ((PN (U := (Nat → Int32)) (fun _ _ => none) (fun zz ad => [(w, .inr (6, [.ref a])), (a, .inl (0, 21, .inl zz)), (v, .inr (6, [.ref b])), (b, .inl (0, 21, .inl g))])) xr) := by
  refine ok_of (by decide) (Nat.le_of_ble_eq_true rfl) hE ?_
  refine aw_locals (lv' := [(0, .ref w), (1, .ref v)]) [0, 1] rfl ?_
  refine aw_aload_n (q := 1) gdX4_becomeTurned_0.1 rfl 0 rfl ?_
  refine aw_call (q := 4) (kc1 := 0) (ks1 := 0) (wc := [(w, .inr (6, [.ref a])), (a, .inl (0, 21, .inl f))]) (wr := [(v, .inr (6, [.ref b])), (b, .inl (0, 21, .inl g))]) (st1 := fun x1 g1 => []) (ws1 := fun x1 g1 => [(v, .inr (6, [.ref b])), (b, .inl (0, 21, .inl g)), (w, .inr (6, [.ref a])), (a, .inl (0, 21, .inl x1))]) (As := [.ref w]) [0, 1] [2, 3] (fun _ => runV (q0 := 0) gdX4_becomeTurned_0.2.1 mi_X4_becomeEmpty im_X4_becomeEmpty se_X4_becomeEmpty ml_X4_53 (by omega) rfl (Nat.le_of_ble_eq_true rfl) rfl rfl rfl rfl) (fun x9 h9 => ok_X4_becomeEmpty h9) rfl rfl rfl rfl rfl (by decide +kernel) (by omega) (by omega) (fun _ _ => rfl) (fun _ _ => rfl) (fun x1 g1 => ?_)
  refine aw_iconst (q := 5) (v := 0) gdX4_becomeTurned_0.2.2.1 rfl (by decide) ?_
  refine aw_istore_n (q := 6) (lv' := [(2, .int (0 : Int32)), (0, .ref w), (1, .ref v)]) gdX4_becomeTurned_0.2.2.2.1 rfl (by decide) rfl ?_
  refine aw_bipush (q := 8) (v := 20) gdX4_becomeTurned_0.2.2.2.2.1 rfl (by decide) ?_
  refine aw_istore_n (q := 9) (lv' := [(3, .int (20 : Int32)), (2, .int (0 : Int32)), (0, .ref w), (1, .ref v)]) gdX4_becomeTurned_0.2.2.2.2.2.1 rfl (by decide) rfl ?_
  refine aw_locals (lv' := [(0, .ref w), (1, .ref v), (2, .int (0 : Int32)), (3, .int (20 : Int32))]) [2, 3, 1, 0] rfl ?_
  refine aw_world (ws' := [(w, .inr (6, [.ref a])), (a, .inl (0, 21, .inl x1)), (v, .inr (6, [.ref b])), (b, .inl (0, 21, .inl g))]) [2, 3, 0, 1] rfl rfl ?_
  exact tX4_becomeTurned_9  N _ _ _
def fX4_becomeUnlike_45 (N K : Nat) (f : Nat → Int32) (g : Nat → Int32) (k_6 : Int32 → (Nat → Int32) → Option ((Nat → Int32))) (k_22 : Int32 → Int32 → Int32 → (Nat → Int32) → Option ((Nat → Int32))) (l2 : Int32) (l3 : Int32) (l4 : Int32) (f_ : Nat → Int32) : Option ((Nat → Int32)) :=
  k_22 l2 l3 (l4 * (2 : Int32)) f_
set_option maxHeartbeats 4000000 in
set_option maxRecDepth 100000 in
theorem tX4_becomeUnlike_45 {N K : Nat} {w v a b : Nat} {f : Nat → Int32} {g : Nat → Int32} {k_6 : Int32 → (Nat → Int32) → Option ((Nat → Int32))} (hk_6 : ∀ (l2 : Int32) (f_ : Nat → Int32), AW RX4 "becomeUnlike" cX4_becomeUnlike 5 none [] (fun _ _ => True) (2) (PN (U := (Nat → Int32)) (fun _ _ => none) (fun zz ad => [(w, .inr (6, [.ref a])), (a, .inl (0, 21, .inl zz)), (v, .inr (6, [.ref b])), (b, .inl (0, 21, .inl g))])) 0 0 (k_6 l2 f_) 6 [(0, .ref w), (1, .ref v), (2, .int l2)] [] [(w, .inr (6, [.ref a])), (a, .inl (0, 21, .inl f_)), (v, .inr (6, [.ref b])), (b, .inl (0, 21, .inl g))]) {k_22 : Int32 → Int32 → Int32 → (Nat → Int32) → Option ((Nat → Int32))} (hk_22 : ∀ (l2 : Int32) (l3 : Int32) (l4 : Int32) (f_ : Nat → Int32), AW RX4 "becomeUnlike" cX4_becomeUnlike 5 none [] (fun _ _ => True) (2) (PN (U := (Nat → Int32)) (fun _ _ => none) (fun zz ad => [(w, .inr (6, [.ref a])), (a, .inl (0, 21, .inl zz)), (v, .inr (6, [.ref b])), (b, .inl (0, 21, .inl g))])) 0 0 (k_22 l2 l3 l4 f_) 22 [(0, .ref w), (1, .ref v), (2, .int l2), (3, .int l3), (4, .int l4)] [] [(w, .inr (6, [.ref a])), (a, .inl (0, 21, .inl f_)), (v, .inr (6, [.ref b])), (b, .inl (0, 21, .inl g))]) : ∀ (l2 : Int32) (l3 : Int32) (l4 : Int32) (f_ : Nat → Int32), AW RX4 "becomeUnlike" cX4_becomeUnlike 5 none [] (fun _ _ => True) (2) (PN (U := (Nat → Int32)) (fun _ _ => none) (fun zz ad => [(w, .inr (6, [.ref a])), (a, .inl (0, 21, .inl zz)), (v, .inr (6, [.ref b])), (b, .inl (0, 21, .inl g))])) 0 0 (fX4_becomeUnlike_45 N K f g k_6 k_22 l2 l3 l4 f_) 45 [(0, .ref w), (1, .ref v), (2, .int l2), (3, .int l3), (4, .int l4)] [] [(w, .inr (6, [.ref a])), (a, .inl (0, 21, .inl f_)), (v, .inr (6, [.ref b])), (b, .inl (0, 21, .inl g))] := by
  intro l2 l3 l4 f_
  refine aw_iload (q := 47) gdX4_becomeUnlike_40.2.2.2.1 rfl 4 rfl ?_
  refine aw_iconst (q := 48) (v := 2) gdX4_becomeUnlike_40.2.2.2.2.1 rfl (by decide) ?_
  refine aw_imul (q := 49) gdX4_becomeUnlike_40.2.2.2.2.2.1 rfl ?_
  refine aw_istore (q := 51) (lv' := [(4, .int (l4 * (2 : Int32))), (0, .ref w), (1, .ref v), (2, .int l2), (3, .int l3)]) gdX4_becomeUnlike_40.2.2.2.2.2.2.1 rfl (by decide) rfl ?_
  refine aw_goto (tgt := 22) gdX4_becomeUnlike_40.2.2.2.2.2.2.2 (by decide) ?_
  refine aw_locals (lv' := [(0, .ref w), (1, .ref v), (2, .int l2), (3, .int l3), (4, .int (l4 * (2 : Int32)))]) [1, 2, 3, 4, 0] rfl ?_
  exact hk_22 _ _ _ _
def fX4_becomeUnlike_22 (N K : Nat) (f : Nat → Int32) (g : Nat → Int32) (k_6 : Int32 → (Nat → Int32) → Option ((Nat → Int32))) : Nat → Int32 → Int32 → Int32 → (Nat → Int32) → Option ((Nat → Int32))
  | 0, _, _, _, _ => none
  | fu + 1, l2, l3, l4, f_ =>
    (if (20 : Int32) < l4 then k_6 (l2 + (1 : Int32)) f_ else (if (l3 &&& l4) = 0 then fX4_becomeUnlike_45 N K f g k_6 (fX4_becomeUnlike_22 N K f g k_6 fu) l2 l3 l4 f_ else ((fX4_put N K f_ (l4 * l2) (1 : Int32)).bind (fun x42 => fX4_becomeUnlike_45 N K f g k_6 (fX4_becomeUnlike_22 N K f g k_6 fu) l2 l3 l4 x42))))
set_option maxHeartbeats 4000000 in
set_option maxRecDepth 100000 in
theorem tX4_becomeUnlike_22 {N K : Nat} {w v a b : Nat} {f : Nat → Int32} {g : Nat → Int32} {k_6 : Int32 → (Nat → Int32) → Option ((Nat → Int32))} (hk_6 : ∀ (l2 : Int32) (f_ : Nat → Int32), AW RX4 "becomeUnlike" cX4_becomeUnlike 5 none [] (fun _ _ => True) (2) (PN (U := (Nat → Int32)) (fun _ _ => none) (fun zz ad => [(w, .inr (6, [.ref a])), (a, .inl (0, 21, .inl zz)), (v, .inr (6, [.ref b])), (b, .inl (0, 21, .inl g))])) 0 0 (k_6 l2 f_) 6 [(0, .ref w), (1, .ref v), (2, .int l2)] [] [(w, .inr (6, [.ref a])), (a, .inl (0, 21, .inl f_)), (v, .inr (6, [.ref b])), (b, .inl (0, 21, .inl g))]) : ∀ (fu : Nat) (l2 : Int32) (l3 : Int32) (l4 : Int32) (f_ : Nat → Int32), AW RX4 "becomeUnlike" cX4_becomeUnlike 5 none [] (fun _ _ => True) (2) (PN (U := (Nat → Int32)) (fun _ _ => none) (fun zz ad => [(w, .inr (6, [.ref a])), (a, .inl (0, 21, .inl zz)), (v, .inr (6, [.ref b])), (b, .inl (0, 21, .inl g))])) 0 0 (fX4_becomeUnlike_22 N K f g k_6 fu l2 l3 l4 f_) 22 [(0, .ref w), (1, .ref v), (2, .int l2), (3, .int l3), (4, .int l4)] [] [(w, .inr (6, [.ref a])), (a, .inl (0, 21, .inl f_)), (v, .inr (6, [.ref b])), (b, .inl (0, 21, .inl g))] := by
  intro fu
  induction fu with
  | zero => intro l2 l3 l4 f_; exact aw_none
  | succ fu ih =>
    intro l2 l3 l4 f_
    refine aw_iload (q := 24) gdX4_becomeUnlike_13.2.2.2.2.2.2.1 rfl 4 rfl ?_
    refine aw_bipush (q := 26) (v := 20) gdX4_becomeUnlike_13.2.2.2.2.2.2.2 rfl (by decide) ?_
    refine aw_icmp_gt (tgt := 54) (q := 29) gdX4_becomeUnlike_26.1 (by decide) rfl (fun h_26 => ?_) (fun h_26 => ?_)
    · refine aw_iinc (q := 57) (v := (l2 + (1 : Int32))) (lv' := [(2, .int (l2 + (1 : Int32))), (0, .ref w), (1, .ref v), (3, .int l3), (4, .int l4)]) gdX4_becomeUnlike_54.1 rfl 2 rfl rfl (by decide) rfl ?_
      refine aw_goto (tgt := 6) gdX4_becomeUnlike_54.2.1 (by decide) ?_
      refine aw_locals (lv' := [(0, .ref w), (1, .ref v), (2, .int (l2 + (1 : Int32)))]) [1, 2, 0] rfl ?_
      exact hk_6 _ _
    · refine aw_iload_n (q := 30) gdX4_becomeUnlike_26.2.1 rfl 3 rfl ?_
      refine aw_iload (q := 32) gdX4_becomeUnlike_26.2.2.1 rfl 4 rfl ?_
      refine aw_iand (q := 33) gdX4_becomeUnlike_26.2.2.2.1 rfl ?_
      refine aw_if_eq (tgt := 45) (q := 36) gdX4_becomeUnlike_26.2.2.2.2.1 (by decide) rfl (fun h_33 => ?_) (fun h_33 => ?_)
      · exact tX4_becomeUnlike_45 hk_6 ih _ _ _ _
      · refine aw_aload_n (q := 37) gdX4_becomeUnlike_26.2.2.2.2.2.1 rfl 0 rfl ?_
        refine aw_iload (q := 39) gdX4_becomeUnlike_26.2.2.2.2.2.2.1 rfl 4 rfl ?_
        refine aw_iload_n (q := 40) gdX4_becomeUnlike_26.2.2.2.2.2.2.2 rfl 2 rfl ?_
        refine aw_imul (q := 41) gdX4_becomeUnlike_40.1 rfl ?_
        refine aw_iconst (q := 42) (v := 1) gdX4_becomeUnlike_40.2.1 rfl (by decide) ?_
        refine aw_call (q := 45) (kc1 := 0) (ks1 := 0) (wc := [(w, .inr (6, [.ref a])), (a, .inl (0, 21, .inl f_))]) (wr := [(v, .inr (6, [.ref b])), (b, .inl (0, 21, .inl g))]) (st1 := fun x42 g42 => []) (ws1 := fun x42 g42 => [(v, .inr (6, [.ref b])), (b, .inl (0, 21, .inl g)), (w, .inr (6, [.ref a])), (a, .inl (0, 21, .inl x42))]) (As := [.ref w, .int (l4 * l2), .int (1 : Int32)]) [0, 1] [2, 3] (fun _ => runV (q0 := 0) gdX4_becomeUnlike_40.2.2.1 mi_X4_put im_X4_put se_X4_put ml_X4_56 (by omega) rfl (Nat.le_of_ble_eq_true rfl) rfl rfl rfl rfl) (fun x9 h9 => ok_X4_put h9) rfl rfl rfl rfl rfl (by decide +kernel) (by omega) (by omega) (fun _ _ => rfl) (fun _ _ => rfl) (fun x42 g42 => ?_)
        refine aw_world (ws' := [(w, .inr (6, [.ref a])), (a, .inl (0, 21, .inl x42)), (v, .inr (6, [.ref b])), (b, .inl (0, 21, .inl g))]) [2, 3, 0, 1] rfl rfl ?_
        exact tX4_becomeUnlike_45 hk_6 ih _ _ _ _
def fX4_becomeUnlike_6 (N K : Nat) (f : Nat → Int32) (g : Nat → Int32) : Nat → Int32 → (Nat → Int32) → Option ((Nat → Int32))
  | 0, _, _ => none
  | fu + 1, l2, f_ =>
    (if (20 : Int32) < l2 then (some f_) else (if l2 < 0 ∨ 21 ≤ l2.toNatClampNeg then none else fX4_becomeUnlike_22 N K f g (fX4_becomeUnlike_6 N K f g  fu) N l2 (g l2.toNatClampNeg) (1 : Int32) f_))
set_option maxHeartbeats 4000000 in
set_option maxRecDepth 100000 in
theorem tX4_becomeUnlike_6 {N K : Nat} {w v a b : Nat} {f : Nat → Int32} {g : Nat → Int32} : ∀ (fu : Nat) (l2 : Int32) (f_ : Nat → Int32), AW RX4 "becomeUnlike" cX4_becomeUnlike 5 none [] (fun _ _ => True) (2) (PN (U := (Nat → Int32)) (fun _ _ => none) (fun zz ad => [(w, .inr (6, [.ref a])), (a, .inl (0, 21, .inl zz)), (v, .inr (6, [.ref b])), (b, .inl (0, 21, .inl g))])) 0 0 (fX4_becomeUnlike_6 N K f g  fu l2 f_) 6 [(0, .ref w), (1, .ref v), (2, .int l2)] [] [(w, .inr (6, [.ref a])), (a, .inl (0, 21, .inl f_)), (v, .inr (6, [.ref b])), (b, .inl (0, 21, .inl g))] := by
  intro fu
  induction fu with
  | zero => intro l2 f_; exact aw_none
  | succ fu ih =>
    intro l2 f_
    refine aw_iload_n (q := 7) gdX4_becomeUnlike_0.2.2.2.2.1 rfl 2 rfl ?_
    refine aw_bipush (q := 9) (v := 20) gdX4_becomeUnlike_0.2.2.2.2.2.1 rfl (by decide) ?_
    refine aw_icmp_gt (tgt := 60) (q := 12) gdX4_becomeUnlike_0.2.2.2.2.2.2.1 (by decide) rfl (fun h_9 => ?_) (fun h_9 => ?_)
    · exact aw_return (w := [(w, .inr (6, [.ref a])), (a, .inl (0, 21, .inl f_)), (v, .inr (6, [.ref b])), (b, .inl (0, 21, .inl g))]) [0, 1, 2, 3] gdX4_becomeUnlike_54.2.2 rfl rfl rfl (PN.mk (fun _ => 0) rfl rfl)
    · refine aw_aload_n (q := 13) gdX4_becomeUnlike_0.2.2.2.2.2.2.2 rfl 1 rfl ?_
      refine aw_get (q := 16) gdX4_becomeUnlike_13.1 rfl fl_X4_9 2 rfl rfl ?_
      refine aw_iload_n (q := 17) gdX4_becomeUnlike_13.2.1 rfl 2 rfl ?_
      refine aw_iald (q := 18) gdX4_becomeUnlike_13.2.2.1 rfl 3 rfl ?_
      refine aw_istore_n (q := 19) (lv' := [(3, .int (g l2.toNatClampNeg)), (0, .ref w), (1, .ref v), (2, .int l2)]) gdX4_becomeUnlike_13.2.2.2.1 rfl (by decide) rfl ?_
      refine aw_iconst (q := 20) (v := 1) gdX4_becomeUnlike_13.2.2.2.2.1 rfl (by decide) ?_
      refine aw_istore (q := 22) (lv' := [(4, .int (1 : Int32)), (3, .int (g l2.toNatClampNeg)), (0, .ref w), (1, .ref v), (2, .int l2)]) gdX4_becomeUnlike_13.2.2.2.2.2.1 rfl (by decide) rfl ?_
      refine aw_locals (lv' := [(0, .ref w), (1, .ref v), (2, .int l2), (3, .int (g l2.toNatClampNeg)), (4, .int (1 : Int32))]) [2, 3, 4, 1, 0] rfl ?_
      exact tX4_becomeUnlike_22 ih N _ _ _ _
def fX4_becomeUnlike (N K : Nat) (f : Nat → Int32) (g : Nat → Int32) : Option ((Nat → Int32)) :=
  ((fX4_becomeEmpty N K f).bind (fun x1 => fX4_becomeUnlike_6 N K f g  N (1 : Int32) x1))
set_option maxHeartbeats 4000000 in
set_option maxRecDepth 100000 in
theorem ok_X4_becomeUnlike {N K : Nat} {w v a b : Nat} {f : Nat → Int32} {g : Nat → Int32} {xr : (Nat → Int32)} (hE : fX4_becomeUnlike N K f g = some xr) : OkM yX4_becomeUnlike (.code yX4_becomeUnlike cX4_becomeUnlike 5 none) (2) 0 0 [.ref w, .ref v] [(w, .inr (6, [.ref a])), (a, .inl (0, 21, .inl f)), (v, .inr (6, [.ref b])), (b, .inl (0, 21, .inl g))] ((PN (U := (Nat → Int32)) (fun _ _ => none) (fun zz ad => [(w, .inr (6, [.ref a])), (a, .inl (0, 21, .inl zz)), (v, .inr (6, [.ref b])), (b, .inl (0, 21, .inl g))])) xr) := by
  refine ok_of (by decide) (Nat.le_of_ble_eq_true rfl) hE ?_
  refine aw_locals (lv' := [(0, .ref w), (1, .ref v)]) [0, 1] rfl ?_
  refine aw_aload_n (q := 1) gdX4_becomeUnlike_0.1 rfl 0 rfl ?_
  refine aw_call (q := 4) (kc1 := 0) (ks1 := 0) (wc := [(w, .inr (6, [.ref a])), (a, .inl (0, 21, .inl f))]) (wr := [(v, .inr (6, [.ref b])), (b, .inl (0, 21, .inl g))]) (st1 := fun x1 g1 => []) (ws1 := fun x1 g1 => [(v, .inr (6, [.ref b])), (b, .inl (0, 21, .inl g)), (w, .inr (6, [.ref a])), (a, .inl (0, 21, .inl x1))]) (As := [.ref w]) [0, 1] [2, 3] (fun _ => runV (q0 := 0) gdX4_becomeUnlike_0.2.1 mi_X4_becomeEmpty im_X4_becomeEmpty se_X4_becomeEmpty ml_X4_53 (by omega) rfl (Nat.le_of_ble_eq_true rfl) rfl rfl rfl rfl) (fun x9 h9 => ok_X4_becomeEmpty h9) rfl rfl rfl rfl rfl (by decide +kernel) (by omega) (by omega) (fun _ _ => rfl) (fun _ _ => rfl) (fun x1 g1 => ?_)
  refine aw_iconst (q := 5) (v := 1) gdX4_becomeUnlike_0.2.2.1 rfl (by decide) ?_
  refine aw_istore_n (q := 6) (lv' := [(2, .int (1 : Int32)), (0, .ref w), (1, .ref v)]) gdX4_becomeUnlike_0.2.2.2.1 rfl (by decide) rfl ?_
  refine aw_locals (lv' := [(0, .ref w), (1, .ref v), (2, .int (1 : Int32))]) [1, 2, 0] rfl ?_
  refine aw_world (ws' := [(w, .inr (6, [.ref a])), (a, .inl (0, 21, .inl x1)), (v, .inr (6, [.ref b])), (b, .inl (0, 21, .inl g))]) [2, 3, 0, 1] rfl rfl ?_
  exact tX4_becomeUnlike_6  N _ _
def fX4_becomeOdd_36 (N K : Nat) (f : Nat → Int32) (g : Nat → Int32) (k_6 : Int32 → (Nat → Int32) → Option ((Nat → Int32))) (l2 : Int32) (f_ : Nat → Int32) : Option ((Nat → Int32)) :=
  k_6 (l2 + (1 : Int32)) f_
set_option maxHeartbeats 4000000 in
set_option maxRecDepth 100000 in
theorem tX4_becomeOdd_36 {N K : Nat} {w v a b : Nat} {f : Nat → Int32} {g : Nat → Int32} {k_6 : Int32 → (Nat → Int32) → Option ((Nat → Int32))} (hk_6 : ∀ (l2 : Int32) (f_ : Nat → Int32), AW RX4 "becomeOdd" cX4_becomeOdd 4 none [] (fun _ _ => True) (2) (PN (U := (Nat → Int32)) (fun _ _ => none) (fun zz ad => [(w, .inr (6, [.ref a])), (a, .inl (0, 21, .inl zz)), (v, .inr (6, [.ref b])), (b, .inl (0, 21, .inl g))])) 0 0 (k_6 l2 f_) 6 [(0, .ref w), (1, .ref v), (2, .int l2)] [] [(w, .inr (6, [.ref a])), (a, .inl (0, 21, .inl f_)), (v, .inr (6, [.ref b])), (b, .inl (0, 21, .inl g))]) : ∀ (l2 : Int32) (f_ : Nat → Int32), AW RX4 "becomeOdd" cX4_becomeOdd 4 none [] (fun _ _ => True) (2) (PN (U := (Nat → Int32)) (fun _ _ => none) (fun zz ad => [(w, .inr (6, [.ref a])), (a, .inl (0, 21, .inl zz)), (v, .inr (6, [.ref b])), (b, .inl (0, 21, .inl g))])) 0 0 (fX4_becomeOdd_36 N K f g k_6 l2 f_) 36 [(0, .ref w), (1, .ref v), (2, .int l2)] [] [(w, .inr (6, [.ref a])), (a, .inl (0, 21, .inl f_)), (v, .inr (6, [.ref b])), (b, .inl (0, 21, .inl g))] := by
  intro l2 f_
  refine aw_iinc (q := 39) (v := (l2 + (1 : Int32))) (lv' := [(2, .int (l2 + (1 : Int32))), (0, .ref w), (1, .ref v)]) gdX4_becomeOdd_33.2.1 rfl 2 rfl rfl (by decide) rfl ?_
  refine aw_goto (tgt := 6) gdX4_becomeOdd_33.2.2.1 (by decide) ?_
  refine aw_locals (lv' := [(0, .ref w), (1, .ref v), (2, .int (l2 + (1 : Int32)))]) [1, 2, 0] rfl ?_
  exact hk_6 _ _
def fX4_becomeOdd_6 (N K : Nat) (f : Nat → Int32) (g : Nat → Int32) : Nat → Int32 → (Nat → Int32) → Option ((Nat → Int32))
  | 0, _, _ => none
  | fu + 1, l2, f_ =>
    (if (20 : Int32) < l2 then (some f_) else (if (l2 &&& (-l2)) ≤ 0 then fX4_becomeOdd_36 N K f g (fX4_becomeOdd_6 N K f g  fu) l2 f_ else (if (l2 &&& (-l2)) = 0 then none else (if l2 < 0 ∨ 21 ≤ l2.toNatClampNeg then none else ((fX4_put N K f_ (l2 / (l2 &&& (-l2))) ((l2 &&& (-l2)) * (g l2.toNatClampNeg))).bind (fun x33 => fX4_becomeOdd_36 N K f g (fX4_becomeOdd_6 N K f g  fu) l2 x33))))))
set_option maxHeartbeats 4000000 in
set_option maxRecDepth 100000 in
theorem tX4_becomeOdd_6 {N K : Nat} {w v a b : Nat} {f : Nat → Int32} {g : Nat → Int32} : ∀ (fu : Nat) (l2 : Int32) (f_ : Nat → Int32), AW RX4 "becomeOdd" cX4_becomeOdd 4 none [] (fun _ _ => True) (2) (PN (U := (Nat → Int32)) (fun _ _ => none) (fun zz ad => [(w, .inr (6, [.ref a])), (a, .inl (0, 21, .inl zz)), (v, .inr (6, [.ref b])), (b, .inl (0, 21, .inl g))])) 0 0 (fX4_becomeOdd_6 N K f g  fu l2 f_) 6 [(0, .ref w), (1, .ref v), (2, .int l2)] [] [(w, .inr (6, [.ref a])), (a, .inl (0, 21, .inl f_)), (v, .inr (6, [.ref b])), (b, .inl (0, 21, .inl g))] := by
  intro fu
  induction fu with
  | zero => intro l2 f_; exact aw_none
  | succ fu ih =>
    intro l2 f_
    refine aw_iload_n (q := 7) gdX4_becomeOdd_0.2.2.2.2.1 rfl 2 rfl ?_
    refine aw_bipush (q := 9) (v := 20) gdX4_becomeOdd_0.2.2.2.2.2.1 rfl (by decide) ?_
    refine aw_icmp_gt (tgt := 42) (q := 12) gdX4_becomeOdd_0.2.2.2.2.2.2.1 (by decide) rfl (fun h_9 => ?_) (fun h_9 => ?_)
    · exact aw_return (w := [(w, .inr (6, [.ref a])), (a, .inl (0, 21, .inl f_)), (v, .inr (6, [.ref b])), (b, .inl (0, 21, .inl g))]) [0, 1, 2, 3] gdX4_becomeOdd_33.2.2.2 rfl rfl rfl (PN.mk (fun _ => 0) rfl rfl)
    · refine aw_iload_n (q := 13) gdX4_becomeOdd_0.2.2.2.2.2.2.2 rfl 2 rfl ?_
      refine aw_iload_n (q := 14) gdX4_becomeOdd_13.1 rfl 2 rfl ?_
      refine aw_ineg (q := 15) gdX4_becomeOdd_13.2.1 rfl ?_
      refine aw_iand (q := 16) gdX4_becomeOdd_13.2.2.1 rfl ?_
      refine aw_istore_n (q := 17) (lv' := [(3, .int (l2 &&& (-l2))), (0, .ref w), (1, .ref v), (2, .int l2)]) gdX4_becomeOdd_13.2.2.2.1 rfl (by decide) rfl ?_
      refine aw_iload_n (q := 18) gdX4_becomeOdd_13.2.2.2.2.1 rfl 0 rfl ?_
      refine aw_if_le (tgt := 36) (q := 21) gdX4_becomeOdd_13.2.2.2.2.2.1 (by decide) rfl (fun h_18 => ?_) (fun h_18 => ?_)
      · refine aw_locals (lv' := [(0, .ref w), (1, .ref v), (2, .int l2)]) [1, 2, 3] rfl ?_
        exact tX4_becomeOdd_36 ih _ _
      · refine aw_aload_n (q := 22) gdX4_becomeOdd_13.2.2.2.2.2.2.1 rfl 1 rfl ?_
        refine aw_iload_n (q := 23) gdX4_becomeOdd_13.2.2.2.2.2.2.2 rfl 3 rfl ?_
        refine aw_iload_n (q := 24) gdX4_becomeOdd_23.1 rfl 0 rfl ?_
        refine aw_idiv (q := 25) gdX4_becomeOdd_23.2.1 rfl ?_
        refine aw_iload_n (q := 26) gdX4_becomeOdd_23.2.2.1 rfl 0 rfl ?_
        refine aw_aload_n (q := 27) gdX4_becomeOdd_23.2.2.2.1 rfl 2 rfl ?_
        refine aw_get (q := 30) gdX4_becomeOdd_23.2.2.2.2.1 rfl fl_X4_9 2 rfl rfl ?_
        refine aw_iload_n (q := 31) gdX4_becomeOdd_23.2.2.2.2.2.1 rfl 3 rfl ?_
        refine aw_iald (q := 32) gdX4_becomeOdd_23.2.2.2.2.2.2.1 rfl 3 rfl ?_
        refine aw_imul (q := 33) gdX4_becomeOdd_23.2.2.2.2.2.2.2 rfl ?_
        refine aw_call (q := 36) (kc1 := 0) (ks1 := 0) (wc := [(w, .inr (6, [.ref a])), (a, .inl (0, 21, .inl f_))]) (wr := [(v, .inr (6, [.ref b])), (b, .inl (0, 21, .inl g))]) (st1 := fun x33 g33 => []) (ws1 := fun x33 g33 => [(v, .inr (6, [.ref b])), (b, .inl (0, 21, .inl g)), (w, .inr (6, [.ref a])), (a, .inl (0, 21, .inl x33))]) (As := [.ref w, .int (l2 / (l2 &&& (-l2))), .int ((l2 &&& (-l2)) * (g l2.toNatClampNeg))]) [0, 1] [2, 3] (fun _ => runV (q0 := 0) gdX4_becomeOdd_33.1 mi_X4_put im_X4_put se_X4_put ml_X4_56 (by omega) rfl (Nat.le_of_ble_eq_true rfl) rfl rfl rfl rfl) (fun x9 h9 => ok_X4_put h9) rfl rfl rfl rfl rfl (by decide +kernel) (by omega) (by omega) (fun _ _ => rfl) (fun _ _ => rfl) (fun x33 g33 => ?_)
        refine aw_locals (lv' := [(0, .ref w), (1, .ref v), (2, .int l2)]) [1, 2, 3] rfl ?_
        refine aw_world (ws' := [(w, .inr (6, [.ref a])), (a, .inl (0, 21, .inl x33)), (v, .inr (6, [.ref b])), (b, .inl (0, 21, .inl g))]) [2, 3, 0, 1] rfl rfl ?_
        exact tX4_becomeOdd_36 ih _ _
def fX4_becomeOdd (N K : Nat) (f : Nat → Int32) (g : Nat → Int32) : Option ((Nat → Int32)) :=
  ((fX4_becomeEmpty N K f).bind (fun x1 => fX4_becomeOdd_6 N K f g  N (1 : Int32) x1))
set_option maxHeartbeats 4000000 in
set_option maxRecDepth 100000 in
theorem ok_X4_becomeOdd {N K : Nat} {w v a b : Nat} {f : Nat → Int32} {g : Nat → Int32} {xr : (Nat → Int32)} (hE : fX4_becomeOdd N K f g = some xr) : OkM yX4_becomeOdd (.code yX4_becomeOdd cX4_becomeOdd 4 none) (2) 0 0 [.ref w, .ref v] [(w, .inr (6, [.ref a])), (a, .inl (0, 21, .inl f)), (v, .inr (6, [.ref b])), (b, .inl (0, 21, .inl g))] ((PN (U := (Nat → Int32)) (fun _ _ => none) (fun zz ad => [(w, .inr (6, [.ref a])), (a, .inl (0, 21, .inl zz)), (v, .inr (6, [.ref b])), (b, .inl (0, 21, .inl g))])) xr) := by
  refine ok_of (by decide) (Nat.le_of_ble_eq_true rfl) hE ?_
  refine aw_locals (lv' := [(0, .ref w), (1, .ref v)]) [0, 1] rfl ?_
  refine aw_aload_n (q := 1) gdX4_becomeOdd_0.1 rfl 0 rfl ?_
  refine aw_call (q := 4) (kc1 := 0) (ks1 := 0) (wc := [(w, .inr (6, [.ref a])), (a, .inl (0, 21, .inl f))]) (wr := [(v, .inr (6, [.ref b])), (b, .inl (0, 21, .inl g))]) (st1 := fun x1 g1 => []) (ws1 := fun x1 g1 => [(v, .inr (6, [.ref b])), (b, .inl (0, 21, .inl g)), (w, .inr (6, [.ref a])), (a, .inl (0, 21, .inl x1))]) (As := [.ref w]) [0, 1] [2, 3] (fun _ => runV (q0 := 0) gdX4_becomeOdd_0.2.1 mi_X4_becomeEmpty im_X4_becomeEmpty se_X4_becomeEmpty ml_X4_53 (by omega) rfl (Nat.le_of_ble_eq_true rfl) rfl rfl rfl rfl) (fun x9 h9 => ok_X4_becomeEmpty h9) rfl rfl rfl rfl rfl (by decide +kernel) (by omega) (by omega) (fun _ _ => rfl) (fun _ _ => rfl) (fun x1 g1 => ?_)
  refine aw_iconst (q := 5) (v := 1) gdX4_becomeOdd_0.2.2.1 rfl (by decide) ?_
  refine aw_istore_n (q := 6) (lv' := [(2, .int (1 : Int32)), (0, .ref w), (1, .ref v)]) gdX4_becomeOdd_0.2.2.2.1 rfl (by decide) rfl ?_
  refine aw_locals (lv' := [(0, .ref w), (1, .ref v), (2, .int (1 : Int32))]) [1, 2, 0] rfl ?_
  refine aw_world (ws' := [(w, .inr (6, [.ref a])), (a, .inl (0, 21, .inl x1)), (v, .inr (6, [.ref b])), (b, .inl (0, 21, .inl g))]) [2, 3, 0, 1] rfl rfl ?_
  exact tX4_becomeOdd_6  N _ _
def fX4_become (N K : Nat) (f : Nat → Int32) (g : Nat → Int32) : Option ((Nat → Int32)) :=
  (some (va_cpy g f (0 : Int32).toNatClampNeg (0 : Int32).toNatClampNeg (21 : Int32).toNatClampNeg))
set_option maxHeartbeats 4000000 in
set_option maxRecDepth 100000 in
theorem ok_X4_become {N K : Nat} {w v a b : Nat} {f : Nat → Int32} {g : Nat → Int32} {xr : (Nat → Int32)} (hE : fX4_become N K f g = some xr) : OkM yX4_become (.code yX4_become cX4_become 2 none) (2) 0 0 [.ref w, .ref v] [(w, .inr (6, [.ref a])), (a, .inl (0, 21, .inl f)), (v, .inr (6, [.ref b])), (b, .inl (0, 21, .inl g))] ((PN (U := (Nat → Int32)) (fun _ _ => none) (fun zz ad => [(w, .inr (6, [.ref a])), (a, .inl (0, 21, .inl zz)), (v, .inr (6, [.ref b])), (b, .inl (0, 21, .inl g))])) xr) := by
  refine ok_of (by decide) (Nat.le_of_ble_eq_true rfl) hE ?_
  refine aw_locals (lv' := [(0, .ref w), (1, .ref v)]) [0, 1] rfl ?_
  refine aw_aload_n (q := 1) gdX4_become_0.1 rfl 1 rfl ?_
  refine aw_get (q := 4) gdX4_become_0.2.1 rfl fl_X4_9 2 rfl rfl ?_
  refine aw_iconst (q := 5) (v := 0) gdX4_become_0.2.2.1 rfl (by decide) ?_
  refine aw_aload_n (q := 6) gdX4_become_0.2.2.2.1 rfl 0 rfl ?_
  refine aw_get (q := 9) gdX4_become_0.2.2.2.2.1 rfl fl_X4_9 0 rfl rfl ?_
  refine aw_iconst (q := 10) (v := 0) gdX4_become_0.2.2.2.2.2.1 rfl (by decide) ?_
  refine aw_aload_n (q := 11) gdX4_become_0.2.2.2.2.2.2.1 rfl 0 rfl ?_
  refine aw_get (q := 14) gdX4_become_0.2.2.2.2.2.2.2 rfl fl_X4_9 0 rfl rfl ?_
  refine aw_alen (q := 15) (v := 21) gdX4_become_14.1 rfl 1 rfl (by decide) rfl ?_
  refine aw_copy (q := 18) (ws' := [(w, .inr (6, [.ref a])), (a, .inl (0, 21, .inl (va_cpy g f (0 : Int32).toNatClampNeg (0 : Int32).toNatClampNeg (21 : Int32).toNatClampNeg))), (v, .inr (6, [.ref b])), (b, .inl (0, 21, .inl g))]) gdX4_become_14.2.1 rfl ml_X4_41 w_ac (by omega) (Nat.le_of_ble_eq_true rfl) 3 1 rfl rfl (by decide) (by decide) (by decide) (by decide) (by decide) rfl ?_
  exact aw_return (w := [(w, .inr (6, [.ref a])), (a, .inl (0, 21, .inl (va_cpy g f (0 : Int32).toNatClampNeg (0 : Int32).toNatClampNeg (21 : Int32).toNatClampNeg))), (v, .inr (6, [.ref b])), (b, .inl (0, 21, .inl g))]) [0, 1, 2, 3] gdX4_become_14.2.2 rfl rfl rfl (PN.mk (fun _ => 0) rfl rfl)
def fX4_isOwnTurned (N K : Nat) (f : Nat → Int32) (g : Nat → Int32) : Option (Int32 × (Nat → Int32)) :=
  ((fX4_becomeTurned N K g f).bind (fun x2 => ((fX4_isLike N K f x2).bind (fun x7 => (if x7 = 0 ∨ x7 = 1 then (some (x7, x2)) else none)))))
set_option maxHeartbeats 4000000 in
set_option maxRecDepth 100000 in
theorem ok_X4_isOwnTurned {N K : Nat} {w v a b : Nat} {f : Nat → Int32} {g : Nat → Int32} {xr : Int32 × (Nat → Int32)} (hE : fX4_isOwnTurned N K f g = some xr) : OkM yX4_isOwnTurned (.code yX4_isOwnTurned cX4_isOwnTurned 2 (some .boolean)) (3) 0 0 [.ref w, .ref v] [(w, .inr (6, [.ref a])), (a, .inl (0, 21, .inl f)), (v, .inr (6, [.ref b])), (b, .inl (0, 21, .inl g))] ((PN (U := Int32 × (Nat → Int32)) (fun zz _ => some (.int zz.1)) (fun zz ad => [(w, .inr (6, [.ref a])), (a, .inl (0, 21, .inl f)), (v, .inr (6, [.ref b])), (b, .inl (0, 21, .inl zz.2))])) xr) := by
  refine ok_of (by decide) (Nat.le_of_ble_eq_true rfl) hE ?_
  refine aw_locals (lv' := [(0, .ref w), (1, .ref v)]) [0, 1] rfl ?_
  refine aw_aload_n (q := 1) gdX4_isOwnTurned_0.1 rfl 1 rfl ?_
  refine aw_aload_n (q := 2) gdX4_isOwnTurned_0.2.1 rfl 0 rfl ?_
  refine aw_call (q := 5) (kc1 := 0) (ks1 := 0) (wc := [(v, .inr (6, [.ref b])), (b, .inl (0, 21, .inl g)), (w, .inr (6, [.ref a])), (a, .inl (0, 21, .inl f))]) (wr := []) (st1 := fun x2 g2 => []) (ws1 := fun x2 g2 => [(v, .inr (6, [.ref b])), (b, .inl (0, 21, .inl x2)), (w, .inr (6, [.ref a])), (a, .inl (0, 21, .inl f))]) (As := [.ref v, .ref w]) [2, 3, 0, 1] [] (fun _ => runV (q0 := 2) gdX4_isOwnTurned_0.2.2.1 mi_X4_becomeTurned im_X4_becomeTurned se_X4_becomeTurned ml_X4_15 (by omega) rfl (Nat.le_of_ble_eq_true rfl) rfl rfl rfl rfl) (fun x9 h9 => ok_X4_becomeTurned h9) rfl rfl rfl rfl rfl (by decide +kernel) (by omega) (by omega) (fun _ _ => rfl) (fun _ _ => rfl) (fun x2 g2 => ?_)
  refine aw_aload_n (q := 6) gdX4_isOwnTurned_0.2.2.2.1 rfl 0 rfl ?_
  refine aw_aload_n (q := 7) gdX4_isOwnTurned_0.2.2.2.2.1 rfl 1 rfl ?_
  refine aw_call (q := 10) (kc1 := 0) (ks1 := 0) (wc := [(w, .inr (6, [.ref a])), (a, .inl (0, 21, .inl f)), (v, .inr (6, [.ref b])), (b, .inl (0, 21, .inl x2))]) (wr := []) (st1 := fun x7 g7 => [.int x7]) (ws1 := fun x7 g7 => [(w, .inr (6, [.ref a])), (a, .inl (0, 21, .inl f)), (v, .inr (6, [.ref b])), (b, .inl (0, 21, .inl x2))]) (As := [.ref w, .ref v]) [2, 3, 0, 1] [] (fun _ => runV (q0 := 2) gdX4_isOwnTurned_0.2.2.2.2.2.1 mi_X4_isLike im_X4_isLike se_X4_isLike ml_X4_19 (by omega) rfl (Nat.le_of_ble_eq_true rfl) rfl rfl rfl rfl) (fun x9 h9 => ok_X4_isLike h9) rfl rfl rfl rfl rfl (by decide +kernel) (by omega) (by omega) (fun _ _ => rfl) (fun _ _ => rfl) (fun x7 g7 => ?_)
  exact aw_zreturn (w := [(w, .inr (6, [.ref a])), (a, .inl (0, 21, .inl f)), (v, .inr (6, [.ref b])), (b, .inl (0, 21, .inl x2))]) [0, 1, 2, 3] gdX4_isOwnTurned_0.2.2.2.2.2.2 rfl rfl rfl (PN.mk (fun _ => 0) rfl rfl)
def fX4_isOfKind (N K : Nat) (f : Nat → Int32) (g : Nat → Int32) (p0 : Int32) (p1 : Int32) : Option (Int32 × (Nat → Int32)) :=
  (if p0 = (0 : Int32) then ((fX4_hasNoneAbove N K f p1).bind (fun x46 => (if x46 = 0 ∨ x46 = 1 then (some (x46, g)) else none))) else (if p0 = (1 : Int32) then ((fX4_parts N K f).bind (fun x51 => (if x51 = p1 then (some ((1 : Int32), g)) else (some ((0 : Int32), g))))) else (if p0 = (2 : Int32) then ((fX4_isUnlike N K f).bind (fun x65 => (if x65 = 0 then (some ((0 : Int32), g)) else ((fX4_hasNoneAbove N K f p1).bind (fun x73 => (if x73 = 0 then (some ((0 : Int32), g)) else (some ((1 : Int32), g)))))))) else (if p0 = (3 : Int32) then ((fX4_isOdd N K f).bind (fun x86 => (if x86 = 0 then (some ((0 : Int32), g)) else ((fX4_hasNoneAbove N K f p1).bind (fun x94 => (if x94 = 0 then (some ((0 : Int32), g)) else (some ((1 : Int32), g)))))))) else (if p0 = (4 : Int32) then ((fX4_isOdd N K f).bind (fun x107 => (if x107 = 0 then (some ((0 : Int32), g)) else ((fX4_isUnlike N K f).bind (fun x114 => (if x114 = 0 then (some ((0 : Int32), g)) else ((fX4_hasNoneAbove N K f p1).bind (fun x122 => (if x122 = 0 then (some ((0 : Int32), g)) else (some ((1 : Int32), g))))))))))) else (if p0 = (5 : Int32) then ((fX4_isUnlike N K f).bind (fun x135 => (if x135 = 0 then (some ((0 : Int32), g)) else ((fX4_parts N K f).bind (fun x142 => (if x142 = p1 then (some ((1 : Int32), g)) else (some ((0 : Int32), g)))))))) else (if p0 = (6 : Int32) then ((fX4_parts N K f).bind (fun x156 => (if p1 < x156 then (some ((0 : Int32), g)) else (some ((1 : Int32), g))))) else ((fX4_hasNoneAbove N K f p1).bind (fun x171 => (if x171 = 0 then (some ((0 : Int32), g)) else ((fX4_isOwnTurned N K f g).bind (fun x179 => (if x179.1 = 0 then (some ((0 : Int32), x179.2)) else (some ((1 : Int32), x179.2)))))))))))))))
set_option maxHeartbeats 4000000 in
set_option maxRecDepth 100000 in
theorem ok_X4_isOfKind {N K : Nat} {w v a b : Nat} {f : Nat → Int32} {g : Nat → Int32} {p0 : Int32} {p1 : Int32} {xr : Int32 × (Nat → Int32)} (hE : fX4_isOfKind N K f g p0 p1 = some xr) : OkM yX4_isOfKind (.code yX4_isOfKind cX4_isOfKind 4 (some .boolean)) (4) 0 0 [.ref w, .int p0, .int p1, .ref v] [(w, .inr (6, [.ref a])), (a, .inl (0, 21, .inl f)), (v, .inr (6, [.ref b])), (b, .inl (0, 21, .inl g))] ((PN (U := Int32 × (Nat → Int32)) (fun zz _ => some (.int zz.1)) (fun zz ad => [(w, .inr (6, [.ref a])), (a, .inl (0, 21, .inl f)), (v, .inr (6, [.ref b])), (b, .inl (0, 21, .inl zz.2))])) xr) := by
  refine ok_of (by decide) (Nat.le_of_ble_eq_true rfl) hE ?_
  refine aw_locals (lv' := [(0, .ref w), (1, .int p0), (2, .int p1), (3, .ref v)]) [0, 1, 2, 3] rfl ?_
  refine aw_iload_n (q := 1) gdX4_isOfKind_0.1 rfl 1 rfl ?_
  refine aw_tsw (v := 0) (off := 43) (tgt := 44) gdX4_isOfKind_0.2.1 (by decide) (by decide) (by decide) (by decide) (fun hs_1_0 => ?_) (fun hs_1_0 => ?_)
  · refine aw_aload_n (q := 45) gdX4_isOfKind_0.2.2.1 rfl 0 rfl ?_
    refine aw_iload_n (q := 46) gdX4_isOfKind_0.2.2.2.1 rfl 2 rfl ?_
    refine aw_call (q := 49) (kc1 := 0) (ks1 := 0) (wc := [(w, .inr (6, [.ref a])), (a, .inl (0, 21, .inl f))]) (wr := [(v, .inr (6, [.ref b])), (b, .inl (0, 21, .inl g))]) (st1 := fun x46 g46 => [.int x46]) (ws1 := fun x46 g46 => [(v, .inr (6, [.ref b])), (b, .inl (0, 21, .inl g)), (w, .inr (6, [.ref a])), (a, .inl (0, 21, .inl f))]) (As := [.ref w, .int p1]) [0, 1] [2, 3] (fun _ => runV (q0 := 0) gdX4_isOfKind_0.2.2.2.2.1 mi_X4_hasNoneAbove im_X4_hasNoneAbove se_X4_hasNoneAbove ml_X4_23 (by omega) rfl (Nat.le_of_ble_eq_true rfl) rfl rfl rfl rfl) (fun x9 h9 => ok_X4_hasNoneAbove h9) rfl rfl rfl rfl rfl (by decide +kernel) (by omega) (by omega) (fun _ _ => rfl) (fun _ _ => rfl) (fun x46 g46 => ?_)
    exact aw_zreturn (w := [(w, .inr (6, [.ref a])), (a, .inl (0, 21, .inl f)), (v, .inr (6, [.ref b])), (b, .inl (0, 21, .inl g))]) [2, 3, 0, 1] gdX4_isOfKind_0.2.2.2.2.2.1 rfl rfl rfl (PN.mk (fun _ => 0) rfl rfl)
  · refine aw_tsw (v := 1) (off := 49) (tgt := 50) gdX4_isOfKind_0.2.1 (by decide) (by decide) (by decide) (by decide) (fun hs_1_1 => ?_) (fun hs_1_1 => ?_)
    · refine aw_aload_n (q := 51) gdX4_isOfKind_0.2.2.2.2.2.2.1 rfl 0 rfl ?_
      refine aw_call (q := 54) (kc1 := 0) (ks1 := 0) (wc := [(w, .inr (6, [.ref a])), (a, .inl (0, 21, .inl f))]) (wr := [(v, .inr (6, [.ref b])), (b, .inl (0, 21, .inl g))]) (st1 := fun x51 g51 => [.int x51]) (ws1 := fun x51 g51 => [(v, .inr (6, [.ref b])), (b, .inl (0, 21, .inl g)), (w, .inr (6, [.ref a])), (a, .inl (0, 21, .inl f))]) (As := [.ref w]) [0, 1] [2, 3] (fun _ => runV (q0 := 0) gdX4_isOfKind_0.2.2.2.2.2.2.2 mi_X4_parts im_X4_parts se_X4_parts ml_X4_27 (by omega) rfl (Nat.le_of_ble_eq_true rfl) rfl rfl rfl rfl) (fun x9 h9 => ok_X4_parts h9) rfl rfl rfl rfl rfl (by decide +kernel) (by omega) (by omega) (fun _ _ => rfl) (fun _ _ => rfl) (fun x51 g51 => ?_)
      refine aw_iload_n (q := 55) gdX4_isOfKind_54.1 rfl 2 rfl ?_
      refine aw_icmp_ne (tgt := 62) (q := 58) gdX4_isOfKind_54.2.1 (by decide) rfl (fun h_55 => ?_) (fun h_55 => ?_)
      · refine aw_iconst (q := 63) (v := 0) gdX4_isOfKind_54.2.2.2.2.1 rfl (by decide) ?_
        exact aw_ireturn (w := [(w, .inr (6, [.ref a])), (a, .inl (0, 21, .inl f)), (v, .inr (6, [.ref b])), (b, .inl (0, 21, .inl g))]) [2, 3, 0, 1] gdX4_isOfKind_54.2.2.2.2.2.1 rfl rfl rfl rfl (PN.mk (fun _ => 0) rfl rfl)
      · refine aw_iconst (q := 59) (v := 1) gdX4_isOfKind_54.2.2.1 rfl (by decide) ?_
        refine aw_goto (tgt := 63) gdX4_isOfKind_54.2.2.2.1 (by decide) ?_
        exact aw_ireturn (w := [(w, .inr (6, [.ref a])), (a, .inl (0, 21, .inl f)), (v, .inr (6, [.ref b])), (b, .inl (0, 21, .inl g))]) [2, 3, 0, 1] gdX4_isOfKind_54.2.2.2.2.2.1 rfl rfl rfl rfl (PN.mk (fun _ => 0) rfl rfl)
    · refine aw_tsw (v := 2) (off := 63) (tgt := 64) gdX4_isOfKind_0.2.1 (by decide) (by decide) (by decide) (by decide) (fun hs_1_2 => ?_) (fun hs_1_2 => ?_)
      · refine aw_aload_n (q := 65) gdX4_isOfKind_54.2.2.2.2.2.2.1 rfl 0 rfl ?_
        refine aw_call (q := 68) (kc1 := 0) (ks1 := 0) (wc := [(w, .inr (6, [.ref a])), (a, .inl (0, 21, .inl f))]) (wr := [(v, .inr (6, [.ref b])), (b, .inl (0, 21, .inl g))]) (st1 := fun x65 g65 => [.int x65]) (ws1 := fun x65 g65 => [(v, .inr (6, [.ref b])), (b, .inl (0, 21, .inl g)), (w, .inr (6, [.ref a])), (a, .inl (0, 21, .inl f))]) (As := [.ref w]) [0, 1] [2, 3] (fun _ => runV (q0 := 0) gdX4_isOfKind_54.2.2.2.2.2.2.2 mi_X4_isUnlike im_X4_isUnlike se_X4_isUnlike ml_X4_31 (by omega) rfl (Nat.le_of_ble_eq_true rfl) rfl rfl rfl rfl) (fun x9 h9 => ok_X4_isUnlike h9) rfl rfl rfl rfl rfl (by decide +kernel) (by omega) (by omega) (fun _ _ => rfl) (fun _ _ => rfl) (fun x65 g65 => ?_)
        refine aw_if_eq (tgt := 83) (q := 71) gdX4_isOfKind_68.1 (by decide) rfl (fun h_68 => ?_) (fun h_68 => ?_)
        · refine aw_iconst (q := 84) (v := 0) gdX4_isOfKind_68.2.2.2.2.2.2.2 rfl (by decide) ?_
          exact aw_ireturn (w := [(w, .inr (6, [.ref a])), (a, .inl (0, 21, .inl f)), (v, .inr (6, [.ref b])), (b, .inl (0, 21, .inl g))]) [2, 3, 0, 1] gdX4_isOfKind_84.1 rfl rfl rfl rfl (PN.mk (fun _ => 0) rfl rfl)
        · refine aw_aload_n (q := 72) gdX4_isOfKind_68.2.1 rfl 0 rfl ?_
          refine aw_iload_n (q := 73) gdX4_isOfKind_68.2.2.1 rfl 2 rfl ?_
          refine aw_call (q := 76) (kc1 := 0) (ks1 := 0) (wc := [(w, .inr (6, [.ref a])), (a, .inl (0, 21, .inl f))]) (wr := [(v, .inr (6, [.ref b])), (b, .inl (0, 21, .inl g))]) (st1 := fun x73 g73 => [.int x73]) (ws1 := fun x73 g73 => [(v, .inr (6, [.ref b])), (b, .inl (0, 21, .inl g)), (w, .inr (6, [.ref a])), (a, .inl (0, 21, .inl f))]) (As := [.ref w, .int p1]) [2, 3] [0, 1] (fun _ => runV (q0 := 2) gdX4_isOfKind_68.2.2.2.1 mi_X4_hasNoneAbove im_X4_hasNoneAbove se_X4_hasNoneAbove ml_X4_23 (by omega) rfl (Nat.le_of_ble_eq_true rfl) rfl rfl rfl rfl) (fun x9 h9 => ok_X4_hasNoneAbove h9) rfl rfl rfl rfl rfl (by decide +kernel) (by omega) (by omega) (fun _ _ => rfl) (fun _ _ => rfl) (fun x73 g73 => ?_)
          refine aw_if_eq (tgt := 83) (q := 79) gdX4_isOfKind_68.2.2.2.2.1 (by decide) rfl (fun h_76 => ?_) (fun h_76 => ?_)
          · refine aw_iconst (q := 84) (v := 0) gdX4_isOfKind_68.2.2.2.2.2.2.2 rfl (by decide) ?_
            exact aw_ireturn (w := [(w, .inr (6, [.ref a])), (a, .inl (0, 21, .inl f)), (v, .inr (6, [.ref b])), (b, .inl (0, 21, .inl g))]) [2, 3, 0, 1] gdX4_isOfKind_84.1 rfl rfl rfl rfl (PN.mk (fun _ => 0) rfl rfl)
          · refine aw_iconst (q := 80) (v := 1) gdX4_isOfKind_68.2.2.2.2.2.1 rfl (by decide) ?_
            refine aw_goto (tgt := 84) gdX4_isOfKind_68.2.2.2.2.2.2.1 (by decide) ?_
            exact aw_ireturn (w := [(w, .inr (6, [.ref a])), (a, .inl (0, 21, .inl f)), (v, .inr (6, [.ref b])), (b, .inl (0, 21, .inl g))]) [2, 3, 0, 1] gdX4_isOfKind_84.1 rfl rfl rfl rfl (PN.mk (fun _ => 0) rfl rfl)
      · refine aw_tsw (v := 3) (off := 84) (tgt := 85) gdX4_isOfKind_0.2.1 (by decide) (by decide) (by decide) (by decide) (fun hs_1_3 => ?_) (fun hs_1_3 => ?_)
        · refine aw_aload_n (q := 86) gdX4_isOfKind_84.2.1 rfl 0 rfl ?_
          refine aw_call (q := 89) (kc1 := 0) (ks1 := 0) (wc := [(w, .inr (6, [.ref a])), (a, .inl (0, 21, .inl f))]) (wr := [(v, .inr (6, [.ref b])), (b, .inl (0, 21, .inl g))]) (st1 := fun x86 g86 => [.int x86]) (ws1 := fun x86 g86 => [(v, .inr (6, [.ref b])), (b, .inl (0, 21, .inl g)), (w, .inr (6, [.ref a])), (a, .inl (0, 21, .inl f))]) (As := [.ref w]) [0, 1] [2, 3] (fun _ => runV (q0 := 0) gdX4_isOfKind_84.2.2.1 mi_X4_isOdd im_X4_isOdd se_X4_isOdd ml_X4_35 (by omega) rfl (Nat.le_of_ble_eq_true rfl) rfl rfl rfl rfl) (fun x9 h9 => ok_X4_isOdd h9) rfl rfl rfl rfl rfl (by decide +kernel) (by omega) (by omega) (fun _ _ => rfl) (fun _ _ => rfl) (fun x86 g86 => ?_)
          refine aw_if_eq (tgt := 104) (q := 92) gdX4_isOfKind_84.2.2.2.1 (by decide) rfl (fun h_89 => ?_) (fun h_89 => ?_)
          · refine aw_iconst (q := 105) (v := 0) gdX4_isOfKind_100.2.2.1 rfl (by decide) ?_
            exact aw_ireturn (w := [(w, .inr (6, [.ref a])), (a, .inl (0, 21, .inl f)), (v, .inr (6, [.ref b])), (b, .inl (0, 21, .inl g))]) [2, 3, 0, 1] gdX4_isOfKind_100.2.2.2.1 rfl rfl rfl rfl (PN.mk (fun _ => 0) rfl rfl)
          · refine aw_aload_n (q := 93) gdX4_isOfKind_84.2.2.2.2.1 rfl 0 rfl ?_
            refine aw_iload_n (q := 94) gdX4_isOfKind_84.2.2.2.2.2.1 rfl 2 rfl ?_
            refine aw_call (q := 97) (kc1 := 0) (ks1 := 0) (wc := [(w, .inr (6, [.ref a])), (a, .inl (0, 21, .inl f))]) (wr := [(v, .inr (6, [.ref b])), (b, .inl (0, 21, .inl g))]) (st1 := fun x94 g94 => [.int x94]) (ws1 := fun x94 g94 => [(v, .inr (6, [.ref b])), (b, .inl (0, 21, .inl g)), (w, .inr (6, [.ref a])), (a, .inl (0, 21, .inl f))]) (As := [.ref w, .int p1]) [2, 3] [0, 1] (fun _ => runV (q0 := 2) gdX4_isOfKind_84.2.2.2.2.2.2.1 mi_X4_hasNoneAbove im_X4_hasNoneAbove se_X4_hasNoneAbove ml_X4_23 (by omega) rfl (Nat.le_of_ble_eq_true rfl) rfl rfl rfl rfl) (fun x9 h9 => ok_X4_hasNoneAbove h9) rfl rfl rfl rfl rfl (by decide +kernel) (by omega) (by omega) (fun _ _ => rfl) (fun _ _ => rfl) (fun x94 g94 => ?_)
            refine aw_if_eq (tgt := 104) (q := 100) gdX4_isOfKind_84.2.2.2.2.2.2.2 (by decide) rfl (fun h_97 => ?_) (fun h_97 => ?_)
            · refine aw_iconst (q := 105) (v := 0) gdX4_isOfKind_100.2.2.1 rfl (by decide) ?_
              exact aw_ireturn (w := [(w, .inr (6, [.ref a])), (a, .inl (0, 21, .inl f)), (v, .inr (6, [.ref b])), (b, .inl (0, 21, .inl g))]) [2, 3, 0, 1] gdX4_isOfKind_100.2.2.2.1 rfl rfl rfl rfl (PN.mk (fun _ => 0) rfl rfl)
            · refine aw_iconst (q := 101) (v := 1) gdX4_isOfKind_100.1 rfl (by decide) ?_
              refine aw_goto (tgt := 105) gdX4_isOfKind_100.2.1 (by decide) ?_
              exact aw_ireturn (w := [(w, .inr (6, [.ref a])), (a, .inl (0, 21, .inl f)), (v, .inr (6, [.ref b])), (b, .inl (0, 21, .inl g))]) [2, 3, 0, 1] gdX4_isOfKind_100.2.2.2.1 rfl rfl rfl rfl (PN.mk (fun _ => 0) rfl rfl)
        · refine aw_tsw (v := 4) (off := 105) (tgt := 106) gdX4_isOfKind_0.2.1 (by decide) (by decide) (by decide) (by decide) (fun hs_1_4 => ?_) (fun hs_1_4 => ?_)
          · refine aw_aload_n (q := 107) gdX4_isOfKind_100.2.2.2.2.1 rfl 0 rfl ?_
            refine aw_call (q := 110) (kc1 := 0) (ks1 := 0) (wc := [(w, .inr (6, [.ref a])), (a, .inl (0, 21, .inl f))]) (wr := [(v, .inr (6, [.ref b])), (b, .inl (0, 21, .inl g))]) (st1 := fun x107 g107 => [.int x107]) (ws1 := fun x107 g107 => [(v, .inr (6, [.ref b])), (b, .inl (0, 21, .inl g)), (w, .inr (6, [.ref a])), (a, .inl (0, 21, .inl f))]) (As := [.ref w]) [0, 1] [2, 3] (fun _ => runV (q0 := 0) gdX4_isOfKind_100.2.2.2.2.2.1 mi_X4_isOdd im_X4_isOdd se_X4_isOdd ml_X4_35 (by omega) rfl (Nat.le_of_ble_eq_true rfl) rfl rfl rfl rfl) (fun x9 h9 => ok_X4_isOdd h9) rfl rfl rfl rfl rfl (by decide +kernel) (by omega) (by omega) (fun _ _ => rfl) (fun _ _ => rfl) (fun x107 g107 => ?_)
            refine aw_if_eq (tgt := 132) (q := 113) gdX4_isOfKind_100.2.2.2.2.2.2.1 (by decide) rfl (fun h_110 => ?_) (fun h_110 => ?_)
            · refine aw_iconst (q := 133) (v := 0) gdX4_isOfKind_132.1 rfl (by decide) ?_
              exact aw_ireturn (w := [(w, .inr (6, [.ref a])), (a, .inl (0, 21, .inl f)), (v, .inr (6, [.ref b])), (b, .inl (0, 21, .inl g))]) [2, 3, 0, 1] gdX4_isOfKind_132.2.1 rfl rfl rfl rfl (PN.mk (fun _ => 0) rfl rfl)
            · refine aw_aload_n (q := 114) gdX4_isOfKind_100.2.2.2.2.2.2.2 rfl 0 rfl ?_
              refine aw_call (q := 117) (kc1 := 0) (ks1 := 0) (wc := [(w, .inr (6, [.ref a])), (a, .inl (0, 21, .inl f))]) (wr := [(v, .inr (6, [.ref b])), (b, .inl (0, 21, .inl g))]) (st1 := fun x114 g114 => [.int x114]) (ws1 := fun x114 g114 => [(v, .inr (6, [.ref b])), (b, .inl (0, 21, .inl g)), (w, .inr (6, [.ref a])), (a, .inl (0, 21, .inl f))]) (As := [.ref w]) [2, 3] [0, 1] (fun _ => runV (q0 := 2) gdX4_isOfKind_114.1 mi_X4_isUnlike im_X4_isUnlike se_X4_isUnlike ml_X4_31 (by omega) rfl (Nat.le_of_ble_eq_true rfl) rfl rfl rfl rfl) (fun x9 h9 => ok_X4_isUnlike h9) rfl rfl rfl rfl rfl (by decide +kernel) (by omega) (by omega) (fun _ _ => rfl) (fun _ _ => rfl) (fun x114 g114 => ?_)
              refine aw_if_eq (tgt := 132) (q := 120) gdX4_isOfKind_114.2.1 (by decide) rfl (fun h_117 => ?_) (fun h_117 => ?_)
              · refine aw_iconst (q := 133) (v := 0) gdX4_isOfKind_132.1 rfl (by decide) ?_
                exact aw_ireturn (w := [(w, .inr (6, [.ref a])), (a, .inl (0, 21, .inl f)), (v, .inr (6, [.ref b])), (b, .inl (0, 21, .inl g))]) [2, 3, 0, 1] gdX4_isOfKind_132.2.1 rfl rfl rfl rfl (PN.mk (fun _ => 0) rfl rfl)
              · refine aw_aload_n (q := 121) gdX4_isOfKind_114.2.2.1 rfl 0 rfl ?_
                refine aw_iload_n (q := 122) gdX4_isOfKind_114.2.2.2.1 rfl 2 rfl ?_
                refine aw_call (q := 125) (kc1 := 0) (ks1 := 0) (wc := [(w, .inr (6, [.ref a])), (a, .inl (0, 21, .inl f))]) (wr := [(v, .inr (6, [.ref b])), (b, .inl (0, 21, .inl g))]) (st1 := fun x122 g122 => [.int x122]) (ws1 := fun x122 g122 => [(v, .inr (6, [.ref b])), (b, .inl (0, 21, .inl g)), (w, .inr (6, [.ref a])), (a, .inl (0, 21, .inl f))]) (As := [.ref w, .int p1]) [2, 3] [0, 1] (fun _ => runV (q0 := 2) gdX4_isOfKind_114.2.2.2.2.1 mi_X4_hasNoneAbove im_X4_hasNoneAbove se_X4_hasNoneAbove ml_X4_23 (by omega) rfl (Nat.le_of_ble_eq_true rfl) rfl rfl rfl rfl) (fun x9 h9 => ok_X4_hasNoneAbove h9) rfl rfl rfl rfl rfl (by decide +kernel) (by omega) (by omega) (fun _ _ => rfl) (fun _ _ => rfl) (fun x122 g122 => ?_)
                refine aw_if_eq (tgt := 132) (q := 128) gdX4_isOfKind_114.2.2.2.2.2.1 (by decide) rfl (fun h_125 => ?_) (fun h_125 => ?_)
                · refine aw_iconst (q := 133) (v := 0) gdX4_isOfKind_132.1 rfl (by decide) ?_
                  exact aw_ireturn (w := [(w, .inr (6, [.ref a])), (a, .inl (0, 21, .inl f)), (v, .inr (6, [.ref b])), (b, .inl (0, 21, .inl g))]) [2, 3, 0, 1] gdX4_isOfKind_132.2.1 rfl rfl rfl rfl (PN.mk (fun _ => 0) rfl rfl)
                · refine aw_iconst (q := 129) (v := 1) gdX4_isOfKind_114.2.2.2.2.2.2.1 rfl (by decide) ?_
                  refine aw_goto (tgt := 133) gdX4_isOfKind_114.2.2.2.2.2.2.2 (by decide) ?_
                  exact aw_ireturn (w := [(w, .inr (6, [.ref a])), (a, .inl (0, 21, .inl f)), (v, .inr (6, [.ref b])), (b, .inl (0, 21, .inl g))]) [2, 3, 0, 1] gdX4_isOfKind_132.2.1 rfl rfl rfl rfl (PN.mk (fun _ => 0) rfl rfl)
          · refine aw_tsw (v := 5) (off := 133) (tgt := 134) gdX4_isOfKind_0.2.1 (by decide) (by decide) (by decide) (by decide) (fun hs_1_5 => ?_) (fun hs_1_5 => ?_)
            · refine aw_aload_n (q := 135) gdX4_isOfKind_132.2.2.1 rfl 0 rfl ?_
              refine aw_call (q := 138) (kc1 := 0) (ks1 := 0) (wc := [(w, .inr (6, [.ref a])), (a, .inl (0, 21, .inl f))]) (wr := [(v, .inr (6, [.ref b])), (b, .inl (0, 21, .inl g))]) (st1 := fun x135 g135 => [.int x135]) (ws1 := fun x135 g135 => [(v, .inr (6, [.ref b])), (b, .inl (0, 21, .inl g)), (w, .inr (6, [.ref a])), (a, .inl (0, 21, .inl f))]) (As := [.ref w]) [0, 1] [2, 3] (fun _ => runV (q0 := 0) gdX4_isOfKind_132.2.2.2.1 mi_X4_isUnlike im_X4_isUnlike se_X4_isUnlike ml_X4_31 (by omega) rfl (Nat.le_of_ble_eq_true rfl) rfl rfl rfl rfl) (fun x9 h9 => ok_X4_isUnlike h9) rfl rfl rfl rfl rfl (by decide +kernel) (by omega) (by omega) (fun _ _ => rfl) (fun _ _ => rfl) (fun x135 g135 => ?_)
              refine aw_if_eq (tgt := 153) (q := 141) gdX4_isOfKind_132.2.2.2.2.1 (by decide) rfl (fun h_138 => ?_) (fun h_138 => ?_)
              · refine aw_iconst (q := 154) (v := 0) gdX4_isOfKind_146.2.2.2.1 rfl (by decide) ?_
                exact aw_ireturn (w := [(w, .inr (6, [.ref a])), (a, .inl (0, 21, .inl f)), (v, .inr (6, [.ref b])), (b, .inl (0, 21, .inl g))]) [2, 3, 0, 1] gdX4_isOfKind_146.2.2.2.2.1 rfl rfl rfl rfl (PN.mk (fun _ => 0) rfl rfl)
              · refine aw_aload_n (q := 142) gdX4_isOfKind_132.2.2.2.2.2.1 rfl 0 rfl ?_
                refine aw_call (q := 145) (kc1 := 0) (ks1 := 0) (wc := [(w, .inr (6, [.ref a])), (a, .inl (0, 21, .inl f))]) (wr := [(v, .inr (6, [.ref b])), (b, .inl (0, 21, .inl g))]) (st1 := fun x142 g142 => [.int x142]) (ws1 := fun x142 g142 => [(v, .inr (6, [.ref b])), (b, .inl (0, 21, .inl g)), (w, .inr (6, [.ref a])), (a, .inl (0, 21, .inl f))]) (As := [.ref w]) [2, 3] [0, 1] (fun _ => runV (q0 := 2) gdX4_isOfKind_132.2.2.2.2.2.2.1 mi_X4_parts im_X4_parts se_X4_parts ml_X4_27 (by omega) rfl (Nat.le_of_ble_eq_true rfl) rfl rfl rfl rfl) (fun x9 h9 => ok_X4_parts h9) rfl rfl rfl rfl rfl (by decide +kernel) (by omega) (by omega) (fun _ _ => rfl) (fun _ _ => rfl) (fun x142 g142 => ?_)
                refine aw_iload_n (q := 146) gdX4_isOfKind_132.2.2.2.2.2.2.2 rfl 2 rfl ?_
                refine aw_icmp_ne (tgt := 153) (q := 149) gdX4_isOfKind_146.1 (by decide) rfl (fun h_146 => ?_) (fun h_146 => ?_)
                · refine aw_iconst (q := 154) (v := 0) gdX4_isOfKind_146.2.2.2.1 rfl (by decide) ?_
                  exact aw_ireturn (w := [(w, .inr (6, [.ref a])), (a, .inl (0, 21, .inl f)), (v, .inr (6, [.ref b])), (b, .inl (0, 21, .inl g))]) [2, 3, 0, 1] gdX4_isOfKind_146.2.2.2.2.1 rfl rfl rfl rfl (PN.mk (fun _ => 0) rfl rfl)
                · refine aw_iconst (q := 150) (v := 1) gdX4_isOfKind_146.2.1 rfl (by decide) ?_
                  refine aw_goto (tgt := 154) gdX4_isOfKind_146.2.2.1 (by decide) ?_
                  exact aw_ireturn (w := [(w, .inr (6, [.ref a])), (a, .inl (0, 21, .inl f)), (v, .inr (6, [.ref b])), (b, .inl (0, 21, .inl g))]) [2, 3, 0, 1] gdX4_isOfKind_146.2.2.2.2.1 rfl rfl rfl rfl (PN.mk (fun _ => 0) rfl rfl)
            · refine aw_tsw (v := 6) (off := 154) (tgt := 155) gdX4_isOfKind_0.2.1 (by decide) (by decide) (by decide) (by decide) (fun hs_1_6 => ?_) (fun hs_1_6 => ?_)
              · refine aw_aload_n (q := 156) gdX4_isOfKind_146.2.2.2.2.2.1 rfl 0 rfl ?_
                refine aw_call (q := 159) (kc1 := 0) (ks1 := 0) (wc := [(w, .inr (6, [.ref a])), (a, .inl (0, 21, .inl f))]) (wr := [(v, .inr (6, [.ref b])), (b, .inl (0, 21, .inl g))]) (st1 := fun x156 g156 => [.int x156]) (ws1 := fun x156 g156 => [(v, .inr (6, [.ref b])), (b, .inl (0, 21, .inl g)), (w, .inr (6, [.ref a])), (a, .inl (0, 21, .inl f))]) (As := [.ref w]) [0, 1] [2, 3] (fun _ => runV (q0 := 0) gdX4_isOfKind_146.2.2.2.2.2.2.1 mi_X4_parts im_X4_parts se_X4_parts ml_X4_27 (by omega) rfl (Nat.le_of_ble_eq_true rfl) rfl rfl rfl rfl) (fun x9 h9 => ok_X4_parts h9) rfl rfl rfl rfl rfl (by decide +kernel) (by omega) (by omega) (fun _ _ => rfl) (fun _ _ => rfl) (fun x156 g156 => ?_)
                refine aw_iload_n (q := 160) gdX4_isOfKind_146.2.2.2.2.2.2.2 rfl 2 rfl ?_
                refine aw_icmp_gt (tgt := 167) (q := 163) gdX4_isOfKind_160.1 (by decide) rfl (fun h_160 => ?_) (fun h_160 => ?_)
                · refine aw_iconst (q := 168) (v := 0) gdX4_isOfKind_160.2.2.2.1 rfl (by decide) ?_
                  exact aw_ireturn (w := [(w, .inr (6, [.ref a])), (a, .inl (0, 21, .inl f)), (v, .inr (6, [.ref b])), (b, .inl (0, 21, .inl g))]) [2, 3, 0, 1] gdX4_isOfKind_160.2.2.2.2.1 rfl rfl rfl rfl (PN.mk (fun _ => 0) rfl rfl)
                · refine aw_iconst (q := 164) (v := 1) gdX4_isOfKind_160.2.1 rfl (by decide) ?_
                  refine aw_goto (tgt := 168) gdX4_isOfKind_160.2.2.1 (by decide) ?_
                  exact aw_ireturn (w := [(w, .inr (6, [.ref a])), (a, .inl (0, 21, .inl f)), (v, .inr (6, [.ref b])), (b, .inl (0, 21, .inl g))]) [2, 3, 0, 1] gdX4_isOfKind_160.2.2.2.2.1 rfl rfl rfl rfl (PN.mk (fun _ => 0) rfl rfl)
              · refine aw_tswD (tgt := 169) gdX4_isOfKind_0.2.1 (by have e0 := lv_neT (a := 0) hs_1_0 (by decide); have e1 := lv_neT (a := 1) hs_1_1 (by decide); have e2 := lv_neT (a := 2) hs_1_2 (by decide); have e3 := lv_neT (a := 3) hs_1_3 (by decide); have e4 := lv_neT (a := 4) hs_1_4 (by decide); have e5 := lv_neT (a := 5) hs_1_5 (by decide); have e6 := lv_neT (a := 6) hs_1_6 (by decide); omega) (by decide) ?_
                refine aw_aload_n (q := 170) gdX4_isOfKind_160.2.2.2.2.2.1 rfl 0 rfl ?_
                refine aw_iload_n (q := 171) gdX4_isOfKind_160.2.2.2.2.2.2.1 rfl 2 rfl ?_
                refine aw_call (q := 174) (kc1 := 0) (ks1 := 0) (wc := [(w, .inr (6, [.ref a])), (a, .inl (0, 21, .inl f))]) (wr := [(v, .inr (6, [.ref b])), (b, .inl (0, 21, .inl g))]) (st1 := fun x171 g171 => [.int x171]) (ws1 := fun x171 g171 => [(v, .inr (6, [.ref b])), (b, .inl (0, 21, .inl g)), (w, .inr (6, [.ref a])), (a, .inl (0, 21, .inl f))]) (As := [.ref w, .int p1]) [0, 1] [2, 3] (fun _ => runV (q0 := 0) gdX4_isOfKind_160.2.2.2.2.2.2.2 mi_X4_hasNoneAbove im_X4_hasNoneAbove se_X4_hasNoneAbove ml_X4_23 (by omega) rfl (Nat.le_of_ble_eq_true rfl) rfl rfl rfl rfl) (fun x9 h9 => ok_X4_hasNoneAbove h9) rfl rfl rfl rfl rfl (by decide +kernel) (by omega) (by omega) (fun _ _ => rfl) (fun _ _ => rfl) (fun x171 g171 => ?_)
                refine aw_if_eq (tgt := 189) (q := 177) gdX4_isOfKind_174.1 (by decide) rfl (fun h_174 => ?_) (fun h_174 => ?_)
                · refine aw_iconst (q := 190) (v := 0) gdX4_isOfKind_174.2.2.2.2.2.2.2 rfl (by decide) ?_
                  exact aw_ireturn (w := [(w, .inr (6, [.ref a])), (a, .inl (0, 21, .inl f)), (v, .inr (6, [.ref b])), (b, .inl (0, 21, .inl g))]) [2, 3, 0, 1] dX4_isOfKind_190 rfl rfl rfl rfl (PN.mk (fun _ => 0) rfl rfl)
                · refine aw_aload_n (q := 178) gdX4_isOfKind_174.2.1 rfl 0 rfl ?_
                  refine aw_aload_n (q := 179) gdX4_isOfKind_174.2.2.1 rfl 3 rfl ?_
                  refine aw_call (q := 182) (kc1 := 0) (ks1 := 0) (wc := [(w, .inr (6, [.ref a])), (a, .inl (0, 21, .inl f)), (v, .inr (6, [.ref b])), (b, .inl (0, 21, .inl g))]) (wr := []) (st1 := fun x179 g179 => [.int x179.1]) (ws1 := fun x179 g179 => [(w, .inr (6, [.ref a])), (a, .inl (0, 21, .inl f)), (v, .inr (6, [.ref b])), (b, .inl (0, 21, .inl x179.2))]) (As := [.ref w, .ref v]) [2, 3, 0, 1] [] (fun _ => runV (q0 := 2) gdX4_isOfKind_174.2.2.2.1 mi_X4_isOwnTurned im_X4_isOwnTurned se_X4_isOwnTurned ml_X4_38 (by omega) rfl (Nat.le_of_ble_eq_true rfl) rfl rfl rfl rfl) (fun x9 h9 => ok_X4_isOwnTurned h9) rfl rfl rfl rfl rfl (by decide +kernel) (by omega) (by omega) (fun _ _ => rfl) (fun _ _ => rfl) (fun x179 g179 => ?_)
                  refine aw_if_eq (tgt := 189) (q := 185) gdX4_isOfKind_174.2.2.2.2.1 (by decide) rfl (fun h_182 => ?_) (fun h_182 => ?_)
                  · refine aw_iconst (q := 190) (v := 0) gdX4_isOfKind_174.2.2.2.2.2.2.2 rfl (by decide) ?_
                    exact aw_ireturn (w := [(w, .inr (6, [.ref a])), (a, .inl (0, 21, .inl f)), (v, .inr (6, [.ref b])), (b, .inl (0, 21, .inl x179.2))]) [0, 1, 2, 3] dX4_isOfKind_190 rfl rfl rfl rfl (PN.mk (fun _ => 0) rfl rfl)
                  · refine aw_iconst (q := 186) (v := 1) gdX4_isOfKind_174.2.2.2.2.2.1 rfl (by decide) ?_
                    refine aw_goto (tgt := 190) gdX4_isOfKind_174.2.2.2.2.2.2.1 (by decide) ?_
                    exact aw_ireturn (w := [(w, .inr (6, [.ref a])), (a, .inl (0, 21, .inl f)), (v, .inr (6, [.ref b])), (b, .inl (0, 21, .inl x179.2))]) [0, 1, 2, 3] dX4_isOfKind_190 rfl rfl rfl rfl (PN.mk (fun _ => 0) rfl rfl)
def fX4_stepOn (N K : Nat) (f : Nat → Int32) : Option (Int32 × (Nat → Int32)) :=
  ((fX4_leastAboveOne N K f).bind (fun x1 => (if x1 < (2 : Int32) then (some ((0 : Int32), f)) else (if x1 ≤ (20 : Int32) then (if x1 < 0 ∨ 21 ≤ x1.toNatClampNeg then none else (if x1 < 0 ∨ 21 ≤ x1.toNatClampNeg then none else (if (x1 - (1 : Int32)) = 0 then none else ((fX4_put N K (upd (upd f x1.toNatClampNeg ((f x1.toNatClampNeg) - (1 : Int32))) (1 : Int32).toNatClampNeg (0 : Int32)) (x1 - (1 : Int32)) ((x1 + (f (1 : Int32).toNatClampNeg)) / (x1 - (1 : Int32)))).bind (fun x53 => (if (x1 - (1 : Int32)) = 0 then none else ((fX4_put N K x53 ((x1 + (f (1 : Int32).toNatClampNeg)) % (x1 - (1 : Int32))) (1 : Int32)).bind (fun x61 => (some ((1 : Int32), x61)))))))))) else (some ((0 : Int32), f))))))
set_option maxHeartbeats 4000000 in
set_option maxRecDepth 100000 in
theorem ok_X4_stepOn {N K : Nat} {w a : Nat} {f : Nat → Int32} {xr : Int32 × (Nat → Int32)} (hE : fX4_stepOn N K f = some xr) : OkM yX4_stepOn (.code yX4_stepOn cX4_stepOn 4 (some .boolean)) (1) 0 0 [.ref w] [(w, .inr (6, [.ref a])), (a, .inl (0, 21, .inl f))] ((PN (U := Int32 × (Nat → Int32)) (fun zz _ => some (.int zz.1)) (fun zz ad => [(w, .inr (6, [.ref a])), (a, .inl (0, 21, .inl zz.2))])) xr) := by
  refine ok_of (by decide) (Nat.le_of_ble_eq_true rfl) hE ?_
  refine aw_locals (lv' := [(0, .ref w)]) [0] rfl ?_
  refine aw_aload_n (q := 1) gdX4_stepOn_0.1 rfl 0 rfl ?_
  refine aw_call (q := 4) (kc1 := 0) (ks1 := 0) (wc := [(w, .inr (6, [.ref a])), (a, .inl (0, 21, .inl f))]) (wr := []) (st1 := fun x1 g1 => [.int x1]) (ws1 := fun x1 g1 => [(w, .inr (6, [.ref a])), (a, .inl (0, 21, .inl f))]) (As := [.ref w]) [0, 1] [] (fun _ => runV (q0 := 0) gdX4_stepOn_0.2.1 mi_X4_leastAboveOne im_X4_leastAboveOne se_X4_leastAboveOne ml_X4_60 (by omega) rfl (Nat.le_of_ble_eq_true rfl) rfl rfl rfl rfl) (fun x9 h9 => ok_X4_leastAboveOne h9) rfl rfl rfl rfl rfl (by decide +kernel) (by omega) (by omega) (fun _ _ => rfl) (fun _ _ => rfl) (fun x1 g1 => ?_)
  refine aw_istore_n (q := 5) (lv' := [(1, .int x1), (0, .ref w)]) gdX4_stepOn_0.2.2.1 rfl (by decide) rfl ?_
  refine aw_iload_n (q := 6) gdX4_stepOn_0.2.2.2.1 rfl 0 rfl ?_
  refine aw_iconst (q := 7) (v := 2) gdX4_stepOn_0.2.2.2.2.1 rfl (by decide) ?_
  refine aw_icmp_lt (tgt := 16) (q := 10) gdX4_stepOn_0.2.2.2.2.2.1 (by decide) rfl (fun h_7 => ?_) (fun h_7 => ?_)
  · refine aw_iconst (q := 17) (v := 0) gdX4_stepOn_13.2.1 rfl (by decide) ?_
    exact aw_ireturn (w := [(w, .inr (6, [.ref a])), (a, .inl (0, 21, .inl f))]) [0, 1] gdX4_stepOn_13.2.2.1 rfl rfl rfl rfl (PN.mk (fun _ => 0) rfl rfl)
  · refine aw_iload_n (q := 11) gdX4_stepOn_0.2.2.2.2.2.2.1 rfl 0 rfl ?_
    refine aw_bipush (q := 13) (v := 20) gdX4_stepOn_0.2.2.2.2.2.2.2 rfl (by decide) ?_
    refine aw_icmp_le (tgt := 18) (q := 16) gdX4_stepOn_13.1 (by decide) rfl (fun h_13 => ?_) (fun h_13 => ?_)
    · refine aw_iload_n (q := 19) gdX4_stepOn_13.2.2.2.1 rfl 0 rfl ?_
      refine aw_iconst (q := 20) (v := 1) gdX4_stepOn_13.2.2.2.2.1 rfl (by decide) ?_
      refine aw_isub (q := 21) gdX4_stepOn_13.2.2.2.2.2.1 rfl ?_
      refine aw_istore_n (q := 22) (lv' := [(2, .int (x1 - (1 : Int32))), (1, .int x1), (0, .ref w)]) gdX4_stepOn_13.2.2.2.2.2.2.1 rfl (by decide) rfl ?_
      refine aw_iload_n (q := 23) gdX4_stepOn_13.2.2.2.2.2.2.2 rfl 1 rfl ?_
      refine aw_aload_n (q := 24) gdX4_stepOn_23.1 rfl 2 rfl ?_
      refine aw_get (q := 27) gdX4_stepOn_23.2.1 rfl fl_X4_9 0 rfl rfl ?_
      refine aw_iconst (q := 28) (v := 1) gdX4_stepOn_23.2.2.1 rfl (by decide) ?_
      refine aw_ialdT (q := 29) (by decide) gdX4_stepOn_23.2.2.2.1 rfl 1 rfl ?_
      refine aw_iadd (q := 30) gdX4_stepOn_23.2.2.2.2.1 rfl ?_
      refine aw_istore_n (q := 31) (lv' := [(3, .int (x1 + (f (1 : Int32).toNatClampNeg))), (2, .int (x1 - (1 : Int32))), (1, .int x1), (0, .ref w)]) gdX4_stepOn_23.2.2.2.2.2.1 rfl (by decide) rfl ?_
      refine aw_aload_n (q := 32) gdX4_stepOn_23.2.2.2.2.2.2.1 rfl 3 rfl ?_
      refine aw_get (q := 35) gdX4_stepOn_23.2.2.2.2.2.2.2 rfl fl_X4_9 0 rfl rfl ?_
      refine aw_iload_n (q := 36) gdX4_stepOn_35.1 rfl 2 rfl ?_
      refine aw_dup2 (q := 37) gdX4_stepOn_35.2.1 rfl rfl rfl ?_
      refine aw_iald (q := 38) gdX4_stepOn_35.2.2.1 rfl 1 rfl ?_
      refine aw_iconst (q := 39) (v := 1) gdX4_stepOn_35.2.2.2.1 rfl (by decide) ?_
      refine aw_isub (q := 40) gdX4_stepOn_35.2.2.2.2.1 rfl ?_
      refine aw_iast (q := 41) (ws' := [(w, .inr (6, [.ref a])), (a, .inl (0, 21, .inl (upd f x1.toNatClampNeg ((f x1.toNatClampNeg) - (1 : Int32)))))]) gdX4_stepOn_35.2.2.2.2.2.1 rfl 1 rfl rfl ?_
      refine aw_aload_n (q := 42) gdX4_stepOn_35.2.2.2.2.2.2.1 rfl 3 rfl ?_
      refine aw_get (q := 45) gdX4_stepOn_35.2.2.2.2.2.2.2 rfl fl_X4_9 0 rfl rfl ?_
      refine aw_iconst (q := 46) (v := 1) gdX4_stepOn_45.1 rfl (by decide) ?_
      refine aw_iconst (q := 47) (v := 0) gdX4_stepOn_45.2.1 rfl (by decide) ?_
      refine aw_iastT (q := 48) (ws' := [(w, .inr (6, [.ref a])), (a, .inl (0, 21, .inl (upd (upd f x1.toNatClampNeg ((f x1.toNatClampNeg) - (1 : Int32))) (1 : Int32).toNatClampNeg (0 : Int32))))]) (by decide) gdX4_stepOn_45.2.2.1 rfl 1 rfl rfl ?_
      refine aw_aload_n (q := 49) gdX4_stepOn_45.2.2.2.1 rfl 3 rfl ?_
      refine aw_iload_n (q := 50) gdX4_stepOn_45.2.2.2.2.1 rfl 1 rfl ?_
      refine aw_iload_n (q := 51) gdX4_stepOn_45.2.2.2.2.2.1 rfl 0 rfl ?_
      refine aw_iload_n (q := 52) gdX4_stepOn_45.2.2.2.2.2.2.1 rfl 1 rfl ?_
      refine aw_idiv (q := 53) gdX4_stepOn_45.2.2.2.2.2.2.2 rfl ?_
      refine aw_call (q := 56) (kc1 := 0) (ks1 := 0) (wc := [(w, .inr (6, [.ref a])), (a, .inl (0, 21, .inl (upd (upd f x1.toNatClampNeg ((f x1.toNatClampNeg) - (1 : Int32))) (1 : Int32).toNatClampNeg (0 : Int32))))]) (wr := []) (st1 := fun x53 g53 => []) (ws1 := fun x53 g53 => [(w, .inr (6, [.ref a])), (a, .inl (0, 21, .inl x53))]) (As := [.ref w, .int (x1 - (1 : Int32)), .int ((x1 + (f (1 : Int32).toNatClampNeg)) / (x1 - (1 : Int32)))]) [0, 1] [] (fun _ => runV (q0 := 0) gdX4_stepOn_53.1 mi_X4_put im_X4_put se_X4_put ml_X4_56 (by omega) rfl (Nat.le_of_ble_eq_true rfl) rfl rfl rfl rfl) (fun x9 h9 => ok_X4_put h9) rfl rfl rfl rfl rfl (by decide +kernel) (by omega) (by omega) (fun _ _ => rfl) (fun _ _ => rfl) (fun x53 g53 => ?_)
      refine aw_aload_n (q := 57) gdX4_stepOn_53.2.1 rfl 3 rfl ?_
      refine aw_iload_n (q := 58) gdX4_stepOn_53.2.2.1 rfl 0 rfl ?_
      refine aw_iload_n (q := 59) gdX4_stepOn_53.2.2.2.1 rfl 1 rfl ?_
      refine aw_irem (q := 60) gdX4_stepOn_53.2.2.2.2.1 rfl ?_
      refine aw_iconst (q := 61) (v := 1) gdX4_stepOn_53.2.2.2.2.2.1 rfl (by decide) ?_
      refine aw_call (q := 64) (kc1 := 0) (ks1 := 0) (wc := [(w, .inr (6, [.ref a])), (a, .inl (0, 21, .inl x53))]) (wr := []) (st1 := fun x61 g61 => []) (ws1 := fun x61 g61 => [(w, .inr (6, [.ref a])), (a, .inl (0, 21, .inl x61))]) (As := [.ref w, .int ((x1 + (f (1 : Int32).toNatClampNeg)) % (x1 - (1 : Int32))), .int (1 : Int32)]) [0, 1] [] (fun _ => runV (q0 := 0) gdX4_stepOn_53.2.2.2.2.2.2.1 mi_X4_put im_X4_put se_X4_put ml_X4_56 (by omega) rfl (Nat.le_of_ble_eq_true rfl) rfl rfl rfl rfl) (fun x9 h9 => ok_X4_put h9) rfl rfl rfl rfl rfl (by decide +kernel) (by omega) (by omega) (fun _ _ => rfl) (fun _ _ => rfl) (fun x61 g61 => ?_)
      refine aw_iconst (q := 65) (v := 1) gdX4_stepOn_53.2.2.2.2.2.2.2 rfl (by decide) ?_
      exact aw_ireturn (w := [(w, .inr (6, [.ref a])), (a, .inl (0, 21, .inl x61))]) [0, 1] dX4_stepOn_65 rfl rfl rfl rfl (PN.mk (fun _ => 0) rfl rfl)
    · refine aw_iconst (q := 17) (v := 0) gdX4_stepOn_13.2.1 rfl (by decide) ?_
      exact aw_ireturn (w := [(w, .inr (6, [.ref a])), (a, .inl (0, 21, .inl f))]) [0, 1] gdX4_stepOn_13.2.2.1 rfl rfl rfl rfl (PN.mk (fun _ => 0) rfl rfl)
