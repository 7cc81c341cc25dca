section MG_10way
def fJ_fill_5 (N K : Nat) (n : Nat) (f : Nat → Int32) (v : Int32) : Nat → Int32 → Int32 → (Nat → Int32) → Option ((Nat → Int32))
  | 0, _, _, _ => none
  | fu + 1, l2, l3, f_ =>
    (if l3 ≤ l2 then (some f_) else (if l2 < 0 ∨ n ≤ l2.toNatClampNeg then none else fJ_fill_5 N K n f v  fu (l2 + (1 : Int32)) l3 (upd f_ l2.toNatClampNeg v)))
set_option maxHeartbeats 4000000 in
set_option maxRecDepth 100000 in
theorem tJ_fill_5 {N K : Nat} {a : Nat} {n : Nat} {f : Nat → Int32} {v : Int32} : ∀ (fu : Nat) (l2 : Int32) (l3 : Int32) (f_ : Nat → Int32), AW RJ7 "fill" cJ7_fill_53178 4 none [] (fun _ _ => True) (0) (PN (U := (Nat → Int32)) (fun _ _ => none) (fun zz ad => [(a, .inl (0, n, .inl zz))])) 0 0 (fJ_fill_5 N K n f v  fu l2 l3 f_) 5 [(0, .ref a), (1, .int v), (2, .int l2), (3, .int l3)] [] [(a, .inl (0, n, .inl f_))] := by
  intro fu
  induction fu with
  | zero => intro l2 l3 f_; exact aw_none
  | succ fu ih =>
    intro l2 l3 f_
    refine aw_iload_n (q := 6) gdJ7_fill_53178_0.2.2.2.2.2.1 rfl 2 rfl ?_
    refine aw_iload_n (q := 7) gdJ7_fill_53178_0.2.2.2.2.2.2.1 rfl 3 rfl ?_
    refine aw_icmp_ge (tgt := 20) (q := 10) gdJ7_fill_53178_0.2.2.2.2.2.2.2 (by decide) rfl (fun h_7 => ?_) (fun h_7 => ?_)
    · exact aw_return (w := [(a, .inl (0, n, .inl f_))]) [0] gdJ7_fill_53178_10.2.2.2.2.2.2 rfl rfl rfl (PN.mk (fun _ => 0) rfl rfl)
    · refine aw_aload_n (q := 11) gdJ7_fill_53178_10.1 rfl 0 rfl ?_
      refine aw_iload_n (q := 12) gdJ7_fill_53178_10.2.1 rfl 2 rfl ?_
      refine aw_iload_n (q := 13) gdJ7_fill_53178_10.2.2.1 rfl 1 rfl ?_
      refine aw_iast (q := 14) (ws' := [(a, .inl (0, n, .inl (upd f_ l2.toNatClampNeg v)))]) gdJ7_fill_53178_10.2.2.2.1 rfl 0 rfl rfl ?_
      refine aw_iinc (q := 17) (v := (l2 + (1 : Int32))) (lv' := [(2, .int (l2 + (1 : Int32))), (0, .ref a), (1, .int v), (3, .int l3)]) gdJ7_fill_53178_10.2.2.2.2.1 rfl 2 rfl rfl (by decide) rfl ?_
      refine aw_goto (tgt := 5) gdJ7_fill_53178_10.2.2.2.2.2.1 (by decide) ?_
      refine aw_locals (lv' := [(0, .ref a), (1, .int v), (2, .int (l2 + (1 : Int32))), (3, .int l3)]) [1, 2, 0, 3] rfl ?_
      exact ih _ _ _
def fJ_fill (N K : Nat) (n : Nat) (f : Nat → Int32) (v : Int32) : Option ((Nat → Int32)) :=
  fJ_fill_5 N K n f v  N (0 : Int32) (Int32.ofNat n) f
set_option maxHeartbeats 4000000 in
set_option maxRecDepth 100000 in
theorem ok_J_fill {N K : Nat} {a : Nat} {n : Nat} {f : Nat → Int32} {v : Int32} {xr : (Nat → Int32)} (hE : fJ_fill N K n f v = some xr) : OkM yJ7_fill_53178 (.code yJ7_fill_53178 cJ7_fill_53178 4 none) (0) 0 0 [.ref a, .int v] [(a, .inl (0, n, .inl f))] ((PN (U := (Nat → Int32)) (fun _ _ => none) (fun zz ad => [(a, .inl (0, n, .inl zz))])) xr) := by
  refine ok_of (by decide) (Nat.le_of_ble_eq_true rfl) hE ?_
  refine aw_locals (lv' := [(0, .ref a), (1, .int v)]) [0, 1] rfl ?_
  refine aw_iconst (q := 1) (v := 0) gdJ7_fill_53178_0.1 rfl (by decide) ?_
  refine aw_istore_n (q := 2) (lv' := [(2, .int (0 : Int32)), (0, .ref a), (1, .int v)]) gdJ7_fill_53178_0.2.1 rfl (by decide) rfl ?_
  refine aw_aload_n (q := 3) gdJ7_fill_53178_0.2.2.1 rfl 1 rfl ?_
  refine aw_alen (q := 4) (v := (Int32.ofNat n)) gdJ7_fill_53178_0.2.2.2.1 rfl 0 rfl (by decide) rfl ?_
  refine aw_istore_n (q := 5) (lv' := [(3, .int (Int32.ofNat n)), (2, .int (0 : Int32)), (0, .ref a), (1, .int v)]) gdJ7_fill_53178_0.2.2.2.2.1 rfl (by decide) rfl ?_
  refine aw_locals (lv' := [(0, .ref a), (1, .int v), (2, .int (0 : Int32)), (3, .int (Int32.ofNat n))]) [2, 3, 1, 0] rfl ?_
  exact tJ_fill_5  N _ _ _
def fX4_timesOf (N K : Nat) (f : Nat → Int32) (p0 : Int32) : Option (Int32) :=
  (if p0 < (1 : Int32) then (some (0 : Int32)) else (if p0 ≤ (20 : Int32) then (if p0 < 0 ∨ 21 ≤ p0.toNatClampNeg then none else (some (f p0.toNatClampNeg))) else (some (0 : Int32))))
set_option maxHeartbeats 4000000 in
set_option maxRecDepth 100000 in
theorem ok_X4_timesOf {N K : Nat} {w a : Nat} {f : Nat → Int32} {p0 : Int32} {xr : Int32} (hE : fX4_timesOf N K f p0 = some xr) : OkM yX4_timesOf (.code yX4_timesOf cX4_timesOf 2 (some .int)) (0) 0 0 [.ref w, .int p0] [(w, .inr (6, [.ref a])), (a, .inl (0, 21, .inl f))] ((PN (U := Int32) (fun zz _ => some (.int zz)) (fun zz ad => [(w, .inr (6, [.ref a])), (a, .inl (0, 21, .inl f))])) xr) := by
  refine ok_of (by decide) (Nat.le_of_ble_eq_true rfl) hE ?_
  refine aw_locals (lv' := [(0, .ref w), (1, .int p0)]) [0, 1] rfl ?_
  refine aw_iload_n (q := 1) gdX4_timesOf_0.1 rfl 1 rfl ?_
  refine aw_iconst (q := 2) (v := 1) gdX4_timesOf_0.2.1 rfl (by decide) ?_
  refine aw_icmp_lt (tgt := 11) (q := 5) gdX4_timesOf_0.2.2.1 (by decide) rfl (fun h_2 => ?_) (fun h_2 => ?_)
  · refine aw_iconst (q := 12) (v := 0) gdX4_timesOf_0.2.2.2.2.2.2.1 rfl (by decide) ?_
    refine aw_goto (tgt := 21) gdX4_timesOf_0.2.2.2.2.2.2.2 (by decide) ?_
    exact aw_ireturn (w := [(w, .inr (6, [.ref a])), (a, .inl (0, 21, .inl f))]) [0, 1] gdX4_timesOf_15.2.2.2.2 rfl rfl rfl rfl (PN.mk (fun _ => 0) rfl rfl)
  · refine aw_iload_n (q := 6) gdX4_timesOf_0.2.2.2.1 rfl 1 rfl ?_
    refine aw_bipush (q := 8) (v := 20) gdX4_timesOf_0.2.2.2.2.1 rfl (by decide) ?_
    refine aw_icmp_le (tgt := 15) (q := 11) gdX4_timesOf_0.2.2.2.2.2.1 (by decide) rfl (fun h_8 => ?_) (fun h_8 => ?_)
    · refine aw_aload_n (q := 16) gdX4_timesOf_15.1 rfl 0 rfl ?_
      refine aw_get (q := 19) gdX4_timesOf_15.2.1 rfl fl_X4_9 0 rfl rfl ?_
      refine aw_iload_n (q := 20) gdX4_timesOf_15.2.2.1 rfl 1 rfl ?_
      refine aw_iald (q := 21) gdX4_timesOf_15.2.2.2.1 rfl 1 rfl ?_
      exact aw_ireturn (w := [(w, .inr (6, [.ref a])), (a, .inl (0, 21, .inl f))]) [0, 1] gdX4_timesOf_15.2.2.2.2 rfl rfl rfl rfl (PN.mk (fun _ => 0) rfl rfl)
    · refine aw_iconst (q := 12) (v := 0) gdX4_timesOf_0.2.2.2.2.2.2.1 rfl (by decide) ?_
      refine aw_goto (tgt := 21) gdX4_timesOf_0.2.2.2.2.2.2.2 (by decide) ?_
      exact aw_ireturn (w := [(w, .inr (6, [.ref a])), (a, .inl (0, 21, .inl f))]) [0, 1] gdX4_timesOf_15.2.2.2.2 rfl rfl rfl rfl (PN.mk (fun _ => 0) rfl rfl)
def fX4_put (N K : Nat) (f : Nat → Int32) (p0 : Int32) (p1 : Int32) : Option ((Nat → Int32)) :=
  (if p0 < (1 : Int32) then (some f) else (if (20 : Int32) < p0 then (some f) else (if p0 < 0 ∨ 21 ≤ p0.toNatClampNeg then none else (if p0 < 0 ∨ 21 ≤ p0.toNatClampNeg then none else (some (upd f p0.toNatClampNeg ((f p0.toNatClampNeg) + p1)))))))
set_option maxHeartbeats 4000000 in
set_option maxRecDepth 100000 in
theorem ok_X4_put {N K : Nat} {w a : Nat} {f : Nat → Int32} {p0 : Int32} {p1 : Int32} {xr : (Nat → Int32)} (hE : fX4_put N K f p0 p1 = some xr) : OkM yX4_put (.code yX4_put cX4_put 3 none) (0) 0 0 [.ref w, .int p0, .int p1] [(w, .inr (6, [.ref a])), (a, .inl (0, 21, .inl f))] ((PN (U := (Nat → Int32)) (fun _ _ => none) (fun zz ad => [(w, .inr (6, [.ref a])), (a, .inl (0, 21, .inl zz))])) xr) := by
  refine ok_of (by decide) (Nat.le_of_ble_eq_true rfl) hE ?_
  refine aw_locals (lv' := [(0, .ref w), (1, .int p0), (2, .int p1)]) [0, 1, 2] rfl ?_
  refine aw_iload_n (q := 1) gdX4_put_0.1 rfl 1 rfl ?_
  refine aw_iconst (q := 2) (v := 1) gdX4_put_0.2.1 rfl (by decide) ?_
  refine aw_icmp_lt (tgt := 21) (q := 5) gdX4_put_0.2.2.1 (by decide) rfl (fun h_2 => ?_) (fun h_2 => ?_)
  · exact aw_return (w := [(w, .inr (6, [.ref a])), (a, .inl (0, 21, .inl f))]) [0, 1] gdX4_put_15.2.2.2.2.2.2 rfl rfl rfl (PN.mk (fun _ => 0) rfl rfl)
  · refine aw_iload_n (q := 6) gdX4_put_0.2.2.2.1 rfl 1 rfl ?_
    refine aw_bipush (q := 8) (v := 20) gdX4_put_0.2.2.2.2.1 rfl (by decide) ?_
    refine aw_icmp_gt (tgt := 21) (q := 11) gdX4_put_0.2.2.2.2.2.1 (by decide) rfl (fun h_8 => ?_) (fun h_8 => ?_)
    · exact aw_return (w := [(w, .inr (6, [.ref a])), (a, .inl (0, 21, .inl f))]) [0, 1] gdX4_put_15.2.2.2.2.2.2 rfl rfl rfl (PN.mk (fun _ => 0) rfl rfl)
    · refine aw_aload_n (q := 12) gdX4_put_0.2.2.2.2.2.2.1 rfl 0 rfl ?_
      refine aw_get (q := 15) gdX4_put_0.2.2.2.2.2.2.2 rfl fl_X4_9 0 rfl rfl ?_
      refine aw_iload_n (q := 16) gdX4_put_15.1 rfl 1 rfl ?_
      refine aw_dup2 (q := 17) gdX4_put_15.2.1 rfl rfl rfl ?_
      refine aw_iald (q := 18) gdX4_put_15.2.2.1 rfl 1 rfl ?_
      refine aw_iload_n (q := 19) gdX4_put_15.2.2.2.1 rfl 2 rfl ?_
      refine aw_iadd (q := 20) gdX4_put_15.2.2.2.2.1 rfl ?_
      refine aw_iast (q := 21) (ws' := [(w, .inr (6, [.ref a])), (a, .inl (0, 21, .inl (upd f p0.toNatClampNeg ((f p0.toNatClampNeg) + p1))))]) gdX4_put_15.2.2.2.2.2.1 rfl 1 rfl rfl ?_
      exact aw_return (w := [(w, .inr (6, [.ref a])), (a, .inl (0, 21, .inl (upd f p0.toNatClampNeg ((f p0.toNatClampNeg) + p1))))]) [0, 1] gdX4_put_15.2.2.2.2.2.2 rfl rfl rfl (PN.mk (fun _ => 0) rfl rfl)
def fX4_sum_4 (N K : Nat) (f : Nat → Int32) : Nat → Int32 → Int32 → Option (Int32)
  | 0, _, _ => none
  | fu + 1, l1, l2 =>
    (if (20 : Int32) < l2 then (some l1) else (if l2 < 0 ∨ 21 ≤ l2.toNatClampNeg then none else fX4_sum_4 N K f  fu (l1 + (l2 * (f l2.toNatClampNeg))) (l2 + (1 : Int32))))
set_option maxHeartbeats 4000000 in
set_option maxRecDepth 100000 in
theorem tX4_sum_4 {N K : Nat} {w a : Nat} {f : Nat → Int32} : ∀ (fu : Nat) (l1 : Int32) (l2 : Int32), AW RX4 "sum" cX4_sum 3 (some .int) [] (fun _ _ => True) (0) (PN (U := Int32) (fun zz _ => some (.int zz)) (fun zz ad => [(w, .inr (6, [.ref a])), (a, .inl (0, 21, .inl f))])) 0 0 (fX4_sum_4 N K f  fu l1 l2) 4 [(0, .ref w), (1, .int l1), (2, .int l2)] [] [(w, .inr (6, [.ref a])), (a, .inl (0, 21, .inl f))] := by
  intro fu
  induction fu with
  | zero => intro l1 l2; exact aw_none
  | succ fu ih =>
    intro l1 l2
    refine aw_iload_n (q := 5) gdX4_sum_0.2.2.2.2.1 rfl 2 rfl ?_
    refine aw_bipush (q := 7) (v := 20) gdX4_sum_0.2.2.2.2.2.1 rfl (by decide) ?_
    refine aw_icmp_gt (tgt := 27) (q := 10) gdX4_sum_0.2.2.2.2.2.2.1 (by decide) rfl (fun h_7 => ?_) (fun h_7 => ?_)
    · refine aw_iload_n (q := 28) gdX4_sum_21.2.2.1 rfl 1 rfl ?_
      exact aw_ireturn (w := [(w, .inr (6, [.ref a])), (a, .inl (0, 21, .inl f))]) [0, 1] gdX4_sum_21.2.2.2 rfl rfl rfl rfl (PN.mk (fun _ => 0) rfl rfl)
    · refine aw_iload_n (q := 11) gdX4_sum_0.2.2.2.2.2.2.2 rfl 1 rfl ?_
      refine aw_iload_n (q := 12) gdX4_sum_11.1 rfl 2 rfl ?_
      refine aw_aload_n (q := 13) gdX4_sum_11.2.1 rfl 0 rfl ?_
      refine aw_get (q := 16) gdX4_sum_11.2.2.1 rfl fl_X4_9 0 rfl rfl ?_
      refine aw_iload_n (q := 17) gdX4_sum_11.2.2.2.1 rfl 2 rfl ?_
      refine aw_iald (q := 18) gdX4_sum_11.2.2.2.2.1 rfl 1 rfl ?_
      refine aw_imul (q := 19) gdX4_sum_11.2.2.2.2.2.1 rfl ?_
      refine aw_iadd (q := 20) gdX4_sum_11.2.2.2.2.2.2.1 rfl ?_
      refine aw_istore_n (q := 21) (lv' := [(1, .int (l1 + (l2 * (f l2.toNatClampNeg)))), (0, .ref w), (2, .int l2)]) gdX4_sum_11.2.2.2.2.2.2.2 rfl (by decide) rfl ?_
      refine aw_iinc (q := 24) (v := (l2 + (1 : Int32))) (lv' := [(2, .int (l2 + (1 : Int32))), (1, .int (l1 + (l2 * (f l2.toNatClampNeg)))), (0, .ref w)]) gdX4_sum_21.1 rfl 2 rfl rfl (by decide) rfl ?_
      refine aw_goto (tgt := 4) gdX4_sum_21.2.1 (by decide) ?_
      refine aw_locals (lv' := [(0, .ref w), (1, .int (l1 + (l2 * (f l2.toNatClampNeg)))), (2, .int (l2 + (1 : Int32)))]) [2, 1, 0] rfl ?_
      exact ih _ _
def fX4_sum (N K : Nat) (f : Nat → Int32) : Option (Int32) :=
  fX4_sum_4 N K f  N (0 : Int32) (1 : Int32)
set_option maxHeartbeats 4000000 in
set_option maxRecDepth 100000 in
theorem ok_X4_sum {N K : Nat} {w a : Nat} {f : Nat → Int32} {xr : Int32} (hE : fX4_sum N K f = some xr) : OkM yX4_sum (.code yX4_sum cX4_sum 3 (some .int)) (0) 0 0 [.ref w] [(w, .inr (6, [.ref a])), (a, .inl (0, 21, .inl f))] ((PN (U := Int32) (fun zz _ => some (.int zz)) (fun zz ad => [(w, .inr (6, [.ref a])), (a, .inl (0, 21, .inl f))])) xr) := by
  refine ok_of (by decide) (Nat.le_of_ble_eq_true rfl) hE ?_
  refine aw_locals (lv' := [(0, .ref w)]) [0] rfl ?_
  refine aw_iconst (q := 1) (v := 0) gdX4_sum_0.1 rfl (by decide) ?_
  refine aw_istore_n (q := 2) (lv' := [(1, .int (0 : Int32)), (0, .ref w)]) gdX4_sum_0.2.1 rfl (by decide) rfl ?_
  refine aw_iconst (q := 3) (v := 1) gdX4_sum_0.2.2.1 rfl (by decide) ?_
  refine aw_istore_n (q := 4) (lv' := [(2, .int (1 : Int32)), (1, .int (0 : Int32)), (0, .ref w)]) gdX4_sum_0.2.2.2.1 rfl (by decide) rfl ?_
  refine aw_locals (lv' := [(0, .ref w), (1, .int (0 : Int32)), (2, .int (1 : Int32))]) [2, 1, 0] rfl ?_
  exact tX4_sum_4  N _ _
def fX4_parts_4 (N K : Nat) (f : Nat → Int32) : Nat → Int32 → Int32 → Option (Int32)
  | 0, _, _ => none
  | fu + 1, l1, l2 =>
    (if (20 : Int32) < l2 then (some l1) else (if l2 < 0 ∨ 21 ≤ l2.toNatClampNeg then none else fX4_parts_4 N K f  fu (l1 + (f l2.toNatClampNeg)) (l2 + (1 : Int32))))
set_option maxHeartbeats 4000000 in
set_option maxRecDepth 100000 in
theorem tX4_parts_4 {N K : Nat} {w a : Nat} {f : Nat → Int32} : ∀ (fu : Nat) (l1 : Int32) (l2 : Int32), AW RX4 "parts" cX4_parts 3 (some .int) [] (fun _ _ => True) (0) (PN (U := Int32) (fun zz _ => some (.int zz)) (fun zz ad => [(w, .inr (6, [.ref a])), (a, .inl (0, 21, .inl f))])) 0 0 (fX4_parts_4 N K f  fu l1 l2) 4 [(0, .ref w), (1, .int l1), (2, .int l2)] [] [(w, .inr (6, [.ref a])), (a, .inl (0, 21, .inl f))] := by
  intro fu
  induction fu with
  | zero => intro l1 l2; exact aw_none
  | succ fu ih =>
    intro l1 l2
    refine aw_iload_n (q := 5) gdX4_parts_0.2.2.2.2.1 rfl 2 rfl ?_
    refine aw_bipush (q := 7) (v := 20) gdX4_parts_0.2.2.2.2.2.1 rfl (by decide) ?_
    refine aw_icmp_gt (tgt := 25) (q := 10) gdX4_parts_0.2.2.2.2.2.2.1 (by decide) rfl (fun h_7 => ?_) (fun h_7 => ?_)
    · refine aw_iload_n (q := 26) gdX4_parts_25.1 rfl 1 rfl ?_
      exact aw_ireturn (w := [(w, .inr (6, [.ref a])), (a, .inl (0, 21, .inl f))]) [0, 1] gdX4_parts_25.2 rfl rfl rfl rfl (PN.mk (fun _ => 0) rfl rfl)
    · refine aw_iload_n (q := 11) gdX4_parts_0.2.2.2.2.2.2.2 rfl 1 rfl ?_
      refine aw_aload_n (q := 12) gdX4_parts_11.1 rfl 0 rfl ?_
      refine aw_get (q := 15) gdX4_parts_11.2.1 rfl fl_X4_9 0 rfl rfl ?_
      refine aw_iload_n (q := 16) gdX4_parts_11.2.2.1 rfl 2 rfl ?_
      refine aw_iald (q := 17) gdX4_parts_11.2.2.2.1 rfl 1 rfl ?_
      refine aw_iadd (q := 18) gdX4_parts_11.2.2.2.2.1 rfl ?_
      refine aw_istore_n (q := 19) (lv' := [(1, .int (l1 + (f l2.toNatClampNeg))), (0, .ref w), (2, .int l2)]) gdX4_parts_11.2.2.2.2.2.1 rfl (by decide) rfl ?_
      refine aw_iinc (q := 22) (v := (l2 + (1 : Int32))) (lv' := [(2, .int (l2 + (1 : Int32))), (1, .int (l1 + (f l2.toNatClampNeg))), (0, .ref w)]) gdX4_parts_11.2.2.2.2.2.2.1 rfl 2 rfl rfl (by decide) rfl ?_
      refine aw_goto (tgt := 4) gdX4_parts_11.2.2.2.2.2.2.2 (by decide) ?_
      refine aw_locals (lv' := [(0, .ref w), (1, .int (l1 + (f l2.toNatClampNeg))), (2, .int (l2 + (1 : Int32)))]) [2, 1, 0] rfl ?_
      exact ih _ _
def fX4_parts (N K : Nat) (f : Nat → Int32) : Option (Int32) :=
  fX4_parts_4 N K f  N (0 : Int32) (1 : Int32)
set_option maxHeartbeats 4000000 in
set_option maxRecDepth 100000 in
theorem ok_X4_parts {N K : Nat} {w a : Nat} {f : Nat → Int32} {xr : Int32} (hE : fX4_parts N K f = some xr) : OkM yX4_parts (.code yX4_parts cX4_parts 3 (some .int)) (0) 0 0 [.ref w] [(w, .inr (6, [.ref a])), (a, .inl (0, 21, .inl f))] ((PN (U := Int32) (fun zz _ => some (.int zz)) (fun zz ad => [(w, .inr (6, [.ref a])), (a, .inl (0, 21, .inl f))])) xr) := by
  refine ok_of (by decide) (Nat.le_of_ble_eq_true rfl) hE ?_
  refine aw_locals (lv' := [(0, .ref w)]) [0] rfl ?_
  refine aw_iconst (q := 1) (v := 0) gdX4_parts_0.1 rfl (by decide) ?_
  refine aw_istore_n (q := 2) (lv' := [(1, .int (0 : Int32)), (0, .ref w)]) gdX4_parts_0.2.1 rfl (by decide) rfl ?_
  refine aw_iconst (q := 3) (v := 1) gdX4_parts_0.2.2.1 rfl (by decide) ?_
  refine aw_istore_n (q := 4) (lv' := [(2, .int (1 : Int32)), (1, .int (0 : Int32)), (0, .ref w)]) gdX4_parts_0.2.2.2.1 rfl (by decide) rfl ?_
  refine aw_locals (lv' := [(0, .ref w), (1, .int (0 : Int32)), (2, .int (1 : Int32))]) [2, 1, 0] rfl ?_
  exact tX4_parts_4  N _ _
def fX4_differentParts_22 (N K : Nat) (f : Nat → Int32) (k_4 : Int32 → Int32 → Option (Int32)) (l1 : Int32) (l2 : Int32) : Option (Int32) :=
  k_4 l1 (l2 + (1 : Int32))
set_option maxHeartbeats 4000000 in
set_option maxRecDepth 100000 in
theorem tX4_differentParts_22 {N K : Nat} {w a : Nat} {f : Nat → Int32} {k_4 : Int32 → Int32 → Option (Int32)} (hk_4 : ∀ (l1 : Int32) (l2 : Int32), AW RX4 "differentParts" cX4_differentParts 3 (some .int) [] (fun _ _ => True) (0) (PN (U := Int32) (fun zz _ => some (.int zz)) (fun zz ad => [(w, .inr (6, [.ref a])), (a, .inl (0, 21, .inl f))])) 0 0 (k_4 l1 l2) 4 [(0, .ref w), (1, .int l1), (2, .int l2)] [] [(w, .inr (6, [.ref a])), (a, .inl (0, 21, .inl f))]) : ∀ (l1 : Int32) (l2 : Int32), AW RX4 "differentParts" cX4_differentParts 3 (some .int) [] (fun _ _ => True) (0) (PN (U := Int32) (fun zz _ => some (.int zz)) (fun zz ad => [(w, .inr (6, [.ref a])), (a, .inl (0, 21, .inl f))])) 0 0 (fX4_differentParts_22 N K f k_4 l1 l2) 22 [(0, .ref w), (1, .int l1), (2, .int l2)] [] [(w, .inr (6, [.ref a])), (a, .inl (0, 21, .inl f))] := by
  intro l1 l2
  refine aw_iinc (q := 25) (v := (l2 + (1 : Int32))) (lv' := [(2, .int (l2 + (1 : Int32))), (0, .ref w), (1, .int l1)]) gdX4_differentParts_11.2.2.2.2.2.1 rfl 2 rfl rfl (by decide) rfl ?_
  refine aw_goto (tgt := 4) gdX4_differentParts_11.2.2.2.2.2.2.1 (by decide) ?_
  refine aw_locals (lv' := [(0, .ref w), (1, .int l1), (2, .int (l2 + (1 : Int32)))]) [1, 2, 0] rfl ?_
  exact hk_4 _ _
def fX4_differentParts_4 (N K : Nat) (f : Nat → Int32) : Nat → Int32 → Int32 → Option (Int32)
  | 0, _, _ => none
  | fu + 1, l1, l2 =>
    (if (20 : Int32) < l2 then (some l1) else (if l2 < 0 ∨ 21 ≤ l2.toNatClampNeg then none else (if (f l2.toNatClampNeg) ≤ 0 then fX4_differentParts_22 N K f (fX4_differentParts_4 N K f  fu) l1 l2 else fX4_differentParts_22 N K f (fX4_differentParts_4 N K f  fu) (l1 + (1 : Int32)) l2)))
set_option maxHeartbeats 4000000 in
set_option maxRecDepth 100000 in
theorem tX4_differentParts_4 {N K : Nat} {w a : Nat} {f : Nat → Int32} : ∀ (fu : Nat) (l1 : Int32) (l2 : Int32), AW RX4 "differentParts" cX4_differentParts 3 (some .int) [] (fun _ _ => True) (0) (PN (U := Int32) (fun zz _ => some (.int zz)) (fun zz ad => [(w, .inr (6, [.ref a])), (a, .inl (0, 21, .inl f))])) 0 0 (fX4_differentParts_4 N K f  fu l1 l2) 4 [(0, .ref w), (1, .int l1), (2, .int l2)] [] [(w, .inr (6, [.ref a])), (a, .inl (0, 21, .inl f))] := by
  intro fu
  induction fu with
  | zero => intro l1 l2; exact aw_none
  | succ fu ih =>
    intro l1 l2
    refine aw_iload_n (q := 5) gdX4_differentParts_0.2.2.2.2.1 rfl 2 rfl ?_
    refine aw_bipush (q := 7) (v := 20) gdX4_differentParts_0.2.2.2.2.2.1 rfl (by decide) ?_
    refine aw_icmp_gt (tgt := 28) (q := 10) gdX4_differentParts_0.2.2.2.2.2.2.1 (by decide) rfl (fun h_7 => ?_) (fun h_7 => ?_)
    · refine aw_iload_n (q := 29) gdX4_differentParts_11.2.2.2.2.2.2.2 rfl 1 rfl ?_
      exact aw_ireturn (w := [(w, .inr (6, [.ref a])), (a, .inl (0, 21, .inl f))]) [0, 1] dX4_differentParts_29 rfl rfl rfl rfl (PN.mk (fun _ => 0) rfl rfl)
    · refine aw_aload_n (q := 11) gdX4_differentParts_0.2.2.2.2.2.2.2 rfl 0 rfl ?_
      refine aw_get (q := 14) gdX4_differentParts_11.1 rfl fl_X4_9 0 rfl rfl ?_
      refine aw_iload_n (q := 15) gdX4_differentParts_11.2.1 rfl 2 rfl ?_
      refine aw_iald (q := 16) gdX4_differentParts_11.2.2.1 rfl 1 rfl ?_
      refine aw_if_le (tgt := 22) (q := 19) gdX4_differentParts_11.2.2.2.1 (by decide) rfl (fun h_16 => ?_) (fun h_16 => ?_)
      · exact tX4_differentParts_22 ih _ _
      · refine aw_iinc (q := 22) (v := (l1 + (1 : Int32))) (lv' := [(1, .int (l1 + (1 : Int32))), (0, .ref w), (2, .int l2)]) gdX4_differentParts_11.2.2.2.2.1 rfl 1 rfl rfl (by decide) rfl ?_
        refine aw_locals (lv' := [(0, .ref w), (1, .int (l1 + (1 : Int32))), (2, .int l2)]) [1, 0, 2] rfl ?_
        exact tX4_differentParts_22 ih _ _
def fX4_differentParts (N K : Nat) (f : Nat → Int32) : Option (Int32) :=
  fX4_differentParts_4 N K f  N (0 : Int32) (1 : Int32)
set_option maxHeartbeats 4000000 in
set_option maxRecDepth 100000 in
theorem ok_X4_differentParts {N K : Nat} {w a : Nat} {f : Nat → Int32} {xr : Int32} (hE : fX4_differentParts N K f = some xr) : OkM yX4_differentParts (.code yX4_differentParts cX4_differentParts 3 (some .int)) (0) 0 0 [.ref w] [(w, .inr (6, [.ref a])), (a, .inl (0, 21, .inl f))] ((PN (U := Int32) (fun zz _ => some (.int zz)) (fun zz ad => [(w, .inr (6, [.ref a])), (a, .inl (0, 21, .inl f))])) xr) := by
  refine ok_of (by decide) (Nat.le_of_ble_eq_true rfl) hE ?_
  refine aw_locals (lv' := [(0, .ref w)]) [0] rfl ?_
  refine aw_iconst (q := 1) (v := 0) gdX4_differentParts_0.1 rfl (by decide) ?_
  refine aw_istore_n (q := 2) (lv' := [(1, .int (0 : Int32)), (0, .ref w)]) gdX4_differentParts_0.2.1 rfl (by decide) rfl ?_
  refine aw_iconst (q := 3) (v := 1) gdX4_differentParts_0.2.2.1 rfl (by decide) ?_
  refine aw_istore_n (q := 4) (lv' := [(2, .int (1 : Int32)), (1, .int (0 : Int32)), (0, .ref w)]) gdX4_differentParts_0.2.2.2.1 rfl (by decide) rfl ?_
  refine aw_locals (lv' := [(0, .ref w), (1, .int (0 : Int32)), (2, .int (1 : Int32))]) [2, 1, 0] rfl ?_
  exact tX4_differentParts_4  N _ _
def fX4_isUnlike_2 (N K : Nat) (f : Nat → Int32) : Nat → Int32 → Option (Int32)
  | 0, _ => none
  | fu + 1, l1 =>
    (if (20 : Int32) < l1 then (some (1 : Int32)) else (if l1 < 0 ∨ 21 ≤ l1.toNatClampNeg then none else (if (f l1.toNatClampNeg) ≤ (1 : Int32) then fX4_isUnlike_2 N K f  fu (l1 + (1 : Int32)) else (some (0 : Int32)))))
set_option maxHeartbeats 4000000 in
set_option maxRecDepth 100000 in
theorem tX4_isUnlike_2 {N K : Nat} {w a : Nat} {f : Nat → Int32} : ∀ (fu : Nat) (l1 : Int32), AW RX4 "isUnlike" cX4_isUnlike 2 (some .boolean) [] (fun _ _ => True) (0) (PN (U := Int32) (fun zz _ => some (.int zz)) (fun zz ad => [(w, .inr (6, [.ref a])), (a, .inl (0, 21, .inl f))])) 0 0 (fX4_isUnlike_2 N K f  fu l1) 2 [(0, .ref w), (1, .int l1)] [] [(w, .inr (6, [.ref a])), (a, .inl (0, 21, .inl f))] := by
  intro fu
  induction fu with
  | zero => intro l1; exact aw_none
  | succ fu ih =>
    intro l1
    refine aw_iload_n (q := 3) gdX4_isUnlike_0.2.2.1 rfl 1 rfl ?_
    refine aw_bipush (q := 5) (v := 20) gdX4_isUnlike_0.2.2.2.1 rfl (by decide) ?_
    refine aw_icmp_gt (tgt := 26) (q := 8) gdX4_isUnlike_0.2.2.2.2.1 (by decide) rfl (fun h_5 => ?_) (fun h_5 => ?_)
    · refine aw_iconst (q := 27) (v := 1) gdX4_isUnlike_13.2.2.2.2.2.2.2 rfl (by decide) ?_
      exact aw_ireturn (w := [(w, .inr (6, [.ref a])), (a, .inl (0, 21, .inl f))]) [0, 1] dX4_isUnlike_27 rfl rfl rfl rfl (PN.mk (fun _ => 0) rfl rfl)
    · refine aw_aload_n (q := 9) gdX4_isUnlike_0.2.2.2.2.2.1 rfl 0 rfl ?_
      refine aw_get (q := 12) gdX4_isUnlike_0.2.2.2.2.2.2.1 rfl fl_X4_9 0 rfl rfl ?_
      refine aw_iload_n (q := 13) gdX4_isUnlike_0.2.2.2.2.2.2.2 rfl 1 rfl ?_
      refine aw_iald (q := 14) gdX4_isUnlike_13.1 rfl 1 rfl ?_
      refine aw_iconst (q := 15) (v := 1) gdX4_isUnlike_13.2.1 rfl (by decide) ?_
      refine aw_icmp_le (tgt := 20) (q := 18) gdX4_isUnlike_13.2.2.1 (by decide) rfl (fun h_15 => ?_) (fun h_15 => ?_)
      · refine aw_iinc (q := 23) (v := (l1 + (1 : Int32))) (lv' := [(1, .int (l1 + (1 : Int32))), (0, .ref w)]) gdX4_isUnlike_13.2.2.2.2.2.1 rfl 1 rfl rfl (by decide) rfl ?_
        refine aw_goto (tgt := 2) gdX4_isUnlike_13.2.2.2.2.2.2.1 (by decide) ?_
        refine aw_locals (lv' := [(0, .ref w), (1, .int (l1 + (1 : Int32)))]) [1, 0] rfl ?_
        exact ih _
      · refine aw_iconst (q := 19) (v := 0) gdX4_isUnlike_13.2.2.2.1 rfl (by decide) ?_
        exact aw_ireturn (w := [(w, .inr (6, [.ref a])), (a, .inl (0, 21, .inl f))]) [0, 1] gdX4_isUnlike_13.2.2.2.2.1 rfl rfl rfl rfl (PN.mk (fun _ => 0) rfl rfl)
def fX4_isUnlike (N K : Nat) (f : Nat → Int32) : Option (Int32) :=
  fX4_isUnlike_2 N K f  N (1 : Int32)
set_option maxHeartbeats 4000000 in
set_option maxRecDepth 100000 in
theorem ok_X4_isUnlike {N K : Nat} {w a : Nat} {f : Nat → Int32} {xr : Int32} (hE : fX4_isUnlike N K f = some xr) : OkM yX4_isUnlike (.code yX4_isUnlike cX4_isUnlike 2 (some .boolean)) (0) 0 0 [.ref w] [(w, .inr (6, [.ref a])), (a, .inl (0, 21, .inl f))] ((PN (U := Int32) (fun zz _ => some (.int zz)) (fun zz ad => [(w, .inr (6, [.ref a])), (a, .inl (0, 21, .inl f))])) xr) := by
  refine ok_of (by decide) (Nat.le_of_ble_eq_true rfl) hE ?_
  refine aw_locals (lv' := [(0, .ref w)]) [0] rfl ?_
  refine aw_iconst (q := 1) (v := 1) gdX4_isUnlike_0.1 rfl (by decide) ?_
  refine aw_istore_n (q := 2) (lv' := [(1, .int (1 : Int32)), (0, .ref w)]) gdX4_isUnlike_0.2.1 rfl (by decide) rfl ?_
  refine aw_locals (lv' := [(0, .ref w), (1, .int (1 : Int32))]) [1, 0] rfl ?_
  exact tX4_isUnlike_2  N _
def fX4_isOdd_2 (N K : Nat) (f : Nat → Int32) : Nat → Int32 → Option (Int32)
  | 0, _ => none
  | fu + 1, l1 =>
    (if (20 : Int32) < l1 then (some (1 : Int32)) else (if l1 < 0 ∨ 21 ≤ l1.toNatClampNeg then none else (if (f l1.toNatClampNeg) ≤ 0 then fX4_isOdd_2 N K f  fu (l1 + (2 : Int32)) else (some (0 : Int32)))))
set_option maxHeartbeats 4000000 in
set_option maxRecDepth 100000 in
theorem tX4_isOdd_2 {N K : Nat} {w a : Nat} {f : Nat → Int32} : ∀ (fu : Nat) (l1 : Int32), AW RX4 "isOdd" cX4_isOdd 2 (some .boolean) [] (fun _ _ => True) (0) (PN (U := Int32) (fun zz _ => some (.int zz)) (fun zz ad => [(w, .inr (6, [.ref a])), (a, .inl (0, 21, .inl f))])) 0 0 (fX4_isOdd_2 N K f  fu l1) 2 [(0, .ref w), (1, .int l1)] [] [(w, .inr (6, [.ref a])), (a, .inl (0, 21, .inl f))] := by
  intro fu
  induction fu with
  | zero => intro l1; exact aw_none
  | succ fu ih =>
    intro l1
    refine aw_iload_n (q := 3) gdX4_isOdd_0.2.2.1 rfl 1 rfl ?_
    refine aw_bipush (q := 5) (v := 20) gdX4_isOdd_0.2.2.2.1 rfl (by decide) ?_
    refine aw_icmp_gt (tgt := 25) (q := 8) gdX4_isOdd_0.2.2.2.2.1 (by decide) rfl (fun h_5 => ?_) (fun h_5 => ?_)
    · refine aw_iconst (q := 26) (v := 1) gdX4_isOdd_13.2.2.2.2.2.2.1 rfl (by decide) ?_
      exact aw_ireturn (w := [(w, .inr (6, [.ref a])), (a, .inl (0, 21, .inl f))]) [0, 1] gdX4_isOdd_13.2.2.2.2.2.2.2 rfl rfl rfl rfl (PN.mk (fun _ => 0) rfl rfl)
    · refine aw_aload_n (q := 9) gdX4_isOdd_0.2.2.2.2.2.1 rfl 0 rfl ?_
      refine aw_get (q := 12) gdX4_isOdd_0.2.2.2.2.2.2.1 rfl fl_X4_9 0 rfl rfl ?_
      refine aw_iload_n (q := 13) gdX4_isOdd_0.2.2.2.2.2.2.2 rfl 1 rfl ?_
      refine aw_iald (q := 14) gdX4_isOdd_13.1 rfl 1 rfl ?_
      refine aw_if_le (tgt := 19) (q := 17) gdX4_isOdd_13.2.1 (by decide) rfl (fun h_14 => ?_) (fun h_14 => ?_)
      · refine aw_iinc (q := 22) (v := (l1 + (2 : Int32))) (lv' := [(1, .int (l1 + (2 : Int32))), (0, .ref w)]) gdX4_isOdd_13.2.2.2.2.1 rfl 1 rfl rfl (by decide) rfl ?_
        refine aw_goto (tgt := 2) gdX4_isOdd_13.2.2.2.2.2.1 (by decide) ?_
        refine aw_locals (lv' := [(0, .ref w), (1, .int (l1 + (2 : Int32)))]) [1, 0] rfl ?_
        exact ih _
      · refine aw_iconst (q := 18) (v := 0) gdX4_isOdd_13.2.2.1 rfl (by decide) ?_
        exact aw_ireturn (w := [(w, .inr (6, [.ref a])), (a, .inl (0, 21, .inl f))]) [0, 1] gdX4_isOdd_13.2.2.2.1 rfl rfl rfl rfl (PN.mk (fun _ => 0) rfl rfl)
def fX4_isOdd (N K : Nat) (f : Nat → Int32) : Option (Int32) :=
  fX4_isOdd_2 N K f  N (2 : Int32)
set_option maxHeartbeats 4000000 in
set_option maxRecDepth 100000 in
theorem ok_X4_isOdd {N K : Nat} {w a : Nat} {f : Nat → Int32} {xr : Int32} (hE : fX4_isOdd N K f = some xr) : OkM yX4_isOdd (.code yX4_isOdd cX4_isOdd 2 (some .boolean)) (0) 0 0 [.ref w] [(w, .inr (6, [.ref a])), (a, .inl (0, 21, .inl f))] ((PN (U := Int32) (fun zz _ => some (.int zz)) (fun zz ad => [(w, .inr (6, [.ref a])), (a, .inl (0, 21, .inl f))])) xr) := by
  refine ok_of (by decide) (Nat.le_of_ble_eq_true rfl) hE ?_
  refine aw_locals (lv' := [(0, .ref w)]) [0] rfl ?_
  refine aw_iconst (q := 1) (v := 2) gdX4_isOdd_0.1 rfl (by decide) ?_
  refine aw_istore_n (q := 2) (lv' := [(1, .int (2 : Int32)), (0, .ref w)]) gdX4_isOdd_0.2.1 rfl (by decide) rfl ?_
  refine aw_locals (lv' := [(0, .ref w), (1, .int (2 : Int32))]) [1, 0] rfl ?_
  exact tX4_isOdd_2  N _
def fX4_leastAboveOne_2 (N K : Nat) (f : Nat → Int32) : Nat → Int32 → Option (Int32)
  | 0, _ => none
  | fu + 1, l1 =>
    (if (20 : Int32) < l1 then (some (0 : Int32)) else (if l1 < 0 ∨ 21 ≤ l1.toNatClampNeg then none else (if (f l1.toNatClampNeg) ≤ 0 then fX4_leastAboveOne_2 N K f  fu (l1 + (1 : Int32)) else (some l1))))
set_option maxHeartbeats 4000000 in
set_option maxRecDepth 100000 in
theorem tX4_leastAboveOne_2 {N K : Nat} {w a : Nat} {f : Nat → Int32} : ∀ (fu : Nat) (l1 : Int32), AW RX4 "leastAboveOne" cX4_leastAboveOne 2 (some .int) [] (fun _ _ => True) (0) (PN (U := Int32) (fun zz _ => some (.int zz)) (fun zz ad => [(w, .inr (6, [.ref a])), (a, .inl (0, 21, .inl f))])) 0 0 (fX4_leastAboveOne_2 N K f  fu l1) 2 [(0, .ref w), (1, .int l1)] [] [(w, .inr (6, [.ref a])), (a, .inl (0, 21, .inl f))] := by
  intro fu
  induction fu with
  | zero => intro l1; exact aw_none
  | succ fu ih =>
    intro l1
    refine aw_iload_n (q := 3) gdX4_leastAboveOne_0.2.2.1 rfl 1 rfl ?_
    refine aw_bipush (q := 5) (v := 20) gdX4_leastAboveOne_0.2.2.2.1 rfl (by decide) ?_
    refine aw_icmp_gt (tgt := 25) (q := 8) gdX4_leastAboveOne_0.2.2.2.2.1 (by decide) rfl (fun h_5 => ?_) (fun h_5 => ?_)
    · refine aw_iconst (q := 26) (v := 0) gdX4_leastAboveOne_13.2.2.2.2.2.2.1 rfl (by decide) ?_
      exact aw_ireturn (w := [(w, .inr (6, [.ref a])), (a, .inl (0, 21, .inl f))]) [0, 1] gdX4_leastAboveOne_13.2.2.2.2.2.2.2 rfl rfl rfl rfl (PN.mk (fun _ => 0) rfl rfl)
    · refine aw_aload_n (q := 9) gdX4_leastAboveOne_0.2.2.2.2.2.1 rfl 0 rfl ?_
      refine aw_get (q := 12) gdX4_leastAboveOne_0.2.2.2.2.2.2.1 rfl fl_X4_9 0 rfl rfl ?_
      refine aw_iload_n (q := 13) gdX4_leastAboveOne_0.2.2.2.2.2.2.2 rfl 1 rfl ?_
      refine aw_iald (q := 14) gdX4_leastAboveOne_13.1 rfl 1 rfl ?_
      refine aw_if_le (tgt := 19) (q := 17) gdX4_leastAboveOne_13.2.1 (by decide) rfl (fun h_14 => ?_) (fun h_14 => ?_)
      · refine aw_iinc (q := 22) (v := (l1 + (1 : Int32))) (lv' := [(1, .int (l1 + (1 : Int32))), (0, .ref w)]) gdX4_leastAboveOne_13.2.2.2.2.1 rfl 1 rfl rfl (by decide) rfl ?_
        refine aw_goto (tgt := 2) gdX4_leastAboveOne_13.2.2.2.2.2.1 (by decide) ?_
        refine aw_locals (lv' := [(0, .ref w), (1, .int (l1 + (1 : Int32)))]) [1, 0] rfl ?_
        exact ih _
      · refine aw_iload_n (q := 18) gdX4_leastAboveOne_13.2.2.1 rfl 1 rfl ?_
        exact aw_ireturn (w := [(w, .inr (6, [.ref a])), (a, .inl (0, 21, .inl f))]) [0, 1] gdX4_leastAboveOne_13.2.2.2.1 rfl rfl rfl rfl (PN.mk (fun _ => 0) rfl rfl)
def fX4_leastAboveOne (N K : Nat) (f : Nat → Int32) : Option (Int32) :=
  fX4_leastAboveOne_2 N K f  N (2 : Int32)
set_option maxHeartbeats 4000000 in
set_option maxRecDepth 100000 in
theorem ok_X4_leastAboveOne {N K : Nat} {w a : Nat} {f : Nat → Int32} {xr : Int32} (hE : fX4_leastAboveOne N K f = some xr) : OkM yX4_leastAboveOne (.code yX4_leastAboveOne cX4_leastAboveOne 2 (some .int)) (0) 0 0 [.ref w] [(w, .inr (6, [.ref a])), (a, .inl (0, 21, .inl f))] ((PN (U := Int32) (fun zz _ => some (.int zz)) (fun zz ad => [(w, .inr (6, [.ref a])), (a, .inl (0, 21, .inl f))])) xr) := by
  refine ok_of (by decide) (Nat.le_of_ble_eq_true rfl) hE ?_
  refine aw_locals (lv' := [(0, .ref w)]) [0] rfl ?_
  refine aw_iconst (q := 1) (v := 2) gdX4_leastAboveOne_0.1 rfl (by decide) ?_
  refine aw_istore_n (q := 2) (lv' := [(1, .int (2 : Int32)), (0, .ref w)]) gdX4_leastAboveOne_0.2.1 rfl (by decide) rfl ?_
  refine aw_locals (lv' := [(0, .ref w), (1, .int (2 : Int32))]) [1, 0] rfl ?_
  exact tX4_leastAboveOne_2  N _
def fX4_isLike_2 (N K : Nat) (f : Nat → Int32) (g : Nat → Int32) : Nat → Int32 → Option (Int32)
  | 0, _ => none
  | fu + 1, l2 =>
    (if (20 : Int32) < l2 then (some (1 : Int32)) else (if l2 < 0 ∨ 21 ≤ l2.toNatClampNeg then none else (if l2 < 0 ∨ 21 ≤ l2.toNatClampNeg then none else (if (f l2.toNatClampNeg) = (g l2.toNatClampNeg) then fX4_isLike_2 N K f g  fu (l2 + (1 : Int32)) else (some (0 : Int32))))))
set_option maxHeartbeats 4000000 in
set_option maxRecDepth 100000 in
theorem tX4_isLike_2 {N K : Nat} {w v a b : Nat} {f : Nat → Int32} {g : Nat → Int32} : ∀ (fu : Nat) (l2 : Int32), AW RX4 "isLike" cX4_isLike 3 (some .boolean) [] (fun _ _ => True) (0) (PN (U := Int32) (fun zz _ => some (.int zz)) (fun zz ad => [(w, .inr (6, [.ref a])), (a, .inl (0, 21, .inl f)), (v, .inr (6, [.ref b])), (b, .inl (0, 21, .inl g))])) 0 0 (fX4_isLike_2 N K f g  fu l2) 2 [(0, .ref w), (1, .ref v), (2, .int l2)] [] [(w, .inr (6, [.ref a])), (a, .inl (0, 21, .inl f)), (v, .inr (6, [.ref b])), (b, .inl (0, 21, .inl g))] := by
  intro fu
  induction fu with
  | zero => intro l2; exact aw_none
  | succ fu ih =>
    intro l2
    refine aw_iload_n (q := 3) gdX4_isLike_0.2.2.1 rfl 2 rfl ?_
    refine aw_bipush (q := 5) (v := 20) gdX4_isLike_0.2.2.2.1 rfl (by decide) ?_
    refine aw_icmp_gt (tgt := 31) (q := 8) gdX4_isLike_0.2.2.2.2.1 (by decide) rfl (fun h_5 => ?_) (fun h_5 => ?_)
    · refine aw_iconst (q := 32) (v := 1) gdX4_isLike_25.2.2.1 rfl (by decide) ?_
      exact aw_ireturn (w := [(w, .inr (6, [.ref a])), (a, .inl (0, 21, .inl f)), (v, .inr (6, [.ref b])), (b, .inl (0, 21, .inl g))]) [0, 1, 2, 3] gdX4_isLike_25.2.2.2 rfl rfl rfl rfl (PN.mk (fun _ => 0) rfl rfl)
    · refine aw_aload_n (q := 9) gdX4_isLike_0.2.2.2.2.2.1 rfl 0 rfl ?_
      refine aw_get (q := 12) gdX4_isLike_0.2.2.2.2.2.2.1 rfl fl_X4_9 0 rfl rfl ?_
      refine aw_iload_n (q := 13) gdX4_isLike_0.2.2.2.2.2.2.2 rfl 2 rfl ?_
      refine aw_iald (q := 14) gdX4_isLike_13.1 rfl 1 rfl ?_
      refine aw_aload_n (q := 15) gdX4_isLike_13.2.1 rfl 1 rfl ?_
      refine aw_get (q := 18) gdX4_isLike_13.2.2.1 rfl fl_X4_9 2 rfl rfl ?_
      refine aw_iload_n (q := 19) gdX4_isLike_13.2.2.2.1 rfl 2 rfl ?_
      refine aw_iald (q := 20) gdX4_isLike_13.2.2.2.2.1 rfl 3 rfl ?_
      refine aw_icmp_eq (tgt := 25) (q := 23) gdX4_isLike_13.2.2.2.2.2.1 (by decide) rfl (fun h_20 => ?_) (fun h_20 => ?_)
      · refine aw_iinc (q := 28) (v := (l2 + (1 : Int32))) (lv' := [(2, .int (l2 + (1 : Int32))), (0, .ref w), (1, .ref v)]) gdX4_isLike_25.1 rfl 2 rfl rfl (by decide) rfl ?_
        refine aw_goto (tgt := 2) gdX4_isLike_25.2.1 (by decide) ?_
        refine aw_locals (lv' := [(0, .ref w), (1, .ref v), (2, .int (l2 + (1 : Int32)))]) [1, 2, 0] rfl ?_
        exact ih _
      · refine aw_iconst (q := 24) (v := 0) gdX4_isLike_13.2.2.2.2.2.2.1 rfl (by decide) ?_
        exact aw_ireturn (w := [(w, .inr (6, [.ref a])), (a, .inl (0, 21, .inl f)), (v, .inr (6, [.ref b])), (b, .inl (0, 21, .inl g))]) [0, 1, 2, 3] gdX4_isLike_13.2.2.2.2.2.2.2 rfl rfl rfl rfl (PN.mk (fun _ => 0) rfl rfl)
def fX4_isLike (N K : Nat) (f : Nat → Int32) (g : Nat → Int32) : Option (Int32) :=
  fX4_isLike_2 N K f g  N (1 : Int32)
set_option maxHeartbeats 4000000 in
set_option maxRecDepth 100000 in
theorem ok_X4_isLike {N K : Nat} {w v a b : Nat} {f : Nat → Int32} {g : Nat → Int32} {xr : Int32} (hE : fX4_isLike N K f g = some xr) : OkM yX4_isLike (.code yX4_isLike cX4_isLike 3 (some .boolean)) (0) 0 0 [.ref w, .ref v] [(w, .inr (6, [.ref a])), (a, .inl (0, 21, .inl f)), (v, .inr (6, [.ref b])), (b, .inl (0, 21, .inl g))] ((PN (U := Int32) (fun zz _ => some (.int zz)) (fun zz ad => [(w, .inr (6, [.ref a])), (a, .inl (0, 21, .inl f)), (v, .inr (6, [.ref b])), (b, .inl (0, 21, .inl g))])) xr) := by
  refine ok_of (by decide) (Nat.le_of_ble_eq_true rfl) hE ?_
  refine aw_locals (lv' := [(0, .ref w), (1, .ref v)]) [0, 1] rfl ?_
  refine aw_iconst (q := 1) (v := 1) gdX4_isLike_0.1 rfl (by decide) ?_
  refine aw_istore_n (q := 2) (lv' := [(2, .int (1 : Int32)), (0, .ref w), (1, .ref v)]) gdX4_isLike_0.2.1 rfl (by decide) rfl ?_
  refine aw_locals (lv' := [(0, .ref w), (1, .ref v), (2, .int (1 : Int32))]) [1, 2, 0] rfl ?_
  exact tX4_isLike_2  N _
def fX4_hasNoneAbove_3 (N K : Nat) (f : Nat → Int32) (p0 : Int32) : Nat → Int32 → Option (Int32)
  | 0, _ => none
  | fu + 1, l2 =>
    (if l2 ≤ p0 then (some (1 : Int32)) else (if l2 < (1 : Int32) then (some (1 : Int32)) else (if l2 < 0 ∨ 21 ≤ l2.toNatClampNeg then none else (if (f l2.toNatClampNeg) ≤ 0 then fX4_hasNoneAbove_3 N K f p0  fu (l2 + (-1 : Int32)) else (some (0 : Int32))))))
set_option maxHeartbeats 4000000 in
set_option maxRecDepth 100000 in
theorem tX4_hasNoneAbove_3 {N K : Nat} {w a : Nat} {f : Nat → Int32} {p0 : Int32} : ∀ (fu : Nat) (l2 : Int32), AW RX4 "hasNoneAbove" cX4_hasNoneAbove 3 (some .boolean) [] (fun _ _ => True) (0) (PN (U := Int32) (fun zz _ => some (.int zz)) (fun zz ad => [(w, .inr (6, [.ref a])), (a, .inl (0, 21, .inl f))])) 0 0 (fX4_hasNoneAbove_3 N K f p0  fu l2) 3 [(0, .ref w), (1, .int p0), (2, .int l2)] [] [(w, .inr (6, [.ref a])), (a, .inl (0, 21, .inl f))] := by
  intro fu
  induction fu with
  | zero => intro l2; exact aw_none
  | succ fu ih =>
    intro l2
    refine aw_iload_n (q := 4) gdX4_hasNoneAbove_0.2.2.1 rfl 2 rfl ?_
    refine aw_iload_n (q := 5) gdX4_hasNoneAbove_0.2.2.2.1 rfl 1 rfl ?_
    refine aw_icmp_le (tgt := 30) (q := 8) gdX4_hasNoneAbove_0.2.2.2.2.1 (by decide) rfl (fun h_5 => ?_) (fun h_5 => ?_)
    · refine aw_iconst (q := 31) (v := 1) gdX4_hasNoneAbove_27.2.1 rfl (by decide) ?_
      exact aw_ireturn (w := [(w, .inr (6, [.ref a])), (a, .inl (0, 21, .inl f))]) [0, 1] gdX4_hasNoneAbove_27.2.2 rfl rfl rfl rfl (PN.mk (fun _ => 0) rfl rfl)
    · refine aw_iload_n (q := 9) gdX4_hasNoneAbove_0.2.2.2.2.2.1 rfl 2 rfl ?_
      refine aw_iconst (q := 10) (v := 1) gdX4_hasNoneAbove_0.2.2.2.2.2.2.1 rfl (by decide) ?_
      refine aw_icmp_lt (tgt := 30) (q := 13) gdX4_hasNoneAbove_0.2.2.2.2.2.2.2 (by decide) rfl (fun h_10 => ?_) (fun h_10 => ?_)
      · refine aw_iconst (q := 31) (v := 1) gdX4_hasNoneAbove_27.2.1 rfl (by decide) ?_
        exact aw_ireturn (w := [(w, .inr (6, [.ref a])), (a, .inl (0, 21, .inl f))]) [0, 1] gdX4_hasNoneAbove_27.2.2 rfl rfl rfl rfl (PN.mk (fun _ => 0) rfl rfl)
      · refine aw_aload_n (q := 14) gdX4_hasNoneAbove_13.1 rfl 0 rfl ?_
        refine aw_get (q := 17) gdX4_hasNoneAbove_13.2.1 rfl fl_X4_9 0 rfl rfl ?_
        refine aw_iload_n (q := 18) gdX4_hasNoneAbove_13.2.2.1 rfl 2 rfl ?_
        refine aw_iald (q := 19) gdX4_hasNoneAbove_13.2.2.2.1 rfl 1 rfl ?_
        refine aw_if_le (tgt := 24) (q := 22) gdX4_hasNoneAbove_13.2.2.2.2.1 (by decide) rfl (fun h_19 => ?_) (fun h_19 => ?_)
        · refine aw_iinc (q := 27) (v := (l2 + (-1 : Int32))) (lv' := [(2, .int (l2 + (-1 : Int32))), (0, .ref w), (1, .int p0)]) gdX4_hasNoneAbove_13.2.2.2.2.2.2.2 rfl 2 rfl rfl (by decide) rfl ?_
          refine aw_goto (tgt := 3) gdX4_hasNoneAbove_27.1 (by decide) ?_
          refine aw_locals (lv' := [(0, .ref w), (1, .int p0), (2, .int (l2 + (-1 : Int32)))]) [1, 2, 0] rfl ?_
          exact ih _
        · refine aw_iconst (q := 23) (v := 0) gdX4_hasNoneAbove_13.2.2.2.2.2.1 rfl (by decide) ?_
          exact aw_ireturn (w := [(w, .inr (6, [.ref a])), (a, .inl (0, 21, .inl f))]) [0, 1] gdX4_hasNoneAbove_13.2.2.2.2.2.2.1 rfl rfl rfl rfl (PN.mk (fun _ => 0) rfl rfl)
def fX4_hasNoneAbove (N K : Nat) (f : Nat → Int32) (p0 : Int32) : Option (Int32) :=
  fX4_hasNoneAbove_3 N K f p0  N (20 : Int32)
set_option maxHeartbeats 4000000 in
set_option maxRecDepth 100000 in
theorem ok_X4_hasNoneAbove {N K : Nat} {w a : Nat} {f : Nat → Int32} {p0 : Int32} {xr : Int32} (hE : fX4_hasNoneAbove N K f p0 = some xr) : OkM yX4_hasNoneAbove (.code yX4_hasNoneAbove cX4_hasNoneAbove 3 (some .boolean)) (0) 0 0 [.ref w, .int p0] [(w, .inr (6, [.ref a])), (a, .inl (0, 21, .inl f))] ((PN (U := Int32) (fun zz _ => some (.int zz)) (fun zz ad => [(w, .inr (6, [.ref a])), (a, .inl (0, 21, .inl f))])) xr) := by
  refine ok_of (by decide) (Nat.le_of_ble_eq_true rfl) hE ?_
  refine aw_locals (lv' := [(0, .ref w), (1, .int p0)]) [0, 1] rfl ?_
  refine aw_bipush (q := 2) (v := 20) gdX4_hasNoneAbove_0.1 rfl (by decide) ?_
  refine aw_istore_n (q := 3) (lv' := [(2, .int (20 : Int32)), (0, .ref w), (1, .int p0)]) gdX4_hasNoneAbove_0.2.1 rfl (by decide) rfl ?_
  refine aw_locals (lv' := [(0, .ref w), (1, .int p0), (2, .int (20 : Int32))]) [1, 2, 0] rfl ?_
  exact tX4_hasNoneAbove_3  N _
def fX4_becomeEmpty (N K : Nat) (f : Nat → Int32) : Option ((Nat → Int32)) :=
  ((fJ_fill N K 21 f (0 : Int32)).bind (fun x5 => (some x5)))
set_option maxHeartbeats 4000000 in
set_option maxRecDepth 100000 in
theorem ok_X4_becomeEmpty {N K : Nat} {w a : Nat} {f : Nat → Int32} {xr : (Nat → Int32)} (hE : fX4_becomeEmpty N K f = some xr) : OkM yX4_becomeEmpty (.code yX4_becomeEmpty cX4_becomeEmpty 1 none) (1) 0 0 [.ref w] [(w, .inr (6, [.ref a])), (a, .inl (0, 21, .inl f))] ((PN (U := (Nat → Int32)) (fun _ _ => none) (fun zz ad => [(w, .inr (6, [.ref a])), (a, .inl (0, 21, .inl zz))])) xr) := by
  refine ok_of (by decide) (Nat.le_of_ble_eq_true rfl) hE ?_
  refine aw_locals (lv' := [(0, .ref w)]) [0] rfl ?_
  refine aw_aload_n (q := 1) gdX4_becomeEmpty_0.1 rfl 0 rfl ?_
  refine aw_get (q := 4) gdX4_becomeEmpty_0.2.1 rfl fl_X4_9 0 rfl rfl ?_
  refine aw_iconst (q := 5) (v := 0) gdX4_becomeEmpty_0.2.2.1 rfl (by decide) ?_
  refine aw_call (q := 8) (kc1 := 0) (ks1 := 0) (wc := [(a, .inl (0, 21, .inl f))]) (wr := [(w, .inr (6, [.ref a]))]) (st1 := fun x5 g5 => []) (ws1 := fun x5 g5 => [(w, .inr (6, [.ref a])), (a, .inl (0, 21, .inl x5))]) (As := [.ref a, .int (0 : Int32)]) [1] [0] (fun _ => runS gdX4_becomeEmpty_0.2.2.2.1 mi_J7_fill_53178 st_J7_fill_53178 ml_X4_47 (by omega) rfl (Nat.le_of_ble_eq_true rfl) rfl) (fun x9 h9 => ok_J_fill h9) rfl rfl rfl rfl rfl (by decide +kernel) (by omega) (by omega) (fun _ _ => rfl) (fun _ _ => rfl) (fun x5 g5 => ?_)
  exact aw_return (w := [(w, .inr (6, [.ref a])), (a, .inl (0, 21, .inl x5))]) [0, 1] gdX4_becomeEmpty_0.2.2.2.2 rfl rfl rfl (PN.mk (fun _ => 0) rfl rfl)
def fX4_becomeFirst (N K : Nat) (f : Nat → Int32) (p0 : Int32) : Option ((Nat → Int32)) :=
  ((fX4_becomeEmpty N K f).bind (fun x1 => ((fX4_put N K x1 p0 (1 : Int32)).bind (fun x7 => (some x7)))))
set_option maxHeartbeats 4000000 in
set_option maxRecDepth 100000 in
theorem ok_X4_becomeFirst {N K : Nat} {w a : Nat} {f : Nat → Int32} {p0 : Int32} {xr : (Nat → Int32)} (hE : fX4_becomeFirst N K f p0 = some xr) : OkM yX4_becomeFirst (.code yX4_becomeFirst cX4_becomeFirst 2 none) (2) 0 0 [.ref w, .int p0] [(w, .inr (6, [.ref a])), (a, .inl (0, 21, .inl f))] ((PN (U := (Nat → Int32)) (fun _ _ => none) (fun zz ad => [(w, .inr (6, [.ref a])), (a, .inl (0, 21, .inl zz))])) xr) := by
  refine ok_of (by decide) (Nat.le_of_ble_eq_true rfl) hE ?_
  refine aw_locals (lv' := [(0, .ref w), (1, .int p0)]) [0, 1] rfl ?_
  refine aw_aload_n (q := 1) gdX4_becomeFirst_0.1 rfl 0 rfl ?_
  refine aw_call (q := 4) (kc1 := 0) (ks1 := 0) (wc := [(w, .inr (6, [.ref a])), (a, .inl (0, 21, .inl f))]) (wr := []) (st1 := fun x1 g1 => []) (ws1 := fun x1 g1 => [(w, .inr (6, [.ref a])), (a, .inl (0, 21, .inl x1))]) (As := [.ref w]) [0, 1] [] (fun _ => runV (q0 := 0) gdX4_becomeFirst_0.2.1 mi_X4_becomeEmpty im_X4_becomeEmpty se_X4_becomeEmpty ml_X4_53 (by omega) rfl (Nat.le_of_ble_eq_true rfl) rfl rfl rfl rfl) (fun x9 h9 => ok_X4_becomeEmpty h9) rfl rfl rfl rfl rfl (by decide +kernel) (by omega) (by omega) (fun _ _ => rfl) (fun _ _ => rfl) (fun x1 g1 => ?_)
  refine aw_aload_n (q := 5) gdX4_becomeFirst_0.2.2.1 rfl 0 rfl ?_
  refine aw_iload_n (q := 6) gdX4_becomeFirst_0.2.2.2.1 rfl 1 rfl ?_
  refine aw_iconst (q := 7) (v := 1) gdX4_becomeFirst_0.2.2.2.2.1 rfl (by decide) ?_
  refine aw_call (q := 10) (kc1 := 0) (ks1 := 0) (wc := [(w, .inr (6, [.ref a])), (a, .inl (0, 21, .inl x1))]) (wr := []) (st1 := fun x7 g7 => []) (ws1 := fun x7 g7 => [(w, .inr (6, [.ref a])), (a, .inl (0, 21, .inl x7))]) (As := [.ref w, .int p0, .int (1 : Int32)]) [0, 1] [] (fun _ => runV (q0 := 0) gdX4_becomeFirst_0.2.2.2.2.2.1 mi_X4_put im_X4_put se_X4_put ml_X4_56 (by omega) rfl (Nat.le_of_ble_eq_true rfl) rfl rfl rfl rfl) (fun x9 h9 => ok_X4_put h9) rfl rfl rfl rfl rfl (by decide +kernel) (by omega) (by omega) (fun _ _ => rfl) (fun _ _ => rfl) (fun x7 g7 => ?_)
  exact aw_return (w := [(w, .inr (6, [.ref a])), (a, .inl (0, 21, .inl x7))]) [0, 1] gdX4_becomeFirst_0.2.2.2.2.2.2 rfl rfl rfl (PN.mk (fun _ => 0) rfl rfl)
def fX4_becomeTurned_9 (N K : Nat) (f : Nat → Int32) (g : Nat → Int32) : Nat → Int32 → Int32 → (Nat → Int32) → Option ((Nat → Int32))
  | 0, _, _, _ => none
  | fu + 1, l2, l3, f_ =>
    (if l3 < (1 : Int32) then (some f_) else (if l3 < 0 ∨ 21 ≤ l3.toNatClampNeg then none else ((fX4_put N K f_ (l2 + (g l3.toNatClampNeg)) (1 : Int32)).bind (fun x26 => fX4_becomeTurned_9 N K f g  fu (l2 + (g l3.toNatClampNeg)) (l3 + (-1 : Int32)) x26))))
set_option maxHeartbeats 4000000 in
set_option maxRecDepth 100000 in
theorem tX4_becomeTurned_9 {N K : Nat} {w v a b : Nat} {f : Nat → Int32} {g : Nat → Int32} : ∀ (fu : Nat) (l2 : Int32) (l3 : Int32) (f_ : Nat → Int32), AW RX4 "becomeTurned" cX4_becomeTurned 4 none [] (fun _ _ => True) (2) (PN (U := (Nat → Int32)) (fun _ _ => none) (fun zz ad => [(w, .inr (6, [.ref a])), (a, .inl (0, 21, .inl zz)), (v, .inr (6, [.ref b])), (b, .inl (0, 21, .inl g))])) 0 0 (fX4_becomeTurned_9 N K f g  fu l2 l3 f_) 9 [(0, .ref w), (1, .ref v), (2, .int l2), (3, .int l3)] [] [(w, .inr (6, [.ref a])), (a, .inl (0, 21, .inl f_)), (v, .inr (6, [.ref b])), (b, .inl (0, 21, .inl g))] := by
  intro fu
  induction fu with
  | zero => intro l2 l3 f_; exact aw_none
  | succ fu ih =>
    intro l2 l3 f_
    refine aw_iload_n (q := 10) gdX4_becomeTurned_0.2.2.2.2.2.2.1 rfl 3 rfl ?_
    refine aw_iconst (q := 11) (v := 1) gdX4_becomeTurned_0.2.2.2.2.2.2.2 rfl (by decide) ?_
    refine aw_icmp_lt (tgt := 35) (q := 14) gdX4_becomeTurned_11.1 (by decide) rfl (fun h_11 => ?_) (fun h_11 => ?_)
    · exact aw_return (w := [(w, .inr (6, [.ref a])), (a, .inl (0, 21, .inl f_)), (v, .inr (6, [.ref b])), (b, .inl (0, 21, .inl g))]) [0, 1, 2, 3] gdX4_becomeTurned_23.2.2.2.2.2.2 rfl rfl rfl (PN.mk (fun _ => 0) rfl rfl)
    · refine aw_iload_n (q := 15) gdX4_becomeTurned_11.2.1 rfl 2 rfl ?_
      refine aw_aload_n (q := 16) gdX4_becomeTurned_11.2.2.1 rfl 1 rfl ?_
      refine aw_get (q := 19) gdX4_becomeTurned_11.2.2.2.1 rfl fl_X4_9 2 rfl rfl ?_
      refine aw_iload_n (q := 20) gdX4_becomeTurned_11.2.2.2.2.1 rfl 3 rfl ?_
      refine aw_iald (q := 21) gdX4_becomeTurned_11.2.2.2.2.2.1 rfl 3 rfl ?_
      refine aw_iadd (q := 22) gdX4_becomeTurned_11.2.2.2.2.2.2.1 rfl ?_
      refine aw_istore_n (q := 23) (lv' := [(2, .int (l2 + (g l3.toNatClampNeg))), (0, .ref w), (1, .ref v), (3, .int l3)]) gdX4_becomeTurned_11.2.2.2.2.2.2.2 rfl (by decide) rfl ?_
      refine aw_aload_n (q := 24) gdX4_becomeTurned_23.1 rfl 1 rfl ?_
      refine aw_iload_n (q := 25) gdX4_becomeTurned_23.2.1 rfl 0 rfl ?_
      refine aw_iconst (q := 26) (v := 1) gdX4_becomeTurned_23.2.2.1 rfl (by decide) ?_
      refine aw_call (q := 29) (kc1 := 0) (ks1 := 0) (wc := [(w, .inr (6, [.ref a])), (a, .inl (0, 21, .inl f_))]) (wr := [(v, .inr (6, [.ref b])), (b, .inl (0, 21, .inl g))]) (st1 := fun x26 g26 => []) (ws1 := fun x26 g26 => [(v, .inr (6, [.ref b])), (b, .inl (0, 21, .inl g)), (w, .inr (6, [.ref a])), (a, .inl (0, 21, .inl x26))]) (As := [.ref w, .int (l2 + (g l3.toNatClampNeg)), .int (1 : Int32)]) [0, 1] [2, 3] (fun _ => runV (q0 := 0) gdX4_becomeTurned_23.2.2.2.1 mi_X4_put im_X4_put se_X4_put ml_X4_56 (by omega) rfl (Nat.le_of_ble_eq_true rfl) rfl rfl rfl rfl) (fun x9 h9 => ok_X4_put h9) rfl rfl rfl rfl rfl (by decide +kernel) (by omega) (by omega) (fun _ _ => rfl) (fun _ _ => rfl) (fun x26 g26 => ?_)
      refine aw_iinc (q := 32) (v := (l3 + (-1 : Int32))) (lv' := [(3, .int (l3 + (-1 : Int32))), (2, .int (l2 + (g l3.toNatClampNeg))), (0, .ref w), (1, .ref v)]) gdX4_becomeTurned_23.2.2.2.2.1 rfl 3 rfl rfl (by decide) rfl ?_
      refine aw_goto (tgt := 9) gdX4_becomeTurned_23.2.2.2.2.2.1 (by decide) ?_
      refine aw_locals (lv' := [(0, .ref w), (1, .ref v), (2, .int (l2 + (g l3.toNatClampNeg))), (3, .int (l3 + (-1 : Int32)))]) [2, 3, 1, 0] rfl ?_
      refine aw_world (ws' := [(w, .inr (6, [.ref a])), (a, .inl (0, 21, .inl x26)), (v, .inr (6, [.ref b])), (b, .inl (0, 21, .inl g))]) [2, 3, 0, 1] rfl rfl ?_
      exact ih _ _ _
def fX4_becomeTurned (N K : Nat) (f : Nat → Int32) (g : Nat → Int32) : Option ((Nat → Int32)) :=
  ((fX4_becomeEmpty N K f).bind (fun x1 => fX4_becomeTurned_9 N K f g  N (0 : Int32) (20 : Int32) x1))
set_option maxHeartbeats 4000000 in
set_option maxRecDepth 100000 in
theorem ok_X4_becomeTurned {N K : Nat} {w v a b : Nat} {f : Nat → Int32} {g : Nat → Int32} {xr : (Nat → Int32)} (hE : fX4_becomeTurned N K f g = some xr) : OkM yX4_becomeTurned (.code yX4_becomeTurned cX4_becomeTurned 4 none) (2) 0 0 [.ref w, .ref v] [(w, .inr (6, [.ref a])), (a, .inl (0, 21, .inl f)), (v, .inr (6, [.ref b])), (b, .inl (0, 21, .inl g))] ((PN (U := (Nat → Int32)) (fun _ _ => none) (fun zz ad => [(w, .inr (6, [.ref a])), (a, .inl (0, 21, .inl zz)), (v, .inr (6, [.ref b])), (b, .inl (0, 21, .inl g))])) xr) := by
  refine ok_of (by decide) (Nat.le_of_ble_eq_true rfl) hE ?_
  refine aw_locals (lv' := [(0, .ref w), (1, .ref v)]) [0, 1] rfl ?_
  refine aw_aload_n (q := 1) gdX4_becomeTurned_0.1 rfl 0 rfl ?_
  refine aw_call (q := 4) (kc1 := 0) (ks1 := 0) (wc := [(w, .inr (6, [.ref a])), (a, .inl (0, 21, .inl f))]) (wr := [(v, .inr (6, [.ref b])), (b, .inl (0, 21, .inl g))]) (st1 := fun x1 g1 => []) (ws1 := fun x1 g1 => [(v, .inr (6, [.ref b])), (b, .inl (0, 21, .inl g)), (w, .inr (6, [.ref a])), (a, .inl (0, 21, .inl x1))]) (As := [.ref w]) [0, 1] [2, 3] (fun _ => runV (q0 := 0) gdX4_becomeTurned_0.2.1 mi_X4_becomeEmpty im_X4_becomeEmpty se_X4_becomeEmpty ml_X4_53 (by omega) rfl (Nat.le_of_ble_eq_true rfl) rfl rfl rfl rfl) (fun x9 h9 => ok_X4_becomeEmpty h9) rfl rfl rfl rfl rfl (by decide +kernel) (by omega) (by omega) (fun _ _ => rfl) (fun _ _ => rfl) (fun x1 g1 => ?_)
  refine aw_iconst (q := 5) (v := 0) gdX4_becomeTurned_0.2.2.1 rfl (by decide) ?_
  refine aw_istore_n (q := 6) (lv' := [(2, .int (0 : Int32)), (0, .ref w), (1, .ref v)]) gdX4_becomeTurned_0.2.2.2.1 rfl (by decide) rfl ?_
  refine aw_bipush (q := 8) (v := 20) gdX4_becomeTurned_0.2.2.2.2.1 rfl (by decide) ?_
  refine aw_istore_n (q := 9) (lv' := [(3, .int (20 : Int32)), (2, .int (0 : Int32)), (0, .ref w), (1, .ref v)]) gdX4_becomeTurned_0.2.2.2.2.2.1 rfl (by decide) rfl ?_
  refine aw_locals (lv' := [(0, .ref w), (1, .ref v), (2, .int (0 : Int32)), (3, .int (20 : Int32))]) [2, 3, 1, 0] rfl ?_
  refine aw_world (ws' := [(w, .inr (6, [.ref a])), (a, .inl (0, 21, .inl x1)), (v, .inr (6, [.ref b])), (b, .inl (0, 21, .inl g))]) [2, 3, 0, 1] rfl rfl ?_
  exact tX4_becomeTurned_9  N _ _ _
def fX4_becomeUnlike_45 (N K : Nat) (f : Nat → Int32) (g : Nat → Int32) (k_6 : Int32 → (Nat → Int32) → Option ((Nat → Int32))) (k_22 : Int32 → Int32 → Int32 → (Nat → Int32) → Option ((Nat → Int32))) (l2 : Int32) (l3 : Int32) (l4 : Int32) (f_ : Nat → Int32) : Option ((Nat → Int32)) :=
  k_22 l2 l3 (l4 * (2 : Int32)) f_
set_option maxHeartbeats 4000000 in
set_option maxRecDepth 100000 in
theorem tX4_becomeUnlike_45 {N K : Nat} {w v a b : Nat} {f : Nat → Int32} {g : Nat → Int32} {k_6 : Int32 → (Nat → Int32) → Option ((Nat → Int32))} (hk_6 : ∀ (l2 : Int32) (f_ : Nat → Int32), AW RX4 "becomeUnlike" cX4_becomeUnlike 5 none [] (fun _ _ => True) (2) (PN (U := (Nat → Int32)) (fun _ _ => none) (fun zz ad => [(w, .inr (6, [.ref a])), (a, .inl (0, 21, .inl zz)), (v, .inr (6, [.ref b])), (b, .inl (0, 21, .inl g))])) 0 0 (k_6 l2 f_) 6 [(0, .ref w), (1, .ref v), (2, .int l2)] [] [(w, .inr (6, [.ref a])), (a, .inl (0, 21, .inl f_)), (v, .inr (6, [.ref b])), (b, .inl (0, 21, .inl g))]) {k_22 : Int32 → Int32 → Int32 → (Nat → Int32) → Option ((Nat → Int32))} (hk_22 : ∀ (l2 : Int32) (l3 : Int32) (l4 : Int32) (f_ : Nat → Int32), AW RX4 "becomeUnlike" cX4_becomeUnlike 5 none [] (fun _ _ => True) (2) (PN (U := (Nat → Int32)) (fun _ _ => none) (fun zz ad => [(w, .inr (6, [.ref a])), (a, .inl (0, 21, .inl zz)), (v, .inr (6, [.ref b])), (b, .inl (0, 21, .inl g))])) 0 0 (k_22 l2 l3 l4 f_) 22 [(0, .ref w), (1, .ref v), (2, .int l2), (3, .int l3), (4, .int l4)] [] [(w, .inr (6, [.ref a])), (a, .inl (0, 21, .inl f_)), (v, .inr (6, [.ref b])), (b, .inl (0, 21, .inl g))]) : ∀ (l2 : Int32) (l3 : Int32) (l4 : Int32) (f_ : Nat → Int32), AW RX4 "becomeUnlike" cX4_becomeUnlike 5 none [] (fun _ _ => True) (2) (PN (U := (Nat → Int32)) (fun _ _ => none) (fun zz ad => [(w, .inr (6, [.ref a])), (a, .inl (0, 21, .inl zz)), (v, .inr (6, [.ref b])), (b, .inl (0, 21, .inl g))])) 0 0 (fX4_becomeUnlike_45 N K f g k_6 k_22 l2 l3 l4 f_) 45 [(0, .ref w), (1, .ref v), (2, .int l2), (3, .int l3), (4, .int l4)] [] [(w, .inr (6, [.ref a])), (a, .inl (0, 21, .inl f_)), (v, .inr (6, [.ref b])), (b, .inl (0, 21, .inl g))] := by
  intro l2 l3 l4 f_
  refine aw_iload (q := 47) gdX4_becomeUnlike_40.2.2.2.1 rfl 4 rfl ?_
  refine aw_iconst (q := 48) (v := 2) gdX4_becomeUnlike_40.2.2.2.2.1 rfl (by decide) ?_
  refine aw_imul (q := 49) gdX4_becomeUnlike_40.2.2.2.2.2.1 rfl ?_
  refine aw_istore (q := 51) (lv' := [(4, .int (l4 * (2 : Int32))), (0, .ref w), (1, .ref v), (2, .int l2), (3, .int l3)]) gdX4_becomeUnlike_40.2.2.2.2.2.2.1 rfl (by decide) rfl ?_
  refine aw_goto (tgt := 22) gdX4_becomeUnlike_40.2.2.2.2.2.2.2 (by decide) ?_
  refine aw_locals (lv' := [(0, .ref w), (1, .ref v), (2, .int l2), (3, .int l3), (4, .int (l4 * (2 : Int32)))]) [1, 2, 3, 4, 0] rfl ?_
  exact hk_22 _ _ _ _
def fX4_becomeUnlike_22 (N K : Nat) (f : Nat → Int32) (g : Nat → Int32) (k_6 : Int32 → (Nat → Int32) → Option ((Nat → Int32))) : Nat → Int32 → Int32 → Int32 → (Nat → Int32) → Option ((Nat → Int32))
  | 0, _, _, _, _ => none
  | fu + 1, l2, l3, l4, f_ =>
    (if (20 : Int32) < l4 then k_6 (l2 + (1 : Int32)) f_ else (if (l3 &&& l4) = 0 then fX4_becomeUnlike_45 N K f g k_6 (fX4_becomeUnlike_22 N K f g k_6 fu) l2 l3 l4 f_ else ((fX4_put N K f_ (l4 * l2) (1 : Int32)).bind (fun x42 => fX4_becomeUnlike_45 N K f g k_6 (fX4_becomeUnlike_22 N K f g k_6 fu) l2 l3 l4 x42))))
set_option maxHeartbeats 4000000 in
set_option maxRecDepth 100000 in
theorem tX4_becomeUnlike_22 {N K : Nat} {w v a b : Nat} {f : Nat → Int32} {g : Nat → Int32} {k_6 : Int32 → (Nat → Int32) → Option ((Nat → Int32))} (hk_6 : ∀ (l2 : Int32) (f_ : Nat → Int32), AW RX4 "becomeUnlike" cX4_becomeUnlike 5 none [] (fun _ _ => True) (2) (PN (U := (Nat → Int32)) (fun _ _ => none) (fun zz ad => [(w, .inr (6, [.ref a])), (a, .inl (0, 21, .inl zz)), (v, .inr (6, [.ref b])), (b, .inl (0, 21, .inl g))])) 0 0 (k_6 l2 f_) 6 [(0, .ref w), (1, .ref v), (2, .int l2)] [] [(w, .inr (6, [.ref a])), (a, .inl (0, 21, .inl f_)), (v, .inr (6, [.ref b])), (b, .inl (0, 21, .inl g))]) : ∀ (fu : Nat) (l2 : Int32) (l3 : Int32) (l4 : Int32) (f_ : Nat → Int32), AW RX4 "becomeUnlike" cX4_becomeUnlike 5 none [] (fun _ _ => True) (2) (PN (U := (Nat → Int32)) (fun _ _ => none) (fun zz ad => [(w, .inr (6, [.ref a])), (a, .inl (0, 21, .inl zz)), (v, .inr (6, [.ref b])), (b, .inl (0, 21, .inl g))])) 0 0 (fX4_becomeUnlike_22 N K f g k_6 fu l2 l3 l4 f_) 22 [(0, .ref w), (1, .ref v), (2, .int l2), (3, .int l3), (4, .int l4)] [] [(w, .inr (6, [.ref a])), (a, .inl (0, 21, .inl f_)), (v, .inr (6, [.ref b])), (b, .inl (0, 21, .inl g))] := by
  intro fu
  induction fu with
  | zero => intro l2 l3 l4 f_; exact aw_none
  | succ fu ih =>
    intro l2 l3 l4 f_
    refine aw_iload (q := 24) gdX4_becomeUnlike_13.2.2.2.2.2.2.1 rfl 4 rfl ?_
    refine aw_bipush (q := 26) (v := 20) gdX4_becomeUnlike_13.2.2.2.2.2.2.2 rfl (by decide) ?_
    refine aw_icmp_gt (tgt := 54) (q := 29) gdX4_becomeUnlike_26.1 (by decide) rfl (fun h_26 => ?_) (fun h_26 => ?_)
    · refine aw_iinc (q := 57) (v := (l2 + (1 : Int32))) (lv' := [(2, .int (l2 + (1 : Int32))), (0, .ref w), (1, .ref v), (3, .int l3), (4, .int l4)]) gdX4_becomeUnlike_54.1 rfl 2 rfl rfl (by decide) rfl ?_
      refine aw_goto (tgt := 6) gdX4_becomeUnlike_54.2.1 (by decide) ?_
      refine aw_locals (lv' := [(0, .ref w), (1, .ref v), (2, .int (l2 + (1 : Int32)))]) [1, 2, 0] rfl ?_
      exact hk_6 _ _
    · refine aw_iload_n (q := 30) gdX4_becomeUnlike_26.2.1 rfl 3 rfl ?_
      refine aw_iload (q := 32) gdX4_becomeUnlike_26.2.2.1 rfl 4 rfl ?_
      refine aw_iand (q := 33) gdX4_becomeUnlike_26.2.2.2.1 rfl ?_
      refine aw_if_eq (tgt := 45) (q := 36) gdX4_becomeUnlike_26.2.2.2.2.1 (by decide) rfl (fun h_33 => ?_) (fun h_33 => ?_)
      · exact tX4_becomeUnlike_45 hk_6 ih _ _ _ _
      · refine aw_aload_n (q := 37) gdX4_becomeUnlike_26.2.2.2.2.2.1 rfl 0 rfl ?_
        refine aw_iload (q := 39) gdX4_becomeUnlike_26.2.2.2.2.2.2.1 rfl 4 rfl ?_
        refine aw_iload_n (q := 40) gdX4_becomeUnlike_26.2.2.2.2.2.2.2 rfl 2 rfl ?_
        refine aw_imul (q := 41) gdX4_becomeUnlike_40.1 rfl ?_
        refine aw_iconst (q := 42) (v := 1) gdX4_becomeUnlike_40.2.1 rfl (by decide) ?_
        refine aw_call (q := 45) (kc1 := 0) (ks1 := 0) (wc := [(w, .inr (6, [.ref a])), (a, .inl (0, 21, .inl f_))]) (wr := [(v, .inr (6, [.ref b])), (b, .inl (0, 21, .inl g))]) (st1 := fun x42 g42 => []) (ws1 := fun x42 g42 => [(v, .inr (6, [.ref b])), (b, .inl (0, 21, .inl g)), (w, .inr (6, [.ref a])), (a, .inl (0, 21, .inl x42))]) (As := [.ref w, .int (l4 * l2), .int (1 : Int32)]) [0, 1] [2, 3] (fun _ => runV (q0 := 0) gdX4_becomeUnlike_40.2.2.1 mi_X4_put im_X4_put se_X4_put ml_X4_56 (by omega) rfl (Nat.le_of_ble_eq_true rfl) rfl rfl rfl rfl) (fun x9 h9 => ok_X4_put h9) rfl rfl rfl rfl rfl (by decide +kernel) (by omega) (by omega) (fun _ _ => rfl) (fun _ _ => rfl) (fun x42 g42 => ?_)
        refine aw_world (ws' := [(w, .inr (6, [.ref a])), (a, .inl (0, 21, .inl x42)), (v, .inr (6, [.ref b])), (b, .inl (0, 21, .inl g))]) [2, 3, 0, 1] rfl rfl ?_
        exact tX4_becomeUnlike_45 hk_6 ih _ _ _ _
def fX4_becomeUnlike_6 (N K : Nat) (f : Nat → Int32) (g : Nat → Int32) : Nat → Int32 → (Nat → Int32) → Option ((Nat → Int32))
  | 0, _, _ => none
  | fu + 1, l2, f_ =>
    (if (20 : Int32) < l2 then (some f_) else (if l2 < 0 ∨ 21 ≤ l2.toNatClampNeg then none else fX4_becomeUnlike_22 N K f g (fX4_becomeUnlike_6 N K f g  fu) N l2 (g l2.toNatClampNeg) (1 : Int32) f_))
set_option maxHeartbeats 4000000 in
set_option maxRecDepth 100000 in
theorem tX4_becomeUnlike_6 {N K : Nat} {w v a b : Nat} {f : Nat → Int32} {g : Nat → Int32} : ∀ (fu : Nat) (l2 : Int32) (f_ : Nat → Int32), AW RX4 "becomeUnlike" cX4_becomeUnlike 5 none [] (fun _ _ => True) (2) (PN (U := (Nat → Int32)) (fun _ _ => none) (fun zz ad => [(w, .inr (6, [.ref a])), (a, .inl (0, 21, .inl zz)), (v, .inr (6, [.ref b])), (b, .inl (0, 21, .inl g))])) 0 0 (fX4_becomeUnlike_6 N K f g  fu l2 f_) 6 [(0, .ref w), (1, .ref v), (2, .int l2)] [] [(w, .inr (6, [.ref a])), (a, .inl (0, 21, .inl f_)), (v, .inr (6, [.ref b])), (b, .inl (0, 21, .inl g))] := by
  intro fu
  induction fu with
  | zero => intro l2 f_; exact aw_none
  | succ fu ih =>
    intro l2 f_
    refine aw_iload_n (q := 7) gdX4_becomeUnlike_0.2.2.2.2.1 rfl 2 rfl ?_
    refine aw_bipush (q := 9) (v := 20) gdX4_becomeUnlike_0.2.2.2.2.2.1 rfl (by decide) ?_
    refine aw_icmp_gt (tgt := 60) (q := 12) gdX4_becomeUnlike_0.2.2.2.2.2.2.1 (by decide) rfl (fun h_9 => ?_) (fun h_9 => ?_)
    · exact aw_return (w := [(w, .inr (6, [.ref a])), (a, .inl (0, 21, .inl f_)), (v, .inr (6, [.ref b])), (b, .inl (0, 21, .inl g))]) [0, 1, 2, 3] gdX4_becomeUnlike_54.2.2 rfl rfl rfl (PN.mk (fun _ => 0) rfl rfl)
    · refine aw_aload_n (q := 13) gdX4_becomeUnlike_0.2.2.2.2.2.2.2 rfl 1 rfl ?_
      refine aw_get (q := 16) gdX4_becomeUnlike_13.1 rfl fl_X4_9 2 rfl rfl ?_
      refine aw_iload_n (q := 17) gdX4_becomeUnlike_13.2.1 rfl 2 rfl ?_
      refine aw_iald (q := 18) gdX4_becomeUnlike_13.2.2.1 rfl 3 rfl ?_
      refine aw_istore_n (q := 19) (lv' := [(3, .int (g l2.toNatClampNeg)), (0, .ref w), (1, .ref v), (2, .int l2)]) gdX4_becomeUnlike_13.2.2.2.1 rfl (by decide) rfl ?_
      refine aw_iconst (q := 20) (v := 1) gdX4_becomeUnlike_13.2.2.2.2.1 rfl (by decide) ?_
      refine aw_istore (q := 22) (lv' := [(4, .int (1 : Int32)), (3, .int (g l2.toNatClampNeg)), (0, .ref w), (1, .ref v), (2, .int l2)]) gdX4_becomeUnlike_13.2.2.2.2.2.1 rfl (by decide) rfl ?_
      refine aw_locals (lv' := [(0, .ref w), (1, .ref v), (2, .int l2), (3, .int (g l2.toNatClampNeg)), (4, .int (1 : Int32))]) [2, 3, 4, 1, 0] rfl ?_
      exact tX4_becomeUnlike_22 ih N _ _ _ _
def fX4_becomeUnlike (N K : Nat) (f : Nat → Int32) (g : Nat → Int32) : Option ((Nat → Int32)) :=
  ((fX4_becomeEmpty N K f).bind (fun x1 => fX4_becomeUnlike_6 N K f g  N (1 : Int32) x1))
set_option maxHeartbeats 4000000 in
set_option maxRecDepth 100000 in
theorem ok_X4_becomeUnlike {N K : Nat} {w v a b : Nat} {f : Nat → Int32} {g : Nat → Int32} {xr : (Nat → Int32)} (hE : fX4_becomeUnlike N K f g = some xr) : OkM yX4_becomeUnlike (.code yX4_becomeUnlike cX4_becomeUnlike 5 none) (2) 0 0 [.ref w, .ref v] [(w, .inr (6, [.ref a])), (a, .inl (0, 21, .inl f)), (v, .inr (6, [.ref b])), (b, .inl (0, 21, .inl g))] ((PN (U := (Nat → Int32)) (fun _ _ => none) (fun zz ad => [(w, .inr (6, [.ref a])), (a, .inl (0, 21, .inl zz)), (v, .inr (6, [.ref b])), (b, .inl (0, 21, .inl g))])) xr) := by
  refine ok_of (by decide) (Nat.le_of_ble_eq_true rfl) hE ?_
  refine aw_locals (lv' := [(0, .ref w), (1, .ref v)]) [0, 1] rfl ?_
  refine aw_aload_n (q := 1) gdX4_becomeUnlike_0.1 rfl 0 rfl ?_
  refine aw_call (q := 4) (kc1 := 0) (ks1 := 0) (wc := [(w, .inr (6, [.ref a])), (a, .inl (0, 21, .inl f))]) (wr := [(v, .inr (6, [.ref b])), (b, .inl (0, 21, .inl g))]) (st1 := fun x1 g1 => []) (ws1 := fun x1 g1 => [(v, .inr (6, [.ref b])), (b, .inl (0, 21, .inl g)), (w, .inr (6, [.ref a])), (a, .inl (0, 21, .inl x1))]) (As := [.ref w]) [0, 1] [2, 3] (fun _ => runV (q0 := 0) gdX4_becomeUnlike_0.2.1 mi_X4_becomeEmpty im_X4_becomeEmpty se_X4_becomeEmpty ml_X4_53 (by omega) rfl (Nat.le_of_ble_eq_true rfl) rfl rfl rfl rfl) (fun x9 h9 => ok_X4_becomeEmpty h9) rfl rfl rfl rfl rfl (by decide +kernel) (by omega) (by omega) (fun _ _ => rfl) (fun _ _ => rfl) (fun x1 g1 => ?_)
  refine aw_iconst (q := 5) (v := 1) gdX4_becomeUnlike_0.2.2.1 rfl (by decide) ?_
  refine aw_istore_n (q := 6) (lv' := [(2, .int (1 : Int32)), (0, .ref w), (1, .ref v)]) gdX4_becomeUnlike_0.2.2.2.1 rfl (by decide) rfl ?_
  refine aw_locals (lv' := [(0, .ref w), (1, .ref v), (2, .int (1 : Int32))]) [1, 2, 0] rfl ?_
  refine aw_world (ws' := [(w, .inr (6, [.ref a])), (a, .inl (0, 21, .inl x1)), (v, .inr (6, [.ref b])), (b, .inl (0, 21, .inl g))]) [2, 3, 0, 1] rfl rfl ?_
  exact tX4_becomeUnlike_6  N _ _
def fX4_becomeOdd_36 (N K : Nat) (f : Nat → Int32) (g : Nat → Int32) (k_6 : Int32 → (Nat → Int32) → Option ((Nat → Int32))) (l2 : Int32) (f_ : Nat → Int32) : Option ((Nat → Int32)) :=
  k_6 (l2 + (1 : Int32)) f_
set_option maxHeartbeats 4000000 in
set_option maxRecDepth 100000 in
theorem tX4_becomeOdd_36 {N K : Nat} {w v a b : Nat} {f : Nat → Int32} {g : Nat → Int32} {k_6 : Int32 → (Nat → Int32) → Option ((Nat → Int32))} (hk_6 : ∀ (l2 : Int32) (f_ : Nat → Int32), AW RX4 "becomeOdd" cX4_becomeOdd 4 none [] (fun _ _ => True) (2) (PN (U := (Nat → Int32)) (fun _ _ => none) (fun zz ad => [(w, .inr (6, [.ref a])), (a, .inl (0, 21, .inl zz)), (v, .inr (6, [.ref b])), (b, .inl (0, 21, .inl g))])) 0 0 (k_6 l2 f_) 6 [(0, .ref w), (1, .ref v), (2, .int l2)] [] [(w, .inr (6, [.ref a])), (a, .inl (0, 21, .inl f_)), (v, .inr (6, [.ref b])), (b, .inl (0, 21, .inl g))]) : ∀ (l2 : Int32) (f_ : Nat → Int32), AW RX4 "becomeOdd" cX4_becomeOdd 4 none [] (fun _ _ => True) (2) (PN (U := (Nat → Int32)) (fun _ _ => none) (fun zz ad => [(w, .inr (6, [.ref a])), (a, .inl (0, 21, .inl zz)), (v, .inr (6, [.ref b])), (b, .inl (0, 21, .inl g))])) 0 0 (fX4_becomeOdd_36 N K f g k_6 l2 f_) 36 [(0, .ref w), (1, .ref v), (2, .int l2)] [] [(w, .inr (6, [.ref a])), (a, .inl (0, 21, .inl f_)), (v, .inr (6, [.ref b])), (b, .inl (0, 21, .inl g))] := by
  intro l2 f_
  refine aw_iinc (q := 39) (v := (l2 + (1 : Int32))) (lv' := [(2, .int (l2 + (1 : Int32))), (0, .ref w), (1, .ref v)]) gdX4_becomeOdd_33.2.1 rfl 2 rfl rfl (by decide) rfl ?_
  refine aw_goto (tgt := 6) gdX4_becomeOdd_33.2.2.1 (by decide) ?_
  refine aw_locals (lv' := [(0, .ref w), (1, .ref v), (2, .int (l2 + (1 : Int32)))]) [1, 2, 0] rfl ?_
  exact hk_6 _ _
def fX4_becomeOdd_6 (N K : Nat) (f : Nat → Int32) (g : Nat → Int32) : Nat → Int32 → (Nat → Int32) → Option ((Nat → Int32))
  | 0, _, _ => none
  | fu + 1, l2, f_ =>
    (if (20 : Int32) < l2 then (some f_) else (if (l2 &&& (-l2)) ≤ 0 then fX4_becomeOdd_36 N K f g (fX4_becomeOdd_6 N K f g  fu) l2 f_ else (if (l2 &&& (-l2)) = 0 then none else (if l2 < 0 ∨ 21 ≤ l2.toNatClampNeg then none else ((fX4_put N K f_ (l2 / (l2 &&& (-l2))) ((l2 &&& (-l2)) * (g l2.toNatClampNeg))).bind (fun x33 => fX4_becomeOdd_36 N K f g (fX4_becomeOdd_6 N K f g  fu) l2 x33))))))
set_option maxHeartbeats 4000000 in
set_option maxRecDepth 100000 in
theorem tX4_becomeOdd_6 {N K : Nat} {w v a b : Nat} {f : Nat → Int32} {g : Nat → Int32} : ∀ (fu : Nat) (l2 : Int32) (f_ : Nat → Int32), AW RX4 "becomeOdd" cX4_becomeOdd 4 none [] (fun _ _ => True) (2) (PN (U := (Nat → Int32)) (fun _ _ => none) (fun zz ad => [(w, .inr (6, [.ref a])), (a, .inl (0, 21, .inl zz)), (v, .inr (6, [.ref b])), (b, .inl (0, 21, .inl g))])) 0 0 (fX4_becomeOdd_6 N K f g  fu l2 f_) 6 [(0, .ref w), (1, .ref v), (2, .int l2)] [] [(w, .inr (6, [.ref a])), (a, .inl (0, 21, .inl f_)), (v, .inr (6, [.ref b])), (b, .inl (0, 21, .inl g))] := by
  intro fu
  induction fu with
  | zero => intro l2 f_; exact aw_none
  | succ fu ih =>
    intro l2 f_
    refine aw_iload_n (q := 7) gdX4_becomeOdd_0.2.2.2.2.1 rfl 2 rfl ?_
    refine aw_bipush (q := 9) (v := 20) gdX4_becomeOdd_0.2.2.2.2.2.1 rfl (by decide) ?_
    refine aw_icmp_gt (tgt := 42) (q := 12) gdX4_becomeOdd_0.2.2.2.2.2.2.1 (by decide) rfl (fun h_9 => ?_) (fun h_9 => ?_)
    · exact aw_return (w := [(w, .inr (6, [.ref a])), (a, .inl (0, 21, .inl f_)), (v, .inr (6, [.ref b])), (b, .inl (0, 21, .inl g))]) [0, 1, 2, 3] gdX4_becomeOdd_33.2.2.2 rfl rfl rfl (PN.mk (fun _ => 0) rfl rfl)
    · refine aw_iload_n (q := 13) gdX4_becomeOdd_0.2.2.2.2.2.2.2 rfl 2 rfl ?_
      refine aw_iload_n (q := 14) gdX4_becomeOdd_13.1 rfl 2 rfl ?_
      refine aw_ineg (q := 15) gdX4_becomeOdd_13.2.1 rfl ?_
      refine aw_iand (q := 16) gdX4_becomeOdd_13.2.2.1 rfl ?_
      refine aw_istore_n (q := 17) (lv' := [(3, .int (l2 &&& (-l2))), (0, .ref w), (1, .ref v), (2, .int l2)]) gdX4_becomeOdd_13.2.2.2.1 rfl (by decide) rfl ?_
      refine aw_iload_n (q := 18) gdX4_becomeOdd_13.2.2.2.2.1 rfl 0 rfl ?_
      refine aw_if_le (tgt := 36) (q := 21) gdX4_becomeOdd_13.2.2.2.2.2.1 (by decide) rfl (fun h_18 => ?_) (fun h_18 => ?_)
      · refine aw_locals (lv' := [(0, .ref w), (1, .ref v), (2, .int l2)]) [1, 2, 3] rfl ?_
        exact tX4_becomeOdd_36 ih _ _
      · refine aw_aload_n (q := 22) gdX4_becomeOdd_13.2.2.2.2.2.2.1 rfl 1 rfl ?_
        refine aw_iload_n (q := 23) gdX4_becomeOdd_13.2.2.2.2.2.2.2 rfl 3 rfl ?_
        refine aw_iload_n (q := 24) gdX4_becomeOdd_23.1 rfl 0 rfl ?_
        refine aw_idiv (q := 25) gdX4_becomeOdd_23.2.1 rfl ?_
        refine aw_iload_n (q := 26) gdX4_becomeOdd_23.2.2.1 rfl 0 rfl ?_
        refine aw_aload_n (q := 27) gdX4_becomeOdd_23.2.2.2.1 rfl 2 rfl ?_
        refine aw_get (q := 30) gdX4_becomeOdd_23.2.2.2.2.1 rfl fl_X4_9 2 rfl rfl ?_
        refine aw_iload_n (q := 31) gdX4_becomeOdd_23.2.2.2.2.2.1 rfl 3 rfl ?_
        refine aw_iald (q := 32) gdX4_becomeOdd_23.2.2.2.2.2.2.1 rfl 3 rfl ?_
        refine aw_imul (q := 33) gdX4_becomeOdd_23.2.2.2.2.2.2.2 rfl ?_
        refine aw_call (q := 36) (kc1 := 0) (ks1 := 0) (wc := [(w, .inr (6, [.ref a])), (a, .inl (0, 21, .inl f_))]) (wr := [(v, .inr (6, [.ref b])), (b, .inl (0, 21, .inl g))]) (st1 := fun x33 g33 => []) (ws1 := fun x33 g33 => [(v, .inr (6, [.ref b])), (b, .inl (0, 21, .inl g)), (w, .inr (6, [.ref a])), (a, .inl (0, 21, .inl x33))]) (As := [.ref w, .int (l2 / (l2 &&& (-l2))), .int ((l2 &&& (-l2)) * (g l2.toNatClampNeg))]) [0, 1] [2, 3] (fun _ => runV (q0 := 0) gdX4_becomeOdd_33.1 mi_X4_put im_X4_put se_X4_put ml_X4_56 (by omega) rfl (Nat.le_of_ble_eq_true rfl) rfl rfl rfl rfl) (fun x9 h9 => ok_X4_put h9) rfl rfl rfl rfl rfl (by decide +kernel) (by omega) (by omega) (fun _ _ => rfl) (fun _ _ => rfl) (fun x33 g33 => ?_)
        refine aw_locals (lv' := [(0, .ref w), (1, .ref v), (2, .int l2)]) [1, 2, 3] rfl ?_
        refine aw_world (ws' := [(w, .inr (6, [.ref a])), (a, .inl (0, 21, .inl x33)), (v, .inr (6, [.ref b])), (b, .inl (0, 21, .inl g))]) [2, 3, 0, 1] rfl rfl ?_
        exact tX4_becomeOdd_36 ih _ _
def fX4_becomeOdd (N K : Nat) (f : Nat → Int32) (g : Nat → Int32) : Option ((Nat → Int32)) :=
  ((fX4_becomeEmpty N K f).bind (fun x1 => fX4_becomeOdd_6 N K f g  N (1 : Int32) x1))
set_option maxHeartbeats 4000000 in
set_option maxRecDepth 100000 in
theorem ok_X4_becomeOdd {N K : Nat} {w v a b : Nat} {f : Nat → Int32} {g : Nat → Int32} {xr : (Nat → Int32)} (hE : fX4_becomeOdd N K f g = some xr) : OkM yX4_becomeOdd (.code yX4_becomeOdd cX4_becomeOdd 4 none) (2) 0 0 [.ref w, .ref v] [(w, .inr (6, [.ref a])), (a, .inl (0, 21, .inl f)), (v, .inr (6, [.ref b])), (b, .inl (0, 21, .inl g))] ((PN (U := (Nat → Int32)) (fun _ _ => none) (fun zz ad => [(w, .inr (6, [.ref a])), (a, .inl (0, 21, .inl zz)), (v, .inr (6, [.ref b])), (b, .inl (0, 21, .inl g))])) xr) := by
  refine ok_of (by decide) (Nat.le_of_ble_eq_true rfl) hE ?_
  refine aw_locals (lv' := [(0, .ref w), (1, .ref v)]) [0, 1] rfl ?_
  refine aw_aload_n (q := 1) gdX4_becomeOdd_0.1 rfl 0 rfl ?_
  refine aw_call (q := 4) (kc1 := 0) (ks1 := 0) (wc := [(w, .inr (6, [.ref a])), (a, .inl (0, 21, .inl f))]) (wr := [(v, .inr (6, [.ref b])), (b, .inl (0, 21, .inl g))]) (st1 := fun x1 g1 => []) (ws1 := fun x1 g1 => [(v, .inr (6, [.ref b])), (b, .inl (0, 21, .inl g)), (w, .inr (6, [.ref a])), (a, .inl (0, 21, .inl x1))]) (As := [.ref w]) [0, 1] [2, 3] (fun _ => runV (q0 := 0) gdX4_becomeOdd_0.2.1 mi_X4_becomeEmpty im_X4_becomeEmpty se_X4_becomeEmpty ml_X4_53 (by omega) rfl (Nat.le_of_ble_eq_true rfl) rfl rfl rfl rfl) (fun x9 h9 => ok_X4_becomeEmpty h9) rfl rfl rfl rfl rfl (by decide +kernel) (by omega) (by omega) (fun _ _ => rfl) (fun _ _ => rfl) (fun x1 g1 => ?_)
  refine aw_iconst (q := 5) (v := 1) gdX4_becomeOdd_0.2.2.1 rfl (by decide) ?_
  refine aw_istore_n (q := 6) (lv' := [(2, .int (1 : Int32)), (0, .ref w), (1, .ref v)]) gdX4_becomeOdd_0.2.2.2.1 rfl (by decide) rfl ?_
  refine aw_locals (lv' := [(0, .ref w), (1, .ref v), (2, .int (1 : Int32))]) [1, 2, 0] rfl ?_
  refine aw_world (ws' := [(w, .inr (6, [.ref a])), (a, .inl (0, 21, .inl x1)), (v, .inr (6, [.ref b])), (b, .inl (0, 21, .inl g))]) [2, 3, 0, 1] rfl rfl ?_
  exact tX4_becomeOdd_6  N _ _
def fX4_become (N K : Nat) (f : Nat → Int32) (g : Nat → Int32) : Option ((Nat → Int32)) :=
  (some (va_cpy g f (0 : Int32).toNatClampNeg (0 : Int32).toNatClampNeg (21 : Int32).toNatClampNeg))
set_option maxHeartbeats 4000000 in
set_option maxRecDepth 100000 in
theorem ok_X4_become {N K : Nat} {w v a b : Nat} {f : Nat → Int32} {g : Nat → Int32} {xr : (Nat → Int32)} (hE : fX4_become N K f g = some xr) : OkM yX4_become (.code yX4_become cX4_become 2 none) (2) 0 0 [.ref w, .ref v] [(w, .inr (6, [.ref a])), (a, .inl (0, 21, .inl f)), (v, .inr (6, [.ref b])), (b, .inl (0, 21, .inl g))] ((PN (U := (Nat → Int32)) (fun _ _ => none) (fun zz ad => [(w, .inr (6, [.ref a])), (a, .inl (0, 21, .inl zz)), (v, .inr (6, [.ref b])), (b, .inl (0, 21, .inl g))])) xr) := by
  refine ok_of (by decide) (Nat.le_of_ble_eq_true rfl) hE ?_
  refine aw_locals (lv' := [(0, .ref w), (1, .ref v)]) [0, 1] rfl ?_
  refine aw_aload_n (q := 1) gdX4_become_0.1 rfl 1 rfl ?_
  refine aw_get (q := 4) gdX4_become_0.2.1 rfl fl_X4_9 2 rfl rfl ?_
  refine aw_iconst (q := 5) (v := 0) gdX4_become_0.2.2.1 rfl (by decide) ?_
  refine aw_aload_n (q := 6) gdX4_become_0.2.2.2.1 rfl 0 rfl ?_
  refine aw_get (q := 9) gdX4_become_0.2.2.2.2.1 rfl fl_X4_9 0 rfl rfl ?_
  refine aw_iconst (q := 10) (v := 0) gdX4_become_0.2.2.2.2.2.1 rfl (by decide) ?_
  refine aw_aload_n (q := 11) gdX4_become_0.2.2.2.2.2.2.1 rfl 0 rfl ?_
  refine aw_get (q := 14) gdX4_become_0.2.2.2.2.2.2.2 rfl fl_X4_9 0 rfl rfl ?_
  refine aw_alen (q := 15) (v := 21) gdX4_become_14.1 rfl 1 rfl (by decide) rfl ?_
  refine aw_copy (q := 18) (ws' := [(w, .inr (6, [.ref a])), (a, .inl (0, 21, .inl (va_cpy g f (0 : Int32).toNatClampNeg (0 : Int32).toNatClampNeg (21 : Int32).toNatClampNeg))), (v, .inr (6, [.ref b])), (b, .inl (0, 21, .inl g))]) gdX4_become_14.2.1 rfl ml_X4_41 w_ac (by omega) (Nat.le_of_ble_eq_true rfl) 3 1 rfl rfl (by decide) (by decide) (by decide) (by decide) (by decide) rfl ?_
  exact aw_return (w := [(w, .inr (6, [.ref a])), (a, .inl (0, 21, .inl (va_cpy g f (0 : Int32).toNatClampNeg (0 : Int32).toNatClampNeg (21 : Int32).toNatClampNeg))), (v, .inr (6, [.ref b])), (b, .inl (0, 21, .inl g))]) [0, 1, 2, 3] gdX4_become_14.2.2 rfl rfl rfl (PN.mk (fun _ => 0) rfl rfl)
def fX4_isOwnTurned (N K : Nat) (f : Nat → Int32) (g : Nat → Int32) : Option (Int32 × (Nat → Int32)) :=
  ((fX4_becomeTurned N K g f).bind (fun x2 => ((fX4_isLike N K f x2).bind (fun x7 => (if x7 = 0 ∨ x7 = 1 then (some (x7, x2)) else none)))))
set_option maxHeartbeats 4000000 in
set_option maxRecDepth 100000 in
theorem ok_X4_isOwnTurned {N K : Nat} {w v a b : Nat} {f : Nat → Int32} {g : Nat → Int32} {xr : Int32 × (Nat → Int32)} (hE : fX4_isOwnTurned N K f g = some xr) : OkM yX4_isOwnTurned (.code yX4_isOwnTurned cX4_isOwnTurned 2 (some .boolean)) (3) 0 0 [.ref w, .ref v] [(w, .inr (6, [.ref a])), (a, .inl (0, 21, .inl f)), (v, .inr (6, [.ref b])), (b, .inl (0, 21, .inl g))] ((PN (U := Int32 × (Nat → Int32)) (fun zz _ => some (.int zz.1)) (fun zz ad => [(w, .inr (6, [.ref a])), (a, .inl (0, 21, .inl f)), (v, .inr (6, [.ref b])), (b, .inl (0, 21, .inl zz.2))])) xr) := by
  refine ok_of (by decide) (Nat.le_of_ble_eq_true rfl) hE ?_
  refine aw_locals (lv' := [(0, .ref w), (1, .ref v)]) [0, 1] rfl ?_
  refine aw_aload_n (q := 1) gdX4_isOwnTurned_0.1 rfl 1 rfl ?_
  refine aw_aload_n (q := 2) gdX4_isOwnTurned_0.2.1 rfl 0 rfl ?_
  refine aw_call (q := 5) (kc1 := 0) (ks1 := 0) (wc := [(v, .inr (6, [.ref b])), (b, .inl (0, 21, .inl g)), (w, .inr (6, [.ref a])), (a, .inl (0, 21, .inl f))]) (wr := []) (st1 := fun x2 g2 => []) (ws1 := fun x2 g2 => [(v, .inr (6, [.ref b])), (b, .inl (0, 21, .inl x2)), (w, .inr (6, [.ref a])), (a, .inl (0, 21, .inl f))]) (As := [.ref v, .ref w]) [2, 3, 0, 1] [] (fun _ => runV (q0 := 2) gdX4_isOwnTurned_0.2.2.1 mi_X4_becomeTurned im_X4_becomeTurned se_X4_becomeTurned ml_X4_15 (by omega) rfl (Nat.le_of_ble_eq_true rfl) rfl rfl rfl rfl) (fun x9 h9 => ok_X4_becomeTurned h9) rfl rfl rfl rfl rfl (by decide +kernel) (by omega) (by omega) (fun _ _ => rfl) (fun _ _ => rfl) (fun x2 g2 => ?_)
  refine aw_aload_n (q := 6) gdX4_isOwnTurned_0.2.2.2.1 rfl 0 rfl ?_
  refine aw_aload_n (q := 7) gdX4_isOwnTurned_0.2.2.2.2.1 rfl 1 rfl ?_
  refine aw_call (q := 10) (kc1 := 0) (ks1 := 0) (wc := [(w, .inr (6, [.ref a])), (a, .inl (0, 21, .inl f)), (v, .inr (6, [.ref b])), (b, .inl (0, 21, .inl x2))]) (wr := []) (st1 := fun x7 g7 => [.int x7]) (ws1 := fun x7 g7 => [(w, .inr (6, [.ref a])), (a, .inl (0, 21, .inl f)), (v, .inr (6, [.ref b])), (b, .inl (0, 21, .inl x2))]) (As := [.ref w, .ref v]) [2, 3, 0, 1] [] (fun _ => runV (q0 := 2) gdX4_isOwnTurned_0.2.2.2.2.2.1 mi_X4_isLike im_X4_isLike se_X4_isLike ml_X4_19 (by omega) rfl (Nat.le_of_ble_eq_true rfl) rfl rfl rfl rfl) (fun x9 h9 => ok_X4_isLike h9) rfl rfl rfl rfl rfl (by decide +kernel) (by omega) (by omega) (fun _ _ => rfl) (fun _ _ => rfl) (fun x7 g7 => ?_)
  exact aw_zreturn (w := [(w, .inr (6, [.ref a])), (a, .inl (0, 21, .inl f)), (v, .inr (6, [.ref b])), (b, .inl (0, 21, .inl x2))]) [0, 1, 2, 3] gdX4_isOwnTurned_0.2.2.2.2.2.2 rfl rfl rfl (PN.mk (fun _ => 0) rfl rfl)
def fX4_isOfKind (N K : Nat) (f : Nat → Int32) (g : Nat → Int32) (p0 : Int32) (p1 : Int32) : Option (Int32 × (Nat → Int32)) :=
  (if p0 = (0 : Int32) then ((fX4_hasNoneAbove N K f p1).bind (fun x46 => (if x46 = 0 ∨ x46 = 1 then (some (x46, g)) else none))) else (if p0 = (1 : Int32) then ((fX4_parts N K f).bind (fun x51 => (if x51 = p1 then (some ((1 : Int32), g)) else (some ((0 : Int32), g))))) else (if p0 = (2 : Int32) then ((fX4_isUnlike N K f).bind (fun x65 => (if x65 = 0 then (some ((0 : Int32), g)) else ((fX4_hasNoneAbove N K f p1).bind (fun x73 => (if x73 = 0 then (some ((0 : Int32), g)) else (some ((1 : Int32), g)))))))) else (if p0 = (3 : Int32) then ((fX4_isOdd N K f).bind (fun x86 => (if x86 = 0 then (some ((0 : Int32), g)) else ((fX4_hasNoneAbove N K f p1).bind (fun x94 => (if x94 = 0 then (some ((0 : Int32), g)) else (some ((1 : Int32), g)))))))) else (if p0 = (4 : Int32) then ((fX4_isOdd N K f).bind (fun x107 => (if x107 = 0 then (some ((0 : Int32), g)) else ((fX4_isUnlike N K f).bind (fun x114 => (if x114 = 0 then (some ((0 : Int32), g)) else ((fX4_hasNoneAbove N K f p1).bind (fun x122 => (if x122 = 0 then (some ((0 : Int32), g)) else (some ((1 : Int32), g))))))))))) else (if p0 = (5 : Int32) then ((fX4_isUnlike N K f).bind (fun x135 => (if x135 = 0 then (some ((0 : Int32), g)) else ((fX4_parts N K f).bind (fun x142 => (if x142 = p1 then (some ((1 : Int32), g)) else (some ((0 : Int32), g)))))))) else (if p0 = (6 : Int32) then ((fX4_parts N K f).bind (fun x156 => (if p1 < x156 then (some ((0 : Int32), g)) else (some ((1 : Int32), g))))) else ((fX4_hasNoneAbove N K f p1).bind (fun x171 => (if x171 = 0 then (some ((0 : Int32), g)) else ((fX4_isOwnTurned N K f g).bind (fun x179 => (if x179.1 = 0 then (some ((0 : Int32), x179.2)) else (some ((1 : Int32), x179.2)))))))))))))))
set_option maxHeartbeats 4000000 in
set_option maxRecDepth 100000 in
theorem ok_X4_isOfKind {N K : Nat} {w v a b : Nat} {f : Nat → Int32} {g : Nat → Int32} {p0 : Int32} {p1 : Int32} {xr : Int32 × (Nat → Int32)} (hE : fX4_isOfKind N K f g p0 p1 = some xr) : OkM yX4_isOfKind (.code yX4_isOfKind cX4_isOfKind 4 (some .boolean)) (4) 0 0 [.ref w, .int p0, .int p1, .ref v] [(w, .inr (6, [.ref a])), (a, .inl (0, 21, .inl f)), (v, .inr (6, [.ref b])), (b, .inl (0, 21, .inl g))] ((PN (U := Int32 × (Nat → Int32)) (fun zz _ => some (.int zz.1)) (fun zz ad => [(w, .inr (6, [.ref a])), (a, .inl (0, 21, .inl f)), (v, .inr (6, [.ref b])), (b, .inl (0, 21, .inl zz.2))])) xr) := by
  refine ok_of (by decide) (Nat.le_of_ble_eq_true rfl) hE ?_
  refine aw_locals (lv' := [(0, .ref w), (1, .int p0), (2, .int p1), (3, .ref v)]) [0, 1, 2, 3] rfl ?_
  refine aw_iload_n (q := 1) gdX4_isOfKind_0.1 rfl 1 rfl ?_
  refine aw_tsw (v := 0) (off := 43) (tgt := 44) gdX4_isOfKind_0.2.1 (by decide) (by decide) (by decide) (by decide) (fun hs_1_0 => ?_) (fun hs_1_0 => ?_)
  · refine aw_aload_n (q := 45) gdX4_isOfKind_0.2.2.1 rfl 0 rfl ?_
    refine aw_iload_n (q := 46) gdX4_isOfKind_0.2.2.2.1 rfl 2 rfl ?_
    refine aw_call (q := 49) (kc1 := 0) (ks1 := 0) (wc := [(w, .inr (6, [.ref a])), (a, .inl (0, 21, .inl f))]) (wr := [(v, .inr (6, [.ref b])), (b, .inl (0, 21, .inl g))]) (st1 := fun x46 g46 => [.int x46]) (ws1 := fun x46 g46 => [(v, .inr (6, [.ref b])), (b, .inl (0, 21, .inl g)), (w, .inr (6, [.ref a])), (a, .inl (0, 21, .inl f))]) (As := [.ref w, .int p1]) [0, 1] [2, 3] (fun _ => runV (q0 := 0) gdX4_isOfKind_0.2.2.2.2.1 mi_X4_hasNoneAbove im_X4_hasNoneAbove se_X4_hasNoneAbove ml_X4_23 (by omega) rfl (Nat.le_of_ble_eq_true rfl) rfl rfl rfl rfl) (fun x9 h9 => ok_X4_hasNoneAbove h9) rfl rfl rfl rfl rfl (by decide +kernel) (by omega) (by omega) (fun _ _ => rfl) (fun _ _ => rfl) (fun x46 g46 => ?_)
    exact aw_zreturn (w := [(w, .inr (6, [.ref a])), (a, .inl (0, 21, .inl f)), (v, .inr (6, [.ref b])), (b, .inl (0, 21, .inl g))]) [2, 3, 0, 1] gdX4_isOfKind_0.2.2.2.2.2.1 rfl rfl rfl (PN.mk (fun _ => 0) rfl rfl)
  · refine aw_tsw (v := 1) (off := 49) (tgt := 50) gdX4_isOfKind_0.2.1 (by decide) (by decide) (by decide) (by decide) (fun hs_1_1 => ?_) (fun hs_1_1 => ?_)
    · refine aw_aload_n (q := 51) gdX4_isOfKind_0.2.2.2.2.2.2.1 rfl 0 rfl ?_
      refine aw_call (q := 54) (kc1 := 0) (ks1 := 0) (wc := [(w, .inr (6, [.ref a])), (a, .inl (0, 21, .inl f))]) (wr := [(v, .inr (6, [.ref b])), (b, .inl (0, 21, .inl g))]) (st1 := fun x51 g51 => [.int x51]) (ws1 := fun x51 g51 => [(v, .inr (6, [.ref b])), (b, .inl (0, 21, .inl g)), (w, .inr (6, [.ref a])), (a, .inl (0, 21, .inl f))]) (As := [.ref w]) [0, 1] [2, 3] (fun _ => runV (q0 := 0) gdX4_isOfKind_0.2.2.2.2.2.2.2 mi_X4_parts im_X4_parts se_X4_parts ml_X4_27 (by omega) rfl (Nat.le_of_ble_eq_true rfl) rfl rfl rfl rfl) (fun x9 h9 => ok_X4_parts h9) rfl rfl rfl rfl rfl (by decide +kernel) (by omega) (by omega) (fun _ _ => rfl) (fun _ _ => rfl) (fun x51 g51 => ?_)
      refine aw_iload_n (q := 55) gdX4_isOfKind_54.1 rfl 2 rfl ?_
      refine aw_icmp_ne (tgt := 62) (q := 58) gdX4_isOfKind_54.2.1 (by decide) rfl (fun h_55 => ?_) (fun h_55 => ?_)
      · refine aw_iconst (q := 63) (v := 0) gdX4_isOfKind_54.2.2.2.2.1 rfl (by decide) ?_
        exact aw_ireturn (w := [(w, .inr (6, [.ref a])), (a, .inl (0, 21, .inl f)), (v, .inr (6, [.ref b])), (b, .inl (0, 21, .inl g))]) [2, 3, 0, 1] gdX4_isOfKind_54.2.2.2.2.2.1 rfl rfl rfl rfl (PN.mk (fun _ => 0) rfl rfl)
      · refine aw_iconst (q := 59) (v := 1) gdX4_isOfKind_54.2.2.1 rfl (by decide) ?_
        refine aw_goto (tgt := 63) gdX4_isOfKind_54.2.2.2.1 (by decide) ?_
        exact aw_ireturn (w := [(w, .inr (6, [.ref a])), (a, .inl (0, 21, .inl f)), (v, .inr (6, [.ref b])), (b, .inl (0, 21, .inl g))]) [2, 3, 0, 1] gdX4_isOfKind_54.2.2.2.2.2.1 rfl rfl rfl rfl (PN.mk (fun _ => 0) rfl rfl)
    · refine aw_tsw (v := 2) (off := 63) (tgt := 64) gdX4_isOfKind_0.2.1 (by decide) (by decide) (by decide) (by decide) (fun hs_1_2 => ?_) (fun hs_1_2 => ?_)
      · refine aw_aload_n (q := 65) gdX4_isOfKind_54.2.2.2.2.2.2.1 rfl 0 rfl ?_
        refine aw_call (q := 68) (kc1 := 0) (ks1 := 0) (wc := [(w, .inr (6, [.ref a])), (a, .inl (0, 21, .inl f))]) (wr := [(v, .inr (6, [.ref b])), (b, .inl (0, 21, .inl g))]) (st1 := fun x65 g65 => [.int x65]) (ws1 := fun x65 g65 => [(v, .inr (6, [.ref b])), (b, .inl (0, 21, .inl g)), (w, .inr (6, [.ref a])), (a, .inl (0, 21, .inl f))]) (As := [.ref w]) [0, 1] [2, 3] (fun _ => runV (q0 := 0) gdX4_isOfKind_54.2.2.2.2.2.2.2 mi_X4_isUnlike im_X4_isUnlike se_X4_isUnlike ml_X4_31 (by omega) rfl (Nat.le_of_ble_eq_true rfl) rfl rfl rfl rfl) (fun x9 h9 => ok_X4_isUnlike h9) rfl rfl rfl rfl rfl (by decide +kernel) (by omega) (by omega) (fun _ _ => rfl) (fun _ _ => rfl) (fun x65 g65 => ?_)
        refine aw_if_eq (tgt := 83) (q := 71) gdX4_isOfKind_68.1 (by decide) rfl (fun h_68 => ?_) (fun h_68 => ?_)
        · refine aw_iconst (q := 84) (v := 0) gdX4_isOfKind_68.2.2.2.2.2.2.2 rfl (by decide) ?_
          exact aw_ireturn (w := [(w, .inr (6, [.ref a])), (a, .inl (0, 21, .inl f)), (v, .inr (6, [.ref b])), (b, .inl (0, 21, .inl g))]) [2, 3, 0, 1] gdX4_isOfKind_84.1 rfl rfl rfl rfl (PN.mk (fun _ => 0) rfl rfl)
        · refine aw_aload_n (q := 72) gdX4_isOfKind_68.2.1 rfl 0 rfl ?_
          refine aw_iload_n (q := 73) gdX4_isOfKind_68.2.2.1 rfl 2 rfl ?_
          refine aw_call (q := 76) (kc1 := 0) (ks1 := 0) (wc := [(w, .inr (6, [.ref a])), (a, .inl (0, 21, .inl f))]) (wr := [(v, .inr (6, [.ref b])), (b, .inl (0, 21, .inl g))]) (st1 := fun x73 g73 => [.int x73]) (ws1 := fun x73 g73 => [(v, .inr (6, [.ref b])), (b, .inl (0, 21, .inl g)), (w, .inr (6, [.ref a])), (a, .inl (0, 21, .inl f))]) (As := [.ref w, .int p1]) [2, 3] [0, 1] (fun _ => runV (q0 := 2) gdX4_isOfKind_68.2.2.2.1 mi_X4_hasNoneAbove im_X4_hasNoneAbove se_X4_hasNoneAbove ml_X4_23 (by omega) rfl (Nat.le_of_ble_eq_true rfl) rfl rfl rfl rfl) (fun x9 h9 => ok_X4_hasNoneAbove h9) rfl rfl rfl rfl rfl (by decide +kernel) (by omega) (by omega) (fun _ _ => rfl) (fun _ _ => rfl) (fun x73 g73 => ?_)
          refine aw_if_eq (tgt := 83) (q := 79) gdX4_isOfKind_68.2.2.2.2.1 (by decide) rfl (fun h_76 => ?_) (fun h_76 => ?_)
          · refine aw_iconst (q := 84) (v := 0) gdX4_isOfKind_68.2.2.2.2.2.2.2 rfl (by decide) ?_
            exact aw_ireturn (w := [(w, .inr (6, [.ref a])), (a, .inl (0, 21, .inl f)), (v, .inr (6, [.ref b])), (b, .inl (0, 21, .inl g))]) [2, 3, 0, 1] gdX4_isOfKind_84.1 rfl rfl rfl rfl (PN.mk (fun _ => 0) rfl rfl)
          · refine aw_iconst (q := 80) (v := 1) gdX4_isOfKind_68.2.2.2.2.2.1 rfl (by decide) ?_
            refine aw_goto (tgt := 84) gdX4_isOfKind_68.2.2.2.2.2.2.1 (by decide) ?_
            exact aw_ireturn (w := [(w, .inr (6, [.ref a])), (a, .inl (0, 21, .inl f)), (v, .inr (6, [.ref b])), (b, .inl (0, 21, .inl g))]) [2, 3, 0, 1] gdX4_isOfKind_84.1 rfl rfl rfl rfl (PN.mk (fun _ => 0) rfl rfl)
      · refine aw_tsw (v := 3) (off := 84) (tgt := 85) gdX4_isOfKind_0.2.1 (by decide) (by decide) (by decide) (by decide) (fun hs_1_3 => ?_) (fun hs_1_3 => ?_)
        · refine aw_aload_n (q := 86) gdX4_isOfKind_84.2.1 rfl 0 rfl ?_
          refine aw_call (q := 89) (kc1 := 0) (ks1 := 0) (wc := [(w, .inr (6, [.ref a])), (a, .inl (0, 21, .inl f))]) (wr := [(v, .inr (6, [.ref b])), (b, .inl (0, 21, .inl g))]) (st1 := fun x86 g86 => [.int x86]) (ws1 := fun x86 g86 => [(v, .inr (6, [.ref b])), (b, .inl (0, 21, .inl g)), (w, .inr (6, [.ref a])), (a, .inl (0, 21, .inl f))]) (As := [.ref w]) [0, 1] [2, 3] (fun _ => runV (q0 := 0) gdX4_isOfKind_84.2.2.1 mi_X4_isOdd im_X4_isOdd se_X4_isOdd ml_X4_35 (by omega) rfl (Nat.le_of_ble_eq_true rfl) rfl rfl rfl rfl) (fun x9 h9 => ok_X4_isOdd h9) rfl rfl rfl rfl rfl (by decide +kernel) (by omega) (by omega) (fun _ _ => rfl) (fun _ _ => rfl) (fun x86 g86 => ?_)
          refine aw_if_eq (tgt := 104) (q := 92) gdX4_isOfKind_84.2.2.2.1 (by decide) rfl (fun h_89 => ?_) (fun h_89 => ?_)
          · refine aw_iconst (q := 105) (v := 0) gdX4_isOfKind_100.2.2.1 rfl (by decide) ?_
            exact aw_ireturn (w := [(w, .inr (6, [.ref a])), (a, .inl (0, 21, .inl f)), (v, .inr (6, [.ref b])), (b, .inl (0, 21, .inl g))]) [2, 3, 0, 1] gdX4_isOfKind_100.2.2.2.1 rfl rfl rfl rfl (PN.mk (fun _ => 0) rfl rfl)
          · refine aw_aload_n (q := 93) gdX4_isOfKind_84.2.2.2.2.1 rfl 0 rfl ?_
            refine aw_iload_n (q := 94) gdX4_isOfKind_84.2.2.2.2.2.1 rfl 2 rfl ?_
            refine aw_call (q := 97) (kc1 := 0) (ks1 := 0) (wc := [(w, .inr (6, [.ref a])), (a, .inl (0, 21, .inl f))]) (wr := [(v, .inr (6, [.ref b])), (b, .inl (0, 21, .inl g))]) (st1 := fun x94 g94 => [.int x94]) (ws1 := fun x94 g94 => [(v, .inr (6, [.ref b])), (b, .inl (0, 21, .inl g)), (w, .inr (6, [.ref a])), (a, .inl (0, 21, .inl f))]) (As := [.ref w, .int p1]) [2, 3] [0, 1] (fun _ => runV (q0 := 2) gdX4_isOfKind_84.2.2.2.2.2.2.1 mi_X4_hasNoneAbove im_X4_hasNoneAbove se_X4_hasNoneAbove ml_X4_23 (by omega) rfl (Nat.le_of_ble_eq_true rfl) rfl rfl rfl rfl) (fun x9 h9 => ok_X4_hasNoneAbove h9) rfl rfl rfl rfl rfl (by decide +kernel) (by omega) (by omega) (fun _ _ => rfl) (fun _ _ => rfl) (fun x94 g94 => ?_)
            refine aw_if_eq (tgt := 104) (q := 100) gdX4_isOfKind_84.2.2.2.2.2.2.2 (by decide) rfl (fun h_97 => ?_) (fun h_97 => ?_)
            · refine aw_iconst (q := 105) (v := 0) gdX4_isOfKind_100.2.2.1 rfl (by decide) ?_
              exact aw_ireturn (w := [(w, .inr (6, [.ref a])), (a, .inl (0, 21, .inl f)), (v, .inr (6, [.ref b])), (b, .inl (0, 21, .inl g))]) [2, 3, 0, 1] gdX4_isOfKind_100.2.2.2.1 rfl rfl rfl rfl (PN.mk (fun _ => 0) rfl rfl)
            · refine aw_iconst (q := 101) (v := 1) gdX4_isOfKind_100.1 rfl (by decide) ?_
              refine aw_goto (tgt := 105) gdX4_isOfKind_100.2.1 (by decide) ?_
              exact aw_ireturn (w := [(w, .inr (6, [.ref a])), (a, .inl (0, 21, .inl f)), (v, .inr (6, [.ref b])), (b, .inl (0, 21, .inl g))]) [2, 3, 0, 1] gdX4_isOfKind_100.2.2.2.1 rfl rfl rfl rfl (PN.mk (fun _ => 0) rfl rfl)
        · refine aw_tsw (v := 4) (off := 105) (tgt := 106) gdX4_isOfKind_0.2.1 (by decide) (by decide) (by decide) (by decide) (fun hs_1_4 => ?_) (fun hs_1_4 => ?_)
          · refine aw_aload_n (q := 107) gdX4_isOfKind_100.2.2.2.2.1 rfl 0 rfl ?_
            refine aw_call (q := 110) (kc1 := 0) (ks1 := 0) (wc := [(w, .inr (6, [.ref a])), (a, .inl (0, 21, .inl f))]) (wr := [(v, .inr (6, [.ref b])), (b, .inl (0, 21, .inl g))]) (st1 := fun x107 g107 => [.int x107]) (ws1 := fun x107 g107 => [(v, .inr (6, [.ref b])), (b, .inl (0, 21, .inl g)), (w, .inr (6, [.ref a])), (a, .inl (0, 21, .inl f))]) (As := [.ref w]) [0, 1] [2, 3] (fun _ => runV (q0 := 0) gdX4_isOfKind_100.2.2.2.2.2.1 mi_X4_isOdd im_X4_isOdd se_X4_isOdd ml_X4_35 (by omega) rfl (Nat.le_of_ble_eq_true rfl) rfl rfl rfl rfl) (fun x9 h9 => ok_X4_isOdd h9) rfl rfl rfl rfl rfl (by decide +kernel) (by omega) (by omega) (fun _ _ => rfl) (fun _ _ => rfl) (fun x107 g107 => ?_)
            refine aw_if_eq (tgt := 132) (q := 113) gdX4_isOfKind_100.2.2.2.2.2.2.1 (by decide) rfl (fun h_110 => ?_) (fun h_110 => ?_)
            · refine aw_iconst (q := 133) (v := 0) gdX4_isOfKind_132.1 rfl (by decide) ?_
              exact aw_ireturn (w := [(w, .inr (6, [.ref a])), (a, .inl (0, 21, .inl f)), (v, .inr (6, [.ref b])), (b, .inl (0, 21, .inl g))]) [2, 3, 0, 1] gdX4_isOfKind_132.2.1 rfl rfl rfl rfl (PN.mk (fun _ => 0) rfl rfl)
            · refine aw_aload_n (q := 114) gdX4_isOfKind_100.2.2.2.2.2.2.2 rfl 0 rfl ?_
              refine aw_call (q := 117) (kc1 := 0) (ks1 := 0) (wc := [(w, .inr (6, [.ref a])), (a, .inl (0, 21, .inl f))]) (wr := [(v, .inr (6, [.ref b])), (b, .inl (0, 21, .inl g))]) (st1 := fun x114 g114 => [.int x114]) (ws1 := fun x114 g114 => [(v, .inr (6, [.ref b])), (b, .inl (0, 21, .inl g)), (w, .inr (6, [.ref a])), (a, .inl (0, 21, .inl f))]) (As := [.ref w]) [2, 3] [0, 1] (fun _ => runV (q0 := 2) gdX4_isOfKind_114.1 mi_X4_isUnlike im_X4_isUnlike se_X4_isUnlike ml_X4_31 (by omega) rfl (Nat.le_of_ble_eq_true rfl) rfl rfl rfl rfl) (fun x9 h9 => ok_X4_isUnlike h9) rfl rfl rfl rfl rfl (by decide +kernel) (by omega) (by omega) (fun _ _ => rfl) (fun _ _ => rfl) (fun x114 g114 => ?_)
              refine aw_if_eq (tgt := 132) (q := 120) gdX4_isOfKind_114.2.1 (by decide) rfl (fun h_117 => ?_) (fun h_117 => ?_)
              · refine aw_iconst (q := 133) (v := 0) gdX4_isOfKind_132.1 rfl (by decide) ?_
                exact aw_ireturn (w := [(w, .inr (6, [.ref a])), (a, .inl (0, 21, .inl f)), (v, .inr (6, [.ref b])), (b, .inl (0, 21, .inl g))]) [2, 3, 0, 1] gdX4_isOfKind_132.2.1 rfl rfl rfl rfl (PN.mk (fun _ => 0) rfl rfl)
              · refine aw_aload_n (q := 121) gdX4_isOfKind_114.2.2.1 rfl 0 rfl ?_
                refine aw_iload_n (q := 122) gdX4_isOfKind_114.2.2.2.1 rfl 2 rfl ?_
                refine aw_call (q := 125) (kc1 := 0) (ks1 := 0) (wc := [(w, .inr (6, [.ref a])), (a, .inl (0, 21, .inl f))]) (wr := [(v, .inr (6, [.ref b])), (b, .inl (0, 21, .inl g))]) (st1 := fun x122 g122 => [.int x122]) (ws1 := fun x122 g122 => [(v, .inr (6, [.ref b])), (b, .inl (0, 21, .inl g)), (w, .inr (6, [.ref a])), (a, .inl (0, 21, .inl f))]) (As := [.ref w, .int p1]) [2, 3] [0, 1] (fun _ => runV (q0 := 2) gdX4_isOfKind_114.2.2.2.2.1 mi_X4_hasNoneAbove im_X4_hasNoneAbove se_X4_hasNoneAbove ml_X4_23 (by omega) rfl (Nat.le_of_ble_eq_true rfl) rfl rfl rfl rfl) (fun x9 h9 => ok_X4_hasNoneAbove h9) rfl rfl rfl rfl rfl (by decide +kernel) (by omega) (by omega) (fun _ _ => rfl) (fun _ _ => rfl) (fun x122 g122 => ?_)
                refine aw_if_eq (tgt := 132) (q := 128) gdX4_isOfKind_114.2.2.2.2.2.1 (by decide) rfl (fun h_125 => ?_) (fun h_125 => ?_)
                · refine aw_iconst (q := 133) (v := 0) gdX4_isOfKind_132.1 rfl (by decide) ?_
                  exact aw_ireturn (w := [(w, .inr (6, [.ref a])), (a, .inl (0, 21, .inl f)), (v, .inr (6, [.ref b])), (b, .inl (0, 21, .inl g))]) [2, 3, 0, 1] gdX4_isOfKind_132.2.1 rfl rfl rfl rfl (PN.mk (fun _ => 0) rfl rfl)
                · refine aw_iconst (q := 129) (v := 1) gdX4_isOfKind_114.2.2.2.2.2.2.1 rfl (by decide) ?_
                  refine aw_goto (tgt := 133) gdX4_isOfKind_114.2.2.2.2.2.2.2 (by decide) ?_
                  exact aw_ireturn (w := [(w, .inr (6, [.ref a])), (a, .inl (0, 21, .inl f)), (v, .inr (6, [.ref b])), (b, .inl (0, 21, .inl g))]) [2, 3, 0, 1] gdX4_isOfKind_132.2.1 rfl rfl rfl rfl (PN.mk (fun _ => 0) rfl rfl)
          · refine aw_tsw (v := 5) (off := 133) (tgt := 134) gdX4_isOfKind_0.2.1 (by decide) (by decide) (by decide) (by decide) (fun hs_1_5 => ?_) (fun hs_1_5 => ?_)
            · refine aw_aload_n (q := 135) gdX4_isOfKind_132.2.2.1 rfl 0 rfl ?_
              refine aw_call (q := 138) (kc1 := 0) (ks1 := 0) (wc := [(w, .inr (6, [.ref a])), (a, .inl (0, 21, .inl f))]) (wr := [(v, .inr (6, [.ref b])), (b, .inl (0, 21, .inl g))]) (st1 := fun x135 g135 => [.int x135]) (ws1 := fun x135 g135 => [(v, .inr (6, [.ref b])), (b, .inl (0, 21, .inl g)), (w, .inr (6, [.ref a])), (a, .inl (0, 21, .inl f))]) (As := [.ref w]) [0, 1] [2, 3] (fun _ => runV (q0 := 0) gdX4_isOfKind_132.2.2.2.1 mi_X4_isUnlike im_X4_isUnlike se_X4_isUnlike ml_X4_31 (by omega) rfl (Nat.le_of_ble_eq_true rfl) rfl rfl rfl rfl) (fun x9 h9 => ok_X4_isUnlike h9) rfl rfl rfl rfl rfl (by decide +kernel) (by omega) (by omega) (fun _ _ => rfl) (fun _ _ => rfl) (fun x135 g135 => ?_)
              refine aw_if_eq (tgt := 153) (q := 141) gdX4_isOfKind_132.2.2.2.2.1 (by decide) rfl (fun h_138 => ?_) (fun h_138 => ?_)
              · refine aw_iconst (q := 154) (v := 0) gdX4_isOfKind_146.2.2.2.1 rfl (by decide) ?_
                exact aw_ireturn (w := [(w, .inr (6, [.ref a])), (a, .inl (0, 21, .inl f)), (v, .inr (6, [.ref b])), (b, .inl (0, 21, .inl g))]) [2, 3, 0, 1] gdX4_isOfKind_146.2.2.2.2.1 rfl rfl rfl rfl (PN.mk (fun _ => 0) rfl rfl)
              · refine aw_aload_n (q := 142) gdX4_isOfKind_132.2.2.2.2.2.1 rfl 0 rfl ?_
                refine aw_call (q := 145) (kc1 := 0) (ks1 := 0) (wc := [(w, .inr (6, [.ref a])), (a, .inl (0, 21, .inl f))]) (wr := [(v, .inr (6, [.ref b])), (b, .inl (0, 21, .inl g))]) (st1 := fun x142 g142 => [.int x142]) (ws1 := fun x142 g142 => [(v, .inr (6, [.ref b])), (b, .inl (0, 21, .inl g)), (w, .inr (6, [.ref a])), (a, .inl (0, 21, .inl f))]) (As := [.ref w]) [2, 3] [0, 1] (fun _ => runV (q0 := 2) gdX4_isOfKind_132.2.2.2.2.2.2.1 mi_X4_parts im_X4_parts se_X4_parts ml_X4_27 (by omega) rfl (Nat.le_of_ble_eq_true rfl) rfl rfl rfl rfl) (fun x9 h9 => ok_X4_parts h9) rfl rfl rfl rfl rfl (by decide +kernel) (by omega) (by omega) (fun _ _ => rfl) (fun _ _ => rfl) (fun x142 g142 => ?_)
                refine aw_iload_n (q := 146) gdX4_isOfKind_132.2.2.2.2.2.2.2 rfl 2 rfl ?_
                refine aw_icmp_ne (tgt := 153) (q := 149) gdX4_isOfKind_146.1 (by decide) rfl (fun h_146 => ?_) (fun h_146 => ?_)
                · refine aw_iconst (q := 154) (v := 0) gdX4_isOfKind_146.2.2.2.1 rfl (by decide) ?_
                  exact aw_ireturn (w := [(w, .inr (6, [.ref a])), (a, .inl (0, 21, .inl f)), (v, .inr (6, [.ref b])), (b, .inl (0, 21, .inl g))]) [2, 3, 0, 1] gdX4_isOfKind_146.2.2.2.2.1 rfl rfl rfl rfl (PN.mk (fun _ => 0) rfl rfl)
                · refine aw_iconst (q := 150) (v := 1) gdX4_isOfKind_146.2.1 rfl (by decide) ?_
                  refine aw_goto (tgt := 154) gdX4_isOfKind_146.2.2.1 (by decide) ?_
                  exact aw_ireturn (w := [(w, .inr (6, [.ref a])), (a, .inl (0, 21, .inl f)), (v, .inr (6, [.ref b])), (b, .inl (0, 21, .inl g))]) [2, 3, 0, 1] gdX4_isOfKind_146.2.2.2.2.1 rfl rfl rfl rfl (PN.mk (fun _ => 0) rfl rfl)
            · refine aw_tsw (v := 6) (off := 154) (tgt := 155) gdX4_isOfKind_0.2.1 (by decide) (by decide) (by decide) (by decide) (fun hs_1_6 => ?_) (fun hs_1_6 => ?_)
              · refine aw_aload_n (q := 156) gdX4_isOfKind_146.2.2.2.2.2.1 rfl 0 rfl ?_
                refine aw_call (q := 159) (kc1 := 0) (ks1 := 0) (wc := [(w, .inr (6, [.ref a])), (a, .inl (0, 21, .inl f))]) (wr := [(v, .inr (6, [.ref b])), (b, .inl (0, 21, .inl g))]) (st1 := fun x156 g156 => [.int x156]) (ws1 := fun x156 g156 => [(v, .inr (6, [.ref b])), (b, .inl (0, 21, .inl g)), (w, .inr (6, [.ref a])), (a, .inl (0, 21, .inl f))]) (As := [.ref w]) [0, 1] [2, 3] (fun _ => runV (q0 := 0) gdX4_isOfKind_146.2.2.2.2.2.2.1 mi_X4_parts im_X4_parts se_X4_parts ml_X4_27 (by omega) rfl (Nat.le_of_ble_eq_true rfl) rfl rfl rfl rfl) (fun x9 h9 => ok_X4_parts h9) rfl rfl rfl rfl rfl (by decide +kernel) (by omega) (by omega) (fun _ _ => rfl) (fun _ _ => rfl) (fun x156 g156 => ?_)
                refine aw_iload_n (q := 160) gdX4_isOfKind_146.2.2.2.2.2.2.2 rfl 2 rfl ?_
                refine aw_icmp_gt (tgt := 167) (q := 163) gdX4_isOfKind_160.1 (by decide) rfl (fun h_160 => ?_) (fun h_160 => ?_)
                · refine aw_iconst (q := 168) (v := 0) gdX4_isOfKind_160.2.2.2.1 rfl (by decide) ?_
                  exact aw_ireturn (w := [(w, .inr (6, [.ref a])), (a, .inl (0, 21, .inl f)), (v, .inr (6, [.ref b])), (b, .inl (0, 21, .inl g))]) [2, 3, 0, 1] gdX4_isOfKind_160.2.2.2.2.1 rfl rfl rfl rfl (PN.mk (fun _ => 0) rfl rfl)
                · refine aw_iconst (q := 164) (v := 1) gdX4_isOfKind_160.2.1 rfl (by decide) ?_
                  refine aw_goto (tgt := 168) gdX4_isOfKind_160.2.2.1 (by decide) ?_
                  exact aw_ireturn (w := [(w, .inr (6, [.ref a])), (a, .inl (0, 21, .inl f)), (v, .inr (6, [.ref b])), (b, .inl (0, 21, .inl g))]) [2, 3, 0, 1] gdX4_isOfKind_160.2.2.2.2.1 rfl rfl rfl rfl (PN.mk (fun _ => 0) rfl rfl)
              · refine aw_tswD (tgt := 169) gdX4_isOfKind_0.2.1 (by have e0 := lv_neT (a := 0) hs_1_0 (by decide); have e1 := lv_neT (a := 1) hs_1_1 (by decide); have e2 := lv_neT (a := 2) hs_1_2 (by decide); have e3 := lv_neT (a := 3) hs_1_3 (by decide); have e4 := lv_neT (a := 4) hs_1_4 (by decide); have e5 := lv_neT (a := 5) hs_1_5 (by decide); have e6 := lv_neT (a := 6) hs_1_6 (by decide); omega) (by decide) ?_
                refine aw_aload_n (q := 170) gdX4_isOfKind_160.2.2.2.2.2.1 rfl 0 rfl ?_
                refine aw_iload_n (q := 171) gdX4_isOfKind_160.2.2.2.2.2.2.1 rfl 2 rfl ?_
                refine aw_call (q := 174) (kc1 := 0) (ks1 := 0) (wc := [(w, .inr (6, [.ref a])), (a, .inl (0, 21, .inl f))]) (wr := [(v, .inr (6, [.ref b])), (b, .inl (0, 21, .inl g))]) (st1 := fun x171 g171 => [.int x171]) (ws1 := fun x171 g171 => [(v, .inr (6, [.ref b])), (b, .inl (0, 21, .inl g)), (w, .inr (6, [.ref a])), (a, .inl (0, 21, .inl f))]) (As := [.ref w, .int p1]) [0, 1] [2, 3] (fun _ => runV (q0 := 0) gdX4_isOfKind_160.2.2.2.2.2.2.2 mi_X4_hasNoneAbove im_X4_hasNoneAbove se_X4_hasNoneAbove ml_X4_23 (by omega) rfl (Nat.le_of_ble_eq_true rfl) rfl rfl rfl rfl) (fun x9 h9 => ok_X4_hasNoneAbove h9) rfl rfl rfl rfl rfl (by decide +kernel) (by omega) (by omega) (fun _ _ => rfl) (fun _ _ => rfl) (fun x171 g171 => ?_)
                refine aw_if_eq (tgt := 189) (q := 177) gdX4_isOfKind_174.1 (by decide) rfl (fun h_174 => ?_) (fun h_174 => ?_)
                · refine aw_iconst (q := 190) (v := 0) gdX4_isOfKind_174.2.2.2.2.2.2.2 rfl (by decide) ?_
                  exact aw_ireturn (w := [(w, .inr (6, [.ref a])), (a, .inl (0, 21, .inl f)), (v, .inr (6, [.ref b])), (b, .inl (0, 21, .inl g))]) [2, 3, 0, 1] dX4_isOfKind_190 rfl rfl rfl rfl (PN.mk (fun _ => 0) rfl rfl)
                · refine aw_aload_n (q := 178) gdX4_isOfKind_174.2.1 rfl 0 rfl ?_
                  refine aw_aload_n (q := 179) gdX4_isOfKind_174.2.2.1 rfl 3 rfl ?_
                  refine aw_call (q := 182) (kc1 := 0) (ks1 := 0) (wc := [(w, .inr (6, [.ref a])), (a, .inl (0, 21, .inl f)), (v, .inr (6, [.ref b])), (b, .inl (0, 21, .inl g))]) (wr := []) (st1 := fun x179 g179 => [.int x179.1]) (ws1 := fun x179 g179 => [(w, .inr (6, [.ref a])), (a, .inl (0, 21, .inl f)), (v, .inr (6, [.ref b])), (b, .inl (0, 21, .inl x179.2))]) (As := [.ref w, .ref v]) [2, 3, 0, 1] [] (fun _ => runV (q0 := 2) gdX4_isOfKind_174.2.2.2.1 mi_X4_isOwnTurned im_X4_isOwnTurned se_X4_isOwnTurned ml_X4_38 (by omega) rfl (Nat.le_of_ble_eq_true rfl) rfl rfl rfl rfl) (fun x9 h9 => ok_X4_isOwnTurned h9) rfl rfl rfl rfl rfl (by decide +kernel) (by omega) (by omega) (fun _ _ => rfl) (fun _ _ => rfl) (fun x179 g179 => ?_)
                  refine aw_if_eq (tgt := 189) (q := 185) gdX4_isOfKind_174.2.2.2.2.1 (by decide) rfl (fun h_182 => ?_) (fun h_182 => ?_)
                  · refine aw_iconst (q := 190) (v := 0) gdX4_isOfKind_174.2.2.2.2.2.2.2 rfl (by decide) ?_
                    exact aw_ireturn (w := [(w, .inr (6, [.ref a])), (a, .inl (0, 21, .inl f)), (v, .inr (6, [.ref b])), (b, .inl (0, 21, .inl x179.2))]) [0, 1, 2, 3] dX4_isOfKind_190 rfl rfl rfl rfl (PN.mk (fun _ => 0) rfl rfl)
                  · refine aw_iconst (q := 186) (v := 1) gdX4_isOfKind_174.2.2.2.2.2.1 rfl (by decide) ?_
                    refine aw_goto (tgt := 190) gdX4_isOfKind_174.2.2.2.2.2.2.1 (by decide) ?_
                    exact aw_ireturn (w := [(w, .inr (6, [.ref a])), (a, .inl (0, 21, .inl f)), (v, .inr (6, [.ref b])), (b, .inl (0, 21, .inl x179.2))]) [0, 1, 2, 3] dX4_isOfKind_190 rfl rfl rfl rfl (PN.mk (fun _ => 0) rfl rfl)
def fX4_stepOn (N K : Nat) (f : Nat → Int32) : Option (Int32 × (Nat → Int32)) :=
  ((fX4_leastAboveOne N K f).bind (fun x1 => (if x1 < (2 : Int32) then (some ((0 : Int32), f)) else (if x1 ≤ (20 : Int32) then (if x1 < 0 ∨ 21 ≤ x1.toNatClampNeg then none else (if x1 < 0 ∨ 21 ≤ x1.toNatClampNeg then none else (if (x1 - (1 : Int32)) = 0 then none else ((fX4_put N K (upd (upd f x1.toNatClampNeg ((f x1.toNatClampNeg) - (1 : Int32))) (1 : Int32).toNatClampNeg (0 : Int32)) (x1 - (1 : Int32)) ((x1 + (f (1 : Int32).toNatClampNeg)) / (x1 - (1 : Int32)))).bind (fun x53 => (if (x1 - (1 : Int32)) = 0 then none else ((fX4_put N K x53 ((x1 + (f (1 : Int32).toNatClampNeg)) % (x1 - (1 : Int32))) (1 : Int32)).bind (fun x61 => (some ((1 : Int32), x61)))))))))) else (some ((0 : Int32), f))))))
set_option maxHeartbeats 4000000 in
set_option maxRecDepth 100000 in
theorem ok_X4_stepOn {N K : Nat} {w a : Nat} {f : Nat → Int32} {xr : Int32 × (Nat → Int32)} (hE : fX4_stepOn N K f = some xr) : OkM yX4_stepOn (.code yX4_stepOn cX4_stepOn 4 (some .boolean)) (1) 0 0 [.ref w] [(w, .inr (6, [.ref a])), (a, .inl (0, 21, .inl f))] ((PN (U := Int32 × (Nat → Int32)) (fun zz _ => some (.int zz.1)) (fun zz ad => [(w, .inr (6, [.ref a])), (a, .inl (0, 21, .inl zz.2))])) xr) := by
  refine ok_of (by decide) (Nat.le_of_ble_eq_true rfl) hE ?_
  refine aw_locals (lv' := [(0, .ref w)]) [0] rfl ?_
  refine aw_aload_n (q := 1) gdX4_stepOn_0.1 rfl 0 rfl ?_
  refine aw_call (q := 4) (kc1 := 0) (ks1 := 0) (wc := [(w, .inr (6, [.ref a])), (a, .inl (0, 21, .inl f))]) (wr := []) (st1 := fun x1 g1 => [.int x1]) (ws1 := fun x1 g1 => [(w, .inr (6, [.ref a])), (a, .inl (0, 21, .inl f))]) (As := [.ref w]) [0, 1] [] (fun _ => runV (q0 := 0) gdX4_stepOn_0.2.1 mi_X4_leastAboveOne im_X4_leastAboveOne se_X4_leastAboveOne ml_X4_60 (by omega) rfl (Nat.le_of_ble_eq_true rfl) rfl rfl rfl rfl) (fun x9 h9 => ok_X4_leastAboveOne h9) rfl rfl rfl rfl rfl (by decide +kernel) (by omega) (by omega) (fun _ _ => rfl) (fun _ _ => rfl) (fun x1 g1 => ?_)
  refine aw_istore_n (q := 5) (lv' := [(1, .int x1), (0, .ref w)]) gdX4_stepOn_0.2.2.1 rfl (by decide) rfl ?_
  refine aw_iload_n (q := 6) gdX4_stepOn_0.2.2.2.1 rfl 0 rfl ?_
  refine aw_iconst (q := 7) (v := 2) gdX4_stepOn_0.2.2.2.2.1 rfl (by decide) ?_
  refine aw_icmp_lt (tgt := 16) (q := 10) gdX4_stepOn_0.2.2.2.2.2.1 (by decide) rfl (fun h_7 => ?_) (fun h_7 => ?_)
  · refine aw_iconst (q := 17) (v := 0) gdX4_stepOn_13.2.1 rfl (by decide) ?_
    exact aw_ireturn (w := [(w, .inr (6, [.ref a])), (a, .inl (0, 21, .inl f))]) [0, 1] gdX4_stepOn_13.2.2.1 rfl rfl rfl rfl (PN.mk (fun _ => 0) rfl rfl)
  · refine aw_iload_n (q := 11) gdX4_stepOn_0.2.2.2.2.2.2.1 rfl 0 rfl ?_
    refine aw_bipush (q := 13) (v := 20) gdX4_stepOn_0.2.2.2.2.2.2.2 rfl (by decide) ?_
    refine aw_icmp_le (tgt := 18) (q := 16) gdX4_stepOn_13.1 (by decide) rfl (fun h_13 => ?_) (fun h_13 => ?_)
    · refine aw_iload_n (q := 19) gdX4_stepOn_13.2.2.2.1 rfl 0 rfl ?_
      refine aw_iconst (q := 20) (v := 1) gdX4_stepOn_13.2.2.2.2.1 rfl (by decide) ?_
      refine aw_isub (q := 21) gdX4_stepOn_13.2.2.2.2.2.1 rfl ?_
      refine aw_istore_n (q := 22) (lv' := [(2, .int (x1 - (1 : Int32))), (1, .int x1), (0, .ref w)]) gdX4_stepOn_13.2.2.2.2.2.2.1 rfl (by decide) rfl ?_
      refine aw_iload_n (q := 23) gdX4_stepOn_13.2.2.2.2.2.2.2 rfl 1 rfl ?_
      refine aw_aload_n (q := 24) gdX4_stepOn_23.1 rfl 2 rfl ?_
      refine aw_get (q := 27) gdX4_stepOn_23.2.1 rfl fl_X4_9 0 rfl rfl ?_
      refine aw_iconst (q := 28) (v := 1) gdX4_stepOn_23.2.2.1 rfl (by decide) ?_
      refine aw_ialdT (q := 29) (by decide) gdX4_stepOn_23.2.2.2.1 rfl 1 rfl ?_
      refine aw_iadd (q := 30) gdX4_stepOn_23.2.2.2.2.1 rfl ?_
      refine aw_istore_n (q := 31) (lv' := [(3, .int (x1 + (f (1 : Int32).toNatClampNeg))), (2, .int (x1 - (1 : Int32))), (1, .int x1), (0, .ref w)]) gdX4_stepOn_23.2.2.2.2.2.1 rfl (by decide) rfl ?_
      refine aw_aload_n (q := 32) gdX4_stepOn_23.2.2.2.2.2.2.1 rfl 3 rfl ?_
      refine aw_get (q := 35) gdX4_stepOn_23.2.2.2.2.2.2.2 rfl fl_X4_9 0 rfl rfl ?_
      refine aw_iload_n (q := 36) gdX4_stepOn_35.1 rfl 2 rfl ?_
      refine aw_dup2 (q := 37) gdX4_stepOn_35.2.1 rfl rfl rfl ?_
      refine aw_iald (q := 38) gdX4_stepOn_35.2.2.1 rfl 1 rfl ?_
      refine aw_iconst (q := 39) (v := 1) gdX4_stepOn_35.2.2.2.1 rfl (by decide) ?_
      refine aw_isub (q := 40) gdX4_stepOn_35.2.2.2.2.1 rfl ?_
      refine aw_iast (q := 41) (ws' := [(w, .inr (6, [.ref a])), (a, .inl (0, 21, .inl (upd f x1.toNatClampNeg ((f x1.toNatClampNeg) - (1 : Int32)))))]) gdX4_stepOn_35.2.2.2.2.2.1 rfl 1 rfl rfl ?_
      refine aw_aload_n (q := 42) gdX4_stepOn_35.2.2.2.2.2.2.1 rfl 3 rfl ?_
      refine aw_get (q := 45) gdX4_stepOn_35.2.2.2.2.2.2.2 rfl fl_X4_9 0 rfl rfl ?_
      refine aw_iconst (q := 46) (v := 1) gdX4_stepOn_45.1 rfl (by decide) ?_
      refine aw_iconst (q := 47) (v := 0) gdX4_stepOn_45.2.1 rfl (by decide) ?_
      refine aw_iastT (q := 48) (ws' := [(w, .inr (6, [.ref a])), (a, .inl (0, 21, .inl (upd (upd f x1.toNatClampNeg ((f x1.toNatClampNeg) - (1 : Int32))) (1 : Int32).toNatClampNeg (0 : Int32))))]) (by decide) gdX4_stepOn_45.2.2.1 rfl 1 rfl rfl ?_
      refine aw_aload_n (q := 49) gdX4_stepOn_45.2.2.2.1 rfl 3 rfl ?_
      refine aw_iload_n (q := 50) gdX4_stepOn_45.2.2.2.2.1 rfl 1 rfl ?_
      refine aw_iload_n (q := 51) gdX4_stepOn_45.2.2.2.2.2.1 rfl 0 rfl ?_
      refine aw_iload_n (q := 52) gdX4_stepOn_45.2.2.2.2.2.2.1 rfl 1 rfl ?_
      refine aw_idiv (q := 53) gdX4_stepOn_45.2.2.2.2.2.2.2 rfl ?_
      refine aw_call (q := 56) (kc1 := 0) (ks1 := 0) (wc := [(w, .inr (6, [.ref a])), (a, .inl (0, 21, .inl (upd (upd f x1.toNatClampNeg ((f x1.toNatClampNeg) - (1 : Int32))) (1 : Int32).toNatClampNeg (0 : Int32))))]) (wr := []) (st1 := fun x53 g53 => []) (ws1 := fun x53 g53 => [(w, .inr (6, [.ref a])), (a, .inl (0, 21, .inl x53))]) (As := [.ref w, .int (x1 - (1 : Int32)), .int ((x1 + (f (1 : Int32).toNatClampNeg)) / (x1 - (1 : Int32)))]) [0, 1] [] (fun _ => runV (q0 := 0) gdX4_stepOn_53.1 mi_X4_put im_X4_put se_X4_put ml_X4_56 (by omega) rfl (Nat.le_of_ble_eq_true rfl) rfl rfl rfl rfl) (fun x9 h9 => ok_X4_put h9) rfl rfl rfl rfl rfl (by decide +kernel) (by omega) (by omega) (fun _ _ => rfl) (fun _ _ => rfl) (fun x53 g53 => ?_)
      refine aw_aload_n (q := 57) gdX4_stepOn_53.2.1 rfl 3 rfl ?_
      refine aw_iload_n (q := 58) gdX4_stepOn_53.2.2.1 rfl 0 rfl ?_
      refine aw_iload_n (q := 59) gdX4_stepOn_53.2.2.2.1 rfl 1 rfl ?_
      refine aw_irem (q := 60) gdX4_stepOn_53.2.2.2.2.1 rfl ?_
      refine aw_iconst (q := 61) (v := 1) gdX4_stepOn_53.2.2.2.2.2.1 rfl (by decide) ?_
      refine aw_call (q := 64) (kc1 := 0) (ks1 := 0) (wc := [(w, .inr (6, [.ref a])), (a, .inl (0, 21, .inl x53))]) (wr := []) (st1 := fun x61 g61 => []) (ws1 := fun x61 g61 => [(w, .inr (6, [.ref a])), (a, .inl (0, 21, .inl x61))]) (As := [.ref w, .int ((x1 + (f (1 : Int32).toNatClampNeg)) % (x1 - (1 : Int32))), .int (1 : Int32)]) [0, 1] [] (fun _ => runV (q0 := 0) gdX4_stepOn_53.2.2.2.2.2.2.1 mi_X4_put im_X4_put se_X4_put ml_X4_56 (by omega) rfl (Nat.le_of_ble_eq_true rfl) rfl rfl rfl rfl) (fun x9 h9 => ok_X4_put h9) rfl rfl rfl rfl rfl (by decide +kernel) (by omega) (by omega) (fun _ _ => rfl) (fun _ _ => rfl) (fun x61 g61 => ?_)
      refine aw_iconst (q := 65) (v := 1) gdX4_stepOn_53.2.2.2.2.2.2.2 rfl (by decide) ?_
      exact aw_ireturn (w := [(w, .inr (6, [.ref a])), (a, .inl (0, 21, .inl x61))]) [0, 1] dX4_stepOn_65 rfl rfl rfl rfl (PN.mk (fun _ => 0) rfl rfl)
    · refine aw_iconst (q := 17) (v := 0) gdX4_stepOn_13.2.1 rfl (by decide) ?_
      exact aw_ireturn (w := [(w, .inr (6, [.ref a])), (a, .inl (0, 21, .inl f))]) [0, 1] gdX4_stepOn_13.2.2.1 rfl rfl rfl rfl (PN.mk (fun _ => 0) rfl rfl)

end MG_10way
section MG_11series
def fX3_takeOften_8 (N K : Nat) (g : Nat → Int32) (p0 : Int32) : Nat → Int32 → (Nat → Int32) → Option ((Nat → Int32))
  | 0, _, _ => none
  | fu + 1, l2, g_ =>
    (if (21 : Int32) ≤ l2 then (some g_) else (if l2 < 0 ∨ 21 ≤ l2.toNatClampNeg then none else (if (l2 - p0) < 0 ∨ 21 ≤ (l2 - p0).toNatClampNeg then none else (if l2 < 0 ∨ 21 ≤ l2.toNatClampNeg then none else fX3_takeOften_8 N K g p0  fu (l2 + (1 : Int32)) (upd g_ l2.toNatClampNeg ((g_ l2.toNatClampNeg) + (g_ (l2 - p0).toNatClampNeg)))))))
set_option maxHeartbeats 4000000 in
set_option maxRecDepth 100000 in
theorem tX3_takeOften_8 {N K : Nat} {s r : Nat} {g : Nat → Int32} {p0 : Int32} : ∀ (fu : Nat) (l2 : Int32) (g_ : Nat → Int32), AW RX3 "takeOften" cX3_takeOften 3 none [] (fun _ _ => True) (0) (PN (U := (Nat → Int32)) (fun _ _ => none) (fun zz ad => [(s, .inr (5, [.ref r])), (r, .inl (0, 21, .inl zz))])) 0 0 (fX3_takeOften_8 N K g p0  fu l2 g_) 8 [(0, .ref s), (1, .int p0), (2, .int l2)] [] [(s, .inr (5, [.ref r])), (r, .inl (0, 21, .inl g_))] := by
  intro fu
  induction fu with
  | zero => intro l2 g_; exact aw_none
  | succ fu ih =>
    intro l2 g_
    refine aw_iload_n (q := 9) gdX3_takeOften_0.2.2.2.2.2.2.1 rfl 2 rfl ?_
    refine aw_aload_n (q := 10) gdX3_takeOften_0.2.2.2.2.2.2.2 rfl 0 rfl ?_
    refine aw_get (q := 13) gdX3_takeOften_10.1 rfl fl_X3_9 0 rfl rfl ?_
    refine aw_alen (q := 14) (v := 21) gdX3_takeOften_10.2.1 rfl 1 rfl (by decide) rfl ?_
    refine aw_icmp_ge (tgt := 40) (q := 17) gdX3_takeOften_10.2.2.1 (by decide) rfl (fun h_14 => ?_) (fun h_14 => ?_)
    · exact aw_return (w := [(s, .inr (5, [.ref r])), (r, .inl (0, 21, .inl g_))]) [0, 1] gdX3_takeOften_34.2.2 rfl rfl rfl (PN.mk (fun _ => 0) rfl rfl)
    · refine aw_aload_n (q := 18) gdX3_takeOften_10.2.2.2.1 rfl 0 rfl ?_
      refine aw_get (q := 21) gdX3_takeOften_10.2.2.2.2.1 rfl fl_X3_9 0 rfl rfl ?_
      refine aw_iload_n (q := 22) gdX3_takeOften_10.2.2.2.2.2.1 rfl 2 rfl ?_
      refine aw_dup2 (q := 23) gdX3_takeOften_10.2.2.2.2.2.2.1 rfl rfl rfl ?_
      refine aw_iald (q := 24) gdX3_takeOften_10.2.2.2.2.2.2.2 rfl 1 rfl ?_
      refine aw_aload_n (q := 25) gdX3_takeOften_24.1 rfl 0 rfl ?_
      refine aw_get (q := 28) gdX3_takeOften_24.2.1 rfl fl_X3_9 0 rfl rfl ?_
      refine aw_iload_n (q := 29) gdX3_takeOften_24.2.2.1 rfl 2 rfl ?_
      refine aw_iload_n (q := 30) gdX3_takeOften_24.2.2.2.1 rfl 1 rfl ?_
      refine aw_isub (q := 31) gdX3_takeOften_24.2.2.2.2.1 rfl ?_
      refine aw_iald (q := 32) gdX3_takeOften_24.2.2.2.2.2.1 rfl 1 rfl ?_
      refine aw_iadd (q := 33) gdX3_takeOften_24.2.2.2.2.2.2.1 rfl ?_
      refine aw_iast (q := 34) (ws' := [(s, .inr (5, [.ref r])), (r, .inl (0, 21, .inl (upd g_ l2.toNatClampNeg ((g_ l2.toNatClampNeg) + (g_ (l2 - p0).toNatClampNeg)))))]) gdX3_takeOften_24.2.2.2.2.2.2.2 rfl 1 rfl rfl ?_
      refine aw_iinc (q := 37) (v := (l2 + (1 : Int32))) (lv' := [(2, .int (l2 + (1 : Int32))), (0, .ref s), (1, .int p0)]) gdX3_takeOften_34.1 rfl 2 rfl rfl (by decide) rfl ?_
      refine aw_goto (tgt := 8) gdX3_takeOften_34.2.1 (by decide) ?_
      refine aw_locals (lv' := [(0, .ref s), (1, .int p0), (2, .int (l2 + (1 : Int32)))]) [1, 2, 0] rfl ?_
      exact ih _ _
def fX3_takeOften (N K : Nat) (g : Nat → Int32) (p0 : Int32) : Option ((Nat → Int32)) :=
  (if (1 : Int32) ≤ p0 then fX3_takeOften_8 N K g p0  N p0 g else (some g))
set_option maxHeartbeats 4000000 in
set_option maxRecDepth 100000 in
theorem ok_X3_takeOften {N K : Nat} {s r : Nat} {g : Nat → Int32} {p0 : Int32} {xr : (Nat → Int32)} (hE : fX3_takeOften N K g p0 = some xr) : OkM yX3_takeOften (.code yX3_takeOften cX3_takeOften 3 none) (0) 0 0 [.ref s, .int p0] [(s, .inr (5, [.ref r])), (r, .inl (0, 21, .inl g))] ((PN (U := (Nat → Int32)) (fun _ _ => none) (fun zz ad => [(s, .inr (5, [.ref r])), (r, .inl (0, 21, .inl zz))])) xr) := by
  refine ok_of (by decide) (Nat.le_of_ble_eq_true rfl) hE ?_
  refine aw_locals (lv' := [(0, .ref s), (1, .int p0)]) [0, 1] rfl ?_
  refine aw_iload_n (q := 1) gdX3_takeOften_0.1 rfl 1 rfl ?_
  refine aw_iconst (q := 2) (v := 1) gdX3_takeOften_0.2.1 rfl (by decide) ?_
  refine aw_icmp_ge (tgt := 6) (q := 5) gdX3_takeOften_0.2.2.1 (by decide) rfl (fun h_2 => ?_) (fun h_2 => ?_)
  · refine aw_iload_n (q := 7) gdX3_takeOften_0.2.2.2.2.1 rfl 1 rfl ?_
    refine aw_istore_n (q := 8) (lv' := [(2, .int p0), (0, .ref s), (1, .int p0)]) gdX3_takeOften_0.2.2.2.2.2.1 rfl (by decide) rfl ?_
    refine aw_locals (lv' := [(0, .ref s), (1, .int p0), (2, .int p0)]) [1, 2, 0] rfl ?_
    exact tX3_takeOften_8  N _ _
  · exact aw_return (w := [(s, .inr (5, [.ref r])), (r, .inl (0, 21, .inl g))]) [0, 1] gdX3_takeOften_0.2.2.2.1 rfl rfl rfl (PN.mk (fun _ => 0) rfl rfl)
def fX3_takeOnce_14 (N K : Nat) (g : Nat → Int32) (p0 : Int32) : Nat → Int32 → (Nat → Int32) → Option ((Nat → Int32))
  | 0, _, _ => none
  | fu + 1, l2, g_ =>
    (if l2 < p0 then (some g_) else (if l2 < 0 ∨ 21 ≤ l2.toNatClampNeg then none else (if (l2 - p0) < 0 ∨ 21 ≤ (l2 - p0).toNatClampNeg then none else (if l2 < 0 ∨ 21 ≤ l2.toNatClampNeg then none else fX3_takeOnce_14 N K g p0  fu (l2 + (-1 : Int32)) (upd g_ l2.toNatClampNeg ((g_ l2.toNatClampNeg) + (g_ (l2 - p0).toNatClampNeg)))))))
set_option maxHeartbeats 4000000 in
set_option maxRecDepth 100000 in
theorem tX3_takeOnce_14 {N K : Nat} {s r : Nat} {g : Nat → Int32} {p0 : Int32} : ∀ (fu : Nat) (l2 : Int32) (g_ : Nat → Int32), AW RX3 "takeOnce" cX3_takeOnce 3 none [] (fun _ _ => True) (0) (PN (U := (Nat → Int32)) (fun _ _ => none) (fun zz ad => [(s, .inr (5, [.ref r])), (r, .inl (0, 21, .inl zz))])) 0 0 (fX3_takeOnce_14 N K g p0  fu l2 g_) 14 [(0, .ref s), (1, .int p0), (2, .int l2)] [] [(s, .inr (5, [.ref r])), (r, .inl (0, 21, .inl g_))] := by
  intro fu
  induction fu with
  | zero => intro l2 g_; exact aw_none
  | succ fu ih =>
    intro l2 g_
    refine aw_iload_n (q := 15) gdX3_takeOnce_12.2.2.1 rfl 2 rfl ?_
    refine aw_iload_n (q := 16) gdX3_takeOnce_12.2.2.2.1 rfl 1 rfl ?_
    refine aw_icmp_lt (tgt := 42) (q := 19) gdX3_takeOnce_12.2.2.2.2.1 (by decide) rfl (fun h_16 => ?_) (fun h_16 => ?_)
    · exact aw_return (w := [(s, .inr (5, [.ref r])), (r, .inl (0, 21, .inl g_))]) [0, 1] gdX3_takeOnce_34.2.2.2.2 rfl rfl rfl (PN.mk (fun _ => 0) rfl rfl)
    · refine aw_aload_n (q := 20) gdX3_takeOnce_12.2.2.2.2.2.1 rfl 0 rfl ?_
      refine aw_get (q := 23) gdX3_takeOnce_12.2.2.2.2.2.2.1 rfl fl_X3_9 0 rfl rfl ?_
      refine aw_iload_n (q := 24) gdX3_takeOnce_12.2.2.2.2.2.2.2 rfl 2 rfl ?_
      refine aw_dup2 (q := 25) gdX3_takeOnce_24.1 rfl rfl rfl ?_
      refine aw_iald (q := 26) gdX3_takeOnce_24.2.1 rfl 1 rfl ?_
      refine aw_aload_n (q := 27) gdX3_takeOnce_24.2.2.1 rfl 0 rfl ?_
      refine aw_get (q := 30) gdX3_takeOnce_24.2.2.2.1 rfl fl_X3_9 0 rfl rfl ?_
      refine aw_iload_n (q := 31) gdX3_takeOnce_24.2.2.2.2.1 rfl 2 rfl ?_
      refine aw_iload_n (q := 32) gdX3_takeOnce_24.2.2.2.2.2.1 rfl 1 rfl ?_
      refine aw_isub (q := 33) gdX3_takeOnce_24.2.2.2.2.2.2.1 rfl ?_
      refine aw_iald (q := 34) gdX3_takeOnce_24.2.2.2.2.2.2.2 rfl 1 rfl ?_
      refine aw_iadd (q := 35) gdX3_takeOnce_34.1 rfl ?_
      refine aw_iast (q := 36) (ws' := [(s, .inr (5, [.ref r])), (r, .inl (0, 21, .inl (upd g_ l2.toNatClampNeg ((g_ l2.toNatClampNeg) + (g_ (l2 - p0).toNatClampNeg)))))]) gdX3_takeOnce_34.2.1 rfl 1 rfl rfl ?_
      refine aw_iinc (q := 39) (v := (l2 + (-1 : Int32))) (lv' := [(2, .int (l2 + (-1 : Int32))), (0, .ref s), (1, .int p0)]) gdX3_takeOnce_34.2.2.1 rfl 2 rfl rfl (by decide) rfl ?_
      refine aw_goto (tgt := 14) gdX3_takeOnce_34.2.2.2.1 (by decide) ?_
      refine aw_locals (lv' := [(0, .ref s), (1, .int p0), (2, .int (l2 + (-1 : Int32)))]) [1, 2, 0] rfl ?_
      exact ih _ _
def fX3_takeOnce (N K : Nat) (g : Nat → Int32) (p0 : Int32) : Option ((Nat → Int32)) :=
  (if (1 : Int32) ≤ p0 then fX3_takeOnce_14 N K g p0  N ((21 : Int32) - (1 : Int32)) g else (some g))
set_option maxHeartbeats 4000000 in
set_option maxRecDepth 100000 in
theorem ok_X3_takeOnce {N K : Nat} {s r : Nat} {g : Nat → Int32} {p0 : Int32} {xr : (Nat → Int32)} (hE : fX3_takeOnce N K g p0 = some xr) : OkM yX3_takeOnce (.code yX3_takeOnce cX3_takeOnce 3 none) (0) 0 0 [.ref s, .int p0] [(s, .inr (5, [.ref r])), (r, .inl (0, 21, .inl g))] ((PN (U := (Nat → Int32)) (fun _ _ => none) (fun zz ad => [(s, .inr (5, [.ref r])), (r, .inl (0, 21, .inl zz))])) xr) := by
  refine ok_of (by decide) (Nat.le_of_ble_eq_true rfl) hE ?_
  refine aw_locals (lv' := [(0, .ref s), (1, .int p0)]) [0, 1] rfl ?_
  refine aw_iload_n (q := 1) gdX3_takeOnce_0.1 rfl 1 rfl ?_
  refine aw_iconst (q := 2) (v := 1) gdX3_takeOnce_0.2.1 rfl (by decide) ?_
  refine aw_icmp_ge (tgt := 6) (q := 5) gdX3_takeOnce_0.2.2.1 (by decide) rfl (fun h_2 => ?_) (fun h_2 => ?_)
  · refine aw_aload_n (q := 7) gdX3_takeOnce_0.2.2.2.2.1 rfl 0 rfl ?_
    refine aw_get (q := 10) gdX3_takeOnce_0.2.2.2.2.2.1 rfl fl_X3_9 0 rfl rfl ?_
    refine aw_alen (q := 11) (v := 21) gdX3_takeOnce_0.2.2.2.2.2.2.1 rfl 1 rfl (by decide) rfl ?_
    refine aw_iconst (q := 12) (v := 1) gdX3_takeOnce_0.2.2.2.2.2.2.2 rfl (by decide) ?_
    refine aw_isub (q := 13) gdX3_takeOnce_12.1 rfl ?_
    refine aw_istore_n (q := 14) (lv' := [(2, .int ((21 : Int32) - (1 : Int32))), (0, .ref s), (1, .int p0)]) gdX3_takeOnce_12.2.1 rfl (by decide) rfl ?_
    refine aw_locals (lv' := [(0, .ref s), (1, .int p0), (2, .int ((21 : Int32) - (1 : Int32)))]) [1, 2, 0] rfl ?_
    exact tX3_takeOnce_14  N _ _
  · exact aw_return (w := [(s, .inr (5, [.ref r])), (r, .inl (0, 21, .inl g))]) [0, 1] gdX3_takeOnce_0.2.2.2.1 rfl rfl rfl (PN.mk (fun _ => 0) rfl rfl)
def fX3_reckon_128 (N K : Nat) (g : Nat → Int32) (p0 : Int32) (p1 : Int32) (k_80 : Int32 → Int32 → Int32 → Int32 → (Nat → Int32) → Option ((Nat → Int32))) (l3 : Int32) (l4 : Int32) (l5 : Int32) (l6 : Int32) (g_ : Nat → Int32) : Option ((Nat → Int32)) :=
  k_80 l3 l4 l5 (l6 + (1 : Int32)) g_
set_option maxHeartbeats 4000000 in
set_option maxRecDepth 100000 in
theorem tX3_reckon_128 {N K : Nat} {s r : Nat} {g : Nat → Int32} {p0 : Int32} {p1 : Int32} {k_80 : Int32 → Int32 → Int32 → Int32 → (Nat → Int32) → Option ((Nat → Int32))} (hk_80 : ∀ (l3 : Int32) (l4 : Int32) (l5 : Int32) (l6 : Int32) (g_ : Nat → Int32), AW RX3 "reckon" cX3_reckon 7 none [] (fun _ _ => True) (1) (PN (U := (Nat → Int32)) (fun _ _ => none) (fun zz ad => [(s, .inr (5, [.ref r])), (r, .inl (0, 21, .inl zz))])) 0 0 (k_80 l3 l4 l5 l6 g_) 80 [(0, .ref s), (3, .int l3), (4, .int l4), (5, .int l5), (6, .int l6)] [] [(s, .inr (5, [.ref r])), (r, .inl (0, 21, .inl g_))]) : ∀ (l3 : Int32) (l4 : Int32) (l5 : Int32) (l6 : Int32) (g_ : Nat → Int32), AW RX3 "reckon" cX3_reckon 7 none [] (fun _ _ => True) (1) (PN (U := (Nat → Int32)) (fun _ _ => none) (fun zz ad => [(s, .inr (5, [.ref r])), (r, .inl (0, 21, .inl zz))])) 0 0 (fX3_reckon_128 N K g p0 p1 k_80 l3 l4 l5 l6 g_) 128 [(0, .ref s), (3, .int l3), (4, .int l4), (5, .int l5), (6, .int l6)] [] [(s, .inr (5, [.ref r])), (r, .inl (0, 21, .inl g_))] := by
  intro l3 l4 l5 l6 g_
  refine aw_iinc (q := 131) (v := (l6 + (1 : Int32))) (lv' := [(6, .int (l6 + (1 : Int32))), (0, .ref s), (3, .int l3), (4, .int l4), (5, .int l5)]) gdX3_reckon_114.2.2.2.2.2.2.1 rfl 4 rfl rfl (by decide) rfl ?_
  refine aw_goto (tgt := 80) gdX3_reckon_114.2.2.2.2.2.2.2 (by decide) ?_
  refine aw_locals (lv' := [(0, .ref s), (3, .int l3), (4, .int l4), (5, .int l5), (6, .int (l6 + (1 : Int32)))]) [1, 2, 3, 4, 0] rfl ?_
  exact hk_80 _ _ _ _ _
def fX3_reckon_108 (N K : Nat) (g : Nat → Int32) (p0 : Int32) (p1 : Int32) (k_80 : Int32 → Int32 → Int32 → Int32 → (Nat → Int32) → Option ((Nat → Int32))) (l3 : Int32) (l4 : Int32) (l5 : Int32) (l6 : Int32) (g_ : Nat → Int32) : Option ((Nat → Int32)) :=
  (if l5 = 0 then ((fX3_takeOften N K g_ l6).bind (fun x125 => fX3_reckon_128 N K g p0 p1 k_80 l3 l4 l5 l6 x125)) else ((fX3_takeOnce N K g_ l6).bind (fun x116 => fX3_reckon_128 N K g p0 p1 k_80 l3 l4 l5 l6 x116)))
set_option maxHeartbeats 4000000 in
set_option maxRecDepth 100000 in
theorem tX3_reckon_108 {N K : Nat} {s r : Nat} {g : Nat → Int32} {p0 : Int32} {p1 : Int32} {k_80 : Int32 → Int32 → Int32 → Int32 → (Nat → Int32) → Option ((Nat → Int32))} (hk_80 : ∀ (l3 : Int32) (l4 : Int32) (l5 : Int32) (l6 : Int32) (g_ : Nat → Int32), AW RX3 "reckon" cX3_reckon 7 none [] (fun _ _ => True) (1) (PN (U := (Nat → Int32)) (fun _ _ => none) (fun zz ad => [(s, .inr (5, [.ref r])), (r, .inl (0, 21, .inl zz))])) 0 0 (k_80 l3 l4 l5 l6 g_) 80 [(0, .ref s), (3, .int l3), (4, .int l4), (5, .int l5), (6, .int l6)] [] [(s, .inr (5, [.ref r])), (r, .inl (0, 21, .inl g_))]) : ∀ (l3 : Int32) (l4 : Int32) (l5 : Int32) (l6 : Int32) (g_ : Nat → Int32), AW RX3 "reckon" cX3_reckon 7 none [] (fun _ _ => True) (1) (PN (U := (Nat → Int32)) (fun _ _ => none) (fun zz ad => [(s, .inr (5, [.ref r])), (r, .inl (0, 21, .inl zz))])) 0 0 (fX3_reckon_108 N K g p0 p1 k_80 l3 l4 l5 l6 g_) 108 [(0, .ref s), (3, .int l3), (4, .int l4), (5, .int l5), (6, .int l6)] [] [(s, .inr (5, [.ref r])), (r, .inl (0, 21, .inl g_))] := by
  intro l3 l4 l5 l6 g_
  refine aw_iload (q := 110) gdX3_reckon_98.2.2.2.2.2.1 rfl 3 rfl ?_
  refine aw_if_eq (tgt := 122) (q := 113) gdX3_reckon_98.2.2.2.2.2.2.1 (by decide) rfl (fun h_110 => ?_) (fun h_110 => ?_)
  · refine aw_aload_n (q := 123) gdX3_reckon_114.2.2.2.1 rfl 0 rfl ?_
    refine aw_iload (q := 125) gdX3_reckon_114.2.2.2.2.1 rfl 4 rfl ?_
    refine aw_call (q := 128) (kc1 := 0) (ks1 := 0) (wc := [(s, .inr (5, [.ref r])), (r, .inl (0, 21, .inl g_))]) (wr := []) (st1 := fun x125 g125 => []) (ws1 := fun x125 g125 => [(s, .inr (5, [.ref r])), (r, .inl (0, 21, .inl x125))]) (As := [.ref s, .int l6]) [0, 1] [] (fun _ => runV (q0 := 0) gdX3_reckon_114.2.2.2.2.2.1 mi_X3_takeOften im_X3_takeOften se_X3_takeOften ml_X3_33 (by omega) rfl (Nat.le_of_ble_eq_true rfl) rfl rfl rfl rfl) (fun x9 h9 => ok_X3_takeOften h9) rfl rfl rfl rfl rfl (by decide +kernel) (by omega) (by omega) (fun _ _ => rfl) (fun _ _ => rfl) (fun x125 g125 => ?_)
    exact tX3_reckon_128 hk_80 _ _ _ _ _
  · refine aw_aload_n (q := 114) gdX3_reckon_98.2.2.2.2.2.2.2 rfl 0 rfl ?_
    refine aw_iload (q := 116) gdX3_reckon_114.1 rfl 4 rfl ?_
    refine aw_call (q := 119) (kc1 := 0) (ks1 := 0) (wc := [(s, .inr (5, [.ref r])), (r, .inl (0, 21, .inl g_))]) (wr := []) (st1 := fun x116 g116 => []) (ws1 := fun x116 g116 => [(s, .inr (5, [.ref r])), (r, .inl (0, 21, .inl x116))]) (As := [.ref s, .int l6]) [0, 1] [] (fun _ => runV (q0 := 0) gdX3_reckon_114.2.1 mi_X3_takeOnce im_X3_takeOnce se_X3_takeOnce ml_X3_29 (by omega) rfl (Nat.le_of_ble_eq_true rfl) rfl rfl rfl rfl) (fun x9 h9 => ok_X3_takeOnce h9) rfl rfl rfl rfl rfl (by decide +kernel) (by omega) (by omega) (fun _ _ => rfl) (fun _ _ => rfl) (fun x116 g116 => ?_)
    refine aw_goto (tgt := 128) gdX3_reckon_114.2.2.1 (by decide) ?_
    exact tX3_reckon_128 hk_80 _ _ _ _ _
def fX3_reckon_80 (N K : Nat) (g : Nat → Int32) (p0 : Int32) (p1 : Int32) : Nat → Int32 → Int32 → Int32 → Int32 → (Nat → Int32) → Option ((Nat → Int32))
  | 0, _, _, _, _, _ => none
  | fu + 1, l3, l4, l5, l6, g_ =>
    (if l3 < l6 then (some g_) else (if (20 : Int32) < l6 then (some g_) else (if l4 = 0 then fX3_reckon_108 N K g p0 p1 (fX3_reckon_80 N K g p0 p1  fu) l3 l4 l5 l6 g_ else (if (l6 % (2 : Int32)) = 0 then fX3_reckon_128 N K g p0 p1 (fX3_reckon_80 N K g p0 p1  fu) l3 l4 l5 l6 g_ else fX3_reckon_108 N K g p0 p1 (fX3_reckon_80 N K g p0 p1  fu) l3 l4 l5 l6 g_))))
set_option maxHeartbeats 4000000 in
set_option maxRecDepth 100000 in
theorem tX3_reckon_80 {N K : Nat} {s r : Nat} {g : Nat → Int32} {p0 : Int32} {p1 : Int32} : ∀ (fu : Nat) (l3 : Int32) (l4 : Int32) (l5 : Int32) (l6 : Int32) (g_ : Nat → Int32), AW RX3 "reckon" cX3_reckon 7 none [] (fun _ _ => True) (1) (PN (U := (Nat → Int32)) (fun _ _ => none) (fun zz ad => [(s, .inr (5, [.ref r])), (r, .inl (0, 21, .inl zz))])) 0 0 (fX3_reckon_80 N K g p0 p1  fu l3 l4 l5 l6 g_) 80 [(0, .ref s), (3, .int l3), (4, .int l4), (5, .int l5), (6, .int l6)] [] [(s, .inr (5, [.ref r])), (r, .inl (0, 21, .inl g_))] := by
  intro fu
  induction fu with
  | zero => intro l3 l4 l5 l6 g_; exact aw_none
  | succ fu ih =>
    intro l3 l4 l5 l6 g_
    refine aw_iload (q := 82) gdX3_reckon_80.1 rfl 4 rfl ?_
    refine aw_iload_n (q := 83) gdX3_reckon_80.2.1 rfl 1 rfl ?_
    refine aw_icmp_gt (tgt := 134) (q := 86) gdX3_reckon_80.2.2.1 (by decide) rfl (fun h_83 => ?_) (fun h_83 => ?_)
    · exact aw_return (w := [(s, .inr (5, [.ref r])), (r, .inl (0, 21, .inl g_))]) [0, 1] dX3_reckon_134 rfl rfl rfl (PN.mk (fun _ => 0) rfl rfl)
    · refine aw_iload (q := 88) gdX3_reckon_80.2.2.2.1 rfl 4 rfl ?_
      refine aw_bipush (q := 90) (v := 20) gdX3_reckon_80.2.2.2.2.1 rfl (by decide) ?_
      refine aw_icmp_gt (tgt := 134) (q := 93) gdX3_reckon_80.2.2.2.2.2.1 (by decide) rfl (fun h_90 => ?_) (fun h_90 => ?_)
      · exact aw_return (w := [(s, .inr (5, [.ref r])), (r, .inl (0, 21, .inl g_))]) [0, 1] dX3_reckon_134 rfl rfl rfl (PN.mk (fun _ => 0) rfl rfl)
      · refine aw_iload (q := 95) gdX3_reckon_80.2.2.2.2.2.2.1 rfl 2 rfl ?_
        refine aw_if_eq (tgt := 108) (q := 98) gdX3_reckon_80.2.2.2.2.2.2.2 (by decide) rfl (fun h_95 => ?_) (fun h_95 => ?_)
        · exact tX3_reckon_108 ih _ _ _ _ _
        · refine aw_iload (q := 100) gdX3_reckon_98.1 rfl 4 rfl ?_
          refine aw_iconst (q := 101) (v := 2) gdX3_reckon_98.2.1 rfl (by decide) ?_
          refine aw_iremT (q := 102) gdX3_reckon_98.2.2.1 rfl (by decide) ?_
          refine aw_if_ne (tgt := 108) (q := 105) gdX3_reckon_98.2.2.2.1 (by decide) rfl (fun h_102 => ?_) (fun h_102 => ?_)
          · exact tX3_reckon_108 ih _ _ _ _ _
          · refine aw_goto (tgt := 128) gdX3_reckon_98.2.2.2.2.1 (by decide) ?_
            exact tX3_reckon_128 ih _ _ _ _ _
def fX3_reckon_75 (N K : Nat) (g : Nat → Int32) (p0 : Int32) (p1 : Int32) (l3 : Int32) (l4 : Int32) (s0 : Int32) (g_ : Nat → Int32) : Option ((Nat → Int32)) :=
  fX3_reckon_80 N K g p0 p1  N l3 l4 s0 (1 : Int32) g_
set_option maxHeartbeats 4000000 in
set_option maxRecDepth 100000 in
theorem tX3_reckon_75 {N K : Nat} {s r : Nat} {g : Nat → Int32} {p0 : Int32} {p1 : Int32} : ∀ (l3 : Int32) (l4 : Int32) (s0 : Int32) (g_ : Nat → Int32), AW RX3 "reckon" cX3_reckon 7 none [] (fun _ _ => True) (1) (PN (U := (Nat → Int32)) (fun _ _ => none) (fun zz ad => [(s, .inr (5, [.ref r])), (r, .inl (0, 21, .inl zz))])) 0 0 (fX3_reckon_75 N K g p0 p1  l3 l4 s0 g_) 75 [(0, .ref s), (3, .int l3), (4, .int l4)] [.int s0] [(s, .inr (5, [.ref r])), (r, .inl (0, 21, .inl g_))] := by
  intro l3 l4 s0 g_
  refine aw_istore (q := 77) (lv' := [(5, .int s0), (0, .ref s), (3, .int l3), (4, .int l4)]) gdX3_reckon_65.2.2.2.2.2.1 rfl (by decide) rfl ?_
  refine aw_iconst (q := 78) (v := 1) gdX3_reckon_65.2.2.2.2.2.2.1 rfl (by decide) ?_
  refine aw_istore (q := 80) (lv' := [(6, .int (1 : Int32)), (5, .int s0), (0, .ref s), (3, .int l3), (4, .int l4)]) gdX3_reckon_65.2.2.2.2.2.2.2 rfl (by decide) rfl ?_
  refine aw_locals (lv' := [(0, .ref s), (3, .int l3), (4, .int l4), (5, .int s0), (6, .int (1 : Int32))]) [2, 3, 4, 1, 0] rfl ?_
  exact tX3_reckon_80  N _ _ _ _ _
def fX3_reckon_70 (N K : Nat) (g : Nat → Int32) (p0 : Int32) (p1 : Int32) (l3 : Int32) (l4 : Int32) (g_ : Nat → Int32) : Option ((Nat → Int32)) :=
  fX3_reckon_75 N K g p0 p1  l3 l4 (1 : Int32) g_
set_option maxHeartbeats 4000000 in
set_option maxRecDepth 100000 in
theorem tX3_reckon_70 {N K : Nat} {s r : Nat} {g : Nat → Int32} {p0 : Int32} {p1 : Int32} : ∀ (l3 : Int32) (l4 : Int32) (g_ : Nat → Int32), AW RX3 "reckon" cX3_reckon 7 none [] (fun _ _ => True) (1) (PN (U := (Nat → Int32)) (fun _ _ => none) (fun zz ad => [(s, .inr (5, [.ref r])), (r, .inl (0, 21, .inl zz))])) 0 0 (fX3_reckon_70 N K g p0 p1  l3 l4 g_) 70 [(0, .ref s), (3, .int l3), (4, .int l4)] [] [(s, .inr (5, [.ref r])), (r, .inl (0, 21, .inl g_))] := by
  intro l3 l4 g_
  refine aw_iconst (q := 71) (v := 1) gdX3_reckon_65.2.2.1 rfl (by decide) ?_
  refine aw_goto (tgt := 75) gdX3_reckon_65.2.2.2.1 (by decide) ?_
  exact tX3_reckon_75  _ _ _ _
def fX3_reckon_52 (N K : Nat) (g : Nat → Int32) (p0 : Int32) (p1 : Int32) (l3 : Int32) (s0 : Int32) (g_ : Nat → Int32) : Option ((Nat → Int32)) :=
  (if p0 = (2 : Int32) then fX3_reckon_70 N K g p0 p1  l3 s0 g_ else (if p0 = (4 : Int32) then fX3_reckon_70 N K g p0 p1  l3 s0 g_ else (if p0 = (7 : Int32) then fX3_reckon_70 N K g p0 p1  l3 s0 g_ else fX3_reckon_75 N K g p0 p1  l3 s0 (0 : Int32) g_)))
set_option maxHeartbeats 4000000 in
set_option maxRecDepth 100000 in
theorem tX3_reckon_52 {N K : Nat} {s r : Nat} {g : Nat → Int32} {p0 : Int32} {p1 : Int32} : ∀ (l3 : Int32) (s0 : Int32) (g_ : Nat → Int32), AW RX3 "reckon" cX3_reckon 7 none [] (fun _ _ => True) (1) (PN (U := (Nat → Int32)) (fun _ _ => none) (fun zz ad => [(s, .inr (5, [.ref r])), (r, .inl (0, 21, .inl zz))])) 0 0 (fX3_reckon_52 N K g p0 p1  l3 s0 g_) 52 [(0, .ref s), (1, .int p0), (3, .int l3)] [.int s0] [(s, .inr (5, [.ref r])), (r, .inl (0, 21, .inl g_))] := by
  intro l3 s0 g_
  refine aw_istore (q := 54) (lv' := [(4, .int s0), (0, .ref s), (1, .int p0), (3, .int l3)]) gdX3_reckon_52.1 rfl (by decide) rfl ?_
  refine aw_iload_n (q := 55) gdX3_reckon_52.2.1 rfl 2 rfl ?_
  refine aw_iconst (q := 56) (v := 2) gdX3_reckon_52.2.2.1 rfl (by decide) ?_
  refine aw_icmp_eq (tgt := 70) (q := 59) gdX3_reckon_52.2.2.2.1 (by decide) rfl (fun h_56 => ?_) (fun h_56 => ?_)
  · refine aw_locals (lv' := [(0, .ref s), (3, .int l3), (4, .int s0)]) [1, 3, 0] rfl ?_
    exact tX3_reckon_70  _ _ _
  · refine aw_iload_n (q := 60) gdX3_reckon_52.2.2.2.2.1 rfl 2 rfl ?_
    refine aw_iconst (q := 61) (v := 4) gdX3_reckon_52.2.2.2.2.2.1 rfl (by decide) ?_
    refine aw_icmp_eq (tgt := 70) (q := 64) gdX3_reckon_52.2.2.2.2.2.2.1 (by decide) rfl (fun h_61 => ?_) (fun h_61 => ?_)
    · refine aw_locals (lv' := [(0, .ref s), (3, .int l3), (4, .int s0)]) [1, 3, 0] rfl ?_
      exact tX3_reckon_70  _ _ _
    · refine aw_iload_n (q := 65) gdX3_reckon_52.2.2.2.2.2.2.2 rfl 2 rfl ?_
      refine aw_bipush (q := 67) (v := 7) gdX3_reckon_65.1 rfl (by decide) ?_
      refine aw_icmp_ne (tgt := 74) (q := 70) gdX3_reckon_65.2.1 (by decide) rfl (fun h_67 => ?_) (fun h_67 => ?_)
      · refine aw_iconst (q := 75) (v := 0) gdX3_reckon_65.2.2.2.2.1 rfl (by decide) ?_
        refine aw_locals (lv' := [(0, .ref s), (3, .int l3), (4, .int s0)]) [1, 3, 0] rfl ?_
        exact tX3_reckon_75  _ _ _ _
      · refine aw_locals (lv' := [(0, .ref s), (3, .int l3), (4, .int s0)]) [1, 3, 0] rfl ?_
        exact tX3_reckon_70  _ _ _
def fX3_reckon_47 (N K : Nat) (g : Nat → Int32) (p0 : Int32) (p1 : Int32) (l3 : Int32) (g_ : Nat → Int32) : Option ((Nat → Int32)) :=
  fX3_reckon_52 N K g p0 p1  l3 (1 : Int32) g_
set_option maxHeartbeats 4000000 in
set_option maxRecDepth 100000 in
theorem tX3_reckon_47 {N K : Nat} {s r : Nat} {g : Nat → Int32} {p0 : Int32} {p1 : Int32} : ∀ (l3 : Int32) (g_ : Nat → Int32), AW RX3 "reckon" cX3_reckon 7 none [] (fun _ _ => True) (1) (PN (U := (Nat → Int32)) (fun _ _ => none) (fun zz ad => [(s, .inr (5, [.ref r])), (r, .inl (0, 21, .inl zz))])) 0 0 (fX3_reckon_47 N K g p0 p1  l3 g_) 47 [(0, .ref s), (1, .int p0), (3, .int l3)] [] [(s, .inr (5, [.ref r])), (r, .inl (0, 21, .inl g_))] := by
  intro l3 g_
  refine aw_iconst (q := 48) (v := 1) gdX3_reckon_37.2.2.2.2.2.1 rfl (by decide) ?_
  refine aw_goto (tgt := 52) gdX3_reckon_37.2.2.2.2.2.2.1 (by decide) ?_
  exact tX3_reckon_52  _ _ _
def fX3_reckon_30 (N K : Nat) (g : Nat → Int32) (p0 : Int32) (p1 : Int32) (s0 : Int32) (g_ : Nat → Int32) : Option ((Nat → Int32)) :=
  (if p0 = (3 : Int32) then fX3_reckon_47 N K g p0 p1  s0 g_ else (if p0 = (4 : Int32) then fX3_reckon_47 N K g p0 p1  s0 g_ else (if p0 = (7 : Int32) then fX3_reckon_47 N K g p0 p1  s0 g_ else fX3_reckon_52 N K g p0 p1  s0 (0 : Int32) g_)))
set_option maxHeartbeats 4000000 in
set_option maxRecDepth 100000 in
theorem tX3_reckon_30 {N K : Nat} {s r : Nat} {g : Nat → Int32} {p0 : Int32} {p1 : Int32} : ∀ (s0 : Int32) (g_ : Nat → Int32), AW RX3 "reckon" cX3_reckon 7 none [] (fun _ _ => True) (1) (PN (U := (Nat → Int32)) (fun _ _ => none) (fun zz ad => [(s, .inr (5, [.ref r])), (r, .inl (0, 21, .inl zz))])) 0 0 (fX3_reckon_30 N K g p0 p1  s0 g_) 30 [(0, .ref s), (1, .int p0)] [.int s0] [(s, .inr (5, [.ref r])), (r, .inl (0, 21, .inl g_))] := by
  intro s0 g_
  refine aw_istore_n (q := 31) (lv' := [(3, .int s0), (0, .ref s), (1, .int p0)]) gdX3_reckon_25.2.2.2.1 rfl (by decide) rfl ?_
  refine aw_iload_n (q := 32) gdX3_reckon_25.2.2.2.2.1 rfl 2 rfl ?_
  refine aw_iconst (q := 33) (v := 3) gdX3_reckon_25.2.2.2.2.2.1 rfl (by decide) ?_
  refine aw_icmp_eq (tgt := 47) (q := 36) gdX3_reckon_25.2.2.2.2.2.2.1 (by decide) rfl (fun h_33 => ?_) (fun h_33 => ?_)
  · refine aw_locals (lv' := [(0, .ref s), (1, .int p0), (3, .int s0)]) [1, 2, 0] rfl ?_
    exact tX3_reckon_47  _ _
  · refine aw_iload_n (q := 37) gdX3_reckon_25.2.2.2.2.2.2.2 rfl 2 rfl ?_
    refine aw_iconst (q := 38) (v := 4) gdX3_reckon_37.1 rfl (by decide) ?_
    refine aw_icmp_eq (tgt := 47) (q := 41) gdX3_reckon_37.2.1 (by decide) rfl (fun h_38 => ?_) (fun h_38 => ?_)
    · refine aw_locals (lv' := [(0, .ref s), (1, .int p0), (3, .int s0)]) [1, 2, 0] rfl ?_
      exact tX3_reckon_47  _ _
    · refine aw_iload_n (q := 42) gdX3_reckon_37.2.2.1 rfl 2 rfl ?_
      refine aw_bipush (q := 44) (v := 7) gdX3_reckon_37.2.2.2.1 rfl (by decide) ?_
      refine aw_icmp_ne (tgt := 51) (q := 47) gdX3_reckon_37.2.2.2.2.1 (by decide) rfl (fun h_44 => ?_) (fun h_44 => ?_)
      · refine aw_iconst (q := 52) (v := 0) gdX3_reckon_37.2.2.2.2.2.2.2 rfl (by decide) ?_
        refine aw_locals (lv' := [(0, .ref s), (1, .int p0), (3, .int s0)]) [1, 2, 0] rfl ?_
        exact tX3_reckon_52  _ _ _
      · refine aw_locals (lv' := [(0, .ref s), (1, .int p0), (3, .int s0)]) [1, 2, 0] rfl ?_
        exact tX3_reckon_47  _ _
def fX3_reckon (N K : Nat) (g : Nat → Int32) (p0 : Int32) (p1 : Int32) : Option ((Nat → Int32)) :=
  ((fJ_fill N K 21 g (0 : Int32)).bind (fun x5 => (if p0 = (7 : Int32) then fX3_reckon_30 N K g p0 p1  (((2 : Int32) * p1) - (1 : Int32)) (upd x5 (0 : Int32).toNatClampNeg (1 : Int32)) else fX3_reckon_30 N K g p0 p1  p1 (upd x5 (0 : Int32).toNatClampNeg (1 : Int32)))))
set_option maxHeartbeats 4000000 in
set_option maxRecDepth 100000 in
theorem ok_X3_reckon {N K : Nat} {s r : Nat} {g : Nat → Int32} {p0 : Int32} {p1 : Int32} {xr : (Nat → Int32)} (hE : fX3_reckon N K g p0 p1 = some xr) : OkM yX3_reckon (.code yX3_reckon cX3_reckon 7 none) (1) 0 0 [.ref s, .int p0, .int p1] [(s, .inr (5, [.ref r])), (r, .inl (0, 21, .inl g))] ((PN (U := (Nat → Int32)) (fun _ _ => none) (fun zz ad => [(s, .inr (5, [.ref r])), (r, .inl (0, 21, .inl zz))])) xr) := by
  refine ok_of (by decide) (Nat.le_of_ble_eq_true rfl) hE ?_
  refine aw_locals (lv' := [(0, .ref s), (1, .int p0), (2, .int p1)]) [0, 1, 2] rfl ?_
  refine aw_aload_n (q := 1) gdX3_reckon_0.1 rfl 0 rfl ?_
  refine aw_get (q := 4) gdX3_reckon_0.2.1 rfl fl_X3_9 0 rfl rfl ?_
  refine aw_iconst (q := 5) (v := 0) gdX3_reckon_0.2.2.1 rfl (by decide) ?_
  refine aw_call (q := 8) (kc1 := 0) (ks1 := 0) (wc := [(r, .inl (0, 21, .inl g))]) (wr := [(s, .inr (5, [.ref r]))]) (st1 := fun x5 g5 => []) (ws1 := fun x5 g5 => [(s, .inr (5, [.ref r])), (r, .inl (0, 21, .inl x5))]) (As := [.ref r, .int (0 : Int32)]) [1] [0] (fun _ => runS gdX3_reckon_0.2.2.2.1 mi_J7_fill_53178 st_J7_fill_53178 ml_X3_23 (by omega) rfl (Nat.le_of_ble_eq_true rfl) rfl) (fun x9 h9 => ok_J_fill h9) rfl rfl rfl rfl rfl (by decide +kernel) (by omega) (by omega) (fun _ _ => rfl) (fun _ _ => rfl) (fun x5 g5 => ?_)
  refine aw_aload_n (q := 9) gdX3_reckon_0.2.2.2.2.1 rfl 0 rfl ?_
  refine aw_get (q := 12) gdX3_reckon_0.2.2.2.2.2.1 rfl fl_X3_9 0 rfl rfl ?_
  refine aw_iconst (q := 13) (v := 0) gdX3_reckon_0.2.2.2.2.2.2.1 rfl (by decide) ?_
  refine aw_iconst (q := 14) (v := 1) gdX3_reckon_0.2.2.2.2.2.2.2 rfl (by decide) ?_
  refine aw_iastT (q := 15) (ws' := [(s, .inr (5, [.ref r])), (r, .inl (0, 21, .inl (upd x5 (0 : Int32).toNatClampNeg (1 : Int32))))]) (by decide) gdX3_reckon_14.1 rfl 1 rfl rfl ?_
  refine aw_iload_n (q := 16) gdX3_reckon_14.2.1 rfl 1 rfl ?_
  refine aw_bipush (q := 18) (v := 7) gdX3_reckon_14.2.2.1 rfl (by decide) ?_
  refine aw_icmp_ne (tgt := 29) (q := 21) gdX3_reckon_14.2.2.2.1 (by decide) rfl (fun h_18 => ?_) (fun h_18 => ?_)
  · refine aw_iload_n (q := 30) gdX3_reckon_25.2.2.1 rfl 2 rfl ?_
    refine aw_locals (lv' := [(0, .ref s), (1, .int p0)]) [0, 1] rfl ?_
    exact tX3_reckon_30  _ _
  · refine aw_iconst (q := 22) (v := 2) gdX3_reckon_14.2.2.2.2.1 rfl (by decide) ?_
    refine aw_iload_n (q := 23) gdX3_reckon_14.2.2.2.2.2.1 rfl 2 rfl ?_
    refine aw_imul (q := 24) gdX3_reckon_14.2.2.2.2.2.2.1 rfl ?_
    refine aw_iconst (q := 25) (v := 1) gdX3_reckon_14.2.2.2.2.2.2.2 rfl (by decide) ?_
    refine aw_isub (q := 26) gdX3_reckon_25.1 rfl ?_
    refine aw_goto (tgt := 30) gdX3_reckon_25.2.1 (by decide) ?_
    refine aw_locals (lv' := [(0, .ref s), (1, .int p0)]) [0, 1] rfl ?_
    exact tX3_reckon_30  _ _
def fX3_reckoned_32 (N K : Nat) (g : Nat → Int32) (p0 : Int32) (p1 : Int32) (p2 : Int32) (l4 : Int32) : Option (Int32) :=
  (if l4 < 0 then (some (0 : Int32)) else (if l4 < (21 : Int32) then (if l4 < 0 ∨ 21 ≤ l4.toNatClampNeg then none else (some (g l4.toNatClampNeg))) else (some (0 : Int32))))
set_option maxHeartbeats 4000000 in
set_option maxRecDepth 100000 in
theorem tX3_reckoned_32 {N K : Nat} {s r : Nat} {g : Nat → Int32} {p0 : Int32} {p1 : Int32} {p2 : Int32} : ∀ (l4 : Int32), AW RX3 "reckoned" cX3_reckoned 5 (some .int) [] (fun _ _ => True) (0) (PN (U := Int32) (fun zz _ => some (.int zz)) (fun zz ad => [(s, .inr (5, [.ref r])), (r, .inl (0, 21, .inl g))])) 0 0 (fX3_reckoned_32 N K g p0 p1 p2  l4) 32 [(0, .ref s), (4, .int l4)] [] [(s, .inr (5, [.ref r])), (r, .inl (0, 21, .inl g))] := by
  intro l4
  refine aw_iload (q := 34) gdX3_reckoned_24.2.2.2.2.2.2.2 rfl 1 rfl ?_
  refine aw_if_lt (tgt := 47) (q := 37) gdX3_reckoned_34.1 (by decide) rfl (fun h_34 => ?_) (fun h_34 => ?_)
  · refine aw_iconst (q := 48) (v := 0) gdX3_reckoned_34.2.2.2.2.2.2.1 rfl (by decide) ?_
    refine aw_goto (tgt := 58) gdX3_reckoned_34.2.2.2.2.2.2.2 (by decide) ?_
    exact aw_ireturn (w := [(s, .inr (5, [.ref r])), (r, .inl (0, 21, .inl g))]) [0, 1] gdX3_reckoned_51.2.2.2.2 rfl rfl rfl rfl (PN.mk (fun _ => 0) rfl rfl)
  · refine aw_iload (q := 39) gdX3_reckoned_34.2.1 rfl 1 rfl ?_
    refine aw_aload_n (q := 40) gdX3_reckoned_34.2.2.1 rfl 0 rfl ?_
    refine aw_get (q := 43) gdX3_reckoned_34.2.2.2.1 rfl fl_X3_9 0 rfl rfl ?_
    refine aw_alen (q := 44) (v := 21) gdX3_reckoned_34.2.2.2.2.1 rfl 1 rfl (by decide) rfl ?_
    refine aw_icmp_lt (tgt := 51) (q := 47) gdX3_reckoned_34.2.2.2.2.2.1 (by decide) rfl (fun h_44 => ?_) (fun h_44 => ?_)
    · refine aw_aload_n (q := 52) gdX3_reckoned_51.1 rfl 0 rfl ?_
      refine aw_get (q := 55) gdX3_reckoned_51.2.1 rfl fl_X3_9 0 rfl rfl ?_
      refine aw_iload (q := 57) gdX3_reckoned_51.2.2.1 rfl 1 rfl ?_
      refine aw_iald (q := 58) gdX3_reckoned_51.2.2.2.1 rfl 1 rfl ?_
      exact aw_ireturn (w := [(s, .inr (5, [.ref r])), (r, .inl (0, 21, .inl g))]) [0, 1] gdX3_reckoned_51.2.2.2.2 rfl rfl rfl rfl (PN.mk (fun _ => 0) rfl rfl)
    · refine aw_iconst (q := 48) (v := 0) gdX3_reckoned_34.2.2.2.2.2.2.1 rfl (by decide) ?_
      refine aw_goto (tgt := 58) gdX3_reckoned_34.2.2.2.2.2.2.2 (by decide) ?_
      exact aw_ireturn (w := [(s, .inr (5, [.ref r])), (r, .inl (0, 21, .inl g))]) [0, 1] gdX3_reckoned_51.2.2.2.2 rfl rfl rfl rfl (PN.mk (fun _ => 0) rfl rfl)
def fX3_reckoned (N K : Nat) (g : Nat → Int32) (p0 : Int32) (p1 : Int32) (p2 : Int32) : Option (Int32) :=
  (if p0 = (1 : Int32) then fX3_reckoned_32 N K g p0 p1 p2  (p1 - p2) else (if p0 = (5 : Int32) then fX3_reckoned_32 N K g p0 p1 p2  (p1 - ((p2 * (p2 + (1 : Int32))) / (2 : Int32))) else fX3_reckoned_32 N K g p0 p1 p2  p1))
set_option maxHeartbeats 4000000 in
set_option maxRecDepth 100000 in
theorem ok_X3_reckoned {N K : Nat} {s r : Nat} {g : Nat → Int32} {p0 : Int32} {p1 : Int32} {p2 : Int32} {xr : Int32} (hE : fX3_reckoned N K g p0 p1 p2 = some xr) : OkM yX3_reckoned (.code yX3_reckoned cX3_reckoned 5 (some .int)) (0) 0 0 [.ref s, .int p0, .int p1, .int p2] [(s, .inr (5, [.ref r])), (r, .inl (0, 21, .inl g))] ((PN (U := Int32) (fun zz _ => some (.int zz)) (fun zz ad => [(s, .inr (5, [.ref r])), (r, .inl (0, 21, .inl g))])) xr) := by
  refine ok_of (by decide) (Nat.le_of_ble_eq_true rfl) hE ?_
  refine aw_locals (lv' := [(0, .ref s), (1, .int p0), (2, .int p1), (3, .int p2)]) [0, 1, 2, 3] rfl ?_
  refine aw_iload_n (q := 1) gdX3_reckoned_0.1 rfl 2 rfl ?_
  refine aw_istore (q := 3) (lv' := [(4, .int p1), (0, .ref s), (1, .int p0), (2, .int p1), (3, .int p2)]) gdX3_reckoned_0.2.1 rfl (by decide) rfl ?_
  refine aw_iload_n (q := 4) gdX3_reckoned_0.2.2.1 rfl 2 rfl ?_
  refine aw_iconst (q := 5) (v := 1) gdX3_reckoned_0.2.2.2.1 rfl (by decide) ?_
  refine aw_icmp_ne (tgt := 16) (q := 8) gdX3_reckoned_0.2.2.2.2.1 (by decide) rfl (fun h_5 => ?_) (fun h_5 => ?_)
  · refine aw_iload_n (q := 17) gdX3_reckoned_11.2.2.1 rfl 2 rfl ?_
    refine aw_iconst (q := 18) (v := 5) gdX3_reckoned_11.2.2.2.1 rfl (by decide) ?_
    refine aw_icmp_ne (tgt := 32) (q := 21) gdX3_reckoned_11.2.2.2.2.1 (by decide) rfl (fun h_18 => ?_) (fun h_18 => ?_)
    · refine aw_locals (lv' := [(0, .ref s), (4, .int p1)]) [1, 0] rfl ?_
      exact tX3_reckoned_32  _
    · refine aw_iload_n (q := 22) gdX3_reckoned_11.2.2.2.2.2.1 rfl 3 rfl ?_
      refine aw_iload_n (q := 23) gdX3_reckoned_11.2.2.2.2.2.2.1 rfl 4 rfl ?_
      refine aw_iload_n (q := 24) gdX3_reckoned_11.2.2.2.2.2.2.2 rfl 4 rfl ?_
      refine aw_iconst (q := 25) (v := 1) gdX3_reckoned_24.1 rfl (by decide) ?_
      refine aw_iadd (q := 26) gdX3_reckoned_24.2.1 rfl ?_
      refine aw_imul (q := 27) gdX3_reckoned_24.2.2.1 rfl ?_
      refine aw_iconst (q := 28) (v := 2) gdX3_reckoned_24.2.2.2.1 rfl (by decide) ?_
      refine aw_idivT (q := 29) gdX3_reckoned_24.2.2.2.2.1 rfl (by decide) ?_
      refine aw_isub (q := 30) gdX3_reckoned_24.2.2.2.2.2.1 rfl ?_
      refine aw_istore (q := 32) (lv' := [(4, .int (p1 - ((p2 * (p2 + (1 : Int32))) / (2 : Int32)))), (0, .ref s), (1, .int p0), (2, .int p1), (3, .int p2)]) gdX3_reckoned_24.2.2.2.2.2.2.1 rfl (by decide) rfl ?_
      refine aw_locals (lv' := [(0, .ref s), (4, .int (p1 - ((p2 * (p2 + (1 : Int32))) / (2 : Int32))))]) [1, 0] rfl ?_
      exact tX3_reckoned_32  _
  · refine aw_iload_n (q := 9) gdX3_reckoned_0.2.2.2.2.2.1 rfl 3 rfl ?_
    refine aw_iload_n (q := 10) gdX3_reckoned_0.2.2.2.2.2.2.1 rfl 4 rfl ?_
    refine aw_isub (q := 11) gdX3_reckoned_0.2.2.2.2.2.2.2 rfl ?_
    refine aw_istore (q := 13) (lv' := [(4, .int (p1 - p2)), (0, .ref s), (1, .int p0), (2, .int p1), (3, .int p2)]) gdX3_reckoned_11.1 rfl (by decide) rfl ?_
    refine aw_goto (tgt := 32) gdX3_reckoned_11.2.1 (by decide) ?_
    refine aw_locals (lv' := [(0, .ref s), (4, .int (p1 - p2))]) [1, 0] rfl ?_
    exact tX3_reckoned_32  _
def fX3_tells (N K : Nat) (g : Nat → Int32) (p0 : Int32) (p1 : Int32) (p2 : Int32) : Option (Int32 × (Nat → Int32)) :=
  ((fX3_reckon N K g p0 p2).bind (fun x3 => ((fX3_reckoned N K x3 p0 p1 p2).bind (fun x10 => (some (x10, x3))))))
set_option maxHeartbeats 4000000 in
set_option maxRecDepth 100000 in
theorem ok_X3_tells {N K : Nat} {s r : Nat} {g : Nat → Int32} {p0 : Int32} {p1 : Int32} {p2 : Int32} {xr : Int32 × (Nat → Int32)} (hE : fX3_tells N K g p0 p1 p2 = some xr) : OkM yX3_tells (.code yX3_tells cX3_tells 4 (some .int)) (2) 0 0 [.ref s, .int p0, .int p1, .int p2] [(s, .inr (5, [.ref r])), (r, .inl (0, 21, .inl g))] ((PN (U := Int32 × (Nat → Int32)) (fun zz _ => some (.int zz.1)) (fun zz ad => [(s, .inr (5, [.ref r])), (r, .inl (0, 21, .inl zz.2))])) xr) := by
  refine ok_of (by decide) (Nat.le_of_ble_eq_true rfl) hE ?_
  refine aw_locals (lv' := [(0, .ref s), (1, .int p0), (2, .int p1), (3, .int p2)]) [0, 1, 2, 3] rfl ?_
  refine aw_aload_n (q := 1) gdX3_tells_0.1 rfl 0 rfl ?_
  refine aw_iload_n (q := 2) gdX3_tells_0.2.1 rfl 1 rfl ?_
  refine aw_iload_n (q := 3) gdX3_tells_0.2.2.1 rfl 3 rfl ?_
  refine aw_call (q := 6) (kc1 := 0) (ks1 := 0) (wc := [(s, .inr (5, [.ref r])), (r, .inl (0, 21, .inl g))]) (wr := []) (st1 := fun x3 g3 => []) (ws1 := fun x3 g3 => [(s, .inr (5, [.ref r])), (r, .inl (0, 21, .inl x3))]) (As := [.ref s, .int p0, .int p2]) [0, 1] [] (fun _ => runV (q0 := 0) gdX3_tells_0.2.2.2.1 mi_X3_reckon im_X3_reckon se_X3_reckon ml_X3_15 (by omega) rfl (Nat.le_of_ble_eq_true rfl) rfl rfl rfl rfl) (fun x9 h9 => ok_X3_reckon h9) rfl rfl rfl rfl rfl (by decide +kernel) (by omega) (by omega) (fun _ _ => rfl) (fun _ _ => rfl) (fun x3 g3 => ?_)
  refine aw_aload_n (q := 7) gdX3_tells_0.2.2.2.2.1 rfl 0 rfl ?_
  refine aw_iload_n (q := 8) gdX3_tells_0.2.2.2.2.2.1 rfl 1 rfl ?_
  refine aw_iload_n (q := 9) gdX3_tells_0.2.2.2.2.2.2.1 rfl 2 rfl ?_
  refine aw_iload_n (q := 10) gdX3_tells_0.2.2.2.2.2.2.2 rfl 3 rfl ?_
  refine aw_call (q := 13) (kc1 := 0) (ks1 := 0) (wc := [(s, .inr (5, [.ref r])), (r, .inl (0, 21, .inl x3))]) (wr := []) (st1 := fun x10 g10 => [.int x10]) (ws1 := fun x10 g10 => [(s, .inr (5, [.ref r])), (r, .inl (0, 21, .inl x3))]) (As := [.ref s, .int p0, .int p1, .int p2]) [0, 1] [] (fun _ => runV (q0 := 0) gdX3_tells_10.1 mi_X3_reckoned im_X3_reckoned se_X3_reckoned ml_X3_19 (by omega) rfl (Nat.le_of_ble_eq_true rfl) rfl rfl rfl rfl) (fun x9 h9 => ok_X3_reckoned h9) rfl rfl rfl rfl rfl (by decide +kernel) (by omega) (by omega) (fun _ _ => rfl) (fun _ _ => rfl) (fun x10 g10 => ?_)
  exact aw_ireturn (w := [(s, .inr (5, [.ref r])), (r, .inl (0, 21, .inl x3))]) [0, 1] gdX3_tells_10.2 rfl rfl rfl rfl (PN.mk (fun _ => 0) rfl rfl)

end MG_11series
section MG_12ledger
def fX1_size (N K : Nat) (ru : Int32) (sz : Int32) (f : Nat → Int32) : Option (Int32) :=
  (some sz)
set_option maxHeartbeats 4000000 in
set_option maxRecDepth 100000 in
theorem ok_X1_size {N K : Nat} {h a : Nat} {ru : Int32} {sz : Int32} {f : Nat → Int32} {xr : Int32} (hE : fX1_size N K ru sz f = some xr) : OkM yX1_size (.code yX1_size cX1_size 1 (some .int)) (0) 0 0 [.ref h] [(h, .inr (3, [.int ru, .ref a, .int sz])), (a, .inl (0, 21, .inl f))] ((PN (U := Int32) (fun zz _ => some (.int zz)) (fun zz ad => [(h, .inr (3, [.int ru, .ref a, .int sz])), (a, .inl (0, 21, .inl f))])) xr) := by
  refine ok_of (by decide) (Nat.le_of_ble_eq_true rfl) hE ?_
  refine aw_locals (lv' := [(0, .ref h)]) [0] rfl ?_
  refine aw_aload_n (q := 1) gdX1_size_0.1 rfl 0 rfl ?_
  refine aw_get (q := 4) gdX1_size_0.2.1 rfl fl_X1_25 0 rfl rfl ?_
  exact aw_ireturn (w := [(h, .inr (3, [.int ru, .ref a, .int sz])), (a, .inl (0, 21, .inl f))]) [0, 1] gdX1_size_0.2.2 rfl rfl rfl rfl (PN.mk (fun _ => 0) rfl rfl)
def fX1_keptWorth (N K : Nat) (ru : Int32) (sz : Int32) (f : Nat → Int32) (p0 : Int32) : Option (Int32) :=
  (if p0 < (1 : Int32) then (some (-1 : Int32)) else (if p0 ≤ (20 : Int32) then (if p0 < 0 ∨ 21 ≤ p0.toNatClampNeg then none else (some (f p0.toNatClampNeg))) else (some (-1 : Int32))))
set_option maxHeartbeats 4000000 in
set_option maxRecDepth 100000 in
theorem ok_X1_keptWorth {N K : Nat} {h a : Nat} {ru : Int32} {sz : Int32} {f : Nat → Int32} {p0 : Int32} {xr : Int32} (hE : fX1_keptWorth N K ru sz f p0 = some xr) : OkM yX1_keptWorth (.code yX1_keptWorth cX1_keptWorth 2 (some .int)) (0) 0 0 [.ref h, .int p0] [(h, .inr (3, [.int ru, .ref a, .int sz])), (a, .inl (0, 21, .inl f))] ((PN (U := Int32) (fun zz _ => some (.int zz)) (fun zz ad => [(h, .inr (3, [.int ru, .ref a, .int sz])), (a, .inl (0, 21, .inl f))])) xr) := by
  refine ok_of (by decide) (Nat.le_of_ble_eq_true rfl) hE ?_
  refine aw_locals (lv' := [(0, .ref h), (1, .int p0)]) [0, 1] rfl ?_
  refine aw_iload_n (q := 1) gdX1_keptWorth_0.1 rfl 1 rfl ?_
  refine aw_iconst (q := 2) (v := 1) gdX1_keptWorth_0.2.1 rfl (by decide) ?_
  refine aw_icmp_lt (tgt := 11) (q := 5) gdX1_keptWorth_0.2.2.1 (by decide) rfl (fun h_2 => ?_) (fun h_2 => ?_)
  · refine aw_iconst (q := 12) (v := (-1)) gdX1_keptWorth_0.2.2.2.2.2.2.1 rfl (by decide) ?_
    refine aw_goto (tgt := 21) gdX1_keptWorth_0.2.2.2.2.2.2.2 (by decide) ?_
    exact aw_ireturn (w := [(h, .inr (3, [.int ru, .ref a, .int sz])), (a, .inl (0, 21, .inl f))]) [0, 1] gdX1_keptWorth_15.2.2.2.2 rfl rfl rfl rfl (PN.mk (fun _ => 0) rfl rfl)
  · refine aw_iload_n (q := 6) gdX1_keptWorth_0.2.2.2.1 rfl 1 rfl ?_
    refine aw_bipush (q := 8) (v := 20) gdX1_keptWorth_0.2.2.2.2.1 rfl (by decide) ?_
    refine aw_icmp_le (tgt := 15) (q := 11) gdX1_keptWorth_0.2.2.2.2.2.1 (by decide) rfl (fun h_8 => ?_) (fun h_8 => ?_)
    · refine aw_aload_n (q := 16) gdX1_keptWorth_15.1 rfl 0 rfl ?_
      refine aw_get (q := 19) gdX1_keptWorth_15.2.1 rfl fl_X1_9 0 rfl rfl ?_
      refine aw_iload_n (q := 20) gdX1_keptWorth_15.2.2.1 rfl 1 rfl ?_
      refine aw_iald (q := 21) gdX1_keptWorth_15.2.2.2.1 rfl 1 rfl ?_
      exact aw_ireturn (w := [(h, .inr (3, [.int ru, .ref a, .int sz])), (a, .inl (0, 21, .inl f))]) [0, 1] gdX1_keptWorth_15.2.2.2.2 rfl rfl rfl rfl (PN.mk (fun _ => 0) rfl rfl)
    · refine aw_iconst (q := 12) (v := (-1)) gdX1_keptWorth_0.2.2.2.2.2.2.1 rfl (by decide) ?_
      refine aw_goto (tgt := 21) gdX1_keptWorth_0.2.2.2.2.2.2.2 (by decide) ?_
      exact aw_ireturn (w := [(h, .inr (3, [.int ru, .ref a, .int sz])), (a, .inl (0, 21, .inl f))]) [0, 1] gdX1_keptWorth_15.2.2.2.2 rfl rfl rfl rfl (PN.mk (fun _ => 0) rfl rfl)
def fX1_keeps (N K : Nat) (ru : Int32) (sz : Int32) (f : Nat → Int32) (p0 : Int32) : Option (Int32) :=
  ((fX1_keptWorth N K ru sz f p0).bind (fun x2 => (if x2 = (-1 : Int32) then (some (0 : Int32)) else (some (1 : Int32)))))
set_option maxHeartbeats 4000000 in
set_option maxRecDepth 100000 in
theorem ok_X1_keeps {N K : Nat} {h a : Nat} {ru : Int32} {sz : Int32} {f : Nat → Int32} {p0 : Int32} {xr : Int32} (hE : fX1_keeps N K ru sz f p0 = some xr) : OkM yX1_keeps (.code yX1_keeps cX1_keeps 2 (some .boolean)) (1) 0 0 [.ref h, .int p0] [(h, .inr (3, [.int ru, .ref a, .int sz])), (a, .inl (0, 21, .inl f))] ((PN (U := Int32) (fun zz _ => some (.int zz)) (fun zz ad => [(h, .inr (3, [.int ru, .ref a, .int sz])), (a, .inl (0, 21, .inl f))])) xr) := by
  refine ok_of (by decide) (Nat.le_of_ble_eq_true rfl) hE ?_
  refine aw_locals (lv' := [(0, .ref h), (1, .int p0)]) [0, 1] rfl ?_
  refine aw_aload_n (q := 1) gdX1_keeps_0.1 rfl 0 rfl ?_
  refine aw_iload_n (q := 2) gdX1_keeps_0.2.1 rfl 1 rfl ?_
  refine aw_call (q := 5) (kc1 := 0) (ks1 := 0) (wc := [(h, .inr (3, [.int ru, .ref a, .int sz])), (a, .inl (0, 21, .inl f))]) (wr := []) (st1 := fun x2 g2 => [.int x2]) (ws1 := fun x2 g2 => [(h, .inr (3, [.int ru, .ref a, .int sz])), (a, .inl (0, 21, .inl f))]) (As := [.ref h, .int p0]) [0, 1] [] (fun _ => runV (q0 := 0) gdX1_keeps_0.2.2.1 mi_X1_keptWorth im_X1_keptWorth se_X1_keptWorth ml_X1_53 (by omega) rfl (Nat.le_of_ble_eq_true rfl) rfl rfl rfl rfl) (fun x9 h9 => ok_X1_keptWorth h9) rfl rfl rfl rfl rfl (by decide +kernel) (by omega) (by omega) (fun _ _ => rfl) (fun _ _ => rfl) (fun x2 g2 => ?_)
  refine aw_iconst (q := 6) (v := (-1)) gdX1_keeps_0.2.2.2.1 rfl (by decide) ?_
  refine aw_icmp_eq (tgt := 13) (q := 9) gdX1_keeps_0.2.2.2.2.1 (by decide) rfl (fun h_6 => ?_) (fun h_6 => ?_)
  · refine aw_iconst (q := 14) (v := 0) gdX1_keeps_0.2.2.2.2.2.2.2 rfl (by decide) ?_
    exact aw_ireturn (w := [(h, .inr (3, [.int ru, .ref a, .int sz])), (a, .inl (0, 21, .inl f))]) [0, 1] dX1_keeps_14 rfl rfl rfl rfl (PN.mk (fun _ => 0) rfl rfl)
  · refine aw_iconst (q := 10) (v := 1) gdX1_keeps_0.2.2.2.2.2.1 rfl (by decide) ?_
    refine aw_goto (tgt := 14) gdX1_keeps_0.2.2.2.2.2.2.1 (by decide) ?_
    exact aw_ireturn (w := [(h, .inr (3, [.int ru, .ref a, .int sz])), (a, .inl (0, 21, .inl f))]) [0, 1] dX1_keeps_14 rfl rfl rfl rfl (PN.mk (fun _ => 0) rfl rfl)
def fX1_sumOfDivisors_37 (N K : Nat) (ru : Int32) (sz : Int32) (f : Nat → Int32) (p0 : Int32) (k_19 : Int32 → Int32 → Int32 → Option (Int32)) (l2 : Int32) (l3 : Int32) (l4 : Int32) : Option (Int32) :=
  k_19 l2 l3 (l4 + l2)
set_option maxHeartbeats 4000000 in
set_option maxRecDepth 100000 in
theorem tX1_sumOfDivisors_37 {N K : Nat} {h a : Nat} {ru : Int32} {sz : Int32} {f : Nat → Int32} {p0 : Int32} {k_19 : Int32 → Int32 → Int32 → Option (Int32)} (hk_19 : ∀ (l2 : Int32) (l3 : Int32) (l4 : Int32), AW RX1 "sumOfDivisors" cX1_sumOfDivisors 5 (some .int) [] (fun _ _ => True) (0) (PN (U := Int32) (fun zz _ => some (.int zz)) (fun zz ad => [(h, .inr (3, [.int ru, .ref a, .int sz])), (a, .inl (0, 21, .inl f))])) 0 0 (k_19 l2 l3 l4) 19 [(1, .int p0), (2, .int l2), (3, .int l3), (4, .int l4)] [] [(h, .inr (3, [.int ru, .ref a, .int sz])), (a, .inl (0, 21, .inl f))]) : ∀ (l2 : Int32) (l3 : Int32) (l4 : Int32), AW RX1 "sumOfDivisors" cX1_sumOfDivisors 5 (some .int) [] (fun _ _ => True) (0) (PN (U := Int32) (fun zz _ => some (.int zz)) (fun zz ad => [(h, .inr (3, [.int ru, .ref a, .int sz])), (a, .inl (0, 21, .inl f))])) 0 0 (fX1_sumOfDivisors_37 N K ru sz f p0 k_19 l2 l3 l4) 37 [(1, .int p0), (2, .int l2), (3, .int l3), (4, .int l4)] [] [(h, .inr (3, [.int ru, .ref a, .int sz])), (a, .inl (0, 21, .inl f))] := by
  intro l2 l3 l4
  refine aw_iload (q := 39) gdX1_sumOfDivisors_26.2.2.2.2.2.2.2 rfl 3 rfl ?_
  refine aw_iload_n (q := 40) gdX1_sumOfDivisors_39.1 rfl 1 rfl ?_
  refine aw_iadd (q := 41) gdX1_sumOfDivisors_39.2.1 rfl ?_
  refine aw_istore (q := 43) (lv' := [(4, .int (l4 + l2)), (1, .int p0), (2, .int l2), (3, .int l3)]) gdX1_sumOfDivisors_39.2.2.1 rfl (by decide) rfl ?_
  refine aw_goto (tgt := 19) gdX1_sumOfDivisors_39.2.2.2.1 (by decide) ?_
  refine aw_locals (lv' := [(1, .int p0), (2, .int l2), (3, .int l3), (4, .int (l4 + l2))]) [1, 2, 3, 0] rfl ?_
  exact hk_19 _ _ _
def fX1_sumOfDivisors_19 (N K : Nat) (ru : Int32) (sz : Int32) (f : Nat → Int32) (p0 : Int32) : Nat → Int32 → Int32 → Int32 → Option (Int32)
  | 0, _, _, _ => none
  | fu + 1, l2, l3, l4 =>
    (if p0 < l4 then (some l3) else (if l4 = 0 then none else (if (p0 % l4) = 0 then fX1_sumOfDivisors_37 N K ru sz f p0 (fX1_sumOfDivisors_19 N K ru sz f p0  fu) l2 (l3 + l4) l4 else fX1_sumOfDivisors_37 N K ru sz f p0 (fX1_sumOfDivisors_19 N K ru sz f p0  fu) l2 l3 l4)))
set_option maxHeartbeats 4000000 in
set_option maxRecDepth 100000 in
theorem tX1_sumOfDivisors_19 {N K : Nat} {h a : Nat} {ru : Int32} {sz : Int32} {f : Nat → Int32} {p0 : Int32} : ∀ (fu : Nat) (l2 : Int32) (l3 : Int32) (l4 : Int32), AW RX1 "sumOfDivisors" cX1_sumOfDivisors 5 (some .int) [] (fun _ _ => True) (0) (PN (U := Int32) (fun zz _ => some (.int zz)) (fun zz ad => [(h, .inr (3, [.int ru, .ref a, .int sz])), (a, .inl (0, 21, .inl f))])) 0 0 (fX1_sumOfDivisors_19 N K ru sz f p0  fu l2 l3 l4) 19 [(1, .int p0), (2, .int l2), (3, .int l3), (4, .int l4)] [] [(h, .inr (3, [.int ru, .ref a, .int sz])), (a, .inl (0, 21, .inl f))] := by
  intro fu
  induction fu with
  | zero => intro l2 l3 l4; exact aw_none
  | succ fu ih =>
    intro l2 l3 l4
    refine aw_iload (q := 21) gdX1_sumOfDivisors_14.2.2.2.2.1 rfl 3 rfl ?_
    refine aw_iload_n (q := 22) gdX1_sumOfDivisors_14.2.2.2.2.2.1 rfl 0 rfl ?_
    refine aw_icmp_gt (tgt := 46) (q := 25) gdX1_sumOfDivisors_14.2.2.2.2.2.2.1 (by decide) rfl (fun h_22 => ?_) (fun h_22 => ?_)
    · refine aw_iload_n (q := 47) gdX1_sumOfDivisors_39.2.2.2.2.1 rfl 2 rfl ?_
      exact aw_ireturn (w := [(h, .inr (3, [.int ru, .ref a, .int sz])), (a, .inl (0, 21, .inl f))]) [0, 1] gdX1_sumOfDivisors_39.2.2.2.2.2 rfl rfl rfl rfl (PN.mk (fun _ => 0) rfl rfl)
    · refine aw_iload_n (q := 26) gdX1_sumOfDivisors_14.2.2.2.2.2.2.2 rfl 0 rfl ?_
      refine aw_iload (q := 28) gdX1_sumOfDivisors_26.1 rfl 3 rfl ?_
      refine aw_irem (q := 29) gdX1_sumOfDivisors_26.2.1 rfl ?_
      refine aw_if_ne (tgt := 37) (q := 32) gdX1_sumOfDivisors_26.2.2.1 (by decide) rfl (fun h_29 => ?_) (fun h_29 => ?_)
      · exact tX1_sumOfDivisors_37 ih _ _ _
      · refine aw_iload_n (q := 33) gdX1_sumOfDivisors_26.2.2.2.1 rfl 2 rfl ?_
        refine aw_iload (q := 35) gdX1_sumOfDivisors_26.2.2.2.2.1 rfl 3 rfl ?_
        refine aw_iadd (q := 36) gdX1_sumOfDivisors_26.2.2.2.2.2.1 rfl ?_
        refine aw_istore_n (q := 37) (lv' := [(3, .int (l3 + l4)), (1, .int p0), (2, .int l2), (4, .int l4)]) gdX1_sumOfDivisors_26.2.2.2.2.2.2.1 rfl (by decide) rfl ?_
        refine aw_locals (lv' := [(1, .int p0), (2, .int l2), (3, .int (l3 + l4)), (4, .int l4)]) [1, 2, 0, 3] rfl ?_
        exact tX1_sumOfDivisors_37 ih _ _ _
def fX1_sumOfDivisors_13 (N K : Nat) (ru : Int32) (sz : Int32) (f : Nat → Int32) (p0 : Int32) (s0 : Int32) : Option (Int32) :=
  fX1_sumOfDivisors_19 N K ru sz f p0  N s0 (0 : Int32) (1 : Int32)
set_option maxHeartbeats 4000000 in
set_option maxRecDepth 100000 in
theorem tX1_sumOfDivisors_13 {N K : Nat} {h a : Nat} {ru : Int32} {sz : Int32} {f : Nat → Int32} {p0 : Int32} : ∀ (s0 : Int32), AW RX1 "sumOfDivisors" cX1_sumOfDivisors 5 (some .int) [] (fun _ _ => True) (0) (PN (U := Int32) (fun zz _ => some (.int zz)) (fun zz ad => [(h, .inr (3, [.int ru, .ref a, .int sz])), (a, .inl (0, 21, .inl f))])) 0 0 (fX1_sumOfDivisors_13 N K ru sz f p0  s0) 13 [(1, .int p0)] [.int s0] [(h, .inr (3, [.int ru, .ref a, .int sz])), (a, .inl (0, 21, .inl f))] := by
  intro s0
  refine aw_istore_n (q := 14) (lv' := [(2, .int s0), (1, .int p0)]) gdX1_sumOfDivisors_0.2.2.2.2.2.2.2 rfl (by decide) rfl ?_
  refine aw_iconst (q := 15) (v := 0) gdX1_sumOfDivisors_14.1 rfl (by decide) ?_
  refine aw_istore_n (q := 16) (lv' := [(3, .int (0 : Int32)), (2, .int s0), (1, .int p0)]) gdX1_sumOfDivisors_14.2.1 rfl (by decide) rfl ?_
  refine aw_iconst (q := 17) (v := 1) gdX1_sumOfDivisors_14.2.2.1 rfl (by decide) ?_
  refine aw_istore (q := 19) (lv' := [(4, .int (1 : Int32)), (3, .int (0 : Int32)), (2, .int s0), (1, .int p0)]) gdX1_sumOfDivisors_14.2.2.2.1 rfl (by decide) rfl ?_
  refine aw_locals (lv' := [(1, .int p0), (2, .int s0), (3, .int (0 : Int32)), (4, .int (1 : Int32))]) [3, 2, 1, 0] rfl ?_
  exact tX1_sumOfDivisors_19  N _ _ _
def fX1_sumOfDivisors (N K : Nat) (ru : Int32) (sz : Int32) (f : Nat → Int32) (p0 : Int32) : Option (Int32) :=
  (if ru = (2 : Int32) then fX1_sumOfDivisors_13 N K ru sz f p0  (2 : Int32) else fX1_sumOfDivisors_13 N K ru sz f p0  (1 : Int32))
set_option maxHeartbeats 4000000 in
set_option maxRecDepth 100000 in
theorem ok_X1_sumOfDivisors {N K : Nat} {h a : Nat} {ru : Int32} {sz : Int32} {f : Nat → Int32} {p0 : Int32} {xr : Int32} (hE : fX1_sumOfDivisors N K ru sz f p0 = some xr) : OkM yX1_sumOfDivisors (.code yX1_sumOfDivisors cX1_sumOfDivisors 5 (some .int)) (0) 0 0 [.ref h, .int p0] [(h, .inr (3, [.int ru, .ref a, .int sz])), (a, .inl (0, 21, .inl f))] ((PN (U := Int32) (fun zz _ => some (.int zz)) (fun zz ad => [(h, .inr (3, [.int ru, .ref a, .int sz])), (a, .inl (0, 21, .inl f))])) xr) := by
  refine ok_of (by decide) (Nat.le_of_ble_eq_true rfl) hE ?_
  refine aw_locals (lv' := [(0, .ref h), (1, .int p0)]) [0, 1] rfl ?_
  refine aw_aload_n (q := 1) gdX1_sumOfDivisors_0.1 rfl 0 rfl ?_
  refine aw_get (q := 4) gdX1_sumOfDivisors_0.2.1 rfl fl_X1_15 0 rfl rfl ?_
  refine aw_iconst (q := 5) (v := 2) gdX1_sumOfDivisors_0.2.2.1 rfl (by decide) ?_
  refine aw_icmp_ne (tgt := 12) (q := 8) gdX1_sumOfDivisors_0.2.2.2.1 (by decide) rfl (fun h_5 => ?_) (fun h_5 => ?_)
  · refine aw_iconst (q := 13) (v := 1) gdX1_sumOfDivisors_0.2.2.2.2.2.2.1 rfl (by decide) ?_
    refine aw_locals (lv' := [(1, .int p0)]) [1] rfl ?_
    exact tX1_sumOfDivisors_13  _
  · refine aw_iconst (q := 9) (v := 2) gdX1_sumOfDivisors_0.2.2.2.2.1 rfl (by decide) ?_
    refine aw_goto (tgt := 13) gdX1_sumOfDivisors_0.2.2.2.2.2.1 (by decide) ?_
    refine aw_locals (lv' := [(1, .int p0)]) [1] rfl ?_
    exact tX1_sumOfDivisors_13  _
def fX1_mark_31 (N K : Nat) (ru : Int32) (sz : Int32) (f : Nat → Int32) (k_4 : Int32 → Int32 → Option (Int32)) (l1 : Int32) (l2 : Int32) : Option (Int32) :=
  k_4 l1 (l2 + (1 : Int32))
set_option maxHeartbeats 4000000 in
set_option maxRecDepth 100000 in
theorem tX1_mark_31 {N K : Nat} {h a : Nat} {ru : Int32} {sz : Int32} {f : Nat → Int32} {k_4 : Int32 → Int32 → Option (Int32)} (hk_4 : ∀ (l1 : Int32) (l2 : Int32), AW RX1 "mark" cX1_mark 3 (some .int) [] (fun _ _ => True) (0) (PN (U := Int32) (fun zz _ => some (.int zz)) (fun zz ad => [(h, .inr (3, [.int ru, .ref a, .int sz])), (a, .inl (0, 21, .inl f))])) 0 0 (k_4 l1 l2) 4 [(0, .ref h), (1, .int l1), (2, .int l2)] [] [(h, .inr (3, [.int ru, .ref a, .int sz])), (a, .inl (0, 21, .inl f))]) : ∀ (l1 : Int32) (l2 : Int32), AW RX1 "mark" cX1_mark 3 (some .int) [] (fun _ _ => True) (0) (PN (U := Int32) (fun zz _ => some (.int zz)) (fun zz ad => [(h, .inr (3, [.int ru, .ref a, .int sz])), (a, .inl (0, 21, .inl f))])) 0 0 (fX1_mark_31 N K ru sz f k_4 l1 l2) 31 [(0, .ref h), (1, .int l1), (2, .int l2)] [] [(h, .inr (3, [.int ru, .ref a, .int sz])), (a, .inl (0, 21, .inl f))] := by
  intro l1 l2
  refine aw_iinc (q := 34) (v := (l2 + (1 : Int32))) (lv' := [(2, .int (l2 + (1 : Int32))), (0, .ref h), (1, .int l1)]) gdX1_mark_23.2.2.2.2.2.2.1 rfl 2 rfl rfl (by decide) rfl ?_
  refine aw_goto (tgt := 4) gdX1_mark_23.2.2.2.2.2.2.2 (by decide) ?_
  refine aw_locals (lv' := [(0, .ref h), (1, .int l1), (2, .int (l2 + (1 : Int32)))]) [1, 2, 0] rfl ?_
  exact hk_4 _ _
def fX1_mark_4 (N K : Nat) (ru : Int32) (sz : Int32) (f : Nat → Int32) : Nat → Int32 → Int32 → Option (Int32)
  | 0, _, _ => none
  | fu + 1, l1, l2 =>
    (if (20 : Int32) < l2 then (some l1) else (if l2 < 0 ∨ 21 ≤ l2.toNatClampNeg then none else (if (f l2.toNatClampNeg) = (-1 : Int32) then fX1_mark_31 N K ru sz f (fX1_mark_4 N K ru sz f  fu) l1 l2 else (if l2 < 0 ∨ 21 ≤ l2.toNatClampNeg then none else fX1_mark_31 N K ru sz f (fX1_mark_4 N K ru sz f  fu) (l1 + (l2 ^^^ (f l2.toNatClampNeg))) l2))))
set_option maxHeartbeats 4000000 in
set_option maxRecDepth 100000 in
theorem tX1_mark_4 {N K : Nat} {h a : Nat} {ru : Int32} {sz : Int32} {f : Nat → Int32} : ∀ (fu : Nat) (l1 : Int32) (l2 : Int32), AW RX1 "mark" cX1_mark 3 (some .int) [] (fun _ _ => True) (0) (PN (U := Int32) (fun zz _ => some (.int zz)) (fun zz ad => [(h, .inr (3, [.int ru, .ref a, .int sz])), (a, .inl (0, 21, .inl f))])) 0 0 (fX1_mark_4 N K ru sz f  fu l1 l2) 4 [(0, .ref h), (1, .int l1), (2, .int l2)] [] [(h, .inr (3, [.int ru, .ref a, .int sz])), (a, .inl (0, 21, .inl f))] := by
  intro fu
  induction fu with
  | zero => intro l1 l2; exact aw_none
  | succ fu ih =>
    intro l1 l2
    refine aw_iload_n (q := 5) gdX1_mark_0.2.2.2.2.1 rfl 2 rfl ?_
    refine aw_bipush (q := 7) (v := 20) gdX1_mark_0.2.2.2.2.2.1 rfl (by decide) ?_
    refine aw_icmp_gt (tgt := 37) (q := 10) gdX1_mark_0.2.2.2.2.2.2.1 (by decide) rfl (fun h_7 => ?_) (fun h_7 => ?_)
    · refine aw_iload_n (q := 38) gdX1_mark_37.1 rfl 1 rfl ?_
      exact aw_ireturn (w := [(h, .inr (3, [.int ru, .ref a, .int sz])), (a, .inl (0, 21, .inl f))]) [0, 1] gdX1_mark_37.2 rfl rfl rfl rfl (PN.mk (fun _ => 0) rfl rfl)
    · refine aw_aload_n (q := 11) gdX1_mark_0.2.2.2.2.2.2.2 rfl 0 rfl ?_
      refine aw_get (q := 14) gdX1_mark_11.1 rfl fl_X1_9 0 rfl rfl ?_
      refine aw_iload_n (q := 15) gdX1_mark_11.2.1 rfl 2 rfl ?_
      refine aw_iald (q := 16) gdX1_mark_11.2.2.1 rfl 1 rfl ?_
      refine aw_iconst (q := 17) (v := (-1)) gdX1_mark_11.2.2.2.1 rfl (by decide) ?_
      refine aw_icmp_eq (tgt := 31) (q := 20) gdX1_mark_11.2.2.2.2.1 (by decide) rfl (fun h_17 => ?_) (fun h_17 => ?_)
      · exact tX1_mark_31 ih _ _
      · refine aw_iload_n (q := 21) gdX1_mark_11.2.2.2.2.2.1 rfl 1 rfl ?_
        refine aw_iload_n (q := 22) gdX1_mark_11.2.2.2.2.2.2.1 rfl 2 rfl ?_
        refine aw_aload_n (q := 23) gdX1_mark_11.2.2.2.2.2.2.2 rfl 0 rfl ?_
        refine aw_get (q := 26) gdX1_mark_23.1 rfl fl_X1_9 0 rfl rfl ?_
        refine aw_iload_n (q := 27) gdX1_mark_23.2.1 rfl 2 rfl ?_
        refine aw_iald (q := 28) gdX1_mark_23.2.2.1 rfl 1 rfl ?_
        refine aw_ixor (q := 29) gdX1_mark_23.2.2.2.1 rfl ?_
        refine aw_iadd (q := 30) gdX1_mark_23.2.2.2.2.1 rfl ?_
        refine aw_istore_n (q := 31) (lv' := [(1, .int (l1 + (l2 ^^^ (f l2.toNatClampNeg)))), (0, .ref h), (2, .int l2)]) gdX1_mark_23.2.2.2.2.2.1 rfl (by decide) rfl ?_
        refine aw_locals (lv' := [(0, .ref h), (1, .int (l1 + (l2 ^^^ (f l2.toNatClampNeg)))), (2, .int l2)]) [1, 0, 2] rfl ?_
        exact tX1_mark_31 ih _ _
def fX1_mark (N K : Nat) (ru : Int32) (sz : Int32) (f : Nat → Int32) : Option (Int32) :=
  fX1_mark_4 N K ru sz f  N (0 : Int32) (1 : Int32)
set_option maxHeartbeats 4000000 in
set_option maxRecDepth 100000 in
theorem ok_X1_mark {N K : Nat} {h a : Nat} {ru : Int32} {sz : Int32} {f : Nat → Int32} {xr : Int32} (hE : fX1_mark N K ru sz f = some xr) : OkM yX1_mark (.code yX1_mark cX1_mark 3 (some .int)) (0) 0 0 [.ref h] [(h, .inr (3, [.int ru, .ref a, .int sz])), (a, .inl (0, 21, .inl f))] ((PN (U := Int32) (fun zz _ => some (.int zz)) (fun zz ad => [(h, .inr (3, [.int ru, .ref a, .int sz])), (a, .inl (0, 21, .inl f))])) xr) := by
  refine ok_of (by decide) (Nat.le_of_ble_eq_true rfl) hE ?_
  refine aw_locals (lv' := [(0, .ref h)]) [0] rfl ?_
  refine aw_iconst (q := 1) (v := 0) gdX1_mark_0.1 rfl (by decide) ?_
  refine aw_istore_n (q := 2) (lv' := [(1, .int (0 : Int32)), (0, .ref h)]) gdX1_mark_0.2.1 rfl (by decide) rfl ?_
  refine aw_iconst (q := 3) (v := 1) gdX1_mark_0.2.2.1 rfl (by decide) ?_
  refine aw_istore_n (q := 4) (lv' := [(2, .int (1 : Int32)), (1, .int (0 : Int32)), (0, .ref h)]) gdX1_mark_0.2.2.2.1 rfl (by decide) rfl ?_
  refine aw_locals (lv' := [(0, .ref h), (1, .int (0 : Int32)), (2, .int (1 : Int32))]) [2, 1, 0] rfl ?_
  exact tX1_mark_4  N _ _
def fX1_drop (N K : Nat) (ru : Int32) (sz : Int32) (f : Nat → Int32) (p0 : Int32) : Option (Int32 × (Nat → Int32)) :=
  (if p0 < (1 : Int32) then (some (sz, f)) else (if (20 : Int32) < p0 then (some (sz, f)) else (if p0 < 0 ∨ 21 ≤ p0.toNatClampNeg then none else (if (f p0.toNatClampNeg) = (-1 : Int32) then (some (sz, f)) else (if p0 < 0 ∨ 21 ≤ p0.toNatClampNeg then none else (some ((sz - (1 : Int32)), (upd f p0.toNatClampNeg (-1 : Int32)))))))))
set_option maxHeartbeats 4000000 in
set_option maxRecDepth 100000 in
theorem ok_X1_drop {N K : Nat} {h a : Nat} {ru : Int32} {sz : Int32} {f : Nat → Int32} {p0 : Int32} {xr : Int32 × (Nat → Int32)} (hE : fX1_drop N K ru sz f p0 = some xr) : OkM yX1_drop (.code yX1_drop cX1_drop 2 none) (0) 0 0 [.ref h, .int p0] [(h, .inr (3, [.int ru, .ref a, .int sz])), (a, .inl (0, 21, .inl f))] ((PN (U := Int32 × (Nat → Int32)) (fun _ _ => none) (fun zz ad => [(h, .inr (3, [.int ru, .ref a, .int zz.1])), (a, .inl (0, 21, .inl zz.2))])) xr) := by
  refine ok_of (by decide) (Nat.le_of_ble_eq_true rfl) hE ?_
  refine aw_locals (lv' := [(0, .ref h), (1, .int p0)]) [0, 1] rfl ?_
  refine aw_iload_n (q := 1) gdX1_drop_0.1 rfl 1 rfl ?_
  refine aw_iconst (q := 2) (v := 1) gdX1_drop_0.2.1 rfl (by decide) ?_
  refine aw_icmp_lt (tgt := 38) (q := 5) gdX1_drop_0.2.2.1 (by decide) rfl (fun h_2 => ?_) (fun h_2 => ?_)
  · exact aw_return (w := [(h, .inr (3, [.int ru, .ref a, .int sz])), (a, .inl (0, 21, .inl f))]) [0, 1] gdX1_drop_27.2.2.2.2.2.2.2 rfl rfl rfl (PN.mk (fun _ => 0) rfl rfl)
  · refine aw_iload_n (q := 6) gdX1_drop_0.2.2.2.1 rfl 1 rfl ?_
    refine aw_bipush (q := 8) (v := 20) gdX1_drop_0.2.2.2.2.1 rfl (by decide) ?_
    refine aw_icmp_gt (tgt := 38) (q := 11) gdX1_drop_0.2.2.2.2.2.1 (by decide) rfl (fun h_8 => ?_) (fun h_8 => ?_)
    · exact aw_return (w := [(h, .inr (3, [.int ru, .ref a, .int sz])), (a, .inl (0, 21, .inl f))]) [0, 1] gdX1_drop_27.2.2.2.2.2.2.2 rfl rfl rfl (PN.mk (fun _ => 0) rfl rfl)
    · refine aw_aload_n (q := 12) gdX1_drop_0.2.2.2.2.2.2.1 rfl 0 rfl ?_
      refine aw_get (q := 15) gdX1_drop_0.2.2.2.2.2.2.2 rfl fl_X1_9 0 rfl rfl ?_
      refine aw_iload_n (q := 16) gdX1_drop_15.1 rfl 1 rfl ?_
      refine aw_iald (q := 17) gdX1_drop_15.2.1 rfl 1 rfl ?_
      refine aw_iconst (q := 18) (v := (-1)) gdX1_drop_15.2.2.1 rfl (by decide) ?_
      refine aw_icmp_eq (tgt := 38) (q := 21) gdX1_drop_15.2.2.2.1 (by decide) rfl (fun h_18 => ?_) (fun h_18 => ?_)
      · exact aw_return (w := [(h, .inr (3, [.int ru, .ref a, .int sz])), (a, .inl (0, 21, .inl f))]) [0, 1] gdX1_drop_27.2.2.2.2.2.2.2 rfl rfl rfl (PN.mk (fun _ => 0) rfl rfl)
      · refine aw_aload_n (q := 22) gdX1_drop_15.2.2.2.2.1 rfl 0 rfl ?_
        refine aw_get (q := 25) gdX1_drop_15.2.2.2.2.2.1 rfl fl_X1_9 0 rfl rfl ?_
        refine aw_iload_n (q := 26) gdX1_drop_15.2.2.2.2.2.2.1 rfl 1 rfl ?_
        refine aw_iconst (q := 27) (v := (-1)) gdX1_drop_15.2.2.2.2.2.2.2 rfl (by decide) ?_
        refine aw_iast (q := 28) (ws' := [(h, .inr (3, [.int ru, .ref a, .int sz])), (a, .inl (0, 21, .inl (upd f p0.toNatClampNeg (-1 : Int32))))]) gdX1_drop_27.1 rfl 1 rfl rfl ?_
        refine aw_aload_n (q := 29) gdX1_drop_27.2.1 rfl 0 rfl ?_
        refine aw_dup (q := 30) gdX1_drop_27.2.2.1 rfl rfl ?_
        refine aw_get (q := 33) gdX1_drop_27.2.2.2.1 rfl fl_X1_25 0 rfl rfl ?_
        refine aw_iconst (q := 34) (v := 1) gdX1_drop_27.2.2.2.2.1 rfl (by decide) ?_
        refine aw_isub (q := 35) gdX1_drop_27.2.2.2.2.2.1 rfl ?_
        refine aw_put (q := 38) (ws' := [(h, .inr (3, [.int ru, .ref a, .int (sz - (1 : Int32))])), (a, .inl (0, 21, .inl (upd f p0.toNatClampNeg (-1 : Int32))))]) gdX1_drop_27.2.2.2.2.2.2.1 rfl fl_X1_25 0 rfl rfl rfl (Nat.le_of_ble_eq_true rfl) rfl ?_
        exact aw_return (w := [(h, .inr (3, [.int ru, .ref a, .int (sz - (1 : Int32))])), (a, .inl (0, 21, .inl (upd f p0.toNatClampNeg (-1 : Int32))))]) [0, 1] gdX1_drop_27.2.2.2.2.2.2.2 rfl rfl rfl (PN.mk (fun _ => 0) rfl rfl)
def fX1_dropAll (N K : Nat) (ru : Int32) (sz : Int32) (f : Nat → Int32) : Option (Int32 × Int32 × (Nat → Int32)) :=
  ((fJ_fill N K 21 f (-1 : Int32)).bind (fun x10 => (some (sz, (0 : Int32), x10))))
set_option maxHeartbeats 4000000 in
set_option maxRecDepth 100000 in
theorem ok_X1_dropAll {N K : Nat} {h a : Nat} {ru : Int32} {sz : Int32} {f : Nat → Int32} {xr : Int32 × Int32 × (Nat → Int32)} (hE : fX1_dropAll N K ru sz f = some xr) : OkM yX1_dropAll (.code yX1_dropAll cX1_dropAll 2 (some .int)) (1) 0 0 [.ref h] [(h, .inr (3, [.int ru, .ref a, .int sz])), (a, .inl (0, 21, .inl f))] ((PN (U := Int32 × Int32 × (Nat → Int32)) (fun zz _ => some (.int zz.1)) (fun zz ad => [(h, .inr (3, [.int ru, .ref a, .int zz.2.1])), (a, .inl (0, 21, .inl zz.2.2))])) xr) := by
  refine ok_of (by decide) (Nat.le_of_ble_eq_true rfl) hE ?_
  refine aw_locals (lv' := [(0, .ref h)]) [0] rfl ?_
  refine aw_aload_n (q := 1) gdX1_dropAll_0.1 rfl 0 rfl ?_
  refine aw_get (q := 4) gdX1_dropAll_0.2.1 rfl fl_X1_25 0 rfl rfl ?_
  refine aw_istore_n (q := 5) (lv' := [(1, .int sz), (0, .ref h)]) gdX1_dropAll_0.2.2.1 rfl (by decide) rfl ?_
  refine aw_aload_n (q := 6) gdX1_dropAll_0.2.2.2.1 rfl 1 rfl ?_
  refine aw_get (q := 9) gdX1_dropAll_0.2.2.2.2.1 rfl fl_X1_9 0 rfl rfl ?_
  refine aw_iconst (q := 10) (v := (-1)) gdX1_dropAll_0.2.2.2.2.2.1 rfl (by decide) ?_
  refine aw_call (q := 13) (kc1 := 0) (ks1 := 0) (wc := [(a, .inl (0, 21, .inl f))]) (wr := [(h, .inr (3, [.int ru, .ref a, .int sz]))]) (st1 := fun x10 g10 => []) (ws1 := fun x10 g10 => [(h, .inr (3, [.int ru, .ref a, .int sz])), (a, .inl (0, 21, .inl x10))]) (As := [.ref a, .int (-1 : Int32)]) [1] [0] (fun _ => runS gdX1_dropAll_0.2.2.2.2.2.2.1 mi_J7_fill_53178 st_J7_fill_53178 ml_X1_19 (by omega) rfl (Nat.le_of_ble_eq_true rfl) rfl) (fun x9 h9 => ok_J_fill h9) rfl rfl rfl rfl rfl (by decide +kernel) (by omega) (by omega) (fun _ _ => rfl) (fun _ _ => rfl) (fun x10 g10 => ?_)
  refine aw_aload_n (q := 14) gdX1_dropAll_0.2.2.2.2.2.2.2 rfl 1 rfl ?_
  refine aw_iconst (q := 15) (v := 0) gdX1_dropAll_14.1 rfl (by decide) ?_
  refine aw_put (q := 18) (ws' := [(h, .inr (3, [.int ru, .ref a, .int (0 : Int32)])), (a, .inl (0, 21, .inl x10))]) gdX1_dropAll_14.2.1 rfl fl_X1_25 0 rfl rfl rfl (Nat.le_of_ble_eq_true rfl) rfl ?_
  refine aw_iload_n (q := 19) gdX1_dropAll_14.2.2.1 rfl 0 rfl ?_
  exact aw_ireturn (w := [(h, .inr (3, [.int ru, .ref a, .int (0 : Int32)])), (a, .inl (0, 21, .inl x10))]) [0, 1] gdX1_dropAll_14.2.2.2 rfl rfl rfl rfl (PN.mk (fun _ => 0) rfl rfl)
def fX1_byPentagons_105 (N K : Nat) (rec : Int32 → Int32 → (Nat → Int32) → Int32 → Int32 → Int32 → Int32 → Int32 → Int32 → Int32 → Int32 → Option (Int32 × Int32 × (Nat → Int32) × Int32 × Int32 × Int32)) (ru : Int32) (sz : Int32) (f : Nat → Int32) (c0 : Int32) (c1 : Int32) (c2 : Int32) (c3 : Int32) (c4 : Int32) (c5 : Int32) (p0 : Int32) (p1 : Int32) (k_6 : Int32 → Int32 → Int32 → (Nat → Int32) → Int32 → Int32 → Int32 → Option (Int32 × Int32 × (Nat → Int32) × Int32 × Int32 × Int32)) (l5 : Int32) (s0 : Int32) (s1 : Int32) (sz_ : Int32) (f_ : Nat → Int32) (c1_ : Int32) (c2_ : Int32) (c3_ : Int32) : Option (Int32 × Int32 × (Nat → Int32) × Int32 × Int32 × Int32) :=
  k_6 (s1 + s0) (l5 + (1 : Int32)) sz_ f_ c1_ c2_ c3_
set_option maxHeartbeats 4000000 in
set_option maxRecDepth 100000 in
theorem tX1_byPentagons_105 {N K : Nat} {h c a : Nat} {ru : Int32} {sz : Int32} {f : Nat → Int32} {c0 : Int32} {c1 : Int32} {c2 : Int32} {c3 : Int32} {c4 : Int32} {c5 : Int32} {p0 : Int32} {p1 : Int32} {rec : Int32 → Int32 → (Nat → Int32) → Int32 → Int32 → Int32 → Int32 → Int32 → Int32 → Int32 → Int32 → Option (Int32 × Int32 × (Nat → Int32) × Int32 × Int32 × Int32)} {dr : Nat} (hrec : ∀ (ru : Int32) (sz : Int32) (f : Nat → Int32) (c0 : Int32) (c1 : Int32) (c2 : Int32) (c3 : Int32) (c4 : Int32) (c5 : Int32) (p0 : Int32) (p1 : Int32) (xr : Int32 × Int32 × (Nat → Int32) × Int32 × Int32 × Int32), rec ru sz f c0 c1 c2 c3 c4 c5 p0 p1 = some xr → OkM yX1_worthKnown (.code yX1_worthKnown cX1_worthKnown 5 (some .int)) (dr) 0 0 [.ref h, .int p0, .ref c, .int p1] [(h, .inr (3, [.int ru, .ref a, .int sz])), (a, .inl (0, 21, .inl f)), (c, .inr (2, [.int c0, .int c1, .int c2, .int c3, .int c4, .int c5]))] ((PN (U := Int32 × Int32 × (Nat → Int32) × Int32 × Int32 × Int32) (fun zz _ => some (.int zz.1)) (fun zz ad => [(h, .inr (3, [.int ru, .ref a, .int zz.2.1])), (a, .inl (0, 21, .inl zz.2.2.1)), (c, .inr (2, [.int c0, .int zz.2.2.2.1, .int zz.2.2.2.2.1, .int zz.2.2.2.2.2, .int c4, .int c5]))])) xr)) {k_6 : Int32 → Int32 → Int32 → (Nat → Int32) → Int32 → Int32 → Int32 → Option (Int32 × Int32 × (Nat → Int32) × Int32 × Int32 × Int32)} (hk_6 : ∀ (l4 : Int32) (l5 : Int32) (sz_ : Int32) (f_ : Nat → Int32) (c1_ : Int32) (c2_ : Int32) (c3_ : Int32), AW RX1 "byPentagons" cX1_byPentagons 7 (some .int) [] (fun _ _ => True) (dr + 1) (PN (U := Int32 × Int32 × (Nat → Int32) × Int32 × Int32 × Int32) (fun zz _ => some (.int zz.1)) (fun zz ad => [(h, .inr (3, [.int ru, .ref a, .int zz.2.1])), (a, .inl (0, 21, .inl zz.2.2.1)), (c, .inr (2, [.int c0, .int zz.2.2.2.1, .int zz.2.2.2.2.1, .int zz.2.2.2.2.2, .int c4, .int c5]))])) 0 0 (k_6 l4 l5 sz_ f_ c1_ c2_ c3_) 6 [(0, .ref h), (1, .int p0), (2, .ref c), (3, .int p1), (4, .int l4), (5, .int l5)] [] [(h, .inr (3, [.int ru, .ref a, .int sz_])), (a, .inl (0, 21, .inl f_)), (c, .inr (2, [.int c0, .int c1_, .int c2_, .int c3_, .int c4, .int c5]))]) : ∀ (l5 : Int32) (s0 : Int32) (s1 : Int32) (sz_ : Int32) (f_ : Nat → Int32) (c1_ : Int32) (c2_ : Int32) (c3_ : Int32), AW RX1 "byPentagons" cX1_byPentagons 7 (some .int) [] (fun _ _ => True) (dr + 1) (PN (U := Int32 × Int32 × (Nat → Int32) × Int32 × Int32 × Int32) (fun zz _ => some (.int zz.1)) (fun zz ad => [(h, .inr (3, [.int ru, .ref a, .int zz.2.1])), (a, .inl (0, 21, .inl zz.2.2.1)), (c, .inr (2, [.int c0, .int zz.2.2.2.1, .int zz.2.2.2.2.1, .int zz.2.2.2.2.2, .int c4, .int c5]))])) 0 0 (fX1_byPentagons_105 N K rec ru sz f c0 c1 c2 c3 c4 c5 p0 p1 k_6 l5 s0 s1 sz_ f_ c1_ c2_ c3_) 105 [(0, .ref h), (1, .int p0), (2, .ref c), (3, .int p1), (5, .int l5)] [.int s0, .int s1] [(h, .inr (3, [.int ru, .ref a, .int sz_])), (a, .inl (0, 21, .inl f_)), (c, .inr (2, [.int c0, .int c1_, .int c2_, .int c3_, .int c4, .int c5]))] := by
  intro l5 s0 s1 sz_ f_ c1_ c2_ c3_
  refine aw_iadd (q := 106) gdX1_byPentagons_105.1 rfl ?_
  refine aw_istore (q := 108) (lv' := [(4, .int (s1 + s0)), (0, .ref h), (1, .int p0), (2, .ref c), (3, .int p1), (5, .int l5)]) gdX1_byPentagons_105.2.1 rfl (by decide) rfl ?_
  refine aw_iinc (q := 111) (v := (l5 + (1 : Int32))) (lv' := [(5, .int (l5 + (1 : Int32))), (4, .int (s1 + s0)), (0, .ref h), (1, .int p0), (2, .ref c), (3, .int p1)]) gdX1_byPentagons_105.2.2.1 rfl 5 rfl rfl (by decide) rfl ?_
  refine aw_goto (tgt := 6) gdX1_byPentagons_105.2.2.2.1 (by decide) ?_
  refine aw_locals (lv' := [(0, .ref h), (1, .int p0), (2, .ref c), (3, .int p1), (4, .int (s1 + s0)), (5, .int (l5 + (1 : Int32)))]) [2, 3, 4, 5, 1, 0] rfl ?_
  exact hk_6 _ _ _ _ _ _ _
def fX1_byPentagons_88 (N K : Nat) (rec : Int32 → Int32 → (Nat → Int32) → Int32 → Int32 → Int32 → Int32 → Int32 → Int32 → Int32 → Int32 → Option (Int32 × Int32 × (Nat → Int32) × Int32 × Int32 × Int32)) (ru : Int32) (sz : Int32) (f : Nat → Int32) (c0 : Int32) (c1 : Int32) (c2 : Int32) (c3 : Int32) (c4 : Int32) (c5 : Int32) (p0 : Int32) (p1 : Int32) (k_6 : Int32 → Int32 → Int32 → (Nat → Int32) → Int32 → Int32 → Int32 → Option (Int32 × Int32 × (Nat → Int32) × Int32 × Int32 × Int32)) (l4 : Int32) (l5 : Int32) (l6 : Int32) (sz_ : Int32) (f_ : Nat → Int32) (c1_ : Int32) (c2_ : Int32) (c3_ : Int32) : Option (Int32 × Int32 × (Nat → Int32) × Int32 × Int32 × Int32) :=
  (if (l5 % (2 : Int32)) = 0 then fX1_byPentagons_105 N K rec ru sz f c0 c1 c2 c3 c4 c5 p0 p1 k_6 l5 (-l6) l4 sz_ f_ c1_ c2_ c3_ else fX1_byPentagons_105 N K rec ru sz f c0 c1 c2 c3 c4 c5 p0 p1 k_6 l5 l6 l4 sz_ f_ c1_ c2_ c3_)
set_option maxHeartbeats 4000000 in
set_option maxRecDepth 100000 in
theorem tX1_byPentagons_88 {N K : Nat} {h c a : Nat} {ru : Int32} {sz : Int32} {f : Nat → Int32} {c0 : Int32} {c1 : Int32} {c2 : Int32} {c3 : Int32} {c4 : Int32} {c5 : Int32} {p0 : Int32} {p1 : Int32} {rec : Int32 → Int32 → (Nat → Int32) → Int32 → Int32 → Int32 → Int32 → Int32 → Int32 → Int32 → Int32 → Option (Int32 × Int32 × (Nat → Int32) × Int32 × Int32 × Int32)} {dr : Nat} (hrec : ∀ (ru : Int32) (sz : Int32) (f : Nat → Int32) (c0 : Int32) (c1 : Int32) (c2 : Int32) (c3 : Int32) (c4 : Int32) (c5 : Int32) (p0 : Int32) (p1 : Int32) (xr : Int32 × Int32 × (Nat → Int32) × Int32 × Int32 × Int32), rec ru sz f c0 c1 c2 c3 c4 c5 p0 p1 = some xr → OkM yX1_worthKnown (.code yX1_worthKnown cX1_worthKnown 5 (some .int)) (dr) 0 0 [.ref h, .int p0, .ref c, .int p1] [(h, .inr (3, [.int ru, .ref a, .int sz])), (a, .inl (0, 21, .inl f)), (c, .inr (2, [.int c0, .int c1, .int c2, .int c3, .int c4, .int c5]))] ((PN (U := Int32 × Int32 × (Nat → Int32) × Int32 × Int32 × Int32) (fun zz _ => some (.int zz.1)) (fun zz ad => [(h, .inr (3, [.int ru, .ref a, .int zz.2.1])), (a, .inl (0, 21, .inl zz.2.2.1)), (c, .inr (2, [.int c0, .int zz.2.2.2.1, .int zz.2.2.2.2.1, .int zz.2.2.2.2.2, .int c4, .int c5]))])) xr)) {k_6 : Int32 → Int32 → Int32 → (Nat → Int32) → Int32 → Int32 → Int32 → Option (Int32 × Int32 × (Nat → Int32) × Int32 × Int32 × Int32)} (hk_6 : ∀ (l4 : Int32) (l5 : Int32) (sz_ : Int32) (f_ : Nat → Int32) (c1_ : Int32) (c2_ : Int32) (c3_ : Int32), AW RX1 "byPentagons" cX1_byPentagons 7 (some .int) [] (fun _ _ => True) (dr + 1) (PN (U := Int32 × Int32 × (Nat → Int32) × Int32 × Int32 × Int32) (fun zz _ => some (.int zz.1)) (fun zz ad => [(h, .inr (3, [.int ru, .ref a, .int zz.2.1])), (a, .inl (0, 21, .inl zz.2.2.1)), (c, .inr (2, [.int c0, .int zz.2.2.2.1, .int zz.2.2.2.2.1, .int zz.2.2.2.2.2, .int c4, .int c5]))])) 0 0 (k_6 l4 l5 sz_ f_ c1_ c2_ c3_) 6 [(0, .ref h), (1, .int p0), (2, .ref c), (3, .int p1), (4, .int l4), (5, .int l5)] [] [(h, .inr (3, [.int ru, .ref a, .int sz_])), (a, .inl (0, 21, .inl f_)), (c, .inr (2, [.int c0, .int c1_, .int c2_, .int c3_, .int c4, .int c5]))]) : ∀ (l4 : Int32) (l5 : Int32) (l6 : Int32) (sz_ : Int32) (f_ : Nat → Int32) (c1_ : Int32) (c2_ : Int32) (c3_ : Int32), AW RX1 "byPentagons" cX1_byPentagons 7 (some .int) [] (fun _ _ => True) (dr + 1) (PN (U := Int32 × Int32 × (Nat → Int32) × Int32 × Int32 × Int32) (fun zz _ => some (.int zz.1)) (fun zz ad => [(h, .inr (3, [.int ru, .ref a, .int zz.2.1])), (a, .inl (0, 21, .inl zz.2.2.1)), (c, .inr (2, [.int c0, .int zz.2.2.2.1, .int zz.2.2.2.2.1, .int zz.2.2.2.2.2, .int c4, .int c5]))])) 0 0 (fX1_byPentagons_88 N K rec ru sz f c0 c1 c2 c3 c4 c5 p0 p1 k_6 l4 l5 l6 sz_ f_ c1_ c2_ c3_) 88 [(0, .ref h), (1, .int p0), (2, .ref c), (3, .int p1), (4, .int l4), (5, .int l5), (6, .int l6)] [] [(h, .inr (3, [.int ru, .ref a, .int sz_])), (a, .inl (0, 21, .inl f_)), (c, .inr (2, [.int c0, .int c1_, .int c2_, .int c3_, .int c4, .int c5]))] := by
  intro l4 l5 l6 sz_ f_ c1_ c2_ c3_
  refine aw_iload (q := 90) gdX1_byPentagons_78.2.2.2.2.2.2.2 rfl 4 rfl ?_
  refine aw_iload (q := 92) gdX1_byPentagons_90.1 rfl 5 rfl ?_
  refine aw_iconst (q := 93) (v := 2) gdX1_byPentagons_90.2.1 rfl (by decide) ?_
  refine aw_iremT (q := 94) gdX1_byPentagons_90.2.2.1 rfl (by decide) ?_
  refine aw_if_eq (tgt := 102) (q := 97) gdX1_byPentagons_90.2.2.2.1 (by decide) rfl (fun h_94 => ?_) (fun h_94 => ?_)
  · refine aw_iload (q := 104) gdX1_byPentagons_90.2.2.2.2.2.2.1 rfl 6 rfl ?_
    refine aw_ineg (q := 105) gdX1_byPentagons_90.2.2.2.2.2.2.2 rfl ?_
    refine aw_locals (lv' := [(0, .ref h), (1, .int p0), (2, .ref c), (3, .int p1), (5, .int l5)]) [0, 1, 2, 3, 5] rfl ?_
    exact tX1_byPentagons_105 hrec hk_6 _ _ _ _ _ _ _ _
  · refine aw_iload (q := 99) gdX1_byPentagons_90.2.2.2.2.1 rfl 6 rfl ?_
    refine aw_goto (tgt := 105) gdX1_byPentagons_90.2.2.2.2.2.1 (by decide) ?_
    refine aw_locals (lv' := [(0, .ref h), (1, .int p0), (2, .ref c), (3, .int p1), (5, .int l5)]) [0, 1, 2, 3, 5] rfl ?_
    exact tX1_byPentagons_105 hrec hk_6 _ _ _ _ _ _ _ _
def fX1_byPentagons_6 (N K : Nat) (rec : Int32 → Int32 → (Nat → Int32) → Int32 → Int32 → Int32 → Int32 → Int32 → Int32 → Int32 → Int32 → Option (Int32 × Int32 × (Nat → Int32) × Int32 × Int32 × Int32)) (ru : Int32) (sz : Int32) (f : Nat → Int32) (c0 : Int32) (c1 : Int32) (c2 : Int32) (c3 : Int32) (c4 : Int32) (c5 : Int32) (p0 : Int32) (p1 : Int32) : Nat → Int32 → Int32 → Int32 → (Nat → Int32) → Int32 → Int32 → Int32 → Option (Int32 × Int32 × (Nat → Int32) × Int32 × Int32 × Int32)
  | 0, _, _, _, _, _, _, _ => none
  | fu + 1, l4, l5, sz_, f_, c1_, c2_, c3_ =>
    (if (20 : Int32) < l5 then (some (l4, sz_, f_, c1_, c2_, c3_)) else (if p0 < ((l5 * (((3 : Int32) * l5) - (1 : Int32))) / (2 : Int32)) then (some (l4, sz_, f_, c1_, c2_, c3_)) else ((rec ru sz_ f_ c0 c1_ c2_ c3_ c4 c5 (p0 - ((l5 * (((3 : Int32) * l5) - (1 : Int32))) / (2 : Int32))) p1).bind (fun x44 => (if p0 < ((l5 * (((3 : Int32) * l5) + (1 : Int32))) / (2 : Int32)) then fX1_byPentagons_88 N K rec ru sz f c0 c1 c2 c3 c4 c5 p0 p1 (fX1_byPentagons_6 N K rec ru sz f c0 c1 c2 c3 c4 c5 p0 p1  fu) l4 l5 x44.1 x44.2.1 x44.2.2.1 x44.2.2.2.1 x44.2.2.2.2.1 x44.2.2.2.2.2 else ((rec ru x44.2.1 x44.2.2.1 c0 x44.2.2.2.1 x44.2.2.2.2.1 x44.2.2.2.2.2 c4 c5 (p0 - ((l5 * (((3 : Int32) * l5) + (1 : Int32))) / (2 : Int32))) p1).bind (fun x82 => fX1_byPentagons_88 N K rec ru sz f c0 c1 c2 c3 c4 c5 p0 p1 (fX1_byPentagons_6 N K rec ru sz f c0 c1 c2 c3 c4 c5 p0 p1  fu) l4 l5 (x44.1 + x82.1) x82.2.1 x82.2.2.1 x82.2.2.2.1 x82.2.2.2.2.1 x82.2.2.2.2.2)))))))
set_option maxHeartbeats 4000000 in
set_option maxRecDepth 100000 in
theorem tX1_byPentagons_6 {N K : Nat} {h c a : Nat} {ru : Int32} {sz : Int32} {f : Nat → Int32} {c0 : Int32} {c1 : Int32} {c2 : Int32} {c3 : Int32} {c4 : Int32} {c5 : Int32} {p0 : Int32} {p1 : Int32} {rec : Int32 → Int32 → (Nat → Int32) → Int32 → Int32 → Int32 → Int32 → Int32 → Int32 → Int32 → Int32 → Option (Int32 × Int32 × (Nat → Int32) × Int32 × Int32 × Int32)} {dr : Nat} (hrec : ∀ (ru : Int32) (sz : Int32) (f : Nat → Int32) (c0 : Int32) (c1 : Int32) (c2 : Int32) (c3 : Int32) (c4 : Int32) (c5 : Int32) (p0 : Int32) (p1 : Int32) (xr : Int32 × Int32 × (Nat → Int32) × Int32 × Int32 × Int32), rec ru sz f c0 c1 c2 c3 c4 c5 p0 p1 = some xr → OkM yX1_worthKnown (.code yX1_worthKnown cX1_worthKnown 5 (some .int)) (dr) 0 0 [.ref h, .int p0, .ref c, .int p1] [(h, .inr (3, [.int ru, .ref a, .int sz])), (a, .inl (0, 21, .inl f)), (c, .inr (2, [.int c0, .int c1, .int c2, .int c3, .int c4, .int c5]))] ((PN (U := Int32 × Int32 × (Nat → Int32) × Int32 × Int32 × Int32) (fun zz _ => some (.int zz.1)) (fun zz ad => [(h, .inr (3, [.int ru, .ref a, .int zz.2.1])), (a, .inl (0, 21, .inl zz.2.2.1)), (c, .inr (2, [.int c0, .int zz.2.2.2.1, .int zz.2.2.2.2.1, .int zz.2.2.2.2.2, .int c4, .int c5]))])) xr)) : ∀ (fu : Nat) (l4 : Int32) (l5 : Int32) (sz_ : Int32) (f_ : Nat → Int32) (c1_ : Int32) (c2_ : Int32) (c3_ : Int32), AW RX1 "byPentagons" cX1_byPentagons 7 (some .int) [] (fun _ _ => True) (dr + 1) (PN (U := Int32 × Int32 × (Nat → Int32) × Int32 × Int32 × Int32) (fun zz _ => some (.int zz.1)) (fun zz ad => [(h, .inr (3, [.int ru, .ref a, .int zz.2.1])), (a, .inl (0, 21, .inl zz.2.2.1)), (c, .inr (2, [.int c0, .int zz.2.2.2.1, .int zz.2.2.2.2.1, .int zz.2.2.2.2.2, .int c4, .int c5]))])) 0 0 (fX1_byPentagons_6 N K rec ru sz f c0 c1 c2 c3 c4 c5 p0 p1  fu l4 l5 sz_ f_ c1_ c2_ c3_) 6 [(0, .ref h), (1, .int p0), (2, .ref c), (3, .int p1), (4, .int l4), (5, .int l5)] [] [(h, .inr (3, [.int ru, .ref a, .int sz_])), (a, .inl (0, 21, .inl f_)), (c, .inr (2, [.int c0, .int c1_, .int c2_, .int c3_, .int c4, .int c5]))] := by
  intro fu
  induction fu with
  | zero => intro l4 l5 sz_ f_ c1_ c2_ c3_; exact aw_none
  | succ fu ih =>
    intro l4 l5 sz_ f_ c1_ c2_ c3_
    refine aw_iload (q := 8) gdX1_byPentagons_0.2.2.2.2.1 rfl 5 rfl ?_
    refine aw_bipush (q := 10) (v := 20) gdX1_byPentagons_0.2.2.2.2.2.1 rfl (by decide) ?_
    refine aw_icmp_gt (tgt := 114) (q := 13) gdX1_byPentagons_0.2.2.2.2.2.2.1 (by decide) rfl (fun h_10 => ?_) (fun h_10 => ?_)
    · refine aw_iload (q := 116) gdX1_byPentagons_105.2.2.2.2.1 rfl 4 rfl ?_
      exact aw_ireturn (w := [(h, .inr (3, [.int ru, .ref a, .int sz_])), (a, .inl (0, 21, .inl f_)), (c, .inr (2, [.int c0, .int c1_, .int c2_, .int c3_, .int c4, .int c5]))]) [0, 1, 2] gdX1_byPentagons_105.2.2.2.2.2 rfl rfl rfl rfl (PN.mk (fun _ => 0) rfl rfl)
    · refine aw_iload (q := 15) gdX1_byPentagons_0.2.2.2.2.2.2.2 rfl 5 rfl ?_
      refine aw_iconst (q := 16) (v := 3) gdX1_byPentagons_15.1 rfl (by decide) ?_
      refine aw_iload (q := 18) gdX1_byPentagons_15.2.1 rfl 5 rfl ?_
      refine aw_imul (q := 19) gdX1_byPentagons_15.2.2.1 rfl ?_
      refine aw_iconst (q := 20) (v := 1) gdX1_byPentagons_15.2.2.2.1 rfl (by decide) ?_
      refine aw_isub (q := 21) gdX1_byPentagons_15.2.2.2.2.1 rfl ?_
      refine aw_imul (q := 22) gdX1_byPentagons_15.2.2.2.2.2.1 rfl ?_
      refine aw_iconst (q := 23) (v := 2) gdX1_byPentagons_15.2.2.2.2.2.2.1 rfl (by decide) ?_
      refine aw_idivT (q := 24) gdX1_byPentagons_15.2.2.2.2.2.2.2 rfl (by decide) ?_
      refine aw_iload_n (q := 25) gdX1_byPentagons_24.1 rfl 1 rfl ?_
      refine aw_icmp_gt (tgt := 114) (q := 28) gdX1_byPentagons_24.2.1 (by decide) rfl (fun h_25 => ?_) (fun h_25 => ?_)
      · refine aw_iload (q := 116) gdX1_byPentagons_105.2.2.2.2.1 rfl 4 rfl ?_
        exact aw_ireturn (w := [(h, .inr (3, [.int ru, .ref a, .int sz_])), (a, .inl (0, 21, .inl f_)), (c, .inr (2, [.int c0, .int c1_, .int c2_, .int c3_, .int c4, .int c5]))]) [0, 1, 2] gdX1_byPentagons_105.2.2.2.2.2 rfl rfl rfl rfl (PN.mk (fun _ => 0) rfl rfl)
      · refine aw_aload_n (q := 29) gdX1_byPentagons_24.2.2.1 rfl 0 rfl ?_
        refine aw_iload_n (q := 30) gdX1_byPentagons_24.2.2.2.1 rfl 1 rfl ?_
        refine aw_iload (q := 32) gdX1_byPentagons_24.2.2.2.2.1 rfl 5 rfl ?_
        refine aw_iconst (q := 33) (v := 3) gdX1_byPentagons_24.2.2.2.2.2.1 rfl (by decide) ?_
        refine aw_iload (q := 35) gdX1_byPentagons_24.2.2.2.2.2.2.1 rfl 5 rfl ?_
        refine aw_imul (q := 36) gdX1_byPentagons_24.2.2.2.2.2.2.2 rfl ?_
        refine aw_iconst (q := 37) (v := 1) gdX1_byPentagons_36.1 rfl (by decide) ?_
        refine aw_isub (q := 38) gdX1_byPentagons_36.2.1 rfl ?_
        refine aw_imul (q := 39) gdX1_byPentagons_36.2.2.1 rfl ?_
        refine aw_iconst (q := 40) (v := 2) gdX1_byPentagons_36.2.2.2.1 rfl (by decide) ?_
        refine aw_idivT (q := 41) gdX1_byPentagons_36.2.2.2.2.1 rfl (by decide) ?_
        refine aw_isub (q := 42) gdX1_byPentagons_36.2.2.2.2.2.1 rfl ?_
        refine aw_aload_n (q := 43) gdX1_byPentagons_36.2.2.2.2.2.2.1 rfl 2 rfl ?_
        refine aw_iload_n (q := 44) gdX1_byPentagons_36.2.2.2.2.2.2.2 rfl 3 rfl ?_
        refine aw_call (q := 47) (kc1 := 0) (ks1 := 0) (wc := [(h, .inr (3, [.int ru, .ref a, .int sz_])), (a, .inl (0, 21, .inl f_)), (c, .inr (2, [.int c0, .int c1_, .int c2_, .int c3_, .int c4, .int c5]))]) (wr := []) (st1 := fun x44 g44 => [.int x44.1]) (ws1 := fun x44 g44 => [(h, .inr (3, [.int ru, .ref a, .int x44.2.1])), (a, .inl (0, 21, .inl x44.2.2.1)), (c, .inr (2, [.int c0, .int x44.2.2.2.1, .int x44.2.2.2.2.1, .int x44.2.2.2.2.2, .int c4, .int c5]))]) (As := [.ref h, .int (p0 - ((l5 * (((3 : Int32) * l5) - (1 : Int32))) / (2 : Int32))), .ref c, .int p1]) [0, 1, 2] [] (fun _ => runV (q0 := 0) gdX1_byPentagons_44.1 mi_X1_worthKnown im_X1_worthKnown se_X1_worthKnown ml_X1_28 (by omega) rfl (Nat.le_of_ble_eq_true rfl) rfl rfl rfl rfl) (fun x9 h9 => hrec _ _ _ _ _ _ _ _ _ _ _ x9 h9) rfl rfl rfl rfl rfl (by decide +kernel) (by omega) (by omega) (fun _ _ => rfl) (fun _ _ => rfl) (fun x44 g44 => ?_)
        refine aw_istore (q := 49) (lv' := [(6, .int x44.1), (0, .ref h), (1, .int p0), (2, .ref c), (3, .int p1), (4, .int l4), (5, .int l5)]) gdX1_byPentagons_44.2.1 rfl (by decide) rfl ?_
        refine aw_iload (q := 51) gdX1_byPentagons_44.2.2.1 rfl 6 rfl ?_
        refine aw_iconst (q := 52) (v := 3) gdX1_byPentagons_44.2.2.2.1 rfl (by decide) ?_
        refine aw_iload (q := 54) gdX1_byPentagons_44.2.2.2.2.1 rfl 6 rfl ?_
        refine aw_imul (q := 55) gdX1_byPentagons_44.2.2.2.2.2.1 rfl ?_
        refine aw_iconst (q := 56) (v := 1) gdX1_byPentagons_44.2.2.2.2.2.2.1 rfl (by decide) ?_
        refine aw_iadd (q := 57) gdX1_byPentagons_44.2.2.2.2.2.2.2 rfl ?_
        refine aw_imul (q := 58) gdX1_byPentagons_57.1 rfl ?_
        refine aw_iconst (q := 59) (v := 2) gdX1_byPentagons_57.2.1 rfl (by decide) ?_
        refine aw_idivT (q := 60) gdX1_byPentagons_57.2.2.1 rfl (by decide) ?_
        refine aw_iload_n (q := 61) gdX1_byPentagons_57.2.2.2.1 rfl 2 rfl ?_
        refine aw_icmp_gt (tgt := 88) (q := 64) gdX1_byPentagons_57.2.2.2.2.1 (by decide) rfl (fun h_61 => ?_) (fun h_61 => ?_)
        · refine aw_locals (lv' := [(0, .ref h), (1, .int p0), (2, .ref c), (3, .int p1), (4, .int l4), (5, .int l5), (6, .int x44.1)]) [1, 2, 3, 4, 5, 6, 0] rfl ?_
          exact tX1_byPentagons_88 hrec ih _ _ _ _ _ _ _ _
        · refine aw_iload (q := 66) gdX1_byPentagons_57.2.2.2.2.2.1 rfl 0 rfl ?_
          refine aw_aload_n (q := 67) gdX1_byPentagons_57.2.2.2.2.2.2.1 rfl 1 rfl ?_
          refine aw_iload_n (q := 68) gdX1_byPentagons_57.2.2.2.2.2.2.2 rfl 2 rfl ?_
          refine aw_iload (q := 70) gdX1_byPentagons_68.1 rfl 6 rfl ?_
          refine aw_iconst (q := 71) (v := 3) gdX1_byPentagons_68.2.1 rfl (by decide) ?_
          refine aw_iload (q := 73) gdX1_byPentagons_68.2.2.1 rfl 6 rfl ?_
          refine aw_imul (q := 74) gdX1_byPentagons_68.2.2.2.1 rfl ?_
          refine aw_iconst (q := 75) (v := 1) gdX1_byPentagons_68.2.2.2.2.1 rfl (by decide) ?_
          refine aw_iadd (q := 76) gdX1_byPentagons_68.2.2.2.2.2.1 rfl ?_
          refine aw_imul (q := 77) gdX1_byPentagons_68.2.2.2.2.2.2.1 rfl ?_
          refine aw_iconst (q := 78) (v := 2) gdX1_byPentagons_68.2.2.2.2.2.2.2 rfl (by decide) ?_
          refine aw_idivT (q := 79) gdX1_byPentagons_78.1 rfl (by decide) ?_
          refine aw_isub (q := 80) gdX1_byPentagons_78.2.1 rfl ?_
          refine aw_aload_n (q := 81) gdX1_byPentagons_78.2.2.1 rfl 3 rfl ?_
          refine aw_iload_n (q := 82) gdX1_byPentagons_78.2.2.2.1 rfl 4 rfl ?_
          refine aw_call (q := 85) (kc1 := 0) (ks1 := 0) (wc := [(h, .inr (3, [.int ru, .ref a, .int x44.2.1])), (a, .inl (0, 21, .inl x44.2.2.1)), (c, .inr (2, [.int c0, .int x44.2.2.2.1, .int x44.2.2.2.2.1, .int x44.2.2.2.2.2, .int c4, .int c5]))]) (wr := []) (st1 := fun x82 g82 => [.int x82.1, .int x44.1]) (ws1 := fun x82 g82 => [(h, .inr (3, [.int ru, .ref a, .int x82.2.1])), (a, .inl (0, 21, .inl x82.2.2.1)), (c, .inr (2, [.int c0, .int x82.2.2.2.1, .int x82.2.2.2.2.1, .int x82.2.2.2.2.2, .int c4, .int c5]))]) (As := [.ref h, .int (p0 - ((l5 * (((3 : Int32) * l5) + (1 : Int32))) / (2 : Int32))), .ref c, .int p1]) [0, 1, 2] [] (fun _ => runV (q0 := 0) gdX1_byPentagons_78.2.2.2.2.1 mi_X1_worthKnown im_X1_worthKnown se_X1_worthKnown ml_X1_28 (by omega) rfl (Nat.le_of_ble_eq_true rfl) rfl rfl rfl rfl) (fun x9 h9 => hrec _ _ _ _ _ _ _ _ _ _ _ x9 h9) rfl rfl rfl rfl rfl (by decide +kernel) (by omega) (by omega) (fun _ _ => rfl) (fun _ _ => rfl) (fun x82 g82 => ?_)
          refine aw_iadd (q := 86) gdX1_byPentagons_78.2.2.2.2.2.1 rfl ?_
          refine aw_istore (q := 88) (lv' := [(6, .int (x44.1 + x82.1)), (0, .ref h), (1, .int p0), (2, .ref c), (3, .int p1), (4, .int l4), (5, .int l5)]) gdX1_byPentagons_78.2.2.2.2.2.2.1 rfl (by decide) rfl ?_
          refine aw_locals (lv' := [(0, .ref h), (1, .int p0), (2, .ref c), (3, .int p1), (4, .int l4), (5, .int l5), (6, .int (x44.1 + x82.1))]) [1, 2, 3, 4, 5, 6, 0] rfl ?_
          exact tX1_byPentagons_88 hrec ih _ _ _ _ _ _ _ _
def fX1_byPentagons (N K : Nat) (rec : Int32 → Int32 → (Nat → Int32) → Int32 → Int32 → Int32 → Int32 → Int32 → Int32 → Int32 → Int32 → Option (Int32 × Int32 × (Nat → Int32) × Int32 × Int32 × Int32)) (ru : Int32) (sz : Int32) (f : Nat → Int32) (c0 : Int32) (c1 : Int32) (c2 : Int32) (c3 : Int32) (c4 : Int32) (c5 : Int32) (p0 : Int32) (p1 : Int32) : Option (Int32 × Int32 × (Nat → Int32) × Int32 × Int32 × Int32) :=
  fX1_byPentagons_6 N K rec ru sz f c0 c1 c2 c3 c4 c5 p0 p1  N (0 : Int32) (1 : Int32) sz f c1 c2 c3
set_option maxHeartbeats 4000000 in
set_option maxRecDepth 100000 in
theorem ok_X1_byPentagons {N K : Nat} {h c a : Nat} {ru : Int32} {sz : Int32} {f : Nat → Int32} {c0 : Int32} {c1 : Int32} {c2 : Int32} {c3 : Int32} {c4 : Int32} {c5 : Int32} {p0 : Int32} {p1 : Int32} {rec : Int32 → Int32 → (Nat → Int32) → Int32 → Int32 → Int32 → Int32 → Int32 → Int32 → Int32 → Int32 → Option (Int32 × Int32 × (Nat → Int32) × Int32 × Int32 × Int32)} {dr : Nat} (hrec : ∀ (ru : Int32) (sz : Int32) (f : Nat → Int32) (c0 : Int32) (c1 : Int32) (c2 : Int32) (c3 : Int32) (c4 : Int32) (c5 : Int32) (p0 : Int32) (p1 : Int32) (xr : Int32 × Int32 × (Nat → Int32) × Int32 × Int32 × Int32), rec ru sz f c0 c1 c2 c3 c4 c5 p0 p1 = some xr → OkM yX1_worthKnown (.code yX1_worthKnown cX1_worthKnown 5 (some .int)) (dr) 0 0 [.ref h, .int p0, .ref c, .int p1] [(h, .inr (3, [.int ru, .ref a, .int sz])), (a, .inl (0, 21, .inl f)), (c, .inr (2, [.int c0, .int c1, .int c2, .int c3, .int c4, .int c5]))] ((PN (U := Int32 × Int32 × (Nat → Int32) × Int32 × Int32 × Int32) (fun zz _ => some (.int zz.1)) (fun zz ad => [(h, .inr (3, [.int ru, .ref a, .int zz.2.1])), (a, .inl (0, 21, .inl zz.2.2.1)), (c, .inr (2, [.int c0, .int zz.2.2.2.1, .int zz.2.2.2.2.1, .int zz.2.2.2.2.2, .int c4, .int c5]))])) xr)) {xr : Int32 × Int32 × (Nat → Int32) × Int32 × Int32 × Int32} (hE : fX1_byPentagons N K rec ru sz f c0 c1 c2 c3 c4 c5 p0 p1 = some xr) : OkM yX1_byPentagons (.code yX1_byPentagons cX1_byPentagons 7 (some .int)) (dr + 1) 0 0 [.ref h, .int p0, .ref c, .int p1] [(h, .inr (3, [.int ru, .ref a, .int sz])), (a, .inl (0, 21, .inl f)), (c, .inr (2, [.int c0, .int c1, .int c2, .int c3, .int c4, .int c5]))] ((PN (U := Int32 × Int32 × (Nat → Int32) × Int32 × Int32 × Int32) (fun zz _ => some (.int zz.1)) (fun zz ad => [(h, .inr (3, [.int ru, .ref a, .int zz.2.1])), (a, .inl (0, 21, .inl zz.2.2.1)), (c, .inr (2, [.int c0, .int zz.2.2.2.1, .int zz.2.2.2.2.1, .int zz.2.2.2.2.2, .int c4, .int c5]))])) xr) := by
  refine ok_of (by decide) (Nat.le_of_ble_eq_true rfl) hE ?_
  refine aw_locals (lv' := [(0, .ref h), (1, .int p0), (2, .ref c), (3, .int p1)]) [0, 1, 2, 3] rfl ?_
  refine aw_iconst (q := 1) (v := 0) gdX1_byPentagons_0.1 rfl (by decide) ?_
  refine aw_istore (q := 3) (lv' := [(4, .int (0 : Int32)), (0, .ref h), (1, .int p0), (2, .ref c), (3, .int p1)]) gdX1_byPentagons_0.2.1 rfl (by decide) rfl ?_
  refine aw_iconst (q := 4) (v := 1) gdX1_byPentagons_0.2.2.1 rfl (by decide) ?_
  refine aw_istore (q := 6) (lv' := [(5, .int (1 : Int32)), (4, .int (0 : Int32)), (0, .ref h), (1, .int p0), (2, .ref c), (3, .int p1)]) gdX1_byPentagons_0.2.2.2.1 rfl (by decide) rfl ?_
  refine aw_locals (lv' := [(0, .ref h), (1, .int p0), (2, .ref c), (3, .int p1), (4, .int (0 : Int32)), (5, .int (1 : Int32))]) [2, 3, 4, 5, 1, 0] rfl ?_
  exact tX1_byPentagons_6 hrec N _ _ _ _ _ _ _
def fX1_byDivisors_13 (N K : Nat) (rec : Int32 → Int32 → (Nat → Int32) → Int32 → Int32 → Int32 → Int32 → Int32 → Int32 → Int32 → Int32 → Option (Int32 × Int32 × (Nat → Int32) × Int32 × Int32 × Int32)) (ru : Int32) (sz : Int32) (f : Nat → Int32) (c0 : Int32) (c1 : Int32) (c2 : Int32) (c3 : Int32) (c4 : Int32) (c5 : Int32) (p0 : Int32) (p1 : Int32) : Nat → Int32 → Int32 → Int32 → (Nat → Int32) → Int32 → Int32 → Int32 → Option (Int32 × Int32 × (Nat → Int32) × Int32 × Int32 × Int32)
  | 0, _, _, _, _, _, _, _ => none
  | fu + 1, l4, l5, sz_, f_, c1_, c2_, c3_ =>
    (if p0 < l5 then (if p0 = 0 then none else (some ((l4 / p0), sz_, f_, c1_, c2_, c3_))) else ((rec ru sz_ f_ c0 c1_ c2_ c3_ c4 c5 (p0 - l5) p1).bind (fun x28 => ((fX1_sumOfDivisors N K ru x28.2.1 x28.2.2.1 l5).bind (fun x34 => fX1_byDivisors_13 N K rec ru sz f c0 c1 c2 c3 c4 c5 p0 p1  fu (l4 + (x28.1 * x34)) (l5 + (1 : Int32)) x28.2.1 x28.2.2.1 x28.2.2.2.1 x28.2.2.2.2.1 x28.2.2.2.2.2)))))
set_option maxHeartbeats 4000000 in
set_option maxRecDepth 100000 in
theorem tX1_byDivisors_13 {N K : Nat} {h c a : Nat} {ru : Int32} {sz : Int32} {f : Nat → Int32} {c0 : Int32} {c1 : Int32} {c2 : Int32} {c3 : Int32} {c4 : Int32} {c5 : Int32} {p0 : Int32} {p1 : Int32} {rec : Int32 → Int32 → (Nat → Int32) → Int32 → Int32 → Int32 → Int32 → Int32 → Int32 → Int32 → Int32 → Option (Int32 × Int32 × (Nat → Int32) × Int32 × Int32 × Int32)} {dr : Nat} (hrec : ∀ (ru : Int32) (sz : Int32) (f : Nat → Int32) (c0 : Int32) (c1 : Int32) (c2 : Int32) (c3 : Int32) (c4 : Int32) (c5 : Int32) (p0 : Int32) (p1 : Int32) (xr : Int32 × Int32 × (Nat → Int32) × Int32 × Int32 × Int32), rec ru sz f c0 c1 c2 c3 c4 c5 p0 p1 = some xr → OkM yX1_worthKnown (.code yX1_worthKnown cX1_worthKnown 5 (some .int)) (dr) 0 0 [.ref h, .int p0, .ref c, .int p1] [(h, .inr (3, [.int ru, .ref a, .int sz])), (a, .inl (0, 21, .inl f)), (c, .inr (2, [.int c0, .int c1, .int c2, .int c3, .int c4, .int c5]))] ((PN (U := Int32 × Int32 × (Nat → Int32) × Int32 × Int32 × Int32) (fun zz _ => some (.int zz.1)) (fun zz ad => [(h, .inr (3, [.int ru, .ref a, .int zz.2.1])), (a, .inl (0, 21, .inl zz.2.2.1)), (c, .inr (2, [.int c0, .int zz.2.2.2.1, .int zz.2.2.2.2.1, .int zz.2.2.2.2.2, .int c4, .int c5]))])) xr)) : ∀ (fu : Nat) (l4 : Int32) (l5 : Int32) (sz_ : Int32) (f_ : Nat → Int32) (c1_ : Int32) (c2_ : Int32) (c3_ : Int32), AW RX1 "byDivisors" cX1_byDivisors 6 (some .int) [] (fun _ _ => True) (dr + 1) (PN (U := Int32 × Int32 × (Nat → Int32) × Int32 × Int32 × Int32) (fun zz _ => some (.int zz.1)) (fun zz ad => [(h, .inr (3, [.int ru, .ref a, .int zz.2.1])), (a, .inl (0, 21, .inl zz.2.2.1)), (c, .inr (2, [.int c0, .int zz.2.2.2.1, .int zz.2.2.2.2.1, .int zz.2.2.2.2.2, .int c4, .int c5]))])) 0 0 (fX1_byDivisors_13 N K rec ru sz f c0 c1 c2 c3 c4 c5 p0 p1  fu l4 l5 sz_ f_ c1_ c2_ c3_) 13 [(0, .ref h), (1, .int p0), (2, .ref c), (3, .int p1), (4, .int l4), (5, .int l5)] [] [(h, .inr (3, [.int ru, .ref a, .int sz_])), (a, .inl (0, 21, .inl f_)), (c, .inr (2, [.int c0, .int c1_, .int c2_, .int c3_, .int c4, .int c5]))] := by
  intro fu
  induction fu with
  | zero => intro l4 l5 sz_ f_ c1_ c2_ c3_; exact aw_none
  | succ fu ih =>
    intro l4 l5 sz_ f_ c1_ c2_ c3_
    refine aw_iload (q := 15) gdX1_byDivisors_11.2.1 rfl 5 rfl ?_
    refine aw_iload_n (q := 16) gdX1_byDivisors_11.2.2.1 rfl 1 rfl ?_
    refine aw_icmp_gt (tgt := 47) (q := 19) gdX1_byDivisors_11.2.2.2.1 (by decide) rfl (fun h_16 => ?_) (fun h_16 => ?_)
    · refine aw_iload (q := 49) gdX1_byDivisors_38.2.2.2.2.1 rfl 4 rfl ?_
      refine aw_iload_n (q := 50) gdX1_byDivisors_38.2.2.2.2.2.1 rfl 1 rfl ?_
      refine aw_idiv (q := 51) gdX1_byDivisors_38.2.2.2.2.2.2.1 rfl ?_
      exact aw_ireturn (w := [(h, .inr (3, [.int ru, .ref a, .int sz_])), (a, .inl (0, 21, .inl f_)), (c, .inr (2, [.int c0, .int c1_, .int c2_, .int c3_, .int c4, .int c5]))]) [0, 1, 2] gdX1_byDivisors_38.2.2.2.2.2.2.2 rfl rfl rfl rfl (PN.mk (fun _ => 0) rfl rfl)
    · refine aw_iload (q := 21) gdX1_byDivisors_11.2.2.2.2.1 rfl 4 rfl ?_
      refine aw_aload_n (q := 22) gdX1_byDivisors_11.2.2.2.2.2.1 rfl 0 rfl ?_
      refine aw_iload_n (q := 23) gdX1_byDivisors_11.2.2.2.2.2.2.1 rfl 1 rfl ?_
      refine aw_iload (q := 25) gdX1_byDivisors_11.2.2.2.2.2.2.2 rfl 5 rfl ?_
      refine aw_isub (q := 26) gdX1_byDivisors_25.1 rfl ?_
      refine aw_aload_n (q := 27) gdX1_byDivisors_25.2.1 rfl 2 rfl ?_
      refine aw_iload_n (q := 28) gdX1_byDivisors_25.2.2.1 rfl 3 rfl ?_
      refine aw_call (q := 31) (kc1 := 0) (ks1 := 0) (wc := [(h, .inr (3, [.int ru, .ref a, .int sz_])), (a, .inl (0, 21, .inl f_)), (c, .inr (2, [.int c0, .int c1_, .int c2_, .int c3_, .int c4, .int c5]))]) (wr := []) (st1 := fun x28 g28 => [.int x28.1, .int l4]) (ws1 := fun x28 g28 => [(h, .inr (3, [.int ru, .ref a, .int x28.2.1])), (a, .inl (0, 21, .inl x28.2.2.1)), (c, .inr (2, [.int c0, .int x28.2.2.2.1, .int x28.2.2.2.2.1, .int x28.2.2.2.2.2, .int c4, .int c5]))]) (As := [.ref h, .int (p0 - l5), .ref c, .int p1]) [0, 1, 2] [] (fun _ => runV (q0 := 0) gdX1_byDivisors_25.2.2.2.1 mi_X1_worthKnown im_X1_worthKnown se_X1_worthKnown ml_X1_28 (by omega) rfl (Nat.le_of_ble_eq_true rfl) rfl rfl rfl rfl) (fun x9 h9 => hrec _ _ _ _ _ _ _ _ _ _ _ x9 h9) rfl rfl rfl rfl rfl (by decide +kernel) (by omega) (by omega) (fun _ _ => rfl) (fun _ _ => rfl) (fun x28 g28 => ?_)
      refine aw_aload_n (q := 32) gdX1_byDivisors_25.2.2.2.2.1 rfl 0 rfl ?_
      refine aw_iload (q := 34) gdX1_byDivisors_25.2.2.2.2.2.1 rfl 5 rfl ?_
      refine aw_call (q := 37) (kc1 := 0) (ks1 := 0) (wc := [(h, .inr (3, [.int ru, .ref a, .int x28.2.1])), (a, .inl (0, 21, .inl x28.2.2.1))]) (wr := [(c, .inr (2, [.int c0, .int x28.2.2.2.1, .int x28.2.2.2.2.1, .int x28.2.2.2.2.2, .int c4, .int c5]))]) (st1 := fun x34 g34 => [.int x34, .int x28.1, .int l4]) (ws1 := fun x34 g34 => [(c, .inr (2, [.int c0, .int x28.2.2.2.1, .int x28.2.2.2.2.1, .int x28.2.2.2.2.2, .int c4, .int c5])), (h, .inr (3, [.int ru, .ref a, .int x28.2.1])), (a, .inl (0, 21, .inl x28.2.2.1))]) (As := [.ref h, .int l5]) [0, 1] [2] (fun _ => runV (q0 := 0) gdX1_byDivisors_25.2.2.2.2.2.2.1 mi_X1_sumOfDivisors im_X1_sumOfDivisors se_X1_sumOfDivisors ml_X1_49 (by omega) rfl (Nat.le_of_ble_eq_true rfl) rfl rfl rfl rfl) (fun x9 h9 => ok_X1_sumOfDivisors h9) rfl rfl rfl rfl rfl (by decide +kernel) (by omega) (by omega) (fun _ _ => rfl) (fun _ _ => rfl) (fun x34 g34 => ?_)
      refine aw_imul (q := 38) gdX1_byDivisors_25.2.2.2.2.2.2.2 rfl ?_
      refine aw_iadd (q := 39) gdX1_byDivisors_38.1 rfl ?_
      refine aw_istore (q := 41) (lv' := [(4, .int (l4 + (x28.1 * x34))), (0, .ref h), (1, .int p0), (2, .ref c), (3, .int p1), (5, .int l5)]) gdX1_byDivisors_38.2.1 rfl (by decide) rfl ?_
      refine aw_iinc (q := 44) (v := (l5 + (1 : Int32))) (lv' := [(5, .int (l5 + (1 : Int32))), (4, .int (l4 + (x28.1 * x34))), (0, .ref h), (1, .int p0), (2, .ref c), (3, .int p1)]) gdX1_byDivisors_38.2.2.1 rfl 5 rfl rfl (by decide) rfl ?_
      refine aw_goto (tgt := 13) gdX1_byDivisors_38.2.2.2.1 (by decide) ?_
      refine aw_locals (lv' := [(0, .ref h), (1, .int p0), (2, .ref c), (3, .int p1), (4, .int (l4 + (x28.1 * x34))), (5, .int (l5 + (1 : Int32)))]) [2, 3, 4, 5, 1, 0] rfl ?_
      refine aw_world (ws' := [(h, .inr (3, [.int ru, .ref a, .int x28.2.1])), (a, .inl (0, 21, .inl x28.2.2.1)), (c, .inr (2, [.int c0, .int x28.2.2.2.1, .int x28.2.2.2.2.1, .int x28.2.2.2.2.2, .int c4, .int c5]))]) [1, 2, 0] rfl rfl ?_
      exact ih _ _ _ _ _ _ _
def fX1_byDivisors (N K : Nat) (rec : Int32 → Int32 → (Nat → Int32) → Int32 → Int32 → Int32 → Int32 → Int32 → Int32 → Int32 → Int32 → Option (Int32 × Int32 × (Nat → Int32) × Int32 × Int32 × Int32)) (ru : Int32) (sz : Int32) (f : Nat → Int32) (c0 : Int32) (c1 : Int32) (c2 : Int32) (c3 : Int32) (c4 : Int32) (c5 : Int32) (p0 : Int32) (p1 : Int32) : Option (Int32 × Int32 × (Nat → Int32) × Int32 × Int32 × Int32) :=
  (if (1 : Int32) ≤ p0 then fX1_byDivisors_13 N K rec ru sz f c0 c1 c2 c3 c4 c5 p0 p1  N (0 : Int32) (1 : Int32) sz f c1 c2 c3 else (some ((0 : Int32), sz, f, c1, c2, c3)))
set_option maxHeartbeats 4000000 in
set_option maxRecDepth 100000 in
theorem ok_X1_byDivisors {N K : Nat} {h c a : Nat} {ru : Int32} {sz : Int32} {f : Nat → Int32} {c0 : Int32} {c1 : Int32} {c2 : Int32} {c3 : Int32} {c4 : Int32} {c5 : Int32} {p0 : Int32} {p1 : Int32} {rec : Int32 → Int32 → (Nat → Int32) → Int32 → Int32 → Int32 → Int32 → Int32 → Int32 → Int32 → Int32 → Option (Int32 × Int32 × (Nat → Int32) × Int32 × Int32 × Int32)} {dr : Nat} (hrec : ∀ (ru : Int32) (sz : Int32) (f : Nat → Int32) (c0 : Int32) (c1 : Int32) (c2 : Int32) (c3 : Int32) (c4 : Int32) (c5 : Int32) (p0 : Int32) (p1 : Int32) (xr : Int32 × Int32 × (Nat → Int32) × Int32 × Int32 × Int32), rec ru sz f c0 c1 c2 c3 c4 c5 p0 p1 = some xr → OkM yX1_worthKnown (.code yX1_worthKnown cX1_worthKnown 5 (some .int)) (dr) 0 0 [.ref h, .int p0, .ref c, .int p1] [(h, .inr (3, [.int ru, .ref a, .int sz])), (a, .inl (0, 21, .inl f)), (c, .inr (2, [.int c0, .int c1, .int c2, .int c3, .int c4, .int c5]))] ((PN (U := Int32 × Int32 × (Nat → Int32) × Int32 × Int32 × Int32) (fun zz _ => some (.int zz.1)) (fun zz ad => [(h, .inr (3, [.int ru, .ref a, .int zz.2.1])), (a, .inl (0, 21, .inl zz.2.2.1)), (c, .inr (2, [.int c0, .int zz.2.2.2.1, .int zz.2.2.2.2.1, .int zz.2.2.2.2.2, .int c4, .int c5]))])) xr)) {xr : Int32 × Int32 × (Nat → Int32) × Int32 × Int32 × Int32} (hE : fX1_byDivisors N K rec ru sz f c0 c1 c2 c3 c4 c5 p0 p1 = some xr) : OkM yX1_byDivisors (.code yX1_byDivisors cX1_byDivisors 6 (some .int)) (dr + 1) 0 0 [.ref h, .int p0, .ref c, .int p1] [(h, .inr (3, [.int ru, .ref a, .int sz])), (a, .inl (0, 21, .inl f)), (c, .inr (2, [.int c0, .int c1, .int c2, .int c3, .int c4, .int c5]))] ((PN (U := Int32 × Int32 × (Nat → Int32) × Int32 × Int32 × Int32) (fun zz _ => some (.int zz.1)) (fun zz ad => [(h, .inr (3, [.int ru, .ref a, .int zz.2.1])), (a, .inl (0, 21, .inl zz.2.2.1)), (c, .inr (2, [.int c0, .int zz.2.2.2.1, .int zz.2.2.2.2.1, .int zz.2.2.2.2.2, .int c4, .int c5]))])) xr) := by
  refine ok_of (by decide) (Nat.le_of_ble_eq_true rfl) hE ?_
  refine aw_locals (lv' := [(0, .ref h), (1, .int p0), (2, .ref c), (3, .int p1)]) [0, 1, 2, 3] rfl ?_
  refine aw_iload_n (q := 1) gdX1_byDivisors_0.1 rfl 1 rfl ?_
  refine aw_iconst (q := 2) (v := 1) gdX1_byDivisors_0.2.1 rfl (by decide) ?_
  refine aw_icmp_ge (tgt := 7) (q := 5) gdX1_byDivisors_0.2.2.1 (by decide) rfl (fun h_2 => ?_) (fun h_2 => ?_)
  · refine aw_iconst (q := 8) (v := 0) gdX1_byDivisors_0.2.2.2.2.2.1 rfl (by decide) ?_
    refine aw_istore (q := 10) (lv' := [(4, .int (0 : Int32)), (0, .ref h), (1, .int p0), (2, .ref c), (3, .int p1)]) gdX1_byDivisors_0.2.2.2.2.2.2.1 rfl (by decide) rfl ?_
    refine aw_iconst (q := 11) (v := 1) gdX1_byDivisors_0.2.2.2.2.2.2.2 rfl (by decide) ?_
    refine aw_istore (q := 13) (lv' := [(5, .int (1 : Int32)), (4, .int (0 : Int32)), (0, .ref h), (1, .int p0), (2, .ref c), (3, .int p1)]) gdX1_byDivisors_11.1 rfl (by decide) rfl ?_
    refine aw_locals (lv' := [(0, .ref h), (1, .int p0), (2, .ref c), (3, .int p1), (4, .int (0 : Int32)), (5, .int (1 : Int32))]) [2, 3, 4, 5, 1, 0] rfl ?_
    exact tX1_byDivisors_13 hrec N _ _ _ _ _ _ _
  · refine aw_iconst (q := 6) (v := 0) gdX1_byDivisors_0.2.2.2.1 rfl (by decide) ?_
    exact aw_ireturn (w := [(h, .inr (3, [.int ru, .ref a, .int sz])), (a, .inl (0, 21, .inl f)), (c, .inr (2, [.int c0, .int c1, .int c2, .int c3, .int c4, .int c5]))]) [0, 1, 2] gdX1_byDivisors_0.2.2.2.2.1 rfl rfl rfl rfl (PN.mk (fun _ => 0) rfl rfl)
def fX1_worthKnown (N K : Nat) : Nat → Int32 → Int32 → (Nat → Int32) → Int32 → Int32 → Int32 → Int32 → Int32 → Int32 → Int32 → Int32 → Option (Int32 × Int32 × (Nat → Int32) × Int32 × Int32 × Int32)
  | 0, _, _, _, _, _, _, _, _, _, _, _ => none
  | k + 1, ru, sz, f, c0, c1, c2, c3, c4, c5, p0, p1 =>
    (if p0 = 0 then (some ((1 : Int32), sz, f, c1, c2, c3)) else (if p0 < 0 then (some ((0 : Int32), sz, f, c1, c2, c3)) else (if (20 : Int32) < p0 then (some ((0 : Int32), sz, f, c1, c2, c3)) else (if p1 ≤ (45 : Int32) then (if p0 < 0 ∨ 21 ≤ p0.toNatClampNeg then none else (if (f p0.toNatClampNeg) = (-1 : Int32) then (if ru = 0 then ((fX1_byPentagons N K (fX1_worthKnown N K k) ru sz f c0 (c1 + (1 : Int32)) c2 c3 c4 c5 p0 (p1 + (1 : Int32))).bind (fun x74 => (if p0 < 0 ∨ 21 ≤ p0.toNatClampNeg then none else (some (x74.1, (x74.2.1 + (1 : Int32)), (upd x74.2.2.1 p0.toNatClampNeg x74.1), x74.2.2.2.1, (x74.2.2.2.2.1 + (1 : Int32)), x74.2.2.2.2.2))))) else ((fX1_byDivisors N K (fX1_worthKnown N K k) ru sz f c0 (c1 + (1 : Int32)) c2 c3 c4 c5 p0 (p1 + (1 : Int32))).bind (fun x86 => (if p0 < 0 ∨ 21 ≤ p0.toNatClampNeg then none else (some (x86.1, (x86.2.1 + (1 : Int32)), (upd x86.2.2.1 p0.toNatClampNeg x86.1), x86.2.2.2.1, (x86.2.2.2.2.1 + (1 : Int32)), x86.2.2.2.2.2)))))) else (if p0 < 0 ∨ 21 ≤ p0.toNatClampNeg then none else (some ((f p0.toNatClampNeg), sz, f, (c1 + (1 : Int32)), c2, (c3 + (1 : Int32))))))) else (some ((0 : Int32), sz, f, c1, c2, c3))))))
set_option maxHeartbeats 4000000 in
set_option maxRecDepth 100000 in
theorem ok_X1_worthKnown {N K : Nat} : ∀ (k : Nat) (h c a : Nat) (ru : Int32) (sz : Int32) (f : Nat → Int32) (c0 : Int32) (c1 : Int32) (c2 : Int32) (c3 : Int32) (c4 : Int32) (c5 : Int32) (p0 : Int32) (p1 : Int32) (xr : Int32 × Int32 × (Nat → Int32) × Int32 × Int32 × Int32), fX1_worthKnown N K k ru sz f c0 c1 c2 c3 c4 c5 p0 p1 = some xr → OkM yX1_worthKnown (.code yX1_worthKnown cX1_worthKnown 5 (some .int)) (2 * k + 4) 0 0 [.ref h, .int p0, .ref c, .int p1] [(h, .inr (3, [.int ru, .ref a, .int sz])), (a, .inl (0, 21, .inl f)), (c, .inr (2, [.int c0, .int c1, .int c2, .int c3, .int c4, .int c5]))] ((PN (U := Int32 × Int32 × (Nat → Int32) × Int32 × Int32 × Int32) (fun zz _ => some (.int zz.1)) (fun zz ad => [(h, .inr (3, [.int ru, .ref a, .int zz.2.1])), (a, .inl (0, 21, .inl zz.2.2.1)), (c, .inr (2, [.int c0, .int zz.2.2.2.1, .int zz.2.2.2.2.1, .int zz.2.2.2.2.2, .int c4, .int c5]))])) xr) := by
  intro k
  induction k with
  | zero => intro h c a ru sz f c0 c1 c2 c3 c4 c5 p0 p1 xr hE; cases hE
  | succ k ih =>
    intro h c a ru sz f c0 c1 c2 c3 c4 c5 p0 p1 xr hE
    refine ok_of (by decide) (Nat.le_of_ble_eq_true rfl) hE ?_
    refine aw_locals (lv' := [(0, .ref h), (1, .int p0), (2, .ref c), (3, .int p1)]) [0, 1, 2, 3] rfl ?_
    refine aw_iload_n (q := 1) gdX1_worthKnown_0.1 rfl 1 rfl ?_
    refine aw_if_ne (tgt := 6) (q := 4) gdX1_worthKnown_0.2.1 (by decide) rfl (fun h_1 => ?_) (fun h_1 => ?_)
    · refine aw_iload_n (q := 7) gdX1_worthKnown_0.2.2.2.2.1 rfl 1 rfl ?_
      refine aw_if_lt (tgt := 22) (q := 10) gdX1_worthKnown_0.2.2.2.2.2.1 (by decide) rfl (fun h_7 => ?_) (fun h_7 => ?_)
      · refine aw_iconst (q := 23) (v := 0) gdX1_worthKnown_13.2.2.2.2.1 rfl (by decide) ?_
        exact aw_ireturn (w := [(h, .inr (3, [.int ru, .ref a, .int sz])), (a, .inl (0, 21, .inl f)), (c, .inr (2, [.int c0, .int c1, .int c2, .int c3, .int c4, .int c5]))]) [0, 1, 2] gdX1_worthKnown_13.2.2.2.2.2.1 rfl rfl rfl rfl (PN.mk (fun _ => 0) rfl rfl)
      · refine aw_iload_n (q := 11) gdX1_worthKnown_0.2.2.2.2.2.2.1 rfl 1 rfl ?_
        refine aw_bipush (q := 13) (v := 20) gdX1_worthKnown_0.2.2.2.2.2.2.2 rfl (by decide) ?_
        refine aw_icmp_gt (tgt := 22) (q := 16) gdX1_worthKnown_13.1 (by decide) rfl (fun h_13 => ?_) (fun h_13 => ?_)
        · refine aw_iconst (q := 23) (v := 0) gdX1_worthKnown_13.2.2.2.2.1 rfl (by decide) ?_
          exact aw_ireturn (w := [(h, .inr (3, [.int ru, .ref a, .int sz])), (a, .inl (0, 21, .inl f)), (c, .inr (2, [.int c0, .int c1, .int c2, .int c3, .int c4, .int c5]))]) [0, 1, 2] gdX1_worthKnown_13.2.2.2.2.2.1 rfl rfl rfl rfl (PN.mk (fun _ => 0) rfl rfl)
        · refine aw_iload_n (q := 17) gdX1_worthKnown_13.2.1 rfl 3 rfl ?_
          refine aw_bipush (q := 19) (v := 45) gdX1_worthKnown_13.2.2.1 rfl (by decide) ?_
          refine aw_icmp_le (tgt := 24) (q := 22) gdX1_worthKnown_13.2.2.2.1 (by decide) rfl (fun h_19 => ?_) (fun h_19 => ?_)
          · refine aw_aload_n (q := 25) gdX1_worthKnown_13.2.2.2.2.2.2.1 rfl 2 rfl ?_
            refine aw_dup (q := 26) gdX1_worthKnown_13.2.2.2.2.2.2.2 rfl rfl ?_
            refine aw_get (q := 29) gdX1_worthKnown_26.1 rfl fl_X1_32 2 rfl rfl ?_
            refine aw_iconst (q := 30) (v := 1) gdX1_worthKnown_26.2.1 rfl (by decide) ?_
            refine aw_iadd (q := 31) gdX1_worthKnown_26.2.2.1 rfl ?_
            refine aw_put (q := 34) (ws' := [(h, .inr (3, [.int ru, .ref a, .int sz])), (a, .inl (0, 21, .inl f)), (c, .inr (2, [.int c0, .int (c1 + (1 : Int32)), .int c2, .int c3, .int c4, .int c5]))]) gdX1_worthKnown_26.2.2.2.1 rfl fl_X1_32 2 rfl rfl rfl (Nat.le_of_ble_eq_true rfl) rfl ?_
            refine aw_aload_n (q := 35) gdX1_worthKnown_26.2.2.2.2.1 rfl 0 rfl ?_
            refine aw_get (q := 38) gdX1_worthKnown_26.2.2.2.2.2.1 rfl fl_X1_9 0 rfl rfl ?_
            refine aw_iload_n (q := 39) gdX1_worthKnown_26.2.2.2.2.2.2.1 rfl 1 rfl ?_
            refine aw_iald (q := 40) gdX1_worthKnown_26.2.2.2.2.2.2.2 rfl 1 rfl ?_
            refine aw_iconst (q := 41) (v := (-1)) gdX1_worthKnown_40.1 rfl (by decide) ?_
            refine aw_icmp_eq (tgt := 61) (q := 44) gdX1_worthKnown_40.2.1 (by decide) rfl (fun h_41 => ?_) (fun h_41 => ?_)
            · refine aw_aload_n (q := 62) gdX1_worthKnown_54.2.2.2.2.2.1 rfl 0 rfl ?_
              refine aw_get (q := 65) gdX1_worthKnown_54.2.2.2.2.2.2.1 rfl fl_X1_15 0 rfl rfl ?_
              refine aw_if_ne (tgt := 80) (q := 68) gdX1_worthKnown_54.2.2.2.2.2.2.2 (by decide) rfl (fun h_65 => ?_) (fun h_65 => ?_)
              · refine aw_aload_n (q := 81) gdX1_worthKnown_80.1 rfl 0 rfl ?_
                refine aw_iload_n (q := 82) gdX1_worthKnown_80.2.1 rfl 1 rfl ?_
                refine aw_aload_n (q := 83) gdX1_worthKnown_80.2.2.1 rfl 2 rfl ?_
                refine aw_iload_n (q := 84) gdX1_worthKnown_80.2.2.2.1 rfl 3 rfl ?_
                refine aw_iconst (q := 85) (v := 1) gdX1_worthKnown_80.2.2.2.2.1 rfl (by decide) ?_
                refine aw_iadd (q := 86) gdX1_worthKnown_80.2.2.2.2.2.1 rfl ?_
                refine aw_call (q := 89) (kc1 := 0) (ks1 := 0) (wc := [(h, .inr (3, [.int ru, .ref a, .int sz])), (a, .inl (0, 21, .inl f)), (c, .inr (2, [.int c0, .int (c1 + (1 : Int32)), .int c2, .int c3, .int c4, .int c5]))]) (wr := []) (st1 := fun x86 g86 => [.int x86.1]) (ws1 := fun x86 g86 => [(h, .inr (3, [.int ru, .ref a, .int x86.2.1])), (a, .inl (0, 21, .inl x86.2.2.1)), (c, .inr (2, [.int c0, .int x86.2.2.2.1, .int x86.2.2.2.2.1, .int x86.2.2.2.2.2, .int c4, .int c5]))]) (As := [.ref h, .int p0, .ref c, .int (p1 + (1 : Int32))]) [0, 1, 2] [] (fun _ => runV (q0 := 0) gdX1_worthKnown_80.2.2.2.2.2.2.1 mi_X1_byDivisors im_X1_byDivisors se_X1_byDivisors ml_X1_43 (by omega) rfl (Nat.le_of_ble_eq_true rfl) rfl rfl rfl rfl) (fun x9 h9 => ok_X1_byDivisors (fun _ _ _ _ _ _ _ _ _ _ _ x8 h8 => ih _ _ _ _ _ _ _ _ _ _ _ _ _ _ x8 h8) h9) rfl rfl rfl rfl rfl (by decide +kernel) (by omega) (by omega) (fun _ _ => rfl) (fun _ _ => rfl) (fun x86 g86 => ?_)
                refine aw_istore (q := 91) (lv' := [(4, .int x86.1), (0, .ref h), (1, .int p0), (2, .ref c), (3, .int p1)]) gdX1_worthKnown_80.2.2.2.2.2.2.2 rfl (by decide) rfl ?_
                refine aw_aload_n (q := 92) gdX1_worthKnown_91.1 rfl 1 rfl ?_
                refine aw_get (q := 95) gdX1_worthKnown_91.2.1 rfl fl_X1_9 0 rfl rfl ?_
                refine aw_iload_n (q := 96) gdX1_worthKnown_91.2.2.1 rfl 2 rfl ?_
                refine aw_iload (q := 98) gdX1_worthKnown_91.2.2.2.1 rfl 0 rfl ?_
                refine aw_iast (q := 99) (ws' := [(h, .inr (3, [.int ru, .ref a, .int x86.2.1])), (a, .inl (0, 21, .inl (upd x86.2.2.1 p0.toNatClampNeg x86.1))), (c, .inr (2, [.int c0, .int x86.2.2.2.1, .int x86.2.2.2.2.1, .int x86.2.2.2.2.2, .int c4, .int c5]))]) gdX1_worthKnown_91.2.2.2.2.1 rfl 1 rfl rfl ?_
                refine aw_aload_n (q := 100) gdX1_worthKnown_91.2.2.2.2.2.1 rfl 1 rfl ?_
                refine aw_dup (q := 101) gdX1_worthKnown_91.2.2.2.2.2.2.1 rfl rfl ?_
                refine aw_get (q := 104) gdX1_worthKnown_91.2.2.2.2.2.2.2 rfl fl_X1_25 0 rfl rfl ?_
                refine aw_iconst (q := 105) (v := 1) gdX1_worthKnown_104.1 rfl (by decide) ?_
                refine aw_iadd (q := 106) gdX1_worthKnown_104.2.1 rfl ?_
                refine aw_put (q := 109) (ws' := [(h, .inr (3, [.int ru, .ref a, .int (x86.2.1 + (1 : Int32))])), (a, .inl (0, 21, .inl (upd x86.2.2.1 p0.toNatClampNeg x86.1))), (c, .inr (2, [.int c0, .int x86.2.2.2.1, .int x86.2.2.2.2.1, .int x86.2.2.2.2.2, .int c4, .int c5]))]) gdX1_worthKnown_104.2.2.1 rfl fl_X1_25 0 rfl rfl rfl (Nat.le_of_ble_eq_true rfl) rfl ?_
                refine aw_aload_n (q := 110) gdX1_worthKnown_104.2.2.2.1 rfl 3 rfl ?_
                refine aw_dup (q := 111) gdX1_worthKnown_104.2.2.2.2.1 rfl rfl ?_
                refine aw_get (q := 114) gdX1_worthKnown_104.2.2.2.2.2.1 rfl fl_X1_46 2 rfl rfl ?_
                refine aw_iconst (q := 115) (v := 1) gdX1_worthKnown_104.2.2.2.2.2.2.1 rfl (by decide) ?_
                refine aw_iadd (q := 116) gdX1_worthKnown_104.2.2.2.2.2.2.2 rfl ?_
                refine aw_put (q := 119) (ws' := [(h, .inr (3, [.int ru, .ref a, .int (x86.2.1 + (1 : Int32))])), (a, .inl (0, 21, .inl (upd x86.2.2.1 p0.toNatClampNeg x86.1))), (c, .inr (2, [.int c0, .int x86.2.2.2.1, .int (x86.2.2.2.2.1 + (1 : Int32)), .int x86.2.2.2.2.2, .int c4, .int c5]))]) gdX1_worthKnown_116.1 rfl fl_X1_46 2 rfl rfl rfl (Nat.le_of_ble_eq_true rfl) rfl ?_
                refine aw_iload (q := 121) gdX1_worthKnown_116.2.1 rfl 0 rfl ?_
                exact aw_ireturn (w := [(h, .inr (3, [.int ru, .ref a, .int (x86.2.1 + (1 : Int32))])), (a, .inl (0, 21, .inl (upd x86.2.2.1 p0.toNatClampNeg x86.1))), (c, .inr (2, [.int c0, .int x86.2.2.2.1, .int (x86.2.2.2.2.1 + (1 : Int32)), .int x86.2.2.2.2.2, .int c4, .int c5]))]) [0, 1, 2] gdX1_worthKnown_116.2.2 rfl rfl rfl rfl (PN.mk (fun _ => 0) rfl rfl)
              · refine aw_aload_n (q := 69) gdX1_worthKnown_68.1 rfl 0 rfl ?_
                refine aw_iload_n (q := 70) gdX1_worthKnown_68.2.1 rfl 1 rfl ?_
                refine aw_aload_n (q := 71) gdX1_worthKnown_68.2.2.1 rfl 2 rfl ?_
                refine aw_iload_n (q := 72) gdX1_worthKnown_68.2.2.2.1 rfl 3 rfl ?_
                refine aw_iconst (q := 73) (v := 1) gdX1_worthKnown_68.2.2.2.2.1 rfl (by decide) ?_
                refine aw_iadd (q := 74) gdX1_worthKnown_68.2.2.2.2.2.1 rfl ?_
                refine aw_call (q := 77) (kc1 := 0) (ks1 := 0) (wc := [(h, .inr (3, [.int ru, .ref a, .int sz])), (a, .inl (0, 21, .inl f)), (c, .inr (2, [.int c0, .int (c1 + (1 : Int32)), .int c2, .int c3, .int c4, .int c5]))]) (wr := []) (st1 := fun x74 g74 => [.int x74.1]) (ws1 := fun x74 g74 => [(h, .inr (3, [.int ru, .ref a, .int x74.2.1])), (a, .inl (0, 21, .inl x74.2.2.1)), (c, .inr (2, [.int c0, .int x74.2.2.2.1, .int x74.2.2.2.2.1, .int x74.2.2.2.2.2, .int c4, .int c5]))]) (As := [.ref h, .int p0, .ref c, .int (p1 + (1 : Int32))]) [0, 1, 2] [] (fun _ => runV (q0 := 0) gdX1_worthKnown_68.2.2.2.2.2.2.1 mi_X1_byPentagons im_X1_byPentagons se_X1_byPentagons ml_X1_40 (by omega) rfl (Nat.le_of_ble_eq_true rfl) rfl rfl rfl rfl) (fun x9 h9 => ok_X1_byPentagons (fun _ _ _ _ _ _ _ _ _ _ _ x8 h8 => ih _ _ _ _ _ _ _ _ _ _ _ _ _ _ x8 h8) h9) rfl rfl rfl rfl rfl (by decide +kernel) (by omega) (by omega) (fun _ _ => rfl) (fun _ _ => rfl) (fun x74 g74 => ?_)
                refine aw_goto (tgt := 89) gdX1_worthKnown_68.2.2.2.2.2.2.2 (by decide) ?_
                refine aw_istore (q := 91) (lv' := [(4, .int x74.1), (0, .ref h), (1, .int p0), (2, .ref c), (3, .int p1)]) gdX1_worthKnown_80.2.2.2.2.2.2.2 rfl (by decide) rfl ?_
                refine aw_aload_n (q := 92) gdX1_worthKnown_91.1 rfl 1 rfl ?_
                refine aw_get (q := 95) gdX1_worthKnown_91.2.1 rfl fl_X1_9 0 rfl rfl ?_
                refine aw_iload_n (q := 96) gdX1_worthKnown_91.2.2.1 rfl 2 rfl ?_
                refine aw_iload (q := 98) gdX1_worthKnown_91.2.2.2.1 rfl 0 rfl ?_
                refine aw_iast (q := 99) (ws' := [(h, .inr (3, [.int ru, .ref a, .int x74.2.1])), (a, .inl (0, 21, .inl (upd x74.2.2.1 p0.toNatClampNeg x74.1))), (c, .inr (2, [.int c0, .int x74.2.2.2.1, .int x74.2.2.2.2.1, .int x74.2.2.2.2.2, .int c4, .int c5]))]) gdX1_worthKnown_91.2.2.2.2.1 rfl 1 rfl rfl ?_
                refine aw_aload_n (q := 100) gdX1_worthKnown_91.2.2.2.2.2.1 rfl 1 rfl ?_
                refine aw_dup (q := 101) gdX1_worthKnown_91.2.2.2.2.2.2.1 rfl rfl ?_
                refine aw_get (q := 104) gdX1_worthKnown_91.2.2.2.2.2.2.2 rfl fl_X1_25 0 rfl rfl ?_
                refine aw_iconst (q := 105) (v := 1) gdX1_worthKnown_104.1 rfl (by decide) ?_
                refine aw_iadd (q := 106) gdX1_worthKnown_104.2.1 rfl ?_
                refine aw_put (q := 109) (ws' := [(h, .inr (3, [.int ru, .ref a, .int (x74.2.1 + (1 : Int32))])), (a, .inl (0, 21, .inl (upd x74.2.2.1 p0.toNatClampNeg x74.1))), (c, .inr (2, [.int c0, .int x74.2.2.2.1, .int x74.2.2.2.2.1, .int x74.2.2.2.2.2, .int c4, .int c5]))]) gdX1_worthKnown_104.2.2.1 rfl fl_X1_25 0 rfl rfl rfl (Nat.le_of_ble_eq_true rfl) rfl ?_
                refine aw_aload_n (q := 110) gdX1_worthKnown_104.2.2.2.1 rfl 3 rfl ?_
                refine aw_dup (q := 111) gdX1_worthKnown_104.2.2.2.2.1 rfl rfl ?_
                refine aw_get (q := 114) gdX1_worthKnown_104.2.2.2.2.2.1 rfl fl_X1_46 2 rfl rfl ?_
                refine aw_iconst (q := 115) (v := 1) gdX1_worthKnown_104.2.2.2.2.2.2.1 rfl (by decide) ?_
                refine aw_iadd (q := 116) gdX1_worthKnown_104.2.2.2.2.2.2.2 rfl ?_
                refine aw_put (q := 119) (ws' := [(h, .inr (3, [.int ru, .ref a, .int (x74.2.1 + (1 : Int32))])), (a, .inl (0, 21, .inl (upd x74.2.2.1 p0.toNatClampNeg x74.1))), (c, .inr (2, [.int c0, .int x74.2.2.2.1, .int (x74.2.2.2.2.1 + (1 : Int32)), .int x74.2.2.2.2.2, .int c4, .int c5]))]) gdX1_worthKnown_116.1 rfl fl_X1_46 2 rfl rfl rfl (Nat.le_of_ble_eq_true rfl) rfl ?_
                refine aw_iload (q := 121) gdX1_worthKnown_116.2.1 rfl 0 rfl ?_
                exact aw_ireturn (w := [(h, .inr (3, [.int ru, .ref a, .int (x74.2.1 + (1 : Int32))])), (a, .inl (0, 21, .inl (upd x74.2.2.1 p0.toNatClampNeg x74.1))), (c, .inr (2, [.int c0, .int x74.2.2.2.1, .int (x74.2.2.2.2.1 + (1 : Int32)), .int x74.2.2.2.2.2, .int c4, .int c5]))]) [0, 1, 2] gdX1_worthKnown_116.2.2 rfl rfl rfl rfl (PN.mk (fun _ => 0) rfl rfl)
            · refine aw_aload_n (q := 45) gdX1_worthKnown_40.2.2.1 rfl 2 rfl ?_
              refine aw_dup (q := 46) gdX1_worthKnown_40.2.2.2.1 rfl rfl ?_
              refine aw_get (q := 49) gdX1_worthKnown_40.2.2.2.2.1 rfl fl_X1_37 2 rfl rfl ?_
              refine aw_iconst (q := 50) (v := 1) gdX1_worthKnown_40.2.2.2.2.2.1 rfl (by decide) ?_
              refine aw_iadd (q := 51) gdX1_worthKnown_40.2.2.2.2.2.2.1 rfl ?_
              refine aw_put (q := 54) (ws' := [(h, .inr (3, [.int ru, .ref a, .int sz])), (a, .inl (0, 21, .inl f)), (c, .inr (2, [.int c0, .int (c1 + (1 : Int32)), .int c2, .int (c3 + (1 : Int32)), .int c4, .int c5]))]) gdX1_worthKnown_40.2.2.2.2.2.2.2 rfl fl_X1_37 2 rfl rfl rfl (Nat.le_of_ble_eq_true rfl) rfl ?_
              refine aw_aload_n (q := 55) gdX1_worthKnown_54.1 rfl 0 rfl ?_
              refine aw_get (q := 58) gdX1_worthKnown_54.2.1 rfl fl_X1_9 0 rfl rfl ?_
              refine aw_iload_n (q := 59) gdX1_worthKnown_54.2.2.1 rfl 1 rfl ?_
              refine aw_iald (q := 60) gdX1_worthKnown_54.2.2.2.1 rfl 1 rfl ?_
              exact aw_ireturn (w := [(h, .inr (3, [.int ru, .ref a, .int sz])), (a, .inl (0, 21, .inl f)), (c, .inr (2, [.int c0, .int (c1 + (1 : Int32)), .int c2, .int (c3 + (1 : Int32)), .int c4, .int c5]))]) [0, 1, 2] gdX1_worthKnown_54.2.2.2.2.1 rfl rfl rfl rfl (PN.mk (fun _ => 0) rfl rfl)
          · refine aw_iconst (q := 23) (v := 0) gdX1_worthKnown_13.2.2.2.2.1 rfl (by decide) ?_
            exact aw_ireturn (w := [(h, .inr (3, [.int ru, .ref a, .int sz])), (a, .inl (0, 21, .inl f)), (c, .inr (2, [.int c0, .int c1, .int c2, .int c3, .int c4, .int c5]))]) [0, 1, 2] gdX1_worthKnown_13.2.2.2.2.2.1 rfl rfl rfl rfl (PN.mk (fun _ => 0) rfl rfl)
    · refine aw_iconst (q := 5) (v := 1) gdX1_worthKnown_0.2.2.1 rfl (by decide) ?_
      exact aw_ireturn (w := [(h, .inr (3, [.int ru, .ref a, .int sz])), (a, .inl (0, 21, .inl f)), (c, .inr (2, [.int c0, .int c1, .int c2, .int c3, .int c4, .int c5]))]) [0, 1, 2] gdX1_worthKnown_0.2.2.2.1 rfl rfl rfl rfl (PN.mk (fun _ => 0) rfl rfl)
def fX1_recall (N K : Nat) (ru : Int32) (sz : Int32) (f : Nat → Int32) (c0 : Int32) (c1 : Int32) (c2 : Int32) (c3 : Int32) (c4 : Int32) (c5 : Int32) (p0 : Int32) : Option (Int32 × Int32 × (Nat → Int32) × Int32 × Int32 × Int32) :=
  ((fX1_worthKnown N K K ru sz f c0 c1 c2 c3 c4 c5 p0 (0 : Int32)).bind (fun x4 => (some (x4.1, x4.2.1, x4.2.2.1, x4.2.2.2.1, x4.2.2.2.2.1, x4.2.2.2.2.2))))
set_option maxHeartbeats 4000000 in
set_option maxRecDepth 100000 in
theorem ok_X1_recall {N K : Nat} {h c a : Nat} {ru : Int32} {sz : Int32} {f : Nat → Int32} {c0 : Int32} {c1 : Int32} {c2 : Int32} {c3 : Int32} {c4 : Int32} {c5 : Int32} {p0 : Int32} {xr : Int32 × Int32 × (Nat → Int32) × Int32 × Int32 × Int32} (hE : fX1_recall N K ru sz f c0 c1 c2 c3 c4 c5 p0 = some xr) : OkM yX1_recall (.code yX1_recall cX1_recall 3 (some .int)) (2 * K + 5) 0 0 [.ref h, .int p0, .ref c] [(h, .inr (3, [.int ru, .ref a, .int sz])), (a, .inl (0, 21, .inl f)), (c, .inr (2, [.int c0, .int c1, .int c2, .int c3, .int c4, .int c5]))] ((PN (U := Int32 × Int32 × (Nat → Int32) × Int32 × Int32 × Int32) (fun zz _ => some (.int zz.1)) (fun zz ad => [(h, .inr (3, [.int ru, .ref a, .int zz.2.1])), (a, .inl (0, 21, .inl zz.2.2.1)), (c, .inr (2, [.int c0, .int zz.2.2.2.1, .int zz.2.2.2.2.1, .int zz.2.2.2.2.2, .int c4, .int c5]))])) xr) := by
  refine ok_of (by decide) (Nat.le_of_ble_eq_true rfl) hE ?_
  refine aw_locals (lv' := [(0, .ref h), (1, .int p0), (2, .ref c)]) [0, 1, 2] rfl ?_
  refine aw_aload_n (q := 1) gdX1_recall_0.1 rfl 0 rfl ?_
  refine aw_iload_n (q := 2) gdX1_recall_0.2.1 rfl 1 rfl ?_
  refine aw_aload_n (q := 3) gdX1_recall_0.2.2.1 rfl 2 rfl ?_
  refine aw_iconst (q := 4) (v := 0) gdX1_recall_0.2.2.2.1 rfl (by decide) ?_
  refine aw_call (q := 7) (kc1 := 0) (ks1 := 0) (wc := [(h, .inr (3, [.int ru, .ref a, .int sz])), (a, .inl (0, 21, .inl f)), (c, .inr (2, [.int c0, .int c1, .int c2, .int c3, .int c4, .int c5]))]) (wr := []) (st1 := fun x4 g4 => [.int x4.1]) (ws1 := fun x4 g4 => [(h, .inr (3, [.int ru, .ref a, .int x4.2.1])), (a, .inl (0, 21, .inl x4.2.2.1)), (c, .inr (2, [.int c0, .int x4.2.2.2.1, .int x4.2.2.2.2.1, .int x4.2.2.2.2.2, .int c4, .int c5]))]) (As := [.ref h, .int p0, .ref c, .int (0 : Int32)]) [0, 1, 2] [] (fun _ => runV (q0 := 0) gdX1_recall_0.2.2.2.2.1 mi_X1_worthKnown im_X1_worthKnown se_X1_worthKnown ml_X1_28 (by omega) rfl (Nat.le_of_ble_eq_true rfl) rfl rfl rfl rfl) (fun x9 h9 => ok_X1_worthKnown K _ _ _ _ _ _ _ _ _ _ _ _ _ _ x9 h9) rfl rfl rfl rfl rfl (by decide +kernel) (by omega) (by omega) (fun _ _ => rfl) (fun _ _ => rfl) (fun x4 g4 => ?_)
  exact aw_ireturn (w := [(h, .inr (3, [.int ru, .ref a, .int x4.2.1])), (a, .inl (0, 21, .inl x4.2.2.1)), (c, .inr (2, [.int c0, .int x4.2.2.2.1, .int x4.2.2.2.2.1, .int x4.2.2.2.2.2, .int c4, .int c5]))]) [0, 1, 2] gdX1_recall_0.2.2.2.2.2 rfl rfl rfl rfl (PN.mk (fun _ => 0) rfl rfl)

end MG_12ledger
section MG_13memory
def fX5_rests (N K : Nat) (p0 : Int32) (p1 : Int32) : Option (Int32) :=
  (if p0 ≤ 0 then (some (1 : Int32)) else (if p1 = 0 then (some (1 : Int32)) else (some (0 : Int32))))
set_option maxHeartbeats 4000000 in
set_option maxRecDepth 100000 in
theorem ok_X5_rests {N K : Nat} {p0 : Int32} {p1 : Int32} {xr : Int32} (hE : fX5_rests N K p0 p1 = some xr) : OkM yX5_rests (.code yX5_rests cX5_rests 2 (some .boolean)) (0) 0 0 [.int p0, .int p1] [] ((PN (U := Int32) (fun zz _ => some (.int zz)) (fun zz ad => [])) xr) := by
  refine ok_of (by decide) (Nat.le_of_ble_eq_true rfl) hE ?_
  refine aw_locals (lv' := [(0, .int p0), (1, .int p1)]) [0, 1] rfl ?_
  refine aw_iload_n (q := 1) gdX5_rests_0.1 rfl 0 rfl ?_
  refine aw_if_le (tgt := 8) (q := 4) gdX5_rests_0.2.1 (by decide) rfl (fun h_1 => ?_) (fun h_1 => ?_)
  · refine aw_iconst (q := 9) (v := 1) gdX5_rests_0.2.2.2.2.1 rfl (by decide) ?_
    refine aw_goto (tgt := 13) gdX5_rests_0.2.2.2.2.2.1 (by decide) ?_
    exact aw_ireturn (w := []) [] gdX5_rests_0.2.2.2.2.2.2.2 rfl rfl rfl rfl (PN.mk (fun _ => 0) rfl rfl)
  · refine aw_iload_n (q := 5) gdX5_rests_0.2.2.1 rfl 1 rfl ?_
    refine aw_if_ne (tgt := 12) (q := 8) gdX5_rests_0.2.2.2.1 (by decide) rfl (fun h_5 => ?_) (fun h_5 => ?_)
    · refine aw_iconst (q := 13) (v := 0) gdX5_rests_0.2.2.2.2.2.2.1 rfl (by decide) ?_
      exact aw_ireturn (w := []) [] gdX5_rests_0.2.2.2.2.2.2.2 rfl rfl rfl rfl (PN.mk (fun _ => 0) rfl rfl)
    · refine aw_iconst (q := 9) (v := 1) gdX5_rests_0.2.2.2.2.1 rfl (by decide) ?_
      refine aw_goto (tgt := 13) gdX5_rests_0.2.2.2.2.2.1 (by decide) ?_
      exact aw_ireturn (w := []) [] gdX5_rests_0.2.2.2.2.2.2.2 rfl rfl rfl rfl (PN.mk (fun _ => 0) rfl rfl)
def fX5_restingWorth_16 (N K : Nat) (p0 : Int32) (p1 : Int32) (p2 : Int32)  : Option (Int32) :=
  (if p2 = 0 then (some (1 : Int32)) else (some (0 : Int32)))
set_option maxHeartbeats 4000000 in
set_option maxRecDepth 100000 in
theorem tX5_restingWorth_16 {N K : Nat} {p0 : Int32} {p1 : Int32} {p2 : Int32} : AW RX5 "restingWorth" cX5_restingWorth 3 (some .int) [] (fun _ _ => True) (0) (PN (U := Int32) (fun zz _ => some (.int zz)) (fun zz ad => [])) 0 0 (fX5_restingWorth_16 N K p0 p1 p2  ) 16 [(2, .int p2)] [] [] := by
  refine aw_iload_n (q := 17) gdX5_restingWorth_12.2.2.1 rfl 0 rfl ?_
  refine aw_if_eq (tgt := 24) (q := 20) gdX5_restingWorth_12.2.2.2.1 (by decide) rfl (fun h_17 => ?_) (fun h_17 => ?_)
  · refine aw_iconst (q := 25) (v := 1) gdX5_restingWorth_12.2.2.2.2.2.2.1 rfl (by decide) ?_
    exact aw_ireturn (w := []) [] gdX5_restingWorth_12.2.2.2.2.2.2.2 rfl rfl rfl rfl (PN.mk (fun _ => 0) rfl rfl)
  · refine aw_iconst (q := 21) (v := 0) gdX5_restingWorth_12.2.2.2.2.1 rfl (by decide) ?_
    refine aw_goto (tgt := 25) gdX5_restingWorth_12.2.2.2.2.2.1 (by decide) ?_
    exact aw_ireturn (w := []) [] gdX5_restingWorth_12.2.2.2.2.2.2.2 rfl rfl rfl rfl (PN.mk (fun _ => 0) rfl rfl)
def fX5_restingWorth (N K : Nat) (p0 : Int32) (p1 : Int32) (p2 : Int32) : Option (Int32) :=
  (if p1 = 0 then (if p0 = (1 : Int32) then fX5_restingWorth_16 N K p0 p1 p2   else (if p0 = (5 : Int32) then fX5_restingWorth_16 N K p0 p1 p2   else (some (1 : Int32)))) else (some (0 : Int32)))
set_option maxHeartbeats 4000000 in
set_option maxRecDepth 100000 in
theorem ok_X5_restingWorth {N K : Nat} {p0 : Int32} {p1 : Int32} {p2 : Int32} {xr : Int32} (hE : fX5_restingWorth N K p0 p1 p2 = some xr) : OkM yX5_restingWorth (.code yX5_restingWorth cX5_restingWorth 3 (some .int)) (0) 0 0 [.int p0, .int p1, .int p2] [] ((PN (U := Int32) (fun zz _ => some (.int zz)) (fun zz ad => [])) xr) := by
  refine ok_of (by decide) (Nat.le_of_ble_eq_true rfl) hE ?_
  refine aw_locals (lv' := [(0, .int p0), (1, .int p1), (2, .int p2)]) [0, 1, 2] rfl ?_
  refine aw_iload_n (q := 1) gdX5_restingWorth_0.1 rfl 1 rfl ?_
  refine aw_if_eq (tgt := 6) (q := 4) gdX5_restingWorth_0.2.1 (by decide) rfl (fun h_1 => ?_) (fun h_1 => ?_)
  · refine aw_iload_n (q := 7) gdX5_restingWorth_0.2.2.2.2.1 rfl 0 rfl ?_
    refine aw_iconst (q := 8) (v := 1) gdX5_restingWorth_0.2.2.2.2.2.1 rfl (by decide) ?_
    refine aw_icmp_eq (tgt := 16) (q := 11) gdX5_restingWorth_0.2.2.2.2.2.2.1 (by decide) rfl (fun h_8 => ?_) (fun h_8 => ?_)
    · refine aw_locals (lv' := [(2, .int p2)]) [2] rfl ?_
      exact tX5_restingWorth_16  
    · refine aw_iload_n (q := 12) gdX5_restingWorth_0.2.2.2.2.2.2.2 rfl 0 rfl ?_
      refine aw_iconst (q := 13) (v := 5) gdX5_restingWorth_12.1 rfl (by decide) ?_
      refine aw_icmp_ne (tgt := 24) (q := 16) gdX5_restingWorth_12.2.1 (by decide) rfl (fun h_13 => ?_) (fun h_13 => ?_)
      · refine aw_iconst (q := 25) (v := 1) gdX5_restingWorth_12.2.2.2.2.2.2.1 rfl (by decide) ?_
        exact aw_ireturn (w := []) [] gdX5_restingWorth_12.2.2.2.2.2.2.2 rfl rfl rfl rfl (PN.mk (fun _ => 0) rfl rfl)
      · refine aw_locals (lv' := [(2, .int p2)]) [2] rfl ?_
        exact tX5_restingWorth_16  
  · refine aw_iconst (q := 5) (v := 0) gdX5_restingWorth_0.2.2.1 rfl (by decide) ?_
    exact aw_ireturn (w := []) [] gdX5_restingWorth_0.2.2.2.1 rfl rfl rfl rfl (PN.mk (fun _ => 0) rfl rfl)
def fX2_slotOf (N K : Nat) (p0 : Int32) (p1 : Int32) (p2 : Int32) : Option (Int32) :=
  (if p0 < 0 then (some (-1 : Int32)) else (if (6 : Int32) ≤ p0 then (some (-1 : Int32)) else (if p1 < 0 then (some (-1 : Int32)) else (if (20 : Int32) < p1 then (some (-1 : Int32)) else (if p2 < 0 then (some (-1 : Int32)) else (if p2 ≤ (20 : Int32) then (some ((((p0 * (21 : Int32)) + p1) * (21 : Int32)) + p2)) else (some (-1 : Int32))))))))
set_option maxHeartbeats 4000000 in
set_option maxRecDepth 100000 in
theorem ok_X2_slotOf {N K : Nat} {p0 : Int32} {p1 : Int32} {p2 : Int32} {xr : Int32} (hE : fX2_slotOf N K p0 p1 p2 = some xr) : OkM yX2_slotOf (.code yX2_slotOf cX2_slotOf 3 (some .int)) (0) 0 0 [.int p0, .int p1, .int p2] [] ((PN (U := Int32) (fun zz _ => some (.int zz)) (fun zz ad => [])) xr) := by
  refine ok_of (by decide) (Nat.le_of_ble_eq_true rfl) hE ?_
  refine aw_locals (lv' := [(0, .int p0), (1, .int p1), (2, .int p2)]) [0, 1, 2] rfl ?_
  refine aw_iload_n (q := 1) gdX2_slotOf_0.1 rfl 0 rfl ?_
  refine aw_if_lt (tgt := 30) (q := 4) gdX2_slotOf_0.2.1 (by decide) rfl (fun h_1 => ?_) (fun h_1 => ?_)
  · refine aw_iconst (q := 31) (v := (-1)) gdX2_slotOf_15.2.2.2.2.2.2.2 rfl (by decide) ?_
    exact aw_ireturn (w := []) [] gdX2_slotOf_31.1 rfl rfl rfl rfl (PN.mk (fun _ => 0) rfl rfl)
  · refine aw_iload_n (q := 5) gdX2_slotOf_0.2.2.1 rfl 0 rfl ?_
    refine aw_bipush (q := 7) (v := 6) gdX2_slotOf_0.2.2.2.1 rfl (by decide) ?_
    refine aw_icmp_ge (tgt := 30) (q := 10) gdX2_slotOf_0.2.2.2.2.1 (by decide) rfl (fun h_7 => ?_) (fun h_7 => ?_)
    · refine aw_iconst (q := 31) (v := (-1)) gdX2_slotOf_15.2.2.2.2.2.2.2 rfl (by decide) ?_
      exact aw_ireturn (w := []) [] gdX2_slotOf_31.1 rfl rfl rfl rfl (PN.mk (fun _ => 0) rfl rfl)
    · refine aw_iload_n (q := 11) gdX2_slotOf_0.2.2.2.2.2.1 rfl 1 rfl ?_
      refine aw_if_lt (tgt := 30) (q := 14) gdX2_slotOf_0.2.2.2.2.2.2.1 (by decide) rfl (fun h_11 => ?_) (fun h_11 => ?_)
      · refine aw_iconst (q := 31) (v := (-1)) gdX2_slotOf_15.2.2.2.2.2.2.2 rfl (by decide) ?_
        exact aw_ireturn (w := []) [] gdX2_slotOf_31.1 rfl rfl rfl rfl (PN.mk (fun _ => 0) rfl rfl)
      · refine aw_iload_n (q := 15) gdX2_slotOf_0.2.2.2.2.2.2.2 rfl 1 rfl ?_
        refine aw_bipush (q := 17) (v := 20) gdX2_slotOf_15.1 rfl (by decide) ?_
        refine aw_icmp_gt (tgt := 30) (q := 20) gdX2_slotOf_15.2.1 (by decide) rfl (fun h_17 => ?_) (fun h_17 => ?_)
        · refine aw_iconst (q := 31) (v := (-1)) gdX2_slotOf_15.2.2.2.2.2.2.2 rfl (by decide) ?_
          exact aw_ireturn (w := []) [] gdX2_slotOf_31.1 rfl rfl rfl rfl (PN.mk (fun _ => 0) rfl rfl)
        · refine aw_iload_n (q := 21) gdX2_slotOf_15.2.2.1 rfl 2 rfl ?_
          refine aw_if_lt (tgt := 30) (q := 24) gdX2_slotOf_15.2.2.2.1 (by decide) rfl (fun h_21 => ?_) (fun h_21 => ?_)
          · refine aw_iconst (q := 31) (v := (-1)) gdX2_slotOf_15.2.2.2.2.2.2.2 rfl (by decide) ?_
            exact aw_ireturn (w := []) [] gdX2_slotOf_31.1 rfl rfl rfl rfl (PN.mk (fun _ => 0) rfl rfl)
          · refine aw_iload_n (q := 25) gdX2_slotOf_15.2.2.2.2.1 rfl 2 rfl ?_
            refine aw_bipush (q := 27) (v := 20) gdX2_slotOf_15.2.2.2.2.2.1 rfl (by decide) ?_
            refine aw_icmp_le (tgt := 32) (q := 30) gdX2_slotOf_15.2.2.2.2.2.2.1 (by decide) rfl (fun h_27 => ?_) (fun h_27 => ?_)
            · refine aw_iload_n (q := 33) gdX2_slotOf_31.2.1 rfl 0 rfl ?_
              refine aw_bipush (q := 35) (v := 21) gdX2_slotOf_31.2.2.1 rfl (by decide) ?_
              refine aw_imul (q := 36) gdX2_slotOf_31.2.2.2.1 rfl ?_
              refine aw_iload_n (q := 37) gdX2_slotOf_31.2.2.2.2.1 rfl 1 rfl ?_
              refine aw_iadd (q := 38) gdX2_slotOf_31.2.2.2.2.2.1 rfl ?_
              refine aw_bipush (q := 40) (v := 21) gdX2_slotOf_31.2.2.2.2.2.2.1 rfl (by decide) ?_
              refine aw_imul (q := 41) gdX2_slotOf_31.2.2.2.2.2.2.2 rfl ?_
              refine aw_iload_n (q := 42) gdX2_slotOf_41.1 rfl 2 rfl ?_
              refine aw_iadd (q := 43) gdX2_slotOf_41.2.1 rfl ?_
              exact aw_ireturn (w := []) [] gdX2_slotOf_41.2.2 rfl rfl rfl rfl (PN.mk (fun _ => 0) rfl rfl)
            · refine aw_iconst (q := 31) (v := (-1)) gdX2_slotOf_15.2.2.2.2.2.2.2 rfl (by decide) ?_
              exact aw_ireturn (w := []) [] gdX2_slotOf_31.1 rfl rfl rfl rfl (PN.mk (fun _ => 0) rfl rfl)
def fX2_kindOf (N K : Nat) (p0 : Int32) : Option (Int32) :=
  (some (p0 / (441 : Int32)))
set_option maxHeartbeats 4000000 in
set_option maxRecDepth 100000 in
theorem ok_X2_kindOf {N K : Nat} {p0 : Int32} {xr : Int32} (hE : fX2_kindOf N K p0 = some xr) : OkM yX2_kindOf (.code yX2_kindOf cX2_kindOf 1 (some .int)) (0) 0 0 [.int p0] [] ((PN (U := Int32) (fun zz _ => some (.int zz)) (fun zz ad => [])) xr) := by
  refine ok_of (by decide) (Nat.le_of_ble_eq_true rfl) hE ?_
  refine aw_locals (lv' := [(0, .int p0)]) [0] rfl ?_
  refine aw_iload_n (q := 1) gdX2_kindOf_0.1 rfl 0 rfl ?_
  refine aw_sipush (q := 4) (v := 441) gdX2_kindOf_0.2.1 rfl (by decide) ?_
  refine aw_idivT (q := 5) gdX2_kindOf_0.2.2.1 rfl (by decide) ?_
  exact aw_ireturn (w := []) [] gdX2_kindOf_0.2.2.2 rfl rfl rfl rfl (PN.mk (fun _ => 0) rfl rfl)
def fX2_numberOf (N K : Nat) (p0 : Int32) : Option (Int32) :=
  (some ((p0 / (21 : Int32)) % (21 : Int32)))
set_option maxHeartbeats 4000000 in
set_option maxRecDepth 100000 in
theorem ok_X2_numberOf {N K : Nat} {p0 : Int32} {xr : Int32} (hE : fX2_numberOf N K p0 = some xr) : OkM yX2_numberOf (.code yX2_numberOf cX2_numberOf 1 (some .int)) (0) 0 0 [.int p0] [] ((PN (U := Int32) (fun zz _ => some (.int zz)) (fun zz ad => [])) xr) := by
  refine ok_of (by decide) (Nat.le_of_ble_eq_true rfl) hE ?_
  refine aw_locals (lv' := [(0, .int p0)]) [0] rfl ?_
  refine aw_iload_n (q := 1) gdX2_numberOf_0.1 rfl 0 rfl ?_
  refine aw_bipush (q := 3) (v := 21) gdX2_numberOf_0.2.1 rfl (by decide) ?_
  refine aw_idivT (q := 4) gdX2_numberOf_0.2.2.1 rfl (by decide) ?_
  refine aw_bipush (q := 6) (v := 21) gdX2_numberOf_0.2.2.2.1 rfl (by decide) ?_
  refine aw_iremT (q := 7) gdX2_numberOf_0.2.2.2.2.1 rfl (by decide) ?_
  exact aw_ireturn (w := []) [] gdX2_numberOf_0.2.2.2.2.2 rfl rfl rfl rfl (PN.mk (fun _ => 0) rfl rfl)
def fX2_measureOf (N K : Nat) (p0 : Int32) : Option (Int32) :=
  (some (p0 % (21 : Int32)))
set_option maxHeartbeats 4000000 in
set_option maxRecDepth 100000 in
theorem ok_X2_measureOf {N K : Nat} {p0 : Int32} {xr : Int32} (hE : fX2_measureOf N K p0 = some xr) : OkM yX2_measureOf (.code yX2_measureOf cX2_measureOf 1 (some .int)) (0) 0 0 [.int p0] [] ((PN (U := Int32) (fun zz _ => some (.int zz)) (fun zz ad => [])) xr) := by
  refine ok_of (by decide) (Nat.le_of_ble_eq_true rfl) hE ?_
  refine aw_locals (lv' := [(0, .int p0)]) [0] rfl ?_
  refine aw_iload_n (q := 1) gdX2_measureOf_0.1 rfl 0 rfl ?_
  refine aw_bipush (q := 3) (v := 21) gdX2_measureOf_0.2.1 rfl (by decide) ?_
  refine aw_iremT (q := 4) gdX2_measureOf_0.2.2.1 rfl (by decide) ?_
  exact aw_ireturn (w := []) [] gdX2_measureOf_0.2.2.2 rfl rfl rfl rfl (PN.mk (fun _ => 0) rfl rfl)
def fX2_codeOf (N K : Nat) (p0 : Int32) : Option (Int32) :=
  ((fX2_kindOf N K p0).bind (fun x1 => ((fX2_numberOf N K p0).bind (fun x9 => ((fX2_measureOf N K p0).bind (fun x17 => (some (((x1 * (1024 : Int32)) + (x9 * (32 : Int32))) + x17))))))))
set_option maxHeartbeats 4000000 in
set_option maxRecDepth 100000 in
theorem ok_X2_codeOf {N K : Nat} {p0 : Int32} {xr : Int32} (hE : fX2_codeOf N K p0 = some xr) : OkM yX2_codeOf (.code yX2_codeOf cX2_codeOf 1 (some .int)) (1) 0 0 [.int p0] [] ((PN (U := Int32) (fun zz _ => some (.int zz)) (fun zz ad => [])) xr) := by
  refine ok_of (by decide) (Nat.le_of_ble_eq_true rfl) hE ?_
  refine aw_locals (lv' := [(0, .int p0)]) [0] rfl ?_
  refine aw_iload_n (q := 1) gdX2_codeOf_0.1 rfl 0 rfl ?_
  refine aw_call (q := 4) (kc1 := 0) (ks1 := 0) (wc := []) (wr := []) (st1 := fun x1 g1 => [.int x1]) (ws1 := fun x1 g1 => []) (As := [.int p0]) [] [] (fun _ => runS gdX2_codeOf_0.2.1 mi_X2_kindOf st_X2_kindOf ml_X2_98 (by omega) rfl (Nat.le_of_ble_eq_true rfl) rfl) (fun x9 h9 => ok_X2_kindOf h9) rfl rfl rfl rfl rfl (by decide +kernel) (by omega) (by omega) (fun _ _ => rfl) (fun _ _ => rfl) (fun x1 g1 => ?_)
  refine aw_sipush (q := 7) (v := 1024) gdX2_codeOf_0.2.2.1 rfl (by decide) ?_
  refine aw_imul (q := 8) gdX2_codeOf_0.2.2.2.1 rfl ?_
  refine aw_iload_n (q := 9) gdX2_codeOf_0.2.2.2.2.1 rfl 0 rfl ?_
  refine aw_call (q := 12) (kc1 := 0) (ks1 := 0) (wc := []) (wr := []) (st1 := fun x9 g9 => [.int x9, .int (x1 * (1024 : Int32))]) (ws1 := fun x9 g9 => []) (As := [.int p0]) [] [] (fun _ => runS gdX2_codeOf_0.2.2.2.2.2.1 mi_X2_numberOf st_X2_numberOf ml_X2_92 (by omega) rfl (Nat.le_of_ble_eq_true rfl) rfl) (fun x9 h9 => ok_X2_numberOf h9) rfl rfl rfl rfl rfl (by decide +kernel) (by omega) (by omega) (fun _ _ => rfl) (fun _ _ => rfl) (fun x9 g9 => ?_)
  refine aw_bipush (q := 14) (v := 32) gdX2_codeOf_0.2.2.2.2.2.2.1 rfl (by decide) ?_
  refine aw_imul (q := 15) gdX2_codeOf_0.2.2.2.2.2.2.2 rfl ?_
  refine aw_iadd (q := 16) gdX2_codeOf_15.1 rfl ?_
  refine aw_iload_n (q := 17) gdX2_codeOf_15.2.1 rfl 0 rfl ?_
  refine aw_call (q := 20) (kc1 := 0) (ks1 := 0) (wc := []) (wr := []) (st1 := fun x17 g17 => [.int x17, .int ((x1 * (1024 : Int32)) + (x9 * (32 : Int32)))]) (ws1 := fun x17 g17 => []) (As := [.int p0]) [] [] (fun _ => runS gdX2_codeOf_15.2.2.1 mi_X2_measureOf st_X2_measureOf ml_X2_95 (by omega) rfl (Nat.le_of_ble_eq_true rfl) rfl) (fun x9 h9 => ok_X2_measureOf h9) rfl rfl rfl rfl rfl (by decide +kernel) (by omega) (by omega) (fun _ _ => rfl) (fun _ _ => rfl) (fun x17 g17 => ?_)
  refine aw_iadd (q := 21) gdX2_codeOf_15.2.2.2.1 rfl ?_
  exact aw_ireturn (w := []) [] gdX2_codeOf_15.2.2.2.2 rfl rfl rfl rfl (PN.mk (fun _ => 0) rfl rfl)
def fX2_size (N K : Nat) (sz : Int32) (f : Nat → Int32) : Option (Int32) :=
  (some sz)
set_option maxHeartbeats 4000000 in
set_option maxRecDepth 100000 in
theorem ok_X2_size {N K : Nat} {h a : Nat} {sz : Int32} {f : Nat → Int32} {xr : Int32} (hE : fX2_size N K sz f = some xr) : OkM yX2_size (.code yX2_size cX2_size 1 (some .int)) (0) 0 0 [.ref h] [(h, .inr (4, [.ref a, .int sz])), (a, .inl (0, 2646, .inl f))] ((PN (U := Int32) (fun zz _ => some (.int zz)) (fun zz ad => [(h, .inr (4, [.ref a, .int sz])), (a, .inl (0, 2646, .inl f))])) xr) := by
  refine ok_of (by decide) (Nat.le_of_ble_eq_true rfl) hE ?_
  refine aw_locals (lv' := [(0, .ref h)]) [0] rfl ?_
  refine aw_aload_n (q := 1) gdX2_size_0.1 rfl 0 rfl ?_
  refine aw_get (q := 4) gdX2_size_0.2.1 rfl fl_X2_21 0 rfl rfl ?_
  exact aw_ireturn (w := [(h, .inr (4, [.ref a, .int sz])), (a, .inl (0, 2646, .inl f))]) [0, 1] gdX2_size_0.2.2 rfl rfl rfl rfl (PN.mk (fun _ => 0) rfl rfl)
def fX2_keptWorth (N K : Nat) (sz : Int32) (f : Nat → Int32) (p0 : Int32) (p1 : Int32) (p2 : Int32) : Option (Int32) :=
  ((fX2_slotOf N K p0 p1 p2).bind (fun x3 => (if x3 = (-1 : Int32) then (some (-1 : Int32)) else (if x3 < 0 ∨ 2646 ≤ x3.toNatClampNeg then none else (some (f x3.toNatClampNeg))))))
set_option maxHeartbeats 4000000 in
set_option maxRecDepth 100000 in
theorem ok_X2_keptWorth {N K : Nat} {h a : Nat} {sz : Int32} {f : Nat → Int32} {p0 : Int32} {p1 : Int32} {p2 : Int32} {xr : Int32} (hE : fX2_keptWorth N K sz f p0 p1 p2 = some xr) : OkM yX2_keptWorth (.code yX2_keptWorth cX2_keptWorth 5 (some .int)) (1) 0 0 [.ref h, .int p0, .int p1, .int p2] [(h, .inr (4, [.ref a, .int sz])), (a, .inl (0, 2646, .inl f))] ((PN (U := Int32) (fun zz _ => some (.int zz)) (fun zz ad => [(h, .inr (4, [.ref a, .int sz])), (a, .inl (0, 2646, .inl f))])) xr) := by
  refine ok_of (by decide) (Nat.le_of_ble_eq_true rfl) hE ?_
  refine aw_locals (lv' := [(0, .ref h), (1, .int p0), (2, .int p1), (3, .int p2)]) [0, 1, 2, 3] rfl ?_
  refine aw_iload_n (q := 1) gdX2_keptWorth_0.1 rfl 1 rfl ?_
  refine aw_iload_n (q := 2) gdX2_keptWorth_0.2.1 rfl 2 rfl ?_
  refine aw_iload_n (q := 3) gdX2_keptWorth_0.2.2.1 rfl 3 rfl ?_
  refine aw_call (q := 6) (kc1 := 0) (ks1 := 0) (wc := []) (wr := [(h, .inr (4, [.ref a, .int sz])), (a, .inl (0, 2646, .inl f))]) (st1 := fun x3 g3 => [.int x3]) (ws1 := fun x3 g3 => [(h, .inr (4, [.ref a, .int sz])), (a, .inl (0, 2646, .inl f))]) (As := [.int p0, .int p1, .int p2]) [] [0, 1] (fun _ => runS gdX2_keptWorth_0.2.2.2.1 mi_X2_slotOf st_X2_slotOf ml_X2_37 (by omega) rfl (Nat.le_of_ble_eq_true rfl) rfl) (fun x9 h9 => ok_X2_slotOf h9) rfl rfl rfl rfl rfl (by decide +kernel) (by omega) (by omega) (fun _ _ => rfl) (fun _ _ => rfl) (fun x3 g3 => ?_)
  refine aw_istore (q := 8) (lv' := [(4, .int x3), (0, .ref h), (1, .int p0), (2, .int p1), (3, .int p2)]) gdX2_keptWorth_0.2.2.2.2.1 rfl (by decide) rfl ?_
  refine aw_iload (q := 10) gdX2_keptWorth_0.2.2.2.2.2.1 rfl 0 rfl ?_
  refine aw_iconst (q := 11) (v := (-1)) gdX2_keptWorth_0.2.2.2.2.2.2.1 rfl (by decide) ?_
  refine aw_icmp_ne (tgt := 18) (q := 14) gdX2_keptWorth_0.2.2.2.2.2.2.2 (by decide) rfl (fun h_11 => ?_) (fun h_11 => ?_)
  · refine aw_aload_n (q := 19) gdX2_keptWorth_14.2.2.1 rfl 1 rfl ?_
    refine aw_get (q := 22) gdX2_keptWorth_14.2.2.2.1 rfl fl_X2_11 0 rfl rfl ?_
    refine aw_iload (q := 24) gdX2_keptWorth_14.2.2.2.2.1 rfl 0 rfl ?_
    refine aw_iald (q := 25) gdX2_keptWorth_14.2.2.2.2.2.1 rfl 1 rfl ?_
    exact aw_ireturn (w := [(h, .inr (4, [.ref a, .int sz])), (a, .inl (0, 2646, .inl f))]) [0, 1] gdX2_keptWorth_14.2.2.2.2.2.2 rfl rfl rfl rfl (PN.mk (fun _ => 0) rfl rfl)
  · refine aw_iconst (q := 15) (v := (-1)) gdX2_keptWorth_14.1 rfl (by decide) ?_
    refine aw_goto (tgt := 25) gdX2_keptWorth_14.2.1 (by decide) ?_
    exact aw_ireturn (w := [(h, .inr (4, [.ref a, .int sz])), (a, .inl (0, 2646, .inl f))]) [0, 1] gdX2_keptWorth_14.2.2.2.2.2.2 rfl rfl rfl rfl (PN.mk (fun _ => 0) rfl rfl)
def fX2_keeps (N K : Nat) (sz : Int32) (f : Nat → Int32) (p0 : Int32) (p1 : Int32) (p2 : Int32) : Option (Int32) :=
  ((fX2_keptWorth N K sz f p0 p1 p2).bind (fun x4 => (if x4 = (-1 : Int32) then (some (0 : Int32)) else (some (1 : Int32)))))
set_option maxHeartbeats 4000000 in
set_option maxRecDepth 100000 in
theorem ok_X2_keeps {N K : Nat} {h a : Nat} {sz : Int32} {f : Nat → Int32} {p0 : Int32} {p1 : Int32} {p2 : Int32} {xr : Int32} (hE : fX2_keeps N K sz f p0 p1 p2 = some xr) : OkM yX2_keeps (.code yX2_keeps cX2_keeps 4 (some .boolean)) (2) 0 0 [.ref h, .int p0, .int p1, .int p2] [(h, .inr (4, [.ref a, .int sz])), (a, .inl (0, 2646, .inl f))] ((PN (U := Int32) (fun zz _ => some (.int zz)) (fun zz ad => [(h, .inr (4, [.ref a, .int sz])), (a, .inl (0, 2646, .inl f))])) xr) := by
  refine ok_of (by decide) (Nat.le_of_ble_eq_true rfl) hE ?_
  refine aw_locals (lv' := [(0, .ref h), (1, .int p0), (2, .int p1), (3, .int p2)]) [0, 1, 2, 3] rfl ?_
  refine aw_aload_n (q := 1) gdX2_keeps_0.1 rfl 0 rfl ?_
  refine aw_iload_n (q := 2) gdX2_keeps_0.2.1 rfl 1 rfl ?_
  refine aw_iload_n (q := 3) gdX2_keeps_0.2.2.1 rfl 2 rfl ?_
  refine aw_iload_n (q := 4) gdX2_keeps_0.2.2.2.1 rfl 3 rfl ?_
  refine aw_call (q := 7) (kc1 := 0) (ks1 := 0) (wc := [(h, .inr (4, [.ref a, .int sz])), (a, .inl (0, 2646, .inl f))]) (wr := []) (st1 := fun x4 g4 => [.int x4]) (ws1 := fun x4 g4 => [(h, .inr (4, [.ref a, .int sz])), (a, .inl (0, 2646, .inl f))]) (As := [.ref h, .int p0, .int p1, .int p2]) [0, 1] [] (fun _ => runV (q0 := 0) gdX2_keeps_0.2.2.2.2.1 mi_X2_keptWorth im_X2_keptWorth se_X2_keptWorth ml_X2_58 (by omega) rfl (Nat.le_of_ble_eq_true rfl) rfl rfl rfl rfl) (fun x9 h9 => ok_X2_keptWorth h9) rfl rfl rfl rfl rfl (by decide +kernel) (by omega) (by omega) (fun _ _ => rfl) (fun _ _ => rfl) (fun x4 g4 => ?_)
  refine aw_iconst (q := 8) (v := (-1)) gdX2_keeps_0.2.2.2.2.2.1 rfl (by decide) ?_
  refine aw_icmp_eq (tgt := 15) (q := 11) gdX2_keeps_0.2.2.2.2.2.2.1 (by decide) rfl (fun h_8 => ?_) (fun h_8 => ?_)
  · refine aw_iconst (q := 16) (v := 0) gdX2_keeps_12.2.1 rfl (by decide) ?_
    exact aw_ireturn (w := [(h, .inr (4, [.ref a, .int sz])), (a, .inl (0, 2646, .inl f))]) [0, 1] gdX2_keeps_12.2.2 rfl rfl rfl rfl (PN.mk (fun _ => 0) rfl rfl)
  · refine aw_iconst (q := 12) (v := 1) gdX2_keeps_0.2.2.2.2.2.2.2 rfl (by decide) ?_
    refine aw_goto (tgt := 16) gdX2_keeps_12.1 (by decide) ?_
    exact aw_ireturn (w := [(h, .inr (4, [.ref a, .int sz])), (a, .inl (0, 2646, .inl f))]) [0, 1] gdX2_keeps_12.2.2 rfl rfl rfl rfl (PN.mk (fun _ => 0) rfl rfl)
def fX2_keepsWith (N K : Nat) (sz : Int32) (f : Nat → Int32) (p0 : Int32) (p1 : Int32) (p2 : Int32) (p3 : Int32) : Option (Int32) :=
  ((fX2_keeps N K sz f p0 p1 p2).bind (fun x4 => (if x4 = 0 then (some (0 : Int32)) else ((fX2_keptWorth N K sz f p0 p1 p2).bind (fun x14 => (if x14 = p3 then (some (1 : Int32)) else (some (0 : Int32))))))))
set_option maxHeartbeats 4000000 in
set_option maxRecDepth 100000 in
theorem ok_X2_keepsWith {N K : Nat} {h a : Nat} {sz : Int32} {f : Nat → Int32} {p0 : Int32} {p1 : Int32} {p2 : Int32} {p3 : Int32} {xr : Int32} (hE : fX2_keepsWith N K sz f p0 p1 p2 p3 = some xr) : OkM yX2_keepsWith (.code yX2_keepsWith cX2_keepsWith 5 (some .boolean)) (3) 0 0 [.ref h, .int p0, .int p1, .int p2, .int p3] [(h, .inr (4, [.ref a, .int sz])), (a, .inl (0, 2646, .inl f))] ((PN (U := Int32) (fun zz _ => some (.int zz)) (fun zz ad => [(h, .inr (4, [.ref a, .int sz])), (a, .inl (0, 2646, .inl f))])) xr) := by
  refine ok_of (by decide) (Nat.le_of_ble_eq_true rfl) hE ?_
  refine aw_locals (lv' := [(0, .ref h), (1, .int p0), (2, .int p1), (3, .int p2), (4, .int p3)]) [0, 1, 2, 3, 4] rfl ?_
  refine aw_aload_n (q := 1) gdX2_keepsWith_0.1 rfl 0 rfl ?_
  refine aw_iload_n (q := 2) gdX2_keepsWith_0.2.1 rfl 1 rfl ?_
  refine aw_iload_n (q := 3) gdX2_keepsWith_0.2.2.1 rfl 2 rfl ?_
  refine aw_iload_n (q := 4) gdX2_keepsWith_0.2.2.2.1 rfl 3 rfl ?_
  refine aw_call (q := 7) (kc1 := 0) (ks1 := 0) (wc := [(h, .inr (4, [.ref a, .int sz])), (a, .inl (0, 2646, .inl f))]) (wr := []) (st1 := fun x4 g4 => [.int x4]) (ws1 := fun x4 g4 => [(h, .inr (4, [.ref a, .int sz])), (a, .inl (0, 2646, .inl f))]) (As := [.ref h, .int p0, .int p1, .int p2]) [0, 1] [] (fun _ => runV (q0 := 0) gdX2_keepsWith_0.2.2.2.2.1 mi_X2_keeps im_X2_keeps se_X2_keeps ml_X2_61 (by omega) rfl (Nat.le_of_ble_eq_true rfl) rfl rfl rfl rfl) (fun x9 h9 => ok_X2_keeps h9) rfl rfl rfl rfl rfl (by decide +kernel) (by omega) (by omega) (fun _ _ => rfl) (fun _ _ => rfl) (fun x4 g4 => ?_)
  refine aw_if_eq (tgt := 26) (q := 10) gdX2_keepsWith_0.2.2.2.2.2.1 (by decide) rfl (fun h_7 => ?_) (fun h_7 => ?_)
  · refine aw_iconst (q := 27) (v := 0) gdX2_keepsWith_12.2.2.2.2.2.2.2 rfl (by decide) ?_
    exact aw_ireturn (w := [(h, .inr (4, [.ref a, .int sz])), (a, .inl (0, 2646, .inl f))]) [0, 1] dX2_keepsWith_27 rfl rfl rfl rfl (PN.mk (fun _ => 0) rfl rfl)
  · refine aw_aload_n (q := 11) gdX2_keepsWith_0.2.2.2.2.2.2.1 rfl 0 rfl ?_
    refine aw_iload_n (q := 12) gdX2_keepsWith_0.2.2.2.2.2.2.2 rfl 1 rfl ?_
    refine aw_iload_n (q := 13) gdX2_keepsWith_12.1 rfl 2 rfl ?_
    refine aw_iload_n (q := 14) gdX2_keepsWith_12.2.1 rfl 3 rfl ?_
    refine aw_call (q := 17) (kc1 := 0) (ks1 := 0) (wc := [(h, .inr (4, [.ref a, .int sz])), (a, .inl (0, 2646, .inl f))]) (wr := []) (st1 := fun x14 g14 => [.int x14]) (ws1 := fun x14 g14 => [(h, .inr (4, [.ref a, .int sz])), (a, .inl (0, 2646, .inl f))]) (As := [.ref h, .int p0, .int p1, .int p2]) [0, 1] [] (fun _ => runV (q0 := 0) gdX2_keepsWith_12.2.2.1 mi_X2_keptWorth im_X2_keptWorth se_X2_keptWorth ml_X2_58 (by omega) rfl (Nat.le_of_ble_eq_true rfl) rfl rfl rfl rfl) (fun x9 h9 => ok_X2_keptWorth h9) rfl rfl rfl rfl rfl (by decide +kernel) (by omega) (by omega) (fun _ _ => rfl) (fun _ _ => rfl) (fun x14 g14 => ?_)
    refine aw_iload (q := 19) gdX2_keepsWith_12.2.2.2.1 rfl 4 rfl ?_
    refine aw_icmp_ne (tgt := 26) (q := 22) gdX2_keepsWith_12.2.2.2.2.1 (by decide) rfl (fun h_19 => ?_) (fun h_19 => ?_)
    · refine aw_iconst (q := 27) (v := 0) gdX2_keepsWith_12.2.2.2.2.2.2.2 rfl (by decide) ?_
      exact aw_ireturn (w := [(h, .inr (4, [.ref a, .int sz])), (a, .inl (0, 2646, .inl f))]) [0, 1] dX2_keepsWith_27 rfl rfl rfl rfl (PN.mk (fun _ => 0) rfl rfl)
    · refine aw_iconst (q := 23) (v := 1) gdX2_keepsWith_12.2.2.2.2.2.1 rfl (by decide) ?_
      refine aw_goto (tgt := 27) gdX2_keepsWith_12.2.2.2.2.2.2.1 (by decide) ?_
      exact aw_ireturn (w := [(h, .inr (4, [.ref a, .int sz])), (a, .inl (0, 2646, .inl f))]) [0, 1] dX2_keepsWith_27 rfl rfl rfl rfl (PN.mk (fun _ => 0) rfl rfl)
def fX2_keep (N K : Nat) (sz : Int32) (f : Nat → Int32) (p0 : Int32) (p1 : Int32) (p2 : Int32) (p3 : Int32) : Option (Int32 × (Nat → Int32)) :=
  ((fX2_slotOf N K p0 p1 p2).bind (fun x3 => (if x3 = (-1 : Int32) then (some (sz, f)) else (if x3 < 0 ∨ 2646 ≤ x3.toNatClampNeg then none else (if (f x3.toNatClampNeg) = (-1 : Int32) then (if x3 < 0 ∨ 2646 ≤ x3.toNatClampNeg then none else (some ((sz + (1 : Int32)), (upd f x3.toNatClampNeg p3)))) else (if x3 < 0 ∨ 2646 ≤ x3.toNatClampNeg then none else (some (sz, (upd f x3.toNatClampNeg p3)))))))))
set_option maxHeartbeats 4000000 in
set_option maxRecDepth 100000 in
theorem ok_X2_keep {N K : Nat} {h a : Nat} {sz : Int32} {f : Nat → Int32} {p0 : Int32} {p1 : Int32} {p2 : Int32} {p3 : Int32} {xr : Int32 × (Nat → Int32)} (hE : fX2_keep N K sz f p0 p1 p2 p3 = some xr) : OkM yX2_keep (.code yX2_keep cX2_keep 6 none) (1) 0 0 [.ref h, .int p0, .int p1, .int p2, .int p3] [(h, .inr (4, [.ref a, .int sz])), (a, .inl (0, 2646, .inl f))] ((PN (U := Int32 × (Nat → Int32)) (fun _ _ => none) (fun zz ad => [(h, .inr (4, [.ref a, .int zz.1])), (a, .inl (0, 2646, .inl zz.2))])) xr) := by
  refine ok_of (by decide) (Nat.le_of_ble_eq_true rfl) hE ?_
  refine aw_locals (lv' := [(0, .ref h), (1, .int p0), (2, .int p1), (3, .int p2), (4, .int p3)]) [0, 1, 2, 3, 4] rfl ?_
  refine aw_iload_n (q := 1) gdX2_keep_0.1 rfl 1 rfl ?_
  refine aw_iload_n (q := 2) gdX2_keep_0.2.1 rfl 2 rfl ?_
  refine aw_iload_n (q := 3) gdX2_keep_0.2.2.1 rfl 3 rfl ?_
  refine aw_call (q := 6) (kc1 := 0) (ks1 := 0) (wc := []) (wr := [(h, .inr (4, [.ref a, .int sz])), (a, .inl (0, 2646, .inl f))]) (st1 := fun x3 g3 => [.int x3]) (ws1 := fun x3 g3 => [(h, .inr (4, [.ref a, .int sz])), (a, .inl (0, 2646, .inl f))]) (As := [.int p0, .int p1, .int p2]) [] [0, 1] (fun _ => runS gdX2_keep_0.2.2.2.1 mi_X2_slotOf st_X2_slotOf ml_X2_37 (by omega) rfl (Nat.le_of_ble_eq_true rfl) rfl) (fun x9 h9 => ok_X2_slotOf h9) rfl rfl rfl rfl rfl (by decide +kernel) (by omega) (by omega) (fun _ _ => rfl) (fun _ _ => rfl) (fun x3 g3 => ?_)
  refine aw_istore (q := 8) (lv' := [(5, .int x3), (0, .ref h), (1, .int p0), (2, .int p1), (3, .int p2), (4, .int p3)]) gdX2_keep_0.2.2.2.2.1 rfl (by decide) rfl ?_
  refine aw_iload (q := 10) gdX2_keep_0.2.2.2.2.2.1 rfl 0 rfl ?_
  refine aw_iconst (q := 11) (v := (-1)) gdX2_keep_0.2.2.2.2.2.2.1 rfl (by decide) ?_
  refine aw_icmp_ne (tgt := 15) (q := 14) gdX2_keep_0.2.2.2.2.2.2.2 (by decide) rfl (fun h_11 => ?_) (fun h_11 => ?_)
  · refine aw_aload_n (q := 16) gdX2_keep_14.2.1 rfl 1 rfl ?_
    refine aw_get (q := 19) gdX2_keep_14.2.2.1 rfl fl_X2_11 0 rfl rfl ?_
    refine aw_iload (q := 21) gdX2_keep_14.2.2.2.1 rfl 0 rfl ?_
    refine aw_iald (q := 22) gdX2_keep_14.2.2.2.2.1 rfl 1 rfl ?_
    refine aw_iconst (q := 23) (v := (-1)) gdX2_keep_14.2.2.2.2.2.1 rfl (by decide) ?_
    refine aw_icmp_ne (tgt := 36) (q := 26) gdX2_keep_14.2.2.2.2.2.2.1 (by decide) rfl (fun h_23 => ?_) (fun h_23 => ?_)
    · refine aw_aload_n (q := 37) gdX2_keep_27.2.2.2.2.2.1 rfl 1 rfl ?_
      refine aw_get (q := 40) gdX2_keep_27.2.2.2.2.2.2.1 rfl fl_X2_11 0 rfl rfl ?_
      refine aw_iload (q := 42) gdX2_keep_27.2.2.2.2.2.2.2 rfl 0 rfl ?_
      refine aw_iload (q := 44) gdX2_keep_42.1 rfl 5 rfl ?_
      refine aw_iast (q := 45) (ws' := [(h, .inr (4, [.ref a, .int sz])), (a, .inl (0, 2646, .inl (upd f x3.toNatClampNeg p3)))]) gdX2_keep_42.2.1 rfl 1 rfl rfl ?_
      exact aw_return (w := [(h, .inr (4, [.ref a, .int sz])), (a, .inl (0, 2646, .inl (upd f x3.toNatClampNeg p3)))]) [0, 1] gdX2_keep_42.2.2 rfl rfl rfl (PN.mk (fun _ => 0) rfl rfl)
    · refine aw_aload_n (q := 27) gdX2_keep_14.2.2.2.2.2.2.2 rfl 1 rfl ?_
      refine aw_dup (q := 28) gdX2_keep_27.1 rfl rfl ?_
      refine aw_get (q := 31) gdX2_keep_27.2.1 rfl fl_X2_21 0 rfl rfl ?_
      refine aw_iconst (q := 32) (v := 1) gdX2_keep_27.2.2.1 rfl (by decide) ?_
      refine aw_iadd (q := 33) gdX2_keep_27.2.2.2.1 rfl ?_
      refine aw_put (q := 36) (ws' := [(h, .inr (4, [.ref a, .int (sz + (1 : Int32))])), (a, .inl (0, 2646, .inl f))]) gdX2_keep_27.2.2.2.2.1 rfl fl_X2_21 0 rfl rfl rfl (Nat.le_of_ble_eq_true rfl) rfl ?_
      refine aw_aload_n (q := 37) gdX2_keep_27.2.2.2.2.2.1 rfl 1 rfl ?_
      refine aw_get (q := 40) gdX2_keep_27.2.2.2.2.2.2.1 rfl fl_X2_11 0 rfl rfl ?_
      refine aw_iload (q := 42) gdX2_keep_27.2.2.2.2.2.2.2 rfl 0 rfl ?_
      refine aw_iload (q := 44) gdX2_keep_42.1 rfl 5 rfl ?_
      refine aw_iast (q := 45) (ws' := [(h, .inr (4, [.ref a, .int (sz + (1 : Int32))])), (a, .inl (0, 2646, .inl (upd f x3.toNatClampNeg p3)))]) gdX2_keep_42.2.1 rfl 1 rfl rfl ?_
      exact aw_return (w := [(h, .inr (4, [.ref a, .int (sz + (1 : Int32))])), (a, .inl (0, 2646, .inl (upd f x3.toNatClampNeg p3)))]) [0, 1] gdX2_keep_42.2.2 rfl rfl rfl (PN.mk (fun _ => 0) rfl rfl)
  · exact aw_return (w := [(h, .inr (4, [.ref a, .int sz])), (a, .inl (0, 2646, .inl f))]) [0, 1] gdX2_keep_14.1 rfl rfl rfl (PN.mk (fun _ => 0) rfl rfl)
def fX2_drop (N K : Nat) (sz : Int32) (f : Nat → Int32) (p0 : Int32) (p1 : Int32) (p2 : Int32) : Option (Int32 × (Nat → Int32)) :=
  ((fX2_slotOf N K p0 p1 p2).bind (fun x3 => (if x3 = (-1 : Int32) then (some (sz, f)) else (if x3 < 0 ∨ 2646 ≤ x3.toNatClampNeg then none else (if (f x3.toNatClampNeg) = (-1 : Int32) then (some (sz, f)) else (if x3 < 0 ∨ 2646 ≤ x3.toNatClampNeg then none else (some ((sz - (1 : Int32)), (upd f x3.toNatClampNeg (-1 : Int32))))))))))
set_option maxHeartbeats 4000000 in
set_option maxRecDepth 100000 in
theorem ok_X2_drop {N K : Nat} {h a : Nat} {sz : Int32} {f : Nat → Int32} {p0 : Int32} {p1 : Int32} {p2 : Int32} {xr : Int32 × (Nat → Int32)} (hE : fX2_drop N K sz f p0 p1 p2 = some xr) : OkM yX2_drop (.code yX2_drop cX2_drop 5 none) (1) 0 0 [.ref h, .int p0, .int p1, .int p2] [(h, .inr (4, [.ref a, .int sz])), (a, .inl (0, 2646, .inl f))] ((PN (U := Int32 × (Nat → Int32)) (fun _ _ => none) (fun zz ad => [(h, .inr (4, [.ref a, .int zz.1])), (a, .inl (0, 2646, .inl zz.2))])) xr) := by
  refine ok_of (by decide) (Nat.le_of_ble_eq_true rfl) hE ?_
  refine aw_locals (lv' := [(0, .ref h), (1, .int p0), (2, .int p1), (3, .int p2)]) [0, 1, 2, 3] rfl ?_
  refine aw_iload_n (q := 1) gdX2_drop_0.1 rfl 1 rfl ?_
  refine aw_iload_n (q := 2) gdX2_drop_0.2.1 rfl 2 rfl ?_
  refine aw_iload_n (q := 3) gdX2_drop_0.2.2.1 rfl 3 rfl ?_
  refine aw_call (q := 6) (kc1 := 0) (ks1 := 0) (wc := []) (wr := [(h, .inr (4, [.ref a, .int sz])), (a, .inl (0, 2646, .inl f))]) (st1 := fun x3 g3 => [.int x3]) (ws1 := fun x3 g3 => [(h, .inr (4, [.ref a, .int sz])), (a, .inl (0, 2646, .inl f))]) (As := [.int p0, .int p1, .int p2]) [] [0, 1] (fun _ => runS gdX2_drop_0.2.2.2.1 mi_X2_slotOf st_X2_slotOf ml_X2_37 (by omega) rfl (Nat.le_of_ble_eq_true rfl) rfl) (fun x9 h9 => ok_X2_slotOf h9) rfl rfl rfl rfl rfl (by decide +kernel) (by omega) (by omega) (fun _ _ => rfl) (fun _ _ => rfl) (fun x3 g3 => ?_)
  refine aw_istore (q := 8) (lv' := [(4, .int x3), (0, .ref h), (1, .int p0), (2, .int p1), (3, .int p2)]) gdX2_drop_0.2.2.2.2.1 rfl (by decide) rfl ?_
  refine aw_iload (q := 10) gdX2_drop_0.2.2.2.2.2.1 rfl 0 rfl ?_
  refine aw_iconst (q := 11) (v := (-1)) gdX2_drop_0.2.2.2.2.2.2.1 rfl (by decide) ?_
  refine aw_icmp_eq (tgt := 43) (q := 14) gdX2_drop_0.2.2.2.2.2.2.2 (by decide) rfl (fun h_11 => ?_) (fun h_11 => ?_)
  · exact aw_return (w := [(h, .inr (4, [.ref a, .int sz])), (a, .inl (0, 2646, .inl f))]) [0, 1] gdX2_drop_40.2 rfl rfl rfl (PN.mk (fun _ => 0) rfl rfl)
  · refine aw_aload_n (q := 15) gdX2_drop_14.1 rfl 1 rfl ?_
    refine aw_get (q := 18) gdX2_drop_14.2.1 rfl fl_X2_11 0 rfl rfl ?_
    refine aw_iload (q := 20) gdX2_drop_14.2.2.1 rfl 0 rfl ?_
    refine aw_iald (q := 21) gdX2_drop_14.2.2.2.1 rfl 1 rfl ?_
    refine aw_iconst (q := 22) (v := (-1)) gdX2_drop_14.2.2.2.2.1 rfl (by decide) ?_
    refine aw_icmp_eq (tgt := 43) (q := 25) gdX2_drop_14.2.2.2.2.2.1 (by decide) rfl (fun h_22 => ?_) (fun h_22 => ?_)
    · exact aw_return (w := [(h, .inr (4, [.ref a, .int sz])), (a, .inl (0, 2646, .inl f))]) [0, 1] gdX2_drop_40.2 rfl rfl rfl (PN.mk (fun _ => 0) rfl rfl)
    · refine aw_aload_n (q := 26) gdX2_drop_14.2.2.2.2.2.2.1 rfl 1 rfl ?_
      refine aw_get (q := 29) gdX2_drop_14.2.2.2.2.2.2.2 rfl fl_X2_11 0 rfl rfl ?_
      refine aw_iload (q := 31) gdX2_drop_29.1 rfl 0 rfl ?_
      refine aw_iconst (q := 32) (v := (-1)) gdX2_drop_29.2.1 rfl (by decide) ?_
      refine aw_iast (q := 33) (ws' := [(h, .inr (4, [.ref a, .int sz])), (a, .inl (0, 2646, .inl (upd f x3.toNatClampNeg (-1 : Int32))))]) gdX2_drop_29.2.2.1 rfl 1 rfl rfl ?_
      refine aw_aload_n (q := 34) gdX2_drop_29.2.2.2.1 rfl 1 rfl ?_
      refine aw_dup (q := 35) gdX2_drop_29.2.2.2.2.1 rfl rfl ?_
      refine aw_get (q := 38) gdX2_drop_29.2.2.2.2.2.1 rfl fl_X2_21 0 rfl rfl ?_
      refine aw_iconst (q := 39) (v := 1) gdX2_drop_29.2.2.2.2.2.2.1 rfl (by decide) ?_
      refine aw_isub (q := 40) gdX2_drop_29.2.2.2.2.2.2.2 rfl ?_
      refine aw_put (q := 43) (ws' := [(h, .inr (4, [.ref a, .int (sz - (1 : Int32))])), (a, .inl (0, 2646, .inl (upd f x3.toNatClampNeg (-1 : Int32))))]) gdX2_drop_40.1 rfl fl_X2_21 0 rfl rfl rfl (Nat.le_of_ble_eq_true rfl) rfl ?_
      exact aw_return (w := [(h, .inr (4, [.ref a, .int (sz - (1 : Int32))])), (a, .inl (0, 2646, .inl (upd f x3.toNatClampNeg (-1 : Int32))))]) [0, 1] gdX2_drop_40.2 rfl rfl rfl (PN.mk (fun _ => 0) rfl rfl)
def fX2_aspect (N K : Nat) (sz : Int32) (f : Nat → Int32) (p0 : Int32) (p1 : Int32) : Option (Int32) :=
  (if p1 = (0 : Int32) then ((fX2_kindOf N K p0).bind (fun x29 => (some x29))) else (if p1 = (1 : Int32) then ((fX2_numberOf N K p0).bind (fun x34 => (some x34))) else (if p1 = (2 : Int32) then ((fX2_measureOf N K p0).bind (fun x39 => (some x39))) else (if p0 < 0 then (some (-1 : Int32)) else (if p0 < (2646 : Int32) then (if p0 < 0 ∨ 2646 ≤ p0.toNatClampNeg then none else (some (f p0.toNatClampNeg))) else (some (-1 : Int32)))))))
set_option maxHeartbeats 4000000 in
set_option maxRecDepth 100000 in
theorem ok_X2_aspect {N K : Nat} {h a : Nat} {sz : Int32} {f : Nat → Int32} {p0 : Int32} {p1 : Int32} {xr : Int32} (hE : fX2_aspect N K sz f p0 p1 = some xr) : OkM yX2_aspect (.code yX2_aspect cX2_aspect 3 (some .int)) (1) 0 0 [.ref h, .int p0, .int p1] [(h, .inr (4, [.ref a, .int sz])), (a, .inl (0, 2646, .inl f))] ((PN (U := Int32) (fun zz _ => some (.int zz)) (fun zz ad => [(h, .inr (4, [.ref a, .int sz])), (a, .inl (0, 2646, .inl f))])) xr) := by
  refine ok_of (by decide) (Nat.le_of_ble_eq_true rfl) hE ?_
  refine aw_locals (lv' := [(0, .ref h), (1, .int p0), (2, .int p1)]) [0, 1, 2] rfl ?_
  refine aw_iload_n (q := 1) gdX2_aspect_0.1 rfl 2 rfl ?_
  refine aw_tsw (v := 0) (off := 27) (tgt := 28) gdX2_aspect_0.2.1 (by decide) (by decide) (by decide) (by decide) (fun hs_1_0 => ?_) (fun hs_1_0 => ?_)
  · refine aw_iload_n (q := 29) gdX2_aspect_0.2.2.1 rfl 1 rfl ?_
    refine aw_call (q := 32) (kc1 := 0) (ks1 := 0) (wc := []) (wr := [(h, .inr (4, [.ref a, .int sz])), (a, .inl (0, 2646, .inl f))]) (st1 := fun x29 g29 => [.int x29]) (ws1 := fun x29 g29 => [(h, .inr (4, [.ref a, .int sz])), (a, .inl (0, 2646, .inl f))]) (As := [.int p0]) [] [0, 1] (fun _ => runS gdX2_aspect_0.2.2.2.1 mi_X2_kindOf st_X2_kindOf ml_X2_98 (by omega) rfl (Nat.le_of_ble_eq_true rfl) rfl) (fun x9 h9 => ok_X2_kindOf h9) rfl rfl rfl rfl rfl (by decide +kernel) (by omega) (by omega) (fun _ _ => rfl) (fun _ _ => rfl) (fun x29 g29 => ?_)
    exact aw_ireturn (w := [(h, .inr (4, [.ref a, .int sz])), (a, .inl (0, 2646, .inl f))]) [0, 1] gdX2_aspect_0.2.2.2.2.1 rfl rfl rfl rfl (PN.mk (fun _ => 0) rfl rfl)
  · refine aw_tsw (v := 1) (off := 32) (tgt := 33) gdX2_aspect_0.2.1 (by decide) (by decide) (by decide) (by decide) (fun hs_1_1 => ?_) (fun hs_1_1 => ?_)
    · refine aw_iload_n (q := 34) gdX2_aspect_0.2.2.2.2.2.1 rfl 1 rfl ?_
      refine aw_call (q := 37) (kc1 := 0) (ks1 := 0) (wc := []) (wr := [(h, .inr (4, [.ref a, .int sz])), (a, .inl (0, 2646, .inl f))]) (st1 := fun x34 g34 => [.int x34]) (ws1 := fun x34 g34 => [(h, .inr (4, [.ref a, .int sz])), (a, .inl (0, 2646, .inl f))]) (As := [.int p0]) [] [0, 1] (fun _ => runS gdX2_aspect_0.2.2.2.2.2.2.1 mi_X2_numberOf st_X2_numberOf ml_X2_92 (by omega) rfl (Nat.le_of_ble_eq_true rfl) rfl) (fun x9 h9 => ok_X2_numberOf h9) rfl rfl rfl rfl rfl (by decide +kernel) (by omega) (by omega) (fun _ _ => rfl) (fun _ _ => rfl) (fun x34 g34 => ?_)
      exact aw_ireturn (w := [(h, .inr (4, [.ref a, .int sz])), (a, .inl (0, 2646, .inl f))]) [0, 1] gdX2_aspect_0.2.2.2.2.2.2.2 rfl rfl rfl rfl (PN.mk (fun _ => 0) rfl rfl)
    · refine aw_tsw (v := 2) (off := 37) (tgt := 38) gdX2_aspect_0.2.1 (by decide) (by decide) (by decide) (by decide) (fun hs_1_2 => ?_) (fun hs_1_2 => ?_)
      · refine aw_iload_n (q := 39) gdX2_aspect_38.1 rfl 1 rfl ?_
        refine aw_call (q := 42) (kc1 := 0) (ks1 := 0) (wc := []) (wr := [(h, .inr (4, [.ref a, .int sz])), (a, .inl (0, 2646, .inl f))]) (st1 := fun x39 g39 => [.int x39]) (ws1 := fun x39 g39 => [(h, .inr (4, [.ref a, .int sz])), (a, .inl (0, 2646, .inl f))]) (As := [.int p0]) [] [0, 1] (fun _ => runS gdX2_aspect_38.2.1 mi_X2_measureOf st_X2_measureOf ml_X2_95 (by omega) rfl (Nat.le_of_ble_eq_true rfl) rfl) (fun x9 h9 => ok_X2_measureOf h9) rfl rfl rfl rfl rfl (by decide +kernel) (by omega) (by omega) (fun _ _ => rfl) (fun _ _ => rfl) (fun x39 g39 => ?_)
        exact aw_ireturn (w := [(h, .inr (4, [.ref a, .int sz])), (a, .inl (0, 2646, .inl f))]) [0, 1] gdX2_aspect_38.2.2.1 rfl rfl rfl rfl (PN.mk (fun _ => 0) rfl rfl)
      · refine aw_tswD (tgt := 43) gdX2_aspect_0.2.1 (by have e0 := lv_neT (a := 0) hs_1_0 (by decide); have e1 := lv_neT (a := 1) hs_1_1 (by decide); have e2 := lv_neT (a := 2) hs_1_2 (by decide); omega) (by decide) ?_
        refine aw_iload_n (q := 44) gdX2_aspect_38.2.2.2.1 rfl 1 rfl ?_
        refine aw_if_lt (tgt := 54) (q := 47) gdX2_aspect_38.2.2.2.2.1 (by decide) rfl (fun h_44 => ?_) (fun h_44 => ?_)
        · refine aw_iconst (q := 55) (v := (-1)) gdX2_aspect_54.1 rfl (by decide) ?_
          refine aw_goto (tgt := 64) gdX2_aspect_54.2.1 (by decide) ?_
          exact aw_ireturn (w := [(h, .inr (4, [.ref a, .int sz])), (a, .inl (0, 2646, .inl f))]) [0, 1] gdX2_aspect_54.2.2.2.2.2.2 rfl rfl rfl rfl (PN.mk (fun _ => 0) rfl rfl)
        · refine aw_iload_n (q := 48) gdX2_aspect_38.2.2.2.2.2.1 rfl 1 rfl ?_
          refine aw_sipush (q := 51) (v := 2646) gdX2_aspect_38.2.2.2.2.2.2.1 rfl (by decide) ?_
          refine aw_icmp_lt (tgt := 58) (q := 54) gdX2_aspect_38.2.2.2.2.2.2.2 (by decide) rfl (fun h_51 => ?_) (fun h_51 => ?_)
          · refine aw_aload_n (q := 59) gdX2_aspect_54.2.2.1 rfl 0 rfl ?_
            refine aw_get (q := 62) gdX2_aspect_54.2.2.2.1 rfl fl_X2_11 0 rfl rfl ?_
            refine aw_iload_n (q := 63) gdX2_aspect_54.2.2.2.2.1 rfl 1 rfl ?_
            refine aw_iald (q := 64) gdX2_aspect_54.2.2.2.2.2.1 rfl 1 rfl ?_
            exact aw_ireturn (w := [(h, .inr (4, [.ref a, .int sz])), (a, .inl (0, 2646, .inl f))]) [0, 1] gdX2_aspect_54.2.2.2.2.2.2 rfl rfl rfl rfl (PN.mk (fun _ => 0) rfl rfl)
          · refine aw_iconst (q := 55) (v := (-1)) gdX2_aspect_54.1 rfl (by decide) ?_
            refine aw_goto (tgt := 64) gdX2_aspect_54.2.1 (by decide) ?_
            exact aw_ireturn (w := [(h, .inr (4, [.ref a, .int sz])), (a, .inl (0, 2646, .inl f))]) [0, 1] gdX2_aspect_54.2.2.2.2.2.2 rfl rfl rfl rfl (PN.mk (fun _ => 0) rfl rfl)
def fX2_dropEach_46 (N K : Nat) (sz : Int32) (f : Nat → Int32) (p0 : Int32) (p1 : Int32) (k_5 : Int32 → Int32 → Int32 → (Nat → Int32) → Option (Int32 × Int32 × (Nat → Int32))) (l3 : Int32) (l4 : Int32) (sz_ : Int32) (f_ : Nat → Int32) : Option (Int32 × Int32 × (Nat → Int32)) :=
  k_5 l3 (l4 + (1 : Int32)) sz_ f_
set_option maxHeartbeats 4000000 in
set_option maxRecDepth 100000 in
theorem tX2_dropEach_46 {N K : Nat} {h a : Nat} {sz : Int32} {f : Nat → Int32} {p0 : Int32} {p1 : Int32} {k_5 : Int32 → Int32 → Int32 → (Nat → Int32) → Option (Int32 × Int32 × (Nat → Int32))} (hk_5 : ∀ (l3 : Int32) (l4 : Int32) (sz_ : Int32) (f_ : Nat → Int32), AW RX2 "dropEach" cX2_dropEach 5 (some .int) [] (fun _ _ => True) (2) (PN (U := Int32 × Int32 × (Nat → Int32)) (fun zz _ => some (.int zz.1)) (fun zz ad => [(h, .inr (4, [.ref a, .int zz.2.1])), (a, .inl (0, 2646, .inl zz.2.2))])) 0 0 (k_5 l3 l4 sz_ f_) 5 [(0, .ref h), (1, .int p0), (2, .int p1), (3, .int l3), (4, .int l4)] [] [(h, .inr (4, [.ref a, .int sz_])), (a, .inl (0, 2646, .inl f_))]) : ∀ (l3 : Int32) (l4 : Int32) (sz_ : Int32) (f_ : Nat → Int32), AW RX2 "dropEach" cX2_dropEach 5 (some .int) [] (fun _ _ => True) (2) (PN (U := Int32 × Int32 × (Nat → Int32)) (fun zz _ => some (.int zz.1)) (fun zz ad => [(h, .inr (4, [.ref a, .int zz.2.1])), (a, .inl (0, 2646, .inl zz.2.2))])) 0 0 (fX2_dropEach_46 N K sz f p0 p1 k_5 l3 l4 sz_ f_) 46 [(0, .ref h), (1, .int p0), (2, .int p1), (3, .int l3), (4, .int l4)] [] [(h, .inr (4, [.ref a, .int sz_])), (a, .inl (0, 2646, .inl f_))] := by
  intro l3 l4 sz_ f_
  refine aw_iinc (q := 49) (v := (l4 + (1 : Int32))) (lv' := [(4, .int (l4 + (1 : Int32))), (0, .ref h), (1, .int p0), (2, .int p1), (3, .int l3)]) gdX2_dropEach_43.2.1 rfl 4 rfl rfl (by decide) rfl ?_
  refine aw_goto (tgt := 5) gdX2_dropEach_43.2.2.1 (by decide) ?_
  refine aw_locals (lv' := [(0, .ref h), (1, .int p0), (2, .int p1), (3, .int l3), (4, .int (l4 + (1 : Int32)))]) [1, 2, 3, 4, 0] rfl ?_
  exact hk_5 _ _ _ _
def fX2_dropEach_5 (N K : Nat) (sz : Int32) (f : Nat → Int32) (p0 : Int32) (p1 : Int32) : Nat → Int32 → Int32 → Int32 → (Nat → Int32) → Option (Int32 × Int32 × (Nat → Int32))
  | 0, _, _, _, _ => none
  | fu + 1, l3, l4, sz_, f_ =>
    (if (2646 : Int32) ≤ l4 then (some (l3, (sz_ - l3), f_)) else (if l4 < 0 ∨ 2646 ≤ l4.toNatClampNeg then none else (if (f_ l4.toNatClampNeg) = (-1 : Int32) then fX2_dropEach_46 N K sz f p0 p1 (fX2_dropEach_5 N K sz f p0 p1  fu) l3 l4 sz_ f_ else ((fX2_aspect N K sz_ f_ l4 p0).bind (fun x28 => (if x28 = p1 then (if l4 < 0 ∨ 2646 ≤ l4.toNatClampNeg then none else fX2_dropEach_46 N K sz f p0 p1 (fX2_dropEach_5 N K sz f p0 p1  fu) (l3 + (1 : Int32)) l4 sz_ (upd f_ l4.toNatClampNeg (-1 : Int32))) else fX2_dropEach_46 N K sz f p0 p1 (fX2_dropEach_5 N K sz f p0 p1  fu) l3 l4 sz_ f_))))))
set_option maxHeartbeats 4000000 in
set_option maxRecDepth 100000 in
theorem tX2_dropEach_5 {N K : Nat} {h a : Nat} {sz : Int32} {f : Nat → Int32} {p0 : Int32} {p1 : Int32} : ∀ (fu : Nat) (l3 : Int32) (l4 : Int32) (sz_ : Int32) (f_ : Nat → Int32), AW RX2 "dropEach" cX2_dropEach 5 (some .int) [] (fun _ _ => True) (2) (PN (U := Int32 × Int32 × (Nat → Int32)) (fun zz _ => some (.int zz.1)) (fun zz ad => [(h, .inr (4, [.ref a, .int zz.2.1])), (a, .inl (0, 2646, .inl zz.2.2))])) 0 0 (fX2_dropEach_5 N K sz f p0 p1  fu l3 l4 sz_ f_) 5 [(0, .ref h), (1, .int p0), (2, .int p1), (3, .int l3), (4, .int l4)] [] [(h, .inr (4, [.ref a, .int sz_])), (a, .inl (0, 2646, .inl f_))] := by
  intro fu
  induction fu with
  | zero => intro l3 l4 sz_ f_; exact aw_none
  | succ fu ih =>
    intro l3 l4 sz_ f_
    refine aw_iload (q := 7) gdX2_dropEach_0.2.2.2.2.1 rfl 4 rfl ?_
    refine aw_sipush (q := 10) (v := 2646) gdX2_dropEach_0.2.2.2.2.2.1 rfl (by decide) ?_
    refine aw_icmp_ge (tgt := 52) (q := 13) gdX2_dropEach_0.2.2.2.2.2.2.1 (by decide) rfl (fun h_10 => ?_) (fun h_10 => ?_)
    · refine aw_aload_n (q := 53) gdX2_dropEach_43.2.2.2.1 rfl 0 rfl ?_
      refine aw_dup (q := 54) gdX2_dropEach_43.2.2.2.2.1 rfl rfl ?_
      refine aw_get (q := 57) gdX2_dropEach_43.2.2.2.2.2.1 rfl fl_X2_21 0 rfl rfl ?_
      refine aw_iload_n (q := 58) gdX2_dropEach_43.2.2.2.2.2.2.1 rfl 3 rfl ?_
      refine aw_isub (q := 59) gdX2_dropEach_43.2.2.2.2.2.2.2 rfl ?_
      refine aw_put (q := 62) (ws' := [(h, .inr (4, [.ref a, .int (sz_ - l3)])), (a, .inl (0, 2646, .inl f_))]) gdX2_dropEach_59.1 rfl fl_X2_21 0 rfl rfl rfl (Nat.le_of_ble_eq_true rfl) rfl ?_
      refine aw_iload_n (q := 63) gdX2_dropEach_59.2.1 rfl 3 rfl ?_
      exact aw_ireturn (w := [(h, .inr (4, [.ref a, .int (sz_ - l3)])), (a, .inl (0, 2646, .inl f_))]) [0, 1] gdX2_dropEach_59.2.2 rfl rfl rfl rfl (PN.mk (fun _ => 0) rfl rfl)
    · refine aw_aload_n (q := 14) gdX2_dropEach_0.2.2.2.2.2.2.2 rfl 0 rfl ?_
      refine aw_get (q := 17) gdX2_dropEach_14.1 rfl fl_X2_11 0 rfl rfl ?_
      refine aw_iload (q := 19) gdX2_dropEach_14.2.1 rfl 4 rfl ?_
      refine aw_iald (q := 20) gdX2_dropEach_14.2.2.1 rfl 1 rfl ?_
      refine aw_iconst (q := 21) (v := (-1)) gdX2_dropEach_14.2.2.2.1 rfl (by decide) ?_
      refine aw_icmp_eq (tgt := 46) (q := 24) gdX2_dropEach_14.2.2.2.2.1 (by decide) rfl (fun h_21 => ?_) (fun h_21 => ?_)
      · exact tX2_dropEach_46 ih _ _ _ _
      · refine aw_aload_n (q := 25) gdX2_dropEach_14.2.2.2.2.2.1 rfl 0 rfl ?_
        refine aw_iload (q := 27) gdX2_dropEach_14.2.2.2.2.2.2.1 rfl 4 rfl ?_
        refine aw_iload_n (q := 28) gdX2_dropEach_14.2.2.2.2.2.2.2 rfl 1 rfl ?_
        refine aw_call (q := 31) (kc1 := 0) (ks1 := 0) (wc := [(h, .inr (4, [.ref a, .int sz_])), (a, .inl (0, 2646, .inl f_))]) (wr := []) (st1 := fun x28 g28 => [.int x28]) (ws1 := fun x28 g28 => [(h, .inr (4, [.ref a, .int sz_])), (a, .inl (0, 2646, .inl f_))]) (As := [.ref h, .int l4, .int p0]) [0, 1] [] (fun _ => runV (q0 := 0) gdX2_dropEach_28.1 mi_X2_aspect im_X2_aspect se_X2_aspect ml_X2_65 (by omega) rfl (Nat.le_of_ble_eq_true rfl) rfl rfl rfl rfl) (fun x9 h9 => ok_X2_aspect h9) rfl rfl rfl rfl rfl (by decide +kernel) (by omega) (by omega) (fun _ _ => rfl) (fun _ _ => rfl) (fun x28 g28 => ?_)
        refine aw_iload_n (q := 32) gdX2_dropEach_28.2.1 rfl 2 rfl ?_
        refine aw_icmp_ne (tgt := 46) (q := 35) gdX2_dropEach_28.2.2.1 (by decide) rfl (fun h_32 => ?_) (fun h_32 => ?_)
        · exact tX2_dropEach_46 ih _ _ _ _
        · refine aw_aload_n (q := 36) gdX2_dropEach_28.2.2.2.1 rfl 0 rfl ?_
          refine aw_get (q := 39) gdX2_dropEach_28.2.2.2.2.1 rfl fl_X2_11 0 rfl rfl ?_
          refine aw_iload (q := 41) gdX2_dropEach_28.2.2.2.2.2.1 rfl 4 rfl ?_
          refine aw_iconst (q := 42) (v := (-1)) gdX2_dropEach_28.2.2.2.2.2.2.1 rfl (by decide) ?_
          refine aw_iast (q := 43) (ws' := [(h, .inr (4, [.ref a, .int sz_])), (a, .inl (0, 2646, .inl (upd f_ l4.toNatClampNeg (-1 : Int32))))]) gdX2_dropEach_28.2.2.2.2.2.2.2 rfl 1 rfl rfl ?_
          refine aw_iinc (q := 46) (v := (l3 + (1 : Int32))) (lv' := [(3, .int (l3 + (1 : Int32))), (0, .ref h), (1, .int p0), (2, .int p1), (4, .int l4)]) gdX2_dropEach_43.1 rfl 3 rfl rfl (by decide) rfl ?_
          refine aw_locals (lv' := [(0, .ref h), (1, .int p0), (2, .int p1), (3, .int (l3 + (1 : Int32))), (4, .int l4)]) [1, 2, 3, 0, 4] rfl ?_
          exact tX2_dropEach_46 ih _ _ _ _
def fX2_dropEach (N K : Nat) (sz : Int32) (f : Nat → Int32) (p0 : Int32) (p1 : Int32) : Option (Int32 × Int32 × (Nat → Int32)) :=
  fX2_dropEach_5 N K sz f p0 p1  N (0 : Int32) (0 : Int32) sz f
set_option maxHeartbeats 4000000 in
set_option maxRecDepth 100000 in
theorem ok_X2_dropEach {N K : Nat} {h a : Nat} {sz : Int32} {f : Nat → Int32} {p0 : Int32} {p1 : Int32} {xr : Int32 × Int32 × (Nat → Int32)} (hE : fX2_dropEach N K sz f p0 p1 = some xr) : OkM yX2_dropEach (.code yX2_dropEach cX2_dropEach 5 (some .int)) (2) 0 0 [.ref h, .int p0, .int p1] [(h, .inr (4, [.ref a, .int sz])), (a, .inl (0, 2646, .inl f))] ((PN (U := Int32 × Int32 × (Nat → Int32)) (fun zz _ => some (.int zz.1)) (fun zz ad => [(h, .inr (4, [.ref a, .int zz.2.1])), (a, .inl (0, 2646, .inl zz.2.2))])) xr) := by
  refine ok_of (by decide) (Nat.le_of_ble_eq_true rfl) hE ?_
  refine aw_locals (lv' := [(0, .ref h), (1, .int p0), (2, .int p1)]) [0, 1, 2] rfl ?_
  refine aw_iconst (q := 1) (v := 0) gdX2_dropEach_0.1 rfl (by decide) ?_
  refine aw_istore_n (q := 2) (lv' := [(3, .int (0 : Int32)), (0, .ref h), (1, .int p0), (2, .int p1)]) gdX2_dropEach_0.2.1 rfl (by decide) rfl ?_
  refine aw_iconst (q := 3) (v := 0) gdX2_dropEach_0.2.2.1 rfl (by decide) ?_
  refine aw_istore (q := 5) (lv' := [(4, .int (0 : Int32)), (3, .int (0 : Int32)), (0, .ref h), (1, .int p0), (2, .int p1)]) gdX2_dropEach_0.2.2.2.1 rfl (by decide) rfl ?_
  refine aw_locals (lv' := [(0, .ref h), (1, .int p0), (2, .int p1), (3, .int (0 : Int32)), (4, .int (0 : Int32))]) [2, 3, 4, 1, 0] rfl ?_
  exact tX2_dropEach_5  N _ _ _ _
def fX2_dropAll (N K : Nat) (sz : Int32) (f : Nat → Int32) : Option (Int32 × Int32 × (Nat → Int32)) :=
  ((fJ_fill N K 2646 f (-1 : Int32)).bind (fun x10 => (some (sz, (0 : Int32), x10))))
set_option maxHeartbeats 4000000 in
set_option maxRecDepth 100000 in
theorem ok_X2_dropAll {N K : Nat} {h a : Nat} {sz : Int32} {f : Nat → Int32} {xr : Int32 × Int32 × (Nat → Int32)} (hE : fX2_dropAll N K sz f = some xr) : OkM yX2_dropAll (.code yX2_dropAll cX2_dropAll 2 (some .int)) (1) 0 0 [.ref h] [(h, .inr (4, [.ref a, .int sz])), (a, .inl (0, 2646, .inl f))] ((PN (U := Int32 × Int32 × (Nat → Int32)) (fun zz _ => some (.int zz.1)) (fun zz ad => [(h, .inr (4, [.ref a, .int zz.2.1])), (a, .inl (0, 2646, .inl zz.2.2))])) xr) := by
  refine ok_of (by decide) (Nat.le_of_ble_eq_true rfl) hE ?_
  refine aw_locals (lv' := [(0, .ref h)]) [0] rfl ?_
  refine aw_aload_n (q := 1) gdX2_dropAll_0.1 rfl 0 rfl ?_
  refine aw_get (q := 4) gdX2_dropAll_0.2.1 rfl fl_X2_21 0 rfl rfl ?_
  refine aw_istore_n (q := 5) (lv' := [(1, .int sz), (0, .ref h)]) gdX2_dropAll_0.2.2.1 rfl (by decide) rfl ?_
  refine aw_aload_n (q := 6) gdX2_dropAll_0.2.2.2.1 rfl 1 rfl ?_
  refine aw_get (q := 9) gdX2_dropAll_0.2.2.2.2.1 rfl fl_X2_11 0 rfl rfl ?_
  refine aw_iconst (q := 10) (v := (-1)) gdX2_dropAll_0.2.2.2.2.2.1 rfl (by decide) ?_
  refine aw_call (q := 13) (kc1 := 0) (ks1 := 0) (wc := [(a, .inl (0, 2646, .inl f))]) (wr := [(h, .inr (4, [.ref a, .int sz]))]) (st1 := fun x10 g10 => []) (ws1 := fun x10 g10 => [(h, .inr (4, [.ref a, .int sz])), (a, .inl (0, 2646, .inl x10))]) (As := [.ref a, .int (-1 : Int32)]) [1] [0] (fun _ => runS gdX2_dropAll_0.2.2.2.2.2.2.1 mi_J7_fill_53178 st_J7_fill_53178 ml_X2_15 (by omega) rfl (Nat.le_of_ble_eq_true rfl) rfl) (fun x9 h9 => ok_J_fill h9) rfl rfl rfl rfl rfl (by decide +kernel) (by omega) (by omega) (fun _ _ => rfl) (fun _ _ => rfl) (fun x10 g10 => ?_)
  refine aw_aload_n (q := 14) gdX2_dropAll_0.2.2.2.2.2.2.2 rfl 1 rfl ?_
  refine aw_iconst (q := 15) (v := 0) gdX2_dropAll_14.1 rfl (by decide) ?_
  refine aw_put (q := 18) (ws' := [(h, .inr (4, [.ref a, .int (0 : Int32)])), (a, .inl (0, 2646, .inl x10))]) gdX2_dropAll_14.2.1 rfl fl_X2_21 0 rfl rfl rfl (Nat.le_of_ble_eq_true rfl) rfl ?_
  refine aw_iload_n (q := 19) gdX2_dropAll_14.2.2.1 rfl 0 rfl ?_
  exact aw_ireturn (w := [(h, .inr (4, [.ref a, .int (0 : Int32)])), (a, .inl (0, 2646, .inl x10))]) [0, 1] gdX2_dropAll_14.2.2.2 rfl rfl rfl rfl (PN.mk (fun _ => 0) rfl rfl)
def fX2_howMany_38 (N K : Nat) (sz : Int32) (f : Nat → Int32) (p0 : Int32) (p1 : Int32) (k_5 : Int32 → Int32 → Option (Int32)) (l3 : Int32) (l4 : Int32) : Option (Int32) :=
  k_5 l3 (l4 + (1 : Int32))
set_option maxHeartbeats 4000000 in
set_option maxRecDepth 100000 in
theorem tX2_howMany_38 {N K : Nat} {h a : Nat} {sz : Int32} {f : Nat → Int32} {p0 : Int32} {p1 : Int32} {k_5 : Int32 → Int32 → Option (Int32)} (hk_5 : ∀ (l3 : Int32) (l4 : Int32), AW RX2 "howMany" cX2_howMany 5 (some .int) [] (fun _ _ => True) (2) (PN (U := Int32) (fun zz _ => some (.int zz)) (fun zz ad => [(h, .inr (4, [.ref a, .int sz])), (a, .inl (0, 2646, .inl f))])) 0 0 (k_5 l3 l4) 5 [(0, .ref h), (1, .int p0), (2, .int p1), (3, .int l3), (4, .int l4)] [] [(h, .inr (4, [.ref a, .int sz])), (a, .inl (0, 2646, .inl f))]) : ∀ (l3 : Int32) (l4 : Int32), AW RX2 "howMany" cX2_howMany 5 (some .int) [] (fun _ _ => True) (2) (PN (U := Int32) (fun zz _ => some (.int zz)) (fun zz ad => [(h, .inr (4, [.ref a, .int sz])), (a, .inl (0, 2646, .inl f))])) 0 0 (fX2_howMany_38 N K sz f p0 p1 k_5 l3 l4) 38 [(0, .ref h), (1, .int p0), (2, .int p1), (3, .int l3), (4, .int l4)] [] [(h, .inr (4, [.ref a, .int sz])), (a, .inl (0, 2646, .inl f))] := by
  intro l3 l4
  refine aw_iinc (q := 41) (v := (l4 + (1 : Int32))) (lv' := [(4, .int (l4 + (1 : Int32))), (0, .ref h), (1, .int p0), (2, .int p1), (3, .int l3)]) gdX2_howMany_28.2.2.2.2.1 rfl 4 rfl rfl (by decide) rfl ?_
  refine aw_goto (tgt := 5) gdX2_howMany_28.2.2.2.2.2.1 (by decide) ?_
  refine aw_locals (lv' := [(0, .ref h), (1, .int p0), (2, .int p1), (3, .int l3), (4, .int (l4 + (1 : Int32)))]) [1, 2, 3, 4, 0] rfl ?_
  exact hk_5 _ _
def fX2_howMany_5 (N K : Nat) (sz : Int32) (f : Nat → Int32) (p0 : Int32) (p1 : Int32) : Nat → Int32 → Int32 → Option (Int32)
  | 0, _, _ => none
  | fu + 1, l3, l4 =>
    (if (2646 : Int32) ≤ l4 then (some l3) else (if l4 < 0 ∨ 2646 ≤ l4.toNatClampNeg then none else (if (f l4.toNatClampNeg) = (-1 : Int32) then fX2_howMany_38 N K sz f p0 p1 (fX2_howMany_5 N K sz f p0 p1  fu) l3 l4 else ((fX2_aspect N K sz f l4 p0).bind (fun x28 => (if x28 = p1 then fX2_howMany_38 N K sz f p0 p1 (fX2_howMany_5 N K sz f p0 p1  fu) (l3 + (1 : Int32)) l4 else fX2_howMany_38 N K sz f p0 p1 (fX2_howMany_5 N K sz f p0 p1  fu) l3 l4))))))
set_option maxHeartbeats 4000000 in
set_option maxRecDepth 100000 in
theorem tX2_howMany_5 {N K : Nat} {h a : Nat} {sz : Int32} {f : Nat → Int32} {p0 : Int32} {p1 : Int32} : ∀ (fu : Nat) (l3 : Int32) (l4 : Int32), AW RX2 "howMany" cX2_howMany 5 (some .int) [] (fun _ _ => True) (2) (PN (U := Int32) (fun zz _ => some (.int zz)) (fun zz ad => [(h, .inr (4, [.ref a, .int sz])), (a, .inl (0, 2646, .inl f))])) 0 0 (fX2_howMany_5 N K sz f p0 p1  fu l3 l4) 5 [(0, .ref h), (1, .int p0), (2, .int p1), (3, .int l3), (4, .int l4)] [] [(h, .inr (4, [.ref a, .int sz])), (a, .inl (0, 2646, .inl f))] := by
  intro fu
  induction fu with
  | zero => intro l3 l4; exact aw_none
  | succ fu ih =>
    intro l3 l4
    refine aw_iload (q := 7) gdX2_howMany_0.2.2.2.2.1 rfl 4 rfl ?_
    refine aw_sipush (q := 10) (v := 2646) gdX2_howMany_0.2.2.2.2.2.1 rfl (by decide) ?_
    refine aw_icmp_ge (tgt := 44) (q := 13) gdX2_howMany_0.2.2.2.2.2.2.1 (by decide) rfl (fun h_10 => ?_) (fun h_10 => ?_)
    · refine aw_iload_n (q := 45) gdX2_howMany_28.2.2.2.2.2.2.1 rfl 3 rfl ?_
      exact aw_ireturn (w := [(h, .inr (4, [.ref a, .int sz])), (a, .inl (0, 2646, .inl f))]) [0, 1] gdX2_howMany_28.2.2.2.2.2.2.2 rfl rfl rfl rfl (PN.mk (fun _ => 0) rfl rfl)
    · refine aw_aload_n (q := 14) gdX2_howMany_0.2.2.2.2.2.2.2 rfl 0 rfl ?_
      refine aw_get (q := 17) gdX2_howMany_14.1 rfl fl_X2_11 0 rfl rfl ?_
      refine aw_iload (q := 19) gdX2_howMany_14.2.1 rfl 4 rfl ?_
      refine aw_iald (q := 20) gdX2_howMany_14.2.2.1 rfl 1 rfl ?_
      refine aw_iconst (q := 21) (v := (-1)) gdX2_howMany_14.2.2.2.1 rfl (by decide) ?_
      refine aw_icmp_eq (tgt := 38) (q := 24) gdX2_howMany_14.2.2.2.2.1 (by decide) rfl (fun h_21 => ?_) (fun h_21 => ?_)
      · exact tX2_howMany_38 ih _ _
      · refine aw_aload_n (q := 25) gdX2_howMany_14.2.2.2.2.2.1 rfl 0 rfl ?_
        refine aw_iload (q := 27) gdX2_howMany_14.2.2.2.2.2.2.1 rfl 4 rfl ?_
        refine aw_iload_n (q := 28) gdX2_howMany_14.2.2.2.2.2.2.2 rfl 1 rfl ?_
        refine aw_call (q := 31) (kc1 := 0) (ks1 := 0) (wc := [(h, .inr (4, [.ref a, .int sz])), (a, .inl (0, 2646, .inl f))]) (wr := []) (st1 := fun x28 g28 => [.int x28]) (ws1 := fun x28 g28 => [(h, .inr (4, [.ref a, .int sz])), (a, .inl (0, 2646, .inl f))]) (As := [.ref h, .int l4, .int p0]) [0, 1] [] (fun _ => runV (q0 := 0) gdX2_howMany_28.1 mi_X2_aspect im_X2_aspect se_X2_aspect ml_X2_65 (by omega) rfl (Nat.le_of_ble_eq_true rfl) rfl rfl rfl rfl) (fun x9 h9 => ok_X2_aspect h9) rfl rfl rfl rfl rfl (by decide +kernel) (by omega) (by omega) (fun _ _ => rfl) (fun _ _ => rfl) (fun x28 g28 => ?_)
        refine aw_iload_n (q := 32) gdX2_howMany_28.2.1 rfl 2 rfl ?_
        refine aw_icmp_ne (tgt := 38) (q := 35) gdX2_howMany_28.2.2.1 (by decide) rfl (fun h_32 => ?_) (fun h_32 => ?_)
        · exact tX2_howMany_38 ih _ _
        · refine aw_iinc (q := 38) (v := (l3 + (1 : Int32))) (lv' := [(3, .int (l3 + (1 : Int32))), (0, .ref h), (1, .int p0), (2, .int p1), (4, .int l4)]) gdX2_howMany_28.2.2.2.1 rfl 3 rfl rfl (by decide) rfl ?_
          refine aw_locals (lv' := [(0, .ref h), (1, .int p0), (2, .int p1), (3, .int (l3 + (1 : Int32))), (4, .int l4)]) [1, 2, 3, 0, 4] rfl ?_
          exact tX2_howMany_38 ih _ _
def fX2_howMany (N K : Nat) (sz : Int32) (f : Nat → Int32) (p0 : Int32) (p1 : Int32) : Option (Int32) :=
  fX2_howMany_5 N K sz f p0 p1  N (0 : Int32) (0 : Int32)
set_option maxHeartbeats 4000000 in
set_option maxRecDepth 100000 in
theorem ok_X2_howMany {N K : Nat} {h a : Nat} {sz : Int32} {f : Nat → Int32} {p0 : Int32} {p1 : Int32} {xr : Int32} (hE : fX2_howMany N K sz f p0 p1 = some xr) : OkM yX2_howMany (.code yX2_howMany cX2_howMany 5 (some .int)) (2) 0 0 [.ref h, .int p0, .int p1] [(h, .inr (4, [.ref a, .int sz])), (a, .inl (0, 2646, .inl f))] ((PN (U := Int32) (fun zz _ => some (.int zz)) (fun zz ad => [(h, .inr (4, [.ref a, .int sz])), (a, .inl (0, 2646, .inl f))])) xr) := by
  refine ok_of (by decide) (Nat.le_of_ble_eq_true rfl) hE ?_
  refine aw_locals (lv' := [(0, .ref h), (1, .int p0), (2, .int p1)]) [0, 1, 2] rfl ?_
  refine aw_iconst (q := 1) (v := 0) gdX2_howMany_0.1 rfl (by decide) ?_
  refine aw_istore_n (q := 2) (lv' := [(3, .int (0 : Int32)), (0, .ref h), (1, .int p0), (2, .int p1)]) gdX2_howMany_0.2.1 rfl (by decide) rfl ?_
  refine aw_iconst (q := 3) (v := 0) gdX2_howMany_0.2.2.1 rfl (by decide) ?_
  refine aw_istore (q := 5) (lv' := [(4, .int (0 : Int32)), (3, .int (0 : Int32)), (0, .ref h), (1, .int p0), (2, .int p1)]) gdX2_howMany_0.2.2.2.1 rfl (by decide) rfl ?_
  refine aw_locals (lv' := [(0, .ref h), (1, .int p0), (2, .int p1), (3, .int (0 : Int32)), (4, .int (0 : Int32))]) [2, 3, 4, 1, 0] rfl ?_
  exact tX2_howMany_5  N _ _
def fX2_mark_35 (N K : Nat) (sz : Int32) (f : Nat → Int32) (k_4 : Int32 → Int32 → Option (Int32)) (l1 : Int32) (l2 : Int32) : Option (Int32) :=
  k_4 l1 (l2 + (1 : Int32))
set_option maxHeartbeats 4000000 in
set_option maxRecDepth 100000 in
theorem tX2_mark_35 {N K : Nat} {h a : Nat} {sz : Int32} {f : Nat → Int32} {k_4 : Int32 → Int32 → Option (Int32)} (hk_4 : ∀ (l1 : Int32) (l2 : Int32), AW RX2 "mark" cX2_mark 3 (some .int) [] (fun _ _ => True) (2) (PN (U := Int32) (fun zz _ => some (.int zz)) (fun zz ad => [(h, .inr (4, [.ref a, .int sz])), (a, .inl (0, 2646, .inl f))])) 0 0 (k_4 l1 l2) 4 [(0, .ref h), (1, .int l1), (2, .int l2)] [] [(h, .inr (4, [.ref a, .int sz])), (a, .inl (0, 2646, .inl f))]) : ∀ (l1 : Int32) (l2 : Int32), AW RX2 "mark" cX2_mark 3 (some .int) [] (fun _ _ => True) (2) (PN (U := Int32) (fun zz _ => some (.int zz)) (fun zz ad => [(h, .inr (4, [.ref a, .int sz])), (a, .inl (0, 2646, .inl f))])) 0 0 (fX2_mark_35 N K sz f k_4 l1 l2) 35 [(0, .ref h), (1, .int l1), (2, .int l2)] [] [(h, .inr (4, [.ref a, .int sz])), (a, .inl (0, 2646, .inl f))] := by
  intro l1 l2
  refine aw_iinc (q := 38) (v := (l2 + (1 : Int32))) (lv' := [(2, .int (l2 + (1 : Int32))), (0, .ref h), (1, .int l1)]) gdX2_mark_26.2.2.2.2.2.2.2 rfl 2 rfl rfl (by decide) rfl ?_
  refine aw_goto (tgt := 4) gdX2_mark_38.1 (by decide) ?_
  refine aw_locals (lv' := [(0, .ref h), (1, .int l1), (2, .int (l2 + (1 : Int32)))]) [1, 2, 0] rfl ?_
  exact hk_4 _ _
def fX2_mark_4 (N K : Nat) (sz : Int32) (f : Nat → Int32) : Nat → Int32 → Int32 → Option (Int32)
  | 0, _, _ => none
  | fu + 1, l1, l2 =>
    (if (2646 : Int32) ≤ l2 then (some l1) else (if l2 < 0 ∨ 2646 ≤ l2.toNatClampNeg then none else (if (f l2.toNatClampNeg) = (-1 : Int32) then fX2_mark_35 N K sz f (fX2_mark_4 N K sz f  fu) l1 l2 else ((fX2_codeOf N K l2).bind (fun x23 => (if l2 < 0 ∨ 2646 ≤ l2.toNatClampNeg then none else fX2_mark_35 N K sz f (fX2_mark_4 N K sz f  fu) (l1 + (x23 ^^^ (f l2.toNatClampNeg))) l2))))))
set_option maxHeartbeats 4000000 in
set_option maxRecDepth 100000 in
theorem tX2_mark_4 {N K : Nat} {h a : Nat} {sz : Int32} {f : Nat → Int32} : ∀ (fu : Nat) (l1 : Int32) (l2 : Int32), AW RX2 "mark" cX2_mark 3 (some .int) [] (fun _ _ => True) (2) (PN (U := Int32) (fun zz _ => some (.int zz)) (fun zz ad => [(h, .inr (4, [.ref a, .int sz])), (a, .inl (0, 2646, .inl f))])) 0 0 (fX2_mark_4 N K sz f  fu l1 l2) 4 [(0, .ref h), (1, .int l1), (2, .int l2)] [] [(h, .inr (4, [.ref a, .int sz])), (a, .inl (0, 2646, .inl f))] := by
  intro fu
  induction fu with
  | zero => intro l1 l2; exact aw_none
  | succ fu ih =>
    intro l1 l2
    refine aw_iload_n (q := 5) gdX2_mark_0.2.2.2.2.1 rfl 2 rfl ?_
    refine aw_sipush (q := 8) (v := 2646) gdX2_mark_0.2.2.2.2.2.1 rfl (by decide) ?_
    refine aw_icmp_ge (tgt := 41) (q := 11) gdX2_mark_0.2.2.2.2.2.2.1 (by decide) rfl (fun h_8 => ?_) (fun h_8 => ?_)
    · refine aw_iload_n (q := 42) gdX2_mark_38.2.1 rfl 1 rfl ?_
      exact aw_ireturn (w := [(h, .inr (4, [.ref a, .int sz])), (a, .inl (0, 2646, .inl f))]) [0, 1] gdX2_mark_38.2.2 rfl rfl rfl rfl (PN.mk (fun _ => 0) rfl rfl)
    · refine aw_aload_n (q := 12) gdX2_mark_0.2.2.2.2.2.2.2 rfl 0 rfl ?_
      refine aw_get (q := 15) gdX2_mark_12.1 rfl fl_X2_11 0 rfl rfl ?_
      refine aw_iload_n (q := 16) gdX2_mark_12.2.1 rfl 2 rfl ?_
      refine aw_iald (q := 17) gdX2_mark_12.2.2.1 rfl 1 rfl ?_
      refine aw_iconst (q := 18) (v := (-1)) gdX2_mark_12.2.2.2.1 rfl (by decide) ?_
      refine aw_icmp_eq (tgt := 35) (q := 21) gdX2_mark_12.2.2.2.2.1 (by decide) rfl (fun h_18 => ?_) (fun h_18 => ?_)
      · exact tX2_mark_35 ih _ _
      · refine aw_iload_n (q := 22) gdX2_mark_12.2.2.2.2.2.1 rfl 1 rfl ?_
        refine aw_iload_n (q := 23) gdX2_mark_12.2.2.2.2.2.2.1 rfl 2 rfl ?_
        refine aw_call (q := 26) (kc1 := 0) (ks1 := 0) (wc := []) (wr := [(h, .inr (4, [.ref a, .int sz])), (a, .inl (0, 2646, .inl f))]) (st1 := fun x23 g23 => [.int x23, .int l1]) (ws1 := fun x23 g23 => [(h, .inr (4, [.ref a, .int sz])), (a, .inl (0, 2646, .inl f))]) (As := [.int l2]) [] [0, 1] (fun _ => runS gdX2_mark_12.2.2.2.2.2.2.2 mi_X2_codeOf st_X2_codeOf ml_X2_75 (by omega) rfl (Nat.le_of_ble_eq_true rfl) rfl) (fun x9 h9 => ok_X2_codeOf h9) rfl rfl rfl rfl rfl (by decide +kernel) (by omega) (by omega) (fun _ _ => rfl) (fun _ _ => rfl) (fun x23 g23 => ?_)
        refine aw_aload_n (q := 27) gdX2_mark_26.1 rfl 0 rfl ?_
        refine aw_get (q := 30) gdX2_mark_26.2.1 rfl fl_X2_11 0 rfl rfl ?_
        refine aw_iload_n (q := 31) gdX2_mark_26.2.2.1 rfl 2 rfl ?_
        refine aw_iald (q := 32) gdX2_mark_26.2.2.2.1 rfl 1 rfl ?_
        refine aw_ixor (q := 33) gdX2_mark_26.2.2.2.2.1 rfl ?_
        refine aw_iadd (q := 34) gdX2_mark_26.2.2.2.2.2.1 rfl ?_
        refine aw_istore_n (q := 35) (lv' := [(1, .int (l1 + (x23 ^^^ (f l2.toNatClampNeg)))), (0, .ref h), (2, .int l2)]) gdX2_mark_26.2.2.2.2.2.2.1 rfl (by decide) rfl ?_
        refine aw_locals (lv' := [(0, .ref h), (1, .int (l1 + (x23 ^^^ (f l2.toNatClampNeg)))), (2, .int l2)]) [1, 0, 2] rfl ?_
        exact tX2_mark_35 ih _ _
def fX2_mark (N K : Nat) (sz : Int32) (f : Nat → Int32) : Option (Int32) :=
  fX2_mark_4 N K sz f  N (0 : Int32) (0 : Int32)
set_option maxHeartbeats 4000000 in
set_option maxRecDepth 100000 in
theorem ok_X2_mark {N K : Nat} {h a : Nat} {sz : Int32} {f : Nat → Int32} {xr : Int32} (hE : fX2_mark N K sz f = some xr) : OkM yX2_mark (.code yX2_mark cX2_mark 3 (some .int)) (2) 0 0 [.ref h] [(h, .inr (4, [.ref a, .int sz])), (a, .inl (0, 2646, .inl f))] ((PN (U := Int32) (fun zz _ => some (.int zz)) (fun zz ad => [(h, .inr (4, [.ref a, .int sz])), (a, .inl (0, 2646, .inl f))])) xr) := by
  refine ok_of (by decide) (Nat.le_of_ble_eq_true rfl) hE ?_
  refine aw_locals (lv' := [(0, .ref h)]) [0] rfl ?_
  refine aw_iconst (q := 1) (v := 0) gdX2_mark_0.1 rfl (by decide) ?_
  refine aw_istore_n (q := 2) (lv' := [(1, .int (0 : Int32)), (0, .ref h)]) gdX2_mark_0.2.1 rfl (by decide) rfl ?_
  refine aw_iconst (q := 3) (v := 0) gdX2_mark_0.2.2.1 rfl (by decide) ?_
  refine aw_istore_n (q := 4) (lv' := [(2, .int (0 : Int32)), (1, .int (0 : Int32)), (0, .ref h)]) gdX2_mark_0.2.2.2.1 rfl (by decide) rfl ?_
  refine aw_locals (lv' := [(0, .ref h), (1, .int (0 : Int32)), (2, .int (0 : Int32))]) [2, 1, 0] rfl ?_
  exact tX2_mark_4  N _ _
def fX2_sumOfWorths_30 (N K : Nat) (sz : Int32) (f : Nat → Int32) (k_4 : Int32 → Int32 → Option (Int32)) (l1 : Int32) (l2 : Int32) : Option (Int32) :=
  k_4 l1 (l2 + (1 : Int32))
set_option maxHeartbeats 4000000 in
set_option maxRecDepth 100000 in
theorem tX2_sumOfWorths_30 {N K : Nat} {h a : Nat} {sz : Int32} {f : Nat → Int32} {k_4 : Int32 → Int32 → Option (Int32)} (hk_4 : ∀ (l1 : Int32) (l2 : Int32), AW RX2 "sumOfWorths" cX2_sumOfWorths 3 (some .int) [] (fun _ _ => True) (0) (PN (U := Int32) (fun zz _ => some (.int zz)) (fun zz ad => [(h, .inr (4, [.ref a, .int sz])), (a, .inl (0, 2646, .inl f))])) 0 0 (k_4 l1 l2) 4 [(0, .ref h), (1, .int l1), (2, .int l2)] [] [(h, .inr (4, [.ref a, .int sz])), (a, .inl (0, 2646, .inl f))]) : ∀ (l1 : Int32) (l2 : Int32), AW RX2 "sumOfWorths" cX2_sumOfWorths 3 (some .int) [] (fun _ _ => True) (0) (PN (U := Int32) (fun zz _ => some (.int zz)) (fun zz ad => [(h, .inr (4, [.ref a, .int sz])), (a, .inl (0, 2646, .inl f))])) 0 0 (fX2_sumOfWorths_30 N K sz f k_4 l1 l2) 30 [(0, .ref h), (1, .int l1), (2, .int l2)] [] [(h, .inr (4, [.ref a, .int sz])), (a, .inl (0, 2646, .inl f))] := by
  intro l1 l2
  refine aw_iinc (q := 33) (v := (l2 + (1 : Int32))) (lv' := [(2, .int (l2 + (1 : Int32))), (0, .ref h), (1, .int l1)]) gdX2_sumOfWorths_26.2.2.2.2.1 rfl 2 rfl rfl (by decide) rfl ?_
  refine aw_goto (tgt := 4) gdX2_sumOfWorths_26.2.2.2.2.2.1 (by decide) ?_
  refine aw_locals (lv' := [(0, .ref h), (1, .int l1), (2, .int (l2 + (1 : Int32)))]) [1, 2, 0] rfl ?_
  exact hk_4 _ _
def fX2_sumOfWorths_4 (N K : Nat) (sz : Int32) (f : Nat → Int32) : Nat → Int32 → Int32 → Option (Int32)
  | 0, _, _ => none
  | fu + 1, l1, l2 =>
    (if (2646 : Int32) ≤ l2 then (some l1) else (if l2 < 0 ∨ 2646 ≤ l2.toNatClampNeg then none else (if (f l2.toNatClampNeg) = (-1 : Int32) then fX2_sumOfWorths_30 N K sz f (fX2_sumOfWorths_4 N K sz f  fu) l1 l2 else (if l2 < 0 ∨ 2646 ≤ l2.toNatClampNeg then none else fX2_sumOfWorths_30 N K sz f (fX2_sumOfWorths_4 N K sz f  fu) (l1 + (f l2.toNatClampNeg)) l2))))
set_option maxHeartbeats 4000000 in
set_option maxRecDepth 100000 in
theorem tX2_sumOfWorths_4 {N K : Nat} {h a : Nat} {sz : Int32} {f : Nat → Int32} : ∀ (fu : Nat) (l1 : Int32) (l2 : Int32), AW RX2 "sumOfWorths" cX2_sumOfWorths 3 (some .int) [] (fun _ _ => True) (0) (PN (U := Int32) (fun zz _ => some (.int zz)) (fun zz ad => [(h, .inr (4, [.ref a, .int sz])), (a, .inl (0, 2646, .inl f))])) 0 0 (fX2_sumOfWorths_4 N K sz f  fu l1 l2) 4 [(0, .ref h), (1, .int l1), (2, .int l2)] [] [(h, .inr (4, [.ref a, .int sz])), (a, .inl (0, 2646, .inl f))] := by
  intro fu
  induction fu with
  | zero => intro l1 l2; exact aw_none
  | succ fu ih =>
    intro l1 l2
    refine aw_iload_n (q := 5) gdX2_sumOfWorths_0.2.2.2.2.1 rfl 2 rfl ?_
    refine aw_sipush (q := 8) (v := 2646) gdX2_sumOfWorths_0.2.2.2.2.2.1 rfl (by decide) ?_
    refine aw_icmp_ge (tgt := 36) (q := 11) gdX2_sumOfWorths_0.2.2.2.2.2.2.1 (by decide) rfl (fun h_8 => ?_) (fun h_8 => ?_)
    · refine aw_iload_n (q := 37) gdX2_sumOfWorths_26.2.2.2.2.2.2.1 rfl 1 rfl ?_
      exact aw_ireturn (w := [(h, .inr (4, [.ref a, .int sz])), (a, .inl (0, 2646, .inl f))]) [0, 1] gdX2_sumOfWorths_26.2.2.2.2.2.2.2 rfl rfl rfl rfl (PN.mk (fun _ => 0) rfl rfl)
    · refine aw_aload_n (q := 12) gdX2_sumOfWorths_0.2.2.2.2.2.2.2 rfl 0 rfl ?_
      refine aw_get (q := 15) gdX2_sumOfWorths_12.1 rfl fl_X2_11 0 rfl rfl ?_
      refine aw_iload_n (q := 16) gdX2_sumOfWorths_12.2.1 rfl 2 rfl ?_
      refine aw_iald (q := 17) gdX2_sumOfWorths_12.2.2.1 rfl 1 rfl ?_
      refine aw_iconst (q := 18) (v := (-1)) gdX2_sumOfWorths_12.2.2.2.1 rfl (by decide) ?_
      refine aw_icmp_eq (tgt := 30) (q := 21) gdX2_sumOfWorths_12.2.2.2.2.1 (by decide) rfl (fun h_18 => ?_) (fun h_18 => ?_)
      · exact tX2_sumOfWorths_30 ih _ _
      · refine aw_iload_n (q := 22) gdX2_sumOfWorths_12.2.2.2.2.2.1 rfl 1 rfl ?_
        refine aw_aload_n (q := 23) gdX2_sumOfWorths_12.2.2.2.2.2.2.1 rfl 0 rfl ?_
        refine aw_get (q := 26) gdX2_sumOfWorths_12.2.2.2.2.2.2.2 rfl fl_X2_11 0 rfl rfl ?_
        refine aw_iload_n (q := 27) gdX2_sumOfWorths_26.1 rfl 2 rfl ?_
        refine aw_iald (q := 28) gdX2_sumOfWorths_26.2.1 rfl 1 rfl ?_
        refine aw_iadd (q := 29) gdX2_sumOfWorths_26.2.2.1 rfl ?_
        refine aw_istore_n (q := 30) (lv' := [(1, .int (l1 + (f l2.toNatClampNeg))), (0, .ref h), (2, .int l2)]) gdX2_sumOfWorths_26.2.2.2.1 rfl (by decide) rfl ?_
        refine aw_locals (lv' := [(0, .ref h), (1, .int (l1 + (f l2.toNatClampNeg))), (2, .int l2)]) [1, 0, 2] rfl ?_
        exact tX2_sumOfWorths_30 ih _ _
def fX2_sumOfWorths (N K : Nat) (sz : Int32) (f : Nat → Int32) : Option (Int32) :=
  fX2_sumOfWorths_4 N K sz f  N (0 : Int32) (0 : Int32)
set_option maxHeartbeats 4000000 in
set_option maxRecDepth 100000 in
theorem ok_X2_sumOfWorths {N K : Nat} {h a : Nat} {sz : Int32} {f : Nat → Int32} {xr : Int32} (hE : fX2_sumOfWorths N K sz f = some xr) : OkM yX2_sumOfWorths (.code yX2_sumOfWorths cX2_sumOfWorths 3 (some .int)) (0) 0 0 [.ref h] [(h, .inr (4, [.ref a, .int sz])), (a, .inl (0, 2646, .inl f))] ((PN (U := Int32) (fun zz _ => some (.int zz)) (fun zz ad => [(h, .inr (4, [.ref a, .int sz])), (a, .inl (0, 2646, .inl f))])) xr) := by
  refine ok_of (by decide) (Nat.le_of_ble_eq_true rfl) hE ?_
  refine aw_locals (lv' := [(0, .ref h)]) [0] rfl ?_
  refine aw_iconst (q := 1) (v := 0) gdX2_sumOfWorths_0.1 rfl (by decide) ?_
  refine aw_istore_n (q := 2) (lv' := [(1, .int (0 : Int32)), (0, .ref h)]) gdX2_sumOfWorths_0.2.1 rfl (by decide) rfl ?_
  refine aw_iconst (q := 3) (v := 0) gdX2_sumOfWorths_0.2.2.1 rfl (by decide) ?_
  refine aw_istore_n (q := 4) (lv' := [(2, .int (0 : Int32)), (1, .int (0 : Int32)), (0, .ref h)]) gdX2_sumOfWorths_0.2.2.2.1 rfl (by decide) rfl ?_
  refine aw_locals (lv' := [(0, .ref h), (1, .int (0 : Int32)), (2, .int (0 : Int32))]) [2, 1, 0] rfl ?_
  exact tX2_sumOfWorths_4  N _ _
def fX2_isWellCounted_40 (N K : Nat) (sz : Int32) (f : Nat → Int32) (k_4 : Int32 → Int32 → Option (Int32)) (l1 : Int32) (l2 : Int32) : Option (Int32) :=
  k_4 l1 (l2 + (1 : Int32))
set_option maxHeartbeats 4000000 in
set_option maxRecDepth 100000 in
theorem tX2_isWellCounted_40 {N K : Nat} {h a : Nat} {sz : Int32} {f : Nat → Int32} {k_4 : Int32 → Int32 → Option (Int32)} (hk_4 : ∀ (l1 : Int32) (l2 : Int32), AW RX2 "isWellCounted" cX2_isWellCounted 3 (some .boolean) [] (fun _ _ => True) (1) (PN (U := Int32) (fun zz _ => some (.int zz)) (fun zz ad => [(h, .inr (4, [.ref a, .int sz])), (a, .inl (0, 2646, .inl f))])) 0 0 (k_4 l1 l2) 4 [(0, .ref h), (1, .int l1), (2, .int l2)] [] [(h, .inr (4, [.ref a, .int sz])), (a, .inl (0, 2646, .inl f))]) : ∀ (l1 : Int32) (l2 : Int32), AW RX2 "isWellCounted" cX2_isWellCounted 3 (some .boolean) [] (fun _ _ => True) (1) (PN (U := Int32) (fun zz _ => some (.int zz)) (fun zz ad => [(h, .inr (4, [.ref a, .int sz])), (a, .inl (0, 2646, .inl f))])) 0 0 (fX2_isWellCounted_40 N K sz f k_4 l1 l2) 40 [(0, .ref h), (1, .int l1), (2, .int l2)] [] [(h, .inr (4, [.ref a, .int sz])), (a, .inl (0, 2646, .inl f))] := by
  intro l1 l2
  refine aw_iinc (q := 43) (v := (l2 + (1 : Int32))) (lv' := [(2, .int (l2 + (1 : Int32))), (0, .ref h), (1, .int l1)]) gdX2_isWellCounted_26.2.2.2.2.2.2.1 rfl 2 rfl rfl (by decide) rfl ?_
  refine aw_goto (tgt := 4) gdX2_isWellCounted_26.2.2.2.2.2.2.2 (by decide) ?_
  refine aw_locals (lv' := [(0, .ref h), (1, .int l1), (2, .int (l2 + (1 : Int32)))]) [1, 2, 0] rfl ?_
  exact hk_4 _ _
def fX2_isWellCounted_4 (N K : Nat) (sz : Int32) (f : Nat → Int32) : Nat → Int32 → Int32 → Option (Int32)
  | 0, _, _ => none
  | fu + 1, l1, l2 =>
    (if (2646 : Int32) ≤ l2 then (if l1 = sz then (some (1 : Int32)) else (some (0 : Int32))) else (if l2 < 0 ∨ 2646 ≤ l2.toNatClampNeg then none else (if (f l2.toNatClampNeg) = (-1 : Int32) then fX2_isWellCounted_40 N K sz f (fX2_isWellCounted_4 N K sz f  fu) l1 l2 else ((fX2_numberOf N K l2).bind (fun x22 => ((fX2_measureOf N K l2).bind (fun x26 => ((fX5_rests N K x22 x26).bind (fun x29 => (if x29 = 0 then fX2_isWellCounted_40 N K sz f (fX2_isWellCounted_4 N K sz f  fu) (l1 + (1 : Int32)) l2 else (some (0 : Int32))))))))))))
set_option maxHeartbeats 4000000 in
set_option maxRecDepth 100000 in
theorem tX2_isWellCounted_4 {N K : Nat} {h a : Nat} {sz : Int32} {f : Nat → Int32} : ∀ (fu : Nat) (l1 : Int32) (l2 : Int32), AW RX2 "isWellCounted" cX2_isWellCounted 3 (some .boolean) [] (fun _ _ => True) (1) (PN (U := Int32) (fun zz _ => some (.int zz)) (fun zz ad => [(h, .inr (4, [.ref a, .int sz])), (a, .inl (0, 2646, .inl f))])) 0 0 (fX2_isWellCounted_4 N K sz f  fu l1 l2) 4 [(0, .ref h), (1, .int l1), (2, .int l2)] [] [(h, .inr (4, [.ref a, .int sz])), (a, .inl (0, 2646, .inl f))] := by
  intro fu
  induction fu with
  | zero => intro l1 l2; exact aw_none
  | succ fu ih =>
    intro l1 l2
    refine aw_iload_n (q := 5) gdX2_isWellCounted_0.2.2.2.2.1 rfl 2 rfl ?_
    refine aw_sipush (q := 8) (v := 2646) gdX2_isWellCounted_0.2.2.2.2.2.1 rfl (by decide) ?_
    refine aw_icmp_ge (tgt := 46) (q := 11) gdX2_isWellCounted_0.2.2.2.2.2.2.1 (by decide) rfl (fun h_8 => ?_) (fun h_8 => ?_)
    · refine aw_iload_n (q := 47) gdX2_isWellCounted_46.1 rfl 1 rfl ?_
      refine aw_aload_n (q := 48) gdX2_isWellCounted_46.2.1 rfl 0 rfl ?_
      refine aw_get (q := 51) gdX2_isWellCounted_46.2.2.1 rfl fl_X2_21 0 rfl rfl ?_
      refine aw_icmp_ne (tgt := 58) (q := 54) gdX2_isWellCounted_46.2.2.2.1 (by decide) rfl (fun h_51 => ?_) (fun h_51 => ?_)
      · refine aw_iconst (q := 59) (v := 0) gdX2_isWellCounted_46.2.2.2.2.2.2.1 rfl (by decide) ?_
        exact aw_ireturn (w := [(h, .inr (4, [.ref a, .int sz])), (a, .inl (0, 2646, .inl f))]) [0, 1] gdX2_isWellCounted_46.2.2.2.2.2.2.2 rfl rfl rfl rfl (PN.mk (fun _ => 0) rfl rfl)
      · refine aw_iconst (q := 55) (v := 1) gdX2_isWellCounted_46.2.2.2.2.1 rfl (by decide) ?_
        refine aw_goto (tgt := 59) gdX2_isWellCounted_46.2.2.2.2.2.1 (by decide) ?_
        exact aw_ireturn (w := [(h, .inr (4, [.ref a, .int sz])), (a, .inl (0, 2646, .inl f))]) [0, 1] gdX2_isWellCounted_46.2.2.2.2.2.2.2 rfl rfl rfl rfl (PN.mk (fun _ => 0) rfl rfl)
    · refine aw_aload_n (q := 12) gdX2_isWellCounted_0.2.2.2.2.2.2.2 rfl 0 rfl ?_
      refine aw_get (q := 15) gdX2_isWellCounted_12.1 rfl fl_X2_11 0 rfl rfl ?_
      refine aw_iload_n (q := 16) gdX2_isWellCounted_12.2.1 rfl 2 rfl ?_
      refine aw_iald (q := 17) gdX2_isWellCounted_12.2.2.1 rfl 1 rfl ?_
      refine aw_iconst (q := 18) (v := (-1)) gdX2_isWellCounted_12.2.2.2.1 rfl (by decide) ?_
      refine aw_icmp_eq (tgt := 40) (q := 21) gdX2_isWellCounted_12.2.2.2.2.1 (by decide) rfl (fun h_18 => ?_) (fun h_18 => ?_)
      · exact tX2_isWellCounted_40 ih _ _
      · refine aw_iload_n (q := 22) gdX2_isWellCounted_12.2.2.2.2.2.1 rfl 2 rfl ?_
        refine aw_call (q := 25) (kc1 := 0) (ks1 := 0) (wc := []) (wr := [(h, .inr (4, [.ref a, .int sz])), (a, .inl (0, 2646, .inl f))]) (st1 := fun x22 g22 => [.int x22]) (ws1 := fun x22 g22 => [(h, .inr (4, [.ref a, .int sz])), (a, .inl (0, 2646, .inl f))]) (As := [.int l2]) [] [0, 1] (fun _ => runS gdX2_isWellCounted_12.2.2.2.2.2.2.1 mi_X2_numberOf st_X2_numberOf ml_X2_92 (by omega) rfl (Nat.le_of_ble_eq_true rfl) rfl) (fun x9 h9 => ok_X2_numberOf h9) rfl rfl rfl rfl rfl (by decide +kernel) (by omega) (by omega) (fun _ _ => rfl) (fun _ _ => rfl) (fun x22 g22 => ?_)
        refine aw_iload_n (q := 26) gdX2_isWellCounted_12.2.2.2.2.2.2.2 rfl 2 rfl ?_
        refine aw_call (q := 29) (kc1 := 0) (ks1 := 0) (wc := []) (wr := [(h, .inr (4, [.ref a, .int sz])), (a, .inl (0, 2646, .inl f))]) (st1 := fun x26 g26 => [.int x26, .int x22]) (ws1 := fun x26 g26 => [(h, .inr (4, [.ref a, .int sz])), (a, .inl (0, 2646, .inl f))]) (As := [.int l2]) [] [0, 1] (fun _ => runS gdX2_isWellCounted_26.1 mi_X2_measureOf st_X2_measureOf ml_X2_95 (by omega) rfl (Nat.le_of_ble_eq_true rfl) rfl) (fun x9 h9 => ok_X2_measureOf h9) rfl rfl rfl rfl rfl (by decide +kernel) (by omega) (by omega) (fun _ _ => rfl) (fun _ _ => rfl) (fun x26 g26 => ?_)
        refine aw_call (q := 32) (kc1 := 0) (ks1 := 0) (wc := []) (wr := [(h, .inr (4, [.ref a, .int sz])), (a, .inl (0, 2646, .inl f))]) (st1 := fun x29 g29 => [.int x29]) (ws1 := fun x29 g29 => [(h, .inr (4, [.ref a, .int sz])), (a, .inl (0, 2646, .inl f))]) (As := [.int x22, .int x26]) [] [0, 1] (fun _ => runSN gdX2_isWellCounted_26.2.1 mi_X5_rests st_X5_rests mn_X2_29 (by omega) rfl (Nat.le_of_ble_eq_true rfl) rfl) (fun x9 h9 => ok_X5_rests h9) rfl rfl rfl rfl rfl (by decide +kernel) (by omega) (by omega) (fun _ _ => rfl) (fun _ _ => rfl) (fun x29 g29 => ?_)
        refine aw_if_eq (tgt := 37) (q := 35) gdX2_isWellCounted_26.2.2.1 (by decide) rfl (fun h_32 => ?_) (fun h_32 => ?_)
        · refine aw_iinc (q := 40) (v := (l1 + (1 : Int32))) (lv' := [(1, .int (l1 + (1 : Int32))), (0, .ref h), (2, .int l2)]) gdX2_isWellCounted_26.2.2.2.2.2.1 rfl 1 rfl rfl (by decide) rfl ?_
          refine aw_locals (lv' := [(0, .ref h), (1, .int (l1 + (1 : Int32))), (2, .int l2)]) [1, 0, 2] rfl ?_
          exact tX2_isWellCounted_40 ih _ _
        · refine aw_iconst (q := 36) (v := 0) gdX2_isWellCounted_26.2.2.2.1 rfl (by decide) ?_
          exact aw_ireturn (w := [(h, .inr (4, [.ref a, .int sz])), (a, .inl (0, 2646, .inl f))]) [0, 1] gdX2_isWellCounted_26.2.2.2.2.1 rfl rfl rfl rfl (PN.mk (fun _ => 0) rfl rfl)
def fX2_isWellCounted (N K : Nat) (sz : Int32) (f : Nat → Int32) : Option (Int32) :=
  fX2_isWellCounted_4 N K sz f  N (0 : Int32) (0 : Int32)
set_option maxHeartbeats 4000000 in
set_option maxRecDepth 100000 in
theorem ok_X2_isWellCounted {N K : Nat} {h a : Nat} {sz : Int32} {f : Nat → Int32} {xr : Int32} (hE : fX2_isWellCounted N K sz f = some xr) : OkM yX2_isWellCounted (.code yX2_isWellCounted cX2_isWellCounted 3 (some .boolean)) (1) 0 0 [.ref h] [(h, .inr (4, [.ref a, .int sz])), (a, .inl (0, 2646, .inl f))] ((PN (U := Int32) (fun zz _ => some (.int zz)) (fun zz ad => [(h, .inr (4, [.ref a, .int sz])), (a, .inl (0, 2646, .inl f))])) xr) := by
  refine ok_of (by decide) (Nat.le_of_ble_eq_true rfl) hE ?_
  refine aw_locals (lv' := [(0, .ref h)]) [0] rfl ?_
  refine aw_iconst (q := 1) (v := 0) gdX2_isWellCounted_0.1 rfl (by decide) ?_
  refine aw_istore_n (q := 2) (lv' := [(1, .int (0 : Int32)), (0, .ref h)]) gdX2_isWellCounted_0.2.1 rfl (by decide) rfl ?_
  refine aw_iconst (q := 3) (v := 0) gdX2_isWellCounted_0.2.2.1 rfl (by decide) ?_
  refine aw_istore_n (q := 4) (lv' := [(2, .int (0 : Int32)), (1, .int (0 : Int32)), (0, .ref h)]) gdX2_isWellCounted_0.2.2.2.1 rfl (by decide) rfl ?_
  refine aw_locals (lv' := [(0, .ref h), (1, .int (0 : Int32)), (2, .int (0 : Int32))]) [2, 1, 0] rfl ?_
  exact tX2_isWellCounted_4  N _ _
def fX2_become (N K : Nat) (sz : Int32) (f : Nat → Int32) (tz : Int32) (g : Nat → Int32) : Option (Int32 × (Nat → Int32)) :=
  (some (tz, (va_cpy g f (0 : Int32).toNatClampNeg (0 : Int32).toNatClampNeg (2646 : Int32).toNatClampNeg)))
set_option maxHeartbeats 4000000 in
set_option maxRecDepth 100000 in
theorem ok_X2_become {N K : Nat} {h v a b : Nat} {sz : Int32} {f : Nat → Int32} {tz : Int32} {g : Nat → Int32} {xr : Int32 × (Nat → Int32)} (hE : fX2_become N K sz f tz g = some xr) : OkM yX2_become (.code yX2_become cX2_become 2 none) (2) 0 0 [.ref h, .ref v] [(h, .inr (4, [.ref a, .int sz])), (a, .inl (0, 2646, .inl f)), (v, .inr (4, [.ref b, .int tz])), (b, .inl (0, 2646, .inl g))] ((PN (U := Int32 × (Nat → Int32)) (fun _ _ => none) (fun zz ad => [(h, .inr (4, [.ref a, .int zz.1])), (a, .inl (0, 2646, .inl zz.2)), (v, .inr (4, [.ref b, .int tz])), (b, .inl (0, 2646, .inl g))])) xr) := by
  refine ok_of (by decide) (Nat.le_of_ble_eq_true rfl) hE ?_
  refine aw_locals (lv' := [(0, .ref h), (1, .ref v)]) [0, 1] rfl ?_
  refine aw_aload_n (q := 1) gdX2_become_0.1 rfl 1 rfl ?_
  refine aw_get (q := 4) gdX2_become_0.2.1 rfl fl_X2_11 2 rfl rfl ?_
  refine aw_iconst (q := 5) (v := 0) gdX2_become_0.2.2.1 rfl (by decide) ?_
  refine aw_aload_n (q := 6) gdX2_become_0.2.2.2.1 rfl 0 rfl ?_
  refine aw_get (q := 9) gdX2_become_0.2.2.2.2.1 rfl fl_X2_11 0 rfl rfl ?_
  refine aw_iconst (q := 10) (v := 0) gdX2_become_0.2.2.2.2.2.1 rfl (by decide) ?_
  refine aw_sipush (q := 13) (v := 2646) gdX2_become_0.2.2.2.2.2.2.1 rfl (by decide) ?_
  refine aw_copy (q := 16) (ws' := [(h, .inr (4, [.ref a, .int sz])), (a, .inl (0, 2646, .inl (va_cpy g f (0 : Int32).toNatClampNeg (0 : Int32).toNatClampNeg (2646 : Int32).toNatClampNeg))), (v, .inr (4, [.ref b, .int tz])), (b, .inl (0, 2646, .inl g))]) gdX2_become_0.2.2.2.2.2.2.2 rfl ml_X2_69 w_ac (by omega) (Nat.le_of_ble_eq_true rfl) 3 1 rfl rfl (by decide) (by decide) (by decide) (by decide) (by decide) rfl ?_
  refine aw_aload_n (q := 17) gdX2_become_16.1 rfl 0 rfl ?_
  refine aw_aload_n (q := 18) gdX2_become_16.2.1 rfl 1 rfl ?_
  refine aw_get (q := 21) gdX2_become_16.2.2.1 rfl fl_X2_21 2 rfl rfl ?_
  refine aw_put (q := 24) (ws' := [(h, .inr (4, [.ref a, .int tz])), (a, .inl (0, 2646, .inl (va_cpy g f (0 : Int32).toNatClampNeg (0 : Int32).toNatClampNeg (2646 : Int32).toNatClampNeg))), (v, .inr (4, [.ref b, .int tz])), (b, .inl (0, 2646, .inl g))]) gdX2_become_16.2.2.2.1 rfl fl_X2_21 0 rfl rfl rfl (Nat.le_of_ble_eq_true rfl) rfl ?_
  exact aw_return (w := [(h, .inr (4, [.ref a, .int tz])), (a, .inl (0, 2646, .inl (va_cpy g f (0 : Int32).toNatClampNeg (0 : Int32).toNatClampNeg (2646 : Int32).toNatClampNeg))), (v, .inr (4, [.ref b, .int tz])), (b, .inl (0, 2646, .inl g))]) [0, 1, 2, 3] gdX2_become_16.2.2.2.2 rfl rfl rfl (PN.mk (fun _ => 0) rfl rfl)
def fX2_takeIn_46 (N K : Nat) (sz : Int32) (f : Nat → Int32) (tz : Int32) (g : Nat → Int32) (k_4 : Int32 → Int32 → Int32 → (Nat → Int32) → Option (Int32 × Int32 × (Nat → Int32))) (l2 : Int32) (l3 : Int32) (sz_ : Int32) (f_ : Nat → Int32) : Option (Int32 × Int32 × (Nat → Int32)) :=
  k_4 l2 (l3 + (1 : Int32)) sz_ f_
set_option maxHeartbeats 4000000 in
set_option maxRecDepth 100000 in
theorem tX2_takeIn_46 {N K : Nat} {h v a b : Nat} {sz : Int32} {f : Nat → Int32} {tz : Int32} {g : Nat → Int32} {k_4 : Int32 → Int32 → Int32 → (Nat → Int32) → Option (Int32 × Int32 × (Nat → Int32))} (hk_4 : ∀ (l2 : Int32) (l3 : Int32) (sz_ : Int32) (f_ : Nat → Int32), AW RX2 "takeIn" cX2_takeIn 4 (some .int) [] (fun _ _ => True) (0) (PN (U := Int32 × Int32 × (Nat → Int32)) (fun zz _ => some (.int zz.1)) (fun zz ad => [(h, .inr (4, [.ref a, .int zz.2.1])), (a, .inl (0, 2646, .inl zz.2.2)), (v, .inr (4, [.ref b, .int tz])), (b, .inl (0, 2646, .inl g))])) 0 0 (k_4 l2 l3 sz_ f_) 4 [(0, .ref h), (1, .ref v), (2, .int l2), (3, .int l3)] [] [(h, .inr (4, [.ref a, .int sz_])), (a, .inl (0, 2646, .inl f_)), (v, .inr (4, [.ref b, .int tz])), (b, .inl (0, 2646, .inl g))]) : ∀ (l2 : Int32) (l3 : Int32) (sz_ : Int32) (f_ : Nat → Int32), AW RX2 "takeIn" cX2_takeIn 4 (some .int) [] (fun _ _ => True) (0) (PN (U := Int32 × Int32 × (Nat → Int32)) (fun zz _ => some (.int zz.1)) (fun zz ad => [(h, .inr (4, [.ref a, .int zz.2.1])), (a, .inl (0, 2646, .inl zz.2.2)), (v, .inr (4, [.ref b, .int tz])), (b, .inl (0, 2646, .inl g))])) 0 0 (fX2_takeIn_46 N K sz f tz g k_4 l2 l3 sz_ f_) 46 [(0, .ref h), (1, .ref v), (2, .int l2), (3, .int l3)] [] [(h, .inr (4, [.ref a, .int sz_])), (a, .inl (0, 2646, .inl f_)), (v, .inr (4, [.ref b, .int tz])), (b, .inl (0, 2646, .inl g))] := by
  intro l2 l3 sz_ f_
  refine aw_iinc (q := 49) (v := (l3 + (1 : Int32))) (lv' := [(3, .int (l3 + (1 : Int32))), (0, .ref h), (1, .ref v), (2, .int l2)]) gdX2_takeIn_40.2.2.2.2.1 rfl 3 rfl rfl (by decide) rfl ?_
  refine aw_goto (tgt := 4) gdX2_takeIn_40.2.2.2.2.2.1 (by decide) ?_
  refine aw_locals (lv' := [(0, .ref h), (1, .ref v), (2, .int l2), (3, .int (l3 + (1 : Int32)))]) [1, 2, 3, 0] rfl ?_
  exact hk_4 _ _ _ _
def fX2_takeIn_34 (N K : Nat) (sz : Int32) (f : Nat → Int32) (tz : Int32) (g : Nat → Int32) (k_4 : Int32 → Int32 → Int32 → (Nat → Int32) → Option (Int32 × Int32 × (Nat → Int32))) (l2 : Int32) (l3 : Int32) (sz_ : Int32) (f_ : Nat → Int32) : Option (Int32 × Int32 × (Nat → Int32)) :=
  (if l3 < 0 ∨ 2646 ≤ l3.toNatClampNeg then none else (if l3 < 0 ∨ 2646 ≤ l3.toNatClampNeg then none else fX2_takeIn_46 N K sz f tz g k_4 l2 l3 sz_ (upd f_ l3.toNatClampNeg (g l3.toNatClampNeg))))
set_option maxHeartbeats 4000000 in
set_option maxRecDepth 100000 in
theorem tX2_takeIn_34 {N K : Nat} {h v a b : Nat} {sz : Int32} {f : Nat → Int32} {tz : Int32} {g : Nat → Int32} {k_4 : Int32 → Int32 → Int32 → (Nat → Int32) → Option (Int32 × Int32 × (Nat → Int32))} (hk_4 : ∀ (l2 : Int32) (l3 : Int32) (sz_ : Int32) (f_ : Nat → Int32), AW RX2 "takeIn" cX2_takeIn 4 (some .int) [] (fun _ _ => True) (0) (PN (U := Int32 × Int32 × (Nat → Int32)) (fun zz _ => some (.int zz.1)) (fun zz ad => [(h, .inr (4, [.ref a, .int zz.2.1])), (a, .inl (0, 2646, .inl zz.2.2)), (v, .inr (4, [.ref b, .int tz])), (b, .inl (0, 2646, .inl g))])) 0 0 (k_4 l2 l3 sz_ f_) 4 [(0, .ref h), (1, .ref v), (2, .int l2), (3, .int l3)] [] [(h, .inr (4, [.ref a, .int sz_])), (a, .inl (0, 2646, .inl f_)), (v, .inr (4, [.ref b, .int tz])), (b, .inl (0, 2646, .inl g))]) : ∀ (l2 : Int32) (l3 : Int32) (sz_ : Int32) (f_ : Nat → Int32), AW RX2 "takeIn" cX2_takeIn 4 (some .int) [] (fun _ _ => True) (0) (PN (U := Int32 × Int32 × (Nat → Int32)) (fun zz _ => some (.int zz.1)) (fun zz ad => [(h, .inr (4, [.ref a, .int zz.2.1])), (a, .inl (0, 2646, .inl zz.2.2)), (v, .inr (4, [.ref b, .int tz])), (b, .inl (0, 2646, .inl g))])) 0 0 (fX2_takeIn_34 N K sz f tz g k_4 l2 l3 sz_ f_) 34 [(0, .ref h), (1, .ref v), (2, .int l2), (3, .int l3)] [] [(h, .inr (4, [.ref a, .int sz_])), (a, .inl (0, 2646, .inl f_)), (v, .inr (4, [.ref b, .int tz])), (b, .inl (0, 2646, .inl g))] := by
  intro l2 l3 sz_ f_
  refine aw_aload_n (q := 35) gdX2_takeIn_26.2.2.2.2.1 rfl 0 rfl ?_
  refine aw_get (q := 38) gdX2_takeIn_26.2.2.2.2.2.1 rfl fl_X2_11 0 rfl rfl ?_
  refine aw_iload_n (q := 39) gdX2_takeIn_26.2.2.2.2.2.2.1 rfl 3 rfl ?_
  refine aw_aload_n (q := 40) gdX2_takeIn_26.2.2.2.2.2.2.2 rfl 1 rfl ?_
  refine aw_get (q := 43) gdX2_takeIn_40.1 rfl fl_X2_11 2 rfl rfl ?_
  refine aw_iload_n (q := 44) gdX2_takeIn_40.2.1 rfl 3 rfl ?_
  refine aw_iald (q := 45) gdX2_takeIn_40.2.2.1 rfl 3 rfl ?_
  refine aw_iast (q := 46) (ws' := [(h, .inr (4, [.ref a, .int sz_])), (a, .inl (0, 2646, .inl (upd f_ l3.toNatClampNeg (g l3.toNatClampNeg)))), (v, .inr (4, [.ref b, .int tz])), (b, .inl (0, 2646, .inl g))]) gdX2_takeIn_40.2.2.2.1 rfl 1 rfl rfl ?_
  exact tX2_takeIn_46 hk_4 _ _ _ _
def fX2_takeIn_4 (N K : Nat) (sz : Int32) (f : Nat → Int32) (tz : Int32) (g : Nat → Int32) : Nat → Int32 → Int32 → Int32 → (Nat → Int32) → Option (Int32 × Int32 × (Nat → Int32))
  | 0, _, _, _, _ => none
  | fu + 1, l2, l3, sz_, f_ =>
    (if (2646 : Int32) ≤ l3 then (some (l2, (sz_ + l2), f_)) else (if l3 < 0 ∨ 2646 ≤ l3.toNatClampNeg then none else (if (g l3.toNatClampNeg) = (-1 : Int32) then fX2_takeIn_46 N K sz f tz g (fX2_takeIn_4 N K sz f tz g  fu) l2 l3 sz_ f_ else (if l3 < 0 ∨ 2646 ≤ l3.toNatClampNeg then none else (if (f_ l3.toNatClampNeg) = (-1 : Int32) then fX2_takeIn_34 N K sz f tz g (fX2_takeIn_4 N K sz f tz g  fu) (l2 + (1 : Int32)) l3 sz_ f_ else fX2_takeIn_34 N K sz f tz g (fX2_takeIn_4 N K sz f tz g  fu) l2 l3 sz_ f_)))))
set_option maxHeartbeats 4000000 in
set_option maxRecDepth 100000 in
theorem tX2_takeIn_4 {N K : Nat} {h v a b : Nat} {sz : Int32} {f : Nat → Int32} {tz : Int32} {g : Nat → Int32} : ∀ (fu : Nat) (l2 : Int32) (l3 : Int32) (sz_ : Int32) (f_ : Nat → Int32), AW RX2 "takeIn" cX2_takeIn 4 (some .int) [] (fun _ _ => True) (0) (PN (U := Int32 × Int32 × (Nat → Int32)) (fun zz _ => some (.int zz.1)) (fun zz ad => [(h, .inr (4, [.ref a, .int zz.2.1])), (a, .inl (0, 2646, .inl zz.2.2)), (v, .inr (4, [.ref b, .int tz])), (b, .inl (0, 2646, .inl g))])) 0 0 (fX2_takeIn_4 N K sz f tz g  fu l2 l3 sz_ f_) 4 [(0, .ref h), (1, .ref v), (2, .int l2), (3, .int l3)] [] [(h, .inr (4, [.ref a, .int sz_])), (a, .inl (0, 2646, .inl f_)), (v, .inr (4, [.ref b, .int tz])), (b, .inl (0, 2646, .inl g))] := by
  intro fu
  induction fu with
  | zero => intro l2 l3 sz_ f_; exact aw_none
  | succ fu ih =>
    intro l2 l3 sz_ f_
    refine aw_iload_n (q := 5) gdX2_takeIn_0.2.2.2.2.1 rfl 3 rfl ?_
    refine aw_sipush (q := 8) (v := 2646) gdX2_takeIn_0.2.2.2.2.2.1 rfl (by decide) ?_
    refine aw_icmp_ge (tgt := 52) (q := 11) gdX2_takeIn_0.2.2.2.2.2.2.1 (by decide) rfl (fun h_8 => ?_) (fun h_8 => ?_)
    · refine aw_aload_n (q := 53) gdX2_takeIn_40.2.2.2.2.2.2.1 rfl 0 rfl ?_
      refine aw_dup (q := 54) gdX2_takeIn_40.2.2.2.2.2.2.2 rfl rfl ?_
      refine aw_get (q := 57) gdX2_takeIn_54.1 rfl fl_X2_21 0 rfl rfl ?_
      refine aw_iload_n (q := 58) gdX2_takeIn_54.2.1 rfl 2 rfl ?_
      refine aw_iadd (q := 59) gdX2_takeIn_54.2.2.1 rfl ?_
      refine aw_put (q := 62) (ws' := [(h, .inr (4, [.ref a, .int (sz_ + l2)])), (a, .inl (0, 2646, .inl f_)), (v, .inr (4, [.ref b, .int tz])), (b, .inl (0, 2646, .inl g))]) gdX2_takeIn_54.2.2.2.1 rfl fl_X2_21 0 rfl rfl rfl (Nat.le_of_ble_eq_true rfl) rfl ?_
      refine aw_iload_n (q := 63) gdX2_takeIn_54.2.2.2.2.1 rfl 2 rfl ?_
      exact aw_ireturn (w := [(h, .inr (4, [.ref a, .int (sz_ + l2)])), (a, .inl (0, 2646, .inl f_)), (v, .inr (4, [.ref b, .int tz])), (b, .inl (0, 2646, .inl g))]) [0, 1, 2, 3] gdX2_takeIn_54.2.2.2.2.2 rfl rfl rfl rfl (PN.mk (fun _ => 0) rfl rfl)
    · refine aw_aload_n (q := 12) gdX2_takeIn_0.2.2.2.2.2.2.2 rfl 1 rfl ?_
      refine aw_get (q := 15) gdX2_takeIn_12.1 rfl fl_X2_11 2 rfl rfl ?_
      refine aw_iload_n (q := 16) gdX2_takeIn_12.2.1 rfl 3 rfl ?_
      refine aw_iald (q := 17) gdX2_takeIn_12.2.2.1 rfl 3 rfl ?_
      refine aw_iconst (q := 18) (v := (-1)) gdX2_takeIn_12.2.2.2.1 rfl (by decide) ?_
      refine aw_icmp_eq (tgt := 46) (q := 21) gdX2_takeIn_12.2.2.2.2.1 (by decide) rfl (fun h_18 => ?_) (fun h_18 => ?_)
      · exact tX2_takeIn_46 ih _ _ _ _
      · refine aw_aload_n (q := 22) gdX2_takeIn_12.2.2.2.2.2.1 rfl 0 rfl ?_
        refine aw_get (q := 25) gdX2_takeIn_12.2.2.2.2.2.2.1 rfl fl_X2_11 0 rfl rfl ?_
        refine aw_iload_n (q := 26) gdX2_takeIn_12.2.2.2.2.2.2.2 rfl 3 rfl ?_
        refine aw_iald (q := 27) gdX2_takeIn_26.1 rfl 1 rfl ?_
        refine aw_iconst (q := 28) (v := (-1)) gdX2_takeIn_26.2.1 rfl (by decide) ?_
        refine aw_icmp_ne (tgt := 34) (q := 31) gdX2_takeIn_26.2.2.1 (by decide) rfl (fun h_28 => ?_) (fun h_28 => ?_)
        · exact tX2_takeIn_34 ih _ _ _ _
        · refine aw_iinc (q := 34) (v := (l2 + (1 : Int32))) (lv' := [(2, .int (l2 + (1 : Int32))), (0, .ref h), (1, .ref v), (3, .int l3)]) gdX2_takeIn_26.2.2.2.1 rfl 2 rfl rfl (by decide) rfl ?_
          refine aw_locals (lv' := [(0, .ref h), (1, .ref v), (2, .int (l2 + (1 : Int32))), (3, .int l3)]) [1, 2, 0, 3] rfl ?_
          exact tX2_takeIn_34 ih _ _ _ _
def fX2_takeIn (N K : Nat) (sz : Int32) (f : Nat → Int32) (tz : Int32) (g : Nat → Int32) : Option (Int32 × Int32 × (Nat → Int32)) :=
  fX2_takeIn_4 N K sz f tz g  N (0 : Int32) (0 : Int32) sz f
set_option maxHeartbeats 4000000 in
set_option maxRecDepth 100000 in
theorem ok_X2_takeIn {N K : Nat} {h v a b : Nat} {sz : Int32} {f : Nat → Int32} {tz : Int32} {g : Nat → Int32} {xr : Int32 × Int32 × (Nat → Int32)} (hE : fX2_takeIn N K sz f tz g = some xr) : OkM yX2_takeIn (.code yX2_takeIn cX2_takeIn 4 (some .int)) (0) 0 0 [.ref h, .ref v] [(h, .inr (4, [.ref a, .int sz])), (a, .inl (0, 2646, .inl f)), (v, .inr (4, [.ref b, .int tz])), (b, .inl (0, 2646, .inl g))] ((PN (U := Int32 × Int32 × (Nat → Int32)) (fun zz _ => some (.int zz.1)) (fun zz ad => [(h, .inr (4, [.ref a, .int zz.2.1])), (a, .inl (0, 2646, .inl zz.2.2)), (v, .inr (4, [.ref b, .int tz])), (b, .inl (0, 2646, .inl g))])) xr) := by
  refine ok_of (by decide) (Nat.le_of_ble_eq_true rfl) hE ?_
  refine aw_locals (lv' := [(0, .ref h), (1, .ref v)]) [0, 1] rfl ?_
  refine aw_iconst (q := 1) (v := 0) gdX2_takeIn_0.1 rfl (by decide) ?_
  refine aw_istore_n (q := 2) (lv' := [(2, .int (0 : Int32)), (0, .ref h), (1, .ref v)]) gdX2_takeIn_0.2.1 rfl (by decide) rfl ?_
  refine aw_iconst (q := 3) (v := 0) gdX2_takeIn_0.2.2.1 rfl (by decide) ?_
  refine aw_istore_n (q := 4) (lv' := [(3, .int (0 : Int32)), (2, .int (0 : Int32)), (0, .ref h), (1, .ref v)]) gdX2_takeIn_0.2.2.2.1 rfl (by decide) rfl ?_
  refine aw_locals (lv' := [(0, .ref h), (1, .ref v), (2, .int (0 : Int32)), (3, .int (0 : Int32))]) [2, 3, 1, 0] rfl ?_
  exact tX2_takeIn_4  N _ _ _ _
def fX2_isLike_2 (N K : Nat) (sz : Int32) (f : Nat → Int32) (tz : Int32) (g : Nat → Int32) : Nat → Int32 → Option (Int32)
  | 0, _ => none
  | fu + 1, l2 =>
    (if (2646 : Int32) ≤ l2 then (some (1 : Int32)) else (if l2 < 0 ∨ 2646 ≤ l2.toNatClampNeg then none else (if l2 < 0 ∨ 2646 ≤ l2.toNatClampNeg then none else (if (f l2.toNatClampNeg) = (g l2.toNatClampNeg) then fX2_isLike_2 N K sz f tz g  fu (l2 + (1 : Int32)) else (some (0 : Int32))))))
set_option maxHeartbeats 4000000 in
set_option maxRecDepth 100000 in
theorem tX2_isLike_2 {N K : Nat} {h v a b : Nat} {sz : Int32} {f : Nat → Int32} {tz : Int32} {g : Nat → Int32} : ∀ (fu : Nat) (l2 : Int32), AW RX2 "isLike" cX2_isLike 3 (some .boolean) [] (fun _ _ => True) (0) (PN (U := Int32) (fun zz _ => some (.int zz)) (fun zz ad => [(h, .inr (4, [.ref a, .int sz])), (a, .inl (0, 2646, .inl f)), (v, .inr (4, [.ref b, .int tz])), (b, .inl (0, 2646, .inl g))])) 0 0 (fX2_isLike_2 N K sz f tz g  fu l2) 2 [(0, .ref h), (1, .ref v), (2, .int l2)] [] [(h, .inr (4, [.ref a, .int sz])), (a, .inl (0, 2646, .inl f)), (v, .inr (4, [.ref b, .int tz])), (b, .inl (0, 2646, .inl g))] := by
  intro fu
  induction fu with
  | zero => intro l2; exact aw_none
  | succ fu ih =>
    intro l2
    refine aw_iload_n (q := 3) gdX2_isLike_0.2.2.1 rfl 2 rfl ?_
    refine aw_sipush (q := 6) (v := 2646) gdX2_isLike_0.2.2.2.1 rfl (by decide) ?_
    refine aw_icmp_ge (tgt := 32) (q := 9) gdX2_isLike_0.2.2.2.2.1 (by decide) rfl (fun h_6 => ?_) (fun h_6 => ?_)
    · refine aw_iconst (q := 33) (v := 1) gdX2_isLike_26.2.2.1 rfl (by decide) ?_
      exact aw_ireturn (w := [(h, .inr (4, [.ref a, .int sz])), (a, .inl (0, 2646, .inl f)), (v, .inr (4, [.ref b, .int tz])), (b, .inl (0, 2646, .inl g))]) [0, 1, 2, 3] gdX2_isLike_26.2.2.2 rfl rfl rfl rfl (PN.mk (fun _ => 0) rfl rfl)
    · refine aw_aload_n (q := 10) gdX2_isLike_0.2.2.2.2.2.1 rfl 0 rfl ?_
      refine aw_get (q := 13) gdX2_isLike_0.2.2.2.2.2.2.1 rfl fl_X2_11 0 rfl rfl ?_
      refine aw_iload_n (q := 14) gdX2_isLike_0.2.2.2.2.2.2.2 rfl 2 rfl ?_
      refine aw_iald (q := 15) gdX2_isLike_14.1 rfl 1 rfl ?_
      refine aw_aload_n (q := 16) gdX2_isLike_14.2.1 rfl 1 rfl ?_
      refine aw_get (q := 19) gdX2_isLike_14.2.2.1 rfl fl_X2_11 2 rfl rfl ?_
      refine aw_iload_n (q := 20) gdX2_isLike_14.2.2.2.1 rfl 2 rfl ?_
      refine aw_iald (q := 21) gdX2_isLike_14.2.2.2.2.1 rfl 3 rfl ?_
      refine aw_icmp_eq (tgt := 26) (q := 24) gdX2_isLike_14.2.2.2.2.2.1 (by decide) rfl (fun h_21 => ?_) (fun h_21 => ?_)
      · refine aw_iinc (q := 29) (v := (l2 + (1 : Int32))) (lv' := [(2, .int (l2 + (1 : Int32))), (0, .ref h), (1, .ref v)]) gdX2_isLike_26.1 rfl 2 rfl rfl (by decide) rfl ?_
        refine aw_goto (tgt := 2) gdX2_isLike_26.2.1 (by decide) ?_
        refine aw_locals (lv' := [(0, .ref h), (1, .ref v), (2, .int (l2 + (1 : Int32)))]) [1, 2, 0] rfl ?_
        exact ih _
      · refine aw_iconst (q := 25) (v := 0) gdX2_isLike_14.2.2.2.2.2.2.1 rfl (by decide) ?_
        exact aw_ireturn (w := [(h, .inr (4, [.ref a, .int sz])), (a, .inl (0, 2646, .inl f)), (v, .inr (4, [.ref b, .int tz])), (b, .inl (0, 2646, .inl g))]) [0, 1, 2, 3] gdX2_isLike_14.2.2.2.2.2.2.2 rfl rfl rfl rfl (PN.mk (fun _ => 0) rfl rfl)
def fX2_isLike (N K : Nat) (sz : Int32) (f : Nat → Int32) (tz : Int32) (g : Nat → Int32) : Option (Int32) :=
  fX2_isLike_2 N K sz f tz g  N (0 : Int32)
set_option maxHeartbeats 4000000 in
set_option maxRecDepth 100000 in
theorem ok_X2_isLike {N K : Nat} {h v a b : Nat} {sz : Int32} {f : Nat → Int32} {tz : Int32} {g : Nat → Int32} {xr : Int32} (hE : fX2_isLike N K sz f tz g = some xr) : OkM yX2_isLike (.code yX2_isLike cX2_isLike 3 (some .boolean)) (0) 0 0 [.ref h, .ref v] [(h, .inr (4, [.ref a, .int sz])), (a, .inl (0, 2646, .inl f)), (v, .inr (4, [.ref b, .int tz])), (b, .inl (0, 2646, .inl g))] ((PN (U := Int32) (fun zz _ => some (.int zz)) (fun zz ad => [(h, .inr (4, [.ref a, .int sz])), (a, .inl (0, 2646, .inl f)), (v, .inr (4, [.ref b, .int tz])), (b, .inl (0, 2646, .inl g))])) xr) := by
  refine ok_of (by decide) (Nat.le_of_ble_eq_true rfl) hE ?_
  refine aw_locals (lv' := [(0, .ref h), (1, .ref v)]) [0, 1] rfl ?_
  refine aw_iconst (q := 1) (v := 0) gdX2_isLike_0.1 rfl (by decide) ?_
  refine aw_istore_n (q := 2) (lv' := [(2, .int (0 : Int32)), (0, .ref h), (1, .ref v)]) gdX2_isLike_0.2.1 rfl (by decide) rfl ?_
  refine aw_locals (lv' := [(0, .ref h), (1, .ref v), (2, .int (0 : Int32))]) [1, 2, 0] rfl ?_
  exact tX2_isLike_2  N _
def fX2_becomeOwn (N K : Nat) (sz : Int32) (f : Nat → Int32) : Option (Int32 × (Nat → Int32)) :=
  (some (sz, (va_cpy f f (0 : Int32).toNatClampNeg (0 : Int32).toNatClampNeg (2646 : Int32).toNatClampNeg)))
set_option maxHeartbeats 4000000 in
set_option maxRecDepth 100000 in
theorem ok_X2_becomeOwn {N K : Nat} {h a : Nat} {sz : Int32} {f : Nat → Int32} {xr : Int32 × (Nat → Int32)} (hE : fX2_becomeOwn N K sz f = some xr) : OkM yX2_become (.code yX2_become cX2_become 2 none) (2) 0 0 [.ref h, .ref h] [(h, .inr (4, [.ref a, .int sz])), (a, .inl (0, 2646, .inl f))] ((PN (U := Int32 × (Nat → Int32)) (fun _ _ => none) (fun zz ad => [(h, .inr (4, [.ref a, .int zz.1])), (a, .inl (0, 2646, .inl zz.2))])) xr) := by
  refine ok_of (by decide) (Nat.le_of_ble_eq_true rfl) hE ?_
  refine aw_locals (lv' := [(0, .ref h), (1, .ref h)]) [0, 1] rfl ?_
  refine aw_aload_n (q := 1) gdX2_become_0.1 rfl 1 rfl ?_
  refine aw_get (q := 4) gdX2_become_0.2.1 rfl fl_X2_11 0 rfl rfl ?_
  refine aw_iconst (q := 5) (v := 0) gdX2_become_0.2.2.1 rfl (by decide) ?_
  refine aw_aload_n (q := 6) gdX2_become_0.2.2.2.1 rfl 0 rfl ?_
  refine aw_get (q := 9) gdX2_become_0.2.2.2.2.1 rfl fl_X2_11 0 rfl rfl ?_
  refine aw_iconst (q := 10) (v := 0) gdX2_become_0.2.2.2.2.2.1 rfl (by decide) ?_
  refine aw_sipush (q := 13) (v := 2646) gdX2_become_0.2.2.2.2.2.2.1 rfl (by decide) ?_
  refine aw_copy (q := 16) (ws' := [(h, .inr (4, [.ref a, .int sz])), (a, .inl (0, 2646, .inl (va_cpy f f (0 : Int32).toNatClampNeg (0 : Int32).toNatClampNeg (2646 : Int32).toNatClampNeg)))]) gdX2_become_0.2.2.2.2.2.2.2 rfl ml_X2_69 w_ac (by omega) (Nat.le_of_ble_eq_true rfl) 1 1 rfl rfl (by decide) (by decide) (by decide) (by decide) (by decide) rfl ?_
  refine aw_aload_n (q := 17) gdX2_become_16.1 rfl 0 rfl ?_
  refine aw_aload_n (q := 18) gdX2_become_16.2.1 rfl 1 rfl ?_
  refine aw_get (q := 21) gdX2_become_16.2.2.1 rfl fl_X2_21 0 rfl rfl ?_
  refine aw_put (q := 24) (ws' := [(h, .inr (4, [.ref a, .int sz])), (a, .inl (0, 2646, .inl (va_cpy f f (0 : Int32).toNatClampNeg (0 : Int32).toNatClampNeg (2646 : Int32).toNatClampNeg)))]) gdX2_become_16.2.2.2.1 rfl fl_X2_21 0 rfl rfl rfl (Nat.le_of_ble_eq_true rfl) rfl ?_
  exact aw_return (w := [(h, .inr (4, [.ref a, .int sz])), (a, .inl (0, 2646, .inl (va_cpy f f (0 : Int32).toNatClampNeg (0 : Int32).toNatClampNeg (2646 : Int32).toNatClampNeg)))]) [0, 1] gdX2_become_16.2.2.2.2 rfl rfl rfl (PN.mk (fun _ => 0) rfl rfl)
def fX2_isLikeOwn_2 (N K : Nat) (sz : Int32) (f : Nat → Int32) : Nat → Int32 → Option (Int32)
  | 0, _ => none
  | fu + 1, l2 =>
    (if (2646 : Int32) ≤ l2 then (some (1 : Int32)) else (if l2 < 0 ∨ 2646 ≤ l2.toNatClampNeg then none else (if l2 < 0 ∨ 2646 ≤ l2.toNatClampNeg then none else fX2_isLikeOwn_2 N K sz f  fu (l2 + (1 : Int32)))))
set_option maxHeartbeats 4000000 in
set_option maxRecDepth 100000 in
theorem tX2_isLikeOwn_2 {N K : Nat} {h a : Nat} {sz : Int32} {f : Nat → Int32} : ∀ (fu : Nat) (l2 : Int32), AW RX2 "isLike" cX2_isLike 3 (some .boolean) [] (fun _ _ => True) (0) (PN (U := Int32) (fun zz _ => some (.int zz)) (fun zz ad => [(h, .inr (4, [.ref a, .int sz])), (a, .inl (0, 2646, .inl f))])) 0 0 (fX2_isLikeOwn_2 N K sz f  fu l2) 2 [(0, .ref h), (1, .ref h), (2, .int l2)] [] [(h, .inr (4, [.ref a, .int sz])), (a, .inl (0, 2646, .inl f))] := by
  intro fu
  induction fu with
  | zero => intro l2; exact aw_none
  | succ fu ih =>
    intro l2
    refine aw_iload_n (q := 3) gdX2_isLike_0.2.2.1 rfl 2 rfl ?_
    refine aw_sipush (q := 6) (v := 2646) gdX2_isLike_0.2.2.2.1 rfl (by decide) ?_
    refine aw_icmp_ge (tgt := 32) (q := 9) gdX2_isLike_0.2.2.2.2.1 (by decide) rfl (fun h_6 => ?_) (fun h_6 => ?_)
    · refine aw_iconst (q := 33) (v := 1) gdX2_isLike_26.2.2.1 rfl (by decide) ?_
      exact aw_ireturn (w := [(h, .inr (4, [.ref a, .int sz])), (a, .inl (0, 2646, .inl f))]) [0, 1] gdX2_isLike_26.2.2.2 rfl rfl rfl rfl (PN.mk (fun _ => 0) rfl rfl)
    · refine aw_aload_n (q := 10) gdX2_isLike_0.2.2.2.2.2.1 rfl 0 rfl ?_
      refine aw_get (q := 13) gdX2_isLike_0.2.2.2.2.2.2.1 rfl fl_X2_11 0 rfl rfl ?_
      refine aw_iload_n (q := 14) gdX2_isLike_0.2.2.2.2.2.2.2 rfl 2 rfl ?_
      refine aw_iald (q := 15) gdX2_isLike_14.1 rfl 1 rfl ?_
      refine aw_aload_n (q := 16) gdX2_isLike_14.2.1 rfl 1 rfl ?_
      refine aw_get (q := 19) gdX2_isLike_14.2.2.1 rfl fl_X2_11 0 rfl rfl ?_
      refine aw_iload_n (q := 20) gdX2_isLike_14.2.2.2.1 rfl 2 rfl ?_
      refine aw_iald (q := 21) gdX2_isLike_14.2.2.2.2.1 rfl 1 rfl ?_
      refine aw_icmp_eqT (tgt := 26) gdX2_isLike_14.2.2.2.2.2.1 (by decide) rfl ?_
      refine aw_iinc (q := 29) (v := (l2 + (1 : Int32))) (lv' := [(2, .int (l2 + (1 : Int32))), (0, .ref h), (1, .ref h)]) gdX2_isLike_26.1 rfl 2 rfl rfl (by decide) rfl ?_
      refine aw_goto (tgt := 2) gdX2_isLike_26.2.1 (by decide) ?_
      refine aw_locals (lv' := [(0, .ref h), (1, .ref h), (2, .int (l2 + (1 : Int32)))]) [1, 2, 0] rfl ?_
      exact ih _
def fX2_isLikeOwn (N K : Nat) (sz : Int32) (f : Nat → Int32) : Option (Int32) :=
  fX2_isLikeOwn_2 N K sz f  N (0 : Int32)
set_option maxHeartbeats 4000000 in
set_option maxRecDepth 100000 in
theorem ok_X2_isLikeOwn {N K : Nat} {h a : Nat} {sz : Int32} {f : Nat → Int32} {xr : Int32} (hE : fX2_isLikeOwn N K sz f = some xr) : OkM yX2_isLike (.code yX2_isLike cX2_isLike 3 (some .boolean)) (0) 0 0 [.ref h, .ref h] [(h, .inr (4, [.ref a, .int sz])), (a, .inl (0, 2646, .inl f))] ((PN (U := Int32) (fun zz _ => some (.int zz)) (fun zz ad => [(h, .inr (4, [.ref a, .int sz])), (a, .inl (0, 2646, .inl f))])) xr) := by
  refine ok_of (by decide) (Nat.le_of_ble_eq_true rfl) hE ?_
  refine aw_locals (lv' := [(0, .ref h), (1, .ref h)]) [0, 1] rfl ?_
  refine aw_iconst (q := 1) (v := 0) gdX2_isLike_0.1 rfl (by decide) ?_
  refine aw_istore_n (q := 2) (lv' := [(2, .int (0 : Int32)), (0, .ref h), (1, .ref h)]) gdX2_isLike_0.2.1 rfl (by decide) rfl ?_
  refine aw_locals (lv' := [(0, .ref h), (1, .ref h), (2, .int (0 : Int32))]) [1, 2, 0] rfl ?_
  exact tX2_isLikeOwn_2  N _
def fX2_agreesWithRow_42 (N K : Nat) (sz : Int32) (f : Nat → Int32) (g : Nat → Int32) (p0 : Int32) (p1 : Int32) (k_3 : Int32 → Option (Int32)) (l4 : Int32) : Option (Int32) :=
  k_3 (l4 + (1 : Int32))
set_option maxHeartbeats 4000000 in
set_option maxRecDepth 100000 in
theorem tX2_agreesWithRow_42 {N K : Nat} {h s a r : Nat} {sz : Int32} {f : Nat → Int32} {g : Nat → Int32} {p0 : Int32} {p1 : Int32} {k_3 : Int32 → Option (Int32)} (hk_3 : ∀ (l4 : Int32), AW RX2 "agreesWithRow" cX2_agreesWithRow 5 (some .boolean) [] (fun _ _ => True) (3) (PN (U := Int32) (fun zz _ => some (.int zz)) (fun zz ad => [(h, .inr (4, [.ref a, .int sz])), (a, .inl (0, 2646, .inl f)), (s, .inr (5, [.ref r])), (r, .inl (0, 21, .inl g))])) 0 0 (k_3 l4) 3 [(0, .ref h), (1, .int p0), (2, .int p1), (3, .ref s), (4, .int l4)] [] [(h, .inr (4, [.ref a, .int sz])), (a, .inl (0, 2646, .inl f)), (s, .inr (5, [.ref r])), (r, .inl (0, 21, .inl g))]) : ∀ (l4 : Int32), AW RX2 "agreesWithRow" cX2_agreesWithRow 5 (some .boolean) [] (fun _ _ => True) (3) (PN (U := Int32) (fun zz _ => some (.int zz)) (fun zz ad => [(h, .inr (4, [.ref a, .int sz])), (a, .inl (0, 2646, .inl f)), (s, .inr (5, [.ref r])), (r, .inl (0, 21, .inl g))])) 0 0 (fX2_agreesWithRow_42 N K sz f g p0 p1 k_3 l4) 42 [(0, .ref h), (1, .int p0), (2, .int p1), (3, .ref s), (4, .int l4)] [] [(h, .inr (4, [.ref a, .int sz])), (a, .inl (0, 2646, .inl f)), (s, .inr (5, [.ref r])), (r, .inl (0, 21, .inl g))] := by
  intro l4
  refine aw_iinc (q := 45) (v := (l4 + (1 : Int32))) (lv' := [(4, .int (l4 + (1 : Int32))), (0, .ref h), (1, .int p0), (2, .int p1), (3, .ref s)]) gdX2_agreesWithRow_42.1 rfl 4 rfl rfl (by decide) rfl ?_
  refine aw_goto (tgt := 3) gdX2_agreesWithRow_42.2.1 (by decide) ?_
  refine aw_locals (lv' := [(0, .ref h), (1, .int p0), (2, .int p1), (3, .ref s), (4, .int (l4 + (1 : Int32)))]) [1, 2, 3, 4, 0] rfl ?_
  exact hk_3 _
def fX2_agreesWithRow_3 (N K : Nat) (sz : Int32) (f : Nat → Int32) (g : Nat → Int32) (p0 : Int32) (p1 : Int32) : Nat → Int32 → Option (Int32)
  | 0, _ => none
  | fu + 1, l4 =>
    (if (20 : Int32) < l4 then (some (1 : Int32)) else ((fX2_keeps N K sz f p0 l4 p1).bind (fun x15 => (if x15 = 0 then fX2_agreesWithRow_42 N K sz f g p0 p1 (fX2_agreesWithRow_3 N K sz f g p0 p1  fu) l4 else ((fX2_keptWorth N K sz f p0 l4 p1).bind (fun x26 => ((fX3_reckoned N K g p0 l4 p1).bind (fun x34 => (if x26 = x34 then fX2_agreesWithRow_42 N K sz f g p0 p1 (fX2_agreesWithRow_3 N K sz f g p0 p1  fu) l4 else (some (0 : Int32)))))))))))
set_option maxHeartbeats 4000000 in
set_option maxRecDepth 100000 in
theorem tX2_agreesWithRow_3 {N K : Nat} {h s a r : Nat} {sz : Int32} {f : Nat → Int32} {g : Nat → Int32} {p0 : Int32} {p1 : Int32} : ∀ (fu : Nat) (l4 : Int32), AW RX2 "agreesWithRow" cX2_agreesWithRow 5 (some .boolean) [] (fun _ _ => True) (3) (PN (U := Int32) (fun zz _ => some (.int zz)) (fun zz ad => [(h, .inr (4, [.ref a, .int sz])), (a, .inl (0, 2646, .inl f)), (s, .inr (5, [.ref r])), (r, .inl (0, 21, .inl g))])) 0 0 (fX2_agreesWithRow_3 N K sz f g p0 p1  fu l4) 3 [(0, .ref h), (1, .int p0), (2, .int p1), (3, .ref s), (4, .int l4)] [] [(h, .inr (4, [.ref a, .int sz])), (a, .inl (0, 2646, .inl f)), (s, .inr (5, [.ref r])), (r, .inl (0, 21, .inl g))] := by
  intro fu
  induction fu with
  | zero => intro l4; exact aw_none
  | succ fu ih =>
    intro l4
    refine aw_iload (q := 5) gdX2_agreesWithRow_0.2.2.1 rfl 4 rfl ?_
    refine aw_bipush (q := 7) (v := 20) gdX2_agreesWithRow_0.2.2.2.1 rfl (by decide) ?_
    refine aw_icmp_gt (tgt := 48) (q := 10) gdX2_agreesWithRow_0.2.2.2.2.1 (by decide) rfl (fun h_7 => ?_) (fun h_7 => ?_)
    · refine aw_iconst (q := 49) (v := 1) gdX2_agreesWithRow_42.2.2.1 rfl (by decide) ?_
      exact aw_ireturn (w := [(h, .inr (4, [.ref a, .int sz])), (a, .inl (0, 2646, .inl f)), (s, .inr (5, [.ref r])), (r, .inl (0, 21, .inl g))]) [0, 1, 2, 3] gdX2_agreesWithRow_42.2.2.2 rfl rfl rfl rfl (PN.mk (fun _ => 0) rfl rfl)
    · refine aw_aload_n (q := 11) gdX2_agreesWithRow_0.2.2.2.2.2.1 rfl 0 rfl ?_
      refine aw_iload_n (q := 12) gdX2_agreesWithRow_0.2.2.2.2.2.2.1 rfl 1 rfl ?_
      refine aw_iload (q := 14) gdX2_agreesWithRow_0.2.2.2.2.2.2.2 rfl 4 rfl ?_
      refine aw_iload_n (q := 15) gdX2_agreesWithRow_14.1 rfl 2 rfl ?_
      refine aw_call (q := 18) (kc1 := 0) (ks1 := 0) (wc := [(h, .inr (4, [.ref a, .int sz])), (a, .inl (0, 2646, .inl f))]) (wr := [(s, .inr (5, [.ref r])), (r, .inl (0, 21, .inl g))]) (st1 := fun x15 g15 => [.int x15]) (ws1 := fun x15 g15 => [(s, .inr (5, [.ref r])), (r, .inl (0, 21, .inl g)), (h, .inr (4, [.ref a, .int sz])), (a, .inl (0, 2646, .inl f))]) (As := [.ref h, .int p0, .int l4, .int p1]) [0, 1] [2, 3] (fun _ => runV (q0 := 0) gdX2_agreesWithRow_14.2.1 mi_X2_keeps im_X2_keeps se_X2_keeps ml_X2_61 (by omega) rfl (Nat.le_of_ble_eq_true rfl) rfl rfl rfl rfl) (fun x9 h9 => ok_X2_keeps h9) rfl rfl rfl rfl rfl (by decide +kernel) (by omega) (by omega) (fun _ _ => rfl) (fun _ _ => rfl) (fun x15 g15 => ?_)
      refine aw_if_eq (tgt := 42) (q := 21) gdX2_agreesWithRow_14.2.2.1 (by decide) rfl (fun h_18 => ?_) (fun h_18 => ?_)
      · refine aw_world (ws' := [(h, .inr (4, [.ref a, .int sz])), (a, .inl (0, 2646, .inl f)), (s, .inr (5, [.ref r])), (r, .inl (0, 21, .inl g))]) [2, 3, 0, 1] rfl rfl ?_
        exact tX2_agreesWithRow_42 ih _
      · refine aw_aload_n (q := 22) gdX2_agreesWithRow_14.2.2.2.1 rfl 0 rfl ?_
        refine aw_iload_n (q := 23) gdX2_agreesWithRow_14.2.2.2.2.1 rfl 1 rfl ?_
        refine aw_iload (q := 25) gdX2_agreesWithRow_14.2.2.2.2.2.1 rfl 4 rfl ?_
        refine aw_iload_n (q := 26) gdX2_agreesWithRow_14.2.2.2.2.2.2.1 rfl 2 rfl ?_
        refine aw_call (q := 29) (kc1 := 0) (ks1 := 0) (wc := [(h, .inr (4, [.ref a, .int sz])), (a, .inl (0, 2646, .inl f))]) (wr := [(s, .inr (5, [.ref r])), (r, .inl (0, 21, .inl g))]) (st1 := fun x26 g26 => [.int x26]) (ws1 := fun x26 g26 => [(s, .inr (5, [.ref r])), (r, .inl (0, 21, .inl g)), (h, .inr (4, [.ref a, .int sz])), (a, .inl (0, 2646, .inl f))]) (As := [.ref h, .int p0, .int l4, .int p1]) [2, 3] [0, 1] (fun _ => runV (q0 := 2) gdX2_agreesWithRow_14.2.2.2.2.2.2.2 mi_X2_keptWorth im_X2_keptWorth se_X2_keptWorth ml_X2_58 (by omega) rfl (Nat.le_of_ble_eq_true rfl) rfl rfl rfl rfl) (fun x9 h9 => ok_X2_keptWorth h9) rfl rfl rfl rfl rfl (by decide +kernel) (by omega) (by omega) (fun _ _ => rfl) (fun _ _ => rfl) (fun x26 g26 => ?_)
        refine aw_aload_n (q := 30) gdX2_agreesWithRow_29.1 rfl 3 rfl ?_
        refine aw_iload_n (q := 31) gdX2_agreesWithRow_29.2.1 rfl 1 rfl ?_
        refine aw_iload (q := 33) gdX2_agreesWithRow_29.2.2.1 rfl 4 rfl ?_
        refine aw_iload_n (q := 34) gdX2_agreesWithRow_29.2.2.2.1 rfl 2 rfl ?_
        refine aw_call (q := 37) (kc1 := 0) (ks1 := 0) (wc := [(s, .inr (5, [.ref r])), (r, .inl (0, 21, .inl g))]) (wr := [(h, .inr (4, [.ref a, .int sz])), (a, .inl (0, 2646, .inl f))]) (st1 := fun x34 g34 => [.int x34, .int x26]) (ws1 := fun x34 g34 => [(h, .inr (4, [.ref a, .int sz])), (a, .inl (0, 2646, .inl f)), (s, .inr (5, [.ref r])), (r, .inl (0, 21, .inl g))]) (As := [.ref s, .int p0, .int l4, .int p1]) [0, 1] [2, 3] (fun _ => runV (q0 := 0) gdX2_agreesWithRow_29.2.2.2.2.1 mi_X3_reckoned im_X3_reckoned se_X3_reckoned ml_X2_89 (by omega) rfl (Nat.le_of_ble_eq_true rfl) rfl rfl rfl rfl) (fun x9 h9 => ok_X3_reckoned h9) rfl rfl rfl rfl rfl (by decide +kernel) (by omega) (by omega) (fun _ _ => rfl) (fun _ _ => rfl) (fun x34 g34 => ?_)
        refine aw_icmp_eq (tgt := 42) (q := 40) gdX2_agreesWithRow_29.2.2.2.2.2.1 (by decide) rfl (fun h_37 => ?_) (fun h_37 => ?_)
        · exact tX2_agreesWithRow_42 ih _
        · refine aw_iconst (q := 41) (v := 0) gdX2_agreesWithRow_29.2.2.2.2.2.2.1 rfl (by decide) ?_
          exact aw_ireturn (w := [(h, .inr (4, [.ref a, .int sz])), (a, .inl (0, 2646, .inl f)), (s, .inr (5, [.ref r])), (r, .inl (0, 21, .inl g))]) [0, 1, 2, 3] gdX2_agreesWithRow_29.2.2.2.2.2.2.2 rfl rfl rfl rfl (PN.mk (fun _ => 0) rfl rfl)
def fX2_agreesWithRow (N K : Nat) (sz : Int32) (f : Nat → Int32) (g : Nat → Int32) (p0 : Int32) (p1 : Int32) : Option (Int32) :=
  fX2_agreesWithRow_3 N K sz f g p0 p1  N (0 : Int32)
set_option maxHeartbeats 4000000 in
set_option maxRecDepth 100000 in
theorem ok_X2_agreesWithRow {N K : Nat} {h s a r : Nat} {sz : Int32} {f : Nat → Int32} {g : Nat → Int32} {p0 : Int32} {p1 : Int32} {xr : Int32} (hE : fX2_agreesWithRow N K sz f g p0 p1 = some xr) : OkM yX2_agreesWithRow (.code yX2_agreesWithRow cX2_agreesWithRow 5 (some .boolean)) (3) 0 0 [.ref h, .int p0, .int p1, .ref s] [(h, .inr (4, [.ref a, .int sz])), (a, .inl (0, 2646, .inl f)), (s, .inr (5, [.ref r])), (r, .inl (0, 21, .inl g))] ((PN (U := Int32) (fun zz _ => some (.int zz)) (fun zz ad => [(h, .inr (4, [.ref a, .int sz])), (a, .inl (0, 2646, .inl f)), (s, .inr (5, [.ref r])), (r, .inl (0, 21, .inl g))])) xr) := by
  refine ok_of (by decide) (Nat.le_of_ble_eq_true rfl) hE ?_
  refine aw_locals (lv' := [(0, .ref h), (1, .int p0), (2, .int p1), (3, .ref s)]) [0, 1, 2, 3] rfl ?_
  refine aw_iconst (q := 1) (v := 0) gdX2_agreesWithRow_0.1 rfl (by decide) ?_
  refine aw_istore (q := 3) (lv' := [(4, .int (0 : Int32)), (0, .ref h), (1, .int p0), (2, .int p1), (3, .ref s)]) gdX2_agreesWithRow_0.2.1 rfl (by decide) rfl ?_
  refine aw_locals (lv' := [(0, .ref h), (1, .int p0), (2, .int p1), (3, .ref s), (4, .int (0 : Int32))]) [1, 2, 3, 4, 0] rfl ?_
  exact tX2_agreesWithRow_3  N _
def fX2_agreesWith_10 (N K : Nat) (sz : Int32) (f : Nat → Int32) (g : Nat → Int32) (k_2 : Int32 → (Nat → Int32) → Option (Int32 × (Nat → Int32))) : Nat → Int32 → Int32 → (Nat → Int32) → Option (Int32 × (Nat → Int32))
  | 0, _, _, _ => none
  | fu + 1, l2, l3, g_ =>
    (if (20 : Int32) < l3 then k_2 (l2 + (1 : Int32)) g_ else ((fX3_reckon N K g_ l2 l3).bind (fun x19 => ((fX2_agreesWithRow N K sz f x19 l2 l3).bind (fun x26 => (if x26 = 0 then (some ((0 : Int32), x19)) else fX2_agreesWith_10 N K sz f g k_2 fu l2 (l3 + (1 : Int32)) x19))))))
set_option maxHeartbeats 4000000 in
set_option maxRecDepth 100000 in
theorem tX2_agreesWith_10 {N K : Nat} {h s a r : Nat} {sz : Int32} {f : Nat → Int32} {g : Nat → Int32} {k_2 : Int32 → (Nat → Int32) → Option (Int32 × (Nat → Int32))} (hk_2 : ∀ (l2 : Int32) (g_ : Nat → Int32), AW RX2 "agreesWith" cX2_agreesWith 4 (some .boolean) [] (fun _ _ => True) (4) (PN (U := Int32 × (Nat → Int32)) (fun zz _ => some (.int zz.1)) (fun zz ad => [(h, .inr (4, [.ref a, .int sz])), (a, .inl (0, 2646, .inl f)), (s, .inr (5, [.ref r])), (r, .inl (0, 21, .inl zz.2))])) 0 0 (k_2 l2 g_) 2 [(0, .ref h), (1, .ref s), (2, .int l2)] [] [(h, .inr (4, [.ref a, .int sz])), (a, .inl (0, 2646, .inl f)), (s, .inr (5, [.ref r])), (r, .inl (0, 21, .inl g_))]) : ∀ (fu : Nat) (l2 : Int32) (l3 : Int32) (g_ : Nat → Int32), AW RX2 "agreesWith" cX2_agreesWith 4 (some .boolean) [] (fun _ _ => True) (4) (PN (U := Int32 × (Nat → Int32)) (fun zz _ => some (.int zz.1)) (fun zz ad => [(h, .inr (4, [.ref a, .int sz])), (a, .inl (0, 2646, .inl f)), (s, .inr (5, [.ref r])), (r, .inl (0, 21, .inl zz.2))])) 0 0 (fX2_agreesWith_10 N K sz f g k_2 fu l2 l3 g_) 10 [(0, .ref h), (1, .ref s), (2, .int l2), (3, .int l3)] [] [(h, .inr (4, [.ref a, .int sz])), (a, .inl (0, 2646, .inl f)), (s, .inr (5, [.ref r])), (r, .inl (0, 21, .inl g_))] := by
  intro fu
  induction fu with
  | zero => intro l2 l3 g_; exact aw_none
  | succ fu ih =>
    intro l2 l3 g_
    refine aw_iload_n (q := 11) gdX2_agreesWith_0.2.2.2.2.2.2.2 rfl 3 rfl ?_
    refine aw_bipush (q := 13) (v := 20) gdX2_agreesWith_11.1 rfl (by decide) ?_
    refine aw_icmp_gt (tgt := 40) (q := 16) gdX2_agreesWith_11.2.1 (by decide) rfl (fun h_13 => ?_) (fun h_13 => ?_)
    · refine aw_iinc (q := 43) (v := (l2 + (1 : Int32))) (lv' := [(2, .int (l2 + (1 : Int32))), (0, .ref h), (1, .ref s), (3, .int l3)]) gdX2_agreesWith_40.1 rfl 2 rfl rfl (by decide) rfl ?_
      refine aw_goto (tgt := 2) gdX2_agreesWith_40.2.1 (by decide) ?_
      refine aw_locals (lv' := [(0, .ref h), (1, .ref s), (2, .int (l2 + (1 : Int32)))]) [1, 2, 0] rfl ?_
      exact hk_2 _ _
    · refine aw_aload_n (q := 17) gdX2_agreesWith_11.2.2.1 rfl 1 rfl ?_
      refine aw_iload_n (q := 18) gdX2_agreesWith_11.2.2.2.1 rfl 2 rfl ?_
      refine aw_iload_n (q := 19) gdX2_agreesWith_11.2.2.2.2.1 rfl 3 rfl ?_
      refine aw_call (q := 22) (kc1 := 0) (ks1 := 0) (wc := [(s, .inr (5, [.ref r])), (r, .inl (0, 21, .inl g_))]) (wr := [(h, .inr (4, [.ref a, .int sz])), (a, .inl (0, 2646, .inl f))]) (st1 := fun x19 g19 => []) (ws1 := fun x19 g19 => [(h, .inr (4, [.ref a, .int sz])), (a, .inl (0, 2646, .inl f)), (s, .inr (5, [.ref r])), (r, .inl (0, 21, .inl x19))]) (As := [.ref s, .int l2, .int l3]) [2, 3] [0, 1] (fun _ => runV (q0 := 2) gdX2_agreesWith_11.2.2.2.2.2.1 mi_X3_reckon im_X3_reckon se_X3_reckon ml_X2_79 (by omega) rfl (Nat.le_of_ble_eq_true rfl) rfl rfl rfl rfl) (fun x9 h9 => ok_X3_reckon h9) rfl rfl rfl rfl rfl (by decide +kernel) (by omega) (by omega) (fun _ _ => rfl) (fun _ _ => rfl) (fun x19 g19 => ?_)
      refine aw_aload_n (q := 23) gdX2_agreesWith_11.2.2.2.2.2.2.1 rfl 0 rfl ?_
      refine aw_iload_n (q := 24) gdX2_agreesWith_11.2.2.2.2.2.2.2 rfl 2 rfl ?_
      refine aw_iload_n (q := 25) gdX2_agreesWith_24.1 rfl 3 rfl ?_
      refine aw_aload_n (q := 26) gdX2_agreesWith_24.2.1 rfl 1 rfl ?_
      refine aw_call (q := 29) (kc1 := 0) (ks1 := 0) (wc := [(h, .inr (4, [.ref a, .int sz])), (a, .inl (0, 2646, .inl f)), (s, .inr (5, [.ref r])), (r, .inl (0, 21, .inl x19))]) (wr := []) (st1 := fun x26 g26 => [.int x26]) (ws1 := fun x26 g26 => [(h, .inr (4, [.ref a, .int sz])), (a, .inl (0, 2646, .inl f)), (s, .inr (5, [.ref r])), (r, .inl (0, 21, .inl x19))]) (As := [.ref h, .int l2, .int l3, .ref s]) [0, 1, 2, 3] [] (fun _ => runV (q0 := 0) gdX2_agreesWith_24.2.2.1 mi_X2_agreesWithRow im_X2_agreesWithRow se_X2_agreesWithRow ml_X2_85 (by omega) rfl (Nat.le_of_ble_eq_true rfl) rfl rfl rfl rfl) (fun x9 h9 => ok_X2_agreesWithRow h9) rfl rfl rfl rfl rfl (by decide +kernel) (by omega) (by omega) (fun _ _ => rfl) (fun _ _ => rfl) (fun x26 g26 => ?_)
      refine aw_if_ne (tgt := 34) (q := 32) gdX2_agreesWith_24.2.2.2.1 (by decide) rfl (fun h_29 => ?_) (fun h_29 => ?_)
      · refine aw_iinc (q := 37) (v := (l3 + (1 : Int32))) (lv' := [(3, .int (l3 + (1 : Int32))), (0, .ref h), (1, .ref s), (2, .int l2)]) gdX2_agreesWith_24.2.2.2.2.2.2.1 rfl 3 rfl rfl (by decide) rfl ?_
        refine aw_goto (tgt := 10) gdX2_agreesWith_24.2.2.2.2.2.2.2 (by decide) ?_
        refine aw_locals (lv' := [(0, .ref h), (1, .ref s), (2, .int l2), (3, .int (l3 + (1 : Int32)))]) [1, 2, 3, 0] rfl ?_
        exact ih _ _ _
      · refine aw_iconst (q := 33) (v := 0) gdX2_agreesWith_24.2.2.2.2.1 rfl (by decide) ?_
        exact aw_ireturn (w := [(h, .inr (4, [.ref a, .int sz])), (a, .inl (0, 2646, .inl f)), (s, .inr (5, [.ref r])), (r, .inl (0, 21, .inl x19))]) [0, 1, 2, 3] gdX2_agreesWith_24.2.2.2.2.2.1 rfl rfl rfl rfl (PN.mk (fun _ => 0) rfl rfl)
def fX2_agreesWith_2 (N K : Nat) (sz : Int32) (f : Nat → Int32) (g : Nat → Int32) : Nat → Int32 → (Nat → Int32) → Option (Int32 × (Nat → Int32))
  | 0, _, _ => none
  | fu + 1, l2, g_ =>
    (if (6 : Int32) ≤ l2 then (some ((1 : Int32), g_)) else fX2_agreesWith_10 N K sz f g (fX2_agreesWith_2 N K sz f g  fu) N l2 (0 : Int32) g_)
set_option maxHeartbeats 4000000 in
set_option maxRecDepth 100000 in
theorem tX2_agreesWith_2 {N K : Nat} {h s a r : Nat} {sz : Int32} {f : Nat → Int32} {g : Nat → Int32} : ∀ (fu : Nat) (l2 : Int32) (g_ : Nat → Int32), AW RX2 "agreesWith" cX2_agreesWith 4 (some .boolean) [] (fun _ _ => True) (4) (PN (U := Int32 × (Nat → Int32)) (fun zz _ => some (.int zz.1)) (fun zz ad => [(h, .inr (4, [.ref a, .int sz])), (a, .inl (0, 2646, .inl f)), (s, .inr (5, [.ref r])), (r, .inl (0, 21, .inl zz.2))])) 0 0 (fX2_agreesWith_2 N K sz f g  fu l2 g_) 2 [(0, .ref h), (1, .ref s), (2, .int l2)] [] [(h, .inr (4, [.ref a, .int sz])), (a, .inl (0, 2646, .inl f)), (s, .inr (5, [.ref r])), (r, .inl (0, 21, .inl g_))] := by
  intro fu
  induction fu with
  | zero => intro l2 g_; exact aw_none
  | succ fu ih =>
    intro l2 g_
    refine aw_iload_n (q := 3) gdX2_agreesWith_0.2.2.1 rfl 2 rfl ?_
    refine aw_bipush (q := 5) (v := 6) gdX2_agreesWith_0.2.2.2.1 rfl (by decide) ?_
    refine aw_icmp_ge (tgt := 46) (q := 8) gdX2_agreesWith_0.2.2.2.2.1 (by decide) rfl (fun h_5 => ?_) (fun h_5 => ?_)
    · refine aw_iconst (q := 47) (v := 1) gdX2_agreesWith_40.2.2.1 rfl (by decide) ?_
      exact aw_ireturn (w := [(h, .inr (4, [.ref a, .int sz])), (a, .inl (0, 2646, .inl f)), (s, .inr (5, [.ref r])), (r, .inl (0, 21, .inl g_))]) [0, 1, 2, 3] gdX2_agreesWith_40.2.2.2 rfl rfl rfl rfl (PN.mk (fun _ => 0) rfl rfl)
    · refine aw_iconst (q := 9) (v := 0) gdX2_agreesWith_0.2.2.2.2.2.1 rfl (by decide) ?_
      refine aw_istore_n (q := 10) (lv' := [(3, .int (0 : Int32)), (0, .ref h), (1, .ref s), (2, .int l2)]) gdX2_agreesWith_0.2.2.2.2.2.2.1 rfl (by decide) rfl ?_
      refine aw_locals (lv' := [(0, .ref h), (1, .ref s), (2, .int l2), (3, .int (0 : Int32))]) [1, 2, 3, 0] rfl ?_
      exact tX2_agreesWith_10 ih N _ _ _
def fX2_agreesWith (N K : Nat) (sz : Int32) (f : Nat → Int32) (g : Nat → Int32) : Option (Int32 × (Nat → Int32)) :=
  fX2_agreesWith_2 N K sz f g  N (0 : Int32) g
set_option maxHeartbeats 4000000 in
set_option maxRecDepth 100000 in
theorem ok_X2_agreesWith {N K : Nat} {h s a r : Nat} {sz : Int32} {f : Nat → Int32} {g : Nat → Int32} {xr : Int32 × (Nat → Int32)} (hE : fX2_agreesWith N K sz f g = some xr) : OkM yX2_agreesWith (.code yX2_agreesWith cX2_agreesWith 4 (some .boolean)) (4) 0 0 [.ref h, .ref s] [(h, .inr (4, [.ref a, .int sz])), (a, .inl (0, 2646, .inl f)), (s, .inr (5, [.ref r])), (r, .inl (0, 21, .inl g))] ((PN (U := Int32 × (Nat → Int32)) (fun zz _ => some (.int zz.1)) (fun zz ad => [(h, .inr (4, [.ref a, .int sz])), (a, .inl (0, 2646, .inl f)), (s, .inr (5, [.ref r])), (r, .inl (0, 21, .inl zz.2))])) xr) := by
  refine ok_of (by decide) (Nat.le_of_ble_eq_true rfl) hE ?_
  refine aw_locals (lv' := [(0, .ref h), (1, .ref s)]) [0, 1] rfl ?_
  refine aw_iconst (q := 1) (v := 0) gdX2_agreesWith_0.1 rfl (by decide) ?_
  refine aw_istore_n (q := 2) (lv' := [(2, .int (0 : Int32)), (0, .ref h), (1, .ref s)]) gdX2_agreesWith_0.2.1 rfl (by decide) rfl ?_
  refine aw_locals (lv' := [(0, .ref h), (1, .ref s), (2, .int (0 : Int32))]) [1, 2, 0] rfl ?_
  exact tX2_agreesWith_2  N _ _
def fX2_sumOfLegs_11 (N K : Nat) (rec : Int32 → (Nat → Int32) → Int32 → Int32 → Int32 → Int32 → Int32 → Int32 → Int32 → Int32 → Int32 → Int32 → Option (Int32 × Int32 × (Nat → Int32) × Int32 × Int32 × Int32)) (sz : Int32) (f : Nat → Int32) (c0 : Int32) (c1 : Int32) (c2 : Int32) (c3 : Int32) (c4 : Int32) (c5 : Int32) (p0 : Int32) (p1 : Int32) (p2 : Int32) (p3 : Int32) (s0 : Int32) (sz_ : Int32) (f_ : Nat → Int32) (c1_ : Int32) (c2_ : Int32) (c3_ : Int32) : Option (Int32 × Int32 × (Nat → Int32) × Int32 × Int32 × Int32) :=
  (if p0 = (0 : Int32) then ((rec sz_ f_ c0 c1_ c2_ c3_ c4 c5 p0 p1 (p2 - (1 : Int32)) p3).bind (fun x58 => ((rec x58.2.1 x58.2.2.1 c0 x58.2.2.2.1 x58.2.2.2.2.1 x58.2.2.2.2.2 c4 c5 p0 (p1 - p2) p2 p3).bind (fun x71 => (some ((x58.1 + x71.1), x71.2.1, x71.2.2.1, x71.2.2.2.1, x71.2.2.2.2.1, x71.2.2.2.2.2)))))) else (if p0 = (1 : Int32) then ((rec sz_ f_ c0 c1_ c2_ c3_ c4 c5 p0 (p1 - (1 : Int32)) (p2 - (1 : Int32)) p3).bind (fun x88 => ((rec x88.2.1 x88.2.2.1 c0 x88.2.2.2.1 x88.2.2.2.2.1 x88.2.2.2.2.2 c4 c5 p0 (p1 - p2) p2 p3).bind (fun x101 => (some ((x88.1 + x101.1), x101.2.1, x101.2.2.1, x101.2.2.2.1, x101.2.2.2.2.1, x101.2.2.2.2.2)))))) else (if p0 = (2 : Int32) then ((rec sz_ f_ c0 c1_ c2_ c3_ c4 c5 p0 p1 (p2 - (1 : Int32)) p3).bind (fun x116 => ((rec x116.2.1 x116.2.2.1 c0 x116.2.2.2.1 x116.2.2.2.2.1 x116.2.2.2.2.2 c4 c5 p0 (p1 - p2) (p2 - (1 : Int32)) p3).bind (fun x131 => (some ((x116.1 + x131.1), x131.2.1, x131.2.2.1, x131.2.2.2.1, x131.2.2.2.2.1, x131.2.2.2.2.2)))))) else (if p0 = (3 : Int32) then ((rec sz_ f_ c0 c1_ c2_ c3_ c4 c5 p0 p1 (p2 - (1 : Int32)) p3).bind (fun x146 => (if s0 = 0 then (some ((x146.1 + (0 : Int32)), x146.2.1, x146.2.2.1, x146.2.2.2.1, x146.2.2.2.2.1, x146.2.2.2.2.2)) else ((rec x146.2.1 x146.2.2.1 c0 x146.2.2.2.1 x146.2.2.2.2.1 x146.2.2.2.2.2 c4 c5 p0 (p1 - p2) p2 p3).bind (fun x164 => (some ((x146.1 + x164.1), x164.2.1, x164.2.2.1, x164.2.2.2.1, x164.2.2.2.2.1, x164.2.2.2.2.2))))))) else (if p0 = (4 : Int32) then ((rec sz_ f_ c0 c1_ c2_ c3_ c4 c5 p0 p1 (p2 - (1 : Int32)) p3).bind (fun x183 => (if s0 = 0 then (some ((x183.1 + (0 : Int32)), x183.2.1, x183.2.2.1, x183.2.2.2.1, x183.2.2.2.2.1, x183.2.2.2.2.2)) else ((rec x183.2.1 x183.2.2.1 c0 x183.2.2.2.1 x183.2.2.2.2.1 x183.2.2.2.2.2 c4 c5 p0 (p1 - p2) (p2 - (1 : Int32)) p3).bind (fun x203 => (some ((x183.1 + x203.1), x203.2.1, x203.2.2.1, x203.2.2.2.1, x203.2.2.2.2.1, x203.2.2.2.2.2))))))) else ((rec sz_ f_ c0 c1_ c2_ c3_ c4 c5 p0 (p1 - p2) p2 p3).bind (fun x222 => ((rec x222.2.1 x222.2.2.1 c0 x222.2.2.2.1 x222.2.2.2.2.1 x222.2.2.2.2.2 c4 c5 p0 (p1 - p2) (p2 - (1 : Int32)) p3).bind (fun x237 => (some ((x222.1 + x237.1), x237.2.1, x237.2.2.1, x237.2.2.2.1, x237.2.2.2.2.1, x237.2.2.2.2.2)))))))))))
set_option maxHeartbeats 4000000 in
set_option maxRecDepth 100000 in
theorem tX2_sumOfLegs_11 {N K : Nat} {h c a : Nat} {sz : Int32} {f : Nat → Int32} {c0 : Int32} {c1 : Int32} {c2 : Int32} {c3 : Int32} {c4 : Int32} {c5 : Int32} {p0 : Int32} {p1 : Int32} {p2 : Int32} {p3 : Int32} {rec : Int32 → (Nat → Int32) → Int32 → Int32 → Int32 → Int32 → Int32 → Int32 → Int32 → Int32 → Int32 → Int32 → Option (Int32 × Int32 × (Nat → Int32) × Int32 × Int32 × Int32)} {dr : Nat} (hrec : ∀ (sz : Int32) (f : Nat → Int32) (c0 : Int32) (c1 : Int32) (c2 : Int32) (c3 : Int32) (c4 : Int32) (c5 : Int32) (p0 : Int32) (p1 : Int32) (p2 : Int32) (p3 : Int32) (xr : Int32 × Int32 × (Nat → Int32) × Int32 × Int32 × Int32), rec sz f c0 c1 c2 c3 c4 c5 p0 p1 p2 p3 = some xr → OkM yX2_worthKnown (.code yX2_worthKnown cX2_worthKnown 8 (some .int)) (dr) 0 0 [.ref h, .int p0, .int p1, .int p2, .ref c, .int p3] [(h, .inr (4, [.ref a, .int sz])), (a, .inl (0, 2646, .inl f)), (c, .inr (2, [.int c0, .int c1, .int c2, .int c3, .int c4, .int c5]))] ((PN (U := Int32 × Int32 × (Nat → Int32) × Int32 × Int32 × Int32) (fun zz _ => some (.int zz.1)) (fun zz ad => [(h, .inr (4, [.ref a, .int zz.2.1])), (a, .inl (0, 2646, .inl zz.2.2.1)), (c, .inr (2, [.int c0, .int zz.2.2.2.1, .int zz.2.2.2.2.1, .int zz.2.2.2.2.2, .int c4, .int c5]))])) xr)) : ∀ (s0 : Int32) (sz_ : Int32) (f_ : Nat → Int32) (c1_ : Int32) (c2_ : Int32) (c3_ : Int32), AW RX2 "sumOfLegs" cX2_sumOfLegs 7 (some .int) [] (fun _ _ => True) (dr + 1) (PN (U := Int32 × Int32 × (Nat → Int32) × Int32 × Int32 × Int32) (fun zz _ => some (.int zz.1)) (fun zz ad => [(h, .inr (4, [.ref a, .int zz.2.1])), (a, .inl (0, 2646, .inl zz.2.2.1)), (c, .inr (2, [.int c0, .int zz.2.2.2.1, .int zz.2.2.2.2.1, .int zz.2.2.2.2.2, .int c4, .int c5]))])) 0 0 (fX2_sumOfLegs_11 N K rec sz f c0 c1 c2 c3 c4 c5 p0 p1 p2 p3  s0 sz_ f_ c1_ c2_ c3_) 11 [(0, .ref h), (1, .int p0), (2, .int p1), (3, .int p2), (4, .ref c), (5, .int p3)] [.int s0] [(h, .inr (4, [.ref a, .int sz_])), (a, .inl (0, 2646, .inl f_)), (c, .inr (2, [.int c0, .int c1_, .int c2_, .int c3_, .int c4, .int c5]))] := by
  intro s0 sz_ f_ c1_ c2_ c3_
  refine aw_istore (q := 13) (lv' := [(6, .int s0), (0, .ref h), (1, .int p0), (2, .int p1), (3, .int p2), (4, .ref c), (5, .int p3)]) gdX2_sumOfLegs_0.2.2.2.2.2.2.2 rfl (by decide) rfl ?_
  refine aw_iload_n (q := 14) gdX2_sumOfLegs_13.1 rfl 2 rfl ?_
  refine aw_tsw (v := 0) (off := 34) (tgt := 48) gdX2_sumOfLegs_13.2.1 (by decide) (by decide) (by decide) (by decide) (fun hs_14_0 => ?_) (fun hs_14_0 => ?_)
  · refine aw_aload_n (q := 49) gdX2_sumOfLegs_13.2.2.1 rfl 1 rfl ?_
    refine aw_iload_n (q := 50) gdX2_sumOfLegs_13.2.2.2.1 rfl 2 rfl ?_
    refine aw_iload_n (q := 51) gdX2_sumOfLegs_13.2.2.2.2.1 rfl 3 rfl ?_
    refine aw_iload_n (q := 52) gdX2_sumOfLegs_13.2.2.2.2.2.1 rfl 4 rfl ?_
    refine aw_iconst (q := 53) (v := 1) gdX2_sumOfLegs_13.2.2.2.2.2.2.1 rfl (by decide) ?_
    refine aw_isub (q := 54) gdX2_sumOfLegs_13.2.2.2.2.2.2.2 rfl ?_
    refine aw_aload (q := 56) gdX2_sumOfLegs_54.1 rfl 5 rfl ?_
    refine aw_iload (q := 58) gdX2_sumOfLegs_54.2.1 rfl 6 rfl ?_
    refine aw_call (q := 61) (kc1 := 0) (ks1 := 0) (wc := [(h, .inr (4, [.ref a, .int sz_])), (a, .inl (0, 2646, .inl f_)), (c, .inr (2, [.int c0, .int c1_, .int c2_, .int c3_, .int c4, .int c5]))]) (wr := []) (st1 := fun x58 g58 => [.int x58.1]) (ws1 := fun x58 g58 => [(h, .inr (4, [.ref a, .int x58.2.1])), (a, .inl (0, 2646, .inl x58.2.2.1)), (c, .inr (2, [.int c0, .int x58.2.2.2.1, .int x58.2.2.2.2.1, .int x58.2.2.2.2.2, .int c4, .int c5]))]) (As := [.ref h, .int p0, .int p1, .int (p2 - (1 : Int32)), .ref c, .int p3]) [0, 1, 2] [] (fun _ => runV (q0 := 0) gdX2_sumOfLegs_54.2.2.1 mi_X2_worthKnown im_X2_worthKnown se_X2_worthKnown ml_X2_25 (by omega) rfl (Nat.le_of_ble_eq_true rfl) rfl rfl rfl rfl) (fun x9 h9 => hrec _ _ _ _ _ _ _ _ _ _ _ _ x9 h9) rfl rfl rfl rfl rfl (by decide +kernel) (by omega) (by omega) (fun _ _ => rfl) (fun _ _ => rfl) (fun x58 g58 => ?_)
    refine aw_aload_n (q := 62) gdX2_sumOfLegs_54.2.2.2.1 rfl 1 rfl ?_
    refine aw_iload_n (q := 63) gdX2_sumOfLegs_54.2.2.2.2.1 rfl 2 rfl ?_
    refine aw_iload_n (q := 64) gdX2_sumOfLegs_54.2.2.2.2.2.1 rfl 3 rfl ?_
    refine aw_iload_n (q := 65) gdX2_sumOfLegs_54.2.2.2.2.2.2.1 rfl 4 rfl ?_
    refine aw_isub (q := 66) gdX2_sumOfLegs_54.2.2.2.2.2.2.2 rfl ?_
    refine aw_iload_n (q := 67) gdX2_sumOfLegs_66.1 rfl 4 rfl ?_
    refine aw_aload (q := 69) gdX2_sumOfLegs_66.2.1 rfl 5 rfl ?_
    refine aw_iload (q := 71) gdX2_sumOfLegs_66.2.2.1 rfl 6 rfl ?_
    refine aw_call (q := 74) (kc1 := 0) (ks1 := 0) (wc := [(h, .inr (4, [.ref a, .int x58.2.1])), (a, .inl (0, 2646, .inl x58.2.2.1)), (c, .inr (2, [.int c0, .int x58.2.2.2.1, .int x58.2.2.2.2.1, .int x58.2.2.2.2.2, .int c4, .int c5]))]) (wr := []) (st1 := fun x71 g71 => [.int x71.1, .int x58.1]) (ws1 := fun x71 g71 => [(h, .inr (4, [.ref a, .int x71.2.1])), (a, .inl (0, 2646, .inl x71.2.2.1)), (c, .inr (2, [.int c0, .int x71.2.2.2.1, .int x71.2.2.2.2.1, .int x71.2.2.2.2.2, .int c4, .int c5]))]) (As := [.ref h, .int p0, .int (p1 - p2), .int p2, .ref c, .int p3]) [0, 1, 2] [] (fun _ => runV (q0 := 0) gdX2_sumOfLegs_66.2.2.2.1 mi_X2_worthKnown im_X2_worthKnown se_X2_worthKnown ml_X2_25 (by omega) rfl (Nat.le_of_ble_eq_true rfl) rfl rfl rfl rfl) (fun x9 h9 => hrec _ _ _ _ _ _ _ _ _ _ _ _ x9 h9) rfl rfl rfl rfl rfl (by decide +kernel) (by omega) (by omega) (fun _ _ => rfl) (fun _ _ => rfl) (fun x71 g71 => ?_)
    refine aw_iadd (q := 75) gdX2_sumOfLegs_66.2.2.2.2.1 rfl ?_
    exact aw_ireturn (w := [(h, .inr (4, [.ref a, .int x71.2.1])), (a, .inl (0, 2646, .inl x71.2.2.1)), (c, .inr (2, [.int c0, .int x71.2.2.2.1, .int x71.2.2.2.2.1, .int x71.2.2.2.2.2, .int c4, .int c5]))]) [0, 1, 2] gdX2_sumOfLegs_66.2.2.2.2.2.1 rfl rfl rfl rfl (PN.mk (fun _ => 0) rfl rfl)
  · refine aw_tsw (v := 1) (off := 62) (tgt := 76) gdX2_sumOfLegs_13.2.1 (by decide) (by decide) (by decide) (by decide) (fun hs_14_1 => ?_) (fun hs_14_1 => ?_)
    · refine aw_aload_n (q := 77) gdX2_sumOfLegs_66.2.2.2.2.2.2.1 rfl 1 rfl ?_
      refine aw_iload_n (q := 78) gdX2_sumOfLegs_66.2.2.2.2.2.2.2 rfl 2 rfl ?_
      refine aw_iload_n (q := 79) gdX2_sumOfLegs_78.1 rfl 3 rfl ?_
      refine aw_iconst (q := 80) (v := 1) gdX2_sumOfLegs_78.2.1 rfl (by decide) ?_
      refine aw_isub (q := 81) gdX2_sumOfLegs_78.2.2.1 rfl ?_
      refine aw_iload_n (q := 82) gdX2_sumOfLegs_78.2.2.2.1 rfl 4 rfl ?_
      refine aw_iconst (q := 83) (v := 1) gdX2_sumOfLegs_78.2.2.2.2.1 rfl (by decide) ?_
      refine aw_isub (q := 84) gdX2_sumOfLegs_78.2.2.2.2.2.1 rfl ?_
      refine aw_aload (q := 86) gdX2_sumOfLegs_78.2.2.2.2.2.2.1 rfl 5 rfl ?_
      refine aw_iload (q := 88) gdX2_sumOfLegs_78.2.2.2.2.2.2.2 rfl 6 rfl ?_
      refine aw_call (q := 91) (kc1 := 0) (ks1 := 0) (wc := [(h, .inr (4, [.ref a, .int sz_])), (a, .inl (0, 2646, .inl f_)), (c, .inr (2, [.int c0, .int c1_, .int c2_, .int c3_, .int c4, .int c5]))]) (wr := []) (st1 := fun x88 g88 => [.int x88.1]) (ws1 := fun x88 g88 => [(h, .inr (4, [.ref a, .int x88.2.1])), (a, .inl (0, 2646, .inl x88.2.2.1)), (c, .inr (2, [.int c0, .int x88.2.2.2.1, .int x88.2.2.2.2.1, .int x88.2.2.2.2.2, .int c4, .int c5]))]) (As := [.ref h, .int p0, .int (p1 - (1 : Int32)), .int (p2 - (1 : Int32)), .ref c, .int p3]) [0, 1, 2] [] (fun _ => runV (q0 := 0) gdX2_sumOfLegs_88.1 mi_X2_worthKnown im_X2_worthKnown se_X2_worthKnown ml_X2_25 (by omega) rfl (Nat.le_of_ble_eq_true rfl) rfl rfl rfl rfl) (fun x9 h9 => hrec _ _ _ _ _ _ _ _ _ _ _ _ x9 h9) rfl rfl rfl rfl rfl (by decide +kernel) (by omega) (by omega) (fun _ _ => rfl) (fun _ _ => rfl) (fun x88 g88 => ?_)
      refine aw_aload_n (q := 92) gdX2_sumOfLegs_88.2.1 rfl 1 rfl ?_
      refine aw_iload_n (q := 93) gdX2_sumOfLegs_88.2.2.1 rfl 2 rfl ?_
      refine aw_iload_n (q := 94) gdX2_sumOfLegs_88.2.2.2.1 rfl 3 rfl ?_
      refine aw_iload_n (q := 95) gdX2_sumOfLegs_88.2.2.2.2.1 rfl 4 rfl ?_
      refine aw_isub (q := 96) gdX2_sumOfLegs_88.2.2.2.2.2.1 rfl ?_
      refine aw_iload_n (q := 97) gdX2_sumOfLegs_88.2.2.2.2.2.2.1 rfl 4 rfl ?_
      refine aw_aload (q := 99) gdX2_sumOfLegs_88.2.2.2.2.2.2.2 rfl 5 rfl ?_
      refine aw_iload (q := 101) gdX2_sumOfLegs_99.1 rfl 6 rfl ?_
      refine aw_call (q := 104) (kc1 := 0) (ks1 := 0) (wc := [(h, .inr (4, [.ref a, .int x88.2.1])), (a, .inl (0, 2646, .inl x88.2.2.1)), (c, .inr (2, [.int c0, .int x88.2.2.2.1, .int x88.2.2.2.2.1, .int x88.2.2.2.2.2, .int c4, .int c5]))]) (wr := []) (st1 := fun x101 g101 => [.int x101.1, .int x88.1]) (ws1 := fun x101 g101 => [(h, .inr (4, [.ref a, .int x101.2.1])), (a, .inl (0, 2646, .inl x101.2.2.1)), (c, .inr (2, [.int c0, .int x101.2.2.2.1, .int x101.2.2.2.2.1, .int x101.2.2.2.2.2, .int c4, .int c5]))]) (As := [.ref h, .int p0, .int (p1 - p2), .int p2, .ref c, .int p3]) [0, 1, 2] [] (fun _ => runV (q0 := 0) gdX2_sumOfLegs_99.2.1 mi_X2_worthKnown im_X2_worthKnown se_X2_worthKnown ml_X2_25 (by omega) rfl (Nat.le_of_ble_eq_true rfl) rfl rfl rfl rfl) (fun x9 h9 => hrec _ _ _ _ _ _ _ _ _ _ _ _ x9 h9) rfl rfl rfl rfl rfl (by decide +kernel) (by omega) (by omega) (fun _ _ => rfl) (fun _ _ => rfl) (fun x101 g101 => ?_)
      refine aw_iadd (q := 105) gdX2_sumOfLegs_99.2.2.1 rfl ?_
      exact aw_ireturn (w := [(h, .inr (4, [.ref a, .int x101.2.1])), (a, .inl (0, 2646, .inl x101.2.2.1)), (c, .inr (2, [.int c0, .int x101.2.2.2.1, .int x101.2.2.2.2.1, .int x101.2.2.2.2.2, .int c4, .int c5]))]) [0, 1, 2] gdX2_sumOfLegs_99.2.2.2.1 rfl rfl rfl rfl (PN.mk (fun _ => 0) rfl rfl)
    · refine aw_tsw (v := 2) (off := 92) (tgt := 106) gdX2_sumOfLegs_13.2.1 (by decide) (by decide) (by decide) (by decide) (fun hs_14_2 => ?_) (fun hs_14_2 => ?_)
      · refine aw_aload_n (q := 107) gdX2_sumOfLegs_99.2.2.2.2.1 rfl 1 rfl ?_
        refine aw_iload_n (q := 108) gdX2_sumOfLegs_99.2.2.2.2.2.1 rfl 2 rfl ?_
        refine aw_iload_n (q := 109) gdX2_sumOfLegs_99.2.2.2.2.2.2.1 rfl 3 rfl ?_
        refine aw_iload_n (q := 110) gdX2_sumOfLegs_99.2.2.2.2.2.2.2 rfl 4 rfl ?_
        refine aw_iconst (q := 111) (v := 1) gdX2_sumOfLegs_110.1 rfl (by decide) ?_
        refine aw_isub (q := 112) gdX2_sumOfLegs_110.2.1 rfl ?_
        refine aw_aload (q := 114) gdX2_sumOfLegs_110.2.2.1 rfl 5 rfl ?_
        refine aw_iload (q := 116) gdX2_sumOfLegs_110.2.2.2.1 rfl 6 rfl ?_
        refine aw_call (q := 119) (kc1 := 0) (ks1 := 0) (wc := [(h, .inr (4, [.ref a, .int sz_])), (a, .inl (0, 2646, .inl f_)), (c, .inr (2, [.int c0, .int c1_, .int c2_, .int c3_, .int c4, .int c5]))]) (wr := []) (st1 := fun x116 g116 => [.int x116.1]) (ws1 := fun x116 g116 => [(h, .inr (4, [.ref a, .int x116.2.1])), (a, .inl (0, 2646, .inl x116.2.2.1)), (c, .inr (2, [.int c0, .int x116.2.2.2.1, .int x116.2.2.2.2.1, .int x116.2.2.2.2.2, .int c4, .int c5]))]) (As := [.ref h, .int p0, .int p1, .int (p2 - (1 : Int32)), .ref c, .int p3]) [0, 1, 2] [] (fun _ => runV (q0 := 0) gdX2_sumOfLegs_110.2.2.2.2.1 mi_X2_worthKnown im_X2_worthKnown se_X2_worthKnown ml_X2_25 (by omega) rfl (Nat.le_of_ble_eq_true rfl) rfl rfl rfl rfl) (fun x9 h9 => hrec _ _ _ _ _ _ _ _ _ _ _ _ x9 h9) rfl rfl rfl rfl rfl (by decide +kernel) (by omega) (by omega) (fun _ _ => rfl) (fun _ _ => rfl) (fun x116 g116 => ?_)
        refine aw_aload_n (q := 120) gdX2_sumOfLegs_110.2.2.2.2.2.1 rfl 1 rfl ?_
        refine aw_iload_n (q := 121) gdX2_sumOfLegs_110.2.2.2.2.2.2.1 rfl 2 rfl ?_
        refine aw_iload_n (q := 122) gdX2_sumOfLegs_110.2.2.2.2.2.2.2 rfl 3 rfl ?_
        refine aw_iload_n (q := 123) gdX2_sumOfLegs_122.1 rfl 4 rfl ?_
        refine aw_isub (q := 124) gdX2_sumOfLegs_122.2.1 rfl ?_
        refine aw_iload_n (q := 125) gdX2_sumOfLegs_122.2.2.1 rfl 4 rfl ?_
        refine aw_iconst (q := 126) (v := 1) gdX2_sumOfLegs_122.2.2.2.1 rfl (by decide) ?_
        refine aw_isub (q := 127) gdX2_sumOfLegs_122.2.2.2.2.1 rfl ?_
        refine aw_aload (q := 129) gdX2_sumOfLegs_122.2.2.2.2.2.1 rfl 5 rfl ?_
        refine aw_iload (q := 131) gdX2_sumOfLegs_122.2.2.2.2.2.2.1 rfl 6 rfl ?_
        refine aw_call (q := 134) (kc1 := 0) (ks1 := 0) (wc := [(h, .inr (4, [.ref a, .int x116.2.1])), (a, .inl (0, 2646, .inl x116.2.2.1)), (c, .inr (2, [.int c0, .int x116.2.2.2.1, .int x116.2.2.2.2.1, .int x116.2.2.2.2.2, .int c4, .int c5]))]) (wr := []) (st1 := fun x131 g131 => [.int x131.1, .int x116.1]) (ws1 := fun x131 g131 => [(h, .inr (4, [.ref a, .int x131.2.1])), (a, .inl (0, 2646, .inl x131.2.2.1)), (c, .inr (2, [.int c0, .int x131.2.2.2.1, .int x131.2.2.2.2.1, .int x131.2.2.2.2.2, .int c4, .int c5]))]) (As := [.ref h, .int p0, .int (p1 - p2), .int (p2 - (1 : Int32)), .ref c, .int p3]) [0, 1, 2] [] (fun _ => runV (q0 := 0) gdX2_sumOfLegs_122.2.2.2.2.2.2.2 mi_X2_worthKnown im_X2_worthKnown se_X2_worthKnown ml_X2_25 (by omega) rfl (Nat.le_of_ble_eq_true rfl) rfl rfl rfl rfl) (fun x9 h9 => hrec _ _ _ _ _ _ _ _ _ _ _ _ x9 h9) rfl rfl rfl rfl rfl (by decide +kernel) (by omega) (by omega) (fun _ _ => rfl) (fun _ _ => rfl) (fun x131 g131 => ?_)
        refine aw_iadd (q := 135) gdX2_sumOfLegs_134.1 rfl ?_
        exact aw_ireturn (w := [(h, .inr (4, [.ref a, .int x131.2.1])), (a, .inl (0, 2646, .inl x131.2.2.1)), (c, .inr (2, [.int c0, .int x131.2.2.2.1, .int x131.2.2.2.2.1, .int x131.2.2.2.2.2, .int c4, .int c5]))]) [0, 1, 2] gdX2_sumOfLegs_134.2.1 rfl rfl rfl rfl (PN.mk (fun _ => 0) rfl rfl)
      · refine aw_tsw (v := 3) (off := 122) (tgt := 136) gdX2_sumOfLegs_13.2.1 (by decide) (by decide) (by decide) (by decide) (fun hs_14_3 => ?_) (fun hs_14_3 => ?_)
        · refine aw_aload_n (q := 137) gdX2_sumOfLegs_134.2.2.1 rfl 1 rfl ?_
          refine aw_iload_n (q := 138) gdX2_sumOfLegs_134.2.2.2.1 rfl 2 rfl ?_
          refine aw_iload_n (q := 139) gdX2_sumOfLegs_134.2.2.2.2.1 rfl 3 rfl ?_
          refine aw_iload_n (q := 140) gdX2_sumOfLegs_134.2.2.2.2.2.1 rfl 4 rfl ?_
          refine aw_iconst (q := 141) (v := 1) gdX2_sumOfLegs_134.2.2.2.2.2.2.1 rfl (by decide) ?_
          refine aw_isub (q := 142) gdX2_sumOfLegs_134.2.2.2.2.2.2.2 rfl ?_
          refine aw_aload (q := 144) gdX2_sumOfLegs_142.1 rfl 5 rfl ?_
          refine aw_iload (q := 146) gdX2_sumOfLegs_142.2.1 rfl 6 rfl ?_
          refine aw_call (q := 149) (kc1 := 0) (ks1 := 0) (wc := [(h, .inr (4, [.ref a, .int sz_])), (a, .inl (0, 2646, .inl f_)), (c, .inr (2, [.int c0, .int c1_, .int c2_, .int c3_, .int c4, .int c5]))]) (wr := []) (st1 := fun x146 g146 => [.int x146.1]) (ws1 := fun x146 g146 => [(h, .inr (4, [.ref a, .int x146.2.1])), (a, .inl (0, 2646, .inl x146.2.2.1)), (c, .inr (2, [.int c0, .int x146.2.2.2.1, .int x146.2.2.2.2.1, .int x146.2.2.2.2.2, .int c4, .int c5]))]) (As := [.ref h, .int p0, .int p1, .int (p2 - (1 : Int32)), .ref c, .int p3]) [0, 1, 2] [] (fun _ => runV (q0 := 0) gdX2_sumOfLegs_142.2.2.1 mi_X2_worthKnown im_X2_worthKnown se_X2_worthKnown ml_X2_25 (by omega) rfl (Nat.le_of_ble_eq_true rfl) rfl rfl rfl rfl) (fun x9 h9 => hrec _ _ _ _ _ _ _ _ _ _ _ _ x9 h9) rfl rfl rfl rfl rfl (by decide +kernel) (by omega) (by omega) (fun _ _ => rfl) (fun _ _ => rfl) (fun x146 g146 => ?_)
          refine aw_iload (q := 151) gdX2_sumOfLegs_142.2.2.2.1 rfl 0 rfl ?_
          refine aw_if_eq (tgt := 170) (q := 154) gdX2_sumOfLegs_142.2.2.2.2.1 (by decide) rfl (fun h_151 => ?_) (fun h_151 => ?_)
          · refine aw_iconst (q := 171) (v := 0) gdX2_sumOfLegs_157.2.2.2.2.2.2.2 rfl (by decide) ?_
            refine aw_iadd (q := 172) gdX2_sumOfLegs_171.1 rfl ?_
            exact aw_ireturn (w := [(h, .inr (4, [.ref a, .int x146.2.1])), (a, .inl (0, 2646, .inl x146.2.2.1)), (c, .inr (2, [.int c0, .int x146.2.2.2.1, .int x146.2.2.2.2.1, .int x146.2.2.2.2.2, .int c4, .int c5]))]) [0, 1, 2] gdX2_sumOfLegs_171.2.1 rfl rfl rfl rfl (PN.mk (fun _ => 0) rfl rfl)
          · refine aw_aload_n (q := 155) gdX2_sumOfLegs_142.2.2.2.2.2.1 rfl 1 rfl ?_
            refine aw_iload_n (q := 156) gdX2_sumOfLegs_142.2.2.2.2.2.2.1 rfl 2 rfl ?_
            refine aw_iload_n (q := 157) gdX2_sumOfLegs_142.2.2.2.2.2.2.2 rfl 3 rfl ?_
            refine aw_iload_n (q := 158) gdX2_sumOfLegs_157.1 rfl 4 rfl ?_
            refine aw_isub (q := 159) gdX2_sumOfLegs_157.2.1 rfl ?_
            refine aw_iload_n (q := 160) gdX2_sumOfLegs_157.2.2.1 rfl 4 rfl ?_
            refine aw_aload (q := 162) gdX2_sumOfLegs_157.2.2.2.1 rfl 5 rfl ?_
            refine aw_iload (q := 164) gdX2_sumOfLegs_157.2.2.2.2.1 rfl 6 rfl ?_
            refine aw_call (q := 167) (kc1 := 0) (ks1 := 0) (wc := [(h, .inr (4, [.ref a, .int x146.2.1])), (a, .inl (0, 2646, .inl x146.2.2.1)), (c, .inr (2, [.int c0, .int x146.2.2.2.1, .int x146.2.2.2.2.1, .int x146.2.2.2.2.2, .int c4, .int c5]))]) (wr := []) (st1 := fun x164 g164 => [.int x164.1, .int x146.1]) (ws1 := fun x164 g164 => [(h, .inr (4, [.ref a, .int x164.2.1])), (a, .inl (0, 2646, .inl x164.2.2.1)), (c, .inr (2, [.int c0, .int x164.2.2.2.1, .int x164.2.2.2.2.1, .int x164.2.2.2.2.2, .int c4, .int c5]))]) (As := [.ref h, .int p0, .int (p1 - p2), .int p2, .ref c, .int p3]) [0, 1, 2] [] (fun _ => runV (q0 := 0) gdX2_sumOfLegs_157.2.2.2.2.2.1 mi_X2_worthKnown im_X2_worthKnown se_X2_worthKnown ml_X2_25 (by omega) rfl (Nat.le_of_ble_eq_true rfl) rfl rfl rfl rfl) (fun x9 h9 => hrec _ _ _ _ _ _ _ _ _ _ _ _ x9 h9) rfl rfl rfl rfl rfl (by decide +kernel) (by omega) (by omega) (fun _ _ => rfl) (fun _ _ => rfl) (fun x164 g164 => ?_)
            refine aw_goto (tgt := 171) gdX2_sumOfLegs_157.2.2.2.2.2.2.1 (by decide) ?_
            refine aw_iadd (q := 172) gdX2_sumOfLegs_171.1 rfl ?_
            exact aw_ireturn (w := [(h, .inr (4, [.ref a, .int x164.2.1])), (a, .inl (0, 2646, .inl x164.2.2.1)), (c, .inr (2, [.int c0, .int x164.2.2.2.1, .int x164.2.2.2.2.1, .int x164.2.2.2.2.2, .int c4, .int c5]))]) [0, 1, 2] gdX2_sumOfLegs_171.2.1 rfl rfl rfl rfl (PN.mk (fun _ => 0) rfl rfl)
        · refine aw_tsw (v := 4) (off := 159) (tgt := 173) gdX2_sumOfLegs_13.2.1 (by decide) (by decide) (by decide) (by decide) (fun hs_14_4 => ?_) (fun hs_14_4 => ?_)
          · refine aw_aload_n (q := 174) gdX2_sumOfLegs_171.2.2.1 rfl 1 rfl ?_
            refine aw_iload_n (q := 175) gdX2_sumOfLegs_171.2.2.2.1 rfl 2 rfl ?_
            refine aw_iload_n (q := 176) gdX2_sumOfLegs_171.2.2.2.2.1 rfl 3 rfl ?_
            refine aw_iload_n (q := 177) gdX2_sumOfLegs_171.2.2.2.2.2.1 rfl 4 rfl ?_
            refine aw_iconst (q := 178) (v := 1) gdX2_sumOfLegs_171.2.2.2.2.2.2.1 rfl (by decide) ?_
            refine aw_isub (q := 179) gdX2_sumOfLegs_171.2.2.2.2.2.2.2 rfl ?_
            refine aw_aload (q := 181) gdX2_sumOfLegs_179.1 rfl 5 rfl ?_
            refine aw_iload (q := 183) gdX2_sumOfLegs_179.2.1 rfl 6 rfl ?_
            refine aw_call (q := 186) (kc1 := 0) (ks1 := 0) (wc := [(h, .inr (4, [.ref a, .int sz_])), (a, .inl (0, 2646, .inl f_)), (c, .inr (2, [.int c0, .int c1_, .int c2_, .int c3_, .int c4, .int c5]))]) (wr := []) (st1 := fun x183 g183 => [.int x183.1]) (ws1 := fun x183 g183 => [(h, .inr (4, [.ref a, .int x183.2.1])), (a, .inl (0, 2646, .inl x183.2.2.1)), (c, .inr (2, [.int c0, .int x183.2.2.2.1, .int x183.2.2.2.2.1, .int x183.2.2.2.2.2, .int c4, .int c5]))]) (As := [.ref h, .int p0, .int p1, .int (p2 - (1 : Int32)), .ref c, .int p3]) [0, 1, 2] [] (fun _ => runV (q0 := 0) gdX2_sumOfLegs_179.2.2.1 mi_X2_worthKnown im_X2_worthKnown se_X2_worthKnown ml_X2_25 (by omega) rfl (Nat.le_of_ble_eq_true rfl) rfl rfl rfl rfl) (fun x9 h9 => hrec _ _ _ _ _ _ _ _ _ _ _ _ x9 h9) rfl rfl rfl rfl rfl (by decide +kernel) (by omega) (by omega) (fun _ _ => rfl) (fun _ _ => rfl) (fun x183 g183 => ?_)
            refine aw_iload (q := 188) gdX2_sumOfLegs_179.2.2.2.1 rfl 0 rfl ?_
            refine aw_if_eq (tgt := 209) (q := 191) gdX2_sumOfLegs_179.2.2.2.2.1 (by decide) rfl (fun h_188 => ?_) (fun h_188 => ?_)
            · refine aw_iconst (q := 210) (v := 0) gdX2_sumOfLegs_206.2.1 rfl (by decide) ?_
              refine aw_iadd (q := 211) gdX2_sumOfLegs_206.2.2.1 rfl ?_
              exact aw_ireturn (w := [(h, .inr (4, [.ref a, .int x183.2.1])), (a, .inl (0, 2646, .inl x183.2.2.1)), (c, .inr (2, [.int c0, .int x183.2.2.2.1, .int x183.2.2.2.2.1, .int x183.2.2.2.2.2, .int c4, .int c5]))]) [0, 1, 2] gdX2_sumOfLegs_206.2.2.2.1 rfl rfl rfl rfl (PN.mk (fun _ => 0) rfl rfl)
            · refine aw_aload_n (q := 192) gdX2_sumOfLegs_179.2.2.2.2.2.1 rfl 1 rfl ?_
              refine aw_iload_n (q := 193) gdX2_sumOfLegs_179.2.2.2.2.2.2.1 rfl 2 rfl ?_
              refine aw_iload_n (q := 194) gdX2_sumOfLegs_179.2.2.2.2.2.2.2 rfl 3 rfl ?_
              refine aw_iload_n (q := 195) gdX2_sumOfLegs_194.1 rfl 4 rfl ?_
              refine aw_isub (q := 196) gdX2_sumOfLegs_194.2.1 rfl ?_
              refine aw_iload_n (q := 197) gdX2_sumOfLegs_194.2.2.1 rfl 4 rfl ?_
              refine aw_iconst (q := 198) (v := 1) gdX2_sumOfLegs_194.2.2.2.1 rfl (by decide) ?_
              refine aw_isub (q := 199) gdX2_sumOfLegs_194.2.2.2.2.1 rfl ?_
              refine aw_aload (q := 201) gdX2_sumOfLegs_194.2.2.2.2.2.1 rfl 5 rfl ?_
              refine aw_iload (q := 203) gdX2_sumOfLegs_194.2.2.2.2.2.2.1 rfl 6 rfl ?_
              refine aw_call (q := 206) (kc1 := 0) (ks1 := 0) (wc := [(h, .inr (4, [.ref a, .int x183.2.1])), (a, .inl (0, 2646, .inl x183.2.2.1)), (c, .inr (2, [.int c0, .int x183.2.2.2.1, .int x183.2.2.2.2.1, .int x183.2.2.2.2.2, .int c4, .int c5]))]) (wr := []) (st1 := fun x203 g203 => [.int x203.1, .int x183.1]) (ws1 := fun x203 g203 => [(h, .inr (4, [.ref a, .int x203.2.1])), (a, .inl (0, 2646, .inl x203.2.2.1)), (c, .inr (2, [.int c0, .int x203.2.2.2.1, .int x203.2.2.2.2.1, .int x203.2.2.2.2.2, .int c4, .int c5]))]) (As := [.ref h, .int p0, .int (p1 - p2), .int (p2 - (1 : Int32)), .ref c, .int p3]) [0, 1, 2] [] (fun _ => runV (q0 := 0) gdX2_sumOfLegs_194.2.2.2.2.2.2.2 mi_X2_worthKnown im_X2_worthKnown se_X2_worthKnown ml_X2_25 (by omega) rfl (Nat.le_of_ble_eq_true rfl) rfl rfl rfl rfl) (fun x9 h9 => hrec _ _ _ _ _ _ _ _ _ _ _ _ x9 h9) rfl rfl rfl rfl rfl (by decide +kernel) (by omega) (by omega) (fun _ _ => rfl) (fun _ _ => rfl) (fun x203 g203 => ?_)
              refine aw_goto (tgt := 210) gdX2_sumOfLegs_206.1 (by decide) ?_
              refine aw_iadd (q := 211) gdX2_sumOfLegs_206.2.2.1 rfl ?_
              exact aw_ireturn (w := [(h, .inr (4, [.ref a, .int x203.2.1])), (a, .inl (0, 2646, .inl x203.2.2.1)), (c, .inr (2, [.int c0, .int x203.2.2.2.1, .int x203.2.2.2.2.1, .int x203.2.2.2.2.2, .int c4, .int c5]))]) [0, 1, 2] gdX2_sumOfLegs_206.2.2.2.1 rfl rfl rfl rfl (PN.mk (fun _ => 0) rfl rfl)
          · refine aw_tswD (tgt := 212) gdX2_sumOfLegs_13.2.1 (by have e0 := lv_neT (a := 0) hs_14_0 (by decide); have e1 := lv_neT (a := 1) hs_14_1 (by decide); have e2 := lv_neT (a := 2) hs_14_2 (by decide); have e3 := lv_neT (a := 3) hs_14_3 (by decide); have e4 := lv_neT (a := 4) hs_14_4 (by decide); omega) (by decide) ?_
            refine aw_aload_n (q := 213) gdX2_sumOfLegs_206.2.2.2.2.1 rfl 1 rfl ?_
            refine aw_iload_n (q := 214) gdX2_sumOfLegs_206.2.2.2.2.2.1 rfl 2 rfl ?_
            refine aw_iload_n (q := 215) gdX2_sumOfLegs_206.2.2.2.2.2.2.1 rfl 3 rfl ?_
            refine aw_iload_n (q := 216) gdX2_sumOfLegs_206.2.2.2.2.2.2.2 rfl 4 rfl ?_
            refine aw_isub (q := 217) gdX2_sumOfLegs_216.1 rfl ?_
            refine aw_iload_n (q := 218) gdX2_sumOfLegs_216.2.1 rfl 4 rfl ?_
            refine aw_aload (q := 220) gdX2_sumOfLegs_216.2.2.1 rfl 5 rfl ?_
            refine aw_iload (q := 222) gdX2_sumOfLegs_216.2.2.2.1 rfl 6 rfl ?_
            refine aw_call (q := 225) (kc1 := 0) (ks1 := 0) (wc := [(h, .inr (4, [.ref a, .int sz_])), (a, .inl (0, 2646, .inl f_)), (c, .inr (2, [.int c0, .int c1_, .int c2_, .int c3_, .int c4, .int c5]))]) (wr := []) (st1 := fun x222 g222 => [.int x222.1]) (ws1 := fun x222 g222 => [(h, .inr (4, [.ref a, .int x222.2.1])), (a, .inl (0, 2646, .inl x222.2.2.1)), (c, .inr (2, [.int c0, .int x222.2.2.2.1, .int x222.2.2.2.2.1, .int x222.2.2.2.2.2, .int c4, .int c5]))]) (As := [.ref h, .int p0, .int (p1 - p2), .int p2, .ref c, .int p3]) [0, 1, 2] [] (fun _ => runV (q0 := 0) gdX2_sumOfLegs_216.2.2.2.2.1 mi_X2_worthKnown im_X2_worthKnown se_X2_worthKnown ml_X2_25 (by omega) rfl (Nat.le_of_ble_eq_true rfl) rfl rfl rfl rfl) (fun x9 h9 => hrec _ _ _ _ _ _ _ _ _ _ _ _ x9 h9) rfl rfl rfl rfl rfl (by decide +kernel) (by omega) (by omega) (fun _ _ => rfl) (fun _ _ => rfl) (fun x222 g222 => ?_)
            refine aw_aload_n (q := 226) gdX2_sumOfLegs_216.2.2.2.2.2.1 rfl 1 rfl ?_
            refine aw_iload_n (q := 227) gdX2_sumOfLegs_216.2.2.2.2.2.2.1 rfl 2 rfl ?_
            refine aw_iload_n (q := 228) gdX2_sumOfLegs_216.2.2.2.2.2.2.2 rfl 3 rfl ?_
            refine aw_iload_n (q := 229) gdX2_sumOfLegs_228.1 rfl 4 rfl ?_
            refine aw_isub (q := 230) gdX2_sumOfLegs_228.2.1 rfl ?_
            refine aw_iload_n (q := 231) gdX2_sumOfLegs_228.2.2.1 rfl 4 rfl ?_
            refine aw_iconst (q := 232) (v := 1) gdX2_sumOfLegs_228.2.2.2.1 rfl (by decide) ?_
            refine aw_isub (q := 233) gdX2_sumOfLegs_228.2.2.2.2.1 rfl ?_
            refine aw_aload (q := 235) gdX2_sumOfLegs_228.2.2.2.2.2.1 rfl 5 rfl ?_
            refine aw_iload (q := 237) gdX2_sumOfLegs_228.2.2.2.2.2.2.1 rfl 6 rfl ?_
            refine aw_call (q := 240) (kc1 := 0) (ks1 := 0) (wc := [(h, .inr (4, [.ref a, .int x222.2.1])), (a, .inl (0, 2646, .inl x222.2.2.1)), (c, .inr (2, [.int c0, .int x222.2.2.2.1, .int x222.2.2.2.2.1, .int x222.2.2.2.2.2, .int c4, .int c5]))]) (wr := []) (st1 := fun x237 g237 => [.int x237.1, .int x222.1]) (ws1 := fun x237 g237 => [(h, .inr (4, [.ref a, .int x237.2.1])), (a, .inl (0, 2646, .inl x237.2.2.1)), (c, .inr (2, [.int c0, .int x237.2.2.2.1, .int x237.2.2.2.2.1, .int x237.2.2.2.2.2, .int c4, .int c5]))]) (As := [.ref h, .int p0, .int (p1 - p2), .int (p2 - (1 : Int32)), .ref c, .int p3]) [0, 1, 2] [] (fun _ => runV (q0 := 0) gdX2_sumOfLegs_228.2.2.2.2.2.2.2 mi_X2_worthKnown im_X2_worthKnown se_X2_worthKnown ml_X2_25 (by omega) rfl (Nat.le_of_ble_eq_true rfl) rfl rfl rfl rfl) (fun x9 h9 => hrec _ _ _ _ _ _ _ _ _ _ _ _ x9 h9) rfl rfl rfl rfl rfl (by decide +kernel) (by omega) (by omega) (fun _ _ => rfl) (fun _ _ => rfl) (fun x237 g237 => ?_)
            refine aw_iadd (q := 241) gdX2_sumOfLegs_240.1 rfl ?_
            exact aw_ireturn (w := [(h, .inr (4, [.ref a, .int x237.2.1])), (a, .inl (0, 2646, .inl x237.2.2.1)), (c, .inr (2, [.int c0, .int x237.2.2.2.1, .int x237.2.2.2.2.1, .int x237.2.2.2.2.2, .int c4, .int c5]))]) [0, 1, 2] gdX2_sumOfLegs_240.2 rfl rfl rfl rfl (PN.mk (fun _ => 0) rfl rfl)
def fX2_sumOfLegs (N K : Nat) (rec : Int32 → (Nat → Int32) → Int32 → Int32 → Int32 → Int32 → Int32 → Int32 → Int32 → Int32 → Int32 → Int32 → Option (Int32 × Int32 × (Nat → Int32) × Int32 × Int32 × Int32)) (sz : Int32) (f : Nat → Int32) (c0 : Int32) (c1 : Int32) (c2 : Int32) (c3 : Int32) (c4 : Int32) (c5 : Int32) (p0 : Int32) (p1 : Int32) (p2 : Int32) (p3 : Int32) : Option (Int32 × Int32 × (Nat → Int32) × Int32 × Int32 × Int32) :=
  (if (p2 % (2 : Int32)) = 0 then fX2_sumOfLegs_11 N K rec sz f c0 c1 c2 c3 c4 c5 p0 p1 p2 p3  (0 : Int32) sz f c1 c2 c3 else fX2_sumOfLegs_11 N K rec sz f c0 c1 c2 c3 c4 c5 p0 p1 p2 p3  (1 : Int32) sz f c1 c2 c3)
set_option maxHeartbeats 4000000 in
set_option maxRecDepth 100000 in
theorem ok_X2_sumOfLegs {N K : Nat} {h c a : Nat} {sz : Int32} {f : Nat → Int32} {c0 : Int32} {c1 : Int32} {c2 : Int32} {c3 : Int32} {c4 : Int32} {c5 : Int32} {p0 : Int32} {p1 : Int32} {p2 : Int32} {p3 : Int32} {rec : Int32 → (Nat → Int32) → Int32 → Int32 → Int32 → Int32 → Int32 → Int32 → Int32 → Int32 → Int32 → Int32 → Option (Int32 × Int32 × (Nat → Int32) × Int32 × Int32 × Int32)} {dr : Nat} (hrec : ∀ (sz : Int32) (f : Nat → Int32) (c0 : Int32) (c1 : Int32) (c2 : Int32) (c3 : Int32) (c4 : Int32) (c5 : Int32) (p0 : Int32) (p1 : Int32) (p2 : Int32) (p3 : Int32) (xr : Int32 × Int32 × (Nat → Int32) × Int32 × Int32 × Int32), rec sz f c0 c1 c2 c3 c4 c5 p0 p1 p2 p3 = some xr → OkM yX2_worthKnown (.code yX2_worthKnown cX2_worthKnown 8 (some .int)) (dr) 0 0 [.ref h, .int p0, .int p1, .int p2, .ref c, .int p3] [(h, .inr (4, [.ref a, .int sz])), (a, .inl (0, 2646, .inl f)), (c, .inr (2, [.int c0, .int c1, .int c2, .int c3, .int c4, .int c5]))] ((PN (U := Int32 × Int32 × (Nat → Int32) × Int32 × Int32 × Int32) (fun zz _ => some (.int zz.1)) (fun zz ad => [(h, .inr (4, [.ref a, .int zz.2.1])), (a, .inl (0, 2646, .inl zz.2.2.1)), (c, .inr (2, [.int c0, .int zz.2.2.2.1, .int zz.2.2.2.2.1, .int zz.2.2.2.2.2, .int c4, .int c5]))])) xr)) {xr : Int32 × Int32 × (Nat → Int32) × Int32 × Int32 × Int32} (hE : fX2_sumOfLegs N K rec sz f c0 c1 c2 c3 c4 c5 p0 p1 p2 p3 = some xr) : OkM yX2_sumOfLegs (.code yX2_sumOfLegs cX2_sumOfLegs 7 (some .int)) (dr + 1) 0 0 [.ref h, .int p0, .int p1, .int p2, .ref c, .int p3] [(h, .inr (4, [.ref a, .int sz])), (a, .inl (0, 2646, .inl f)), (c, .inr (2, [.int c0, .int c1, .int c2, .int c3, .int c4, .int c5]))] ((PN (U := Int32 × Int32 × (Nat → Int32) × Int32 × Int32 × Int32) (fun zz _ => some (.int zz.1)) (fun zz ad => [(h, .inr (4, [.ref a, .int zz.2.1])), (a, .inl (0, 2646, .inl zz.2.2.1)), (c, .inr (2, [.int c0, .int zz.2.2.2.1, .int zz.2.2.2.2.1, .int zz.2.2.2.2.2, .int c4, .int c5]))])) xr) := by
  refine ok_of (by decide) (Nat.le_of_ble_eq_true rfl) hE ?_
  refine aw_locals (lv' := [(0, .ref h), (1, .int p0), (2, .int p1), (3, .int p2), (4, .ref c), (5, .int p3)]) [0, 1, 2, 3, 4, 5] rfl ?_
  refine aw_iload_n (q := 1) gdX2_sumOfLegs_0.1 rfl 3 rfl ?_
  refine aw_iconst (q := 2) (v := 2) gdX2_sumOfLegs_0.2.1 rfl (by decide) ?_
  refine aw_iremT (q := 3) gdX2_sumOfLegs_0.2.2.1 rfl (by decide) ?_
  refine aw_if_eq (tgt := 10) (q := 6) gdX2_sumOfLegs_0.2.2.2.1 (by decide) rfl (fun h_3 => ?_) (fun h_3 => ?_)
  · refine aw_iconst (q := 11) (v := 0) gdX2_sumOfLegs_0.2.2.2.2.2.2.1 rfl (by decide) ?_
    exact tX2_sumOfLegs_11 hrec _ _ _ _ _ _
  · refine aw_iconst (q := 7) (v := 1) gdX2_sumOfLegs_0.2.2.2.2.1 rfl (by decide) ?_
    refine aw_goto (tgt := 11) gdX2_sumOfLegs_0.2.2.2.2.2.1 (by decide) ?_
    exact tX2_sumOfLegs_11 hrec _ _ _ _ _ _
def fX2_worthKnown (N K : Nat) : Nat → Int32 → (Nat → Int32) → Int32 → Int32 → Int32 → Int32 → Int32 → Int32 → Int32 → Int32 → Int32 → Int32 → Option (Int32 × Int32 × (Nat → Int32) × Int32 × Int32 × Int32)
  | 0, _, _, _, _, _, _, _, _, _, _, _, _ => none
  | k + 1, sz, f, c0, c1, c2, c3, c4, c5, p0, p1, p2, p3 =>
    ((fX5_rests N K p1 p2).bind (fun x2 => (if x2 = 0 then ((fX2_slotOf N K p0 p1 p2).bind (fun x18 => (if x18 = (-1 : Int32) then (some ((0 : Int32), sz, f, c1, c2, c3)) else (if p3 ≤ (45 : Int32) then (if x18 < 0 ∨ 2646 ≤ x18.toNatClampNeg then none else (if (f x18.toNatClampNeg) = (-1 : Int32) then ((fX2_sumOfLegs N K (fX2_worthKnown N K k) sz f c0 (c1 + (1 : Int32)) c2 c3 c4 c5 p0 p1 p2 (p3 + (1 : Int32))).bind (fun x89 => ((fX2_keep N K x89.2.1 x89.2.2.1 p0 p1 p2 x89.1).bind (fun x100 => (some (x89.1, x100.1, x100.2, x89.2.2.2.1, (x89.2.2.2.2.1 + (1 : Int32)), x89.2.2.2.2.2)))))) else (if x18 < 0 ∨ 2646 ≤ x18.toNatClampNeg then none else (some ((f x18.toNatClampNeg), sz, f, (c1 + (1 : Int32)), c2, (c3 + (1 : Int32))))))) else (some ((0 : Int32), sz, f, c1, c2, c3)))))) else ((fX5_restingWorth N K p0 p1 p2).bind (fun x11 => (some (x11, sz, f, c1, c2, c3)))))))
set_option maxHeartbeats 4000000 in
set_option maxRecDepth 100000 in
theorem ok_X2_worthKnown {N K : Nat} : ∀ (k : Nat) (h c a : Nat) (sz : Int32) (f : Nat → Int32) (c0 : Int32) (c1 : Int32) (c2 : Int32) (c3 : Int32) (c4 : Int32) (c5 : Int32) (p0 : Int32) (p1 : Int32) (p2 : Int32) (p3 : Int32) (xr : Int32 × Int32 × (Nat → Int32) × Int32 × Int32 × Int32), fX2_worthKnown N K k sz f c0 c1 c2 c3 c4 c5 p0 p1 p2 p3 = some xr → OkM yX2_worthKnown (.code yX2_worthKnown cX2_worthKnown 8 (some .int)) (2 * k + 6) 0 0 [.ref h, .int p0, .int p1, .int p2, .ref c, .int p3] [(h, .inr (4, [.ref a, .int sz])), (a, .inl (0, 2646, .inl f)), (c, .inr (2, [.int c0, .int c1, .int c2, .int c3, .int c4, .int c5]))] ((PN (U := Int32 × Int32 × (Nat → Int32) × Int32 × Int32 × Int32) (fun zz _ => some (.int zz.1)) (fun zz ad => [(h, .inr (4, [.ref a, .int zz.2.1])), (a, .inl (0, 2646, .inl zz.2.2.1)), (c, .inr (2, [.int c0, .int zz.2.2.2.1, .int zz.2.2.2.2.1, .int zz.2.2.2.2.2, .int c4, .int c5]))])) xr) := by
  intro k
  induction k with
  | zero => intro h c a sz f c0 c1 c2 c3 c4 c5 p0 p1 p2 p3 xr hE; cases hE
  | succ k ih =>
    intro h c a sz f c0 c1 c2 c3 c4 c5 p0 p1 p2 p3 xr hE
    refine ok_of (by decide) (Nat.le_of_ble_eq_true rfl) hE ?_
    refine aw_locals (lv' := [(0, .ref h), (1, .int p0), (2, .int p1), (3, .int p2), (4, .ref c), (5, .int p3)]) [0, 1, 2, 3, 4, 5] rfl ?_
    refine aw_iload_n (q := 1) gdX2_worthKnown_0.1 rfl 2 rfl ?_
    refine aw_iload_n (q := 2) gdX2_worthKnown_0.2.1 rfl 3 rfl ?_
    refine aw_call (q := 5) (kc1 := 0) (ks1 := 0) (wc := []) (wr := [(h, .inr (4, [.ref a, .int sz])), (a, .inl (0, 2646, .inl f)), (c, .inr (2, [.int c0, .int c1, .int c2, .int c3, .int c4, .int c5]))]) (st1 := fun x2 g2 => [.int x2]) (ws1 := fun x2 g2 => [(h, .inr (4, [.ref a, .int sz])), (a, .inl (0, 2646, .inl f)), (c, .inr (2, [.int c0, .int c1, .int c2, .int c3, .int c4, .int c5]))]) (As := [.int p1, .int p2]) [] [0, 1, 2] (fun _ => runSN gdX2_worthKnown_0.2.2.1 mi_X5_rests st_X5_rests mn_X2_29 (by omega) rfl (Nat.le_of_ble_eq_true rfl) rfl) (fun x9 h9 => ok_X5_rests h9) rfl rfl rfl rfl rfl (by decide +kernel) (by omega) (by omega) (fun _ _ => rfl) (fun _ _ => rfl) (fun x2 g2 => ?_)
    refine aw_if_eq (tgt := 15) (q := 8) gdX2_worthKnown_0.2.2.2.1 (by decide) rfl (fun h_5 => ?_) (fun h_5 => ?_)
    · refine aw_iload_n (q := 16) gdX2_worthKnown_14.2.1 rfl 1 rfl ?_
      refine aw_iload_n (q := 17) gdX2_worthKnown_14.2.2.1 rfl 2 rfl ?_
      refine aw_iload_n (q := 18) gdX2_worthKnown_14.2.2.2.1 rfl 3 rfl ?_
      refine aw_call (q := 21) (kc1 := 0) (ks1 := 0) (wc := []) (wr := [(h, .inr (4, [.ref a, .int sz])), (a, .inl (0, 2646, .inl f)), (c, .inr (2, [.int c0, .int c1, .int c2, .int c3, .int c4, .int c5]))]) (st1 := fun x18 g18 => [.int x18]) (ws1 := fun x18 g18 => [(h, .inr (4, [.ref a, .int sz])), (a, .inl (0, 2646, .inl f)), (c, .inr (2, [.int c0, .int c1, .int c2, .int c3, .int c4, .int c5]))]) (As := [.int p0, .int p1, .int p2]) [] [0, 1, 2] (fun _ => runS gdX2_worthKnown_14.2.2.2.2.1 mi_X2_slotOf st_X2_slotOf ml_X2_37 (by omega) rfl (Nat.le_of_ble_eq_true rfl) rfl) (fun x9 h9 => ok_X2_slotOf h9) rfl rfl rfl rfl rfl (by decide +kernel) (by omega) (by omega) (fun _ _ => rfl) (fun _ _ => rfl) (fun x18 g18 => ?_)
      refine aw_istore (q := 23) (lv' := [(6, .int x18), (0, .ref h), (1, .int p0), (2, .int p1), (3, .int p2), (4, .ref c), (5, .int p3)]) gdX2_worthKnown_14.2.2.2.2.2.1 rfl (by decide) rfl ?_
      refine aw_iload (q := 25) gdX2_worthKnown_14.2.2.2.2.2.2.1 rfl 0 rfl ?_
      refine aw_iconst (q := 26) (v := (-1)) gdX2_worthKnown_14.2.2.2.2.2.2.2 rfl (by decide) ?_
      refine aw_icmp_eq (tgt := 36) (q := 29) gdX2_worthKnown_26.1 (by decide) rfl (fun h_26 => ?_) (fun h_26 => ?_)
      · refine aw_iconst (q := 37) (v := 0) gdX2_worthKnown_26.2.2.2.2.1 rfl (by decide) ?_
        exact aw_ireturn (w := [(h, .inr (4, [.ref a, .int sz])), (a, .inl (0, 2646, .inl f)), (c, .inr (2, [.int c0, .int c1, .int c2, .int c3, .int c4, .int c5]))]) [0, 1, 2] gdX2_worthKnown_26.2.2.2.2.2.1 rfl rfl rfl rfl (PN.mk (fun _ => 0) rfl rfl)
      · refine aw_iload (q := 31) gdX2_worthKnown_26.2.1 rfl 6 rfl ?_
        refine aw_bipush (q := 33) (v := 45) gdX2_worthKnown_26.2.2.1 rfl (by decide) ?_
        refine aw_icmp_le (tgt := 38) (q := 36) gdX2_worthKnown_26.2.2.2.1 (by decide) rfl (fun h_33 => ?_) (fun h_33 => ?_)
        · refine aw_aload (q := 40) gdX2_worthKnown_26.2.2.2.2.2.2.1 rfl 5 rfl ?_
          refine aw_dup (q := 41) gdX2_worthKnown_26.2.2.2.2.2.2.2 rfl rfl ?_
          refine aw_get (q := 44) gdX2_worthKnown_41.1 rfl fl_X2_40 2 rfl rfl ?_
          refine aw_iconst (q := 45) (v := 1) gdX2_worthKnown_41.2.1 rfl (by decide) ?_
          refine aw_iadd (q := 46) gdX2_worthKnown_41.2.2.1 rfl ?_
          refine aw_put (q := 49) (ws' := [(h, .inr (4, [.ref a, .int sz])), (a, .inl (0, 2646, .inl f)), (c, .inr (2, [.int c0, .int (c1 + (1 : Int32)), .int c2, .int c3, .int c4, .int c5]))]) gdX2_worthKnown_41.2.2.2.1 rfl fl_X2_40 2 rfl rfl rfl (Nat.le_of_ble_eq_true rfl) rfl ?_
          refine aw_aload_n (q := 50) gdX2_worthKnown_41.2.2.2.2.1 rfl 1 rfl ?_
          refine aw_get (q := 53) gdX2_worthKnown_41.2.2.2.2.2.1 rfl fl_X2_11 0 rfl rfl ?_
          refine aw_iload (q := 55) gdX2_worthKnown_41.2.2.2.2.2.2.1 rfl 0 rfl ?_
          refine aw_iald (q := 56) gdX2_worthKnown_41.2.2.2.2.2.2.2 rfl 1 rfl ?_
          refine aw_iconst (q := 57) (v := (-1)) gdX2_worthKnown_56.1 rfl (by decide) ?_
          refine aw_icmp_eq (tgt := 79) (q := 60) gdX2_worthKnown_56.2.1 (by decide) rfl (fun h_57 => ?_) (fun h_57 => ?_)
          · refine aw_aload_n (q := 80) gdX2_worthKnown_71.2.2.2.2.2.1 rfl 1 rfl ?_
            refine aw_iload_n (q := 81) gdX2_worthKnown_71.2.2.2.2.2.2.1 rfl 2 rfl ?_
            refine aw_iload_n (q := 82) gdX2_worthKnown_71.2.2.2.2.2.2.2 rfl 3 rfl ?_
            refine aw_iload_n (q := 83) gdX2_worthKnown_82.1 rfl 4 rfl ?_
            refine aw_aload (q := 85) gdX2_worthKnown_82.2.1 rfl 5 rfl ?_
            refine aw_iload (q := 87) gdX2_worthKnown_82.2.2.1 rfl 6 rfl ?_
            refine aw_iconst (q := 88) (v := 1) gdX2_worthKnown_82.2.2.2.1 rfl (by decide) ?_
            refine aw_iadd (q := 89) gdX2_worthKnown_82.2.2.2.2.1 rfl ?_
            refine aw_call (q := 92) (kc1 := 0) (ks1 := 0) (wc := [(h, .inr (4, [.ref a, .int sz])), (a, .inl (0, 2646, .inl f)), (c, .inr (2, [.int c0, .int (c1 + (1 : Int32)), .int c2, .int c3, .int c4, .int c5]))]) (wr := []) (st1 := fun x89 g89 => [.int x89.1]) (ws1 := fun x89 g89 => [(h, .inr (4, [.ref a, .int x89.2.1])), (a, .inl (0, 2646, .inl x89.2.2.1)), (c, .inr (2, [.int c0, .int x89.2.2.2.1, .int x89.2.2.2.2.1, .int x89.2.2.2.2.2, .int c4, .int c5]))]) (As := [.ref h, .int p0, .int p1, .int p2, .ref c, .int (p3 + (1 : Int32))]) [0, 1, 2] [] (fun _ => runV (q0 := 0) gdX2_worthKnown_82.2.2.2.2.2.1 mi_X2_sumOfLegs im_X2_sumOfLegs se_X2_sumOfLegs ml_X2_48 (by omega) rfl (Nat.le_of_ble_eq_true rfl) rfl rfl rfl rfl) (fun x9 h9 => ok_X2_sumOfLegs (fun _ _ _ _ _ _ _ _ _ _ _ _ x8 h8 => ih _ _ _ _ _ _ _ _ _ _ _ _ _ _ _ x8 h8) h9) rfl rfl rfl rfl rfl (by decide +kernel) (by omega) (by omega) (fun _ _ => rfl) (fun _ _ => rfl) (fun x89 g89 => ?_)
            refine aw_istore (q := 94) (lv' := [(7, .int x89.1), (6, .int x18), (0, .ref h), (1, .int p0), (2, .int p1), (3, .int p2), (4, .ref c), (5, .int p3)]) gdX2_worthKnown_82.2.2.2.2.2.2.1 rfl (by decide) rfl ?_
            refine aw_aload_n (q := 95) gdX2_worthKnown_82.2.2.2.2.2.2.2 rfl 2 rfl ?_
            refine aw_iload_n (q := 96) gdX2_worthKnown_95.1 rfl 3 rfl ?_
            refine aw_iload_n (q := 97) gdX2_worthKnown_95.2.1 rfl 4 rfl ?_
            refine aw_iload_n (q := 98) gdX2_worthKnown_95.2.2.1 rfl 5 rfl ?_
            refine aw_iload (q := 100) gdX2_worthKnown_95.2.2.2.1 rfl 0 rfl ?_
            refine aw_call (q := 103) (kc1 := 0) (ks1 := 0) (wc := [(h, .inr (4, [.ref a, .int x89.2.1])), (a, .inl (0, 2646, .inl x89.2.2.1))]) (wr := [(c, .inr (2, [.int c0, .int x89.2.2.2.1, .int x89.2.2.2.2.1, .int x89.2.2.2.2.2, .int c4, .int c5]))]) (st1 := fun x100 g100 => []) (ws1 := fun x100 g100 => [(c, .inr (2, [.int c0, .int x89.2.2.2.1, .int x89.2.2.2.2.1, .int x89.2.2.2.2.2, .int c4, .int c5])), (h, .inr (4, [.ref a, .int x100.1])), (a, .inl (0, 2646, .inl x100.2))]) (As := [.ref h, .int p0, .int p1, .int p2, .int x89.1]) [0, 1] [2] (fun _ => runV (q0 := 0) gdX2_worthKnown_95.2.2.2.2.1 mi_X2_keep im_X2_keep se_X2_keep ml_X2_51 (by omega) rfl (Nat.le_of_ble_eq_true rfl) rfl rfl rfl rfl) (fun x9 h9 => ok_X2_keep h9) rfl rfl rfl rfl rfl (by decide +kernel) (by omega) (by omega) (fun _ _ => rfl) (fun _ _ => rfl) (fun x100 g100 => ?_)
            refine aw_aload (q := 105) gdX2_worthKnown_95.2.2.2.2.2.1 rfl 6 rfl ?_
            refine aw_dup (q := 106) gdX2_worthKnown_95.2.2.2.2.2.2.1 rfl rfl ?_
            refine aw_get (q := 109) gdX2_worthKnown_95.2.2.2.2.2.2.2 rfl fl_X2_55 0 rfl rfl ?_
            refine aw_iconst (q := 110) (v := 1) gdX2_worthKnown_109.1 rfl (by decide) ?_
            refine aw_iadd (q := 111) gdX2_worthKnown_109.2.1 rfl ?_
            refine aw_put (q := 114) (ws' := [(c, .inr (2, [.int c0, .int x89.2.2.2.1, .int (x89.2.2.2.2.1 + (1 : Int32)), .int x89.2.2.2.2.2, .int c4, .int c5])), (h, .inr (4, [.ref a, .int x100.1])), (a, .inl (0, 2646, .inl x100.2))]) gdX2_worthKnown_109.2.2.1 rfl fl_X2_55 0 rfl rfl rfl (Nat.le_of_ble_eq_true rfl) rfl ?_
            refine aw_iload (q := 116) gdX2_worthKnown_109.2.2.2.1 rfl 0 rfl ?_
            exact aw_ireturn (w := [(h, .inr (4, [.ref a, .int x100.1])), (a, .inl (0, 2646, .inl x100.2)), (c, .inr (2, [.int c0, .int x89.2.2.2.1, .int (x89.2.2.2.2.1 + (1 : Int32)), .int x89.2.2.2.2.2, .int c4, .int c5]))]) [1, 2, 0] gdX2_worthKnown_109.2.2.2.2 rfl rfl rfl rfl (PN.mk (fun _ => 0) rfl rfl)
          · refine aw_aload (q := 62) gdX2_worthKnown_56.2.2.1 rfl 5 rfl ?_
            refine aw_dup (q := 63) gdX2_worthKnown_56.2.2.2.1 rfl rfl ?_
            refine aw_get (q := 66) gdX2_worthKnown_56.2.2.2.2.1 rfl fl_X2_45 2 rfl rfl ?_
            refine aw_iconst (q := 67) (v := 1) gdX2_worthKnown_56.2.2.2.2.2.1 rfl (by decide) ?_
            refine aw_iadd (q := 68) gdX2_worthKnown_56.2.2.2.2.2.2.1 rfl ?_
            refine aw_put (q := 71) (ws' := [(h, .inr (4, [.ref a, .int sz])), (a, .inl (0, 2646, .inl f)), (c, .inr (2, [.int c0, .int (c1 + (1 : Int32)), .int c2, .int (c3 + (1 : Int32)), .int c4, .int c5]))]) gdX2_worthKnown_56.2.2.2.2.2.2.2 rfl fl_X2_45 2 rfl rfl rfl (Nat.le_of_ble_eq_true rfl) rfl ?_
            refine aw_aload_n (q := 72) gdX2_worthKnown_71.1 rfl 1 rfl ?_
            refine aw_get (q := 75) gdX2_worthKnown_71.2.1 rfl fl_X2_11 0 rfl rfl ?_
            refine aw_iload (q := 77) gdX2_worthKnown_71.2.2.1 rfl 0 rfl ?_
            refine aw_iald (q := 78) gdX2_worthKnown_71.2.2.2.1 rfl 1 rfl ?_
            exact aw_ireturn (w := [(h, .inr (4, [.ref a, .int sz])), (a, .inl (0, 2646, .inl f)), (c, .inr (2, [.int c0, .int (c1 + (1 : Int32)), .int c2, .int (c3 + (1 : Int32)), .int c4, .int c5]))]) [0, 1, 2] gdX2_worthKnown_71.2.2.2.2.1 rfl rfl rfl rfl (PN.mk (fun _ => 0) rfl rfl)
        · refine aw_iconst (q := 37) (v := 0) gdX2_worthKnown_26.2.2.2.2.1 rfl (by decide) ?_
          exact aw_ireturn (w := [(h, .inr (4, [.ref a, .int sz])), (a, .inl (0, 2646, .inl f)), (c, .inr (2, [.int c0, .int c1, .int c2, .int c3, .int c4, .int c5]))]) [0, 1, 2] gdX2_worthKnown_26.2.2.2.2.2.1 rfl rfl rfl rfl (PN.mk (fun _ => 0) rfl rfl)
    · refine aw_iload_n (q := 9) gdX2_worthKnown_0.2.2.2.2.1 rfl 1 rfl ?_
      refine aw_iload_n (q := 10) gdX2_worthKnown_0.2.2.2.2.2.1 rfl 2 rfl ?_
      refine aw_iload_n (q := 11) gdX2_worthKnown_0.2.2.2.2.2.2.1 rfl 3 rfl ?_
      refine aw_call (q := 14) (kc1 := 0) (ks1 := 0) (wc := []) (wr := [(h, .inr (4, [.ref a, .int sz])), (a, .inl (0, 2646, .inl f)), (c, .inr (2, [.int c0, .int c1, .int c2, .int c3, .int c4, .int c5]))]) (st1 := fun x11 g11 => [.int x11]) (ws1 := fun x11 g11 => [(h, .inr (4, [.ref a, .int sz])), (a, .inl (0, 2646, .inl f)), (c, .inr (2, [.int c0, .int c1, .int c2, .int c3, .int c4, .int c5]))]) (As := [.int p0, .int p1, .int p2]) [] [0, 1, 2] (fun _ => runSN gdX2_worthKnown_0.2.2.2.2.2.2.2 mi_X5_restingWorth st_X5_restingWorth mn_X2_33 (by omega) rfl (Nat.le_of_ble_eq_true rfl) rfl) (fun x9 h9 => ok_X5_restingWorth h9) rfl rfl rfl rfl rfl (by decide +kernel) (by omega) (by omega) (fun _ _ => rfl) (fun _ _ => rfl) (fun x11 g11 => ?_)
      exact aw_ireturn (w := [(h, .inr (4, [.ref a, .int sz])), (a, .inl (0, 2646, .inl f)), (c, .inr (2, [.int c0, .int c1, .int c2, .int c3, .int c4, .int c5]))]) [0, 1, 2] gdX2_worthKnown_14.1 rfl rfl rfl rfl (PN.mk (fun _ => 0) rfl rfl)
def fX2_recall (N K : Nat) (sz : Int32) (f : Nat → Int32) (c0 : Int32) (c1 : Int32) (c2 : Int32) (c3 : Int32) (c4 : Int32) (c5 : Int32) (p0 : Int32) (p1 : Int32) (p2 : Int32) : Option (Int32 × Int32 × (Nat → Int32) × Int32 × Int32 × Int32) :=
  ((fX2_worthKnown N K K sz f c0 c1 c2 c3 c4 c5 p0 p1 p2 (0 : Int32)).bind (fun x7 => (some (x7.1, x7.2.1, x7.2.2.1, x7.2.2.2.1, x7.2.2.2.2.1, x7.2.2.2.2.2))))
set_option maxHeartbeats 4000000 in
set_option maxRecDepth 100000 in
theorem ok_X2_recall {N K : Nat} {h c a : Nat} {sz : Int32} {f : Nat → Int32} {c0 : Int32} {c1 : Int32} {c2 : Int32} {c3 : Int32} {c4 : Int32} {c5 : Int32} {p0 : Int32} {p1 : Int32} {p2 : Int32} {xr : Int32 × Int32 × (Nat → Int32) × Int32 × Int32 × Int32} (hE : fX2_recall N K sz f c0 c1 c2 c3 c4 c5 p0 p1 p2 = some xr) : OkM yX2_recall (.code yX2_recall cX2_recall 5 (some .int)) (2 * K + 7) 0 0 [.ref h, .int p0, .int p1, .int p2, .ref c] [(h, .inr (4, [.ref a, .int sz])), (a, .inl (0, 2646, .inl f)), (c, .inr (2, [.int c0, .int c1, .int c2, .int c3, .int c4, .int c5]))] ((PN (U := Int32 × Int32 × (Nat → Int32) × Int32 × Int32 × Int32) (fun zz _ => some (.int zz.1)) (fun zz ad => [(h, .inr (4, [.ref a, .int zz.2.1])), (a, .inl (0, 2646, .inl zz.2.2.1)), (c, .inr (2, [.int c0, .int zz.2.2.2.1, .int zz.2.2.2.2.1, .int zz.2.2.2.2.2, .int c4, .int c5]))])) xr) := by
  refine ok_of (by decide) (Nat.le_of_ble_eq_true rfl) hE ?_
  refine aw_locals (lv' := [(0, .ref h), (1, .int p0), (2, .int p1), (3, .int p2), (4, .ref c)]) [0, 1, 2, 3, 4] rfl ?_
  refine aw_aload_n (q := 1) gdX2_recall_0.1 rfl 0 rfl ?_
  refine aw_iload_n (q := 2) gdX2_recall_0.2.1 rfl 1 rfl ?_
  refine aw_iload_n (q := 3) gdX2_recall_0.2.2.1 rfl 2 rfl ?_
  refine aw_iload_n (q := 4) gdX2_recall_0.2.2.2.1 rfl 3 rfl ?_
  refine aw_aload (q := 6) gdX2_recall_0.2.2.2.2.1 rfl 4 rfl ?_
  refine aw_iconst (q := 7) (v := 0) gdX2_recall_0.2.2.2.2.2.1 rfl (by decide) ?_
  refine aw_call (q := 10) (kc1 := 0) (ks1 := 0) (wc := [(h, .inr (4, [.ref a, .int sz])), (a, .inl (0, 2646, .inl f)), (c, .inr (2, [.int c0, .int c1, .int c2, .int c3, .int c4, .int c5]))]) (wr := []) (st1 := fun x7 g7 => [.int x7.1]) (ws1 := fun x7 g7 => [(h, .inr (4, [.ref a, .int x7.2.1])), (a, .inl (0, 2646, .inl x7.2.2.1)), (c, .inr (2, [.int c0, .int x7.2.2.2.1, .int x7.2.2.2.2.1, .int x7.2.2.2.2.2, .int c4, .int c5]))]) (As := [.ref h, .int p0, .int p1, .int p2, .ref c, .int (0 : Int32)]) [0, 1, 2] [] (fun _ => runV (q0 := 0) gdX2_recall_0.2.2.2.2.2.2.1 mi_X2_worthKnown im_X2_worthKnown se_X2_worthKnown ml_X2_25 (by omega) rfl (Nat.le_of_ble_eq_true rfl) rfl rfl rfl rfl) (fun x9 h9 => ok_X2_worthKnown K _ _ _ _ _ _ _ _ _ _ _ _ _ _ _ x9 h9) rfl rfl rfl rfl rfl (by decide +kernel) (by omega) (by omega) (fun _ _ => rfl) (fun _ _ => rfl) (fun x7 g7 => ?_)
  exact aw_ireturn (w := [(h, .inr (4, [.ref a, .int x7.2.1])), (a, .inl (0, 2646, .inl x7.2.2.1)), (c, .inr (2, [.int c0, .int x7.2.2.2.1, .int x7.2.2.2.2.1, .int x7.2.2.2.2.2, .int c4, .int c5]))]) [0, 1, 2] gdX2_recall_0.2.2.2.2.2.2.2 rfl rfl rfl rfl (PN.mk (fun _ => 0) rfl rfl)

end MG_13memory
section MG_20make
def fX0_init (N K : Nat) (k0 : Int32) (k1 : Int32) (k2 : Int32) (k3 : Int32) (k4 : Int32) (k5 : Int32) : Option (Unit) :=
  (some ())
set_option maxHeartbeats 4000000 in
set_option maxRecDepth 100000 in
theorem ok_X0_init {N K : Nat} {h : Nat} {k0 : Int32} {k1 : Int32} {k2 : Int32} {k3 : Int32} {k4 : Int32} {k5 : Int32} {xr : Unit} (hE : fX0_init N K k0 k1 k2 k3 k4 k5 = some xr) : OkM yX0_init (.code yX0_init cX0_init 1 none) (1) 0 0 [.ref h] [(h, .inr (2, [.int k0, .int k1, .int k2, .int k3, .int k4, .int k5]))] ((PN (U := Unit) (fun _ _ => none) (fun zz ad => [(h, .inr (2, [.int k0, .int k1, .int k2, .int k3, .int k4, .int k5]))])) xr) := by
  refine ok_of (by decide) (Nat.le_of_ble_eq_true rfl) hE ?_
  refine aw_locals (lv' := [(0, .ref h)]) [0] rfl ?_
  refine aw_aload_n (q := 1) gdX0_init_0.1 rfl 0 rfl ?_
  refine aw_objInit (q := 4) gdX0_init_0.2.1 rfl ml_X0_1 w_oi (by omega) (Nat.le_of_ble_eq_true rfl) ?_
  exact aw_return (w := [(h, .inr (2, [.int k0, .int k1, .int k2, .int k3, .int k4, .int k5]))]) [0] gdX0_init_0.2.2 rfl rfl rfl (PN.mk (fun _ => 0) rfl rfl)
def fX4_init (N K : Nat)  : Option ((Nat → Int32)) :=
  (some (fun _ => 0))
set_option maxHeartbeats 4000000 in
set_option maxRecDepth 100000 in
theorem ok_X4_init {N K : Nat} {h : Nat} {xr : (Nat → Int32)} (hE : fX4_init N K  = some xr) : OkM yX4_init (.code yX4_init cX4_init 1 none) (1) 1 21 [.ref h] [(h, .inr (6, [.null]))] ((PN (U := (Nat → Int32)) (fun _ _ => none) (fun zz ad => [(h, .inr (6, [.ref (ad 0)])), ((ad 0), .inl (0, 21, .inl zz))])) xr) := by
  refine ok_of (by decide) (Nat.le_of_ble_eq_true rfl) hE ?_
  refine aw_locals (lv' := [(0, .ref h)]) [0] rfl ?_
  refine aw_aload_n (q := 1) gdX4_init_0.1 rfl 0 rfl ?_
  refine aw_objInit (q := 4) gdX4_init_0.2.1 rfl ml_X4_3 w_oi (by omega) (Nat.le_of_ble_eq_true rfl) ?_
  refine aw_aload_n (q := 5) gdX4_init_0.2.2.1 rfl 0 rfl ?_
  refine aw_bipush (q := 7) (v := 21) gdX4_init_0.2.2.2.1 rfl (by decide) ?_
  refine aw_newarr (q := 9) (t := 0) (N := 21) (kc' := 0) (ks' := 0) (ws' := fun r7 => [(h, .inr (6, [.null])), (r7, .inl (0, 21, .inl (fun _ => 0)))]) gdX4_init_0.2.2.2.2.1 rfl (by decide) rfl ac_int (fun _ => rfl) (by decide) (by decide) (by decide) (by omega) (by omega) (fun _ => rfl) (fun r7 => ?_)
  refine aw_putF (q := 12) (ws' := [(h, .inr (6, [.ref r7])), (r7, .inl (0, 21, .inl (fun _ => 0)))]) gdX4_init_0.2.2.2.2.2.1 rfl fl_X4_9 (fun _ _ _ h9 => by cases h9; rfl) rfl 0 rfl rfl rfl (Nat.le_of_ble_eq_true rfl) rfl ?_
  exact aw_return (w := [(h, .inr (6, [.ref r7])), (r7, .inl (0, 21, .inl (fun _ => 0)))]) [0, 1] gdX4_init_0.2.2.2.2.2.2 rfl rfl rfl (PN.mk (fun j => if j = 0 then r7 else 0) rfl rfl)
def fX3_init (N K : Nat)  : Option ((Nat → Int32)) :=
  (some (fun _ => 0))
set_option maxHeartbeats 4000000 in
set_option maxRecDepth 100000 in
theorem ok_X3_init {N K : Nat} {h : Nat} {xr : (Nat → Int32)} (hE : fX3_init N K  = some xr) : OkM yX3_init (.code yX3_init cX3_init 1 none) (1) 1 21 [.ref h] [(h, .inr (5, [.null]))] ((PN (U := (Nat → Int32)) (fun _ _ => none) (fun zz ad => [(h, .inr (5, [.ref (ad 0)])), ((ad 0), .inl (0, 21, .inl zz))])) xr) := by
  refine ok_of (by decide) (Nat.le_of_ble_eq_true rfl) hE ?_
  refine aw_locals (lv' := [(0, .ref h)]) [0] rfl ?_
  refine aw_aload_n (q := 1) gdX3_init_0.1 rfl 0 rfl ?_
  refine aw_objInit (q := 4) gdX3_init_0.2.1 rfl ml_X3_3 w_oi (by omega) (Nat.le_of_ble_eq_true rfl) ?_
  refine aw_aload_n (q := 5) gdX3_init_0.2.2.1 rfl 0 rfl ?_
  refine aw_bipush (q := 7) (v := 21) gdX3_init_0.2.2.2.1 rfl (by decide) ?_
  refine aw_newarr (q := 9) (t := 0) (N := 21) (kc' := 0) (ks' := 0) (ws' := fun r7 => [(h, .inr (5, [.null])), (r7, .inl (0, 21, .inl (fun _ => 0)))]) gdX3_init_0.2.2.2.2.1 rfl (by decide) rfl ac_int (fun _ => rfl) (by decide) (by decide) (by decide) (by omega) (by omega) (fun _ => rfl) (fun r7 => ?_)
  refine aw_putF (q := 12) (ws' := [(h, .inr (5, [.ref r7])), (r7, .inl (0, 21, .inl (fun _ => 0)))]) gdX3_init_0.2.2.2.2.2.1 rfl fl_X3_9 (fun _ _ _ h9 => by cases h9; rfl) rfl 0 rfl rfl rfl (Nat.le_of_ble_eq_true rfl) rfl ?_
  exact aw_return (w := [(h, .inr (5, [.ref r7])), (r7, .inl (0, 21, .inl (fun _ => 0)))]) [0, 1] gdX3_init_0.2.2.2.2.2.2 rfl rfl rfl (PN.mk (fun j => if j = 0 then r7 else 0) rfl rfl)
def fX2_init (N K : Nat) (sz : Int32) : Option ((Nat → Int32)) :=
  ((fJ_fill N K 2646 (fun _ => 0) (-1 : Int32)).bind (fun x18 => (some x18)))
set_option maxHeartbeats 4000000 in
set_option maxRecDepth 100000 in
theorem ok_X2_init {N K : Nat} {h : Nat} {sz : Int32} {xr : (Nat → Int32)} (hE : fX2_init N K sz = some xr) : OkM yX2_init (.code yX2_init cX2_init 1 none) (1) 1 2646 [.ref h] [(h, .inr (4, [.null, .int sz]))] ((PN (U := (Nat → Int32)) (fun _ _ => none) (fun zz ad => [(h, .inr (4, [.ref (ad 0), .int sz])), ((ad 0), .inl (0, 2646, .inl zz))])) xr) := by
  refine ok_of (by decide) (Nat.le_of_ble_eq_true rfl) hE ?_
  refine aw_locals (lv' := [(0, .ref h)]) [0] rfl ?_
  refine aw_aload_n (q := 1) gdX2_init_0.1 rfl 0 rfl ?_
  refine aw_objInit (q := 4) gdX2_init_0.2.1 rfl ml_X2_5 w_oi (by omega) (Nat.le_of_ble_eq_true rfl) ?_
  refine aw_aload_n (q := 5) gdX2_init_0.2.2.1 rfl 0 rfl ?_
  refine aw_sipush (q := 8) (v := 2646) gdX2_init_0.2.2.2.1 rfl (by decide) ?_
  refine aw_newarr (q := 10) (t := 0) (N := 2646) (kc' := 0) (ks' := 0) (ws' := fun r8 => [(h, .inr (4, [.null, .int sz])), (r8, .inl (0, 2646, .inl (fun _ => 0)))]) gdX2_init_0.2.2.2.2.1 rfl (by decide) rfl ac_int (fun _ => rfl) (by decide) (by decide) (by decide) (by omega) (by omega) (fun _ => rfl) (fun r8 => ?_)
  refine aw_putF (q := 13) (ws' := [(h, .inr (4, [.ref r8, .int sz])), (r8, .inl (0, 2646, .inl (fun _ => 0)))]) gdX2_init_0.2.2.2.2.2.1 rfl fl_X2_11 (fun _ _ _ h9 => by cases h9; rfl) rfl 0 rfl rfl rfl (Nat.le_of_ble_eq_true rfl) rfl ?_
  refine aw_aload_n (q := 14) gdX2_init_0.2.2.2.2.2.2.1 rfl 0 rfl ?_
  refine aw_get (q := 17) gdX2_init_0.2.2.2.2.2.2.2 rfl fl_X2_11 0 rfl rfl ?_
  refine aw_iconst (q := 18) (v := (-1)) gdX2_init_17.1 rfl (by decide) ?_
  refine aw_call (q := 21) (kc1 := 0) (ks1 := 0) (wc := [(r8, .inl (0, 2646, .inl (fun _ => 0)))]) (wr := [(h, .inr (4, [.ref r8, .int sz]))]) (st1 := fun x18 g18 => []) (ws1 := fun x18 g18 => [(h, .inr (4, [.ref r8, .int sz])), (r8, .inl (0, 2646, .inl x18))]) (As := [.ref r8, .int (-1 : Int32)]) [1] [0] (fun _ => runS gdX2_init_17.2.1 mi_J7_fill_53178 st_J7_fill_53178 ml_X2_15 (by omega) rfl (Nat.le_of_ble_eq_true rfl) rfl) (fun x9 h9 => ok_J_fill h9) rfl rfl rfl rfl rfl (by decide +kernel) (by omega) (by omega) (fun _ _ => rfl) (fun _ _ => rfl) (fun x18 g18 => ?_)
  exact aw_return (w := [(h, .inr (4, [.ref r8, .int sz])), (r8, .inl (0, 2646, .inl x18))]) [0, 1] gdX2_init_17.2.2 rfl rfl rfl (PN.mk (fun j => if j = 0 then r8 else 0) rfl rfl)
def fX1_init (N K : Nat) (ru : Int32) (sz : Int32) (p0 : Int32) : Option (Int32 × (Nat → Int32)) :=
  ((fJ_fill N K 21 (fun _ => 0) (-1 : Int32)).bind (fun x22 => (some (p0, x22))))
set_option maxHeartbeats 4000000 in
set_option maxRecDepth 100000 in
theorem ok_X1_init {N K : Nat} {h : Nat} {ru : Int32} {sz : Int32} {p0 : Int32} {xr : Int32 × (Nat → Int32)} (hE : fX1_init N K ru sz p0 = some xr) : OkM yX1_init (.code yX1_init cX1_init 2 none) (1) 1 21 [.ref h, .int p0] [(h, .inr (3, [.int ru, .null, .int sz]))] ((PN (U := Int32 × (Nat → Int32)) (fun _ _ => none) (fun zz ad => [(h, .inr (3, [.int zz.1, .ref (ad 0), .int sz])), ((ad 0), .inl (0, 21, .inl zz.2))])) xr) := by
  refine ok_of (by decide) (Nat.le_of_ble_eq_true rfl) hE ?_
  refine aw_locals (lv' := [(0, .ref h), (1, .int p0)]) [0, 1] rfl ?_
  refine aw_aload_n (q := 1) gdX1_init_0.1 rfl 0 rfl ?_
  refine aw_objInit (q := 4) gdX1_init_0.2.1 rfl ml_X1_3 w_oi (by omega) (Nat.le_of_ble_eq_true rfl) ?_
  refine aw_aload_n (q := 5) gdX1_init_0.2.2.1 rfl 0 rfl ?_
  refine aw_bipush (q := 7) (v := 21) gdX1_init_0.2.2.2.1 rfl (by decide) ?_
  refine aw_newarr (q := 9) (t := 0) (N := 21) (kc' := 0) (ks' := 0) (ws' := fun r7 => [(h, .inr (3, [.int ru, .null, .int sz])), (r7, .inl (0, 21, .inl (fun _ => 0)))]) gdX1_init_0.2.2.2.2.1 rfl (by decide) rfl ac_int (fun _ => rfl) (by decide) (by decide) (by decide) (by omega) (by omega) (fun _ => rfl) (fun r7 => ?_)
  refine aw_putF (q := 12) (ws' := [(h, .inr (3, [.int ru, .ref r7, .int sz])), (r7, .inl (0, 21, .inl (fun _ => 0)))]) gdX1_init_0.2.2.2.2.2.1 rfl fl_X1_9 (fun _ _ _ h9 => by cases h9; rfl) rfl 0 rfl rfl rfl (Nat.le_of_ble_eq_true rfl) rfl ?_
  refine aw_aload_n (q := 13) gdX1_init_0.2.2.2.2.2.2.1 rfl 0 rfl ?_
  refine aw_iload_n (q := 14) gdX1_init_0.2.2.2.2.2.2.2 rfl 1 rfl ?_
  refine aw_putF (q := 17) (ws' := [(h, .inr (3, [.int p0, .ref r7, .int sz])), (r7, .inl (0, 21, .inl (fun _ => 0)))]) gdX1_init_14.1 rfl fl_X1_15 (fun _ _ _ h9 => by cases h9; rfl) rfl 0 rfl rfl rfl (Nat.le_of_ble_eq_true rfl) rfl ?_
  refine aw_aload_n (q := 18) gdX1_init_14.2.1 rfl 0 rfl ?_
  refine aw_get (q := 21) gdX1_init_14.2.2.1 rfl fl_X1_9 0 rfl rfl ?_
  refine aw_iconst (q := 22) (v := (-1)) gdX1_init_14.2.2.2.1 rfl (by decide) ?_
  refine aw_call (q := 25) (kc1 := 0) (ks1 := 0) (wc := [(r7, .inl (0, 21, .inl (fun _ => 0)))]) (wr := [(h, .inr (3, [.int p0, .ref r7, .int sz]))]) (st1 := fun x22 g22 => []) (ws1 := fun x22 g22 => [(h, .inr (3, [.int p0, .ref r7, .int sz])), (r7, .inl (0, 21, .inl x22))]) (As := [.ref r7, .int (-1 : Int32)]) [1] [0] (fun _ => runS gdX1_init_14.2.2.2.2.1 mi_J7_fill_53178 st_J7_fill_53178 ml_X1_19 (by omega) rfl (Nat.le_of_ble_eq_true rfl) rfl) (fun x9 h9 => ok_J_fill h9) rfl rfl rfl rfl rfl (by decide +kernel) (by omega) (by omega) (fun _ _ => rfl) (fun _ _ => rfl) (fun x22 g22 => ?_)
  exact aw_return (w := [(h, .inr (3, [.int p0, .ref r7, .int sz])), (r7, .inl (0, 21, .inl x22))]) [0, 1] gdX1_init_14.2.2.2.2.2 rfl rfl rfl (PN.mk (fun j => if j = 0 then r7 else 0) rfl rfl)
def fX5_init (N K : Nat)  : Option (Int32 × (Nat → Int32) × Int32 × (Nat → Int32) × Int32 × (Nat → Int32) × Int32 × Int32 × (Nat → Int32) × Int32 × Int32 × (Nat → Int32) × Int32 × Int32 × (Nat → Int32) × (Nat → Int32) × (Nat → Int32) × Int32 × Int32 × Int32 × Int32 × Int32 × Int32 × (Nat → Int32) × (Nat → Int32) × (Nat → Int32)) :=
  ((fX2_init N K (0 : Int32)).bind (fun x32 => ((fX2_init N K (0 : Int32)).bind (fun x32_1 => ((fX2_init N K (0 : Int32)).bind (fun x32_2 => ((fX1_init N K (0 : Int32) (0 : Int32) (0 : Int32)).bind (fun x71 => ((fX1_init N K (0 : Int32) (0 : Int32) (1 : Int32)).bind (fun x71_1 => ((fX1_init N K (0 : Int32) (0 : Int32) (2 : Int32)).bind (fun x71_2 => ((fX4_init N K ).bind (fun x109 => ((fX4_init N K ).bind (fun x109_1 => ((fX0_init N K (0 : Int32) (0 : Int32) (0 : Int32) (0 : Int32) (0 : Int32) (0 : Int32)).bind (fun x124 => ((fX3_init N K ).bind (fun x135 => ((fX4_init N K ).bind (fun x146 => ((fX4_init N K ).bind (fun x157 => (some ((0 : Int32), x32, (0 : Int32), x32_1, (0 : Int32), x32_2, x71.1, (0 : Int32), x71.2, x71_1.1, (0 : Int32), x71_1.2, x71_2.1, (0 : Int32), x71_2.2, x109, x109_1, (0 : Int32), (0 : Int32), (0 : Int32), (0 : Int32), (0 : Int32), (0 : Int32), x135, x146, x157))))))))))))))))))))))))))
set_option maxHeartbeats 4000000 in
set_option maxRecDepth 100000 in
theorem ok_X5_init {N K : Nat} {x : Nat} {xr : Int32 × (Nat → Int32) × Int32 × (Nat → Int32) × Int32 × (Nat → Int32) × Int32 × Int32 × (Nat → Int32) × Int32 × Int32 × (Nat → Int32) × Int32 × Int32 × (Nat → Int32) × (Nat → Int32) × (Nat → Int32) × Int32 × Int32 × Int32 × Int32 × Int32 × Int32 × (Nat → Int32) × (Nat → Int32) × (Nat → Int32)} (hE : fX5_init N K  = some xr) : OkM yX5_init (.code yX5_init cX5_init 2 none) (2) 26 8140 [.ref x] [(x, .inr (7, [.null, .null, .null, .null, .null, .null, .null]))] ((PN (U := Int32 × (Nat → Int32) × Int32 × (Nat → Int32) × Int32 × (Nat → Int32) × Int32 × Int32 × (Nat → Int32) × Int32 × Int32 × (Nat → Int32) × Int32 × Int32 × (Nat → Int32) × (Nat → Int32) × (Nat → Int32) × Int32 × Int32 × Int32 × Int32 × Int32 × Int32 × (Nat → Int32) × (Nat → Int32) × (Nat → Int32)) (fun _ _ => none) (fun zz ad => [(x, .inr (7, [.ref (ad 0), .ref (ad 7), .ref (ad 14), .ref (ad 19), .ref (ad 20), .ref (ad 22), .ref (ad 24)])), ((ad 0), .inl (1, 3, .inr (.inr (.inr (.inr (va_up (va_up (va_up (fun _ => none) (0 : Int32).toNatClampNeg (some (ad 1))) (1 : Int32).toNatClampNeg (some (ad 3))) (2 : Int32).toNatClampNeg (some (ad 5)))))))), ((ad 1), .inr (4, [.ref (ad 2), .int zz.1])), ((ad 2), .inl (0, 2646, .inl zz.2.1)), ((ad 3), .inr (4, [.ref (ad 4), .int zz.2.2.1])), ((ad 4), .inl (0, 2646, .inl zz.2.2.2.1)), ((ad 5), .inr (4, [.ref (ad 6), .int zz.2.2.2.2.1])), ((ad 6), .inl (0, 2646, .inl zz.2.2.2.2.2.1)), ((ad 7), .inl (2, 3, .inr (.inr (.inr (.inr (va_up (va_up (va_up (fun _ => none) (0 : Int32).toNatClampNeg (some (ad 8))) (1 : Int32).toNatClampNeg (some (ad 10))) (2 : Int32).toNatClampNeg (some (ad 12)))))))), ((ad 8), .inr (3, [.int zz.2.2.2.2.2.2.1, .ref (ad 9), .int zz.2.2.2.2.2.2.2.1])), ((ad 9), .inl (0, 21, .inl zz.2.2.2.2.2.2.2.2.1)), ((ad 10), .inr (3, [.int zz.2.2.2.2.2.2.2.2.2.1, .ref (ad 11), .int zz.2.2.2.2.2.2.2.2.2.2.1])), ((ad 11), .inl (0, 21, .inl zz.2.2.2.2.2.2.2.2.2.2.2.1)), ((ad 12), .inr (3, [.int zz.2.2.2.2.2.2.2.2.2.2.2.2.1, .ref (ad 13), .int zz.2.2.2.2.2.2.2.2.2.2.2.2.2.1])), ((ad 13), .inl (0, 21, .inl zz.2.2.2.2.2.2.2.2.2.2.2.2.2.2.1)), ((ad 14), .inl (3, 2, .inr (.inr (.inr (.inr (va_up (va_up (fun _ => none) (0 : Int32).toNatClampNeg (some (ad 15))) (1 : Int32).toNatClampNeg (some (ad 17)))))))), ((ad 15), .inr (6, [.ref (ad 16)])), ((ad 16), .inl (0, 21, .inl zz.2.2.2.2.2.2.2.2.2.2.2.2.2.2.2.1)), ((ad 17), .inr (6, [.ref (ad 18)])), ((ad 18), .inl (0, 21, .inl zz.2.2.2.2.2.2.2.2.2.2.2.2.2.2.2.2.1)), ((ad 19), .inr (2, [.int zz.2.2.2.2.2.2.2.2.2.2.2.2.2.2.2.2.2.1, .int zz.2.2.2.2.2.2.2.2.2.2.2.2.2.2.2.2.2.2.1, .int zz.2.2.2.2.2.2.2.2.2.2.2.2.2.2.2.2.2.2.2.1, .int zz.2.2.2.2.2.2.2.2.2.2.2.2.2.2.2.2.2.2.2.2.1, .int zz.2.2.2.2.2.2.2.2.2.2.2.2.2.2.2.2.2.2.2.2.2.1, .int zz.2.2.2.2.2.2.2.2.2.2.2.2.2.2.2.2.2.2.2.2.2.2.1])), ((ad 20), .inr (5, [.ref (ad 21)])), ((ad 21), .inl (0, 21, .inl zz.2.2.2.2.2.2.2.2.2.2.2.2.2.2.2.2.2.2.2.2.2.2.2.1)), ((ad 22), .inr (6, [.ref (ad 23)])), ((ad 23), .inl (0, 21, .inl zz.2.2.2.2.2.2.2.2.2.2.2.2.2.2.2.2.2.2.2.2.2.2.2.2.1)), ((ad 24), .inr (6, [.ref (ad 25)])), ((ad 25), .inl (0, 21, .inl zz.2.2.2.2.2.2.2.2.2.2.2.2.2.2.2.2.2.2.2.2.2.2.2.2.2))])) xr) := by
  refine ok_of (by decide) (Nat.le_of_ble_eq_true rfl) hE ?_
  refine aw_locals (lv' := [(0, .ref x)]) [0] rfl ?_
  refine aw_aload_n (q := 1) gdX5_init_0.1 rfl 0 rfl ?_
  refine aw_objInit (q := 4) gdX5_init_0.2.1 rfl ml_X5_1 w_oi (by omega) (Nat.le_of_ble_eq_true rfl) ?_
  refine aw_aload_n (q := 5) gdX5_init_0.2.2.1 rfl 0 rfl ?_
  refine aw_iconst (q := 6) (v := 3) gdX5_init_0.2.2.2.1 rfl (by decide) ?_
  refine aw_anew (q := 9) (t := 1) (N := 3) (kc' := 25) (ks' := 8137) (ws' := fun r6 => [(x, .inr (7, [.null, .null, .null, .null, .null, .null, .null])), (r6, .inl (1, 3, .inr (.inr (.inr (.inr (fun _ => none))))))]) gdX5_init_0.2.2.2.2.1 rfl (by decide) rfl cl_X5_9 (by decide) (by decide) (by decide) (by decide) (by omega) (by omega) (fun _ => rfl) (fun r6 => ?_)
  refine aw_putF (q := 12) (ws' := [(x, .inr (7, [.ref r6, .null, .null, .null, .null, .null, .null])), (r6, .inl (1, 3, .inr (.inr (.inr (.inr (fun _ => none))))))]) gdX5_init_0.2.2.2.2.2.1 rfl fl_X5_11 (fun _ _ _ h9 => by cases h9; rfl) rfl 0 rfl rfl rfl (Nat.le_of_ble_eq_true rfl) rfl ?_
  refine aw_iconst (q := 13) (v := 0) gdX5_init_0.2.2.2.2.2.2.1 rfl (by decide) ?_
  refine aw_istore_n (q := 14) (lv' := [(1, .int (0 : Int32)), (0, .ref x)]) gdX5_init_0.2.2.2.2.2.2.2 rfl (by decide) rfl ?_
  refine aw_iload_n (q := 15) gdX5_init_14.1 rfl 0 rfl ?_
  refine aw_aload_n (q := 16) gdX5_init_14.2.1 rfl 1 rfl ?_
  refine aw_get (q := 19) gdX5_init_14.2.2.1 rfl fl_X5_11 0 rfl rfl ?_
  refine aw_alen (q := 20) (v := 3) gdX5_init_14.2.2.2.1 rfl 1 rfl (by decide) rfl ?_
  refine aw_icmp_geF (q := 23) (off := 22) (tgt := 42) gdX5_init_14.2.2.2.2.1 (by decide) rfl (by decide) ?_
  refine aw_aload_n (q := 24) gdX5_init_14.2.2.2.2.2.1 rfl 1 rfl ?_
  refine aw_get (q := 27) gdX5_init_14.2.2.2.2.2.2.1 rfl fl_X5_11 0 rfl rfl ?_
  refine aw_iload_n (q := 28) gdX5_init_14.2.2.2.2.2.2.2 rfl 0 rfl ?_
  refine aw_new (q := 31) (kc' := 24) (ks' := 8135) (ws' := fun r28 => [(x, .inr (7, [.ref r6, .null, .null, .null, .null, .null, .null])), (r6, .inl (1, 3, .inr (.inr (.inr (.inr (fun _ => none)))))), (r28, .inr (4, [.null, .int (0 : Int32)]))]) gdX5_init_28.1 rfl nw_X5_9 (by omega) (by omega) (fun _ => rfl) (fun r28 => ?_)
  refine aw_dup (q := 32) gdX5_init_28.2.1 rfl rfl ?_
  refine aw_call (q := 35) (kc1 := 23) (ks1 := 5489) (wc := [(r28, .inr (4, [.null, .int (0 : Int32)]))]) (wr := [(x, .inr (7, [.ref r6, .null, .null, .null, .null, .null, .null])), (r6, .inl (1, 3, .inr (.inr (.inr (.inr (fun _ => none))))))]) (st1 := fun x32 g32 => [.ref r28, .int (0 : Int32), .ref r6]) (ws1 := fun x32 g32 => [(x, .inr (7, [.ref r6, .null, .null, .null, .null, .null, .null])), (r6, .inl (1, 3, .inr (.inr (.inr (.inr (fun _ => none)))))), (r28, .inr (4, [.ref (g32 0), .int (0 : Int32)])), ((g32 0), .inl (0, 2646, .inl x32))]) (As := [.ref r28]) [2] [0, 1] (fun _ => runI gdX5_init_28.2.2.1 mi_X2_init rfl im_X2_init ml_X5_15 (by omega) rfl (Nat.le_of_ble_eq_true rfl) rfl) (fun x9 h9 => ok_X2_init h9) rfl rfl rfl rfl rfl (by decide +kernel) (by omega) (by omega) (fun _ _ => rfl) (fun _ _ => rfl) (fun x32 g32 => ?_)
  refine aw_aast (q := 36) (qk := 2) (ws' := [(x, .inr (7, [.ref r6, .null, .null, .null, .null, .null, .null])), (r6, .inl (1, 3, .inr (.inr (.inr (.inr (va_up (fun _ => none) (0 : Int32).toNatClampNeg (some r28))))))), (r28, .inr (4, [.ref (g32 0), .int (0 : Int32)])), ((g32 0), .inl (0, 2646, .inl x32))]) gdX5_init_28.2.2.2.1 rfl 1 rfl (by decide) rfl rfl rfl (by decide) rfl ?_
  refine aw_iinc (q := 39) (v := (1 : Int32)) (lv' := [(1, .int (1 : Int32)), (0, .ref x)]) gdX5_init_28.2.2.2.2.1 rfl 0 rfl (by decide) (by decide) rfl ?_
  refine aw_goto (tgt := 14) gdX5_init_28.2.2.2.2.2.1 (by decide) ?_
  refine aw_iload_n (q := 15) gdX5_init_14.1 rfl 0 rfl ?_
  refine aw_aload_n (q := 16) gdX5_init_14.2.1 rfl 1 rfl ?_
  refine aw_get (q := 19) gdX5_init_14.2.2.1 rfl fl_X5_11 0 rfl rfl ?_
  refine aw_alen (q := 20) (v := 3) gdX5_init_14.2.2.2.1 rfl 1 rfl (by decide) rfl ?_
  refine aw_icmp_geF (q := 23) (off := 22) (tgt := 42) gdX5_init_14.2.2.2.2.1 (by decide) rfl (by decide) ?_
  refine aw_aload_n (q := 24) gdX5_init_14.2.2.2.2.2.1 rfl 1 rfl ?_
  refine aw_get (q := 27) gdX5_init_14.2.2.2.2.2.2.1 rfl fl_X5_11 0 rfl rfl ?_
  refine aw_iload_n (q := 28) gdX5_init_14.2.2.2.2.2.2.2 rfl 0 rfl ?_
  refine aw_new (q := 31) (kc' := 22) (ks' := 5487) (ws' := fun r28_1 => [(x, .inr (7, [.ref r6, .null, .null, .null, .null, .null, .null])), (r6, .inl (1, 3, .inr (.inr (.inr (.inr (va_up (fun _ => none) (0 : Int32).toNatClampNeg (some r28))))))), (r28, .inr (4, [.ref (g32 0), .int (0 : Int32)])), ((g32 0), .inl (0, 2646, .inl x32)), (r28_1, .inr (4, [.null, .int (0 : Int32)]))]) gdX5_init_28.1 rfl nw_X5_9 (by omega) (by omega) (fun _ => rfl) (fun r28_1 => ?_)
  refine aw_dup (q := 32) gdX5_init_28.2.1 rfl rfl ?_
  refine aw_call (q := 35) (kc1 := 21) (ks1 := 2841) (wc := [(r28_1, .inr (4, [.null, .int (0 : Int32)]))]) (wr := [(x, .inr (7, [.ref r6, .null, .null, .null, .null, .null, .null])), (r6, .inl (1, 3, .inr (.inr (.inr (.inr (va_up (fun _ => none) (0 : Int32).toNatClampNeg (some r28))))))), (r28, .inr (4, [.ref (g32 0), .int (0 : Int32)])), ((g32 0), .inl (0, 2646, .inl x32))]) (st1 := fun x32_1 g32_1 => [.ref r28_1, .int (1 : Int32), .ref r6]) (ws1 := fun x32_1 g32_1 => [(x, .inr (7, [.ref r6, .null, .null, .null, .null, .null, .null])), (r6, .inl (1, 3, .inr (.inr (.inr (.inr (va_up (fun _ => none) (0 : Int32).toNatClampNeg (some r28))))))), (r28, .inr (4, [.ref (g32 0), .int (0 : Int32)])), ((g32 0), .inl (0, 2646, .inl x32)), (r28_1, .inr (4, [.ref (g32_1 0), .int (0 : Int32)])), ((g32_1 0), .inl (0, 2646, .inl x32_1))]) (As := [.ref r28_1]) [4] [0, 1, 2, 3] (fun _ => runI gdX5_init_28.2.2.1 mi_X2_init rfl im_X2_init ml_X5_15 (by omega) rfl (Nat.le_of_ble_eq_true rfl) rfl) (fun x9 h9 => ok_X2_init h9) rfl rfl rfl rfl rfl (by decide +kernel) (by omega) (by omega) (fun _ _ => rfl) (fun _ _ => rfl) (fun x32_1 g32_1 => ?_)
  refine aw_aast (q := 36) (qk := 4) (ws' := [(x, .inr (7, [.ref r6, .null, .null, .null, .null, .null, .null])), (r6, .inl (1, 3, .inr (.inr (.inr (.inr (va_up (va_up (fun _ => none) (0 : Int32).toNatClampNeg (some r28)) (1 : Int32).toNatClampNeg (some r28_1))))))), (r28, .inr (4, [.ref (g32 0), .int (0 : Int32)])), ((g32 0), .inl (0, 2646, .inl x32)), (r28_1, .inr (4, [.ref (g32_1 0), .int (0 : Int32)])), ((g32_1 0), .inl (0, 2646, .inl x32_1))]) gdX5_init_28.2.2.2.1 rfl 1 rfl (by decide) rfl rfl rfl (by decide) rfl ?_
  refine aw_iinc (q := 39) (v := (2 : Int32)) (lv' := [(1, .int (2 : Int32)), (0, .ref x)]) gdX5_init_28.2.2.2.2.1 rfl 0 rfl (by decide) (by decide) rfl ?_
  refine aw_goto (tgt := 14) gdX5_init_28.2.2.2.2.2.1 (by decide) ?_
  refine aw_iload_n (q := 15) gdX5_init_14.1 rfl 0 rfl ?_
  refine aw_aload_n (q := 16) gdX5_init_14.2.1 rfl 1 rfl ?_
  refine aw_get (q := 19) gdX5_init_14.2.2.1 rfl fl_X5_11 0 rfl rfl ?_
  refine aw_alen (q := 20) (v := 3) gdX5_init_14.2.2.2.1 rfl 1 rfl (by decide) rfl ?_
  refine aw_icmp_geF (q := 23) (off := 22) (tgt := 42) gdX5_init_14.2.2.2.2.1 (by decide) rfl (by decide) ?_
  refine aw_aload_n (q := 24) gdX5_init_14.2.2.2.2.2.1 rfl 1 rfl ?_
  refine aw_get (q := 27) gdX5_init_14.2.2.2.2.2.2.1 rfl fl_X5_11 0 rfl rfl ?_
  refine aw_iload_n (q := 28) gdX5_init_14.2.2.2.2.2.2.2 rfl 0 rfl ?_
  refine aw_new (q := 31) (kc' := 20) (ks' := 2839) (ws' := fun r28_2 => [(x, .inr (7, [.ref r6, .null, .null, .null, .null, .null, .null])), (r6, .inl (1, 3, .inr (.inr (.inr (.inr (va_up (va_up (fun _ => none) (0 : Int32).toNatClampNeg (some r28)) (1 : Int32).toNatClampNeg (some r28_1))))))), (r28, .inr (4, [.ref (g32 0), .int (0 : Int32)])), ((g32 0), .inl (0, 2646, .inl x32)), (r28_1, .inr (4, [.ref (g32_1 0), .int (0 : Int32)])), ((g32_1 0), .inl (0, 2646, .inl x32_1)), (r28_2, .inr (4, [.null, .int (0 : Int32)]))]) gdX5_init_28.1 rfl nw_X5_9 (by omega) (by omega) (fun _ => rfl) (fun r28_2 => ?_)
  refine aw_dup (q := 32) gdX5_init_28.2.1 rfl rfl ?_
  refine aw_call (q := 35) (kc1 := 19) (ks1 := 193) (wc := [(r28_2, .inr (4, [.null, .int (0 : Int32)]))]) (wr := [(x, .inr (7, [.ref r6, .null, .null, .null, .null, .null, .null])), (r6, .inl (1, 3, .inr (.inr (.inr (.inr (va_up (va_up (fun _ => none) (0 : Int32).toNatClampNeg (some r28)) (1 : Int32).toNatClampNeg (some r28_1))))))), (r28, .inr (4, [.ref (g32 0), .int (0 : Int32)])), ((g32 0), .inl (0, 2646, .inl x32)), (r28_1, .inr (4, [.ref (g32_1 0), .int (0 : Int32)])), ((g32_1 0), .inl (0, 2646, .inl x32_1))]) (st1 := fun x32_2 g32_2 => [.ref r28_2, .int (2 : Int32), .ref r6]) (ws1 := fun x32_2 g32_2 => [(x, .inr (7, [.ref r6, .null, .null, .null, .null, .null, .null])), (r6, .inl (1, 3, .inr (.inr (.inr (.inr (va_up (va_up (fun _ => none) (0 : Int32).toNatClampNeg (some r28)) (1 : Int32).toNatClampNeg (some r28_1))))))), (r28, .inr (4, [.ref (g32 0), .int (0 : Int32)])), ((g32 0), .inl (0, 2646, .inl x32)), (r28_1, .inr (4, [.ref (g32_1 0), .int (0 : Int32)])), ((g32_1 0), .inl (0, 2646, .inl x32_1)), (r28_2, .inr (4, [.ref (g32_2 0), .int (0 : Int32)])), ((g32_2 0), .inl (0, 2646, .inl x32_2))]) (As := [.ref r28_2]) [6] [0, 1, 2, 3, 4, 5] (fun _ => runI gdX5_init_28.2.2.1 mi_X2_init rfl im_X2_init ml_X5_15 (by omega) rfl (Nat.le_of_ble_eq_true rfl) rfl) (fun x9 h9 => ok_X2_init h9) rfl rfl rfl rfl rfl (by decide +kernel) (by omega) (by omega) (fun _ _ => rfl) (fun _ _ => rfl) (fun x32_2 g32_2 => ?_)
  refine aw_aast (q := 36) (qk := 6) (ws' := [(x, .inr (7, [.ref r6, .null, .null, .null, .null, .null, .null])), (r6, .inl (1, 3, .inr (.inr (.inr (.inr (va_up (va_up (va_up (fun _ => none) (0 : Int32).toNatClampNeg (some r28)) (1 : Int32).toNatClampNeg (some r28_1)) (2 : Int32).toNatClampNeg (some r28_2))))))), (r28, .inr (4, [.ref (g32 0), .int (0 : Int32)])), ((g32 0), .inl (0, 2646, .inl x32)), (r28_1, .inr (4, [.ref (g32_1 0), .int (0 : Int32)])), ((g32_1 0), .inl (0, 2646, .inl x32_1)), (r28_2, .inr (4, [.ref (g32_2 0), .int (0 : Int32)])), ((g32_2 0), .inl (0, 2646, .inl x32_2))]) gdX5_init_28.2.2.2.1 rfl 1 rfl (by decide) rfl rfl rfl (by decide) rfl ?_
  refine aw_iinc (q := 39) (v := (3 : Int32)) (lv' := [(1, .int (3 : Int32)), (0, .ref x)]) gdX5_init_28.2.2.2.2.1 rfl 0 rfl (by decide) (by decide) rfl ?_
  refine aw_goto (tgt := 14) gdX5_init_28.2.2.2.2.2.1 (by decide) ?_
  refine aw_iload_n (q := 15) gdX5_init_14.1 rfl 0 rfl ?_
  refine aw_aload_n (q := 16) gdX5_init_14.2.1 rfl 1 rfl ?_
  refine aw_get (q := 19) gdX5_init_14.2.2.1 rfl fl_X5_11 0 rfl rfl ?_
  refine aw_alen (q := 20) (v := 3) gdX5_init_14.2.2.2.1 rfl 1 rfl (by decide) rfl ?_
  refine aw_icmp_geT (tgt := 42) gdX5_init_14.2.2.2.2.1 (by decide) (by decide) ?_
  refine aw_aload_n (q := 43) gdX5_init_28.2.2.2.2.2.2.1 rfl 1 rfl ?_
  refine aw_iconst (q := 44) (v := 3) gdX5_init_28.2.2.2.2.2.2.2 rfl (by decide) ?_
  refine aw_anew (q := 47) (t := 2) (N := 3) (kc' := 18) (ks' := 190) (ws' := fun r44 => [(x, .inr (7, [.ref r6, .null, .null, .null, .null, .null, .null])), (r6, .inl (1, 3, .inr (.inr (.inr (.inr (va_up (va_up (va_up (fun _ => none) (0 : Int32).toNatClampNeg (some r28)) (1 : Int32).toNatClampNeg (some r28_1)) (2 : Int32).toNatClampNeg (some r28_2))))))), (r28, .inr (4, [.ref (g32 0), .int (0 : Int32)])), ((g32 0), .inl (0, 2646, .inl x32)), (r28_1, .inr (4, [.ref (g32_1 0), .int (0 : Int32)])), ((g32_1 0), .inl (0, 2646, .inl x32_1)), (r28_2, .inr (4, [.ref (g32_2 0), .int (0 : Int32)])), ((g32_2 0), .inl (0, 2646, .inl x32_2)), (r44, .inl (2, 3, .inr (.inr (.inr (.inr (fun _ => none))))))]) gdX5_init_44.1 rfl (by decide) rfl cl_X5_16 (by decide) (by decide) (by decide) (by decide) (by omega) (by omega) (fun _ => rfl) (fun r44 => ?_)
  refine aw_putF (q := 50) (ws' := [(x, .inr (7, [.ref r6, .ref r44, .null, .null, .null, .null, .null])), (r6, .inl (1, 3, .inr (.inr (.inr (.inr (va_up (va_up (va_up (fun _ => none) (0 : Int32).toNatClampNeg (some r28)) (1 : Int32).toNatClampNeg (some r28_1)) (2 : Int32).toNatClampNeg (some r28_2))))))), (r28, .inr (4, [.ref (g32 0), .int (0 : Int32)])), ((g32 0), .inl (0, 2646, .inl x32)), (r28_1, .inr (4, [.ref (g32_1 0), .int (0 : Int32)])), ((g32_1 0), .inl (0, 2646, .inl x32_1)), (r28_2, .inr (4, [.ref (g32_2 0), .int (0 : Int32)])), ((g32_2 0), .inl (0, 2646, .inl x32_2)), (r44, .inl (2, 3, .inr (.inr (.inr (.inr (fun _ => none))))))]) gdX5_init_44.2.1 rfl fl_X5_18 (fun _ _ _ h9 => by cases h9; rfl) rfl 0 rfl rfl rfl (Nat.le_of_ble_eq_true rfl) rfl ?_
  refine aw_iconst (q := 51) (v := 0) gdX5_init_44.2.2.1 rfl (by decide) ?_
  refine aw_istore_n (q := 52) (lv' := [(1, .int (0 : Int32)), (0, .ref x)]) gdX5_init_44.2.2.2.1 rfl (by decide) rfl ?_
  refine aw_iload_n (q := 53) gdX5_init_44.2.2.2.2.1 rfl 0 rfl ?_
  refine aw_aload_n (q := 54) gdX5_init_44.2.2.2.2.2.1 rfl 1 rfl ?_
  refine aw_get (q := 57) gdX5_init_44.2.2.2.2.2.2.1 rfl fl_X5_18 0 rfl rfl ?_
  refine aw_alen (q := 58) (v := 3) gdX5_init_44.2.2.2.2.2.2.2 rfl 8 rfl (by decide) rfl ?_
  refine aw_icmp_geF (q := 61) (off := 23) (tgt := 81) gdX5_init_58.1 (by decide) rfl (by decide) ?_
  refine aw_aload_n (q := 62) gdX5_init_58.2.1 rfl 1 rfl ?_
  refine aw_get (q := 65) gdX5_init_58.2.2.1 rfl fl_X5_18 0 rfl rfl ?_
  refine aw_iload_n (q := 66) gdX5_init_58.2.2.2.1 rfl 0 rfl ?_
  refine aw_new (q := 69) (kc' := 17) (ks' := 187) (ws' := fun r66 => [(x, .inr (7, [.ref r6, .ref r44, .null, .null, .null, .null, .null])), (r6, .inl (1, 3, .inr (.inr (.inr (.inr (va_up (va_up (va_up (fun _ => none) (0 : Int32).toNatClampNeg (some r28)) (1 : Int32).toNatClampNeg (some r28_1)) (2 : Int32).toNatClampNeg (some r28_2))))))), (r28, .inr (4, [.ref (g32 0), .int (0 : Int32)])), ((g32 0), .inl (0, 2646, .inl x32)), (r28_1, .inr (4, [.ref (g32_1 0), .int (0 : Int32)])), ((g32_1 0), .inl (0, 2646, .inl x32_1)), (r28_2, .inr (4, [.ref (g32_2 0), .int (0 : Int32)])), ((g32_2 0), .inl (0, 2646, .inl x32_2)), (r44, .inl (2, 3, .inr (.inr (.inr (.inr (fun _ => none)))))), (r66, .inr (3, [.int (0 : Int32), .null, .int (0 : Int32)]))]) gdX5_init_58.2.2.2.2.1 rfl nw_X5_16 (by omega) (by omega) (fun _ => rfl) (fun r66 => ?_)
  refine aw_dup (q := 70) gdX5_init_58.2.2.2.2.2.1 rfl rfl ?_
  refine aw_iload_n (q := 71) gdX5_init_58.2.2.2.2.2.2.1 rfl 0 rfl ?_
  refine aw_call (q := 74) (kc1 := 16) (ks1 := 166) (wc := [(r66, .inr (3, [.int (0 : Int32), .null, .int (0 : Int32)]))]) (wr := [(x, .inr (7, [.ref r6, .ref r44, .null, .null, .null, .null, .null])), (r6, .inl (1, 3, .inr (.inr (.inr (.inr (va_up (va_up (va_up (fun _ => none) (0 : Int32).toNatClampNeg (some r28)) (1 : Int32).toNatClampNeg (some r28_1)) (2 : Int32).toNatClampNeg (some r28_2))))))), (r28, .inr (4, [.ref (g32 0), .int (0 : Int32)])), ((g32 0), .inl (0, 2646, .inl x32)), (r28_1, .inr (4, [.ref (g32_1 0), .int (0 : Int32)])), ((g32_1 0), .inl (0, 2646, .inl x32_1)), (r28_2, .inr (4, [.ref (g32_2 0), .int (0 : Int32)])), ((g32_2 0), .inl (0, 2646, .inl x32_2)), (r44, .inl (2, 3, .inr (.inr (.inr (.inr (fun _ => none))))))]) (st1 := fun x71 g71 => [.ref r66, .int (0 : Int32), .ref r44]) (ws1 := fun x71 g71 => [(x, .inr (7, [.ref r6, .ref r44, .null, .null, .null, .null, .null])), (r6, .inl (1, 3, .inr (.inr (.inr (.inr (va_up (va_up (va_up (fun _ => none) (0 : Int32).toNatClampNeg (some r28)) (1 : Int32).toNatClampNeg (some r28_1)) (2 : Int32).toNatClampNeg (some r28_2))))))), (r28, .inr (4, [.ref (g32 0), .int (0 : Int32)])), ((g32 0), .inl (0, 2646, .inl x32)), (r28_1, .inr (4, [.ref (g32_1 0), .int (0 : Int32)])), ((g32_1 0), .inl (0, 2646, .inl x32_1)), (r28_2, .inr (4, [.ref (g32_2 0), .int (0 : Int32)])), ((g32_2 0), .inl (0, 2646, .inl x32_2)), (r44, .inl (2, 3, .inr (.inr (.inr (.inr (fun _ => none)))))), (r66, .inr (3, [.int x71.1, .ref (g71 0), .int (0 : Int32)])), ((g71 0), .inl (0, 21, .inl x71.2))]) (As := [.ref r66, .int (0 : Int32)]) [9] [0, 1, 2, 3, 4, 5, 6, 7, 8] (fun _ => runI gdX5_init_58.2.2.2.2.2.2.2 mi_X1_init rfl im_X1_init ml_X5_22 (by omega) rfl (Nat.le_of_ble_eq_true rfl) rfl) (fun x9 h9 => ok_X1_init h9) rfl rfl rfl rfl rfl (by decide +kernel) (by omega) (by omega) (fun _ _ => rfl) (fun _ _ => rfl) (fun x71 g71 => ?_)
  refine aw_aast (q := 75) (qk := 9) (ws' := [(x, .inr (7, [.ref r6, .ref r44, .null, .null, .null, .null, .null])), (r6, .inl (1, 3, .inr (.inr (.inr (.inr (va_up (va_up (va_up (fun _ => none) (0 : Int32).toNatClampNeg (some r28)) (1 : Int32).toNatClampNeg (some r28_1)) (2 : Int32).toNatClampNeg (some r28_2))))))), (r28, .inr (4, [.ref (g32 0), .int (0 : Int32)])), ((g32 0), .inl (0, 2646, .inl x32)), (r28_1, .inr (4, [.ref (g32_1 0), .int (0 : Int32)])), ((g32_1 0), .inl (0, 2646, .inl x32_1)), (r28_2, .inr (4, [.ref (g32_2 0), .int (0 : Int32)])), ((g32_2 0), .inl (0, 2646, .inl x32_2)), (r44, .inl (2, 3, .inr (.inr (.inr (.inr (va_up (fun _ => none) (0 : Int32).toNatClampNeg (some r66))))))), (r66, .inr (3, [.int x71.1, .ref (g71 0), .int (0 : Int32)])), ((g71 0), .inl (0, 21, .inl x71.2))]) gdX5_init_74.1 rfl 8 rfl (by decide) rfl rfl rfl (by decide) rfl ?_
  refine aw_iinc (q := 78) (v := (1 : Int32)) (lv' := [(1, .int (1 : Int32)), (0, .ref x)]) gdX5_init_74.2.1 rfl 0 rfl (by decide) (by decide) rfl ?_
  refine aw_goto (tgt := 52) gdX5_init_74.2.2.1 (by decide) ?_
  refine aw_iload_n (q := 53) gdX5_init_44.2.2.2.2.1 rfl 0 rfl ?_
  refine aw_aload_n (q := 54) gdX5_init_44.2.2.2.2.2.1 rfl 1 rfl ?_
  refine aw_get (q := 57) gdX5_init_44.2.2.2.2.2.2.1 rfl fl_X5_18 0 rfl rfl ?_
  refine aw_alen (q := 58) (v := 3) gdX5_init_44.2.2.2.2.2.2.2 rfl 8 rfl (by decide) rfl ?_
  refine aw_icmp_geF (q := 61) (off := 23) (tgt := 81) gdX5_init_58.1 (by decide) rfl (by decide) ?_
  refine aw_aload_n (q := 62) gdX5_init_58.2.1 rfl 1 rfl ?_
  refine aw_get (q := 65) gdX5_init_58.2.2.1 rfl fl_X5_18 0 rfl rfl ?_
  refine aw_iload_n (q := 66) gdX5_init_58.2.2.2.1 rfl 0 rfl ?_
  refine aw_new (q := 69) (kc' := 15) (ks' := 163) (ws' := fun r66_1 => [(x, .inr (7, [.ref r6, .ref r44, .null, .null, .null, .null, .null])), (r6, .inl (1, 3, .inr (.inr (.inr (.inr (va_up (va_up (va_up (fun _ => none) (0 : Int32).toNatClampNeg (some r28)) (1 : Int32).toNatClampNeg (some r28_1)) (2 : Int32).toNatClampNeg (some r28_2))))))), (r28, .inr (4, [.ref (g32 0), .int (0 : Int32)])), ((g32 0), .inl (0, 2646, .inl x32)), (r28_1, .inr (4, [.ref (g32_1 0), .int (0 : Int32)])), ((g32_1 0), .inl (0, 2646, .inl x32_1)), (r28_2, .inr (4, [.ref (g32_2 0), .int (0 : Int32)])), ((g32_2 0), .inl (0, 2646, .inl x32_2)), (r44, .inl (2, 3, .inr (.inr (.inr (.inr (va_up (fun _ => none) (0 : Int32).toNatClampNeg (some r66))))))), (r66, .inr (3, [.int x71.1, .ref (g71 0), .int (0 : Int32)])), ((g71 0), .inl (0, 21, .inl x71.2)), (r66_1, .inr (3, [.int (0 : Int32), .null, .int (0 : Int32)]))]) gdX5_init_58.2.2.2.2.1 rfl nw_X5_16 (by omega) (by omega) (fun _ => rfl) (fun r66_1 => ?_)
  refine aw_dup (q := 70) gdX5_init_58.2.2.2.2.2.1 rfl rfl ?_
  refine aw_iload_n (q := 71) gdX5_init_58.2.2.2.2.2.2.1 rfl 0 rfl ?_
  refine aw_call (q := 74) (kc1 := 14) (ks1 := 142) (wc := [(r66_1, .inr (3, [.int (0 : Int32), .null, .int (0 : Int32)]))]) (wr := [(x, .inr (7, [.ref r6, .ref r44, .null, .null, .null, .null, .null])), (r6, .inl (1, 3, .inr (.inr (.inr (.inr (va_up (va_up (va_up (fun _ => none) (0 : Int32).toNatClampNeg (some r28)) (1 : Int32).toNatClampNeg (some r28_1)) (2 : Int32).toNatClampNeg (some r28_2))))))), (r28, .inr (4, [.ref (g32 0), .int (0 : Int32)])), ((g32 0), .inl (0, 2646, .inl x32)), (r28_1, .inr (4, [.ref (g32_1 0), .int (0 : Int32)])), ((g32_1 0), .inl (0, 2646, .inl x32_1)), (r28_2, .inr (4, [.ref (g32_2 0), .int (0 : Int32)])), ((g32_2 0), .inl (0, 2646, .inl x32_2)), (r44, .inl (2, 3, .inr (.inr (.inr (.inr (va_up (fun _ => none) (0 : Int32).toNatClampNeg (some r66))))))), (r66, .inr (3, [.int x71.1, .ref (g71 0), .int (0 : Int32)])), ((g71 0), .inl (0, 21, .inl x71.2))]) (st1 := fun x71_1 g71_1 => [.ref r66_1, .int (1 : Int32), .ref r44]) (ws1 := fun x71_1 g71_1 => [(x, .inr (7, [.ref r6, .ref r44, .null, .null, .null, .null, .null])), (r6, .inl (1, 3, .inr (.inr (.inr (.inr (va_up (va_up (va_up (fun _ => none) (0 : Int32).toNatClampNeg (some r28)) (1 : Int32).toNatClampNeg (some r28_1)) (2 : Int32).toNatClampNeg (some r28_2))))))), (r28, .inr (4, [.ref (g32 0), .int (0 : Int32)])), ((g32 0), .inl (0, 2646, .inl x32)), (r28_1, .inr (4, [.ref (g32_1 0), .int (0 : Int32)])), ((g32_1 0), .inl (0, 2646, .inl x32_1)), (r28_2, .inr (4, [.ref (g32_2 0), .int (0 : Int32)])), ((g32_2 0), .inl (0, 2646, .inl x32_2)), (r44, .inl (2, 3, .inr (.inr (.inr (.inr (va_up (fun _ => none) (0 : Int32).toNatClampNeg (some r66))))))), (r66, .inr (3, [.int x71.1, .ref (g71 0), .int (0 : Int32)])), ((g71 0), .inl (0, 21, .inl x71.2)), (r66_1, .inr (3, [.int x71_1.1, .ref (g71_1 0), .int (0 : Int32)])), ((g71_1 0), .inl (0, 21, .inl x71_1.2))]) (As := [.ref r66_1, .int (1 : Int32)]) [11] [0, 1, 2, 3, 4, 5, 6, 7, 8, 9, 10] (fun _ => runI gdX5_init_58.2.2.2.2.2.2.2 mi_X1_init rfl im_X1_init ml_X5_22 (by omega) rfl (Nat.le_of_ble_eq_true rfl) rfl) (fun x9 h9 => ok_X1_init h9) rfl rfl rfl rfl rfl (by decide +kernel) (by omega) (by omega) (fun _ _ => rfl) (fun _ _ => rfl) (fun x71_1 g71_1 => ?_)
  refine aw_aast (q := 75) (qk := 11) (ws' := [(x, .inr (7, [.ref r6, .ref r44, .null, .null, .null, .null, .null])), (r6, .inl (1, 3, .inr (.inr (.inr (.inr (va_up (va_up (va_up (fun _ => none) (0 : Int32).toNatClampNeg (some r28)) (1 : Int32).toNatClampNeg (some r28_1)) (2 : Int32).toNatClampNeg (some r28_2))))))), (r28, .inr (4, [.ref (g32 0), .int (0 : Int32)])), ((g32 0), .inl (0, 2646, .inl x32)), (r28_1, .inr (4, [.ref (g32_1 0), .int (0 : Int32)])), ((g32_1 0), .inl (0, 2646, .inl x32_1)), (r28_2, .inr (4, [.ref (g32_2 0), .int (0 : Int32)])), ((g32_2 0), .inl (0, 2646, .inl x32_2)), (r44, .inl (2, 3, .inr (.inr (.inr (.inr (va_up (va_up (fun _ => none) (0 : Int32).toNatClampNeg (some r66)) (1 : Int32).toNatClampNeg (some r66_1))))))), (r66, .inr (3, [.int x71.1, .ref (g71 0), .int (0 : Int32)])), ((g71 0), .inl (0, 21, .inl x71.2)), (r66_1, .inr (3, [.int x71_1.1, .ref (g71_1 0), .int (0 : Int32)])), ((g71_1 0), .inl (0, 21, .inl x71_1.2))]) gdX5_init_74.1 rfl 8 rfl (by decide) rfl rfl rfl (by decide) rfl ?_
  refine aw_iinc (q := 78) (v := (2 : Int32)) (lv' := [(1, .int (2 : Int32)), (0, .ref x)]) gdX5_init_74.2.1 rfl 0 rfl (by decide) (by decide) rfl ?_
  refine aw_goto (tgt := 52) gdX5_init_74.2.2.1 (by decide) ?_
  refine aw_iload_n (q := 53) gdX5_init_44.2.2.2.2.1 rfl 0 rfl ?_
  refine aw_aload_n (q := 54) gdX5_init_44.2.2.2.2.2.1 rfl 1 rfl ?_
  refine aw_get (q := 57) gdX5_init_44.2.2.2.2.2.2.1 rfl fl_X5_18 0 rfl rfl ?_
  refine aw_alen (q := 58) (v := 3) gdX5_init_44.2.2.2.2.2.2.2 rfl 8 rfl (by decide) rfl ?_
  refine aw_icmp_geF (q := 61) (off := 23) (tgt := 81) gdX5_init_58.1 (by decide) rfl (by decide) ?_
  refine aw_aload_n (q := 62) gdX5_init_58.2.1 rfl 1 rfl ?_
  refine aw_get (q := 65) gdX5_init_58.2.2.1 rfl fl_X5_18 0 rfl rfl ?_
  refine aw_iload_n (q := 66) gdX5_init_58.2.2.2.1 rfl 0 rfl ?_
  refine aw_new (q := 69) (kc' := 13) (ks' := 139) (ws' := fun r66_2 => [(x, .inr (7, [.ref r6, .ref r44, .null, .null, .null, .null, .null])), (r6, .inl (1, 3, .inr (.inr (.inr (.inr (va_up (va_up (va_up (fun _ => none) (0 : Int32).toNatClampNeg (some r28)) (1 : Int32).toNatClampNeg (some r28_1)) (2 : Int32).toNatClampNeg (some r28_2))))))), (r28, .inr (4, [.ref (g32 0), .int (0 : Int32)])), ((g32 0), .inl (0, 2646, .inl x32)), (r28_1, .inr (4, [.ref (g32_1 0), .int (0 : Int32)])), ((g32_1 0), .inl (0, 2646, .inl x32_1)), (r28_2, .inr (4, [.ref (g32_2 0), .int (0 : Int32)])), ((g32_2 0), .inl (0, 2646, .inl x32_2)), (r44, .inl (2, 3, .inr (.inr (.inr (.inr (va_up (va_up (fun _ => none) (0 : Int32).toNatClampNeg (some r66)) (1 : Int32).toNatClampNeg (some r66_1))))))), (r66, .inr (3, [.int x71.1, .ref (g71 0), .int (0 : Int32)])), ((g71 0), .inl (0, 21, .inl x71.2)), (r66_1, .inr (3, [.int x71_1.1, .ref (g71_1 0), .int (0 : Int32)])), ((g71_1 0), .inl (0, 21, .inl x71_1.2)), (r66_2, .inr (3, [.int (0 : Int32), .null, .int (0 : Int32)]))]) gdX5_init_58.2.2.2.2.1 rfl nw_X5_16 (by omega) (by omega) (fun _ => rfl) (fun r66_2 => ?_)
  refine aw_dup (q := 70) gdX5_init_58.2.2.2.2.2.1 rfl rfl ?_
  refine aw_iload_n (q := 71) gdX5_init_58.2.2.2.2.2.2.1 rfl 0 rfl ?_
  refine aw_call (q := 74) (kc1 := 12) (ks1 := 118) (wc := [(r66_2, .inr (3, [.int (0 : Int32), .null, .int (0 : Int32)]))]) (wr := [(x, .inr (7, [.ref r6, .ref r44, .null, .null, .null, .null, .null])), (r6, .inl (1, 3, .inr (.inr (.inr (.inr (va_up (va_up (va_up (fun _ => none) (0 : Int32).toNatClampNeg (some r28)) (1 : Int32).toNatClampNeg (some r28_1)) (2 : Int32).toNatClampNeg (some r28_2))))))), (r28, .inr (4, [.ref (g32 0), .int (0 : Int32)])), ((g32 0), .inl (0, 2646, .inl x32)), (r28_1, .inr (4, [.ref (g32_1 0), .int (0 : Int32)])), ((g32_1 0), .inl (0, 2646, .inl x32_1)), (r28_2, .inr (4, [.ref (g32_2 0), .int (0 : Int32)])), ((g32_2 0), .inl (0, 2646, .inl x32_2)), (r44, .inl (2, 3, .inr (.inr (.inr (.inr (va_up (va_up (fun _ => none) (0 : Int32).toNatClampNeg (some r66)) (1 : Int32).toNatClampNeg (some r66_1))))))), (r66, .inr (3, [.int x71.1, .ref (g71 0), .int (0 : Int32)])), ((g71 0), .inl (0, 21, .inl x71.2)), (r66_1, .inr (3, [.int x71_1.1, .ref (g71_1 0), .int (0 : Int32)])), ((g71_1 0), .inl (0, 21, .inl x71_1.2))]) (st1 := fun x71_2 g71_2 => [.ref r66_2, .int (2 : Int32), .ref r44]) (ws1 := fun x71_2 g71_2 => [(x, .inr (7, [.ref r6, .ref r44, .null, .null, .null, .null, .null])), (r6, .inl (1, 3, .inr (.inr (.inr (.inr (va_up (va_up (va_up (fun _ => none) (0 : Int32).toNatClampNeg (some r28)) (1 : Int32).toNatClampNeg (some r28_1)) (2 : Int32).toNatClampNeg (some r28_2))))))), (r28, .inr (4, [.ref (g32 0), .int (0 : Int32)])), ((g32 0), .inl (0, 2646, .inl x32)), (r28_1, .inr (4, [.ref (g32_1 0), .int (0 : Int32)])), ((g32_1 0), .inl (0, 2646, .inl x32_1)), (r28_2, .inr (4, [.ref (g32_2 0), .int (0 : Int32)])), ((g32_2 0), .inl (0, 2646, .inl x32_2)), (r44, .inl (2, 3, .inr (.inr (.inr (.inr (va_up (va_up (fun _ => none) (0 : Int32).toNatClampNeg (some r66)) (1 : Int32).toNatClampNeg (some r66_1))))))), (r66, .inr (3, [.int x71.1, .ref (g71 0), .int (0 : Int32)])), ((g71 0), .inl (0, 21, .inl x71.2)), (r66_1, .inr (3, [.int x71_1.1, .ref (g71_1 0), .int (0 : Int32)])), ((g71_1 0), .inl (0, 21, .inl x71_1.2)), (r66_2, .inr (3, [.int x71_2.1, .ref (g71_2 0), .int (0 : Int32)])), ((g71_2 0), .inl (0, 21, .inl x71_2.2))]) (As := [.ref r66_2, .int (2 : Int32)]) [13] [0, 1, 2, 3, 4, 5, 6, 7, 8, 9, 10, 11, 12] (fun _ => runI gdX5_init_58.2.2.2.2.2.2.2 mi_X1_init rfl im_X1_init ml_X5_22 (by omega) rfl (Nat.le_of_ble_eq_true rfl) rfl) (fun x9 h9 => ok_X1_init h9) rfl rfl rfl rfl rfl (by decide +kernel) (by omega) (by omega) (fun _ _ => rfl) (fun _ _ => rfl) (fun x71_2 g71_2 => ?_)
  refine aw_aast (q := 75) (qk := 13) (ws' := [(x, .inr (7, [.ref r6, .ref r44, .null, .null, .null, .null, .null])), (r6, .inl (1, 3, .inr (.inr (.inr (.inr (va_up (va_up (va_up (fun _ => none) (0 : Int32).toNatClampNeg (some r28)) (1 : Int32).toNatClampNeg (some r28_1)) (2 : Int32).toNatClampNeg (some r28_2))))))), (r28, .inr (4, [.ref (g32 0), .int (0 : Int32)])), ((g32 0), .inl (0, 2646, .inl x32)), (r28_1, .inr (4, [.ref (g32_1 0), .int (0 : Int32)])), ((g32_1 0), .inl (0, 2646, .inl x32_1)), (r28_2, .inr (4, [.ref (g32_2 0), .int (0 : Int32)])), ((g32_2 0), .inl (0, 2646, .inl x32_2)), (r44, .inl (2, 3, .inr (.inr (.inr (.inr (va_up (va_up (va_up (fun _ => none) (0 : Int32).toNatClampNeg (some r66)) (1 : Int32).toNatClampNeg (some r66_1)) (2 : Int32).toNatClampNeg (some r66_2))))))), (r66, .inr (3, [.int x71.1, .ref (g71 0), .int (0 : Int32)])), ((g71 0), .inl (0, 21, .inl x71.2)), (r66_1, .inr (3, [.int x71_1.1, .ref (g71_1 0), .int (0 : Int32)])), ((g71_1 0), .inl (0, 21, .inl x71_1.2)), (r66_2, .inr (3, [.int x71_2.1, .ref (g71_2 0), .int (0 : Int32)])), ((g71_2 0), .inl (0, 21, .inl x71_2.2))]) gdX5_init_74.1 rfl 8 rfl (by decide) rfl rfl rfl (by decide) rfl ?_
  refine aw_iinc (q := 78) (v := (3 : Int32)) (lv' := [(1, .int (3 : Int32)), (0, .ref x)]) gdX5_init_74.2.1 rfl 0 rfl (by decide) (by decide) rfl ?_
  refine aw_goto (tgt := 52) gdX5_init_74.2.2.1 (by decide) ?_
  refine aw_iload_n (q := 53) gdX5_init_44.2.2.2.2.1 rfl 0 rfl ?_
  refine aw_aload_n (q := 54) gdX5_init_44.2.2.2.2.2.1 rfl 1 rfl ?_
  refine aw_get (q := 57) gdX5_init_44.2.2.2.2.2.2.1 rfl fl_X5_18 0 rfl rfl ?_
  refine aw_alen (q := 58) (v := 3) gdX5_init_44.2.2.2.2.2.2.2 rfl 8 rfl (by decide) rfl ?_
  refine aw_icmp_geT (tgt := 81) gdX5_init_58.1 (by decide) (by decide) ?_
  refine aw_aload_n (q := 82) gdX5_init_74.2.2.2.1 rfl 1 rfl ?_
  refine aw_iconst (q := 83) (v := 2) gdX5_init_74.2.2.2.2.1 rfl (by decide) ?_
  refine aw_anew (q := 86) (t := 3) (N := 2) (kc' := 11) (ks' := 116) (ws' := fun r83 => [(x, .inr (7, [.ref r6, .ref r44, .null, .null, .null, .null, .null])), (r6, .inl (1, 3, .inr (.inr (.inr (.inr (va_up (va_up (va_up (fun _ => none) (0 : Int32).toNatClampNeg (some r28)) (1 : Int32).toNatClampNeg (some r28_1)) (2 : Int32).toNatClampNeg (some r28_2))))))), (r28, .inr (4, [.ref (g32 0), .int (0 : Int32)])), ((g32 0), .inl (0, 2646, .inl x32)), (r28_1, .inr (4, [.ref (g32_1 0), .int (0 : Int32)])), ((g32_1 0), .inl (0, 2646, .inl x32_1)), (r28_2, .inr (4, [.ref (g32_2 0), .int (0 : Int32)])), ((g32_2 0), .inl (0, 2646, .inl x32_2)), (r44, .inl (2, 3, .inr (.inr (.inr (.inr (va_up (va_up (va_up (fun _ => none) (0 : Int32).toNatClampNeg (some r66)) (1 : Int32).toNatClampNeg (some r66_1)) (2 : Int32).toNatClampNeg (some r66_2))))))), (r66, .inr (3, [.int x71.1, .ref (g71 0), .int (0 : Int32)])), ((g71 0), .inl (0, 21, .inl x71.2)), (r66_1, .inr (3, [.int x71_1.1, .ref (g71_1 0), .int (0 : Int32)])), ((g71_1 0), .inl (0, 21, .inl x71_1.2)), (r66_2, .inr (3, [.int x71_2.1, .ref (g71_2 0), .int (0 : Int32)])), ((g71_2 0), .inl (0, 21, .inl x71_2.2)), (r83, .inl (3, 2, .inr (.inr (.inr (.inr (fun _ => none))))))]) gdX5_init_74.2.2.2.2.2.1 rfl (by decide) rfl cl_X5_25 (by decide) (by decide) (by decide) (by decide) (by omega) (by omega) (fun _ => rfl) (fun r83 => ?_)
  refine aw_putF (q := 89) (ws' := [(x, .inr (7, [.ref r6, .ref r44, .ref r83, .null, .null, .null, .null])), (r6, .inl (1, 3, .inr (.inr (.inr (.inr (va_up (va_up (va_up (fun _ => none) (0 : Int32).toNatClampNeg (some r28)) (1 : Int32).toNatClampNeg (some r28_1)) (2 : Int32).toNatClampNeg (some r28_2))))))), (r28, .inr (4, [.ref (g32 0), .int (0 : Int32)])), ((g32 0), .inl (0, 2646, .inl x32)), (r28_1, .inr (4, [.ref (g32_1 0), .int (0 : Int32)])), ((g32_1 0), .inl (0, 2646, .inl x32_1)), (r28_2, .inr (4, [.ref (g32_2 0), .int (0 : Int32)])), ((g32_2 0), .inl (0, 2646, .inl x32_2)), (r44, .inl (2, 3, .inr (.inr (.inr (.inr (va_up (va_up (va_up (fun _ => none) (0 : Int32).toNatClampNeg (some r66)) (1 : Int32).toNatClampNeg (some r66_1)) (2 : Int32).toNatClampNeg (some r66_2))))))), (r66, .inr (3, [.int x71.1, .ref (g71 0), .int (0 : Int32)])), ((g71 0), .inl (0, 21, .inl x71.2)), (r66_1, .inr (3, [.int x71_1.1, .ref (g71_1 0), .int (0 : Int32)])), ((g71_1 0), .inl (0, 21, .inl x71_1.2)), (r66_2, .inr (3, [.int x71_2.1, .ref (g71_2 0), .int (0 : Int32)])), ((g71_2 0), .inl (0, 21, .inl x71_2.2)), (r83, .inl (3, 2, .inr (.inr (.inr (.inr (fun _ => none))))))]) gdX5_init_74.2.2.2.2.2.2.1 rfl fl_X5_27 (fun _ _ _ h9 => by cases h9; rfl) rfl 0 rfl rfl rfl (Nat.le_of_ble_eq_true rfl) rfl ?_
  refine aw_iconst (q := 90) (v := 0) gdX5_init_74.2.2.2.2.2.2.2 rfl (by decide) ?_
  refine aw_istore_n (q := 91) (lv' := [(1, .int (0 : Int32)), (0, .ref x)]) gdX5_init_90.1 rfl (by decide) rfl ?_
  refine aw_iload_n (q := 92) gdX5_init_90.2.1 rfl 0 rfl ?_
  refine aw_aload_n (q := 93) gdX5_init_90.2.2.1 rfl 1 rfl ?_
  refine aw_get (q := 96) gdX5_init_90.2.2.2.1 rfl fl_X5_27 0 rfl rfl ?_
  refine aw_alen (q := 97) (v := 2) gdX5_init_90.2.2.2.2.1 rfl 15 rfl (by decide) rfl ?_
  refine aw_icmp_geF (q := 100) (off := 22) (tgt := 119) gdX5_init_90.2.2.2.2.2.1 (by decide) rfl (by decide) ?_
  refine aw_aload_n (q := 101) gdX5_init_90.2.2.2.2.2.2.1 rfl 1 rfl ?_
  refine aw_get (q := 104) gdX5_init_90.2.2.2.2.2.2.2 rfl fl_X5_27 0 rfl rfl ?_
  refine aw_iload_n (q := 105) gdX5_init_104.1 rfl 0 rfl ?_
  refine aw_new (q := 108) (kc' := 10) (ks' := 115) (ws' := fun r105 => [(x, .inr (7, [.ref r6, .ref r44, .ref r83, .null, .null, .null, .null])), (r6, .inl (1, 3, .inr (.inr (.inr (.inr (va_up (va_up (va_up (fun _ => none) (0 : Int32).toNatClampNeg (some r28)) (1 : Int32).toNatClampNeg (some r28_1)) (2 : Int32).toNatClampNeg (some r28_2))))))), (r28, .inr (4, [.ref (g32 0), .int (0 : Int32)])), ((g32 0), .inl (0, 2646, .inl x32)), (r28_1, .inr (4, [.ref (g32_1 0), .int (0 : Int32)])), ((g32_1 0), .inl (0, 2646, .inl x32_1)), (r28_2, .inr (4, [.ref (g32_2 0), .int (0 : Int32)])), ((g32_2 0), .inl (0, 2646, .inl x32_2)), (r44, .inl (2, 3, .inr (.inr (.inr (.inr (va_up (va_up (va_up (fun _ => none) (0 : Int32).toNatClampNeg (some r66)) (1 : Int32).toNatClampNeg (some r66_1)) (2 : Int32).toNatClampNeg (some r66_2))))))), (r66, .inr (3, [.int x71.1, .ref (g71 0), .int (0 : Int32)])), ((g71 0), .inl (0, 21, .inl x71.2)), (r66_1, .inr (3, [.int x71_1.1, .ref (g71_1 0), .int (0 : Int32)])), ((g71_1 0), .inl (0, 21, .inl x71_1.2)), (r66_2, .inr (3, [.int x71_2.1, .ref (g71_2 0), .int (0 : Int32)])), ((g71_2 0), .inl (0, 21, .inl x71_2.2)), (r83, .inl (3, 2, .inr (.inr (.inr (.inr (fun _ => none)))))), (r105, .inr (6, [.null]))]) gdX5_init_104.2.1 rfl nw_X5_25 (by omega) (by omega) (fun _ => rfl) (fun r105 => ?_)
  refine aw_dup (q := 109) gdX5_init_104.2.2.1 rfl rfl ?_
  refine aw_call (q := 112) (kc1 := 9) (ks1 := 94) (wc := [(r105, .inr (6, [.null]))]) (wr := [(x, .inr (7, [.ref r6, .ref r44, .ref r83, .null, .null, .null, .null])), (r6, .inl (1, 3, .inr (.inr (.inr (.inr (va_up (va_up (va_up (fun _ => none) (0 : Int32).toNatClampNeg (some r28)) (1 : Int32).toNatClampNeg (some r28_1)) (2 : Int32).toNatClampNeg (some r28_2))))))), (r28, .inr (4, [.ref (g32 0), .int (0 : Int32)])), ((g32 0), .inl (0, 2646, .inl x32)), (r28_1, .inr (4, [.ref (g32_1 0), .int (0 : Int32)])), ((g32_1 0), .inl (0, 2646, .inl x32_1)), (r28_2, .inr (4, [.ref (g32_2 0), .int (0 : Int32)])), ((g32_2 0), .inl (0, 2646, .inl x32_2)), (r44, .inl (2, 3, .inr (.inr (.inr (.inr (va_up (va_up (va_up (fun _ => none) (0 : Int32).toNatClampNeg (some r66)) (1 : Int32).toNatClampNeg (some r66_1)) (2 : Int32).toNatClampNeg (some r66_2))))))), (r66, .inr (3, [.int x71.1, .ref (g71 0), .int (0 : Int32)])), ((g71 0), .inl (0, 21, .inl x71.2)), (r66_1, .inr (3, [.int x71_1.1, .ref (g71_1 0), .int (0 : Int32)])), ((g71_1 0), .inl (0, 21, .inl x71_1.2)), (r66_2, .inr (3, [.int x71_2.1, .ref (g71_2 0), .int (0 : Int32)])), ((g71_2 0), .inl (0, 21, .inl x71_2.2)), (r83, .inl (3, 2, .inr (.inr (.inr (.inr (fun _ => none))))))]) (st1 := fun x109 g109 => [.ref r105, .int (0 : Int32), .ref r83]) (ws1 := fun x109 g109 => [(x, .inr (7, [.ref r6, .ref r44, .ref r83, .null, .null, .null, .null])), (r6, .inl (1, 3, .inr (.inr (.inr (.inr (va_up (va_up (va_up (fun _ => none) (0 : Int32).toNatClampNeg (some r28)) (1 : Int32).toNatClampNeg (some r28_1)) (2 : Int32).toNatClampNeg (some r28_2))))))), (r28, .inr (4, [.ref (g32 0), .int (0 : Int32)])), ((g32 0), .inl (0, 2646, .inl x32)), (r28_1, .inr (4, [.ref (g32_1 0), .int (0 : Int32)])), ((g32_1 0), .inl (0, 2646, .inl x32_1)), (r28_2, .inr (4, [.ref (g32_2 0), .int (0 : Int32)])), ((g32_2 0), .inl (0, 2646, .inl x32_2)), (r44, .inl (2, 3, .inr (.inr (.inr (.inr (va_up (va_up (va_up (fun _ => none) (0 : Int32).toNatClampNeg (some r66)) (1 : Int32).toNatClampNeg (some r66_1)) (2 : Int32).toNatClampNeg (some r66_2))))))), (r66, .inr (3, [.int x71.1, .ref (g71 0), .int (0 : Int32)])), ((g71 0), .inl (0, 21, .inl x71.2)), (r66_1, .inr (3, [.int x71_1.1, .ref (g71_1 0), .int (0 : Int32)])), ((g71_1 0), .inl (0, 21, .inl x71_1.2)), (r66_2, .inr (3, [.int x71_2.1, .ref (g71_2 0), .int (0 : Int32)])), ((g71_2 0), .inl (0, 21, .inl x71_2.2)), (r83, .inl (3, 2, .inr (.inr (.inr (.inr (fun _ => none)))))), (r105, .inr (6, [.ref (g109 0)])), ((g109 0), .inl (0, 21, .inl x109))]) (As := [.ref r105]) [16] [0, 1, 2, 3, 4, 5, 6, 7, 8, 9, 10, 11, 12, 13, 14, 15] (fun _ => runIN gdX5_init_104.2.2.2.1 mi_X4_init rfl im_X4_init mn_X5_31 (by omega) rfl (Nat.le_of_ble_eq_true rfl) rfl) (fun x9 h9 => ok_X4_init h9) rfl rfl rfl rfl rfl (by decide +kernel) (by omega) (by omega) (fun _ _ => rfl) (fun _ _ => rfl) (fun x109 g109 => ?_)
  refine aw_aast (q := 113) (qk := 16) (ws' := [(x, .inr (7, [.ref r6, .ref r44, .ref r83, .null, .null, .null, .null])), (r6, .inl (1, 3, .inr (.inr (.inr (.inr (va_up (va_up (va_up (fun _ => none) (0 : Int32).toNatClampNeg (some r28)) (1 : Int32).toNatClampNeg (some r28_1)) (2 : Int32).toNatClampNeg (some r28_2))))))), (r28, .inr (4, [.ref (g32 0), .int (0 : Int32)])), ((g32 0), .inl (0, 2646, .inl x32)), (r28_1, .inr (4, [.ref (g32_1 0), .int (0 : Int32)])), ((g32_1 0), .inl (0, 2646, .inl x32_1)), (r28_2, .inr (4, [.ref (g32_2 0), .int (0 : Int32)])), ((g32_2 0), .inl (0, 2646, .inl x32_2)), (r44, .inl (2, 3, .inr (.inr (.inr (.inr (va_up (va_up (va_up (fun _ => none) (0 : Int32).toNatClampNeg (some r66)) (1 : Int32).toNatClampNeg (some r66_1)) (2 : Int32).toNatClampNeg (some r66_2))))))), (r66, .inr (3, [.int x71.1, .ref (g71 0), .int (0 : Int32)])), ((g71 0), .inl (0, 21, .inl x71.2)), (r66_1, .inr (3, [.int x71_1.1, .ref (g71_1 0), .int (0 : Int32)])), ((g71_1 0), .inl (0, 21, .inl x71_1.2)), (r66_2, .inr (3, [.int x71_2.1, .ref (g71_2 0), .int (0 : Int32)])), ((g71_2 0), .inl (0, 21, .inl x71_2.2)), (r83, .inl (3, 2, .inr (.inr (.inr (.inr (va_up (fun _ => none) (0 : Int32).toNatClampNeg (some r105))))))), (r105, .inr (6, [.ref (g109 0)])), ((g109 0), .inl (0, 21, .inl x109))]) gdX5_init_104.2.2.2.2.1 rfl 15 rfl (by decide) rfl rfl rfl (by decide) rfl ?_
  refine aw_iinc (q := 116) (v := (1 : Int32)) (lv' := [(1, .int (1 : Int32)), (0, .ref x)]) gdX5_init_104.2.2.2.2.2.1 rfl 0 rfl (by decide) (by decide) rfl ?_
  refine aw_goto (tgt := 91) gdX5_init_104.2.2.2.2.2.2.1 (by decide) ?_
  refine aw_iload_n (q := 92) gdX5_init_90.2.1 rfl 0 rfl ?_
  refine aw_aload_n (q := 93) gdX5_init_90.2.2.1 rfl 1 rfl ?_
  refine aw_get (q := 96) gdX5_init_90.2.2.2.1 rfl fl_X5_27 0 rfl rfl ?_
  refine aw_alen (q := 97) (v := 2) gdX5_init_90.2.2.2.2.1 rfl 15 rfl (by decide) rfl ?_
  refine aw_icmp_geF (q := 100) (off := 22) (tgt := 119) gdX5_init_90.2.2.2.2.2.1 (by decide) rfl (by decide) ?_
  refine aw_aload_n (q := 101) gdX5_init_90.2.2.2.2.2.2.1 rfl 1 rfl ?_
  refine aw_get (q := 104) gdX5_init_90.2.2.2.2.2.2.2 rfl fl_X5_27 0 rfl rfl ?_
  refine aw_iload_n (q := 105) gdX5_init_104.1 rfl 0 rfl ?_
  refine aw_new (q := 108) (kc' := 8) (ks' := 93) (ws' := fun r105_1 => [(x, .inr (7, [.ref r6, .ref r44, .ref r83, .null, .null, .null, .null])), (r6, .inl (1, 3, .inr (.inr (.inr (.inr (va_up (va_up (va_up (fun _ => none) (0 : Int32).toNatClampNeg (some r28)) (1 : Int32).toNatClampNeg (some r28_1)) (2 : Int32).toNatClampNeg (some r28_2))))))), (r28, .inr (4, [.ref (g32 0), .int (0 : Int32)])), ((g32 0), .inl (0, 2646, .inl x32)), (r28_1, .inr (4, [.ref (g32_1 0), .int (0 : Int32)])), ((g32_1 0), .inl (0, 2646, .inl x32_1)), (r28_2, .inr (4, [.ref (g32_2 0), .int (0 : Int32)])), ((g32_2 0), .inl (0, 2646, .inl x32_2)), (r44, .inl (2, 3, .inr (.inr (.inr (.inr (va_up (va_up (va_up (fun _ => none) (0 : Int32).toNatClampNeg (some r66)) (1 : Int32).toNatClampNeg (some r66_1)) (2 : Int32).toNatClampNeg (some r66_2))))))), (r66, .inr (3, [.int x71.1, .ref (g71 0), .int (0 : Int32)])), ((g71 0), .inl (0, 21, .inl x71.2)), (r66_1, .inr (3, [.int x71_1.1, .ref (g71_1 0), .int (0 : Int32)])), ((g71_1 0), .inl (0, 21, .inl x71_1.2)), (r66_2, .inr (3, [.int x71_2.1, .ref (g71_2 0), .int (0 : Int32)])), ((g71_2 0), .inl (0, 21, .inl x71_2.2)), (r83, .inl (3, 2, .inr (.inr (.inr (.inr (va_up (fun _ => none) (0 : Int32).toNatClampNeg (some r105))))))), (r105, .inr (6, [.ref (g109 0)])), ((g109 0), .inl (0, 21, .inl x109)), (r105_1, .inr (6, [.null]))]) gdX5_init_104.2.1 rfl nw_X5_25 (by omega) (by omega) (fun _ => rfl) (fun r105_1 => ?_)
  refine aw_dup (q := 109) gdX5_init_104.2.2.1 rfl rfl ?_
  refine aw_call (q := 112) (kc1 := 7) (ks1 := 72) (wc := [(r105_1, .inr (6, [.null]))]) (wr := [(x, .inr (7, [.ref r6, .ref r44, .ref r83, .null, .null, .null, .null])), (r6, .inl (1, 3, .inr (.inr (.inr (.inr (va_up (va_up (va_up (fun _ => none) (0 : Int32).toNatClampNeg (some r28)) (1 : Int32).toNatClampNeg (some r28_1)) (2 : Int32).toNatClampNeg (some r28_2))))))), (r28, .inr (4, [.ref (g32 0), .int (0 : Int32)])), ((g32 0), .inl (0, 2646, .inl x32)), (r28_1, .inr (4, [.ref (g32_1 0), .int (0 : Int32)])), ((g32_1 0), .inl (0, 2646, .inl x32_1)), (r28_2, .inr (4, [.ref (g32_2 0), .int (0 : Int32)])), ((g32_2 0), .inl (0, 2646, .inl x32_2)), (r44, .inl (2, 3, .inr (.inr (.inr (.inr (va_up (va_up (va_up (fun _ => none) (0 : Int32).toNatClampNeg (some r66)) (1 : Int32).toNatClampNeg (some r66_1)) (2 : Int32).toNatClampNeg (some r66_2))))))), (r66, .inr (3, [.int x71.1, .ref (g71 0), .int (0 : Int32)])), ((g71 0), .inl (0, 21, .inl x71.2)), (r66_1, .inr (3, [.int x71_1.1, .ref (g71_1 0), .int (0 : Int32)])), ((g71_1 0), .inl (0, 21, .inl x71_1.2)), (r66_2, .inr (3, [.int x71_2.1, .ref (g71_2 0), .int (0 : Int32)])), ((g71_2 0), .inl (0, 21, .inl x71_2.2)), (r83, .inl (3, 2, .inr (.inr (.inr (.inr (va_up (fun _ => none) (0 : Int32).toNatClampNeg (some r105))))))), (r105, .inr (6, [.ref (g109 0)])), ((g109 0), .inl (0, 21, .inl x109))]) (st1 := fun x109_1 g109_1 => [.ref r105_1, .int (1 : Int32), .ref r83]) (ws1 := fun x109_1 g109_1 => [(x, .inr (7, [.ref r6, .ref r44, .ref r83, .null, .null, .null, .null])), (r6, .inl (1, 3, .inr (.inr (.inr (.inr (va_up (va_up (va_up (fun _ => none) (0 : Int32).toNatClampNeg (some r28)) (1 : Int32).toNatClampNeg (some r28_1)) (2 : Int32).toNatClampNeg (some r28_2))))))), (r28, .inr (4, [.ref (g32 0), .int (0 : Int32)])), ((g32 0), .inl (0, 2646, .inl x32)), (r28_1, .inr (4, [.ref (g32_1 0), .int (0 : Int32)])), ((g32_1 0), .inl (0, 2646, .inl x32_1)), (r28_2, .inr (4, [.ref (g32_2 0), .int (0 : Int32)])), ((g32_2 0), .inl (0, 2646, .inl x32_2)), (r44, .inl (2, 3, .inr (.inr (.inr (.inr (va_up (va_up (va_up (fun _ => none) (0 : Int32).toNatClampNeg (some r66)) (1 : Int32).toNatClampNeg (some r66_1)) (2 : Int32).toNatClampNeg (some r66_2))))))), (r66, .inr (3, [.int x71.1, .ref (g71 0), .int (0 : Int32)])), ((g71 0), .inl (0, 21, .inl x71.2)), (r66_1, .inr (3, [.int x71_1.1, .ref (g71_1 0), .int (0 : Int32)])), ((g71_1 0), .inl (0, 21, .inl x71_1.2)), (r66_2, .inr (3, [.int x71_2.1, .ref (g71_2 0), .int (0 : Int32)])), ((g71_2 0), .inl (0, 21, .inl x71_2.2)), (r83, .inl (3, 2, .inr (.inr (.inr (.inr (va_up (fun _ => none) (0 : Int32).toNatClampNeg (some r105))))))), (r105, .inr (6, [.ref (g109 0)])), ((g109 0), .inl (0, 21, .inl x109)), (r105_1, .inr (6, [.ref (g109_1 0)])), ((g109_1 0), .inl (0, 21, .inl x109_1))]) (As := [.ref r105_1]) [18] [0, 1, 2, 3, 4, 5, 6, 7, 8, 9, 10, 11, 12, 13, 14, 15, 16, 17] (fun _ => runIN gdX5_init_104.2.2.2.1 mi_X4_init rfl im_X4_init mn_X5_31 (by omega) rfl (Nat.le_of_ble_eq_true rfl) rfl) (fun x9 h9 => ok_X4_init h9) rfl rfl rfl rfl rfl (by decide +kernel) (by omega) (by omega) (fun _ _ => rfl) (fun _ _ => rfl) (fun x109_1 g109_1 => ?_)
  refine aw_aast (q := 113) (qk := 18) (ws' := [(x, .inr (7, [.ref r6, .ref r44, .ref r83, .null, .null, .null, .null])), (r6, .inl (1, 3, .inr (.inr (.inr (.inr (va_up (va_up (va_up (fun _ => none) (0 : Int32).toNatClampNeg (some r28)) (1 : Int32).toNatClampNeg (some r28_1)) (2 : Int32).toNatClampNeg (some r28_2))))))), (r28, .inr (4, [.ref (g32 0), .int (0 : Int32)])), ((g32 0), .inl (0, 2646, .inl x32)), (r28_1, .inr (4, [.ref (g32_1 0), .int (0 : Int32)])), ((g32_1 0), .inl (0, 2646, .inl x32_1)), (r28_2, .inr (4, [.ref (g32_2 0), .int (0 : Int32)])), ((g32_2 0), .inl (0, 2646, .inl x32_2)), (r44, .inl (2, 3, .inr (.inr (.inr (.inr (va_up (va_up (va_up (fun _ => none) (0 : Int32).toNatClampNeg (some r66)) (1 : Int32).toNatClampNeg (some r66_1)) (2 : Int32).toNatClampNeg (some r66_2))))))), (r66, .inr (3, [.int x71.1, .ref (g71 0), .int (0 : Int32)])), ((g71 0), .inl (0, 21, .inl x71.2)), (r66_1, .inr (3, [.int x71_1.1, .ref (g71_1 0), .int (0 : Int32)])), ((g71_1 0), .inl (0, 21, .inl x71_1.2)), (r66_2, .inr (3, [.int x71_2.1, .ref (g71_2 0), .int (0 : Int32)])), ((g71_2 0), .inl (0, 21, .inl x71_2.2)), (r83, .inl (3, 2, .inr (.inr (.inr (.inr (va_up (va_up (fun _ => none) (0 : Int32).toNatClampNeg (some r105)) (1 : Int32).toNatClampNeg (some r105_1))))))), (r105, .inr (6, [.ref (g109 0)])), ((g109 0), .inl (0, 21, .inl x109)), (r105_1, .inr (6, [.ref (g109_1 0)])), ((g109_1 0), .inl (0, 21, .inl x109_1))]) gdX5_init_104.2.2.2.2.1 rfl 15 rfl (by decide) rfl rfl rfl (by decide) rfl ?_
  refine aw_iinc (q := 116) (v := (2 : Int32)) (lv' := [(1, .int (2 : Int32)), (0, .ref x)]) gdX5_init_104.2.2.2.2.2.1 rfl 0 rfl (by decide) (by decide) rfl ?_
  refine aw_goto (tgt := 91) gdX5_init_104.2.2.2.2.2.2.1 (by decide) ?_
  refine aw_iload_n (q := 92) gdX5_init_90.2.1 rfl 0 rfl ?_
  refine aw_aload_n (q := 93) gdX5_init_90.2.2.1 rfl 1 rfl ?_
  refine aw_get (q := 96) gdX5_init_90.2.2.2.1 rfl fl_X5_27 0 rfl rfl ?_
  refine aw_alen (q := 97) (v := 2) gdX5_init_90.2.2.2.2.1 rfl 15 rfl (by decide) rfl ?_
  refine aw_icmp_geT (tgt := 119) gdX5_init_90.2.2.2.2.2.1 (by decide) (by decide) ?_
  refine aw_aload_n (q := 120) gdX5_init_104.2.2.2.2.2.2.2 rfl 1 rfl ?_
  refine aw_new (q := 123) (kc' := 6) (ks' := 66) (ws' := fun r120 => [(x, .inr (7, [.ref r6, .ref r44, .ref r83, .null, .null, .null, .null])), (r6, .inl (1, 3, .inr (.inr (.inr (.inr (va_up (va_up (va_up (fun _ => none) (0 : Int32).toNatClampNeg (some r28)) (1 : Int32).toNatClampNeg (some r28_1)) (2 : Int32).toNatClampNeg (some r28_2))))))), (r28, .inr (4, [.ref (g32 0), .int (0 : Int32)])), ((g32 0), .inl (0, 2646, .inl x32)), (r28_1, .inr (4, [.ref (g32_1 0), .int (0 : Int32)])), ((g32_1 0), .inl (0, 2646, .inl x32_1)), (r28_2, .inr (4, [.ref (g32_2 0), .int (0 : Int32)])), ((g32_2 0), .inl (0, 2646, .inl x32_2)), (r44, .inl (2, 3, .inr (.inr (.inr (.inr (va_up (va_up (va_up (fun _ => none) (0 : Int32).toNatClampNeg (some r66)) (1 : Int32).toNatClampNeg (some r66_1)) (2 : Int32).toNatClampNeg (some r66_2))))))), (r66, .inr (3, [.int x71.1, .ref (g71 0), .int (0 : Int32)])), ((g71 0), .inl (0, 21, .inl x71.2)), (r66_1, .inr (3, [.int x71_1.1, .ref (g71_1 0), .int (0 : Int32)])), ((g71_1 0), .inl (0, 21, .inl x71_1.2)), (r66_2, .inr (3, [.int x71_2.1, .ref (g71_2 0), .int (0 : Int32)])), ((g71_2 0), .inl (0, 21, .inl x71_2.2)), (r83, .inl (3, 2, .inr (.inr (.inr (.inr (va_up (va_up (fun _ => none) (0 : Int32).toNatClampNeg (some r105)) (1 : Int32).toNatClampNeg (some r105_1))))))), (r105, .inr (6, [.ref (g109 0)])), ((g109 0), .inl (0, 21, .inl x109)), (r105_1, .inr (6, [.ref (g109_1 0)])), ((g109_1 0), .inl (0, 21, .inl x109_1)), (r120, .inr (2, [.int (0 : Int32), .int (0 : Int32), .int (0 : Int32), .int (0 : Int32), .int (0 : Int32), .int (0 : Int32)]))]) gdX5_init_120.1 rfl nw_X5_32 (by omega) (by omega) (fun _ => rfl) (fun r120 => ?_)
  refine aw_dup (q := 124) gdX5_init_120.2.1 rfl rfl ?_
  refine aw_call (q := 127) (kc1 := 6) (ks1 := 66) (wc := [(r120, .inr (2, [.int (0 : Int32), .int (0 : Int32), .int (0 : Int32), .int (0 : Int32), .int (0 : Int32), .int (0 : Int32)]))]) (wr := [(x, .inr (7, [.ref r6, .ref r44, .ref r83, .null, .null, .null, .null])), (r6, .inl (1, 3, .inr (.inr (.inr (.inr (va_up (va_up (va_up (fun _ => none) (0 : Int32).toNatClampNeg (some r28)) (1 : Int32).toNatClampNeg (some r28_1)) (2 : Int32).toNatClampNeg (some r28_2))))))), (r28, .inr (4, [.ref (g32 0), .int (0 : Int32)])), ((g32 0), .inl (0, 2646, .inl x32)), (r28_1, .inr (4, [.ref (g32_1 0), .int (0 : Int32)])), ((g32_1 0), .inl (0, 2646, .inl x32_1)), (r28_2, .inr (4, [.ref (g32_2 0), .int (0 : Int32)])), ((g32_2 0), .inl (0, 2646, .inl x32_2)), (r44, .inl (2, 3, .inr (.inr (.inr (.inr (va_up (va_up (va_up (fun _ => none) (0 : Int32).toNatClampNeg (some r66)) (1 : Int32).toNatClampNeg (some r66_1)) (2 : Int32).toNatClampNeg (some r66_2))))))), (r66, .inr (3, [.int x71.1, .ref (g71 0), .int (0 : Int32)])), ((g71 0), .inl (0, 21, .inl x71.2)), (r66_1, .inr (3, [.int x71_1.1, .ref (g71_1 0), .int (0 : Int32)])), ((g71_1 0), .inl (0, 21, .inl x71_1.2)), (r66_2, .inr (3, [.int x71_2.1, .ref (g71_2 0), .int (0 : Int32)])), ((g71_2 0), .inl (0, 21, .inl x71_2.2)), (r83, .inl (3, 2, .inr (.inr (.inr (.inr (va_up (va_up (fun _ => none) (0 : Int32).toNatClampNeg (some r105)) (1 : Int32).toNatClampNeg (some r105_1))))))), (r105, .inr (6, [.ref (g109 0)])), ((g109 0), .inl (0, 21, .inl x109)), (r105_1, .inr (6, [.ref (g109_1 0)])), ((g109_1 0), .inl (0, 21, .inl x109_1))]) (st1 := fun x124 g124 => [.ref r120, .ref x]) (ws1 := fun x124 g124 => [(x, .inr (7, [.ref r6, .ref r44, .ref r83, .null, .null, .null, .null])), (r6, .inl (1, 3, .inr (.inr (.inr (.inr (va_up (va_up (va_up (fun _ => none) (0 : Int32).toNatClampNeg (some r28)) (1 : Int32).toNatClampNeg (some r28_1)) (2 : Int32).toNatClampNeg (some r28_2))))))), (r28, .inr (4, [.ref (g32 0), .int (0 : Int32)])), ((g32 0), .inl (0, 2646, .inl x32)), (r28_1, .inr (4, [.ref (g32_1 0), .int (0 : Int32)])), ((g32_1 0), .inl (0, 2646, .inl x32_1)), (r28_2, .inr (4, [.ref (g32_2 0), .int (0 : Int32)])), ((g32_2 0), .inl (0, 2646, .inl x32_2)), (r44, .inl (2, 3, .inr (.inr (.inr (.inr (va_up (va_up (va_up (fun _ => none) (0 : Int32).toNatClampNeg (some r66)) (1 : Int32).toNatClampNeg (some r66_1)) (2 : Int32).toNatClampNeg (some r66_2))))))), (r66, .inr (3, [.int x71.1, .ref (g71 0), .int (0 : Int32)])), ((g71 0), .inl (0, 21, .inl x71.2)), (r66_1, .inr (3, [.int x71_1.1, .ref (g71_1 0), .int (0 : Int32)])), ((g71_1 0), .inl (0, 21, .inl x71_1.2)), (r66_2, .inr (3, [.int x71_2.1, .ref (g71_2 0), .int (0 : Int32)])), ((g71_2 0), .inl (0, 21, .inl x71_2.2)), (r83, .inl (3, 2, .inr (.inr (.inr (.inr (va_up (va_up (fun _ => none) (0 : Int32).toNatClampNeg (some r105)) (1 : Int32).toNatClampNeg (some r105_1))))))), (r105, .inr (6, [.ref (g109 0)])), ((g109 0), .inl (0, 21, .inl x109)), (r105_1, .inr (6, [.ref (g109_1 0)])), ((g109_1 0), .inl (0, 21, .inl x109_1)), (r120, .inr (2, [.int (0 : Int32), .int (0 : Int32), .int (0 : Int32), .int (0 : Int32), .int (0 : Int32), .int (0 : Int32)]))]) (As := [.ref r120]) [20] [0, 1, 2, 3, 4, 5, 6, 7, 8, 9, 10, 11, 12, 13, 14, 15, 16, 17, 18, 19] (fun _ => runIN gdX5_init_120.2.2.1 mi_X0_init rfl im_X0_init mn_X5_34 (by omega) rfl (Nat.le_of_ble_eq_true rfl) rfl) (fun x9 h9 => ok_X0_init h9) rfl rfl rfl rfl rfl (by decide +kernel) (by omega) (by omega) (fun _ _ => rfl) (fun _ _ => rfl) (fun x124 g124 => ?_)
  refine aw_putF (q := 130) (ws' := [(x, .inr (7, [.ref r6, .ref r44, .ref r83, .ref r120, .null, .null, .null])), (r6, .inl (1, 3, .inr (.inr (.inr (.inr (va_up (va_up (va_up (fun _ => none) (0 : Int32).toNatClampNeg (some r28)) (1 : Int32).toNatClampNeg (some r28_1)) (2 : Int32).toNatClampNeg (some r28_2))))))), (r28, .inr (4, [.ref (g32 0), .int (0 : Int32)])), ((g32 0), .inl (0, 2646, .inl x32)), (r28_1, .inr (4, [.ref (g32_1 0), .int (0 : Int32)])), ((g32_1 0), .inl (0, 2646, .inl x32_1)), (r28_2, .inr (4, [.ref (g32_2 0), .int (0 : Int32)])), ((g32_2 0), .inl (0, 2646, .inl x32_2)), (r44, .inl (2, 3, .inr (.inr (.inr (.inr (va_up (va_up (va_up (fun _ => none) (0 : Int32).toNatClampNeg (some r66)) (1 : Int32).toNatClampNeg (some r66_1)) (2 : Int32).toNatClampNeg (some r66_2))))))), (r66, .inr (3, [.int x71.1, .ref (g71 0), .int (0 : Int32)])), ((g71 0), .inl (0, 21, .inl x71.2)), (r66_1, .inr (3, [.int x71_1.1, .ref (g71_1 0), .int (0 : Int32)])), ((g71_1 0), .inl (0, 21, .inl x71_1.2)), (r66_2, .inr (3, [.int x71_2.1, .ref (g71_2 0), .int (0 : Int32)])), ((g71_2 0), .inl (0, 21, .inl x71_2.2)), (r83, .inl (3, 2, .inr (.inr (.inr (.inr (va_up (va_up (fun _ => none) (0 : Int32).toNatClampNeg (some r105)) (1 : Int32).toNatClampNeg (some r105_1))))))), (r105, .inr (6, [.ref (g109 0)])), ((g109 0), .inl (0, 21, .inl x109)), (r105_1, .inr (6, [.ref (g109_1 0)])), ((g109_1 0), .inl (0, 21, .inl x109_1)), (r120, .inr (2, [.int (0 : Int32), .int (0 : Int32), .int (0 : Int32), .int (0 : Int32), .int (0 : Int32), .int (0 : Int32)]))]) gdX5_init_120.2.2.2.1 rfl fl_X5_35 (fun _ _ _ h9 => by cases h9; rfl) rfl 0 rfl rfl rfl (Nat.le_of_ble_eq_true rfl) rfl ?_
  refine aw_aload_n (q := 131) gdX5_init_120.2.2.2.2.1 rfl 1 rfl ?_
  refine aw_new (q := 134) (kc' := 5) (ks' := 65) (ws' := fun r131 => [(x, .inr (7, [.ref r6, .ref r44, .ref r83, .ref r120, .null, .null, .null])), (r6, .inl (1, 3, .inr (.inr (.inr (.inr (va_up (va_up (va_up (fun _ => none) (0 : Int32).toNatClampNeg (some r28)) (1 : Int32).toNatClampNeg (some r28_1)) (2 : Int32).toNatClampNeg (some r28_2))))))), (r28, .inr (4, [.ref (g32 0), .int (0 : Int32)])), ((g32 0), .inl (0, 2646, .inl x32)), (r28_1, .inr (4, [.ref (g32_1 0), .int (0 : Int32)])), ((g32_1 0), .inl (0, 2646, .inl x32_1)), (r28_2, .inr (4, [.ref (g32_2 0), .int (0 : Int32)])), ((g32_2 0), .inl (0, 2646, .inl x32_2)), (r44, .inl (2, 3, .inr (.inr (.inr (.inr (va_up (va_up (va_up (fun _ => none) (0 : Int32).toNatClampNeg (some r66)) (1 : Int32).toNatClampNeg (some r66_1)) (2 : Int32).toNatClampNeg (some r66_2))))))), (r66, .inr (3, [.int x71.1, .ref (g71 0), .int (0 : Int32)])), ((g71 0), .inl (0, 21, .inl x71.2)), (r66_1, .inr (3, [.int x71_1.1, .ref (g71_1 0), .int (0 : Int32)])), ((g71_1 0), .inl (0, 21, .inl x71_1.2)), (r66_2, .inr (3, [.int x71_2.1, .ref (g71_2 0), .int (0 : Int32)])), ((g71_2 0), .inl (0, 21, .inl x71_2.2)), (r83, .inl (3, 2, .inr (.inr (.inr (.inr (va_up (va_up (fun _ => none) (0 : Int32).toNatClampNeg (some r105)) (1 : Int32).toNatClampNeg (some r105_1))))))), (r105, .inr (6, [.ref (g109 0)])), ((g109 0), .inl (0, 21, .inl x109)), (r105_1, .inr (6, [.ref (g109_1 0)])), ((g109_1 0), .inl (0, 21, .inl x109_1)), (r120, .inr (2, [.int (0 : Int32), .int (0 : Int32), .int (0 : Int32), .int (0 : Int32), .int (0 : Int32), .int (0 : Int32)])), (r131, .inr (5, [.null]))]) gdX5_init_120.2.2.2.2.2.1 rfl nw_X5_39 (by omega) (by omega) (fun _ => rfl) (fun r131 => ?_)
  refine aw_dup (q := 135) gdX5_init_120.2.2.2.2.2.2.1 rfl rfl ?_
  refine aw_call (q := 138) (kc1 := 4) (ks1 := 44) (wc := [(r131, .inr (5, [.null]))]) (wr := [(x, .inr (7, [.ref r6, .ref r44, .ref r83, .ref r120, .null, .null, .null])), (r6, .inl (1, 3, .inr (.inr (.inr (.inr (va_up (va_up (va_up (fun _ => none) (0 : Int32).toNatClampNeg (some r28)) (1 : Int32).toNatClampNeg (some r28_1)) (2 : Int32).toNatClampNeg (some r28_2))))))), (r28, .inr (4, [.ref (g32 0), .int (0 : Int32)])), ((g32 0), .inl (0, 2646, .inl x32)), (r28_1, .inr (4, [.ref (g32_1 0), .int (0 : Int32)])), ((g32_1 0), .inl (0, 2646, .inl x32_1)), (r28_2, .inr (4, [.ref (g32_2 0), .int (0 : Int32)])), ((g32_2 0), .inl (0, 2646, .inl x32_2)), (r44, .inl (2, 3, .inr (.inr (.inr (.inr (va_up (va_up (va_up (fun _ => none) (0 : Int32).toNatClampNeg (some r66)) (1 : Int32).toNatClampNeg (some r66_1)) (2 : Int32).toNatClampNeg (some r66_2))))))), (r66, .inr (3, [.int x71.1, .ref (g71 0), .int (0 : Int32)])), ((g71 0), .inl (0, 21, .inl x71.2)), (r66_1, .inr (3, [.int x71_1.1, .ref (g71_1 0), .int (0 : Int32)])), ((g71_1 0), .inl (0, 21, .inl x71_1.2)), (r66_2, .inr (3, [.int x71_2.1, .ref (g71_2 0), .int (0 : Int32)])), ((g71_2 0), .inl (0, 21, .inl x71_2.2)), (r83, .inl (3, 2, .inr (.inr (.inr (.inr (va_up (va_up (fun _ => none) (0 : Int32).toNatClampNeg (some r105)) (1 : Int32).toNatClampNeg (some r105_1))))))), (r105, .inr (6, [.ref (g109 0)])), ((g109 0), .inl (0, 21, .inl x109)), (r105_1, .inr (6, [.ref (g109_1 0)])), ((g109_1 0), .inl (0, 21, .inl x109_1)), (r120, .inr (2, [.int (0 : Int32), .int (0 : Int32), .int (0 : Int32), .int (0 : Int32), .int (0 : Int32), .int (0 : Int32)]))]) (st1 := fun x135 g135 => [.ref r131, .ref x]) (ws1 := fun x135 g135 => [(x, .inr (7, [.ref r6, .ref r44, .ref r83, .ref r120, .null, .null, .null])), (r6, .inl (1, 3, .inr (.inr (.inr (.inr (va_up (va_up (va_up (fun _ => none) (0 : Int32).toNatClampNeg (some r28)) (1 : Int32).toNatClampNeg (some r28_1)) (2 : Int32).toNatClampNeg (some r28_2))))))), (r28, .inr (4, [.ref (g32 0), .int (0 : Int32)])), ((g32 0), .inl (0, 2646, .inl x32)), (r28_1, .inr (4, [.ref (g32_1 0), .int (0 : Int32)])), ((g32_1 0), .inl (0, 2646, .inl x32_1)), (r28_2, .inr (4, [.ref (g32_2 0), .int (0 : Int32)])), ((g32_2 0), .inl (0, 2646, .inl x32_2)), (r44, .inl (2, 3, .inr (.inr (.inr (.inr (va_up (va_up (va_up (fun _ => none) (0 : Int32).toNatClampNeg (some r66)) (1 : Int32).toNatClampNeg (some r66_1)) (2 : Int32).toNatClampNeg (some r66_2))))))), (r66, .inr (3, [.int x71.1, .ref (g71 0), .int (0 : Int32)])), ((g71 0), .inl (0, 21, .inl x71.2)), (r66_1, .inr (3, [.int x71_1.1, .ref (g71_1 0), .int (0 : Int32)])), ((g71_1 0), .inl (0, 21, .inl x71_1.2)), (r66_2, .inr (3, [.int x71_2.1, .ref (g71_2 0), .int (0 : Int32)])), ((g71_2 0), .inl (0, 21, .inl x71_2.2)), (r83, .inl (3, 2, .inr (.inr (.inr (.inr (va_up (va_up (fun _ => none) (0 : Int32).toNatClampNeg (some r105)) (1 : Int32).toNatClampNeg (some r105_1))))))), (r105, .inr (6, [.ref (g109 0)])), ((g109 0), .inl (0, 21, .inl x109)), (r105_1, .inr (6, [.ref (g109_1 0)])), ((g109_1 0), .inl (0, 21, .inl x109_1)), (r120, .inr (2, [.int (0 : Int32), .int (0 : Int32), .int (0 : Int32), .int (0 : Int32), .int (0 : Int32), .int (0 : Int32)])), (r131, .inr (5, [.ref (g135 0)])), ((g135 0), .inl (0, 21, .inl x135))]) (As := [.ref r131]) [21] [0, 1, 2, 3, 4, 5, 6, 7, 8, 9, 10, 11, 12, 13, 14, 15, 16, 17, 18, 19, 20] (fun _ => runIN gdX5_init_120.2.2.2.2.2.2.2 mi_X3_init rfl im_X3_init mn_X5_41 (by omega) rfl (Nat.le_of_ble_eq_true rfl) rfl) (fun x9 h9 => ok_X3_init h9) rfl rfl rfl rfl rfl (by decide +kernel) (by omega) (by omega) (fun _ _ => rfl) (fun _ _ => rfl) (fun x135 g135 => ?_)
  refine aw_putF (q := 141) (ws' := [(x, .inr (7, [.ref r6, .ref r44, .ref r83, .ref r120, .ref r131, .null, .null])), (r6, .inl (1, 3, .inr (.inr (.inr (.inr (va_up (va_up (va_up (fun _ => none) (0 : Int32).toNatClampNeg (some r28)) (1 : Int32).toNatClampNeg (some r28_1)) (2 : Int32).toNatClampNeg (some r28_2))))))), (r28, .inr (4, [.ref (g32 0), .int (0 : Int32)])), ((g32 0), .inl (0, 2646, .inl x32)), (r28_1, .inr (4, [.ref (g32_1 0), .int (0 : Int32)])), ((g32_1 0), .inl (0, 2646, .inl x32_1)), (r28_2, .inr (4, [.ref (g32_2 0), .int (0 : Int32)])), ((g32_2 0), .inl (0, 2646, .inl x32_2)), (r44, .inl (2, 3, .inr (.inr (.inr (.inr (va_up (va_up (va_up (fun _ => none) (0 : Int32).toNatClampNeg (some r66)) (1 : Int32).toNatClampNeg (some r66_1)) (2 : Int32).toNatClampNeg (some r66_2))))))), (r66, .inr (3, [.int x71.1, .ref (g71 0), .int (0 : Int32)])), ((g71 0), .inl (0, 21, .inl x71.2)), (r66_1, .inr (3, [.int x71_1.1, .ref (g71_1 0), .int (0 : Int32)])), ((g71_1 0), .inl (0, 21, .inl x71_1.2)), (r66_2, .inr (3, [.int x71_2.1, .ref (g71_2 0), .int (0 : Int32)])), ((g71_2 0), .inl (0, 21, .inl x71_2.2)), (r83, .inl (3, 2, .inr (.inr (.inr (.inr (va_up (va_up (fun _ => none) (0 : Int32).toNatClampNeg (some r105)) (1 : Int32).toNatClampNeg (some r105_1))))))), (r105, .inr (6, [.ref (g109 0)])), ((g109 0), .inl (0, 21, .inl x109)), (r105_1, .inr (6, [.ref (g109_1 0)])), ((g109_1 0), .inl (0, 21, .inl x109_1)), (r120, .inr (2, [.int (0 : Int32), .int (0 : Int32), .int (0 : Int32), .int (0 : Int32), .int (0 : Int32), .int (0 : Int32)])), (r131, .inr (5, [.ref (g135 0)])), ((g135 0), .inl (0, 21, .inl x135))]) gdX5_init_138.1 rfl fl_X5_42 (fun _ _ _ h9 => by cases h9; rfl) rfl 0 rfl rfl rfl (Nat.le_of_ble_eq_true rfl) rfl ?_
  refine aw_aload_n (q := 142) gdX5_init_138.2.1 rfl 1 rfl ?_
  refine aw_new (q := 145) (kc' := 3) (ks' := 43) (ws' := fun r142 => [(x, .inr (7, [.ref r6, .ref r44, .ref r83, .ref r120, .ref r131, .null, .null])), (r6, .inl (1, 3, .inr (.inr (.inr (.inr (va_up (va_up (va_up (fun _ => none) (0 : Int32).toNatClampNeg (some r28)) (1 : Int32).toNatClampNeg (some r28_1)) (2 : Int32).toNatClampNeg (some r28_2))))))), (r28, .inr (4, [.ref (g32 0), .int (0 : Int32)])), ((g32 0), .inl (0, 2646, .inl x32)), (r28_1, .inr (4, [.ref (g32_1 0), .int (0 : Int32)])), ((g32_1 0), .inl (0, 2646, .inl x32_1)), (r28_2, .inr (4, [.ref (g32_2 0), .int (0 : Int32)])), ((g32_2 0), .inl (0, 2646, .inl x32_2)), (r44, .inl (2, 3, .inr (.inr (.inr (.inr (va_up (va_up (va_up (fun _ => none) (0 : Int32).toNatClampNeg (some r66)) (1 : Int32).toNatClampNeg (some r66_1)) (2 : Int32).toNatClampNeg (some r66_2))))))), (r66, .inr (3, [.int x71.1, .ref (g71 0), .int (0 : Int32)])), ((g71 0), .inl (0, 21, .inl x71.2)), (r66_1, .inr (3, [.int x71_1.1, .ref (g71_1 0), .int (0 : Int32)])), ((g71_1 0), .inl (0, 21, .inl x71_1.2)), (r66_2, .inr (3, [.int x71_2.1, .ref (g71_2 0), .int (0 : Int32)])), ((g71_2 0), .inl (0, 21, .inl x71_2.2)), (r83, .inl (3, 2, .inr (.inr (.inr (.inr (va_up (va_up (fun _ => none) (0 : Int32).toNatClampNeg (some r105)) (1 : Int32).toNatClampNeg (some r105_1))))))), (r105, .inr (6, [.ref (g109 0)])), ((g109 0), .inl (0, 21, .inl x109)), (r105_1, .inr (6, [.ref (g109_1 0)])), ((g109_1 0), .inl (0, 21, .inl x109_1)), (r120, .inr (2, [.int (0 : Int32), .int (0 : Int32), .int (0 : Int32), .int (0 : Int32), .int (0 : Int32), .int (0 : Int32)])), (r131, .inr (5, [.ref (g135 0)])), ((g135 0), .inl (0, 21, .inl x135)), (r142, .inr (6, [.null]))]) gdX5_init_138.2.2.1 rfl nw_X5_25 (by omega) (by omega) (fun _ => rfl) (fun r142 => ?_)
  refine aw_dup (q := 146) gdX5_init_138.2.2.2.1 rfl rfl ?_
  refine aw_call (q := 149) (kc1 := 2) (ks1 := 22) (wc := [(r142, .inr (6, [.null]))]) (wr := [(x, .inr (7, [.ref r6, .ref r44, .ref r83, .ref r120, .ref r131, .null, .null])), (r6, .inl (1, 3, .inr (.inr (.inr (.inr (va_up (va_up (va_up (fun _ => none) (0 : Int32).toNatClampNeg (some r28)) (1 : Int32).toNatClampNeg (some r28_1)) (2 : Int32).toNatClampNeg (some r28_2))))))), (r28, .inr (4, [.ref (g32 0), .int (0 : Int32)])), ((g32 0), .inl (0, 2646, .inl x32)), (r28_1, .inr (4, [.ref (g32_1 0), .int (0 : Int32)])), ((g32_1 0), .inl (0, 2646, .inl x32_1)), (r28_2, .inr (4, [.ref (g32_2 0), .int (0 : Int32)])), ((g32_2 0), .inl (0, 2646, .inl x32_2)), (r44, .inl (2, 3, .inr (.inr (.inr (.inr (va_up (va_up (va_up (fun _ => none) (0 : Int32).toNatClampNeg (some r66)) (1 : Int32).toNatClampNeg (some r66_1)) (2 : Int32).toNatClampNeg (some r66_2))))))), (r66, .inr (3, [.int x71.1, .ref (g71 0), .int (0 : Int32)])), ((g71 0), .inl (0, 21, .inl x71.2)), (r66_1, .inr (3, [.int x71_1.1, .ref (g71_1 0), .int (0 : Int32)])), ((g71_1 0), .inl (0, 21, .inl x71_1.2)), (r66_2, .inr (3, [.int x71_2.1, .ref (g71_2 0), .int (0 : Int32)])), ((g71_2 0), .inl (0, 21, .inl x71_2.2)), (r83, .inl (3, 2, .inr (.inr (.inr (.inr (va_up (va_up (fun _ => none) (0 : Int32).toNatClampNeg (some r105)) (1 : Int32).toNatClampNeg (some r105_1))))))), (r105, .inr (6, [.ref (g109 0)])), ((g109 0), .inl (0, 21, .inl x109)), (r105_1, .inr (6, [.ref (g109_1 0)])), ((g109_1 0), .inl (0, 21, .inl x109_1)), (r120, .inr (2, [.int (0 : Int32), .int (0 : Int32), .int (0 : Int32), .int (0 : Int32), .int (0 : Int32), .int (0 : Int32)])), (r131, .inr (5, [.ref (g135 0)])), ((g135 0), .inl (0, 21, .inl x135))]) (st1 := fun x146 g146 => [.ref r142, .ref x]) (ws1 := fun x146 g146 => [(x, .inr (7, [.ref r6, .ref r44, .ref r83, .ref r120, .ref r131, .null, .null])), (r6, .inl (1, 3, .inr (.inr (.inr (.inr (va_up (va_up (va_up (fun _ => none) (0 : Int32).toNatClampNeg (some r28)) (1 : Int32).toNatClampNeg (some r28_1)) (2 : Int32).toNatClampNeg (some r28_2))))))), (r28, .inr (4, [.ref (g32 0), .int (0 : Int32)])), ((g32 0), .inl (0, 2646, .inl x32)), (r28_1, .inr (4, [.ref (g32_1 0), .int (0 : Int32)])), ((g32_1 0), .inl (0, 2646, .inl x32_1)), (r28_2, .inr (4, [.ref (g32_2 0), .int (0 : Int32)])), ((g32_2 0), .inl (0, 2646, .inl x32_2)), (r44, .inl (2, 3, .inr (.inr (.inr (.inr (va_up (va_up (va_up (fun _ => none) (0 : Int32).toNatClampNeg (some r66)) (1 : Int32).toNatClampNeg (some r66_1)) (2 : Int32).toNatClampNeg (some r66_2))))))), (r66, .inr (3, [.int x71.1, .ref (g71 0), .int (0 : Int32)])), ((g71 0), .inl (0, 21, .inl x71.2)), (r66_1, .inr (3, [.int x71_1.1, .ref (g71_1 0), .int (0 : Int32)])), ((g71_1 0), .inl (0, 21, .inl x71_1.2)), (r66_2, .inr (3, [.int x71_2.1, .ref (g71_2 0), .int (0 : Int32)])), ((g71_2 0), .inl (0, 21, .inl x71_2.2)), (r83, .inl (3, 2, .inr (.inr (.inr (.inr (va_up (va_up (fun _ => none) (0 : Int32).toNatClampNeg (some r105)) (1 : Int32).toNatClampNeg (some r105_1))))))), (r105, .inr (6, [.ref (g109 0)])), ((g109 0), .inl (0, 21, .inl x109)), (r105_1, .inr (6, [.ref (g109_1 0)])), ((g109_1 0), .inl (0, 21, .inl x109_1)), (r120, .inr (2, [.int (0 : Int32), .int (0 : Int32), .int (0 : Int32), .int (0 : Int32), .int (0 : Int32), .int (0 : Int32)])), (r131, .inr (5, [.ref (g135 0)])), ((g135 0), .inl (0, 21, .inl x135)), (r142, .inr (6, [.ref (g146 0)])), ((g146 0), .inl (0, 21, .inl x146))]) (As := [.ref r142]) [23] [0, 1, 2, 3, 4, 5, 6, 7, 8, 9, 10, 11, 12, 13, 14, 15, 16, 17, 18, 19, 20, 21, 22] (fun _ => runIN gdX5_init_138.2.2.2.2.1 mi_X4_init rfl im_X4_init mn_X5_31 (by omega) rfl (Nat.le_of_ble_eq_true rfl) rfl) (fun x9 h9 => ok_X4_init h9) rfl rfl rfl rfl rfl (by decide +kernel) (by omega) (by omega) (fun _ _ => rfl) (fun _ _ => rfl) (fun x146 g146 => ?_)
  refine aw_putF (q := 152) (ws' := [(x, .inr (7, [.ref r6, .ref r44, .ref r83, .ref r120, .ref r131, .ref r142, .null])), (r6, .inl (1, 3, .inr (.inr (.inr (.inr (va_up (va_up (va_up (fun _ => none) (0 : Int32).toNatClampNeg (some r28)) (1 : Int32).toNatClampNeg (some r28_1)) (2 : Int32).toNatClampNeg (some r28_2))))))), (r28, .inr (4, [.ref (g32 0), .int (0 : Int32)])), ((g32 0), .inl (0, 2646, .inl x32)), (r28_1, .inr (4, [.ref (g32_1 0), .int (0 : Int32)])), ((g32_1 0), .inl (0, 2646, .inl x32_1)), (r28_2, .inr (4, [.ref (g32_2 0), .int (0 : Int32)])), ((g32_2 0), .inl (0, 2646, .inl x32_2)), (r44, .inl (2, 3, .inr (.inr (.inr (.inr (va_up (va_up (va_up (fun _ => none) (0 : Int32).toNatClampNeg (some r66)) (1 : Int32).toNatClampNeg (some r66_1)) (2 : Int32).toNatClampNeg (some r66_2))))))), (r66, .inr (3, [.int x71.1, .ref (g71 0), .int (0 : Int32)])), ((g71 0), .inl (0, 21, .inl x71.2)), (r66_1, .inr (3, [.int x71_1.1, .ref (g71_1 0), .int (0 : Int32)])), ((g71_1 0), .inl (0, 21, .inl x71_1.2)), (r66_2, .inr (3, [.int x71_2.1, .ref (g71_2 0), .int (0 : Int32)])), ((g71_2 0), .inl (0, 21, .inl x71_2.2)), (r83, .inl (3, 2, .inr (.inr (.inr (.inr (va_up (va_up (fun _ => none) (0 : Int32).toNatClampNeg (some r105)) (1 : Int32).toNatClampNeg (some r105_1))))))), (r105, .inr (6, [.ref (g109 0)])), ((g109 0), .inl (0, 21, .inl x109)), (r105_1, .inr (6, [.ref (g109_1 0)])), ((g109_1 0), .inl (0, 21, .inl x109_1)), (r120, .inr (2, [.int (0 : Int32), .int (0 : Int32), .int (0 : Int32), .int (0 : Int32), .int (0 : Int32), .int (0 : Int32)])), (r131, .inr (5, [.ref (g135 0)])), ((g135 0), .inl (0, 21, .inl x135)), (r142, .inr (6, [.ref (g146 0)])), ((g146 0), .inl (0, 21, .inl x146))]) gdX5_init_138.2.2.2.2.2.1 rfl fl_X5_46 (fun _ _ _ h9 => by cases h9; rfl) rfl 0 rfl rfl rfl (Nat.le_of_ble_eq_true rfl) rfl ?_
  refine aw_aload_n (q := 153) gdX5_init_138.2.2.2.2.2.2.1 rfl 1 rfl ?_
  refine aw_new (q := 156) (kc' := 1) (ks' := 21) (ws' := fun r153 => [(x, .inr (7, [.ref r6, .ref r44, .ref r83, .ref r120, .ref r131, .ref r142, .null])), (r6, .inl (1, 3, .inr (.inr (.inr (.inr (va_up (va_up (va_up (fun _ => none) (0 : Int32).toNatClampNeg (some r28)) (1 : Int32).toNatClampNeg (some r28_1)) (2 : Int32).toNatClampNeg (some r28_2))))))), (r28, .inr (4, [.ref (g32 0), .int (0 : Int32)])), ((g32 0), .inl (0, 2646, .inl x32)), (r28_1, .inr (4, [.ref (g32_1 0), .int (0 : Int32)])), ((g32_1 0), .inl (0, 2646, .inl x32_1)), (r28_2, .inr (4, [.ref (g32_2 0), .int (0 : Int32)])), ((g32_2 0), .inl (0, 2646, .inl x32_2)), (r44, .inl (2, 3, .inr (.inr (.inr (.inr (va_up (va_up (va_up (fun _ => none) (0 : Int32).toNatClampNeg (some r66)) (1 : Int32).toNatClampNeg (some r66_1)) (2 : Int32).toNatClampNeg (some r66_2))))))), (r66, .inr (3, [.int x71.1, .ref (g71 0), .int (0 : Int32)])), ((g71 0), .inl (0, 21, .inl x71.2)), (r66_1, .inr (3, [.int x71_1.1, .ref (g71_1 0), .int (0 : Int32)])), ((g71_1 0), .inl (0, 21, .inl x71_1.2)), (r66_2, .inr (3, [.int x71_2.1, .ref (g71_2 0), .int (0 : Int32)])), ((g71_2 0), .inl (0, 21, .inl x71_2.2)), (r83, .inl (3, 2, .inr (.inr (.inr (.inr (va_up (va_up (fun _ => none) (0 : Int32).toNatClampNeg (some r105)) (1 : Int32).toNatClampNeg (some r105_1))))))), (r105, .inr (6, [.ref (g109 0)])), ((g109 0), .inl (0, 21, .inl x109)), (r105_1, .inr (6, [.ref (g109_1 0)])), ((g109_1 0), .inl (0, 21, .inl x109_1)), (r120, .inr (2, [.int (0 : Int32), .int (0 : Int32), .int (0 : Int32), .int (0 : Int32), .int (0 : Int32), .int (0 : Int32)])), (r131, .inr (5, [.ref (g135 0)])), ((g135 0), .inl (0, 21, .inl x135)), (r142, .inr (6, [.ref (g146 0)])), ((g146 0), .inl (0, 21, .inl x146)), (r153, .inr (6, [.null]))]) gdX5_init_138.2.2.2.2.2.2.2 rfl nw_X5_25 (by omega) (by omega) (fun _ => rfl) (fun r153 => ?_)
  refine aw_dup (q := 157) gdX5_init_156.1 rfl rfl ?_
  refine aw_call (q := 160) (kc1 := 0) (ks1 := 0) (wc := [(r153, .inr (6, [.null]))]) (wr := [(x, .inr (7, [.ref r6, .ref r44, .ref r83, .ref r120, .ref r131, .ref r142, .null])), (r6, .inl (1, 3, .inr (.inr (.inr (.inr (va_up (va_up (va_up (fun _ => none) (0 : Int32).toNatClampNeg (some r28)) (1 : Int32).toNatClampNeg (some r28_1)) (2 : Int32).toNatClampNeg (some r28_2))))))), (r28, .inr (4, [.ref (g32 0), .int (0 : Int32)])), ((g32 0), .inl (0, 2646, .inl x32)), (r28_1, .inr (4, [.ref (g32_1 0), .int (0 : Int32)])), ((g32_1 0), .inl (0, 2646, .inl x32_1)), (r28_2, .inr (4, [.ref (g32_2 0), .int (0 : Int32)])), ((g32_2 0), .inl (0, 2646, .inl x32_2)), (r44, .inl (2, 3, .inr (.inr (.inr (.inr (va_up (va_up (va_up (fun _ => none) (0 : Int32).toNatClampNeg (some r66)) (1 : Int32).toNatClampNeg (some r66_1)) (2 : Int32).toNatClampNeg (some r66_2))))))), (r66, .inr (3, [.int x71.1, .ref (g71 0), .int (0 : Int32)])), ((g71 0), .inl (0, 21, .inl x71.2)), (r66_1, .inr (3, [.int x71_1.1, .ref (g71_1 0), .int (0 : Int32)])), ((g71_1 0), .inl (0, 21, .inl x71_1.2)), (r66_2, .inr (3, [.int x71_2.1, .ref (g71_2 0), .int (0 : Int32)])), ((g71_2 0), .inl (0, 21, .inl x71_2.2)), (r83, .inl (3, 2, .inr (.inr (.inr (.inr (va_up (va_up (fun _ => none) (0 : Int32).toNatClampNeg (some r105)) (1 : Int32).toNatClampNeg (some r105_1))))))), (r105, .inr (6, [.ref (g109 0)])), ((g109 0), .inl (0, 21, .inl x109)), (r105_1, .inr (6, [.ref (g109_1 0)])), ((g109_1 0), .inl (0, 21, .inl x109_1)), (r120, .inr (2, [.int (0 : Int32), .int (0 : Int32), .int (0 : Int32), .int (0 : Int32), .int (0 : Int32), .int (0 : Int32)])), (r131, .inr (5, [.ref (g135 0)])), ((g135 0), .inl (0, 21, .inl x135)), (r142, .inr (6, [.ref (g146 0)])), ((g146 0), .inl (0, 21, .inl x146))]) (st1 := fun x157 g157 => [.ref r153, .ref x]) (ws1 := fun x157 g157 => [(x, .inr (7, [.ref r6, .ref r44, .ref r83, .ref r120, .ref r131, .ref r142, .null])), (r6, .inl (1, 3, .inr (.inr (.inr (.inr (va_up (va_up (va_up (fun _ => none) (0 : Int32).toNatClampNeg (some r28)) (1 : Int32).toNatClampNeg (some r28_1)) (2 : Int32).toNatClampNeg (some r28_2))))))), (r28, .inr (4, [.ref (g32 0), .int (0 : Int32)])), ((g32 0), .inl (0, 2646, .inl x32)), (r28_1, .inr (4, [.ref (g32_1 0), .int (0 : Int32)])), ((g32_1 0), .inl (0, 2646, .inl x32_1)), (r28_2, .inr (4, [.ref (g32_2 0), .int (0 : Int32)])), ((g32_2 0), .inl (0, 2646, .inl x32_2)), (r44, .inl (2, 3, .inr (.inr (.inr (.inr (va_up (va_up (va_up (fun _ => none) (0 : Int32).toNatClampNeg (some r66)) (1 : Int32).toNatClampNeg (some r66_1)) (2 : Int32).toNatClampNeg (some r66_2))))))), (r66, .inr (3, [.int x71.1, .ref (g71 0), .int (0 : Int32)])), ((g71 0), .inl (0, 21, .inl x71.2)), (r66_1, .inr (3, [.int x71_1.1, .ref (g71_1 0), .int (0 : Int32)])), ((g71_1 0), .inl (0, 21, .inl x71_1.2)), (r66_2, .inr (3, [.int x71_2.1, .ref (g71_2 0), .int (0 : Int32)])), ((g71_2 0), .inl (0, 21, .inl x71_2.2)), (r83, .inl (3, 2, .inr (.inr (.inr (.inr (va_up (va_up (fun _ => none) (0 : Int32).toNatClampNeg (some r105)) (1 : Int32).toNatClampNeg (some r105_1))))))), (r105, .inr (6, [.ref (g109 0)])), ((g109 0), .inl (0, 21, .inl x109)), (r105_1, .inr (6, [.ref (g109_1 0)])), ((g109_1 0), .inl (0, 21, .inl x109_1)), (r120, .inr (2, [.int (0 : Int32), .int (0 : Int32), .int (0 : Int32), .int (0 : Int32), .int (0 : Int32), .int (0 : Int32)])), (r131, .inr (5, [.ref (g135 0)])), ((g135 0), .inl (0, 21, .inl x135)), (r142, .inr (6, [.ref (g146 0)])), ((g146 0), .inl (0, 21, .inl x146)), (r153, .inr (6, [.ref (g157 0)])), ((g157 0), .inl (0, 21, .inl x157))]) (As := [.ref r153]) [25] [0, 1, 2, 3, 4, 5, 6, 7, 8, 9, 10, 11, 12, 13, 14, 15, 16, 17, 18, 19, 20, 21, 22, 23, 24] (fun _ => runIN gdX5_init_156.2.1 mi_X4_init rfl im_X4_init mn_X5_31 (by omega) rfl (Nat.le_of_ble_eq_true rfl) rfl) (fun x9 h9 => ok_X4_init h9) rfl rfl rfl rfl rfl (by decide +kernel) (by omega) (by omega) (fun _ _ => rfl) (fun _ _ => rfl) (fun x157 g157 => ?_)
  refine aw_putF (q := 163) (ws' := [(x, .inr (7, [.ref r6, .ref r44, .ref r83, .ref r120, .ref r131, .ref r142, .ref r153])), (r6, .inl (1, 3, .inr (.inr (.inr (.inr (va_up (va_up (va_up (fun _ => none) (0 : Int32).toNatClampNeg (some r28)) (1 : Int32).toNatClampNeg (some r28_1)) (2 : Int32).toNatClampNeg (some r28_2))))))), (r28, .inr (4, [.ref (g32 0), .int (0 : Int32)])), ((g32 0), .inl (0, 2646, .inl x32)), (r28_1, .inr (4, [.ref (g32_1 0), .int (0 : Int32)])), ((g32_1 0), .inl (0, 2646, .inl x32_1)), (r28_2, .inr (4, [.ref (g32_2 0), .int (0 : Int32)])), ((g32_2 0), .inl (0, 2646, .inl x32_2)), (r44, .inl (2, 3, .inr (.inr (.inr (.inr (va_up (va_up (va_up (fun _ => none) (0 : Int32).toNatClampNeg (some r66)) (1 : Int32).toNatClampNeg (some r66_1)) (2 : Int32).toNatClampNeg (some r66_2))))))), (r66, .inr (3, [.int x71.1, .ref (g71 0), .int (0 : Int32)])), ((g71 0), .inl (0, 21, .inl x71.2)), (r66_1, .inr (3, [.int x71_1.1, .ref (g71_1 0), .int (0 : Int32)])), ((g71_1 0), .inl (0, 21, .inl x71_1.2)), (r66_2, .inr (3, [.int x71_2.1, .ref (g71_2 0), .int (0 : Int32)])), ((g71_2 0), .inl (0, 21, .inl x71_2.2)), (r83, .inl (3, 2, .inr (.inr (.inr (.inr (va_up (va_up (fun _ => none) (0 : Int32).toNatClampNeg (some r105)) (1 : Int32).toNatClampNeg (some r105_1))))))), (r105, .inr (6, [.ref (g109 0)])), ((g109 0), .inl (0, 21, .inl x109)), (r105_1, .inr (6, [.ref (g109_1 0)])), ((g109_1 0), .inl (0, 21, .inl x109_1)), (r120, .inr (2, [.int (0 : Int32), .int (0 : Int32), .int (0 : Int32), .int (0 : Int32), .int (0 : Int32), .int (0 : Int32)])), (r131, .inr (5, [.ref (g135 0)])), ((g135 0), .inl (0, 21, .inl x135)), (r142, .inr (6, [.ref (g146 0)])), ((g146 0), .inl (0, 21, .inl x146)), (r153, .inr (6, [.ref (g157 0)])), ((g157 0), .inl (0, 21, .inl x157))]) gdX5_init_156.2.2.1 rfl fl_X5_50 (fun _ _ _ h9 => by cases h9; rfl) rfl 0 rfl rfl rfl (Nat.le_of_ble_eq_true rfl) rfl ?_
  exact aw_return (w := [(x, .inr (7, [.ref r6, .ref r44, .ref r83, .ref r120, .ref r131, .ref r142, .ref r153])), (r6, .inl (1, 3, .inr (.inr (.inr (.inr (va_up (va_up (va_up (fun _ => none) (0 : Int32).toNatClampNeg (some r28)) (1 : Int32).toNatClampNeg (some r28_1)) (2 : Int32).toNatClampNeg (some r28_2))))))), (r28, .inr (4, [.ref (g32 0), .int (0 : Int32)])), ((g32 0), .inl (0, 2646, .inl x32)), (r28_1, .inr (4, [.ref (g32_1 0), .int (0 : Int32)])), ((g32_1 0), .inl (0, 2646, .inl x32_1)), (r28_2, .inr (4, [.ref (g32_2 0), .int (0 : Int32)])), ((g32_2 0), .inl (0, 2646, .inl x32_2)), (r44, .inl (2, 3, .inr (.inr (.inr (.inr (va_up (va_up (va_up (fun _ => none) (0 : Int32).toNatClampNeg (some r66)) (1 : Int32).toNatClampNeg (some r66_1)) (2 : Int32).toNatClampNeg (some r66_2))))))), (r66, .inr (3, [.int x71.1, .ref (g71 0), .int (0 : Int32)])), ((g71 0), .inl (0, 21, .inl x71.2)), (r66_1, .inr (3, [.int x71_1.1, .ref (g71_1 0), .int (0 : Int32)])), ((g71_1 0), .inl (0, 21, .inl x71_1.2)), (r66_2, .inr (3, [.int x71_2.1, .ref (g71_2 0), .int (0 : Int32)])), ((g71_2 0), .inl (0, 21, .inl x71_2.2)), (r83, .inl (3, 2, .inr (.inr (.inr (.inr (va_up (va_up (fun _ => none) (0 : Int32).toNatClampNeg (some r105)) (1 : Int32).toNatClampNeg (some r105_1))))))), (r105, .inr (6, [.ref (g109 0)])), ((g109 0), .inl (0, 21, .inl x109)), (r105_1, .inr (6, [.ref (g109_1 0)])), ((g109_1 0), .inl (0, 21, .inl x109_1)), (r120, .inr (2, [.int (0 : Int32), .int (0 : Int32), .int (0 : Int32), .int (0 : Int32), .int (0 : Int32), .int (0 : Int32)])), (r131, .inr (5, [.ref (g135 0)])), ((g135 0), .inl (0, 21, .inl x135)), (r142, .inr (6, [.ref (g146 0)])), ((g146 0), .inl (0, 21, .inl x146)), (r153, .inr (6, [.ref (g157 0)])), ((g157 0), .inl (0, 21, .inl x157))]) [0, 1, 2, 3, 4, 5, 6, 7, 8, 9, 10, 11, 12, 13, 14, 15, 16, 17, 18, 19, 20, 21, 22, 23, 24, 25, 26] gdX5_init_156.2.2.2 rfl rfl rfl (PN.mk (fun j => if j = 0 then r6 else if j = 1 then r28 else if j = 2 then (g32 0) else if j = 3 then r28_1 else if j = 4 then (g32_1 0) else if j = 5 then r28_2 else if j = 6 then (g32_2 0) else if j = 7 then r44 else if j = 8 then r66 else if j = 9 then (g71 0) else if j = 10 then r66_1 else if j = 11 then (g71_1 0) else if j = 12 then r66_2 else if j = 13 then (g71_2 0) else if j = 14 then r83 else if j = 15 then r105 else if j = 16 then (g109 0) else if j = 17 then r105_1 else if j = 18 then (g109_1 0) else if j = 19 then r120 else if j = 20 then r131 else if j = 21 then (g135 0) else if j = 22 then r142 else if j = 23 then (g146 0) else if j = 24 then r153 else if j = 25 then (g157 0) else 0) rfl rfl)

end MG_20make
