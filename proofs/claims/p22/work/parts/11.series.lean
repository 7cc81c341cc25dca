def fX3_takeOften_8 (N K : Nat) (g : Nat → Int32) (p0 : Int32) : Nat → Int32 → (Nat → Int32) → Option ((Nat → Int32))
  | 0, _, _ => none
  | fu + 1, l2, g_ =>
    (if (21 : Int32) ≤ l2 then (some g_) else (if l2 < 0 ∨ 21 ≤ l2.toNatClampNeg then none else (if (l2 - p0) < 0 ∨ 21 ≤ (l2 - p0).toNatClampNeg then none else (if l2 < 0 ∨ 21 ≤ l2.toNatClampNeg then none else fX3_takeOften_8 N K g p0  fu (l2 + (1 : Int32)) (upd g_ l2.toNatClampNeg ((g_ l2.toNatClampNeg) + (g_ (l2 - p0).toNatClampNeg)))))))
set_option maxHeartbeats 4000000 in
set_option maxRecDepth 100000 in
theorem tX3_takeOften_8 {N K : Nat} {s r : Nat} {g : Nat → Int32} {p0 : Int32} : ∀ (fu : Nat) (l2 : Int32) (g_ : Nat → Int32), AW RX3 "takeOften" cX3_takeOften 3 none [] (fun _ _ => True) (0) (PN (U := (Nat → Int32)) (fun _ _ => none) (fun zz ad => [(s, .inr (5, [.ref r])), (r, .inl (0, 21, .inl zz))])) 0 0 (fX3_takeOften_8 N K g p0  fu l2 g_) 8 [(0, .ref s), (1, .int p0), (2, .int l2)] [] [(s, .inr (5, [.ref r])), (r, .inl (0, 21, .inl g_))] := by
  intro fu
  induction fu with
  | zero => intro l2 g_; exact aw_none
  | succ fu ih =>
    intro l2 g_
    refine aw_iload_n (q := 9) gdX3_takeOften_0.2.2.2.2.2.2.1 rfl 2 rfl ?_
    refine aw_aload_n (q := 10) gdX3_takeOften_0.2.2.2.2.2.2.2 rfl 0 rfl ?_
    refine aw_get (q := 13) gdX3_takeOften_10.1 rfl fl_X3_9 0 rfl rfl ?_
    refine aw_alen (q := 14) (v := 21) gdX3_takeOften_10.2.1 rfl 1 rfl (by decide) rfl ?_
    refine aw_icmp_ge (tgt := 40) (q := 17) gdX3_takeOften_10.2.2.1 (by decide) rfl (fun h_14 => ?_) (fun h_14 => ?_)
    · exact aw_return (w := [(s, .inr (5, [.ref r])), (r, .inl (0, 21, .inl g_))]) [0, 1] gdX3_takeOften_34.2.2 rfl rfl rfl (PN.mk (fun _ => 0) rfl rfl)
    · refine aw_aload_n (q := 18) gdX3_takeOften_10.2.2.2.1 rfl 0 rfl ?_
      refine aw_get (q := 21) gdX3_takeOften_10.2.2.2.2.1 rfl fl_X3_9 0 rfl rfl ?_
      refine aw_iload_n (q := 22) gdX3_takeOften_10.2.2.2.2.2.1 rfl 2 rfl ?_
      refine aw_dup2 (q := 23) gdX3_takeOften_10.2.2.2.2.2.2.1 rfl rfl rfl ?_
      refine aw_iald (q := 24) gdX3_takeOften_10.2.2.2.2.2.2.2 rfl 1 rfl ?_
      refine aw_aload_n (q := 25) gdX3_takeOften_24.1 rfl 0 rfl ?_
      refine aw_get (q := 28) gdX3_takeOften_24.2.1 rfl fl_X3_9 0 rfl rfl ?_
      refine aw_iload_n (q := 29) gdX3_takeOften_24.2.2.1 rfl 2 rfl ?_
      refine aw_iload_n (q := 30) gdX3_takeOften_24.2.2.2.1 rfl 1 rfl ?_
      refine aw_isub (q := 31) gdX3_takeOften_24.2.2.2.2.1 rfl ?_
      refine aw_iald (q := 32) gdX3_takeOften_24.2.2.2.2.2.1 rfl 1 rfl ?_
      refine aw_iadd (q := 33) gdX3_takeOften_24.2.2.2.2.2.2.1 rfl ?_
      refine aw_iast (q := 34) (ws' := [(s, .inr (5, [.ref r])), (r, .inl (0, 21, .inl (upd g_ l2.toNatClampNeg ((g_ l2.toNatClampNeg) + (g_ (l2 - p0).toNatClampNeg)))))]) gdX3_takeOften_24.2.2.2.2.2.2.2 rfl 1 rfl rfl ?_
      refine aw_iinc (q := 37) (v := (l2 + (1 : Int32))) (lv' := [(2, .int (l2 + (1 : Int32))), (0, .ref s), (1, .int p0)]) gdX3_takeOften_34.1 rfl 2 rfl rfl (by decide) rfl ?_
      refine aw_goto (tgt := 8) gdX3_takeOften_34.2.1 (by decide) ?_
      refine aw_locals (lv' := [(0, .ref s), (1, .int p0), (2, .int (l2 + (1 : Int32)))]) [1, 2, 0] rfl ?_
      exact ih _ _
def fX3_takeOften (N K : Nat) (g : Nat → Int32) (p0 : Int32) : Option ((Nat → Int32)) :=
  (if (1 : Int32) ≤ p0 then fX3_takeOften_8 N K g p0  N p0 g else (some g))
set_option maxHeartbeats 4000000 in
set_option maxRecDepth 100000 in
theorem ok_X3_takeOften {N K : Nat} {s r : Nat} {g : Nat → Int32} {p0 : Int32} {xr : (Nat → Int32)} (hE : fX3_takeOften N K g p0 = some xr) : OkM yX3_takeOften (.code yX3_takeOften cX3_takeOften 3 none) (0) 0 0 [.ref s, .int p0] [(s, .inr (5, [.ref r])), (r, .inl (0, 21, .inl g))] ((PN (U := (Nat → Int32)) (fun _ _ => none) (fun zz ad => [(s, .inr (5, [.ref r])), (r, .inl (0, 21, .inl zz))])) xr) := by
  refine ok_of (by decide) (Nat.le_of_ble_eq_true rfl) hE ?_
  refine aw_locals (lv' := [(0, .ref s), (1, .int p0)]) [0, 1] rfl ?_
  refine aw_iload_n (q := 1) gdX3_takeOften_0.1 rfl 1 rfl ?_
  refine aw_iconst (q := 2) (v := 1) gdX3_takeOften_0.2.1 rfl (by decide) ?_
  refine aw_icmp_ge (tgt := 6) (q := 5) gdX3_takeOften_0.2.2.1 (by decide) rfl (fun h_2 => ?_) (fun h_2 => ?_)
  · refine aw_iload_n (q := 7) gdX3_takeOften_0.2.2.2.2.1 rfl 1 rfl ?_
    refine aw_istore_n (q := 8) (lv' := [(2, .int p0), (0, .ref s), (1, .int p0)]) gdX3_takeOften_0.2.2.2.2.2.1 rfl (by decide) rfl ?_
    refine aw_locals (lv' := [(0, .ref s), (1, .int p0), (2, .int p0)]) [1, 2, 0] rfl ?_
    exact tX3_takeOften_8  N _ _
  · exact aw_return (w := [(s, .inr (5, [.ref r])), (r, .inl (0, 21, .inl g))]) [0, 1] gdX3_takeOften_0.2.2.2.1 rfl rfl rfl (PN.mk (fun _ => 0) rfl rfl)
def fX3_takeOnce_14 (N K : Nat) (g : Nat → Int32) (p0 : Int32) : Nat → Int32 → (Nat → Int32) → Option ((Nat → Int32))
  | 0, _, _ => none
  | fu + 1, l2, g_ =>
    (if l2 < p0 then (some g_) else (if l2 < 0 ∨ 21 ≤ l2.toNatClampNeg then none else (if (l2 - p0) < 0 ∨ 21 ≤ (l2 - p0).toNatClampNeg then none else (if l2 < 0 ∨ 21 ≤ l2.toNatClampNeg then none else fX3_takeOnce_14 N K g p0  fu (l2 + (-1 : Int32)) (upd g_ l2.toNatClampNeg ((g_ l2.toNatClampNeg) + (g_ (l2 - p0).toNatClampNeg)))))))
set_option maxHeartbeats 4000000 in
set_option maxRecDepth 100000 in
theorem tX3_takeOnce_14 {N K : Nat} {s r : Nat} {g : Nat → Int32} {p0 : Int32} : ∀ (fu : Nat) (l2 : Int32) (g_ : Nat → Int32), AW RX3 "takeOnce" cX3_takeOnce 3 none [] (fun _ _ => True) (0) (PN (U := (Nat → Int32)) (fun _ _ => none) (fun zz ad => [(s, .inr (5, [.ref r])), (r, .inl (0, 21, .inl zz))])) 0 0 (fX3_takeOnce_14 N K g p0  fu l2 g_) 14 [(0, .ref s), (1, .int p0), (2, .int l2)] [] [(s, .inr (5, [.ref r])), (r, .inl (0, 21, .inl g_))] := by
  intro fu
  induction fu with
  | zero => intro l2 g_; exact aw_none
  | succ fu ih =>
    intro l2 g_
    refine aw_iload_n (q := 15) gdX3_takeOnce_12.2.2.1 rfl 2 rfl ?_
    refine aw_iload_n (q := 16) gdX3_takeOnce_12.2.2.2.1 rfl 1 rfl ?_
    refine aw_icmp_lt (tgt := 42) (q := 19) gdX3_takeOnce_12.2.2.2.2.1 (by decide) rfl (fun h_16 => ?_) (fun h_16 => ?_)
    · exact aw_return (w := [(s, .inr (5, [.ref r])), (r, .inl (0, 21, .inl g_))]) [0, 1] gdX3_takeOnce_34.2.2.2.2 rfl rfl rfl (PN.mk (fun _ => 0) rfl rfl)
    · refine aw_aload_n (q := 20) gdX3_takeOnce_12.2.2.2.2.2.1 rfl 0 rfl ?_
      refine aw_get (q := 23) gdX3_takeOnce_12.2.2.2.2.2.2.1 rfl fl_X3_9 0 rfl rfl ?_
      refine aw_iload_n (q := 24) gdX3_takeOnce_12.2.2.2.2.2.2.2 rfl 2 rfl ?_
      refine aw_dup2 (q := 25) gdX3_takeOnce_24.1 rfl rfl rfl ?_
      refine aw_iald (q := 26) gdX3_takeOnce_24.2.1 rfl 1 rfl ?_
      refine aw_aload_n (q := 27) gdX3_takeOnce_24.2.2.1 rfl 0 rfl ?_
      refine aw_get (q := 30) gdX3_takeOnce_24.2.2.2.1 rfl fl_X3_9 0 rfl rfl ?_
      refine aw_iload_n (q := 31) gdX3_takeOnce_24.2.2.2.2.1 rfl 2 rfl ?_
      refine aw_iload_n (q := 32) gdX3_takeOnce_24.2.2.2.2.2.1 rfl 1 rfl ?_
      refine aw_isub (q := 33) gdX3_takeOnce_24.2.2.2.2.2.2.1 rfl ?_
      refine aw_iald (q := 34) gdX3_takeOnce_24.2.2.2.2.2.2.2 rfl 1 rfl ?_
      refine aw_iadd (q := 35) gdX3_takeOnce_34.1 rfl ?_
      refine aw_iast (q := 36) (ws' := [(s, .inr (5, [.ref r])), (r, .inl (0, 21, .inl (upd g_ l2.toNatClampNeg ((g_ l2.toNatClampNeg) + (g_ (l2 - p0).toNatClampNeg)))))]) gdX3_takeOnce_34.2.1 rfl 1 rfl rfl ?_
      refine aw_iinc (q := 39) (v := (l2 + (-1 : Int32))) (lv' := [(2, .int (l2 + (-1 : Int32))), (0, .ref s), (1, .int p0)]) gdX3_takeOnce_34.2.2.1 rfl 2 rfl rfl (by decide) rfl ?_
      refine aw_goto (tgt := 14) gdX3_takeOnce_34.2.2.2.1 (by decide) ?_
      refine aw_locals (lv' := [(0, .ref s), (1, .int p0), (2, .int (l2 + (-1 : Int32)))]) [1, 2, 0] rfl ?_
      exact ih _ _
def fX3_takeOnce (N K : Nat) (g : Nat → Int32) (p0 : Int32) : Option ((Nat → Int32)) :=
  (if (1 : Int32) ≤ p0 then fX3_takeOnce_14 N K g p0  N ((21 : Int32) - (1 : Int32)) g else (some g))
set_option maxHeartbeats 4000000 in
set_option maxRecDepth 100000 in
theorem ok_X3_takeOnce {N K : Nat} {s r : Nat} {g : Nat → Int32} {p0 : Int32} {xr : (Nat → Int32)} (hE : fX3_takeOnce N K g p0 = some xr) : OkM yX3_takeOnce (.code yX3_takeOnce cX3_takeOnce 3 none) (0) 0 0 [.ref s, .int p0] [(s, .inr (5, [.ref r])), (r, .inl (0, 21, .inl g))] ((PN (U := (Nat → Int32)) (fun _ _ => none) (fun zz ad => [(s, .inr (5, [.ref r])), (r, .inl (0, 21, .inl zz))])) xr) := by
  refine ok_of (by decide) (Nat.le_of_ble_eq_true rfl) hE ?_
  refine aw_locals (lv' := [(0, .ref s), (1, .int p0)]) [0, 1] rfl ?_
  refine aw_iload_n (q := 1) gdX3_takeOnce_0.1 rfl 1 rfl ?_
  refine aw_iconst (q := 2) (v := 1) gdX3_takeOnce_0.2.1 rfl (by decide) ?_
  refine aw_icmp_ge (tgt := 6) (q := 5) gdX3_takeOnce_0.2.2.1 (by decide) rfl (fun h_2 => ?_) (fun h_2 => ?_)
  · refine aw_aload_n (q := 7) gdX3_takeOnce_0.2.2.2.2.1 rfl 0 rfl ?_
    refine aw_get (q := 10) gdX3_takeOnce_0.2.2.2.2.2.1 rfl fl_X3_9 0 rfl rfl ?_
    refine aw_alen (q := 11) (v := 21) gdX3_takeOnce_0.2.2.2.2.2.2.1 rfl 1 rfl (by decide) rfl ?_
    refine aw_iconst (q := 12) (v := 1) gdX3_takeOnce_0.2.2.2.2.2.2.2 rfl (by decide) ?_
    refine aw_isub (q := 13) gdX3_takeOnce_12.1 rfl ?_
    refine aw_istore_n (q := 14) (lv' := [(2, .int ((21 : Int32) - (1 : Int32))), (0, .ref s), (1, .int p0)]) gdX3_takeOnce_12.2.1 rfl (by decide) rfl ?_
    refine aw_locals (lv' := [(0, .ref s), (1, .int p0), (2, .int ((21 : Int32) - (1 : Int32)))]) [1, 2, 0] rfl ?_
    exact tX3_takeOnce_14  N _ _
  · exact aw_return (w := [(s, .inr (5, [.ref r])), (r, .inl (0, 21, .inl g))]) [0, 1] gdX3_takeOnce_0.2.2.2.1 rfl rfl rfl (PN.mk (fun _ => 0) rfl rfl)
def fX3_reckon_128 (N K : Nat) (g : Nat → Int32) (p0 : Int32) (p1 : Int32) (k_80 : Int32 → Int32 → Int32 → Int32 → (Nat → Int32) → Option ((Nat → Int32))) (l3 : Int32) (l4 : Int32) (l5 : Int32) (l6 : Int32) (g_ : Nat → Int32) : Option ((Nat → Int32)) :=
  k_80 l3 l4 l5 (l6 + (1 : Int32)) g_
set_option maxHeartbeats 4000000 in
set_option maxRecDepth 100000 in
theorem tX3_reckon_128 {N K : Nat} {s r : Nat} {g : Nat → Int32} {p0 : Int32} {p1 : Int32} {k_80 : Int32 → Int32 → Int32 → Int32 → (Nat → Int32) → Option ((Nat → Int32))} (hk_80 : ∀ (l3 : Int32) (l4 : Int32) (l5 : Int32) (l6 : Int32) (g_ : Nat → Int32), AW RX3 "reckon" cX3_reckon 7 none [] (fun _ _ => True) (1) (PN (U := (Nat → Int32)) (fun _ _ => none) (fun zz ad => [(s, .inr (5, [.ref r])), (r, .inl (0, 21, .inl zz))])) 0 0 (k_80 l3 l4 l5 l6 g_) 80 [(0, .ref s), (3, .int l3), (4, .int l4), (5, .int l5), (6, .int l6)] [] [(s, .inr (5, [.ref r])), (r, .inl (0, 21, .inl g_))]) : ∀ (l3 : Int32) (l4 : Int32) (l5 : Int32) (l6 : Int32) (g_ : Nat → Int32), AW RX3 "reckon" cX3_reckon 7 none [] (fun _ _ => True) (1) (PN (U := (Nat → Int32)) (fun _ _ => none) (fun zz ad => [(s, .inr (5, [.ref r])), (r, .inl (0, 21, .inl zz))])) 0 0 (fX3_reckon_128 N K g p0 p1 k_80 l3 l4 l5 l6 g_) 128 [(0, .ref s), (3, .int l3), (4, .int l4), (5, .int l5), (6, .int l6)] [] [(s, .inr (5, [.ref r])), (r, .inl (0, 21, .inl g_))] := by
  intro l3 l4 l5 l6 g_
  refine aw_iinc (q := 131) (v := (l6 + (1 : Int32))) (lv' := [(6, .int (l6 + (1 : Int32))), (0, .ref s), (3, .int l3), (4, .int l4), (5, .int l5)]) gdX3_reckon_114.2.2.2.2.2.2.1 rfl 4 rfl rfl (by decide) rfl ?_
  refine aw_goto (tgt := 80) gdX3_reckon_114.2.2.2.2.2.2.2 (by decide) ?_
  refine aw_locals (lv' := [(0, .ref s), (3, .int l3), (4, .int l4), (5, .int l5), (6, .int (l6 + (1 : Int32)))]) [1, 2, 3, 4, 0] rfl ?_
  exact hk_80 _ _ _ _ _
def fX3_reckon_108 (N K : Nat) (g : Nat → Int32) (p0 : Int32) (p1 : Int32) (k_80 : Int32 → Int32 → Int32 → Int32 → (Nat → Int32) → Option ((Nat → Int32))) (l3 : Int32) (l4 : Int32) (l5 : Int32) (l6 : Int32) (g_ : Nat → Int32) : Option ((Nat → Int32)) :=
  (if l5 = 0 then ((fX3_takeOften N K g_ l6).bind (fun x125 => fX3_reckon_128 N K g p0 p1 k_80 l3 l4 l5 l6 x125)) else ((fX3_takeOnce N K g_ l6).bind (fun x116 => fX3_reckon_128 N K g p0 p1 k_80 l3 l4 l5 l6 x116)))
set_option maxHeartbeats 4000000 in
set_option maxRecDepth 100000 in
theorem tX3_reckon_108 {N K : Nat} {s r : Nat} {g : Nat → Int32} {p0 : Int32} {p1 : Int32} {k_80 : Int32 → Int32 → Int32 → Int32 → (Nat → Int32) → Option ((Nat → Int32))} (hk_80 : ∀ (l3 : Int32) (l4 : Int32) (l5 : Int32) (l6 : Int32) (g_ : Nat → Int32), AW RX3 "reckon" cX3_reckon 7 none [] (fun _ _ => True) (1) (PN (U := (Nat → Int32)) (fun _ _ => none) (fun zz ad => [(s, .inr (5, [.ref r])), (r, .inl (0, 21, .inl zz))])) 0 0 (k_80 l3 l4 l5 l6 g_) 80 [(0, .ref s), (3, .int l3), (4, .int l4), (5, .int l5), (6, .int l6)] [] [(s, .inr (5, [.ref r])), (r, .inl (0, 21, .inl g_))]) : ∀ (l3 : Int32) (l4 : Int32) (l5 : Int32) (l6 : Int32) (g_ : Nat → Int32), AW RX3 "reckon" cX3_reckon 7 none [] (fun _ _ => True) (1) (PN (U := (Nat → Int32)) (fun _ _ => none) (fun zz ad => [(s, .inr (5, [.ref r])), (r, .inl (0, 21, .inl zz))])) 0 0 (fX3_reckon_108 N K g p0 p1 k_80 l3 l4 l5 l6 g_) 108 [(0, .ref s), (3, .int l3), (4, .int l4), (5, .int l5), (6, .int l6)] [] [(s, .inr (5, [.ref r])), (r, .inl (0, 21, .inl g_))] := by
  intro l3 l4 l5 l6 g_
  refine aw_iload (q := 110) gdX3_reckon_98.2.2.2.2.2.1 rfl 3 rfl ?_
  refine aw_if_eq (tgt := 122) (q := 113) gdX3_reckon_98.2.2.2.2.2.2.1 (by decide) rfl (fun h_110 => ?_) (fun h_110 => ?_)
  · refine aw_aload_n (q := 123) gdX3_reckon_114.2.2.2.1 rfl 0 rfl ?_
    refine aw_iload (q := 125) gdX3_reckon_114.2.2.2.2.1 rfl 4 rfl ?_
    refine aw_call (q := 128) (kc1 := 0) (ks1 := 0) (wc := [(s, .inr (5, [.ref r])), (r, .inl (0, 21, .inl g_))]) (wr := []) (st1 := fun x125 g125 => []) (ws1 := fun x125 g125 => [(s, .inr (5, [.ref r])), (r, .inl (0, 21, .inl x125))]) (As := [.ref s, .int l6]) [0, 1] [] (fun _ => runV (q0 := 0) gdX3_reckon_114.2.2.2.2.2.1 mi_X3_takeOften im_X3_takeOften se_X3_takeOften ml_X3_33 (by omega) rfl (Nat.le_of_ble_eq_true rfl) rfl rfl rfl rfl) (fun x9 h9 => ok_X3_takeOften h9) rfl rfl rfl rfl rfl (by decide +kernel) (by omega) (by omega) (fun _ _ => rfl) (fun _ _ => rfl) (fun x125 g125 => ?_)
    exact tX3_reckon_128 hk_80 _ _ _ _ _
  · refine aw_aload_n (q := 114) gdX3_reckon_98.2.2.2.2.2.2.2 rfl 0 rfl ?_
    refine aw_iload (q := 116) gdX3_reckon_114.1 rfl 4 rfl ?_
    refine aw_call (q := 119) (kc1 := 0) (ks1 := 0) (wc := [(s, .inr (5, [.ref r])), (r, .inl (0, 21, .inl g_))]) (wr := []) (st1 := fun x116 g116 => []) (ws1 := fun x116 g116 => [(s, .inr (5, [.ref r])), (r, .inl (0, 21, .inl x116))]) (As := [.ref s, .int l6]) [0, 1] [] (fun _ => runV (q0 := 0) gdX3_reckon_114.2.1 mi_X3_takeOnce im_X3_takeOnce se_X3_takeOnce ml_X3_29 (by omega) rfl (Nat.le_of_ble_eq_true rfl) rfl rfl rfl rfl) (fun x9 h9 => ok_X3_takeOnce h9) rfl rfl rfl rfl rfl (by decide +kernel) (by omega) (by omega) (fun _ _ => rfl) (fun _ _ => rfl) (fun x116 g116 => ?_)
    refine aw_goto (tgt := 128) gdX3_reckon_114.2.2.1 (by decide) ?_
    exact tX3_reckon_128 hk_80 _ _ _ _ _
def fX3_reckon_80 (N K : Nat) (g : Nat → Int32) (p0 : Int32) (p1 : Int32) : Nat → Int32 → Int32 → Int32 → Int32 → (Nat → Int32) → Option ((Nat → Int32))
  | 0, _, _, _, _, _ => none
  | fu + 1, l3, l4, l5, l6, g_ =>
    (if l3 < l6 then (some g_) else (if (20 : Int32) < l6 then (some g_) else (if l4 = 0 then fX3_reckon_108 N K g p0 p1 (fX3_reckon_80 N K g p0 p1  fu) l3 l4 l5 l6 g_ else (if (l6 % (2 : Int32)) = 0 then fX3_reckon_128 N K g p0 p1 (fX3_reckon_80 N K g p0 p1  fu) l3 l4 l5 l6 g_ else fX3_reckon_108 N K g p0 p1 (fX3_reckon_80 N K g p0 p1  fu) l3 l4 l5 l6 g_))))
set_option maxHeartbeats 4000000 in
set_option maxRecDepth 100000 in
theorem tX3_reckon_80 {N K : Nat} {s r : Nat} {g : Nat → Int32} {p0 : Int32} {p1 : Int32} : ∀ (fu : Nat) (l3 : Int32) (l4 : Int32) (l5 : Int32) (l6 : Int32) (g_ : Nat → Int32), AW RX3 "reckon" cX3_reckon 7 none [] (fun _ _ => True) (1) (PN (U := (Nat → Int32)) (fun _ _ => none) (fun zz ad => [(s, .inr (5, [.ref r])), (r, .inl (0, 21, .inl zz))])) 0 0 (fX3_reckon_80 N K g p0 p1  fu l3 l4 l5 l6 g_) 80 [(0, .ref s), (3, .int l3), (4, .int l4), (5, .int l5), (6, .int l6)] [] [(s, .inr (5, [.ref r])), (r, .inl (0, 21, .inl g_))] := by
  intro fu
  induction fu with
  | zero => intro l3 l4 l5 l6 g_; exact aw_none
  | succ fu ih =>
    intro l3 l4 l5 l6 g_
    refine aw_iload (q := 82) gdX3_reckon_80.1 rfl 4 rfl ?_
    refine aw_iload_n (q := 83) gdX3_reckon_80.2.1 rfl 1 rfl ?_
    refine aw_icmp_gt (tgt := 134) (q := 86) gdX3_reckon_80.2.2.1 (by decide) rfl (fun h_83 => ?_) (fun h_83 => ?_)
    · exact aw_return (w := [(s, .inr (5, [.ref r])), (r, .inl (0, 21, .inl g_))]) [0, 1] dX3_reckon_134 rfl rfl rfl (PN.mk (fun _ => 0) rfl rfl)
    · refine aw_iload (q := 88) gdX3_reckon_80.2.2.2.1 rfl 4 rfl ?_
      refine aw_bipush (q := 90) (v := 20) gdX3_reckon_80.2.2.2.2.1 rfl (by decide) ?_
      refine aw_icmp_gt (tgt := 134) (q := 93) gdX3_reckon_80.2.2.2.2.2.1 (by decide) rfl (fun h_90 => ?_) (fun h_90 => ?_)
      · exact aw_return (w := [(s, .inr (5, [.ref r])), (r, .inl (0, 21, .inl g_))]) [0, 1] dX3_reckon_134 rfl rfl rfl (PN.mk (fun _ => 0) rfl rfl)
      · refine aw_iload (q := 95) gdX3_reckon_80.2.2.2.2.2.2.1 rfl 2 rfl ?_
        refine aw_if_eq (tgt := 108) (q := 98) gdX3_reckon_80.2.2.2.2.2.2.2 (by decide) rfl (fun h_95 => ?_) (fun h_95 => ?_)
        · exact tX3_reckon_108 ih _ _ _ _ _
        · refine aw_iload (q := 100) gdX3_reckon_98.1 rfl 4 rfl ?_
          refine aw_iconst (q := 101) (v := 2) gdX3_reckon_98.2.1 rfl (by decide) ?_
          refine aw_iremT (q := 102) gdX3_reckon_98.2.2.1 rfl (by decide) ?_
          refine aw_if_ne (tgt := 108) (q := 105) gdX3_reckon_98.2.2.2.1 (by decide) rfl (fun h_102 => ?_) (fun h_102 => ?_)
          · exact tX3_reckon_108 ih _ _ _ _ _
          · refine aw_goto (tgt := 128) gdX3_reckon_98.2.2.2.2.1 (by decide) ?_
            exact tX3_reckon_128 ih _ _ _ _ _
def fX3_reckon_75 (N K : Nat) (g : Nat → Int32) (p0 : Int32) (p1 : Int32) (l3 : Int32) (l4 : Int32) (s0 : Int32) (g_ : Nat → Int32) : Option ((Nat → Int32)) :=
  fX3_reckon_80 N K g p0 p1  N l3 l4 s0 (1 : Int32) g_
set_option maxHeartbeats 4000000 in
set_option maxRecDepth 100000 in
theorem tX3_reckon_75 {N K : Nat} {s r : Nat} {g : Nat → Int32} {p0 : Int32} {p1 : Int32} : ∀ (l3 : Int32) (l4 : Int32) (s0 : Int32) (g_ : Nat → Int32), AW RX3 "reckon" cX3_reckon 7 none [] (fun _ _ => True) (1) (PN (U := (Nat → Int32)) (fun _ _ => none) (fun zz ad => [(s, .inr (5, [.ref r])), (r, .inl (0, 21, .inl zz))])) 0 0 (fX3_reckon_75 N K g p0 p1  l3 l4 s0 g_) 75 [(0, .ref s), (3, .int l3), (4, .int l4)] [.int s0] [(s, .inr (5, [.ref r])), (r, .inl (0, 21, .inl g_))] := by
  intro l3 l4 s0 g_
  refine aw_istore (q := 77) (lv' := [(5, .int s0), (0, .ref s), (3, .int l3), (4, .int l4)]) gdX3_reckon_65.2.2.2.2.2.1 rfl (by decide) rfl ?_
  refine aw_iconst (q := 78) (v := 1) gdX3_reckon_65.2.2.2.2.2.2.1 rfl (by decide) ?_
  refine aw_istore (q := 80) (lv' := [(6, .int (1 : Int32)), (5, .int s0), (0, .ref s), (3, .int l3), (4, .int l4)]) gdX3_reckon_65.2.2.2.2.2.2.2 rfl (by decide) rfl ?_
  refine aw_locals (lv' := [(0, .ref s), (3, .int l3), (4, .int l4), (5, .int s0), (6, .int (1 : Int32))]) [2, 3, 4, 1, 0] rfl ?_
  exact tX3_reckon_80  N _ _ _ _ _
def fX3_reckon_70 (N K : Nat) (g : Nat → Int32) (p0 : Int32) (p1 : Int32) (l3 : Int32) (l4 : Int32) (g_ : Nat → Int32) : Option ((Nat → Int32)) :=
  fX3_reckon_75 N K g p0 p1  l3 l4 (1 : Int32) g_
set_option maxHeartbeats 4000000 in
set_option maxRecDepth 100000 in
theorem tX3_reckon_70 {N K : Nat} {s r : Nat} {g : Nat → Int32} {p0 : Int32} {p1 : Int32} : ∀ (l3 : Int32) (l4 : Int32) (g_ : Nat → Int32), AW RX3 "reckon" cX3_reckon 7 none [] (fun _ _ => True) (1) (PN (U := (Nat → Int32)) (fun _ _ => none) (fun zz ad => [(s, .inr (5, [.ref r])), (r, .inl (0, 21, .inl zz))])) 0 0 (fX3_reckon_70 N K g p0 p1  l3 l4 g_) 70 [(0, .ref s), (3, .int l3), (4, .int l4)] [] [(s, .inr (5, [.ref r])), (r, .inl (0, 21, .inl g_))] := by
  intro l3 l4 g_
  refine aw_iconst (q := 71) (v := 1) gdX3_reckon_65.2.2.1 rfl (by decide) ?_
  refine aw_goto (tgt := 75) gdX3_reckon_65.2.2.2.1 (by decide) ?_
  exact tX3_reckon_75  _ _ _ _
def fX3_reckon_52 (N K : Nat) (g : Nat → Int32) (p0 : Int32) (p1 : Int32) (l3 : Int32) (s0 : Int32) (g_ : Nat → Int32) : Option ((Nat → Int32)) :=
  (if p0 = (2 : Int32) then fX3_reckon_70 N K g p0 p1  l3 s0 g_ else (if p0 = (4 : Int32) then fX3_reckon_70 N K g p0 p1  l3 s0 g_ else (if p0 = (7 : Int32) then fX3_reckon_70 N K g p0 p1  l3 s0 g_ else fX3_reckon_75 N K g p0 p1  l3 s0 (0 : Int32) g_)))
set_option maxHeartbeats 4000000 in
set_option maxRecDepth 100000 in
theorem tX3_reckon_52 {N K : Nat} {s r : Nat} {g : Nat → Int32} {p0 : Int32} {p1 : Int32} : ∀ (l3 : Int32) (s0 : Int32) (g_ : Nat → Int32), AW RX3 "reckon" cX3_reckon 7 none [] (fun _ _ => True) (1) (PN (U := (Nat → Int32)) (fun _ _ => none) (fun zz ad => [(s, .inr (5, [.ref r])), (r, .inl (0, 21, .inl zz))])) 0 0 (fX3_reckon_52 N K g p0 p1  l3 s0 g_) 52 [(0, .ref s), (1, .int p0), (3, .int l3)] [.int s0] [(s, .inr (5, [.ref r])), (r, .inl (0, 21, .inl g_))] := by
  intro l3 s0 g_
  refine aw_istore (q := 54) (lv' := [(4, .int s0), (0, .ref s), (1, .int p0), (3, .int l3)]) gdX3_reckon_52.1 rfl (by decide) rfl ?_
  refine aw_iload_n (q := 55) gdX3_reckon_52.2.1 rfl 2 rfl ?_
  refine aw_iconst (q := 56) (v := 2) gdX3_reckon_52.2.2.1 rfl (by decide) ?_
  refine aw_icmp_eq (tgt := 70) (q := 59) gdX3_reckon_52.2.2.2.1 (by decide) rfl (fun h_56 => ?_) (fun h_56 => ?_)
  · refine aw_locals (lv' := [(0, .ref s), (3, .int l3), (4, .int s0)]) [1, 3, 0] rfl ?_
    exact tX3_reckon_70  _ _ _
  · refine aw_iload_n (q := 60) gdX3_reckon_52.2.2.2.2.1 rfl 2 rfl ?_
    refine aw_iconst (q := 61) (v := 4) gdX3_reckon_52.2.2.2.2.2.1 rfl (by decide) ?_
    refine aw_icmp_eq (tgt := 70) (q := 64) gdX3_reckon_52.2.2.2.2.2.2.1 (by decide) rfl (fun h_61 => ?_) (fun h_61 => ?_)
    · refine aw_locals (lv' := [(0, .ref s), (3, .int l3), (4, .int s0)]) [1, 3, 0] rfl ?_
      exact tX3_reckon_70  _ _ _
    · refine aw_iload_n (q := 65) gdX3_reckon_52.2.2.2.2.2.2.2 rfl 2 rfl ?_
      refine aw_bipush (q := 67) (v := 7) gdX3_reckon_65.1 rfl (by decide) ?_
      refine aw_icmp_ne (tgt := 74) (q := 70) gdX3_reckon_65.2.1 (by decide) rfl (fun h_67 => ?_) (fun h_67 => ?_)
      · refine aw_iconst (q := 75) (v := 0) gdX3_reckon_65.2.2.2.2.1 rfl (by decide) ?_
        refine aw_locals (lv' := [(0, .ref s), (3, .int l3), (4, .int s0)]) [1, 3, 0] rfl ?_
        exact tX3_reckon_75  _ _ _ _
      · refine aw_locals (lv' := [(0, .ref s), (3, .int l3), (4, .int s0)]) [1, 3, 0] rfl ?_
        exact tX3_reckon_70  _ _ _
def fX3_reckon_47 (N K : Nat) (g : Nat → Int32) (p0 : Int32) (p1 : Int32) (l3 : Int32) (g_ : Nat → Int32) : Option ((Nat → Int32)) :=
  fX3_reckon_52 N K g p0 p1  l3 (1 : Int32) g_
set_option maxHeartbeats 4000000 in
set_option maxRecDepth 100000 in
theorem tX3_reckon_47 {N K : Nat} {s r : Nat} {g : Nat → Int32} {p0 : Int32} {p1 : Int32} : ∀ (l3 : Int32) (g_ : Nat → Int32), AW RX3 "reckon" cX3_reckon 7 none [] (fun _ _ => True) (1) (PN (U := (Nat → Int32)) (fun _ _ => none) (fun zz ad => [(s, .inr (5, [.ref r])), (r, .inl (0, 21, .inl zz))])) 0 0 (fX3_reckon_47 N K g p0 p1  l3 g_) 47 [(0, .ref s), (1, .int p0), (3, .int l3)] [] [(s, .inr (5, [.ref r])), (r, .inl (0, 21, .inl g_))] := by
  intro l3 g_
  refine aw_iconst (q := 48) (v := 1) gdX3_reckon_37.2.2.2.2.2.1 rfl (by decide) ?_
  refine aw_goto (tgt := 52) gdX3_reckon_37.2.2.2.2.2.2.1 (by decide) ?_
  exact tX3_reckon_52  _ _ _
def fX3_reckon_30 (N K : Nat) (g : Nat → Int32) (p0 : Int32) (p1 : Int32) (s0 : Int32) (g_ : Nat → Int32) : Option ((Nat → Int32)) :=
  (if p0 = (3 : Int32) then fX3_reckon_47 N K g p0 p1  s0 g_ else (if p0 = (4 : Int32) then fX3_reckon_47 N K g p0 p1  s0 g_ else (if p0 = (7 : Int32) then fX3_reckon_47 N K g p0 p1  s0 g_ else fX3_reckon_52 N K g p0 p1  s0 (0 : Int32) g_)))
set_option maxHeartbeats 4000000 in
set_option maxRecDepth 100000 in
theorem tX3_reckon_30 {N K : Nat} {s r : Nat} {g : Nat → Int32} {p0 : Int32} {p1 : Int32} : ∀ (s0 : Int32) (g_ : Nat → Int32), AW RX3 "reckon" cX3_reckon 7 none [] (fun _ _ => True) (1) (PN (U := (Nat → Int32)) (fun _ _ => none) (fun zz ad => [(s, .inr (5, [.ref r])), (r, .inl (0, 21, .inl zz))])) 0 0 (fX3_reckon_30 N K g p0 p1  s0 g_) 30 [(0, .ref s), (1, .int p0)] [.int s0] [(s, .inr (5, [.ref r])), (r, .inl (0, 21, .inl g_))] := by
  intro s0 g_
  refine aw_istore_n (q := 31) (lv' := [(3, .int s0), (0, .ref s), (1, .int p0)]) gdX3_reckon_25.2.2.2.1 rfl (by decide) rfl ?_
  refine aw_iload_n (q := 32) gdX3_reckon_25.2.2.2.2.1 rfl 2 rfl ?_
  refine aw_iconst (q := 33) (v := 3) gdX3_reckon_25.2.2.2.2.2.1 rfl (by decide) ?_
  refine aw_icmp_eq (tgt := 47) (q := 36) gdX3_reckon_25.2.2.2.2.2.2.1 (by decide) rfl (fun h_33 => ?_) (fun h_33 => ?_)
  · refine aw_locals (lv' := [(0, .ref s), (1, .int p0), (3, .int s0)]) [1, 2, 0] rfl ?_
    exact tX3_reckon_47  _ _
  · refine aw_iload_n (q := 37) gdX3_reckon_25.2.2.2.2.2.2.2 rfl 2 rfl ?_
    refine aw_iconst (q := 38) (v := 4) gdX3_reckon_37.1 rfl (by decide) ?_
    refine aw_icmp_eq (tgt := 47) (q := 41) gdX3_reckon_37.2.1 (by decide) rfl (fun h_38 => ?_) (fun h_38 => ?_)
    · refine aw_locals (lv' := [(0, .ref s), (1, .int p0), (3, .int s0)]) [1, 2, 0] rfl ?_
      exact tX3_reckon_47  _ _
    · refine aw_iload_n (q := 42) gdX3_reckon_37.2.2.1 rfl 2 rfl ?_
      refine aw_bipush (q := 44) (v := 7) gdX3_reckon_37.2.2.2.1 rfl (by decide) ?_
      refine aw_icmp_ne (tgt := 51) (q := 47) gdX3_reckon_37.2.2.2.2.1 (by decide) rfl (fun h_44 => ?_) (fun h_44 => ?_)
      · refine aw_iconst (q := 52) (v := 0) gdX3_reckon_37.2.2.2.2.2.2.2 rfl (by decide) ?_
        refine aw_locals (lv' := [(0, .ref s), (1, .int p0), (3, .int s0)]) [1, 2, 0] rfl ?_
        exact tX3_reckon_52  _ _ _
      · refine aw_locals (lv' := [(0, .ref s), (1, .int p0), (3, .int s0)]) [1, 2, 0] rfl ?_
        exact tX3_reckon_47  _ _
def fX3_reckon (N K : Nat) (g : Nat → Int32) (p0 : Int32) (p1 : Int32) : Option ((Nat → Int32)) :=
  ((fJ_fill N K 21 g (0 : Int32)).bind (fun x5 => (if p0 = (7 : Int32) then fX3_reckon_30 N K g p0 p1  (((2 : Int32) * p1) - (1 : Int32)) (upd x5 (0 : Int32).toNatClampNeg (1 : Int32)) else fX3_reckon_30 N K g p0 p1  p1 (upd x5 (0 : Int32).toNatClampNeg (1 : Int32)))))
set_option maxHeartbeats 4000000 in
set_option maxRecDepth 100000 in
theorem ok_X3_reckon {N K : Nat} {s r : Nat} {g : Nat → Int32} {p0 : Int32} {p1 : Int32} {xr : (Nat → Int32)} (hE : fX3_reckon N K g p0 p1 = some xr) : OkM yX3_reckon (.code yX3_reckon cX3_reckon 7 none) (1) 0 0 [.ref s, .int p0, .int p1] [(s, .inr (5, [.ref r])), (r, .inl (0, 21, .inl g))] ((PN (U := (Nat → Int32)) (fun _ _ => none) (fun zz ad => [(s, .inr (5, [.ref r])), (r, .inl (0, 21, .inl zz))])) xr) := by
  refine ok_of (by decide) (Nat.le_of_ble_eq_true rfl) hE ?_
  refine aw_locals (lv' := [(0, .ref s), (1, .int p0), (2, .int p1)]) [0, 1, 2] rfl ?_
  refine aw_aload_n (q := 1) gdX3_reckon_0.1 rfl 0 rfl ?_
  refine aw_get (q := 4) gdX3_reckon_0.2.1 rfl fl_X3_9 0 rfl rfl ?_
  refine aw_iconst (q := 5) (v := 0) gdX3_reckon_0.2.2.1 rfl (by decide) ?_
  refine aw_call (q := 8) (kc1 := 0) (ks1 := 0) (wc := [(r, .inl (0, 21, .inl g))]) (wr := [(s, .inr (5, [.ref r]))]) (st1 := fun x5 g5 => []) (ws1 := fun x5 g5 => [(s, .inr (5, [.ref r])), (r, .inl (0, 21, .inl x5))]) (As := [.ref r, .int (0 : Int32)]) [1] [0] (fun _ => runS gdX3_reckon_0.2.2.2.1 mi_J7_fill_53178 st_J7_fill_53178 ml_X3_23 (by omega) rfl (Nat.le_of_ble_eq_true rfl) rfl) (fun x9 h9 => ok_J_fill h9) rfl rfl rfl rfl rfl (by decide +kernel) (by omega) (by omega) (fun _ _ => rfl) (fun _ _ => rfl) (fun x5 g5 => ?_)
  refine aw_aload_n (q := 9) gdX3_reckon_0.2.2.2.2.1 rfl 0 rfl ?_
  refine aw_get (q := 12) gdX3_reckon_0.2.2.2.2.2.1 rfl fl_X3_9 0 rfl rfl ?_
  refine aw_iconst (q := 13) (v := 0) gdX3_reckon_0.2.2.2.2.2.2.1 rfl (by decide) ?_
  refine aw_iconst (q := 14) (v := 1) gdX3_reckon_0.2.2.2.2.2.2.2 rfl (by decide) ?_
  refine aw_iastT (q := 15) (ws' := [(s, .inr (5, [.ref r])), (r, .inl (0, 21, .inl (upd x5 (0 : Int32).toNatClampNeg (1 : Int32))))]) (by decide) gdX3_reckon_14.1 rfl 1 rfl rfl ?_
  refine aw_iload_n (q := 16) gdX3_reckon_14.2.1 rfl 1 rfl ?_
  refine aw_bipush (q := 18) (v := 7) gdX3_reckon_14.2.2.1 rfl (by decide) ?_
  refine aw_icmp_ne (tgt := 29) (q := 21) gdX3_reckon_14.2.2.2.1 (by decide) rfl (fun h_18 => ?_) (fun h_18 => ?_)
  · refine aw_iload_n (q := 30) gdX3_reckon_25.2.2.1 rfl 2 rfl ?_
    refine aw_locals (lv' := [(0, .ref s), (1, .int p0)]) [0, 1] rfl ?_
    exact tX3_reckon_30  _ _
  · refine aw_iconst (q := 22) (v := 2) gdX3_reckon_14.2.2.2.2.1 rfl (by decide) ?_
    refine aw_iload_n (q := 23) gdX3_reckon_14.2.2.2.2.2.1 rfl 2 rfl ?_
    refine aw_imul (q := 24) gdX3_reckon_14.2.2.2.2.2.2.1 rfl ?_
    refine aw_iconst (q := 25) (v := 1) gdX3_reckon_14.2.2.2.2.2.2.2 rfl (by decide) ?_
    refine aw_isub (q := 26) gdX3_reckon_25.1 rfl ?_
    refine aw_goto (tgt := 30) gdX3_reckon_25.2.1 (by decide) ?_
    refine aw_locals (lv' := [(0, .ref s), (1, .int p0)]) [0, 1] rfl ?_
    exact tX3_reckon_30  _ _
def fX3_reckoned_32 (N K : Nat) (g : Nat → Int32) (p0 : Int32) (p1 : Int32) (p2 : Int32) (l4 : Int32) : Option (Int32) :=
  (if l4 < 0 then (some (0 : Int32)) else (if l4 < (21 : Int32) then (if l4 < 0 ∨ 21 ≤ l4.toNatClampNeg then none else (some (g l4.toNatClampNeg))) else (some (0 : Int32))))
set_option maxHeartbeats 4000000 in
set_option maxRecDepth 100000 in
theorem tX3_reckoned_32 {N K : Nat} {s r : Nat} {g : Nat → Int32} {p0 : Int32} {p1 : Int32} {p2 : Int32} : ∀ (l4 : Int32), AW RX3 "reckoned" cX3_reckoned 5 (some .int) [] (fun _ _ => True) (0) (PN (U := Int32) (fun zz _ => some (.int zz)) (fun zz ad => [(s, .inr (5, [.ref r])), (r, .inl (0, 21, .inl g))])) 0 0 (fX3_reckoned_32 N K g p0 p1 p2  l4) 32 [(0, .ref s), (4, .int l4)] [] [(s, .inr (5, [.ref r])), (r, .inl (0, 21, .inl g))] := by
  intro l4
  refine aw_iload (q := 34) gdX3_reckoned_24.2.2.2.2.2.2.2 rfl 1 rfl ?_
  refine aw_if_lt (tgt := 47) (q := 37) gdX3_reckoned_34.1 (by decide) rfl (fun h_34 => ?_) (fun h_34 => ?_)
  · refine aw_iconst (q := 48) (v := 0) gdX3_reckoned_34.2.2.2.2.2.2.1 rfl (by decide) ?_
    refine aw_goto (tgt := 58) gdX3_reckoned_34.2.2.2.2.2.2.2 (by decide) ?_
    exact aw_ireturn (w := [(s, .inr (5, [.ref r])), (r, .inl (0, 21, .inl g))]) [0, 1] gdX3_reckoned_51.2.2.2.2 rfl rfl rfl rfl (PN.mk (fun _ => 0) rfl rfl)
  · refine aw_iload (q := 39) gdX3_reckoned_34.2.1 rfl 1 rfl ?_
    refine aw_aload_n (q := 40) gdX3_reckoned_34.2.2.1 rfl 0 rfl ?_
    refine aw_get (q := 43) gdX3_reckoned_34.2.2.2.1 rfl fl_X3_9 0 rfl rfl ?_
    refine aw_alen (q := 44) (v := 21) gdX3_reckoned_34.2.2.2.2.1 rfl 1 rfl (by decide) rfl ?_
    refine aw_icmp_lt (tgt := 51) (q := 47) gdX3_reckoned_34.2.2.2.2.2.1 (by decide) rfl (fun h_44 => ?_) (fun h_44 => ?_)
    · refine aw_aload_n (q := 52) gdX3_reckoned_51.1 rfl 0 rfl ?_
      refine aw_get (q := 55) gdX3_reckoned_51.2.1 rfl fl_X3_9 0 rfl rfl ?_
      refine aw_iload (q := 57) gdX3_reckoned_51.2.2.1 rfl 1 rfl ?_
      refine aw_iald (q := 58) gdX3_reckoned_51.2.2.2.1 rfl 1 rfl ?_
      exact aw_ireturn (w := [(s, .inr (5, [.ref r])), (r, .inl (0, 21, .inl g))]) [0, 1] gdX3_reckoned_51.2.2.2.2 rfl rfl rfl rfl (PN.mk (fun _ => 0) rfl rfl)
    · refine aw_iconst (q := 48) (v := 0) gdX3_reckoned_34.2.2.2.2.2.2.1 rfl (by decide) ?_
      refine aw_goto (tgt := 58) gdX3_reckoned_34.2.2.2.2.2.2.2 (by decide) ?_
      exact aw_ireturn (w := [(s, .inr (5, [.ref r])), (r, .inl (0, 21, .inl g))]) [0, 1] gdX3_reckoned_51.2.2.2.2 rfl rfl rfl rfl (PN.mk (fun _ => 0) rfl rfl)
def fX3_reckoned (N K : Nat) (g : Nat → Int32) (p0 : Int32) (p1 : Int32) (p2 : Int32) : Option (Int32) :=
  (if p0 = (1 : Int32) then fX3_reckoned_32 N K g p0 p1 p2  (p1 - p2) else (if p0 = (5 : Int32) then fX3_reckoned_32 N K g p0 p1 p2  (p1 - ((p2 * (p2 + (1 : Int32))) / (2 : Int32))) else fX3_reckoned_32 N K g p0 p1 p2  p1))
set_option maxHeartbeats 4000000 in
set_option maxRecDepth 100000 in
theorem ok_X3_reckoned {N K : Nat} {s r : Nat} {g : Nat → Int32} {p0 : Int32} {p1 : Int32} {p2 : Int32} {xr : Int32} (hE : fX3_reckoned N K g p0 p1 p2 = some xr) : OkM yX3_reckoned (.code yX3_reckoned cX3_reckoned 5 (some .int)) (0) 0 0 [.ref s, .int p0, .int p1, .int p2] [(s, .inr (5, [.ref r])), (r, .inl (0, 21, .inl g))] ((PN (U := Int32) (fun zz _ => some (.int zz)) (fun zz ad => [(s, .inr (5, [.ref r])), (r, .inl (0, 21, .inl g))])) xr) := by
  refine ok_of (by decide) (Nat.le_of_ble_eq_true rfl) hE ?_
  refine aw_locals (lv' := [(0, .ref s), (1, .int p0), (2, .int p1), (3, .int p2)]) [0, 1, 2, 3] rfl ?_
  refine aw_iload_n (q := 1) gdX3_reckoned_0.1 rfl 2 rfl ?_
  refine aw_istore (q := 3) (lv' := [(4, .int p1), (0, .ref s), (1, .int p0), (2, .int p1), (3, .int p2)]) gdX3_reckoned_0.2.1 rfl (by decide) rfl ?_
  refine aw_iload_n (q := 4) gdX3_reckoned_0.2.2.1 rfl 2 rfl ?_
  refine aw_iconst (q := 5) (v := 1) gdX3_reckoned_0.2.2.2.1 rfl (by decide) ?_
  refine aw_icmp_ne (tgt := 16) (q := 8) gdX3_reckoned_0.2.2.2.2.1 (by decide) rfl (fun h_5 => ?_) (fun h_5 => ?_)
  · refine aw_iload_n (q := 17) gdX3_reckoned_11.2.2.1 rfl 2 rfl ?_
    refine aw_iconst (q := 18) (v := 5) gdX3_reckoned_11.2.2.2.1 rfl (by decide) ?_
    refine aw_icmp_ne (tgt := 32) (q := 21) gdX3_reckoned_11.2.2.2.2.1 (by decide) rfl (fun h_18 => ?_) (fun h_18 => ?_)
    · refine aw_locals (lv' := [(0, .ref s), (4, .int p1)]) [1, 0] rfl ?_
      exact tX3_reckoned_32  _
    · refine aw_iload_n (q := 22) gdX3_reckoned_11.2.2.2.2.2.1 rfl 3 rfl ?_
      refine aw_iload_n (q := 23) gdX3_reckoned_11.2.2.2.2.2.2.1 rfl 4 rfl ?_
      refine aw_iload_n (q := 24) gdX3_reckoned_11.2.2.2.2.2.2.2 rfl 4 rfl ?_
      refine aw_iconst (q := 25) (v := 1) gdX3_reckoned_24.1 rfl (by decide) ?_
      refine aw_iadd (q := 26) gdX3_reckoned_24.2.1 rfl ?_
      refine aw_imul (q := 27) gdX3_reckoned_24.2.2.1 rfl ?_
      refine aw_iconst (q := 28) (v := 2) gdX3_reckoned_24.2.2.2.1 rfl (by decide) ?_
      refine aw_idivT (q := 29) gdX3_reckoned_24.2.2.2.2.1 rfl (by decide) ?_
      refine aw_isub (q := 30) gdX3_reckoned_24.2.2.2.2.2.1 rfl ?_
      refine aw_istore (q := 32) (lv' := [(4, .int (p1 - ((p2 * (p2 + (1 : Int32))) / (2 : Int32)))), (0, .ref s), (1, .int p0), (2, .int p1), (3, .int p2)]) gdX3_reckoned_24.2.2.2.2.2.2.1 rfl (by decide) rfl ?_
      refine aw_locals (lv' := [(0, .ref s), (4, .int (p1 - ((p2 * (p2 + (1 : Int32))) / (2 : Int32))))]) [1, 0] rfl ?_
      exact tX3_reckoned_32  _
  · refine aw_iload_n (q := 9) gdX3_reckoned_0.2.2.2.2.2.1 rfl 3 rfl ?_
    refine aw_iload_n (q := 10) gdX3_reckoned_0.2.2.2.2.2.2.1 rfl 4 rfl ?_
    refine aw_isub (q := 11) gdX3_reckoned_0.2.2.2.2.2.2.2 rfl ?_
    refine aw_istore (q := 13) (lv' := [(4, .int (p1 - p2)), (0, .ref s), (1, .int p0), (2, .int p1), (3, .int p2)]) gdX3_reckoned_11.1 rfl (by decide) rfl ?_
    refine aw_goto (tgt := 32) gdX3_reckoned_11.2.1 (by decide) ?_
    refine aw_locals (lv' := [(0, .ref s), (4, .int (p1 - p2))]) [1, 0] rfl ?_
    exact tX3_reckoned_32  _
def fX3_tells (N K : Nat) (g : Nat → Int32) (p0 : Int32) (p1 : Int32) (p2 : Int32) : Option (Int32 × (Nat → Int32)) :=
  ((fX3_reckon N K g p0 p2).bind (fun x3 => ((fX3_reckoned N K x3 p0 p1 p2).bind (fun x10 => (some (x10, x3))))))
set_option maxHeartbeats 4000000 in
set_option maxRecDepth 100000 in
theorem ok_X3_tells {N K : Nat} {s r : Nat} {g : Nat → Int32} {p0 : Int32} {p1 : Int32} {p2 : Int32} {xr : Int32 × (Nat → Int32)} (hE : fX3_tells N K g p0 p1 p2 = some xr) : OkM yX3_tells (.code yX3_tells cX3_tells 4 (some .int)) (2) 0 0 [.ref s, .int p0, .int p1, .int p2] [(s, .inr (5, [.ref r])), (r, .inl (0, 21, .inl g))] ((PN (U := Int32 × (Nat → Int32)) (fun zz _ => some (.int zz.1)) (fun zz ad => [(s, .inr (5, [.ref r])), (r, .inl (0, 21, .inl zz.2))])) xr) := by
  refine ok_of (by decide) (Nat.le_of_ble_eq_true rfl) hE ?_
  refine aw_locals (lv' := [(0, .ref s), (1, .int p0), (2, .int p1), (3, .int p2)]) [0, 1, 2, 3] rfl ?_
  refine aw_aload_n (q := 1) gdX3_tells_0.1 rfl 0 rfl ?_
  refine aw_iload_n (q := 2) gdX3_tells_0.2.1 rfl 1 rfl ?_
  refine aw_iload_n (q := 3) gdX3_tells_0.2.2.1 rfl 3 rfl ?_
  refine aw_call (q := 6) (kc1 := 0) (ks1 := 0) (wc := [(s, .inr (5, [.ref r])), (r, .inl (0, 21, .inl g))]) (wr := []) (st1 := fun x3 g3 => []) (ws1 := fun x3 g3 => [(s, .inr (5, [.ref r])), (r, .inl (0, 21, .inl x3))]) (As := [.ref s, .int p0, .int p2]) [0, 1] [] (fun _ => runV (q0 := 0) gdX3_tells_0.2.2.2.1 mi_X3_reckon im_X3_reckon se_X3_reckon ml_X3_15 (by omega) rfl (Nat.le_of_ble_eq_true rfl) rfl rfl rfl rfl) (fun x9 h9 => ok_X3_reckon h9) rfl rfl rfl rfl rfl (by decide +kernel) (by omega) (by omega) (fun _ _ => rfl) (fun _ _ => rfl) (fun x3 g3 => ?_)
  refine aw_aload_n (q := 7) gdX3_tells_0.2.2.2.2.1 rfl 0 rfl ?_
  refine aw_iload_n (q := 8) gdX3_tells_0.2.2.2.2.2.1 rfl 1 rfl ?_
  refine aw_iload_n (q := 9) gdX3_tells_0.2.2.2.2.2.2.1 rfl 2 rfl ?_
  refine aw_iload_n (q := 10) gdX3_tells_0.2.2.2.2.2.2.2 rfl 3 rfl ?_
  refine aw_call (q := 13) (kc1 := 0) (ks1 := 0) (wc := [(s, .inr (5, [.ref r])), (r, .inl (0, 21, .inl x3))]) (wr := []) (st1 := fun x10 g10 => [.int x10]) (ws1 := fun x10 g10 => [(s, .inr (5, [.ref r])), (r, .inl (0, 21, .inl x3))]) (As := [.ref s, .int p0, .int p1, .int p2]) [0, 1] [] (fun _ => runV (q0 := 0) gdX3_tells_10.1 mi_X3_reckoned im_X3_reckoned se_X3_reckoned ml_X3_19 (by omega) rfl (Nat.le_of_ble_eq_true rfl) rfl rfl rfl rfl) (fun x9 h9 => ok_X3_reckoned h9) rfl rfl rfl rfl rfl (by decide +kernel) (by omega) (by omega) (fun _ _ => rfl) (fun _ _ => rfl) (fun x10 g10 => ?_)
  exact aw_ireturn (w := [(s, .inr (5, [.ref r])), (r, .inl (0, 21, .inl x3))]) [0, 1] gdX3_tells_10.2 rfl rfl rfl rfl (PN.mk (fun _ => 0) rfl rfl)
