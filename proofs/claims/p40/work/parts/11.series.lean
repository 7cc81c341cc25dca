def fX3_takeOften_8 (N K : Nat) (g : Nat → Int32) (p0 : Int32) : Nat → Int32 → (Nat → Int32) → Option ((Nat → Int32))
  | 0, _, _ => none
  | fu + 1, l2, g_ =>
    (if (21 : Int32) ≤ l2 then (some g_) else (if l2 < 0 ∨ 21 ≤ l2.toNatClampNeg then none else (if (l2 - p0) < 0 ∨ 21 ≤ (l2 - p0).toNatClampNeg then none else (if l2 < 0 ∨ 21 ≤ l2.toNatClampNeg then none else fX3_takeOften_8 N K g p0  fu (l2 + (1 : Int32)) (upd g_ l2.toNatClampNeg ((g_ l2.toNatClampNeg) + (g_ (l2 - p0).toNatClampNeg)))))))
set_option maxHeartbeats 4000000 in
set_option maxRecDepth 100000 in
theorem tX3_takeOften_8 {N K : Nat} {s r : Nat} {g : Nat → Int32} {p0 : Int32} : ∀ (fu : Nat) (l2 : Int32) (g_ : Nat → Int32), AW RX3 "takeOften" cX3_takeOften 3 none [] (fun _ _ => True) (0) (PN (U := (Nat → Int32)) (fun _ _ => none) (fun zz ad => [(s, .inr (5, [.ref r])), (r, .inl (0, 21, .inl zz))])) 0 0 (fX3_takeOften_8 N K g p0  fu l2 g_) 8 [(0, .ref s), (1, .int p0), (2, .int l2)] [] [(s, .inr (5, [.ref r])), (r, .inl (0, 21, .inl g_))] := by
  intro fu
  induction fu with
  | zero => intro l2 g_; exact aw_none
  | succ fu ih =>
    intro l2 g_
    refine aw_iload_n (q := 9) dX3_takeOften_8 rfl 2 rfl ?_
    refine aw_aload_n (q := 10) dX3_takeOften_9 rfl 0 rfl ?_
    refine aw_get (q := 13) dX3_takeOften_10 rfl fl_X3_9 0 rfl rfl ?_
    refine aw_alen (q := 14) (v := 21) dX3_takeOften_13 rfl 1 rfl (by decide) rfl ?_
    refine aw_icmp_ge (tgt := 40) (q := 17) dX3_takeOften_14 (by decide) rfl (fun h_14 => ?_) (fun h_14 => ?_)
    · exact aw_return (w := [(s, .inr (5, [.ref r])), (r, .inl (0, 21, .inl g_))]) [0, 1] dX3_takeOften_40 rfl rfl rfl (PN.mk (fun _ => 0) rfl rfl)
    · refine aw_aload_n (q := 18) dX3_takeOften_17 rfl 0 rfl ?_
      refine aw_get (q := 21) dX3_takeOften_18 rfl fl_X3_9 0 rfl rfl ?_
      refine aw_iload_n (q := 22) dX3_takeOften_21 rfl 2 rfl ?_
      refine aw_dup2 (q := 23) dX3_takeOften_22 rfl rfl rfl ?_
      refine aw_iald (q := 24) dX3_takeOften_23 rfl 1 rfl ?_
      refine aw_aload_n (q := 25) dX3_takeOften_24 rfl 0 rfl ?_
      refine aw_get (q := 28) dX3_takeOften_25 rfl fl_X3_9 0 rfl rfl ?_
      refine aw_iload_n (q := 29) dX3_takeOften_28 rfl 2 rfl ?_
      refine aw_iload_n (q := 30) dX3_takeOften_29 rfl 1 rfl ?_
      refine aw_isub (q := 31) dX3_takeOften_30 rfl ?_
      refine aw_iald (q := 32) dX3_takeOften_31 rfl 1 rfl ?_
      refine aw_iadd (q := 33) dX3_takeOften_32 rfl ?_
      refine aw_iast (q := 34) (ws' := [(s, .inr (5, [.ref r])), (r, .inl (0, 21, .inl (upd g_ l2.toNatClampNeg ((g_ l2.toNatClampNeg) + (g_ (l2 - p0).toNatClampNeg)))))]) dX3_takeOften_33 rfl 1 rfl rfl ?_
      refine aw_iinc (q := 37) (v := (l2 + (1 : Int32))) (lv' := [(2, .int (l2 + (1 : Int32))), (0, .ref s), (1, .int p0)]) dX3_takeOften_34 rfl 2 rfl rfl (by decide) rfl ?_
      refine aw_goto (tgt := 8) dX3_takeOften_37 (by decide) ?_
      refine aw_locals (lv' := [(0, .ref s), (1, .int p0), (2, .int (l2 + (1 : Int32)))]) [1, 2, 0] rfl ?_
      exact ih _ _
def fX3_takeOften (N K : Nat) (g : Nat → Int32) (p0 : Int32) : Option ((Nat → Int32)) :=
  (if (1 : Int32) ≤ p0 then fX3_takeOften_8 N K g p0  N p0 g else (some g))
set_option maxHeartbeats 4000000 in
set_option maxRecDepth 100000 in
theorem ok_X3_takeOften {N K : Nat} {s r : Nat} {g : Nat → Int32} {p0 : Int32} {xr : (Nat → Int32)} (hE : fX3_takeOften N K g p0 = some xr) : OkM yX3_takeOften (.code yX3_takeOften cX3_takeOften 3 none) (0) 0 0 [.ref s, .int p0] [(s, .inr (5, [.ref r])), (r, .inl (0, 21, .inl g))] ((PN (U := (Nat → Int32)) (fun _ _ => none) (fun zz ad => [(s, .inr (5, [.ref r])), (r, .inl (0, 21, .inl zz))])) xr) := by
  refine ok_of (by decide) (Nat.le_of_ble_eq_true rfl) hE ?_
  refine aw_locals (lv' := [(0, .ref s), (1, .int p0)]) [0, 1] rfl ?_
  refine aw_iload_n (q := 1) dX3_takeOften_0 rfl 1 rfl ?_
  refine aw_iconst (q := 2) (v := 1) dX3_takeOften_1 rfl (by decide) ?_
  refine aw_icmp_ge (tgt := 6) (q := 5) dX3_takeOften_2 (by decide) rfl (fun h_2 => ?_) (fun h_2 => ?_)
  · refine aw_iload_n (q := 7) dX3_takeOften_6 rfl 1 rfl ?_
    refine aw_istore_n (q := 8) (lv' := [(2, .int p0), (0, .ref s), (1, .int p0)]) dX3_takeOften_7 rfl (by decide) rfl ?_
    refine aw_locals (lv' := [(0, .ref s), (1, .int p0), (2, .int p0)]) [1, 2, 0] rfl ?_
    exact tX3_takeOften_8  N _ _
  · exact aw_return (w := [(s, .inr (5, [.ref r])), (r, .inl (0, 21, .inl g))]) [0, 1] dX3_takeOften_5 rfl rfl rfl (PN.mk (fun _ => 0) rfl rfl)
def fX3_takeOnce_14 (N K : Nat) (g : Nat → Int32) (p0 : Int32) : Nat → Int32 → (Nat → Int32) → Option ((Nat → Int32))
  | 0, _, _ => none
  | fu + 1, l2, g_ =>
    (if l2 < p0 then (some g_) else (if l2 < 0 ∨ 21 ≤ l2.toNatClampNeg then none else (if (l2 - p0) < 0 ∨ 21 ≤ (l2 - p0).toNatClampNeg then none else (if l2 < 0 ∨ 21 ≤ l2.toNatClampNeg then none else fX3_takeOnce_14 N K g p0  fu (l2 + (-1 : Int32)) (upd g_ l2.toNatClampNeg ((g_ l2.toNatClampNeg) + (g_ (l2 - p0).toNatClampNeg)))))))
set_option maxHeartbeats 4000000 in
set_option maxRecDepth 100000 in
theorem tX3_takeOnce_14 {N K : Nat} {s r : Nat} {g : Nat → Int32} {p0 : Int32} : ∀ (fu : Nat) (l2 : Int32) (g_ : Nat → Int32), AW RX3 "takeOnce" cX3_takeOnce 3 none [] (fun _ _ => True) (0) (PN (U := (Nat → Int32)) (fun _ _ => none) (fun zz ad => [(s, .inr (5, [.ref r])), (r, .inl (0, 21, .inl zz))])) 0 0 (fX3_takeOnce_14 N K g p0  fu l2 g_) 14 [(0, .ref s), (1, .int p0), (2, .int l2)] [] [(s, .inr (5, [.ref r])), (r, .inl (0, 21, .inl g_))] := by
  intro fu
  induction fu with
  | zero => intro l2 g_; exact aw_none
  | succ fu ih =>
    intro l2 g_
    refine aw_iload_n (q := 15) dX3_takeOnce_14 rfl 2 rfl ?_
    refine aw_iload_n (q := 16) dX3_takeOnce_15 rfl 1 rfl ?_
    refine aw_icmp_lt (tgt := 42) (q := 19) dX3_takeOnce_16 (by decide) rfl (fun h_16 => ?_) (fun h_16 => ?_)
    · exact aw_return (w := [(s, .inr (5, [.ref r])), (r, .inl (0, 21, .inl g_))]) [0, 1] dX3_takeOnce_42 rfl rfl rfl (PN.mk (fun _ => 0) rfl rfl)
    · refine aw_aload_n (q := 20) dX3_takeOnce_19 rfl 0 rfl ?_
      refine aw_get (q := 23) dX3_takeOnce_20 rfl fl_X3_9 0 rfl rfl ?_
      refine aw_iload_n (q := 24) dX3_takeOnce_23 rfl 2 rfl ?_
      refine aw_dup2 (q := 25) dX3_takeOnce_24 rfl rfl rfl ?_
      refine aw_iald (q := 26) dX3_takeOnce_25 rfl 1 rfl ?_
      refine aw_aload_n (q := 27) dX3_takeOnce_26 rfl 0 rfl ?_
      refine aw_get (q := 30) dX3_takeOnce_27 rfl fl_X3_9 0 rfl rfl ?_
      refine aw_iload_n (q := 31) dX3_takeOnce_30 rfl 2 rfl ?_
      refine aw_iload_n (q := 32) dX3_takeOnce_31 rfl 1 rfl ?_
      refine aw_isub (q := 33) dX3_takeOnce_32 rfl ?_
      refine aw_iald (q := 34) dX3_takeOnce_33 rfl 1 rfl ?_
      refine aw_iadd (q := 35) dX3_takeOnce_34 rfl ?_
      refine aw_iast (q := 36) (ws' := [(s, .inr (5, [.ref r])), (r, .inl (0, 21, .inl (upd g_ l2.toNatClampNeg ((g_ l2.toNatClampNeg) + (g_ (l2 - p0).toNatClampNeg)))))]) dX3_takeOnce_35 rfl 1 rfl rfl ?_
      refine aw_iinc (q := 39) (v := (l2 + (-1 : Int32))) (lv' := [(2, .int (l2 + (-1 : Int32))), (0, .ref s), (1, .int p0)]) dX3_takeOnce_36 rfl 2 rfl rfl (by decide) rfl ?_
      refine aw_goto (tgt := 14) dX3_takeOnce_39 (by decide) ?_
      refine aw_locals (lv' := [(0, .ref s), (1, .int p0), (2, .int (l2 + (-1 : Int32)))]) [1, 2, 0] rfl ?_
      exact ih _ _
def fX3_takeOnce (N K : Nat) (g : Nat → Int32) (p0 : Int32) : Option ((Nat → Int32)) :=
  (if (1 : Int32) ≤ p0 then fX3_takeOnce_14 N K g p0  N ((21 : Int32) - (1 : Int32)) g else (some g))
set_option maxHeartbeats 4000000 in
set_option maxRecDepth 100000 in
theorem ok_X3_takeOnce {N K : Nat} {s r : Nat} {g : Nat → Int32} {p0 : Int32} {xr : (Nat → Int32)} (hE : fX3_takeOnce N K g p0 = some xr) : OkM yX3_takeOnce (.code yX3_takeOnce cX3_takeOnce 3 none) (0) 0 0 [.ref s, .int p0] [(s, .inr (5, [.ref r])), (r, .inl (0, 21, .inl g))] ((PN (U := (Nat → Int32)) (fun _ _ => none) (fun zz ad => [(s, .inr (5, [.ref r])), (r, .inl (0, 21, .inl zz))])) xr) := by
  refine ok_of (by decide) (Nat.le_of_ble_eq_true rfl) hE ?_
  refine aw_locals (lv' := [(0, .ref s), (1, .int p0)]) [0, 1] rfl ?_
  refine aw_iload_n (q := 1) dX3_takeOnce_0 rfl 1 rfl ?_
  refine aw_iconst (q := 2) (v := 1) dX3_takeOnce_1 rfl (by decide) ?_
  refine aw_icmp_ge (tgt := 6) (q := 5) dX3_takeOnce_2 (by decide) rfl (fun h_2 => ?_) (fun h_2 => ?_)
  · refine aw_aload_n (q := 7) dX3_takeOnce_6 rfl 0 rfl ?_
    refine aw_get (q := 10) dX3_takeOnce_7 rfl fl_X3_9 0 rfl rfl ?_
    refine aw_alen (q := 11) (v := 21) dX3_takeOnce_10 rfl 1 rfl (by decide) rfl ?_
    refine aw_iconst (q := 12) (v := 1) dX3_takeOnce_11 rfl (by decide) ?_
    refine aw_isub (q := 13) dX3_takeOnce_12 rfl ?_
    refine aw_istore_n (q := 14) (lv' := [(2, .int ((21 : Int32) - (1 : Int32))), (0, .ref s), (1, .int p0)]) dX3_takeOnce_13 rfl (by decide) rfl ?_
    refine aw_locals (lv' := [(0, .ref s), (1, .int p0), (2, .int ((21 : Int32) - (1 : Int32)))]) [1, 2, 0] rfl ?_
    exact tX3_takeOnce_14  N _ _
  · exact aw_return (w := [(s, .inr (5, [.ref r])), (r, .inl (0, 21, .inl g))]) [0, 1] dX3_takeOnce_5 rfl rfl rfl (PN.mk (fun _ => 0) rfl rfl)
def fX3_reckon_128 (N K : Nat) (g : Nat → Int32) (p0 : Int32) (p1 : Int32) (k_80 : Int32 → Int32 → Int32 → Int32 → (Nat → Int32) → Option ((Nat → Int32))) (l3 : Int32) (l4 : Int32) (l5 : Int32) (l6 : Int32) (g_ : Nat → Int32) : Option ((Nat → Int32)) :=
  k_80 l3 l4 l5 (l6 + (1 : Int32)) g_
set_option maxHeartbeats 4000000 in
set_option maxRecDepth 100000 in
theorem tX3_reckon_128 {N K : Nat} {s r : Nat} {g : Nat → Int32} {p0 : Int32} {p1 : Int32} {k_80 : Int32 → Int32 → Int32 → Int32 → (Nat → Int32) → Option ((Nat → Int32))} (hk_80 : ∀ (l3 : Int32) (l4 : Int32) (l5 : Int32) (l6 : Int32) (g_ : Nat → Int32), AW RX3 "reckon" cX3_reckon 7 none [] (fun _ _ => True) (1) (PN (U := (Nat → Int32)) (fun _ _ => none) (fun zz ad => [(s, .inr (5, [.ref r])), (r, .inl (0, 21, .inl zz))])) 0 0 (k_80 l3 l4 l5 l6 g_) 80 [(0, .ref s), (3, .int l3), (4, .int l4), (5, .int l5), (6, .int l6)] [] [(s, .inr (5, [.ref r])), (r, .inl (0, 21, .inl g_))]) : ∀ (l3 : Int32) (l4 : Int32) (l5 : Int32) (l6 : Int32) (g_ : Nat → Int32), AW RX3 "reckon" cX3_reckon 7 none [] (fun _ _ => True) (1) (PN (U := (Nat → Int32)) (fun _ _ => none) (fun zz ad => [(s, .inr (5, [.ref r])), (r, .inl (0, 21, .inl zz))])) 0 0 (fX3_reckon_128 N K g p0 p1 k_80 l3 l4 l5 l6 g_) 128 [(0, .ref s), (3, .int l3), (4, .int l4), (5, .int l5), (6, .int l6)] [] [(s, .inr (5, [.ref r])), (r, .inl (0, 21, .inl g_))] := by
  intro l3 l4 l5 l6 g_
  refine aw_iinc (q := 131) (v := (l6 + (1 : Int32))) (lv' := [(6, .int (l6 + (1 : Int32))), (0, .ref s), (3, .int l3), (4, .int l4), (5, .int l5)]) dX3_reckon_128 rfl 4 rfl rfl (by decide) rfl ?_
  refine aw_goto (tgt := 80) dX3_reckon_131 (by decide) ?_
  refine aw_locals (lv' := [(0, .ref s), (3, .int l3), (4, .int l4), (5, .int l5), (6, .int (l6 + (1 : Int32)))]) [1, 2, 3, 4, 0] rfl ?_
  exact hk_80 _ _ _ _ _
def fX3_reckon_108 (N K : Nat) (g : Nat → Int32) (p0 : Int32) (p1 : Int32) (k_80 : Int32 → Int32 → Int32 → Int32 → (Nat → Int32) → Option ((Nat → Int32))) (l3 : Int32) (l4 : Int32) (l5 : Int32) (l6 : Int32) (g_ : Nat → Int32) : Option ((Nat → Int32)) :=
  (if l5 = 0 then ((fX3_takeOften N K g_ l6).bind (fun x125 => fX3_reckon_128 N K g p0 p1 k_80 l3 l4 l5 l6 x125)) else ((fX3_takeOnce N K g_ l6).bind (fun x116 => fX3_reckon_128 N K g p0 p1 k_80 l3 l4 l5 l6 x116)))
set_option maxHeartbeats 4000000 in
set_option maxRecDepth 100000 in
theorem tX3_reckon_108 {N K : Nat} {s r : Nat} {g : Nat → Int32} {p0 : Int32} {p1 : Int32} {k_80 : Int32 → Int32 → Int32 → Int32 → (Nat → Int32) → Option ((Nat → Int32))} (hk_80 : ∀ (l3 : Int32) (l4 : Int32) (l5 : Int32) (l6 : Int32) (g_ : Nat → Int32), AW RX3 "reckon" cX3_reckon 7 none [] (fun _ _ => True) (1) (PN (U := (Nat → Int32)) (fun _ _ => none) (fun zz ad => [(s, .inr (5, [.ref r])), (r, .inl (0, 21, .inl zz))])) 0 0 (k_80 l3 l4 l5 l6 g_) 80 [(0, .ref s), (3, .int l3), (4, .int l4), (5, .int l5), (6, .int l6)] [] [(s, .inr (5, [.ref r])), (r, .inl (0, 21, .inl g_))]) : ∀ (l3 : Int32) (l4 : Int32) (l5 : Int32) (l6 : Int32) (g_ : Nat → Int32), AW RX3 "reckon" cX3_reckon 7 none [] (fun _ _ => True) (1) (PN (U := (Nat → Int32)) (fun _ _ => none) (fun zz ad => [(s, .inr (5, [.ref r])), (r, .inl (0, 21, .inl zz))])) 0 0 (fX3_reckon_108 N K g p0 p1 k_80 l3 l4 l5 l6 g_) 108 [(0, .ref s), (3, .int l3), (4, .int l4), (5, .int l5), (6, .int l6)] [] [(s, .inr (5, [.ref r])), (r, .inl (0, 21, .inl g_))] := by
  intro l3 l4 l5 l6 g_
  refine aw_iload (q := 110) dX3_reckon_108 rfl 3 rfl ?_
  refine aw_if_eq (tgt := 122) (q := 113) dX3_reckon_110 (by decide) rfl (fun h_110 => ?_) (fun h_110 => ?_)
  · refine aw_aload_n (q := 123) dX3_reckon_122 rfl 0 rfl ?_
    refine aw_iload (q := 125) dX3_reckon_123 rfl 4 rfl ?_
    refine aw_call (q := 128) (kc1 := 0) (ks1 := 0) (wc := [(s, .inr (5, [.ref r])), (r, .inl (0, 21, .inl g_))]) (wr := []) (st1 := fun x125 g125 => []) (ws1 := fun x125 g125 => [(s, .inr (5, [.ref r])), (r, .inl (0, 21, .inl x125))]) (As := [.ref s, .int l6]) [0, 1] [] (fun _ => runV (q0 := 0) dX3_reckon_125 mi_X3_takeOften im_X3_takeOften se_X3_takeOften ml_X3_33 (by omega) rfl (Nat.le_of_ble_eq_true rfl) rfl rfl rfl rfl) (fun x9 h9 => ok_X3_takeOften h9) rfl rfl rfl rfl rfl (by decide) (by omega) (by omega) (fun _ _ => rfl) (fun _ _ => rfl) (fun x125 g125 => ?_)
    exact tX3_reckon_128 hk_80 _ _ _ _ _
  · refine aw_aload_n (q := 114) dX3_reckon_113 rfl 0 rfl ?_
    refine aw_iload (q := 116) dX3_reckon_114 rfl 4 rfl ?_
    refine aw_call (q := 119) (kc1 := 0) (ks1 := 0) (wc := [(s, .inr (5, [.ref r])), (r, .inl (0, 21, .inl g_))]) (wr := []) (st1 := fun x116 g116 => []) (ws1 := fun x116 g116 => [(s, .inr (5, [.ref r])), (r, .inl (0, 21, .inl x116))]) (As := [.ref s, .int l6]) [0, 1] [] (fun _ => runV (q0 := 0) dX3_reckon_116 mi_X3_takeOnce im_X3_takeOnce se_X3_takeOnce ml_X3_29 (by omega) rfl (Nat.le_of_ble_eq_true rfl) rfl rfl rfl rfl) (fun x9 h9 => ok_X3_takeOnce h9) rfl rfl rfl rfl rfl (by decide) (by omega) (by omega) (fun _ _ => rfl) (fun _ _ => rfl) (fun x116 g116 => ?_)
    refine aw_goto (tgt := 128) dX3_reckon_119 (by decide) ?_
    exact tX3_reckon_128 hk_80 _ _ _ _ _
def fX3_reckon_80 (N K : Nat) (g : Nat → Int32) (p0 : Int32) (p1 : Int32) : Nat → Int32 → Int32 → Int32 → Int32 → (Nat → Int32) → Option ((Nat → Int32))
  | 0, _, _, _, _, _ => none
  | fu + 1, l3, l4, l5, l6, g_ =>
    (if l3 < l6 then (some g_) else (if (20 : Int32) < l6 then (some g_) else (if l4 = 0 then fX3_reckon_108 N K g p0 p1 (fX3_reckon_80 N K g p0 p1  fu) l3 l4 l5 l6 g_ else (if (l6 % (2 : Int32)) = 0 then fX3_reckon_128 N K g p0 p1 (fX3_reckon_80 N K g p0 p1  fu) l3 l4 l5 l6 g_ else fX3_reckon_108 N K g p0 p1 (fX3_reckon_80 N K g p0 p1  fu) l3 l4 l5 l6 g_))))
set_option maxHeartbeats 4000000 in
set_option maxRecDepth 100000 in
theorem tX3_reckon_80 {N K : Nat} {s r : Nat} {g : Nat → Int32} {p0 : Int32} {p1 : Int32} : ∀ (fu : Nat) (l3 : Int32) (l4 : Int32) (l5 : Int32) (l6 : Int32) (g_ : Nat → Int32), AW RX3 "reckon" cX3_reckon 7 none [] (fun _ _ => True) (1) (PN (U := (Nat → Int32)) (fun _ _ => none) (fun zz ad => [(s, .inr (5, [.ref r])), (r, .inl (0, 21, .inl zz))])) 0 0 (fX3_reckon_80 N K g p0 p1  fu l3 l4 l5 l6 g_) 80 [(0, .ref s), (3, .int l3), (4, .int l4), (5, .int l5), (6, .int l6)] [] [(s, .inr (5, [.ref r])), (r, .inl (0, 21, .inl g_))] := by
  intro fu
  induction fu with
  | zero => intro l3 l4 l5 l6 g_; exact aw_none
  | succ fu ih =>
    intro l3 l4 l5 l6 g_
    refine aw_iload (q := 82) dX3_reckon_80 rfl 4 rfl ?_
    refine aw_iload_n (q := 83) dX3_reckon_82 rfl 1 rfl ?_
    refine aw_icmp_gt (tgt := 134) (q := 86) dX3_reckon_83 (by decide) rfl (fun h_83 => ?_) (fun h_83 => ?_)
    · exact aw_return (w := [(s, .inr (5, [.ref r])), (r, .inl (0, 21, .inl g_))]) [0, 1] dX3_reckon_134 rfl rfl rfl (PN.mk (fun _ => 0) rfl rfl)
    · refine aw_iload (q := 88) dX3_reckon_86 rfl 4 rfl ?_
      refine aw_bipush (q := 90) (v := 20) dX3_reckon_88 rfl (by decide) ?_
      refine aw_icmp_gt (tgt := 134) (q := 93) dX3_reckon_90 (by decide) rfl (fun h_90 => ?_) (fun h_90 => ?_)
      · exact aw_return (w := [(s, .inr (5, [.ref r])), (r, .inl (0, 21, .inl g_))]) [0, 1] dX3_reckon_134 rfl rfl rfl (PN.mk (fun _ => 0) rfl rfl)
      · refine aw_iload (q := 95) dX3_reckon_93 rfl 2 rfl ?_
        refine aw_if_eq (tgt := 108) (q := 98) dX3_reckon_95 (by decide) rfl (fun h_95 => ?_) (fun h_95 => ?_)
        · exact tX3_reckon_108 ih _ _ _ _ _
        · refine aw_iload (q := 100) dX3_reckon_98 rfl 4 rfl ?_
          refine aw_iconst (q := 101) (v := 2) dX3_reckon_100 rfl (by decide) ?_
          refine aw_iremT (q := 102) dX3_reckon_101 rfl (by decide) ?_
          refine aw_if_ne (tgt := 108) (q := 105) dX3_reckon_102 (by decide) rfl (fun h_102 => ?_) (fun h_102 => ?_)
          · exact tX3_reckon_108 ih _ _ _ _ _
          · refine aw_goto (tgt := 128) dX3_reckon_105 (by decide) ?_
            exact tX3_reckon_128 ih _ _ _ _ _
def fX3_reckon_75 (N K : Nat) (g : Nat → Int32) (p0 : Int32) (p1 : Int32) (l3 : Int32) (l4 : Int32) (s0 : Int32) (g_ : Nat → Int32) : Option ((Nat → Int32)) :=
  fX3_reckon_80 N K g p0 p1  N l3 l4 s0 (1 : Int32) g_
set_option maxHeartbeats 4000000 in
set_option maxRecDepth 100000 in
theorem tX3_reckon_75 {N K : Nat} {s r : Nat} {g : Nat → Int32} {p0 : Int32} {p1 : Int32} : ∀ (l3 : Int32) (l4 : Int32) (s0 : Int32) (g_ : Nat → Int32), AW RX3 "reckon" cX3_reckon 7 none [] (fun _ _ => True) (1) (PN (U := (Nat → Int32)) (fun _ _ => none) (fun zz ad => [(s, .inr (5, [.ref r])), (r, .inl (0, 21, .inl zz))])) 0 0 (fX3_reckon_75 N K g p0 p1  l3 l4 s0 g_) 75 [(0, .ref s), (3, .int l3), (4, .int l4)] [.int s0] [(s, .inr (5, [.ref r])), (r, .inl (0, 21, .inl g_))] := by
  intro l3 l4 s0 g_
  refine aw_istore (q := 77) (lv' := [(5, .int s0), (0, .ref s), (3, .int l3), (4, .int l4)]) dX3_reckon_75 rfl (by decide) rfl ?_
  refine aw_iconst (q := 78) (v := 1) dX3_reckon_77 rfl (by decide) ?_
  refine aw_istore (q := 80) (lv' := [(6, .int (1 : Int32)), (5, .int s0), (0, .ref s), (3, .int l3), (4, .int l4)]) dX3_reckon_78 rfl (by decide) rfl ?_
  refine aw_locals (lv' := [(0, .ref s), (3, .int l3), (4, .int l4), (5, .int s0), (6, .int (1 : Int32))]) [2, 3, 4, 1, 0] rfl ?_
  exact tX3_reckon_80  N _ _ _ _ _
def fX3_reckon_70 (N K : Nat) (g : Nat → Int32) (p0 : Int32) (p1 : Int32) (l3 : Int32) (l4 : Int32) (g_ : Nat → Int32) : Option ((Nat → Int32)) :=
  fX3_reckon_75 N K g p0 p1  l3 l4 (1 : Int32) g_
set_option maxHeartbeats 4000000 in
set_option maxRecDepth 100000 in
theorem tX3_reckon_70 {N K : Nat} {s r : Nat} {g : Nat → Int32} {p0 : Int32} {p1 : Int32} : ∀ (l3 : Int32) (l4 : Int32) (g_ : Nat → Int32), AW RX3 "reckon" cX3_reckon 7 none [] (fun _ _ => True) (1) (PN (U := (Nat → Int32)) (fun _ _ => none) (fun zz ad => [(s, .inr (5, [.ref r])), (r, .inl (0, 21, .inl zz))])) 0 0 (fX3_reckon_70 N K g p0 p1  l3 l4 g_) 70 [(0, .ref s), (3, .int l3), (4, .int l4)] [] [(s, .inr (5, [.ref r])), (r, .inl (0, 21, .inl g_))] := by
  intro l3 l4 g_
  refine aw_iconst (q := 71) (v := 1) dX3_reckon_70 rfl (by decide) ?_
  refine aw_goto (tgt := 75) dX3_reckon_71 (by decide) ?_
  exact tX3_reckon_75  _ _ _ _
def fX3_reckon_52 (N K : Nat) (g : Nat → Int32) (p0 : Int32) (p1 : Int32) (l3 : Int32) (s0 : Int32) (g_ : Nat → Int32) : Option ((Nat → Int32)) :=
  (if p0 = (2 : Int32) then fX3_reckon_70 N K g p0 p1  l3 s0 g_ else (if p0 = (4 : Int32) then fX3_reckon_70 N K g p0 p1  l3 s0 g_ else (if p0 = (7 : Int32) then fX3_reckon_70 N K g p0 p1  l3 s0 g_ else fX3_reckon_75 N K g p0 p1  l3 s0 (0 : Int32) g_)))
set_option maxHeartbeats 4000000 in
set_option maxRecDepth 100000 in
theorem tX3_reckon_52 {N K : Nat} {s r : Nat} {g : Nat → Int32} {p0 : Int32} {p1 : Int32} : ∀ (l3 : Int32) (s0 : Int32) (g_ : Nat → Int32), AW RX3 "reckon" cX3_reckon 7 none [] (fun _ _ => True) (1) (PN (U := (Nat → Int32)) (fun _ _ => none) (fun zz ad => [(s, .inr (5, [.ref r])), (r, .inl (0, 21, .inl zz))])) 0 0 (fX3_reckon_52 N K g p0 p1  l3 s0 g_) 52 [(0, .ref s), (1, .int p0), (3, .int l3)] [.int s0] [(s, .inr (5, [.ref r])), (r, .inl (0, 21, .inl g_))] := by
  intro l3 s0 g_
  refine aw_istore (q := 54) (lv' := [(4, .int s0), (0, .ref s), (1, .int p0), (3, .int l3)]) dX3_reckon_52 rfl (by decide) rfl ?_
  refine aw_iload_n (q := 55) dX3_reckon_54 rfl 2 rfl ?_
  refine aw_iconst (q := 56) (v := 2) dX3_reckon_55 rfl (by decide) ?_
  refine aw_icmp_eq (tgt := 70) (q := 59) dX3_reckon_56 (by decide) rfl (fun h_56 => ?_) (fun h_56 => ?_)
  · refine aw_locals (lv' := [(0, .ref s), (3, .int l3), (4, .int s0)]) [1, 3, 0] rfl ?_
    exact tX3_reckon_70  _ _ _
  · refine aw_iload_n (q := 60) dX3_reckon_59 rfl 2 rfl ?_
    refine aw_iconst (q := 61) (v := 4) dX3_reckon_60 rfl (by decide) ?_
    refine aw_icmp_eq (tgt := 70) (q := 64) dX3_reckon_61 (by decide) rfl (fun h_61 => ?_) (fun h_61 => ?_)
    · refine aw_locals (lv' := [(0, .ref s), (3, .int l3), (4, .int s0)]) [1, 3, 0] rfl ?_
      exact tX3_reckon_70  _ _ _
    · refine aw_iload_n (q := 65) dX3_reckon_64 rfl 2 rfl ?_
      refine aw_bipush (q := 67) (v := 7) dX3_reckon_65 rfl (by decide) ?_
      refine aw_icmp_ne (tgt := 74) (q := 70) dX3_reckon_67 (by decide) rfl (fun h_67 => ?_) (fun h_67 => ?_)
      · refine aw_iconst (q := 75) (v := 0) dX3_reckon_74 rfl (by decide) ?_
        refine aw_locals (lv' := [(0, .ref s), (3, .int l3), (4, .int s0)]) [1, 3, 0] rfl ?_
        exact tX3_reckon_75  _ _ _ _
      · refine aw_locals (lv' := [(0, .ref s), (3, .int l3), (4, .int s0)]) [1, 3, 0] rfl ?_
        exact tX3_reckon_70  _ _ _
def fX3_reckon_47 (N K : Nat) (g : Nat → Int32) (p0 : Int32) (p1 : Int32) (l3 : Int32) (g_ : Nat → Int32) : Option ((Nat → Int32)) :=
  fX3_reckon_52 N K g p0 p1  l3 (1 : Int32) g_
set_option maxHeartbeats 4000000 in
set_option maxRecDepth 100000 in
theorem tX3_reckon_47 {N K : Nat} {s r : Nat} {g : Nat → Int32} {p0 : Int32} {p1 : Int32} : ∀ (l3 : Int32) (g_ : Nat → Int32), AW RX3 "reckon" cX3_reckon 7 none [] (fun _ _ => True) (1) (PN (U := (Nat → Int32)) (fun _ _ => none) (fun zz ad => [(s, .inr (5, [.ref r])), (r, .inl (0, 21, .inl zz))])) 0 0 (fX3_reckon_47 N K g p0 p1  l3 g_) 47 [(0, .ref s), (1, .int p0), (3, .int l3)] [] [(s, .inr (5, [.ref r])), (r, .inl (0, 21, .inl g_))] := by
  intro l3 g_
  refine aw_iconst (q := 48) (v := 1) dX3_reckon_47 rfl (by decide) ?_
  refine aw_goto (tgt := 52) dX3_reckon_48 (by decide) ?_
  exact tX3_reckon_52  _ _ _
def fX3_reckon_30 (N K : Nat) (g : Nat → Int32) (p0 : Int32) (p1 : Int32) (s0 : Int32) (g_ : Nat → Int32) : Option ((Nat → Int32)) :=
  (if p0 = (3 : Int32) then fX3_reckon_47 N K g p0 p1  s0 g_ else (if p0 = (4 : Int32) then fX3_reckon_47 N K g p0 p1  s0 g_ else (if p0 = (7 : Int32) then fX3_reckon_47 N K g p0 p1  s0 g_ else fX3_reckon_52 N K g p0 p1  s0 (0 : Int32) g_)))
set_option maxHeartbeats 4000000 in
set_option maxRecDepth 100000 in
theorem tX3_reckon_30 {N K : Nat} {s r : Nat} {g : Nat → Int32} {p0 : Int32} {p1 : Int32} : ∀ (s0 : Int32) (g_ : Nat → Int32), AW RX3 "reckon" cX3_reckon 7 none [] (fun _ _ => True) (1) (PN (U := (Nat → Int32)) (fun _ _ => none) (fun zz ad => [(s, .inr (5, [.ref r])), (r, .inl (0, 21, .inl zz))])) 0 0 (fX3_reckon_30 N K g p0 p1  s0 g_) 30 [(0, .ref s), (1, .int p0)] [.int s0] [(s, .inr (5, [.ref r])), (r, .inl (0, 21, .inl g_))] := by
  intro s0 g_
  refine aw_istore_n (q := 31) (lv' := [(3, .int s0), (0, .ref s), (1, .int p0)]) dX3_reckon_30 rfl (by decide) rfl ?_
  refine aw_iload_n (q := 32) dX3_reckon_31 rfl 2 rfl ?_
  refine aw_iconst (q := 33) (v := 3) dX3_reckon_32 rfl (by decide) ?_
  refine aw_icmp_eq (tgt := 47) (q := 36) dX3_reckon_33 (by decide) rfl (fun h_33 => ?_) (fun h_33 => ?_)
  · refine aw_locals (lv' := [(0, .ref s), (1, .int p0), (3, .int s0)]) [1, 2, 0] rfl ?_
    exact tX3_reckon_47  _ _
  · refine aw_iload_n (q := 37) dX3_reckon_36 rfl 2 rfl ?_
    refine aw_iconst (q := 38) (v := 4) dX3_reckon_37 rfl (by decide) ?_
    refine aw_icmp_eq (tgt := 47) (q := 41) dX3_reckon_38 (by decide) rfl (fun h_38 => ?_) (fun h_38 => ?_)
    · refine aw_locals (lv' := [(0, .ref s), (1, .int p0), (3, .int s0)]) [1, 2, 0] rfl ?_
      exact tX3_reckon_47  _ _
    · refine aw_iload_n (q := 42) dX3_reckon_41 rfl 2 rfl ?_
      refine aw_bipush (q := 44) (v := 7) dX3_reckon_42 rfl (by decide) ?_
      refine aw_icmp_ne (tgt := 51) (q := 47) dX3_reckon_44 (by decide) rfl (fun h_44 => ?_) (fun h_44 => ?_)
      · refine aw_iconst (q := 52) (v := 0) dX3_reckon_51 rfl (by decide) ?_
        refine aw_locals (lv' := [(0, .ref s), (1, .int p0), (3, .int s0)]) [1, 2, 0] rfl ?_
        exact tX3_reckon_52  _ _ _
      · refine aw_locals (lv' := [(0, .ref s), (1, .int p0), (3, .int s0)]) [1, 2, 0] rfl ?_
        exact tX3_reckon_47  _ _
def fX3_reckon (N K : Nat) (g : Nat → Int32) (p0 : Int32) (p1 : Int32) : Option ((Nat → Int32)) :=
  ((fJ_fill N K 21 g (0 : Int32)).bind (fun x5 => (if p0 = (7 : Int32) then fX3_reckon_30 N K g p0 p1  (((2 : Int32) * p1) - (1 : Int32)) (upd x5 (0 : Int32).toNatClampNeg (1 : Int32)) else fX3_reckon_30 N K g p0 p1  p1 (upd x5 (0 : Int32).toNatClampNeg (1 : Int32)))))
set_option maxHeartbeats 4000000 in
set_option maxRecDepth 100000 in
theorem ok_X3_reckon {N K : Nat} {s r : Nat} {g : Nat → Int32} {p0 : Int32} {p1 : Int32} {xr : (Nat → Int32)} (hE : fX3_reckon N K g p0 p1 = some xr) : OkM yX3_reckon (.code yX3_reckon cX3_reckon 7 none) (1) 0 0 [.ref s, .int p0, .int p1] [(s, .inr (5, [.ref r])), (r, .inl (0, 21, .inl g))] ((PN (U := (Nat → Int32)) (fun _ _ => none) (fun zz ad => [(s, .inr (5, [.ref r])), (r, .inl (0, 21, .inl zz))])) xr) := by
  refine ok_of (by decide) (Nat.le_of_ble_eq_true rfl) hE ?_
  refine aw_locals (lv' := [(0, .ref s), (1, .int p0), (2, .int p1)]) [0, 1, 2] rfl ?_
  refine aw_aload_n (q := 1) dX3_reckon_0 rfl 0 rfl ?_
  refine aw_get (q := 4) dX3_reckon_1 rfl fl_X3_9 0 rfl rfl ?_
  refine aw_iconst (q := 5) (v := 0) dX3_reckon_4 rfl (by decide) ?_
  refine aw_call (q := 8) (kc1 := 0) (ks1 := 0) (wc := [(r, .inl (0, 21, .inl g))]) (wr := [(s, .inr (5, [.ref r]))]) (st1 := fun x5 g5 => []) (ws1 := fun x5 g5 => [(s, .inr (5, [.ref r])), (r, .inl (0, 21, .inl x5))]) (As := [.ref r, .int (0 : Int32)]) [1] [0] (fun _ => runS dX3_reckon_5 mi_J7_fill_53178 st_J7_fill_53178 ml_X3_23 (by omega) rfl (Nat.le_of_ble_eq_true rfl) rfl) (fun x9 h9 => ok_J_fill h9) rfl rfl rfl rfl rfl (by decide) (by omega) (by omega) (fun _ _ => rfl) (fun _ _ => rfl) (fun x5 g5 => ?_)
  refine aw_aload_n (q := 9) dX3_reckon_8 rfl 0 rfl ?_
  refine aw_get (q := 12) dX3_reckon_9 rfl fl_X3_9 0 rfl rfl ?_
  refine aw_iconst (q := 13) (v := 0) dX3_reckon_12 rfl (by decide) ?_
  refine aw_iconst (q := 14) (v := 1) dX3_reckon_13 rfl (by decide) ?_
  refine aw_iastT (q := 15) (ws' := [(s, .inr (5, [.ref r])), (r, .inl (0, 21, .inl (upd x5 (0 : Int32).toNatClampNeg (1 : Int32))))]) (by decide) dX3_reckon_14 rfl 1 rfl rfl ?_
  refine aw_iload_n (q := 16) dX3_reckon_15 rfl 1 rfl ?_
  refine aw_bipush (q := 18) (v := 7) dX3_reckon_16 rfl (by decide) ?_
  refine aw_icmp_ne (tgt := 29) (q := 21) dX3_reckon_18 (by decide) rfl (fun h_18 => ?_) (fun h_18 => ?_)
  · refine aw_iload_n (q := 30) dX3_reckon_29 rfl 2 rfl ?_
    refine aw_locals (lv' := [(0, .ref s), (1, .int p0)]) [0, 1] rfl ?_
    exact tX3_reckon_30  _ _
  · refine aw_iconst (q := 22) (v := 2) dX3_reckon_21 rfl (by decide) ?_
    refine aw_iload_n (q := 23) dX3_reckon_22 rfl 2 rfl ?_
    refine aw_imul (q := 24) dX3_reckon_23 rfl ?_
    refine aw_iconst (q := 25) (v := 1) dX3_reckon_24 rfl (by decide) ?_
    refine aw_isub (q := 26) dX3_reckon_25 rfl ?_
    refine aw_goto (tgt := 30) dX3_reckon_26 (by decide) ?_
    refine aw_locals (lv' := [(0, .ref s), (1, .int p0)]) [0, 1] rfl ?_
    exact tX3_reckon_30  _ _
def fX3_reckoned_32 (N K : Nat) (g : Nat → Int32) (p0 : Int32) (p1 : Int32) (p2 : Int32) (l4 : Int32) : Option (Int32) :=
  (if l4 < 0 then (some (0 : Int32)) else (if l4 < (21 : Int32) then (if l4 < 0 ∨ 21 ≤ l4.toNatClampNeg then none else (some (g l4.toNatClampNeg))) else (some (0 : Int32))))
set_option maxHeartbeats 4000000 in
set_option maxRecDepth 100000 in
theorem tX3_reckoned_32 {N K : Nat} {s r : Nat} {g : Nat → Int32} {p0 : Int32} {p1 : Int32} {p2 : Int32} : ∀ (l4 : Int32), AW RX3 "reckoned" cX3_reckoned 5 (some .int) [] (fun _ _ => True) (0) (PN (U := Int32) (fun zz _ => some (.int zz)) (fun zz ad => [(s, .inr (5, [.ref r])), (r, .inl (0, 21, .inl g))])) 0 0 (fX3_reckoned_32 N K g p0 p1 p2  l4) 32 [(0, .ref s), (4, .int l4)] [] [(s, .inr (5, [.ref r])), (r, .inl (0, 21, .inl g))] := by
  intro l4
  refine aw_iload (q := 34) dX3_reckoned_32 rfl 1 rfl ?_
  refine aw_if_lt (tgt := 47) (q := 37) dX3_reckoned_34 (by decide) rfl (fun h_34 => ?_) (fun h_34 => ?_)
  · refine aw_iconst (q := 48) (v := 0) dX3_reckoned_47 rfl (by decide) ?_
    refine aw_goto (tgt := 58) dX3_reckoned_48 (by decide) ?_
    exact aw_ireturn (w := [(s, .inr (5, [.ref r])), (r, .inl (0, 21, .inl g))]) [0, 1] dX3_reckoned_58 rfl rfl rfl rfl (PN.mk (fun _ => 0) rfl rfl)
  · refine aw_iload (q := 39) dX3_reckoned_37 rfl 1 rfl ?_
    refine aw_aload_n (q := 40) dX3_reckoned_39 rfl 0 rfl ?_
    refine aw_get (q := 43) dX3_reckoned_40 rfl fl_X3_9 0 rfl rfl ?_
    refine aw_alen (q := 44) (v := 21) dX3_reckoned_43 rfl 1 rfl (by decide) rfl ?_
    refine aw_icmp_lt (tgt := 51) (q := 47) dX3_reckoned_44 (by decide) rfl (fun h_44 => ?_) (fun h_44 => ?_)
    · refine aw_aload_n (q := 52) dX3_reckoned_51 rfl 0 rfl ?_
      refine aw_get (q := 55) dX3_reckoned_52 rfl fl_X3_9 0 rfl rfl ?_
      refine aw_iload (q := 57) dX3_reckoned_55 rfl 1 rfl ?_
      refine aw_iald (q := 58) dX3_reckoned_57 rfl 1 rfl ?_
      exact aw_ireturn (w := [(s, .inr (5, [.ref r])), (r, .inl (0, 21, .inl g))]) [0, 1] dX3_reckoned_58 rfl rfl rfl rfl (PN.mk (fun _ => 0) rfl rfl)
    · refine aw_iconst (q := 48) (v := 0) dX3_reckoned_47 rfl (by decide) ?_
      refine aw_goto (tgt := 58) dX3_reckoned_48 (by decide) ?_
      exact aw_ireturn (w := [(s, .inr (5, [.ref r])), (r, .inl (0, 21, .inl g))]) [0, 1] dX3_reckoned_58 rfl rfl rfl rfl (PN.mk (fun _ => 0) rfl rfl)
def fX3_reckoned (N K : Nat) (g : Nat → Int32) (p0 : Int32) (p1 : Int32) (p2 : Int32) : Option (Int32) :=
  (if p0 = (1 : Int32) then fX3_reckoned_32 N K g p0 p1 p2  (p1 - p2) else (if p0 = (5 : Int32) then fX3_reckoned_32 N K g p0 p1 p2  (p1 - ((p2 * (p2 + (1 : Int32))) / (2 : Int32))) else fX3_reckoned_32 N K g p0 p1 p2  p1))
set_option maxHeartbeats 4000000 in
set_option maxRecDepth 100000 in
theorem ok_X3_reckoned {N K : Nat} {s r : Nat} {g : Nat → Int32} {p0 : Int32} {p1 : Int32} {p2 : Int32} {xr : Int32} (hE : fX3_reckoned N K g p0 p1 p2 = some xr) : OkM yX3_reckoned (.code yX3_reckoned cX3_reckoned 5 (some .int)) (0) 0 0 [.ref s, .int p0, .int p1, .int p2] [(s, .inr (5, [.ref r])), (r, .inl (0, 21, .inl g))] ((PN (U := Int32) (fun zz _ => some (.int zz)) (fun zz ad => [(s, .inr (5, [.ref r])), (r, .inl (0, 21, .inl g))])) xr) := by
  refine ok_of (by decide) (Nat.le_of_ble_eq_true rfl) hE ?_
  refine aw_locals (lv' := [(0, .ref s), (1, .int p0), (2, .int p1), (3, .int p2)]) [0, 1, 2, 3] rfl ?_
  refine aw_iload_n (q := 1) dX3_reckoned_0 rfl 2 rfl ?_
  refine aw_istore (q := 3) (lv' := [(4, .int p1), (0, .ref s), (1, .int p0), (2, .int p1), (3, .int p2)]) dX3_reckoned_1 rfl (by decide) rfl ?_
  refine aw_iload_n (q := 4) dX3_reckoned_3 rfl 2 rfl ?_
  refine aw_iconst (q := 5) (v := 1) dX3_reckoned_4 rfl (by decide) ?_
  refine aw_icmp_ne (tgt := 16) (q := 8) dX3_reckoned_5 (by decide) rfl (fun h_5 => ?_) (fun h_5 => ?_)
  · refine aw_iload_n (q := 17) dX3_reckoned_16 rfl 2 rfl ?_
    refine aw_iconst (q := 18) (v := 5) dX3_reckoned_17 rfl (by decide) ?_
    refine aw_icmp_ne (tgt := 32) (q := 21) dX3_reckoned_18 (by decide) rfl (fun h_18 => ?_) (fun h_18 => ?_)
    · refine aw_locals (lv' := [(0, .ref s), (4, .int p1)]) [1, 0] rfl ?_
      exact tX3_reckoned_32  _
    · refine aw_iload_n (q := 22) dX3_reckoned_21 rfl 3 rfl ?_
      refine aw_iload_n (q := 23) dX3_reckoned_22 rfl 4 rfl ?_
      refine aw_iload_n (q := 24) dX3_reckoned_23 rfl 4 rfl ?_
      refine aw_iconst (q := 25) (v := 1) dX3_reckoned_24 rfl (by decide) ?_
      refine aw_iadd (q := 26) dX3_reckoned_25 rfl ?_
      refine aw_imul (q := 27) dX3_reckoned_26 rfl ?_
      refine aw_iconst (q := 28) (v := 2) dX3_reckoned_27 rfl (by decide) ?_
      refine aw_idivT (q := 29) dX3_reckoned_28 rfl (by decide) ?_
      refine aw_isub (q := 30) dX3_reckoned_29 rfl ?_
      refine aw_istore (q := 32) (lv' := [(4, .int (p1 - ((p2 * (p2 + (1 : Int32))) / (2 : Int32)))), (0, .ref s), (1, .int p0), (2, .int p1), (3, .int p2)]) dX3_reckoned_30 rfl (by decide) rfl ?_
      refine aw_locals (lv' := [(0, .ref s), (4, .int (p1 - ((p2 * (p2 + (1 : Int32))) / (2 : Int32))))]) [1, 0] rfl ?_
      exact tX3_reckoned_32  _
  · refine aw_iload_n (q := 9) dX3_reckoned_8 rfl 3 rfl ?_
    refine aw_iload_n (q := 10) dX3_reckoned_9 rfl 4 rfl ?_
    refine aw_isub (q := 11) dX3_reckoned_10 rfl ?_
    refine aw_istore (q := 13) (lv' := [(4, .int (p1 - p2)), (0, .ref s), (1, .int p0), (2, .int p1), (3, .int p2)]) dX3_reckoned_11 rfl (by decide) rfl ?_
    refine aw_goto (tgt := 32) dX3_reckoned_13 (by decide) ?_
    refine aw_locals (lv' := [(0, .ref s), (4, .int (p1 - p2))]) [1, 0] rfl ?_
    exact tX3_reckoned_32  _
def fX3_tells (N K : Nat) (g : Nat → Int32) (p0 : Int32) (p1 : Int32) (p2 : Int32) : Option (Int32 × (Nat → Int32)) :=
  ((fX3_reckon N K g p0 p2).bind (fun x3 => ((fX3_reckoned N K x3 p0 p1 p2).bind (fun x10 => (some (x10, x3))))))
set_option maxHeartbeats 4000000 in
set_option maxRecDepth 100000 in
theorem ok_X3_tells {N K : Nat} {s r : Nat} {g : Nat → Int32} {p0 : Int32} {p1 : Int32} {p2 : Int32} {xr : Int32 × (Nat → Int32)} (hE : fX3_tells N K g p0 p1 p2 = some xr) : OkM yX3_tells (.code yX3_tells cX3_tells 4 (some .int)) (2) 0 0 [.ref s, .int p0, .int p1, .int p2] [(s, .inr (5, [.ref r])), (r, .inl (0, 21, .inl g))] ((PN (U := Int32 × (Nat → Int32)) (fun zz _ => some (.int zz.1)) (fun zz ad => [(s, .inr (5, [.ref r])), (r, .inl (0, 21, .inl zz.2))])) xr) := by
  refine ok_of (by decide) (Nat.le_of_ble_eq_true rfl) hE ?_
  refine aw_locals (lv' := [(0, .ref s), (1, .int p0), (2, .int p1), (3, .int p2)]) [0, 1, 2, 3] rfl ?_
  refine aw_aload_n (q := 1) dX3_tells_0 rfl 0 rfl ?_
  refine aw_iload_n (q := 2) dX3_tells_1 rfl 1 rfl ?_
  refine aw_iload_n (q := 3) dX3_tells_2 rfl 3 rfl ?_
  refine aw_call (q := 6) (kc1 := 0) (ks1 := 0) (wc := [(s, .inr (5, [.ref r])), (r, .inl (0, 21, .inl g))]) (wr := []) (st1 := fun x3 g3 => []) (ws1 := fun x3 g3 => [(s, .inr (5, [.ref r])), (r, .inl (0, 21, .inl x3))]) (As := [.ref s, .int p0, .int p2]) [0, 1] [] (fun _ => runV (q0 := 0) dX3_tells_3 mi_X3_reckon im_X3_reckon se_X3_reckon ml_X3_15 (by omega) rfl (Nat.le_of_ble_eq_true rfl) rfl rfl rfl rfl) (fun x9 h9 => ok_X3_reckon h9) rfl rfl rfl rfl rfl (by decide) (by omega) (by omega) (fun _ _ => rfl) (fun _ _ => rfl) (fun x3 g3 => ?_)
  refine aw_aload_n (q := 7) dX3_tells_6 rfl 0 rfl ?_
  refine aw_iload_n (q := 8) dX3_tells_7 rfl 1 rfl ?_
  refine aw_iload_n (q := 9) dX3_tells_8 rfl 2 rfl ?_
  refine aw_iload_n (q := 10) dX3_tells_9 rfl 3 rfl ?_
  refine aw_call (q := 13) (kc1 := 0) (ks1 := 0) (wc := [(s, .inr (5, [.ref r])), (r, .inl (0, 21, .inl x3))]) (wr := []) (st1 := fun x10 g10 => [.int x10]) (ws1 := fun x10 g10 => [(s, .inr (5, [.ref r])), (r, .inl (0, 21, .inl x3))]) (As := [.ref s, .int p0, .int p1, .int p2]) [0, 1] [] (fun _ => runV (q0 := 0) dX3_tells_10 mi_X3_reckoned im_X3_reckoned se_X3_reckoned ml_X3_19 (by omega) rfl (Nat.le_of_ble_eq_true rfl) rfl rfl rfl rfl) (fun x9 h9 => ok_X3_reckoned h9) rfl rfl rfl rfl rfl (by decide) (by omega) (by omega) (fun _ _ => rfl) (fun _ _ => rfl) (fun x10 g10 => ?_)
  exact aw_ireturn (w := [(s, .inr (5, [.ref r])), (r, .inl (0, 21, .inl x3))]) [0, 1] dX3_tells_13 rfl rfl rfl rfl (PN.mk (fun _ => 0) rfl rfl)
