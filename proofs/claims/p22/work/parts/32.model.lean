def fX7_factor_85 (N K : Nat) (p0 : Int32) (p1 : Int32) (k_70 : Int32 → Int32 → Option (Int32)) (l2 : Int32) (l3 : Int32) : Option (Int32) :=
  k_70 l2 (l3 + p0)
set_option maxHeartbeats 4000000 in
set_option maxRecDepth 100000 in
theorem tX7_factor_85 {N K : Nat} {p0 : Int32} {p1 : Int32} {k_70 : Int32 → Int32 → Option (Int32)} (hk_70 : ∀ (l2 : Int32) (l3 : Int32), AW RX7 "factor" cX7_factor 4 (some .int) [] (fun _ _ => True) (0) (PN (U := Int32) (fun zz _ => some (.int zz)) (fun zz ad => [])) 0 0 (k_70 l2 l3) 70 [(0, .int p0), (1, .int p1), (2, .int l2), (3, .int l3)] [] []) : ∀ (l2 : Int32) (l3 : Int32), AW RX7 "factor" cX7_factor 4 (some .int) [] (fun _ _ => True) (0) (PN (U := Int32) (fun zz _ => some (.int zz)) (fun zz ad => [])) 0 0 (fX7_factor_85 N K p0 p1 k_70 l2 l3) 85 [(0, .int p0), (1, .int p1), (2, .int l2), (3, .int l3)] [] [] := by
  intro l2 l3
  refine aw_iload_n (q := 86) gdX7_factor_84.2.1 rfl 3 rfl ?_
  refine aw_iload_n (q := 87) gdX7_factor_84.2.2.1 rfl 0 rfl ?_
  refine aw_iadd (q := 88) gdX7_factor_84.2.2.2.1 rfl ?_
  refine aw_istore_n (q := 89) (lv' := [(3, .int (l3 + p0)), (0, .int p0), (1, .int p1), (2, .int l2)]) gdX7_factor_84.2.2.2.2.1 rfl (by decide) rfl ?_
  refine aw_goto (tgt := 70) gdX7_factor_84.2.2.2.2.2.1 (by decide) ?_
  refine aw_locals (lv' := [(0, .int p0), (1, .int p1), (2, .int l2), (3, .int (l3 + p0))]) [1, 2, 3, 0] rfl ?_
  exact hk_70 _ _
def fX7_factor_70 (N K : Nat) (p0 : Int32) (p1 : Int32) : Nat → Int32 → Int32 → Option (Int32)
  | 0, _, _ => none
  | fu + 1, l2, l3 =>
    (if p1 < l3 then (some l2) else (if l3 = 0 then none else (if (p1 % l3) = 0 then fX7_factor_85 N K p0 p1 (fX7_factor_70 N K p0 p1  fu) (l2 + l3) l3 else fX7_factor_85 N K p0 p1 (fX7_factor_70 N K p0 p1  fu) l2 l3)))
set_option maxHeartbeats 4000000 in
set_option maxRecDepth 100000 in
theorem tX7_factor_70 {N K : Nat} {p0 : Int32} {p1 : Int32} : ∀ (fu : Nat) (l2 : Int32) (l3 : Int32), AW RX7 "factor" cX7_factor 4 (some .int) [] (fun _ _ => True) (0) (PN (U := Int32) (fun zz _ => some (.int zz)) (fun zz ad => [])) 0 0 (fX7_factor_70 N K p0 p1  fu l2 l3) 70 [(0, .int p0), (1, .int p1), (2, .int l2), (3, .int l3)] [] [] := by
  intro fu
  induction fu with
  | zero => intro l2 l3; exact aw_none
  | succ fu ih =>
    intro l2 l3
    refine aw_iload_n (q := 71) gdX7_factor_64.2.2.2.2.2.2.1 rfl 3 rfl ?_
    refine aw_iload_n (q := 72) gdX7_factor_64.2.2.2.2.2.2.2 rfl 1 rfl ?_
    refine aw_icmp_gt (tgt := 92) (q := 75) gdX7_factor_72.1 (by decide) rfl (fun h_72 => ?_) (fun h_72 => ?_)
    · refine aw_iload_n (q := 93) gdX7_factor_84.2.2.2.2.2.2.1 rfl 2 rfl ?_
      exact aw_ireturn (w := []) [] gdX7_factor_84.2.2.2.2.2.2.2 rfl rfl rfl rfl (PN.mk (fun _ => 0) rfl rfl)
    · refine aw_iload_n (q := 76) gdX7_factor_72.2.1 rfl 1 rfl ?_
      refine aw_iload_n (q := 77) gdX7_factor_72.2.2.1 rfl 3 rfl ?_
      refine aw_irem (q := 78) gdX7_factor_72.2.2.2.1 rfl ?_
      refine aw_if_ne (tgt := 85) (q := 81) gdX7_factor_72.2.2.2.2.1 (by decide) rfl (fun h_78 => ?_) (fun h_78 => ?_)
      · exact tX7_factor_85 ih _ _
      · refine aw_iload_n (q := 82) gdX7_factor_72.2.2.2.2.2.1 rfl 2 rfl ?_
        refine aw_iload_n (q := 83) gdX7_factor_72.2.2.2.2.2.2.1 rfl 3 rfl ?_
        refine aw_iadd (q := 84) gdX7_factor_72.2.2.2.2.2.2.2 rfl ?_
        refine aw_istore_n (q := 85) (lv' := [(2, .int (l2 + l3)), (0, .int p0), (1, .int p1), (3, .int l3)]) gdX7_factor_84.1 rfl (by decide) rfl ?_
        refine aw_locals (lv' := [(0, .int p0), (1, .int p1), (2, .int (l2 + l3)), (3, .int l3)]) [1, 2, 0, 3] rfl ?_
        exact tX7_factor_85 ih _ _
def fX7_factor_45 (N K : Nat) (p0 : Int32) (p1 : Int32) (l2 : Int32) : Option (Int32) :=
  (if (l2 % (2 : Int32)) = (1 : Int32) then (some (1 : Int32)) else (some (-1 : Int32)))
set_option maxHeartbeats 4000000 in
set_option maxRecDepth 100000 in
theorem tX7_factor_45 {N K : Nat} {p0 : Int32} {p1 : Int32} : ∀ (l2 : Int32), AW RX7 "factor" cX7_factor 4 (some .int) [] (fun _ _ => True) (0) (PN (U := Int32) (fun zz _ => some (.int zz)) (fun zz ad => [])) 0 0 (fX7_factor_45 N K p0 p1  l2) 45 [(2, .int l2)] [] [] := by
  intro l2
  refine aw_iload_n (q := 46) gdX7_factor_38.2.2.2.2.2.1 rfl 0 rfl ?_
  refine aw_iconst (q := 47) (v := 2) gdX7_factor_38.2.2.2.2.2.2.1 rfl (by decide) ?_
  refine aw_iremT (q := 48) gdX7_factor_38.2.2.2.2.2.2.2 rfl (by decide) ?_
  refine aw_iconst (q := 49) (v := 1) gdX7_factor_48.1 rfl (by decide) ?_
  refine aw_icmp_ne (tgt := 56) (q := 52) gdX7_factor_48.2.1 (by decide) rfl (fun h_49 => ?_) (fun h_49 => ?_)
  · refine aw_iconst (q := 57) (v := (-1)) gdX7_factor_48.2.2.2.2.1 rfl (by decide) ?_
    exact aw_ireturn (w := []) [] gdX7_factor_48.2.2.2.2.2.1 rfl rfl rfl rfl (PN.mk (fun _ => 0) rfl rfl)
  · refine aw_iconst (q := 53) (v := 1) gdX7_factor_48.2.2.1 rfl (by decide) ?_
    refine aw_goto (tgt := 57) gdX7_factor_48.2.2.2.1 (by decide) ?_
    exact aw_ireturn (w := []) [] gdX7_factor_48.2.2.2.2.2.1 rfl rfl rfl rfl (PN.mk (fun _ => 0) rfl rfl)
def fX7_factor_6 (N K : Nat) (p0 : Int32) (p1 : Int32) : Nat → Int32 → Option (Int32)
  | 0, _ => none
  | fu + 1, l2 =>
    (if p1 < ((l2 * (((3 : Int32) * l2) - (1 : Int32))) / (2 : Int32)) then (some (0 : Int32)) else (if ((l2 * (((3 : Int32) * l2) - (1 : Int32))) / (2 : Int32)) = p1 then fX7_factor_45 N K p0 p1  l2 else (if ((l2 * (((3 : Int32) * l2) + (1 : Int32))) / (2 : Int32)) = p1 then fX7_factor_45 N K p0 p1  l2 else fX7_factor_6 N K p0 p1  fu (l2 + (1 : Int32)))))
set_option maxHeartbeats 4000000 in
set_option maxRecDepth 100000 in
theorem tX7_factor_6 {N K : Nat} {p0 : Int32} {p1 : Int32} : ∀ (fu : Nat) (l2 : Int32), AW RX7 "factor" cX7_factor 4 (some .int) [] (fun _ _ => True) (0) (PN (U := Int32) (fun zz _ => some (.int zz)) (fun zz ad => [])) 0 0 (fX7_factor_6 N K p0 p1  fu l2) 6 [(1, .int p1), (2, .int l2)] [] [] := by
  intro fu
  induction fu with
  | zero => intro l2; exact aw_none
  | succ fu ih =>
    intro l2
    refine aw_iload_n (q := 7) gdX7_factor_0.2.2.2.2.1 rfl 1 rfl ?_
    refine aw_iconst (q := 8) (v := 3) gdX7_factor_0.2.2.2.2.2.1 rfl (by decide) ?_
    refine aw_iload_n (q := 9) gdX7_factor_0.2.2.2.2.2.2.1 rfl 1 rfl ?_
    refine aw_imul (q := 10) gdX7_factor_0.2.2.2.2.2.2.2 rfl ?_
    refine aw_iconst (q := 11) (v := 1) gdX7_factor_10.1 rfl (by decide) ?_
    refine aw_isub (q := 12) gdX7_factor_10.2.1 rfl ?_
    refine aw_imul (q := 13) gdX7_factor_10.2.2.1 rfl ?_
    refine aw_iconst (q := 14) (v := 2) gdX7_factor_10.2.2.2.1 rfl (by decide) ?_
    refine aw_idivT (q := 15) gdX7_factor_10.2.2.2.2.1 rfl (by decide) ?_
    refine aw_iload_n (q := 16) gdX7_factor_10.2.2.2.2.2.1 rfl 0 rfl ?_
    refine aw_icmp_gt (tgt := 64) (q := 19) gdX7_factor_10.2.2.2.2.2.2.1 (by decide) rfl (fun h_16 => ?_) (fun h_16 => ?_)
    · refine aw_iconst (q := 65) (v := 0) gdX7_factor_64.1 rfl (by decide) ?_
      exact aw_ireturn (w := []) [] gdX7_factor_64.2.1 rfl rfl rfl rfl (PN.mk (fun _ => 0) rfl rfl)
    · refine aw_iload_n (q := 20) gdX7_factor_10.2.2.2.2.2.2.2 rfl 1 rfl ?_
      refine aw_iconst (q := 21) (v := 3) gdX7_factor_20.1 rfl (by decide) ?_
      refine aw_iload_n (q := 22) gdX7_factor_20.2.1 rfl 1 rfl ?_
      refine aw_imul (q := 23) gdX7_factor_20.2.2.1 rfl ?_
      refine aw_iconst (q := 24) (v := 1) gdX7_factor_20.2.2.2.1 rfl (by decide) ?_
      refine aw_isub (q := 25) gdX7_factor_20.2.2.2.2.1 rfl ?_
      refine aw_imul (q := 26) gdX7_factor_20.2.2.2.2.2.1 rfl ?_
      refine aw_iconst (q := 27) (v := 2) gdX7_factor_20.2.2.2.2.2.2.1 rfl (by decide) ?_
      refine aw_idivT (q := 28) gdX7_factor_20.2.2.2.2.2.2.2 rfl (by decide) ?_
      refine aw_iload_n (q := 29) gdX7_factor_28.1 rfl 0 rfl ?_
      refine aw_icmp_eq (tgt := 45) (q := 32) gdX7_factor_28.2.1 (by decide) rfl (fun h_29 => ?_) (fun h_29 => ?_)
      · refine aw_locals (lv' := [(2, .int l2)]) [1] rfl ?_
        exact tX7_factor_45  _
      · refine aw_iload_n (q := 33) gdX7_factor_28.2.2.1 rfl 1 rfl ?_
        refine aw_iconst (q := 34) (v := 3) gdX7_factor_28.2.2.2.1 rfl (by decide) ?_
        refine aw_iload_n (q := 35) gdX7_factor_28.2.2.2.2.1 rfl 1 rfl ?_
        refine aw_imul (q := 36) gdX7_factor_28.2.2.2.2.2.1 rfl ?_
        refine aw_iconst (q := 37) (v := 1) gdX7_factor_28.2.2.2.2.2.2.1 rfl (by decide) ?_
        refine aw_iadd (q := 38) gdX7_factor_28.2.2.2.2.2.2.2 rfl ?_
        refine aw_imul (q := 39) gdX7_factor_38.1 rfl ?_
        refine aw_iconst (q := 40) (v := 2) gdX7_factor_38.2.1 rfl (by decide) ?_
        refine aw_idivT (q := 41) gdX7_factor_38.2.2.1 rfl (by decide) ?_
        refine aw_iload_n (q := 42) gdX7_factor_38.2.2.2.1 rfl 0 rfl ?_
        refine aw_icmp_ne (tgt := 58) (q := 45) gdX7_factor_38.2.2.2.2.1 (by decide) rfl (fun h_42 => ?_) (fun h_42 => ?_)
        · refine aw_iinc (q := 61) (v := (l2 + (1 : Int32))) (lv' := [(2, .int (l2 + (1 : Int32))), (1, .int p1)]) gdX7_factor_48.2.2.2.2.2.2.1 rfl 1 rfl rfl (by decide) rfl ?_
          refine aw_goto (tgt := 6) gdX7_factor_48.2.2.2.2.2.2.2 (by decide) ?_
          refine aw_locals (lv' := [(1, .int p1), (2, .int (l2 + (1 : Int32)))]) [1, 0] rfl ?_
          exact ih _
        · refine aw_locals (lv' := [(2, .int l2)]) [1] rfl ?_
          exact tX7_factor_45  _
def fX7_factor (N K : Nat) (p0 : Int32) (p1 : Int32) : Option (Int32) :=
  (if p0 = 0 then fX7_factor_6 N K p0 p1  N (1 : Int32) else fX7_factor_70 N K p0 p1  N (0 : Int32) (1 : Int32))
set_option maxHeartbeats 4000000 in
set_option maxRecDepth 100000 in
theorem ok_X7_factor {N K : Nat} {p0 : Int32} {p1 : Int32} {xr : Int32} (hE : fX7_factor N K p0 p1 = some xr) : OkM yX7_factor (.code yX7_factor cX7_factor 4 (some .int)) (0) 0 0 [.int p0, .int p1] [] ((PN (U := Int32) (fun zz _ => some (.int zz)) (fun zz ad => [])) xr) := by
  refine ok_of (by decide) (Nat.le_of_ble_eq_true rfl) hE ?_
  refine aw_locals (lv' := [(0, .int p0), (1, .int p1)]) [0, 1] rfl ?_
  refine aw_iload_n (q := 1) gdX7_factor_0.1 rfl 0 rfl ?_
  refine aw_if_ne (tgt := 66) (q := 4) gdX7_factor_0.2.1 (by decide) rfl (fun h_1 => ?_) (fun h_1 => ?_)
  · refine aw_iconst (q := 67) (v := 0) gdX7_factor_64.2.2.1 rfl (by decide) ?_
    refine aw_istore_n (q := 68) (lv' := [(2, .int (0 : Int32)), (0, .int p0), (1, .int p1)]) gdX7_factor_64.2.2.2.1 rfl (by decide) rfl ?_
    refine aw_iconst (q := 69) (v := 1) gdX7_factor_64.2.2.2.2.1 rfl (by decide) ?_
    refine aw_istore_n (q := 70) (lv' := [(3, .int (1 : Int32)), (2, .int (0 : Int32)), (0, .int p0), (1, .int p1)]) gdX7_factor_64.2.2.2.2.2.1 rfl (by decide) rfl ?_
    refine aw_locals (lv' := [(0, .int p0), (1, .int p1), (2, .int (0 : Int32)), (3, .int (1 : Int32))]) [2, 3, 1, 0] rfl ?_
    exact tX7_factor_70  N _ _
  · refine aw_iconst (q := 5) (v := 1) gdX7_factor_0.2.2.1 rfl (by decide) ?_
    refine aw_istore_n (q := 6) (lv' := [(2, .int (1 : Int32)), (0, .int p0), (1, .int p1)]) gdX7_factor_0.2.2.2.1 rfl (by decide) rfl ?_
    refine aw_locals (lv' := [(1, .int p1), (2, .int (1 : Int32))]) [2, 0] rfl ?_
    exact tX7_factor_6  N _
def fX7_ledgerWorth (N K : Nat) (th : Int32) (f : Nat → Int32) (p0 : Int32) (p1 : Int32) : Option (Int32) :=
  (if p1 = 0 then (some (1 : Int32)) else (if p0 < 0 ∨ 3 ≤ p0.toNatClampNeg then none else (if p1 < 0 ∨ 21 ≤ p1.toNatClampNeg then none else (some (f p1.toNatClampNeg)))))
set_option maxHeartbeats 4000000 in
set_option maxRecDepth 100000 in
theorem ok_X7_ledgerWorth {N K : Nat} {m Mo Lo Do tl ca h : Nat} {ll : Nat → Option Nat} {th : Int32} {f : Nat → Int32} {p0 : Int32} {p1 : Int32} (hl : ¬ (p0 < 0 ∨ 3 ≤ p0.toNatClampNeg) → ll p0.toNatClampNeg = some h) {xr : Int32} (hE : fX7_ledgerWorth N K th f p0 p1 = some xr) : OkM yX7_ledgerWorth (.code yX7_ledgerWorth cX7_ledgerWorth 3 (some .int)) (0) 0 0 [.ref m, .int p0, .int p1] [(m, .inr (9, [.ref Mo, .ref Lo, .ref Do, .ref tl, .ref ca, .int th])), (Lo, .inl (4, 3, .inr (.inr (.inr (.inr ll))))), (h, .inl (0, 21, .inl f))] ((PN (U := Int32) (fun zz _ => some (.int zz)) (fun zz ad => [(m, .inr (9, [.ref Mo, .ref Lo, .ref Do, .ref tl, .ref ca, .int th])), (Lo, .inl (4, 3, .inr (.inr (.inr (.inr ll))))), (h, .inl (0, 21, .inl f))])) xr) := by
  refine ok_of (by decide) (Nat.le_of_ble_eq_true rfl) hE ?_
  refine aw_locals (lv' := [(0, .ref m), (1, .int p0), (2, .int p1)]) [0, 1, 2] rfl ?_
  refine aw_iload_n (q := 1) gdX7_ledgerWorth_0.1 rfl 2 rfl ?_
  refine aw_if_ne (tgt := 8) (q := 4) gdX7_ledgerWorth_0.2.1 (by decide) rfl (fun h_1 => ?_) (fun h_1 => ?_)
  · refine aw_aload_n (q := 9) gdX7_ledgerWorth_0.2.2.2.2.1 rfl 0 rfl ?_
    refine aw_get (q := 12) gdX7_ledgerWorth_0.2.2.2.2.2.1 rfl fl_X7_14 0 rfl rfl ?_
    refine aw_iload_n (q := 13) gdX7_ledgerWorth_0.2.2.2.2.2.2.1 rfl 1 rfl ?_
    refine aw_aald (q := 14) gdX7_ledgerWorth_0.2.2.2.2.2.2.2 rfl 1 rfl (by decide) rfl hl ?_
    refine aw_iload_n (q := 15) gdX7_ledgerWorth_14.1 rfl 2 rfl ?_
    refine aw_iald (q := 16) gdX7_ledgerWorth_14.2.1 rfl 2 rfl ?_
    exact aw_ireturn (w := [(m, .inr (9, [.ref Mo, .ref Lo, .ref Do, .ref tl, .ref ca, .int th])), (Lo, .inl (4, 3, .inr (.inr (.inr (.inr ll))))), (h, .inl (0, 21, .inl f))]) [0, 1, 2] gdX7_ledgerWorth_14.2.2 rfl rfl rfl rfl (PN.mk (fun _ => 0) rfl rfl)
  · refine aw_iconst (q := 5) (v := 1) gdX7_ledgerWorth_0.2.2.1 rfl (by decide) ?_
    refine aw_goto (tgt := 16) gdX7_ledgerWorth_0.2.2.2.1 (by decide) ?_
    exact aw_ireturn (w := [(m, .inr (9, [.ref Mo, .ref Lo, .ref Do, .ref tl, .ref ca, .int th])), (Lo, .inl (4, 3, .inr (.inr (.inr (.inr ll))))), (h, .inl (0, 21, .inl f))]) [0, 1, 2] gdX7_ledgerWorth_14.2.2 rfl rfl rfl rfl (PN.mk (fun _ => 0) rfl rfl)
def fX7_ledgerTold_47 (N K : Nat) (th : Int32) (f : Nat → Int32) (p0 : Int32) (p1 : Int32) (k_5 : Int32 → Int32 → Option (Int32)) (l3 : Int32) (l4 : Int32) : Option (Int32) :=
  k_5 l3 (l4 + (1 : Int32))
set_option maxHeartbeats 4000000 in
set_option maxRecDepth 100000 in
theorem tX7_ledgerTold_47 {N K : Nat} {m Mo Lo Do tl ca h : Nat} {ll : Nat → Option Nat} {th : Int32} {f : Nat → Int32} {p0 : Int32} {p1 : Int32} (hl : ¬ (p0 < 0 ∨ 3 ≤ p0.toNatClampNeg) → ll p0.toNatClampNeg = some h) {k_5 : Int32 → Int32 → Option (Int32)} (hk_5 : ∀ (l3 : Int32) (l4 : Int32), AW RX7 "ledgerTold" cX7_ledgerTold 5 (some .int) [] (fun _ _ => True) (0) (PN (U := Int32) (fun zz _ => some (.int zz)) (fun zz ad => [(m, .inr (9, [.ref Mo, .ref Lo, .ref Do, .ref tl, .ref ca, .int th])), (Lo, .inl (4, 3, .inr (.inr (.inr (.inr ll))))), (h, .inl (0, 21, .inl f))])) 0 0 (k_5 l3 l4) 5 [(0, .ref m), (1, .int p0), (2, .int p1), (3, .int l3), (4, .int l4)] [] [(m, .inr (9, [.ref Mo, .ref Lo, .ref Do, .ref tl, .ref ca, .int th])), (Lo, .inl (4, 3, .inr (.inr (.inr (.inr ll))))), (h, .inl (0, 21, .inl f))]) : ∀ (l3 : Int32) (l4 : Int32), AW RX7 "ledgerTold" cX7_ledgerTold 5 (some .int) [] (fun _ _ => True) (0) (PN (U := Int32) (fun zz _ => some (.int zz)) (fun zz ad => [(m, .inr (9, [.ref Mo, .ref Lo, .ref Do, .ref tl, .ref ca, .int th])), (Lo, .inl (4, 3, .inr (.inr (.inr (.inr ll))))), (h, .inl (0, 21, .inl f))])) 0 0 (fX7_ledgerTold_47 N K th f p0 p1 k_5 l3 l4) 47 [(0, .ref m), (1, .int p0), (2, .int p1), (3, .int l3), (4, .int l4)] [] [(m, .inr (9, [.ref Mo, .ref Lo, .ref Do, .ref tl, .ref ca, .int th])), (Lo, .inl (4, 3, .inr (.inr (.inr (.inr ll))))), (h, .inl (0, 21, .inl f))] := by
  intro l3 l4
  refine aw_iinc (q := 50) (v := (l4 + (1 : Int32))) (lv' := [(4, .int (l4 + (1 : Int32))), (0, .ref m), (1, .int p0), (2, .int p1), (3, .int l3)]) gdX7_ledgerTold_41.2.2.2.2.2.1 rfl 4 rfl rfl (by decide) rfl ?_
  refine aw_goto (tgt := 5) gdX7_ledgerTold_41.2.2.2.2.2.2.1 (by decide) ?_
  refine aw_locals (lv' := [(0, .ref m), (1, .int p0), (2, .int p1), (3, .int l3), (4, .int (l4 + (1 : Int32)))]) [1, 2, 3, 4, 0] rfl ?_
  exact hk_5 _ _
def fX7_ledgerTold_45 (N K : Nat) (th : Int32) (f : Nat → Int32) (p0 : Int32) (p1 : Int32) (k_5 : Int32 → Int32 → Option (Int32)) (l4 : Int32) (s0 : Int32) (s1 : Int32) : Option (Int32) :=
  fX7_ledgerTold_47 N K th f p0 p1 k_5 (s1 + s0) l4
set_option maxHeartbeats 4000000 in
set_option maxRecDepth 100000 in
theorem tX7_ledgerTold_45 {N K : Nat} {m Mo Lo Do tl ca h : Nat} {ll : Nat → Option Nat} {th : Int32} {f : Nat → Int32} {p0 : Int32} {p1 : Int32} (hl : ¬ (p0 < 0 ∨ 3 ≤ p0.toNatClampNeg) → ll p0.toNatClampNeg = some h) {k_5 : Int32 → Int32 → Option (Int32)} (hk_5 : ∀ (l3 : Int32) (l4 : Int32), AW RX7 "ledgerTold" cX7_ledgerTold 5 (some .int) [] (fun _ _ => True) (0) (PN (U := Int32) (fun zz _ => some (.int zz)) (fun zz ad => [(m, .inr (9, [.ref Mo, .ref Lo, .ref Do, .ref tl, .ref ca, .int th])), (Lo, .inl (4, 3, .inr (.inr (.inr (.inr ll))))), (h, .inl (0, 21, .inl f))])) 0 0 (k_5 l3 l4) 5 [(0, .ref m), (1, .int p0), (2, .int p1), (3, .int l3), (4, .int l4)] [] [(m, .inr (9, [.ref Mo, .ref Lo, .ref Do, .ref tl, .ref ca, .int th])), (Lo, .inl (4, 3, .inr (.inr (.inr (.inr ll))))), (h, .inl (0, 21, .inl f))]) : ∀ (l4 : Int32) (s0 : Int32) (s1 : Int32), AW RX7 "ledgerTold" cX7_ledgerTold 5 (some .int) [] (fun _ _ => True) (0) (PN (U := Int32) (fun zz _ => some (.int zz)) (fun zz ad => [(m, .inr (9, [.ref Mo, .ref Lo, .ref Do, .ref tl, .ref ca, .int th])), (Lo, .inl (4, 3, .inr (.inr (.inr (.inr ll))))), (h, .inl (0, 21, .inl f))])) 0 0 (fX7_ledgerTold_45 N K th f p0 p1 k_5 l4 s0 s1) 45 [(0, .ref m), (1, .int p0), (2, .int p1), (4, .int l4)] [.int s0, .int s1] [(m, .inr (9, [.ref Mo, .ref Lo, .ref Do, .ref tl, .ref ca, .int th])), (Lo, .inl (4, 3, .inr (.inr (.inr (.inr ll))))), (h, .inl (0, 21, .inl f))] := by
  intro l4 s0 s1
  refine aw_iadd (q := 46) gdX7_ledgerTold_41.2.2.2.1 rfl ?_
  refine aw_istore_n (q := 47) (lv' := [(3, .int (s1 + s0)), (0, .ref m), (1, .int p0), (2, .int p1), (4, .int l4)]) gdX7_ledgerTold_41.2.2.2.2.1 rfl (by decide) rfl ?_
  refine aw_locals (lv' := [(0, .ref m), (1, .int p0), (2, .int p1), (3, .int (s1 + s0)), (4, .int l4)]) [1, 2, 3, 0, 4] rfl ?_
  exact tX7_ledgerTold_47 hl hk_5 _ _
def fX7_ledgerTold_5 (N K : Nat) (th : Int32) (f : Nat → Int32) (p0 : Int32) (p1 : Int32) : Nat → Int32 → Int32 → Option (Int32)
  | 0, _, _ => none
  | fu + 1, l3, l4 =>
    (if (20 : Int32) < l4 then (some l3) else (if p0 < 0 ∨ 3 ≤ p0.toNatClampNeg then none else (if l4 < 0 ∨ 21 ≤ l4.toNatClampNeg then none else (if (f l4.toNatClampNeg) ≤ 0 then fX7_ledgerTold_47 N K th f p0 p1 (fX7_ledgerTold_5 N K th f p0 p1  fu) l3 l4 else (if p1 = 0 then fX7_ledgerTold_45 N K th f p0 p1 (fX7_ledgerTold_5 N K th f p0 p1  fu) l4 (1 : Int32) l3 else (if p0 < 0 ∨ 3 ≤ p0.toNatClampNeg then none else (if l4 < 0 ∨ 21 ≤ l4.toNatClampNeg then none else fX7_ledgerTold_45 N K th f p0 p1 (fX7_ledgerTold_5 N K th f p0 p1  fu) l4 (l4 ^^^ (f l4.toNatClampNeg)) l3)))))))
set_option maxHeartbeats 4000000 in
set_option maxRecDepth 100000 in
theorem tX7_ledgerTold_5 {N K : Nat} {m Mo Lo Do tl ca h : Nat} {ll : Nat → Option Nat} {th : Int32} {f : Nat → Int32} {p0 : Int32} {p1 : Int32} (hl : ¬ (p0 < 0 ∨ 3 ≤ p0.toNatClampNeg) → ll p0.toNatClampNeg = some h) : ∀ (fu : Nat) (l3 : Int32) (l4 : Int32), AW RX7 "ledgerTold" cX7_ledgerTold 5 (some .int) [] (fun _ _ => True) (0) (PN (U := Int32) (fun zz _ => some (.int zz)) (fun zz ad => [(m, .inr (9, [.ref Mo, .ref Lo, .ref Do, .ref tl, .ref ca, .int th])), (Lo, .inl (4, 3, .inr (.inr (.inr (.inr ll))))), (h, .inl (0, 21, .inl f))])) 0 0 (fX7_ledgerTold_5 N K th f p0 p1  fu l3 l4) 5 [(0, .ref m), (1, .int p0), (2, .int p1), (3, .int l3), (4, .int l4)] [] [(m, .inr (9, [.ref Mo, .ref Lo, .ref Do, .ref tl, .ref ca, .int th])), (Lo, .inl (4, 3, .inr (.inr (.inr (.inr ll))))), (h, .inl (0, 21, .inl f))] := by
  intro fu
  induction fu with
  | zero => intro l3 l4; exact aw_none
  | succ fu ih =>
    intro l3 l4
    refine aw_iload (q := 7) gdX7_ledgerTold_0.2.2.2.2.1 rfl 4 rfl ?_
    refine aw_bipush (q := 9) (v := 20) gdX7_ledgerTold_0.2.2.2.2.2.1 rfl (by decide) ?_
    refine aw_icmp_gt (tgt := 53) (q := 12) gdX7_ledgerTold_0.2.2.2.2.2.2.1 (by decide) rfl (fun h_9 => ?_) (fun h_9 => ?_)
    · refine aw_iload_n (q := 54) gdX7_ledgerTold_41.2.2.2.2.2.2.2 rfl 3 rfl ?_
      exact aw_ireturn (w := [(m, .inr (9, [.ref Mo, .ref Lo, .ref Do, .ref tl, .ref ca, .int th])), (Lo, .inl (4, 3, .inr (.inr (.inr (.inr ll))))), (h, .inl (0, 21, .inl f))]) [0, 1, 2] dX7_ledgerTold_54 rfl rfl rfl rfl (PN.mk (fun _ => 0) rfl rfl)
    · refine aw_aload_n (q := 13) gdX7_ledgerTold_0.2.2.2.2.2.2.2 rfl 0 rfl ?_
      refine aw_get (q := 16) gdX7_ledgerTold_13.1 rfl fl_X7_14 0 rfl rfl ?_
      refine aw_iload_n (q := 17) gdX7_ledgerTold_13.2.1 rfl 1 rfl ?_
      refine aw_aald (q := 18) gdX7_ledgerTold_13.2.2.1 rfl 1 rfl (by decide) rfl hl ?_
      refine aw_iload (q := 20) gdX7_ledgerTold_13.2.2.2.1 rfl 4 rfl ?_
      refine aw_iald (q := 21) gdX7_ledgerTold_13.2.2.2.2.1 rfl 2 rfl ?_
      refine aw_if_le (tgt := 47) (q := 24) gdX7_ledgerTold_13.2.2.2.2.2.1 (by decide) rfl (fun h_21 => ?_) (fun h_21 => ?_)
      · exact tX7_ledgerTold_47 hl ih _ _
      · refine aw_iload_n (q := 25) gdX7_ledgerTold_13.2.2.2.2.2.2.1 rfl 3 rfl ?_
        refine aw_iload_n (q := 26) gdX7_ledgerTold_13.2.2.2.2.2.2.2 rfl 2 rfl ?_
        refine aw_if_ne (tgt := 33) (q := 29) gdX7_ledgerTold_26.1 (by decide) rfl (fun h_26 => ?_) (fun h_26 => ?_)
        · refine aw_iload (q := 35) gdX7_ledgerTold_26.2.2.2.1 rfl 4 rfl ?_
          refine aw_aload_n (q := 36) gdX7_ledgerTold_26.2.2.2.2.1 rfl 0 rfl ?_
          refine aw_get (q := 39) gdX7_ledgerTold_26.2.2.2.2.2.1 rfl fl_X7_14 0 rfl rfl ?_
          refine aw_iload_n (q := 40) gdX7_ledgerTold_26.2.2.2.2.2.2.1 rfl 1 rfl ?_
          refine aw_aald (q := 41) gdX7_ledgerTold_26.2.2.2.2.2.2.2 rfl 1 rfl (by decide) rfl hl ?_
          refine aw_iload (q := 43) gdX7_ledgerTold_41.1 rfl 4 rfl ?_
          refine aw_iald (q := 44) gdX7_ledgerTold_41.2.1 rfl 2 rfl ?_
          refine aw_ixor (q := 45) gdX7_ledgerTold_41.2.2.1 rfl ?_
          refine aw_locals (lv' := [(0, .ref m), (1, .int p0), (2, .int p1), (4, .int l4)]) [0, 1, 2, 4] rfl ?_
          exact tX7_ledgerTold_45 hl ih _ _ _
        · refine aw_iconst (q := 30) (v := 1) gdX7_ledgerTold_26.2.1 rfl (by decide) ?_
          refine aw_goto (tgt := 45) gdX7_ledgerTold_26.2.2.1 (by decide) ?_
          refine aw_locals (lv' := [(0, .ref m), (1, .int p0), (2, .int p1), (4, .int l4)]) [0, 1, 2, 4] rfl ?_
          exact tX7_ledgerTold_45 hl ih _ _ _
def fX7_ledgerTold (N K : Nat) (th : Int32) (f : Nat → Int32) (p0 : Int32) (p1 : Int32) : Option (Int32) :=
  fX7_ledgerTold_5 N K th f p0 p1  N (0 : Int32) (1 : Int32)
set_option maxHeartbeats 4000000 in
set_option maxRecDepth 100000 in
theorem ok_X7_ledgerTold {N K : Nat} {m Mo Lo Do tl ca h : Nat} {ll : Nat → Option Nat} {th : Int32} {f : Nat → Int32} {p0 : Int32} {p1 : Int32} (hl : ¬ (p0 < 0 ∨ 3 ≤ p0.toNatClampNeg) → ll p0.toNatClampNeg = some h) {xr : Int32} (hE : fX7_ledgerTold N K th f p0 p1 = some xr) : OkM yX7_ledgerTold (.code yX7_ledgerTold cX7_ledgerTold 5 (some .int)) (0) 0 0 [.ref m, .int p0, .int p1] [(m, .inr (9, [.ref Mo, .ref Lo, .ref Do, .ref tl, .ref ca, .int th])), (Lo, .inl (4, 3, .inr (.inr (.inr (.inr ll))))), (h, .inl (0, 21, .inl f))] ((PN (U := Int32) (fun zz _ => some (.int zz)) (fun zz ad => [(m, .inr (9, [.ref Mo, .ref Lo, .ref Do, .ref tl, .ref ca, .int th])), (Lo, .inl (4, 3, .inr (.inr (.inr (.inr ll))))), (h, .inl (0, 21, .inl f))])) xr) := by
  refine ok_of (by decide) (Nat.le_of_ble_eq_true rfl) hE ?_
  refine aw_locals (lv' := [(0, .ref m), (1, .int p0), (2, .int p1)]) [0, 1, 2] rfl ?_
  refine aw_iconst (q := 1) (v := 0) gdX7_ledgerTold_0.1 rfl (by decide) ?_
  refine aw_istore_n (q := 2) (lv' := [(3, .int (0 : Int32)), (0, .ref m), (1, .int p0), (2, .int p1)]) gdX7_ledgerTold_0.2.1 rfl (by decide) rfl ?_
  refine aw_iconst (q := 3) (v := 1) gdX7_ledgerTold_0.2.2.1 rfl (by decide) ?_
  refine aw_istore (q := 5) (lv' := [(4, .int (1 : Int32)), (3, .int (0 : Int32)), (0, .ref m), (1, .int p0), (2, .int p1)]) gdX7_ledgerTold_0.2.2.2.1 rfl (by decide) rfl ?_
  refine aw_locals (lv' := [(0, .ref m), (1, .int p0), (2, .int p1), (3, .int (0 : Int32)), (4, .int (1 : Int32))]) [2, 3, 4, 1, 0] rfl ?_
  exact tX7_ledgerTold_5 hl N _ _
def fX7_rule_282 (N K : Nat) (th : Int32) (f : Nat → Int32) (t : Nat → Int32) (u : Nat → Int32) (p0 : Int32) (p1 : Int32) (k_185 : Int32 → Int32 → (Nat → Int32) → (Nat → Int32) → (Nat → Int32) → Option (Int32 × Int32 × (Nat → Int32) × (Nat → Int32) × (Nat → Int32))) (l3 : Int32) (th_ : Int32) (f_ : Nat → Int32) (t_ : Nat → Int32) (u_ : Nat → Int32) : Option (Int32 × Int32 × (Nat → Int32) × (Nat → Int32) × (Nat → Int32)) :=
  k_185 (l3 + (1 : Int32)) th_ f_ t_ u_
set_option maxHeartbeats 4000000 in
set_option maxRecDepth 100000 in
theorem tX7_rule_282 {N K : Nat} {m Mo Lo Do tl ca h : Nat} {ll : Nat → Option Nat} {th : Int32} {f : Nat → Int32} {t : Nat → Int32} {u : Nat → Int32} {p0 : Int32} {p1 : Int32} (hl : ¬ (p0 < 0 ∨ 3 ≤ p0.toNatClampNeg) → ll p0.toNatClampNeg = some h) {k_185 : Int32 → Int32 → (Nat → Int32) → (Nat → Int32) → (Nat → Int32) → Option (Int32 × Int32 × (Nat → Int32) × (Nat → Int32) × (Nat → Int32))} (hk_185 : ∀ (l3 : Int32) (th_ : Int32) (f_ : Nat → Int32) (t_ : Nat → Int32) (u_ : Nat → Int32), AW RX7 "rule" cX7_rule 6 (some .int) [] (fun _ _ => True) (1) (PN (U := Int32 × Int32 × (Nat → Int32) × (Nat → Int32) × (Nat → Int32)) (fun zz _ => some (.int zz.1)) (fun zz ad => [(m, .inr (9, [.ref Mo, .ref Lo, .ref Do, .ref tl, .ref ca, .int zz.2.1])), (Lo, .inl (4, 3, .inr (.inr (.inr (.inr ll))))), (h, .inl (0, 21, .inl zz.2.2.1)), (tl, .inl (0, 6, .inl zz.2.2.2.1)), (ca, .inl (0, 441, .inl zz.2.2.2.2))])) 0 0 (k_185 l3 th_ f_ t_ u_) 185 [(0, .ref m), (1, .int p0), (2, .int p1), (3, .int l3)] [] [(m, .inr (9, [.ref Mo, .ref Lo, .ref Do, .ref tl, .ref ca, .int th_])), (Lo, .inl (4, 3, .inr (.inr (.inr (.inr ll))))), (h, .inl (0, 21, .inl f_)), (tl, .inl (0, 6, .inl t_)), (ca, .inl (0, 441, .inl u_))]) : ∀ (l3 : Int32) (th_ : Int32) (f_ : Nat → Int32) (t_ : Nat → Int32) (u_ : Nat → Int32), AW RX7 "rule" cX7_rule 6 (some .int) [] (fun _ _ => True) (1) (PN (U := Int32 × Int32 × (Nat → Int32) × (Nat → Int32) × (Nat → Int32)) (fun zz _ => some (.int zz.1)) (fun zz ad => [(m, .inr (9, [.ref Mo, .ref Lo, .ref Do, .ref tl, .ref ca, .int zz.2.1])), (Lo, .inl (4, 3, .inr (.inr (.inr (.inr ll))))), (h, .inl (0, 21, .inl zz.2.2.1)), (tl, .inl (0, 6, .inl zz.2.2.2.1)), (ca, .inl (0, 441, .inl zz.2.2.2.2))])) 0 0 (fX7_rule_282 N K th f t u p0 p1 k_185 l3 th_ f_ t_ u_) 282 [(0, .ref m), (1, .int p0), (2, .int p1), (3, .int l3)] [] [(m, .inr (9, [.ref Mo, .ref Lo, .ref Do, .ref tl, .ref ca, .int th_])), (Lo, .inl (4, 3, .inr (.inr (.inr (.inr ll))))), (h, .inl (0, 21, .inl f_)), (tl, .inl (0, 6, .inl t_)), (ca, .inl (0, 441, .inl u_))] := by
  intro l3 th_ f_ t_ u_
  refine aw_iinc (q := 285) (v := (l3 + (1 : Int32))) (lv' := [(3, .int (l3 + (1 : Int32))), (0, .ref m), (1, .int p0), (2, .int p1)]) gdX7_rule_269.2.2.2.2.2.2.2 rfl 3 rfl rfl (by decide) rfl ?_
  refine aw_goto (tgt := 185) gdX7_rule_285.1 (by decide) ?_
  refine aw_locals (lv' := [(0, .ref m), (1, .int p0), (2, .int p1), (3, .int (l3 + (1 : Int32)))]) [1, 2, 3, 0] rfl ?_
  exact hk_185 _ _ _ _ _
def fX7_rule_281 (N K : Nat) (th : Int32) (f : Nat → Int32) (t : Nat → Int32) (u : Nat → Int32) (p0 : Int32) (p1 : Int32) (k_185 : Int32 → Int32 → (Nat → Int32) → (Nat → Int32) → (Nat → Int32) → Option (Int32 × Int32 × (Nat → Int32) × (Nat → Int32) × (Nat → Int32))) (l3 : Int32) (s0 : Int32) (s1 : Int32) (th_ : Int32) (f_ : Nat → Int32) (t_ : Nat → Int32) (u_ : Nat → Int32) : Option (Int32 × Int32 × (Nat → Int32) × (Nat → Int32) × (Nat → Int32)) :=
  (if s1 < 0 ∨ 21 ≤ s1.toNatClampNeg then none else fX7_rule_282 N K th f t u p0 p1 k_185 l3 th_ (upd f_ s1.toNatClampNeg s0) t_ u_)
set_option maxHeartbeats 4000000 in
set_option maxRecDepth 100000 in
theorem tX7_rule_281 {N K : Nat} {m Mo Lo Do tl ca h : Nat} {ll : Nat → Option Nat} {th : Int32} {f : Nat → Int32} {t : Nat → Int32} {u : Nat → Int32} {p0 : Int32} {p1 : Int32} (hl : ¬ (p0 < 0 ∨ 3 ≤ p0.toNatClampNeg) → ll p0.toNatClampNeg = some h) {k_185 : Int32 → Int32 → (Nat → Int32) → (Nat → Int32) → (Nat → Int32) → Option (Int32 × Int32 × (Nat → Int32) × (Nat → Int32) × (Nat → Int32))} (hk_185 : ∀ (l3 : Int32) (th_ : Int32) (f_ : Nat → Int32) (t_ : Nat → Int32) (u_ : Nat → Int32), AW RX7 "rule" cX7_rule 6 (some .int) [] (fun _ _ => True) (1) (PN (U := Int32 × Int32 × (Nat → Int32) × (Nat → Int32) × (Nat → Int32)) (fun zz _ => some (.int zz.1)) (fun zz ad => [(m, .inr (9, [.ref Mo, .ref Lo, .ref Do, .ref tl, .ref ca, .int zz.2.1])), (Lo, .inl (4, 3, .inr (.inr (.inr (.inr ll))))), (h, .inl (0, 21, .inl zz.2.2.1)), (tl, .inl (0, 6, .inl zz.2.2.2.1)), (ca, .inl (0, 441, .inl zz.2.2.2.2))])) 0 0 (k_185 l3 th_ f_ t_ u_) 185 [(0, .ref m), (1, .int p0), (2, .int p1), (3, .int l3)] [] [(m, .inr (9, [.ref Mo, .ref Lo, .ref Do, .ref tl, .ref ca, .int th_])), (Lo, .inl (4, 3, .inr (.inr (.inr (.inr ll))))), (h, .inl (0, 21, .inl f_)), (tl, .inl (0, 6, .inl t_)), (ca, .inl (0, 441, .inl u_))]) : ∀ (l3 : Int32) (s0 : Int32) (s1 : Int32) (th_ : Int32) (f_ : Nat → Int32) (t_ : Nat → Int32) (u_ : Nat → Int32), AW RX7 "rule" cX7_rule 6 (some .int) [] (fun _ _ => True) (1) (PN (U := Int32 × Int32 × (Nat → Int32) × (Nat → Int32) × (Nat → Int32)) (fun zz _ => some (.int zz.1)) (fun zz ad => [(m, .inr (9, [.ref Mo, .ref Lo, .ref Do, .ref tl, .ref ca, .int zz.2.1])), (Lo, .inl (4, 3, .inr (.inr (.inr (.inr ll))))), (h, .inl (0, 21, .inl zz.2.2.1)), (tl, .inl (0, 6, .inl zz.2.2.2.1)), (ca, .inl (0, 441, .inl zz.2.2.2.2))])) 0 0 (fX7_rule_281 N K th f t u p0 p1 k_185 l3 s0 s1 th_ f_ t_ u_) 281 [(0, .ref m), (1, .int p0), (2, .int p1), (3, .int l3)] [.int s0, .int s1, .ref h] [(m, .inr (9, [.ref Mo, .ref Lo, .ref Do, .ref tl, .ref ca, .int th_])), (Lo, .inl (4, 3, .inr (.inr (.inr (.inr ll))))), (h, .inl (0, 21, .inl f_)), (tl, .inl (0, 6, .inl t_)), (ca, .inl (0, 441, .inl u_))] := by
  intro l3 s0 s1 th_ f_ t_ u_
  refine aw_iast (q := 282) (ws' := [(m, .inr (9, [.ref Mo, .ref Lo, .ref Do, .ref tl, .ref ca, .int th_])), (Lo, .inl (4, 3, .inr (.inr (.inr (.inr ll))))), (h, .inl (0, 21, .inl (upd f_ s1.toNatClampNeg s0))), (tl, .inl (0, 6, .inl t_)), (ca, .inl (0, 441, .inl u_))]) gdX7_rule_269.2.2.2.2.2.2.1 rfl 2 rfl rfl ?_
  exact tX7_rule_282 hl hk_185 _ _ _ _ _
def fX7_rule_255 (N K : Nat) (th : Int32) (f : Nat → Int32) (t : Nat → Int32) (u : Nat → Int32) (p0 : Int32) (p1 : Int32) (k_185 : Int32 → Int32 → (Nat → Int32) → (Nat → Int32) → (Nat → Int32) → Option (Int32 × Int32 × (Nat → Int32) × (Nat → Int32) × (Nat → Int32))) (k_219 : Int32 → Int32 → Int32 → Int32 → (Nat → Int32) → (Nat → Int32) → (Nat → Int32) → Option (Int32 × Int32 × (Nat → Int32) × (Nat → Int32) × (Nat → Int32))) (l3 : Int32) (l4 : Int32) (l5 : Int32) (th_ : Int32) (f_ : Nat → Int32) (t_ : Nat → Int32) (u_ : Nat → Int32) : Option (Int32 × Int32 × (Nat → Int32) × (Nat → Int32) × (Nat → Int32)) :=
  k_219 l3 l4 (l5 + (1 : Int32)) th_ f_ t_ u_
set_option maxHeartbeats 4000000 in
set_option maxRecDepth 100000 in
theorem tX7_rule_255 {N K : Nat} {m Mo Lo Do tl ca h : Nat} {ll : Nat → Option Nat} {th : Int32} {f : Nat → Int32} {t : Nat → Int32} {u : Nat → Int32} {p0 : Int32} {p1 : Int32} (hl : ¬ (p0 < 0 ∨ 3 ≤ p0.toNatClampNeg) → ll p0.toNatClampNeg = some h) {k_185 : Int32 → Int32 → (Nat → Int32) → (Nat → Int32) → (Nat → Int32) → Option (Int32 × Int32 × (Nat → Int32) × (Nat → Int32) × (Nat → Int32))} (hk_185 : ∀ (l3 : Int32) (th_ : Int32) (f_ : Nat → Int32) (t_ : Nat → Int32) (u_ : Nat → Int32), AW RX7 "rule" cX7_rule 6 (some .int) [] (fun _ _ => True) (1) (PN (U := Int32 × Int32 × (Nat → Int32) × (Nat → Int32) × (Nat → Int32)) (fun zz _ => some (.int zz.1)) (fun zz ad => [(m, .inr (9, [.ref Mo, .ref Lo, .ref Do, .ref tl, .ref ca, .int zz.2.1])), (Lo, .inl (4, 3, .inr (.inr (.inr (.inr ll))))), (h, .inl (0, 21, .inl zz.2.2.1)), (tl, .inl (0, 6, .inl zz.2.2.2.1)), (ca, .inl (0, 441, .inl zz.2.2.2.2))])) 0 0 (k_185 l3 th_ f_ t_ u_) 185 [(0, .ref m), (1, .int p0), (2, .int p1), (3, .int l3)] [] [(m, .inr (9, [.ref Mo, .ref Lo, .ref Do, .ref tl, .ref ca, .int th_])), (Lo, .inl (4, 3, .inr (.inr (.inr (.inr ll))))), (h, .inl (0, 21, .inl f_)), (tl, .inl (0, 6, .inl t_)), (ca, .inl (0, 441, .inl u_))]) {k_219 : Int32 → Int32 → Int32 → Int32 → (Nat → Int32) → (Nat → Int32) → (Nat → Int32) → Option (Int32 × Int32 × (Nat → Int32) × (Nat → Int32) × (Nat → Int32))} (hk_219 : ∀ (l3 : Int32) (l4 : Int32) (l5 : Int32) (th_ : Int32) (f_ : Nat → Int32) (t_ : Nat → Int32) (u_ : Nat → Int32), AW RX7 "rule" cX7_rule 6 (some .int) [] (fun _ _ => True) (1) (PN (U := Int32 × Int32 × (Nat → Int32) × (Nat → Int32) × (Nat → Int32)) (fun zz _ => some (.int zz.1)) (fun zz ad => [(m, .inr (9, [.ref Mo, .ref Lo, .ref Do, .ref tl, .ref ca, .int zz.2.1])), (Lo, .inl (4, 3, .inr (.inr (.inr (.inr ll))))), (h, .inl (0, 21, .inl zz.2.2.1)), (tl, .inl (0, 6, .inl zz.2.2.2.1)), (ca, .inl (0, 441, .inl zz.2.2.2.2))])) 0 0 (k_219 l3 l4 l5 th_ f_ t_ u_) 219 [(0, .ref m), (1, .int p0), (2, .int p1), (3, .int l3), (4, .int l4), (5, .int l5)] [] [(m, .inr (9, [.ref Mo, .ref Lo, .ref Do, .ref tl, .ref ca, .int th_])), (Lo, .inl (4, 3, .inr (.inr (.inr (.inr ll))))), (h, .inl (0, 21, .inl f_)), (tl, .inl (0, 6, .inl t_)), (ca, .inl (0, 441, .inl u_))]) : ∀ (l3 : Int32) (l4 : Int32) (l5 : Int32) (th_ : Int32) (f_ : Nat → Int32) (t_ : Nat → Int32) (u_ : Nat → Int32), AW RX7 "rule" cX7_rule 6 (some .int) [] (fun _ _ => True) (1) (PN (U := Int32 × Int32 × (Nat → Int32) × (Nat → Int32) × (Nat → Int32)) (fun zz _ => some (.int zz.1)) (fun zz ad => [(m, .inr (9, [.ref Mo, .ref Lo, .ref Do, .ref tl, .ref ca, .int zz.2.1])), (Lo, .inl (4, 3, .inr (.inr (.inr (.inr ll))))), (h, .inl (0, 21, .inl zz.2.2.1)), (tl, .inl (0, 6, .inl zz.2.2.2.1)), (ca, .inl (0, 441, .inl zz.2.2.2.2))])) 0 0 (fX7_rule_255 N K th f t u p0 p1 k_185 k_219 l3 l4 l5 th_ f_ t_ u_) 255 [(0, .ref m), (1, .int p0), (2, .int p1), (3, .int l3), (4, .int l4), (5, .int l5)] [] [(m, .inr (9, [.ref Mo, .ref Lo, .ref Do, .ref tl, .ref ca, .int th_])), (Lo, .inl (4, 3, .inr (.inr (.inr (.inr ll))))), (h, .inl (0, 21, .inl f_)), (tl, .inl (0, 6, .inl t_)), (ca, .inl (0, 441, .inl u_))] := by
  intro l3 l4 l5 th_ f_ t_ u_
  refine aw_iinc (q := 258) (v := (l5 + (1 : Int32))) (lv' := [(5, .int (l5 + (1 : Int32))), (0, .ref m), (1, .int p0), (2, .int p1), (3, .int l3), (4, .int l4)]) gdX7_rule_255.1 rfl 5 rfl rfl (by decide) rfl ?_
  refine aw_goto (tgt := 219) gdX7_rule_255.2.1 (by decide) ?_
  refine aw_locals (lv' := [(0, .ref m), (1, .int p0), (2, .int p1), (3, .int l3), (4, .int l4), (5, .int (l5 + (1 : Int32)))]) [1, 2, 3, 4, 5, 0] rfl ?_
  exact hk_219 _ _ _ _ _ _ _
def fX7_rule_219 (N K : Nat) (th : Int32) (f : Nat → Int32) (t : Nat → Int32) (u : Nat → Int32) (p0 : Int32) (p1 : Int32) (k_185 : Int32 → Int32 → (Nat → Int32) → (Nat → Int32) → (Nat → Int32) → Option (Int32 × Int32 × (Nat → Int32) × (Nat → Int32) × (Nat → Int32))) : Nat → Int32 → Int32 → Int32 → Int32 → (Nat → Int32) → (Nat → Int32) → (Nat → Int32) → Option (Int32 × Int32 × (Nat → Int32) × (Nat → Int32) × (Nat → Int32))
  | 0, _, _, _, _, _, _, _ => none
  | fu + 1, l3, l4, l5, th_, f_, t_, u_ =>
    (if l3 < l5 then (if p0 < 0 ∨ 3 ≤ p0.toNatClampNeg then none else (if p0 = 0 then fX7_rule_281 N K th f t u p0 p1 k_185 l3 l4 l3 th_ f_ t_ u_ else (if l3 = 0 then none else fX7_rule_281 N K th f t u p0 p1 k_185 l3 (l4 / l3) l3 th_ f_ t_ u_))) else ((fX7_factor N K p0 l5).bind (fun x228 => (if x228 = 0 then fX7_rule_255 N K th f t u p0 p1 k_185 (fX7_rule_219 N K th f t u p0 p1 k_185 fu) l3 l4 l5 th_ f_ t_ u_ else ((fX7_factor N K p0 l5).bind (fun x239 => ((fX7_ledgerWorth N K th_ f_ p0 (l3 - l5)).bind (fun x248 => fX7_rule_255 N K th f t u p0 p1 k_185 (fX7_rule_219 N K th f t u p0 p1 k_185 fu) l3 (l4 + (x239 * x248)) l5 th_ f_ t_ u_))))))))
set_option maxHeartbeats 4000000 in
set_option maxRecDepth 100000 in
theorem tX7_rule_219 {N K : Nat} {m Mo Lo Do tl ca h : Nat} {ll : Nat → Option Nat} {th : Int32} {f : Nat → Int32} {t : Nat → Int32} {u : Nat → Int32} {p0 : Int32} {p1 : Int32} (hl : ¬ (p0 < 0 ∨ 3 ≤ p0.toNatClampNeg) → ll p0.toNatClampNeg = some h) {k_185 : Int32 → Int32 → (Nat → Int32) → (Nat → Int32) → (Nat → Int32) → Option (Int32 × Int32 × (Nat → Int32) × (Nat → Int32) × (Nat → Int32))} (hk_185 : ∀ (l3 : Int32) (th_ : Int32) (f_ : Nat → Int32) (t_ : Nat → Int32) (u_ : Nat → Int32), AW RX7 "rule" cX7_rule 6 (some .int) [] (fun _ _ => True) (1) (PN (U := Int32 × Int32 × (Nat → Int32) × (Nat → Int32) × (Nat → Int32)) (fun zz _ => some (.int zz.1)) (fun zz ad => [(m, .inr (9, [.ref Mo, .ref Lo, .ref Do, .ref tl, .ref ca, .int zz.2.1])), (Lo, .inl (4, 3, .inr (.inr (.inr (.inr ll))))), (h, .inl (0, 21, .inl zz.2.2.1)), (tl, .inl (0, 6, .inl zz.2.2.2.1)), (ca, .inl (0, 441, .inl zz.2.2.2.2))])) 0 0 (k_185 l3 th_ f_ t_ u_) 185 [(0, .ref m), (1, .int p0), (2, .int p1), (3, .int l3)] [] [(m, .inr (9, [.ref Mo, .ref Lo, .ref Do, .ref tl, .ref ca, .int th_])), (Lo, .inl (4, 3, .inr (.inr (.inr (.inr ll))))), (h, .inl (0, 21, .inl f_)), (tl, .inl (0, 6, .inl t_)), (ca, .inl (0, 441, .inl u_))]) : ∀ (fu : Nat) (l3 : Int32) (l4 : Int32) (l5 : Int32) (th_ : Int32) (f_ : Nat → Int32) (t_ : Nat → Int32) (u_ : Nat → Int32), AW RX7 "rule" cX7_rule 6 (some .int) [] (fun _ _ => True) (1) (PN (U := Int32 × Int32 × (Nat → Int32) × (Nat → Int32) × (Nat → Int32)) (fun zz _ => some (.int zz.1)) (fun zz ad => [(m, .inr (9, [.ref Mo, .ref Lo, .ref Do, .ref tl, .ref ca, .int zz.2.1])), (Lo, .inl (4, 3, .inr (.inr (.inr (.inr ll))))), (h, .inl (0, 21, .inl zz.2.2.1)), (tl, .inl (0, 6, .inl zz.2.2.2.1)), (ca, .inl (0, 441, .inl zz.2.2.2.2))])) 0 0 (fX7_rule_219 N K th f t u p0 p1 k_185 fu l3 l4 l5 th_ f_ t_ u_) 219 [(0, .ref m), (1, .int p0), (2, .int p1), (3, .int l3), (4, .int l4), (5, .int l5)] [] [(m, .inr (9, [.ref Mo, .ref Lo, .ref Do, .ref tl, .ref ca, .int th_])), (Lo, .inl (4, 3, .inr (.inr (.inr (.inr ll))))), (h, .inl (0, 21, .inl f_)), (tl, .inl (0, 6, .inl t_)), (ca, .inl (0, 441, .inl u_))] := by
  intro fu
  induction fu with
  | zero => intro l3 l4 l5 th_ f_ t_ u_; exact aw_none
  | succ fu ih =>
    intro l3 l4 l5 th_ f_ t_ u_
    refine aw_iload (q := 221) gdX7_rule_213.2.2.2.2.1 rfl 5 rfl ?_
    refine aw_iload_n (q := 222) gdX7_rule_213.2.2.2.2.2.1 rfl 3 rfl ?_
    refine aw_icmp_gt (tgt := 261) (q := 225) gdX7_rule_213.2.2.2.2.2.2.1 (by decide) rfl (fun h_222 => ?_) (fun h_222 => ?_)
    · refine aw_aload_n (q := 262) gdX7_rule_255.2.2.1 rfl 0 rfl ?_
      refine aw_get (q := 265) gdX7_rule_255.2.2.2.1 rfl fl_X7_14 0 rfl rfl ?_
      refine aw_iload_n (q := 266) gdX7_rule_255.2.2.2.2.1 rfl 1 rfl ?_
      refine aw_aald (q := 267) gdX7_rule_255.2.2.2.2.2.1 rfl 1 rfl (by decide) rfl hl ?_
      refine aw_iload_n (q := 268) gdX7_rule_255.2.2.2.2.2.2.1 rfl 3 rfl ?_
      refine aw_iload_n (q := 269) gdX7_rule_255.2.2.2.2.2.2.2 rfl 1 rfl ?_
      refine aw_if_ne (tgt := 277) (q := 272) gdX7_rule_269.1 (by decide) rfl (fun h_269 => ?_) (fun h_269 => ?_)
      · refine aw_iload (q := 279) gdX7_rule_269.2.2.2.1 rfl 4 rfl ?_
        refine aw_iload_n (q := 280) gdX7_rule_269.2.2.2.2.1 rfl 3 rfl ?_
        refine aw_idiv (q := 281) gdX7_rule_269.2.2.2.2.2.1 rfl ?_
        refine aw_locals (lv' := [(0, .ref m), (1, .int p0), (2, .int p1), (3, .int l3)]) [0, 1, 2, 3] rfl ?_
        exact tX7_rule_281 hl hk_185 _ _ _ _ _ _ _
      · refine aw_iload (q := 274) gdX7_rule_269.2.1 rfl 4 rfl ?_
        refine aw_goto (tgt := 281) gdX7_rule_269.2.2.1 (by decide) ?_
        refine aw_locals (lv' := [(0, .ref m), (1, .int p0), (2, .int p1), (3, .int l3)]) [0, 1, 2, 3] rfl ?_
        exact tX7_rule_281 hl hk_185 _ _ _ _ _ _ _
    · refine aw_iload_n (q := 226) gdX7_rule_213.2.2.2.2.2.2.2 rfl 1 rfl ?_
      refine aw_iload (q := 228) gdX7_rule_226.1 rfl 5 rfl ?_
      refine aw_call (q := 231) (kc1 := 0) (ks1 := 0) (wc := []) (wr := [(m, .inr (9, [.ref Mo, .ref Lo, .ref Do, .ref tl, .ref ca, .int th_])), (Lo, .inl (4, 3, .inr (.inr (.inr (.inr ll))))), (h, .inl (0, 21, .inl f_)), (tl, .inl (0, 6, .inl t_)), (ca, .inl (0, 441, .inl u_))]) (st1 := fun x228 g228 => [.int x228]) (ws1 := fun x228 g228 => [(m, .inr (9, [.ref Mo, .ref Lo, .ref Do, .ref tl, .ref ca, .int th_])), (Lo, .inl (4, 3, .inr (.inr (.inr (.inr ll))))), (h, .inl (0, 21, .inl f_)), (tl, .inl (0, 6, .inl t_)), (ca, .inl (0, 441, .inl u_))]) (As := [.int p0, .int l5]) [] [0, 1, 2, 3, 4] (fun _ => runS gdX7_rule_226.2.1 mi_X7_factor st_X7_factor ml_X7_156 (by omega) rfl (Nat.le_of_ble_eq_true rfl) rfl) (fun x9 h9 => ok_X7_factor h9) rfl rfl rfl rfl rfl (by decide +kernel) (by omega) (by omega) (fun _ _ => rfl) (fun _ _ => rfl) (fun x228 g228 => ?_)
      refine aw_if_eq (tgt := 255) (q := 234) gdX7_rule_226.2.2.1 (by decide) rfl (fun h_231 => ?_) (fun h_231 => ?_)
      · exact tX7_rule_255 hl hk_185 ih _ _ _ _ _ _ _
      · refine aw_iload (q := 236) gdX7_rule_226.2.2.2.1 rfl 4 rfl ?_
        refine aw_iload_n (q := 237) gdX7_rule_226.2.2.2.2.1 rfl 1 rfl ?_
        refine aw_iload (q := 239) gdX7_rule_226.2.2.2.2.2.1 rfl 5 rfl ?_
        refine aw_call (q := 242) (kc1 := 0) (ks1 := 0) (wc := []) (wr := [(m, .inr (9, [.ref Mo, .ref Lo, .ref Do, .ref tl, .ref ca, .int th_])), (Lo, .inl (4, 3, .inr (.inr (.inr (.inr ll))))), (h, .inl (0, 21, .inl f_)), (tl, .inl (0, 6, .inl t_)), (ca, .inl (0, 441, .inl u_))]) (st1 := fun x239 g239 => [.int x239, .int l4]) (ws1 := fun x239 g239 => [(m, .inr (9, [.ref Mo, .ref Lo, .ref Do, .ref tl, .ref ca, .int th_])), (Lo, .inl (4, 3, .inr (.inr (.inr (.inr ll))))), (h, .inl (0, 21, .inl f_)), (tl, .inl (0, 6, .inl t_)), (ca, .inl (0, 441, .inl u_))]) (As := [.int p0, .int l5]) [] [0, 1, 2, 3, 4] (fun _ => runS gdX7_rule_226.2.2.2.2.2.2.1 mi_X7_factor st_X7_factor ml_X7_156 (by omega) rfl (Nat.le_of_ble_eq_true rfl) rfl) (fun x9 h9 => ok_X7_factor h9) rfl rfl rfl rfl rfl (by decide +kernel) (by omega) (by omega) (fun _ _ => rfl) (fun _ _ => rfl) (fun x239 g239 => ?_)
        refine aw_aload_n (q := 243) gdX7_rule_226.2.2.2.2.2.2.2 rfl 0 rfl ?_
        refine aw_iload_n (q := 244) gdX7_rule_243.1 rfl 1 rfl ?_
        refine aw_iload_n (q := 245) gdX7_rule_243.2.1 rfl 3 rfl ?_
        refine aw_iload (q := 247) gdX7_rule_243.2.2.1 rfl 5 rfl ?_
        refine aw_isub (q := 248) gdX7_rule_243.2.2.2.1 rfl ?_
        refine aw_call (q := 251) (kc1 := 0) (ks1 := 0) (wc := [(m, .inr (9, [.ref Mo, .ref Lo, .ref Do, .ref tl, .ref ca, .int th_])), (Lo, .inl (4, 3, .inr (.inr (.inr (.inr ll))))), (h, .inl (0, 21, .inl f_))]) (wr := [(tl, .inl (0, 6, .inl t_)), (ca, .inl (0, 441, .inl u_))]) (st1 := fun x248 g248 => [.int x248, .int x239, .int l4]) (ws1 := fun x248 g248 => [(tl, .inl (0, 6, .inl t_)), (ca, .inl (0, 441, .inl u_)), (m, .inr (9, [.ref Mo, .ref Lo, .ref Do, .ref tl, .ref ca, .int th_])), (Lo, .inl (4, 3, .inr (.inr (.inr (.inr ll))))), (h, .inl (0, 21, .inl f_))]) (As := [.ref m, .int p0, .int (l3 - l5)]) [0, 1, 2] [3, 4] (fun _ => runV (q0 := 0) gdX7_rule_243.2.2.2.2.1 mi_X7_ledgerWorth im_X7_ledgerWorth se_X7_ledgerWorth ml_X7_159 (by omega) rfl (Nat.le_of_ble_eq_true rfl) rfl rfl rfl rfl) (fun x9 h9 => ok_X7_ledgerWorth hl h9) rfl rfl rfl rfl rfl (by decide +kernel) (by omega) (by omega) (fun _ _ => rfl) (fun _ _ => rfl) (fun x248 g248 => ?_)
        refine aw_imul (q := 252) gdX7_rule_243.2.2.2.2.2.1 rfl ?_
        refine aw_iadd (q := 253) gdX7_rule_243.2.2.2.2.2.2.1 rfl ?_
        refine aw_istore (q := 255) (lv' := [(4, .int (l4 + (x239 * x248))), (0, .ref m), (1, .int p0), (2, .int p1), (3, .int l3), (5, .int l5)]) gdX7_rule_243.2.2.2.2.2.2.2 rfl (by decide) rfl ?_
        refine aw_locals (lv' := [(0, .ref m), (1, .int p0), (2, .int p1), (3, .int l3), (4, .int (l4 + (x239 * x248))), (5, .int l5)]) [1, 2, 3, 4, 0, 5] rfl ?_
        refine aw_world (ws' := [(m, .inr (9, [.ref Mo, .ref Lo, .ref Do, .ref tl, .ref ca, .int th_])), (Lo, .inl (4, 3, .inr (.inr (.inr (.inr ll))))), (h, .inl (0, 21, .inl f_)), (tl, .inl (0, 6, .inl t_)), (ca, .inl (0, 441, .inl u_))]) [2, 3, 4, 0, 1] rfl rfl ?_
        exact tX7_rule_255 hl hk_185 ih _ _ _ _ _ _ _
def fX7_rule_185 (N K : Nat) (th : Int32) (f : Nat → Int32) (t : Nat → Int32) (u : Nat → Int32) (p0 : Int32) (p1 : Int32) : Nat → Int32 → Int32 → (Nat → Int32) → (Nat → Int32) → (Nat → Int32) → Option (Int32 × Int32 × (Nat → Int32) × (Nat → Int32) × (Nat → Int32))
  | 0, _, _, _, _, _ => none
  | fu + 1, l3, th_, f_, t_, u_ =>
    (if p1 < l3 then ((fX7_ledgerWorth N K th_ f_ p0 p1).bind (fun x292 => ((fX7_done N K th_ t_ x292).bind (fun x295 => (some (x295.1, th_, f_, x295.2, u_)))))) else (if l3 < 0 ∨ 441 ≤ l3.toNatClampNeg then none else (if (u_ l3.toNatClampNeg) = 0 then fX7_rule_282 N K th f t u p0 p1 (fX7_rule_185 N K th f t u p0 p1  fu) l3 th_ f_ t_ u_ else (if p0 < 0 ∨ 3 ≤ p0.toNatClampNeg then none else (if l3 < 0 ∨ 21 ≤ l3.toNatClampNeg then none else (if (f_ l3.toNatClampNeg) ≤ 0 then fX7_rule_219 N K th f t u p0 p1 (fX7_rule_185 N K th f t u p0 p1  fu) N l3 (0 : Int32) (1 : Int32) th_ f_ t_ u_ else fX7_rule_282 N K th f t u p0 p1 (fX7_rule_185 N K th f t u p0 p1  fu) l3 th_ f_ t_ u_))))))
set_option maxHeartbeats 4000000 in
set_option maxRecDepth 100000 in
theorem tX7_rule_185 {N K : Nat} {m Mo Lo Do tl ca h : Nat} {ll : Nat → Option Nat} {th : Int32} {f : Nat → Int32} {t : Nat → Int32} {u : Nat → Int32} {p0 : Int32} {p1 : Int32} (hl : ¬ (p0 < 0 ∨ 3 ≤ p0.toNatClampNeg) → ll p0.toNatClampNeg = some h) : ∀ (fu : Nat) (l3 : Int32) (th_ : Int32) (f_ : Nat → Int32) (t_ : Nat → Int32) (u_ : Nat → Int32), AW RX7 "rule" cX7_rule 6 (some .int) [] (fun _ _ => True) (1) (PN (U := Int32 × Int32 × (Nat → Int32) × (Nat → Int32) × (Nat → Int32)) (fun zz _ => some (.int zz.1)) (fun zz ad => [(m, .inr (9, [.ref Mo, .ref Lo, .ref Do, .ref tl, .ref ca, .int zz.2.1])), (Lo, .inl (4, 3, .inr (.inr (.inr (.inr ll))))), (h, .inl (0, 21, .inl zz.2.2.1)), (tl, .inl (0, 6, .inl zz.2.2.2.1)), (ca, .inl (0, 441, .inl zz.2.2.2.2))])) 0 0 (fX7_rule_185 N K th f t u p0 p1  fu l3 th_ f_ t_ u_) 185 [(0, .ref m), (1, .int p0), (2, .int p1), (3, .int l3)] [] [(m, .inr (9, [.ref Mo, .ref Lo, .ref Do, .ref tl, .ref ca, .int th_])), (Lo, .inl (4, 3, .inr (.inr (.inr (.inr ll))))), (h, .inl (0, 21, .inl f_)), (tl, .inl (0, 6, .inl t_)), (ca, .inl (0, 441, .inl u_))] := by
  intro fu
  induction fu with
  | zero => intro l3 th_ f_ t_ u_; exact aw_none
  | succ fu ih =>
    intro l3 th_ f_ t_ u_
    refine aw_iload_n (q := 186) gdX7_rule_185.1 rfl 3 rfl ?_
    refine aw_iload_n (q := 187) gdX7_rule_185.2.1 rfl 2 rfl ?_
    refine aw_icmp_gt (tgt := 288) (q := 190) gdX7_rule_185.2.2.1 (by decide) rfl (fun h_187 => ?_) (fun h_187 => ?_)
    · refine aw_aload_n (q := 289) gdX7_rule_285.2.1 rfl 0 rfl ?_
      refine aw_aload_n (q := 290) gdX7_rule_285.2.2.1 rfl 0 rfl ?_
      refine aw_iload_n (q := 291) gdX7_rule_285.2.2.2.1 rfl 1 rfl ?_
      refine aw_iload_n (q := 292) gdX7_rule_285.2.2.2.2.1 rfl 2 rfl ?_
      refine aw_call (q := 295) (kc1 := 0) (ks1 := 0) (wc := [(m, .inr (9, [.ref Mo, .ref Lo, .ref Do, .ref tl, .ref ca, .int th_])), (Lo, .inl (4, 3, .inr (.inr (.inr (.inr ll))))), (h, .inl (0, 21, .inl f_))]) (wr := [(tl, .inl (0, 6, .inl t_)), (ca, .inl (0, 441, .inl u_))]) (st1 := fun x292 g292 => [.int x292, .ref m]) (ws1 := fun x292 g292 => [(tl, .inl (0, 6, .inl t_)), (ca, .inl (0, 441, .inl u_)), (m, .inr (9, [.ref Mo, .ref Lo, .ref Do, .ref tl, .ref ca, .int th_])), (Lo, .inl (4, 3, .inr (.inr (.inr (.inr ll))))), (h, .inl (0, 21, .inl f_))]) (As := [.ref m, .int p0, .int p1]) [0, 1, 2] [3, 4] (fun _ => runV (q0 := 0) gdX7_rule_285.2.2.2.2.2.1 mi_X7_ledgerWorth im_X7_ledgerWorth se_X7_ledgerWorth ml_X7_159 (by omega) rfl (Nat.le_of_ble_eq_true rfl) rfl rfl rfl rfl) (fun x9 h9 => ok_X7_ledgerWorth hl h9) rfl rfl rfl rfl rfl (by decide +kernel) (by omega) (by omega) (fun _ _ => rfl) (fun _ _ => rfl) (fun x292 g292 => ?_)
      refine aw_call (q := 298) (kc1 := 0) (ks1 := 0) (wc := [(m, .inr (9, [.ref Mo, .ref Lo, .ref Do, .ref tl, .ref ca, .int th_])), (tl, .inl (0, 6, .inl t_))]) (wr := [(ca, .inl (0, 441, .inl u_)), (Lo, .inl (4, 3, .inr (.inr (.inr (.inr ll))))), (h, .inl (0, 21, .inl f_))]) (st1 := fun x295 g295 => [.int x295.1]) (ws1 := fun x295 g295 => [(ca, .inl (0, 441, .inl u_)), (Lo, .inl (4, 3, .inr (.inr (.inr (.inr ll))))), (h, .inl (0, 21, .inl f_)), (m, .inr (9, [.ref Mo, .ref Lo, .ref Do, .ref tl, .ref ca, .int th_])), (tl, .inl (0, 6, .inl x295.2))]) (As := [.ref m, .int x292]) [2, 0] [1, 3, 4] (fun _ => runV (q0 := 2) gdX7_rule_285.2.2.2.2.2.2.1 mi_X7_done im_X7_done se_X7_done ml_X7_117 (by omega) rfl (Nat.le_of_ble_eq_true rfl) rfl rfl rfl rfl) (fun x9 h9 => ok_X7_done h9) rfl rfl rfl rfl rfl (by decide +kernel) (by omega) (by omega) (fun _ _ => rfl) (fun _ _ => rfl) (fun x295 g295 => ?_)
      exact aw_ireturn (w := [(m, .inr (9, [.ref Mo, .ref Lo, .ref Do, .ref tl, .ref ca, .int th_])), (Lo, .inl (4, 3, .inr (.inr (.inr (.inr ll))))), (h, .inl (0, 21, .inl f_)), (tl, .inl (0, 6, .inl x295.2)), (ca, .inl (0, 441, .inl u_))]) [3, 1, 2, 4, 0] gdX7_rule_285.2.2.2.2.2.2.2 rfl rfl rfl rfl (PN.mk (fun _ => 0) rfl rfl)
    · refine aw_aload_n (q := 191) gdX7_rule_185.2.2.2.1 rfl 0 rfl ?_
      refine aw_get (q := 194) gdX7_rule_185.2.2.2.2.1 rfl fl_X7_24 0 rfl rfl ?_
      refine aw_iload_n (q := 195) gdX7_rule_185.2.2.2.2.2.1 rfl 3 rfl ?_
      refine aw_iald (q := 196) gdX7_rule_185.2.2.2.2.2.2.1 rfl 4 rfl ?_
      refine aw_if_eq (tgt := 282) (q := 199) gdX7_rule_185.2.2.2.2.2.2.2 (by decide) rfl (fun h_196 => ?_) (fun h_196 => ?_)
      · exact tX7_rule_282 hl ih _ _ _ _ _
      · refine aw_aload_n (q := 200) gdX7_rule_199.1 rfl 0 rfl ?_
        refine aw_get (q := 203) gdX7_rule_199.2.1 rfl fl_X7_14 0 rfl rfl ?_
        refine aw_iload_n (q := 204) gdX7_rule_199.2.2.1 rfl 1 rfl ?_
        refine aw_aald (q := 205) gdX7_rule_199.2.2.2.1 rfl 1 rfl (by decide) rfl hl ?_
        refine aw_iload_n (q := 206) gdX7_rule_199.2.2.2.2.1 rfl 3 rfl ?_
        refine aw_iald (q := 207) gdX7_rule_199.2.2.2.2.2.1 rfl 2 rfl ?_
        refine aw_if_le (tgt := 213) (q := 210) gdX7_rule_199.2.2.2.2.2.2.1 (by decide) rfl (fun h_207 => ?_) (fun h_207 => ?_)
        · refine aw_iconst (q := 214) (v := 0) gdX7_rule_213.1 rfl (by decide) ?_
          refine aw_istore (q := 216) (lv' := [(4, .int (0 : Int32)), (0, .ref m), (1, .int p0), (2, .int p1), (3, .int l3)]) gdX7_rule_213.2.1 rfl (by decide) rfl ?_
          refine aw_iconst (q := 217) (v := 1) gdX7_rule_213.2.2.1 rfl (by decide) ?_
          refine aw_istore (q := 219) (lv' := [(5, .int (1 : Int32)), (4, .int (0 : Int32)), (0, .ref m), (1, .int p0), (2, .int p1), (3, .int l3)]) gdX7_rule_213.2.2.2.1 rfl (by decide) rfl ?_
          refine aw_locals (lv' := [(0, .ref m), (1, .int p0), (2, .int p1), (3, .int l3), (4, .int (0 : Int32)), (5, .int (1 : Int32))]) [2, 3, 4, 5, 1, 0] rfl ?_
          exact tX7_rule_219 hl ih N _ _ _ _ _ _ _
        · refine aw_goto (tgt := 282) gdX7_rule_199.2.2.2.2.2.2.2 (by decide) ?_
          exact tX7_rule_282 hl ih _ _ _ _ _
def fX7_rule_177 (N K : Nat) (th : Int32) (f : Nat → Int32) (t : Nat → Int32) (u : Nat → Int32) (p0 : Int32) (p1 : Int32) (k_51 : Int32 → Int32 → (Nat → Int32) → (Nat → Int32) → (Nat → Int32) → Option (Int32 × Int32 × (Nat → Int32) × (Nat → Int32) × (Nat → Int32))) (l3 : Int32) (th_ : Int32) (f_ : Nat → Int32) (t_ : Nat → Int32) (u_ : Nat → Int32) : Option (Int32 × Int32 × (Nat → Int32) × (Nat → Int32) × (Nat → Int32)) :=
  k_51 (l3 + (-1 : Int32)) th_ f_ t_ u_
set_option maxHeartbeats 4000000 in
set_option maxRecDepth 100000 in
theorem tX7_rule_177 {N K : Nat} {m Mo Lo Do tl ca h : Nat} {ll : Nat → Option Nat} {th : Int32} {f : Nat → Int32} {t : Nat → Int32} {u : Nat → Int32} {p0 : Int32} {p1 : Int32} (hl : ¬ (p0 < 0 ∨ 3 ≤ p0.toNatClampNeg) → ll p0.toNatClampNeg = some h) {k_51 : Int32 → Int32 → (Nat → Int32) → (Nat → Int32) → (Nat → Int32) → Option (Int32 × Int32 × (Nat → Int32) × (Nat → Int32) × (Nat → Int32))} (hk_51 : ∀ (l3 : Int32) (th_ : Int32) (f_ : Nat → Int32) (t_ : Nat → Int32) (u_ : Nat → Int32), AW RX7 "rule" cX7_rule 6 (some .int) [] (fun _ _ => True) (1) (PN (U := Int32 × Int32 × (Nat → Int32) × (Nat → Int32) × (Nat → Int32)) (fun zz _ => some (.int zz.1)) (fun zz ad => [(m, .inr (9, [.ref Mo, .ref Lo, .ref Do, .ref tl, .ref ca, .int zz.2.1])), (Lo, .inl (4, 3, .inr (.inr (.inr (.inr ll))))), (h, .inl (0, 21, .inl zz.2.2.1)), (tl, .inl (0, 6, .inl zz.2.2.2.1)), (ca, .inl (0, 441, .inl zz.2.2.2.2))])) 0 0 (k_51 l3 th_ f_ t_ u_) 51 [(0, .ref m), (1, .int p0), (2, .int p1), (3, .int l3)] [] [(m, .inr (9, [.ref Mo, .ref Lo, .ref Do, .ref tl, .ref ca, .int th_])), (Lo, .inl (4, 3, .inr (.inr (.inr (.inr ll))))), (h, .inl (0, 21, .inl f_)), (tl, .inl (0, 6, .inl t_)), (ca, .inl (0, 441, .inl u_))]) : ∀ (l3 : Int32) (th_ : Int32) (f_ : Nat → Int32) (t_ : Nat → Int32) (u_ : Nat → Int32), AW RX7 "rule" cX7_rule 6 (some .int) [] (fun _ _ => True) (1) (PN (U := Int32 × Int32 × (Nat → Int32) × (Nat → Int32) × (Nat → Int32)) (fun zz _ => some (.int zz.1)) (fun zz ad => [(m, .inr (9, [.ref Mo, .ref Lo, .ref Do, .ref tl, .ref ca, .int zz.2.1])), (Lo, .inl (4, 3, .inr (.inr (.inr (.inr ll))))), (h, .inl (0, 21, .inl zz.2.2.1)), (tl, .inl (0, 6, .inl zz.2.2.2.1)), (ca, .inl (0, 441, .inl zz.2.2.2.2))])) 0 0 (fX7_rule_177 N K th f t u p0 p1 k_51 l3 th_ f_ t_ u_) 177 [(0, .ref m), (1, .int p0), (2, .int p1), (3, .int l3)] [] [(m, .inr (9, [.ref Mo, .ref Lo, .ref Do, .ref tl, .ref ca, .int th_])), (Lo, .inl (4, 3, .inr (.inr (.inr (.inr ll))))), (h, .inl (0, 21, .inl f_)), (tl, .inl (0, 6, .inl t_)), (ca, .inl (0, 441, .inl u_))] := by
  intro l3 th_ f_ t_ u_
  refine aw_iinc (q := 180) (v := (l3 + (-1 : Int32))) (lv' := [(3, .int (l3 + (-1 : Int32))), (0, .ref m), (1, .int p0), (2, .int p1)]) gdX7_rule_169.2.2.2.2.1 rfl 3 rfl rfl (by decide) rfl ?_
  refine aw_goto (tgt := 51) gdX7_rule_169.2.2.2.2.2.1 (by decide) ?_
  refine aw_locals (lv' := [(0, .ref m), (1, .int p0), (2, .int p1), (3, .int (l3 + (-1 : Int32)))]) [1, 2, 3, 0] rfl ?_
  exact hk_51 _ _ _ _ _
def fX7_rule_171 (N K : Nat) (th : Int32) (f : Nat → Int32) (t : Nat → Int32) (u : Nat → Int32) (p0 : Int32) (p1 : Int32) (k_51 : Int32 → Int32 → (Nat → Int32) → (Nat → Int32) → (Nat → Int32) → Option (Int32 × Int32 × (Nat → Int32) × (Nat → Int32) × (Nat → Int32))) (k_138 : Int32 → Int32 → Int32 → Int32 → (Nat → Int32) → (Nat → Int32) → (Nat → Int32) → Option (Int32 × Int32 × (Nat → Int32) × (Nat → Int32) × (Nat → Int32))) (l3 : Int32) (l4 : Int32) (l5 : Int32) (th_ : Int32) (f_ : Nat → Int32) (t_ : Nat → Int32) (u_ : Nat → Int32) : Option (Int32 × Int32 × (Nat → Int32) × (Nat → Int32) × (Nat → Int32)) :=
  k_138 l3 l4 (l5 + (1 : Int32)) th_ f_ t_ u_
set_option maxHeartbeats 4000000 in
set_option maxRecDepth 100000 in
theorem tX7_rule_171 {N K : Nat} {m Mo Lo Do tl ca h : Nat} {ll : Nat → Option Nat} {th : Int32} {f : Nat → Int32} {t : Nat → Int32} {u : Nat → Int32} {p0 : Int32} {p1 : Int32} (hl : ¬ (p0 < 0 ∨ 3 ≤ p0.toNatClampNeg) → ll p0.toNatClampNeg = some h) {k_51 : Int32 → Int32 → (Nat → Int32) → (Nat → Int32) → (Nat → Int32) → Option (Int32 × Int32 × (Nat → Int32) × (Nat → Int32) × (Nat → Int32))} (hk_51 : ∀ (l3 : Int32) (th_ : Int32) (f_ : Nat → Int32) (t_ : Nat → Int32) (u_ : Nat → Int32), AW RX7 "rule" cX7_rule 6 (some .int) [] (fun _ _ => True) (1) (PN (U := Int32 × Int32 × (Nat → Int32) × (Nat → Int32) × (Nat → Int32)) (fun zz _ => some (.int zz.1)) (fun zz ad => [(m, .inr (9, [.ref Mo, .ref Lo, .ref Do, .ref tl, .ref ca, .int zz.2.1])), (Lo, .inl (4, 3, .inr (.inr (.inr (.inr ll))))), (h, .inl (0, 21, .inl zz.2.2.1)), (tl, .inl (0, 6, .inl zz.2.2.2.1)), (ca, .inl (0, 441, .inl zz.2.2.2.2))])) 0 0 (k_51 l3 th_ f_ t_ u_) 51 [(0, .ref m), (1, .int p0), (2, .int p1), (3, .int l3)] [] [(m, .inr (9, [.ref Mo, .ref Lo, .ref Do, .ref tl, .ref ca, .int th_])), (Lo, .inl (4, 3, .inr (.inr (.inr (.inr ll))))), (h, .inl (0, 21, .inl f_)), (tl, .inl (0, 6, .inl t_)), (ca, .inl (0, 441, .inl u_))]) {k_138 : Int32 → Int32 → Int32 → Int32 → (Nat → Int32) → (Nat → Int32) → (Nat → Int32) → Option (Int32 × Int32 × (Nat → Int32) × (Nat → Int32) × (Nat → Int32))} (hk_138 : ∀ (l3 : Int32) (l4 : Int32) (l5 : Int32) (th_ : Int32) (f_ : Nat → Int32) (t_ : Nat → Int32) (u_ : Nat → Int32), AW RX7 "rule" cX7_rule 6 (some .int) [] (fun _ _ => True) (1) (PN (U := Int32 × Int32 × (Nat → Int32) × (Nat → Int32) × (Nat → Int32)) (fun zz _ => some (.int zz.1)) (fun zz ad => [(m, .inr (9, [.ref Mo, .ref Lo, .ref Do, .ref tl, .ref ca, .int zz.2.1])), (Lo, .inl (4, 3, .inr (.inr (.inr (.inr ll))))), (h, .inl (0, 21, .inl zz.2.2.1)), (tl, .inl (0, 6, .inl zz.2.2.2.1)), (ca, .inl (0, 441, .inl zz.2.2.2.2))])) 0 0 (k_138 l3 l4 l5 th_ f_ t_ u_) 138 [(0, .ref m), (1, .int p0), (2, .int p1), (3, .int l3), (4, .int l4), (5, .int l5)] [] [(m, .inr (9, [.ref Mo, .ref Lo, .ref Do, .ref tl, .ref ca, .int th_])), (Lo, .inl (4, 3, .inr (.inr (.inr (.inr ll))))), (h, .inl (0, 21, .inl f_)), (tl, .inl (0, 6, .inl t_)), (ca, .inl (0, 441, .inl u_))]) : ∀ (l3 : Int32) (l4 : Int32) (l5 : Int32) (th_ : Int32) (f_ : Nat → Int32) (t_ : Nat → Int32) (u_ : Nat → Int32), AW RX7 "rule" cX7_rule 6 (some .int) [] (fun _ _ => True) (1) (PN (U := Int32 × Int32 × (Nat → Int32) × (Nat → Int32) × (Nat → Int32)) (fun zz _ => some (.int zz.1)) (fun zz ad => [(m, .inr (9, [.ref Mo, .ref Lo, .ref Do, .ref tl, .ref ca, .int zz.2.1])), (Lo, .inl (4, 3, .inr (.inr (.inr (.inr ll))))), (h, .inl (0, 21, .inl zz.2.2.1)), (tl, .inl (0, 6, .inl zz.2.2.2.1)), (ca, .inl (0, 441, .inl zz.2.2.2.2))])) 0 0 (fX7_rule_171 N K th f t u p0 p1 k_51 k_138 l3 l4 l5 th_ f_ t_ u_) 171 [(0, .ref m), (1, .int p0), (2, .int p1), (3, .int l3), (4, .int l4), (5, .int l5)] [] [(m, .inr (9, [.ref Mo, .ref Lo, .ref Do, .ref tl, .ref ca, .int th_])), (Lo, .inl (4, 3, .inr (.inr (.inr (.inr ll))))), (h, .inl (0, 21, .inl f_)), (tl, .inl (0, 6, .inl t_)), (ca, .inl (0, 441, .inl u_))] := by
  intro l3 l4 l5 th_ f_ t_ u_
  refine aw_iinc (q := 174) (v := (l5 + (1 : Int32))) (lv' := [(5, .int (l5 + (1 : Int32))), (0, .ref m), (1, .int p0), (2, .int p1), (3, .int l3), (4, .int l4)]) gdX7_rule_169.2.2.1 rfl 5 rfl rfl (by decide) rfl ?_
  refine aw_goto (tgt := 138) gdX7_rule_169.2.2.2.1 (by decide) ?_
  refine aw_locals (lv' := [(0, .ref m), (1, .int p0), (2, .int p1), (3, .int l3), (4, .int l4), (5, .int (l5 + (1 : Int32)))]) [1, 2, 3, 4, 5, 0] rfl ?_
  exact hk_138 _ _ _ _ _ _ _
def fX7_rule_138 (N K : Nat) (th : Int32) (f : Nat → Int32) (t : Nat → Int32) (u : Nat → Int32) (p0 : Int32) (p1 : Int32) (k_51 : Int32 → Int32 → (Nat → Int32) → (Nat → Int32) → (Nat → Int32) → Option (Int32 × Int32 × (Nat → Int32) × (Nat → Int32) × (Nat → Int32))) : Nat → Int32 → Int32 → Int32 → Int32 → (Nat → Int32) → (Nat → Int32) → (Nat → Int32) → Option (Int32 × Int32 × (Nat → Int32) × (Nat → Int32) × (Nat → Int32))
  | 0, _, _, _, _, _, _, _ => none
  | fu + 1, l3, l4, l5, th_, f_, t_, u_ =>
    (if l3 < l5 then fX7_rule_177 N K th f t u p0 p1 k_51 l3 th_ f_ t_ u_ else (if l4 = 0 then fX7_rule_177 N K th f t u p0 p1 k_51 l3 th_ f_ t_ u_ else ((fX7_factor N K p0 l5).bind (fun x152 => (if x152 = 0 then fX7_rule_171 N K th f t u p0 p1 k_51 (fX7_rule_138 N K th f t u p0 p1 k_51 fu) l3 l4 l5 th_ f_ t_ u_ else (if (l3 - l5) < 0 ∨ 441 ≤ (l3 - l5).toNatClampNeg then none else (if (l3 - l5) < 0 ∨ 441 ≤ (l3 - l5).toNatClampNeg then none else fX7_rule_171 N K th f t u p0 p1 k_51 (fX7_rule_138 N K th f t u p0 p1 k_51 fu) l3 l4 l5 th_ f_ t_ (upd u_ (l3 - l5).toNatClampNeg ((u_ (l3 - l5).toNatClampNeg) + (1 : Int32))))))))))
set_option maxHeartbeats 4000000 in
set_option maxRecDepth 100000 in
theorem tX7_rule_138 {N K : Nat} {m Mo Lo Do tl ca h : Nat} {ll : Nat → Option Nat} {th : Int32} {f : Nat → Int32} {t : Nat → Int32} {u : Nat → Int32} {p0 : Int32} {p1 : Int32} (hl : ¬ (p0 < 0 ∨ 3 ≤ p0.toNatClampNeg) → ll p0.toNatClampNeg = some h) {k_51 : Int32 → Int32 → (Nat → Int32) → (Nat → Int32) → (Nat → Int32) → Option (Int32 × Int32 × (Nat → Int32) × (Nat → Int32) × (Nat → Int32))} (hk_51 : ∀ (l3 : Int32) (th_ : Int32) (f_ : Nat → Int32) (t_ : Nat → Int32) (u_ : Nat → Int32), AW RX7 "rule" cX7_rule 6 (some .int) [] (fun _ _ => True) (1) (PN (U := Int32 × Int32 × (Nat → Int32) × (Nat → Int32) × (Nat → Int32)) (fun zz _ => some (.int zz.1)) (fun zz ad => [(m, .inr (9, [.ref Mo, .ref Lo, .ref Do, .ref tl, .ref ca, .int zz.2.1])), (Lo, .inl (4, 3, .inr (.inr (.inr (.inr ll))))), (h, .inl (0, 21, .inl zz.2.2.1)), (tl, .inl (0, 6, .inl zz.2.2.2.1)), (ca, .inl (0, 441, .inl zz.2.2.2.2))])) 0 0 (k_51 l3 th_ f_ t_ u_) 51 [(0, .ref m), (1, .int p0), (2, .int p1), (3, .int l3)] [] [(m, .inr (9, [.ref Mo, .ref Lo, .ref Do, .ref tl, .ref ca, .int th_])), (Lo, .inl (4, 3, .inr (.inr (.inr (.inr ll))))), (h, .inl (0, 21, .inl f_)), (tl, .inl (0, 6, .inl t_)), (ca, .inl (0, 441, .inl u_))]) : ∀ (fu : Nat) (l3 : Int32) (l4 : Int32) (l5 : Int32) (th_ : Int32) (f_ : Nat → Int32) (t_ : Nat → Int32) (u_ : Nat → Int32), AW RX7 "rule" cX7_rule 6 (some .int) [] (fun _ _ => True) (1) (PN (U := Int32 × Int32 × (Nat → Int32) × (Nat → Int32) × (Nat → Int32)) (fun zz _ => some (.int zz.1)) (fun zz ad => [(m, .inr (9, [.ref Mo, .ref Lo, .ref Do, .ref tl, .ref ca, .int zz.2.1])), (Lo, .inl (4, 3, .inr (.inr (.inr (.inr ll))))), (h, .inl (0, 21, .inl zz.2.2.1)), (tl, .inl (0, 6, .inl zz.2.2.2.1)), (ca, .inl (0, 441, .inl zz.2.2.2.2))])) 0 0 (fX7_rule_138 N K th f t u p0 p1 k_51 fu l3 l4 l5 th_ f_ t_ u_) 138 [(0, .ref m), (1, .int p0), (2, .int p1), (3, .int l3), (4, .int l4), (5, .int l5)] [] [(m, .inr (9, [.ref Mo, .ref Lo, .ref Do, .ref tl, .ref ca, .int th_])), (Lo, .inl (4, 3, .inr (.inr (.inr (.inr ll))))), (h, .inl (0, 21, .inl f_)), (tl, .inl (0, 6, .inl t_)), (ca, .inl (0, 441, .inl u_))] := by
  intro fu
  induction fu with
  | zero => intro l3 l4 l5 th_ f_ t_ u_; exact aw_none
  | succ fu ih =>
    intro l3 l4 l5 th_ f_ t_ u_
    refine aw_iload (q := 140) gdX7_rule_127.2.2.2.2.2.2.2 rfl 5 rfl ?_
    refine aw_iload_n (q := 141) gdX7_rule_140.1 rfl 3 rfl ?_
    refine aw_icmp_gt (tgt := 177) (q := 144) gdX7_rule_140.2.1 (by decide) rfl (fun h_141 => ?_) (fun h_141 => ?_)
    · refine aw_locals (lv' := [(0, .ref m), (1, .int p0), (2, .int p1), (3, .int l3)]) [0, 1, 2, 3] rfl ?_
      exact tX7_rule_177 hl hk_51 _ _ _ _ _
    · refine aw_iload (q := 146) gdX7_rule_140.2.2.1 rfl 4 rfl ?_
      refine aw_if_eq (tgt := 177) (q := 149) gdX7_rule_140.2.2.2.1 (by decide) rfl (fun h_146 => ?_) (fun h_146 => ?_)
      · refine aw_locals (lv' := [(0, .ref m), (1, .int p0), (2, .int p1), (3, .int l3)]) [0, 1, 2, 3] rfl ?_
        exact tX7_rule_177 hl hk_51 _ _ _ _ _
      · refine aw_iload_n (q := 150) gdX7_rule_140.2.2.2.2.1 rfl 1 rfl ?_
        refine aw_iload (q := 152) gdX7_rule_140.2.2.2.2.2.1 rfl 5 rfl ?_
        refine aw_call (q := 155) (kc1 := 0) (ks1 := 0) (wc := []) (wr := [(m, .inr (9, [.ref Mo, .ref Lo, .ref Do, .ref tl, .ref ca, .int th_])), (Lo, .inl (4, 3, .inr (.inr (.inr (.inr ll))))), (h, .inl (0, 21, .inl f_)), (tl, .inl (0, 6, .inl t_)), (ca, .inl (0, 441, .inl u_))]) (st1 := fun x152 g152 => [.int x152]) (ws1 := fun x152 g152 => [(m, .inr (9, [.ref Mo, .ref Lo, .ref Do, .ref tl, .ref ca, .int th_])), (Lo, .inl (4, 3, .inr (.inr (.inr (.inr ll))))), (h, .inl (0, 21, .inl f_)), (tl, .inl (0, 6, .inl t_)), (ca, .inl (0, 441, .inl u_))]) (As := [.int p0, .int l5]) [] [0, 1, 2, 3, 4] (fun _ => runS gdX7_rule_140.2.2.2.2.2.2.1 mi_X7_factor st_X7_factor ml_X7_156 (by omega) rfl (Nat.le_of_ble_eq_true rfl) rfl) (fun x9 h9 => ok_X7_factor h9) rfl rfl rfl rfl rfl (by decide +kernel) (by omega) (by omega) (fun _ _ => rfl) (fun _ _ => rfl) (fun x152 g152 => ?_)
        refine aw_if_eq (tgt := 171) (q := 158) gdX7_rule_140.2.2.2.2.2.2.2 (by decide) rfl (fun h_155 => ?_) (fun h_155 => ?_)
        · exact tX7_rule_171 hl hk_51 ih _ _ _ _ _ _ _
        · refine aw_aload_n (q := 159) gdX7_rule_158.1 rfl 0 rfl ?_
          refine aw_get (q := 162) gdX7_rule_158.2.1 rfl fl_X7_24 0 rfl rfl ?_
          refine aw_iload_n (q := 163) gdX7_rule_158.2.2.1 rfl 3 rfl ?_
          refine aw_iload (q := 165) gdX7_rule_158.2.2.2.1 rfl 5 rfl ?_
          refine aw_isub (q := 166) gdX7_rule_158.2.2.2.2.1 rfl ?_
          refine aw_dup2 (q := 167) gdX7_rule_158.2.2.2.2.2.1 rfl rfl rfl ?_
          refine aw_iald (q := 168) gdX7_rule_158.2.2.2.2.2.2.1 rfl 4 rfl ?_
          refine aw_iconst (q := 169) (v := 1) gdX7_rule_158.2.2.2.2.2.2.2 rfl (by decide) ?_
          refine aw_iadd (q := 170) gdX7_rule_169.1 rfl ?_
          refine aw_iast (q := 171) (ws' := [(m, .inr (9, [.ref Mo, .ref Lo, .ref Do, .ref tl, .ref ca, .int th_])), (Lo, .inl (4, 3, .inr (.inr (.inr (.inr ll))))), (h, .inl (0, 21, .inl f_)), (tl, .inl (0, 6, .inl t_)), (ca, .inl (0, 441, .inl (upd u_ (l3 - l5).toNatClampNeg ((u_ (l3 - l5).toNatClampNeg) + (1 : Int32)))))]) gdX7_rule_169.2.1 rfl 4 rfl rfl ?_
          exact tX7_rule_171 hl hk_51 ih _ _ _ _ _ _ _
def fX7_rule_83 (N K : Nat) (th : Int32) (f : Nat → Int32) (t : Nat → Int32) (u : Nat → Int32) (p0 : Int32) (p1 : Int32) (k_51 : Int32 → Int32 → (Nat → Int32) → (Nat → Int32) → (Nat → Int32) → Option (Int32 × Int32 × (Nat → Int32) × (Nat → Int32) × (Nat → Int32))) (l3 : Int32) (s0 : Int32) (th_ : Int32) (f_ : Nat → Int32) (t_ : Nat → Int32) (u_ : Nat → Int32) : Option (Int32 × Int32 × (Nat → Int32) × (Nat → Int32) × (Nat → Int32)) :=
  (if l3 < 0 ∨ 441 ≤ l3.toNatClampNeg then none else ((fX7_bit N K s0).bind (fun x109 => (if l3 < 0 ∨ 441 ≤ l3.toNatClampNeg then none else ((fX7_bit N K s0).bind (fun x129 => fX7_rule_138 N K th f t u p0 p1 k_51 N l3 s0 (1 : Int32) th_ f_ (upd (upd (upd t_ (1 : Int32).toNatClampNeg ((t_ (1 : Int32).toNatClampNeg) + (u_ l3.toNatClampNeg))) (2 : Int32).toNatClampNeg (((upd t_ (1 : Int32).toNatClampNeg ((t_ (1 : Int32).toNatClampNeg) + (u_ l3.toNatClampNeg))) (2 : Int32).toNatClampNeg) + x109)) (3 : Int32).toNatClampNeg (((upd (upd t_ (1 : Int32).toNatClampNeg ((t_ (1 : Int32).toNatClampNeg) + (u_ l3.toNatClampNeg))) (2 : Int32).toNatClampNeg (((upd t_ (1 : Int32).toNatClampNeg ((t_ (1 : Int32).toNatClampNeg) + (u_ l3.toNatClampNeg))) (2 : Int32).toNatClampNeg) + x109)) (3 : Int32).toNatClampNeg) + ((u_ l3.toNatClampNeg) - x129))) u_))))))
set_option maxHeartbeats 4000000 in
set_option maxRecDepth 100000 in
theorem tX7_rule_83 {N K : Nat} {m Mo Lo Do tl ca h : Nat} {ll : Nat → Option Nat} {th : Int32} {f : Nat → Int32} {t : Nat → Int32} {u : Nat → Int32} {p0 : Int32} {p1 : Int32} (hl : ¬ (p0 < 0 ∨ 3 ≤ p0.toNatClampNeg) → ll p0.toNatClampNeg = some h) {k_51 : Int32 → Int32 → (Nat → Int32) → (Nat → Int32) → (Nat → Int32) → Option (Int32 × Int32 × (Nat → Int32) × (Nat → Int32) × (Nat → Int32))} (hk_51 : ∀ (l3 : Int32) (th_ : Int32) (f_ : Nat → Int32) (t_ : Nat → Int32) (u_ : Nat → Int32), AW RX7 "rule" cX7_rule 6 (some .int) [] (fun _ _ => True) (1) (PN (U := Int32 × Int32 × (Nat → Int32) × (Nat → Int32) × (Nat → Int32)) (fun zz _ => some (.int zz.1)) (fun zz ad => [(m, .inr (9, [.ref Mo, .ref Lo, .ref Do, .ref tl, .ref ca, .int zz.2.1])), (Lo, .inl (4, 3, .inr (.inr (.inr (.inr ll))))), (h, .inl (0, 21, .inl zz.2.2.1)), (tl, .inl (0, 6, .inl zz.2.2.2.1)), (ca, .inl (0, 441, .inl zz.2.2.2.2))])) 0 0 (k_51 l3 th_ f_ t_ u_) 51 [(0, .ref m), (1, .int p0), (2, .int p1), (3, .int l3)] [] [(m, .inr (9, [.ref Mo, .ref Lo, .ref Do, .ref tl, .ref ca, .int th_])), (Lo, .inl (4, 3, .inr (.inr (.inr (.inr ll))))), (h, .inl (0, 21, .inl f_)), (tl, .inl (0, 6, .inl t_)), (ca, .inl (0, 441, .inl u_))]) : ∀ (l3 : Int32) (s0 : Int32) (th_ : Int32) (f_ : Nat → Int32) (t_ : Nat → Int32) (u_ : Nat → Int32), AW RX7 "rule" cX7_rule 6 (some .int) [] (fun _ _ => True) (1) (PN (U := Int32 × Int32 × (Nat → Int32) × (Nat → Int32) × (Nat → Int32)) (fun zz _ => some (.int zz.1)) (fun zz ad => [(m, .inr (9, [.ref Mo, .ref Lo, .ref Do, .ref tl, .ref ca, .int zz.2.1])), (Lo, .inl (4, 3, .inr (.inr (.inr (.inr ll))))), (h, .inl (0, 21, .inl zz.2.2.1)), (tl, .inl (0, 6, .inl zz.2.2.2.1)), (ca, .inl (0, 441, .inl zz.2.2.2.2))])) 0 0 (fX7_rule_83 N K th f t u p0 p1 k_51 l3 s0 th_ f_ t_ u_) 83 [(0, .ref m), (1, .int p0), (2, .int p1), (3, .int l3)] [.int s0] [(m, .inr (9, [.ref Mo, .ref Lo, .ref Do, .ref tl, .ref ca, .int th_])), (Lo, .inl (4, 3, .inr (.inr (.inr (.inr ll))))), (h, .inl (0, 21, .inl f_)), (tl, .inl (0, 6, .inl t_)), (ca, .inl (0, 441, .inl u_))] := by
  intro l3 s0 th_ f_ t_ u_
  refine aw_istore (q := 85) (lv' := [(4, .int s0), (0, .ref m), (1, .int p0), (2, .int p1), (3, .int l3)]) gdX7_rule_79.2.2.1 rfl (by decide) rfl ?_
  refine aw_aload_n (q := 86) gdX7_rule_79.2.2.2.1 rfl 1 rfl ?_
  refine aw_get (q := 89) gdX7_rule_79.2.2.2.2.1 rfl fl_X7_20 0 rfl rfl ?_
  refine aw_iconst (q := 90) (v := 1) gdX7_rule_79.2.2.2.2.2.1 rfl (by decide) ?_
  refine aw_dup2 (q := 91) gdX7_rule_79.2.2.2.2.2.2.1 rfl rfl rfl ?_
  refine aw_ialdT (q := 92) (by decide) gdX7_rule_79.2.2.2.2.2.2.2 rfl 3 rfl ?_
  refine aw_aload_n (q := 93) gdX7_rule_92.1 rfl 1 rfl ?_
  refine aw_get (q := 96) gdX7_rule_92.2.1 rfl fl_X7_24 0 rfl rfl ?_
  refine aw_iload_n (q := 97) gdX7_rule_92.2.2.1 rfl 4 rfl ?_
  refine aw_iald (q := 98) gdX7_rule_92.2.2.2.1 rfl 4 rfl ?_
  refine aw_iadd (q := 99) gdX7_rule_92.2.2.2.2.1 rfl ?_
  refine aw_iastT (q := 100) (ws' := [(m, .inr (9, [.ref Mo, .ref Lo, .ref Do, .ref tl, .ref ca, .int th_])), (Lo, .inl (4, 3, .inr (.inr (.inr (.inr ll))))), (h, .inl (0, 21, .inl f_)), (tl, .inl (0, 6, .inl (upd t_ (1 : Int32).toNatClampNeg ((t_ (1 : Int32).toNatClampNeg) + (u_ l3.toNatClampNeg))))), (ca, .inl (0, 441, .inl u_))]) (by decide) gdX7_rule_92.2.2.2.2.2.1 rfl 3 rfl rfl ?_
  refine aw_aload_n (q := 101) gdX7_rule_92.2.2.2.2.2.2.1 rfl 1 rfl ?_
  refine aw_get (q := 104) gdX7_rule_92.2.2.2.2.2.2.2 rfl fl_X7_20 0 rfl rfl ?_
  refine aw_iconst (q := 105) (v := 2) gdX7_rule_104.1 rfl (by decide) ?_
  refine aw_dup2 (q := 106) gdX7_rule_104.2.1 rfl rfl rfl ?_
  refine aw_ialdT (q := 107) (by decide) gdX7_rule_104.2.2.1 rfl 3 rfl ?_
  refine aw_iload (q := 109) gdX7_rule_104.2.2.2.1 rfl 0 rfl ?_
  refine aw_call (q := 112) (kc1 := 0) (ks1 := 0) (wc := []) (wr := [(m, .inr (9, [.ref Mo, .ref Lo, .ref Do, .ref tl, .ref ca, .int th_])), (Lo, .inl (4, 3, .inr (.inr (.inr (.inr ll))))), (h, .inl (0, 21, .inl f_)), (tl, .inl (0, 6, .inl (upd t_ (1 : Int32).toNatClampNeg ((t_ (1 : Int32).toNatClampNeg) + (u_ l3.toNatClampNeg))))), (ca, .inl (0, 441, .inl u_))]) (st1 := fun x109 g109 => [.int x109, .int ((upd t_ (1 : Int32).toNatClampNeg ((t_ (1 : Int32).toNatClampNeg) + (u_ l3.toNatClampNeg))) (2 : Int32).toNatClampNeg), .int (2 : Int32), .ref tl]) (ws1 := fun x109 g109 => [(m, .inr (9, [.ref Mo, .ref Lo, .ref Do, .ref tl, .ref ca, .int th_])), (Lo, .inl (4, 3, .inr (.inr (.inr (.inr ll))))), (h, .inl (0, 21, .inl f_)), (tl, .inl (0, 6, .inl (upd t_ (1 : Int32).toNatClampNeg ((t_ (1 : Int32).toNatClampNeg) + (u_ l3.toNatClampNeg))))), (ca, .inl (0, 441, .inl u_))]) (As := [.int s0]) [] [0, 1, 2, 3, 4] (fun _ => runS gdX7_rule_104.2.2.2.2.1 mi_X7_bit st_X7_bit ml_X7_43 (by omega) rfl (Nat.le_of_ble_eq_true rfl) rfl) (fun x9 h9 => ok_X7_bit h9) rfl rfl rfl rfl rfl (by decide +kernel) (by omega) (by omega) (fun _ _ => rfl) (fun _ _ => rfl) (fun x109 g109 => ?_)
  refine aw_iadd (q := 113) gdX7_rule_104.2.2.2.2.2.1 rfl ?_
  refine aw_iastT (q := 114) (ws' := [(m, .inr (9, [.ref Mo, .ref Lo, .ref Do, .ref tl, .ref ca, .int th_])), (Lo, .inl (4, 3, .inr (.inr (.inr (.inr ll))))), (h, .inl (0, 21, .inl f_)), (tl, .inl (0, 6, .inl (upd (upd t_ (1 : Int32).toNatClampNeg ((t_ (1 : Int32).toNatClampNeg) + (u_ l3.toNatClampNeg))) (2 : Int32).toNatClampNeg (((upd t_ (1 : Int32).toNatClampNeg ((t_ (1 : Int32).toNatClampNeg) + (u_ l3.toNatClampNeg))) (2 : Int32).toNatClampNeg) + x109)))), (ca, .inl (0, 441, .inl u_))]) (by decide) gdX7_rule_104.2.2.2.2.2.2.1 rfl 3 rfl rfl ?_
  refine aw_aload_n (q := 115) gdX7_rule_104.2.2.2.2.2.2.2 rfl 1 rfl ?_
  refine aw_get (q := 118) gdX7_rule_115.1 rfl fl_X7_20 0 rfl rfl ?_
  refine aw_iconst (q := 119) (v := 3) gdX7_rule_115.2.1 rfl (by decide) ?_
  refine aw_dup2 (q := 120) gdX7_rule_115.2.2.1 rfl rfl rfl ?_
  refine aw_ialdT (q := 121) (by decide) gdX7_rule_115.2.2.2.1 rfl 3 rfl ?_
  refine aw_aload_n (q := 122) gdX7_rule_115.2.2.2.2.1 rfl 1 rfl ?_
  refine aw_get (q := 125) gdX7_rule_115.2.2.2.2.2.1 rfl fl_X7_24 0 rfl rfl ?_
  refine aw_iload_n (q := 126) gdX7_rule_115.2.2.2.2.2.2.1 rfl 4 rfl ?_
  refine aw_iald (q := 127) gdX7_rule_115.2.2.2.2.2.2.2 rfl 4 rfl ?_
  refine aw_iload (q := 129) gdX7_rule_127.1 rfl 0 rfl ?_
  refine aw_call (q := 132) (kc1 := 0) (ks1 := 0) (wc := []) (wr := [(m, .inr (9, [.ref Mo, .ref Lo, .ref Do, .ref tl, .ref ca, .int th_])), (Lo, .inl (4, 3, .inr (.inr (.inr (.inr ll))))), (h, .inl (0, 21, .inl f_)), (tl, .inl (0, 6, .inl (upd (upd t_ (1 : Int32).toNatClampNeg ((t_ (1 : Int32).toNatClampNeg) + (u_ l3.toNatClampNeg))) (2 : Int32).toNatClampNeg (((upd t_ (1 : Int32).toNatClampNeg ((t_ (1 : Int32).toNatClampNeg) + (u_ l3.toNatClampNeg))) (2 : Int32).toNatClampNeg) + x109)))), (ca, .inl (0, 441, .inl u_))]) (st1 := fun x129 g129 => [.int x129, .int (u_ l3.toNatClampNeg), .int ((upd (upd t_ (1 : Int32).toNatClampNeg ((t_ (1 : Int32).toNatClampNeg) + (u_ l3.toNatClampNeg))) (2 : Int32).toNatClampNeg (((upd t_ (1 : Int32).toNatClampNeg ((t_ (1 : Int32).toNatClampNeg) + (u_ l3.toNatClampNeg))) (2 : Int32).toNatClampNeg) + x109)) (3 : Int32).toNatClampNeg), .int (3 : Int32), .ref tl]) (ws1 := fun x129 g129 => [(m, .inr (9, [.ref Mo, .ref Lo, .ref Do, .ref tl, .ref ca, .int th_])), (Lo, .inl (4, 3, .inr (.inr (.inr (.inr ll))))), (h, .inl (0, 21, .inl f_)), (tl, .inl (0, 6, .inl (upd (upd t_ (1 : Int32).toNatClampNeg ((t_ (1 : Int32).toNatClampNeg) + (u_ l3.toNatClampNeg))) (2 : Int32).toNatClampNeg (((upd t_ (1 : Int32).toNatClampNeg ((t_ (1 : Int32).toNatClampNeg) + (u_ l3.toNatClampNeg))) (2 : Int32).toNatClampNeg) + x109)))), (ca, .inl (0, 441, .inl u_))]) (As := [.int s0]) [] [0, 1, 2, 3, 4] (fun _ => runS gdX7_rule_127.2.1 mi_X7_bit st_X7_bit ml_X7_43 (by omega) rfl (Nat.le_of_ble_eq_true rfl) rfl) (fun x9 h9 => ok_X7_bit h9) rfl rfl rfl rfl rfl (by decide +kernel) (by omega) (by omega) (fun _ _ => rfl) (fun _ _ => rfl) (fun x129 g129 => ?_)
  refine aw_isub (q := 133) gdX7_rule_127.2.2.1 rfl ?_
  refine aw_iadd (q := 134) gdX7_rule_127.2.2.2.1 rfl ?_
  refine aw_iastT (q := 135) (ws' := [(m, .inr (9, [.ref Mo, .ref Lo, .ref Do, .ref tl, .ref ca, .int th_])), (Lo, .inl (4, 3, .inr (.inr (.inr (.inr ll))))), (h, .inl (0, 21, .inl f_)), (tl, .inl (0, 6, .inl (upd (upd (upd t_ (1 : Int32).toNatClampNeg ((t_ (1 : Int32).toNatClampNeg) + (u_ l3.toNatClampNeg))) (2 : Int32).toNatClampNeg (((upd t_ (1 : Int32).toNatClampNeg ((t_ (1 : Int32).toNatClampNeg) + (u_ l3.toNatClampNeg))) (2 : Int32).toNatClampNeg) + x109)) (3 : Int32).toNatClampNeg (((upd (upd t_ (1 : Int32).toNatClampNeg ((t_ (1 : Int32).toNatClampNeg) + (u_ l3.toNatClampNeg))) (2 : Int32).toNatClampNeg (((upd t_ (1 : Int32).toNatClampNeg ((t_ (1 : Int32).toNatClampNeg) + (u_ l3.toNatClampNeg))) (2 : Int32).toNatClampNeg) + x109)) (3 : Int32).toNatClampNeg) + ((u_ l3.toNatClampNeg) - x129))))), (ca, .inl (0, 441, .inl u_))]) (by decide) gdX7_rule_127.2.2.2.2.1 rfl 3 rfl rfl ?_
  refine aw_iconst (q := 136) (v := 1) gdX7_rule_127.2.2.2.2.2.1 rfl (by decide) ?_
  refine aw_istore (q := 138) (lv' := [(5, .int (1 : Int32)), (4, .int s0), (0, .ref m), (1, .int p0), (2, .int p1), (3, .int l3)]) gdX7_rule_127.2.2.2.2.2.2.1 rfl (by decide) rfl ?_
  refine aw_locals (lv' := [(0, .ref m), (1, .int p0), (2, .int p1), (3, .int l3), (4, .int s0), (5, .int (1 : Int32))]) [2, 3, 4, 5, 1, 0] rfl ?_
  exact tX7_rule_138 hl hk_51 N _ _ _ _ _ _ _
def fX7_rule_51 (N K : Nat) (th : Int32) (f : Nat → Int32) (t : Nat → Int32) (u : Nat → Int32) (p0 : Int32) (p1 : Int32) : Nat → Int32 → Int32 → (Nat → Int32) → (Nat → Int32) → (Nat → Int32) → Option (Int32 × Int32 × (Nat → Int32) × (Nat → Int32) × (Nat → Int32))
  | 0, _, _, _, _, _ => none
  | fu + 1, l3, th_, f_, t_, u_ =>
    (if l3 ≤ 0 then fX7_rule_185 N K th f t u p0 p1  N (1 : Int32) th_ f_ t_ u_ else (if l3 < 0 ∨ 441 ≤ l3.toNatClampNeg then none else (if (u_ l3.toNatClampNeg) = 0 then fX7_rule_177 N K th f t u p0 p1 (fX7_rule_51 N K th f t u p0 p1  fu) l3 th_ f_ t_ u_ else (if p0 < 0 ∨ 3 ≤ p0.toNatClampNeg then none else (if l3 < 0 ∨ 21 ≤ l3.toNatClampNeg then none else (if (f_ l3.toNatClampNeg) = 0 then fX7_rule_83 N K th f t u p0 p1 (fX7_rule_51 N K th f t u p0 p1  fu) l3 (1 : Int32) th_ f_ t_ u_ else fX7_rule_83 N K th f t u p0 p1 (fX7_rule_51 N K th f t u p0 p1  fu) l3 (0 : Int32) th_ f_ t_ u_))))))
set_option maxHeartbeats 4000000 in
set_option maxRecDepth 100000 in
theorem tX7_rule_51 {N K : Nat} {m Mo Lo Do tl ca h : Nat} {ll : Nat → Option Nat} {th : Int32} {f : Nat → Int32} {t : Nat → Int32} {u : Nat → Int32} {p0 : Int32} {p1 : Int32} (hl : ¬ (p0 < 0 ∨ 3 ≤ p0.toNatClampNeg) → ll p0.toNatClampNeg = some h) : ∀ (fu : Nat) (l3 : Int32) (th_ : Int32) (f_ : Nat → Int32) (t_ : Nat → Int32) (u_ : Nat → Int32), AW RX7 "rule" cX7_rule 6 (some .int) [] (fun _ _ => True) (1) (PN (U := Int32 × Int32 × (Nat → Int32) × (Nat → Int32) × (Nat → Int32)) (fun zz _ => some (.int zz.1)) (fun zz ad => [(m, .inr (9, [.ref Mo, .ref Lo, .ref Do, .ref tl, .ref ca, .int zz.2.1])), (Lo, .inl (4, 3, .inr (.inr (.inr (.inr ll))))), (h, .inl (0, 21, .inl zz.2.2.1)), (tl, .inl (0, 6, .inl zz.2.2.2.1)), (ca, .inl (0, 441, .inl zz.2.2.2.2))])) 0 0 (fX7_rule_51 N K th f t u p0 p1  fu l3 th_ f_ t_ u_) 51 [(0, .ref m), (1, .int p0), (2, .int p1), (3, .int l3)] [] [(m, .inr (9, [.ref Mo, .ref Lo, .ref Do, .ref tl, .ref ca, .int th_])), (Lo, .inl (4, 3, .inr (.inr (.inr (.inr ll))))), (h, .inl (0, 21, .inl f_)), (tl, .inl (0, 6, .inl t_)), (ca, .inl (0, 441, .inl u_))] := by
  intro fu
  induction fu with
  | zero => intro l3 th_ f_ t_ u_; exact aw_none
  | succ fu ih =>
    intro l3 th_ f_ t_ u_
    refine aw_iload_n (q := 52) gdX7_rule_51.1 rfl 3 rfl ?_
    refine aw_if_le (tgt := 183) (q := 55) gdX7_rule_51.2.1 (by decide) rfl (fun h_52 => ?_) (fun h_52 => ?_)
    · refine aw_iconst (q := 184) (v := 1) gdX7_rule_169.2.2.2.2.2.2.1 rfl (by decide) ?_
      refine aw_istore_n (q := 185) (lv' := [(3, .int (1 : Int32)), (0, .ref m), (1, .int p0), (2, .int p1)]) gdX7_rule_169.2.2.2.2.2.2.2 rfl (by decide) rfl ?_
      refine aw_locals (lv' := [(0, .ref m), (1, .int p0), (2, .int p1), (3, .int (1 : Int32))]) [1, 2, 3, 0] rfl ?_
      exact tX7_rule_185 hl N _ _ _ _ _
    · refine aw_aload_n (q := 56) gdX7_rule_51.2.2.1 rfl 0 rfl ?_
      refine aw_get (q := 59) gdX7_rule_51.2.2.2.1 rfl fl_X7_24 0 rfl rfl ?_
      refine aw_iload_n (q := 60) gdX7_rule_51.2.2.2.2.1 rfl 3 rfl ?_
      refine aw_iald (q := 61) gdX7_rule_51.2.2.2.2.2.1 rfl 4 rfl ?_
      refine aw_if_ne (tgt := 67) (q := 64) gdX7_rule_51.2.2.2.2.2.2.1 (by decide) rfl (fun h_61 => ?_) (fun h_61 => ?_)
      · refine aw_aload_n (q := 68) gdX7_rule_67.1 rfl 0 rfl ?_
        refine aw_get (q := 71) gdX7_rule_67.2.1 rfl fl_X7_14 0 rfl rfl ?_
        refine aw_iload_n (q := 72) gdX7_rule_67.2.2.1 rfl 1 rfl ?_
        refine aw_aald (q := 73) gdX7_rule_67.2.2.2.1 rfl 1 rfl (by decide) rfl hl ?_
        refine aw_iload_n (q := 74) gdX7_rule_67.2.2.2.2.1 rfl 3 rfl ?_
        refine aw_iald (q := 75) gdX7_rule_67.2.2.2.2.2.1 rfl 2 rfl ?_
        refine aw_if_ne (tgt := 82) (q := 78) gdX7_rule_67.2.2.2.2.2.2.1 (by decide) rfl (fun h_75 => ?_) (fun h_75 => ?_)
        · refine aw_iconst (q := 83) (v := 0) gdX7_rule_79.2.1 rfl (by decide) ?_
          exact tX7_rule_83 hl ih _ _ _ _ _ _
        · refine aw_iconst (q := 79) (v := 1) gdX7_rule_67.2.2.2.2.2.2.2 rfl (by decide) ?_
          refine aw_goto (tgt := 83) gdX7_rule_79.1 (by decide) ?_
          exact tX7_rule_83 hl ih _ _ _ _ _ _
      · refine aw_goto (tgt := 177) gdX7_rule_51.2.2.2.2.2.2.2 (by decide) ?_
        exact tX7_rule_177 hl ih _ _ _ _ _
def fX7_rule_24 (N K : Nat) (th : Int32) (f : Nat → Int32) (t : Nat → Int32) (u : Nat → Int32) (p0 : Int32) (p1 : Int32) : Nat → Int32 → Int32 → (Nat → Int32) → (Nat → Int32) → (Nat → Int32) → Option (Int32 × Int32 × (Nat → Int32) × (Nat → Int32) × (Nat → Int32))
  | 0, _, _, _, _, _ => none
  | fu + 1, l3, th_, f_, t_, u_ =>
    (if p1 ≤ l3 then (if p1 < 0 ∨ 441 ≤ p1.toNatClampNeg then none else fX7_rule_51 N K th f t u p0 p1  N p1 th_ f_ t_ (upd u_ p1.toNatClampNeg (1 : Int32))) else (if l3 < 0 ∨ 441 ≤ l3.toNatClampNeg then none else fX7_rule_24 N K th f t u p0 p1  fu (l3 + (1 : Int32)) th_ f_ t_ (upd u_ l3.toNatClampNeg (0 : Int32))))
set_option maxHeartbeats 4000000 in
set_option maxRecDepth 100000 in
theorem tX7_rule_24 {N K : Nat} {m Mo Lo Do tl ca h : Nat} {ll : Nat → Option Nat} {th : Int32} {f : Nat → Int32} {t : Nat → Int32} {u : Nat → Int32} {p0 : Int32} {p1 : Int32} (hl : ¬ (p0 < 0 ∨ 3 ≤ p0.toNatClampNeg) → ll p0.toNatClampNeg = some h) : ∀ (fu : Nat) (l3 : Int32) (th_ : Int32) (f_ : Nat → Int32) (t_ : Nat → Int32) (u_ : Nat → Int32), AW RX7 "rule" cX7_rule 6 (some .int) [] (fun _ _ => True) (1) (PN (U := Int32 × Int32 × (Nat → Int32) × (Nat → Int32) × (Nat → Int32)) (fun zz _ => some (.int zz.1)) (fun zz ad => [(m, .inr (9, [.ref Mo, .ref Lo, .ref Do, .ref tl, .ref ca, .int zz.2.1])), (Lo, .inl (4, 3, .inr (.inr (.inr (.inr ll))))), (h, .inl (0, 21, .inl zz.2.2.1)), (tl, .inl (0, 6, .inl zz.2.2.2.1)), (ca, .inl (0, 441, .inl zz.2.2.2.2))])) 0 0 (fX7_rule_24 N K th f t u p0 p1  fu l3 th_ f_ t_ u_) 24 [(0, .ref m), (1, .int p0), (2, .int p1), (3, .int l3)] [] [(m, .inr (9, [.ref Mo, .ref Lo, .ref Do, .ref tl, .ref ca, .int th_])), (Lo, .inl (4, 3, .inr (.inr (.inr (.inr ll))))), (h, .inl (0, 21, .inl f_)), (tl, .inl (0, 6, .inl t_)), (ca, .inl (0, 441, .inl u_))] := by
  intro fu
  induction fu with
  | zero => intro l3 th_ f_ t_ u_; exact aw_none
  | succ fu ih =>
    intro l3 th_ f_ t_ u_
    refine aw_iload_n (q := 25) gdX7_rule_11.2.2.2.2.2.2.2 rfl 3 rfl ?_
    refine aw_iload_n (q := 26) gdX7_rule_25.1 rfl 2 rfl ?_
    refine aw_icmp_ge (tgt := 42) (q := 29) gdX7_rule_25.2.1 (by decide) rfl (fun h_26 => ?_) (fun h_26 => ?_)
    · refine aw_aload_n (q := 43) gdX7_rule_39.2.1 rfl 0 rfl ?_
      refine aw_get (q := 46) gdX7_rule_39.2.2.1 rfl fl_X7_24 0 rfl rfl ?_
      refine aw_iload_n (q := 47) gdX7_rule_39.2.2.2.1 rfl 2 rfl ?_
      refine aw_iconst (q := 48) (v := 1) gdX7_rule_39.2.2.2.2.1 rfl (by decide) ?_
      refine aw_iast (q := 49) (ws' := [(m, .inr (9, [.ref Mo, .ref Lo, .ref Do, .ref tl, .ref ca, .int th_])), (Lo, .inl (4, 3, .inr (.inr (.inr (.inr ll))))), (h, .inl (0, 21, .inl f_)), (tl, .inl (0, 6, .inl t_)), (ca, .inl (0, 441, .inl (upd u_ p1.toNatClampNeg (1 : Int32))))]) gdX7_rule_39.2.2.2.2.2.1 rfl 4 rfl rfl ?_
      refine aw_iload_n (q := 50) gdX7_rule_39.2.2.2.2.2.2.1 rfl 2 rfl ?_
      refine aw_istore_n (q := 51) (lv' := [(3, .int p1), (0, .ref m), (1, .int p0), (2, .int p1)]) gdX7_rule_39.2.2.2.2.2.2.2 rfl (by decide) rfl ?_
      refine aw_locals (lv' := [(0, .ref m), (1, .int p0), (2, .int p1), (3, .int p1)]) [1, 2, 3, 0] rfl ?_
      exact tX7_rule_51 hl N _ _ _ _ _
    · refine aw_aload_n (q := 30) gdX7_rule_25.2.2.1 rfl 0 rfl ?_
      refine aw_get (q := 33) gdX7_rule_25.2.2.2.1 rfl fl_X7_24 0 rfl rfl ?_
      refine aw_iload_n (q := 34) gdX7_rule_25.2.2.2.2.1 rfl 3 rfl ?_
      refine aw_iconst (q := 35) (v := 0) gdX7_rule_25.2.2.2.2.2.1 rfl (by decide) ?_
      refine aw_iast (q := 36) (ws' := [(m, .inr (9, [.ref Mo, .ref Lo, .ref Do, .ref tl, .ref ca, .int th_])), (Lo, .inl (4, 3, .inr (.inr (.inr (.inr ll))))), (h, .inl (0, 21, .inl f_)), (tl, .inl (0, 6, .inl t_)), (ca, .inl (0, 441, .inl (upd u_ l3.toNatClampNeg (0 : Int32))))]) gdX7_rule_25.2.2.2.2.2.2.1 rfl 4 rfl rfl ?_
      refine aw_iinc (q := 39) (v := (l3 + (1 : Int32))) (lv' := [(3, .int (l3 + (1 : Int32))), (0, .ref m), (1, .int p0), (2, .int p1)]) gdX7_rule_25.2.2.2.2.2.2.2 rfl 3 rfl rfl (by decide) rfl ?_
      refine aw_goto (tgt := 24) gdX7_rule_39.1 (by decide) ?_
      refine aw_locals (lv' := [(0, .ref m), (1, .int p0), (2, .int p1), (3, .int (l3 + (1 : Int32)))]) [1, 2, 3, 0] rfl ?_
      exact ih _ _ _ _ _
def fX7_rule (N K : Nat) (th : Int32) (f : Nat → Int32) (t : Nat → Int32) (u : Nat → Int32) (p0 : Int32) (p1 : Int32) : Option (Int32 × Int32 × (Nat → Int32) × (Nat → Int32) × (Nat → Int32)) :=
  ((fX7_isNo N K p0 (0 : Int32) (2 : Int32)).bind (fun x4 => ((fX7_isNo N K p1 (0 : Int32) (20 : Int32)).bind (fun x11 => ((fX7_isThrown N K th x4 x11).bind (fun x14 => (if x14.1 = 0 then fX7_rule_24 N K th f t u p0 p1  N (0 : Int32) x14.2 f t u else (some ((0 : Int32), x14.2, f, t, u)))))))))
set_option maxHeartbeats 4000000 in
set_option maxRecDepth 100000 in
theorem ok_X7_rule {N K : Nat} {m Mo Lo Do tl ca h : Nat} {ll : Nat → Option Nat} {th : Int32} {f : Nat → Int32} {t : Nat → Int32} {u : Nat → Int32} {p0 : Int32} {p1 : Int32} (hl : ¬ (p0 < 0 ∨ 3 ≤ p0.toNatClampNeg) → ll p0.toNatClampNeg = some h) {xr : Int32 × Int32 × (Nat → Int32) × (Nat → Int32) × (Nat → Int32)} (hE : fX7_rule N K th f t u p0 p1 = some xr) : OkM yX7_rule (.code yX7_rule cX7_rule 6 (some .int)) (1) 0 0 [.ref m, .int p0, .int p1] [(m, .inr (9, [.ref Mo, .ref Lo, .ref Do, .ref tl, .ref ca, .int th])), (Lo, .inl (4, 3, .inr (.inr (.inr (.inr ll))))), (h, .inl (0, 21, .inl f)), (tl, .inl (0, 6, .inl t)), (ca, .inl (0, 441, .inl u))] ((PN (U := Int32 × Int32 × (Nat → Int32) × (Nat → Int32) × (Nat → Int32)) (fun zz _ => some (.int zz.1)) (fun zz ad => [(m, .inr (9, [.ref Mo, .ref Lo, .ref Do, .ref tl, .ref ca, .int zz.2.1])), (Lo, .inl (4, 3, .inr (.inr (.inr (.inr ll))))), (h, .inl (0, 21, .inl zz.2.2.1)), (tl, .inl (0, 6, .inl zz.2.2.2.1)), (ca, .inl (0, 441, .inl zz.2.2.2.2))])) xr) := by
  refine ok_of (by decide) (Nat.le_of_ble_eq_true rfl) hE ?_
  refine aw_locals (lv' := [(0, .ref m), (1, .int p0), (2, .int p1)]) [0, 1, 2] rfl ?_
  refine aw_aload_n (q := 1) gdX7_rule_0.1 rfl 0 rfl ?_
  refine aw_iload_n (q := 2) gdX7_rule_0.2.1 rfl 1 rfl ?_
  refine aw_iconst (q := 3) (v := 0) gdX7_rule_0.2.2.1 rfl (by decide) ?_
  refine aw_iconst (q := 4) (v := 2) gdX7_rule_0.2.2.2.1 rfl (by decide) ?_
  refine aw_call (q := 7) (kc1 := 0) (ks1 := 0) (wc := []) (wr := [(m, .inr (9, [.ref Mo, .ref Lo, .ref Do, .ref tl, .ref ca, .int th])), (Lo, .inl (4, 3, .inr (.inr (.inr (.inr ll))))), (h, .inl (0, 21, .inl f)), (tl, .inl (0, 6, .inl t)), (ca, .inl (0, 441, .inl u))]) (st1 := fun x4 g4 => [.int x4, .ref m]) (ws1 := fun x4 g4 => [(m, .inr (9, [.ref Mo, .ref Lo, .ref Do, .ref tl, .ref ca, .int th])), (Lo, .inl (4, 3, .inr (.inr (.inr (.inr ll))))), (h, .inl (0, 21, .inl f)), (tl, .inl (0, 6, .inl t)), (ca, .inl (0, 441, .inl u))]) (As := [.int p0, .int (0 : Int32), .int (2 : Int32)]) [] [0, 1, 2, 3, 4] (fun _ => runS gdX7_rule_0.2.2.2.2.1 mi_X7_isNo st_X7_isNo ml_X7_31 (by omega) rfl (Nat.le_of_ble_eq_true rfl) rfl) (fun x9 h9 => ok_X7_isNo h9) rfl rfl rfl rfl rfl (by decide +kernel) (by omega) (by omega) (fun _ _ => rfl) (fun _ _ => rfl) (fun x4 g4 => ?_)
  refine aw_iload_n (q := 8) gdX7_rule_0.2.2.2.2.2.1 rfl 2 rfl ?_
  refine aw_iconst (q := 9) (v := 0) gdX7_rule_0.2.2.2.2.2.2.1 rfl (by decide) ?_
  refine aw_bipush (q := 11) (v := 20) gdX7_rule_0.2.2.2.2.2.2.2 rfl (by decide) ?_
  refine aw_call (q := 14) (kc1 := 0) (ks1 := 0) (wc := []) (wr := [(m, .inr (9, [.ref Mo, .ref Lo, .ref Do, .ref tl, .ref ca, .int th])), (Lo, .inl (4, 3, .inr (.inr (.inr (.inr ll))))), (h, .inl (0, 21, .inl f)), (tl, .inl (0, 6, .inl t)), (ca, .inl (0, 441, .inl u))]) (st1 := fun x11 g11 => [.int x11, .int x4, .ref m]) (ws1 := fun x11 g11 => [(m, .inr (9, [.ref Mo, .ref Lo, .ref Do, .ref tl, .ref ca, .int th])), (Lo, .inl (4, 3, .inr (.inr (.inr (.inr ll))))), (h, .inl (0, 21, .inl f)), (tl, .inl (0, 6, .inl t)), (ca, .inl (0, 441, .inl u))]) (As := [.int p1, .int (0 : Int32), .int (20 : Int32)]) [] [0, 1, 2, 3, 4] (fun _ => runS gdX7_rule_11.1 mi_X7_isNo st_X7_isNo ml_X7_31 (by omega) rfl (Nat.le_of_ble_eq_true rfl) rfl) (fun x9 h9 => ok_X7_isNo h9) rfl rfl rfl rfl rfl (by decide +kernel) (by omega) (by omega) (fun _ _ => rfl) (fun _ _ => rfl) (fun x11 g11 => ?_)
  refine aw_call (q := 17) (kc1 := 0) (ks1 := 0) (wc := [(m, .inr (9, [.ref Mo, .ref Lo, .ref Do, .ref tl, .ref ca, .int th]))]) (wr := [(Lo, .inl (4, 3, .inr (.inr (.inr (.inr ll))))), (h, .inl (0, 21, .inl f)), (tl, .inl (0, 6, .inl t)), (ca, .inl (0, 441, .inl u))]) (st1 := fun x14 g14 => [.int x14.1]) (ws1 := fun x14 g14 => [(Lo, .inl (4, 3, .inr (.inr (.inr (.inr ll))))), (h, .inl (0, 21, .inl f)), (tl, .inl (0, 6, .inl t)), (ca, .inl (0, 441, .inl u)), (m, .inr (9, [.ref Mo, .ref Lo, .ref Do, .ref tl, .ref ca, .int x14.2]))]) (As := [.ref m, .int x4, .int x11]) [0] [1, 2, 3, 4] (fun _ => runV (q0 := 0) gdX7_rule_11.2.1 mi_X7_isThrown im_X7_isThrown se_X7_isThrown ml_X7_110 (by omega) rfl (Nat.le_of_ble_eq_true rfl) rfl rfl rfl rfl) (fun x9 h9 => ok_X7_isThrown h9) rfl rfl rfl rfl rfl (by decide +kernel) (by omega) (by omega) (fun _ _ => rfl) (fun _ _ => rfl) (fun x14 g14 => ?_)
  refine aw_if_eq (tgt := 22) (q := 20) gdX7_rule_11.2.2.1 (by decide) rfl (fun h_17 => ?_) (fun h_17 => ?_)
  · refine aw_iconst (q := 23) (v := 0) gdX7_rule_11.2.2.2.2.2.1 rfl (by decide) ?_
    refine aw_istore_n (q := 24) (lv' := [(3, .int (0 : Int32)), (0, .ref m), (1, .int p0), (2, .int p1)]) gdX7_rule_11.2.2.2.2.2.2.1 rfl (by decide) rfl ?_
    refine aw_locals (lv' := [(0, .ref m), (1, .int p0), (2, .int p1), (3, .int (0 : Int32))]) [1, 2, 3, 0] rfl ?_
    refine aw_world (ws' := [(m, .inr (9, [.ref Mo, .ref Lo, .ref Do, .ref tl, .ref ca, .int x14.2])), (Lo, .inl (4, 3, .inr (.inr (.inr (.inr ll))))), (h, .inl (0, 21, .inl f)), (tl, .inl (0, 6, .inl t)), (ca, .inl (0, 441, .inl u))]) [4, 0, 1, 2, 3] rfl rfl ?_
    exact tX7_rule_24 hl N _ _ _ _ _
  · refine aw_iconst (q := 21) (v := 0) gdX7_rule_11.2.2.2.1 rfl (by decide) ?_
    exact aw_ireturn (w := [(m, .inr (9, [.ref Mo, .ref Lo, .ref Do, .ref tl, .ref ca, .int x14.2])), (Lo, .inl (4, 3, .inr (.inr (.inr (.inr ll))))), (h, .inl (0, 21, .inl f)), (tl, .inl (0, 6, .inl t)), (ca, .inl (0, 441, .inl u))]) [4, 0, 1, 2, 3] gdX7_rule_11.2.2.2.2.1 rfl rfl rfl rfl (PN.mk (fun _ => 0) rfl rfl)
def fX7_forgetRule_87 (N K : Nat) (th : Int32) (f : Nat → Int32) (t : Nat → Int32) (p0 : Int32) (p1 : Int32) (k_60 : Int32 → Int32 → Int32 → (Nat → Int32) → (Nat → Int32) → Option (Int32 × Int32 × (Nat → Int32) × (Nat → Int32))) (l3 : Int32) (l4 : Int32) (th_ : Int32) (f_ : Nat → Int32) (t_ : Nat → Int32) : Option (Int32 × Int32 × (Nat → Int32) × (Nat → Int32)) :=
  k_60 l3 (l4 + (1 : Int32)) th_ f_ t_
set_option maxHeartbeats 4000000 in
set_option maxRecDepth 100000 in
theorem tX7_forgetRule_87 {N K : Nat} {m Mo Lo Do tl ca h : Nat} {ll : Nat → Option Nat} {th : Int32} {f : Nat → Int32} {t : Nat → Int32} {p0 : Int32} {p1 : Int32} (hl : ¬ (p0 < 0 ∨ 3 ≤ p0.toNatClampNeg) → ll p0.toNatClampNeg = some h) {k_60 : Int32 → Int32 → Int32 → (Nat → Int32) → (Nat → Int32) → Option (Int32 × Int32 × (Nat → Int32) × (Nat → Int32))} (hk_60 : ∀ (l3 : Int32) (l4 : Int32) (th_ : Int32) (f_ : Nat → Int32) (t_ : Nat → Int32), AW RX7 "forgetRule" cX7_forgetRule 5 (some .int) [] (fun _ _ => True) (1) (PN (U := Int32 × Int32 × (Nat → Int32) × (Nat → Int32)) (fun zz _ => some (.int zz.1)) (fun zz ad => [(m, .inr (9, [.ref Mo, .ref Lo, .ref Do, .ref tl, .ref ca, .int zz.2.1])), (Lo, .inl (4, 3, .inr (.inr (.inr (.inr ll))))), (h, .inl (0, 21, .inl zz.2.2.1)), (tl, .inl (0, 6, .inl zz.2.2.2))])) 0 0 (k_60 l3 l4 th_ f_ t_) 60 [(0, .ref m), (1, .int p0), (2, .int p1), (3, .int l3), (4, .int l4)] [] [(m, .inr (9, [.ref Mo, .ref Lo, .ref Do, .ref tl, .ref ca, .int th_])), (Lo, .inl (4, 3, .inr (.inr (.inr (.inr ll))))), (h, .inl (0, 21, .inl f_)), (tl, .inl (0, 6, .inl t_))]) : ∀ (l3 : Int32) (l4 : Int32) (th_ : Int32) (f_ : Nat → Int32) (t_ : Nat → Int32), AW RX7 "forgetRule" cX7_forgetRule 5 (some .int) [] (fun _ _ => True) (1) (PN (U := Int32 × Int32 × (Nat → Int32) × (Nat → Int32)) (fun zz _ => some (.int zz.1)) (fun zz ad => [(m, .inr (9, [.ref Mo, .ref Lo, .ref Do, .ref tl, .ref ca, .int zz.2.1])), (Lo, .inl (4, 3, .inr (.inr (.inr (.inr ll))))), (h, .inl (0, 21, .inl zz.2.2.1)), (tl, .inl (0, 6, .inl zz.2.2.2))])) 0 0 (fX7_forgetRule_87 N K th f t p0 p1 k_60 l3 l4 th_ f_ t_) 87 [(0, .ref m), (1, .int p0), (2, .int p1), (3, .int l3), (4, .int l4)] [] [(m, .inr (9, [.ref Mo, .ref Lo, .ref Do, .ref tl, .ref ca, .int th_])), (Lo, .inl (4, 3, .inr (.inr (.inr (.inr ll))))), (h, .inl (0, 21, .inl f_)), (tl, .inl (0, 6, .inl t_))] := by
  intro l3 l4 th_ f_ t_
  refine aw_iinc (q := 90) (v := (l4 + (1 : Int32))) (lv' := [(4, .int (l4 + (1 : Int32))), (0, .ref m), (1, .int p0), (2, .int p1), (3, .int l3)]) gdX7_forgetRule_83.2.2.2.1 rfl 4 rfl rfl (by decide) rfl ?_
  refine aw_goto (tgt := 60) gdX7_forgetRule_83.2.2.2.2.1 (by decide) ?_
  refine aw_locals (lv' := [(0, .ref m), (1, .int p0), (2, .int p1), (3, .int l3), (4, .int (l4 + (1 : Int32)))]) [1, 2, 3, 4, 0] rfl ?_
  exact hk_60 _ _ _ _ _
def fX7_forgetRule_77 (N K : Nat) (th : Int32) (f : Nat → Int32) (t : Nat → Int32) (p0 : Int32) (p1 : Int32) (k_60 : Int32 → Int32 → Int32 → (Nat → Int32) → (Nat → Int32) → Option (Int32 × Int32 × (Nat → Int32) × (Nat → Int32))) (l3 : Int32) (l4 : Int32) (th_ : Int32) (f_ : Nat → Int32) (t_ : Nat → Int32) : Option (Int32 × Int32 × (Nat → Int32) × (Nat → Int32)) :=
  (if p0 < 0 ∨ 3 ≤ p0.toNatClampNeg then none else (if l4 < 0 ∨ 21 ≤ l4.toNatClampNeg then none else fX7_forgetRule_87 N K th f t p0 p1 k_60 l3 l4 th_ (upd f_ l4.toNatClampNeg (0 : Int32)) t_))
set_option maxHeartbeats 4000000 in
set_option maxRecDepth 100000 in
theorem tX7_forgetRule_77 {N K : Nat} {m Mo Lo Do tl ca h : Nat} {ll : Nat → Option Nat} {th : Int32} {f : Nat → Int32} {t : Nat → Int32} {p0 : Int32} {p1 : Int32} (hl : ¬ (p0 < 0 ∨ 3 ≤ p0.toNatClampNeg) → ll p0.toNatClampNeg = some h) {k_60 : Int32 → Int32 → Int32 → (Nat → Int32) → (Nat → Int32) → Option (Int32 × Int32 × (Nat → Int32) × (Nat → Int32))} (hk_60 : ∀ (l3 : Int32) (l4 : Int32) (th_ : Int32) (f_ : Nat → Int32) (t_ : Nat → Int32), AW RX7 "forgetRule" cX7_forgetRule 5 (some .int) [] (fun _ _ => True) (1) (PN (U := Int32 × Int32 × (Nat → Int32) × (Nat → Int32)) (fun zz _ => some (.int zz.1)) (fun zz ad => [(m, .inr (9, [.ref Mo, .ref Lo, .ref Do, .ref tl, .ref ca, .int zz.2.1])), (Lo, .inl (4, 3, .inr (.inr (.inr (.inr ll))))), (h, .inl (0, 21, .inl zz.2.2.1)), (tl, .inl (0, 6, .inl zz.2.2.2))])) 0 0 (k_60 l3 l4 th_ f_ t_) 60 [(0, .ref m), (1, .int p0), (2, .int p1), (3, .int l3), (4, .int l4)] [] [(m, .inr (9, [.ref Mo, .ref Lo, .ref Do, .ref tl, .ref ca, .int th_])), (Lo, .inl (4, 3, .inr (.inr (.inr (.inr ll))))), (h, .inl (0, 21, .inl f_)), (tl, .inl (0, 6, .inl t_))]) : ∀ (l3 : Int32) (l4 : Int32) (th_ : Int32) (f_ : Nat → Int32) (t_ : Nat → Int32), AW RX7 "forgetRule" cX7_forgetRule 5 (some .int) [] (fun _ _ => True) (1) (PN (U := Int32 × Int32 × (Nat → Int32) × (Nat → Int32)) (fun zz _ => some (.int zz.1)) (fun zz ad => [(m, .inr (9, [.ref Mo, .ref Lo, .ref Do, .ref tl, .ref ca, .int zz.2.1])), (Lo, .inl (4, 3, .inr (.inr (.inr (.inr ll))))), (h, .inl (0, 21, .inl zz.2.2.1)), (tl, .inl (0, 6, .inl zz.2.2.2))])) 0 0 (fX7_forgetRule_77 N K th f t p0 p1 k_60 l3 l4 th_ f_ t_) 77 [(0, .ref m), (1, .int p0), (2, .int p1), (3, .int l3), (4, .int l4)] [] [(m, .inr (9, [.ref Mo, .ref Lo, .ref Do, .ref tl, .ref ca, .int th_])), (Lo, .inl (4, 3, .inr (.inr (.inr (.inr ll))))), (h, .inl (0, 21, .inl f_)), (tl, .inl (0, 6, .inl t_))] := by
  intro l3 l4 th_ f_ t_
  refine aw_aload_n (q := 78) gdX7_forgetRule_68.2.2.2.2.1 rfl 0 rfl ?_
  refine aw_get (q := 81) gdX7_forgetRule_68.2.2.2.2.2.1 rfl fl_X7_14 0 rfl rfl ?_
  refine aw_iload_n (q := 82) gdX7_forgetRule_68.2.2.2.2.2.2.1 rfl 1 rfl ?_
  refine aw_aald (q := 83) gdX7_forgetRule_68.2.2.2.2.2.2.2 rfl 1 rfl (by decide) rfl hl ?_
  refine aw_iload (q := 85) gdX7_forgetRule_83.1 rfl 4 rfl ?_
  refine aw_iconst (q := 86) (v := 0) gdX7_forgetRule_83.2.1 rfl (by decide) ?_
  refine aw_iast (q := 87) (ws' := [(m, .inr (9, [.ref Mo, .ref Lo, .ref Do, .ref tl, .ref ca, .int th_])), (Lo, .inl (4, 3, .inr (.inr (.inr (.inr ll))))), (h, .inl (0, 21, .inl (upd f_ l4.toNatClampNeg (0 : Int32)))), (tl, .inl (0, 6, .inl t_))]) gdX7_forgetRule_83.2.2.1 rfl 2 rfl rfl ?_
  exact tX7_forgetRule_87 hl hk_60 _ _ _ _ _
def fX7_forgetRule_60 (N K : Nat) (th : Int32) (f : Nat → Int32) (t : Nat → Int32) (p0 : Int32) (p1 : Int32) : Nat → Int32 → Int32 → Int32 → (Nat → Int32) → (Nat → Int32) → Option (Int32 × Int32 × (Nat → Int32) × (Nat → Int32))
  | 0, _, _, _, _, _ => none
  | fu + 1, l3, l4, th_, f_, t_ =>
    (if (20 : Int32) < l4 then ((fX7_done N K th_ t_ l3).bind (fun x95 => (some (x95.1, th_, f_, x95.2)))) else (if p1 = 0 then fX7_forgetRule_77 N K th f t p0 p1 (fX7_forgetRule_60 N K th f t p0 p1  fu) l3 l4 th_ f_ t_ else (if p1 = l4 then fX7_forgetRule_77 N K th f t p0 p1 (fX7_forgetRule_60 N K th f t p0 p1  fu) l3 l4 th_ f_ t_ else fX7_forgetRule_87 N K th f t p0 p1 (fX7_forgetRule_60 N K th f t p0 p1  fu) l3 l4 th_ f_ t_)))
set_option maxHeartbeats 4000000 in
set_option maxRecDepth 100000 in
theorem tX7_forgetRule_60 {N K : Nat} {m Mo Lo Do tl ca h : Nat} {ll : Nat → Option Nat} {th : Int32} {f : Nat → Int32} {t : Nat → Int32} {p0 : Int32} {p1 : Int32} (hl : ¬ (p0 < 0 ∨ 3 ≤ p0.toNatClampNeg) → ll p0.toNatClampNeg = some h) : ∀ (fu : Nat) (l3 : Int32) (l4 : Int32) (th_ : Int32) (f_ : Nat → Int32) (t_ : Nat → Int32), AW RX7 "forgetRule" cX7_forgetRule 5 (some .int) [] (fun _ _ => True) (1) (PN (U := Int32 × Int32 × (Nat → Int32) × (Nat → Int32)) (fun zz _ => some (.int zz.1)) (fun zz ad => [(m, .inr (9, [.ref Mo, .ref Lo, .ref Do, .ref tl, .ref ca, .int zz.2.1])), (Lo, .inl (4, 3, .inr (.inr (.inr (.inr ll))))), (h, .inl (0, 21, .inl zz.2.2.1)), (tl, .inl (0, 6, .inl zz.2.2.2))])) 0 0 (fX7_forgetRule_60 N K th f t p0 p1  fu l3 l4 th_ f_ t_) 60 [(0, .ref m), (1, .int p0), (2, .int p1), (3, .int l3), (4, .int l4)] [] [(m, .inr (9, [.ref Mo, .ref Lo, .ref Do, .ref tl, .ref ca, .int th_])), (Lo, .inl (4, 3, .inr (.inr (.inr (.inr ll))))), (h, .inl (0, 21, .inl f_)), (tl, .inl (0, 6, .inl t_))] := by
  intro fu
  induction fu with
  | zero => intro l3 l4 th_ f_ t_; exact aw_none
  | succ fu ih =>
    intro l3 l4 th_ f_ t_
    refine aw_iload (q := 62) gdX7_forgetRule_53.2.2.2.2.1 rfl 4 rfl ?_
    refine aw_bipush (q := 64) (v := 20) gdX7_forgetRule_53.2.2.2.2.2.1 rfl (by decide) ?_
    refine aw_icmp_gt (tgt := 93) (q := 67) gdX7_forgetRule_53.2.2.2.2.2.2.1 (by decide) rfl (fun h_64 => ?_) (fun h_64 => ?_)
    · refine aw_aload_n (q := 94) gdX7_forgetRule_83.2.2.2.2.2.1 rfl 0 rfl ?_
      refine aw_iload_n (q := 95) gdX7_forgetRule_83.2.2.2.2.2.2.1 rfl 3 rfl ?_
      refine aw_call (q := 98) (kc1 := 0) (ks1 := 0) (wc := [(m, .inr (9, [.ref Mo, .ref Lo, .ref Do, .ref tl, .ref ca, .int th_])), (tl, .inl (0, 6, .inl t_))]) (wr := [(Lo, .inl (4, 3, .inr (.inr (.inr (.inr ll))))), (h, .inl (0, 21, .inl f_))]) (st1 := fun x95 g95 => [.int x95.1]) (ws1 := fun x95 g95 => [(Lo, .inl (4, 3, .inr (.inr (.inr (.inr ll))))), (h, .inl (0, 21, .inl f_)), (m, .inr (9, [.ref Mo, .ref Lo, .ref Do, .ref tl, .ref ca, .int th_])), (tl, .inl (0, 6, .inl x95.2))]) (As := [.ref m, .int l3]) [0, 3] [1, 2] (fun _ => runV (q0 := 0) gdX7_forgetRule_83.2.2.2.2.2.2.2 mi_X7_done im_X7_done se_X7_done ml_X7_117 (by omega) rfl (Nat.le_of_ble_eq_true rfl) rfl rfl rfl rfl) (fun x9 h9 => ok_X7_done h9) rfl rfl rfl rfl rfl (by decide +kernel) (by omega) (by omega) (fun _ _ => rfl) (fun _ _ => rfl) (fun x95 g95 => ?_)
      exact aw_ireturn (w := [(m, .inr (9, [.ref Mo, .ref Lo, .ref Do, .ref tl, .ref ca, .int th_])), (Lo, .inl (4, 3, .inr (.inr (.inr (.inr ll))))), (h, .inl (0, 21, .inl f_)), (tl, .inl (0, 6, .inl x95.2))]) [2, 0, 1, 3] dX7_forgetRule_98 rfl rfl rfl rfl (PN.mk (fun _ => 0) rfl rfl)
    · refine aw_iload_n (q := 68) gdX7_forgetRule_53.2.2.2.2.2.2.2 rfl 2 rfl ?_
      refine aw_if_eq (tgt := 77) (q := 71) gdX7_forgetRule_68.1 (by decide) rfl (fun h_68 => ?_) (fun h_68 => ?_)
      · exact tX7_forgetRule_77 hl ih _ _ _ _ _
      · refine aw_iload_n (q := 72) gdX7_forgetRule_68.2.1 rfl 2 rfl ?_
        refine aw_iload (q := 74) gdX7_forgetRule_68.2.2.1 rfl 4 rfl ?_
        refine aw_icmp_ne (tgt := 87) (q := 77) gdX7_forgetRule_68.2.2.2.1 (by decide) rfl (fun h_74 => ?_) (fun h_74 => ?_)
        · exact tX7_forgetRule_87 hl ih _ _ _ _ _
        · exact tX7_forgetRule_77 hl ih _ _ _ _ _
def fX7_forgetRule_57 (N K : Nat) (th : Int32) (f : Nat → Int32) (t : Nat → Int32) (p0 : Int32) (p1 : Int32) (l3 : Int32) (th_ : Int32) (f_ : Nat → Int32) (t_ : Nat → Int32) : Option (Int32 × Int32 × (Nat → Int32) × (Nat → Int32)) :=
  fX7_forgetRule_60 N K th f t p0 p1  N l3 (1 : Int32) th_ f_ t_
set_option maxHeartbeats 4000000 in
set_option maxRecDepth 100000 in
theorem tX7_forgetRule_57 {N K : Nat} {m Mo Lo Do tl ca h : Nat} {ll : Nat → Option Nat} {th : Int32} {f : Nat → Int32} {t : Nat → Int32} {p0 : Int32} {p1 : Int32} (hl : ¬ (p0 < 0 ∨ 3 ≤ p0.toNatClampNeg) → ll p0.toNatClampNeg = some h) : ∀ (l3 : Int32) (th_ : Int32) (f_ : Nat → Int32) (t_ : Nat → Int32), AW RX7 "forgetRule" cX7_forgetRule 5 (some .int) [] (fun _ _ => True) (1) (PN (U := Int32 × Int32 × (Nat → Int32) × (Nat → Int32)) (fun zz _ => some (.int zz.1)) (fun zz ad => [(m, .inr (9, [.ref Mo, .ref Lo, .ref Do, .ref tl, .ref ca, .int zz.2.1])), (Lo, .inl (4, 3, .inr (.inr (.inr (.inr ll))))), (h, .inl (0, 21, .inl zz.2.2.1)), (tl, .inl (0, 6, .inl zz.2.2.2))])) 0 0 (fX7_forgetRule_57 N K th f t p0 p1  l3 th_ f_ t_) 57 [(0, .ref m), (1, .int p0), (2, .int p1), (3, .int l3)] [] [(m, .inr (9, [.ref Mo, .ref Lo, .ref Do, .ref tl, .ref ca, .int th_])), (Lo, .inl (4, 3, .inr (.inr (.inr (.inr ll))))), (h, .inl (0, 21, .inl f_)), (tl, .inl (0, 6, .inl t_))] := by
  intro l3 th_ f_ t_
  refine aw_iconst (q := 58) (v := 1) gdX7_forgetRule_53.2.2.1 rfl (by decide) ?_
  refine aw_istore (q := 60) (lv' := [(4, .int (1 : Int32)), (0, .ref m), (1, .int p0), (2, .int p1), (3, .int l3)]) gdX7_forgetRule_53.2.2.2.1 rfl (by decide) rfl ?_
  refine aw_locals (lv' := [(0, .ref m), (1, .int p0), (2, .int p1), (3, .int l3), (4, .int (1 : Int32))]) [1, 2, 3, 4, 0] rfl ?_
  exact tX7_forgetRule_60 hl N _ _ _ _ _
def fX7_forgetRule_43 (N K : Nat) (th : Int32) (f : Nat → Int32) (t : Nat → Int32) (p0 : Int32) (p1 : Int32) (s0 : Int32) (th_ : Int32) (f_ : Nat → Int32) (t_ : Nat → Int32) : Option (Int32 × Int32 × (Nat → Int32) × (Nat → Int32)) :=
  (if p1 ≤ 0 then fX7_forgetRule_57 N K th f t p0 p1  s0 th_ f_ t_ else (if s0 = 0 then ((fX7_refused N K th_ t_).bind (fun x53 => (some (x53.1, th_, f_, x53.2)))) else fX7_forgetRule_57 N K th f t p0 p1  s0 th_ f_ t_))
set_option maxHeartbeats 4000000 in
set_option maxRecDepth 100000 in
theorem tX7_forgetRule_43 {N K : Nat} {m Mo Lo Do tl ca h : Nat} {ll : Nat → Option Nat} {th : Int32} {f : Nat → Int32} {t : Nat → Int32} {p0 : Int32} {p1 : Int32} (hl : ¬ (p0 < 0 ∨ 3 ≤ p0.toNatClampNeg) → ll p0.toNatClampNeg = some h) : ∀ (s0 : Int32) (th_ : Int32) (f_ : Nat → Int32) (t_ : Nat → Int32), AW RX7 "forgetRule" cX7_forgetRule 5 (some .int) [] (fun _ _ => True) (1) (PN (U := Int32 × Int32 × (Nat → Int32) × (Nat → Int32)) (fun zz _ => some (.int zz.1)) (fun zz ad => [(m, .inr (9, [.ref Mo, .ref Lo, .ref Do, .ref tl, .ref ca, .int zz.2.1])), (Lo, .inl (4, 3, .inr (.inr (.inr (.inr ll))))), (h, .inl (0, 21, .inl zz.2.2.1)), (tl, .inl (0, 6, .inl zz.2.2.2))])) 0 0 (fX7_forgetRule_43 N K th f t p0 p1  s0 th_ f_ t_) 43 [(0, .ref m), (1, .int p0), (2, .int p1)] [.int s0] [(m, .inr (9, [.ref Mo, .ref Lo, .ref Do, .ref tl, .ref ca, .int th_])), (Lo, .inl (4, 3, .inr (.inr (.inr (.inr ll))))), (h, .inl (0, 21, .inl f_)), (tl, .inl (0, 6, .inl t_))] := by
  intro s0 th_ f_ t_
  refine aw_istore_n (q := 44) (lv' := [(3, .int s0), (0, .ref m), (1, .int p0), (2, .int p1)]) gdX7_forgetRule_41.2.2.1 rfl (by decide) rfl ?_
  refine aw_iload_n (q := 45) gdX7_forgetRule_41.2.2.2.1 rfl 3 rfl ?_
  refine aw_if_le (tgt := 57) (q := 48) gdX7_forgetRule_41.2.2.2.2.1 (by decide) rfl (fun h_45 => ?_) (fun h_45 => ?_)
  · refine aw_locals (lv' := [(0, .ref m), (1, .int p0), (2, .int p1), (3, .int s0)]) [1, 2, 3, 0] rfl ?_
    exact tX7_forgetRule_57 hl _ _ _ _
  · refine aw_iload_n (q := 49) gdX7_forgetRule_41.2.2.2.2.2.1 rfl 0 rfl ?_
    refine aw_if_ne (tgt := 57) (q := 52) gdX7_forgetRule_41.2.2.2.2.2.2.1 (by decide) rfl (fun h_49 => ?_) (fun h_49 => ?_)
    · refine aw_locals (lv' := [(0, .ref m), (1, .int p0), (2, .int p1), (3, .int s0)]) [1, 2, 3, 0] rfl ?_
      exact tX7_forgetRule_57 hl _ _ _ _
    · refine aw_aload_n (q := 53) gdX7_forgetRule_41.2.2.2.2.2.2.2 rfl 1 rfl ?_
      refine aw_call (q := 56) (kc1 := 0) (ks1 := 0) (wc := [(m, .inr (9, [.ref Mo, .ref Lo, .ref Do, .ref tl, .ref ca, .int th_])), (tl, .inl (0, 6, .inl t_))]) (wr := [(Lo, .inl (4, 3, .inr (.inr (.inr (.inr ll))))), (h, .inl (0, 21, .inl f_))]) (st1 := fun x53 g53 => [.int x53.1]) (ws1 := fun x53 g53 => [(Lo, .inl (4, 3, .inr (.inr (.inr (.inr ll))))), (h, .inl (0, 21, .inl f_)), (m, .inr (9, [.ref Mo, .ref Lo, .ref Do, .ref tl, .ref ca, .int th_])), (tl, .inl (0, 6, .inl x53.2))]) (As := [.ref m]) [0, 3] [1, 2] (fun _ => runV (q0 := 0) gdX7_forgetRule_53.1 mi_X7_refused im_X7_refused se_X7_refused ml_X7_124 (by omega) rfl (Nat.le_of_ble_eq_true rfl) rfl rfl rfl rfl) (fun x9 h9 => ok_X7_refused h9) rfl rfl rfl rfl rfl (by decide +kernel) (by omega) (by omega) (fun _ _ => rfl) (fun _ _ => rfl) (fun x53 g53 => ?_)
      exact aw_ireturn (w := [(m, .inr (9, [.ref Mo, .ref Lo, .ref Do, .ref tl, .ref ca, .int th_])), (Lo, .inl (4, 3, .inr (.inr (.inr (.inr ll))))), (h, .inl (0, 21, .inl f_)), (tl, .inl (0, 6, .inl x53.2))]) [2, 0, 1, 3] gdX7_forgetRule_53.2.1 rfl rfl rfl rfl (PN.mk (fun _ => 0) rfl rfl)
def fX7_forgetRule (N K : Nat) (th : Int32) (f : Nat → Int32) (t : Nat → Int32) (p0 : Int32) (p1 : Int32) : Option (Int32 × Int32 × (Nat → Int32) × (Nat → Int32)) :=
  ((fX7_isNo N K p0 (0 : Int32) (2 : Int32)).bind (fun x4 => ((fX7_isNo N K p1 (0 : Int32) (20 : Int32)).bind (fun x11 => ((fX7_isThrown N K th x4 x11).bind (fun x14 => (if x14.1 = 0 then (if p1 = 0 then ((fX7_ledgerTold N K x14.2 f p0 (0 : Int32)).bind (fun x29 => fX7_forgetRule_43 N K th f t p0 p1  x29 x14.2 f t)) else (if p0 < 0 ∨ 3 ≤ p0.toNatClampNeg then none else (if p1 < 0 ∨ 21 ≤ p1.toNatClampNeg then none else fX7_forgetRule_43 N K th f t p0 p1  (f p1.toNatClampNeg) x14.2 f t))) else (some ((0 : Int32), x14.2, f, t)))))))))
set_option maxHeartbeats 4000000 in
set_option maxRecDepth 100000 in
theorem ok_X7_forgetRule {N K : Nat} {m Mo Lo Do tl ca h : Nat} {ll : Nat → Option Nat} {th : Int32} {f : Nat → Int32} {t : Nat → Int32} {p0 : Int32} {p1 : Int32} (hl : ¬ (p0 < 0 ∨ 3 ≤ p0.toNatClampNeg) → ll p0.toNatClampNeg = some h) {xr : Int32 × Int32 × (Nat → Int32) × (Nat → Int32)} (hE : fX7_forgetRule N K th f t p0 p1 = some xr) : OkM yX7_forgetRule (.code yX7_forgetRule cX7_forgetRule 5 (some .int)) (1) 0 0 [.ref m, .int p0, .int p1] [(m, .inr (9, [.ref Mo, .ref Lo, .ref Do, .ref tl, .ref ca, .int th])), (Lo, .inl (4, 3, .inr (.inr (.inr (.inr ll))))), (h, .inl (0, 21, .inl f)), (tl, .inl (0, 6, .inl t))] ((PN (U := Int32 × Int32 × (Nat → Int32) × (Nat → Int32)) (fun zz _ => some (.int zz.1)) (fun zz ad => [(m, .inr (9, [.ref Mo, .ref Lo, .ref Do, .ref tl, .ref ca, .int zz.2.1])), (Lo, .inl (4, 3, .inr (.inr (.inr (.inr ll))))), (h, .inl (0, 21, .inl zz.2.2.1)), (tl, .inl (0, 6, .inl zz.2.2.2))])) xr) := by
  refine ok_of (by decide) (Nat.le_of_ble_eq_true rfl) hE ?_
  refine aw_locals (lv' := [(0, .ref m), (1, .int p0), (2, .int p1)]) [0, 1, 2] rfl ?_
  refine aw_aload_n (q := 1) gdX7_forgetRule_0.1 rfl 0 rfl ?_
  refine aw_iload_n (q := 2) gdX7_forgetRule_0.2.1 rfl 1 rfl ?_
  refine aw_iconst (q := 3) (v := 0) gdX7_forgetRule_0.2.2.1 rfl (by decide) ?_
  refine aw_iconst (q := 4) (v := 2) gdX7_forgetRule_0.2.2.2.1 rfl (by decide) ?_
  refine aw_call (q := 7) (kc1 := 0) (ks1 := 0) (wc := []) (wr := [(m, .inr (9, [.ref Mo, .ref Lo, .ref Do, .ref tl, .ref ca, .int th])), (Lo, .inl (4, 3, .inr (.inr (.inr (.inr ll))))), (h, .inl (0, 21, .inl f)), (tl, .inl (0, 6, .inl t))]) (st1 := fun x4 g4 => [.int x4, .ref m]) (ws1 := fun x4 g4 => [(m, .inr (9, [.ref Mo, .ref Lo, .ref Do, .ref tl, .ref ca, .int th])), (Lo, .inl (4, 3, .inr (.inr (.inr (.inr ll))))), (h, .inl (0, 21, .inl f)), (tl, .inl (0, 6, .inl t))]) (As := [.int p0, .int (0 : Int32), .int (2 : Int32)]) [] [0, 1, 2, 3] (fun _ => runS gdX7_forgetRule_0.2.2.2.2.1 mi_X7_isNo st_X7_isNo ml_X7_31 (by omega) rfl (Nat.le_of_ble_eq_true rfl) rfl) (fun x9 h9 => ok_X7_isNo h9) rfl rfl rfl rfl rfl (by decide +kernel) (by omega) (by omega) (fun _ _ => rfl) (fun _ _ => rfl) (fun x4 g4 => ?_)
  refine aw_iload_n (q := 8) gdX7_forgetRule_0.2.2.2.2.2.1 rfl 2 rfl ?_
  refine aw_iconst (q := 9) (v := 0) gdX7_forgetRule_0.2.2.2.2.2.2.1 rfl (by decide) ?_
  refine aw_bipush (q := 11) (v := 20) gdX7_forgetRule_0.2.2.2.2.2.2.2 rfl (by decide) ?_
  refine aw_call (q := 14) (kc1 := 0) (ks1 := 0) (wc := []) (wr := [(m, .inr (9, [.ref Mo, .ref Lo, .ref Do, .ref tl, .ref ca, .int th])), (Lo, .inl (4, 3, .inr (.inr (.inr (.inr ll))))), (h, .inl (0, 21, .inl f)), (tl, .inl (0, 6, .inl t))]) (st1 := fun x11 g11 => [.int x11, .int x4, .ref m]) (ws1 := fun x11 g11 => [(m, .inr (9, [.ref Mo, .ref Lo, .ref Do, .ref tl, .ref ca, .int th])), (Lo, .inl (4, 3, .inr (.inr (.inr (.inr ll))))), (h, .inl (0, 21, .inl f)), (tl, .inl (0, 6, .inl t))]) (As := [.int p1, .int (0 : Int32), .int (20 : Int32)]) [] [0, 1, 2, 3] (fun _ => runS gdX7_forgetRule_11.1 mi_X7_isNo st_X7_isNo ml_X7_31 (by omega) rfl (Nat.le_of_ble_eq_true rfl) rfl) (fun x9 h9 => ok_X7_isNo h9) rfl rfl rfl rfl rfl (by decide +kernel) (by omega) (by omega) (fun _ _ => rfl) (fun _ _ => rfl) (fun x11 g11 => ?_)
  refine aw_call (q := 17) (kc1 := 0) (ks1 := 0) (wc := [(m, .inr (9, [.ref Mo, .ref Lo, .ref Do, .ref tl, .ref ca, .int th]))]) (wr := [(Lo, .inl (4, 3, .inr (.inr (.inr (.inr ll))))), (h, .inl (0, 21, .inl f)), (tl, .inl (0, 6, .inl t))]) (st1 := fun x14 g14 => [.int x14.1]) (ws1 := fun x14 g14 => [(Lo, .inl (4, 3, .inr (.inr (.inr (.inr ll))))), (h, .inl (0, 21, .inl f)), (tl, .inl (0, 6, .inl t)), (m, .inr (9, [.ref Mo, .ref Lo, .ref Do, .ref tl, .ref ca, .int x14.2]))]) (As := [.ref m, .int x4, .int x11]) [0] [1, 2, 3] (fun _ => runV (q0 := 0) gdX7_forgetRule_11.2.1 mi_X7_isThrown im_X7_isThrown se_X7_isThrown ml_X7_110 (by omega) rfl (Nat.le_of_ble_eq_true rfl) rfl rfl rfl rfl) (fun x9 h9 => ok_X7_isThrown h9) rfl rfl rfl rfl rfl (by decide +kernel) (by omega) (by omega) (fun _ _ => rfl) (fun _ _ => rfl) (fun x14 g14 => ?_)
  refine aw_if_eq (tgt := 22) (q := 20) gdX7_forgetRule_11.2.2.1 (by decide) rfl (fun h_17 => ?_) (fun h_17 => ?_)
  · refine aw_iload_n (q := 23) gdX7_forgetRule_11.2.2.2.2.2.1 rfl 2 rfl ?_
    refine aw_if_ne (tgt := 35) (q := 26) gdX7_forgetRule_11.2.2.2.2.2.2.1 (by decide) rfl (fun h_23 => ?_) (fun h_23 => ?_)
    · refine aw_aload_n (q := 36) gdX7_forgetRule_27.2.2.2.2.1 rfl 0 rfl ?_
      refine aw_get (q := 39) gdX7_forgetRule_27.2.2.2.2.2.1 rfl fl_X7_14 3 rfl rfl ?_
      refine aw_iload_n (q := 40) gdX7_forgetRule_27.2.2.2.2.2.2.1 rfl 1 rfl ?_
      refine aw_aald (q := 41) gdX7_forgetRule_27.2.2.2.2.2.2.2 rfl 0 rfl (by decide) rfl hl ?_
      refine aw_iload_n (q := 42) gdX7_forgetRule_41.1 rfl 2 rfl ?_
      refine aw_iald (q := 43) gdX7_forgetRule_41.2.1 rfl 1 rfl ?_
      refine aw_world (ws' := [(m, .inr (9, [.ref Mo, .ref Lo, .ref Do, .ref tl, .ref ca, .int x14.2])), (Lo, .inl (4, 3, .inr (.inr (.inr (.inr ll))))), (h, .inl (0, 21, .inl f)), (tl, .inl (0, 6, .inl t))]) [3, 0, 1, 2] rfl rfl ?_
      exact tX7_forgetRule_43 hl _ _ _ _
    · refine aw_aload_n (q := 27) gdX7_forgetRule_11.2.2.2.2.2.2.2 rfl 0 rfl ?_
      refine aw_iload_n (q := 28) gdX7_forgetRule_27.1 rfl 1 rfl ?_
      refine aw_iconst (q := 29) (v := 0) gdX7_forgetRule_27.2.1 rfl (by decide) ?_
      refine aw_call (q := 32) (kc1 := 0) (ks1 := 0) (wc := [(m, .inr (9, [.ref Mo, .ref Lo, .ref Do, .ref tl, .ref ca, .int x14.2])), (Lo, .inl (4, 3, .inr (.inr (.inr (.inr ll))))), (h, .inl (0, 21, .inl f))]) (wr := [(tl, .inl (0, 6, .inl t))]) (st1 := fun x29 g29 => [.int x29]) (ws1 := fun x29 g29 => [(tl, .inl (0, 6, .inl t)), (m, .inr (9, [.ref Mo, .ref Lo, .ref Do, .ref tl, .ref ca, .int x14.2])), (Lo, .inl (4, 3, .inr (.inr (.inr (.inr ll))))), (h, .inl (0, 21, .inl f))]) (As := [.ref m, .int p0, .int (0 : Int32)]) [3, 0, 1] [2] (fun _ => runV (q0 := 3) gdX7_forgetRule_27.2.2.1 mi_X7_ledgerTold im_X7_ledgerTold se_X7_ledgerTold ml_X7_162 (by omega) rfl (Nat.le_of_ble_eq_true rfl) rfl rfl rfl rfl) (fun x9 h9 => ok_X7_ledgerTold hl h9) rfl rfl rfl rfl rfl (by decide +kernel) (by omega) (by omega) (fun _ _ => rfl) (fun _ _ => rfl) (fun x29 g29 => ?_)
      refine aw_goto (tgt := 43) gdX7_forgetRule_27.2.2.2.1 (by decide) ?_
      refine aw_world (ws' := [(m, .inr (9, [.ref Mo, .ref Lo, .ref Do, .ref tl, .ref ca, .int x14.2])), (Lo, .inl (4, 3, .inr (.inr (.inr (.inr ll))))), (h, .inl (0, 21, .inl f)), (tl, .inl (0, 6, .inl t))]) [1, 2, 3, 0] rfl rfl ?_
      exact tX7_forgetRule_43 hl _ _ _ _
  · refine aw_iconst (q := 21) (v := 0) gdX7_forgetRule_11.2.2.2.1 rfl (by decide) ?_
    exact aw_ireturn (w := [(m, .inr (9, [.ref Mo, .ref Lo, .ref Do, .ref tl, .ref ca, .int x14.2])), (Lo, .inl (4, 3, .inr (.inr (.inr (.inr ll))))), (h, .inl (0, 21, .inl f)), (tl, .inl (0, 6, .inl t))]) [3, 0, 1, 2] gdX7_forgetRule_11.2.2.2.2.1 rfl rfl rfl rfl (PN.mk (fun _ => 0) rfl rfl)
def fX7_ledger (N K : Nat) (th : Int32) (f : Nat → Int32) (p0 : Int32) (p1 : Int32) : Option (Int32 × Int32) :=
  ((fX7_isNo N K p0 (0 : Int32) (2 : Int32)).bind (fun x4 => ((fX7_isNo N K p1 (0 : Int32) (1 : Int32)).bind (fun x10 => ((fX7_isThrown N K th x4 x10).bind (fun x13 => (if x13.1 = 0 then ((fX7_ledgerTold N K x13.2 f p0 p1).bind (fun x26 => (some (x26, x13.2)))) else (some ((0 : Int32), x13.2)))))))))
set_option maxHeartbeats 4000000 in
set_option maxRecDepth 100000 in
theorem ok_X7_ledger {N K : Nat} {m Mo Lo Do tl ca h : Nat} {ll : Nat → Option Nat} {th : Int32} {f : Nat → Int32} {p0 : Int32} {p1 : Int32} (hl : ¬ (p0 < 0 ∨ 3 ≤ p0.toNatClampNeg) → ll p0.toNatClampNeg = some h) {xr : Int32 × Int32} (hE : fX7_ledger N K th f p0 p1 = some xr) : OkM yX7_ledger (.code yX7_ledger cX7_ledger 3 (some .int)) (1) 0 0 [.ref m, .int p0, .int p1] [(m, .inr (9, [.ref Mo, .ref Lo, .ref Do, .ref tl, .ref ca, .int th])), (Lo, .inl (4, 3, .inr (.inr (.inr (.inr ll))))), (h, .inl (0, 21, .inl f))] ((PN (U := Int32 × Int32) (fun zz _ => some (.int zz.1)) (fun zz ad => [(m, .inr (9, [.ref Mo, .ref Lo, .ref Do, .ref tl, .ref ca, .int zz.2])), (Lo, .inl (4, 3, .inr (.inr (.inr (.inr ll))))), (h, .inl (0, 21, .inl f))])) xr) := by
  refine ok_of (by decide) (Nat.le_of_ble_eq_true rfl) hE ?_
  refine aw_locals (lv' := [(0, .ref m), (1, .int p0), (2, .int p1)]) [0, 1, 2] rfl ?_
  refine aw_aload_n (q := 1) gdX7_ledger_0.1 rfl 0 rfl ?_
  refine aw_iload_n (q := 2) gdX7_ledger_0.2.1 rfl 1 rfl ?_
  refine aw_iconst (q := 3) (v := 0) gdX7_ledger_0.2.2.1 rfl (by decide) ?_
  refine aw_iconst (q := 4) (v := 2) gdX7_ledger_0.2.2.2.1 rfl (by decide) ?_
  refine aw_call (q := 7) (kc1 := 0) (ks1 := 0) (wc := []) (wr := [(m, .inr (9, [.ref Mo, .ref Lo, .ref Do, .ref tl, .ref ca, .int th])), (Lo, .inl (4, 3, .inr (.inr (.inr (.inr ll))))), (h, .inl (0, 21, .inl f))]) (st1 := fun x4 g4 => [.int x4, .ref m]) (ws1 := fun x4 g4 => [(m, .inr (9, [.ref Mo, .ref Lo, .ref Do, .ref tl, .ref ca, .int th])), (Lo, .inl (4, 3, .inr (.inr (.inr (.inr ll))))), (h, .inl (0, 21, .inl f))]) (As := [.int p0, .int (0 : Int32), .int (2 : Int32)]) [] [0, 1, 2] (fun _ => runS gdX7_ledger_0.2.2.2.2.1 mi_X7_isNo st_X7_isNo ml_X7_31 (by omega) rfl (Nat.le_of_ble_eq_true rfl) rfl) (fun x9 h9 => ok_X7_isNo h9) rfl rfl rfl rfl rfl (by decide +kernel) (by omega) (by omega) (fun _ _ => rfl) (fun _ _ => rfl) (fun x4 g4 => ?_)
  refine aw_iload_n (q := 8) gdX7_ledger_0.2.2.2.2.2.1 rfl 2 rfl ?_
  refine aw_iconst (q := 9) (v := 0) gdX7_ledger_0.2.2.2.2.2.2.1 rfl (by decide) ?_
  refine aw_iconst (q := 10) (v := 1) gdX7_ledger_0.2.2.2.2.2.2.2 rfl (by decide) ?_
  refine aw_call (q := 13) (kc1 := 0) (ks1 := 0) (wc := []) (wr := [(m, .inr (9, [.ref Mo, .ref Lo, .ref Do, .ref tl, .ref ca, .int th])), (Lo, .inl (4, 3, .inr (.inr (.inr (.inr ll))))), (h, .inl (0, 21, .inl f))]) (st1 := fun x10 g10 => [.int x10, .int x4, .ref m]) (ws1 := fun x10 g10 => [(m, .inr (9, [.ref Mo, .ref Lo, .ref Do, .ref tl, .ref ca, .int th])), (Lo, .inl (4, 3, .inr (.inr (.inr (.inr ll))))), (h, .inl (0, 21, .inl f))]) (As := [.int p1, .int (0 : Int32), .int (1 : Int32)]) [] [0, 1, 2] (fun _ => runS gdX7_ledger_10.1 mi_X7_isNo st_X7_isNo ml_X7_31 (by omega) rfl (Nat.le_of_ble_eq_true rfl) rfl) (fun x9 h9 => ok_X7_isNo h9) rfl rfl rfl rfl rfl (by decide +kernel) (by omega) (by omega) (fun _ _ => rfl) (fun _ _ => rfl) (fun x10 g10 => ?_)
  refine aw_call (q := 16) (kc1 := 0) (ks1 := 0) (wc := [(m, .inr (9, [.ref Mo, .ref Lo, .ref Do, .ref tl, .ref ca, .int th]))]) (wr := [(Lo, .inl (4, 3, .inr (.inr (.inr (.inr ll))))), (h, .inl (0, 21, .inl f))]) (st1 := fun x13 g13 => [.int x13.1]) (ws1 := fun x13 g13 => [(Lo, .inl (4, 3, .inr (.inr (.inr (.inr ll))))), (h, .inl (0, 21, .inl f)), (m, .inr (9, [.ref Mo, .ref Lo, .ref Do, .ref tl, .ref ca, .int x13.2]))]) (As := [.ref m, .int x4, .int x10]) [0] [1, 2] (fun _ => runV (q0 := 0) gdX7_ledger_10.2.1 mi_X7_isThrown im_X7_isThrown se_X7_isThrown ml_X7_110 (by omega) rfl (Nat.le_of_ble_eq_true rfl) rfl rfl rfl rfl) (fun x9 h9 => ok_X7_isThrown h9) rfl rfl rfl rfl rfl (by decide +kernel) (by omega) (by omega) (fun _ _ => rfl) (fun _ _ => rfl) (fun x13 g13 => ?_)
  refine aw_if_eq (tgt := 23) (q := 19) gdX7_ledger_10.2.2.1 (by decide) rfl (fun h_16 => ?_) (fun h_16 => ?_)
  · refine aw_aload_n (q := 24) gdX7_ledger_10.2.2.2.2.2.1 rfl 0 rfl ?_
    refine aw_iload_n (q := 25) gdX7_ledger_10.2.2.2.2.2.2.1 rfl 1 rfl ?_
    refine aw_iload_n (q := 26) gdX7_ledger_10.2.2.2.2.2.2.2 rfl 2 rfl ?_
    refine aw_call (q := 29) (kc1 := 0) (ks1 := 0) (wc := [(m, .inr (9, [.ref Mo, .ref Lo, .ref Do, .ref tl, .ref ca, .int x13.2])), (Lo, .inl (4, 3, .inr (.inr (.inr (.inr ll))))), (h, .inl (0, 21, .inl f))]) (wr := []) (st1 := fun x26 g26 => [.int x26]) (ws1 := fun x26 g26 => [(m, .inr (9, [.ref Mo, .ref Lo, .ref Do, .ref tl, .ref ca, .int x13.2])), (Lo, .inl (4, 3, .inr (.inr (.inr (.inr ll))))), (h, .inl (0, 21, .inl f))]) (As := [.ref m, .int p0, .int p1]) [2, 0, 1] [] (fun _ => runV (q0 := 2) gdX7_ledger_26.1 mi_X7_ledgerTold im_X7_ledgerTold se_X7_ledgerTold ml_X7_162 (by omega) rfl (Nat.le_of_ble_eq_true rfl) rfl rfl rfl rfl) (fun x9 h9 => ok_X7_ledgerTold hl h9) rfl rfl rfl rfl rfl (by decide +kernel) (by omega) (by omega) (fun _ _ => rfl) (fun _ _ => rfl) (fun x26 g26 => ?_)
    exact aw_ireturn (w := [(m, .inr (9, [.ref Mo, .ref Lo, .ref Do, .ref tl, .ref ca, .int x13.2])), (Lo, .inl (4, 3, .inr (.inr (.inr (.inr ll))))), (h, .inl (0, 21, .inl f))]) [0, 1, 2] gdX7_ledger_26.2 rfl rfl rfl rfl (PN.mk (fun _ => 0) rfl rfl)
  · refine aw_iconst (q := 20) (v := 0) gdX7_ledger_10.2.2.2.1 rfl (by decide) ?_
    refine aw_goto (tgt := 29) gdX7_ledger_10.2.2.2.2.1 (by decide) ?_
    exact aw_ireturn (w := [(m, .inr (9, [.ref Mo, .ref Lo, .ref Do, .ref tl, .ref ca, .int x13.2])), (Lo, .inl (4, 3, .inr (.inr (.inr (.inr ll))))), (h, .inl (0, 21, .inl f))]) [2, 0, 1] gdX7_ledger_26.2 rfl rfl rfl rfl (PN.mk (fun _ => 0) rfl rfl)
def fX7_ruleWorth_31 (N K : Nat) (th : Int32) (f : Nat → Int32) (p0 : Int32) (p1 : Int32) (p2 : Int32) (s0 : Int32) (s1 : Int32) (th_ : Int32) : Option (Int32 × Int32) :=
  ((fX7_isThrown N K th_ s1 s0).bind (fun x31 => (if x31.1 = 0 then (if p1 = 0 then (some ((-1 : Int32), x31.2)) else (if p0 < 0 ∨ 3 ≤ p0.toNatClampNeg then none else (if p1 < 0 ∨ 21 ≤ p1.toNatClampNeg then none else (if (f p1.toNatClampNeg) = 0 then (some ((-1 : Int32), x31.2)) else (if p0 < 0 ∨ 3 ≤ p0.toNatClampNeg then none else (if p1 < 0 ∨ 21 ≤ p1.toNatClampNeg then none else (some ((f p1.toNatClampNeg), x31.2)))))))) else (some ((0 : Int32), x31.2)))))
set_option maxHeartbeats 4000000 in
set_option maxRecDepth 100000 in
theorem tX7_ruleWorth_31 {N K : Nat} {m Mo Lo Do tl ca h : Nat} {ll : Nat → Option Nat} {th : Int32} {f : Nat → Int32} {p0 : Int32} {p1 : Int32} {p2 : Int32} (hl : ¬ (p0 < 0 ∨ 3 ≤ p0.toNatClampNeg) → ll p0.toNatClampNeg = some h) : ∀ (s0 : Int32) (s1 : Int32) (th_ : Int32), AW RX7 "ruleWorth" cX7_ruleWorth 4 (some .int) [] (fun _ _ => True) (1) (PN (U := Int32 × Int32) (fun zz _ => some (.int zz.1)) (fun zz ad => [(m, .inr (9, [.ref Mo, .ref Lo, .ref Do, .ref tl, .ref ca, .int zz.2])), (Lo, .inl (4, 3, .inr (.inr (.inr (.inr ll))))), (h, .inl (0, 21, .inl f))])) 0 0 (fX7_ruleWorth_31 N K th f p0 p1 p2  s0 s1 th_) 31 [(0, .ref m), (1, .int p0), (2, .int p1)] [.int s0, .int s1, .ref m] [(m, .inr (9, [.ref Mo, .ref Lo, .ref Do, .ref tl, .ref ca, .int th_])), (Lo, .inl (4, 3, .inr (.inr (.inr (.inr ll))))), (h, .inl (0, 21, .inl f))] := by
  intro s0 s1 th_
  refine aw_call (q := 34) (kc1 := 0) (ks1 := 0) (wc := [(m, .inr (9, [.ref Mo, .ref Lo, .ref Do, .ref tl, .ref ca, .int th_]))]) (wr := [(Lo, .inl (4, 3, .inr (.inr (.inr (.inr ll))))), (h, .inl (0, 21, .inl f))]) (st1 := fun x31 g31 => [.int x31.1]) (ws1 := fun x31 g31 => [(Lo, .inl (4, 3, .inr (.inr (.inr (.inr ll))))), (h, .inl (0, 21, .inl f)), (m, .inr (9, [.ref Mo, .ref Lo, .ref Do, .ref tl, .ref ca, .int x31.2]))]) (As := [.ref m, .int s1, .int s0]) [0] [1, 2] (fun _ => runV (q0 := 0) gdX7_ruleWorth_27.2.2.1 mi_X7_isThrown im_X7_isThrown se_X7_isThrown ml_X7_110 (by omega) rfl (Nat.le_of_ble_eq_true rfl) rfl rfl rfl rfl) (fun x9 h9 => ok_X7_isThrown h9) rfl rfl rfl rfl rfl (by decide +kernel) (by omega) (by omega) (fun _ _ => rfl) (fun _ _ => rfl) (fun x31 g31 => ?_)
  refine aw_if_eq (tgt := 39) (q := 37) gdX7_ruleWorth_27.2.2.2.1 (by decide) rfl (fun h_34 => ?_) (fun h_34 => ?_)
  · refine aw_iload_n (q := 40) gdX7_ruleWorth_27.2.2.2.2.2.2.1 rfl 2 rfl ?_
    refine aw_if_eq (tgt := 54) (q := 43) gdX7_ruleWorth_27.2.2.2.2.2.2.2 (by decide) rfl (fun h_40 => ?_) (fun h_40 => ?_)
    · refine aw_iconst (q := 55) (v := (-1)) gdX7_ruleWorth_43.2.2.2.2.2.2.2 rfl (by decide) ?_
      refine aw_goto (tgt := 66) gdX7_ruleWorth_55.1 (by decide) ?_
      exact aw_ireturn (w := [(m, .inr (9, [.ref Mo, .ref Lo, .ref Do, .ref tl, .ref ca, .int x31.2])), (Lo, .inl (4, 3, .inr (.inr (.inr (.inr ll))))), (h, .inl (0, 21, .inl f))]) [2, 0, 1] gdX7_ruleWorth_55.2.2.2.2.2.2.2 rfl rfl rfl rfl (PN.mk (fun _ => 0) rfl rfl)
    · refine aw_aload_n (q := 44) gdX7_ruleWorth_43.1 rfl 0 rfl ?_
      refine aw_get (q := 47) gdX7_ruleWorth_43.2.1 rfl fl_X7_14 2 rfl rfl ?_
      refine aw_iload_n (q := 48) gdX7_ruleWorth_43.2.2.1 rfl 1 rfl ?_
      refine aw_aald (q := 49) gdX7_ruleWorth_43.2.2.2.1 rfl 0 rfl (by decide) rfl hl ?_
      refine aw_iload_n (q := 50) gdX7_ruleWorth_43.2.2.2.2.1 rfl 2 rfl ?_
      refine aw_iald (q := 51) gdX7_ruleWorth_43.2.2.2.2.2.1 rfl 1 rfl ?_
      refine aw_if_ne (tgt := 58) (q := 54) gdX7_ruleWorth_43.2.2.2.2.2.2.1 (by decide) rfl (fun h_51 => ?_) (fun h_51 => ?_)
      · refine aw_aload_n (q := 59) gdX7_ruleWorth_55.2.1 rfl 0 rfl ?_
        refine aw_get (q := 62) gdX7_ruleWorth_55.2.2.1 rfl fl_X7_14 2 rfl rfl ?_
        refine aw_iload_n (q := 63) gdX7_ruleWorth_55.2.2.2.1 rfl 1 rfl ?_
        refine aw_aald (q := 64) gdX7_ruleWorth_55.2.2.2.2.1 rfl 0 rfl (by decide) rfl hl ?_
        refine aw_iload_n (q := 65) gdX7_ruleWorth_55.2.2.2.2.2.1 rfl 2 rfl ?_
        refine aw_iald (q := 66) gdX7_ruleWorth_55.2.2.2.2.2.2.1 rfl 1 rfl ?_
        exact aw_ireturn (w := [(m, .inr (9, [.ref Mo, .ref Lo, .ref Do, .ref tl, .ref ca, .int x31.2])), (Lo, .inl (4, 3, .inr (.inr (.inr (.inr ll))))), (h, .inl (0, 21, .inl f))]) [2, 0, 1] gdX7_ruleWorth_55.2.2.2.2.2.2.2 rfl rfl rfl rfl (PN.mk (fun _ => 0) rfl rfl)
      · refine aw_iconst (q := 55) (v := (-1)) gdX7_ruleWorth_43.2.2.2.2.2.2.2 rfl (by decide) ?_
        refine aw_goto (tgt := 66) gdX7_ruleWorth_55.1 (by decide) ?_
        exact aw_ireturn (w := [(m, .inr (9, [.ref Mo, .ref Lo, .ref Do, .ref tl, .ref ca, .int x31.2])), (Lo, .inl (4, 3, .inr (.inr (.inr (.inr ll))))), (h, .inl (0, 21, .inl f))]) [2, 0, 1] gdX7_ruleWorth_55.2.2.2.2.2.2.2 rfl rfl rfl rfl (PN.mk (fun _ => 0) rfl rfl)
  · refine aw_iconst (q := 38) (v := 0) gdX7_ruleWorth_27.2.2.2.2.1 rfl (by decide) ?_
    exact aw_ireturn (w := [(m, .inr (9, [.ref Mo, .ref Lo, .ref Do, .ref tl, .ref ca, .int x31.2])), (Lo, .inl (4, 3, .inr (.inr (.inr (.inr ll))))), (h, .inl (0, 21, .inl f))]) [2, 0, 1] gdX7_ruleWorth_27.2.2.2.2.2.1 rfl rfl rfl rfl (PN.mk (fun _ => 0) rfl rfl)
def fX7_ruleWorth_26 (N K : Nat) (th : Int32) (f : Nat → Int32) (p0 : Int32) (p1 : Int32) (p2 : Int32) (s0 : Int32) (th_ : Int32) : Option (Int32 × Int32) :=
  fX7_ruleWorth_31 N K th f p0 p1 p2  (1 : Int32) s0 th_
set_option maxHeartbeats 4000000 in
set_option maxRecDepth 100000 in
theorem tX7_ruleWorth_26 {N K : Nat} {m Mo Lo Do tl ca h : Nat} {ll : Nat → Option Nat} {th : Int32} {f : Nat → Int32} {p0 : Int32} {p1 : Int32} {p2 : Int32} (hl : ¬ (p0 < 0 ∨ 3 ≤ p0.toNatClampNeg) → ll p0.toNatClampNeg = some h) : ∀ (s0 : Int32) (th_ : Int32), AW RX7 "ruleWorth" cX7_ruleWorth 4 (some .int) [] (fun _ _ => True) (1) (PN (U := Int32 × Int32) (fun zz _ => some (.int zz.1)) (fun zz ad => [(m, .inr (9, [.ref Mo, .ref Lo, .ref Do, .ref tl, .ref ca, .int zz.2])), (Lo, .inl (4, 3, .inr (.inr (.inr (.inr ll))))), (h, .inl (0, 21, .inl f))])) 0 0 (fX7_ruleWorth_26 N K th f p0 p1 p2  s0 th_) 26 [(0, .ref m), (1, .int p0), (2, .int p1)] [.int s0, .ref m] [(m, .inr (9, [.ref Mo, .ref Lo, .ref Do, .ref tl, .ref ca, .int th_])), (Lo, .inl (4, 3, .inr (.inr (.inr (.inr ll))))), (h, .inl (0, 21, .inl f))] := by
  intro s0 th_
  refine aw_iconst (q := 27) (v := 1) gdX7_ruleWorth_11.2.2.2.2.2.2.2 rfl (by decide) ?_
  refine aw_goto (tgt := 31) gdX7_ruleWorth_27.1 (by decide) ?_
  exact tX7_ruleWorth_31 hl _ _ _
def fX7_ruleWorth (N K : Nat) (th : Int32) (f : Nat → Int32) (p0 : Int32) (p1 : Int32) (p2 : Int32) : Option (Int32 × Int32) :=
  ((fX7_isNo N K p0 (0 : Int32) (2 : Int32)).bind (fun x4 => ((fX7_isNo N K p1 (0 : Int32) (20 : Int32)).bind (fun x11 => (if x11 = 0 then ((fX7_isNo N K p2 (0 : Int32) (1 : Int32)).bind (fun x20 => (if x20 = 0 then fX7_ruleWorth_31 N K th f p0 p1 p2  (0 : Int32) x4 th else fX7_ruleWorth_26 N K th f p0 p1 p2  x4 th))) else fX7_ruleWorth_26 N K th f p0 p1 p2  x4 th)))))
set_option maxHeartbeats 4000000 in
set_option maxRecDepth 100000 in
theorem ok_X7_ruleWorth {N K : Nat} {m Mo Lo Do tl ca h : Nat} {ll : Nat → Option Nat} {th : Int32} {f : Nat → Int32} {p0 : Int32} {p1 : Int32} {p2 : Int32} (hl : ¬ (p0 < 0 ∨ 3 ≤ p0.toNatClampNeg) → ll p0.toNatClampNeg = some h) {xr : Int32 × Int32} (hE : fX7_ruleWorth N K th f p0 p1 p2 = some xr) : OkM yX7_ruleWorth (.code yX7_ruleWorth cX7_ruleWorth 4 (some .int)) (1) 0 0 [.ref m, .int p0, .int p1, .int p2] [(m, .inr (9, [.ref Mo, .ref Lo, .ref Do, .ref tl, .ref ca, .int th])), (Lo, .inl (4, 3, .inr (.inr (.inr (.inr ll))))), (h, .inl (0, 21, .inl f))] ((PN (U := Int32 × Int32) (fun zz _ => some (.int zz.1)) (fun zz ad => [(m, .inr (9, [.ref Mo, .ref Lo, .ref Do, .ref tl, .ref ca, .int zz.2])), (Lo, .inl (4, 3, .inr (.inr (.inr (.inr ll))))), (h, .inl (0, 21, .inl f))])) xr) := by
  refine ok_of (by decide) (Nat.le_of_ble_eq_true rfl) hE ?_
  refine aw_locals (lv' := [(0, .ref m), (1, .int p0), (2, .int p1), (3, .int p2)]) [0, 1, 2, 3] rfl ?_
  refine aw_aload_n (q := 1) gdX7_ruleWorth_0.1 rfl 0 rfl ?_
  refine aw_iload_n (q := 2) gdX7_ruleWorth_0.2.1 rfl 1 rfl ?_
  refine aw_iconst (q := 3) (v := 0) gdX7_ruleWorth_0.2.2.1 rfl (by decide) ?_
  refine aw_iconst (q := 4) (v := 2) gdX7_ruleWorth_0.2.2.2.1 rfl (by decide) ?_
  refine aw_call (q := 7) (kc1 := 0) (ks1 := 0) (wc := []) (wr := [(m, .inr (9, [.ref Mo, .ref Lo, .ref Do, .ref tl, .ref ca, .int th])), (Lo, .inl (4, 3, .inr (.inr (.inr (.inr ll))))), (h, .inl (0, 21, .inl f))]) (st1 := fun x4 g4 => [.int x4, .ref m]) (ws1 := fun x4 g4 => [(m, .inr (9, [.ref Mo, .ref Lo, .ref Do, .ref tl, .ref ca, .int th])), (Lo, .inl (4, 3, .inr (.inr (.inr (.inr ll))))), (h, .inl (0, 21, .inl f))]) (As := [.int p0, .int (0 : Int32), .int (2 : Int32)]) [] [0, 1, 2] (fun _ => runS gdX7_ruleWorth_0.2.2.2.2.1 mi_X7_isNo st_X7_isNo ml_X7_31 (by omega) rfl (Nat.le_of_ble_eq_true rfl) rfl) (fun x9 h9 => ok_X7_isNo h9) rfl rfl rfl rfl rfl (by decide +kernel) (by omega) (by omega) (fun _ _ => rfl) (fun _ _ => rfl) (fun x4 g4 => ?_)
  refine aw_iload_n (q := 8) gdX7_ruleWorth_0.2.2.2.2.2.1 rfl 2 rfl ?_
  refine aw_iconst (q := 9) (v := 0) gdX7_ruleWorth_0.2.2.2.2.2.2.1 rfl (by decide) ?_
  refine aw_bipush (q := 11) (v := 20) gdX7_ruleWorth_0.2.2.2.2.2.2.2 rfl (by decide) ?_
  refine aw_call (q := 14) (kc1 := 0) (ks1 := 0) (wc := []) (wr := [(m, .inr (9, [.ref Mo, .ref Lo, .ref Do, .ref tl, .ref ca, .int th])), (Lo, .inl (4, 3, .inr (.inr (.inr (.inr ll))))), (h, .inl (0, 21, .inl f))]) (st1 := fun x11 g11 => [.int x11, .int x4, .ref m]) (ws1 := fun x11 g11 => [(m, .inr (9, [.ref Mo, .ref Lo, .ref Do, .ref tl, .ref ca, .int th])), (Lo, .inl (4, 3, .inr (.inr (.inr (.inr ll))))), (h, .inl (0, 21, .inl f))]) (As := [.int p1, .int (0 : Int32), .int (20 : Int32)]) [] [0, 1, 2] (fun _ => runS gdX7_ruleWorth_11.1 mi_X7_isNo st_X7_isNo ml_X7_31 (by omega) rfl (Nat.le_of_ble_eq_true rfl) rfl) (fun x9 h9 => ok_X7_isNo h9) rfl rfl rfl rfl rfl (by decide +kernel) (by omega) (by omega) (fun _ _ => rfl) (fun _ _ => rfl) (fun x11 g11 => ?_)
  refine aw_if_ne (tgt := 26) (q := 17) gdX7_ruleWorth_11.2.1 (by decide) rfl (fun h_14 => ?_) (fun h_14 => ?_)
  · refine aw_locals (lv' := [(0, .ref m), (1, .int p0), (2, .int p1)]) [0, 1, 2] rfl ?_
    exact tX7_ruleWorth_26 hl _ _
  · refine aw_iload_n (q := 18) gdX7_ruleWorth_11.2.2.1 rfl 3 rfl ?_
    refine aw_iconst (q := 19) (v := 0) gdX7_ruleWorth_11.2.2.2.1 rfl (by decide) ?_
    refine aw_iconst (q := 20) (v := 1) gdX7_ruleWorth_11.2.2.2.2.1 rfl (by decide) ?_
    refine aw_call (q := 23) (kc1 := 0) (ks1 := 0) (wc := []) (wr := [(m, .inr (9, [.ref Mo, .ref Lo, .ref Do, .ref tl, .ref ca, .int th])), (Lo, .inl (4, 3, .inr (.inr (.inr (.inr ll))))), (h, .inl (0, 21, .inl f))]) (st1 := fun x20 g20 => [.int x20, .int x4, .ref m]) (ws1 := fun x20 g20 => [(m, .inr (9, [.ref Mo, .ref Lo, .ref Do, .ref tl, .ref ca, .int th])), (Lo, .inl (4, 3, .inr (.inr (.inr (.inr ll))))), (h, .inl (0, 21, .inl f))]) (As := [.int p2, .int (0 : Int32), .int (1 : Int32)]) [] [0, 1, 2] (fun _ => runS gdX7_ruleWorth_11.2.2.2.2.2.1 mi_X7_isNo st_X7_isNo ml_X7_31 (by omega) rfl (Nat.le_of_ble_eq_true rfl) rfl) (fun x9 h9 => ok_X7_isNo h9) rfl rfl rfl rfl rfl (by decide +kernel) (by omega) (by omega) (fun _ _ => rfl) (fun _ _ => rfl) (fun x20 g20 => ?_)
    refine aw_if_eq (tgt := 30) (q := 26) gdX7_ruleWorth_11.2.2.2.2.2.2.1 (by decide) rfl (fun h_23 => ?_) (fun h_23 => ?_)
    · refine aw_iconst (q := 31) (v := 0) gdX7_ruleWorth_27.2.1 rfl (by decide) ?_
      refine aw_locals (lv' := [(0, .ref m), (1, .int p0), (2, .int p1)]) [0, 1, 2] rfl ?_
      exact tX7_ruleWorth_31 hl _ _ _
    · refine aw_locals (lv' := [(0, .ref m), (1, .int p0), (2, .int p1)]) [0, 1, 2] rfl ?_
      exact tX7_ruleWorth_26 hl _ _
def fX7_addPart_32 (N K : Nat) (th : Int32) (f : Nat → Int32) (t : Nat → Int32) (p0 : Int32) (p1 : Int32) (p2 : Int32) (s0 : Int32) (s1 : Int32) (th_ : Int32) (f_ : Nat → Int32) (t_ : Nat → Int32) : Option (Int32 × Int32 × (Nat → Int32) × (Nat → Int32)) :=
  ((fX7_isThrown N K th_ s1 s0).bind (fun x32 => (if x32.1 = 0 then (if p0 < 0 ∨ 2 ≤ p0.toNatClampNeg then none else ((fX7_number N K f_).bind (fun x46 => (if (x46 + (p1 * p2)) ≤ (20 : Int32) then (if p0 < 0 ∨ 2 ≤ p0.toNatClampNeg then none else (if p1 < 0 ∨ 21 ≤ p1.toNatClampNeg then none else (if p1 < 0 ∨ 21 ≤ p1.toNatClampNeg then none else (if p0 < 0 ∨ 2 ≤ p0.toNatClampNeg then none else (if p1 < 0 ∨ 21 ≤ p1.toNatClampNeg then none else ((fX7_done N K x32.2 t_ ((upd f_ p1.toNatClampNeg ((f_ p1.toNatClampNeg) + p2)) p1.toNatClampNeg)).bind (fun x84 => (some (x84.1, x32.2, (upd f_ p1.toNatClampNeg ((f_ p1.toNatClampNeg) + p2)), x84.2))))))))) else ((fX7_refused N K x32.2 t_).bind (fun x59 => (some (x59.1, x32.2, f_, x59.2)))))))) else (some ((0 : Int32), x32.2, f_, t_)))))
set_option maxHeartbeats 4000000 in
set_option maxRecDepth 100000 in
theorem tX7_addPart_32 {N K : Nat} {m Mo Lo Do tl ca w : Nat} {dd : Nat → Option Nat} {th : Int32} {f : Nat → Int32} {t : Nat → Int32} {p0 : Int32} {p1 : Int32} {p2 : Int32} (hd : ¬ (p0 < 0 ∨ 2 ≤ p0.toNatClampNeg) → dd p0.toNatClampNeg = some w) : ∀ (s0 : Int32) (s1 : Int32) (th_ : Int32) (f_ : Nat → Int32) (t_ : Nat → Int32), AW RX7 "addPart" cX7_addPart 4 (some .int) [] (fun _ _ => True) (1) (PN (U := Int32 × Int32 × (Nat → Int32) × (Nat → Int32)) (fun zz _ => some (.int zz.1)) (fun zz ad => [(m, .inr (9, [.ref Mo, .ref Lo, .ref Do, .ref tl, .ref ca, .int zz.2.1])), (Do, .inl (4, 2, .inr (.inr (.inr (.inr dd))))), (w, .inl (0, 21, .inl zz.2.2.1)), (tl, .inl (0, 6, .inl zz.2.2.2))])) 0 0 (fX7_addPart_32 N K th f t p0 p1 p2  s0 s1 th_ f_ t_) 32 [(0, .ref m), (1, .int p0), (2, .int p1), (3, .int p2)] [.int s0, .int s1, .ref m] [(m, .inr (9, [.ref Mo, .ref Lo, .ref Do, .ref tl, .ref ca, .int th_])), (Do, .inl (4, 2, .inr (.inr (.inr (.inr dd))))), (w, .inl (0, 21, .inl f_)), (tl, .inl (0, 6, .inl t_))] := by
  intro s0 s1 th_ f_ t_
  refine aw_call (q := 35) (kc1 := 0) (ks1 := 0) (wc := [(m, .inr (9, [.ref Mo, .ref Lo, .ref Do, .ref tl, .ref ca, .int th_]))]) (wr := [(Do, .inl (4, 2, .inr (.inr (.inr (.inr dd))))), (w, .inl (0, 21, .inl f_)), (tl, .inl (0, 6, .inl t_))]) (st1 := fun x32 g32 => [.int x32.1]) (ws1 := fun x32 g32 => [(Do, .inl (4, 2, .inr (.inr (.inr (.inr dd))))), (w, .inl (0, 21, .inl f_)), (tl, .inl (0, 6, .inl t_)), (m, .inr (9, [.ref Mo, .ref Lo, .ref Do, .ref tl, .ref ca, .int x32.2]))]) (As := [.ref m, .int s1, .int s0]) [0] [1, 2, 3] (fun _ => runV (q0 := 0) gdX7_addPart_28.2.2.1 mi_X7_isThrown im_X7_isThrown se_X7_isThrown ml_X7_110 (by omega) rfl (Nat.le_of_ble_eq_true rfl) rfl rfl rfl rfl) (fun x9 h9 => ok_X7_isThrown h9) rfl rfl rfl rfl rfl (by decide +kernel) (by omega) (by omega) (fun _ _ => rfl) (fun _ _ => rfl) (fun x32 g32 => ?_)
  refine aw_if_eq (tgt := 40) (q := 38) gdX7_addPart_28.2.2.2.1 (by decide) rfl (fun h_35 => ?_) (fun h_35 => ?_)
  · refine aw_aload_n (q := 41) gdX7_addPart_28.2.2.2.2.2.2.1 rfl 0 rfl ?_
    refine aw_get (q := 44) gdX7_addPart_28.2.2.2.2.2.2.2 rfl fl_X7_17 3 rfl rfl ?_
    refine aw_iload_n (q := 45) gdX7_addPart_44.1 rfl 1 rfl ?_
    refine aw_aald (q := 46) gdX7_addPart_44.2.1 rfl 0 rfl (by decide) rfl hd ?_
    refine aw_call (q := 49) (kc1 := 0) (ks1 := 0) (wc := [(w, .inl (0, 21, .inl f_))]) (wr := [(Do, .inl (4, 2, .inr (.inr (.inr (.inr dd))))), (tl, .inl (0, 6, .inl t_)), (m, .inr (9, [.ref Mo, .ref Lo, .ref Do, .ref tl, .ref ca, .int x32.2]))]) (st1 := fun x46 g46 => [.int x46]) (ws1 := fun x46 g46 => [(Do, .inl (4, 2, .inr (.inr (.inr (.inr dd))))), (tl, .inl (0, 6, .inl t_)), (m, .inr (9, [.ref Mo, .ref Lo, .ref Do, .ref tl, .ref ca, .int x32.2])), (w, .inl (0, 21, .inl f_))]) (As := [.ref w]) [1] [0, 2, 3] (fun _ => runS gdX7_addPart_44.2.2.1 mi_X7_number st_X7_number ml_X7_121 (by omega) rfl (Nat.le_of_ble_eq_true rfl) rfl) (fun x9 h9 => ok_X7_number h9) rfl rfl rfl rfl rfl (by decide +kernel) (by omega) (by omega) (fun _ _ => rfl) (fun _ _ => rfl) (fun x46 g46 => ?_)
    refine aw_iload_n (q := 50) gdX7_addPart_44.2.2.2.1 rfl 2 rfl ?_
    refine aw_iload_n (q := 51) gdX7_addPart_44.2.2.2.2.1 rfl 3 rfl ?_
    refine aw_imul (q := 52) gdX7_addPart_44.2.2.2.2.2.1 rfl ?_
    refine aw_iadd (q := 53) gdX7_addPart_44.2.2.2.2.2.2.1 rfl ?_
    refine aw_bipush (q := 55) (v := 20) gdX7_addPart_44.2.2.2.2.2.2.2 rfl (by decide) ?_
    refine aw_icmp_le (tgt := 63) (q := 58) gdX7_addPart_55.1 (by decide) rfl (fun h_55 => ?_) (fun h_55 => ?_)
    · refine aw_aload_n (q := 64) gdX7_addPart_55.2.2.2.2.1 rfl 0 rfl ?_
      refine aw_get (q := 67) gdX7_addPart_55.2.2.2.2.2.1 rfl fl_X7_17 2 rfl rfl ?_
      refine aw_iload_n (q := 68) gdX7_addPart_55.2.2.2.2.2.2.1 rfl 1 rfl ?_
      refine aw_aald (q := 69) gdX7_addPart_55.2.2.2.2.2.2.2 rfl 0 rfl (by decide) rfl hd ?_
      refine aw_iload_n (q := 70) gdX7_addPart_69.1 rfl 2 rfl ?_
      refine aw_dup2 (q := 71) gdX7_addPart_69.2.1 rfl rfl rfl ?_
      refine aw_iald (q := 72) gdX7_addPart_69.2.2.1 rfl 3 rfl ?_
      refine aw_iload_n (q := 73) gdX7_addPart_69.2.2.2.1 rfl 3 rfl ?_
      refine aw_iadd (q := 74) gdX7_addPart_69.2.2.2.2.1 rfl ?_
      refine aw_iast (q := 75) (ws' := [(Do, .inl (4, 2, .inr (.inr (.inr (.inr dd))))), (tl, .inl (0, 6, .inl t_)), (m, .inr (9, [.ref Mo, .ref Lo, .ref Do, .ref tl, .ref ca, .int x32.2])), (w, .inl (0, 21, .inl (upd f_ p1.toNatClampNeg ((f_ p1.toNatClampNeg) + p2))))]) gdX7_addPart_69.2.2.2.2.2.1 rfl 3 rfl rfl ?_
      refine aw_aload_n (q := 76) gdX7_addPart_69.2.2.2.2.2.2.1 rfl 0 rfl ?_
      refine aw_aload_n (q := 77) gdX7_addPart_69.2.2.2.2.2.2.2 rfl 0 rfl ?_
      refine aw_get (q := 80) gdX7_addPart_77.1 rfl fl_X7_17 2 rfl rfl ?_
      refine aw_iload_n (q := 81) gdX7_addPart_77.2.1 rfl 1 rfl ?_
      refine aw_aald (q := 82) gdX7_addPart_77.2.2.1 rfl 0 rfl (by decide) rfl hd ?_
      refine aw_iload_n (q := 83) gdX7_addPart_77.2.2.2.1 rfl 2 rfl ?_
      refine aw_iald (q := 84) gdX7_addPart_77.2.2.2.2.1 rfl 3 rfl ?_
      refine aw_call (q := 87) (kc1 := 0) (ks1 := 0) (wc := [(m, .inr (9, [.ref Mo, .ref Lo, .ref Do, .ref tl, .ref ca, .int x32.2])), (tl, .inl (0, 6, .inl t_))]) (wr := [(Do, .inl (4, 2, .inr (.inr (.inr (.inr dd))))), (w, .inl (0, 21, .inl (upd f_ p1.toNatClampNeg ((f_ p1.toNatClampNeg) + p2))))]) (st1 := fun x84 g84 => [.int x84.1]) (ws1 := fun x84 g84 => [(Do, .inl (4, 2, .inr (.inr (.inr (.inr dd))))), (w, .inl (0, 21, .inl (upd f_ p1.toNatClampNeg ((f_ p1.toNatClampNeg) + p2)))), (m, .inr (9, [.ref Mo, .ref Lo, .ref Do, .ref tl, .ref ca, .int x32.2])), (tl, .inl (0, 6, .inl x84.2))]) (As := [.ref m, .int ((upd f_ p1.toNatClampNeg ((f_ p1.toNatClampNeg) + p2)) p1.toNatClampNeg)]) [2, 1] [0, 3] (fun _ => runV (q0 := 2) gdX7_addPart_77.2.2.2.2.2.1 mi_X7_done im_X7_done se_X7_done ml_X7_117 (by omega) rfl (Nat.le_of_ble_eq_true rfl) rfl rfl rfl rfl) (fun x9 h9 => ok_X7_done h9) rfl rfl rfl rfl rfl (by decide +kernel) (by omega) (by omega) (fun _ _ => rfl) (fun _ _ => rfl) (fun x84 g84 => ?_)
      exact aw_ireturn (w := [(m, .inr (9, [.ref Mo, .ref Lo, .ref Do, .ref tl, .ref ca, .int x32.2])), (Do, .inl (4, 2, .inr (.inr (.inr (.inr dd))))), (w, .inl (0, 21, .inl (upd f_ p1.toNatClampNeg ((f_ p1.toNatClampNeg) + p2)))), (tl, .inl (0, 6, .inl x84.2))]) [2, 0, 1, 3] gdX7_addPart_77.2.2.2.2.2.2 rfl rfl rfl rfl (PN.mk (fun _ => 0) rfl rfl)
    · refine aw_aload_n (q := 59) gdX7_addPart_55.2.1 rfl 0 rfl ?_
      refine aw_call (q := 62) (kc1 := 0) (ks1 := 0) (wc := [(m, .inr (9, [.ref Mo, .ref Lo, .ref Do, .ref tl, .ref ca, .int x32.2])), (tl, .inl (0, 6, .inl t_))]) (wr := [(Do, .inl (4, 2, .inr (.inr (.inr (.inr dd))))), (w, .inl (0, 21, .inl f_))]) (st1 := fun x59 g59 => [.int x59.1]) (ws1 := fun x59 g59 => [(Do, .inl (4, 2, .inr (.inr (.inr (.inr dd))))), (w, .inl (0, 21, .inl f_)), (m, .inr (9, [.ref Mo, .ref Lo, .ref Do, .ref tl, .ref ca, .int x32.2])), (tl, .inl (0, 6, .inl x59.2))]) (As := [.ref m]) [2, 1] [0, 3] (fun _ => runV (q0 := 2) gdX7_addPart_55.2.2.1 mi_X7_refused im_X7_refused se_X7_refused ml_X7_124 (by omega) rfl (Nat.le_of_ble_eq_true rfl) rfl rfl rfl rfl) (fun x9 h9 => ok_X7_refused h9) rfl rfl rfl rfl rfl (by decide +kernel) (by omega) (by omega) (fun _ _ => rfl) (fun _ _ => rfl) (fun x59 g59 => ?_)
      exact aw_ireturn (w := [(m, .inr (9, [.ref Mo, .ref Lo, .ref Do, .ref tl, .ref ca, .int x32.2])), (Do, .inl (4, 2, .inr (.inr (.inr (.inr dd))))), (w, .inl (0, 21, .inl f_)), (tl, .inl (0, 6, .inl x59.2))]) [2, 0, 1, 3] gdX7_addPart_55.2.2.2.1 rfl rfl rfl rfl (PN.mk (fun _ => 0) rfl rfl)
  · refine aw_iconst (q := 39) (v := 0) gdX7_addPart_28.2.2.2.2.1 rfl (by decide) ?_
    exact aw_ireturn (w := [(m, .inr (9, [.ref Mo, .ref Lo, .ref Do, .ref tl, .ref ca, .int x32.2])), (Do, .inl (4, 2, .inr (.inr (.inr (.inr dd))))), (w, .inl (0, 21, .inl f_)), (tl, .inl (0, 6, .inl t_))]) [3, 0, 1, 2] gdX7_addPart_28.2.2.2.2.2.1 rfl rfl rfl rfl (PN.mk (fun _ => 0) rfl rfl)
def fX7_addPart_27 (N K : Nat) (th : Int32) (f : Nat → Int32) (t : Nat → Int32) (p0 : Int32) (p1 : Int32) (p2 : Int32) (s0 : Int32) (th_ : Int32) (f_ : Nat → Int32) (t_ : Nat → Int32) : Option (Int32 × Int32 × (Nat → Int32) × (Nat → Int32)) :=
  fX7_addPart_32 N K th f t p0 p1 p2  (1 : Int32) s0 th_ f_ t_
set_option maxHeartbeats 4000000 in
set_option maxRecDepth 100000 in
theorem tX7_addPart_27 {N K : Nat} {m Mo Lo Do tl ca w : Nat} {dd : Nat → Option Nat} {th : Int32} {f : Nat → Int32} {t : Nat → Int32} {p0 : Int32} {p1 : Int32} {p2 : Int32} (hd : ¬ (p0 < 0 ∨ 2 ≤ p0.toNatClampNeg) → dd p0.toNatClampNeg = some w) : ∀ (s0 : Int32) (th_ : Int32) (f_ : Nat → Int32) (t_ : Nat → Int32), AW RX7 "addPart" cX7_addPart 4 (some .int) [] (fun _ _ => True) (1) (PN (U := Int32 × Int32 × (Nat → Int32) × (Nat → Int32)) (fun zz _ => some (.int zz.1)) (fun zz ad => [(m, .inr (9, [.ref Mo, .ref Lo, .ref Do, .ref tl, .ref ca, .int zz.2.1])), (Do, .inl (4, 2, .inr (.inr (.inr (.inr dd))))), (w, .inl (0, 21, .inl zz.2.2.1)), (tl, .inl (0, 6, .inl zz.2.2.2))])) 0 0 (fX7_addPart_27 N K th f t p0 p1 p2  s0 th_ f_ t_) 27 [(0, .ref m), (1, .int p0), (2, .int p1), (3, .int p2)] [.int s0, .ref m] [(m, .inr (9, [.ref Mo, .ref Lo, .ref Do, .ref tl, .ref ca, .int th_])), (Do, .inl (4, 2, .inr (.inr (.inr (.inr dd))))), (w, .inl (0, 21, .inl f_)), (tl, .inl (0, 6, .inl t_))] := by
  intro s0 th_ f_ t_
  refine aw_iconst (q := 28) (v := 1) gdX7_addPart_11.2.2.2.2.2.2.2 rfl (by decide) ?_
  refine aw_goto (tgt := 32) gdX7_addPart_28.1 (by decide) ?_
  exact tX7_addPart_32 hd _ _ _ _ _
def fX7_addPart (N K : Nat) (th : Int32) (f : Nat → Int32) (t : Nat → Int32) (p0 : Int32) (p1 : Int32) (p2 : Int32) : Option (Int32 × Int32 × (Nat → Int32) × (Nat → Int32)) :=
  ((fX7_isNo N K p0 (0 : Int32) (1 : Int32)).bind (fun x4 => ((fX7_isNo N K p1 (1 : Int32) (20 : Int32)).bind (fun x11 => (if x11 = 0 then ((fX7_isNo N K p2 (1 : Int32) (20 : Int32)).bind (fun x21 => (if x21 = 0 then fX7_addPart_32 N K th f t p0 p1 p2  (0 : Int32) x4 th f t else fX7_addPart_27 N K th f t p0 p1 p2  x4 th f t))) else fX7_addPart_27 N K th f t p0 p1 p2  x4 th f t)))))
set_option maxHeartbeats 4000000 in
set_option maxRecDepth 100000 in
theorem ok_X7_addPart {N K : Nat} {m Mo Lo Do tl ca w : Nat} {dd : Nat → Option Nat} {th : Int32} {f : Nat → Int32} {t : Nat → Int32} {p0 : Int32} {p1 : Int32} {p2 : Int32} (hd : ¬ (p0 < 0 ∨ 2 ≤ p0.toNatClampNeg) → dd p0.toNatClampNeg = some w) {xr : Int32 × Int32 × (Nat → Int32) × (Nat → Int32)} (hE : fX7_addPart N K th f t p0 p1 p2 = some xr) : OkM yX7_addPart (.code yX7_addPart cX7_addPart 4 (some .int)) (1) 0 0 [.ref m, .int p0, .int p1, .int p2] [(m, .inr (9, [.ref Mo, .ref Lo, .ref Do, .ref tl, .ref ca, .int th])), (Do, .inl (4, 2, .inr (.inr (.inr (.inr dd))))), (w, .inl (0, 21, .inl f)), (tl, .inl (0, 6, .inl t))] ((PN (U := Int32 × Int32 × (Nat → Int32) × (Nat → Int32)) (fun zz _ => some (.int zz.1)) (fun zz ad => [(m, .inr (9, [.ref Mo, .ref Lo, .ref Do, .ref tl, .ref ca, .int zz.2.1])), (Do, .inl (4, 2, .inr (.inr (.inr (.inr dd))))), (w, .inl (0, 21, .inl zz.2.2.1)), (tl, .inl (0, 6, .inl zz.2.2.2))])) xr) := by
  refine ok_of (by decide) (Nat.le_of_ble_eq_true rfl) hE ?_
  refine aw_locals (lv' := [(0, .ref m), (1, .int p0), (2, .int p1), (3, .int p2)]) [0, 1, 2, 3] rfl ?_
  refine aw_aload_n (q := 1) gdX7_addPart_0.1 rfl 0 rfl ?_
  refine aw_iload_n (q := 2) gdX7_addPart_0.2.1 rfl 1 rfl ?_
  refine aw_iconst (q := 3) (v := 0) gdX7_addPart_0.2.2.1 rfl (by decide) ?_
  refine aw_iconst (q := 4) (v := 1) gdX7_addPart_0.2.2.2.1 rfl (by decide) ?_
  refine aw_call (q := 7) (kc1 := 0) (ks1 := 0) (wc := []) (wr := [(m, .inr (9, [.ref Mo, .ref Lo, .ref Do, .ref tl, .ref ca, .int th])), (Do, .inl (4, 2, .inr (.inr (.inr (.inr dd))))), (w, .inl (0, 21, .inl f)), (tl, .inl (0, 6, .inl t))]) (st1 := fun x4 g4 => [.int x4, .ref m]) (ws1 := fun x4 g4 => [(m, .inr (9, [.ref Mo, .ref Lo, .ref Do, .ref tl, .ref ca, .int th])), (Do, .inl (4, 2, .inr (.inr (.inr (.inr dd))))), (w, .inl (0, 21, .inl f)), (tl, .inl (0, 6, .inl t))]) (As := [.int p0, .int (0 : Int32), .int (1 : Int32)]) [] [0, 1, 2, 3] (fun _ => runS gdX7_addPart_0.2.2.2.2.1 mi_X7_isNo st_X7_isNo ml_X7_31 (by omega) rfl (Nat.le_of_ble_eq_true rfl) rfl) (fun x9 h9 => ok_X7_isNo h9) rfl rfl rfl rfl rfl (by decide +kernel) (by omega) (by omega) (fun _ _ => rfl) (fun _ _ => rfl) (fun x4 g4 => ?_)
  refine aw_iload_n (q := 8) gdX7_addPart_0.2.2.2.2.2.1 rfl 2 rfl ?_
  refine aw_iconst (q := 9) (v := 1) gdX7_addPart_0.2.2.2.2.2.2.1 rfl (by decide) ?_
  refine aw_bipush (q := 11) (v := 20) gdX7_addPart_0.2.2.2.2.2.2.2 rfl (by decide) ?_
  refine aw_call (q := 14) (kc1 := 0) (ks1 := 0) (wc := []) (wr := [(m, .inr (9, [.ref Mo, .ref Lo, .ref Do, .ref tl, .ref ca, .int th])), (Do, .inl (4, 2, .inr (.inr (.inr (.inr dd))))), (w, .inl (0, 21, .inl f)), (tl, .inl (0, 6, .inl t))]) (st1 := fun x11 g11 => [.int x11, .int x4, .ref m]) (ws1 := fun x11 g11 => [(m, .inr (9, [.ref Mo, .ref Lo, .ref Do, .ref tl, .ref ca, .int th])), (Do, .inl (4, 2, .inr (.inr (.inr (.inr dd))))), (w, .inl (0, 21, .inl f)), (tl, .inl (0, 6, .inl t))]) (As := [.int p1, .int (1 : Int32), .int (20 : Int32)]) [] [0, 1, 2, 3] (fun _ => runS gdX7_addPart_11.1 mi_X7_isNo st_X7_isNo ml_X7_31 (by omega) rfl (Nat.le_of_ble_eq_true rfl) rfl) (fun x9 h9 => ok_X7_isNo h9) rfl rfl rfl rfl rfl (by decide +kernel) (by omega) (by omega) (fun _ _ => rfl) (fun _ _ => rfl) (fun x11 g11 => ?_)
  refine aw_if_ne (tgt := 27) (q := 17) gdX7_addPart_11.2.1 (by decide) rfl (fun h_14 => ?_) (fun h_14 => ?_)
  · exact tX7_addPart_27 hd _ _ _ _
  · refine aw_iload_n (q := 18) gdX7_addPart_11.2.2.1 rfl 3 rfl ?_
    refine aw_iconst (q := 19) (v := 1) gdX7_addPart_11.2.2.2.1 rfl (by decide) ?_
    refine aw_bipush (q := 21) (v := 20) gdX7_addPart_11.2.2.2.2.1 rfl (by decide) ?_
    refine aw_call (q := 24) (kc1 := 0) (ks1 := 0) (wc := []) (wr := [(m, .inr (9, [.ref Mo, .ref Lo, .ref Do, .ref tl, .ref ca, .int th])), (Do, .inl (4, 2, .inr (.inr (.inr (.inr dd))))), (w, .inl (0, 21, .inl f)), (tl, .inl (0, 6, .inl t))]) (st1 := fun x21 g21 => [.int x21, .int x4, .ref m]) (ws1 := fun x21 g21 => [(m, .inr (9, [.ref Mo, .ref Lo, .ref Do, .ref tl, .ref ca, .int th])), (Do, .inl (4, 2, .inr (.inr (.inr (.inr dd))))), (w, .inl (0, 21, .inl f)), (tl, .inl (0, 6, .inl t))]) (As := [.int p2, .int (1 : Int32), .int (20 : Int32)]) [] [0, 1, 2, 3] (fun _ => runS gdX7_addPart_11.2.2.2.2.2.1 mi_X7_isNo st_X7_isNo ml_X7_31 (by omega) rfl (Nat.le_of_ble_eq_true rfl) rfl) (fun x9 h9 => ok_X7_isNo h9) rfl rfl rfl rfl rfl (by decide +kernel) (by omega) (by omega) (fun _ _ => rfl) (fun _ _ => rfl) (fun x21 g21 => ?_)
    refine aw_if_eq (tgt := 31) (q := 27) gdX7_addPart_11.2.2.2.2.2.2.1 (by decide) rfl (fun h_24 => ?_) (fun h_24 => ?_)
    · refine aw_iconst (q := 32) (v := 0) gdX7_addPart_28.2.1 rfl (by decide) ?_
      exact tX7_addPart_32 hd _ _ _ _ _
    · exact tX7_addPart_27 hd _ _ _ _
def fX7_takePart (N K : Nat) (th : Int32) (f : Nat → Int32) (t : Nat → Int32) (p0 : Int32) (p1 : Int32) : Option (Int32 × Int32 × (Nat → Int32) × (Nat → Int32)) :=
  ((fX7_isNo N K p0 (0 : Int32) (1 : Int32)).bind (fun x4 => ((fX7_isNo N K p1 (1 : Int32) (20 : Int32)).bind (fun x11 => ((fX7_isThrown N K th x4 x11).bind (fun x14 => (if x14.1 = 0 then (if p0 < 0 ∨ 2 ≤ p0.toNatClampNeg then none else (if p1 < 0 ∨ 21 ≤ p1.toNatClampNeg then none else (if (f p1.toNatClampNeg) = 0 then ((fX7_refused N K x14.2 t).bind (fun x34 => (some (x34.1, x14.2, f, x34.2)))) else (if p0 < 0 ∨ 2 ≤ p0.toNatClampNeg then none else (if p1 < 0 ∨ 21 ≤ p1.toNatClampNeg then none else (if p1 < 0 ∨ 21 ≤ p1.toNatClampNeg then none else (if p0 < 0 ∨ 2 ≤ p0.toNatClampNeg then none else (if p1 < 0 ∨ 21 ≤ p1.toNatClampNeg then none else ((fX7_done N K x14.2 t ((upd f p1.toNatClampNeg ((f p1.toNatClampNeg) - (1 : Int32))) p1.toNatClampNeg)).bind (fun x59 => (some (x59.1, x14.2, (upd f p1.toNatClampNeg ((f p1.toNatClampNeg) - (1 : Int32))), x59.2)))))))))))) else (some ((0 : Int32), x14.2, f, t)))))))))
set_option maxHeartbeats 4000000 in
set_option maxRecDepth 100000 in
theorem ok_X7_takePart {N K : Nat} {m Mo Lo Do tl ca w : Nat} {dd : Nat → Option Nat} {th : Int32} {f : Nat → Int32} {t : Nat → Int32} {p0 : Int32} {p1 : Int32} (hd : ¬ (p0 < 0 ∨ 2 ≤ p0.toNatClampNeg) → dd p0.toNatClampNeg = some w) {xr : Int32 × Int32 × (Nat → Int32) × (Nat → Int32)} (hE : fX7_takePart N K th f t p0 p1 = some xr) : OkM yX7_takePart (.code yX7_takePart cX7_takePart 3 (some .int)) (1) 0 0 [.ref m, .int p0, .int p1] [(m, .inr (9, [.ref Mo, .ref Lo, .ref Do, .ref tl, .ref ca, .int th])), (Do, .inl (4, 2, .inr (.inr (.inr (.inr dd))))), (w, .inl (0, 21, .inl f)), (tl, .inl (0, 6, .inl t))] ((PN (U := Int32 × Int32 × (Nat → Int32) × (Nat → Int32)) (fun zz _ => some (.int zz.1)) (fun zz ad => [(m, .inr (9, [.ref Mo, .ref Lo, .ref Do, .ref tl, .ref ca, .int zz.2.1])), (Do, .inl (4, 2, .inr (.inr (.inr (.inr dd))))), (w, .inl (0, 21, .inl zz.2.2.1)), (tl, .inl (0, 6, .inl zz.2.2.2))])) xr) := by
  refine ok_of (by decide) (Nat.le_of_ble_eq_true rfl) hE ?_
  refine aw_locals (lv' := [(0, .ref m), (1, .int p0), (2, .int p1)]) [0, 1, 2] rfl ?_
  refine aw_aload_n (q := 1) gdX7_takePart_0.1 rfl 0 rfl ?_
  refine aw_iload_n (q := 2) gdX7_takePart_0.2.1 rfl 1 rfl ?_
  refine aw_iconst (q := 3) (v := 0) gdX7_takePart_0.2.2.1 rfl (by decide) ?_
  refine aw_iconst (q := 4) (v := 1) gdX7_takePart_0.2.2.2.1 rfl (by decide) ?_
  refine aw_call (q := 7) (kc1 := 0) (ks1 := 0) (wc := []) (wr := [(m, .inr (9, [.ref Mo, .ref Lo, .ref Do, .ref tl, .ref ca, .int th])), (Do, .inl (4, 2, .inr (.inr (.inr (.inr dd))))), (w, .inl (0, 21, .inl f)), (tl, .inl (0, 6, .inl t))]) (st1 := fun x4 g4 => [.int x4, .ref m]) (ws1 := fun x4 g4 => [(m, .inr (9, [.ref Mo, .ref Lo, .ref Do, .ref tl, .ref ca, .int th])), (Do, .inl (4, 2, .inr (.inr (.inr (.inr dd))))), (w, .inl (0, 21, .inl f)), (tl, .inl (0, 6, .inl t))]) (As := [.int p0, .int (0 : Int32), .int (1 : Int32)]) [] [0, 1, 2, 3] (fun _ => runS gdX7_takePart_0.2.2.2.2.1 mi_X7_isNo st_X7_isNo ml_X7_31 (by omega) rfl (Nat.le_of_ble_eq_true rfl) rfl) (fun x9 h9 => ok_X7_isNo h9) rfl rfl rfl rfl rfl (by decide +kernel) (by omega) (by omega) (fun _ _ => rfl) (fun _ _ => rfl) (fun x4 g4 => ?_)
  refine aw_iload_n (q := 8) gdX7_takePart_0.2.2.2.2.2.1 rfl 2 rfl ?_
  refine aw_iconst (q := 9) (v := 1) gdX7_takePart_0.2.2.2.2.2.2.1 rfl (by decide) ?_
  refine aw_bipush (q := 11) (v := 20) gdX7_takePart_0.2.2.2.2.2.2.2 rfl (by decide) ?_
  refine aw_call (q := 14) (kc1 := 0) (ks1 := 0) (wc := []) (wr := [(m, .inr (9, [.ref Mo, .ref Lo, .ref Do, .ref tl, .ref ca, .int th])), (Do, .inl (4, 2, .inr (.inr (.inr (.inr dd))))), (w, .inl (0, 21, .inl f)), (tl, .inl (0, 6, .inl t))]) (st1 := fun x11 g11 => [.int x11, .int x4, .ref m]) (ws1 := fun x11 g11 => [(m, .inr (9, [.ref Mo, .ref Lo, .ref Do, .ref tl, .ref ca, .int th])), (Do, .inl (4, 2, .inr (.inr (.inr (.inr dd))))), (w, .inl (0, 21, .inl f)), (tl, .inl (0, 6, .inl t))]) (As := [.int p1, .int (1 : Int32), .int (20 : Int32)]) [] [0, 1, 2, 3] (fun _ => runS gdX7_takePart_11.1 mi_X7_isNo st_X7_isNo ml_X7_31 (by omega) rfl (Nat.le_of_ble_eq_true rfl) rfl) (fun x9 h9 => ok_X7_isNo h9) rfl rfl rfl rfl rfl (by decide +kernel) (by omega) (by omega) (fun _ _ => rfl) (fun _ _ => rfl) (fun x11 g11 => ?_)
  refine aw_call (q := 17) (kc1 := 0) (ks1 := 0) (wc := [(m, .inr (9, [.ref Mo, .ref Lo, .ref Do, .ref tl, .ref ca, .int th]))]) (wr := [(Do, .inl (4, 2, .inr (.inr (.inr (.inr dd))))), (w, .inl (0, 21, .inl f)), (tl, .inl (0, 6, .inl t))]) (st1 := fun x14 g14 => [.int x14.1]) (ws1 := fun x14 g14 => [(Do, .inl (4, 2, .inr (.inr (.inr (.inr dd))))), (w, .inl (0, 21, .inl f)), (tl, .inl (0, 6, .inl t)), (m, .inr (9, [.ref Mo, .ref Lo, .ref Do, .ref tl, .ref ca, .int x14.2]))]) (As := [.ref m, .int x4, .int x11]) [0] [1, 2, 3] (fun _ => runV (q0 := 0) gdX7_takePart_11.2.1 mi_X7_isThrown im_X7_isThrown se_X7_isThrown ml_X7_110 (by omega) rfl (Nat.le_of_ble_eq_true rfl) rfl rfl rfl rfl) (fun x9 h9 => ok_X7_isThrown h9) rfl rfl rfl rfl rfl (by decide +kernel) (by omega) (by omega) (fun _ _ => rfl) (fun _ _ => rfl) (fun x14 g14 => ?_)
  refine aw_if_eq (tgt := 22) (q := 20) gdX7_takePart_11.2.2.1 (by decide) rfl (fun h_17 => ?_) (fun h_17 => ?_)
  · refine aw_aload_n (q := 23) gdX7_takePart_11.2.2.2.2.2.1 rfl 0 rfl ?_
    refine aw_get (q := 26) gdX7_takePart_11.2.2.2.2.2.2.1 rfl fl_X7_17 3 rfl rfl ?_
    refine aw_iload_n (q := 27) gdX7_takePart_11.2.2.2.2.2.2.2 rfl 1 rfl ?_
    refine aw_aald (q := 28) gdX7_takePart_27.1 rfl 0 rfl (by decide) rfl hd ?_
    refine aw_iload_n (q := 29) gdX7_takePart_27.2.1 rfl 2 rfl ?_
    refine aw_iald (q := 30) gdX7_takePart_27.2.2.1 rfl 1 rfl ?_
    refine aw_if_ne (tgt := 38) (q := 33) gdX7_takePart_27.2.2.2.1 (by decide) rfl (fun h_30 => ?_) (fun h_30 => ?_)
    · refine aw_aload_n (q := 39) gdX7_takePart_27.2.2.2.2.2.2.2 rfl 0 rfl ?_
      refine aw_get (q := 42) gdX7_takePart_39.1 rfl fl_X7_17 3 rfl rfl ?_
      refine aw_iload_n (q := 43) gdX7_takePart_39.2.1 rfl 1 rfl ?_
      refine aw_aald (q := 44) gdX7_takePart_39.2.2.1 rfl 0 rfl (by decide) rfl hd ?_
      refine aw_iload_n (q := 45) gdX7_takePart_39.2.2.2.1 rfl 2 rfl ?_
      refine aw_dup2 (q := 46) gdX7_takePart_39.2.2.2.2.1 rfl rfl rfl ?_
      refine aw_iald (q := 47) gdX7_takePart_39.2.2.2.2.2.1 rfl 1 rfl ?_
      refine aw_iconst (q := 48) (v := 1) gdX7_takePart_39.2.2.2.2.2.2.1 rfl (by decide) ?_
      refine aw_isub (q := 49) gdX7_takePart_39.2.2.2.2.2.2.2 rfl ?_
      refine aw_iast (q := 50) (ws' := [(Do, .inl (4, 2, .inr (.inr (.inr (.inr dd))))), (w, .inl (0, 21, .inl (upd f p1.toNatClampNeg ((f p1.toNatClampNeg) - (1 : Int32))))), (tl, .inl (0, 6, .inl t)), (m, .inr (9, [.ref Mo, .ref Lo, .ref Do, .ref tl, .ref ca, .int x14.2]))]) gdX7_takePart_49.1 rfl 1 rfl rfl ?_
      refine aw_aload_n (q := 51) gdX7_takePart_49.2.1 rfl 0 rfl ?_
      refine aw_aload_n (q := 52) gdX7_takePart_49.2.2.1 rfl 0 rfl ?_
      refine aw_get (q := 55) gdX7_takePart_49.2.2.2.1 rfl fl_X7_17 3 rfl rfl ?_
      refine aw_iload_n (q := 56) gdX7_takePart_49.2.2.2.2.1 rfl 1 rfl ?_
      refine aw_aald (q := 57) gdX7_takePart_49.2.2.2.2.2.1 rfl 0 rfl (by decide) rfl hd ?_
      refine aw_iload_n (q := 58) gdX7_takePart_49.2.2.2.2.2.2.1 rfl 2 rfl ?_
      refine aw_iald (q := 59) gdX7_takePart_49.2.2.2.2.2.2.2 rfl 1 rfl ?_
      refine aw_call (q := 62) (kc1 := 0) (ks1 := 0) (wc := [(m, .inr (9, [.ref Mo, .ref Lo, .ref Do, .ref tl, .ref ca, .int x14.2])), (tl, .inl (0, 6, .inl t))]) (wr := [(Do, .inl (4, 2, .inr (.inr (.inr (.inr dd))))), (w, .inl (0, 21, .inl (upd f p1.toNatClampNeg ((f p1.toNatClampNeg) - (1 : Int32)))))]) (st1 := fun x59 g59 => [.int x59.1]) (ws1 := fun x59 g59 => [(Do, .inl (4, 2, .inr (.inr (.inr (.inr dd))))), (w, .inl (0, 21, .inl (upd f p1.toNatClampNeg ((f p1.toNatClampNeg) - (1 : Int32))))), (m, .inr (9, [.ref Mo, .ref Lo, .ref Do, .ref tl, .ref ca, .int x14.2])), (tl, .inl (0, 6, .inl x59.2))]) (As := [.ref m, .int ((upd f p1.toNatClampNeg ((f p1.toNatClampNeg) - (1 : Int32))) p1.toNatClampNeg)]) [3, 2] [0, 1] (fun _ => runV (q0 := 3) gdX7_takePart_59.1 mi_X7_done im_X7_done se_X7_done ml_X7_117 (by omega) rfl (Nat.le_of_ble_eq_true rfl) rfl rfl rfl rfl) (fun x9 h9 => ok_X7_done h9) rfl rfl rfl rfl rfl (by decide +kernel) (by omega) (by omega) (fun _ _ => rfl) (fun _ _ => rfl) (fun x59 g59 => ?_)
      exact aw_ireturn (w := [(m, .inr (9, [.ref Mo, .ref Lo, .ref Do, .ref tl, .ref ca, .int x14.2])), (Do, .inl (4, 2, .inr (.inr (.inr (.inr dd))))), (w, .inl (0, 21, .inl (upd f p1.toNatClampNeg ((f p1.toNatClampNeg) - (1 : Int32))))), (tl, .inl (0, 6, .inl x59.2))]) [2, 0, 1, 3] gdX7_takePart_59.2 rfl rfl rfl rfl (PN.mk (fun _ => 0) rfl rfl)
    · refine aw_aload_n (q := 34) gdX7_takePart_27.2.2.2.2.1 rfl 0 rfl ?_
      refine aw_call (q := 37) (kc1 := 0) (ks1 := 0) (wc := [(m, .inr (9, [.ref Mo, .ref Lo, .ref Do, .ref tl, .ref ca, .int x14.2])), (tl, .inl (0, 6, .inl t))]) (wr := [(Do, .inl (4, 2, .inr (.inr (.inr (.inr dd))))), (w, .inl (0, 21, .inl f))]) (st1 := fun x34 g34 => [.int x34.1]) (ws1 := fun x34 g34 => [(Do, .inl (4, 2, .inr (.inr (.inr (.inr dd))))), (w, .inl (0, 21, .inl f)), (m, .inr (9, [.ref Mo, .ref Lo, .ref Do, .ref tl, .ref ca, .int x14.2])), (tl, .inl (0, 6, .inl x34.2))]) (As := [.ref m]) [3, 2] [0, 1] (fun _ => runV (q0 := 3) gdX7_takePart_27.2.2.2.2.2.1 mi_X7_refused im_X7_refused se_X7_refused ml_X7_124 (by omega) rfl (Nat.le_of_ble_eq_true rfl) rfl rfl rfl rfl) (fun x9 h9 => ok_X7_refused h9) rfl rfl rfl rfl rfl (by decide +kernel) (by omega) (by omega) (fun _ _ => rfl) (fun _ _ => rfl) (fun x34 g34 => ?_)
      exact aw_ireturn (w := [(m, .inr (9, [.ref Mo, .ref Lo, .ref Do, .ref tl, .ref ca, .int x14.2])), (Do, .inl (4, 2, .inr (.inr (.inr (.inr dd))))), (w, .inl (0, 21, .inl f)), (tl, .inl (0, 6, .inl x34.2))]) [2, 0, 1, 3] gdX7_takePart_27.2.2.2.2.2.2.1 rfl rfl rfl rfl (PN.mk (fun _ => 0) rfl rfl)
  · refine aw_iconst (q := 21) (v := 0) gdX7_takePart_11.2.2.2.1 rfl (by decide) ?_
    exact aw_ireturn (w := [(m, .inr (9, [.ref Mo, .ref Lo, .ref Do, .ref tl, .ref ca, .int x14.2])), (Do, .inl (4, 2, .inr (.inr (.inr (.inr dd))))), (w, .inl (0, 21, .inl f)), (tl, .inl (0, 6, .inl t))]) [3, 0, 1, 2] gdX7_takePart_11.2.2.2.2.1 rfl rfl rfl rfl (PN.mk (fun _ => 0) rfl rfl)
def fX7_laid_2 (N K : Nat) (th : Int32) (f : Nat → Int32) (g : Nat → Int32) (t : Nat → Int32) (p0 : Int32) : Nat → Int32 → (Nat → Int32) → (Nat → Int32) → Option (Int32 × (Nat → Int32) × (Nat → Int32))
  | 0, _, _, _ => none
  | fu + 1, l3, f_, t_ =>
    (if (20 : Int32) < l3 then ((fX7_parts N K g).bind (fun x27 => ((fX7_done N K th t_ x27).bind (fun x30 => (some (x30.1, f_, x30.2)))))) else (if p0 < 0 ∨ 2 ≤ p0.toNatClampNeg then none else (if l3 < 0 ∨ 21 ≤ l3.toNatClampNeg then none else (if l3 < 0 ∨ 21 ≤ l3.toNatClampNeg then none else fX7_laid_2 N K th f g t p0  fu (l3 + (1 : Int32)) (upd f_ l3.toNatClampNeg (g l3.toNatClampNeg)) t_))))
set_option maxHeartbeats 4000000 in
set_option maxRecDepth 100000 in
theorem tX7_laid_2 {N K : Nat} {m v Mo Lo Do tl ca w : Nat} {dd : Nat → Option Nat} {th : Int32} {f : Nat → Int32} {g : Nat → Int32} {t : Nat → Int32} {p0 : Int32} (hd : ¬ (p0 < 0 ∨ 2 ≤ p0.toNatClampNeg) → dd p0.toNatClampNeg = some w) : ∀ (fu : Nat) (l3 : Int32) (f_ : Nat → Int32) (t_ : Nat → Int32), AW RX7 "laid" cX7_laid 4 (some .int) [] (fun _ _ => True) (1) (PN (U := Int32 × (Nat → Int32) × (Nat → Int32)) (fun zz _ => some (.int zz.1)) (fun zz ad => [(m, .inr (9, [.ref Mo, .ref Lo, .ref Do, .ref tl, .ref ca, .int th])), (Do, .inl (4, 2, .inr (.inr (.inr (.inr dd))))), (w, .inl (0, 21, .inl zz.2.1)), (v, .inl (0, 21, .inl g)), (tl, .inl (0, 6, .inl zz.2.2))])) 0 0 (fX7_laid_2 N K th f g t p0  fu l3 f_ t_) 2 [(0, .ref m), (1, .int p0), (2, .ref v), (3, .int l3)] [] [(m, .inr (9, [.ref Mo, .ref Lo, .ref Do, .ref tl, .ref ca, .int th])), (Do, .inl (4, 2, .inr (.inr (.inr (.inr dd))))), (w, .inl (0, 21, .inl f_)), (v, .inl (0, 21, .inl g)), (tl, .inl (0, 6, .inl t_))] := by
  intro fu
  induction fu with
  | zero => intro l3 f_ t_; exact aw_none
  | succ fu ih =>
    intro l3 f_ t_
    refine aw_iload_n (q := 3) gdX7_laid_0.2.2.1 rfl 3 rfl ?_
    refine aw_bipush (q := 5) (v := 20) gdX7_laid_0.2.2.2.1 rfl (by decide) ?_
    refine aw_icmp_gt (tgt := 25) (q := 8) gdX7_laid_0.2.2.2.2.1 (by decide) rfl (fun h_5 => ?_) (fun h_5 => ?_)
    · refine aw_aload_n (q := 26) gdX7_laid_25.1 rfl 0 rfl ?_
      refine aw_aload_n (q := 27) gdX7_laid_25.2.1 rfl 2 rfl ?_
      refine aw_call (q := 30) (kc1 := 0) (ks1 := 0) (wc := [(v, .inl (0, 21, .inl g))]) (wr := [(m, .inr (9, [.ref Mo, .ref Lo, .ref Do, .ref tl, .ref ca, .int th])), (Do, .inl (4, 2, .inr (.inr (.inr (.inr dd))))), (w, .inl (0, 21, .inl f_)), (tl, .inl (0, 6, .inl t_))]) (st1 := fun x27 g27 => [.int x27, .ref m]) (ws1 := fun x27 g27 => [(m, .inr (9, [.ref Mo, .ref Lo, .ref Do, .ref tl, .ref ca, .int th])), (Do, .inl (4, 2, .inr (.inr (.inr (.inr dd))))), (w, .inl (0, 21, .inl f_)), (tl, .inl (0, 6, .inl t_)), (v, .inl (0, 21, .inl g))]) (As := [.ref v]) [3] [0, 1, 2, 4] (fun _ => runS gdX7_laid_25.2.2.1 mi_X7_parts st_X7_parts ml_X7_72 (by omega) rfl (Nat.le_of_ble_eq_true rfl) rfl) (fun x9 h9 => ok_X7_parts h9) rfl rfl rfl rfl rfl (by decide +kernel) (by omega) (by omega) (fun _ _ => rfl) (fun _ _ => rfl) (fun x27 g27 => ?_)
      refine aw_call (q := 33) (kc1 := 0) (ks1 := 0) (wc := [(m, .inr (9, [.ref Mo, .ref Lo, .ref Do, .ref tl, .ref ca, .int th])), (tl, .inl (0, 6, .inl t_))]) (wr := [(Do, .inl (4, 2, .inr (.inr (.inr (.inr dd))))), (w, .inl (0, 21, .inl f_)), (v, .inl (0, 21, .inl g))]) (st1 := fun x30 g30 => [.int x30.1]) (ws1 := fun x30 g30 => [(Do, .inl (4, 2, .inr (.inr (.inr (.inr dd))))), (w, .inl (0, 21, .inl f_)), (v, .inl (0, 21, .inl g)), (m, .inr (9, [.ref Mo, .ref Lo, .ref Do, .ref tl, .ref ca, .int th])), (tl, .inl (0, 6, .inl x30.2))]) (As := [.ref m, .int x27]) [0, 3] [1, 2, 4] (fun _ => runV (q0 := 0) gdX7_laid_25.2.2.2.1 mi_X7_done im_X7_done se_X7_done ml_X7_117 (by omega) rfl (Nat.le_of_ble_eq_true rfl) rfl rfl rfl rfl) (fun x9 h9 => ok_X7_done h9) rfl rfl rfl rfl rfl (by decide +kernel) (by omega) (by omega) (fun _ _ => rfl) (fun _ _ => rfl) (fun x30 g30 => ?_)
      exact aw_ireturn (w := [(m, .inr (9, [.ref Mo, .ref Lo, .ref Do, .ref tl, .ref ca, .int th])), (Do, .inl (4, 2, .inr (.inr (.inr (.inr dd))))), (w, .inl (0, 21, .inl f_)), (v, .inl (0, 21, .inl g)), (tl, .inl (0, 6, .inl x30.2))]) [3, 0, 1, 2, 4] gdX7_laid_25.2.2.2.2 rfl rfl rfl rfl (PN.mk (fun _ => 0) rfl rfl)
    · refine aw_aload_n (q := 9) gdX7_laid_0.2.2.2.2.2.1 rfl 0 rfl ?_
      refine aw_get (q := 12) gdX7_laid_0.2.2.2.2.2.2.1 rfl fl_X7_17 0 rfl rfl ?_
      refine aw_iload_n (q := 13) gdX7_laid_0.2.2.2.2.2.2.2 rfl 1 rfl ?_
      refine aw_aald (q := 14) gdX7_laid_13.1 rfl 1 rfl (by decide) rfl hd ?_
      refine aw_iload_n (q := 15) gdX7_laid_13.2.1 rfl 3 rfl ?_
      refine aw_aload_n (q := 16) gdX7_laid_13.2.2.1 rfl 2 rfl ?_
      refine aw_iload_n (q := 17) gdX7_laid_13.2.2.2.1 rfl 3 rfl ?_
      refine aw_iald (q := 18) gdX7_laid_13.2.2.2.2.1 rfl 3 rfl ?_
      refine aw_iast (q := 19) (ws' := [(m, .inr (9, [.ref Mo, .ref Lo, .ref Do, .ref tl, .ref ca, .int th])), (Do, .inl (4, 2, .inr (.inr (.inr (.inr dd))))), (w, .inl (0, 21, .inl (upd f_ l3.toNatClampNeg (g l3.toNatClampNeg)))), (v, .inl (0, 21, .inl g)), (tl, .inl (0, 6, .inl t_))]) gdX7_laid_13.2.2.2.2.2.1 rfl 2 rfl rfl ?_
      refine aw_iinc (q := 22) (v := (l3 + (1 : Int32))) (lv' := [(3, .int (l3 + (1 : Int32))), (0, .ref m), (1, .int p0), (2, .ref v)]) gdX7_laid_13.2.2.2.2.2.2.1 rfl 3 rfl rfl (by decide) rfl ?_
      refine aw_goto (tgt := 2) gdX7_laid_13.2.2.2.2.2.2.2 (by decide) ?_
      refine aw_locals (lv' := [(0, .ref m), (1, .int p0), (2, .ref v), (3, .int (l3 + (1 : Int32)))]) [1, 2, 3, 0] rfl ?_
      exact ih _ _ _
def fX7_laid (N K : Nat) (th : Int32) (f : Nat → Int32) (g : Nat → Int32) (t : Nat → Int32) (p0 : Int32) : Option (Int32 × (Nat → Int32) × (Nat → Int32)) :=
  fX7_laid_2 N K th f g t p0  N (0 : Int32) f t
set_option maxHeartbeats 4000000 in
set_option maxRecDepth 100000 in
theorem ok_X7_laid {N K : Nat} {m v Mo Lo Do tl ca w : Nat} {dd : Nat → Option Nat} {th : Int32} {f : Nat → Int32} {g : Nat → Int32} {t : Nat → Int32} {p0 : Int32} (hd : ¬ (p0 < 0 ∨ 2 ≤ p0.toNatClampNeg) → dd p0.toNatClampNeg = some w) {xr : Int32 × (Nat → Int32) × (Nat → Int32)} (hE : fX7_laid N K th f g t p0 = some xr) : OkM yX7_laid (.code yX7_laid cX7_laid 4 (some .int)) (1) 0 0 [.ref m, .int p0, .ref v] [(m, .inr (9, [.ref Mo, .ref Lo, .ref Do, .ref tl, .ref ca, .int th])), (Do, .inl (4, 2, .inr (.inr (.inr (.inr dd))))), (w, .inl (0, 21, .inl f)), (v, .inl (0, 21, .inl g)), (tl, .inl (0, 6, .inl t))] ((PN (U := Int32 × (Nat → Int32) × (Nat → Int32)) (fun zz _ => some (.int zz.1)) (fun zz ad => [(m, .inr (9, [.ref Mo, .ref Lo, .ref Do, .ref tl, .ref ca, .int th])), (Do, .inl (4, 2, .inr (.inr (.inr (.inr dd))))), (w, .inl (0, 21, .inl zz.2.1)), (v, .inl (0, 21, .inl g)), (tl, .inl (0, 6, .inl zz.2.2))])) xr) := by
  refine ok_of (by decide) (Nat.le_of_ble_eq_true rfl) hE ?_
  refine aw_locals (lv' := [(0, .ref m), (1, .int p0), (2, .ref v)]) [0, 1, 2] rfl ?_
  refine aw_iconst (q := 1) (v := 0) gdX7_laid_0.1 rfl (by decide) ?_
  refine aw_istore_n (q := 2) (lv' := [(3, .int (0 : Int32)), (0, .ref m), (1, .int p0), (2, .ref v)]) gdX7_laid_0.2.1 rfl (by decide) rfl ?_
  refine aw_locals (lv' := [(0, .ref m), (1, .int p0), (2, .ref v), (3, .int (0 : Int32))]) [1, 2, 3, 0] rfl ?_
  exact tX7_laid_2 hd N _ _ _
def fX7_layFirst (N K : Nat) (th : Int32) (f : Nat → Int32) (t : Nat → Int32) (p0 : Int32) (p1 : Int32) : Option (Int32 × Int32 × (Nat → Int32) × (Nat → Int32)) :=
  ((fX7_isNo N K p0 (0 : Int32) (1 : Int32)).bind (fun x4 => ((fX7_isNo N K p1 (0 : Int32) (20 : Int32)).bind (fun x11 => ((fX7_isThrown N K th x4 x11).bind (fun x14 => (if x14.1 = 0 then ((fX7_firstWay N K p1).bind (fun x27 => ((fX7_laid N K x14.2 f x27 t p0).bind (fun x30 => (some (x30.1, x14.2, x30.2.1, x30.2.2)))))) else (some ((0 : Int32), x14.2, f, t)))))))))
set_option maxHeartbeats 4000000 in
set_option maxRecDepth 100000 in
theorem ok_X7_layFirst {N K : Nat} {m Mo Lo Do tl ca w : Nat} {dd : Nat → Option Nat} {th : Int32} {f : Nat → Int32} {t : Nat → Int32} {p0 : Int32} {p1 : Int32} (hd : ¬ (p0 < 0 ∨ 2 ≤ p0.toNatClampNeg) → dd p0.toNatClampNeg = some w) {xr : Int32 × Int32 × (Nat → Int32) × (Nat → Int32)} (hE : fX7_layFirst N K th f t p0 p1 = some xr) : OkM yX7_layFirst (.code yX7_layFirst cX7_layFirst 3 (some .int)) (2) 1 21 [.ref m, .int p0, .int p1] [(m, .inr (9, [.ref Mo, .ref Lo, .ref Do, .ref tl, .ref ca, .int th])), (Do, .inl (4, 2, .inr (.inr (.inr (.inr dd))))), (w, .inl (0, 21, .inl f)), (tl, .inl (0, 6, .inl t))] ((PN (U := Int32 × Int32 × (Nat → Int32) × (Nat → Int32)) (fun zz _ => some (.int zz.1)) (fun zz ad => [(m, .inr (9, [.ref Mo, .ref Lo, .ref Do, .ref tl, .ref ca, .int zz.2.1])), (Do, .inl (4, 2, .inr (.inr (.inr (.inr dd))))), (w, .inl (0, 21, .inl zz.2.2.1)), (tl, .inl (0, 6, .inl zz.2.2.2))])) xr) := by
  refine ok_of (by decide) (Nat.le_of_ble_eq_true rfl) hE ?_
  refine aw_locals (lv' := [(0, .ref m), (1, .int p0), (2, .int p1)]) [0, 1, 2] rfl ?_
  refine aw_aload_n (q := 1) gdX7_layFirst_0.1 rfl 0 rfl ?_
  refine aw_iload_n (q := 2) gdX7_layFirst_0.2.1 rfl 1 rfl ?_
  refine aw_iconst (q := 3) (v := 0) gdX7_layFirst_0.2.2.1 rfl (by decide) ?_
  refine aw_iconst (q := 4) (v := 1) gdX7_layFirst_0.2.2.2.1 rfl (by decide) ?_
  refine aw_call (q := 7) (kc1 := 1) (ks1 := 21) (wc := []) (wr := [(m, .inr (9, [.ref Mo, .ref Lo, .ref Do, .ref tl, .ref ca, .int th])), (Do, .inl (4, 2, .inr (.inr (.inr (.inr dd))))), (w, .inl (0, 21, .inl f)), (tl, .inl (0, 6, .inl t))]) (st1 := fun x4 g4 => [.int x4, .ref m]) (ws1 := fun x4 g4 => [(m, .inr (9, [.ref Mo, .ref Lo, .ref Do, .ref tl, .ref ca, .int th])), (Do, .inl (4, 2, .inr (.inr (.inr (.inr dd))))), (w, .inl (0, 21, .inl f)), (tl, .inl (0, 6, .inl t))]) (As := [.int p0, .int (0 : Int32), .int (1 : Int32)]) [] [0, 1, 2, 3] (fun _ => runS gdX7_layFirst_0.2.2.2.2.1 mi_X7_isNo st_X7_isNo ml_X7_31 (by omega) rfl (Nat.le_of_ble_eq_true rfl) rfl) (fun x9 h9 => ok_X7_isNo h9) rfl rfl rfl rfl rfl (by decide +kernel) (by omega) (by omega) (fun _ _ => rfl) (fun _ _ => rfl) (fun x4 g4 => ?_)
  refine aw_iload_n (q := 8) gdX7_layFirst_0.2.2.2.2.2.1 rfl 2 rfl ?_
  refine aw_iconst (q := 9) (v := 0) gdX7_layFirst_0.2.2.2.2.2.2.1 rfl (by decide) ?_
  refine aw_bipush (q := 11) (v := 20) gdX7_layFirst_0.2.2.2.2.2.2.2 rfl (by decide) ?_
  refine aw_call (q := 14) (kc1 := 1) (ks1 := 21) (wc := []) (wr := [(m, .inr (9, [.ref Mo, .ref Lo, .ref Do, .ref tl, .ref ca, .int th])), (Do, .inl (4, 2, .inr (.inr (.inr (.inr dd))))), (w, .inl (0, 21, .inl f)), (tl, .inl (0, 6, .inl t))]) (st1 := fun x11 g11 => [.int x11, .int x4, .ref m]) (ws1 := fun x11 g11 => [(m, .inr (9, [.ref Mo, .ref Lo, .ref Do, .ref tl, .ref ca, .int th])), (Do, .inl (4, 2, .inr (.inr (.inr (.inr dd))))), (w, .inl (0, 21, .inl f)), (tl, .inl (0, 6, .inl t))]) (As := [.int p1, .int (0 : Int32), .int (20 : Int32)]) [] [0, 1, 2, 3] (fun _ => runS gdX7_layFirst_11.1 mi_X7_isNo st_X7_isNo ml_X7_31 (by omega) rfl (Nat.le_of_ble_eq_true rfl) rfl) (fun x9 h9 => ok_X7_isNo h9) rfl rfl rfl rfl rfl (by decide +kernel) (by omega) (by omega) (fun _ _ => rfl) (fun _ _ => rfl) (fun x11 g11 => ?_)
  refine aw_call (q := 17) (kc1 := 1) (ks1 := 21) (wc := [(m, .inr (9, [.ref Mo, .ref Lo, .ref Do, .ref tl, .ref ca, .int th]))]) (wr := [(Do, .inl (4, 2, .inr (.inr (.inr (.inr dd))))), (w, .inl (0, 21, .inl f)), (tl, .inl (0, 6, .inl t))]) (st1 := fun x14 g14 => [.int x14.1]) (ws1 := fun x14 g14 => [(Do, .inl (4, 2, .inr (.inr (.inr (.inr dd))))), (w, .inl (0, 21, .inl f)), (tl, .inl (0, 6, .inl t)), (m, .inr (9, [.ref Mo, .ref Lo, .ref Do, .ref tl, .ref ca, .int x14.2]))]) (As := [.ref m, .int x4, .int x11]) [0] [1, 2, 3] (fun _ => runV (q0 := 0) gdX7_layFirst_11.2.1 mi_X7_isThrown im_X7_isThrown se_X7_isThrown ml_X7_110 (by omega) rfl (Nat.le_of_ble_eq_true rfl) rfl rfl rfl rfl) (fun x9 h9 => ok_X7_isThrown h9) rfl rfl rfl rfl rfl (by decide +kernel) (by omega) (by omega) (fun _ _ => rfl) (fun _ _ => rfl) (fun x14 g14 => ?_)
  refine aw_if_eq (tgt := 24) (q := 20) gdX7_layFirst_11.2.2.1 (by decide) rfl (fun h_17 => ?_) (fun h_17 => ?_)
  · refine aw_aload_n (q := 25) gdX7_layFirst_11.2.2.2.2.2.1 rfl 0 rfl ?_
    refine aw_iload_n (q := 26) gdX7_layFirst_11.2.2.2.2.2.2.1 rfl 1 rfl ?_
    refine aw_iload_n (q := 27) gdX7_layFirst_11.2.2.2.2.2.2.2 rfl 2 rfl ?_
    refine aw_call (q := 30) (kc1 := 0) (ks1 := 0) (wc := []) (wr := [(Do, .inl (4, 2, .inr (.inr (.inr (.inr dd))))), (w, .inl (0, 21, .inl f)), (tl, .inl (0, 6, .inl t)), (m, .inr (9, [.ref Mo, .ref Lo, .ref Do, .ref tl, .ref ca, .int x14.2]))]) (st1 := fun x27 g27 => [.ref (g27 0), .int p0, .ref m]) (ws1 := fun x27 g27 => [(Do, .inl (4, 2, .inr (.inr (.inr (.inr dd))))), (w, .inl (0, 21, .inl f)), (tl, .inl (0, 6, .inl t)), (m, .inr (9, [.ref Mo, .ref Lo, .ref Do, .ref tl, .ref ca, .int x14.2])), ((g27 0), .inl (0, 21, .inl x27))]) (As := [.int p1]) [] [0, 1, 2, 3] (fun _ => runS gdX7_layFirst_27.1 mi_X7_firstWay st_X7_firstWay ml_X7_96 (by omega) rfl (Nat.le_of_ble_eq_true rfl) rfl) (fun x9 h9 => ok_X7_firstWay h9) rfl rfl rfl rfl rfl (by decide +kernel) (by omega) (by omega) (fun _ _ => rfl) (fun _ _ => rfl) (fun x27 g27 => ?_)
    refine aw_call (q := 33) (kc1 := 0) (ks1 := 0) (wc := [(m, .inr (9, [.ref Mo, .ref Lo, .ref Do, .ref tl, .ref ca, .int x14.2])), (Do, .inl (4, 2, .inr (.inr (.inr (.inr dd))))), (w, .inl (0, 21, .inl f)), ((g27 0), .inl (0, 21, .inl x27)), (tl, .inl (0, 6, .inl t))]) (wr := []) (st1 := fun x30 g30 => [.int x30.1]) (ws1 := fun x30 g30 => [(m, .inr (9, [.ref Mo, .ref Lo, .ref Do, .ref tl, .ref ca, .int x14.2])), (Do, .inl (4, 2, .inr (.inr (.inr (.inr dd))))), (w, .inl (0, 21, .inl x30.2.1)), ((g27 0), .inl (0, 21, .inl x27)), (tl, .inl (0, 6, .inl x30.2.2))]) (As := [.ref m, .int p0, .ref (g27 0)]) [3, 0, 1, 4, 2] [] (fun _ => runV (q0 := 3) gdX7_layFirst_27.2.1 mi_X7_laid im_X7_laid se_X7_laid ml_X7_165 (by omega) rfl (Nat.le_of_ble_eq_true rfl) rfl rfl rfl rfl) (fun x9 h9 => ok_X7_laid hd h9) rfl rfl rfl rfl rfl (by decide +kernel) (by omega) (by omega) (fun _ _ => rfl) (fun _ _ => rfl) (fun x30 g30 => ?_)
    exact aw_ireturn (w := [(m, .inr (9, [.ref Mo, .ref Lo, .ref Do, .ref tl, .ref ca, .int x14.2])), (Do, .inl (4, 2, .inr (.inr (.inr (.inr dd))))), (w, .inl (0, 21, .inl x30.2.1)), (tl, .inl (0, 6, .inl x30.2.2))]) [0, 1, 2, 4] gdX7_layFirst_27.2.2 rfl rfl rfl rfl (PN.mk (fun _ => 0) rfl rfl)
  · refine aw_iconst (q := 21) (v := 0) gdX7_layFirst_11.2.2.2.1 rfl (by decide) ?_
    refine aw_goto (tgt := 33) gdX7_layFirst_11.2.2.2.2.1 (by decide) ?_
    exact aw_ireturn (w := [(m, .inr (9, [.ref Mo, .ref Lo, .ref Do, .ref tl, .ref ca, .int x14.2])), (Do, .inl (4, 2, .inr (.inr (.inr (.inr dd))))), (w, .inl (0, 21, .inl f)), (tl, .inl (0, 6, .inl t))]) [3, 0, 1, 2] gdX7_layFirst_27.2.2 rfl rfl rfl rfl (PN.mk (fun _ => 0) rfl rfl)
def fX7_next (N K : Nat) (th : Int32) (f : Nat → Int32) (t : Nat → Int32) (p0 : Int32) : Option (Int32 × Int32 × (Nat → Int32) × (Nat → Int32)) :=
  ((fX7_isNo N K p0 (0 : Int32) (1 : Int32)).bind (fun x4 => ((fX7_isThrown N K th x4 (0 : Int32)).bind (fun x8 => (if x8.1 = 0 then (if p0 < 0 ∨ 2 ≤ p0.toNatClampNeg then none else ((fX7_isNext N K f).bind (fun x22 => (if x22.1 = 0 then ((fX7_refused N K x8.2 t).bind (fun x45 => (some (x45.1, x8.2, x22.2, x45.2)))) else (if p0 < 0 ∨ 2 ≤ p0.toNatClampNeg then none else ((fX7_parts N K x22.2).bind (fun x35 => ((fX7_done N K x8.2 t x35).bind (fun x38 => (some (x38.1, x8.2, x22.2, x38.2))))))))))) else (some ((0 : Int32), x8.2, f, t)))))))
set_option maxHeartbeats 4000000 in
set_option maxRecDepth 100000 in
theorem ok_X7_next {N K : Nat} {m Mo Lo Do tl ca w : Nat} {dd : Nat → Option Nat} {th : Int32} {f : Nat → Int32} {t : Nat → Int32} {p0 : Int32} (hd : ¬ (p0 < 0 ∨ 2 ≤ p0.toNatClampNeg) → dd p0.toNatClampNeg = some w) {xr : Int32 × Int32 × (Nat → Int32) × (Nat → Int32)} (hE : fX7_next N K th f t p0 = some xr) : OkM yX7_next (.code yX7_next cX7_next 2 (some .int)) (1) 0 0 [.ref m, .int p0] [(m, .inr (9, [.ref Mo, .ref Lo, .ref Do, .ref tl, .ref ca, .int th])), (Do, .inl (4, 2, .inr (.inr (.inr (.inr dd))))), (w, .inl (0, 21, .inl f)), (tl, .inl (0, 6, .inl t))] ((PN (U := Int32 × Int32 × (Nat → Int32) × (Nat → Int32)) (fun zz _ => some (.int zz.1)) (fun zz ad => [(m, .inr (9, [.ref Mo, .ref Lo, .ref Do, .ref tl, .ref ca, .int zz.2.1])), (Do, .inl (4, 2, .inr (.inr (.inr (.inr dd))))), (w, .inl (0, 21, .inl zz.2.2.1)), (tl, .inl (0, 6, .inl zz.2.2.2))])) xr) := by
  refine ok_of (by decide) (Nat.le_of_ble_eq_true rfl) hE ?_
  refine aw_locals (lv' := [(0, .ref m), (1, .int p0)]) [0, 1] rfl ?_
  refine aw_aload_n (q := 1) gdX7_next_0.1 rfl 0 rfl ?_
  refine aw_iload_n (q := 2) gdX7_next_0.2.1 rfl 1 rfl ?_
  refine aw_iconst (q := 3) (v := 0) gdX7_next_0.2.2.1 rfl (by decide) ?_
  refine aw_iconst (q := 4) (v := 1) gdX7_next_0.2.2.2.1 rfl (by decide) ?_
  refine aw_call (q := 7) (kc1 := 0) (ks1 := 0) (wc := []) (wr := [(m, .inr (9, [.ref Mo, .ref Lo, .ref Do, .ref tl, .ref ca, .int th])), (Do, .inl (4, 2, .inr (.inr (.inr (.inr dd))))), (w, .inl (0, 21, .inl f)), (tl, .inl (0, 6, .inl t))]) (st1 := fun x4 g4 => [.int x4, .ref m]) (ws1 := fun x4 g4 => [(m, .inr (9, [.ref Mo, .ref Lo, .ref Do, .ref tl, .ref ca, .int th])), (Do, .inl (4, 2, .inr (.inr (.inr (.inr dd))))), (w, .inl (0, 21, .inl f)), (tl, .inl (0, 6, .inl t))]) (As := [.int p0, .int (0 : Int32), .int (1 : Int32)]) [] [0, 1, 2, 3] (fun _ => runS gdX7_next_0.2.2.2.2.1 mi_X7_isNo st_X7_isNo ml_X7_31 (by omega) rfl (Nat.le_of_ble_eq_true rfl) rfl) (fun x9 h9 => ok_X7_isNo h9) rfl rfl rfl rfl rfl (by decide +kernel) (by omega) (by omega) (fun _ _ => rfl) (fun _ _ => rfl) (fun x4 g4 => ?_)
  refine aw_iconst (q := 8) (v := 0) gdX7_next_0.2.2.2.2.2.1 rfl (by decide) ?_
  refine aw_call (q := 11) (kc1 := 0) (ks1 := 0) (wc := [(m, .inr (9, [.ref Mo, .ref Lo, .ref Do, .ref tl, .ref ca, .int th]))]) (wr := [(Do, .inl (4, 2, .inr (.inr (.inr (.inr dd))))), (w, .inl (0, 21, .inl f)), (tl, .inl (0, 6, .inl t))]) (st1 := fun x8 g8 => [.int x8.1]) (ws1 := fun x8 g8 => [(Do, .inl (4, 2, .inr (.inr (.inr (.inr dd))))), (w, .inl (0, 21, .inl f)), (tl, .inl (0, 6, .inl t)), (m, .inr (9, [.ref Mo, .ref Lo, .ref Do, .ref tl, .ref ca, .int x8.2]))]) (As := [.ref m, .int x4, .int (0 : Int32)]) [0] [1, 2, 3] (fun _ => runV (q0 := 0) gdX7_next_0.2.2.2.2.2.2.1 mi_X7_isThrown im_X7_isThrown se_X7_isThrown ml_X7_110 (by omega) rfl (Nat.le_of_ble_eq_true rfl) rfl rfl rfl rfl) (fun x9 h9 => ok_X7_isThrown h9) rfl rfl rfl rfl rfl (by decide +kernel) (by omega) (by omega) (fun _ _ => rfl) (fun _ _ => rfl) (fun x8 g8 => ?_)
  refine aw_if_eq (tgt := 16) (q := 14) gdX7_next_0.2.2.2.2.2.2.2 (by decide) rfl (fun h_11 => ?_) (fun h_11 => ?_)
  · refine aw_aload_n (q := 17) gdX7_next_14.2.2.1 rfl 0 rfl ?_
    refine aw_get (q := 20) gdX7_next_14.2.2.2.1 rfl fl_X7_17 3 rfl rfl ?_
    refine aw_iload_n (q := 21) gdX7_next_14.2.2.2.2.1 rfl 1 rfl ?_
    refine aw_aald (q := 22) gdX7_next_14.2.2.2.2.2.1 rfl 0 rfl (by decide) rfl hd ?_
    refine aw_call (q := 25) (kc1 := 0) (ks1 := 0) (wc := [(w, .inl (0, 21, .inl f))]) (wr := [(Do, .inl (4, 2, .inr (.inr (.inr (.inr dd))))), (tl, .inl (0, 6, .inl t)), (m, .inr (9, [.ref Mo, .ref Lo, .ref Do, .ref tl, .ref ca, .int x8.2]))]) (st1 := fun x22 g22 => [.int x22.1]) (ws1 := fun x22 g22 => [(Do, .inl (4, 2, .inr (.inr (.inr (.inr dd))))), (tl, .inl (0, 6, .inl t)), (m, .inr (9, [.ref Mo, .ref Lo, .ref Do, .ref tl, .ref ca, .int x8.2])), (w, .inl (0, 21, .inl x22.2))]) (As := [.ref w]) [1] [0, 2, 3] (fun _ => runS gdX7_next_14.2.2.2.2.2.2.1 mi_X7_isNext st_X7_isNext ml_X7_104 (by omega) rfl (Nat.le_of_ble_eq_true rfl) rfl) (fun x9 h9 => ok_X7_isNext h9) rfl rfl rfl rfl rfl (by decide +kernel) (by omega) (by omega) (fun _ _ => rfl) (fun _ _ => rfl) (fun x22 g22 => ?_)
    refine aw_if_eq (tgt := 44) (q := 28) gdX7_next_14.2.2.2.2.2.2.2 (by decide) rfl (fun h_25 => ?_) (fun h_25 => ?_)
    · refine aw_aload_n (q := 45) gdX7_next_44.1 rfl 0 rfl ?_
      refine aw_call (q := 48) (kc1 := 0) (ks1 := 0) (wc := [(m, .inr (9, [.ref Mo, .ref Lo, .ref Do, .ref tl, .ref ca, .int x8.2])), (tl, .inl (0, 6, .inl t))]) (wr := [(Do, .inl (4, 2, .inr (.inr (.inr (.inr dd))))), (w, .inl (0, 21, .inl x22.2))]) (st1 := fun x45 g45 => [.int x45.1]) (ws1 := fun x45 g45 => [(Do, .inl (4, 2, .inr (.inr (.inr (.inr dd))))), (w, .inl (0, 21, .inl x22.2)), (m, .inr (9, [.ref Mo, .ref Lo, .ref Do, .ref tl, .ref ca, .int x8.2])), (tl, .inl (0, 6, .inl x45.2))]) (As := [.ref m]) [2, 1] [0, 3] (fun _ => runV (q0 := 2) gdX7_next_44.2.1 mi_X7_refused im_X7_refused se_X7_refused ml_X7_124 (by omega) rfl (Nat.le_of_ble_eq_true rfl) rfl rfl rfl rfl) (fun x9 h9 => ok_X7_refused h9) rfl rfl rfl rfl rfl (by decide +kernel) (by omega) (by omega) (fun _ _ => rfl) (fun _ _ => rfl) (fun x45 g45 => ?_)
      exact aw_ireturn (w := [(m, .inr (9, [.ref Mo, .ref Lo, .ref Do, .ref tl, .ref ca, .int x8.2])), (Do, .inl (4, 2, .inr (.inr (.inr (.inr dd))))), (w, .inl (0, 21, .inl x22.2)), (tl, .inl (0, 6, .inl x45.2))]) [2, 0, 1, 3] gdX7_next_44.2.2 rfl rfl rfl rfl (PN.mk (fun _ => 0) rfl rfl)
    · refine aw_aload_n (q := 29) gdX7_next_28.1 rfl 0 rfl ?_
      refine aw_aload_n (q := 30) gdX7_next_28.2.1 rfl 0 rfl ?_
      refine aw_get (q := 33) gdX7_next_28.2.2.1 rfl fl_X7_17 2 rfl rfl ?_
      refine aw_iload_n (q := 34) gdX7_next_28.2.2.2.1 rfl 1 rfl ?_
      refine aw_aald (q := 35) gdX7_next_28.2.2.2.2.1 rfl 0 rfl (by decide) rfl hd ?_
      refine aw_call (q := 38) (kc1 := 0) (ks1 := 0) (wc := [(w, .inl (0, 21, .inl x22.2))]) (wr := [(Do, .inl (4, 2, .inr (.inr (.inr (.inr dd))))), (tl, .inl (0, 6, .inl t)), (m, .inr (9, [.ref Mo, .ref Lo, .ref Do, .ref tl, .ref ca, .int x8.2]))]) (st1 := fun x35 g35 => [.int x35, .ref m]) (ws1 := fun x35 g35 => [(Do, .inl (4, 2, .inr (.inr (.inr (.inr dd))))), (tl, .inl (0, 6, .inl t)), (m, .inr (9, [.ref Mo, .ref Lo, .ref Do, .ref tl, .ref ca, .int x8.2])), (w, .inl (0, 21, .inl x22.2))]) (As := [.ref w]) [3] [0, 1, 2] (fun _ => runS gdX7_next_28.2.2.2.2.2.1 mi_X7_parts st_X7_parts ml_X7_72 (by omega) rfl (Nat.le_of_ble_eq_true rfl) rfl) (fun x9 h9 => ok_X7_parts h9) rfl rfl rfl rfl rfl (by decide +kernel) (by omega) (by omega) (fun _ _ => rfl) (fun _ _ => rfl) (fun x35 g35 => ?_)
      refine aw_call (q := 41) (kc1 := 0) (ks1 := 0) (wc := [(m, .inr (9, [.ref Mo, .ref Lo, .ref Do, .ref tl, .ref ca, .int x8.2])), (tl, .inl (0, 6, .inl t))]) (wr := [(Do, .inl (4, 2, .inr (.inr (.inr (.inr dd))))), (w, .inl (0, 21, .inl x22.2))]) (st1 := fun x38 g38 => [.int x38.1]) (ws1 := fun x38 g38 => [(Do, .inl (4, 2, .inr (.inr (.inr (.inr dd))))), (w, .inl (0, 21, .inl x22.2)), (m, .inr (9, [.ref Mo, .ref Lo, .ref Do, .ref tl, .ref ca, .int x8.2])), (tl, .inl (0, 6, .inl x38.2))]) (As := [.ref m, .int x35]) [2, 1] [0, 3] (fun _ => runV (q0 := 2) gdX7_next_28.2.2.2.2.2.2.1 mi_X7_done im_X7_done se_X7_done ml_X7_117 (by omega) rfl (Nat.le_of_ble_eq_true rfl) rfl rfl rfl rfl) (fun x9 h9 => ok_X7_done h9) rfl rfl rfl rfl rfl (by decide +kernel) (by omega) (by omega) (fun _ _ => rfl) (fun _ _ => rfl) (fun x38 g38 => ?_)
      refine aw_goto (tgt := 48) gdX7_next_28.2.2.2.2.2.2.2 (by decide) ?_
      exact aw_ireturn (w := [(m, .inr (9, [.ref Mo, .ref Lo, .ref Do, .ref tl, .ref ca, .int x8.2])), (Do, .inl (4, 2, .inr (.inr (.inr (.inr dd))))), (w, .inl (0, 21, .inl x22.2)), (tl, .inl (0, 6, .inl x38.2))]) [2, 0, 1, 3] gdX7_next_44.2.2 rfl rfl rfl rfl (PN.mk (fun _ => 0) rfl rfl)
  · refine aw_iconst (q := 15) (v := 0) gdX7_next_14.1 rfl (by decide) ?_
    exact aw_ireturn (w := [(m, .inr (9, [.ref Mo, .ref Lo, .ref Do, .ref tl, .ref ca, .int x8.2])), (Do, .inl (4, 2, .inr (.inr (.inr (.inr dd))))), (w, .inl (0, 21, .inl f)), (tl, .inl (0, 6, .inl t))]) [3, 0, 1, 2] gdX7_next_14.2.1 rfl rfl rfl rfl (PN.mk (fun _ => 0) rfl rfl)
def fX7_turn_44 (N K : Nat) (th : Int32) (f : Nat → Int32) (t : Nat → Int32) (p0 : Int32) (s0 : Int32) (th_ : Int32) (f_ : Nat → Int32) (t_ : Nat → Int32) (e_v0 : Nat → Int32) : Option (Int32 × Int32 × (Nat → Int32) × (Nat → Int32)) :=
  ((fX7_laid N K th_ f_ e_v0 t_ p0).bind (fun x48 => ((fX7_bit N K s0).bind (fun x53 => (some (x53, th_, x48.2.1, x48.2.2))))))
set_option maxHeartbeats 4000000 in
set_option maxRecDepth 100000 in
theorem tX7_turn_44 {N K : Nat} {m Mo Lo Do tl ca w : Nat} {dd : Nat → Option Nat} {th : Int32} {f : Nat → Int32} {t : Nat → Int32} {p0 : Int32} (hd : ¬ (p0 < 0 ∨ 2 ≤ p0.toNatClampNeg) → dd p0.toNatClampNeg = some w) : ∀ (s0 : Int32) (th_ : Int32) (f_ : Nat → Int32) (t_ : Nat → Int32) (e_v0 : Nat → Int32) (v0 : Nat), AW RX7 "turn" cX7_turn 4 (some .int) [] (fun _ _ => True) (2) (PN (U := Int32 × Int32 × (Nat → Int32) × (Nat → Int32)) (fun zz _ => some (.int zz.1)) (fun zz ad => [(m, .inr (9, [.ref Mo, .ref Lo, .ref Do, .ref tl, .ref ca, .int zz.2.1])), (Do, .inl (4, 2, .inr (.inr (.inr (.inr dd))))), (w, .inl (0, 21, .inl zz.2.2.1)), (tl, .inl (0, 6, .inl zz.2.2.2))])) 0 0 (fX7_turn_44 N K th f t p0  s0 th_ f_ t_ e_v0) 44 [(0, .ref m), (1, .int p0), (2, .ref v0)] [.int s0] [(m, .inr (9, [.ref Mo, .ref Lo, .ref Do, .ref tl, .ref ca, .int th_])), (Do, .inl (4, 2, .inr (.inr (.inr (.inr dd))))), (w, .inl (0, 21, .inl f_)), (tl, .inl (0, 6, .inl t_)), (v0, .inl (0, 21, .inl e_v0))] := by
  intro s0 th_ f_ t_ e_v0 v0
  refine aw_istore_n (q := 45) (lv' := [(3, .int s0), (0, .ref m), (1, .int p0), (2, .ref v0)]) gdX7_turn_40.2.2.1 rfl (by decide) rfl ?_
  refine aw_aload_n (q := 46) gdX7_turn_40.2.2.2.1 rfl 1 rfl ?_
  refine aw_iload_n (q := 47) gdX7_turn_40.2.2.2.2.1 rfl 2 rfl ?_
  refine aw_aload_n (q := 48) gdX7_turn_40.2.2.2.2.2.1 rfl 3 rfl ?_
  refine aw_call (q := 51) (kc1 := 0) (ks1 := 0) (wc := [(m, .inr (9, [.ref Mo, .ref Lo, .ref Do, .ref tl, .ref ca, .int th_])), (Do, .inl (4, 2, .inr (.inr (.inr (.inr dd))))), (w, .inl (0, 21, .inl f_)), (v0, .inl (0, 21, .inl e_v0)), (tl, .inl (0, 6, .inl t_))]) (wr := []) (st1 := fun x48 g48 => [.int x48.1]) (ws1 := fun x48 g48 => [(m, .inr (9, [.ref Mo, .ref Lo, .ref Do, .ref tl, .ref ca, .int th_])), (Do, .inl (4, 2, .inr (.inr (.inr (.inr dd))))), (w, .inl (0, 21, .inl x48.2.1)), (v0, .inl (0, 21, .inl e_v0)), (tl, .inl (0, 6, .inl x48.2.2))]) (As := [.ref m, .int p0, .ref v0]) [0, 1, 2, 4, 3] [] (fun _ => runV (q0 := 0) gdX7_turn_40.2.2.2.2.2.2.1 mi_X7_laid im_X7_laid se_X7_laid ml_X7_165 (by omega) rfl (Nat.le_of_ble_eq_true rfl) rfl rfl rfl rfl) (fun x9 h9 => ok_X7_laid hd h9) rfl rfl rfl rfl rfl (by decide +kernel) (by omega) (by omega) (fun _ _ => rfl) (fun _ _ => rfl) (fun x48 g48 => ?_)
  refine aw_pop (q := 52) gdX7_turn_40.2.2.2.2.2.2.2 rfl rfl ?_
  refine aw_iload_n (q := 53) gdX7_turn_52.1 rfl 0 rfl ?_
  refine aw_call (q := 56) (kc1 := 0) (ks1 := 0) (wc := []) (wr := [(m, .inr (9, [.ref Mo, .ref Lo, .ref Do, .ref tl, .ref ca, .int th_])), (Do, .inl (4, 2, .inr (.inr (.inr (.inr dd))))), (w, .inl (0, 21, .inl x48.2.1)), (v0, .inl (0, 21, .inl e_v0)), (tl, .inl (0, 6, .inl x48.2.2))]) (st1 := fun x53 g53 => [.int x53]) (ws1 := fun x53 g53 => [(m, .inr (9, [.ref Mo, .ref Lo, .ref Do, .ref tl, .ref ca, .int th_])), (Do, .inl (4, 2, .inr (.inr (.inr (.inr dd))))), (w, .inl (0, 21, .inl x48.2.1)), (v0, .inl (0, 21, .inl e_v0)), (tl, .inl (0, 6, .inl x48.2.2))]) (As := [.int s0]) [] [0, 1, 2, 3, 4] (fun _ => runS gdX7_turn_52.2.1 mi_X7_bit st_X7_bit ml_X7_43 (by omega) rfl (Nat.le_of_ble_eq_true rfl) rfl) (fun x9 h9 => ok_X7_bit h9) rfl rfl rfl rfl rfl (by decide +kernel) (by omega) (by omega) (fun _ _ => rfl) (fun _ _ => rfl) (fun x53 g53 => ?_)
  exact aw_ireturn (w := [(m, .inr (9, [.ref Mo, .ref Lo, .ref Do, .ref tl, .ref ca, .int th_])), (Do, .inl (4, 2, .inr (.inr (.inr (.inr dd))))), (w, .inl (0, 21, .inl x48.2.1)), (tl, .inl (0, 6, .inl x48.2.2))]) [0, 1, 2, 4] gdX7_turn_52.2.2 rfl rfl rfl rfl (PN.mk (fun _ => 0) rfl rfl)
def fX7_turn (N K : Nat) (th : Int32) (f : Nat → Int32) (t : Nat → Int32) (p0 : Int32) : Option (Int32 × Int32 × (Nat → Int32) × (Nat → Int32)) :=
  ((fX7_isNo N K p0 (0 : Int32) (1 : Int32)).bind (fun x4 => ((fX7_isThrown N K th x4 (0 : Int32)).bind (fun x8 => (if x8.1 = 0 then (if p0 < 0 ∨ 2 ≤ p0.toNatClampNeg then none else ((fX7_turned N K f).bind (fun x22 => (if p0 < 0 ∨ 2 ≤ p0.toNatClampNeg then none else ((fX7_areSame N K x22 f).bind (fun x33 => (if x33 = 0 then fX7_turn_44 N K th f t p0  (1 : Int32) x8.2 f t x22 else fX7_turn_44 N K th f t p0  (0 : Int32) x8.2 f t x22))))))) else (some ((0 : Int32), x8.2, f, t)))))))
set_option maxHeartbeats 4000000 in
set_option maxRecDepth 100000 in
theorem ok_X7_turn {N K : Nat} {m Mo Lo Do tl ca w : Nat} {dd : Nat → Option Nat} {th : Int32} {f : Nat → Int32} {t : Nat → Int32} {p0 : Int32} (hd : ¬ (p0 < 0 ∨ 2 ≤ p0.toNatClampNeg) → dd p0.toNatClampNeg = some w) {xr : Int32 × Int32 × (Nat → Int32) × (Nat → Int32)} (hE : fX7_turn N K th f t p0 = some xr) : OkM yX7_turn (.code yX7_turn cX7_turn 4 (some .int)) (2) 1 21 [.ref m, .int p0] [(m, .inr (9, [.ref Mo, .ref Lo, .ref Do, .ref tl, .ref ca, .int th])), (Do, .inl (4, 2, .inr (.inr (.inr (.inr dd))))), (w, .inl (0, 21, .inl f)), (tl, .inl (0, 6, .inl t))] ((PN (U := Int32 × Int32 × (Nat → Int32) × (Nat → Int32)) (fun zz _ => some (.int zz.1)) (fun zz ad => [(m, .inr (9, [.ref Mo, .ref Lo, .ref Do, .ref tl, .ref ca, .int zz.2.1])), (Do, .inl (4, 2, .inr (.inr (.inr (.inr dd))))), (w, .inl (0, 21, .inl zz.2.2.1)), (tl, .inl (0, 6, .inl zz.2.2.2))])) xr) := by
  refine ok_of (by decide) (Nat.le_of_ble_eq_true rfl) hE ?_
  refine aw_locals (lv' := [(0, .ref m), (1, .int p0)]) [0, 1] rfl ?_
  refine aw_aload_n (q := 1) gdX7_turn_0.1 rfl 0 rfl ?_
  refine aw_iload_n (q := 2) gdX7_turn_0.2.1 rfl 1 rfl ?_
  refine aw_iconst (q := 3) (v := 0) gdX7_turn_0.2.2.1 rfl (by decide) ?_
  refine aw_iconst (q := 4) (v := 1) gdX7_turn_0.2.2.2.1 rfl (by decide) ?_
  refine aw_call (q := 7) (kc1 := 1) (ks1 := 21) (wc := []) (wr := [(m, .inr (9, [.ref Mo, .ref Lo, .ref Do, .ref tl, .ref ca, .int th])), (Do, .inl (4, 2, .inr (.inr (.inr (.inr dd))))), (w, .inl (0, 21, .inl f)), (tl, .inl (0, 6, .inl t))]) (st1 := fun x4 g4 => [.int x4, .ref m]) (ws1 := fun x4 g4 => [(m, .inr (9, [.ref Mo, .ref Lo, .ref Do, .ref tl, .ref ca, .int th])), (Do, .inl (4, 2, .inr (.inr (.inr (.inr dd))))), (w, .inl (0, 21, .inl f)), (tl, .inl (0, 6, .inl t))]) (As := [.int p0, .int (0 : Int32), .int (1 : Int32)]) [] [0, 1, 2, 3] (fun _ => runS gdX7_turn_0.2.2.2.2.1 mi_X7_isNo st_X7_isNo ml_X7_31 (by omega) rfl (Nat.le_of_ble_eq_true rfl) rfl) (fun x9 h9 => ok_X7_isNo h9) rfl rfl rfl rfl rfl (by decide +kernel) (by omega) (by omega) (fun _ _ => rfl) (fun _ _ => rfl) (fun x4 g4 => ?_)
  refine aw_iconst (q := 8) (v := 0) gdX7_turn_0.2.2.2.2.2.1 rfl (by decide) ?_
  refine aw_call (q := 11) (kc1 := 1) (ks1 := 21) (wc := [(m, .inr (9, [.ref Mo, .ref Lo, .ref Do, .ref tl, .ref ca, .int th]))]) (wr := [(Do, .inl (4, 2, .inr (.inr (.inr (.inr dd))))), (w, .inl (0, 21, .inl f)), (tl, .inl (0, 6, .inl t))]) (st1 := fun x8 g8 => [.int x8.1]) (ws1 := fun x8 g8 => [(Do, .inl (4, 2, .inr (.inr (.inr (.inr dd))))), (w, .inl (0, 21, .inl f)), (tl, .inl (0, 6, .inl t)), (m, .inr (9, [.ref Mo, .ref Lo, .ref Do, .ref tl, .ref ca, .int x8.2]))]) (As := [.ref m, .int x4, .int (0 : Int32)]) [0] [1, 2, 3] (fun _ => runV (q0 := 0) gdX7_turn_0.2.2.2.2.2.2.1 mi_X7_isThrown im_X7_isThrown se_X7_isThrown ml_X7_110 (by omega) rfl (Nat.le_of_ble_eq_true rfl) rfl rfl rfl rfl) (fun x9 h9 => ok_X7_isThrown h9) rfl rfl rfl rfl rfl (by decide +kernel) (by omega) (by omega) (fun _ _ => rfl) (fun _ _ => rfl) (fun x8 g8 => ?_)
  refine aw_if_eq (tgt := 16) (q := 14) gdX7_turn_0.2.2.2.2.2.2.2 (by decide) rfl (fun h_11 => ?_) (fun h_11 => ?_)
  · refine aw_aload_n (q := 17) gdX7_turn_14.2.2.1 rfl 0 rfl ?_
    refine aw_get (q := 20) gdX7_turn_14.2.2.2.1 rfl fl_X7_17 3 rfl rfl ?_
    refine aw_iload_n (q := 21) gdX7_turn_14.2.2.2.2.1 rfl 1 rfl ?_
    refine aw_aald (q := 22) gdX7_turn_14.2.2.2.2.2.1 rfl 0 rfl (by decide) rfl hd ?_
    refine aw_call (q := 25) (kc1 := 0) (ks1 := 0) (wc := [(w, .inl (0, 21, .inl f))]) (wr := [(Do, .inl (4, 2, .inr (.inr (.inr (.inr dd))))), (tl, .inl (0, 6, .inl t)), (m, .inr (9, [.ref Mo, .ref Lo, .ref Do, .ref tl, .ref ca, .int x8.2]))]) (st1 := fun x22 g22 => [.ref (g22 0)]) (ws1 := fun x22 g22 => [(Do, .inl (4, 2, .inr (.inr (.inr (.inr dd))))), (tl, .inl (0, 6, .inl t)), (m, .inr (9, [.ref Mo, .ref Lo, .ref Do, .ref tl, .ref ca, .int x8.2])), (w, .inl (0, 21, .inl f)), ((g22 0), .inl (0, 21, .inl x22))]) (As := [.ref w]) [1] [0, 2, 3] (fun _ => runS gdX7_turn_14.2.2.2.2.2.2.1 mi_X7_turned st_X7_turned ml_X7_169 (by omega) rfl (Nat.le_of_ble_eq_true rfl) rfl) (fun x9 h9 => ok_X7_turned h9) rfl rfl rfl rfl rfl (by decide +kernel) (by omega) (by omega) (fun _ _ => rfl) (fun _ _ => rfl) (fun x22 g22 => ?_)
    refine aw_astore_n (q := 26) (lv' := [(2, .ref (g22 0)), (0, .ref m), (1, .int p0)]) gdX7_turn_14.2.2.2.2.2.2.2 rfl (by decide) rfl ?_
    refine aw_aload_n (q := 27) gdX7_turn_26.1 rfl 0 rfl ?_
    refine aw_aload_n (q := 28) gdX7_turn_26.2.1 rfl 1 rfl ?_
    refine aw_get (q := 31) gdX7_turn_26.2.2.1 rfl fl_X7_17 2 rfl rfl ?_
    refine aw_iload_n (q := 32) gdX7_turn_26.2.2.2.1 rfl 2 rfl ?_
    refine aw_aald (q := 33) gdX7_turn_26.2.2.2.2.1 rfl 0 rfl (by decide) rfl hd ?_
    refine aw_call (q := 36) (kc1 := 0) (ks1 := 0) (wc := [((g22 0), .inl (0, 21, .inl x22)), (w, .inl (0, 21, .inl f))]) (wr := [(Do, .inl (4, 2, .inr (.inr (.inr (.inr dd))))), (tl, .inl (0, 6, .inl t)), (m, .inr (9, [.ref Mo, .ref Lo, .ref Do, .ref tl, .ref ca, .int x8.2]))]) (st1 := fun x33 g33 => [.int x33]) (ws1 := fun x33 g33 => [(Do, .inl (4, 2, .inr (.inr (.inr (.inr dd))))), (tl, .inl (0, 6, .inl t)), (m, .inr (9, [.ref Mo, .ref Lo, .ref Do, .ref tl, .ref ca, .int x8.2])), ((g22 0), .inl (0, 21, .inl x22)), (w, .inl (0, 21, .inl f))]) (As := [.ref (g22 0), .ref w]) [4, 3] [0, 1, 2] (fun _ => runS gdX7_turn_26.2.2.2.2.2.1 mi_X7_areSame st_X7_areSame ml_X7_173 (by omega) rfl (Nat.le_of_ble_eq_true rfl) rfl) (fun x9 h9 => ok_X7_areSame h9) rfl rfl rfl rfl rfl (by decide +kernel) (by omega) (by omega) (fun _ _ => rfl) (fun _ _ => rfl) (fun x33 g33 => ?_)
    refine aw_if_ne (tgt := 43) (q := 39) gdX7_turn_26.2.2.2.2.2.2.1 (by decide) rfl (fun h_36 => ?_) (fun h_36 => ?_)
    · refine aw_iconst (q := 44) (v := 0) gdX7_turn_40.2.1 rfl (by decide) ?_
      refine aw_locals (lv' := [(0, .ref m), (1, .int p0), (2, .ref (g22 0))]) [1, 2, 0] rfl ?_
      refine aw_world (ws' := [(m, .inr (9, [.ref Mo, .ref Lo, .ref Do, .ref tl, .ref ca, .int x8.2])), (Do, .inl (4, 2, .inr (.inr (.inr (.inr dd))))), (w, .inl (0, 21, .inl f)), (tl, .inl (0, 6, .inl t)), ((g22 0), .inl (0, 21, .inl x22))]) [2, 0, 4, 1, 3] rfl rfl ?_
      exact tX7_turn_44 hd _ _ _ _ _ _
    · refine aw_iconst (q := 40) (v := 1) gdX7_turn_26.2.2.2.2.2.2.2 rfl (by decide) ?_
      refine aw_goto (tgt := 44) gdX7_turn_40.1 (by decide) ?_
      refine aw_locals (lv' := [(0, .ref m), (1, .int p0), (2, .ref (g22 0))]) [1, 2, 0] rfl ?_
      refine aw_world (ws' := [(m, .inr (9, [.ref Mo, .ref Lo, .ref Do, .ref tl, .ref ca, .int x8.2])), (Do, .inl (4, 2, .inr (.inr (.inr (.inr dd))))), (w, .inl (0, 21, .inl f)), (tl, .inl (0, 6, .inl t)), ((g22 0), .inl (0, 21, .inl x22))]) [2, 0, 4, 1, 3] rfl rfl ?_
      exact tX7_turn_44 hd _ _ _ _ _ _
  · refine aw_iconst (q := 15) (v := 0) gdX7_turn_14.1 rfl (by decide) ?_
    exact aw_ireturn (w := [(m, .inr (9, [.ref Mo, .ref Lo, .ref Do, .ref tl, .ref ca, .int x8.2])), (Do, .inl (4, 2, .inr (.inr (.inr (.inr dd))))), (w, .inl (0, 21, .inl f)), (tl, .inl (0, 6, .inl t))]) [3, 0, 1, 2] gdX7_turn_14.2.1 rfl rfl rfl rfl (PN.mk (fun _ => 0) rfl rfl)
def fX7_toUnlike_83 (N K : Nat) (th : Int32) (f : Nat → Int32) (t : Nat → Int32) (p0 : Int32) (k_40 : Int32 → Int32 → (Nat → Int32) → (Nat → Int32) → (Nat → Int32) → Option (Int32 × Int32 × (Nat → Int32) × (Nat → Int32))) (k_49 : Int32 → Int32 → Int32 → (Nat → Int32) → (Nat → Int32) → (Nat → Int32) → Option (Int32 × Int32 × (Nat → Int32) × (Nat → Int32))) (l3 : Int32) (l4 : Int32) (th_ : Int32) (f_ : Nat → Int32) (t_ : Nat → Int32) (e_v0 : Nat → Int32) : Option (Int32 × Int32 × (Nat → Int32) × (Nat → Int32)) :=
  k_49 l3 (l4 * (2 : Int32)) th_ f_ t_ e_v0
set_option maxHeartbeats 4000000 in
set_option maxRecDepth 100000 in
theorem tX7_toUnlike_83 {N K : Nat} {m Mo Lo Do tl ca w : Nat} {dd : Nat → Option Nat} {th : Int32} {f : Nat → Int32} {t : Nat → Int32} {p0 : Int32} (hd : ¬ (p0 < 0 ∨ 2 ≤ p0.toNatClampNeg) → dd p0.toNatClampNeg = some w) {k_40 : Int32 → Int32 → (Nat → Int32) → (Nat → Int32) → (Nat → Int32) → Option (Int32 × Int32 × (Nat → Int32) × (Nat → Int32))} (hk_40 : ∀ (l3 : Int32) (th_ : Int32) (f_ : Nat → Int32) (t_ : Nat → Int32) (e_v0 : Nat → Int32) (v0 : Nat), AW RX7 "toUnlike" cX7_toUnlike 5 (some .int) [] (fun _ _ => True) (2) (PN (U := Int32 × Int32 × (Nat → Int32) × (Nat → Int32)) (fun zz _ => some (.int zz.1)) (fun zz ad => [(m, .inr (9, [.ref Mo, .ref Lo, .ref Do, .ref tl, .ref ca, .int zz.2.1])), (Do, .inl (4, 2, .inr (.inr (.inr (.inr dd))))), (w, .inl (0, 21, .inl zz.2.2.1)), (tl, .inl (0, 6, .inl zz.2.2.2))])) 0 0 (k_40 l3 th_ f_ t_ e_v0) 40 [(0, .ref m), (1, .int p0), (2, .ref v0), (3, .int l3)] [] [(m, .inr (9, [.ref Mo, .ref Lo, .ref Do, .ref tl, .ref ca, .int th_])), (Do, .inl (4, 2, .inr (.inr (.inr (.inr dd))))), (w, .inl (0, 21, .inl f_)), (tl, .inl (0, 6, .inl t_)), (v0, .inl (0, 21, .inl e_v0))]) {k_49 : Int32 → Int32 → Int32 → (Nat → Int32) → (Nat → Int32) → (Nat → Int32) → Option (Int32 × Int32 × (Nat → Int32) × (Nat → Int32))} (hk_49 : ∀ (l3 : Int32) (l4 : Int32) (th_ : Int32) (f_ : Nat → Int32) (t_ : Nat → Int32) (e_v0 : Nat → Int32) (v0 : Nat), AW RX7 "toUnlike" cX7_toUnlike 5 (some .int) [] (fun _ _ => True) (2) (PN (U := Int32 × Int32 × (Nat → Int32) × (Nat → Int32)) (fun zz _ => some (.int zz.1)) (fun zz ad => [(m, .inr (9, [.ref Mo, .ref Lo, .ref Do, .ref tl, .ref ca, .int zz.2.1])), (Do, .inl (4, 2, .inr (.inr (.inr (.inr dd))))), (w, .inl (0, 21, .inl zz.2.2.1)), (tl, .inl (0, 6, .inl zz.2.2.2))])) 0 0 (k_49 l3 l4 th_ f_ t_ e_v0) 49 [(0, .ref m), (1, .int p0), (2, .ref v0), (3, .int l3), (4, .int l4)] [] [(m, .inr (9, [.ref Mo, .ref Lo, .ref Do, .ref tl, .ref ca, .int th_])), (Do, .inl (4, 2, .inr (.inr (.inr (.inr dd))))), (w, .inl (0, 21, .inl f_)), (tl, .inl (0, 6, .inl t_)), (v0, .inl (0, 21, .inl e_v0))]) : ∀ (l3 : Int32) (l4 : Int32) (th_ : Int32) (f_ : Nat → Int32) (t_ : Nat → Int32) (e_v0 : Nat → Int32) (v0 : Nat), AW RX7 "toUnlike" cX7_toUnlike 5 (some .int) [] (fun _ _ => True) (2) (PN (U := Int32 × Int32 × (Nat → Int32) × (Nat → Int32)) (fun zz _ => some (.int zz.1)) (fun zz ad => [(m, .inr (9, [.ref Mo, .ref Lo, .ref Do, .ref tl, .ref ca, .int zz.2.1])), (Do, .inl (4, 2, .inr (.inr (.inr (.inr dd))))), (w, .inl (0, 21, .inl zz.2.2.1)), (tl, .inl (0, 6, .inl zz.2.2.2))])) 0 0 (fX7_toUnlike_83 N K th f t p0 k_40 k_49 l3 l4 th_ f_ t_ e_v0) 83 [(0, .ref m), (1, .int p0), (2, .ref v0), (3, .int l3), (4, .int l4)] [] [(m, .inr (9, [.ref Mo, .ref Lo, .ref Do, .ref tl, .ref ca, .int th_])), (Do, .inl (4, 2, .inr (.inr (.inr (.inr dd))))), (w, .inl (0, 21, .inl f_)), (tl, .inl (0, 6, .inl t_)), (v0, .inl (0, 21, .inl e_v0))] := by
  intro l3 l4 th_ f_ t_ e_v0 v0
  refine aw_iload (q := 85) gdX7_toUnlike_78.2.2.2.2.2.1 rfl 4 rfl ?_
  refine aw_iconst (q := 86) (v := 2) gdX7_toUnlike_78.2.2.2.2.2.2.1 rfl (by decide) ?_
  refine aw_imul (q := 87) gdX7_toUnlike_78.2.2.2.2.2.2.2 rfl ?_
  refine aw_istore (q := 89) (lv' := [(4, .int (l4 * (2 : Int32))), (0, .ref m), (1, .int p0), (2, .ref v0), (3, .int l3)]) gdX7_toUnlike_87.1 rfl (by decide) rfl ?_
  refine aw_goto (tgt := 49) gdX7_toUnlike_87.2.1 (by decide) ?_
  refine aw_locals (lv' := [(0, .ref m), (1, .int p0), (2, .ref v0), (3, .int l3), (4, .int (l4 * (2 : Int32)))]) [1, 2, 3, 4, 0] rfl ?_
  exact hk_49 _ _ _ _ _ _ _
def fX7_toUnlike_49 (N K : Nat) (th : Int32) (f : Nat → Int32) (t : Nat → Int32) (p0 : Int32) (k_40 : Int32 → Int32 → (Nat → Int32) → (Nat → Int32) → (Nat → Int32) → Option (Int32 × Int32 × (Nat → Int32) × (Nat → Int32))) : Nat → Int32 → Int32 → Int32 → (Nat → Int32) → (Nat → Int32) → (Nat → Int32) → Option (Int32 × Int32 × (Nat → Int32) × (Nat → Int32))
  | 0, _, _, _, _, _, _ => none
  | fu + 1, l3, l4, th_, f_, t_, e_v0 =>
    (if (20 : Int32) < l4 then k_40 (l3 + (1 : Int32)) th_ f_ t_ e_v0 else (if p0 < 0 ∨ 2 ≤ p0.toNatClampNeg then none else (if l3 < 0 ∨ 21 ≤ l3.toNatClampNeg then none else (if l4 = 0 then none else (if (((f_ l3.toNatClampNeg) / l4) % (2 : Int32)) = (1 : Int32) then (if (l3 * l4) < 0 ∨ 21 ≤ (l3 * l4).toNatClampNeg then none else (if (l3 * l4) < 0 ∨ 21 ≤ (l3 * l4).toNatClampNeg then none else fX7_toUnlike_83 N K th f t p0 k_40 (fX7_toUnlike_49 N K th f t p0 k_40 fu) l3 l4 th_ f_ t_ (upd e_v0 (l3 * l4).toNatClampNeg ((e_v0 (l3 * l4).toNatClampNeg) + (1 : Int32))))) else fX7_toUnlike_83 N K th f t p0 k_40 (fX7_toUnlike_49 N K th f t p0 k_40 fu) l3 l4 th_ f_ t_ e_v0)))))
set_option maxHeartbeats 4000000 in
set_option maxRecDepth 100000 in
theorem tX7_toUnlike_49 {N K : Nat} {m Mo Lo Do tl ca w : Nat} {dd : Nat → Option Nat} {th : Int32} {f : Nat → Int32} {t : Nat → Int32} {p0 : Int32} (hd : ¬ (p0 < 0 ∨ 2 ≤ p0.toNatClampNeg) → dd p0.toNatClampNeg = some w) {k_40 : Int32 → Int32 → (Nat → Int32) → (Nat → Int32) → (Nat → Int32) → Option (Int32 × Int32 × (Nat → Int32) × (Nat → Int32))} (hk_40 : ∀ (l3 : Int32) (th_ : Int32) (f_ : Nat → Int32) (t_ : Nat → Int32) (e_v0 : Nat → Int32) (v0 : Nat), AW RX7 "toUnlike" cX7_toUnlike 5 (some .int) [] (fun _ _ => True) (2) (PN (U := Int32 × Int32 × (Nat → Int32) × (Nat → Int32)) (fun zz _ => some (.int zz.1)) (fun zz ad => [(m, .inr (9, [.ref Mo, .ref Lo, .ref Do, .ref tl, .ref ca, .int zz.2.1])), (Do, .inl (4, 2, .inr (.inr (.inr (.inr dd))))), (w, .inl (0, 21, .inl zz.2.2.1)), (tl, .inl (0, 6, .inl zz.2.2.2))])) 0 0 (k_40 l3 th_ f_ t_ e_v0) 40 [(0, .ref m), (1, .int p0), (2, .ref v0), (3, .int l3)] [] [(m, .inr (9, [.ref Mo, .ref Lo, .ref Do, .ref tl, .ref ca, .int th_])), (Do, .inl (4, 2, .inr (.inr (.inr (.inr dd))))), (w, .inl (0, 21, .inl f_)), (tl, .inl (0, 6, .inl t_)), (v0, .inl (0, 21, .inl e_v0))]) : ∀ (fu : Nat) (l3 : Int32) (l4 : Int32) (th_ : Int32) (f_ : Nat → Int32) (t_ : Nat → Int32) (e_v0 : Nat → Int32) (v0 : Nat), AW RX7 "toUnlike" cX7_toUnlike 5 (some .int) [] (fun _ _ => True) (2) (PN (U := Int32 × Int32 × (Nat → Int32) × (Nat → Int32)) (fun zz _ => some (.int zz.1)) (fun zz ad => [(m, .inr (9, [.ref Mo, .ref Lo, .ref Do, .ref tl, .ref ca, .int zz.2.1])), (Do, .inl (4, 2, .inr (.inr (.inr (.inr dd))))), (w, .inl (0, 21, .inl zz.2.2.1)), (tl, .inl (0, 6, .inl zz.2.2.2))])) 0 0 (fX7_toUnlike_49 N K th f t p0 k_40 fu l3 l4 th_ f_ t_ e_v0) 49 [(0, .ref m), (1, .int p0), (2, .ref v0), (3, .int l3), (4, .int l4)] [] [(m, .inr (9, [.ref Mo, .ref Lo, .ref Do, .ref tl, .ref ca, .int th_])), (Do, .inl (4, 2, .inr (.inr (.inr (.inr dd))))), (w, .inl (0, 21, .inl f_)), (tl, .inl (0, 6, .inl t_)), (v0, .inl (0, 21, .inl e_v0))] := by
  intro fu
  induction fu with
  | zero => intro l3 l4 th_ f_ t_ e_v0 v0; exact aw_none
  | succ fu ih =>
    intro l3 l4 th_ f_ t_ e_v0 v0
    refine aw_iload (q := 51) gdX7_toUnlike_40.2.2.2.2.2.1 rfl 4 rfl ?_
    refine aw_bipush (q := 53) (v := 20) gdX7_toUnlike_40.2.2.2.2.2.2.1 rfl (by decide) ?_
    refine aw_icmp_gt (tgt := 92) (q := 56) gdX7_toUnlike_40.2.2.2.2.2.2.2 (by decide) rfl (fun h_53 => ?_) (fun h_53 => ?_)
    · refine aw_iinc (q := 95) (v := (l3 + (1 : Int32))) (lv' := [(3, .int (l3 + (1 : Int32))), (0, .ref m), (1, .int p0), (2, .ref v0), (4, .int l4)]) gdX7_toUnlike_87.2.2.1 rfl 3 rfl rfl (by decide) rfl ?_
      refine aw_goto (tgt := 40) gdX7_toUnlike_87.2.2.2.1 (by decide) ?_
      refine aw_locals (lv' := [(0, .ref m), (1, .int p0), (2, .ref v0), (3, .int (l3 + (1 : Int32)))]) [1, 2, 3, 0] rfl ?_
      exact hk_40 _ _ _ _ _ _
    · refine aw_aload_n (q := 57) gdX7_toUnlike_56.1 rfl 0 rfl ?_
      refine aw_get (q := 60) gdX7_toUnlike_56.2.1 rfl fl_X7_17 0 rfl rfl ?_
      refine aw_iload_n (q := 61) gdX7_toUnlike_56.2.2.1 rfl 1 rfl ?_
      refine aw_aald (q := 62) gdX7_toUnlike_56.2.2.2.1 rfl 1 rfl (by decide) rfl hd ?_
      refine aw_iload_n (q := 63) gdX7_toUnlike_56.2.2.2.2.1 rfl 3 rfl ?_
      refine aw_iald (q := 64) gdX7_toUnlike_56.2.2.2.2.2.1 rfl 2 rfl ?_
      refine aw_iload (q := 66) gdX7_toUnlike_56.2.2.2.2.2.2.1 rfl 4 rfl ?_
      refine aw_idiv (q := 67) gdX7_toUnlike_56.2.2.2.2.2.2.2 rfl ?_
      refine aw_iconst (q := 68) (v := 2) gdX7_toUnlike_67.1 rfl (by decide) ?_
      refine aw_iremT (q := 69) gdX7_toUnlike_67.2.1 rfl (by decide) ?_
      refine aw_iconst (q := 70) (v := 1) gdX7_toUnlike_67.2.2.1 rfl (by decide) ?_
      refine aw_icmp_ne (tgt := 83) (q := 73) gdX7_toUnlike_67.2.2.2.1 (by decide) rfl (fun h_70 => ?_) (fun h_70 => ?_)
      · exact tX7_toUnlike_83 hd hk_40 ih _ _ _ _ _ _ _
      · refine aw_aload_n (q := 74) gdX7_toUnlike_67.2.2.2.2.1 rfl 2 rfl ?_
        refine aw_iload_n (q := 75) gdX7_toUnlike_67.2.2.2.2.2.1 rfl 3 rfl ?_
        refine aw_iload (q := 77) gdX7_toUnlike_67.2.2.2.2.2.2.1 rfl 4 rfl ?_
        refine aw_imul (q := 78) gdX7_toUnlike_67.2.2.2.2.2.2.2 rfl ?_
        refine aw_dup2 (q := 79) gdX7_toUnlike_78.1 rfl rfl rfl ?_
        refine aw_iald (q := 80) gdX7_toUnlike_78.2.1 rfl 4 rfl ?_
        refine aw_iconst (q := 81) (v := 1) gdX7_toUnlike_78.2.2.1 rfl (by decide) ?_
        refine aw_iadd (q := 82) gdX7_toUnlike_78.2.2.2.1 rfl ?_
        refine aw_iast (q := 83) (ws' := [(m, .inr (9, [.ref Mo, .ref Lo, .ref Do, .ref tl, .ref ca, .int th_])), (Do, .inl (4, 2, .inr (.inr (.inr (.inr dd))))), (w, .inl (0, 21, .inl f_)), (tl, .inl (0, 6, .inl t_)), (v0, .inl (0, 21, .inl (upd e_v0 (l3 * l4).toNatClampNeg ((e_v0 (l3 * l4).toNatClampNeg) + (1 : Int32)))))]) gdX7_toUnlike_78.2.2.2.2.1 rfl 4 rfl rfl ?_
        exact tX7_toUnlike_83 hd hk_40 ih _ _ _ _ _ _ _
def fX7_toUnlike_40 (N K : Nat) (th : Int32) (f : Nat → Int32) (t : Nat → Int32) (p0 : Int32) : Nat → Int32 → Int32 → (Nat → Int32) → (Nat → Int32) → (Nat → Int32) → Option (Int32 × Int32 × (Nat → Int32) × (Nat → Int32))
  | 0, _, _, _, _, _ => none
  | fu + 1, l3, th_, f_, t_, e_v0 =>
    (if (20 : Int32) < l3 then ((fX7_laid N K th_ f_ e_v0 t_ p0).bind (fun x101 => (some (x101.1, th_, x101.2.1, x101.2.2)))) else fX7_toUnlike_49 N K th f t p0 (fX7_toUnlike_40 N K th f t p0  fu) N l3 (1 : Int32) th_ f_ t_ e_v0)
set_option maxHeartbeats 4000000 in
set_option maxRecDepth 100000 in
theorem tX7_toUnlike_40 {N K : Nat} {m Mo Lo Do tl ca w : Nat} {dd : Nat → Option Nat} {th : Int32} {f : Nat → Int32} {t : Nat → Int32} {p0 : Int32} (hd : ¬ (p0 < 0 ∨ 2 ≤ p0.toNatClampNeg) → dd p0.toNatClampNeg = some w) : ∀ (fu : Nat) (l3 : Int32) (th_ : Int32) (f_ : Nat → Int32) (t_ : Nat → Int32) (e_v0 : Nat → Int32) (v0 : Nat), AW RX7 "toUnlike" cX7_toUnlike 5 (some .int) [] (fun _ _ => True) (2) (PN (U := Int32 × Int32 × (Nat → Int32) × (Nat → Int32)) (fun zz _ => some (.int zz.1)) (fun zz ad => [(m, .inr (9, [.ref Mo, .ref Lo, .ref Do, .ref tl, .ref ca, .int zz.2.1])), (Do, .inl (4, 2, .inr (.inr (.inr (.inr dd))))), (w, .inl (0, 21, .inl zz.2.2.1)), (tl, .inl (0, 6, .inl zz.2.2.2))])) 0 0 (fX7_toUnlike_40 N K th f t p0  fu l3 th_ f_ t_ e_v0) 40 [(0, .ref m), (1, .int p0), (2, .ref v0), (3, .int l3)] [] [(m, .inr (9, [.ref Mo, .ref Lo, .ref Do, .ref tl, .ref ca, .int th_])), (Do, .inl (4, 2, .inr (.inr (.inr (.inr dd))))), (w, .inl (0, 21, .inl f_)), (tl, .inl (0, 6, .inl t_)), (v0, .inl (0, 21, .inl e_v0))] := by
  intro fu
  induction fu with
  | zero => intro l3 th_ f_ t_ e_v0 v0; exact aw_none
  | succ fu ih =>
    intro l3 th_ f_ t_ e_v0 v0
    refine aw_iload_n (q := 41) gdX7_toUnlike_40.1 rfl 3 rfl ?_
    refine aw_bipush (q := 43) (v := 20) gdX7_toUnlike_40.2.1 rfl (by decide) ?_
    refine aw_icmp_gt (tgt := 98) (q := 46) gdX7_toUnlike_40.2.2.1 (by decide) rfl (fun h_43 => ?_) (fun h_43 => ?_)
    · refine aw_aload_n (q := 99) gdX7_toUnlike_87.2.2.2.2.1 rfl 0 rfl ?_
      refine aw_iload_n (q := 100) gdX7_toUnlike_87.2.2.2.2.2.1 rfl 1 rfl ?_
      refine aw_aload_n (q := 101) gdX7_toUnlike_87.2.2.2.2.2.2.1 rfl 2 rfl ?_
      refine aw_call (q := 104) (kc1 := 0) (ks1 := 0) (wc := [(m, .inr (9, [.ref Mo, .ref Lo, .ref Do, .ref tl, .ref ca, .int th_])), (Do, .inl (4, 2, .inr (.inr (.inr (.inr dd))))), (w, .inl (0, 21, .inl f_)), (v0, .inl (0, 21, .inl e_v0)), (tl, .inl (0, 6, .inl t_))]) (wr := []) (st1 := fun x101 g101 => [.int x101.1]) (ws1 := fun x101 g101 => [(m, .inr (9, [.ref Mo, .ref Lo, .ref Do, .ref tl, .ref ca, .int th_])), (Do, .inl (4, 2, .inr (.inr (.inr (.inr dd))))), (w, .inl (0, 21, .inl x101.2.1)), (v0, .inl (0, 21, .inl e_v0)), (tl, .inl (0, 6, .inl x101.2.2))]) (As := [.ref m, .int p0, .ref v0]) [0, 1, 2, 4, 3] [] (fun _ => runV (q0 := 0) gdX7_toUnlike_87.2.2.2.2.2.2.2 mi_X7_laid im_X7_laid se_X7_laid ml_X7_165 (by omega) rfl (Nat.le_of_ble_eq_true rfl) rfl rfl rfl rfl) (fun x9 h9 => ok_X7_laid hd h9) rfl rfl rfl rfl rfl (by decide +kernel) (by omega) (by omega) (fun _ _ => rfl) (fun _ _ => rfl) (fun x101 g101 => ?_)
      exact aw_ireturn (w := [(m, .inr (9, [.ref Mo, .ref Lo, .ref Do, .ref tl, .ref ca, .int th_])), (Do, .inl (4, 2, .inr (.inr (.inr (.inr dd))))), (w, .inl (0, 21, .inl x101.2.1)), (tl, .inl (0, 6, .inl x101.2.2))]) [0, 1, 2, 4] dX7_toUnlike_104 rfl rfl rfl rfl (PN.mk (fun _ => 0) rfl rfl)
    · refine aw_iconst (q := 47) (v := 1) gdX7_toUnlike_40.2.2.2.1 rfl (by decide) ?_
      refine aw_istore (q := 49) (lv' := [(4, .int (1 : Int32)), (0, .ref m), (1, .int p0), (2, .ref v0), (3, .int l3)]) gdX7_toUnlike_40.2.2.2.2.1 rfl (by decide) rfl ?_
      refine aw_locals (lv' := [(0, .ref m), (1, .int p0), (2, .ref v0), (3, .int l3), (4, .int (1 : Int32))]) [1, 2, 3, 4, 0] rfl ?_
      exact tX7_toUnlike_49 hd ih N _ _ _ _ _ _ _
def fX7_toUnlike (N K : Nat) (th : Int32) (f : Nat → Int32) (t : Nat → Int32) (p0 : Int32) : Option (Int32 × Int32 × (Nat → Int32) × (Nat → Int32)) :=
  ((fX7_isNo N K p0 (0 : Int32) (1 : Int32)).bind (fun x4 => ((fX7_isThrown N K th x4 (0 : Int32)).bind (fun x8 => (if x8.1 = 0 then (if p0 < 0 ∨ 2 ≤ p0.toNatClampNeg then none else ((fX7_isOdd N K f).bind (fun x22 => (if x22 = 0 then ((fX7_refused N K x8.2 t).bind (fun x29 => (some (x29.1, x8.2, f, x29.2)))) else fX7_toUnlike_40 N K th f t p0  N (1 : Int32) x8.2 f t (fun _ => 0))))) else (some ((0 : Int32), x8.2, f, t)))))))
set_option maxHeartbeats 4000000 in
set_option maxRecDepth 100000 in
theorem ok_X7_toUnlike {N K : Nat} {m Mo Lo Do tl ca w : Nat} {dd : Nat → Option Nat} {th : Int32} {f : Nat → Int32} {t : Nat → Int32} {p0 : Int32} (hd : ¬ (p0 < 0 ∨ 2 ≤ p0.toNatClampNeg) → dd p0.toNatClampNeg = some w) {xr : Int32 × Int32 × (Nat → Int32) × (Nat → Int32)} (hE : fX7_toUnlike N K th f t p0 = some xr) : OkM yX7_toUnlike (.code yX7_toUnlike cX7_toUnlike 5 (some .int)) (2) 1 21 [.ref m, .int p0] [(m, .inr (9, [.ref Mo, .ref Lo, .ref Do, .ref tl, .ref ca, .int th])), (Do, .inl (4, 2, .inr (.inr (.inr (.inr dd))))), (w, .inl (0, 21, .inl f)), (tl, .inl (0, 6, .inl t))] ((PN (U := Int32 × Int32 × (Nat → Int32) × (Nat → Int32)) (fun zz _ => some (.int zz.1)) (fun zz ad => [(m, .inr (9, [.ref Mo, .ref Lo, .ref Do, .ref tl, .ref ca, .int zz.2.1])), (Do, .inl (4, 2, .inr (.inr (.inr (.inr dd))))), (w, .inl (0, 21, .inl zz.2.2.1)), (tl, .inl (0, 6, .inl zz.2.2.2))])) xr) := by
  refine ok_of (by decide) (Nat.le_of_ble_eq_true rfl) hE ?_
  refine aw_locals (lv' := [(0, .ref m), (1, .int p0)]) [0, 1] rfl ?_
  refine aw_aload_n (q := 1) gdX7_toUnlike_0.1 rfl 0 rfl ?_
  refine aw_iload_n (q := 2) gdX7_toUnlike_0.2.1 rfl 1 rfl ?_
  refine aw_iconst (q := 3) (v := 0) gdX7_toUnlike_0.2.2.1 rfl (by decide) ?_
  refine aw_iconst (q := 4) (v := 1) gdX7_toUnlike_0.2.2.2.1 rfl (by decide) ?_
  refine aw_call (q := 7) (kc1 := 1) (ks1 := 21) (wc := []) (wr := [(m, .inr (9, [.ref Mo, .ref Lo, .ref Do, .ref tl, .ref ca, .int th])), (Do, .inl (4, 2, .inr (.inr (.inr (.inr dd))))), (w, .inl (0, 21, .inl f)), (tl, .inl (0, 6, .inl t))]) (st1 := fun x4 g4 => [.int x4, .ref m]) (ws1 := fun x4 g4 => [(m, .inr (9, [.ref Mo, .ref Lo, .ref Do, .ref tl, .ref ca, .int th])), (Do, .inl (4, 2, .inr (.inr (.inr (.inr dd))))), (w, .inl (0, 21, .inl f)), (tl, .inl (0, 6, .inl t))]) (As := [.int p0, .int (0 : Int32), .int (1 : Int32)]) [] [0, 1, 2, 3] (fun _ => runS gdX7_toUnlike_0.2.2.2.2.1 mi_X7_isNo st_X7_isNo ml_X7_31 (by omega) rfl (Nat.le_of_ble_eq_true rfl) rfl) (fun x9 h9 => ok_X7_isNo h9) rfl rfl rfl rfl rfl (by decide +kernel) (by omega) (by omega) (fun _ _ => rfl) (fun _ _ => rfl) (fun x4 g4 => ?_)
  refine aw_iconst (q := 8) (v := 0) gdX7_toUnlike_0.2.2.2.2.2.1 rfl (by decide) ?_
  refine aw_call (q := 11) (kc1 := 1) (ks1 := 21) (wc := [(m, .inr (9, [.ref Mo, .ref Lo, .ref Do, .ref tl, .ref ca, .int th]))]) (wr := [(Do, .inl (4, 2, .inr (.inr (.inr (.inr dd))))), (w, .inl (0, 21, .inl f)), (tl, .inl (0, 6, .inl t))]) (st1 := fun x8 g8 => [.int x8.1]) (ws1 := fun x8 g8 => [(Do, .inl (4, 2, .inr (.inr (.inr (.inr dd))))), (w, .inl (0, 21, .inl f)), (tl, .inl (0, 6, .inl t)), (m, .inr (9, [.ref Mo, .ref Lo, .ref Do, .ref tl, .ref ca, .int x8.2]))]) (As := [.ref m, .int x4, .int (0 : Int32)]) [0] [1, 2, 3] (fun _ => runV (q0 := 0) gdX7_toUnlike_0.2.2.2.2.2.2.1 mi_X7_isThrown im_X7_isThrown se_X7_isThrown ml_X7_110 (by omega) rfl (Nat.le_of_ble_eq_true rfl) rfl rfl rfl rfl) (fun x9 h9 => ok_X7_isThrown h9) rfl rfl rfl rfl rfl (by decide +kernel) (by omega) (by omega) (fun _ _ => rfl) (fun _ _ => rfl) (fun x8 g8 => ?_)
  refine aw_if_eq (tgt := 16) (q := 14) gdX7_toUnlike_0.2.2.2.2.2.2.2 (by decide) rfl (fun h_11 => ?_) (fun h_11 => ?_)
  · refine aw_aload_n (q := 17) gdX7_toUnlike_14.2.2.1 rfl 0 rfl ?_
    refine aw_get (q := 20) gdX7_toUnlike_14.2.2.2.1 rfl fl_X7_17 3 rfl rfl ?_
    refine aw_iload_n (q := 21) gdX7_toUnlike_14.2.2.2.2.1 rfl 1 rfl ?_
    refine aw_aald (q := 22) gdX7_toUnlike_14.2.2.2.2.2.1 rfl 0 rfl (by decide) rfl hd ?_
    refine aw_call (q := 25) (kc1 := 1) (ks1 := 21) (wc := [(w, .inl (0, 21, .inl f))]) (wr := [(Do, .inl (4, 2, .inr (.inr (.inr (.inr dd))))), (tl, .inl (0, 6, .inl t)), (m, .inr (9, [.ref Mo, .ref Lo, .ref Do, .ref tl, .ref ca, .int x8.2]))]) (st1 := fun x22 g22 => [.int x22]) (ws1 := fun x22 g22 => [(Do, .inl (4, 2, .inr (.inr (.inr (.inr dd))))), (tl, .inl (0, 6, .inl t)), (m, .inr (9, [.ref Mo, .ref Lo, .ref Do, .ref tl, .ref ca, .int x8.2])), (w, .inl (0, 21, .inl f))]) (As := [.ref w]) [1] [0, 2, 3] (fun _ => runS gdX7_toUnlike_14.2.2.2.2.2.2.1 mi_X7_isOdd st_X7_isOdd ml_X7_90 (by omega) rfl (Nat.le_of_ble_eq_true rfl) rfl) (fun x9 h9 => ok_X7_isOdd h9) rfl rfl rfl rfl rfl (by decide +kernel) (by omega) (by omega) (fun _ _ => rfl) (fun _ _ => rfl) (fun x22 g22 => ?_)
    refine aw_if_ne (tgt := 33) (q := 28) gdX7_toUnlike_14.2.2.2.2.2.2.2 (by decide) rfl (fun h_25 => ?_) (fun h_25 => ?_)
    · refine aw_bipush (q := 35) (v := 21) gdX7_toUnlike_28.2.2.2.1 rfl (by decide) ?_
      refine aw_newarr (q := 37) (t := 0) (N := 21) (kc' := 0) (ks' := 0) (ws' := fun r35 => [(Do, .inl (4, 2, .inr (.inr (.inr (.inr dd))))), (tl, .inl (0, 6, .inl t)), (m, .inr (9, [.ref Mo, .ref Lo, .ref Do, .ref tl, .ref ca, .int x8.2])), (w, .inl (0, 21, .inl f)), (r35, .inl (0, 21, .inl (fun _ => 0)))]) gdX7_toUnlike_28.2.2.2.2.1 rfl (by decide) rfl ac_int (fun _ => rfl) (by decide) (by decide) (by decide) (by omega) (by omega) (fun _ => rfl) (fun r35 => ?_)
      refine aw_astore_n (q := 38) (lv' := [(2, .ref r35), (0, .ref m), (1, .int p0)]) gdX7_toUnlike_28.2.2.2.2.2.1 rfl (by decide) rfl ?_
      refine aw_iconst (q := 39) (v := 1) gdX7_toUnlike_28.2.2.2.2.2.2.1 rfl (by decide) ?_
      refine aw_istore_n (q := 40) (lv' := [(3, .int (1 : Int32)), (2, .ref r35), (0, .ref m), (1, .int p0)]) gdX7_toUnlike_28.2.2.2.2.2.2.2 rfl (by decide) rfl ?_
      refine aw_locals (lv' := [(0, .ref m), (1, .int p0), (2, .ref r35), (3, .int (1 : Int32))]) [2, 3, 1, 0] rfl ?_
      refine aw_world (ws' := [(m, .inr (9, [.ref Mo, .ref Lo, .ref Do, .ref tl, .ref ca, .int x8.2])), (Do, .inl (4, 2, .inr (.inr (.inr (.inr dd))))), (w, .inl (0, 21, .inl f)), (tl, .inl (0, 6, .inl t)), (r35, .inl (0, 21, .inl (fun _ => 0)))]) [2, 0, 3, 1, 4] rfl rfl ?_
      exact tX7_toUnlike_40 hd N _ _ _ _ _ _
    · refine aw_aload_n (q := 29) gdX7_toUnlike_28.1 rfl 0 rfl ?_
      refine aw_call (q := 32) (kc1 := 1) (ks1 := 21) (wc := [(m, .inr (9, [.ref Mo, .ref Lo, .ref Do, .ref tl, .ref ca, .int x8.2])), (tl, .inl (0, 6, .inl t))]) (wr := [(Do, .inl (4, 2, .inr (.inr (.inr (.inr dd))))), (w, .inl (0, 21, .inl f))]) (st1 := fun x29 g29 => [.int x29.1]) (ws1 := fun x29 g29 => [(Do, .inl (4, 2, .inr (.inr (.inr (.inr dd))))), (w, .inl (0, 21, .inl f)), (m, .inr (9, [.ref Mo, .ref Lo, .ref Do, .ref tl, .ref ca, .int x8.2])), (tl, .inl (0, 6, .inl x29.2))]) (As := [.ref m]) [2, 1] [0, 3] (fun _ => runV (q0 := 2) gdX7_toUnlike_28.2.1 mi_X7_refused im_X7_refused se_X7_refused ml_X7_124 (by omega) rfl (Nat.le_of_ble_eq_true rfl) rfl rfl rfl rfl) (fun x9 h9 => ok_X7_refused h9) rfl rfl rfl rfl rfl (by decide +kernel) (by omega) (by omega) (fun _ _ => rfl) (fun _ _ => rfl) (fun x29 g29 => ?_)
      exact aw_ireturn (w := [(m, .inr (9, [.ref Mo, .ref Lo, .ref Do, .ref tl, .ref ca, .int x8.2])), (Do, .inl (4, 2, .inr (.inr (.inr (.inr dd))))), (w, .inl (0, 21, .inl f)), (tl, .inl (0, 6, .inl x29.2))]) [2, 0, 1, 3] gdX7_toUnlike_28.2.2.1 rfl rfl rfl rfl (PN.mk (fun _ => 0) rfl rfl)
  · refine aw_iconst (q := 15) (v := 0) gdX7_toUnlike_14.1 rfl (by decide) ?_
    exact aw_ireturn (w := [(m, .inr (9, [.ref Mo, .ref Lo, .ref Do, .ref tl, .ref ca, .int x8.2])), (Do, .inl (4, 2, .inr (.inr (.inr (.inr dd))))), (w, .inl (0, 21, .inl f)), (tl, .inl (0, 6, .inl t))]) [3, 0, 1, 2] gdX7_toUnlike_14.2.1 rfl rfl rfl rfl (PN.mk (fun _ => 0) rfl rfl)
def fX7_toOdd_49 (N K : Nat) (th : Int32) (f : Nat → Int32) (t : Nat → Int32) (p0 : Int32) (k_40 : Int32 → Int32 → (Nat → Int32) → (Nat → Int32) → (Nat → Int32) → Option (Int32 × Int32 × (Nat → Int32) × (Nat → Int32))) : Nat → Int32 → Int32 → Int32 → (Nat → Int32) → (Nat → Int32) → (Nat → Int32) → Option (Int32 × Int32 × (Nat → Int32) × (Nat → Int32))
  | 0, _, _, _, _, _, _ => none
  | fu + 1, l3, l4, th_, f_, t_, e_v0 =>
    (if ((2 : Int32) * l4) = 0 then none else (if (l3 % ((2 : Int32) * l4)) = 0 then fX7_toOdd_49 N K th f t p0 k_40 fu l3 (l4 * (2 : Int32)) th_ f_ t_ e_v0 else (if l4 = 0 then none else (if (l3 / l4) < 0 ∨ 21 ≤ (l3 / l4).toNatClampNeg then none else (if p0 < 0 ∨ 2 ≤ p0.toNatClampNeg then none else (if l3 < 0 ∨ 21 ≤ l3.toNatClampNeg then none else (if (l3 / l4) < 0 ∨ 21 ≤ (l3 / l4).toNatClampNeg then none else k_40 (l3 + (1 : Int32)) th_ f_ t_ (upd e_v0 (l3 / l4).toNatClampNeg ((e_v0 (l3 / l4).toNatClampNeg) + (l4 * (f_ l3.toNatClampNeg)))))))))))
set_option maxHeartbeats 4000000 in
set_option maxRecDepth 100000 in
theorem tX7_toOdd_49 {N K : Nat} {m Mo Lo Do tl ca w : Nat} {dd : Nat → Option Nat} {th : Int32} {f : Nat → Int32} {t : Nat → Int32} {p0 : Int32} (hd : ¬ (p0 < 0 ∨ 2 ≤ p0.toNatClampNeg) → dd p0.toNatClampNeg = some w) {k_40 : Int32 → Int32 → (Nat → Int32) → (Nat → Int32) → (Nat → Int32) → Option (Int32 × Int32 × (Nat → Int32) × (Nat → Int32))} (hk_40 : ∀ (l3 : Int32) (th_ : Int32) (f_ : Nat → Int32) (t_ : Nat → Int32) (e_v0 : Nat → Int32) (v0 : Nat), AW RX7 "toOdd" cX7_toOdd 5 (some .int) [] (fun _ _ => True) (3) (PN (U := Int32 × Int32 × (Nat → Int32) × (Nat → Int32)) (fun zz _ => some (.int zz.1)) (fun zz ad => [(m, .inr (9, [.ref Mo, .ref Lo, .ref Do, .ref tl, .ref ca, .int zz.2.1])), (Do, .inl (4, 2, .inr (.inr (.inr (.inr dd))))), (w, .inl (0, 21, .inl zz.2.2.1)), (tl, .inl (0, 6, .inl zz.2.2.2))])) 0 0 (k_40 l3 th_ f_ t_ e_v0) 40 [(0, .ref m), (1, .int p0), (2, .ref v0), (3, .int l3)] [] [(m, .inr (9, [.ref Mo, .ref Lo, .ref Do, .ref tl, .ref ca, .int th_])), (Do, .inl (4, 2, .inr (.inr (.inr (.inr dd))))), (w, .inl (0, 21, .inl f_)), (tl, .inl (0, 6, .inl t_)), (v0, .inl (0, 21, .inl e_v0))]) : ∀ (fu : Nat) (l3 : Int32) (l4 : Int32) (th_ : Int32) (f_ : Nat → Int32) (t_ : Nat → Int32) (e_v0 : Nat → Int32) (v0 : Nat), AW RX7 "toOdd" cX7_toOdd 5 (some .int) [] (fun _ _ => True) (3) (PN (U := Int32 × Int32 × (Nat → Int32) × (Nat → Int32)) (fun zz _ => some (.int zz.1)) (fun zz ad => [(m, .inr (9, [.ref Mo, .ref Lo, .ref Do, .ref tl, .ref ca, .int zz.2.1])), (Do, .inl (4, 2, .inr (.inr (.inr (.inr dd))))), (w, .inl (0, 21, .inl zz.2.2.1)), (tl, .inl (0, 6, .inl zz.2.2.2))])) 0 0 (fX7_toOdd_49 N K th f t p0 k_40 fu l3 l4 th_ f_ t_ e_v0) 49 [(0, .ref m), (1, .int p0), (2, .ref v0), (3, .int l3), (4, .int l4)] [] [(m, .inr (9, [.ref Mo, .ref Lo, .ref Do, .ref tl, .ref ca, .int th_])), (Do, .inl (4, 2, .inr (.inr (.inr (.inr dd))))), (w, .inl (0, 21, .inl f_)), (tl, .inl (0, 6, .inl t_)), (v0, .inl (0, 21, .inl e_v0))] := by
  intro fu
  induction fu with
  | zero => intro l3 l4 th_ f_ t_ e_v0 v0; exact aw_none
  | succ fu ih =>
    intro l3 l4 th_ f_ t_ e_v0 v0
    refine aw_iload_n (q := 50) gdX7_toOdd_40.2.2.2.2.2.1 rfl 3 rfl ?_
    refine aw_iconst (q := 51) (v := 2) gdX7_toOdd_40.2.2.2.2.2.2.1 rfl (by decide) ?_
    refine aw_iload (q := 53) gdX7_toOdd_40.2.2.2.2.2.2.2 rfl 4 rfl ?_
    refine aw_imul (q := 54) gdX7_toOdd_53.1 rfl ?_
    refine aw_irem (q := 55) gdX7_toOdd_53.2.1 rfl ?_
    refine aw_if_ne (tgt := 67) (q := 58) gdX7_toOdd_53.2.2.1 (by decide) rfl (fun h_55 => ?_) (fun h_55 => ?_)
    · refine aw_aload_n (q := 68) gdX7_toOdd_67.1 rfl 2 rfl ?_
      refine aw_iload_n (q := 69) gdX7_toOdd_67.2.1 rfl 3 rfl ?_
      refine aw_iload (q := 71) gdX7_toOdd_67.2.2.1 rfl 4 rfl ?_
      refine aw_idiv (q := 72) gdX7_toOdd_67.2.2.2.1 rfl ?_
      refine aw_dup2 (q := 73) gdX7_toOdd_67.2.2.2.2.1 rfl rfl rfl ?_
      refine aw_iald (q := 74) gdX7_toOdd_67.2.2.2.2.2.1 rfl 4 rfl ?_
      refine aw_iload (q := 76) gdX7_toOdd_67.2.2.2.2.2.2.1 rfl 4 rfl ?_
      refine aw_aload_n (q := 77) gdX7_toOdd_67.2.2.2.2.2.2.2 rfl 0 rfl ?_
      refine aw_get (q := 80) gdX7_toOdd_77.1 rfl fl_X7_17 0 rfl rfl ?_
      refine aw_iload_n (q := 81) gdX7_toOdd_77.2.1 rfl 1 rfl ?_
      refine aw_aald (q := 82) gdX7_toOdd_77.2.2.1 rfl 1 rfl (by decide) rfl hd ?_
      refine aw_iload_n (q := 83) gdX7_toOdd_77.2.2.2.1 rfl 3 rfl ?_
      refine aw_iald (q := 84) gdX7_toOdd_77.2.2.2.2.1 rfl 2 rfl ?_
      refine aw_imul (q := 85) gdX7_toOdd_77.2.2.2.2.2.1 rfl ?_
      refine aw_iadd (q := 86) gdX7_toOdd_77.2.2.2.2.2.2.1 rfl ?_
      refine aw_iast (q := 87) (ws' := [(m, .inr (9, [.ref Mo, .ref Lo, .ref Do, .ref tl, .ref ca, .int th_])), (Do, .inl (4, 2, .inr (.inr (.inr (.inr dd))))), (w, .inl (0, 21, .inl f_)), (tl, .inl (0, 6, .inl t_)), (v0, .inl (0, 21, .inl (upd e_v0 (l3 / l4).toNatClampNeg ((e_v0 (l3 / l4).toNatClampNeg) + (l4 * (f_ l3.toNatClampNeg))))))]) gdX7_toOdd_77.2.2.2.2.2.2.2 rfl 4 rfl rfl ?_
      refine aw_iinc (q := 90) (v := (l3 + (1 : Int32))) (lv' := [(3, .int (l3 + (1 : Int32))), (0, .ref m), (1, .int p0), (2, .ref v0), (4, .int l4)]) gdX7_toOdd_87.1 rfl 3 rfl rfl (by decide) rfl ?_
      refine aw_goto (tgt := 40) gdX7_toOdd_87.2.1 (by decide) ?_
      refine aw_locals (lv' := [(0, .ref m), (1, .int p0), (2, .ref v0), (3, .int (l3 + (1 : Int32)))]) [1, 2, 3, 0] rfl ?_
      exact hk_40 _ _ _ _ _ _
    · refine aw_iload (q := 60) gdX7_toOdd_53.2.2.2.1 rfl 4 rfl ?_
      refine aw_iconst (q := 61) (v := 2) gdX7_toOdd_53.2.2.2.2.1 rfl (by decide) ?_
      refine aw_imul (q := 62) gdX7_toOdd_53.2.2.2.2.2.1 rfl ?_
      refine aw_istore (q := 64) (lv' := [(4, .int (l4 * (2 : Int32))), (0, .ref m), (1, .int p0), (2, .ref v0), (3, .int l3)]) gdX7_toOdd_53.2.2.2.2.2.2.1 rfl (by decide) rfl ?_
      refine aw_goto (tgt := 49) gdX7_toOdd_53.2.2.2.2.2.2.2 (by decide) ?_
      refine aw_locals (lv' := [(0, .ref m), (1, .int p0), (2, .ref v0), (3, .int l3), (4, .int (l4 * (2 : Int32)))]) [1, 2, 3, 4, 0] rfl ?_
      exact ih _ _ _ _ _ _ _
def fX7_toOdd_40 (N K : Nat) (th : Int32) (f : Nat → Int32) (t : Nat → Int32) (p0 : Int32) : Nat → Int32 → Int32 → (Nat → Int32) → (Nat → Int32) → (Nat → Int32) → Option (Int32 × Int32 × (Nat → Int32) × (Nat → Int32))
  | 0, _, _, _, _, _ => none
  | fu + 1, l3, th_, f_, t_, e_v0 =>
    (if (20 : Int32) < l3 then ((fX7_laid N K th_ f_ e_v0 t_ p0).bind (fun x96 => (some (x96.1, th_, x96.2.1, x96.2.2)))) else fX7_toOdd_49 N K th f t p0 (fX7_toOdd_40 N K th f t p0  fu) N l3 (1 : Int32) th_ f_ t_ e_v0)
set_option maxHeartbeats 4000000 in
set_option maxRecDepth 100000 in
theorem tX7_toOdd_40 {N K : Nat} {m Mo Lo Do tl ca w : Nat} {dd : Nat → Option Nat} {th : Int32} {f : Nat → Int32} {t : Nat → Int32} {p0 : Int32} (hd : ¬ (p0 < 0 ∨ 2 ≤ p0.toNatClampNeg) → dd p0.toNatClampNeg = some w) : ∀ (fu : Nat) (l3 : Int32) (th_ : Int32) (f_ : Nat → Int32) (t_ : Nat → Int32) (e_v0 : Nat → Int32) (v0 : Nat), AW RX7 "toOdd" cX7_toOdd 5 (some .int) [] (fun _ _ => True) (3) (PN (U := Int32 × Int32 × (Nat → Int32) × (Nat → Int32)) (fun zz _ => some (.int zz.1)) (fun zz ad => [(m, .inr (9, [.ref Mo, .ref Lo, .ref Do, .ref tl, .ref ca, .int zz.2.1])), (Do, .inl (4, 2, .inr (.inr (.inr (.inr dd))))), (w, .inl (0, 21, .inl zz.2.2.1)), (tl, .inl (0, 6, .inl zz.2.2.2))])) 0 0 (fX7_toOdd_40 N K th f t p0  fu l3 th_ f_ t_ e_v0) 40 [(0, .ref m), (1, .int p0), (2, .ref v0), (3, .int l3)] [] [(m, .inr (9, [.ref Mo, .ref Lo, .ref Do, .ref tl, .ref ca, .int th_])), (Do, .inl (4, 2, .inr (.inr (.inr (.inr dd))))), (w, .inl (0, 21, .inl f_)), (tl, .inl (0, 6, .inl t_)), (v0, .inl (0, 21, .inl e_v0))] := by
  intro fu
  induction fu with
  | zero => intro l3 th_ f_ t_ e_v0 v0; exact aw_none
  | succ fu ih =>
    intro l3 th_ f_ t_ e_v0 v0
    refine aw_iload_n (q := 41) gdX7_toOdd_40.1 rfl 3 rfl ?_
    refine aw_bipush (q := 43) (v := 20) gdX7_toOdd_40.2.1 rfl (by decide) ?_
    refine aw_icmp_gt (tgt := 93) (q := 46) gdX7_toOdd_40.2.2.1 (by decide) rfl (fun h_43 => ?_) (fun h_43 => ?_)
    · refine aw_aload_n (q := 94) gdX7_toOdd_87.2.2.1 rfl 0 rfl ?_
      refine aw_iload_n (q := 95) gdX7_toOdd_87.2.2.2.1 rfl 1 rfl ?_
      refine aw_aload_n (q := 96) gdX7_toOdd_87.2.2.2.2.1 rfl 2 rfl ?_
      refine aw_call (q := 99) (kc1 := 0) (ks1 := 0) (wc := [(m, .inr (9, [.ref Mo, .ref Lo, .ref Do, .ref tl, .ref ca, .int th_])), (Do, .inl (4, 2, .inr (.inr (.inr (.inr dd))))), (w, .inl (0, 21, .inl f_)), (v0, .inl (0, 21, .inl e_v0)), (tl, .inl (0, 6, .inl t_))]) (wr := []) (st1 := fun x96 g96 => [.int x96.1]) (ws1 := fun x96 g96 => [(m, .inr (9, [.ref Mo, .ref Lo, .ref Do, .ref tl, .ref ca, .int th_])), (Do, .inl (4, 2, .inr (.inr (.inr (.inr dd))))), (w, .inl (0, 21, .inl x96.2.1)), (v0, .inl (0, 21, .inl e_v0)), (tl, .inl (0, 6, .inl x96.2.2))]) (As := [.ref m, .int p0, .ref v0]) [0, 1, 2, 4, 3] [] (fun _ => runV (q0 := 0) gdX7_toOdd_87.2.2.2.2.2.1 mi_X7_laid im_X7_laid se_X7_laid ml_X7_165 (by omega) rfl (Nat.le_of_ble_eq_true rfl) rfl rfl rfl rfl) (fun x9 h9 => ok_X7_laid hd h9) rfl rfl rfl rfl rfl (by decide +kernel) (by omega) (by omega) (fun _ _ => rfl) (fun _ _ => rfl) (fun x96 g96 => ?_)
      exact aw_ireturn (w := [(m, .inr (9, [.ref Mo, .ref Lo, .ref Do, .ref tl, .ref ca, .int th_])), (Do, .inl (4, 2, .inr (.inr (.inr (.inr dd))))), (w, .inl (0, 21, .inl x96.2.1)), (tl, .inl (0, 6, .inl x96.2.2))]) [0, 1, 2, 4] gdX7_toOdd_87.2.2.2.2.2.2 rfl rfl rfl rfl (PN.mk (fun _ => 0) rfl rfl)
    · refine aw_iconst (q := 47) (v := 1) gdX7_toOdd_40.2.2.2.1 rfl (by decide) ?_
      refine aw_istore (q := 49) (lv' := [(4, .int (1 : Int32)), (0, .ref m), (1, .int p0), (2, .ref v0), (3, .int l3)]) gdX7_toOdd_40.2.2.2.2.1 rfl (by decide) rfl ?_
      refine aw_locals (lv' := [(0, .ref m), (1, .int p0), (2, .ref v0), (3, .int l3), (4, .int (1 : Int32))]) [1, 2, 3, 4, 0] rfl ?_
      exact tX7_toOdd_49 hd ih N _ _ _ _ _ _ _
def fX7_toOdd (N K : Nat) (th : Int32) (f : Nat → Int32) (t : Nat → Int32) (p0 : Int32) : Option (Int32 × Int32 × (Nat → Int32) × (Nat → Int32)) :=
  ((fX7_isNo N K p0 (0 : Int32) (1 : Int32)).bind (fun x4 => ((fX7_isThrown N K th x4 (0 : Int32)).bind (fun x8 => (if x8.1 = 0 then (if p0 < 0 ∨ 2 ≤ p0.toNatClampNeg then none else ((fX7_isUnlike N K f).bind (fun x22 => (if x22 = 0 then ((fX7_refused N K x8.2 t).bind (fun x29 => (some (x29.1, x8.2, f, x29.2)))) else fX7_toOdd_40 N K th f t p0  N (1 : Int32) x8.2 f t (fun _ => 0))))) else (some ((0 : Int32), x8.2, f, t)))))))
set_option maxHeartbeats 4000000 in
set_option maxRecDepth 100000 in
theorem ok_X7_toOdd {N K : Nat} {m Mo Lo Do tl ca w : Nat} {dd : Nat → Option Nat} {th : Int32} {f : Nat → Int32} {t : Nat → Int32} {p0 : Int32} (hd : ¬ (p0 < 0 ∨ 2 ≤ p0.toNatClampNeg) → dd p0.toNatClampNeg = some w) {xr : Int32 × Int32 × (Nat → Int32) × (Nat → Int32)} (hE : fX7_toOdd N K th f t p0 = some xr) : OkM yX7_toOdd (.code yX7_toOdd cX7_toOdd 5 (some .int)) (3) 1 21 [.ref m, .int p0] [(m, .inr (9, [.ref Mo, .ref Lo, .ref Do, .ref tl, .ref ca, .int th])), (Do, .inl (4, 2, .inr (.inr (.inr (.inr dd))))), (w, .inl (0, 21, .inl f)), (tl, .inl (0, 6, .inl t))] ((PN (U := Int32 × Int32 × (Nat → Int32) × (Nat → Int32)) (fun zz _ => some (.int zz.1)) (fun zz ad => [(m, .inr (9, [.ref Mo, .ref Lo, .ref Do, .ref tl, .ref ca, .int zz.2.1])), (Do, .inl (4, 2, .inr (.inr (.inr (.inr dd))))), (w, .inl (0, 21, .inl zz.2.2.1)), (tl, .inl (0, 6, .inl zz.2.2.2))])) xr) := by
  refine ok_of (by decide) (Nat.le_of_ble_eq_true rfl) hE ?_
  refine aw_locals (lv' := [(0, .ref m), (1, .int p0)]) [0, 1] rfl ?_
  refine aw_aload_n (q := 1) gdX7_toOdd_0.1 rfl 0 rfl ?_
  refine aw_iload_n (q := 2) gdX7_toOdd_0.2.1 rfl 1 rfl ?_
  refine aw_iconst (q := 3) (v := 0) gdX7_toOdd_0.2.2.1 rfl (by decide) ?_
  refine aw_iconst (q := 4) (v := 1) gdX7_toOdd_0.2.2.2.1 rfl (by decide) ?_
  refine aw_call (q := 7) (kc1 := 1) (ks1 := 21) (wc := []) (wr := [(m, .inr (9, [.ref Mo, .ref Lo, .ref Do, .ref tl, .ref ca, .int th])), (Do, .inl (4, 2, .inr (.inr (.inr (.inr dd))))), (w, .inl (0, 21, .inl f)), (tl, .inl (0, 6, .inl t))]) (st1 := fun x4 g4 => [.int x4, .ref m]) (ws1 := fun x4 g4 => [(m, .inr (9, [.ref Mo, .ref Lo, .ref Do, .ref tl, .ref ca, .int th])), (Do, .inl (4, 2, .inr (.inr (.inr (.inr dd))))), (w, .inl (0, 21, .inl f)), (tl, .inl (0, 6, .inl t))]) (As := [.int p0, .int (0 : Int32), .int (1 : Int32)]) [] [0, 1, 2, 3] (fun _ => runS gdX7_toOdd_0.2.2.2.2.1 mi_X7_isNo st_X7_isNo ml_X7_31 (by omega) rfl (Nat.le_of_ble_eq_true rfl) rfl) (fun x9 h9 => ok_X7_isNo h9) rfl rfl rfl rfl rfl (by decide +kernel) (by omega) (by omega) (fun _ _ => rfl) (fun _ _ => rfl) (fun x4 g4 => ?_)
  refine aw_iconst (q := 8) (v := 0) gdX7_toOdd_0.2.2.2.2.2.1 rfl (by decide) ?_
  refine aw_call (q := 11) (kc1 := 1) (ks1 := 21) (wc := [(m, .inr (9, [.ref Mo, .ref Lo, .ref Do, .ref tl, .ref ca, .int th]))]) (wr := [(Do, .inl (4, 2, .inr (.inr (.inr (.inr dd))))), (w, .inl (0, 21, .inl f)), (tl, .inl (0, 6, .inl t))]) (st1 := fun x8 g8 => [.int x8.1]) (ws1 := fun x8 g8 => [(Do, .inl (4, 2, .inr (.inr (.inr (.inr dd))))), (w, .inl (0, 21, .inl f)), (tl, .inl (0, 6, .inl t)), (m, .inr (9, [.ref Mo, .ref Lo, .ref Do, .ref tl, .ref ca, .int x8.2]))]) (As := [.ref m, .int x4, .int (0 : Int32)]) [0] [1, 2, 3] (fun _ => runV (q0 := 0) gdX7_toOdd_0.2.2.2.2.2.2.1 mi_X7_isThrown im_X7_isThrown se_X7_isThrown ml_X7_110 (by omega) rfl (Nat.le_of_ble_eq_true rfl) rfl rfl rfl rfl) (fun x9 h9 => ok_X7_isThrown h9) rfl rfl rfl rfl rfl (by decide +kernel) (by omega) (by omega) (fun _ _ => rfl) (fun _ _ => rfl) (fun x8 g8 => ?_)
  refine aw_if_eq (tgt := 16) (q := 14) gdX7_toOdd_0.2.2.2.2.2.2.2 (by decide) rfl (fun h_11 => ?_) (fun h_11 => ?_)
  · refine aw_aload_n (q := 17) gdX7_toOdd_14.2.2.1 rfl 0 rfl ?_
    refine aw_get (q := 20) gdX7_toOdd_14.2.2.2.1 rfl fl_X7_17 3 rfl rfl ?_
    refine aw_iload_n (q := 21) gdX7_toOdd_14.2.2.2.2.1 rfl 1 rfl ?_
    refine aw_aald (q := 22) gdX7_toOdd_14.2.2.2.2.2.1 rfl 0 rfl (by decide) rfl hd ?_
    refine aw_call (q := 25) (kc1 := 1) (ks1 := 21) (wc := [(w, .inl (0, 21, .inl f))]) (wr := [(Do, .inl (4, 2, .inr (.inr (.inr (.inr dd))))), (tl, .inl (0, 6, .inl t)), (m, .inr (9, [.ref Mo, .ref Lo, .ref Do, .ref tl, .ref ca, .int x8.2]))]) (st1 := fun x22 g22 => [.int x22]) (ws1 := fun x22 g22 => [(Do, .inl (4, 2, .inr (.inr (.inr (.inr dd))))), (tl, .inl (0, 6, .inl t)), (m, .inr (9, [.ref Mo, .ref Lo, .ref Do, .ref tl, .ref ca, .int x8.2])), (w, .inl (0, 21, .inl f))]) (As := [.ref w]) [1] [0, 2, 3] (fun _ => runS gdX7_toOdd_14.2.2.2.2.2.2.1 mi_X7_isUnlike st_X7_isUnlike ml_X7_86 (by omega) rfl (Nat.le_of_ble_eq_true rfl) rfl) (fun x9 h9 => ok_X7_isUnlike h9) rfl rfl rfl rfl rfl (by decide +kernel) (by omega) (by omega) (fun _ _ => rfl) (fun _ _ => rfl) (fun x22 g22 => ?_)
    refine aw_if_ne (tgt := 33) (q := 28) gdX7_toOdd_14.2.2.2.2.2.2.2 (by decide) rfl (fun h_25 => ?_) (fun h_25 => ?_)
    · refine aw_bipush (q := 35) (v := 21) gdX7_toOdd_28.2.2.2.1 rfl (by decide) ?_
      refine aw_newarr (q := 37) (t := 0) (N := 21) (kc' := 0) (ks' := 0) (ws' := fun r35 => [(Do, .inl (4, 2, .inr (.inr (.inr (.inr dd))))), (tl, .inl (0, 6, .inl t)), (m, .inr (9, [.ref Mo, .ref Lo, .ref Do, .ref tl, .ref ca, .int x8.2])), (w, .inl (0, 21, .inl f)), (r35, .inl (0, 21, .inl (fun _ => 0)))]) gdX7_toOdd_28.2.2.2.2.1 rfl (by decide) rfl ac_int (fun _ => rfl) (by decide) (by decide) (by decide) (by omega) (by omega) (fun _ => rfl) (fun r35 => ?_)
      refine aw_astore_n (q := 38) (lv' := [(2, .ref r35), (0, .ref m), (1, .int p0)]) gdX7_toOdd_28.2.2.2.2.2.1 rfl (by decide) rfl ?_
      refine aw_iconst (q := 39) (v := 1) gdX7_toOdd_28.2.2.2.2.2.2.1 rfl (by decide) ?_
      refine aw_istore_n (q := 40) (lv' := [(3, .int (1 : Int32)), (2, .ref r35), (0, .ref m), (1, .int p0)]) gdX7_toOdd_28.2.2.2.2.2.2.2 rfl (by decide) rfl ?_
      refine aw_locals (lv' := [(0, .ref m), (1, .int p0), (2, .ref r35), (3, .int (1 : Int32))]) [2, 3, 1, 0] rfl ?_
      refine aw_world (ws' := [(m, .inr (9, [.ref Mo, .ref Lo, .ref Do, .ref tl, .ref ca, .int x8.2])), (Do, .inl (4, 2, .inr (.inr (.inr (.inr dd))))), (w, .inl (0, 21, .inl f)), (tl, .inl (0, 6, .inl t)), (r35, .inl (0, 21, .inl (fun _ => 0)))]) [2, 0, 3, 1, 4] rfl rfl ?_
      exact tX7_toOdd_40 hd N _ _ _ _ _ _
    · refine aw_aload_n (q := 29) gdX7_toOdd_28.1 rfl 0 rfl ?_
      refine aw_call (q := 32) (kc1 := 1) (ks1 := 21) (wc := [(m, .inr (9, [.ref Mo, .ref Lo, .ref Do, .ref tl, .ref ca, .int x8.2])), (tl, .inl (0, 6, .inl t))]) (wr := [(Do, .inl (4, 2, .inr (.inr (.inr (.inr dd))))), (w, .inl (0, 21, .inl f))]) (st1 := fun x29 g29 => [.int x29.1]) (ws1 := fun x29 g29 => [(Do, .inl (4, 2, .inr (.inr (.inr (.inr dd))))), (w, .inl (0, 21, .inl f)), (m, .inr (9, [.ref Mo, .ref Lo, .ref Do, .ref tl, .ref ca, .int x8.2])), (tl, .inl (0, 6, .inl x29.2))]) (As := [.ref m]) [2, 1] [0, 3] (fun _ => runV (q0 := 2) gdX7_toOdd_28.2.1 mi_X7_refused im_X7_refused se_X7_refused ml_X7_124 (by omega) rfl (Nat.le_of_ble_eq_true rfl) rfl rfl rfl rfl) (fun x9 h9 => ok_X7_refused h9) rfl rfl rfl rfl rfl (by decide +kernel) (by omega) (by omega) (fun _ _ => rfl) (fun _ _ => rfl) (fun x29 g29 => ?_)
      exact aw_ireturn (w := [(m, .inr (9, [.ref Mo, .ref Lo, .ref Do, .ref tl, .ref ca, .int x8.2])), (Do, .inl (4, 2, .inr (.inr (.inr (.inr dd))))), (w, .inl (0, 21, .inl f)), (tl, .inl (0, 6, .inl x29.2))]) [2, 0, 1, 3] gdX7_toOdd_28.2.2.1 rfl rfl rfl rfl (PN.mk (fun _ => 0) rfl rfl)
  · refine aw_iconst (q := 15) (v := 0) gdX7_toOdd_14.1 rfl (by decide) ?_
    exact aw_ireturn (w := [(m, .inr (9, [.ref Mo, .ref Lo, .ref Do, .ref tl, .ref ca, .int x8.2])), (Do, .inl (4, 2, .inr (.inr (.inr (.inr dd))))), (w, .inl (0, 21, .inl f)), (tl, .inl (0, 6, .inl t))]) [3, 0, 1, 2] gdX7_toOdd_14.2.1 rfl rfl rfl rfl (PN.mk (fun _ => 0) rfl rfl)
def fX7_copyDesk (N K : Nat) (th : Int32) (f : Nat → Int32) (f2 : Nat → Int32) (t : Nat → Int32) (p0 : Int32) : Option (Int32 × Int32 × (Nat → Int32) × (Nat → Int32)) :=
  ((fX7_isNo N K p0 (0 : Int32) (1 : Int32)).bind (fun x4 => ((fX7_isThrown N K th x4 (0 : Int32)).bind (fun x8 => (if x8.1 = 0 then (if p0 < 0 ∨ 2 ≤ p0.toNatClampNeg then none else ((fX7_laid N K x8.2 f2 f t ((1 : Int32) - p0)).bind (fun x26 => (if p0 < 0 ∨ 2 ≤ p0.toNatClampNeg then none else ((fX7_unlikeOnes N K f).bind (fun x36 => (some (x36, x8.2, x26.2.1, x26.2.2)))))))) else (some ((0 : Int32), x8.2, f2, t)))))))
set_option maxHeartbeats 4000000 in
set_option maxRecDepth 100000 in
theorem ok_X7_copyDesk {N K : Nat} {m Mo Lo Do tl ca w v : Nat} {dd : Nat → Option Nat} {th : Int32} {f : Nat → Int32} {f2 : Nat → Int32} {t : Nat → Int32} {p0 : Int32} (hd : ¬ (p0 < 0 ∨ 2 ≤ p0.toNatClampNeg) → dd p0.toNatClampNeg = some w) (hd2 : ¬ (((1 : Int32) - p0) < 0 ∨ 2 ≤ ((1 : Int32) - p0).toNatClampNeg) → dd ((1 : Int32) - p0).toNatClampNeg = some v) {xr : Int32 × Int32 × (Nat → Int32) × (Nat → Int32)} (hE : fX7_copyDesk N K th f f2 t p0 = some xr) : OkM yX7_copyDesk (.code yX7_copyDesk cX7_copyDesk 2 (some .int)) (2) 0 0 [.ref m, .int p0] [(m, .inr (9, [.ref Mo, .ref Lo, .ref Do, .ref tl, .ref ca, .int th])), (Do, .inl (4, 2, .inr (.inr (.inr (.inr dd))))), (w, .inl (0, 21, .inl f)), (v, .inl (0, 21, .inl f2)), (tl, .inl (0, 6, .inl t))] ((PN (U := Int32 × Int32 × (Nat → Int32) × (Nat → Int32)) (fun zz _ => some (.int zz.1)) (fun zz ad => [(m, .inr (9, [.ref Mo, .ref Lo, .ref Do, .ref tl, .ref ca, .int zz.2.1])), (Do, .inl (4, 2, .inr (.inr (.inr (.inr dd))))), (w, .inl (0, 21, .inl f)), (v, .inl (0, 21, .inl zz.2.2.1)), (tl, .inl (0, 6, .inl zz.2.2.2))])) xr) := by
  refine ok_of (by decide) (Nat.le_of_ble_eq_true rfl) hE ?_
  refine aw_locals (lv' := [(0, .ref m), (1, .int p0)]) [0, 1] rfl ?_
  refine aw_aload_n (q := 1) gdX7_copyDesk_0.1 rfl 0 rfl ?_
  refine aw_iload_n (q := 2) gdX7_copyDesk_0.2.1 rfl 1 rfl ?_
  refine aw_iconst (q := 3) (v := 0) gdX7_copyDesk_0.2.2.1 rfl (by decide) ?_
  refine aw_iconst (q := 4) (v := 1) gdX7_copyDesk_0.2.2.2.1 rfl (by decide) ?_
  refine aw_call (q := 7) (kc1 := 0) (ks1 := 0) (wc := []) (wr := [(m, .inr (9, [.ref Mo, .ref Lo, .ref Do, .ref tl, .ref ca, .int th])), (Do, .inl (4, 2, .inr (.inr (.inr (.inr dd))))), (w, .inl (0, 21, .inl f)), (v, .inl (0, 21, .inl f2)), (tl, .inl (0, 6, .inl t))]) (st1 := fun x4 g4 => [.int x4, .ref m]) (ws1 := fun x4 g4 => [(m, .inr (9, [.ref Mo, .ref Lo, .ref Do, .ref tl, .ref ca, .int th])), (Do, .inl (4, 2, .inr (.inr (.inr (.inr dd))))), (w, .inl (0, 21, .inl f)), (v, .inl (0, 21, .inl f2)), (tl, .inl (0, 6, .inl t))]) (As := [.int p0, .int (0 : Int32), .int (1 : Int32)]) [] [0, 1, 2, 3, 4] (fun _ => runS gdX7_copyDesk_0.2.2.2.2.1 mi_X7_isNo st_X7_isNo ml_X7_31 (by omega) rfl (Nat.le_of_ble_eq_true rfl) rfl) (fun x9 h9 => ok_X7_isNo h9) rfl rfl rfl rfl rfl (by decide +kernel) (by omega) (by omega) (fun _ _ => rfl) (fun _ _ => rfl) (fun x4 g4 => ?_)
  refine aw_iconst (q := 8) (v := 0) gdX7_copyDesk_0.2.2.2.2.2.1 rfl (by decide) ?_
  refine aw_call (q := 11) (kc1 := 0) (ks1 := 0) (wc := [(m, .inr (9, [.ref Mo, .ref Lo, .ref Do, .ref tl, .ref ca, .int th]))]) (wr := [(Do, .inl (4, 2, .inr (.inr (.inr (.inr dd))))), (w, .inl (0, 21, .inl f)), (v, .inl (0, 21, .inl f2)), (tl, .inl (0, 6, .inl t))]) (st1 := fun x8 g8 => [.int x8.1]) (ws1 := fun x8 g8 => [(Do, .inl (4, 2, .inr (.inr (.inr (.inr dd))))), (w, .inl (0, 21, .inl f)), (v, .inl (0, 21, .inl f2)), (tl, .inl (0, 6, .inl t)), (m, .inr (9, [.ref Mo, .ref Lo, .ref Do, .ref tl, .ref ca, .int x8.2]))]) (As := [.ref m, .int x4, .int (0 : Int32)]) [0] [1, 2, 3, 4] (fun _ => runV (q0 := 0) gdX7_copyDesk_0.2.2.2.2.2.2.1 mi_X7_isThrown im_X7_isThrown se_X7_isThrown ml_X7_110 (by omega) rfl (Nat.le_of_ble_eq_true rfl) rfl rfl rfl rfl) (fun x9 h9 => ok_X7_isThrown h9) rfl rfl rfl rfl rfl (by decide +kernel) (by omega) (by omega) (fun _ _ => rfl) (fun _ _ => rfl) (fun x8 g8 => ?_)
  refine aw_if_eq (tgt := 16) (q := 14) gdX7_copyDesk_0.2.2.2.2.2.2.2 (by decide) rfl (fun h_11 => ?_) (fun h_11 => ?_)
  · refine aw_aload_n (q := 17) gdX7_copyDesk_14.2.2.1 rfl 0 rfl ?_
    refine aw_iconst (q := 18) (v := 1) gdX7_copyDesk_14.2.2.2.1 rfl (by decide) ?_
    refine aw_iload_n (q := 19) gdX7_copyDesk_14.2.2.2.2.1 rfl 1 rfl ?_
    refine aw_isub (q := 20) gdX7_copyDesk_14.2.2.2.2.2.1 rfl ?_
    refine aw_aload_n (q := 21) gdX7_copyDesk_14.2.2.2.2.2.2.1 rfl 0 rfl ?_
    refine aw_get (q := 24) gdX7_copyDesk_14.2.2.2.2.2.2.2 rfl fl_X7_17 4 rfl rfl ?_
    refine aw_iload_n (q := 25) gdX7_copyDesk_24.1 rfl 1 rfl ?_
    refine aw_aald (q := 26) gdX7_copyDesk_24.2.1 rfl 0 rfl (by decide) rfl hd ?_
    refine aw_call (q := 29) (kc1 := 0) (ks1 := 0) (wc := [(m, .inr (9, [.ref Mo, .ref Lo, .ref Do, .ref tl, .ref ca, .int x8.2])), (Do, .inl (4, 2, .inr (.inr (.inr (.inr dd))))), (v, .inl (0, 21, .inl f2)), (w, .inl (0, 21, .inl f)), (tl, .inl (0, 6, .inl t))]) (wr := []) (st1 := fun x26 g26 => [.int x26.1]) (ws1 := fun x26 g26 => [(m, .inr (9, [.ref Mo, .ref Lo, .ref Do, .ref tl, .ref ca, .int x8.2])), (Do, .inl (4, 2, .inr (.inr (.inr (.inr dd))))), (v, .inl (0, 21, .inl x26.2.1)), (w, .inl (0, 21, .inl f)), (tl, .inl (0, 6, .inl x26.2.2))]) (As := [.ref m, .int ((1 : Int32) - p0), .ref w]) [4, 0, 2, 1, 3] [] (fun _ => runV (q0 := 4) gdX7_copyDesk_24.2.2.1 mi_X7_laid im_X7_laid se_X7_laid ml_X7_165 (by omega) rfl (Nat.le_of_ble_eq_true rfl) rfl rfl rfl rfl) (fun x9 h9 => ok_X7_laid hd2 h9) rfl rfl rfl rfl rfl (by decide +kernel) (by omega) (by omega) (fun _ _ => rfl) (fun _ _ => rfl) (fun x26 g26 => ?_)
    refine aw_pop (q := 30) gdX7_copyDesk_24.2.2.2.1 rfl rfl ?_
    refine aw_aload_n (q := 31) gdX7_copyDesk_24.2.2.2.2.1 rfl 0 rfl ?_
    refine aw_get (q := 34) gdX7_copyDesk_24.2.2.2.2.2.1 rfl fl_X7_17 0 rfl rfl ?_
    refine aw_iload_n (q := 35) gdX7_copyDesk_24.2.2.2.2.2.2.1 rfl 1 rfl ?_
    refine aw_aald (q := 36) gdX7_copyDesk_24.2.2.2.2.2.2.2 rfl 1 rfl (by decide) rfl hd ?_
    refine aw_call (q := 39) (kc1 := 0) (ks1 := 0) (wc := [(w, .inl (0, 21, .inl f))]) (wr := [(m, .inr (9, [.ref Mo, .ref Lo, .ref Do, .ref tl, .ref ca, .int x8.2])), (Do, .inl (4, 2, .inr (.inr (.inr (.inr dd))))), (v, .inl (0, 21, .inl x26.2.1)), (tl, .inl (0, 6, .inl x26.2.2))]) (st1 := fun x36 g36 => [.int x36]) (ws1 := fun x36 g36 => [(m, .inr (9, [.ref Mo, .ref Lo, .ref Do, .ref tl, .ref ca, .int x8.2])), (Do, .inl (4, 2, .inr (.inr (.inr (.inr dd))))), (v, .inl (0, 21, .inl x26.2.1)), (tl, .inl (0, 6, .inl x26.2.2)), (w, .inl (0, 21, .inl f))]) (As := [.ref w]) [3] [0, 1, 2, 4] (fun _ => runS gdX7_copyDesk_36.1 mi_X7_unlikeOnes st_X7_unlikeOnes ml_X7_76 (by omega) rfl (Nat.le_of_ble_eq_true rfl) rfl) (fun x9 h9 => ok_X7_unlikeOnes h9) rfl rfl rfl rfl rfl (by decide +kernel) (by omega) (by omega) (fun _ _ => rfl) (fun _ _ => rfl) (fun x36 g36 => ?_)
    exact aw_ireturn (w := [(m, .inr (9, [.ref Mo, .ref Lo, .ref Do, .ref tl, .ref ca, .int x8.2])), (Do, .inl (4, 2, .inr (.inr (.inr (.inr dd))))), (w, .inl (0, 21, .inl f)), (v, .inl (0, 21, .inl x26.2.1)), (tl, .inl (0, 6, .inl x26.2.2))]) [0, 1, 4, 2, 3] gdX7_copyDesk_36.2 rfl rfl rfl rfl (PN.mk (fun _ => 0) rfl rfl)
  · refine aw_iconst (q := 15) (v := 0) gdX7_copyDesk_14.1 rfl (by decide) ?_
    exact aw_ireturn (w := [(m, .inr (9, [.ref Mo, .ref Lo, .ref Do, .ref tl, .ref ca, .int x8.2])), (Do, .inl (4, 2, .inr (.inr (.inr (.inr dd))))), (w, .inl (0, 21, .inl f)), (v, .inl (0, 21, .inl f2)), (tl, .inl (0, 6, .inl t))]) [4, 0, 1, 2, 3] gdX7_copyDesk_14.2.1 rfl rfl rfl rfl (PN.mk (fun _ => 0) rfl rfl)
def fX7_times (N K : Nat) (th : Int32) (f : Nat → Int32) (p0 : Int32) (p1 : Int32) : Option (Int32 × Int32) :=
  ((fX7_isNo N K p0 (0 : Int32) (1 : Int32)).bind (fun x4 => ((fX7_isNo N K p1 (1 : Int32) (20 : Int32)).bind (fun x11 => ((fX7_isThrown N K th x4 x11).bind (fun x14 => (if x14.1 = 0 then (if p0 < 0 ∨ 2 ≤ p0.toNatClampNeg then none else (if p1 < 0 ∨ 21 ≤ p1.toNatClampNeg then none else (some ((f p1.toNatClampNeg), x14.2)))) else (some ((0 : Int32), x14.2)))))))))
set_option maxHeartbeats 4000000 in
set_option maxRecDepth 100000 in
theorem ok_X7_times {N K : Nat} {m Mo Lo Do tl ca w : Nat} {dd : Nat → Option Nat} {th : Int32} {f : Nat → Int32} {p0 : Int32} {p1 : Int32} (hd : ¬ (p0 < 0 ∨ 2 ≤ p0.toNatClampNeg) → dd p0.toNatClampNeg = some w) {xr : Int32 × Int32} (hE : fX7_times N K th f p0 p1 = some xr) : OkM yX7_times (.code yX7_times cX7_times 3 (some .int)) (1) 0 0 [.ref m, .int p0, .int p1] [(m, .inr (9, [.ref Mo, .ref Lo, .ref Do, .ref tl, .ref ca, .int th])), (Do, .inl (4, 2, .inr (.inr (.inr (.inr dd))))), (w, .inl (0, 21, .inl f))] ((PN (U := Int32 × Int32) (fun zz _ => some (.int zz.1)) (fun zz ad => [(m, .inr (9, [.ref Mo, .ref Lo, .ref Do, .ref tl, .ref ca, .int zz.2])), (Do, .inl (4, 2, .inr (.inr (.inr (.inr dd))))), (w, .inl (0, 21, .inl f))])) xr) := by
  refine ok_of (by decide) (Nat.le_of_ble_eq_true rfl) hE ?_
  refine aw_locals (lv' := [(0, .ref m), (1, .int p0), (2, .int p1)]) [0, 1, 2] rfl ?_
  refine aw_aload_n (q := 1) gdX7_times_0.1 rfl 0 rfl ?_
  refine aw_iload_n (q := 2) gdX7_times_0.2.1 rfl 1 rfl ?_
  refine aw_iconst (q := 3) (v := 0) gdX7_times_0.2.2.1 rfl (by decide) ?_
  refine aw_iconst (q := 4) (v := 1) gdX7_times_0.2.2.2.1 rfl (by decide) ?_
  refine aw_call (q := 7) (kc1 := 0) (ks1 := 0) (wc := []) (wr := [(m, .inr (9, [.ref Mo, .ref Lo, .ref Do, .ref tl, .ref ca, .int th])), (Do, .inl (4, 2, .inr (.inr (.inr (.inr dd))))), (w, .inl (0, 21, .inl f))]) (st1 := fun x4 g4 => [.int x4, .ref m]) (ws1 := fun x4 g4 => [(m, .inr (9, [.ref Mo, .ref Lo, .ref Do, .ref tl, .ref ca, .int th])), (Do, .inl (4, 2, .inr (.inr (.inr (.inr dd))))), (w, .inl (0, 21, .inl f))]) (As := [.int p0, .int (0 : Int32), .int (1 : Int32)]) [] [0, 1, 2] (fun _ => runS gdX7_times_0.2.2.2.2.1 mi_X7_isNo st_X7_isNo ml_X7_31 (by omega) rfl (Nat.le_of_ble_eq_true rfl) rfl) (fun x9 h9 => ok_X7_isNo h9) rfl rfl rfl rfl rfl (by decide +kernel) (by omega) (by omega) (fun _ _ => rfl) (fun _ _ => rfl) (fun x4 g4 => ?_)
  refine aw_iload_n (q := 8) gdX7_times_0.2.2.2.2.2.1 rfl 2 rfl ?_
  refine aw_iconst (q := 9) (v := 1) gdX7_times_0.2.2.2.2.2.2.1 rfl (by decide) ?_
  refine aw_bipush (q := 11) (v := 20) gdX7_times_0.2.2.2.2.2.2.2 rfl (by decide) ?_
  refine aw_call (q := 14) (kc1 := 0) (ks1 := 0) (wc := []) (wr := [(m, .inr (9, [.ref Mo, .ref Lo, .ref Do, .ref tl, .ref ca, .int th])), (Do, .inl (4, 2, .inr (.inr (.inr (.inr dd))))), (w, .inl (0, 21, .inl f))]) (st1 := fun x11 g11 => [.int x11, .int x4, .ref m]) (ws1 := fun x11 g11 => [(m, .inr (9, [.ref Mo, .ref Lo, .ref Do, .ref tl, .ref ca, .int th])), (Do, .inl (4, 2, .inr (.inr (.inr (.inr dd))))), (w, .inl (0, 21, .inl f))]) (As := [.int p1, .int (1 : Int32), .int (20 : Int32)]) [] [0, 1, 2] (fun _ => runS gdX7_times_11.1 mi_X7_isNo st_X7_isNo ml_X7_31 (by omega) rfl (Nat.le_of_ble_eq_true rfl) rfl) (fun x9 h9 => ok_X7_isNo h9) rfl rfl rfl rfl rfl (by decide +kernel) (by omega) (by omega) (fun _ _ => rfl) (fun _ _ => rfl) (fun x11 g11 => ?_)
  refine aw_call (q := 17) (kc1 := 0) (ks1 := 0) (wc := [(m, .inr (9, [.ref Mo, .ref Lo, .ref Do, .ref tl, .ref ca, .int th]))]) (wr := [(Do, .inl (4, 2, .inr (.inr (.inr (.inr dd))))), (w, .inl (0, 21, .inl f))]) (st1 := fun x14 g14 => [.int x14.1]) (ws1 := fun x14 g14 => [(Do, .inl (4, 2, .inr (.inr (.inr (.inr dd))))), (w, .inl (0, 21, .inl f)), (m, .inr (9, [.ref Mo, .ref Lo, .ref Do, .ref tl, .ref ca, .int x14.2]))]) (As := [.ref m, .int x4, .int x11]) [0] [1, 2] (fun _ => runV (q0 := 0) gdX7_times_11.2.1 mi_X7_isThrown im_X7_isThrown se_X7_isThrown ml_X7_110 (by omega) rfl (Nat.le_of_ble_eq_true rfl) rfl rfl rfl rfl) (fun x9 h9 => ok_X7_isThrown h9) rfl rfl rfl rfl rfl (by decide +kernel) (by omega) (by omega) (fun _ _ => rfl) (fun _ _ => rfl) (fun x14 g14 => ?_)
  refine aw_if_eq (tgt := 24) (q := 20) gdX7_times_11.2.2.1 (by decide) rfl (fun h_17 => ?_) (fun h_17 => ?_)
  · refine aw_aload_n (q := 25) gdX7_times_11.2.2.2.2.2.1 rfl 0 rfl ?_
    refine aw_get (q := 28) gdX7_times_11.2.2.2.2.2.2.1 rfl fl_X7_17 2 rfl rfl ?_
    refine aw_iload_n (q := 29) gdX7_times_11.2.2.2.2.2.2.2 rfl 1 rfl ?_
    refine aw_aald (q := 30) gdX7_times_29.1 rfl 0 rfl (by decide) rfl hd ?_
    refine aw_iload_n (q := 31) gdX7_times_29.2.1 rfl 2 rfl ?_
    refine aw_iald (q := 32) gdX7_times_29.2.2.1 rfl 1 rfl ?_
    exact aw_ireturn (w := [(m, .inr (9, [.ref Mo, .ref Lo, .ref Do, .ref tl, .ref ca, .int x14.2])), (Do, .inl (4, 2, .inr (.inr (.inr (.inr dd))))), (w, .inl (0, 21, .inl f))]) [2, 0, 1] gdX7_times_29.2.2.2 rfl rfl rfl rfl (PN.mk (fun _ => 0) rfl rfl)
  · refine aw_iconst (q := 21) (v := 0) gdX7_times_11.2.2.2.1 rfl (by decide) ?_
    refine aw_goto (tgt := 32) gdX7_times_11.2.2.2.2.1 (by decide) ?_
    exact aw_ireturn (w := [(m, .inr (9, [.ref Mo, .ref Lo, .ref Do, .ref tl, .ref ca, .int x14.2])), (Do, .inl (4, 2, .inr (.inr (.inr (.inr dd))))), (w, .inl (0, 21, .inl f))]) [2, 0, 1] gdX7_times_29.2.2.2 rfl rfl rfl rfl (PN.mk (fun _ => 0) rfl rfl)
def fX7_way (N K : Nat) (th : Int32) (f : Nat → Int32) (p0 : Int32) (p1 : Int32) : Option (Int32 × Int32) :=
  ((fX7_isNo N K p0 (0 : Int32) (1 : Int32)).bind (fun x4 => ((fX7_isNo N K p1 (0 : Int32) (2 : Int32)).bind (fun x10 => ((fX7_isThrown N K th x4 x10).bind (fun x13 => (if x13.1 = 0 then (if p1 = 0 then (if p0 < 0 ∨ 2 ≤ p0.toNatClampNeg then none else ((fX7_number N K f).bind (fun x31 => (some (x31, x13.2))))) else (if p1 = (1 : Int32) then (if p0 < 0 ∨ 2 ≤ p0.toNatClampNeg then none else ((fX7_parts N K f).bind (fun x48 => (some (x48, x13.2))))) else (if p0 < 0 ∨ 2 ≤ p0.toNatClampNeg then none else ((fX7_unlikeOnes N K f).bind (fun x60 => (some (x60, x13.2))))))) else (some ((0 : Int32), x13.2)))))))))
set_option maxHeartbeats 4000000 in
set_option maxRecDepth 100000 in
theorem ok_X7_way {N K : Nat} {m Mo Lo Do tl ca w : Nat} {dd : Nat → Option Nat} {th : Int32} {f : Nat → Int32} {p0 : Int32} {p1 : Int32} (hd : ¬ (p0 < 0 ∨ 2 ≤ p0.toNatClampNeg) → dd p0.toNatClampNeg = some w) {xr : Int32 × Int32} (hE : fX7_way N K th f p0 p1 = some xr) : OkM yX7_way (.code yX7_way cX7_way 3 (some .int)) (2) 0 0 [.ref m, .int p0, .int p1] [(m, .inr (9, [.ref Mo, .ref Lo, .ref Do, .ref tl, .ref ca, .int th])), (Do, .inl (4, 2, .inr (.inr (.inr (.inr dd))))), (w, .inl (0, 21, .inl f))] ((PN (U := Int32 × Int32) (fun zz _ => some (.int zz.1)) (fun zz ad => [(m, .inr (9, [.ref Mo, .ref Lo, .ref Do, .ref tl, .ref ca, .int zz.2])), (Do, .inl (4, 2, .inr (.inr (.inr (.inr dd))))), (w, .inl (0, 21, .inl f))])) xr) := by
  refine ok_of (by decide) (Nat.le_of_ble_eq_true rfl) hE ?_
  refine aw_locals (lv' := [(0, .ref m), (1, .int p0), (2, .int p1)]) [0, 1, 2] rfl ?_
  refine aw_aload_n (q := 1) gdX7_way_0.1 rfl 0 rfl ?_
  refine aw_iload_n (q := 2) gdX7_way_0.2.1 rfl 1 rfl ?_
  refine aw_iconst (q := 3) (v := 0) gdX7_way_0.2.2.1 rfl (by decide) ?_
  refine aw_iconst (q := 4) (v := 1) gdX7_way_0.2.2.2.1 rfl (by decide) ?_
  refine aw_call (q := 7) (kc1 := 0) (ks1 := 0) (wc := []) (wr := [(m, .inr (9, [.ref Mo, .ref Lo, .ref Do, .ref tl, .ref ca, .int th])), (Do, .inl (4, 2, .inr (.inr (.inr (.inr dd))))), (w, .inl (0, 21, .inl f))]) (st1 := fun x4 g4 => [.int x4, .ref m]) (ws1 := fun x4 g4 => [(m, .inr (9, [.ref Mo, .ref Lo, .ref Do, .ref tl, .ref ca, .int th])), (Do, .inl (4, 2, .inr (.inr (.inr (.inr dd))))), (w, .inl (0, 21, .inl f))]) (As := [.int p0, .int (0 : Int32), .int (1 : Int32)]) [] [0, 1, 2] (fun _ => runS gdX7_way_0.2.2.2.2.1 mi_X7_isNo st_X7_isNo ml_X7_31 (by omega) rfl (Nat.le_of_ble_eq_true rfl) rfl) (fun x9 h9 => ok_X7_isNo h9) rfl rfl rfl rfl rfl (by decide +kernel) (by omega) (by omega) (fun _ _ => rfl) (fun _ _ => rfl) (fun x4 g4 => ?_)
  refine aw_iload_n (q := 8) gdX7_way_0.2.2.2.2.2.1 rfl 2 rfl ?_
  refine aw_iconst (q := 9) (v := 0) gdX7_way_0.2.2.2.2.2.2.1 rfl (by decide) ?_
  refine aw_iconst (q := 10) (v := 2) gdX7_way_0.2.2.2.2.2.2.2 rfl (by decide) ?_
  refine aw_call (q := 13) (kc1 := 0) (ks1 := 0) (wc := []) (wr := [(m, .inr (9, [.ref Mo, .ref Lo, .ref Do, .ref tl, .ref ca, .int th])), (Do, .inl (4, 2, .inr (.inr (.inr (.inr dd))))), (w, .inl (0, 21, .inl f))]) (st1 := fun x10 g10 => [.int x10, .int x4, .ref m]) (ws1 := fun x10 g10 => [(m, .inr (9, [.ref Mo, .ref Lo, .ref Do, .ref tl, .ref ca, .int th])), (Do, .inl (4, 2, .inr (.inr (.inr (.inr dd))))), (w, .inl (0, 21, .inl f))]) (As := [.int p1, .int (0 : Int32), .int (2 : Int32)]) [] [0, 1, 2] (fun _ => runS gdX7_way_10.1 mi_X7_isNo st_X7_isNo ml_X7_31 (by omega) rfl (Nat.le_of_ble_eq_true rfl) rfl) (fun x9 h9 => ok_X7_isNo h9) rfl rfl rfl rfl rfl (by decide +kernel) (by omega) (by omega) (fun _ _ => rfl) (fun _ _ => rfl) (fun x10 g10 => ?_)
  refine aw_call (q := 16) (kc1 := 0) (ks1 := 0) (wc := [(m, .inr (9, [.ref Mo, .ref Lo, .ref Do, .ref tl, .ref ca, .int th]))]) (wr := [(Do, .inl (4, 2, .inr (.inr (.inr (.inr dd))))), (w, .inl (0, 21, .inl f))]) (st1 := fun x13 g13 => [.int x13.1]) (ws1 := fun x13 g13 => [(Do, .inl (4, 2, .inr (.inr (.inr (.inr dd))))), (w, .inl (0, 21, .inl f)), (m, .inr (9, [.ref Mo, .ref Lo, .ref Do, .ref tl, .ref ca, .int x13.2]))]) (As := [.ref m, .int x4, .int x10]) [0] [1, 2] (fun _ => runV (q0 := 0) gdX7_way_10.2.1 mi_X7_isThrown im_X7_isThrown se_X7_isThrown ml_X7_110 (by omega) rfl (Nat.le_of_ble_eq_true rfl) rfl rfl rfl rfl) (fun x9 h9 => ok_X7_isThrown h9) rfl rfl rfl rfl rfl (by decide +kernel) (by omega) (by omega) (fun _ _ => rfl) (fun _ _ => rfl) (fun x13 g13 => ?_)
  refine aw_if_eq (tgt := 21) (q := 19) gdX7_way_10.2.2.1 (by decide) rfl (fun h_16 => ?_) (fun h_16 => ?_)
  · refine aw_iload_n (q := 22) gdX7_way_10.2.2.2.2.2.1 rfl 2 rfl ?_
    refine aw_if_ne (tgt := 37) (q := 25) gdX7_way_10.2.2.2.2.2.2.1 (by decide) rfl (fun h_22 => ?_) (fun h_22 => ?_)
    · refine aw_iload_n (q := 38) gdX7_way_26.2.2.2.2.2.1 rfl 2 rfl ?_
      refine aw_iconst (q := 39) (v := 1) gdX7_way_26.2.2.2.2.2.2.1 rfl (by decide) ?_
      refine aw_icmp_ne (tgt := 54) (q := 42) gdX7_way_26.2.2.2.2.2.2.2 (by decide) rfl (fun h_39 => ?_) (fun h_39 => ?_)
      · refine aw_aload_n (q := 55) gdX7_way_42.2.2.2.2.2.2.1 rfl 0 rfl ?_
        refine aw_get (q := 58) gdX7_way_42.2.2.2.2.2.2.2 rfl fl_X7_17 2 rfl rfl ?_
        refine aw_iload_n (q := 59) gdX7_way_58.1 rfl 1 rfl ?_
        refine aw_aald (q := 60) gdX7_way_58.2.1 rfl 0 rfl (by decide) rfl hd ?_
        refine aw_call (q := 63) (kc1 := 0) (ks1 := 0) (wc := [(w, .inl (0, 21, .inl f))]) (wr := [(Do, .inl (4, 2, .inr (.inr (.inr (.inr dd))))), (m, .inr (9, [.ref Mo, .ref Lo, .ref Do, .ref tl, .ref ca, .int x13.2]))]) (st1 := fun x60 g60 => [.int x60]) (ws1 := fun x60 g60 => [(Do, .inl (4, 2, .inr (.inr (.inr (.inr dd))))), (m, .inr (9, [.ref Mo, .ref Lo, .ref Do, .ref tl, .ref ca, .int x13.2])), (w, .inl (0, 21, .inl f))]) (As := [.ref w]) [1] [0, 2] (fun _ => runS gdX7_way_58.2.2.1 mi_X7_unlikeOnes st_X7_unlikeOnes ml_X7_76 (by omega) rfl (Nat.le_of_ble_eq_true rfl) rfl) (fun x9 h9 => ok_X7_unlikeOnes h9) rfl rfl rfl rfl rfl (by decide +kernel) (by omega) (by omega) (fun _ _ => rfl) (fun _ _ => rfl) (fun x60 g60 => ?_)
        exact aw_ireturn (w := [(m, .inr (9, [.ref Mo, .ref Lo, .ref Do, .ref tl, .ref ca, .int x13.2])), (Do, .inl (4, 2, .inr (.inr (.inr (.inr dd))))), (w, .inl (0, 21, .inl f))]) [1, 0, 2] gdX7_way_58.2.2.2 rfl rfl rfl rfl (PN.mk (fun _ => 0) rfl rfl)
      · refine aw_aload_n (q := 43) gdX7_way_42.1 rfl 0 rfl ?_
        refine aw_get (q := 46) gdX7_way_42.2.1 rfl fl_X7_17 2 rfl rfl ?_
        refine aw_iload_n (q := 47) gdX7_way_42.2.2.1 rfl 1 rfl ?_
        refine aw_aald (q := 48) gdX7_way_42.2.2.2.1 rfl 0 rfl (by decide) rfl hd ?_
        refine aw_call (q := 51) (kc1 := 0) (ks1 := 0) (wc := [(w, .inl (0, 21, .inl f))]) (wr := [(Do, .inl (4, 2, .inr (.inr (.inr (.inr dd))))), (m, .inr (9, [.ref Mo, .ref Lo, .ref Do, .ref tl, .ref ca, .int x13.2]))]) (st1 := fun x48 g48 => [.int x48]) (ws1 := fun x48 g48 => [(Do, .inl (4, 2, .inr (.inr (.inr (.inr dd))))), (m, .inr (9, [.ref Mo, .ref Lo, .ref Do, .ref tl, .ref ca, .int x13.2])), (w, .inl (0, 21, .inl f))]) (As := [.ref w]) [1] [0, 2] (fun _ => runS gdX7_way_42.2.2.2.2.1 mi_X7_parts st_X7_parts ml_X7_72 (by omega) rfl (Nat.le_of_ble_eq_true rfl) rfl) (fun x9 h9 => ok_X7_parts h9) rfl rfl rfl rfl rfl (by decide +kernel) (by omega) (by omega) (fun _ _ => rfl) (fun _ _ => rfl) (fun x48 g48 => ?_)
        refine aw_goto (tgt := 63) gdX7_way_42.2.2.2.2.2.1 (by decide) ?_
        exact aw_ireturn (w := [(m, .inr (9, [.ref Mo, .ref Lo, .ref Do, .ref tl, .ref ca, .int x13.2])), (Do, .inl (4, 2, .inr (.inr (.inr (.inr dd))))), (w, .inl (0, 21, .inl f))]) [1, 0, 2] gdX7_way_58.2.2.2 rfl rfl rfl rfl (PN.mk (fun _ => 0) rfl rfl)
    · refine aw_aload_n (q := 26) gdX7_way_10.2.2.2.2.2.2.2 rfl 0 rfl ?_
      refine aw_get (q := 29) gdX7_way_26.1 rfl fl_X7_17 2 rfl rfl ?_
      refine aw_iload_n (q := 30) gdX7_way_26.2.1 rfl 1 rfl ?_
      refine aw_aald (q := 31) gdX7_way_26.2.2.1 rfl 0 rfl (by decide) rfl hd ?_
      refine aw_call (q := 34) (kc1 := 0) (ks1 := 0) (wc := [(w, .inl (0, 21, .inl f))]) (wr := [(Do, .inl (4, 2, .inr (.inr (.inr (.inr dd))))), (m, .inr (9, [.ref Mo, .ref Lo, .ref Do, .ref tl, .ref ca, .int x13.2]))]) (st1 := fun x31 g31 => [.int x31]) (ws1 := fun x31 g31 => [(Do, .inl (4, 2, .inr (.inr (.inr (.inr dd))))), (m, .inr (9, [.ref Mo, .ref Lo, .ref Do, .ref tl, .ref ca, .int x13.2])), (w, .inl (0, 21, .inl f))]) (As := [.ref w]) [1] [0, 2] (fun _ => runS gdX7_way_26.2.2.2.1 mi_X7_number st_X7_number ml_X7_121 (by omega) rfl (Nat.le_of_ble_eq_true rfl) rfl) (fun x9 h9 => ok_X7_number h9) rfl rfl rfl rfl rfl (by decide +kernel) (by omega) (by omega) (fun _ _ => rfl) (fun _ _ => rfl) (fun x31 g31 => ?_)
      refine aw_goto (tgt := 63) gdX7_way_26.2.2.2.2.1 (by decide) ?_
      exact aw_ireturn (w := [(m, .inr (9, [.ref Mo, .ref Lo, .ref Do, .ref tl, .ref ca, .int x13.2])), (Do, .inl (4, 2, .inr (.inr (.inr (.inr dd))))), (w, .inl (0, 21, .inl f))]) [1, 0, 2] gdX7_way_58.2.2.2 rfl rfl rfl rfl (PN.mk (fun _ => 0) rfl rfl)
  · refine aw_iconst (q := 20) (v := 0) gdX7_way_10.2.2.2.1 rfl (by decide) ?_
    exact aw_ireturn (w := [(m, .inr (9, [.ref Mo, .ref Lo, .ref Do, .ref tl, .ref ca, .int x13.2])), (Do, .inl (4, 2, .inr (.inr (.inr (.inr dd))))), (w, .inl (0, 21, .inl f))]) [2, 0, 1] gdX7_way_10.2.2.2.2.1 rfl rfl rfl rfl (PN.mk (fun _ => 0) rfl rfl)
def fX7_isOf_32 (N K : Nat) (th : Int32) (f : Nat → Int32) (p0 : Int32) (p1 : Int32) (p2 : Int32) (s0 : Int32) (s1 : Int32) (th_ : Int32) : Option (Int32 × Int32) :=
  ((fX7_isThrown N K th_ s1 s0).bind (fun x32 => (if x32.1 = 0 then (if p0 < 0 ∨ 2 ≤ p0.toNatClampNeg then none else ((fX7_isOfKind N K f p1 p2).bind (fun x46 => (if x46 = 0 then (some ((0 : Int32), x32.2)) else (some ((1 : Int32), x32.2)))))) else (some ((0 : Int32), x32.2)))))
set_option maxHeartbeats 4000000 in
set_option maxRecDepth 100000 in
theorem tX7_isOf_32 {N K : Nat} {m Mo Lo Do tl ca w : Nat} {dd : Nat → Option Nat} {th : Int32} {f : Nat → Int32} {p0 : Int32} {p1 : Int32} {p2 : Int32} (hd : ¬ (p0 < 0 ∨ 2 ≤ p0.toNatClampNeg) → dd p0.toNatClampNeg = some w) : ∀ (s0 : Int32) (s1 : Int32) (th_ : Int32), AW RX7 "isOf" cX7_isOf 4 (some .boolean) [] (fun _ _ => True) (4) (PN (U := Int32 × Int32) (fun zz _ => some (.int zz.1)) (fun zz ad => [(m, .inr (9, [.ref Mo, .ref Lo, .ref Do, .ref tl, .ref ca, .int zz.2])), (Do, .inl (4, 2, .inr (.inr (.inr (.inr dd))))), (w, .inl (0, 21, .inl f))])) 0 0 (fX7_isOf_32 N K th f p0 p1 p2  s0 s1 th_) 32 [(0, .ref m), (1, .int p0), (2, .int p1), (3, .int p2)] [.int s0, .int s1, .ref m] [(m, .inr (9, [.ref Mo, .ref Lo, .ref Do, .ref tl, .ref ca, .int th_])), (Do, .inl (4, 2, .inr (.inr (.inr (.inr dd))))), (w, .inl (0, 21, .inl f))] := by
  intro s0 s1 th_
  refine aw_call (q := 35) (kc1 := 0) (ks1 := 0) (wc := [(m, .inr (9, [.ref Mo, .ref Lo, .ref Do, .ref tl, .ref ca, .int th_]))]) (wr := [(Do, .inl (4, 2, .inr (.inr (.inr (.inr dd))))), (w, .inl (0, 21, .inl f))]) (st1 := fun x32 g32 => [.int x32.1]) (ws1 := fun x32 g32 => [(Do, .inl (4, 2, .inr (.inr (.inr (.inr dd))))), (w, .inl (0, 21, .inl f)), (m, .inr (9, [.ref Mo, .ref Lo, .ref Do, .ref tl, .ref ca, .int x32.2]))]) (As := [.ref m, .int s1, .int s0]) [0] [1, 2] (fun _ => runV (q0 := 0) gdX7_isOf_28.2.2.1 mi_X7_isThrown im_X7_isThrown se_X7_isThrown ml_X7_110 (by omega) rfl (Nat.le_of_ble_eq_true rfl) rfl rfl rfl rfl) (fun x9 h9 => ok_X7_isThrown h9) rfl rfl rfl rfl rfl (by decide +kernel) (by omega) (by omega) (fun _ _ => rfl) (fun _ _ => rfl) (fun x32 g32 => ?_)
  refine aw_if_ne (tgt := 56) (q := 38) gdX7_isOf_28.2.2.2.1 (by decide) rfl (fun h_35 => ?_) (fun h_35 => ?_)
  · refine aw_iconst (q := 57) (v := 0) gdX7_isOf_44.2.2.2.2.2.2.1 rfl (by decide) ?_
    exact aw_ireturn (w := [(m, .inr (9, [.ref Mo, .ref Lo, .ref Do, .ref tl, .ref ca, .int x32.2])), (Do, .inl (4, 2, .inr (.inr (.inr (.inr dd))))), (w, .inl (0, 21, .inl f))]) [2, 0, 1] gdX7_isOf_44.2.2.2.2.2.2.2 rfl rfl rfl rfl (PN.mk (fun _ => 0) rfl rfl)
  · refine aw_aload_n (q := 39) gdX7_isOf_28.2.2.2.2.1 rfl 0 rfl ?_
    refine aw_get (q := 42) gdX7_isOf_28.2.2.2.2.2.1 rfl fl_X7_17 2 rfl rfl ?_
    refine aw_iload_n (q := 43) gdX7_isOf_28.2.2.2.2.2.2.1 rfl 1 rfl ?_
    refine aw_aald (q := 44) gdX7_isOf_28.2.2.2.2.2.2.2 rfl 0 rfl (by decide) rfl hd ?_
    refine aw_iload_n (q := 45) gdX7_isOf_44.1 rfl 2 rfl ?_
    refine aw_iload_n (q := 46) gdX7_isOf_44.2.1 rfl 3 rfl ?_
    refine aw_call (q := 49) (kc1 := 0) (ks1 := 0) (wc := [(w, .inl (0, 21, .inl f))]) (wr := [(Do, .inl (4, 2, .inr (.inr (.inr (.inr dd))))), (m, .inr (9, [.ref Mo, .ref Lo, .ref Do, .ref tl, .ref ca, .int x32.2]))]) (st1 := fun x46 g46 => [.int x46]) (ws1 := fun x46 g46 => [(Do, .inl (4, 2, .inr (.inr (.inr (.inr dd))))), (m, .inr (9, [.ref Mo, .ref Lo, .ref Do, .ref tl, .ref ca, .int x32.2])), (w, .inl (0, 21, .inl f))]) (As := [.ref w, .int p1, .int p2]) [1] [0, 2] (fun _ => runS gdX7_isOf_44.2.2.1 mi_X7_isOfKind st_X7_isOfKind ml_X7_100 (by omega) rfl (Nat.le_of_ble_eq_true rfl) rfl) (fun x9 h9 => ok_X7_isOfKind h9) rfl rfl rfl rfl rfl (by decide +kernel) (by omega) (by omega) (fun _ _ => rfl) (fun _ _ => rfl) (fun x46 g46 => ?_)
    refine aw_if_eq (tgt := 56) (q := 52) gdX7_isOf_44.2.2.2.1 (by decide) rfl (fun h_49 => ?_) (fun h_49 => ?_)
    · refine aw_iconst (q := 57) (v := 0) gdX7_isOf_44.2.2.2.2.2.2.1 rfl (by decide) ?_
      exact aw_ireturn (w := [(m, .inr (9, [.ref Mo, .ref Lo, .ref Do, .ref tl, .ref ca, .int x32.2])), (Do, .inl (4, 2, .inr (.inr (.inr (.inr dd))))), (w, .inl (0, 21, .inl f))]) [1, 0, 2] gdX7_isOf_44.2.2.2.2.2.2.2 rfl rfl rfl rfl (PN.mk (fun _ => 0) rfl rfl)
    · refine aw_iconst (q := 53) (v := 1) gdX7_isOf_44.2.2.2.2.1 rfl (by decide) ?_
      refine aw_goto (tgt := 57) gdX7_isOf_44.2.2.2.2.2.1 (by decide) ?_
      exact aw_ireturn (w := [(m, .inr (9, [.ref Mo, .ref Lo, .ref Do, .ref tl, .ref ca, .int x32.2])), (Do, .inl (4, 2, .inr (.inr (.inr (.inr dd))))), (w, .inl (0, 21, .inl f))]) [1, 0, 2] gdX7_isOf_44.2.2.2.2.2.2.2 rfl rfl rfl rfl (PN.mk (fun _ => 0) rfl rfl)
def fX7_isOf_27 (N K : Nat) (th : Int32) (f : Nat → Int32) (p0 : Int32) (p1 : Int32) (p2 : Int32) (s0 : Int32) (th_ : Int32) : Option (Int32 × Int32) :=
  fX7_isOf_32 N K th f p0 p1 p2  (1 : Int32) s0 th_
set_option maxHeartbeats 4000000 in
set_option maxRecDepth 100000 in
theorem tX7_isOf_27 {N K : Nat} {m Mo Lo Do tl ca w : Nat} {dd : Nat → Option Nat} {th : Int32} {f : Nat → Int32} {p0 : Int32} {p1 : Int32} {p2 : Int32} (hd : ¬ (p0 < 0 ∨ 2 ≤ p0.toNatClampNeg) → dd p0.toNatClampNeg = some w) : ∀ (s0 : Int32) (th_ : Int32), AW RX7 "isOf" cX7_isOf 4 (some .boolean) [] (fun _ _ => True) (4) (PN (U := Int32 × Int32) (fun zz _ => some (.int zz.1)) (fun zz ad => [(m, .inr (9, [.ref Mo, .ref Lo, .ref Do, .ref tl, .ref ca, .int zz.2])), (Do, .inl (4, 2, .inr (.inr (.inr (.inr dd))))), (w, .inl (0, 21, .inl f))])) 0 0 (fX7_isOf_27 N K th f p0 p1 p2  s0 th_) 27 [(0, .ref m), (1, .int p0), (2, .int p1), (3, .int p2)] [.int s0, .ref m] [(m, .inr (9, [.ref Mo, .ref Lo, .ref Do, .ref tl, .ref ca, .int th_])), (Do, .inl (4, 2, .inr (.inr (.inr (.inr dd))))), (w, .inl (0, 21, .inl f))] := by
  intro s0 th_
  refine aw_iconst (q := 28) (v := 1) gdX7_isOf_11.2.2.2.2.2.2.2 rfl (by decide) ?_
  refine aw_goto (tgt := 32) gdX7_isOf_28.1 (by decide) ?_
  exact tX7_isOf_32 hd _ _ _
def fX7_isOf (N K : Nat) (th : Int32) (f : Nat → Int32) (p0 : Int32) (p1 : Int32) (p2 : Int32) : Option (Int32 × Int32) :=
  ((fX7_isNo N K p0 (0 : Int32) (1 : Int32)).bind (fun x4 => ((fX7_isNo N K p1 (0 : Int32) (7 : Int32)).bind (fun x11 => (if x11 = 0 then ((fX7_isNo N K p2 (0 : Int32) (20 : Int32)).bind (fun x21 => (if x21 = 0 then fX7_isOf_32 N K th f p0 p1 p2  (0 : Int32) x4 th else fX7_isOf_27 N K th f p0 p1 p2  x4 th))) else fX7_isOf_27 N K th f p0 p1 p2  x4 th)))))
set_option maxHeartbeats 4000000 in
set_option maxRecDepth 100000 in
theorem ok_X7_isOf {N K : Nat} {m Mo Lo Do tl ca w : Nat} {dd : Nat → Option Nat} {th : Int32} {f : Nat → Int32} {p0 : Int32} {p1 : Int32} {p2 : Int32} (hd : ¬ (p0 < 0 ∨ 2 ≤ p0.toNatClampNeg) → dd p0.toNatClampNeg = some w) {xr : Int32 × Int32} (hE : fX7_isOf N K th f p0 p1 p2 = some xr) : OkM yX7_isOf (.code yX7_isOf cX7_isOf 4 (some .boolean)) (4) 0 0 [.ref m, .int p0, .int p1, .int p2] [(m, .inr (9, [.ref Mo, .ref Lo, .ref Do, .ref tl, .ref ca, .int th])), (Do, .inl (4, 2, .inr (.inr (.inr (.inr dd))))), (w, .inl (0, 21, .inl f))] ((PN (U := Int32 × Int32) (fun zz _ => some (.int zz.1)) (fun zz ad => [(m, .inr (9, [.ref Mo, .ref Lo, .ref Do, .ref tl, .ref ca, .int zz.2])), (Do, .inl (4, 2, .inr (.inr (.inr (.inr dd))))), (w, .inl (0, 21, .inl f))])) xr) := by
  refine ok_of (by decide) (Nat.le_of_ble_eq_true rfl) hE ?_
  refine aw_locals (lv' := [(0, .ref m), (1, .int p0), (2, .int p1), (3, .int p2)]) [0, 1, 2, 3] rfl ?_
  refine aw_aload_n (q := 1) gdX7_isOf_0.1 rfl 0 rfl ?_
  refine aw_iload_n (q := 2) gdX7_isOf_0.2.1 rfl 1 rfl ?_
  refine aw_iconst (q := 3) (v := 0) gdX7_isOf_0.2.2.1 rfl (by decide) ?_
  refine aw_iconst (q := 4) (v := 1) gdX7_isOf_0.2.2.2.1 rfl (by decide) ?_
  refine aw_call (q := 7) (kc1 := 0) (ks1 := 0) (wc := []) (wr := [(m, .inr (9, [.ref Mo, .ref Lo, .ref Do, .ref tl, .ref ca, .int th])), (Do, .inl (4, 2, .inr (.inr (.inr (.inr dd))))), (w, .inl (0, 21, .inl f))]) (st1 := fun x4 g4 => [.int x4, .ref m]) (ws1 := fun x4 g4 => [(m, .inr (9, [.ref Mo, .ref Lo, .ref Do, .ref tl, .ref ca, .int th])), (Do, .inl (4, 2, .inr (.inr (.inr (.inr dd))))), (w, .inl (0, 21, .inl f))]) (As := [.int p0, .int (0 : Int32), .int (1 : Int32)]) [] [0, 1, 2] (fun _ => runS gdX7_isOf_0.2.2.2.2.1 mi_X7_isNo st_X7_isNo ml_X7_31 (by omega) rfl (Nat.le_of_ble_eq_true rfl) rfl) (fun x9 h9 => ok_X7_isNo h9) rfl rfl rfl rfl rfl (by decide +kernel) (by omega) (by omega) (fun _ _ => rfl) (fun _ _ => rfl) (fun x4 g4 => ?_)
  refine aw_iload_n (q := 8) gdX7_isOf_0.2.2.2.2.2.1 rfl 2 rfl ?_
  refine aw_iconst (q := 9) (v := 0) gdX7_isOf_0.2.2.2.2.2.2.1 rfl (by decide) ?_
  refine aw_bipush (q := 11) (v := 7) gdX7_isOf_0.2.2.2.2.2.2.2 rfl (by decide) ?_
  refine aw_call (q := 14) (kc1 := 0) (ks1 := 0) (wc := []) (wr := [(m, .inr (9, [.ref Mo, .ref Lo, .ref Do, .ref tl, .ref ca, .int th])), (Do, .inl (4, 2, .inr (.inr (.inr (.inr dd))))), (w, .inl (0, 21, .inl f))]) (st1 := fun x11 g11 => [.int x11, .int x4, .ref m]) (ws1 := fun x11 g11 => [(m, .inr (9, [.ref Mo, .ref Lo, .ref Do, .ref tl, .ref ca, .int th])), (Do, .inl (4, 2, .inr (.inr (.inr (.inr dd))))), (w, .inl (0, 21, .inl f))]) (As := [.int p1, .int (0 : Int32), .int (7 : Int32)]) [] [0, 1, 2] (fun _ => runS gdX7_isOf_11.1 mi_X7_isNo st_X7_isNo ml_X7_31 (by omega) rfl (Nat.le_of_ble_eq_true rfl) rfl) (fun x9 h9 => ok_X7_isNo h9) rfl rfl rfl rfl rfl (by decide +kernel) (by omega) (by omega) (fun _ _ => rfl) (fun _ _ => rfl) (fun x11 g11 => ?_)
  refine aw_if_ne (tgt := 27) (q := 17) gdX7_isOf_11.2.1 (by decide) rfl (fun h_14 => ?_) (fun h_14 => ?_)
  · exact tX7_isOf_27 hd _ _
  · refine aw_iload_n (q := 18) gdX7_isOf_11.2.2.1 rfl 3 rfl ?_
    refine aw_iconst (q := 19) (v := 0) gdX7_isOf_11.2.2.2.1 rfl (by decide) ?_
    refine aw_bipush (q := 21) (v := 20) gdX7_isOf_11.2.2.2.2.1 rfl (by decide) ?_
    refine aw_call (q := 24) (kc1 := 0) (ks1 := 0) (wc := []) (wr := [(m, .inr (9, [.ref Mo, .ref Lo, .ref Do, .ref tl, .ref ca, .int th])), (Do, .inl (4, 2, .inr (.inr (.inr (.inr dd))))), (w, .inl (0, 21, .inl f))]) (st1 := fun x21 g21 => [.int x21, .int x4, .ref m]) (ws1 := fun x21 g21 => [(m, .inr (9, [.ref Mo, .ref Lo, .ref Do, .ref tl, .ref ca, .int th])), (Do, .inl (4, 2, .inr (.inr (.inr (.inr dd))))), (w, .inl (0, 21, .inl f))]) (As := [.int p2, .int (0 : Int32), .int (20 : Int32)]) [] [0, 1, 2] (fun _ => runS gdX7_isOf_11.2.2.2.2.2.1 mi_X7_isNo st_X7_isNo ml_X7_31 (by omega) rfl (Nat.le_of_ble_eq_true rfl) rfl) (fun x9 h9 => ok_X7_isNo h9) rfl rfl rfl rfl rfl (by decide +kernel) (by omega) (by omega) (fun _ _ => rfl) (fun _ _ => rfl) (fun x21 g21 => ?_)
    refine aw_if_eq (tgt := 31) (q := 27) gdX7_isOf_11.2.2.2.2.2.2.1 (by decide) rfl (fun h_24 => ?_) (fun h_24 => ?_)
    · refine aw_iconst (q := 32) (v := 0) gdX7_isOf_28.2.1 rfl (by decide) ?_
      exact tX7_isOf_32 hd _ _ _
    · exact tX7_isOf_27 hd _ _
def fX7_isSameWay (N K : Nat) (th : Int32) (f : Nat → Int32) (f2 : Nat → Int32) : Option (Int32 × Int32) :=
  (if (0 : Int32) < 0 ∨ 2 ≤ (0 : Int32).toNatClampNeg then none else (if (1 : Int32) < 0 ∨ 2 ≤ (1 : Int32).toNatClampNeg then none else ((fX7_areSame N K f f2).bind (fun x17 => (if x17 = 0 ∨ x17 = 1 then (some (x17, (0 : Int32))) else none)))))
set_option maxHeartbeats 4000000 in
set_option maxRecDepth 100000 in
theorem ok_X7_isSameWay {N K : Nat} {m Mo Lo Do tl ca w v : Nat} {dd : Nat → Option Nat} {th : Int32} {f : Nat → Int32} {f2 : Nat → Int32} (hd : ¬ ((0 : Int32) < 0 ∨ 2 ≤ (0 : Int32).toNatClampNeg) → dd (0 : Int32).toNatClampNeg = some w) (hd2 : ¬ ((1 : Int32) < 0 ∨ 2 ≤ (1 : Int32).toNatClampNeg) → dd (1 : Int32).toNatClampNeg = some v) {xr : Int32 × Int32} (hE : fX7_isSameWay N K th f f2 = some xr) : OkM yX7_isSameWay (.code yX7_isSameWay cX7_isSameWay 1 (some .boolean)) (1) 0 0 [.ref m] [(m, .inr (9, [.ref Mo, .ref Lo, .ref Do, .ref tl, .ref ca, .int th])), (Do, .inl (4, 2, .inr (.inr (.inr (.inr dd))))), (w, .inl (0, 21, .inl f)), (v, .inl (0, 21, .inl f2))] ((PN (U := Int32 × Int32) (fun zz _ => some (.int zz.1)) (fun zz ad => [(m, .inr (9, [.ref Mo, .ref Lo, .ref Do, .ref tl, .ref ca, .int zz.2])), (Do, .inl (4, 2, .inr (.inr (.inr (.inr dd))))), (w, .inl (0, 21, .inl f)), (v, .inl (0, 21, .inl f2))])) xr) := by
  refine ok_of (by decide) (Nat.le_of_ble_eq_true rfl) hE ?_
  refine aw_locals (lv' := [(0, .ref m)]) [0] rfl ?_
  refine aw_aload_n (q := 1) gdX7_isSameWay_0.1 rfl 0 rfl ?_
  refine aw_iconst (q := 2) (v := 0) gdX7_isSameWay_0.2.1 rfl (by decide) ?_
  refine aw_put (q := 5) (ws' := [(m, .inr (9, [.ref Mo, .ref Lo, .ref Do, .ref tl, .ref ca, .int (0 : Int32)])), (Do, .inl (4, 2, .inr (.inr (.inr (.inr dd))))), (w, .inl (0, 21, .inl f)), (v, .inl (0, 21, .inl f2))]) gdX7_isSameWay_0.2.2.1 rfl fl_X7_27 0 rfl rfl rfl (Nat.le_of_ble_eq_true rfl) rfl ?_
  refine aw_aload_n (q := 6) gdX7_isSameWay_0.2.2.2.1 rfl 0 rfl ?_
  refine aw_get (q := 9) gdX7_isSameWay_0.2.2.2.2.1 rfl fl_X7_17 0 rfl rfl ?_
  refine aw_iconst (q := 10) (v := 0) gdX7_isSameWay_0.2.2.2.2.2.1 rfl (by decide) ?_
  refine aw_aald (q := 11) gdX7_isSameWay_0.2.2.2.2.2.2.1 rfl 1 rfl (by decide) rfl hd ?_
  refine aw_aload_n (q := 12) gdX7_isSameWay_0.2.2.2.2.2.2.2 rfl 0 rfl ?_
  refine aw_get (q := 15) gdX7_isSameWay_12.1 rfl fl_X7_17 0 rfl rfl ?_
  refine aw_iconst (q := 16) (v := 1) gdX7_isSameWay_12.2.1 rfl (by decide) ?_
  refine aw_aald (q := 17) gdX7_isSameWay_12.2.2.1 rfl 1 rfl (by decide) rfl hd2 ?_
  refine aw_call (q := 20) (kc1 := 0) (ks1 := 0) (wc := [(w, .inl (0, 21, .inl f)), (v, .inl (0, 21, .inl f2))]) (wr := [(m, .inr (9, [.ref Mo, .ref Lo, .ref Do, .ref tl, .ref ca, .int (0 : Int32)])), (Do, .inl (4, 2, .inr (.inr (.inr (.inr dd)))))]) (st1 := fun x17 g17 => [.int x17]) (ws1 := fun x17 g17 => [(m, .inr (9, [.ref Mo, .ref Lo, .ref Do, .ref tl, .ref ca, .int (0 : Int32)])), (Do, .inl (4, 2, .inr (.inr (.inr (.inr dd))))), (w, .inl (0, 21, .inl f)), (v, .inl (0, 21, .inl f2))]) (As := [.ref w, .ref v]) [2, 3] [0, 1] (fun _ => runS gdX7_isSameWay_12.2.2.2.1 mi_X7_areSame st_X7_areSame ml_X7_173 (by omega) rfl (Nat.le_of_ble_eq_true rfl) rfl) (fun x9 h9 => ok_X7_areSame h9) rfl rfl rfl rfl rfl (by decide +kernel) (by omega) (by omega) (fun _ _ => rfl) (fun _ _ => rfl) (fun x17 g17 => ?_)
  exact aw_zreturn (w := [(m, .inr (9, [.ref Mo, .ref Lo, .ref Do, .ref tl, .ref ca, .int (0 : Int32)])), (Do, .inl (4, 2, .inr (.inr (.inr (.inr dd))))), (w, .inl (0, 21, .inl f)), (v, .inl (0, 21, .inl f2))]) [0, 1, 2, 3] gdX7_isSameWay_12.2.2.2.2 rfl rfl rfl (PN.mk (fun _ => 0) rfl rfl)
def fX7_tally (N K : Nat) (th : Int32) (t : Nat → Int32) (p0 : Int32) : Option (Int32 × Int32) :=
  ((fX7_isNo N K p0 (0 : Int32) (5 : Int32)).bind (fun x4 => ((fX7_isThrown N K th x4 (0 : Int32)).bind (fun x8 => (if x8.1 = 0 then (if p0 < 0 ∨ 6 ≤ p0.toNatClampNeg then none else (some ((t p0.toNatClampNeg), x8.2))) else (some ((0 : Int32), x8.2)))))))
set_option maxHeartbeats 4000000 in
set_option maxRecDepth 100000 in
theorem ok_X7_tally {N K : Nat} {m Mo Lo Do tl ca : Nat} {th : Int32} {t : Nat → Int32} {p0 : Int32} {xr : Int32 × Int32} (hE : fX7_tally N K th t p0 = some xr) : OkM yX7_tally (.code yX7_tally cX7_tally 2 (some .int)) (1) 0 0 [.ref m, .int p0] [(m, .inr (9, [.ref Mo, .ref Lo, .ref Do, .ref tl, .ref ca, .int th])), (tl, .inl (0, 6, .inl t))] ((PN (U := Int32 × Int32) (fun zz _ => some (.int zz.1)) (fun zz ad => [(m, .inr (9, [.ref Mo, .ref Lo, .ref Do, .ref tl, .ref ca, .int zz.2])), (tl, .inl (0, 6, .inl t))])) xr) := by
  refine ok_of (by decide) (Nat.le_of_ble_eq_true rfl) hE ?_
  refine aw_locals (lv' := [(0, .ref m), (1, .int p0)]) [0, 1] rfl ?_
  refine aw_aload_n (q := 1) gdX7_tally_0.1 rfl 0 rfl ?_
  refine aw_iload_n (q := 2) gdX7_tally_0.2.1 rfl 1 rfl ?_
  refine aw_iconst (q := 3) (v := 0) gdX7_tally_0.2.2.1 rfl (by decide) ?_
  refine aw_iconst (q := 4) (v := 5) gdX7_tally_0.2.2.2.1 rfl (by decide) ?_
  refine aw_call (q := 7) (kc1 := 0) (ks1 := 0) (wc := []) (wr := [(m, .inr (9, [.ref Mo, .ref Lo, .ref Do, .ref tl, .ref ca, .int th])), (tl, .inl (0, 6, .inl t))]) (st1 := fun x4 g4 => [.int x4, .ref m]) (ws1 := fun x4 g4 => [(m, .inr (9, [.ref Mo, .ref Lo, .ref Do, .ref tl, .ref ca, .int th])), (tl, .inl (0, 6, .inl t))]) (As := [.int p0, .int (0 : Int32), .int (5 : Int32)]) [] [0, 1] (fun _ => runS gdX7_tally_0.2.2.2.2.1 mi_X7_isNo st_X7_isNo ml_X7_31 (by omega) rfl (Nat.le_of_ble_eq_true rfl) rfl) (fun x9 h9 => ok_X7_isNo h9) rfl rfl rfl rfl rfl (by decide +kernel) (by omega) (by omega) (fun _ _ => rfl) (fun _ _ => rfl) (fun x4 g4 => ?_)
  refine aw_iconst (q := 8) (v := 0) gdX7_tally_0.2.2.2.2.2.1 rfl (by decide) ?_
  refine aw_call (q := 11) (kc1 := 0) (ks1 := 0) (wc := [(m, .inr (9, [.ref Mo, .ref Lo, .ref Do, .ref tl, .ref ca, .int th]))]) (wr := [(tl, .inl (0, 6, .inl t))]) (st1 := fun x8 g8 => [.int x8.1]) (ws1 := fun x8 g8 => [(tl, .inl (0, 6, .inl t)), (m, .inr (9, [.ref Mo, .ref Lo, .ref Do, .ref tl, .ref ca, .int x8.2]))]) (As := [.ref m, .int x4, .int (0 : Int32)]) [0] [1] (fun _ => runV (q0 := 0) gdX7_tally_0.2.2.2.2.2.2.1 mi_X7_isThrown im_X7_isThrown se_X7_isThrown ml_X7_110 (by omega) rfl (Nat.le_of_ble_eq_true rfl) rfl rfl rfl rfl) (fun x9 h9 => ok_X7_isThrown h9) rfl rfl rfl rfl rfl (by decide +kernel) (by omega) (by omega) (fun _ _ => rfl) (fun _ _ => rfl) (fun x8 g8 => ?_)
  refine aw_if_eq (tgt := 18) (q := 14) gdX7_tally_0.2.2.2.2.2.2.2 (by decide) rfl (fun h_11 => ?_) (fun h_11 => ?_)
  · refine aw_aload_n (q := 19) gdX7_tally_14.2.2.1 rfl 0 rfl ?_
    refine aw_get (q := 22) gdX7_tally_14.2.2.2.1 rfl fl_X7_20 1 rfl rfl ?_
    refine aw_iload_n (q := 23) gdX7_tally_14.2.2.2.2.1 rfl 1 rfl ?_
    refine aw_iald (q := 24) gdX7_tally_14.2.2.2.2.2.1 rfl 0 rfl ?_
    exact aw_ireturn (w := [(m, .inr (9, [.ref Mo, .ref Lo, .ref Do, .ref tl, .ref ca, .int x8.2])), (tl, .inl (0, 6, .inl t))]) [1, 0] gdX7_tally_14.2.2.2.2.2.2 rfl rfl rfl rfl (PN.mk (fun _ => 0) rfl rfl)
  · refine aw_iconst (q := 15) (v := 0) gdX7_tally_14.1 rfl (by decide) ?_
    refine aw_goto (tgt := 24) gdX7_tally_14.2.1 (by decide) ?_
    exact aw_ireturn (w := [(m, .inr (9, [.ref Mo, .ref Lo, .ref Do, .ref tl, .ref ca, .int x8.2])), (tl, .inl (0, 6, .inl t))]) [1, 0] gdX7_tally_14.2.2.2.2.2.2 rfl rfl rfl rfl (PN.mk (fun _ => 0) rfl rfl)
def fX7_knock (N K : Nat) (th : Int32) (t : Nat → Int32) : Option (Int32 × Int32 × (Nat → Int32)) :=
  (some (((upd t (5 : Int32).toNatClampNeg ((t (5 : Int32).toNatClampNeg) + (1 : Int32))) (5 : Int32).toNatClampNeg), (0 : Int32), (upd t (5 : Int32).toNatClampNeg ((t (5 : Int32).toNatClampNeg) + (1 : Int32)))))
set_option maxHeartbeats 4000000 in
set_option maxRecDepth 100000 in
theorem ok_X7_knock {N K : Nat} {m Mo Lo Do tl ca : Nat} {th : Int32} {t : Nat → Int32} {xr : Int32 × Int32 × (Nat → Int32)} (hE : fX7_knock N K th t = some xr) : OkM yX7_knock (.code yX7_knock cX7_knock 1 (some .int)) (0) 0 0 [.ref m] [(m, .inr (9, [.ref Mo, .ref Lo, .ref Do, .ref tl, .ref ca, .int th])), (tl, .inl (0, 6, .inl t))] ((PN (U := Int32 × Int32 × (Nat → Int32)) (fun zz _ => some (.int zz.1)) (fun zz ad => [(m, .inr (9, [.ref Mo, .ref Lo, .ref Do, .ref tl, .ref ca, .int zz.2.1])), (tl, .inl (0, 6, .inl zz.2.2))])) xr) := by
  refine ok_of (by decide) (Nat.le_of_ble_eq_true rfl) hE ?_
  refine aw_locals (lv' := [(0, .ref m)]) [0] rfl ?_
  refine aw_aload_n (q := 1) gdX7_knock_0.1 rfl 0 rfl ?_
  refine aw_iconst (q := 2) (v := 0) gdX7_knock_0.2.1 rfl (by decide) ?_
  refine aw_put (q := 5) (ws' := [(m, .inr (9, [.ref Mo, .ref Lo, .ref Do, .ref tl, .ref ca, .int (0 : Int32)])), (tl, .inl (0, 6, .inl t))]) gdX7_knock_0.2.2.1 rfl fl_X7_27 0 rfl rfl rfl (Nat.le_of_ble_eq_true rfl) rfl ?_
  refine aw_aload_n (q := 6) gdX7_knock_0.2.2.2.1 rfl 0 rfl ?_
  refine aw_get (q := 9) gdX7_knock_0.2.2.2.2.1 rfl fl_X7_20 0 rfl rfl ?_
  refine aw_iconst (q := 10) (v := 5) gdX7_knock_0.2.2.2.2.2.1 rfl (by decide) ?_
  refine aw_dup2 (q := 11) gdX7_knock_0.2.2.2.2.2.2.1 rfl rfl rfl ?_
  refine aw_ialdT (q := 12) (by decide) gdX7_knock_0.2.2.2.2.2.2.2 rfl 1 rfl ?_
  refine aw_iconst (q := 13) (v := 1) gdX7_knock_12.1 rfl (by decide) ?_
  refine aw_iadd (q := 14) gdX7_knock_12.2.1 rfl ?_
  refine aw_iastT (q := 15) (ws' := [(m, .inr (9, [.ref Mo, .ref Lo, .ref Do, .ref tl, .ref ca, .int (0 : Int32)])), (tl, .inl (0, 6, .inl (upd t (5 : Int32).toNatClampNeg ((t (5 : Int32).toNatClampNeg) + (1 : Int32)))))]) (by decide) gdX7_knock_12.2.2.1 rfl 1 rfl rfl ?_
  refine aw_aload_n (q := 16) gdX7_knock_12.2.2.2.1 rfl 0 rfl ?_
  refine aw_get (q := 19) gdX7_knock_12.2.2.2.2.1 rfl fl_X7_20 0 rfl rfl ?_
  refine aw_iconst (q := 20) (v := 5) gdX7_knock_12.2.2.2.2.2.1 rfl (by decide) ?_
  refine aw_ialdT (q := 21) (by decide) gdX7_knock_12.2.2.2.2.2.2.1 rfl 1 rfl ?_
  exact aw_ireturn (w := [(m, .inr (9, [.ref Mo, .ref Lo, .ref Do, .ref tl, .ref ca, .int (0 : Int32)])), (tl, .inl (0, 6, .inl (upd t (5 : Int32).toNatClampNeg ((t (5 : Int32).toNatClampNeg) + (1 : Int32)))))]) [0, 1] gdX7_knock_12.2.2.2.2.2.2.2 rfl rfl rfl rfl (PN.mk (fun _ => 0) rfl rfl)
def fX7_isSound_141 (N K : Nat) (th : Int32) (f : Nat → Int32) (t : Nat → Int32) (p0 : Int32) (k_49 : Int32 → Int32 → Int32 → Int32 → Option (Int32 × Int32)) (k_59 : Int32 → Int32 → Int32 → Int32 → Int32 → Option (Int32 × Int32)) (k_78 : Int32 → Int32 → Int32 → Int32 → Int32 → Int32 → (Nat → Int32) → Option (Int32 × Int32)) (l3 : Int32) (l4 : Int32) (l5 : Int32) (l7 : Int32) (s0 : Int32) (s1 : Int32) (th_ : Int32) (e_v0 : Nat → Int32) : Option (Int32 × Int32) :=
  k_78 (s1 &&& s0) l3 l4 l5 (l7 + (1 : Int32)) th_ e_v0
set_option maxHeartbeats 4000000 in
set_option maxRecDepth 100000 in
theorem tX7_isSound_141 {N K : Nat} {m Mo Lo Do tl ca q : Nat} {mm : Nat → Option Nat} {th : Int32} {f : Nat → Int32} {t : Nat → Int32} {p0 : Int32} (hm : ¬ (p0 < 0 ∨ 3 ≤ p0.toNatClampNeg) → mm p0.toNatClampNeg = some q) {kc_49 ks_49 : Nat} {kc_59 ks_59 : Nat} {k_49 : Int32 → Int32 → Int32 → Int32 → Option (Int32 × Int32)} (hk_49 : ∀ (l2 : Int32) (l3 : Int32) (l4 : Int32) (th_ : Int32), AW RX7 "isSound" cX7_isSound 9 (some .boolean) [] (fun _ _ => True) (2) (PN (U := Int32 × Int32) (fun zz _ => some (.int zz.1)) (fun zz ad => [(m, .inr (9, [.ref Mo, .ref Lo, .ref Do, .ref tl, .ref ca, .int zz.2])), (Mo, .inl (4, 3, .inr (.inr (.inr (.inr mm))))), (q, .inl (0, 6144, .inl f)), (tl, .inl (0, 6, .inl t))])) kc_49 ks_49 (k_49 l2 l3 l4 th_) 49 [(0, .ref m), (1, .int p0), (2, .int l2), (3, .int l3), (4, .int l4)] [] [(m, .inr (9, [.ref Mo, .ref Lo, .ref Do, .ref tl, .ref ca, .int th_])), (Mo, .inl (4, 3, .inr (.inr (.inr (.inr mm))))), (q, .inl (0, 6144, .inl f)), (tl, .inl (0, 6, .inl t))]) {k_59 : Int32 → Int32 → Int32 → Int32 → Int32 → Option (Int32 × Int32)} (hk_59 : ∀ (l2 : Int32) (l3 : Int32) (l4 : Int32) (l5 : Int32) (th_ : Int32), AW RX7 "isSound" cX7_isSound 9 (some .boolean) [] (fun _ _ => True) (2) (PN (U := Int32 × Int32) (fun zz _ => some (.int zz.1)) (fun zz ad => [(m, .inr (9, [.ref Mo, .ref Lo, .ref Do, .ref tl, .ref ca, .int zz.2])), (Mo, .inl (4, 3, .inr (.inr (.inr (.inr mm))))), (q, .inl (0, 6144, .inl f)), (tl, .inl (0, 6, .inl t))])) kc_59 ks_59 (k_59 l2 l3 l4 l5 th_) 59 [(0, .ref m), (1, .int p0), (2, .int l2), (3, .int l3), (4, .int l4), (5, .int l5)] [] [(m, .inr (9, [.ref Mo, .ref Lo, .ref Do, .ref tl, .ref ca, .int th_])), (Mo, .inl (4, 3, .inr (.inr (.inr (.inr mm))))), (q, .inl (0, 6144, .inl f)), (tl, .inl (0, 6, .inl t))]) {k_78 : Int32 → Int32 → Int32 → Int32 → Int32 → Int32 → (Nat → Int32) → Option (Int32 × Int32)} (hk_78 : ∀ (l2 : Int32) (l3 : Int32) (l4 : Int32) (l5 : Int32) (l7 : Int32) (th_ : Int32) (e_v0 : Nat → Int32) (v0 : Nat), AW RX7 "isSound" cX7_isSound 9 (some .boolean) [] (fun _ _ => True) (2) (PN (U := Int32 × Int32) (fun zz _ => some (.int zz.1)) (fun zz ad => [(m, .inr (9, [.ref Mo, .ref Lo, .ref Do, .ref tl, .ref ca, .int zz.2])), (Mo, .inl (4, 3, .inr (.inr (.inr (.inr mm))))), (q, .inl (0, 6144, .inl f)), (tl, .inl (0, 6, .inl t))])) kc_59 ks_59 (k_78 l2 l3 l4 l5 l7 th_ e_v0) 78 [(0, .ref m), (1, .int p0), (2, .int l2), (3, .int l3), (4, .int l4), (5, .int l5), (6, .ref v0), (7, .int l7)] [] [(m, .inr (9, [.ref Mo, .ref Lo, .ref Do, .ref tl, .ref ca, .int th_])), (Mo, .inl (4, 3, .inr (.inr (.inr (.inr mm))))), (q, .inl (0, 6144, .inl f)), (tl, .inl (0, 6, .inl t)), (v0, .inl (0, 21, .inl e_v0))]) : ∀ (l3 : Int32) (l4 : Int32) (l5 : Int32) (l7 : Int32) (s0 : Int32) (s1 : Int32) (th_ : Int32) (e_v0 : Nat → Int32) (v0 : Nat), AW RX7 "isSound" cX7_isSound 9 (some .boolean) [] (fun _ _ => True) (2) (PN (U := Int32 × Int32) (fun zz _ => some (.int zz.1)) (fun zz ad => [(m, .inr (9, [.ref Mo, .ref Lo, .ref Do, .ref tl, .ref ca, .int zz.2])), (Mo, .inl (4, 3, .inr (.inr (.inr (.inr mm))))), (q, .inl (0, 6144, .inl f)), (tl, .inl (0, 6, .inl t))])) kc_59 ks_59 (fX7_isSound_141 N K th f t p0 k_49 k_59 k_78 l3 l4 l5 l7 s0 s1 th_ e_v0) 141 [(0, .ref m), (1, .int p0), (3, .int l3), (4, .int l4), (5, .int l5), (6, .ref v0), (7, .int l7)] [.int s0, .int s1] [(m, .inr (9, [.ref Mo, .ref Lo, .ref Do, .ref tl, .ref ca, .int th_])), (Mo, .inl (4, 3, .inr (.inr (.inr (.inr mm))))), (q, .inl (0, 6144, .inl f)), (tl, .inl (0, 6, .inl t)), (v0, .inl (0, 21, .inl e_v0))] := by
  intro l3 l4 l5 l7 s0 s1 th_ e_v0 v0
  refine aw_iand (q := 142) gdX7_isSound_128.2.2.2.2.2.2.1 rfl ?_
  refine aw_istore_n (q := 143) (lv' := [(2, .int (s1 &&& s0)), (0, .ref m), (1, .int p0), (3, .int l3), (4, .int l4), (5, .int l5), (6, .ref v0), (7, .int l7)]) gdX7_isSound_128.2.2.2.2.2.2.2 rfl (by decide) rfl ?_
  refine aw_iinc (q := 146) (v := (l7 + (1 : Int32))) (lv' := [(7, .int (l7 + (1 : Int32))), (2, .int (s1 &&& s0)), (0, .ref m), (1, .int p0), (3, .int l3), (4, .int l4), (5, .int l5), (6, .ref v0)]) gdX7_isSound_143.1 rfl 7 rfl rfl (by decide) rfl ?_
  refine aw_goto (tgt := 78) gdX7_isSound_143.2.1 (by decide) ?_
  refine aw_locals (lv' := [(0, .ref m), (1, .int p0), (2, .int (s1 &&& s0)), (3, .int l3), (4, .int l4), (5, .int l5), (6, .ref v0), (7, .int (l7 + (1 : Int32)))]) [2, 3, 1, 4, 5, 6, 7, 0] rfl ?_
  exact hk_78 _ _ _ _ _ _ _ _
def fX7_isSound_136 (N K : Nat) (th : Int32) (f : Nat → Int32) (t : Nat → Int32) (p0 : Int32) (k_49 : Int32 → Int32 → Int32 → Int32 → Option (Int32 × Int32)) (k_59 : Int32 → Int32 → Int32 → Int32 → Int32 → Option (Int32 × Int32)) (k_78 : Int32 → Int32 → Int32 → Int32 → Int32 → Int32 → (Nat → Int32) → Option (Int32 × Int32)) (l3 : Int32) (l4 : Int32) (l5 : Int32) (l7 : Int32) (s0 : Int32) (th_ : Int32) (e_v0 : Nat → Int32) : Option (Int32 × Int32) :=
  fX7_isSound_141 N K th f t p0 k_49 k_59 k_78 l3 l4 l5 l7 (1 : Int32) s0 th_ e_v0
set_option maxHeartbeats 4000000 in
set_option maxRecDepth 100000 in
theorem tX7_isSound_136 {N K : Nat} {m Mo Lo Do tl ca q : Nat} {mm : Nat → Option Nat} {th : Int32} {f : Nat → Int32} {t : Nat → Int32} {p0 : Int32} (hm : ¬ (p0 < 0 ∨ 3 ≤ p0.toNatClampNeg) → mm p0.toNatClampNeg = some q) {kc_49 ks_49 : Nat} {kc_59 ks_59 : Nat} {k_49 : Int32 → Int32 → Int32 → Int32 → Option (Int32 × Int32)} (hk_49 : ∀ (l2 : Int32) (l3 : Int32) (l4 : Int32) (th_ : Int32), AW RX7 "isSound" cX7_isSound 9 (some .boolean) [] (fun _ _ => True) (2) (PN (U := Int32 × Int32) (fun zz _ => some (.int zz.1)) (fun zz ad => [(m, .inr (9, [.ref Mo, .ref Lo, .ref Do, .ref tl, .ref ca, .int zz.2])), (Mo, .inl (4, 3, .inr (.inr (.inr (.inr mm))))), (q, .inl (0, 6144, .inl f)), (tl, .inl (0, 6, .inl t))])) kc_49 ks_49 (k_49 l2 l3 l4 th_) 49 [(0, .ref m), (1, .int p0), (2, .int l2), (3, .int l3), (4, .int l4)] [] [(m, .inr (9, [.ref Mo, .ref Lo, .ref Do, .ref tl, .ref ca, .int th_])), (Mo, .inl (4, 3, .inr (.inr (.inr (.inr mm))))), (q, .inl (0, 6144, .inl f)), (tl, .inl (0, 6, .inl t))]) {k_59 : Int32 → Int32 → Int32 → Int32 → Int32 → Option (Int32 × Int32)} (hk_59 : ∀ (l2 : Int32) (l3 : Int32) (l4 : Int32) (l5 : Int32) (th_ : Int32), AW RX7 "isSound" cX7_isSound 9 (some .boolean) [] (fun _ _ => True) (2) (PN (U := Int32 × Int32) (fun zz _ => some (.int zz.1)) (fun zz ad => [(m, .inr (9, [.ref Mo, .ref Lo, .ref Do, .ref tl, .ref ca, .int zz.2])), (Mo, .inl (4, 3, .inr (.inr (.inr (.inr mm))))), (q, .inl (0, 6144, .inl f)), (tl, .inl (0, 6, .inl t))])) kc_59 ks_59 (k_59 l2 l3 l4 l5 th_) 59 [(0, .ref m), (1, .int p0), (2, .int l2), (3, .int l3), (4, .int l4), (5, .int l5)] [] [(m, .inr (9, [.ref Mo, .ref Lo, .ref Do, .ref tl, .ref ca, .int th_])), (Mo, .inl (4, 3, .inr (.inr (.inr (.inr mm))))), (q, .inl (0, 6144, .inl f)), (tl, .inl (0, 6, .inl t))]) {k_78 : Int32 → Int32 → Int32 → Int32 → Int32 → Int32 → (Nat → Int32) → Option (Int32 × Int32)} (hk_78 : ∀ (l2 : Int32) (l3 : Int32) (l4 : Int32) (l5 : Int32) (l7 : Int32) (th_ : Int32) (e_v0 : Nat → Int32) (v0 : Nat), AW RX7 "isSound" cX7_isSound 9 (some .boolean) [] (fun _ _ => True) (2) (PN (U := Int32 × Int32) (fun zz _ => some (.int zz.1)) (fun zz ad => [(m, .inr (9, [.ref Mo, .ref Lo, .ref Do, .ref tl, .ref ca, .int zz.2])), (Mo, .inl (4, 3, .inr (.inr (.inr (.inr mm))))), (q, .inl (0, 6144, .inl f)), (tl, .inl (0, 6, .inl t))])) kc_59 ks_59 (k_78 l2 l3 l4 l5 l7 th_ e_v0) 78 [(0, .ref m), (1, .int p0), (2, .int l2), (3, .int l3), (4, .int l4), (5, .int l5), (6, .ref v0), (7, .int l7)] [] [(m, .inr (9, [.ref Mo, .ref Lo, .ref Do, .ref tl, .ref ca, .int th_])), (Mo, .inl (4, 3, .inr (.inr (.inr (.inr mm))))), (q, .inl (0, 6144, .inl f)), (tl, .inl (0, 6, .inl t)), (v0, .inl (0, 21, .inl e_v0))]) : ∀ (l3 : Int32) (l4 : Int32) (l5 : Int32) (l7 : Int32) (s0 : Int32) (th_ : Int32) (e_v0 : Nat → Int32) (v0 : Nat), AW RX7 "isSound" cX7_isSound 9 (some .boolean) [] (fun _ _ => True) (2) (PN (U := Int32 × Int32) (fun zz _ => some (.int zz.1)) (fun zz ad => [(m, .inr (9, [.ref Mo, .ref Lo, .ref Do, .ref tl, .ref ca, .int zz.2])), (Mo, .inl (4, 3, .inr (.inr (.inr (.inr mm))))), (q, .inl (0, 6144, .inl f)), (tl, .inl (0, 6, .inl t))])) kc_59 ks_59 (fX7_isSound_136 N K th f t p0 k_49 k_59 k_78 l3 l4 l5 l7 s0 th_ e_v0) 136 [(0, .ref m), (1, .int p0), (3, .int l3), (4, .int l4), (5, .int l5), (6, .ref v0), (7, .int l7)] [.int s0] [(m, .inr (9, [.ref Mo, .ref Lo, .ref Do, .ref tl, .ref ca, .int th_])), (Mo, .inl (4, 3, .inr (.inr (.inr (.inr mm))))), (q, .inl (0, 6144, .inl f)), (tl, .inl (0, 6, .inl t)), (v0, .inl (0, 21, .inl e_v0))] := by
  intro l3 l4 l5 l7 s0 th_ e_v0 v0
  refine aw_iconst (q := 137) (v := 1) gdX7_isSound_128.2.2.2.1 rfl (by decide) ?_
  refine aw_goto (tgt := 141) gdX7_isSound_128.2.2.2.2.1 (by decide) ?_
  refine aw_room (kc' := kc_59) (ks' := ks_59) (by omega) (by omega) ?_
  exact tX7_isSound_141 hm hk_49 hk_59 hk_78 _ _ _ _ _ _ _ _ _
def fX7_isSound_109 (N K : Nat) (th : Int32) (f : Nat → Int32) (t : Nat → Int32) (p0 : Int32) (k_49 : Int32 → Int32 → Int32 → Int32 → Option (Int32 × Int32)) (k_59 : Int32 → Int32 → Int32 → Int32 → Int32 → Option (Int32 × Int32)) (k_78 : Int32 → Int32 → Int32 → Int32 → Int32 → Int32 → (Nat → Int32) → Option (Int32 × Int32)) (l2 : Int32) (l4 : Int32) (l5 : Int32) (l7 : Int32) (l8 : Int32) (s0 : Int32) (s1 : Int32) (th_ : Int32) (e_v0 : Nat → Int32) : Option (Int32 × Int32) :=
  ((fX7_bit N K s0).bind (fun x109 => (if l8 < 0 then fX7_isSound_136 N K th f t p0 k_49 k_59 k_78 (s1 + x109) l4 l5 l7 l2 th_ e_v0 else ((fX7_told N K e_v0 l4 l7 l5).bind (fun x130 => (if l8 = x130 then fX7_isSound_136 N K th f t p0 k_49 k_59 k_78 (s1 + x109) l4 l5 l7 l2 th_ e_v0 else fX7_isSound_141 N K th f t p0 k_49 k_59 k_78 (s1 + x109) l4 l5 l7 (0 : Int32) l2 th_ e_v0))))))
set_option maxHeartbeats 4000000 in
set_option maxRecDepth 100000 in
theorem tX7_isSound_109 {N K : Nat} {m Mo Lo Do tl ca q : Nat} {mm : Nat → Option Nat} {th : Int32} {f : Nat → Int32} {t : Nat → Int32} {p0 : Int32} (hm : ¬ (p0 < 0 ∨ 3 ≤ p0.toNatClampNeg) → mm p0.toNatClampNeg = some q) {kc_49 ks_49 : Nat} {kc_59 ks_59 : Nat} {k_49 : Int32 → Int32 → Int32 → Int32 → Option (Int32 × Int32)} (hk_49 : ∀ (l2 : Int32) (l3 : Int32) (l4 : Int32) (th_ : Int32), AW RX7 "isSound" cX7_isSound 9 (some .boolean) [] (fun _ _ => True) (2) (PN (U := Int32 × Int32) (fun zz _ => some (.int zz.1)) (fun zz ad => [(m, .inr (9, [.ref Mo, .ref Lo, .ref Do, .ref tl, .ref ca, .int zz.2])), (Mo, .inl (4, 3, .inr (.inr (.inr (.inr mm))))), (q, .inl (0, 6144, .inl f)), (tl, .inl (0, 6, .inl t))])) kc_49 ks_49 (k_49 l2 l3 l4 th_) 49 [(0, .ref m), (1, .int p0), (2, .int l2), (3, .int l3), (4, .int l4)] [] [(m, .inr (9, [.ref Mo, .ref Lo, .ref Do, .ref tl, .ref ca, .int th_])), (Mo, .inl (4, 3, .inr (.inr (.inr (.inr mm))))), (q, .inl (0, 6144, .inl f)), (tl, .inl (0, 6, .inl t))]) {k_59 : Int32 → Int32 → Int32 → Int32 → Int32 → Option (Int32 × Int32)} (hk_59 : ∀ (l2 : Int32) (l3 : Int32) (l4 : Int32) (l5 : Int32) (th_ : Int32), AW RX7 "isSound" cX7_isSound 9 (some .boolean) [] (fun _ _ => True) (2) (PN (U := Int32 × Int32) (fun zz _ => some (.int zz.1)) (fun zz ad => [(m, .inr (9, [.ref Mo, .ref Lo, .ref Do, .ref tl, .ref ca, .int zz.2])), (Mo, .inl (4, 3, .inr (.inr (.inr (.inr mm))))), (q, .inl (0, 6144, .inl f)), (tl, .inl (0, 6, .inl t))])) kc_59 ks_59 (k_59 l2 l3 l4 l5 th_) 59 [(0, .ref m), (1, .int p0), (2, .int l2), (3, .int l3), (4, .int l4), (5, .int l5)] [] [(m, .inr (9, [.ref Mo, .ref Lo, .ref Do, .ref tl, .ref ca, .int th_])), (Mo, .inl (4, 3, .inr (.inr (.inr (.inr mm))))), (q, .inl (0, 6144, .inl f)), (tl, .inl (0, 6, .inl t))]) {k_78 : Int32 → Int32 → Int32 → Int32 → Int32 → Int32 → (Nat → Int32) → Option (Int32 × Int32)} (hk_78 : ∀ (l2 : Int32) (l3 : Int32) (l4 : Int32) (l5 : Int32) (l7 : Int32) (th_ : Int32) (e_v0 : Nat → Int32) (v0 : Nat), AW RX7 "isSound" cX7_isSound 9 (some .boolean) [] (fun _ _ => True) (2) (PN (U := Int32 × Int32) (fun zz _ => some (.int zz.1)) (fun zz ad => [(m, .inr (9, [.ref Mo, .ref Lo, .ref Do, .ref tl, .ref ca, .int zz.2])), (Mo, .inl (4, 3, .inr (.inr (.inr (.inr mm))))), (q, .inl (0, 6144, .inl f)), (tl, .inl (0, 6, .inl t))])) kc_59 ks_59 (k_78 l2 l3 l4 l5 l7 th_ e_v0) 78 [(0, .ref m), (1, .int p0), (2, .int l2), (3, .int l3), (4, .int l4), (5, .int l5), (6, .ref v0), (7, .int l7)] [] [(m, .inr (9, [.ref Mo, .ref Lo, .ref Do, .ref tl, .ref ca, .int th_])), (Mo, .inl (4, 3, .inr (.inr (.inr (.inr mm))))), (q, .inl (0, 6144, .inl f)), (tl, .inl (0, 6, .inl t)), (v0, .inl (0, 21, .inl e_v0))]) : ∀ (l2 : Int32) (l4 : Int32) (l5 : Int32) (l7 : Int32) (l8 : Int32) (s0 : Int32) (s1 : Int32) (th_ : Int32) (e_v0 : Nat → Int32) (v0 : Nat), AW RX7 "isSound" cX7_isSound 9 (some .boolean) [] (fun _ _ => True) (2) (PN (U := Int32 × Int32) (fun zz _ => some (.int zz.1)) (fun zz ad => [(m, .inr (9, [.ref Mo, .ref Lo, .ref Do, .ref tl, .ref ca, .int zz.2])), (Mo, .inl (4, 3, .inr (.inr (.inr (.inr mm))))), (q, .inl (0, 6144, .inl f)), (tl, .inl (0, 6, .inl t))])) kc_59 ks_59 (fX7_isSound_109 N K th f t p0 k_49 k_59 k_78 l2 l4 l5 l7 l8 s0 s1 th_ e_v0) 109 [(0, .ref m), (1, .int p0), (2, .int l2), (4, .int l4), (5, .int l5), (6, .ref v0), (7, .int l7), (8, .int l8)] [.int s0, .int s1] [(m, .inr (9, [.ref Mo, .ref Lo, .ref Do, .ref tl, .ref ca, .int th_])), (Mo, .inl (4, 3, .inr (.inr (.inr (.inr mm))))), (q, .inl (0, 6144, .inl f)), (tl, .inl (0, 6, .inl t)), (v0, .inl (0, 21, .inl e_v0))] := by
  intro l2 l4 l5 l7 l8 s0 s1 th_ e_v0 v0
  refine aw_call (q := 112) (kc1 := kc_59) (ks1 := ks_59) (wc := []) (wr := [(m, .inr (9, [.ref Mo, .ref Lo, .ref Do, .ref tl, .ref ca, .int th_])), (Mo, .inl (4, 3, .inr (.inr (.inr (.inr mm))))), (q, .inl (0, 6144, .inl f)), (tl, .inl (0, 6, .inl t)), (v0, .inl (0, 21, .inl e_v0))]) (st1 := fun x109 g109 => [.int x109, .int s1]) (ws1 := fun x109 g109 => [(m, .inr (9, [.ref Mo, .ref Lo, .ref Do, .ref tl, .ref ca, .int th_])), (Mo, .inl (4, 3, .inr (.inr (.inr (.inr mm))))), (q, .inl (0, 6144, .inl f)), (tl, .inl (0, 6, .inl t)), (v0, .inl (0, 21, .inl e_v0))]) (As := [.int s0]) [] [0, 1, 2, 3, 4] (fun _ => runS gdX7_isSound_98.2.2.2.2.2.2.1 mi_X7_bit st_X7_bit ml_X7_43 (by omega) rfl (Nat.le_of_ble_eq_true rfl) rfl) (fun x9 h9 => ok_X7_bit h9) rfl rfl rfl rfl rfl (by decide +kernel) (by omega) (by omega) (fun _ _ => rfl) (fun _ _ => rfl) (fun x109 g109 => ?_)
  refine aw_iadd (q := 113) gdX7_isSound_98.2.2.2.2.2.2.2 rfl ?_
  refine aw_istore_n (q := 114) (lv' := [(3, .int (s1 + x109)), (0, .ref m), (1, .int p0), (2, .int l2), (4, .int l4), (5, .int l5), (6, .ref v0), (7, .int l7), (8, .int l8)]) gdX7_isSound_113.1 rfl (by decide) rfl ?_
  refine aw_iload_n (q := 115) gdX7_isSound_113.2.1 rfl 3 rfl ?_
  refine aw_iload (q := 117) gdX7_isSound_113.2.2.1 rfl 8 rfl ?_
  refine aw_if_lt (tgt := 136) (q := 120) gdX7_isSound_113.2.2.2.1 (by decide) rfl (fun h_117 => ?_) (fun h_117 => ?_)
  · refine aw_locals (lv' := [(0, .ref m), (1, .int p0), (3, .int (s1 + x109)), (4, .int l4), (5, .int l5), (6, .ref v0), (7, .int l7)]) [1, 2, 0, 4, 5, 6, 7] rfl ?_
    refine aw_room (kc' := kc_59) (ks' := ks_59) (by omega) (by omega) ?_
    exact tX7_isSound_136 hm hk_49 hk_59 hk_78 _ _ _ _ _ _ _ _
  · refine aw_iload (q := 122) gdX7_isSound_113.2.2.2.2.1 rfl 8 rfl ?_
    refine aw_aload (q := 124) gdX7_isSound_113.2.2.2.2.2.1 rfl 6 rfl ?_
    refine aw_iload (q := 126) gdX7_isSound_113.2.2.2.2.2.2.1 rfl 4 rfl ?_
    refine aw_iload (q := 128) gdX7_isSound_113.2.2.2.2.2.2.2 rfl 7 rfl ?_
    refine aw_iload (q := 130) gdX7_isSound_128.1 rfl 5 rfl ?_
    refine aw_call (q := 133) (kc1 := kc_59) (ks1 := ks_59) (wc := [(v0, .inl (0, 21, .inl e_v0))]) (wr := [(m, .inr (9, [.ref Mo, .ref Lo, .ref Do, .ref tl, .ref ca, .int th_])), (Mo, .inl (4, 3, .inr (.inr (.inr (.inr mm))))), (q, .inl (0, 6144, .inl f)), (tl, .inl (0, 6, .inl t))]) (st1 := fun x130 g130 => [.int x130, .int l8, .int l2]) (ws1 := fun x130 g130 => [(m, .inr (9, [.ref Mo, .ref Lo, .ref Do, .ref tl, .ref ca, .int th_])), (Mo, .inl (4, 3, .inr (.inr (.inr (.inr mm))))), (q, .inl (0, 6144, .inl f)), (tl, .inl (0, 6, .inl t)), (v0, .inl (0, 21, .inl e_v0))]) (As := [.ref v0, .int l4, .int l7, .int l5]) [4] [0, 1, 2, 3] (fun _ => runS gdX7_isSound_128.2.1 mi_X7_told st_X7_told ml_X7_68 (by omega) rfl (Nat.le_of_ble_eq_true rfl) rfl) (fun x9 h9 => ok_X7_told h9) rfl rfl rfl rfl rfl (by decide +kernel) (by omega) (by omega) (fun _ _ => rfl) (fun _ _ => rfl) (fun x130 g130 => ?_)
    refine aw_icmp_ne (tgt := 140) (q := 136) gdX7_isSound_128.2.2.1 (by decide) rfl (fun h_133 => ?_) (fun h_133 => ?_)
    · refine aw_iconst (q := 141) (v := 0) gdX7_isSound_128.2.2.2.2.2.1 rfl (by decide) ?_
      refine aw_locals (lv' := [(0, .ref m), (1, .int p0), (3, .int (s1 + x109)), (4, .int l4), (5, .int l5), (6, .ref v0), (7, .int l7)]) [1, 2, 0, 4, 5, 6, 7] rfl ?_
      refine aw_room (kc' := kc_59) (ks' := ks_59) (by omega) (by omega) ?_
      exact tX7_isSound_141 hm hk_49 hk_59 hk_78 _ _ _ _ _ _ _ _ _
    · refine aw_locals (lv' := [(0, .ref m), (1, .int p0), (3, .int (s1 + x109)), (4, .int l4), (5, .int l5), (6, .ref v0), (7, .int l7)]) [1, 2, 0, 4, 5, 6, 7] rfl ?_
      refine aw_room (kc' := kc_59) (ks' := ks_59) (by omega) (by omega) ?_
      exact tX7_isSound_136 hm hk_49 hk_59 hk_78 _ _ _ _ _ _ _ _
def fX7_isSound_78 (N K : Nat) (th : Int32) (f : Nat → Int32) (t : Nat → Int32) (p0 : Int32) (k_49 : Int32 → Int32 → Int32 → Int32 → Option (Int32 × Int32)) (k_59 : Int32 → Int32 → Int32 → Int32 → Int32 → Option (Int32 × Int32)) : Nat → Int32 → Int32 → Int32 → Int32 → Int32 → Int32 → (Nat → Int32) → Option (Int32 × Int32)
  | 0, _, _, _, _, _, _, _ => none
  | fu + 1, l2, l3, l4, l5, l7, th_, e_v0 =>
    (if (20 : Int32) < l7 then k_59 l2 l3 l4 (l5 + (1 : Int32)) th_ else ((fX7_kept N K th_ f p0 l4 l7 l5).bind (fun x93 => (if x93 < 0 then fX7_isSound_109 N K th f t p0 k_49 k_59 (fX7_isSound_78 N K th f t p0 k_49 k_59 fu) l2 l4 l5 l7 x93 (0 : Int32) l3 th_ e_v0 else fX7_isSound_109 N K th f t p0 k_49 k_59 (fX7_isSound_78 N K th f t p0 k_49 k_59 fu) l2 l4 l5 l7 x93 (1 : Int32) l3 th_ e_v0))))
set_option maxHeartbeats 4000000 in
set_option maxRecDepth 100000 in
theorem tX7_isSound_78 {N K : Nat} {m Mo Lo Do tl ca q : Nat} {mm : Nat → Option Nat} {th : Int32} {f : Nat → Int32} {t : Nat → Int32} {p0 : Int32} (hm : ¬ (p0 < 0 ∨ 3 ≤ p0.toNatClampNeg) → mm p0.toNatClampNeg = some q) {kc_49 ks_49 : Nat} {kc_59 ks_59 : Nat} {k_49 : Int32 → Int32 → Int32 → Int32 → Option (Int32 × Int32)} (hk_49 : ∀ (l2 : Int32) (l3 : Int32) (l4 : Int32) (th_ : Int32), AW RX7 "isSound" cX7_isSound 9 (some .boolean) [] (fun _ _ => True) (2) (PN (U := Int32 × Int32) (fun zz _ => some (.int zz.1)) (fun zz ad => [(m, .inr (9, [.ref Mo, .ref Lo, .ref Do, .ref tl, .ref ca, .int zz.2])), (Mo, .inl (4, 3, .inr (.inr (.inr (.inr mm))))), (q, .inl (0, 6144, .inl f)), (tl, .inl (0, 6, .inl t))])) kc_49 ks_49 (k_49 l2 l3 l4 th_) 49 [(0, .ref m), (1, .int p0), (2, .int l2), (3, .int l3), (4, .int l4)] [] [(m, .inr (9, [.ref Mo, .ref Lo, .ref Do, .ref tl, .ref ca, .int th_])), (Mo, .inl (4, 3, .inr (.inr (.inr (.inr mm))))), (q, .inl (0, 6144, .inl f)), (tl, .inl (0, 6, .inl t))]) {k_59 : Int32 → Int32 → Int32 → Int32 → Int32 → Option (Int32 × Int32)} (hk_59 : ∀ (l2 : Int32) (l3 : Int32) (l4 : Int32) (l5 : Int32) (th_ : Int32), AW RX7 "isSound" cX7_isSound 9 (some .boolean) [] (fun _ _ => True) (2) (PN (U := Int32 × Int32) (fun zz _ => some (.int zz.1)) (fun zz ad => [(m, .inr (9, [.ref Mo, .ref Lo, .ref Do, .ref tl, .ref ca, .int zz.2])), (Mo, .inl (4, 3, .inr (.inr (.inr (.inr mm))))), (q, .inl (0, 6144, .inl f)), (tl, .inl (0, 6, .inl t))])) kc_59 ks_59 (k_59 l2 l3 l4 l5 th_) 59 [(0, .ref m), (1, .int p0), (2, .int l2), (3, .int l3), (4, .int l4), (5, .int l5)] [] [(m, .inr (9, [.ref Mo, .ref Lo, .ref Do, .ref tl, .ref ca, .int th_])), (Mo, .inl (4, 3, .inr (.inr (.inr (.inr mm))))), (q, .inl (0, 6144, .inl f)), (tl, .inl (0, 6, .inl t))]) : ∀ (fu : Nat) (l2 : Int32) (l3 : Int32) (l4 : Int32) (l5 : Int32) (l7 : Int32) (th_ : Int32) (e_v0 : Nat → Int32) (v0 : Nat), AW RX7 "isSound" cX7_isSound 9 (some .boolean) [] (fun _ _ => True) (2) (PN (U := Int32 × Int32) (fun zz _ => some (.int zz.1)) (fun zz ad => [(m, .inr (9, [.ref Mo, .ref Lo, .ref Do, .ref tl, .ref ca, .int zz.2])), (Mo, .inl (4, 3, .inr (.inr (.inr (.inr mm))))), (q, .inl (0, 6144, .inl f)), (tl, .inl (0, 6, .inl t))])) kc_59 ks_59 (fX7_isSound_78 N K th f t p0 k_49 k_59 fu l2 l3 l4 l5 l7 th_ e_v0) 78 [(0, .ref m), (1, .int p0), (2, .int l2), (3, .int l3), (4, .int l4), (5, .int l5), (6, .ref v0), (7, .int l7)] [] [(m, .inr (9, [.ref Mo, .ref Lo, .ref Do, .ref tl, .ref ca, .int th_])), (Mo, .inl (4, 3, .inr (.inr (.inr (.inr mm))))), (q, .inl (0, 6144, .inl f)), (tl, .inl (0, 6, .inl t)), (v0, .inl (0, 21, .inl e_v0))] := by
  intro fu
  induction fu with
  | zero => intro l2 l3 l4 l5 l7 th_ e_v0 v0; exact aw_none
  | succ fu ih =>
    intro l2 l3 l4 l5 l7 th_ e_v0 v0
    refine aw_iload (q := 80) gdX7_isSound_66.2.2.2.2.2.2.1 rfl 7 rfl ?_
    refine aw_bipush (q := 82) (v := 20) gdX7_isSound_66.2.2.2.2.2.2.2 rfl (by decide) ?_
    refine aw_icmp_gt (tgt := 149) (q := 85) gdX7_isSound_82.1 (by decide) rfl (fun h_82 => ?_) (fun h_82 => ?_)
    · refine aw_iinc (q := 152) (v := (l5 + (1 : Int32))) (lv' := [(5, .int (l5 + (1 : Int32))), (0, .ref m), (1, .int p0), (2, .int l2), (3, .int l3), (4, .int l4), (6, .ref v0), (7, .int l7)]) gdX7_isSound_143.2.2.1 rfl 5 rfl rfl (by decide) rfl ?_
      refine aw_goto (tgt := 59) gdX7_isSound_143.2.2.2.1 (by decide) ?_
      refine aw_locals (lv' := [(0, .ref m), (1, .int p0), (2, .int l2), (3, .int l3), (4, .int l4), (5, .int (l5 + (1 : Int32)))]) [1, 2, 3, 4, 5, 0] rfl ?_
      refine aw_world (ws' := [(m, .inr (9, [.ref Mo, .ref Lo, .ref Do, .ref tl, .ref ca, .int th_])), (Mo, .inl (4, 3, .inr (.inr (.inr (.inr mm))))), (q, .inl (0, 6144, .inl f)), (tl, .inl (0, 6, .inl t))]) [0, 1, 2, 3] rfl rfl ?_
      exact hk_59 _ _ _ _ _
    · refine aw_aload_n (q := 86) gdX7_isSound_82.2.1 rfl 0 rfl ?_
      refine aw_iload_n (q := 87) gdX7_isSound_82.2.2.1 rfl 1 rfl ?_
      refine aw_iload (q := 89) gdX7_isSound_82.2.2.2.1 rfl 4 rfl ?_
      refine aw_iload (q := 91) gdX7_isSound_82.2.2.2.2.1 rfl 7 rfl ?_
      refine aw_iload (q := 93) gdX7_isSound_82.2.2.2.2.2.1 rfl 5 rfl ?_
      refine aw_call (q := 96) (kc1 := kc_59) (ks1 := ks_59) (wc := [(m, .inr (9, [.ref Mo, .ref Lo, .ref Do, .ref tl, .ref ca, .int th_])), (Mo, .inl (4, 3, .inr (.inr (.inr (.inr mm))))), (q, .inl (0, 6144, .inl f))]) (wr := [(tl, .inl (0, 6, .inl t)), (v0, .inl (0, 21, .inl e_v0))]) (st1 := fun x93 g93 => [.int x93]) (ws1 := fun x93 g93 => [(tl, .inl (0, 6, .inl t)), (v0, .inl (0, 21, .inl e_v0)), (m, .inr (9, [.ref Mo, .ref Lo, .ref Do, .ref tl, .ref ca, .int th_])), (Mo, .inl (4, 3, .inr (.inr (.inr (.inr mm))))), (q, .inl (0, 6144, .inl f))]) (As := [.ref m, .int p0, .int l4, .int l7, .int l5]) [0, 1, 2] [3, 4] (fun _ => runV (q0 := 0) gdX7_isSound_82.2.2.2.2.2.2.1 mi_X7_kept im_X7_kept se_X7_kept ml_X7_131 (by omega) rfl (Nat.le_of_ble_eq_true rfl) rfl rfl rfl rfl) (fun x9 h9 => ok_X7_kept hm h9) rfl rfl rfl rfl rfl (by decide +kernel) (by omega) (by omega) (fun _ _ => rfl) (fun _ _ => rfl) (fun x93 g93 => ?_)
      refine aw_istore (q := 98) (lv' := [(8, .int x93), (0, .ref m), (1, .int p0), (2, .int l2), (3, .int l3), (4, .int l4), (5, .int l5), (6, .ref v0), (7, .int l7)]) gdX7_isSound_82.2.2.2.2.2.2.2 rfl (by decide) rfl ?_
      refine aw_iload_n (q := 99) gdX7_isSound_98.1 rfl 4 rfl ?_
      refine aw_iload (q := 101) gdX7_isSound_98.2.1 rfl 0 rfl ?_
      refine aw_if_lt (tgt := 108) (q := 104) gdX7_isSound_98.2.2.1 (by decide) rfl (fun h_101 => ?_) (fun h_101 => ?_)
      · refine aw_iconst (q := 109) (v := 0) gdX7_isSound_98.2.2.2.2.2.1 rfl (by decide) ?_
        refine aw_locals (lv' := [(0, .ref m), (1, .int p0), (2, .int l2), (4, .int l4), (5, .int l5), (6, .ref v0), (7, .int l7), (8, .int x93)]) [1, 2, 3, 5, 6, 7, 8, 0] rfl ?_
        refine aw_world (ws' := [(m, .inr (9, [.ref Mo, .ref Lo, .ref Do, .ref tl, .ref ca, .int th_])), (Mo, .inl (4, 3, .inr (.inr (.inr (.inr mm))))), (q, .inl (0, 6144, .inl f)), (tl, .inl (0, 6, .inl t)), (v0, .inl (0, 21, .inl e_v0))]) [2, 3, 4, 0, 1] rfl rfl ?_
        refine aw_room (kc' := kc_59) (ks' := ks_59) (by omega) (by omega) ?_
        exact tX7_isSound_109 hm hk_49 hk_59 ih _ _ _ _ _ _ _ _ _ _
      · refine aw_iconst (q := 105) (v := 1) gdX7_isSound_98.2.2.2.1 rfl (by decide) ?_
        refine aw_goto (tgt := 109) gdX7_isSound_98.2.2.2.2.1 (by decide) ?_
        refine aw_locals (lv' := [(0, .ref m), (1, .int p0), (2, .int l2), (4, .int l4), (5, .int l5), (6, .ref v0), (7, .int l7), (8, .int x93)]) [1, 2, 3, 5, 6, 7, 8, 0] rfl ?_
        refine aw_world (ws' := [(m, .inr (9, [.ref Mo, .ref Lo, .ref Do, .ref tl, .ref ca, .int th_])), (Mo, .inl (4, 3, .inr (.inr (.inr (.inr mm))))), (q, .inl (0, 6144, .inl f)), (tl, .inl (0, 6, .inl t)), (v0, .inl (0, 21, .inl e_v0))]) [2, 3, 4, 0, 1] rfl rfl ?_
        refine aw_room (kc' := kc_59) (ks' := ks_59) (by omega) (by omega) ?_
        exact tX7_isSound_109 hm hk_49 hk_59 ih _ _ _ _ _ _ _ _ _ _
def fX7_isSound_59 (N K : Nat) (th : Int32) (f : Nat → Int32) (t : Nat → Int32) (p0 : Int32) (k_49 : Int32 → Int32 → Int32 → Int32 → Option (Int32 × Int32)) : Nat → Int32 → Int32 → Int32 → Int32 → Int32 → Option (Int32 × Int32)
  | 0, _, _, _, _, _ => none
  | fu + 1, l2, l3, l4, l5, th_ =>
    (if (20 : Int32) < l5 then k_49 l2 l3 (l4 + (1 : Int32)) th_ else ((fX7_row N K l4 l5).bind (fun x70 => fX7_isSound_78 N K th f t p0 k_49 (fX7_isSound_59 N K th f t p0 k_49 fu) N l2 l3 l4 l5 (1 : Int32) th_ x70)))
set_option maxHeartbeats 4000000 in
set_option maxRecDepth 100000 in
theorem tX7_isSound_59 {N K : Nat} {m Mo Lo Do tl ca q : Nat} {mm : Nat → Option Nat} {th : Int32} {f : Nat → Int32} {t : Nat → Int32} {p0 : Int32} (hm : ¬ (p0 < 0 ∨ 3 ≤ p0.toNatClampNeg) → mm p0.toNatClampNeg = some q) {kc_49 ks_49 : Nat} {k_49 : Int32 → Int32 → Int32 → Int32 → Option (Int32 × Int32)} (hk_49 : ∀ (l2 : Int32) (l3 : Int32) (l4 : Int32) (th_ : Int32), AW RX7 "isSound" cX7_isSound 9 (some .boolean) [] (fun _ _ => True) (2) (PN (U := Int32 × Int32) (fun zz _ => some (.int zz.1)) (fun zz ad => [(m, .inr (9, [.ref Mo, .ref Lo, .ref Do, .ref tl, .ref ca, .int zz.2])), (Mo, .inl (4, 3, .inr (.inr (.inr (.inr mm))))), (q, .inl (0, 6144, .inl f)), (tl, .inl (0, 6, .inl t))])) kc_49 ks_49 (k_49 l2 l3 l4 th_) 49 [(0, .ref m), (1, .int p0), (2, .int l2), (3, .int l3), (4, .int l4)] [] [(m, .inr (9, [.ref Mo, .ref Lo, .ref Do, .ref tl, .ref ca, .int th_])), (Mo, .inl (4, 3, .inr (.inr (.inr (.inr mm))))), (q, .inl (0, 6144, .inl f)), (tl, .inl (0, 6, .inl t))]) : ∀ (fu : Nat) (l2 : Int32) (l3 : Int32) (l4 : Int32) (l5 : Int32) (th_ : Int32), AW RX7 "isSound" cX7_isSound 9 (some .boolean) [] (fun _ _ => True) (2) (PN (U := Int32 × Int32) (fun zz _ => some (.int zz.1)) (fun zz ad => [(m, .inr (9, [.ref Mo, .ref Lo, .ref Do, .ref tl, .ref ca, .int zz.2])), (Mo, .inl (4, 3, .inr (.inr (.inr (.inr mm))))), (q, .inl (0, 6144, .inl f)), (tl, .inl (0, 6, .inl t))])) (fu + kc_49) (21 * fu + ks_49) (fX7_isSound_59 N K th f t p0 k_49 fu l2 l3 l4 l5 th_) 59 [(0, .ref m), (1, .int p0), (2, .int l2), (3, .int l3), (4, .int l4), (5, .int l5)] [] [(m, .inr (9, [.ref Mo, .ref Lo, .ref Do, .ref tl, .ref ca, .int th_])), (Mo, .inl (4, 3, .inr (.inr (.inr (.inr mm))))), (q, .inl (0, 6144, .inl f)), (tl, .inl (0, 6, .inl t))] := by
  intro fu
  induction fu with
  | zero => intro l2 l3 l4 l5 th_; exact aw_none
  | succ fu ih =>
    intro l2 l3 l4 l5 th_
    refine aw_iload (q := 61) gdX7_isSound_49.2.2.2.2.2.1 rfl 5 rfl ?_
    refine aw_bipush (q := 63) (v := 20) gdX7_isSound_49.2.2.2.2.2.2.1 rfl (by decide) ?_
    refine aw_icmp_gt (tgt := 155) (q := 66) gdX7_isSound_49.2.2.2.2.2.2.2 (by decide) rfl (fun h_63 => ?_) (fun h_63 => ?_)
    · refine aw_iinc (q := 158) (v := (l4 + (1 : Int32))) (lv' := [(4, .int (l4 + (1 : Int32))), (0, .ref m), (1, .int p0), (2, .int l2), (3, .int l3), (5, .int l5)]) gdX7_isSound_143.2.2.2.2.1 rfl 4 rfl rfl (by decide) rfl ?_
      refine aw_goto (tgt := 49) gdX7_isSound_143.2.2.2.2.2.1 (by decide) ?_
      refine aw_locals (lv' := [(0, .ref m), (1, .int p0), (2, .int l2), (3, .int l3), (4, .int (l4 + (1 : Int32)))]) [1, 2, 3, 4, 0] rfl ?_
      refine aw_room (kc' := kc_49) (ks' := ks_49) (by omega) (by omega) ?_
      exact hk_49 _ _ _ _
    · refine aw_iload (q := 68) gdX7_isSound_66.1 rfl 4 rfl ?_
      refine aw_iload (q := 70) gdX7_isSound_66.2.1 rfl 5 rfl ?_
      refine aw_call (q := 73) (kc1 := (fu + kc_49)) (ks1 := (21 * fu + ks_49)) (wc := []) (wr := [(m, .inr (9, [.ref Mo, .ref Lo, .ref Do, .ref tl, .ref ca, .int th_])), (Mo, .inl (4, 3, .inr (.inr (.inr (.inr mm))))), (q, .inl (0, 6144, .inl f)), (tl, .inl (0, 6, .inl t))]) (st1 := fun x70 g70 => [.ref (g70 0)]) (ws1 := fun x70 g70 => [(m, .inr (9, [.ref Mo, .ref Lo, .ref Do, .ref tl, .ref ca, .int th_])), (Mo, .inl (4, 3, .inr (.inr (.inr (.inr mm))))), (q, .inl (0, 6144, .inl f)), (tl, .inl (0, 6, .inl t)), ((g70 0), .inl (0, 21, .inl x70))]) (As := [.int l4, .int l5]) [] [0, 1, 2, 3] (fun _ => runS gdX7_isSound_66.2.2.1 mi_X7_row st_X7_row ml_X7_64 (by omega) rfl (Nat.le_of_ble_eq_true rfl) rfl) (fun x9 h9 => ok_X7_row h9) rfl rfl rfl rfl rfl (by decide +kernel) (by omega) (by omega) (fun _ _ => rfl) (fun _ _ => rfl) (fun x70 g70 => ?_)
      refine aw_astore (q := 75) (lv' := [(6, .ref (g70 0)), (0, .ref m), (1, .int p0), (2, .int l2), (3, .int l3), (4, .int l4), (5, .int l5)]) gdX7_isSound_66.2.2.2.1 rfl (by decide) rfl ?_
      refine aw_iconst (q := 76) (v := 1) gdX7_isSound_66.2.2.2.2.1 rfl (by decide) ?_
      refine aw_istore (q := 78) (lv' := [(7, .int (1 : Int32)), (6, .ref (g70 0)), (0, .ref m), (1, .int p0), (2, .int l2), (3, .int l3), (4, .int l4), (5, .int l5)]) gdX7_isSound_66.2.2.2.2.2.1 rfl (by decide) rfl ?_
      refine aw_locals (lv' := [(0, .ref m), (1, .int p0), (2, .int l2), (3, .int l3), (4, .int l4), (5, .int l5), (6, .ref (g70 0)), (7, .int (1 : Int32))]) [2, 3, 4, 5, 6, 7, 1, 0] rfl ?_
      refine aw_room (kc' := (fu + kc_49)) (ks' := (21 * fu + ks_49)) (by omega) (by omega) ?_
      exact tX7_isSound_78 hm hk_49 ih N _ _ _ _ _ _ _ _
def fX7_isSound_49 (N K : Nat) (th : Int32) (f : Nat → Int32) (t : Nat → Int32) (p0 : Int32) : Nat → Int32 → Int32 → Int32 → Int32 → Option (Int32 × Int32)
  | 0, _, _, _, _ => none
  | fu + 1, l2, l3, l4, th_ =>
    (if (6 : Int32) ≤ l4 then (if l2 = 0 then (some ((0 : Int32), th_)) else ((fX7_told2 N K th_ f p0 (0 : Int32)).bind (fun x169 => (if l3 = x169 then (some ((1 : Int32), th_)) else (some ((0 : Int32), th_)))))) else fX7_isSound_59 N K th f t p0 (fX7_isSound_49 N K th f t p0  fu) 25 l2 l3 l4 (1 : Int32) th_)
set_option maxHeartbeats 4000000 in
set_option maxRecDepth 100000 in
theorem tX7_isSound_49 {N K : Nat} {m Mo Lo Do tl ca q : Nat} {mm : Nat → Option Nat} {th : Int32} {f : Nat → Int32} {t : Nat → Int32} {p0 : Int32} (hm : ¬ (p0 < 0 ∨ 3 ≤ p0.toNatClampNeg) → mm p0.toNatClampNeg = some q) : ∀ (fu : Nat) (l2 : Int32) (l3 : Int32) (l4 : Int32) (th_ : Int32), AW RX7 "isSound" cX7_isSound 9 (some .boolean) [] (fun _ _ => True) (2) (PN (U := Int32 × Int32) (fun zz _ => some (.int zz.1)) (fun zz ad => [(m, .inr (9, [.ref Mo, .ref Lo, .ref Do, .ref tl, .ref ca, .int zz.2])), (Mo, .inl (4, 3, .inr (.inr (.inr (.inr mm))))), (q, .inl (0, 6144, .inl f)), (tl, .inl (0, 6, .inl t))])) (25 * fu) (525 * fu) (fX7_isSound_49 N K th f t p0  fu l2 l3 l4 th_) 49 [(0, .ref m), (1, .int p0), (2, .int l2), (3, .int l3), (4, .int l4)] [] [(m, .inr (9, [.ref Mo, .ref Lo, .ref Do, .ref tl, .ref ca, .int th_])), (Mo, .inl (4, 3, .inr (.inr (.inr (.inr mm))))), (q, .inl (0, 6144, .inl f)), (tl, .inl (0, 6, .inl t))] := by
  intro fu
  induction fu with
  | zero => intro l2 l3 l4 th_; exact aw_none
  | succ fu ih =>
    intro l2 l3 l4 th_
    refine aw_iload (q := 51) gdX7_isSound_49.1 rfl 4 rfl ?_
    refine aw_bipush (q := 53) (v := 6) gdX7_isSound_49.2.1 rfl (by decide) ?_
    refine aw_icmp_ge (tgt := 161) (q := 56) gdX7_isSound_49.2.2.1 (by decide) rfl (fun h_53 => ?_) (fun h_53 => ?_)
    · refine aw_iload_n (q := 162) gdX7_isSound_143.2.2.2.2.2.2.1 rfl 2 rfl ?_
      refine aw_if_eq (tgt := 179) (q := 165) gdX7_isSound_143.2.2.2.2.2.2.2 (by decide) rfl (fun h_162 => ?_) (fun h_162 => ?_)
      · refine aw_iconst (q := 180) (v := 0) gdX7_isSound_179.1 rfl (by decide) ?_
        exact aw_ireturn (w := [(m, .inr (9, [.ref Mo, .ref Lo, .ref Do, .ref tl, .ref ca, .int th_])), (Mo, .inl (4, 3, .inr (.inr (.inr (.inr mm))))), (q, .inl (0, 6144, .inl f)), (tl, .inl (0, 6, .inl t))]) [0, 1, 2, 3] gdX7_isSound_179.2 rfl rfl rfl rfl (PN.mk (fun _ => 0) rfl rfl)
      · refine aw_iload_n (q := 166) gdX7_isSound_165.1 rfl 3 rfl ?_
        refine aw_aload_n (q := 167) gdX7_isSound_165.2.1 rfl 0 rfl ?_
        refine aw_iload_n (q := 168) gdX7_isSound_165.2.2.1 rfl 1 rfl ?_
        refine aw_iconst (q := 169) (v := 0) gdX7_isSound_165.2.2.2.1 rfl (by decide) ?_
        refine aw_call (q := 172) (kc1 := (25 * fu + 25)) (ks1 := (525 * fu + 525)) (wc := [(m, .inr (9, [.ref Mo, .ref Lo, .ref Do, .ref tl, .ref ca, .int th_])), (Mo, .inl (4, 3, .inr (.inr (.inr (.inr mm))))), (q, .inl (0, 6144, .inl f))]) (wr := [(tl, .inl (0, 6, .inl t))]) (st1 := fun x169 g169 => [.int x169, .int l3]) (ws1 := fun x169 g169 => [(tl, .inl (0, 6, .inl t)), (m, .inr (9, [.ref Mo, .ref Lo, .ref Do, .ref tl, .ref ca, .int th_])), (Mo, .inl (4, 3, .inr (.inr (.inr (.inr mm))))), (q, .inl (0, 6144, .inl f))]) (As := [.ref m, .int p0, .int (0 : Int32)]) [0, 1, 2] [3] (fun _ => runV (q0 := 0) gdX7_isSound_165.2.2.2.2.1 mi_X7_told_ im_X7_told_ se_X7_told_ ml_X7_153 (by omega) rfl (Nat.le_of_ble_eq_true rfl) rfl rfl rfl rfl) (fun x9 h9 => ok_X7_told2 hm h9) rfl rfl rfl rfl rfl (by decide +kernel) (by omega) (by omega) (fun _ _ => rfl) (fun _ _ => rfl) (fun x169 g169 => ?_)
        refine aw_icmp_ne (tgt := 179) (q := 175) gdX7_isSound_165.2.2.2.2.2.1 (by decide) rfl (fun h_172 => ?_) (fun h_172 => ?_)
        · refine aw_iconst (q := 180) (v := 0) gdX7_isSound_179.1 rfl (by decide) ?_
          exact aw_ireturn (w := [(m, .inr (9, [.ref Mo, .ref Lo, .ref Do, .ref tl, .ref ca, .int th_])), (Mo, .inl (4, 3, .inr (.inr (.inr (.inr mm))))), (q, .inl (0, 6144, .inl f)), (tl, .inl (0, 6, .inl t))]) [1, 2, 3, 0] gdX7_isSound_179.2 rfl rfl rfl rfl (PN.mk (fun _ => 0) rfl rfl)
        · refine aw_iconst (q := 176) (v := 1) gdX7_isSound_165.2.2.2.2.2.2.1 rfl (by decide) ?_
          refine aw_goto (tgt := 180) gdX7_isSound_165.2.2.2.2.2.2.2 (by decide) ?_
          exact aw_ireturn (w := [(m, .inr (9, [.ref Mo, .ref Lo, .ref Do, .ref tl, .ref ca, .int th_])), (Mo, .inl (4, 3, .inr (.inr (.inr (.inr mm))))), (q, .inl (0, 6144, .inl f)), (tl, .inl (0, 6, .inl t))]) [1, 2, 3, 0] gdX7_isSound_179.2 rfl rfl rfl rfl (PN.mk (fun _ => 0) rfl rfl)
    · refine aw_iconst (q := 57) (v := 1) gdX7_isSound_49.2.2.2.1 rfl (by decide) ?_
      refine aw_istore (q := 59) (lv' := [(5, .int (1 : Int32)), (0, .ref m), (1, .int p0), (2, .int l2), (3, .int l3), (4, .int l4)]) gdX7_isSound_49.2.2.2.2.1 rfl (by decide) rfl ?_
      refine aw_locals (lv' := [(0, .ref m), (1, .int p0), (2, .int l2), (3, .int l3), (4, .int l4), (5, .int (1 : Int32))]) [1, 2, 3, 4, 5, 0] rfl ?_
      refine aw_room (kc' := (25 + (25 * fu))) (ks' := (21 * 25 + (525 * fu))) (by omega) (by omega) ?_
      exact tX7_isSound_59 hm ih 25 _ _ _ _ _
def fX7_isSound_43 (N K : Nat) (th : Int32) (f : Nat → Int32) (t : Nat → Int32) (p0 : Int32) (s0 : Int32) (th_ : Int32) : Option (Int32 × Int32) :=
  fX7_isSound_49 N K th f t p0  8 s0 (0 : Int32) (0 : Int32) th_
set_option maxHeartbeats 4000000 in
set_option maxRecDepth 100000 in
theorem tX7_isSound_43 {N K : Nat} {m Mo Lo Do tl ca q : Nat} {mm : Nat → Option Nat} {th : Int32} {f : Nat → Int32} {t : Nat → Int32} {p0 : Int32} (hm : ¬ (p0 < 0 ∨ 3 ≤ p0.toNatClampNeg) → mm p0.toNatClampNeg = some q) : ∀ (s0 : Int32) (th_ : Int32), AW RX7 "isSound" cX7_isSound 9 (some .boolean) [] (fun _ _ => True) (2) (PN (U := Int32 × Int32) (fun zz _ => some (.int zz.1)) (fun zz ad => [(m, .inr (9, [.ref Mo, .ref Lo, .ref Do, .ref tl, .ref ca, .int zz.2])), (Mo, .inl (4, 3, .inr (.inr (.inr (.inr mm))))), (q, .inl (0, 6144, .inl f)), (tl, .inl (0, 6, .inl t))])) 200 4200 (fX7_isSound_43 N K th f t p0  s0 th_) 43 [(0, .ref m), (1, .int p0)] [.int s0] [(m, .inr (9, [.ref Mo, .ref Lo, .ref Do, .ref tl, .ref ca, .int th_])), (Mo, .inl (4, 3, .inr (.inr (.inr (.inr mm))))), (q, .inl (0, 6144, .inl f)), (tl, .inl (0, 6, .inl t))] := by
  intro s0 th_
  refine aw_istore_n (q := 44) (lv' := [(2, .int s0), (0, .ref m), (1, .int p0)]) gdX7_isSound_38.2.2.2.1 rfl (by decide) rfl ?_
  refine aw_iconst (q := 45) (v := 0) gdX7_isSound_38.2.2.2.2.1 rfl (by decide) ?_
  refine aw_istore_n (q := 46) (lv' := [(3, .int (0 : Int32)), (2, .int s0), (0, .ref m), (1, .int p0)]) gdX7_isSound_38.2.2.2.2.2.1 rfl (by decide) rfl ?_
  refine aw_iconst (q := 47) (v := 0) gdX7_isSound_38.2.2.2.2.2.2.1 rfl (by decide) ?_
  refine aw_istore (q := 49) (lv' := [(4, .int (0 : Int32)), (3, .int (0 : Int32)), (2, .int s0), (0, .ref m), (1, .int p0)]) gdX7_isSound_38.2.2.2.2.2.2.2 rfl (by decide) rfl ?_
  refine aw_locals (lv' := [(0, .ref m), (1, .int p0), (2, .int s0), (3, .int (0 : Int32)), (4, .int (0 : Int32))]) [3, 4, 2, 1, 0] rfl ?_
  refine aw_room (kc' := (25 * 8)) (ks' := (525 * 8)) (by omega) (by omega) ?_
  exact tX7_isSound_49 hm 8 _ _ _ _
def fX7_isSound (N K : Nat) (th : Int32) (f : Nat → Int32) (t : Nat → Int32) (p0 : Int32) : Option (Int32 × Int32) :=
  ((fX7_isNo N K p0 (0 : Int32) (2 : Int32)).bind (fun x4 => ((fX7_isThrown N K th x4 (0 : Int32)).bind (fun x8 => (if x8.1 = 0 then (if (t (1 : Int32).toNatClampNeg) = ((t (2 : Int32).toNatClampNeg) + (t (3 : Int32).toNatClampNeg)) then fX7_isSound_43 N K th f t p0  (1 : Int32) x8.2 else fX7_isSound_43 N K th f t p0  (0 : Int32) x8.2) else (some ((0 : Int32), x8.2)))))))
set_option maxHeartbeats 4000000 in
set_option maxRecDepth 100000 in
theorem ok_X7_isSound {N K : Nat} {m Mo Lo Do tl ca q : Nat} {mm : Nat → Option Nat} {th : Int32} {f : Nat → Int32} {t : Nat → Int32} {p0 : Int32} (hm : ¬ (p0 < 0 ∨ 3 ≤ p0.toNatClampNeg) → mm p0.toNatClampNeg = some q) {xr : Int32 × Int32} (hE : fX7_isSound N K th f t p0 = some xr) : OkM yX7_isSound (.code yX7_isSound cX7_isSound 9 (some .boolean)) (2) 200 4200 [.ref m, .int p0] [(m, .inr (9, [.ref Mo, .ref Lo, .ref Do, .ref tl, .ref ca, .int th])), (Mo, .inl (4, 3, .inr (.inr (.inr (.inr mm))))), (q, .inl (0, 6144, .inl f)), (tl, .inl (0, 6, .inl t))] ((PN (U := Int32 × Int32) (fun zz _ => some (.int zz.1)) (fun zz ad => [(m, .inr (9, [.ref Mo, .ref Lo, .ref Do, .ref tl, .ref ca, .int zz.2])), (Mo, .inl (4, 3, .inr (.inr (.inr (.inr mm))))), (q, .inl (0, 6144, .inl f)), (tl, .inl (0, 6, .inl t))])) xr) := by
  refine ok_of (by decide) (Nat.le_of_ble_eq_true rfl) hE ?_
  refine aw_locals (lv' := [(0, .ref m), (1, .int p0)]) [0, 1] rfl ?_
  refine aw_aload_n (q := 1) gdX7_isSound_0.1 rfl 0 rfl ?_
  refine aw_iload_n (q := 2) gdX7_isSound_0.2.1 rfl 1 rfl ?_
  refine aw_iconst (q := 3) (v := 0) gdX7_isSound_0.2.2.1 rfl (by decide) ?_
  refine aw_iconst (q := 4) (v := 2) gdX7_isSound_0.2.2.2.1 rfl (by decide) ?_
  refine aw_call (q := 7) (kc1 := 200) (ks1 := 4200) (wc := []) (wr := [(m, .inr (9, [.ref Mo, .ref Lo, .ref Do, .ref tl, .ref ca, .int th])), (Mo, .inl (4, 3, .inr (.inr (.inr (.inr mm))))), (q, .inl (0, 6144, .inl f)), (tl, .inl (0, 6, .inl t))]) (st1 := fun x4 g4 => [.int x4, .ref m]) (ws1 := fun x4 g4 => [(m, .inr (9, [.ref Mo, .ref Lo, .ref Do, .ref tl, .ref ca, .int th])), (Mo, .inl (4, 3, .inr (.inr (.inr (.inr mm))))), (q, .inl (0, 6144, .inl f)), (tl, .inl (0, 6, .inl t))]) (As := [.int p0, .int (0 : Int32), .int (2 : Int32)]) [] [0, 1, 2, 3] (fun _ => runS gdX7_isSound_0.2.2.2.2.1 mi_X7_isNo st_X7_isNo ml_X7_31 (by omega) rfl (Nat.le_of_ble_eq_true rfl) rfl) (fun x9 h9 => ok_X7_isNo h9) rfl rfl rfl rfl rfl (by decide +kernel) (by omega) (by omega) (fun _ _ => rfl) (fun _ _ => rfl) (fun x4 g4 => ?_)
  refine aw_iconst (q := 8) (v := 0) gdX7_isSound_0.2.2.2.2.2.1 rfl (by decide) ?_
  refine aw_call (q := 11) (kc1 := 200) (ks1 := 4200) (wc := [(m, .inr (9, [.ref Mo, .ref Lo, .ref Do, .ref tl, .ref ca, .int th]))]) (wr := [(Mo, .inl (4, 3, .inr (.inr (.inr (.inr mm))))), (q, .inl (0, 6144, .inl f)), (tl, .inl (0, 6, .inl t))]) (st1 := fun x8 g8 => [.int x8.1]) (ws1 := fun x8 g8 => [(Mo, .inl (4, 3, .inr (.inr (.inr (.inr mm))))), (q, .inl (0, 6144, .inl f)), (tl, .inl (0, 6, .inl t)), (m, .inr (9, [.ref Mo, .ref Lo, .ref Do, .ref tl, .ref ca, .int x8.2]))]) (As := [.ref m, .int x4, .int (0 : Int32)]) [0] [1, 2, 3] (fun _ => runV (q0 := 0) gdX7_isSound_0.2.2.2.2.2.2.1 mi_X7_isThrown im_X7_isThrown se_X7_isThrown ml_X7_110 (by omega) rfl (Nat.le_of_ble_eq_true rfl) rfl rfl rfl rfl) (fun x9 h9 => ok_X7_isThrown h9) rfl rfl rfl rfl rfl (by decide +kernel) (by omega) (by omega) (fun _ _ => rfl) (fun _ _ => rfl) (fun x8 g8 => ?_)
  refine aw_if_eq (tgt := 16) (q := 14) gdX7_isSound_0.2.2.2.2.2.2.2 (by decide) rfl (fun h_11 => ?_) (fun h_11 => ?_)
  · refine aw_aload_n (q := 17) gdX7_isSound_14.2.2.1 rfl 0 rfl ?_
    refine aw_get (q := 20) gdX7_isSound_14.2.2.2.1 rfl fl_X7_20 3 rfl rfl ?_
    refine aw_iconst (q := 21) (v := 1) gdX7_isSound_14.2.2.2.2.1 rfl (by decide) ?_
    refine aw_ialdT (q := 22) (by decide) gdX7_isSound_14.2.2.2.2.2.1 rfl 2 rfl ?_
    refine aw_aload_n (q := 23) gdX7_isSound_14.2.2.2.2.2.2.1 rfl 0 rfl ?_
    refine aw_get (q := 26) gdX7_isSound_14.2.2.2.2.2.2.2 rfl fl_X7_20 3 rfl rfl ?_
    refine aw_iconst (q := 27) (v := 2) gdX7_isSound_26.1 rfl (by decide) ?_
    refine aw_ialdT (q := 28) (by decide) gdX7_isSound_26.2.1 rfl 2 rfl ?_
    refine aw_aload_n (q := 29) gdX7_isSound_26.2.2.1 rfl 0 rfl ?_
    refine aw_get (q := 32) gdX7_isSound_26.2.2.2.1 rfl fl_X7_20 3 rfl rfl ?_
    refine aw_iconst (q := 33) (v := 3) gdX7_isSound_26.2.2.2.2.1 rfl (by decide) ?_
    refine aw_ialdT (q := 34) (by decide) gdX7_isSound_26.2.2.2.2.2.1 rfl 2 rfl ?_
    refine aw_iadd (q := 35) gdX7_isSound_26.2.2.2.2.2.2.1 rfl ?_
    refine aw_icmp_ne (tgt := 42) (q := 38) gdX7_isSound_26.2.2.2.2.2.2.2 (by decide) rfl (fun h_35 => ?_) (fun h_35 => ?_)
    · refine aw_iconst (q := 43) (v := 0) gdX7_isSound_38.2.2.1 rfl (by decide) ?_
      refine aw_world (ws' := [(m, .inr (9, [.ref Mo, .ref Lo, .ref Do, .ref tl, .ref ca, .int x8.2])), (Mo, .inl (4, 3, .inr (.inr (.inr (.inr mm))))), (q, .inl (0, 6144, .inl f)), (tl, .inl (0, 6, .inl t))]) [3, 0, 1, 2] rfl rfl ?_
      exact tX7_isSound_43 hm _ _
    · refine aw_iconst (q := 39) (v := 1) gdX7_isSound_38.1 rfl (by decide) ?_
      refine aw_goto (tgt := 43) gdX7_isSound_38.2.1 (by decide) ?_
      refine aw_world (ws' := [(m, .inr (9, [.ref Mo, .ref Lo, .ref Do, .ref tl, .ref ca, .int x8.2])), (Mo, .inl (4, 3, .inr (.inr (.inr (.inr mm))))), (q, .inl (0, 6144, .inl f)), (tl, .inl (0, 6, .inl t))]) [3, 0, 1, 2] rfl rfl ?_
      exact tX7_isSound_43 hm _ _
  · refine aw_iconst (q := 15) (v := 0) gdX7_isSound_14.1 rfl (by decide) ?_
    exact aw_ireturn (w := [(m, .inr (9, [.ref Mo, .ref Lo, .ref Do, .ref tl, .ref ca, .int x8.2])), (Mo, .inl (4, 3, .inr (.inr (.inr (.inr mm))))), (q, .inl (0, 6144, .inl f)), (tl, .inl (0, 6, .inl t))]) [3, 0, 1, 2] gdX7_isSound_14.2.1 rfl rfl rfl rfl (PN.mk (fun _ => 0) rfl rfl)
