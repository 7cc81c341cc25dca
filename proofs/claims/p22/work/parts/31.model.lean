def fX7_know (N K : Nat) (th : Int32) (f : Nat → Int32) (t : Nat → Int32) (u : Nat → Int32) (p0 : Int32) (p1 : Int32) (p2 : Int32) (p3 : Int32) : Option (Int32 × Int32 × (Nat → Int32) × (Nat → Int32) × (Nat → Int32)) :=
  ((fX7_isNo N K p0 (0 : Int32) (2 : Int32)).bind (fun x4 => ((fX7_isOut N K p1 p2 p3).bind (fun x11 => ((fX7_isThrown N K th x4 x11).bind (fun x14 => (if x14.1 = 0 then ((fX7_known N K x14.2 f t u p0 p1 p2 p3).bind (fun x29 => ((fX7_done N K x14.2 x29.2.2.1 x29.1).bind (fun x32 => (some (x32.1, x14.2, x29.2.1, x32.2, x29.2.2.2)))))) else (some ((0 : Int32), x14.2, f, t, u)))))))))
set_option maxHeartbeats 4000000 in
set_option maxRecDepth 100000 in
theorem ok_X7_know {N K : Nat} {m Mo Lo Do tl ca q : Nat} {mm : Nat → Option Nat} {th : Int32} {f : Nat → Int32} {t : Nat → Int32} {u : Nat → Int32} {p0 : Int32} {p1 : Int32} {p2 : Int32} {p3 : Int32} (hm : ¬ (p0 < 0 ∨ 3 ≤ p0.toNatClampNeg) → mm p0.toNatClampNeg = some q) {xr : Int32 × Int32 × (Nat → Int32) × (Nat → Int32) × (Nat → Int32)} (hE : fX7_know N K th f t u p0 p1 p2 p3 = some xr) : OkM yX7_know (.code yX7_know cX7_know 5 (some .int)) (4) 0 0 [.ref m, .int p0, .int p1, .int p2, .int p3] [(m, .inr (9, [.ref Mo, .ref Lo, .ref Do, .ref tl, .ref ca, .int th])), (Mo, .inl (4, 3, .inr (.inr (.inr (.inr mm))))), (q, .inl (0, 6144, .inl f)), (tl, .inl (0, 6, .inl t)), (ca, .inl (0, 441, .inl u))] ((PN (U := Int32 × Int32 × (Nat → Int32) × (Nat → Int32) × (Nat → Int32)) (fun zz _ => some (.int zz.1)) (fun zz ad => [(m, .inr (9, [.ref Mo, .ref Lo, .ref Do, .ref tl, .ref ca, .int zz.2.1])), (Mo, .inl (4, 3, .inr (.inr (.inr (.inr mm))))), (q, .inl (0, 6144, .inl zz.2.2.1)), (tl, .inl (0, 6, .inl zz.2.2.2.1)), (ca, .inl (0, 441, .inl zz.2.2.2.2))])) xr) := by
  refine ok_of (by decide) (Nat.le_of_ble_eq_true rfl) hE ?_
  refine aw_locals (lv' := [(0, .ref m), (1, .int p0), (2, .int p1), (3, .int p2), (4, .int p3)]) [0, 1, 2, 3, 4] rfl ?_
  refine aw_aload_n (q := 1) gdX7_know_0.1 rfl 0 rfl ?_
  refine aw_iload_n (q := 2) gdX7_know_0.2.1 rfl 1 rfl ?_
  refine aw_iconst (q := 3) (v := 0) gdX7_know_0.2.2.1 rfl (by decide) ?_
  refine aw_iconst (q := 4) (v := 2) gdX7_know_0.2.2.2.1 rfl (by decide) ?_
  refine aw_call (q := 7) (kc1 := 0) (ks1 := 0) (wc := []) (wr := [(m, .inr (9, [.ref Mo, .ref Lo, .ref Do, .ref tl, .ref ca, .int th])), (Mo, .inl (4, 3, .inr (.inr (.inr (.inr mm))))), (q, .inl (0, 6144, .inl f)), (tl, .inl (0, 6, .inl t)), (ca, .inl (0, 441, .inl u))]) (st1 := fun x4 g4 => [.int x4, .ref m]) (ws1 := fun x4 g4 => [(m, .inr (9, [.ref Mo, .ref Lo, .ref Do, .ref tl, .ref ca, .int th])), (Mo, .inl (4, 3, .inr (.inr (.inr (.inr mm))))), (q, .inl (0, 6144, .inl f)), (tl, .inl (0, 6, .inl t)), (ca, .inl (0, 441, .inl u))]) (As := [.int p0, .int (0 : Int32), .int (2 : Int32)]) [] [0, 1, 2, 3, 4] (fun _ => runS gdX7_know_0.2.2.2.2.1 mi_X7_isNo st_X7_isNo ml_X7_31 (by omega) rfl (Nat.le_of_ble_eq_true rfl) rfl) (fun x9 h9 => ok_X7_isNo h9) rfl rfl rfl rfl rfl (by decide +kernel) (by omega) (by omega) (fun _ _ => rfl) (fun _ _ => rfl) (fun x4 g4 => ?_)
  refine aw_iload_n (q := 8) gdX7_know_0.2.2.2.2.2.1 rfl 2 rfl ?_
  refine aw_iload_n (q := 9) gdX7_know_0.2.2.2.2.2.2.1 rfl 3 rfl ?_
  refine aw_iload (q := 11) gdX7_know_0.2.2.2.2.2.2.2 rfl 4 rfl ?_
  refine aw_call (q := 14) (kc1 := 0) (ks1 := 0) (wc := []) (wr := [(m, .inr (9, [.ref Mo, .ref Lo, .ref Do, .ref tl, .ref ca, .int th])), (Mo, .inl (4, 3, .inr (.inr (.inr (.inr mm))))), (q, .inl (0, 6144, .inl f)), (tl, .inl (0, 6, .inl t)), (ca, .inl (0, 441, .inl u))]) (st1 := fun x11 g11 => [.int x11, .int x4, .ref m]) (ws1 := fun x11 g11 => [(m, .inr (9, [.ref Mo, .ref Lo, .ref Do, .ref tl, .ref ca, .int th])), (Mo, .inl (4, 3, .inr (.inr (.inr (.inr mm))))), (q, .inl (0, 6144, .inl f)), (tl, .inl (0, 6, .inl t)), (ca, .inl (0, 441, .inl u))]) (As := [.int p1, .int p2, .int p3]) [] [0, 1, 2, 3, 4] (fun _ => runS gdX7_know_11.1 mi_X7_isOut st_X7_isOut ml_X7_107 (by omega) rfl (Nat.le_of_ble_eq_true rfl) rfl) (fun x9 h9 => ok_X7_isOut h9) rfl rfl rfl rfl rfl (by decide +kernel) (by omega) (by omega) (fun _ _ => rfl) (fun _ _ => rfl) (fun x11 g11 => ?_)
  refine aw_call (q := 17) (kc1 := 0) (ks1 := 0) (wc := [(m, .inr (9, [.ref Mo, .ref Lo, .ref Do, .ref tl, .ref ca, .int th]))]) (wr := [(Mo, .inl (4, 3, .inr (.inr (.inr (.inr mm))))), (q, .inl (0, 6144, .inl f)), (tl, .inl (0, 6, .inl t)), (ca, .inl (0, 441, .inl u))]) (st1 := fun x14 g14 => [.int x14.1]) (ws1 := fun x14 g14 => [(Mo, .inl (4, 3, .inr (.inr (.inr (.inr mm))))), (q, .inl (0, 6144, .inl f)), (tl, .inl (0, 6, .inl t)), (ca, .inl (0, 441, .inl u)), (m, .inr (9, [.ref Mo, .ref Lo, .ref Do, .ref tl, .ref ca, .int x14.2]))]) (As := [.ref m, .int x4, .int x11]) [0] [1, 2, 3, 4] (fun _ => runV (q0 := 0) gdX7_know_11.2.1 mi_X7_isThrown im_X7_isThrown se_X7_isThrown ml_X7_110 (by omega) rfl (Nat.le_of_ble_eq_true rfl) rfl rfl rfl rfl) (fun x9 h9 => ok_X7_isThrown h9) rfl rfl rfl rfl rfl (by decide +kernel) (by omega) (by omega) (fun _ _ => rfl) (fun _ _ => rfl) (fun x14 g14 => ?_)
  refine aw_if_eq (tgt := 22) (q := 20) gdX7_know_11.2.2.1 (by decide) rfl (fun h_17 => ?_) (fun h_17 => ?_)
  · refine aw_aload_n (q := 23) gdX7_know_11.2.2.2.2.2.1 rfl 0 rfl ?_
    refine aw_aload_n (q := 24) gdX7_know_11.2.2.2.2.2.2.1 rfl 0 rfl ?_
    refine aw_iload_n (q := 25) gdX7_know_11.2.2.2.2.2.2.2 rfl 1 rfl ?_
    refine aw_iload_n (q := 26) gdX7_know_25.1 rfl 2 rfl ?_
    refine aw_iload_n (q := 27) gdX7_know_25.2.1 rfl 3 rfl ?_
    refine aw_iload (q := 29) gdX7_know_25.2.2.1 rfl 4 rfl ?_
    refine aw_call (q := 32) (kc1 := 0) (ks1 := 0) (wc := [(m, .inr (9, [.ref Mo, .ref Lo, .ref Do, .ref tl, .ref ca, .int x14.2])), (Mo, .inl (4, 3, .inr (.inr (.inr (.inr mm))))), (q, .inl (0, 6144, .inl f)), (tl, .inl (0, 6, .inl t)), (ca, .inl (0, 441, .inl u))]) (wr := []) (st1 := fun x29 g29 => [.int x29.1, .ref m]) (ws1 := fun x29 g29 => [(m, .inr (9, [.ref Mo, .ref Lo, .ref Do, .ref tl, .ref ca, .int x14.2])), (Mo, .inl (4, 3, .inr (.inr (.inr (.inr mm))))), (q, .inl (0, 6144, .inl x29.2.1)), (tl, .inl (0, 6, .inl x29.2.2.1)), (ca, .inl (0, 441, .inl x29.2.2.2))]) (As := [.ref m, .int p0, .int p1, .int p2, .int p3]) [4, 0, 1, 2, 3] [] (fun _ => runV (q0 := 4) gdX7_know_25.2.2.2.1 mi_X7_known im_X7_known se_X7_known ml_X7_114 (by omega) rfl (Nat.le_of_ble_eq_true rfl) rfl rfl rfl rfl) (fun x9 h9 => ok_X7_known hm h9) rfl rfl rfl rfl rfl (by decide +kernel) (by omega) (by omega) (fun _ _ => rfl) (fun _ _ => rfl) (fun x29 g29 => ?_)
    refine aw_call (q := 35) (kc1 := 0) (ks1 := 0) (wc := [(m, .inr (9, [.ref Mo, .ref Lo, .ref Do, .ref tl, .ref ca, .int x14.2])), (tl, .inl (0, 6, .inl x29.2.2.1))]) (wr := [(Mo, .inl (4, 3, .inr (.inr (.inr (.inr mm))))), (q, .inl (0, 6144, .inl x29.2.1)), (ca, .inl (0, 441, .inl x29.2.2.2))]) (st1 := fun x32 g32 => [.int x32.1]) (ws1 := fun x32 g32 => [(Mo, .inl (4, 3, .inr (.inr (.inr (.inr mm))))), (q, .inl (0, 6144, .inl x29.2.1)), (ca, .inl (0, 441, .inl x29.2.2.2)), (m, .inr (9, [.ref Mo, .ref Lo, .ref Do, .ref tl, .ref ca, .int x14.2])), (tl, .inl (0, 6, .inl x32.2))]) (As := [.ref m, .int x29.1]) [0, 3] [1, 2, 4] (fun _ => runV (q0 := 0) gdX7_know_25.2.2.2.2.1 mi_X7_done im_X7_done se_X7_done ml_X7_117 (by omega) rfl (Nat.le_of_ble_eq_true rfl) rfl rfl rfl rfl) (fun x9 h9 => ok_X7_done h9) rfl rfl rfl rfl rfl (by decide +kernel) (by omega) (by omega) (fun _ _ => rfl) (fun _ _ => rfl) (fun x32 g32 => ?_)
    exact aw_ireturn (w := [(m, .inr (9, [.ref Mo, .ref Lo, .ref Do, .ref tl, .ref ca, .int x14.2])), (Mo, .inl (4, 3, .inr (.inr (.inr (.inr mm))))), (q, .inl (0, 6144, .inl x29.2.1)), (tl, .inl (0, 6, .inl x32.2)), (ca, .inl (0, 441, .inl x29.2.2.2))]) [3, 0, 1, 4, 2] gdX7_know_25.2.2.2.2.2 rfl rfl rfl rfl (PN.mk (fun _ => 0) rfl rfl)
  · refine aw_iconst (q := 21) (v := 0) gdX7_know_11.2.2.2.1 rfl (by decide) ?_
    exact aw_ireturn (w := [(m, .inr (9, [.ref Mo, .ref Lo, .ref Do, .ref tl, .ref ca, .int x14.2])), (Mo, .inl (4, 3, .inr (.inr (.inr (.inr mm))))), (q, .inl (0, 6144, .inl f)), (tl, .inl (0, 6, .inl t)), (ca, .inl (0, 441, .inl u))]) [4, 0, 1, 2, 3] gdX7_know_11.2.2.2.2.1 rfl rfl rfl rfl (PN.mk (fun _ => 0) rfl rfl)
def fX7_few_46 (N K : Nat) (th : Int32) (f : Nat → Int32) (t : Nat → Int32) (u : Nat → Int32) (p0 : Int32) (p1 : Int32) (p2 : Int32) : Nat → Int32 → Int32 → Int32 → (Nat → Int32) → (Nat → Int32) → (Nat → Int32) → Option (Int32 × Int32 × (Nat → Int32) × (Nat → Int32) × (Nat → Int32))
  | 0, _, _, _, _, _, _ => none
  | fu + 1, l4, l5, th_, f_, t_, u_ =>
    (if p2 < l5 then ((fX7_done N K th_ t_ l4).bind (fun x75 => (some (x75.1, th_, f_, x75.2, u_)))) else ((fX7_known N K th_ f_ t_ u_ p0 (1 : Int32) p1 l5).bind (fun x60 => fX7_few_46 N K th f t u p0 p1 p2  fu (l4 + x60.1) (l5 + (1 : Int32)) th_ x60.2.1 x60.2.2.1 x60.2.2.2)))
set_option maxHeartbeats 4000000 in
set_option maxRecDepth 100000 in
theorem tX7_few_46 {N K : Nat} {m Mo Lo Do tl ca q : Nat} {mm : Nat → Option Nat} {th : Int32} {f : Nat → Int32} {t : Nat → Int32} {u : Nat → Int32} {p0 : Int32} {p1 : Int32} {p2 : Int32} (hm : ¬ (p0 < 0 ∨ 3 ≤ p0.toNatClampNeg) → mm p0.toNatClampNeg = some q) : ∀ (fu : Nat) (l4 : Int32) (l5 : Int32) (th_ : Int32) (f_ : Nat → Int32) (t_ : Nat → Int32) (u_ : Nat → Int32), AW RX7 "few" cX7_few 6 (some .int) [] (fun _ _ => True) (4) (PN (U := Int32 × Int32 × (Nat → Int32) × (Nat → Int32) × (Nat → Int32)) (fun zz _ => some (.int zz.1)) (fun zz ad => [(m, .inr (9, [.ref Mo, .ref Lo, .ref Do, .ref tl, .ref ca, .int zz.2.1])), (Mo, .inl (4, 3, .inr (.inr (.inr (.inr mm))))), (q, .inl (0, 6144, .inl zz.2.2.1)), (tl, .inl (0, 6, .inl zz.2.2.2.1)), (ca, .inl (0, 441, .inl zz.2.2.2.2))])) 0 0 (fX7_few_46 N K th f t u p0 p1 p2  fu l4 l5 th_ f_ t_ u_) 46 [(0, .ref m), (1, .int p0), (2, .int p1), (3, .int p2), (4, .int l4), (5, .int l5)] [] [(m, .inr (9, [.ref Mo, .ref Lo, .ref Do, .ref tl, .ref ca, .int th_])), (Mo, .inl (4, 3, .inr (.inr (.inr (.inr mm))))), (q, .inl (0, 6144, .inl f_)), (tl, .inl (0, 6, .inl t_)), (ca, .inl (0, 441, .inl u_))] := by
  intro fu
  induction fu with
  | zero => intro l4 l5 th_ f_ t_ u_; exact aw_none
  | succ fu ih =>
    intro l4 l5 th_ f_ t_ u_
    refine aw_iload (q := 48) gdX7_few_43.2.2.1 rfl 5 rfl ?_
    refine aw_iload_n (q := 49) gdX7_few_43.2.2.2.1 rfl 3 rfl ?_
    refine aw_icmp_gt (tgt := 72) (q := 52) gdX7_few_43.2.2.2.2.1 (by decide) rfl (fun h_49 => ?_) (fun h_49 => ?_)
    · refine aw_aload_n (q := 73) gdX7_few_72.1 rfl 0 rfl ?_
      refine aw_iload (q := 75) gdX7_few_72.2.1 rfl 4 rfl ?_
      refine aw_call (q := 78) (kc1 := 0) (ks1 := 0) (wc := [(m, .inr (9, [.ref Mo, .ref Lo, .ref Do, .ref tl, .ref ca, .int th_])), (tl, .inl (0, 6, .inl t_))]) (wr := [(Mo, .inl (4, 3, .inr (.inr (.inr (.inr mm))))), (q, .inl (0, 6144, .inl f_)), (ca, .inl (0, 441, .inl u_))]) (st1 := fun x75 g75 => [.int x75.1]) (ws1 := fun x75 g75 => [(Mo, .inl (4, 3, .inr (.inr (.inr (.inr mm))))), (q, .inl (0, 6144, .inl f_)), (ca, .inl (0, 441, .inl u_)), (m, .inr (9, [.ref Mo, .ref Lo, .ref Do, .ref tl, .ref ca, .int th_])), (tl, .inl (0, 6, .inl x75.2))]) (As := [.ref m, .int l4]) [0, 3] [1, 2, 4] (fun _ => runV (q0 := 0) gdX7_few_72.2.2.1 mi_X7_done im_X7_done se_X7_done ml_X7_117 (by omega) rfl (Nat.le_of_ble_eq_true rfl) rfl rfl rfl rfl) (fun x9 h9 => ok_X7_done h9) rfl rfl rfl rfl rfl (by decide +kernel) (by omega) (by omega) (fun _ _ => rfl) (fun _ _ => rfl) (fun x75 g75 => ?_)
      exact aw_ireturn (w := [(m, .inr (9, [.ref Mo, .ref Lo, .ref Do, .ref tl, .ref ca, .int th_])), (Mo, .inl (4, 3, .inr (.inr (.inr (.inr mm))))), (q, .inl (0, 6144, .inl f_)), (tl, .inl (0, 6, .inl x75.2)), (ca, .inl (0, 441, .inl u_))]) [3, 0, 1, 4, 2] gdX7_few_72.2.2.2 rfl rfl rfl rfl (PN.mk (fun _ => 0) rfl rfl)
    · refine aw_iload (q := 54) gdX7_few_43.2.2.2.2.2.1 rfl 4 rfl ?_
      refine aw_aload_n (q := 55) gdX7_few_43.2.2.2.2.2.2.1 rfl 0 rfl ?_
      refine aw_iload_n (q := 56) gdX7_few_43.2.2.2.2.2.2.2 rfl 1 rfl ?_
      refine aw_iconst (q := 57) (v := 1) gdX7_few_56.1 rfl (by decide) ?_
      refine aw_iload_n (q := 58) gdX7_few_56.2.1 rfl 2 rfl ?_
      refine aw_iload (q := 60) gdX7_few_56.2.2.1 rfl 5 rfl ?_
      refine aw_call (q := 63) (kc1 := 0) (ks1 := 0) (wc := [(m, .inr (9, [.ref Mo, .ref Lo, .ref Do, .ref tl, .ref ca, .int th_])), (Mo, .inl (4, 3, .inr (.inr (.inr (.inr mm))))), (q, .inl (0, 6144, .inl f_)), (tl, .inl (0, 6, .inl t_)), (ca, .inl (0, 441, .inl u_))]) (wr := []) (st1 := fun x60 g60 => [.int x60.1, .int l4]) (ws1 := fun x60 g60 => [(m, .inr (9, [.ref Mo, .ref Lo, .ref Do, .ref tl, .ref ca, .int th_])), (Mo, .inl (4, 3, .inr (.inr (.inr (.inr mm))))), (q, .inl (0, 6144, .inl x60.2.1)), (tl, .inl (0, 6, .inl x60.2.2.1)), (ca, .inl (0, 441, .inl x60.2.2.2))]) (As := [.ref m, .int p0, .int (1 : Int32), .int p1, .int l5]) [0, 1, 2, 3, 4] [] (fun _ => runV (q0 := 0) gdX7_few_56.2.2.2.1 mi_X7_known im_X7_known se_X7_known ml_X7_114 (by omega) rfl (Nat.le_of_ble_eq_true rfl) rfl rfl rfl rfl) (fun x9 h9 => ok_X7_known hm h9) rfl rfl rfl rfl rfl (by decide +kernel) (by omega) (by omega) (fun _ _ => rfl) (fun _ _ => rfl) (fun x60 g60 => ?_)
      refine aw_iadd (q := 64) gdX7_few_56.2.2.2.2.1 rfl ?_
      refine aw_istore (q := 66) (lv' := [(4, .int (l4 + x60.1)), (0, .ref m), (1, .int p0), (2, .int p1), (3, .int p2), (5, .int l5)]) gdX7_few_56.2.2.2.2.2.1 rfl (by decide) rfl ?_
      refine aw_iinc (q := 69) (v := (l5 + (1 : Int32))) (lv' := [(5, .int (l5 + (1 : Int32))), (4, .int (l4 + x60.1)), (0, .ref m), (1, .int p0), (2, .int p1), (3, .int p2)]) gdX7_few_56.2.2.2.2.2.2.1 rfl 5 rfl rfl (by decide) rfl ?_
      refine aw_goto (tgt := 46) gdX7_few_56.2.2.2.2.2.2.2 (by decide) ?_
      refine aw_locals (lv' := [(0, .ref m), (1, .int p0), (2, .int p1), (3, .int p2), (4, .int (l4 + x60.1)), (5, .int (l5 + (1 : Int32)))]) [2, 3, 4, 5, 1, 0] rfl ?_
      exact ih _ _ _ _ _ _
def fX7_few_32 (N K : Nat) (th : Int32) (f : Nat → Int32) (t : Nat → Int32) (u : Nat → Int32) (p0 : Int32) (p1 : Int32) (p2 : Int32) (s0 : Int32) (s1 : Int32) (th_ : Int32) (f_ : Nat → Int32) (t_ : Nat → Int32) (u_ : Nat → Int32) : Option (Int32 × Int32 × (Nat → Int32) × (Nat → Int32) × (Nat → Int32)) :=
  ((fX7_isThrown N K th_ s1 s0).bind (fun x32 => (if x32.1 = 0 then fX7_few_46 N K th f t u p0 p1 p2  N (0 : Int32) (0 : Int32) x32.2 f_ t_ u_ else (some ((0 : Int32), x32.2, f_, t_, u_)))))
set_option maxHeartbeats 4000000 in
set_option maxRecDepth 100000 in
theorem tX7_few_32 {N K : Nat} {m Mo Lo Do tl ca q : Nat} {mm : Nat → Option Nat} {th : Int32} {f : Nat → Int32} {t : Nat → Int32} {u : Nat → Int32} {p0 : Int32} {p1 : Int32} {p2 : Int32} (hm : ¬ (p0 < 0 ∨ 3 ≤ p0.toNatClampNeg) → mm p0.toNatClampNeg = some q) : ∀ (s0 : Int32) (s1 : Int32) (th_ : Int32) (f_ : Nat → Int32) (t_ : Nat → Int32) (u_ : Nat → Int32), AW RX7 "few" cX7_few 6 (some .int) [] (fun _ _ => True) (4) (PN (U := Int32 × Int32 × (Nat → Int32) × (Nat → Int32) × (Nat → Int32)) (fun zz _ => some (.int zz.1)) (fun zz ad => [(m, .inr (9, [.ref Mo, .ref Lo, .ref Do, .ref tl, .ref ca, .int zz.2.1])), (Mo, .inl (4, 3, .inr (.inr (.inr (.inr mm))))), (q, .inl (0, 6144, .inl zz.2.2.1)), (tl, .inl (0, 6, .inl zz.2.2.2.1)), (ca, .inl (0, 441, .inl zz.2.2.2.2))])) 0 0 (fX7_few_32 N K th f t u p0 p1 p2  s0 s1 th_ f_ t_ u_) 32 [(0, .ref m), (1, .int p0), (2, .int p1), (3, .int p2)] [.int s0, .int s1, .ref m] [(m, .inr (9, [.ref Mo, .ref Lo, .ref Do, .ref tl, .ref ca, .int th_])), (Mo, .inl (4, 3, .inr (.inr (.inr (.inr mm))))), (q, .inl (0, 6144, .inl f_)), (tl, .inl (0, 6, .inl t_)), (ca, .inl (0, 441, .inl u_))] := by
  intro s0 s1 th_ f_ t_ u_
  refine aw_call (q := 35) (kc1 := 0) (ks1 := 0) (wc := [(m, .inr (9, [.ref Mo, .ref Lo, .ref Do, .ref tl, .ref ca, .int th_]))]) (wr := [(Mo, .inl (4, 3, .inr (.inr (.inr (.inr mm))))), (q, .inl (0, 6144, .inl f_)), (tl, .inl (0, 6, .inl t_)), (ca, .inl (0, 441, .inl u_))]) (st1 := fun x32 g32 => [.int x32.1]) (ws1 := fun x32 g32 => [(Mo, .inl (4, 3, .inr (.inr (.inr (.inr mm))))), (q, .inl (0, 6144, .inl f_)), (tl, .inl (0, 6, .inl t_)), (ca, .inl (0, 441, .inl u_)), (m, .inr (9, [.ref Mo, .ref Lo, .ref Do, .ref tl, .ref ca, .int x32.2]))]) (As := [.ref m, .int s1, .int s0]) [0] [1, 2, 3, 4] (fun _ => runV (q0 := 0) gdX7_few_28.2.2.1 mi_X7_isThrown im_X7_isThrown se_X7_isThrown ml_X7_110 (by omega) rfl (Nat.le_of_ble_eq_true rfl) rfl rfl rfl rfl) (fun x9 h9 => ok_X7_isThrown h9) rfl rfl rfl rfl rfl (by decide +kernel) (by omega) (by omega) (fun _ _ => rfl) (fun _ _ => rfl) (fun x32 g32 => ?_)
  refine aw_if_eq (tgt := 40) (q := 38) gdX7_few_28.2.2.2.1 (by decide) rfl (fun h_35 => ?_) (fun h_35 => ?_)
  · refine aw_iconst (q := 41) (v := 0) gdX7_few_28.2.2.2.2.2.2.1 rfl (by decide) ?_
    refine aw_istore (q := 43) (lv' := [(4, .int (0 : Int32)), (0, .ref m), (1, .int p0), (2, .int p1), (3, .int p2)]) gdX7_few_28.2.2.2.2.2.2.2 rfl (by decide) rfl ?_
    refine aw_iconst (q := 44) (v := 0) gdX7_few_43.1 rfl (by decide) ?_
    refine aw_istore (q := 46) (lv' := [(5, .int (0 : Int32)), (4, .int (0 : Int32)), (0, .ref m), (1, .int p0), (2, .int p1), (3, .int p2)]) gdX7_few_43.2.1 rfl (by decide) rfl ?_
    refine aw_locals (lv' := [(0, .ref m), (1, .int p0), (2, .int p1), (3, .int p2), (4, .int (0 : Int32)), (5, .int (0 : Int32))]) [2, 3, 4, 5, 1, 0] rfl ?_
    refine aw_world (ws' := [(m, .inr (9, [.ref Mo, .ref Lo, .ref Do, .ref tl, .ref ca, .int x32.2])), (Mo, .inl (4, 3, .inr (.inr (.inr (.inr mm))))), (q, .inl (0, 6144, .inl f_)), (tl, .inl (0, 6, .inl t_)), (ca, .inl (0, 441, .inl u_))]) [4, 0, 1, 2, 3] rfl rfl ?_
    exact tX7_few_46 hm N _ _ _ _ _ _
  · refine aw_iconst (q := 39) (v := 0) gdX7_few_28.2.2.2.2.1 rfl (by decide) ?_
    exact aw_ireturn (w := [(m, .inr (9, [.ref Mo, .ref Lo, .ref Do, .ref tl, .ref ca, .int x32.2])), (Mo, .inl (4, 3, .inr (.inr (.inr (.inr mm))))), (q, .inl (0, 6144, .inl f_)), (tl, .inl (0, 6, .inl t_)), (ca, .inl (0, 441, .inl u_))]) [4, 0, 1, 2, 3] gdX7_few_28.2.2.2.2.2.1 rfl rfl rfl rfl (PN.mk (fun _ => 0) rfl rfl)
def fX7_few_27 (N K : Nat) (th : Int32) (f : Nat → Int32) (t : Nat → Int32) (u : Nat → Int32) (p0 : Int32) (p1 : Int32) (p2 : Int32) (s0 : Int32) (th_ : Int32) (f_ : Nat → Int32) (t_ : Nat → Int32) (u_ : Nat → Int32) : Option (Int32 × Int32 × (Nat → Int32) × (Nat → Int32) × (Nat → Int32)) :=
  fX7_few_32 N K th f t u p0 p1 p2  (1 : Int32) s0 th_ f_ t_ u_
set_option maxHeartbeats 4000000 in
set_option maxRecDepth 100000 in
theorem tX7_few_27 {N K : Nat} {m Mo Lo Do tl ca q : Nat} {mm : Nat → Option Nat} {th : Int32} {f : Nat → Int32} {t : Nat → Int32} {u : Nat → Int32} {p0 : Int32} {p1 : Int32} {p2 : Int32} (hm : ¬ (p0 < 0 ∨ 3 ≤ p0.toNatClampNeg) → mm p0.toNatClampNeg = some q) : ∀ (s0 : Int32) (th_ : Int32) (f_ : Nat → Int32) (t_ : Nat → Int32) (u_ : Nat → Int32), AW RX7 "few" cX7_few 6 (some .int) [] (fun _ _ => True) (4) (PN (U := Int32 × Int32 × (Nat → Int32) × (Nat → Int32) × (Nat → Int32)) (fun zz _ => some (.int zz.1)) (fun zz ad => [(m, .inr (9, [.ref Mo, .ref Lo, .ref Do, .ref tl, .ref ca, .int zz.2.1])), (Mo, .inl (4, 3, .inr (.inr (.inr (.inr mm))))), (q, .inl (0, 6144, .inl zz.2.2.1)), (tl, .inl (0, 6, .inl zz.2.2.2.1)), (ca, .inl (0, 441, .inl zz.2.2.2.2))])) 0 0 (fX7_few_27 N K th f t u p0 p1 p2  s0 th_ f_ t_ u_) 27 [(0, .ref m), (1, .int p0), (2, .int p1), (3, .int p2)] [.int s0, .ref m] [(m, .inr (9, [.ref Mo, .ref Lo, .ref Do, .ref tl, .ref ca, .int th_])), (Mo, .inl (4, 3, .inr (.inr (.inr (.inr mm))))), (q, .inl (0, 6144, .inl f_)), (tl, .inl (0, 6, .inl t_)), (ca, .inl (0, 441, .inl u_))] := by
  intro s0 th_ f_ t_ u_
  refine aw_iconst (q := 28) (v := 1) gdX7_few_11.2.2.2.2.2.2.2 rfl (by decide) ?_
  refine aw_goto (tgt := 32) gdX7_few_28.1 (by decide) ?_
  exact tX7_few_32 hm _ _ _ _ _ _
def fX7_few (N K : Nat) (th : Int32) (f : Nat → Int32) (t : Nat → Int32) (u : Nat → Int32) (p0 : Int32) (p1 : Int32) (p2 : Int32) : Option (Int32 × Int32 × (Nat → Int32) × (Nat → Int32) × (Nat → Int32)) :=
  ((fX7_isNo N K p0 (0 : Int32) (2 : Int32)).bind (fun x4 => ((fX7_isNo N K p1 (0 : Int32) (20 : Int32)).bind (fun x11 => (if x11 = 0 then ((fX7_isNo N K p2 (0 : Int32) (20 : Int32)).bind (fun x21 => (if x21 = 0 then fX7_few_32 N K th f t u p0 p1 p2  (0 : Int32) x4 th f t u else fX7_few_27 N K th f t u p0 p1 p2  x4 th f t u))) else fX7_few_27 N K th f t u p0 p1 p2  x4 th f t u)))))
set_option maxHeartbeats 4000000 in
set_option maxRecDepth 100000 in
theorem ok_X7_few {N K : Nat} {m Mo Lo Do tl ca q : Nat} {mm : Nat → Option Nat} {th : Int32} {f : Nat → Int32} {t : Nat → Int32} {u : Nat → Int32} {p0 : Int32} {p1 : Int32} {p2 : Int32} (hm : ¬ (p0 < 0 ∨ 3 ≤ p0.toNatClampNeg) → mm p0.toNatClampNeg = some q) {xr : Int32 × Int32 × (Nat → Int32) × (Nat → Int32) × (Nat → Int32)} (hE : fX7_few N K th f t u p0 p1 p2 = some xr) : OkM yX7_few (.code yX7_few cX7_few 6 (some .int)) (4) 0 0 [.ref m, .int p0, .int p1, .int p2] [(m, .inr (9, [.ref Mo, .ref Lo, .ref Do, .ref tl, .ref ca, .int th])), (Mo, .inl (4, 3, .inr (.inr (.inr (.inr mm))))), (q, .inl (0, 6144, .inl f)), (tl, .inl (0, 6, .inl t)), (ca, .inl (0, 441, .inl u))] ((PN (U := Int32 × Int32 × (Nat → Int32) × (Nat → Int32) × (Nat → Int32)) (fun zz _ => some (.int zz.1)) (fun zz ad => [(m, .inr (9, [.ref Mo, .ref Lo, .ref Do, .ref tl, .ref ca, .int zz.2.1])), (Mo, .inl (4, 3, .inr (.inr (.inr (.inr mm))))), (q, .inl (0, 6144, .inl zz.2.2.1)), (tl, .inl (0, 6, .inl zz.2.2.2.1)), (ca, .inl (0, 441, .inl zz.2.2.2.2))])) xr) := by
  refine ok_of (by decide) (Nat.le_of_ble_eq_true rfl) hE ?_
  refine aw_locals (lv' := [(0, .ref m), (1, .int p0), (2, .int p1), (3, .int p2)]) [0, 1, 2, 3] rfl ?_
  refine aw_aload_n (q := 1) gdX7_few_0.1 rfl 0 rfl ?_
  refine aw_iload_n (q := 2) gdX7_few_0.2.1 rfl 1 rfl ?_
  refine aw_iconst (q := 3) (v := 0) gdX7_few_0.2.2.1 rfl (by decide) ?_
  refine aw_iconst (q := 4) (v := 2) gdX7_few_0.2.2.2.1 rfl (by decide) ?_
  refine aw_call (q := 7) (kc1 := 0) (ks1 := 0) (wc := []) (wr := [(m, .inr (9, [.ref Mo, .ref Lo, .ref Do, .ref tl, .ref ca, .int th])), (Mo, .inl (4, 3, .inr (.inr (.inr (.inr mm))))), (q, .inl (0, 6144, .inl f)), (tl, .inl (0, 6, .inl t)), (ca, .inl (0, 441, .inl u))]) (st1 := fun x4 g4 => [.int x4, .ref m]) (ws1 := fun x4 g4 => [(m, .inr (9, [.ref Mo, .ref Lo, .ref Do, .ref tl, .ref ca, .int th])), (Mo, .inl (4, 3, .inr (.inr (.inr (.inr mm))))), (q, .inl (0, 6144, .inl f)), (tl, .inl (0, 6, .inl t)), (ca, .inl (0, 441, .inl u))]) (As := [.int p0, .int (0 : Int32), .int (2 : Int32)]) [] [0, 1, 2, 3, 4] (fun _ => runS gdX7_few_0.2.2.2.2.1 mi_X7_isNo st_X7_isNo ml_X7_31 (by omega) rfl (Nat.le_of_ble_eq_true rfl) rfl) (fun x9 h9 => ok_X7_isNo h9) rfl rfl rfl rfl rfl (by decide +kernel) (by omega) (by omega) (fun _ _ => rfl) (fun _ _ => rfl) (fun x4 g4 => ?_)
  refine aw_iload_n (q := 8) gdX7_few_0.2.2.2.2.2.1 rfl 2 rfl ?_
  refine aw_iconst (q := 9) (v := 0) gdX7_few_0.2.2.2.2.2.2.1 rfl (by decide) ?_
  refine aw_bipush (q := 11) (v := 20) gdX7_few_0.2.2.2.2.2.2.2 rfl (by decide) ?_
  refine aw_call (q := 14) (kc1 := 0) (ks1 := 0) (wc := []) (wr := [(m, .inr (9, [.ref Mo, .ref Lo, .ref Do, .ref tl, .ref ca, .int th])), (Mo, .inl (4, 3, .inr (.inr (.inr (.inr mm))))), (q, .inl (0, 6144, .inl f)), (tl, .inl (0, 6, .inl t)), (ca, .inl (0, 441, .inl u))]) (st1 := fun x11 g11 => [.int x11, .int x4, .ref m]) (ws1 := fun x11 g11 => [(m, .inr (9, [.ref Mo, .ref Lo, .ref Do, .ref tl, .ref ca, .int th])), (Mo, .inl (4, 3, .inr (.inr (.inr (.inr mm))))), (q, .inl (0, 6144, .inl f)), (tl, .inl (0, 6, .inl t)), (ca, .inl (0, 441, .inl u))]) (As := [.int p1, .int (0 : Int32), .int (20 : Int32)]) [] [0, 1, 2, 3, 4] (fun _ => runS gdX7_few_11.1 mi_X7_isNo st_X7_isNo ml_X7_31 (by omega) rfl (Nat.le_of_ble_eq_true rfl) rfl) (fun x9 h9 => ok_X7_isNo h9) rfl rfl rfl rfl rfl (by decide +kernel) (by omega) (by omega) (fun _ _ => rfl) (fun _ _ => rfl) (fun x11 g11 => ?_)
  refine aw_if_ne (tgt := 27) (q := 17) gdX7_few_11.2.1 (by decide) rfl (fun h_14 => ?_) (fun h_14 => ?_)
  · exact tX7_few_27 hm _ _ _ _ _
  · refine aw_iload_n (q := 18) gdX7_few_11.2.2.1 rfl 3 rfl ?_
    refine aw_iconst (q := 19) (v := 0) gdX7_few_11.2.2.2.1 rfl (by decide) ?_
    refine aw_bipush (q := 21) (v := 20) gdX7_few_11.2.2.2.2.1 rfl (by decide) ?_
    refine aw_call (q := 24) (kc1 := 0) (ks1 := 0) (wc := []) (wr := [(m, .inr (9, [.ref Mo, .ref Lo, .ref Do, .ref tl, .ref ca, .int th])), (Mo, .inl (4, 3, .inr (.inr (.inr (.inr mm))))), (q, .inl (0, 6144, .inl f)), (tl, .inl (0, 6, .inl t)), (ca, .inl (0, 441, .inl u))]) (st1 := fun x21 g21 => [.int x21, .int x4, .ref m]) (ws1 := fun x21 g21 => [(m, .inr (9, [.ref Mo, .ref Lo, .ref Do, .ref tl, .ref ca, .int th])), (Mo, .inl (4, 3, .inr (.inr (.inr (.inr mm))))), (q, .inl (0, 6144, .inl f)), (tl, .inl (0, 6, .inl t)), (ca, .inl (0, 441, .inl u))]) (As := [.int p2, .int (0 : Int32), .int (20 : Int32)]) [] [0, 1, 2, 3, 4] (fun _ => runS gdX7_few_11.2.2.2.2.2.1 mi_X7_isNo st_X7_isNo ml_X7_31 (by omega) rfl (Nat.le_of_ble_eq_true rfl) rfl) (fun x9 h9 => ok_X7_isNo h9) rfl rfl rfl rfl rfl (by decide +kernel) (by omega) (by omega) (fun _ _ => rfl) (fun _ _ => rfl) (fun x21 g21 => ?_)
    refine aw_if_eq (tgt := 31) (q := 27) gdX7_few_11.2.2.2.2.2.2.1 (by decide) rfl (fun h_24 => ?_) (fun h_24 => ?_)
    · refine aw_iconst (q := 32) (v := 0) gdX7_few_28.2.1 rfl (by decide) ?_
      exact tX7_few_32 hm _ _ _ _ _ _
    · exact tX7_few_27 hm _ _ _ _ _
def fX7_surplus_46 (N K : Nat) (th : Int32) (f : Nat → Int32) (t : Nat → Int32) (u : Nat → Int32) (p0 : Int32) (p1 : Int32) (k_27 : Int32 → Int32 → Int32 → (Nat → Int32) → (Nat → Int32) → (Nat → Int32) → Option (Int32 × Int32 × (Nat → Int32) × (Nat → Int32) × (Nat → Int32))) (l4 : Int32) (s0 : Int32) (s1 : Int32) (th_ : Int32) (f_ : Nat → Int32) (t_ : Nat → Int32) (u_ : Nat → Int32) : Option (Int32 × Int32 × (Nat → Int32) × (Nat → Int32) × (Nat → Int32)) :=
  ((fX7_known N K th_ f_ t_ u_ p0 (5 : Int32) p1 l4).bind (fun x52 => k_27 (s1 + (s0 * x52.1)) (l4 + (1 : Int32)) th_ x52.2.1 x52.2.2.1 x52.2.2.2))
set_option maxHeartbeats 4000000 in
set_option maxRecDepth 100000 in
theorem tX7_surplus_46 {N K : Nat} {m Mo Lo Do tl ca q : Nat} {mm : Nat → Option Nat} {th : Int32} {f : Nat → Int32} {t : Nat → Int32} {u : Nat → Int32} {p0 : Int32} {p1 : Int32} (hm : ¬ (p0 < 0 ∨ 3 ≤ p0.toNatClampNeg) → mm p0.toNatClampNeg = some q) {k_27 : Int32 → Int32 → Int32 → (Nat → Int32) → (Nat → Int32) → (Nat → Int32) → Option (Int32 × Int32 × (Nat → Int32) × (Nat → Int32) × (Nat → Int32))} (hk_27 : ∀ (l3 : Int32) (l4 : Int32) (th_ : Int32) (f_ : Nat → Int32) (t_ : Nat → Int32) (u_ : Nat → Int32), AW RX7 "surplus" cX7_surplus 5 (some .int) [] (fun _ _ => True) (4) (PN (U := Int32 × Int32 × (Nat → Int32) × (Nat → Int32) × (Nat → Int32)) (fun zz _ => some (.int zz.1)) (fun zz ad => [(m, .inr (9, [.ref Mo, .ref Lo, .ref Do, .ref tl, .ref ca, .int zz.2.1])), (Mo, .inl (4, 3, .inr (.inr (.inr (.inr mm))))), (q, .inl (0, 6144, .inl zz.2.2.1)), (tl, .inl (0, 6, .inl zz.2.2.2.1)), (ca, .inl (0, 441, .inl zz.2.2.2.2))])) 0 0 (k_27 l3 l4 th_ f_ t_ u_) 27 [(0, .ref m), (1, .int p0), (2, .int p1), (3, .int l3), (4, .int l4)] [] [(m, .inr (9, [.ref Mo, .ref Lo, .ref Do, .ref tl, .ref ca, .int th_])), (Mo, .inl (4, 3, .inr (.inr (.inr (.inr mm))))), (q, .inl (0, 6144, .inl f_)), (tl, .inl (0, 6, .inl t_)), (ca, .inl (0, 441, .inl u_))]) : ∀ (l4 : Int32) (s0 : Int32) (s1 : Int32) (th_ : Int32) (f_ : Nat → Int32) (t_ : Nat → Int32) (u_ : Nat → Int32), AW RX7 "surplus" cX7_surplus 5 (some .int) [] (fun _ _ => True) (4) (PN (U := Int32 × Int32 × (Nat → Int32) × (Nat → Int32) × (Nat → Int32)) (fun zz _ => some (.int zz.1)) (fun zz ad => [(m, .inr (9, [.ref Mo, .ref Lo, .ref Do, .ref tl, .ref ca, .int zz.2.1])), (Mo, .inl (4, 3, .inr (.inr (.inr (.inr mm))))), (q, .inl (0, 6144, .inl zz.2.2.1)), (tl, .inl (0, 6, .inl zz.2.2.2.1)), (ca, .inl (0, 441, .inl zz.2.2.2.2))])) 0 0 (fX7_surplus_46 N K th f t u p0 p1 k_27 l4 s0 s1 th_ f_ t_ u_) 46 [(0, .ref m), (1, .int p0), (2, .int p1), (4, .int l4)] [.int s0, .int s1] [(m, .inr (9, [.ref Mo, .ref Lo, .ref Do, .ref tl, .ref ca, .int th_])), (Mo, .inl (4, 3, .inr (.inr (.inr (.inr mm))))), (q, .inl (0, 6144, .inl f_)), (tl, .inl (0, 6, .inl t_)), (ca, .inl (0, 441, .inl u_))] := by
  intro l4 s0 s1 th_ f_ t_ u_
  refine aw_aload_n (q := 47) gdX7_surplus_38.2.2.2.2.1 rfl 0 rfl ?_
  refine aw_iload_n (q := 48) gdX7_surplus_38.2.2.2.2.2.1 rfl 1 rfl ?_
  refine aw_iconst (q := 49) (v := 5) gdX7_surplus_38.2.2.2.2.2.2.1 rfl (by decide) ?_
  refine aw_iload_n (q := 50) gdX7_surplus_38.2.2.2.2.2.2.2 rfl 2 rfl ?_
  refine aw_iload (q := 52) gdX7_surplus_50.1 rfl 3 rfl ?_
  refine aw_call (q := 55) (kc1 := 0) (ks1 := 0) (wc := [(m, .inr (9, [.ref Mo, .ref Lo, .ref Do, .ref tl, .ref ca, .int th_])), (Mo, .inl (4, 3, .inr (.inr (.inr (.inr mm))))), (q, .inl (0, 6144, .inl f_)), (tl, .inl (0, 6, .inl t_)), (ca, .inl (0, 441, .inl u_))]) (wr := []) (st1 := fun x52 g52 => [.int x52.1, .int s0, .int s1]) (ws1 := fun x52 g52 => [(m, .inr (9, [.ref Mo, .ref Lo, .ref Do, .ref tl, .ref ca, .int th_])), (Mo, .inl (4, 3, .inr (.inr (.inr (.inr mm))))), (q, .inl (0, 6144, .inl x52.2.1)), (tl, .inl (0, 6, .inl x52.2.2.1)), (ca, .inl (0, 441, .inl x52.2.2.2))]) (As := [.ref m, .int p0, .int (5 : Int32), .int p1, .int l4]) [0, 1, 2, 3, 4] [] (fun _ => runV (q0 := 0) gdX7_surplus_50.2.1 mi_X7_known im_X7_known se_X7_known ml_X7_114 (by omega) rfl (Nat.le_of_ble_eq_true rfl) rfl rfl rfl rfl) (fun x9 h9 => ok_X7_known hm h9) rfl rfl rfl rfl rfl (by decide +kernel) (by omega) (by omega) (fun _ _ => rfl) (fun _ _ => rfl) (fun x52 g52 => ?_)
  refine aw_imul (q := 56) gdX7_surplus_50.2.2.1 rfl ?_
  refine aw_iadd (q := 57) gdX7_surplus_50.2.2.2.1 rfl ?_
  refine aw_istore_n (q := 58) (lv' := [(3, .int (s1 + (s0 * x52.1))), (0, .ref m), (1, .int p0), (2, .int p1), (4, .int l4)]) gdX7_surplus_50.2.2.2.2.1 rfl (by decide) rfl ?_
  refine aw_iinc (q := 61) (v := (l4 + (1 : Int32))) (lv' := [(4, .int (l4 + (1 : Int32))), (3, .int (s1 + (s0 * x52.1))), (0, .ref m), (1, .int p0), (2, .int p1)]) gdX7_surplus_50.2.2.2.2.2.1 rfl 4 rfl rfl (by decide) rfl ?_
  refine aw_goto (tgt := 27) gdX7_surplus_50.2.2.2.2.2.2.1 (by decide) ?_
  refine aw_locals (lv' := [(0, .ref m), (1, .int p0), (2, .int p1), (3, .int (s1 + (s0 * x52.1))), (4, .int (l4 + (1 : Int32)))]) [2, 3, 4, 1, 0] rfl ?_
  exact hk_27 _ _ _ _ _ _
def fX7_surplus_27 (N K : Nat) (th : Int32) (f : Nat → Int32) (t : Nat → Int32) (u : Nat → Int32) (p0 : Int32) (p1 : Int32) : Nat → Int32 → Int32 → Int32 → (Nat → Int32) → (Nat → Int32) → (Nat → Int32) → Option (Int32 × Int32 × (Nat → Int32) × (Nat → Int32) × (Nat → Int32))
  | 0, _, _, _, _, _, _ => none
  | fu + 1, l3, l4, th_, f_, t_, u_ =>
    (if p1 < l4 then ((fX7_done N K th_ t_ l3).bind (fun x66 => (some (x66.1, th_, f_, x66.2, u_)))) else (if (l4 % (2 : Int32)) = 0 then fX7_surplus_46 N K th f t u p0 p1 (fX7_surplus_27 N K th f t u p0 p1  fu) l4 (1 : Int32) l3 th_ f_ t_ u_ else fX7_surplus_46 N K th f t u p0 p1 (fX7_surplus_27 N K th f t u p0 p1  fu) l4 (-1 : Int32) l3 th_ f_ t_ u_))
set_option maxHeartbeats 4000000 in
set_option maxRecDepth 100000 in
theorem tX7_surplus_27 {N K : Nat} {m Mo Lo Do tl ca q : Nat} {mm : Nat → Option Nat} {th : Int32} {f : Nat → Int32} {t : Nat → Int32} {u : Nat → Int32} {p0 : Int32} {p1 : Int32} (hm : ¬ (p0 < 0 ∨ 3 ≤ p0.toNatClampNeg) → mm p0.toNatClampNeg = some q) : ∀ (fu : Nat) (l3 : Int32) (l4 : Int32) (th_ : Int32) (f_ : Nat → Int32) (t_ : Nat → Int32) (u_ : Nat → Int32), AW RX7 "surplus" cX7_surplus 5 (some .int) [] (fun _ _ => True) (4) (PN (U := Int32 × Int32 × (Nat → Int32) × (Nat → Int32) × (Nat → Int32)) (fun zz _ => some (.int zz.1)) (fun zz ad => [(m, .inr (9, [.ref Mo, .ref Lo, .ref Do, .ref tl, .ref ca, .int zz.2.1])), (Mo, .inl (4, 3, .inr (.inr (.inr (.inr mm))))), (q, .inl (0, 6144, .inl zz.2.2.1)), (tl, .inl (0, 6, .inl zz.2.2.2.1)), (ca, .inl (0, 441, .inl zz.2.2.2.2))])) 0 0 (fX7_surplus_27 N K th f t u p0 p1  fu l3 l4 th_ f_ t_ u_) 27 [(0, .ref m), (1, .int p0), (2, .int p1), (3, .int l3), (4, .int l4)] [] [(m, .inr (9, [.ref Mo, .ref Lo, .ref Do, .ref tl, .ref ca, .int th_])), (Mo, .inl (4, 3, .inr (.inr (.inr (.inr mm))))), (q, .inl (0, 6144, .inl f_)), (tl, .inl (0, 6, .inl t_)), (ca, .inl (0, 441, .inl u_))] := by
  intro fu
  induction fu with
  | zero => intro l3 l4 th_ f_ t_ u_; exact aw_none
  | succ fu ih =>
    intro l3 l4 th_ f_ t_ u_
    refine aw_iload (q := 29) gdX7_surplus_25.2.1 rfl 4 rfl ?_
    refine aw_iload_n (q := 30) gdX7_surplus_25.2.2.1 rfl 2 rfl ?_
    refine aw_icmp_gt (tgt := 64) (q := 33) gdX7_surplus_25.2.2.2.1 (by decide) rfl (fun h_30 => ?_) (fun h_30 => ?_)
    · refine aw_aload_n (q := 65) gdX7_surplus_50.2.2.2.2.2.2.2 rfl 0 rfl ?_
      refine aw_iload_n (q := 66) gdX7_surplus_65.1 rfl 3 rfl ?_
      refine aw_call (q := 69) (kc1 := 0) (ks1 := 0) (wc := [(m, .inr (9, [.ref Mo, .ref Lo, .ref Do, .ref tl, .ref ca, .int th_])), (tl, .inl (0, 6, .inl t_))]) (wr := [(Mo, .inl (4, 3, .inr (.inr (.inr (.inr mm))))), (q, .inl (0, 6144, .inl f_)), (ca, .inl (0, 441, .inl u_))]) (st1 := fun x66 g66 => [.int x66.1]) (ws1 := fun x66 g66 => [(Mo, .inl (4, 3, .inr (.inr (.inr (.inr mm))))), (q, .inl (0, 6144, .inl f_)), (ca, .inl (0, 441, .inl u_)), (m, .inr (9, [.ref Mo, .ref Lo, .ref Do, .ref tl, .ref ca, .int th_])), (tl, .inl (0, 6, .inl x66.2))]) (As := [.ref m, .int l3]) [0, 3] [1, 2, 4] (fun _ => runV (q0 := 0) gdX7_surplus_65.2.1 mi_X7_done im_X7_done se_X7_done ml_X7_117 (by omega) rfl (Nat.le_of_ble_eq_true rfl) rfl rfl rfl rfl) (fun x9 h9 => ok_X7_done h9) rfl rfl rfl rfl rfl (by decide +kernel) (by omega) (by omega) (fun _ _ => rfl) (fun _ _ => rfl) (fun x66 g66 => ?_)
      exact aw_ireturn (w := [(m, .inr (9, [.ref Mo, .ref Lo, .ref Do, .ref tl, .ref ca, .int th_])), (Mo, .inl (4, 3, .inr (.inr (.inr (.inr mm))))), (q, .inl (0, 6144, .inl f_)), (tl, .inl (0, 6, .inl x66.2)), (ca, .inl (0, 441, .inl u_))]) [3, 0, 1, 4, 2] gdX7_surplus_65.2.2 rfl rfl rfl rfl (PN.mk (fun _ => 0) rfl rfl)
    · refine aw_iload_n (q := 34) gdX7_surplus_25.2.2.2.2.1 rfl 3 rfl ?_
      refine aw_iload (q := 36) gdX7_surplus_25.2.2.2.2.2.1 rfl 4 rfl ?_
      refine aw_iconst (q := 37) (v := 2) gdX7_surplus_25.2.2.2.2.2.2.1 rfl (by decide) ?_
      refine aw_iremT (q := 38) gdX7_surplus_25.2.2.2.2.2.2.2 rfl (by decide) ?_
      refine aw_if_ne (tgt := 45) (q := 41) gdX7_surplus_38.1 (by decide) rfl (fun h_38 => ?_) (fun h_38 => ?_)
      · refine aw_iconst (q := 46) (v := (-1)) gdX7_surplus_38.2.2.2.1 rfl (by decide) ?_
        refine aw_locals (lv' := [(0, .ref m), (1, .int p0), (2, .int p1), (4, .int l4)]) [0, 1, 2, 4] rfl ?_
        exact tX7_surplus_46 hm ih _ _ _ _ _ _ _
      · refine aw_iconst (q := 42) (v := 1) gdX7_surplus_38.2.1 rfl (by decide) ?_
        refine aw_goto (tgt := 46) gdX7_surplus_38.2.2.1 (by decide) ?_
        refine aw_locals (lv' := [(0, .ref m), (1, .int p0), (2, .int p1), (4, .int l4)]) [0, 1, 2, 4] rfl ?_
        exact tX7_surplus_46 hm ih _ _ _ _ _ _ _
def fX7_surplus (N K : Nat) (th : Int32) (f : Nat → Int32) (t : Nat → Int32) (u : Nat → Int32) (p0 : Int32) (p1 : Int32) : Option (Int32 × Int32 × (Nat → Int32) × (Nat → Int32) × (Nat → Int32)) :=
  ((fX7_isNo N K p0 (0 : Int32) (2 : Int32)).bind (fun x4 => ((fX7_isNo N K p1 (0 : Int32) (20 : Int32)).bind (fun x11 => ((fX7_isThrown N K th x4 x11).bind (fun x14 => (if x14.1 = 0 then fX7_surplus_27 N K th f t u p0 p1  N (0 : Int32) (0 : Int32) x14.2 f t u else (some ((0 : Int32), x14.2, f, t, u)))))))))
set_option maxHeartbeats 4000000 in
set_option maxRecDepth 100000 in
theorem ok_X7_surplus {N K : Nat} {m Mo Lo Do tl ca q : Nat} {mm : Nat → Option Nat} {th : Int32} {f : Nat → Int32} {t : Nat → Int32} {u : Nat → Int32} {p0 : Int32} {p1 : Int32} (hm : ¬ (p0 < 0 ∨ 3 ≤ p0.toNatClampNeg) → mm p0.toNatClampNeg = some q) {xr : Int32 × Int32 × (Nat → Int32) × (Nat → Int32) × (Nat → Int32)} (hE : fX7_surplus N K th f t u p0 p1 = some xr) : OkM yX7_surplus (.code yX7_surplus cX7_surplus 5 (some .int)) (4) 0 0 [.ref m, .int p0, .int p1] [(m, .inr (9, [.ref Mo, .ref Lo, .ref Do, .ref tl, .ref ca, .int th])), (Mo, .inl (4, 3, .inr (.inr (.inr (.inr mm))))), (q, .inl (0, 6144, .inl f)), (tl, .inl (0, 6, .inl t)), (ca, .inl (0, 441, .inl u))] ((PN (U := Int32 × Int32 × (Nat → Int32) × (Nat → Int32) × (Nat → Int32)) (fun zz _ => some (.int zz.1)) (fun zz ad => [(m, .inr (9, [.ref Mo, .ref Lo, .ref Do, .ref tl, .ref ca, .int zz.2.1])), (Mo, .inl (4, 3, .inr (.inr (.inr (.inr mm))))), (q, .inl (0, 6144, .inl zz.2.2.1)), (tl, .inl (0, 6, .inl zz.2.2.2.1)), (ca, .inl (0, 441, .inl zz.2.2.2.2))])) xr) := by
  refine ok_of (by decide) (Nat.le_of_ble_eq_true rfl) hE ?_
  refine aw_locals (lv' := [(0, .ref m), (1, .int p0), (2, .int p1)]) [0, 1, 2] rfl ?_
  refine aw_aload_n (q := 1) gdX7_surplus_0.1 rfl 0 rfl ?_
  refine aw_iload_n (q := 2) gdX7_surplus_0.2.1 rfl 1 rfl ?_
  refine aw_iconst (q := 3) (v := 0) gdX7_surplus_0.2.2.1 rfl (by decide) ?_
  refine aw_iconst (q := 4) (v := 2) gdX7_surplus_0.2.2.2.1 rfl (by decide) ?_
  refine aw_call (q := 7) (kc1 := 0) (ks1 := 0) (wc := []) (wr := [(m, .inr (9, [.ref Mo, .ref Lo, .ref Do, .ref tl, .ref ca, .int th])), (Mo, .inl (4, 3, .inr (.inr (.inr (.inr mm))))), (q, .inl (0, 6144, .inl f)), (tl, .inl (0, 6, .inl t)), (ca, .inl (0, 441, .inl u))]) (st1 := fun x4 g4 => [.int x4, .ref m]) (ws1 := fun x4 g4 => [(m, .inr (9, [.ref Mo, .ref Lo, .ref Do, .ref tl, .ref ca, .int th])), (Mo, .inl (4, 3, .inr (.inr (.inr (.inr mm))))), (q, .inl (0, 6144, .inl f)), (tl, .inl (0, 6, .inl t)), (ca, .inl (0, 441, .inl u))]) (As := [.int p0, .int (0 : Int32), .int (2 : Int32)]) [] [0, 1, 2, 3, 4] (fun _ => runS gdX7_surplus_0.2.2.2.2.1 mi_X7_isNo st_X7_isNo ml_X7_31 (by omega) rfl (Nat.le_of_ble_eq_true rfl) rfl) (fun x9 h9 => ok_X7_isNo h9) rfl rfl rfl rfl rfl (by decide +kernel) (by omega) (by omega) (fun _ _ => rfl) (fun _ _ => rfl) (fun x4 g4 => ?_)
  refine aw_iload_n (q := 8) gdX7_surplus_0.2.2.2.2.2.1 rfl 2 rfl ?_
  refine aw_iconst (q := 9) (v := 0) gdX7_surplus_0.2.2.2.2.2.2.1 rfl (by decide) ?_
  refine aw_bipush (q := 11) (v := 20) gdX7_surplus_0.2.2.2.2.2.2.2 rfl (by decide) ?_
  refine aw_call (q := 14) (kc1 := 0) (ks1 := 0) (wc := []) (wr := [(m, .inr (9, [.ref Mo, .ref Lo, .ref Do, .ref tl, .ref ca, .int th])), (Mo, .inl (4, 3, .inr (.inr (.inr (.inr mm))))), (q, .inl (0, 6144, .inl f)), (tl, .inl (0, 6, .inl t)), (ca, .inl (0, 441, .inl u))]) (st1 := fun x11 g11 => [.int x11, .int x4, .ref m]) (ws1 := fun x11 g11 => [(m, .inr (9, [.ref Mo, .ref Lo, .ref Do, .ref tl, .ref ca, .int th])), (Mo, .inl (4, 3, .inr (.inr (.inr (.inr mm))))), (q, .inl (0, 6144, .inl f)), (tl, .inl (0, 6, .inl t)), (ca, .inl (0, 441, .inl u))]) (As := [.int p1, .int (0 : Int32), .int (20 : Int32)]) [] [0, 1, 2, 3, 4] (fun _ => runS gdX7_surplus_11.1 mi_X7_isNo st_X7_isNo ml_X7_31 (by omega) rfl (Nat.le_of_ble_eq_true rfl) rfl) (fun x9 h9 => ok_X7_isNo h9) rfl rfl rfl rfl rfl (by decide +kernel) (by omega) (by omega) (fun _ _ => rfl) (fun _ _ => rfl) (fun x11 g11 => ?_)
  refine aw_call (q := 17) (kc1 := 0) (ks1 := 0) (wc := [(m, .inr (9, [.ref Mo, .ref Lo, .ref Do, .ref tl, .ref ca, .int th]))]) (wr := [(Mo, .inl (4, 3, .inr (.inr (.inr (.inr mm))))), (q, .inl (0, 6144, .inl f)), (tl, .inl (0, 6, .inl t)), (ca, .inl (0, 441, .inl u))]) (st1 := fun x14 g14 => [.int x14.1]) (ws1 := fun x14 g14 => [(Mo, .inl (4, 3, .inr (.inr (.inr (.inr mm))))), (q, .inl (0, 6144, .inl f)), (tl, .inl (0, 6, .inl t)), (ca, .inl (0, 441, .inl u)), (m, .inr (9, [.ref Mo, .ref Lo, .ref Do, .ref tl, .ref ca, .int x14.2]))]) (As := [.ref m, .int x4, .int x11]) [0] [1, 2, 3, 4] (fun _ => runV (q0 := 0) gdX7_surplus_11.2.1 mi_X7_isThrown im_X7_isThrown se_X7_isThrown ml_X7_110 (by omega) rfl (Nat.le_of_ble_eq_true rfl) rfl rfl rfl rfl) (fun x9 h9 => ok_X7_isThrown h9) rfl rfl rfl rfl rfl (by decide +kernel) (by omega) (by omega) (fun _ _ => rfl) (fun _ _ => rfl) (fun x14 g14 => ?_)
  refine aw_if_eq (tgt := 22) (q := 20) gdX7_surplus_11.2.2.1 (by decide) rfl (fun h_17 => ?_) (fun h_17 => ?_)
  · refine aw_iconst (q := 23) (v := 0) gdX7_surplus_11.2.2.2.2.2.1 rfl (by decide) ?_
    refine aw_istore_n (q := 24) (lv' := [(3, .int (0 : Int32)), (0, .ref m), (1, .int p0), (2, .int p1)]) gdX7_surplus_11.2.2.2.2.2.2.1 rfl (by decide) rfl ?_
    refine aw_iconst (q := 25) (v := 0) gdX7_surplus_11.2.2.2.2.2.2.2 rfl (by decide) ?_
    refine aw_istore (q := 27) (lv' := [(4, .int (0 : Int32)), (3, .int (0 : Int32)), (0, .ref m), (1, .int p0), (2, .int p1)]) gdX7_surplus_25.1 rfl (by decide) rfl ?_
    refine aw_locals (lv' := [(0, .ref m), (1, .int p0), (2, .int p1), (3, .int (0 : Int32)), (4, .int (0 : Int32))]) [2, 3, 4, 1, 0] rfl ?_
    refine aw_world (ws' := [(m, .inr (9, [.ref Mo, .ref Lo, .ref Do, .ref tl, .ref ca, .int x14.2])), (Mo, .inl (4, 3, .inr (.inr (.inr (.inr mm))))), (q, .inl (0, 6144, .inl f)), (tl, .inl (0, 6, .inl t)), (ca, .inl (0, 441, .inl u))]) [4, 0, 1, 2, 3] rfl rfl ?_
    exact tX7_surplus_27 hm N _ _ _ _ _ _
  · refine aw_iconst (q := 21) (v := 0) gdX7_surplus_11.2.2.2.1 rfl (by decide) ?_
    exact aw_ireturn (w := [(m, .inr (9, [.ref Mo, .ref Lo, .ref Do, .ref tl, .ref ca, .int x14.2])), (Mo, .inl (4, 3, .inr (.inr (.inr (.inr mm))))), (q, .inl (0, 6144, .inl f)), (tl, .inl (0, 6, .inl t)), (ca, .inl (0, 441, .inl u))]) [4, 0, 1, 2, 3] gdX7_surplus_11.2.2.2.2.1 rfl rfl rfl rfl (PN.mk (fun _ => 0) rfl rfl)
def fX7_place_69 (N K : Nat) (th : Int32) (f : Nat → Int32) (fd : Nat → Int32) (t : Nat → Int32) (u : Nat → Int32) (p0 : Int32) (p1 : Int32) (k_53 : Int32 → Int32 → Int32 → Int32 → Int32 → (Nat → Int32) → (Nat → Int32) → (Nat → Int32) → Option (Int32 × Int32 × (Nat → Int32) × (Nat → Int32) × (Nat → Int32))) : Nat → Int32 → Int32 → Int32 → Int32 → Int32 → Int32 → (Nat → Int32) → (Nat → Int32) → (Nat → Int32) → Option (Int32 × Int32 × (Nat → Int32) × (Nat → Int32) × (Nat → Int32))
  | 0, _, _, _, _, _, _, _, _, _ => none
  | fu + 1, l3, l4, l5, l6, l7, th_, f_, t_, u_ =>
    (if l7 ≤ 0 then k_53 l3 l4 l5 (l6 + (-1 : Int32)) th_ f_ t_ u_ else ((fX7_known N K th_ f_ t_ u_ p0 (0 : Int32) l3 l4).bind (fun x82 => ((fX7_known N K th_ x82.2.1 x82.2.2.1 x82.2.2.2 p0 (0 : Int32) l3 l6).bind (fun x96 => fX7_place_69 N K th f fd t u p0 p1 k_53 fu (l3 - l6) l6 ((l5 + x82.1) - x96.1) l6 (l7 + (-1 : Int32)) th_ x96.2.1 x96.2.2.1 x96.2.2.2)))))
set_option maxHeartbeats 4000000 in
set_option maxRecDepth 100000 in
theorem tX7_place_69 {N K : Nat} {m Mo Lo Do tl ca q w : Nat} {mm : Nat → Option Nat} {dd : Nat → Option Nat} {th : Int32} {f : Nat → Int32} {fd : Nat → Int32} {t : Nat → Int32} {u : Nat → Int32} {p0 : Int32} {p1 : Int32} (hm : ¬ (p0 < 0 ∨ 3 ≤ p0.toNatClampNeg) → mm p0.toNatClampNeg = some q) (hd : ¬ (p1 < 0 ∨ 2 ≤ p1.toNatClampNeg) → dd p1.toNatClampNeg = some w) {k_53 : Int32 → Int32 → Int32 → Int32 → Int32 → (Nat → Int32) → (Nat → Int32) → (Nat → Int32) → Option (Int32 × Int32 × (Nat → Int32) × (Nat → Int32) × (Nat → Int32))} (hk_53 : ∀ (l3 : Int32) (l4 : Int32) (l5 : Int32) (l6 : Int32) (th_ : Int32) (f_ : Nat → Int32) (t_ : Nat → Int32) (u_ : Nat → Int32), AW RX7 "place" cX7_place 8 (some .int) [] (fun _ _ => True) (4) (PN (U := Int32 × Int32 × (Nat → Int32) × (Nat → Int32) × (Nat → Int32)) (fun zz _ => some (.int zz.1)) (fun zz ad => [(m, .inr (9, [.ref Mo, .ref Lo, .ref Do, .ref tl, .ref ca, .int zz.2.1])), (Mo, .inl (4, 3, .inr (.inr (.inr (.inr mm))))), (q, .inl (0, 6144, .inl zz.2.2.1)), (Do, .inl (4, 2, .inr (.inr (.inr (.inr dd))))), (w, .inl (0, 21, .inl fd)), (tl, .inl (0, 6, .inl zz.2.2.2.1)), (ca, .inl (0, 441, .inl zz.2.2.2.2))])) 0 0 (k_53 l3 l4 l5 l6 th_ f_ t_ u_) 53 [(0, .ref m), (1, .int p0), (2, .int p1), (3, .int l3), (4, .int l4), (5, .int l5), (6, .int l6)] [] [(m, .inr (9, [.ref Mo, .ref Lo, .ref Do, .ref tl, .ref ca, .int th_])), (Mo, .inl (4, 3, .inr (.inr (.inr (.inr mm))))), (q, .inl (0, 6144, .inl f_)), (Do, .inl (4, 2, .inr (.inr (.inr (.inr dd))))), (w, .inl (0, 21, .inl fd)), (tl, .inl (0, 6, .inl t_)), (ca, .inl (0, 441, .inl u_))]) : ∀ (fu : Nat) (l3 : Int32) (l4 : Int32) (l5 : Int32) (l6 : Int32) (l7 : Int32) (th_ : Int32) (f_ : Nat → Int32) (t_ : Nat → Int32) (u_ : Nat → Int32), AW RX7 "place" cX7_place 8 (some .int) [] (fun _ _ => True) (4) (PN (U := Int32 × Int32 × (Nat → Int32) × (Nat → Int32) × (Nat → Int32)) (fun zz _ => some (.int zz.1)) (fun zz ad => [(m, .inr (9, [.ref Mo, .ref Lo, .ref Do, .ref tl, .ref ca, .int zz.2.1])), (Mo, .inl (4, 3, .inr (.inr (.inr (.inr mm))))), (q, .inl (0, 6144, .inl zz.2.2.1)), (Do, .inl (4, 2, .inr (.inr (.inr (.inr dd))))), (w, .inl (0, 21, .inl fd)), (tl, .inl (0, 6, .inl zz.2.2.2.1)), (ca, .inl (0, 441, .inl zz.2.2.2.2))])) 0 0 (fX7_place_69 N K th f fd t u p0 p1 k_53 fu l3 l4 l5 l6 l7 th_ f_ t_ u_) 69 [(0, .ref m), (1, .int p0), (2, .int p1), (3, .int l3), (4, .int l4), (5, .int l5), (6, .int l6), (7, .int l7)] [] [(m, .inr (9, [.ref Mo, .ref Lo, .ref Do, .ref tl, .ref ca, .int th_])), (Mo, .inl (4, 3, .inr (.inr (.inr (.inr mm))))), (q, .inl (0, 6144, .inl f_)), (Do, .inl (4, 2, .inr (.inr (.inr (.inr dd))))), (w, .inl (0, 21, .inl fd)), (tl, .inl (0, 6, .inl t_)), (ca, .inl (0, 441, .inl u_))] := by
  intro fu
  induction fu with
  | zero => intro l3 l4 l5 l6 l7 th_ f_ t_ u_; exact aw_none
  | succ fu ih =>
    intro l3 l4 l5 l6 l7 th_ f_ t_ u_
    refine aw_iload (q := 71) gdX7_place_69.1 rfl 7 rfl ?_
    refine aw_if_le (tgt := 117) (q := 74) gdX7_place_69.2.1 (by decide) rfl (fun h_71 => ?_) (fun h_71 => ?_)
    · refine aw_iinc (q := 120) (v := (l6 + (-1 : Int32))) (lv' := [(6, .int (l6 + (-1 : Int32))), (0, .ref m), (1, .int p0), (2, .int p1), (3, .int l3), (4, .int l4), (5, .int l5), (7, .int l7)]) gdX7_place_107.2.2.2.2.1 rfl 6 rfl rfl (by decide) rfl ?_
      refine aw_goto (tgt := 53) gdX7_place_107.2.2.2.2.2.1 (by decide) ?_
      refine aw_locals (lv' := [(0, .ref m), (1, .int p0), (2, .int p1), (3, .int l3), (4, .int l4), (5, .int l5), (6, .int (l6 + (-1 : Int32)))]) [1, 2, 3, 4, 5, 6, 0] rfl ?_
      exact hk_53 _ _ _ _ _ _ _ _
    · refine aw_iload (q := 76) gdX7_place_69.2.2.1 rfl 5 rfl ?_
      refine aw_aload_n (q := 77) gdX7_place_69.2.2.2.1 rfl 0 rfl ?_
      refine aw_iload_n (q := 78) gdX7_place_69.2.2.2.2.1 rfl 1 rfl ?_
      refine aw_iconst (q := 79) (v := 0) gdX7_place_69.2.2.2.2.2.1 rfl (by decide) ?_
      refine aw_iload_n (q := 80) gdX7_place_69.2.2.2.2.2.2.1 rfl 3 rfl ?_
      refine aw_iload (q := 82) gdX7_place_69.2.2.2.2.2.2.2 rfl 4 rfl ?_
      refine aw_call (q := 85) (kc1 := 0) (ks1 := 0) (wc := [(m, .inr (9, [.ref Mo, .ref Lo, .ref Do, .ref tl, .ref ca, .int th_])), (Mo, .inl (4, 3, .inr (.inr (.inr (.inr mm))))), (q, .inl (0, 6144, .inl f_)), (tl, .inl (0, 6, .inl t_)), (ca, .inl (0, 441, .inl u_))]) (wr := [(Do, .inl (4, 2, .inr (.inr (.inr (.inr dd))))), (w, .inl (0, 21, .inl fd))]) (st1 := fun x82 g82 => [.int x82.1, .int l5]) (ws1 := fun x82 g82 => [(Do, .inl (4, 2, .inr (.inr (.inr (.inr dd))))), (w, .inl (0, 21, .inl fd)), (m, .inr (9, [.ref Mo, .ref Lo, .ref Do, .ref tl, .ref ca, .int th_])), (Mo, .inl (4, 3, .inr (.inr (.inr (.inr mm))))), (q, .inl (0, 6144, .inl x82.2.1)), (tl, .inl (0, 6, .inl x82.2.2.1)), (ca, .inl (0, 441, .inl x82.2.2.2))]) (As := [.ref m, .int p0, .int (0 : Int32), .int l3, .int l4]) [0, 1, 2, 5, 6] [3, 4] (fun _ => runV (q0 := 0) gdX7_place_82.1 mi_X7_known im_X7_known se_X7_known ml_X7_114 (by omega) rfl (Nat.le_of_ble_eq_true rfl) rfl rfl rfl rfl) (fun x9 h9 => ok_X7_known hm h9) rfl rfl rfl rfl rfl (by decide +kernel) (by omega) (by omega) (fun _ _ => rfl) (fun _ _ => rfl) (fun x82 g82 => ?_)
      refine aw_iadd (q := 86) gdX7_place_82.2.1 rfl ?_
      refine aw_istore (q := 88) (lv' := [(5, .int (l5 + x82.1)), (0, .ref m), (1, .int p0), (2, .int p1), (3, .int l3), (4, .int l4), (6, .int l6), (7, .int l7)]) gdX7_place_82.2.2.1 rfl (by decide) rfl ?_
      refine aw_iload (q := 90) gdX7_place_82.2.2.2.1 rfl 0 rfl ?_
      refine aw_aload_n (q := 91) gdX7_place_82.2.2.2.2.1 rfl 1 rfl ?_
      refine aw_iload_n (q := 92) gdX7_place_82.2.2.2.2.2.1 rfl 2 rfl ?_
      refine aw_iconst (q := 93) (v := 0) gdX7_place_82.2.2.2.2.2.2.1 rfl (by decide) ?_
      refine aw_iload_n (q := 94) gdX7_place_82.2.2.2.2.2.2.2 rfl 4 rfl ?_
      refine aw_iload (q := 96) gdX7_place_94.1 rfl 6 rfl ?_
      refine aw_call (q := 99) (kc1 := 0) (ks1 := 0) (wc := [(m, .inr (9, [.ref Mo, .ref Lo, .ref Do, .ref tl, .ref ca, .int th_])), (Mo, .inl (4, 3, .inr (.inr (.inr (.inr mm))))), (q, .inl (0, 6144, .inl x82.2.1)), (tl, .inl (0, 6, .inl x82.2.2.1)), (ca, .inl (0, 441, .inl x82.2.2.2))]) (wr := [(Do, .inl (4, 2, .inr (.inr (.inr (.inr dd))))), (w, .inl (0, 21, .inl fd))]) (st1 := fun x96 g96 => [.int x96.1, .int (l5 + x82.1)]) (ws1 := fun x96 g96 => [(Do, .inl (4, 2, .inr (.inr (.inr (.inr dd))))), (w, .inl (0, 21, .inl fd)), (m, .inr (9, [.ref Mo, .ref Lo, .ref Do, .ref tl, .ref ca, .int th_])), (Mo, .inl (4, 3, .inr (.inr (.inr (.inr mm))))), (q, .inl (0, 6144, .inl x96.2.1)), (tl, .inl (0, 6, .inl x96.2.2.1)), (ca, .inl (0, 441, .inl x96.2.2.2))]) (As := [.ref m, .int p0, .int (0 : Int32), .int l3, .int l6]) [2, 3, 4, 5, 6] [0, 1] (fun _ => runV (q0 := 2) gdX7_place_94.2.1 mi_X7_known im_X7_known se_X7_known ml_X7_114 (by omega) rfl (Nat.le_of_ble_eq_true rfl) rfl rfl rfl rfl) (fun x9 h9 => ok_X7_known hm h9) rfl rfl rfl rfl rfl (by decide +kernel) (by omega) (by omega) (fun _ _ => rfl) (fun _ _ => rfl) (fun x96 g96 => ?_)
      refine aw_isub (q := 100) gdX7_place_94.2.2.1 rfl ?_
      refine aw_istore (q := 102) (lv' := [(5, .int ((l5 + x82.1) - x96.1)), (0, .ref m), (1, .int p0), (2, .int p1), (3, .int l3), (4, .int l4), (6, .int l6), (7, .int l7)]) gdX7_place_94.2.2.2.1 rfl (by decide) rfl ?_
      refine aw_iload_n (q := 103) gdX7_place_94.2.2.2.2.1 rfl 4 rfl ?_
      refine aw_iload (q := 105) gdX7_place_94.2.2.2.2.2.1 rfl 6 rfl ?_
      refine aw_isub (q := 106) gdX7_place_94.2.2.2.2.2.2.1 rfl ?_
      refine aw_istore_n (q := 107) (lv' := [(3, .int (l3 - l6)), (5, .int ((l5 + x82.1) - x96.1)), (0, .ref m), (1, .int p0), (2, .int p1), (4, .int l4), (6, .int l6), (7, .int l7)]) gdX7_place_94.2.2.2.2.2.2.2 rfl (by decide) rfl ?_
      refine aw_iload (q := 109) gdX7_place_107.1 rfl 6 rfl ?_
      refine aw_istore (q := 111) (lv' := [(4, .int l6), (3, .int (l3 - l6)), (5, .int ((l5 + x82.1) - x96.1)), (0, .ref m), (1, .int p0), (2, .int p1), (6, .int l6), (7, .int l7)]) gdX7_place_107.2.1 rfl (by decide) rfl ?_
      refine aw_iinc (q := 114) (v := (l7 + (-1 : Int32))) (lv' := [(7, .int (l7 + (-1 : Int32))), (4, .int l6), (3, .int (l3 - l6)), (5, .int ((l5 + x82.1) - x96.1)), (0, .ref m), (1, .int p0), (2, .int p1), (6, .int l6)]) gdX7_place_107.2.2.1 rfl 7 rfl rfl (by decide) rfl ?_
      refine aw_goto (tgt := 69) gdX7_place_107.2.2.2.1 (by decide) ?_
      refine aw_locals (lv' := [(0, .ref m), (1, .int p0), (2, .int p1), (3, .int (l3 - l6)), (4, .int l6), (5, .int ((l5 + x82.1) - x96.1)), (6, .int l6), (7, .int (l7 + (-1 : Int32)))]) [4, 5, 6, 2, 1, 3, 7, 0] rfl ?_
      refine aw_world (ws' := [(m, .inr (9, [.ref Mo, .ref Lo, .ref Do, .ref tl, .ref ca, .int th_])), (Mo, .inl (4, 3, .inr (.inr (.inr (.inr mm))))), (q, .inl (0, 6144, .inl x96.2.1)), (Do, .inl (4, 2, .inr (.inr (.inr (.inr dd))))), (w, .inl (0, 21, .inl fd)), (tl, .inl (0, 6, .inl x96.2.2.1)), (ca, .inl (0, 441, .inl x96.2.2.2))]) [2, 3, 4, 0, 1, 5, 6] rfl rfl ?_
      exact ih _ _ _ _ _ _ _ _ _
def fX7_place_53 (N K : Nat) (th : Int32) (f : Nat → Int32) (fd : Nat → Int32) (t : Nat → Int32) (u : Nat → Int32) (p0 : Int32) (p1 : Int32) : Nat → Int32 → Int32 → Int32 → Int32 → Int32 → (Nat → Int32) → (Nat → Int32) → (Nat → Int32) → Option (Int32 × Int32 × (Nat → Int32) × (Nat → Int32) × (Nat → Int32))
  | 0, _, _, _, _, _, _, _, _ => none
  | fu + 1, l3, l4, l5, l6, th_, f_, t_, u_ =>
    (if l6 ≤ 0 then ((fX7_done N K th_ t_ l5).bind (fun x126 => (some (x126.1, th_, f_, x126.2, u_)))) else (if p1 < 0 ∨ 2 ≤ p1.toNatClampNeg then none else (if l6 < 0 ∨ 21 ≤ l6.toNatClampNeg then none else fX7_place_69 N K th f fd t u p0 p1 (fX7_place_53 N K th f fd t u p0 p1  fu) N l3 l4 l5 l6 (fd l6.toNatClampNeg) th_ f_ t_ u_)))
set_option maxHeartbeats 4000000 in
set_option maxRecDepth 100000 in
theorem tX7_place_53 {N K : Nat} {m Mo Lo Do tl ca q w : Nat} {mm : Nat → Option Nat} {dd : Nat → Option Nat} {th : Int32} {f : Nat → Int32} {fd : Nat → Int32} {t : Nat → Int32} {u : Nat → Int32} {p0 : Int32} {p1 : Int32} (hm : ¬ (p0 < 0 ∨ 3 ≤ p0.toNatClampNeg) → mm p0.toNatClampNeg = some q) (hd : ¬ (p1 < 0 ∨ 2 ≤ p1.toNatClampNeg) → dd p1.toNatClampNeg = some w) : ∀ (fu : Nat) (l3 : Int32) (l4 : Int32) (l5 : Int32) (l6 : Int32) (th_ : Int32) (f_ : Nat → Int32) (t_ : Nat → Int32) (u_ : Nat → Int32), AW RX7 "place" cX7_place 8 (some .int) [] (fun _ _ => True) (4) (PN (U := Int32 × Int32 × (Nat → Int32) × (Nat → Int32) × (Nat → Int32)) (fun zz _ => some (.int zz.1)) (fun zz ad => [(m, .inr (9, [.ref Mo, .ref Lo, .ref Do, .ref tl, .ref ca, .int zz.2.1])), (Mo, .inl (4, 3, .inr (.inr (.inr (.inr mm))))), (q, .inl (0, 6144, .inl zz.2.2.1)), (Do, .inl (4, 2, .inr (.inr (.inr (.inr dd))))), (w, .inl (0, 21, .inl fd)), (tl, .inl (0, 6, .inl zz.2.2.2.1)), (ca, .inl (0, 441, .inl zz.2.2.2.2))])) 0 0 (fX7_place_53 N K th f fd t u p0 p1  fu l3 l4 l5 l6 th_ f_ t_ u_) 53 [(0, .ref m), (1, .int p0), (2, .int p1), (3, .int l3), (4, .int l4), (5, .int l5), (6, .int l6)] [] [(m, .inr (9, [.ref Mo, .ref Lo, .ref Do, .ref tl, .ref ca, .int th_])), (Mo, .inl (4, 3, .inr (.inr (.inr (.inr mm))))), (q, .inl (0, 6144, .inl f_)), (Do, .inl (4, 2, .inr (.inr (.inr (.inr dd))))), (w, .inl (0, 21, .inl fd)), (tl, .inl (0, 6, .inl t_)), (ca, .inl (0, 441, .inl u_))] := by
  intro fu
  induction fu with
  | zero => intro l3 l4 l5 l6 th_ f_ t_ u_; exact aw_none
  | succ fu ih =>
    intro l3 l4 l5 l6 th_ f_ t_ u_
    refine aw_iload (q := 55) gdX7_place_42.2.2.2.2.2.2.2 rfl 6 rfl ?_
    refine aw_if_le (tgt := 123) (q := 58) gdX7_place_55.1 (by decide) rfl (fun h_55 => ?_) (fun h_55 => ?_)
    · refine aw_aload_n (q := 124) gdX7_place_107.2.2.2.2.2.2.1 rfl 0 rfl ?_
      refine aw_iload (q := 126) gdX7_place_107.2.2.2.2.2.2.2 rfl 5 rfl ?_
      refine aw_call (q := 129) (kc1 := 0) (ks1 := 0) (wc := [(m, .inr (9, [.ref Mo, .ref Lo, .ref Do, .ref tl, .ref ca, .int th_])), (tl, .inl (0, 6, .inl t_))]) (wr := [(Mo, .inl (4, 3, .inr (.inr (.inr (.inr mm))))), (q, .inl (0, 6144, .inl f_)), (Do, .inl (4, 2, .inr (.inr (.inr (.inr dd))))), (w, .inl (0, 21, .inl fd)), (ca, .inl (0, 441, .inl u_))]) (st1 := fun x126 g126 => [.int x126.1]) (ws1 := fun x126 g126 => [(Mo, .inl (4, 3, .inr (.inr (.inr (.inr mm))))), (q, .inl (0, 6144, .inl f_)), (Do, .inl (4, 2, .inr (.inr (.inr (.inr dd))))), (w, .inl (0, 21, .inl fd)), (ca, .inl (0, 441, .inl u_)), (m, .inr (9, [.ref Mo, .ref Lo, .ref Do, .ref tl, .ref ca, .int th_])), (tl, .inl (0, 6, .inl x126.2))]) (As := [.ref m, .int l5]) [0, 5] [1, 2, 3, 4, 6] (fun _ => runV (q0 := 0) gdX7_place_126.1 mi_X7_done im_X7_done se_X7_done ml_X7_117 (by omega) rfl (Nat.le_of_ble_eq_true rfl) rfl rfl rfl rfl) (fun x9 h9 => ok_X7_done h9) rfl rfl rfl rfl rfl (by decide +kernel) (by omega) (by omega) (fun _ _ => rfl) (fun _ _ => rfl) (fun x126 g126 => ?_)
      exact aw_ireturn (w := [(m, .inr (9, [.ref Mo, .ref Lo, .ref Do, .ref tl, .ref ca, .int th_])), (Mo, .inl (4, 3, .inr (.inr (.inr (.inr mm))))), (q, .inl (0, 6144, .inl f_)), (Do, .inl (4, 2, .inr (.inr (.inr (.inr dd))))), (w, .inl (0, 21, .inl fd)), (tl, .inl (0, 6, .inl x126.2)), (ca, .inl (0, 441, .inl u_))]) [5, 0, 1, 2, 3, 6, 4] gdX7_place_126.2 rfl rfl rfl rfl (PN.mk (fun _ => 0) rfl rfl)
    · refine aw_aload_n (q := 59) gdX7_place_55.2.1 rfl 0 rfl ?_
      refine aw_get (q := 62) gdX7_place_55.2.2.1 rfl fl_X7_17 0 rfl rfl ?_
      refine aw_iload_n (q := 63) gdX7_place_55.2.2.2.1 rfl 2 rfl ?_
      refine aw_aald (q := 64) gdX7_place_55.2.2.2.2.1 rfl 3 rfl (by decide) rfl hd ?_
      refine aw_iload (q := 66) gdX7_place_55.2.2.2.2.2.1 rfl 6 rfl ?_
      refine aw_iald (q := 67) gdX7_place_55.2.2.2.2.2.2.1 rfl 4 rfl ?_
      refine aw_istore (q := 69) (lv' := [(7, .int (fd l6.toNatClampNeg)), (0, .ref m), (1, .int p0), (2, .int p1), (3, .int l3), (4, .int l4), (5, .int l5), (6, .int l6)]) gdX7_place_55.2.2.2.2.2.2.2 rfl (by decide) rfl ?_
      refine aw_locals (lv' := [(0, .ref m), (1, .int p0), (2, .int p1), (3, .int l3), (4, .int l4), (5, .int l5), (6, .int l6), (7, .int (fd l6.toNatClampNeg))]) [1, 2, 3, 4, 5, 6, 7, 0] rfl ?_
      exact tX7_place_69 hm hd ih N _ _ _ _ _ _ _ _ _
def fX7_place_24 (N K : Nat) (th : Int32) (f : Nat → Int32) (fd : Nat → Int32) (t : Nat → Int32) (u : Nat → Int32) (p0 : Int32) (p1 : Int32) (s0 : Int32) (th_ : Int32) (f_ : Nat → Int32) (t_ : Nat → Int32) (u_ : Nat → Int32) : Option (Int32 × Int32 × (Nat → Int32) × (Nat → Int32) × (Nat → Int32)) :=
  ((fX7_isThrown N K th_ s0 (0 : Int32)).bind (fun x25 => (if x25.1 = 0 then (if p1 < 0 ∨ 2 ≤ p1.toNatClampNeg then none else ((fX7_number N K fd).bind (fun x39 => fX7_place_53 N K th f fd t u p0 p1  N x39 x39 (0 : Int32) (20 : Int32) x25.2 f_ t_ u_))) else (some ((0 : Int32), x25.2, f_, t_, u_)))))
set_option maxHeartbeats 4000000 in
set_option maxRecDepth 100000 in
theorem tX7_place_24 {N K : Nat} {m Mo Lo Do tl ca q w : Nat} {mm : Nat → Option Nat} {dd : Nat → Option Nat} {th : Int32} {f : Nat → Int32} {fd : Nat → Int32} {t : Nat → Int32} {u : Nat → Int32} {p0 : Int32} {p1 : Int32} (hm : ¬ (p0 < 0 ∨ 3 ≤ p0.toNatClampNeg) → mm p0.toNatClampNeg = some q) (hd : ¬ (p1 < 0 ∨ 2 ≤ p1.toNatClampNeg) → dd p1.toNatClampNeg = some w) : ∀ (s0 : Int32) (th_ : Int32) (f_ : Nat → Int32) (t_ : Nat → Int32) (u_ : Nat → Int32), AW RX7 "place" cX7_place 8 (some .int) [] (fun _ _ => True) (4) (PN (U := Int32 × Int32 × (Nat → Int32) × (Nat → Int32) × (Nat → Int32)) (fun zz _ => some (.int zz.1)) (fun zz ad => [(m, .inr (9, [.ref Mo, .ref Lo, .ref Do, .ref tl, .ref ca, .int zz.2.1])), (Mo, .inl (4, 3, .inr (.inr (.inr (.inr mm))))), (q, .inl (0, 6144, .inl zz.2.2.1)), (Do, .inl (4, 2, .inr (.inr (.inr (.inr dd))))), (w, .inl (0, 21, .inl fd)), (tl, .inl (0, 6, .inl zz.2.2.2.1)), (ca, .inl (0, 441, .inl zz.2.2.2.2))])) 0 0 (fX7_place_24 N K th f fd t u p0 p1  s0 th_ f_ t_ u_) 24 [(0, .ref m), (1, .int p0), (2, .int p1)] [.int s0, .ref m] [(m, .inr (9, [.ref Mo, .ref Lo, .ref Do, .ref tl, .ref ca, .int th_])), (Mo, .inl (4, 3, .inr (.inr (.inr (.inr mm))))), (q, .inl (0, 6144, .inl f_)), (Do, .inl (4, 2, .inr (.inr (.inr (.inr dd))))), (w, .inl (0, 21, .inl fd)), (tl, .inl (0, 6, .inl t_)), (ca, .inl (0, 441, .inl u_))] := by
  intro s0 th_ f_ t_ u_
  refine aw_iconst (q := 25) (v := 0) gdX7_place_12.2.2.2.2.2.2.1 rfl (by decide) ?_
  refine aw_call (q := 28) (kc1 := 0) (ks1 := 0) (wc := [(m, .inr (9, [.ref Mo, .ref Lo, .ref Do, .ref tl, .ref ca, .int th_]))]) (wr := [(Mo, .inl (4, 3, .inr (.inr (.inr (.inr mm))))), (q, .inl (0, 6144, .inl f_)), (Do, .inl (4, 2, .inr (.inr (.inr (.inr dd))))), (w, .inl (0, 21, .inl fd)), (tl, .inl (0, 6, .inl t_)), (ca, .inl (0, 441, .inl u_))]) (st1 := fun x25 g25 => [.int x25.1]) (ws1 := fun x25 g25 => [(Mo, .inl (4, 3, .inr (.inr (.inr (.inr mm))))), (q, .inl (0, 6144, .inl f_)), (Do, .inl (4, 2, .inr (.inr (.inr (.inr dd))))), (w, .inl (0, 21, .inl fd)), (tl, .inl (0, 6, .inl t_)), (ca, .inl (0, 441, .inl u_)), (m, .inr (9, [.ref Mo, .ref Lo, .ref Do, .ref tl, .ref ca, .int x25.2]))]) (As := [.ref m, .int s0, .int (0 : Int32)]) [0] [1, 2, 3, 4, 5, 6] (fun _ => runV (q0 := 0) gdX7_place_12.2.2.2.2.2.2.2 mi_X7_isThrown im_X7_isThrown se_X7_isThrown ml_X7_110 (by omega) rfl (Nat.le_of_ble_eq_true rfl) rfl rfl rfl rfl) (fun x9 h9 => ok_X7_isThrown h9) rfl rfl rfl rfl rfl (by decide +kernel) (by omega) (by omega) (fun _ _ => rfl) (fun _ _ => rfl) (fun x25 g25 => ?_)
  refine aw_if_eq (tgt := 33) (q := 31) gdX7_place_28.1 (by decide) rfl (fun h_28 => ?_) (fun h_28 => ?_)
  · refine aw_aload_n (q := 34) gdX7_place_28.2.2.2.1 rfl 0 rfl ?_
    refine aw_get (q := 37) gdX7_place_28.2.2.2.2.1 rfl fl_X7_17 6 rfl rfl ?_
    refine aw_iload_n (q := 38) gdX7_place_28.2.2.2.2.2.1 rfl 2 rfl ?_
    refine aw_aald (q := 39) gdX7_place_28.2.2.2.2.2.2.1 rfl 2 rfl (by decide) rfl hd ?_
    refine aw_call (q := 42) (kc1 := 0) (ks1 := 0) (wc := [(w, .inl (0, 21, .inl fd))]) (wr := [(Mo, .inl (4, 3, .inr (.inr (.inr (.inr mm))))), (q, .inl (0, 6144, .inl f_)), (Do, .inl (4, 2, .inr (.inr (.inr (.inr dd))))), (tl, .inl (0, 6, .inl t_)), (ca, .inl (0, 441, .inl u_)), (m, .inr (9, [.ref Mo, .ref Lo, .ref Do, .ref tl, .ref ca, .int x25.2]))]) (st1 := fun x39 g39 => [.int x39]) (ws1 := fun x39 g39 => [(Mo, .inl (4, 3, .inr (.inr (.inr (.inr mm))))), (q, .inl (0, 6144, .inl f_)), (Do, .inl (4, 2, .inr (.inr (.inr (.inr dd))))), (tl, .inl (0, 6, .inl t_)), (ca, .inl (0, 441, .inl u_)), (m, .inr (9, [.ref Mo, .ref Lo, .ref Do, .ref tl, .ref ca, .int x25.2])), (w, .inl (0, 21, .inl fd))]) (As := [.ref w]) [3] [0, 1, 2, 4, 5, 6] (fun _ => runS gdX7_place_28.2.2.2.2.2.2.2 mi_X7_number st_X7_number ml_X7_121 (by omega) rfl (Nat.le_of_ble_eq_true rfl) rfl) (fun x9 h9 => ok_X7_number h9) rfl rfl rfl rfl rfl (by decide +kernel) (by omega) (by omega) (fun _ _ => rfl) (fun _ _ => rfl) (fun x39 g39 => ?_)
    refine aw_istore_n (q := 43) (lv' := [(3, .int x39), (0, .ref m), (1, .int p0), (2, .int p1)]) gdX7_place_42.1 rfl (by decide) rfl ?_
    refine aw_iload_n (q := 44) gdX7_place_42.2.1 rfl 0 rfl ?_
    refine aw_istore (q := 46) (lv' := [(4, .int x39), (3, .int x39), (0, .ref m), (1, .int p0), (2, .int p1)]) gdX7_place_42.2.2.1 rfl (by decide) rfl ?_
    refine aw_iconst (q := 47) (v := 0) gdX7_place_42.2.2.2.1 rfl (by decide) ?_
    refine aw_istore (q := 49) (lv' := [(5, .int (0 : Int32)), (4, .int x39), (3, .int x39), (0, .ref m), (1, .int p0), (2, .int p1)]) gdX7_place_42.2.2.2.2.1 rfl (by decide) rfl ?_
    refine aw_bipush (q := 51) (v := 20) gdX7_place_42.2.2.2.2.2.1 rfl (by decide) ?_
    refine aw_istore (q := 53) (lv' := [(6, .int (20 : Int32)), (5, .int (0 : Int32)), (4, .int x39), (3, .int x39), (0, .ref m), (1, .int p0), (2, .int p1)]) gdX7_place_42.2.2.2.2.2.2.1 rfl (by decide) rfl ?_
    refine aw_locals (lv' := [(0, .ref m), (1, .int p0), (2, .int p1), (3, .int x39), (4, .int x39), (5, .int (0 : Int32)), (6, .int (20 : Int32))]) [4, 5, 6, 3, 2, 1, 0] rfl ?_
    refine aw_world (ws' := [(m, .inr (9, [.ref Mo, .ref Lo, .ref Do, .ref tl, .ref ca, .int x25.2])), (Mo, .inl (4, 3, .inr (.inr (.inr (.inr mm))))), (q, .inl (0, 6144, .inl f_)), (Do, .inl (4, 2, .inr (.inr (.inr (.inr dd))))), (w, .inl (0, 21, .inl fd)), (tl, .inl (0, 6, .inl t_)), (ca, .inl (0, 441, .inl u_))]) [5, 0, 1, 2, 6, 3, 4] rfl rfl ?_
    exact tX7_place_53 hm hd N _ _ _ _ _ _ _ _
  · refine aw_iconst (q := 32) (v := 0) gdX7_place_28.2.1 rfl (by decide) ?_
    exact aw_ireturn (w := [(m, .inr (9, [.ref Mo, .ref Lo, .ref Do, .ref tl, .ref ca, .int x25.2])), (Mo, .inl (4, 3, .inr (.inr (.inr (.inr mm))))), (q, .inl (0, 6144, .inl f_)), (Do, .inl (4, 2, .inr (.inr (.inr (.inr dd))))), (w, .inl (0, 21, .inl fd)), (tl, .inl (0, 6, .inl t_)), (ca, .inl (0, 441, .inl u_))]) [6, 0, 1, 2, 3, 4, 5] gdX7_place_28.2.2.1 rfl rfl rfl rfl (PN.mk (fun _ => 0) rfl rfl)
def fX7_place_19 (N K : Nat) (th : Int32) (f : Nat → Int32) (fd : Nat → Int32) (t : Nat → Int32) (u : Nat → Int32) (p0 : Int32) (p1 : Int32) (th_ : Int32) (f_ : Nat → Int32) (t_ : Nat → Int32) (u_ : Nat → Int32) : Option (Int32 × Int32 × (Nat → Int32) × (Nat → Int32) × (Nat → Int32)) :=
  fX7_place_24 N K th f fd t u p0 p1  (1 : Int32) th_ f_ t_ u_
set_option maxHeartbeats 4000000 in
set_option maxRecDepth 100000 in
theorem tX7_place_19 {N K : Nat} {m Mo Lo Do tl ca q w : Nat} {mm : Nat → Option Nat} {dd : Nat → Option Nat} {th : Int32} {f : Nat → Int32} {fd : Nat → Int32} {t : Nat → Int32} {u : Nat → Int32} {p0 : Int32} {p1 : Int32} (hm : ¬ (p0 < 0 ∨ 3 ≤ p0.toNatClampNeg) → mm p0.toNatClampNeg = some q) (hd : ¬ (p1 < 0 ∨ 2 ≤ p1.toNatClampNeg) → dd p1.toNatClampNeg = some w) : ∀ (th_ : Int32) (f_ : Nat → Int32) (t_ : Nat → Int32) (u_ : Nat → Int32), AW RX7 "place" cX7_place 8 (some .int) [] (fun _ _ => True) (4) (PN (U := Int32 × Int32 × (Nat → Int32) × (Nat → Int32) × (Nat → Int32)) (fun zz _ => some (.int zz.1)) (fun zz ad => [(m, .inr (9, [.ref Mo, .ref Lo, .ref Do, .ref tl, .ref ca, .int zz.2.1])), (Mo, .inl (4, 3, .inr (.inr (.inr (.inr mm))))), (q, .inl (0, 6144, .inl zz.2.2.1)), (Do, .inl (4, 2, .inr (.inr (.inr (.inr dd))))), (w, .inl (0, 21, .inl fd)), (tl, .inl (0, 6, .inl zz.2.2.2.1)), (ca, .inl (0, 441, .inl zz.2.2.2.2))])) 0 0 (fX7_place_19 N K th f fd t u p0 p1  th_ f_ t_ u_) 19 [(0, .ref m), (1, .int p0), (2, .int p1)] [.ref m] [(m, .inr (9, [.ref Mo, .ref Lo, .ref Do, .ref tl, .ref ca, .int th_])), (Mo, .inl (4, 3, .inr (.inr (.inr (.inr mm))))), (q, .inl (0, 6144, .inl f_)), (Do, .inl (4, 2, .inr (.inr (.inr (.inr dd))))), (w, .inl (0, 21, .inl fd)), (tl, .inl (0, 6, .inl t_)), (ca, .inl (0, 441, .inl u_))] := by
  intro th_ f_ t_ u_
  refine aw_iconst (q := 20) (v := 1) gdX7_place_12.2.2.2.1 rfl (by decide) ?_
  refine aw_goto (tgt := 24) gdX7_place_12.2.2.2.2.1 (by decide) ?_
  exact tX7_place_24 hm hd _ _ _ _ _
def fX7_place (N K : Nat) (th : Int32) (f : Nat → Int32) (fd : Nat → Int32) (t : Nat → Int32) (u : Nat → Int32) (p0 : Int32) (p1 : Int32) : Option (Int32 × Int32 × (Nat → Int32) × (Nat → Int32) × (Nat → Int32)) :=
  ((fX7_isNo N K p0 (0 : Int32) (2 : Int32)).bind (fun x4 => (if x4 = 0 then ((fX7_isNo N K p1 (0 : Int32) (1 : Int32)).bind (fun x13 => (if x13 = 0 then fX7_place_24 N K th f fd t u p0 p1  (0 : Int32) th f t u else fX7_place_19 N K th f fd t u p0 p1  th f t u))) else fX7_place_19 N K th f fd t u p0 p1  th f t u)))
set_option maxHeartbeats 4000000 in
set_option maxRecDepth 100000 in
theorem ok_X7_place {N K : Nat} {m Mo Lo Do tl ca q w : Nat} {mm : Nat → Option Nat} {dd : Nat → Option Nat} {th : Int32} {f : Nat → Int32} {fd : Nat → Int32} {t : Nat → Int32} {u : Nat → Int32} {p0 : Int32} {p1 : Int32} (hm : ¬ (p0 < 0 ∨ 3 ≤ p0.toNatClampNeg) → mm p0.toNatClampNeg = some q) (hd : ¬ (p1 < 0 ∨ 2 ≤ p1.toNatClampNeg) → dd p1.toNatClampNeg = some w) {xr : Int32 × Int32 × (Nat → Int32) × (Nat → Int32) × (Nat → Int32)} (hE : fX7_place N K th f fd t u p0 p1 = some xr) : OkM yX7_place (.code yX7_place cX7_place 8 (some .int)) (4) 0 0 [.ref m, .int p0, .int p1] [(m, .inr (9, [.ref Mo, .ref Lo, .ref Do, .ref tl, .ref ca, .int th])), (Mo, .inl (4, 3, .inr (.inr (.inr (.inr mm))))), (q, .inl (0, 6144, .inl f)), (Do, .inl (4, 2, .inr (.inr (.inr (.inr dd))))), (w, .inl (0, 21, .inl fd)), (tl, .inl (0, 6, .inl t)), (ca, .inl (0, 441, .inl u))] ((PN (U := Int32 × Int32 × (Nat → Int32) × (Nat → Int32) × (Nat → Int32)) (fun zz _ => some (.int zz.1)) (fun zz ad => [(m, .inr (9, [.ref Mo, .ref Lo, .ref Do, .ref tl, .ref ca, .int zz.2.1])), (Mo, .inl (4, 3, .inr (.inr (.inr (.inr mm))))), (q, .inl (0, 6144, .inl zz.2.2.1)), (Do, .inl (4, 2, .inr (.inr (.inr (.inr dd))))), (w, .inl (0, 21, .inl fd)), (tl, .inl (0, 6, .inl zz.2.2.2.1)), (ca, .inl (0, 441, .inl zz.2.2.2.2))])) xr) := by
  refine ok_of (by decide) (Nat.le_of_ble_eq_true rfl) hE ?_
  refine aw_locals (lv' := [(0, .ref m), (1, .int p0), (2, .int p1)]) [0, 1, 2] rfl ?_
  refine aw_aload_n (q := 1) gdX7_place_0.1 rfl 0 rfl ?_
  refine aw_iload_n (q := 2) gdX7_place_0.2.1 rfl 1 rfl ?_
  refine aw_iconst (q := 3) (v := 0) gdX7_place_0.2.2.1 rfl (by decide) ?_
  refine aw_iconst (q := 4) (v := 2) gdX7_place_0.2.2.2.1 rfl (by decide) ?_
  refine aw_call (q := 7) (kc1 := 0) (ks1 := 0) (wc := []) (wr := [(m, .inr (9, [.ref Mo, .ref Lo, .ref Do, .ref tl, .ref ca, .int th])), (Mo, .inl (4, 3, .inr (.inr (.inr (.inr mm))))), (q, .inl (0, 6144, .inl f)), (Do, .inl (4, 2, .inr (.inr (.inr (.inr dd))))), (w, .inl (0, 21, .inl fd)), (tl, .inl (0, 6, .inl t)), (ca, .inl (0, 441, .inl u))]) (st1 := fun x4 g4 => [.int x4, .ref m]) (ws1 := fun x4 g4 => [(m, .inr (9, [.ref Mo, .ref Lo, .ref Do, .ref tl, .ref ca, .int th])), (Mo, .inl (4, 3, .inr (.inr (.inr (.inr mm))))), (q, .inl (0, 6144, .inl f)), (Do, .inl (4, 2, .inr (.inr (.inr (.inr dd))))), (w, .inl (0, 21, .inl fd)), (tl, .inl (0, 6, .inl t)), (ca, .inl (0, 441, .inl u))]) (As := [.int p0, .int (0 : Int32), .int (2 : Int32)]) [] [0, 1, 2, 3, 4, 5, 6] (fun _ => runS gdX7_place_0.2.2.2.2.1 mi_X7_isNo st_X7_isNo ml_X7_31 (by omega) rfl (Nat.le_of_ble_eq_true rfl) rfl) (fun x9 h9 => ok_X7_isNo h9) rfl rfl rfl rfl rfl (by decide +kernel) (by omega) (by omega) (fun _ _ => rfl) (fun _ _ => rfl) (fun x4 g4 => ?_)
  refine aw_if_ne (tgt := 19) (q := 10) gdX7_place_0.2.2.2.2.2.1 (by decide) rfl (fun h_7 => ?_) (fun h_7 => ?_)
  · exact tX7_place_19 hm hd _ _ _ _
  · refine aw_iload_n (q := 11) gdX7_place_0.2.2.2.2.2.2.1 rfl 2 rfl ?_
    refine aw_iconst (q := 12) (v := 0) gdX7_place_0.2.2.2.2.2.2.2 rfl (by decide) ?_
    refine aw_iconst (q := 13) (v := 1) gdX7_place_12.1 rfl (by decide) ?_
    refine aw_call (q := 16) (kc1 := 0) (ks1 := 0) (wc := []) (wr := [(m, .inr (9, [.ref Mo, .ref Lo, .ref Do, .ref tl, .ref ca, .int th])), (Mo, .inl (4, 3, .inr (.inr (.inr (.inr mm))))), (q, .inl (0, 6144, .inl f)), (Do, .inl (4, 2, .inr (.inr (.inr (.inr dd))))), (w, .inl (0, 21, .inl fd)), (tl, .inl (0, 6, .inl t)), (ca, .inl (0, 441, .inl u))]) (st1 := fun x13 g13 => [.int x13, .ref m]) (ws1 := fun x13 g13 => [(m, .inr (9, [.ref Mo, .ref Lo, .ref Do, .ref tl, .ref ca, .int th])), (Mo, .inl (4, 3, .inr (.inr (.inr (.inr mm))))), (q, .inl (0, 6144, .inl f)), (Do, .inl (4, 2, .inr (.inr (.inr (.inr dd))))), (w, .inl (0, 21, .inl fd)), (tl, .inl (0, 6, .inl t)), (ca, .inl (0, 441, .inl u))]) (As := [.int p1, .int (0 : Int32), .int (1 : Int32)]) [] [0, 1, 2, 3, 4, 5, 6] (fun _ => runS gdX7_place_12.2.1 mi_X7_isNo st_X7_isNo ml_X7_31 (by omega) rfl (Nat.le_of_ble_eq_true rfl) rfl) (fun x9 h9 => ok_X7_isNo h9) rfl rfl rfl rfl rfl (by decide +kernel) (by omega) (by omega) (fun _ _ => rfl) (fun _ _ => rfl) (fun x13 g13 => ?_)
    refine aw_if_eq (tgt := 23) (q := 19) gdX7_place_12.2.2.1 (by decide) rfl (fun h_16 => ?_) (fun h_16 => ?_)
    · refine aw_iconst (q := 24) (v := 0) gdX7_place_12.2.2.2.2.2.1 rfl (by decide) ?_
      exact tX7_place_24 hm hd _ _ _ _ _
    · exact tX7_place_19 hm hd _ _ _ _
def fX7_learn_81 (N K : Nat) (th : Int32) (f : Nat → Int32) (t : Nat → Int32) (p0 : Int32) (p1 : Int32) (p2 : Int32) (p3 : Int32) (l5 : Int32) (th_ : Int32) (f_ : Nat → Int32) (t_ : Nat → Int32) : Option (Int32 × Int32 × (Nat → Int32) × (Nat → Int32)) :=
  ((fX7_bit N K l5).bind (fun x84 => ((fX7_done N K th_ t_ x84).bind (fun x87 => (some (x87.1, th_, f_, x87.2))))))
set_option maxHeartbeats 4000000 in
set_option maxRecDepth 100000 in
theorem tX7_learn_81 {N K : Nat} {m Mo Lo Do tl ca q : Nat} {mm : Nat → Option Nat} {th : Int32} {f : Nat → Int32} {t : Nat → Int32} {p0 : Int32} {p1 : Int32} {p2 : Int32} {p3 : Int32} (hm : ¬ (p0 < 0 ∨ 3 ≤ p0.toNatClampNeg) → mm p0.toNatClampNeg = some q) : ∀ (l5 : Int32) (th_ : Int32) (f_ : Nat → Int32) (t_ : Nat → Int32), AW RX7 "learn" cX7_learn 6 (some .int) [] (fun _ _ => True) (2) (PN (U := Int32 × Int32 × (Nat → Int32) × (Nat → Int32)) (fun zz _ => some (.int zz.1)) (fun zz ad => [(m, .inr (9, [.ref Mo, .ref Lo, .ref Do, .ref tl, .ref ca, .int zz.2.1])), (Mo, .inl (4, 3, .inr (.inr (.inr (.inr mm))))), (q, .inl (0, 6144, .inl zz.2.2.1)), (tl, .inl (0, 6, .inl zz.2.2.2))])) 0 0 (fX7_learn_81 N K th f t p0 p1 p2 p3  l5 th_ f_ t_) 81 [(0, .ref m), (5, .int l5)] [] [(m, .inr (9, [.ref Mo, .ref Lo, .ref Do, .ref tl, .ref ca, .int th_])), (Mo, .inl (4, 3, .inr (.inr (.inr (.inr mm))))), (q, .inl (0, 6144, .inl f_)), (tl, .inl (0, 6, .inl t_))] := by
  intro l5 th_ f_ t_
  refine aw_aload_n (q := 82) gdX7_learn_70.2.2.2.2.2.2.1 rfl 0 rfl ?_
  refine aw_iload (q := 84) gdX7_learn_70.2.2.2.2.2.2.2 rfl 1 rfl ?_
  refine aw_call (q := 87) (kc1 := 0) (ks1 := 0) (wc := []) (wr := [(m, .inr (9, [.ref Mo, .ref Lo, .ref Do, .ref tl, .ref ca, .int th_])), (Mo, .inl (4, 3, .inr (.inr (.inr (.inr mm))))), (q, .inl (0, 6144, .inl f_)), (tl, .inl (0, 6, .inl t_))]) (st1 := fun x84 g84 => [.int x84, .ref m]) (ws1 := fun x84 g84 => [(m, .inr (9, [.ref Mo, .ref Lo, .ref Do, .ref tl, .ref ca, .int th_])), (Mo, .inl (4, 3, .inr (.inr (.inr (.inr mm))))), (q, .inl (0, 6144, .inl f_)), (tl, .inl (0, 6, .inl t_))]) (As := [.int l5]) [] [0, 1, 2, 3] (fun _ => runS gdX7_learn_84.1 mi_X7_bit st_X7_bit ml_X7_43 (by omega) rfl (Nat.le_of_ble_eq_true rfl) rfl) (fun x9 h9 => ok_X7_bit h9) rfl rfl rfl rfl rfl (by decide +kernel) (by omega) (by omega) (fun _ _ => rfl) (fun _ _ => rfl) (fun x84 g84 => ?_)
  refine aw_call (q := 90) (kc1 := 0) (ks1 := 0) (wc := [(m, .inr (9, [.ref Mo, .ref Lo, .ref Do, .ref tl, .ref ca, .int th_])), (tl, .inl (0, 6, .inl t_))]) (wr := [(Mo, .inl (4, 3, .inr (.inr (.inr (.inr mm))))), (q, .inl (0, 6144, .inl f_))]) (st1 := fun x87 g87 => [.int x87.1]) (ws1 := fun x87 g87 => [(Mo, .inl (4, 3, .inr (.inr (.inr (.inr mm))))), (q, .inl (0, 6144, .inl f_)), (m, .inr (9, [.ref Mo, .ref Lo, .ref Do, .ref tl, .ref ca, .int th_])), (tl, .inl (0, 6, .inl x87.2))]) (As := [.ref m, .int x84]) [0, 3] [1, 2] (fun _ => runV (q0 := 0) gdX7_learn_84.2.1 mi_X7_done im_X7_done se_X7_done ml_X7_117 (by omega) rfl (Nat.le_of_ble_eq_true rfl) rfl rfl rfl rfl) (fun x9 h9 => ok_X7_done h9) rfl rfl rfl rfl rfl (by decide +kernel) (by omega) (by omega) (fun _ _ => rfl) (fun _ _ => rfl) (fun x87 g87 => ?_)
  exact aw_ireturn (w := [(m, .inr (9, [.ref Mo, .ref Lo, .ref Do, .ref tl, .ref ca, .int th_])), (Mo, .inl (4, 3, .inr (.inr (.inr (.inr mm))))), (q, .inl (0, 6144, .inl f_)), (tl, .inl (0, 6, .inl x87.2))]) [2, 0, 1, 3] gdX7_learn_84.2.2 rfl rfl rfl rfl (PN.mk (fun _ => 0) rfl rfl)
def fX7_learn_53 (N K : Nat) (th : Int32) (f : Nat → Int32) (t : Nat → Int32) (p0 : Int32) (p1 : Int32) (p2 : Int32) (p3 : Int32) (s0 : Int32) (th_ : Int32) (f_ : Nat → Int32) (t_ : Nat → Int32) : Option (Int32 × Int32 × (Nat → Int32) × (Nat → Int32)) :=
  (if s0 = 0 then fX7_learn_81 N K th f t p0 p1 p2 p3  s0 th_ f_ t_ else (if p0 < 0 ∨ 3 ≤ p0.toNatClampNeg then none else ((fX7_code N K p1 p2 p3).bind (fun x70 => ((fX7_series N K p1 p2 p3).bind (fun x77 => (if x70 < 0 ∨ 6144 ≤ x70.toNatClampNeg then none else fX7_learn_81 N K th f t p0 p1 p2 p3  s0 th_ (upd f_ x70.toNatClampNeg x77) t_)))))))
set_option maxHeartbeats 4000000 in
set_option maxRecDepth 100000 in
theorem tX7_learn_53 {N K : Nat} {m Mo Lo Do tl ca q : Nat} {mm : Nat → Option Nat} {th : Int32} {f : Nat → Int32} {t : Nat → Int32} {p0 : Int32} {p1 : Int32} {p2 : Int32} {p3 : Int32} (hm : ¬ (p0 < 0 ∨ 3 ≤ p0.toNatClampNeg) → mm p0.toNatClampNeg = some q) : ∀ (s0 : Int32) (th_ : Int32) (f_ : Nat → Int32) (t_ : Nat → Int32), AW RX7 "learn" cX7_learn 6 (some .int) [] (fun _ _ => True) (2) (PN (U := Int32 × Int32 × (Nat → Int32) × (Nat → Int32)) (fun zz _ => some (.int zz.1)) (fun zz ad => [(m, .inr (9, [.ref Mo, .ref Lo, .ref Do, .ref tl, .ref ca, .int zz.2.1])), (Mo, .inl (4, 3, .inr (.inr (.inr (.inr mm))))), (q, .inl (0, 6144, .inl zz.2.2.1)), (tl, .inl (0, 6, .inl zz.2.2.2))])) 1 21 (fX7_learn_53 N K th f t p0 p1 p2 p3  s0 th_ f_ t_) 53 [(0, .ref m), (1, .int p0), (2, .int p1), (3, .int p2), (4, .int p3)] [.int s0] [(m, .inr (9, [.ref Mo, .ref Lo, .ref Do, .ref tl, .ref ca, .int th_])), (Mo, .inl (4, 3, .inr (.inr (.inr (.inr mm))))), (q, .inl (0, 6144, .inl f_)), (tl, .inl (0, 6, .inl t_))] := by
  intro s0 th_ f_ t_
  refine aw_istore (q := 55) (lv' := [(5, .int s0), (0, .ref m), (1, .int p0), (2, .int p1), (3, .int p2), (4, .int p3)]) gdX7_learn_40.2.2.2.2.2.2.1 rfl (by decide) rfl ?_
  refine aw_iload (q := 57) gdX7_learn_40.2.2.2.2.2.2.2 rfl 0 rfl ?_
  refine aw_if_eq (tgt := 81) (q := 60) gdX7_learn_57.1 (by decide) rfl (fun h_57 => ?_) (fun h_57 => ?_)
  · refine aw_locals (lv' := [(0, .ref m), (5, .int s0)]) [1, 0] rfl ?_
    refine aw_room (kc' := 0) (ks' := 0) (by omega) (by omega) ?_
    exact tX7_learn_81 hm _ _ _ _
  · refine aw_aload_n (q := 61) gdX7_learn_57.2.1 rfl 1 rfl ?_
    refine aw_get (q := 64) gdX7_learn_57.2.2.1 rfl fl_X7_11 0 rfl rfl ?_
    refine aw_iload_n (q := 65) gdX7_learn_57.2.2.2.1 rfl 2 rfl ?_
    refine aw_aald (q := 66) gdX7_learn_57.2.2.2.2.1 rfl 1 rfl (by decide) rfl hm ?_
    refine aw_iload_n (q := 67) gdX7_learn_57.2.2.2.2.2.1 rfl 3 rfl ?_
    refine aw_iload_n (q := 68) gdX7_learn_57.2.2.2.2.2.2.1 rfl 4 rfl ?_
    refine aw_iload (q := 70) gdX7_learn_57.2.2.2.2.2.2.2 rfl 5 rfl ?_
    refine aw_call (q := 73) (kc1 := 1) (ks1 := 21) (wc := []) (wr := [(m, .inr (9, [.ref Mo, .ref Lo, .ref Do, .ref tl, .ref ca, .int th_])), (Mo, .inl (4, 3, .inr (.inr (.inr (.inr mm))))), (q, .inl (0, 6144, .inl f_)), (tl, .inl (0, 6, .inl t_))]) (st1 := fun x70 g70 => [.int x70, .ref q]) (ws1 := fun x70 g70 => [(m, .inr (9, [.ref Mo, .ref Lo, .ref Do, .ref tl, .ref ca, .int th_])), (Mo, .inl (4, 3, .inr (.inr (.inr (.inr mm))))), (q, .inl (0, 6144, .inl f_)), (tl, .inl (0, 6, .inl t_))]) (As := [.int p1, .int p2, .int p3]) [] [0, 1, 2, 3] (fun _ => runS gdX7_learn_70.1 mi_X7_code st_X7_code ml_X7_39 (by omega) rfl (Nat.le_of_ble_eq_true rfl) rfl) (fun x9 h9 => ok_X7_code h9) rfl rfl rfl rfl rfl (by decide +kernel) (by omega) (by omega) (fun _ _ => rfl) (fun _ _ => rfl) (fun x70 g70 => ?_)
    refine aw_iload_n (q := 74) gdX7_learn_70.2.1 rfl 3 rfl ?_
    refine aw_iload_n (q := 75) gdX7_learn_70.2.2.1 rfl 4 rfl ?_
    refine aw_iload (q := 77) gdX7_learn_70.2.2.2.1 rfl 5 rfl ?_
    refine aw_call (q := 80) (kc1 := 0) (ks1 := 0) (wc := []) (wr := [(m, .inr (9, [.ref Mo, .ref Lo, .ref Do, .ref tl, .ref ca, .int th_])), (Mo, .inl (4, 3, .inr (.inr (.inr (.inr mm))))), (q, .inl (0, 6144, .inl f_)), (tl, .inl (0, 6, .inl t_))]) (st1 := fun x77 g77 => [.int x77, .int x70, .ref q]) (ws1 := fun x77 g77 => [(m, .inr (9, [.ref Mo, .ref Lo, .ref Do, .ref tl, .ref ca, .int th_])), (Mo, .inl (4, 3, .inr (.inr (.inr (.inr mm))))), (q, .inl (0, 6144, .inl f_)), (tl, .inl (0, 6, .inl t_))]) (As := [.int p1, .int p2, .int p3]) [] [0, 1, 2, 3] (fun _ => runS gdX7_learn_70.2.2.2.2.1 mi_X7_series st_X7_series ml_X7_128 (by omega) rfl (Nat.le_of_ble_eq_true rfl) rfl) (fun x9 h9 => ok_X7_series h9) rfl rfl rfl rfl rfl (by decide +kernel) (by omega) (by omega) (fun _ _ => rfl) (fun _ _ => rfl) (fun x77 g77 => ?_)
    refine aw_iast (q := 81) (ws' := [(m, .inr (9, [.ref Mo, .ref Lo, .ref Do, .ref tl, .ref ca, .int th_])), (Mo, .inl (4, 3, .inr (.inr (.inr (.inr mm))))), (q, .inl (0, 6144, .inl (upd f_ x70.toNatClampNeg x77))), (tl, .inl (0, 6, .inl t_))]) gdX7_learn_70.2.2.2.2.2.1 rfl 2 rfl rfl ?_
    refine aw_locals (lv' := [(0, .ref m), (5, .int s0)]) [1, 0] rfl ?_
    exact tX7_learn_81 hm _ _ _ _
def fX7_learn (N K : Nat) (th : Int32) (f : Nat → Int32) (t : Nat → Int32) (p0 : Int32) (p1 : Int32) (p2 : Int32) (p3 : Int32) : Option (Int32 × Int32 × (Nat → Int32) × (Nat → Int32)) :=
  ((fX7_isNo N K p0 (0 : Int32) (2 : Int32)).bind (fun x4 => ((fX7_isOut N K p1 p2 p3).bind (fun x11 => ((fX7_isThrown N K th x4 x11).bind (fun x14 => (if x14.1 = 0 then ((fX7_rests N K p2 p3).bind (fun x25 => (if x25 = 0 then ((fX7_worth N K x14.2 f p0 p1 p2 p3).bind (fun x42 => (if 0 ≤ x42 then fX7_learn_53 N K th f t p0 p1 p2 p3  (0 : Int32) x14.2 f t else fX7_learn_53 N K th f t p0 p1 p2 p3  (1 : Int32) x14.2 f t))) else ((fX7_refused N K x14.2 t).bind (fun x32 => (some (x32.1, x14.2, f, x32.2))))))) else (some ((0 : Int32), x14.2, f, t)))))))))
set_option maxHeartbeats 4000000 in
set_option maxRecDepth 100000 in
theorem ok_X7_learn {N K : Nat} {m Mo Lo Do tl ca q : Nat} {mm : Nat → Option Nat} {th : Int32} {f : Nat → Int32} {t : Nat → Int32} {p0 : Int32} {p1 : Int32} {p2 : Int32} {p3 : Int32} (hm : ¬ (p0 < 0 ∨ 3 ≤ p0.toNatClampNeg) → mm p0.toNatClampNeg = some q) {xr : Int32 × Int32 × (Nat → Int32) × (Nat → Int32)} (hE : fX7_learn N K th f t p0 p1 p2 p3 = some xr) : OkM yX7_learn (.code yX7_learn cX7_learn 6 (some .int)) (2) 1 21 [.ref m, .int p0, .int p1, .int p2, .int p3] [(m, .inr (9, [.ref Mo, .ref Lo, .ref Do, .ref tl, .ref ca, .int th])), (Mo, .inl (4, 3, .inr (.inr (.inr (.inr mm))))), (q, .inl (0, 6144, .inl f)), (tl, .inl (0, 6, .inl t))] ((PN (U := Int32 × Int32 × (Nat → Int32) × (Nat → Int32)) (fun zz _ => some (.int zz.1)) (fun zz ad => [(m, .inr (9, [.ref Mo, .ref Lo, .ref Do, .ref tl, .ref ca, .int zz.2.1])), (Mo, .inl (4, 3, .inr (.inr (.inr (.inr mm))))), (q, .inl (0, 6144, .inl zz.2.2.1)), (tl, .inl (0, 6, .inl zz.2.2.2))])) xr) := by
  refine ok_of (by decide) (Nat.le_of_ble_eq_true rfl) hE ?_
  refine aw_locals (lv' := [(0, .ref m), (1, .int p0), (2, .int p1), (3, .int p2), (4, .int p3)]) [0, 1, 2, 3, 4] rfl ?_
  refine aw_aload_n (q := 1) gdX7_learn_0.1 rfl 0 rfl ?_
  refine aw_iload_n (q := 2) gdX7_learn_0.2.1 rfl 1 rfl ?_
  refine aw_iconst (q := 3) (v := 0) gdX7_learn_0.2.2.1 rfl (by decide) ?_
  refine aw_iconst (q := 4) (v := 2) gdX7_learn_0.2.2.2.1 rfl (by decide) ?_
  refine aw_call (q := 7) (kc1 := 1) (ks1 := 21) (wc := []) (wr := [(m, .inr (9, [.ref Mo, .ref Lo, .ref Do, .ref tl, .ref ca, .int th])), (Mo, .inl (4, 3, .inr (.inr (.inr (.inr mm))))), (q, .inl (0, 6144, .inl f)), (tl, .inl (0, 6, .inl t))]) (st1 := fun x4 g4 => [.int x4, .ref m]) (ws1 := fun x4 g4 => [(m, .inr (9, [.ref Mo, .ref Lo, .ref Do, .ref tl, .ref ca, .int th])), (Mo, .inl (4, 3, .inr (.inr (.inr (.inr mm))))), (q, .inl (0, 6144, .inl f)), (tl, .inl (0, 6, .inl t))]) (As := [.int p0, .int (0 : Int32), .int (2 : Int32)]) [] [0, 1, 2, 3] (fun _ => runS gdX7_learn_0.2.2.2.2.1 mi_X7_isNo st_X7_isNo ml_X7_31 (by omega) rfl (Nat.le_of_ble_eq_true rfl) rfl) (fun x9 h9 => ok_X7_isNo h9) rfl rfl rfl rfl rfl (by decide +kernel) (by omega) (by omega) (fun _ _ => rfl) (fun _ _ => rfl) (fun x4 g4 => ?_)
  refine aw_iload_n (q := 8) gdX7_learn_0.2.2.2.2.2.1 rfl 2 rfl ?_
  refine aw_iload_n (q := 9) gdX7_learn_0.2.2.2.2.2.2.1 rfl 3 rfl ?_
  refine aw_iload (q := 11) gdX7_learn_0.2.2.2.2.2.2.2 rfl 4 rfl ?_
  refine aw_call (q := 14) (kc1 := 1) (ks1 := 21) (wc := []) (wr := [(m, .inr (9, [.ref Mo, .ref Lo, .ref Do, .ref tl, .ref ca, .int th])), (Mo, .inl (4, 3, .inr (.inr (.inr (.inr mm))))), (q, .inl (0, 6144, .inl f)), (tl, .inl (0, 6, .inl t))]) (st1 := fun x11 g11 => [.int x11, .int x4, .ref m]) (ws1 := fun x11 g11 => [(m, .inr (9, [.ref Mo, .ref Lo, .ref Do, .ref tl, .ref ca, .int th])), (Mo, .inl (4, 3, .inr (.inr (.inr (.inr mm))))), (q, .inl (0, 6144, .inl f)), (tl, .inl (0, 6, .inl t))]) (As := [.int p1, .int p2, .int p3]) [] [0, 1, 2, 3] (fun _ => runS gdX7_learn_11.1 mi_X7_isOut st_X7_isOut ml_X7_107 (by omega) rfl (Nat.le_of_ble_eq_true rfl) rfl) (fun x9 h9 => ok_X7_isOut h9) rfl rfl rfl rfl rfl (by decide +kernel) (by omega) (by omega) (fun _ _ => rfl) (fun _ _ => rfl) (fun x11 g11 => ?_)
  refine aw_call (q := 17) (kc1 := 1) (ks1 := 21) (wc := [(m, .inr (9, [.ref Mo, .ref Lo, .ref Do, .ref tl, .ref ca, .int th]))]) (wr := [(Mo, .inl (4, 3, .inr (.inr (.inr (.inr mm))))), (q, .inl (0, 6144, .inl f)), (tl, .inl (0, 6, .inl t))]) (st1 := fun x14 g14 => [.int x14.1]) (ws1 := fun x14 g14 => [(Mo, .inl (4, 3, .inr (.inr (.inr (.inr mm))))), (q, .inl (0, 6144, .inl f)), (tl, .inl (0, 6, .inl t)), (m, .inr (9, [.ref Mo, .ref Lo, .ref Do, .ref tl, .ref ca, .int x14.2]))]) (As := [.ref m, .int x4, .int x11]) [0] [1, 2, 3] (fun _ => runV (q0 := 0) gdX7_learn_11.2.1 mi_X7_isThrown im_X7_isThrown se_X7_isThrown ml_X7_110 (by omega) rfl (Nat.le_of_ble_eq_true rfl) rfl rfl rfl rfl) (fun x9 h9 => ok_X7_isThrown h9) rfl rfl rfl rfl rfl (by decide +kernel) (by omega) (by omega) (fun _ _ => rfl) (fun _ _ => rfl) (fun x14 g14 => ?_)
  refine aw_if_eq (tgt := 22) (q := 20) gdX7_learn_11.2.2.1 (by decide) rfl (fun h_17 => ?_) (fun h_17 => ?_)
  · refine aw_iload_n (q := 23) gdX7_learn_11.2.2.2.2.2.1 rfl 3 rfl ?_
    refine aw_iload (q := 25) gdX7_learn_11.2.2.2.2.2.2.1 rfl 4 rfl ?_
    refine aw_call (q := 28) (kc1 := 1) (ks1 := 21) (wc := []) (wr := [(Mo, .inl (4, 3, .inr (.inr (.inr (.inr mm))))), (q, .inl (0, 6144, .inl f)), (tl, .inl (0, 6, .inl t)), (m, .inr (9, [.ref Mo, .ref Lo, .ref Do, .ref tl, .ref ca, .int x14.2]))]) (st1 := fun x25 g25 => [.int x25]) (ws1 := fun x25 g25 => [(Mo, .inl (4, 3, .inr (.inr (.inr (.inr mm))))), (q, .inl (0, 6144, .inl f)), (tl, .inl (0, 6, .inl t)), (m, .inr (9, [.ref Mo, .ref Lo, .ref Do, .ref tl, .ref ca, .int x14.2]))]) (As := [.int p2, .int p3]) [] [0, 1, 2, 3] (fun _ => runS gdX7_learn_11.2.2.2.2.2.2.2 mi_X7_rests st_X7_rests ml_X7_35 (by omega) rfl (Nat.le_of_ble_eq_true rfl) rfl) (fun x9 h9 => ok_X7_rests h9) rfl rfl rfl rfl rfl (by decide +kernel) (by omega) (by omega) (fun _ _ => rfl) (fun _ _ => rfl) (fun x25 g25 => ?_)
    refine aw_if_eq (tgt := 36) (q := 31) gdX7_learn_28.1 (by decide) rfl (fun h_28 => ?_) (fun h_28 => ?_)
    · refine aw_aload_n (q := 37) gdX7_learn_28.2.2.2.2.1 rfl 0 rfl ?_
      refine aw_iload_n (q := 38) gdX7_learn_28.2.2.2.2.2.1 rfl 1 rfl ?_
      refine aw_iload_n (q := 39) gdX7_learn_28.2.2.2.2.2.2.1 rfl 2 rfl ?_
      refine aw_iload_n (q := 40) gdX7_learn_28.2.2.2.2.2.2.2 rfl 3 rfl ?_
      refine aw_iload (q := 42) gdX7_learn_40.1 rfl 4 rfl ?_
      refine aw_call (q := 45) (kc1 := 1) (ks1 := 21) (wc := [(m, .inr (9, [.ref Mo, .ref Lo, .ref Do, .ref tl, .ref ca, .int x14.2])), (Mo, .inl (4, 3, .inr (.inr (.inr (.inr mm))))), (q, .inl (0, 6144, .inl f))]) (wr := [(tl, .inl (0, 6, .inl t))]) (st1 := fun x42 g42 => [.int x42]) (ws1 := fun x42 g42 => [(tl, .inl (0, 6, .inl t)), (m, .inr (9, [.ref Mo, .ref Lo, .ref Do, .ref tl, .ref ca, .int x14.2])), (Mo, .inl (4, 3, .inr (.inr (.inr (.inr mm))))), (q, .inl (0, 6144, .inl f))]) (As := [.ref m, .int p0, .int p1, .int p2, .int p3]) [3, 0, 1] [2] (fun _ => runV (q0 := 3) gdX7_learn_40.2.1 mi_X7_worth im_X7_worth se_X7_worth ml_X7_47 (by omega) rfl (Nat.le_of_ble_eq_true rfl) rfl rfl rfl rfl) (fun x9 h9 => ok_X7_worth hm h9) rfl rfl rfl rfl rfl (by decide +kernel) (by omega) (by omega) (fun _ _ => rfl) (fun _ _ => rfl) (fun x42 g42 => ?_)
      refine aw_if_ge (tgt := 52) (q := 48) gdX7_learn_40.2.2.1 (by decide) rfl (fun h_45 => ?_) (fun h_45 => ?_)
      · refine aw_iconst (q := 53) (v := 0) gdX7_learn_40.2.2.2.2.2.1 rfl (by decide) ?_
        refine aw_world (ws' := [(m, .inr (9, [.ref Mo, .ref Lo, .ref Do, .ref tl, .ref ca, .int x14.2])), (Mo, .inl (4, 3, .inr (.inr (.inr (.inr mm))))), (q, .inl (0, 6144, .inl f)), (tl, .inl (0, 6, .inl t))]) [1, 2, 3, 0] rfl rfl ?_
        exact tX7_learn_53 hm _ _ _ _
      · refine aw_iconst (q := 49) (v := 1) gdX7_learn_40.2.2.2.1 rfl (by decide) ?_
        refine aw_goto (tgt := 53) gdX7_learn_40.2.2.2.2.1 (by decide) ?_
        refine aw_world (ws' := [(m, .inr (9, [.ref Mo, .ref Lo, .ref Do, .ref tl, .ref ca, .int x14.2])), (Mo, .inl (4, 3, .inr (.inr (.inr (.inr mm))))), (q, .inl (0, 6144, .inl f)), (tl, .inl (0, 6, .inl t))]) [1, 2, 3, 0] rfl rfl ?_
        exact tX7_learn_53 hm _ _ _ _
    · refine aw_aload_n (q := 32) gdX7_learn_28.2.1 rfl 0 rfl ?_
      refine aw_call (q := 35) (kc1 := 1) (ks1 := 21) (wc := [(m, .inr (9, [.ref Mo, .ref Lo, .ref Do, .ref tl, .ref ca, .int x14.2])), (tl, .inl (0, 6, .inl t))]) (wr := [(Mo, .inl (4, 3, .inr (.inr (.inr (.inr mm))))), (q, .inl (0, 6144, .inl f))]) (st1 := fun x32 g32 => [.int x32.1]) (ws1 := fun x32 g32 => [(Mo, .inl (4, 3, .inr (.inr (.inr (.inr mm))))), (q, .inl (0, 6144, .inl f)), (m, .inr (9, [.ref Mo, .ref Lo, .ref Do, .ref tl, .ref ca, .int x14.2])), (tl, .inl (0, 6, .inl x32.2))]) (As := [.ref m]) [3, 2] [0, 1] (fun _ => runV (q0 := 3) gdX7_learn_28.2.2.1 mi_X7_refused im_X7_refused se_X7_refused ml_X7_124 (by omega) rfl (Nat.le_of_ble_eq_true rfl) rfl rfl rfl rfl) (fun x9 h9 => ok_X7_refused h9) rfl rfl rfl rfl rfl (by decide +kernel) (by omega) (by omega) (fun _ _ => rfl) (fun _ _ => rfl) (fun x32 g32 => ?_)
      exact aw_ireturn (w := [(m, .inr (9, [.ref Mo, .ref Lo, .ref Do, .ref tl, .ref ca, .int x14.2])), (Mo, .inl (4, 3, .inr (.inr (.inr (.inr mm))))), (q, .inl (0, 6144, .inl f)), (tl, .inl (0, 6, .inl x32.2))]) [2, 0, 1, 3] gdX7_learn_28.2.2.2.1 rfl rfl rfl rfl (PN.mk (fun _ => 0) rfl rfl)
  · refine aw_iconst (q := 21) (v := 0) gdX7_learn_11.2.2.2.1 rfl (by decide) ?_
    exact aw_ireturn (w := [(m, .inr (9, [.ref Mo, .ref Lo, .ref Do, .ref tl, .ref ca, .int x14.2])), (Mo, .inl (4, 3, .inr (.inr (.inr (.inr mm))))), (q, .inl (0, 6144, .inl f)), (tl, .inl (0, 6, .inl t))]) [3, 0, 1, 2] gdX7_learn_11.2.2.2.2.1 rfl rfl rfl rfl (PN.mk (fun _ => 0) rfl rfl)
def fX7_relearn (N K : Nat) (th : Int32) (f : Nat → Int32) (t : Nat → Int32) (p0 : Int32) (p1 : Int32) (p2 : Int32) (p3 : Int32) : Option (Int32 × Int32 × (Nat → Int32) × (Nat → Int32)) :=
  ((fX7_isNo N K p0 (0 : Int32) (2 : Int32)).bind (fun x4 => ((fX7_isOut N K p1 p2 p3).bind (fun x11 => ((fX7_isThrown N K th x4 x11).bind (fun x14 => (if x14.1 = 0 then ((fX7_kept N K x14.2 f p0 p1 p2 p3).bind (fun x28 => (if 0 ≤ x28 then (if p0 < 0 ∨ 3 ≤ p0.toNatClampNeg then none else ((fX7_code N K p1 p2 p3).bind (fun x49 => ((fX7_walked N K p1 p2 p3).bind (fun x56 => (if x49 < 0 ∨ 6144 ≤ x49.toNatClampNeg then none else ((fX7_kept N K x14.2 (upd f x49.toNatClampNeg x56) p0 p1 p2 p3).bind (fun x67 => ((fX7_done N K x14.2 t x67).bind (fun x70 => (some (x70.1, x14.2, (upd f x49.toNatClampNeg x56), x70.2)))))))))))) else ((fX7_refused N K x14.2 t).bind (fun x35 => (some (x35.1, x14.2, f, x35.2))))))) else (some ((0 : Int32), x14.2, f, t)))))))))
set_option maxHeartbeats 4000000 in
set_option maxRecDepth 100000 in
theorem ok_X7_relearn {N K : Nat} {m Mo Lo Do tl ca q : Nat} {mm : Nat → Option Nat} {th : Int32} {f : Nat → Int32} {t : Nat → Int32} {p0 : Int32} {p1 : Int32} {p2 : Int32} {p3 : Int32} (hm : ¬ (p0 < 0 ∨ 3 ≤ p0.toNatClampNeg) → mm p0.toNatClampNeg = some q) {xr : Int32 × Int32 × (Nat → Int32) × (Nat → Int32)} (hE : fX7_relearn N K th f t p0 p1 p2 p3 = some xr) : OkM yX7_relearn (.code yX7_relearn cX7_relearn 5 (some .int)) (5) 1 21 [.ref m, .int p0, .int p1, .int p2, .int p3] [(m, .inr (9, [.ref Mo, .ref Lo, .ref Do, .ref tl, .ref ca, .int th])), (Mo, .inl (4, 3, .inr (.inr (.inr (.inr mm))))), (q, .inl (0, 6144, .inl f)), (tl, .inl (0, 6, .inl t))] ((PN (U := Int32 × Int32 × (Nat → Int32) × (Nat → Int32)) (fun zz _ => some (.int zz.1)) (fun zz ad => [(m, .inr (9, [.ref Mo, .ref Lo, .ref Do, .ref tl, .ref ca, .int zz.2.1])), (Mo, .inl (4, 3, .inr (.inr (.inr (.inr mm))))), (q, .inl (0, 6144, .inl zz.2.2.1)), (tl, .inl (0, 6, .inl zz.2.2.2))])) xr) := by
  refine ok_of (by decide) (Nat.le_of_ble_eq_true rfl) hE ?_
  refine aw_locals (lv' := [(0, .ref m), (1, .int p0), (2, .int p1), (3, .int p2), (4, .int p3)]) [0, 1, 2, 3, 4] rfl ?_
  refine aw_aload_n (q := 1) gdX7_relearn_0.1 rfl 0 rfl ?_
  refine aw_iload_n (q := 2) gdX7_relearn_0.2.1 rfl 1 rfl ?_
  refine aw_iconst (q := 3) (v := 0) gdX7_relearn_0.2.2.1 rfl (by decide) ?_
  refine aw_iconst (q := 4) (v := 2) gdX7_relearn_0.2.2.2.1 rfl (by decide) ?_
  refine aw_call (q := 7) (kc1 := 1) (ks1 := 21) (wc := []) (wr := [(m, .inr (9, [.ref Mo, .ref Lo, .ref Do, .ref tl, .ref ca, .int th])), (Mo, .inl (4, 3, .inr (.inr (.inr (.inr mm))))), (q, .inl (0, 6144, .inl f)), (tl, .inl (0, 6, .inl t))]) (st1 := fun x4 g4 => [.int x4, .ref m]) (ws1 := fun x4 g4 => [(m, .inr (9, [.ref Mo, .ref Lo, .ref Do, .ref tl, .ref ca, .int th])), (Mo, .inl (4, 3, .inr (.inr (.inr (.inr mm))))), (q, .inl (0, 6144, .inl f)), (tl, .inl (0, 6, .inl t))]) (As := [.int p0, .int (0 : Int32), .int (2 : Int32)]) [] [0, 1, 2, 3] (fun _ => runS gdX7_relearn_0.2.2.2.2.1 mi_X7_isNo st_X7_isNo ml_X7_31 (by omega) rfl (Nat.le_of_ble_eq_true rfl) rfl) (fun x9 h9 => ok_X7_isNo h9) rfl rfl rfl rfl rfl (by decide +kernel) (by omega) (by omega) (fun _ _ => rfl) (fun _ _ => rfl) (fun x4 g4 => ?_)
  refine aw_iload_n (q := 8) gdX7_relearn_0.2.2.2.2.2.1 rfl 2 rfl ?_
  refine aw_iload_n (q := 9) gdX7_relearn_0.2.2.2.2.2.2.1 rfl 3 rfl ?_
  refine aw_iload (q := 11) gdX7_relearn_0.2.2.2.2.2.2.2 rfl 4 rfl ?_
  refine aw_call (q := 14) (kc1 := 1) (ks1 := 21) (wc := []) (wr := [(m, .inr (9, [.ref Mo, .ref Lo, .ref Do, .ref tl, .ref ca, .int th])), (Mo, .inl (4, 3, .inr (.inr (.inr (.inr mm))))), (q, .inl (0, 6144, .inl f)), (tl, .inl (0, 6, .inl t))]) (st1 := fun x11 g11 => [.int x11, .int x4, .ref m]) (ws1 := fun x11 g11 => [(m, .inr (9, [.ref Mo, .ref Lo, .ref Do, .ref tl, .ref ca, .int th])), (Mo, .inl (4, 3, .inr (.inr (.inr (.inr mm))))), (q, .inl (0, 6144, .inl f)), (tl, .inl (0, 6, .inl t))]) (As := [.int p1, .int p2, .int p3]) [] [0, 1, 2, 3] (fun _ => runS gdX7_relearn_11.1 mi_X7_isOut st_X7_isOut ml_X7_107 (by omega) rfl (Nat.le_of_ble_eq_true rfl) rfl) (fun x9 h9 => ok_X7_isOut h9) rfl rfl rfl rfl rfl (by decide +kernel) (by omega) (by omega) (fun _ _ => rfl) (fun _ _ => rfl) (fun x11 g11 => ?_)
  refine aw_call (q := 17) (kc1 := 1) (ks1 := 21) (wc := [(m, .inr (9, [.ref Mo, .ref Lo, .ref Do, .ref tl, .ref ca, .int th]))]) (wr := [(Mo, .inl (4, 3, .inr (.inr (.inr (.inr mm))))), (q, .inl (0, 6144, .inl f)), (tl, .inl (0, 6, .inl t))]) (st1 := fun x14 g14 => [.int x14.1]) (ws1 := fun x14 g14 => [(Mo, .inl (4, 3, .inr (.inr (.inr (.inr mm))))), (q, .inl (0, 6144, .inl f)), (tl, .inl (0, 6, .inl t)), (m, .inr (9, [.ref Mo, .ref Lo, .ref Do, .ref tl, .ref ca, .int x14.2]))]) (As := [.ref m, .int x4, .int x11]) [0] [1, 2, 3] (fun _ => runV (q0 := 0) gdX7_relearn_11.2.1 mi_X7_isThrown im_X7_isThrown se_X7_isThrown ml_X7_110 (by omega) rfl (Nat.le_of_ble_eq_true rfl) rfl rfl rfl rfl) (fun x9 h9 => ok_X7_isThrown h9) rfl rfl rfl rfl rfl (by decide +kernel) (by omega) (by omega) (fun _ _ => rfl) (fun _ _ => rfl) (fun x14 g14 => ?_)
  refine aw_if_eq (tgt := 22) (q := 20) gdX7_relearn_11.2.2.1 (by decide) rfl (fun h_17 => ?_) (fun h_17 => ?_)
  · refine aw_aload_n (q := 23) gdX7_relearn_11.2.2.2.2.2.1 rfl 0 rfl ?_
    refine aw_iload_n (q := 24) gdX7_relearn_11.2.2.2.2.2.2.1 rfl 1 rfl ?_
    refine aw_iload_n (q := 25) gdX7_relearn_11.2.2.2.2.2.2.2 rfl 2 rfl ?_
    refine aw_iload_n (q := 26) gdX7_relearn_25.1 rfl 3 rfl ?_
    refine aw_iload (q := 28) gdX7_relearn_25.2.1 rfl 4 rfl ?_
    refine aw_call (q := 31) (kc1 := 1) (ks1 := 21) (wc := [(m, .inr (9, [.ref Mo, .ref Lo, .ref Do, .ref tl, .ref ca, .int x14.2])), (Mo, .inl (4, 3, .inr (.inr (.inr (.inr mm))))), (q, .inl (0, 6144, .inl f))]) (wr := [(tl, .inl (0, 6, .inl t))]) (st1 := fun x28 g28 => [.int x28]) (ws1 := fun x28 g28 => [(tl, .inl (0, 6, .inl t)), (m, .inr (9, [.ref Mo, .ref Lo, .ref Do, .ref tl, .ref ca, .int x14.2])), (Mo, .inl (4, 3, .inr (.inr (.inr (.inr mm))))), (q, .inl (0, 6144, .inl f))]) (As := [.ref m, .int p0, .int p1, .int p2, .int p3]) [3, 0, 1] [2] (fun _ => runV (q0 := 3) gdX7_relearn_25.2.2.1 mi_X7_kept im_X7_kept se_X7_kept ml_X7_131 (by omega) rfl (Nat.le_of_ble_eq_true rfl) rfl rfl rfl rfl) (fun x9 h9 => ok_X7_kept hm h9) rfl rfl rfl rfl rfl (by decide +kernel) (by omega) (by omega) (fun _ _ => rfl) (fun _ _ => rfl) (fun x28 g28 => ?_)
    refine aw_if_ge (tgt := 39) (q := 34) gdX7_relearn_25.2.2.2.1 (by decide) rfl (fun h_31 => ?_) (fun h_31 => ?_)
    · refine aw_aload_n (q := 40) gdX7_relearn_25.2.2.2.2.2.2.2 rfl 0 rfl ?_
      refine aw_get (q := 43) gdX7_relearn_40.1 rfl fl_X7_11 1 rfl rfl ?_
      refine aw_iload_n (q := 44) gdX7_relearn_40.2.1 rfl 1 rfl ?_
      refine aw_aald (q := 45) gdX7_relearn_40.2.2.1 rfl 2 rfl (by decide) rfl hm ?_
      refine aw_iload_n (q := 46) gdX7_relearn_40.2.2.2.1 rfl 2 rfl ?_
      refine aw_iload_n (q := 47) gdX7_relearn_40.2.2.2.2.1 rfl 3 rfl ?_
      refine aw_iload (q := 49) gdX7_relearn_40.2.2.2.2.2.1 rfl 4 rfl ?_
      refine aw_call (q := 52) (kc1 := 1) (ks1 := 21) (wc := []) (wr := [(tl, .inl (0, 6, .inl t)), (m, .inr (9, [.ref Mo, .ref Lo, .ref Do, .ref tl, .ref ca, .int x14.2])), (Mo, .inl (4, 3, .inr (.inr (.inr (.inr mm))))), (q, .inl (0, 6144, .inl f))]) (st1 := fun x49 g49 => [.int x49, .ref q]) (ws1 := fun x49 g49 => [(tl, .inl (0, 6, .inl t)), (m, .inr (9, [.ref Mo, .ref Lo, .ref Do, .ref tl, .ref ca, .int x14.2])), (Mo, .inl (4, 3, .inr (.inr (.inr (.inr mm))))), (q, .inl (0, 6144, .inl f))]) (As := [.int p1, .int p2, .int p3]) [] [0, 1, 2, 3] (fun _ => runS gdX7_relearn_40.2.2.2.2.2.2.1 mi_X7_code st_X7_code ml_X7_39 (by omega) rfl (Nat.le_of_ble_eq_true rfl) rfl) (fun x9 h9 => ok_X7_code h9) rfl rfl rfl rfl rfl (by decide +kernel) (by omega) (by omega) (fun _ _ => rfl) (fun _ _ => rfl) (fun x49 g49 => ?_)
      refine aw_iload_n (q := 53) gdX7_relearn_40.2.2.2.2.2.2.2 rfl 2 rfl ?_
      refine aw_iload_n (q := 54) gdX7_relearn_53.1 rfl 3 rfl ?_
      refine aw_iload (q := 56) gdX7_relearn_53.2.1 rfl 4 rfl ?_
      refine aw_call (q := 59) (kc1 := 0) (ks1 := 0) (wc := []) (wr := [(tl, .inl (0, 6, .inl t)), (m, .inr (9, [.ref Mo, .ref Lo, .ref Do, .ref tl, .ref ca, .int x14.2])), (Mo, .inl (4, 3, .inr (.inr (.inr (.inr mm))))), (q, .inl (0, 6144, .inl f))]) (st1 := fun x56 g56 => [.int x56, .int x49, .ref q]) (ws1 := fun x56 g56 => [(tl, .inl (0, 6, .inl t)), (m, .inr (9, [.ref Mo, .ref Lo, .ref Do, .ref tl, .ref ca, .int x14.2])), (Mo, .inl (4, 3, .inr (.inr (.inr (.inr mm))))), (q, .inl (0, 6144, .inl f))]) (As := [.int p1, .int p2, .int p3]) [] [0, 1, 2, 3] (fun _ => runS gdX7_relearn_53.2.2.1 mi_X7_walked st_X7_walked ml_X7_134 (by omega) rfl (Nat.le_of_ble_eq_true rfl) rfl) (fun x9 h9 => ok_X7_walked h9) rfl rfl rfl rfl rfl (by decide +kernel) (by omega) (by omega) (fun _ _ => rfl) (fun _ _ => rfl) (fun x56 g56 => ?_)
      refine aw_iast (q := 60) (ws' := [(tl, .inl (0, 6, .inl t)), (m, .inr (9, [.ref Mo, .ref Lo, .ref Do, .ref tl, .ref ca, .int x14.2])), (Mo, .inl (4, 3, .inr (.inr (.inr (.inr mm))))), (q, .inl (0, 6144, .inl (upd f x49.toNatClampNeg x56)))]) gdX7_relearn_53.2.2.2.1 rfl 3 rfl rfl ?_
      refine aw_aload_n (q := 61) gdX7_relearn_53.2.2.2.2.1 rfl 0 rfl ?_
      refine aw_aload_n (q := 62) gdX7_relearn_53.2.2.2.2.2.1 rfl 0 rfl ?_
      refine aw_iload_n (q := 63) gdX7_relearn_53.2.2.2.2.2.2.1 rfl 1 rfl ?_
      refine aw_iload_n (q := 64) gdX7_relearn_53.2.2.2.2.2.2.2 rfl 2 rfl ?_
      refine aw_iload_n (q := 65) gdX7_relearn_64.1 rfl 3 rfl ?_
      refine aw_iload (q := 67) gdX7_relearn_64.2.1 rfl 4 rfl ?_
      refine aw_call (q := 70) (kc1 := 0) (ks1 := 0) (wc := [(m, .inr (9, [.ref Mo, .ref Lo, .ref Do, .ref tl, .ref ca, .int x14.2])), (Mo, .inl (4, 3, .inr (.inr (.inr (.inr mm))))), (q, .inl (0, 6144, .inl (upd f x49.toNatClampNeg x56)))]) (wr := [(tl, .inl (0, 6, .inl t))]) (st1 := fun x67 g67 => [.int x67, .ref m]) (ws1 := fun x67 g67 => [(tl, .inl (0, 6, .inl t)), (m, .inr (9, [.ref Mo, .ref Lo, .ref Do, .ref tl, .ref ca, .int x14.2])), (Mo, .inl (4, 3, .inr (.inr (.inr (.inr mm))))), (q, .inl (0, 6144, .inl (upd f x49.toNatClampNeg x56)))]) (As := [.ref m, .int p0, .int p1, .int p2, .int p3]) [1, 2, 3] [0] (fun _ => runV (q0 := 1) gdX7_relearn_64.2.2.1 mi_X7_kept im_X7_kept se_X7_kept ml_X7_131 (by omega) rfl (Nat.le_of_ble_eq_true rfl) rfl rfl rfl rfl) (fun x9 h9 => ok_X7_kept hm h9) rfl rfl rfl rfl rfl (by decide +kernel) (by omega) (by omega) (fun _ _ => rfl) (fun _ _ => rfl) (fun x67 g67 => ?_)
      refine aw_call (q := 73) (kc1 := 0) (ks1 := 0) (wc := [(m, .inr (9, [.ref Mo, .ref Lo, .ref Do, .ref tl, .ref ca, .int x14.2])), (tl, .inl (0, 6, .inl t))]) (wr := [(Mo, .inl (4, 3, .inr (.inr (.inr (.inr mm))))), (q, .inl (0, 6144, .inl (upd f x49.toNatClampNeg x56)))]) (st1 := fun x70 g70 => [.int x70.1]) (ws1 := fun x70 g70 => [(Mo, .inl (4, 3, .inr (.inr (.inr (.inr mm))))), (q, .inl (0, 6144, .inl (upd f x49.toNatClampNeg x56))), (m, .inr (9, [.ref Mo, .ref Lo, .ref Do, .ref tl, .ref ca, .int x14.2])), (tl, .inl (0, 6, .inl x70.2))]) (As := [.ref m, .int x67]) [1, 0] [2, 3] (fun _ => runV (q0 := 1) gdX7_relearn_64.2.2.2.1 mi_X7_done im_X7_done se_X7_done ml_X7_117 (by omega) rfl (Nat.le_of_ble_eq_true rfl) rfl rfl rfl rfl) (fun x9 h9 => ok_X7_done h9) rfl rfl rfl rfl rfl (by decide +kernel) (by omega) (by omega) (fun _ _ => rfl) (fun _ _ => rfl) (fun x70 g70 => ?_)
      exact aw_ireturn (w := [(m, .inr (9, [.ref Mo, .ref Lo, .ref Do, .ref tl, .ref ca, .int x14.2])), (Mo, .inl (4, 3, .inr (.inr (.inr (.inr mm))))), (q, .inl (0, 6144, .inl (upd f x49.toNatClampNeg x56))), (tl, .inl (0, 6, .inl x70.2))]) [2, 0, 1, 3] gdX7_relearn_64.2.2.2.2 rfl rfl rfl rfl (PN.mk (fun _ => 0) rfl rfl)
    · refine aw_aload_n (q := 35) gdX7_relearn_25.2.2.2.2.1 rfl 0 rfl ?_
      refine aw_call (q := 38) (kc1 := 1) (ks1 := 21) (wc := [(m, .inr (9, [.ref Mo, .ref Lo, .ref Do, .ref tl, .ref ca, .int x14.2])), (tl, .inl (0, 6, .inl t))]) (wr := [(Mo, .inl (4, 3, .inr (.inr (.inr (.inr mm))))), (q, .inl (0, 6144, .inl f))]) (st1 := fun x35 g35 => [.int x35.1]) (ws1 := fun x35 g35 => [(Mo, .inl (4, 3, .inr (.inr (.inr (.inr mm))))), (q, .inl (0, 6144, .inl f)), (m, .inr (9, [.ref Mo, .ref Lo, .ref Do, .ref tl, .ref ca, .int x14.2])), (tl, .inl (0, 6, .inl x35.2))]) (As := [.ref m]) [1, 0] [2, 3] (fun _ => runV (q0 := 1) gdX7_relearn_25.2.2.2.2.2.1 mi_X7_refused im_X7_refused se_X7_refused ml_X7_124 (by omega) rfl (Nat.le_of_ble_eq_true rfl) rfl rfl rfl rfl) (fun x9 h9 => ok_X7_refused h9) rfl rfl rfl rfl rfl (by decide +kernel) (by omega) (by omega) (fun _ _ => rfl) (fun _ _ => rfl) (fun x35 g35 => ?_)
      exact aw_ireturn (w := [(m, .inr (9, [.ref Mo, .ref Lo, .ref Do, .ref tl, .ref ca, .int x14.2])), (Mo, .inl (4, 3, .inr (.inr (.inr (.inr mm))))), (q, .inl (0, 6144, .inl f)), (tl, .inl (0, 6, .inl x35.2))]) [2, 0, 1, 3] gdX7_relearn_25.2.2.2.2.2.2.1 rfl rfl rfl rfl (PN.mk (fun _ => 0) rfl rfl)
  · refine aw_iconst (q := 21) (v := 0) gdX7_relearn_11.2.2.2.1 rfl (by decide) ?_
    exact aw_ireturn (w := [(m, .inr (9, [.ref Mo, .ref Lo, .ref Do, .ref tl, .ref ca, .int x14.2])), (Mo, .inl (4, 3, .inr (.inr (.inr (.inr mm))))), (q, .inl (0, 6144, .inl f)), (tl, .inl (0, 6, .inl t))]) [3, 0, 1, 2] gdX7_relearn_11.2.2.2.2.1 rfl rfl rfl rfl (PN.mk (fun _ => 0) rfl rfl)
def fX7_forget (N K : Nat) (th : Int32) (f : Nat → Int32) (t : Nat → Int32) (p0 : Int32) (p1 : Int32) (p2 : Int32) (p3 : Int32) : Option (Int32 × Int32 × (Nat → Int32) × (Nat → Int32)) :=
  ((fX7_isNo N K p0 (0 : Int32) (2 : Int32)).bind (fun x4 => ((fX7_isOut N K p1 p2 p3).bind (fun x11 => ((fX7_isThrown N K th x4 x11).bind (fun x14 => (if x14.1 = 0 then ((fX7_kept N K x14.2 f p0 p1 p2 p3).bind (fun x28 => (if 0 ≤ x28 then (if p0 < 0 ∨ 3 ≤ p0.toNatClampNeg then none else ((fX7_code N K p1 p2 p3).bind (fun x53 => (if x53 < 0 ∨ 6144 ≤ x53.toNatClampNeg then none else ((fX7_done N K x14.2 t x28).bind (fun x61 => (some (x61.1, x14.2, (upd f x53.toNatClampNeg (-1 : Int32)), x61.2)))))))) else ((fX7_refused N K x14.2 t).bind (fun x39 => (some (x39.1, x14.2, f, x39.2))))))) else (some ((0 : Int32), x14.2, f, t)))))))))
set_option maxHeartbeats 4000000 in
set_option maxRecDepth 100000 in
theorem ok_X7_forget {N K : Nat} {m Mo Lo Do tl ca q : Nat} {mm : Nat → Option Nat} {th : Int32} {f : Nat → Int32} {t : Nat → Int32} {p0 : Int32} {p1 : Int32} {p2 : Int32} {p3 : Int32} (hm : ¬ (p0 < 0 ∨ 3 ≤ p0.toNatClampNeg) → mm p0.toNatClampNeg = some q) {xr : Int32 × Int32 × (Nat → Int32) × (Nat → Int32)} (hE : fX7_forget N K th f t p0 p1 p2 p3 = some xr) : OkM yX7_forget (.code yX7_forget cX7_forget 6 (some .int)) (2) 0 0 [.ref m, .int p0, .int p1, .int p2, .int p3] [(m, .inr (9, [.ref Mo, .ref Lo, .ref Do, .ref tl, .ref ca, .int th])), (Mo, .inl (4, 3, .inr (.inr (.inr (.inr mm))))), (q, .inl (0, 6144, .inl f)), (tl, .inl (0, 6, .inl t))] ((PN (U := Int32 × Int32 × (Nat → Int32) × (Nat → Int32)) (fun zz _ => some (.int zz.1)) (fun zz ad => [(m, .inr (9, [.ref Mo, .ref Lo, .ref Do, .ref tl, .ref ca, .int zz.2.1])), (Mo, .inl (4, 3, .inr (.inr (.inr (.inr mm))))), (q, .inl (0, 6144, .inl zz.2.2.1)), (tl, .inl (0, 6, .inl zz.2.2.2))])) xr) := by
  refine ok_of (by decide) (Nat.le_of_ble_eq_true rfl) hE ?_
  refine aw_locals (lv' := [(0, .ref m), (1, .int p0), (2, .int p1), (3, .int p2), (4, .int p3)]) [0, 1, 2, 3, 4] rfl ?_
  refine aw_aload_n (q := 1) gdX7_forget_0.1 rfl 0 rfl ?_
  refine aw_iload_n (q := 2) gdX7_forget_0.2.1 rfl 1 rfl ?_
  refine aw_iconst (q := 3) (v := 0) gdX7_forget_0.2.2.1 rfl (by decide) ?_
  refine aw_iconst (q := 4) (v := 2) gdX7_forget_0.2.2.2.1 rfl (by decide) ?_
  refine aw_call (q := 7) (kc1 := 0) (ks1 := 0) (wc := []) (wr := [(m, .inr (9, [.ref Mo, .ref Lo, .ref Do, .ref tl, .ref ca, .int th])), (Mo, .inl (4, 3, .inr (.inr (.inr (.inr mm))))), (q, .inl (0, 6144, .inl f)), (tl, .inl (0, 6, .inl t))]) (st1 := fun x4 g4 => [.int x4, .ref m]) (ws1 := fun x4 g4 => [(m, .inr (9, [.ref Mo, .ref Lo, .ref Do, .ref tl, .ref ca, .int th])), (Mo, .inl (4, 3, .inr (.inr (.inr (.inr mm))))), (q, .inl (0, 6144, .inl f)), (tl, .inl (0, 6, .inl t))]) (As := [.int p0, .int (0 : Int32), .int (2 : Int32)]) [] [0, 1, 2, 3] (fun _ => runS gdX7_forget_0.2.2.2.2.1 mi_X7_isNo st_X7_isNo ml_X7_31 (by omega) rfl (Nat.le_of_ble_eq_true rfl) rfl) (fun x9 h9 => ok_X7_isNo h9) rfl rfl rfl rfl rfl (by decide +kernel) (by omega) (by omega) (fun _ _ => rfl) (fun _ _ => rfl) (fun x4 g4 => ?_)
  refine aw_iload_n (q := 8) gdX7_forget_0.2.2.2.2.2.1 rfl 2 rfl ?_
  refine aw_iload_n (q := 9) gdX7_forget_0.2.2.2.2.2.2.1 rfl 3 rfl ?_
  refine aw_iload (q := 11) gdX7_forget_0.2.2.2.2.2.2.2 rfl 4 rfl ?_
  refine aw_call (q := 14) (kc1 := 0) (ks1 := 0) (wc := []) (wr := [(m, .inr (9, [.ref Mo, .ref Lo, .ref Do, .ref tl, .ref ca, .int th])), (Mo, .inl (4, 3, .inr (.inr (.inr (.inr mm))))), (q, .inl (0, 6144, .inl f)), (tl, .inl (0, 6, .inl t))]) (st1 := fun x11 g11 => [.int x11, .int x4, .ref m]) (ws1 := fun x11 g11 => [(m, .inr (9, [.ref Mo, .ref Lo, .ref Do, .ref tl, .ref ca, .int th])), (Mo, .inl (4, 3, .inr (.inr (.inr (.inr mm))))), (q, .inl (0, 6144, .inl f)), (tl, .inl (0, 6, .inl t))]) (As := [.int p1, .int p2, .int p3]) [] [0, 1, 2, 3] (fun _ => runS gdX7_forget_11.1 mi_X7_isOut st_X7_isOut ml_X7_107 (by omega) rfl (Nat.le_of_ble_eq_true rfl) rfl) (fun x9 h9 => ok_X7_isOut h9) rfl rfl rfl rfl rfl (by decide +kernel) (by omega) (by omega) (fun _ _ => rfl) (fun _ _ => rfl) (fun x11 g11 => ?_)
  refine aw_call (q := 17) (kc1 := 0) (ks1 := 0) (wc := [(m, .inr (9, [.ref Mo, .ref Lo, .ref Do, .ref tl, .ref ca, .int th]))]) (wr := [(Mo, .inl (4, 3, .inr (.inr (.inr (.inr mm))))), (q, .inl (0, 6144, .inl f)), (tl, .inl (0, 6, .inl t))]) (st1 := fun x14 g14 => [.int x14.1]) (ws1 := fun x14 g14 => [(Mo, .inl (4, 3, .inr (.inr (.inr (.inr mm))))), (q, .inl (0, 6144, .inl f)), (tl, .inl (0, 6, .inl t)), (m, .inr (9, [.ref Mo, .ref Lo, .ref Do, .ref tl, .ref ca, .int x14.2]))]) (As := [.ref m, .int x4, .int x11]) [0] [1, 2, 3] (fun _ => runV (q0 := 0) gdX7_forget_11.2.1 mi_X7_isThrown im_X7_isThrown se_X7_isThrown ml_X7_110 (by omega) rfl (Nat.le_of_ble_eq_true rfl) rfl rfl rfl rfl) (fun x9 h9 => ok_X7_isThrown h9) rfl rfl rfl rfl rfl (by decide +kernel) (by omega) (by omega) (fun _ _ => rfl) (fun _ _ => rfl) (fun x14 g14 => ?_)
  refine aw_if_eq (tgt := 22) (q := 20) gdX7_forget_11.2.2.1 (by decide) rfl (fun h_17 => ?_) (fun h_17 => ?_)
  · refine aw_aload_n (q := 23) gdX7_forget_11.2.2.2.2.2.1 rfl 0 rfl ?_
    refine aw_iload_n (q := 24) gdX7_forget_11.2.2.2.2.2.2.1 rfl 1 rfl ?_
    refine aw_iload_n (q := 25) gdX7_forget_11.2.2.2.2.2.2.2 rfl 2 rfl ?_
    refine aw_iload_n (q := 26) gdX7_forget_25.1 rfl 3 rfl ?_
    refine aw_iload (q := 28) gdX7_forget_25.2.1 rfl 4 rfl ?_
    refine aw_call (q := 31) (kc1 := 0) (ks1 := 0) (wc := [(m, .inr (9, [.ref Mo, .ref Lo, .ref Do, .ref tl, .ref ca, .int x14.2])), (Mo, .inl (4, 3, .inr (.inr (.inr (.inr mm))))), (q, .inl (0, 6144, .inl f))]) (wr := [(tl, .inl (0, 6, .inl t))]) (st1 := fun x28 g28 => [.int x28]) (ws1 := fun x28 g28 => [(tl, .inl (0, 6, .inl t)), (m, .inr (9, [.ref Mo, .ref Lo, .ref Do, .ref tl, .ref ca, .int x14.2])), (Mo, .inl (4, 3, .inr (.inr (.inr (.inr mm))))), (q, .inl (0, 6144, .inl f))]) (As := [.ref m, .int p0, .int p1, .int p2, .int p3]) [3, 0, 1] [2] (fun _ => runV (q0 := 3) gdX7_forget_25.2.2.1 mi_X7_kept im_X7_kept se_X7_kept ml_X7_131 (by omega) rfl (Nat.le_of_ble_eq_true rfl) rfl rfl rfl rfl) (fun x9 h9 => ok_X7_kept hm h9) rfl rfl rfl rfl rfl (by decide +kernel) (by omega) (by omega) (fun _ _ => rfl) (fun _ _ => rfl) (fun x28 g28 => ?_)
    refine aw_istore (q := 33) (lv' := [(5, .int x28), (0, .ref m), (1, .int p0), (2, .int p1), (3, .int p2), (4, .int p3)]) gdX7_forget_25.2.2.2.1 rfl (by decide) rfl ?_
    refine aw_iload (q := 35) gdX7_forget_25.2.2.2.2.1 rfl 0 rfl ?_
    refine aw_if_ge (tgt := 43) (q := 38) gdX7_forget_25.2.2.2.2.2.1 (by decide) rfl (fun h_35 => ?_) (fun h_35 => ?_)
    · refine aw_aload_n (q := 44) gdX7_forget_42.2.1 rfl 1 rfl ?_
      refine aw_get (q := 47) gdX7_forget_42.2.2.1 rfl fl_X7_11 1 rfl rfl ?_
      refine aw_iload_n (q := 48) gdX7_forget_42.2.2.2.1 rfl 2 rfl ?_
      refine aw_aald (q := 49) gdX7_forget_42.2.2.2.2.1 rfl 2 rfl (by decide) rfl hm ?_
      refine aw_iload_n (q := 50) gdX7_forget_42.2.2.2.2.2.1 rfl 3 rfl ?_
      refine aw_iload_n (q := 51) gdX7_forget_42.2.2.2.2.2.2.1 rfl 4 rfl ?_
      refine aw_iload (q := 53) gdX7_forget_42.2.2.2.2.2.2.2 rfl 5 rfl ?_
      refine aw_call (q := 56) (kc1 := 0) (ks1 := 0) (wc := []) (wr := [(tl, .inl (0, 6, .inl t)), (m, .inr (9, [.ref Mo, .ref Lo, .ref Do, .ref tl, .ref ca, .int x14.2])), (Mo, .inl (4, 3, .inr (.inr (.inr (.inr mm))))), (q, .inl (0, 6144, .inl f))]) (st1 := fun x53 g53 => [.int x53, .ref q]) (ws1 := fun x53 g53 => [(tl, .inl (0, 6, .inl t)), (m, .inr (9, [.ref Mo, .ref Lo, .ref Do, .ref tl, .ref ca, .int x14.2])), (Mo, .inl (4, 3, .inr (.inr (.inr (.inr mm))))), (q, .inl (0, 6144, .inl f))]) (As := [.int p1, .int p2, .int p3]) [] [0, 1, 2, 3] (fun _ => runS gdX7_forget_53.1 mi_X7_code st_X7_code ml_X7_39 (by omega) rfl (Nat.le_of_ble_eq_true rfl) rfl) (fun x9 h9 => ok_X7_code h9) rfl rfl rfl rfl rfl (by decide +kernel) (by omega) (by omega) (fun _ _ => rfl) (fun _ _ => rfl) (fun x53 g53 => ?_)
      refine aw_iconst (q := 57) (v := (-1)) gdX7_forget_53.2.1 rfl (by decide) ?_
      refine aw_iast (q := 58) (ws' := [(tl, .inl (0, 6, .inl t)), (m, .inr (9, [.ref Mo, .ref Lo, .ref Do, .ref tl, .ref ca, .int x14.2])), (Mo, .inl (4, 3, .inr (.inr (.inr (.inr mm))))), (q, .inl (0, 6144, .inl (upd f x53.toNatClampNeg (-1 : Int32))))]) gdX7_forget_53.2.2.1 rfl 3 rfl rfl ?_
      refine aw_aload_n (q := 59) gdX7_forget_53.2.2.2.1 rfl 1 rfl ?_
      refine aw_iload (q := 61) gdX7_forget_53.2.2.2.2.1 rfl 0 rfl ?_
      refine aw_call (q := 64) (kc1 := 0) (ks1 := 0) (wc := [(m, .inr (9, [.ref Mo, .ref Lo, .ref Do, .ref tl, .ref ca, .int x14.2])), (tl, .inl (0, 6, .inl t))]) (wr := [(Mo, .inl (4, 3, .inr (.inr (.inr (.inr mm))))), (q, .inl (0, 6144, .inl (upd f x53.toNatClampNeg (-1 : Int32))))]) (st1 := fun x61 g61 => [.int x61.1]) (ws1 := fun x61 g61 => [(Mo, .inl (4, 3, .inr (.inr (.inr (.inr mm))))), (q, .inl (0, 6144, .inl (upd f x53.toNatClampNeg (-1 : Int32)))), (m, .inr (9, [.ref Mo, .ref Lo, .ref Do, .ref tl, .ref ca, .int x14.2])), (tl, .inl (0, 6, .inl x61.2))]) (As := [.ref m, .int x28]) [1, 0] [2, 3] (fun _ => runV (q0 := 1) gdX7_forget_53.2.2.2.2.2.1 mi_X7_done im_X7_done se_X7_done ml_X7_117 (by omega) rfl (Nat.le_of_ble_eq_true rfl) rfl rfl rfl rfl) (fun x9 h9 => ok_X7_done h9) rfl rfl rfl rfl rfl (by decide +kernel) (by omega) (by omega) (fun _ _ => rfl) (fun _ _ => rfl) (fun x61 g61 => ?_)
      exact aw_ireturn (w := [(m, .inr (9, [.ref Mo, .ref Lo, .ref Do, .ref tl, .ref ca, .int x14.2])), (Mo, .inl (4, 3, .inr (.inr (.inr (.inr mm))))), (q, .inl (0, 6144, .inl (upd f x53.toNatClampNeg (-1 : Int32)))), (tl, .inl (0, 6, .inl x61.2))]) [2, 0, 1, 3] gdX7_forget_53.2.2.2.2.2.2 rfl rfl rfl rfl (PN.mk (fun _ => 0) rfl rfl)
    · refine aw_aload_n (q := 39) gdX7_forget_25.2.2.2.2.2.2.1 rfl 1 rfl ?_
      refine aw_call (q := 42) (kc1 := 0) (ks1 := 0) (wc := [(m, .inr (9, [.ref Mo, .ref Lo, .ref Do, .ref tl, .ref ca, .int x14.2])), (tl, .inl (0, 6, .inl t))]) (wr := [(Mo, .inl (4, 3, .inr (.inr (.inr (.inr mm))))), (q, .inl (0, 6144, .inl f))]) (st1 := fun x39 g39 => [.int x39.1]) (ws1 := fun x39 g39 => [(Mo, .inl (4, 3, .inr (.inr (.inr (.inr mm))))), (q, .inl (0, 6144, .inl f)), (m, .inr (9, [.ref Mo, .ref Lo, .ref Do, .ref tl, .ref ca, .int x14.2])), (tl, .inl (0, 6, .inl x39.2))]) (As := [.ref m]) [1, 0] [2, 3] (fun _ => runV (q0 := 1) gdX7_forget_25.2.2.2.2.2.2.2 mi_X7_refused im_X7_refused se_X7_refused ml_X7_124 (by omega) rfl (Nat.le_of_ble_eq_true rfl) rfl rfl rfl rfl) (fun x9 h9 => ok_X7_refused h9) rfl rfl rfl rfl rfl (by decide +kernel) (by omega) (by omega) (fun _ _ => rfl) (fun _ _ => rfl) (fun x39 g39 => ?_)
      exact aw_ireturn (w := [(m, .inr (9, [.ref Mo, .ref Lo, .ref Do, .ref tl, .ref ca, .int x14.2])), (Mo, .inl (4, 3, .inr (.inr (.inr (.inr mm))))), (q, .inl (0, 6144, .inl f)), (tl, .inl (0, 6, .inl x39.2))]) [2, 0, 1, 3] gdX7_forget_42.1 rfl rfl rfl rfl (PN.mk (fun _ => 0) rfl rfl)
  · refine aw_iconst (q := 21) (v := 0) gdX7_forget_11.2.2.2.1 rfl (by decide) ?_
    exact aw_ireturn (w := [(m, .inr (9, [.ref Mo, .ref Lo, .ref Do, .ref tl, .ref ca, .int x14.2])), (Mo, .inl (4, 3, .inr (.inr (.inr (.inr mm))))), (q, .inl (0, 6144, .inl f)), (tl, .inl (0, 6, .inl t))]) [3, 0, 1, 2] gdX7_forget_11.2.2.2.2.1 rfl rfl rfl rfl (PN.mk (fun _ => 0) rfl rfl)
def fX7_forgetIf_72 (N K : Nat) (th : Int32) (f : Nat → Int32) (t : Nat → Int32) (p0 : Int32) (p1 : Int32) (p2 : Int32) (p3 : Int32) (p4 : Int32) (l7 : Int32) (th_ : Int32) (f_ : Nat → Int32) (t_ : Nat → Int32) : Option (Int32 × Int32 × (Nat → Int32) × (Nat → Int32)) :=
  ((fX7_bit N K l7).bind (fun x75 => ((fX7_done N K th_ t_ x75).bind (fun x78 => (some (x78.1, th_, f_, x78.2))))))
set_option maxHeartbeats 4000000 in
set_option maxRecDepth 100000 in
theorem tX7_forgetIf_72 {N K : Nat} {m Mo Lo Do tl ca q : Nat} {mm : Nat → Option Nat} {th : Int32} {f : Nat → Int32} {t : Nat → Int32} {p0 : Int32} {p1 : Int32} {p2 : Int32} {p3 : Int32} {p4 : Int32} (hm : ¬ (p0 < 0 ∨ 3 ≤ p0.toNatClampNeg) → mm p0.toNatClampNeg = some q) : ∀ (l7 : Int32) (th_ : Int32) (f_ : Nat → Int32) (t_ : Nat → Int32), AW RX7 "forgetIf" cX7_forgetIf 8 (some .int) [] (fun _ _ => True) (2) (PN (U := Int32 × Int32 × (Nat → Int32) × (Nat → Int32)) (fun zz _ => some (.int zz.1)) (fun zz ad => [(m, .inr (9, [.ref Mo, .ref Lo, .ref Do, .ref tl, .ref ca, .int zz.2.1])), (Mo, .inl (4, 3, .inr (.inr (.inr (.inr mm))))), (q, .inl (0, 6144, .inl zz.2.2.1)), (tl, .inl (0, 6, .inl zz.2.2.2))])) 0 0 (fX7_forgetIf_72 N K th f t p0 p1 p2 p3 p4  l7 th_ f_ t_) 72 [(0, .ref m), (7, .int l7)] [] [(m, .inr (9, [.ref Mo, .ref Lo, .ref Do, .ref tl, .ref ca, .int th_])), (Mo, .inl (4, 3, .inr (.inr (.inr (.inr mm))))), (q, .inl (0, 6144, .inl f_)), (tl, .inl (0, 6, .inl t_))] := by
  intro l7 th_ f_ t_
  refine aw_aload_n (q := 73) gdX7_forgetIf_71.2.1 rfl 0 rfl ?_
  refine aw_iload (q := 75) gdX7_forgetIf_71.2.2.1 rfl 1 rfl ?_
  refine aw_call (q := 78) (kc1 := 0) (ks1 := 0) (wc := []) (wr := [(m, .inr (9, [.ref Mo, .ref Lo, .ref Do, .ref tl, .ref ca, .int th_])), (Mo, .inl (4, 3, .inr (.inr (.inr (.inr mm))))), (q, .inl (0, 6144, .inl f_)), (tl, .inl (0, 6, .inl t_))]) (st1 := fun x75 g75 => [.int x75, .ref m]) (ws1 := fun x75 g75 => [(m, .inr (9, [.ref Mo, .ref Lo, .ref Do, .ref tl, .ref ca, .int th_])), (Mo, .inl (4, 3, .inr (.inr (.inr (.inr mm))))), (q, .inl (0, 6144, .inl f_)), (tl, .inl (0, 6, .inl t_))]) (As := [.int l7]) [] [0, 1, 2, 3] (fun _ => runS gdX7_forgetIf_71.2.2.2.1 mi_X7_bit st_X7_bit ml_X7_43 (by omega) rfl (Nat.le_of_ble_eq_true rfl) rfl) (fun x9 h9 => ok_X7_bit h9) rfl rfl rfl rfl rfl (by decide +kernel) (by omega) (by omega) (fun _ _ => rfl) (fun _ _ => rfl) (fun x75 g75 => ?_)
  refine aw_call (q := 81) (kc1 := 0) (ks1 := 0) (wc := [(m, .inr (9, [.ref Mo, .ref Lo, .ref Do, .ref tl, .ref ca, .int th_])), (tl, .inl (0, 6, .inl t_))]) (wr := [(Mo, .inl (4, 3, .inr (.inr (.inr (.inr mm))))), (q, .inl (0, 6144, .inl f_))]) (st1 := fun x78 g78 => [.int x78.1]) (ws1 := fun x78 g78 => [(Mo, .inl (4, 3, .inr (.inr (.inr (.inr mm))))), (q, .inl (0, 6144, .inl f_)), (m, .inr (9, [.ref Mo, .ref Lo, .ref Do, .ref tl, .ref ca, .int th_])), (tl, .inl (0, 6, .inl x78.2))]) (As := [.ref m, .int x75]) [0, 3] [1, 2] (fun _ => runV (q0 := 0) gdX7_forgetIf_71.2.2.2.2.1 mi_X7_done im_X7_done se_X7_done ml_X7_117 (by omega) rfl (Nat.le_of_ble_eq_true rfl) rfl rfl rfl rfl) (fun x9 h9 => ok_X7_done h9) rfl rfl rfl rfl rfl (by decide +kernel) (by omega) (by omega) (fun _ _ => rfl) (fun _ _ => rfl) (fun x78 g78 => ?_)
  exact aw_ireturn (w := [(m, .inr (9, [.ref Mo, .ref Lo, .ref Do, .ref tl, .ref ca, .int th_])), (Mo, .inl (4, 3, .inr (.inr (.inr (.inr mm))))), (q, .inl (0, 6144, .inl f_)), (tl, .inl (0, 6, .inl x78.2))]) [2, 0, 1, 3] gdX7_forgetIf_71.2.2.2.2.2 rfl rfl rfl rfl (PN.mk (fun _ => 0) rfl rfl)
def fX7_forgetIf_50 (N K : Nat) (th : Int32) (f : Nat → Int32) (t : Nat → Int32) (p0 : Int32) (p1 : Int32) (p2 : Int32) (p3 : Int32) (p4 : Int32) (s0 : Int32) (th_ : Int32) (f_ : Nat → Int32) (t_ : Nat → Int32) : Option (Int32 × Int32 × (Nat → Int32) × (Nat → Int32)) :=
  (if s0 = 0 then fX7_forgetIf_72 N K th f t p0 p1 p2 p3 p4  s0 th_ f_ t_ else (if p0 < 0 ∨ 3 ≤ p0.toNatClampNeg then none else ((fX7_code N K p1 p2 p3).bind (fun x67 => (if x67 < 0 ∨ 6144 ≤ x67.toNatClampNeg then none else fX7_forgetIf_72 N K th f t p0 p1 p2 p3 p4  s0 th_ (upd f_ x67.toNatClampNeg (-1 : Int32)) t_)))))
set_option maxHeartbeats 4000000 in
set_option maxRecDepth 100000 in
theorem tX7_forgetIf_50 {N K : Nat} {m Mo Lo Do tl ca q : Nat} {mm : Nat → Option Nat} {th : Int32} {f : Nat → Int32} {t : Nat → Int32} {p0 : Int32} {p1 : Int32} {p2 : Int32} {p3 : Int32} {p4 : Int32} (hm : ¬ (p0 < 0 ∨ 3 ≤ p0.toNatClampNeg) → mm p0.toNatClampNeg = some q) : ∀ (s0 : Int32) (th_ : Int32) (f_ : Nat → Int32) (t_ : Nat → Int32), AW RX7 "forgetIf" cX7_forgetIf 8 (some .int) [] (fun _ _ => True) (2) (PN (U := Int32 × Int32 × (Nat → Int32) × (Nat → Int32)) (fun zz _ => some (.int zz.1)) (fun zz ad => [(m, .inr (9, [.ref Mo, .ref Lo, .ref Do, .ref tl, .ref ca, .int zz.2.1])), (Mo, .inl (4, 3, .inr (.inr (.inr (.inr mm))))), (q, .inl (0, 6144, .inl zz.2.2.1)), (tl, .inl (0, 6, .inl zz.2.2.2))])) 0 0 (fX7_forgetIf_50 N K th f t p0 p1 p2 p3 p4  s0 th_ f_ t_) 50 [(0, .ref m), (1, .int p0), (2, .int p1), (3, .int p2), (4, .int p3)] [.int s0] [(m, .inr (9, [.ref Mo, .ref Lo, .ref Do, .ref tl, .ref ca, .int th_])), (Mo, .inl (4, 3, .inr (.inr (.inr (.inr mm))))), (q, .inl (0, 6144, .inl f_)), (tl, .inl (0, 6, .inl t_))] := by
  intro s0 th_ f_ t_
  refine aw_istore (q := 52) (lv' := [(7, .int s0), (0, .ref m), (1, .int p0), (2, .int p1), (3, .int p2), (4, .int p3)]) gdX7_forgetIf_42.2.2.2.2.1 rfl (by decide) rfl ?_
  refine aw_iload (q := 54) gdX7_forgetIf_42.2.2.2.2.2.1 rfl 0 rfl ?_
  refine aw_if_eq (tgt := 72) (q := 57) gdX7_forgetIf_42.2.2.2.2.2.2.1 (by decide) rfl (fun h_54 => ?_) (fun h_54 => ?_)
  · refine aw_locals (lv' := [(0, .ref m), (7, .int s0)]) [1, 0] rfl ?_
    exact tX7_forgetIf_72 hm _ _ _ _
  · refine aw_aload_n (q := 58) gdX7_forgetIf_42.2.2.2.2.2.2.2 rfl 1 rfl ?_
    refine aw_get (q := 61) gdX7_forgetIf_58.1 rfl fl_X7_11 0 rfl rfl ?_
    refine aw_iload_n (q := 62) gdX7_forgetIf_58.2.1 rfl 2 rfl ?_
    refine aw_aald (q := 63) gdX7_forgetIf_58.2.2.1 rfl 1 rfl (by decide) rfl hm ?_
    refine aw_iload_n (q := 64) gdX7_forgetIf_58.2.2.2.1 rfl 3 rfl ?_
    refine aw_iload_n (q := 65) gdX7_forgetIf_58.2.2.2.2.1 rfl 4 rfl ?_
    refine aw_iload (q := 67) gdX7_forgetIf_58.2.2.2.2.2.1 rfl 5 rfl ?_
    refine aw_call (q := 70) (kc1 := 0) (ks1 := 0) (wc := []) (wr := [(m, .inr (9, [.ref Mo, .ref Lo, .ref Do, .ref tl, .ref ca, .int th_])), (Mo, .inl (4, 3, .inr (.inr (.inr (.inr mm))))), (q, .inl (0, 6144, .inl f_)), (tl, .inl (0, 6, .inl t_))]) (st1 := fun x67 g67 => [.int x67, .ref q]) (ws1 := fun x67 g67 => [(m, .inr (9, [.ref Mo, .ref Lo, .ref Do, .ref tl, .ref ca, .int th_])), (Mo, .inl (4, 3, .inr (.inr (.inr (.inr mm))))), (q, .inl (0, 6144, .inl f_)), (tl, .inl (0, 6, .inl t_))]) (As := [.int p1, .int p2, .int p3]) [] [0, 1, 2, 3] (fun _ => runS gdX7_forgetIf_58.2.2.2.2.2.2.1 mi_X7_code st_X7_code ml_X7_39 (by omega) rfl (Nat.le_of_ble_eq_true rfl) rfl) (fun x9 h9 => ok_X7_code h9) rfl rfl rfl rfl rfl (by decide +kernel) (by omega) (by omega) (fun _ _ => rfl) (fun _ _ => rfl) (fun x67 g67 => ?_)
    refine aw_iconst (q := 71) (v := (-1)) gdX7_forgetIf_58.2.2.2.2.2.2.2 rfl (by decide) ?_
    refine aw_iast (q := 72) (ws' := [(m, .inr (9, [.ref Mo, .ref Lo, .ref Do, .ref tl, .ref ca, .int th_])), (Mo, .inl (4, 3, .inr (.inr (.inr (.inr mm))))), (q, .inl (0, 6144, .inl (upd f_ x67.toNatClampNeg (-1 : Int32)))), (tl, .inl (0, 6, .inl t_))]) gdX7_forgetIf_71.1 rfl 2 rfl rfl ?_
    refine aw_locals (lv' := [(0, .ref m), (7, .int s0)]) [1, 0] rfl ?_
    exact tX7_forgetIf_72 hm _ _ _ _
def fX7_forgetIf_49 (N K : Nat) (th : Int32) (f : Nat → Int32) (t : Nat → Int32) (p0 : Int32) (p1 : Int32) (p2 : Int32) (p3 : Int32) (p4 : Int32) (th_ : Int32) (f_ : Nat → Int32) (t_ : Nat → Int32) : Option (Int32 × Int32 × (Nat → Int32) × (Nat → Int32)) :=
  fX7_forgetIf_50 N K th f t p0 p1 p2 p3 p4  (0 : Int32) th_ f_ t_
set_option maxHeartbeats 4000000 in
set_option maxRecDepth 100000 in
theorem tX7_forgetIf_49 {N K : Nat} {m Mo Lo Do tl ca q : Nat} {mm : Nat → Option Nat} {th : Int32} {f : Nat → Int32} {t : Nat → Int32} {p0 : Int32} {p1 : Int32} {p2 : Int32} {p3 : Int32} {p4 : Int32} (hm : ¬ (p0 < 0 ∨ 3 ≤ p0.toNatClampNeg) → mm p0.toNatClampNeg = some q) : ∀ (th_ : Int32) (f_ : Nat → Int32) (t_ : Nat → Int32), AW RX7 "forgetIf" cX7_forgetIf 8 (some .int) [] (fun _ _ => True) (2) (PN (U := Int32 × Int32 × (Nat → Int32) × (Nat → Int32)) (fun zz _ => some (.int zz.1)) (fun zz ad => [(m, .inr (9, [.ref Mo, .ref Lo, .ref Do, .ref tl, .ref ca, .int zz.2.1])), (Mo, .inl (4, 3, .inr (.inr (.inr (.inr mm))))), (q, .inl (0, 6144, .inl zz.2.2.1)), (tl, .inl (0, 6, .inl zz.2.2.2))])) 0 0 (fX7_forgetIf_49 N K th f t p0 p1 p2 p3 p4  th_ f_ t_) 49 [(0, .ref m), (1, .int p0), (2, .int p1), (3, .int p2), (4, .int p3)] [] [(m, .inr (9, [.ref Mo, .ref Lo, .ref Do, .ref tl, .ref ca, .int th_])), (Mo, .inl (4, 3, .inr (.inr (.inr (.inr mm))))), (q, .inl (0, 6144, .inl f_)), (tl, .inl (0, 6, .inl t_))] := by
  intro th_ f_ t_
  refine aw_iconst (q := 50) (v := 0) gdX7_forgetIf_42.2.2.2.1 rfl (by decide) ?_
  exact tX7_forgetIf_50 hm _ _ _ _
def fX7_forgetIf (N K : Nat) (th : Int32) (f : Nat → Int32) (t : Nat → Int32) (p0 : Int32) (p1 : Int32) (p2 : Int32) (p3 : Int32) (p4 : Int32) : Option (Int32 × Int32 × (Nat → Int32) × (Nat → Int32)) :=
  ((fX7_isNo N K p0 (0 : Int32) (2 : Int32)).bind (fun x4 => ((fX7_isOut N K p1 p2 p3).bind (fun x11 => ((fX7_isThrown N K th x4 x11).bind (fun x14 => (if x14.1 = 0 then ((fX7_kept N K x14.2 f p0 p1 p2 p3).bind (fun x28 => (if x28 < 0 then fX7_forgetIf_49 N K th f t p0 p1 p2 p3 p4  x14.2 f t else (if x28 = p4 then fX7_forgetIf_50 N K th f t p0 p1 p2 p3 p4  (1 : Int32) x14.2 f t else fX7_forgetIf_49 N K th f t p0 p1 p2 p3 p4  x14.2 f t)))) else (some ((0 : Int32), x14.2, f, t)))))))))
set_option maxHeartbeats 4000000 in
set_option maxRecDepth 100000 in
theorem ok_X7_forgetIf {N K : Nat} {m Mo Lo Do tl ca q : Nat} {mm : Nat → Option Nat} {th : Int32} {f : Nat → Int32} {t : Nat → Int32} {p0 : Int32} {p1 : Int32} {p2 : Int32} {p3 : Int32} {p4 : Int32} (hm : ¬ (p0 < 0 ∨ 3 ≤ p0.toNatClampNeg) → mm p0.toNatClampNeg = some q) {xr : Int32 × Int32 × (Nat → Int32) × (Nat → Int32)} (hE : fX7_forgetIf N K th f t p0 p1 p2 p3 p4 = some xr) : OkM yX7_forgetIf (.code yX7_forgetIf cX7_forgetIf 8 (some .int)) (2) 0 0 [.ref m, .int p0, .int p1, .int p2, .int p3, .int p4] [(m, .inr (9, [.ref Mo, .ref Lo, .ref Do, .ref tl, .ref ca, .int th])), (Mo, .inl (4, 3, .inr (.inr (.inr (.inr mm))))), (q, .inl (0, 6144, .inl f)), (tl, .inl (0, 6, .inl t))] ((PN (U := Int32 × Int32 × (Nat → Int32) × (Nat → Int32)) (fun zz _ => some (.int zz.1)) (fun zz ad => [(m, .inr (9, [.ref Mo, .ref Lo, .ref Do, .ref tl, .ref ca, .int zz.2.1])), (Mo, .inl (4, 3, .inr (.inr (.inr (.inr mm))))), (q, .inl (0, 6144, .inl zz.2.2.1)), (tl, .inl (0, 6, .inl zz.2.2.2))])) xr) := by
  refine ok_of (by decide) (Nat.le_of_ble_eq_true rfl) hE ?_
  refine aw_locals (lv' := [(0, .ref m), (1, .int p0), (2, .int p1), (3, .int p2), (4, .int p3), (5, .int p4)]) [0, 1, 2, 3, 4, 5] rfl ?_
  refine aw_aload_n (q := 1) gdX7_forgetIf_0.1 rfl 0 rfl ?_
  refine aw_iload_n (q := 2) gdX7_forgetIf_0.2.1 rfl 1 rfl ?_
  refine aw_iconst (q := 3) (v := 0) gdX7_forgetIf_0.2.2.1 rfl (by decide) ?_
  refine aw_iconst (q := 4) (v := 2) gdX7_forgetIf_0.2.2.2.1 rfl (by decide) ?_
  refine aw_call (q := 7) (kc1 := 0) (ks1 := 0) (wc := []) (wr := [(m, .inr (9, [.ref Mo, .ref Lo, .ref Do, .ref tl, .ref ca, .int th])), (Mo, .inl (4, 3, .inr (.inr (.inr (.inr mm))))), (q, .inl (0, 6144, .inl f)), (tl, .inl (0, 6, .inl t))]) (st1 := fun x4 g4 => [.int x4, .ref m]) (ws1 := fun x4 g4 => [(m, .inr (9, [.ref Mo, .ref Lo, .ref Do, .ref tl, .ref ca, .int th])), (Mo, .inl (4, 3, .inr (.inr (.inr (.inr mm))))), (q, .inl (0, 6144, .inl f)), (tl, .inl (0, 6, .inl t))]) (As := [.int p0, .int (0 : Int32), .int (2 : Int32)]) [] [0, 1, 2, 3] (fun _ => runS gdX7_forgetIf_0.2.2.2.2.1 mi_X7_isNo st_X7_isNo ml_X7_31 (by omega) rfl (Nat.le_of_ble_eq_true rfl) rfl) (fun x9 h9 => ok_X7_isNo h9) rfl rfl rfl rfl rfl (by decide +kernel) (by omega) (by omega) (fun _ _ => rfl) (fun _ _ => rfl) (fun x4 g4 => ?_)
  refine aw_iload_n (q := 8) gdX7_forgetIf_0.2.2.2.2.2.1 rfl 2 rfl ?_
  refine aw_iload_n (q := 9) gdX7_forgetIf_0.2.2.2.2.2.2.1 rfl 3 rfl ?_
  refine aw_iload (q := 11) gdX7_forgetIf_0.2.2.2.2.2.2.2 rfl 4 rfl ?_
  refine aw_call (q := 14) (kc1 := 0) (ks1 := 0) (wc := []) (wr := [(m, .inr (9, [.ref Mo, .ref Lo, .ref Do, .ref tl, .ref ca, .int th])), (Mo, .inl (4, 3, .inr (.inr (.inr (.inr mm))))), (q, .inl (0, 6144, .inl f)), (tl, .inl (0, 6, .inl t))]) (st1 := fun x11 g11 => [.int x11, .int x4, .ref m]) (ws1 := fun x11 g11 => [(m, .inr (9, [.ref Mo, .ref Lo, .ref Do, .ref tl, .ref ca, .int th])), (Mo, .inl (4, 3, .inr (.inr (.inr (.inr mm))))), (q, .inl (0, 6144, .inl f)), (tl, .inl (0, 6, .inl t))]) (As := [.int p1, .int p2, .int p3]) [] [0, 1, 2, 3] (fun _ => runS gdX7_forgetIf_11.1 mi_X7_isOut st_X7_isOut ml_X7_107 (by omega) rfl (Nat.le_of_ble_eq_true rfl) rfl) (fun x9 h9 => ok_X7_isOut h9) rfl rfl rfl rfl rfl (by decide +kernel) (by omega) (by omega) (fun _ _ => rfl) (fun _ _ => rfl) (fun x11 g11 => ?_)
  refine aw_call (q := 17) (kc1 := 0) (ks1 := 0) (wc := [(m, .inr (9, [.ref Mo, .ref Lo, .ref Do, .ref tl, .ref ca, .int th]))]) (wr := [(Mo, .inl (4, 3, .inr (.inr (.inr (.inr mm))))), (q, .inl (0, 6144, .inl f)), (tl, .inl (0, 6, .inl t))]) (st1 := fun x14 g14 => [.int x14.1]) (ws1 := fun x14 g14 => [(Mo, .inl (4, 3, .inr (.inr (.inr (.inr mm))))), (q, .inl (0, 6144, .inl f)), (tl, .inl (0, 6, .inl t)), (m, .inr (9, [.ref Mo, .ref Lo, .ref Do, .ref tl, .ref ca, .int x14.2]))]) (As := [.ref m, .int x4, .int x11]) [0] [1, 2, 3] (fun _ => runV (q0 := 0) gdX7_forgetIf_11.2.1 mi_X7_isThrown im_X7_isThrown se_X7_isThrown ml_X7_110 (by omega) rfl (Nat.le_of_ble_eq_true rfl) rfl rfl rfl rfl) (fun x9 h9 => ok_X7_isThrown h9) rfl rfl rfl rfl rfl (by decide +kernel) (by omega) (by omega) (fun _ _ => rfl) (fun _ _ => rfl) (fun x14 g14 => ?_)
  refine aw_if_eq (tgt := 22) (q := 20) gdX7_forgetIf_11.2.2.1 (by decide) rfl (fun h_17 => ?_) (fun h_17 => ?_)
  · refine aw_aload_n (q := 23) gdX7_forgetIf_11.2.2.2.2.2.1 rfl 0 rfl ?_
    refine aw_iload_n (q := 24) gdX7_forgetIf_11.2.2.2.2.2.2.1 rfl 1 rfl ?_
    refine aw_iload_n (q := 25) gdX7_forgetIf_11.2.2.2.2.2.2.2 rfl 2 rfl ?_
    refine aw_iload_n (q := 26) gdX7_forgetIf_25.1 rfl 3 rfl ?_
    refine aw_iload (q := 28) gdX7_forgetIf_25.2.1 rfl 4 rfl ?_
    refine aw_call (q := 31) (kc1 := 0) (ks1 := 0) (wc := [(m, .inr (9, [.ref Mo, .ref Lo, .ref Do, .ref tl, .ref ca, .int x14.2])), (Mo, .inl (4, 3, .inr (.inr (.inr (.inr mm))))), (q, .inl (0, 6144, .inl f))]) (wr := [(tl, .inl (0, 6, .inl t))]) (st1 := fun x28 g28 => [.int x28]) (ws1 := fun x28 g28 => [(tl, .inl (0, 6, .inl t)), (m, .inr (9, [.ref Mo, .ref Lo, .ref Do, .ref tl, .ref ca, .int x14.2])), (Mo, .inl (4, 3, .inr (.inr (.inr (.inr mm))))), (q, .inl (0, 6144, .inl f))]) (As := [.ref m, .int p0, .int p1, .int p2, .int p3]) [3, 0, 1] [2] (fun _ => runV (q0 := 3) gdX7_forgetIf_25.2.2.1 mi_X7_kept im_X7_kept se_X7_kept ml_X7_131 (by omega) rfl (Nat.le_of_ble_eq_true rfl) rfl rfl rfl rfl) (fun x9 h9 => ok_X7_kept hm h9) rfl rfl rfl rfl rfl (by decide +kernel) (by omega) (by omega) (fun _ _ => rfl) (fun _ _ => rfl) (fun x28 g28 => ?_)
    refine aw_istore (q := 33) (lv' := [(6, .int x28), (0, .ref m), (1, .int p0), (2, .int p1), (3, .int p2), (4, .int p3), (5, .int p4)]) gdX7_forgetIf_25.2.2.2.1 rfl (by decide) rfl ?_
    refine aw_iload (q := 35) gdX7_forgetIf_25.2.2.2.2.1 rfl 0 rfl ?_
    refine aw_if_lt (tgt := 49) (q := 38) gdX7_forgetIf_25.2.2.2.2.2.1 (by decide) rfl (fun h_35 => ?_) (fun h_35 => ?_)
    · refine aw_locals (lv' := [(0, .ref m), (1, .int p0), (2, .int p1), (3, .int p2), (4, .int p3)]) [1, 2, 3, 4, 5] rfl ?_
      refine aw_world (ws' := [(m, .inr (9, [.ref Mo, .ref Lo, .ref Do, .ref tl, .ref ca, .int x14.2])), (Mo, .inl (4, 3, .inr (.inr (.inr (.inr mm))))), (q, .inl (0, 6144, .inl f)), (tl, .inl (0, 6, .inl t))]) [1, 2, 3, 0] rfl rfl ?_
      exact tX7_forgetIf_49 hm _ _ _
    · refine aw_iload (q := 40) gdX7_forgetIf_25.2.2.2.2.2.2.1 rfl 0 rfl ?_
      refine aw_iload (q := 42) gdX7_forgetIf_25.2.2.2.2.2.2.2 rfl 6 rfl ?_
      refine aw_icmp_ne (tgt := 49) (q := 45) gdX7_forgetIf_42.1 (by decide) rfl (fun h_42 => ?_) (fun h_42 => ?_)
      · refine aw_locals (lv' := [(0, .ref m), (1, .int p0), (2, .int p1), (3, .int p2), (4, .int p3)]) [1, 2, 3, 4, 5] rfl ?_
        refine aw_world (ws' := [(m, .inr (9, [.ref Mo, .ref Lo, .ref Do, .ref tl, .ref ca, .int x14.2])), (Mo, .inl (4, 3, .inr (.inr (.inr (.inr mm))))), (q, .inl (0, 6144, .inl f)), (tl, .inl (0, 6, .inl t))]) [1, 2, 3, 0] rfl rfl ?_
        exact tX7_forgetIf_49 hm _ _ _
      · refine aw_iconst (q := 46) (v := 1) gdX7_forgetIf_42.2.1 rfl (by decide) ?_
        refine aw_goto (tgt := 50) gdX7_forgetIf_42.2.2.1 (by decide) ?_
        refine aw_locals (lv' := [(0, .ref m), (1, .int p0), (2, .int p1), (3, .int p2), (4, .int p3)]) [1, 2, 3, 4, 5] rfl ?_
        refine aw_world (ws' := [(m, .inr (9, [.ref Mo, .ref Lo, .ref Do, .ref tl, .ref ca, .int x14.2])), (Mo, .inl (4, 3, .inr (.inr (.inr (.inr mm))))), (q, .inl (0, 6144, .inl f)), (tl, .inl (0, 6, .inl t))]) [1, 2, 3, 0] rfl rfl ?_
        exact tX7_forgetIf_50 hm _ _ _ _
  · refine aw_iconst (q := 21) (v := 0) gdX7_forgetIf_11.2.2.2.1 rfl (by decide) ?_
    exact aw_ireturn (w := [(m, .inr (9, [.ref Mo, .ref Lo, .ref Do, .ref tl, .ref ca, .int x14.2])), (Mo, .inl (4, 3, .inr (.inr (.inr (.inr mm))))), (q, .inl (0, 6144, .inl f)), (tl, .inl (0, 6, .inl t))]) [3, 0, 1, 2] gdX7_forgetIf_11.2.2.2.2.1 rfl rfl rfl rfl (PN.mk (fun _ => 0) rfl rfl)
def fX7_isSo_56 (N K : Nat) (th : Int32) (f : Nat → Int32) (p0 : Int32) (p1 : Int32) (p2 : Int32) (p3 : Int32) (s0 : Int32) (s1 : Int32) : Option (Int32) :=
  (if s1 = s0 then (some (1 : Int32)) else (some (0 : Int32)))
set_option maxHeartbeats 4000000 in
set_option maxRecDepth 100000 in
theorem tX7_isSo_56 {N K : Nat} {m Mo Lo Do tl ca q : Nat} {mm : Nat → Option Nat} {th : Int32} {f : Nat → Int32} {p0 : Int32} {p1 : Int32} {p2 : Int32} {p3 : Int32} (hm : ¬ (p0 < 0 ∨ 3 ≤ p0.toNatClampNeg) → mm p0.toNatClampNeg = some q) : ∀ (s0 : Int32) (s1 : Int32), AW RX7 "isSo" cX7_isSo 6 (some .boolean) [] (fun _ _ => True) (1) (PN (U := Int32) (fun zz _ => some (.int zz)) (fun zz ad => [(m, .inr (9, [.ref Mo, .ref Lo, .ref Do, .ref tl, .ref ca, .int th])), (Mo, .inl (4, 3, .inr (.inr (.inr (.inr mm))))), (q, .inl (0, 6144, .inl f))])) 0 0 (fX7_isSo_56 N K th f p0 p1 p2 p3  s0 s1) 56 [] [.int s0, .int s1] [(m, .inr (9, [.ref Mo, .ref Lo, .ref Do, .ref tl, .ref ca, .int th])), (Mo, .inl (4, 3, .inr (.inr (.inr (.inr mm))))), (q, .inl (0, 6144, .inl f))] := by
  intro s0 s1
  refine aw_icmp_ne (tgt := 63) (q := 59) gdX7_isSo_43.2.2.2.2.2.2.1 (by decide) rfl (fun h_56 => ?_) (fun h_56 => ?_)
  · refine aw_iconst (q := 64) (v := 0) gdX7_isSo_60.2.1 rfl (by decide) ?_
    exact aw_ireturn (w := [(m, .inr (9, [.ref Mo, .ref Lo, .ref Do, .ref tl, .ref ca, .int th])), (Mo, .inl (4, 3, .inr (.inr (.inr (.inr mm))))), (q, .inl (0, 6144, .inl f))]) [0, 1, 2] gdX7_isSo_60.2.2 rfl rfl rfl rfl (PN.mk (fun _ => 0) rfl rfl)
  · refine aw_iconst (q := 60) (v := 1) gdX7_isSo_43.2.2.2.2.2.2.2 rfl (by decide) ?_
    refine aw_goto (tgt := 64) gdX7_isSo_60.1 (by decide) ?_
    exact aw_ireturn (w := [(m, .inr (9, [.ref Mo, .ref Lo, .ref Do, .ref tl, .ref ca, .int th])), (Mo, .inl (4, 3, .inr (.inr (.inr (.inr mm))))), (q, .inl (0, 6144, .inl f))]) [0, 1, 2] gdX7_isSo_60.2.2 rfl rfl rfl rfl (PN.mk (fun _ => 0) rfl rfl)
def fX7_isSo (N K : Nat) (th : Int32) (f : Nat → Int32) (p0 : Int32) (p1 : Int32) (p2 : Int32) (p3 : Int32) : Option (Int32) :=
  (if p0 < 0 ∨ 3 ≤ p0.toNatClampNeg then none else (if p1 < 0 ∨ 6144 ≤ p1.toNatClampNeg then none else (if 0 ≤ (f p1.toNatClampNeg) then (if p2 = 0 then ((fX7_kindOf N K p1).bind (fun x24 => fX7_isSo_56 N K th f p0 p1 p2 p3  x24 p3)) else (if p2 = (1 : Int32) then ((fX7_numberOf N K p1).bind (fun x36 => fX7_isSo_56 N K th f p0 p1 p2 p3  x36 p3)) else (if p2 = (2 : Int32) then ((fX7_measureOf N K p1).bind (fun x48 => fX7_isSo_56 N K th f p0 p1 p2 p3  x48 p3)) else fX7_isSo_56 N K th f p0 p1 p2 p3  (f p1.toNatClampNeg) p3))) else (some (0 : Int32)))))
set_option maxHeartbeats 4000000 in
set_option maxRecDepth 100000 in
theorem ok_X7_isSo {N K : Nat} {m Mo Lo Do tl ca q : Nat} {mm : Nat → Option Nat} {th : Int32} {f : Nat → Int32} {p0 : Int32} {p1 : Int32} {p2 : Int32} {p3 : Int32} (hm : ¬ (p0 < 0 ∨ 3 ≤ p0.toNatClampNeg) → mm p0.toNatClampNeg = some q) {xr : Int32} (hE : fX7_isSo N K th f p0 p1 p2 p3 = some xr) : OkM yX7_isSo (.code yX7_isSo cX7_isSo 6 (some .boolean)) (1) 0 0 [.ref m, .int p0, .int p1, .int p2, .int p3] [(m, .inr (9, [.ref Mo, .ref Lo, .ref Do, .ref tl, .ref ca, .int th])), (Mo, .inl (4, 3, .inr (.inr (.inr (.inr mm))))), (q, .inl (0, 6144, .inl f))] ((PN (U := Int32) (fun zz _ => some (.int zz)) (fun zz ad => [(m, .inr (9, [.ref Mo, .ref Lo, .ref Do, .ref tl, .ref ca, .int th])), (Mo, .inl (4, 3, .inr (.inr (.inr (.inr mm))))), (q, .inl (0, 6144, .inl f))])) xr) := by
  refine ok_of (by decide) (Nat.le_of_ble_eq_true rfl) hE ?_
  refine aw_locals (lv' := [(0, .ref m), (1, .int p0), (2, .int p1), (3, .int p2), (4, .int p3)]) [0, 1, 2, 3, 4] rfl ?_
  refine aw_aload_n (q := 1) gdX7_isSo_0.1 rfl 0 rfl ?_
  refine aw_get (q := 4) gdX7_isSo_0.2.1 rfl fl_X7_11 0 rfl rfl ?_
  refine aw_iload_n (q := 5) gdX7_isSo_0.2.2.1 rfl 1 rfl ?_
  refine aw_aald (q := 6) gdX7_isSo_0.2.2.2.1 rfl 1 rfl (by decide) rfl hm ?_
  refine aw_iload_n (q := 7) gdX7_isSo_0.2.2.2.2.1 rfl 2 rfl ?_
  refine aw_iald (q := 8) gdX7_isSo_0.2.2.2.2.2.1 rfl 2 rfl ?_
  refine aw_istore (q := 10) (lv' := [(5, .int (f p1.toNatClampNeg)), (0, .ref m), (1, .int p0), (2, .int p1), (3, .int p2), (4, .int p3)]) gdX7_isSo_0.2.2.2.2.2.2.1 rfl (by decide) rfl ?_
  refine aw_iload (q := 12) gdX7_isSo_0.2.2.2.2.2.2.2 rfl 0 rfl ?_
  refine aw_if_ge (tgt := 17) (q := 15) gdX7_isSo_12.1 (by decide) rfl (fun h_12 => ?_) (fun h_12 => ?_)
  · refine aw_iload (q := 19) gdX7_isSo_12.2.2.2.1 rfl 5 rfl ?_
    refine aw_iload_n (q := 20) gdX7_isSo_12.2.2.2.2.1 rfl 4 rfl ?_
    refine aw_if_ne (tgt := 30) (q := 23) gdX7_isSo_12.2.2.2.2.2.1 (by decide) rfl (fun h_20 => ?_) (fun h_20 => ?_)
    · refine aw_iload_n (q := 31) gdX7_isSo_27.2.1 rfl 4 rfl ?_
      refine aw_iconst (q := 32) (v := 1) gdX7_isSo_27.2.2.1 rfl (by decide) ?_
      refine aw_icmp_ne (tgt := 42) (q := 35) gdX7_isSo_27.2.2.2.1 (by decide) rfl (fun h_32 => ?_) (fun h_32 => ?_)
      · refine aw_iload_n (q := 43) gdX7_isSo_27.2.2.2.2.2.2.2 rfl 4 rfl ?_
        refine aw_iconst (q := 44) (v := 2) gdX7_isSo_43.1 rfl (by decide) ?_
        refine aw_icmp_ne (tgt := 54) (q := 47) gdX7_isSo_43.2.1 (by decide) rfl (fun h_44 => ?_) (fun h_44 => ?_)
        · refine aw_iload (q := 56) gdX7_isSo_43.2.2.2.2.2.1 rfl 0 rfl ?_
          refine aw_locals (lv' := []) [] rfl ?_
          exact tX7_isSo_56 hm _ _
        · refine aw_iload_n (q := 48) gdX7_isSo_43.2.2.1 rfl 3 rfl ?_
          refine aw_call (q := 51) (kc1 := 0) (ks1 := 0) (wc := []) (wr := [(m, .inr (9, [.ref Mo, .ref Lo, .ref Do, .ref tl, .ref ca, .int th])), (Mo, .inl (4, 3, .inr (.inr (.inr (.inr mm))))), (q, .inl (0, 6144, .inl f))]) (st1 := fun x48 g48 => [.int x48, .int p3]) (ws1 := fun x48 g48 => [(m, .inr (9, [.ref Mo, .ref Lo, .ref Do, .ref tl, .ref ca, .int th])), (Mo, .inl (4, 3, .inr (.inr (.inr (.inr mm))))), (q, .inl (0, 6144, .inl f))]) (As := [.int p1]) [] [0, 1, 2] (fun _ => runS gdX7_isSo_43.2.2.2.1 mi_X7_measureOf st_X7_measureOf ml_X7_143 (by omega) rfl (Nat.le_of_ble_eq_true rfl) rfl) (fun x9 h9 => ok_X7_measureOf h9) rfl rfl rfl rfl rfl (by decide +kernel) (by omega) (by omega) (fun _ _ => rfl) (fun _ _ => rfl) (fun x48 g48 => ?_)
          refine aw_goto (tgt := 56) gdX7_isSo_43.2.2.2.2.1 (by decide) ?_
          refine aw_locals (lv' := []) [] rfl ?_
          exact tX7_isSo_56 hm _ _
      · refine aw_iload_n (q := 36) gdX7_isSo_27.2.2.2.2.1 rfl 3 rfl ?_
        refine aw_call (q := 39) (kc1 := 0) (ks1 := 0) (wc := []) (wr := [(m, .inr (9, [.ref Mo, .ref Lo, .ref Do, .ref tl, .ref ca, .int th])), (Mo, .inl (4, 3, .inr (.inr (.inr (.inr mm))))), (q, .inl (0, 6144, .inl f))]) (st1 := fun x36 g36 => [.int x36, .int p3]) (ws1 := fun x36 g36 => [(m, .inr (9, [.ref Mo, .ref Lo, .ref Do, .ref tl, .ref ca, .int th])), (Mo, .inl (4, 3, .inr (.inr (.inr (.inr mm))))), (q, .inl (0, 6144, .inl f))]) (As := [.int p1]) [] [0, 1, 2] (fun _ => runS gdX7_isSo_27.2.2.2.2.2.1 mi_X7_numberOf st_X7_numberOf ml_X7_140 (by omega) rfl (Nat.le_of_ble_eq_true rfl) rfl) (fun x9 h9 => ok_X7_numberOf h9) rfl rfl rfl rfl rfl (by decide +kernel) (by omega) (by omega) (fun _ _ => rfl) (fun _ _ => rfl) (fun x36 g36 => ?_)
        refine aw_goto (tgt := 56) gdX7_isSo_27.2.2.2.2.2.2.1 (by decide) ?_
        refine aw_locals (lv' := []) [] rfl ?_
        exact tX7_isSo_56 hm _ _
    · refine aw_iload_n (q := 24) gdX7_isSo_12.2.2.2.2.2.2.1 rfl 3 rfl ?_
      refine aw_call (q := 27) (kc1 := 0) (ks1 := 0) (wc := []) (wr := [(m, .inr (9, [.ref Mo, .ref Lo, .ref Do, .ref tl, .ref ca, .int th])), (Mo, .inl (4, 3, .inr (.inr (.inr (.inr mm))))), (q, .inl (0, 6144, .inl f))]) (st1 := fun x24 g24 => [.int x24, .int p3]) (ws1 := fun x24 g24 => [(m, .inr (9, [.ref Mo, .ref Lo, .ref Do, .ref tl, .ref ca, .int th])), (Mo, .inl (4, 3, .inr (.inr (.inr (.inr mm))))), (q, .inl (0, 6144, .inl f))]) (As := [.int p1]) [] [0, 1, 2] (fun _ => runS gdX7_isSo_12.2.2.2.2.2.2.2 mi_X7_kindOf st_X7_kindOf ml_X7_137 (by omega) rfl (Nat.le_of_ble_eq_true rfl) rfl) (fun x9 h9 => ok_X7_kindOf h9) rfl rfl rfl rfl rfl (by decide +kernel) (by omega) (by omega) (fun _ _ => rfl) (fun _ _ => rfl) (fun x24 g24 => ?_)
      refine aw_goto (tgt := 56) gdX7_isSo_27.1 (by decide) ?_
      refine aw_locals (lv' := []) [] rfl ?_
      exact tX7_isSo_56 hm _ _
  · refine aw_iconst (q := 16) (v := 0) gdX7_isSo_12.2.1 rfl (by decide) ?_
    exact aw_ireturn (w := [(m, .inr (9, [.ref Mo, .ref Lo, .ref Do, .ref tl, .ref ca, .int th])), (Mo, .inl (4, 3, .inr (.inr (.inr (.inr mm))))), (q, .inl (0, 6144, .inl f))]) [0, 1, 2] gdX7_isSo_12.2.2.1 rfl rfl rfl rfl (PN.mk (fun _ => 0) rfl rfl)
def fX7_counted_6 (N K : Nat) (th : Int32) (f : Nat → Int32) (p0 : Int32) (p1 : Int32) (p2 : Int32) : Nat → Int32 → Int32 → Option (Int32)
  | 0, _, _ => none
  | fu + 1, l4, l5 =>
    (if (6144 : Int32) ≤ l5 then (some l4) else ((fX7_isSo N K th f p0 l5 p1 p2).bind (fun x22 => ((fX7_bit N K x22).bind (fun x25 => fX7_counted_6 N K th f p0 p1 p2  fu (l4 + x25) (l5 + (1 : Int32)))))))
set_option maxHeartbeats 4000000 in
set_option maxRecDepth 100000 in
theorem tX7_counted_6 {N K : Nat} {m Mo Lo Do tl ca q : Nat} {mm : Nat → Option Nat} {th : Int32} {f : Nat → Int32} {p0 : Int32} {p1 : Int32} {p2 : Int32} (hm : ¬ (p0 < 0 ∨ 3 ≤ p0.toNatClampNeg) → mm p0.toNatClampNeg = some q) : ∀ (fu : Nat) (l4 : Int32) (l5 : Int32), AW RX7 "counted" cX7_counted 6 (some .int) [] (fun _ _ => True) (2) (PN (U := Int32) (fun zz _ => some (.int zz)) (fun zz ad => [(m, .inr (9, [.ref Mo, .ref Lo, .ref Do, .ref tl, .ref ca, .int th])), (Mo, .inl (4, 3, .inr (.inr (.inr (.inr mm))))), (q, .inl (0, 6144, .inl f))])) 0 0 (fX7_counted_6 N K th f p0 p1 p2  fu l4 l5) 6 [(0, .ref m), (1, .int p0), (2, .int p1), (3, .int p2), (4, .int l4), (5, .int l5)] [] [(m, .inr (9, [.ref Mo, .ref Lo, .ref Do, .ref tl, .ref ca, .int th])), (Mo, .inl (4, 3, .inr (.inr (.inr (.inr mm))))), (q, .inl (0, 6144, .inl f))] := by
  intro fu
  induction fu with
  | zero => intro l4 l5; exact aw_none
  | succ fu ih =>
    intro l4 l5
    refine aw_iload (q := 8) gdX7_counted_0.2.2.2.2.1 rfl 5 rfl ?_
    refine aw_sipush (q := 11) (v := 6144) gdX7_counted_0.2.2.2.2.2.1 rfl (by decide) ?_
    refine aw_icmp_ge (tgt := 37) (q := 14) gdX7_counted_0.2.2.2.2.2.2.1 (by decide) rfl (fun h_11 => ?_) (fun h_11 => ?_)
    · refine aw_iload (q := 39) gdX7_counted_29.2.2.2.1 rfl 4 rfl ?_
      exact aw_ireturn (w := [(m, .inr (9, [.ref Mo, .ref Lo, .ref Do, .ref tl, .ref ca, .int th])), (Mo, .inl (4, 3, .inr (.inr (.inr (.inr mm))))), (q, .inl (0, 6144, .inl f))]) [0, 1, 2] gdX7_counted_29.2.2.2.2 rfl rfl rfl rfl (PN.mk (fun _ => 0) rfl rfl)
    · refine aw_iload (q := 16) gdX7_counted_0.2.2.2.2.2.2.2 rfl 4 rfl ?_
      refine aw_aload_n (q := 17) gdX7_counted_16.1 rfl 0 rfl ?_
      refine aw_iload_n (q := 18) gdX7_counted_16.2.1 rfl 1 rfl ?_
      refine aw_iload (q := 20) gdX7_counted_16.2.2.1 rfl 5 rfl ?_
      refine aw_iload_n (q := 21) gdX7_counted_16.2.2.2.1 rfl 2 rfl ?_
      refine aw_iload_n (q := 22) gdX7_counted_16.2.2.2.2.1 rfl 3 rfl ?_
      refine aw_call (q := 25) (kc1 := 0) (ks1 := 0) (wc := [(m, .inr (9, [.ref Mo, .ref Lo, .ref Do, .ref tl, .ref ca, .int th])), (Mo, .inl (4, 3, .inr (.inr (.inr (.inr mm))))), (q, .inl (0, 6144, .inl f))]) (wr := []) (st1 := fun x22 g22 => [.int x22, .int l4]) (ws1 := fun x22 g22 => [(m, .inr (9, [.ref Mo, .ref Lo, .ref Do, .ref tl, .ref ca, .int th])), (Mo, .inl (4, 3, .inr (.inr (.inr (.inr mm))))), (q, .inl (0, 6144, .inl f))]) (As := [.ref m, .int p0, .int l5, .int p1, .int p2]) [0, 1, 2] [] (fun _ => runV (q0 := 0) gdX7_counted_16.2.2.2.2.2.1 mi_X7_isSo im_X7_isSo se_X7_isSo ml_X7_146 (by omega) rfl (Nat.le_of_ble_eq_true rfl) rfl rfl rfl rfl) (fun x9 h9 => ok_X7_isSo hm h9) rfl rfl rfl rfl rfl (by decide +kernel) (by omega) (by omega) (fun _ _ => rfl) (fun _ _ => rfl) (fun x22 g22 => ?_)
      refine aw_call (q := 28) (kc1 := 0) (ks1 := 0) (wc := []) (wr := [(m, .inr (9, [.ref Mo, .ref Lo, .ref Do, .ref tl, .ref ca, .int th])), (Mo, .inl (4, 3, .inr (.inr (.inr (.inr mm))))), (q, .inl (0, 6144, .inl f))]) (st1 := fun x25 g25 => [.int x25, .int l4]) (ws1 := fun x25 g25 => [(m, .inr (9, [.ref Mo, .ref Lo, .ref Do, .ref tl, .ref ca, .int th])), (Mo, .inl (4, 3, .inr (.inr (.inr (.inr mm))))), (q, .inl (0, 6144, .inl f))]) (As := [.int x22]) [] [0, 1, 2] (fun _ => runS gdX7_counted_16.2.2.2.2.2.2.1 mi_X7_bit st_X7_bit ml_X7_43 (by omega) rfl (Nat.le_of_ble_eq_true rfl) rfl) (fun x9 h9 => ok_X7_bit h9) rfl rfl rfl rfl rfl (by decide +kernel) (by omega) (by omega) (fun _ _ => rfl) (fun _ _ => rfl) (fun x25 g25 => ?_)
      refine aw_iadd (q := 29) gdX7_counted_16.2.2.2.2.2.2.2 rfl ?_
      refine aw_istore (q := 31) (lv' := [(4, .int (l4 + x25)), (0, .ref m), (1, .int p0), (2, .int p1), (3, .int p2), (5, .int l5)]) gdX7_counted_29.1 rfl (by decide) rfl ?_
      refine aw_iinc (q := 34) (v := (l5 + (1 : Int32))) (lv' := [(5, .int (l5 + (1 : Int32))), (4, .int (l4 + x25)), (0, .ref m), (1, .int p0), (2, .int p1), (3, .int p2)]) gdX7_counted_29.2.1 rfl 5 rfl rfl (by decide) rfl ?_
      refine aw_goto (tgt := 6) gdX7_counted_29.2.2.1 (by decide) ?_
      refine aw_locals (lv' := [(0, .ref m), (1, .int p0), (2, .int p1), (3, .int p2), (4, .int (l4 + x25)), (5, .int (l5 + (1 : Int32)))]) [2, 3, 4, 5, 1, 0] rfl ?_
      exact ih _ _
def fX7_counted (N K : Nat) (th : Int32) (f : Nat → Int32) (p0 : Int32) (p1 : Int32) (p2 : Int32) : Option (Int32) :=
  fX7_counted_6 N K th f p0 p1 p2  N (0 : Int32) (0 : Int32)
set_option maxHeartbeats 4000000 in
set_option maxRecDepth 100000 in
theorem ok_X7_counted {N K : Nat} {m Mo Lo Do tl ca q : Nat} {mm : Nat → Option Nat} {th : Int32} {f : Nat → Int32} {p0 : Int32} {p1 : Int32} {p2 : Int32} (hm : ¬ (p0 < 0 ∨ 3 ≤ p0.toNatClampNeg) → mm p0.toNatClampNeg = some q) {xr : Int32} (hE : fX7_counted N K th f p0 p1 p2 = some xr) : OkM yX7_counted (.code yX7_counted cX7_counted 6 (some .int)) (2) 0 0 [.ref m, .int p0, .int p1, .int p2] [(m, .inr (9, [.ref Mo, .ref Lo, .ref Do, .ref tl, .ref ca, .int th])), (Mo, .inl (4, 3, .inr (.inr (.inr (.inr mm))))), (q, .inl (0, 6144, .inl f))] ((PN (U := Int32) (fun zz _ => some (.int zz)) (fun zz ad => [(m, .inr (9, [.ref Mo, .ref Lo, .ref Do, .ref tl, .ref ca, .int th])), (Mo, .inl (4, 3, .inr (.inr (.inr (.inr mm))))), (q, .inl (0, 6144, .inl f))])) xr) := by
  refine ok_of (by decide) (Nat.le_of_ble_eq_true rfl) hE ?_
  refine aw_locals (lv' := [(0, .ref m), (1, .int p0), (2, .int p1), (3, .int p2)]) [0, 1, 2, 3] rfl ?_
  refine aw_iconst (q := 1) (v := 0) gdX7_counted_0.1 rfl (by decide) ?_
  refine aw_istore (q := 3) (lv' := [(4, .int (0 : Int32)), (0, .ref m), (1, .int p0), (2, .int p1), (3, .int p2)]) gdX7_counted_0.2.1 rfl (by decide) rfl ?_
  refine aw_iconst (q := 4) (v := 0) gdX7_counted_0.2.2.1 rfl (by decide) ?_
  refine aw_istore (q := 6) (lv' := [(5, .int (0 : Int32)), (4, .int (0 : Int32)), (0, .ref m), (1, .int p0), (2, .int p1), (3, .int p2)]) gdX7_counted_0.2.2.2.1 rfl (by decide) rfl ?_
  refine aw_locals (lv' := [(0, .ref m), (1, .int p0), (2, .int p1), (3, .int p2), (4, .int (0 : Int32)), (5, .int (0 : Int32))]) [2, 3, 4, 5, 1, 0] rfl ?_
  exact tX7_counted_6 hm N _ _
def fX7_forgetAll_63 (N K : Nat) (th : Int32) (f : Nat → Int32) (t : Nat → Int32) (p0 : Int32) (p1 : Int32) (p2 : Int32) (k_33 : Int32 → Int32 → Int32 → (Nat → Int32) → (Nat → Int32) → Option (Int32 × Int32 × (Nat → Int32) × (Nat → Int32))) (l4 : Int32) (l5 : Int32) (th_ : Int32) (f_ : Nat → Int32) (t_ : Nat → Int32) : Option (Int32 × Int32 × (Nat → Int32) × (Nat → Int32)) :=
  k_33 l4 (l5 + (1 : Int32)) th_ f_ t_
set_option maxHeartbeats 4000000 in
set_option maxRecDepth 100000 in
theorem tX7_forgetAll_63 {N K : Nat} {m Mo Lo Do tl ca q : Nat} {mm : Nat → Option Nat} {th : Int32} {f : Nat → Int32} {t : Nat → Int32} {p0 : Int32} {p1 : Int32} {p2 : Int32} (hm : ¬ (p0 < 0 ∨ 3 ≤ p0.toNatClampNeg) → mm p0.toNatClampNeg = some q) {k_33 : Int32 → Int32 → Int32 → (Nat → Int32) → (Nat → Int32) → Option (Int32 × Int32 × (Nat → Int32) × (Nat → Int32))} (hk_33 : ∀ (l4 : Int32) (l5 : Int32) (th_ : Int32) (f_ : Nat → Int32) (t_ : Nat → Int32), AW RX7 "forgetAll" cX7_forgetAll 6 (some .int) [] (fun _ _ => True) (3) (PN (U := Int32 × Int32 × (Nat → Int32) × (Nat → Int32)) (fun zz _ => some (.int zz.1)) (fun zz ad => [(m, .inr (9, [.ref Mo, .ref Lo, .ref Do, .ref tl, .ref ca, .int zz.2.1])), (Mo, .inl (4, 3, .inr (.inr (.inr (.inr mm))))), (q, .inl (0, 6144, .inl zz.2.2.1)), (tl, .inl (0, 6, .inl zz.2.2.2))])) 0 0 (k_33 l4 l5 th_ f_ t_) 33 [(0, .ref m), (1, .int p0), (2, .int p1), (3, .int p2), (4, .int l4), (5, .int l5)] [] [(m, .inr (9, [.ref Mo, .ref Lo, .ref Do, .ref tl, .ref ca, .int th_])), (Mo, .inl (4, 3, .inr (.inr (.inr (.inr mm))))), (q, .inl (0, 6144, .inl f_)), (tl, .inl (0, 6, .inl t_))]) : ∀ (l4 : Int32) (l5 : Int32) (th_ : Int32) (f_ : Nat → Int32) (t_ : Nat → Int32), AW RX7 "forgetAll" cX7_forgetAll 6 (some .int) [] (fun _ _ => True) (3) (PN (U := Int32 × Int32 × (Nat → Int32) × (Nat → Int32)) (fun zz _ => some (.int zz.1)) (fun zz ad => [(m, .inr (9, [.ref Mo, .ref Lo, .ref Do, .ref tl, .ref ca, .int zz.2.1])), (Mo, .inl (4, 3, .inr (.inr (.inr (.inr mm))))), (q, .inl (0, 6144, .inl zz.2.2.1)), (tl, .inl (0, 6, .inl zz.2.2.2))])) 0 0 (fX7_forgetAll_63 N K th f t p0 p1 p2 k_33 l4 l5 th_ f_ t_) 63 [(0, .ref m), (1, .int p0), (2, .int p1), (3, .int p2), (4, .int l4), (5, .int l5)] [] [(m, .inr (9, [.ref Mo, .ref Lo, .ref Do, .ref tl, .ref ca, .int th_])), (Mo, .inl (4, 3, .inr (.inr (.inr (.inr mm))))), (q, .inl (0, 6144, .inl f_)), (tl, .inl (0, 6, .inl t_))] := by
  intro l4 l5 th_ f_ t_
  refine aw_iinc (q := 66) (v := (l5 + (1 : Int32))) (lv' := [(5, .int (l5 + (1 : Int32))), (0, .ref m), (1, .int p0), (2, .int p1), (3, .int p2), (4, .int l4)]) gdX7_forgetAll_54.2.2.2.2.2.2.1 rfl 5 rfl rfl (by decide) rfl ?_
  refine aw_goto (tgt := 33) gdX7_forgetAll_54.2.2.2.2.2.2.2 (by decide) ?_
  refine aw_locals (lv' := [(0, .ref m), (1, .int p0), (2, .int p1), (3, .int p2), (4, .int l4), (5, .int (l5 + (1 : Int32)))]) [1, 2, 3, 4, 5, 0] rfl ?_
  exact hk_33 _ _ _ _ _
def fX7_forgetAll_33 (N K : Nat) (th : Int32) (f : Nat → Int32) (t : Nat → Int32) (p0 : Int32) (p1 : Int32) (p2 : Int32) : Nat → Int32 → Int32 → Int32 → (Nat → Int32) → (Nat → Int32) → Option (Int32 × Int32 × (Nat → Int32) × (Nat → Int32))
  | 0, _, _, _, _, _ => none
  | fu + 1, l4, l5, th_, f_, t_ =>
    (if (6144 : Int32) ≤ l5 then ((fX7_done N K th_ t_ l4).bind (fun x72 => (some (x72.1, th_, f_, x72.2)))) else ((fX7_isSo N K th_ f_ p0 l5 p1 p2).bind (fun x47 => (if x47 = 0 then fX7_forgetAll_63 N K th f t p0 p1 p2 (fX7_forgetAll_33 N K th f t p0 p1 p2  fu) l4 l5 th_ f_ t_ else (if p0 < 0 ∨ 3 ≤ p0.toNatClampNeg then none else (if l5 < 0 ∨ 6144 ≤ l5.toNatClampNeg then none else fX7_forgetAll_63 N K th f t p0 p1 p2 (fX7_forgetAll_33 N K th f t p0 p1 p2  fu) l4 l5 th_ (upd f_ l5.toNatClampNeg (-1 : Int32)) t_))))))
set_option maxHeartbeats 4000000 in
set_option maxRecDepth 100000 in
theorem tX7_forgetAll_33 {N K : Nat} {m Mo Lo Do tl ca q : Nat} {mm : Nat → Option Nat} {th : Int32} {f : Nat → Int32} {t : Nat → Int32} {p0 : Int32} {p1 : Int32} {p2 : Int32} (hm : ¬ (p0 < 0 ∨ 3 ≤ p0.toNatClampNeg) → mm p0.toNatClampNeg = some q) : ∀ (fu : Nat) (l4 : Int32) (l5 : Int32) (th_ : Int32) (f_ : Nat → Int32) (t_ : Nat → Int32), AW RX7 "forgetAll" cX7_forgetAll 6 (some .int) [] (fun _ _ => True) (3) (PN (U := Int32 × Int32 × (Nat → Int32) × (Nat → Int32)) (fun zz _ => some (.int zz.1)) (fun zz ad => [(m, .inr (9, [.ref Mo, .ref Lo, .ref Do, .ref tl, .ref ca, .int zz.2.1])), (Mo, .inl (4, 3, .inr (.inr (.inr (.inr mm))))), (q, .inl (0, 6144, .inl zz.2.2.1)), (tl, .inl (0, 6, .inl zz.2.2.2))])) 0 0 (fX7_forgetAll_33 N K th f t p0 p1 p2  fu l4 l5 th_ f_ t_) 33 [(0, .ref m), (1, .int p0), (2, .int p1), (3, .int p2), (4, .int l4), (5, .int l5)] [] [(m, .inr (9, [.ref Mo, .ref Lo, .ref Do, .ref tl, .ref ca, .int th_])), (Mo, .inl (4, 3, .inr (.inr (.inr (.inr mm))))), (q, .inl (0, 6144, .inl f_)), (tl, .inl (0, 6, .inl t_))] := by
  intro fu
  induction fu with
  | zero => intro l4 l5 th_ f_ t_; exact aw_none
  | succ fu ih =>
    intro l4 l5 th_ f_ t_
    refine aw_iload (q := 35) gdX7_forgetAll_24.2.2.2.2.2.1 rfl 5 rfl ?_
    refine aw_sipush (q := 38) (v := 6144) gdX7_forgetAll_24.2.2.2.2.2.2.1 rfl (by decide) ?_
    refine aw_icmp_ge (tgt := 69) (q := 41) gdX7_forgetAll_24.2.2.2.2.2.2.2 (by decide) rfl (fun h_38 => ?_) (fun h_38 => ?_)
    · refine aw_aload_n (q := 70) gdX7_forgetAll_69.1 rfl 0 rfl ?_
      refine aw_iload (q := 72) gdX7_forgetAll_69.2.1 rfl 4 rfl ?_
      refine aw_call (q := 75) (kc1 := 0) (ks1 := 0) (wc := [(m, .inr (9, [.ref Mo, .ref Lo, .ref Do, .ref tl, .ref ca, .int th_])), (tl, .inl (0, 6, .inl t_))]) (wr := [(Mo, .inl (4, 3, .inr (.inr (.inr (.inr mm))))), (q, .inl (0, 6144, .inl f_))]) (st1 := fun x72 g72 => [.int x72.1]) (ws1 := fun x72 g72 => [(Mo, .inl (4, 3, .inr (.inr (.inr (.inr mm))))), (q, .inl (0, 6144, .inl f_)), (m, .inr (9, [.ref Mo, .ref Lo, .ref Do, .ref tl, .ref ca, .int th_])), (tl, .inl (0, 6, .inl x72.2))]) (As := [.ref m, .int l4]) [0, 3] [1, 2] (fun _ => runV (q0 := 0) gdX7_forgetAll_69.2.2.1 mi_X7_done im_X7_done se_X7_done ml_X7_117 (by omega) rfl (Nat.le_of_ble_eq_true rfl) rfl rfl rfl rfl) (fun x9 h9 => ok_X7_done h9) rfl rfl rfl rfl rfl (by decide +kernel) (by omega) (by omega) (fun _ _ => rfl) (fun _ _ => rfl) (fun x72 g72 => ?_)
      exact aw_ireturn (w := [(m, .inr (9, [.ref Mo, .ref Lo, .ref Do, .ref tl, .ref ca, .int th_])), (Mo, .inl (4, 3, .inr (.inr (.inr (.inr mm))))), (q, .inl (0, 6144, .inl f_)), (tl, .inl (0, 6, .inl x72.2))]) [2, 0, 1, 3] gdX7_forgetAll_69.2.2.2 rfl rfl rfl rfl (PN.mk (fun _ => 0) rfl rfl)
    · refine aw_aload_n (q := 42) gdX7_forgetAll_41.1 rfl 0 rfl ?_
      refine aw_iload_n (q := 43) gdX7_forgetAll_41.2.1 rfl 1 rfl ?_
      refine aw_iload (q := 45) gdX7_forgetAll_41.2.2.1 rfl 5 rfl ?_
      refine aw_iload_n (q := 46) gdX7_forgetAll_41.2.2.2.1 rfl 2 rfl ?_
      refine aw_iload_n (q := 47) gdX7_forgetAll_41.2.2.2.2.1 rfl 3 rfl ?_
      refine aw_call (q := 50) (kc1 := 0) (ks1 := 0) (wc := [(m, .inr (9, [.ref Mo, .ref Lo, .ref Do, .ref tl, .ref ca, .int th_])), (Mo, .inl (4, 3, .inr (.inr (.inr (.inr mm))))), (q, .inl (0, 6144, .inl f_))]) (wr := [(tl, .inl (0, 6, .inl t_))]) (st1 := fun x47 g47 => [.int x47]) (ws1 := fun x47 g47 => [(tl, .inl (0, 6, .inl t_)), (m, .inr (9, [.ref Mo, .ref Lo, .ref Do, .ref tl, .ref ca, .int th_])), (Mo, .inl (4, 3, .inr (.inr (.inr (.inr mm))))), (q, .inl (0, 6144, .inl f_))]) (As := [.ref m, .int p0, .int l5, .int p1, .int p2]) [0, 1, 2] [3] (fun _ => runV (q0 := 0) gdX7_forgetAll_41.2.2.2.2.2.1 mi_X7_isSo im_X7_isSo se_X7_isSo ml_X7_146 (by omega) rfl (Nat.le_of_ble_eq_true rfl) rfl rfl rfl rfl) (fun x9 h9 => ok_X7_isSo hm h9) rfl rfl rfl rfl rfl (by decide +kernel) (by omega) (by omega) (fun _ _ => rfl) (fun _ _ => rfl) (fun x47 g47 => ?_)
      refine aw_if_eq (tgt := 63) (q := 53) gdX7_forgetAll_41.2.2.2.2.2.2.1 (by decide) rfl (fun h_50 => ?_) (fun h_50 => ?_)
      · refine aw_world (ws' := [(m, .inr (9, [.ref Mo, .ref Lo, .ref Do, .ref tl, .ref ca, .int th_])), (Mo, .inl (4, 3, .inr (.inr (.inr (.inr mm))))), (q, .inl (0, 6144, .inl f_)), (tl, .inl (0, 6, .inl t_))]) [1, 2, 3, 0] rfl rfl ?_
        exact tX7_forgetAll_63 hm ih _ _ _ _ _
      · refine aw_aload_n (q := 54) gdX7_forgetAll_41.2.2.2.2.2.2.2 rfl 0 rfl ?_
        refine aw_get (q := 57) gdX7_forgetAll_54.1 rfl fl_X7_11 1 rfl rfl ?_
        refine aw_iload_n (q := 58) gdX7_forgetAll_54.2.1 rfl 1 rfl ?_
        refine aw_aald (q := 59) gdX7_forgetAll_54.2.2.1 rfl 2 rfl (by decide) rfl hm ?_
        refine aw_iload (q := 61) gdX7_forgetAll_54.2.2.2.1 rfl 5 rfl ?_
        refine aw_iconst (q := 62) (v := (-1)) gdX7_forgetAll_54.2.2.2.2.1 rfl (by decide) ?_
        refine aw_iast (q := 63) (ws' := [(tl, .inl (0, 6, .inl t_)), (m, .inr (9, [.ref Mo, .ref Lo, .ref Do, .ref tl, .ref ca, .int th_])), (Mo, .inl (4, 3, .inr (.inr (.inr (.inr mm))))), (q, .inl (0, 6144, .inl (upd f_ l5.toNatClampNeg (-1 : Int32))))]) gdX7_forgetAll_54.2.2.2.2.2.1 rfl 3 rfl rfl ?_
        refine aw_world (ws' := [(m, .inr (9, [.ref Mo, .ref Lo, .ref Do, .ref tl, .ref ca, .int th_])), (Mo, .inl (4, 3, .inr (.inr (.inr (.inr mm))))), (q, .inl (0, 6144, .inl (upd f_ l5.toNatClampNeg (-1 : Int32)))), (tl, .inl (0, 6, .inl t_))]) [1, 2, 3, 0] rfl rfl ?_
        exact tX7_forgetAll_63 hm ih _ _ _ _ _
def fX7_forgetAll (N K : Nat) (th : Int32) (f : Nat → Int32) (t : Nat → Int32) (p0 : Int32) (p1 : Int32) (p2 : Int32) : Option (Int32 × Int32 × (Nat → Int32) × (Nat → Int32)) :=
  ((fX7_isNo N K p0 (0 : Int32) (2 : Int32)).bind (fun x4 => ((fX7_isNo N K p1 (0 : Int32) (3 : Int32)).bind (fun x10 => ((fX7_isThrown N K th x4 x10).bind (fun x13 => (if x13.1 = 0 then ((fX7_counted N K x13.2 f p0 p1 p2).bind (fun x25 => fX7_forgetAll_33 N K th f t p0 p1 p2  N x25 (0 : Int32) x13.2 f t)) else (some ((0 : Int32), x13.2, f, t)))))))))
set_option maxHeartbeats 4000000 in
set_option maxRecDepth 100000 in
theorem ok_X7_forgetAll {N K : Nat} {m Mo Lo Do tl ca q : Nat} {mm : Nat → Option Nat} {th : Int32} {f : Nat → Int32} {t : Nat → Int32} {p0 : Int32} {p1 : Int32} {p2 : Int32} (hm : ¬ (p0 < 0 ∨ 3 ≤ p0.toNatClampNeg) → mm p0.toNatClampNeg = some q) {xr : Int32 × Int32 × (Nat → Int32) × (Nat → Int32)} (hE : fX7_forgetAll N K th f t p0 p1 p2 = some xr) : OkM yX7_forgetAll (.code yX7_forgetAll cX7_forgetAll 6 (some .int)) (3) 0 0 [.ref m, .int p0, .int p1, .int p2] [(m, .inr (9, [.ref Mo, .ref Lo, .ref Do, .ref tl, .ref ca, .int th])), (Mo, .inl (4, 3, .inr (.inr (.inr (.inr mm))))), (q, .inl (0, 6144, .inl f)), (tl, .inl (0, 6, .inl t))] ((PN (U := Int32 × Int32 × (Nat → Int32) × (Nat → Int32)) (fun zz _ => some (.int zz.1)) (fun zz ad => [(m, .inr (9, [.ref Mo, .ref Lo, .ref Do, .ref tl, .ref ca, .int zz.2.1])), (Mo, .inl (4, 3, .inr (.inr (.inr (.inr mm))))), (q, .inl (0, 6144, .inl zz.2.2.1)), (tl, .inl (0, 6, .inl zz.2.2.2))])) xr) := by
  refine ok_of (by decide) (Nat.le_of_ble_eq_true rfl) hE ?_
  refine aw_locals (lv' := [(0, .ref m), (1, .int p0), (2, .int p1), (3, .int p2)]) [0, 1, 2, 3] rfl ?_
  refine aw_aload_n (q := 1) gdX7_forgetAll_0.1 rfl 0 rfl ?_
  refine aw_iload_n (q := 2) gdX7_forgetAll_0.2.1 rfl 1 rfl ?_
  refine aw_iconst (q := 3) (v := 0) gdX7_forgetAll_0.2.2.1 rfl (by decide) ?_
  refine aw_iconst (q := 4) (v := 2) gdX7_forgetAll_0.2.2.2.1 rfl (by decide) ?_
  refine aw_call (q := 7) (kc1 := 0) (ks1 := 0) (wc := []) (wr := [(m, .inr (9, [.ref Mo, .ref Lo, .ref Do, .ref tl, .ref ca, .int th])), (Mo, .inl (4, 3, .inr (.inr (.inr (.inr mm))))), (q, .inl (0, 6144, .inl f)), (tl, .inl (0, 6, .inl t))]) (st1 := fun x4 g4 => [.int x4, .ref m]) (ws1 := fun x4 g4 => [(m, .inr (9, [.ref Mo, .ref Lo, .ref Do, .ref tl, .ref ca, .int th])), (Mo, .inl (4, 3, .inr (.inr (.inr (.inr mm))))), (q, .inl (0, 6144, .inl f)), (tl, .inl (0, 6, .inl t))]) (As := [.int p0, .int (0 : Int32), .int (2 : Int32)]) [] [0, 1, 2, 3] (fun _ => runS gdX7_forgetAll_0.2.2.2.2.1 mi_X7_isNo st_X7_isNo ml_X7_31 (by omega) rfl (Nat.le_of_ble_eq_true rfl) rfl) (fun x9 h9 => ok_X7_isNo h9) rfl rfl rfl rfl rfl (by decide +kernel) (by omega) (by omega) (fun _ _ => rfl) (fun _ _ => rfl) (fun x4 g4 => ?_)
  refine aw_iload_n (q := 8) gdX7_forgetAll_0.2.2.2.2.2.1 rfl 2 rfl ?_
  refine aw_iconst (q := 9) (v := 0) gdX7_forgetAll_0.2.2.2.2.2.2.1 rfl (by decide) ?_
  refine aw_iconst (q := 10) (v := 3) gdX7_forgetAll_0.2.2.2.2.2.2.2 rfl (by decide) ?_
  refine aw_call (q := 13) (kc1 := 0) (ks1 := 0) (wc := []) (wr := [(m, .inr (9, [.ref Mo, .ref Lo, .ref Do, .ref tl, .ref ca, .int th])), (Mo, .inl (4, 3, .inr (.inr (.inr (.inr mm))))), (q, .inl (0, 6144, .inl f)), (tl, .inl (0, 6, .inl t))]) (st1 := fun x10 g10 => [.int x10, .int x4, .ref m]) (ws1 := fun x10 g10 => [(m, .inr (9, [.ref Mo, .ref Lo, .ref Do, .ref tl, .ref ca, .int th])), (Mo, .inl (4, 3, .inr (.inr (.inr (.inr mm))))), (q, .inl (0, 6144, .inl f)), (tl, .inl (0, 6, .inl t))]) (As := [.int p1, .int (0 : Int32), .int (3 : Int32)]) [] [0, 1, 2, 3] (fun _ => runS gdX7_forgetAll_10.1 mi_X7_isNo st_X7_isNo ml_X7_31 (by omega) rfl (Nat.le_of_ble_eq_true rfl) rfl) (fun x9 h9 => ok_X7_isNo h9) rfl rfl rfl rfl rfl (by decide +kernel) (by omega) (by omega) (fun _ _ => rfl) (fun _ _ => rfl) (fun x10 g10 => ?_)
  refine aw_call (q := 16) (kc1 := 0) (ks1 := 0) (wc := [(m, .inr (9, [.ref Mo, .ref Lo, .ref Do, .ref tl, .ref ca, .int th]))]) (wr := [(Mo, .inl (4, 3, .inr (.inr (.inr (.inr mm))))), (q, .inl (0, 6144, .inl f)), (tl, .inl (0, 6, .inl t))]) (st1 := fun x13 g13 => [.int x13.1]) (ws1 := fun x13 g13 => [(Mo, .inl (4, 3, .inr (.inr (.inr (.inr mm))))), (q, .inl (0, 6144, .inl f)), (tl, .inl (0, 6, .inl t)), (m, .inr (9, [.ref Mo, .ref Lo, .ref Do, .ref tl, .ref ca, .int x13.2]))]) (As := [.ref m, .int x4, .int x10]) [0] [1, 2, 3] (fun _ => runV (q0 := 0) gdX7_forgetAll_10.2.1 mi_X7_isThrown im_X7_isThrown se_X7_isThrown ml_X7_110 (by omega) rfl (Nat.le_of_ble_eq_true rfl) rfl rfl rfl rfl) (fun x9 h9 => ok_X7_isThrown h9) rfl rfl rfl rfl rfl (by decide +kernel) (by omega) (by omega) (fun _ _ => rfl) (fun _ _ => rfl) (fun x13 g13 => ?_)
  refine aw_if_eq (tgt := 21) (q := 19) gdX7_forgetAll_10.2.2.1 (by decide) rfl (fun h_16 => ?_) (fun h_16 => ?_)
  · refine aw_aload_n (q := 22) gdX7_forgetAll_10.2.2.2.2.2.1 rfl 0 rfl ?_
    refine aw_iload_n (q := 23) gdX7_forgetAll_10.2.2.2.2.2.2.1 rfl 1 rfl ?_
    refine aw_iload_n (q := 24) gdX7_forgetAll_10.2.2.2.2.2.2.2 rfl 2 rfl ?_
    refine aw_iload_n (q := 25) gdX7_forgetAll_24.1 rfl 3 rfl ?_
    refine aw_call (q := 28) (kc1 := 0) (ks1 := 0) (wc := [(m, .inr (9, [.ref Mo, .ref Lo, .ref Do, .ref tl, .ref ca, .int x13.2])), (Mo, .inl (4, 3, .inr (.inr (.inr (.inr mm))))), (q, .inl (0, 6144, .inl f))]) (wr := [(tl, .inl (0, 6, .inl t))]) (st1 := fun x25 g25 => [.int x25]) (ws1 := fun x25 g25 => [(tl, .inl (0, 6, .inl t)), (m, .inr (9, [.ref Mo, .ref Lo, .ref Do, .ref tl, .ref ca, .int x13.2])), (Mo, .inl (4, 3, .inr (.inr (.inr (.inr mm))))), (q, .inl (0, 6144, .inl f))]) (As := [.ref m, .int p0, .int p1, .int p2]) [3, 0, 1] [2] (fun _ => runV (q0 := 3) gdX7_forgetAll_24.2.1 mi_X7_counted im_X7_counted se_X7_counted ml_X7_150 (by omega) rfl (Nat.le_of_ble_eq_true rfl) rfl rfl rfl rfl) (fun x9 h9 => ok_X7_counted hm h9) rfl rfl rfl rfl rfl (by decide +kernel) (by omega) (by omega) (fun _ _ => rfl) (fun _ _ => rfl) (fun x25 g25 => ?_)
    refine aw_istore (q := 30) (lv' := [(4, .int x25), (0, .ref m), (1, .int p0), (2, .int p1), (3, .int p2)]) gdX7_forgetAll_24.2.2.1 rfl (by decide) rfl ?_
    refine aw_iconst (q := 31) (v := 0) gdX7_forgetAll_24.2.2.2.1 rfl (by decide) ?_
    refine aw_istore (q := 33) (lv' := [(5, .int (0 : Int32)), (4, .int x25), (0, .ref m), (1, .int p0), (2, .int p1), (3, .int p2)]) gdX7_forgetAll_24.2.2.2.2.1 rfl (by decide) rfl ?_
    refine aw_locals (lv' := [(0, .ref m), (1, .int p0), (2, .int p1), (3, .int p2), (4, .int x25), (5, .int (0 : Int32))]) [2, 3, 4, 5, 1, 0] rfl ?_
    refine aw_world (ws' := [(m, .inr (9, [.ref Mo, .ref Lo, .ref Do, .ref tl, .ref ca, .int x13.2])), (Mo, .inl (4, 3, .inr (.inr (.inr (.inr mm))))), (q, .inl (0, 6144, .inl f)), (tl, .inl (0, 6, .inl t))]) [1, 2, 3, 0] rfl rfl ?_
    exact tX7_forgetAll_33 hm N _ _ _ _ _
  · refine aw_iconst (q := 20) (v := 0) gdX7_forgetAll_10.2.2.2.1 rfl (by decide) ?_
    exact aw_ireturn (w := [(m, .inr (9, [.ref Mo, .ref Lo, .ref Do, .ref tl, .ref ca, .int x13.2])), (Mo, .inl (4, 3, .inr (.inr (.inr (.inr mm))))), (q, .inl (0, 6144, .inl f)), (tl, .inl (0, 6, .inl t))]) [3, 0, 1, 2] gdX7_forgetAll_10.2.2.2.2.1 rfl rfl rfl rfl (PN.mk (fun _ => 0) rfl rfl)
def fX7_told2_76 (N K : Nat) (th : Int32) (f : Nat → Int32) (p0 : Int32) (p1 : Int32) (s0 : Int32) : Option (Int32) :=
  ((fX7_bit N K s0).bind (fun x76 => (some x76)))
set_option maxHeartbeats 4000000 in
set_option maxRecDepth 100000 in
theorem tX7_told2_76 {N K : Nat} {m Mo Lo Do tl ca q : Nat} {mm : Nat → Option Nat} {th : Int32} {f : Nat → Int32} {p0 : Int32} {p1 : Int32} (hm : ¬ (p0 < 0 ∨ 3 ≤ p0.toNatClampNeg) → mm p0.toNatClampNeg = some q) : ∀ (s0 : Int32), AW RX7 "told" cX7_told_ 6 (some .int) [] (fun _ _ => True) (1) (PN (U := Int32) (fun zz _ => some (.int zz)) (fun zz ad => [(m, .inr (9, [.ref Mo, .ref Lo, .ref Do, .ref tl, .ref ca, .int th])), (Mo, .inl (4, 3, .inr (.inr (.inr (.inr mm))))), (q, .inl (0, 6144, .inl f))])) 0 0 (fX7_told2_76 N K th f p0 p1  s0) 76 [] [.int s0] [(m, .inr (9, [.ref Mo, .ref Lo, .ref Do, .ref tl, .ref ca, .int th])), (Mo, .inl (4, 3, .inr (.inr (.inr (.inr mm))))), (q, .inl (0, 6144, .inl f))] := by
  intro s0
  refine aw_call (q := 79) (kc1 := 0) (ks1 := 0) (wc := []) (wr := [(m, .inr (9, [.ref Mo, .ref Lo, .ref Do, .ref tl, .ref ca, .int th])), (Mo, .inl (4, 3, .inr (.inr (.inr (.inr mm))))), (q, .inl (0, 6144, .inl f))]) (st1 := fun x76 g76 => [.int x76]) (ws1 := fun x76 g76 => [(m, .inr (9, [.ref Mo, .ref Lo, .ref Do, .ref tl, .ref ca, .int th])), (Mo, .inl (4, 3, .inr (.inr (.inr (.inr mm))))), (q, .inl (0, 6144, .inl f))]) (As := [.int s0]) [] [0, 1, 2] (fun _ => runS gdX7_told__72.2.2.1 mi_X7_bit st_X7_bit ml_X7_43 (by omega) rfl (Nat.le_of_ble_eq_true rfl) rfl) (fun x9 h9 => ok_X7_bit h9) rfl rfl rfl rfl rfl (by decide +kernel) (by omega) (by omega) (fun _ _ => rfl) (fun _ _ => rfl) (fun x76 g76 => ?_)
  refine aw_goto (tgt := 83) gdX7_told__72.2.2.2.1 (by decide) ?_
  exact aw_ireturn (w := [(m, .inr (9, [.ref Mo, .ref Lo, .ref Do, .ref tl, .ref ca, .int th])), (Mo, .inl (4, 3, .inr (.inr (.inr (.inr mm))))), (q, .inl (0, 6144, .inl f))]) [0, 1, 2] gdX7_told__72.2.2.2.2.2 rfl rfl rfl rfl (PN.mk (fun _ => 0) rfl rfl)
def fX7_told2_56 (N K : Nat) (th : Int32) (f : Nat → Int32) (p0 : Int32) (p1 : Int32) (k_5 : Int32 → Int32 → Option (Int32)) (l3 : Int32) (l4 : Int32) : Option (Int32) :=
  k_5 l3 (l4 + (1 : Int32))
set_option maxHeartbeats 4000000 in
set_option maxRecDepth 100000 in
theorem tX7_told2_56 {N K : Nat} {m Mo Lo Do tl ca q : Nat} {mm : Nat → Option Nat} {th : Int32} {f : Nat → Int32} {p0 : Int32} {p1 : Int32} (hm : ¬ (p0 < 0 ∨ 3 ≤ p0.toNatClampNeg) → mm p0.toNatClampNeg = some q) {k_5 : Int32 → Int32 → Option (Int32)} (hk_5 : ∀ (l3 : Int32) (l4 : Int32), AW RX7 "told" cX7_told_ 6 (some .int) [] (fun _ _ => True) (1) (PN (U := Int32) (fun zz _ => some (.int zz)) (fun zz ad => [(m, .inr (9, [.ref Mo, .ref Lo, .ref Do, .ref tl, .ref ca, .int th])), (Mo, .inl (4, 3, .inr (.inr (.inr (.inr mm))))), (q, .inl (0, 6144, .inl f))])) 0 0 (k_5 l3 l4) 5 [(0, .ref m), (1, .int p0), (2, .int p1), (3, .int l3), (4, .int l4)] [] [(m, .inr (9, [.ref Mo, .ref Lo, .ref Do, .ref tl, .ref ca, .int th])), (Mo, .inl (4, 3, .inr (.inr (.inr (.inr mm))))), (q, .inl (0, 6144, .inl f))]) : ∀ (l3 : Int32) (l4 : Int32), AW RX7 "told" cX7_told_ 6 (some .int) [] (fun _ _ => True) (1) (PN (U := Int32) (fun zz _ => some (.int zz)) (fun zz ad => [(m, .inr (9, [.ref Mo, .ref Lo, .ref Do, .ref tl, .ref ca, .int th])), (Mo, .inl (4, 3, .inr (.inr (.inr (.inr mm))))), (q, .inl (0, 6144, .inl f))])) 0 0 (fX7_told2_56 N K th f p0 p1 k_5 l3 l4) 56 [(0, .ref m), (1, .int p0), (2, .int p1), (3, .int l3), (4, .int l4)] [] [(m, .inr (9, [.ref Mo, .ref Lo, .ref Do, .ref tl, .ref ca, .int th])), (Mo, .inl (4, 3, .inr (.inr (.inr (.inr mm))))), (q, .inl (0, 6144, .inl f))] := by
  intro l3 l4
  refine aw_iinc (q := 59) (v := (l4 + (1 : Int32))) (lv' := [(4, .int (l4 + (1 : Int32))), (0, .ref m), (1, .int p0), (2, .int p1), (3, .int l3)]) gdX7_told__56.1 rfl 4 rfl rfl (by decide) rfl ?_
  refine aw_goto (tgt := 5) gdX7_told__56.2.1 (by decide) ?_
  refine aw_locals (lv' := [(0, .ref m), (1, .int p0), (2, .int p1), (3, .int l3), (4, .int (l4 + (1 : Int32)))]) [1, 2, 3, 4, 0] rfl ?_
  exact hk_5 _ _
def fX7_told2_54 (N K : Nat) (th : Int32) (f : Nat → Int32) (p0 : Int32) (p1 : Int32) (k_5 : Int32 → Int32 → Option (Int32)) (l4 : Int32) (s0 : Int32) (s1 : Int32) : Option (Int32) :=
  fX7_told2_56 N K th f p0 p1 k_5 (s1 + s0) l4
set_option maxHeartbeats 4000000 in
set_option maxRecDepth 100000 in
theorem tX7_told2_54 {N K : Nat} {m Mo Lo Do tl ca q : Nat} {mm : Nat → Option Nat} {th : Int32} {f : Nat → Int32} {p0 : Int32} {p1 : Int32} (hm : ¬ (p0 < 0 ∨ 3 ≤ p0.toNatClampNeg) → mm p0.toNatClampNeg = some q) {k_5 : Int32 → Int32 → Option (Int32)} (hk_5 : ∀ (l3 : Int32) (l4 : Int32), AW RX7 "told" cX7_told_ 6 (some .int) [] (fun _ _ => True) (1) (PN (U := Int32) (fun zz _ => some (.int zz)) (fun zz ad => [(m, .inr (9, [.ref Mo, .ref Lo, .ref Do, .ref tl, .ref ca, .int th])), (Mo, .inl (4, 3, .inr (.inr (.inr (.inr mm))))), (q, .inl (0, 6144, .inl f))])) 0 0 (k_5 l3 l4) 5 [(0, .ref m), (1, .int p0), (2, .int p1), (3, .int l3), (4, .int l4)] [] [(m, .inr (9, [.ref Mo, .ref Lo, .ref Do, .ref tl, .ref ca, .int th])), (Mo, .inl (4, 3, .inr (.inr (.inr (.inr mm))))), (q, .inl (0, 6144, .inl f))]) : ∀ (l4 : Int32) (s0 : Int32) (s1 : Int32), AW RX7 "told" cX7_told_ 6 (some .int) [] (fun _ _ => True) (1) (PN (U := Int32) (fun zz _ => some (.int zz)) (fun zz ad => [(m, .inr (9, [.ref Mo, .ref Lo, .ref Do, .ref tl, .ref ca, .int th])), (Mo, .inl (4, 3, .inr (.inr (.inr (.inr mm))))), (q, .inl (0, 6144, .inl f))])) 0 0 (fX7_told2_54 N K th f p0 p1 k_5 l4 s0 s1) 54 [(0, .ref m), (1, .int p0), (2, .int p1), (4, .int l4)] [.int s0, .int s1] [(m, .inr (9, [.ref Mo, .ref Lo, .ref Do, .ref tl, .ref ca, .int th])), (Mo, .inl (4, 3, .inr (.inr (.inr (.inr mm))))), (q, .inl (0, 6144, .inl f))] := by
  intro l4 s0 s1
  refine aw_iadd (q := 55) gdX7_told__43.2.2.2.2.2.2.1 rfl ?_
  refine aw_istore_n (q := 56) (lv' := [(3, .int (s1 + s0)), (0, .ref m), (1, .int p0), (2, .int p1), (4, .int l4)]) gdX7_told__43.2.2.2.2.2.2.2 rfl (by decide) rfl ?_
  refine aw_locals (lv' := [(0, .ref m), (1, .int p0), (2, .int p1), (3, .int (s1 + s0)), (4, .int l4)]) [1, 2, 3, 0, 4] rfl ?_
  exact tX7_told2_56 hm hk_5 _ _
def fX7_told2_5 (N K : Nat) (th : Int32) (f : Nat → Int32) (p0 : Int32) (p1 : Int32) : Nat → Int32 → Int32 → Option (Int32)
  | 0, _, _ => none
  | fu + 1, l3, l4 =>
    (if (6144 : Int32) ≤ l4 then (if p1 = (3 : Int32) then (if l3 = 0 then fX7_told2_76 N K th f p0 p1  (1 : Int32) else fX7_told2_76 N K th f p0 p1  (0 : Int32)) else (some l3)) else (if p0 < 0 ∨ 3 ≤ p0.toNatClampNeg then none else (if l4 < 0 ∨ 6144 ≤ l4.toNatClampNeg then none else (if (f l4.toNatClampNeg) < 0 then fX7_told2_56 N K th f p0 p1 (fX7_told2_5 N K th f p0 p1  fu) l3 l4 else (if p1 = (1 : Int32) then fX7_told2_54 N K th f p0 p1 (fX7_told2_5 N K th f p0 p1  fu) l4 (l4 ^^^ (f l4.toNatClampNeg)) l3 else (if p1 = (2 : Int32) then fX7_told2_54 N K th f p0 p1 (fX7_told2_5 N K th f p0 p1  fu) l4 (f l4.toNatClampNeg) l3 else fX7_told2_54 N K th f p0 p1 (fX7_told2_5 N K th f p0 p1  fu) l4 (1 : Int32) l3))))))
set_option maxHeartbeats 4000000 in
set_option maxRecDepth 100000 in
theorem tX7_told2_5 {N K : Nat} {m Mo Lo Do tl ca q : Nat} {mm : Nat → Option Nat} {th : Int32} {f : Nat → Int32} {p0 : Int32} {p1 : Int32} (hm : ¬ (p0 < 0 ∨ 3 ≤ p0.toNatClampNeg) → mm p0.toNatClampNeg = some q) : ∀ (fu : Nat) (l3 : Int32) (l4 : Int32), AW RX7 "told" cX7_told_ 6 (some .int) [] (fun _ _ => True) (1) (PN (U := Int32) (fun zz _ => some (.int zz)) (fun zz ad => [(m, .inr (9, [.ref Mo, .ref Lo, .ref Do, .ref tl, .ref ca, .int th])), (Mo, .inl (4, 3, .inr (.inr (.inr (.inr mm))))), (q, .inl (0, 6144, .inl f))])) 0 0 (fX7_told2_5 N K th f p0 p1  fu l3 l4) 5 [(0, .ref m), (1, .int p0), (2, .int p1), (3, .int l3), (4, .int l4)] [] [(m, .inr (9, [.ref Mo, .ref Lo, .ref Do, .ref tl, .ref ca, .int th])), (Mo, .inl (4, 3, .inr (.inr (.inr (.inr mm))))), (q, .inl (0, 6144, .inl f))] := by
  intro fu
  induction fu with
  | zero => intro l3 l4; exact aw_none
  | succ fu ih =>
    intro l3 l4
    refine aw_iload (q := 7) gdX7_told__0.2.2.2.2.1 rfl 4 rfl ?_
    refine aw_sipush (q := 10) (v := 6144) gdX7_told__0.2.2.2.2.2.1 rfl (by decide) ?_
    refine aw_icmp_ge (tgt := 62) (q := 13) gdX7_told__0.2.2.2.2.2.2.1 (by decide) rfl (fun h_10 => ?_) (fun h_10 => ?_)
    · refine aw_iload_n (q := 63) gdX7_told__56.2.2.1 rfl 2 rfl ?_
      refine aw_iconst (q := 64) (v := 3) gdX7_told__56.2.2.2.1 rfl (by decide) ?_
      refine aw_icmp_ne (tgt := 82) (q := 67) gdX7_told__56.2.2.2.2.1 (by decide) rfl (fun h_64 => ?_) (fun h_64 => ?_)
      · refine aw_iload_n (q := 83) gdX7_told__72.2.2.2.2.1 rfl 3 rfl ?_
        exact aw_ireturn (w := [(m, .inr (9, [.ref Mo, .ref Lo, .ref Do, .ref tl, .ref ca, .int th])), (Mo, .inl (4, 3, .inr (.inr (.inr (.inr mm))))), (q, .inl (0, 6144, .inl f))]) [0, 1, 2] gdX7_told__72.2.2.2.2.2 rfl rfl rfl rfl (PN.mk (fun _ => 0) rfl rfl)
      · refine aw_iload_n (q := 68) gdX7_told__56.2.2.2.2.2.1 rfl 3 rfl ?_
        refine aw_if_ne (tgt := 75) (q := 71) gdX7_told__56.2.2.2.2.2.2.1 (by decide) rfl (fun h_68 => ?_) (fun h_68 => ?_)
        · refine aw_iconst (q := 76) (v := 0) gdX7_told__72.2.1 rfl (by decide) ?_
          refine aw_locals (lv' := []) [] rfl ?_
          exact tX7_told2_76 hm _
        · refine aw_iconst (q := 72) (v := 1) gdX7_told__56.2.2.2.2.2.2.2 rfl (by decide) ?_
          refine aw_goto (tgt := 76) gdX7_told__72.1 (by decide) ?_
          refine aw_locals (lv' := []) [] rfl ?_
          exact tX7_told2_76 hm _
    · refine aw_aload_n (q := 14) gdX7_told__0.2.2.2.2.2.2.2 rfl 0 rfl ?_
      refine aw_get (q := 17) gdX7_told__14.1 rfl fl_X7_11 0 rfl rfl ?_
      refine aw_iload_n (q := 18) gdX7_told__14.2.1 rfl 1 rfl ?_
      refine aw_aald (q := 19) gdX7_told__14.2.2.1 rfl 1 rfl (by decide) rfl hm ?_
      refine aw_iload (q := 21) gdX7_told__14.2.2.2.1 rfl 4 rfl ?_
      refine aw_iald (q := 22) gdX7_told__14.2.2.2.2.1 rfl 2 rfl ?_
      refine aw_istore (q := 24) (lv' := [(5, .int (f l4.toNatClampNeg)), (0, .ref m), (1, .int p0), (2, .int p1), (3, .int l3), (4, .int l4)]) gdX7_told__14.2.2.2.2.2.1 rfl (by decide) rfl ?_
      refine aw_iload (q := 26) gdX7_told__14.2.2.2.2.2.2.1 rfl 0 rfl ?_
      refine aw_if_lt (tgt := 56) (q := 29) gdX7_told__14.2.2.2.2.2.2.2 (by decide) rfl (fun h_26 => ?_) (fun h_26 => ?_)
      · refine aw_locals (lv' := [(0, .ref m), (1, .int p0), (2, .int p1), (3, .int l3), (4, .int l4)]) [1, 2, 3, 4, 5] rfl ?_
        exact tX7_told2_56 hm ih _ _
      · refine aw_iload_n (q := 30) gdX7_told__29.1 rfl 4 rfl ?_
        refine aw_iload_n (q := 31) gdX7_told__29.2.1 rfl 3 rfl ?_
        refine aw_iconst (q := 32) (v := 1) gdX7_told__29.2.2.1 rfl (by decide) ?_
        refine aw_icmp_ne (tgt := 43) (q := 35) gdX7_told__29.2.2.2.1 (by decide) rfl (fun h_32 => ?_) (fun h_32 => ?_)
        · refine aw_iload_n (q := 44) gdX7_told__43.1 rfl 3 rfl ?_
          refine aw_iconst (q := 45) (v := 2) gdX7_told__43.2.1 rfl (by decide) ?_
          refine aw_icmp_ne (tgt := 53) (q := 48) gdX7_told__43.2.2.1 (by decide) rfl (fun h_45 => ?_) (fun h_45 => ?_)
          · refine aw_iconst (q := 54) (v := 1) gdX7_told__43.2.2.2.2.2.1 rfl (by decide) ?_
            refine aw_locals (lv' := [(0, .ref m), (1, .int p0), (2, .int p1), (4, .int l4)]) [1, 2, 3, 5] rfl ?_
            exact tX7_told2_54 hm ih _ _ _
          · refine aw_iload (q := 50) gdX7_told__43.2.2.2.1 rfl 0 rfl ?_
            refine aw_goto (tgt := 54) gdX7_told__43.2.2.2.2.1 (by decide) ?_
            refine aw_locals (lv' := [(0, .ref m), (1, .int p0), (2, .int p1), (4, .int l4)]) [1, 2, 3, 5] rfl ?_
            exact tX7_told2_54 hm ih _ _ _
        · refine aw_iload (q := 37) gdX7_told__29.2.2.2.2.1 rfl 5 rfl ?_
          refine aw_iload (q := 39) gdX7_told__29.2.2.2.2.2.1 rfl 0 rfl ?_
          refine aw_ixor (q := 40) gdX7_told__29.2.2.2.2.2.2.1 rfl ?_
          refine aw_goto (tgt := 54) gdX7_told__29.2.2.2.2.2.2.2 (by decide) ?_
          refine aw_locals (lv' := [(0, .ref m), (1, .int p0), (2, .int p1), (4, .int l4)]) [1, 2, 3, 5] rfl ?_
          exact tX7_told2_54 hm ih _ _ _
def fX7_told2 (N K : Nat) (th : Int32) (f : Nat → Int32) (p0 : Int32) (p1 : Int32) : Option (Int32) :=
  fX7_told2_5 N K th f p0 p1  N (0 : Int32) (0 : Int32)
set_option maxHeartbeats 4000000 in
set_option maxRecDepth 100000 in
theorem ok_X7_told2 {N K : Nat} {m Mo Lo Do tl ca q : Nat} {mm : Nat → Option Nat} {th : Int32} {f : Nat → Int32} {p0 : Int32} {p1 : Int32} (hm : ¬ (p0 < 0 ∨ 3 ≤ p0.toNatClampNeg) → mm p0.toNatClampNeg = some q) {xr : Int32} (hE : fX7_told2 N K th f p0 p1 = some xr) : OkM yX7_told_ (.code yX7_told_ cX7_told_ 6 (some .int)) (1) 0 0 [.ref m, .int p0, .int p1] [(m, .inr (9, [.ref Mo, .ref Lo, .ref Do, .ref tl, .ref ca, .int th])), (Mo, .inl (4, 3, .inr (.inr (.inr (.inr mm))))), (q, .inl (0, 6144, .inl f))] ((PN (U := Int32) (fun zz _ => some (.int zz)) (fun zz ad => [(m, .inr (9, [.ref Mo, .ref Lo, .ref Do, .ref tl, .ref ca, .int th])), (Mo, .inl (4, 3, .inr (.inr (.inr (.inr mm))))), (q, .inl (0, 6144, .inl f))])) xr) := by
  refine ok_of (by decide) (Nat.le_of_ble_eq_true rfl) hE ?_
  refine aw_locals (lv' := [(0, .ref m), (1, .int p0), (2, .int p1)]) [0, 1, 2] rfl ?_
  refine aw_iconst (q := 1) (v := 0) gdX7_told__0.1 rfl (by decide) ?_
  refine aw_istore_n (q := 2) (lv' := [(3, .int (0 : Int32)), (0, .ref m), (1, .int p0), (2, .int p1)]) gdX7_told__0.2.1 rfl (by decide) rfl ?_
  refine aw_iconst (q := 3) (v := 0) gdX7_told__0.2.2.1 rfl (by decide) ?_
  refine aw_istore (q := 5) (lv' := [(4, .int (0 : Int32)), (3, .int (0 : Int32)), (0, .ref m), (1, .int p0), (2, .int p1)]) gdX7_told__0.2.2.2.1 rfl (by decide) rfl ?_
  refine aw_locals (lv' := [(0, .ref m), (1, .int p0), (2, .int p1), (3, .int (0 : Int32)), (4, .int (0 : Int32))]) [2, 3, 4, 1, 0] rfl ?_
  exact tX7_told2_5 hm N _ _
def fX7_clear_25 (N K : Nat) (th : Int32) (f : Nat → Int32) (t : Nat → Int32) (p0 : Int32) : Nat → Int32 → Int32 → Int32 → (Nat → Int32) → (Nat → Int32) → Option (Int32 × Int32 × (Nat → Int32) × (Nat → Int32))
  | 0, _, _, _, _, _ => none
  | fu + 1, l2, l3, th_, f_, t_ =>
    (if (6144 : Int32) ≤ l3 then ((fX7_done N K th_ t_ l2).bind (fun x49 => (some (x49.1, th_, f_, x49.2)))) else (if p0 < 0 ∨ 3 ≤ p0.toNatClampNeg then none else (if l3 < 0 ∨ 6144 ≤ l3.toNatClampNeg then none else fX7_clear_25 N K th f t p0  fu l2 (l3 + (1 : Int32)) th_ (upd f_ l3.toNatClampNeg (-1 : Int32)) t_)))
set_option maxHeartbeats 4000000 in
set_option maxRecDepth 100000 in
theorem tX7_clear_25 {N K : Nat} {m Mo Lo Do tl ca q : Nat} {mm : Nat → Option Nat} {th : Int32} {f : Nat → Int32} {t : Nat → Int32} {p0 : Int32} (hm : ¬ (p0 < 0 ∨ 3 ≤ p0.toNatClampNeg) → mm p0.toNatClampNeg = some q) : ∀ (fu : Nat) (l2 : Int32) (l3 : Int32) (th_ : Int32) (f_ : Nat → Int32) (t_ : Nat → Int32), AW RX7 "clear" cX7_clear 4 (some .int) [] (fun _ _ => True) (2) (PN (U := Int32 × Int32 × (Nat → Int32) × (Nat → Int32)) (fun zz _ => some (.int zz.1)) (fun zz ad => [(m, .inr (9, [.ref Mo, .ref Lo, .ref Do, .ref tl, .ref ca, .int zz.2.1])), (Mo, .inl (4, 3, .inr (.inr (.inr (.inr mm))))), (q, .inl (0, 6144, .inl zz.2.2.1)), (tl, .inl (0, 6, .inl zz.2.2.2))])) 0 0 (fX7_clear_25 N K th f t p0  fu l2 l3 th_ f_ t_) 25 [(0, .ref m), (1, .int p0), (2, .int l2), (3, .int l3)] [] [(m, .inr (9, [.ref Mo, .ref Lo, .ref Do, .ref tl, .ref ca, .int th_])), (Mo, .inl (4, 3, .inr (.inr (.inr (.inr mm))))), (q, .inl (0, 6144, .inl f_)), (tl, .inl (0, 6, .inl t_))] := by
  intro fu
  induction fu with
  | zero => intro l2 l3 th_ f_ t_; exact aw_none
  | succ fu ih =>
    intro l2 l3 th_ f_ t_
    refine aw_iload_n (q := 26) gdX7_clear_24.2.1 rfl 3 rfl ?_
    refine aw_sipush (q := 29) (v := 6144) gdX7_clear_24.2.2.1 rfl (by decide) ?_
    refine aw_icmp_ge (tgt := 47) (q := 32) gdX7_clear_24.2.2.2.1 (by decide) rfl (fun h_29 => ?_) (fun h_29 => ?_)
    · refine aw_aload_n (q := 48) gdX7_clear_38.2.2.2.2.2.1 rfl 0 rfl ?_
      refine aw_iload_n (q := 49) gdX7_clear_38.2.2.2.2.2.2.1 rfl 2 rfl ?_
      refine aw_call (q := 52) (kc1 := 0) (ks1 := 0) (wc := [(m, .inr (9, [.ref Mo, .ref Lo, .ref Do, .ref tl, .ref ca, .int th_])), (tl, .inl (0, 6, .inl t_))]) (wr := [(Mo, .inl (4, 3, .inr (.inr (.inr (.inr mm))))), (q, .inl (0, 6144, .inl f_))]) (st1 := fun x49 g49 => [.int x49.1]) (ws1 := fun x49 g49 => [(Mo, .inl (4, 3, .inr (.inr (.inr (.inr mm))))), (q, .inl (0, 6144, .inl f_)), (m, .inr (9, [.ref Mo, .ref Lo, .ref Do, .ref tl, .ref ca, .int th_])), (tl, .inl (0, 6, .inl x49.2))]) (As := [.ref m, .int l2]) [0, 3] [1, 2] (fun _ => runV (q0 := 0) gdX7_clear_38.2.2.2.2.2.2.2 mi_X7_done im_X7_done se_X7_done ml_X7_117 (by omega) rfl (Nat.le_of_ble_eq_true rfl) rfl rfl rfl rfl) (fun x9 h9 => ok_X7_done h9) rfl rfl rfl rfl rfl (by decide +kernel) (by omega) (by omega) (fun _ _ => rfl) (fun _ _ => rfl) (fun x49 g49 => ?_)
      exact aw_ireturn (w := [(m, .inr (9, [.ref Mo, .ref Lo, .ref Do, .ref tl, .ref ca, .int th_])), (Mo, .inl (4, 3, .inr (.inr (.inr (.inr mm))))), (q, .inl (0, 6144, .inl f_)), (tl, .inl (0, 6, .inl x49.2))]) [2, 0, 1, 3] dX7_clear_52 rfl rfl rfl rfl (PN.mk (fun _ => 0) rfl rfl)
    · refine aw_aload_n (q := 33) gdX7_clear_24.2.2.2.2.1 rfl 0 rfl ?_
      refine aw_get (q := 36) gdX7_clear_24.2.2.2.2.2.1 rfl fl_X7_11 0 rfl rfl ?_
      refine aw_iload_n (q := 37) gdX7_clear_24.2.2.2.2.2.2.1 rfl 1 rfl ?_
      refine aw_aald (q := 38) gdX7_clear_24.2.2.2.2.2.2.2 rfl 1 rfl (by decide) rfl hm ?_
      refine aw_iload_n (q := 39) gdX7_clear_38.1 rfl 3 rfl ?_
      refine aw_iconst (q := 40) (v := (-1)) gdX7_clear_38.2.1 rfl (by decide) ?_
      refine aw_iast (q := 41) (ws' := [(m, .inr (9, [.ref Mo, .ref Lo, .ref Do, .ref tl, .ref ca, .int th_])), (Mo, .inl (4, 3, .inr (.inr (.inr (.inr mm))))), (q, .inl (0, 6144, .inl (upd f_ l3.toNatClampNeg (-1 : Int32)))), (tl, .inl (0, 6, .inl t_))]) gdX7_clear_38.2.2.1 rfl 2 rfl rfl ?_
      refine aw_iinc (q := 44) (v := (l3 + (1 : Int32))) (lv' := [(3, .int (l3 + (1 : Int32))), (0, .ref m), (1, .int p0), (2, .int l2)]) gdX7_clear_38.2.2.2.1 rfl 3 rfl rfl (by decide) rfl ?_
      refine aw_goto (tgt := 25) gdX7_clear_38.2.2.2.2.1 (by decide) ?_
      refine aw_locals (lv' := [(0, .ref m), (1, .int p0), (2, .int l2), (3, .int (l3 + (1 : Int32)))]) [1, 2, 3, 0] rfl ?_
      exact ih _ _ _ _ _
def fX7_clear (N K : Nat) (th : Int32) (f : Nat → Int32) (t : Nat → Int32) (p0 : Int32) : Option (Int32 × Int32 × (Nat → Int32) × (Nat → Int32)) :=
  ((fX7_isNo N K p0 (0 : Int32) (2 : Int32)).bind (fun x4 => ((fX7_isThrown N K th x4 (0 : Int32)).bind (fun x8 => (if x8.1 = 0 then ((fX7_told2 N K x8.2 f p0 (0 : Int32)).bind (fun x19 => fX7_clear_25 N K th f t p0  N x19 (0 : Int32) x8.2 f t)) else (some ((0 : Int32), x8.2, f, t)))))))
set_option maxHeartbeats 4000000 in
set_option maxRecDepth 100000 in
theorem ok_X7_clear {N K : Nat} {m Mo Lo Do tl ca q : Nat} {mm : Nat → Option Nat} {th : Int32} {f : Nat → Int32} {t : Nat → Int32} {p0 : Int32} (hm : ¬ (p0 < 0 ∨ 3 ≤ p0.toNatClampNeg) → mm p0.toNatClampNeg = some q) {xr : Int32 × Int32 × (Nat → Int32) × (Nat → Int32)} (hE : fX7_clear N K th f t p0 = some xr) : OkM yX7_clear (.code yX7_clear cX7_clear 4 (some .int)) (2) 0 0 [.ref m, .int p0] [(m, .inr (9, [.ref Mo, .ref Lo, .ref Do, .ref tl, .ref ca, .int th])), (Mo, .inl (4, 3, .inr (.inr (.inr (.inr mm))))), (q, .inl (0, 6144, .inl f)), (tl, .inl (0, 6, .inl t))] ((PN (U := Int32 × Int32 × (Nat → Int32) × (Nat → Int32)) (fun zz _ => some (.int zz.1)) (fun zz ad => [(m, .inr (9, [.ref Mo, .ref Lo, .ref Do, .ref tl, .ref ca, .int zz.2.1])), (Mo, .inl (4, 3, .inr (.inr (.inr (.inr mm))))), (q, .inl (0, 6144, .inl zz.2.2.1)), (tl, .inl (0, 6, .inl zz.2.2.2))])) xr) := by
  refine ok_of (by decide) (Nat.le_of_ble_eq_true rfl) hE ?_
  refine aw_locals (lv' := [(0, .ref m), (1, .int p0)]) [0, 1] rfl ?_
  refine aw_aload_n (q := 1) gdX7_clear_0.1 rfl 0 rfl ?_
  refine aw_iload_n (q := 2) gdX7_clear_0.2.1 rfl 1 rfl ?_
  refine aw_iconst (q := 3) (v := 0) gdX7_clear_0.2.2.1 rfl (by decide) ?_
  refine aw_iconst (q := 4) (v := 2) gdX7_clear_0.2.2.2.1 rfl (by decide) ?_
  refine aw_call (q := 7) (kc1 := 0) (ks1 := 0) (wc := []) (wr := [(m, .inr (9, [.ref Mo, .ref Lo, .ref Do, .ref tl, .ref ca, .int th])), (Mo, .inl (4, 3, .inr (.inr (.inr (.inr mm))))), (q, .inl (0, 6144, .inl f)), (tl, .inl (0, 6, .inl t))]) (st1 := fun x4 g4 => [.int x4, .ref m]) (ws1 := fun x4 g4 => [(m, .inr (9, [.ref Mo, .ref Lo, .ref Do, .ref tl, .ref ca, .int th])), (Mo, .inl (4, 3, .inr (.inr (.inr (.inr mm))))), (q, .inl (0, 6144, .inl f)), (tl, .inl (0, 6, .inl t))]) (As := [.int p0, .int (0 : Int32), .int (2 : Int32)]) [] [0, 1, 2, 3] (fun _ => runS gdX7_clear_0.2.2.2.2.1 mi_X7_isNo st_X7_isNo ml_X7_31 (by omega) rfl (Nat.le_of_ble_eq_true rfl) rfl) (fun x9 h9 => ok_X7_isNo h9) rfl rfl rfl rfl rfl (by decide +kernel) (by omega) (by omega) (fun _ _ => rfl) (fun _ _ => rfl) (fun x4 g4 => ?_)
  refine aw_iconst (q := 8) (v := 0) gdX7_clear_0.2.2.2.2.2.1 rfl (by decide) ?_
  refine aw_call (q := 11) (kc1 := 0) (ks1 := 0) (wc := [(m, .inr (9, [.ref Mo, .ref Lo, .ref Do, .ref tl, .ref ca, .int th]))]) (wr := [(Mo, .inl (4, 3, .inr (.inr (.inr (.inr mm))))), (q, .inl (0, 6144, .inl f)), (tl, .inl (0, 6, .inl t))]) (st1 := fun x8 g8 => [.int x8.1]) (ws1 := fun x8 g8 => [(Mo, .inl (4, 3, .inr (.inr (.inr (.inr mm))))), (q, .inl (0, 6144, .inl f)), (tl, .inl (0, 6, .inl t)), (m, .inr (9, [.ref Mo, .ref Lo, .ref Do, .ref tl, .ref ca, .int x8.2]))]) (As := [.ref m, .int x4, .int (0 : Int32)]) [0] [1, 2, 3] (fun _ => runV (q0 := 0) gdX7_clear_0.2.2.2.2.2.2.1 mi_X7_isThrown im_X7_isThrown se_X7_isThrown ml_X7_110 (by omega) rfl (Nat.le_of_ble_eq_true rfl) rfl rfl rfl rfl) (fun x9 h9 => ok_X7_isThrown h9) rfl rfl rfl rfl rfl (by decide +kernel) (by omega) (by omega) (fun _ _ => rfl) (fun _ _ => rfl) (fun x8 g8 => ?_)
  refine aw_if_eq (tgt := 16) (q := 14) gdX7_clear_0.2.2.2.2.2.2.2 (by decide) rfl (fun h_11 => ?_) (fun h_11 => ?_)
  · refine aw_aload_n (q := 17) gdX7_clear_14.2.2.1 rfl 0 rfl ?_
    refine aw_iload_n (q := 18) gdX7_clear_14.2.2.2.1 rfl 1 rfl ?_
    refine aw_iconst (q := 19) (v := 0) gdX7_clear_14.2.2.2.2.1 rfl (by decide) ?_
    refine aw_call (q := 22) (kc1 := 0) (ks1 := 0) (wc := [(m, .inr (9, [.ref Mo, .ref Lo, .ref Do, .ref tl, .ref ca, .int x8.2])), (Mo, .inl (4, 3, .inr (.inr (.inr (.inr mm))))), (q, .inl (0, 6144, .inl f))]) (wr := [(tl, .inl (0, 6, .inl t))]) (st1 := fun x19 g19 => [.int x19]) (ws1 := fun x19 g19 => [(tl, .inl (0, 6, .inl t)), (m, .inr (9, [.ref Mo, .ref Lo, .ref Do, .ref tl, .ref ca, .int x8.2])), (Mo, .inl (4, 3, .inr (.inr (.inr (.inr mm))))), (q, .inl (0, 6144, .inl f))]) (As := [.ref m, .int p0, .int (0 : Int32)]) [3, 0, 1] [2] (fun _ => runV (q0 := 3) gdX7_clear_14.2.2.2.2.2.1 mi_X7_told_ im_X7_told_ se_X7_told_ ml_X7_153 (by omega) rfl (Nat.le_of_ble_eq_true rfl) rfl rfl rfl rfl) (fun x9 h9 => ok_X7_told2 hm h9) rfl rfl rfl rfl rfl (by decide +kernel) (by omega) (by omega) (fun _ _ => rfl) (fun _ _ => rfl) (fun x19 g19 => ?_)
    refine aw_istore_n (q := 23) (lv' := [(2, .int x19), (0, .ref m), (1, .int p0)]) gdX7_clear_14.2.2.2.2.2.2.1 rfl (by decide) rfl ?_
    refine aw_iconst (q := 24) (v := 0) gdX7_clear_14.2.2.2.2.2.2.2 rfl (by decide) ?_
    refine aw_istore_n (q := 25) (lv' := [(3, .int (0 : Int32)), (2, .int x19), (0, .ref m), (1, .int p0)]) gdX7_clear_24.1 rfl (by decide) rfl ?_
    refine aw_locals (lv' := [(0, .ref m), (1, .int p0), (2, .int x19), (3, .int (0 : Int32))]) [2, 3, 1, 0] rfl ?_
    refine aw_world (ws' := [(m, .inr (9, [.ref Mo, .ref Lo, .ref Do, .ref tl, .ref ca, .int x8.2])), (Mo, .inl (4, 3, .inr (.inr (.inr (.inr mm))))), (q, .inl (0, 6144, .inl f)), (tl, .inl (0, 6, .inl t))]) [1, 2, 3, 0] rfl rfl ?_
    exact tX7_clear_25 hm N _ _ _ _ _
  · refine aw_iconst (q := 15) (v := 0) gdX7_clear_14.1 rfl (by decide) ?_
    exact aw_ireturn (w := [(m, .inr (9, [.ref Mo, .ref Lo, .ref Do, .ref tl, .ref ca, .int x8.2])), (Mo, .inl (4, 3, .inr (.inr (.inr (.inr mm))))), (q, .inl (0, 6144, .inl f)), (tl, .inl (0, 6, .inl t))]) [3, 0, 1, 2] gdX7_clear_14.2.1 rfl rfl rfl rfl (PN.mk (fun _ => 0) rfl rfl)
def fX7_copy_35 (N K : Nat) (th : Int32) (f : Nat → Int32) (f2 : Nat → Int32) (t : Nat → Int32) (p0 : Int32) (p1 : Int32) : Nat → Int32 → Int32 → (Nat → Int32) → (Nat → Int32) → Option (Int32 × Int32 × (Nat → Int32) × (Nat → Int32))
  | 0, _, _, _, _ => none
  | fu + 1, l3, th_, f2_, t_ =>
    (if (6144 : Int32) ≤ l3 then ((fX7_told2 N K th_ f2_ p1 (0 : Int32)).bind (fun x68 => ((fX7_done N K th_ t_ x68).bind (fun x71 => (some (x71.1, th_, f2_, x71.2)))))) else (if p1 < 0 ∨ 3 ≤ p1.toNatClampNeg then none else (if p0 < 0 ∨ 3 ≤ p0.toNatClampNeg then none else (if l3 < 0 ∨ 6144 ≤ l3.toNatClampNeg then none else (if l3 < 0 ∨ 6144 ≤ l3.toNatClampNeg then none else fX7_copy_35 N K th f f2 t p0 p1  fu (l3 + (1 : Int32)) th_ (upd f2_ l3.toNatClampNeg (f l3.toNatClampNeg)) t_)))))
set_option maxHeartbeats 4000000 in
set_option maxRecDepth 100000 in
theorem tX7_copy_35 {N K : Nat} {m Mo Lo Do tl ca q q2 : Nat} {mm : Nat → Option Nat} {th : Int32} {f : Nat → Int32} {f2 : Nat → Int32} {t : Nat → Int32} {p0 : Int32} {p1 : Int32} (hm : ¬ (p0 < 0 ∨ 3 ≤ p0.toNatClampNeg) → mm p0.toNatClampNeg = some q) (hm2 : ¬ (p1 < 0 ∨ 3 ≤ p1.toNatClampNeg) → mm p1.toNatClampNeg = some q2) : ∀ (fu : Nat) (l3 : Int32) (th_ : Int32) (f2_ : Nat → Int32) (t_ : Nat → Int32), AW RX7 "copy" cX7_copy 4 (some .int) [] (fun _ _ => True) (2) (PN (U := Int32 × Int32 × (Nat → Int32) × (Nat → Int32)) (fun zz _ => some (.int zz.1)) (fun zz ad => [(m, .inr (9, [.ref Mo, .ref Lo, .ref Do, .ref tl, .ref ca, .int zz.2.1])), (Mo, .inl (4, 3, .inr (.inr (.inr (.inr mm))))), (q, .inl (0, 6144, .inl f)), (q2, .inl (0, 6144, .inl zz.2.2.1)), (tl, .inl (0, 6, .inl zz.2.2.2))])) 0 0 (fX7_copy_35 N K th f f2 t p0 p1  fu l3 th_ f2_ t_) 35 [(0, .ref m), (1, .int p0), (2, .int p1), (3, .int l3)] [] [(m, .inr (9, [.ref Mo, .ref Lo, .ref Do, .ref tl, .ref ca, .int th_])), (Mo, .inl (4, 3, .inr (.inr (.inr (.inr mm))))), (q, .inl (0, 6144, .inl f)), (q2, .inl (0, 6144, .inl f2_)), (tl, .inl (0, 6, .inl t_))] := by
  intro fu
  induction fu with
  | zero => intro l3 th_ f2_ t_; exact aw_none
  | succ fu ih =>
    intro l3 th_ f2_ t_
    refine aw_iload_n (q := 36) gdX7_copy_28.2.2.2.2.2.1 rfl 3 rfl ?_
    refine aw_sipush (q := 39) (v := 6144) gdX7_copy_28.2.2.2.2.2.2.1 rfl (by decide) ?_
    refine aw_icmp_ge (tgt := 64) (q := 42) gdX7_copy_28.2.2.2.2.2.2.2 (by decide) rfl (fun h_39 => ?_) (fun h_39 => ?_)
    · refine aw_aload_n (q := 65) gdX7_copy_54.2.2.2.2.2.2.1 rfl 0 rfl ?_
      refine aw_aload_n (q := 66) gdX7_copy_54.2.2.2.2.2.2.2 rfl 0 rfl ?_
      refine aw_iload_n (q := 67) gdX7_copy_66.1 rfl 2 rfl ?_
      refine aw_iconst (q := 68) (v := 0) gdX7_copy_66.2.1 rfl (by decide) ?_
      refine aw_call (q := 71) (kc1 := 0) (ks1 := 0) (wc := [(m, .inr (9, [.ref Mo, .ref Lo, .ref Do, .ref tl, .ref ca, .int th_])), (Mo, .inl (4, 3, .inr (.inr (.inr (.inr mm))))), (q2, .inl (0, 6144, .inl f2_))]) (wr := [(q, .inl (0, 6144, .inl f)), (tl, .inl (0, 6, .inl t_))]) (st1 := fun x68 g68 => [.int x68, .ref m]) (ws1 := fun x68 g68 => [(q, .inl (0, 6144, .inl f)), (tl, .inl (0, 6, .inl t_)), (m, .inr (9, [.ref Mo, .ref Lo, .ref Do, .ref tl, .ref ca, .int th_])), (Mo, .inl (4, 3, .inr (.inr (.inr (.inr mm))))), (q2, .inl (0, 6144, .inl f2_))]) (As := [.ref m, .int p1, .int (0 : Int32)]) [0, 1, 3] [2, 4] (fun _ => runV (q0 := 0) gdX7_copy_66.2.2.1 mi_X7_told_ im_X7_told_ se_X7_told_ ml_X7_153 (by omega) rfl (Nat.le_of_ble_eq_true rfl) rfl rfl rfl rfl) (fun x9 h9 => ok_X7_told2 hm2 h9) rfl rfl rfl rfl rfl (by decide +kernel) (by omega) (by omega) (fun _ _ => rfl) (fun _ _ => rfl) (fun x68 g68 => ?_)
      refine aw_call (q := 74) (kc1 := 0) (ks1 := 0) (wc := [(m, .inr (9, [.ref Mo, .ref Lo, .ref Do, .ref tl, .ref ca, .int th_])), (tl, .inl (0, 6, .inl t_))]) (wr := [(q, .inl (0, 6144, .inl f)), (Mo, .inl (4, 3, .inr (.inr (.inr (.inr mm))))), (q2, .inl (0, 6144, .inl f2_))]) (st1 := fun x71 g71 => [.int x71.1]) (ws1 := fun x71 g71 => [(q, .inl (0, 6144, .inl f)), (Mo, .inl (4, 3, .inr (.inr (.inr (.inr mm))))), (q2, .inl (0, 6144, .inl f2_)), (m, .inr (9, [.ref Mo, .ref Lo, .ref Do, .ref tl, .ref ca, .int th_])), (tl, .inl (0, 6, .inl x71.2))]) (As := [.ref m, .int x68]) [2, 1] [0, 3, 4] (fun _ => runV (q0 := 2) gdX7_copy_66.2.2.2.1 mi_X7_done im_X7_done se_X7_done ml_X7_117 (by omega) rfl (Nat.le_of_ble_eq_true rfl) rfl rfl rfl rfl) (fun x9 h9 => ok_X7_done h9) rfl rfl rfl rfl rfl (by decide +kernel) (by omega) (by omega) (fun _ _ => rfl) (fun _ _ => rfl) (fun x71 g71 => ?_)
      exact aw_ireturn (w := [(m, .inr (9, [.ref Mo, .ref Lo, .ref Do, .ref tl, .ref ca, .int th_])), (Mo, .inl (4, 3, .inr (.inr (.inr (.inr mm))))), (q, .inl (0, 6144, .inl f)), (q2, .inl (0, 6144, .inl f2_)), (tl, .inl (0, 6, .inl x71.2))]) [3, 1, 0, 2, 4] gdX7_copy_66.2.2.2.2 rfl rfl rfl rfl (PN.mk (fun _ => 0) rfl rfl)
    · refine aw_aload_n (q := 43) gdX7_copy_42.1 rfl 0 rfl ?_
      refine aw_get (q := 46) gdX7_copy_42.2.1 rfl fl_X7_11 0 rfl rfl ?_
      refine aw_iload_n (q := 47) gdX7_copy_42.2.2.1 rfl 2 rfl ?_
      refine aw_aald (q := 48) gdX7_copy_42.2.2.2.1 rfl 1 rfl (by decide) rfl hm2 ?_
      refine aw_iload_n (q := 49) gdX7_copy_42.2.2.2.2.1 rfl 3 rfl ?_
      refine aw_aload_n (q := 50) gdX7_copy_42.2.2.2.2.2.1 rfl 0 rfl ?_
      refine aw_get (q := 53) gdX7_copy_42.2.2.2.2.2.2.1 rfl fl_X7_11 0 rfl rfl ?_
      refine aw_iload_n (q := 54) gdX7_copy_42.2.2.2.2.2.2.2 rfl 1 rfl ?_
      refine aw_aald (q := 55) gdX7_copy_54.1 rfl 1 rfl (by decide) rfl hm ?_
      refine aw_iload_n (q := 56) gdX7_copy_54.2.1 rfl 3 rfl ?_
      refine aw_iald (q := 57) gdX7_copy_54.2.2.1 rfl 2 rfl ?_
      refine aw_iast (q := 58) (ws' := [(m, .inr (9, [.ref Mo, .ref Lo, .ref Do, .ref tl, .ref ca, .int th_])), (Mo, .inl (4, 3, .inr (.inr (.inr (.inr mm))))), (q, .inl (0, 6144, .inl f)), (q2, .inl (0, 6144, .inl (upd f2_ l3.toNatClampNeg (f l3.toNatClampNeg)))), (tl, .inl (0, 6, .inl t_))]) gdX7_copy_54.2.2.2.1 rfl 3 rfl rfl ?_
      refine aw_iinc (q := 61) (v := (l3 + (1 : Int32))) (lv' := [(3, .int (l3 + (1 : Int32))), (0, .ref m), (1, .int p0), (2, .int p1)]) gdX7_copy_54.2.2.2.2.1 rfl 3 rfl rfl (by decide) rfl ?_
      refine aw_goto (tgt := 35) gdX7_copy_54.2.2.2.2.2.1 (by decide) ?_
      refine aw_locals (lv' := [(0, .ref m), (1, .int p0), (2, .int p1), (3, .int (l3 + (1 : Int32)))]) [1, 2, 3, 0] rfl ?_
      exact ih _ _ _ _
def fX7_copy_24 (N K : Nat) (th : Int32) (f : Nat → Int32) (f2 : Nat → Int32) (t : Nat → Int32) (p0 : Int32) (p1 : Int32) (s0 : Int32) (th_ : Int32) (f2_ : Nat → Int32) (t_ : Nat → Int32) : Option (Int32 × Int32 × (Nat → Int32) × (Nat → Int32)) :=
  ((fX7_isThrown N K th_ s0 (0 : Int32)).bind (fun x25 => (if x25.1 = 0 then fX7_copy_35 N K th f f2 t p0 p1  N (0 : Int32) x25.2 f2_ t_ else (some ((0 : Int32), x25.2, f2_, t_)))))
set_option maxHeartbeats 4000000 in
set_option maxRecDepth 100000 in
theorem tX7_copy_24 {N K : Nat} {m Mo Lo Do tl ca q q2 : Nat} {mm : Nat → Option Nat} {th : Int32} {f : Nat → Int32} {f2 : Nat → Int32} {t : Nat → Int32} {p0 : Int32} {p1 : Int32} (hm : ¬ (p0 < 0 ∨ 3 ≤ p0.toNatClampNeg) → mm p0.toNatClampNeg = some q) (hm2 : ¬ (p1 < 0 ∨ 3 ≤ p1.toNatClampNeg) → mm p1.toNatClampNeg = some q2) : ∀ (s0 : Int32) (th_ : Int32) (f2_ : Nat → Int32) (t_ : Nat → Int32), AW RX7 "copy" cX7_copy 4 (some .int) [] (fun _ _ => True) (2) (PN (U := Int32 × Int32 × (Nat → Int32) × (Nat → Int32)) (fun zz _ => some (.int zz.1)) (fun zz ad => [(m, .inr (9, [.ref Mo, .ref Lo, .ref Do, .ref tl, .ref ca, .int zz.2.1])), (Mo, .inl (4, 3, .inr (.inr (.inr (.inr mm))))), (q, .inl (0, 6144, .inl f)), (q2, .inl (0, 6144, .inl zz.2.2.1)), (tl, .inl (0, 6, .inl zz.2.2.2))])) 0 0 (fX7_copy_24 N K th f f2 t p0 p1  s0 th_ f2_ t_) 24 [(0, .ref m), (1, .int p0), (2, .int p1)] [.int s0, .ref m] [(m, .inr (9, [.ref Mo, .ref Lo, .ref Do, .ref tl, .ref ca, .int th_])), (Mo, .inl (4, 3, .inr (.inr (.inr (.inr mm))))), (q, .inl (0, 6144, .inl f)), (q2, .inl (0, 6144, .inl f2_)), (tl, .inl (0, 6, .inl t_))] := by
  intro s0 th_ f2_ t_
  refine aw_iconst (q := 25) (v := 0) gdX7_copy_12.2.2.2.2.2.2.1 rfl (by decide) ?_
  refine aw_call (q := 28) (kc1 := 0) (ks1 := 0) (wc := [(m, .inr (9, [.ref Mo, .ref Lo, .ref Do, .ref tl, .ref ca, .int th_]))]) (wr := [(Mo, .inl (4, 3, .inr (.inr (.inr (.inr mm))))), (q, .inl (0, 6144, .inl f)), (q2, .inl (0, 6144, .inl f2_)), (tl, .inl (0, 6, .inl t_))]) (st1 := fun x25 g25 => [.int x25.1]) (ws1 := fun x25 g25 => [(Mo, .inl (4, 3, .inr (.inr (.inr (.inr mm))))), (q, .inl (0, 6144, .inl f)), (q2, .inl (0, 6144, .inl f2_)), (tl, .inl (0, 6, .inl t_)), (m, .inr (9, [.ref Mo, .ref Lo, .ref Do, .ref tl, .ref ca, .int x25.2]))]) (As := [.ref m, .int s0, .int (0 : Int32)]) [0] [1, 2, 3, 4] (fun _ => runV (q0 := 0) gdX7_copy_12.2.2.2.2.2.2.2 mi_X7_isThrown im_X7_isThrown se_X7_isThrown ml_X7_110 (by omega) rfl (Nat.le_of_ble_eq_true rfl) rfl rfl rfl rfl) (fun x9 h9 => ok_X7_isThrown h9) rfl rfl rfl rfl rfl (by decide +kernel) (by omega) (by omega) (fun _ _ => rfl) (fun _ _ => rfl) (fun x25 g25 => ?_)
  refine aw_if_eq (tgt := 33) (q := 31) gdX7_copy_28.1 (by decide) rfl (fun h_28 => ?_) (fun h_28 => ?_)
  · refine aw_iconst (q := 34) (v := 0) gdX7_copy_28.2.2.2.1 rfl (by decide) ?_
    refine aw_istore_n (q := 35) (lv' := [(3, .int (0 : Int32)), (0, .ref m), (1, .int p0), (2, .int p1)]) gdX7_copy_28.2.2.2.2.1 rfl (by decide) rfl ?_
    refine aw_locals (lv' := [(0, .ref m), (1, .int p0), (2, .int p1), (3, .int (0 : Int32))]) [1, 2, 3, 0] rfl ?_
    refine aw_world (ws' := [(m, .inr (9, [.ref Mo, .ref Lo, .ref Do, .ref tl, .ref ca, .int x25.2])), (Mo, .inl (4, 3, .inr (.inr (.inr (.inr mm))))), (q, .inl (0, 6144, .inl f)), (q2, .inl (0, 6144, .inl f2_)), (tl, .inl (0, 6, .inl t_))]) [4, 0, 1, 2, 3] rfl rfl ?_
    exact tX7_copy_35 hm hm2 N _ _ _ _
  · refine aw_iconst (q := 32) (v := 0) gdX7_copy_28.2.1 rfl (by decide) ?_
    exact aw_ireturn (w := [(m, .inr (9, [.ref Mo, .ref Lo, .ref Do, .ref tl, .ref ca, .int x25.2])), (Mo, .inl (4, 3, .inr (.inr (.inr (.inr mm))))), (q, .inl (0, 6144, .inl f)), (q2, .inl (0, 6144, .inl f2_)), (tl, .inl (0, 6, .inl t_))]) [4, 0, 1, 2, 3] gdX7_copy_28.2.2.1 rfl rfl rfl rfl (PN.mk (fun _ => 0) rfl rfl)
def fX7_copy_19 (N K : Nat) (th : Int32) (f : Nat → Int32) (f2 : Nat → Int32) (t : Nat → Int32) (p0 : Int32) (p1 : Int32) (th_ : Int32) (f2_ : Nat → Int32) (t_ : Nat → Int32) : Option (Int32 × Int32 × (Nat → Int32) × (Nat → Int32)) :=
  fX7_copy_24 N K th f f2 t p0 p1  (1 : Int32) th_ f2_ t_
set_option maxHeartbeats 4000000 in
set_option maxRecDepth 100000 in
theorem tX7_copy_19 {N K : Nat} {m Mo Lo Do tl ca q q2 : Nat} {mm : Nat → Option Nat} {th : Int32} {f : Nat → Int32} {f2 : Nat → Int32} {t : Nat → Int32} {p0 : Int32} {p1 : Int32} (hm : ¬ (p0 < 0 ∨ 3 ≤ p0.toNatClampNeg) → mm p0.toNatClampNeg = some q) (hm2 : ¬ (p1 < 0 ∨ 3 ≤ p1.toNatClampNeg) → mm p1.toNatClampNeg = some q2) : ∀ (th_ : Int32) (f2_ : Nat → Int32) (t_ : Nat → Int32), AW RX7 "copy" cX7_copy 4 (some .int) [] (fun _ _ => True) (2) (PN (U := Int32 × Int32 × (Nat → Int32) × (Nat → Int32)) (fun zz _ => some (.int zz.1)) (fun zz ad => [(m, .inr (9, [.ref Mo, .ref Lo, .ref Do, .ref tl, .ref ca, .int zz.2.1])), (Mo, .inl (4, 3, .inr (.inr (.inr (.inr mm))))), (q, .inl (0, 6144, .inl f)), (q2, .inl (0, 6144, .inl zz.2.2.1)), (tl, .inl (0, 6, .inl zz.2.2.2))])) 0 0 (fX7_copy_19 N K th f f2 t p0 p1  th_ f2_ t_) 19 [(0, .ref m), (1, .int p0), (2, .int p1)] [.ref m] [(m, .inr (9, [.ref Mo, .ref Lo, .ref Do, .ref tl, .ref ca, .int th_])), (Mo, .inl (4, 3, .inr (.inr (.inr (.inr mm))))), (q, .inl (0, 6144, .inl f)), (q2, .inl (0, 6144, .inl f2_)), (tl, .inl (0, 6, .inl t_))] := by
  intro th_ f2_ t_
  refine aw_iconst (q := 20) (v := 1) gdX7_copy_12.2.2.2.1 rfl (by decide) ?_
  refine aw_goto (tgt := 24) gdX7_copy_12.2.2.2.2.1 (by decide) ?_
  exact tX7_copy_24 hm hm2 _ _ _ _
def fX7_copy (N K : Nat) (th : Int32) (f : Nat → Int32) (f2 : Nat → Int32) (t : Nat → Int32) (p0 : Int32) (p1 : Int32) : Option (Int32 × Int32 × (Nat → Int32) × (Nat → Int32)) :=
  ((fX7_isNo N K p0 (0 : Int32) (2 : Int32)).bind (fun x4 => (if x4 = 0 then ((fX7_isNo N K p1 (0 : Int32) (2 : Int32)).bind (fun x13 => (if x13 = 0 then fX7_copy_24 N K th f f2 t p0 p1  (0 : Int32) th f2 t else fX7_copy_19 N K th f f2 t p0 p1  th f2 t))) else fX7_copy_19 N K th f f2 t p0 p1  th f2 t)))
set_option maxHeartbeats 4000000 in
set_option maxRecDepth 100000 in
theorem ok_X7_copy {N K : Nat} {m Mo Lo Do tl ca q q2 : Nat} {mm : Nat → Option Nat} {th : Int32} {f : Nat → Int32} {f2 : Nat → Int32} {t : Nat → Int32} {p0 : Int32} {p1 : Int32} (hm : ¬ (p0 < 0 ∨ 3 ≤ p0.toNatClampNeg) → mm p0.toNatClampNeg = some q) (hm2 : ¬ (p1 < 0 ∨ 3 ≤ p1.toNatClampNeg) → mm p1.toNatClampNeg = some q2) {xr : Int32 × Int32 × (Nat → Int32) × (Nat → Int32)} (hE : fX7_copy N K th f f2 t p0 p1 = some xr) : OkM yX7_copy (.code yX7_copy cX7_copy 4 (some .int)) (2) 0 0 [.ref m, .int p0, .int p1] [(m, .inr (9, [.ref Mo, .ref Lo, .ref Do, .ref tl, .ref ca, .int th])), (Mo, .inl (4, 3, .inr (.inr (.inr (.inr mm))))), (q, .inl (0, 6144, .inl f)), (q2, .inl (0, 6144, .inl f2)), (tl, .inl (0, 6, .inl t))] ((PN (U := Int32 × Int32 × (Nat → Int32) × (Nat → Int32)) (fun zz _ => some (.int zz.1)) (fun zz ad => [(m, .inr (9, [.ref Mo, .ref Lo, .ref Do, .ref tl, .ref ca, .int zz.2.1])), (Mo, .inl (4, 3, .inr (.inr (.inr (.inr mm))))), (q, .inl (0, 6144, .inl f)), (q2, .inl (0, 6144, .inl zz.2.2.1)), (tl, .inl (0, 6, .inl zz.2.2.2))])) xr) := by
  refine ok_of (by decide) (Nat.le_of_ble_eq_true rfl) hE ?_
  refine aw_locals (lv' := [(0, .ref m), (1, .int p0), (2, .int p1)]) [0, 1, 2] rfl ?_
  refine aw_aload_n (q := 1) gdX7_copy_0.1 rfl 0 rfl ?_
  refine aw_iload_n (q := 2) gdX7_copy_0.2.1 rfl 1 rfl ?_
  refine aw_iconst (q := 3) (v := 0) gdX7_copy_0.2.2.1 rfl (by decide) ?_
  refine aw_iconst (q := 4) (v := 2) gdX7_copy_0.2.2.2.1 rfl (by decide) ?_
  refine aw_call (q := 7) (kc1 := 0) (ks1 := 0) (wc := []) (wr := [(m, .inr (9, [.ref Mo, .ref Lo, .ref Do, .ref tl, .ref ca, .int th])), (Mo, .inl (4, 3, .inr (.inr (.inr (.inr mm))))), (q, .inl (0, 6144, .inl f)), (q2, .inl (0, 6144, .inl f2)), (tl, .inl (0, 6, .inl t))]) (st1 := fun x4 g4 => [.int x4, .ref m]) (ws1 := fun x4 g4 => [(m, .inr (9, [.ref Mo, .ref Lo, .ref Do, .ref tl, .ref ca, .int th])), (Mo, .inl (4, 3, .inr (.inr (.inr (.inr mm))))), (q, .inl (0, 6144, .inl f)), (q2, .inl (0, 6144, .inl f2)), (tl, .inl (0, 6, .inl t))]) (As := [.int p0, .int (0 : Int32), .int (2 : Int32)]) [] [0, 1, 2, 3, 4] (fun _ => runS gdX7_copy_0.2.2.2.2.1 mi_X7_isNo st_X7_isNo ml_X7_31 (by omega) rfl (Nat.le_of_ble_eq_true rfl) rfl) (fun x9 h9 => ok_X7_isNo h9) rfl rfl rfl rfl rfl (by decide +kernel) (by omega) (by omega) (fun _ _ => rfl) (fun _ _ => rfl) (fun x4 g4 => ?_)
  refine aw_if_ne (tgt := 19) (q := 10) gdX7_copy_0.2.2.2.2.2.1 (by decide) rfl (fun h_7 => ?_) (fun h_7 => ?_)
  · exact tX7_copy_19 hm hm2 _ _ _
  · refine aw_iload_n (q := 11) gdX7_copy_0.2.2.2.2.2.2.1 rfl 2 rfl ?_
    refine aw_iconst (q := 12) (v := 0) gdX7_copy_0.2.2.2.2.2.2.2 rfl (by decide) ?_
    refine aw_iconst (q := 13) (v := 2) gdX7_copy_12.1 rfl (by decide) ?_
    refine aw_call (q := 16) (kc1 := 0) (ks1 := 0) (wc := []) (wr := [(m, .inr (9, [.ref Mo, .ref Lo, .ref Do, .ref tl, .ref ca, .int th])), (Mo, .inl (4, 3, .inr (.inr (.inr (.inr mm))))), (q, .inl (0, 6144, .inl f)), (q2, .inl (0, 6144, .inl f2)), (tl, .inl (0, 6, .inl t))]) (st1 := fun x13 g13 => [.int x13, .ref m]) (ws1 := fun x13 g13 => [(m, .inr (9, [.ref Mo, .ref Lo, .ref Do, .ref tl, .ref ca, .int th])), (Mo, .inl (4, 3, .inr (.inr (.inr (.inr mm))))), (q, .inl (0, 6144, .inl f)), (q2, .inl (0, 6144, .inl f2)), (tl, .inl (0, 6, .inl t))]) (As := [.int p1, .int (0 : Int32), .int (2 : Int32)]) [] [0, 1, 2, 3, 4] (fun _ => runS gdX7_copy_12.2.1 mi_X7_isNo st_X7_isNo ml_X7_31 (by omega) rfl (Nat.le_of_ble_eq_true rfl) rfl) (fun x9 h9 => ok_X7_isNo h9) rfl rfl rfl rfl rfl (by decide +kernel) (by omega) (by omega) (fun _ _ => rfl) (fun _ _ => rfl) (fun x13 g13 => ?_)
    refine aw_if_eq (tgt := 23) (q := 19) gdX7_copy_12.2.2.1 (by decide) rfl (fun h_16 => ?_) (fun h_16 => ?_)
    · refine aw_iconst (q := 24) (v := 0) gdX7_copy_12.2.2.2.2.2.1 rfl (by decide) ?_
      exact tX7_copy_24 hm hm2 _ _ _ _
    · exact tX7_copy_19 hm hm2 _ _ _
def fX7_copyOwn_35 (N K : Nat) (th : Int32) (f : Nat → Int32) (t : Nat → Int32) (p0 : Int32) : Nat → Int32 → Int32 → (Nat → Int32) → (Nat → Int32) → Option (Int32 × Int32 × (Nat → Int32) × (Nat → Int32))
  | 0, _, _, _, _ => none
  | fu + 1, l3, th_, f_, t_ =>
    (if (6144 : Int32) ≤ l3 then ((fX7_told2 N K th_ f_ p0 (0 : Int32)).bind (fun x68 => ((fX7_done N K th_ t_ x68).bind (fun x71 => (some (x71.1, th_, f_, x71.2)))))) else (if p0 < 0 ∨ 3 ≤ p0.toNatClampNeg then none else (if p0 < 0 ∨ 3 ≤ p0.toNatClampNeg then none else (if l3 < 0 ∨ 6144 ≤ l3.toNatClampNeg then none else (if l3 < 0 ∨ 6144 ≤ l3.toNatClampNeg then none else fX7_copyOwn_35 N K th f t p0  fu (l3 + (1 : Int32)) th_ (upd f_ l3.toNatClampNeg (f_ l3.toNatClampNeg)) t_)))))
set_option maxHeartbeats 4000000 in
set_option maxRecDepth 100000 in
theorem tX7_copyOwn_35 {N K : Nat} {m Mo Lo Do tl ca q : Nat} {mm : Nat → Option Nat} {th : Int32} {f : Nat → Int32} {t : Nat → Int32} {p0 : Int32} (hm : ¬ (p0 < 0 ∨ 3 ≤ p0.toNatClampNeg) → mm p0.toNatClampNeg = some q) : ∀ (fu : Nat) (l3 : Int32) (th_ : Int32) (f_ : Nat → Int32) (t_ : Nat → Int32), AW RX7 "copy" cX7_copy 4 (some .int) [] (fun _ _ => True) (2) (PN (U := Int32 × Int32 × (Nat → Int32) × (Nat → Int32)) (fun zz _ => some (.int zz.1)) (fun zz ad => [(m, .inr (9, [.ref Mo, .ref Lo, .ref Do, .ref tl, .ref ca, .int zz.2.1])), (Mo, .inl (4, 3, .inr (.inr (.inr (.inr mm))))), (q, .inl (0, 6144, .inl zz.2.2.1)), (tl, .inl (0, 6, .inl zz.2.2.2))])) 0 0 (fX7_copyOwn_35 N K th f t p0  fu l3 th_ f_ t_) 35 [(0, .ref m), (1, .int p0), (2, .int p0), (3, .int l3)] [] [(m, .inr (9, [.ref Mo, .ref Lo, .ref Do, .ref tl, .ref ca, .int th_])), (Mo, .inl (4, 3, .inr (.inr (.inr (.inr mm))))), (q, .inl (0, 6144, .inl f_)), (tl, .inl (0, 6, .inl t_))] := by
  intro fu
  induction fu with
  | zero => intro l3 th_ f_ t_; exact aw_none
  | succ fu ih =>
    intro l3 th_ f_ t_
    refine aw_iload_n (q := 36) gdX7_copy_28.2.2.2.2.2.1 rfl 3 rfl ?_
    refine aw_sipush (q := 39) (v := 6144) gdX7_copy_28.2.2.2.2.2.2.1 rfl (by decide) ?_
    refine aw_icmp_ge (tgt := 64) (q := 42) gdX7_copy_28.2.2.2.2.2.2.2 (by decide) rfl (fun h_39 => ?_) (fun h_39 => ?_)
    · refine aw_aload_n (q := 65) gdX7_copy_54.2.2.2.2.2.2.1 rfl 0 rfl ?_
      refine aw_aload_n (q := 66) gdX7_copy_54.2.2.2.2.2.2.2 rfl 0 rfl ?_
      refine aw_iload_n (q := 67) gdX7_copy_66.1 rfl 2 rfl ?_
      refine aw_iconst (q := 68) (v := 0) gdX7_copy_66.2.1 rfl (by decide) ?_
      refine aw_call (q := 71) (kc1 := 0) (ks1 := 0) (wc := [(m, .inr (9, [.ref Mo, .ref Lo, .ref Do, .ref tl, .ref ca, .int th_])), (Mo, .inl (4, 3, .inr (.inr (.inr (.inr mm))))), (q, .inl (0, 6144, .inl f_))]) (wr := [(tl, .inl (0, 6, .inl t_))]) (st1 := fun x68 g68 => [.int x68, .ref m]) (ws1 := fun x68 g68 => [(tl, .inl (0, 6, .inl t_)), (m, .inr (9, [.ref Mo, .ref Lo, .ref Do, .ref tl, .ref ca, .int th_])), (Mo, .inl (4, 3, .inr (.inr (.inr (.inr mm))))), (q, .inl (0, 6144, .inl f_))]) (As := [.ref m, .int p0, .int (0 : Int32)]) [0, 1, 2] [3] (fun _ => runV (q0 := 0) gdX7_copy_66.2.2.1 mi_X7_told_ im_X7_told_ se_X7_told_ ml_X7_153 (by omega) rfl (Nat.le_of_ble_eq_true rfl) rfl rfl rfl rfl) (fun x9 h9 => ok_X7_told2 hm h9) rfl rfl rfl rfl rfl (by decide +kernel) (by omega) (by omega) (fun _ _ => rfl) (fun _ _ => rfl) (fun x68 g68 => ?_)
      refine aw_call (q := 74) (kc1 := 0) (ks1 := 0) (wc := [(m, .inr (9, [.ref Mo, .ref Lo, .ref Do, .ref tl, .ref ca, .int th_])), (tl, .inl (0, 6, .inl t_))]) (wr := [(Mo, .inl (4, 3, .inr (.inr (.inr (.inr mm))))), (q, .inl (0, 6144, .inl f_))]) (st1 := fun x71 g71 => [.int x71.1]) (ws1 := fun x71 g71 => [(Mo, .inl (4, 3, .inr (.inr (.inr (.inr mm))))), (q, .inl (0, 6144, .inl f_)), (m, .inr (9, [.ref Mo, .ref Lo, .ref Do, .ref tl, .ref ca, .int th_])), (tl, .inl (0, 6, .inl x71.2))]) (As := [.ref m, .int x68]) [1, 0] [2, 3] (fun _ => runV (q0 := 1) gdX7_copy_66.2.2.2.1 mi_X7_done im_X7_done se_X7_done ml_X7_117 (by omega) rfl (Nat.le_of_ble_eq_true rfl) rfl rfl rfl rfl) (fun x9 h9 => ok_X7_done h9) rfl rfl rfl rfl rfl (by decide +kernel) (by omega) (by omega) (fun _ _ => rfl) (fun _ _ => rfl) (fun x71 g71 => ?_)
      exact aw_ireturn (w := [(m, .inr (9, [.ref Mo, .ref Lo, .ref Do, .ref tl, .ref ca, .int th_])), (Mo, .inl (4, 3, .inr (.inr (.inr (.inr mm))))), (q, .inl (0, 6144, .inl f_)), (tl, .inl (0, 6, .inl x71.2))]) [2, 0, 1, 3] gdX7_copy_66.2.2.2.2 rfl rfl rfl rfl (PN.mk (fun _ => 0) rfl rfl)
    · refine aw_aload_n (q := 43) gdX7_copy_42.1 rfl 0 rfl ?_
      refine aw_get (q := 46) gdX7_copy_42.2.1 rfl fl_X7_11 0 rfl rfl ?_
      refine aw_iload_n (q := 47) gdX7_copy_42.2.2.1 rfl 2 rfl ?_
      refine aw_aald (q := 48) gdX7_copy_42.2.2.2.1 rfl 1 rfl (by decide) rfl hm ?_
      refine aw_iload_n (q := 49) gdX7_copy_42.2.2.2.2.1 rfl 3 rfl ?_
      refine aw_aload_n (q := 50) gdX7_copy_42.2.2.2.2.2.1 rfl 0 rfl ?_
      refine aw_get (q := 53) gdX7_copy_42.2.2.2.2.2.2.1 rfl fl_X7_11 0 rfl rfl ?_
      refine aw_iload_n (q := 54) gdX7_copy_42.2.2.2.2.2.2.2 rfl 1 rfl ?_
      refine aw_aald (q := 55) gdX7_copy_54.1 rfl 1 rfl (by decide) rfl hm ?_
      refine aw_iload_n (q := 56) gdX7_copy_54.2.1 rfl 3 rfl ?_
      refine aw_iald (q := 57) gdX7_copy_54.2.2.1 rfl 2 rfl ?_
      refine aw_iast (q := 58) (ws' := [(m, .inr (9, [.ref Mo, .ref Lo, .ref Do, .ref tl, .ref ca, .int th_])), (Mo, .inl (4, 3, .inr (.inr (.inr (.inr mm))))), (q, .inl (0, 6144, .inl (upd f_ l3.toNatClampNeg (f_ l3.toNatClampNeg)))), (tl, .inl (0, 6, .inl t_))]) gdX7_copy_54.2.2.2.1 rfl 2 rfl rfl ?_
      refine aw_iinc (q := 61) (v := (l3 + (1 : Int32))) (lv' := [(3, .int (l3 + (1 : Int32))), (0, .ref m), (1, .int p0), (2, .int p0)]) gdX7_copy_54.2.2.2.2.1 rfl 3 rfl rfl (by decide) rfl ?_
      refine aw_goto (tgt := 35) gdX7_copy_54.2.2.2.2.2.1 (by decide) ?_
      refine aw_locals (lv' := [(0, .ref m), (1, .int p0), (2, .int p0), (3, .int (l3 + (1 : Int32)))]) [1, 2, 3, 0] rfl ?_
      exact ih _ _ _ _
def fX7_copyOwn_24 (N K : Nat) (th : Int32) (f : Nat → Int32) (t : Nat → Int32) (p0 : Int32) (s0 : Int32) (th_ : Int32) (f_ : Nat → Int32) (t_ : Nat → Int32) : Option (Int32 × Int32 × (Nat → Int32) × (Nat → Int32)) :=
  ((fX7_isThrown N K th_ s0 (0 : Int32)).bind (fun x25 => (if x25.1 = 0 then fX7_copyOwn_35 N K th f t p0  N (0 : Int32) x25.2 f_ t_ else (some ((0 : Int32), x25.2, f_, t_)))))
set_option maxHeartbeats 4000000 in
set_option maxRecDepth 100000 in
theorem tX7_copyOwn_24 {N K : Nat} {m Mo Lo Do tl ca q : Nat} {mm : Nat → Option Nat} {th : Int32} {f : Nat → Int32} {t : Nat → Int32} {p0 : Int32} (hm : ¬ (p0 < 0 ∨ 3 ≤ p0.toNatClampNeg) → mm p0.toNatClampNeg = some q) : ∀ (s0 : Int32) (th_ : Int32) (f_ : Nat → Int32) (t_ : Nat → Int32), AW RX7 "copy" cX7_copy 4 (some .int) [] (fun _ _ => True) (2) (PN (U := Int32 × Int32 × (Nat → Int32) × (Nat → Int32)) (fun zz _ => some (.int zz.1)) (fun zz ad => [(m, .inr (9, [.ref Mo, .ref Lo, .ref Do, .ref tl, .ref ca, .int zz.2.1])), (Mo, .inl (4, 3, .inr (.inr (.inr (.inr mm))))), (q, .inl (0, 6144, .inl zz.2.2.1)), (tl, .inl (0, 6, .inl zz.2.2.2))])) 0 0 (fX7_copyOwn_24 N K th f t p0  s0 th_ f_ t_) 24 [(0, .ref m), (1, .int p0), (2, .int p0)] [.int s0, .ref m] [(m, .inr (9, [.ref Mo, .ref Lo, .ref Do, .ref tl, .ref ca, .int th_])), (Mo, .inl (4, 3, .inr (.inr (.inr (.inr mm))))), (q, .inl (0, 6144, .inl f_)), (tl, .inl (0, 6, .inl t_))] := by
  intro s0 th_ f_ t_
  refine aw_iconst (q := 25) (v := 0) gdX7_copy_12.2.2.2.2.2.2.1 rfl (by decide) ?_
  refine aw_call (q := 28) (kc1 := 0) (ks1 := 0) (wc := [(m, .inr (9, [.ref Mo, .ref Lo, .ref Do, .ref tl, .ref ca, .int th_]))]) (wr := [(Mo, .inl (4, 3, .inr (.inr (.inr (.inr mm))))), (q, .inl (0, 6144, .inl f_)), (tl, .inl (0, 6, .inl t_))]) (st1 := fun x25 g25 => [.int x25.1]) (ws1 := fun x25 g25 => [(Mo, .inl (4, 3, .inr (.inr (.inr (.inr mm))))), (q, .inl (0, 6144, .inl f_)), (tl, .inl (0, 6, .inl t_)), (m, .inr (9, [.ref Mo, .ref Lo, .ref Do, .ref tl, .ref ca, .int x25.2]))]) (As := [.ref m, .int s0, .int (0 : Int32)]) [0] [1, 2, 3] (fun _ => runV (q0 := 0) gdX7_copy_12.2.2.2.2.2.2.2 mi_X7_isThrown im_X7_isThrown se_X7_isThrown ml_X7_110 (by omega) rfl (Nat.le_of_ble_eq_true rfl) rfl rfl rfl rfl) (fun x9 h9 => ok_X7_isThrown h9) rfl rfl rfl rfl rfl (by decide +kernel) (by omega) (by omega) (fun _ _ => rfl) (fun _ _ => rfl) (fun x25 g25 => ?_)
  refine aw_if_eq (tgt := 33) (q := 31) gdX7_copy_28.1 (by decide) rfl (fun h_28 => ?_) (fun h_28 => ?_)
  · refine aw_iconst (q := 34) (v := 0) gdX7_copy_28.2.2.2.1 rfl (by decide) ?_
    refine aw_istore_n (q := 35) (lv' := [(3, .int (0 : Int32)), (0, .ref m), (1, .int p0), (2, .int p0)]) gdX7_copy_28.2.2.2.2.1 rfl (by decide) rfl ?_
    refine aw_locals (lv' := [(0, .ref m), (1, .int p0), (2, .int p0), (3, .int (0 : Int32))]) [1, 2, 3, 0] rfl ?_
    refine aw_world (ws' := [(m, .inr (9, [.ref Mo, .ref Lo, .ref Do, .ref tl, .ref ca, .int x25.2])), (Mo, .inl (4, 3, .inr (.inr (.inr (.inr mm))))), (q, .inl (0, 6144, .inl f_)), (tl, .inl (0, 6, .inl t_))]) [3, 0, 1, 2] rfl rfl ?_
    exact tX7_copyOwn_35 hm N _ _ _ _
  · refine aw_iconst (q := 32) (v := 0) gdX7_copy_28.2.1 rfl (by decide) ?_
    exact aw_ireturn (w := [(m, .inr (9, [.ref Mo, .ref Lo, .ref Do, .ref tl, .ref ca, .int x25.2])), (Mo, .inl (4, 3, .inr (.inr (.inr (.inr mm))))), (q, .inl (0, 6144, .inl f_)), (tl, .inl (0, 6, .inl t_))]) [3, 0, 1, 2] gdX7_copy_28.2.2.1 rfl rfl rfl rfl (PN.mk (fun _ => 0) rfl rfl)
def fX7_copyOwn_19 (N K : Nat) (th : Int32) (f : Nat → Int32) (t : Nat → Int32) (p0 : Int32) (th_ : Int32) (f_ : Nat → Int32) (t_ : Nat → Int32) : Option (Int32 × Int32 × (Nat → Int32) × (Nat → Int32)) :=
  fX7_copyOwn_24 N K th f t p0  (1 : Int32) th_ f_ t_
set_option maxHeartbeats 4000000 in
set_option maxRecDepth 100000 in
theorem tX7_copyOwn_19 {N K : Nat} {m Mo Lo Do tl ca q : Nat} {mm : Nat → Option Nat} {th : Int32} {f : Nat → Int32} {t : Nat → Int32} {p0 : Int32} (hm : ¬ (p0 < 0 ∨ 3 ≤ p0.toNatClampNeg) → mm p0.toNatClampNeg = some q) : ∀ (th_ : Int32) (f_ : Nat → Int32) (t_ : Nat → Int32), AW RX7 "copy" cX7_copy 4 (some .int) [] (fun _ _ => True) (2) (PN (U := Int32 × Int32 × (Nat → Int32) × (Nat → Int32)) (fun zz _ => some (.int zz.1)) (fun zz ad => [(m, .inr (9, [.ref Mo, .ref Lo, .ref Do, .ref tl, .ref ca, .int zz.2.1])), (Mo, .inl (4, 3, .inr (.inr (.inr (.inr mm))))), (q, .inl (0, 6144, .inl zz.2.2.1)), (tl, .inl (0, 6, .inl zz.2.2.2))])) 0 0 (fX7_copyOwn_19 N K th f t p0  th_ f_ t_) 19 [(0, .ref m), (1, .int p0), (2, .int p0)] [.ref m] [(m, .inr (9, [.ref Mo, .ref Lo, .ref Do, .ref tl, .ref ca, .int th_])), (Mo, .inl (4, 3, .inr (.inr (.inr (.inr mm))))), (q, .inl (0, 6144, .inl f_)), (tl, .inl (0, 6, .inl t_))] := by
  intro th_ f_ t_
  refine aw_iconst (q := 20) (v := 1) gdX7_copy_12.2.2.2.1 rfl (by decide) ?_
  refine aw_goto (tgt := 24) gdX7_copy_12.2.2.2.2.1 (by decide) ?_
  exact tX7_copyOwn_24 hm _ _ _ _
def fX7_copyOwn (N K : Nat) (th : Int32) (f : Nat → Int32) (t : Nat → Int32) (p0 : Int32) : Option (Int32 × Int32 × (Nat → Int32) × (Nat → Int32)) :=
  ((fX7_isNo N K p0 (0 : Int32) (2 : Int32)).bind (fun x4 => (if x4 = 0 then ((fX7_isNo N K p0 (0 : Int32) (2 : Int32)).bind (fun x13 => (if x13 = 0 then fX7_copyOwn_24 N K th f t p0  (0 : Int32) th f t else fX7_copyOwn_19 N K th f t p0  th f t))) else fX7_copyOwn_19 N K th f t p0  th f t)))
set_option maxHeartbeats 4000000 in
set_option maxRecDepth 100000 in
theorem ok_X7_copyOwn {N K : Nat} {m Mo Lo Do tl ca q : Nat} {mm : Nat → Option Nat} {th : Int32} {f : Nat → Int32} {t : Nat → Int32} {p0 : Int32} (hm : ¬ (p0 < 0 ∨ 3 ≤ p0.toNatClampNeg) → mm p0.toNatClampNeg = some q) {xr : Int32 × Int32 × (Nat → Int32) × (Nat → Int32)} (hE : fX7_copyOwn N K th f t p0 = some xr) : OkM yX7_copy (.code yX7_copy cX7_copy 4 (some .int)) (2) 0 0 [.ref m, .int p0, .int p0] [(m, .inr (9, [.ref Mo, .ref Lo, .ref Do, .ref tl, .ref ca, .int th])), (Mo, .inl (4, 3, .inr (.inr (.inr (.inr mm))))), (q, .inl (0, 6144, .inl f)), (tl, .inl (0, 6, .inl t))] ((PN (U := Int32 × Int32 × (Nat → Int32) × (Nat → Int32)) (fun zz _ => some (.int zz.1)) (fun zz ad => [(m, .inr (9, [.ref Mo, .ref Lo, .ref Do, .ref tl, .ref ca, .int zz.2.1])), (Mo, .inl (4, 3, .inr (.inr (.inr (.inr mm))))), (q, .inl (0, 6144, .inl zz.2.2.1)), (tl, .inl (0, 6, .inl zz.2.2.2))])) xr) := by
  refine ok_of (by decide) (Nat.le_of_ble_eq_true rfl) hE ?_
  refine aw_locals (lv' := [(0, .ref m), (1, .int p0), (2, .int p0)]) [0, 1, 2] rfl ?_
  refine aw_aload_n (q := 1) gdX7_copy_0.1 rfl 0 rfl ?_
  refine aw_iload_n (q := 2) gdX7_copy_0.2.1 rfl 1 rfl ?_
  refine aw_iconst (q := 3) (v := 0) gdX7_copy_0.2.2.1 rfl (by decide) ?_
  refine aw_iconst (q := 4) (v := 2) gdX7_copy_0.2.2.2.1 rfl (by decide) ?_
  refine aw_call (q := 7) (kc1 := 0) (ks1 := 0) (wc := []) (wr := [(m, .inr (9, [.ref Mo, .ref Lo, .ref Do, .ref tl, .ref ca, .int th])), (Mo, .inl (4, 3, .inr (.inr (.inr (.inr mm))))), (q, .inl (0, 6144, .inl f)), (tl, .inl (0, 6, .inl t))]) (st1 := fun x4 g4 => [.int x4, .ref m]) (ws1 := fun x4 g4 => [(m, .inr (9, [.ref Mo, .ref Lo, .ref Do, .ref tl, .ref ca, .int th])), (Mo, .inl (4, 3, .inr (.inr (.inr (.inr mm))))), (q, .inl (0, 6144, .inl f)), (tl, .inl (0, 6, .inl t))]) (As := [.int p0, .int (0 : Int32), .int (2 : Int32)]) [] [0, 1, 2, 3] (fun _ => runS gdX7_copy_0.2.2.2.2.1 mi_X7_isNo st_X7_isNo ml_X7_31 (by omega) rfl (Nat.le_of_ble_eq_true rfl) rfl) (fun x9 h9 => ok_X7_isNo h9) rfl rfl rfl rfl rfl (by decide +kernel) (by omega) (by omega) (fun _ _ => rfl) (fun _ _ => rfl) (fun x4 g4 => ?_)
  refine aw_if_ne (tgt := 19) (q := 10) gdX7_copy_0.2.2.2.2.2.1 (by decide) rfl (fun h_7 => ?_) (fun h_7 => ?_)
  · exact tX7_copyOwn_19 hm _ _ _
  · refine aw_iload_n (q := 11) gdX7_copy_0.2.2.2.2.2.2.1 rfl 2 rfl ?_
    refine aw_iconst (q := 12) (v := 0) gdX7_copy_0.2.2.2.2.2.2.2 rfl (by decide) ?_
    refine aw_iconst (q := 13) (v := 2) gdX7_copy_12.1 rfl (by decide) ?_
    refine aw_call (q := 16) (kc1 := 0) (ks1 := 0) (wc := []) (wr := [(m, .inr (9, [.ref Mo, .ref Lo, .ref Do, .ref tl, .ref ca, .int th])), (Mo, .inl (4, 3, .inr (.inr (.inr (.inr mm))))), (q, .inl (0, 6144, .inl f)), (tl, .inl (0, 6, .inl t))]) (st1 := fun x13 g13 => [.int x13, .ref m]) (ws1 := fun x13 g13 => [(m, .inr (9, [.ref Mo, .ref Lo, .ref Do, .ref tl, .ref ca, .int th])), (Mo, .inl (4, 3, .inr (.inr (.inr (.inr mm))))), (q, .inl (0, 6144, .inl f)), (tl, .inl (0, 6, .inl t))]) (As := [.int p0, .int (0 : Int32), .int (2 : Int32)]) [] [0, 1, 2, 3] (fun _ => runS gdX7_copy_12.2.1 mi_X7_isNo st_X7_isNo ml_X7_31 (by omega) rfl (Nat.le_of_ble_eq_true rfl) rfl) (fun x9 h9 => ok_X7_isNo h9) rfl rfl rfl rfl rfl (by decide +kernel) (by omega) (by omega) (fun _ _ => rfl) (fun _ _ => rfl) (fun x13 g13 => ?_)
    refine aw_if_eq (tgt := 23) (q := 19) gdX7_copy_12.2.2.1 (by decide) rfl (fun h_16 => ?_) (fun h_16 => ?_)
    · refine aw_iconst (q := 24) (v := 0) gdX7_copy_12.2.2.2.2.2.1 rfl (by decide) ?_
      exact tX7_copyOwn_24 hm _ _ _ _
    · exact tX7_copyOwn_19 hm _ _ _
def fX7_pour_91 (N K : Nat) (th : Int32) (f : Nat → Int32) (f2 : Nat → Int32) (t : Nat → Int32) (p0 : Int32) (p1 : Int32) (k_53 : Int32 → Int32 → Int32 → (Nat → Int32) → (Nat → Int32) → Option (Int32 × Int32 × (Nat → Int32) × (Nat → Int32))) (l3 : Int32) (l4 : Int32) (th_ : Int32) (f2_ : Nat → Int32) (t_ : Nat → Int32) : Option (Int32 × Int32 × (Nat → Int32) × (Nat → Int32)) :=
  k_53 l3 (l4 + (1 : Int32)) th_ f2_ t_
set_option maxHeartbeats 4000000 in
set_option maxRecDepth 100000 in
theorem tX7_pour_91 {N K : Nat} {m Mo Lo Do tl ca q q2 : Nat} {mm : Nat → Option Nat} {th : Int32} {f : Nat → Int32} {f2 : Nat → Int32} {t : Nat → Int32} {p0 : Int32} {p1 : Int32} (hm : ¬ (p0 < 0 ∨ 3 ≤ p0.toNatClampNeg) → mm p0.toNatClampNeg = some q) (hm2 : ¬ (p1 < 0 ∨ 3 ≤ p1.toNatClampNeg) → mm p1.toNatClampNeg = some q2) {k_53 : Int32 → Int32 → Int32 → (Nat → Int32) → (Nat → Int32) → Option (Int32 × Int32 × (Nat → Int32) × (Nat → Int32))} (hk_53 : ∀ (l3 : Int32) (l4 : Int32) (th_ : Int32) (f2_ : Nat → Int32) (t_ : Nat → Int32), AW RX7 "pour" cX7_pour 5 (some .int) [] (fun _ _ => True) (2) (PN (U := Int32 × Int32 × (Nat → Int32) × (Nat → Int32)) (fun zz _ => some (.int zz.1)) (fun zz ad => [(m, .inr (9, [.ref Mo, .ref Lo, .ref Do, .ref tl, .ref ca, .int zz.2.1])), (Mo, .inl (4, 3, .inr (.inr (.inr (.inr mm))))), (q, .inl (0, 6144, .inl f)), (q2, .inl (0, 6144, .inl zz.2.2.1)), (tl, .inl (0, 6, .inl zz.2.2.2))])) 0 0 (k_53 l3 l4 th_ f2_ t_) 53 [(0, .ref m), (1, .int p0), (2, .int p1), (3, .int l3), (4, .int l4)] [] [(m, .inr (9, [.ref Mo, .ref Lo, .ref Do, .ref tl, .ref ca, .int th_])), (Mo, .inl (4, 3, .inr (.inr (.inr (.inr mm))))), (q, .inl (0, 6144, .inl f)), (q2, .inl (0, 6144, .inl f2_)), (tl, .inl (0, 6, .inl t_))]) : ∀ (l3 : Int32) (l4 : Int32) (th_ : Int32) (f2_ : Nat → Int32) (t_ : Nat → Int32), AW RX7 "pour" cX7_pour 5 (some .int) [] (fun _ _ => True) (2) (PN (U := Int32 × Int32 × (Nat → Int32) × (Nat → Int32)) (fun zz _ => some (.int zz.1)) (fun zz ad => [(m, .inr (9, [.ref Mo, .ref Lo, .ref Do, .ref tl, .ref ca, .int zz.2.1])), (Mo, .inl (4, 3, .inr (.inr (.inr (.inr mm))))), (q, .inl (0, 6144, .inl f)), (q2, .inl (0, 6144, .inl zz.2.2.1)), (tl, .inl (0, 6, .inl zz.2.2.2))])) 0 0 (fX7_pour_91 N K th f f2 t p0 p1 k_53 l3 l4 th_ f2_ t_) 91 [(0, .ref m), (1, .int p0), (2, .int p1), (3, .int l3), (4, .int l4)] [] [(m, .inr (9, [.ref Mo, .ref Lo, .ref Do, .ref tl, .ref ca, .int th_])), (Mo, .inl (4, 3, .inr (.inr (.inr (.inr mm))))), (q, .inl (0, 6144, .inl f)), (q2, .inl (0, 6144, .inl f2_)), (tl, .inl (0, 6, .inl t_))] := by
  intro l3 l4 th_ f2_ t_
  refine aw_iinc (q := 94) (v := (l4 + (1 : Int32))) (lv' := [(4, .int (l4 + (1 : Int32))), (0, .ref m), (1, .int p0), (2, .int p1), (3, .int l3)]) gdX7_pour_82.2.2.2.2.2.2.1 rfl 4 rfl rfl (by decide) rfl ?_
  refine aw_goto (tgt := 53) gdX7_pour_82.2.2.2.2.2.2.2 (by decide) ?_
  refine aw_locals (lv' := [(0, .ref m), (1, .int p0), (2, .int p1), (3, .int l3), (4, .int (l4 + (1 : Int32)))]) [1, 2, 3, 4, 0] rfl ?_
  exact hk_53 _ _ _ _ _
def fX7_pour_53 (N K : Nat) (th : Int32) (f : Nat → Int32) (f2 : Nat → Int32) (t : Nat → Int32) (p0 : Int32) (p1 : Int32) : Nat → Int32 → Int32 → Int32 → (Nat → Int32) → (Nat → Int32) → Option (Int32 × Int32 × (Nat → Int32) × (Nat → Int32))
  | 0, _, _, _, _, _ => none
  | fu + 1, l3, l4, th_, f2_, t_ =>
    (if (6144 : Int32) ≤ l4 then ((fX7_told2 N K th_ f2_ p1 (0 : Int32)).bind (fun x101 => ((fX7_done N K th_ t_ (x101 - l3)).bind (fun x106 => (some (x106.1, th_, f2_, x106.2)))))) else (if p0 < 0 ∨ 3 ≤ p0.toNatClampNeg then none else (if l4 < 0 ∨ 6144 ≤ l4.toNatClampNeg then none else (if (f l4.toNatClampNeg) < 0 then fX7_pour_91 N K th f f2 t p0 p1 (fX7_pour_53 N K th f f2 t p0 p1  fu) l3 l4 th_ f2_ t_ else (if p1 < 0 ∨ 3 ≤ p1.toNatClampNeg then none else (if p0 < 0 ∨ 3 ≤ p0.toNatClampNeg then none else (if l4 < 0 ∨ 6144 ≤ l4.toNatClampNeg then none else (if l4 < 0 ∨ 6144 ≤ l4.toNatClampNeg then none else fX7_pour_91 N K th f f2 t p0 p1 (fX7_pour_53 N K th f f2 t p0 p1  fu) l3 l4 th_ (upd f2_ l4.toNatClampNeg (f l4.toNatClampNeg)) t_))))))))
set_option maxHeartbeats 4000000 in
set_option maxRecDepth 100000 in
theorem tX7_pour_53 {N K : Nat} {m Mo Lo Do tl ca q q2 : Nat} {mm : Nat → Option Nat} {th : Int32} {f : Nat → Int32} {f2 : Nat → Int32} {t : Nat → Int32} {p0 : Int32} {p1 : Int32} (hm : ¬ (p0 < 0 ∨ 3 ≤ p0.toNatClampNeg) → mm p0.toNatClampNeg = some q) (hm2 : ¬ (p1 < 0 ∨ 3 ≤ p1.toNatClampNeg) → mm p1.toNatClampNeg = some q2) : ∀ (fu : Nat) (l3 : Int32) (l4 : Int32) (th_ : Int32) (f2_ : Nat → Int32) (t_ : Nat → Int32), AW RX7 "pour" cX7_pour 5 (some .int) [] (fun _ _ => True) (2) (PN (U := Int32 × Int32 × (Nat → Int32) × (Nat → Int32)) (fun zz _ => some (.int zz.1)) (fun zz ad => [(m, .inr (9, [.ref Mo, .ref Lo, .ref Do, .ref tl, .ref ca, .int zz.2.1])), (Mo, .inl (4, 3, .inr (.inr (.inr (.inr mm))))), (q, .inl (0, 6144, .inl f)), (q2, .inl (0, 6144, .inl zz.2.2.1)), (tl, .inl (0, 6, .inl zz.2.2.2))])) 0 0 (fX7_pour_53 N K th f f2 t p0 p1  fu l3 l4 th_ f2_ t_) 53 [(0, .ref m), (1, .int p0), (2, .int p1), (3, .int l3), (4, .int l4)] [] [(m, .inr (9, [.ref Mo, .ref Lo, .ref Do, .ref tl, .ref ca, .int th_])), (Mo, .inl (4, 3, .inr (.inr (.inr (.inr mm))))), (q, .inl (0, 6144, .inl f)), (q2, .inl (0, 6144, .inl f2_)), (tl, .inl (0, 6, .inl t_))] := by
  intro fu
  induction fu with
  | zero => intro l3 l4 th_ f2_ t_; exact aw_none
  | succ fu ih =>
    intro l3 l4 th_ f2_ t_
    refine aw_iload (q := 55) gdX7_pour_53.1 rfl 4 rfl ?_
    refine aw_sipush (q := 58) (v := 6144) gdX7_pour_53.2.1 rfl (by decide) ?_
    refine aw_icmp_ge (tgt := 97) (q := 61) gdX7_pour_53.2.2.1 (by decide) rfl (fun h_58 => ?_) (fun h_58 => ?_)
    · refine aw_aload_n (q := 98) gdX7_pour_97.1 rfl 0 rfl ?_
      refine aw_aload_n (q := 99) gdX7_pour_97.2.1 rfl 0 rfl ?_
      refine aw_iload_n (q := 100) gdX7_pour_97.2.2.1 rfl 2 rfl ?_
      refine aw_iconst (q := 101) (v := 0) gdX7_pour_97.2.2.2.1 rfl (by decide) ?_
      refine aw_call (q := 104) (kc1 := 0) (ks1 := 0) (wc := [(m, .inr (9, [.ref Mo, .ref Lo, .ref Do, .ref tl, .ref ca, .int th_])), (Mo, .inl (4, 3, .inr (.inr (.inr (.inr mm))))), (q2, .inl (0, 6144, .inl f2_))]) (wr := [(q, .inl (0, 6144, .inl f)), (tl, .inl (0, 6, .inl t_))]) (st1 := fun x101 g101 => [.int x101, .ref m]) (ws1 := fun x101 g101 => [(q, .inl (0, 6144, .inl f)), (tl, .inl (0, 6, .inl t_)), (m, .inr (9, [.ref Mo, .ref Lo, .ref Do, .ref tl, .ref ca, .int th_])), (Mo, .inl (4, 3, .inr (.inr (.inr (.inr mm))))), (q2, .inl (0, 6144, .inl f2_))]) (As := [.ref m, .int p1, .int (0 : Int32)]) [0, 1, 3] [2, 4] (fun _ => runV (q0 := 0) gdX7_pour_97.2.2.2.2.1 mi_X7_told_ im_X7_told_ se_X7_told_ ml_X7_153 (by omega) rfl (Nat.le_of_ble_eq_true rfl) rfl rfl rfl rfl) (fun x9 h9 => ok_X7_told2 hm2 h9) rfl rfl rfl rfl rfl (by decide +kernel) (by omega) (by omega) (fun _ _ => rfl) (fun _ _ => rfl) (fun x101 g101 => ?_)
      refine aw_iload_n (q := 105) gdX7_pour_97.2.2.2.2.2.1 rfl 3 rfl ?_
      refine aw_isub (q := 106) gdX7_pour_97.2.2.2.2.2.2.1 rfl ?_
      refine aw_call (q := 109) (kc1 := 0) (ks1 := 0) (wc := [(m, .inr (9, [.ref Mo, .ref Lo, .ref Do, .ref tl, .ref ca, .int th_])), (tl, .inl (0, 6, .inl t_))]) (wr := [(q, .inl (0, 6144, .inl f)), (Mo, .inl (4, 3, .inr (.inr (.inr (.inr mm))))), (q2, .inl (0, 6144, .inl f2_))]) (st1 := fun x106 g106 => [.int x106.1]) (ws1 := fun x106 g106 => [(q, .inl (0, 6144, .inl f)), (Mo, .inl (4, 3, .inr (.inr (.inr (.inr mm))))), (q2, .inl (0, 6144, .inl f2_)), (m, .inr (9, [.ref Mo, .ref Lo, .ref Do, .ref tl, .ref ca, .int th_])), (tl, .inl (0, 6, .inl x106.2))]) (As := [.ref m, .int (x101 - l3)]) [2, 1] [0, 3, 4] (fun _ => runV (q0 := 2) gdX7_pour_97.2.2.2.2.2.2.2 mi_X7_done im_X7_done se_X7_done ml_X7_117 (by omega) rfl (Nat.le_of_ble_eq_true rfl) rfl rfl rfl rfl) (fun x9 h9 => ok_X7_done h9) rfl rfl rfl rfl rfl (by decide +kernel) (by omega) (by omega) (fun _ _ => rfl) (fun _ _ => rfl) (fun x106 g106 => ?_)
      exact aw_ireturn (w := [(m, .inr (9, [.ref Mo, .ref Lo, .ref Do, .ref tl, .ref ca, .int th_])), (Mo, .inl (4, 3, .inr (.inr (.inr (.inr mm))))), (q, .inl (0, 6144, .inl f)), (q2, .inl (0, 6144, .inl f2_)), (tl, .inl (0, 6, .inl x106.2))]) [3, 1, 0, 2, 4] dX7_pour_109 rfl rfl rfl rfl (PN.mk (fun _ => 0) rfl rfl)
    · refine aw_aload_n (q := 62) gdX7_pour_53.2.2.2.1 rfl 0 rfl ?_
      refine aw_get (q := 65) gdX7_pour_53.2.2.2.2.1 rfl fl_X7_11 0 rfl rfl ?_
      refine aw_iload_n (q := 66) gdX7_pour_53.2.2.2.2.2.1 rfl 1 rfl ?_
      refine aw_aald (q := 67) gdX7_pour_53.2.2.2.2.2.2.1 rfl 1 rfl (by decide) rfl hm ?_
      refine aw_iload (q := 69) gdX7_pour_53.2.2.2.2.2.2.2 rfl 4 rfl ?_
      refine aw_iald (q := 70) gdX7_pour_69.1 rfl 2 rfl ?_
      refine aw_if_lt (tgt := 91) (q := 73) gdX7_pour_69.2.1 (by decide) rfl (fun h_70 => ?_) (fun h_70 => ?_)
      · exact tX7_pour_91 hm hm2 ih _ _ _ _ _
      · refine aw_aload_n (q := 74) gdX7_pour_69.2.2.1 rfl 0 rfl ?_
        refine aw_get (q := 77) gdX7_pour_69.2.2.2.1 rfl fl_X7_11 0 rfl rfl ?_
        refine aw_iload_n (q := 78) gdX7_pour_69.2.2.2.2.1 rfl 2 rfl ?_
        refine aw_aald (q := 79) gdX7_pour_69.2.2.2.2.2.1 rfl 1 rfl (by decide) rfl hm2 ?_
        refine aw_iload (q := 81) gdX7_pour_69.2.2.2.2.2.2.1 rfl 4 rfl ?_
        refine aw_aload_n (q := 82) gdX7_pour_69.2.2.2.2.2.2.2 rfl 0 rfl ?_
        refine aw_get (q := 85) gdX7_pour_82.1 rfl fl_X7_11 0 rfl rfl ?_
        refine aw_iload_n (q := 86) gdX7_pour_82.2.1 rfl 1 rfl ?_
        refine aw_aald (q := 87) gdX7_pour_82.2.2.1 rfl 1 rfl (by decide) rfl hm ?_
        refine aw_iload (q := 89) gdX7_pour_82.2.2.2.1 rfl 4 rfl ?_
        refine aw_iald (q := 90) gdX7_pour_82.2.2.2.2.1 rfl 2 rfl ?_
        refine aw_iast (q := 91) (ws' := [(m, .inr (9, [.ref Mo, .ref Lo, .ref Do, .ref tl, .ref ca, .int th_])), (Mo, .inl (4, 3, .inr (.inr (.inr (.inr mm))))), (q, .inl (0, 6144, .inl f)), (q2, .inl (0, 6144, .inl (upd f2_ l4.toNatClampNeg (f l4.toNatClampNeg)))), (tl, .inl (0, 6, .inl t_))]) gdX7_pour_82.2.2.2.2.2.1 rfl 3 rfl rfl ?_
        exact tX7_pour_91 hm hm2 ih _ _ _ _ _
def fX7_pour_24 (N K : Nat) (th : Int32) (f : Nat → Int32) (f2 : Nat → Int32) (t : Nat → Int32) (p0 : Int32) (p1 : Int32) (s0 : Int32) (th_ : Int32) (f2_ : Nat → Int32) (t_ : Nat → Int32) : Option (Int32 × Int32 × (Nat → Int32) × (Nat → Int32)) :=
  ((fX7_isThrown N K th_ s0 (0 : Int32)).bind (fun x25 => (if x25.1 = 0 then (if p0 = p1 then ((fX7_refused N K x25.2 t_).bind (fun x39 => (some (x39.1, x25.2, f2_, x39.2)))) else ((fX7_told2 N K x25.2 f2_ p1 (0 : Int32)).bind (fun x46 => fX7_pour_53 N K th f f2 t p0 p1  N x46 (0 : Int32) x25.2 f2_ t_))) else (some ((0 : Int32), x25.2, f2_, t_)))))
set_option maxHeartbeats 4000000 in
set_option maxRecDepth 100000 in
theorem tX7_pour_24 {N K : Nat} {m Mo Lo Do tl ca q q2 : Nat} {mm : Nat → Option Nat} {th : Int32} {f : Nat → Int32} {f2 : Nat → Int32} {t : Nat → Int32} {p0 : Int32} {p1 : Int32} (hm : ¬ (p0 < 0 ∨ 3 ≤ p0.toNatClampNeg) → mm p0.toNatClampNeg = some q) (hm2 : ¬ (p1 < 0 ∨ 3 ≤ p1.toNatClampNeg) → mm p1.toNatClampNeg = some q2) : ∀ (s0 : Int32) (th_ : Int32) (f2_ : Nat → Int32) (t_ : Nat → Int32), AW RX7 "pour" cX7_pour 5 (some .int) [] (fun _ _ => True) (2) (PN (U := Int32 × Int32 × (Nat → Int32) × (Nat → Int32)) (fun zz _ => some (.int zz.1)) (fun zz ad => [(m, .inr (9, [.ref Mo, .ref Lo, .ref Do, .ref tl, .ref ca, .int zz.2.1])), (Mo, .inl (4, 3, .inr (.inr (.inr (.inr mm))))), (q, .inl (0, 6144, .inl f)), (q2, .inl (0, 6144, .inl zz.2.2.1)), (tl, .inl (0, 6, .inl zz.2.2.2))])) 0 0 (fX7_pour_24 N K th f f2 t p0 p1  s0 th_ f2_ t_) 24 [(0, .ref m), (1, .int p0), (2, .int p1)] [.int s0, .ref m] [(m, .inr (9, [.ref Mo, .ref Lo, .ref Do, .ref tl, .ref ca, .int th_])), (Mo, .inl (4, 3, .inr (.inr (.inr (.inr mm))))), (q, .inl (0, 6144, .inl f)), (q2, .inl (0, 6144, .inl f2_)), (tl, .inl (0, 6, .inl t_))] := by
  intro s0 th_ f2_ t_
  refine aw_iconst (q := 25) (v := 0) gdX7_pour_12.2.2.2.2.2.2.1 rfl (by decide) ?_
  refine aw_call (q := 28) (kc1 := 0) (ks1 := 0) (wc := [(m, .inr (9, [.ref Mo, .ref Lo, .ref Do, .ref tl, .ref ca, .int th_]))]) (wr := [(Mo, .inl (4, 3, .inr (.inr (.inr (.inr mm))))), (q, .inl (0, 6144, .inl f)), (q2, .inl (0, 6144, .inl f2_)), (tl, .inl (0, 6, .inl t_))]) (st1 := fun x25 g25 => [.int x25.1]) (ws1 := fun x25 g25 => [(Mo, .inl (4, 3, .inr (.inr (.inr (.inr mm))))), (q, .inl (0, 6144, .inl f)), (q2, .inl (0, 6144, .inl f2_)), (tl, .inl (0, 6, .inl t_)), (m, .inr (9, [.ref Mo, .ref Lo, .ref Do, .ref tl, .ref ca, .int x25.2]))]) (As := [.ref m, .int s0, .int (0 : Int32)]) [0] [1, 2, 3, 4] (fun _ => runV (q0 := 0) gdX7_pour_12.2.2.2.2.2.2.2 mi_X7_isThrown im_X7_isThrown se_X7_isThrown ml_X7_110 (by omega) rfl (Nat.le_of_ble_eq_true rfl) rfl rfl rfl rfl) (fun x9 h9 => ok_X7_isThrown h9) rfl rfl rfl rfl rfl (by decide +kernel) (by omega) (by omega) (fun _ _ => rfl) (fun _ _ => rfl) (fun x25 g25 => ?_)
  refine aw_if_eq (tgt := 33) (q := 31) gdX7_pour_28.1 (by decide) rfl (fun h_28 => ?_) (fun h_28 => ?_)
  · refine aw_iload_n (q := 34) gdX7_pour_28.2.2.2.1 rfl 1 rfl ?_
    refine aw_iload_n (q := 35) gdX7_pour_28.2.2.2.2.1 rfl 2 rfl ?_
    refine aw_icmp_ne (tgt := 43) (q := 38) gdX7_pour_28.2.2.2.2.2.1 (by decide) rfl (fun h_35 => ?_) (fun h_35 => ?_)
    · refine aw_aload_n (q := 44) gdX7_pour_42.2.1 rfl 0 rfl ?_
      refine aw_iload_n (q := 45) gdX7_pour_42.2.2.1 rfl 2 rfl ?_
      refine aw_iconst (q := 46) (v := 0) gdX7_pour_42.2.2.2.1 rfl (by decide) ?_
      refine aw_call (q := 49) (kc1 := 0) (ks1 := 0) (wc := [(m, .inr (9, [.ref Mo, .ref Lo, .ref Do, .ref tl, .ref ca, .int x25.2])), (Mo, .inl (4, 3, .inr (.inr (.inr (.inr mm))))), (q2, .inl (0, 6144, .inl f2_))]) (wr := [(q, .inl (0, 6144, .inl f)), (tl, .inl (0, 6, .inl t_))]) (st1 := fun x46 g46 => [.int x46]) (ws1 := fun x46 g46 => [(q, .inl (0, 6144, .inl f)), (tl, .inl (0, 6, .inl t_)), (m, .inr (9, [.ref Mo, .ref Lo, .ref Do, .ref tl, .ref ca, .int x25.2])), (Mo, .inl (4, 3, .inr (.inr (.inr (.inr mm))))), (q2, .inl (0, 6144, .inl f2_))]) (As := [.ref m, .int p1, .int (0 : Int32)]) [4, 0, 2] [1, 3] (fun _ => runV (q0 := 4) gdX7_pour_42.2.2.2.2.1 mi_X7_told_ im_X7_told_ se_X7_told_ ml_X7_153 (by omega) rfl (Nat.le_of_ble_eq_true rfl) rfl rfl rfl rfl) (fun x9 h9 => ok_X7_told2 hm2 h9) rfl rfl rfl rfl rfl (by decide +kernel) (by omega) (by omega) (fun _ _ => rfl) (fun _ _ => rfl) (fun x46 g46 => ?_)
      refine aw_istore_n (q := 50) (lv' := [(3, .int x46), (0, .ref m), (1, .int p0), (2, .int p1)]) gdX7_pour_42.2.2.2.2.2.1 rfl (by decide) rfl ?_
      refine aw_iconst (q := 51) (v := 0) gdX7_pour_42.2.2.2.2.2.2.1 rfl (by decide) ?_
      refine aw_istore (q := 53) (lv' := [(4, .int (0 : Int32)), (3, .int x46), (0, .ref m), (1, .int p0), (2, .int p1)]) gdX7_pour_42.2.2.2.2.2.2.2 rfl (by decide) rfl ?_
      refine aw_locals (lv' := [(0, .ref m), (1, .int p0), (2, .int p1), (3, .int x46), (4, .int (0 : Int32))]) [2, 3, 4, 1, 0] rfl ?_
      refine aw_world (ws' := [(m, .inr (9, [.ref Mo, .ref Lo, .ref Do, .ref tl, .ref ca, .int x25.2])), (Mo, .inl (4, 3, .inr (.inr (.inr (.inr mm))))), (q, .inl (0, 6144, .inl f)), (q2, .inl (0, 6144, .inl f2_)), (tl, .inl (0, 6, .inl t_))]) [2, 3, 0, 4, 1] rfl rfl ?_
      exact tX7_pour_53 hm hm2 N _ _ _ _ _
    · refine aw_aload_n (q := 39) gdX7_pour_28.2.2.2.2.2.2.1 rfl 0 rfl ?_
      refine aw_call (q := 42) (kc1 := 0) (ks1 := 0) (wc := [(m, .inr (9, [.ref Mo, .ref Lo, .ref Do, .ref tl, .ref ca, .int x25.2])), (tl, .inl (0, 6, .inl t_))]) (wr := [(Mo, .inl (4, 3, .inr (.inr (.inr (.inr mm))))), (q, .inl (0, 6144, .inl f)), (q2, .inl (0, 6144, .inl f2_))]) (st1 := fun x39 g39 => [.int x39.1]) (ws1 := fun x39 g39 => [(Mo, .inl (4, 3, .inr (.inr (.inr (.inr mm))))), (q, .inl (0, 6144, .inl f)), (q2, .inl (0, 6144, .inl f2_)), (m, .inr (9, [.ref Mo, .ref Lo, .ref Do, .ref tl, .ref ca, .int x25.2])), (tl, .inl (0, 6, .inl x39.2))]) (As := [.ref m]) [4, 3] [0, 1, 2] (fun _ => runV (q0 := 4) gdX7_pour_28.2.2.2.2.2.2.2 mi_X7_refused im_X7_refused se_X7_refused ml_X7_124 (by omega) rfl (Nat.le_of_ble_eq_true rfl) rfl rfl rfl rfl) (fun x9 h9 => ok_X7_refused h9) rfl rfl rfl rfl rfl (by decide +kernel) (by omega) (by omega) (fun _ _ => rfl) (fun _ _ => rfl) (fun x39 g39 => ?_)
      exact aw_ireturn (w := [(m, .inr (9, [.ref Mo, .ref Lo, .ref Do, .ref tl, .ref ca, .int x25.2])), (Mo, .inl (4, 3, .inr (.inr (.inr (.inr mm))))), (q, .inl (0, 6144, .inl f)), (q2, .inl (0, 6144, .inl f2_)), (tl, .inl (0, 6, .inl x39.2))]) [3, 0, 1, 2, 4] gdX7_pour_42.1 rfl rfl rfl rfl (PN.mk (fun _ => 0) rfl rfl)
  · refine aw_iconst (q := 32) (v := 0) gdX7_pour_28.2.1 rfl (by decide) ?_
    exact aw_ireturn (w := [(m, .inr (9, [.ref Mo, .ref Lo, .ref Do, .ref tl, .ref ca, .int x25.2])), (Mo, .inl (4, 3, .inr (.inr (.inr (.inr mm))))), (q, .inl (0, 6144, .inl f)), (q2, .inl (0, 6144, .inl f2_)), (tl, .inl (0, 6, .inl t_))]) [4, 0, 1, 2, 3] gdX7_pour_28.2.2.1 rfl rfl rfl rfl (PN.mk (fun _ => 0) rfl rfl)
def fX7_pour_19 (N K : Nat) (th : Int32) (f : Nat → Int32) (f2 : Nat → Int32) (t : Nat → Int32) (p0 : Int32) (p1 : Int32) (th_ : Int32) (f2_ : Nat → Int32) (t_ : Nat → Int32) : Option (Int32 × Int32 × (Nat → Int32) × (Nat → Int32)) :=
  fX7_pour_24 N K th f f2 t p0 p1  (1 : Int32) th_ f2_ t_
set_option maxHeartbeats 4000000 in
set_option maxRecDepth 100000 in
theorem tX7_pour_19 {N K : Nat} {m Mo Lo Do tl ca q q2 : Nat} {mm : Nat → Option Nat} {th : Int32} {f : Nat → Int32} {f2 : Nat → Int32} {t : Nat → Int32} {p0 : Int32} {p1 : Int32} (hm : ¬ (p0 < 0 ∨ 3 ≤ p0.toNatClampNeg) → mm p0.toNatClampNeg = some q) (hm2 : ¬ (p1 < 0 ∨ 3 ≤ p1.toNatClampNeg) → mm p1.toNatClampNeg = some q2) : ∀ (th_ : Int32) (f2_ : Nat → Int32) (t_ : Nat → Int32), AW RX7 "pour" cX7_pour 5 (some .int) [] (fun _ _ => True) (2) (PN (U := Int32 × Int32 × (Nat → Int32) × (Nat → Int32)) (fun zz _ => some (.int zz.1)) (fun zz ad => [(m, .inr (9, [.ref Mo, .ref Lo, .ref Do, .ref tl, .ref ca, .int zz.2.1])), (Mo, .inl (4, 3, .inr (.inr (.inr (.inr mm))))), (q, .inl (0, 6144, .inl f)), (q2, .inl (0, 6144, .inl zz.2.2.1)), (tl, .inl (0, 6, .inl zz.2.2.2))])) 0 0 (fX7_pour_19 N K th f f2 t p0 p1  th_ f2_ t_) 19 [(0, .ref m), (1, .int p0), (2, .int p1)] [.ref m] [(m, .inr (9, [.ref Mo, .ref Lo, .ref Do, .ref tl, .ref ca, .int th_])), (Mo, .inl (4, 3, .inr (.inr (.inr (.inr mm))))), (q, .inl (0, 6144, .inl f)), (q2, .inl (0, 6144, .inl f2_)), (tl, .inl (0, 6, .inl t_))] := by
  intro th_ f2_ t_
  refine aw_iconst (q := 20) (v := 1) gdX7_pour_12.2.2.2.1 rfl (by decide) ?_
  refine aw_goto (tgt := 24) gdX7_pour_12.2.2.2.2.1 (by decide) ?_
  exact tX7_pour_24 hm hm2 _ _ _ _
def fX7_pour (N K : Nat) (th : Int32) (f : Nat → Int32) (f2 : Nat → Int32) (t : Nat → Int32) (p0 : Int32) (p1 : Int32) : Option (Int32 × Int32 × (Nat → Int32) × (Nat → Int32)) :=
  ((fX7_isNo N K p0 (0 : Int32) (2 : Int32)).bind (fun x4 => (if x4 = 0 then ((fX7_isNo N K p1 (0 : Int32) (2 : Int32)).bind (fun x13 => (if x13 = 0 then fX7_pour_24 N K th f f2 t p0 p1  (0 : Int32) th f2 t else fX7_pour_19 N K th f f2 t p0 p1  th f2 t))) else fX7_pour_19 N K th f f2 t p0 p1  th f2 t)))
set_option maxHeartbeats 4000000 in
set_option maxRecDepth 100000 in
theorem ok_X7_pour {N K : Nat} {m Mo Lo Do tl ca q q2 : Nat} {mm : Nat → Option Nat} {th : Int32} {f : Nat → Int32} {f2 : Nat → Int32} {t : Nat → Int32} {p0 : Int32} {p1 : Int32} (hm : ¬ (p0 < 0 ∨ 3 ≤ p0.toNatClampNeg) → mm p0.toNatClampNeg = some q) (hm2 : ¬ (p1 < 0 ∨ 3 ≤ p1.toNatClampNeg) → mm p1.toNatClampNeg = some q2) {xr : Int32 × Int32 × (Nat → Int32) × (Nat → Int32)} (hE : fX7_pour N K th f f2 t p0 p1 = some xr) : OkM yX7_pour (.code yX7_pour cX7_pour 5 (some .int)) (2) 0 0 [.ref m, .int p0, .int p1] [(m, .inr (9, [.ref Mo, .ref Lo, .ref Do, .ref tl, .ref ca, .int th])), (Mo, .inl (4, 3, .inr (.inr (.inr (.inr mm))))), (q, .inl (0, 6144, .inl f)), (q2, .inl (0, 6144, .inl f2)), (tl, .inl (0, 6, .inl t))] ((PN (U := Int32 × Int32 × (Nat → Int32) × (Nat → Int32)) (fun zz _ => some (.int zz.1)) (fun zz ad => [(m, .inr (9, [.ref Mo, .ref Lo, .ref Do, .ref tl, .ref ca, .int zz.2.1])), (Mo, .inl (4, 3, .inr (.inr (.inr (.inr mm))))), (q, .inl (0, 6144, .inl f)), (q2, .inl (0, 6144, .inl zz.2.2.1)), (tl, .inl (0, 6, .inl zz.2.2.2))])) xr) := by
  refine ok_of (by decide) (Nat.le_of_ble_eq_true rfl) hE ?_
  refine aw_locals (lv' := [(0, .ref m), (1, .int p0), (2, .int p1)]) [0, 1, 2] rfl ?_
  refine aw_aload_n (q := 1) gdX7_pour_0.1 rfl 0 rfl ?_
  refine aw_iload_n (q := 2) gdX7_pour_0.2.1 rfl 1 rfl ?_
  refine aw_iconst (q := 3) (v := 0) gdX7_pour_0.2.2.1 rfl (by decide) ?_
  refine aw_iconst (q := 4) (v := 2) gdX7_pour_0.2.2.2.1 rfl (by decide) ?_
  refine aw_call (q := 7) (kc1 := 0) (ks1 := 0) (wc := []) (wr := [(m, .inr (9, [.ref Mo, .ref Lo, .ref Do, .ref tl, .ref ca, .int th])), (Mo, .inl (4, 3, .inr (.inr (.inr (.inr mm))))), (q, .inl (0, 6144, .inl f)), (q2, .inl (0, 6144, .inl f2)), (tl, .inl (0, 6, .inl t))]) (st1 := fun x4 g4 => [.int x4, .ref m]) (ws1 := fun x4 g4 => [(m, .inr (9, [.ref Mo, .ref Lo, .ref Do, .ref tl, .ref ca, .int th])), (Mo, .inl (4, 3, .inr (.inr (.inr (.inr mm))))), (q, .inl (0, 6144, .inl f)), (q2, .inl (0, 6144, .inl f2)), (tl, .inl (0, 6, .inl t))]) (As := [.int p0, .int (0 : Int32), .int (2 : Int32)]) [] [0, 1, 2, 3, 4] (fun _ => runS gdX7_pour_0.2.2.2.2.1 mi_X7_isNo st_X7_isNo ml_X7_31 (by omega) rfl (Nat.le_of_ble_eq_true rfl) rfl) (fun x9 h9 => ok_X7_isNo h9) rfl rfl rfl rfl rfl (by decide +kernel) (by omega) (by omega) (fun _ _ => rfl) (fun _ _ => rfl) (fun x4 g4 => ?_)
  refine aw_if_ne (tgt := 19) (q := 10) gdX7_pour_0.2.2.2.2.2.1 (by decide) rfl (fun h_7 => ?_) (fun h_7 => ?_)
  · exact tX7_pour_19 hm hm2 _ _ _
  · refine aw_iload_n (q := 11) gdX7_pour_0.2.2.2.2.2.2.1 rfl 2 rfl ?_
    refine aw_iconst (q := 12) (v := 0) gdX7_pour_0.2.2.2.2.2.2.2 rfl (by decide) ?_
    refine aw_iconst (q := 13) (v := 2) gdX7_pour_12.1 rfl (by decide) ?_
    refine aw_call (q := 16) (kc1 := 0) (ks1 := 0) (wc := []) (wr := [(m, .inr (9, [.ref Mo, .ref Lo, .ref Do, .ref tl, .ref ca, .int th])), (Mo, .inl (4, 3, .inr (.inr (.inr (.inr mm))))), (q, .inl (0, 6144, .inl f)), (q2, .inl (0, 6144, .inl f2)), (tl, .inl (0, 6, .inl t))]) (st1 := fun x13 g13 => [.int x13, .ref m]) (ws1 := fun x13 g13 => [(m, .inr (9, [.ref Mo, .ref Lo, .ref Do, .ref tl, .ref ca, .int th])), (Mo, .inl (4, 3, .inr (.inr (.inr (.inr mm))))), (q, .inl (0, 6144, .inl f)), (q2, .inl (0, 6144, .inl f2)), (tl, .inl (0, 6, .inl t))]) (As := [.int p1, .int (0 : Int32), .int (2 : Int32)]) [] [0, 1, 2, 3, 4] (fun _ => runS gdX7_pour_12.2.1 mi_X7_isNo st_X7_isNo ml_X7_31 (by omega) rfl (Nat.le_of_ble_eq_true rfl) rfl) (fun x9 h9 => ok_X7_isNo h9) rfl rfl rfl rfl rfl (by decide +kernel) (by omega) (by omega) (fun _ _ => rfl) (fun _ _ => rfl) (fun x13 g13 => ?_)
    refine aw_if_eq (tgt := 23) (q := 19) gdX7_pour_12.2.2.1 (by decide) rfl (fun h_16 => ?_) (fun h_16 => ?_)
    · refine aw_iconst (q := 24) (v := 0) gdX7_pour_12.2.2.2.2.2.1 rfl (by decide) ?_
      exact tX7_pour_24 hm hm2 _ _ _ _
    · exact tX7_pour_19 hm hm2 _ _ _
def fX7_pourOwn_24 (N K : Nat) (th : Int32) (f : Nat → Int32) (t : Nat → Int32) (p0 : Int32) (s0 : Int32) (th_ : Int32) (t_ : Nat → Int32) : Option (Int32 × Int32 × (Nat → Int32)) :=
  ((fX7_isThrown N K th_ s0 (0 : Int32)).bind (fun x25 => (if x25.1 = 0 then ((fX7_refused N K x25.2 t_).bind (fun x39 => (some (x39.1, x25.2, x39.2)))) else (some ((0 : Int32), x25.2, t_)))))
set_option maxHeartbeats 4000000 in
set_option maxRecDepth 100000 in
theorem tX7_pourOwn_24 {N K : Nat} {m Mo Lo Do tl ca q : Nat} {mm : Nat → Option Nat} {th : Int32} {f : Nat → Int32} {t : Nat → Int32} {p0 : Int32} (hm : ¬ (p0 < 0 ∨ 3 ≤ p0.toNatClampNeg) → mm p0.toNatClampNeg = some q) : ∀ (s0 : Int32) (th_ : Int32) (t_ : Nat → Int32), AW RX7 "pour" cX7_pour 5 (some .int) [] (fun _ _ => True) (2) (PN (U := Int32 × Int32 × (Nat → Int32)) (fun zz _ => some (.int zz.1)) (fun zz ad => [(m, .inr (9, [.ref Mo, .ref Lo, .ref Do, .ref tl, .ref ca, .int zz.2.1])), (Mo, .inl (4, 3, .inr (.inr (.inr (.inr mm))))), (q, .inl (0, 6144, .inl f)), (tl, .inl (0, 6, .inl zz.2.2))])) 0 0 (fX7_pourOwn_24 N K th f t p0  s0 th_ t_) 24 [(0, .ref m), (1, .int p0), (2, .int p0)] [.int s0, .ref m] [(m, .inr (9, [.ref Mo, .ref Lo, .ref Do, .ref tl, .ref ca, .int th_])), (Mo, .inl (4, 3, .inr (.inr (.inr (.inr mm))))), (q, .inl (0, 6144, .inl f)), (tl, .inl (0, 6, .inl t_))] := by
  intro s0 th_ t_
  refine aw_iconst (q := 25) (v := 0) gdX7_pour_12.2.2.2.2.2.2.1 rfl (by decide) ?_
  refine aw_call (q := 28) (kc1 := 0) (ks1 := 0) (wc := [(m, .inr (9, [.ref Mo, .ref Lo, .ref Do, .ref tl, .ref ca, .int th_]))]) (wr := [(Mo, .inl (4, 3, .inr (.inr (.inr (.inr mm))))), (q, .inl (0, 6144, .inl f)), (tl, .inl (0, 6, .inl t_))]) (st1 := fun x25 g25 => [.int x25.1]) (ws1 := fun x25 g25 => [(Mo, .inl (4, 3, .inr (.inr (.inr (.inr mm))))), (q, .inl (0, 6144, .inl f)), (tl, .inl (0, 6, .inl t_)), (m, .inr (9, [.ref Mo, .ref Lo, .ref Do, .ref tl, .ref ca, .int x25.2]))]) (As := [.ref m, .int s0, .int (0 : Int32)]) [0] [1, 2, 3] (fun _ => runV (q0 := 0) gdX7_pour_12.2.2.2.2.2.2.2 mi_X7_isThrown im_X7_isThrown se_X7_isThrown ml_X7_110 (by omega) rfl (Nat.le_of_ble_eq_true rfl) rfl rfl rfl rfl) (fun x9 h9 => ok_X7_isThrown h9) rfl rfl rfl rfl rfl (by decide +kernel) (by omega) (by omega) (fun _ _ => rfl) (fun _ _ => rfl) (fun x25 g25 => ?_)
  refine aw_if_eq (tgt := 33) (q := 31) gdX7_pour_28.1 (by decide) rfl (fun h_28 => ?_) (fun h_28 => ?_)
  · refine aw_iload_n (q := 34) gdX7_pour_28.2.2.2.1 rfl 1 rfl ?_
    refine aw_iload_n (q := 35) gdX7_pour_28.2.2.2.2.1 rfl 2 rfl ?_
    refine aw_icmp_neF (q := 38) (off := 8) (tgt := 43) gdX7_pour_28.2.2.2.2.2.1 (by decide) rfl rfl ?_
    refine aw_aload_n (q := 39) gdX7_pour_28.2.2.2.2.2.2.1 rfl 0 rfl ?_
    refine aw_call (q := 42) (kc1 := 0) (ks1 := 0) (wc := [(m, .inr (9, [.ref Mo, .ref Lo, .ref Do, .ref tl, .ref ca, .int x25.2])), (tl, .inl (0, 6, .inl t_))]) (wr := [(Mo, .inl (4, 3, .inr (.inr (.inr (.inr mm))))), (q, .inl (0, 6144, .inl f))]) (st1 := fun x39 g39 => [.int x39.1]) (ws1 := fun x39 g39 => [(Mo, .inl (4, 3, .inr (.inr (.inr (.inr mm))))), (q, .inl (0, 6144, .inl f)), (m, .inr (9, [.ref Mo, .ref Lo, .ref Do, .ref tl, .ref ca, .int x25.2])), (tl, .inl (0, 6, .inl x39.2))]) (As := [.ref m]) [3, 2] [0, 1] (fun _ => runV (q0 := 3) gdX7_pour_28.2.2.2.2.2.2.2 mi_X7_refused im_X7_refused se_X7_refused ml_X7_124 (by omega) rfl (Nat.le_of_ble_eq_true rfl) rfl rfl rfl rfl) (fun x9 h9 => ok_X7_refused h9) rfl rfl rfl rfl rfl (by decide +kernel) (by omega) (by omega) (fun _ _ => rfl) (fun _ _ => rfl) (fun x39 g39 => ?_)
    exact aw_ireturn (w := [(m, .inr (9, [.ref Mo, .ref Lo, .ref Do, .ref tl, .ref ca, .int x25.2])), (Mo, .inl (4, 3, .inr (.inr (.inr (.inr mm))))), (q, .inl (0, 6144, .inl f)), (tl, .inl (0, 6, .inl x39.2))]) [2, 0, 1, 3] gdX7_pour_42.1 rfl rfl rfl rfl (PN.mk (fun _ => 0) rfl rfl)
  · refine aw_iconst (q := 32) (v := 0) gdX7_pour_28.2.1 rfl (by decide) ?_
    exact aw_ireturn (w := [(m, .inr (9, [.ref Mo, .ref Lo, .ref Do, .ref tl, .ref ca, .int x25.2])), (Mo, .inl (4, 3, .inr (.inr (.inr (.inr mm))))), (q, .inl (0, 6144, .inl f)), (tl, .inl (0, 6, .inl t_))]) [3, 0, 1, 2] gdX7_pour_28.2.2.1 rfl rfl rfl rfl (PN.mk (fun _ => 0) rfl rfl)
def fX7_pourOwn_19 (N K : Nat) (th : Int32) (f : Nat → Int32) (t : Nat → Int32) (p0 : Int32) (th_ : Int32) (t_ : Nat → Int32) : Option (Int32 × Int32 × (Nat → Int32)) :=
  fX7_pourOwn_24 N K th f t p0  (1 : Int32) th_ t_
set_option maxHeartbeats 4000000 in
set_option maxRecDepth 100000 in
theorem tX7_pourOwn_19 {N K : Nat} {m Mo Lo Do tl ca q : Nat} {mm : Nat → Option Nat} {th : Int32} {f : Nat → Int32} {t : Nat → Int32} {p0 : Int32} (hm : ¬ (p0 < 0 ∨ 3 ≤ p0.toNatClampNeg) → mm p0.toNatClampNeg = some q) : ∀ (th_ : Int32) (t_ : Nat → Int32), AW RX7 "pour" cX7_pour 5 (some .int) [] (fun _ _ => True) (2) (PN (U := Int32 × Int32 × (Nat → Int32)) (fun zz _ => some (.int zz.1)) (fun zz ad => [(m, .inr (9, [.ref Mo, .ref Lo, .ref Do, .ref tl, .ref ca, .int zz.2.1])), (Mo, .inl (4, 3, .inr (.inr (.inr (.inr mm))))), (q, .inl (0, 6144, .inl f)), (tl, .inl (0, 6, .inl zz.2.2))])) 0 0 (fX7_pourOwn_19 N K th f t p0  th_ t_) 19 [(0, .ref m), (1, .int p0), (2, .int p0)] [.ref m] [(m, .inr (9, [.ref Mo, .ref Lo, .ref Do, .ref tl, .ref ca, .int th_])), (Mo, .inl (4, 3, .inr (.inr (.inr (.inr mm))))), (q, .inl (0, 6144, .inl f)), (tl, .inl (0, 6, .inl t_))] := by
  intro th_ t_
  refine aw_iconst (q := 20) (v := 1) gdX7_pour_12.2.2.2.1 rfl (by decide) ?_
  refine aw_goto (tgt := 24) gdX7_pour_12.2.2.2.2.1 (by decide) ?_
  exact tX7_pourOwn_24 hm _ _ _
def fX7_pourOwn (N K : Nat) (th : Int32) (f : Nat → Int32) (t : Nat → Int32) (p0 : Int32) : Option (Int32 × Int32 × (Nat → Int32)) :=
  ((fX7_isNo N K p0 (0 : Int32) (2 : Int32)).bind (fun x4 => (if x4 = 0 then ((fX7_isNo N K p0 (0 : Int32) (2 : Int32)).bind (fun x13 => (if x13 = 0 then fX7_pourOwn_24 N K th f t p0  (0 : Int32) th t else fX7_pourOwn_19 N K th f t p0  th t))) else fX7_pourOwn_19 N K th f t p0  th t)))
set_option maxHeartbeats 4000000 in
set_option maxRecDepth 100000 in
theorem ok_X7_pourOwn {N K : Nat} {m Mo Lo Do tl ca q : Nat} {mm : Nat → Option Nat} {th : Int32} {f : Nat → Int32} {t : Nat → Int32} {p0 : Int32} (hm : ¬ (p0 < 0 ∨ 3 ≤ p0.toNatClampNeg) → mm p0.toNatClampNeg = some q) {xr : Int32 × Int32 × (Nat → Int32)} (hE : fX7_pourOwn N K th f t p0 = some xr) : OkM yX7_pour (.code yX7_pour cX7_pour 5 (some .int)) (2) 0 0 [.ref m, .int p0, .int p0] [(m, .inr (9, [.ref Mo, .ref Lo, .ref Do, .ref tl, .ref ca, .int th])), (Mo, .inl (4, 3, .inr (.inr (.inr (.inr mm))))), (q, .inl (0, 6144, .inl f)), (tl, .inl (0, 6, .inl t))] ((PN (U := Int32 × Int32 × (Nat → Int32)) (fun zz _ => some (.int zz.1)) (fun zz ad => [(m, .inr (9, [.ref Mo, .ref Lo, .ref Do, .ref tl, .ref ca, .int zz.2.1])), (Mo, .inl (4, 3, .inr (.inr (.inr (.inr mm))))), (q, .inl (0, 6144, .inl f)), (tl, .inl (0, 6, .inl zz.2.2))])) xr) := by
  refine ok_of (by decide) (Nat.le_of_ble_eq_true rfl) hE ?_
  refine aw_locals (lv' := [(0, .ref m), (1, .int p0), (2, .int p0)]) [0, 1, 2] rfl ?_
  refine aw_aload_n (q := 1) gdX7_pour_0.1 rfl 0 rfl ?_
  refine aw_iload_n (q := 2) gdX7_pour_0.2.1 rfl 1 rfl ?_
  refine aw_iconst (q := 3) (v := 0) gdX7_pour_0.2.2.1 rfl (by decide) ?_
  refine aw_iconst (q := 4) (v := 2) gdX7_pour_0.2.2.2.1 rfl (by decide) ?_
  refine aw_call (q := 7) (kc1 := 0) (ks1 := 0) (wc := []) (wr := [(m, .inr (9, [.ref Mo, .ref Lo, .ref Do, .ref tl, .ref ca, .int th])), (Mo, .inl (4, 3, .inr (.inr (.inr (.inr mm))))), (q, .inl (0, 6144, .inl f)), (tl, .inl (0, 6, .inl t))]) (st1 := fun x4 g4 => [.int x4, .ref m]) (ws1 := fun x4 g4 => [(m, .inr (9, [.ref Mo, .ref Lo, .ref Do, .ref tl, .ref ca, .int th])), (Mo, .inl (4, 3, .inr (.inr (.inr (.inr mm))))), (q, .inl (0, 6144, .inl f)), (tl, .inl (0, 6, .inl t))]) (As := [.int p0, .int (0 : Int32), .int (2 : Int32)]) [] [0, 1, 2, 3] (fun _ => runS gdX7_pour_0.2.2.2.2.1 mi_X7_isNo st_X7_isNo ml_X7_31 (by omega) rfl (Nat.le_of_ble_eq_true rfl) rfl) (fun x9 h9 => ok_X7_isNo h9) rfl rfl rfl rfl rfl (by decide +kernel) (by omega) (by omega) (fun _ _ => rfl) (fun _ _ => rfl) (fun x4 g4 => ?_)
  refine aw_if_ne (tgt := 19) (q := 10) gdX7_pour_0.2.2.2.2.2.1 (by decide) rfl (fun h_7 => ?_) (fun h_7 => ?_)
  · exact tX7_pourOwn_19 hm _ _
  · refine aw_iload_n (q := 11) gdX7_pour_0.2.2.2.2.2.2.1 rfl 2 rfl ?_
    refine aw_iconst (q := 12) (v := 0) gdX7_pour_0.2.2.2.2.2.2.2 rfl (by decide) ?_
    refine aw_iconst (q := 13) (v := 2) gdX7_pour_12.1 rfl (by decide) ?_
    refine aw_call (q := 16) (kc1 := 0) (ks1 := 0) (wc := []) (wr := [(m, .inr (9, [.ref Mo, .ref Lo, .ref Do, .ref tl, .ref ca, .int th])), (Mo, .inl (4, 3, .inr (.inr (.inr (.inr mm))))), (q, .inl (0, 6144, .inl f)), (tl, .inl (0, 6, .inl t))]) (st1 := fun x13 g13 => [.int x13, .ref m]) (ws1 := fun x13 g13 => [(m, .inr (9, [.ref Mo, .ref Lo, .ref Do, .ref tl, .ref ca, .int th])), (Mo, .inl (4, 3, .inr (.inr (.inr (.inr mm))))), (q, .inl (0, 6144, .inl f)), (tl, .inl (0, 6, .inl t))]) (As := [.int p0, .int (0 : Int32), .int (2 : Int32)]) [] [0, 1, 2, 3] (fun _ => runS gdX7_pour_12.2.1 mi_X7_isNo st_X7_isNo ml_X7_31 (by omega) rfl (Nat.le_of_ble_eq_true rfl) rfl) (fun x9 h9 => ok_X7_isNo h9) rfl rfl rfl rfl rfl (by decide +kernel) (by omega) (by omega) (fun _ _ => rfl) (fun _ _ => rfl) (fun x13 g13 => ?_)
    refine aw_if_eq (tgt := 23) (q := 19) gdX7_pour_12.2.2.1 (by decide) rfl (fun h_16 => ?_) (fun h_16 => ?_)
    · refine aw_iconst (q := 24) (v := 0) gdX7_pour_12.2.2.2.2.2.1 rfl (by decide) ?_
      exact tX7_pourOwn_24 hm _ _ _
    · exact tX7_pourOwn_19 hm _ _
def fX7_isKept_32 (N K : Nat) (th : Int32) (f : Nat → Int32) (p0 : Int32) (p1 : Int32) (p2 : Int32) (p3 : Int32) (p4 : Int32) (s0 : Int32) (s1 : Int32) (th_ : Int32) : Option (Int32 × Int32) :=
  ((fX7_isThrown N K th_ s1 s0).bind (fun x32 => (if x32.1 = 0 then ((fX7_kept N K x32.2 f p0 p1 p2 p3).bind (fun x44 => (if x44 < 0 then (some ((0 : Int32), x32.2)) else (some ((1 : Int32), x32.2))))) else (some ((0 : Int32), x32.2)))))
set_option maxHeartbeats 4000000 in
set_option maxRecDepth 100000 in
theorem tX7_isKept_32 {N K : Nat} {m Mo Lo Do tl ca q : Nat} {mm : Nat → Option Nat} {th : Int32} {f : Nat → Int32} {p0 : Int32} {p1 : Int32} {p2 : Int32} {p3 : Int32} {p4 : Int32} (hm : ¬ (p0 < 0 ∨ 3 ≤ p0.toNatClampNeg) → mm p0.toNatClampNeg = some q) : ∀ (s0 : Int32) (s1 : Int32) (th_ : Int32), AW RX7 "isKept" cX7_isKept 6 (some .boolean) [] (fun _ _ => True) (2) (PN (U := Int32 × Int32) (fun zz _ => some (.int zz.1)) (fun zz ad => [(m, .inr (9, [.ref Mo, .ref Lo, .ref Do, .ref tl, .ref ca, .int zz.2])), (Mo, .inl (4, 3, .inr (.inr (.inr (.inr mm))))), (q, .inl (0, 6144, .inl f))])) 0 0 (fX7_isKept_32 N K th f p0 p1 p2 p3 p4  s0 s1 th_) 32 [(0, .ref m), (1, .int p0), (2, .int p1), (3, .int p2), (4, .int p3)] [.int s0, .int s1, .ref m] [(m, .inr (9, [.ref Mo, .ref Lo, .ref Do, .ref tl, .ref ca, .int th_])), (Mo, .inl (4, 3, .inr (.inr (.inr (.inr mm))))), (q, .inl (0, 6144, .inl f))] := by
  intro s0 s1 th_
  refine aw_call (q := 35) (kc1 := 0) (ks1 := 0) (wc := [(m, .inr (9, [.ref Mo, .ref Lo, .ref Do, .ref tl, .ref ca, .int th_]))]) (wr := [(Mo, .inl (4, 3, .inr (.inr (.inr (.inr mm))))), (q, .inl (0, 6144, .inl f))]) (st1 := fun x32 g32 => [.int x32.1]) (ws1 := fun x32 g32 => [(Mo, .inl (4, 3, .inr (.inr (.inr (.inr mm))))), (q, .inl (0, 6144, .inl f)), (m, .inr (9, [.ref Mo, .ref Lo, .ref Do, .ref tl, .ref ca, .int x32.2]))]) (As := [.ref m, .int s1, .int s0]) [0] [1, 2] (fun _ => runV (q0 := 0) gdX7_isKept_28.2.2.1 mi_X7_isThrown im_X7_isThrown se_X7_isThrown ml_X7_110 (by omega) rfl (Nat.le_of_ble_eq_true rfl) rfl rfl rfl rfl) (fun x9 h9 => ok_X7_isThrown h9) rfl rfl rfl rfl rfl (by decide +kernel) (by omega) (by omega) (fun _ _ => rfl) (fun _ _ => rfl) (fun x32 g32 => ?_)
  refine aw_if_ne (tgt := 54) (q := 38) gdX7_isKept_28.2.2.2.1 (by decide) rfl (fun h_35 => ?_) (fun h_35 => ?_)
  · refine aw_iconst (q := 55) (v := 0) gdX7_isKept_42.2.2.2.2.2.1 rfl (by decide) ?_
    exact aw_ireturn (w := [(m, .inr (9, [.ref Mo, .ref Lo, .ref Do, .ref tl, .ref ca, .int x32.2])), (Mo, .inl (4, 3, .inr (.inr (.inr (.inr mm))))), (q, .inl (0, 6144, .inl f))]) [2, 0, 1] gdX7_isKept_42.2.2.2.2.2.2 rfl rfl rfl rfl (PN.mk (fun _ => 0) rfl rfl)
  · refine aw_aload_n (q := 39) gdX7_isKept_28.2.2.2.2.1 rfl 0 rfl ?_
    refine aw_iload_n (q := 40) gdX7_isKept_28.2.2.2.2.2.1 rfl 1 rfl ?_
    refine aw_iload_n (q := 41) gdX7_isKept_28.2.2.2.2.2.2.1 rfl 2 rfl ?_
    refine aw_iload_n (q := 42) gdX7_isKept_28.2.2.2.2.2.2.2 rfl 3 rfl ?_
    refine aw_iload (q := 44) gdX7_isKept_42.1 rfl 4 rfl ?_
    refine aw_call (q := 47) (kc1 := 0) (ks1 := 0) (wc := [(m, .inr (9, [.ref Mo, .ref Lo, .ref Do, .ref tl, .ref ca, .int x32.2])), (Mo, .inl (4, 3, .inr (.inr (.inr (.inr mm))))), (q, .inl (0, 6144, .inl f))]) (wr := []) (st1 := fun x44 g44 => [.int x44]) (ws1 := fun x44 g44 => [(m, .inr (9, [.ref Mo, .ref Lo, .ref Do, .ref tl, .ref ca, .int x32.2])), (Mo, .inl (4, 3, .inr (.inr (.inr (.inr mm))))), (q, .inl (0, 6144, .inl f))]) (As := [.ref m, .int p0, .int p1, .int p2, .int p3]) [2, 0, 1] [] (fun _ => runV (q0 := 2) gdX7_isKept_42.2.1 mi_X7_kept im_X7_kept se_X7_kept ml_X7_131 (by omega) rfl (Nat.le_of_ble_eq_true rfl) rfl rfl rfl rfl) (fun x9 h9 => ok_X7_kept hm h9) rfl rfl rfl rfl rfl (by decide +kernel) (by omega) (by omega) (fun _ _ => rfl) (fun _ _ => rfl) (fun x44 g44 => ?_)
    refine aw_if_lt (tgt := 54) (q := 50) gdX7_isKept_42.2.2.1 (by decide) rfl (fun h_47 => ?_) (fun h_47 => ?_)
    · refine aw_iconst (q := 55) (v := 0) gdX7_isKept_42.2.2.2.2.2.1 rfl (by decide) ?_
      exact aw_ireturn (w := [(m, .inr (9, [.ref Mo, .ref Lo, .ref Do, .ref tl, .ref ca, .int x32.2])), (Mo, .inl (4, 3, .inr (.inr (.inr (.inr mm))))), (q, .inl (0, 6144, .inl f))]) [0, 1, 2] gdX7_isKept_42.2.2.2.2.2.2 rfl rfl rfl rfl (PN.mk (fun _ => 0) rfl rfl)
    · refine aw_iconst (q := 51) (v := 1) gdX7_isKept_42.2.2.2.1 rfl (by decide) ?_
      refine aw_goto (tgt := 55) gdX7_isKept_42.2.2.2.2.1 (by decide) ?_
      exact aw_ireturn (w := [(m, .inr (9, [.ref Mo, .ref Lo, .ref Do, .ref tl, .ref ca, .int x32.2])), (Mo, .inl (4, 3, .inr (.inr (.inr (.inr mm))))), (q, .inl (0, 6144, .inl f))]) [0, 1, 2] gdX7_isKept_42.2.2.2.2.2.2 rfl rfl rfl rfl (PN.mk (fun _ => 0) rfl rfl)
def fX7_isKept_27 (N K : Nat) (th : Int32) (f : Nat → Int32) (p0 : Int32) (p1 : Int32) (p2 : Int32) (p3 : Int32) (p4 : Int32) (s0 : Int32) (th_ : Int32) : Option (Int32 × Int32) :=
  fX7_isKept_32 N K th f p0 p1 p2 p3 p4  (1 : Int32) s0 th_
set_option maxHeartbeats 4000000 in
set_option maxRecDepth 100000 in
theorem tX7_isKept_27 {N K : Nat} {m Mo Lo Do tl ca q : Nat} {mm : Nat → Option Nat} {th : Int32} {f : Nat → Int32} {p0 : Int32} {p1 : Int32} {p2 : Int32} {p3 : Int32} {p4 : Int32} (hm : ¬ (p0 < 0 ∨ 3 ≤ p0.toNatClampNeg) → mm p0.toNatClampNeg = some q) : ∀ (s0 : Int32) (th_ : Int32), AW RX7 "isKept" cX7_isKept 6 (some .boolean) [] (fun _ _ => True) (2) (PN (U := Int32 × Int32) (fun zz _ => some (.int zz.1)) (fun zz ad => [(m, .inr (9, [.ref Mo, .ref Lo, .ref Do, .ref tl, .ref ca, .int zz.2])), (Mo, .inl (4, 3, .inr (.inr (.inr (.inr mm))))), (q, .inl (0, 6144, .inl f))])) 0 0 (fX7_isKept_27 N K th f p0 p1 p2 p3 p4  s0 th_) 27 [(0, .ref m), (1, .int p0), (2, .int p1), (3, .int p2), (4, .int p3)] [.int s0, .ref m] [(m, .inr (9, [.ref Mo, .ref Lo, .ref Do, .ref tl, .ref ca, .int th_])), (Mo, .inl (4, 3, .inr (.inr (.inr (.inr mm))))), (q, .inl (0, 6144, .inl f))] := by
  intro s0 th_
  refine aw_iconst (q := 28) (v := 1) gdX7_isKept_11.2.2.2.2.2.2.2 rfl (by decide) ?_
  refine aw_goto (tgt := 32) gdX7_isKept_28.1 (by decide) ?_
  exact tX7_isKept_32 hm _ _ _
def fX7_isKept (N K : Nat) (th : Int32) (f : Nat → Int32) (p0 : Int32) (p1 : Int32) (p2 : Int32) (p3 : Int32) (p4 : Int32) : Option (Int32 × Int32) :=
  ((fX7_isNo N K p0 (0 : Int32) (2 : Int32)).bind (fun x4 => ((fX7_isOut N K p1 p2 p3).bind (fun x11 => (if x11 = 0 then ((fX7_isNo N K p4 (0 : Int32) (2 : Int32)).bind (fun x21 => (if x21 = 0 then fX7_isKept_32 N K th f p0 p1 p2 p3 p4  (0 : Int32) x4 th else fX7_isKept_27 N K th f p0 p1 p2 p3 p4  x4 th))) else fX7_isKept_27 N K th f p0 p1 p2 p3 p4  x4 th)))))
set_option maxHeartbeats 4000000 in
set_option maxRecDepth 100000 in
theorem ok_X7_isKept {N K : Nat} {m Mo Lo Do tl ca q : Nat} {mm : Nat → Option Nat} {th : Int32} {f : Nat → Int32} {p0 : Int32} {p1 : Int32} {p2 : Int32} {p3 : Int32} {p4 : Int32} (hm : ¬ (p0 < 0 ∨ 3 ≤ p0.toNatClampNeg) → mm p0.toNatClampNeg = some q) {xr : Int32 × Int32} (hE : fX7_isKept N K th f p0 p1 p2 p3 p4 = some xr) : OkM yX7_isKept (.code yX7_isKept cX7_isKept 6 (some .boolean)) (2) 0 0 [.ref m, .int p0, .int p1, .int p2, .int p3, .int p4] [(m, .inr (9, [.ref Mo, .ref Lo, .ref Do, .ref tl, .ref ca, .int th])), (Mo, .inl (4, 3, .inr (.inr (.inr (.inr mm))))), (q, .inl (0, 6144, .inl f))] ((PN (U := Int32 × Int32) (fun zz _ => some (.int zz.1)) (fun zz ad => [(m, .inr (9, [.ref Mo, .ref Lo, .ref Do, .ref tl, .ref ca, .int zz.2])), (Mo, .inl (4, 3, .inr (.inr (.inr (.inr mm))))), (q, .inl (0, 6144, .inl f))])) xr) := by
  refine ok_of (by decide) (Nat.le_of_ble_eq_true rfl) hE ?_
  refine aw_locals (lv' := [(0, .ref m), (1, .int p0), (2, .int p1), (3, .int p2), (4, .int p3), (5, .int p4)]) [0, 1, 2, 3, 4, 5] rfl ?_
  refine aw_aload_n (q := 1) gdX7_isKept_0.1 rfl 0 rfl ?_
  refine aw_iload_n (q := 2) gdX7_isKept_0.2.1 rfl 1 rfl ?_
  refine aw_iconst (q := 3) (v := 0) gdX7_isKept_0.2.2.1 rfl (by decide) ?_
  refine aw_iconst (q := 4) (v := 2) gdX7_isKept_0.2.2.2.1 rfl (by decide) ?_
  refine aw_call (q := 7) (kc1 := 0) (ks1 := 0) (wc := []) (wr := [(m, .inr (9, [.ref Mo, .ref Lo, .ref Do, .ref tl, .ref ca, .int th])), (Mo, .inl (4, 3, .inr (.inr (.inr (.inr mm))))), (q, .inl (0, 6144, .inl f))]) (st1 := fun x4 g4 => [.int x4, .ref m]) (ws1 := fun x4 g4 => [(m, .inr (9, [.ref Mo, .ref Lo, .ref Do, .ref tl, .ref ca, .int th])), (Mo, .inl (4, 3, .inr (.inr (.inr (.inr mm))))), (q, .inl (0, 6144, .inl f))]) (As := [.int p0, .int (0 : Int32), .int (2 : Int32)]) [] [0, 1, 2] (fun _ => runS gdX7_isKept_0.2.2.2.2.1 mi_X7_isNo st_X7_isNo ml_X7_31 (by omega) rfl (Nat.le_of_ble_eq_true rfl) rfl) (fun x9 h9 => ok_X7_isNo h9) rfl rfl rfl rfl rfl (by decide +kernel) (by omega) (by omega) (fun _ _ => rfl) (fun _ _ => rfl) (fun x4 g4 => ?_)
  refine aw_iload_n (q := 8) gdX7_isKept_0.2.2.2.2.2.1 rfl 2 rfl ?_
  refine aw_iload_n (q := 9) gdX7_isKept_0.2.2.2.2.2.2.1 rfl 3 rfl ?_
  refine aw_iload (q := 11) gdX7_isKept_0.2.2.2.2.2.2.2 rfl 4 rfl ?_
  refine aw_call (q := 14) (kc1 := 0) (ks1 := 0) (wc := []) (wr := [(m, .inr (9, [.ref Mo, .ref Lo, .ref Do, .ref tl, .ref ca, .int th])), (Mo, .inl (4, 3, .inr (.inr (.inr (.inr mm))))), (q, .inl (0, 6144, .inl f))]) (st1 := fun x11 g11 => [.int x11, .int x4, .ref m]) (ws1 := fun x11 g11 => [(m, .inr (9, [.ref Mo, .ref Lo, .ref Do, .ref tl, .ref ca, .int th])), (Mo, .inl (4, 3, .inr (.inr (.inr (.inr mm))))), (q, .inl (0, 6144, .inl f))]) (As := [.int p1, .int p2, .int p3]) [] [0, 1, 2] (fun _ => runS gdX7_isKept_11.1 mi_X7_isOut st_X7_isOut ml_X7_107 (by omega) rfl (Nat.le_of_ble_eq_true rfl) rfl) (fun x9 h9 => ok_X7_isOut h9) rfl rfl rfl rfl rfl (by decide +kernel) (by omega) (by omega) (fun _ _ => rfl) (fun _ _ => rfl) (fun x11 g11 => ?_)
  refine aw_if_ne (tgt := 27) (q := 17) gdX7_isKept_11.2.1 (by decide) rfl (fun h_14 => ?_) (fun h_14 => ?_)
  · refine aw_locals (lv' := [(0, .ref m), (1, .int p0), (2, .int p1), (3, .int p2), (4, .int p3)]) [0, 1, 2, 3, 4] rfl ?_
    exact tX7_isKept_27 hm _ _
  · refine aw_iload (q := 19) gdX7_isKept_11.2.2.1 rfl 5 rfl ?_
    refine aw_iconst (q := 20) (v := 0) gdX7_isKept_11.2.2.2.1 rfl (by decide) ?_
    refine aw_iconst (q := 21) (v := 2) gdX7_isKept_11.2.2.2.2.1 rfl (by decide) ?_
    refine aw_call (q := 24) (kc1 := 0) (ks1 := 0) (wc := []) (wr := [(m, .inr (9, [.ref Mo, .ref Lo, .ref Do, .ref tl, .ref ca, .int th])), (Mo, .inl (4, 3, .inr (.inr (.inr (.inr mm))))), (q, .inl (0, 6144, .inl f))]) (st1 := fun x21 g21 => [.int x21, .int x4, .ref m]) (ws1 := fun x21 g21 => [(m, .inr (9, [.ref Mo, .ref Lo, .ref Do, .ref tl, .ref ca, .int th])), (Mo, .inl (4, 3, .inr (.inr (.inr (.inr mm))))), (q, .inl (0, 6144, .inl f))]) (As := [.int p4, .int (0 : Int32), .int (2 : Int32)]) [] [0, 1, 2] (fun _ => runS gdX7_isKept_11.2.2.2.2.2.1 mi_X7_isNo st_X7_isNo ml_X7_31 (by omega) rfl (Nat.le_of_ble_eq_true rfl) rfl) (fun x9 h9 => ok_X7_isNo h9) rfl rfl rfl rfl rfl (by decide +kernel) (by omega) (by omega) (fun _ _ => rfl) (fun _ _ => rfl) (fun x21 g21 => ?_)
    refine aw_if_eq (tgt := 31) (q := 27) gdX7_isKept_11.2.2.2.2.2.2.1 (by decide) rfl (fun h_24 => ?_) (fun h_24 => ?_)
    · refine aw_iconst (q := 32) (v := 0) gdX7_isKept_28.2.1 rfl (by decide) ?_
      refine aw_locals (lv' := [(0, .ref m), (1, .int p0), (2, .int p1), (3, .int p2), (4, .int p3)]) [0, 1, 2, 3, 4] rfl ?_
      exact tX7_isKept_32 hm _ _ _
    · refine aw_locals (lv' := [(0, .ref m), (1, .int p0), (2, .int p1), (3, .int p2), (4, .int p3)]) [0, 1, 2, 3, 4] rfl ?_
      exact tX7_isKept_27 hm _ _
def fX7_worthOr (N K : Nat) (th : Int32) (f : Nat → Int32) (p0 : Int32) (p1 : Int32) (p2 : Int32) (p3 : Int32) (p4 : Int32) : Option (Int32 × Int32) :=
  ((fX7_isNo N K p0 (0 : Int32) (2 : Int32)).bind (fun x4 => ((fX7_isOut N K p1 p2 p3).bind (fun x11 => ((fX7_isThrown N K th x4 x11).bind (fun x14 => (if x14.1 = 0 then ((fX7_kept N K x14.2 f p0 p1 p2 p3).bind (fun x28 => (if 0 ≤ x28 then (some (x28, x14.2)) else (some (p4, x14.2))))) else (some ((0 : Int32), x14.2)))))))))
set_option maxHeartbeats 4000000 in
set_option maxRecDepth 100000 in
theorem ok_X7_worthOr {N K : Nat} {m Mo Lo Do tl ca q : Nat} {mm : Nat → Option Nat} {th : Int32} {f : Nat → Int32} {p0 : Int32} {p1 : Int32} {p2 : Int32} {p3 : Int32} {p4 : Int32} (hm : ¬ (p0 < 0 ∨ 3 ≤ p0.toNatClampNeg) → mm p0.toNatClampNeg = some q) {xr : Int32 × Int32} (hE : fX7_worthOr N K th f p0 p1 p2 p3 p4 = some xr) : OkM yX7_worthOr (.code yX7_worthOr cX7_worthOr 7 (some .int)) (2) 0 0 [.ref m, .int p0, .int p1, .int p2, .int p3, .int p4] [(m, .inr (9, [.ref Mo, .ref Lo, .ref Do, .ref tl, .ref ca, .int th])), (Mo, .inl (4, 3, .inr (.inr (.inr (.inr mm))))), (q, .inl (0, 6144, .inl f))] ((PN (U := Int32 × Int32) (fun zz _ => some (.int zz.1)) (fun zz ad => [(m, .inr (9, [.ref Mo, .ref Lo, .ref Do, .ref tl, .ref ca, .int zz.2])), (Mo, .inl (4, 3, .inr (.inr (.inr (.inr mm))))), (q, .inl (0, 6144, .inl f))])) xr) := by
  refine ok_of (by decide) (Nat.le_of_ble_eq_true rfl) hE ?_
  refine aw_locals (lv' := [(0, .ref m), (1, .int p0), (2, .int p1), (3, .int p2), (4, .int p3), (5, .int p4)]) [0, 1, 2, 3, 4, 5] rfl ?_
  refine aw_aload_n (q := 1) gdX7_worthOr_0.1 rfl 0 rfl ?_
  refine aw_iload_n (q := 2) gdX7_worthOr_0.2.1 rfl 1 rfl ?_
  refine aw_iconst (q := 3) (v := 0) gdX7_worthOr_0.2.2.1 rfl (by decide) ?_
  refine aw_iconst (q := 4) (v := 2) gdX7_worthOr_0.2.2.2.1 rfl (by decide) ?_
  refine aw_call (q := 7) (kc1 := 0) (ks1 := 0) (wc := []) (wr := [(m, .inr (9, [.ref Mo, .ref Lo, .ref Do, .ref tl, .ref ca, .int th])), (Mo, .inl (4, 3, .inr (.inr (.inr (.inr mm))))), (q, .inl (0, 6144, .inl f))]) (st1 := fun x4 g4 => [.int x4, .ref m]) (ws1 := fun x4 g4 => [(m, .inr (9, [.ref Mo, .ref Lo, .ref Do, .ref tl, .ref ca, .int th])), (Mo, .inl (4, 3, .inr (.inr (.inr (.inr mm))))), (q, .inl (0, 6144, .inl f))]) (As := [.int p0, .int (0 : Int32), .int (2 : Int32)]) [] [0, 1, 2] (fun _ => runS gdX7_worthOr_0.2.2.2.2.1 mi_X7_isNo st_X7_isNo ml_X7_31 (by omega) rfl (Nat.le_of_ble_eq_true rfl) rfl) (fun x9 h9 => ok_X7_isNo h9) rfl rfl rfl rfl rfl (by decide +kernel) (by omega) (by omega) (fun _ _ => rfl) (fun _ _ => rfl) (fun x4 g4 => ?_)
  refine aw_iload_n (q := 8) gdX7_worthOr_0.2.2.2.2.2.1 rfl 2 rfl ?_
  refine aw_iload_n (q := 9) gdX7_worthOr_0.2.2.2.2.2.2.1 rfl 3 rfl ?_
  refine aw_iload (q := 11) gdX7_worthOr_0.2.2.2.2.2.2.2 rfl 4 rfl ?_
  refine aw_call (q := 14) (kc1 := 0) (ks1 := 0) (wc := []) (wr := [(m, .inr (9, [.ref Mo, .ref Lo, .ref Do, .ref tl, .ref ca, .int th])), (Mo, .inl (4, 3, .inr (.inr (.inr (.inr mm))))), (q, .inl (0, 6144, .inl f))]) (st1 := fun x11 g11 => [.int x11, .int x4, .ref m]) (ws1 := fun x11 g11 => [(m, .inr (9, [.ref Mo, .ref Lo, .ref Do, .ref tl, .ref ca, .int th])), (Mo, .inl (4, 3, .inr (.inr (.inr (.inr mm))))), (q, .inl (0, 6144, .inl f))]) (As := [.int p1, .int p2, .int p3]) [] [0, 1, 2] (fun _ => runS gdX7_worthOr_11.1 mi_X7_isOut st_X7_isOut ml_X7_107 (by omega) rfl (Nat.le_of_ble_eq_true rfl) rfl) (fun x9 h9 => ok_X7_isOut h9) rfl rfl rfl rfl rfl (by decide +kernel) (by omega) (by omega) (fun _ _ => rfl) (fun _ _ => rfl) (fun x11 g11 => ?_)
  refine aw_call (q := 17) (kc1 := 0) (ks1 := 0) (wc := [(m, .inr (9, [.ref Mo, .ref Lo, .ref Do, .ref tl, .ref ca, .int th]))]) (wr := [(Mo, .inl (4, 3, .inr (.inr (.inr (.inr mm))))), (q, .inl (0, 6144, .inl f))]) (st1 := fun x14 g14 => [.int x14.1]) (ws1 := fun x14 g14 => [(Mo, .inl (4, 3, .inr (.inr (.inr (.inr mm))))), (q, .inl (0, 6144, .inl f)), (m, .inr (9, [.ref Mo, .ref Lo, .ref Do, .ref tl, .ref ca, .int x14.2]))]) (As := [.ref m, .int x4, .int x11]) [0] [1, 2] (fun _ => runV (q0 := 0) gdX7_worthOr_11.2.1 mi_X7_isThrown im_X7_isThrown se_X7_isThrown ml_X7_110 (by omega) rfl (Nat.le_of_ble_eq_true rfl) rfl rfl rfl rfl) (fun x9 h9 => ok_X7_isThrown h9) rfl rfl rfl rfl rfl (by decide +kernel) (by omega) (by omega) (fun _ _ => rfl) (fun _ _ => rfl) (fun x14 g14 => ?_)
  refine aw_if_eq (tgt := 22) (q := 20) gdX7_worthOr_11.2.2.1 (by decide) rfl (fun h_17 => ?_) (fun h_17 => ?_)
  · refine aw_aload_n (q := 23) gdX7_worthOr_11.2.2.2.2.2.1 rfl 0 rfl ?_
    refine aw_iload_n (q := 24) gdX7_worthOr_11.2.2.2.2.2.2.1 rfl 1 rfl ?_
    refine aw_iload_n (q := 25) gdX7_worthOr_11.2.2.2.2.2.2.2 rfl 2 rfl ?_
    refine aw_iload_n (q := 26) gdX7_worthOr_25.1 rfl 3 rfl ?_
    refine aw_iload (q := 28) gdX7_worthOr_25.2.1 rfl 4 rfl ?_
    refine aw_call (q := 31) (kc1 := 0) (ks1 := 0) (wc := [(m, .inr (9, [.ref Mo, .ref Lo, .ref Do, .ref tl, .ref ca, .int x14.2])), (Mo, .inl (4, 3, .inr (.inr (.inr (.inr mm))))), (q, .inl (0, 6144, .inl f))]) (wr := []) (st1 := fun x28 g28 => [.int x28]) (ws1 := fun x28 g28 => [(m, .inr (9, [.ref Mo, .ref Lo, .ref Do, .ref tl, .ref ca, .int x14.2])), (Mo, .inl (4, 3, .inr (.inr (.inr (.inr mm))))), (q, .inl (0, 6144, .inl f))]) (As := [.ref m, .int p0, .int p1, .int p2, .int p3]) [2, 0, 1] [] (fun _ => runV (q0 := 2) gdX7_worthOr_25.2.2.1 mi_X7_kept im_X7_kept se_X7_kept ml_X7_131 (by omega) rfl (Nat.le_of_ble_eq_true rfl) rfl rfl rfl rfl) (fun x9 h9 => ok_X7_kept hm h9) rfl rfl rfl rfl rfl (by decide +kernel) (by omega) (by omega) (fun _ _ => rfl) (fun _ _ => rfl) (fun x28 g28 => ?_)
    refine aw_istore (q := 33) (lv' := [(6, .int x28), (0, .ref m), (1, .int p0), (2, .int p1), (3, .int p2), (4, .int p3), (5, .int p4)]) gdX7_worthOr_25.2.2.2.1 rfl (by decide) rfl ?_
    refine aw_iload (q := 35) gdX7_worthOr_25.2.2.2.2.1 rfl 0 rfl ?_
    refine aw_if_ge (tgt := 43) (q := 38) gdX7_worthOr_25.2.2.2.2.2.1 (by decide) rfl (fun h_35 => ?_) (fun h_35 => ?_)
    · refine aw_iload (q := 45) gdX7_worthOr_43.1 rfl 0 rfl ?_
      exact aw_ireturn (w := [(m, .inr (9, [.ref Mo, .ref Lo, .ref Do, .ref tl, .ref ca, .int x14.2])), (Mo, .inl (4, 3, .inr (.inr (.inr (.inr mm))))), (q, .inl (0, 6144, .inl f))]) [0, 1, 2] gdX7_worthOr_43.2 rfl rfl rfl rfl (PN.mk (fun _ => 0) rfl rfl)
    · refine aw_iload (q := 40) gdX7_worthOr_25.2.2.2.2.2.2.1 rfl 6 rfl ?_
      refine aw_goto (tgt := 45) gdX7_worthOr_25.2.2.2.2.2.2.2 (by decide) ?_
      exact aw_ireturn (w := [(m, .inr (9, [.ref Mo, .ref Lo, .ref Do, .ref tl, .ref ca, .int x14.2])), (Mo, .inl (4, 3, .inr (.inr (.inr (.inr mm))))), (q, .inl (0, 6144, .inl f))]) [0, 1, 2] gdX7_worthOr_43.2 rfl rfl rfl rfl (PN.mk (fun _ => 0) rfl rfl)
  · refine aw_iconst (q := 21) (v := 0) gdX7_worthOr_11.2.2.2.1 rfl (by decide) ?_
    exact aw_ireturn (w := [(m, .inr (9, [.ref Mo, .ref Lo, .ref Do, .ref tl, .ref ca, .int x14.2])), (Mo, .inl (4, 3, .inr (.inr (.inr (.inr mm))))), (q, .inl (0, 6144, .inl f))]) [2, 0, 1] gdX7_worthOr_11.2.2.2.2.1 rfl rfl rfl rfl (PN.mk (fun _ => 0) rfl rfl)
def fX7_confirm (N K : Nat) (th : Int32) (f : Nat → Int32) (p0 : Int32) (p1 : Int32) (p2 : Int32) (p3 : Int32) (p4 : Int32) : Option (Int32 × Int32) :=
  ((fX7_isNo N K p0 (0 : Int32) (2 : Int32)).bind (fun x4 => ((fX7_isOut N K p1 p2 p3).bind (fun x11 => ((fX7_isThrown N K th x4 x11).bind (fun x14 => (if x14.1 = 0 then ((fX7_kept N K x14.2 f p0 p1 p2 p3).bind (fun x28 => (if x28 < 0 then (some ((0 : Int32), x14.2)) else (if x28 = p4 then (some ((1 : Int32), x14.2)) else (some ((0 : Int32), x14.2)))))) else (some ((0 : Int32), x14.2)))))))))
set_option maxHeartbeats 4000000 in
set_option maxRecDepth 100000 in
theorem ok_X7_confirm {N K : Nat} {m Mo Lo Do tl ca q : Nat} {mm : Nat → Option Nat} {th : Int32} {f : Nat → Int32} {p0 : Int32} {p1 : Int32} {p2 : Int32} {p3 : Int32} {p4 : Int32} (hm : ¬ (p0 < 0 ∨ 3 ≤ p0.toNatClampNeg) → mm p0.toNatClampNeg = some q) {xr : Int32 × Int32} (hE : fX7_confirm N K th f p0 p1 p2 p3 p4 = some xr) : OkM yX7_confirm (.code yX7_confirm cX7_confirm 7 (some .boolean)) (2) 0 0 [.ref m, .int p0, .int p1, .int p2, .int p3, .int p4] [(m, .inr (9, [.ref Mo, .ref Lo, .ref Do, .ref tl, .ref ca, .int th])), (Mo, .inl (4, 3, .inr (.inr (.inr (.inr mm))))), (q, .inl (0, 6144, .inl f))] ((PN (U := Int32 × Int32) (fun zz _ => some (.int zz.1)) (fun zz ad => [(m, .inr (9, [.ref Mo, .ref Lo, .ref Do, .ref tl, .ref ca, .int zz.2])), (Mo, .inl (4, 3, .inr (.inr (.inr (.inr mm))))), (q, .inl (0, 6144, .inl f))])) xr) := by
  refine ok_of (by decide) (Nat.le_of_ble_eq_true rfl) hE ?_
  refine aw_locals (lv' := [(0, .ref m), (1, .int p0), (2, .int p1), (3, .int p2), (4, .int p3), (5, .int p4)]) [0, 1, 2, 3, 4, 5] rfl ?_
  refine aw_aload_n (q := 1) gdX7_confirm_0.1 rfl 0 rfl ?_
  refine aw_iload_n (q := 2) gdX7_confirm_0.2.1 rfl 1 rfl ?_
  refine aw_iconst (q := 3) (v := 0) gdX7_confirm_0.2.2.1 rfl (by decide) ?_
  refine aw_iconst (q := 4) (v := 2) gdX7_confirm_0.2.2.2.1 rfl (by decide) ?_
  refine aw_call (q := 7) (kc1 := 0) (ks1 := 0) (wc := []) (wr := [(m, .inr (9, [.ref Mo, .ref Lo, .ref Do, .ref tl, .ref ca, .int th])), (Mo, .inl (4, 3, .inr (.inr (.inr (.inr mm))))), (q, .inl (0, 6144, .inl f))]) (st1 := fun x4 g4 => [.int x4, .ref m]) (ws1 := fun x4 g4 => [(m, .inr (9, [.ref Mo, .ref Lo, .ref Do, .ref tl, .ref ca, .int th])), (Mo, .inl (4, 3, .inr (.inr (.inr (.inr mm))))), (q, .inl (0, 6144, .inl f))]) (As := [.int p0, .int (0 : Int32), .int (2 : Int32)]) [] [0, 1, 2] (fun _ => runS gdX7_confirm_0.2.2.2.2.1 mi_X7_isNo st_X7_isNo ml_X7_31 (by omega) rfl (Nat.le_of_ble_eq_true rfl) rfl) (fun x9 h9 => ok_X7_isNo h9) rfl rfl rfl rfl rfl (by decide +kernel) (by omega) (by omega) (fun _ _ => rfl) (fun _ _ => rfl) (fun x4 g4 => ?_)
  refine aw_iload_n (q := 8) gdX7_confirm_0.2.2.2.2.2.1 rfl 2 rfl ?_
  refine aw_iload_n (q := 9) gdX7_confirm_0.2.2.2.2.2.2.1 rfl 3 rfl ?_
  refine aw_iload (q := 11) gdX7_confirm_0.2.2.2.2.2.2.2 rfl 4 rfl ?_
  refine aw_call (q := 14) (kc1 := 0) (ks1 := 0) (wc := []) (wr := [(m, .inr (9, [.ref Mo, .ref Lo, .ref Do, .ref tl, .ref ca, .int th])), (Mo, .inl (4, 3, .inr (.inr (.inr (.inr mm))))), (q, .inl (0, 6144, .inl f))]) (st1 := fun x11 g11 => [.int x11, .int x4, .ref m]) (ws1 := fun x11 g11 => [(m, .inr (9, [.ref Mo, .ref Lo, .ref Do, .ref tl, .ref ca, .int th])), (Mo, .inl (4, 3, .inr (.inr (.inr (.inr mm))))), (q, .inl (0, 6144, .inl f))]) (As := [.int p1, .int p2, .int p3]) [] [0, 1, 2] (fun _ => runS gdX7_confirm_11.1 mi_X7_isOut st_X7_isOut ml_X7_107 (by omega) rfl (Nat.le_of_ble_eq_true rfl) rfl) (fun x9 h9 => ok_X7_isOut h9) rfl rfl rfl rfl rfl (by decide +kernel) (by omega) (by omega) (fun _ _ => rfl) (fun _ _ => rfl) (fun x11 g11 => ?_)
  refine aw_call (q := 17) (kc1 := 0) (ks1 := 0) (wc := [(m, .inr (9, [.ref Mo, .ref Lo, .ref Do, .ref tl, .ref ca, .int th]))]) (wr := [(Mo, .inl (4, 3, .inr (.inr (.inr (.inr mm))))), (q, .inl (0, 6144, .inl f))]) (st1 := fun x14 g14 => [.int x14.1]) (ws1 := fun x14 g14 => [(Mo, .inl (4, 3, .inr (.inr (.inr (.inr mm))))), (q, .inl (0, 6144, .inl f)), (m, .inr (9, [.ref Mo, .ref Lo, .ref Do, .ref tl, .ref ca, .int x14.2]))]) (As := [.ref m, .int x4, .int x11]) [0] [1, 2] (fun _ => runV (q0 := 0) gdX7_confirm_11.2.1 mi_X7_isThrown im_X7_isThrown se_X7_isThrown ml_X7_110 (by omega) rfl (Nat.le_of_ble_eq_true rfl) rfl rfl rfl rfl) (fun x9 h9 => ok_X7_isThrown h9) rfl rfl rfl rfl rfl (by decide +kernel) (by omega) (by omega) (fun _ _ => rfl) (fun _ _ => rfl) (fun x14 g14 => ?_)
  refine aw_if_eq (tgt := 22) (q := 20) gdX7_confirm_11.2.2.1 (by decide) rfl (fun h_17 => ?_) (fun h_17 => ?_)
  · refine aw_aload_n (q := 23) gdX7_confirm_11.2.2.2.2.2.1 rfl 0 rfl ?_
    refine aw_iload_n (q := 24) gdX7_confirm_11.2.2.2.2.2.2.1 rfl 1 rfl ?_
    refine aw_iload_n (q := 25) gdX7_confirm_11.2.2.2.2.2.2.2 rfl 2 rfl ?_
    refine aw_iload_n (q := 26) gdX7_confirm_25.1 rfl 3 rfl ?_
    refine aw_iload (q := 28) gdX7_confirm_25.2.1 rfl 4 rfl ?_
    refine aw_call (q := 31) (kc1 := 0) (ks1 := 0) (wc := [(m, .inr (9, [.ref Mo, .ref Lo, .ref Do, .ref tl, .ref ca, .int x14.2])), (Mo, .inl (4, 3, .inr (.inr (.inr (.inr mm))))), (q, .inl (0, 6144, .inl f))]) (wr := []) (st1 := fun x28 g28 => [.int x28]) (ws1 := fun x28 g28 => [(m, .inr (9, [.ref Mo, .ref Lo, .ref Do, .ref tl, .ref ca, .int x14.2])), (Mo, .inl (4, 3, .inr (.inr (.inr (.inr mm))))), (q, .inl (0, 6144, .inl f))]) (As := [.ref m, .int p0, .int p1, .int p2, .int p3]) [2, 0, 1] [] (fun _ => runV (q0 := 2) gdX7_confirm_25.2.2.1 mi_X7_kept im_X7_kept se_X7_kept ml_X7_131 (by omega) rfl (Nat.le_of_ble_eq_true rfl) rfl rfl rfl rfl) (fun x9 h9 => ok_X7_kept hm h9) rfl rfl rfl rfl rfl (by decide +kernel) (by omega) (by omega) (fun _ _ => rfl) (fun _ _ => rfl) (fun x28 g28 => ?_)
    refine aw_istore (q := 33) (lv' := [(6, .int x28), (0, .ref m), (1, .int p0), (2, .int p1), (3, .int p2), (4, .int p3), (5, .int p4)]) gdX7_confirm_25.2.2.2.1 rfl (by decide) rfl ?_
    refine aw_iload (q := 35) gdX7_confirm_25.2.2.2.2.1 rfl 0 rfl ?_
    refine aw_if_lt (tgt := 49) (q := 38) gdX7_confirm_25.2.2.2.2.2.1 (by decide) rfl (fun h_35 => ?_) (fun h_35 => ?_)
    · refine aw_iconst (q := 50) (v := 0) gdX7_confirm_42.2.2.2.1 rfl (by decide) ?_
      exact aw_ireturn (w := [(m, .inr (9, [.ref Mo, .ref Lo, .ref Do, .ref tl, .ref ca, .int x14.2])), (Mo, .inl (4, 3, .inr (.inr (.inr (.inr mm))))), (q, .inl (0, 6144, .inl f))]) [0, 1, 2] gdX7_confirm_42.2.2.2.2 rfl rfl rfl rfl (PN.mk (fun _ => 0) rfl rfl)
    · refine aw_iload (q := 40) gdX7_confirm_25.2.2.2.2.2.2.1 rfl 0 rfl ?_
      refine aw_iload (q := 42) gdX7_confirm_25.2.2.2.2.2.2.2 rfl 6 rfl ?_
      refine aw_icmp_ne (tgt := 49) (q := 45) gdX7_confirm_42.1 (by decide) rfl (fun h_42 => ?_) (fun h_42 => ?_)
      · refine aw_iconst (q := 50) (v := 0) gdX7_confirm_42.2.2.2.1 rfl (by decide) ?_
        exact aw_ireturn (w := [(m, .inr (9, [.ref Mo, .ref Lo, .ref Do, .ref tl, .ref ca, .int x14.2])), (Mo, .inl (4, 3, .inr (.inr (.inr (.inr mm))))), (q, .inl (0, 6144, .inl f))]) [0, 1, 2] gdX7_confirm_42.2.2.2.2 rfl rfl rfl rfl (PN.mk (fun _ => 0) rfl rfl)
      · refine aw_iconst (q := 46) (v := 1) gdX7_confirm_42.2.1 rfl (by decide) ?_
        refine aw_goto (tgt := 50) gdX7_confirm_42.2.2.1 (by decide) ?_
        exact aw_ireturn (w := [(m, .inr (9, [.ref Mo, .ref Lo, .ref Do, .ref tl, .ref ca, .int x14.2])), (Mo, .inl (4, 3, .inr (.inr (.inr (.inr mm))))), (q, .inl (0, 6144, .inl f))]) [0, 1, 2] gdX7_confirm_42.2.2.2.2 rfl rfl rfl rfl (PN.mk (fun _ => 0) rfl rfl)
  · refine aw_iconst (q := 21) (v := 0) gdX7_confirm_11.2.2.2.1 rfl (by decide) ?_
    exact aw_ireturn (w := [(m, .inr (9, [.ref Mo, .ref Lo, .ref Do, .ref tl, .ref ca, .int x14.2])), (Mo, .inl (4, 3, .inr (.inr (.inr (.inr mm))))), (q, .inl (0, 6144, .inl f))]) [2, 0, 1] gdX7_confirm_11.2.2.2.2.1 rfl rfl rfl rfl (PN.mk (fun _ => 0) rfl rfl)
def fX7_about (N K : Nat) (th : Int32) (f : Nat → Int32) (p0 : Int32) (p1 : Int32) : Option (Int32 × Int32) :=
  ((fX7_isNo N K p0 (0 : Int32) (2 : Int32)).bind (fun x4 => ((fX7_isNo N K p1 (0 : Int32) (3 : Int32)).bind (fun x10 => ((fX7_isThrown N K th x4 x10).bind (fun x13 => (if x13.1 = 0 then ((fX7_told2 N K x13.2 f p0 p1).bind (fun x26 => (some (x26, x13.2)))) else (some ((0 : Int32), x13.2)))))))))
set_option maxHeartbeats 4000000 in
set_option maxRecDepth 100000 in
theorem ok_X7_about {N K : Nat} {m Mo Lo Do tl ca q : Nat} {mm : Nat → Option Nat} {th : Int32} {f : Nat → Int32} {p0 : Int32} {p1 : Int32} (hm : ¬ (p0 < 0 ∨ 3 ≤ p0.toNatClampNeg) → mm p0.toNatClampNeg = some q) {xr : Int32 × Int32} (hE : fX7_about N K th f p0 p1 = some xr) : OkM yX7_about (.code yX7_about cX7_about 3 (some .int)) (2) 0 0 [.ref m, .int p0, .int p1] [(m, .inr (9, [.ref Mo, .ref Lo, .ref Do, .ref tl, .ref ca, .int th])), (Mo, .inl (4, 3, .inr (.inr (.inr (.inr mm))))), (q, .inl (0, 6144, .inl f))] ((PN (U := Int32 × Int32) (fun zz _ => some (.int zz.1)) (fun zz ad => [(m, .inr (9, [.ref Mo, .ref Lo, .ref Do, .ref tl, .ref ca, .int zz.2])), (Mo, .inl (4, 3, .inr (.inr (.inr (.inr mm))))), (q, .inl (0, 6144, .inl f))])) xr) := by
  refine ok_of (by decide) (Nat.le_of_ble_eq_true rfl) hE ?_
  refine aw_locals (lv' := [(0, .ref m), (1, .int p0), (2, .int p1)]) [0, 1, 2] rfl ?_
  refine aw_aload_n (q := 1) gdX7_about_0.1 rfl 0 rfl ?_
  refine aw_iload_n (q := 2) gdX7_about_0.2.1 rfl 1 rfl ?_
  refine aw_iconst (q := 3) (v := 0) gdX7_about_0.2.2.1 rfl (by decide) ?_
  refine aw_iconst (q := 4) (v := 2) gdX7_about_0.2.2.2.1 rfl (by decide) ?_
  refine aw_call (q := 7) (kc1 := 0) (ks1 := 0) (wc := []) (wr := [(m, .inr (9, [.ref Mo, .ref Lo, .ref Do, .ref tl, .ref ca, .int th])), (Mo, .inl (4, 3, .inr (.inr (.inr (.inr mm))))), (q, .inl (0, 6144, .inl f))]) (st1 := fun x4 g4 => [.int x4, .ref m]) (ws1 := fun x4 g4 => [(m, .inr (9, [.ref Mo, .ref Lo, .ref Do, .ref tl, .ref ca, .int th])), (Mo, .inl (4, 3, .inr (.inr (.inr (.inr mm))))), (q, .inl (0, 6144, .inl f))]) (As := [.int p0, .int (0 : Int32), .int (2 : Int32)]) [] [0, 1, 2] (fun _ => runS gdX7_about_0.2.2.2.2.1 mi_X7_isNo st_X7_isNo ml_X7_31 (by omega) rfl (Nat.le_of_ble_eq_true rfl) rfl) (fun x9 h9 => ok_X7_isNo h9) rfl rfl rfl rfl rfl (by decide +kernel) (by omega) (by omega) (fun _ _ => rfl) (fun _ _ => rfl) (fun x4 g4 => ?_)
  refine aw_iload_n (q := 8) gdX7_about_0.2.2.2.2.2.1 rfl 2 rfl ?_
  refine aw_iconst (q := 9) (v := 0) gdX7_about_0.2.2.2.2.2.2.1 rfl (by decide) ?_
  refine aw_iconst (q := 10) (v := 3) gdX7_about_0.2.2.2.2.2.2.2 rfl (by decide) ?_
  refine aw_call (q := 13) (kc1 := 0) (ks1 := 0) (wc := []) (wr := [(m, .inr (9, [.ref Mo, .ref Lo, .ref Do, .ref tl, .ref ca, .int th])), (Mo, .inl (4, 3, .inr (.inr (.inr (.inr mm))))), (q, .inl (0, 6144, .inl f))]) (st1 := fun x10 g10 => [.int x10, .int x4, .ref m]) (ws1 := fun x10 g10 => [(m, .inr (9, [.ref Mo, .ref Lo, .ref Do, .ref tl, .ref ca, .int th])), (Mo, .inl (4, 3, .inr (.inr (.inr (.inr mm))))), (q, .inl (0, 6144, .inl f))]) (As := [.int p1, .int (0 : Int32), .int (3 : Int32)]) [] [0, 1, 2] (fun _ => runS gdX7_about_10.1 mi_X7_isNo st_X7_isNo ml_X7_31 (by omega) rfl (Nat.le_of_ble_eq_true rfl) rfl) (fun x9 h9 => ok_X7_isNo h9) rfl rfl rfl rfl rfl (by decide +kernel) (by omega) (by omega) (fun _ _ => rfl) (fun _ _ => rfl) (fun x10 g10 => ?_)
  refine aw_call (q := 16) (kc1 := 0) (ks1 := 0) (wc := [(m, .inr (9, [.ref Mo, .ref Lo, .ref Do, .ref tl, .ref ca, .int th]))]) (wr := [(Mo, .inl (4, 3, .inr (.inr (.inr (.inr mm))))), (q, .inl (0, 6144, .inl f))]) (st1 := fun x13 g13 => [.int x13.1]) (ws1 := fun x13 g13 => [(Mo, .inl (4, 3, .inr (.inr (.inr (.inr mm))))), (q, .inl (0, 6144, .inl f)), (m, .inr (9, [.ref Mo, .ref Lo, .ref Do, .ref tl, .ref ca, .int x13.2]))]) (As := [.ref m, .int x4, .int x10]) [0] [1, 2] (fun _ => runV (q0 := 0) gdX7_about_10.2.1 mi_X7_isThrown im_X7_isThrown se_X7_isThrown ml_X7_110 (by omega) rfl (Nat.le_of_ble_eq_true rfl) rfl rfl rfl rfl) (fun x9 h9 => ok_X7_isThrown h9) rfl rfl rfl rfl rfl (by decide +kernel) (by omega) (by omega) (fun _ _ => rfl) (fun _ _ => rfl) (fun x13 g13 => ?_)
  refine aw_if_eq (tgt := 23) (q := 19) gdX7_about_10.2.2.1 (by decide) rfl (fun h_16 => ?_) (fun h_16 => ?_)
  · refine aw_aload_n (q := 24) gdX7_about_10.2.2.2.2.2.1 rfl 0 rfl ?_
    refine aw_iload_n (q := 25) gdX7_about_10.2.2.2.2.2.2.1 rfl 1 rfl ?_
    refine aw_iload_n (q := 26) gdX7_about_10.2.2.2.2.2.2.2 rfl 2 rfl ?_
    refine aw_call (q := 29) (kc1 := 0) (ks1 := 0) (wc := [(m, .inr (9, [.ref Mo, .ref Lo, .ref Do, .ref tl, .ref ca, .int x13.2])), (Mo, .inl (4, 3, .inr (.inr (.inr (.inr mm))))), (q, .inl (0, 6144, .inl f))]) (wr := []) (st1 := fun x26 g26 => [.int x26]) (ws1 := fun x26 g26 => [(m, .inr (9, [.ref Mo, .ref Lo, .ref Do, .ref tl, .ref ca, .int x13.2])), (Mo, .inl (4, 3, .inr (.inr (.inr (.inr mm))))), (q, .inl (0, 6144, .inl f))]) (As := [.ref m, .int p0, .int p1]) [2, 0, 1] [] (fun _ => runV (q0 := 2) gdX7_about_26.1 mi_X7_told_ im_X7_told_ se_X7_told_ ml_X7_153 (by omega) rfl (Nat.le_of_ble_eq_true rfl) rfl rfl rfl rfl) (fun x9 h9 => ok_X7_told2 hm h9) rfl rfl rfl rfl rfl (by decide +kernel) (by omega) (by omega) (fun _ _ => rfl) (fun _ _ => rfl) (fun x26 g26 => ?_)
    exact aw_ireturn (w := [(m, .inr (9, [.ref Mo, .ref Lo, .ref Do, .ref tl, .ref ca, .int x13.2])), (Mo, .inl (4, 3, .inr (.inr (.inr (.inr mm))))), (q, .inl (0, 6144, .inl f))]) [0, 1, 2] gdX7_about_26.2 rfl rfl rfl rfl (PN.mk (fun _ => 0) rfl rfl)
  · refine aw_iconst (q := 20) (v := 0) gdX7_about_10.2.2.2.1 rfl (by decide) ?_
    refine aw_goto (tgt := 29) gdX7_about_10.2.2.2.2.1 (by decide) ?_
    exact aw_ireturn (w := [(m, .inr (9, [.ref Mo, .ref Lo, .ref Do, .ref tl, .ref ca, .int x13.2])), (Mo, .inl (4, 3, .inr (.inr (.inr (.inr mm))))), (q, .inl (0, 6144, .inl f))]) [2, 0, 1] gdX7_about_26.2 rfl rfl rfl rfl (PN.mk (fun _ => 0) rfl rfl)
def fX7_has (N K : Nat) (th : Int32) (f : Nat → Int32) (p0 : Int32) (p1 : Int32) : Option (Int32 × Int32) :=
  ((fX7_isNo N K p0 (0 : Int32) (2 : Int32)).bind (fun x4 => ((fX7_isThrown N K th x4 (0 : Int32)).bind (fun x8 => (if x8.1 = 0 then ((fX7_counted N K x8.2 f p0 (3 : Int32) p1).bind (fun x18 => (if x18 ≤ 0 then (some ((0 : Int32), x8.2)) else (some ((1 : Int32), x8.2))))) else (some ((0 : Int32), x8.2)))))))
set_option maxHeartbeats 4000000 in
set_option maxRecDepth 100000 in
theorem ok_X7_has {N K : Nat} {m Mo Lo Do tl ca q : Nat} {mm : Nat → Option Nat} {th : Int32} {f : Nat → Int32} {p0 : Int32} {p1 : Int32} (hm : ¬ (p0 < 0 ∨ 3 ≤ p0.toNatClampNeg) → mm p0.toNatClampNeg = some q) {xr : Int32 × Int32} (hE : fX7_has N K th f p0 p1 = some xr) : OkM yX7_has (.code yX7_has cX7_has 3 (some .boolean)) (3) 0 0 [.ref m, .int p0, .int p1] [(m, .inr (9, [.ref Mo, .ref Lo, .ref Do, .ref tl, .ref ca, .int th])), (Mo, .inl (4, 3, .inr (.inr (.inr (.inr mm))))), (q, .inl (0, 6144, .inl f))] ((PN (U := Int32 × Int32) (fun zz _ => some (.int zz.1)) (fun zz ad => [(m, .inr (9, [.ref Mo, .ref Lo, .ref Do, .ref tl, .ref ca, .int zz.2])), (Mo, .inl (4, 3, .inr (.inr (.inr (.inr mm))))), (q, .inl (0, 6144, .inl f))])) xr) := by
  refine ok_of (by decide) (Nat.le_of_ble_eq_true rfl) hE ?_
  refine aw_locals (lv' := [(0, .ref m), (1, .int p0), (2, .int p1)]) [0, 1, 2] rfl ?_
  refine aw_aload_n (q := 1) gdX7_has_0.1 rfl 0 rfl ?_
  refine aw_iload_n (q := 2) gdX7_has_0.2.1 rfl 1 rfl ?_
  refine aw_iconst (q := 3) (v := 0) gdX7_has_0.2.2.1 rfl (by decide) ?_
  refine aw_iconst (q := 4) (v := 2) gdX7_has_0.2.2.2.1 rfl (by decide) ?_
  refine aw_call (q := 7) (kc1 := 0) (ks1 := 0) (wc := []) (wr := [(m, .inr (9, [.ref Mo, .ref Lo, .ref Do, .ref tl, .ref ca, .int th])), (Mo, .inl (4, 3, .inr (.inr (.inr (.inr mm))))), (q, .inl (0, 6144, .inl f))]) (st1 := fun x4 g4 => [.int x4, .ref m]) (ws1 := fun x4 g4 => [(m, .inr (9, [.ref Mo, .ref Lo, .ref Do, .ref tl, .ref ca, .int th])), (Mo, .inl (4, 3, .inr (.inr (.inr (.inr mm))))), (q, .inl (0, 6144, .inl f))]) (As := [.int p0, .int (0 : Int32), .int (2 : Int32)]) [] [0, 1, 2] (fun _ => runS gdX7_has_0.2.2.2.2.1 mi_X7_isNo st_X7_isNo ml_X7_31 (by omega) rfl (Nat.le_of_ble_eq_true rfl) rfl) (fun x9 h9 => ok_X7_isNo h9) rfl rfl rfl rfl rfl (by decide +kernel) (by omega) (by omega) (fun _ _ => rfl) (fun _ _ => rfl) (fun x4 g4 => ?_)
  refine aw_iconst (q := 8) (v := 0) gdX7_has_0.2.2.2.2.2.1 rfl (by decide) ?_
  refine aw_call (q := 11) (kc1 := 0) (ks1 := 0) (wc := [(m, .inr (9, [.ref Mo, .ref Lo, .ref Do, .ref tl, .ref ca, .int th]))]) (wr := [(Mo, .inl (4, 3, .inr (.inr (.inr (.inr mm))))), (q, .inl (0, 6144, .inl f))]) (st1 := fun x8 g8 => [.int x8.1]) (ws1 := fun x8 g8 => [(Mo, .inl (4, 3, .inr (.inr (.inr (.inr mm))))), (q, .inl (0, 6144, .inl f)), (m, .inr (9, [.ref Mo, .ref Lo, .ref Do, .ref tl, .ref ca, .int x8.2]))]) (As := [.ref m, .int x4, .int (0 : Int32)]) [0] [1, 2] (fun _ => runV (q0 := 0) gdX7_has_0.2.2.2.2.2.2.1 mi_X7_isThrown im_X7_isThrown se_X7_isThrown ml_X7_110 (by omega) rfl (Nat.le_of_ble_eq_true rfl) rfl rfl rfl rfl) (fun x9 h9 => ok_X7_isThrown h9) rfl rfl rfl rfl rfl (by decide +kernel) (by omega) (by omega) (fun _ _ => rfl) (fun _ _ => rfl) (fun x8 g8 => ?_)
  refine aw_if_ne (tgt := 28) (q := 14) gdX7_has_0.2.2.2.2.2.2.2 (by decide) rfl (fun h_11 => ?_) (fun h_11 => ?_)
  · refine aw_iconst (q := 29) (v := 0) gdX7_has_28.1 rfl (by decide) ?_
    exact aw_ireturn (w := [(m, .inr (9, [.ref Mo, .ref Lo, .ref Do, .ref tl, .ref ca, .int x8.2])), (Mo, .inl (4, 3, .inr (.inr (.inr (.inr mm))))), (q, .inl (0, 6144, .inl f))]) [2, 0, 1] gdX7_has_28.2 rfl rfl rfl rfl (PN.mk (fun _ => 0) rfl rfl)
  · refine aw_aload_n (q := 15) gdX7_has_14.1 rfl 0 rfl ?_
    refine aw_iload_n (q := 16) gdX7_has_14.2.1 rfl 1 rfl ?_
    refine aw_iconst (q := 17) (v := 3) gdX7_has_14.2.2.1 rfl (by decide) ?_
    refine aw_iload_n (q := 18) gdX7_has_14.2.2.2.1 rfl 2 rfl ?_
    refine aw_call (q := 21) (kc1 := 0) (ks1 := 0) (wc := [(m, .inr (9, [.ref Mo, .ref Lo, .ref Do, .ref tl, .ref ca, .int x8.2])), (Mo, .inl (4, 3, .inr (.inr (.inr (.inr mm))))), (q, .inl (0, 6144, .inl f))]) (wr := []) (st1 := fun x18 g18 => [.int x18]) (ws1 := fun x18 g18 => [(m, .inr (9, [.ref Mo, .ref Lo, .ref Do, .ref tl, .ref ca, .int x8.2])), (Mo, .inl (4, 3, .inr (.inr (.inr (.inr mm))))), (q, .inl (0, 6144, .inl f))]) (As := [.ref m, .int p0, .int (3 : Int32), .int p1]) [2, 0, 1] [] (fun _ => runV (q0 := 2) gdX7_has_14.2.2.2.2.1 mi_X7_counted im_X7_counted se_X7_counted ml_X7_150 (by omega) rfl (Nat.le_of_ble_eq_true rfl) rfl rfl rfl rfl) (fun x9 h9 => ok_X7_counted hm h9) rfl rfl rfl rfl rfl (by decide +kernel) (by omega) (by omega) (fun _ _ => rfl) (fun _ _ => rfl) (fun x18 g18 => ?_)
    refine aw_if_le (tgt := 28) (q := 24) gdX7_has_14.2.2.2.2.2.1 (by decide) rfl (fun h_21 => ?_) (fun h_21 => ?_)
    · refine aw_iconst (q := 29) (v := 0) gdX7_has_28.1 rfl (by decide) ?_
      exact aw_ireturn (w := [(m, .inr (9, [.ref Mo, .ref Lo, .ref Do, .ref tl, .ref ca, .int x8.2])), (Mo, .inl (4, 3, .inr (.inr (.inr (.inr mm))))), (q, .inl (0, 6144, .inl f))]) [0, 1, 2] gdX7_has_28.2 rfl rfl rfl rfl (PN.mk (fun _ => 0) rfl rfl)
    · refine aw_iconst (q := 25) (v := 1) gdX7_has_14.2.2.2.2.2.2.1 rfl (by decide) ?_
      refine aw_goto (tgt := 29) gdX7_has_14.2.2.2.2.2.2.2 (by decide) ?_
      exact aw_ireturn (w := [(m, .inr (9, [.ref Mo, .ref Lo, .ref Do, .ref tl, .ref ca, .int x8.2])), (Mo, .inl (4, 3, .inr (.inr (.inr (.inr mm))))), (q, .inl (0, 6144, .inl f))]) [0, 1, 2] gdX7_has_28.2 rfl rfl rfl rfl (PN.mk (fun _ => 0) rfl rfl)
def fX7_count (N K : Nat) (th : Int32) (f : Nat → Int32) (p0 : Int32) (p1 : Int32) (p2 : Int32) : Option (Int32 × Int32) :=
  ((fX7_isNo N K p0 (0 : Int32) (2 : Int32)).bind (fun x4 => ((fX7_isNo N K p1 (0 : Int32) (3 : Int32)).bind (fun x10 => ((fX7_isThrown N K th x4 x10).bind (fun x13 => (if x13.1 = 0 then ((fX7_counted N K x13.2 f p0 p1 p2).bind (fun x27 => (some (x27, x13.2)))) else (some ((0 : Int32), x13.2)))))))))
set_option maxHeartbeats 4000000 in
set_option maxRecDepth 100000 in
theorem ok_X7_count {N K : Nat} {m Mo Lo Do tl ca q : Nat} {mm : Nat → Option Nat} {th : Int32} {f : Nat → Int32} {p0 : Int32} {p1 : Int32} {p2 : Int32} (hm : ¬ (p0 < 0 ∨ 3 ≤ p0.toNatClampNeg) → mm p0.toNatClampNeg = some q) {xr : Int32 × Int32} (hE : fX7_count N K th f p0 p1 p2 = some xr) : OkM yX7_count (.code yX7_count cX7_count 4 (some .int)) (3) 0 0 [.ref m, .int p0, .int p1, .int p2] [(m, .inr (9, [.ref Mo, .ref Lo, .ref Do, .ref tl, .ref ca, .int th])), (Mo, .inl (4, 3, .inr (.inr (.inr (.inr mm))))), (q, .inl (0, 6144, .inl f))] ((PN (U := Int32 × Int32) (fun zz _ => some (.int zz.1)) (fun zz ad => [(m, .inr (9, [.ref Mo, .ref Lo, .ref Do, .ref tl, .ref ca, .int zz.2])), (Mo, .inl (4, 3, .inr (.inr (.inr (.inr mm))))), (q, .inl (0, 6144, .inl f))])) xr) := by
  refine ok_of (by decide) (Nat.le_of_ble_eq_true rfl) hE ?_
  refine aw_locals (lv' := [(0, .ref m), (1, .int p0), (2, .int p1), (3, .int p2)]) [0, 1, 2, 3] rfl ?_
  refine aw_aload_n (q := 1) gdX7_count_0.1 rfl 0 rfl ?_
  refine aw_iload_n (q := 2) gdX7_count_0.2.1 rfl 1 rfl ?_
  refine aw_iconst (q := 3) (v := 0) gdX7_count_0.2.2.1 rfl (by decide) ?_
  refine aw_iconst (q := 4) (v := 2) gdX7_count_0.2.2.2.1 rfl (by decide) ?_
  refine aw_call (q := 7) (kc1 := 0) (ks1 := 0) (wc := []) (wr := [(m, .inr (9, [.ref Mo, .ref Lo, .ref Do, .ref tl, .ref ca, .int th])), (Mo, .inl (4, 3, .inr (.inr (.inr (.inr mm))))), (q, .inl (0, 6144, .inl f))]) (st1 := fun x4 g4 => [.int x4, .ref m]) (ws1 := fun x4 g4 => [(m, .inr (9, [.ref Mo, .ref Lo, .ref Do, .ref tl, .ref ca, .int th])), (Mo, .inl (4, 3, .inr (.inr (.inr (.inr mm))))), (q, .inl (0, 6144, .inl f))]) (As := [.int p0, .int (0 : Int32), .int (2 : Int32)]) [] [0, 1, 2] (fun _ => runS gdX7_count_0.2.2.2.2.1 mi_X7_isNo st_X7_isNo ml_X7_31 (by omega) rfl (Nat.le_of_ble_eq_true rfl) rfl) (fun x9 h9 => ok_X7_isNo h9) rfl rfl rfl rfl rfl (by decide +kernel) (by omega) (by omega) (fun _ _ => rfl) (fun _ _ => rfl) (fun x4 g4 => ?_)
  refine aw_iload_n (q := 8) gdX7_count_0.2.2.2.2.2.1 rfl 2 rfl ?_
  refine aw_iconst (q := 9) (v := 0) gdX7_count_0.2.2.2.2.2.2.1 rfl (by decide) ?_
  refine aw_iconst (q := 10) (v := 3) gdX7_count_0.2.2.2.2.2.2.2 rfl (by decide) ?_
  refine aw_call (q := 13) (kc1 := 0) (ks1 := 0) (wc := []) (wr := [(m, .inr (9, [.ref Mo, .ref Lo, .ref Do, .ref tl, .ref ca, .int th])), (Mo, .inl (4, 3, .inr (.inr (.inr (.inr mm))))), (q, .inl (0, 6144, .inl f))]) (st1 := fun x10 g10 => [.int x10, .int x4, .ref m]) (ws1 := fun x10 g10 => [(m, .inr (9, [.ref Mo, .ref Lo, .ref Do, .ref tl, .ref ca, .int th])), (Mo, .inl (4, 3, .inr (.inr (.inr (.inr mm))))), (q, .inl (0, 6144, .inl f))]) (As := [.int p1, .int (0 : Int32), .int (3 : Int32)]) [] [0, 1, 2] (fun _ => runS gdX7_count_10.1 mi_X7_isNo st_X7_isNo ml_X7_31 (by omega) rfl (Nat.le_of_ble_eq_true rfl) rfl) (fun x9 h9 => ok_X7_isNo h9) rfl rfl rfl rfl rfl (by decide +kernel) (by omega) (by omega) (fun _ _ => rfl) (fun _ _ => rfl) (fun x10 g10 => ?_)
  refine aw_call (q := 16) (kc1 := 0) (ks1 := 0) (wc := [(m, .inr (9, [.ref Mo, .ref Lo, .ref Do, .ref tl, .ref ca, .int th]))]) (wr := [(Mo, .inl (4, 3, .inr (.inr (.inr (.inr mm))))), (q, .inl (0, 6144, .inl f))]) (st1 := fun x13 g13 => [.int x13.1]) (ws1 := fun x13 g13 => [(Mo, .inl (4, 3, .inr (.inr (.inr (.inr mm))))), (q, .inl (0, 6144, .inl f)), (m, .inr (9, [.ref Mo, .ref Lo, .ref Do, .ref tl, .ref ca, .int x13.2]))]) (As := [.ref m, .int x4, .int x10]) [0] [1, 2] (fun _ => runV (q0 := 0) gdX7_count_10.2.1 mi_X7_isThrown im_X7_isThrown se_X7_isThrown ml_X7_110 (by omega) rfl (Nat.le_of_ble_eq_true rfl) rfl rfl rfl rfl) (fun x9 h9 => ok_X7_isThrown h9) rfl rfl rfl rfl rfl (by decide +kernel) (by omega) (by omega) (fun _ _ => rfl) (fun _ _ => rfl) (fun x13 g13 => ?_)
  refine aw_if_eq (tgt := 23) (q := 19) gdX7_count_10.2.2.1 (by decide) rfl (fun h_16 => ?_) (fun h_16 => ?_)
  · refine aw_aload_n (q := 24) gdX7_count_10.2.2.2.2.2.1 rfl 0 rfl ?_
    refine aw_iload_n (q := 25) gdX7_count_10.2.2.2.2.2.2.1 rfl 1 rfl ?_
    refine aw_iload_n (q := 26) gdX7_count_10.2.2.2.2.2.2.2 rfl 2 rfl ?_
    refine aw_iload_n (q := 27) gdX7_count_26.1 rfl 3 rfl ?_
    refine aw_call (q := 30) (kc1 := 0) (ks1 := 0) (wc := [(m, .inr (9, [.ref Mo, .ref Lo, .ref Do, .ref tl, .ref ca, .int x13.2])), (Mo, .inl (4, 3, .inr (.inr (.inr (.inr mm))))), (q, .inl (0, 6144, .inl f))]) (wr := []) (st1 := fun x27 g27 => [.int x27]) (ws1 := fun x27 g27 => [(m, .inr (9, [.ref Mo, .ref Lo, .ref Do, .ref tl, .ref ca, .int x13.2])), (Mo, .inl (4, 3, .inr (.inr (.inr (.inr mm))))), (q, .inl (0, 6144, .inl f))]) (As := [.ref m, .int p0, .int p1, .int p2]) [2, 0, 1] [] (fun _ => runV (q0 := 2) gdX7_count_26.2.1 mi_X7_counted im_X7_counted se_X7_counted ml_X7_150 (by omega) rfl (Nat.le_of_ble_eq_true rfl) rfl rfl rfl rfl) (fun x9 h9 => ok_X7_counted hm h9) rfl rfl rfl rfl rfl (by decide +kernel) (by omega) (by omega) (fun _ _ => rfl) (fun _ _ => rfl) (fun x27 g27 => ?_)
    exact aw_ireturn (w := [(m, .inr (9, [.ref Mo, .ref Lo, .ref Do, .ref tl, .ref ca, .int x13.2])), (Mo, .inl (4, 3, .inr (.inr (.inr (.inr mm))))), (q, .inl (0, 6144, .inl f))]) [0, 1, 2] gdX7_count_26.2.2 rfl rfl rfl rfl (PN.mk (fun _ => 0) rfl rfl)
  · refine aw_iconst (q := 20) (v := 0) gdX7_count_10.2.2.2.1 rfl (by decide) ?_
    refine aw_goto (tgt := 30) gdX7_count_10.2.2.2.2.1 (by decide) ?_
    exact aw_ireturn (w := [(m, .inr (9, [.ref Mo, .ref Lo, .ref Do, .ref tl, .ref ca, .int x13.2])), (Mo, .inl (4, 3, .inr (.inr (.inr (.inr mm))))), (q, .inl (0, 6144, .inl f))]) [2, 0, 1] gdX7_count_26.2.2 rfl rfl rfl rfl (PN.mk (fun _ => 0) rfl rfl)
def fX7_isSame_73 (N K : Nat) (th : Int32) (f : Nat → Int32) (f2 : Nat → Int32) (p0 : Int32) (p1 : Int32) (k_38 : Int32 → Int32 → Int32 → Option (Int32 × Int32)) (l4 : Int32) (s0 : Int32) (s1 : Int32) (th_ : Int32) : Option (Int32 × Int32) :=
  k_38 (s1 &&& s0) (l4 + (1 : Int32)) th_
set_option maxHeartbeats 4000000 in
set_option maxRecDepth 100000 in
theorem tX7_isSame_73 {N K : Nat} {m Mo Lo Do tl ca q q2 : Nat} {mm : Nat → Option Nat} {th : Int32} {f : Nat → Int32} {f2 : Nat → Int32} {p0 : Int32} {p1 : Int32} (hm : ¬ (p0 < 0 ∨ 3 ≤ p0.toNatClampNeg) → mm p0.toNatClampNeg = some q) (hm2 : ¬ (p1 < 0 ∨ 3 ≤ p1.toNatClampNeg) → mm p1.toNatClampNeg = some q2) {k_38 : Int32 → Int32 → Int32 → Option (Int32 × Int32)} (hk_38 : ∀ (l3 : Int32) (l4 : Int32) (th_ : Int32), AW RX7 "isSame" cX7_isSame 5 (some .boolean) [] (fun _ _ => True) (1) (PN (U := Int32 × Int32) (fun zz _ => some (.int zz.1)) (fun zz ad => [(m, .inr (9, [.ref Mo, .ref Lo, .ref Do, .ref tl, .ref ca, .int zz.2])), (Mo, .inl (4, 3, .inr (.inr (.inr (.inr mm))))), (q, .inl (0, 6144, .inl f)), (q2, .inl (0, 6144, .inl f2))])) 0 0 (k_38 l3 l4 th_) 38 [(0, .ref m), (1, .int p0), (2, .int p1), (3, .int l3), (4, .int l4)] [] [(m, .inr (9, [.ref Mo, .ref Lo, .ref Do, .ref tl, .ref ca, .int th_])), (Mo, .inl (4, 3, .inr (.inr (.inr (.inr mm))))), (q, .inl (0, 6144, .inl f)), (q2, .inl (0, 6144, .inl f2))]) : ∀ (l4 : Int32) (s0 : Int32) (s1 : Int32) (th_ : Int32), AW RX7 "isSame" cX7_isSame 5 (some .boolean) [] (fun _ _ => True) (1) (PN (U := Int32 × Int32) (fun zz _ => some (.int zz.1)) (fun zz ad => [(m, .inr (9, [.ref Mo, .ref Lo, .ref Do, .ref tl, .ref ca, .int zz.2])), (Mo, .inl (4, 3, .inr (.inr (.inr (.inr mm))))), (q, .inl (0, 6144, .inl f)), (q2, .inl (0, 6144, .inl f2))])) 0 0 (fX7_isSame_73 N K th f f2 p0 p1 k_38 l4 s0 s1 th_) 73 [(0, .ref m), (1, .int p0), (2, .int p1), (4, .int l4)] [.int s0, .int s1] [(m, .inr (9, [.ref Mo, .ref Lo, .ref Do, .ref tl, .ref ca, .int th_])), (Mo, .inl (4, 3, .inr (.inr (.inr (.inr mm))))), (q, .inl (0, 6144, .inl f)), (q2, .inl (0, 6144, .inl f2))] := by
  intro l4 s0 s1 th_
  refine aw_iand (q := 74) gdX7_isSame_68.2.2.2.1 rfl ?_
  refine aw_istore_n (q := 75) (lv' := [(3, .int (s1 &&& s0)), (0, .ref m), (1, .int p0), (2, .int p1), (4, .int l4)]) gdX7_isSame_68.2.2.2.2.1 rfl (by decide) rfl ?_
  refine aw_iinc (q := 78) (v := (l4 + (1 : Int32))) (lv' := [(4, .int (l4 + (1 : Int32))), (3, .int (s1 &&& s0)), (0, .ref m), (1, .int p0), (2, .int p1)]) gdX7_isSame_68.2.2.2.2.2.1 rfl 4 rfl rfl (by decide) rfl ?_
  refine aw_goto (tgt := 38) gdX7_isSame_68.2.2.2.2.2.2.1 (by decide) ?_
  refine aw_locals (lv' := [(0, .ref m), (1, .int p0), (2, .int p1), (3, .int (s1 &&& s0)), (4, .int (l4 + (1 : Int32)))]) [2, 3, 4, 1, 0] rfl ?_
  exact hk_38 _ _ _
def fX7_isSame_38 (N K : Nat) (th : Int32) (f : Nat → Int32) (f2 : Nat → Int32) (p0 : Int32) (p1 : Int32) : Nat → Int32 → Int32 → Int32 → Option (Int32 × Int32)
  | 0, _, _, _ => none
  | fu + 1, l3, l4, th_ =>
    (if (6144 : Int32) ≤ l4 then (if l3 = 0 ∨ l3 = 1 then (some (l3, th_)) else none) else (if p0 < 0 ∨ 3 ≤ p0.toNatClampNeg then none else (if l4 < 0 ∨ 6144 ≤ l4.toNatClampNeg then none else (if p1 < 0 ∨ 3 ≤ p1.toNatClampNeg then none else (if l4 < 0 ∨ 6144 ≤ l4.toNatClampNeg then none else (if (f l4.toNatClampNeg) = (f2 l4.toNatClampNeg) then fX7_isSame_73 N K th f f2 p0 p1 (fX7_isSame_38 N K th f f2 p0 p1  fu) l4 (1 : Int32) l3 th_ else fX7_isSame_73 N K th f f2 p0 p1 (fX7_isSame_38 N K th f f2 p0 p1  fu) l4 (0 : Int32) l3 th_))))))
set_option maxHeartbeats 4000000 in
set_option maxRecDepth 100000 in
theorem tX7_isSame_38 {N K : Nat} {m Mo Lo Do tl ca q q2 : Nat} {mm : Nat → Option Nat} {th : Int32} {f : Nat → Int32} {f2 : Nat → Int32} {p0 : Int32} {p1 : Int32} (hm : ¬ (p0 < 0 ∨ 3 ≤ p0.toNatClampNeg) → mm p0.toNatClampNeg = some q) (hm2 : ¬ (p1 < 0 ∨ 3 ≤ p1.toNatClampNeg) → mm p1.toNatClampNeg = some q2) : ∀ (fu : Nat) (l3 : Int32) (l4 : Int32) (th_ : Int32), AW RX7 "isSame" cX7_isSame 5 (some .boolean) [] (fun _ _ => True) (1) (PN (U := Int32 × Int32) (fun zz _ => some (.int zz.1)) (fun zz ad => [(m, .inr (9, [.ref Mo, .ref Lo, .ref Do, .ref tl, .ref ca, .int zz.2])), (Mo, .inl (4, 3, .inr (.inr (.inr (.inr mm))))), (q, .inl (0, 6144, .inl f)), (q2, .inl (0, 6144, .inl f2))])) 0 0 (fX7_isSame_38 N K th f f2 p0 p1  fu l3 l4 th_) 38 [(0, .ref m), (1, .int p0), (2, .int p1), (3, .int l3), (4, .int l4)] [] [(m, .inr (9, [.ref Mo, .ref Lo, .ref Do, .ref tl, .ref ca, .int th_])), (Mo, .inl (4, 3, .inr (.inr (.inr (.inr mm))))), (q, .inl (0, 6144, .inl f)), (q2, .inl (0, 6144, .inl f2))] := by
  intro fu
  induction fu with
  | zero => intro l3 l4 th_; exact aw_none
  | succ fu ih =>
    intro l3 l4 th_
    refine aw_iload (q := 40) gdX7_isSame_28.2.2.2.2.2.2.2 rfl 4 rfl ?_
    refine aw_sipush (q := 43) (v := 6144) gdX7_isSame_40.1 rfl (by decide) ?_
    refine aw_icmp_ge (tgt := 81) (q := 46) gdX7_isSame_40.2.1 (by decide) rfl (fun h_43 => ?_) (fun h_43 => ?_)
    · refine aw_iload_n (q := 82) gdX7_isSame_68.2.2.2.2.2.2.2 rfl 3 rfl ?_
      exact aw_zreturn (w := [(m, .inr (9, [.ref Mo, .ref Lo, .ref Do, .ref tl, .ref ca, .int th_])), (Mo, .inl (4, 3, .inr (.inr (.inr (.inr mm))))), (q, .inl (0, 6144, .inl f)), (q2, .inl (0, 6144, .inl f2))]) [0, 1, 2, 3] dX7_isSame_82 rfl rfl rfl (PN.mk (fun _ => 0) rfl rfl)
    · refine aw_iload_n (q := 47) gdX7_isSame_40.2.2.1 rfl 3 rfl ?_
      refine aw_aload_n (q := 48) gdX7_isSame_40.2.2.2.1 rfl 0 rfl ?_
      refine aw_get (q := 51) gdX7_isSame_40.2.2.2.2.1 rfl fl_X7_11 0 rfl rfl ?_
      refine aw_iload_n (q := 52) gdX7_isSame_40.2.2.2.2.2.1 rfl 1 rfl ?_
      refine aw_aald (q := 53) gdX7_isSame_40.2.2.2.2.2.2.1 rfl 1 rfl (by decide) rfl hm ?_
      refine aw_iload (q := 55) gdX7_isSame_40.2.2.2.2.2.2.2 rfl 4 rfl ?_
      refine aw_iald (q := 56) gdX7_isSame_55.1 rfl 2 rfl ?_
      refine aw_aload_n (q := 57) gdX7_isSame_55.2.1 rfl 0 rfl ?_
      refine aw_get (q := 60) gdX7_isSame_55.2.2.1 rfl fl_X7_11 0 rfl rfl ?_
      refine aw_iload_n (q := 61) gdX7_isSame_55.2.2.2.1 rfl 2 rfl ?_
      refine aw_aald (q := 62) gdX7_isSame_55.2.2.2.2.1 rfl 1 rfl (by decide) rfl hm2 ?_
      refine aw_iload (q := 64) gdX7_isSame_55.2.2.2.2.2.1 rfl 4 rfl ?_
      refine aw_iald (q := 65) gdX7_isSame_55.2.2.2.2.2.2.1 rfl 3 rfl ?_
      refine aw_icmp_ne (tgt := 72) (q := 68) gdX7_isSame_55.2.2.2.2.2.2.2 (by decide) rfl (fun h_65 => ?_) (fun h_65 => ?_)
      · refine aw_iconst (q := 73) (v := 0) gdX7_isSame_68.2.2.1 rfl (by decide) ?_
        refine aw_locals (lv' := [(0, .ref m), (1, .int p0), (2, .int p1), (4, .int l4)]) [0, 1, 2, 4] rfl ?_
        exact tX7_isSame_73 hm hm2 ih _ _ _ _
      · refine aw_iconst (q := 69) (v := 1) gdX7_isSame_68.1 rfl (by decide) ?_
        refine aw_goto (tgt := 73) gdX7_isSame_68.2.1 (by decide) ?_
        refine aw_locals (lv' := [(0, .ref m), (1, .int p0), (2, .int p1), (4, .int l4)]) [0, 1, 2, 4] rfl ?_
        exact tX7_isSame_73 hm hm2 ih _ _ _ _
def fX7_isSame_24 (N K : Nat) (th : Int32) (f : Nat → Int32) (f2 : Nat → Int32) (p0 : Int32) (p1 : Int32) (s0 : Int32) (th_ : Int32) : Option (Int32 × Int32) :=
  ((fX7_isThrown N K th_ s0 (0 : Int32)).bind (fun x25 => (if x25.1 = 0 then fX7_isSame_38 N K th f f2 p0 p1  N (1 : Int32) (0 : Int32) x25.2 else (some ((0 : Int32), x25.2)))))
set_option maxHeartbeats 4000000 in
set_option maxRecDepth 100000 in
theorem tX7_isSame_24 {N K : Nat} {m Mo Lo Do tl ca q q2 : Nat} {mm : Nat → Option Nat} {th : Int32} {f : Nat → Int32} {f2 : Nat → Int32} {p0 : Int32} {p1 : Int32} (hm : ¬ (p0 < 0 ∨ 3 ≤ p0.toNatClampNeg) → mm p0.toNatClampNeg = some q) (hm2 : ¬ (p1 < 0 ∨ 3 ≤ p1.toNatClampNeg) → mm p1.toNatClampNeg = some q2) : ∀ (s0 : Int32) (th_ : Int32), AW RX7 "isSame" cX7_isSame 5 (some .boolean) [] (fun _ _ => True) (1) (PN (U := Int32 × Int32) (fun zz _ => some (.int zz.1)) (fun zz ad => [(m, .inr (9, [.ref Mo, .ref Lo, .ref Do, .ref tl, .ref ca, .int zz.2])), (Mo, .inl (4, 3, .inr (.inr (.inr (.inr mm))))), (q, .inl (0, 6144, .inl f)), (q2, .inl (0, 6144, .inl f2))])) 0 0 (fX7_isSame_24 N K th f f2 p0 p1  s0 th_) 24 [(0, .ref m), (1, .int p0), (2, .int p1)] [.int s0, .ref m] [(m, .inr (9, [.ref Mo, .ref Lo, .ref Do, .ref tl, .ref ca, .int th_])), (Mo, .inl (4, 3, .inr (.inr (.inr (.inr mm))))), (q, .inl (0, 6144, .inl f)), (q2, .inl (0, 6144, .inl f2))] := by
  intro s0 th_
  refine aw_iconst (q := 25) (v := 0) gdX7_isSame_12.2.2.2.2.2.2.1 rfl (by decide) ?_
  refine aw_call (q := 28) (kc1 := 0) (ks1 := 0) (wc := [(m, .inr (9, [.ref Mo, .ref Lo, .ref Do, .ref tl, .ref ca, .int th_]))]) (wr := [(Mo, .inl (4, 3, .inr (.inr (.inr (.inr mm))))), (q, .inl (0, 6144, .inl f)), (q2, .inl (0, 6144, .inl f2))]) (st1 := fun x25 g25 => [.int x25.1]) (ws1 := fun x25 g25 => [(Mo, .inl (4, 3, .inr (.inr (.inr (.inr mm))))), (q, .inl (0, 6144, .inl f)), (q2, .inl (0, 6144, .inl f2)), (m, .inr (9, [.ref Mo, .ref Lo, .ref Do, .ref tl, .ref ca, .int x25.2]))]) (As := [.ref m, .int s0, .int (0 : Int32)]) [0] [1, 2, 3] (fun _ => runV (q0 := 0) gdX7_isSame_12.2.2.2.2.2.2.2 mi_X7_isThrown im_X7_isThrown se_X7_isThrown ml_X7_110 (by omega) rfl (Nat.le_of_ble_eq_true rfl) rfl rfl rfl rfl) (fun x9 h9 => ok_X7_isThrown h9) rfl rfl rfl rfl rfl (by decide +kernel) (by omega) (by omega) (fun _ _ => rfl) (fun _ _ => rfl) (fun x25 g25 => ?_)
  refine aw_if_eq (tgt := 33) (q := 31) gdX7_isSame_28.1 (by decide) rfl (fun h_28 => ?_) (fun h_28 => ?_)
  · refine aw_iconst (q := 34) (v := 1) gdX7_isSame_28.2.2.2.1 rfl (by decide) ?_
    refine aw_istore_n (q := 35) (lv' := [(3, .int (1 : Int32)), (0, .ref m), (1, .int p0), (2, .int p1)]) gdX7_isSame_28.2.2.2.2.1 rfl (by decide) rfl ?_
    refine aw_iconst (q := 36) (v := 0) gdX7_isSame_28.2.2.2.2.2.1 rfl (by decide) ?_
    refine aw_istore (q := 38) (lv' := [(4, .int (0 : Int32)), (3, .int (1 : Int32)), (0, .ref m), (1, .int p0), (2, .int p1)]) gdX7_isSame_28.2.2.2.2.2.2.1 rfl (by decide) rfl ?_
    refine aw_locals (lv' := [(0, .ref m), (1, .int p0), (2, .int p1), (3, .int (1 : Int32)), (4, .int (0 : Int32))]) [2, 3, 4, 1, 0] rfl ?_
    refine aw_world (ws' := [(m, .inr (9, [.ref Mo, .ref Lo, .ref Do, .ref tl, .ref ca, .int x25.2])), (Mo, .inl (4, 3, .inr (.inr (.inr (.inr mm))))), (q, .inl (0, 6144, .inl f)), (q2, .inl (0, 6144, .inl f2))]) [3, 0, 1, 2] rfl rfl ?_
    exact tX7_isSame_38 hm hm2 N _ _ _
  · refine aw_iconst (q := 32) (v := 0) gdX7_isSame_28.2.1 rfl (by decide) ?_
    exact aw_ireturn (w := [(m, .inr (9, [.ref Mo, .ref Lo, .ref Do, .ref tl, .ref ca, .int x25.2])), (Mo, .inl (4, 3, .inr (.inr (.inr (.inr mm))))), (q, .inl (0, 6144, .inl f)), (q2, .inl (0, 6144, .inl f2))]) [3, 0, 1, 2] gdX7_isSame_28.2.2.1 rfl rfl rfl rfl (PN.mk (fun _ => 0) rfl rfl)
def fX7_isSame_19 (N K : Nat) (th : Int32) (f : Nat → Int32) (f2 : Nat → Int32) (p0 : Int32) (p1 : Int32) (th_ : Int32) : Option (Int32 × Int32) :=
  fX7_isSame_24 N K th f f2 p0 p1  (1 : Int32) th_
set_option maxHeartbeats 4000000 in
set_option maxRecDepth 100000 in
theorem tX7_isSame_19 {N K : Nat} {m Mo Lo Do tl ca q q2 : Nat} {mm : Nat → Option Nat} {th : Int32} {f : Nat → Int32} {f2 : Nat → Int32} {p0 : Int32} {p1 : Int32} (hm : ¬ (p0 < 0 ∨ 3 ≤ p0.toNatClampNeg) → mm p0.toNatClampNeg = some q) (hm2 : ¬ (p1 < 0 ∨ 3 ≤ p1.toNatClampNeg) → mm p1.toNatClampNeg = some q2) : ∀ (th_ : Int32), AW RX7 "isSame" cX7_isSame 5 (some .boolean) [] (fun _ _ => True) (1) (PN (U := Int32 × Int32) (fun zz _ => some (.int zz.1)) (fun zz ad => [(m, .inr (9, [.ref Mo, .ref Lo, .ref Do, .ref tl, .ref ca, .int zz.2])), (Mo, .inl (4, 3, .inr (.inr (.inr (.inr mm))))), (q, .inl (0, 6144, .inl f)), (q2, .inl (0, 6144, .inl f2))])) 0 0 (fX7_isSame_19 N K th f f2 p0 p1  th_) 19 [(0, .ref m), (1, .int p0), (2, .int p1)] [.ref m] [(m, .inr (9, [.ref Mo, .ref Lo, .ref Do, .ref tl, .ref ca, .int th_])), (Mo, .inl (4, 3, .inr (.inr (.inr (.inr mm))))), (q, .inl (0, 6144, .inl f)), (q2, .inl (0, 6144, .inl f2))] := by
  intro th_
  refine aw_iconst (q := 20) (v := 1) gdX7_isSame_12.2.2.2.1 rfl (by decide) ?_
  refine aw_goto (tgt := 24) gdX7_isSame_12.2.2.2.2.1 (by decide) ?_
  exact tX7_isSame_24 hm hm2 _ _
def fX7_isSame (N K : Nat) (th : Int32) (f : Nat → Int32) (f2 : Nat → Int32) (p0 : Int32) (p1 : Int32) : Option (Int32 × Int32) :=
  ((fX7_isNo N K p0 (0 : Int32) (2 : Int32)).bind (fun x4 => (if x4 = 0 then ((fX7_isNo N K p1 (0 : Int32) (2 : Int32)).bind (fun x13 => (if x13 = 0 then fX7_isSame_24 N K th f f2 p0 p1  (0 : Int32) th else fX7_isSame_19 N K th f f2 p0 p1  th))) else fX7_isSame_19 N K th f f2 p0 p1  th)))
set_option maxHeartbeats 4000000 in
set_option maxRecDepth 100000 in
theorem ok_X7_isSame {N K : Nat} {m Mo Lo Do tl ca q q2 : Nat} {mm : Nat → Option Nat} {th : Int32} {f : Nat → Int32} {f2 : Nat → Int32} {p0 : Int32} {p1 : Int32} (hm : ¬ (p0 < 0 ∨ 3 ≤ p0.toNatClampNeg) → mm p0.toNatClampNeg = some q) (hm2 : ¬ (p1 < 0 ∨ 3 ≤ p1.toNatClampNeg) → mm p1.toNatClampNeg = some q2) {xr : Int32 × Int32} (hE : fX7_isSame N K th f f2 p0 p1 = some xr) : OkM yX7_isSame (.code yX7_isSame cX7_isSame 5 (some .boolean)) (1) 0 0 [.ref m, .int p0, .int p1] [(m, .inr (9, [.ref Mo, .ref Lo, .ref Do, .ref tl, .ref ca, .int th])), (Mo, .inl (4, 3, .inr (.inr (.inr (.inr mm))))), (q, .inl (0, 6144, .inl f)), (q2, .inl (0, 6144, .inl f2))] ((PN (U := Int32 × Int32) (fun zz _ => some (.int zz.1)) (fun zz ad => [(m, .inr (9, [.ref Mo, .ref Lo, .ref Do, .ref tl, .ref ca, .int zz.2])), (Mo, .inl (4, 3, .inr (.inr (.inr (.inr mm))))), (q, .inl (0, 6144, .inl f)), (q2, .inl (0, 6144, .inl f2))])) xr) := by
  refine ok_of (by decide) (Nat.le_of_ble_eq_true rfl) hE ?_
  refine aw_locals (lv' := [(0, .ref m), (1, .int p0), (2, .int p1)]) [0, 1, 2] rfl ?_
  refine aw_aload_n (q := 1) gdX7_isSame_0.1 rfl 0 rfl ?_
  refine aw_iload_n (q := 2) gdX7_isSame_0.2.1 rfl 1 rfl ?_
  refine aw_iconst (q := 3) (v := 0) gdX7_isSame_0.2.2.1 rfl (by decide) ?_
  refine aw_iconst (q := 4) (v := 2) gdX7_isSame_0.2.2.2.1 rfl (by decide) ?_
  refine aw_call (q := 7) (kc1 := 0) (ks1 := 0) (wc := []) (wr := [(m, .inr (9, [.ref Mo, .ref Lo, .ref Do, .ref tl, .ref ca, .int th])), (Mo, .inl (4, 3, .inr (.inr (.inr (.inr mm))))), (q, .inl (0, 6144, .inl f)), (q2, .inl (0, 6144, .inl f2))]) (st1 := fun x4 g4 => [.int x4, .ref m]) (ws1 := fun x4 g4 => [(m, .inr (9, [.ref Mo, .ref Lo, .ref Do, .ref tl, .ref ca, .int th])), (Mo, .inl (4, 3, .inr (.inr (.inr (.inr mm))))), (q, .inl (0, 6144, .inl f)), (q2, .inl (0, 6144, .inl f2))]) (As := [.int p0, .int (0 : Int32), .int (2 : Int32)]) [] [0, 1, 2, 3] (fun _ => runS gdX7_isSame_0.2.2.2.2.1 mi_X7_isNo st_X7_isNo ml_X7_31 (by omega) rfl (Nat.le_of_ble_eq_true rfl) rfl) (fun x9 h9 => ok_X7_isNo h9) rfl rfl rfl rfl rfl (by decide +kernel) (by omega) (by omega) (fun _ _ => rfl) (fun _ _ => rfl) (fun x4 g4 => ?_)
  refine aw_if_ne (tgt := 19) (q := 10) gdX7_isSame_0.2.2.2.2.2.1 (by decide) rfl (fun h_7 => ?_) (fun h_7 => ?_)
  · exact tX7_isSame_19 hm hm2 _
  · refine aw_iload_n (q := 11) gdX7_isSame_0.2.2.2.2.2.2.1 rfl 2 rfl ?_
    refine aw_iconst (q := 12) (v := 0) gdX7_isSame_0.2.2.2.2.2.2.2 rfl (by decide) ?_
    refine aw_iconst (q := 13) (v := 2) gdX7_isSame_12.1 rfl (by decide) ?_
    refine aw_call (q := 16) (kc1 := 0) (ks1 := 0) (wc := []) (wr := [(m, .inr (9, [.ref Mo, .ref Lo, .ref Do, .ref tl, .ref ca, .int th])), (Mo, .inl (4, 3, .inr (.inr (.inr (.inr mm))))), (q, .inl (0, 6144, .inl f)), (q2, .inl (0, 6144, .inl f2))]) (st1 := fun x13 g13 => [.int x13, .ref m]) (ws1 := fun x13 g13 => [(m, .inr (9, [.ref Mo, .ref Lo, .ref Do, .ref tl, .ref ca, .int th])), (Mo, .inl (4, 3, .inr (.inr (.inr (.inr mm))))), (q, .inl (0, 6144, .inl f)), (q2, .inl (0, 6144, .inl f2))]) (As := [.int p1, .int (0 : Int32), .int (2 : Int32)]) [] [0, 1, 2, 3] (fun _ => runS gdX7_isSame_12.2.1 mi_X7_isNo st_X7_isNo ml_X7_31 (by omega) rfl (Nat.le_of_ble_eq_true rfl) rfl) (fun x9 h9 => ok_X7_isNo h9) rfl rfl rfl rfl rfl (by decide +kernel) (by omega) (by omega) (fun _ _ => rfl) (fun _ _ => rfl) (fun x13 g13 => ?_)
    refine aw_if_eq (tgt := 23) (q := 19) gdX7_isSame_12.2.2.1 (by decide) rfl (fun h_16 => ?_) (fun h_16 => ?_)
    · refine aw_iconst (q := 24) (v := 0) gdX7_isSame_12.2.2.2.2.2.1 rfl (by decide) ?_
      exact tX7_isSame_24 hm hm2 _ _
    · exact tX7_isSame_19 hm hm2 _
def fX7_isSameOwn_73 (N K : Nat) (th : Int32) (f : Nat → Int32) (p0 : Int32) (k_38 : Int32 → Int32 → Int32 → Option (Int32 × Int32)) (l4 : Int32) (s0 : Int32) (s1 : Int32) (th_ : Int32) : Option (Int32 × Int32) :=
  k_38 (s1 &&& s0) (l4 + (1 : Int32)) th_
set_option maxHeartbeats 4000000 in
set_option maxRecDepth 100000 in
theorem tX7_isSameOwn_73 {N K : Nat} {m Mo Lo Do tl ca q : Nat} {mm : Nat → Option Nat} {th : Int32} {f : Nat → Int32} {p0 : Int32} (hm : ¬ (p0 < 0 ∨ 3 ≤ p0.toNatClampNeg) → mm p0.toNatClampNeg = some q) {k_38 : Int32 → Int32 → Int32 → Option (Int32 × Int32)} (hk_38 : ∀ (l3 : Int32) (l4 : Int32) (th_ : Int32), AW RX7 "isSame" cX7_isSame 5 (some .boolean) [] (fun _ _ => True) (1) (PN (U := Int32 × Int32) (fun zz _ => some (.int zz.1)) (fun zz ad => [(m, .inr (9, [.ref Mo, .ref Lo, .ref Do, .ref tl, .ref ca, .int zz.2])), (Mo, .inl (4, 3, .inr (.inr (.inr (.inr mm))))), (q, .inl (0, 6144, .inl f))])) 0 0 (k_38 l3 l4 th_) 38 [(0, .ref m), (1, .int p0), (2, .int p0), (3, .int l3), (4, .int l4)] [] [(m, .inr (9, [.ref Mo, .ref Lo, .ref Do, .ref tl, .ref ca, .int th_])), (Mo, .inl (4, 3, .inr (.inr (.inr (.inr mm))))), (q, .inl (0, 6144, .inl f))]) : ∀ (l4 : Int32) (s0 : Int32) (s1 : Int32) (th_ : Int32), AW RX7 "isSame" cX7_isSame 5 (some .boolean) [] (fun _ _ => True) (1) (PN (U := Int32 × Int32) (fun zz _ => some (.int zz.1)) (fun zz ad => [(m, .inr (9, [.ref Mo, .ref Lo, .ref Do, .ref tl, .ref ca, .int zz.2])), (Mo, .inl (4, 3, .inr (.inr (.inr (.inr mm))))), (q, .inl (0, 6144, .inl f))])) 0 0 (fX7_isSameOwn_73 N K th f p0 k_38 l4 s0 s1 th_) 73 [(0, .ref m), (1, .int p0), (2, .int p0), (4, .int l4)] [.int s0, .int s1] [(m, .inr (9, [.ref Mo, .ref Lo, .ref Do, .ref tl, .ref ca, .int th_])), (Mo, .inl (4, 3, .inr (.inr (.inr (.inr mm))))), (q, .inl (0, 6144, .inl f))] := by
  intro l4 s0 s1 th_
  refine aw_iand (q := 74) gdX7_isSame_68.2.2.2.1 rfl ?_
  refine aw_istore_n (q := 75) (lv' := [(3, .int (s1 &&& s0)), (0, .ref m), (1, .int p0), (2, .int p0), (4, .int l4)]) gdX7_isSame_68.2.2.2.2.1 rfl (by decide) rfl ?_
  refine aw_iinc (q := 78) (v := (l4 + (1 : Int32))) (lv' := [(4, .int (l4 + (1 : Int32))), (3, .int (s1 &&& s0)), (0, .ref m), (1, .int p0), (2, .int p0)]) gdX7_isSame_68.2.2.2.2.2.1 rfl 4 rfl rfl (by decide) rfl ?_
  refine aw_goto (tgt := 38) gdX7_isSame_68.2.2.2.2.2.2.1 (by decide) ?_
  refine aw_locals (lv' := [(0, .ref m), (1, .int p0), (2, .int p0), (3, .int (s1 &&& s0)), (4, .int (l4 + (1 : Int32)))]) [2, 3, 4, 1, 0] rfl ?_
  exact hk_38 _ _ _
def fX7_isSameOwn_38 (N K : Nat) (th : Int32) (f : Nat → Int32) (p0 : Int32) : Nat → Int32 → Int32 → Int32 → Option (Int32 × Int32)
  | 0, _, _, _ => none
  | fu + 1, l3, l4, th_ =>
    (if (6144 : Int32) ≤ l4 then (if l3 = 0 ∨ l3 = 1 then (some (l3, th_)) else none) else (if p0 < 0 ∨ 3 ≤ p0.toNatClampNeg then none else (if l4 < 0 ∨ 6144 ≤ l4.toNatClampNeg then none else (if p0 < 0 ∨ 3 ≤ p0.toNatClampNeg then none else (if l4 < 0 ∨ 6144 ≤ l4.toNatClampNeg then none else fX7_isSameOwn_73 N K th f p0 (fX7_isSameOwn_38 N K th f p0  fu) l4 (1 : Int32) l3 th_)))))
set_option maxHeartbeats 4000000 in
set_option maxRecDepth 100000 in
theorem tX7_isSameOwn_38 {N K : Nat} {m Mo Lo Do tl ca q : Nat} {mm : Nat → Option Nat} {th : Int32} {f : Nat → Int32} {p0 : Int32} (hm : ¬ (p0 < 0 ∨ 3 ≤ p0.toNatClampNeg) → mm p0.toNatClampNeg = some q) : ∀ (fu : Nat) (l3 : Int32) (l4 : Int32) (th_ : Int32), AW RX7 "isSame" cX7_isSame 5 (some .boolean) [] (fun _ _ => True) (1) (PN (U := Int32 × Int32) (fun zz _ => some (.int zz.1)) (fun zz ad => [(m, .inr (9, [.ref Mo, .ref Lo, .ref Do, .ref tl, .ref ca, .int zz.2])), (Mo, .inl (4, 3, .inr (.inr (.inr (.inr mm))))), (q, .inl (0, 6144, .inl f))])) 0 0 (fX7_isSameOwn_38 N K th f p0  fu l3 l4 th_) 38 [(0, .ref m), (1, .int p0), (2, .int p0), (3, .int l3), (4, .int l4)] [] [(m, .inr (9, [.ref Mo, .ref Lo, .ref Do, .ref tl, .ref ca, .int th_])), (Mo, .inl (4, 3, .inr (.inr (.inr (.inr mm))))), (q, .inl (0, 6144, .inl f))] := by
  intro fu
  induction fu with
  | zero => intro l3 l4 th_; exact aw_none
  | succ fu ih =>
    intro l3 l4 th_
    refine aw_iload (q := 40) gdX7_isSame_28.2.2.2.2.2.2.2 rfl 4 rfl ?_
    refine aw_sipush (q := 43) (v := 6144) gdX7_isSame_40.1 rfl (by decide) ?_
    refine aw_icmp_ge (tgt := 81) (q := 46) gdX7_isSame_40.2.1 (by decide) rfl (fun h_43 => ?_) (fun h_43 => ?_)
    · refine aw_iload_n (q := 82) gdX7_isSame_68.2.2.2.2.2.2.2 rfl 3 rfl ?_
      exact aw_zreturn (w := [(m, .inr (9, [.ref Mo, .ref Lo, .ref Do, .ref tl, .ref ca, .int th_])), (Mo, .inl (4, 3, .inr (.inr (.inr (.inr mm))))), (q, .inl (0, 6144, .inl f))]) [0, 1, 2] dX7_isSame_82 rfl rfl rfl (PN.mk (fun _ => 0) rfl rfl)
    · refine aw_iload_n (q := 47) gdX7_isSame_40.2.2.1 rfl 3 rfl ?_
      refine aw_aload_n (q := 48) gdX7_isSame_40.2.2.2.1 rfl 0 rfl ?_
      refine aw_get (q := 51) gdX7_isSame_40.2.2.2.2.1 rfl fl_X7_11 0 rfl rfl ?_
      refine aw_iload_n (q := 52) gdX7_isSame_40.2.2.2.2.2.1 rfl 1 rfl ?_
      refine aw_aald (q := 53) gdX7_isSame_40.2.2.2.2.2.2.1 rfl 1 rfl (by decide) rfl hm ?_
      refine aw_iload (q := 55) gdX7_isSame_40.2.2.2.2.2.2.2 rfl 4 rfl ?_
      refine aw_iald (q := 56) gdX7_isSame_55.1 rfl 2 rfl ?_
      refine aw_aload_n (q := 57) gdX7_isSame_55.2.1 rfl 0 rfl ?_
      refine aw_get (q := 60) gdX7_isSame_55.2.2.1 rfl fl_X7_11 0 rfl rfl ?_
      refine aw_iload_n (q := 61) gdX7_isSame_55.2.2.2.1 rfl 2 rfl ?_
      refine aw_aald (q := 62) gdX7_isSame_55.2.2.2.2.1 rfl 1 rfl (by decide) rfl hm ?_
      refine aw_iload (q := 64) gdX7_isSame_55.2.2.2.2.2.1 rfl 4 rfl ?_
      refine aw_iald (q := 65) gdX7_isSame_55.2.2.2.2.2.2.1 rfl 2 rfl ?_
      refine aw_icmp_neF (q := 68) (off := 7) (tgt := 72) gdX7_isSame_55.2.2.2.2.2.2.2 (by decide) rfl rfl ?_
      refine aw_iconst (q := 69) (v := 1) gdX7_isSame_68.1 rfl (by decide) ?_
      refine aw_goto (tgt := 73) gdX7_isSame_68.2.1 (by decide) ?_
      refine aw_locals (lv' := [(0, .ref m), (1, .int p0), (2, .int p0), (4, .int l4)]) [0, 1, 2, 4] rfl ?_
      exact tX7_isSameOwn_73 hm ih _ _ _ _
def fX7_isSameOwn_24 (N K : Nat) (th : Int32) (f : Nat → Int32) (p0 : Int32) (s0 : Int32) (th_ : Int32) : Option (Int32 × Int32) :=
  ((fX7_isThrown N K th_ s0 (0 : Int32)).bind (fun x25 => (if x25.1 = 0 then fX7_isSameOwn_38 N K th f p0  N (1 : Int32) (0 : Int32) x25.2 else (some ((0 : Int32), x25.2)))))
set_option maxHeartbeats 4000000 in
set_option maxRecDepth 100000 in
theorem tX7_isSameOwn_24 {N K : Nat} {m Mo Lo Do tl ca q : Nat} {mm : Nat → Option Nat} {th : Int32} {f : Nat → Int32} {p0 : Int32} (hm : ¬ (p0 < 0 ∨ 3 ≤ p0.toNatClampNeg) → mm p0.toNatClampNeg = some q) : ∀ (s0 : Int32) (th_ : Int32), AW RX7 "isSame" cX7_isSame 5 (some .boolean) [] (fun _ _ => True) (1) (PN (U := Int32 × Int32) (fun zz _ => some (.int zz.1)) (fun zz ad => [(m, .inr (9, [.ref Mo, .ref Lo, .ref Do, .ref tl, .ref ca, .int zz.2])), (Mo, .inl (4, 3, .inr (.inr (.inr (.inr mm))))), (q, .inl (0, 6144, .inl f))])) 0 0 (fX7_isSameOwn_24 N K th f p0  s0 th_) 24 [(0, .ref m), (1, .int p0), (2, .int p0)] [.int s0, .ref m] [(m, .inr (9, [.ref Mo, .ref Lo, .ref Do, .ref tl, .ref ca, .int th_])), (Mo, .inl (4, 3, .inr (.inr (.inr (.inr mm))))), (q, .inl (0, 6144, .inl f))] := by
  intro s0 th_
  refine aw_iconst (q := 25) (v := 0) gdX7_isSame_12.2.2.2.2.2.2.1 rfl (by decide) ?_
  refine aw_call (q := 28) (kc1 := 0) (ks1 := 0) (wc := [(m, .inr (9, [.ref Mo, .ref Lo, .ref Do, .ref tl, .ref ca, .int th_]))]) (wr := [(Mo, .inl (4, 3, .inr (.inr (.inr (.inr mm))))), (q, .inl (0, 6144, .inl f))]) (st1 := fun x25 g25 => [.int x25.1]) (ws1 := fun x25 g25 => [(Mo, .inl (4, 3, .inr (.inr (.inr (.inr mm))))), (q, .inl (0, 6144, .inl f)), (m, .inr (9, [.ref Mo, .ref Lo, .ref Do, .ref tl, .ref ca, .int x25.2]))]) (As := [.ref m, .int s0, .int (0 : Int32)]) [0] [1, 2] (fun _ => runV (q0 := 0) gdX7_isSame_12.2.2.2.2.2.2.2 mi_X7_isThrown im_X7_isThrown se_X7_isThrown ml_X7_110 (by omega) rfl (Nat.le_of_ble_eq_true rfl) rfl rfl rfl rfl) (fun x9 h9 => ok_X7_isThrown h9) rfl rfl rfl rfl rfl (by decide +kernel) (by omega) (by omega) (fun _ _ => rfl) (fun _ _ => rfl) (fun x25 g25 => ?_)
  refine aw_if_eq (tgt := 33) (q := 31) gdX7_isSame_28.1 (by decide) rfl (fun h_28 => ?_) (fun h_28 => ?_)
  · refine aw_iconst (q := 34) (v := 1) gdX7_isSame_28.2.2.2.1 rfl (by decide) ?_
    refine aw_istore_n (q := 35) (lv' := [(3, .int (1 : Int32)), (0, .ref m), (1, .int p0), (2, .int p0)]) gdX7_isSame_28.2.2.2.2.1 rfl (by decide) rfl ?_
    refine aw_iconst (q := 36) (v := 0) gdX7_isSame_28.2.2.2.2.2.1 rfl (by decide) ?_
    refine aw_istore (q := 38) (lv' := [(4, .int (0 : Int32)), (3, .int (1 : Int32)), (0, .ref m), (1, .int p0), (2, .int p0)]) gdX7_isSame_28.2.2.2.2.2.2.1 rfl (by decide) rfl ?_
    refine aw_locals (lv' := [(0, .ref m), (1, .int p0), (2, .int p0), (3, .int (1 : Int32)), (4, .int (0 : Int32))]) [2, 3, 4, 1, 0] rfl ?_
    refine aw_world (ws' := [(m, .inr (9, [.ref Mo, .ref Lo, .ref Do, .ref tl, .ref ca, .int x25.2])), (Mo, .inl (4, 3, .inr (.inr (.inr (.inr mm))))), (q, .inl (0, 6144, .inl f))]) [2, 0, 1] rfl rfl ?_
    exact tX7_isSameOwn_38 hm N _ _ _
  · refine aw_iconst (q := 32) (v := 0) gdX7_isSame_28.2.1 rfl (by decide) ?_
    exact aw_ireturn (w := [(m, .inr (9, [.ref Mo, .ref Lo, .ref Do, .ref tl, .ref ca, .int x25.2])), (Mo, .inl (4, 3, .inr (.inr (.inr (.inr mm))))), (q, .inl (0, 6144, .inl f))]) [2, 0, 1] gdX7_isSame_28.2.2.1 rfl rfl rfl rfl (PN.mk (fun _ => 0) rfl rfl)
def fX7_isSameOwn_19 (N K : Nat) (th : Int32) (f : Nat → Int32) (p0 : Int32) (th_ : Int32) : Option (Int32 × Int32) :=
  fX7_isSameOwn_24 N K th f p0  (1 : Int32) th_
set_option maxHeartbeats 4000000 in
set_option maxRecDepth 100000 in
theorem tX7_isSameOwn_19 {N K : Nat} {m Mo Lo Do tl ca q : Nat} {mm : Nat → Option Nat} {th : Int32} {f : Nat → Int32} {p0 : Int32} (hm : ¬ (p0 < 0 ∨ 3 ≤ p0.toNatClampNeg) → mm p0.toNatClampNeg = some q) : ∀ (th_ : Int32), AW RX7 "isSame" cX7_isSame 5 (some .boolean) [] (fun _ _ => True) (1) (PN (U := Int32 × Int32) (fun zz _ => some (.int zz.1)) (fun zz ad => [(m, .inr (9, [.ref Mo, .ref Lo, .ref Do, .ref tl, .ref ca, .int zz.2])), (Mo, .inl (4, 3, .inr (.inr (.inr (.inr mm))))), (q, .inl (0, 6144, .inl f))])) 0 0 (fX7_isSameOwn_19 N K th f p0  th_) 19 [(0, .ref m), (1, .int p0), (2, .int p0)] [.ref m] [(m, .inr (9, [.ref Mo, .ref Lo, .ref Do, .ref tl, .ref ca, .int th_])), (Mo, .inl (4, 3, .inr (.inr (.inr (.inr mm))))), (q, .inl (0, 6144, .inl f))] := by
  intro th_
  refine aw_iconst (q := 20) (v := 1) gdX7_isSame_12.2.2.2.1 rfl (by decide) ?_
  refine aw_goto (tgt := 24) gdX7_isSame_12.2.2.2.2.1 (by decide) ?_
  exact tX7_isSameOwn_24 hm _ _
def fX7_isSameOwn (N K : Nat) (th : Int32) (f : Nat → Int32) (p0 : Int32) : Option (Int32 × Int32) :=
  ((fX7_isNo N K p0 (0 : Int32) (2 : Int32)).bind (fun x4 => (if x4 = 0 then ((fX7_isNo N K p0 (0 : Int32) (2 : Int32)).bind (fun x13 => (if x13 = 0 then fX7_isSameOwn_24 N K th f p0  (0 : Int32) th else fX7_isSameOwn_19 N K th f p0  th))) else fX7_isSameOwn_19 N K th f p0  th)))
set_option maxHeartbeats 4000000 in
set_option maxRecDepth 100000 in
theorem ok_X7_isSameOwn {N K : Nat} {m Mo Lo Do tl ca q : Nat} {mm : Nat → Option Nat} {th : Int32} {f : Nat → Int32} {p0 : Int32} (hm : ¬ (p0 < 0 ∨ 3 ≤ p0.toNatClampNeg) → mm p0.toNatClampNeg = some q) {xr : Int32 × Int32} (hE : fX7_isSameOwn N K th f p0 = some xr) : OkM yX7_isSame (.code yX7_isSame cX7_isSame 5 (some .boolean)) (1) 0 0 [.ref m, .int p0, .int p0] [(m, .inr (9, [.ref Mo, .ref Lo, .ref Do, .ref tl, .ref ca, .int th])), (Mo, .inl (4, 3, .inr (.inr (.inr (.inr mm))))), (q, .inl (0, 6144, .inl f))] ((PN (U := Int32 × Int32) (fun zz _ => some (.int zz.1)) (fun zz ad => [(m, .inr (9, [.ref Mo, .ref Lo, .ref Do, .ref tl, .ref ca, .int zz.2])), (Mo, .inl (4, 3, .inr (.inr (.inr (.inr mm))))), (q, .inl (0, 6144, .inl f))])) xr) := by
  refine ok_of (by decide) (Nat.le_of_ble_eq_true rfl) hE ?_
  refine aw_locals (lv' := [(0, .ref m), (1, .int p0), (2, .int p0)]) [0, 1, 2] rfl ?_
  refine aw_aload_n (q := 1) gdX7_isSame_0.1 rfl 0 rfl ?_
  refine aw_iload_n (q := 2) gdX7_isSame_0.2.1 rfl 1 rfl ?_
  refine aw_iconst (q := 3) (v := 0) gdX7_isSame_0.2.2.1 rfl (by decide) ?_
  refine aw_iconst (q := 4) (v := 2) gdX7_isSame_0.2.2.2.1 rfl (by decide) ?_
  refine aw_call (q := 7) (kc1 := 0) (ks1 := 0) (wc := []) (wr := [(m, .inr (9, [.ref Mo, .ref Lo, .ref Do, .ref tl, .ref ca, .int th])), (Mo, .inl (4, 3, .inr (.inr (.inr (.inr mm))))), (q, .inl (0, 6144, .inl f))]) (st1 := fun x4 g4 => [.int x4, .ref m]) (ws1 := fun x4 g4 => [(m, .inr (9, [.ref Mo, .ref Lo, .ref Do, .ref tl, .ref ca, .int th])), (Mo, .inl (4, 3, .inr (.inr (.inr (.inr mm))))), (q, .inl (0, 6144, .inl f))]) (As := [.int p0, .int (0 : Int32), .int (2 : Int32)]) [] [0, 1, 2] (fun _ => runS gdX7_isSame_0.2.2.2.2.1 mi_X7_isNo st_X7_isNo ml_X7_31 (by omega) rfl (Nat.le_of_ble_eq_true rfl) rfl) (fun x9 h9 => ok_X7_isNo h9) rfl rfl rfl rfl rfl (by decide +kernel) (by omega) (by omega) (fun _ _ => rfl) (fun _ _ => rfl) (fun x4 g4 => ?_)
  refine aw_if_ne (tgt := 19) (q := 10) gdX7_isSame_0.2.2.2.2.2.1 (by decide) rfl (fun h_7 => ?_) (fun h_7 => ?_)
  · exact tX7_isSameOwn_19 hm _
  · refine aw_iload_n (q := 11) gdX7_isSame_0.2.2.2.2.2.2.1 rfl 2 rfl ?_
    refine aw_iconst (q := 12) (v := 0) gdX7_isSame_0.2.2.2.2.2.2.2 rfl (by decide) ?_
    refine aw_iconst (q := 13) (v := 2) gdX7_isSame_12.1 rfl (by decide) ?_
    refine aw_call (q := 16) (kc1 := 0) (ks1 := 0) (wc := []) (wr := [(m, .inr (9, [.ref Mo, .ref Lo, .ref Do, .ref tl, .ref ca, .int th])), (Mo, .inl (4, 3, .inr (.inr (.inr (.inr mm))))), (q, .inl (0, 6144, .inl f))]) (st1 := fun x13 g13 => [.int x13, .ref m]) (ws1 := fun x13 g13 => [(m, .inr (9, [.ref Mo, .ref Lo, .ref Do, .ref tl, .ref ca, .int th])), (Mo, .inl (4, 3, .inr (.inr (.inr (.inr mm))))), (q, .inl (0, 6144, .inl f))]) (As := [.int p0, .int (0 : Int32), .int (2 : Int32)]) [] [0, 1, 2] (fun _ => runS gdX7_isSame_12.2.1 mi_X7_isNo st_X7_isNo ml_X7_31 (by omega) rfl (Nat.le_of_ble_eq_true rfl) rfl) (fun x9 h9 => ok_X7_isNo h9) rfl rfl rfl rfl rfl (by decide +kernel) (by omega) (by omega) (fun _ _ => rfl) (fun _ _ => rfl) (fun x13 g13 => ?_)
    refine aw_if_eq (tgt := 23) (q := 19) gdX7_isSame_12.2.2.1 (by decide) rfl (fun h_16 => ?_) (fun h_16 => ?_)
    · refine aw_iconst (q := 24) (v := 0) gdX7_isSame_12.2.2.2.2.2.1 rfl (by decide) ?_
      exact tX7_isSameOwn_24 hm _ _
    · exact tX7_isSameOwn_19 hm _
def fX7_walk_36 (N K : Nat) (th : Int32) (p0 : Int32) (p1 : Int32) (p2 : Int32) (s0 : Int32) (th_ : Int32) : Option (Int32 × Int32) :=
  ((fX7_isThrown N K th_ s0 (0 : Int32)).bind (fun x37 => (if x37.1 = 0 then ((fX7_walked N K p0 p1 p2).bind (fun x50 => (some (x50, x37.2)))) else (some ((0 : Int32), x37.2)))))
set_option maxHeartbeats 4000000 in
set_option maxRecDepth 100000 in
theorem tX7_walk_36 {N K : Nat} {m Mo Lo Do tl ca : Nat} {th : Int32} {p0 : Int32} {p1 : Int32} {p2 : Int32} : ∀ (s0 : Int32) (th_ : Int32), AW RX7 "walk" cX7_walk 4 (some .int) [] (fun _ _ => True) (5) (PN (U := Int32 × Int32) (fun zz _ => some (.int zz.1)) (fun zz ad => [(m, .inr (9, [.ref Mo, .ref Lo, .ref Do, .ref tl, .ref ca, .int zz.2]))])) 1 21 (fX7_walk_36 N K th p0 p1 p2  s0 th_) 36 [(1, .int p0), (2, .int p1), (3, .int p2)] [.int s0, .ref m] [(m, .inr (9, [.ref Mo, .ref Lo, .ref Do, .ref tl, .ref ca, .int th_]))] := by
  intro s0 th_
  refine aw_iconst (q := 37) (v := 0) gdX7_walk_31.2.2.2.1 rfl (by decide) ?_
  refine aw_call (q := 40) (kc1 := 1) (ks1 := 21) (wc := [(m, .inr (9, [.ref Mo, .ref Lo, .ref Do, .ref tl, .ref ca, .int th_]))]) (wr := []) (st1 := fun x37 g37 => [.int x37.1]) (ws1 := fun x37 g37 => [(m, .inr (9, [.ref Mo, .ref Lo, .ref Do, .ref tl, .ref ca, .int x37.2]))]) (As := [.ref m, .int s0, .int (0 : Int32)]) [0] [] (fun _ => runV (q0 := 0) gdX7_walk_31.2.2.2.2.1 mi_X7_isThrown im_X7_isThrown se_X7_isThrown ml_X7_110 (by omega) rfl (Nat.le_of_ble_eq_true rfl) rfl rfl rfl rfl) (fun x9 h9 => ok_X7_isThrown h9) rfl rfl rfl rfl rfl (by decide +kernel) (by omega) (by omega) (fun _ _ => rfl) (fun _ _ => rfl) (fun x37 g37 => ?_)
  refine aw_if_eq (tgt := 47) (q := 43) gdX7_walk_31.2.2.2.2.2.1 (by decide) rfl (fun h_40 => ?_) (fun h_40 => ?_)
  · refine aw_iload_n (q := 48) gdX7_walk_47.1 rfl 0 rfl ?_
    refine aw_iload_n (q := 49) gdX7_walk_47.2.1 rfl 1 rfl ?_
    refine aw_iload_n (q := 50) gdX7_walk_47.2.2.1 rfl 2 rfl ?_
    refine aw_call (q := 53) (kc1 := 0) (ks1 := 0) (wc := []) (wr := [(m, .inr (9, [.ref Mo, .ref Lo, .ref Do, .ref tl, .ref ca, .int x37.2]))]) (st1 := fun x50 g50 => [.int x50]) (ws1 := fun x50 g50 => [(m, .inr (9, [.ref Mo, .ref Lo, .ref Do, .ref tl, .ref ca, .int x37.2]))]) (As := [.int p0, .int p1, .int p2]) [] [0] (fun _ => runS gdX7_walk_47.2.2.2.1 mi_X7_walked st_X7_walked ml_X7_134 (by omega) rfl (Nat.le_of_ble_eq_true rfl) rfl) (fun x9 h9 => ok_X7_walked h9) rfl rfl rfl rfl rfl (by decide +kernel) (by omega) (by omega) (fun _ _ => rfl) (fun _ _ => rfl) (fun x50 g50 => ?_)
    exact aw_ireturn (w := [(m, .inr (9, [.ref Mo, .ref Lo, .ref Do, .ref tl, .ref ca, .int x37.2]))]) [0] gdX7_walk_47.2.2.2.2 rfl rfl rfl rfl (PN.mk (fun _ => 0) rfl rfl)
  · refine aw_iconst (q := 44) (v := 0) gdX7_walk_31.2.2.2.2.2.2.1 rfl (by decide) ?_
    refine aw_goto (tgt := 53) gdX7_walk_31.2.2.2.2.2.2.2 (by decide) ?_
    exact aw_ireturn (w := [(m, .inr (9, [.ref Mo, .ref Lo, .ref Do, .ref tl, .ref ca, .int x37.2]))]) [0] gdX7_walk_47.2.2.2.2 rfl rfl rfl rfl (PN.mk (fun _ => 0) rfl rfl)
def fX7_walk_31 (N K : Nat) (th : Int32) (p0 : Int32) (p1 : Int32) (p2 : Int32) (th_ : Int32) : Option (Int32 × Int32) :=
  fX7_walk_36 N K th p0 p1 p2  (1 : Int32) th_
set_option maxHeartbeats 4000000 in
set_option maxRecDepth 100000 in
theorem tX7_walk_31 {N K : Nat} {m Mo Lo Do tl ca : Nat} {th : Int32} {p0 : Int32} {p1 : Int32} {p2 : Int32} : ∀ (th_ : Int32), AW RX7 "walk" cX7_walk 4 (some .int) [] (fun _ _ => True) (5) (PN (U := Int32 × Int32) (fun zz _ => some (.int zz.1)) (fun zz ad => [(m, .inr (9, [.ref Mo, .ref Lo, .ref Do, .ref tl, .ref ca, .int zz.2]))])) 1 21 (fX7_walk_31 N K th p0 p1 p2  th_) 31 [(1, .int p0), (2, .int p1), (3, .int p2)] [.ref m] [(m, .inr (9, [.ref Mo, .ref Lo, .ref Do, .ref tl, .ref ca, .int th_]))] := by
  intro th_
  refine aw_iconst (q := 32) (v := 1) gdX7_walk_31.1 rfl (by decide) ?_
  refine aw_goto (tgt := 36) gdX7_walk_31.2.1 (by decide) ?_
  exact tX7_walk_36  _ _
def fX7_walk (N K : Nat) (th : Int32) (p0 : Int32) (p1 : Int32) (p2 : Int32) : Option (Int32 × Int32) :=
  ((fX7_isNo N K p0 (0 : Int32) (7 : Int32)).bind (fun x5 => (if x5 = 0 then ((fX7_isNo N K p1 (0 : Int32) (20 : Int32)).bind (fun x15 => (if x15 = 0 then ((fX7_isNo N K p2 (0 : Int32) (20 : Int32)).bind (fun x25 => (if x25 = 0 then fX7_walk_36 N K th p0 p1 p2  (0 : Int32) th else fX7_walk_31 N K th p0 p1 p2  th))) else fX7_walk_31 N K th p0 p1 p2  th))) else fX7_walk_31 N K th p0 p1 p2  th)))
set_option maxHeartbeats 4000000 in
set_option maxRecDepth 100000 in
theorem ok_X7_walk {N K : Nat} {m Mo Lo Do tl ca : Nat} {th : Int32} {p0 : Int32} {p1 : Int32} {p2 : Int32} {xr : Int32 × Int32} (hE : fX7_walk N K th p0 p1 p2 = some xr) : OkM yX7_walk (.code yX7_walk cX7_walk 4 (some .int)) (5) 1 21 [.ref m, .int p0, .int p1, .int p2] [(m, .inr (9, [.ref Mo, .ref Lo, .ref Do, .ref tl, .ref ca, .int th]))] ((PN (U := Int32 × Int32) (fun zz _ => some (.int zz.1)) (fun zz ad => [(m, .inr (9, [.ref Mo, .ref Lo, .ref Do, .ref tl, .ref ca, .int zz.2]))])) xr) := by
  refine ok_of (by decide) (Nat.le_of_ble_eq_true rfl) hE ?_
  refine aw_locals (lv' := [(0, .ref m), (1, .int p0), (2, .int p1), (3, .int p2)]) [0, 1, 2, 3] rfl ?_
  refine aw_aload_n (q := 1) gdX7_walk_0.1 rfl 0 rfl ?_
  refine aw_iload_n (q := 2) gdX7_walk_0.2.1 rfl 1 rfl ?_
  refine aw_iconst (q := 3) (v := 0) gdX7_walk_0.2.2.1 rfl (by decide) ?_
  refine aw_bipush (q := 5) (v := 7) gdX7_walk_0.2.2.2.1 rfl (by decide) ?_
  refine aw_call (q := 8) (kc1 := 1) (ks1 := 21) (wc := []) (wr := [(m, .inr (9, [.ref Mo, .ref Lo, .ref Do, .ref tl, .ref ca, .int th]))]) (st1 := fun x5 g5 => [.int x5, .ref m]) (ws1 := fun x5 g5 => [(m, .inr (9, [.ref Mo, .ref Lo, .ref Do, .ref tl, .ref ca, .int th]))]) (As := [.int p0, .int (0 : Int32), .int (7 : Int32)]) [] [0] (fun _ => runS gdX7_walk_0.2.2.2.2.1 mi_X7_isNo st_X7_isNo ml_X7_31 (by omega) rfl (Nat.le_of_ble_eq_true rfl) rfl) (fun x9 h9 => ok_X7_isNo h9) rfl rfl rfl rfl rfl (by decide +kernel) (by omega) (by omega) (fun _ _ => rfl) (fun _ _ => rfl) (fun x5 g5 => ?_)
  refine aw_if_ne (tgt := 31) (q := 11) gdX7_walk_0.2.2.2.2.2.1 (by decide) rfl (fun h_8 => ?_) (fun h_8 => ?_)
  · refine aw_locals (lv' := [(1, .int p0), (2, .int p1), (3, .int p2)]) [1, 2, 3] rfl ?_
    exact tX7_walk_31  _
  · refine aw_iload_n (q := 12) gdX7_walk_0.2.2.2.2.2.2.1 rfl 2 rfl ?_
    refine aw_iconst (q := 13) (v := 0) gdX7_walk_0.2.2.2.2.2.2.2 rfl (by decide) ?_
    refine aw_bipush (q := 15) (v := 20) gdX7_walk_13.1 rfl (by decide) ?_
    refine aw_call (q := 18) (kc1 := 1) (ks1 := 21) (wc := []) (wr := [(m, .inr (9, [.ref Mo, .ref Lo, .ref Do, .ref tl, .ref ca, .int th]))]) (st1 := fun x15 g15 => [.int x15, .ref m]) (ws1 := fun x15 g15 => [(m, .inr (9, [.ref Mo, .ref Lo, .ref Do, .ref tl, .ref ca, .int th]))]) (As := [.int p1, .int (0 : Int32), .int (20 : Int32)]) [] [0] (fun _ => runS gdX7_walk_13.2.1 mi_X7_isNo st_X7_isNo ml_X7_31 (by omega) rfl (Nat.le_of_ble_eq_true rfl) rfl) (fun x9 h9 => ok_X7_isNo h9) rfl rfl rfl rfl rfl (by decide +kernel) (by omega) (by omega) (fun _ _ => rfl) (fun _ _ => rfl) (fun x15 g15 => ?_)
    refine aw_if_ne (tgt := 31) (q := 21) gdX7_walk_13.2.2.1 (by decide) rfl (fun h_18 => ?_) (fun h_18 => ?_)
    · refine aw_locals (lv' := [(1, .int p0), (2, .int p1), (3, .int p2)]) [1, 2, 3] rfl ?_
      exact tX7_walk_31  _
    · refine aw_iload_n (q := 22) gdX7_walk_13.2.2.2.1 rfl 3 rfl ?_
      refine aw_iconst (q := 23) (v := 0) gdX7_walk_13.2.2.2.2.1 rfl (by decide) ?_
      refine aw_bipush (q := 25) (v := 20) gdX7_walk_13.2.2.2.2.2.1 rfl (by decide) ?_
      refine aw_call (q := 28) (kc1 := 1) (ks1 := 21) (wc := []) (wr := [(m, .inr (9, [.ref Mo, .ref Lo, .ref Do, .ref tl, .ref ca, .int th]))]) (st1 := fun x25 g25 => [.int x25, .ref m]) (ws1 := fun x25 g25 => [(m, .inr (9, [.ref Mo, .ref Lo, .ref Do, .ref tl, .ref ca, .int th]))]) (As := [.int p2, .int (0 : Int32), .int (20 : Int32)]) [] [0] (fun _ => runS gdX7_walk_13.2.2.2.2.2.2.1 mi_X7_isNo st_X7_isNo ml_X7_31 (by omega) rfl (Nat.le_of_ble_eq_true rfl) rfl) (fun x9 h9 => ok_X7_isNo h9) rfl rfl rfl rfl rfl (by decide +kernel) (by omega) (by omega) (fun _ _ => rfl) (fun _ _ => rfl) (fun x25 g25 => ?_)
      refine aw_if_eq (tgt := 35) (q := 31) gdX7_walk_13.2.2.2.2.2.2.2 (by decide) rfl (fun h_28 => ?_) (fun h_28 => ?_)
      · refine aw_iconst (q := 36) (v := 0) gdX7_walk_31.2.2.1 rfl (by decide) ?_
        refine aw_locals (lv' := [(1, .int p0), (2, .int p1), (3, .int p2)]) [1, 2, 3] rfl ?_
        exact tX7_walk_36  _ _
      · refine aw_locals (lv' := [(1, .int p0), (2, .int p1), (3, .int p2)]) [1, 2, 3] rfl ?_
        exact tX7_walk_31  _
def fX7_product_36 (N K : Nat) (th : Int32) (p0 : Int32) (p1 : Int32) (p2 : Int32) (s0 : Int32) (th_ : Int32) : Option (Int32 × Int32) :=
  ((fX7_isThrown N K th_ s0 (0 : Int32)).bind (fun x37 => (if x37.1 = 0 then ((fX7_series N K p0 p1 p2).bind (fun x50 => (some (x50, x37.2)))) else (some ((0 : Int32), x37.2)))))
set_option maxHeartbeats 4000000 in
set_option maxRecDepth 100000 in
theorem tX7_product_36 {N K : Nat} {m Mo Lo Do tl ca : Nat} {th : Int32} {p0 : Int32} {p1 : Int32} {p2 : Int32} : ∀ (s0 : Int32) (th_ : Int32), AW RX7 "product" cX7_product 4 (some .int) [] (fun _ _ => True) (2) (PN (U := Int32 × Int32) (fun zz _ => some (.int zz.1)) (fun zz ad => [(m, .inr (9, [.ref Mo, .ref Lo, .ref Do, .ref tl, .ref ca, .int zz.2]))])) 1 21 (fX7_product_36 N K th p0 p1 p2  s0 th_) 36 [(1, .int p0), (2, .int p1), (3, .int p2)] [.int s0, .ref m] [(m, .inr (9, [.ref Mo, .ref Lo, .ref Do, .ref tl, .ref ca, .int th_]))] := by
  intro s0 th_
  refine aw_iconst (q := 37) (v := 0) gdX7_product_31.2.2.2.1 rfl (by decide) ?_
  refine aw_call (q := 40) (kc1 := 1) (ks1 := 21) (wc := [(m, .inr (9, [.ref Mo, .ref Lo, .ref Do, .ref tl, .ref ca, .int th_]))]) (wr := []) (st1 := fun x37 g37 => [.int x37.1]) (ws1 := fun x37 g37 => [(m, .inr (9, [.ref Mo, .ref Lo, .ref Do, .ref tl, .ref ca, .int x37.2]))]) (As := [.ref m, .int s0, .int (0 : Int32)]) [0] [] (fun _ => runV (q0 := 0) gdX7_product_31.2.2.2.2.1 mi_X7_isThrown im_X7_isThrown se_X7_isThrown ml_X7_110 (by omega) rfl (Nat.le_of_ble_eq_true rfl) rfl rfl rfl rfl) (fun x9 h9 => ok_X7_isThrown h9) rfl rfl rfl rfl rfl (by decide +kernel) (by omega) (by omega) (fun _ _ => rfl) (fun _ _ => rfl) (fun x37 g37 => ?_)
  refine aw_if_eq (tgt := 47) (q := 43) gdX7_product_31.2.2.2.2.2.1 (by decide) rfl (fun h_40 => ?_) (fun h_40 => ?_)
  · refine aw_iload_n (q := 48) gdX7_product_47.1 rfl 0 rfl ?_
    refine aw_iload_n (q := 49) gdX7_product_47.2.1 rfl 1 rfl ?_
    refine aw_iload_n (q := 50) gdX7_product_47.2.2.1 rfl 2 rfl ?_
    refine aw_call (q := 53) (kc1 := 0) (ks1 := 0) (wc := []) (wr := [(m, .inr (9, [.ref Mo, .ref Lo, .ref Do, .ref tl, .ref ca, .int x37.2]))]) (st1 := fun x50 g50 => [.int x50]) (ws1 := fun x50 g50 => [(m, .inr (9, [.ref Mo, .ref Lo, .ref Do, .ref tl, .ref ca, .int x37.2]))]) (As := [.int p0, .int p1, .int p2]) [] [0] (fun _ => runS gdX7_product_47.2.2.2.1 mi_X7_series st_X7_series ml_X7_128 (by omega) rfl (Nat.le_of_ble_eq_true rfl) rfl) (fun x9 h9 => ok_X7_series h9) rfl rfl rfl rfl rfl (by decide +kernel) (by omega) (by omega) (fun _ _ => rfl) (fun _ _ => rfl) (fun x50 g50 => ?_)
    exact aw_ireturn (w := [(m, .inr (9, [.ref Mo, .ref Lo, .ref Do, .ref tl, .ref ca, .int x37.2]))]) [0] gdX7_product_47.2.2.2.2 rfl rfl rfl rfl (PN.mk (fun _ => 0) rfl rfl)
  · refine aw_iconst (q := 44) (v := 0) gdX7_product_31.2.2.2.2.2.2.1 rfl (by decide) ?_
    refine aw_goto (tgt := 53) gdX7_product_31.2.2.2.2.2.2.2 (by decide) ?_
    exact aw_ireturn (w := [(m, .inr (9, [.ref Mo, .ref Lo, .ref Do, .ref tl, .ref ca, .int x37.2]))]) [0] gdX7_product_47.2.2.2.2 rfl rfl rfl rfl (PN.mk (fun _ => 0) rfl rfl)
def fX7_product_31 (N K : Nat) (th : Int32) (p0 : Int32) (p1 : Int32) (p2 : Int32) (th_ : Int32) : Option (Int32 × Int32) :=
  fX7_product_36 N K th p0 p1 p2  (1 : Int32) th_
set_option maxHeartbeats 4000000 in
set_option maxRecDepth 100000 in
theorem tX7_product_31 {N K : Nat} {m Mo Lo Do tl ca : Nat} {th : Int32} {p0 : Int32} {p1 : Int32} {p2 : Int32} : ∀ (th_ : Int32), AW RX7 "product" cX7_product 4 (some .int) [] (fun _ _ => True) (2) (PN (U := Int32 × Int32) (fun zz _ => some (.int zz.1)) (fun zz ad => [(m, .inr (9, [.ref Mo, .ref Lo, .ref Do, .ref tl, .ref ca, .int zz.2]))])) 1 21 (fX7_product_31 N K th p0 p1 p2  th_) 31 [(1, .int p0), (2, .int p1), (3, .int p2)] [.ref m] [(m, .inr (9, [.ref Mo, .ref Lo, .ref Do, .ref tl, .ref ca, .int th_]))] := by
  intro th_
  refine aw_iconst (q := 32) (v := 1) gdX7_product_31.1 rfl (by decide) ?_
  refine aw_goto (tgt := 36) gdX7_product_31.2.1 (by decide) ?_
  exact tX7_product_36  _ _
def fX7_product (N K : Nat) (th : Int32) (p0 : Int32) (p1 : Int32) (p2 : Int32) : Option (Int32 × Int32) :=
  ((fX7_isNo N K p0 (0 : Int32) (7 : Int32)).bind (fun x5 => (if x5 = 0 then ((fX7_isNo N K p1 (0 : Int32) (20 : Int32)).bind (fun x15 => (if x15 = 0 then ((fX7_isNo N K p2 (0 : Int32) (20 : Int32)).bind (fun x25 => (if x25 = 0 then fX7_product_36 N K th p0 p1 p2  (0 : Int32) th else fX7_product_31 N K th p0 p1 p2  th))) else fX7_product_31 N K th p0 p1 p2  th))) else fX7_product_31 N K th p0 p1 p2  th)))
set_option maxHeartbeats 4000000 in
set_option maxRecDepth 100000 in
theorem ok_X7_product {N K : Nat} {m Mo Lo Do tl ca : Nat} {th : Int32} {p0 : Int32} {p1 : Int32} {p2 : Int32} {xr : Int32 × Int32} (hE : fX7_product N K th p0 p1 p2 = some xr) : OkM yX7_product (.code yX7_product cX7_product 4 (some .int)) (2) 1 21 [.ref m, .int p0, .int p1, .int p2] [(m, .inr (9, [.ref Mo, .ref Lo, .ref Do, .ref tl, .ref ca, .int th]))] ((PN (U := Int32 × Int32) (fun zz _ => some (.int zz.1)) (fun zz ad => [(m, .inr (9, [.ref Mo, .ref Lo, .ref Do, .ref tl, .ref ca, .int zz.2]))])) xr) := by
  refine ok_of (by decide) (Nat.le_of_ble_eq_true rfl) hE ?_
  refine aw_locals (lv' := [(0, .ref m), (1, .int p0), (2, .int p1), (3, .int p2)]) [0, 1, 2, 3] rfl ?_
  refine aw_aload_n (q := 1) gdX7_product_0.1 rfl 0 rfl ?_
  refine aw_iload_n (q := 2) gdX7_product_0.2.1 rfl 1 rfl ?_
  refine aw_iconst (q := 3) (v := 0) gdX7_product_0.2.2.1 rfl (by decide) ?_
  refine aw_bipush (q := 5) (v := 7) gdX7_product_0.2.2.2.1 rfl (by decide) ?_
  refine aw_call (q := 8) (kc1 := 1) (ks1 := 21) (wc := []) (wr := [(m, .inr (9, [.ref Mo, .ref Lo, .ref Do, .ref tl, .ref ca, .int th]))]) (st1 := fun x5 g5 => [.int x5, .ref m]) (ws1 := fun x5 g5 => [(m, .inr (9, [.ref Mo, .ref Lo, .ref Do, .ref tl, .ref ca, .int th]))]) (As := [.int p0, .int (0 : Int32), .int (7 : Int32)]) [] [0] (fun _ => runS gdX7_product_0.2.2.2.2.1 mi_X7_isNo st_X7_isNo ml_X7_31 (by omega) rfl (Nat.le_of_ble_eq_true rfl) rfl) (fun x9 h9 => ok_X7_isNo h9) rfl rfl rfl rfl rfl (by decide +kernel) (by omega) (by omega) (fun _ _ => rfl) (fun _ _ => rfl) (fun x5 g5 => ?_)
  refine aw_if_ne (tgt := 31) (q := 11) gdX7_product_0.2.2.2.2.2.1 (by decide) rfl (fun h_8 => ?_) (fun h_8 => ?_)
  · refine aw_locals (lv' := [(1, .int p0), (2, .int p1), (3, .int p2)]) [1, 2, 3] rfl ?_
    exact tX7_product_31  _
  · refine aw_iload_n (q := 12) gdX7_product_0.2.2.2.2.2.2.1 rfl 2 rfl ?_
    refine aw_iconst (q := 13) (v := 0) gdX7_product_0.2.2.2.2.2.2.2 rfl (by decide) ?_
    refine aw_bipush (q := 15) (v := 20) gdX7_product_13.1 rfl (by decide) ?_
    refine aw_call (q := 18) (kc1 := 1) (ks1 := 21) (wc := []) (wr := [(m, .inr (9, [.ref Mo, .ref Lo, .ref Do, .ref tl, .ref ca, .int th]))]) (st1 := fun x15 g15 => [.int x15, .ref m]) (ws1 := fun x15 g15 => [(m, .inr (9, [.ref Mo, .ref Lo, .ref Do, .ref tl, .ref ca, .int th]))]) (As := [.int p1, .int (0 : Int32), .int (20 : Int32)]) [] [0] (fun _ => runS gdX7_product_13.2.1 mi_X7_isNo st_X7_isNo ml_X7_31 (by omega) rfl (Nat.le_of_ble_eq_true rfl) rfl) (fun x9 h9 => ok_X7_isNo h9) rfl rfl rfl rfl rfl (by decide +kernel) (by omega) (by omega) (fun _ _ => rfl) (fun _ _ => rfl) (fun x15 g15 => ?_)
    refine aw_if_ne (tgt := 31) (q := 21) gdX7_product_13.2.2.1 (by decide) rfl (fun h_18 => ?_) (fun h_18 => ?_)
    · refine aw_locals (lv' := [(1, .int p0), (2, .int p1), (3, .int p2)]) [1, 2, 3] rfl ?_
      exact tX7_product_31  _
    · refine aw_iload_n (q := 22) gdX7_product_13.2.2.2.1 rfl 3 rfl ?_
      refine aw_iconst (q := 23) (v := 0) gdX7_product_13.2.2.2.2.1 rfl (by decide) ?_
      refine aw_bipush (q := 25) (v := 20) gdX7_product_13.2.2.2.2.2.1 rfl (by decide) ?_
      refine aw_call (q := 28) (kc1 := 1) (ks1 := 21) (wc := []) (wr := [(m, .inr (9, [.ref Mo, .ref Lo, .ref Do, .ref tl, .ref ca, .int th]))]) (st1 := fun x25 g25 => [.int x25, .ref m]) (ws1 := fun x25 g25 => [(m, .inr (9, [.ref Mo, .ref Lo, .ref Do, .ref tl, .ref ca, .int th]))]) (As := [.int p2, .int (0 : Int32), .int (20 : Int32)]) [] [0] (fun _ => runS gdX7_product_13.2.2.2.2.2.2.1 mi_X7_isNo st_X7_isNo ml_X7_31 (by omega) rfl (Nat.le_of_ble_eq_true rfl) rfl) (fun x9 h9 => ok_X7_isNo h9) rfl rfl rfl rfl rfl (by decide +kernel) (by omega) (by omega) (fun _ _ => rfl) (fun _ _ => rfl) (fun x25 g25 => ?_)
      refine aw_if_eq (tgt := 35) (q := 31) gdX7_product_13.2.2.2.2.2.2.2 (by decide) rfl (fun h_28 => ?_) (fun h_28 => ?_)
      · refine aw_iconst (q := 36) (v := 0) gdX7_product_31.2.2.1 rfl (by decide) ?_
        refine aw_locals (lv' := [(1, .int p0), (2, .int p1), (3, .int p2)]) [1, 2, 3] rfl ?_
        exact tX7_product_36  _ _
      · refine aw_locals (lv' := [(1, .int p0), (2, .int p1), (3, .int p2)]) [1, 2, 3] rfl ?_
        exact tX7_product_31  _
