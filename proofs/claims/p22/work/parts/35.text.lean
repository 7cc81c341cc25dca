def fX4_text_23 (N K : Nat) (f : Nat → Int32) (k_11 : Int32 → Int32 → Nat → (Nat → Int32) → Nat → Option (Unit)) : Nat → Int32 → Int32 → Int32 → Nat → (Nat → Int32) → Nat → Option (Unit)
  | 0, _, _, _, _, _, _ => none
  | fu + 1, l2, l3, o_v0_3, n_v1, e_v1, bd =>
    (if bd = 0 then none else (if l3 ≤ 0 then k_11 (l2 + (-1 : Int32)) o_v0_3 n_v1 e_v1 (bd - 1) else ((fJ_length N K o_v0_3 n_v1 e_v1).bind (fun x28 => (if x28 ≤ 0 then ((fJ_appendI N K o_v0_3 n_v1 e_v1 l2).bind (fun x43 => fX4_text_23 N K f k_11 fu l2 (l3 + (-1 : Int32)) x43.1 x43.2.1 x43.2.2 (bd - 1))) else ((fJ_appendC N K o_v0_3 n_v1 e_v1 (43 : Int32)).bind (fun x37 => ((fJ_appendI N K x37.1 x37.2.1 x37.2.2 l2).bind (fun x43_1 => fX4_text_23 N K f k_11 fu l2 (l3 + (-1 : Int32)) x43_1.1 x43_1.2.1 x43_1.2.2 (bd - 1))))))))))
set_option maxHeartbeats 4000000 in
set_option maxRecDepth 100000 in
theorem tX4_text_23 {N K : Nat} {w a : Nat} {f : Nat → Int32} {k_11 : Int32 → Int32 → Nat → (Nat → Int32) → Nat → Option (Unit)} (hk_11 : ∀ (l2 : Int32) (o_v0_3 : Int32) (n_v1 : Nat) (e_v1 : Nat → Int32) (bd : Nat) (v0 v1 : Nat), AW RX4 "text" cX4_text 4 (some (.object "java/lang/String")) [] (fun _ _ => True) (7) (PN (U := Unit) (fun _ ad => some (.ref (ad 0))) (fun zz ad => [(w, .inr (6, [.ref a])), (a, .inl (0, 21, .inl f))])) (2 * bd + 2) (160 * bd + 84) (k_11 l2 o_v0_3 n_v1 e_v1 bd) 11 [(0, .ref w), (1, .ref v0), (2, .int l2)] [] [(w, .inr (6, [.ref a])), (a, .inl (0, 21, .inl f)), (v0, .inr (1, [.ref v1, .int (0 : Int32), .int (0 : Int32), .int o_v0_3])), (v1, .inl (5, n_v1, .inl e_v1))]) : ∀ (fu : Nat) (l2 : Int32) (l3 : Int32) (o_v0_3 : Int32) (n_v1 : Nat) (e_v1 : Nat → Int32) (bd : Nat) (v0 v1 : Nat), AW RX4 "text" cX4_text 4 (some (.object "java/lang/String")) [] (fun _ _ => True) (7) (PN (U := Unit) (fun _ ad => some (.ref (ad 0))) (fun zz ad => [(w, .inr (6, [.ref a])), (a, .inl (0, 21, .inl f))])) (2 * bd + 2) (160 * bd + 84) (fX4_text_23 N K f k_11 fu l2 l3 o_v0_3 n_v1 e_v1 bd) 23 [(0, .ref w), (1, .ref v0), (2, .int l2), (3, .int l3)] [] [(w, .inr (6, [.ref a])), (a, .inl (0, 21, .inl f)), (v0, .inr (1, [.ref v1, .int (0 : Int32), .int (0 : Int32), .int o_v0_3])), (v1, .inl (5, n_v1, .inl e_v1))] := by
  intro fu
  induction fu with
  | zero => intro l2 l3 o_v0_3 n_v1 e_v1 bd v0 v1; exact aw_none
  | succ fu ih =>
    intro l2 l3 o_v0_3 n_v1 e_v1 bd v0 v1
    refine aw_pos (fun hbd => ?_)
    refine aw_room (kc' := (2 * (bd - 1) + 4)) (ks' := (160 * (bd - 1) + 244)) (by omega) (by omega) ?_
    refine aw_iload_n (q := 24) gdX4_text_13.2.2.2.2.2.2.1 rfl 3 rfl ?_
    refine aw_if_le (tgt := 53) (q := 27) gdX4_text_13.2.2.2.2.2.2.2 (by decide) rfl (fun h_24 => ?_) (fun h_24 => ?_)
    · refine aw_iinc (q := 56) (v := (l2 + (-1 : Int32))) (lv' := [(2, .int (l2 + (-1 : Int32))), (0, .ref w), (1, .ref v0), (3, .int l3)]) gdX4_text_42.2.2.2.2.2.1 rfl 2 rfl rfl (by decide) rfl ?_
      refine aw_goto (tgt := 11) gdX4_text_42.2.2.2.2.2.2.1 (by decide) ?_
      refine aw_locals (lv' := [(0, .ref w), (1, .ref v0), (2, .int (l2 + (-1 : Int32)))]) [1, 2, 0] rfl ?_
      refine aw_room (kc' := (2 * (bd - 1) + 2)) (ks' := (160 * (bd - 1) + 84)) (by omega) (by omega) ?_
      exact hk_11 _ _ _ _ _ _ _
    · refine aw_aload_n (q := 28) gdX4_text_27.1 rfl 1 rfl ?_
      refine aw_call (q := 31) (kc1 := (2 * (bd - 1) + 4)) (ks1 := (160 * (bd - 1) + 244)) (wc := [(v0, .inr (1, [.ref v1, .int (0 : Int32), .int (0 : Int32), .int o_v0_3])), (v1, .inl (5, n_v1, .inl e_v1))]) (wr := [(w, .inr (6, [.ref a])), (a, .inl (0, 21, .inl f))]) (st1 := fun x28 g28 => [.int x28]) (ws1 := fun x28 g28 => [(w, .inr (6, [.ref a])), (a, .inl (0, 21, .inl f)), (v0, .inr (1, [.ref v1, .int (0 : Int32), .int (0 : Int32), .int o_v0_3])), (v1, .inl (5, n_v1, .inl e_v1))]) (As := [.ref v0]) [2, 3] [0, 1] (fun _ => runV (q0 := 2) gdX4_text_27.2.1 mi_J4_length_8abf5 im_J4_length_8abf5 se_J4_length_8abf5 ml_X4_66 (by omega) rfl (Nat.le_of_ble_eq_true rfl) rfl rfl rfl rfl) (fun x9 h9 => ok_J_length h9) rfl rfl rfl rfl rfl (by decide +kernel) (by omega) (by omega) (fun _ _ => rfl) (fun _ _ => rfl) (fun x28 g28 => ?_)
      refine aw_if_le (tgt := 41) (q := 34) gdX4_text_27.2.2.1 (by decide) rfl (fun h_31 => ?_) (fun h_31 => ?_)
      · refine aw_aload_n (q := 42) gdX4_text_27.2.2.2.2.2.2.2 rfl 1 rfl ?_
        refine aw_iload_n (q := 43) gdX4_text_42.1 rfl 2 rfl ?_
        refine aw_call (q := 46) (kc1 := (2 * (bd - 1) + 3)) (ks1 := (160 * (bd - 1) + 164)) (wc := [(v0, .inr (1, [.ref v1, .int (0 : Int32), .int (0 : Int32), .int o_v0_3])), (v1, .inl (5, n_v1, .inl e_v1))]) (wr := [(w, .inr (6, [.ref a])), (a, .inl (0, 21, .inl f))]) (st1 := fun x43 g43 => [.ref v0]) (ws1 := fun x43 g43 => [(w, .inr (6, [.ref a])), (a, .inl (0, 21, .inl f)), (v0, .inr (1, [.ref (g43 0), .int (0 : Int32), .int (0 : Int32), .int x43.1])), ((g43 0), .inl (5, x43.2.1, .inl x43.2.2))]) (As := [.ref v0, .int l2]) [2, 3] [0, 1] (fun _ => runV (q0 := 2) gdX4_text_42.2.1 mi_J4_append_bf812 im_J4_append_bf812 se_J4_append_bf812 ml_X4_73 (by omega) rfl (Nat.le_of_ble_eq_true rfl) rfl rfl rfl rfl) (fun x9 h9 => ok_J_appendI h9) rfl rfl rfl rfl rfl (by decide +kernel) (by omega) (by omega) (fun _ _ => rfl) (fun _ _ => rfl) (fun x43 g43 => ?_)
        refine aw_pop (q := 47) gdX4_text_42.2.2.1 rfl rfl ?_
        refine aw_iinc (q := 50) (v := (l3 + (-1 : Int32))) (lv' := [(3, .int (l3 + (-1 : Int32))), (0, .ref w), (1, .ref v0), (2, .int l2)]) gdX4_text_42.2.2.2.1 rfl 3 rfl rfl (by decide) rfl ?_
        refine aw_goto (tgt := 23) gdX4_text_42.2.2.2.2.1 (by decide) ?_
        refine aw_locals (lv' := [(0, .ref w), (1, .ref v0), (2, .int l2), (3, .int (l3 + (-1 : Int32)))]) [1, 2, 3, 0] rfl ?_
        refine aw_room (kc' := (2 * (bd - 1) + 2)) (ks' := (160 * (bd - 1) + 84)) (by omega) (by omega) ?_
        exact ih _ _ _ _ _ _ _ _
      · refine aw_aload_n (q := 35) gdX4_text_27.2.2.2.1 rfl 1 rfl ?_
        refine aw_bipush (q := 37) (v := 43) gdX4_text_27.2.2.2.2.1 rfl (by decide) ?_
        refine aw_call (q := 40) (kc1 := (2 * (bd - 1) + 3)) (ks1 := (160 * (bd - 1) + 164)) (wc := [(v0, .inr (1, [.ref v1, .int (0 : Int32), .int (0 : Int32), .int o_v0_3])), (v1, .inl (5, n_v1, .inl e_v1))]) (wr := [(w, .inr (6, [.ref a])), (a, .inl (0, 21, .inl f))]) (st1 := fun x37 g37 => [.ref v0]) (ws1 := fun x37 g37 => [(w, .inr (6, [.ref a])), (a, .inl (0, 21, .inl f)), (v0, .inr (1, [.ref (g37 0), .int (0 : Int32), .int (0 : Int32), .int x37.1])), ((g37 0), .inl (5, x37.2.1, .inl x37.2.2))]) (As := [.ref v0, .int (43 : Int32)]) [2, 3] [0, 1] (fun _ => runV (q0 := 2) gdX4_text_27.2.2.2.2.2.1 mi_J4_append_cf468 im_J4_append_cf468 se_J4_append_cf468 ml_X4_69 (by omega) rfl (Nat.le_of_ble_eq_true rfl) rfl rfl rfl rfl) (fun x9 h9 => ok_J_appendC h9) rfl rfl rfl rfl rfl (by decide +kernel) (by omega) (by omega) (fun _ _ => rfl) (fun _ _ => rfl) (fun x37 g37 => ?_)
        refine aw_pop (q := 41) gdX4_text_27.2.2.2.2.2.2.1 rfl rfl ?_
        refine aw_aload_n (q := 42) gdX4_text_27.2.2.2.2.2.2.2 rfl 1 rfl ?_
        refine aw_iload_n (q := 43) gdX4_text_42.1 rfl 2 rfl ?_
        refine aw_call (q := 46) (kc1 := (2 * (bd - 1) + 2)) (ks1 := (160 * (bd - 1) + 84)) (wc := [(v0, .inr (1, [.ref (g37 0), .int (0 : Int32), .int (0 : Int32), .int x37.1])), ((g37 0), .inl (5, x37.2.1, .inl x37.2.2))]) (wr := [(w, .inr (6, [.ref a])), (a, .inl (0, 21, .inl f))]) (st1 := fun x43_1 g43_1 => [.ref v0]) (ws1 := fun x43_1 g43_1 => [(w, .inr (6, [.ref a])), (a, .inl (0, 21, .inl f)), (v0, .inr (1, [.ref (g43_1 0), .int (0 : Int32), .int (0 : Int32), .int x43_1.1])), ((g43_1 0), .inl (5, x43_1.2.1, .inl x43_1.2.2))]) (As := [.ref v0, .int l2]) [2, 3] [0, 1] (fun _ => runV (q0 := 2) gdX4_text_42.2.1 mi_J4_append_bf812 im_J4_append_bf812 se_J4_append_bf812 ml_X4_73 (by omega) rfl (Nat.le_of_ble_eq_true rfl) rfl rfl rfl rfl) (fun x9 h9 => ok_J_appendI h9) rfl rfl rfl rfl rfl (by decide +kernel) (by omega) (by omega) (fun _ _ => rfl) (fun _ _ => rfl) (fun x43_1 g43_1 => ?_)
        refine aw_pop (q := 47) gdX4_text_42.2.2.1 rfl rfl ?_
        refine aw_iinc (q := 50) (v := (l3 + (-1 : Int32))) (lv' := [(3, .int (l3 + (-1 : Int32))), (0, .ref w), (1, .ref v0), (2, .int l2)]) gdX4_text_42.2.2.2.1 rfl 3 rfl rfl (by decide) rfl ?_
        refine aw_goto (tgt := 23) gdX4_text_42.2.2.2.2.1 (by decide) ?_
        refine aw_locals (lv' := [(0, .ref w), (1, .ref v0), (2, .int l2), (3, .int (l3 + (-1 : Int32)))]) [1, 2, 3, 0] rfl ?_
        refine aw_room (kc' := (2 * (bd - 1) + 2)) (ks' := (160 * (bd - 1) + 84)) (by omega) (by omega) ?_
        exact ih _ _ _ _ _ _ _ _
def fX4_text_11 (N K : Nat) (f : Nat → Int32) : Nat → Int32 → Int32 → Nat → (Nat → Int32) → Nat → Option (Unit)
  | 0, _, _, _, _, _ => none
  | fu + 1, l2, o_v0_3, n_v1, e_v1, bd =>
    (if l2 < (1 : Int32) then ((fJ_toString N K o_v0_3 n_v1 e_v1).bind (fun x60 => (some ()))) else (if l2 < 0 ∨ 21 ≤ l2.toNatClampNeg then none else fX4_text_23 N K f (fX4_text_11 N K f  fu) N l2 (f l2.toNatClampNeg) o_v0_3 n_v1 e_v1 bd))
set_option maxHeartbeats 4000000 in
set_option maxRecDepth 100000 in
theorem tX4_text_11 {N K : Nat} {w a : Nat} {f : Nat → Int32} : ∀ (fu : Nat) (l2 : Int32) (o_v0_3 : Int32) (n_v1 : Nat) (e_v1 : Nat → Int32) (bd : Nat) (v0 v1 : Nat), AW RX4 "text" cX4_text 4 (some (.object "java/lang/String")) [] (fun _ _ => True) (7) (PN (U := Unit) (fun _ ad => some (.ref (ad 0))) (fun zz ad => [(w, .inr (6, [.ref a])), (a, .inl (0, 21, .inl f))])) (2 * bd + 2) (160 * bd + 84) (fX4_text_11 N K f  fu l2 o_v0_3 n_v1 e_v1 bd) 11 [(0, .ref w), (1, .ref v0), (2, .int l2)] [] [(w, .inr (6, [.ref a])), (a, .inl (0, 21, .inl f)), (v0, .inr (1, [.ref v1, .int (0 : Int32), .int (0 : Int32), .int o_v0_3])), (v1, .inl (5, n_v1, .inl e_v1))] := by
  intro fu
  induction fu with
  | zero => intro l2 o_v0_3 n_v1 e_v1 bd v0 v1; exact aw_none
  | succ fu ih =>
    intro l2 o_v0_3 n_v1 e_v1 bd v0 v1
    refine aw_iload_n (q := 12) gdX4_text_0.2.2.2.2.2.2.1 rfl 2 rfl ?_
    refine aw_iconst (q := 13) (v := 1) gdX4_text_0.2.2.2.2.2.2.2 rfl (by decide) ?_
    refine aw_icmp_lt (tgt := 59) (q := 16) gdX4_text_13.1 (by decide) rfl (fun h_13 => ?_) (fun h_13 => ?_)
    · refine aw_aload_n (q := 60) gdX4_text_42.2.2.2.2.2.2.2 rfl 1 rfl ?_
      refine aw_call (q := 63) (kc1 := (2 * bd)) (ks1 := (160 * bd)) (wc := [(v0, .inr (1, [.ref v1, .int (0 : Int32), .int (0 : Int32), .int o_v0_3])), (v1, .inl (5, n_v1, .inl e_v1))]) (wr := [(w, .inr (6, [.ref a])), (a, .inl (0, 21, .inl f))]) (st1 := fun x60 g60 => [.ref (g60 0)]) (ws1 := fun x60 g60 => [(w, .inr (6, [.ref a])), (a, .inl (0, 21, .inl f)), (v0, .inr (1, [.ref v1, .int (0 : Int32), .int (0 : Int32), .int o_v0_3])), (v1, .inl (5, n_v1, .inl e_v1))]) (As := [.ref v0]) [2, 3] [0, 1] (fun _ => runV (q0 := 2) gdX4_text_60.1 mi_J4_toString_0e30d im_J4_toString_0e30d se_J4_toString_0e30d ml_X4_76 (by omega) rfl (Nat.le_of_ble_eq_true rfl) rfl rfl rfl rfl) (fun x9 h9 => ok_J_toString h9) rfl rfl rfl rfl rfl (by decide +kernel) (by omega) (by omega) (fun _ _ => rfl) (fun _ _ => rfl) (fun x60 g60 => ?_)
      exact aw_areturn (w := [(w, .inr (6, [.ref a])), (a, .inl (0, 21, .inl f))]) [0, 1] gdX4_text_60.2 rfl (Or.inl ⟨_, rfl⟩) rfl rfl (PN.mk (fun j => if j = 0 then (g60 0) else 0) rfl rfl)
    · refine aw_aload_n (q := 17) gdX4_text_13.2.1 rfl 0 rfl ?_
      refine aw_get (q := 20) gdX4_text_13.2.2.1 rfl fl_X4_9 0 rfl rfl ?_
      refine aw_iload_n (q := 21) gdX4_text_13.2.2.2.1 rfl 2 rfl ?_
      refine aw_iald (q := 22) gdX4_text_13.2.2.2.2.1 rfl 1 rfl ?_
      refine aw_istore_n (q := 23) (lv' := [(3, .int (f l2.toNatClampNeg)), (0, .ref w), (1, .ref v0), (2, .int l2)]) gdX4_text_13.2.2.2.2.2.1 rfl (by decide) rfl ?_
      refine aw_locals (lv' := [(0, .ref w), (1, .ref v0), (2, .int l2), (3, .int (f l2.toNatClampNeg))]) [1, 2, 3, 0] rfl ?_
      refine aw_room (kc' := (2 * bd + 2)) (ks' := (160 * bd + 84)) (by omega) (by omega) ?_
      exact tX4_text_23 ih N _ _ _ _ _ _ _ _
def fX4_text (N K : Nat) (f : Nat → Int32) : Option (Unit) :=
  ((fJ_init4 N K ).bind (fun x4 => fX4_text_11 N K f  N (20 : Int32) (0 : Int32) x4.1 x4.2 41))
set_option maxHeartbeats 4000000 in
set_option maxRecDepth 100000 in
theorem ok_X4_text {N K : Nat} {w a : Nat} {f : Nat → Int32} {xr : Unit} (hE : fX4_text N K f = some xr) : OkM yX4_text (.code yX4_text cX4_text 4 (some (.object "java/lang/String"))) (7) 110 8000 [.ref w] [(w, .inr (6, [.ref a])), (a, .inl (0, 21, .inl f))] ((PN (U := Unit) (fun _ ad => some (.ref (ad 0))) (fun zz ad => [(w, .inr (6, [.ref a])), (a, .inl (0, 21, .inl f))])) xr) := by
  refine ok_of (by decide) (Nat.le_of_ble_eq_true rfl) hE ?_
  refine aw_locals (lv' := [(0, .ref w)]) [0] rfl ?_
  refine aw_new (q := 3) (kc' := 109) (ks' := 7996) (ws' := fun r0 => [(w, .inr (6, [.ref a])), (a, .inl (0, 21, .inl f)), (r0, .inr (1, [.null, .int (0 : Int32), .int (0 : Int32), .int (0 : Int32)]))]) gdX4_text_0.1 rfl nw_X4_63 (by omega) (by omega) (fun _ => rfl) (fun r0 => ?_)
  refine aw_dup (q := 4) gdX4_text_0.2.1 rfl rfl ?_
  refine aw_call (q := 7) (kc1 := 108) (ks1 := 7916) (wc := [(r0, .inr (1, [.null, .int (0 : Int32), .int (0 : Int32), .int (0 : Int32)]))]) (wr := [(w, .inr (6, [.ref a])), (a, .inl (0, 21, .inl f))]) (st1 := fun x4 g4 => [.ref r0]) (ws1 := fun x4 g4 => [(w, .inr (6, [.ref a])), (a, .inl (0, 21, .inl f)), (r0, .inr (1, [.ref (g4 0), .int (0 : Int32), .int (0 : Int32), .int (0 : Int32)])), ((g4 0), .inl (5, x4.1, .inl x4.2))]) (As := [.ref r0]) [2] [0, 1] (fun _ => runI gdX4_text_0.2.2.1 mi_J4_init_da8c8 rfl im_J4_init_da8c8 ml_X4_65 (by omega) rfl (Nat.le_of_ble_eq_true rfl) rfl) (fun x9 h9 => ok_J_init4 h9) rfl rfl rfl rfl rfl (by decide +kernel) (by omega) (by omega) (fun _ _ => rfl) (fun _ _ => rfl) (fun x4 g4 => ?_)
  refine aw_astore_n (q := 8) (lv' := [(1, .ref r0), (0, .ref w)]) gdX4_text_0.2.2.2.1 rfl (by decide) rfl ?_
  refine aw_bipush (q := 10) (v := 20) gdX4_text_0.2.2.2.2.1 rfl (by decide) ?_
  refine aw_istore_n (q := 11) (lv' := [(2, .int (20 : Int32)), (1, .ref r0), (0, .ref w)]) gdX4_text_0.2.2.2.2.2.1 rfl (by decide) rfl ?_
  refine aw_locals (lv' := [(0, .ref w), (1, .ref r0), (2, .int (20 : Int32))]) [2, 1, 0] rfl ?_
  refine aw_room (kc' := (2 * 41 + 2)) (ks' := (160 * 41 + 84)) (by omega) (by omega) ?_
  exact tX4_text_11  N _ _ _ _ _ _ _
def fX5_wayText (N K : Nat) (f : Nat → Int32) (p0 : Int32) : Option ((Unit) ⊕ String) :=
  (xb (fX5_deskAt N K p0) (fun x2 => ((fX4_text N K f).bind (fun x5 => (some (.inl ()))))))
set_option maxHeartbeats 4000000 in
set_option maxRecDepth 100000 in
theorem ok_X5_wayText {N K : Nat} {x M L Dk c se wk sp w a : Nat} {df : Nat → Option Nat} {f : Nat → Int32} {p0 : Int32} (hd : ¬ (p0 < 0 ∨ 2 ≤ p0.toNatClampNeg) → df p0.toNatClampNeg = some w) {xr : (Unit) ⊕ String} (hE : fX5_wayText N K f p0 = some xr) : OkM yX5_wayText (.code yX5_wayText cX5_wayText 2 (some (.object "java/lang/String"))) (9) 111 8006 [.ref x, .int p0] [(x, .inr (7, [.ref M, .ref L, .ref Dk, .ref c, .ref se, .ref wk, .ref sp])), (Dk, .inl (3, 2, .inr (.inr (.inr (.inr df))))), (w, .inr (6, [.ref a])), (a, .inl (0, 21, .inl f))] ((PX (U := Unit) (fun _ ad => some (.ref (ad 0))) (fun zz ad => [(x, .inr (7, [.ref M, .ref L, .ref Dk, .ref c, .ref se, .ref wk, .ref sp])), (Dk, .inl (3, 2, .inr (.inr (.inr (.inr df))))), (w, .inr (6, [.ref a])), (a, .inl (0, 21, .inl f))]) [(x, .inr (7, [.ref M, .ref L, .ref Dk, .ref c, .ref se, .ref wk, .ref sp])), (Dk, .inl (3, 2, .inr (.inr (.inr (.inr df))))), (w, .inr (6, [.ref a])), (a, .inl (0, 21, .inl f))]) xr) := by
  refine ok_of (by decide) (Nat.le_of_ble_eq_true rfl) hE ?_
  refine aw_locals (lv' := [(0, .ref x), (1, .int p0)]) [0, 1] rfl ?_
  refine aw_aload_n (q := 1) gdX5_wayText_0.1 rfl 0 rfl ?_
  refine aw_iload_n (q := 2) gdX5_wayText_0.2.1 rfl 1 rfl ?_
  refine aw_callX (q := 5) (kc1 := 110) (ks1 := 8000) (wc := [(x, .inr (7, [.ref M, .ref L, .ref Dk, .ref c, .ref se, .ref wk, .ref sp])), (Dk, .inl (3, 2, .inr (.inr (.inr (.inr df)))))]) (wr := [(w, .inr (6, [.ref a])), (a, .inl (0, 21, .inl f))]) (st1 := fun x2 g2 => [.ref w]) (ws1 := fun x2 g2 => [(w, .inr (6, [.ref a])), (a, .inl (0, 21, .inl f)), (x, .inr (7, [.ref M, .ref L, .ref Dk, .ref c, .ref se, .ref wk, .ref sp])), (Dk, .inl (3, 2, .inr (.inr (.inr (.inr df)))))]) (As := [.ref x, .int p0]) [0, 1] [2, 3] [2, 3, 0, 1] (fun _ => runV (q0 := 0) gdX5_wayText_0.2.2.1 mi_X5_deskAt im_X5_deskAt se_X5_deskAt ml_X5_72 (by omega) rfl (Nat.le_of_ble_eq_true rfl) rfl rfl rfl rfl) (fun x9 h9 => ok_X5_deskAt hd h9) rfl rfl rfl rfl rfl rfl (by decide +kernel) rfl rfl (by omega) (by omega) (fun _ _ => rfl) (fun _ _ => rfl) (fun x2 g2 => ?_)
  refine aw_call (q := 8) (kc1 := 0) (ks1 := 0) (wc := [(w, .inr (6, [.ref a])), (a, .inl (0, 21, .inl f))]) (wr := [(x, .inr (7, [.ref M, .ref L, .ref Dk, .ref c, .ref se, .ref wk, .ref sp])), (Dk, .inl (3, 2, .inr (.inr (.inr (.inr df)))))]) (st1 := fun x5 g5 => [.ref (g5 0)]) (ws1 := fun x5 g5 => [(x, .inr (7, [.ref M, .ref L, .ref Dk, .ref c, .ref se, .ref wk, .ref sp])), (Dk, .inl (3, 2, .inr (.inr (.inr (.inr df))))), (w, .inr (6, [.ref a])), (a, .inl (0, 21, .inl f))]) (As := [.ref w]) [0, 1] [2, 3] (fun _ => runV (q0 := 0) gdX5_wayText_0.2.2.2.1 mi_X4_text im_X4_text se_X4_text ml_X5_204 (by omega) rfl (Nat.le_of_ble_eq_true rfl) rfl rfl rfl rfl) (fun x9 h9 => ok_X4_text h9) rfl rfl rfl rfl rfl (by decide +kernel) (by omega) (by omega) (fun _ _ => rfl) (fun _ _ => rfl) (fun x5 g5 => ?_)
  exact aw_areturn (w := [(x, .inr (7, [.ref M, .ref L, .ref Dk, .ref c, .ref se, .ref wk, .ref sp])), (Dk, .inl (3, 2, .inr (.inr (.inr (.inr df))))), (w, .inr (6, [.ref a])), (a, .inl (0, 21, .inl f))]) [0, 1, 2, 3] gdX5_wayText_0.2.2.2.2 rfl (Or.inl ⟨_, rfl⟩) rfl rfl (PX.mk (fun j => if j = 0 then (g5 0) else 0) rfl rfl)
def fX7_wayText_42 (N K : Nat) (th : Int32) (f : Nat → Int32) (p0 : Int32) (k_28 : Int32 → Int32 → Int32 → Nat → (Nat → Int32) → Nat → Option (Int32)) : Nat → Int32 → Int32 → Int32 → Int32 → Nat → (Nat → Int32) → Nat → Option (Int32)
  | 0, _, _, _, _, _, _, _ => none
  | fu + 1, l3, l4, th_, o_v0_3, n_v1, e_v1, bd =>
    (if bd = 0 then none else (if l4 ≤ 0 then k_28 (l3 + (-1 : Int32)) th_ o_v0_3 n_v1 e_v1 (bd - 1) else ((fJ_length N K o_v0_3 n_v1 e_v1).bind (fun x48 => (if x48 ≤ 0 then ((fJ_appendI N K o_v0_3 n_v1 e_v1 l3).bind (fun x63 => fX7_wayText_42 N K th f p0 k_28 fu l3 (l4 + (-1 : Int32)) th_ x63.1 x63.2.1 x63.2.2 (bd - 1))) else ((fJ_appendC N K o_v0_3 n_v1 e_v1 (43 : Int32)).bind (fun x57 => ((fJ_appendI N K x57.1 x57.2.1 x57.2.2 l3).bind (fun x63_1 => fX7_wayText_42 N K th f p0 k_28 fu l3 (l4 + (-1 : Int32)) th_ x63_1.1 x63_1.2.1 x63_1.2.2 (bd - 1))))))))))
set_option maxHeartbeats 4000000 in
set_option maxRecDepth 100000 in
theorem tX7_wayText_42 {N K : Nat} {m Mo Lo Do tl ca w : Nat} {dd : Nat → Option Nat} {th : Int32} {f : Nat → Int32} {p0 : Int32} (hd : ¬ (p0 < 0 ∨ 2 ≤ p0.toNatClampNeg) → dd p0.toNatClampNeg = some w) {k_28 : Int32 → Int32 → Int32 → Nat → (Nat → Int32) → Nat → Option (Int32)} (hk_28 : ∀ (l3 : Int32) (th_ : Int32) (o_v0_3 : Int32) (n_v1 : Nat) (e_v1 : Nat → Int32) (bd : Nat) (v0 v1 : Nat), AW RX7 "wayText" cX7_wayText 5 (some (.object "java/lang/String")) [] (fun _ _ => True) (7) (PN (U := Int32) (fun _ ad => some (.ref (ad 0))) (fun zz ad => [(m, .inr (9, [.ref Mo, .ref Lo, .ref Do, .ref tl, .ref ca, .int zz])), (Do, .inl (4, 2, .inr (.inr (.inr (.inr dd))))), (w, .inl (0, 21, .inl f))])) (2 * bd + 2) (160 * bd + 84) (k_28 l3 th_ o_v0_3 n_v1 e_v1 bd) 28 [(0, .ref m), (1, .int p0), (2, .ref v0), (3, .int l3)] [] [(m, .inr (9, [.ref Mo, .ref Lo, .ref Do, .ref tl, .ref ca, .int th_])), (Do, .inl (4, 2, .inr (.inr (.inr (.inr dd))))), (w, .inl (0, 21, .inl f)), (v0, .inr (1, [.ref v1, .int (0 : Int32), .int (0 : Int32), .int o_v0_3])), (v1, .inl (5, n_v1, .inl e_v1))]) : ∀ (fu : Nat) (l3 : Int32) (l4 : Int32) (th_ : Int32) (o_v0_3 : Int32) (n_v1 : Nat) (e_v1 : Nat → Int32) (bd : Nat) (v0 v1 : Nat), AW RX7 "wayText" cX7_wayText 5 (some (.object "java/lang/String")) [] (fun _ _ => True) (7) (PN (U := Int32) (fun _ ad => some (.ref (ad 0))) (fun zz ad => [(m, .inr (9, [.ref Mo, .ref Lo, .ref Do, .ref tl, .ref ca, .int zz])), (Do, .inl (4, 2, .inr (.inr (.inr (.inr dd))))), (w, .inl (0, 21, .inl f))])) (2 * bd + 2) (160 * bd + 84) (fX7_wayText_42 N K th f p0 k_28 fu l3 l4 th_ o_v0_3 n_v1 e_v1 bd) 42 [(0, .ref m), (1, .int p0), (2, .ref v0), (3, .int l3), (4, .int l4)] [] [(m, .inr (9, [.ref Mo, .ref Lo, .ref Do, .ref tl, .ref ca, .int th_])), (Do, .inl (4, 2, .inr (.inr (.inr (.inr dd))))), (w, .inl (0, 21, .inl f)), (v0, .inr (1, [.ref v1, .int (0 : Int32), .int (0 : Int32), .int o_v0_3])), (v1, .inl (5, n_v1, .inl e_v1))] := by
  intro fu
  induction fu with
  | zero => intro l3 l4 th_ o_v0_3 n_v1 e_v1 bd v0 v1; exact aw_none
  | succ fu ih =>
    intro l3 l4 th_ o_v0_3 n_v1 e_v1 bd v0 v1
    refine aw_pos (fun hbd => ?_)
    refine aw_room (kc' := (2 * (bd - 1) + 4)) (ks' := (160 * (bd - 1) + 244)) (by omega) (by omega) ?_
    refine aw_iload (q := 44) gdX7_wayText_40.2.1 rfl 4 rfl ?_
    refine aw_if_le (tgt := 73) (q := 47) gdX7_wayText_40.2.2.1 (by decide) rfl (fun h_44 => ?_) (fun h_44 => ?_)
    · refine aw_iinc (q := 76) (v := (l3 + (-1 : Int32))) (lv' := [(3, .int (l3 + (-1 : Int32))), (0, .ref m), (1, .int p0), (2, .ref v0), (4, .int l4)]) gdX7_wayText_73.1 rfl 3 rfl rfl (by decide) rfl ?_
      refine aw_goto (tgt := 28) gdX7_wayText_73.2.1 (by decide) ?_
      refine aw_locals (lv' := [(0, .ref m), (1, .int p0), (2, .ref v0), (3, .int (l3 + (-1 : Int32)))]) [1, 2, 3, 0] rfl ?_
      refine aw_room (kc' := (2 * (bd - 1) + 2)) (ks' := (160 * (bd - 1) + 84)) (by omega) (by omega) ?_
      exact hk_28 _ _ _ _ _ _ _ _
    · refine aw_aload_n (q := 48) gdX7_wayText_40.2.2.2.1 rfl 2 rfl ?_
      refine aw_call (q := 51) (kc1 := (2 * (bd - 1) + 4)) (ks1 := (160 * (bd - 1) + 244)) (wc := [(v0, .inr (1, [.ref v1, .int (0 : Int32), .int (0 : Int32), .int o_v0_3])), (v1, .inl (5, n_v1, .inl e_v1))]) (wr := [(m, .inr (9, [.ref Mo, .ref Lo, .ref Do, .ref tl, .ref ca, .int th_])), (Do, .inl (4, 2, .inr (.inr (.inr (.inr dd))))), (w, .inl (0, 21, .inl f))]) (st1 := fun x48 g48 => [.int x48]) (ws1 := fun x48 g48 => [(m, .inr (9, [.ref Mo, .ref Lo, .ref Do, .ref tl, .ref ca, .int th_])), (Do, .inl (4, 2, .inr (.inr (.inr (.inr dd))))), (w, .inl (0, 21, .inl f)), (v0, .inr (1, [.ref v1, .int (0 : Int32), .int (0 : Int32), .int o_v0_3])), (v1, .inl (5, n_v1, .inl e_v1))]) (As := [.ref v0]) [3, 4] [0, 1, 2] (fun _ => runV (q0 := 3) gdX7_wayText_40.2.2.2.2.1 mi_J4_length_8abf5 im_J4_length_8abf5 se_J4_length_8abf5 ml_X7_182 (by omega) rfl (Nat.le_of_ble_eq_true rfl) rfl rfl rfl rfl) (fun x9 h9 => ok_J_length h9) rfl rfl rfl rfl rfl (by decide +kernel) (by omega) (by omega) (fun _ _ => rfl) (fun _ _ => rfl) (fun x48 g48 => ?_)
      refine aw_if_le (tgt := 61) (q := 54) gdX7_wayText_40.2.2.2.2.2.1 (by decide) rfl (fun h_51 => ?_) (fun h_51 => ?_)
      · refine aw_aload_n (q := 62) gdX7_wayText_57.2.2.1 rfl 2 rfl ?_
        refine aw_iload_n (q := 63) gdX7_wayText_57.2.2.2.1 rfl 3 rfl ?_
        refine aw_call (q := 66) (kc1 := (2 * (bd - 1) + 3)) (ks1 := (160 * (bd - 1) + 164)) (wc := [(v0, .inr (1, [.ref v1, .int (0 : Int32), .int (0 : Int32), .int o_v0_3])), (v1, .inl (5, n_v1, .inl e_v1))]) (wr := [(m, .inr (9, [.ref Mo, .ref Lo, .ref Do, .ref tl, .ref ca, .int th_])), (Do, .inl (4, 2, .inr (.inr (.inr (.inr dd))))), (w, .inl (0, 21, .inl f))]) (st1 := fun x63 g63 => [.ref v0]) (ws1 := fun x63 g63 => [(m, .inr (9, [.ref Mo, .ref Lo, .ref Do, .ref tl, .ref ca, .int th_])), (Do, .inl (4, 2, .inr (.inr (.inr (.inr dd))))), (w, .inl (0, 21, .inl f)), (v0, .inr (1, [.ref (g63 0), .int (0 : Int32), .int (0 : Int32), .int x63.1])), ((g63 0), .inl (5, x63.2.1, .inl x63.2.2))]) (As := [.ref v0, .int l3]) [3, 4] [0, 1, 2] (fun _ => runV (q0 := 3) gdX7_wayText_57.2.2.2.2.1 mi_J4_append_bf812 im_J4_append_bf812 se_J4_append_bf812 ml_X7_189 (by omega) rfl (Nat.le_of_ble_eq_true rfl) rfl rfl rfl rfl) (fun x9 h9 => ok_J_appendI h9) rfl rfl rfl rfl rfl (by decide +kernel) (by omega) (by omega) (fun _ _ => rfl) (fun _ _ => rfl) (fun x63 g63 => ?_)
        refine aw_pop (q := 67) gdX7_wayText_57.2.2.2.2.2.1 rfl rfl ?_
        refine aw_iinc (q := 70) (v := (l4 + (-1 : Int32))) (lv' := [(4, .int (l4 + (-1 : Int32))), (0, .ref m), (1, .int p0), (2, .ref v0), (3, .int l3)]) gdX7_wayText_57.2.2.2.2.2.2.1 rfl 4 rfl rfl (by decide) rfl ?_
        refine aw_goto (tgt := 42) gdX7_wayText_57.2.2.2.2.2.2.2 (by decide) ?_
        refine aw_locals (lv' := [(0, .ref m), (1, .int p0), (2, .ref v0), (3, .int l3), (4, .int (l4 + (-1 : Int32)))]) [1, 2, 3, 4, 0] rfl ?_
        refine aw_room (kc' := (2 * (bd - 1) + 2)) (ks' := (160 * (bd - 1) + 84)) (by omega) (by omega) ?_
        exact ih _ _ _ _ _ _ _ _ _
      · refine aw_aload_n (q := 55) gdX7_wayText_40.2.2.2.2.2.2.1 rfl 2 rfl ?_
        refine aw_bipush (q := 57) (v := 43) gdX7_wayText_40.2.2.2.2.2.2.2 rfl (by decide) ?_
        refine aw_call (q := 60) (kc1 := (2 * (bd - 1) + 3)) (ks1 := (160 * (bd - 1) + 164)) (wc := [(v0, .inr (1, [.ref v1, .int (0 : Int32), .int (0 : Int32), .int o_v0_3])), (v1, .inl (5, n_v1, .inl e_v1))]) (wr := [(m, .inr (9, [.ref Mo, .ref Lo, .ref Do, .ref tl, .ref ca, .int th_])), (Do, .inl (4, 2, .inr (.inr (.inr (.inr dd))))), (w, .inl (0, 21, .inl f))]) (st1 := fun x57 g57 => [.ref v0]) (ws1 := fun x57 g57 => [(m, .inr (9, [.ref Mo, .ref Lo, .ref Do, .ref tl, .ref ca, .int th_])), (Do, .inl (4, 2, .inr (.inr (.inr (.inr dd))))), (w, .inl (0, 21, .inl f)), (v0, .inr (1, [.ref (g57 0), .int (0 : Int32), .int (0 : Int32), .int x57.1])), ((g57 0), .inl (5, x57.2.1, .inl x57.2.2))]) (As := [.ref v0, .int (43 : Int32)]) [3, 4] [0, 1, 2] (fun _ => runV (q0 := 3) gdX7_wayText_57.1 mi_J4_append_cf468 im_J4_append_cf468 se_J4_append_cf468 ml_X7_185 (by omega) rfl (Nat.le_of_ble_eq_true rfl) rfl rfl rfl rfl) (fun x9 h9 => ok_J_appendC h9) rfl rfl rfl rfl rfl (by decide +kernel) (by omega) (by omega) (fun _ _ => rfl) (fun _ _ => rfl) (fun x57 g57 => ?_)
        refine aw_pop (q := 61) gdX7_wayText_57.2.1 rfl rfl ?_
        refine aw_aload_n (q := 62) gdX7_wayText_57.2.2.1 rfl 2 rfl ?_
        refine aw_iload_n (q := 63) gdX7_wayText_57.2.2.2.1 rfl 3 rfl ?_
        refine aw_call (q := 66) (kc1 := (2 * (bd - 1) + 2)) (ks1 := (160 * (bd - 1) + 84)) (wc := [(v0, .inr (1, [.ref (g57 0), .int (0 : Int32), .int (0 : Int32), .int x57.1])), ((g57 0), .inl (5, x57.2.1, .inl x57.2.2))]) (wr := [(m, .inr (9, [.ref Mo, .ref Lo, .ref Do, .ref tl, .ref ca, .int th_])), (Do, .inl (4, 2, .inr (.inr (.inr (.inr dd))))), (w, .inl (0, 21, .inl f))]) (st1 := fun x63_1 g63_1 => [.ref v0]) (ws1 := fun x63_1 g63_1 => [(m, .inr (9, [.ref Mo, .ref Lo, .ref Do, .ref tl, .ref ca, .int th_])), (Do, .inl (4, 2, .inr (.inr (.inr (.inr dd))))), (w, .inl (0, 21, .inl f)), (v0, .inr (1, [.ref (g63_1 0), .int (0 : Int32), .int (0 : Int32), .int x63_1.1])), ((g63_1 0), .inl (5, x63_1.2.1, .inl x63_1.2.2))]) (As := [.ref v0, .int l3]) [3, 4] [0, 1, 2] (fun _ => runV (q0 := 3) gdX7_wayText_57.2.2.2.2.1 mi_J4_append_bf812 im_J4_append_bf812 se_J4_append_bf812 ml_X7_189 (by omega) rfl (Nat.le_of_ble_eq_true rfl) rfl rfl rfl rfl) (fun x9 h9 => ok_J_appendI h9) rfl rfl rfl rfl rfl (by decide +kernel) (by omega) (by omega) (fun _ _ => rfl) (fun _ _ => rfl) (fun x63_1 g63_1 => ?_)
        refine aw_pop (q := 67) gdX7_wayText_57.2.2.2.2.2.1 rfl rfl ?_
        refine aw_iinc (q := 70) (v := (l4 + (-1 : Int32))) (lv' := [(4, .int (l4 + (-1 : Int32))), (0, .ref m), (1, .int p0), (2, .ref v0), (3, .int l3)]) gdX7_wayText_57.2.2.2.2.2.2.1 rfl 4 rfl rfl (by decide) rfl ?_
        refine aw_goto (tgt := 42) gdX7_wayText_57.2.2.2.2.2.2.2 (by decide) ?_
        refine aw_locals (lv' := [(0, .ref m), (1, .int p0), (2, .ref v0), (3, .int l3), (4, .int (l4 + (-1 : Int32)))]) [1, 2, 3, 4, 0] rfl ?_
        refine aw_room (kc' := (2 * (bd - 1) + 2)) (ks' := (160 * (bd - 1) + 84)) (by omega) (by omega) ?_
        exact ih _ _ _ _ _ _ _ _ _
def fX7_wayText_28 (N K : Nat) (th : Int32) (f : Nat → Int32) (p0 : Int32) : Nat → Int32 → Int32 → Int32 → Nat → (Nat → Int32) → Nat → Option (Int32)
  | 0, _, _, _, _, _, _ => none
  | fu + 1, l3, th_, o_v0_3, n_v1, e_v1, bd =>
    (if l3 ≤ 0 then ((fJ_toString N K o_v0_3 n_v1 e_v1).bind (fun x80 => (some th_))) else (if p0 < 0 ∨ 2 ≤ p0.toNatClampNeg then none else (if l3 < 0 ∨ 21 ≤ l3.toNatClampNeg then none else fX7_wayText_42 N K th f p0 (fX7_wayText_28 N K th f p0  fu) N l3 (f l3.toNatClampNeg) th_ o_v0_3 n_v1 e_v1 bd)))
set_option maxHeartbeats 4000000 in
set_option maxRecDepth 100000 in
theorem tX7_wayText_28 {N K : Nat} {m Mo Lo Do tl ca w : Nat} {dd : Nat → Option Nat} {th : Int32} {f : Nat → Int32} {p0 : Int32} (hd : ¬ (p0 < 0 ∨ 2 ≤ p0.toNatClampNeg) → dd p0.toNatClampNeg = some w) : ∀ (fu : Nat) (l3 : Int32) (th_ : Int32) (o_v0_3 : Int32) (n_v1 : Nat) (e_v1 : Nat → Int32) (bd : Nat) (v0 v1 : Nat), AW RX7 "wayText" cX7_wayText 5 (some (.object "java/lang/String")) [] (fun _ _ => True) (7) (PN (U := Int32) (fun _ ad => some (.ref (ad 0))) (fun zz ad => [(m, .inr (9, [.ref Mo, .ref Lo, .ref Do, .ref tl, .ref ca, .int zz])), (Do, .inl (4, 2, .inr (.inr (.inr (.inr dd))))), (w, .inl (0, 21, .inl f))])) (2 * bd + 2) (160 * bd + 84) (fX7_wayText_28 N K th f p0  fu l3 th_ o_v0_3 n_v1 e_v1 bd) 28 [(0, .ref m), (1, .int p0), (2, .ref v0), (3, .int l3)] [] [(m, .inr (9, [.ref Mo, .ref Lo, .ref Do, .ref tl, .ref ca, .int th_])), (Do, .inl (4, 2, .inr (.inr (.inr (.inr dd))))), (w, .inl (0, 21, .inl f)), (v0, .inr (1, [.ref v1, .int (0 : Int32), .int (0 : Int32), .int o_v0_3])), (v1, .inl (5, n_v1, .inl e_v1))] := by
  intro fu
  induction fu with
  | zero => intro l3 th_ o_v0_3 n_v1 e_v1 bd v0 v1; exact aw_none
  | succ fu ih =>
    intro l3 th_ o_v0_3 n_v1 e_v1 bd v0 v1
    refine aw_iload_n (q := 29) gdX7_wayText_28.1 rfl 3 rfl ?_
    refine aw_if_le (tgt := 79) (q := 32) gdX7_wayText_28.2.1 (by decide) rfl (fun h_29 => ?_) (fun h_29 => ?_)
    · refine aw_aload_n (q := 80) gdX7_wayText_73.2.2.1 rfl 2 rfl ?_
      refine aw_call (q := 83) (kc1 := (2 * bd)) (ks1 := (160 * bd)) (wc := [(v0, .inr (1, [.ref v1, .int (0 : Int32), .int (0 : Int32), .int o_v0_3])), (v1, .inl (5, n_v1, .inl e_v1))]) (wr := [(m, .inr (9, [.ref Mo, .ref Lo, .ref Do, .ref tl, .ref ca, .int th_])), (Do, .inl (4, 2, .inr (.inr (.inr (.inr dd))))), (w, .inl (0, 21, .inl f))]) (st1 := fun x80 g80 => [.ref (g80 0)]) (ws1 := fun x80 g80 => [(m, .inr (9, [.ref Mo, .ref Lo, .ref Do, .ref tl, .ref ca, .int th_])), (Do, .inl (4, 2, .inr (.inr (.inr (.inr dd))))), (w, .inl (0, 21, .inl f)), (v0, .inr (1, [.ref v1, .int (0 : Int32), .int (0 : Int32), .int o_v0_3])), (v1, .inl (5, n_v1, .inl e_v1))]) (As := [.ref v0]) [3, 4] [0, 1, 2] (fun _ => runV (q0 := 3) gdX7_wayText_73.2.2.2.1 mi_J4_toString_0e30d im_J4_toString_0e30d se_J4_toString_0e30d ml_X7_192 (by omega) rfl (Nat.le_of_ble_eq_true rfl) rfl rfl rfl rfl) (fun x9 h9 => ok_J_toString h9) rfl rfl rfl rfl rfl (by decide +kernel) (by omega) (by omega) (fun _ _ => rfl) (fun _ _ => rfl) (fun x80 g80 => ?_)
      exact aw_areturn (w := [(m, .inr (9, [.ref Mo, .ref Lo, .ref Do, .ref tl, .ref ca, .int th_])), (Do, .inl (4, 2, .inr (.inr (.inr (.inr dd))))), (w, .inl (0, 21, .inl f))]) [0, 1, 2] gdX7_wayText_73.2.2.2.2 rfl (Or.inl ⟨_, rfl⟩) rfl rfl (PN.mk (fun j => if j = 0 then (g80 0) else 0) rfl rfl)
    · refine aw_aload_n (q := 33) gdX7_wayText_28.2.2.1 rfl 0 rfl ?_
      refine aw_get (q := 36) gdX7_wayText_28.2.2.2.1 rfl fl_X7_17 0 rfl rfl ?_
      refine aw_iload_n (q := 37) gdX7_wayText_28.2.2.2.2.1 rfl 1 rfl ?_
      refine aw_aald (q := 38) gdX7_wayText_28.2.2.2.2.2.1 rfl 1 rfl (by decide) rfl hd ?_
      refine aw_iload_n (q := 39) gdX7_wayText_28.2.2.2.2.2.2.1 rfl 3 rfl ?_
      refine aw_iald (q := 40) gdX7_wayText_28.2.2.2.2.2.2.2 rfl 2 rfl ?_
      refine aw_istore (q := 42) (lv' := [(4, .int (f l3.toNatClampNeg)), (0, .ref m), (1, .int p0), (2, .ref v0), (3, .int l3)]) gdX7_wayText_40.1 rfl (by decide) rfl ?_
      refine aw_locals (lv' := [(0, .ref m), (1, .int p0), (2, .ref v0), (3, .int l3), (4, .int (f l3.toNatClampNeg))]) [1, 2, 3, 4, 0] rfl ?_
      refine aw_room (kc' := (2 * bd + 2)) (ks' := (160 * bd + 84)) (by omega) (by omega) ?_
      exact tX7_wayText_42 hd ih N _ _ _ _ _ _ _ _ _
def fX7_wayText (N K : Nat) (th : Int32) (f : Nat → Int32) (p0 : Int32) : Option (Int32) :=
  ((fX7_isNo N K p0 (0 : Int32) (1 : Int32)).bind (fun x4 => ((fX7_isThrown N K th x4 (0 : Int32)).bind (fun x8 => (if x8.1 = 0 then ((fJ_init4 N K ).bind (fun x21 => fX7_wayText_28 N K th f p0  N (20 : Int32) x8.2 (0 : Int32) x21.1 x21.2 41)) else (some x8.2))))))
set_option maxHeartbeats 4000000 in
set_option maxRecDepth 100000 in
theorem ok_X7_wayText {N K : Nat} {m Mo Lo Do tl ca w : Nat} {dd : Nat → Option Nat} {th : Int32} {f : Nat → Int32} {p0 : Int32} (hd : ¬ (p0 < 0 ∨ 2 ≤ p0.toNatClampNeg) → dd p0.toNatClampNeg = some w) {xr : Int32} (hE : fX7_wayText N K th f p0 = some xr) : OkM yX7_wayText (.code yX7_wayText cX7_wayText 5 (some (.object "java/lang/String"))) (7) 110 8000 [.ref m, .int p0] [(m, .inr (9, [.ref Mo, .ref Lo, .ref Do, .ref tl, .ref ca, .int th])), (Do, .inl (4, 2, .inr (.inr (.inr (.inr dd))))), (w, .inl (0, 21, .inl f))] ((PN (U := Int32) (fun _ ad => some (.ref (ad 0))) (fun zz ad => [(m, .inr (9, [.ref Mo, .ref Lo, .ref Do, .ref tl, .ref ca, .int zz])), (Do, .inl (4, 2, .inr (.inr (.inr (.inr dd))))), (w, .inl (0, 21, .inl f))])) xr) := by
  refine ok_of (by decide) (Nat.le_of_ble_eq_true rfl) hE ?_
  refine aw_locals (lv' := [(0, .ref m), (1, .int p0)]) [0, 1] rfl ?_
  refine aw_aload_n (q := 1) gdX7_wayText_0.1 rfl 0 rfl ?_
  refine aw_iload_n (q := 2) gdX7_wayText_0.2.1 rfl 1 rfl ?_
  refine aw_iconst (q := 3) (v := 0) gdX7_wayText_0.2.2.1 rfl (by decide) ?_
  refine aw_iconst (q := 4) (v := 1) gdX7_wayText_0.2.2.2.1 rfl (by decide) ?_
  refine aw_call (q := 7) (kc1 := 110) (ks1 := 8000) (wc := []) (wr := [(m, .inr (9, [.ref Mo, .ref Lo, .ref Do, .ref tl, .ref ca, .int th])), (Do, .inl (4, 2, .inr (.inr (.inr (.inr dd))))), (w, .inl (0, 21, .inl f))]) (st1 := fun x4 g4 => [.int x4, .ref m]) (ws1 := fun x4 g4 => [(m, .inr (9, [.ref Mo, .ref Lo, .ref Do, .ref tl, .ref ca, .int th])), (Do, .inl (4, 2, .inr (.inr (.inr (.inr dd))))), (w, .inl (0, 21, .inl f))]) (As := [.int p0, .int (0 : Int32), .int (1 : Int32)]) [] [0, 1, 2] (fun _ => runS gdX7_wayText_0.2.2.2.2.1 mi_X7_isNo st_X7_isNo ml_X7_31 (by omega) rfl (Nat.le_of_ble_eq_true rfl) rfl) (fun x9 h9 => ok_X7_isNo h9) rfl rfl rfl rfl rfl (by decide +kernel) (by omega) (by omega) (fun _ _ => rfl) (fun _ _ => rfl) (fun x4 g4 => ?_)
  refine aw_iconst (q := 8) (v := 0) gdX7_wayText_0.2.2.2.2.2.1 rfl (by decide) ?_
  refine aw_call (q := 11) (kc1 := 110) (ks1 := 8000) (wc := [(m, .inr (9, [.ref Mo, .ref Lo, .ref Do, .ref tl, .ref ca, .int th]))]) (wr := [(Do, .inl (4, 2, .inr (.inr (.inr (.inr dd))))), (w, .inl (0, 21, .inl f))]) (st1 := fun x8 g8 => [.int x8.1]) (ws1 := fun x8 g8 => [(Do, .inl (4, 2, .inr (.inr (.inr (.inr dd))))), (w, .inl (0, 21, .inl f)), (m, .inr (9, [.ref Mo, .ref Lo, .ref Do, .ref tl, .ref ca, .int x8.2]))]) (As := [.ref m, .int x4, .int (0 : Int32)]) [0] [1, 2] (fun _ => runV (q0 := 0) gdX7_wayText_0.2.2.2.2.2.2.1 mi_X7_isThrown im_X7_isThrown se_X7_isThrown ml_X7_110 (by omega) rfl (Nat.le_of_ble_eq_true rfl) rfl rfl rfl rfl) (fun x9 h9 => ok_X7_isThrown h9) rfl rfl rfl rfl rfl (by decide +kernel) (by omega) (by omega) (fun _ _ => rfl) (fun _ _ => rfl) (fun x8 g8 => ?_)
  refine aw_if_eq (tgt := 17) (q := 14) gdX7_wayText_0.2.2.2.2.2.2.2 (by decide) rfl (fun h_11 => ?_) (fun h_11 => ?_)
  · refine aw_new (q := 20) (kc' := 109) (ks' := 7996) (ws' := fun r17 => [(Do, .inl (4, 2, .inr (.inr (.inr (.inr dd))))), (w, .inl (0, 21, .inl f)), (m, .inr (9, [.ref Mo, .ref Lo, .ref Do, .ref tl, .ref ca, .int x8.2])), (r17, .inr (1, [.null, .int (0 : Int32), .int (0 : Int32), .int (0 : Int32)]))]) gdX7_wayText_14.2.2.1 rfl nw_X7_179 (by omega) (by omega) (fun _ => rfl) (fun r17 => ?_)
    refine aw_dup (q := 21) gdX7_wayText_14.2.2.2.1 rfl rfl ?_
    refine aw_call (q := 24) (kc1 := 108) (ks1 := 7916) (wc := [(r17, .inr (1, [.null, .int (0 : Int32), .int (0 : Int32), .int (0 : Int32)]))]) (wr := [(Do, .inl (4, 2, .inr (.inr (.inr (.inr dd))))), (w, .inl (0, 21, .inl f)), (m, .inr (9, [.ref Mo, .ref Lo, .ref Do, .ref tl, .ref ca, .int x8.2]))]) (st1 := fun x21 g21 => [.ref r17]) (ws1 := fun x21 g21 => [(Do, .inl (4, 2, .inr (.inr (.inr (.inr dd))))), (w, .inl (0, 21, .inl f)), (m, .inr (9, [.ref Mo, .ref Lo, .ref Do, .ref tl, .ref ca, .int x8.2])), (r17, .inr (1, [.ref (g21 0), .int (0 : Int32), .int (0 : Int32), .int (0 : Int32)])), ((g21 0), .inl (5, x21.1, .inl x21.2))]) (As := [.ref r17]) [3] [0, 1, 2] (fun _ => runI gdX7_wayText_14.2.2.2.2.1 mi_J4_init_da8c8 rfl im_J4_init_da8c8 ml_X7_181 (by omega) rfl (Nat.le_of_ble_eq_true rfl) rfl) (fun x9 h9 => ok_J_init4 h9) rfl rfl rfl rfl rfl (by decide +kernel) (by omega) (by omega) (fun _ _ => rfl) (fun _ _ => rfl) (fun x21 g21 => ?_)
    refine aw_astore_n (q := 25) (lv' := [(2, .ref r17), (0, .ref m), (1, .int p0)]) gdX7_wayText_14.2.2.2.2.2.1 rfl (by decide) rfl ?_
    refine aw_bipush (q := 27) (v := 20) gdX7_wayText_14.2.2.2.2.2.2.1 rfl (by decide) ?_
    refine aw_istore_n (q := 28) (lv' := [(3, .int (20 : Int32)), (2, .ref r17), (0, .ref m), (1, .int p0)]) gdX7_wayText_14.2.2.2.2.2.2.2 rfl (by decide) rfl ?_
    refine aw_locals (lv' := [(0, .ref m), (1, .int p0), (2, .ref r17), (3, .int (20 : Int32))]) [2, 3, 1, 0] rfl ?_
    refine aw_world (ws' := [(m, .inr (9, [.ref Mo, .ref Lo, .ref Do, .ref tl, .ref ca, .int x8.2])), (Do, .inl (4, 2, .inr (.inr (.inr (.inr dd))))), (w, .inl (0, 21, .inl f)), (r17, .inr (1, [.ref (g21 0), .int (0 : Int32), .int (0 : Int32), .int (0 : Int32)])), ((g21 0), .inl (5, x21.1, .inl x21.2))]) [2, 0, 1, 3, 4] rfl rfl ?_
    refine aw_room (kc' := (2 * 41 + 2)) (ks' := (160 * 41 + 84)) (by omega) (by omega) ?_
    exact tX7_wayText_28 hd N _ _ _ _ _ _ _ _
  · refine aw_ldcS (q := 16) (tx := "") gdX7_wayText_14.1 rfl (by decide) (fun r14 => ?_)
    exact aw_areturn (w := [(m, .inr (9, [.ref Mo, .ref Lo, .ref Do, .ref tl, .ref ca, .int x8.2])), (Do, .inl (4, 2, .inr (.inr (.inr (.inr dd))))), (w, .inl (0, 21, .inl f))]) [2, 0, 1] gdX7_wayText_14.2.1 rfl (Or.inl ⟨_, rfl⟩) rfl rfl (PN.mk (fun j => if j = 0 then r14 else 0) rfl rfl)
