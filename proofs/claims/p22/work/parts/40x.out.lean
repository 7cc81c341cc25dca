def fX6_init (N K : Nat) (nn : Int64) : Option (Unit) :=
  (some ())
set_option maxHeartbeats 4000000 in
set_option maxRecDepth 100000 in
theorem ok_X6_init {N K : Nat} {o : Nat} {nn : Int64} {xr : Unit} (hE : fX6_init N K nn = some xr) : OkM yX6_init (.code yX6_init cX6_init 1 none) (1) 0 0 [.ref o] [(o, .inr (8, [.long nn, .null]))] ((PN (U := Unit) (fun _ _ => none) (fun zz ad => [(o, .inr (8, [.long nn, .null]))])) xr) := by
  refine ok_of (by decide) (Nat.le_of_ble_eq_true rfl) hE ?_
  refine aw_locals (lv' := [(0, .ref o)]) [0] rfl ?_
  refine aw_aload_n (q := 1) gdX6_init_0.1 rfl 0 rfl ?_
  refine aw_objInit (q := 4) gdX6_init_0.2.1 rfl ml_X6_1 w_oi (by omega) (Nat.le_of_ble_eq_true rfl) ?_
  exact aw_return (w := [(o, .inr (8, [.long nn, .null]))]) [0] gdX6_init_0.2.2 rfl rfl rfl (PN.mk (fun _ => 0) rfl rfl)
