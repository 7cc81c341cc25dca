set_option maxHeartbeats 4000000 in
set_option maxRecDepth 100000 in
theorem law_ {N K L : Nat} {xs : Nat → Int32} (hN : NBig N) (hK : 100 ≤ K) (hL : L ≤ 384) : ∀ (fu : Nat) (i : Int32) (S : CS) (M : MS) (nv : Int64), 0 ≤ i.toInt → i.toInt ≤ (L : Int) → (L : Int) < i.toInt + 6 * (fu : Int) → Iv S M → Sf (flaw N K L xs fu i S M nv) (fun z => z = 1) := by
  have q6 : (6 : Int32).toInt = 6 := by decide
  have en : (Int32.ofNat L).toInt = (L : Int) := o_i (by omega)
  have es := subI (a := Int32.ofNat L) (b := (6 : Int32)) (by omega) (by omega)
  intro fu
  induction fu with
  | zero => intro i S M nv h0 h1 h2; omega
  | succ fu ih =>
    intro i S M nv h0 h1 h2 I
    unfold flaw
    refine sIf (fun _ => sRet rfl) (fun h => ?_)
    have h3 : ¬ ((Int32.ofNat L - 6).toInt < i.toInt) := fun z => h (Int32.lt_iff_toInt_lt.mpr z)
    have e6 := addI (a := i) (b := (6 : Int32)) (by omega) (by omega)
    have B : ixs L i := ixs_of h0 (by omega) hL
    have hk : ∀ S' M' nv', Iv S' M' → Sf (flaw N K L xs fu (i + (6 : Int32)) S' M' nv') (fun z => z = 1) := fun S' M' nv' I' => ih _ _ _ _ (by omega) (by omega) (by omega) I'
    refine sIfF (noob h0 (by omega)) ?_
    refine sIf (fun _ => lc_0 hN hK I B hk) (fun _ => ?_)
    refine sIf (fun _ => lc_1 hN hK I B hk) (fun _ => ?_)
    refine sIf (fun _ => lc_2 hN hK I B hk) (fun _ => ?_)
    refine sIf (fun _ => lc_3 hN hK I B hk) (fun _ => ?_)
    refine sIf (fun _ => lc_4 hN hK I B hk) (fun _ => ?_)
    refine sIf (fun _ => lc_5 hN hK I B hk) (fun _ => ?_)
    refine sIf (fun _ => lc_6 hN hK I B hk) (fun _ => ?_)
    refine sIf (fun _ => lc_7 hN hK I B hk) (fun _ => ?_)
    refine sIf (fun _ => lc_8 hN hK I B hk) (fun _ => ?_)
    refine sIf (fun _ => lc_9 hN hK I B hk) (fun _ => ?_)
    refine sIf (fun _ => lc_10 hN hK I B hk) (fun _ => ?_)
    refine sIf (fun _ => lc_11 hN hK I B hk) (fun _ => ?_)
    refine sIf (fun _ => lc_12 hN hK I B hk) (fun _ => ?_)
    refine sIf (fun _ => lc_13 hN hK I B hk) (fun _ => ?_)
    refine sIf (fun _ => lc_14 hN hK I B hk) (fun _ => ?_)
    refine sIf (fun _ => lc_15 hN hK I B hk) (fun _ => ?_)
    refine sIf (fun _ => lc_16 hN hK I B hk) (fun _ => ?_)
    refine sIf (fun _ => lc_17 hN hK I B hk) (fun _ => ?_)
    refine sIf (fun _ => lc_18 hN hK I B hk) (fun _ => ?_)
    refine sIf (fun _ => lc_19 hN hK I B hk) (fun _ => ?_)
    refine sIf (fun _ => lc_20 hN hK I B hk) (fun _ => ?_)
    refine sIf (fun _ => lc_21 hN hK I B hk) (fun _ => ?_)
    refine sIf (fun _ => lc_22 hN hK I B hk) (fun _ => ?_)
    refine sIf (fun _ => lc_23 hN hK I B hk) (fun _ => ?_)
    refine sIf (fun _ => lc_24 hN hK I B hk) (fun _ => ?_)
    refine sIf (fun _ => lc_25 hN hK I B hk) (fun _ => ?_)
    refine sIf (fun _ => lc_26 hN hK I B hk) (fun _ => ?_)
    refine sIf (fun _ => lc_27 hN hK I B hk) (fun _ => ?_)
    refine sIf (fun _ => lc_28 hN hK I B hk) (fun _ => ?_)
    refine sIf (fun _ => lc_29 hN hK I B hk) (fun _ => ?_)
    refine sIf (fun _ => lc_30 hN hK I B hk) (fun _ => ?_)
    refine sIf (fun _ => lc_31 hN hK I B hk) (fun _ => ?_)
    refine sIf (fun _ => lc_32 hN hK I B hk) (fun _ => ?_)
    refine sIf (fun _ => lc_33 hN hK I B hk) (fun _ => ?_)
    refine sIf (fun _ => lc_34 hN hK I B hk) (fun _ => ?_)
    refine sIf (fun _ => lc_35 hN hK I B hk) (fun _ => ?_)
    refine sIf (fun _ => lc_36 hN hK I B hk) (fun _ => ?_)
    refine sIf (fun _ => lc_37 hN hK I B hk) (fun _ => ?_)
    refine sIf (fun _ => lc_38 hN hK I B hk) (fun _ => ?_)
    refine sIf (fun _ => lc_39 hN hK I B hk) (fun _ => ?_)
    refine sIf (fun _ => lc_40 hN hK I B hk) (fun _ => ?_)
    refine sIf (fun _ => lc_41 hN hK I B hk) (fun _ => ?_)
    exact hk _ _ _ I
theorem law_one {L : Nat} (hL : L ≤ 384) (xs : Nat → Int32) : ∃ N K : Nat, K ≤ 100 ∧ flaw0 N K L xs = some 1 := by
  have hN : NBig (2 ^ 100) := Nat.le_refl _
  obtain ⟨x4, x12, h1, h2, h3⟩ := Iv.z (N := 2 ^ 100) (K := 100) hN
  obtain ⟨v, e, rfl⟩ := law_ (xs := xs) hN (Nat.le_refl 100) hL 100 0 _ _ 0 (by decide) (by show (0 : Int) ≤ _; omega) (by show (L : Int) < 0 + 6 * 100; omega) h3
  refine ⟨2 ^ 100, 100, Nat.le_refl _, ?_⟩
  unfold flaw0 fX6_init
  rw [h1, Option.bind_some, h2, Option.bind_some, Option.bind_some]
  exact e
