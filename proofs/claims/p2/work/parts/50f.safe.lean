set_option maxHeartbeats 2000000 in
theorem s_X5_isSound {N K : Nat} {sz : Int32} {f : Nat → Int32} {c0 : Int32} {c1 : Int32} {c2 : Int32} {c3 : Int32} {c4 : Int32} {c5 : Int32} {g : Nat → Int32} {p0 : Int32} (hN : NBig N) (hK : 100 ≤ K)  : Sf (fX5_isSound N K sz f c0 c1 c2 c3 c4 c5 g p0) (xP true false (fun (z : Int32 × (Nat → Int32)) => 0 ≤ z.1.toInt ∧ z.1.toInt ≤ 1 ∧ True)) := by
  unfold fX5_isSound
  have ql0 : (0 : Int32).toInt = 0 := by decide
  have ql1 : (1 : Int32).toInt = 1 := by decide
  have r1 := rgI p0
  refine sXb (s_X5_memoryAt hN hK) (by decide) (by decide) (fun x2 b2 => ?_)
  obtain ⟨b2_0, -⟩ := b2
  replace b2_0 : (0 ≤ p0.toInt ∧ p0.toInt ≤ 2) := b2_0
  have r3 := rgI sz
  refine sBind (s_X2_agreesWith hN hK) (fun x11 b4 => ?_)
  obtain ⟨b4_0, b4_1, -⟩ := b4
  replace b4_0 : 0 ≤ x11.1.toInt := b4_0
  replace b4_1 : x11.1.toInt ≤ 1 := b4_1
  refine sIf (fun h5 => ?_) (fun h5 => ?_)
  · have r6 := rgI x11.1
    have fh5 := eqT h5
    exact sXl ⟨(by show 0 ≤ (0 : Int32).toInt; decide), (by show (0 : Int32).toInt ≤ 1; decide), trivial⟩
  · have r7 := rgI x11.1
    have fh5 := eqF h5
    refine sBind (s_X2_isWellCounted hN hK) (fun x18 b8 => ?_)
    obtain ⟨b8_0, b8_1, -⟩ := b8
    replace b8_0 : 0 ≤ x18.toInt := b8_0
    replace b8_1 : x18.toInt ≤ 1 := b8_1
    refine sIf (fun h9 => ?_) (fun h9 => ?_)
    · have r10 := rgI x18
      have fh9 := eqT h9
      exact sXl ⟨(by show 0 ≤ (0 : Int32).toInt; decide), (by show (0 : Int32).toInt ≤ 1; decide), trivial⟩
    · have r11 := rgI x18
      have fh9 := eqF h9
      refine sIf (fun h12 => ?_) (fun h12 => ?_)
      · have r13 := rgI c1
        have r14 := rgI (c2 + c3)
        have fh12 := eqT h12
        exact sXl ⟨(by show 0 ≤ (1 : Int32).toInt; decide), (by show (1 : Int32).toInt ≤ 1; decide), trivial⟩
      · have r15 := rgI c1
        have r16 := rgI (c2 + c3)
        have fh12 := eqF h12
        exact sXl ⟨(by show 0 ≤ (0 : Int32).toInt; decide), (by show (0 : Int32).toInt ≤ 1; decide), trivial⟩
set_option maxHeartbeats 2000000 in
theorem s_X5_digest {N K : Nat} {ms0 : Int32} {mf0 : Nat → Int32} {ms1 : Int32} {mf1 : Nat → Int32} {ms2 : Int32} {mf2 : Nat → Int32} {ru0 : Int32} {ls0 : Int32} {lf0 : Nat → Int32} {ru1 : Int32} {ls1 : Int32} {lf1 : Nat → Int32} {ru2 : Int32} {ls2 : Int32} {lf2 : Nat → Int32} {df0 : Nat → Int32} {df1 : Nat → Int32} {c0 : Int32} {c1 : Int32} {c2 : Int32} {c3 : Int32} {c4 : Int32} {c5 : Int32} (hN : NBig N) (hK : 100 ≤ K)  : Sf (fX5_digest N K ms0 mf0 ms1 mf1 ms2 mf2 ru0 ls0 lf0 ru1 ls1 lf1 ru2 ls2 lf2 df0 df1 c0 c1 c2 c3 c4 c5) (xP true true (fun (z : Int64) => True)) := by
  unfold fX5_digest
  have ql0 : (0 : Int32).toInt = 0 := by decide
  have ql1 : (1 : Int32).toInt = 1 := by decide
  have ql2 : (2 : Int32).toInt = 2 := by decide
  have ql3 : (3 : Int32).toInt = 3 := by decide
  have ql4 : (4 : Int32).toInt = 4 := by decide
  have ql5 : (5 : Int32).toInt = 5 := by decide
  have ql6 : (6 : Int32).toInt = 6 := by decide
  have ql7 : (7 : Int32).toInt = 7 := by decide
  have ql8 : (8 : Int32).toInt = 8 := by decide
  have ql9 : (9 : Int32).toInt = 9 := by decide
  have ql10 : (10 : Int32).toInt = 10 := by decide
  have ql11 : (11 : Int32).toInt = 11 := by decide
  have ql12 : (12 : Int32).toInt = 12 := by decide
  have ql13 : (13 : Int32).toInt = 13 := by decide
  have ql14 : (14 : Int32).toInt = 14 := by decide
  have ql15 : (15 : Int32).toInt = 15 := by decide
  have ql16 : (16 : Int32).toInt = 16 := by decide
  have ql17 : (17 : Int32).toInt = 17 := by decide
  have ql18 : (18 : Int32).toInt = 18 := by decide
  have ql19 : (19 : Int32).toInt = 19 := by decide
  have ql20 : (20 : Int32).toInt = 20 := by decide
  have r1 := rgI ms0
  refine sXb (s_X5_about hN hK) (by decide) (by decide) (fun x19 b2 => ?_)
  refine sXb (s_X5_about hN hK) (by decide) (by decide) (fun x33 b3 => ?_)
  have r4 := rgI ms1
  refine sXb (s_X5_about hN hK) (by decide) (by decide) (fun x19_1 b5 => ?_)
  refine sXb (s_X5_about hN hK) (by decide) (by decide) (fun x33_1 b6 => ?_)
  have r7 := rgI ms2
  refine sXb (s_X5_about hN hK) (by decide) (by decide) (fun x19_2 b8 => ?_)
  refine sXb (s_X5_about hN hK) (by decide) (by decide) (fun x33_2 b9 => ?_)
  have r10 := rgI ru0
  have r11 := rgI ls0
  refine sXb (s_X5_ledger hN hK) (by decide) (by decide) (fun x60 b12 => ?_)
  refine sXb (s_X5_ledger hN hK) (by decide) (by decide) (fun x74 b13 => ?_)
  have r14 := rgI ru1
  have r15 := rgI ls1
  refine sXb (s_X5_ledger hN hK) (by decide) (by decide) (fun x60_1 b16 => ?_)
  refine sXb (s_X5_ledger hN hK) (by decide) (by decide) (fun x74_1 b17 => ?_)
  have r18 := rgI ru2
  have r19 := rgI ls2
  refine sXb (s_X5_ledger hN hK) (by decide) (by decide) (fun x60_2 b20 => ?_)
  refine sXb (s_X5_ledger hN hK) (by decide) (by decide) (fun x74_2 b21 => ?_)
  refine sXb (s_X5_way hN hK) (by decide) (by decide) (fun x101 b22 => ?_)
  refine sXb (s_X5_way hN hK) (by decide) (by decide) (fun x115 b23 => ?_)
  refine sXb (s_X5_times hN hK) (by decide) (by decide) (fun x140 b24 => ?_)
  refine sXb (s_X5_times hN hK) (by decide) (by decide) (fun x140_1 b25 => ?_)
  refine sXb (s_X5_times hN hK) (by decide) (by decide) (fun x140_2 b26 => ?_)
  refine sXb (s_X5_times hN hK) (by decide) (by decide) (fun x140_3 b27 => ?_)
  refine sXb (s_X5_times hN hK) (by decide) (by decide) (fun x140_4 b28 => ?_)
  refine sXb (s_X5_times hN hK) (by decide) (by decide) (fun x140_5 b29 => ?_)
  refine sXb (s_X5_times hN hK) (by decide) (by decide) (fun x140_6 b30 => ?_)
  refine sXb (s_X5_times hN hK) (by decide) (by decide) (fun x140_7 b31 => ?_)
  refine sXb (s_X5_times hN hK) (by decide) (by decide) (fun x140_8 b32 => ?_)
  refine sXb (s_X5_times hN hK) (by decide) (by decide) (fun x140_9 b33 => ?_)
  refine sXb (s_X5_times hN hK) (by decide) (by decide) (fun x140_10 b34 => ?_)
  refine sXb (s_X5_times hN hK) (by decide) (by decide) (fun x140_11 b35 => ?_)
  refine sXb (s_X5_times hN hK) (by decide) (by decide) (fun x140_12 b36 => ?_)
  refine sXb (s_X5_times hN hK) (by decide) (by decide) (fun x140_13 b37 => ?_)
  refine sXb (s_X5_times hN hK) (by decide) (by decide) (fun x140_14 b38 => ?_)
  refine sXb (s_X5_times hN hK) (by decide) (by decide) (fun x140_15 b39 => ?_)
  refine sXb (s_X5_times hN hK) (by decide) (by decide) (fun x140_16 b40 => ?_)
  refine sXb (s_X5_times hN hK) (by decide) (by decide) (fun x140_17 b41 => ?_)
  refine sXb (s_X5_times hN hK) (by decide) (by decide) (fun x140_18 b42 => ?_)
  refine sXb (s_X5_times hN hK) (by decide) (by decide) (fun x140_19 b43 => ?_)
  refine sXb (s_X5_way hN hK) (by decide) (by decide) (fun x101_1 b44 => ?_)
  refine sXb (s_X5_way hN hK) (by decide) (by decide) (fun x115_1 b45 => ?_)
  refine sXb (s_X5_times hN hK) (by decide) (by decide) (fun x140_20 b46 => ?_)
  refine sXb (s_X5_times hN hK) (by decide) (by decide) (fun x140_21 b47 => ?_)
  refine sXb (s_X5_times hN hK) (by decide) (by decide) (fun x140_22 b48 => ?_)
  refine sXb (s_X5_times hN hK) (by decide) (by decide) (fun x140_23 b49 => ?_)
  refine sXb (s_X5_times hN hK) (by decide) (by decide) (fun x140_24 b50 => ?_)
  refine sXb (s_X5_times hN hK) (by decide) (by decide) (fun x140_25 b51 => ?_)
  refine sXb (s_X5_times hN hK) (by decide) (by decide) (fun x140_26 b52 => ?_)
  refine sXb (s_X5_times hN hK) (by decide) (by decide) (fun x140_27 b53 => ?_)
  refine sXb (s_X5_times hN hK) (by decide) (by decide) (fun x140_28 b54 => ?_)
  refine sXb (s_X5_times hN hK) (by decide) (by decide) (fun x140_29 b55 => ?_)
  refine sXb (s_X5_times hN hK) (by decide) (by decide) (fun x140_30 b56 => ?_)
  refine sXb (s_X5_times hN hK) (by decide) (by decide) (fun x140_31 b57 => ?_)
  refine sXb (s_X5_times hN hK) (by decide) (by decide) (fun x140_32 b58 => ?_)
  refine sXb (s_X5_times hN hK) (by decide) (by decide) (fun x140_33 b59 => ?_)
  refine sXb (s_X5_times hN hK) (by decide) (by decide) (fun x140_34 b60 => ?_)
  refine sXb (s_X5_times hN hK) (by decide) (by decide) (fun x140_35 b61 => ?_)
  refine sXb (s_X5_times hN hK) (by decide) (by decide) (fun x140_36 b62 => ?_)
  refine sXb (s_X5_times hN hK) (by decide) (by decide) (fun x140_37 b63 => ?_)
  refine sXb (s_X5_times hN hK) (by decide) (by decide) (fun x140_38 b64 => ?_)
  refine sXb (s_X5_times hN hK) (by decide) (by decide) (fun x140_39 b65 => ?_)
  have r66 := rgI c0
  have r67 := rgI c1
  have r68 := rgI c2
  have r69 := rgI c3
  have r70 := rgI c4
  have r71 := rgI c5
  refine sXb (s_X5_tally hN hK) (by decide) (by decide) (fun x172 b72 => ?_)
  refine sXb (s_X5_tally hN hK) (by decide) (by decide) (fun x172_1 b73 => ?_)
  refine sXb (s_X5_tally hN hK) (by decide) (by decide) (fun x172_2 b74 => ?_)
  refine sXb (s_X5_tally hN hK) (by decide) (by decide) (fun x172_3 b75 => ?_)
  refine sXb (s_X5_tally hN hK) (by decide) (by decide) (fun x172_4 b76 => ?_)
  refine sXb (s_X5_tally hN hK) (by decide) (by decide) (fun x172_5 b77 => ?_)
  exact sXl trivial
set_option maxHeartbeats 2000000 in
theorem s_X7_init_78vv {N K : Nat} {th : Int32} (hN : NBig N) (hK : 100 ≤ K)  : ∀ (fu : Nat) (l5 : Int32) (e_v1 : (Nat → Int32)) (e_v2 : (Nat → Int32)) (e_v3 : (Nat → Int32)) (e_v6 : (Nat → Int32)) (e_v7 : (Nat → Int32)) (e_v8 : (Nat → Int32)) (e_v9 : (Nat → Int32)) (e_v10 : (Nat → Int32)) (e_v11 : (Nat → Int32)) (e_v12 : (Nat → Int32)), (6144 - l5.toInt).toNat < fu → 0 ≤ l5.toInt → l5.toInt ≤ 6144 → Sf (fX7_init_78vv N K th  fu l5 e_v1 e_v2 e_v3 e_v6 e_v7 e_v8 e_v9 e_v10 e_v11 e_v12) (fun (z : (Nat → Int32) × (Nat → Int32) × (Nat → Int32) × (Nat → Int32) × (Nat → Int32) × (Nat → Int32) × (Nat → Int32) × (Nat → Int32) × (Nat → Int32) × (Nat → Int32)) => True) := by
  intro fu
  induction fu with
  | zero => intro l5 e_v1 e_v2 e_v3 e_v6 e_v7 e_v8 e_v9 e_v10 e_v11 e_v12 h0 hq0 hq1; omega
  | succ fu ih =>
    intro l5 e_v1 e_v2 e_v3 e_v6 e_v7 e_v8 e_v9 e_v10 e_v11 e_v12 h0 hq0 hq1
    unfold fX7_init_78vv
    have ql0 : (0 : Int32).toInt = 0 := by decide
    have ql1 : (1 : Int32).toInt = 1 := by decide
    have ql6144 : (6144 : Int32).toInt = 6144 := by decide
    refine sIf (fun h1 => ?_) (fun h1 => ?_)
    · have r2 := rgI l5
      have fh1 := leT h1
      exact sRet trivial
    · have r3 := rgI l5
      have fh1 := leF h1
      refine sIfF (noob (by omega) (by omega)) ?_
      have t4 := addI (a := l5) (b := (1 : Int32)) (by omega) (by omega)
      exact ih _ _ _ _ _ _ _ _ _ _ _ (by omega) (by first | omega | decide) (by first | omega | decide)
set_option maxHeartbeats 2000000 in
theorem s_X7_init_78v {N K : Nat} {th : Int32} (hN : NBig N) (hK : 100 ≤ K)  : ∀ (fu : Nat) (l5 : Int32) (e_v1 : (Nat → Int32)) (e_v2 : (Nat → Int32)) (e_v3 : (Nat → Int32)) (e_v6 : (Nat → Int32)) (e_v7 : (Nat → Int32)) (e_v8 : (Nat → Int32)) (e_v9 : (Nat → Int32)) (e_v10 : (Nat → Int32)) (e_v11 : (Nat → Int32)) (e_v12 : (Nat → Int32)), (6144 - l5.toInt).toNat < fu → 0 ≤ l5.toInt → l5.toInt ≤ 6144 → Sf (fX7_init_78v N K th  fu l5 e_v1 e_v2 e_v3 e_v6 e_v7 e_v8 e_v9 e_v10 e_v11 e_v12) (fun (z : (Nat → Int32) × (Nat → Int32) × (Nat → Int32) × (Nat → Int32) × (Nat → Int32) × (Nat → Int32) × (Nat → Int32) × (Nat → Int32) × (Nat → Int32) × (Nat → Int32)) => True) := by
  intro fu
  induction fu with
  | zero => intro l5 e_v1 e_v2 e_v3 e_v6 e_v7 e_v8 e_v9 e_v10 e_v11 e_v12 h0 hq0 hq1; omega
  | succ fu ih =>
    intro l5 e_v1 e_v2 e_v3 e_v6 e_v7 e_v8 e_v9 e_v10 e_v11 e_v12 h0 hq0 hq1
    unfold fX7_init_78v
    have hN9 := hN.u
    have ql0 : (0 : Int32).toInt = 0 := by decide
    have ql1 : (1 : Int32).toInt = 1 := by decide
    have ql6144 : (6144 : Int32).toInt = 6144 := by decide
    refine sIf (fun h1 => ?_) (fun h1 => ?_)
    · have r2 := rgI l5
      have fh1 := leT h1
      exact s_X7_init_78vv  hN hK _ _ _ _ _ _ _ _ _ _ _ _ (by omega) (by first | omega | decide) (by first | omega | decide)
    · have r3 := rgI l5
      have fh1 := leF h1
      refine sIfF (noob (by omega) (by omega)) ?_
      have t4 := addI (a := l5) (b := (1 : Int32)) (by omega) (by omega)
      exact ih _ _ _ _ _ _ _ _ _ _ _ (by omega) (by first | omega | decide) (by first | omega | decide)
set_option maxHeartbeats 2000000 in
theorem s_X7_init_78 {N K : Nat} {th : Int32} (hN : NBig N) (hK : 100 ≤ K)  : ∀ (fu : Nat) (l5 : Int32) (e_v1 : (Nat → Int32)) (e_v2 : (Nat → Int32)) (e_v3 : (Nat → Int32)) (e_v6 : (Nat → Int32)) (e_v7 : (Nat → Int32)) (e_v8 : (Nat → Int32)) (e_v9 : (Nat → Int32)) (e_v10 : (Nat → Int32)) (e_v11 : (Nat → Int32)) (e_v12 : (Nat → Int32)), (6144 - l5.toInt).toNat < fu → 0 ≤ l5.toInt → l5.toInt ≤ 6144 → Sf (fX7_init_78 N K th  fu l5 e_v1 e_v2 e_v3 e_v6 e_v7 e_v8 e_v9 e_v10 e_v11 e_v12) (fun (z : (Nat → Int32) × (Nat → Int32) × (Nat → Int32) × (Nat → Int32) × (Nat → Int32) × (Nat → Int32) × (Nat → Int32) × (Nat → Int32) × (Nat → Int32) × (Nat → Int32)) => True) := by
  intro fu
  induction fu with
  | zero => intro l5 e_v1 e_v2 e_v3 e_v6 e_v7 e_v8 e_v9 e_v10 e_v11 e_v12 h0 hq0 hq1; omega
  | succ fu ih =>
    intro l5 e_v1 e_v2 e_v3 e_v6 e_v7 e_v8 e_v9 e_v10 e_v11 e_v12 h0 hq0 hq1
    unfold fX7_init_78
    have hN9 := hN.u
    have ql0 : (0 : Int32).toInt = 0 := by decide
    have ql1 : (1 : Int32).toInt = 1 := by decide
    have ql6144 : (6144 : Int32).toInt = 6144 := by decide
    refine sIf (fun h1 => ?_) (fun h1 => ?_)
    · have r2 := rgI l5
      have fh1 := leT h1
      exact s_X7_init_78v  hN hK _ _ _ _ _ _ _ _ _ _ _ _ (by omega) (by first | omega | decide) (by first | omega | decide)
    · have r3 := rgI l5
      have fh1 := leF h1
      refine sIfF (noob (by omega) (by omega)) ?_
      have t4 := addI (a := l5) (b := (1 : Int32)) (by omega) (by omega)
      exact ih _ _ _ _ _ _ _ _ _ _ _ (by omega) (by first | omega | decide) (by first | omega | decide)
set_option maxHeartbeats 2000000 in
theorem s_X7_init {N K : Nat} {th : Int32} (hN : NBig N) (hK : 100 ≤ K)  : Sf (fX7_init N K th) (fun (z : (Nat → Int32) × (Nat → Int32) × (Nat → Int32) × (Nat → Int32) × (Nat → Int32) × (Nat → Int32) × (Nat → Int32) × (Nat → Int32) × (Nat → Int32) × (Nat → Int32)) => True) := by
  unfold fX7_init
  have hN9 := hN.u
  have ql0 : (0 : Int32).toInt = 0 := by decide
  exact s_X7_init_78  hN hK _ _ _ _ _ _ _ _ _ _ _ _ (by omega) (by first | omega | decide) (by first | omega | decide)
set_option maxHeartbeats 2000000 in
theorem s_X7_isNo {N K : Nat} {p0 : Int32} {p1 : Int32} {p2 : Int32} (hN : NBig N) (hK : 100 ≤ K) (hp0 : 0 ≤ p1.toInt) (hp1 : p1.toInt ≤ 1) (hp2 : 1 ≤ p2.toInt) (hp3 : p2.toInt ≤ 20) : Sf (fX7_isNo N K p0 p1 p2) (fun (z : Int32) => 0 ≤ z.toInt ∧ z.toInt ≤ 1 ∧ (z.toInt = 0 → (p1.toInt ≤ p0.toInt ∧ p0.toInt ≤ p2.toInt)) ∧ True) := by
  unfold fX7_isNo
  have ql0 : (0 : Int32).toInt = 0 := by decide
  have ql1 : (1 : Int32).toInt = 1 := by decide
  refine sIf (fun h1 => ?_) (fun h1 => ?_)
  · have r2 := rgI p0
    have r3 := rgI p1
    have fh1 := ltT h1
    exact sRet ⟨(by show 0 ≤ (1 : Int32).toInt; decide), (by show (1 : Int32).toInt ≤ 1; decide), (by show ((1 : Int32).toInt = 0 → (p1.toInt ≤ p0.toInt ∧ p0.toInt ≤ p2.toInt)); omega), trivial⟩
  · have r4 := rgI p0
    have r5 := rgI p1
    have fh1 := ltF h1
    refine sIf (fun h6 => ?_) (fun h6 => ?_)
    · have r7 := rgI p2
      have fh6 := leT h6
      exact sRet ⟨(by show 0 ≤ (0 : Int32).toInt; decide), (by show (0 : Int32).toInt ≤ 1; decide), (by show ((0 : Int32).toInt = 0 → (p1.toInt ≤ p0.toInt ∧ p0.toInt ≤ p2.toInt)); omega), trivial⟩
    · have r8 := rgI p2
      have fh6 := leF h6
      exact sRet ⟨(by show 0 ≤ (1 : Int32).toInt; decide), (by show (1 : Int32).toInt ≤ 1; decide), (by show ((1 : Int32).toInt = 0 → (p1.toInt ≤ p0.toInt ∧ p0.toInt ≤ p2.toInt)); omega), trivial⟩
set_option maxHeartbeats 2000000 in
theorem s_X7_isOut {N K : Nat} {p0 : Int32} {p1 : Int32} {p2 : Int32} (hN : NBig N) (hK : 100 ≤ K)  : Sf (fX7_isOut N K p0 p1 p2) (fun (z : Int32) => 0 ≤ z.toInt ∧ z.toInt ≤ 1 ∧ (z.toInt = 0 → (0 ≤ p0.toInt ∧ p0.toInt ≤ 5)) ∧ (z.toInt = 0 → (0 ≤ p1.toInt ∧ p1.toInt ≤ 20)) ∧ (z.toInt = 0 → (0 ≤ p2.toInt ∧ p2.toInt ≤ 20)) ∧ True) := by
  unfold fX7_isOut
  have ql0 : (0 : Int32).toInt = 0 := by decide
  have ql1 : (1 : Int32).toInt = 1 := by decide
  have ql5 : (5 : Int32).toInt = 5 := by decide
  have ql20 : (20 : Int32).toInt = 20 := by decide
  have r1 := rgI p0
  refine sBind (s_X7_isNo hN hK (by first | omega | decide) (by first | omega | decide) (by first | omega | decide) (by first | omega | decide)) (fun x3 b2 => ?_)
  obtain ⟨b2_0, b2_1, b2_2, -⟩ := b2
  replace b2_0 : 0 ≤ x3.toInt := b2_0
  replace b2_1 : x3.toInt ≤ 1 := b2_1
  replace b2_2 : (x3.toInt = 0 → ((0 : Int32).toInt ≤ p0.toInt ∧ p0.toInt ≤ (5 : Int32).toInt)) := b2_2
  refine sIf (fun h3 => ?_) (fun h3 => ?_)
  · have r4 := rgI x3
    have fh3 := eqT h3
    have r5 := rgI p1
    refine sBind (s_X7_isNo hN hK (by first | omega | decide) (by first | omega | decide) (by first | omega | decide) (by first | omega | decide)) (fun x13 b6 => ?_)
    obtain ⟨b6_0, b6_1, b6_2, -⟩ := b6
    replace b6_0 : 0 ≤ x13.toInt := b6_0
    replace b6_1 : x13.toInt ≤ 1 := b6_1
    replace b6_2 : (x13.toInt = 0 → ((0 : Int32).toInt ≤ p1.toInt ∧ p1.toInt ≤ (20 : Int32).toInt)) := b6_2
    refine sIf (fun h7 => ?_) (fun h7 => ?_)
    · have r8 := rgI x13
      have fh7 := eqT h7
      have r9 := rgI p2
      refine sBind (s_X7_isNo hN hK (by first | omega | decide) (by first | omega | decide) (by first | omega | decide) (by first | omega | decide)) (fun x23 b10 => ?_)
      obtain ⟨b10_0, b10_1, b10_2, -⟩ := b10
      replace b10_0 : 0 ≤ x23.toInt := b10_0
      replace b10_1 : x23.toInt ≤ 1 := b10_1
      replace b10_2 : (x23.toInt = 0 → ((0 : Int32).toInt ≤ p2.toInt ∧ p2.toInt ≤ (20 : Int32).toInt)) := b10_2
      refine sIf (fun h11 => ?_) (fun h11 => ?_)
      · have r12 := rgI x23
        have fh11 := eqT h11
        exact sRet ⟨(by show 0 ≤ (0 : Int32).toInt; decide), (by show (0 : Int32).toInt ≤ 1; decide), (by show ((0 : Int32).toInt = 0 → (0 ≤ p0.toInt ∧ p0.toInt ≤ 5)); omega), (by show ((0 : Int32).toInt = 0 → (0 ≤ p1.toInt ∧ p1.toInt ≤ 20)); omega), (by show ((0 : Int32).toInt = 0 → (0 ≤ p2.toInt ∧ p2.toInt ≤ 20)); omega), trivial⟩
      · have r13 := rgI x23
        have fh11 := eqF h11
        exact sRet ⟨(by show 0 ≤ (1 : Int32).toInt; decide), (by show (1 : Int32).toInt ≤ 1; decide), (by show ((1 : Int32).toInt = 0 → (0 ≤ p0.toInt ∧ p0.toInt ≤ 5)); omega), (by show ((1 : Int32).toInt = 0 → (0 ≤ p1.toInt ∧ p1.toInt ≤ 20)); omega), (by show ((1 : Int32).toInt = 0 → (0 ≤ p2.toInt ∧ p2.toInt ≤ 20)); omega), trivial⟩
    · have r14 := rgI x13
      have fh7 := eqF h7
      exact sRet ⟨(by show 0 ≤ (1 : Int32).toInt; decide), (by show (1 : Int32).toInt ≤ 1; decide), (by show ((1 : Int32).toInt = 0 → (0 ≤ p0.toInt ∧ p0.toInt ≤ 5)); omega), (by show ((1 : Int32).toInt = 0 → (0 ≤ p1.toInt ∧ p1.toInt ≤ 20)); omega), (by show ((1 : Int32).toInt = 0 → (0 ≤ p2.toInt ∧ p2.toInt ≤ 20)); omega), trivial⟩
  · have r15 := rgI x3
    have fh3 := eqF h3
    exact sRet ⟨(by show 0 ≤ (1 : Int32).toInt; decide), (by show (1 : Int32).toInt ≤ 1; decide), (by show ((1 : Int32).toInt = 0 → (0 ≤ p0.toInt ∧ p0.toInt ≤ 5)); omega), (by show ((1 : Int32).toInt = 0 → (0 ≤ p1.toInt ∧ p1.toInt ≤ 20)); omega), (by show ((1 : Int32).toInt = 0 → (0 ≤ p2.toInt ∧ p2.toInt ≤ 20)); omega), trivial⟩
set_option maxHeartbeats 2000000 in
theorem s_X7_bit {N K : Nat} {p0 : Int32} (hN : NBig N) (hK : 100 ≤ K) (hp0 : 0 ≤ p0.toInt) (hp1 : p0.toInt ≤ 1) : Sf (fX7_bit N K p0) (fun (z : Int32) => 0 ≤ z.toInt ∧ z.toInt ≤ 1 ∧ True) := by
  unfold fX7_bit
  have ql0 : (0 : Int32).toInt = 0 := by decide
  have ql1 : (1 : Int32).toInt = 1 := by decide
  refine sIf (fun h1 => ?_) (fun h1 => ?_)
  · have r2 := rgI p0
    have fh1 := eqT h1
    exact sRet ⟨(by show 0 ≤ (0 : Int32).toInt; decide), (by show (0 : Int32).toInt ≤ 1; decide), trivial⟩
  · have r3 := rgI p0
    have fh1 := eqF h1
    exact sRet ⟨(by show 0 ≤ (1 : Int32).toInt; decide), (by show (1 : Int32).toInt ≤ 1; decide), trivial⟩
set_option maxHeartbeats 2000000 in
theorem s_X7_code {N K : Nat} {p0 : Int32} {p1 : Int32} {p2 : Int32} (hN : NBig N) (hK : 100 ≤ K) (hp0 : 0 ≤ p0.toInt) (hp1 : p0.toInt ≤ 5) (hp2 : 0 ≤ p1.toInt) : Sf (fX7_code N K p0 p1 p2) (fun (z : Int32) => True) := by
  unfold fX7_code
  have ql0 : (0 : Int32).toInt = 0 := by decide
  have r1 := rgI ((((1024 : Int32) * p0) + ((32 : Int32) * p1)) + p2)
  exact sRet trivial
set_option maxHeartbeats 2000000 in
theorem s_X7_kindOf {N K : Nat} {p0 : Int32} (hN : NBig N) (hK : 100 ≤ K) (hp0 : 0 ≤ p0.toInt) (hp1 : p0.toInt ≤ 6143) : Sf (fX7_kindOf N K p0) (fun (z : Int32) => 0 ≤ z.toInt ∧ z.toInt ≤ 5 ∧ True) := by
  unfold fX7_kindOf
  have ql0 : (0 : Int32).toInt = 0 := by decide
  have ql1024 : (1024 : Int32).toInt = 1024 := by decide
  have r2 := rgI p0
  have t1 := divL (a := p0) (b := (1024 : Int32)) ql1024 (by omega) (by omega)
  exact sRet ⟨(by show 0 ≤ (p0 / (1024 : Int32)).toInt; omega), (by show (p0 / (1024 : Int32)).toInt ≤ 5; omega), trivial⟩
set_option maxHeartbeats 2000000 in
theorem s_X7_numberOf {N K : Nat} {p0 : Int32} (hN : NBig N) (hK : 100 ≤ K) (hp0 : 0 ≤ p0.toInt) (hp1 : p0.toInt ≤ 6143) : Sf (fX7_numberOf N K p0) (fun (z : Int32) => 0 ≤ z.toInt ∧ z.toInt ≤ 31 ∧ True) := by
  unfold fX7_numberOf
  have ql0 : (0 : Int32).toInt = 0 := by decide
  have ql32 : (32 : Int32).toInt = 32 := by decide
  have r3 := rgI p0
  have t2 := divL (a := p0) (b := (32 : Int32)) ql32 (by omega) (by omega)
  have t1 := modL (a := (p0 / (32 : Int32))) (b := (32 : Int32)) ql32 (by omega)
  exact sRet ⟨(by show 0 ≤ ((p0 / (32 : Int32)) % (32 : Int32)).toInt; omega), (by show ((p0 / (32 : Int32)) % (32 : Int32)).toInt ≤ 31; omega), trivial⟩
set_option maxHeartbeats 2000000 in
theorem s_X7_measureOf {N K : Nat} {p0 : Int32} (hN : NBig N) (hK : 100 ≤ K) (hp0 : 0 ≤ p0.toInt) (hp1 : p0.toInt ≤ 6143) : Sf (fX7_measureOf N K p0) (fun (z : Int32) => 0 ≤ z.toInt ∧ z.toInt ≤ 31 ∧ True) := by
  unfold fX7_measureOf
  have ql0 : (0 : Int32).toInt = 0 := by decide
  have ql32 : (32 : Int32).toInt = 32 := by decide
  have r2 := rgI p0
  have t1 := modL (a := p0) (b := (32 : Int32)) ql32 (by omega)
  exact sRet ⟨(by show 0 ≤ (p0 % (32 : Int32)).toInt; omega), (by show (p0 % (32 : Int32)).toInt ≤ 31; omega), trivial⟩
set_option maxHeartbeats 2000000 in
theorem s_X7_rests {N K : Nat} {p0 : Int32} {p1 : Int32} (hN : NBig N) (hK : 100 ≤ K)  : Sf (fX7_rests N K p0 p1) (fun (z : Int32) => 0 ≤ z.toInt ∧ z.toInt ≤ 1 ∧ (z.toInt = 0 → (1 ≤ p0.toInt)) ∧ (z.toInt = 0 → p1.toInt ≠ 0) ∧ True) := by
  unfold fX7_rests
  have ql0 : (0 : Int32).toInt = 0 := by decide
  have ql1 : (1 : Int32).toInt = 1 := by decide
  refine sIf (fun h1 => ?_) (fun h1 => ?_)
  · have r2 := rgI p0
    have fh1 := leT h1
    exact sRet ⟨(by show 0 ≤ (1 : Int32).toInt; decide), (by show (1 : Int32).toInt ≤ 1; decide), (by show ((1 : Int32).toInt = 0 → (1 ≤ p0.toInt)); omega), (by show ((1 : Int32).toInt = 0 → p1.toInt ≠ 0); omega), trivial⟩
  · have r3 := rgI p0
    have fh1 := leF h1
    refine sIf (fun h4 => ?_) (fun h4 => ?_)
    · have r5 := rgI p1
      have fh4 := eqT h4
      exact sRet ⟨(by show 0 ≤ (1 : Int32).toInt; decide), (by show (1 : Int32).toInt ≤ 1; decide), (by show ((1 : Int32).toInt = 0 → (1 ≤ p0.toInt)); omega), (by show ((1 : Int32).toInt = 0 → p1.toInt ≠ 0); omega), trivial⟩
    · have r6 := rgI p1
      have fh4 := eqF h4
      exact sRet ⟨(by show 0 ≤ (0 : Int32).toInt; decide), (by show (0 : Int32).toInt ≤ 1; decide), (by show ((0 : Int32).toInt = 0 → (1 ≤ p0.toInt)); omega), (by show ((0 : Int32).toInt = 0 → p1.toInt ≠ 0); omega), trivial⟩
set_option maxHeartbeats 2000000 in
theorem s_X7_hasLeg {N K : Nat} {p0 : Int32} {p1 : Int32} {p2 : Int32} (hN : NBig N) (hK : 100 ≤ K) (hp0 : 0 ≤ p0.toInt) (hp1 : p0.toInt ≤ 5) (hp2 : 0 ≤ p1.toInt) (hp3 : p1.toInt ≤ 20) (hp4 : 0 ≤ p2.toInt) (hp5 : p2.toInt ≤ 1) : Sf (fX7_hasLeg N K p0 p1 p2) (fun (z : Int32) => 0 ≤ z.toInt ∧ z.toInt ≤ 1 ∧ True) := by
  unfold fX7_hasLeg
  have ql0 : (0 : Int32).toInt = 0 := by decide
  have ql1 : (1 : Int32).toInt = 1 := by decide
  have ql2 : (2 : Int32).toInt = 2 := by decide
  have ql3 : (3 : Int32).toInt = 3 := by decide
  have ql4 : (4 : Int32).toInt = 4 := by decide
  refine sIf (fun h1 => ?_) (fun h1 => ?_)
  · have r2 := rgI p2
    have fh1 := eqT h1
    exact sRet ⟨(by show 0 ≤ (1 : Int32).toInt; decide), (by show (1 : Int32).toInt ≤ 1; decide), trivial⟩
  · have r3 := rgI p2
    have fh1 := eqF h1
    refine sIf (fun h4 => ?_) (fun h4 => ?_)
    · have r6 := rgI p1
      have t5 := modL (a := p1) (b := (2 : Int32)) ql2 (by omega)
      have fh4 := eqT h4
      exact sRet ⟨(by show 0 ≤ (1 : Int32).toInt; decide), (by show (1 : Int32).toInt ≤ 1; decide), trivial⟩
    · have r8 := rgI p1
      have t7 := modL (a := p1) (b := (2 : Int32)) ql2 (by omega)
      have fh4 := eqF h4
      refine sIf (fun h9 => ?_) (fun h9 => ?_)
      · have r10 := rgI p0
        have fh9 := eqT h9
        exact sRet ⟨(by show 0 ≤ (0 : Int32).toInt; decide), (by show (0 : Int32).toInt ≤ 1; decide), trivial⟩
      · have r11 := rgI p0
        have fh9 := eqF h9
        refine sIf (fun h12 => ?_) (fun h12 => ?_)
        · have fh12 := eqT h12
          exact sRet ⟨(by show 0 ≤ (0 : Int32).toInt; decide), (by show (0 : Int32).toInt ≤ 1; decide), trivial⟩
        · have fh12 := eqF h12
          exact sRet ⟨(by show 0 ≤ (1 : Int32).toInt; decide), (by show (1 : Int32).toInt ≤ 1; decide), trivial⟩
set_option maxHeartbeats 2000000 in
theorem s_X7_legNumber {N K : Nat} {p0 : Int32} {p1 : Int32} {p2 : Int32} {p3 : Int32} (hN : NBig N) (hK : 100 ≤ K) (hp0 : 0 ≤ p0.toInt) (hp1 : p0.toInt ≤ 5) (hp2 : 0 ≤ p1.toInt) (hp3 : p1.toInt ≤ 20) (hp4 : 0 ≤ p2.toInt) (hp5 : p2.toInt ≤ 20) (hp6 : 0 ≤ p3.toInt) (hp7 : p3.toInt ≤ 1) : Sf (fX7_legNumber N K p0 p1 p2 p3) (fun (z : Int32) => -20 ≤ z.toInt ∧ z.toInt ≤ 20 ∧ True) := by
  unfold fX7_legNumber
  have ql0 : (0 : Int32).toInt = 0 := by decide
  have ql1 : (1 : Int32).toInt = 1 := by decide
  have ql5 : (5 : Int32).toInt = 5 := by decide
  refine sIf (fun h1 => ?_) (fun h1 => ?_)
  · have r2 := rgI p3
    have fh1 := eqT h1
    have r4 := rgI p1
    have r5 := rgI p2
    have t3 := subI (a := p1) (b := p2) (by omega) (by omega)
    exact sRet ⟨(by show -20 ≤ (p1 - p2).toInt; omega), (by show (p1 - p2).toInt ≤ 20; omega), trivial⟩
  · have r6 := rgI p3
    have fh1 := eqF h1
    refine sIf (fun h7 => ?_) (fun h7 => ?_)
    · have r8 := rgI p0
      have fh7 := eqT h7
      have r10 := rgI p1
      have r11 := rgI p2
      have t9 := subI (a := p1) (b := p2) (by omega) (by omega)
      exact sRet ⟨(by show -20 ≤ (p1 - p2).toInt; omega), (by show (p1 - p2).toInt ≤ 20; omega), trivial⟩
    · have r12 := rgI p0
      have fh7 := eqF h7
      refine sIf (fun h13 => ?_) (fun h13 => ?_)
      · have fh13 := eqT h13
        have r15 := rgI p1
        have t14 := subI (a := p1) (b := (1 : Int32)) (by omega) (by omega)
        exact sRet ⟨(by show -20 ≤ (p1 - (1 : Int32)).toInt; omega), (by show (p1 - (1 : Int32)).toInt ≤ 20; omega), trivial⟩
      · have fh13 := eqF h13
        have r16 := rgI p1
        exact sRet ⟨(by show -20 ≤ p1.toInt; omega), (by show p1.toInt ≤ 20; omega), trivial⟩
set_option maxHeartbeats 2000000 in
theorem s_X7_legMeasure_36 {N K : Nat} {p0 : Int32} {p1 : Int32} {p2 : Int32} (hN : NBig N) (hK : 100 ≤ K) (hp0 : 0 ≤ p0.toInt) (hp1 : p0.toInt ≤ 5) (hp2 : 0 ≤ p1.toInt) (hp3 : p1.toInt ≤ 20) (hp4 : 0 ≤ p2.toInt) (hp5 : p2.toInt ≤ 1) : ∀ (s0 : Int32), 0 ≤ s0.toInt → s0.toInt ≤ 1 → (s0.toInt = 0 → 0 ≤ p0.toInt ∧ p0.toInt ≤ 5 ∧ 0 ≤ p1.toInt ∧ p1.toInt ≤ 20 ∧ 0 ≤ p2.toInt ∧ p2.toInt ≤ 1) → Sf (fX7_legMeasure_36 N K p0 p1 p2  s0) (fun (z : Int32) => -1 ≤ z.toInt ∧ z.toInt ≤ 20 ∧ True) := by
  intro s0 hq0 hq1 hq2
  unfold fX7_legMeasure_36
  have ql0 : (0 : Int32).toInt = 0 := by decide
  have ql1 : (1 : Int32).toInt = 1 := by decide
  refine sIf (fun h1 => ?_) (fun h1 => ?_)
  · have r2 := rgI s0
    have fh1 := eqT h1
    have r4 := rgI p1
    have t3 := subI (a := p1) (b := (1 : Int32)) (by omega) (by omega)
    exact sRet ⟨(by show -1 ≤ (p1 - (1 : Int32)).toInt; omega), (by show (p1 - (1 : Int32)).toInt ≤ 20; omega), trivial⟩
  · have r5 := rgI s0
    have fh1 := eqF h1
    have r6 := rgI p1
    exact sRet ⟨(by show -1 ≤ p1.toInt; omega), (by show p1.toInt ≤ 20; omega), trivial⟩
set_option maxHeartbeats 2000000 in
theorem s_X7_legMeasure_31 {N K : Nat} {p0 : Int32} {p1 : Int32} {p2 : Int32} (hN : NBig N) (hK : 100 ≤ K) (hp0 : 0 ≤ p0.toInt) (hp1 : p0.toInt ≤ 5) (hp2 : 0 ≤ p1.toInt) (hp3 : p1.toInt ≤ 20) (hp4 : 0 ≤ p2.toInt) (hp5 : p2.toInt ≤ 1) : 0 ≤ p0.toInt → p0.toInt ≤ 3 → 1 ≤ p2.toInt → p2.toInt ≤ 1 → Sf (fX7_legMeasure_31 N K p0 p1 p2  ) (fun (z : Int32) => -1 ≤ z.toInt ∧ z.toInt ≤ 20 ∧ True) := by
  intro  hq0 hq1 hq2 hq3
  unfold fX7_legMeasure_31
  have ql0 : (0 : Int32).toInt = 0 := by decide
  have ql1 : (1 : Int32).toInt = 1 := by decide
  exact s_X7_legMeasure_36  hN hK (by omega) (by omega) (by omega) (by omega) (by omega) (by omega) _ (by first | omega | decide) (by first | omega | decide) (by first | omega | decide)
set_option maxHeartbeats 2000000 in
theorem s_X7_legMeasure {N K : Nat} {p0 : Int32} {p1 : Int32} {p2 : Int32} (hN : NBig N) (hK : 100 ≤ K) (hp0 : 0 ≤ p0.toInt) (hp1 : p0.toInt ≤ 5) (hp2 : 0 ≤ p1.toInt) (hp3 : p1.toInt ≤ 20) (hp4 : 0 ≤ p2.toInt) (hp5 : p2.toInt ≤ 1) : Sf (fX7_legMeasure N K p0 p1 p2) (fun (z : Int32) => -1 ≤ z.toInt ∧ z.toInt ≤ 20 ∧ True) := by
  unfold fX7_legMeasure
  have ql0 : (0 : Int32).toInt = 0 := by decide
  have ql1 : (1 : Int32).toInt = 1 := by decide
  have ql3 : (3 : Int32).toInt = 3 := by decide
  have ql5 : (5 : Int32).toInt = 5 := by decide
  refine sIf (fun h1 => ?_) (fun h1 => ?_)
  · have r2 := rgI p2
    have fh1 := eqT h1
    refine sIf (fun h3 => ?_) (fun h3 => ?_)
    · have r4 := rgI p0
      have fh3 := eqT h3
      exact s_X7_legMeasure_36  hN hK (by omega) (by omega) (by omega) (by omega) (by omega) (by omega) _ (by first | omega | decide) (by first | omega | decide) (by first | omega | decide)
    · have r5 := rgI p0
      have fh3 := eqF h3
      exact s_X7_legMeasure_36  hN hK (by omega) (by omega) (by omega) (by omega) (by omega) (by omega) _ (by first | omega | decide) (by first | omega | decide) (by first | omega | decide)
  · have r6 := rgI p2
    have fh1 := eqF h1
    refine sIf (fun h7 => ?_) (fun h7 => ?_)
    · have r8 := rgI p0
      have fh7 := eqT h7
      exact s_X7_legMeasure_31  hN hK (by omega) (by omega) (by omega) (by omega) (by omega) (by omega)  (by first | omega | decide) (by first | omega | decide) (by first | omega | decide) (by first | omega | decide)
    · have r9 := rgI p0
      have fh7 := eqF h7
      refine sIf (fun h10 => ?_) (fun h10 => ?_)
      · have fh10 := eqT h10
        exact s_X7_legMeasure_31  hN hK (by omega) (by omega) (by omega) (by omega) (by omega) (by omega)  (by first | omega | decide) (by first | omega | decide) (by first | omega | decide) (by first | omega | decide)
      · have fh10 := eqF h10
        refine sIf (fun h11 => ?_) (fun h11 => ?_)
        · have fh11 := eqT h11
          exact s_X7_legMeasure_31  hN hK (by omega) (by omega) (by omega) (by omega) (by omega) (by omega)  (by first | omega | decide) (by first | omega | decide) (by first | omega | decide) (by first | omega | decide)
        · have fh11 := eqF h11
          exact s_X7_legMeasure_36  hN hK (by omega) (by omega) (by omega) (by omega) (by omega) (by omega) _ (by first | omega | decide) (by first | omega | decide) (by first | omega | decide)
set_option maxHeartbeats 2000000 in
theorem s_X7_thrown {N K : Nat} {th : Int32} (hN : NBig N) (hK : 100 ≤ K)  : Sf (fX7_thrown N K th) (fun (z : Int32) => True) := by
  unfold fX7_thrown
  have ql0 : (0 : Int32).toInt = 0 := by decide
  have r1 := rgI th
  exact sRet trivial
set_option maxHeartbeats 2000000 in
theorem s_X7_isThrown_18 {N K : Nat} {th : Int32} {p0 : Int32} {p1 : Int32} (hN : NBig N) (hK : 100 ≤ K) (hp0 : 0 ≤ p0.toInt) (hp1 : p0.toInt ≤ 1) (hp2 : 0 ≤ p1.toInt) (hp3 : p1.toInt ≤ 1) : ∀ (s0 : Int32) (th_ : Int32), 0 ≤ s0.toInt → s0.toInt ≤ 2 → (s0.toInt = 0 → 0 ≤ p0.toInt ∧ p0.toInt ≤ 0 ∧ 0 ≤ p1.toInt ∧ p1.toInt ≤ 0) → Sf (fX7_isThrown_18 N K th p0 p1  s0 th_) (fun (z : Int32 × Int32) => 0 ≤ z.1.toInt ∧ z.1.toInt ≤ 1 ∧ 0 ≤ z.2.toInt ∧ z.2.toInt ≤ 2 ∧ (z.1.toInt = 0 → (0 ≤ p0.toInt ∧ p0.toInt ≤ 0)) ∧ (z.1.toInt = 0 → (0 ≤ p1.toInt ∧ p1.toInt ≤ 0)) ∧ True) := by
  intro s0 th_ hq0 hq1 hq2
  unfold fX7_isThrown_18
  have ql0 : (0 : Int32).toInt = 0 := by decide
  have ql1 : (1 : Int32).toInt = 1 := by decide
  refine sIf (fun h1 => ?_) (fun h1 => ?_)
  · have r2 := rgI s0
    have fh1 := leT h1
    exact sRet ⟨(by show 0 ≤ (0 : Int32).toInt; decide), (by show (0 : Int32).toInt ≤ 1; decide), (by show 0 ≤ s0.toInt; omega), (by show s0.toInt ≤ 2; omega), (by show ((0 : Int32).toInt = 0 → (0 ≤ p0.toInt ∧ p0.toInt ≤ 0)); omega), (by show ((0 : Int32).toInt = 0 → (0 ≤ p1.toInt ∧ p1.toInt ≤ 0)); omega), trivial⟩
  · have r3 := rgI s0
    have fh1 := leF h1
    exact sRet ⟨(by show 0 ≤ (1 : Int32).toInt; decide), (by show (1 : Int32).toInt ≤ 1; decide), (by show 0 ≤ s0.toInt; omega), (by show s0.toInt ≤ 2; omega), (by show ((1 : Int32).toInt = 0 → (0 ≤ p0.toInt ∧ p0.toInt ≤ 0)); omega), (by show ((1 : Int32).toInt = 0 → (0 ≤ p1.toInt ∧ p1.toInt ≤ 0)); omega), trivial⟩
set_option maxHeartbeats 2000000 in
theorem s_X7_isThrown {N K : Nat} {th : Int32} {p0 : Int32} {p1 : Int32} (hN : NBig N) (hK : 100 ≤ K) (hp0 : 0 ≤ p0.toInt) (hp1 : p0.toInt ≤ 1) (hp2 : 0 ≤ p1.toInt) (hp3 : p1.toInt ≤ 1) : Sf (fX7_isThrown N K th p0 p1) (fun (z : Int32 × Int32) => 0 ≤ z.1.toInt ∧ z.1.toInt ≤ 1 ∧ 0 ≤ z.2.toInt ∧ z.2.toInt ≤ 2 ∧ (z.1.toInt = 0 → (0 ≤ p0.toInt ∧ p0.toInt ≤ 0)) ∧ (z.1.toInt = 0 → (0 ≤ p1.toInt ∧ p1.toInt ≤ 0)) ∧ True) := by
  unfold fX7_isThrown
  have ql0 : (0 : Int32).toInt = 0 := by decide
  have ql1 : (1 : Int32).toInt = 1 := by decide
  have ql2 : (2 : Int32).toInt = 2 := by decide
  refine sIf (fun h1 => ?_) (fun h1 => ?_)
  · have r2 := rgI p0
    have fh1 := eqT h1
    refine sIf (fun h3 => ?_) (fun h3 => ?_)
    · have r4 := rgI p1
      have fh3 := eqT h3
      have r5 := rgI th
      exact s_X7_isThrown_18  hN hK (by omega) (by omega) (by omega) (by omega) _ _ (by first | omega | decide) (by first | omega | decide) (by first | omega | decide)
    · have r6 := rgI p1
      have fh3 := eqF h3
      have r7 := rgI th
      exact s_X7_isThrown_18  hN hK (by omega) (by omega) (by omega) (by omega) _ _ (by first | omega | decide) (by first | omega | decide) (by first | omega | decide)
  · have r8 := rgI p0
    have fh1 := eqF h1
    have r9 := rgI th
    exact s_X7_isThrown_18  hN hK (by omega) (by omega) (by omega) (by omega) _ _ (by first | omega | decide) (by first | omega | decide) (by first | omega | decide)
set_option maxHeartbeats 2000000 in
theorem s_X7_done {N K : Nat} {th : Int32} {t : Nat → Int32} {p0 : Int32} (hN : NBig N) (hK : 100 ≤ K) (hp0 : 0 ≤ th.toInt) (hp1 : th.toInt ≤ 2) : Sf (fX7_done N K th t p0) (fun (z : Int32 × (Nat → Int32)) => True) := by
  unfold fX7_done
  have ql0 : (0 : Int32).toInt = 0 := by decide
  have r1 := rgI p0
  exact sRet trivial
set_option maxHeartbeats 2000000 in
theorem s_X7_refused {N K : Nat} {th : Int32} {t : Nat → Int32} (hN : NBig N) (hK : 100 ≤ K) (hp0 : 0 ≤ th.toInt) (hp1 : th.toInt ≤ 2) : Sf (fX7_refused N K th t) (fun (z : Int32 × (Nat → Int32)) => -9 ≤ z.1.toInt ∧ z.1.toInt ≤ -9 ∧ True) := by
  unfold fX7_refused
  have ql0 : (0 : Int32).toInt = 0 := by decide
  exact sRet ⟨(by show -9 ≤ (-9 : Int32).toInt; decide), (by show (-9 : Int32).toInt ≤ -9; decide), trivial⟩
set_option maxHeartbeats 2000000 in
theorem s_X7_worth_48 {N K : Nat} {th : Int32} {f : Nat → Int32} {p0 : Int32} {p1 : Int32} {p2 : Int32} {p3 : Int32} (hN : NBig N) (hK : 100 ≤ K) (hp0 : 0 ≤ th.toInt) (hp1 : th.toInt ≤ 2) (hp2 : 0 ≤ p0.toInt) (hp3 : p0.toInt ≤ 2) (hp4 : 0 ≤ p1.toInt) (hp5 : p1.toInt ≤ 5) : ∀ (s0 : Int32), 0 ≤ s0.toInt → s0.toInt ≤ 1 → (s0.toInt = 0 → 0 ≤ th.toInt ∧ th.toInt ≤ 2 ∧ 0 ≤ p0.toInt ∧ p0.toInt ≤ 2 ∧ 0 ≤ p1.toInt ∧ p1.toInt ≤ 5) → Sf (fX7_worth_48 N K th f p0 p1 p2 p3  s0) (fun (z : Int32) => True) := by
  intro s0 hq0 hq1 hq2
  unfold fX7_worth_48
  have ql0 : (0 : Int32).toInt = 0 := by decide
  have r1 := rgI s0
  refine sBind (s_X7_bit hN hK (by first | omega | decide) (by first | omega | decide)) (fun x48 b2 => ?_)
  obtain ⟨b2_0, b2_1, -⟩ := b2
  replace b2_0 : 0 ≤ x48.toInt := b2_0
  replace b2_1 : x48.toInt ≤ 1 := b2_1
  have r3 := rgI x48
  exact sRet trivial
set_option maxHeartbeats 2000000 in
theorem s_X7_worth_47 {N K : Nat} {th : Int32} {f : Nat → Int32} {p0 : Int32} {p1 : Int32} {p2 : Int32} {p3 : Int32} (hN : NBig N) (hK : 100 ≤ K) (hp0 : 0 ≤ th.toInt) (hp1 : th.toInt ≤ 2) (hp2 : 0 ≤ p0.toInt) (hp3 : p0.toInt ≤ 2) (hp4 : 0 ≤ p1.toInt) (hp5 : p1.toInt ≤ 5) : Sf (fX7_worth_47 N K th f p0 p1 p2 p3  ) (fun (z : Int32) => True) := by
  unfold fX7_worth_47
  have ql0 : (0 : Int32).toInt = 0 := by decide
  exact s_X7_worth_48  hN hK (by omega) (by omega) (by omega) (by omega) (by omega) (by omega) _ (by first | omega | decide) (by first | omega | decide) (by first | omega | decide)
set_option maxHeartbeats 2000000 in
theorem s_X7_worth_43 {N K : Nat} {th : Int32} {f : Nat → Int32} {p0 : Int32} {p1 : Int32} {p2 : Int32} {p3 : Int32} (hN : NBig N) (hK : 100 ≤ K) (hp0 : 0 ≤ th.toInt) (hp1 : th.toInt ≤ 2) (hp2 : 0 ≤ p0.toInt) (hp3 : p0.toInt ≤ 2) (hp4 : 0 ≤ p1.toInt) (hp5 : p1.toInt ≤ 5) : 0 ≤ p2.toInt → p2.toInt ≤ 0 → Sf (fX7_worth_43 N K th f p0 p1 p2 p3  ) (fun (z : Int32) => True) := by
  intro  hq0 hq1
  unfold fX7_worth_43
  have ql0 : (0 : Int32).toInt = 0 := by decide
  have ql1 : (1 : Int32).toInt = 1 := by decide
  exact s_X7_worth_48  hN hK (by omega) (by omega) (by omega) (by omega) (by omega) (by omega) _ (by first | omega | decide) (by first | omega | decide) (by first | omega | decide)
set_option maxHeartbeats 2000000 in
theorem s_X7_worth {N K : Nat} {th : Int32} {f : Nat → Int32} {p0 : Int32} {p1 : Int32} {p2 : Int32} {p3 : Int32} (hN : NBig N) (hK : 100 ≤ K) (hp0 : 0 ≤ th.toInt) (hp1 : th.toInt ≤ 2) (hp2 : 0 ≤ p0.toInt) (hp3 : p0.toInt ≤ 2) (hp4 : 0 ≤ p1.toInt) (hp5 : p1.toInt ≤ 5) : Sf (fX7_worth N K th f p0 p1 p2 p3) (fun (z : Int32) => True) := by
  unfold fX7_worth
  have ql0 : (0 : Int32).toInt = 0 := by decide
  have ql1 : (1 : Int32).toInt = 1 := by decide
  have ql5 : (5 : Int32).toInt = 5 := by decide
  have r1 := rgI p2
  have r2 := rgI p3
  refine sBind (s_X7_rests hN hK) (fun x3 b3 => ?_)
  obtain ⟨b3_0, b3_1, b3_2, b3_3, -⟩ := b3
  replace b3_0 : 0 ≤ x3.toInt := b3_0
  replace b3_1 : x3.toInt ≤ 1 := b3_1
  replace b3_2 : (x3.toInt = 0 → (1 ≤ p2.toInt)) := b3_2
  replace b3_3 : (x3.toInt = 0 → p3.toInt ≠ 0) := b3_3
  refine sIf (fun h4 => ?_) (fun h4 => ?_)
  · have r5 := rgI x3
    have fh4 := eqT h4
    have r6 := rgI p0
    refine sIfF (noob (by omega) (by omega)) ?_
    have r7 := rgI p1
    refine sBind (s_X7_code hN hK (by first | omega | decide) (by first | omega | decide) (by first | omega | decide)) (fun x19 b8 => ?_)
    have r9 := rgI x19
    refine sIfF (noob (by omega) (by omega)) ?_
    have r10 := rgI (f x19.toNatClampNeg)
    exact sRet trivial
  · have r11 := rgI x3
    have fh4 := eqF h4
    refine sIf (fun h12 => ?_) (fun h12 => ?_)
    · have fh12 := eqT h12
      refine sIf (fun h13 => ?_) (fun h13 => ?_)
      · have fh13 := eqT h13
        exact s_X7_worth_43  hN hK (by omega) (by omega) (by omega) (by omega) (by omega) (by omega)  (by first | omega | decide) (by first | omega | decide)
      · have fh13 := eqF h13
        refine sIf (fun h14 => ?_) (fun h14 => ?_)
        · have r15 := rgI p1
          have fh14 := eqT h14
          exact s_X7_worth_47  hN hK (by omega) (by omega) (by omega) (by omega) (by omega) (by omega) 
        · have r16 := rgI p1
          have fh14 := eqF h14
          refine sIf (fun h17 => ?_) (fun h17 => ?_)
          · have fh17 := eqT h17
            exact s_X7_worth_47  hN hK (by omega) (by omega) (by omega) (by omega) (by omega) (by omega) 
          · have fh17 := eqF h17
            exact s_X7_worth_43  hN hK (by omega) (by omega) (by omega) (by omega) (by omega) (by omega)  (by first | omega | decide) (by first | omega | decide)
    · have fh12 := eqF h12
      exact s_X7_worth_47  hN hK (by omega) (by omega) (by omega) (by omega) (by omega) (by omega) 
set_option maxHeartbeats 2000000 in
theorem s_X7_kept {N K : Nat} {th : Int32} {f : Nat → Int32} {p0 : Int32} {p1 : Int32} {p2 : Int32} {p3 : Int32} (hN : NBig N) (hK : 100 ≤ K) (hp0 : 0 ≤ th.toInt) (hp1 : th.toInt ≤ 2) (hp2 : 0 ≤ p0.toInt) (hp3 : p0.toInt ≤ 2) (hp4 : 0 ≤ p1.toInt) (hp5 : p1.toInt ≤ 5) (hp6 : 0 ≤ p2.toInt) (hp7 : p2.toInt ≤ 20) (hp8 : 0 ≤ p3.toInt) (hp9 : p3.toInt ≤ 20) : Sf (fX7_kept N K th f p0 p1 p2 p3) (fun (z : Int32) => True) := by
  unfold fX7_kept
  have ql0 : (0 : Int32).toInt = 0 := by decide
  have r1 := rgI p0
  refine sIfF (noob (by omega) (by omega)) ?_
  have r2 := rgI p1
  have r3 := rgI p2
  have r4 := rgI p3
  refine sBind (s_X7_code hN hK (by first | omega | decide) (by first | omega | decide) (by first | omega | decide)) (fun x10 b5 => ?_)
  have r6 := rgI x10
  refine sIfF (noob (by omega) (by omega)) ?_
  have r7 := rgI (f x10.toNatClampNeg)
  exact sRet trivial
set_option maxHeartbeats 2000000 in
theorem s_X7_keep_64 {N K : Nat} {th : Int32} {f : Nat → Int32} {p0 : Int32} {p1 : Int32} {p2 : Int32} {p3 : Int32} (hN : NBig N) (hK : 100 ≤ K) (hp0 : 0 ≤ th.toInt) (hp1 : th.toInt ≤ 2) (hp2 : 0 ≤ p0.toInt) (hp3 : p0.toInt ≤ 2) (hp4 : 0 ≤ p1.toInt) (hp5 : p1.toInt ≤ 5) (hp6 : 0 ≤ p2.toInt) (hp7 : p2.toInt ≤ 20) (hp8 : 0 ≤ p3.toInt) (hp9 : p3.toInt ≤ 20) {k_19 : Int32 → Int32 → (Nat → Int32) → Option ((Nat → Int32))} {m_19 : Nat} (hk_19 : ∀ (l5 : Int32) (l6 : Int32) (f_ : (Nat → Int32)), (2 - l6.toInt).toNat < m_19 → 0 ≤ l6.toInt → l6.toInt ≤ 2 → Sf (k_19 l5 l6 f_) (fun (z : (Nat → Int32)) => True)) : ∀ (l5 : Int32) (l6 : Int32) (f_ : Nat → Int32), 0 ≤ l6.toInt → l6.toInt ≤ 1 → (2 - l6.toInt).toNat ≤ m_19 → Sf (fX7_keep_64 N K th f p0 p1 p2 p3 k_19 l5 l6 f_) (fun (z : (Nat → Int32)) => True) := by
  intro l5 l6 f_ hq0 hq1 hq2
  unfold fX7_keep_64
  have ql0 : (0 : Int32).toInt = 0 := by decide
  have ql1 : (1 : Int32).toInt = 1 := by decide
  have r1 := rgI l5
  have r3 := rgI l6
  have t2 := addI (a := l6) (b := (1 : Int32)) (by omega) (by omega)
  exact hk_19 _ _ _ (by omega) (by first | omega | decide) (by first | omega | decide)
set_option maxHeartbeats 2000000 in
theorem s_X7_keep_19 {N K : Nat} {th : Int32} {f : Nat → Int32} {p0 : Int32} {p1 : Int32} {p2 : Int32} {p3 : Int32} (hN : NBig N) (hK : 100 ≤ K) (hp0 : 0 ≤ th.toInt) (hp1 : th.toInt ≤ 2) (hp2 : 0 ≤ p0.toInt) (hp3 : p0.toInt ≤ 2) (hp4 : 0 ≤ p1.toInt) (hp5 : p1.toInt ≤ 5) (hp6 : 0 ≤ p2.toInt) (hp7 : p2.toInt ≤ 20) (hp8 : 0 ≤ p3.toInt) (hp9 : p3.toInt ≤ 20) : ∀ (fu : Nat) (l5 : Int32) (l6 : Int32) (f_ : (Nat → Int32)), (2 - l6.toInt).toNat < fu → 0 ≤ l6.toInt → l6.toInt ≤ 2 → Sf (fX7_keep_19 N K th f p0 p1 p2 p3  fu l5 l6 f_) (fun (z : (Nat → Int32)) => True) := by
  intro fu
  induction fu with
  | zero => intro l5 l6 f_ h0 hq0 hq1; omega
  | succ fu ih =>
    intro l5 l6 f_ h0 hq0 hq1
    unfold fX7_keep_19
    have ql0 : (0 : Int32).toInt = 0 := by decide
    have ql2 : (2 : Int32).toInt = 2 := by decide
    refine sIf (fun h1 => ?_) (fun h1 => ?_)
    · have r2 := rgI l6
      have fh1 := leT h1
      have r3 := rgI p0
      refine sIfF (noob (by omega) (by omega)) ?_
      have r4 := rgI p1
      have r5 := rgI p2
      have r6 := rgI p3
      refine sBind (s_X7_code hN hK (by first | omega | decide) (by first | omega | decide) (by first | omega | decide)) (fun x80 b7 => ?_)
      have r8 := rgI x80
      refine sIfF (noob (by omega) (by omega)) ?_
      exact sRet trivial
    · have r9 := rgI l6
      have fh1 := leF h1
      have r10 := rgI p1
      have r11 := rgI p3
      refine sBind (s_X7_hasLeg hN hK (by first | omega | decide) (by first | omega | decide) (by first | omega | decide) (by first | omega | decide) (by first | omega | decide) (by first | omega | decide)) (fun x30 b12 => ?_)
      obtain ⟨b12_0, b12_1, -⟩ := b12
      replace b12_0 : 0 ≤ x30.toInt := b12_0
      replace b12_1 : x30.toInt ≤ 1 := b12_1
      refine sIf (fun h13 => ?_) (fun h13 => ?_)
      · have r14 := rgI x30
        have fh13 := eqT h13
        have r15 := rgI l5
        exact s_X7_keep_64 (hk_19 := ih) hN hK (by omega) (by omega) (by omega) (by omega) (by omega) (by omega) (by omega) (by omega) (by omega) (by omega) _ _ _ (by first | omega | decide) (by first | omega | decide) (by omega)
      · have r16 := rgI x30
        have fh13 := eqF h13
        have r17 := rgI p2
        refine sBind (s_X7_legNumber hN hK (by first | omega | decide) (by first | omega | decide) (by first | omega | decide) (by first | omega | decide) (by first | omega | decide) (by first | omega | decide) (by first | omega | decide) (by first | omega | decide)) (fun x47 b18 => ?_)
        obtain ⟨b18_0, b18_1, -⟩ := b18
        replace b18_0 : -20 ≤ x47.toInt := b18_0
        replace b18_1 : x47.toInt ≤ 20 := b18_1
        refine sBind (s_X7_legMeasure hN hK (by first | omega | decide) (by first | omega | decide) (by first | omega | decide) (by first | omega | decide) (by first | omega | decide) (by first | omega | decide)) (fun x55 b19 => ?_)
        obtain ⟨b19_0, b19_1, -⟩ := b19
        replace b19_0 : -1 ≤ x55.toInt := b19_0
        replace b19_1 : x55.toInt ≤ 20 := b19_1
        have r20 := rgI th
        have r21 := rgI p0
        have r22 := rgI x47
        have r23 := rgI x55
        refine sBind (s_X7_worth hN hK (by first | omega | decide) (by first | omega | decide) (by first | omega | decide) (by first | omega | decide) (by first | omega | decide) (by first | omega | decide)) (fun x58 b24 => ?_)
        have r25 := rgI (l5 + x58)
        exact s_X7_keep_64 (hk_19 := ih) hN hK (by omega) (by omega) (by omega) (by omega) (by omega) (by omega) (by omega) (by omega) (by omega) (by omega) _ _ _ (by first | omega | decide) (by first | omega | decide) (by omega)
set_option maxHeartbeats 2000000 in
theorem s_X7_keep {N K : Nat} {th : Int32} {f : Nat → Int32} {p0 : Int32} {p1 : Int32} {p2 : Int32} {p3 : Int32} (hN : NBig N) (hK : 100 ≤ K) (hp0 : 0 ≤ th.toInt) (hp1 : th.toInt ≤ 2) (hp2 : 0 ≤ p0.toInt) (hp3 : p0.toInt ≤ 2) (hp4 : 0 ≤ p1.toInt) (hp5 : p1.toInt ≤ 5) (hp6 : 0 ≤ p2.toInt) (hp7 : p2.toInt ≤ 20) (hp8 : 0 ≤ p3.toInt) (hp9 : p3.toInt ≤ 20) : Sf (fX7_keep N K th f p0 p1 p2 p3) (fun (z : (Nat → Int32)) => True) := by
  unfold fX7_keep
  have hN9 := hN.u
  have ql0 : (0 : Int32).toInt = 0 := by decide
  have r1 := rgI th
  have r2 := rgI p0
  have r3 := rgI p1
  have r4 := rgI p2
  have r5 := rgI p3
  refine sBind (s_X7_worth hN hK (by first | omega | decide) (by first | omega | decide) (by first | omega | decide) (by first | omega | decide) (by first | omega | decide) (by first | omega | decide)) (fun x6 b6 => ?_)
  refine sIf (fun h7 => ?_) (fun h7 => ?_)
  · have r8 := rgI x6
    have fh7 := ltT h7
    exact s_X7_keep_19  hN hK (by omega) (by omega) (by omega) (by omega) (by omega) (by omega) (by omega) (by omega) (by omega) (by omega) _ _ _ _ (by omega) (by first | omega | decide) (by first | omega | decide)
  · have r9 := rgI x6
    have fh7 := ltF h7
    exact sRet trivial
set_option maxHeartbeats 2000000 in
theorem s_X7_row_153 {N K : Nat} {p0 : Int32} {p1 : Int32} (hN : NBig N) (hK : 100 ≤ K) (hp0 : 0 ≤ p0.toInt) (hp1 : p0.toInt ≤ 7) (hp2 : 0 ≤ p1.toInt) (hp3 : p1.toInt ≤ 20) {k_74 : Int32 → Int32 → Int32 → Int32 → (Nat → Int32) → Option ((Nat → Int32))} {m_74 : Nat} (hk_74 : ∀ (l3 : Int32) (l4 : Int32) (l5 : Int32) (l6 : Int32) (e_v0 : (Nat → Int32)), (21 - l6.toInt).toNat < m_74 → -1 ≤ l3.toInt → l3.toInt ≤ 39 → 0 ≤ l4.toInt → l4.toInt ≤ 1 → 0 ≤ l5.toInt → l5.toInt ≤ 1 → 1 ≤ l6.toInt → l6.toInt ≤ 21 → Sf (k_74 l3 l4 l5 l6 e_v0) (fun (z : (Nat → Int32)) => True)) : ∀ (l3 : Int32) (l4 : Int32) (l5 : Int32) (l6 : Int32) (e_v0 : Nat → Int32), 1 ≤ l3.toInt → l3.toInt ≤ 39 → 0 ≤ l4.toInt → l4.toInt ≤ 1 → 0 ≤ l5.toInt → l5.toInt ≤ 1 → 1 ≤ l6.toInt → l6.toInt ≤ 20 → (21 - l6.toInt).toNat ≤ m_74 → Sf (fX7_row_153 N K p0 p1 k_74 l3 l4 l5 l6 e_v0) (fun (z : (Nat → Int32)) => True) := by
  intro l3 l4 l5 l6 e_v0 hq0 hq1 hq2 hq3 hq4 hq5 hq6 hq7 hq8
  unfold fX7_row_153
  have ql0 : (0 : Int32).toInt = 0 := by decide
  have ql1 : (1 : Int32).toInt = 1 := by decide
  have r1 := rgI l3
  have r2 := rgI l4
  have r3 := rgI l5
  have r5 := rgI l6
  have t4 := addI (a := l6) (b := (1 : Int32)) (by omega) (by omega)
  exact hk_74 _ _ _ _ _ (by omega) (by first | omega | decide) (by first | omega | decide) (by first | omega | decide) (by first | omega | decide) (by first | omega | decide) (by first | omega | decide) (by first | omega | decide) (by first | omega | decide)
set_option maxHeartbeats 2000000 in
theorem s_X7_row_131 {N K : Nat} {p0 : Int32} {p1 : Int32} (hN : NBig N) (hK : 100 ≤ K) (hp0 : 0 ≤ p0.toInt) (hp1 : p0.toInt ≤ 7) (hp2 : 0 ≤ p1.toInt) (hp3 : p1.toInt ≤ 20) {k_74 : Int32 → Int32 → Int32 → Int32 → (Nat → Int32) → Option ((Nat → Int32))} {m_74 : Nat} (hk_74 : ∀ (l3 : Int32) (l4 : Int32) (l5 : Int32) (l6 : Int32) (e_v0 : (Nat → Int32)), (21 - l6.toInt).toNat < m_74 → -1 ≤ l3.toInt → l3.toInt ≤ 39 → 0 ≤ l4.toInt → l4.toInt ≤ 1 → 0 ≤ l5.toInt → l5.toInt ≤ 1 → 1 ≤ l6.toInt → l6.toInt ≤ 21 → Sf (k_74 l3 l4 l5 l6 e_v0) (fun (z : (Nat → Int32)) => True)) {k_106 : Int32 → Int32 → Int32 → Int32 → Int32 → (Nat → Int32) → Option ((Nat → Int32))} {m_106 : Nat} (hk_106 : ∀ (l3 : Int32) (l4 : Int32) (l5 : Int32) (l6 : Int32) (l7 : Int32) (e_v0 : (Nat → Int32)), (21 - l7.toInt).toNat < m_106 → 1 ≤ l3.toInt → l3.toInt ≤ 39 → 0 ≤ l4.toInt → l4.toInt ≤ 1 → 0 ≤ l5.toInt → l5.toInt ≤ 1 → 1 ≤ l6.toInt → l6.toInt ≤ 20 → 1 ≤ l7.toInt → l7.toInt ≤ 21 → (21 - l6.toInt).toNat ≤ m_74 → Sf (k_106 l3 l4 l5 l6 l7 e_v0) (fun (z : (Nat → Int32)) => True)) : ∀ (l3 : Int32) (l4 : Int32) (l5 : Int32) (l6 : Int32) (l7 : Int32) (s0 : Int32) (e_v0 : Nat → Int32), 1 ≤ l3.toInt → l3.toInt ≤ 39 → 0 ≤ l4.toInt → l4.toInt ≤ 1 → 0 ≤ l5.toInt → l5.toInt ≤ 1 → 1 ≤ l6.toInt → l6.toInt ≤ 20 → 1 ≤ l7.toInt → l7.toInt ≤ 20 → 1 ≤ s0.toInt → s0.toInt ≤ 39 → (21 - l6.toInt).toNat ≤ m_74 → (21 - l7.toInt).toNat ≤ m_106 → Sf (fX7_row_131 N K p0 p1 k_74 k_106 l3 l4 l5 l6 l7 s0 e_v0) (fun (z : (Nat → Int32)) => True) := by
  intro l3 l4 l5 l6 l7 s0 e_v0 hq0 hq1 hq2 hq3 hq4 hq5 hq6 hq7 hq8 hq9 hq10 hq11 hq12 hq13
  unfold fX7_row_131
  have ql0 : (0 : Int32).toInt = 0 := by decide
  have ql1 : (1 : Int32).toInt = 1 := by decide
  have r1 := rgI s0
  refine sIfF (noob (by omega) (by omega)) ?_
  have r3 := rgI l6
  have t2 := subI (a := s0) (b := l6) (by omega) (by omega)
  refine sIfF (noob (by omega) (by omega)) ?_
  refine sIfF (noob (by omega) (by omega)) ?_
  have r4 := rgI l3
  have r5 := rgI l4
  have r6 := rgI l5
  have r8 := rgI l7
  have t7 := addI (a := l7) (b := (1 : Int32)) (by omega) (by omega)
  exact hk_106 _ _ _ _ _ _ (by omega) (by first | omega | decide) (by first | omega | decide) (by first | omega | decide) (by first | omega | decide) (by first | omega | decide) (by first | omega | decide) (by first | omega | decide) (by first | omega | decide) (by first | omega | decide) (by first | omega | decide) (by omega)
set_option maxHeartbeats 2000000 in
theorem s_X7_row_106 {N K : Nat} {p0 : Int32} {p1 : Int32} (hN : NBig N) (hK : 100 ≤ K) (hp0 : 0 ≤ p0.toInt) (hp1 : p0.toInt ≤ 7) (hp2 : 0 ≤ p1.toInt) (hp3 : p1.toInt ≤ 20) {k_74 : Int32 → Int32 → Int32 → Int32 → (Nat → Int32) → Option ((Nat → Int32))} {m_74 : Nat} (hk_74 : ∀ (l3 : Int32) (l4 : Int32) (l5 : Int32) (l6 : Int32) (e_v0 : (Nat → Int32)), (21 - l6.toInt).toNat < m_74 → -1 ≤ l3.toInt → l3.toInt ≤ 39 → 0 ≤ l4.toInt → l4.toInt ≤ 1 → 0 ≤ l5.toInt → l5.toInt ≤ 1 → 1 ≤ l6.toInt → l6.toInt ≤ 21 → Sf (k_74 l3 l4 l5 l6 e_v0) (fun (z : (Nat → Int32)) => True)) : ∀ (fu : Nat) (l3 : Int32) (l4 : Int32) (l5 : Int32) (l6 : Int32) (l7 : Int32) (e_v0 : (Nat → Int32)), (21 - l7.toInt).toNat < fu → 1 ≤ l3.toInt → l3.toInt ≤ 39 → 0 ≤ l4.toInt → l4.toInt ≤ 1 → 0 ≤ l5.toInt → l5.toInt ≤ 1 → 1 ≤ l6.toInt → l6.toInt ≤ 20 → 1 ≤ l7.toInt → l7.toInt ≤ 21 → (21 - l6.toInt).toNat ≤ m_74 → Sf (fX7_row_106 N K p0 p1 k_74 fu l3 l4 l5 l6 l7 e_v0) (fun (z : (Nat → Int32)) => True) := by
  intro fu
  induction fu with
  | zero => intro l3 l4 l5 l6 l7 e_v0 h0 hq0 hq1 hq2 hq3 hq4 hq5 hq6 hq7 hq8 hq9 hq10; omega
  | succ fu ih =>
    intro l3 l4 l5 l6 l7 e_v0 h0 hq0 hq1 hq2 hq3 hq4 hq5 hq6 hq7 hq8 hq9 hq10
    unfold fX7_row_106
    have ql0 : (0 : Int32).toInt = 0 := by decide
    have ql20 : (20 : Int32).toInt = 20 := by decide
    refine sIf (fun h1 => ?_) (fun h1 => ?_)
    · have r2 := rgI l7
      have fh1 := ltT h1
      have r3 := rgI l3
      have r4 := rgI l4
      have r5 := rgI l5
      have r6 := rgI l6
      exact s_X7_row_153 (hk_74 := hk_74) hN hK (by omega) (by omega) (by omega) (by omega) _ _ _ _ _ (by first | omega | decide) (by first | omega | decide) (by first | omega | decide) (by first | omega | decide) (by first | omega | decide) (by first | omega | decide) (by first | omega | decide) (by first | omega | decide) (by omega)
    · have r7 := rgI l7
      have fh1 := ltF h1
      refine sIf (fun h8 => ?_) (fun h8 => ?_)
      · have r9 := rgI l5
        have fh8 := eqT h8
        have r10 := rgI l3
        have r11 := rgI l4
        have r12 := rgI l6
        exact s_X7_row_131 (hk_74 := hk_74) (hk_106 := ih) hN hK (by omega) (by omega) (by omega) (by omega) _ _ _ _ _ _ _ (by first | omega | decide) (by first | omega | decide) (by first | omega | decide) (by first | omega | decide) (by first | omega | decide) (by first | omega | decide) (by first | omega | decide) (by first | omega | decide) (by first | omega | decide) (by first | omega | decide) (by first | omega | decide) (by first | omega | decide) (by omega) (by omega)
      · have r13 := rgI l5
        have fh8 := eqF h8
        have r14 := rgI l3
        have r15 := rgI l4
        have r16 := rgI l6
        have t18 := addI (a := (20 : Int32)) (b := l6) (by omega) (by omega)
        have t17 := subI (a := ((20 : Int32) + l6)) (b := l7) (by omega) (by omega)
        exact s_X7_row_131 (hk_74 := hk_74) (hk_106 := ih) hN hK (by omega) (by omega) (by omega) (by omega) _ _ _ _ _ _ _ (by first | omega | decide) (by first | omega | decide) (by first | omega | decide) (by first | omega | decide) (by first | omega | decide) (by first | omega | decide) (by first | omega | decide) (by first | omega | decide) (by first | omega | decide) (by first | omega | decide) (by first | omega | decide) (by first | omega | decide) (by omega) (by omega)
set_option maxHeartbeats 2000000 in
theorem s_X7_row_102 {N K : Nat} {p0 : Int32} {p1 : Int32} (hN : NBig N) (hK : 100 ≤ K) (hp0 : 0 ≤ p0.toInt) (hp1 : p0.toInt ≤ 7) (hp2 : 0 ≤ p1.toInt) (hp3 : p1.toInt ≤ 20) {k_74 : Int32 → Int32 → Int32 → Int32 → (Nat → Int32) → Option ((Nat → Int32))} {m_74 : Nat} (hk_74 : ∀ (l3 : Int32) (l4 : Int32) (l5 : Int32) (l6 : Int32) (e_v0 : (Nat → Int32)), (21 - l6.toInt).toNat < m_74 → -1 ≤ l3.toInt → l3.toInt ≤ 39 → 0 ≤ l4.toInt → l4.toInt ≤ 1 → 0 ≤ l5.toInt → l5.toInt ≤ 1 → 1 ≤ l6.toInt → l6.toInt ≤ 21 → Sf (k_74 l3 l4 l5 l6 e_v0) (fun (z : (Nat → Int32)) => True)) : ∀ (l3 : Int32) (l4 : Int32) (l5 : Int32) (l6 : Int32) (e_v0 : Nat → Int32), 1 ≤ l3.toInt → l3.toInt ≤ 39 → 0 ≤ l4.toInt → l4.toInt ≤ 1 → 0 ≤ l5.toInt → l5.toInt ≤ 1 → 1 ≤ l6.toInt → l6.toInt ≤ 20 → (21 - l6.toInt).toNat ≤ m_74 → Sf (fX7_row_102 N K p0 p1 k_74 l3 l4 l5 l6 e_v0) (fun (z : (Nat → Int32)) => True) := by
  intro l3 l4 l5 l6 e_v0 hq0 hq1 hq2 hq3 hq4 hq5 hq6 hq7 hq8
  unfold fX7_row_102
  have hN9 := hN.u
  have ql0 : (0 : Int32).toInt = 0 := by decide
  have r1 := rgI l3
  have r2 := rgI l4
  have r3 := rgI l5
  have r4 := rgI l6
  exact s_X7_row_106 (hk_74 := hk_74) hN hK (by omega) (by omega) (by omega) (by omega) _ _ _ _ _ _ _ (by omega) (by first | omega | decide) (by first | omega | decide) (by first | omega | decide) (by first | omega | decide) (by first | omega | decide) (by first | omega | decide) (by first | omega | decide) (by first | omega | decide) (by first | omega | decide) (by first | omega | decide) (by omega)
set_option maxHeartbeats 2000000 in
theorem s_X7_row_74 {N K : Nat} {p0 : Int32} {p1 : Int32} (hN : NBig N) (hK : 100 ≤ K) (hp0 : 0 ≤ p0.toInt) (hp1 : p0.toInt ≤ 7) (hp2 : 0 ≤ p1.toInt) (hp3 : p1.toInt ≤ 20) : ∀ (fu : Nat) (l3 : Int32) (l4 : Int32) (l5 : Int32) (l6 : Int32) (e_v0 : (Nat → Int32)), (21 - l6.toInt).toNat < fu → -1 ≤ l3.toInt → l3.toInt ≤ 39 → 0 ≤ l4.toInt → l4.toInt ≤ 1 → 0 ≤ l5.toInt → l5.toInt ≤ 1 → 1 ≤ l6.toInt → l6.toInt ≤ 21 → Sf (fX7_row_74 N K p0 p1  fu l3 l4 l5 l6 e_v0) (fun (z : (Nat → Int32)) => True) := by
  intro fu
  induction fu with
  | zero => intro l3 l4 l5 l6 e_v0 h0 hq0 hq1 hq2 hq3 hq4 hq5 hq6 hq7; omega
  | succ fu ih =>
    intro l3 l4 l5 l6 e_v0 h0 hq0 hq1 hq2 hq3 hq4 hq5 hq6 hq7
    unfold fX7_row_74
    have ql0 : (0 : Int32).toInt = 0 := by decide
    have ql2 : (2 : Int32).toInt = 2 := by decide
    have ql20 : (20 : Int32).toInt = 20 := by decide
    refine sIf (fun h1 => ?_) (fun h1 => ?_)
    · have r2 := rgI l3
      have r3 := rgI l6
      have fh1 := ltT h1
      exact sRet trivial
    · have r4 := rgI l3
      have r5 := rgI l6
      have fh1 := ltF h1
      refine sIf (fun h6 => ?_) (fun h6 => ?_)
      · have fh6 := ltT h6
        exact sRet trivial
      · have fh6 := ltF h6
        refine sIf (fun h7 => ?_) (fun h7 => ?_)
        · have r8 := rgI l4
          have fh7 := eqT h7
          have r9 := rgI l5
          exact s_X7_row_102 (hk_74 := ih) hN hK (by omega) (by omega) (by omega) (by omega) _ _ _ _ _ (by first | omega | decide) (by first | omega | decide) (by first | omega | decide) (by first | omega | decide) (by first | omega | decide) (by first | omega | decide) (by first | omega | decide) (by first | omega | decide) (by omega)
        · have r10 := rgI l4
          have fh7 := eqF h7
          refine sIf (fun h11 => ?_) (fun h11 => ?_)
          · have t12 := modL (a := l6) (b := (2 : Int32)) ql2 (by omega)
            have fh11 := eqT h11
            have r13 := rgI l5
            exact s_X7_row_153 (hk_74 := ih) hN hK (by omega) (by omega) (by omega) (by omega) _ _ _ _ _ (by first | omega | decide) (by first | omega | decide) (by first | omega | decide) (by first | omega | decide) (by first | omega | decide) (by first | omega | decide) (by first | omega | decide) (by first | omega | decide) (by omega)
          · have t14 := modL (a := l6) (b := (2 : Int32)) ql2 (by omega)
            have fh11 := eqF h11
            have r15 := rgI l5
            exact s_X7_row_102 (hk_74 := ih) hN hK (by omega) (by omega) (by omega) (by omega) _ _ _ _ _ (by first | omega | decide) (by first | omega | decide) (by first | omega | decide) (by first | omega | decide) (by first | omega | decide) (by first | omega | decide) (by first | omega | decide) (by first | omega | decide) (by omega)
set_option maxHeartbeats 2000000 in
theorem s_X7_row_69 {N K : Nat} {p0 : Int32} {p1 : Int32} (hN : NBig N) (hK : 100 ≤ K) (hp0 : 0 ≤ p0.toInt) (hp1 : p0.toInt ≤ 7) (hp2 : 0 ≤ p1.toInt) (hp3 : p1.toInt ≤ 20) : ∀ (l3 : Int32) (l4 : Int32) (s0 : Int32) (e_v0 : Nat → Int32), -1 ≤ l3.toInt → l3.toInt ≤ 39 → 0 ≤ l4.toInt → l4.toInt ≤ 1 → 0 ≤ s0.toInt → s0.toInt ≤ 1 → (s0.toInt = 0 → 0 ≤ p0.toInt ∧ p0.toInt ≤ 6 ∧ 0 ≤ p1.toInt ∧ p1.toInt ≤ 20) → Sf (fX7_row_69 N K p0 p1  l3 l4 s0 e_v0) (fun (z : (Nat → Int32)) => True) := by
  intro l3 l4 s0 e_v0 hq0 hq1 hq2 hq3 hq4 hq5 hq6
  unfold fX7_row_69
  have hN9 := hN.u
  have ql0 : (0 : Int32).toInt = 0 := by decide
  have ql1 : (1 : Int32).toInt = 1 := by decide
  have r1 := rgI l3
  have r2 := rgI l4
  have r3 := rgI s0
  exact s_X7_row_74  hN hK (by omega) (by omega) (by omega) (by omega) _ _ _ _ _ _ (by omega) (by first | omega | decide) (by first | omega | decide) (by first | omega | decide) (by first | omega | decide) (by first | omega | decide) (by first | omega | decide) (by first | omega | decide) (by first | omega | decide)
