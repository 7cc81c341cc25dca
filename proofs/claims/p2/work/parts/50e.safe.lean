set_option maxHeartbeats 2000000 in
theorem s_X5_forget {N K : Nat} {sz : Int32} {f : Nat → Int32} {c0 : Int32} {c1 : Int32} {c2 : Int32} {c3 : Int32} {c4 : Int32} {c5 : Int32} {p0 : Int32} {p1 : Int32} {p2 : Int32} {p3 : Int32} (hN : NBig N) (hK : 100 ≤ K)  : Sf (fX5_forget N K sz f c0 c1 c2 c3 c4 c5 p0 p1 p2 p3) (xP true true (fun (z : Int32 × Int32 × (Nat → Int32) × Int32 × Int32) => True)) := by
  unfold fX5_forget
  have ql0 : (0 : Int32).toInt = 0 := by decide
  have r1 := rgI p0
  refine sXb (s_X5_memoryAt hN hK) (by decide) (by decide) (fun x2 b2 => ?_)
  obtain ⟨b2_0, -⟩ := b2
  replace b2_0 : (0 ≤ p0.toInt ∧ p0.toInt ≤ 2) := b2_0
  have r3 := rgI p1
  have r4 := rgI p2
  have r5 := rgI p3
  refine sXb (s_X5_checkCase hN hK) (by decide) (by decide) (fun x11 b6 => ?_)
  obtain ⟨b6_0, b6_1, b6_2, -⟩ := b6
  replace b6_0 : (0 ≤ p1.toInt ∧ p1.toInt ≤ 5) := b6_0
  replace b6_1 : (0 ≤ p2.toInt ∧ p2.toInt ≤ 20) := b6_1
  replace b6_2 : (0 ≤ p3.toInt ∧ p3.toInt ≤ 20) := b6_2
  have r7 := rgI sz
  refine sBind (s_X2_keeps hN hK (by first | omega | decide) (by first | omega | decide) (by first | omega | decide) (by first | omega | decide) (by first | omega | decide) (by first | omega | decide)) (fun x20 b8 => ?_)
  obtain ⟨b8_0, b8_1, -⟩ := b8
  replace b8_0 : 0 ≤ x20.toInt := b8_0
  replace b8_1 : x20.toInt ≤ 1 := b8_1
  refine sIf (fun h9 => ?_) (fun h9 => ?_)
  · have r10 := rgI x20
    have fh9 := eqT h9
    have r11 := rgI c0
    have r12 := rgI c1
    have r13 := rgI c2
    have r14 := rgI c3
    have r15 := rgI c4
    have r16 := rgI c5
    refine sBind (s_X5_undone hN hK) (fun x27 b17 => ?_)
    obtain ⟨b17_0, b17_1, -⟩ := b17
    replace b17_0 : -9 ≤ x27.1.toInt := b17_0
    replace b17_1 : x27.1.toInt ≤ -9 := b17_1
    have r18 := rgI x27.1
    have r19 := rgI x27.2
    exact sXl trivial
  · have r20 := rgI x20
    have fh9 := eqF h9
    refine sBind (s_X2_keptWorth hN hK (by first | omega | decide) (by first | omega | decide) (by first | omega | decide) (by first | omega | decide) (by first | omega | decide) (by first | omega | decide)) (fun x37 b21 => ?_)
    refine sBind (s_X2_drop hN hK (by first | omega | decide) (by first | omega | decide) (by first | omega | decide) (by first | omega | decide) (by first | omega | decide) (by first | omega | decide)) (fun x48 b22 => ?_)
    have r23 := rgI c0
    have r24 := rgI c1
    have r25 := rgI c2
    have r26 := rgI c3
    have r27 := rgI c4
    have r28 := rgI c5
    have r29 := rgI x37
    refine sBind (s_X5_acted hN hK) (fun x54 b30 => ?_)
    have r31 := rgI x54.1
    have r32 := rgI x48.1
    have r33 := rgI x54.2
    exact sXl trivial
set_option maxHeartbeats 2000000 in
theorem s_X5_forgetIf {N K : Nat} {sz : Int32} {f : Nat → Int32} {c0 : Int32} {c1 : Int32} {c2 : Int32} {c3 : Int32} {c4 : Int32} {c5 : Int32} {p0 : Int32} {p1 : Int32} {p2 : Int32} {p3 : Int32} {p4 : Int32} (hN : NBig N) (hK : 100 ≤ K)  : Sf (fX5_forgetIf N K sz f c0 c1 c2 c3 c4 c5 p0 p1 p2 p3 p4) (xP true true (fun (z : Int32 × Int32 × (Nat → Int32) × Int32) => True)) := by
  unfold fX5_forgetIf
  have ql0 : (0 : Int32).toInt = 0 := by decide
  have ql1 : (1 : Int32).toInt = 1 := by decide
  have r1 := rgI p0
  refine sXb (s_X5_memoryAt hN hK) (by decide) (by decide) (fun x2 b2 => ?_)
  obtain ⟨b2_0, -⟩ := b2
  replace b2_0 : (0 ≤ p0.toInt ∧ p0.toInt ≤ 2) := b2_0
  have r3 := rgI p1
  have r4 := rgI p2
  have r5 := rgI p3
  refine sXb (s_X5_checkCase hN hK) (by decide) (by decide) (fun x11 b6 => ?_)
  obtain ⟨b6_0, b6_1, b6_2, -⟩ := b6
  replace b6_0 : (0 ≤ p1.toInt ∧ p1.toInt ≤ 5) := b6_0
  replace b6_1 : (0 ≤ p2.toInt ∧ p2.toInt ≤ 20) := b6_1
  replace b6_2 : (0 ≤ p3.toInt ∧ p3.toInt ≤ 20) := b6_2
  have r7 := rgI sz
  have r8 := rgI p4
  refine sBind (s_X2_keepsWith hN hK (by first | omega | decide) (by first | omega | decide) (by first | omega | decide) (by first | omega | decide) (by first | omega | decide) (by first | omega | decide)) (fun x22 b9 => ?_)
  obtain ⟨b9_0, b9_1, -⟩ := b9
  replace b9_0 : 0 ≤ x22.toInt := b9_0
  replace b9_1 : x22.toInt ≤ 1 := b9_1
  refine sIf (fun h10 => ?_) (fun h10 => ?_)
  · have r11 := rgI x22
    have fh10 := eqT h10
    have r12 := rgI c0
    have r13 := rgI c1
    have r14 := rgI c2
    have r15 := rgI c3
    have r16 := rgI c4
    have r17 := rgI c5
    refine sBind (s_X5_acted hN hK) (fun x30 b18 => ?_)
    have r19 := rgI x30.1
    have r20 := rgI x30.2
    exact sXl trivial
  · have r21 := rgI x22
    have fh10 := eqF h10
    refine sBind (s_X2_drop hN hK (by first | omega | decide) (by first | omega | decide) (by first | omega | decide) (by first | omega | decide) (by first | omega | decide) (by first | omega | decide)) (fun x40 b22 => ?_)
    have r23 := rgI c0
    have r24 := rgI c1
    have r25 := rgI c2
    have r26 := rgI c3
    have r27 := rgI c4
    have r28 := rgI c5
    refine sBind (s_X5_acted hN hK) (fun x45 b29 => ?_)
    have r30 := rgI x45.1
    have r31 := rgI x40.1
    have r32 := rgI x45.2
    exact sXl trivial
set_option maxHeartbeats 2000000 in
theorem s_X5_forgetAll {N K : Nat} {sz : Int32} {f : Nat → Int32} {c0 : Int32} {c1 : Int32} {c2 : Int32} {c3 : Int32} {c4 : Int32} {c5 : Int32} {p0 : Int32} {p1 : Int32} {p2 : Int32} (hN : NBig N) (hK : 100 ≤ K)  : Sf (fX5_forgetAll N K sz f c0 c1 c2 c3 c4 c5 p0 p1 p2) (xP true true (fun (z : Int32 × Int32 × (Nat → Int32) × Int32) => True)) := by
  unfold fX5_forgetAll
  have ql0 : (0 : Int32).toInt = 0 := by decide
  have ql3 : (3 : Int32).toInt = 3 := by decide
  have r1 := rgI p0
  refine sXb (s_X5_memoryAt hN hK) (by decide) (by decide) (fun x2 b2 => ?_)
  obtain ⟨b2_0, -⟩ := b2
  replace b2_0 : (0 ≤ p0.toInt ∧ p0.toInt ≤ 2) := b2_0
  have r3 := rgI p1
  refine sXb (s_X5_checkRange hN hK (by first | omega | decide) (by first | omega | decide) (by first | omega | decide) (by first | omega | decide)) (by decide) (by decide) (fun x10 b4 => ?_)
  obtain ⟨b4_0, -⟩ := b4
  replace b4_0 : ((0 : Int32).toInt ≤ p1.toInt ∧ p1.toInt ≤ (3 : Int32).toInt) := b4_0
  have r5 := rgI sz
  have r6 := rgI p2
  refine sBind (s_X2_dropEach hN hK (by first | omega | decide) (by first | omega | decide)) (fun x18 b7 => ?_)
  have r8 := rgI c0
  have r9 := rgI c1
  have r10 := rgI c2
  have r11 := rgI c3
  have r12 := rgI c4
  have r13 := rgI c5
  have r14 := rgI x18.1
  refine sBind (s_X5_acted hN hK) (fun x21 b15 => ?_)
  have r16 := rgI x21.1
  have r17 := rgI x18.2.1
  have r18 := rgI x21.2
  exact sXl trivial
set_option maxHeartbeats 2000000 in
theorem s_X5_clear {N K : Nat} {sz : Int32} {f : Nat → Int32} {c0 : Int32} {c1 : Int32} {c2 : Int32} {c3 : Int32} {c4 : Int32} {c5 : Int32} {p0 : Int32} (hN : NBig N) (hK : 100 ≤ K)  : Sf (fX5_clear N K sz f c0 c1 c2 c3 c4 c5 p0) (xP true false (fun (z : Int32 × Int32 × (Nat → Int32) × Int32) => 0 ≤ z.2.1.toInt ∧ z.2.1.toInt ≤ 0 ∧ True)) := by
  unfold fX5_clear
  have ql0 : (0 : Int32).toInt = 0 := by decide
  have r1 := rgI p0
  refine sXb (s_X5_memoryAt hN hK) (by decide) (by decide) (fun x3 b2 => ?_)
  obtain ⟨b2_0, -⟩ := b2
  replace b2_0 : (0 ≤ p0.toInt ∧ p0.toInt ≤ 2) := b2_0
  have r3 := rgI sz
  refine sBind (s_X2_dropAll hN hK) (fun x6 b4 => ?_)
  obtain ⟨b4_0, b4_1, -⟩ := b4
  replace b4_0 : 0 ≤ x6.2.1.toInt := b4_0
  replace b4_1 : x6.2.1.toInt ≤ 0 := b4_1
  have r5 := rgI c0
  have r6 := rgI c1
  have r7 := rgI c2
  have r8 := rgI c3
  have r9 := rgI c4
  have r10 := rgI c5
  have r11 := rgI x6.1
  refine sBind (s_X5_acted hN hK) (fun x9 b12 => ?_)
  have r13 := rgI x9.1
  have r14 := rgI x6.2.1
  have r15 := rgI x9.2
  exact sXl ⟨(by show 0 ≤ x6.2.1.toInt; omega), (by show x6.2.1.toInt ≤ 0; omega), trivial⟩
set_option maxHeartbeats 2000000 in
theorem s_X5_copy {N K : Nat} {sz : Int32} {f : Nat → Int32} {tz : Int32} {f2 : Nat → Int32} {c0 : Int32} {c1 : Int32} {c2 : Int32} {c3 : Int32} {c4 : Int32} {c5 : Int32} {p0 : Int32} {p1 : Int32} (hN : NBig N) (hK : 100 ≤ K)  : Sf (fX5_copy N K sz f tz f2 c0 c1 c2 c3 c4 c5 p0 p1) (xP true false (fun (z : Int32 × Int32 × (Nat → Int32) × Int32) => True)) := by
  unfold fX5_copy
  have ql0 : (0 : Int32).toInt = 0 := by decide
  have r1 := rgI p0
  refine sXb (s_X5_memoryAt hN hK) (by decide) (by decide) (fun x2 b2 => ?_)
  obtain ⟨b2_0, -⟩ := b2
  replace b2_0 : (0 ≤ p0.toInt ∧ p0.toInt ≤ 2) := b2_0
  have r3 := rgI p1
  refine sXb (s_X5_memoryAt hN hK) (by decide) (by decide) (fun x8 b4 => ?_)
  obtain ⟨b4_0, -⟩ := b4
  replace b4_0 : (0 ≤ p1.toInt ∧ p1.toInt ≤ 2) := b4_0
  have r5 := rgI tz
  have r6 := rgI sz
  refine sBind (s_X2_become hN hK) (fun x16 b7 => ?_)
  have r8 := rgI x16.1
  refine sBind (s_X2_size hN hK) (fun x22 b9 => ?_)
  have r10 := rgI c0
  have r11 := rgI c1
  have r12 := rgI c2
  have r13 := rgI c3
  have r14 := rgI c4
  have r15 := rgI c5
  have r16 := rgI x22
  refine sBind (s_X5_acted hN hK) (fun x25 b17 => ?_)
  have r18 := rgI x25.1
  have r19 := rgI x25.2
  exact sXl trivial
set_option maxHeartbeats 2000000 in
theorem s_X5_copyOwn {N K : Nat} {sz : Int32} {f : Nat → Int32} {c0 : Int32} {c1 : Int32} {c2 : Int32} {c3 : Int32} {c4 : Int32} {c5 : Int32} {p0 : Int32} (hN : NBig N) (hK : 100 ≤ K)  : Sf (fX5_copyOwn N K sz f c0 c1 c2 c3 c4 c5 p0) (xP true false (fun (z : Int32 × Int32 × (Nat → Int32) × Int32) => True)) := by
  unfold fX5_copyOwn
  have ql0 : (0 : Int32).toInt = 0 := by decide
  have r1 := rgI p0
  refine sXb (s_X5_memoryAt hN hK) (by decide) (by decide) (fun x2 b2 => ?_)
  obtain ⟨b2_0, -⟩ := b2
  replace b2_0 : (0 ≤ p0.toInt ∧ p0.toInt ≤ 2) := b2_0
  refine sXb (s_X5_memoryAt hN hK) (by decide) (by decide) (fun x8 b3 => ?_)
  obtain ⟨b3_0, -⟩ := b3
  replace b3_0 : (0 ≤ p0.toInt ∧ p0.toInt ≤ 2) := b3_0
  have r4 := rgI sz
  refine sBind (s_X2_becomeOwn hN hK) (fun x16 b5 => ?_)
  have r6 := rgI x16.1
  refine sBind (s_X2_size hN hK) (fun x22 b7 => ?_)
  have r8 := rgI c0
  have r9 := rgI c1
  have r10 := rgI c2
  have r11 := rgI c3
  have r12 := rgI c4
  have r13 := rgI c5
  have r14 := rgI x22
  refine sBind (s_X5_acted hN hK) (fun x25 b15 => ?_)
  have r16 := rgI x25.1
  have r17 := rgI x25.2
  exact sXl trivial
set_option maxHeartbeats 2000000 in
theorem s_X5_pour {N K : Nat} {sz : Int32} {f : Nat → Int32} {tz : Int32} {f2 : Nat → Int32} {c0 : Int32} {c1 : Int32} {c2 : Int32} {c3 : Int32} {c4 : Int32} {c5 : Int32} {p0 : Int32} {p1 : Int32} (hN : NBig N) (hK : 100 ≤ K)  : Sf (fX5_pour N K sz f tz f2 c0 c1 c2 c3 c4 c5 p0 p1) (xP true false (fun (z : Int32 × Int32 × (Nat → Int32) × Int32 × Int32) => True)) := by
  unfold fX5_pour
  have ql0 : (0 : Int32).toInt = 0 := by decide
  have r1 := rgI p0
  refine sXb (s_X5_memoryAt hN hK) (by decide) (by decide) (fun x2 b2 => ?_)
  obtain ⟨b2_0, -⟩ := b2
  replace b2_0 : (0 ≤ p0.toInt ∧ p0.toInt ≤ 2) := b2_0
  have r3 := rgI p1
  refine sXb (s_X5_memoryAt hN hK) (by decide) (by decide) (fun x8 b4 => ?_)
  obtain ⟨b4_0, -⟩ := b4
  replace b4_0 : (0 ≤ p1.toInt ∧ p1.toInt ≤ 2) := b4_0
  refine sIf (fun h5 => ?_) (fun h5 => ?_)
  · have fh5 := eqT h5
    have r6 := rgI c0
    have r7 := rgI c1
    have r8 := rgI c2
    have r9 := rgI c3
    have r10 := rgI c4
    have r11 := rgI c5
    refine sBind (s_X5_undone hN hK) (fun x19 b12 => ?_)
    obtain ⟨b12_0, b12_1, -⟩ := b12
    replace b12_0 : -9 ≤ x19.1.toInt := b12_0
    replace b12_1 : x19.1.toInt ≤ -9 := b12_1
    have r13 := rgI x19.1
    have r14 := rgI tz
    have r15 := rgI x19.2
    exact sXl trivial
  · have fh5 := eqF h5
    have r16 := rgI tz
    have r17 := rgI sz
    refine sBind (s_X2_takeIn hN hK) (fun x27 b18 => ?_)
    have r19 := rgI c0
    have r20 := rgI c1
    have r21 := rgI c2
    have r22 := rgI c3
    have r23 := rgI c4
    have r24 := rgI c5
    have r25 := rgI x27.1
    refine sBind (s_X5_acted hN hK) (fun x30 b26 => ?_)
    have r27 := rgI x30.1
    have r28 := rgI x27.2.1
    have r29 := rgI x30.2
    exact sXl trivial
set_option maxHeartbeats 2000000 in
theorem s_X5_pourOwn {N K : Nat} {sz : Int32} {f : Nat → Int32} {c0 : Int32} {c1 : Int32} {c2 : Int32} {c3 : Int32} {c4 : Int32} {c5 : Int32} {p0 : Int32} (hN : NBig N) (hK : 100 ≤ K)  : Sf (fX5_pourOwn N K sz f c0 c1 c2 c3 c4 c5 p0) (xP true false (fun (z : Int32 × Int32) => -9 ≤ z.1.toInt ∧ z.1.toInt ≤ -9 ∧ True)) := by
  unfold fX5_pourOwn
  have ql0 : (0 : Int32).toInt = 0 := by decide
  have r1 := rgI p0
  refine sXb (s_X5_memoryAt hN hK) (by decide) (by decide) (fun x2 b2 => ?_)
  obtain ⟨b2_0, -⟩ := b2
  replace b2_0 : (0 ≤ p0.toInt ∧ p0.toInt ≤ 2) := b2_0
  refine sXb (s_X5_memoryAt hN hK) (by decide) (by decide) (fun x8 b3 => ?_)
  obtain ⟨b3_0, -⟩ := b3
  replace b3_0 : (0 ≤ p0.toInt ∧ p0.toInt ≤ 2) := b3_0
  have r4 := rgI c0
  have r5 := rgI c1
  have r6 := rgI c2
  have r7 := rgI c3
  have r8 := rgI c4
  have r9 := rgI c5
  refine sBind (s_X5_undone hN hK) (fun x19 b10 => ?_)
  obtain ⟨b10_0, b10_1, -⟩ := b10
  replace b10_0 : -9 ≤ x19.1.toInt := b10_0
  replace b10_1 : x19.1.toInt ≤ -9 := b10_1
  have r11 := rgI x19.1
  have r12 := rgI x19.2
  exact sXl ⟨(by show -9 ≤ x19.1.toInt; omega), (by show x19.1.toInt ≤ -9; omega), trivial⟩
set_option maxHeartbeats 2000000 in
theorem s_X5_isKept {N K : Nat} {sz : Int32} {f : Nat → Int32} {p0 : Int32} {p1 : Int32} {p2 : Int32} {p3 : Int32} {p4 : Int32} (hN : NBig N) (hK : 100 ≤ K)  : Sf (fX5_isKept N K sz f p0 p1 p2 p3 p4) (xP true true (fun (z : Int32) => 0 ≤ z.toInt ∧ z.toInt ≤ 1 ∧ True)) := by
  unfold fX5_isKept
  have ql0 : (0 : Int32).toInt = 0 := by decide
  have ql2 : (2 : Int32).toInt = 2 := by decide
  have r1 := rgI p0
  refine sXb (s_X5_memoryAt hN hK) (by decide) (by decide) (fun x2 b2 => ?_)
  obtain ⟨b2_0, -⟩ := b2
  replace b2_0 : (0 ≤ p0.toInt ∧ p0.toInt ≤ 2) := b2_0
  have r3 := rgI p1
  have r4 := rgI p2
  have r5 := rgI p3
  refine sXb (s_X5_checkCase hN hK) (by decide) (by decide) (fun x11 b6 => ?_)
  obtain ⟨b6_0, b6_1, b6_2, -⟩ := b6
  replace b6_0 : (0 ≤ p1.toInt ∧ p1.toInt ≤ 5) := b6_0
  replace b6_1 : (0 ≤ p2.toInt ∧ p2.toInt ≤ 20) := b6_1
  replace b6_2 : (0 ≤ p3.toInt ∧ p3.toInt ≤ 20) := b6_2
  have r7 := rgI p4
  refine sXb (s_X5_checkRange hN hK (by first | omega | decide) (by first | omega | decide) (by first | omega | decide) (by first | omega | decide)) (by decide) (by decide) (fun x18 b8 => ?_)
  obtain ⟨b8_0, -⟩ := b8
  replace b8_0 : ((0 : Int32).toInt ≤ p4.toInt ∧ p4.toInt ≤ (2 : Int32).toInt) := b8_0
  have r9 := rgI sz
  refine sBind (s_X2_keeps hN hK (by first | omega | decide) (by first | omega | decide) (by first | omega | decide) (by first | omega | decide) (by first | omega | decide) (by first | omega | decide)) (fun x27 b10 => ?_)
  obtain ⟨b10_0, b10_1, -⟩ := b10
  replace b10_0 : 0 ≤ x27.toInt := b10_0
  replace b10_1 : x27.toInt ≤ 1 := b10_1
  have r11 := rgI x27
  refine sIfT (b01 (by omega) (by omega)) ?_
  exact sXl ⟨(by show 0 ≤ x27.toInt; omega), (by show x27.toInt ≤ 1; omega), trivial⟩
set_option maxHeartbeats 2000000 in
theorem s_X5_worthOr {N K : Nat} {sz : Int32} {f : Nat → Int32} {p0 : Int32} {p1 : Int32} {p2 : Int32} {p3 : Int32} {p4 : Int32} (hN : NBig N) (hK : 100 ≤ K)  : Sf (fX5_worthOr N K sz f p0 p1 p2 p3 p4) (xP true true (fun (z : Int32) => True)) := by
  unfold fX5_worthOr
  have ql0 : (0 : Int32).toInt = 0 := by decide
  have r1 := rgI p0
  refine sXb (s_X5_memoryAt hN hK) (by decide) (by decide) (fun x2 b2 => ?_)
  obtain ⟨b2_0, -⟩ := b2
  replace b2_0 : (0 ≤ p0.toInt ∧ p0.toInt ≤ 2) := b2_0
  have r3 := rgI p1
  have r4 := rgI p2
  have r5 := rgI p3
  refine sXb (s_X5_checkCase hN hK) (by decide) (by decide) (fun x11 b6 => ?_)
  obtain ⟨b6_0, b6_1, b6_2, -⟩ := b6
  replace b6_0 : (0 ≤ p1.toInt ∧ p1.toInt ≤ 5) := b6_0
  replace b6_1 : (0 ≤ p2.toInt ∧ p2.toInt ≤ 20) := b6_1
  replace b6_2 : (0 ≤ p3.toInt ∧ p3.toInt ≤ 20) := b6_2
  have r7 := rgI sz
  refine sBind (s_X2_keeps hN hK (by first | omega | decide) (by first | omega | decide) (by first | omega | decide) (by first | omega | decide) (by first | omega | decide) (by first | omega | decide)) (fun x20 b8 => ?_)
  obtain ⟨b8_0, b8_1, -⟩ := b8
  replace b8_0 : 0 ≤ x20.toInt := b8_0
  replace b8_1 : x20.toInt ≤ 1 := b8_1
  refine sIf (fun h9 => ?_) (fun h9 => ?_)
  · have r10 := rgI x20
    have fh9 := eqT h9
    have r11 := rgI p4
    exact sXl trivial
  · have r12 := rgI x20
    have fh9 := eqF h9
    refine sBind (s_X2_keptWorth hN hK (by first | omega | decide) (by first | omega | decide) (by first | omega | decide) (by first | omega | decide) (by first | omega | decide) (by first | omega | decide)) (fun x35 b13 => ?_)
    have r14 := rgI x35
    exact sXl trivial
set_option maxHeartbeats 2000000 in
theorem s_X5_confirm {N K : Nat} {sz : Int32} {f : Nat → Int32} {p0 : Int32} {p1 : Int32} {p2 : Int32} {p3 : Int32} {p4 : Int32} (hN : NBig N) (hK : 100 ≤ K)  : Sf (fX5_confirm N K sz f p0 p1 p2 p3 p4) (xP true true (fun (z : Int32) => 0 ≤ z.toInt ∧ z.toInt ≤ 1 ∧ True)) := by
  unfold fX5_confirm
  have ql0 : (0 : Int32).toInt = 0 := by decide
  have r1 := rgI p0
  refine sXb (s_X5_memoryAt hN hK) (by decide) (by decide) (fun x2 b2 => ?_)
  obtain ⟨b2_0, -⟩ := b2
  replace b2_0 : (0 ≤ p0.toInt ∧ p0.toInt ≤ 2) := b2_0
  have r3 := rgI p1
  have r4 := rgI p2
  have r5 := rgI p3
  refine sXb (s_X5_checkCase hN hK) (by decide) (by decide) (fun x11 b6 => ?_)
  obtain ⟨b6_0, b6_1, b6_2, -⟩ := b6
  replace b6_0 : (0 ≤ p1.toInt ∧ p1.toInt ≤ 5) := b6_0
  replace b6_1 : (0 ≤ p2.toInt ∧ p2.toInt ≤ 20) := b6_1
  replace b6_2 : (0 ≤ p3.toInt ∧ p3.toInt ≤ 20) := b6_2
  have r7 := rgI sz
  have r8 := rgI p4
  refine sBind (s_X2_keepsWith hN hK (by first | omega | decide) (by first | omega | decide) (by first | omega | decide) (by first | omega | decide) (by first | omega | decide) (by first | omega | decide)) (fun x22 b9 => ?_)
  obtain ⟨b9_0, b9_1, -⟩ := b9
  replace b9_0 : 0 ≤ x22.toInt := b9_0
  replace b9_1 : x22.toInt ≤ 1 := b9_1
  have r10 := rgI x22
  refine sIfT (b01 (by omega) (by omega)) ?_
  exact sXl ⟨(by show 0 ≤ x22.toInt; omega), (by show x22.toInt ≤ 1; omega), trivial⟩
set_option maxHeartbeats 2000000 in
theorem s_X5_about {N K : Nat} {sz : Int32} {f : Nat → Int32} {p0 : Int32} {p1 : Int32} (hN : NBig N) (hK : 100 ≤ K)  : Sf (fX5_about N K sz f p0 p1) (xP true true (fun (z : Int32) => True)) := by
  unfold fX5_about
  have ql0 : (0 : Int32).toInt = 0 := by decide
  have ql1 : (1 : Int32).toInt = 1 := by decide
  have ql2 : (2 : Int32).toInt = 2 := by decide
  have ql3 : (3 : Int32).toInt = 3 := by decide
  have r1 := rgI p0
  refine sXb (s_X5_memoryAt hN hK) (by decide) (by decide) (fun x2 b2 => ?_)
  obtain ⟨b2_0, -⟩ := b2
  replace b2_0 : (0 ≤ p0.toInt ∧ p0.toInt ≤ 2) := b2_0
  have r3 := rgI p1
  refine sXb (s_X5_checkRange hN hK (by first | omega | decide) (by first | omega | decide) (by first | omega | decide) (by first | omega | decide)) (by decide) (by decide) (fun x9 b4 => ?_)
  obtain ⟨b4_0, -⟩ := b4
  replace b4_0 : ((0 : Int32).toInt ≤ p1.toInt ∧ p1.toInt ≤ (3 : Int32).toInt) := b4_0
  refine sIf (fun h5 => ?_) (fun h5 => ?_)
  · have fh5 := eqT h5
    have r6 := rgI sz
    refine sBind (s_X2_size hN hK) (fun x41 b7 => ?_)
    have r8 := rgI x41
    exact sXl trivial
  · have fh5 := eqF h5
    refine sIf (fun h9 => ?_) (fun h9 => ?_)
    · have fh9 := eqT h9
      have r10 := rgI sz
      refine sBind (s_X2_mark hN hK) (fun x46 b11 => ?_)
      have r12 := rgI x46
      exact sXl trivial
    · have fh9 := eqF h9
      refine sIf (fun h13 => ?_) (fun h13 => ?_)
      · have fh13 := eqT h13
        have r14 := rgI sz
        refine sBind (s_X2_sumOfWorths hN hK) (fun x51 b15 => ?_)
        have r16 := rgI x51
        exact sXl trivial
      · have fh13 := eqF h13
        have r17 := rgI sz
        refine sBind (s_X2_size hN hK) (fun x56 b18 => ?_)
        refine sIf (fun h19 => ?_) (fun h19 => ?_)
        · have r20 := rgI x56
          have fh19 := eqT h19
          exact sXl trivial
        · have r21 := rgI x56
          have fh19 := eqF h19
          exact sXl trivial
set_option maxHeartbeats 2000000 in
theorem s_X5_has {N K : Nat} {sz : Int32} {f : Nat → Int32} {p0 : Int32} {p1 : Int32} (hN : NBig N) (hK : 100 ≤ K)  : Sf (fX5_has N K sz f p0 p1) (xP true false (fun (z : Int32) => 0 ≤ z.toInt ∧ z.toInt ≤ 1 ∧ True)) := by
  unfold fX5_has
  have ql0 : (0 : Int32).toInt = 0 := by decide
  have ql1 : (1 : Int32).toInt = 1 := by decide
  have ql3 : (3 : Int32).toInt = 3 := by decide
  have r1 := rgI p0
  refine sXb (s_X5_memoryAt hN hK) (by decide) (by decide) (fun x2 b2 => ?_)
  obtain ⟨b2_0, -⟩ := b2
  replace b2_0 : (0 ≤ p0.toInt ∧ p0.toInt ≤ 2) := b2_0
  have r3 := rgI sz
  have r4 := rgI p1
  refine sBind (s_X2_howMany hN hK (by first | omega | decide) (by first | omega | decide)) (fun x7 b5 => ?_)
  refine sIf (fun h6 => ?_) (fun h6 => ?_)
  · have r7 := rgI x7
    have fh6 := leT h6
    exact sXl ⟨(by show 0 ≤ (0 : Int32).toInt; decide), (by show (0 : Int32).toInt ≤ 1; decide), trivial⟩
  · have r8 := rgI x7
    have fh6 := leF h6
    exact sXl ⟨(by show 0 ≤ (1 : Int32).toInt; decide), (by show (1 : Int32).toInt ≤ 1; decide), trivial⟩
set_option maxHeartbeats 2000000 in
theorem s_X5_count {N K : Nat} {sz : Int32} {f : Nat → Int32} {p0 : Int32} {p1 : Int32} {p2 : Int32} (hN : NBig N) (hK : 100 ≤ K)  : Sf (fX5_count N K sz f p0 p1 p2) (xP true true (fun (z : Int32) => True)) := by
  unfold fX5_count
  have ql0 : (0 : Int32).toInt = 0 := by decide
  have ql3 : (3 : Int32).toInt = 3 := by decide
  have r1 := rgI p0
  refine sXb (s_X5_memoryAt hN hK) (by decide) (by decide) (fun x2 b2 => ?_)
  obtain ⟨b2_0, -⟩ := b2
  replace b2_0 : (0 ≤ p0.toInt ∧ p0.toInt ≤ 2) := b2_0
  have r3 := rgI p1
  refine sXb (s_X5_checkRange hN hK (by first | omega | decide) (by first | omega | decide) (by first | omega | decide) (by first | omega | decide)) (by decide) (by decide) (fun x10 b4 => ?_)
  obtain ⟨b4_0, -⟩ := b4
  replace b4_0 : ((0 : Int32).toInt ≤ p1.toInt ∧ p1.toInt ≤ (3 : Int32).toInt) := b4_0
  have r5 := rgI sz
  have r6 := rgI p2
  refine sBind (s_X2_howMany hN hK (by first | omega | decide) (by first | omega | decide)) (fun x17 b7 => ?_)
  have r8 := rgI x17
  exact sXl trivial
set_option maxHeartbeats 2000000 in
theorem s_X5_isSame {N K : Nat} {sz : Int32} {f : Nat → Int32} {tz : Int32} {f2 : Nat → Int32} {p0 : Int32} {p1 : Int32} (hN : NBig N) (hK : 100 ≤ K)  : Sf (fX5_isSame N K sz f tz f2 p0 p1) (xP true false (fun (z : Int32) => 0 ≤ z.toInt ∧ z.toInt ≤ 1 ∧ True)) := by
  unfold fX5_isSame
  have ql0 : (0 : Int32).toInt = 0 := by decide
  have r1 := rgI p0
  refine sXb (s_X5_memoryAt hN hK) (by decide) (by decide) (fun x2 b2 => ?_)
  obtain ⟨b2_0, -⟩ := b2
  replace b2_0 : (0 ≤ p0.toInt ∧ p0.toInt ≤ 2) := b2_0
  have r3 := rgI p1
  refine sXb (s_X5_memoryAt hN hK) (by decide) (by decide) (fun x8 b4 => ?_)
  obtain ⟨b4_0, -⟩ := b4
  replace b4_0 : (0 ≤ p1.toInt ∧ p1.toInt ≤ 2) := b4_0
  have r5 := rgI sz
  have r6 := rgI tz
  refine sBind (s_X2_isLike hN hK) (fun x16 b7 => ?_)
  obtain ⟨b7_0, b7_1, -⟩ := b7
  replace b7_0 : 0 ≤ x16.toInt := b7_0
  replace b7_1 : x16.toInt ≤ 1 := b7_1
  have r8 := rgI x16
  refine sIfT (b01 (by omega) (by omega)) ?_
  exact sXl ⟨(by show 0 ≤ x16.toInt; omega), (by show x16.toInt ≤ 1; omega), trivial⟩
set_option maxHeartbeats 2000000 in
theorem s_X5_isSameOwn {N K : Nat} {sz : Int32} {f : Nat → Int32} {p0 : Int32} (hN : NBig N) (hK : 100 ≤ K)  : Sf (fX5_isSameOwn N K sz f p0) (xP true false (fun (z : Int32) => 1 ≤ z.toInt ∧ z.toInt ≤ 1 ∧ True)) := by
  unfold fX5_isSameOwn
  have ql0 : (0 : Int32).toInt = 0 := by decide
  have r1 := rgI p0
  refine sXb (s_X5_memoryAt hN hK) (by decide) (by decide) (fun x2 b2 => ?_)
  obtain ⟨b2_0, -⟩ := b2
  replace b2_0 : (0 ≤ p0.toInt ∧ p0.toInt ≤ 2) := b2_0
  refine sXb (s_X5_memoryAt hN hK) (by decide) (by decide) (fun x8 b3 => ?_)
  obtain ⟨b3_0, -⟩ := b3
  replace b3_0 : (0 ≤ p0.toInt ∧ p0.toInt ≤ 2) := b3_0
  have r4 := rgI sz
  refine sBind (s_X2_isLikeOwn hN hK) (fun x16 b5 => ?_)
  obtain ⟨b5_0, b5_1, -⟩ := b5
  replace b5_0 : 1 ≤ x16.toInt := b5_0
  replace b5_1 : x16.toInt ≤ 1 := b5_1
  have r6 := rgI x16
  refine sIfT (b01 (by omega) (by omega)) ?_
  exact sXl ⟨(by show 1 ≤ x16.toInt; omega), (by show x16.toInt ≤ 1; omega), trivial⟩
set_option maxHeartbeats 2000000 in
theorem s_X5_walk {N K : Nat} {fw : Nat → Int32} {fs : Nat → Int32} {p0 : Int32} {p1 : Int32} {p2 : Int32} (hN : NBig N) (hK : 100 ≤ K)  : Sf (fX5_walk N K fw fs p0 p1 p2) (xP false true (fun (z : Int32 × (Nat → Int32) × (Nat → Int32)) => True)) := by
  unfold fX5_walk
  have ql0 : (0 : Int32).toInt = 0 := by decide
  have r1 := rgI p0
  have r2 := rgI p1
  have r3 := rgI p2
  refine sXb (s_X5_checkAnyCase hN hK) (by decide) (by decide) (fun x3 b4 => ?_)
  obtain ⟨b4_0, b4_1, b4_2, -⟩ := b4
  replace b4_0 : (0 ≤ p0.toInt ∧ p0.toInt ≤ 7) := b4_0
  replace b4_1 : (0 ≤ p1.toInt ∧ p1.toInt ≤ 20) := b4_1
  replace b4_2 : (0 ≤ p2.toInt ∧ p2.toInt ≤ 20) := b4_2
  refine sBind (s_X5_waysOneByOne hN hK (by first | omega | decide) (by first | omega | decide) (by first | omega | decide) (by first | omega | decide) (by first | omega | decide) (by first | omega | decide)) (fun x10 b5 => ?_)
  have r6 := rgI x10.1
  exact sXl trivial
set_option maxHeartbeats 2000000 in
theorem s_X5_product {N K : Nat} {g : Nat → Int32} {p0 : Int32} {p1 : Int32} {p2 : Int32} (hN : NBig N) (hK : 100 ≤ K)  : Sf (fX5_product N K g p0 p1 p2) (xP false true (fun (z : Int32 × (Nat → Int32)) => True)) := by
  unfold fX5_product
  have ql0 : (0 : Int32).toInt = 0 := by decide
  have r1 := rgI p0
  have r2 := rgI p1
  have r3 := rgI p2
  refine sXb (s_X5_checkAnyCase hN hK) (by decide) (by decide) (fun x3 b4 => ?_)
  obtain ⟨b4_0, b4_1, b4_2, -⟩ := b4
  replace b4_0 : (0 ≤ p0.toInt ∧ p0.toInt ≤ 7) := b4_0
  replace b4_1 : (0 ≤ p1.toInt ∧ p1.toInt ≤ 20) := b4_1
  replace b4_2 : (0 ≤ p2.toInt ∧ p2.toInt ≤ 20) := b4_2
  refine sBind (s_X3_tells hN hK (by first | omega | decide) (by first | omega | decide) (by first | omega | decide) (by first | omega | decide) (by first | omega | decide) (by first | omega | decide)) (fun x13 b5 => ?_)
  have r6 := rgI x13.1
  exact sXl trivial
set_option maxHeartbeats 2000000 in
theorem s_X5_rule {N K : Nat} {ru : Int32} {sz : Int32} {f : Nat → Int32} {c0 : Int32} {c1 : Int32} {c2 : Int32} {c3 : Int32} {c4 : Int32} {c5 : Int32} {p0 : Int32} {p1 : Int32} (hN : NBig N) (hK : 100 ≤ K)  : Sf (fX5_rule N K ru sz f c0 c1 c2 c3 c4 c5 p0 p1) (xP true true (fun (z : Int32 × Int32 × (Nat → Int32) × Int32 × Int32 × Int32 × Int32) => True)) := by
  unfold fX5_rule
  have ql0 : (0 : Int32).toInt = 0 := by decide
  have ql20 : (20 : Int32).toInt = 20 := by decide
  have r1 := rgI p0
  refine sXb (s_X5_ledgerAt hN hK) (by decide) (by decide) (fun x2 b2 => ?_)
  obtain ⟨b2_0, -⟩ := b2
  replace b2_0 : (0 ≤ p0.toInt ∧ p0.toInt ≤ 2) := b2_0
  have r3 := rgI p1
  refine sXb (s_X5_checkRange hN hK (by first | omega | decide) (by first | omega | decide) (by first | omega | decide) (by first | omega | decide)) (by decide) (by decide) (fun x10 b4 => ?_)
  obtain ⟨b4_0, -⟩ := b4
  replace b4_0 : ((0 : Int32).toInt ≤ p1.toInt ∧ p1.toInt ≤ (20 : Int32).toInt) := b4_0
  have r5 := rgI ru
  have r6 := rgI sz
  have r7 := rgI c0
  have r8 := rgI c1
  have r9 := rgI c2
  have r10 := rgI c3
  have r11 := rgI c4
  have r12 := rgI c5
  refine sBind (s_X1_recall hN hK (by first | omega | decide) (by first | omega | decide)) (fun x20 b13 => ?_)
  have r14 := rgI x20.2.2.2.1
  have r15 := rgI x20.2.2.2.2.1
  have r16 := rgI x20.2.2.2.2.2
  have r17 := rgI x20.1
  refine sBind (s_X5_acted hN hK) (fun x23 b18 => ?_)
  have r19 := rgI x23.1
  have r20 := rgI x20.2.1
  have r21 := rgI x23.2
  exact sXl trivial
set_option maxHeartbeats 2000000 in
theorem s_X5_forgetRule {N K : Nat} {ru : Int32} {sz : Int32} {f : Nat → Int32} {c0 : Int32} {c1 : Int32} {c2 : Int32} {c3 : Int32} {c4 : Int32} {c5 : Int32} {p0 : Int32} {p1 : Int32} (hN : NBig N) (hK : 100 ≤ K)  : Sf (fX5_forgetRule N K ru sz f c0 c1 c2 c3 c4 c5 p0 p1) (xP true true (fun (z : Int32 × Int32 × (Nat → Int32) × Int32 × Int32) => True)) := by
  unfold fX5_forgetRule
  have ql0 : (0 : Int32).toInt = 0 := by decide
  have ql20 : (20 : Int32).toInt = 20 := by decide
  have r1 := rgI p0
  refine sXb (s_X5_ledgerAt hN hK) (by decide) (by decide) (fun x2 b2 => ?_)
  obtain ⟨b2_0, -⟩ := b2
  replace b2_0 : (0 ≤ p0.toInt ∧ p0.toInt ≤ 2) := b2_0
  have r3 := rgI p1
  refine sXb (s_X5_checkRange hN hK (by first | omega | decide) (by first | omega | decide) (by first | omega | decide) (by first | omega | decide)) (by decide) (by decide) (fun x10 b4 => ?_)
  obtain ⟨b4_0, -⟩ := b4
  replace b4_0 : ((0 : Int32).toInt ≤ p1.toInt ∧ p1.toInt ≤ (20 : Int32).toInt) := b4_0
  refine sIf (fun h5 => ?_) (fun h5 => ?_)
  · have fh5 := eqT h5
    have r6 := rgI ru
    have r7 := rgI sz
    refine sBind (s_X1_dropAll hN hK) (fun x19 b8 => ?_)
    obtain ⟨b8_0, b8_1, -⟩ := b8
    replace b8_0 : 0 ≤ x19.2.1.toInt := b8_0
    replace b8_1 : x19.2.1.toInt ≤ 0 := b8_1
    have r9 := rgI c0
    have r10 := rgI c1
    have r11 := rgI c2
    have r12 := rgI c3
    have r13 := rgI c4
    have r14 := rgI c5
    have r15 := rgI x19.1
    refine sBind (s_X5_acted hN hK) (fun x22 b16 => ?_)
    have r17 := rgI x22.1
    have r18 := rgI x19.2.1
    have r19 := rgI x22.2
    exact sXl trivial
  · have fh5 := eqF h5
    have r20 := rgI ru
    have r21 := rgI sz
    refine sBind (s_X1_keeps hN hK (by first | omega | decide) (by first | omega | decide)) (fun x28 b22 => ?_)
    obtain ⟨b22_0, b22_1, -⟩ := b22
    replace b22_0 : 0 ≤ x28.toInt := b22_0
    replace b22_1 : x28.toInt ≤ 1 := b22_1
    refine sIf (fun h23 => ?_) (fun h23 => ?_)
    · have r24 := rgI x28
      have fh23 := eqT h23
      have r25 := rgI c0
      have r26 := rgI c1
      have r27 := rgI c2
      have r28 := rgI c3
      have r29 := rgI c4
      have r30 := rgI c5
      refine sBind (s_X5_undone hN hK) (fun x35 b31 => ?_)
      obtain ⟨b31_0, b31_1, -⟩ := b31
      replace b31_0 : -9 ≤ x35.1.toInt := b31_0
      replace b31_1 : x35.1.toInt ≤ -9 := b31_1
      have r32 := rgI x35.1
      have r33 := rgI x35.2
      exact sXl trivial
    · have r34 := rgI x28
      have fh23 := eqF h23
      refine sBind (s_X1_keptWorth hN hK (by first | omega | decide) (by first | omega | decide)) (fun x41 b35 => ?_)
      refine sBind (s_X1_drop hN hK (by first | omega | decide) (by first | omega | decide)) (fun x48 b36 => ?_)
      have r37 := rgI c0
      have r38 := rgI c1
      have r39 := rgI c2
      have r40 := rgI c3
      have r41 := rgI c4
      have r42 := rgI c5
      have r43 := rgI x41
      refine sBind (s_X5_acted hN hK) (fun x54 b44 => ?_)
      have r45 := rgI x54.1
      have r46 := rgI x48.1
      have r47 := rgI x54.2
      exact sXl trivial
set_option maxHeartbeats 2000000 in
theorem s_X5_ledger {N K : Nat} {ru : Int32} {sz : Int32} {f : Nat → Int32} {p0 : Int32} {p1 : Int32} (hN : NBig N) (hK : 100 ≤ K)  : Sf (fX5_ledger N K ru sz f p0 p1) (xP true true (fun (z : Int32) => True)) := by
  unfold fX5_ledger
  have ql0 : (0 : Int32).toInt = 0 := by decide
  have ql1 : (1 : Int32).toInt = 1 := by decide
  have r1 := rgI p0
  refine sXb (s_X5_ledgerAt hN hK) (by decide) (by decide) (fun x2 b2 => ?_)
  obtain ⟨b2_0, -⟩ := b2
  replace b2_0 : (0 ≤ p0.toInt ∧ p0.toInt ≤ 2) := b2_0
  have r3 := rgI p1
  refine sXb (s_X5_checkRange hN hK (by first | omega | decide) (by first | omega | decide) (by first | omega | decide) (by first | omega | decide)) (by decide) (by decide) (fun x9 b4 => ?_)
  obtain ⟨b4_0, -⟩ := b4
  replace b4_0 : ((0 : Int32).toInt ≤ p1.toInt ∧ p1.toInt ≤ (1 : Int32).toInt) := b4_0
  refine sIf (fun h5 => ?_) (fun h5 => ?_)
  · have fh5 := eqT h5
    have r6 := rgI ru
    have r7 := rgI sz
    refine sBind (s_X1_size hN hK) (fun x17 b8 => ?_)
    have r9 := rgI x17
    exact sXl trivial
  · have fh5 := eqF h5
    have r10 := rgI ru
    have r11 := rgI sz
    refine sBind (s_X1_mark hN hK) (fun x24 b12 => ?_)
    have r13 := rgI x24
    exact sXl trivial
set_option maxHeartbeats 2000000 in
theorem s_X5_ruleWorth {N K : Nat} {ru : Int32} {sz : Int32} {f : Nat → Int32} {p0 : Int32} {p1 : Int32} {p2 : Int32} (hN : NBig N) (hK : 100 ≤ K)  : Sf (fX5_ruleWorth N K ru sz f p0 p1 p2) (xP true true (fun (z : Int32) => True)) := by
  unfold fX5_ruleWorth
  have ql0 : (0 : Int32).toInt = 0 := by decide
  have ql1 : (1 : Int32).toInt = 1 := by decide
  have ql20 : (20 : Int32).toInt = 20 := by decide
  have r1 := rgI p0
  refine sXb (s_X5_ledgerAt hN hK) (by decide) (by decide) (fun x2 b2 => ?_)
  obtain ⟨b2_0, -⟩ := b2
  replace b2_0 : (0 ≤ p0.toInt ∧ p0.toInt ≤ 2) := b2_0
  have r3 := rgI p1
  refine sXb (s_X5_checkRange hN hK (by first | omega | decide) (by first | omega | decide) (by first | omega | decide) (by first | omega | decide)) (by decide) (by decide) (fun x11 b4 => ?_)
  obtain ⟨b4_0, -⟩ := b4
  replace b4_0 : ((0 : Int32).toInt ≤ p1.toInt ∧ p1.toInt ≤ (20 : Int32).toInt) := b4_0
  have r5 := rgI p2
  refine sXb (s_X5_checkRange hN hK (by first | omega | decide) (by first | omega | decide) (by first | omega | decide) (by first | omega | decide)) (by decide) (by decide) (fun x17 b6 => ?_)
  obtain ⟨b6_0, -⟩ := b6
  replace b6_0 : ((0 : Int32).toInt ≤ p2.toInt ∧ p2.toInt ≤ (1 : Int32).toInt) := b6_0
  have r7 := rgI ru
  have r8 := rgI sz
  refine sBind (s_X1_keeps hN hK (by first | omega | decide) (by first | omega | decide)) (fun x23 b9 => ?_)
  obtain ⟨b9_0, b9_1, -⟩ := b9
  replace b9_0 : 0 ≤ x23.toInt := b9_0
  replace b9_1 : x23.toInt ≤ 1 := b9_1
  refine sIf (fun h10 => ?_) (fun h10 => ?_)
  · have r11 := rgI x23
    have fh10 := eqT h10
    exact sXl trivial
  · have r12 := rgI x23
    have fh10 := eqF h10
    refine sBind (s_X1_keptWorth hN hK (by first | omega | decide) (by first | omega | decide)) (fun x32 b13 => ?_)
    have r14 := rgI x32
    exact sXl trivial
set_option maxHeartbeats 2000000 in
theorem s_X5_addPart {N K : Nat} {f : Nat → Int32} {c0 : Int32} {c1 : Int32} {c2 : Int32} {c3 : Int32} {c4 : Int32} {c5 : Int32} {p0 : Int32} {p1 : Int32} {p2 : Int32} (hN : NBig N) (hK : 100 ≤ K)  : Sf (fX5_addPart N K f c0 c1 c2 c3 c4 c5 p0 p1 p2) (xP true true (fun (z : Int32 × (Nat → Int32) × Int32 × Int32) => True)) := by
  unfold fX5_addPart
  have ql0 : (0 : Int32).toInt = 0 := by decide
  have ql1 : (1 : Int32).toInt = 1 := by decide
  have ql20 : (20 : Int32).toInt = 20 := by decide
  have r1 := rgI p0
  refine sXb (s_X5_deskAt hN hK) (by decide) (by decide) (fun x2 b2 => ?_)
  obtain ⟨b2_0, -⟩ := b2
  replace b2_0 : (0 ≤ p0.toInt ∧ p0.toInt ≤ 1) := b2_0
  have r3 := rgI p1
  refine sXb (s_X5_checkRange hN hK (by first | omega | decide) (by first | omega | decide) (by first | omega | decide) (by first | omega | decide)) (by decide) (by decide) (fun x11 b4 => ?_)
  obtain ⟨b4_0, -⟩ := b4
  replace b4_0 : ((1 : Int32).toInt ≤ p1.toInt ∧ p1.toInt ≤ (20 : Int32).toInt) := b4_0
  have r5 := rgI p2
  refine sXb (s_X5_checkRange hN hK (by first | omega | decide) (by first | omega | decide) (by first | omega | decide) (by first | omega | decide)) (by decide) (by decide) (fun x18 b6 => ?_)
  obtain ⟨b6_0, -⟩ := b6
  replace b6_0 : ((1 : Int32).toInt ≤ p2.toInt ∧ p2.toInt ≤ (20 : Int32).toInt) := b6_0
  refine sBind (s_X4_sum hN hK) (fun x23 b7 => ?_)
  refine sIf (fun h8 => ?_) (fun h8 => ?_)
  · have r9 := rgI (x23 + (p1 * p2))
    have fh8 := leT h8
    refine sBind (s_X4_put hN hK) (fun x44 b10 => ?_)
    refine sBind (s_X4_timesOf hN hK (by first | omega | decide) (by first | omega | decide)) (fun x51 b11 => ?_)
    have r12 := rgI c0
    have r13 := rgI c1
    have r14 := rgI c2
    have r15 := rgI c3
    have r16 := rgI c4
    have r17 := rgI c5
    have r18 := rgI x51
    refine sBind (s_X5_acted hN hK) (fun x54 b19 => ?_)
    have r20 := rgI x54.1
    have r21 := rgI x54.2
    exact sXl trivial
  · have r22 := rgI (x23 + (p1 * p2))
    have fh8 := leF h8
    have r23 := rgI c0
    have r24 := rgI c1
    have r25 := rgI c2
    have r26 := rgI c3
    have r27 := rgI c4
    have r28 := rgI c5
    refine sBind (s_X5_undone hN hK) (fun x36 b29 => ?_)
    obtain ⟨b29_0, b29_1, -⟩ := b29
    replace b29_0 : -9 ≤ x36.1.toInt := b29_0
    replace b29_1 : x36.1.toInt ≤ -9 := b29_1
    have r30 := rgI x36.1
    have r31 := rgI x36.2
    exact sXl trivial
set_option maxHeartbeats 2000000 in
theorem s_X5_takePart {N K : Nat} {f : Nat → Int32} {c0 : Int32} {c1 : Int32} {c2 : Int32} {c3 : Int32} {c4 : Int32} {c5 : Int32} {p0 : Int32} {p1 : Int32} (hN : NBig N) (hK : 100 ≤ K)  : Sf (fX5_takePart N K f c0 c1 c2 c3 c4 c5 p0 p1) (xP true true (fun (z : Int32 × (Nat → Int32) × Int32 × Int32) => True)) := by
  unfold fX5_takePart
  have ql0 : (0 : Int32).toInt = 0 := by decide
  have ql1 : (1 : Int32).toInt = 1 := by decide
  have ql20 : (20 : Int32).toInt = 20 := by decide
  have r1 := rgI p0
  refine sXb (s_X5_deskAt hN hK) (by decide) (by decide) (fun x2 b2 => ?_)
  obtain ⟨b2_0, -⟩ := b2
  replace b2_0 : (0 ≤ p0.toInt ∧ p0.toInt ≤ 1) := b2_0
  have r3 := rgI p1
  refine sXb (s_X5_checkRange hN hK (by first | omega | decide) (by first | omega | decide) (by first | omega | decide) (by first | omega | decide)) (by decide) (by decide) (fun x10 b4 => ?_)
  obtain ⟨b4_0, -⟩ := b4
  replace b4_0 : ((1 : Int32).toInt ≤ p1.toInt ∧ p1.toInt ≤ (20 : Int32).toInt) := b4_0
  refine sBind (s_X4_timesOf hN hK (by first | omega | decide) (by first | omega | decide)) (fun x15 b5 => ?_)
  refine sIf (fun h6 => ?_) (fun h6 => ?_)
  · have r7 := rgI x15
    have fh6 := eqT h6
    have r8 := rgI c0
    have r9 := rgI c1
    have r10 := rgI c2
    have r11 := rgI c3
    have r12 := rgI c4
    have r13 := rgI c5
    refine sBind (s_X5_undone hN hK) (fun x22 b14 => ?_)
    obtain ⟨b14_0, b14_1, -⟩ := b14
    replace b14_0 : -9 ≤ x22.1.toInt := b14_0
    replace b14_1 : x22.1.toInt ≤ -9 := b14_1
    have r15 := rgI x22.1
    have r16 := rgI x22.2
    exact sXl trivial
  · have r17 := rgI x15
    have fh6 := eqF h6
    refine sBind (s_X4_put hN hK) (fun x29 b18 => ?_)
    refine sBind (s_X4_timesOf hN hK (by first | omega | decide) (by first | omega | decide)) (fun x35 b19 => ?_)
    have r20 := rgI c0
    have r21 := rgI c1
    have r22 := rgI c2
    have r23 := rgI c3
    have r24 := rgI c4
    have r25 := rgI c5
    have r26 := rgI x35
    refine sBind (s_X5_acted hN hK) (fun x38 b27 => ?_)
    have r28 := rgI x38.1
    have r29 := rgI x38.2
    exact sXl trivial
set_option maxHeartbeats 2000000 in
theorem s_X5_layFirst {N K : Nat} {f : Nat → Int32} {c0 : Int32} {c1 : Int32} {c2 : Int32} {c3 : Int32} {c4 : Int32} {c5 : Int32} {p0 : Int32} {p1 : Int32} (hN : NBig N) (hK : 100 ≤ K)  : Sf (fX5_layFirst N K f c0 c1 c2 c3 c4 c5 p0 p1) (xP true true (fun (z : Int32 × (Nat → Int32) × Int32) => True)) := by
  unfold fX5_layFirst
  have ql0 : (0 : Int32).toInt = 0 := by decide
  have ql20 : (20 : Int32).toInt = 20 := by decide
  have r1 := rgI p0
  refine sXb (s_X5_deskAt hN hK) (by decide) (by decide) (fun x2 b2 => ?_)
  obtain ⟨b2_0, -⟩ := b2
  replace b2_0 : (0 ≤ p0.toInt ∧ p0.toInt ≤ 1) := b2_0
  have r3 := rgI p1
  refine sXb (s_X5_checkRange hN hK (by first | omega | decide) (by first | omega | decide) (by first | omega | decide) (by first | omega | decide)) (by decide) (by decide) (fun x10 b4 => ?_)
  obtain ⟨b4_0, -⟩ := b4
  replace b4_0 : ((0 : Int32).toInt ≤ p1.toInt ∧ p1.toInt ≤ (20 : Int32).toInt) := b4_0
  refine sBind (s_X4_becomeFirst hN hK (by first | omega | decide) (by first | omega | decide)) (fun x15 b5 => ?_)
  refine sBind (s_X4_parts hN hK) (fun x20 b6 => ?_)
  have r7 := rgI c0
  have r8 := rgI c1
  have r9 := rgI c2
  have r10 := rgI c3
  have r11 := rgI c4
  have r12 := rgI c5
  have r13 := rgI x20
  refine sBind (s_X5_acted hN hK) (fun x23 b14 => ?_)
  have r15 := rgI x23.1
  have r16 := rgI x23.2
  exact sXl trivial
set_option maxHeartbeats 2000000 in
theorem s_X5_next {N K : Nat} {f : Nat → Int32} {c0 : Int32} {c1 : Int32} {c2 : Int32} {c3 : Int32} {c4 : Int32} {c5 : Int32} {p0 : Int32} (hN : NBig N) (hK : 100 ≤ K)  : Sf (fX5_next N K f c0 c1 c2 c3 c4 c5 p0) (xP true false (fun (z : Int32 × (Nat → Int32) × Int32 × Int32) => True)) := by
  unfold fX5_next
  have ql0 : (0 : Int32).toInt = 0 := by decide
  have r1 := rgI p0
  refine sXb (s_X5_deskAt hN hK) (by decide) (by decide) (fun x2 b2 => ?_)
  obtain ⟨b2_0, -⟩ := b2
  replace b2_0 : (0 ≤ p0.toInt ∧ p0.toInt ≤ 1) := b2_0
  refine sBind (s_X4_stepOn hN hK) (fun x7 b3 => ?_)
  obtain ⟨b3_0, b3_1, -⟩ := b3
  replace b3_0 : 0 ≤ x7.1.toInt := b3_0
  replace b3_1 : x7.1.toInt ≤ 1 := b3_1
  refine sIf (fun h4 => ?_) (fun h4 => ?_)
  · have r5 := rgI x7.1
    have fh4 := eqT h4
    have r6 := rgI c0
    have r7 := rgI c1
    have r8 := rgI c2
    have r9 := rgI c3
    have r10 := rgI c4
    have r11 := rgI c5
    refine sBind (s_X5_undone hN hK) (fun x14 b12 => ?_)
    obtain ⟨b12_0, b12_1, -⟩ := b12
    replace b12_0 : -9 ≤ x14.1.toInt := b12_0
    replace b12_1 : x14.1.toInt ≤ -9 := b12_1
    have r13 := rgI x14.1
    have r14 := rgI x14.2
    exact sXl trivial
  · have r15 := rgI x7.1
    have fh4 := eqF h4
    refine sBind (s_X4_parts hN hK) (fun x20 b16 => ?_)
    have r17 := rgI c0
    have r18 := rgI c1
    have r19 := rgI c2
    have r20 := rgI c3
    have r21 := rgI c4
    have r22 := rgI c5
    have r23 := rgI x20
    refine sBind (s_X5_acted hN hK) (fun x23 b24 => ?_)
    have r25 := rgI x23.1
    have r26 := rgI x23.2
    exact sXl trivial
set_option maxHeartbeats 2000000 in
theorem s_X5_turn_49 {N K : Nat} {f : Nat → Int32} {c0 : Int32} {c1 : Int32} {c2 : Int32} {c3 : Int32} {c4 : Int32} {c5 : Int32} {fs : Nat → Int32} {p0 : Int32} (hN : NBig N) (hK : 100 ≤ K)  : ∀ (s0 : Int32) (f_ : Nat → Int32) (c0_ : Int32) (fs_ : Nat → Int32), 0 ≤ p0.toInt → p0.toInt ≤ 1 → 0 ≤ s0.toInt → s0.toInt ≤ 1 → (s0.toInt = 0 → 0 ≤ p0.toInt ∧ p0.toInt ≤ 1) → Sf (fX5_turn_49 N K f c0 c1 c2 c3 c4 c5 fs p0  s0 f_ c0_ fs_) (xP true false (fun (z : Int32 × (Nat → Int32) × Int32 × (Nat → Int32)) => True)) := by
  intro s0 f_ c0_ fs_ hq0 hq1 hq2 hq3 hq4
  unfold fX5_turn_49
  have ql0 : (0 : Int32).toInt = 0 := by decide
  have r1 := rgI c0_
  have r2 := rgI c1
  have r3 := rgI c2
  have r4 := rgI c3
  have r5 := rgI c4
  have r6 := rgI c5
  have r7 := rgI s0
  refine sBind (s_X5_acted hN hK) (fun x49 b8 => ?_)
  have r9 := rgI x49.1
  have r10 := rgI x49.2
  exact sXl trivial
set_option maxHeartbeats 2000000 in
theorem s_X5_turn_30 {N K : Nat} {f : Nat → Int32} {c0 : Int32} {c1 : Int32} {c2 : Int32} {c3 : Int32} {c4 : Int32} {c5 : Int32} {fs : Nat → Int32} {p0 : Int32} (hN : NBig N) (hK : 100 ≤ K)  : ∀ (s0 : Int32) (f_ : Nat → Int32) (c0_ : Int32) (fs_ : Nat → Int32), 0 ≤ p0.toInt → p0.toInt ≤ 1 → 0 ≤ s0.toInt → s0.toInt ≤ 1 → (s0.toInt = 0 → 0 ≤ p0.toInt ∧ p0.toInt ≤ 1) → Sf (fX5_turn_30 N K f c0 c1 c2 c3 c4 c5 fs p0  s0 f_ c0_ fs_) (xP true false (fun (z : Int32 × (Nat → Int32) × Int32 × (Nat → Int32)) => True)) := by
  intro s0 f_ c0_ fs_ hq0 hq1 hq2 hq3 hq4
  unfold fX5_turn_30
  have ql0 : (0 : Int32).toInt = 0 := by decide
  have ql1 : (1 : Int32).toInt = 1 := by decide
  refine sBind (s_X4_become hN hK) (fun x36 b1 => ?_)
  refine sIf (fun h2 => ?_) (fun h2 => ?_)
  · have r3 := rgI s0
    have fh2 := eqT h2
    have r4 := rgI c0_
    exact s_X5_turn_49  hN hK _ _ _ _ (by first | omega | decide) (by first | omega | decide) (by first | omega | decide) (by first | omega | decide) (by first | omega | decide)
  · have r5 := rgI s0
    have fh2 := eqF h2
    have r6 := rgI c0_
    exact s_X5_turn_49  hN hK _ _ _ _ (by first | omega | decide) (by first | omega | decide) (by first | omega | decide) (by first | omega | decide) (by first | omega | decide)
set_option maxHeartbeats 2000000 in
theorem s_X5_turn {N K : Nat} {f : Nat → Int32} {c0 : Int32} {c1 : Int32} {c2 : Int32} {c3 : Int32} {c4 : Int32} {c5 : Int32} {fs : Nat → Int32} {p0 : Int32} (hN : NBig N) (hK : 100 ≤ K)  : Sf (fX5_turn N K f c0 c1 c2 c3 c4 c5 fs p0) (xP true false (fun (z : Int32 × (Nat → Int32) × Int32 × (Nat → Int32)) => True)) := by
  unfold fX5_turn
  have ql0 : (0 : Int32).toInt = 0 := by decide
  have ql1 : (1 : Int32).toInt = 1 := by decide
  have r1 := rgI p0
  refine sXb (s_X5_deskAt hN hK) (by decide) (by decide) (fun x2 b2 => ?_)
  obtain ⟨b2_0, -⟩ := b2
  replace b2_0 : (0 ≤ p0.toInt ∧ p0.toInt ≤ 1) := b2_0
  refine sBind (s_X4_becomeTurned hN hK) (fun x11 b3 => ?_)
  refine sBind (s_X4_isLike hN hK) (fun x19 b4 => ?_)
  obtain ⟨b4_0, b4_1, -⟩ := b4
  replace b4_0 : 0 ≤ x19.toInt := b4_0
  replace b4_1 : x19.toInt ≤ 1 := b4_1
  refine sIf (fun h5 => ?_) (fun h5 => ?_)
  · have r6 := rgI x19
    have fh5 := eqT h5
    have r7 := rgI c0
    exact s_X5_turn_30  hN hK _ _ _ _ (by first | omega | decide) (by first | omega | decide) (by first | omega | decide) (by first | omega | decide) (by first | omega | decide)
  · have r8 := rgI x19
    have fh5 := eqF h5
    have r9 := rgI c0
    exact s_X5_turn_30  hN hK _ _ _ _ (by first | omega | decide) (by first | omega | decide) (by first | omega | decide) (by first | omega | decide) (by first | omega | decide)
set_option maxHeartbeats 2000000 in
theorem s_X5_toUnlike {N K : Nat} {f : Nat → Int32} {c0 : Int32} {c1 : Int32} {c2 : Int32} {c3 : Int32} {c4 : Int32} {c5 : Int32} {fs : Nat → Int32} {p0 : Int32} (hN : NBig N) (hK : 100 ≤ K)  : Sf (fX5_toUnlike N K f c0 c1 c2 c3 c4 c5 fs p0) (xP true false (fun (z : Int32 × (Nat → Int32) × Int32 × Int32 × (Nat → Int32)) => True)) := by
  unfold fX5_toUnlike
  have ql0 : (0 : Int32).toInt = 0 := by decide
  have r1 := rgI p0
  refine sXb (s_X5_deskAt hN hK) (by decide) (by decide) (fun x2 b2 => ?_)
  obtain ⟨b2_0, -⟩ := b2
  replace b2_0 : (0 ≤ p0.toInt ∧ p0.toInt ≤ 1) := b2_0
  refine sBind (s_X4_isOdd hN hK) (fun x7 b3 => ?_)
  obtain ⟨b3_0, b3_1, -⟩ := b3
  replace b3_0 : 0 ≤ x7.toInt := b3_0
  replace b3_1 : x7.toInt ≤ 1 := b3_1
  refine sIf (fun h4 => ?_) (fun h4 => ?_)
  · have r5 := rgI x7
    have fh4 := eqT h4
    have r6 := rgI c0
    have r7 := rgI c1
    have r8 := rgI c2
    have r9 := rgI c3
    have r10 := rgI c4
    have r11 := rgI c5
    refine sBind (s_X5_undone hN hK) (fun x14 b12 => ?_)
    obtain ⟨b12_0, b12_1, -⟩ := b12
    replace b12_0 : -9 ≤ x14.1.toInt := b12_0
    replace b12_1 : x14.1.toInt ≤ -9 := b12_1
    have r13 := rgI x14.1
    have r14 := rgI x14.2
    exact sXl trivial
  · have r15 := rgI x7
    have fh4 := eqF h4
    refine sBind (s_X4_becomeUnlike hN hK) (fun x23 b16 => ?_)
    refine sBind (s_X4_become hN hK) (fun x31 b17 => ?_)
    refine sBind (s_X4_parts hN hK) (fun x36 b18 => ?_)
    have r19 := rgI c0
    have r20 := rgI c1
    have r21 := rgI c2
    have r22 := rgI c3
    have r23 := rgI c4
    have r24 := rgI c5
    have r25 := rgI x36
    refine sBind (s_X5_acted hN hK) (fun x39 b26 => ?_)
    have r27 := rgI x39.1
    have r28 := rgI x39.2
    exact sXl trivial
set_option maxHeartbeats 2000000 in
theorem s_X5_toOdd {N K : Nat} {f : Nat → Int32} {c0 : Int32} {c1 : Int32} {c2 : Int32} {c3 : Int32} {c4 : Int32} {c5 : Int32} {fs : Nat → Int32} {p0 : Int32} (hN : NBig N) (hK : 100 ≤ K)  : Sf (fX5_toOdd N K f c0 c1 c2 c3 c4 c5 fs p0) (xP true false (fun (z : Int32 × (Nat → Int32) × Int32 × Int32 × (Nat → Int32)) => True)) := by
  unfold fX5_toOdd
  have ql0 : (0 : Int32).toInt = 0 := by decide
  have r1 := rgI p0
  refine sXb (s_X5_deskAt hN hK) (by decide) (by decide) (fun x2 b2 => ?_)
  obtain ⟨b2_0, -⟩ := b2
  replace b2_0 : (0 ≤ p0.toInt ∧ p0.toInt ≤ 1) := b2_0
  refine sBind (s_X4_isUnlike hN hK) (fun x7 b3 => ?_)
  obtain ⟨b3_0, b3_1, -⟩ := b3
  replace b3_0 : 0 ≤ x7.toInt := b3_0
  replace b3_1 : x7.toInt ≤ 1 := b3_1
  refine sIf (fun h4 => ?_) (fun h4 => ?_)
  · have r5 := rgI x7
    have fh4 := eqT h4
    have r6 := rgI c0
    have r7 := rgI c1
    have r8 := rgI c2
    have r9 := rgI c3
    have r10 := rgI c4
    have r11 := rgI c5
    refine sBind (s_X5_undone hN hK) (fun x14 b12 => ?_)
    obtain ⟨b12_0, b12_1, -⟩ := b12
    replace b12_0 : -9 ≤ x14.1.toInt := b12_0
    replace b12_1 : x14.1.toInt ≤ -9 := b12_1
    have r13 := rgI x14.1
    have r14 := rgI x14.2
    exact sXl trivial
  · have r15 := rgI x7
    have fh4 := eqF h4
    refine sBind (s_X4_becomeOdd hN hK) (fun x23 b16 => ?_)
    refine sBind (s_X4_become hN hK) (fun x31 b17 => ?_)
    refine sBind (s_X4_parts hN hK) (fun x36 b18 => ?_)
    have r19 := rgI c0
    have r20 := rgI c1
    have r21 := rgI c2
    have r22 := rgI c3
    have r23 := rgI c4
    have r24 := rgI c5
    have r25 := rgI x36
    refine sBind (s_X5_acted hN hK) (fun x39 b26 => ?_)
    have r27 := rgI x39.1
    have r28 := rgI x39.2
    exact sXl trivial
set_option maxHeartbeats 2000000 in
theorem s_X5_copyDesk {N K : Nat} {f : Nat → Int32} {f2 : Nat → Int32} {c0 : Int32} {c1 : Int32} {c2 : Int32} {c3 : Int32} {c4 : Int32} {c5 : Int32} {p0 : Int32} (hN : NBig N) (hK : 100 ≤ K)  : Sf (fX5_copyDesk N K f f2 c0 c1 c2 c3 c4 c5 p0) (xP true false (fun (z : Int32 × (Nat → Int32) × Int32) => True)) := by
  unfold fX5_copyDesk
  have ql0 : (0 : Int32).toInt = 0 := by decide
  have ql1 : (1 : Int32).toInt = 1 := by decide
  have r1 := rgI p0
  refine sXb (s_X5_deskAt hN hK) (by decide) (by decide) (fun x2 b2 => ?_)
  obtain ⟨b2_0, -⟩ := b2
  replace b2_0 : (0 ≤ p0.toInt ∧ p0.toInt ≤ 1) := b2_0
  have t3 := subI (a := (1 : Int32)) (b := p0) (by omega) (by omega)
  refine sXb (s_X5_deskAt hN hK) (by decide) (by decide) (fun x10 b4 => ?_)
  obtain ⟨b4_0, -⟩ := b4
  replace b4_0 : (0 ≤ ((1 : Int32) - p0).toInt ∧ ((1 : Int32) - p0).toInt ≤ 1) := b4_0
  refine sBind (s_X4_become hN hK) (fun x14 b5 => ?_)
  refine sBind (s_X4_differentParts hN hK) (fun x19 b6 => ?_)
  have r7 := rgI c0
  have r8 := rgI c1
  have r9 := rgI c2
  have r10 := rgI c3
  have r11 := rgI c4
  have r12 := rgI c5
  have r13 := rgI x19
  refine sBind (s_X5_acted hN hK) (fun x22 b14 => ?_)
  have r15 := rgI x22.1
  have r16 := rgI x22.2
  exact sXl trivial
set_option maxHeartbeats 2000000 in
theorem s_X5_times {N K : Nat} {f : Nat → Int32} {p0 : Int32} {p1 : Int32} (hN : NBig N) (hK : 100 ≤ K)  : Sf (fX5_times N K f p0 p1) (xP true true (fun (z : Int32) => True)) := by
  unfold fX5_times
  have ql0 : (0 : Int32).toInt = 0 := by decide
  have ql1 : (1 : Int32).toInt = 1 := by decide
  have ql20 : (20 : Int32).toInt = 20 := by decide
  have r1 := rgI p0
  refine sXb (s_X5_deskAt hN hK) (by decide) (by decide) (fun x2 b2 => ?_)
  obtain ⟨b2_0, -⟩ := b2
  replace b2_0 : (0 ≤ p0.toInt ∧ p0.toInt ≤ 1) := b2_0
  have r3 := rgI p1
  refine sXb (s_X5_checkRange hN hK (by first | omega | decide) (by first | omega | decide) (by first | omega | decide) (by first | omega | decide)) (by decide) (by decide) (fun x10 b4 => ?_)
  obtain ⟨b4_0, -⟩ := b4
  replace b4_0 : ((1 : Int32).toInt ≤ p1.toInt ∧ p1.toInt ≤ (20 : Int32).toInt) := b4_0
  refine sBind (s_X4_timesOf hN hK (by first | omega | decide) (by first | omega | decide)) (fun x15 b5 => ?_)
  have r6 := rgI x15
  exact sXl trivial
set_option maxHeartbeats 2000000 in
theorem s_X5_way {N K : Nat} {f : Nat → Int32} {p0 : Int32} {p1 : Int32} (hN : NBig N) (hK : 100 ≤ K)  : Sf (fX5_way N K f p0 p1) (xP true true (fun (z : Int32) => True)) := by
  unfold fX5_way
  have ql0 : (0 : Int32).toInt = 0 := by decide
  have ql1 : (1 : Int32).toInt = 1 := by decide
  have ql2 : (2 : Int32).toInt = 2 := by decide
  have r1 := rgI p0
  refine sXb (s_X5_deskAt hN hK) (by decide) (by decide) (fun x2 b2 => ?_)
  obtain ⟨b2_0, -⟩ := b2
  replace b2_0 : (0 ≤ p0.toInt ∧ p0.toInt ≤ 1) := b2_0
  have r3 := rgI p1
  refine sXb (s_X5_checkRange hN hK (by first | omega | decide) (by first | omega | decide) (by first | omega | decide) (by first | omega | decide)) (by decide) (by decide) (fun x9 b4 => ?_)
  obtain ⟨b4_0, -⟩ := b4
  replace b4_0 : ((0 : Int32).toInt ≤ p1.toInt ∧ p1.toInt ≤ (2 : Int32).toInt) := b4_0
  refine sIf (fun h5 => ?_) (fun h5 => ?_)
  · have fh5 := eqT h5
    refine sBind (s_X4_sum hN hK) (fun x41 b6 => ?_)
    have r7 := rgI x41
    exact sXl trivial
  · have fh5 := eqF h5
    refine sIf (fun h8 => ?_) (fun h8 => ?_)
    · have fh8 := eqT h8
      refine sBind (s_X4_parts hN hK) (fun x46 b9 => ?_)
      have r10 := rgI x46
      exact sXl trivial
    · have fh8 := eqF h8
      refine sBind (s_X4_differentParts hN hK) (fun x51 b11 => ?_)
      have r12 := rgI x51
      exact sXl trivial
set_option maxHeartbeats 2000000 in
theorem s_X5_isOf {N K : Nat} {f : Nat → Int32} {fs : Nat → Int32} {p0 : Int32} {p1 : Int32} {p2 : Int32} (hN : NBig N) (hK : 100 ≤ K)  : Sf (fX5_isOf N K f fs p0 p1 p2) (xP true true (fun (z : Int32 × (Nat → Int32)) => 0 ≤ z.1.toInt ∧ z.1.toInt ≤ 1 ∧ True)) := by
  unfold fX5_isOf
  have ql0 : (0 : Int32).toInt = 0 := by decide
  have ql7 : (7 : Int32).toInt = 7 := by decide
  have ql20 : (20 : Int32).toInt = 20 := by decide
  have r1 := rgI p0
  refine sXb (s_X5_deskAt hN hK) (by decide) (by decide) (fun x2 b2 => ?_)
  obtain ⟨b2_0, -⟩ := b2
  replace b2_0 : (0 ≤ p0.toInt ∧ p0.toInt ≤ 1) := b2_0
  have r3 := rgI p1
  refine sXb (s_X5_checkRange hN hK (by first | omega | decide) (by first | omega | decide) (by first | omega | decide) (by first | omega | decide)) (by decide) (by decide) (fun x11 b4 => ?_)
  obtain ⟨b4_0, -⟩ := b4
  replace b4_0 : ((0 : Int32).toInt ≤ p1.toInt ∧ p1.toInt ≤ (7 : Int32).toInt) := b4_0
  have r5 := rgI p2
  refine sXb (s_X5_checkRange hN hK (by first | omega | decide) (by first | omega | decide) (by first | omega | decide) (by first | omega | decide)) (by decide) (by decide) (fun x18 b6 => ?_)
  obtain ⟨b6_0, -⟩ := b6
  replace b6_0 : ((0 : Int32).toInt ≤ p2.toInt ∧ p2.toInt ≤ (20 : Int32).toInt) := b6_0
  refine sBind (s_X4_isOfKind hN hK (by first | omega | decide) (by first | omega | decide) (by first | omega | decide) (by first | omega | decide)) (fun x29 b7 => ?_)
  obtain ⟨b7_0, b7_1, -⟩ := b7
  replace b7_0 : 0 ≤ x29.1.toInt := b7_0
  replace b7_1 : x29.1.toInt ≤ 1 := b7_1
  have r8 := rgI x29.1
  refine sIfT (b01 (by omega) (by omega)) ?_
  exact sXl ⟨(by show 0 ≤ x29.1.toInt; omega), (by show x29.1.toInt ≤ 1; omega), trivial⟩
set_option maxHeartbeats 2000000 in
theorem s_X5_isSameWay {N K : Nat} {f : Nat → Int32} {f2 : Nat → Int32} (hN : NBig N) (hK : 100 ≤ K)  : Sf (fX5_isSameWay N K f f2) (xP true false (fun (z : Int32) => 0 ≤ z.toInt ∧ z.toInt ≤ 1 ∧ True)) := by
  unfold fX5_isSameWay
  have ql0 : (0 : Int32).toInt = 0 := by decide
  have ql1 : (1 : Int32).toInt = 1 := by decide
  refine sXb (s_X5_deskAt hN hK) (by decide) (by decide) (fun x2 b1 => ?_)
  obtain ⟨b1_0, -⟩ := b1
  replace b1_0 : (0 ≤ (0 : Int32).toInt ∧ (0 : Int32).toInt ≤ 1) := b1_0
  refine sXb (s_X5_deskAt hN hK) (by decide) (by decide) (fun x7 b2 => ?_)
  obtain ⟨b2_0, -⟩ := b2
  replace b2_0 : (0 ≤ (1 : Int32).toInt ∧ (1 : Int32).toInt ≤ 1) := b2_0
  refine sBind (s_X4_isLike hN hK) (fun x10 b3 => ?_)
  obtain ⟨b3_0, b3_1, -⟩ := b3
  replace b3_0 : 0 ≤ x10.toInt := b3_0
  replace b3_1 : x10.toInt ≤ 1 := b3_1
  have r4 := rgI x10
  refine sIfT (b01 (by omega) (by omega)) ?_
  exact sXl ⟨(by show 0 ≤ x10.toInt; omega), (by show x10.toInt ≤ 1; omega), trivial⟩
set_option maxHeartbeats 2000000 in
theorem s_X5_tally {N K : Nat} {c0 : Int32} {c1 : Int32} {c2 : Int32} {c3 : Int32} {c4 : Int32} {c5 : Int32} {p0 : Int32} (hN : NBig N) (hK : 100 ≤ K)  : Sf (fX5_tally N K c0 c1 c2 c3 c4 c5 p0) (xP false true (fun (z : Int32) => True)) := by
  unfold fX5_tally
  have ql0 : (0 : Int32).toInt = 0 := by decide
  have ql1 : (1 : Int32).toInt = 1 := by decide
  have ql2 : (2 : Int32).toInt = 2 := by decide
  have ql3 : (3 : Int32).toInt = 3 := by decide
  have ql4 : (4 : Int32).toInt = 4 := by decide
  have ql5 : (5 : Int32).toInt = 5 := by decide
  have r1 := rgI p0
  refine sXb (s_X5_checkRange hN hK (by first | omega | decide) (by first | omega | decide) (by first | omega | decide) (by first | omega | decide)) (by decide) (by decide) (fun x3 b2 => ?_)
  obtain ⟨b2_0, -⟩ := b2
  replace b2_0 : ((0 : Int32).toInt ≤ p0.toInt ∧ p0.toInt ≤ (5 : Int32).toInt) := b2_0
  refine sIf (fun h3 => ?_) (fun h3 => ?_)
  · have fh3 := eqT h3
    have r4 := rgI c0
    exact sXl trivial
  · have fh3 := eqF h3
    refine sIf (fun h5 => ?_) (fun h5 => ?_)
    · have fh5 := eqT h5
      have r6 := rgI c1
      exact sXl trivial
    · have fh5 := eqF h5
      refine sIf (fun h7 => ?_) (fun h7 => ?_)
      · have fh7 := eqT h7
        have r8 := rgI c2
        exact sXl trivial
      · have fh7 := eqF h7
        refine sIf (fun h9 => ?_) (fun h9 => ?_)
        · have fh9 := eqT h9
          have r10 := rgI c3
          exact sXl trivial
        · have fh9 := eqF h9
          refine sIf (fun h11 => ?_) (fun h11 => ?_)
          · have fh11 := eqT h11
            have r12 := rgI c4
            exact sXl trivial
          · have fh11 := eqF h11
            have r13 := rgI c5
            exact sXl trivial
set_option maxHeartbeats 2000000 in
theorem s_X5_knock {N K : Nat} {c0 : Int32} {c1 : Int32} {c2 : Int32} {c3 : Int32} {c4 : Int32} {c5 : Int32} (hN : NBig N) (hK : 100 ≤ K)  : Sf (fX5_knock N K c0 c1 c2 c3 c4 c5) (fun (z : Int32 × Int32) => True) := by
  unfold fX5_knock
  have ql0 : (0 : Int32).toInt = 0 := by decide
  have r1 := rgI (c5 + (1 : Int32))
  exact sRet trivial
