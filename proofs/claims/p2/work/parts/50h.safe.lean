set_option maxHeartbeats 2000000 in
theorem s_X7_forget {N K : Nat} {th : Int32} {f : Nat → Int32} {t : Nat → Int32} {p0 : Int32} {p1 : Int32} {p2 : Int32} {p3 : Int32} (hN : NBig N) (hK : 100 ≤ K)  : Sf (fX7_forget N K th f t p0 p1 p2 p3) (fun (z : Int32 × Int32 × (Nat → Int32) × (Nat → Int32)) => 0 ≤ z.2.1.toInt ∧ z.2.1.toInt ≤ 2 ∧ True) := by
  unfold fX7_forget
  have ql0 : (0 : Int32).toInt = 0 := by decide
  have ql2 : (2 : Int32).toInt = 2 := by decide
  have r1 := rgI p0
  refine sBind (s_X7_isNo hN hK (by first | omega | decide) (by first | omega | decide) (by first | omega | decide) (by first | omega | decide)) (fun x4 b2 => ?_)
  obtain ⟨b2_0, b2_1, b2_2, -⟩ := b2
  replace b2_0 : 0 ≤ x4.toInt := b2_0
  replace b2_1 : x4.toInt ≤ 1 := b2_1
  replace b2_2 : (x4.toInt = 0 → ((0 : Int32).toInt ≤ p0.toInt ∧ p0.toInt ≤ (2 : Int32).toInt)) := b2_2
  have r3 := rgI p1
  have r4 := rgI p2
  have r5 := rgI p3
  refine sBind (s_X7_isOut hN hK) (fun x11 b6 => ?_)
  obtain ⟨b6_0, b6_1, b6_2, b6_3, b6_4, -⟩ := b6
  replace b6_0 : 0 ≤ x11.toInt := b6_0
  replace b6_1 : x11.toInt ≤ 1 := b6_1
  replace b6_2 : (x11.toInt = 0 → (0 ≤ p1.toInt ∧ p1.toInt ≤ 5)) := b6_2
  replace b6_3 : (x11.toInt = 0 → (0 ≤ p2.toInt ∧ p2.toInt ≤ 20)) := b6_3
  replace b6_4 : (x11.toInt = 0 → (0 ≤ p3.toInt ∧ p3.toInt ≤ 20)) := b6_4
  have r7 := rgI th
  have r8 := rgI x4
  have r9 := rgI x11
  refine sBind (s_X7_isThrown hN hK (by first | omega | decide) (by first | omega | decide) (by first | omega | decide) (by first | omega | decide)) (fun x14 b10 => ?_)
  obtain ⟨b10_0, b10_1, b10_2, b10_3, b10_4, b10_5, -⟩ := b10
  replace b10_0 : 0 ≤ x14.1.toInt := b10_0
  replace b10_1 : x14.1.toInt ≤ 1 := b10_1
  replace b10_2 : 0 ≤ x14.2.toInt := b10_2
  replace b10_3 : x14.2.toInt ≤ 2 := b10_3
  replace b10_4 : (x14.1.toInt = 0 → (0 ≤ x4.toInt ∧ x4.toInt ≤ 0)) := b10_4
  replace b10_5 : (x14.1.toInt = 0 → (0 ≤ x11.toInt ∧ x11.toInt ≤ 0)) := b10_5
  refine sIf (fun h11 => ?_) (fun h11 => ?_)
  · have r12 := rgI x14.1
    have fh11 := eqT h11
    have r13 := rgI x14.2
    refine sBind (s_X7_kept hN hK (by first | omega | decide) (by first | omega | decide) (by first | omega | decide) (by first | omega | decide) (by first | omega | decide) (by first | omega | decide) (by first | omega | decide) (by first | omega | decide) (by first | omega | decide) (by first | omega | decide)) (fun x28 b14 => ?_)
    refine sIf (fun h15 => ?_) (fun h15 => ?_)
    · have r16 := rgI x28
      have fh15 := leT h15
      refine sIfF (noob (by omega) (by omega)) ?_
      refine sBind (s_X7_code hN hK (by first | omega | decide) (by first | omega | decide) (by first | omega | decide)) (fun x53 b17 => ?_)
      have r18 := rgI x53
      refine sIfF (noob (by omega) (by omega)) ?_
      refine sBind (s_X7_done hN hK (by first | omega | decide) (by first | omega | decide)) (fun x61 b19 => ?_)
      have r20 := rgI x61.1
      exact sRet ⟨(by show 0 ≤ x14.2.toInt; omega), (by show x14.2.toInt ≤ 2; omega), trivial⟩
    · have r21 := rgI x28
      have fh15 := leF h15
      refine sBind (s_X7_refused hN hK (by first | omega | decide) (by first | omega | decide)) (fun x39 b22 => ?_)
      obtain ⟨b22_0, b22_1, -⟩ := b22
      replace b22_0 : -9 ≤ x39.1.toInt := b22_0
      replace b22_1 : x39.1.toInt ≤ -9 := b22_1
      have r23 := rgI x39.1
      exact sRet ⟨(by show 0 ≤ x14.2.toInt; omega), (by show x14.2.toInt ≤ 2; omega), trivial⟩
  · have r24 := rgI x14.1
    have fh11 := eqF h11
    have r25 := rgI x14.2
    exact sRet ⟨(by show 0 ≤ x14.2.toInt; omega), (by show x14.2.toInt ≤ 2; omega), trivial⟩
set_option maxHeartbeats 2000000 in
theorem s_X7_forgetIf_72 {N K : Nat} {th : Int32} {f : Nat → Int32} {t : Nat → Int32} {p0 : Int32} {p1 : Int32} {p2 : Int32} {p3 : Int32} {p4 : Int32} (hN : NBig N) (hK : 100 ≤ K)  : ∀ (l7 : Int32) (th_ : Int32) (f_ : Nat → Int32) (t_ : Nat → Int32), 0 ≤ p0.toInt → p0.toInt ≤ 2 → 0 ≤ p1.toInt → p1.toInt ≤ 5 → 0 ≤ p2.toInt → p2.toInt ≤ 20 → 0 ≤ p3.toInt → p3.toInt ≤ 20 → 0 ≤ l7.toInt → l7.toInt ≤ 1 → 0 ≤ th_.toInt → th_.toInt ≤ 2 → Sf (fX7_forgetIf_72 N K th f t p0 p1 p2 p3 p4  l7 th_ f_ t_) (fun (z : Int32 × Int32 × (Nat → Int32) × (Nat → Int32)) => 0 ≤ z.2.1.toInt ∧ z.2.1.toInt ≤ 2 ∧ True) := by
  intro l7 th_ f_ t_ hq0 hq1 hq2 hq3 hq4 hq5 hq6 hq7 hq8 hq9 hq10 hq11
  unfold fX7_forgetIf_72
  have ql0 : (0 : Int32).toInt = 0 := by decide
  have r1 := rgI l7
  refine sBind (s_X7_bit hN hK (by first | omega | decide) (by first | omega | decide)) (fun x75 b2 => ?_)
  obtain ⟨b2_0, b2_1, -⟩ := b2
  replace b2_0 : 0 ≤ x75.toInt := b2_0
  replace b2_1 : x75.toInt ≤ 1 := b2_1
  have r3 := rgI th_
  have r4 := rgI x75
  refine sBind (s_X7_done hN hK (by first | omega | decide) (by first | omega | decide)) (fun x78 b5 => ?_)
  have r6 := rgI x78.1
  exact sRet ⟨(by show 0 ≤ th_.toInt; omega), (by show th_.toInt ≤ 2; omega), trivial⟩
set_option maxHeartbeats 2000000 in
theorem s_X7_forgetIf_50 {N K : Nat} {th : Int32} {f : Nat → Int32} {t : Nat → Int32} {p0 : Int32} {p1 : Int32} {p2 : Int32} {p3 : Int32} {p4 : Int32} (hN : NBig N) (hK : 100 ≤ K)  : ∀ (s0 : Int32) (th_ : Int32) (f_ : Nat → Int32) (t_ : Nat → Int32), 0 ≤ p0.toInt → p0.toInt ≤ 2 → 0 ≤ p1.toInt → p1.toInt ≤ 5 → 0 ≤ p2.toInt → p2.toInt ≤ 20 → 0 ≤ p3.toInt → p3.toInt ≤ 20 → 0 ≤ s0.toInt → s0.toInt ≤ 1 → 0 ≤ th_.toInt → th_.toInt ≤ 2 → (s0.toInt = 0 → 0 ≤ p0.toInt ∧ p0.toInt ≤ 2 ∧ 0 ≤ p1.toInt ∧ p1.toInt ≤ 5 ∧ 0 ≤ p2.toInt ∧ p2.toInt ≤ 20 ∧ 0 ≤ p3.toInt ∧ p3.toInt ≤ 20) → Sf (fX7_forgetIf_50 N K th f t p0 p1 p2 p3 p4  s0 th_ f_ t_) (fun (z : Int32 × Int32 × (Nat → Int32) × (Nat → Int32)) => 0 ≤ z.2.1.toInt ∧ z.2.1.toInt ≤ 2 ∧ True) := by
  intro s0 th_ f_ t_ hq0 hq1 hq2 hq3 hq4 hq5 hq6 hq7 hq8 hq9 hq10 hq11 hq12
  unfold fX7_forgetIf_50
  have ql0 : (0 : Int32).toInt = 0 := by decide
  refine sIf (fun h1 => ?_) (fun h1 => ?_)
  · have r2 := rgI s0
    have fh1 := eqT h1
    have r3 := rgI th_
    exact s_X7_forgetIf_72  hN hK _ _ _ _ (by first | omega | decide) (by first | omega | decide) (by first | omega | decide) (by first | omega | decide) (by first | omega | decide) (by first | omega | decide) (by first | omega | decide) (by first | omega | decide) (by first | omega | decide) (by first | omega | decide) (by first | omega | decide) (by first | omega | decide)
  · have r4 := rgI s0
    have fh1 := eqF h1
    have r5 := rgI p0
    refine sIfF (noob (by omega) (by omega)) ?_
    have r6 := rgI p1
    have r7 := rgI p2
    have r8 := rgI p3
    refine sBind (s_X7_code hN hK (by first | omega | decide) (by first | omega | decide) (by first | omega | decide)) (fun x67 b9 => ?_)
    have r10 := rgI x67
    refine sIfF (noob (by omega) (by omega)) ?_
    have r11 := rgI th_
    exact s_X7_forgetIf_72  hN hK _ _ _ _ (by first | omega | decide) (by first | omega | decide) (by first | omega | decide) (by first | omega | decide) (by first | omega | decide) (by first | omega | decide) (by first | omega | decide) (by first | omega | decide) (by first | omega | decide) (by first | omega | decide) (by first | omega | decide) (by first | omega | decide)
set_option maxHeartbeats 2000000 in
theorem s_X7_forgetIf_49 {N K : Nat} {th : Int32} {f : Nat → Int32} {t : Nat → Int32} {p0 : Int32} {p1 : Int32} {p2 : Int32} {p3 : Int32} {p4 : Int32} (hN : NBig N) (hK : 100 ≤ K)  : ∀ (th_ : Int32) (f_ : Nat → Int32) (t_ : Nat → Int32), 0 ≤ p0.toInt → p0.toInt ≤ 2 → 0 ≤ p1.toInt → p1.toInt ≤ 5 → 0 ≤ p2.toInt → p2.toInt ≤ 20 → 0 ≤ p3.toInt → p3.toInt ≤ 20 → 0 ≤ th_.toInt → th_.toInt ≤ 2 → Sf (fX7_forgetIf_49 N K th f t p0 p1 p2 p3 p4  th_ f_ t_) (fun (z : Int32 × Int32 × (Nat → Int32) × (Nat → Int32)) => 0 ≤ z.2.1.toInt ∧ z.2.1.toInt ≤ 2 ∧ True) := by
  intro th_ f_ t_ hq0 hq1 hq2 hq3 hq4 hq5 hq6 hq7 hq8 hq9
  unfold fX7_forgetIf_49
  have ql0 : (0 : Int32).toInt = 0 := by decide
  have r1 := rgI th_
  exact s_X7_forgetIf_50  hN hK _ _ _ _ (by first | omega | decide) (by first | omega | decide) (by first | omega | decide) (by first | omega | decide) (by first | omega | decide) (by first | omega | decide) (by first | omega | decide) (by first | omega | decide) (by first | omega | decide) (by first | omega | decide) (by first | omega | decide) (by first | omega | decide) (by first | omega | decide)
set_option maxHeartbeats 2000000 in
theorem s_X7_forgetIf {N K : Nat} {th : Int32} {f : Nat → Int32} {t : Nat → Int32} {p0 : Int32} {p1 : Int32} {p2 : Int32} {p3 : Int32} {p4 : Int32} (hN : NBig N) (hK : 100 ≤ K)  : Sf (fX7_forgetIf N K th f t p0 p1 p2 p3 p4) (fun (z : Int32 × Int32 × (Nat → Int32) × (Nat → Int32)) => 0 ≤ z.2.1.toInt ∧ z.2.1.toInt ≤ 2 ∧ True) := by
  unfold fX7_forgetIf
  have ql0 : (0 : Int32).toInt = 0 := by decide
  have ql1 : (1 : Int32).toInt = 1 := by decide
  have ql2 : (2 : Int32).toInt = 2 := by decide
  have r1 := rgI p0
  refine sBind (s_X7_isNo hN hK (by first | omega | decide) (by first | omega | decide) (by first | omega | decide) (by first | omega | decide)) (fun x4 b2 => ?_)
  obtain ⟨b2_0, b2_1, b2_2, -⟩ := b2
  replace b2_0 : 0 ≤ x4.toInt := b2_0
  replace b2_1 : x4.toInt ≤ 1 := b2_1
  replace b2_2 : (x4.toInt = 0 → ((0 : Int32).toInt ≤ p0.toInt ∧ p0.toInt ≤ (2 : Int32).toInt)) := b2_2
  have r3 := rgI p1
  have r4 := rgI p2
  have r5 := rgI p3
  refine sBind (s_X7_isOut hN hK) (fun x11 b6 => ?_)
  obtain ⟨b6_0, b6_1, b6_2, b6_3, b6_4, -⟩ := b6
  replace b6_0 : 0 ≤ x11.toInt := b6_0
  replace b6_1 : x11.toInt ≤ 1 := b6_1
  replace b6_2 : (x11.toInt = 0 → (0 ≤ p1.toInt ∧ p1.toInt ≤ 5)) := b6_2
  replace b6_3 : (x11.toInt = 0 → (0 ≤ p2.toInt ∧ p2.toInt ≤ 20)) := b6_3
  replace b6_4 : (x11.toInt = 0 → (0 ≤ p3.toInt ∧ p3.toInt ≤ 20)) := b6_4
  have r7 := rgI th
  have r8 := rgI x4
  have r9 := rgI x11
  refine sBind (s_X7_isThrown hN hK (by first | omega | decide) (by first | omega | decide) (by first | omega | decide) (by first | omega | decide)) (fun x14 b10 => ?_)
  obtain ⟨b10_0, b10_1, b10_2, b10_3, b10_4, b10_5, -⟩ := b10
  replace b10_0 : 0 ≤ x14.1.toInt := b10_0
  replace b10_1 : x14.1.toInt ≤ 1 := b10_1
  replace b10_2 : 0 ≤ x14.2.toInt := b10_2
  replace b10_3 : x14.2.toInt ≤ 2 := b10_3
  replace b10_4 : (x14.1.toInt = 0 → (0 ≤ x4.toInt ∧ x4.toInt ≤ 0)) := b10_4
  replace b10_5 : (x14.1.toInt = 0 → (0 ≤ x11.toInt ∧ x11.toInt ≤ 0)) := b10_5
  refine sIf (fun h11 => ?_) (fun h11 => ?_)
  · have r12 := rgI x14.1
    have fh11 := eqT h11
    have r13 := rgI x14.2
    refine sBind (s_X7_kept hN hK (by first | omega | decide) (by first | omega | decide) (by first | omega | decide) (by first | omega | decide) (by first | omega | decide) (by first | omega | decide) (by first | omega | decide) (by first | omega | decide) (by first | omega | decide) (by first | omega | decide)) (fun x28 b14 => ?_)
    refine sIf (fun h15 => ?_) (fun h15 => ?_)
    · have r16 := rgI x28
      have fh15 := ltT h15
      exact s_X7_forgetIf_49  hN hK _ _ _ (by first | omega | decide) (by first | omega | decide) (by first | omega | decide) (by first | omega | decide) (by first | omega | decide) (by first | omega | decide) (by first | omega | decide) (by first | omega | decide) (by first | omega | decide) (by first | omega | decide)
    · have r17 := rgI x28
      have fh15 := ltF h15
      refine sIf (fun h18 => ?_) (fun h18 => ?_)
      · have r19 := rgI p4
        have fh18 := eqT h18
        exact s_X7_forgetIf_50  hN hK _ _ _ _ (by first | omega | decide) (by first | omega | decide) (by first | omega | decide) (by first | omega | decide) (by first | omega | decide) (by first | omega | decide) (by first | omega | decide) (by first | omega | decide) (by first | omega | decide) (by first | omega | decide) (by first | omega | decide) (by first | omega | decide) (by first | omega | decide)
      · have r20 := rgI p4
        have fh18 := eqF h18
        exact s_X7_forgetIf_49  hN hK _ _ _ (by first | omega | decide) (by first | omega | decide) (by first | omega | decide) (by first | omega | decide) (by first | omega | decide) (by first | omega | decide) (by first | omega | decide) (by first | omega | decide) (by first | omega | decide) (by first | omega | decide)
  · have r21 := rgI x14.1
    have fh11 := eqF h11
    have r22 := rgI x14.2
    exact sRet ⟨(by show 0 ≤ x14.2.toInt; omega), (by show x14.2.toInt ≤ 2; omega), trivial⟩
set_option maxHeartbeats 2000000 in
theorem s_X7_isSo_56 {N K : Nat} {th : Int32} {f : Nat → Int32} {p0 : Int32} {p1 : Int32} {p2 : Int32} {p3 : Int32} (hN : NBig N) (hK : 100 ≤ K) (hp0 : 0 ≤ th.toInt) (hp1 : th.toInt ≤ 2) (hp2 : 0 ≤ p0.toInt) (hp3 : p0.toInt ≤ 2) (hp4 : 0 ≤ p1.toInt) (hp5 : p1.toInt ≤ 6143) (hp6 : 0 ≤ p2.toInt) (hp7 : p2.toInt ≤ 3) : ∀ (s0 : Int32) (s1 : Int32), 0 ≤ s0.toInt → (s0.toInt = 0 → 0 ≤ th.toInt ∧ th.toInt ≤ 2 ∧ 0 ≤ p0.toInt ∧ p0.toInt ≤ 2 ∧ 0 ≤ p2.toInt ∧ p2.toInt ≤ 3) → (s1.toInt = 0 → 0 ≤ th.toInt ∧ th.toInt ≤ 2 ∧ 0 ≤ p0.toInt ∧ p0.toInt ≤ 2 ∧ 0 ≤ p2.toInt ∧ p2.toInt ≤ 3 ∧ 0 ≤ p3.toInt ∧ p3.toInt ≤ 0) → Sf (fX7_isSo_56 N K th f p0 p1 p2 p3  s0 s1) (fun (z : Int32) => 0 ≤ z.toInt ∧ z.toInt ≤ 1 ∧ True) := by
  intro s0 s1 hq0 hq1 hq2
  unfold fX7_isSo_56
  have ql0 : (0 : Int32).toInt = 0 := by decide
  have ql1 : (1 : Int32).toInt = 1 := by decide
  refine sIf (fun h1 => ?_) (fun h1 => ?_)
  · have r2 := rgI s1
    have r3 := rgI s0
    have fh1 := eqT h1
    exact sRet ⟨(by show 0 ≤ (1 : Int32).toInt; decide), (by show (1 : Int32).toInt ≤ 1; decide), trivial⟩
  · have r4 := rgI s1
    have r5 := rgI s0
    have fh1 := eqF h1
    exact sRet ⟨(by show 0 ≤ (0 : Int32).toInt; decide), (by show (0 : Int32).toInt ≤ 1; decide), trivial⟩
set_option maxHeartbeats 2000000 in
theorem s_X7_isSo {N K : Nat} {th : Int32} {f : Nat → Int32} {p0 : Int32} {p1 : Int32} {p2 : Int32} {p3 : Int32} (hN : NBig N) (hK : 100 ≤ K) (hp0 : 0 ≤ th.toInt) (hp1 : th.toInt ≤ 2) (hp2 : 0 ≤ p0.toInt) (hp3 : p0.toInt ≤ 2) (hp4 : 0 ≤ p1.toInt) (hp5 : p1.toInt ≤ 6143) (hp6 : 0 ≤ p2.toInt) (hp7 : p2.toInt ≤ 3) : Sf (fX7_isSo N K th f p0 p1 p2 p3) (fun (z : Int32) => 0 ≤ z.toInt ∧ z.toInt ≤ 1 ∧ True) := by
  unfold fX7_isSo
  have ql0 : (0 : Int32).toInt = 0 := by decide
  have ql1 : (1 : Int32).toInt = 1 := by decide
  have ql2 : (2 : Int32).toInt = 2 := by decide
  have r1 := rgI p0
  refine sIfF (noob (by omega) (by omega)) ?_
  have r2 := rgI p1
  refine sIfF (noob (by omega) (by omega)) ?_
  refine sIf (fun h3 => ?_) (fun h3 => ?_)
  · have r4 := rgI (f p1.toNatClampNeg)
    have fh3 := leT h3
    refine sIf (fun h5 => ?_) (fun h5 => ?_)
    · have r6 := rgI p2
      have fh5 := eqT h5
      refine sBind (s_X7_kindOf hN hK (by first | omega | decide) (by first | omega | decide)) (fun x24 b7 => ?_)
      obtain ⟨b7_0, b7_1, -⟩ := b7
      replace b7_0 : 0 ≤ x24.toInt := b7_0
      replace b7_1 : x24.toInt ≤ 5 := b7_1
      have r8 := rgI x24
      have r9 := rgI p3
      exact s_X7_isSo_56  hN hK (by omega) (by omega) (by omega) (by omega) (by omega) (by omega) (by omega) (by omega) _ _ (by first | omega | decide) (by first | omega | decide) (by first | omega | decide)
    · have r10 := rgI p2
      have fh5 := eqF h5
      refine sIf (fun h11 => ?_) (fun h11 => ?_)
      · have fh11 := eqT h11
        refine sBind (s_X7_numberOf hN hK (by first | omega | decide) (by first | omega | decide)) (fun x36 b12 => ?_)
        obtain ⟨b12_0, b12_1, -⟩ := b12
        replace b12_0 : 0 ≤ x36.toInt := b12_0
        replace b12_1 : x36.toInt ≤ 31 := b12_1
        have r13 := rgI x36
        have r14 := rgI p3
        exact s_X7_isSo_56  hN hK (by omega) (by omega) (by omega) (by omega) (by omega) (by omega) (by omega) (by omega) _ _ (by first | omega | decide) (by first | omega | decide) (by first | omega | decide)
      · have fh11 := eqF h11
        refine sIf (fun h15 => ?_) (fun h15 => ?_)
        · have fh15 := eqT h15
          refine sBind (s_X7_measureOf hN hK (by first | omega | decide) (by first | omega | decide)) (fun x48 b16 => ?_)
          obtain ⟨b16_0, b16_1, -⟩ := b16
          replace b16_0 : 0 ≤ x48.toInt := b16_0
          replace b16_1 : x48.toInt ≤ 31 := b16_1
          have r17 := rgI x48
          have r18 := rgI p3
          exact s_X7_isSo_56  hN hK (by omega) (by omega) (by omega) (by omega) (by omega) (by omega) (by omega) (by omega) _ _ (by first | omega | decide) (by first | omega | decide) (by first | omega | decide)
        · have fh15 := eqF h15
          have r19 := rgI p3
          exact s_X7_isSo_56  hN hK (by omega) (by omega) (by omega) (by omega) (by omega) (by omega) (by omega) (by omega) _ _ (by first | omega | decide) (by first | omega | decide) (by first | omega | decide)
  · have r20 := rgI (f p1.toNatClampNeg)
    have fh3 := leF h3
    exact sRet ⟨(by show 0 ≤ (0 : Int32).toInt; decide), (by show (0 : Int32).toInt ≤ 1; decide), trivial⟩
set_option maxHeartbeats 2000000 in
theorem s_X7_counted_6 {N K : Nat} {th : Int32} {f : Nat → Int32} {p0 : Int32} {p1 : Int32} {p2 : Int32} (hN : NBig N) (hK : 100 ≤ K) (hp0 : 0 ≤ th.toInt) (hp1 : th.toInt ≤ 2) (hp2 : 0 ≤ p0.toInt) (hp3 : p0.toInt ≤ 2) (hp4 : 0 ≤ p1.toInt) (hp5 : p1.toInt ≤ 3) : ∀ (fu : Nat) (l4 : Int32) (l5 : Int32), (6144 - l5.toInt).toNat < fu → 0 ≤ l5.toInt → l5.toInt ≤ 6144 → Sf (fX7_counted_6 N K th f p0 p1 p2  fu l4 l5) (fun (z : Int32) => True) := by
  intro fu
  induction fu with
  | zero => intro l4 l5 h0 hq0 hq1; omega
  | succ fu ih =>
    intro l4 l5 h0 hq0 hq1
    unfold fX7_counted_6
    have ql0 : (0 : Int32).toInt = 0 := by decide
    have ql1 : (1 : Int32).toInt = 1 := by decide
    have ql6144 : (6144 : Int32).toInt = 6144 := by decide
    refine sIf (fun h1 => ?_) (fun h1 => ?_)
    · have r2 := rgI l5
      have fh1 := leT h1
      have r3 := rgI l4
      exact sRet trivial
    · have r4 := rgI l5
      have fh1 := leF h1
      have r5 := rgI th
      have r6 := rgI p0
      have r7 := rgI p1
      have r8 := rgI p2
      refine sBind (s_X7_isSo hN hK (by first | omega | decide) (by first | omega | decide) (by first | omega | decide) (by first | omega | decide) (by first | omega | decide) (by first | omega | decide) (by first | omega | decide) (by first | omega | decide)) (fun x22 b9 => ?_)
      obtain ⟨b9_0, b9_1, -⟩ := b9
      replace b9_0 : 0 ≤ x22.toInt := b9_0
      replace b9_1 : x22.toInt ≤ 1 := b9_1
      have r10 := rgI x22
      refine sBind (s_X7_bit hN hK (by first | omega | decide) (by first | omega | decide)) (fun x25 b11 => ?_)
      obtain ⟨b11_0, b11_1, -⟩ := b11
      replace b11_0 : 0 ≤ x25.toInt := b11_0
      replace b11_1 : x25.toInt ≤ 1 := b11_1
      have r12 := rgI (l4 + x25)
      have t13 := addI (a := l5) (b := (1 : Int32)) (by omega) (by omega)
      exact ih _ _ (by omega) (by first | omega | decide) (by first | omega | decide)
set_option maxHeartbeats 2000000 in
theorem s_X7_counted {N K : Nat} {th : Int32} {f : Nat → Int32} {p0 : Int32} {p1 : Int32} {p2 : Int32} (hN : NBig N) (hK : 100 ≤ K) (hp0 : 0 ≤ th.toInt) (hp1 : th.toInt ≤ 2) (hp2 : 0 ≤ p0.toInt) (hp3 : p0.toInt ≤ 2) (hp4 : 0 ≤ p1.toInt) (hp5 : p1.toInt ≤ 3) : Sf (fX7_counted N K th f p0 p1 p2) (fun (z : Int32) => True) := by
  unfold fX7_counted
  have hN9 := hN.u
  have ql0 : (0 : Int32).toInt = 0 := by decide
  exact s_X7_counted_6  hN hK (by omega) (by omega) (by omega) (by omega) (by omega) (by omega) _ _ _ (by omega) (by first | omega | decide) (by first | omega | decide)
set_option maxHeartbeats 2000000 in
theorem s_X7_forgetAll_63 {N K : Nat} {th : Int32} {f : Nat → Int32} {t : Nat → Int32} {p0 : Int32} {p1 : Int32} {p2 : Int32} (hN : NBig N) (hK : 100 ≤ K)  {k_33 : Int32 → Int32 → Int32 → (Nat → Int32) → (Nat → Int32) → Option (Int32 × Int32 × (Nat → Int32) × (Nat → Int32))} {m_33 : Nat} (hk_33 : ∀ (l4 : Int32) (l5 : Int32) (th_ : Int32) (f_ : (Nat → Int32)) (t_ : (Nat → Int32)), (6144 - l5.toInt).toNat < m_33 → 0 ≤ p0.toInt → p0.toInt ≤ 2 → 0 ≤ p1.toInt → p1.toInt ≤ 3 → 0 ≤ l5.toInt → l5.toInt ≤ 6144 → 0 ≤ th_.toInt → th_.toInt ≤ 2 → Sf (k_33 l4 l5 th_ f_ t_) (fun (z : Int32 × Int32 × (Nat → Int32) × (Nat → Int32)) => 0 ≤ z.2.1.toInt ∧ z.2.1.toInt ≤ 2 ∧ True)) : ∀ (l4 : Int32) (l5 : Int32) (th_ : Int32) (f_ : Nat → Int32) (t_ : Nat → Int32), 0 ≤ p0.toInt → p0.toInt ≤ 2 → 0 ≤ p1.toInt → p1.toInt ≤ 3 → 0 ≤ l5.toInt → l5.toInt ≤ 6143 → 0 ≤ th_.toInt → th_.toInt ≤ 2 → (6144 - l5.toInt).toNat ≤ m_33 → Sf (fX7_forgetAll_63 N K th f t p0 p1 p2 k_33 l4 l5 th_ f_ t_) (fun (z : Int32 × Int32 × (Nat → Int32) × (Nat → Int32)) => 0 ≤ z.2.1.toInt ∧ z.2.1.toInt ≤ 2 ∧ True) := by
  intro l4 l5 th_ f_ t_ hq0 hq1 hq2 hq3 hq4 hq5 hq6 hq7 hq8
  unfold fX7_forgetAll_63
  have ql0 : (0 : Int32).toInt = 0 := by decide
  have ql1 : (1 : Int32).toInt = 1 := by decide
  have r1 := rgI l4
  have r3 := rgI l5
  have t2 := addI (a := l5) (b := (1 : Int32)) (by omega) (by omega)
  have r4 := rgI th_
  exact hk_33 _ _ _ _ _ (by omega) (by first | omega | decide) (by first | omega | decide) (by first | omega | decide) (by first | omega | decide) (by first | omega | decide) (by first | omega | decide) (by first | omega | decide) (by first | omega | decide)
set_option maxHeartbeats 2000000 in
theorem s_X7_forgetAll_33 {N K : Nat} {th : Int32} {f : Nat → Int32} {t : Nat → Int32} {p0 : Int32} {p1 : Int32} {p2 : Int32} (hN : NBig N) (hK : 100 ≤ K)  : ∀ (fu : Nat) (l4 : Int32) (l5 : Int32) (th_ : Int32) (f_ : (Nat → Int32)) (t_ : (Nat → Int32)), (6144 - l5.toInt).toNat < fu → 0 ≤ p0.toInt → p0.toInt ≤ 2 → 0 ≤ p1.toInt → p1.toInt ≤ 3 → 0 ≤ l5.toInt → l5.toInt ≤ 6144 → 0 ≤ th_.toInt → th_.toInt ≤ 2 → Sf (fX7_forgetAll_33 N K th f t p0 p1 p2  fu l4 l5 th_ f_ t_) (fun (z : Int32 × Int32 × (Nat → Int32) × (Nat → Int32)) => 0 ≤ z.2.1.toInt ∧ z.2.1.toInt ≤ 2 ∧ True) := by
  intro fu
  induction fu with
  | zero => intro l4 l5 th_ f_ t_ h0 hq0 hq1 hq2 hq3 hq4 hq5 hq6 hq7; omega
  | succ fu ih =>
    intro l4 l5 th_ f_ t_ h0 hq0 hq1 hq2 hq3 hq4 hq5 hq6 hq7
    unfold fX7_forgetAll_33
    have ql0 : (0 : Int32).toInt = 0 := by decide
    have ql6144 : (6144 : Int32).toInt = 6144 := by decide
    refine sIf (fun h1 => ?_) (fun h1 => ?_)
    · have r2 := rgI l5
      have fh1 := leT h1
      have r3 := rgI th_
      have r4 := rgI l4
      refine sBind (s_X7_done hN hK (by first | omega | decide) (by first | omega | decide)) (fun x72 b5 => ?_)
      have r6 := rgI x72.1
      exact sRet ⟨(by show 0 ≤ th_.toInt; omega), (by show th_.toInt ≤ 2; omega), trivial⟩
    · have r7 := rgI l5
      have fh1 := leF h1
      have r8 := rgI th_
      have r9 := rgI p0
      have r10 := rgI p1
      have r11 := rgI p2
      refine sBind (s_X7_isSo hN hK (by first | omega | decide) (by first | omega | decide) (by first | omega | decide) (by first | omega | decide) (by first | omega | decide) (by first | omega | decide) (by first | omega | decide) (by first | omega | decide)) (fun x47 b12 => ?_)
      obtain ⟨b12_0, b12_1, -⟩ := b12
      replace b12_0 : 0 ≤ x47.toInt := b12_0
      replace b12_1 : x47.toInt ≤ 1 := b12_1
      refine sIf (fun h13 => ?_) (fun h13 => ?_)
      · have r14 := rgI x47
        have fh13 := eqT h13
        have r15 := rgI l4
        exact s_X7_forgetAll_63 (hk_33 := ih) hN hK _ _ _ _ _ (by first | omega | decide) (by first | omega | decide) (by first | omega | decide) (by first | omega | decide) (by first | omega | decide) (by first | omega | decide) (by first | omega | decide) (by first | omega | decide) (by omega)
      · have r16 := rgI x47
        have fh13 := eqF h13
        refine sIfF (noob (by omega) (by omega)) ?_
        refine sIfF (noob (by omega) (by omega)) ?_
        have r17 := rgI l4
        exact s_X7_forgetAll_63 (hk_33 := ih) hN hK _ _ _ _ _ (by first | omega | decide) (by first | omega | decide) (by first | omega | decide) (by first | omega | decide) (by first | omega | decide) (by first | omega | decide) (by first | omega | decide) (by first | omega | decide) (by omega)
set_option maxHeartbeats 2000000 in
theorem s_X7_forgetAll {N K : Nat} {th : Int32} {f : Nat → Int32} {t : Nat → Int32} {p0 : Int32} {p1 : Int32} {p2 : Int32} (hN : NBig N) (hK : 100 ≤ K)  : Sf (fX7_forgetAll N K th f t p0 p1 p2) (fun (z : Int32 × Int32 × (Nat → Int32) × (Nat → Int32)) => 0 ≤ z.2.1.toInt ∧ z.2.1.toInt ≤ 2 ∧ True) := by
  unfold fX7_forgetAll
  have hN9 := hN.u
  have ql0 : (0 : Int32).toInt = 0 := by decide
  have ql2 : (2 : Int32).toInt = 2 := by decide
  have ql3 : (3 : Int32).toInt = 3 := by decide
  have r1 := rgI p0
  refine sBind (s_X7_isNo hN hK (by first | omega | decide) (by first | omega | decide) (by first | omega | decide) (by first | omega | decide)) (fun x4 b2 => ?_)
  obtain ⟨b2_0, b2_1, b2_2, -⟩ := b2
  replace b2_0 : 0 ≤ x4.toInt := b2_0
  replace b2_1 : x4.toInt ≤ 1 := b2_1
  replace b2_2 : (x4.toInt = 0 → ((0 : Int32).toInt ≤ p0.toInt ∧ p0.toInt ≤ (2 : Int32).toInt)) := b2_2
  have r3 := rgI p1
  refine sBind (s_X7_isNo hN hK (by first | omega | decide) (by first | omega | decide) (by first | omega | decide) (by first | omega | decide)) (fun x10 b4 => ?_)
  obtain ⟨b4_0, b4_1, b4_2, -⟩ := b4
  replace b4_0 : 0 ≤ x10.toInt := b4_0
  replace b4_1 : x10.toInt ≤ 1 := b4_1
  replace b4_2 : (x10.toInt = 0 → ((0 : Int32).toInt ≤ p1.toInt ∧ p1.toInt ≤ (3 : Int32).toInt)) := b4_2
  have r5 := rgI th
  have r6 := rgI x4
  have r7 := rgI x10
  refine sBind (s_X7_isThrown hN hK (by first | omega | decide) (by first | omega | decide) (by first | omega | decide) (by first | omega | decide)) (fun x13 b8 => ?_)
  obtain ⟨b8_0, b8_1, b8_2, b8_3, b8_4, b8_5, -⟩ := b8
  replace b8_0 : 0 ≤ x13.1.toInt := b8_0
  replace b8_1 : x13.1.toInt ≤ 1 := b8_1
  replace b8_2 : 0 ≤ x13.2.toInt := b8_2
  replace b8_3 : x13.2.toInt ≤ 2 := b8_3
  replace b8_4 : (x13.1.toInt = 0 → (0 ≤ x4.toInt ∧ x4.toInt ≤ 0)) := b8_4
  replace b8_5 : (x13.1.toInt = 0 → (0 ≤ x10.toInt ∧ x10.toInt ≤ 0)) := b8_5
  refine sIf (fun h9 => ?_) (fun h9 => ?_)
  · have r10 := rgI x13.1
    have fh9 := eqT h9
    have r11 := rgI x13.2
    have r12 := rgI p2
    refine sBind (s_X7_counted hN hK (by first | omega | decide) (by first | omega | decide) (by first | omega | decide) (by first | omega | decide) (by first | omega | decide) (by first | omega | decide)) (fun x25 b13 => ?_)
    have r14 := rgI x25
    exact s_X7_forgetAll_33  hN hK _ _ _ _ _ _ (by omega) (by first | omega | decide) (by first | omega | decide) (by first | omega | decide) (by first | omega | decide) (by first | omega | decide) (by first | omega | decide) (by first | omega | decide) (by first | omega | decide)
  · have r15 := rgI x13.1
    have fh9 := eqF h9
    have r16 := rgI x13.2
    exact sRet ⟨(by show 0 ≤ x13.2.toInt; omega), (by show x13.2.toInt ≤ 2; omega), trivial⟩
set_option maxHeartbeats 2000000 in
theorem s_X7_told2_76 {N K : Nat} {th : Int32} {f : Nat → Int32} {p0 : Int32} {p1 : Int32} (hN : NBig N) (hK : 100 ≤ K) (hp0 : 0 ≤ th.toInt) (hp1 : th.toInt ≤ 2) (hp2 : 0 ≤ p0.toInt) (hp3 : p0.toInt ≤ 2) (hp4 : 0 ≤ p1.toInt) (hp5 : p1.toInt ≤ 3) : ∀ (s0 : Int32), 3 ≤ p1.toInt → p1.toInt ≤ 3 → 0 ≤ s0.toInt → s0.toInt ≤ 1 → (s0.toInt = 0 → 0 ≤ th.toInt ∧ th.toInt ≤ 2 ∧ 0 ≤ p0.toInt ∧ p0.toInt ≤ 2 ∧ 3 ≤ p1.toInt ∧ p1.toInt ≤ 3) → Sf (fX7_told2_76 N K th f p0 p1  s0) (fun (z : Int32) => True) := by
  intro s0 hq0 hq1 hq2 hq3 hq4
  unfold fX7_told2_76
  have ql0 : (0 : Int32).toInt = 0 := by decide
  have r1 := rgI s0
  refine sBind (s_X7_bit hN hK (by first | omega | decide) (by first | omega | decide)) (fun x76 b2 => ?_)
  obtain ⟨b2_0, b2_1, -⟩ := b2
  replace b2_0 : 0 ≤ x76.toInt := b2_0
  replace b2_1 : x76.toInt ≤ 1 := b2_1
  have r3 := rgI x76
  exact sRet trivial
set_option maxHeartbeats 2000000 in
theorem s_X7_told2_56 {N K : Nat} {th : Int32} {f : Nat → Int32} {p0 : Int32} {p1 : Int32} (hN : NBig N) (hK : 100 ≤ K) (hp0 : 0 ≤ th.toInt) (hp1 : th.toInt ≤ 2) (hp2 : 0 ≤ p0.toInt) (hp3 : p0.toInt ≤ 2) (hp4 : 0 ≤ p1.toInt) (hp5 : p1.toInt ≤ 3) {k_5 : Int32 → Int32 → Option (Int32)} {m_5 : Nat} (hk_5 : ∀ (l3 : Int32) (l4 : Int32), (6144 - l4.toInt).toNat < m_5 → 0 ≤ l4.toInt → l4.toInt ≤ 6144 → Sf (k_5 l3 l4) (fun (z : Int32) => True)) : ∀ (l3 : Int32) (l4 : Int32), 0 ≤ l4.toInt → l4.toInt ≤ 6143 → (6144 - l4.toInt).toNat ≤ m_5 → Sf (fX7_told2_56 N K th f p0 p1 k_5 l3 l4) (fun (z : Int32) => True) := by
  intro l3 l4 hq0 hq1 hq2
  unfold fX7_told2_56
  have ql0 : (0 : Int32).toInt = 0 := by decide
  have ql1 : (1 : Int32).toInt = 1 := by decide
  have r1 := rgI l3
  have r3 := rgI l4
  have t2 := addI (a := l4) (b := (1 : Int32)) (by omega) (by omega)
  exact hk_5 _ _ (by omega) (by first | omega | decide) (by first | omega | decide)
set_option maxHeartbeats 2000000 in
theorem s_X7_told2_54 {N K : Nat} {th : Int32} {f : Nat → Int32} {p0 : Int32} {p1 : Int32} (hN : NBig N) (hK : 100 ≤ K) (hp0 : 0 ≤ th.toInt) (hp1 : th.toInt ≤ 2) (hp2 : 0 ≤ p0.toInt) (hp3 : p0.toInt ≤ 2) (hp4 : 0 ≤ p1.toInt) (hp5 : p1.toInt ≤ 3) {k_5 : Int32 → Int32 → Option (Int32)} {m_5 : Nat} (hk_5 : ∀ (l3 : Int32) (l4 : Int32), (6144 - l4.toInt).toNat < m_5 → 0 ≤ l4.toInt → l4.toInt ≤ 6144 → Sf (k_5 l3 l4) (fun (z : Int32) => True)) : ∀ (l4 : Int32) (s0 : Int32) (s1 : Int32), 0 ≤ l4.toInt → l4.toInt ≤ 6143 → (s0.toInt = 0 → 0 ≤ th.toInt ∧ th.toInt ≤ 2 ∧ 0 ≤ p0.toInt ∧ p0.toInt ≤ 2 ∧ 1 ≤ p1.toInt ∧ p1.toInt ≤ 2) → (s1.toInt = 0 → 0 ≤ th.toInt ∧ th.toInt ≤ 2 ∧ 0 ≤ p0.toInt ∧ p0.toInt ≤ 2 ∧ 0 ≤ p1.toInt ∧ p1.toInt ≤ 3) → (6144 - l4.toInt).toNat ≤ m_5 → Sf (fX7_told2_54 N K th f p0 p1 k_5 l4 s0 s1) (fun (z : Int32) => True) := by
  intro l4 s0 s1 hq0 hq1 hq2 hq3 hq4
  unfold fX7_told2_54
  have ql0 : (0 : Int32).toInt = 0 := by decide
  have r1 := rgI (s1 + s0)
  have r2 := rgI l4
  exact s_X7_told2_56 (hk_5 := hk_5) hN hK (by omega) (by omega) (by omega) (by omega) (by omega) (by omega) _ _ (by first | omega | decide) (by first | omega | decide) (by omega)
set_option maxHeartbeats 2000000 in
theorem s_X7_told2_5 {N K : Nat} {th : Int32} {f : Nat → Int32} {p0 : Int32} {p1 : Int32} (hN : NBig N) (hK : 100 ≤ K) (hp0 : 0 ≤ th.toInt) (hp1 : th.toInt ≤ 2) (hp2 : 0 ≤ p0.toInt) (hp3 : p0.toInt ≤ 2) (hp4 : 0 ≤ p1.toInt) (hp5 : p1.toInt ≤ 3) : ∀ (fu : Nat) (l3 : Int32) (l4 : Int32), (6144 - l4.toInt).toNat < fu → 0 ≤ l4.toInt → l4.toInt ≤ 6144 → Sf (fX7_told2_5 N K th f p0 p1  fu l3 l4) (fun (z : Int32) => True) := by
  intro fu
  induction fu with
  | zero => intro l3 l4 h0 hq0 hq1; omega
  | succ fu ih =>
    intro l3 l4 h0 hq0 hq1
    unfold fX7_told2_5
    have ql0 : (0 : Int32).toInt = 0 := by decide
    have ql1 : (1 : Int32).toInt = 1 := by decide
    have ql2 : (2 : Int32).toInt = 2 := by decide
    have ql3 : (3 : Int32).toInt = 3 := by decide
    have ql6144 : (6144 : Int32).toInt = 6144 := by decide
    refine sIf (fun h1 => ?_) (fun h1 => ?_)
    · have r2 := rgI l4
      have fh1 := leT h1
      refine sIf (fun h3 => ?_) (fun h3 => ?_)
      · have r4 := rgI p1
        have fh3 := eqT h3
        refine sIf (fun h5 => ?_) (fun h5 => ?_)
        · have r6 := rgI l3
          have fh5 := eqT h5
          exact s_X7_told2_76  hN hK (by omega) (by omega) (by omega) (by omega) (by omega) (by omega) _ (by first | omega | decide) (by first | omega | decide) (by first | omega | decide) (by first | omega | decide) (by first | omega | decide)
        · have r7 := rgI l3
          have fh5 := eqF h5
          exact s_X7_told2_76  hN hK (by omega) (by omega) (by omega) (by omega) (by omega) (by omega) _ (by first | omega | decide) (by first | omega | decide) (by first | omega | decide) (by first | omega | decide) (by first | omega | decide)
      · have r8 := rgI p1
        have fh3 := eqF h3
        have r9 := rgI l3
        exact sRet trivial
    · have r10 := rgI l4
      have fh1 := leF h1
      have r11 := rgI p0
      refine sIfF (noob (by omega) (by omega)) ?_
      refine sIfF (noob (by omega) (by omega)) ?_
      refine sIf (fun h12 => ?_) (fun h12 => ?_)
      · have r13 := rgI (f l4.toNatClampNeg)
        have fh12 := ltT h12
        have r14 := rgI l3
        exact s_X7_told2_56 (hk_5 := ih) hN hK (by omega) (by omega) (by omega) (by omega) (by omega) (by omega) _ _ (by first | omega | decide) (by first | omega | decide) (by omega)
      · have r15 := rgI (f l4.toNatClampNeg)
        have fh12 := ltF h12
        refine sIf (fun h16 => ?_) (fun h16 => ?_)
        · have r17 := rgI p1
          have fh16 := eqT h16
          have r18 := rgI (l4 ^^^ (f l4.toNatClampNeg))
          have r19 := rgI l3
          exact s_X7_told2_54 (hk_5 := ih) hN hK (by omega) (by omega) (by omega) (by omega) (by omega) (by omega) _ _ _ (by first | omega | decide) (by first | omega | decide) (by first | omega | decide) (by first | omega | decide) (by omega)
        · have r20 := rgI p1
          have fh16 := eqF h16
          refine sIf (fun h21 => ?_) (fun h21 => ?_)
          · have fh21 := eqT h21
            have r22 := rgI l3
            exact s_X7_told2_54 (hk_5 := ih) hN hK (by omega) (by omega) (by omega) (by omega) (by omega) (by omega) _ _ _ (by first | omega | decide) (by first | omega | decide) (by first | omega | decide) (by first | omega | decide) (by omega)
          · have fh21 := eqF h21
            have r23 := rgI l3
            exact s_X7_told2_54 (hk_5 := ih) hN hK (by omega) (by omega) (by omega) (by omega) (by omega) (by omega) _ _ _ (by first | omega | decide) (by first | omega | decide) (by first | omega | decide) (by first | omega | decide) (by omega)
set_option maxHeartbeats 2000000 in
theorem s_X7_told2 {N K : Nat} {th : Int32} {f : Nat → Int32} {p0 : Int32} {p1 : Int32} (hN : NBig N) (hK : 100 ≤ K) (hp0 : 0 ≤ th.toInt) (hp1 : th.toInt ≤ 2) (hp2 : 0 ≤ p0.toInt) (hp3 : p0.toInt ≤ 2) (hp4 : 0 ≤ p1.toInt) (hp5 : p1.toInt ≤ 3) : Sf (fX7_told2 N K th f p0 p1) (fun (z : Int32) => True) := by
  unfold fX7_told2
  have hN9 := hN.u
  have ql0 : (0 : Int32).toInt = 0 := by decide
  exact s_X7_told2_5  hN hK (by omega) (by omega) (by omega) (by omega) (by omega) (by omega) _ _ _ (by omega) (by first | omega | decide) (by first | omega | decide)
set_option maxHeartbeats 2000000 in
theorem s_X7_clear_25 {N K : Nat} {th : Int32} {f : Nat → Int32} {t : Nat → Int32} {p0 : Int32} (hN : NBig N) (hK : 100 ≤ K)  : ∀ (fu : Nat) (l2 : Int32) (l3 : Int32) (th_ : Int32) (f_ : (Nat → Int32)) (t_ : (Nat → Int32)), (6144 - l3.toInt).toNat < fu → 0 ≤ p0.toInt → p0.toInt ≤ 2 → 0 ≤ l3.toInt → l3.toInt ≤ 6144 → 0 ≤ th_.toInt → th_.toInt ≤ 2 → Sf (fX7_clear_25 N K th f t p0  fu l2 l3 th_ f_ t_) (fun (z : Int32 × Int32 × (Nat → Int32) × (Nat → Int32)) => 0 ≤ z.2.1.toInt ∧ z.2.1.toInt ≤ 2 ∧ True) := by
  intro fu
  induction fu with
  | zero => intro l2 l3 th_ f_ t_ h0 hq0 hq1 hq2 hq3 hq4 hq5; omega
  | succ fu ih =>
    intro l2 l3 th_ f_ t_ h0 hq0 hq1 hq2 hq3 hq4 hq5
    unfold fX7_clear_25
    have ql0 : (0 : Int32).toInt = 0 := by decide
    have ql1 : (1 : Int32).toInt = 1 := by decide
    have ql6144 : (6144 : Int32).toInt = 6144 := by decide
    refine sIf (fun h1 => ?_) (fun h1 => ?_)
    · have r2 := rgI l3
      have fh1 := leT h1
      have r3 := rgI th_
      have r4 := rgI l2
      refine sBind (s_X7_done hN hK (by first | omega | decide) (by first | omega | decide)) (fun x49 b5 => ?_)
      have r6 := rgI x49.1
      exact sRet ⟨(by show 0 ≤ th_.toInt; omega), (by show th_.toInt ≤ 2; omega), trivial⟩
    · have r7 := rgI l3
      have fh1 := leF h1
      have r8 := rgI p0
      refine sIfF (noob (by omega) (by omega)) ?_
      refine sIfF (noob (by omega) (by omega)) ?_
      have r9 := rgI l2
      have t10 := addI (a := l3) (b := (1 : Int32)) (by omega) (by omega)
      have r11 := rgI th_
      exact ih _ _ _ _ _ (by omega) (by first | omega | decide) (by first | omega | decide) (by first | omega | decide) (by first | omega | decide) (by first | omega | decide) (by first | omega | decide)
set_option maxHeartbeats 2000000 in
theorem s_X7_clear {N K : Nat} {th : Int32} {f : Nat → Int32} {t : Nat → Int32} {p0 : Int32} (hN : NBig N) (hK : 100 ≤ K)  : Sf (fX7_clear N K th f t p0) (fun (z : Int32 × Int32 × (Nat → Int32) × (Nat → Int32)) => 0 ≤ z.2.1.toInt ∧ z.2.1.toInt ≤ 2 ∧ True) := by
  unfold fX7_clear
  have hN9 := hN.u
  have ql0 : (0 : Int32).toInt = 0 := by decide
  have ql2 : (2 : Int32).toInt = 2 := by decide
  have r1 := rgI p0
  refine sBind (s_X7_isNo hN hK (by first | omega | decide) (by first | omega | decide) (by first | omega | decide) (by first | omega | decide)) (fun x4 b2 => ?_)
  obtain ⟨b2_0, b2_1, b2_2, -⟩ := b2
  replace b2_0 : 0 ≤ x4.toInt := b2_0
  replace b2_1 : x4.toInt ≤ 1 := b2_1
  replace b2_2 : (x4.toInt = 0 → ((0 : Int32).toInt ≤ p0.toInt ∧ p0.toInt ≤ (2 : Int32).toInt)) := b2_2
  have r3 := rgI th
  have r4 := rgI x4
  refine sBind (s_X7_isThrown hN hK (by first | omega | decide) (by first | omega | decide) (by first | omega | decide) (by first | omega | decide)) (fun x8 b5 => ?_)
  obtain ⟨b5_0, b5_1, b5_2, b5_3, b5_4, b5_5, -⟩ := b5
  replace b5_0 : 0 ≤ x8.1.toInt := b5_0
  replace b5_1 : x8.1.toInt ≤ 1 := b5_1
  replace b5_2 : 0 ≤ x8.2.toInt := b5_2
  replace b5_3 : x8.2.toInt ≤ 2 := b5_3
  replace b5_4 : (x8.1.toInt = 0 → (0 ≤ x4.toInt ∧ x4.toInt ≤ 0)) := b5_4
  replace b5_5 : (x8.1.toInt = 0 → (0 ≤ (0 : Int32).toInt ∧ (0 : Int32).toInt ≤ 0)) := b5_5
  refine sIf (fun h6 => ?_) (fun h6 => ?_)
  · have r7 := rgI x8.1
    have fh6 := eqT h6
    have r8 := rgI x8.2
    refine sBind (s_X7_told2 hN hK (by first | omega | decide) (by first | omega | decide) (by first | omega | decide) (by first | omega | decide) (by first | omega | decide) (by first | omega | decide)) (fun x19 b9 => ?_)
    have r10 := rgI x19
    exact s_X7_clear_25  hN hK _ _ _ _ _ _ (by omega) (by first | omega | decide) (by first | omega | decide) (by first | omega | decide) (by first | omega | decide) (by first | omega | decide) (by first | omega | decide)
  · have r11 := rgI x8.1
    have fh6 := eqF h6
    have r12 := rgI x8.2
    exact sRet ⟨(by show 0 ≤ x8.2.toInt; omega), (by show x8.2.toInt ≤ 2; omega), trivial⟩
set_option maxHeartbeats 2000000 in
theorem s_X7_copy_35 {N K : Nat} {th : Int32} {f : Nat → Int32} {f2 : Nat → Int32} {t : Nat → Int32} {p0 : Int32} {p1 : Int32} (hN : NBig N) (hK : 100 ≤ K)  : ∀ (fu : Nat) (l3 : Int32) (th_ : Int32) (f2_ : (Nat → Int32)) (t_ : (Nat → Int32)), (6144 - l3.toInt).toNat < fu → 0 ≤ p0.toInt → p0.toInt ≤ 2 → 0 ≤ p1.toInt → p1.toInt ≤ 2 → 0 ≤ l3.toInt → l3.toInt ≤ 6144 → 0 ≤ th_.toInt → th_.toInt ≤ 2 → Sf (fX7_copy_35 N K th f f2 t p0 p1  fu l3 th_ f2_ t_) (fun (z : Int32 × Int32 × (Nat → Int32) × (Nat → Int32)) => 0 ≤ z.2.1.toInt ∧ z.2.1.toInt ≤ 2 ∧ True) := by
  intro fu
  induction fu with
  | zero => intro l3 th_ f2_ t_ h0 hq0 hq1 hq2 hq3 hq4 hq5 hq6 hq7; omega
  | succ fu ih =>
    intro l3 th_ f2_ t_ h0 hq0 hq1 hq2 hq3 hq4 hq5 hq6 hq7
    unfold fX7_copy_35
    have ql0 : (0 : Int32).toInt = 0 := by decide
    have ql1 : (1 : Int32).toInt = 1 := by decide
    have ql6144 : (6144 : Int32).toInt = 6144 := by decide
    refine sIf (fun h1 => ?_) (fun h1 => ?_)
    · have r2 := rgI l3
      have fh1 := leT h1
      have r3 := rgI th_
      have r4 := rgI p1
      refine sBind (s_X7_told2 hN hK (by first | omega | decide) (by first | omega | decide) (by first | omega | decide) (by first | omega | decide) (by first | omega | decide) (by first | omega | decide)) (fun x68 b5 => ?_)
      have r6 := rgI x68
      refine sBind (s_X7_done hN hK (by first | omega | decide) (by first | omega | decide)) (fun x71 b7 => ?_)
      have r8 := rgI x71.1
      exact sRet ⟨(by show 0 ≤ th_.toInt; omega), (by show th_.toInt ≤ 2; omega), trivial⟩
    · have r9 := rgI l3
      have fh1 := leF h1
      have r10 := rgI p1
      refine sIfF (noob (by omega) (by omega)) ?_
      have r11 := rgI p0
      refine sIfF (noob (by omega) (by omega)) ?_
      refine sIfF (noob (by omega) (by omega)) ?_
      refine sIfF (noob (by omega) (by omega)) ?_
      have t12 := addI (a := l3) (b := (1 : Int32)) (by omega) (by omega)
      have r13 := rgI th_
      exact ih _ _ _ _ (by omega) (by first | omega | decide) (by first | omega | decide) (by first | omega | decide) (by first | omega | decide) (by first | omega | decide) (by first | omega | decide) (by first | omega | decide) (by first | omega | decide)
set_option maxHeartbeats 2000000 in
theorem s_X7_copy_24 {N K : Nat} {th : Int32} {f : Nat → Int32} {f2 : Nat → Int32} {t : Nat → Int32} {p0 : Int32} {p1 : Int32} (hN : NBig N) (hK : 100 ≤ K)  : ∀ (s0 : Int32) (th_ : Int32) (f2_ : Nat → Int32) (t_ : Nat → Int32), 0 ≤ s0.toInt → s0.toInt ≤ 1 → (s0.toInt = 0 → 0 ≤ p0.toInt ∧ p0.toInt ≤ 2 ∧ 0 ≤ p1.toInt ∧ p1.toInt ≤ 2) → Sf (fX7_copy_24 N K th f f2 t p0 p1  s0 th_ f2_ t_) (fun (z : Int32 × Int32 × (Nat → Int32) × (Nat → Int32)) => 0 ≤ z.2.1.toInt ∧ z.2.1.toInt ≤ 2 ∧ True) := by
  intro s0 th_ f2_ t_ hq0 hq1 hq2
  unfold fX7_copy_24
  have hN9 := hN.u
  have ql0 : (0 : Int32).toInt = 0 := by decide
  have r1 := rgI th_
  have r2 := rgI s0
  refine sBind (s_X7_isThrown hN hK (by first | omega | decide) (by first | omega | decide) (by first | omega | decide) (by first | omega | decide)) (fun x25 b3 => ?_)
  obtain ⟨b3_0, b3_1, b3_2, b3_3, b3_4, b3_5, -⟩ := b3
  replace b3_0 : 0 ≤ x25.1.toInt := b3_0
  replace b3_1 : x25.1.toInt ≤ 1 := b3_1
  replace b3_2 : 0 ≤ x25.2.toInt := b3_2
  replace b3_3 : x25.2.toInt ≤ 2 := b3_3
  replace b3_4 : (x25.1.toInt = 0 → (0 ≤ s0.toInt ∧ s0.toInt ≤ 0)) := b3_4
  replace b3_5 : (x25.1.toInt = 0 → (0 ≤ (0 : Int32).toInt ∧ (0 : Int32).toInt ≤ 0)) := b3_5
  refine sIf (fun h4 => ?_) (fun h4 => ?_)
  · have r5 := rgI x25.1
    have fh4 := eqT h4
    have r6 := rgI x25.2
    exact s_X7_copy_35  hN hK _ _ _ _ _ (by omega) (by first | omega | decide) (by first | omega | decide) (by first | omega | decide) (by first | omega | decide) (by first | omega | decide) (by first | omega | decide) (by first | omega | decide) (by first | omega | decide)
  · have r7 := rgI x25.1
    have fh4 := eqF h4
    have r8 := rgI x25.2
    exact sRet ⟨(by show 0 ≤ x25.2.toInt; omega), (by show x25.2.toInt ≤ 2; omega), trivial⟩
set_option maxHeartbeats 2000000 in
theorem s_X7_copy_19 {N K : Nat} {th : Int32} {f : Nat → Int32} {f2 : Nat → Int32} {t : Nat → Int32} {p0 : Int32} {p1 : Int32} (hN : NBig N) (hK : 100 ≤ K)  : ∀ (th_ : Int32) (f2_ : Nat → Int32) (t_ : Nat → Int32), Sf (fX7_copy_19 N K th f f2 t p0 p1  th_ f2_ t_) (fun (z : Int32 × Int32 × (Nat → Int32) × (Nat → Int32)) => 0 ≤ z.2.1.toInt ∧ z.2.1.toInt ≤ 2 ∧ True) := by
  intro th_ f2_ t_ 
  unfold fX7_copy_19
  have ql0 : (0 : Int32).toInt = 0 := by decide
  have ql1 : (1 : Int32).toInt = 1 := by decide
  have r1 := rgI th_
  exact s_X7_copy_24  hN hK _ _ _ _ (by first | omega | decide) (by first | omega | decide) (by first | omega | decide)
set_option maxHeartbeats 2000000 in
theorem s_X7_copy {N K : Nat} {th : Int32} {f : Nat → Int32} {f2 : Nat → Int32} {t : Nat → Int32} {p0 : Int32} {p1 : Int32} (hN : NBig N) (hK : 100 ≤ K)  : Sf (fX7_copy N K th f f2 t p0 p1) (fun (z : Int32 × Int32 × (Nat → Int32) × (Nat → Int32)) => 0 ≤ z.2.1.toInt ∧ z.2.1.toInt ≤ 2 ∧ True) := by
  unfold fX7_copy
  have ql0 : (0 : Int32).toInt = 0 := by decide
  have ql2 : (2 : Int32).toInt = 2 := by decide
  have r1 := rgI p0
  refine sBind (s_X7_isNo hN hK (by first | omega | decide) (by first | omega | decide) (by first | omega | decide) (by first | omega | decide)) (fun x4 b2 => ?_)
  obtain ⟨b2_0, b2_1, b2_2, -⟩ := b2
  replace b2_0 : 0 ≤ x4.toInt := b2_0
  replace b2_1 : x4.toInt ≤ 1 := b2_1
  replace b2_2 : (x4.toInt = 0 → ((0 : Int32).toInt ≤ p0.toInt ∧ p0.toInt ≤ (2 : Int32).toInt)) := b2_2
  refine sIf (fun h3 => ?_) (fun h3 => ?_)
  · have r4 := rgI x4
    have fh3 := eqT h3
    have r5 := rgI p1
    refine sBind (s_X7_isNo hN hK (by first | omega | decide) (by first | omega | decide) (by first | omega | decide) (by first | omega | decide)) (fun x13 b6 => ?_)
    obtain ⟨b6_0, b6_1, b6_2, -⟩ := b6
    replace b6_0 : 0 ≤ x13.toInt := b6_0
    replace b6_1 : x13.toInt ≤ 1 := b6_1
    replace b6_2 : (x13.toInt = 0 → ((0 : Int32).toInt ≤ p1.toInt ∧ p1.toInt ≤ (2 : Int32).toInt)) := b6_2
    refine sIf (fun h7 => ?_) (fun h7 => ?_)
    · have r8 := rgI x13
      have fh7 := eqT h7
      have r9 := rgI th
      exact s_X7_copy_24  hN hK _ _ _ _ (by first | omega | decide) (by first | omega | decide) (by first | omega | decide)
    · have r10 := rgI x13
      have fh7 := eqF h7
      have r11 := rgI th
      exact s_X7_copy_19  hN hK _ _ _
  · have r12 := rgI x4
    have fh3 := eqF h3
    have r13 := rgI th
    exact s_X7_copy_19  hN hK _ _ _
set_option maxHeartbeats 2000000 in
theorem s_X7_copyOwn_35 {N K : Nat} {th : Int32} {f : Nat → Int32} {t : Nat → Int32} {p0 : Int32} (hN : NBig N) (hK : 100 ≤ K)  : ∀ (fu : Nat) (l3 : Int32) (th_ : Int32) (f_ : (Nat → Int32)) (t_ : (Nat → Int32)), (6144 - l3.toInt).toNat < fu → 0 ≤ p0.toInt → p0.toInt ≤ 2 → 0 ≤ l3.toInt → l3.toInt ≤ 6144 → 0 ≤ th_.toInt → th_.toInt ≤ 2 → Sf (fX7_copyOwn_35 N K th f t p0  fu l3 th_ f_ t_) (fun (z : Int32 × Int32 × (Nat → Int32) × (Nat → Int32)) => 0 ≤ z.2.1.toInt ∧ z.2.1.toInt ≤ 2 ∧ True) := by
  intro fu
  induction fu with
  | zero => intro l3 th_ f_ t_ h0 hq0 hq1 hq2 hq3 hq4 hq5; omega
  | succ fu ih =>
    intro l3 th_ f_ t_ h0 hq0 hq1 hq2 hq3 hq4 hq5
    unfold fX7_copyOwn_35
    have ql0 : (0 : Int32).toInt = 0 := by decide
    have ql1 : (1 : Int32).toInt = 1 := by decide
    have ql6144 : (6144 : Int32).toInt = 6144 := by decide
    refine sIf (fun h1 => ?_) (fun h1 => ?_)
    · have r2 := rgI l3
      have fh1 := leT h1
      have r3 := rgI th_
      have r4 := rgI p0
      refine sBind (s_X7_told2 hN hK (by first | omega | decide) (by first | omega | decide) (by first | omega | decide) (by first | omega | decide) (by first | omega | decide) (by first | omega | decide)) (fun x68 b5 => ?_)
      have r6 := rgI x68
      refine sBind (s_X7_done hN hK (by first | omega | decide) (by first | omega | decide)) (fun x71 b7 => ?_)
      have r8 := rgI x71.1
      exact sRet ⟨(by show 0 ≤ th_.toInt; omega), (by show th_.toInt ≤ 2; omega), trivial⟩
    · have r9 := rgI l3
      have fh1 := leF h1
      have r10 := rgI p0
      refine sIfF (noob (by omega) (by omega)) ?_
      refine sIfF (noob (by omega) (by omega)) ?_
      refine sIfF (noob (by omega) (by omega)) ?_
      refine sIfF (noob (by omega) (by omega)) ?_
      have t11 := addI (a := l3) (b := (1 : Int32)) (by omega) (by omega)
      have r12 := rgI th_
      exact ih _ _ _ _ (by omega) (by first | omega | decide) (by first | omega | decide) (by first | omega | decide) (by first | omega | decide) (by first | omega | decide) (by first | omega | decide)
set_option maxHeartbeats 2000000 in
theorem s_X7_copyOwn_24 {N K : Nat} {th : Int32} {f : Nat → Int32} {t : Nat → Int32} {p0 : Int32} (hN : NBig N) (hK : 100 ≤ K)  : ∀ (s0 : Int32) (th_ : Int32) (f_ : Nat → Int32) (t_ : Nat → Int32), 0 ≤ s0.toInt → s0.toInt ≤ 1 → (s0.toInt = 0 → 0 ≤ p0.toInt ∧ p0.toInt ≤ 2) → Sf (fX7_copyOwn_24 N K th f t p0  s0 th_ f_ t_) (fun (z : Int32 × Int32 × (Nat → Int32) × (Nat → Int32)) => 0 ≤ z.2.1.toInt ∧ z.2.1.toInt ≤ 2 ∧ True) := by
  intro s0 th_ f_ t_ hq0 hq1 hq2
  unfold fX7_copyOwn_24
  have hN9 := hN.u
  have ql0 : (0 : Int32).toInt = 0 := by decide
  have r1 := rgI th_
  have r2 := rgI s0
  refine sBind (s_X7_isThrown hN hK (by first | omega | decide) (by first | omega | decide) (by first | omega | decide) (by first | omega | decide)) (fun x25 b3 => ?_)
  obtain ⟨b3_0, b3_1, b3_2, b3_3, b3_4, b3_5, -⟩ := b3
  replace b3_0 : 0 ≤ x25.1.toInt := b3_0
  replace b3_1 : x25.1.toInt ≤ 1 := b3_1
  replace b3_2 : 0 ≤ x25.2.toInt := b3_2
  replace b3_3 : x25.2.toInt ≤ 2 := b3_3
  replace b3_4 : (x25.1.toInt = 0 → (0 ≤ s0.toInt ∧ s0.toInt ≤ 0)) := b3_4
  replace b3_5 : (x25.1.toInt = 0 → (0 ≤ (0 : Int32).toInt ∧ (0 : Int32).toInt ≤ 0)) := b3_5
  refine sIf (fun h4 => ?_) (fun h4 => ?_)
  · have r5 := rgI x25.1
    have fh4 := eqT h4
    have r6 := rgI x25.2
    exact s_X7_copyOwn_35  hN hK _ _ _ _ _ (by omega) (by first | omega | decide) (by first | omega | decide) (by first | omega | decide) (by first | omega | decide) (by first | omega | decide) (by first | omega | decide)
  · have r7 := rgI x25.1
    have fh4 := eqF h4
    have r8 := rgI x25.2
    exact sRet ⟨(by show 0 ≤ x25.2.toInt; omega), (by show x25.2.toInt ≤ 2; omega), trivial⟩
set_option maxHeartbeats 2000000 in
theorem s_X7_copyOwn_19 {N K : Nat} {th : Int32} {f : Nat → Int32} {t : Nat → Int32} {p0 : Int32} (hN : NBig N) (hK : 100 ≤ K)  : ∀ (th_ : Int32) (f_ : Nat → Int32) (t_ : Nat → Int32), Sf (fX7_copyOwn_19 N K th f t p0  th_ f_ t_) (fun (z : Int32 × Int32 × (Nat → Int32) × (Nat → Int32)) => 0 ≤ z.2.1.toInt ∧ z.2.1.toInt ≤ 2 ∧ True) := by
  intro th_ f_ t_ 
  unfold fX7_copyOwn_19
  have ql0 : (0 : Int32).toInt = 0 := by decide
  have ql1 : (1 : Int32).toInt = 1 := by decide
  have r1 := rgI th_
  exact s_X7_copyOwn_24  hN hK _ _ _ _ (by first | omega | decide) (by first | omega | decide) (by first | omega | decide)
set_option maxHeartbeats 2000000 in
theorem s_X7_copyOwn {N K : Nat} {th : Int32} {f : Nat → Int32} {t : Nat → Int32} {p0 : Int32} (hN : NBig N) (hK : 100 ≤ K)  : Sf (fX7_copyOwn N K th f t p0) (fun (z : Int32 × Int32 × (Nat → Int32) × (Nat → Int32)) => 0 ≤ z.2.1.toInt ∧ z.2.1.toInt ≤ 2 ∧ True) := by
  unfold fX7_copyOwn
  have ql0 : (0 : Int32).toInt = 0 := by decide
  have ql2 : (2 : Int32).toInt = 2 := by decide
  have r1 := rgI p0
  refine sBind (s_X7_isNo hN hK (by first | omega | decide) (by first | omega | decide) (by first | omega | decide) (by first | omega | decide)) (fun x4 b2 => ?_)
  obtain ⟨b2_0, b2_1, b2_2, -⟩ := b2
  replace b2_0 : 0 ≤ x4.toInt := b2_0
  replace b2_1 : x4.toInt ≤ 1 := b2_1
  replace b2_2 : (x4.toInt = 0 → ((0 : Int32).toInt ≤ p0.toInt ∧ p0.toInt ≤ (2 : Int32).toInt)) := b2_2
  refine sIf (fun h3 => ?_) (fun h3 => ?_)
  · have r4 := rgI x4
    have fh3 := eqT h3
    refine sBind (s_X7_isNo hN hK (by first | omega | decide) (by first | omega | decide) (by first | omega | decide) (by first | omega | decide)) (fun x13 b5 => ?_)
    obtain ⟨b5_0, b5_1, b5_2, -⟩ := b5
    replace b5_0 : 0 ≤ x13.toInt := b5_0
    replace b5_1 : x13.toInt ≤ 1 := b5_1
    replace b5_2 : (x13.toInt = 0 → ((0 : Int32).toInt ≤ p0.toInt ∧ p0.toInt ≤ (2 : Int32).toInt)) := b5_2
    refine sIf (fun h6 => ?_) (fun h6 => ?_)
    · have r7 := rgI x13
      have fh6 := eqT h6
      have r8 := rgI th
      exact s_X7_copyOwn_24  hN hK _ _ _ _ (by first | omega | decide) (by first | omega | decide) (by first | omega | decide)
    · have r9 := rgI x13
      have fh6 := eqF h6
      have r10 := rgI th
      exact s_X7_copyOwn_19  hN hK _ _ _
  · have r11 := rgI x4
    have fh3 := eqF h3
    have r12 := rgI th
    exact s_X7_copyOwn_19  hN hK _ _ _
set_option maxHeartbeats 2000000 in
theorem s_X7_pour_91 {N K : Nat} {th : Int32} {f : Nat → Int32} {f2 : Nat → Int32} {t : Nat → Int32} {p0 : Int32} {p1 : Int32} (hN : NBig N) (hK : 100 ≤ K)  {k_53 : Int32 → Int32 → Int32 → (Nat → Int32) → (Nat → Int32) → Option (Int32 × Int32 × (Nat → Int32) × (Nat → Int32))} {m_53 : Nat} (hk_53 : ∀ (l3 : Int32) (l4 : Int32) (th_ : Int32) (f2_ : (Nat → Int32)) (t_ : (Nat → Int32)), (6144 - l4.toInt).toNat < m_53 → 0 ≤ p0.toInt → p0.toInt ≤ 2 → 0 ≤ p1.toInt → p1.toInt ≤ 2 → 0 ≤ l4.toInt → l4.toInt ≤ 6144 → 0 ≤ th_.toInt → th_.toInt ≤ 2 → Sf (k_53 l3 l4 th_ f2_ t_) (fun (z : Int32 × Int32 × (Nat → Int32) × (Nat → Int32)) => 0 ≤ z.2.1.toInt ∧ z.2.1.toInt ≤ 2 ∧ True)) : ∀ (l3 : Int32) (l4 : Int32) (th_ : Int32) (f2_ : Nat → Int32) (t_ : Nat → Int32), 0 ≤ p0.toInt → p0.toInt ≤ 2 → 0 ≤ p1.toInt → p1.toInt ≤ 2 → 0 ≤ l4.toInt → l4.toInt ≤ 6143 → 0 ≤ th_.toInt → th_.toInt ≤ 2 → (6144 - l4.toInt).toNat ≤ m_53 → Sf (fX7_pour_91 N K th f f2 t p0 p1 k_53 l3 l4 th_ f2_ t_) (fun (z : Int32 × Int32 × (Nat → Int32) × (Nat → Int32)) => 0 ≤ z.2.1.toInt ∧ z.2.1.toInt ≤ 2 ∧ True) := by
  intro l3 l4 th_ f2_ t_ hq0 hq1 hq2 hq3 hq4 hq5 hq6 hq7 hq8
  unfold fX7_pour_91
  have ql0 : (0 : Int32).toInt = 0 := by decide
  have ql1 : (1 : Int32).toInt = 1 := by decide
  have r1 := rgI l3
  have r3 := rgI l4
  have t2 := addI (a := l4) (b := (1 : Int32)) (by omega) (by omega)
  have r4 := rgI th_
  exact hk_53 _ _ _ _ _ (by omega) (by first | omega | decide) (by first | omega | decide) (by first | omega | decide) (by first | omega | decide) (by first | omega | decide) (by first | omega | decide) (by first | omega | decide) (by first | omega | decide)
set_option maxHeartbeats 2000000 in
theorem s_X7_pour_53 {N K : Nat} {th : Int32} {f : Nat → Int32} {f2 : Nat → Int32} {t : Nat → Int32} {p0 : Int32} {p1 : Int32} (hN : NBig N) (hK : 100 ≤ K)  : ∀ (fu : Nat) (l3 : Int32) (l4 : Int32) (th_ : Int32) (f2_ : (Nat → Int32)) (t_ : (Nat → Int32)), (6144 - l4.toInt).toNat < fu → 0 ≤ p0.toInt → p0.toInt ≤ 2 → 0 ≤ p1.toInt → p1.toInt ≤ 2 → 0 ≤ l4.toInt → l4.toInt ≤ 6144 → 0 ≤ th_.toInt → th_.toInt ≤ 2 → Sf (fX7_pour_53 N K th f f2 t p0 p1  fu l3 l4 th_ f2_ t_) (fun (z : Int32 × Int32 × (Nat → Int32) × (Nat → Int32)) => 0 ≤ z.2.1.toInt ∧ z.2.1.toInt ≤ 2 ∧ True) := by
  intro fu
  induction fu with
  | zero => intro l3 l4 th_ f2_ t_ h0 hq0 hq1 hq2 hq3 hq4 hq5 hq6 hq7; omega
  | succ fu ih =>
    intro l3 l4 th_ f2_ t_ h0 hq0 hq1 hq2 hq3 hq4 hq5 hq6 hq7
    unfold fX7_pour_53
    have ql0 : (0 : Int32).toInt = 0 := by decide
    have ql6144 : (6144 : Int32).toInt = 6144 := by decide
    refine sIf (fun h1 => ?_) (fun h1 => ?_)
    · have r2 := rgI l4
      have fh1 := leT h1
      have r3 := rgI th_
      have r4 := rgI p1
      refine sBind (s_X7_told2 hN hK (by first | omega | decide) (by first | omega | decide) (by first | omega | decide) (by first | omega | decide) (by first | omega | decide) (by first | omega | decide)) (fun x101 b5 => ?_)
      have r6 := rgI (x101 - l3)
      refine sBind (s_X7_done hN hK (by first | omega | decide) (by first | omega | decide)) (fun x106 b7 => ?_)
      have r8 := rgI x106.1
      exact sRet ⟨(by show 0 ≤ th_.toInt; omega), (by show th_.toInt ≤ 2; omega), trivial⟩
    · have r9 := rgI l4
      have fh1 := leF h1
      have r10 := rgI p0
      refine sIfF (noob (by omega) (by omega)) ?_
      refine sIfF (noob (by omega) (by omega)) ?_
      refine sIf (fun h11 => ?_) (fun h11 => ?_)
      · have r12 := rgI (f l4.toNatClampNeg)
        have fh11 := ltT h11
        have r13 := rgI l3
        have r14 := rgI th_
        exact s_X7_pour_91 (hk_53 := ih) hN hK _ _ _ _ _ (by first | omega | decide) (by first | omega | decide) (by first | omega | decide) (by first | omega | decide) (by first | omega | decide) (by first | omega | decide) (by first | omega | decide) (by first | omega | decide) (by omega)
      · have r15 := rgI (f l4.toNatClampNeg)
        have fh11 := ltF h11
        have r16 := rgI p1
        refine sIfF (noob (by omega) (by omega)) ?_
        refine sIfF (noob (by omega) (by omega)) ?_
        refine sIfF (noob (by omega) (by omega)) ?_
        refine sIfF (noob (by omega) (by omega)) ?_
        have r17 := rgI l3
        have r18 := rgI th_
        exact s_X7_pour_91 (hk_53 := ih) hN hK _ _ _ _ _ (by first | omega | decide) (by first | omega | decide) (by first | omega | decide) (by first | omega | decide) (by first | omega | decide) (by first | omega | decide) (by first | omega | decide) (by first | omega | decide) (by omega)
set_option maxHeartbeats 2000000 in
theorem s_X7_pour_24 {N K : Nat} {th : Int32} {f : Nat → Int32} {f2 : Nat → Int32} {t : Nat → Int32} {p0 : Int32} {p1 : Int32} (hN : NBig N) (hK : 100 ≤ K)  : ∀ (s0 : Int32) (th_ : Int32) (f2_ : Nat → Int32) (t_ : Nat → Int32), 0 ≤ s0.toInt → s0.toInt ≤ 1 → (s0.toInt = 0 → 0 ≤ p0.toInt ∧ p0.toInt ≤ 2 ∧ 0 ≤ p1.toInt ∧ p1.toInt ≤ 2) → Sf (fX7_pour_24 N K th f f2 t p0 p1  s0 th_ f2_ t_) (fun (z : Int32 × Int32 × (Nat → Int32) × (Nat → Int32)) => 0 ≤ z.2.1.toInt ∧ z.2.1.toInt ≤ 2 ∧ True) := by
  intro s0 th_ f2_ t_ hq0 hq1 hq2
  unfold fX7_pour_24
  have hN9 := hN.u
  have ql0 : (0 : Int32).toInt = 0 := by decide
  have r1 := rgI th_
  have r2 := rgI s0
  refine sBind (s_X7_isThrown hN hK (by first | omega | decide) (by first | omega | decide) (by first | omega | decide) (by first | omega | decide)) (fun x25 b3 => ?_)
  obtain ⟨b3_0, b3_1, b3_2, b3_3, b3_4, b3_5, -⟩ := b3
  replace b3_0 : 0 ≤ x25.1.toInt := b3_0
  replace b3_1 : x25.1.toInt ≤ 1 := b3_1
  replace b3_2 : 0 ≤ x25.2.toInt := b3_2
  replace b3_3 : x25.2.toInt ≤ 2 := b3_3
  replace b3_4 : (x25.1.toInt = 0 → (0 ≤ s0.toInt ∧ s0.toInt ≤ 0)) := b3_4
  replace b3_5 : (x25.1.toInt = 0 → (0 ≤ (0 : Int32).toInt ∧ (0 : Int32).toInt ≤ 0)) := b3_5
  refine sIf (fun h4 => ?_) (fun h4 => ?_)
  · have r5 := rgI x25.1
    have fh4 := eqT h4
    refine sIf (fun h6 => ?_) (fun h6 => ?_)
    · have r7 := rgI p0
      have r8 := rgI p1
      have fh6 := eqT h6
      have r9 := rgI x25.2
      refine sBind (s_X7_refused hN hK (by first | omega | decide) (by first | omega | decide)) (fun x39 b10 => ?_)
      obtain ⟨b10_0, b10_1, -⟩ := b10
      replace b10_0 : -9 ≤ x39.1.toInt := b10_0
      replace b10_1 : x39.1.toInt ≤ -9 := b10_1
      have r11 := rgI x39.1
      exact sRet ⟨(by show 0 ≤ x25.2.toInt; omega), (by show x25.2.toInt ≤ 2; omega), trivial⟩
    · have r12 := rgI p0
      have r13 := rgI p1
      have fh6 := eqF h6
      have r14 := rgI x25.2
      refine sBind (s_X7_told2 hN hK (by first | omega | decide) (by first | omega | decide) (by first | omega | decide) (by first | omega | decide) (by first | omega | decide) (by first | omega | decide)) (fun x46 b15 => ?_)
      have r16 := rgI x46
      exact s_X7_pour_53  hN hK _ _ _ _ _ _ (by omega) (by first | omega | decide) (by first | omega | decide) (by first | omega | decide) (by first | omega | decide) (by first | omega | decide) (by first | omega | decide) (by first | omega | decide) (by first | omega | decide)
  · have r17 := rgI x25.1
    have fh4 := eqF h4
    have r18 := rgI x25.2
    exact sRet ⟨(by show 0 ≤ x25.2.toInt; omega), (by show x25.2.toInt ≤ 2; omega), trivial⟩
set_option maxHeartbeats 2000000 in
theorem s_X7_pour_19 {N K : Nat} {th : Int32} {f : Nat → Int32} {f2 : Nat → Int32} {t : Nat → Int32} {p0 : Int32} {p1 : Int32} (hN : NBig N) (hK : 100 ≤ K)  : ∀ (th_ : Int32) (f2_ : Nat → Int32) (t_ : Nat → Int32), Sf (fX7_pour_19 N K th f f2 t p0 p1  th_ f2_ t_) (fun (z : Int32 × Int32 × (Nat → Int32) × (Nat → Int32)) => 0 ≤ z.2.1.toInt ∧ z.2.1.toInt ≤ 2 ∧ True) := by
  intro th_ f2_ t_ 
  unfold fX7_pour_19
  have ql0 : (0 : Int32).toInt = 0 := by decide
  have ql1 : (1 : Int32).toInt = 1 := by decide
  have r1 := rgI th_
  exact s_X7_pour_24  hN hK _ _ _ _ (by first | omega | decide) (by first | omega | decide) (by first | omega | decide)
set_option maxHeartbeats 2000000 in
theorem s_X7_pour {N K : Nat} {th : Int32} {f : Nat → Int32} {f2 : Nat → Int32} {t : Nat → Int32} {p0 : Int32} {p1 : Int32} (hN : NBig N) (hK : 100 ≤ K)  : Sf (fX7_pour N K th f f2 t p0 p1) (fun (z : Int32 × Int32 × (Nat → Int32) × (Nat → Int32)) => 0 ≤ z.2.1.toInt ∧ z.2.1.toInt ≤ 2 ∧ True) := by
  unfold fX7_pour
  have ql0 : (0 : Int32).toInt = 0 := by decide
  have ql2 : (2 : Int32).toInt = 2 := by decide
  have r1 := rgI p0
  refine sBind (s_X7_isNo hN hK (by first | omega | decide) (by first | omega | decide) (by first | omega | decide) (by first | omega | decide)) (fun x4 b2 => ?_)
  obtain ⟨b2_0, b2_1, b2_2, -⟩ := b2
  replace b2_0 : 0 ≤ x4.toInt := b2_0
  replace b2_1 : x4.toInt ≤ 1 := b2_1
  replace b2_2 : (x4.toInt = 0 → ((0 : Int32).toInt ≤ p0.toInt ∧ p0.toInt ≤ (2 : Int32).toInt)) := b2_2
  refine sIf (fun h3 => ?_) (fun h3 => ?_)
  · have r4 := rgI x4
    have fh3 := eqT h3
    have r5 := rgI p1
    refine sBind (s_X7_isNo hN hK (by first | omega | decide) (by first | omega | decide) (by first | omega | decide) (by first | omega | decide)) (fun x13 b6 => ?_)
    obtain ⟨b6_0, b6_1, b6_2, -⟩ := b6
    replace b6_0 : 0 ≤ x13.toInt := b6_0
    replace b6_1 : x13.toInt ≤ 1 := b6_1
    replace b6_2 : (x13.toInt = 0 → ((0 : Int32).toInt ≤ p1.toInt ∧ p1.toInt ≤ (2 : Int32).toInt)) := b6_2
    refine sIf (fun h7 => ?_) (fun h7 => ?_)
    · have r8 := rgI x13
      have fh7 := eqT h7
      have r9 := rgI th
      exact s_X7_pour_24  hN hK _ _ _ _ (by first | omega | decide) (by first | omega | decide) (by first | omega | decide)
    · have r10 := rgI x13
      have fh7 := eqF h7
      have r11 := rgI th
      exact s_X7_pour_19  hN hK _ _ _
  · have r12 := rgI x4
    have fh3 := eqF h3
    have r13 := rgI th
    exact s_X7_pour_19  hN hK _ _ _
set_option maxHeartbeats 2000000 in
theorem s_X7_pourOwn_24 {N K : Nat} {th : Int32} {f : Nat → Int32} {t : Nat → Int32} {p0 : Int32} (hN : NBig N) (hK : 100 ≤ K)  : ∀ (s0 : Int32) (th_ : Int32) (t_ : Nat → Int32), 0 ≤ s0.toInt → s0.toInt ≤ 1 → (s0.toInt = 0 → 0 ≤ p0.toInt ∧ p0.toInt ≤ 2) → Sf (fX7_pourOwn_24 N K th f t p0  s0 th_ t_) (fun (z : Int32 × Int32 × (Nat → Int32)) => -9 ≤ z.1.toInt ∧ z.1.toInt ≤ 0 ∧ 0 ≤ z.2.1.toInt ∧ z.2.1.toInt ≤ 2 ∧ True) := by
  intro s0 th_ t_ hq0 hq1 hq2
  unfold fX7_pourOwn_24
  have ql0 : (0 : Int32).toInt = 0 := by decide
  have r1 := rgI th_
  have r2 := rgI s0
  refine sBind (s_X7_isThrown hN hK (by first | omega | decide) (by first | omega | decide) (by first | omega | decide) (by first | omega | decide)) (fun x25 b3 => ?_)
  obtain ⟨b3_0, b3_1, b3_2, b3_3, b3_4, b3_5, -⟩ := b3
  replace b3_0 : 0 ≤ x25.1.toInt := b3_0
  replace b3_1 : x25.1.toInt ≤ 1 := b3_1
  replace b3_2 : 0 ≤ x25.2.toInt := b3_2
  replace b3_3 : x25.2.toInt ≤ 2 := b3_3
  replace b3_4 : (x25.1.toInt = 0 → (0 ≤ s0.toInt ∧ s0.toInt ≤ 0)) := b3_4
  replace b3_5 : (x25.1.toInt = 0 → (0 ≤ (0 : Int32).toInt ∧ (0 : Int32).toInt ≤ 0)) := b3_5
  refine sIf (fun h4 => ?_) (fun h4 => ?_)
  · have r5 := rgI x25.1
    have fh4 := eqT h4
    have r6 := rgI x25.2
    refine sBind (s_X7_refused hN hK (by first | omega | decide) (by first | omega | decide)) (fun x39 b7 => ?_)
    obtain ⟨b7_0, b7_1, -⟩ := b7
    replace b7_0 : -9 ≤ x39.1.toInt := b7_0
    replace b7_1 : x39.1.toInt ≤ -9 := b7_1
    have r8 := rgI x39.1
    exact sRet ⟨(by show -9 ≤ x39.1.toInt; omega), (by show x39.1.toInt ≤ 0; omega), (by show 0 ≤ x25.2.toInt; omega), (by show x25.2.toInt ≤ 2; omega), trivial⟩
  · have r9 := rgI x25.1
    have fh4 := eqF h4
    have r10 := rgI x25.2
    exact sRet ⟨(by show -9 ≤ (0 : Int32).toInt; decide), (by show (0 : Int32).toInt ≤ 0; decide), (by show 0 ≤ x25.2.toInt; omega), (by show x25.2.toInt ≤ 2; omega), trivial⟩
set_option maxHeartbeats 2000000 in
theorem s_X7_pourOwn_19 {N K : Nat} {th : Int32} {f : Nat → Int32} {t : Nat → Int32} {p0 : Int32} (hN : NBig N) (hK : 100 ≤ K)  : ∀ (th_ : Int32) (t_ : Nat → Int32), Sf (fX7_pourOwn_19 N K th f t p0  th_ t_) (fun (z : Int32 × Int32 × (Nat → Int32)) => -9 ≤ z.1.toInt ∧ z.1.toInt ≤ 0 ∧ 0 ≤ z.2.1.toInt ∧ z.2.1.toInt ≤ 2 ∧ True) := by
  intro th_ t_ 
  unfold fX7_pourOwn_19
  have ql0 : (0 : Int32).toInt = 0 := by decide
  have ql1 : (1 : Int32).toInt = 1 := by decide
  have r1 := rgI th_
  exact s_X7_pourOwn_24  hN hK _ _ _ (by first | omega | decide) (by first | omega | decide) (by first | omega | decide)
set_option maxHeartbeats 2000000 in
theorem s_X7_pourOwn {N K : Nat} {th : Int32} {f : Nat → Int32} {t : Nat → Int32} {p0 : Int32} (hN : NBig N) (hK : 100 ≤ K)  : Sf (fX7_pourOwn N K th f t p0) (fun (z : Int32 × Int32 × (Nat → Int32)) => -9 ≤ z.1.toInt ∧ z.1.toInt ≤ 0 ∧ 0 ≤ z.2.1.toInt ∧ z.2.1.toInt ≤ 2 ∧ True) := by
  unfold fX7_pourOwn
  have ql0 : (0 : Int32).toInt = 0 := by decide
  have ql2 : (2 : Int32).toInt = 2 := by decide
  have r1 := rgI p0
  refine sBind (s_X7_isNo hN hK (by first | omega | decide) (by first | omega | decide) (by first | omega | decide) (by first | omega | decide)) (fun x4 b2 => ?_)
  obtain ⟨b2_0, b2_1, b2_2, -⟩ := b2
  replace b2_0 : 0 ≤ x4.toInt := b2_0
  replace b2_1 : x4.toInt ≤ 1 := b2_1
  replace b2_2 : (x4.toInt = 0 → ((0 : Int32).toInt ≤ p0.toInt ∧ p0.toInt ≤ (2 : Int32).toInt)) := b2_2
  refine sIf (fun h3 => ?_) (fun h3 => ?_)
  · have r4 := rgI x4
    have fh3 := eqT h3
    refine sBind (s_X7_isNo hN hK (by first | omega | decide) (by first | omega | decide) (by first | omega | decide) (by first | omega | decide)) (fun x13 b5 => ?_)
    obtain ⟨b5_0, b5_1, b5_2, -⟩ := b5
    replace b5_0 : 0 ≤ x13.toInt := b5_0
    replace b5_1 : x13.toInt ≤ 1 := b5_1
    replace b5_2 : (x13.toInt = 0 → ((0 : Int32).toInt ≤ p0.toInt ∧ p0.toInt ≤ (2 : Int32).toInt)) := b5_2
    refine sIf (fun h6 => ?_) (fun h6 => ?_)
    · have r7 := rgI x13
      have fh6 := eqT h6
      have r8 := rgI th
      exact s_X7_pourOwn_24  hN hK _ _ _ (by first | omega | decide) (by first | omega | decide) (by first | omega | decide)
    · have r9 := rgI x13
      have fh6 := eqF h6
      have r10 := rgI th
      exact s_X7_pourOwn_19  hN hK _ _
  · have r11 := rgI x4
    have fh3 := eqF h3
    have r12 := rgI th
    exact s_X7_pourOwn_19  hN hK _ _
set_option maxHeartbeats 2000000 in
theorem s_X7_isKept_32 {N K : Nat} {th : Int32} {f : Nat → Int32} {p0 : Int32} {p1 : Int32} {p2 : Int32} {p3 : Int32} {p4 : Int32} (hN : NBig N) (hK : 100 ≤ K)  : ∀ (s0 : Int32) (s1 : Int32) (th_ : Int32), 0 ≤ s0.toInt → s0.toInt ≤ 1 → 0 ≤ s1.toInt → s1.toInt ≤ 1 → (s0.toInt = 0 → 0 ≤ p1.toInt ∧ p1.toInt ≤ 5 ∧ 0 ≤ p2.toInt ∧ p2.toInt ≤ 20 ∧ 0 ≤ p3.toInt ∧ p3.toInt ≤ 20 ∧ 0 ≤ p4.toInt ∧ p4.toInt ≤ 2) → (s1.toInt = 0 → 0 ≤ p0.toInt ∧ p0.toInt ≤ 2) → Sf (fX7_isKept_32 N K th f p0 p1 p2 p3 p4  s0 s1 th_) (fun (z : Int32 × Int32) => 0 ≤ z.1.toInt ∧ z.1.toInt ≤ 1 ∧ 0 ≤ z.2.toInt ∧ z.2.toInt ≤ 2 ∧ True) := by
  intro s0 s1 th_ hq0 hq1 hq2 hq3 hq4 hq5
  unfold fX7_isKept_32
  have ql0 : (0 : Int32).toInt = 0 := by decide
  have ql1 : (1 : Int32).toInt = 1 := by decide
  have r1 := rgI th_
  have r2 := rgI s1
  have r3 := rgI s0
  refine sBind (s_X7_isThrown hN hK (by first | omega | decide) (by first | omega | decide) (by first | omega | decide) (by first | omega | decide)) (fun x32 b4 => ?_)
  obtain ⟨b4_0, b4_1, b4_2, b4_3, b4_4, b4_5, -⟩ := b4
  replace b4_0 : 0 ≤ x32.1.toInt := b4_0
  replace b4_1 : x32.1.toInt ≤ 1 := b4_1
  replace b4_2 : 0 ≤ x32.2.toInt := b4_2
  replace b4_3 : x32.2.toInt ≤ 2 := b4_3
  replace b4_4 : (x32.1.toInt = 0 → (0 ≤ s1.toInt ∧ s1.toInt ≤ 0)) := b4_4
  replace b4_5 : (x32.1.toInt = 0 → (0 ≤ s0.toInt ∧ s0.toInt ≤ 0)) := b4_5
  refine sIf (fun h5 => ?_) (fun h5 => ?_)
  · have r6 := rgI x32.1
    have fh5 := eqT h5
    have r7 := rgI x32.2
    have r8 := rgI p0
    have r9 := rgI p1
    have r10 := rgI p2
    have r11 := rgI p3
    refine sBind (s_X7_kept hN hK (by first | omega | decide) (by first | omega | decide) (by first | omega | decide) (by first | omega | decide) (by first | omega | decide) (by first | omega | decide) (by first | omega | decide) (by first | omega | decide) (by first | omega | decide) (by first | omega | decide)) (fun x44 b12 => ?_)
    refine sIf (fun h13 => ?_) (fun h13 => ?_)
    · have r14 := rgI x44
      have fh13 := ltT h13
      exact sRet ⟨(by show 0 ≤ (0 : Int32).toInt; decide), (by show (0 : Int32).toInt ≤ 1; decide), (by show 0 ≤ x32.2.toInt; omega), (by show x32.2.toInt ≤ 2; omega), trivial⟩
    · have r15 := rgI x44
      have fh13 := ltF h13
      exact sRet ⟨(by show 0 ≤ (1 : Int32).toInt; decide), (by show (1 : Int32).toInt ≤ 1; decide), (by show 0 ≤ x32.2.toInt; omega), (by show x32.2.toInt ≤ 2; omega), trivial⟩
  · have r16 := rgI x32.1
    have fh5 := eqF h5
    have r17 := rgI x32.2
    exact sRet ⟨(by show 0 ≤ (0 : Int32).toInt; decide), (by show (0 : Int32).toInt ≤ 1; decide), (by show 0 ≤ x32.2.toInt; omega), (by show x32.2.toInt ≤ 2; omega), trivial⟩
set_option maxHeartbeats 2000000 in
theorem s_X7_isKept_27 {N K : Nat} {th : Int32} {f : Nat → Int32} {p0 : Int32} {p1 : Int32} {p2 : Int32} {p3 : Int32} {p4 : Int32} (hN : NBig N) (hK : 100 ≤ K)  : ∀ (s0 : Int32) (th_ : Int32), 0 ≤ s0.toInt → s0.toInt ≤ 1 → (s0.toInt = 0 → 0 ≤ p0.toInt ∧ p0.toInt ≤ 2) → Sf (fX7_isKept_27 N K th f p0 p1 p2 p3 p4  s0 th_) (fun (z : Int32 × Int32) => 0 ≤ z.1.toInt ∧ z.1.toInt ≤ 1 ∧ 0 ≤ z.2.toInt ∧ z.2.toInt ≤ 2 ∧ True) := by
  intro s0 th_ hq0 hq1 hq2
  unfold fX7_isKept_27
  have ql0 : (0 : Int32).toInt = 0 := by decide
  have ql1 : (1 : Int32).toInt = 1 := by decide
  have r1 := rgI s0
  have r2 := rgI th_
  exact s_X7_isKept_32  hN hK _ _ _ (by first | omega | decide) (by first | omega | decide) (by first | omega | decide) (by first | omega | decide) (by first | omega | decide) (by first | omega | decide)
set_option maxHeartbeats 2000000 in
theorem s_X7_isKept {N K : Nat} {th : Int32} {f : Nat → Int32} {p0 : Int32} {p1 : Int32} {p2 : Int32} {p3 : Int32} {p4 : Int32} (hN : NBig N) (hK : 100 ≤ K)  : Sf (fX7_isKept N K th f p0 p1 p2 p3 p4) (fun (z : Int32 × Int32) => 0 ≤ z.1.toInt ∧ z.1.toInt ≤ 1 ∧ 0 ≤ z.2.toInt ∧ z.2.toInt ≤ 2 ∧ True) := by
  unfold fX7_isKept
  have ql0 : (0 : Int32).toInt = 0 := by decide
  have ql2 : (2 : Int32).toInt = 2 := by decide
  have r1 := rgI p0
  refine sBind (s_X7_isNo hN hK (by first | omega | decide) (by first | omega | decide) (by first | omega | decide) (by first | omega | decide)) (fun x4 b2 => ?_)
  obtain ⟨b2_0, b2_1, b2_2, -⟩ := b2
  replace b2_0 : 0 ≤ x4.toInt := b2_0
  replace b2_1 : x4.toInt ≤ 1 := b2_1
  replace b2_2 : (x4.toInt = 0 → ((0 : Int32).toInt ≤ p0.toInt ∧ p0.toInt ≤ (2 : Int32).toInt)) := b2_2
  have r3 := rgI p1
  have r4 := rgI p2
  have r5 := rgI p3
  refine sBind (s_X7_isOut hN hK) (fun x11 b6 => ?_)
  obtain ⟨b6_0, b6_1, b6_2, b6_3, b6_4, -⟩ := b6
  replace b6_0 : 0 ≤ x11.toInt := b6_0
  replace b6_1 : x11.toInt ≤ 1 := b6_1
  replace b6_2 : (x11.toInt = 0 → (0 ≤ p1.toInt ∧ p1.toInt ≤ 5)) := b6_2
  replace b6_3 : (x11.toInt = 0 → (0 ≤ p2.toInt ∧ p2.toInt ≤ 20)) := b6_3
  replace b6_4 : (x11.toInt = 0 → (0 ≤ p3.toInt ∧ p3.toInt ≤ 20)) := b6_4
  refine sIf (fun h7 => ?_) (fun h7 => ?_)
  · have r8 := rgI x11
    have fh7 := eqT h7
    have r9 := rgI p4
    refine sBind (s_X7_isNo hN hK (by first | omega | decide) (by first | omega | decide) (by first | omega | decide) (by first | omega | decide)) (fun x21 b10 => ?_)
    obtain ⟨b10_0, b10_1, b10_2, -⟩ := b10
    replace b10_0 : 0 ≤ x21.toInt := b10_0
    replace b10_1 : x21.toInt ≤ 1 := b10_1
    replace b10_2 : (x21.toInt = 0 → ((0 : Int32).toInt ≤ p4.toInt ∧ p4.toInt ≤ (2 : Int32).toInt)) := b10_2
    refine sIf (fun h11 => ?_) (fun h11 => ?_)
    · have r12 := rgI x21
      have fh11 := eqT h11
      have r13 := rgI x4
      have r14 := rgI th
      exact s_X7_isKept_32  hN hK _ _ _ (by first | omega | decide) (by first | omega | decide) (by first | omega | decide) (by first | omega | decide) (by first | omega | decide) (by first | omega | decide)
    · have r15 := rgI x21
      have fh11 := eqF h11
      have r16 := rgI x4
      have r17 := rgI th
      exact s_X7_isKept_27  hN hK _ _ (by first | omega | decide) (by first | omega | decide) (by first | omega | decide)
  · have r18 := rgI x11
    have fh7 := eqF h7
    have r19 := rgI x4
    have r20 := rgI th
    exact s_X7_isKept_27  hN hK _ _ (by first | omega | decide) (by first | omega | decide) (by first | omega | decide)
