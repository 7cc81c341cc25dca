set_option maxHeartbeats 2000000 in
theorem s_X7_worthOr {N K : Nat} {th : Int32} {f : Nat → Int32} {p0 : Int32} {p1 : Int32} {p2 : Int32} {p3 : Int32} {p4 : Int32} (hN : NBig N) (hK : 100 ≤ K)  : Sf (fX7_worthOr N K th f p0 p1 p2 p3 p4) (fun (z : Int32 × Int32) => 0 ≤ z.2.toInt ∧ z.2.toInt ≤ 2 ∧ True) := by
  unfold fX7_worthOr
  have ql0 : (0 : Int32).toInt = 0 := by decide
  have ql2 : (2 : Int32).toInt = 2 := by decide
  have r1 := rgI p0
  refine sBind (s_X7_isNo hN hK (by first | omega | decide) (by first | omega | decide) (by first | omega | decide) (by first | omega | decide)) (fun x4 b2 => ?_)
  obtain ⟨b2_0, b2_1, b2_2, -⟩ := b2
  replace b2_0 : 0 ≤ x4.toInt := b2_0
  replace b2_1 : x4.toInt ≤ 1 := b2_1
  replace b2_2 : (x4.toInt = 0 → ((0 : Int32).toInt ≤ p0.toInt ∧ p0.toInt ≤ (2 : Int32).toInt)) := b2_2
  have r3 := rgI p1
  have r4 := rgI p2
  have r5 := rgI p3
  refine sBind (s_X7_isOut hN hK) (fun x11 b6 => ?_)
  obtain ⟨b6_0, b6_1, b6_2, b6_3, b6_4, -⟩ := b6
  replace b6_0 : 0 ≤ x11.toInt := b6_0
  replace b6_1 : x11.toInt ≤ 1 := b6_1
  replace b6_2 : (x11.toInt = 0 → (0 ≤ p1.toInt ∧ p1.toInt ≤ 5)) := b6_2
  replace b6_3 : (x11.toInt = 0 → (0 ≤ p2.toInt ∧ p2.toInt ≤ 20)) := b6_3
  replace b6_4 : (x11.toInt = 0 → (0 ≤ p3.toInt ∧ p3.toInt ≤ 20)) := b6_4
  have r7 := rgI th
  have r8 := rgI x4
  have r9 := rgI x11
  refine sBind (s_X7_isThrown hN hK (by first | omega | decide) (by first | omega | decide) (by first | omega | decide) (by first | omega | decide)) (fun x14 b10 => ?_)
  obtain ⟨b10_0, b10_1, b10_2, b10_3, b10_4, b10_5, -⟩ := b10
  replace b10_0 : 0 ≤ x14.1.toInt := b10_0
  replace b10_1 : x14.1.toInt ≤ 1 := b10_1
  replace b10_2 : 0 ≤ x14.2.toInt := b10_2
  replace b10_3 : x14.2.toInt ≤ 2 := b10_3
  replace b10_4 : (x14.1.toInt = 0 → (0 ≤ x4.toInt ∧ x4.toInt ≤ 0)) := b10_4
  replace b10_5 : (x14.1.toInt = 0 → (0 ≤ x11.toInt ∧ x11.toInt ≤ 0)) := b10_5
  refine sIf (fun h11 => ?_) (fun h11 => ?_)
  · have r12 := rgI x14.1
    have fh11 := eqT h11
    have r13 := rgI x14.2
    refine sBind (s_X7_kept hN hK (by first | omega | decide) (by first | omega | decide) (by first | omega | decide) (by first | omega | decide) (by first | omega | decide) (by first | omega | decide) (by first | omega | decide) (by first | omega | decide) (by first | omega | decide) (by first | omega | decide)) (fun x28 b14 => ?_)
    refine sIf (fun h15 => ?_) (fun h15 => ?_)
    · have r16 := rgI x28
      have fh15 := leT h15
      exact sRet ⟨(by show 0 ≤ x14.2.toInt; omega), (by show x14.2.toInt ≤ 2; omega), trivial⟩
    · have r17 := rgI x28
      have fh15 := leF h15
      have r18 := rgI p4
      exact sRet ⟨(by show 0 ≤ x14.2.toInt; omega), (by show x14.2.toInt ≤ 2; omega), trivial⟩
  · have r19 := rgI x14.1
    have fh11 := eqF h11
    have r20 := rgI x14.2
    exact sRet ⟨(by show 0 ≤ x14.2.toInt; omega), (by show x14.2.toInt ≤ 2; omega), trivial⟩
set_option maxHeartbeats 2000000 in
theorem s_X7_confirm {N K : Nat} {th : Int32} {f : Nat → Int32} {p0 : Int32} {p1 : Int32} {p2 : Int32} {p3 : Int32} {p4 : Int32} (hN : NBig N) (hK : 100 ≤ K)  : Sf (fX7_confirm N K th f p0 p1 p2 p3 p4) (fun (z : Int32 × Int32) => 0 ≤ z.1.toInt ∧ z.1.toInt ≤ 1 ∧ 0 ≤ z.2.toInt ∧ z.2.toInt ≤ 2 ∧ True) := by
  unfold fX7_confirm
  have ql0 : (0 : Int32).toInt = 0 := by decide
  have ql1 : (1 : Int32).toInt = 1 := by decide
  have ql2 : (2 : Int32).toInt = 2 := by decide
  have r1 := rgI p0
  refine sBind (s_X7_isNo hN hK (by first | omega | decide) (by first | omega | decide) (by first | omega | decide) (by first | omega | decide)) (fun x4 b2 => ?_)
  obtain ⟨b2_0, b2_1, b2_2, -⟩ := b2
  replace b2_0 : 0 ≤ x4.toInt := b2_0
  replace b2_1 : x4.toInt ≤ 1 := b2_1
  replace b2_2 : (x4.toInt = 0 → ((0 : Int32).toInt ≤ p0.toInt ∧ p0.toInt ≤ (2 : Int32).toInt)) := b2_2
  have r3 := rgI p1
  have r4 := rgI p2
  have r5 := rgI p3
  refine sBind (s_X7_isOut hN hK) (fun x11 b6 => ?_)
  obtain ⟨b6_0, b6_1, b6_2, b6_3, b6_4, -⟩ := b6
  replace b6_0 : 0 ≤ x11.toInt := b6_0
  replace b6_1 : x11.toInt ≤ 1 := b6_1
  replace b6_2 : (x11.toInt = 0 → (0 ≤ p1.toInt ∧ p1.toInt ≤ 5)) := b6_2
  replace b6_3 : (x11.toInt = 0 → (0 ≤ p2.toInt ∧ p2.toInt ≤ 20)) := b6_3
  replace b6_4 : (x11.toInt = 0 → (0 ≤ p3.toInt ∧ p3.toInt ≤ 20)) := b6_4
  have r7 := rgI th
  have r8 := rgI x4
  have r9 := rgI x11
  refine sBind (s_X7_isThrown hN hK (by first | omega | decide) (by first | omega | decide) (by first | omega | decide) (by first | omega | decide)) (fun x14 b10 => ?_)
  obtain ⟨b10_0, b10_1, b10_2, b10_3, b10_4, b10_5, -⟩ := b10
  replace b10_0 : 0 ≤ x14.1.toInt := b10_0
  replace b10_1 : x14.1.toInt ≤ 1 := b10_1
  replace b10_2 : 0 ≤ x14.2.toInt := b10_2
  replace b10_3 : x14.2.toInt ≤ 2 := b10_3
  replace b10_4 : (x14.1.toInt = 0 → (0 ≤ x4.toInt ∧ x4.toInt ≤ 0)) := b10_4
  replace b10_5 : (x14.1.toInt = 0 → (0 ≤ x11.toInt ∧ x11.toInt ≤ 0)) := b10_5
  refine sIf (fun h11 => ?_) (fun h11 => ?_)
  · have r12 := rgI x14.1
    have fh11 := eqT h11
    have r13 := rgI x14.2
    refine sBind (s_X7_kept hN hK (by first | omega | decide) (by first | omega | decide) (by first | omega | decide) (by first | omega | decide) (by first | omega | decide) (by first | omega | decide) (by first | omega | decide) (by first | omega | decide) (by first | omega | decide) (by first | omega | decide)) (fun x28 b14 => ?_)
    refine sIf (fun h15 => ?_) (fun h15 => ?_)
    · have r16 := rgI x28
      have fh15 := ltT h15
      exact sRet ⟨(by show 0 ≤ (0 : Int32).toInt; decide), (by show (0 : Int32).toInt ≤ 1; decide), (by show 0 ≤ x14.2.toInt; omega), (by show x14.2.toInt ≤ 2; omega), trivial⟩
    · have r17 := rgI x28
      have fh15 := ltF h15
      refine sIf (fun h18 => ?_) (fun h18 => ?_)
      · have r19 := rgI p4
        have fh18 := eqT h18
        exact sRet ⟨(by show 0 ≤ (1 : Int32).toInt; decide), (by show (1 : Int32).toInt ≤ 1; decide), (by show 0 ≤ x14.2.toInt; omega), (by show x14.2.toInt ≤ 2; omega), trivial⟩
      · have r20 := rgI p4
        have fh18 := eqF h18
        exact sRet ⟨(by show 0 ≤ (0 : Int32).toInt; decide), (by show (0 : Int32).toInt ≤ 1; decide), (by show 0 ≤ x14.2.toInt; omega), (by show x14.2.toInt ≤ 2; omega), trivial⟩
  · have r21 := rgI x14.1
    have fh11 := eqF h11
    have r22 := rgI x14.2
    exact sRet ⟨(by show 0 ≤ (0 : Int32).toInt; decide), (by show (0 : Int32).toInt ≤ 1; decide), (by show 0 ≤ x14.2.toInt; omega), (by show x14.2.toInt ≤ 2; omega), trivial⟩
set_option maxHeartbeats 2000000 in
theorem s_X7_about {N K : Nat} {th : Int32} {f : Nat → Int32} {p0 : Int32} {p1 : Int32} (hN : NBig N) (hK : 100 ≤ K)  : Sf (fX7_about N K th f p0 p1) (fun (z : Int32 × Int32) => 0 ≤ z.2.toInt ∧ z.2.toInt ≤ 2 ∧ True) := by
  unfold fX7_about
  have ql0 : (0 : Int32).toInt = 0 := by decide
  have ql2 : (2 : Int32).toInt = 2 := by decide
  have ql3 : (3 : Int32).toInt = 3 := by decide
  have r1 := rgI p0
  refine sBind (s_X7_isNo hN hK (by first | omega | decide) (by first | omega | decide) (by first | omega | decide) (by first | omega | decide)) (fun x4 b2 => ?_)
  obtain ⟨b2_0, b2_1, b2_2, -⟩ := b2
  replace b2_0 : 0 ≤ x4.toInt := b2_0
  replace b2_1 : x4.toInt ≤ 1 := b2_1
  replace b2_2 : (x4.toInt = 0 → ((0 : Int32).toInt ≤ p0.toInt ∧ p0.toInt ≤ (2 : Int32).toInt)) := b2_2
  have r3 := rgI p1
  refine sBind (s_X7_isNo hN hK (by first | omega | decide) (by first | omega | decide) (by first | omega | decide) (by first | omega | decide)) (fun x10 b4 => ?_)
  obtain ⟨b4_0, b4_1, b4_2, -⟩ := b4
  replace b4_0 : 0 ≤ x10.toInt := b4_0
  replace b4_1 : x10.toInt ≤ 1 := b4_1
  replace b4_2 : (x10.toInt = 0 → ((0 : Int32).toInt ≤ p1.toInt ∧ p1.toInt ≤ (3 : Int32).toInt)) := b4_2
  have r5 := rgI th
  have r6 := rgI x4
  have r7 := rgI x10
  refine sBind (s_X7_isThrown hN hK (by first | omega | decide) (by first | omega | decide) (by first | omega | decide) (by first | omega | decide)) (fun x13 b8 => ?_)
  obtain ⟨b8_0, b8_1, b8_2, b8_3, b8_4, b8_5, -⟩ := b8
  replace b8_0 : 0 ≤ x13.1.toInt := b8_0
  replace b8_1 : x13.1.toInt ≤ 1 := b8_1
  replace b8_2 : 0 ≤ x13.2.toInt := b8_2
  replace b8_3 : x13.2.toInt ≤ 2 := b8_3
  replace b8_4 : (x13.1.toInt = 0 → (0 ≤ x4.toInt ∧ x4.toInt ≤ 0)) := b8_4
  replace b8_5 : (x13.1.toInt = 0 → (0 ≤ x10.toInt ∧ x10.toInt ≤ 0)) := b8_5
  refine sIf (fun h9 => ?_) (fun h9 => ?_)
  · have r10 := rgI x13.1
    have fh9 := eqT h9
    have r11 := rgI x13.2
    refine sBind (s_X7_told2 hN hK (by first | omega | decide) (by first | omega | decide) (by first | omega | decide) (by first | omega | decide) (by first | omega | decide) (by first | omega | decide)) (fun x26 b12 => ?_)
    have r13 := rgI x26
    exact sRet ⟨(by show 0 ≤ x13.2.toInt; omega), (by show x13.2.toInt ≤ 2; omega), trivial⟩
  · have r14 := rgI x13.1
    have fh9 := eqF h9
    have r15 := rgI x13.2
    exact sRet ⟨(by show 0 ≤ x13.2.toInt; omega), (by show x13.2.toInt ≤ 2; omega), trivial⟩
set_option maxHeartbeats 2000000 in
theorem s_X7_has {N K : Nat} {th : Int32} {f : Nat → Int32} {p0 : Int32} {p1 : Int32} (hN : NBig N) (hK : 100 ≤ K)  : Sf (fX7_has N K th f p0 p1) (fun (z : Int32 × Int32) => 0 ≤ z.1.toInt ∧ z.1.toInt ≤ 1 ∧ 0 ≤ z.2.toInt ∧ z.2.toInt ≤ 2 ∧ True) := by
  unfold fX7_has
  have ql0 : (0 : Int32).toInt = 0 := by decide
  have ql1 : (1 : Int32).toInt = 1 := by decide
  have ql2 : (2 : Int32).toInt = 2 := by decide
  have ql3 : (3 : Int32).toInt = 3 := by decide
  have r1 := rgI p0
  refine sBind (s_X7_isNo hN hK (by first | omega | decide) (by first | omega | decide) (by first | omega | decide) (by first | omega | decide)) (fun x4 b2 => ?_)
  obtain ⟨b2_0, b2_1, b2_2, -⟩ := b2
  replace b2_0 : 0 ≤ x4.toInt := b2_0
  replace b2_1 : x4.toInt ≤ 1 := b2_1
  replace b2_2 : (x4.toInt = 0 → ((0 : Int32).toInt ≤ p0.toInt ∧ p0.toInt ≤ (2 : Int32).toInt)) := b2_2
  have r3 := rgI th
  have r4 := rgI x4
  refine sBind (s_X7_isThrown hN hK (by first | omega | decide) (by first | omega | decide) (by first | omega | decide) (by first | omega | decide)) (fun x8 b5 => ?_)
  obtain ⟨b5_0, b5_1, b5_2, b5_3, b5_4, b5_5, -⟩ := b5
  replace b5_0 : 0 ≤ x8.1.toInt := b5_0
  replace b5_1 : x8.1.toInt ≤ 1 := b5_1
  replace b5_2 : 0 ≤ x8.2.toInt := b5_2
  replace b5_3 : x8.2.toInt ≤ 2 := b5_3
  replace b5_4 : (x8.1.toInt = 0 → (0 ≤ x4.toInt ∧ x4.toInt ≤ 0)) := b5_4
  replace b5_5 : (x8.1.toInt = 0 → (0 ≤ (0 : Int32).toInt ∧ (0 : Int32).toInt ≤ 0)) := b5_5
  refine sIf (fun h6 => ?_) (fun h6 => ?_)
  · have r7 := rgI x8.1
    have fh6 := eqT h6
    have r8 := rgI x8.2
    have r9 := rgI p1
    refine sBind (s_X7_counted hN hK (by first | omega | decide) (by first | omega | decide) (by first | omega | decide) (by first | omega | decide) (by first | omega | decide) (by first | omega | decide)) (fun x18 b10 => ?_)
    refine sIf (fun h11 => ?_) (fun h11 => ?_)
    · have r12 := rgI x18
      have fh11 := leT h11
      exact sRet ⟨(by show 0 ≤ (0 : Int32).toInt; decide), (by show (0 : Int32).toInt ≤ 1; decide), (by show 0 ≤ x8.2.toInt; omega), (by show x8.2.toInt ≤ 2; omega), trivial⟩
    · have r13 := rgI x18
      have fh11 := leF h11
      exact sRet ⟨(by show 0 ≤ (1 : Int32).toInt; decide), (by show (1 : Int32).toInt ≤ 1; decide), (by show 0 ≤ x8.2.toInt; omega), (by show x8.2.toInt ≤ 2; omega), trivial⟩
  · have r14 := rgI x8.1
    have fh6 := eqF h6
    have r15 := rgI x8.2
    exact sRet ⟨(by show 0 ≤ (0 : Int32).toInt; decide), (by show (0 : Int32).toInt ≤ 1; decide), (by show 0 ≤ x8.2.toInt; omega), (by show x8.2.toInt ≤ 2; omega), trivial⟩
set_option maxHeartbeats 2000000 in
theorem s_X7_count {N K : Nat} {th : Int32} {f : Nat → Int32} {p0 : Int32} {p1 : Int32} {p2 : Int32} (hN : NBig N) (hK : 100 ≤ K)  : Sf (fX7_count N K th f p0 p1 p2) (fun (z : Int32 × Int32) => 0 ≤ z.2.toInt ∧ z.2.toInt ≤ 2 ∧ True) := by
  unfold fX7_count
  have ql0 : (0 : Int32).toInt = 0 := by decide
  have ql2 : (2 : Int32).toInt = 2 := by decide
  have ql3 : (3 : Int32).toInt = 3 := by decide
  have r1 := rgI p0
  refine sBind (s_X7_isNo hN hK (by first | omega | decide) (by first | omega | decide) (by first | omega | decide) (by first | omega | decide)) (fun x4 b2 => ?_)
  obtain ⟨b2_0, b2_1, b2_2, -⟩ := b2
  replace b2_0 : 0 ≤ x4.toInt := b2_0
  replace b2_1 : x4.toInt ≤ 1 := b2_1
  replace b2_2 : (x4.toInt = 0 → ((0 : Int32).toInt ≤ p0.toInt ∧ p0.toInt ≤ (2 : Int32).toInt)) := b2_2
  have r3 := rgI p1
  refine sBind (s_X7_isNo hN hK (by first | omega | decide) (by first | omega | decide) (by first | omega | decide) (by first | omega | decide)) (fun x10 b4 => ?_)
  obtain ⟨b4_0, b4_1, b4_2, -⟩ := b4
  replace b4_0 : 0 ≤ x10.toInt := b4_0
  replace b4_1 : x10.toInt ≤ 1 := b4_1
  replace b4_2 : (x10.toInt = 0 → ((0 : Int32).toInt ≤ p1.toInt ∧ p1.toInt ≤ (3 : Int32).toInt)) := b4_2
  have r5 := rgI th
  have r6 := rgI x4
  have r7 := rgI x10
  refine sBind (s_X7_isThrown hN hK (by first | omega | decide) (by first | omega | decide) (by first | omega | decide) (by first | omega | decide)) (fun x13 b8 => ?_)
  obtain ⟨b8_0, b8_1, b8_2, b8_3, b8_4, b8_5, -⟩ := b8
  replace b8_0 : 0 ≤ x13.1.toInt := b8_0
  replace b8_1 : x13.1.toInt ≤ 1 := b8_1
  replace b8_2 : 0 ≤ x13.2.toInt := b8_2
  replace b8_3 : x13.2.toInt ≤ 2 := b8_3
  replace b8_4 : (x13.1.toInt = 0 → (0 ≤ x4.toInt ∧ x4.toInt ≤ 0)) := b8_4
  replace b8_5 : (x13.1.toInt = 0 → (0 ≤ x10.toInt ∧ x10.toInt ≤ 0)) := b8_5
  refine sIf (fun h9 => ?_) (fun h9 => ?_)
  · have r10 := rgI x13.1
    have fh9 := eqT h9
    have r11 := rgI x13.2
    have r12 := rgI p2
    refine sBind (s_X7_counted hN hK (by first | omega | decide) (by first | omega | decide) (by first | omega | decide) (by first | omega | decide) (by first | omega | decide) (by first | omega | decide)) (fun x27 b13 => ?_)
    have r14 := rgI x27
    exact sRet ⟨(by show 0 ≤ x13.2.toInt; omega), (by show x13.2.toInt ≤ 2; omega), trivial⟩
  · have r15 := rgI x13.1
    have fh9 := eqF h9
    have r16 := rgI x13.2
    exact sRet ⟨(by show 0 ≤ x13.2.toInt; omega), (by show x13.2.toInt ≤ 2; omega), trivial⟩
set_option maxHeartbeats 2000000 in
theorem s_X7_isSame_73 {N K : Nat} {th : Int32} {f : Nat → Int32} {f2 : Nat → Int32} {p0 : Int32} {p1 : Int32} (hN : NBig N) (hK : 100 ≤ K)  {k_38 : Int32 → Int32 → Int32 → Option (Int32 × Int32)} {m_38 : Nat} (hk_38 : ∀ (l3 : Int32) (l4 : Int32) (th_ : Int32), (6144 - l4.toInt).toNat < m_38 → 0 ≤ p0.toInt → p0.toInt ≤ 2 → 0 ≤ p1.toInt → p1.toInt ≤ 2 → 0 ≤ l4.toInt → l4.toInt ≤ 6144 → 0 ≤ th_.toInt → th_.toInt ≤ 2 → Sf (k_38 l3 l4 th_) (fun (z : Int32 × Int32) => 0 ≤ z.2.toInt ∧ z.2.toInt ≤ 2 ∧ True)) : ∀ (l4 : Int32) (s0 : Int32) (s1 : Int32) (th_ : Int32), 0 ≤ p0.toInt → p0.toInt ≤ 2 → 0 ≤ p1.toInt → p1.toInt ≤ 2 → 0 ≤ l4.toInt → l4.toInt ≤ 6143 → 0 ≤ s0.toInt → s0.toInt ≤ 1 → 0 ≤ th_.toInt → th_.toInt ≤ 2 → (s0.toInt = 0 → 0 ≤ p0.toInt ∧ p0.toInt ≤ 2 ∧ 0 ≤ p1.toInt ∧ p1.toInt ≤ 2) → (s1.toInt = 0 → 0 ≤ p0.toInt ∧ p0.toInt ≤ 2 ∧ 0 ≤ p1.toInt ∧ p1.toInt ≤ 2) → (6144 - l4.toInt).toNat ≤ m_38 → Sf (fX7_isSame_73 N K th f f2 p0 p1 k_38 l4 s0 s1 th_) (fun (z : Int32 × Int32) => 0 ≤ z.2.toInt ∧ z.2.toInt ≤ 2 ∧ True) := by
  intro l4 s0 s1 th_ hq0 hq1 hq2 hq3 hq4 hq5 hq6 hq7 hq8 hq9 hq10 hq11 hq12
  unfold fX7_isSame_73
  have ql0 : (0 : Int32).toInt = 0 := by decide
  have ql1 : (1 : Int32).toInt = 1 := by decide
  have r1 := rgI (s1 &&& s0)
  have r3 := rgI l4
  have t2 := addI (a := l4) (b := (1 : Int32)) (by omega) (by omega)
  have r4 := rgI th_
  exact hk_38 _ _ _ (by omega) (by first | omega | decide) (by first | omega | decide) (by first | omega | decide) (by first | omega | decide) (by first | omega | decide) (by first | omega | decide) (by first | omega | decide) (by first | omega | decide)
set_option maxHeartbeats 2000000 in
theorem s_X7_isSame_38 {N K : Nat} {th : Int32} {f : Nat → Int32} {f2 : Nat → Int32} {p0 : Int32} {p1 : Int32} (hN : NBig N) (hK : 100 ≤ K)  : ∀ (fu : Nat) (l3 : Int32) (l4 : Int32) (th_ : Int32), (6144 - l4.toInt).toNat < fu → 0 ≤ p0.toInt → p0.toInt ≤ 2 → 0 ≤ p1.toInt → p1.toInt ≤ 2 → 0 ≤ l4.toInt → l4.toInt ≤ 6144 → 0 ≤ th_.toInt → th_.toInt ≤ 2 → Sf (fX7_isSame_38 N K th f f2 p0 p1  fu l3 l4 th_) (fun (z : Int32 × Int32) => 0 ≤ z.2.toInt ∧ z.2.toInt ≤ 2 ∧ True) := by
  intro fu
  induction fu with
  | zero => intro l3 l4 th_ h0 hq0 hq1 hq2 hq3 hq4 hq5 hq6 hq7; omega
  | succ fu ih =>
    intro l3 l4 th_ h0 hq0 hq1 hq2 hq3 hq4 hq5 hq6 hq7
    unfold fX7_isSame_38
    have ql0 : (0 : Int32).toInt = 0 := by decide
    have ql1 : (1 : Int32).toInt = 1 := by decide
    have ql6144 : (6144 : Int32).toInt = 6144 := by decide
    refine sIf (fun h1 => ?_) (fun h1 => ?_)
    · have r2 := rgI l4
      have fh1 := leT h1
      have r3 := rgI l3
      refine sIfT (b01 (by omega) (by omega)) ?_
      have r4 := rgI th_
      exact sRet ⟨(by show 0 ≤ th_.toInt; omega), (by show th_.toInt ≤ 2; omega), trivial⟩
    · have r5 := rgI l4
      have fh1 := leF h1
      have r6 := rgI p0
      refine sIfF (noob (by omega) (by omega)) ?_
      refine sIfF (noob (by omega) (by omega)) ?_
      have r7 := rgI p1
      refine sIfF (noob (by omega) (by omega)) ?_
      refine sIfF (noob (by omega) (by omega)) ?_
      refine sIf (fun h8 => ?_) (fun h8 => ?_)
      · have r9 := rgI (f l4.toNatClampNeg)
        have r10 := rgI (f2 l4.toNatClampNeg)
        have fh8 := eqT h8
        have r11 := rgI l3
        have r12 := rgI th_
        exact s_X7_isSame_73 (hk_38 := ih) hN hK _ _ _ _ (by first | omega | decide) (by first | omega | decide) (by first | omega | decide) (by first | omega | decide) (by first | omega | decide) (by first | omega | decide) (by first | omega | decide) (by first | omega | decide) (by first | omega | decide) (by first | omega | decide) (by first | omega | decide) (by first | omega | decide) (by omega)
      · have r13 := rgI (f l4.toNatClampNeg)
        have r14 := rgI (f2 l4.toNatClampNeg)
        have fh8 := eqF h8
        have r15 := rgI l3
        have r16 := rgI th_
        exact s_X7_isSame_73 (hk_38 := ih) hN hK _ _ _ _ (by first | omega | decide) (by first | omega | decide) (by first | omega | decide) (by first | omega | decide) (by first | omega | decide) (by first | omega | decide) (by first | omega | decide) (by first | omega | decide) (by first | omega | decide) (by first | omega | decide) (by first | omega | decide) (by first | omega | decide) (by omega)
set_option maxHeartbeats 2000000 in
theorem s_X7_isSame_24 {N K : Nat} {th : Int32} {f : Nat → Int32} {f2 : Nat → Int32} {p0 : Int32} {p1 : Int32} (hN : NBig N) (hK : 100 ≤ K)  : ∀ (s0 : Int32) (th_ : Int32), 0 ≤ s0.toInt → s0.toInt ≤ 1 → (s0.toInt = 0 → 0 ≤ p0.toInt ∧ p0.toInt ≤ 2 ∧ 0 ≤ p1.toInt ∧ p1.toInt ≤ 2) → Sf (fX7_isSame_24 N K th f f2 p0 p1  s0 th_) (fun (z : Int32 × Int32) => 0 ≤ z.2.toInt ∧ z.2.toInt ≤ 2 ∧ True) := by
  intro s0 th_ hq0 hq1 hq2
  unfold fX7_isSame_24
  have hN9 := hN.u
  have ql0 : (0 : Int32).toInt = 0 := by decide
  have ql1 : (1 : Int32).toInt = 1 := by decide
  have r1 := rgI th_
  have r2 := rgI s0
  refine sBind (s_X7_isThrown hN hK (by first | omega | decide) (by first | omega | decide) (by first | omega | decide) (by first | omega | decide)) (fun x25 b3 => ?_)
  obtain ⟨b3_0, b3_1, b3_2, b3_3, b3_4, b3_5, -⟩ := b3
  replace b3_0 : 0 ≤ x25.1.toInt := b3_0
  replace b3_1 : x25.1.toInt ≤ 1 := b3_1
  replace b3_2 : 0 ≤ x25.2.toInt := b3_2
  replace b3_3 : x25.2.toInt ≤ 2 := b3_3
  replace b3_4 : (x25.1.toInt = 0 → (0 ≤ s0.toInt ∧ s0.toInt ≤ 0)) := b3_4
  replace b3_5 : (x25.1.toInt = 0 → (0 ≤ (0 : Int32).toInt ∧ (0 : Int32).toInt ≤ 0)) := b3_5
  refine sIf (fun h4 => ?_) (fun h4 => ?_)
  · have r5 := rgI x25.1
    have fh4 := eqT h4
    have r6 := rgI x25.2
    exact s_X7_isSame_38  hN hK _ _ _ _ (by omega) (by first | omega | decide) (by first | omega | decide) (by first | omega | decide) (by first | omega | decide) (by first | omega | decide) (by first | omega | decide) (by first | omega | decide) (by first | omega | decide)
  · have r7 := rgI x25.1
    have fh4 := eqF h4
    have r8 := rgI x25.2
    exact sRet ⟨(by show 0 ≤ x25.2.toInt; omega), (by show x25.2.toInt ≤ 2; omega), trivial⟩
set_option maxHeartbeats 2000000 in
theorem s_X7_isSame_19 {N K : Nat} {th : Int32} {f : Nat → Int32} {f2 : Nat → Int32} {p0 : Int32} {p1 : Int32} (hN : NBig N) (hK : 100 ≤ K)  : ∀ (th_ : Int32), Sf (fX7_isSame_19 N K th f f2 p0 p1  th_) (fun (z : Int32 × Int32) => 0 ≤ z.2.toInt ∧ z.2.toInt ≤ 2 ∧ True) := by
  intro th_ 
  unfold fX7_isSame_19
  have ql0 : (0 : Int32).toInt = 0 := by decide
  have ql1 : (1 : Int32).toInt = 1 := by decide
  have r1 := rgI th_
  exact s_X7_isSame_24  hN hK _ _ (by first | omega | decide) (by first | omega | decide) (by first | omega | decide)
set_option maxHeartbeats 2000000 in
theorem s_X7_isSame {N K : Nat} {th : Int32} {f : Nat → Int32} {f2 : Nat → Int32} {p0 : Int32} {p1 : Int32} (hN : NBig N) (hK : 100 ≤ K)  : Sf (fX7_isSame N K th f f2 p0 p1) (fun (z : Int32 × Int32) => 0 ≤ z.2.toInt ∧ z.2.toInt ≤ 2 ∧ True) := by
  unfold fX7_isSame
  have ql0 : (0 : Int32).toInt = 0 := by decide
  have ql2 : (2 : Int32).toInt = 2 := by decide
  have r1 := rgI p0
  refine sBind (s_X7_isNo hN hK (by first | omega | decide) (by first | omega | decide) (by first | omega | decide) (by first | omega | decide)) (fun x4 b2 => ?_)
  obtain ⟨b2_0, b2_1, b2_2, -⟩ := b2
  replace b2_0 : 0 ≤ x4.toInt := b2_0
  replace b2_1 : x4.toInt ≤ 1 := b2_1
  replace b2_2 : (x4.toInt = 0 → ((0 : Int32).toInt ≤ p0.toInt ∧ p0.toInt ≤ (2 : Int32).toInt)) := b2_2
  refine sIf (fun h3 => ?_) (fun h3 => ?_)
  · have r4 := rgI x4
    have fh3 := eqT h3
    have r5 := rgI p1
    refine sBind (s_X7_isNo hN hK (by first | omega | decide) (by first | omega | decide) (by first | omega | decide) (by first | omega | decide)) (fun x13 b6 => ?_)
    obtain ⟨b6_0, b6_1, b6_2, -⟩ := b6
    replace b6_0 : 0 ≤ x13.toInt := b6_0
    replace b6_1 : x13.toInt ≤ 1 := b6_1
    replace b6_2 : (x13.toInt = 0 → ((0 : Int32).toInt ≤ p1.toInt ∧ p1.toInt ≤ (2 : Int32).toInt)) := b6_2
    refine sIf (fun h7 => ?_) (fun h7 => ?_)
    · have r8 := rgI x13
      have fh7 := eqT h7
      have r9 := rgI th
      exact s_X7_isSame_24  hN hK _ _ (by first | omega | decide) (by first | omega | decide) (by first | omega | decide)
    · have r10 := rgI x13
      have fh7 := eqF h7
      have r11 := rgI th
      exact s_X7_isSame_19  hN hK _
  · have r12 := rgI x4
    have fh3 := eqF h3
    have r13 := rgI th
    exact s_X7_isSame_19  hN hK _
set_option maxHeartbeats 2000000 in
theorem s_X7_isSameOwn_73 {N K : Nat} {th : Int32} {f : Nat → Int32} {p0 : Int32} (hN : NBig N) (hK : 100 ≤ K)  {k_38 : Int32 → Int32 → Int32 → Option (Int32 × Int32)} {m_38 : Nat} (hk_38 : ∀ (l3 : Int32) (l4 : Int32) (th_ : Int32), (6144 - l4.toInt).toNat < m_38 → 0 ≤ p0.toInt → p0.toInt ≤ 2 → 0 ≤ l4.toInt → l4.toInt ≤ 6144 → 0 ≤ th_.toInt → th_.toInt ≤ 2 → Sf (k_38 l3 l4 th_) (fun (z : Int32 × Int32) => 0 ≤ z.2.toInt ∧ z.2.toInt ≤ 2 ∧ True)) : ∀ (l4 : Int32) (s0 : Int32) (s1 : Int32) (th_ : Int32), 0 ≤ p0.toInt → p0.toInt ≤ 2 → 0 ≤ l4.toInt → l4.toInt ≤ 6143 → 1 ≤ s0.toInt → s0.toInt ≤ 1 → 0 ≤ th_.toInt → th_.toInt ≤ 2 → (s1.toInt = 0 → 0 ≤ p0.toInt ∧ p0.toInt ≤ 2) → (6144 - l4.toInt).toNat ≤ m_38 → Sf (fX7_isSameOwn_73 N K th f p0 k_38 l4 s0 s1 th_) (fun (z : Int32 × Int32) => 0 ≤ z.2.toInt ∧ z.2.toInt ≤ 2 ∧ True) := by
  intro l4 s0 s1 th_ hq0 hq1 hq2 hq3 hq4 hq5 hq6 hq7 hq8 hq9
  unfold fX7_isSameOwn_73
  have ql0 : (0 : Int32).toInt = 0 := by decide
  have ql1 : (1 : Int32).toInt = 1 := by decide
  have r1 := rgI (s1 &&& s0)
  have r3 := rgI l4
  have t2 := addI (a := l4) (b := (1 : Int32)) (by omega) (by omega)
  have r4 := rgI th_
  exact hk_38 _ _ _ (by omega) (by first | omega | decide) (by first | omega | decide) (by first | omega | decide) (by first | omega | decide) (by first | omega | decide) (by first | omega | decide)
set_option maxHeartbeats 2000000 in
theorem s_X7_isSameOwn_38 {N K : Nat} {th : Int32} {f : Nat → Int32} {p0 : Int32} (hN : NBig N) (hK : 100 ≤ K)  : ∀ (fu : Nat) (l3 : Int32) (l4 : Int32) (th_ : Int32), (6144 - l4.toInt).toNat < fu → 0 ≤ p0.toInt → p0.toInt ≤ 2 → 0 ≤ l4.toInt → l4.toInt ≤ 6144 → 0 ≤ th_.toInt → th_.toInt ≤ 2 → Sf (fX7_isSameOwn_38 N K th f p0  fu l3 l4 th_) (fun (z : Int32 × Int32) => 0 ≤ z.2.toInt ∧ z.2.toInt ≤ 2 ∧ True) := by
  intro fu
  induction fu with
  | zero => intro l3 l4 th_ h0 hq0 hq1 hq2 hq3 hq4 hq5; omega
  | succ fu ih =>
    intro l3 l4 th_ h0 hq0 hq1 hq2 hq3 hq4 hq5
    unfold fX7_isSameOwn_38
    have ql0 : (0 : Int32).toInt = 0 := by decide
    have ql1 : (1 : Int32).toInt = 1 := by decide
    have ql6144 : (6144 : Int32).toInt = 6144 := by decide
    refine sIf (fun h1 => ?_) (fun h1 => ?_)
    · have r2 := rgI l4
      have fh1 := leT h1
      have r3 := rgI l3
      refine sIfT (b01 (by omega) (by omega)) ?_
      have r4 := rgI th_
      exact sRet ⟨(by show 0 ≤ th_.toInt; omega), (by show th_.toInt ≤ 2; omega), trivial⟩
    · have r5 := rgI l4
      have fh1 := leF h1
      have r6 := rgI p0
      refine sIfF (noob (by omega) (by omega)) ?_
      refine sIfF (noob (by omega) (by omega)) ?_
      refine sIfF (noob (by omega) (by omega)) ?_
      refine sIfF (noob (by omega) (by omega)) ?_
      have r7 := rgI l3
      have r8 := rgI th_
      exact s_X7_isSameOwn_73 (hk_38 := ih) hN hK _ _ _ _ (by first | omega | decide) (by first | omega | decide) (by first | omega | decide) (by first | omega | decide) (by first | omega | decide) (by first | omega | decide) (by first | omega | decide) (by first | omega | decide) (by first | omega | decide) (by omega)
set_option maxHeartbeats 2000000 in
theorem s_X7_isSameOwn_24 {N K : Nat} {th : Int32} {f : Nat → Int32} {p0 : Int32} (hN : NBig N) (hK : 100 ≤ K)  : ∀ (s0 : Int32) (th_ : Int32), 0 ≤ s0.toInt → s0.toInt ≤ 1 → (s0.toInt = 0 → 0 ≤ p0.toInt ∧ p0.toInt ≤ 2) → Sf (fX7_isSameOwn_24 N K th f p0  s0 th_) (fun (z : Int32 × Int32) => 0 ≤ z.2.toInt ∧ z.2.toInt ≤ 2 ∧ True) := by
  intro s0 th_ hq0 hq1 hq2
  unfold fX7_isSameOwn_24
  have hN9 := hN.u
  have ql0 : (0 : Int32).toInt = 0 := by decide
  have ql1 : (1 : Int32).toInt = 1 := by decide
  have r1 := rgI th_
  have r2 := rgI s0
  refine sBind (s_X7_isThrown hN hK (by first | omega | decide) (by first | omega | decide) (by first | omega | decide) (by first | omega | decide)) (fun x25 b3 => ?_)
  obtain ⟨b3_0, b3_1, b3_2, b3_3, b3_4, b3_5, -⟩ := b3
  replace b3_0 : 0 ≤ x25.1.toInt := b3_0
  replace b3_1 : x25.1.toInt ≤ 1 := b3_1
  replace b3_2 : 0 ≤ x25.2.toInt := b3_2
  replace b3_3 : x25.2.toInt ≤ 2 := b3_3
  replace b3_4 : (x25.1.toInt = 0 → (0 ≤ s0.toInt ∧ s0.toInt ≤ 0)) := b3_4
  replace b3_5 : (x25.1.toInt = 0 → (0 ≤ (0 : Int32).toInt ∧ (0 : Int32).toInt ≤ 0)) := b3_5
  refine sIf (fun h4 => ?_) (fun h4 => ?_)
  · have r5 := rgI x25.1
    have fh4 := eqT h4
    have r6 := rgI x25.2
    exact s_X7_isSameOwn_38  hN hK _ _ _ _ (by omega) (by first | omega | decide) (by first | omega | decide) (by first | omega | decide) (by first | omega | decide) (by first | omega | decide) (by first | omega | decide)
  · have r7 := rgI x25.1
    have fh4 := eqF h4
    have r8 := rgI x25.2
    exact sRet ⟨(by show 0 ≤ x25.2.toInt; omega), (by show x25.2.toInt ≤ 2; omega), trivial⟩
set_option maxHeartbeats 2000000 in
theorem s_X7_isSameOwn_19 {N K : Nat} {th : Int32} {f : Nat → Int32} {p0 : Int32} (hN : NBig N) (hK : 100 ≤ K)  : ∀ (th_ : Int32), Sf (fX7_isSameOwn_19 N K th f p0  th_) (fun (z : Int32 × Int32) => 0 ≤ z.2.toInt ∧ z.2.toInt ≤ 2 ∧ True) := by
  intro th_ 
  unfold fX7_isSameOwn_19
  have ql0 : (0 : Int32).toInt = 0 := by decide
  have ql1 : (1 : Int32).toInt = 1 := by decide
  have r1 := rgI th_
  exact s_X7_isSameOwn_24  hN hK _ _ (by first | omega | decide) (by first | omega | decide) (by first | omega | decide)
set_option maxHeartbeats 2000000 in
theorem s_X7_isSameOwn {N K : Nat} {th : Int32} {f : Nat → Int32} {p0 : Int32} (hN : NBig N) (hK : 100 ≤ K)  : Sf (fX7_isSameOwn N K th f p0) (fun (z : Int32 × Int32) => 0 ≤ z.2.toInt ∧ z.2.toInt ≤ 2 ∧ True) := by
  unfold fX7_isSameOwn
  have ql0 : (0 : Int32).toInt = 0 := by decide
  have ql2 : (2 : Int32).toInt = 2 := by decide
  have r1 := rgI p0
  refine sBind (s_X7_isNo hN hK (by first | omega | decide) (by first | omega | decide) (by first | omega | decide) (by first | omega | decide)) (fun x4 b2 => ?_)
  obtain ⟨b2_0, b2_1, b2_2, -⟩ := b2
  replace b2_0 : 0 ≤ x4.toInt := b2_0
  replace b2_1 : x4.toInt ≤ 1 := b2_1
  replace b2_2 : (x4.toInt = 0 → ((0 : Int32).toInt ≤ p0.toInt ∧ p0.toInt ≤ (2 : Int32).toInt)) := b2_2
  refine sIf (fun h3 => ?_) (fun h3 => ?_)
  · have r4 := rgI x4
    have fh3 := eqT h3
    refine sBind (s_X7_isNo hN hK (by first | omega | decide) (by first | omega | decide) (by first | omega | decide) (by first | omega | decide)) (fun x13 b5 => ?_)
    obtain ⟨b5_0, b5_1, b5_2, -⟩ := b5
    replace b5_0 : 0 ≤ x13.toInt := b5_0
    replace b5_1 : x13.toInt ≤ 1 := b5_1
    replace b5_2 : (x13.toInt = 0 → ((0 : Int32).toInt ≤ p0.toInt ∧ p0.toInt ≤ (2 : Int32).toInt)) := b5_2
    refine sIf (fun h6 => ?_) (fun h6 => ?_)
    · have r7 := rgI x13
      have fh6 := eqT h6
      have r8 := rgI th
      exact s_X7_isSameOwn_24  hN hK _ _ (by first | omega | decide) (by first | omega | decide) (by first | omega | decide)
    · have r9 := rgI x13
      have fh6 := eqF h6
      have r10 := rgI th
      exact s_X7_isSameOwn_19  hN hK _
  · have r11 := rgI x4
    have fh3 := eqF h3
    have r12 := rgI th
    exact s_X7_isSameOwn_19  hN hK _
set_option maxHeartbeats 2000000 in
theorem s_X7_product_36 {N K : Nat} {th : Int32} {p0 : Int32} {p1 : Int32} {p2 : Int32} (hN : NBig N) (hK : 100 ≤ K)  : ∀ (s0 : Int32) (th_ : Int32), 0 ≤ s0.toInt → s0.toInt ≤ 1 → (s0.toInt = 0 → 0 ≤ p0.toInt ∧ p0.toInt ≤ 7 ∧ 0 ≤ p1.toInt ∧ p1.toInt ≤ 20 ∧ 0 ≤ p2.toInt ∧ p2.toInt ≤ 20) → Sf (fX7_product_36 N K th p0 p1 p2  s0 th_) (fun (z : Int32 × Int32) => 0 ≤ z.2.toInt ∧ z.2.toInt ≤ 2 ∧ True) := by
  intro s0 th_ hq0 hq1 hq2
  unfold fX7_product_36
  have ql0 : (0 : Int32).toInt = 0 := by decide
  have r1 := rgI th_
  have r2 := rgI s0
  refine sBind (s_X7_isThrown hN hK (by first | omega | decide) (by first | omega | decide) (by first | omega | decide) (by first | omega | decide)) (fun x37 b3 => ?_)
  obtain ⟨b3_0, b3_1, b3_2, b3_3, b3_4, b3_5, -⟩ := b3
  replace b3_0 : 0 ≤ x37.1.toInt := b3_0
  replace b3_1 : x37.1.toInt ≤ 1 := b3_1
  replace b3_2 : 0 ≤ x37.2.toInt := b3_2
  replace b3_3 : x37.2.toInt ≤ 2 := b3_3
  replace b3_4 : (x37.1.toInt = 0 → (0 ≤ s0.toInt ∧ s0.toInt ≤ 0)) := b3_4
  replace b3_5 : (x37.1.toInt = 0 → (0 ≤ (0 : Int32).toInt ∧ (0 : Int32).toInt ≤ 0)) := b3_5
  refine sIf (fun h4 => ?_) (fun h4 => ?_)
  · have r5 := rgI x37.1
    have fh4 := eqT h4
    have r6 := rgI p0
    have r7 := rgI p1
    have r8 := rgI p2
    refine sBind (s_X7_series hN hK (by first | omega | decide) (by first | omega | decide) (by first | omega | decide) (by first | omega | decide) (by first | omega | decide) (by first | omega | decide)) (fun x50 b9 => ?_)
    have r10 := rgI x50
    have r11 := rgI x37.2
    exact sRet ⟨(by show 0 ≤ x37.2.toInt; omega), (by show x37.2.toInt ≤ 2; omega), trivial⟩
  · have r12 := rgI x37.1
    have fh4 := eqF h4
    have r13 := rgI x37.2
    exact sRet ⟨(by show 0 ≤ x37.2.toInt; omega), (by show x37.2.toInt ≤ 2; omega), trivial⟩
set_option maxHeartbeats 2000000 in
theorem s_X7_product_31 {N K : Nat} {th : Int32} {p0 : Int32} {p1 : Int32} {p2 : Int32} (hN : NBig N) (hK : 100 ≤ K)  : ∀ (th_ : Int32), Sf (fX7_product_31 N K th p0 p1 p2  th_) (fun (z : Int32 × Int32) => 0 ≤ z.2.toInt ∧ z.2.toInt ≤ 2 ∧ True) := by
  intro th_ 
  unfold fX7_product_31
  have ql0 : (0 : Int32).toInt = 0 := by decide
  have ql1 : (1 : Int32).toInt = 1 := by decide
  have r1 := rgI th_
  exact s_X7_product_36  hN hK _ _ (by first | omega | decide) (by first | omega | decide) (by first | omega | decide)
set_option maxHeartbeats 2000000 in
theorem s_X7_product {N K : Nat} {th : Int32} {p0 : Int32} {p1 : Int32} {p2 : Int32} (hN : NBig N) (hK : 100 ≤ K)  : Sf (fX7_product N K th p0 p1 p2) (fun (z : Int32 × Int32) => 0 ≤ z.2.toInt ∧ z.2.toInt ≤ 2 ∧ True) := by
  unfold fX7_product
  have ql0 : (0 : Int32).toInt = 0 := by decide
  have ql7 : (7 : Int32).toInt = 7 := by decide
  have ql20 : (20 : Int32).toInt = 20 := by decide
  have r1 := rgI p0
  refine sBind (s_X7_isNo hN hK (by first | omega | decide) (by first | omega | decide) (by first | omega | decide) (by first | omega | decide)) (fun x5 b2 => ?_)
  obtain ⟨b2_0, b2_1, b2_2, -⟩ := b2
  replace b2_0 : 0 ≤ x5.toInt := b2_0
  replace b2_1 : x5.toInt ≤ 1 := b2_1
  replace b2_2 : (x5.toInt = 0 → ((0 : Int32).toInt ≤ p0.toInt ∧ p0.toInt ≤ (7 : Int32).toInt)) := b2_2
  refine sIf (fun h3 => ?_) (fun h3 => ?_)
  · have r4 := rgI x5
    have fh3 := eqT h3
    have r5 := rgI p1
    refine sBind (s_X7_isNo hN hK (by first | omega | decide) (by first | omega | decide) (by first | omega | decide) (by first | omega | decide)) (fun x15 b6 => ?_)
    obtain ⟨b6_0, b6_1, b6_2, -⟩ := b6
    replace b6_0 : 0 ≤ x15.toInt := b6_0
    replace b6_1 : x15.toInt ≤ 1 := b6_1
    replace b6_2 : (x15.toInt = 0 → ((0 : Int32).toInt ≤ p1.toInt ∧ p1.toInt ≤ (20 : Int32).toInt)) := b6_2
    refine sIf (fun h7 => ?_) (fun h7 => ?_)
    · have r8 := rgI x15
      have fh7 := eqT h7
      have r9 := rgI p2
      refine sBind (s_X7_isNo hN hK (by first | omega | decide) (by first | omega | decide) (by first | omega | decide) (by first | omega | decide)) (fun x25 b10 => ?_)
      obtain ⟨b10_0, b10_1, b10_2, -⟩ := b10
      replace b10_0 : 0 ≤ x25.toInt := b10_0
      replace b10_1 : x25.toInt ≤ 1 := b10_1
      replace b10_2 : (x25.toInt = 0 → ((0 : Int32).toInt ≤ p2.toInt ∧ p2.toInt ≤ (20 : Int32).toInt)) := b10_2
      refine sIf (fun h11 => ?_) (fun h11 => ?_)
      · have r12 := rgI x25
        have fh11 := eqT h11
        have r13 := rgI th
        exact s_X7_product_36  hN hK _ _ (by first | omega | decide) (by first | omega | decide) (by first | omega | decide)
      · have r14 := rgI x25
        have fh11 := eqF h11
        have r15 := rgI th
        exact s_X7_product_31  hN hK _
    · have r16 := rgI x15
      have fh7 := eqF h7
      have r17 := rgI th
      exact s_X7_product_31  hN hK _
  · have r18 := rgI x5
    have fh3 := eqF h3
    have r19 := rgI th
    exact s_X7_product_31  hN hK _
set_option maxHeartbeats 2000000 in
theorem s_X7_factor_85 {N K : Nat} {p0 : Int32} {p1 : Int32} (hN : NBig N) (hK : 100 ≤ K) (hp0 : 0 ≤ p0.toInt) (hp1 : p0.toInt ≤ 2) (hp2 : 1 ≤ p1.toInt) (hp3 : p1.toInt ≤ 20) {k_70 : Int32 → Int32 → Option (Int32)} {m_70 : Nat} (hk_70 : ∀ (l2 : Int32) (l3 : Int32), (22 - l3.toInt).toNat < m_70 → 1 ≤ p0.toInt → p0.toInt ≤ 2 → 1 ≤ l3.toInt → l3.toInt ≤ 22 → Sf (k_70 l2 l3) (fun (z : Int32) => True)) : ∀ (l2 : Int32) (l3 : Int32), 1 ≤ p0.toInt → p0.toInt ≤ 2 → 1 ≤ l3.toInt → l3.toInt ≤ 20 → (22 - l3.toInt).toNat ≤ m_70 → Sf (fX7_factor_85 N K p0 p1 k_70 l2 l3) (fun (z : Int32) => True) := by
  intro l2 l3 hq0 hq1 hq2 hq3 hq4
  unfold fX7_factor_85
  have ql0 : (0 : Int32).toInt = 0 := by decide
  have r1 := rgI l2
  have r3 := rgI l3
  have r4 := rgI p0
  have t2 := addI (a := l3) (b := p0) (by omega) (by omega)
  exact hk_70 _ _ (by omega) (by first | omega | decide) (by first | omega | decide) (by first | omega | decide) (by first | omega | decide)
set_option maxHeartbeats 2000000 in
theorem s_X7_factor_70 {N K : Nat} {p0 : Int32} {p1 : Int32} (hN : NBig N) (hK : 100 ≤ K) (hp0 : 0 ≤ p0.toInt) (hp1 : p0.toInt ≤ 2) (hp2 : 1 ≤ p1.toInt) (hp3 : p1.toInt ≤ 20) : ∀ (fu : Nat) (l2 : Int32) (l3 : Int32), (22 - l3.toInt).toNat < fu → 1 ≤ p0.toInt → p0.toInt ≤ 2 → 1 ≤ l3.toInt → l3.toInt ≤ 22 → Sf (fX7_factor_70 N K p0 p1  fu l2 l3) (fun (z : Int32) => True) := by
  intro fu
  induction fu with
  | zero => intro l2 l3 h0 hq0 hq1 hq2 hq3; omega
  | succ fu ih =>
    intro l2 l3 h0 hq0 hq1 hq2 hq3
    unfold fX7_factor_70
    have ql0 : (0 : Int32).toInt = 0 := by decide
    refine sIf (fun h1 => ?_) (fun h1 => ?_)
    · have r2 := rgI p1
      have r3 := rgI l3
      have fh1 := ltT h1
      have r4 := rgI l2
      exact sRet trivial
    · have r5 := rgI p1
      have r6 := rgI l3
      have fh1 := ltF h1
      refine sIfF (fun e9 => by have e8 := eqT e9; omega) ?_
      refine sIf (fun h7 => ?_) (fun h7 => ?_)
      · have r8 := rgI (p1 % l3)
        have fh7 := eqT h7
        have r9 := rgI (l2 + l3)
        exact s_X7_factor_85 (hk_70 := ih) hN hK (by omega) (by omega) (by omega) (by omega) _ _ (by first | omega | decide) (by first | omega | decide) (by first | omega | decide) (by first | omega | decide) (by omega)
      · have r10 := rgI (p1 % l3)
        have fh7 := eqF h7
        have r11 := rgI l2
        exact s_X7_factor_85 (hk_70 := ih) hN hK (by omega) (by omega) (by omega) (by omega) _ _ (by first | omega | decide) (by first | omega | decide) (by first | omega | decide) (by first | omega | decide) (by omega)
set_option maxHeartbeats 2000000 in
theorem s_X7_factor_45 {N K : Nat} {p0 : Int32} {p1 : Int32} (hN : NBig N) (hK : 100 ≤ K) (hp0 : 0 ≤ p0.toInt) (hp1 : p0.toInt ≤ 2) (hp2 : 1 ≤ p1.toInt) (hp3 : p1.toInt ≤ 20) : ∀ (l2 : Int32), 0 ≤ p0.toInt → p0.toInt ≤ 0 → Sf (fX7_factor_45 N K p0 p1  l2) (fun (z : Int32) => True) := by
  intro l2 hq0 hq1
  unfold fX7_factor_45
  have ql0 : (0 : Int32).toInt = 0 := by decide
  have ql1 : (1 : Int32).toInt = 1 := by decide
  have ql2 : (2 : Int32).toInt = 2 := by decide
  refine sIf (fun h1 => ?_) (fun h1 => ?_)
  · have t2 := modN (a := l2) (b := (2 : Int32)) ql2 (by omega)
    have fh1 := eqT h1
    exact sRet trivial
  · have t3 := modN (a := l2) (b := (2 : Int32)) ql2 (by omega)
    have fh1 := eqF h1
    exact sRet trivial
set_option maxHeartbeats 2000000 in
theorem s_X7_factor_6 {N K : Nat} {p0 : Int32} {p1 : Int32} (hN : NBig N) (hK : 100 ≤ K) (hp0 : 0 ≤ p0.toInt) (hp1 : p0.toInt ≤ 2) (hp2 : 1 ≤ p1.toInt) (hp3 : p1.toInt ≤ 20) : ∀ (fu : Nat) (l2 : Int32), (2147483647 - l2.toInt).toNat < fu → 0 ≤ p0.toInt → p0.toInt ≤ 0 → Sf (fX7_factor_6 N K p0 p1  fu l2) (fun (z : Int32) => True) := by
  intro fu
  induction fu with
  | zero => intro l2 h0 hq0 hq1; omega
  | succ fu ih =>
    intro l2 h0 hq0 hq1
    unfold fX7_factor_6
    have ql0 : (0 : Int32).toInt = 0 := by decide
    refine sIf (fun h1 => ?_) (fun h1 => ?_)
    · have r2 := rgI p1
      have r3 := rgI ((l2 * (((3 : Int32) * l2) - (1 : Int32))) / (2 : Int32))
      have fh1 := ltT h1
      exact sRet trivial
    · have r4 := rgI p1
      have r5 := rgI ((l2 * (((3 : Int32) * l2) - (1 : Int32))) / (2 : Int32))
      have fh1 := ltF h1
      refine sIf (fun h6 => ?_) (fun h6 => ?_)
      · have fh6 := eqT h6
        have r7 := rgI l2
        exact s_X7_factor_45  hN hK (by omega) (by omega) (by omega) (by omega) _ (by first | omega | decide) (by first | omega | decide)
      · have fh6 := eqF h6
        refine sIf (fun h8 => ?_) (fun h8 => ?_)
        · have r9 := rgI ((l2 * (((3 : Int32) * l2) + (1 : Int32))) / (2 : Int32))
          have fh8 := eqT h8
          have r10 := rgI l2
          exact s_X7_factor_45  hN hK (by omega) (by omega) (by omega) (by omega) _ (by first | omega | decide) (by first | omega | decide)
        · have r11 := rgI ((l2 * (((3 : Int32) * l2) + (1 : Int32))) / (2 : Int32))
          have fh8 := eqF h8
          have r12 := rgI (l2 + (1 : Int32))
          exact ih _ (by omega) (by first | omega | decide) (by first | omega | decide)
set_option maxHeartbeats 2000000 in
theorem s_X7_factor {N K : Nat} {p0 : Int32} {p1 : Int32} (hN : NBig N) (hK : 100 ≤ K) (hp0 : 0 ≤ p0.toInt) (hp1 : p0.toInt ≤ 2) (hp2 : 1 ≤ p1.toInt) (hp3 : p1.toInt ≤ 20) : Sf (fX7_factor N K p0 p1) (fun (z : Int32) => True) := by
  unfold fX7_factor
  have hN9 := hN.u
  have ql0 : (0 : Int32).toInt = 0 := by decide
  have ql1 : (1 : Int32).toInt = 1 := by decide
  refine sIf (fun h1 => ?_) (fun h1 => ?_)
  · have r2 := rgI p0
    have fh1 := eqT h1
    exact s_X7_factor_6  hN hK (by omega) (by omega) (by omega) (by omega) _ _ (by omega) (by first | omega | decide) (by first | omega | decide)
  · have r3 := rgI p0
    have fh1 := eqF h1
    exact s_X7_factor_70  hN hK (by omega) (by omega) (by omega) (by omega) _ _ _ (by omega) (by first | omega | decide) (by first | omega | decide) (by first | omega | decide) (by first | omega | decide)
set_option maxHeartbeats 2000000 in
theorem s_X7_ledgerWorth {N K : Nat} {th : Int32} {f : Nat → Int32} {p0 : Int32} {p1 : Int32} (hN : NBig N) (hK : 100 ≤ K) (hp0 : 0 ≤ th.toInt) (hp1 : th.toInt ≤ 2) (hp2 : 0 ≤ p0.toInt) (hp3 : p0.toInt ≤ 2) (hp4 : -20 ≤ p1.toInt) (hp5 : p1.toInt ≤ 20) : Sf (fX7_ledgerWorth N K th f p0 p1) (fun (z : Int32) => True) := by
  unfold fX7_ledgerWorth
  have ql0 : (0 : Int32).toInt = 0 := by decide
  have ql1 : (1 : Int32).toInt = 1 := by decide
  refine sIf (fun h1 => ?_) (fun h1 => ?_)
  · have r2 := rgI p1
    have fh1 := eqT h1
    exact sRet trivial
  · have r3 := rgI p1
    have fh1 := eqF h1
    have r4 := rgI p0
    refine sIfF (noob (by omega) (by omega)) ?_
    refine sIfF (noob (by omega) (by omega)) ?_
    have r5 := rgI (f p1.toNatClampNeg)
    exact sRet trivial
set_option maxHeartbeats 2000000 in
theorem s_X7_ledgerTold_47 {N K : Nat} {th : Int32} {f : Nat → Int32} {p0 : Int32} {p1 : Int32} (hN : NBig N) (hK : 100 ≤ K) (hp0 : 0 ≤ th.toInt) (hp1 : th.toInt ≤ 2) (hp2 : 0 ≤ p0.toInt) (hp3 : p0.toInt ≤ 2) (hp4 : 0 ≤ p1.toInt) (hp5 : p1.toInt ≤ 1) {k_5 : Int32 → Int32 → Option (Int32)} {m_5 : Nat} (hk_5 : ∀ (l3 : Int32) (l4 : Int32), (21 - l4.toInt).toNat < m_5 → 1 ≤ l4.toInt → l4.toInt ≤ 21 → Sf (k_5 l3 l4) (fun (z : Int32) => True)) : ∀ (l3 : Int32) (l4 : Int32), 1 ≤ l4.toInt → l4.toInt ≤ 20 → (21 - l4.toInt).toNat ≤ m_5 → Sf (fX7_ledgerTold_47 N K th f p0 p1 k_5 l3 l4) (fun (z : Int32) => True) := by
  intro l3 l4 hq0 hq1 hq2
  unfold fX7_ledgerTold_47
  have ql0 : (0 : Int32).toInt = 0 := by decide
  have ql1 : (1 : Int32).toInt = 1 := by decide
  have r1 := rgI l3
  have r3 := rgI l4
  have t2 := addI (a := l4) (b := (1 : Int32)) (by omega) (by omega)
  exact hk_5 _ _ (by omega) (by first | omega | decide) (by first | omega | decide)
set_option maxHeartbeats 2000000 in
theorem s_X7_ledgerTold_45 {N K : Nat} {th : Int32} {f : Nat → Int32} {p0 : Int32} {p1 : Int32} (hN : NBig N) (hK : 100 ≤ K) (hp0 : 0 ≤ th.toInt) (hp1 : th.toInt ≤ 2) (hp2 : 0 ≤ p0.toInt) (hp3 : p0.toInt ≤ 2) (hp4 : 0 ≤ p1.toInt) (hp5 : p1.toInt ≤ 1) {k_5 : Int32 → Int32 → Option (Int32)} {m_5 : Nat} (hk_5 : ∀ (l3 : Int32) (l4 : Int32), (21 - l4.toInt).toNat < m_5 → 1 ≤ l4.toInt → l4.toInt ≤ 21 → Sf (k_5 l3 l4) (fun (z : Int32) => True)) : ∀ (l4 : Int32) (s0 : Int32) (s1 : Int32), 1 ≤ l4.toInt → l4.toInt ≤ 20 → (s0.toInt = 0 → 0 ≤ th.toInt ∧ th.toInt ≤ 2 ∧ 0 ≤ p0.toInt ∧ p0.toInt ≤ 2 ∧ 1 ≤ p1.toInt ∧ p1.toInt ≤ 1) → (s1.toInt = 0 → 0 ≤ th.toInt ∧ th.toInt ≤ 2 ∧ 0 ≤ p0.toInt ∧ p0.toInt ≤ 2 ∧ 0 ≤ p1.toInt ∧ p1.toInt ≤ 1) → (21 - l4.toInt).toNat ≤ m_5 → Sf (fX7_ledgerTold_45 N K th f p0 p1 k_5 l4 s0 s1) (fun (z : Int32) => True) := by
  intro l4 s0 s1 hq0 hq1 hq2 hq3 hq4
  unfold fX7_ledgerTold_45
  have ql0 : (0 : Int32).toInt = 0 := by decide
  have r1 := rgI (s1 + s0)
  have r2 := rgI l4
  exact s_X7_ledgerTold_47 (hk_5 := hk_5) hN hK (by omega) (by omega) (by omega) (by omega) (by omega) (by omega) _ _ (by first | omega | decide) (by first | omega | decide) (by omega)
set_option maxHeartbeats 2000000 in
theorem s_X7_ledgerTold_5 {N K : Nat} {th : Int32} {f : Nat → Int32} {p0 : Int32} {p1 : Int32} (hN : NBig N) (hK : 100 ≤ K) (hp0 : 0 ≤ th.toInt) (hp1 : th.toInt ≤ 2) (hp2 : 0 ≤ p0.toInt) (hp3 : p0.toInt ≤ 2) (hp4 : 0 ≤ p1.toInt) (hp5 : p1.toInt ≤ 1) : ∀ (fu : Nat) (l3 : Int32) (l4 : Int32), (21 - l4.toInt).toNat < fu → 1 ≤ l4.toInt → l4.toInt ≤ 21 → Sf (fX7_ledgerTold_5 N K th f p0 p1  fu l3 l4) (fun (z : Int32) => True) := by
  intro fu
  induction fu with
  | zero => intro l3 l4 h0 hq0 hq1; omega
  | succ fu ih =>
    intro l3 l4 h0 hq0 hq1
    unfold fX7_ledgerTold_5
    have ql0 : (0 : Int32).toInt = 0 := by decide
    have ql1 : (1 : Int32).toInt = 1 := by decide
    have ql20 : (20 : Int32).toInt = 20 := by decide
    refine sIf (fun h1 => ?_) (fun h1 => ?_)
    · have r2 := rgI l4
      have fh1 := ltT h1
      have r3 := rgI l3
      exact sRet trivial
    · have r4 := rgI l4
      have fh1 := ltF h1
      have r5 := rgI p0
      refine sIfF (noob (by omega) (by omega)) ?_
      refine sIfF (noob (by omega) (by omega)) ?_
      refine sIf (fun h6 => ?_) (fun h6 => ?_)
      · have r7 := rgI (f l4.toNatClampNeg)
        have fh6 := leT h6
        have r8 := rgI l3
        exact s_X7_ledgerTold_47 (hk_5 := ih) hN hK (by omega) (by omega) (by omega) (by omega) (by omega) (by omega) _ _ (by first | omega | decide) (by first | omega | decide) (by omega)
      · have r9 := rgI (f l4.toNatClampNeg)
        have fh6 := leF h6
        refine sIf (fun h10 => ?_) (fun h10 => ?_)
        · have r11 := rgI p1
          have fh10 := eqT h10
          have r12 := rgI l3
          exact s_X7_ledgerTold_45 (hk_5 := ih) hN hK (by omega) (by omega) (by omega) (by omega) (by omega) (by omega) _ _ _ (by first | omega | decide) (by first | omega | decide) (by first | omega | decide) (by first | omega | decide) (by omega)
        · have r13 := rgI p1
          have fh10 := eqF h10
          refine sIfF (noob (by omega) (by omega)) ?_
          refine sIfF (noob (by omega) (by omega)) ?_
          have r14 := rgI (l4 ^^^ (f l4.toNatClampNeg))
          have r15 := rgI l3
          exact s_X7_ledgerTold_45 (hk_5 := ih) hN hK (by omega) (by omega) (by omega) (by omega) (by omega) (by omega) _ _ _ (by first | omega | decide) (by first | omega | decide) (by first | omega | decide) (by first | omega | decide) (by omega)
set_option maxHeartbeats 2000000 in
theorem s_X7_ledgerTold {N K : Nat} {th : Int32} {f : Nat → Int32} {p0 : Int32} {p1 : Int32} (hN : NBig N) (hK : 100 ≤ K) (hp0 : 0 ≤ th.toInt) (hp1 : th.toInt ≤ 2) (hp2 : 0 ≤ p0.toInt) (hp3 : p0.toInt ≤ 2) (hp4 : 0 ≤ p1.toInt) (hp5 : p1.toInt ≤ 1) : Sf (fX7_ledgerTold N K th f p0 p1) (fun (z : Int32) => True) := by
  unfold fX7_ledgerTold
  have hN9 := hN.u
  have ql0 : (0 : Int32).toInt = 0 := by decide
  have ql1 : (1 : Int32).toInt = 1 := by decide
  exact s_X7_ledgerTold_5  hN hK (by omega) (by omega) (by omega) (by omega) (by omega) (by omega) _ _ _ (by omega) (by first | omega | decide) (by first | omega | decide)
set_option maxHeartbeats 2000000 in
theorem s_X7_rule_282 {N K : Nat} {th : Int32} {f : Nat → Int32} {t : Nat → Int32} {u : Nat → Int32} {p0 : Int32} {p1 : Int32} (hN : NBig N) (hK : 100 ≤ K)  {k_185 : Int32 → Int32 → (Nat → Int32) → (Nat → Int32) → (Nat → Int32) → Option (Int32 × Int32 × (Nat → Int32) × (Nat → Int32) × (Nat → Int32))} {m_185 : Nat} (hk_185 : ∀ (l3 : Int32) (th_ : Int32) (f_ : (Nat → Int32)) (t_ : (Nat → Int32)) (u_ : (Nat → Int32)), (21 - l3.toInt).toNat < m_185 → 0 ≤ p0.toInt → p0.toInt ≤ 2 → 0 ≤ p1.toInt → p1.toInt ≤ 20 → 1 ≤ l3.toInt → l3.toInt ≤ 21 → 0 ≤ th_.toInt → th_.toInt ≤ 2 → Sf (k_185 l3 th_ f_ t_ u_) (fun (z : Int32 × Int32 × (Nat → Int32) × (Nat → Int32) × (Nat → Int32)) => 0 ≤ z.2.1.toInt ∧ z.2.1.toInt ≤ 2 ∧ True)) : ∀ (l3 : Int32) (th_ : Int32) (f_ : Nat → Int32) (t_ : Nat → Int32) (u_ : Nat → Int32), 0 ≤ p0.toInt → p0.toInt ≤ 2 → 1 ≤ p1.toInt → p1.toInt ≤ 20 → 1 ≤ l3.toInt → l3.toInt ≤ 20 → 0 ≤ th_.toInt → th_.toInt ≤ 2 → (21 - l3.toInt).toNat ≤ m_185 → Sf (fX7_rule_282 N K th f t u p0 p1 k_185 l3 th_ f_ t_ u_) (fun (z : Int32 × Int32 × (Nat → Int32) × (Nat → Int32) × (Nat → Int32)) => 0 ≤ z.2.1.toInt ∧ z.2.1.toInt ≤ 2 ∧ True) := by
  intro l3 th_ f_ t_ u_ hq0 hq1 hq2 hq3 hq4 hq5 hq6 hq7 hq8
  unfold fX7_rule_282
  have ql0 : (0 : Int32).toInt = 0 := by decide
  have ql1 : (1 : Int32).toInt = 1 := by decide
  have r2 := rgI l3
  have t1 := addI (a := l3) (b := (1 : Int32)) (by omega) (by omega)
  have r3 := rgI th_
  exact hk_185 _ _ _ _ _ (by omega) (by first | omega | decide) (by first | omega | decide) (by first | omega | decide) (by first | omega | decide) (by first | omega | decide) (by first | omega | decide) (by first | omega | decide) (by first | omega | decide)
set_option maxHeartbeats 2000000 in
theorem s_X7_rule_281 {N K : Nat} {th : Int32} {f : Nat → Int32} {t : Nat → Int32} {u : Nat → Int32} {p0 : Int32} {p1 : Int32} (hN : NBig N) (hK : 100 ≤ K)  {k_185 : Int32 → Int32 → (Nat → Int32) → (Nat → Int32) → (Nat → Int32) → Option (Int32 × Int32 × (Nat → Int32) × (Nat → Int32) × (Nat → Int32))} {m_185 : Nat} (hk_185 : ∀ (l3 : Int32) (th_ : Int32) (f_ : (Nat → Int32)) (t_ : (Nat → Int32)) (u_ : (Nat → Int32)), (21 - l3.toInt).toNat < m_185 → 0 ≤ p0.toInt → p0.toInt ≤ 2 → 0 ≤ p1.toInt → p1.toInt ≤ 20 → 1 ≤ l3.toInt → l3.toInt ≤ 21 → 0 ≤ th_.toInt → th_.toInt ≤ 2 → Sf (k_185 l3 th_ f_ t_ u_) (fun (z : Int32 × Int32 × (Nat → Int32) × (Nat → Int32) × (Nat → Int32)) => 0 ≤ z.2.1.toInt ∧ z.2.1.toInt ≤ 2 ∧ True)) : ∀ (l3 : Int32) (s0 : Int32) (s1 : Int32) (th_ : Int32) (f_ : Nat → Int32) (t_ : Nat → Int32) (u_ : Nat → Int32), 0 ≤ p0.toInt → p0.toInt ≤ 2 → 1 ≤ p1.toInt → p1.toInt ≤ 20 → 1 ≤ l3.toInt → l3.toInt ≤ 20 → 1 ≤ s1.toInt → s1.toInt ≤ 20 → 0 ≤ th_.toInt → th_.toInt ≤ 2 → (s0.toInt = 0 → 0 ≤ p0.toInt ∧ p0.toInt ≤ 2 ∧ 1 ≤ p1.toInt ∧ p1.toInt ≤ 20) → (21 - l3.toInt).toNat ≤ m_185 → Sf (fX7_rule_281 N K th f t u p0 p1 k_185 l3 s0 s1 th_ f_ t_ u_) (fun (z : Int32 × Int32 × (Nat → Int32) × (Nat → Int32) × (Nat → Int32)) => 0 ≤ z.2.1.toInt ∧ z.2.1.toInt ≤ 2 ∧ True) := by
  intro l3 s0 s1 th_ f_ t_ u_ hq0 hq1 hq2 hq3 hq4 hq5 hq6 hq7 hq8 hq9 hq10 hq11
  unfold fX7_rule_281
  have ql0 : (0 : Int32).toInt = 0 := by decide
  have r1 := rgI s1
  refine sIfF (noob (by omega) (by omega)) ?_
  have r2 := rgI l3
  have r3 := rgI th_
  exact s_X7_rule_282 (hk_185 := hk_185) hN hK _ _ _ _ _ (by first | omega | decide) (by first | omega | decide) (by first | omega | decide) (by first | omega | decide) (by first | omega | decide) (by first | omega | decide) (by first | omega | decide) (by first | omega | decide) (by omega)
set_option maxHeartbeats 2000000 in
theorem s_X7_rule_255 {N K : Nat} {th : Int32} {f : Nat → Int32} {t : Nat → Int32} {u : Nat → Int32} {p0 : Int32} {p1 : Int32} (hN : NBig N) (hK : 100 ≤ K)  {k_185 : Int32 → Int32 → (Nat → Int32) → (Nat → Int32) → (Nat → Int32) → Option (Int32 × Int32 × (Nat → Int32) × (Nat → Int32) × (Nat → Int32))} {m_185 : Nat} (hk_185 : ∀ (l3 : Int32) (th_ : Int32) (f_ : (Nat → Int32)) (t_ : (Nat → Int32)) (u_ : (Nat → Int32)), (21 - l3.toInt).toNat < m_185 → 0 ≤ p0.toInt → p0.toInt ≤ 2 → 0 ≤ p1.toInt → p1.toInt ≤ 20 → 1 ≤ l3.toInt → l3.toInt ≤ 21 → 0 ≤ th_.toInt → th_.toInt ≤ 2 → Sf (k_185 l3 th_ f_ t_ u_) (fun (z : Int32 × Int32 × (Nat → Int32) × (Nat → Int32) × (Nat → Int32)) => 0 ≤ z.2.1.toInt ∧ z.2.1.toInt ≤ 2 ∧ True)) {k_219 : Int32 → Int32 → Int32 → Int32 → (Nat → Int32) → (Nat → Int32) → (Nat → Int32) → Option (Int32 × Int32 × (Nat → Int32) × (Nat → Int32) × (Nat → Int32))} {m_219 : Nat} (hk_219 : ∀ (l3 : Int32) (l4 : Int32) (l5 : Int32) (th_ : Int32) (f_ : (Nat → Int32)) (t_ : (Nat → Int32)) (u_ : (Nat → Int32)), (21 - l5.toInt).toNat < m_219 → 0 ≤ p0.toInt → p0.toInt ≤ 2 → 1 ≤ p1.toInt → p1.toInt ≤ 20 → 1 ≤ l3.toInt → l3.toInt ≤ 20 → 1 ≤ l5.toInt → l5.toInt ≤ 21 → 0 ≤ th_.toInt → th_.toInt ≤ 2 → (21 - l3.toInt).toNat ≤ m_185 → Sf (k_219 l3 l4 l5 th_ f_ t_ u_) (fun (z : Int32 × Int32 × (Nat → Int32) × (Nat → Int32) × (Nat → Int32)) => 0 ≤ z.2.1.toInt ∧ z.2.1.toInt ≤ 2 ∧ True)) : ∀ (l3 : Int32) (l4 : Int32) (l5 : Int32) (th_ : Int32) (f_ : Nat → Int32) (t_ : Nat → Int32) (u_ : Nat → Int32), 0 ≤ p0.toInt → p0.toInt ≤ 2 → 1 ≤ p1.toInt → p1.toInt ≤ 20 → 1 ≤ l3.toInt → l3.toInt ≤ 20 → 1 ≤ l5.toInt → l5.toInt ≤ 20 → 0 ≤ th_.toInt → th_.toInt ≤ 2 → (21 - l3.toInt).toNat ≤ m_185 → (21 - l5.toInt).toNat ≤ m_219 → Sf (fX7_rule_255 N K th f t u p0 p1 k_185 k_219 l3 l4 l5 th_ f_ t_ u_) (fun (z : Int32 × Int32 × (Nat → Int32) × (Nat → Int32) × (Nat → Int32)) => 0 ≤ z.2.1.toInt ∧ z.2.1.toInt ≤ 2 ∧ True) := by
  intro l3 l4 l5 th_ f_ t_ u_ hq0 hq1 hq2 hq3 hq4 hq5 hq6 hq7 hq8 hq9 hq10 hq11
  unfold fX7_rule_255
  have ql0 : (0 : Int32).toInt = 0 := by decide
  have ql1 : (1 : Int32).toInt = 1 := by decide
  have r1 := rgI l3
  have r2 := rgI l4
  have r4 := rgI l5
  have t3 := addI (a := l5) (b := (1 : Int32)) (by omega) (by omega)
  have r5 := rgI th_
  exact hk_219 _ _ _ _ _ _ _ (by omega) (by first | omega | decide) (by first | omega | decide) (by first | omega | decide) (by first | omega | decide) (by first | omega | decide) (by first | omega | decide) (by first | omega | decide) (by first | omega | decide) (by first | omega | decide) (by first | omega | decide) (by omega)
set_option maxHeartbeats 2000000 in
theorem s_X7_rule_219 {N K : Nat} {th : Int32} {f : Nat → Int32} {t : Nat → Int32} {u : Nat → Int32} {p0 : Int32} {p1 : Int32} (hN : NBig N) (hK : 100 ≤ K)  {k_185 : Int32 → Int32 → (Nat → Int32) → (Nat → Int32) → (Nat → Int32) → Option (Int32 × Int32 × (Nat → Int32) × (Nat → Int32) × (Nat → Int32))} {m_185 : Nat} (hk_185 : ∀ (l3 : Int32) (th_ : Int32) (f_ : (Nat → Int32)) (t_ : (Nat → Int32)) (u_ : (Nat → Int32)), (21 - l3.toInt).toNat < m_185 → 0 ≤ p0.toInt → p0.toInt ≤ 2 → 0 ≤ p1.toInt → p1.toInt ≤ 20 → 1 ≤ l3.toInt → l3.toInt ≤ 21 → 0 ≤ th_.toInt → th_.toInt ≤ 2 → Sf (k_185 l3 th_ f_ t_ u_) (fun (z : Int32 × Int32 × (Nat → Int32) × (Nat → Int32) × (Nat → Int32)) => 0 ≤ z.2.1.toInt ∧ z.2.1.toInt ≤ 2 ∧ True)) : ∀ (fu : Nat) (l3 : Int32) (l4 : Int32) (l5 : Int32) (th_ : Int32) (f_ : (Nat → Int32)) (t_ : (Nat → Int32)) (u_ : (Nat → Int32)), (21 - l5.toInt).toNat < fu → 0 ≤ p0.toInt → p0.toInt ≤ 2 → 1 ≤ p1.toInt → p1.toInt ≤ 20 → 1 ≤ l3.toInt → l3.toInt ≤ 20 → 1 ≤ l5.toInt → l5.toInt ≤ 21 → 0 ≤ th_.toInt → th_.toInt ≤ 2 → (21 - l3.toInt).toNat ≤ m_185 → Sf (fX7_rule_219 N K th f t u p0 p1 k_185 fu l3 l4 l5 th_ f_ t_ u_) (fun (z : Int32 × Int32 × (Nat → Int32) × (Nat → Int32) × (Nat → Int32)) => 0 ≤ z.2.1.toInt ∧ z.2.1.toInt ≤ 2 ∧ True) := by
  intro fu
  induction fu with
  | zero => intro l3 l4 l5 th_ f_ t_ u_ h0 hq0 hq1 hq2 hq3 hq4 hq5 hq6 hq7 hq8 hq9 hq10; omega
  | succ fu ih =>
    intro l3 l4 l5 th_ f_ t_ u_ h0 hq0 hq1 hq2 hq3 hq4 hq5 hq6 hq7 hq8 hq9 hq10
    unfold fX7_rule_219
    have ql0 : (0 : Int32).toInt = 0 := by decide
    refine sIf (fun h1 => ?_) (fun h1 => ?_)
    · have r2 := rgI l3
      have r3 := rgI l5
      have fh1 := ltT h1
      have r4 := rgI p0
      refine sIfF (noob (by omega) (by omega)) ?_
      refine sIf (fun h5 => ?_) (fun h5 => ?_)
      · have fh5 := eqT h5
        have r6 := rgI l4
        have r7 := rgI th_
        exact s_X7_rule_281 (hk_185 := hk_185) hN hK _ _ _ _ _ _ _ (by first | omega | decide) (by first | omega | decide) (by first | omega | decide) (by first | omega | decide) (by first | omega | decide) (by first | omega | decide) (by first | omega | decide) (by first | omega | decide) (by first | omega | decide) (by first | omega | decide) (by first | omega | decide) (by omega)
      · have fh5 := eqF h5
        refine sIfF (fun e9 => by have e8 := eqT e9; omega) ?_
        have r8 := rgI (l4 / l3)
        have r9 := rgI th_
        exact s_X7_rule_281 (hk_185 := hk_185) hN hK _ _ _ _ _ _ _ (by first | omega | decide) (by first | omega | decide) (by first | omega | decide) (by first | omega | decide) (by first | omega | decide) (by first | omega | decide) (by first | omega | decide) (by first | omega | decide) (by first | omega | decide) (by first | omega | decide) (by first | omega | decide) (by omega)
    · have r10 := rgI l3
      have r11 := rgI l5
      have fh1 := ltF h1
      have r12 := rgI p0
      refine sBind (s_X7_factor hN hK (by first | omega | decide) (by first | omega | decide) (by first | omega | decide) (by first | omega | decide)) (fun x228 b13 => ?_)
      refine sIf (fun h14 => ?_) (fun h14 => ?_)
      · have r15 := rgI x228
        have fh14 := eqT h14
        have r16 := rgI l4
        have r17 := rgI th_
        exact s_X7_rule_255 (hk_185 := hk_185) (hk_219 := ih) hN hK _ _ _ _ _ _ _ (by first | omega | decide) (by first | omega | decide) (by first | omega | decide) (by first | omega | decide) (by first | omega | decide) (by first | omega | decide) (by first | omega | decide) (by first | omega | decide) (by first | omega | decide) (by first | omega | decide) (by omega) (by omega)
      · have r18 := rgI x228
        have fh14 := eqF h14
        refine sBind (s_X7_factor hN hK (by first | omega | decide) (by first | omega | decide) (by first | omega | decide) (by first | omega | decide)) (fun x239 b19 => ?_)
        have r20 := rgI th_
        have t21 := subI (a := l3) (b := l5) (by omega) (by omega)
        refine sBind (s_X7_ledgerWorth hN hK (by first | omega | decide) (by first | omega | decide) (by first | omega | decide) (by first | omega | decide) (by first | omega | decide) (by first | omega | decide)) (fun x248 b22 => ?_)
        have r23 := rgI (l4 + (x239 * x248))
        exact s_X7_rule_255 (hk_185 := hk_185) (hk_219 := ih) hN hK _ _ _ _ _ _ _ (by first | omega | decide) (by first | omega | decide) (by first | omega | decide) (by first | omega | decide) (by first | omega | decide) (by first | omega | decide) (by first | omega | decide) (by first | omega | decide) (by first | omega | decide) (by first | omega | decide) (by omega) (by omega)
set_option maxHeartbeats 2000000 in
theorem s_X7_rule_185 {N K : Nat} {th : Int32} {f : Nat → Int32} {t : Nat → Int32} {u : Nat → Int32} {p0 : Int32} {p1 : Int32} (hN : NBig N) (hK : 100 ≤ K)  : ∀ (fu : Nat) (l3 : Int32) (th_ : Int32) (f_ : (Nat → Int32)) (t_ : (Nat → Int32)) (u_ : (Nat → Int32)), (21 - l3.toInt).toNat < fu → 0 ≤ p0.toInt → p0.toInt ≤ 2 → 0 ≤ p1.toInt → p1.toInt ≤ 20 → 1 ≤ l3.toInt → l3.toInt ≤ 21 → 0 ≤ th_.toInt → th_.toInt ≤ 2 → Sf (fX7_rule_185 N K th f t u p0 p1  fu l3 th_ f_ t_ u_) (fun (z : Int32 × Int32 × (Nat → Int32) × (Nat → Int32) × (Nat → Int32)) => 0 ≤ z.2.1.toInt ∧ z.2.1.toInt ≤ 2 ∧ True) := by
  intro fu
  induction fu with
  | zero => intro l3 th_ f_ t_ u_ h0 hq0 hq1 hq2 hq3 hq4 hq5 hq6 hq7; omega
  | succ fu ih =>
    intro l3 th_ f_ t_ u_ h0 hq0 hq1 hq2 hq3 hq4 hq5 hq6 hq7
    unfold fX7_rule_185
    have hN9 := hN.u
    have ql0 : (0 : Int32).toInt = 0 := by decide
    have ql1 : (1 : Int32).toInt = 1 := by decide
    refine sIf (fun h1 => ?_) (fun h1 => ?_)
    · have r2 := rgI p1
      have r3 := rgI l3
      have fh1 := ltT h1
      have r4 := rgI th_
      have r5 := rgI p0
      refine sBind (s_X7_ledgerWorth hN hK (by first | omega | decide) (by first | omega | decide) (by first | omega | decide) (by first | omega | decide) (by first | omega | decide) (by first | omega | decide)) (fun x292 b6 => ?_)
      have r7 := rgI x292
      refine sBind (s_X7_done hN hK (by first | omega | decide) (by first | omega | decide)) (fun x295 b8 => ?_)
      have r9 := rgI x295.1
      exact sRet ⟨(by show 0 ≤ th_.toInt; omega), (by show th_.toInt ≤ 2; omega), trivial⟩
    · have r10 := rgI p1
      have r11 := rgI l3
      have fh1 := ltF h1
      refine sIfF (noob (by omega) (by omega)) ?_
      refine sIf (fun h12 => ?_) (fun h12 => ?_)
      · have r13 := rgI (u_ l3.toNatClampNeg)
        have fh12 := eqT h12
        have r14 := rgI th_
        exact s_X7_rule_282 (hk_185 := ih) hN hK _ _ _ _ _ (by first | omega | decide) (by first | omega | decide) (by first | omega | decide) (by first | omega | decide) (by first | omega | decide) (by first | omega | decide) (by first | omega | decide) (by first | omega | decide) (by omega)
      · have r15 := rgI (u_ l3.toNatClampNeg)
        have fh12 := eqF h12
        have r16 := rgI p0
        refine sIfF (noob (by omega) (by omega)) ?_
        refine sIfF (noob (by omega) (by omega)) ?_
        refine sIf (fun h17 => ?_) (fun h17 => ?_)
        · have r18 := rgI (f_ l3.toNatClampNeg)
          have fh17 := leT h17
          have r19 := rgI th_
          exact s_X7_rule_219 (hk_185 := ih) hN hK _ _ _ _ _ _ _ _ (by omega) (by first | omega | decide) (by first | omega | decide) (by first | omega | decide) (by first | omega | decide) (by first | omega | decide) (by first | omega | decide) (by first | omega | decide) (by first | omega | decide) (by first | omega | decide) (by first | omega | decide) (by omega)
        · have r20 := rgI (f_ l3.toNatClampNeg)
          have fh17 := leF h17
          have r21 := rgI th_
          exact s_X7_rule_282 (hk_185 := ih) hN hK _ _ _ _ _ (by first | omega | decide) (by first | omega | decide) (by first | omega | decide) (by first | omega | decide) (by first | omega | decide) (by first | omega | decide) (by first | omega | decide) (by first | omega | decide) (by omega)
set_option maxHeartbeats 2000000 in
theorem s_X7_rule_177 {N K : Nat} {th : Int32} {f : Nat → Int32} {t : Nat → Int32} {u : Nat → Int32} {p0 : Int32} {p1 : Int32} (hN : NBig N) (hK : 100 ≤ K)  {k_51 : Int32 → Int32 → (Nat → Int32) → (Nat → Int32) → (Nat → Int32) → Option (Int32 × Int32 × (Nat → Int32) × (Nat → Int32) × (Nat → Int32))} {m_51 : Nat} (hk_51 : ∀ (l3 : Int32) (th_ : Int32) (f_ : (Nat → Int32)) (t_ : (Nat → Int32)) (u_ : (Nat → Int32)), (l3.toInt - 0).toNat < m_51 → 0 ≤ p0.toInt → p0.toInt ≤ 2 → 0 ≤ p1.toInt → p1.toInt ≤ 20 → 0 ≤ l3.toInt → l3.toInt ≤ 20 → 0 ≤ th_.toInt → th_.toInt ≤ 2 → Sf (k_51 l3 th_ f_ t_ u_) (fun (z : Int32 × Int32 × (Nat → Int32) × (Nat → Int32) × (Nat → Int32)) => 0 ≤ z.2.1.toInt ∧ z.2.1.toInt ≤ 2 ∧ True)) : ∀ (l3 : Int32) (th_ : Int32) (f_ : Nat → Int32) (t_ : Nat → Int32) (u_ : Nat → Int32), 0 ≤ p0.toInt → p0.toInt ≤ 2 → 0 ≤ p1.toInt → p1.toInt ≤ 20 → 1 ≤ l3.toInt → l3.toInt ≤ 20 → 0 ≤ th_.toInt → th_.toInt ≤ 2 → (l3.toInt - 0).toNat ≤ m_51 → Sf (fX7_rule_177 N K th f t u p0 p1 k_51 l3 th_ f_ t_ u_) (fun (z : Int32 × Int32 × (Nat → Int32) × (Nat → Int32) × (Nat → Int32)) => 0 ≤ z.2.1.toInt ∧ z.2.1.toInt ≤ 2 ∧ True) := by
  intro l3 th_ f_ t_ u_ hq0 hq1 hq2 hq3 hq4 hq5 hq6 hq7 hq8
  unfold fX7_rule_177
  have ql0 : (0 : Int32).toInt = 0 := by decide
  have r2 := rgI l3
  have t1 : (l3 + (-1 : Int32)).toInt = l3.toInt + (-1) := addL (by decide) (by omega) (by omega)
  have r3 := rgI th_
  exact hk_51 _ _ _ _ _ (by omega) (by first | omega | decide) (by first | omega | decide) (by first | omega | decide) (by first | omega | decide) (by first | omega | decide) (by first | omega | decide) (by first | omega | decide) (by first | omega | decide)
set_option maxHeartbeats 2000000 in
theorem s_X7_rule_171 {N K : Nat} {th : Int32} {f : Nat → Int32} {t : Nat → Int32} {u : Nat → Int32} {p0 : Int32} {p1 : Int32} (hN : NBig N) (hK : 100 ≤ K)  {k_51 : Int32 → Int32 → (Nat → Int32) → (Nat → Int32) → (Nat → Int32) → Option (Int32 × Int32 × (Nat → Int32) × (Nat → Int32) × (Nat → Int32))} {m_51 : Nat} (hk_51 : ∀ (l3 : Int32) (th_ : Int32) (f_ : (Nat → Int32)) (t_ : (Nat → Int32)) (u_ : (Nat → Int32)), (l3.toInt - 0).toNat < m_51 → 0 ≤ p0.toInt → p0.toInt ≤ 2 → 0 ≤ p1.toInt → p1.toInt ≤ 20 → 0 ≤ l3.toInt → l3.toInt ≤ 20 → 0 ≤ th_.toInt → th_.toInt ≤ 2 → Sf (k_51 l3 th_ f_ t_ u_) (fun (z : Int32 × Int32 × (Nat → Int32) × (Nat → Int32) × (Nat → Int32)) => 0 ≤ z.2.1.toInt ∧ z.2.1.toInt ≤ 2 ∧ True)) {k_138 : Int32 → Int32 → Int32 → Int32 → (Nat → Int32) → (Nat → Int32) → (Nat → Int32) → Option (Int32 × Int32 × (Nat → Int32) × (Nat → Int32) × (Nat → Int32))} {m_138 : Nat} (hk_138 : ∀ (l3 : Int32) (l4 : Int32) (l5 : Int32) (th_ : Int32) (f_ : (Nat → Int32)) (t_ : (Nat → Int32)) (u_ : (Nat → Int32)), (21 - l5.toInt).toNat < m_138 → 0 ≤ p0.toInt → p0.toInt ≤ 2 → 0 ≤ p1.toInt → p1.toInt ≤ 20 → 1 ≤ l3.toInt → l3.toInt ≤ 20 → 0 ≤ l4.toInt → l4.toInt ≤ 1 → 1 ≤ l5.toInt → l5.toInt ≤ 21 → 0 ≤ th_.toInt → th_.toInt ≤ 2 → (l3.toInt - 0).toNat ≤ m_51 → Sf (k_138 l3 l4 l5 th_ f_ t_ u_) (fun (z : Int32 × Int32 × (Nat → Int32) × (Nat → Int32) × (Nat → Int32)) => 0 ≤ z.2.1.toInt ∧ z.2.1.toInt ≤ 2 ∧ True)) : ∀ (l3 : Int32) (l4 : Int32) (l5 : Int32) (th_ : Int32) (f_ : Nat → Int32) (t_ : Nat → Int32) (u_ : Nat → Int32), 0 ≤ p0.toInt → p0.toInt ≤ 2 → 0 ≤ p1.toInt → p1.toInt ≤ 20 → 1 ≤ l3.toInt → l3.toInt ≤ 20 → 1 ≤ l4.toInt → l4.toInt ≤ 1 → 1 ≤ l5.toInt → l5.toInt ≤ 20 → 0 ≤ th_.toInt → th_.toInt ≤ 2 → (l3.toInt - 0).toNat ≤ m_51 → (21 - l5.toInt).toNat ≤ m_138 → Sf (fX7_rule_171 N K th f t u p0 p1 k_51 k_138 l3 l4 l5 th_ f_ t_ u_) (fun (z : Int32 × Int32 × (Nat → Int32) × (Nat → Int32) × (Nat → Int32)) => 0 ≤ z.2.1.toInt ∧ z.2.1.toInt ≤ 2 ∧ True) := by
  intro l3 l4 l5 th_ f_ t_ u_ hq0 hq1 hq2 hq3 hq4 hq5 hq6 hq7 hq8 hq9 hq10 hq11 hq12 hq13
  unfold fX7_rule_171
  have ql0 : (0 : Int32).toInt = 0 := by decide
  have ql1 : (1 : Int32).toInt = 1 := by decide
  have r1 := rgI l3
  have r2 := rgI l4
  have r4 := rgI l5
  have t3 := addI (a := l5) (b := (1 : Int32)) (by omega) (by omega)
  have r5 := rgI th_
  exact hk_138 _ _ _ _ _ _ _ (by omega) (by first | omega | decide) (by first | omega | decide) (by first | omega | decide) (by first | omega | decide) (by first | omega | decide) (by first | omega | decide) (by first | omega | decide) (by first | omega | decide) (by first | omega | decide) (by first | omega | decide) (by first | omega | decide) (by first | omega | decide) (by omega)
set_option maxHeartbeats 2000000 in
theorem s_X7_rule_138 {N K : Nat} {th : Int32} {f : Nat → Int32} {t : Nat → Int32} {u : Nat → Int32} {p0 : Int32} {p1 : Int32} (hN : NBig N) (hK : 100 ≤ K)  {k_51 : Int32 → Int32 → (Nat → Int32) → (Nat → Int32) → (Nat → Int32) → Option (Int32 × Int32 × (Nat → Int32) × (Nat → Int32) × (Nat → Int32))} {m_51 : Nat} (hk_51 : ∀ (l3 : Int32) (th_ : Int32) (f_ : (Nat → Int32)) (t_ : (Nat → Int32)) (u_ : (Nat → Int32)), (l3.toInt - 0).toNat < m_51 → 0 ≤ p0.toInt → p0.toInt ≤ 2 → 0 ≤ p1.toInt → p1.toInt ≤ 20 → 0 ≤ l3.toInt → l3.toInt ≤ 20 → 0 ≤ th_.toInt → th_.toInt ≤ 2 → Sf (k_51 l3 th_ f_ t_ u_) (fun (z : Int32 × Int32 × (Nat → Int32) × (Nat → Int32) × (Nat → Int32)) => 0 ≤ z.2.1.toInt ∧ z.2.1.toInt ≤ 2 ∧ True)) : ∀ (fu : Nat) (l3 : Int32) (l4 : Int32) (l5 : Int32) (th_ : Int32) (f_ : (Nat → Int32)) (t_ : (Nat → Int32)) (u_ : (Nat → Int32)), (21 - l5.toInt).toNat < fu → 0 ≤ p0.toInt → p0.toInt ≤ 2 → 0 ≤ p1.toInt → p1.toInt ≤ 20 → 1 ≤ l3.toInt → l3.toInt ≤ 20 → 0 ≤ l4.toInt → l4.toInt ≤ 1 → 1 ≤ l5.toInt → l5.toInt ≤ 21 → 0 ≤ th_.toInt → th_.toInt ≤ 2 → (l3.toInt - 0).toNat ≤ m_51 → Sf (fX7_rule_138 N K th f t u p0 p1 k_51 fu l3 l4 l5 th_ f_ t_ u_) (fun (z : Int32 × Int32 × (Nat → Int32) × (Nat → Int32) × (Nat → Int32)) => 0 ≤ z.2.1.toInt ∧ z.2.1.toInt ≤ 2 ∧ True) := by
  intro fu
  induction fu with
  | zero => intro l3 l4 l5 th_ f_ t_ u_ h0 hq0 hq1 hq2 hq3 hq4 hq5 hq6 hq7 hq8 hq9 hq10 hq11 hq12; omega
  | succ fu ih =>
    intro l3 l4 l5 th_ f_ t_ u_ h0 hq0 hq1 hq2 hq3 hq4 hq5 hq6 hq7 hq8 hq9 hq10 hq11 hq12
    unfold fX7_rule_138
    have ql0 : (0 : Int32).toInt = 0 := by decide
    refine sIf (fun h1 => ?_) (fun h1 => ?_)
    · have r2 := rgI l3
      have r3 := rgI l5
      have fh1 := ltT h1
      have r4 := rgI th_
      exact s_X7_rule_177 (hk_51 := hk_51) hN hK _ _ _ _ _ (by first | omega | decide) (by first | omega | decide) (by first | omega | decide) (by first | omega | decide) (by first | omega | decide) (by first | omega | decide) (by first | omega | decide) (by first | omega | decide) (by omega)
    · have r5 := rgI l3
      have r6 := rgI l5
      have fh1 := ltF h1
      refine sIf (fun h7 => ?_) (fun h7 => ?_)
      · have r8 := rgI l4
        have fh7 := eqT h7
        have r9 := rgI th_
        exact s_X7_rule_177 (hk_51 := hk_51) hN hK _ _ _ _ _ (by first | omega | decide) (by first | omega | decide) (by first | omega | decide) (by first | omega | decide) (by first | omega | decide) (by first | omega | decide) (by first | omega | decide) (by first | omega | decide) (by omega)
      · have r10 := rgI l4
        have fh7 := eqF h7
        have r11 := rgI p0
        refine sBind (s_X7_factor hN hK (by first | omega | decide) (by first | omega | decide) (by first | omega | decide) (by first | omega | decide)) (fun x152 b12 => ?_)
        refine sIf (fun h13 => ?_) (fun h13 => ?_)
        · have r14 := rgI x152
          have fh13 := eqT h13
          have r15 := rgI th_
          exact s_X7_rule_171 (hk_51 := hk_51) (hk_138 := ih) hN hK _ _ _ _ _ _ _ (by first | omega | decide) (by first | omega | decide) (by first | omega | decide) (by first | omega | decide) (by first | omega | decide) (by first | omega | decide) (by first | omega | decide) (by first | omega | decide) (by first | omega | decide) (by first | omega | decide) (by first | omega | decide) (by first | omega | decide) (by omega) (by omega)
        · have r16 := rgI x152
          have fh13 := eqF h13
          have t17 := subI (a := l3) (b := l5) (by omega) (by omega)
          refine sIfF (noob (by omega) (by omega)) ?_
          refine sIfF (noob (by omega) (by omega)) ?_
          have r18 := rgI th_
          exact s_X7_rule_171 (hk_51 := hk_51) (hk_138 := ih) hN hK _ _ _ _ _ _ _ (by first | omega | decide) (by first | omega | decide) (by first | omega | decide) (by first | omega | decide) (by first | omega | decide) (by first | omega | decide) (by first | omega | decide) (by first | omega | decide) (by first | omega | decide) (by first | omega | decide) (by first | omega | decide) (by first | omega | decide) (by omega) (by omega)
set_option maxHeartbeats 2000000 in
theorem s_X7_rule_83 {N K : Nat} {th : Int32} {f : Nat → Int32} {t : Nat → Int32} {u : Nat → Int32} {p0 : Int32} {p1 : Int32} (hN : NBig N) (hK : 100 ≤ K)  {k_51 : Int32 → Int32 → (Nat → Int32) → (Nat → Int32) → (Nat → Int32) → Option (Int32 × Int32 × (Nat → Int32) × (Nat → Int32) × (Nat → Int32))} {m_51 : Nat} (hk_51 : ∀ (l3 : Int32) (th_ : Int32) (f_ : (Nat → Int32)) (t_ : (Nat → Int32)) (u_ : (Nat → Int32)), (l3.toInt - 0).toNat < m_51 → 0 ≤ p0.toInt → p0.toInt ≤ 2 → 0 ≤ p1.toInt → p1.toInt ≤ 20 → 0 ≤ l3.toInt → l3.toInt ≤ 20 → 0 ≤ th_.toInt → th_.toInt ≤ 2 → Sf (k_51 l3 th_ f_ t_ u_) (fun (z : Int32 × Int32 × (Nat → Int32) × (Nat → Int32) × (Nat → Int32)) => 0 ≤ z.2.1.toInt ∧ z.2.1.toInt ≤ 2 ∧ True)) : ∀ (l3 : Int32) (s0 : Int32) (th_ : Int32) (f_ : Nat → Int32) (t_ : Nat → Int32) (u_ : Nat → Int32), 0 ≤ p0.toInt → p0.toInt ≤ 2 → 0 ≤ p1.toInt → p1.toInt ≤ 20 → 1 ≤ l3.toInt → l3.toInt ≤ 20 → 0 ≤ s0.toInt → s0.toInt ≤ 1 → 0 ≤ th_.toInt → th_.toInt ≤ 2 → (s0.toInt = 0 → 0 ≤ p0.toInt ∧ p0.toInt ≤ 2 ∧ 0 ≤ p1.toInt ∧ p1.toInt ≤ 20) → (l3.toInt - 0).toNat ≤ m_51 → Sf (fX7_rule_83 N K th f t u p0 p1 k_51 l3 s0 th_ f_ t_ u_) (fun (z : Int32 × Int32 × (Nat → Int32) × (Nat → Int32) × (Nat → Int32)) => 0 ≤ z.2.1.toInt ∧ z.2.1.toInt ≤ 2 ∧ True) := by
  intro l3 s0 th_ f_ t_ u_ hq0 hq1 hq2 hq3 hq4 hq5 hq6 hq7 hq8 hq9 hq10 hq11
  unfold fX7_rule_83
  have hN9 := hN.u
  have ql0 : (0 : Int32).toInt = 0 := by decide
  have ql1 : (1 : Int32).toInt = 1 := by decide
  have r1 := rgI l3
  refine sIfF (noob (by omega) (by omega)) ?_
  have r2 := rgI s0
  refine sBind (s_X7_bit hN hK (by first | omega | decide) (by first | omega | decide)) (fun x109 b3 => ?_)
  obtain ⟨b3_0, b3_1, -⟩ := b3
  replace b3_0 : 0 ≤ x109.toInt := b3_0
  replace b3_1 : x109.toInt ≤ 1 := b3_1
  refine sIfF (noob (by omega) (by omega)) ?_
  refine sBind (s_X7_bit hN hK (by first | omega | decide) (by first | omega | decide)) (fun x129 b4 => ?_)
  obtain ⟨b4_0, b4_1, -⟩ := b4
  replace b4_0 : 0 ≤ x129.toInt := b4_0
  replace b4_1 : x129.toInt ≤ 1 := b4_1
  have r5 := rgI th_
  exact s_X7_rule_138 (hk_51 := hk_51) hN hK _ _ _ _ _ _ _ _ (by omega) (by first | omega | decide) (by first | omega | decide) (by first | omega | decide) (by first | omega | decide) (by first | omega | decide) (by first | omega | decide) (by first | omega | decide) (by first | omega | decide) (by first | omega | decide) (by first | omega | decide) (by first | omega | decide) (by first | omega | decide) (by omega)
set_option maxHeartbeats 2000000 in
theorem s_X7_rule_51 {N K : Nat} {th : Int32} {f : Nat → Int32} {t : Nat → Int32} {u : Nat → Int32} {p0 : Int32} {p1 : Int32} (hN : NBig N) (hK : 100 ≤ K)  : ∀ (fu : Nat) (l3 : Int32) (th_ : Int32) (f_ : (Nat → Int32)) (t_ : (Nat → Int32)) (u_ : (Nat → Int32)), (l3.toInt - 0).toNat < fu → 0 ≤ p0.toInt → p0.toInt ≤ 2 → 0 ≤ p1.toInt → p1.toInt ≤ 20 → 0 ≤ l3.toInt → l3.toInt ≤ 20 → 0 ≤ th_.toInt → th_.toInt ≤ 2 → Sf (fX7_rule_51 N K th f t u p0 p1  fu l3 th_ f_ t_ u_) (fun (z : Int32 × Int32 × (Nat → Int32) × (Nat → Int32) × (Nat → Int32)) => 0 ≤ z.2.1.toInt ∧ z.2.1.toInt ≤ 2 ∧ True) := by
  intro fu
  induction fu with
  | zero => intro l3 th_ f_ t_ u_ h0 hq0 hq1 hq2 hq3 hq4 hq5 hq6 hq7; omega
  | succ fu ih =>
    intro l3 th_ f_ t_ u_ h0 hq0 hq1 hq2 hq3 hq4 hq5 hq6 hq7
    unfold fX7_rule_51
    have hN9 := hN.u
    have ql0 : (0 : Int32).toInt = 0 := by decide
    have ql1 : (1 : Int32).toInt = 1 := by decide
    refine sIf (fun h1 => ?_) (fun h1 => ?_)
    · have r2 := rgI l3
      have fh1 := leT h1
      have r3 := rgI th_
      exact s_X7_rule_185  hN hK _ _ _ _ _ _ (by omega) (by first | omega | decide) (by first | omega | decide) (by first | omega | decide) (by first | omega | decide) (by first | omega | decide) (by first | omega | decide) (by first | omega | decide) (by first | omega | decide)
    · have r4 := rgI l3
      have fh1 := leF h1
      refine sIfF (noob (by omega) (by omega)) ?_
      refine sIf (fun h5 => ?_) (fun h5 => ?_)
      · have r6 := rgI (u_ l3.toNatClampNeg)
        have fh5 := eqT h5
        have r7 := rgI th_
        exact s_X7_rule_177 (hk_51 := ih) hN hK _ _ _ _ _ (by first | omega | decide) (by first | omega | decide) (by first | omega | decide) (by first | omega | decide) (by first | omega | decide) (by first | omega | decide) (by first | omega | decide) (by first | omega | decide) (by omega)
      · have r8 := rgI (u_ l3.toNatClampNeg)
        have fh5 := eqF h5
        have r9 := rgI p0
        refine sIfF (noob (by omega) (by omega)) ?_
        refine sIfF (noob (by omega) (by omega)) ?_
        refine sIf (fun h10 => ?_) (fun h10 => ?_)
        · have r11 := rgI (f_ l3.toNatClampNeg)
          have fh10 := eqT h10
          have r12 := rgI th_
          exact s_X7_rule_83 (hk_51 := ih) hN hK _ _ _ _ _ _ (by first | omega | decide) (by first | omega | decide) (by first | omega | decide) (by first | omega | decide) (by first | omega | decide) (by first | omega | decide) (by first | omega | decide) (by first | omega | decide) (by first | omega | decide) (by first | omega | decide) (by first | omega | decide) (by omega)
        · have r13 := rgI (f_ l3.toNatClampNeg)
          have fh10 := eqF h10
          have r14 := rgI th_
          exact s_X7_rule_83 (hk_51 := ih) hN hK _ _ _ _ _ _ (by first | omega | decide) (by first | omega | decide) (by first | omega | decide) (by first | omega | decide) (by first | omega | decide) (by first | omega | decide) (by first | omega | decide) (by first | omega | decide) (by first | omega | decide) (by first | omega | decide) (by first | omega | decide) (by omega)
