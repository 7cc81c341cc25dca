set_option maxHeartbeats 2000000 in
theorem s_X2_agreesWith_10 {N K : Nat} {sz : Int32} {f : Nat → Int32} {g : Nat → Int32} (hN : NBig N) (hK : 100 ≤ K)  {k_2 : Int32 → (Nat → Int32) → Option (Int32 × (Nat → Int32))} {m_2 : Nat} (hk_2 : ∀ (l2 : Int32) (g_ : (Nat → Int32)), (6 - l2.toInt).toNat < m_2 → 0 ≤ l2.toInt → l2.toInt ≤ 6 → Sf (k_2 l2 g_) (fun (z : Int32 × (Nat → Int32)) => 0 ≤ z.1.toInt ∧ z.1.toInt ≤ 1 ∧ True)) : ∀ (fu : Nat) (l2 : Int32) (l3 : Int32) (g_ : (Nat → Int32)), (21 - l3.toInt).toNat < fu → 0 ≤ l2.toInt → l2.toInt ≤ 5 → 0 ≤ l3.toInt → l3.toInt ≤ 21 → (6 - l2.toInt).toNat ≤ m_2 → Sf (fX2_agreesWith_10 N K sz f g k_2 fu l2 l3 g_) (fun (z : Int32 × (Nat → Int32)) => 0 ≤ z.1.toInt ∧ z.1.toInt ≤ 1 ∧ True) := by
  intro fu
  induction fu with
  | zero => intro l2 l3 g_ h0 hq0 hq1 hq2 hq3 hq4; omega
  | succ fu ih =>
    intro l2 l3 g_ h0 hq0 hq1 hq2 hq3 hq4
    unfold fX2_agreesWith_10
    have ql0 : (0 : Int32).toInt = 0 := by decide
    have ql1 : (1 : Int32).toInt = 1 := by decide
    have ql20 : (20 : Int32).toInt = 20 := by decide
    refine sIf (fun h1 => ?_) (fun h1 => ?_)
    · have r2 := rgI l3
      have fh1 := ltT h1
      have r4 := rgI l2
      have t3 := addI (a := l2) (b := (1 : Int32)) (by omega) (by omega)
      exact hk_2 _ _ (by omega) (by first | omega | decide) (by first | omega | decide)
    · have r5 := rgI l3
      have fh1 := ltF h1
      have r6 := rgI l2
      refine sBind (s_X3_reckon hN hK (by first | omega | decide) (by first | omega | decide) (by first | omega | decide) (by first | omega | decide)) (fun x19 b7 => ?_)
      have r8 := rgI sz
      refine sBind (s_X2_agreesWithRow hN hK (by first | omega | decide) (by first | omega | decide) (by first | omega | decide) (by first | omega | decide)) (fun x26 b9 => ?_)
      obtain ⟨b9_0, b9_1, -⟩ := b9
      replace b9_0 : 0 ≤ x26.toInt := b9_0
      replace b9_1 : x26.toInt ≤ 1 := b9_1
      refine sIf (fun h10 => ?_) (fun h10 => ?_)
      · have r11 := rgI x26
        have fh10 := eqT h10
        exact sRet ⟨(by show 0 ≤ (0 : Int32).toInt; decide), (by show (0 : Int32).toInt ≤ 1; decide), trivial⟩
      · have r12 := rgI x26
        have fh10 := eqF h10
        have t13 := addI (a := l3) (b := (1 : Int32)) (by omega) (by omega)
        exact ih _ _ _ (by omega) (by first | omega | decide) (by first | omega | decide) (by first | omega | decide) (by first | omega | decide) (by omega)
set_option maxHeartbeats 2000000 in
theorem s_X2_agreesWith_2 {N K : Nat} {sz : Int32} {f : Nat → Int32} {g : Nat → Int32} (hN : NBig N) (hK : 100 ≤ K)  : ∀ (fu : Nat) (l2 : Int32) (g_ : (Nat → Int32)), (6 - l2.toInt).toNat < fu → 0 ≤ l2.toInt → l2.toInt ≤ 6 → Sf (fX2_agreesWith_2 N K sz f g  fu l2 g_) (fun (z : Int32 × (Nat → Int32)) => 0 ≤ z.1.toInt ∧ z.1.toInt ≤ 1 ∧ True) := by
  intro fu
  induction fu with
  | zero => intro l2 g_ h0 hq0 hq1; omega
  | succ fu ih =>
    intro l2 g_ h0 hq0 hq1
    unfold fX2_agreesWith_2
    have hN9 := hN.u
    have ql0 : (0 : Int32).toInt = 0 := by decide
    have ql1 : (1 : Int32).toInt = 1 := by decide
    have ql6 : (6 : Int32).toInt = 6 := by decide
    refine sIf (fun h1 => ?_) (fun h1 => ?_)
    · have r2 := rgI l2
      have fh1 := leT h1
      exact sRet ⟨(by show 0 ≤ (1 : Int32).toInt; decide), (by show (1 : Int32).toInt ≤ 1; decide), trivial⟩
    · have r3 := rgI l2
      have fh1 := leF h1
      exact s_X2_agreesWith_10 (hk_2 := ih) hN hK _ _ _ _ (by omega) (by first | omega | decide) (by first | omega | decide) (by first | omega | decide) (by first | omega | decide) (by omega)
set_option maxHeartbeats 2000000 in
theorem s_X2_agreesWith {N K : Nat} {sz : Int32} {f : Nat → Int32} {g : Nat → Int32} (hN : NBig N) (hK : 100 ≤ K)  : Sf (fX2_agreesWith N K sz f g) (fun (z : Int32 × (Nat → Int32)) => 0 ≤ z.1.toInt ∧ z.1.toInt ≤ 1 ∧ True) := by
  unfold fX2_agreesWith
  have hN9 := hN.u
  have ql0 : (0 : Int32).toInt = 0 := by decide
  exact s_X2_agreesWith_2  hN hK _ _ _ (by omega) (by first | omega | decide) (by first | omega | decide)
set_option maxHeartbeats 2000000 in
theorem s_X2_sumOfLegs_11 {N K : Nat} {sz : Int32} {f : Nat → Int32} {c0 : Int32} {c1 : Int32} {c2 : Int32} {c3 : Int32} {c4 : Int32} {c5 : Int32} {p0 : Int32} {p1 : Int32} {p2 : Int32} {p3 : Int32} {rec : Int32 → (Nat → Int32) → Int32 → Int32 → Int32 → Int32 → Int32 → Int32 → Int32 → Int32 → Int32 → Int32 → Option (Int32 × Int32 × (Nat → Int32) × Int32 × Int32 × Int32)} {mr : Nat} (hrec : ∀ (sz : Int32) (f : Nat → Int32) (c0 : Int32) (c1 : Int32) (c2 : Int32) (c3 : Int32) (c4 : Int32) (c5 : Int32) (p0 : Int32) (p1 : Int32) (p2 : Int32) (p3 : Int32), (46 - p3.toInt).toNat < mr → 0 ≤ p0.toInt → p0.toInt ≤ 5 → 0 ≤ p3.toInt → p3.toInt ≤ 46 → Sf (rec sz f c0 c1 c2 c3 c4 c5 p0 p1 p2 p3) (fun (z : Int32 × Int32 × (Nat → Int32) × Int32 × Int32 × Int32) => True)) (hN : NBig N) (hK : 100 ≤ K) (hp0 : 0 ≤ p0.toInt) (hp1 : p0.toInt ≤ 5) (hp2 : 1 ≤ p1.toInt) (hp3 : 1 ≤ p3.toInt) (hp4 : p3.toInt ≤ 46) (hp5 : (46 - p3.toInt).toNat < mr) : ∀ (s0 : Int32) (sz_ : Int32) (f_ : Nat → Int32) (c1_ : Int32) (c2_ : Int32) (c3_ : Int32), 0 ≤ s0.toInt → s0.toInt ≤ 1 → (s0.toInt = 0 → 0 ≤ p0.toInt ∧ p0.toInt ≤ 5 ∧ 1 ≤ p1.toInt) → Sf (fX2_sumOfLegs_11 N K rec sz f c0 c1 c2 c3 c4 c5 p0 p1 p2 p3  s0 sz_ f_ c1_ c2_ c3_) (fun (z : Int32 × Int32 × (Nat → Int32) × Int32 × Int32 × Int32) => True) := by
  intro s0 sz_ f_ c1_ c2_ c3_ hq0 hq1 hq2
  unfold fX2_sumOfLegs_11
  have ql0 : (0 : Int32).toInt = 0 := by decide
  have ql1 : (1 : Int32).toInt = 1 := by decide
  have ql2 : (2 : Int32).toInt = 2 := by decide
  have ql3 : (3 : Int32).toInt = 3 := by decide
  have ql4 : (4 : Int32).toInt = 4 := by decide
  refine sIf (fun h1 => ?_) (fun h1 => ?_)
  · have r2 := rgI p0
    have fh1 := eqT h1
    have r3 := rgI sz_
    have r4 := rgI c0
    have r5 := rgI c1_
    have r6 := rgI c2_
    have r7 := rgI c3_
    have r8 := rgI c4
    have r9 := rgI c5
    have r10 := rgI p1
    have r11 := rgI (p2 - (1 : Int32))
    have r12 := rgI p3
    refine sBind (hrec _ _ _ _ _ _ _ _ _ _ _ _ (by omega) (by first | omega | decide) (by first | omega | decide) (by first | omega | decide) (by first | omega | decide)) (fun x58 b13 => ?_)
    have r14 := rgI x58.2.1
    have r15 := rgI x58.2.2.2.1
    have r16 := rgI x58.2.2.2.2.1
    have r17 := rgI x58.2.2.2.2.2
    have r18 := rgI (p1 - p2)
    have r19 := rgI p2
    refine sBind (hrec _ _ _ _ _ _ _ _ _ _ _ _ (by omega) (by first | omega | decide) (by first | omega | decide) (by first | omega | decide) (by first | omega | decide)) (fun x71 b20 => ?_)
    have r21 := rgI (x58.1 + x71.1)
    have r22 := rgI x71.2.1
    have r23 := rgI x71.2.2.2.1
    have r24 := rgI x71.2.2.2.2.1
    have r25 := rgI x71.2.2.2.2.2
    exact sRet trivial
  · have r26 := rgI p0
    have fh1 := eqF h1
    refine sIf (fun h27 => ?_) (fun h27 => ?_)
    · have fh27 := eqT h27
      have r28 := rgI sz_
      have r29 := rgI c0
      have r30 := rgI c1_
      have r31 := rgI c2_
      have r32 := rgI c3_
      have r33 := rgI c4
      have r34 := rgI c5
      have r36 := rgI p1
      have t35 := subI (a := p1) (b := (1 : Int32)) (by omega) (by omega)
      have r37 := rgI (p2 - (1 : Int32))
      have r38 := rgI p3
      refine sBind (hrec _ _ _ _ _ _ _ _ _ _ _ _ (by omega) (by first | omega | decide) (by first | omega | decide) (by first | omega | decide) (by first | omega | decide)) (fun x88 b39 => ?_)
      have r40 := rgI x88.2.1
      have r41 := rgI x88.2.2.2.1
      have r42 := rgI x88.2.2.2.2.1
      have r43 := rgI x88.2.2.2.2.2
      have r44 := rgI (p1 - p2)
      have r45 := rgI p2
      refine sBind (hrec _ _ _ _ _ _ _ _ _ _ _ _ (by omega) (by first | omega | decide) (by first | omega | decide) (by first | omega | decide) (by first | omega | decide)) (fun x101 b46 => ?_)
      have r47 := rgI (x88.1 + x101.1)
      have r48 := rgI x101.2.1
      have r49 := rgI x101.2.2.2.1
      have r50 := rgI x101.2.2.2.2.1
      have r51 := rgI x101.2.2.2.2.2
      exact sRet trivial
    · have fh27 := eqF h27
      refine sIf (fun h52 => ?_) (fun h52 => ?_)
      · have fh52 := eqT h52
        have r53 := rgI sz_
        have r54 := rgI c0
        have r55 := rgI c1_
        have r56 := rgI c2_
        have r57 := rgI c3_
        have r58 := rgI c4
        have r59 := rgI c5
        have r60 := rgI p1
        have r61 := rgI (p2 - (1 : Int32))
        have r62 := rgI p3
        refine sBind (hrec _ _ _ _ _ _ _ _ _ _ _ _ (by omega) (by first | omega | decide) (by first | omega | decide) (by first | omega | decide) (by first | omega | decide)) (fun x116 b63 => ?_)
        have r64 := rgI x116.2.1
        have r65 := rgI x116.2.2.2.1
        have r66 := rgI x116.2.2.2.2.1
        have r67 := rgI x116.2.2.2.2.2
        have r68 := rgI (p1 - p2)
        refine sBind (hrec _ _ _ _ _ _ _ _ _ _ _ _ (by omega) (by first | omega | decide) (by first | omega | decide) (by first | omega | decide) (by first | omega | decide)) (fun x131 b69 => ?_)
        have r70 := rgI (x116.1 + x131.1)
        have r71 := rgI x131.2.1
        have r72 := rgI x131.2.2.2.1
        have r73 := rgI x131.2.2.2.2.1
        have r74 := rgI x131.2.2.2.2.2
        exact sRet trivial
      · have fh52 := eqF h52
        refine sIf (fun h75 => ?_) (fun h75 => ?_)
        · have fh75 := eqT h75
          have r76 := rgI sz_
          have r77 := rgI c0
          have r78 := rgI c1_
          have r79 := rgI c2_
          have r80 := rgI c3_
          have r81 := rgI c4
          have r82 := rgI c5
          have r83 := rgI p1
          have r84 := rgI (p2 - (1 : Int32))
          have r85 := rgI p3
          refine sBind (hrec _ _ _ _ _ _ _ _ _ _ _ _ (by omega) (by first | omega | decide) (by first | omega | decide) (by first | omega | decide) (by first | omega | decide)) (fun x146 b86 => ?_)
          refine sIf (fun h87 => ?_) (fun h87 => ?_)
          · have r88 := rgI s0
            have fh87 := eqT h87
            have r90 := rgI x146.1
            have t89 := addI (a := x146.1) (b := (0 : Int32)) (by omega) (by omega)
            have r91 := rgI x146.2.1
            have r92 := rgI x146.2.2.2.1
            have r93 := rgI x146.2.2.2.2.1
            have r94 := rgI x146.2.2.2.2.2
            exact sRet trivial
          · have r95 := rgI s0
            have fh87 := eqF h87
            have r96 := rgI x146.2.1
            have r97 := rgI x146.2.2.2.1
            have r98 := rgI x146.2.2.2.2.1
            have r99 := rgI x146.2.2.2.2.2
            have r100 := rgI (p1 - p2)
            have r101 := rgI p2
            refine sBind (hrec _ _ _ _ _ _ _ _ _ _ _ _ (by omega) (by first | omega | decide) (by first | omega | decide) (by first | omega | decide) (by first | omega | decide)) (fun x164 b102 => ?_)
            have r103 := rgI (x146.1 + x164.1)
            have r104 := rgI x164.2.1
            have r105 := rgI x164.2.2.2.1
            have r106 := rgI x164.2.2.2.2.1
            have r107 := rgI x164.2.2.2.2.2
            exact sRet trivial
        · have fh75 := eqF h75
          refine sIf (fun h108 => ?_) (fun h108 => ?_)
          · have fh108 := eqT h108
            have r109 := rgI sz_
            have r110 := rgI c0
            have r111 := rgI c1_
            have r112 := rgI c2_
            have r113 := rgI c3_
            have r114 := rgI c4
            have r115 := rgI c5
            have r116 := rgI p1
            have r117 := rgI (p2 - (1 : Int32))
            have r118 := rgI p3
            refine sBind (hrec _ _ _ _ _ _ _ _ _ _ _ _ (by omega) (by first | omega | decide) (by first | omega | decide) (by first | omega | decide) (by first | omega | decide)) (fun x183 b119 => ?_)
            refine sIf (fun h120 => ?_) (fun h120 => ?_)
            · have r121 := rgI s0
              have fh120 := eqT h120
              have r123 := rgI x183.1
              have t122 := addI (a := x183.1) (b := (0 : Int32)) (by omega) (by omega)
              have r124 := rgI x183.2.1
              have r125 := rgI x183.2.2.2.1
              have r126 := rgI x183.2.2.2.2.1
              have r127 := rgI x183.2.2.2.2.2
              exact sRet trivial
            · have r128 := rgI s0
              have fh120 := eqF h120
              have r129 := rgI x183.2.1
              have r130 := rgI x183.2.2.2.1
              have r131 := rgI x183.2.2.2.2.1
              have r132 := rgI x183.2.2.2.2.2
              have r133 := rgI (p1 - p2)
              refine sBind (hrec _ _ _ _ _ _ _ _ _ _ _ _ (by omega) (by first | omega | decide) (by first | omega | decide) (by first | omega | decide) (by first | omega | decide)) (fun x203 b134 => ?_)
              have r135 := rgI (x183.1 + x203.1)
              have r136 := rgI x203.2.1
              have r137 := rgI x203.2.2.2.1
              have r138 := rgI x203.2.2.2.2.1
              have r139 := rgI x203.2.2.2.2.2
              exact sRet trivial
          · have fh108 := eqF h108
            have r140 := rgI sz_
            have r141 := rgI c0
            have r142 := rgI c1_
            have r143 := rgI c2_
            have r144 := rgI c3_
            have r145 := rgI c4
            have r146 := rgI c5
            have r147 := rgI (p1 - p2)
            have r148 := rgI p2
            have r149 := rgI p3
            refine sBind (hrec _ _ _ _ _ _ _ _ _ _ _ _ (by omega) (by first | omega | decide) (by first | omega | decide) (by first | omega | decide) (by first | omega | decide)) (fun x222 b150 => ?_)
            have r151 := rgI x222.2.1
            have r152 := rgI x222.2.2.2.1
            have r153 := rgI x222.2.2.2.2.1
            have r154 := rgI x222.2.2.2.2.2
            have r155 := rgI (p2 - (1 : Int32))
            refine sBind (hrec _ _ _ _ _ _ _ _ _ _ _ _ (by omega) (by first | omega | decide) (by first | omega | decide) (by first | omega | decide) (by first | omega | decide)) (fun x237 b156 => ?_)
            have r157 := rgI (x222.1 + x237.1)
            have r158 := rgI x237.2.1
            have r159 := rgI x237.2.2.2.1
            have r160 := rgI x237.2.2.2.2.1
            have r161 := rgI x237.2.2.2.2.2
            exact sRet trivial
set_option maxHeartbeats 2000000 in
theorem s_X2_sumOfLegs {N K : Nat} {sz : Int32} {f : Nat → Int32} {c0 : Int32} {c1 : Int32} {c2 : Int32} {c3 : Int32} {c4 : Int32} {c5 : Int32} {p0 : Int32} {p1 : Int32} {p2 : Int32} {p3 : Int32} {rec : Int32 → (Nat → Int32) → Int32 → Int32 → Int32 → Int32 → Int32 → Int32 → Int32 → Int32 → Int32 → Int32 → Option (Int32 × Int32 × (Nat → Int32) × Int32 × Int32 × Int32)} {mr : Nat} (hrec : ∀ (sz : Int32) (f : Nat → Int32) (c0 : Int32) (c1 : Int32) (c2 : Int32) (c3 : Int32) (c4 : Int32) (c5 : Int32) (p0 : Int32) (p1 : Int32) (p2 : Int32) (p3 : Int32), (46 - p3.toInt).toNat < mr → 0 ≤ p0.toInt → p0.toInt ≤ 5 → 0 ≤ p3.toInt → p3.toInt ≤ 46 → Sf (rec sz f c0 c1 c2 c3 c4 c5 p0 p1 p2 p3) (fun (z : Int32 × Int32 × (Nat → Int32) × Int32 × Int32 × Int32) => True)) (hN : NBig N) (hK : 100 ≤ K) (hp0 : 0 ≤ p0.toInt) (hp1 : p0.toInt ≤ 5) (hp2 : 1 ≤ p1.toInt) (hp3 : 1 ≤ p3.toInt) (hp4 : p3.toInt ≤ 46) (hp5 : (46 - p3.toInt).toNat < mr) : Sf (fX2_sumOfLegs N K rec sz f c0 c1 c2 c3 c4 c5 p0 p1 p2 p3) (fun (z : Int32 × Int32 × (Nat → Int32) × Int32 × Int32 × Int32) => True) := by
  unfold fX2_sumOfLegs
  have ql0 : (0 : Int32).toInt = 0 := by decide
  have ql1 : (1 : Int32).toInt = 1 := by decide
  have ql2 : (2 : Int32).toInt = 2 := by decide
  refine sIf (fun h1 => ?_) (fun h1 => ?_)
  · have t2 := modN (a := p2) (b := (2 : Int32)) ql2 (by omega)
    have fh1 := eqT h1
    have r3 := rgI sz
    have r4 := rgI c1
    have r5 := rgI c2
    have r6 := rgI c3
    exact s_X2_sumOfLegs_11 (hrec := hrec)  hN hK (by omega) (by omega) (by omega) (by omega) (by omega) (by omega) _ _ _ _ _ _ (by first | omega | decide) (by first | omega | decide) (by first | omega | decide)
  · have t7 := modN (a := p2) (b := (2 : Int32)) ql2 (by omega)
    have fh1 := eqF h1
    have r8 := rgI sz
    have r9 := rgI c1
    have r10 := rgI c2
    have r11 := rgI c3
    exact s_X2_sumOfLegs_11 (hrec := hrec)  hN hK (by omega) (by omega) (by omega) (by omega) (by omega) (by omega) _ _ _ _ _ _ (by first | omega | decide) (by first | omega | decide) (by first | omega | decide)
set_option maxHeartbeats 2000000 in
theorem s_X2_worthKnown {N K : Nat}  (hN : NBig N) (hK : 100 ≤ K)  : ∀ (fu : Nat) (sz : Int32) (f : (Nat → Int32)) (c0 : Int32) (c1 : Int32) (c2 : Int32) (c3 : Int32) (c4 : Int32) (c5 : Int32) (p0 : Int32) (p1 : Int32) (p2 : Int32) (p3 : Int32), (46 - p3.toInt).toNat < fu → 0 ≤ p0.toInt → p0.toInt ≤ 5 → 0 ≤ p3.toInt → p3.toInt ≤ 46 → Sf (fX2_worthKnown N K fu sz f c0 c1 c2 c3 c4 c5 p0 p1 p2 p3) (fun (z : Int32 × Int32 × (Nat → Int32) × Int32 × Int32 × Int32) => True) := by
  intro fu
  induction fu with
  | zero => intro sz f c0 c1 c2 c3 c4 c5 p0 p1 p2 p3 h0 hq0 hq1 hq2 hq3; omega
  | succ k ih =>
    intro sz f c0 c1 c2 c3 c4 c5 p0 p1 p2 p3 h0 hq0 hq1 hq2 hq3
    unfold fX2_worthKnown
    have ql0 : (0 : Int32).toInt = 0 := by decide
    have ql1 : (1 : Int32).toInt = 1 := by decide
    have ql45 : (45 : Int32).toInt = 45 := by decide
    have r1 := rgI p1
    have r2 := rgI p2
    refine sBind (s_X5_rests hN hK) (fun x2 b3 => ?_)
    obtain ⟨b3_0, b3_1, b3_2, b3_3, -⟩ := b3
    replace b3_0 : 0 ≤ x2.toInt := b3_0
    replace b3_1 : x2.toInt ≤ 1 := b3_1
    replace b3_2 : (x2.toInt = 0 → (1 ≤ p1.toInt)) := b3_2
    replace b3_3 : (x2.toInt = 0 → p2.toInt ≠ 0) := b3_3
    refine sIf (fun h4 => ?_) (fun h4 => ?_)
    · have r5 := rgI x2
      have fh4 := eqT h4
      have r6 := rgI p0
      refine sBind (s_X2_slotOf hN hK (by first | omega | decide) (by first | omega | decide) (by first | omega | decide)) (fun x18 b7 => ?_)
      obtain ⟨b7_0, b7_1, -⟩ := b7
      replace b7_0 : -1 ≤ x18.toInt := b7_0
      replace b7_1 : x18.toInt ≤ 2645 := b7_1
      refine sIf (fun h8 => ?_) (fun h8 => ?_)
      · have r9 := rgI x18
        have fh8 := eqT h8
        rw [show (-1 : Int32).toInt = -1 from by decide] at fh8
        have r10 := rgI sz
        have r11 := rgI c1
        have r12 := rgI c2
        have r13 := rgI c3
        exact sRet trivial
      · have r14 := rgI x18
        have fh8 := eqF h8
        rw [show (-1 : Int32).toInt = -1 from by decide] at fh8
        refine sIf (fun h15 => ?_) (fun h15 => ?_)
        · have r16 := rgI p3
          have fh15 := leT h15
          refine sIfF (noob (by omega) (by omega)) ?_
          refine sIf (fun h17 => ?_) (fun h17 => ?_)
          · have r18 := rgI (f x18.toNatClampNeg)
            have fh17 := eqT h17
            rw [show (-1 : Int32).toInt = -1 from by decide] at fh17
            have r19 := rgI sz
            have r20 := rgI c0
            have r21 := rgI (c1 + (1 : Int32))
            have r22 := rgI c2
            have r23 := rgI c3
            have r24 := rgI c4
            have r25 := rgI c5
            have t26 := addI (a := p3) (b := (1 : Int32)) (by omega) (by omega)
            refine sBind (s_X2_sumOfLegs (hrec := ih) hN hK (by first | omega | decide) (by first | omega | decide) (by first | omega | decide) (by first | omega | decide) (by first | omega | decide) (by omega)) (fun x89 b27 => ?_)
            have r28 := rgI x89.2.1
            have r29 := rgI x89.1
            refine sBind (s_X2_keep hN hK (by first | omega | decide) (by first | omega | decide) (by first | omega | decide)) (fun x100 b30 => ?_)
            have r31 := rgI x100.1
            have r32 := rgI x89.2.2.2.1
            have r33 := rgI (x89.2.2.2.2.1 + (1 : Int32))
            have r34 := rgI x89.2.2.2.2.2
            exact sRet trivial
          · have r35 := rgI (f x18.toNatClampNeg)
            have fh17 := eqF h17
            rw [show (-1 : Int32).toInt = -1 from by decide] at fh17
            refine sIfF (noob (by omega) (by omega)) ?_
            have r36 := rgI sz
            have r37 := rgI (c1 + (1 : Int32))
            have r38 := rgI c2
            have r39 := rgI (c3 + (1 : Int32))
            exact sRet trivial
        · have r40 := rgI p3
          have fh15 := leF h15
          have r41 := rgI sz
          have r42 := rgI c1
          have r43 := rgI c2
          have r44 := rgI c3
          exact sRet trivial
    · have r45 := rgI x2
      have fh4 := eqF h4
      have r46 := rgI p0
      refine sBind (s_X5_restingWorth hN hK (by first | omega | decide) (by first | omega | decide)) (fun x11 b47 => ?_)
      obtain ⟨b47_0, b47_1, -⟩ := b47
      replace b47_0 : 0 ≤ x11.toInt := b47_0
      replace b47_1 : x11.toInt ≤ 1 := b47_1
      have r48 := rgI x11
      have r49 := rgI sz
      have r50 := rgI c1
      have r51 := rgI c2
      have r52 := rgI c3
      exact sRet trivial
set_option maxHeartbeats 2000000 in
theorem s_X2_recall {N K : Nat} {sz : Int32} {f : Nat → Int32} {c0 : Int32} {c1 : Int32} {c2 : Int32} {c3 : Int32} {c4 : Int32} {c5 : Int32} {p0 : Int32} {p1 : Int32} {p2 : Int32} (hN : NBig N) (hK : 100 ≤ K) (hp0 : 0 ≤ p0.toInt) (hp1 : p0.toInt ≤ 5) : Sf (fX2_recall N K sz f c0 c1 c2 c3 c4 c5 p0 p1 p2) (fun (z : Int32 × Int32 × (Nat → Int32) × Int32 × Int32 × Int32) => True) := by
  unfold fX2_recall
  have ql0 : (0 : Int32).toInt = 0 := by decide
  have r1 := rgI sz
  have r2 := rgI c0
  have r3 := rgI c1
  have r4 := rgI c2
  have r5 := rgI c3
  have r6 := rgI c4
  have r7 := rgI c5
  have r8 := rgI p0
  have r9 := rgI p1
  have r10 := rgI p2
  refine sBind (s_X2_worthKnown hN hK _ _ _ _ _ _ _ _ _ _ _ _ _ (by omega) (by first | omega | decide) (by first | omega | decide) (by first | omega | decide) (by first | omega | decide)) (fun x7 b11 => ?_)
  have r12 := rgI x7.1
  have r13 := rgI x7.2.1
  have r14 := rgI x7.2.2.2.1
  have r15 := rgI x7.2.2.2.2.1
  have r16 := rgI x7.2.2.2.2.2
  exact sRet trivial
set_option maxHeartbeats 2000000 in
theorem s_X0_init {N K : Nat} {k0 : Int32} {k1 : Int32} {k2 : Int32} {k3 : Int32} {k4 : Int32} {k5 : Int32} (hN : NBig N) (hK : 100 ≤ K) (hp0 : 0 ≤ k0.toInt) (hp1 : k0.toInt ≤ 0) (hp2 : 0 ≤ k1.toInt) (hp3 : k1.toInt ≤ 0) (hp4 : 0 ≤ k2.toInt) (hp5 : k2.toInt ≤ 0) (hp6 : 0 ≤ k3.toInt) (hp7 : k3.toInt ≤ 0) (hp8 : 0 ≤ k4.toInt) (hp9 : k4.toInt ≤ 0) (hp10 : 0 ≤ k5.toInt) (hp11 : k5.toInt ≤ 0) : Sf (fX0_init N K k0 k1 k2 k3 k4 k5) (fun (z : Unit) => True) := by
  unfold fX0_init
  have ql0 : (0 : Int32).toInt = 0 := by decide
  exact sRet trivial
set_option maxHeartbeats 2000000 in
theorem s_X4_init {N K : Nat}  (hN : NBig N) (hK : 100 ≤ K)  : Sf (fX4_init N K ) (fun (z : (Nat → Int32)) => True) := by
  unfold fX4_init
  have ql0 : (0 : Int32).toInt = 0 := by decide
  exact sRet trivial
set_option maxHeartbeats 2000000 in
theorem s_X3_init {N K : Nat}  (hN : NBig N) (hK : 100 ≤ K)  : Sf (fX3_init N K ) (fun (z : (Nat → Int32)) => True) := by
  unfold fX3_init
  have ql0 : (0 : Int32).toInt = 0 := by decide
  exact sRet trivial
set_option maxHeartbeats 2000000 in
theorem s_X2_init {N K : Nat} {sz : Int32} (hN : NBig N) (hK : 100 ≤ K) (hp0 : 0 ≤ sz.toInt) (hp1 : sz.toInt ≤ 0) : Sf (fX2_init N K sz) (fun (z : (Nat → Int32)) => True) := by
  unfold fX2_init
  have ql0 : (0 : Int32).toInt = 0 := by decide
  refine sBind (s_J_fill hN hK (by first | omega | decide)) (fun x18 b1 => ?_)
  exact sRet trivial
set_option maxHeartbeats 2000000 in
theorem s_X1_init {N K : Nat} {ru : Int32} {sz : Int32} {p0 : Int32} (hN : NBig N) (hK : 100 ≤ K) (hp0 : 0 ≤ ru.toInt) (hp1 : ru.toInt ≤ 0) (hp2 : 0 ≤ sz.toInt) (hp3 : sz.toInt ≤ 0) (hp4 : 0 ≤ p0.toInt) (hp5 : p0.toInt ≤ 2) : Sf (fX1_init N K ru sz p0) (fun (z : Int32 × (Nat → Int32)) => 0 ≤ z.1.toInt ∧ z.1.toInt ≤ 2 ∧ True) := by
  unfold fX1_init
  have ql0 : (0 : Int32).toInt = 0 := by decide
  refine sBind (s_J_fill hN hK (by first | omega | decide)) (fun x22 b1 => ?_)
  have r2 := rgI p0
  exact sRet ⟨(by show 0 ≤ p0.toInt; omega), (by show p0.toInt ≤ 2; omega), trivial⟩
set_option maxHeartbeats 2000000 in
theorem s_X5_init {N K : Nat}  (hN : NBig N) (hK : 100 ≤ K)  : Sf (fX5_init N K ) (fun (z : Int32 × (Nat → Int32) × Int32 × (Nat → Int32) × Int32 × (Nat → Int32) × Int32 × Int32 × (Nat → Int32) × Int32 × Int32 × (Nat → Int32) × Int32 × Int32 × (Nat → Int32) × (Nat → Int32) × (Nat → Int32) × Int32 × Int32 × Int32 × Int32 × Int32 × Int32 × (Nat → Int32) × (Nat → Int32) × (Nat → Int32)) => 0 ≤ z.1.toInt ∧ z.1.toInt ≤ 0 ∧ 0 ≤ z.2.2.1.toInt ∧ z.2.2.1.toInt ≤ 0 ∧ 0 ≤ z.2.2.2.2.1.toInt ∧ z.2.2.2.2.1.toInt ≤ 0 ∧ 0 ≤ z.2.2.2.2.2.2.1.toInt ∧ z.2.2.2.2.2.2.1.toInt ≤ 2 ∧ 0 ≤ z.2.2.2.2.2.2.2.1.toInt ∧ z.2.2.2.2.2.2.2.1.toInt ≤ 0 ∧ 0 ≤ z.2.2.2.2.2.2.2.2.2.1.toInt ∧ z.2.2.2.2.2.2.2.2.2.1.toInt ≤ 2 ∧ 0 ≤ z.2.2.2.2.2.2.2.2.2.2.1.toInt ∧ z.2.2.2.2.2.2.2.2.2.2.1.toInt ≤ 0 ∧ 0 ≤ z.2.2.2.2.2.2.2.2.2.2.2.2.1.toInt ∧ z.2.2.2.2.2.2.2.2.2.2.2.2.1.toInt ≤ 2 ∧ 0 ≤ z.2.2.2.2.2.2.2.2.2.2.2.2.2.1.toInt ∧ z.2.2.2.2.2.2.2.2.2.2.2.2.2.1.toInt ≤ 0 ∧ 0 ≤ z.2.2.2.2.2.2.2.2.2.2.2.2.2.2.2.2.2.1.toInt ∧ z.2.2.2.2.2.2.2.2.2.2.2.2.2.2.2.2.2.1.toInt ≤ 0 ∧ 0 ≤ z.2.2.2.2.2.2.2.2.2.2.2.2.2.2.2.2.2.2.1.toInt ∧ z.2.2.2.2.2.2.2.2.2.2.2.2.2.2.2.2.2.2.1.toInt ≤ 0 ∧ 0 ≤ z.2.2.2.2.2.2.2.2.2.2.2.2.2.2.2.2.2.2.2.1.toInt ∧ z.2.2.2.2.2.2.2.2.2.2.2.2.2.2.2.2.2.2.2.1.toInt ≤ 0 ∧ 0 ≤ z.2.2.2.2.2.2.2.2.2.2.2.2.2.2.2.2.2.2.2.2.1.toInt ∧ z.2.2.2.2.2.2.2.2.2.2.2.2.2.2.2.2.2.2.2.2.1.toInt ≤ 0 ∧ 0 ≤ z.2.2.2.2.2.2.2.2.2.2.2.2.2.2.2.2.2.2.2.2.2.1.toInt ∧ z.2.2.2.2.2.2.2.2.2.2.2.2.2.2.2.2.2.2.2.2.2.1.toInt ≤ 0 ∧ 0 ≤ z.2.2.2.2.2.2.2.2.2.2.2.2.2.2.2.2.2.2.2.2.2.2.1.toInt ∧ z.2.2.2.2.2.2.2.2.2.2.2.2.2.2.2.2.2.2.2.2.2.2.1.toInt ≤ 0 ∧ True) := by
  unfold fX5_init
  have ql0 : (0 : Int32).toInt = 0 := by decide
  have ql1 : (1 : Int32).toInt = 1 := by decide
  have ql2 : (2 : Int32).toInt = 2 := by decide
  refine sBind (s_X2_init hN hK (by first | omega | decide) (by first | omega | decide)) (fun x32 b1 => ?_)
  refine sBind (s_X2_init hN hK (by first | omega | decide) (by first | omega | decide)) (fun x32_1 b2 => ?_)
  refine sBind (s_X2_init hN hK (by first | omega | decide) (by first | omega | decide)) (fun x32_2 b3 => ?_)
  refine sBind (s_X1_init hN hK (by first | omega | decide) (by first | omega | decide) (by first | omega | decide) (by first | omega | decide) (by first | omega | decide) (by first | omega | decide)) (fun x71 b4 => ?_)
  obtain ⟨b4_0, b4_1, -⟩ := b4
  replace b4_0 : 0 ≤ x71.1.toInt := b4_0
  replace b4_1 : x71.1.toInt ≤ 2 := b4_1
  refine sBind (s_X1_init hN hK (by first | omega | decide) (by first | omega | decide) (by first | omega | decide) (by first | omega | decide) (by first | omega | decide) (by first | omega | decide)) (fun x71_1 b5 => ?_)
  obtain ⟨b5_0, b5_1, -⟩ := b5
  replace b5_0 : 0 ≤ x71_1.1.toInt := b5_0
  replace b5_1 : x71_1.1.toInt ≤ 2 := b5_1
  refine sBind (s_X1_init hN hK (by first | omega | decide) (by first | omega | decide) (by first | omega | decide) (by first | omega | decide) (by first | omega | decide) (by first | omega | decide)) (fun x71_2 b6 => ?_)
  obtain ⟨b6_0, b6_1, -⟩ := b6
  replace b6_0 : 0 ≤ x71_2.1.toInt := b6_0
  replace b6_1 : x71_2.1.toInt ≤ 2 := b6_1
  refine sBind (s_X4_init hN hK) (fun x109 b7 => ?_)
  refine sBind (s_X4_init hN hK) (fun x109_1 b8 => ?_)
  refine sBind (s_X0_init hN hK (by first | omega | decide) (by first | omega | decide) (by first | omega | decide) (by first | omega | decide) (by first | omega | decide) (by first | omega | decide) (by first | omega | decide) (by first | omega | decide) (by first | omega | decide) (by first | omega | decide) (by first | omega | decide) (by first | omega | decide)) (fun x124 b9 => ?_)
  refine sBind (s_X3_init hN hK) (fun x135 b10 => ?_)
  refine sBind (s_X4_init hN hK) (fun x146 b11 => ?_)
  refine sBind (s_X4_init hN hK) (fun x157 b12 => ?_)
  have r13 := rgI x71.1
  have r14 := rgI x71_1.1
  have r15 := rgI x71_2.1
  exact sRet ⟨(by show 0 ≤ (0 : Int32).toInt; decide), (by show (0 : Int32).toInt ≤ 0; decide), (by show 0 ≤ (0 : Int32).toInt; decide), (by show (0 : Int32).toInt ≤ 0; decide), (by show 0 ≤ (0 : Int32).toInt; decide), (by show (0 : Int32).toInt ≤ 0; decide), (by show 0 ≤ x71.1.toInt; omega), (by show x71.1.toInt ≤ 2; omega), (by show 0 ≤ (0 : Int32).toInt; decide), (by show (0 : Int32).toInt ≤ 0; decide), (by show 0 ≤ x71_1.1.toInt; omega), (by show x71_1.1.toInt ≤ 2; omega), (by show 0 ≤ (0 : Int32).toInt; decide), (by show (0 : Int32).toInt ≤ 0; decide), (by show 0 ≤ x71_2.1.toInt; omega), (by show x71_2.1.toInt ≤ 2; omega), (by show 0 ≤ (0 : Int32).toInt; decide), (by show (0 : Int32).toInt ≤ 0; decide), (by show 0 ≤ (0 : Int32).toInt; decide), (by show (0 : Int32).toInt ≤ 0; decide), (by show 0 ≤ (0 : Int32).toInt; decide), (by show (0 : Int32).toInt ≤ 0; decide), (by show 0 ≤ (0 : Int32).toInt; decide), (by show (0 : Int32).toInt ≤ 0; decide), (by show 0 ≤ (0 : Int32).toInt; decide), (by show (0 : Int32).toInt ≤ 0; decide), (by show 0 ≤ (0 : Int32).toInt; decide), (by show (0 : Int32).toInt ≤ 0; decide), (by show 0 ≤ (0 : Int32).toInt; decide), (by show (0 : Int32).toInt ≤ 0; decide), trivial⟩
set_option maxHeartbeats 2000000 in
theorem s_X5_memoryAt_13 {N K : Nat} {p0 : Int32} (hN : NBig N) (hK : 100 ≤ K)  : Sf (fX5_memoryAt_13 N K p0  ) (xP true false (fun (z : Unit) => (0 ≤ p0.toInt ∧ p0.toInt ≤ 2) ∧ True)) := by
  unfold fX5_memoryAt_13
  have ql0 : (0 : Int32).toInt = 0 := by decide
  exact sX1
set_option maxHeartbeats 2000000 in
theorem s_X5_memoryAt {N K : Nat} {p0 : Int32} (hN : NBig N) (hK : 100 ≤ K)  : Sf (fX5_memoryAt N K p0) (xP true false (fun (z : Unit) => (0 ≤ p0.toInt ∧ p0.toInt ≤ 2) ∧ True)) := by
  unfold fX5_memoryAt
  have ql0 : (0 : Int32).toInt = 0 := by decide
  have ql3 : (3 : Int32).toInt = 3 := by decide
  refine sIf (fun h1 => ?_) (fun h1 => ?_)
  · have r2 := rgI p0
    have fh1 := ltT h1
    exact s_X5_memoryAt_13  hN hK 
  · have r3 := rgI p0
    have fh1 := ltF h1
    refine sIf (fun h4 => ?_) (fun h4 => ?_)
    · have fh4 := ltT h4
      refine sIfF (noob (by omega) (by omega)) ?_
      exact sXl ⟨(by show (0 ≤ p0.toInt ∧ p0.toInt ≤ 2); omega), trivial⟩
    · have fh4 := ltF h4
      exact s_X5_memoryAt_13  hN hK 
set_option maxHeartbeats 2000000 in
theorem s_X5_ledgerAt_13 {N K : Nat} {p0 : Int32} (hN : NBig N) (hK : 100 ≤ K)  : Sf (fX5_ledgerAt_13 N K p0  ) (xP true false (fun (z : Unit) => (0 ≤ p0.toInt ∧ p0.toInt ≤ 2) ∧ True)) := by
  unfold fX5_ledgerAt_13
  have ql0 : (0 : Int32).toInt = 0 := by decide
  exact sX1
set_option maxHeartbeats 2000000 in
theorem s_X5_ledgerAt {N K : Nat} {p0 : Int32} (hN : NBig N) (hK : 100 ≤ K)  : Sf (fX5_ledgerAt N K p0) (xP true false (fun (z : Unit) => (0 ≤ p0.toInt ∧ p0.toInt ≤ 2) ∧ True)) := by
  unfold fX5_ledgerAt
  have ql0 : (0 : Int32).toInt = 0 := by decide
  have ql3 : (3 : Int32).toInt = 3 := by decide
  refine sIf (fun h1 => ?_) (fun h1 => ?_)
  · have r2 := rgI p0
    have fh1 := ltT h1
    exact s_X5_ledgerAt_13  hN hK 
  · have r3 := rgI p0
    have fh1 := ltF h1
    refine sIf (fun h4 => ?_) (fun h4 => ?_)
    · have fh4 := ltT h4
      refine sIfF (noob (by omega) (by omega)) ?_
      exact sXl ⟨(by show (0 ≤ p0.toInt ∧ p0.toInt ≤ 2); omega), trivial⟩
    · have fh4 := ltF h4
      exact s_X5_ledgerAt_13  hN hK 
set_option maxHeartbeats 2000000 in
theorem s_X5_deskAt_13 {N K : Nat} {p0 : Int32} (hN : NBig N) (hK : 100 ≤ K)  : Sf (fX5_deskAt_13 N K p0  ) (xP true false (fun (z : Unit) => (0 ≤ p0.toInt ∧ p0.toInt ≤ 1) ∧ True)) := by
  unfold fX5_deskAt_13
  have ql0 : (0 : Int32).toInt = 0 := by decide
  exact sX1
set_option maxHeartbeats 2000000 in
theorem s_X5_deskAt {N K : Nat} {p0 : Int32} (hN : NBig N) (hK : 100 ≤ K)  : Sf (fX5_deskAt N K p0) (xP true false (fun (z : Unit) => (0 ≤ p0.toInt ∧ p0.toInt ≤ 1) ∧ True)) := by
  unfold fX5_deskAt
  have ql0 : (0 : Int32).toInt = 0 := by decide
  have ql2 : (2 : Int32).toInt = 2 := by decide
  refine sIf (fun h1 => ?_) (fun h1 => ?_)
  · have r2 := rgI p0
    have fh1 := ltT h1
    exact s_X5_deskAt_13  hN hK 
  · have r3 := rgI p0
    have fh1 := ltF h1
    refine sIf (fun h4 => ?_) (fun h4 => ?_)
    · have fh4 := ltT h4
      refine sIfF (noob (by omega) (by omega)) ?_
      exact sXl ⟨(by show (0 ≤ p0.toInt ∧ p0.toInt ≤ 1); omega), trivial⟩
    · have fh4 := ltF h4
      exact s_X5_deskAt_13  hN hK 
set_option maxHeartbeats 2000000 in
theorem s_X5_checkRange_10 {N K : Nat} {p0 : Int32} {p1 : Int32} {p2 : Int32} (hN : NBig N) (hK : 100 ≤ K) (hp0 : 0 ≤ p1.toInt) (hp1 : p1.toInt ≤ 1) (hp2 : 1 ≤ p2.toInt) (hp3 : p2.toInt ≤ 20) : Sf (fX5_checkRange_10 N K p0 p1 p2  ) (xP false true (fun (z : Unit) => (p1.toInt ≤ p0.toInt ∧ p0.toInt ≤ p2.toInt) ∧ True)) := by
  unfold fX5_checkRange_10
  have ql0 : (0 : Int32).toInt = 0 := by decide
  exact sX2
set_option maxHeartbeats 2000000 in
theorem s_X5_checkRange {N K : Nat} {p0 : Int32} {p1 : Int32} {p2 : Int32} (hN : NBig N) (hK : 100 ≤ K) (hp0 : 0 ≤ p1.toInt) (hp1 : p1.toInt ≤ 1) (hp2 : 1 ≤ p2.toInt) (hp3 : p2.toInt ≤ 20) : Sf (fX5_checkRange N K p0 p1 p2) (xP false true (fun (z : Unit) => (p1.toInt ≤ p0.toInt ∧ p0.toInt ≤ p2.toInt) ∧ True)) := by
  unfold fX5_checkRange
  have ql0 : (0 : Int32).toInt = 0 := by decide
  refine sIf (fun h1 => ?_) (fun h1 => ?_)
  · have r2 := rgI p0
    have r3 := rgI p1
    have fh1 := ltT h1
    exact s_X5_checkRange_10  hN hK (by omega) (by omega) (by omega) (by omega) 
  · have r4 := rgI p0
    have r5 := rgI p1
    have fh1 := ltF h1
    refine sIf (fun h6 => ?_) (fun h6 => ?_)
    · have r7 := rgI p2
      have fh6 := leT h6
      exact sXl ⟨(by show (p1.toInt ≤ p0.toInt ∧ p0.toInt ≤ p2.toInt); omega), trivial⟩
    · have r8 := rgI p2
      have fh6 := leF h6
      exact s_X5_checkRange_10  hN hK (by omega) (by omega) (by omega) (by omega) 
set_option maxHeartbeats 2000000 in
theorem s_X5_checkCase {N K : Nat} {p0 : Int32} {p1 : Int32} {p2 : Int32} (hN : NBig N) (hK : 100 ≤ K)  : Sf (fX5_checkCase N K p0 p1 p2) (xP false true (fun (z : Unit) => (0 ≤ p0.toInt ∧ p0.toInt ≤ 5) ∧ (0 ≤ p1.toInt ∧ p1.toInt ≤ 20) ∧ (0 ≤ p2.toInt ∧ p2.toInt ≤ 20) ∧ True)) := by
  unfold fX5_checkCase
  have ql0 : (0 : Int32).toInt = 0 := by decide
  have ql5 : (5 : Int32).toInt = 5 := by decide
  have ql20 : (20 : Int32).toInt = 20 := by decide
  have r1 := rgI p0
  refine sXb (s_X5_checkRange hN hK (by first | omega | decide) (by first | omega | decide) (by first | omega | decide) (by first | omega | decide)) (by decide) (by decide) (fun x3 b2 => ?_)
  obtain ⟨b2_0, -⟩ := b2
  replace b2_0 : ((0 : Int32).toInt ≤ p0.toInt ∧ p0.toInt ≤ (5 : Int32).toInt) := b2_0
  have r3 := rgI p1
  refine sXb (s_X5_checkRange hN hK (by first | omega | decide) (by first | omega | decide) (by first | omega | decide) (by first | omega | decide)) (by decide) (by decide) (fun x10 b4 => ?_)
  obtain ⟨b4_0, -⟩ := b4
  replace b4_0 : ((0 : Int32).toInt ≤ p1.toInt ∧ p1.toInt ≤ (20 : Int32).toInt) := b4_0
  have r5 := rgI p2
  refine sXb (s_X5_checkRange hN hK (by first | omega | decide) (by first | omega | decide) (by first | omega | decide) (by first | omega | decide)) (by decide) (by decide) (fun x17 b6 => ?_)
  obtain ⟨b6_0, -⟩ := b6
  replace b6_0 : ((0 : Int32).toInt ≤ p2.toInt ∧ p2.toInt ≤ (20 : Int32).toInt) := b6_0
  exact sXl ⟨(by show (0 ≤ p0.toInt ∧ p0.toInt ≤ 5); omega), (by show (0 ≤ p1.toInt ∧ p1.toInt ≤ 20); omega), (by show (0 ≤ p2.toInt ∧ p2.toInt ≤ 20); omega), trivial⟩
set_option maxHeartbeats 2000000 in
theorem s_X5_checkAnyCase {N K : Nat} {p0 : Int32} {p1 : Int32} {p2 : Int32} (hN : NBig N) (hK : 100 ≤ K)  : Sf (fX5_checkAnyCase N K p0 p1 p2) (xP false true (fun (z : Unit) => (0 ≤ p0.toInt ∧ p0.toInt ≤ 7) ∧ (0 ≤ p1.toInt ∧ p1.toInt ≤ 20) ∧ (0 ≤ p2.toInt ∧ p2.toInt ≤ 20) ∧ True)) := by
  unfold fX5_checkAnyCase
  have ql0 : (0 : Int32).toInt = 0 := by decide
  have ql7 : (7 : Int32).toInt = 7 := by decide
  have ql20 : (20 : Int32).toInt = 20 := by decide
  have r1 := rgI p0
  refine sXb (s_X5_checkRange hN hK (by first | omega | decide) (by first | omega | decide) (by first | omega | decide) (by first | omega | decide)) (by decide) (by decide) (fun x4 b2 => ?_)
  obtain ⟨b2_0, -⟩ := b2
  replace b2_0 : ((0 : Int32).toInt ≤ p0.toInt ∧ p0.toInt ≤ (7 : Int32).toInt) := b2_0
  have r3 := rgI p1
  refine sXb (s_X5_checkRange hN hK (by first | omega | decide) (by first | omega | decide) (by first | omega | decide) (by first | omega | decide)) (by decide) (by decide) (fun x11 b4 => ?_)
  obtain ⟨b4_0, -⟩ := b4
  replace b4_0 : ((0 : Int32).toInt ≤ p1.toInt ∧ p1.toInt ≤ (20 : Int32).toInt) := b4_0
  have r5 := rgI p2
  refine sXb (s_X5_checkRange hN hK (by first | omega | decide) (by first | omega | decide) (by first | omega | decide) (by first | omega | decide)) (by decide) (by decide) (fun x18 b6 => ?_)
  obtain ⟨b6_0, -⟩ := b6
  replace b6_0 : ((0 : Int32).toInt ≤ p2.toInt ∧ p2.toInt ≤ (20 : Int32).toInt) := b6_0
  exact sXl ⟨(by show (0 ≤ p0.toInt ∧ p0.toInt ≤ 7); omega), (by show (0 ≤ p1.toInt ∧ p1.toInt ≤ 20); omega), (by show (0 ≤ p2.toInt ∧ p2.toInt ≤ 20); omega), trivial⟩
set_option maxHeartbeats 2000000 in
theorem s_X5_acted {N K : Nat} {c0 : Int32} {c1 : Int32} {c2 : Int32} {c3 : Int32} {c4 : Int32} {c5 : Int32} {p0 : Int32} (hN : NBig N) (hK : 100 ≤ K)  : Sf (fX5_acted N K c0 c1 c2 c3 c4 c5 p0) (fun (z : Int32 × Int32) => True) := by
  unfold fX5_acted
  have ql0 : (0 : Int32).toInt = 0 := by decide
  have r1 := rgI p0
  have r2 := rgI (c0 + (1 : Int32))
  exact sRet trivial
set_option maxHeartbeats 2000000 in
theorem s_X5_undone {N K : Nat} {c0 : Int32} {c1 : Int32} {c2 : Int32} {c3 : Int32} {c4 : Int32} {c5 : Int32} (hN : NBig N) (hK : 100 ≤ K)  : Sf (fX5_undone N K c0 c1 c2 c3 c4 c5) (fun (z : Int32 × Int32) => -9 ≤ z.1.toInt ∧ z.1.toInt ≤ -9 ∧ True) := by
  unfold fX5_undone
  have ql0 : (0 : Int32).toInt = 0 := by decide
  have r1 := rgI (c4 + (1 : Int32))
  exact sRet ⟨(by show -9 ≤ (-9 : Int32).toInt; decide), (by show (-9 : Int32).toInt ≤ -9; decide), trivial⟩
set_option maxHeartbeats 2000000 in
theorem s_X5_waysOneByOne_41 {N K : Nat} {fw : Nat → Int32} {fs : Nat → Int32} {p0 : Int32} {p1 : Int32} {p2 : Int32} (hN : NBig N) (hK : 100 ≤ K) (hp0 : 0 ≤ p0.toInt) (hp1 : p0.toInt ≤ 7) (hp2 : 0 ≤ p1.toInt) (hp3 : p1.toInt ≤ 20) (hp4 : 0 ≤ p2.toInt) (hp5 : p2.toInt ≤ 20) {k_14 : Int32 → Int32 → (Nat → Int32) → (Nat → Int32) → Option (Int32 × (Nat → Int32) × (Nat → Int32))} {m_14 : Nat} (hk_14 : ∀ (l4 : Int32) (l5 : Int32) (fw_ : (Nat → Int32)) (fs_ : (Nat → Int32)), (2147483647 - l5.toInt).toNat < m_14 → 0 ≤ l5.toInt → Sf (k_14 l4 l5 fw_ fs_) (fun (z : Int32 × (Nat → Int32) × (Nat → Int32)) => True)) : ∀ (l4 : Int32) (l5 : Int32) (fw_ : Nat → Int32) (fs_ : Nat → Int32), 0 ≤ l5.toInt → l5.toInt ≤ 1000000 → (2147483647 - l5.toInt).toNat ≤ m_14 → Sf (fX5_waysOneByOne_41 N K fw fs p0 p1 p2 k_14 l4 l5 fw_ fs_) (fun (z : Int32 × (Nat → Int32) × (Nat → Int32)) => True) := by
  intro l4 l5 fw_ fs_ hq0 hq1 hq2
  unfold fX5_waysOneByOne_41
  have ql0 : (0 : Int32).toInt = 0 := by decide
  have ql1 : (1 : Int32).toInt = 1 := by decide
  refine sBind (s_X4_stepOn hN hK) (fun x45 b1 => ?_)
  obtain ⟨b1_0, b1_1, -⟩ := b1
  replace b1_0 : 0 ≤ x45.1.toInt := b1_0
  replace b1_1 : x45.1.toInt ≤ 1 := b1_1
  refine sIf (fun h2 => ?_) (fun h2 => ?_)
  · have r3 := rgI x45.1
    have fh2 := eqT h2
    have r4 := rgI l4
    exact sRet trivial
  · have r5 := rgI x45.1
    have fh2 := eqF h2
    have r6 := rgI l4
    have r8 := rgI l5
    have t7 := addI (a := l5) (b := (1 : Int32)) (by omega) (by omega)
    exact hk_14 _ _ _ _ (by omega) (by first | omega | decide)
set_option maxHeartbeats 2000000 in
theorem s_X5_waysOneByOne_14 {N K : Nat} {fw : Nat → Int32} {fs : Nat → Int32} {p0 : Int32} {p1 : Int32} {p2 : Int32} (hN : NBig N) (hK : 100 ≤ K) (hp0 : 0 ≤ p0.toInt) (hp1 : p0.toInt ≤ 7) (hp2 : 0 ≤ p1.toInt) (hp3 : p1.toInt ≤ 20) (hp4 : 0 ≤ p2.toInt) (hp5 : p2.toInt ≤ 20) : ∀ (fu : Nat) (l4 : Int32) (l5 : Int32) (fw_ : (Nat → Int32)) (fs_ : (Nat → Int32)), (2147483647 - l5.toInt).toNat < fu → 0 ≤ l5.toInt → Sf (fX5_waysOneByOne_14 N K fw fs p0 p1 p2  fu l4 l5 fw_ fs_) (fun (z : Int32 × (Nat → Int32) × (Nat → Int32)) => True) := by
  intro fu
  induction fu with
  | zero => intro l4 l5 fw_ fs_ h0 hq0; omega
  | succ fu ih =>
    intro l4 l5 fw_ fs_ h0 hq0
    unfold fX5_waysOneByOne_14
    have ql0 : (0 : Int32).toInt = 0 := by decide
    have ql1000000 : (1000000 : Int32).toInt = 1000000 := by decide
    refine sIf (fun h1 => ?_) (fun h1 => ?_)
    · have r2 := rgI l5
      have fh1 := leT h1
      have r3 := rgI l4
      exact sRet trivial
    · have r4 := rgI l5
      have fh1 := leF h1
      have r5 := rgI p0
      have r6 := rgI p2
      refine sBind (s_X4_isOfKind hN hK (by first | omega | decide) (by first | omega | decide) (by first | omega | decide) (by first | omega | decide)) (fun x32 b7 => ?_)
      obtain ⟨b7_0, b7_1, -⟩ := b7
      replace b7_0 : 0 ≤ x32.1.toInt := b7_0
      replace b7_1 : x32.1.toInt ≤ 1 := b7_1
      refine sIf (fun h8 => ?_) (fun h8 => ?_)
      · have r9 := rgI x32.1
        have fh8 := eqT h8
        have r10 := rgI l4
        exact s_X5_waysOneByOne_41 (hk_14 := ih) hN hK (by omega) (by omega) (by omega) (by omega) (by omega) (by omega) _ _ _ _ (by first | omega | decide) (by first | omega | decide) (by omega)
      · have r11 := rgI x32.1
        have fh8 := eqF h8
        have r12 := rgI (l4 + (1 : Int32))
        exact s_X5_waysOneByOne_41 (hk_14 := ih) hN hK (by omega) (by omega) (by omega) (by omega) (by omega) (by omega) _ _ _ _ (by first | omega | decide) (by first | omega | decide) (by omega)
set_option maxHeartbeats 2000000 in
theorem s_X5_waysOneByOne {N K : Nat} {fw : Nat → Int32} {fs : Nat → Int32} {p0 : Int32} {p1 : Int32} {p2 : Int32} (hN : NBig N) (hK : 100 ≤ K) (hp0 : 0 ≤ p0.toInt) (hp1 : p0.toInt ≤ 7) (hp2 : 0 ≤ p1.toInt) (hp3 : p1.toInt ≤ 20) (hp4 : 0 ≤ p2.toInt) (hp5 : p2.toInt ≤ 20) : Sf (fX5_waysOneByOne N K fw fs p0 p1 p2) (fun (z : Int32 × (Nat → Int32) × (Nat → Int32)) => True) := by
  unfold fX5_waysOneByOne
  have hN9 := hN.u
  have ql0 : (0 : Int32).toInt = 0 := by decide
  have r1 := rgI p1
  refine sBind (s_X4_becomeFirst hN hK (by first | omega | decide) (by first | omega | decide)) (fun x5 b2 => ?_)
  exact s_X5_waysOneByOne_14  hN hK (by omega) (by omega) (by omega) (by omega) (by omega) (by omega) _ _ _ _ _ (by omega) (by first | omega | decide)
set_option maxHeartbeats 2000000 in
theorem s_X5_know {N K : Nat} {sz : Int32} {f : Nat → Int32} {c0 : Int32} {c1 : Int32} {c2 : Int32} {c3 : Int32} {c4 : Int32} {c5 : Int32} {p0 : Int32} {p1 : Int32} {p2 : Int32} {p3 : Int32} (hN : NBig N) (hK : 100 ≤ K)  : Sf (fX5_know N K sz f c0 c1 c2 c3 c4 c5 p0 p1 p2 p3) (xP true true (fun (z : Int32 × Int32 × (Nat → Int32) × Int32 × Int32 × Int32 × Int32) => True)) := by
  unfold fX5_know
  have ql0 : (0 : Int32).toInt = 0 := by decide
  have r1 := rgI p0
  refine sXb (s_X5_memoryAt hN hK) (by decide) (by decide) (fun x2 b2 => ?_)
  obtain ⟨b2_0, -⟩ := b2
  replace b2_0 : (0 ≤ p0.toInt ∧ p0.toInt ≤ 2) := b2_0
  have r3 := rgI p1
  have r4 := rgI p2
  have r5 := rgI p3
  refine sXb (s_X5_checkCase hN hK) (by decide) (by decide) (fun x11 b6 => ?_)
  obtain ⟨b6_0, b6_1, b6_2, -⟩ := b6
  replace b6_0 : (0 ≤ p1.toInt ∧ p1.toInt ≤ 5) := b6_0
  replace b6_1 : (0 ≤ p2.toInt ∧ p2.toInt ≤ 20) := b6_1
  replace b6_2 : (0 ≤ p3.toInt ∧ p3.toInt ≤ 20) := b6_2
  have r7 := rgI sz
  have r8 := rgI c0
  have r9 := rgI c1
  have r10 := rgI c2
  have r11 := rgI c3
  have r12 := rgI c4
  have r13 := rgI c5
  refine sBind (s_X2_recall hN hK (by first | omega | decide) (by first | omega | decide)) (fun x25 b14 => ?_)
  have r15 := rgI x25.2.2.2.1
  have r16 := rgI x25.2.2.2.2.1
  have r17 := rgI x25.2.2.2.2.2
  have r18 := rgI x25.1
  refine sBind (s_X5_acted hN hK) (fun x28 b19 => ?_)
  have r20 := rgI x28.1
  have r21 := rgI x25.2.1
  have r22 := rgI x28.2
  exact sXl trivial
set_option maxHeartbeats 2000000 in
theorem s_X5_few_27 {N K : Nat} {sz : Int32} {f : Nat → Int32} {c0 : Int32} {c1 : Int32} {c2 : Int32} {c3 : Int32} {c4 : Int32} {c5 : Int32} {p0 : Int32} {p1 : Int32} {p2 : Int32} (hN : NBig N) (hK : 100 ≤ K)  : ∀ (fu : Nat) (l5 : Int32) (l6 : Int32) (sz_ : Int32) (f_ : (Nat → Int32)) (c0_ : Int32) (c1_ : Int32) (c2_ : Int32) (c3_ : Int32), (21 - l6.toInt).toNat < fu → 0 ≤ p0.toInt → p0.toInt ≤ 2 → 0 ≤ p1.toInt → p1.toInt ≤ 20 → 0 ≤ p2.toInt → p2.toInt ≤ 20 → 0 ≤ l6.toInt → l6.toInt ≤ 21 → Sf (fX5_few_27 N K sz f c0 c1 c2 c3 c4 c5 p0 p1 p2  fu l5 l6 sz_ f_ c0_ c1_ c2_ c3_) (xP true true (fun (z : Int32 × Int32 × (Nat → Int32) × Int32 × Int32 × Int32 × Int32) => True)) := by
  intro fu
  induction fu with
  | zero => intro l5 l6 sz_ f_ c0_ c1_ c2_ c3_ h0 hq0 hq1 hq2 hq3 hq4 hq5 hq6 hq7; omega
  | succ fu ih =>
    intro l5 l6 sz_ f_ c0_ c1_ c2_ c3_ h0 hq0 hq1 hq2 hq3 hq4 hq5 hq6 hq7
    unfold fX5_few_27
    have ql0 : (0 : Int32).toInt = 0 := by decide
    have ql1 : (1 : Int32).toInt = 1 := by decide
    refine sIf (fun h1 => ?_) (fun h1 => ?_)
    · have r2 := rgI p2
      have r3 := rgI l6
      have fh1 := ltT h1
      have r4 := rgI c0_
      have r5 := rgI c1_
      have r6 := rgI c2_
      have r7 := rgI c3_
      have r8 := rgI c4
      have r9 := rgI c5
      have r10 := rgI l5
      refine sBind (s_X5_acted hN hK) (fun x60 b11 => ?_)
      have r12 := rgI x60.1
      have r13 := rgI sz_
      have r14 := rgI x60.2
      exact sXl trivial
    · have r15 := rgI p2
      have r16 := rgI l6
      have fh1 := ltF h1
      have r17 := rgI sz_
      have r18 := rgI c0_
      have r19 := rgI c1_
      have r20 := rgI c2_
      have r21 := rgI c3_
      have r22 := rgI c4
      have r23 := rgI c5
      have r24 := rgI p1
      refine sBind (s_X2_recall hN hK (by first | omega | decide) (by first | omega | decide)) (fun x45 b25 => ?_)
      have r26 := rgI (l5 + x45.1)
      have t27 := addI (a := l6) (b := (1 : Int32)) (by omega) (by omega)
      have r28 := rgI x45.2.1
      have r29 := rgI x45.2.2.2.1
      have r30 := rgI x45.2.2.2.2.1
      have r31 := rgI x45.2.2.2.2.2
      exact ih _ _ _ _ _ _ _ _ (by omega) (by first | omega | decide) (by first | omega | decide) (by first | omega | decide) (by first | omega | decide) (by first | omega | decide) (by first | omega | decide) (by first | omega | decide) (by first | omega | decide)
set_option maxHeartbeats 2000000 in
theorem s_X5_few {N K : Nat} {sz : Int32} {f : Nat → Int32} {c0 : Int32} {c1 : Int32} {c2 : Int32} {c3 : Int32} {c4 : Int32} {c5 : Int32} {p0 : Int32} {p1 : Int32} {p2 : Int32} (hN : NBig N) (hK : 100 ≤ K)  : Sf (fX5_few N K sz f c0 c1 c2 c3 c4 c5 p0 p1 p2) (xP true true (fun (z : Int32 × Int32 × (Nat → Int32) × Int32 × Int32 × Int32 × Int32) => True)) := by
  unfold fX5_few
  have hN9 := hN.u
  have ql0 : (0 : Int32).toInt = 0 := by decide
  have ql20 : (20 : Int32).toInt = 20 := by decide
  have r1 := rgI p0
  refine sXb (s_X5_memoryAt hN hK) (by decide) (by decide) (fun x2 b2 => ?_)
  obtain ⟨b2_0, -⟩ := b2
  replace b2_0 : (0 ≤ p0.toInt ∧ p0.toInt ≤ 2) := b2_0
  have r3 := rgI p1
  refine sXb (s_X5_checkRange hN hK (by first | omega | decide) (by first | omega | decide) (by first | omega | decide) (by first | omega | decide)) (by decide) (by decide) (fun x11 b4 => ?_)
  obtain ⟨b4_0, -⟩ := b4
  replace b4_0 : ((0 : Int32).toInt ≤ p1.toInt ∧ p1.toInt ≤ (20 : Int32).toInt) := b4_0
  have r5 := rgI p2
  refine sXb (s_X5_checkRange hN hK (by first | omega | decide) (by first | omega | decide) (by first | omega | decide) (by first | omega | decide)) (by decide) (by decide) (fun x18 b6 => ?_)
  obtain ⟨b6_0, -⟩ := b6
  replace b6_0 : ((0 : Int32).toInt ≤ p2.toInt ∧ p2.toInt ≤ (20 : Int32).toInt) := b6_0
  have r7 := rgI sz
  have r8 := rgI c0
  have r9 := rgI c1
  have r10 := rgI c2
  have r11 := rgI c3
  exact s_X5_few_27  hN hK _ _ _ _ _ _ _ _ _ (by omega) (by first | omega | decide) (by first | omega | decide) (by first | omega | decide) (by first | omega | decide) (by first | omega | decide) (by first | omega | decide) (by first | omega | decide) (by first | omega | decide)
set_option maxHeartbeats 2000000 in
theorem s_X5_surplus_56 {N K : Nat} {sz : Int32} {f : Nat → Int32} {c0 : Int32} {c1 : Int32} {c2 : Int32} {c3 : Int32} {c4 : Int32} {c5 : Int32} {p0 : Int32} {p1 : Int32} (hN : NBig N) (hK : 100 ≤ K)  {k_19 : Int32 → Int32 → Int32 → (Nat → Int32) → Int32 → Int32 → Int32 → Int32 → Option ((Int32 × Int32 × (Nat → Int32) × Int32 × Int32 × Int32 × Int32) ⊕ String)} {m_19 : Nat} (hk_19 : ∀ (l4 : Int32) (l5 : Int32) (sz_ : Int32) (f_ : (Nat → Int32)) (c0_ : Int32) (c1_ : Int32) (c2_ : Int32) (c3_ : Int32), (21 - l5.toInt).toNat < m_19 → 0 ≤ p0.toInt → p0.toInt ≤ 2 → 0 ≤ p1.toInt → p1.toInt ≤ 20 → 0 ≤ l5.toInt → l5.toInt ≤ 21 → Sf (k_19 l4 l5 sz_ f_ c0_ c1_ c2_ c3_) (xP true true (fun (z : Int32 × Int32 × (Nat → Int32) × Int32 × Int32 × Int32 × Int32) => True))) : ∀ (l5 : Int32) (s0 : Int32) (s1 : Int32) (sz_ : Int32) (f_ : Nat → Int32) (c0_ : Int32) (c1_ : Int32) (c2_ : Int32) (c3_ : Int32), 0 ≤ p0.toInt → p0.toInt ≤ 2 → 0 ≤ p1.toInt → p1.toInt ≤ 20 → 0 ≤ l5.toInt → l5.toInt ≤ 20 → (s0.toInt = 0 → 0 ≤ p0.toInt ∧ p0.toInt ≤ 2 ∧ 0 ≤ p1.toInt ∧ p1.toInt ≤ 20) → (s1.toInt = 0 → 0 ≤ p0.toInt ∧ p0.toInt ≤ 2 ∧ 0 ≤ p1.toInt ∧ p1.toInt ≤ 20) → (21 - l5.toInt).toNat ≤ m_19 → Sf (fX5_surplus_56 N K sz f c0 c1 c2 c3 c4 c5 p0 p1 k_19 l5 s0 s1 sz_ f_ c0_ c1_ c2_ c3_) (xP true true (fun (z : Int32 × Int32 × (Nat → Int32) × Int32 × Int32 × Int32 × Int32) => True)) := by
  intro l5 s0 s1 sz_ f_ c0_ c1_ c2_ c3_ hq0 hq1 hq2 hq3 hq4 hq5 hq6 hq7 hq8
  unfold fX5_surplus_56
  have ql0 : (0 : Int32).toInt = 0 := by decide
  have ql1 : (1 : Int32).toInt = 1 := by decide
  have r1 := rgI (s1 + s0)
  have r3 := rgI l5
  have t2 := addI (a := l5) (b := (1 : Int32)) (by omega) (by omega)
  have r4 := rgI sz_
  have r5 := rgI c0_
  have r6 := rgI c1_
  have r7 := rgI c2_
  have r8 := rgI c3_
  exact hk_19 _ _ _ _ _ _ _ _ (by omega) (by first | omega | decide) (by first | omega | decide) (by first | omega | decide) (by first | omega | decide) (by first | omega | decide) (by first | omega | decide)
set_option maxHeartbeats 2000000 in
theorem s_X5_surplus_19 {N K : Nat} {sz : Int32} {f : Nat → Int32} {c0 : Int32} {c1 : Int32} {c2 : Int32} {c3 : Int32} {c4 : Int32} {c5 : Int32} {p0 : Int32} {p1 : Int32} (hN : NBig N) (hK : 100 ≤ K)  : ∀ (fu : Nat) (l4 : Int32) (l5 : Int32) (sz_ : Int32) (f_ : (Nat → Int32)) (c0_ : Int32) (c1_ : Int32) (c2_ : Int32) (c3_ : Int32), (21 - l5.toInt).toNat < fu → 0 ≤ p0.toInt → p0.toInt ≤ 2 → 0 ≤ p1.toInt → p1.toInt ≤ 20 → 0 ≤ l5.toInt → l5.toInt ≤ 21 → Sf (fX5_surplus_19 N K sz f c0 c1 c2 c3 c4 c5 p0 p1  fu l4 l5 sz_ f_ c0_ c1_ c2_ c3_) (xP true true (fun (z : Int32 × Int32 × (Nat → Int32) × Int32 × Int32 × Int32 × Int32) => True)) := by
  intro fu
  induction fu with
  | zero => intro l4 l5 sz_ f_ c0_ c1_ c2_ c3_ h0 hq0 hq1 hq2 hq3 hq4 hq5; omega
  | succ fu ih =>
    intro l4 l5 sz_ f_ c0_ c1_ c2_ c3_ h0 hq0 hq1 hq2 hq3 hq4 hq5
    unfold fX5_surplus_19
    have ql0 : (0 : Int32).toInt = 0 := by decide
    have ql2 : (2 : Int32).toInt = 2 := by decide
    have ql5 : (5 : Int32).toInt = 5 := by decide
    refine sIf (fun h1 => ?_) (fun h1 => ?_)
    · have r2 := rgI p1
      have r3 := rgI l5
      have fh1 := ltT h1
      have r4 := rgI c0_
      have r5 := rgI c1_
      have r6 := rgI c2_
      have r7 := rgI c3_
      have r8 := rgI c4
      have r9 := rgI c5
      have r10 := rgI l4
      refine sBind (s_X5_acted hN hK) (fun x68 b11 => ?_)
      have r12 := rgI x68.1
      have r13 := rgI sz_
      have r14 := rgI x68.2
      exact sXl trivial
    · have r15 := rgI p1
      have r16 := rgI l5
      have fh1 := ltF h1
      have r17 := rgI sz_
      have r18 := rgI c0_
      have r19 := rgI c1_
      have r20 := rgI c2_
      have r21 := rgI c3_
      have r22 := rgI c4
      have r23 := rgI c5
      refine sBind (s_X2_recall hN hK (by first | omega | decide) (by first | omega | decide)) (fun x34 b24 => ?_)
      refine sIf (fun h25 => ?_) (fun h25 => ?_)
      · have t26 := modL (a := l5) (b := (2 : Int32)) ql2 (by omega)
        have fh25 := eqT h25
        have r27 := rgI x34.1
        have r28 := rgI l4
        have r29 := rgI x34.2.1
        have r30 := rgI x34.2.2.2.1
        have r31 := rgI x34.2.2.2.2.1
        have r32 := rgI x34.2.2.2.2.2
        exact s_X5_surplus_56 (hk_19 := ih) hN hK _ _ _ _ _ _ _ _ _ (by first | omega | decide) (by first | omega | decide) (by first | omega | decide) (by first | omega | decide) (by first | omega | decide) (by first | omega | decide) (by first | omega | decide) (by first | omega | decide) (by omega)
      · have t33 := modL (a := l5) (b := (2 : Int32)) ql2 (by omega)
        have fh25 := eqF h25
        have r34 := rgI (-x34.1)
        have r35 := rgI l4
        have r36 := rgI x34.2.1
        have r37 := rgI x34.2.2.2.1
        have r38 := rgI x34.2.2.2.2.1
        have r39 := rgI x34.2.2.2.2.2
        exact s_X5_surplus_56 (hk_19 := ih) hN hK _ _ _ _ _ _ _ _ _ (by first | omega | decide) (by first | omega | decide) (by first | omega | decide) (by first | omega | decide) (by first | omega | decide) (by first | omega | decide) (by first | omega | decide) (by first | omega | decide) (by omega)
set_option maxHeartbeats 2000000 in
theorem s_X5_surplus {N K : Nat} {sz : Int32} {f : Nat → Int32} {c0 : Int32} {c1 : Int32} {c2 : Int32} {c3 : Int32} {c4 : Int32} {c5 : Int32} {p0 : Int32} {p1 : Int32} (hN : NBig N) (hK : 100 ≤ K)  : Sf (fX5_surplus N K sz f c0 c1 c2 c3 c4 c5 p0 p1) (xP true true (fun (z : Int32 × Int32 × (Nat → Int32) × Int32 × Int32 × Int32 × Int32) => True)) := by
  unfold fX5_surplus
  have hN9 := hN.u
  have ql0 : (0 : Int32).toInt = 0 := by decide
  have ql20 : (20 : Int32).toInt = 20 := by decide
  have r1 := rgI p0
  refine sXb (s_X5_memoryAt hN hK) (by decide) (by decide) (fun x2 b2 => ?_)
  obtain ⟨b2_0, -⟩ := b2
  replace b2_0 : (0 ≤ p0.toInt ∧ p0.toInt ≤ 2) := b2_0
  have r3 := rgI p1
  refine sXb (s_X5_checkRange hN hK (by first | omega | decide) (by first | omega | decide) (by first | omega | decide) (by first | omega | decide)) (by decide) (by decide) (fun x10 b4 => ?_)
  obtain ⟨b4_0, -⟩ := b4
  replace b4_0 : ((0 : Int32).toInt ≤ p1.toInt ∧ p1.toInt ≤ (20 : Int32).toInt) := b4_0
  have r5 := rgI sz
  have r6 := rgI c0
  have r7 := rgI c1
  have r8 := rgI c2
  have r9 := rgI c3
  exact s_X5_surplus_19  hN hK _ _ _ _ _ _ _ _ _ (by omega) (by first | omega | decide) (by first | omega | decide) (by first | omega | decide) (by first | omega | decide) (by first | omega | decide) (by first | omega | decide)
set_option maxHeartbeats 2000000 in
theorem s_X5_place_46 {N K : Nat} {sz : Int32} {f : Nat → Int32} {fd : Nat → Int32} {c0 : Int32} {c1 : Int32} {c2 : Int32} {c3 : Int32} {c4 : Int32} {c5 : Int32} {p0 : Int32} {p1 : Int32} (hN : NBig N) (hK : 100 ≤ K)  {k_31 : Int32 → Int32 → Int32 → Int32 → Int32 → (Nat → Int32) → Int32 → Int32 → Int32 → Int32 → Option ((Int32 × Int32 × (Nat → Int32) × Int32 × Int32 × Int32 × Int32) ⊕ String)} {m_31 : Nat} (hk_31 : ∀ (l5 : Int32) (l6 : Int32) (l7 : Int32) (l8 : Int32) (sz_ : Int32) (f_ : (Nat → Int32)) (c0_ : Int32) (c1_ : Int32) (c2_ : Int32) (c3_ : Int32), (l8.toInt - 0).toNat < m_31 → 0 ≤ p0.toInt → p0.toInt ≤ 2 → 0 ≤ p1.toInt → p1.toInt ≤ 1 → 0 ≤ l8.toInt → l8.toInt ≤ 20 → Sf (k_31 l5 l6 l7 l8 sz_ f_ c0_ c1_ c2_ c3_) (xP true false (fun (z : Int32 × Int32 × (Nat → Int32) × Int32 × Int32 × Int32 × Int32) => True))) : ∀ (fu : Nat) (l5 : Int32) (l6 : Int32) (l7 : Int32) (l8 : Int32) (l9 : Int32) (sz_ : Int32) (f_ : (Nat → Int32)) (c0_ : Int32) (c1_ : Int32) (c2_ : Int32) (c3_ : Int32), M31 l9 < fu → 0 ≤ p0.toInt → p0.toInt ≤ 2 → 0 ≤ p1.toInt → p1.toInt ≤ 1 → 1 ≤ l8.toInt → l8.toInt ≤ 20 → (l8.toInt - 0).toNat ≤ m_31 → Sf (fX5_place_46 N K sz f fd c0 c1 c2 c3 c4 c5 p0 p1 k_31 fu l5 l6 l7 l8 l9 sz_ f_ c0_ c1_ c2_ c3_) (xP true false (fun (z : Int32 × Int32 × (Nat → Int32) × Int32 × Int32 × Int32 × Int32) => True)) := by
  intro fu
  induction fu with
  | zero => intro l5 l6 l7 l8 l9 sz_ f_ c0_ c1_ c2_ c3_ h0 hq0 hq1 hq2 hq3 hq4 hq5 hq6; omega
  | succ fu ih =>
    intro l5 l6 l7 l8 l9 sz_ f_ c0_ c1_ c2_ c3_ h0 hq0 hq1 hq2 hq3 hq4 hq5 hq6
    unfold fX5_place_46
    have ql0 : (0 : Int32).toInt = 0 := by decide
    refine sIf (fun h1 => ?_) (fun h1 => ?_)
    · have r2 := rgI l9
      have fh1 := leT h1
      have r3 := rgI l5
      have r4 := rgI l6
      have r5 := rgI l7
      have r7 := rgI l8
      have t6 : (l8 + (-1 : Int32)).toInt = l8.toInt + (-1) := addL (by decide) (by omega) (by omega)
      have r8 := rgI sz_
      have r9 := rgI c0_
      have r10 := rgI c1_
      have r11 := rgI c2_
      have r12 := rgI c3_
      exact hk_31 _ _ _ _ _ _ _ _ _ _ (by omega) (by first | omega | decide) (by first | omega | decide) (by first | omega | decide) (by first | omega | decide) (by first | omega | decide) (by first | omega | decide)
    · have r13 := rgI l9
      have fh1 := leF h1
      have z9 := M31_dec (x := l9) (by omega)
      have r14 := rgI sz_
      have r15 := rgI c0_
      have r16 := rgI c1_
      have r17 := rgI c2_
      have r18 := rgI c3_
      have r19 := rgI c4
      have r20 := rgI c5
      have r21 := rgI l5
      have r22 := rgI l6
      refine sBind (s_X2_recall hN hK (by first | omega | decide) (by first | omega | decide)) (fun x63 b23 => ?_)
      have r24 := rgI x63.2.1
      have r25 := rgI x63.2.2.2.1
      have r26 := rgI x63.2.2.2.2.1
      have r27 := rgI x63.2.2.2.2.2
      have r28 := rgI l8
      refine sBind (s_X2_recall hN hK (by first | omega | decide) (by first | omega | decide)) (fun x81 b29 => ?_)
      have r30 := rgI (l5 - l8)
      have r31 := rgI ((l7 + x63.1) - x81.1)
      have t32 : (l9 + (-1 : Int32)).toInt = l9.toInt + (-1) := addL (by decide) (by omega) (by omega)
      have r33 := rgI x81.2.1
      have r34 := rgI x81.2.2.2.1
      have r35 := rgI x81.2.2.2.2.1
      have r36 := rgI x81.2.2.2.2.2
      exact ih _ _ _ _ _ _ _ _ _ _ _ (by omega) (by first | omega | decide) (by first | omega | decide) (by first | omega | decide) (by first | omega | decide) (by first | omega | decide) (by first | omega | decide) (by omega)
set_option maxHeartbeats 2000000 in
theorem s_X5_place_31 {N K : Nat} {sz : Int32} {f : Nat → Int32} {fd : Nat → Int32} {c0 : Int32} {c1 : Int32} {c2 : Int32} {c3 : Int32} {c4 : Int32} {c5 : Int32} {p0 : Int32} {p1 : Int32} (hN : NBig N) (hK : 100 ≤ K)  : ∀ (fu : Nat) (l5 : Int32) (l6 : Int32) (l7 : Int32) (l8 : Int32) (sz_ : Int32) (f_ : (Nat → Int32)) (c0_ : Int32) (c1_ : Int32) (c2_ : Int32) (c3_ : Int32), (l8.toInt - 0).toNat < fu → 0 ≤ p0.toInt → p0.toInt ≤ 2 → 0 ≤ p1.toInt → p1.toInt ≤ 1 → 0 ≤ l8.toInt → l8.toInt ≤ 20 → Sf (fX5_place_31 N K sz f fd c0 c1 c2 c3 c4 c5 p0 p1  fu l5 l6 l7 l8 sz_ f_ c0_ c1_ c2_ c3_) (xP true false (fun (z : Int32 × Int32 × (Nat → Int32) × Int32 × Int32 × Int32 × Int32) => True)) := by
  intro fu
  induction fu with
  | zero => intro l5 l6 l7 l8 sz_ f_ c0_ c1_ c2_ c3_ h0 hq0 hq1 hq2 hq3 hq4 hq5; omega
  | succ fu ih =>
    intro l5 l6 l7 l8 sz_ f_ c0_ c1_ c2_ c3_ h0 hq0 hq1 hq2 hq3 hq4 hq5
    unfold fX5_place_31
    have hN9 := hN.u
    have ql0 : (0 : Int32).toInt = 0 := by decide
    have ql1 : (1 : Int32).toInt = 1 := by decide
    refine sIf (fun h1 => ?_) (fun h1 => ?_)
    · have r2 := rgI l8
      have fh1 := ltT h1
      have r3 := rgI c0_
      have r4 := rgI c1_
      have r5 := rgI c2_
      have r6 := rgI c3_
      have r7 := rgI c4
      have r8 := rgI c5
      have r9 := rgI l7
      refine sBind (s_X5_acted hN hK) (fun x113 b10 => ?_)
      have r11 := rgI x113.1
      have r12 := rgI sz_
      have r13 := rgI x113.2
      exact sXl trivial
    · have r14 := rgI l8
      have fh1 := ltF h1
      refine sBind (s_X4_timesOf hN hK (by first | omega | decide) (by first | omega | decide)) (fun x41 b15 => ?_)
      have r16 := rgI l5
      have r17 := rgI l6
      have r18 := rgI l7
      have r19 := rgI x41
      have r20 := rgI sz_
      have r21 := rgI c0_
      have r22 := rgI c1_
      have r23 := rgI c2_
      have r24 := rgI c3_
      have z8 := M31_N hN x41
      exact s_X5_place_46 (hk_31 := ih) hN hK _ _ _ _ _ _ _ _ _ _ _ _ (by omega) (by first | omega | decide) (by first | omega | decide) (by first | omega | decide) (by first | omega | decide) (by first | omega | decide) (by first | omega | decide) (by omega)
set_option maxHeartbeats 2000000 in
theorem s_X5_place {N K : Nat} {sz : Int32} {f : Nat → Int32} {fd : Nat → Int32} {c0 : Int32} {c1 : Int32} {c2 : Int32} {c3 : Int32} {c4 : Int32} {c5 : Int32} {p0 : Int32} {p1 : Int32} (hN : NBig N) (hK : 100 ≤ K)  : Sf (fX5_place N K sz f fd c0 c1 c2 c3 c4 c5 p0 p1) (xP true false (fun (z : Int32 × Int32 × (Nat → Int32) × Int32 × Int32 × Int32 × Int32) => True)) := by
  unfold fX5_place
  have hN9 := hN.u
  have ql0 : (0 : Int32).toInt = 0 := by decide
  have ql20 : (20 : Int32).toInt = 20 := by decide
  have r1 := rgI p0
  refine sXb (s_X5_memoryAt hN hK) (by decide) (by decide) (fun x2 b2 => ?_)
  obtain ⟨b2_0, -⟩ := b2
  replace b2_0 : (0 ≤ p0.toInt ∧ p0.toInt ≤ 2) := b2_0
  have r3 := rgI p1
  refine sXb (s_X5_deskAt hN hK) (by decide) (by decide) (fun x8 b4 => ?_)
  obtain ⟨b4_0, -⟩ := b4
  replace b4_0 : (0 ≤ p1.toInt ∧ p1.toInt ≤ 1) := b4_0
  refine sBind (s_X4_sum hN hK) (fun x15 b5 => ?_)
  have r6 := rgI x15
  have r7 := rgI sz
  have r8 := rgI c0
  have r9 := rgI c1
  have r10 := rgI c2
  have r11 := rgI c3
  exact s_X5_place_31  hN hK _ _ _ _ _ _ _ _ _ _ _ (by omega) (by first | omega | decide) (by first | omega | decide) (by first | omega | decide) (by first | omega | decide) (by first | omega | decide) (by first | omega | decide)
set_option maxHeartbeats 2000000 in
theorem s_X5_learn {N K : Nat} {sz : Int32} {f : Nat → Int32} {c0 : Int32} {c1 : Int32} {c2 : Int32} {c3 : Int32} {c4 : Int32} {c5 : Int32} {g : Nat → Int32} {p0 : Int32} {p1 : Int32} {p2 : Int32} {p3 : Int32} (hN : NBig N) (hK : 100 ≤ K)  : Sf (fX5_learn N K sz f c0 c1 c2 c3 c4 c5 g p0 p1 p2 p3) (xP true true (fun (z : Int32 × Int32 × (Nat → Int32) × Int32 × Int32 × (Nat → Int32)) => True)) := by
  unfold fX5_learn
  have ql0 : (0 : Int32).toInt = 0 := by decide
  have ql1 : (1 : Int32).toInt = 1 := by decide
  have r1 := rgI p0
  refine sXb (s_X5_memoryAt hN hK) (by decide) (by decide) (fun x2 b2 => ?_)
  obtain ⟨b2_0, -⟩ := b2
  replace b2_0 : (0 ≤ p0.toInt ∧ p0.toInt ≤ 2) := b2_0
  have r3 := rgI p1
  have r4 := rgI p2
  have r5 := rgI p3
  refine sXb (s_X5_checkCase hN hK) (by decide) (by decide) (fun x11 b6 => ?_)
  obtain ⟨b6_0, b6_1, b6_2, -⟩ := b6
  replace b6_0 : (0 ≤ p1.toInt ∧ p1.toInt ≤ 5) := b6_0
  replace b6_1 : (0 ≤ p2.toInt ∧ p2.toInt ≤ 20) := b6_1
  replace b6_2 : (0 ≤ p3.toInt ∧ p3.toInt ≤ 20) := b6_2
  refine sBind (s_X5_rests hN hK) (fun x17 b7 => ?_)
  obtain ⟨b7_0, b7_1, b7_2, b7_3, -⟩ := b7
  replace b7_0 : 0 ≤ x17.toInt := b7_0
  replace b7_1 : x17.toInt ≤ 1 := b7_1
  replace b7_2 : (x17.toInt = 0 → (1 ≤ p2.toInt)) := b7_2
  replace b7_3 : (x17.toInt = 0 → p3.toInt ≠ 0) := b7_3
  refine sIf (fun h8 => ?_) (fun h8 => ?_)
  · have r9 := rgI x17
    have fh8 := eqT h8
    have r10 := rgI sz
    refine sBind (s_X2_keeps hN hK (by first | omega | decide) (by first | omega | decide) (by first | omega | decide) (by first | omega | decide) (by first | omega | decide) (by first | omega | decide)) (fun x34 b11 => ?_)
    obtain ⟨b11_0, b11_1, -⟩ := b11
    replace b11_0 : 0 ≤ x34.toInt := b11_0
    replace b11_1 : x34.toInt ≤ 1 := b11_1
    refine sIf (fun h12 => ?_) (fun h12 => ?_)
    · have r13 := rgI x34
      have fh12 := eqT h12
      refine sBind (s_X3_tells hN hK (by first | omega | decide) (by first | omega | decide) (by first | omega | decide) (by first | omega | decide) (by first | omega | decide) (by first | omega | decide)) (fun x60 b14 => ?_)
      have r15 := rgI x60.1
      refine sBind (s_X2_keep hN hK (by first | omega | decide) (by first | omega | decide) (by first | omega | decide)) (fun x63 b16 => ?_)
      have r17 := rgI c0
      have r18 := rgI c1
      have r19 := rgI c2
      have r20 := rgI c3
      have r21 := rgI c4
      have r22 := rgI c5
      refine sBind (s_X5_acted hN hK) (fun x68 b23 => ?_)
      have r24 := rgI x68.1
      have r25 := rgI x63.1
      have r26 := rgI x68.2
      exact sXl trivial
    · have r27 := rgI x34
      have fh12 := eqF h12
      have r28 := rgI c0
      have r29 := rgI c1
      have r30 := rgI c2
      have r31 := rgI c3
      have r32 := rgI c4
      have r33 := rgI c5
      refine sBind (s_X5_acted hN hK) (fun x42 b34 => ?_)
      have r35 := rgI x42.1
      have r36 := rgI x42.2
      exact sXl trivial
  · have r37 := rgI x17
    have fh8 := eqF h8
    have r38 := rgI c0
    have r39 := rgI c1
    have r40 := rgI c2
    have r41 := rgI c3
    have r42 := rgI c4
    have r43 := rgI c5
    refine sBind (s_X5_undone hN hK) (fun x24 b44 => ?_)
    obtain ⟨b44_0, b44_1, -⟩ := b44
    replace b44_0 : -9 ≤ x24.1.toInt := b44_0
    replace b44_1 : x24.1.toInt ≤ -9 := b44_1
    have r45 := rgI x24.1
    have r46 := rgI sz
    have r47 := rgI x24.2
    exact sXl trivial
set_option maxHeartbeats 2000000 in
theorem s_X5_relearn {N K : Nat} {sz : Int32} {f : Nat → Int32} {c0 : Int32} {c1 : Int32} {c2 : Int32} {c3 : Int32} {c4 : Int32} {c5 : Int32} {fw : Nat → Int32} {fs : Nat → Int32} {p0 : Int32} {p1 : Int32} {p2 : Int32} {p3 : Int32} (hN : NBig N) (hK : 100 ≤ K)  : Sf (fX5_relearn N K sz f c0 c1 c2 c3 c4 c5 fw fs p0 p1 p2 p3) (xP true true (fun (z : Int32 × Int32 × (Nat → Int32) × Int32 × Int32 × (Nat → Int32) × (Nat → Int32)) => True)) := by
  unfold fX5_relearn
  have ql0 : (0 : Int32).toInt = 0 := by decide
  have r1 := rgI p0
  refine sXb (s_X5_memoryAt hN hK) (by decide) (by decide) (fun x2 b2 => ?_)
  obtain ⟨b2_0, -⟩ := b2
  replace b2_0 : (0 ≤ p0.toInt ∧ p0.toInt ≤ 2) := b2_0
  have r3 := rgI p1
  have r4 := rgI p2
  have r5 := rgI p3
  refine sXb (s_X5_checkCase hN hK) (by decide) (by decide) (fun x11 b6 => ?_)
  obtain ⟨b6_0, b6_1, b6_2, -⟩ := b6
  replace b6_0 : (0 ≤ p1.toInt ∧ p1.toInt ≤ 5) := b6_0
  replace b6_1 : (0 ≤ p2.toInt ∧ p2.toInt ≤ 20) := b6_1
  replace b6_2 : (0 ≤ p3.toInt ∧ p3.toInt ≤ 20) := b6_2
  have r7 := rgI sz
  refine sBind (s_X2_keeps hN hK (by first | omega | decide) (by first | omega | decide) (by first | omega | decide) (by first | omega | decide) (by first | omega | decide) (by first | omega | decide)) (fun x20 b8 => ?_)
  obtain ⟨b8_0, b8_1, -⟩ := b8
  replace b8_0 : 0 ≤ x20.toInt := b8_0
  replace b8_1 : x20.toInt ≤ 1 := b8_1
  refine sIf (fun h9 => ?_) (fun h9 => ?_)
  · have r10 := rgI x20
    have fh9 := eqT h9
    have r11 := rgI c0
    have r12 := rgI c1
    have r13 := rgI c2
    have r14 := rgI c3
    have r15 := rgI c4
    have r16 := rgI c5
    refine sBind (s_X5_undone hN hK) (fun x27 b17 => ?_)
    obtain ⟨b17_0, b17_1, -⟩ := b17
    replace b17_0 : -9 ≤ x27.1.toInt := b17_0
    replace b17_1 : x27.1.toInt ≤ -9 := b17_1
    have r18 := rgI x27.1
    have r19 := rgI x27.2
    exact sXl trivial
  · have r20 := rgI x20
    have fh9 := eqF h9
    refine sBind (s_X5_waysOneByOne hN hK (by first | omega | decide) (by first | omega | decide) (by first | omega | decide) (by first | omega | decide) (by first | omega | decide) (by first | omega | decide)) (fun x36 b21 => ?_)
    have r22 := rgI x36.1
    refine sBind (s_X2_keep hN hK (by first | omega | decide) (by first | omega | decide) (by first | omega | decide)) (fun x49 b23 => ?_)
    have r24 := rgI c0
    have r25 := rgI c1
    have r26 := rgI c2
    have r27 := rgI c3
    have r28 := rgI c4
    have r29 := rgI c5
    refine sBind (s_X5_acted hN hK) (fun x55 b30 => ?_)
    have r31 := rgI x55.1
    have r32 := rgI x49.1
    have r33 := rgI x55.2
    exact sXl trivial
