set_option maxHeartbeats 2000000 in
theorem s_X2_measureOf {N K : Nat} {p0 : Int32} (hN : NBig N) (hK : 100 ≤ K) (hp0 : 0 ≤ p0.toInt) (hp1 : p0.toInt ≤ 2645) : Sf (fX2_measureOf N K p0) (fun (z : Int32) => 0 ≤ z.toInt ∧ z.toInt ≤ 20 ∧ True) := by
  unfold fX2_measureOf
  have ql0 : (0 : Int32).toInt = 0 := by decide
  have ql21 : (21 : Int32).toInt = 21 := by decide
  have r2 := rgI p0
  have t1 := modL (a := p0) (b := (21 : Int32)) ql21 (by omega)
  exact sRet ⟨(by show 0 ≤ (p0 % (21 : Int32)).toInt; omega), (by show (p0 % (21 : Int32)).toInt ≤ 20; omega), trivial⟩
set_option maxHeartbeats 2000000 in
theorem s_X2_codeOf {N K : Nat} {p0 : Int32} (hN : NBig N) (hK : 100 ≤ K) (hp0 : 0 ≤ p0.toInt) (hp1 : p0.toInt ≤ 2645) : Sf (fX2_codeOf N K p0) (fun (z : Int32) => 0 ≤ z.toInt ∧ z.toInt ≤ 6143 ∧ True) := by
  unfold fX2_codeOf
  have ql0 : (0 : Int32).toInt = 0 := by decide
  have ql32 : (32 : Int32).toInt = 32 := by decide
  have ql1024 : (1024 : Int32).toInt = 1024 := by decide
  have r1 := rgI p0
  refine sBind (s_X2_kindOf hN hK (by first | omega | decide) (by first | omega | decide)) (fun x1 b2 => ?_)
  obtain ⟨b2_0, b2_1, -⟩ := b2
  replace b2_0 : 0 ≤ x1.toInt := b2_0
  replace b2_1 : x1.toInt ≤ 5 := b2_1
  refine sBind (s_X2_numberOf hN hK (by first | omega | decide) (by first | omega | decide)) (fun x9 b3 => ?_)
  obtain ⟨b3_0, b3_1, -⟩ := b3
  replace b3_0 : 0 ≤ x9.toInt := b3_0
  replace b3_1 : x9.toInt ≤ 20 := b3_1
  refine sBind (s_X2_measureOf hN hK (by first | omega | decide) (by first | omega | decide)) (fun x17 b4 => ?_)
  obtain ⟨b4_0, b4_1, -⟩ := b4
  replace b4_0 : 0 ≤ x17.toInt := b4_0
  replace b4_1 : x17.toInt ≤ 20 := b4_1
  have r8 := rgI x1
  have t7 := mulR (a := x1) (b := (1024 : Int32)) ql1024 (by omega) (by omega)
  have r10 := rgI x9
  have t9 := mulR (a := x9) (b := (32 : Int32)) ql32 (by omega) (by omega)
  have t6 := addI (a := (x1 * (1024 : Int32))) (b := (x9 * (32 : Int32))) (by omega) (by omega)
  have r11 := rgI x17
  have t5 := addI (a := ((x1 * (1024 : Int32)) + (x9 * (32 : Int32)))) (b := x17) (by omega) (by omega)
  exact sRet ⟨(by show 0 ≤ (((x1 * (1024 : Int32)) + (x9 * (32 : Int32))) + x17).toInt; omega), (by show (((x1 * (1024 : Int32)) + (x9 * (32 : Int32))) + x17).toInt ≤ 6143; omega), trivial⟩
set_option maxHeartbeats 2000000 in
theorem s_X2_size {N K : Nat} {sz : Int32} {f : Nat → Int32} (hN : NBig N) (hK : 100 ≤ K)  : Sf (fX2_size N K sz f) (fun (z : Int32) => True) := by
  unfold fX2_size
  have ql0 : (0 : Int32).toInt = 0 := by decide
  have r1 := rgI sz
  exact sRet trivial
set_option maxHeartbeats 2000000 in
theorem s_X2_keptWorth {N K : Nat} {sz : Int32} {f : Nat → Int32} {p0 : Int32} {p1 : Int32} {p2 : Int32} (hN : NBig N) (hK : 100 ≤ K) (hp0 : 0 ≤ p0.toInt) (hp1 : p0.toInt ≤ 5) (hp2 : 0 ≤ p1.toInt) (hp3 : p1.toInt ≤ 20) (hp4 : 0 ≤ p2.toInt) (hp5 : p2.toInt ≤ 20) : Sf (fX2_keptWorth N K sz f p0 p1 p2) (fun (z : Int32) => True) := by
  unfold fX2_keptWorth
  have ql0 : (0 : Int32).toInt = 0 := by decide
  have r1 := rgI p0
  have r2 := rgI p1
  have r3 := rgI p2
  refine sBind (s_X2_slotOf hN hK (by first | omega | decide) (by first | omega | decide) (by first | omega | decide)) (fun x3 b4 => ?_)
  obtain ⟨b4_0, b4_1, -⟩ := b4
  replace b4_0 : -1 ≤ x3.toInt := b4_0
  replace b4_1 : x3.toInt ≤ 2645 := b4_1
  refine sIf (fun h5 => ?_) (fun h5 => ?_)
  · have r6 := rgI x3
    have fh5 := eqT h5
    rw [show (-1 : Int32).toInt = -1 from by decide] at fh5
    exact sRet trivial
  · have r7 := rgI x3
    have fh5 := eqF h5
    rw [show (-1 : Int32).toInt = -1 from by decide] at fh5
    refine sIfF (noob (by omega) (by omega)) ?_
    have r8 := rgI (f x3.toNatClampNeg)
    exact sRet trivial
set_option maxHeartbeats 2000000 in
theorem s_X2_keeps {N K : Nat} {sz : Int32} {f : Nat → Int32} {p0 : Int32} {p1 : Int32} {p2 : Int32} (hN : NBig N) (hK : 100 ≤ K) (hp0 : 0 ≤ p0.toInt) (hp1 : p0.toInt ≤ 5) (hp2 : 0 ≤ p1.toInt) (hp3 : p1.toInt ≤ 20) (hp4 : 0 ≤ p2.toInt) (hp5 : p2.toInt ≤ 20) : Sf (fX2_keeps N K sz f p0 p1 p2) (fun (z : Int32) => 0 ≤ z.toInt ∧ z.toInt ≤ 1 ∧ True) := by
  unfold fX2_keeps
  have ql0 : (0 : Int32).toInt = 0 := by decide
  have ql1 : (1 : Int32).toInt = 1 := by decide
  have r1 := rgI sz
  have r2 := rgI p0
  have r3 := rgI p1
  have r4 := rgI p2
  refine sBind (s_X2_keptWorth hN hK (by first | omega | decide) (by first | omega | decide) (by first | omega | decide) (by first | omega | decide) (by first | omega | decide) (by first | omega | decide)) (fun x4 b5 => ?_)
  refine sIf (fun h6 => ?_) (fun h6 => ?_)
  · have r7 := rgI x4
    have fh6 := eqT h6
    rw [show (-1 : Int32).toInt = -1 from by decide] at fh6
    exact sRet ⟨(by show 0 ≤ (0 : Int32).toInt; decide), (by show (0 : Int32).toInt ≤ 1; decide), trivial⟩
  · have r8 := rgI x4
    have fh6 := eqF h6
    rw [show (-1 : Int32).toInt = -1 from by decide] at fh6
    exact sRet ⟨(by show 0 ≤ (1 : Int32).toInt; decide), (by show (1 : Int32).toInt ≤ 1; decide), trivial⟩
set_option maxHeartbeats 2000000 in
theorem s_X2_keepsWith {N K : Nat} {sz : Int32} {f : Nat → Int32} {p0 : Int32} {p1 : Int32} {p2 : Int32} {p3 : Int32} (hN : NBig N) (hK : 100 ≤ K) (hp0 : 0 ≤ p0.toInt) (hp1 : p0.toInt ≤ 5) (hp2 : 0 ≤ p1.toInt) (hp3 : p1.toInt ≤ 20) (hp4 : 0 ≤ p2.toInt) (hp5 : p2.toInt ≤ 20) : Sf (fX2_keepsWith N K sz f p0 p1 p2 p3) (fun (z : Int32) => 0 ≤ z.toInt ∧ z.toInt ≤ 1 ∧ True) := by
  unfold fX2_keepsWith
  have ql0 : (0 : Int32).toInt = 0 := by decide
  have ql1 : (1 : Int32).toInt = 1 := by decide
  have r1 := rgI sz
  have r2 := rgI p0
  have r3 := rgI p1
  have r4 := rgI p2
  refine sBind (s_X2_keeps hN hK (by first | omega | decide) (by first | omega | decide) (by first | omega | decide) (by first | omega | decide) (by first | omega | decide) (by first | omega | decide)) (fun x4 b5 => ?_)
  obtain ⟨b5_0, b5_1, -⟩ := b5
  replace b5_0 : 0 ≤ x4.toInt := b5_0
  replace b5_1 : x4.toInt ≤ 1 := b5_1
  refine sIf (fun h6 => ?_) (fun h6 => ?_)
  · have r7 := rgI x4
    have fh6 := eqT h6
    exact sRet ⟨(by show 0 ≤ (0 : Int32).toInt; decide), (by show (0 : Int32).toInt ≤ 1; decide), trivial⟩
  · have r8 := rgI x4
    have fh6 := eqF h6
    refine sBind (s_X2_keptWorth hN hK (by first | omega | decide) (by first | omega | decide) (by first | omega | decide) (by first | omega | decide) (by first | omega | decide) (by first | omega | decide)) (fun x14 b9 => ?_)
    refine sIf (fun h10 => ?_) (fun h10 => ?_)
    · have r11 := rgI x14
      have r12 := rgI p3
      have fh10 := eqT h10
      exact sRet ⟨(by show 0 ≤ (1 : Int32).toInt; decide), (by show (1 : Int32).toInt ≤ 1; decide), trivial⟩
    · have r13 := rgI x14
      have r14 := rgI p3
      have fh10 := eqF h10
      exact sRet ⟨(by show 0 ≤ (0 : Int32).toInt; decide), (by show (0 : Int32).toInt ≤ 1; decide), trivial⟩
set_option maxHeartbeats 2000000 in
theorem s_X2_keep {N K : Nat} {sz : Int32} {f : Nat → Int32} {p0 : Int32} {p1 : Int32} {p2 : Int32} {p3 : Int32} (hN : NBig N) (hK : 100 ≤ K) (hp0 : 0 ≤ p0.toInt) (hp1 : p0.toInt ≤ 5) (hp2 : 0 ≤ p1.toInt) : Sf (fX2_keep N K sz f p0 p1 p2 p3) (fun (z : Int32 × (Nat → Int32)) => True) := by
  unfold fX2_keep
  have ql0 : (0 : Int32).toInt = 0 := by decide
  have r1 := rgI p0
  have r2 := rgI p1
  have r3 := rgI p2
  refine sBind (s_X2_slotOf hN hK (by first | omega | decide) (by first | omega | decide) (by first | omega | decide)) (fun x3 b4 => ?_)
  obtain ⟨b4_0, b4_1, -⟩ := b4
  replace b4_0 : -1 ≤ x3.toInt := b4_0
  replace b4_1 : x3.toInt ≤ 2645 := b4_1
  refine sIf (fun h5 => ?_) (fun h5 => ?_)
  · have r6 := rgI x3
    have fh5 := eqT h5
    rw [show (-1 : Int32).toInt = -1 from by decide] at fh5
    have r7 := rgI sz
    exact sRet trivial
  · have r8 := rgI x3
    have fh5 := eqF h5
    rw [show (-1 : Int32).toInt = -1 from by decide] at fh5
    refine sIfF (noob (by omega) (by omega)) ?_
    refine sIf (fun h9 => ?_) (fun h9 => ?_)
    · have r10 := rgI (f x3.toNatClampNeg)
      have fh9 := eqT h9
      rw [show (-1 : Int32).toInt = -1 from by decide] at fh9
      refine sIfF (noob (by omega) (by omega)) ?_
      have r11 := rgI (sz + (1 : Int32))
      exact sRet trivial
    · have r12 := rgI (f x3.toNatClampNeg)
      have fh9 := eqF h9
      rw [show (-1 : Int32).toInt = -1 from by decide] at fh9
      refine sIfF (noob (by omega) (by omega)) ?_
      have r13 := rgI sz
      exact sRet trivial
set_option maxHeartbeats 2000000 in
theorem s_X2_drop {N K : Nat} {sz : Int32} {f : Nat → Int32} {p0 : Int32} {p1 : Int32} {p2 : Int32} (hN : NBig N) (hK : 100 ≤ K) (hp0 : 0 ≤ p0.toInt) (hp1 : p0.toInt ≤ 5) (hp2 : 0 ≤ p1.toInt) (hp3 : p1.toInt ≤ 20) (hp4 : 0 ≤ p2.toInt) (hp5 : p2.toInt ≤ 20) : Sf (fX2_drop N K sz f p0 p1 p2) (fun (z : Int32 × (Nat → Int32)) => True) := by
  unfold fX2_drop
  have ql0 : (0 : Int32).toInt = 0 := by decide
  have r1 := rgI p0
  have r2 := rgI p1
  have r3 := rgI p2
  refine sBind (s_X2_slotOf hN hK (by first | omega | decide) (by first | omega | decide) (by first | omega | decide)) (fun x3 b4 => ?_)
  obtain ⟨b4_0, b4_1, -⟩ := b4
  replace b4_0 : -1 ≤ x3.toInt := b4_0
  replace b4_1 : x3.toInt ≤ 2645 := b4_1
  refine sIf (fun h5 => ?_) (fun h5 => ?_)
  · have r6 := rgI x3
    have fh5 := eqT h5
    rw [show (-1 : Int32).toInt = -1 from by decide] at fh5
    have r7 := rgI sz
    exact sRet trivial
  · have r8 := rgI x3
    have fh5 := eqF h5
    rw [show (-1 : Int32).toInt = -1 from by decide] at fh5
    refine sIfF (noob (by omega) (by omega)) ?_
    refine sIf (fun h9 => ?_) (fun h9 => ?_)
    · have r10 := rgI (f x3.toNatClampNeg)
      have fh9 := eqT h9
      rw [show (-1 : Int32).toInt = -1 from by decide] at fh9
      have r11 := rgI sz
      exact sRet trivial
    · have r12 := rgI (f x3.toNatClampNeg)
      have fh9 := eqF h9
      rw [show (-1 : Int32).toInt = -1 from by decide] at fh9
      refine sIfF (noob (by omega) (by omega)) ?_
      have r13 := rgI (sz - (1 : Int32))
      exact sRet trivial
set_option maxHeartbeats 2000000 in
theorem s_X2_aspect {N K : Nat} {sz : Int32} {f : Nat → Int32} {p0 : Int32} {p1 : Int32} (hN : NBig N) (hK : 100 ≤ K) (hp0 : 0 ≤ p0.toInt) (hp1 : p0.toInt ≤ 2645) (hp2 : 0 ≤ p1.toInt) (hp3 : p1.toInt ≤ 3) : Sf (fX2_aspect N K sz f p0 p1) (fun (z : Int32) => True) := by
  unfold fX2_aspect
  have ql0 : (0 : Int32).toInt = 0 := by decide
  have ql1 : (1 : Int32).toInt = 1 := by decide
  have ql2 : (2 : Int32).toInt = 2 := by decide
  have ql2646 : (2646 : Int32).toInt = 2646 := by decide
  refine sIf (fun h1 => ?_) (fun h1 => ?_)
  · have r2 := rgI p1
    have fh1 := eqT h1
    have r3 := rgI p0
    refine sBind (s_X2_kindOf hN hK (by first | omega | decide) (by first | omega | decide)) (fun x29 b4 => ?_)
    obtain ⟨b4_0, b4_1, -⟩ := b4
    replace b4_0 : 0 ≤ x29.toInt := b4_0
    replace b4_1 : x29.toInt ≤ 5 := b4_1
    have r5 := rgI x29
    exact sRet trivial
  · have r6 := rgI p1
    have fh1 := eqF h1
    refine sIf (fun h7 => ?_) (fun h7 => ?_)
    · have fh7 := eqT h7
      have r8 := rgI p0
      refine sBind (s_X2_numberOf hN hK (by first | omega | decide) (by first | omega | decide)) (fun x34 b9 => ?_)
      obtain ⟨b9_0, b9_1, -⟩ := b9
      replace b9_0 : 0 ≤ x34.toInt := b9_0
      replace b9_1 : x34.toInt ≤ 20 := b9_1
      have r10 := rgI x34
      exact sRet trivial
    · have fh7 := eqF h7
      refine sIf (fun h11 => ?_) (fun h11 => ?_)
      · have fh11 := eqT h11
        have r12 := rgI p0
        refine sBind (s_X2_measureOf hN hK (by first | omega | decide) (by first | omega | decide)) (fun x39 b13 => ?_)
        obtain ⟨b13_0, b13_1, -⟩ := b13
        replace b13_0 : 0 ≤ x39.toInt := b13_0
        replace b13_1 : x39.toInt ≤ 20 := b13_1
        have r14 := rgI x39
        exact sRet trivial
      · have fh11 := eqF h11
        refine sIf (fun h15 => ?_) (fun h15 => ?_)
        · have r16 := rgI p0
          have fh15 := ltT h15
          exfalso; omega
        · have r17 := rgI p0
          have fh15 := ltF h15
          refine sIf (fun h18 => ?_) (fun h18 => ?_)
          · have fh18 := ltT h18
            refine sIfF (noob (by omega) (by omega)) ?_
            have r19 := rgI (f p0.toNatClampNeg)
            exact sRet trivial
          · have fh18 := ltF h18
            exfalso; omega
set_option maxHeartbeats 2000000 in
theorem s_X2_dropEach_46 {N K : Nat} {sz : Int32} {f : Nat → Int32} {p0 : Int32} {p1 : Int32} (hN : NBig N) (hK : 100 ≤ K) (hp0 : 0 ≤ p0.toInt) (hp1 : p0.toInt ≤ 3) {k_5 : Int32 → Int32 → Int32 → (Nat → Int32) → Option (Int32 × Int32 × (Nat → Int32))} {m_5 : Nat} (hk_5 : ∀ (l3 : Int32) (l4 : Int32) (sz_ : Int32) (f_ : (Nat → Int32)), (2646 - l4.toInt).toNat < m_5 → 0 ≤ l4.toInt → l4.toInt ≤ 2646 → Sf (k_5 l3 l4 sz_ f_) (fun (z : Int32 × Int32 × (Nat → Int32)) => True)) : ∀ (l3 : Int32) (l4 : Int32) (sz_ : Int32) (f_ : Nat → Int32), 0 ≤ l4.toInt → l4.toInt ≤ 2645 → (2646 - l4.toInt).toNat ≤ m_5 → Sf (fX2_dropEach_46 N K sz f p0 p1 k_5 l3 l4 sz_ f_) (fun (z : Int32 × Int32 × (Nat → Int32)) => True) := by
  intro l3 l4 sz_ f_ hq0 hq1 hq2
  unfold fX2_dropEach_46
  have ql0 : (0 : Int32).toInt = 0 := by decide
  have ql1 : (1 : Int32).toInt = 1 := by decide
  have r1 := rgI l3
  have r3 := rgI l4
  have t2 := addI (a := l4) (b := (1 : Int32)) (by omega) (by omega)
  have r4 := rgI sz_
  exact hk_5 _ _ _ _ (by omega) (by first | omega | decide) (by first | omega | decide)
set_option maxHeartbeats 2000000 in
theorem s_X2_dropEach_5 {N K : Nat} {sz : Int32} {f : Nat → Int32} {p0 : Int32} {p1 : Int32} (hN : NBig N) (hK : 100 ≤ K) (hp0 : 0 ≤ p0.toInt) (hp1 : p0.toInt ≤ 3) : ∀ (fu : Nat) (l3 : Int32) (l4 : Int32) (sz_ : Int32) (f_ : (Nat → Int32)), (2646 - l4.toInt).toNat < fu → 0 ≤ l4.toInt → l4.toInt ≤ 2646 → Sf (fX2_dropEach_5 N K sz f p0 p1  fu l3 l4 sz_ f_) (fun (z : Int32 × Int32 × (Nat → Int32)) => True) := by
  intro fu
  induction fu with
  | zero => intro l3 l4 sz_ f_ h0 hq0 hq1; omega
  | succ fu ih =>
    intro l3 l4 sz_ f_ h0 hq0 hq1
    unfold fX2_dropEach_5
    have ql0 : (0 : Int32).toInt = 0 := by decide
    have ql2646 : (2646 : Int32).toInt = 2646 := by decide
    refine sIf (fun h1 => ?_) (fun h1 => ?_)
    · have r2 := rgI l4
      have fh1 := leT h1
      have r3 := rgI l3
      have r4 := rgI (sz_ - l3)
      exact sRet trivial
    · have r5 := rgI l4
      have fh1 := leF h1
      refine sIfF (noob (by omega) (by omega)) ?_
      refine sIf (fun h6 => ?_) (fun h6 => ?_)
      · have r7 := rgI (f_ l4.toNatClampNeg)
        have fh6 := eqT h6
        rw [show (-1 : Int32).toInt = -1 from by decide] at fh6
        have r8 := rgI l3
        have r9 := rgI sz_
        exact s_X2_dropEach_46 (hk_5 := ih) hN hK (by omega) (by omega) _ _ _ _ (by first | omega | decide) (by first | omega | decide) (by omega)
      · have r10 := rgI (f_ l4.toNatClampNeg)
        have fh6 := eqF h6
        rw [show (-1 : Int32).toInt = -1 from by decide] at fh6
        have r11 := rgI sz_
        have r12 := rgI p0
        refine sBind (s_X2_aspect hN hK (by first | omega | decide) (by first | omega | decide) (by first | omega | decide) (by first | omega | decide)) (fun x28 b13 => ?_)
        refine sIf (fun h14 => ?_) (fun h14 => ?_)
        · have r15 := rgI x28
          have r16 := rgI p1
          have fh14 := eqT h14
          refine sIfF (noob (by omega) (by omega)) ?_
          have r17 := rgI (l3 + (1 : Int32))
          exact s_X2_dropEach_46 (hk_5 := ih) hN hK (by omega) (by omega) _ _ _ _ (by first | omega | decide) (by first | omega | decide) (by omega)
        · have r18 := rgI x28
          have r19 := rgI p1
          have fh14 := eqF h14
          have r20 := rgI l3
          exact s_X2_dropEach_46 (hk_5 := ih) hN hK (by omega) (by omega) _ _ _ _ (by first | omega | decide) (by first | omega | decide) (by omega)
set_option maxHeartbeats 2000000 in
theorem s_X2_dropEach {N K : Nat} {sz : Int32} {f : Nat → Int32} {p0 : Int32} {p1 : Int32} (hN : NBig N) (hK : 100 ≤ K) (hp0 : 0 ≤ p0.toInt) (hp1 : p0.toInt ≤ 3) : Sf (fX2_dropEach N K sz f p0 p1) (fun (z : Int32 × Int32 × (Nat → Int32)) => True) := by
  unfold fX2_dropEach
  have hN9 := hN.u
  have ql0 : (0 : Int32).toInt = 0 := by decide
  have r1 := rgI sz
  exact s_X2_dropEach_5  hN hK (by omega) (by omega) _ _ _ _ _ (by omega) (by first | omega | decide) (by first | omega | decide)
set_option maxHeartbeats 2000000 in
theorem s_X2_dropAll {N K : Nat} {sz : Int32} {f : Nat → Int32} (hN : NBig N) (hK : 100 ≤ K)  : Sf (fX2_dropAll N K sz f) (fun (z : Int32 × Int32 × (Nat → Int32)) => 0 ≤ z.2.1.toInt ∧ z.2.1.toInt ≤ 0 ∧ True) := by
  unfold fX2_dropAll
  have ql0 : (0 : Int32).toInt = 0 := by decide
  refine sBind (s_J_fill hN hK (by first | omega | decide)) (fun x10 b1 => ?_)
  have r2 := rgI sz
  exact sRet ⟨(by show 0 ≤ (0 : Int32).toInt; decide), (by show (0 : Int32).toInt ≤ 0; decide), trivial⟩
set_option maxHeartbeats 2000000 in
theorem s_X2_howMany_38 {N K : Nat} {sz : Int32} {f : Nat → Int32} {p0 : Int32} {p1 : Int32} (hN : NBig N) (hK : 100 ≤ K) (hp0 : 0 ≤ p0.toInt) (hp1 : p0.toInt ≤ 3) {k_5 : Int32 → Int32 → Option (Int32)} {m_5 : Nat} (hk_5 : ∀ (l3 : Int32) (l4 : Int32), (2646 - l4.toInt).toNat < m_5 → 0 ≤ l4.toInt → l4.toInt ≤ 2646 → Sf (k_5 l3 l4) (fun (z : Int32) => True)) : ∀ (l3 : Int32) (l4 : Int32), 0 ≤ l4.toInt → l4.toInt ≤ 2645 → (2646 - l4.toInt).toNat ≤ m_5 → Sf (fX2_howMany_38 N K sz f p0 p1 k_5 l3 l4) (fun (z : Int32) => True) := by
  intro l3 l4 hq0 hq1 hq2
  unfold fX2_howMany_38
  have ql0 : (0 : Int32).toInt = 0 := by decide
  have ql1 : (1 : Int32).toInt = 1 := by decide
  have r1 := rgI l3
  have r3 := rgI l4
  have t2 := addI (a := l4) (b := (1 : Int32)) (by omega) (by omega)
  exact hk_5 _ _ (by omega) (by first | omega | decide) (by first | omega | decide)
set_option maxHeartbeats 2000000 in
theorem s_X2_howMany_5 {N K : Nat} {sz : Int32} {f : Nat → Int32} {p0 : Int32} {p1 : Int32} (hN : NBig N) (hK : 100 ≤ K) (hp0 : 0 ≤ p0.toInt) (hp1 : p0.toInt ≤ 3) : ∀ (fu : Nat) (l3 : Int32) (l4 : Int32), (2646 - l4.toInt).toNat < fu → 0 ≤ l4.toInt → l4.toInt ≤ 2646 → Sf (fX2_howMany_5 N K sz f p0 p1  fu l3 l4) (fun (z : Int32) => True) := by
  intro fu
  induction fu with
  | zero => intro l3 l4 h0 hq0 hq1; omega
  | succ fu ih =>
    intro l3 l4 h0 hq0 hq1
    unfold fX2_howMany_5
    have ql0 : (0 : Int32).toInt = 0 := by decide
    have ql2646 : (2646 : Int32).toInt = 2646 := by decide
    refine sIf (fun h1 => ?_) (fun h1 => ?_)
    · have r2 := rgI l4
      have fh1 := leT h1
      have r3 := rgI l3
      exact sRet trivial
    · have r4 := rgI l4
      have fh1 := leF h1
      refine sIfF (noob (by omega) (by omega)) ?_
      refine sIf (fun h5 => ?_) (fun h5 => ?_)
      · have r6 := rgI (f l4.toNatClampNeg)
        have fh5 := eqT h5
        rw [show (-1 : Int32).toInt = -1 from by decide] at fh5
        have r7 := rgI l3
        exact s_X2_howMany_38 (hk_5 := ih) hN hK (by omega) (by omega) _ _ (by first | omega | decide) (by first | omega | decide) (by omega)
      · have r8 := rgI (f l4.toNatClampNeg)
        have fh5 := eqF h5
        rw [show (-1 : Int32).toInt = -1 from by decide] at fh5
        have r9 := rgI sz
        have r10 := rgI p0
        refine sBind (s_X2_aspect hN hK (by first | omega | decide) (by first | omega | decide) (by first | omega | decide) (by first | omega | decide)) (fun x28 b11 => ?_)
        refine sIf (fun h12 => ?_) (fun h12 => ?_)
        · have r13 := rgI x28
          have r14 := rgI p1
          have fh12 := eqT h12
          have r15 := rgI (l3 + (1 : Int32))
          exact s_X2_howMany_38 (hk_5 := ih) hN hK (by omega) (by omega) _ _ (by first | omega | decide) (by first | omega | decide) (by omega)
        · have r16 := rgI x28
          have r17 := rgI p1
          have fh12 := eqF h12
          have r18 := rgI l3
          exact s_X2_howMany_38 (hk_5 := ih) hN hK (by omega) (by omega) _ _ (by first | omega | decide) (by first | omega | decide) (by omega)
set_option maxHeartbeats 2000000 in
theorem s_X2_howMany {N K : Nat} {sz : Int32} {f : Nat → Int32} {p0 : Int32} {p1 : Int32} (hN : NBig N) (hK : 100 ≤ K) (hp0 : 0 ≤ p0.toInt) (hp1 : p0.toInt ≤ 3) : Sf (fX2_howMany N K sz f p0 p1) (fun (z : Int32) => True) := by
  unfold fX2_howMany
  have hN9 := hN.u
  have ql0 : (0 : Int32).toInt = 0 := by decide
  exact s_X2_howMany_5  hN hK (by omega) (by omega) _ _ _ (by omega) (by first | omega | decide) (by first | omega | decide)
set_option maxHeartbeats 2000000 in
theorem s_X2_mark_35 {N K : Nat} {sz : Int32} {f : Nat → Int32} (hN : NBig N) (hK : 100 ≤ K)  {k_4 : Int32 → Int32 → Option (Int32)} {m_4 : Nat} (hk_4 : ∀ (l1 : Int32) (l2 : Int32), (2646 - l2.toInt).toNat < m_4 → 0 ≤ l2.toInt → l2.toInt ≤ 2646 → Sf (k_4 l1 l2) (fun (z : Int32) => True)) : ∀ (l1 : Int32) (l2 : Int32), 0 ≤ l2.toInt → l2.toInt ≤ 2645 → (2646 - l2.toInt).toNat ≤ m_4 → Sf (fX2_mark_35 N K sz f k_4 l1 l2) (fun (z : Int32) => True) := by
  intro l1 l2 hq0 hq1 hq2
  unfold fX2_mark_35
  have ql0 : (0 : Int32).toInt = 0 := by decide
  have ql1 : (1 : Int32).toInt = 1 := by decide
  have r1 := rgI l1
  have r3 := rgI l2
  have t2 := addI (a := l2) (b := (1 : Int32)) (by omega) (by omega)
  exact hk_4 _ _ (by omega) (by first | omega | decide) (by first | omega | decide)
set_option maxHeartbeats 2000000 in
theorem s_X2_mark_4 {N K : Nat} {sz : Int32} {f : Nat → Int32} (hN : NBig N) (hK : 100 ≤ K)  : ∀ (fu : Nat) (l1 : Int32) (l2 : Int32), (2646 - l2.toInt).toNat < fu → 0 ≤ l2.toInt → l2.toInt ≤ 2646 → Sf (fX2_mark_4 N K sz f  fu l1 l2) (fun (z : Int32) => True) := by
  intro fu
  induction fu with
  | zero => intro l1 l2 h0 hq0 hq1; omega
  | succ fu ih =>
    intro l1 l2 h0 hq0 hq1
    unfold fX2_mark_4
    have ql0 : (0 : Int32).toInt = 0 := by decide
    have ql2646 : (2646 : Int32).toInt = 2646 := by decide
    refine sIf (fun h1 => ?_) (fun h1 => ?_)
    · have r2 := rgI l2
      have fh1 := leT h1
      have r3 := rgI l1
      exact sRet trivial
    · have r4 := rgI l2
      have fh1 := leF h1
      refine sIfF (noob (by omega) (by omega)) ?_
      refine sIf (fun h5 => ?_) (fun h5 => ?_)
      · have r6 := rgI (f l2.toNatClampNeg)
        have fh5 := eqT h5
        rw [show (-1 : Int32).toInt = -1 from by decide] at fh5
        have r7 := rgI l1
        exact s_X2_mark_35 (hk_4 := ih) hN hK _ _ (by first | omega | decide) (by first | omega | decide) (by omega)
      · have r8 := rgI (f l2.toNatClampNeg)
        have fh5 := eqF h5
        rw [show (-1 : Int32).toInt = -1 from by decide] at fh5
        refine sBind (s_X2_codeOf hN hK (by first | omega | decide) (by first | omega | decide)) (fun x23 b9 => ?_)
        obtain ⟨b9_0, b9_1, -⟩ := b9
        replace b9_0 : 0 ≤ x23.toInt := b9_0
        replace b9_1 : x23.toInt ≤ 6143 := b9_1
        refine sIfF (noob (by omega) (by omega)) ?_
        have r10 := rgI (l1 + (x23 ^^^ (f l2.toNatClampNeg)))
        exact s_X2_mark_35 (hk_4 := ih) hN hK _ _ (by first | omega | decide) (by first | omega | decide) (by omega)
set_option maxHeartbeats 2000000 in
theorem s_X2_mark {N K : Nat} {sz : Int32} {f : Nat → Int32} (hN : NBig N) (hK : 100 ≤ K)  : Sf (fX2_mark N K sz f) (fun (z : Int32) => True) := by
  unfold fX2_mark
  have hN9 := hN.u
  have ql0 : (0 : Int32).toInt = 0 := by decide
  exact s_X2_mark_4  hN hK _ _ _ (by omega) (by first | omega | decide) (by first | omega | decide)
set_option maxHeartbeats 2000000 in
theorem s_X2_sumOfWorths_30 {N K : Nat} {sz : Int32} {f : Nat → Int32} (hN : NBig N) (hK : 100 ≤ K)  {k_4 : Int32 → Int32 → Option (Int32)} {m_4 : Nat} (hk_4 : ∀ (l1 : Int32) (l2 : Int32), (2646 - l2.toInt).toNat < m_4 → 0 ≤ l2.toInt → l2.toInt ≤ 2646 → Sf (k_4 l1 l2) (fun (z : Int32) => True)) : ∀ (l1 : Int32) (l2 : Int32), 0 ≤ l2.toInt → l2.toInt ≤ 2645 → (2646 - l2.toInt).toNat ≤ m_4 → Sf (fX2_sumOfWorths_30 N K sz f k_4 l1 l2) (fun (z : Int32) => True) := by
  intro l1 l2 hq0 hq1 hq2
  unfold fX2_sumOfWorths_30
  have ql0 : (0 : Int32).toInt = 0 := by decide
  have ql1 : (1 : Int32).toInt = 1 := by decide
  have r1 := rgI l1
  have r3 := rgI l2
  have t2 := addI (a := l2) (b := (1 : Int32)) (by omega) (by omega)
  exact hk_4 _ _ (by omega) (by first | omega | decide) (by first | omega | decide)
set_option maxHeartbeats 2000000 in
theorem s_X2_sumOfWorths_4 {N K : Nat} {sz : Int32} {f : Nat → Int32} (hN : NBig N) (hK : 100 ≤ K)  : ∀ (fu : Nat) (l1 : Int32) (l2 : Int32), (2646 - l2.toInt).toNat < fu → 0 ≤ l2.toInt → l2.toInt ≤ 2646 → Sf (fX2_sumOfWorths_4 N K sz f  fu l1 l2) (fun (z : Int32) => True) := by
  intro fu
  induction fu with
  | zero => intro l1 l2 h0 hq0 hq1; omega
  | succ fu ih =>
    intro l1 l2 h0 hq0 hq1
    unfold fX2_sumOfWorths_4
    have ql0 : (0 : Int32).toInt = 0 := by decide
    have ql2646 : (2646 : Int32).toInt = 2646 := by decide
    refine sIf (fun h1 => ?_) (fun h1 => ?_)
    · have r2 := rgI l2
      have fh1 := leT h1
      have r3 := rgI l1
      exact sRet trivial
    · have r4 := rgI l2
      have fh1 := leF h1
      refine sIfF (noob (by omega) (by omega)) ?_
      refine sIf (fun h5 => ?_) (fun h5 => ?_)
      · have r6 := rgI (f l2.toNatClampNeg)
        have fh5 := eqT h5
        rw [show (-1 : Int32).toInt = -1 from by decide] at fh5
        have r7 := rgI l1
        exact s_X2_sumOfWorths_30 (hk_4 := ih) hN hK _ _ (by first | omega | decide) (by first | omega | decide) (by omega)
      · have r8 := rgI (f l2.toNatClampNeg)
        have fh5 := eqF h5
        rw [show (-1 : Int32).toInt = -1 from by decide] at fh5
        refine sIfF (noob (by omega) (by omega)) ?_
        have r9 := rgI (l1 + (f l2.toNatClampNeg))
        exact s_X2_sumOfWorths_30 (hk_4 := ih) hN hK _ _ (by first | omega | decide) (by first | omega | decide) (by omega)
set_option maxHeartbeats 2000000 in
theorem s_X2_sumOfWorths {N K : Nat} {sz : Int32} {f : Nat → Int32} (hN : NBig N) (hK : 100 ≤ K)  : Sf (fX2_sumOfWorths N K sz f) (fun (z : Int32) => True) := by
  unfold fX2_sumOfWorths
  have hN9 := hN.u
  have ql0 : (0 : Int32).toInt = 0 := by decide
  exact s_X2_sumOfWorths_4  hN hK _ _ _ (by omega) (by first | omega | decide) (by first | omega | decide)
set_option maxHeartbeats 2000000 in
theorem s_X2_isWellCounted_40 {N K : Nat} {sz : Int32} {f : Nat → Int32} (hN : NBig N) (hK : 100 ≤ K)  {k_4 : Int32 → Int32 → Option (Int32)} {m_4 : Nat} (hk_4 : ∀ (l1 : Int32) (l2 : Int32), (2646 - l2.toInt).toNat < m_4 → 0 ≤ l2.toInt → l2.toInt ≤ 2646 → Sf (k_4 l1 l2) (fun (z : Int32) => 0 ≤ z.toInt ∧ z.toInt ≤ 1 ∧ True)) : ∀ (l1 : Int32) (l2 : Int32), 0 ≤ l2.toInt → l2.toInt ≤ 2645 → (2646 - l2.toInt).toNat ≤ m_4 → Sf (fX2_isWellCounted_40 N K sz f k_4 l1 l2) (fun (z : Int32) => 0 ≤ z.toInt ∧ z.toInt ≤ 1 ∧ True) := by
  intro l1 l2 hq0 hq1 hq2
  unfold fX2_isWellCounted_40
  have ql0 : (0 : Int32).toInt = 0 := by decide
  have ql1 : (1 : Int32).toInt = 1 := by decide
  have r1 := rgI l1
  have r3 := rgI l2
  have t2 := addI (a := l2) (b := (1 : Int32)) (by omega) (by omega)
  exact hk_4 _ _ (by omega) (by first | omega | decide) (by first | omega | decide)
set_option maxHeartbeats 2000000 in
theorem s_X2_isWellCounted_4 {N K : Nat} {sz : Int32} {f : Nat → Int32} (hN : NBig N) (hK : 100 ≤ K)  : ∀ (fu : Nat) (l1 : Int32) (l2 : Int32), (2646 - l2.toInt).toNat < fu → 0 ≤ l2.toInt → l2.toInt ≤ 2646 → Sf (fX2_isWellCounted_4 N K sz f  fu l1 l2) (fun (z : Int32) => 0 ≤ z.toInt ∧ z.toInt ≤ 1 ∧ True) := by
  intro fu
  induction fu with
  | zero => intro l1 l2 h0 hq0 hq1; omega
  | succ fu ih =>
    intro l1 l2 h0 hq0 hq1
    unfold fX2_isWellCounted_4
    have ql0 : (0 : Int32).toInt = 0 := by decide
    have ql1 : (1 : Int32).toInt = 1 := by decide
    have ql2646 : (2646 : Int32).toInt = 2646 := by decide
    refine sIf (fun h1 => ?_) (fun h1 => ?_)
    · have r2 := rgI l2
      have fh1 := leT h1
      refine sIf (fun h3 => ?_) (fun h3 => ?_)
      · have r4 := rgI l1
        have r5 := rgI sz
        have fh3 := eqT h3
        exact sRet ⟨(by show 0 ≤ (1 : Int32).toInt; decide), (by show (1 : Int32).toInt ≤ 1; decide), trivial⟩
      · have r6 := rgI l1
        have r7 := rgI sz
        have fh3 := eqF h3
        exact sRet ⟨(by show 0 ≤ (0 : Int32).toInt; decide), (by show (0 : Int32).toInt ≤ 1; decide), trivial⟩
    · have r8 := rgI l2
      have fh1 := leF h1
      refine sIfF (noob (by omega) (by omega)) ?_
      refine sIf (fun h9 => ?_) (fun h9 => ?_)
      · have r10 := rgI (f l2.toNatClampNeg)
        have fh9 := eqT h9
        rw [show (-1 : Int32).toInt = -1 from by decide] at fh9
        have r11 := rgI l1
        exact s_X2_isWellCounted_40 (hk_4 := ih) hN hK _ _ (by first | omega | decide) (by first | omega | decide) (by omega)
      · have r12 := rgI (f l2.toNatClampNeg)
        have fh9 := eqF h9
        rw [show (-1 : Int32).toInt = -1 from by decide] at fh9
        refine sBind (s_X2_numberOf hN hK (by first | omega | decide) (by first | omega | decide)) (fun x22 b13 => ?_)
        obtain ⟨b13_0, b13_1, -⟩ := b13
        replace b13_0 : 0 ≤ x22.toInt := b13_0
        replace b13_1 : x22.toInt ≤ 20 := b13_1
        refine sBind (s_X2_measureOf hN hK (by first | omega | decide) (by first | omega | decide)) (fun x26 b14 => ?_)
        obtain ⟨b14_0, b14_1, -⟩ := b14
        replace b14_0 : 0 ≤ x26.toInt := b14_0
        replace b14_1 : x26.toInt ≤ 20 := b14_1
        have r15 := rgI x22
        have r16 := rgI x26
        refine sBind (s_X5_rests hN hK) (fun x29 b17 => ?_)
        obtain ⟨b17_0, b17_1, b17_2, b17_3, -⟩ := b17
        replace b17_0 : 0 ≤ x29.toInt := b17_0
        replace b17_1 : x29.toInt ≤ 1 := b17_1
        replace b17_2 : (x29.toInt = 0 → (1 ≤ x22.toInt)) := b17_2
        replace b17_3 : (x29.toInt = 0 → x26.toInt ≠ 0) := b17_3
        refine sIf (fun h18 => ?_) (fun h18 => ?_)
        · have r19 := rgI x29
          have fh18 := eqT h18
          have r20 := rgI (l1 + (1 : Int32))
          exact s_X2_isWellCounted_40 (hk_4 := ih) hN hK _ _ (by first | omega | decide) (by first | omega | decide) (by omega)
        · have r21 := rgI x29
          have fh18 := eqF h18
          exact sRet ⟨(by show 0 ≤ (0 : Int32).toInt; decide), (by show (0 : Int32).toInt ≤ 1; decide), trivial⟩
set_option maxHeartbeats 2000000 in
theorem s_X2_isWellCounted {N K : Nat} {sz : Int32} {f : Nat → Int32} (hN : NBig N) (hK : 100 ≤ K)  : Sf (fX2_isWellCounted N K sz f) (fun (z : Int32) => 0 ≤ z.toInt ∧ z.toInt ≤ 1 ∧ True) := by
  unfold fX2_isWellCounted
  have hN9 := hN.u
  have ql0 : (0 : Int32).toInt = 0 := by decide
  exact s_X2_isWellCounted_4  hN hK _ _ _ (by omega) (by first | omega | decide) (by first | omega | decide)
set_option maxHeartbeats 2000000 in
theorem s_X2_become {N K : Nat} {sz : Int32} {f : Nat → Int32} {tz : Int32} {g : Nat → Int32} (hN : NBig N) (hK : 100 ≤ K)  : Sf (fX2_become N K sz f tz g) (fun (z : Int32 × (Nat → Int32)) => True) := by
  unfold fX2_become
  have ql0 : (0 : Int32).toInt = 0 := by decide
  have r1 := rgI tz
  exact sRet trivial
set_option maxHeartbeats 2000000 in
theorem s_X2_takeIn_46 {N K : Nat} {sz : Int32} {f : Nat → Int32} {tz : Int32} {g : Nat → Int32} (hN : NBig N) (hK : 100 ≤ K)  {k_4 : Int32 → Int32 → Int32 → (Nat → Int32) → Option (Int32 × Int32 × (Nat → Int32))} {m_4 : Nat} (hk_4 : ∀ (l2 : Int32) (l3 : Int32) (sz_ : Int32) (f_ : (Nat → Int32)), (2646 - l3.toInt).toNat < m_4 → 0 ≤ l3.toInt → l3.toInt ≤ 2646 → Sf (k_4 l2 l3 sz_ f_) (fun (z : Int32 × Int32 × (Nat → Int32)) => True)) : ∀ (l2 : Int32) (l3 : Int32) (sz_ : Int32) (f_ : Nat → Int32), 0 ≤ l3.toInt → l3.toInt ≤ 2645 → (2646 - l3.toInt).toNat ≤ m_4 → Sf (fX2_takeIn_46 N K sz f tz g k_4 l2 l3 sz_ f_) (fun (z : Int32 × Int32 × (Nat → Int32)) => True) := by
  intro l2 l3 sz_ f_ hq0 hq1 hq2
  unfold fX2_takeIn_46
  have ql0 : (0 : Int32).toInt = 0 := by decide
  have ql1 : (1 : Int32).toInt = 1 := by decide
  have r1 := rgI l2
  have r3 := rgI l3
  have t2 := addI (a := l3) (b := (1 : Int32)) (by omega) (by omega)
  have r4 := rgI sz_
  exact hk_4 _ _ _ _ (by omega) (by first | omega | decide) (by first | omega | decide)
set_option maxHeartbeats 2000000 in
theorem s_X2_takeIn_34 {N K : Nat} {sz : Int32} {f : Nat → Int32} {tz : Int32} {g : Nat → Int32} (hN : NBig N) (hK : 100 ≤ K)  {k_4 : Int32 → Int32 → Int32 → (Nat → Int32) → Option (Int32 × Int32 × (Nat → Int32))} {m_4 : Nat} (hk_4 : ∀ (l2 : Int32) (l3 : Int32) (sz_ : Int32) (f_ : (Nat → Int32)), (2646 - l3.toInt).toNat < m_4 → 0 ≤ l3.toInt → l3.toInt ≤ 2646 → Sf (k_4 l2 l3 sz_ f_) (fun (z : Int32 × Int32 × (Nat → Int32)) => True)) : ∀ (l2 : Int32) (l3 : Int32) (sz_ : Int32) (f_ : Nat → Int32), 0 ≤ l3.toInt → l3.toInt ≤ 2645 → (2646 - l3.toInt).toNat ≤ m_4 → Sf (fX2_takeIn_34 N K sz f tz g k_4 l2 l3 sz_ f_) (fun (z : Int32 × Int32 × (Nat → Int32)) => True) := by
  intro l2 l3 sz_ f_ hq0 hq1 hq2
  unfold fX2_takeIn_34
  have ql0 : (0 : Int32).toInt = 0 := by decide
  have r1 := rgI l3
  refine sIfF (noob (by omega) (by omega)) ?_
  refine sIfF (noob (by omega) (by omega)) ?_
  have r2 := rgI l2
  have r3 := rgI sz_
  exact s_X2_takeIn_46 (hk_4 := hk_4) hN hK _ _ _ _ (by first | omega | decide) (by first | omega | decide) (by omega)
set_option maxHeartbeats 2000000 in
theorem s_X2_takeIn_4 {N K : Nat} {sz : Int32} {f : Nat → Int32} {tz : Int32} {g : Nat → Int32} (hN : NBig N) (hK : 100 ≤ K)  : ∀ (fu : Nat) (l2 : Int32) (l3 : Int32) (sz_ : Int32) (f_ : (Nat → Int32)), (2646 - l3.toInt).toNat < fu → 0 ≤ l3.toInt → l3.toInt ≤ 2646 → Sf (fX2_takeIn_4 N K sz f tz g  fu l2 l3 sz_ f_) (fun (z : Int32 × Int32 × (Nat → Int32)) => True) := by
  intro fu
  induction fu with
  | zero => intro l2 l3 sz_ f_ h0 hq0 hq1; omega
  | succ fu ih =>
    intro l2 l3 sz_ f_ h0 hq0 hq1
    unfold fX2_takeIn_4
    have ql0 : (0 : Int32).toInt = 0 := by decide
    have ql2646 : (2646 : Int32).toInt = 2646 := by decide
    refine sIf (fun h1 => ?_) (fun h1 => ?_)
    · have r2 := rgI l3
      have fh1 := leT h1
      have r3 := rgI l2
      have r4 := rgI (sz_ + l2)
      exact sRet trivial
    · have r5 := rgI l3
      have fh1 := leF h1
      refine sIfF (noob (by omega) (by omega)) ?_
      refine sIf (fun h6 => ?_) (fun h6 => ?_)
      · have r7 := rgI (g l3.toNatClampNeg)
        have fh6 := eqT h6
        rw [show (-1 : Int32).toInt = -1 from by decide] at fh6
        have r8 := rgI l2
        have r9 := rgI sz_
        exact s_X2_takeIn_46 (hk_4 := ih) hN hK _ _ _ _ (by first | omega | decide) (by first | omega | decide) (by omega)
      · have r10 := rgI (g l3.toNatClampNeg)
        have fh6 := eqF h6
        rw [show (-1 : Int32).toInt = -1 from by decide] at fh6
        refine sIfF (noob (by omega) (by omega)) ?_
        refine sIf (fun h11 => ?_) (fun h11 => ?_)
        · have r12 := rgI (f_ l3.toNatClampNeg)
          have fh11 := eqT h11
          rw [show (-1 : Int32).toInt = -1 from by decide] at fh11
          have r13 := rgI (l2 + (1 : Int32))
          have r14 := rgI sz_
          exact s_X2_takeIn_34 (hk_4 := ih) hN hK _ _ _ _ (by first | omega | decide) (by first | omega | decide) (by omega)
        · have r15 := rgI (f_ l3.toNatClampNeg)
          have fh11 := eqF h11
          rw [show (-1 : Int32).toInt = -1 from by decide] at fh11
          have r16 := rgI l2
          have r17 := rgI sz_
          exact s_X2_takeIn_34 (hk_4 := ih) hN hK _ _ _ _ (by first | omega | decide) (by first | omega | decide) (by omega)
set_option maxHeartbeats 2000000 in
theorem s_X2_takeIn {N K : Nat} {sz : Int32} {f : Nat → Int32} {tz : Int32} {g : Nat → Int32} (hN : NBig N) (hK : 100 ≤ K)  : Sf (fX2_takeIn N K sz f tz g) (fun (z : Int32 × Int32 × (Nat → Int32)) => True) := by
  unfold fX2_takeIn
  have hN9 := hN.u
  have ql0 : (0 : Int32).toInt = 0 := by decide
  have r1 := rgI sz
  exact s_X2_takeIn_4  hN hK _ _ _ _ _ (by omega) (by first | omega | decide) (by first | omega | decide)
set_option maxHeartbeats 2000000 in
theorem s_X2_isLike_2 {N K : Nat} {sz : Int32} {f : Nat → Int32} {tz : Int32} {g : Nat → Int32} (hN : NBig N) (hK : 100 ≤ K)  : ∀ (fu : Nat) (l2 : Int32), (2646 - l2.toInt).toNat < fu → 0 ≤ l2.toInt → l2.toInt ≤ 2646 → Sf (fX2_isLike_2 N K sz f tz g  fu l2) (fun (z : Int32) => 0 ≤ z.toInt ∧ z.toInt ≤ 1 ∧ True) := by
  intro fu
  induction fu with
  | zero => intro l2 h0 hq0 hq1; omega
  | succ fu ih =>
    intro l2 h0 hq0 hq1
    unfold fX2_isLike_2
    have ql0 : (0 : Int32).toInt = 0 := by decide
    have ql1 : (1 : Int32).toInt = 1 := by decide
    have ql2646 : (2646 : Int32).toInt = 2646 := by decide
    refine sIf (fun h1 => ?_) (fun h1 => ?_)
    · have r2 := rgI l2
      have fh1 := leT h1
      exact sRet ⟨(by show 0 ≤ (1 : Int32).toInt; decide), (by show (1 : Int32).toInt ≤ 1; decide), trivial⟩
    · have r3 := rgI l2
      have fh1 := leF h1
      refine sIfF (noob (by omega) (by omega)) ?_
      refine sIfF (noob (by omega) (by omega)) ?_
      refine sIf (fun h4 => ?_) (fun h4 => ?_)
      · have r5 := rgI (f l2.toNatClampNeg)
        have r6 := rgI (g l2.toNatClampNeg)
        have fh4 := eqT h4
        have t7 := addI (a := l2) (b := (1 : Int32)) (by omega) (by omega)
        exact ih _ (by omega) (by first | omega | decide) (by first | omega | decide)
      · have r8 := rgI (f l2.toNatClampNeg)
        have r9 := rgI (g l2.toNatClampNeg)
        have fh4 := eqF h4
        exact sRet ⟨(by show 0 ≤ (0 : Int32).toInt; decide), (by show (0 : Int32).toInt ≤ 1; decide), trivial⟩
set_option maxHeartbeats 2000000 in
theorem s_X2_isLike {N K : Nat} {sz : Int32} {f : Nat → Int32} {tz : Int32} {g : Nat → Int32} (hN : NBig N) (hK : 100 ≤ K)  : Sf (fX2_isLike N K sz f tz g) (fun (z : Int32) => 0 ≤ z.toInt ∧ z.toInt ≤ 1 ∧ True) := by
  unfold fX2_isLike
  have hN9 := hN.u
  have ql0 : (0 : Int32).toInt = 0 := by decide
  exact s_X2_isLike_2  hN hK _ _ (by omega) (by first | omega | decide) (by first | omega | decide)
set_option maxHeartbeats 2000000 in
theorem s_X2_becomeOwn {N K : Nat} {sz : Int32} {f : Nat → Int32} (hN : NBig N) (hK : 100 ≤ K)  : Sf (fX2_becomeOwn N K sz f) (fun (z : Int32 × (Nat → Int32)) => True) := by
  unfold fX2_becomeOwn
  have ql0 : (0 : Int32).toInt = 0 := by decide
  have r1 := rgI sz
  exact sRet trivial
set_option maxHeartbeats 2000000 in
theorem s_X2_isLikeOwn_2 {N K : Nat} {sz : Int32} {f : Nat → Int32} (hN : NBig N) (hK : 100 ≤ K)  : ∀ (fu : Nat) (l2 : Int32), (2646 - l2.toInt).toNat < fu → 0 ≤ l2.toInt → l2.toInt ≤ 2646 → Sf (fX2_isLikeOwn_2 N K sz f  fu l2) (fun (z : Int32) => 1 ≤ z.toInt ∧ z.toInt ≤ 1 ∧ True) := by
  intro fu
  induction fu with
  | zero => intro l2 h0 hq0 hq1; omega
  | succ fu ih =>
    intro l2 h0 hq0 hq1
    unfold fX2_isLikeOwn_2
    have ql0 : (0 : Int32).toInt = 0 := by decide
    have ql1 : (1 : Int32).toInt = 1 := by decide
    have ql2646 : (2646 : Int32).toInt = 2646 := by decide
    refine sIf (fun h1 => ?_) (fun h1 => ?_)
    · have r2 := rgI l2
      have fh1 := leT h1
      exact sRet ⟨(by show 1 ≤ (1 : Int32).toInt; decide), (by show (1 : Int32).toInt ≤ 1; decide), trivial⟩
    · have r3 := rgI l2
      have fh1 := leF h1
      refine sIfF (noob (by omega) (by omega)) ?_
      refine sIfF (noob (by omega) (by omega)) ?_
      have t4 := addI (a := l2) (b := (1 : Int32)) (by omega) (by omega)
      exact ih _ (by omega) (by first | omega | decide) (by first | omega | decide)
set_option maxHeartbeats 2000000 in
theorem s_X2_isLikeOwn {N K : Nat} {sz : Int32} {f : Nat → Int32} (hN : NBig N) (hK : 100 ≤ K)  : Sf (fX2_isLikeOwn N K sz f) (fun (z : Int32) => 1 ≤ z.toInt ∧ z.toInt ≤ 1 ∧ True) := by
  unfold fX2_isLikeOwn
  have hN9 := hN.u
  have ql0 : (0 : Int32).toInt = 0 := by decide
  exact s_X2_isLikeOwn_2  hN hK _ _ (by omega) (by first | omega | decide) (by first | omega | decide)
set_option maxHeartbeats 2000000 in
theorem s_X2_agreesWithRow_42 {N K : Nat} {sz : Int32} {f : Nat → Int32} {g : Nat → Int32} {p0 : Int32} {p1 : Int32} (hN : NBig N) (hK : 100 ≤ K) (hp0 : 0 ≤ p0.toInt) (hp1 : p0.toInt ≤ 5) (hp2 : 0 ≤ p1.toInt) (hp3 : p1.toInt ≤ 20) {k_3 : Int32 → Option (Int32)} {m_3 : Nat} (hk_3 : ∀ (l4 : Int32), (21 - l4.toInt).toNat < m_3 → 0 ≤ l4.toInt → l4.toInt ≤ 21 → Sf (k_3 l4) (fun (z : Int32) => 0 ≤ z.toInt ∧ z.toInt ≤ 1 ∧ True)) : ∀ (l4 : Int32), 0 ≤ l4.toInt → l4.toInt ≤ 20 → (21 - l4.toInt).toNat ≤ m_3 → Sf (fX2_agreesWithRow_42 N K sz f g p0 p1 k_3 l4) (fun (z : Int32) => 0 ≤ z.toInt ∧ z.toInt ≤ 1 ∧ True) := by
  intro l4 hq0 hq1 hq2
  unfold fX2_agreesWithRow_42
  have ql0 : (0 : Int32).toInt = 0 := by decide
  have ql1 : (1 : Int32).toInt = 1 := by decide
  have r2 := rgI l4
  have t1 := addI (a := l4) (b := (1 : Int32)) (by omega) (by omega)
  exact hk_3 _ (by omega) (by first | omega | decide) (by first | omega | decide)
set_option maxHeartbeats 2000000 in
theorem s_X2_agreesWithRow_3 {N K : Nat} {sz : Int32} {f : Nat → Int32} {g : Nat → Int32} {p0 : Int32} {p1 : Int32} (hN : NBig N) (hK : 100 ≤ K) (hp0 : 0 ≤ p0.toInt) (hp1 : p0.toInt ≤ 5) (hp2 : 0 ≤ p1.toInt) (hp3 : p1.toInt ≤ 20) : ∀ (fu : Nat) (l4 : Int32), (21 - l4.toInt).toNat < fu → 0 ≤ l4.toInt → l4.toInt ≤ 21 → Sf (fX2_agreesWithRow_3 N K sz f g p0 p1  fu l4) (fun (z : Int32) => 0 ≤ z.toInt ∧ z.toInt ≤ 1 ∧ True) := by
  intro fu
  induction fu with
  | zero => intro l4 h0 hq0 hq1; omega
  | succ fu ih =>
    intro l4 h0 hq0 hq1
    unfold fX2_agreesWithRow_3
    have ql0 : (0 : Int32).toInt = 0 := by decide
    have ql1 : (1 : Int32).toInt = 1 := by decide
    have ql20 : (20 : Int32).toInt = 20 := by decide
    refine sIf (fun h1 => ?_) (fun h1 => ?_)
    · have r2 := rgI l4
      have fh1 := ltT h1
      exact sRet ⟨(by show 0 ≤ (1 : Int32).toInt; decide), (by show (1 : Int32).toInt ≤ 1; decide), trivial⟩
    · have r3 := rgI l4
      have fh1 := ltF h1
      have r4 := rgI sz
      have r5 := rgI p0
      have r6 := rgI p1
      refine sBind (s_X2_keeps hN hK (by first | omega | decide) (by first | omega | decide) (by first | omega | decide) (by first | omega | decide) (by first | omega | decide) (by first | omega | decide)) (fun x15 b7 => ?_)
      obtain ⟨b7_0, b7_1, -⟩ := b7
      replace b7_0 : 0 ≤ x15.toInt := b7_0
      replace b7_1 : x15.toInt ≤ 1 := b7_1
      refine sIf (fun h8 => ?_) (fun h8 => ?_)
      · have r9 := rgI x15
        have fh8 := eqT h8
        exact s_X2_agreesWithRow_42 (hk_3 := ih) hN hK (by omega) (by omega) (by omega) (by omega) _ (by first | omega | decide) (by first | omega | decide) (by omega)
      · have r10 := rgI x15
        have fh8 := eqF h8
        refine sBind (s_X2_keptWorth hN hK (by first | omega | decide) (by first | omega | decide) (by first | omega | decide) (by first | omega | decide) (by first | omega | decide) (by first | omega | decide)) (fun x26 b11 => ?_)
        refine sBind (s_X3_reckoned hN hK (by first | omega | decide) (by first | omega | decide) (by first | omega | decide) (by first | omega | decide) (by first | omega | decide) (by first | omega | decide)) (fun x34 b12 => ?_)
        refine sIf (fun h13 => ?_) (fun h13 => ?_)
        · have r14 := rgI x26
          have r15 := rgI x34
          have fh13 := eqT h13
          exact s_X2_agreesWithRow_42 (hk_3 := ih) hN hK (by omega) (by omega) (by omega) (by omega) _ (by first | omega | decide) (by first | omega | decide) (by omega)
        · have r16 := rgI x26
          have r17 := rgI x34
          have fh13 := eqF h13
          exact sRet ⟨(by show 0 ≤ (0 : Int32).toInt; decide), (by show (0 : Int32).toInt ≤ 1; decide), trivial⟩
set_option maxHeartbeats 2000000 in
theorem s_X2_agreesWithRow {N K : Nat} {sz : Int32} {f : Nat → Int32} {g : Nat → Int32} {p0 : Int32} {p1 : Int32} (hN : NBig N) (hK : 100 ≤ K) (hp0 : 0 ≤ p0.toInt) (hp1 : p0.toInt ≤ 5) (hp2 : 0 ≤ p1.toInt) (hp3 : p1.toInt ≤ 20) : Sf (fX2_agreesWithRow N K sz f g p0 p1) (fun (z : Int32) => 0 ≤ z.toInt ∧ z.toInt ≤ 1 ∧ True) := by
  unfold fX2_agreesWithRow
  have hN9 := hN.u
  have ql0 : (0 : Int32).toInt = 0 := by decide
  exact s_X2_agreesWithRow_3  hN hK (by omega) (by omega) (by omega) (by omega) _ _ (by omega) (by first | omega | decide) (by first | omega | decide)
