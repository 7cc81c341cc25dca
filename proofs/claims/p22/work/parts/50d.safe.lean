set_option maxHeartbeats 2000000 in
theorem s_X5_memoryAt {N K : Nat} {p0 : Int32} (hN : NBig N) (hK : 100 ≤ K)  : Sf (fX5_memoryAt N K p0) (xP true false (fun (z : Unit) => (0 ≤ p0.toInt ∧ p0.toInt ≤ 2) ∧ True)) := by
  unfold fX5_memoryAt
  have ql0 : (0 : Int32).toInt = 0 := by decide
  have ql3 : (3 : Int32).toInt = 3 := by decide
  refine sIf (fun h1 => ?_) (fun h1 => ?_)
  · have fh1 := ltT h1
    exact s_X5_memoryAt_13  hN hK 
  · have fh1 := ltF h1
    refine sIf (fun h2 => ?_) (fun h2 => ?_)
    · have fh2 := ltT h2
      refine sIfF (noob (by omega) (by omega)) ?_
      exact sXl ⟨(by show (0 ≤ p0.toInt ∧ p0.toInt ≤ 2); first | omega | assumption), trivial⟩
    · have fh2 := ltF h2
      exact s_X5_memoryAt_13  hN hK 
set_option maxHeartbeats 2000000 in
theorem s_X5_ledgerAt_13 {N K : Nat} {p0 : Int32} (hN : NBig N) (hK : 100 ≤ K)  : Sf (fX5_ledgerAt_13 N K p0  ) (xP true false (fun (z : Unit) => (0 ≤ p0.toInt ∧ p0.toInt ≤ 2) ∧ True)) := by
  unfold fX5_ledgerAt_13
  have ql0 : (0 : Int32).toInt = 0 := by decide
  exact sX1
set_option maxHeartbeats 2000000 in
theorem s_X5_ledgerAt {N K : Nat} {p0 : Int32} (hN : NBig N) (hK : 100 ≤ K)  : Sf (fX5_ledgerAt N K p0) (xP true false (fun (z : Unit) => (0 ≤ p0.toInt ∧ p0.toInt ≤ 2) ∧ True)) := by
  unfold fX5_ledgerAt
  have ql0 : (0 : Int32).toInt = 0 := by decide
  have ql3 : (3 : Int32).toInt = 3 := by decide
  refine sIf (fun h1 => ?_) (fun h1 => ?_)
  · have fh1 := ltT h1
    exact s_X5_ledgerAt_13  hN hK 
  · have fh1 := ltF h1
    refine sIf (fun h2 => ?_) (fun h2 => ?_)
    · have fh2 := ltT h2
      refine sIfF (noob (by omega) (by omega)) ?_
      exact sXl ⟨(by show (0 ≤ p0.toInt ∧ p0.toInt ≤ 2); first | omega | assumption), trivial⟩
    · have fh2 := ltF h2
      exact s_X5_ledgerAt_13  hN hK 
set_option maxHeartbeats 2000000 in
theorem s_X5_deskAt_13 {N K : Nat} {p0 : Int32} (hN : NBig N) (hK : 100 ≤ K)  : Sf (fX5_deskAt_13 N K p0  ) (xP true false (fun (z : Unit) => (0 ≤ p0.toInt ∧ p0.toInt ≤ 1) ∧ True)) := by
  unfold fX5_deskAt_13
  have ql0 : (0 : Int32).toInt = 0 := by decide
  exact sX1
set_option maxHeartbeats 2000000 in
theorem s_X5_deskAt {N K : Nat} {p0 : Int32} (hN : NBig N) (hK : 100 ≤ K)  : Sf (fX5_deskAt N K p0) (xP true false (fun (z : Unit) => (0 ≤ p0.toInt ∧ p0.toInt ≤ 1) ∧ True)) := by
  unfold fX5_deskAt
  have ql0 : (0 : Int32).toInt = 0 := by decide
  have ql2 : (2 : Int32).toInt = 2 := by decide
  refine sIf (fun h1 => ?_) (fun h1 => ?_)
  · have fh1 := ltT h1
    exact s_X5_deskAt_13  hN hK 
  · have fh1 := ltF h1
    refine sIf (fun h2 => ?_) (fun h2 => ?_)
    · have fh2 := ltT h2
      refine sIfF (noob (by omega) (by omega)) ?_
      exact sXl ⟨(by show (0 ≤ p0.toInt ∧ p0.toInt ≤ 1); first | omega | assumption), trivial⟩
    · have fh2 := ltF h2
      exact s_X5_deskAt_13  hN hK 
set_option maxHeartbeats 2000000 in
theorem s_X5_checkRange_10 {N K : Nat} {p0 : Int32} {p1 : Int32} {p2 : Int32} (hN : NBig N) (hK : 100 ≤ K) (hp0 : 0 ≤ p1.toInt) (hp1 : p1.toInt ≤ 1) (hp2 : 1 ≤ p2.toInt) (hp3 : p2.toInt ≤ 20) : Sf (fX5_checkRange_10 N K p0 p1 p2  ) (xP false true (fun (z : Unit) => (p1.toInt ≤ p0.toInt ∧ p0.toInt ≤ p2.toInt) ∧ True)) := by
  unfold fX5_checkRange_10
  have ql0 : (0 : Int32).toInt = 0 := by decide
  exact sX2
set_option maxHeartbeats 2000000 in
theorem s_X5_checkRange {N K : Nat} {p0 : Int32} {p1 : Int32} {p2 : Int32} (hN : NBig N) (hK : 100 ≤ K) (hp0 : 0 ≤ p1.toInt) (hp1 : p1.toInt ≤ 1) (hp2 : 1 ≤ p2.toInt) (hp3 : p2.toInt ≤ 20) : Sf (fX5_checkRange N K p0 p1 p2) (xP false true (fun (z : Unit) => (p1.toInt ≤ p0.toInt ∧ p0.toInt ≤ p2.toInt) ∧ True)) := by
  unfold fX5_checkRange
  have ql0 : (0 : Int32).toInt = 0 := by decide
  refine sIf (fun h1 => ?_) (fun h1 => ?_)
  · have fh1 := ltT h1
    exact s_X5_checkRange_10  hN hK (by omega) (by omega) (by omega) (by omega) 
  · have fh1 := ltF h1
    refine sIf (fun h2 => ?_) (fun h2 => ?_)
    · have fh2 := leT h2
      exact sXl ⟨(by show (p1.toInt ≤ p0.toInt ∧ p0.toInt ≤ p2.toInt); first | omega | assumption), trivial⟩
    · have fh2 := leF h2
      exact s_X5_checkRange_10  hN hK (by omega) (by omega) (by omega) (by omega) 
set_option maxHeartbeats 2000000 in
theorem s_X5_checkCase {N K : Nat} {p0 : Int32} {p1 : Int32} {p2 : Int32} (hN : NBig N) (hK : 100 ≤ K)  : Sf (fX5_checkCase N K p0 p1 p2) (xP false true (fun (z : Unit) => (0 ≤ p0.toInt ∧ p0.toInt ≤ 5) ∧ (0 ≤ p1.toInt ∧ p1.toInt ≤ 20) ∧ (0 ≤ p2.toInt ∧ p2.toInt ≤ 20) ∧ True)) := by
  unfold fX5_checkCase
  have ql0 : (0 : Int32).toInt = 0 := by decide
  have ql5 : (5 : Int32).toInt = 5 := by decide
  have ql20 : (20 : Int32).toInt = 20 := by decide
  refine sXb (s_X5_checkRange hN hK (by first | omega | decide) (by first | omega | decide) (by first | omega | decide) (by first | omega | decide)) (by decide) (by decide) (fun x3 b1 => ?_)
  obtain ⟨b1_0, -⟩ := b1
  replace b1_0 : ((0 : Int32).toInt ≤ p0.toInt ∧ p0.toInt ≤ (5 : Int32).toInt) := b1_0
  refine sXb (s_X5_checkRange hN hK (by first | omega | decide) (by first | omega | decide) (by first | omega | decide) (by first | omega | decide)) (by decide) (by decide) (fun x10 b2 => ?_)
  obtain ⟨b2_0, -⟩ := b2
  replace b2_0 : ((0 : Int32).toInt ≤ p1.toInt ∧ p1.toInt ≤ (20 : Int32).toInt) := b2_0
  refine sXb (s_X5_checkRange hN hK (by first | omega | decide) (by first | omega | decide) (by first | omega | decide) (by first | omega | decide)) (by decide) (by decide) (fun x17 b3 => ?_)
  obtain ⟨b3_0, -⟩ := b3
  replace b3_0 : ((0 : Int32).toInt ≤ p2.toInt ∧ p2.toInt ≤ (20 : Int32).toInt) := b3_0
  exact sXl ⟨(by show (0 ≤ p0.toInt ∧ p0.toInt ≤ 5); first | omega | assumption), (by show (0 ≤ p1.toInt ∧ p1.toInt ≤ 20); first | omega | assumption), (by show (0 ≤ p2.toInt ∧ p2.toInt ≤ 20); first | omega | assumption), trivial⟩
set_option maxHeartbeats 2000000 in
theorem s_X5_checkAnyCase {N K : Nat} {p0 : Int32} {p1 : Int32} {p2 : Int32} (hN : NBig N) (hK : 100 ≤ K)  : Sf (fX5_checkAnyCase N K p0 p1 p2) (xP false true (fun (z : Unit) => (0 ≤ p0.toInt ∧ p0.toInt ≤ 7) ∧ (0 ≤ p1.toInt ∧ p1.toInt ≤ 20) ∧ (0 ≤ p2.toInt ∧ p2.toInt ≤ 20) ∧ True)) := by
  unfold fX5_checkAnyCase
  have ql0 : (0 : Int32).toInt = 0 := by decide
  have ql7 : (7 : Int32).toInt = 7 := by decide
  have ql20 : (20 : Int32).toInt = 20 := by decide
  refine sXb (s_X5_checkRange hN hK (by first | omega | decide) (by first | omega | decide) (by first | omega | decide) (by first | omega | decide)) (by decide) (by decide) (fun x4 b1 => ?_)
  obtain ⟨b1_0, -⟩ := b1
  replace b1_0 : ((0 : Int32).toInt ≤ p0.toInt ∧ p0.toInt ≤ (7 : Int32).toInt) := b1_0
  refine sXb (s_X5_checkRange hN hK (by first | omega | decide) (by first | omega | decide) (by first | omega | decide) (by first | omega | decide)) (by decide) (by decide) (fun x11 b2 => ?_)
  obtain ⟨b2_0, -⟩ := b2
  replace b2_0 : ((0 : Int32).toInt ≤ p1.toInt ∧ p1.toInt ≤ (20 : Int32).toInt) := b2_0
  refine sXb (s_X5_checkRange hN hK (by first | omega | decide) (by first | omega | decide) (by first | omega | decide) (by first | omega | decide)) (by decide) (by decide) (fun x18 b3 => ?_)
  obtain ⟨b3_0, -⟩ := b3
  replace b3_0 : ((0 : Int32).toInt ≤ p2.toInt ∧ p2.toInt ≤ (20 : Int32).toInt) := b3_0
  exact sXl ⟨(by show (0 ≤ p0.toInt ∧ p0.toInt ≤ 7); first | omega | assumption), (by show (0 ≤ p1.toInt ∧ p1.toInt ≤ 20); first | omega | assumption), (by show (0 ≤ p2.toInt ∧ p2.toInt ≤ 20); first | omega | assumption), trivial⟩
set_option maxHeartbeats 2000000 in
theorem s_X5_acted {N K : Nat} {c0 : Int32} {c1 : Int32} {c2 : Int32} {c3 : Int32} {c4 : Int32} {c5 : Int32} {p0 : Int32} (hN : NBig N) (hK : 100 ≤ K)  : Sf (fX5_acted N K c0 c1 c2 c3 c4 c5 p0) (fun (z : Int32 × Int32) => True) := by
  unfold fX5_acted
  have ql0 : (0 : Int32).toInt = 0 := by decide
  exact sRet trivial
set_option maxHeartbeats 2000000 in
theorem s_X5_undone {N K : Nat} {c0 : Int32} {c1 : Int32} {c2 : Int32} {c3 : Int32} {c4 : Int32} {c5 : Int32} (hN : NBig N) (hK : 100 ≤ K)  : Sf (fX5_undone N K c0 c1 c2 c3 c4 c5) (fun (z : Int32 × Int32) => -9 ≤ z.1.toInt ∧ z.1.toInt ≤ -9 ∧ True) := by
  unfold fX5_undone
  have ql0 : (0 : Int32).toInt = 0 := by decide
  exact sRet ⟨(by show -9 ≤ (-9 : Int32).toInt; decide), (by show (-9 : Int32).toInt ≤ -9; decide), trivial⟩
set_option maxHeartbeats 2000000 in
theorem s_X5_waysOneByOne_41 {N K : Nat} {fw : Nat → Int32} {fs : Nat → Int32} {p0 : Int32} {p1 : Int32} {p2 : Int32} (hN : NBig N) (hK : 100 ≤ K) (hp0 : 0 ≤ p0.toInt) (hp1 : p0.toInt ≤ 7) (hp2 : 0 ≤ p1.toInt) (hp3 : p1.toInt ≤ 20) (hp4 : 0 ≤ p2.toInt) (hp5 : p2.toInt ≤ 20) {k_14 : Int32 → Int32 → (Nat → Int32) → (Nat → Int32) → Option (Int32 × (Nat → Int32) × (Nat → Int32))} {m_14 : Nat} (hk_14 : ∀ (l4 : Int32) (l5 : Int32) (fw_ : (Nat → Int32)) (fs_ : (Nat → Int32)), (1000000 - l5.toInt).toNat < m_14 → 0 ≤ l5.toInt → l5.toInt ≤ 1000000 → OkD fw_ → Sf (k_14 l4 l5 fw_ fs_) (fun (z : Int32 × (Nat → Int32) × (Nat → Int32)) => True)) : ∀ (l4 : Int32) (l5 : Int32) (fw_ : Nat → Int32) (fs_ : Nat → Int32), 0 ≤ l5.toInt → l5.toInt ≤ 999999 → OkD fw_ → (1000000 - l5.toInt).toNat ≤ m_14 → Sf (fX5_waysOneByOne_41 N K fw fs p0 p1 p2 k_14 l4 l5 fw_ fs_) (fun (z : Int32 × (Nat → Int32) × (Nat → Int32)) => True) := by
  intro l4 l5 fw_ fs_ hq0 hq1 hq2 hq3
  unfold fX5_waysOneByOne_41
  have ql0 : (0 : Int32).toInt = 0 := by decide
  have ql1 : (1 : Int32).toInt = 1 := by decide
  refine sBind (s_X4_stepOn hN hK (by first | assumption | exact OkD.z)) (fun x45 b1 => ?_)
  obtain ⟨b1_0, b1_1, b1_2, -⟩ := b1
  replace b1_0 : 0 ≤ x45.1.toInt := b1_0
  replace b1_1 : x45.1.toInt ≤ 1 := b1_1
  replace b1_2 : OkD x45.2 := b1_2
  refine sIf (fun h2 => ?_) (fun h2 => ?_)
  · have fh2 := eqT h2
    exact sRet trivial
  · have fh2 := eqF h2
    have t3 := addI (a := l5) (b := (1 : Int32)) (by omega) (by omega)
    exact hk_14 _ _ _ _ (by omega) (by first | omega | decide) (by first | omega | decide) (by assumption)
set_option maxHeartbeats 2000000 in
theorem s_X5_waysOneByOne_14 {N K : Nat} {fw : Nat → Int32} {fs : Nat → Int32} {p0 : Int32} {p1 : Int32} {p2 : Int32} (hN : NBig N) (hK : 100 ≤ K) (hp0 : 0 ≤ p0.toInt) (hp1 : p0.toInt ≤ 7) (hp2 : 0 ≤ p1.toInt) (hp3 : p1.toInt ≤ 20) (hp4 : 0 ≤ p2.toInt) (hp5 : p2.toInt ≤ 20) : ∀ (fu : Nat) (l4 : Int32) (l5 : Int32) (fw_ : (Nat → Int32)) (fs_ : (Nat → Int32)), (1000000 - l5.toInt).toNat < fu → 0 ≤ l5.toInt → l5.toInt ≤ 1000000 → OkD fw_ → Sf (fX5_waysOneByOne_14 N K fw fs p0 p1 p2  fu l4 l5 fw_ fs_) (fun (z : Int32 × (Nat → Int32) × (Nat → Int32)) => True) := by
  intro fu
  induction fu with
  | zero => intro l4 l5 fw_ fs_ h0 hq0 hq1 hq2; omega
  | succ fu ih =>
    intro l4 l5 fw_ fs_ h0 hq0 hq1 hq2
    unfold fX5_waysOneByOne_14
    have ql0 : (0 : Int32).toInt = 0 := by decide
    have ql1000000 : (1000000 : Int32).toInt = 1000000 := by decide
    refine sIf (fun h1 => ?_) (fun h1 => ?_)
    · have fh1 := leT h1
      exact sRet trivial
    · have fh1 := leF h1
      refine sBind (s_X4_isOfKind hN hK (by first | omega | decide) (by first | omega | decide) (by first | omega | decide) (by first | omega | decide) (by first | assumption | exact OkD.z)) (fun x32 b2 => ?_)
      obtain ⟨b2_0, b2_1, -⟩ := b2
      replace b2_0 : 0 ≤ x32.1.toInt := b2_0
      replace b2_1 : x32.1.toInt ≤ 1 := b2_1
      refine sIf (fun h3 => ?_) (fun h3 => ?_)
      · have fh3 := eqT h3
        exact s_X5_waysOneByOne_41 (hk_14 := ih) hN hK (by omega) (by omega) (by omega) (by omega) (by omega) (by omega) _ _ _ _ (by first | omega | decide) (by first | omega | decide) (by assumption) (by omega)
      · have fh3 := eqF h3
        exact s_X5_waysOneByOne_41 (hk_14 := ih) hN hK (by omega) (by omega) (by omega) (by omega) (by omega) (by omega) _ _ _ _ (by first | omega | decide) (by first | omega | decide) (by assumption) (by omega)
set_option maxHeartbeats 2000000 in
theorem s_X5_waysOneByOne {N K : Nat} {fw : Nat → Int32} {fs : Nat → Int32} {p0 : Int32} {p1 : Int32} {p2 : Int32} (hN : NBig N) (hK : 100 ≤ K) (hp0 : 0 ≤ p0.toInt) (hp1 : p0.toInt ≤ 7) (hp2 : 0 ≤ p1.toInt) (hp3 : p1.toInt ≤ 20) (hp4 : 0 ≤ p2.toInt) (hp5 : p2.toInt ≤ 20) : Sf (fX5_waysOneByOne N K fw fs p0 p1 p2) (fun (z : Int32 × (Nat → Int32) × (Nat → Int32)) => True) := by
  unfold fX5_waysOneByOne
  have hN9 := hN.u
  have ql0 : (0 : Int32).toInt = 0 := by decide
  refine sBind (s_X4_becomeFirst hN hK (by first | omega | decide) (by first | omega | decide)) (fun x5 b1 => ?_)
  obtain ⟨b1_0, -⟩ := b1
  replace b1_0 : OkD x5 := b1_0
  exact s_X5_waysOneByOne_14  hN hK (by omega) (by omega) (by omega) (by omega) (by omega) (by omega) _ _ _ _ _ (by omega) (by first | omega | decide) (by first | omega | decide) (by assumption)
set_option maxHeartbeats 2000000 in
theorem s_X5_know {N K : Nat} {sz : Int32} {f : Nat → Int32} {c0 : Int32} {c1 : Int32} {c2 : Int32} {c3 : Int32} {c4 : Int32} {c5 : Int32} {p0 : Int32} {p1 : Int32} {p2 : Int32} {p3 : Int32} (hN : NBig N) (hK : 100 ≤ K)  : Sf (fX5_know N K sz f c0 c1 c2 c3 c4 c5 p0 p1 p2 p3) (xP true true (fun (z : Int32 × Int32 × (Nat → Int32) × Int32 × Int32 × Int32 × Int32) => True)) := by
  unfold fX5_know
  have ql0 : (0 : Int32).toInt = 0 := by decide
  refine sXb (s_X5_memoryAt hN hK) (by decide) (by decide) (fun x2 b1 => ?_)
  obtain ⟨b1_0, -⟩ := b1
  replace b1_0 : (0 ≤ p0.toInt ∧ p0.toInt ≤ 2) := b1_0
  refine sXb (s_X5_checkCase hN hK) (by decide) (by decide) (fun x11 b2 => ?_)
  obtain ⟨b2_0, b2_1, b2_2, -⟩ := b2
  replace b2_0 : (0 ≤ p1.toInt ∧ p1.toInt ≤ 5) := b2_0
  replace b2_1 : (0 ≤ p2.toInt ∧ p2.toInt ≤ 20) := b2_1
  replace b2_2 : (0 ≤ p3.toInt ∧ p3.toInt ≤ 20) := b2_2
  refine sBind (s_X2_recall hN hK (by first | omega | decide) (by first | omega | decide)) (fun x25 b3 => ?_)
  refine sBind (s_X5_acted hN hK) (fun x28 b4 => ?_)
  exact sXl trivial
set_option maxHeartbeats 2000000 in
theorem s_X5_few_27 {N K : Nat} {sz : Int32} {f : Nat → Int32} {c0 : Int32} {c1 : Int32} {c2 : Int32} {c3 : Int32} {c4 : Int32} {c5 : Int32} {p0 : Int32} {p1 : Int32} {p2 : Int32} (hN : NBig N) (hK : 100 ≤ K)  : ∀ (fu : Nat) (l5 : Int32) (l6 : Int32) (sz_ : Int32) (f_ : (Nat → Int32)) (c0_ : Int32) (c1_ : Int32) (c2_ : Int32) (c3_ : Int32), (21 - l6.toInt).toNat < fu → 0 ≤ p0.toInt → p0.toInt ≤ 2 → 0 ≤ p1.toInt → p1.toInt ≤ 20 → 0 ≤ p2.toInt → p2.toInt ≤ 20 → 0 ≤ l6.toInt → l6.toInt ≤ 21 → Sf (fX5_few_27 N K sz f c0 c1 c2 c3 c4 c5 p0 p1 p2  fu l5 l6 sz_ f_ c0_ c1_ c2_ c3_) (xP true true (fun (z : Int32 × Int32 × (Nat → Int32) × Int32 × Int32 × Int32 × Int32) => True)) := by
  intro fu
  induction fu with
  | zero => intro l5 l6 sz_ f_ c0_ c1_ c2_ c3_ h0 hq0 hq1 hq2 hq3 hq4 hq5 hq6 hq7; omega
  | succ fu ih =>
    intro l5 l6 sz_ f_ c0_ c1_ c2_ c3_ h0 hq0 hq1 hq2 hq3 hq4 hq5 hq6 hq7
    unfold fX5_few_27
    have ql0 : (0 : Int32).toInt = 0 := by decide
    have ql1 : (1 : Int32).toInt = 1 := by decide
    refine sIf (fun h1 => ?_) (fun h1 => ?_)
    · have fh1 := ltT h1
      refine sBind (s_X5_acted hN hK) (fun x60 b2 => ?_)
      exact sXl trivial
    · have fh1 := ltF h1
      refine sBind (s_X2_recall hN hK (by first | omega | decide) (by first | omega | decide)) (fun x45 b3 => ?_)
      have t5 := addI (a := l6) (b := (1 : Int32)) (by omega) (by omega)
      exact ih _ _ _ _ _ _ _ _ (by omega) (by first | omega | decide) (by first | omega | decide) (by first | omega | decide) (by first | omega | decide) (by first | omega | decide) (by first | omega | decide) (by first | omega | decide) (by first | omega | decide)
set_option maxHeartbeats 2000000 in
theorem s_X5_few {N K : Nat} {sz : Int32} {f : Nat → Int32} {c0 : Int32} {c1 : Int32} {c2 : Int32} {c3 : Int32} {c4 : Int32} {c5 : Int32} {p0 : Int32} {p1 : Int32} {p2 : Int32} (hN : NBig N) (hK : 100 ≤ K)  : Sf (fX5_few N K sz f c0 c1 c2 c3 c4 c5 p0 p1 p2) (xP true true (fun (z : Int32 × Int32 × (Nat → Int32) × Int32 × Int32 × Int32 × Int32) => True)) := by
  unfold fX5_few
  have hN9 := hN.u
  have ql0 : (0 : Int32).toInt = 0 := by decide
  have ql20 : (20 : Int32).toInt = 20 := by decide
  refine sXb (s_X5_memoryAt hN hK) (by decide) (by decide) (fun x2 b1 => ?_)
  obtain ⟨b1_0, -⟩ := b1
  replace b1_0 : (0 ≤ p0.toInt ∧ p0.toInt ≤ 2) := b1_0
  refine sXb (s_X5_checkRange hN hK (by first | omega | decide) (by first | omega | decide) (by first | omega | decide) (by first | omega | decide)) (by decide) (by decide) (fun x11 b2 => ?_)
  obtain ⟨b2_0, -⟩ := b2
  replace b2_0 : ((0 : Int32).toInt ≤ p1.toInt ∧ p1.toInt ≤ (20 : Int32).toInt) := b2_0
  refine sXb (s_X5_checkRange hN hK (by first | omega | decide) (by first | omega | decide) (by first | omega | decide) (by first | omega | decide)) (by decide) (by decide) (fun x18 b3 => ?_)
  obtain ⟨b3_0, -⟩ := b3
  replace b3_0 : ((0 : Int32).toInt ≤ p2.toInt ∧ p2.toInt ≤ (20 : Int32).toInt) := b3_0
  exact s_X5_few_27  hN hK _ _ _ _ _ _ _ _ _ (by omega) (by first | omega | decide) (by first | omega | decide) (by first | omega | decide) (by first | omega | decide) (by first | omega | decide) (by first | omega | decide) (by first | omega | decide) (by first | omega | decide)
set_option maxHeartbeats 2000000 in
theorem s_X5_surplus_56 {N K : Nat} {sz : Int32} {f : Nat → Int32} {c0 : Int32} {c1 : Int32} {c2 : Int32} {c3 : Int32} {c4 : Int32} {c5 : Int32} {p0 : Int32} {p1 : Int32} (hN : NBig N) (hK : 100 ≤ K)  {k_19 : Int32 → Int32 → Int32 → (Nat → Int32) → Int32 → Int32 → Int32 → Int32 → Option ((Int32 × Int32 × (Nat → Int32) × Int32 × Int32 × Int32 × Int32) ⊕ String)} {m_19 : Nat} (hk_19 : ∀ (l4 : Int32) (l5 : Int32) (sz_ : Int32) (f_ : (Nat → Int32)) (c0_ : Int32) (c1_ : Int32) (c2_ : Int32) (c3_ : Int32), (21 - l5.toInt).toNat < m_19 → 0 ≤ p0.toInt → p0.toInt ≤ 2 → 0 ≤ p1.toInt → p1.toInt ≤ 20 → 0 ≤ l5.toInt → l5.toInt ≤ 21 → Sf (k_19 l4 l5 sz_ f_ c0_ c1_ c2_ c3_) (xP true true (fun (z : Int32 × Int32 × (Nat → Int32) × Int32 × Int32 × Int32 × Int32) => True))) : ∀ (l5 : Int32) (s0 : Int32) (s1 : Int32) (sz_ : Int32) (f_ : Nat → Int32) (c0_ : Int32) (c1_ : Int32) (c2_ : Int32) (c3_ : Int32), 0 ≤ p0.toInt → p0.toInt ≤ 2 → 0 ≤ p1.toInt → p1.toInt ≤ 20 → 0 ≤ l5.toInt → l5.toInt ≤ 20 → (s0.toInt = 0 → 0 ≤ p0.toInt ∧ p0.toInt ≤ 2 ∧ 0 ≤ p1.toInt ∧ p1.toInt ≤ 20) → (s1.toInt = 0 → 0 ≤ p0.toInt ∧ p0.toInt ≤ 2 ∧ 0 ≤ p1.toInt ∧ p1.toInt ≤ 20) → (21 - l5.toInt).toNat ≤ m_19 → Sf (fX5_surplus_56 N K sz f c0 c1 c2 c3 c4 c5 p0 p1 k_19 l5 s0 s1 sz_ f_ c0_ c1_ c2_ c3_) (xP true true (fun (z : Int32 × Int32 × (Nat → Int32) × Int32 × Int32 × Int32 × Int32) => True)) := by
  intro l5 s0 s1 sz_ f_ c0_ c1_ c2_ c3_ hq0 hq1 hq2 hq3 hq4 hq5 hq6 hq7 hq8
  unfold fX5_surplus_56
  have ql0 : (0 : Int32).toInt = 0 := by decide
  have ql1 : (1 : Int32).toInt = 1 := by decide
  have t2 := addI (a := l5) (b := (1 : Int32)) (by omega) (by omega)
  exact hk_19 _ _ _ _ _ _ _ _ (by omega) (by first | omega | decide) (by first | omega | decide) (by first | omega | decide) (by first | omega | decide) (by first | omega | decide) (by first | omega | decide)
set_option maxHeartbeats 2000000 in
theorem s_X5_surplus_19 {N K : Nat} {sz : Int32} {f : Nat → Int32} {c0 : Int32} {c1 : Int32} {c2 : Int32} {c3 : Int32} {c4 : Int32} {c5 : Int32} {p0 : Int32} {p1 : Int32} (hN : NBig N) (hK : 100 ≤ K)  : ∀ (fu : Nat) (l4 : Int32) (l5 : Int32) (sz_ : Int32) (f_ : (Nat → Int32)) (c0_ : Int32) (c1_ : Int32) (c2_ : Int32) (c3_ : Int32), (21 - l5.toInt).toNat < fu → 0 ≤ p0.toInt → p0.toInt ≤ 2 → 0 ≤ p1.toInt → p1.toInt ≤ 20 → 0 ≤ l5.toInt → l5.toInt ≤ 21 → Sf (fX5_surplus_19 N K sz f c0 c1 c2 c3 c4 c5 p0 p1  fu l4 l5 sz_ f_ c0_ c1_ c2_ c3_) (xP true true (fun (z : Int32 × Int32 × (Nat → Int32) × Int32 × Int32 × Int32 × Int32) => True)) := by
  intro fu
  induction fu with
  | zero => intro l4 l5 sz_ f_ c0_ c1_ c2_ c3_ h0 hq0 hq1 hq2 hq3 hq4 hq5; omega
  | succ fu ih =>
    intro l4 l5 sz_ f_ c0_ c1_ c2_ c3_ h0 hq0 hq1 hq2 hq3 hq4 hq5
    unfold fX5_surplus_19
    have ql0 : (0 : Int32).toInt = 0 := by decide
    have ql2 : (2 : Int32).toInt = 2 := by decide
    have ql5 : (5 : Int32).toInt = 5 := by decide
    refine sIf (fun h1 => ?_) (fun h1 => ?_)
    · have fh1 := ltT h1
      refine sBind (s_X5_acted hN hK) (fun x68 b2 => ?_)
      exact sXl trivial
    · have fh1 := ltF h1
      refine sBind (s_X2_recall hN hK (by first | omega | decide) (by first | omega | decide)) (fun x34 b3 => ?_)
      refine sIf (fun h4 => ?_) (fun h4 => ?_)
      · have t5 := modL (a := l5) (b := (2 : Int32)) ql2 (by omega)
        have fh4 := eqT h4
        exact s_X5_surplus_56 (hk_19 := ih) hN hK _ _ _ _ _ _ _ _ _ (by first | omega | decide) (by first | omega | decide) (by first | omega | decide) (by first | omega | decide) (by first | omega | decide) (by first | omega | decide) (by first | omega | decide) (by first | omega | decide) (by omega)
      · have t6 := modL (a := l5) (b := (2 : Int32)) ql2 (by omega)
        have fh4 := eqF h4
        exact s_X5_surplus_56 (hk_19 := ih) hN hK _ _ _ _ _ _ _ _ _ (by first | omega | decide) (by first | omega | decide) (by first | omega | decide) (by first | omega | decide) (by first | omega | decide) (by first | omega | decide) (by first | omega | decide) (by first | omega | decide) (by omega)
set_option maxHeartbeats 2000000 in
theorem s_X5_surplus {N K : Nat} {sz : Int32} {f : Nat → Int32} {c0 : Int32} {c1 : Int32} {c2 : Int32} {c3 : Int32} {c4 : Int32} {c5 : Int32} {p0 : Int32} {p1 : Int32} (hN : NBig N) (hK : 100 ≤ K)  : Sf (fX5_surplus N K sz f c0 c1 c2 c3 c4 c5 p0 p1) (xP true true (fun (z : Int32 × Int32 × (Nat → Int32) × Int32 × Int32 × Int32 × Int32) => True)) := by
  unfold fX5_surplus
  have hN9 := hN.u
  have ql0 : (0 : Int32).toInt = 0 := by decide
  have ql20 : (20 : Int32).toInt = 20 := by decide
  refine sXb (s_X5_memoryAt hN hK) (by decide) (by decide) (fun x2 b1 => ?_)
  obtain ⟨b1_0, -⟩ := b1
  replace b1_0 : (0 ≤ p0.toInt ∧ p0.toInt ≤ 2) := b1_0
  refine sXb (s_X5_checkRange hN hK (by first | omega | decide) (by first | omega | decide) (by first | omega | decide) (by first | omega | decide)) (by decide) (by decide) (fun x10 b2 => ?_)
  obtain ⟨b2_0, -⟩ := b2
  replace b2_0 : ((0 : Int32).toInt ≤ p1.toInt ∧ p1.toInt ≤ (20 : Int32).toInt) := b2_0
  exact s_X5_surplus_19  hN hK _ _ _ _ _ _ _ _ _ (by omega) (by first | omega | decide) (by first | omega | decide) (by first | omega | decide) (by first | omega | decide) (by first | omega | decide) (by first | omega | decide)
set_option maxHeartbeats 2000000 in
theorem s_X5_place_46 {N K : Nat} {sz : Int32} {f : Nat → Int32} {fd : Nat → Int32} {c0 : Int32} {c1 : Int32} {c2 : Int32} {c3 : Int32} {c4 : Int32} {c5 : Int32} {p0 : Int32} {p1 : Int32} (hN : NBig N) (hK : 100 ≤ K)  {k_31 : Int32 → Int32 → Int32 → Int32 → Int32 → (Nat → Int32) → Int32 → Int32 → Int32 → Int32 → Option ((Int32 × Int32 × (Nat → Int32) × Int32 × Int32 × Int32 × Int32) ⊕ String)} {m_31 : Nat} (hk_31 : ∀ (l5 : Int32) (l6 : Int32) (l7 : Int32) (l8 : Int32) (sz_ : Int32) (f_ : (Nat → Int32)) (c0_ : Int32) (c1_ : Int32) (c2_ : Int32) (c3_ : Int32), (l8.toInt - 0).toNat < m_31 → 0 ≤ p0.toInt → p0.toInt ≤ 2 → 0 ≤ p1.toInt → p1.toInt ≤ 1 → 0 ≤ l8.toInt → l8.toInt ≤ 20 → Sf (k_31 l5 l6 l7 l8 sz_ f_ c0_ c1_ c2_ c3_) (xP true false (fun (z : Int32 × Int32 × (Nat → Int32) × Int32 × Int32 × Int32 × Int32) => True))) : ∀ (fu : Nat) (l5 : Int32) (l6 : Int32) (l7 : Int32) (l8 : Int32) (l9 : Int32) (sz_ : Int32) (f_ : (Nat → Int32)) (c0_ : Int32) (c1_ : Int32) (c2_ : Int32) (c3_ : Int32), M31 l9 < fu → 0 ≤ p0.toInt → p0.toInt ≤ 2 → 0 ≤ p1.toInt → p1.toInt ≤ 1 → 1 ≤ l8.toInt → l8.toInt ≤ 20 → (l8.toInt - 0).toNat ≤ m_31 → Sf (fX5_place_46 N K sz f fd c0 c1 c2 c3 c4 c5 p0 p1 k_31 fu l5 l6 l7 l8 l9 sz_ f_ c0_ c1_ c2_ c3_) (xP true false (fun (z : Int32 × Int32 × (Nat → Int32) × Int32 × Int32 × Int32 × Int32) => True)) := by
  intro fu
  induction fu with
  | zero => intro l5 l6 l7 l8 l9 sz_ f_ c0_ c1_ c2_ c3_ h0 hq0 hq1 hq2 hq3 hq4 hq5 hq6; omega
  | succ fu ih =>
    intro l5 l6 l7 l8 l9 sz_ f_ c0_ c1_ c2_ c3_ h0 hq0 hq1 hq2 hq3 hq4 hq5 hq6
    unfold fX5_place_46
    have ql0 : (0 : Int32).toInt = 0 := by decide
    refine sIf (fun h1 => ?_) (fun h1 => ?_)
    · have fh1 := leT h1
      clear h0
      have t2 : (l8 + (-1 : Int32)).toInt = l8.toInt + (-1) := addL (by decide) (by omega) (by omega)
      exact hk_31 _ _ _ _ _ _ _ _ _ _ (by (try generalize l8 + (-1 : Int32) = d0_ at *); omega) (by (try generalize l8 + (-1 : Int32) = d0_ at *); first | omega | decide) (by (try generalize l8 + (-1 : Int32) = d0_ at *); first | omega | decide) (by (try generalize l8 + (-1 : Int32) = d0_ at *); first | omega | decide) (by (try generalize l8 + (-1 : Int32) = d0_ at *); first | omega | decide) (by (try generalize l8 + (-1 : Int32) = d0_ at *); first | omega | decide) (by (try generalize l8 + (-1 : Int32) = d0_ at *); first | omega | decide)
    · have fh1 := leF h1
      have z9 := M31_dec (x := l9) (by omega)
      refine sBind (s_X2_recall hN hK (by first | omega | decide) (by first | omega | decide)) (fun x63 b3 => ?_)
      refine sBind (s_X2_recall hN hK (by first | omega | decide) (by first | omega | decide)) (fun x81 b4 => ?_)
      have r8 := rgI l9
      have t7 : (l9 + (-1 : Int32)).toInt = l9.toInt + (-1) := addL (by decide) (by omega) (by omega)
      exact ih _ _ _ _ _ _ _ _ _ _ _ (by (try generalize l9 + (-1 : Int32) = d0_ at *); omega) (by (try generalize l9 + (-1 : Int32) = d0_ at *); first | omega | decide) (by (try generalize l9 + (-1 : Int32) = d0_ at *); first | omega | decide) (by (try generalize l9 + (-1 : Int32) = d0_ at *); first | omega | decide) (by (try generalize l9 + (-1 : Int32) = d0_ at *); first | omega | decide) (by (try generalize l9 + (-1 : Int32) = d0_ at *); first | omega | decide) (by (try generalize l9 + (-1 : Int32) = d0_ at *); first | omega | decide) (by (try generalize l9 + (-1 : Int32) = d0_ at *); omega)
set_option maxHeartbeats 2000000 in
theorem s_X5_place_31 {N K : Nat} {sz : Int32} {f : Nat → Int32} {fd : Nat → Int32} {c0 : Int32} {c1 : Int32} {c2 : Int32} {c3 : Int32} {c4 : Int32} {c5 : Int32} {p0 : Int32} {p1 : Int32} (hN : NBig N) (hK : 100 ≤ K)  : ∀ (fu : Nat) (l5 : Int32) (l6 : Int32) (l7 : Int32) (l8 : Int32) (sz_ : Int32) (f_ : (Nat → Int32)) (c0_ : Int32) (c1_ : Int32) (c2_ : Int32) (c3_ : Int32), (l8.toInt - 0).toNat < fu → 0 ≤ p0.toInt → p0.toInt ≤ 2 → 0 ≤ p1.toInt → p1.toInt ≤ 1 → 0 ≤ l8.toInt → l8.toInt ≤ 20 → Sf (fX5_place_31 N K sz f fd c0 c1 c2 c3 c4 c5 p0 p1  fu l5 l6 l7 l8 sz_ f_ c0_ c1_ c2_ c3_) (xP true false (fun (z : Int32 × Int32 × (Nat → Int32) × Int32 × Int32 × Int32 × Int32) => True)) := by
  intro fu
  induction fu with
  | zero => intro l5 l6 l7 l8 sz_ f_ c0_ c1_ c2_ c3_ h0 hq0 hq1 hq2 hq3 hq4 hq5; omega
  | succ fu ih =>
    intro l5 l6 l7 l8 sz_ f_ c0_ c1_ c2_ c3_ h0 hq0 hq1 hq2 hq3 hq4 hq5
    unfold fX5_place_31
    have hN9 := hN.u
    have ql0 : (0 : Int32).toInt = 0 := by decide
    have ql1 : (1 : Int32).toInt = 1 := by decide
    refine sIf (fun h1 => ?_) (fun h1 => ?_)
    · have fh1 := ltT h1
      refine sBind (s_X5_acted hN hK) (fun x113 b2 => ?_)
      exact sXl trivial
    · have fh1 := ltF h1
      refine sBind (s_X4_timesOf hN hK (by first | omega | decide) (by first | omega | decide)) (fun x41 b3 => ?_)
      have z8 := M31_N hN x41
      exact s_X5_place_46 (hk_31 := ih) hN hK _ _ _ _ _ _ _ _ _ _ _ _ (by omega) (by first | omega | decide) (by first | omega | decide) (by first | omega | decide) (by first | omega | decide) (by first | omega | decide) (by first | omega | decide) (by omega)
set_option maxHeartbeats 2000000 in
theorem s_X5_place {N K : Nat} {sz : Int32} {f : Nat → Int32} {fd : Nat → Int32} {c0 : Int32} {c1 : Int32} {c2 : Int32} {c3 : Int32} {c4 : Int32} {c5 : Int32} {p0 : Int32} {p1 : Int32} (hN : NBig N) (hK : 100 ≤ K)  : Sf (fX5_place N K sz f fd c0 c1 c2 c3 c4 c5 p0 p1) (xP true false (fun (z : Int32 × Int32 × (Nat → Int32) × Int32 × Int32 × Int32 × Int32) => True)) := by
  unfold fX5_place
  have hN9 := hN.u
  have ql0 : (0 : Int32).toInt = 0 := by decide
  have ql20 : (20 : Int32).toInt = 20 := by decide
  refine sXb (s_X5_memoryAt hN hK) (by decide) (by decide) (fun x2 b1 => ?_)
  obtain ⟨b1_0, -⟩ := b1
  replace b1_0 : (0 ≤ p0.toInt ∧ p0.toInt ≤ 2) := b1_0
  refine sXb (s_X5_deskAt hN hK) (by decide) (by decide) (fun x8 b2 => ?_)
  obtain ⟨b2_0, -⟩ := b2
  replace b2_0 : (0 ≤ p1.toInt ∧ p1.toInt ≤ 1) := b2_0
  refine sBind (s_X4_sum hN hK) (fun x15 b3 => ?_)
  exact s_X5_place_31  hN hK _ _ _ _ _ _ _ _ _ _ _ (by omega) (by first | omega | decide) (by first | omega | decide) (by first | omega | decide) (by first | omega | decide) (by first | omega | decide) (by first | omega | decide)
set_option maxHeartbeats 2000000 in
theorem s_X5_learn {N K : Nat} {sz : Int32} {f : Nat → Int32} {c0 : Int32} {c1 : Int32} {c2 : Int32} {c3 : Int32} {c4 : Int32} {c5 : Int32} {g : Nat → Int32} {p0 : Int32} {p1 : Int32} {p2 : Int32} {p3 : Int32} (hN : NBig N) (hK : 100 ≤ K)  : Sf (fX5_learn N K sz f c0 c1 c2 c3 c4 c5 g p0 p1 p2 p3) (xP true true (fun (z : Int32 × Int32 × (Nat → Int32) × Int32 × Int32 × (Nat → Int32)) => True)) := by
  unfold fX5_learn
  have ql0 : (0 : Int32).toInt = 0 := by decide
  have ql1 : (1 : Int32).toInt = 1 := by decide
  refine sXb (s_X5_memoryAt hN hK) (by decide) (by decide) (fun x2 b1 => ?_)
  obtain ⟨b1_0, -⟩ := b1
  replace b1_0 : (0 ≤ p0.toInt ∧ p0.toInt ≤ 2) := b1_0
  refine sXb (s_X5_checkCase hN hK) (by decide) (by decide) (fun x11 b2 => ?_)
  obtain ⟨b2_0, b2_1, b2_2, -⟩ := b2
  replace b2_0 : (0 ≤ p1.toInt ∧ p1.toInt ≤ 5) := b2_0
  replace b2_1 : (0 ≤ p2.toInt ∧ p2.toInt ≤ 20) := b2_1
  replace b2_2 : (0 ≤ p3.toInt ∧ p3.toInt ≤ 20) := b2_2
  refine sBind (s_X5_rests hN hK) (fun x17 b3 => ?_)
  obtain ⟨b3_0, b3_1, b3_2, b3_3, -⟩ := b3
  replace b3_0 : 0 ≤ x17.toInt := b3_0
  replace b3_1 : x17.toInt ≤ 1 := b3_1
  replace b3_2 : (x17.toInt = 0 → (1 ≤ p2.toInt)) := b3_2
  replace b3_3 : (x17.toInt = 0 → p3.toInt ≠ 0) := b3_3
  refine sIf (fun h4 => ?_) (fun h4 => ?_)
  · have fh4 := eqT h4
    refine sBind (s_X2_keeps hN hK (by first | omega | decide) (by first | omega | decide) (by first | omega | decide) (by first | omega | decide) (by first | omega | decide) (by first | omega | decide)) (fun x34 b5 => ?_)
    obtain ⟨b5_0, b5_1, -⟩ := b5
    replace b5_0 : 0 ≤ x34.toInt := b5_0
    replace b5_1 : x34.toInt ≤ 1 := b5_1
    refine sIf (fun h6 => ?_) (fun h6 => ?_)
    · have fh6 := eqT h6
      refine sBind (s_X3_tells hN hK (by first | omega | decide) (by first | omega | decide) (by first | omega | decide) (by first | omega | decide) (by first | omega | decide) (by first | omega | decide)) (fun x60 b7 => ?_)
      refine sBind (s_X2_keep hN hK (by first | omega | decide) (by first | omega | decide) (by first | omega | decide)) (fun x63 b8 => ?_)
      refine sBind (s_X5_acted hN hK) (fun x68 b9 => ?_)
      exact sXl trivial
    · have fh6 := eqF h6
      refine sBind (s_X5_acted hN hK) (fun x42 b10 => ?_)
      exact sXl trivial
  · have fh4 := eqF h4
    refine sBind (s_X5_undone hN hK) (fun x24 b11 => ?_)
    obtain ⟨b11_0, b11_1, -⟩ := b11
    replace b11_0 : -9 ≤ x24.1.toInt := b11_0
    replace b11_1 : x24.1.toInt ≤ -9 := b11_1
    exact sXl trivial
set_option maxHeartbeats 2000000 in
theorem s_X5_relearn {N K : Nat} {sz : Int32} {f : Nat → Int32} {c0 : Int32} {c1 : Int32} {c2 : Int32} {c3 : Int32} {c4 : Int32} {c5 : Int32} {fw : Nat → Int32} {fs : Nat → Int32} {p0 : Int32} {p1 : Int32} {p2 : Int32} {p3 : Int32} (hN : NBig N) (hK : 100 ≤ K)  : Sf (fX5_relearn N K sz f c0 c1 c2 c3 c4 c5 fw fs p0 p1 p2 p3) (xP true true (fun (z : Int32 × Int32 × (Nat → Int32) × Int32 × Int32 × (Nat → Int32) × (Nat → Int32)) => True)) := by
  unfold fX5_relearn
  have ql0 : (0 : Int32).toInt = 0 := by decide
  refine sXb (s_X5_memoryAt hN hK) (by decide) (by decide) (fun x2 b1 => ?_)
  obtain ⟨b1_0, -⟩ := b1
  replace b1_0 : (0 ≤ p0.toInt ∧ p0.toInt ≤ 2) := b1_0
  refine sXb (s_X5_checkCase hN hK) (by decide) (by decide) (fun x11 b2 => ?_)
  obtain ⟨b2_0, b2_1, b2_2, -⟩ := b2
  replace b2_0 : (0 ≤ p1.toInt ∧ p1.toInt ≤ 5) := b2_0
  replace b2_1 : (0 ≤ p2.toInt ∧ p2.toInt ≤ 20) := b2_1
  replace b2_2 : (0 ≤ p3.toInt ∧ p3.toInt ≤ 20) := b2_2
  refine sBind (s_X2_keeps hN hK (by first | omega | decide) (by first | omega | decide) (by first | omega | decide) (by first | omega | decide) (by first | omega | decide) (by first | omega | decide)) (fun x20 b3 => ?_)
  obtain ⟨b3_0, b3_1, -⟩ := b3
  replace b3_0 : 0 ≤ x20.toInt := b3_0
  replace b3_1 : x20.toInt ≤ 1 := b3_1
  refine sIf (fun h4 => ?_) (fun h4 => ?_)
  · have fh4 := eqT h4
    refine sBind (s_X5_undone hN hK) (fun x27 b5 => ?_)
    obtain ⟨b5_0, b5_1, -⟩ := b5
    replace b5_0 : -9 ≤ x27.1.toInt := b5_0
    replace b5_1 : x27.1.toInt ≤ -9 := b5_1
    exact sXl trivial
  · have fh4 := eqF h4
    refine sBind (s_X5_waysOneByOne hN hK (by first | omega | decide) (by first | omega | decide) (by first | omega | decide) (by first | omega | decide) (by first | omega | decide) (by first | omega | decide)) (fun x36 b6 => ?_)
    refine sBind (s_X2_keep hN hK (by first | omega | decide) (by first | omega | decide) (by first | omega | decide)) (fun x49 b7 => ?_)
    refine sBind (s_X5_acted hN hK) (fun x55 b8 => ?_)
    exact sXl trivial
set_option maxHeartbeats 2000000 in
theorem s_X5_forget {N K : Nat} {sz : Int32} {f : Nat → Int32} {c0 : Int32} {c1 : Int32} {c2 : Int32} {c3 : Int32} {c4 : Int32} {c5 : Int32} {p0 : Int32} {p1 : Int32} {p2 : Int32} {p3 : Int32} (hN : NBig N) (hK : 100 ≤ K)  : Sf (fX5_forget N K sz f c0 c1 c2 c3 c4 c5 p0 p1 p2 p3) (xP true true (fun (z : Int32 × Int32 × (Nat → Int32) × Int32 × Int32) => True)) := by
  unfold fX5_forget
  have ql0 : (0 : Int32).toInt = 0 := by decide
  refine sXb (s_X5_memoryAt hN hK) (by decide) (by decide) (fun x2 b1 => ?_)
  obtain ⟨b1_0, -⟩ := b1
  replace b1_0 : (0 ≤ p0.toInt ∧ p0.toInt ≤ 2) := b1_0
  refine sXb (s_X5_checkCase hN hK) (by decide) (by decide) (fun x11 b2 => ?_)
  obtain ⟨b2_0, b2_1, b2_2, -⟩ := b2
  replace b2_0 : (0 ≤ p1.toInt ∧ p1.toInt ≤ 5) := b2_0
  replace b2_1 : (0 ≤ p2.toInt ∧ p2.toInt ≤ 20) := b2_1
  replace b2_2 : (0 ≤ p3.toInt ∧ p3.toInt ≤ 20) := b2_2
  refine sBind (s_X2_keeps hN hK (by first | omega | decide) (by first | omega | decide) (by first | omega | decide) (by first | omega | decide) (by first | omega | decide) (by first | omega | decide)) (fun x20 b3 => ?_)
  obtain ⟨b3_0, b3_1, -⟩ := b3
  replace b3_0 : 0 ≤ x20.toInt := b3_0
  replace b3_1 : x20.toInt ≤ 1 := b3_1
  refine sIf (fun h4 => ?_) (fun h4 => ?_)
  · have fh4 := eqT h4
    refine sBind (s_X5_undone hN hK) (fun x27 b5 => ?_)
    obtain ⟨b5_0, b5_1, -⟩ := b5
    replace b5_0 : -9 ≤ x27.1.toInt := b5_0
    replace b5_1 : x27.1.toInt ≤ -9 := b5_1
    exact sXl trivial
  · have fh4 := eqF h4
    refine sBind (s_X2_keptWorth hN hK (by first | omega | decide) (by first | omega | decide) (by first | omega | decide) (by first | omega | decide) (by first | omega | decide) (by first | omega | decide)) (fun x37 b6 => ?_)
    refine sBind (s_X2_drop hN hK (by first | omega | decide) (by first | omega | decide) (by first | omega | decide) (by first | omega | decide) (by first | omega | decide) (by first | omega | decide)) (fun x48 b7 => ?_)
    refine sBind (s_X5_acted hN hK) (fun x54 b8 => ?_)
    exact sXl trivial
set_option maxHeartbeats 2000000 in
theorem s_X5_forgetIf {N K : Nat} {sz : Int32} {f : Nat → Int32} {c0 : Int32} {c1 : Int32} {c2 : Int32} {c3 : Int32} {c4 : Int32} {c5 : Int32} {p0 : Int32} {p1 : Int32} {p2 : Int32} {p3 : Int32} {p4 : Int32} (hN : NBig N) (hK : 100 ≤ K)  : Sf (fX5_forgetIf N K sz f c0 c1 c2 c3 c4 c5 p0 p1 p2 p3 p4) (xP true true (fun (z : Int32 × Int32 × (Nat → Int32) × Int32) => True)) := by
  unfold fX5_forgetIf
  have ql0 : (0 : Int32).toInt = 0 := by decide
  have ql1 : (1 : Int32).toInt = 1 := by decide
  refine sXb (s_X5_memoryAt hN hK) (by decide) (by decide) (fun x2 b1 => ?_)
  obtain ⟨b1_0, -⟩ := b1
  replace b1_0 : (0 ≤ p0.toInt ∧ p0.toInt ≤ 2) := b1_0
  refine sXb (s_X5_checkCase hN hK) (by decide) (by decide) (fun x11 b2 => ?_)
  obtain ⟨b2_0, b2_1, b2_2, -⟩ := b2
  replace b2_0 : (0 ≤ p1.toInt ∧ p1.toInt ≤ 5) := b2_0
  replace b2_1 : (0 ≤ p2.toInt ∧ p2.toInt ≤ 20) := b2_1
  replace b2_2 : (0 ≤ p3.toInt ∧ p3.toInt ≤ 20) := b2_2
  refine sBind (s_X2_keepsWith hN hK (by first | omega | decide) (by first | omega | decide) (by first | omega | decide) (by first | omega | decide) (by first | omega | decide) (by first | omega | decide)) (fun x22 b3 => ?_)
  obtain ⟨b3_0, b3_1, -⟩ := b3
  replace b3_0 : 0 ≤ x22.toInt := b3_0
  replace b3_1 : x22.toInt ≤ 1 := b3_1
  refine sIf (fun h4 => ?_) (fun h4 => ?_)
  · have fh4 := eqT h4
    refine sBind (s_X5_acted hN hK) (fun x30 b5 => ?_)
    exact sXl trivial
  · have fh4 := eqF h4
    refine sBind (s_X2_drop hN hK (by first | omega | decide) (by first | omega | decide) (by first | omega | decide) (by first | omega | decide) (by first | omega | decide) (by first | omega | decide)) (fun x40 b6 => ?_)
    refine sBind (s_X5_acted hN hK) (fun x45 b7 => ?_)
    exact sXl trivial
set_option maxHeartbeats 2000000 in
theorem s_X5_forgetAll {N K : Nat} {sz : Int32} {f : Nat → Int32} {c0 : Int32} {c1 : Int32} {c2 : Int32} {c3 : Int32} {c4 : Int32} {c5 : Int32} {p0 : Int32} {p1 : Int32} {p2 : Int32} (hN : NBig N) (hK : 100 ≤ K)  : Sf (fX5_forgetAll N K sz f c0 c1 c2 c3 c4 c5 p0 p1 p2) (xP true true (fun (z : Int32 × Int32 × (Nat → Int32) × Int32) => True)) := by
  unfold fX5_forgetAll
  have ql0 : (0 : Int32).toInt = 0 := by decide
  have ql3 : (3 : Int32).toInt = 3 := by decide
  refine sXb (s_X5_memoryAt hN hK) (by decide) (by decide) (fun x2 b1 => ?_)
  obtain ⟨b1_0, -⟩ := b1
  replace b1_0 : (0 ≤ p0.toInt ∧ p0.toInt ≤ 2) := b1_0
  refine sXb (s_X5_checkRange hN hK (by first | omega | decide) (by first | omega | decide) (by first | omega | decide) (by first | omega | decide)) (by decide) (by decide) (fun x10 b2 => ?_)
  obtain ⟨b2_0, -⟩ := b2
  replace b2_0 : ((0 : Int32).toInt ≤ p1.toInt ∧ p1.toInt ≤ (3 : Int32).toInt) := b2_0
  refine sBind (s_X2_dropEach hN hK (by first | omega | decide) (by first | omega | decide)) (fun x18 b3 => ?_)
  refine sBind (s_X5_acted hN hK) (fun x21 b4 => ?_)
  exact sXl trivial
set_option maxHeartbeats 2000000 in
theorem s_X5_clear {N K : Nat} {sz : Int32} {f : Nat → Int32} {c0 : Int32} {c1 : Int32} {c2 : Int32} {c3 : Int32} {c4 : Int32} {c5 : Int32} {p0 : Int32} (hN : NBig N) (hK : 100 ≤ K)  : Sf (fX5_clear N K sz f c0 c1 c2 c3 c4 c5 p0) (xP true false (fun (z : Int32 × Int32 × (Nat → Int32) × Int32) => 0 ≤ z.2.1.toInt ∧ z.2.1.toInt ≤ 0 ∧ True)) := by
  unfold fX5_clear
  have ql0 : (0 : Int32).toInt = 0 := by decide
  refine sXb (s_X5_memoryAt hN hK) (by decide) (by decide) (fun x3 b1 => ?_)
  obtain ⟨b1_0, -⟩ := b1
  replace b1_0 : (0 ≤ p0.toInt ∧ p0.toInt ≤ 2) := b1_0
  refine sBind (s_X2_dropAll hN hK) (fun x6 b2 => ?_)
  obtain ⟨b2_0, b2_1, -⟩ := b2
  replace b2_0 : 0 ≤ x6.2.1.toInt := b2_0
  replace b2_1 : x6.2.1.toInt ≤ 0 := b2_1
  refine sBind (s_X5_acted hN hK) (fun x9 b3 => ?_)
  exact sXl ⟨(by show 0 ≤ x6.2.1.toInt; first | omega | assumption), (by show x6.2.1.toInt ≤ 0; first | omega | assumption), trivial⟩
set_option maxHeartbeats 2000000 in
theorem s_X5_copy {N K : Nat} {sz : Int32} {f : Nat → Int32} {tz : Int32} {f2 : Nat → Int32} {c0 : Int32} {c1 : Int32} {c2 : Int32} {c3 : Int32} {c4 : Int32} {c5 : Int32} {p0 : Int32} {p1 : Int32} (hN : NBig N) (hK : 100 ≤ K)  : Sf (fX5_copy N K sz f tz f2 c0 c1 c2 c3 c4 c5 p0 p1) (xP true false (fun (z : Int32 × Int32 × (Nat → Int32) × Int32) => True)) := by
  unfold fX5_copy
  have ql0 : (0 : Int32).toInt = 0 := by decide
  refine sXb (s_X5_memoryAt hN hK) (by decide) (by decide) (fun x2 b1 => ?_)
  obtain ⟨b1_0, -⟩ := b1
  replace b1_0 : (0 ≤ p0.toInt ∧ p0.toInt ≤ 2) := b1_0
  refine sXb (s_X5_memoryAt hN hK) (by decide) (by decide) (fun x8 b2 => ?_)
  obtain ⟨b2_0, -⟩ := b2
  replace b2_0 : (0 ≤ p1.toInt ∧ p1.toInt ≤ 2) := b2_0
  refine sBind (s_X2_become hN hK) (fun x16 b3 => ?_)
  refine sBind (s_X2_size hN hK) (fun x22 b4 => ?_)
  refine sBind (s_X5_acted hN hK) (fun x25 b5 => ?_)
  exact sXl trivial
set_option maxHeartbeats 2000000 in
theorem s_X5_copyOwn {N K : Nat} {sz : Int32} {f : Nat → Int32} {c0 : Int32} {c1 : Int32} {c2 : Int32} {c3 : Int32} {c4 : Int32} {c5 : Int32} {p0 : Int32} (hN : NBig N) (hK : 100 ≤ K)  : Sf (fX5_copyOwn N K sz f c0 c1 c2 c3 c4 c5 p0) (xP true false (fun (z : Int32 × Int32 × (Nat → Int32) × Int32) => True)) := by
  unfold fX5_copyOwn
  have ql0 : (0 : Int32).toInt = 0 := by decide
  refine sXb (s_X5_memoryAt hN hK) (by decide) (by decide) (fun x2 b1 => ?_)
  obtain ⟨b1_0, -⟩ := b1
  replace b1_0 : (0 ≤ p0.toInt ∧ p0.toInt ≤ 2) := b1_0
  refine sXb (s_X5_memoryAt hN hK) (by decide) (by decide) (fun x8 b2 => ?_)
  obtain ⟨b2_0, -⟩ := b2
  replace b2_0 : (0 ≤ p0.toInt ∧ p0.toInt ≤ 2) := b2_0
  refine sBind (s_X2_becomeOwn hN hK) (fun x16 b3 => ?_)
  refine sBind (s_X2_size hN hK) (fun x22 b4 => ?_)
  refine sBind (s_X5_acted hN hK) (fun x25 b5 => ?_)
  exact sXl trivial
set_option maxHeartbeats 2000000 in
theorem s_X5_pour {N K : Nat} {sz : Int32} {f : Nat → Int32} {tz : Int32} {f2 : Nat → Int32} {c0 : Int32} {c1 : Int32} {c2 : Int32} {c3 : Int32} {c4 : Int32} {c5 : Int32} {p0 : Int32} {p1 : Int32} (hN : NBig N) (hK : 100 ≤ K)  : Sf (fX5_pour N K sz f tz f2 c0 c1 c2 c3 c4 c5 p0 p1) (xP true false (fun (z : Int32 × Int32 × (Nat → Int32) × Int32 × Int32) => True)) := by
  unfold fX5_pour
  have ql0 : (0 : Int32).toInt = 0 := by decide
  refine sXb (s_X5_memoryAt hN hK) (by decide) (by decide) (fun x2 b1 => ?_)
  obtain ⟨b1_0, -⟩ := b1
  replace b1_0 : (0 ≤ p0.toInt ∧ p0.toInt ≤ 2) := b1_0
  refine sXb (s_X5_memoryAt hN hK) (by decide) (by decide) (fun x8 b2 => ?_)
  obtain ⟨b2_0, -⟩ := b2
  replace b2_0 : (0 ≤ p1.toInt ∧ p1.toInt ≤ 2) := b2_0
  refine sIf (fun h3 => ?_) (fun h3 => ?_)
  · have fh3 := eqT h3
    refine sBind (s_X5_undone hN hK) (fun x19 b4 => ?_)
    obtain ⟨b4_0, b4_1, -⟩ := b4
    replace b4_0 : -9 ≤ x19.1.toInt := b4_0
    replace b4_1 : x19.1.toInt ≤ -9 := b4_1
    exact sXl trivial
  · have fh3 := eqF h3
    refine sBind (s_X2_takeIn hN hK) (fun x27 b5 => ?_)
    refine sBind (s_X5_acted hN hK) (fun x30 b6 => ?_)
    exact sXl trivial
set_option maxHeartbeats 2000000 in
theorem s_X5_pourOwn {N K : Nat} {sz : Int32} {f : Nat → Int32} {c0 : Int32} {c1 : Int32} {c2 : Int32} {c3 : Int32} {c4 : Int32} {c5 : Int32} {p0 : Int32} (hN : NBig N) (hK : 100 ≤ K)  : Sf (fX5_pourOwn N K sz f c0 c1 c2 c3 c4 c5 p0) (xP true false (fun (z : Int32 × Int32) => -9 ≤ z.1.toInt ∧ z.1.toInt ≤ -9 ∧ True)) := by
  unfold fX5_pourOwn
  have ql0 : (0 : Int32).toInt = 0 := by decide
  refine sXb (s_X5_memoryAt hN hK) (by decide) (by decide) (fun x2 b1 => ?_)
  obtain ⟨b1_0, -⟩ := b1
  replace b1_0 : (0 ≤ p0.toInt ∧ p0.toInt ≤ 2) := b1_0
  refine sXb (s_X5_memoryAt hN hK) (by decide) (by decide) (fun x8 b2 => ?_)
  obtain ⟨b2_0, -⟩ := b2
  replace b2_0 : (0 ≤ p0.toInt ∧ p0.toInt ≤ 2) := b2_0
  refine sBind (s_X5_undone hN hK) (fun x19 b3 => ?_)
  obtain ⟨b3_0, b3_1, -⟩ := b3
  replace b3_0 : -9 ≤ x19.1.toInt := b3_0
  replace b3_1 : x19.1.toInt ≤ -9 := b3_1
  exact sXl ⟨(by show -9 ≤ x19.1.toInt; first | omega | assumption), (by show x19.1.toInt ≤ -9; first | omega | assumption), trivial⟩
set_option maxHeartbeats 2000000 in
theorem s_X5_isKept {N K : Nat} {sz : Int32} {f : Nat → Int32} {p0 : Int32} {p1 : Int32} {p2 : Int32} {p3 : Int32} {p4 : Int32} (hN : NBig N) (hK : 100 ≤ K)  : Sf (fX5_isKept N K sz f p0 p1 p2 p3 p4) (xP true true (fun (z : Int32) => 0 ≤ z.toInt ∧ z.toInt ≤ 1 ∧ True)) := by
  unfold fX5_isKept
  have ql0 : (0 : Int32).toInt = 0 := by decide
  have ql2 : (2 : Int32).toInt = 2 := by decide
  refine sXb (s_X5_memoryAt hN hK) (by decide) (by decide) (fun x2 b1 => ?_)
  obtain ⟨b1_0, -⟩ := b1
  replace b1_0 : (0 ≤ p0.toInt ∧ p0.toInt ≤ 2) := b1_0
  refine sXb (s_X5_checkCase hN hK) (by decide) (by decide) (fun x11 b2 => ?_)
  obtain ⟨b2_0, b2_1, b2_2, -⟩ := b2
  replace b2_0 : (0 ≤ p1.toInt ∧ p1.toInt ≤ 5) := b2_0
  replace b2_1 : (0 ≤ p2.toInt ∧ p2.toInt ≤ 20) := b2_1
  replace b2_2 : (0 ≤ p3.toInt ∧ p3.toInt ≤ 20) := b2_2
  refine sXb (s_X5_checkRange hN hK (by first | omega | decide) (by first | omega | decide) (by first | omega | decide) (by first | omega | decide)) (by decide) (by decide) (fun x18 b3 => ?_)
  obtain ⟨b3_0, -⟩ := b3
  replace b3_0 : ((0 : Int32).toInt ≤ p4.toInt ∧ p4.toInt ≤ (2 : Int32).toInt) := b3_0
  refine sBind (s_X2_keeps hN hK (by first | omega | decide) (by first | omega | decide) (by first | omega | decide) (by first | omega | decide) (by first | omega | decide) (by first | omega | decide)) (fun x27 b4 => ?_)
  obtain ⟨b4_0, b4_1, -⟩ := b4
  replace b4_0 : 0 ≤ x27.toInt := b4_0
  replace b4_1 : x27.toInt ≤ 1 := b4_1
  refine sIfT (b01 (by omega) (by omega)) ?_
  exact sXl ⟨(by show 0 ≤ x27.toInt; first | omega | assumption), (by show x27.toInt ≤ 1; first | omega | assumption), trivial⟩
set_option maxHeartbeats 2000000 in
theorem s_X5_worthOr {N K : Nat} {sz : Int32} {f : Nat → Int32} {p0 : Int32} {p1 : Int32} {p2 : Int32} {p3 : Int32} {p4 : Int32} (hN : NBig N) (hK : 100 ≤ K)  : Sf (fX5_worthOr N K sz f p0 p1 p2 p3 p4) (xP true true (fun (z : Int32) => True)) := by
  unfold fX5_worthOr
  have ql0 : (0 : Int32).toInt = 0 := by decide
  refine sXb (s_X5_memoryAt hN hK) (by decide) (by decide) (fun x2 b1 => ?_)
  obtain ⟨b1_0, -⟩ := b1
  replace b1_0 : (0 ≤ p0.toInt ∧ p0.toInt ≤ 2) := b1_0
  refine sXb (s_X5_checkCase hN hK) (by decide) (by decide) (fun x11 b2 => ?_)
  obtain ⟨b2_0, b2_1, b2_2, -⟩ := b2
  replace b2_0 : (0 ≤ p1.toInt ∧ p1.toInt ≤ 5) := b2_0
  replace b2_1 : (0 ≤ p2.toInt ∧ p2.toInt ≤ 20) := b2_1
  replace b2_2 : (0 ≤ p3.toInt ∧ p3.toInt ≤ 20) := b2_2
  refine sBind (s_X2_keeps hN hK (by first | omega | decide) (by first | omega | decide) (by first | omega | decide) (by first | omega | decide) (by first | omega | decide) (by first | omega | decide)) (fun x20 b3 => ?_)
  obtain ⟨b3_0, b3_1, -⟩ := b3
  replace b3_0 : 0 ≤ x20.toInt := b3_0
  replace b3_1 : x20.toInt ≤ 1 := b3_1
  refine sIf (fun h4 => ?_) (fun h4 => ?_)
  · have fh4 := eqT h4
    exact sXl trivial
  · have fh4 := eqF h4
    refine sBind (s_X2_keptWorth hN hK (by first | omega | decide) (by first | omega | decide) (by first | omega | decide) (by first | omega | decide) (by first | omega | decide) (by first | omega | decide)) (fun x35 b5 => ?_)
    exact sXl trivial
set_option maxHeartbeats 2000000 in
theorem s_X5_confirm {N K : Nat} {sz : Int32} {f : Nat → Int32} {p0 : Int32} {p1 : Int32} {p2 : Int32} {p3 : Int32} {p4 : Int32} (hN : NBig N) (hK : 100 ≤ K)  : Sf (fX5_confirm N K sz f p0 p1 p2 p3 p4) (xP true true (fun (z : Int32) => 0 ≤ z.toInt ∧ z.toInt ≤ 1 ∧ True)) := by
  unfold fX5_confirm
  have ql0 : (0 : Int32).toInt = 0 := by decide
  refine sXb (s_X5_memoryAt hN hK) (by decide) (by decide) (fun x2 b1 => ?_)
  obtain ⟨b1_0, -⟩ := b1
  replace b1_0 : (0 ≤ p0.toInt ∧ p0.toInt ≤ 2) := b1_0
  refine sXb (s_X5_checkCase hN hK) (by decide) (by decide) (fun x11 b2 => ?_)
  obtain ⟨b2_0, b2_1, b2_2, -⟩ := b2
  replace b2_0 : (0 ≤ p1.toInt ∧ p1.toInt ≤ 5) := b2_0
  replace b2_1 : (0 ≤ p2.toInt ∧ p2.toInt ≤ 20) := b2_1
  replace b2_2 : (0 ≤ p3.toInt ∧ p3.toInt ≤ 20) := b2_2
  refine sBind (s_X2_keepsWith hN hK (by first | omega | decide) (by first | omega | decide) (by first | omega | decide) (by first | omega | decide) (by first | omega | decide) (by first | omega | decide)) (fun x22 b3 => ?_)
  obtain ⟨b3_0, b3_1, -⟩ := b3
  replace b3_0 : 0 ≤ x22.toInt := b3_0
  replace b3_1 : x22.toInt ≤ 1 := b3_1
  refine sIfT (b01 (by omega) (by omega)) ?_
  exact sXl ⟨(by show 0 ≤ x22.toInt; first | omega | assumption), (by show x22.toInt ≤ 1; first | omega | assumption), trivial⟩
set_option maxHeartbeats 2000000 in
theorem s_X5_about {N K : Nat} {sz : Int32} {f : Nat → Int32} {p0 : Int32} {p1 : Int32} (hN : NBig N) (hK : 100 ≤ K)  : Sf (fX5_about N K sz f p0 p1) (xP true true (fun (z : Int32) => True)) := by
  unfold fX5_about
  have ql0 : (0 : Int32).toInt = 0 := by decide
  have ql1 : (1 : Int32).toInt = 1 := by decide
  have ql2 : (2 : Int32).toInt = 2 := by decide
  have ql3 : (3 : Int32).toInt = 3 := by decide
  refine sXb (s_X5_memoryAt hN hK) (by decide) (by decide) (fun x2 b1 => ?_)
  obtain ⟨b1_0, -⟩ := b1
  replace b1_0 : (0 ≤ p0.toInt ∧ p0.toInt ≤ 2) := b1_0
  refine sXb (s_X5_checkRange hN hK (by first | omega | decide) (by first | omega | decide) (by first | omega | decide) (by first | omega | decide)) (by decide) (by decide) (fun x9 b2 => ?_)
  obtain ⟨b2_0, -⟩ := b2
  replace b2_0 : ((0 : Int32).toInt ≤ p1.toInt ∧ p1.toInt ≤ (3 : Int32).toInt) := b2_0
  refine sIf (fun h3 => ?_) (fun h3 => ?_)
  · have fh3 := eqT h3
    refine sBind (s_X2_size hN hK) (fun x41 b4 => ?_)
    exact sXl trivial
  · have fh3 := eqF h3
    refine sIf (fun h5 => ?_) (fun h5 => ?_)
    · have fh5 := eqT h5
      refine sBind (s_X2_mark hN hK) (fun x46 b6 => ?_)
      exact sXl trivial
    · have fh5 := eqF h5
      refine sIf (fun h7 => ?_) (fun h7 => ?_)
      · have fh7 := eqT h7
        refine sBind (s_X2_sumOfWorths hN hK) (fun x51 b8 => ?_)
        exact sXl trivial
      · have fh7 := eqF h7
        refine sBind (s_X2_size hN hK) (fun x56 b9 => ?_)
        refine sIf (fun h10 => ?_) (fun h10 => ?_)
        · have fh10 := eqT h10
          exact sXl trivial
        · have fh10 := eqF h10
          exact sXl trivial
set_option maxHeartbeats 2000000 in
theorem s_X5_has {N K : Nat} {sz : Int32} {f : Nat → Int32} {p0 : Int32} {p1 : Int32} (hN : NBig N) (hK : 100 ≤ K)  : Sf (fX5_has N K sz f p0 p1) (xP true false (fun (z : Int32) => 0 ≤ z.toInt ∧ z.toInt ≤ 1 ∧ True)) := by
  unfold fX5_has
  have ql0 : (0 : Int32).toInt = 0 := by decide
  have ql1 : (1 : Int32).toInt = 1 := by decide
  have ql3 : (3 : Int32).toInt = 3 := by decide
  refine sXb (s_X5_memoryAt hN hK) (by decide) (by decide) (fun x2 b1 => ?_)
  obtain ⟨b1_0, -⟩ := b1
  replace b1_0 : (0 ≤ p0.toInt ∧ p0.toInt ≤ 2) := b1_0
  refine sBind (s_X2_howMany hN hK (by first | omega | decide) (by first | omega | decide)) (fun x7 b2 => ?_)
  refine sIf (fun h3 => ?_) (fun h3 => ?_)
  · have fh3 := leT h3
    exact sXl ⟨(by show 0 ≤ (0 : Int32).toInt; decide), (by show (0 : Int32).toInt ≤ 1; decide), trivial⟩
  · have fh3 := leF h3
    exact sXl ⟨(by show 0 ≤ (1 : Int32).toInt; decide), (by show (1 : Int32).toInt ≤ 1; decide), trivial⟩
set_option maxHeartbeats 2000000 in
theorem s_X5_count {N K : Nat} {sz : Int32} {f : Nat → Int32} {p0 : Int32} {p1 : Int32} {p2 : Int32} (hN : NBig N) (hK : 100 ≤ K)  : Sf (fX5_count N K sz f p0 p1 p2) (xP true true (fun (z : Int32) => True)) := by
  unfold fX5_count
  have ql0 : (0 : Int32).toInt = 0 := by decide
  have ql3 : (3 : Int32).toInt = 3 := by decide
  refine sXb (s_X5_memoryAt hN hK) (by decide) (by decide) (fun x2 b1 => ?_)
  obtain ⟨b1_0, -⟩ := b1
  replace b1_0 : (0 ≤ p0.toInt ∧ p0.toInt ≤ 2) := b1_0
  refine sXb (s_X5_checkRange hN hK (by first | omega | decide) (by first | omega | decide) (by first | omega | decide) (by first | omega | decide)) (by decide) (by decide) (fun x10 b2 => ?_)
  obtain ⟨b2_0, -⟩ := b2
  replace b2_0 : ((0 : Int32).toInt ≤ p1.toInt ∧ p1.toInt ≤ (3 : Int32).toInt) := b2_0
  refine sBind (s_X2_howMany hN hK (by first | omega | decide) (by first | omega | decide)) (fun x17 b3 => ?_)
  exact sXl trivial
set_option maxHeartbeats 2000000 in
theorem s_X5_isSame {N K : Nat} {sz : Int32} {f : Nat → Int32} {tz : Int32} {f2 : Nat → Int32} {p0 : Int32} {p1 : Int32} (hN : NBig N) (hK : 100 ≤ K)  : Sf (fX5_isSame N K sz f tz f2 p0 p1) (xP true false (fun (z : Int32) => 0 ≤ z.toInt ∧ z.toInt ≤ 1 ∧ True)) := by
  unfold fX5_isSame
  have ql0 : (0 : Int32).toInt = 0 := by decide
  refine sXb (s_X5_memoryAt hN hK) (by decide) (by decide) (fun x2 b1 => ?_)
  obtain ⟨b1_0, -⟩ := b1
  replace b1_0 : (0 ≤ p0.toInt ∧ p0.toInt ≤ 2) := b1_0
  refine sXb (s_X5_memoryAt hN hK) (by decide) (by decide) (fun x8 b2 => ?_)
  obtain ⟨b2_0, -⟩ := b2
  replace b2_0 : (0 ≤ p1.toInt ∧ p1.toInt ≤ 2) := b2_0
  refine sBind (s_X2_isLike hN hK) (fun x16 b3 => ?_)
  obtain ⟨b3_0, b3_1, -⟩ := b3
  replace b3_0 : 0 ≤ x16.toInt := b3_0
  replace b3_1 : x16.toInt ≤ 1 := b3_1
  refine sIfT (b01 (by omega) (by omega)) ?_
  exact sXl ⟨(by show 0 ≤ x16.toInt; first | omega | assumption), (by show x16.toInt ≤ 1; first | omega | assumption), trivial⟩
