set_option maxHeartbeats 2000000 in
theorem s_X7_row_64 {N K : Nat} {p0 : Int32} {p1 : Int32} (hN : NBig N) (hK : 100 ≤ K) (hp0 : 0 ≤ p0.toInt) (hp1 : p0.toInt ≤ 7) (hp2 : 0 ≤ p1.toInt) (hp3 : p1.toInt ≤ 20) : ∀ (l3 : Int32) (l4 : Int32) (e_v0 : Nat → Int32), 2 ≤ p0.toInt → p0.toInt ≤ 7 → -1 ≤ l3.toInt → l3.toInt ≤ 39 → 0 ≤ l4.toInt → l4.toInt ≤ 1 → Sf (fX7_row_64 N K p0 p1  l3 l4 e_v0) (fun (z : (Nat → Int32)) => True) := by
  intro l3 l4 e_v0 hq0 hq1 hq2 hq3 hq4 hq5
  unfold fX7_row_64
  have ql0 : (0 : Int32).toInt = 0 := by decide
  have ql1 : (1 : Int32).toInt = 1 := by decide
  have r1 := rgI l3
  have r2 := rgI l4
  exact s_X7_row_69  hN hK (by omega) (by omega) (by omega) (by omega) _ _ _ _ (by first | omega | decide) (by first | omega | decide) (by first | omega | decide) (by first | omega | decide) (by first | omega | decide) (by first | omega | decide) (by first | omega | decide)
set_option maxHeartbeats 2000000 in
theorem s_X7_row_46 {N K : Nat} {p0 : Int32} {p1 : Int32} (hN : NBig N) (hK : 100 ≤ K) (hp0 : 0 ≤ p0.toInt) (hp1 : p0.toInt ≤ 7) (hp2 : 0 ≤ p1.toInt) (hp3 : p1.toInt ≤ 20) : ∀ (l3 : Int32) (s0 : Int32) (e_v0 : Nat → Int32), -1 ≤ l3.toInt → l3.toInt ≤ 39 → 0 ≤ s0.toInt → s0.toInt ≤ 1 → (s0.toInt = 0 → 0 ≤ p0.toInt ∧ p0.toInt ≤ 6 ∧ 0 ≤ p1.toInt ∧ p1.toInt ≤ 20) → Sf (fX7_row_46 N K p0 p1  l3 s0 e_v0) (fun (z : (Nat → Int32)) => True) := by
  intro l3 s0 e_v0 hq0 hq1 hq2 hq3 hq4
  unfold fX7_row_46
  have ql0 : (0 : Int32).toInt = 0 := by decide
  have ql2 : (2 : Int32).toInt = 2 := by decide
  have ql4 : (4 : Int32).toInt = 4 := by decide
  have ql7 : (7 : Int32).toInt = 7 := by decide
  refine sIf (fun h1 => ?_) (fun h1 => ?_)
  · have r2 := rgI p0
    have fh1 := eqT h1
    have r3 := rgI l3
    have r4 := rgI s0
    exact s_X7_row_64  hN hK (by omega) (by omega) (by omega) (by omega) _ _ _ (by first | omega | decide) (by first | omega | decide) (by first | omega | decide) (by first | omega | decide) (by first | omega | decide) (by first | omega | decide)
  · have r5 := rgI p0
    have fh1 := eqF h1
    refine sIf (fun h6 => ?_) (fun h6 => ?_)
    · have fh6 := eqT h6
      have r7 := rgI l3
      have r8 := rgI s0
      exact s_X7_row_64  hN hK (by omega) (by omega) (by omega) (by omega) _ _ _ (by first | omega | decide) (by first | omega | decide) (by first | omega | decide) (by first | omega | decide) (by first | omega | decide) (by first | omega | decide)
    · have fh6 := eqF h6
      refine sIf (fun h9 => ?_) (fun h9 => ?_)
      · have fh9 := eqT h9
        have r10 := rgI l3
        have r11 := rgI s0
        exact s_X7_row_64  hN hK (by omega) (by omega) (by omega) (by omega) _ _ _ (by first | omega | decide) (by first | omega | decide) (by first | omega | decide) (by first | omega | decide) (by first | omega | decide) (by first | omega | decide)
      · have fh9 := eqF h9
        have r12 := rgI l3
        have r13 := rgI s0
        exact s_X7_row_69  hN hK (by omega) (by omega) (by omega) (by omega) _ _ _ _ (by first | omega | decide) (by first | omega | decide) (by first | omega | decide) (by first | omega | decide) (by first | omega | decide) (by first | omega | decide) (by first | omega | decide)
set_option maxHeartbeats 2000000 in
theorem s_X7_row_41 {N K : Nat} {p0 : Int32} {p1 : Int32} (hN : NBig N) (hK : 100 ≤ K) (hp0 : 0 ≤ p0.toInt) (hp1 : p0.toInt ≤ 7) (hp2 : 0 ≤ p1.toInt) (hp3 : p1.toInt ≤ 20) : ∀ (l3 : Int32) (e_v0 : Nat → Int32), 3 ≤ p0.toInt → p0.toInt ≤ 7 → -1 ≤ l3.toInt → l3.toInt ≤ 39 → Sf (fX7_row_41 N K p0 p1  l3 e_v0) (fun (z : (Nat → Int32)) => True) := by
  intro l3 e_v0 hq0 hq1 hq2 hq3
  unfold fX7_row_41
  have ql0 : (0 : Int32).toInt = 0 := by decide
  have ql1 : (1 : Int32).toInt = 1 := by decide
  have r1 := rgI l3
  exact s_X7_row_46  hN hK (by omega) (by omega) (by omega) (by omega) _ _ _ (by first | omega | decide) (by first | omega | decide) (by first | omega | decide) (by first | omega | decide) (by first | omega | decide)
set_option maxHeartbeats 2000000 in
theorem s_X7_row_24 {N K : Nat} {p0 : Int32} {p1 : Int32} (hN : NBig N) (hK : 100 ≤ K) (hp0 : 0 ≤ p0.toInt) (hp1 : p0.toInt ≤ 7) (hp2 : 0 ≤ p1.toInt) (hp3 : p1.toInt ≤ 20) : ∀ (s0 : Int32) (e_v0 : Nat → Int32), -1 ≤ s0.toInt → s0.toInt ≤ 39 → (s0.toInt = 0 → 0 ≤ p0.toInt ∧ p0.toInt ≤ 7 ∧ 0 ≤ p1.toInt ∧ p1.toInt ≤ 20) → Sf (fX7_row_24 N K p0 p1  s0 e_v0) (fun (z : (Nat → Int32)) => True) := by
  intro s0 e_v0 hq0 hq1 hq2
  unfold fX7_row_24
  have ql0 : (0 : Int32).toInt = 0 := by decide
  have ql3 : (3 : Int32).toInt = 3 := by decide
  have ql4 : (4 : Int32).toInt = 4 := by decide
  have ql7 : (7 : Int32).toInt = 7 := by decide
  refine sIf (fun h1 => ?_) (fun h1 => ?_)
  · have r2 := rgI p0
    have fh1 := eqT h1
    have r3 := rgI s0
    exact s_X7_row_41  hN hK (by omega) (by omega) (by omega) (by omega) _ _ (by first | omega | decide) (by first | omega | decide) (by first | omega | decide) (by first | omega | decide)
  · have r4 := rgI p0
    have fh1 := eqF h1
    refine sIf (fun h5 => ?_) (fun h5 => ?_)
    · have fh5 := eqT h5
      have r6 := rgI s0
      exact s_X7_row_41  hN hK (by omega) (by omega) (by omega) (by omega) _ _ (by first | omega | decide) (by first | omega | decide) (by first | omega | decide) (by first | omega | decide)
    · have fh5 := eqF h5
      refine sIf (fun h7 => ?_) (fun h7 => ?_)
      · have fh7 := eqT h7
        have r8 := rgI s0
        exact s_X7_row_41  hN hK (by omega) (by omega) (by omega) (by omega) _ _ (by first | omega | decide) (by first | omega | decide) (by first | omega | decide) (by first | omega | decide)
      · have fh7 := eqF h7
        have r9 := rgI s0
        exact s_X7_row_46  hN hK (by omega) (by omega) (by omega) (by omega) _ _ _ (by first | omega | decide) (by first | omega | decide) (by first | omega | decide) (by first | omega | decide) (by first | omega | decide)
set_option maxHeartbeats 2000000 in
theorem s_X7_row {N K : Nat} {p0 : Int32} {p1 : Int32} (hN : NBig N) (hK : 100 ≤ K) (hp0 : 0 ≤ p0.toInt) (hp1 : p0.toInt ≤ 7) (hp2 : 0 ≤ p1.toInt) (hp3 : p1.toInt ≤ 20) : Sf (fX7_row N K p0 p1) (fun (z : (Nat → Int32)) => True) := by
  unfold fX7_row
  have ql0 : (0 : Int32).toInt = 0 := by decide
  have ql1 : (1 : Int32).toInt = 1 := by decide
  have ql2 : (2 : Int32).toInt = 2 := by decide
  have ql7 : (7 : Int32).toInt = 7 := by decide
  refine sIf (fun h1 => ?_) (fun h1 => ?_)
  · have r2 := rgI p0
    have fh1 := eqT h1
    have r5 := rgI p1
    have t4 := mulL (a := (2 : Int32)) (b := p1) ql2 (by omega) (by omega)
    have t3 := subI (a := ((2 : Int32) * p1)) (b := (1 : Int32)) (by omega) (by omega)
    exact s_X7_row_24  hN hK (by omega) (by omega) (by omega) (by omega) _ _ (by first | omega | decide) (by first | omega | decide) (by first | omega | decide)
  · have r6 := rgI p0
    have fh1 := eqF h1
    have r7 := rgI p1
    exact s_X7_row_24  hN hK (by omega) (by omega) (by omega) (by omega) _ _ (by first | omega | decide) (by first | omega | decide) (by first | omega | decide)
set_option maxHeartbeats 2000000 in
theorem s_X7_told_29 {N K : Nat} {f : Nat → Int32} {p0 : Int32} {p1 : Int32} {p2 : Int32} (hN : NBig N) (hK : 100 ≤ K) (hp0 : 0 ≤ p0.toInt) (hp1 : p0.toInt ≤ 7) (hp2 : 0 ≤ p1.toInt) (hp3 : p1.toInt ≤ 20) (hp4 : 0 ≤ p2.toInt) (hp5 : p2.toInt ≤ 20) : ∀ (s0 : Int32), -210 ≤ s0.toInt → s0.toInt ≤ 20 → (s0.toInt = 0 → 0 ≤ p0.toInt ∧ p0.toInt ≤ 7 ∧ 0 ≤ p1.toInt ∧ p1.toInt ≤ 20 ∧ 0 ≤ p2.toInt ∧ p2.toInt ≤ 20) → Sf (fX7_told_29 N K f p0 p1 p2  s0) (fun (z : Int32) => True) := by
  intro s0 hq0 hq1 hq2
  unfold fX7_told_29
  have ql0 : (0 : Int32).toInt = 0 := by decide
  refine sIf (fun h1 => ?_) (fun h1 => ?_)
  · have r2 := rgI s0
    have fh1 := leT h1
    refine sIfF (noob (by omega) (by omega)) ?_
    have r3 := rgI (f s0.toNatClampNeg)
    exact sRet trivial
  · have r4 := rgI s0
    have fh1 := leF h1
    exact sRet trivial
set_option maxHeartbeats 2000000 in
theorem s_X7_told {N K : Nat} {f : Nat → Int32} {p0 : Int32} {p1 : Int32} {p2 : Int32} (hN : NBig N) (hK : 100 ≤ K) (hp0 : 0 ≤ p0.toInt) (hp1 : p0.toInt ≤ 7) (hp2 : 0 ≤ p1.toInt) (hp3 : p1.toInt ≤ 20) (hp4 : 0 ≤ p2.toInt) (hp5 : p2.toInt ≤ 20) : Sf (fX7_told N K f p0 p1 p2) (fun (z : Int32) => True) := by
  unfold fX7_told
  have ql0 : (0 : Int32).toInt = 0 := by decide
  have ql1 : (1 : Int32).toInt = 1 := by decide
  have ql2 : (2 : Int32).toInt = 2 := by decide
  have ql5 : (5 : Int32).toInt = 5 := by decide
  refine sIf (fun h1 => ?_) (fun h1 => ?_)
  · have r2 := rgI p0
    have fh1 := eqT h1
    have r4 := rgI p1
    have r5 := rgI p2
    have t3 := subI (a := p1) (b := p2) (by omega) (by omega)
    exact s_X7_told_29  hN hK (by omega) (by omega) (by omega) (by omega) (by omega) (by omega) _ (by first | omega | decide) (by first | omega | decide) (by first | omega | decide)
  · have r6 := rgI p0
    have fh1 := eqF h1
    refine sIf (fun h7 => ?_) (fun h7 => ?_)
    · have fh7 := eqT h7
      have r9 := rgI p1
      have r12 := rgI p2
      have t13 := addI (a := p2) (b := (1 : Int32)) (by omega) (by omega)
      have t11 := mulV (a := p2) (b := (p2 + (1 : Int32))) (x0 := 0) (y0 := 1) (x := 20) (y := 21) (z0 := 0) (z := 420) (by omega) (by omega) (by omega) (by omega) (by decide) (by decide) (by decide) (by decide) (by decide)
      have t10 := divL (a := (p2 * (p2 + (1 : Int32)))) (b := (2 : Int32)) ql2 (by omega) (by omega)
      have t8 := subI (a := p1) (b := ((p2 * (p2 + (1 : Int32))) / (2 : Int32))) (by omega) (by omega)
      exact s_X7_told_29  hN hK (by omega) (by omega) (by omega) (by omega) (by omega) (by omega) _ (by first | omega | decide) (by first | omega | decide) (by first | omega | decide)
    · have fh7 := eqF h7
      have r14 := rgI p1
      exact s_X7_told_29  hN hK (by omega) (by omega) (by omega) (by omega) (by omega) (by omega) _ (by first | omega | decide) (by first | omega | decide) (by first | omega | decide)
set_option maxHeartbeats 2000000 in
theorem s_X7_series {N K : Nat} {p0 : Int32} {p1 : Int32} {p2 : Int32} (hN : NBig N) (hK : 100 ≤ K) (hp0 : 0 ≤ p0.toInt) (hp1 : p0.toInt ≤ 7) (hp2 : 0 ≤ p1.toInt) (hp3 : p1.toInt ≤ 20) (hp4 : 0 ≤ p2.toInt) (hp5 : p2.toInt ≤ 20) : Sf (fX7_series N K p0 p1 p2) (fun (z : Int32) => True) := by
  unfold fX7_series
  have ql0 : (0 : Int32).toInt = 0 := by decide
  have r1 := rgI p0
  have r2 := rgI p2
  refine sBind (s_X7_row hN hK (by first | omega | decide) (by first | omega | decide) (by first | omega | decide) (by first | omega | decide)) (fun x2 b3 => ?_)
  have r4 := rgI p1
  refine sBind (s_X7_told hN hK (by first | omega | decide) (by first | omega | decide) (by first | omega | decide) (by first | omega | decide) (by first | omega | decide) (by first | omega | decide)) (fun x8 b5 => ?_)
  have r6 := rgI x8
  exact sRet trivial
set_option maxHeartbeats 2000000 in
theorem s_X7_number_4 {N K : Nat} {f : Nat → Int32} (hN : NBig N) (hK : 100 ≤ K)  : ∀ (fu : Nat) (l1 : Int32) (l2 : Int32), (21 - l2.toInt).toNat < fu → 1 ≤ l2.toInt → l2.toInt ≤ 21 → Sf (fX7_number_4 N K f  fu l1 l2) (fun (z : Int32) => True) := by
  intro fu
  induction fu with
  | zero => intro l1 l2 h0 hq0 hq1; omega
  | succ fu ih =>
    intro l1 l2 h0 hq0 hq1
    unfold fX7_number_4
    have ql0 : (0 : Int32).toInt = 0 := by decide
    have ql1 : (1 : Int32).toInt = 1 := by decide
    have ql20 : (20 : Int32).toInt = 20 := by decide
    refine sIf (fun h1 => ?_) (fun h1 => ?_)
    · have r2 := rgI l2
      have fh1 := ltT h1
      have r3 := rgI l1
      exact sRet trivial
    · have r4 := rgI l2
      have fh1 := ltF h1
      refine sIfF (noob (by omega) (by omega)) ?_
      have r5 := rgI (l1 + (l2 * (f l2.toNatClampNeg)))
      have t6 := addI (a := l2) (b := (1 : Int32)) (by omega) (by omega)
      exact ih _ _ (by omega) (by first | omega | decide) (by first | omega | decide)
set_option maxHeartbeats 2000000 in
theorem s_X7_number {N K : Nat} {f : Nat → Int32} (hN : NBig N) (hK : 100 ≤ K)  : Sf (fX7_number N K f) (fun (z : Int32) => True) := by
  unfold fX7_number
  have hN9 := hN.u
  have ql0 : (0 : Int32).toInt = 0 := by decide
  have ql1 : (1 : Int32).toInt = 1 := by decide
  exact s_X7_number_4  hN hK _ _ _ (by omega) (by first | omega | decide) (by first | omega | decide)
set_option maxHeartbeats 2000000 in
theorem s_X7_parts_4 {N K : Nat} {f : Nat → Int32} (hN : NBig N) (hK : 100 ≤ K)  : ∀ (fu : Nat) (l1 : Int32) (l2 : Int32), (21 - l2.toInt).toNat < fu → 1 ≤ l2.toInt → l2.toInt ≤ 21 → Sf (fX7_parts_4 N K f  fu l1 l2) (fun (z : Int32) => True) := by
  intro fu
  induction fu with
  | zero => intro l1 l2 h0 hq0 hq1; omega
  | succ fu ih =>
    intro l1 l2 h0 hq0 hq1
    unfold fX7_parts_4
    have ql0 : (0 : Int32).toInt = 0 := by decide
    have ql1 : (1 : Int32).toInt = 1 := by decide
    have ql20 : (20 : Int32).toInt = 20 := by decide
    refine sIf (fun h1 => ?_) (fun h1 => ?_)
    · have r2 := rgI l2
      have fh1 := ltT h1
      have r3 := rgI l1
      exact sRet trivial
    · have r4 := rgI l2
      have fh1 := ltF h1
      refine sIfF (noob (by omega) (by omega)) ?_
      have r5 := rgI (l1 + (f l2.toNatClampNeg))
      have t6 := addI (a := l2) (b := (1 : Int32)) (by omega) (by omega)
      exact ih _ _ (by omega) (by first | omega | decide) (by first | omega | decide)
set_option maxHeartbeats 2000000 in
theorem s_X7_parts {N K : Nat} {f : Nat → Int32} (hN : NBig N) (hK : 100 ≤ K)  : Sf (fX7_parts N K f) (fun (z : Int32) => True) := by
  unfold fX7_parts
  have hN9 := hN.u
  have ql0 : (0 : Int32).toInt = 0 := by decide
  have ql1 : (1 : Int32).toInt = 1 := by decide
  exact s_X7_parts_4  hN hK _ _ _ (by omega) (by first | omega | decide) (by first | omega | decide)
set_option maxHeartbeats 2000000 in
theorem s_X7_unlikeOnes_22 {N K : Nat} {f : Nat → Int32} (hN : NBig N) (hK : 100 ≤ K)  {k_4 : Int32 → Int32 → Option (Int32)} {m_4 : Nat} (hk_4 : ∀ (l1 : Int32) (l2 : Int32), (21 - l2.toInt).toNat < m_4 → 1 ≤ l2.toInt → l2.toInt ≤ 21 → Sf (k_4 l1 l2) (fun (z : Int32) => True)) : ∀ (l2 : Int32) (s0 : Int32) (s1 : Int32), 1 ≤ l2.toInt → l2.toInt ≤ 20 → 0 ≤ s0.toInt → s0.toInt ≤ 1 → (21 - l2.toInt).toNat ≤ m_4 → Sf (fX7_unlikeOnes_22 N K f k_4 l2 s0 s1) (fun (z : Int32) => True) := by
  intro l2 s0 s1 hq0 hq1 hq2 hq3 hq4
  unfold fX7_unlikeOnes_22
  have ql0 : (0 : Int32).toInt = 0 := by decide
  have ql1 : (1 : Int32).toInt = 1 := by decide
  have r1 := rgI s0
  refine sBind (s_X7_bit hN hK (by first | omega | decide) (by first | omega | decide)) (fun x22 b2 => ?_)
  obtain ⟨b2_0, b2_1, -⟩ := b2
  replace b2_0 : 0 ≤ x22.toInt := b2_0
  replace b2_1 : x22.toInt ≤ 1 := b2_1
  have r3 := rgI (s1 + x22)
  have r5 := rgI l2
  have t4 := addI (a := l2) (b := (1 : Int32)) (by omega) (by omega)
  exact hk_4 _ _ (by omega) (by first | omega | decide) (by first | omega | decide)
set_option maxHeartbeats 2000000 in
theorem s_X7_unlikeOnes_4 {N K : Nat} {f : Nat → Int32} (hN : NBig N) (hK : 100 ≤ K)  : ∀ (fu : Nat) (l1 : Int32) (l2 : Int32), (21 - l2.toInt).toNat < fu → 1 ≤ l2.toInt → l2.toInt ≤ 21 → Sf (fX7_unlikeOnes_4 N K f  fu l1 l2) (fun (z : Int32) => True) := by
  intro fu
  induction fu with
  | zero => intro l1 l2 h0 hq0 hq1; omega
  | succ fu ih =>
    intro l1 l2 h0 hq0 hq1
    unfold fX7_unlikeOnes_4
    have ql0 : (0 : Int32).toInt = 0 := by decide
    have ql1 : (1 : Int32).toInt = 1 := by decide
    have ql20 : (20 : Int32).toInt = 20 := by decide
    refine sIf (fun h1 => ?_) (fun h1 => ?_)
    · have r2 := rgI l2
      have fh1 := ltT h1
      have r3 := rgI l1
      exact sRet trivial
    · have r4 := rgI l2
      have fh1 := ltF h1
      refine sIfF (noob (by omega) (by omega)) ?_
      refine sIf (fun h5 => ?_) (fun h5 => ?_)
      · have r6 := rgI (f l2.toNatClampNeg)
        have fh5 := leT h5
        have r7 := rgI l1
        exact s_X7_unlikeOnes_22 (hk_4 := ih) hN hK _ _ _ (by first | omega | decide) (by first | omega | decide) (by first | omega | decide) (by first | omega | decide) (by omega)
      · have r8 := rgI (f l2.toNatClampNeg)
        have fh5 := leF h5
        have r9 := rgI l1
        exact s_X7_unlikeOnes_22 (hk_4 := ih) hN hK _ _ _ (by first | omega | decide) (by first | omega | decide) (by first | omega | decide) (by first | omega | decide) (by omega)
set_option maxHeartbeats 2000000 in
theorem s_X7_unlikeOnes {N K : Nat} {f : Nat → Int32} (hN : NBig N) (hK : 100 ≤ K)  : Sf (fX7_unlikeOnes N K f) (fun (z : Int32) => True) := by
  unfold fX7_unlikeOnes
  have hN9 := hN.u
  have ql0 : (0 : Int32).toInt = 0 := by decide
  have ql1 : (1 : Int32).toInt = 1 := by decide
  exact s_X7_unlikeOnes_4  hN hK _ _ _ (by omega) (by first | omega | decide) (by first | omega | decide)
set_option maxHeartbeats 2000000 in
theorem s_X7_isUnlike {N K : Nat} {f : Nat → Int32} (hN : NBig N) (hK : 100 ≤ K)  : Sf (fX7_isUnlike N K f) (fun (z : Int32) => 0 ≤ z.toInt ∧ z.toInt ≤ 1 ∧ True) := by
  unfold fX7_isUnlike
  have ql0 : (0 : Int32).toInt = 0 := by decide
  have ql1 : (1 : Int32).toInt = 1 := by decide
  refine sBind (s_X7_parts hN hK) (fun x1 b1 => ?_)
  refine sBind (s_X7_unlikeOnes hN hK) (fun x5 b2 => ?_)
  refine sIf (fun h3 => ?_) (fun h3 => ?_)
  · have r4 := rgI x1
    have r5 := rgI x5
    have fh3 := eqT h3
    exact sRet ⟨(by show 0 ≤ (1 : Int32).toInt; decide), (by show (1 : Int32).toInt ≤ 1; decide), trivial⟩
  · have r6 := rgI x1
    have r7 := rgI x5
    have fh3 := eqF h3
    exact sRet ⟨(by show 0 ≤ (0 : Int32).toInt; decide), (by show (0 : Int32).toInt ≤ 1; decide), trivial⟩
set_option maxHeartbeats 2000000 in
theorem s_X7_isOdd_22 {N K : Nat} {f : Nat → Int32} (hN : NBig N) (hK : 100 ≤ K)  {k_4 : Int32 → Int32 → Option (Int32)} {m_4 : Nat} (hk_4 : ∀ (l1 : Int32) (l2 : Int32), (22 - l2.toInt).toNat < m_4 → 2 ≤ l2.toInt → l2.toInt ≤ 22 → Sf (k_4 l1 l2) (fun (z : Int32) => True)) : ∀ (l2 : Int32) (s0 : Int32) (s1 : Int32), 2 ≤ l2.toInt → l2.toInt ≤ 20 → 0 ≤ s0.toInt → s0.toInt ≤ 1 → (22 - l2.toInt).toNat ≤ m_4 → Sf (fX7_isOdd_22 N K f k_4 l2 s0 s1) (fun (z : Int32) => True) := by
  intro l2 s0 s1 hq0 hq1 hq2 hq3 hq4
  unfold fX7_isOdd_22
  have ql0 : (0 : Int32).toInt = 0 := by decide
  have ql2 : (2 : Int32).toInt = 2 := by decide
  have r1 := rgI (s1 &&& s0)
  have r3 := rgI l2
  have t2 := addI (a := l2) (b := (2 : Int32)) (by omega) (by omega)
  exact hk_4 _ _ (by omega) (by first | omega | decide) (by first | omega | decide)
set_option maxHeartbeats 2000000 in
theorem s_X7_isOdd_4 {N K : Nat} {f : Nat → Int32} (hN : NBig N) (hK : 100 ≤ K)  : ∀ (fu : Nat) (l1 : Int32) (l2 : Int32), (22 - l2.toInt).toNat < fu → 2 ≤ l2.toInt → l2.toInt ≤ 22 → Sf (fX7_isOdd_4 N K f  fu l1 l2) (fun (z : Int32) => True) := by
  intro fu
  induction fu with
  | zero => intro l1 l2 h0 hq0 hq1; omega
  | succ fu ih =>
    intro l1 l2 h0 hq0 hq1
    unfold fX7_isOdd_4
    have ql0 : (0 : Int32).toInt = 0 := by decide
    have ql1 : (1 : Int32).toInt = 1 := by decide
    have ql20 : (20 : Int32).toInt = 20 := by decide
    refine sIf (fun h1 => ?_) (fun h1 => ?_)
    · have r2 := rgI l2
      have fh1 := ltT h1
      have r3 := rgI l1
      refine sIfT (b01 (by omega) (by omega)) ?_
      exact sRet trivial
    · have r4 := rgI l2
      have fh1 := ltF h1
      refine sIfF (noob (by omega) (by omega)) ?_
      refine sIf (fun h5 => ?_) (fun h5 => ?_)
      · have r6 := rgI (f l2.toNatClampNeg)
        have fh5 := eqT h5
        have r7 := rgI l1
        exact s_X7_isOdd_22 (hk_4 := ih) hN hK _ _ _ (by first | omega | decide) (by first | omega | decide) (by first | omega | decide) (by first | omega | decide) (by omega)
      · have r8 := rgI (f l2.toNatClampNeg)
        have fh5 := eqF h5
        have r9 := rgI l1
        exact s_X7_isOdd_22 (hk_4 := ih) hN hK _ _ _ (by first | omega | decide) (by first | omega | decide) (by first | omega | decide) (by first | omega | decide) (by omega)
set_option maxHeartbeats 2000000 in
theorem s_X7_isOdd {N K : Nat} {f : Nat → Int32} (hN : NBig N) (hK : 100 ≤ K)  : Sf (fX7_isOdd N K f) (fun (z : Int32) => True) := by
  unfold fX7_isOdd
  have hN9 := hN.u
  have ql0 : (0 : Int32).toInt = 0 := by decide
  have ql1 : (1 : Int32).toInt = 1 := by decide
  have ql2 : (2 : Int32).toInt = 2 := by decide
  exact s_X7_isOdd_4  hN hK _ _ _ (by omega) (by first | omega | decide) (by first | omega | decide)
set_option maxHeartbeats 2000000 in
theorem s_X7_greatest_3 {N K : Nat} {f : Nat → Int32} (hN : NBig N) (hK : 100 ≤ K)  : ∀ (fu : Nat) (l1 : Int32), (l1.toInt - 0).toNat < fu → 0 ≤ l1.toInt → l1.toInt ≤ 20 → Sf (fX7_greatest_3 N K f  fu l1) (fun (z : Int32) => 0 ≤ z.toInt ∧ z.toInt ≤ 20 ∧ True) := by
  intro fu
  induction fu with
  | zero => intro l1 h0 hq0 hq1; omega
  | succ fu ih =>
    intro l1 h0 hq0 hq1
    unfold fX7_greatest_3
    have ql0 : (0 : Int32).toInt = 0 := by decide
    refine sIf (fun h1 => ?_) (fun h1 => ?_)
    · have r2 := rgI l1
      have fh1 := leT h1
      exact sRet ⟨(by show 0 ≤ l1.toInt; omega), (by show l1.toInt ≤ 20; omega), trivial⟩
    · have r3 := rgI l1
      have fh1 := leF h1
      refine sIfF (noob (by omega) (by omega)) ?_
      refine sIf (fun h4 => ?_) (fun h4 => ?_)
      · have r5 := rgI (f l1.toNatClampNeg)
        have fh4 := eqT h4
        have t6 : (l1 + (-1 : Int32)).toInt = l1.toInt + (-1) := addL (by decide) (by omega) (by omega)
        exact ih _ (by omega) (by first | omega | decide) (by first | omega | decide)
      · have r7 := rgI (f l1.toNatClampNeg)
        have fh4 := eqF h4
        exact sRet ⟨(by show 0 ≤ l1.toInt; omega), (by show l1.toInt ≤ 20; omega), trivial⟩
set_option maxHeartbeats 2000000 in
theorem s_X7_greatest {N K : Nat} {f : Nat → Int32} (hN : NBig N) (hK : 100 ≤ K)  : Sf (fX7_greatest N K f) (fun (z : Int32) => 0 ≤ z.toInt ∧ z.toInt ≤ 20 ∧ True) := by
  unfold fX7_greatest
  have hN9 := hN.u
  have ql0 : (0 : Int32).toInt = 0 := by decide
  have ql20 : (20 : Int32).toInt = 20 := by decide
  exact s_X7_greatest_3  hN hK _ _ (by omega) (by first | omega | decide) (by first | omega | decide)
set_option maxHeartbeats 2000000 in
theorem s_X7_partAt_5 {N K : Nat} {f : Nat → Int32} {p0 : Int32} (hN : NBig N) (hK : 100 ≤ K) (hp0 : 1 ≤ p0.toInt) (hp1 : p0.toInt ≤ 20) : ∀ (fu : Nat) (l2 : Int32) (l3 : Int32), (l3.toInt - 0).toNat < fu → l2.toInt ≤ 19 → 0 ≤ l3.toInt → l3.toInt ≤ 20 → Sf (fX7_partAt_5 N K f p0  fu l2 l3) (fun (z : Int32) => 0 ≤ z.toInt ∧ z.toInt ≤ 20 ∧ True) := by
  intro fu
  induction fu with
  | zero => intro l2 l3 h0 hq0 hq1 hq2; omega
  | succ fu ih =>
    intro l2 l3 h0 hq0 hq1 hq2
    unfold fX7_partAt_5
    have ql0 : (0 : Int32).toInt = 0 := by decide
    refine sIf (fun h1 => ?_) (fun h1 => ?_)
    · have r2 := rgI l3
      have fh1 := leT h1
      exact sRet ⟨(by show 0 ≤ (0 : Int32).toInt; decide), (by show (0 : Int32).toInt ≤ 20; decide), trivial⟩
    · have r3 := rgI l3
      have fh1 := leF h1
      refine sIfF (noob (by omega) (by omega)) ?_
      refine sIf (fun h4 => ?_) (fun h4 => ?_)
      · have r5 := rgI (l2 + (f l3.toNatClampNeg))
        have r6 := rgI p0
        have fh4 := ltT h4
        have t7 : (l3 + (-1 : Int32)).toInt = l3.toInt + (-1) := addL (by decide) (by omega) (by omega)
        exact ih _ _ (by omega) (by first | omega | decide) (by first | omega | decide) (by first | omega | decide)
      · have r8 := rgI (l2 + (f l3.toNatClampNeg))
        have r9 := rgI p0
        have fh4 := ltF h4
        exact sRet ⟨(by show 0 ≤ l3.toInt; omega), (by show l3.toInt ≤ 20; omega), trivial⟩
set_option maxHeartbeats 2000000 in
theorem s_X7_partAt {N K : Nat} {f : Nat → Int32} {p0 : Int32} (hN : NBig N) (hK : 100 ≤ K) (hp0 : 1 ≤ p0.toInt) (hp1 : p0.toInt ≤ 20) : Sf (fX7_partAt N K f p0) (fun (z : Int32) => 0 ≤ z.toInt ∧ z.toInt ≤ 20 ∧ True) := by
  unfold fX7_partAt
  have hN9 := hN.u
  have ql0 : (0 : Int32).toInt = 0 := by decide
  have ql20 : (20 : Int32).toInt = 20 := by decide
  exact s_X7_partAt_5  hN hK (by omega) (by omega) _ _ _ (by omega) (by first | omega | decide) (by first | omega | decide) (by first | omega | decide)
set_option maxHeartbeats 2000000 in
theorem s_X7_isOwnTurned_50 {N K : Nat} {f : Nat → Int32} (hN : NBig N) (hK : 100 ≤ K)  {k_22 : Int32 → Int32 → Int32 → Option (Int32)} {m_22 : Nat} (hk_22 : ∀ (l1 : Int32) (l2 : Int32) (l3 : Int32), (l3.toInt - 0).toNat < m_22 → 0 ≤ l2.toInt → l2.toInt ≤ 1 → 0 ≤ l3.toInt → l3.toInt ≤ 20 → Sf (k_22 l1 l2 l3) (fun (z : Int32) => 0 ≤ z.toInt ∧ z.toInt ≤ 1 ∧ True)) : ∀ (l1 : Int32) (l3 : Int32) (s0 : Int32), 1 ≤ l3.toInt → l3.toInt ≤ 20 → 0 ≤ s0.toInt → s0.toInt ≤ 1 → (l3.toInt - 0).toNat ≤ m_22 → Sf (fX7_isOwnTurned_50 N K f k_22 l1 l3 s0) (fun (z : Int32) => 0 ≤ z.toInt ∧ z.toInt ≤ 1 ∧ True) := by
  intro l1 l3 s0 hq0 hq1 hq2 hq3 hq4
  unfold fX7_isOwnTurned_50
  have ql0 : (0 : Int32).toInt = 0 := by decide
  have r1 := rgI l1
  have r2 := rgI s0
  have r4 := rgI l3
  have t3 : (l3 + (-1 : Int32)).toInt = l3.toInt + (-1) := addL (by decide) (by omega) (by omega)
  exact hk_22 _ _ _ (by omega) (by first | omega | decide) (by first | omega | decide) (by first | omega | decide) (by first | omega | decide)
set_option maxHeartbeats 2000000 in
theorem s_X7_isOwnTurned_22 {N K : Nat} {f : Nat → Int32} (hN : NBig N) (hK : 100 ≤ K)  : ∀ (fu : Nat) (l1 : Int32) (l2 : Int32) (l3 : Int32), (l3.toInt - 0).toNat < fu → 0 ≤ l2.toInt → l2.toInt ≤ 1 → 0 ≤ l3.toInt → l3.toInt ≤ 20 → Sf (fX7_isOwnTurned_22 N K f  fu l1 l2 l3) (fun (z : Int32) => 0 ≤ z.toInt ∧ z.toInt ≤ 1 ∧ True) := by
  intro fu
  induction fu with
  | zero => intro l1 l2 l3 h0 hq0 hq1 hq2 hq3; omega
  | succ fu ih =>
    intro l1 l2 l3 h0 hq0 hq1 hq2 hq3
    unfold fX7_isOwnTurned_22
    have ql0 : (0 : Int32).toInt = 0 := by decide
    have ql1 : (1 : Int32).toInt = 1 := by decide
    refine sIf (fun h1 => ?_) (fun h1 => ?_)
    · have r2 := rgI l3
      have fh1 := leT h1
      have r3 := rgI l2
      refine sIfT (b01 (by omega) (by omega)) ?_
      exact sRet ⟨(by show 0 ≤ l2.toInt; omega), (by show l2.toInt ≤ 1; omega), trivial⟩
    · have r4 := rgI l3
      have fh1 := leF h1
      refine sIf (fun h5 => ?_) (fun h5 => ?_)
      · have r6 := rgI l2
        have fh5 := eqT h5
        refine sIfT (b01 (by omega) (by omega)) ?_
        exact sRet ⟨(by show 0 ≤ l2.toInt; omega), (by show l2.toInt ≤ 1; omega), trivial⟩
      · have r7 := rgI l2
        have fh5 := eqF h5
        refine sIfF (noob (by omega) (by omega)) ?_
        refine sBind (s_X7_partAt hN hK (by first | omega | decide) (by first | omega | decide)) (fun x38 b8 => ?_)
        obtain ⟨b8_0, b8_1, -⟩ := b8
        replace b8_0 : 0 ≤ x38.toInt := b8_0
        replace b8_1 : x38.toInt ≤ 20 := b8_1
        refine sIf (fun h9 => ?_) (fun h9 => ?_)
        · have r10 := rgI x38
          have r11 := rgI (l1 + (f l3.toNatClampNeg))
          have fh9 := eqT h9
          exact s_X7_isOwnTurned_50 (hk_22 := ih) hN hK _ _ _ (by first | omega | decide) (by first | omega | decide) (by first | omega | decide) (by first | omega | decide) (by omega)
        · have r12 := rgI x38
          have r13 := rgI (l1 + (f l3.toNatClampNeg))
          have fh9 := eqF h9
          exact s_X7_isOwnTurned_50 (hk_22 := ih) hN hK _ _ _ (by first | omega | decide) (by first | omega | decide) (by first | omega | decide) (by first | omega | decide) (by omega)
set_option maxHeartbeats 2000000 in
theorem s_X7_isOwnTurned_18 {N K : Nat} {f : Nat → Int32} (hN : NBig N) (hK : 100 ≤ K)  : ∀ (s0 : Int32), 0 ≤ s0.toInt → s0.toInt ≤ 1 → Sf (fX7_isOwnTurned_18 N K f  s0) (fun (z : Int32) => 0 ≤ z.toInt ∧ z.toInt ≤ 1 ∧ True) := by
  intro s0 hq0 hq1
  unfold fX7_isOwnTurned_18
  have hN9 := hN.u
  have ql0 : (0 : Int32).toInt = 0 := by decide
  have ql20 : (20 : Int32).toInt = 20 := by decide
  have r1 := rgI s0
  exact s_X7_isOwnTurned_22  hN hK _ _ _ _ (by omega) (by first | omega | decide) (by first | omega | decide) (by first | omega | decide) (by first | omega | decide)
set_option maxHeartbeats 2000000 in
theorem s_X7_isOwnTurned {N K : Nat} {f : Nat → Int32} (hN : NBig N) (hK : 100 ≤ K)  : Sf (fX7_isOwnTurned N K f) (fun (z : Int32) => 0 ≤ z.toInt ∧ z.toInt ≤ 1 ∧ True) := by
  unfold fX7_isOwnTurned
  have ql0 : (0 : Int32).toInt = 0 := by decide
  have ql1 : (1 : Int32).toInt = 1 := by decide
  refine sBind (s_X7_parts hN hK) (fun x3 b1 => ?_)
  refine sBind (s_X7_greatest hN hK) (fun x7 b2 => ?_)
  obtain ⟨b2_0, b2_1, -⟩ := b2
  replace b2_0 : 0 ≤ x7.toInt := b2_0
  replace b2_1 : x7.toInt ≤ 20 := b2_1
  refine sIf (fun h3 => ?_) (fun h3 => ?_)
  · have r4 := rgI x3
    have r5 := rgI x7
    have fh3 := eqT h3
    exact s_X7_isOwnTurned_18  hN hK _ (by first | omega | decide) (by first | omega | decide)
  · have r6 := rgI x3
    have r7 := rgI x7
    have fh3 := eqF h3
    exact s_X7_isOwnTurned_18  hN hK _ (by first | omega | decide) (by first | omega | decide)
set_option maxHeartbeats 2000000 in
theorem s_X7_isOfKind {N K : Nat} {f : Nat → Int32} {p0 : Int32} {p1 : Int32} (hN : NBig N) (hK : 100 ≤ K) (hp0 : 0 ≤ p0.toInt) (hp1 : p0.toInt ≤ 7) (hp2 : 0 ≤ p1.toInt) (hp3 : p1.toInt ≤ 20) : Sf (fX7_isOfKind N K f p0 p1) (fun (z : Int32) => 0 ≤ z.toInt ∧ z.toInt ≤ 1 ∧ True) := by
  unfold fX7_isOfKind
  have ql0 : (0 : Int32).toInt = 0 := by decide
  have ql1 : (1 : Int32).toInt = 1 := by decide
  have ql2 : (2 : Int32).toInt = 2 := by decide
  have ql3 : (3 : Int32).toInt = 3 := by decide
  have ql4 : (4 : Int32).toInt = 4 := by decide
  have ql5 : (5 : Int32).toInt = 5 := by decide
  have ql6 : (6 : Int32).toInt = 6 := by decide
  refine sIf (fun h1 => ?_) (fun h1 => ?_)
  · have r2 := rgI p0
    have fh1 := eqT h1
    refine sBind (s_X7_greatest hN hK) (fun x45 b3 => ?_)
    obtain ⟨b3_0, b3_1, -⟩ := b3
    replace b3_0 : 0 ≤ x45.toInt := b3_0
    replace b3_1 : x45.toInt ≤ 20 := b3_1
    refine sIf (fun h4 => ?_) (fun h4 => ?_)
    · have r5 := rgI p1
      have r6 := rgI x45
      have fh4 := ltT h4
      exact sRet ⟨(by show 0 ≤ (0 : Int32).toInt; decide), (by show (0 : Int32).toInt ≤ 1; decide), trivial⟩
    · have r7 := rgI p1
      have r8 := rgI x45
      have fh4 := ltF h4
      exact sRet ⟨(by show 0 ≤ (1 : Int32).toInt; decide), (by show (1 : Int32).toInt ≤ 1; decide), trivial⟩
  · have r9 := rgI p0
    have fh1 := eqF h1
    refine sIf (fun h10 => ?_) (fun h10 => ?_)
    · have fh10 := eqT h10
      refine sBind (s_X7_parts hN hK) (fun x59 b11 => ?_)
      refine sIf (fun h12 => ?_) (fun h12 => ?_)
      · have r13 := rgI x59
        have r14 := rgI p1
        have fh12 := eqT h12
        exact sRet ⟨(by show 0 ≤ (1 : Int32).toInt; decide), (by show (1 : Int32).toInt ≤ 1; decide), trivial⟩
      · have r15 := rgI x59
        have r16 := rgI p1
        have fh12 := eqF h12
        exact sRet ⟨(by show 0 ≤ (0 : Int32).toInt; decide), (by show (0 : Int32).toInt ≤ 1; decide), trivial⟩
    · have fh10 := eqF h10
      refine sIf (fun h17 => ?_) (fun h17 => ?_)
      · have fh17 := eqT h17
        refine sBind (s_X7_isUnlike hN hK) (fun x73 b18 => ?_)
        obtain ⟨b18_0, b18_1, -⟩ := b18
        replace b18_0 : 0 ≤ x73.toInt := b18_0
        replace b18_1 : x73.toInt ≤ 1 := b18_1
        refine sIf (fun h19 => ?_) (fun h19 => ?_)
        · have r20 := rgI x73
          have fh19 := eqT h19
          exact sRet ⟨(by show 0 ≤ (0 : Int32).toInt; decide), (by show (0 : Int32).toInt ≤ 1; decide), trivial⟩
        · have r21 := rgI x73
          have fh19 := eqF h19
          refine sBind (s_X7_greatest hN hK) (fun x80 b22 => ?_)
          obtain ⟨b22_0, b22_1, -⟩ := b22
          replace b22_0 : 0 ≤ x80.toInt := b22_0
          replace b22_1 : x80.toInt ≤ 20 := b22_1
          refine sIf (fun h23 => ?_) (fun h23 => ?_)
          · have r24 := rgI p1
            have r25 := rgI x80
            have fh23 := ltT h23
            exact sRet ⟨(by show 0 ≤ (0 : Int32).toInt; decide), (by show (0 : Int32).toInt ≤ 1; decide), trivial⟩
          · have r26 := rgI p1
            have r27 := rgI x80
            have fh23 := ltF h23
            exact sRet ⟨(by show 0 ≤ (1 : Int32).toInt; decide), (by show (1 : Int32).toInt ≤ 1; decide), trivial⟩
      · have fh17 := eqF h17
        refine sIf (fun h28 => ?_) (fun h28 => ?_)
        · have fh28 := eqT h28
          refine sBind (s_X7_isOdd hN hK) (fun x94 b29 => ?_)
          refine sIf (fun h30 => ?_) (fun h30 => ?_)
          · have r31 := rgI x94
            have fh30 := eqT h30
            exact sRet ⟨(by show 0 ≤ (0 : Int32).toInt; decide), (by show (0 : Int32).toInt ≤ 1; decide), trivial⟩
          · have r32 := rgI x94
            have fh30 := eqF h30
            refine sBind (s_X7_greatest hN hK) (fun x101 b33 => ?_)
            obtain ⟨b33_0, b33_1, -⟩ := b33
            replace b33_0 : 0 ≤ x101.toInt := b33_0
            replace b33_1 : x101.toInt ≤ 20 := b33_1
            refine sIf (fun h34 => ?_) (fun h34 => ?_)
            · have r35 := rgI p1
              have r36 := rgI x101
              have fh34 := ltT h34
              exact sRet ⟨(by show 0 ≤ (0 : Int32).toInt; decide), (by show (0 : Int32).toInt ≤ 1; decide), trivial⟩
            · have r37 := rgI p1
              have r38 := rgI x101
              have fh34 := ltF h34
              exact sRet ⟨(by show 0 ≤ (1 : Int32).toInt; decide), (by show (1 : Int32).toInt ≤ 1; decide), trivial⟩
        · have fh28 := eqF h28
          refine sIf (fun h39 => ?_) (fun h39 => ?_)
          · have fh39 := eqT h39
            refine sBind (s_X7_isOdd hN hK) (fun x115 b40 => ?_)
            refine sIf (fun h41 => ?_) (fun h41 => ?_)
            · have r42 := rgI x115
              have fh41 := eqT h41
              exact sRet ⟨(by show 0 ≤ (0 : Int32).toInt; decide), (by show (0 : Int32).toInt ≤ 1; decide), trivial⟩
            · have r43 := rgI x115
              have fh41 := eqF h41
              refine sBind (s_X7_isUnlike hN hK) (fun x122 b44 => ?_)
              obtain ⟨b44_0, b44_1, -⟩ := b44
              replace b44_0 : 0 ≤ x122.toInt := b44_0
              replace b44_1 : x122.toInt ≤ 1 := b44_1
              refine sIf (fun h45 => ?_) (fun h45 => ?_)
              · have r46 := rgI x122
                have fh45 := eqT h45
                exact sRet ⟨(by show 0 ≤ (0 : Int32).toInt; decide), (by show (0 : Int32).toInt ≤ 1; decide), trivial⟩
              · have r47 := rgI x122
                have fh45 := eqF h45
                refine sBind (s_X7_greatest hN hK) (fun x129 b48 => ?_)
                obtain ⟨b48_0, b48_1, -⟩ := b48
                replace b48_0 : 0 ≤ x129.toInt := b48_0
                replace b48_1 : x129.toInt ≤ 20 := b48_1
                refine sIf (fun h49 => ?_) (fun h49 => ?_)
                · have r50 := rgI p1
                  have r51 := rgI x129
                  have fh49 := ltT h49
                  exact sRet ⟨(by show 0 ≤ (0 : Int32).toInt; decide), (by show (0 : Int32).toInt ≤ 1; decide), trivial⟩
                · have r52 := rgI p1
                  have r53 := rgI x129
                  have fh49 := ltF h49
                  exact sRet ⟨(by show 0 ≤ (1 : Int32).toInt; decide), (by show (1 : Int32).toInt ≤ 1; decide), trivial⟩
          · have fh39 := eqF h39
            refine sIf (fun h54 => ?_) (fun h54 => ?_)
            · have fh54 := eqT h54
              refine sBind (s_X7_isUnlike hN hK) (fun x143 b55 => ?_)
              obtain ⟨b55_0, b55_1, -⟩ := b55
              replace b55_0 : 0 ≤ x143.toInt := b55_0
              replace b55_1 : x143.toInt ≤ 1 := b55_1
              refine sIf (fun h56 => ?_) (fun h56 => ?_)
              · have r57 := rgI x143
                have fh56 := eqT h56
                exact sRet ⟨(by show 0 ≤ (0 : Int32).toInt; decide), (by show (0 : Int32).toInt ≤ 1; decide), trivial⟩
              · have r58 := rgI x143
                have fh56 := eqF h56
                refine sBind (s_X7_parts hN hK) (fun x150 b59 => ?_)
                refine sIf (fun h60 => ?_) (fun h60 => ?_)
                · have r61 := rgI x150
                  have r62 := rgI p1
                  have fh60 := eqT h60
                  exact sRet ⟨(by show 0 ≤ (1 : Int32).toInt; decide), (by show (1 : Int32).toInt ≤ 1; decide), trivial⟩
                · have r63 := rgI x150
                  have r64 := rgI p1
                  have fh60 := eqF h60
                  exact sRet ⟨(by show 0 ≤ (0 : Int32).toInt; decide), (by show (0 : Int32).toInt ≤ 1; decide), trivial⟩
            · have fh54 := eqF h54
              refine sIf (fun h65 => ?_) (fun h65 => ?_)
              · have fh65 := eqT h65
                refine sBind (s_X7_parts hN hK) (fun x164 b66 => ?_)
                refine sIf (fun h67 => ?_) (fun h67 => ?_)
                · have r68 := rgI p1
                  have r69 := rgI x164
                  have fh67 := ltT h67
                  exact sRet ⟨(by show 0 ≤ (0 : Int32).toInt; decide), (by show (0 : Int32).toInt ≤ 1; decide), trivial⟩
                · have r70 := rgI p1
                  have r71 := rgI x164
                  have fh67 := ltF h67
                  exact sRet ⟨(by show 0 ≤ (1 : Int32).toInt; decide), (by show (1 : Int32).toInt ≤ 1; decide), trivial⟩
              · have fh65 := eqF h65
                refine sBind (s_X7_greatest hN hK) (fun x178 b72 => ?_)
                obtain ⟨b72_0, b72_1, -⟩ := b72
                replace b72_0 : 0 ≤ x178.toInt := b72_0
                replace b72_1 : x178.toInt ≤ 20 := b72_1
                refine sIf (fun h73 => ?_) (fun h73 => ?_)
                · have r74 := rgI p1
                  have r75 := rgI x178
                  have fh73 := ltT h73
                  exact sRet ⟨(by show 0 ≤ (0 : Int32).toInt; decide), (by show (0 : Int32).toInt ≤ 1; decide), trivial⟩
                · have r76 := rgI p1
                  have r77 := rgI x178
                  have fh73 := ltF h73
                  refine sBind (s_X7_isOwnTurned hN hK) (fun x186 b78 => ?_)
                  obtain ⟨b78_0, b78_1, -⟩ := b78
                  replace b78_0 : 0 ≤ x186.toInt := b78_0
                  replace b78_1 : x186.toInt ≤ 1 := b78_1
                  refine sIf (fun h79 => ?_) (fun h79 => ?_)
                  · have r80 := rgI x186
                    have fh79 := eqT h79
                    exact sRet ⟨(by show 0 ≤ (0 : Int32).toInt; decide), (by show (0 : Int32).toInt ≤ 1; decide), trivial⟩
                  · have r81 := rgI x186
                    have fh79 := eqF h79
                    exact sRet ⟨(by show 0 ≤ (1 : Int32).toInt; decide), (by show (1 : Int32).toInt ≤ 1; decide), trivial⟩
set_option maxHeartbeats 2000000 in
theorem s_X7_areSame_25 {N K : Nat} {f : Nat → Int32} {g : Nat → Int32} (hN : NBig N) (hK : 100 ≤ K)  {k_4 : Int32 → Int32 → Option (Int32)} {m_4 : Nat} (hk_4 : ∀ (l2 : Int32) (l3 : Int32), (21 - l3.toInt).toNat < m_4 → 1 ≤ l3.toInt → l3.toInt ≤ 21 → Sf (k_4 l2 l3) (fun (z : Int32) => True)) : ∀ (l3 : Int32) (s0 : Int32) (s1 : Int32), 1 ≤ l3.toInt → l3.toInt ≤ 20 → 0 ≤ s0.toInt → s0.toInt ≤ 1 → (21 - l3.toInt).toNat ≤ m_4 → Sf (fX7_areSame_25 N K f g k_4 l3 s0 s1) (fun (z : Int32) => True) := by
  intro l3 s0 s1 hq0 hq1 hq2 hq3 hq4
  unfold fX7_areSame_25
  have ql0 : (0 : Int32).toInt = 0 := by decide
  have ql1 : (1 : Int32).toInt = 1 := by decide
  have r1 := rgI (s1 &&& s0)
  have r3 := rgI l3
  have t2 := addI (a := l3) (b := (1 : Int32)) (by omega) (by omega)
  exact hk_4 _ _ (by omega) (by first | omega | decide) (by first | omega | decide)
set_option maxHeartbeats 2000000 in
theorem s_X7_areSame_4 {N K : Nat} {f : Nat → Int32} {g : Nat → Int32} (hN : NBig N) (hK : 100 ≤ K)  : ∀ (fu : Nat) (l2 : Int32) (l3 : Int32), (21 - l3.toInt).toNat < fu → 1 ≤ l3.toInt → l3.toInt ≤ 21 → Sf (fX7_areSame_4 N K f g  fu l2 l3) (fun (z : Int32) => True) := by
  intro fu
  induction fu with
  | zero => intro l2 l3 h0 hq0 hq1; omega
  | succ fu ih =>
    intro l2 l3 h0 hq0 hq1
    unfold fX7_areSame_4
    have ql0 : (0 : Int32).toInt = 0 := by decide
    have ql1 : (1 : Int32).toInt = 1 := by decide
    have ql20 : (20 : Int32).toInt = 20 := by decide
    refine sIf (fun h1 => ?_) (fun h1 => ?_)
    · have r2 := rgI l3
      have fh1 := ltT h1
      have r3 := rgI l2
      refine sIfT (b01 (by omega) (by omega)) ?_
      exact sRet trivial
    · have r4 := rgI l3
      have fh1 := ltF h1
      refine sIfF (noob (by omega) (by omega)) ?_
      refine sIfF (noob (by omega) (by omega)) ?_
      refine sIf (fun h5 => ?_) (fun h5 => ?_)
      · have r6 := rgI (f l3.toNatClampNeg)
        have r7 := rgI (g l3.toNatClampNeg)
        have fh5 := eqT h5
        have r8 := rgI l2
        exact s_X7_areSame_25 (hk_4 := ih) hN hK _ _ _ (by first | omega | decide) (by first | omega | decide) (by first | omega | decide) (by first | omega | decide) (by omega)
      · have r9 := rgI (f l3.toNatClampNeg)
        have r10 := rgI (g l3.toNatClampNeg)
        have fh5 := eqF h5
        have r11 := rgI l2
        exact s_X7_areSame_25 (hk_4 := ih) hN hK _ _ _ (by first | omega | decide) (by first | omega | decide) (by first | omega | decide) (by first | omega | decide) (by omega)
set_option maxHeartbeats 2000000 in
theorem s_X7_areSame {N K : Nat} {f : Nat → Int32} {g : Nat → Int32} (hN : NBig N) (hK : 100 ≤ K)  : Sf (fX7_areSame N K f g) (fun (z : Int32) => True) := by
  unfold fX7_areSame
  have hN9 := hN.u
  have ql0 : (0 : Int32).toInt = 0 := by decide
  have ql1 : (1 : Int32).toInt = 1 := by decide
  exact s_X7_areSame_4  hN hK _ _ _ (by omega) (by first | omega | decide) (by first | omega | decide)
set_option maxHeartbeats 2000000 in
theorem s_X7_firstWay {N K : Nat} {p0 : Int32} (hN : NBig N) (hK : 100 ≤ K) (hp0 : 0 ≤ p0.toInt) (hp1 : p0.toInt ≤ 20) : Sf (fX7_firstWay N K p0) (fun (z : (Nat → Int32)) => True) := by
  unfold fX7_firstWay
  have ql0 : (0 : Int32).toInt = 0 := by decide
  refine sIf (fun h1 => ?_) (fun h1 => ?_)
  · have r2 := rgI p0
    have fh1 := leT h1
    exact sRet trivial
  · have r3 := rgI p0
    have fh1 := leF h1
    refine sIfF (noob (by omega) (by omega)) ?_
    exact sRet trivial
set_option maxHeartbeats 2000000 in
theorem s_X7_isNext_49 {N K : Nat} {f : Nat → Int32} (hN : NBig N) (hK : 100 ≤ K)  : ∀ (fu : Nat) (l2 : Int32) (l3 : Int32) (f_ : (Nat → Int32)), (l3.toInt - 0).toNat < fu → 0 ≤ l3.toInt → l3.toInt ≤ 19 → Sf (fX7_isNext_49 N K f  fu l2 l3 f_) (fun (z : Int32 × (Nat → Int32)) => 0 ≤ z.1.toInt ∧ z.1.toInt ≤ 1 ∧ True) := by
  intro fu
  induction fu with
  | zero => intro l2 l3 f_ h0 hq0 hq1; omega
  | succ fu ih =>
    intro l2 l3 f_ h0 hq0 hq1
    unfold fX7_isNext_49
    have ql0 : (0 : Int32).toInt = 0 := by decide
    have ql1 : (1 : Int32).toInt = 1 := by decide
    refine sIf (fun h1 => ?_) (fun h1 => ?_)
    · have r2 := rgI l3
      have fh1 := leT h1
      exact sRet ⟨(by show 0 ≤ (1 : Int32).toInt; decide), (by show (1 : Int32).toInt ≤ 1; decide), trivial⟩
    · have r3 := rgI l3
      have fh1 := leF h1
      refine sIfF (noob (by omega) (by omega)) ?_
      refine sIfF (fun e9 => by have e8 := eqT e9; omega) ?_
      refine sIfF (noob (by omega) (by omega)) ?_
      refine sIfF (fun e9 => by have e8 := eqT e9; omega) ?_
      have r4 := rgI (l2 % l3)
      have t5 : (l3 + (-1 : Int32)).toInt = l3.toInt + (-1) := addL (by decide) (by omega) (by omega)
      exact ih _ _ _ (by omega) (by first | omega | decide) (by first | omega | decide)
set_option maxHeartbeats 2000000 in
theorem s_X7_isNext_20 {N K : Nat} {f : Nat → Int32} (hN : NBig N) (hK : 100 ≤ K)  : ∀ (l1 : Int32) (f_ : Nat → Int32), 2 ≤ l1.toInt → l1.toInt ≤ 21 → Sf (fX7_isNext_20 N K f  l1 f_) (fun (z : Int32 × (Nat → Int32)) => 0 ≤ z.1.toInt ∧ z.1.toInt ≤ 1 ∧ True) := by
  intro l1 f_ hq0 hq1
  unfold fX7_isNext_20
  have hN9 := hN.u
  have ql0 : (0 : Int32).toInt = 0 := by decide
  have ql1 : (1 : Int32).toInt = 1 := by decide
  have ql20 : (20 : Int32).toInt = 20 := by decide
  refine sIf (fun h1 => ?_) (fun h1 => ?_)
  · have r2 := rgI l1
    have fh1 := leT h1
    refine sIfF (noob (by omega) (by omega)) ?_
    refine sIfF (noob (by omega) (by omega)) ?_
    have r3 := rgI (l1 + (f_ (1 : Int32).toNatClampNeg))
    have t4 := subI (a := l1) (b := (1 : Int32)) (by omega) (by omega)
    exact s_X7_isNext_49  hN hK _ _ _ _ (by omega) (by first | omega | decide) (by first | omega | decide)
  · have r5 := rgI l1
    have fh1 := leF h1
    exact sRet ⟨(by show 0 ≤ (0 : Int32).toInt; decide), (by show (0 : Int32).toInt ≤ 1; decide), trivial⟩
set_option maxHeartbeats 2000000 in
theorem s_X7_isNext_2 {N K : Nat} {f : Nat → Int32} (hN : NBig N) (hK : 100 ≤ K)  : ∀ (fu : Nat) (l1 : Int32) (f_ : (Nat → Int32)), (21 - l1.toInt).toNat < fu → 2 ≤ l1.toInt → l1.toInt ≤ 21 → Sf (fX7_isNext_2 N K f  fu l1 f_) (fun (z : Int32 × (Nat → Int32)) => 0 ≤ z.1.toInt ∧ z.1.toInt ≤ 1 ∧ True) := by
  intro fu
  induction fu with
  | zero => intro l1 f_ h0 hq0 hq1; omega
  | succ fu ih =>
    intro l1 f_ h0 hq0 hq1
    unfold fX7_isNext_2
    have ql0 : (0 : Int32).toInt = 0 := by decide
    have ql1 : (1 : Int32).toInt = 1 := by decide
    have ql20 : (20 : Int32).toInt = 20 := by decide
    refine sIf (fun h1 => ?_) (fun h1 => ?_)
    · have r2 := rgI l1
      have fh1 := ltT h1
      exact s_X7_isNext_20  hN hK _ _ (by first | omega | decide) (by first | omega | decide)
    · have r3 := rgI l1
      have fh1 := ltF h1
      refine sIfF (noob (by omega) (by omega)) ?_
      refine sIf (fun h4 => ?_) (fun h4 => ?_)
      · have r5 := rgI (f_ l1.toNatClampNeg)
        have fh4 := eqT h4
        have t6 := addI (a := l1) (b := (1 : Int32)) (by omega) (by omega)
        exact ih _ _ (by omega) (by first | omega | decide) (by first | omega | decide)
      · have r7 := rgI (f_ l1.toNatClampNeg)
        have fh4 := eqF h4
        exact s_X7_isNext_20  hN hK _ _ (by first | omega | decide) (by first | omega | decide)
set_option maxHeartbeats 2000000 in
theorem s_X7_isNext {N K : Nat} {f : Nat → Int32} (hN : NBig N) (hK : 100 ≤ K)  : Sf (fX7_isNext N K f) (fun (z : Int32 × (Nat → Int32)) => 0 ≤ z.1.toInt ∧ z.1.toInt ≤ 1 ∧ True) := by
  unfold fX7_isNext
  have hN9 := hN.u
  have ql0 : (0 : Int32).toInt = 0 := by decide
  have ql2 : (2 : Int32).toInt = 2 := by decide
  exact s_X7_isNext_2  hN hK _ _ _ (by omega) (by first | omega | decide) (by first | omega | decide)
set_option maxHeartbeats 2000000 in
theorem s_X7_learn_81 {N K : Nat} {th : Int32} {f : Nat → Int32} {t : Nat → Int32} {p0 : Int32} {p1 : Int32} {p2 : Int32} {p3 : Int32} (hN : NBig N) (hK : 100 ≤ K)  : ∀ (l5 : Int32) (th_ : Int32) (f_ : Nat → Int32) (t_ : Nat → Int32), 0 ≤ p0.toInt → p0.toInt ≤ 2 → 0 ≤ p1.toInt → p1.toInt ≤ 5 → 1 ≤ p2.toInt → p2.toInt ≤ 20 → 1 ≤ p3.toInt → p3.toInt ≤ 20 → 0 ≤ l5.toInt → l5.toInt ≤ 1 → 0 ≤ th_.toInt → th_.toInt ≤ 2 → Sf (fX7_learn_81 N K th f t p0 p1 p2 p3  l5 th_ f_ t_) (fun (z : Int32 × Int32 × (Nat → Int32) × (Nat → Int32)) => 0 ≤ z.2.1.toInt ∧ z.2.1.toInt ≤ 2 ∧ True) := by
  intro l5 th_ f_ t_ hq0 hq1 hq2 hq3 hq4 hq5 hq6 hq7 hq8 hq9 hq10 hq11
  unfold fX7_learn_81
  have ql0 : (0 : Int32).toInt = 0 := by decide
  have r1 := rgI l5
  refine sBind (s_X7_bit hN hK (by first | omega | decide) (by first | omega | decide)) (fun x84 b2 => ?_)
  obtain ⟨b2_0, b2_1, -⟩ := b2
  replace b2_0 : 0 ≤ x84.toInt := b2_0
  replace b2_1 : x84.toInt ≤ 1 := b2_1
  have r3 := rgI th_
  have r4 := rgI x84
  refine sBind (s_X7_done hN hK (by first | omega | decide) (by first | omega | decide)) (fun x87 b5 => ?_)
  have r6 := rgI x87.1
  exact sRet ⟨(by show 0 ≤ th_.toInt; omega), (by show th_.toInt ≤ 2; omega), trivial⟩
set_option maxHeartbeats 2000000 in
theorem s_X7_learn_53 {N K : Nat} {th : Int32} {f : Nat → Int32} {t : Nat → Int32} {p0 : Int32} {p1 : Int32} {p2 : Int32} {p3 : Int32} (hN : NBig N) (hK : 100 ≤ K)  : ∀ (s0 : Int32) (th_ : Int32) (f_ : Nat → Int32) (t_ : Nat → Int32), 0 ≤ p0.toInt → p0.toInt ≤ 2 → 0 ≤ p1.toInt → p1.toInt ≤ 5 → 1 ≤ p2.toInt → p2.toInt ≤ 20 → 1 ≤ p3.toInt → p3.toInt ≤ 20 → 0 ≤ s0.toInt → s0.toInt ≤ 1 → 0 ≤ th_.toInt → th_.toInt ≤ 2 → (s0.toInt = 0 → 0 ≤ p0.toInt ∧ p0.toInt ≤ 2 ∧ 0 ≤ p1.toInt ∧ p1.toInt ≤ 5 ∧ 1 ≤ p2.toInt ∧ p2.toInt ≤ 20 ∧ 1 ≤ p3.toInt ∧ p3.toInt ≤ 20) → Sf (fX7_learn_53 N K th f t p0 p1 p2 p3  s0 th_ f_ t_) (fun (z : Int32 × Int32 × (Nat → Int32) × (Nat → Int32)) => 0 ≤ z.2.1.toInt ∧ z.2.1.toInt ≤ 2 ∧ True) := by
  intro s0 th_ f_ t_ hq0 hq1 hq2 hq3 hq4 hq5 hq6 hq7 hq8 hq9 hq10 hq11 hq12
  unfold fX7_learn_53
  have ql0 : (0 : Int32).toInt = 0 := by decide
  refine sIf (fun h1 => ?_) (fun h1 => ?_)
  · have r2 := rgI s0
    have fh1 := eqT h1
    have r3 := rgI th_
    exact s_X7_learn_81  hN hK _ _ _ _ (by first | omega | decide) (by first | omega | decide) (by first | omega | decide) (by first | omega | decide) (by first | omega | decide) (by first | omega | decide) (by first | omega | decide) (by first | omega | decide) (by first | omega | decide) (by first | omega | decide) (by first | omega | decide) (by first | omega | decide)
  · have r4 := rgI s0
    have fh1 := eqF h1
    have r5 := rgI p0
    refine sIfF (noob (by omega) (by omega)) ?_
    have r6 := rgI p1
    have r7 := rgI p2
    have r8 := rgI p3
    refine sBind (s_X7_code hN hK (by first | omega | decide) (by first | omega | decide) (by first | omega | decide)) (fun x70 b9 => ?_)
    refine sBind (s_X7_series hN hK (by first | omega | decide) (by first | omega | decide) (by first | omega | decide) (by first | omega | decide) (by first | omega | decide) (by first | omega | decide)) (fun x77 b10 => ?_)
    have r11 := rgI x70
    refine sIfF (noob (by omega) (by omega)) ?_
    have r12 := rgI th_
    exact s_X7_learn_81  hN hK _ _ _ _ (by first | omega | decide) (by first | omega | decide) (by first | omega | decide) (by first | omega | decide) (by first | omega | decide) (by first | omega | decide) (by first | omega | decide) (by first | omega | decide) (by first | omega | decide) (by first | omega | decide) (by first | omega | decide) (by first | omega | decide)
set_option maxHeartbeats 2000000 in
theorem s_X7_learn {N K : Nat} {th : Int32} {f : Nat → Int32} {t : Nat → Int32} {p0 : Int32} {p1 : Int32} {p2 : Int32} {p3 : Int32} (hN : NBig N) (hK : 100 ≤ K)  : Sf (fX7_learn N K th f t p0 p1 p2 p3) (fun (z : Int32 × Int32 × (Nat → Int32) × (Nat → Int32)) => 0 ≤ z.2.1.toInt ∧ z.2.1.toInt ≤ 2 ∧ True) := by
  unfold fX7_learn
  have ql0 : (0 : Int32).toInt = 0 := by decide
  have ql1 : (1 : Int32).toInt = 1 := by decide
  have ql2 : (2 : Int32).toInt = 2 := by decide
  have r1 := rgI p0
  refine sBind (s_X7_isNo hN hK (by first | omega | decide) (by first | omega | decide) (by first | omega | decide) (by first | omega | decide)) (fun x4 b2 => ?_)
  obtain ⟨b2_0, b2_1, b2_2, -⟩ := b2
  replace b2_0 : 0 ≤ x4.toInt := b2_0
  replace b2_1 : x4.toInt ≤ 1 := b2_1
  replace b2_2 : (x4.toInt = 0 → ((0 : Int32).toInt ≤ p0.toInt ∧ p0.toInt ≤ (2 : Int32).toInt)) := b2_2
  have r3 := rgI p1
  have r4 := rgI p2
  have r5 := rgI p3
  refine sBind (s_X7_isOut hN hK) (fun x11 b6 => ?_)
  obtain ⟨b6_0, b6_1, b6_2, b6_3, b6_4, -⟩ := b6
  replace b6_0 : 0 ≤ x11.toInt := b6_0
  replace b6_1 : x11.toInt ≤ 1 := b6_1
  replace b6_2 : (x11.toInt = 0 → (0 ≤ p1.toInt ∧ p1.toInt ≤ 5)) := b6_2
  replace b6_3 : (x11.toInt = 0 → (0 ≤ p2.toInt ∧ p2.toInt ≤ 20)) := b6_3
  replace b6_4 : (x11.toInt = 0 → (0 ≤ p3.toInt ∧ p3.toInt ≤ 20)) := b6_4
  have r7 := rgI th
  have r8 := rgI x4
  have r9 := rgI x11
  refine sBind (s_X7_isThrown hN hK (by first | omega | decide) (by first | omega | decide) (by first | omega | decide) (by first | omega | decide)) (fun x14 b10 => ?_)
  obtain ⟨b10_0, b10_1, b10_2, b10_3, b10_4, b10_5, -⟩ := b10
  replace b10_0 : 0 ≤ x14.1.toInt := b10_0
  replace b10_1 : x14.1.toInt ≤ 1 := b10_1
  replace b10_2 : 0 ≤ x14.2.toInt := b10_2
  replace b10_3 : x14.2.toInt ≤ 2 := b10_3
  replace b10_4 : (x14.1.toInt = 0 → (0 ≤ x4.toInt ∧ x4.toInt ≤ 0)) := b10_4
  replace b10_5 : (x14.1.toInt = 0 → (0 ≤ x11.toInt ∧ x11.toInt ≤ 0)) := b10_5
  refine sIf (fun h11 => ?_) (fun h11 => ?_)
  · have r12 := rgI x14.1
    have fh11 := eqT h11
    refine sBind (s_X7_rests hN hK) (fun x25 b13 => ?_)
    obtain ⟨b13_0, b13_1, b13_2, b13_3, -⟩ := b13
    replace b13_0 : 0 ≤ x25.toInt := b13_0
    replace b13_1 : x25.toInt ≤ 1 := b13_1
    replace b13_2 : (x25.toInt = 0 → (1 ≤ p2.toInt)) := b13_2
    replace b13_3 : (x25.toInt = 0 → p3.toInt ≠ 0) := b13_3
    refine sIf (fun h14 => ?_) (fun h14 => ?_)
    · have r15 := rgI x25
      have fh14 := eqT h14
      have r16 := rgI x14.2
      refine sBind (s_X7_worth hN hK (by first | omega | decide) (by first | omega | decide) (by first | omega | decide) (by first | omega | decide) (by first | omega | decide) (by first | omega | decide)) (fun x42 b17 => ?_)
      refine sIf (fun h18 => ?_) (fun h18 => ?_)
      · have r19 := rgI x42
        have fh18 := leT h18
        exact s_X7_learn_53  hN hK _ _ _ _ (by first | omega | decide) (by first | omega | decide) (by first | omega | decide) (by first | omega | decide) (by first | omega | decide) (by first | omega | decide) (by first | omega | decide) (by first | omega | decide) (by first | omega | decide) (by first | omega | decide) (by first | omega | decide) (by first | omega | decide) (by first | omega | decide)
      · have r20 := rgI x42
        have fh18 := leF h18
        exact s_X7_learn_53  hN hK _ _ _ _ (by first | omega | decide) (by first | omega | decide) (by first | omega | decide) (by first | omega | decide) (by first | omega | decide) (by first | omega | decide) (by first | omega | decide) (by first | omega | decide) (by first | omega | decide) (by first | omega | decide) (by first | omega | decide) (by first | omega | decide) (by first | omega | decide)
    · have r21 := rgI x25
      have fh14 := eqF h14
      have r22 := rgI x14.2
      refine sBind (s_X7_refused hN hK (by first | omega | decide) (by first | omega | decide)) (fun x32 b23 => ?_)
      obtain ⟨b23_0, b23_1, -⟩ := b23
      replace b23_0 : -9 ≤ x32.1.toInt := b23_0
      replace b23_1 : x32.1.toInt ≤ -9 := b23_1
      have r24 := rgI x32.1
      exact sRet ⟨(by show 0 ≤ x14.2.toInt; omega), (by show x14.2.toInt ≤ 2; omega), trivial⟩
  · have r25 := rgI x14.1
    have fh11 := eqF h11
    have r26 := rgI x14.2
    exact sRet ⟨(by show 0 ≤ x14.2.toInt; omega), (by show x14.2.toInt ≤ 2; omega), trivial⟩
