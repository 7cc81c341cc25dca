set_option maxHeartbeats 2000000 in
theorem s_X7_parts {N K : Nat} {f : Nat → Int32} (hN : NBig N) (hK : 100 ≤ K)  : Sf (fX7_parts N K f) (fun (z : Int32) => True) := by
  unfold fX7_parts
  have hN9 := hN.u
  have ql0 : (0 : Int32).toInt = 0 := by decide
  have ql1 : (1 : Int32).toInt = 1 := by decide
  exact s_X7_parts_4  hN hK _ _ _ (by omega) (by first | omega | decide) (by first | omega | decide)
set_option maxHeartbeats 2000000 in
theorem s_X7_unlikeOnes_22 {N K : Nat} {f : Nat → Int32} (hN : NBig N) (hK : 100 ≤ K)  {k_4 : Int32 → Int32 → Option (Int32)} {m_4 : Nat} (hk_4 : ∀ (l1 : Int32) (l2 : Int32), (21 - l2.toInt).toNat < m_4 → 1 ≤ l2.toInt → l2.toInt ≤ 21 → Sf (k_4 l1 l2) (fun (z : Int32) => True)) : ∀ (l2 : Int32) (s0 : Int32) (s1 : Int32), 1 ≤ l2.toInt → l2.toInt ≤ 20 → 0 ≤ s0.toInt → s0.toInt ≤ 1 → (21 - l2.toInt).toNat ≤ m_4 → Sf (fX7_unlikeOnes_22 N K f k_4 l2 s0 s1) (fun (z : Int32) => True) := by
  intro l2 s0 s1 hq0 hq1 hq2 hq3 hq4
  unfold fX7_unlikeOnes_22
  have ql0 : (0 : Int32).toInt = 0 := by decide
  have ql1 : (1 : Int32).toInt = 1 := by decide
  refine sBind (s_X7_bit hN hK (by first | omega | decide) (by first | omega | decide)) (fun x22 b1 => ?_)
  obtain ⟨b1_0, b1_1, -⟩ := b1
  replace b1_0 : 0 ≤ x22.toInt := b1_0
  replace b1_1 : x22.toInt ≤ 1 := b1_1
  have t3 := addI (a := l2) (b := (1 : Int32)) (by omega) (by omega)
  exact hk_4 _ _ (by omega) (by first | omega | decide) (by first | omega | decide)
set_option maxHeartbeats 2000000 in
theorem s_X7_unlikeOnes_4 {N K : Nat} {f : Nat → Int32} (hN : NBig N) (hK : 100 ≤ K)  : ∀ (fu : Nat) (l1 : Int32) (l2 : Int32), (21 - l2.toInt).toNat < fu → 1 ≤ l2.toInt → l2.toInt ≤ 21 → Sf (fX7_unlikeOnes_4 N K f  fu l1 l2) (fun (z : Int32) => True) := by
  intro fu
  induction fu with
  | zero => intro l1 l2 h0 hq0 hq1; omega
  | succ fu ih =>
    intro l1 l2 h0 hq0 hq1
    unfold fX7_unlikeOnes_4
    have ql0 : (0 : Int32).toInt = 0 := by decide
    have ql1 : (1 : Int32).toInt = 1 := by decide
    have ql20 : (20 : Int32).toInt = 20 := by decide
    refine sIf (fun h1 => ?_) (fun h1 => ?_)
    · have fh1 := ltT h1
      exact sRet trivial
    · have fh1 := ltF h1
      refine sIfF (noob (by omega) (by omega)) ?_
      refine sIf (fun h2 => ?_) (fun h2 => ?_)
      · have fh2 := leT h2
        exact s_X7_unlikeOnes_22 (hk_4 := ih) hN hK _ _ _ (by first | omega | decide) (by first | omega | decide) (by first | omega | decide) (by first | omega | decide) (by omega)
      · have fh2 := leF h2
        exact s_X7_unlikeOnes_22 (hk_4 := ih) hN hK _ _ _ (by first | omega | decide) (by first | omega | decide) (by first | omega | decide) (by first | omega | decide) (by omega)
set_option maxHeartbeats 2000000 in
theorem s_X7_unlikeOnes {N K : Nat} {f : Nat → Int32} (hN : NBig N) (hK : 100 ≤ K)  : Sf (fX7_unlikeOnes N K f) (fun (z : Int32) => True) := by
  unfold fX7_unlikeOnes
  have hN9 := hN.u
  have ql0 : (0 : Int32).toInt = 0 := by decide
  have ql1 : (1 : Int32).toInt = 1 := by decide
  exact s_X7_unlikeOnes_4  hN hK _ _ _ (by omega) (by first | omega | decide) (by first | omega | decide)
set_option maxHeartbeats 2000000 in
theorem s_X7_isUnlike {N K : Nat} {f : Nat → Int32} (hN : NBig N) (hK : 100 ≤ K)  : Sf (fX7_isUnlike N K f) (fun (z : Int32) => 0 ≤ z.toInt ∧ z.toInt ≤ 1 ∧ True) := by
  unfold fX7_isUnlike
  have ql0 : (0 : Int32).toInt = 0 := by decide
  have ql1 : (1 : Int32).toInt = 1 := by decide
  refine sBind (s_X7_parts hN hK) (fun x1 b1 => ?_)
  refine sBind (s_X7_unlikeOnes hN hK) (fun x5 b2 => ?_)
  refine sIf (fun h3 => ?_) (fun h3 => ?_)
  · have fh3 := eqT h3
    exact sRet ⟨(by show 0 ≤ (1 : Int32).toInt; decide), (by show (1 : Int32).toInt ≤ 1; decide), trivial⟩
  · have fh3 := eqF h3
    exact sRet ⟨(by show 0 ≤ (0 : Int32).toInt; decide), (by show (0 : Int32).toInt ≤ 1; decide), trivial⟩
set_option maxHeartbeats 2000000 in
theorem s_X7_isOdd_22 {N K : Nat} {f : Nat → Int32} (hN : NBig N) (hK : 100 ≤ K)  {k_4 : Int32 → Int32 → Option (Int32)} {m_4 : Nat} (hk_4 : ∀ (l1 : Int32) (l2 : Int32), (22 - l2.toInt).toNat < m_4 → 0 ≤ l1.toInt → l1.toInt ≤ 1 → 2 ≤ l2.toInt → l2.toInt ≤ 22 → Sf (k_4 l1 l2) (fun (z : Int32) => 0 ≤ z.toInt ∧ z.toInt ≤ 1 ∧ True)) : ∀ (l2 : Int32) (s0 : Int32) (s1 : Int32), 2 ≤ l2.toInt → l2.toInt ≤ 20 → 0 ≤ s0.toInt → s0.toInt ≤ 1 → 0 ≤ s1.toInt → s1.toInt ≤ 1 → (22 - l2.toInt).toNat ≤ m_4 → Sf (fX7_isOdd_22 N K f k_4 l2 s0 s1) (fun (z : Int32) => 0 ≤ z.toInt ∧ z.toInt ≤ 1 ∧ True) := by
  intro l2 s0 s1 hq0 hq1 hq2 hq3 hq4 hq5 hq6
  unfold fX7_isOdd_22
  have ql0 : (0 : Int32).toInt = 0 := by decide
  have ql2 : (2 : Int32).toInt = 2 := by decide
  have t101 := and01 (a := s1) (b := s0) (by omega) (by omega) (by omega) (by omega)
  have t2 := addI (a := l2) (b := (2 : Int32)) (by omega) (by omega)
  exact hk_4 _ _ (by omega) (by first | omega | decide) (by first | omega | decide) (by first | omega | decide) (by first | omega | decide)
set_option maxHeartbeats 2000000 in
theorem s_X7_isOdd_4 {N K : Nat} {f : Nat → Int32} (hN : NBig N) (hK : 100 ≤ K)  : ∀ (fu : Nat) (l1 : Int32) (l2 : Int32), (22 - l2.toInt).toNat < fu → 0 ≤ l1.toInt → l1.toInt ≤ 1 → 2 ≤ l2.toInt → l2.toInt ≤ 22 → Sf (fX7_isOdd_4 N K f  fu l1 l2) (fun (z : Int32) => 0 ≤ z.toInt ∧ z.toInt ≤ 1 ∧ True) := by
  intro fu
  induction fu with
  | zero => intro l1 l2 h0 hq0 hq1 hq2 hq3; omega
  | succ fu ih =>
    intro l1 l2 h0 hq0 hq1 hq2 hq3
    unfold fX7_isOdd_4
    have ql0 : (0 : Int32).toInt = 0 := by decide
    have ql1 : (1 : Int32).toInt = 1 := by decide
    have ql20 : (20 : Int32).toInt = 20 := by decide
    refine sIf (fun h1 => ?_) (fun h1 => ?_)
    · have fh1 := ltT h1
      refine sIfT (b01 (by omega) (by omega)) ?_
      exact sRet ⟨(by show 0 ≤ l1.toInt; first | omega | assumption), (by show l1.toInt ≤ 1; first | omega | assumption), trivial⟩
    · have fh1 := ltF h1
      refine sIfF (noob (by omega) (by omega)) ?_
      refine sIf (fun h2 => ?_) (fun h2 => ?_)
      · have fh2 := eqT h2
        exact s_X7_isOdd_22 (hk_4 := ih) hN hK _ _ _ (by first | omega | decide) (by first | omega | decide) (by first | omega | decide) (by first | omega | decide) (by first | omega | decide) (by first | omega | decide) (by omega)
      · have fh2 := eqF h2
        exact s_X7_isOdd_22 (hk_4 := ih) hN hK _ _ _ (by first | omega | decide) (by first | omega | decide) (by first | omega | decide) (by first | omega | decide) (by first | omega | decide) (by first | omega | decide) (by omega)
set_option maxHeartbeats 2000000 in
theorem s_X7_isOdd {N K : Nat} {f : Nat → Int32} (hN : NBig N) (hK : 100 ≤ K)  : Sf (fX7_isOdd N K f) (fun (z : Int32) => 0 ≤ z.toInt ∧ z.toInt ≤ 1 ∧ True) := by
  unfold fX7_isOdd
  have hN9 := hN.u
  have ql0 : (0 : Int32).toInt = 0 := by decide
  have ql1 : (1 : Int32).toInt = 1 := by decide
  have ql2 : (2 : Int32).toInt = 2 := by decide
  exact s_X7_isOdd_4  hN hK _ _ _ (by omega) (by first | omega | decide) (by first | omega | decide) (by first | omega | decide) (by first | omega | decide)
set_option maxHeartbeats 2000000 in
theorem s_X7_greatest_3 {N K : Nat} {f : Nat → Int32} (hN : NBig N) (hK : 100 ≤ K)  : ∀ (fu : Nat) (l1 : Int32), (l1.toInt - 0).toNat < fu → 0 ≤ l1.toInt → l1.toInt ≤ 20 → Sf (fX7_greatest_3 N K f  fu l1) (fun (z : Int32) => 0 ≤ z.toInt ∧ z.toInt ≤ 20 ∧ True) := by
  intro fu
  induction fu with
  | zero => intro l1 h0 hq0 hq1; omega
  | succ fu ih =>
    intro l1 h0 hq0 hq1
    unfold fX7_greatest_3
    have ql0 : (0 : Int32).toInt = 0 := by decide
    refine sIf (fun h1 => ?_) (fun h1 => ?_)
    · have fh1 := leT h1
      exact sRet ⟨(by show 0 ≤ l1.toInt; first | omega | assumption), (by show l1.toInt ≤ 20; first | omega | assumption), trivial⟩
    · have fh1 := leF h1
      refine sIfF (noob (by omega) (by omega)) ?_
      refine sIf (fun h2 => ?_) (fun h2 => ?_)
      · have fh2 := eqT h2
        have t3 : (l1 + (-1 : Int32)).toInt = l1.toInt + (-1) := addL (by decide) (by omega) (by omega)
        exact ih _ (by (try generalize l1 + (-1 : Int32) = d0_ at *); omega) (by (try generalize l1 + (-1 : Int32) = d0_ at *); first | omega | decide) (by (try generalize l1 + (-1 : Int32) = d0_ at *); first | omega | decide)
      · have fh2 := eqF h2
        exact sRet ⟨(by show 0 ≤ l1.toInt; first | omega | assumption), (by show l1.toInt ≤ 20; first | omega | assumption), trivial⟩
set_option maxHeartbeats 2000000 in
theorem s_X7_greatest {N K : Nat} {f : Nat → Int32} (hN : NBig N) (hK : 100 ≤ K)  : Sf (fX7_greatest N K f) (fun (z : Int32) => 0 ≤ z.toInt ∧ z.toInt ≤ 20 ∧ True) := by
  unfold fX7_greatest
  have hN9 := hN.u
  have ql0 : (0 : Int32).toInt = 0 := by decide
  have ql20 : (20 : Int32).toInt = 20 := by decide
  exact s_X7_greatest_3  hN hK _ _ (by omega) (by first | omega | decide) (by first | omega | decide)
set_option maxHeartbeats 2000000 in
theorem s_X7_partAt_5 {N K : Nat} {f : Nat → Int32} {p0 : Int32} (hN : NBig N) (hK : 100 ≤ K) (hp0 : 1 ≤ p0.toInt) (hp1 : p0.toInt ≤ 20) : ∀ (fu : Nat) (l2 : Int32) (l3 : Int32), (l3.toInt - 0).toNat < fu → l2.toInt ≤ 19 → 0 ≤ l3.toInt → l3.toInt ≤ 20 → Sf (fX7_partAt_5 N K f p0  fu l2 l3) (fun (z : Int32) => 0 ≤ z.toInt ∧ z.toInt ≤ 20 ∧ True) := by
  intro fu
  induction fu with
  | zero => intro l2 l3 h0 hq0 hq1 hq2; omega
  | succ fu ih =>
    intro l2 l3 h0 hq0 hq1 hq2
    unfold fX7_partAt_5
    have ql0 : (0 : Int32).toInt = 0 := by decide
    refine sIf (fun h1 => ?_) (fun h1 => ?_)
    · have fh1 := leT h1
      exact sRet ⟨(by show 0 ≤ (0 : Int32).toInt; decide), (by show (0 : Int32).toInt ≤ 20; decide), trivial⟩
    · have fh1 := leF h1
      refine sIfF (noob (by omega) (by omega)) ?_
      refine sIf (fun h2 => ?_) (fun h2 => ?_)
      · have fh2 := ltT h2
        have t5 : (l3 + (-1 : Int32)).toInt = l3.toInt + (-1) := addL (by decide) (by omega) (by omega)
        exact ih _ _ (by (try generalize l3 + (-1 : Int32) = d0_ at *); omega) (by (try generalize l3 + (-1 : Int32) = d0_ at *); first | omega | decide) (by (try generalize l3 + (-1 : Int32) = d0_ at *); first | omega | decide) (by (try generalize l3 + (-1 : Int32) = d0_ at *); first | omega | decide)
      · have fh2 := ltF h2
        exact sRet ⟨(by show 0 ≤ l3.toInt; first | omega | assumption), (by show l3.toInt ≤ 20; first | omega | assumption), trivial⟩
set_option maxHeartbeats 2000000 in
theorem s_X7_partAt {N K : Nat} {f : Nat → Int32} {p0 : Int32} (hN : NBig N) (hK : 100 ≤ K) (hp0 : 1 ≤ p0.toInt) (hp1 : p0.toInt ≤ 20) : Sf (fX7_partAt N K f p0) (fun (z : Int32) => 0 ≤ z.toInt ∧ z.toInt ≤ 20 ∧ True) := by
  unfold fX7_partAt
  have hN9 := hN.u
  have ql0 : (0 : Int32).toInt = 0 := by decide
  have ql20 : (20 : Int32).toInt = 20 := by decide
  exact s_X7_partAt_5  hN hK (by omega) (by omega) _ _ _ (by omega) (by first | omega | decide) (by first | omega | decide) (by first | omega | decide)
set_option maxHeartbeats 2000000 in
theorem s_X7_isOwnTurned_50 {N K : Nat} {f : Nat → Int32} (hN : NBig N) (hK : 100 ≤ K)  {k_22 : Int32 → Int32 → Int32 → Option (Int32)} {m_22 : Nat} (hk_22 : ∀ (l1 : Int32) (l2 : Int32) (l3 : Int32), (l3.toInt - 0).toNat < m_22 → 0 ≤ l2.toInt → l2.toInt ≤ 1 → 0 ≤ l3.toInt → l3.toInt ≤ 20 → Sf (k_22 l1 l2 l3) (fun (z : Int32) => 0 ≤ z.toInt ∧ z.toInt ≤ 1 ∧ True)) : ∀ (l1 : Int32) (l3 : Int32) (s0 : Int32), 1 ≤ l3.toInt → l3.toInt ≤ 20 → 0 ≤ s0.toInt → s0.toInt ≤ 1 → (l3.toInt - 0).toNat ≤ m_22 → Sf (fX7_isOwnTurned_50 N K f k_22 l1 l3 s0) (fun (z : Int32) => 0 ≤ z.toInt ∧ z.toInt ≤ 1 ∧ True) := by
  intro l1 l3 s0 hq0 hq1 hq2 hq3 hq4
  unfold fX7_isOwnTurned_50
  have ql0 : (0 : Int32).toInt = 0 := by decide
  have t1 : (l3 + (-1 : Int32)).toInt = l3.toInt + (-1) := addL (by decide) (by omega) (by omega)
  exact hk_22 _ _ _ (by (try generalize l3 + (-1 : Int32) = d0_ at *); omega) (by (try generalize l3 + (-1 : Int32) = d0_ at *); first | omega | decide) (by (try generalize l3 + (-1 : Int32) = d0_ at *); first | omega | decide) (by (try generalize l3 + (-1 : Int32) = d0_ at *); first | omega | decide) (by (try generalize l3 + (-1 : Int32) = d0_ at *); first | omega | decide)
set_option maxHeartbeats 2000000 in
theorem s_X7_isOwnTurned_22 {N K : Nat} {f : Nat → Int32} (hN : NBig N) (hK : 100 ≤ K)  : ∀ (fu : Nat) (l1 : Int32) (l2 : Int32) (l3 : Int32), (l3.toInt - 0).toNat < fu → 0 ≤ l2.toInt → l2.toInt ≤ 1 → 0 ≤ l3.toInt → l3.toInt ≤ 20 → Sf (fX7_isOwnTurned_22 N K f  fu l1 l2 l3) (fun (z : Int32) => 0 ≤ z.toInt ∧ z.toInt ≤ 1 ∧ True) := by
  intro fu
  induction fu with
  | zero => intro l1 l2 l3 h0 hq0 hq1 hq2 hq3; omega
  | succ fu ih =>
    intro l1 l2 l3 h0 hq0 hq1 hq2 hq3
    unfold fX7_isOwnTurned_22
    have ql0 : (0 : Int32).toInt = 0 := by decide
    have ql1 : (1 : Int32).toInt = 1 := by decide
    refine sIf (fun h1 => ?_) (fun h1 => ?_)
    · have fh1 := leT h1
      refine sIfT (b01 (by omega) (by omega)) ?_
      exact sRet ⟨(by show 0 ≤ l2.toInt; first | omega | assumption), (by show l2.toInt ≤ 1; first | omega | assumption), trivial⟩
    · have fh1 := leF h1
      refine sIf (fun h2 => ?_) (fun h2 => ?_)
      · have fh2 := eqT h2
        refine sIfT (b01 (by omega) (by omega)) ?_
        exact sRet ⟨(by show 0 ≤ l2.toInt; first | omega | assumption), (by show l2.toInt ≤ 1; first | omega | assumption), trivial⟩
      · have fh2 := eqF h2
        refine sIfF (noob (by omega) (by omega)) ?_
        refine sBind (s_X7_partAt hN hK (by first | omega | decide) (by first | omega | decide)) (fun x38 b3 => ?_)
        obtain ⟨b3_0, b3_1, -⟩ := b3
        replace b3_0 : 0 ≤ x38.toInt := b3_0
        replace b3_1 : x38.toInt ≤ 20 := b3_1
        refine sIf (fun h4 => ?_) (fun h4 => ?_)
        · have fh4 := eqT h4
          exact s_X7_isOwnTurned_50 (hk_22 := ih) hN hK _ _ _ (by first | omega | decide) (by first | omega | decide) (by first | omega | decide) (by first | omega | decide) (by omega)
        · have fh4 := eqF h4
          exact s_X7_isOwnTurned_50 (hk_22 := ih) hN hK _ _ _ (by first | omega | decide) (by first | omega | decide) (by first | omega | decide) (by first | omega | decide) (by omega)
set_option maxHeartbeats 2000000 in
theorem s_X7_isOwnTurned_18 {N K : Nat} {f : Nat → Int32} (hN : NBig N) (hK : 100 ≤ K)  : ∀ (s0 : Int32), 0 ≤ s0.toInt → s0.toInt ≤ 1 → Sf (fX7_isOwnTurned_18 N K f  s0) (fun (z : Int32) => 0 ≤ z.toInt ∧ z.toInt ≤ 1 ∧ True) := by
  intro s0 hq0 hq1
  unfold fX7_isOwnTurned_18
  have hN9 := hN.u
  have ql0 : (0 : Int32).toInt = 0 := by decide
  have ql20 : (20 : Int32).toInt = 20 := by decide
  exact s_X7_isOwnTurned_22  hN hK _ _ _ _ (by omega) (by first | omega | decide) (by first | omega | decide) (by first | omega | decide) (by first | omega | decide)
set_option maxHeartbeats 2000000 in
theorem s_X7_isOwnTurned {N K : Nat} {f : Nat → Int32} (hN : NBig N) (hK : 100 ≤ K)  : Sf (fX7_isOwnTurned N K f) (fun (z : Int32) => 0 ≤ z.toInt ∧ z.toInt ≤ 1 ∧ True) := by
  unfold fX7_isOwnTurned
  have ql0 : (0 : Int32).toInt = 0 := by decide
  have ql1 : (1 : Int32).toInt = 1 := by decide
  refine sBind (s_X7_parts hN hK) (fun x3 b1 => ?_)
  refine sBind (s_X7_greatest hN hK) (fun x7 b2 => ?_)
  obtain ⟨b2_0, b2_1, -⟩ := b2
  replace b2_0 : 0 ≤ x7.toInt := b2_0
  replace b2_1 : x7.toInt ≤ 20 := b2_1
  refine sIf (fun h3 => ?_) (fun h3 => ?_)
  · have fh3 := eqT h3
    exact s_X7_isOwnTurned_18  hN hK _ (by first | omega | decide) (by first | omega | decide)
  · have fh3 := eqF h3
    exact s_X7_isOwnTurned_18  hN hK _ (by first | omega | decide) (by first | omega | decide)
set_option maxHeartbeats 2000000 in
theorem s_X7_isOfKind {N K : Nat} {f : Nat → Int32} {p0 : Int32} {p1 : Int32} (hN : NBig N) (hK : 100 ≤ K) (hp0 : 0 ≤ p0.toInt) (hp1 : p0.toInt ≤ 7) (hp2 : 0 ≤ p1.toInt) (hp3 : p1.toInt ≤ 20) : Sf (fX7_isOfKind N K f p0 p1) (fun (z : Int32) => 0 ≤ z.toInt ∧ z.toInt ≤ 1 ∧ True) := by
  unfold fX7_isOfKind
  have ql0 : (0 : Int32).toInt = 0 := by decide
  have ql1 : (1 : Int32).toInt = 1 := by decide
  have ql2 : (2 : Int32).toInt = 2 := by decide
  have ql3 : (3 : Int32).toInt = 3 := by decide
  have ql4 : (4 : Int32).toInt = 4 := by decide
  have ql5 : (5 : Int32).toInt = 5 := by decide
  have ql6 : (6 : Int32).toInt = 6 := by decide
  refine sIf (fun h1 => ?_) (fun h1 => ?_)
  · have fh1 := eqT h1
    refine sBind (s_X7_greatest hN hK) (fun x45 b2 => ?_)
    obtain ⟨b2_0, b2_1, -⟩ := b2
    replace b2_0 : 0 ≤ x45.toInt := b2_0
    replace b2_1 : x45.toInt ≤ 20 := b2_1
    refine sIf (fun h3 => ?_) (fun h3 => ?_)
    · have fh3 := ltT h3
      exact sRet ⟨(by show 0 ≤ (0 : Int32).toInt; decide), (by show (0 : Int32).toInt ≤ 1; decide), trivial⟩
    · have fh3 := ltF h3
      exact sRet ⟨(by show 0 ≤ (1 : Int32).toInt; decide), (by show (1 : Int32).toInt ≤ 1; decide), trivial⟩
  · have fh1 := eqF h1
    refine sIf (fun h4 => ?_) (fun h4 => ?_)
    · have fh4 := eqT h4
      refine sBind (s_X7_parts hN hK) (fun x59 b5 => ?_)
      refine sIf (fun h6 => ?_) (fun h6 => ?_)
      · have fh6 := eqT h6
        exact sRet ⟨(by show 0 ≤ (1 : Int32).toInt; decide), (by show (1 : Int32).toInt ≤ 1; decide), trivial⟩
      · have fh6 := eqF h6
        exact sRet ⟨(by show 0 ≤ (0 : Int32).toInt; decide), (by show (0 : Int32).toInt ≤ 1; decide), trivial⟩
    · have fh4 := eqF h4
      refine sIf (fun h7 => ?_) (fun h7 => ?_)
      · have fh7 := eqT h7
        refine sBind (s_X7_isUnlike hN hK) (fun x73 b8 => ?_)
        obtain ⟨b8_0, b8_1, -⟩ := b8
        replace b8_0 : 0 ≤ x73.toInt := b8_0
        replace b8_1 : x73.toInt ≤ 1 := b8_1
        refine sIf (fun h9 => ?_) (fun h9 => ?_)
        · have fh9 := eqT h9
          exact sRet ⟨(by show 0 ≤ (0 : Int32).toInt; decide), (by show (0 : Int32).toInt ≤ 1; decide), trivial⟩
        · have fh9 := eqF h9
          refine sBind (s_X7_greatest hN hK) (fun x80 b10 => ?_)
          obtain ⟨b10_0, b10_1, -⟩ := b10
          replace b10_0 : 0 ≤ x80.toInt := b10_0
          replace b10_1 : x80.toInt ≤ 20 := b10_1
          refine sIf (fun h11 => ?_) (fun h11 => ?_)
          · have fh11 := ltT h11
            exact sRet ⟨(by show 0 ≤ (0 : Int32).toInt; decide), (by show (0 : Int32).toInt ≤ 1; decide), trivial⟩
          · have fh11 := ltF h11
            exact sRet ⟨(by show 0 ≤ (1 : Int32).toInt; decide), (by show (1 : Int32).toInt ≤ 1; decide), trivial⟩
      · have fh7 := eqF h7
        refine sIf (fun h12 => ?_) (fun h12 => ?_)
        · have fh12 := eqT h12
          refine sBind (s_X7_isOdd hN hK) (fun x94 b13 => ?_)
          obtain ⟨b13_0, b13_1, -⟩ := b13
          replace b13_0 : 0 ≤ x94.toInt := b13_0
          replace b13_1 : x94.toInt ≤ 1 := b13_1
          refine sIf (fun h14 => ?_) (fun h14 => ?_)
          · have fh14 := eqT h14
            exact sRet ⟨(by show 0 ≤ (0 : Int32).toInt; decide), (by show (0 : Int32).toInt ≤ 1; decide), trivial⟩
          · have fh14 := eqF h14
            refine sBind (s_X7_greatest hN hK) (fun x101 b15 => ?_)
            obtain ⟨b15_0, b15_1, -⟩ := b15
            replace b15_0 : 0 ≤ x101.toInt := b15_0
            replace b15_1 : x101.toInt ≤ 20 := b15_1
            refine sIf (fun h16 => ?_) (fun h16 => ?_)
            · have fh16 := ltT h16
              exact sRet ⟨(by show 0 ≤ (0 : Int32).toInt; decide), (by show (0 : Int32).toInt ≤ 1; decide), trivial⟩
            · have fh16 := ltF h16
              exact sRet ⟨(by show 0 ≤ (1 : Int32).toInt; decide), (by show (1 : Int32).toInt ≤ 1; decide), trivial⟩
        · have fh12 := eqF h12
          refine sIf (fun h17 => ?_) (fun h17 => ?_)
          · have fh17 := eqT h17
            refine sBind (s_X7_isOdd hN hK) (fun x115 b18 => ?_)
            obtain ⟨b18_0, b18_1, -⟩ := b18
            replace b18_0 : 0 ≤ x115.toInt := b18_0
            replace b18_1 : x115.toInt ≤ 1 := b18_1
            refine sIf (fun h19 => ?_) (fun h19 => ?_)
            · have fh19 := eqT h19
              exact sRet ⟨(by show 0 ≤ (0 : Int32).toInt; decide), (by show (0 : Int32).toInt ≤ 1; decide), trivial⟩
            · have fh19 := eqF h19
              refine sBind (s_X7_isUnlike hN hK) (fun x122 b20 => ?_)
              obtain ⟨b20_0, b20_1, -⟩ := b20
              replace b20_0 : 0 ≤ x122.toInt := b20_0
              replace b20_1 : x122.toInt ≤ 1 := b20_1
              refine sIf (fun h21 => ?_) (fun h21 => ?_)
              · have fh21 := eqT h21
                exact sRet ⟨(by show 0 ≤ (0 : Int32).toInt; decide), (by show (0 : Int32).toInt ≤ 1; decide), trivial⟩
              · have fh21 := eqF h21
                refine sBind (s_X7_greatest hN hK) (fun x129 b22 => ?_)
                obtain ⟨b22_0, b22_1, -⟩ := b22
                replace b22_0 : 0 ≤ x129.toInt := b22_0
                replace b22_1 : x129.toInt ≤ 20 := b22_1
                refine sIf (fun h23 => ?_) (fun h23 => ?_)
                · have fh23 := ltT h23
                  exact sRet ⟨(by show 0 ≤ (0 : Int32).toInt; decide), (by show (0 : Int32).toInt ≤ 1; decide), trivial⟩
                · have fh23 := ltF h23
                  exact sRet ⟨(by show 0 ≤ (1 : Int32).toInt; decide), (by show (1 : Int32).toInt ≤ 1; decide), trivial⟩
          · have fh17 := eqF h17
            refine sIf (fun h24 => ?_) (fun h24 => ?_)
            · have fh24 := eqT h24
              refine sBind (s_X7_isUnlike hN hK) (fun x143 b25 => ?_)
              obtain ⟨b25_0, b25_1, -⟩ := b25
              replace b25_0 : 0 ≤ x143.toInt := b25_0
              replace b25_1 : x143.toInt ≤ 1 := b25_1
              refine sIf (fun h26 => ?_) (fun h26 => ?_)
              · have fh26 := eqT h26
                exact sRet ⟨(by show 0 ≤ (0 : Int32).toInt; decide), (by show (0 : Int32).toInt ≤ 1; decide), trivial⟩
              · have fh26 := eqF h26
                refine sBind (s_X7_parts hN hK) (fun x150 b27 => ?_)
                refine sIf (fun h28 => ?_) (fun h28 => ?_)
                · have fh28 := eqT h28
                  exact sRet ⟨(by show 0 ≤ (1 : Int32).toInt; decide), (by show (1 : Int32).toInt ≤ 1; decide), trivial⟩
                · have fh28 := eqF h28
                  exact sRet ⟨(by show 0 ≤ (0 : Int32).toInt; decide), (by show (0 : Int32).toInt ≤ 1; decide), trivial⟩
            · have fh24 := eqF h24
              refine sIf (fun h29 => ?_) (fun h29 => ?_)
              · have fh29 := eqT h29
                refine sBind (s_X7_parts hN hK) (fun x164 b30 => ?_)
                refine sIf (fun h31 => ?_) (fun h31 => ?_)
                · have fh31 := ltT h31
                  exact sRet ⟨(by show 0 ≤ (0 : Int32).toInt; decide), (by show (0 : Int32).toInt ≤ 1; decide), trivial⟩
                · have fh31 := ltF h31
                  exact sRet ⟨(by show 0 ≤ (1 : Int32).toInt; decide), (by show (1 : Int32).toInt ≤ 1; decide), trivial⟩
              · have fh29 := eqF h29
                refine sBind (s_X7_greatest hN hK) (fun x178 b32 => ?_)
                obtain ⟨b32_0, b32_1, -⟩ := b32
                replace b32_0 : 0 ≤ x178.toInt := b32_0
                replace b32_1 : x178.toInt ≤ 20 := b32_1
                refine sIf (fun h33 => ?_) (fun h33 => ?_)
                · have fh33 := ltT h33
                  exact sRet ⟨(by show 0 ≤ (0 : Int32).toInt; decide), (by show (0 : Int32).toInt ≤ 1; decide), trivial⟩
                · have fh33 := ltF h33
                  refine sBind (s_X7_isOwnTurned hN hK) (fun x186 b34 => ?_)
                  obtain ⟨b34_0, b34_1, -⟩ := b34
                  replace b34_0 : 0 ≤ x186.toInt := b34_0
                  replace b34_1 : x186.toInt ≤ 1 := b34_1
                  refine sIf (fun h35 => ?_) (fun h35 => ?_)
                  · have fh35 := eqT h35
                    exact sRet ⟨(by show 0 ≤ (0 : Int32).toInt; decide), (by show (0 : Int32).toInt ≤ 1; decide), trivial⟩
                  · have fh35 := eqF h35
                    exact sRet ⟨(by show 0 ≤ (1 : Int32).toInt; decide), (by show (1 : Int32).toInt ≤ 1; decide), trivial⟩
theorem s_X7_turned {N K : Nat} {f : Nat → Int32} (hN : NBig N) (hK : 100 ≤ K) (hp0 : OkD f) : Sf (fX7_turned N K f) (fun (z : (Nat → Int32)) => OkD z ∧ True) := by
  have hN9 := hN.u
  obtain ⟨w, hw⟩ := hp0
  obtain ⟨h, a, b⟩ := m_turn (N := N) (K := K) (by omega) hw
  exact ⟨h, a, ⟨_, b⟩, trivial⟩

set_option maxHeartbeats 2000000 in
theorem s_X7_areSame_25 {N K : Nat} {f : Nat → Int32} {g : Nat → Int32} (hN : NBig N) (hK : 100 ≤ K)  {k_4 : Int32 → Int32 → Option (Int32)} {m_4 : Nat} (hk_4 : ∀ (l2 : Int32) (l3 : Int32), (21 - l3.toInt).toNat < m_4 → 0 ≤ l2.toInt → l2.toInt ≤ 1 → 1 ≤ l3.toInt → l3.toInt ≤ 21 → Sf (k_4 l2 l3) (fun (z : Int32) => 0 ≤ z.toInt ∧ z.toInt ≤ 1 ∧ True)) : ∀ (l3 : Int32) (s0 : Int32) (s1 : Int32), 1 ≤ l3.toInt → l3.toInt ≤ 20 → 0 ≤ s0.toInt → s0.toInt ≤ 1 → 0 ≤ s1.toInt → s1.toInt ≤ 1 → (21 - l3.toInt).toNat ≤ m_4 → Sf (fX7_areSame_25 N K f g k_4 l3 s0 s1) (fun (z : Int32) => 0 ≤ z.toInt ∧ z.toInt ≤ 1 ∧ True) := by
  intro l3 s0 s1 hq0 hq1 hq2 hq3 hq4 hq5 hq6
  unfold fX7_areSame_25
  have ql0 : (0 : Int32).toInt = 0 := by decide
  have ql1 : (1 : Int32).toInt = 1 := by decide
  have t101 := and01 (a := s1) (b := s0) (by omega) (by omega) (by omega) (by omega)
  have t2 := addI (a := l3) (b := (1 : Int32)) (by omega) (by omega)
  exact hk_4 _ _ (by omega) (by first | omega | decide) (by first | omega | decide) (by first | omega | decide) (by first | omega | decide)
set_option maxHeartbeats 2000000 in
theorem s_X7_areSame_4 {N K : Nat} {f : Nat → Int32} {g : Nat → Int32} (hN : NBig N) (hK : 100 ≤ K)  : ∀ (fu : Nat) (l2 : Int32) (l3 : Int32), (21 - l3.toInt).toNat < fu → 0 ≤ l2.toInt → l2.toInt ≤ 1 → 1 ≤ l3.toInt → l3.toInt ≤ 21 → Sf (fX7_areSame_4 N K f g  fu l2 l3) (fun (z : Int32) => 0 ≤ z.toInt ∧ z.toInt ≤ 1 ∧ True) := by
  intro fu
  induction fu with
  | zero => intro l2 l3 h0 hq0 hq1 hq2 hq3; omega
  | succ fu ih =>
    intro l2 l3 h0 hq0 hq1 hq2 hq3
    unfold fX7_areSame_4
    have ql0 : (0 : Int32).toInt = 0 := by decide
    have ql1 : (1 : Int32).toInt = 1 := by decide
    have ql20 : (20 : Int32).toInt = 20 := by decide
    refine sIf (fun h1 => ?_) (fun h1 => ?_)
    · have fh1 := ltT h1
      refine sIfT (b01 (by omega) (by omega)) ?_
      exact sRet ⟨(by show 0 ≤ l2.toInt; first | omega | assumption), (by show l2.toInt ≤ 1; first | omega | assumption), trivial⟩
    · have fh1 := ltF h1
      refine sIfF (noob (by omega) (by omega)) ?_
      refine sIfF (noob (by omega) (by omega)) ?_
      refine sIf (fun h2 => ?_) (fun h2 => ?_)
      · have fh2 := eqT h2
        exact s_X7_areSame_25 (hk_4 := ih) hN hK _ _ _ (by first | omega | decide) (by first | omega | decide) (by first | omega | decide) (by first | omega | decide) (by first | omega | decide) (by first | omega | decide) (by omega)
      · have fh2 := eqF h2
        exact s_X7_areSame_25 (hk_4 := ih) hN hK _ _ _ (by first | omega | decide) (by first | omega | decide) (by first | omega | decide) (by first | omega | decide) (by first | omega | decide) (by first | omega | decide) (by omega)
set_option maxHeartbeats 2000000 in
theorem s_X7_areSame {N K : Nat} {f : Nat → Int32} {g : Nat → Int32} (hN : NBig N) (hK : 100 ≤ K)  : Sf (fX7_areSame N K f g) (fun (z : Int32) => 0 ≤ z.toInt ∧ z.toInt ≤ 1 ∧ True) := by
  unfold fX7_areSame
  have hN9 := hN.u
  have ql0 : (0 : Int32).toInt = 0 := by decide
  have ql1 : (1 : Int32).toInt = 1 := by decide
  exact s_X7_areSame_4  hN hK _ _ _ (by omega) (by first | omega | decide) (by first | omega | decide) (by first | omega | decide) (by first | omega | decide)
theorem s_X7_firstWay {N K : Nat} {p0 : Int32} (hN : NBig N) (hK : 100 ≤ K) (hp0 : 0 ≤ p0.toInt) (hp1 : p0.toInt ≤ 20) : Sf (fX7_firstWay N K p0) (fun (z : (Nat → Int32)) => OkD z ∧ True) := by
  obtain ⟨n, rfl, -, h2⟩ := o_of (p := p0) (a := 0) (b := 20) (by omega) (by omega)
  obtain ⟨g, a, b⟩ := m_first (N := N) (K := K) h2
  exact ⟨g, a, ⟨_, b⟩, trivial⟩

theorem s_X7_isNext {N K : Nat} {f : Nat → Int32} (hN : NBig N) (hK : 100 ≤ K) (hp0 : OkD f) : Sf (fX7_isNext N K f) (fun (z : Int32 × (Nat → Int32)) => 0 ≤ z.1.toInt ∧ z.1.toInt ≤ 1 ∧ OkD z.2 ∧ True) := by
  have hN9 := hN.u
  obtain ⟨w, hw⟩ := hp0
  obtain ⟨g, a, b⟩ := m_step (N := N) (K := K) (by omega) hw
  exact ⟨_, a, if01.1, if01.2, ⟨_, b⟩, trivial⟩

/-- how far a way is from the last one -/
def muw (w : Nat → Nat) : Nat := sm (fun p => w p * 21 ^ p) 20
theorem mu_low {v : Nat → Nat} : ∀ {n : Nat}, (∀ q, 1 ≤ q → q ≤ n → v q ≤ 20) → sm (fun p => v p * 21 ^ p) n < 21 ^ (n + 1) := by
  intro n
  induction n with
  | zero => intro _; show 0 < 21 ^ 1; decide
  | succ n ih =>
    intro h
    have a := ih (fun q x y => h q x (by omega))
    have b := Nat.mul_le_mul_right (21 ^ (n + 1)) (h (n + 1) (by omega) (Nat.le_refl _))
    have c : 21 ^ (n + 1 + 1) = 21 ^ (n + 1) * 21 := Nat.pow_succ _ _
    show sm (fun p => v p * 21 ^ p) n + v (n + 1) * 21 ^ (n + 1) < _
    omega
theorem mu_up {v w : Nat → Nat} {p : Nat} : ∀ {n : Nat}, p ≤ n → (∀ q, p < q → q ≤ n → v q = w q) → sm (fun p => v p * 21 ^ p) p < sm (fun p => w p * 21 ^ p) p → sm (fun p => v p * 21 ^ p) n < sm (fun p => w p * 21 ^ p) n := by
  intro n
  induction n with
  | zero => intro h1 _ h3; obtain rfl : p = 0 := by omega
            exact h3
  | succ n ih =>
    intro h1 h2 h3
    by_cases e : p = n + 1
    · subst e; exact h3
    · have a := ih (by omega) (fun q x y => h2 q x (by omega)) h3
      have b := h2 (n + 1) (by omega) (Nat.le_refl _)
      show sm (fun p => v p * 21 ^ p) n + v (n + 1) * 21 ^ (n + 1) < sm (fun p => w p * 21 ^ p) n + w (n + 1) * 21 ^ (n + 1)
      rw [b]
      omega
theorem mu_lt {v w : Nat → Nat} {p : Nat} (h1 : 1 ≤ p) (h2 : p ≤ 20) (h3 : ∀ q, p < q → q ≤ 20 → v q = w q) (h4 : v p < w p) (h5 : ∀ q, 1 ≤ q → q < p → v q ≤ 20) : muw v < muw w := by
  refine mu_up h2 h3 ?_
  obtain ⟨n, rfl⟩ : ∃ n, p = n + 1 := ⟨p - 1, by omega⟩
  have a := mu_low (v := v) (n := n) (fun q x y => h5 q x (by omega))
  have b := Nat.mul_le_mul_right (21 ^ (n + 1)) (show v (n + 1) + 1 ≤ w (n + 1) from h4)
  rw [Nat.add_mul, Nat.one_mul] at b
  show sm (fun p => v p * 21 ^ p) n + v (n + 1) * 21 ^ (n + 1) < sm (fun p => w p * 21 ^ p) n + w (n + 1) * 21 ^ (n + 1)
  omega
theorem stw_hi {w : Nat → Nat} {p q : Nat} (h2 : 2 ≤ p) (h : p < q) : stw w p q = w q := by
  have lt : (p + w 1) % (p - 1) < p - 1 := Nat.mod_lt _ (by omega)
  unfold stw
  by_cases e : (p + w 1) % (p - 1) = 0
  · simp only [e, if_true]
    unfold stg upm
    rw [if_neg (by omega), if_neg (by omega), if_neg (by omega)]
  · simp only [e, if_false]
    unfold stg upm
    rw [if_neg (by omega), if_neg (by omega), if_neg (by omega), if_neg (by omega)]
theorem stw_at {w : Nat → Nat} {p : Nat} (h2 : 2 ≤ p) : stw w p p = w p - 1 := by
  have lt : (p + w 1) % (p - 1) < p - 1 := Nat.mod_lt _ (by omega)
  unfold stw
  by_cases e : (p + w 1) % (p - 1) = 0
  · simp only [e, if_true]
    unfold stg upm
    rw [if_neg (by omega), if_neg (by omega), if_pos rfl]
  · simp only [e, if_false]
    unfold stg upm
    rw [if_neg (by omega), if_neg (by omega), if_neg (by omega), if_pos rfl]
theorem mu_step {w : Nat → Nat} (hw : wn w ≤ 20) (h : ¬ lst w = 0) : muw (stw w (lst w)) < muw w := by
  rcases lst_is w with e | ⟨h2, h3, h1⟩
  · exact absurd e h
  · have hs : wn (stw w (lst w)) ≤ 20 := by rw [wn_stw h2 h3 h1]; exact hw
    refine mu_lt (p := lst w) (by omega) h3 (fun q a b => stw_hi h2 a) (by rw [stw_at h2]; omega) (fun q a b => ?_)
    exact Nat.le_trans (wn_le1 (w := stw w (lst w)) a (by omega)) hs
theorem mu_N {N : Nat} {w : Nat → Nat} (hN : NBig N) (hw : wn w ≤ 20) : muw w < N := by
  have a : muw w < 21 ^ (20 + 1) := mu_low (n := 20) (fun q x y => Nat.le_trans (wn_le1 x y) hw)
  have b : 21 ^ (20 + 1) ≤ 2 ^ 100 := by decide
  exact Nat.lt_of_lt_of_le a (Nat.le_trans b hN)
theorem walked_ {N K : Nat} {p0 p1 p2 : Int32} (hN : NBig N) (hK : 100 ≤ K) (hp0 : 0 ≤ p0.toInt) (hp1 : p0.toInt ≤ 7) (hp4 : 0 ≤ p2.toInt) (hp5 : p2.toInt ≤ 20) : ∀ (fu : Nat) (l4 : Int32) (e : Nat → Int32) (w : Nat → Nat), Dk e w → muw w < fu → Sf (fX7_walked_8 N K p0 p1 p2 fu l4 e) (fun (z : Int32) => True) := by
  have hN9 := hN.u
  intro fu
  induction fu with
  | zero => intro l4 e w _ h; omega
  | succ fu ih =>
    intro l4 e w hw h
    unfold fX7_walked_8
    refine sBind (s_X7_isOfKind hN hK (by omega) (by omega) (by omega) (by omega)) (fun x13 y13 => ?_)
    refine sBind (s_X7_bit hN hK (by omega) (by omega)) (fun x16 _ => ?_)
    obtain ⟨g, a, b⟩ := m_step (N := N) (K := K) (by omega) hw
    rw [a, Option.bind_some]
    refine sIf (fun _ => sRet trivial) (fun h9 => ?_)
    have hl : ¬ lst w = 0 := fun z => h9 (by show (if lst w = 0 then 0 else 1 : Int32) = 0; rw [if_pos z])
    rw [if_neg hl] at b
    have c := mu_step hw.1 hl
    exact ih _ _ _ b (by omega)
theorem s_X7_walked {N K : Nat} {p0 : Int32} {p1 : Int32} {p2 : Int32} (hN : NBig N) (hK : 100 ≤ K) (hp0 : 0 ≤ p0.toInt) (hp1 : p0.toInt ≤ 7) (hp2 : 0 ≤ p1.toInt) (hp3 : p1.toInt ≤ 20) (hp4 : 0 ≤ p2.toInt) (hp5 : p2.toInt ≤ 20) : Sf (fX7_walked N K p0 p1 p2) (fun (z : Int32) => True) := by
  obtain ⟨n, rfl, -, h2⟩ := o_of (p := p1) (a := 0) (b := 20) (by omega) (by omega)
  obtain ⟨g, a, b⟩ := m_first (N := N) (K := K) h2
  unfold fX7_walked
  rw [a, Option.bind_some]
  exact walked_ hN hK hp0 hp1 hp4 hp5 N 0 g _ b (mu_N hN b.1)

set_option maxHeartbeats 2000000 in
theorem s_X7_know {N K : Nat} {th : Int32} {f : Nat → Int32} {t : Nat → Int32} {u : Nat → Int32} {p0 : Int32} {p1 : Int32} {p2 : Int32} {p3 : Int32} (hN : NBig N) (hK : 100 ≤ K)  : Sf (fX7_know N K th f t u p0 p1 p2 p3) (fun (z : Int32 × Int32 × (Nat → Int32) × (Nat → Int32) × (Nat → Int32)) => 0 ≤ z.2.1.toInt ∧ z.2.1.toInt ≤ 2 ∧ True) := by
  unfold fX7_know
  have ql0 : (0 : Int32).toInt = 0 := by decide
  have ql2 : (2 : Int32).toInt = 2 := by decide
  refine sBind (s_X7_isNo hN hK (by first | omega | decide) (by first | omega | decide) (by first | omega | decide) (by first | omega | decide)) (fun x4 b1 => ?_)
  obtain ⟨b1_0, b1_1, b1_2, -⟩ := b1
  replace b1_0 : 0 ≤ x4.toInt := b1_0
  replace b1_1 : x4.toInt ≤ 1 := b1_1
  replace b1_2 : (x4.toInt = 0 → ((0 : Int32).toInt ≤ p0.toInt ∧ p0.toInt ≤ (2 : Int32).toInt)) := b1_2
  refine sBind (s_X7_isOut hN hK) (fun x11 b2 => ?_)
  obtain ⟨b2_0, b2_1, b2_2, b2_3, b2_4, -⟩ := b2
  replace b2_0 : 0 ≤ x11.toInt := b2_0
  replace b2_1 : x11.toInt ≤ 1 := b2_1
  replace b2_2 : (x11.toInt = 0 → (0 ≤ p1.toInt ∧ p1.toInt ≤ 5)) := b2_2
  replace b2_3 : (x11.toInt = 0 → (0 ≤ p2.toInt ∧ p2.toInt ≤ 20)) := b2_3
  replace b2_4 : (x11.toInt = 0 → (0 ≤ p3.toInt ∧ p3.toInt ≤ 20)) := b2_4
  refine sBind (s_X7_isThrown hN hK (by first | omega | decide) (by first | omega | decide) (by first | omega | decide) (by first | omega | decide)) (fun x14 b3 => ?_)
  obtain ⟨b3_0, b3_1, b3_2, b3_3, b3_4, b3_5, -⟩ := b3
  replace b3_0 : 0 ≤ x14.1.toInt := b3_0
  replace b3_1 : x14.1.toInt ≤ 1 := b3_1
  replace b3_2 : 0 ≤ x14.2.toInt := b3_2
  replace b3_3 : x14.2.toInt ≤ 2 := b3_3
  replace b3_4 : (x14.1.toInt = 0 → (0 ≤ x4.toInt ∧ x4.toInt ≤ 0)) := b3_4
  replace b3_5 : (x14.1.toInt = 0 → (0 ≤ x11.toInt ∧ x11.toInt ≤ 0)) := b3_5
  refine sIf (fun h4 => ?_) (fun h4 => ?_)
  · have fh4 := eqT h4
    refine sBind (s_X7_known hN hK (by first | omega | decide) (by first | omega | decide) (by first | omega | decide) (by first | omega | decide) (by first | omega | decide) (by first | omega | decide) (by first | omega | decide) (by first | omega | decide) (by first | omega | decide) (by first | omega | decide)) (fun x29 b5 => ?_)
    refine sBind (s_X7_done hN hK (by first | omega | decide) (by first | omega | decide)) (fun x32 b6 => ?_)
    exact sRet ⟨(by show 0 ≤ x14.2.toInt; first | omega | assumption), (by show x14.2.toInt ≤ 2; first | omega | assumption), trivial⟩
  · have fh4 := eqF h4
    exact sRet ⟨(by show 0 ≤ x14.2.toInt; first | omega | assumption), (by show x14.2.toInt ≤ 2; first | omega | assumption), trivial⟩
set_option maxHeartbeats 2000000 in
theorem s_X7_few_46 {N K : Nat} {th : Int32} {f : Nat → Int32} {t : Nat → Int32} {u : Nat → Int32} {p0 : Int32} {p1 : Int32} {p2 : Int32} (hN : NBig N) (hK : 100 ≤ K)  : ∀ (fu : Nat) (l4 : Int32) (l5 : Int32) (th_ : Int32) (f_ : (Nat → Int32)) (t_ : (Nat → Int32)) (u_ : (Nat → Int32)), (21 - l5.toInt).toNat < fu → 0 ≤ p0.toInt → p0.toInt ≤ 2 → 0 ≤ p1.toInt → p1.toInt ≤ 20 → 0 ≤ p2.toInt → p2.toInt ≤ 20 → 0 ≤ l5.toInt → l5.toInt ≤ 21 → 0 ≤ th_.toInt → th_.toInt ≤ 2 → Sf (fX7_few_46 N K th f t u p0 p1 p2  fu l4 l5 th_ f_ t_ u_) (fun (z : Int32 × Int32 × (Nat → Int32) × (Nat → Int32) × (Nat → Int32)) => 0 ≤ z.2.1.toInt ∧ z.2.1.toInt ≤ 2 ∧ True) := by
  intro fu
  induction fu with
  | zero => intro l4 l5 th_ f_ t_ u_ h0 hq0 hq1 hq2 hq3 hq4 hq5 hq6 hq7 hq8 hq9; omega
  | succ fu ih =>
    intro l4 l5 th_ f_ t_ u_ h0 hq0 hq1 hq2 hq3 hq4 hq5 hq6 hq7 hq8 hq9
    unfold fX7_few_46
    have ql0 : (0 : Int32).toInt = 0 := by decide
    have ql1 : (1 : Int32).toInt = 1 := by decide
    refine sIf (fun h1 => ?_) (fun h1 => ?_)
    · have fh1 := ltT h1
      refine sBind (s_X7_done hN hK (by first | omega | decide) (by first | omega | decide)) (fun x75 b2 => ?_)
      exact sRet ⟨(by show 0 ≤ th_.toInt; first | omega | assumption), (by show th_.toInt ≤ 2; first | omega | assumption), trivial⟩
    · have fh1 := ltF h1
      refine sBind (s_X7_known hN hK (by first | omega | decide) (by first | omega | decide) (by first | omega | decide) (by first | omega | decide) (by first | omega | decide) (by first | omega | decide) (by first | omega | decide) (by first | omega | decide) (by first | omega | decide) (by first | omega | decide)) (fun x60 b3 => ?_)
      have t5 := addI (a := l5) (b := (1 : Int32)) (by omega) (by omega)
      exact ih _ _ _ _ _ _ (by omega) (by first | omega | decide) (by first | omega | decide) (by first | omega | decide) (by first | omega | decide) (by first | omega | decide) (by first | omega | decide) (by first | omega | decide) (by first | omega | decide) (by first | omega | decide) (by first | omega | decide)
set_option maxHeartbeats 2000000 in
theorem s_X7_few_32 {N K : Nat} {th : Int32} {f : Nat → Int32} {t : Nat → Int32} {u : Nat → Int32} {p0 : Int32} {p1 : Int32} {p2 : Int32} (hN : NBig N) (hK : 100 ≤ K)  : ∀ (s0 : Int32) (s1 : Int32) (th_ : Int32) (f_ : Nat → Int32) (t_ : Nat → Int32) (u_ : Nat → Int32), 0 ≤ s0.toInt → s0.toInt ≤ 1 → 0 ≤ s1.toInt → s1.toInt ≤ 1 → (s0.toInt = 0 → 0 ≤ p1.toInt ∧ p1.toInt ≤ 20 ∧ 0 ≤ p2.toInt ∧ p2.toInt ≤ 20) → (s1.toInt = 0 → 0 ≤ p0.toInt ∧ p0.toInt ≤ 2) → Sf (fX7_few_32 N K th f t u p0 p1 p2  s0 s1 th_ f_ t_ u_) (fun (z : Int32 × Int32 × (Nat → Int32) × (Nat → Int32) × (Nat → Int32)) => 0 ≤ z.2.1.toInt ∧ z.2.1.toInt ≤ 2 ∧ True) := by
  intro s0 s1 th_ f_ t_ u_ hq0 hq1 hq2 hq3 hq4 hq5
  unfold fX7_few_32
  have hN9 := hN.u
  have ql0 : (0 : Int32).toInt = 0 := by decide
  refine sBind (s_X7_isThrown hN hK (by first | omega | decide) (by first | omega | decide) (by first | omega | decide) (by first | omega | decide)) (fun x32 b1 => ?_)
  obtain ⟨b1_0, b1_1, b1_2, b1_3, b1_4, b1_5, -⟩ := b1
  replace b1_0 : 0 ≤ x32.1.toInt := b1_0
  replace b1_1 : x32.1.toInt ≤ 1 := b1_1
  replace b1_2 : 0 ≤ x32.2.toInt := b1_2
  replace b1_3 : x32.2.toInt ≤ 2 := b1_3
  replace b1_4 : (x32.1.toInt = 0 → (0 ≤ s1.toInt ∧ s1.toInt ≤ 0)) := b1_4
  replace b1_5 : (x32.1.toInt = 0 → (0 ≤ s0.toInt ∧ s0.toInt ≤ 0)) := b1_5
  refine sIf (fun h2 => ?_) (fun h2 => ?_)
  · have fh2 := eqT h2
    exact s_X7_few_46  hN hK _ _ _ _ _ _ _ (by omega) (by first | omega | decide) (by first | omega | decide) (by first | omega | decide) (by first | omega | decide) (by first | omega | decide) (by first | omega | decide) (by first | omega | decide) (by first | omega | decide) (by first | omega | decide) (by first | omega | decide)
  · have fh2 := eqF h2
    exact sRet ⟨(by show 0 ≤ x32.2.toInt; first | omega | assumption), (by show x32.2.toInt ≤ 2; first | omega | assumption), trivial⟩
set_option maxHeartbeats 2000000 in
theorem s_X7_few_27 {N K : Nat} {th : Int32} {f : Nat → Int32} {t : Nat → Int32} {u : Nat → Int32} {p0 : Int32} {p1 : Int32} {p2 : Int32} (hN : NBig N) (hK : 100 ≤ K)  : ∀ (s0 : Int32) (th_ : Int32) (f_ : Nat → Int32) (t_ : Nat → Int32) (u_ : Nat → Int32), 0 ≤ s0.toInt → s0.toInt ≤ 1 → (s0.toInt = 0 → 0 ≤ p0.toInt ∧ p0.toInt ≤ 2) → Sf (fX7_few_27 N K th f t u p0 p1 p2  s0 th_ f_ t_ u_) (fun (z : Int32 × Int32 × (Nat → Int32) × (Nat → Int32) × (Nat → Int32)) => 0 ≤ z.2.1.toInt ∧ z.2.1.toInt ≤ 2 ∧ True) := by
  intro s0 th_ f_ t_ u_ hq0 hq1 hq2
  unfold fX7_few_27
  have ql0 : (0 : Int32).toInt = 0 := by decide
  have ql1 : (1 : Int32).toInt = 1 := by decide
  exact s_X7_few_32  hN hK _ _ _ _ _ _ (by first | omega | decide) (by first | omega | decide) (by first | omega | decide) (by first | omega | decide) (by first | omega | decide) (by first | omega | decide)
set_option maxHeartbeats 2000000 in
theorem s_X7_few {N K : Nat} {th : Int32} {f : Nat → Int32} {t : Nat → Int32} {u : Nat → Int32} {p0 : Int32} {p1 : Int32} {p2 : Int32} (hN : NBig N) (hK : 100 ≤ K)  : Sf (fX7_few N K th f t u p0 p1 p2) (fun (z : Int32 × Int32 × (Nat → Int32) × (Nat → Int32) × (Nat → Int32)) => 0 ≤ z.2.1.toInt ∧ z.2.1.toInt ≤ 2 ∧ True) := by
  unfold fX7_few
  have ql0 : (0 : Int32).toInt = 0 := by decide
  have ql2 : (2 : Int32).toInt = 2 := by decide
  have ql20 : (20 : Int32).toInt = 20 := by decide
  refine sBind (s_X7_isNo hN hK (by first | omega | decide) (by first | omega | decide) (by first | omega | decide) (by first | omega | decide)) (fun x4 b1 => ?_)
  obtain ⟨b1_0, b1_1, b1_2, -⟩ := b1
  replace b1_0 : 0 ≤ x4.toInt := b1_0
  replace b1_1 : x4.toInt ≤ 1 := b1_1
  replace b1_2 : (x4.toInt = 0 → ((0 : Int32).toInt ≤ p0.toInt ∧ p0.toInt ≤ (2 : Int32).toInt)) := b1_2
  refine sBind (s_X7_isNo hN hK (by first | omega | decide) (by first | omega | decide) (by first | omega | decide) (by first | omega | decide)) (fun x11 b2 => ?_)
  obtain ⟨b2_0, b2_1, b2_2, -⟩ := b2
  replace b2_0 : 0 ≤ x11.toInt := b2_0
  replace b2_1 : x11.toInt ≤ 1 := b2_1
  replace b2_2 : (x11.toInt = 0 → ((0 : Int32).toInt ≤ p1.toInt ∧ p1.toInt ≤ (20 : Int32).toInt)) := b2_2
  refine sIf (fun h3 => ?_) (fun h3 => ?_)
  · have fh3 := eqT h3
    refine sBind (s_X7_isNo hN hK (by first | omega | decide) (by first | omega | decide) (by first | omega | decide) (by first | omega | decide)) (fun x21 b4 => ?_)
    obtain ⟨b4_0, b4_1, b4_2, -⟩ := b4
    replace b4_0 : 0 ≤ x21.toInt := b4_0
    replace b4_1 : x21.toInt ≤ 1 := b4_1
    replace b4_2 : (x21.toInt = 0 → ((0 : Int32).toInt ≤ p2.toInt ∧ p2.toInt ≤ (20 : Int32).toInt)) := b4_2
    refine sIf (fun h5 => ?_) (fun h5 => ?_)
    · have fh5 := eqT h5
      exact s_X7_few_32  hN hK _ _ _ _ _ _ (by first | omega | decide) (by first | omega | decide) (by first | omega | decide) (by first | omega | decide) (by first | omega | decide) (by first | omega | decide)
    · have fh5 := eqF h5
      exact s_X7_few_27  hN hK _ _ _ _ _ (by first | omega | decide) (by first | omega | decide) (by first | omega | decide)
  · have fh3 := eqF h3
    exact s_X7_few_27  hN hK _ _ _ _ _ (by first | omega | decide) (by first | omega | decide) (by first | omega | decide)
set_option maxHeartbeats 2000000 in
theorem s_X7_surplus_46 {N K : Nat} {th : Int32} {f : Nat → Int32} {t : Nat → Int32} {u : Nat → Int32} {p0 : Int32} {p1 : Int32} (hN : NBig N) (hK : 100 ≤ K)  {k_27 : Int32 → Int32 → Int32 → (Nat → Int32) → (Nat → Int32) → (Nat → Int32) → Option (Int32 × Int32 × (Nat → Int32) × (Nat → Int32) × (Nat → Int32))} {m_27 : Nat} (hk_27 : ∀ (l3 : Int32) (l4 : Int32) (th_ : Int32) (f_ : (Nat → Int32)) (t_ : (Nat → Int32)) (u_ : (Nat → Int32)), (21 - l4.toInt).toNat < m_27 → 0 ≤ p0.toInt → p0.toInt ≤ 2 → 0 ≤ p1.toInt → p1.toInt ≤ 20 → 0 ≤ l4.toInt → l4.toInt ≤ 21 → 0 ≤ th_.toInt → th_.toInt ≤ 2 → Sf (k_27 l3 l4 th_ f_ t_ u_) (fun (z : Int32 × Int32 × (Nat → Int32) × (Nat → Int32) × (Nat → Int32)) => 0 ≤ z.2.1.toInt ∧ z.2.1.toInt ≤ 2 ∧ True)) : ∀ (l4 : Int32) (s0 : Int32) (s1 : Int32) (th_ : Int32) (f_ : Nat → Int32) (t_ : Nat → Int32) (u_ : Nat → Int32), 0 ≤ p0.toInt → p0.toInt ≤ 2 → 0 ≤ p1.toInt → p1.toInt ≤ 20 → 0 ≤ l4.toInt → l4.toInt ≤ 20 → -1 ≤ s0.toInt → s0.toInt ≤ 1 → 0 ≤ th_.toInt → th_.toInt ≤ 2 → (s0.toInt = 0 → 0 ≤ p0.toInt ∧ p0.toInt ≤ 2 ∧ 0 ≤ p1.toInt ∧ p1.toInt ≤ 20) → (s1.toInt = 0 → 0 ≤ p0.toInt ∧ p0.toInt ≤ 2 ∧ 0 ≤ p1.toInt ∧ p1.toInt ≤ 20) → (21 - l4.toInt).toNat ≤ m_27 → Sf (fX7_surplus_46 N K th f t u p0 p1 k_27 l4 s0 s1 th_ f_ t_ u_) (fun (z : Int32 × Int32 × (Nat → Int32) × (Nat → Int32) × (Nat → Int32)) => 0 ≤ z.2.1.toInt ∧ z.2.1.toInt ≤ 2 ∧ True) := by
  intro l4 s0 s1 th_ f_ t_ u_ hq0 hq1 hq2 hq3 hq4 hq5 hq6 hq7 hq8 hq9 hq10 hq11 hq12
  unfold fX7_surplus_46
  have ql0 : (0 : Int32).toInt = 0 := by decide
  have ql1 : (1 : Int32).toInt = 1 := by decide
  have ql5 : (5 : Int32).toInt = 5 := by decide
  refine sBind (s_X7_known hN hK (by first | omega | decide) (by first | omega | decide) (by first | omega | decide) (by first | omega | decide) (by first | omega | decide) (by first | omega | decide) (by first | omega | decide) (by first | omega | decide) (by first | omega | decide) (by first | omega | decide)) (fun x52 b1 => ?_)
  have t3 := addI (a := l4) (b := (1 : Int32)) (by omega) (by omega)
  exact hk_27 _ _ _ _ _ _ (by omega) (by first | omega | decide) (by first | omega | decide) (by first | omega | decide) (by first | omega | decide) (by first | omega | decide) (by first | omega | decide) (by first | omega | decide) (by first | omega | decide)
set_option maxHeartbeats 2000000 in
theorem s_X7_surplus_27 {N K : Nat} {th : Int32} {f : Nat → Int32} {t : Nat → Int32} {u : Nat → Int32} {p0 : Int32} {p1 : Int32} (hN : NBig N) (hK : 100 ≤ K)  : ∀ (fu : Nat) (l3 : Int32) (l4 : Int32) (th_ : Int32) (f_ : (Nat → Int32)) (t_ : (Nat → Int32)) (u_ : (Nat → Int32)), (21 - l4.toInt).toNat < fu → 0 ≤ p0.toInt → p0.toInt ≤ 2 → 0 ≤ p1.toInt → p1.toInt ≤ 20 → 0 ≤ l4.toInt → l4.toInt ≤ 21 → 0 ≤ th_.toInt → th_.toInt ≤ 2 → Sf (fX7_surplus_27 N K th f t u p0 p1  fu l3 l4 th_ f_ t_ u_) (fun (z : Int32 × Int32 × (Nat → Int32) × (Nat → Int32) × (Nat → Int32)) => 0 ≤ z.2.1.toInt ∧ z.2.1.toInt ≤ 2 ∧ True) := by
  intro fu
  induction fu with
  | zero => intro l3 l4 th_ f_ t_ u_ h0 hq0 hq1 hq2 hq3 hq4 hq5 hq6 hq7; omega
  | succ fu ih =>
    intro l3 l4 th_ f_ t_ u_ h0 hq0 hq1 hq2 hq3 hq4 hq5 hq6 hq7
    unfold fX7_surplus_27
    have ql0 : (0 : Int32).toInt = 0 := by decide
    have ql1 : (1 : Int32).toInt = 1 := by decide
    have ql2 : (2 : Int32).toInt = 2 := by decide
    refine sIf (fun h1 => ?_) (fun h1 => ?_)
    · have fh1 := ltT h1
      refine sBind (s_X7_done hN hK (by first | omega | decide) (by first | omega | decide)) (fun x66 b2 => ?_)
      exact sRet ⟨(by show 0 ≤ th_.toInt; first | omega | assumption), (by show th_.toInt ≤ 2; first | omega | assumption), trivial⟩
    · have fh1 := ltF h1
      refine sIf (fun h3 => ?_) (fun h3 => ?_)
      · have t4 := modL (a := l4) (b := (2 : Int32)) ql2 (by omega)
        have fh3 := eqT h3
        exact s_X7_surplus_46 (hk_27 := ih) hN hK _ _ _ _ _ _ _ (by first | omega | decide) (by first | omega | decide) (by first | omega | decide) (by first | omega | decide) (by first | omega | decide) (by first | omega | decide) (by first | omega | decide) (by first | omega | decide) (by first | omega | decide) (by first | omega | decide) (by first | omega | decide) (by first | omega | decide) (by omega)
      · have t5 := modL (a := l4) (b := (2 : Int32)) ql2 (by omega)
        have fh3 := eqF h3
        exact s_X7_surplus_46 (hk_27 := ih) hN hK _ _ _ _ _ _ _ (by first | omega | decide) (by first | omega | decide) (by first | omega | decide) (by first | omega | decide) (by first | omega | decide) (by first | omega | decide) (by first | omega | decide) (by first | omega | decide) (by first | omega | decide) (by first | omega | decide) (by first | omega | decide) (by first | omega | decide) (by omega)
set_option maxHeartbeats 2000000 in
theorem s_X7_surplus {N K : Nat} {th : Int32} {f : Nat → Int32} {t : Nat → Int32} {u : Nat → Int32} {p0 : Int32} {p1 : Int32} (hN : NBig N) (hK : 100 ≤ K)  : Sf (fX7_surplus N K th f t u p0 p1) (fun (z : Int32 × Int32 × (Nat → Int32) × (Nat → Int32) × (Nat → Int32)) => 0 ≤ z.2.1.toInt ∧ z.2.1.toInt ≤ 2 ∧ True) := by
  unfold fX7_surplus
  have hN9 := hN.u
  have ql0 : (0 : Int32).toInt = 0 := by decide
  have ql2 : (2 : Int32).toInt = 2 := by decide
  have ql20 : (20 : Int32).toInt = 20 := by decide
  refine sBind (s_X7_isNo hN hK (by first | omega | decide) (by first | omega | decide) (by first | omega | decide) (by first | omega | decide)) (fun x4 b1 => ?_)
  obtain ⟨b1_0, b1_1, b1_2, -⟩ := b1
  replace b1_0 : 0 ≤ x4.toInt := b1_0
  replace b1_1 : x4.toInt ≤ 1 := b1_1
  replace b1_2 : (x4.toInt = 0 → ((0 : Int32).toInt ≤ p0.toInt ∧ p0.toInt ≤ (2 : Int32).toInt)) := b1_2
  refine sBind (s_X7_isNo hN hK (by first | omega | decide) (by first | omega | decide) (by first | omega | decide) (by first | omega | decide)) (fun x11 b2 => ?_)
  obtain ⟨b2_0, b2_1, b2_2, -⟩ := b2
  replace b2_0 : 0 ≤ x11.toInt := b2_0
  replace b2_1 : x11.toInt ≤ 1 := b2_1
  replace b2_2 : (x11.toInt = 0 → ((0 : Int32).toInt ≤ p1.toInt ∧ p1.toInt ≤ (20 : Int32).toInt)) := b2_2
  refine sBind (s_X7_isThrown hN hK (by first | omega | decide) (by first | omega | decide) (by first | omega | decide) (by first | omega | decide)) (fun x14 b3 => ?_)
  obtain ⟨b3_0, b3_1, b3_2, b3_3, b3_4, b3_5, -⟩ := b3
  replace b3_0 : 0 ≤ x14.1.toInt := b3_0
  replace b3_1 : x14.1.toInt ≤ 1 := b3_1
  replace b3_2 : 0 ≤ x14.2.toInt := b3_2
  replace b3_3 : x14.2.toInt ≤ 2 := b3_3
  replace b3_4 : (x14.1.toInt = 0 → (0 ≤ x4.toInt ∧ x4.toInt ≤ 0)) := b3_4
  replace b3_5 : (x14.1.toInt = 0 → (0 ≤ x11.toInt ∧ x11.toInt ≤ 0)) := b3_5
  refine sIf (fun h4 => ?_) (fun h4 => ?_)
  · have fh4 := eqT h4
    exact s_X7_surplus_27  hN hK _ _ _ _ _ _ _ (by omega) (by first | omega | decide) (by first | omega | decide) (by first | omega | decide) (by first | omega | decide) (by first | omega | decide) (by first | omega | decide) (by first | omega | decide) (by first | omega | decide)
  · have fh4 := eqF h4
    exact sRet ⟨(by show 0 ≤ x14.2.toInt; first | omega | assumption), (by show x14.2.toInt ≤ 2; first | omega | assumption), trivial⟩
set_option maxHeartbeats 2000000 in
theorem s_X7_place_69 {N K : Nat} {th : Int32} {f : Nat → Int32} {fd : Nat → Int32} {t : Nat → Int32} {u : Nat → Int32} {p0 : Int32} {p1 : Int32} (hN : NBig N) (hK : 100 ≤ K) (hp0 : OkD fd) {k_53 : Int32 → Int32 → Int32 → Int32 → Int32 → (Nat → Int32) → (Nat → Int32) → (Nat → Int32) → Option (Int32 × Int32 × (Nat → Int32) × (Nat → Int32) × (Nat → Int32))} {m_53 : Nat} (hk_53 : ∀ (l3 : Int32) (l4 : Int32) (l5 : Int32) (l6 : Int32) (th_ : Int32) (f_ : (Nat → Int32)) (t_ : (Nat → Int32)) (u_ : (Nat → Int32)), (l6.toInt - 0).toNat < m_53 → 0 ≤ p0.toInt → p0.toInt ≤ 2 → 0 ≤ p1.toInt → p1.toInt ≤ 1 → -8400 ≤ l3.toInt → l3.toInt ≤ 20 → 0 ≤ l4.toInt → l4.toInt ≤ 20 → 0 ≤ l6.toInt → l6.toInt ≤ 20 → 0 ≤ th_.toInt → th_.toInt ≤ 2 → -400 * (20 - l6.toInt) ≤ l3.toInt → Sf (k_53 l3 l4 l5 l6 th_ f_ t_ u_) (fun (z : Int32 × Int32 × (Nat → Int32) × (Nat → Int32) × (Nat → Int32)) => 0 ≤ z.2.1.toInt ∧ z.2.1.toInt ≤ 2 ∧ True)) : ∀ (fu : Nat) (l3 : Int32) (l4 : Int32) (l5 : Int32) (l6 : Int32) (l7 : Int32) (th_ : Int32) (f_ : (Nat → Int32)) (t_ : (Nat → Int32)) (u_ : (Nat → Int32)), (l7.toInt - 0).toNat < fu → 0 ≤ p0.toInt → p0.toInt ≤ 2 → 0 ≤ p1.toInt → p1.toInt ≤ 1 → -8400 ≤ l3.toInt → l3.toInt ≤ 20 → 0 ≤ l4.toInt → l4.toInt ≤ 20 → 1 ≤ l6.toInt → l6.toInt ≤ 20 → 0 ≤ l7.toInt → l7.toInt ≤ 20 → 0 ≤ th_.toInt → th_.toInt ≤ 2 → -400 * (20 - l6.toInt) - 20 * (20 - l7.toInt) ≤ l3.toInt → (l6.toInt - 0).toNat ≤ m_53 → Sf (fX7_place_69 N K th f fd t u p0 p1 k_53 fu l3 l4 l5 l6 l7 th_ f_ t_ u_) (fun (z : Int32 × Int32 × (Nat → Int32) × (Nat → Int32) × (Nat → Int32)) => 0 ≤ z.2.1.toInt ∧ z.2.1.toInt ≤ 2 ∧ True) := by
  intro fu
  induction fu with
  | zero => intro l3 l4 l5 l6 l7 th_ f_ t_ u_ h0 hq0 hq1 hq2 hq3 hq4 hq5 hq6 hq7 hq8 hq9 hq10 hq11 hq12 hq13 hq14 hq15; omega
  | succ fu ih =>
    intro l3 l4 l5 l6 l7 th_ f_ t_ u_ h0 hq0 hq1 hq2 hq3 hq4 hq5 hq6 hq7 hq8 hq9 hq10 hq11 hq12 hq13 hq14 hq15
    unfold fX7_place_69
    have ql0 : (0 : Int32).toInt = 0 := by decide
    refine sIf (fun h1 => ?_) (fun h1 => ?_)
    · have fh1 := leT h1
      have t2 : (l6 + (-1 : Int32)).toInt = l6.toInt + (-1) := addL (by decide) (by omega) (by omega)
      exact hk_53 _ _ _ _ _ _ _ _ (by (try generalize l6 + (-1 : Int32) = d0_ at *); omega) (by (try generalize l6 + (-1 : Int32) = d0_ at *); first | omega | decide) (by (try generalize l6 + (-1 : Int32) = d0_ at *); first | omega | decide) (by (try generalize l6 + (-1 : Int32) = d0_ at *); first | omega | decide) (by (try generalize l6 + (-1 : Int32) = d0_ at *); first | omega | decide) (by (try generalize l6 + (-1 : Int32) = d0_ at *); first | omega | decide) (by (try generalize l6 + (-1 : Int32) = d0_ at *); first | omega | decide) (by (try generalize l6 + (-1 : Int32) = d0_ at *); first | omega | decide) (by (try generalize l6 + (-1 : Int32) = d0_ at *); first | omega | decide) (by (try generalize l6 + (-1 : Int32) = d0_ at *); first | omega | decide) (by (try generalize l6 + (-1 : Int32) = d0_ at *); first | omega | decide) (by (try generalize l6 + (-1 : Int32) = d0_ at *); first | omega | decide) (by (try generalize l6 + (-1 : Int32) = d0_ at *); first | omega | decide) (by (try generalize l6 + (-1 : Int32) = d0_ at *); omega)
    · have fh1 := leF h1
      refine sBind (s_X7_known hN hK (by first | omega | decide) (by first | omega | decide) (by first | omega | decide) (by first | omega | decide) (by first | omega | decide) (by first | omega | decide) (by first | omega | decide) (by first | omega | decide) (by first | omega | decide) (by first | omega | decide)) (fun x82 b3 => ?_)
      refine sBind (s_X7_known hN hK (by first | omega | decide) (by first | omega | decide) (by first | omega | decide) (by first | omega | decide) (by first | omega | decide) (by first | omega | decide) (by first | omega | decide) (by first | omega | decide) (by first | omega | decide) (by first | omega | decide)) (fun x96 b4 => ?_)
      have t5 := subI (a := l3) (b := l6) (by omega) (by omega)
      have t7 : (l7 + (-1 : Int32)).toInt = l7.toInt + (-1) := addL (by decide) (by omega) (by omega)
      exact ih _ _ _ _ _ _ _ _ _ (by (try generalize l7 + (-1 : Int32) = d0_ at *); omega) (by (try generalize l7 + (-1 : Int32) = d0_ at *); first | omega | decide) (by (try generalize l7 + (-1 : Int32) = d0_ at *); first | omega | decide) (by (try generalize l7 + (-1 : Int32) = d0_ at *); first | omega | decide) (by (try generalize l7 + (-1 : Int32) = d0_ at *); first | omega | decide) (by (try generalize l7 + (-1 : Int32) = d0_ at *); first | omega | decide) (by (try generalize l7 + (-1 : Int32) = d0_ at *); first | omega | decide) (by (try generalize l7 + (-1 : Int32) = d0_ at *); first | omega | decide) (by (try generalize l7 + (-1 : Int32) = d0_ at *); first | omega | decide) (by (try generalize l7 + (-1 : Int32) = d0_ at *); first | omega | decide) (by (try generalize l7 + (-1 : Int32) = d0_ at *); first | omega | decide) (by (try generalize l7 + (-1 : Int32) = d0_ at *); first | omega | decide) (by (try generalize l7 + (-1 : Int32) = d0_ at *); first | omega | decide) (by (try generalize l7 + (-1 : Int32) = d0_ at *); first | omega | decide) (by (try generalize l7 + (-1 : Int32) = d0_ at *); first | omega | decide) (by (try generalize l7 + (-1 : Int32) = d0_ at *); omega) (by (try generalize l7 + (-1 : Int32) = d0_ at *); omega)
set_option maxHeartbeats 2000000 in
theorem s_X7_place_53 {N K : Nat} {th : Int32} {f : Nat → Int32} {fd : Nat → Int32} {t : Nat → Int32} {u : Nat → Int32} {p0 : Int32} {p1 : Int32} (hN : NBig N) (hK : 100 ≤ K) (hp0 : OkD fd) : ∀ (fu : Nat) (l3 : Int32) (l4 : Int32) (l5 : Int32) (l6 : Int32) (th_ : Int32) (f_ : (Nat → Int32)) (t_ : (Nat → Int32)) (u_ : (Nat → Int32)), (l6.toInt - 0).toNat < fu → 0 ≤ p0.toInt → p0.toInt ≤ 2 → 0 ≤ p1.toInt → p1.toInt ≤ 1 → -8400 ≤ l3.toInt → l3.toInt ≤ 20 → 0 ≤ l4.toInt → l4.toInt ≤ 20 → 0 ≤ l6.toInt → l6.toInt ≤ 20 → 0 ≤ th_.toInt → th_.toInt ≤ 2 → -400 * (20 - l6.toInt) ≤ l3.toInt → Sf (fX7_place_53 N K th f fd t u p0 p1  fu l3 l4 l5 l6 th_ f_ t_ u_) (fun (z : Int32 × Int32 × (Nat → Int32) × (Nat → Int32) × (Nat → Int32)) => 0 ≤ z.2.1.toInt ∧ z.2.1.toInt ≤ 2 ∧ True) := by
  intro fu
  induction fu with
  | zero => intro l3 l4 l5 l6 th_ f_ t_ u_ h0 hq0 hq1 hq2 hq3 hq4 hq5 hq6 hq7 hq8 hq9 hq10 hq11 hq12; omega
  | succ fu ih =>
    intro l3 l4 l5 l6 th_ f_ t_ u_ h0 hq0 hq1 hq2 hq3 hq4 hq5 hq6 hq7 hq8 hq9 hq10 hq11 hq12
    unfold fX7_place_53
    have hN9 := hN.u
    have ql0 : (0 : Int32).toInt = 0 := by decide
    refine sIf (fun h1 => ?_) (fun h1 => ?_)
    · have fh1 := leT h1
      refine sBind (s_X7_done hN hK (by first | omega | decide) (by first | omega | decide)) (fun x126 b2 => ?_)
      exact sRet ⟨(by show 0 ≤ th_.toInt; first | omega | assumption), (by show th_.toInt ≤ 2; first | omega | assumption), trivial⟩
    · have fh1 := leF h1
      refine sIfF (noob (by omega) (by omega)) ?_
      refine sIfF (noob (by omega) (by omega)) ?_
      have z8 := OkD.le (p := l6.toNatClampNeg) ‹OkD fd› (by have e : l6.toNatClampNeg = l6.toInt.toNat := rfl; omega) (by have e : l6.toNatClampNeg = l6.toInt.toNat := rfl; omega)
      exact s_X7_place_69 (hk_53 := ih) hN hK (by omega) _ _ _ _ _ _ _ _ _ _ (by omega) (by first | omega | decide) (by first | omega | decide) (by first | omega | decide) (by first | omega | decide) (by first | omega | decide) (by first | omega | decide) (by first | omega | decide) (by first | omega | decide) (by first | omega | decide) (by first | omega | decide) (by first | omega | decide) (by first | omega | decide) (by first | omega | decide) (by first | omega | decide) (by omega) (by omega)
set_option maxHeartbeats 2000000 in
theorem s_X7_place_24 {N K : Nat} {th : Int32} {f : Nat → Int32} {fd : Nat → Int32} {t : Nat → Int32} {u : Nat → Int32} {p0 : Int32} {p1 : Int32} (hN : NBig N) (hK : 100 ≤ K) (hp0 : OkD fd) : ∀ (s0 : Int32) (th_ : Int32) (f_ : Nat → Int32) (t_ : Nat → Int32) (u_ : Nat → Int32), 0 ≤ s0.toInt → s0.toInt ≤ 1 → (s0.toInt = 0 → 0 ≤ p0.toInt ∧ p0.toInt ≤ 2 ∧ 0 ≤ p1.toInt ∧ p1.toInt ≤ 1) → Sf (fX7_place_24 N K th f fd t u p0 p1  s0 th_ f_ t_ u_) (fun (z : Int32 × Int32 × (Nat → Int32) × (Nat → Int32) × (Nat → Int32)) => 0 ≤ z.2.1.toInt ∧ z.2.1.toInt ≤ 2 ∧ True) := by
  intro s0 th_ f_ t_ u_ hq0 hq1 hq2
  unfold fX7_place_24
  have hN9 := hN.u
  have ql0 : (0 : Int32).toInt = 0 := by decide
  have ql20 : (20 : Int32).toInt = 20 := by decide
  refine sBind (s_X7_isThrown hN hK (by first | omega | decide) (by first | omega | decide) (by first | omega | decide) (by first | omega | decide)) (fun x25 b1 => ?_)
  obtain ⟨b1_0, b1_1, b1_2, b1_3, b1_4, b1_5, -⟩ := b1
  replace b1_0 : 0 ≤ x25.1.toInt := b1_0
  replace b1_1 : x25.1.toInt ≤ 1 := b1_1
  replace b1_2 : 0 ≤ x25.2.toInt := b1_2
  replace b1_3 : x25.2.toInt ≤ 2 := b1_3
  replace b1_4 : (x25.1.toInt = 0 → (0 ≤ s0.toInt ∧ s0.toInt ≤ 0)) := b1_4
  replace b1_5 : (x25.1.toInt = 0 → (0 ≤ (0 : Int32).toInt ∧ (0 : Int32).toInt ≤ 0)) := b1_5
  refine sIf (fun h2 => ?_) (fun h2 => ?_)
  · have fh2 := eqT h2
    refine sIfF (noob (by omega) (by omega)) ?_
    refine sBind (s_X7_number hN hK (by first | assumption | exact OkD.z)) (fun x39 b3 => ?_)
    obtain ⟨b3_0, b3_1, -⟩ := b3
    replace b3_0 : 0 ≤ x39.toInt := b3_0
    replace b3_1 : x39.toInt ≤ 20 := b3_1
    exact s_X7_place_53  hN hK (by omega) _ _ _ _ _ _ _ _ _ (by omega) (by first | omega | decide) (by first | omega | decide) (by first | omega | decide) (by first | omega | decide) (by first | omega | decide) (by first | omega | decide) (by first | omega | decide) (by first | omega | decide) (by first | omega | decide) (by first | omega | decide) (by first | omega | decide) (by first | omega | decide) (by omega)
  · have fh2 := eqF h2
    exact sRet ⟨(by show 0 ≤ x25.2.toInt; first | omega | assumption), (by show x25.2.toInt ≤ 2; first | omega | assumption), trivial⟩
set_option maxHeartbeats 2000000 in
theorem s_X7_place_19 {N K : Nat} {th : Int32} {f : Nat → Int32} {fd : Nat → Int32} {t : Nat → Int32} {u : Nat → Int32} {p0 : Int32} {p1 : Int32} (hN : NBig N) (hK : 100 ≤ K) (hp0 : OkD fd) : ∀ (th_ : Int32) (f_ : Nat → Int32) (t_ : Nat → Int32) (u_ : Nat → Int32), Sf (fX7_place_19 N K th f fd t u p0 p1  th_ f_ t_ u_) (fun (z : Int32 × Int32 × (Nat → Int32) × (Nat → Int32) × (Nat → Int32)) => 0 ≤ z.2.1.toInt ∧ z.2.1.toInt ≤ 2 ∧ True) := by
  intro th_ f_ t_ u_ 
  unfold fX7_place_19
  have ql0 : (0 : Int32).toInt = 0 := by decide
  have ql1 : (1 : Int32).toInt = 1 := by decide
  exact s_X7_place_24  hN hK (by omega) _ _ _ _ _ (by first | omega | decide) (by first | omega | decide) (by first | omega | decide)
set_option maxHeartbeats 2000000 in
theorem s_X7_place {N K : Nat} {th : Int32} {f : Nat → Int32} {fd : Nat → Int32} {t : Nat → Int32} {u : Nat → Int32} {p0 : Int32} {p1 : Int32} (hN : NBig N) (hK : 100 ≤ K) (hp0 : OkD fd) : Sf (fX7_place N K th f fd t u p0 p1) (fun (z : Int32 × Int32 × (Nat → Int32) × (Nat → Int32) × (Nat → Int32)) => 0 ≤ z.2.1.toInt ∧ z.2.1.toInt ≤ 2 ∧ True) := by
  unfold fX7_place
  have ql0 : (0 : Int32).toInt = 0 := by decide
  have ql1 : (1 : Int32).toInt = 1 := by decide
  have ql2 : (2 : Int32).toInt = 2 := by decide
  refine sBind (s_X7_isNo hN hK (by first | omega | decide) (by first | omega | decide) (by first | omega | decide) (by first | omega | decide)) (fun x4 b1 => ?_)
  obtain ⟨b1_0, b1_1, b1_2, -⟩ := b1
  replace b1_0 : 0 ≤ x4.toInt := b1_0
  replace b1_1 : x4.toInt ≤ 1 := b1_1
  replace b1_2 : (x4.toInt = 0 → ((0 : Int32).toInt ≤ p0.toInt ∧ p0.toInt ≤ (2 : Int32).toInt)) := b1_2
  refine sIf (fun h2 => ?_) (fun h2 => ?_)
  · have fh2 := eqT h2
    refine sBind (s_X7_isNo hN hK (by first | omega | decide) (by first | omega | decide) (by first | omega | decide) (by first | omega | decide)) (fun x13 b3 => ?_)
    obtain ⟨b3_0, b3_1, b3_2, -⟩ := b3
    replace b3_0 : 0 ≤ x13.toInt := b3_0
    replace b3_1 : x13.toInt ≤ 1 := b3_1
    replace b3_2 : (x13.toInt = 0 → ((0 : Int32).toInt ≤ p1.toInt ∧ p1.toInt ≤ (1 : Int32).toInt)) := b3_2
    refine sIf (fun h4 => ?_) (fun h4 => ?_)
    · have fh4 := eqT h4
      exact s_X7_place_24  hN hK (by omega) _ _ _ _ _ (by first | omega | decide) (by first | omega | decide) (by first | omega | decide)
    · have fh4 := eqF h4
      exact s_X7_place_19  hN hK (by omega) _ _ _ _
  · have fh2 := eqF h2
    exact s_X7_place_19  hN hK (by omega) _ _ _ _
set_option maxHeartbeats 2000000 in
theorem s_X7_learn_81 {N K : Nat} {th : Int32} {f : Nat → Int32} {t : Nat → Int32} {p0 : Int32} {p1 : Int32} {p2 : Int32} {p3 : Int32} (hN : NBig N) (hK : 100 ≤ K)  : ∀ (l5 : Int32) (th_ : Int32) (f_ : Nat → Int32) (t_ : Nat → Int32), 0 ≤ p0.toInt → p0.toInt ≤ 2 → 0 ≤ p1.toInt → p1.toInt ≤ 5 → 1 ≤ p2.toInt → p2.toInt ≤ 20 → 1 ≤ p3.toInt → p3.toInt ≤ 20 → 0 ≤ l5.toInt → l5.toInt ≤ 1 → 0 ≤ th_.toInt → th_.toInt ≤ 2 → Sf (fX7_learn_81 N K th f t p0 p1 p2 p3  l5 th_ f_ t_) (fun (z : Int32 × Int32 × (Nat → Int32) × (Nat → Int32)) => 0 ≤ z.2.1.toInt ∧ z.2.1.toInt ≤ 2 ∧ True) := by
  intro l5 th_ f_ t_ hq0 hq1 hq2 hq3 hq4 hq5 hq6 hq7 hq8 hq9 hq10 hq11
  unfold fX7_learn_81
  have ql0 : (0 : Int32).toInt = 0 := by decide
  refine sBind (s_X7_bit hN hK (by first | omega | decide) (by first | omega | decide)) (fun x84 b1 => ?_)
  obtain ⟨b1_0, b1_1, -⟩ := b1
  replace b1_0 : 0 ≤ x84.toInt := b1_0
  replace b1_1 : x84.toInt ≤ 1 := b1_1
  refine sBind (s_X7_done hN hK (by first | omega | decide) (by first | omega | decide)) (fun x87 b2 => ?_)
  exact sRet ⟨(by show 0 ≤ th_.toInt; first | omega | assumption), (by show th_.toInt ≤ 2; first | omega | assumption), trivial⟩
set_option maxHeartbeats 2000000 in
theorem s_X7_learn_53 {N K : Nat} {th : Int32} {f : Nat → Int32} {t : Nat → Int32} {p0 : Int32} {p1 : Int32} {p2 : Int32} {p3 : Int32} (hN : NBig N) (hK : 100 ≤ K)  : ∀ (s0 : Int32) (th_ : Int32) (f_ : Nat → Int32) (t_ : Nat → Int32), 0 ≤ p0.toInt → p0.toInt ≤ 2 → 0 ≤ p1.toInt → p1.toInt ≤ 5 → 1 ≤ p2.toInt → p2.toInt ≤ 20 → 1 ≤ p3.toInt → p3.toInt ≤ 20 → 0 ≤ s0.toInt → s0.toInt ≤ 1 → 0 ≤ th_.toInt → th_.toInt ≤ 2 → (s0.toInt = 0 → 0 ≤ p0.toInt ∧ p0.toInt ≤ 2 ∧ 0 ≤ p1.toInt ∧ p1.toInt ≤ 5 ∧ 1 ≤ p2.toInt ∧ p2.toInt ≤ 20 ∧ 1 ≤ p3.toInt ∧ p3.toInt ≤ 20) → Sf (fX7_learn_53 N K th f t p0 p1 p2 p3  s0 th_ f_ t_) (fun (z : Int32 × Int32 × (Nat → Int32) × (Nat → Int32)) => 0 ≤ z.2.1.toInt ∧ z.2.1.toInt ≤ 2 ∧ True) := by
  intro s0 th_ f_ t_ hq0 hq1 hq2 hq3 hq4 hq5 hq6 hq7 hq8 hq9 hq10 hq11 hq12
  unfold fX7_learn_53
  have ql0 : (0 : Int32).toInt = 0 := by decide
  refine sIf (fun h1 => ?_) (fun h1 => ?_)
  · have fh1 := eqT h1
    exact s_X7_learn_81  hN hK _ _ _ _ (by first | omega | decide) (by first | omega | decide) (by first | omega | decide) (by first | omega | decide) (by first | omega | decide) (by first | omega | decide) (by first | omega | decide) (by first | omega | decide) (by first | omega | decide) (by first | omega | decide) (by first | omega | decide) (by first | omega | decide)
  · have fh1 := eqF h1
    refine sIfF (noob (by omega) (by omega)) ?_
    refine sBind (s_X7_code hN hK (by first | omega | decide) (by first | omega | decide) (by first | omega | decide) (by first | omega | decide) (by first | omega | decide) (by first | omega | decide)) (fun x70 b2 => ?_)
    obtain ⟨b2_0, b2_1, -⟩ := b2
    replace b2_0 : 0 ≤ x70.toInt := b2_0
    replace b2_1 : x70.toInt ≤ 5780 := b2_1
    refine sBind (s_X7_series hN hK (by first | omega | decide) (by first | omega | decide) (by first | omega | decide) (by first | omega | decide) (by first | omega | decide) (by first | omega | decide)) (fun x77 b3 => ?_)
    refine sIfF (noob (by omega) (by omega)) ?_
    exact s_X7_learn_81  hN hK _ _ _ _ (by first | omega | decide) (by first | omega | decide) (by first | omega | decide) (by first | omega | decide) (by first | omega | decide) (by first | omega | decide) (by first | omega | decide) (by first | omega | decide) (by first | omega | decide) (by first | omega | decide) (by first | omega | decide) (by first | omega | decide)
set_option maxHeartbeats 2000000 in
theorem s_X7_learn {N K : Nat} {th : Int32} {f : Nat → Int32} {t : Nat → Int32} {p0 : Int32} {p1 : Int32} {p2 : Int32} {p3 : Int32} (hN : NBig N) (hK : 100 ≤ K)  : Sf (fX7_learn N K th f t p0 p1 p2 p3) (fun (z : Int32 × Int32 × (Nat → Int32) × (Nat → Int32)) => 0 ≤ z.2.1.toInt ∧ z.2.1.toInt ≤ 2 ∧ True) := by
  unfold fX7_learn
  have ql0 : (0 : Int32).toInt = 0 := by decide
  have ql1 : (1 : Int32).toInt = 1 := by decide
  have ql2 : (2 : Int32).toInt = 2 := by decide
  refine sBind (s_X7_isNo hN hK (by first | omega | decide) (by first | omega | decide) (by first | omega | decide) (by first | omega | decide)) (fun x4 b1 => ?_)
  obtain ⟨b1_0, b1_1, b1_2, -⟩ := b1
  replace b1_0 : 0 ≤ x4.toInt := b1_0
  replace b1_1 : x4.toInt ≤ 1 := b1_1
  replace b1_2 : (x4.toInt = 0 → ((0 : Int32).toInt ≤ p0.toInt ∧ p0.toInt ≤ (2 : Int32).toInt)) := b1_2
  refine sBind (s_X7_isOut hN hK) (fun x11 b2 => ?_)
  obtain ⟨b2_0, b2_1, b2_2, b2_3, b2_4, -⟩ := b2
  replace b2_0 : 0 ≤ x11.toInt := b2_0
  replace b2_1 : x11.toInt ≤ 1 := b2_1
  replace b2_2 : (x11.toInt = 0 → (0 ≤ p1.toInt ∧ p1.toInt ≤ 5)) := b2_2
  replace b2_3 : (x11.toInt = 0 → (0 ≤ p2.toInt ∧ p2.toInt ≤ 20)) := b2_3
  replace b2_4 : (x11.toInt = 0 → (0 ≤ p3.toInt ∧ p3.toInt ≤ 20)) := b2_4
  refine sBind (s_X7_isThrown hN hK (by first | omega | decide) (by first | omega | decide) (by first | omega | decide) (by first | omega | decide)) (fun x14 b3 => ?_)
  obtain ⟨b3_0, b3_1, b3_2, b3_3, b3_4, b3_5, -⟩ := b3
  replace b3_0 : 0 ≤ x14.1.toInt := b3_0
  replace b3_1 : x14.1.toInt ≤ 1 := b3_1
  replace b3_2 : 0 ≤ x14.2.toInt := b3_2
  replace b3_3 : x14.2.toInt ≤ 2 := b3_3
  replace b3_4 : (x14.1.toInt = 0 → (0 ≤ x4.toInt ∧ x4.toInt ≤ 0)) := b3_4
  replace b3_5 : (x14.1.toInt = 0 → (0 ≤ x11.toInt ∧ x11.toInt ≤ 0)) := b3_5
  refine sIf (fun h4 => ?_) (fun h4 => ?_)
  · have fh4 := eqT h4
    refine sBind (s_X7_rests hN hK (by first | omega | decide) (by first | omega | decide) (by first | omega | decide) (by first | omega | decide)) (fun x25 b5 => ?_)
    obtain ⟨b5_0, b5_1, b5_2, b5_3, -⟩ := b5
    replace b5_0 : 0 ≤ x25.toInt := b5_0
    replace b5_1 : x25.toInt ≤ 1 := b5_1
    replace b5_2 : (x25.toInt = 0 → (1 ≤ p2.toInt)) := b5_2
    replace b5_3 : (x25.toInt = 0 → p3.toInt ≠ 0) := b5_3
    refine sIf (fun h6 => ?_) (fun h6 => ?_)
    · have fh6 := eqT h6
      refine sBind (s_X7_worth hN hK (by first | omega | decide) (by first | omega | decide) (by first | omega | decide) (by first | omega | decide) (by first | omega | decide) (by first | omega | decide) (by first | omega | decide) (by first | omega | decide) (by first | omega | decide) (by first | omega | decide)) (fun x42 b7 => ?_)
      refine sIf (fun h8 => ?_) (fun h8 => ?_)
      · have fh8 := leT h8
        exact s_X7_learn_53  hN hK _ _ _ _ (by first | omega | decide) (by first | omega | decide) (by first | omega | decide) (by first | omega | decide) (by first | omega | decide) (by first | omega | decide) (by first | omega | decide) (by first | omega | decide) (by first | omega | decide) (by first | omega | decide) (by first | omega | decide) (by first | omega | decide) (by first | omega | decide)
      · have fh8 := leF h8
        exact s_X7_learn_53  hN hK _ _ _ _ (by first | omega | decide) (by first | omega | decide) (by first | omega | decide) (by first | omega | decide) (by first | omega | decide) (by first | omega | decide) (by first | omega | decide) (by first | omega | decide) (by first | omega | decide) (by first | omega | decide) (by first | omega | decide) (by first | omega | decide) (by first | omega | decide)
    · have fh6 := eqF h6
      refine sBind (s_X7_refused hN hK (by first | omega | decide) (by first | omega | decide)) (fun x32 b9 => ?_)
      obtain ⟨b9_0, b9_1, -⟩ := b9
      replace b9_0 : -9 ≤ x32.1.toInt := b9_0
      replace b9_1 : x32.1.toInt ≤ -9 := b9_1
      exact sRet ⟨(by show 0 ≤ x14.2.toInt; first | omega | assumption), (by show x14.2.toInt ≤ 2; first | omega | assumption), trivial⟩
  · have fh4 := eqF h4
    exact sRet ⟨(by show 0 ≤ x14.2.toInt; first | omega | assumption), (by show x14.2.toInt ≤ 2; first | omega | assumption), trivial⟩
