set_option maxHeartbeats 2000000 in
theorem s_X4_timesOf {N K : Nat} {f : Nat → Int32} {p0 : Int32} (hN : NBig N) (hK : 100 ≤ K) (hp0 : 1 ≤ p0.toInt) (hp1 : p0.toInt ≤ 20) : Sf (fX4_timesOf N K f p0) (fun (z : Int32) => True) := by
  unfold fX4_timesOf
  have ql0 : (0 : Int32).toInt = 0 := by decide
  have ql1 : (1 : Int32).toInt = 1 := by decide
  have ql20 : (20 : Int32).toInt = 20 := by decide
  refine sIf (fun h1 => ?_) (fun h1 => ?_)
  · have r2 := rgI p0
    have fh1 := ltT h1
    exfalso; omega
  · have r3 := rgI p0
    have fh1 := ltF h1
    refine sIf (fun h4 => ?_) (fun h4 => ?_)
    · have fh4 := leT h4
      refine sIfF (noob (by omega) (by omega)) ?_
      have r5 := rgI (f p0.toNatClampNeg)
      exact sRet trivial
    · have fh4 := leF h4
      exfalso; omega
set_option maxHeartbeats 2000000 in
theorem s_X4_put {N K : Nat} {f : Nat → Int32} {p0 : Int32} {p1 : Int32} (hN : NBig N) (hK : 100 ≤ K)  : Sf (fX4_put N K f p0 p1) (fun (z : (Nat → Int32)) => True) := by
  unfold fX4_put
  have ql0 : (0 : Int32).toInt = 0 := by decide
  have ql1 : (1 : Int32).toInt = 1 := by decide
  have ql20 : (20 : Int32).toInt = 20 := by decide
  refine sIf (fun h1 => ?_) (fun h1 => ?_)
  · have r2 := rgI p0
    have fh1 := ltT h1
    exact sRet trivial
  · have r3 := rgI p0
    have fh1 := ltF h1
    refine sIf (fun h4 => ?_) (fun h4 => ?_)
    · have fh4 := ltT h4
      exact sRet trivial
    · have fh4 := ltF h4
      refine sIfF (noob (by omega) (by omega)) ?_
      refine sIfF (noob (by omega) (by omega)) ?_
      exact sRet trivial
set_option maxHeartbeats 2000000 in
theorem s_X4_sum_4 {N K : Nat} {f : Nat → Int32} (hN : NBig N) (hK : 100 ≤ K)  : ∀ (fu : Nat) (l1 : Int32) (l2 : Int32), (21 - l2.toInt).toNat < fu → 1 ≤ l2.toInt → l2.toInt ≤ 21 → Sf (fX4_sum_4 N K f  fu l1 l2) (fun (z : Int32) => True) := by
  intro fu
  induction fu with
  | zero => intro l1 l2 h0 hq0 hq1; omega
  | succ fu ih =>
    intro l1 l2 h0 hq0 hq1
    unfold fX4_sum_4
    have ql0 : (0 : Int32).toInt = 0 := by decide
    have ql1 : (1 : Int32).toInt = 1 := by decide
    have ql20 : (20 : Int32).toInt = 20 := by decide
    refine sIf (fun h1 => ?_) (fun h1 => ?_)
    · have r2 := rgI l2
      have fh1 := ltT h1
      have r3 := rgI l1
      exact sRet trivial
    · have r4 := rgI l2
      have fh1 := ltF h1
      refine sIfF (noob (by omega) (by omega)) ?_
      have r5 := rgI (l1 + (l2 * (f l2.toNatClampNeg)))
      have t6 := addI (a := l2) (b := (1 : Int32)) (by omega) (by omega)
      exact ih _ _ (by omega) (by first | omega | decide) (by first | omega | decide)
set_option maxHeartbeats 2000000 in
theorem s_X4_sum {N K : Nat} {f : Nat → Int32} (hN : NBig N) (hK : 100 ≤ K)  : Sf (fX4_sum N K f) (fun (z : Int32) => True) := by
  unfold fX4_sum
  have hN9 := hN.u
  have ql0 : (0 : Int32).toInt = 0 := by decide
  have ql1 : (1 : Int32).toInt = 1 := by decide
  exact s_X4_sum_4  hN hK _ _ _ (by omega) (by first | omega | decide) (by first | omega | decide)
set_option maxHeartbeats 2000000 in
theorem s_X4_parts_4 {N K : Nat} {f : Nat → Int32} (hN : NBig N) (hK : 100 ≤ K)  : ∀ (fu : Nat) (l1 : Int32) (l2 : Int32), (21 - l2.toInt).toNat < fu → 1 ≤ l2.toInt → l2.toInt ≤ 21 → Sf (fX4_parts_4 N K f  fu l1 l2) (fun (z : Int32) => True) := by
  intro fu
  induction fu with
  | zero => intro l1 l2 h0 hq0 hq1; omega
  | succ fu ih =>
    intro l1 l2 h0 hq0 hq1
    unfold fX4_parts_4
    have ql0 : (0 : Int32).toInt = 0 := by decide
    have ql1 : (1 : Int32).toInt = 1 := by decide
    have ql20 : (20 : Int32).toInt = 20 := by decide
    refine sIf (fun h1 => ?_) (fun h1 => ?_)
    · have r2 := rgI l2
      have fh1 := ltT h1
      have r3 := rgI l1
      exact sRet trivial
    · have r4 := rgI l2
      have fh1 := ltF h1
      refine sIfF (noob (by omega) (by omega)) ?_
      have r5 := rgI (l1 + (f l2.toNatClampNeg))
      have t6 := addI (a := l2) (b := (1 : Int32)) (by omega) (by omega)
      exact ih _ _ (by omega) (by first | omega | decide) (by first | omega | decide)
set_option maxHeartbeats 2000000 in
theorem s_X4_parts {N K : Nat} {f : Nat → Int32} (hN : NBig N) (hK : 100 ≤ K)  : Sf (fX4_parts N K f) (fun (z : Int32) => True) := by
  unfold fX4_parts
  have hN9 := hN.u
  have ql0 : (0 : Int32).toInt = 0 := by decide
  have ql1 : (1 : Int32).toInt = 1 := by decide
  exact s_X4_parts_4  hN hK _ _ _ (by omega) (by first | omega | decide) (by first | omega | decide)
set_option maxHeartbeats 2000000 in
theorem s_X4_differentParts_22 {N K : Nat} {f : Nat → Int32} (hN : NBig N) (hK : 100 ≤ K)  {k_4 : Int32 → Int32 → Option (Int32)} {m_4 : Nat} (hk_4 : ∀ (l1 : Int32) (l2 : Int32), (21 - l2.toInt).toNat < m_4 → 1 ≤ l2.toInt → l2.toInt ≤ 21 → Sf (k_4 l1 l2) (fun (z : Int32) => True)) : ∀ (l1 : Int32) (l2 : Int32), 1 ≤ l2.toInt → l2.toInt ≤ 20 → (21 - l2.toInt).toNat ≤ m_4 → Sf (fX4_differentParts_22 N K f k_4 l1 l2) (fun (z : Int32) => True) := by
  intro l1 l2 hq0 hq1 hq2
  unfold fX4_differentParts_22
  have ql0 : (0 : Int32).toInt = 0 := by decide
  have ql1 : (1 : Int32).toInt = 1 := by decide
  have r1 := rgI l1
  have r3 := rgI l2
  have t2 := addI (a := l2) (b := (1 : Int32)) (by omega) (by omega)
  exact hk_4 _ _ (by omega) (by first | omega | decide) (by first | omega | decide)
set_option maxHeartbeats 2000000 in
theorem s_X4_differentParts_4 {N K : Nat} {f : Nat → Int32} (hN : NBig N) (hK : 100 ≤ K)  : ∀ (fu : Nat) (l1 : Int32) (l2 : Int32), (21 - l2.toInt).toNat < fu → 1 ≤ l2.toInt → l2.toInt ≤ 21 → Sf (fX4_differentParts_4 N K f  fu l1 l2) (fun (z : Int32) => True) := by
  intro fu
  induction fu with
  | zero => intro l1 l2 h0 hq0 hq1; omega
  | succ fu ih =>
    intro l1 l2 h0 hq0 hq1
    unfold fX4_differentParts_4
    have ql0 : (0 : Int32).toInt = 0 := by decide
    have ql20 : (20 : Int32).toInt = 20 := by decide
    refine sIf (fun h1 => ?_) (fun h1 => ?_)
    · have r2 := rgI l2
      have fh1 := ltT h1
      have r3 := rgI l1
      exact sRet trivial
    · have r4 := rgI l2
      have fh1 := ltF h1
      refine sIfF (noob (by omega) (by omega)) ?_
      refine sIf (fun h5 => ?_) (fun h5 => ?_)
      · have r6 := rgI (f l2.toNatClampNeg)
        have fh5 := leT h5
        have r7 := rgI l1
        exact s_X4_differentParts_22 (hk_4 := ih) hN hK _ _ (by first | omega | decide) (by first | omega | decide) (by omega)
      · have r8 := rgI (f l2.toNatClampNeg)
        have fh5 := leF h5
        have r9 := rgI (l1 + (1 : Int32))
        exact s_X4_differentParts_22 (hk_4 := ih) hN hK _ _ (by first | omega | decide) (by first | omega | decide) (by omega)
set_option maxHeartbeats 2000000 in
theorem s_X4_differentParts {N K : Nat} {f : Nat → Int32} (hN : NBig N) (hK : 100 ≤ K)  : Sf (fX4_differentParts N K f) (fun (z : Int32) => True) := by
  unfold fX4_differentParts
  have hN9 := hN.u
  have ql0 : (0 : Int32).toInt = 0 := by decide
  have ql1 : (1 : Int32).toInt = 1 := by decide
  exact s_X4_differentParts_4  hN hK _ _ _ (by omega) (by first | omega | decide) (by first | omega | decide)
set_option maxHeartbeats 2000000 in
theorem s_X4_isUnlike_2 {N K : Nat} {f : Nat → Int32} (hN : NBig N) (hK : 100 ≤ K)  : ∀ (fu : Nat) (l1 : Int32), (21 - l1.toInt).toNat < fu → 1 ≤ l1.toInt → l1.toInt ≤ 21 → Sf (fX4_isUnlike_2 N K f  fu l1) (fun (z : Int32) => 0 ≤ z.toInt ∧ z.toInt ≤ 1 ∧ True) := by
  intro fu
  induction fu with
  | zero => intro l1 h0 hq0 hq1; omega
  | succ fu ih =>
    intro l1 h0 hq0 hq1
    unfold fX4_isUnlike_2
    have ql0 : (0 : Int32).toInt = 0 := by decide
    have ql1 : (1 : Int32).toInt = 1 := by decide
    have ql20 : (20 : Int32).toInt = 20 := by decide
    refine sIf (fun h1 => ?_) (fun h1 => ?_)
    · have r2 := rgI l1
      have fh1 := ltT h1
      exact sRet ⟨(by show 0 ≤ (1 : Int32).toInt; decide), (by show (1 : Int32).toInt ≤ 1; decide), trivial⟩
    · have r3 := rgI l1
      have fh1 := ltF h1
      refine sIfF (noob (by omega) (by omega)) ?_
      refine sIf (fun h4 => ?_) (fun h4 => ?_)
      · have r5 := rgI (f l1.toNatClampNeg)
        have fh4 := leT h4
        have t6 := addI (a := l1) (b := (1 : Int32)) (by omega) (by omega)
        exact ih _ (by omega) (by first | omega | decide) (by first | omega | decide)
      · have r7 := rgI (f l1.toNatClampNeg)
        have fh4 := leF h4
        exact sRet ⟨(by show 0 ≤ (0 : Int32).toInt; decide), (by show (0 : Int32).toInt ≤ 1; decide), trivial⟩
set_option maxHeartbeats 2000000 in
theorem s_X4_isUnlike {N K : Nat} {f : Nat → Int32} (hN : NBig N) (hK : 100 ≤ K)  : Sf (fX4_isUnlike N K f) (fun (z : Int32) => 0 ≤ z.toInt ∧ z.toInt ≤ 1 ∧ True) := by
  unfold fX4_isUnlike
  have hN9 := hN.u
  have ql0 : (0 : Int32).toInt = 0 := by decide
  have ql1 : (1 : Int32).toInt = 1 := by decide
  exact s_X4_isUnlike_2  hN hK _ _ (by omega) (by first | omega | decide) (by first | omega | decide)
set_option maxHeartbeats 2000000 in
theorem s_X4_isOdd_2 {N K : Nat} {f : Nat → Int32} (hN : NBig N) (hK : 100 ≤ K)  : ∀ (fu : Nat) (l1 : Int32), (22 - l1.toInt).toNat < fu → 2 ≤ l1.toInt → l1.toInt ≤ 22 → Sf (fX4_isOdd_2 N K f  fu l1) (fun (z : Int32) => 0 ≤ z.toInt ∧ z.toInt ≤ 1 ∧ True) := by
  intro fu
  induction fu with
  | zero => intro l1 h0 hq0 hq1; omega
  | succ fu ih =>
    intro l1 h0 hq0 hq1
    unfold fX4_isOdd_2
    have ql0 : (0 : Int32).toInt = 0 := by decide
    have ql1 : (1 : Int32).toInt = 1 := by decide
    have ql2 : (2 : Int32).toInt = 2 := by decide
    have ql20 : (20 : Int32).toInt = 20 := by decide
    refine sIf (fun h1 => ?_) (fun h1 => ?_)
    · have r2 := rgI l1
      have fh1 := ltT h1
      exact sRet ⟨(by show 0 ≤ (1 : Int32).toInt; decide), (by show (1 : Int32).toInt ≤ 1; decide), trivial⟩
    · have r3 := rgI l1
      have fh1 := ltF h1
      refine sIfF (noob (by omega) (by omega)) ?_
      refine sIf (fun h4 => ?_) (fun h4 => ?_)
      · have r5 := rgI (f l1.toNatClampNeg)
        have fh4 := leT h4
        have t6 := addI (a := l1) (b := (2 : Int32)) (by omega) (by omega)
        exact ih _ (by omega) (by first | omega | decide) (by first | omega | decide)
      · have r7 := rgI (f l1.toNatClampNeg)
        have fh4 := leF h4
        exact sRet ⟨(by show 0 ≤ (0 : Int32).toInt; decide), (by show (0 : Int32).toInt ≤ 1; decide), trivial⟩
set_option maxHeartbeats 2000000 in
theorem s_X4_isOdd {N K : Nat} {f : Nat → Int32} (hN : NBig N) (hK : 100 ≤ K)  : Sf (fX4_isOdd N K f) (fun (z : Int32) => 0 ≤ z.toInt ∧ z.toInt ≤ 1 ∧ True) := by
  unfold fX4_isOdd
  have hN9 := hN.u
  have ql0 : (0 : Int32).toInt = 0 := by decide
  have ql2 : (2 : Int32).toInt = 2 := by decide
  exact s_X4_isOdd_2  hN hK _ _ (by omega) (by first | omega | decide) (by first | omega | decide)
set_option maxHeartbeats 2000000 in
theorem s_X4_leastAboveOne_2 {N K : Nat} {f : Nat → Int32} (hN : NBig N) (hK : 100 ≤ K)  : ∀ (fu : Nat) (l1 : Int32), (21 - l1.toInt).toNat < fu → 2 ≤ l1.toInt → l1.toInt ≤ 21 → Sf (fX4_leastAboveOne_2 N K f  fu l1) (fun (z : Int32) => 0 ≤ z.toInt ∧ z.toInt ≤ 20 ∧ True) := by
  intro fu
  induction fu with
  | zero => intro l1 h0 hq0 hq1; omega
  | succ fu ih =>
    intro l1 h0 hq0 hq1
    unfold fX4_leastAboveOne_2
    have ql0 : (0 : Int32).toInt = 0 := by decide
    have ql1 : (1 : Int32).toInt = 1 := by decide
    have ql20 : (20 : Int32).toInt = 20 := by decide
    refine sIf (fun h1 => ?_) (fun h1 => ?_)
    · have r2 := rgI l1
      have fh1 := ltT h1
      exact sRet ⟨(by show 0 ≤ (0 : Int32).toInt; decide), (by show (0 : Int32).toInt ≤ 20; decide), trivial⟩
    · have r3 := rgI l1
      have fh1 := ltF h1
      refine sIfF (noob (by omega) (by omega)) ?_
      refine sIf (fun h4 => ?_) (fun h4 => ?_)
      · have r5 := rgI (f l1.toNatClampNeg)
        have fh4 := leT h4
        have t6 := addI (a := l1) (b := (1 : Int32)) (by omega) (by omega)
        exact ih _ (by omega) (by first | omega | decide) (by first | omega | decide)
      · have r7 := rgI (f l1.toNatClampNeg)
        have fh4 := leF h4
        exact sRet ⟨(by show 0 ≤ l1.toInt; omega), (by show l1.toInt ≤ 20; omega), trivial⟩
set_option maxHeartbeats 2000000 in
theorem s_X4_leastAboveOne {N K : Nat} {f : Nat → Int32} (hN : NBig N) (hK : 100 ≤ K)  : Sf (fX4_leastAboveOne N K f) (fun (z : Int32) => 0 ≤ z.toInt ∧ z.toInt ≤ 20 ∧ True) := by
  unfold fX4_leastAboveOne
  have hN9 := hN.u
  have ql0 : (0 : Int32).toInt = 0 := by decide
  have ql2 : (2 : Int32).toInt = 2 := by decide
  exact s_X4_leastAboveOne_2  hN hK _ _ (by omega) (by first | omega | decide) (by first | omega | decide)
set_option maxHeartbeats 2000000 in
theorem s_X4_isLike_2 {N K : Nat} {f : Nat → Int32} {g : Nat → Int32} (hN : NBig N) (hK : 100 ≤ K)  : ∀ (fu : Nat) (l2 : Int32), (21 - l2.toInt).toNat < fu → 1 ≤ l2.toInt → l2.toInt ≤ 21 → Sf (fX4_isLike_2 N K f g  fu l2) (fun (z : Int32) => 0 ≤ z.toInt ∧ z.toInt ≤ 1 ∧ True) := by
  intro fu
  induction fu with
  | zero => intro l2 h0 hq0 hq1; omega
  | succ fu ih =>
    intro l2 h0 hq0 hq1
    unfold fX4_isLike_2
    have ql0 : (0 : Int32).toInt = 0 := by decide
    have ql1 : (1 : Int32).toInt = 1 := by decide
    have ql20 : (20 : Int32).toInt = 20 := by decide
    refine sIf (fun h1 => ?_) (fun h1 => ?_)
    · have r2 := rgI l2
      have fh1 := ltT h1
      exact sRet ⟨(by show 0 ≤ (1 : Int32).toInt; decide), (by show (1 : Int32).toInt ≤ 1; decide), trivial⟩
    · have r3 := rgI l2
      have fh1 := ltF h1
      refine sIfF (noob (by omega) (by omega)) ?_
      refine sIfF (noob (by omega) (by omega)) ?_
      refine sIf (fun h4 => ?_) (fun h4 => ?_)
      · have r5 := rgI (f l2.toNatClampNeg)
        have r6 := rgI (g l2.toNatClampNeg)
        have fh4 := eqT h4
        have t7 := addI (a := l2) (b := (1 : Int32)) (by omega) (by omega)
        exact ih _ (by omega) (by first | omega | decide) (by first | omega | decide)
      · have r8 := rgI (f l2.toNatClampNeg)
        have r9 := rgI (g l2.toNatClampNeg)
        have fh4 := eqF h4
        exact sRet ⟨(by show 0 ≤ (0 : Int32).toInt; decide), (by show (0 : Int32).toInt ≤ 1; decide), trivial⟩
set_option maxHeartbeats 2000000 in
theorem s_X4_isLike {N K : Nat} {f : Nat → Int32} {g : Nat → Int32} (hN : NBig N) (hK : 100 ≤ K)  : Sf (fX4_isLike N K f g) (fun (z : Int32) => 0 ≤ z.toInt ∧ z.toInt ≤ 1 ∧ True) := by
  unfold fX4_isLike
  have hN9 := hN.u
  have ql0 : (0 : Int32).toInt = 0 := by decide
  have ql1 : (1 : Int32).toInt = 1 := by decide
  exact s_X4_isLike_2  hN hK _ _ (by omega) (by first | omega | decide) (by first | omega | decide)
set_option maxHeartbeats 2000000 in
theorem s_X4_hasNoneAbove_3 {N K : Nat} {f : Nat → Int32} {p0 : Int32} (hN : NBig N) (hK : 100 ≤ K) (hp0 : 0 ≤ p0.toInt) (hp1 : p0.toInt ≤ 20) : ∀ (fu : Nat) (l2 : Int32), (l2.toInt - 0).toNat < fu → 0 ≤ l2.toInt → l2.toInt ≤ 20 → Sf (fX4_hasNoneAbove_3 N K f p0  fu l2) (fun (z : Int32) => 0 ≤ z.toInt ∧ z.toInt ≤ 1 ∧ True) := by
  intro fu
  induction fu with
  | zero => intro l2 h0 hq0 hq1; omega
  | succ fu ih =>
    intro l2 h0 hq0 hq1
    unfold fX4_hasNoneAbove_3
    have ql0 : (0 : Int32).toInt = 0 := by decide
    have ql1 : (1 : Int32).toInt = 1 := by decide
    refine sIf (fun h1 => ?_) (fun h1 => ?_)
    · have r2 := rgI l2
      have r3 := rgI p0
      have fh1 := leT h1
      exact sRet ⟨(by show 0 ≤ (1 : Int32).toInt; decide), (by show (1 : Int32).toInt ≤ 1; decide), trivial⟩
    · have r4 := rgI l2
      have r5 := rgI p0
      have fh1 := leF h1
      refine sIf (fun h6 => ?_) (fun h6 => ?_)
      · have fh6 := ltT h6
        exfalso; omega
      · have fh6 := ltF h6
        refine sIfF (noob (by omega) (by omega)) ?_
        refine sIf (fun h7 => ?_) (fun h7 => ?_)
        · have r8 := rgI (f l2.toNatClampNeg)
          have fh7 := leT h7
          have t9 : (l2 + (-1 : Int32)).toInt = l2.toInt + (-1) := addL (by decide) (by omega) (by omega)
          exact ih _ (by omega) (by first | omega | decide) (by first | omega | decide)
        · have r10 := rgI (f l2.toNatClampNeg)
          have fh7 := leF h7
          exact sRet ⟨(by show 0 ≤ (0 : Int32).toInt; decide), (by show (0 : Int32).toInt ≤ 1; decide), trivial⟩
set_option maxHeartbeats 2000000 in
theorem s_X4_hasNoneAbove {N K : Nat} {f : Nat → Int32} {p0 : Int32} (hN : NBig N) (hK : 100 ≤ K) (hp0 : 0 ≤ p0.toInt) (hp1 : p0.toInt ≤ 20) : Sf (fX4_hasNoneAbove N K f p0) (fun (z : Int32) => 0 ≤ z.toInt ∧ z.toInt ≤ 1 ∧ True) := by
  unfold fX4_hasNoneAbove
  have hN9 := hN.u
  have ql0 : (0 : Int32).toInt = 0 := by decide
  have ql20 : (20 : Int32).toInt = 20 := by decide
  exact s_X4_hasNoneAbove_3  hN hK (by omega) (by omega) _ _ (by omega) (by first | omega | decide) (by first | omega | decide)
set_option maxHeartbeats 2000000 in
theorem s_X4_becomeEmpty {N K : Nat} {f : Nat → Int32} (hN : NBig N) (hK : 100 ≤ K)  : Sf (fX4_becomeEmpty N K f) (fun (z : (Nat → Int32)) => True) := by
  unfold fX4_becomeEmpty
  have ql0 : (0 : Int32).toInt = 0 := by decide
  refine sBind (s_J_fill hN hK (by first | omega | decide)) (fun x5 b1 => ?_)
  exact sRet trivial
set_option maxHeartbeats 2000000 in
theorem s_X4_becomeFirst {N K : Nat} {f : Nat → Int32} {p0 : Int32} (hN : NBig N) (hK : 100 ≤ K) (hp0 : 0 ≤ p0.toInt) (hp1 : p0.toInt ≤ 20) : Sf (fX4_becomeFirst N K f p0) (fun (z : (Nat → Int32)) => True) := by
  unfold fX4_becomeFirst
  have ql0 : (0 : Int32).toInt = 0 := by decide
  have ql1 : (1 : Int32).toInt = 1 := by decide
  refine sBind (s_X4_becomeEmpty hN hK) (fun x1 b1 => ?_)
  have r2 := rgI p0
  refine sBind (s_X4_put hN hK) (fun x7 b3 => ?_)
  exact sRet trivial
set_option maxHeartbeats 2000000 in
theorem s_X4_becomeTurned_9 {N K : Nat} {f : Nat → Int32} {g : Nat → Int32} (hN : NBig N) (hK : 100 ≤ K)  : ∀ (fu : Nat) (l2 : Int32) (l3 : Int32) (f_ : (Nat → Int32)), (l3.toInt - 0).toNat < fu → 0 ≤ l3.toInt → l3.toInt ≤ 20 → Sf (fX4_becomeTurned_9 N K f g  fu l2 l3 f_) (fun (z : (Nat → Int32)) => True) := by
  intro fu
  induction fu with
  | zero => intro l2 l3 f_ h0 hq0 hq1; omega
  | succ fu ih =>
    intro l2 l3 f_ h0 hq0 hq1
    unfold fX4_becomeTurned_9
    have ql0 : (0 : Int32).toInt = 0 := by decide
    have ql1 : (1 : Int32).toInt = 1 := by decide
    refine sIf (fun h1 => ?_) (fun h1 => ?_)
    · have r2 := rgI l3
      have fh1 := ltT h1
      exact sRet trivial
    · have r3 := rgI l3
      have fh1 := ltF h1
      refine sIfF (noob (by omega) (by omega)) ?_
      have r4 := rgI (l2 + (g l3.toNatClampNeg))
      refine sBind (s_X4_put hN hK) (fun x26 b5 => ?_)
      have t6 : (l3 + (-1 : Int32)).toInt = l3.toInt + (-1) := addL (by decide) (by omega) (by omega)
      exact ih _ _ _ (by omega) (by first | omega | decide) (by first | omega | decide)
set_option maxHeartbeats 2000000 in
theorem s_X4_becomeTurned {N K : Nat} {f : Nat → Int32} {g : Nat → Int32} (hN : NBig N) (hK : 100 ≤ K)  : Sf (fX4_becomeTurned N K f g) (fun (z : (Nat → Int32)) => True) := by
  unfold fX4_becomeTurned
  have hN9 := hN.u
  have ql0 : (0 : Int32).toInt = 0 := by decide
  have ql20 : (20 : Int32).toInt = 20 := by decide
  refine sBind (s_X4_becomeEmpty hN hK) (fun x1 b1 => ?_)
  exact s_X4_becomeTurned_9  hN hK _ _ _ _ (by omega) (by first | omega | decide) (by first | omega | decide)
set_option maxHeartbeats 2000000 in
theorem s_X4_becomeUnlike_45 {N K : Nat} {f : Nat → Int32} {g : Nat → Int32} (hN : NBig N) (hK : 100 ≤ K)  {k_6 : Int32 → (Nat → Int32) → Option ((Nat → Int32))} {m_6 : Nat} (hk_6 : ∀ (l2 : Int32) (f_ : (Nat → Int32)), (21 - l2.toInt).toNat < m_6 → 1 ≤ l2.toInt → l2.toInt ≤ 21 → Sf (k_6 l2 f_) (fun (z : (Nat → Int32)) => True)) {k_22 : Int32 → Int32 → Int32 → (Nat → Int32) → Option ((Nat → Int32))} {m_22 : Nat} (hk_22 : ∀ (l2 : Int32) (l3 : Int32) (l4 : Int32) (f_ : (Nat → Int32)), (40 - l4.toInt).toNat < m_22 → 1 ≤ l2.toInt → l2.toInt ≤ 20 → 1 ≤ l4.toInt → l4.toInt ≤ 40 → (21 - l2.toInt).toNat ≤ m_6 → Sf (k_22 l2 l3 l4 f_) (fun (z : (Nat → Int32)) => True)) : ∀ (l2 : Int32) (l3 : Int32) (l4 : Int32) (f_ : Nat → Int32), 1 ≤ l2.toInt → l2.toInt ≤ 20 → 1 ≤ l4.toInt → l4.toInt ≤ 20 → (21 - l2.toInt).toNat ≤ m_6 → (40 - l4.toInt).toNat ≤ m_22 → Sf (fX4_becomeUnlike_45 N K f g k_6 k_22 l2 l3 l4 f_) (fun (z : (Nat → Int32)) => True) := by
  intro l2 l3 l4 f_ hq0 hq1 hq2 hq3 hq4 hq5
  unfold fX4_becomeUnlike_45
  have ql0 : (0 : Int32).toInt = 0 := by decide
  have ql2 : (2 : Int32).toInt = 2 := by decide
  have r1 := rgI l2
  have r2 := rgI l3
  have r4 := rgI l4
  have t3 := mulR (a := l4) (b := (2 : Int32)) ql2 (by omega) (by omega)
  exact hk_22 _ _ _ _ (by omega) (by first | omega | decide) (by first | omega | decide) (by first | omega | decide) (by first | omega | decide) (by omega)
set_option maxHeartbeats 2000000 in
theorem s_X4_becomeUnlike_22 {N K : Nat} {f : Nat → Int32} {g : Nat → Int32} (hN : NBig N) (hK : 100 ≤ K)  {k_6 : Int32 → (Nat → Int32) → Option ((Nat → Int32))} {m_6 : Nat} (hk_6 : ∀ (l2 : Int32) (f_ : (Nat → Int32)), (21 - l2.toInt).toNat < m_6 → 1 ≤ l2.toInt → l2.toInt ≤ 21 → Sf (k_6 l2 f_) (fun (z : (Nat → Int32)) => True)) : ∀ (fu : Nat) (l2 : Int32) (l3 : Int32) (l4 : Int32) (f_ : (Nat → Int32)), (40 - l4.toInt).toNat < fu → 1 ≤ l2.toInt → l2.toInt ≤ 20 → 1 ≤ l4.toInt → l4.toInt ≤ 40 → (21 - l2.toInt).toNat ≤ m_6 → Sf (fX4_becomeUnlike_22 N K f g k_6 fu l2 l3 l4 f_) (fun (z : (Nat → Int32)) => True) := by
  intro fu
  induction fu with
  | zero => intro l2 l3 l4 f_ h0 hq0 hq1 hq2 hq3 hq4; omega
  | succ fu ih =>
    intro l2 l3 l4 f_ h0 hq0 hq1 hq2 hq3 hq4
    unfold fX4_becomeUnlike_22
    have ql0 : (0 : Int32).toInt = 0 := by decide
    have ql1 : (1 : Int32).toInt = 1 := by decide
    have ql20 : (20 : Int32).toInt = 20 := by decide
    refine sIf (fun h1 => ?_) (fun h1 => ?_)
    · have r2 := rgI l4
      have fh1 := ltT h1
      have r4 := rgI l2
      have t3 := addI (a := l2) (b := (1 : Int32)) (by omega) (by omega)
      exact hk_6 _ _ (by omega) (by first | omega | decide) (by first | omega | decide)
    · have r5 := rgI l4
      have fh1 := ltF h1
      refine sIf (fun h6 => ?_) (fun h6 => ?_)
      · have r7 := rgI (l3 &&& l4)
        have fh6 := eqT h6
        have r8 := rgI l2
        have r9 := rgI l3
        exact s_X4_becomeUnlike_45 (hk_6 := hk_6) (hk_22 := ih) hN hK _ _ _ _ (by first | omega | decide) (by first | omega | decide) (by first | omega | decide) (by first | omega | decide) (by omega) (by omega)
      · have r10 := rgI (l3 &&& l4)
        have fh6 := eqF h6
        have r12 := rgI l2
        have t11 := mulV (a := l4) (b := l2) (x0 := 1) (y0 := 1) (x := 20) (y := 20) (z0 := 1) (z := 400) (by omega) (by omega) (by omega) (by omega) (by decide) (by decide) (by decide) (by decide) (by decide)
        refine sBind (s_X4_put hN hK) (fun x42 b13 => ?_)
        have r14 := rgI l3
        exact s_X4_becomeUnlike_45 (hk_6 := hk_6) (hk_22 := ih) hN hK _ _ _ _ (by first | omega | decide) (by first | omega | decide) (by first | omega | decide) (by first | omega | decide) (by omega) (by omega)
set_option maxHeartbeats 2000000 in
theorem s_X4_becomeUnlike_6 {N K : Nat} {f : Nat → Int32} {g : Nat → Int32} (hN : NBig N) (hK : 100 ≤ K)  : ∀ (fu : Nat) (l2 : Int32) (f_ : (Nat → Int32)), (21 - l2.toInt).toNat < fu → 1 ≤ l2.toInt → l2.toInt ≤ 21 → Sf (fX4_becomeUnlike_6 N K f g  fu l2 f_) (fun (z : (Nat → Int32)) => True) := by
  intro fu
  induction fu with
  | zero => intro l2 f_ h0 hq0 hq1; omega
  | succ fu ih =>
    intro l2 f_ h0 hq0 hq1
    unfold fX4_becomeUnlike_6
    have hN9 := hN.u
    have ql0 : (0 : Int32).toInt = 0 := by decide
    have ql1 : (1 : Int32).toInt = 1 := by decide
    have ql20 : (20 : Int32).toInt = 20 := by decide
    refine sIf (fun h1 => ?_) (fun h1 => ?_)
    · have r2 := rgI l2
      have fh1 := ltT h1
      exact sRet trivial
    · have r3 := rgI l2
      have fh1 := ltF h1
      refine sIfF (noob (by omega) (by omega)) ?_
      have r4 := rgI (g l2.toNatClampNeg)
      exact s_X4_becomeUnlike_22 (hk_6 := ih) hN hK _ _ _ _ _ (by omega) (by first | omega | decide) (by first | omega | decide) (by first | omega | decide) (by first | omega | decide) (by omega)
set_option maxHeartbeats 2000000 in
theorem s_X4_becomeUnlike {N K : Nat} {f : Nat → Int32} {g : Nat → Int32} (hN : NBig N) (hK : 100 ≤ K)  : Sf (fX4_becomeUnlike N K f g) (fun (z : (Nat → Int32)) => True) := by
  unfold fX4_becomeUnlike
  have hN9 := hN.u
  have ql0 : (0 : Int32).toInt = 0 := by decide
  have ql1 : (1 : Int32).toInt = 1 := by decide
  refine sBind (s_X4_becomeEmpty hN hK) (fun x1 b1 => ?_)
  exact s_X4_becomeUnlike_6  hN hK _ _ _ (by omega) (by first | omega | decide) (by first | omega | decide)
set_option maxHeartbeats 2000000 in
theorem s_X4_becomeOdd_36 {N K : Nat} {f : Nat → Int32} {g : Nat → Int32} (hN : NBig N) (hK : 100 ≤ K)  {k_6 : Int32 → (Nat → Int32) → Option ((Nat → Int32))} {m_6 : Nat} (hk_6 : ∀ (l2 : Int32) (f_ : (Nat → Int32)), (21 - l2.toInt).toNat < m_6 → 1 ≤ l2.toInt → l2.toInt ≤ 21 → Sf (k_6 l2 f_) (fun (z : (Nat → Int32)) => True)) : ∀ (l2 : Int32) (f_ : Nat → Int32), 1 ≤ l2.toInt → l2.toInt ≤ 20 → (21 - l2.toInt).toNat ≤ m_6 → Sf (fX4_becomeOdd_36 N K f g k_6 l2 f_) (fun (z : (Nat → Int32)) => True) := by
  intro l2 f_ hq0 hq1 hq2
  unfold fX4_becomeOdd_36
  have ql0 : (0 : Int32).toInt = 0 := by decide
  have ql1 : (1 : Int32).toInt = 1 := by decide
  have r2 := rgI l2
  have t1 := addI (a := l2) (b := (1 : Int32)) (by omega) (by omega)
  exact hk_6 _ _ (by omega) (by first | omega | decide) (by first | omega | decide)
set_option maxHeartbeats 2000000 in
theorem s_X4_becomeOdd_6 {N K : Nat} {f : Nat → Int32} {g : Nat → Int32} (hN : NBig N) (hK : 100 ≤ K)  : ∀ (fu : Nat) (l2 : Int32) (f_ : (Nat → Int32)), (21 - l2.toInt).toNat < fu → 1 ≤ l2.toInt → l2.toInt ≤ 21 → Sf (fX4_becomeOdd_6 N K f g  fu l2 f_) (fun (z : (Nat → Int32)) => True) := by
  intro fu
  induction fu with
  | zero => intro l2 f_ h0 hq0 hq1; omega
  | succ fu ih =>
    intro l2 f_ h0 hq0 hq1
    unfold fX4_becomeOdd_6
    have ql0 : (0 : Int32).toInt = 0 := by decide
    have ql20 : (20 : Int32).toInt = 20 := by decide
    refine sIf (fun h1 => ?_) (fun h1 => ?_)
    · have r2 := rgI l2
      have fh1 := ltT h1
      exact sRet trivial
    · have r3 := rgI l2
      have fh1 := ltF h1
      refine sIf (fun h4 => ?_) (fun h4 => ?_)
      · have r5 := rgI (l2 &&& (-l2))
        have fh4 := leT h4
        exact s_X4_becomeOdd_36 (hk_6 := ih) hN hK _ _ (by first | omega | decide) (by first | omega | decide) (by omega)
      · have r6 := rgI (l2 &&& (-l2))
        have fh4 := leF h4
        refine sIfF (fun e9 => by have e8 := eqT e9; omega) ?_
        refine sIfF (noob (by omega) (by omega)) ?_
        have r7 := rgI (l2 / (l2 &&& (-l2)))
        have r8 := rgI ((l2 &&& (-l2)) * (g l2.toNatClampNeg))
        refine sBind (s_X4_put hN hK) (fun x33 b9 => ?_)
        exact s_X4_becomeOdd_36 (hk_6 := ih) hN hK _ _ (by first | omega | decide) (by first | omega | decide) (by omega)
set_option maxHeartbeats 2000000 in
theorem s_X4_becomeOdd {N K : Nat} {f : Nat → Int32} {g : Nat → Int32} (hN : NBig N) (hK : 100 ≤ K)  : Sf (fX4_becomeOdd N K f g) (fun (z : (Nat → Int32)) => True) := by
  unfold fX4_becomeOdd
  have hN9 := hN.u
  have ql0 : (0 : Int32).toInt = 0 := by decide
  have ql1 : (1 : Int32).toInt = 1 := by decide
  refine sBind (s_X4_becomeEmpty hN hK) (fun x1 b1 => ?_)
  exact s_X4_becomeOdd_6  hN hK _ _ _ (by omega) (by first | omega | decide) (by first | omega | decide)
set_option maxHeartbeats 2000000 in
theorem s_X4_become {N K : Nat} {f : Nat → Int32} {g : Nat → Int32} (hN : NBig N) (hK : 100 ≤ K)  : Sf (fX4_become N K f g) (fun (z : (Nat → Int32)) => True) := by
  unfold fX4_become
  have ql0 : (0 : Int32).toInt = 0 := by decide
  exact sRet trivial
set_option maxHeartbeats 2000000 in
theorem s_X4_isOwnTurned {N K : Nat} {f : Nat → Int32} {g : Nat → Int32} (hN : NBig N) (hK : 100 ≤ K)  : Sf (fX4_isOwnTurned N K f g) (fun (z : Int32 × (Nat → Int32)) => 0 ≤ z.1.toInt ∧ z.1.toInt ≤ 1 ∧ True) := by
  unfold fX4_isOwnTurned
  have ql0 : (0 : Int32).toInt = 0 := by decide
  refine sBind (s_X4_becomeTurned hN hK) (fun x2 b1 => ?_)
  refine sBind (s_X4_isLike hN hK) (fun x7 b2 => ?_)
  obtain ⟨b2_0, b2_1, -⟩ := b2
  replace b2_0 : 0 ≤ x7.toInt := b2_0
  replace b2_1 : x7.toInt ≤ 1 := b2_1
  have r3 := rgI x7
  refine sIfT (b01 (by omega) (by omega)) ?_
  exact sRet ⟨(by show 0 ≤ x7.toInt; omega), (by show x7.toInt ≤ 1; omega), trivial⟩
set_option maxHeartbeats 2000000 in
theorem s_X4_isOfKind {N K : Nat} {f : Nat → Int32} {g : Nat → Int32} {p0 : Int32} {p1 : Int32} (hN : NBig N) (hK : 100 ≤ K) (hp0 : 0 ≤ p0.toInt) (hp1 : p0.toInt ≤ 7) (hp2 : 0 ≤ p1.toInt) (hp3 : p1.toInt ≤ 20) : Sf (fX4_isOfKind N K f g p0 p1) (fun (z : Int32 × (Nat → Int32)) => 0 ≤ z.1.toInt ∧ z.1.toInt ≤ 1 ∧ True) := by
  unfold fX4_isOfKind
  have ql0 : (0 : Int32).toInt = 0 := by decide
  have ql1 : (1 : Int32).toInt = 1 := by decide
  have ql2 : (2 : Int32).toInt = 2 := by decide
  have ql3 : (3 : Int32).toInt = 3 := by decide
  have ql4 : (4 : Int32).toInt = 4 := by decide
  have ql5 : (5 : Int32).toInt = 5 := by decide
  have ql6 : (6 : Int32).toInt = 6 := by decide
  refine sIf (fun h1 => ?_) (fun h1 => ?_)
  · have r2 := rgI p0
    have fh1 := eqT h1
    have r3 := rgI p1
    refine sBind (s_X4_hasNoneAbove hN hK (by first | omega | decide) (by first | omega | decide)) (fun x46 b4 => ?_)
    obtain ⟨b4_0, b4_1, -⟩ := b4
    replace b4_0 : 0 ≤ x46.toInt := b4_0
    replace b4_1 : x46.toInt ≤ 1 := b4_1
    have r5 := rgI x46
    refine sIfT (b01 (by omega) (by omega)) ?_
    exact sRet ⟨(by show 0 ≤ x46.toInt; omega), (by show x46.toInt ≤ 1; omega), trivial⟩
  · have r6 := rgI p0
    have fh1 := eqF h1
    refine sIf (fun h7 => ?_) (fun h7 => ?_)
    · have fh7 := eqT h7
      refine sBind (s_X4_parts hN hK) (fun x51 b8 => ?_)
      refine sIf (fun h9 => ?_) (fun h9 => ?_)
      · have r10 := rgI x51
        have r11 := rgI p1
        have fh9 := eqT h9
        exact sRet ⟨(by show 0 ≤ (1 : Int32).toInt; decide), (by show (1 : Int32).toInt ≤ 1; decide), trivial⟩
      · have r12 := rgI x51
        have r13 := rgI p1
        have fh9 := eqF h9
        exact sRet ⟨(by show 0 ≤ (0 : Int32).toInt; decide), (by show (0 : Int32).toInt ≤ 1; decide), trivial⟩
    · have fh7 := eqF h7
      refine sIf (fun h14 => ?_) (fun h14 => ?_)
      · have fh14 := eqT h14
        refine sBind (s_X4_isUnlike hN hK) (fun x65 b15 => ?_)
        obtain ⟨b15_0, b15_1, -⟩ := b15
        replace b15_0 : 0 ≤ x65.toInt := b15_0
        replace b15_1 : x65.toInt ≤ 1 := b15_1
        refine sIf (fun h16 => ?_) (fun h16 => ?_)
        · have r17 := rgI x65
          have fh16 := eqT h16
          exact sRet ⟨(by show 0 ≤ (0 : Int32).toInt; decide), (by show (0 : Int32).toInt ≤ 1; decide), trivial⟩
        · have r18 := rgI x65
          have fh16 := eqF h16
          have r19 := rgI p1
          refine sBind (s_X4_hasNoneAbove hN hK (by first | omega | decide) (by first | omega | decide)) (fun x73 b20 => ?_)
          obtain ⟨b20_0, b20_1, -⟩ := b20
          replace b20_0 : 0 ≤ x73.toInt := b20_0
          replace b20_1 : x73.toInt ≤ 1 := b20_1
          refine sIf (fun h21 => ?_) (fun h21 => ?_)
          · have r22 := rgI x73
            have fh21 := eqT h21
            exact sRet ⟨(by show 0 ≤ (0 : Int32).toInt; decide), (by show (0 : Int32).toInt ≤ 1; decide), trivial⟩
          · have r23 := rgI x73
            have fh21 := eqF h21
            exact sRet ⟨(by show 0 ≤ (1 : Int32).toInt; decide), (by show (1 : Int32).toInt ≤ 1; decide), trivial⟩
      · have fh14 := eqF h14
        refine sIf (fun h24 => ?_) (fun h24 => ?_)
        · have fh24 := eqT h24
          refine sBind (s_X4_isOdd hN hK) (fun x86 b25 => ?_)
          obtain ⟨b25_0, b25_1, -⟩ := b25
          replace b25_0 : 0 ≤ x86.toInt := b25_0
          replace b25_1 : x86.toInt ≤ 1 := b25_1
          refine sIf (fun h26 => ?_) (fun h26 => ?_)
          · have r27 := rgI x86
            have fh26 := eqT h26
            exact sRet ⟨(by show 0 ≤ (0 : Int32).toInt; decide), (by show (0 : Int32).toInt ≤ 1; decide), trivial⟩
          · have r28 := rgI x86
            have fh26 := eqF h26
            have r29 := rgI p1
            refine sBind (s_X4_hasNoneAbove hN hK (by first | omega | decide) (by first | omega | decide)) (fun x94 b30 => ?_)
            obtain ⟨b30_0, b30_1, -⟩ := b30
            replace b30_0 : 0 ≤ x94.toInt := b30_0
            replace b30_1 : x94.toInt ≤ 1 := b30_1
            refine sIf (fun h31 => ?_) (fun h31 => ?_)
            · have r32 := rgI x94
              have fh31 := eqT h31
              exact sRet ⟨(by show 0 ≤ (0 : Int32).toInt; decide), (by show (0 : Int32).toInt ≤ 1; decide), trivial⟩
            · have r33 := rgI x94
              have fh31 := eqF h31
              exact sRet ⟨(by show 0 ≤ (1 : Int32).toInt; decide), (by show (1 : Int32).toInt ≤ 1; decide), trivial⟩
        · have fh24 := eqF h24
          refine sIf (fun h34 => ?_) (fun h34 => ?_)
          · have fh34 := eqT h34
            refine sBind (s_X4_isOdd hN hK) (fun x107 b35 => ?_)
            obtain ⟨b35_0, b35_1, -⟩ := b35
            replace b35_0 : 0 ≤ x107.toInt := b35_0
            replace b35_1 : x107.toInt ≤ 1 := b35_1
            refine sIf (fun h36 => ?_) (fun h36 => ?_)
            · have r37 := rgI x107
              have fh36 := eqT h36
              exact sRet ⟨(by show 0 ≤ (0 : Int32).toInt; decide), (by show (0 : Int32).toInt ≤ 1; decide), trivial⟩
            · have r38 := rgI x107
              have fh36 := eqF h36
              refine sBind (s_X4_isUnlike hN hK) (fun x114 b39 => ?_)
              obtain ⟨b39_0, b39_1, -⟩ := b39
              replace b39_0 : 0 ≤ x114.toInt := b39_0
              replace b39_1 : x114.toInt ≤ 1 := b39_1
              refine sIf (fun h40 => ?_) (fun h40 => ?_)
              · have r41 := rgI x114
                have fh40 := eqT h40
                exact sRet ⟨(by show 0 ≤ (0 : Int32).toInt; decide), (by show (0 : Int32).toInt ≤ 1; decide), trivial⟩
              · have r42 := rgI x114
                have fh40 := eqF h40
                have r43 := rgI p1
                refine sBind (s_X4_hasNoneAbove hN hK (by first | omega | decide) (by first | omega | decide)) (fun x122 b44 => ?_)
                obtain ⟨b44_0, b44_1, -⟩ := b44
                replace b44_0 : 0 ≤ x122.toInt := b44_0
                replace b44_1 : x122.toInt ≤ 1 := b44_1
                refine sIf (fun h45 => ?_) (fun h45 => ?_)
                · have r46 := rgI x122
                  have fh45 := eqT h45
                  exact sRet ⟨(by show 0 ≤ (0 : Int32).toInt; decide), (by show (0 : Int32).toInt ≤ 1; decide), trivial⟩
                · have r47 := rgI x122
                  have fh45 := eqF h45
                  exact sRet ⟨(by show 0 ≤ (1 : Int32).toInt; decide), (by show (1 : Int32).toInt ≤ 1; decide), trivial⟩
          · have fh34 := eqF h34
            refine sIf (fun h48 => ?_) (fun h48 => ?_)
            · have fh48 := eqT h48
              refine sBind (s_X4_isUnlike hN hK) (fun x135 b49 => ?_)
              obtain ⟨b49_0, b49_1, -⟩ := b49
              replace b49_0 : 0 ≤ x135.toInt := b49_0
              replace b49_1 : x135.toInt ≤ 1 := b49_1
              refine sIf (fun h50 => ?_) (fun h50 => ?_)
              · have r51 := rgI x135
                have fh50 := eqT h50
                exact sRet ⟨(by show 0 ≤ (0 : Int32).toInt; decide), (by show (0 : Int32).toInt ≤ 1; decide), trivial⟩
              · have r52 := rgI x135
                have fh50 := eqF h50
                refine sBind (s_X4_parts hN hK) (fun x142 b53 => ?_)
                refine sIf (fun h54 => ?_) (fun h54 => ?_)
                · have r55 := rgI x142
                  have r56 := rgI p1
                  have fh54 := eqT h54
                  exact sRet ⟨(by show 0 ≤ (1 : Int32).toInt; decide), (by show (1 : Int32).toInt ≤ 1; decide), trivial⟩
                · have r57 := rgI x142
                  have r58 := rgI p1
                  have fh54 := eqF h54
                  exact sRet ⟨(by show 0 ≤ (0 : Int32).toInt; decide), (by show (0 : Int32).toInt ≤ 1; decide), trivial⟩
            · have fh48 := eqF h48
              refine sIf (fun h59 => ?_) (fun h59 => ?_)
              · have fh59 := eqT h59
                refine sBind (s_X4_parts hN hK) (fun x156 b60 => ?_)
                refine sIf (fun h61 => ?_) (fun h61 => ?_)
                · have r62 := rgI p1
                  have r63 := rgI x156
                  have fh61 := ltT h61
                  exact sRet ⟨(by show 0 ≤ (0 : Int32).toInt; decide), (by show (0 : Int32).toInt ≤ 1; decide), trivial⟩
                · have r64 := rgI p1
                  have r65 := rgI x156
                  have fh61 := ltF h61
                  exact sRet ⟨(by show 0 ≤ (1 : Int32).toInt; decide), (by show (1 : Int32).toInt ≤ 1; decide), trivial⟩
              · have fh59 := eqF h59
                have r66 := rgI p1
                refine sBind (s_X4_hasNoneAbove hN hK (by first | omega | decide) (by first | omega | decide)) (fun x171 b67 => ?_)
                obtain ⟨b67_0, b67_1, -⟩ := b67
                replace b67_0 : 0 ≤ x171.toInt := b67_0
                replace b67_1 : x171.toInt ≤ 1 := b67_1
                refine sIf (fun h68 => ?_) (fun h68 => ?_)
                · have r69 := rgI x171
                  have fh68 := eqT h68
                  exact sRet ⟨(by show 0 ≤ (0 : Int32).toInt; decide), (by show (0 : Int32).toInt ≤ 1; decide), trivial⟩
                · have r70 := rgI x171
                  have fh68 := eqF h68
                  refine sBind (s_X4_isOwnTurned hN hK) (fun x179 b71 => ?_)
                  obtain ⟨b71_0, b71_1, -⟩ := b71
                  replace b71_0 : 0 ≤ x179.1.toInt := b71_0
                  replace b71_1 : x179.1.toInt ≤ 1 := b71_1
                  refine sIf (fun h72 => ?_) (fun h72 => ?_)
                  · have r73 := rgI x179.1
                    have fh72 := eqT h72
                    exact sRet ⟨(by show 0 ≤ (0 : Int32).toInt; decide), (by show (0 : Int32).toInt ≤ 1; decide), trivial⟩
                  · have r74 := rgI x179.1
                    have fh72 := eqF h72
                    exact sRet ⟨(by show 0 ≤ (1 : Int32).toInt; decide), (by show (1 : Int32).toInt ≤ 1; decide), trivial⟩
set_option maxHeartbeats 2000000 in
theorem s_X4_stepOn {N K : Nat} {f : Nat → Int32} (hN : NBig N) (hK : 100 ≤ K)  : Sf (fX4_stepOn N K f) (fun (z : Int32 × (Nat → Int32)) => 0 ≤ z.1.toInt ∧ z.1.toInt ≤ 1 ∧ True) := by
  unfold fX4_stepOn
  have ql0 : (0 : Int32).toInt = 0 := by decide
  have ql1 : (1 : Int32).toInt = 1 := by decide
  have ql2 : (2 : Int32).toInt = 2 := by decide
  have ql20 : (20 : Int32).toInt = 20 := by decide
  refine sBind (s_X4_leastAboveOne hN hK) (fun x1 b1 => ?_)
  obtain ⟨b1_0, b1_1, -⟩ := b1
  replace b1_0 : 0 ≤ x1.toInt := b1_0
  replace b1_1 : x1.toInt ≤ 20 := b1_1
  refine sIf (fun h2 => ?_) (fun h2 => ?_)
  · have r3 := rgI x1
    have fh2 := ltT h2
    exact sRet ⟨(by show 0 ≤ (0 : Int32).toInt; decide), (by show (0 : Int32).toInt ≤ 1; decide), trivial⟩
  · have r4 := rgI x1
    have fh2 := ltF h2
    refine sIf (fun h5 => ?_) (fun h5 => ?_)
    · have fh5 := leT h5
      refine sIfF (noob (by omega) (by omega)) ?_
      refine sIfF (noob (by omega) (by omega)) ?_
      have t6 := subI (a := x1) (b := (1 : Int32)) (by omega) (by omega)
      refine sIfF (fun e9 => by have e8 := eqT e9; omega) ?_
      have r7 := rgI ((x1 + (f (1 : Int32).toNatClampNeg)) / (x1 - (1 : Int32)))
      refine sBind (s_X4_put hN hK) (fun x53 b8 => ?_)
      refine sIfF (fun e9 => by have e8 := eqT e9; omega) ?_
      have r9 := rgI ((x1 + (f (1 : Int32).toNatClampNeg)) % (x1 - (1 : Int32)))
      refine sBind (s_X4_put hN hK) (fun x61 b10 => ?_)
      exact sRet ⟨(by show 0 ≤ (1 : Int32).toInt; decide), (by show (1 : Int32).toInt ≤ 1; decide), trivial⟩
    · have fh5 := leF h5
      exfalso; omega
set_option maxHeartbeats 2000000 in
theorem s_X3_takeOften_8 {N K : Nat} {g : Nat → Int32} {p0 : Int32} (hN : NBig N) (hK : 100 ≤ K) (hp0 : 1 ≤ p0.toInt) (hp1 : p0.toInt ≤ 20) : ∀ (fu : Nat) (l2 : Int32) (g_ : (Nat → Int32)), (21 - l2.toInt).toNat < fu → 1 ≤ l2.toInt → l2.toInt ≤ 21 → p0.toInt ≤ l2.toInt → Sf (fX3_takeOften_8 N K g p0  fu l2 g_) (fun (z : (Nat → Int32)) => True) := by
  intro fu
  induction fu with
  | zero => intro l2 g_ h0 hq0 hq1 hq2; omega
  | succ fu ih =>
    intro l2 g_ h0 hq0 hq1 hq2
    unfold fX3_takeOften_8
    have ql0 : (0 : Int32).toInt = 0 := by decide
    have ql1 : (1 : Int32).toInt = 1 := by decide
    have ql21 : (21 : Int32).toInt = 21 := by decide
    refine sIf (fun h1 => ?_) (fun h1 => ?_)
    · have r2 := rgI l2
      have fh1 := leT h1
      exact sRet trivial
    · have r3 := rgI l2
      have fh1 := leF h1
      refine sIfF (noob (by omega) (by omega)) ?_
      have r5 := rgI p0
      have t4 := subI (a := l2) (b := p0) (by omega) (by omega)
      refine sIfF (noob (by omega) (by omega)) ?_
      refine sIfF (noob (by omega) (by omega)) ?_
      have t6 := addI (a := l2) (b := (1 : Int32)) (by omega) (by omega)
      exact ih _ _ (by omega) (by first | omega | decide) (by first | omega | decide) (by omega)
set_option maxHeartbeats 2000000 in
theorem s_X3_takeOften {N K : Nat} {g : Nat → Int32} {p0 : Int32} (hN : NBig N) (hK : 100 ≤ K) (hp0 : 1 ≤ p0.toInt) (hp1 : p0.toInt ≤ 20) : Sf (fX3_takeOften N K g p0) (fun (z : (Nat → Int32)) => True) := by
  unfold fX3_takeOften
  have hN9 := hN.u
  have ql0 : (0 : Int32).toInt = 0 := by decide
  have ql1 : (1 : Int32).toInt = 1 := by decide
  refine sIf (fun h1 => ?_) (fun h1 => ?_)
  · have r2 := rgI p0
    have fh1 := leT h1
    exact s_X3_takeOften_8  hN hK (by omega) (by omega) _ _ _ (by omega) (by first | omega | decide) (by first | omega | decide) (by omega)
  · have r3 := rgI p0
    have fh1 := leF h1
    exfalso; omega
set_option maxHeartbeats 2000000 in
theorem s_X3_takeOnce_14 {N K : Nat} {g : Nat → Int32} {p0 : Int32} (hN : NBig N) (hK : 100 ≤ K) (hp0 : 1 ≤ p0.toInt) (hp1 : p0.toInt ≤ 20) : ∀ (fu : Nat) (l2 : Int32) (g_ : (Nat → Int32)), (l2.toInt - 0).toNat < fu → 0 ≤ l2.toInt → l2.toInt ≤ 20 → Sf (fX3_takeOnce_14 N K g p0  fu l2 g_) (fun (z : (Nat → Int32)) => True) := by
  intro fu
  induction fu with
  | zero => intro l2 g_ h0 hq0 hq1; omega
  | succ fu ih =>
    intro l2 g_ h0 hq0 hq1
    unfold fX3_takeOnce_14
    have ql0 : (0 : Int32).toInt = 0 := by decide
    refine sIf (fun h1 => ?_) (fun h1 => ?_)
    · have r2 := rgI l2
      have r3 := rgI p0
      have fh1 := ltT h1
      exact sRet trivial
    · have r4 := rgI l2
      have r5 := rgI p0
      have fh1 := ltF h1
      refine sIfF (noob (by omega) (by omega)) ?_
      have t6 := subI (a := l2) (b := p0) (by omega) (by omega)
      refine sIfF (noob (by omega) (by omega)) ?_
      refine sIfF (noob (by omega) (by omega)) ?_
      have t7 : (l2 + (-1 : Int32)).toInt = l2.toInt + (-1) := addL (by decide) (by omega) (by omega)
      exact ih _ _ (by omega) (by first | omega | decide) (by first | omega | decide)
set_option maxHeartbeats 2000000 in
theorem s_X3_takeOnce {N K : Nat} {g : Nat → Int32} {p0 : Int32} (hN : NBig N) (hK : 100 ≤ K) (hp0 : 1 ≤ p0.toInt) (hp1 : p0.toInt ≤ 20) : Sf (fX3_takeOnce N K g p0) (fun (z : (Nat → Int32)) => True) := by
  unfold fX3_takeOnce
  have hN9 := hN.u
  have ql0 : (0 : Int32).toInt = 0 := by decide
  have ql1 : (1 : Int32).toInt = 1 := by decide
  have ql21 : (21 : Int32).toInt = 21 := by decide
  refine sIf (fun h1 => ?_) (fun h1 => ?_)
  · have r2 := rgI p0
    have fh1 := leT h1
    have t3 := subI (a := (21 : Int32)) (b := (1 : Int32)) (by omega) (by omega)
    exact s_X3_takeOnce_14  hN hK (by omega) (by omega) _ _ _ (by omega) (by first | omega | decide) (by first | omega | decide)
  · have r4 := rgI p0
    have fh1 := leF h1
    exfalso; omega
