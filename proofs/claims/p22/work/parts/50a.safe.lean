set_option maxHeartbeats 2000000 in
theorem s_X4_timesOf {N K : Nat} {f : Nat → Int32} {p0 : Int32} (hN : NBig N) (hK : 100 ≤ K) (hp0 : 1 ≤ p0.toInt) (hp1 : p0.toInt ≤ 20) : Sf (fX4_timesOf N K f p0) (fun (z : Int32) => True) := by
  unfold fX4_timesOf
  have ql0 : (0 : Int32).toInt = 0 := by decide
  have ql1 : (1 : Int32).toInt = 1 := by decide
  have ql20 : (20 : Int32).toInt = 20 := by decide
  refine sIf (fun h1 => ?_) (fun h1 => ?_)
  · have fh1 := ltT h1
    exfalso; omega
  · have fh1 := ltF h1
    refine sIf (fun h2 => ?_) (fun h2 => ?_)
    · have fh2 := leT h2
      refine sIfF (noob (by omega) (by omega)) ?_
      exact sRet trivial
    · have fh2 := leF h2
      exfalso; omega
set_option maxHeartbeats 2000000 in
theorem s_X4_put {N K : Nat} {f : Nat → Int32} {p0 : Int32} {p1 : Int32} (hN : NBig N) (hK : 100 ≤ K)  : Sf (fX4_put N K f p0 p1) (fun (z : (Nat → Int32)) => True) := by
  unfold fX4_put
  have ql0 : (0 : Int32).toInt = 0 := by decide
  have ql1 : (1 : Int32).toInt = 1 := by decide
  have ql20 : (20 : Int32).toInt = 20 := by decide
  refine sIf (fun h1 => ?_) (fun h1 => ?_)
  · have fh1 := ltT h1
    exact sRet trivial
  · have fh1 := ltF h1
    refine sIf (fun h2 => ?_) (fun h2 => ?_)
    · have fh2 := ltT h2
      exact sRet trivial
    · have fh2 := ltF h2
      refine sIfF (noob (by omega) (by omega)) ?_
      refine sIfF (noob (by omega) (by omega)) ?_
      exact sRet trivial
set_option maxHeartbeats 2000000 in
theorem s_X4_sum_4 {N K : Nat} {f : Nat → Int32} (hN : NBig N) (hK : 100 ≤ K)  : ∀ (fu : Nat) (l1 : Int32) (l2 : Int32), (21 - l2.toInt).toNat < fu → 1 ≤ l2.toInt → l2.toInt ≤ 21 → Sf (fX4_sum_4 N K f  fu l1 l2) (fun (z : Int32) => True) := by
  intro fu
  induction fu with
  | zero => intro l1 l2 h0 hq0 hq1; omega
  | succ fu ih =>
    intro l1 l2 h0 hq0 hq1
    unfold fX4_sum_4
    have ql0 : (0 : Int32).toInt = 0 := by decide
    have ql1 : (1 : Int32).toInt = 1 := by decide
    have ql20 : (20 : Int32).toInt = 20 := by decide
    refine sIf (fun h1 => ?_) (fun h1 => ?_)
    · have fh1 := ltT h1
      exact sRet trivial
    · have fh1 := ltF h1
      refine sIfF (noob (by omega) (by omega)) ?_
      have t3 := addI (a := l2) (b := (1 : Int32)) (by omega) (by omega)
      exact ih _ _ (by omega) (by first | omega | decide) (by first | omega | decide)
set_option maxHeartbeats 2000000 in
theorem s_X4_sum {N K : Nat} {f : Nat → Int32} (hN : NBig N) (hK : 100 ≤ K)  : Sf (fX4_sum N K f) (fun (z : Int32) => True) := by
  unfold fX4_sum
  have hN9 := hN.u
  have ql0 : (0 : Int32).toInt = 0 := by decide
  have ql1 : (1 : Int32).toInt = 1 := by decide
  exact s_X4_sum_4  hN hK _ _ _ (by omega) (by first | omega | decide) (by first | omega | decide)
set_option maxHeartbeats 2000000 in
theorem s_X4_parts_4 {N K : Nat} {f : Nat → Int32} (hN : NBig N) (hK : 100 ≤ K)  : ∀ (fu : Nat) (l1 : Int32) (l2 : Int32), (21 - l2.toInt).toNat < fu → 1 ≤ l2.toInt → l2.toInt ≤ 21 → Sf (fX4_parts_4 N K f  fu l1 l2) (fun (z : Int32) => True) := by
  intro fu
  induction fu with
  | zero => intro l1 l2 h0 hq0 hq1; omega
  | succ fu ih =>
    intro l1 l2 h0 hq0 hq1
    unfold fX4_parts_4
    have ql0 : (0 : Int32).toInt = 0 := by decide
    have ql1 : (1 : Int32).toInt = 1 := by decide
    have ql20 : (20 : Int32).toInt = 20 := by decide
    refine sIf (fun h1 => ?_) (fun h1 => ?_)
    · have fh1 := ltT h1
      exact sRet trivial
    · have fh1 := ltF h1
      refine sIfF (noob (by omega) (by omega)) ?_
      have t3 := addI (a := l2) (b := (1 : Int32)) (by omega) (by omega)
      exact ih _ _ (by omega) (by first | omega | decide) (by first | omega | decide)
set_option maxHeartbeats 2000000 in
theorem s_X4_parts {N K : Nat} {f : Nat → Int32} (hN : NBig N) (hK : 100 ≤ K)  : Sf (fX4_parts N K f) (fun (z : Int32) => True) := by
  unfold fX4_parts
  have hN9 := hN.u
  have ql0 : (0 : Int32).toInt = 0 := by decide
  have ql1 : (1 : Int32).toInt = 1 := by decide
  exact s_X4_parts_4  hN hK _ _ _ (by omega) (by first | omega | decide) (by first | omega | decide)
set_option maxHeartbeats 2000000 in
theorem s_X4_differentParts_22 {N K : Nat} {f : Nat → Int32} (hN : NBig N) (hK : 100 ≤ K)  {k_4 : Int32 → Int32 → Option (Int32)} {m_4 : Nat} (hk_4 : ∀ (l1 : Int32) (l2 : Int32), (21 - l2.toInt).toNat < m_4 → 1 ≤ l2.toInt → l2.toInt ≤ 21 → Sf (k_4 l1 l2) (fun (z : Int32) => True)) : ∀ (l1 : Int32) (l2 : Int32), 1 ≤ l2.toInt → l2.toInt ≤ 20 → (21 - l2.toInt).toNat ≤ m_4 → Sf (fX4_differentParts_22 N K f k_4 l1 l2) (fun (z : Int32) => True) := by
  intro l1 l2 hq0 hq1 hq2
  unfold fX4_differentParts_22
  have ql0 : (0 : Int32).toInt = 0 := by decide
  have ql1 : (1 : Int32).toInt = 1 := by decide
  have t1 := addI (a := l2) (b := (1 : Int32)) (by omega) (by omega)
  exact hk_4 _ _ (by omega) (by first | omega | decide) (by first | omega | decide)
set_option maxHeartbeats 2000000 in
theorem s_X4_differentParts_4 {N K : Nat} {f : Nat → Int32} (hN : NBig N) (hK : 100 ≤ K)  : ∀ (fu : Nat) (l1 : Int32) (l2 : Int32), (21 - l2.toInt).toNat < fu → 1 ≤ l2.toInt → l2.toInt ≤ 21 → Sf (fX4_differentParts_4 N K f  fu l1 l2) (fun (z : Int32) => True) := by
  intro fu
  induction fu with
  | zero => intro l1 l2 h0 hq0 hq1; omega
  | succ fu ih =>
    intro l1 l2 h0 hq0 hq1
    unfold fX4_differentParts_4
    have ql0 : (0 : Int32).toInt = 0 := by decide
    have ql20 : (20 : Int32).toInt = 20 := by decide
    refine sIf (fun h1 => ?_) (fun h1 => ?_)
    · have fh1 := ltT h1
      exact sRet trivial
    · have fh1 := ltF h1
      refine sIfF (noob (by omega) (by omega)) ?_
      refine sIf (fun h2 => ?_) (fun h2 => ?_)
      · have fh2 := leT h2
        exact s_X4_differentParts_22 (hk_4 := ih) hN hK _ _ (by first | omega | decide) (by first | omega | decide) (by omega)
      · have fh2 := leF h2
        exact s_X4_differentParts_22 (hk_4 := ih) hN hK _ _ (by first | omega | decide) (by first | omega | decide) (by omega)
set_option maxHeartbeats 2000000 in
theorem s_X4_differentParts {N K : Nat} {f : Nat → Int32} (hN : NBig N) (hK : 100 ≤ K)  : Sf (fX4_differentParts N K f) (fun (z : Int32) => True) := by
  unfold fX4_differentParts
  have hN9 := hN.u
  have ql0 : (0 : Int32).toInt = 0 := by decide
  have ql1 : (1 : Int32).toInt = 1 := by decide
  exact s_X4_differentParts_4  hN hK _ _ _ (by omega) (by first | omega | decide) (by first | omega | decide)
set_option maxHeartbeats 2000000 in
theorem s_X4_isUnlike_2 {N K : Nat} {f : Nat → Int32} (hN : NBig N) (hK : 100 ≤ K)  : ∀ (fu : Nat) (l1 : Int32), (21 - l1.toInt).toNat < fu → 1 ≤ l1.toInt → l1.toInt ≤ 21 → Sf (fX4_isUnlike_2 N K f  fu l1) (fun (z : Int32) => 0 ≤ z.toInt ∧ z.toInt ≤ 1 ∧ True) := by
  intro fu
  induction fu with
  | zero => intro l1 h0 hq0 hq1; omega
  | succ fu ih =>
    intro l1 h0 hq0 hq1
    unfold fX4_isUnlike_2
    have ql0 : (0 : Int32).toInt = 0 := by decide
    have ql1 : (1 : Int32).toInt = 1 := by decide
    have ql20 : (20 : Int32).toInt = 20 := by decide
    refine sIf (fun h1 => ?_) (fun h1 => ?_)
    · have fh1 := ltT h1
      exact sRet ⟨(by show 0 ≤ (1 : Int32).toInt; decide), (by show (1 : Int32).toInt ≤ 1; decide), trivial⟩
    · have fh1 := ltF h1
      refine sIfF (noob (by omega) (by omega)) ?_
      refine sIf (fun h2 => ?_) (fun h2 => ?_)
      · have fh2 := leT h2
        have t3 := addI (a := l1) (b := (1 : Int32)) (by omega) (by omega)
        exact ih _ (by omega) (by first | omega | decide) (by first | omega | decide)
      · have fh2 := leF h2
        exact sRet ⟨(by show 0 ≤ (0 : Int32).toInt; decide), (by show (0 : Int32).toInt ≤ 1; decide), trivial⟩
set_option maxHeartbeats 2000000 in
theorem s_X4_isUnlike {N K : Nat} {f : Nat → Int32} (hN : NBig N) (hK : 100 ≤ K)  : Sf (fX4_isUnlike N K f) (fun (z : Int32) => 0 ≤ z.toInt ∧ z.toInt ≤ 1 ∧ True) := by
  unfold fX4_isUnlike
  have hN9 := hN.u
  have ql0 : (0 : Int32).toInt = 0 := by decide
  have ql1 : (1 : Int32).toInt = 1 := by decide
  exact s_X4_isUnlike_2  hN hK _ _ (by omega) (by first | omega | decide) (by first | omega | decide)
set_option maxHeartbeats 2000000 in
theorem s_X4_isOdd_2 {N K : Nat} {f : Nat → Int32} (hN : NBig N) (hK : 100 ≤ K)  : ∀ (fu : Nat) (l1 : Int32), (22 - l1.toInt).toNat < fu → 2 ≤ l1.toInt → l1.toInt ≤ 22 → Sf (fX4_isOdd_2 N K f  fu l1) (fun (z : Int32) => 0 ≤ z.toInt ∧ z.toInt ≤ 1 ∧ True) := by
  intro fu
  induction fu with
  | zero => intro l1 h0 hq0 hq1; omega
  | succ fu ih =>
    intro l1 h0 hq0 hq1
    unfold fX4_isOdd_2
    have ql0 : (0 : Int32).toInt = 0 := by decide
    have ql1 : (1 : Int32).toInt = 1 := by decide
    have ql2 : (2 : Int32).toInt = 2 := by decide
    have ql20 : (20 : Int32).toInt = 20 := by decide
    refine sIf (fun h1 => ?_) (fun h1 => ?_)
    · have fh1 := ltT h1
      exact sRet ⟨(by show 0 ≤ (1 : Int32).toInt; decide), (by show (1 : Int32).toInt ≤ 1; decide), trivial⟩
    · have fh1 := ltF h1
      refine sIfF (noob (by omega) (by omega)) ?_
      refine sIf (fun h2 => ?_) (fun h2 => ?_)
      · have fh2 := leT h2
        have t3 := addI (a := l1) (b := (2 : Int32)) (by omega) (by omega)
        exact ih _ (by omega) (by first | omega | decide) (by first | omega | decide)
      · have fh2 := leF h2
        exact sRet ⟨(by show 0 ≤ (0 : Int32).toInt; decide), (by show (0 : Int32).toInt ≤ 1; decide), trivial⟩
set_option maxHeartbeats 2000000 in
theorem s_X4_isOdd {N K : Nat} {f : Nat → Int32} (hN : NBig N) (hK : 100 ≤ K)  : Sf (fX4_isOdd N K f) (fun (z : Int32) => 0 ≤ z.toInt ∧ z.toInt ≤ 1 ∧ True) := by
  unfold fX4_isOdd
  have hN9 := hN.u
  have ql0 : (0 : Int32).toInt = 0 := by decide
  have ql2 : (2 : Int32).toInt = 2 := by decide
  exact s_X4_isOdd_2  hN hK _ _ (by omega) (by first | omega | decide) (by first | omega | decide)
set_option maxHeartbeats 2000000 in
theorem s_X4_leastAboveOne_2 {N K : Nat} {f : Nat → Int32} (hN : NBig N) (hK : 100 ≤ K)  : ∀ (fu : Nat) (l1 : Int32), (21 - l1.toInt).toNat < fu → 2 ≤ l1.toInt → l1.toInt ≤ 21 → Sf (fX4_leastAboveOne_2 N K f  fu l1) (fun (z : Int32) => 0 ≤ z.toInt ∧ z.toInt ≤ 20 ∧ True) := by
  intro fu
  induction fu with
  | zero => intro l1 h0 hq0 hq1; omega
  | succ fu ih =>
    intro l1 h0 hq0 hq1
    unfold fX4_leastAboveOne_2
    have ql0 : (0 : Int32).toInt = 0 := by decide
    have ql1 : (1 : Int32).toInt = 1 := by decide
    have ql20 : (20 : Int32).toInt = 20 := by decide
    refine sIf (fun h1 => ?_) (fun h1 => ?_)
    · have fh1 := ltT h1
      exact sRet ⟨(by show 0 ≤ (0 : Int32).toInt; decide), (by show (0 : Int32).toInt ≤ 20; decide), trivial⟩
    · have fh1 := ltF h1
      refine sIfF (noob (by omega) (by omega)) ?_
      refine sIf (fun h2 => ?_) (fun h2 => ?_)
      · have fh2 := leT h2
        have t3 := addI (a := l1) (b := (1 : Int32)) (by omega) (by omega)
        exact ih _ (by omega) (by first | omega | decide) (by first | omega | decide)
      · have fh2 := leF h2
        exact sRet ⟨(by show 0 ≤ l1.toInt; first | omega | assumption), (by show l1.toInt ≤ 20; first | omega | assumption), trivial⟩
set_option maxHeartbeats 2000000 in
theorem s_X4_leastAboveOne {N K : Nat} {f : Nat → Int32} (hN : NBig N) (hK : 100 ≤ K)  : Sf (fX4_leastAboveOne N K f) (fun (z : Int32) => 0 ≤ z.toInt ∧ z.toInt ≤ 20 ∧ True) := by
  unfold fX4_leastAboveOne
  have hN9 := hN.u
  have ql0 : (0 : Int32).toInt = 0 := by decide
  have ql2 : (2 : Int32).toInt = 2 := by decide
  exact s_X4_leastAboveOne_2  hN hK _ _ (by omega) (by first | omega | decide) (by first | omega | decide)
set_option maxHeartbeats 2000000 in
theorem s_X4_isLike_2 {N K : Nat} {f : Nat → Int32} {g : Nat → Int32} (hN : NBig N) (hK : 100 ≤ K)  : ∀ (fu : Nat) (l2 : Int32), (21 - l2.toInt).toNat < fu → 1 ≤ l2.toInt → l2.toInt ≤ 21 → Sf (fX4_isLike_2 N K f g  fu l2) (fun (z : Int32) => 0 ≤ z.toInt ∧ z.toInt ≤ 1 ∧ True) := by
  intro fu
  induction fu with
  | zero => intro l2 h0 hq0 hq1; omega
  | succ fu ih =>
    intro l2 h0 hq0 hq1
    unfold fX4_isLike_2
    have ql0 : (0 : Int32).toInt = 0 := by decide
    have ql1 : (1 : Int32).toInt = 1 := by decide
    have ql20 : (20 : Int32).toInt = 20 := by decide
    refine sIf (fun h1 => ?_) (fun h1 => ?_)
    · have fh1 := ltT h1
      exact sRet ⟨(by show 0 ≤ (1 : Int32).toInt; decide), (by show (1 : Int32).toInt ≤ 1; decide), trivial⟩
    · have fh1 := ltF h1
      refine sIfF (noob (by omega) (by omega)) ?_
      refine sIfF (noob (by omega) (by omega)) ?_
      refine sIf (fun h2 => ?_) (fun h2 => ?_)
      · have fh2 := eqT h2
        have t3 := addI (a := l2) (b := (1 : Int32)) (by omega) (by omega)
        exact ih _ (by omega) (by first | omega | decide) (by first | omega | decide)
      · have fh2 := eqF h2
        exact sRet ⟨(by show 0 ≤ (0 : Int32).toInt; decide), (by show (0 : Int32).toInt ≤ 1; decide), trivial⟩
set_option maxHeartbeats 2000000 in
theorem s_X4_isLike {N K : Nat} {f : Nat → Int32} {g : Nat → Int32} (hN : NBig N) (hK : 100 ≤ K)  : Sf (fX4_isLike N K f g) (fun (z : Int32) => 0 ≤ z.toInt ∧ z.toInt ≤ 1 ∧ True) := by
  unfold fX4_isLike
  have hN9 := hN.u
  have ql0 : (0 : Int32).toInt = 0 := by decide
  have ql1 : (1 : Int32).toInt = 1 := by decide
  exact s_X4_isLike_2  hN hK _ _ (by omega) (by first | omega | decide) (by first | omega | decide)
set_option maxHeartbeats 2000000 in
theorem s_X4_hasNoneAbove_3 {N K : Nat} {f : Nat → Int32} {p0 : Int32} (hN : NBig N) (hK : 100 ≤ K) (hp0 : 0 ≤ p0.toInt) (hp1 : p0.toInt ≤ 20) : ∀ (fu : Nat) (l2 : Int32), (l2.toInt - 0).toNat < fu → 0 ≤ l2.toInt → l2.toInt ≤ 20 → Sf (fX4_hasNoneAbove_3 N K f p0  fu l2) (fun (z : Int32) => 0 ≤ z.toInt ∧ z.toInt ≤ 1 ∧ True) := by
  intro fu
  induction fu with
  | zero => intro l2 h0 hq0 hq1; omega
  | succ fu ih =>
    intro l2 h0 hq0 hq1
    unfold fX4_hasNoneAbove_3
    have ql0 : (0 : Int32).toInt = 0 := by decide
    have ql1 : (1 : Int32).toInt = 1 := by decide
    refine sIf (fun h1 => ?_) (fun h1 => ?_)
    · have fh1 := leT h1
      exact sRet ⟨(by show 0 ≤ (1 : Int32).toInt; decide), (by show (1 : Int32).toInt ≤ 1; decide), trivial⟩
    · have fh1 := leF h1
      refine sIf (fun h2 => ?_) (fun h2 => ?_)
      · have fh2 := ltT h2
        exfalso; omega
      · have fh2 := ltF h2
        refine sIfF (noob (by omega) (by omega)) ?_
        refine sIf (fun h3 => ?_) (fun h3 => ?_)
        · have fh3 := leT h3
          have t4 : (l2 + (-1 : Int32)).toInt = l2.toInt + (-1) := addL (by decide) (by omega) (by omega)
          exact ih _ (by (try generalize l2 + (-1 : Int32) = d0_ at *); omega) (by (try generalize l2 + (-1 : Int32) = d0_ at *); first | omega | decide) (by (try generalize l2 + (-1 : Int32) = d0_ at *); first | omega | decide)
        · have fh3 := leF h3
          exact sRet ⟨(by show 0 ≤ (0 : Int32).toInt; decide), (by show (0 : Int32).toInt ≤ 1; decide), trivial⟩
set_option maxHeartbeats 2000000 in
theorem s_X4_hasNoneAbove {N K : Nat} {f : Nat → Int32} {p0 : Int32} (hN : NBig N) (hK : 100 ≤ K) (hp0 : 0 ≤ p0.toInt) (hp1 : p0.toInt ≤ 20) : Sf (fX4_hasNoneAbove N K f p0) (fun (z : Int32) => 0 ≤ z.toInt ∧ z.toInt ≤ 1 ∧ True) := by
  unfold fX4_hasNoneAbove
  have hN9 := hN.u
  have ql0 : (0 : Int32).toInt = 0 := by decide
  have ql20 : (20 : Int32).toInt = 20 := by decide
  exact s_X4_hasNoneAbove_3  hN hK (by omega) (by omega) _ _ (by omega) (by first | omega | decide) (by first | omega | decide)
set_option maxHeartbeats 2000000 in
theorem s_X4_becomeEmpty {N K : Nat} {f : Nat → Int32} (hN : NBig N) (hK : 100 ≤ K)  : Sf (fX4_becomeEmpty N K f) (fun (z : (Nat → Int32)) => True) := by
  unfold fX4_becomeEmpty
  have ql0 : (0 : Int32).toInt = 0 := by decide
  refine sBind (s_J_fill hN hK (by first | omega | decide)) (fun x5 b1 => ?_)
  exact sRet trivial
theorem s_X4_becomeFirst {N K : Nat} {f : Nat → Int32} {p0 : Int32} (hN : NBig N) (hK : 100 ≤ K) (hp0 : 0 ≤ p0.toInt) (hp1 : p0.toInt ≤ 20) : Sf (fX4_becomeFirst N K f p0) (fun (z : (Nat → Int32)) => OkD z ∧ True) := by
  have hN9 := hN.u
  obtain ⟨n, rfl, -, h2⟩ := o_of (p := p0) (a := 0) (b := 20) (by omega) (by omega)
  obtain ⟨g, a, b⟩ := c_first (N := N) (K := K) (by omega) (f := f) h2
  exact ⟨g, a, ⟨_, b⟩, trivial⟩

theorem s_X4_becomeTurned {N K : Nat} {f : Nat → Int32} {g : Nat → Int32} (hN : NBig N) (hK : 100 ≤ K) (hp0 : OkD g) : Sf (fX4_becomeTurned N K f g) (fun (z : (Nat → Int32)) => OkD z ∧ True) := by
  have hN9 := hN.u
  obtain ⟨w, hw⟩ := hp0
  obtain ⟨h, a, b⟩ := c_turn (N := N) (K := K) (by omega) (f := f) hw
  exact ⟨h, a, ⟨_, b⟩, trivial⟩

theorem s_X4_becomeUnlike {N K : Nat} {f : Nat → Int32} {g : Nat → Int32} (hN : NBig N) (hK : 100 ≤ K) (hp0 : OkD g) : Sf (fX4_becomeUnlike N K f g) (fun (z : (Nat → Int32)) => OkD z ∧ True) := by
  have hN9 := hN.u
  obtain ⟨w, hw⟩ := hp0
  obtain ⟨h, a, b⟩ := c_unlike (N := N) (K := K) (by omega) (f := f) hw
  exact ⟨h, a, ⟨_, b⟩, trivial⟩

theorem s_X4_becomeOdd {N K : Nat} {f : Nat → Int32} {g : Nat → Int32} (hN : NBig N) (hK : 100 ≤ K) (hp0 : OkD g) : Sf (fX4_becomeOdd N K f g) (fun (z : (Nat → Int32)) => OkD z ∧ True) := by
  have hN9 := hN.u
  obtain ⟨w, hw⟩ := hp0
  obtain ⟨h, a, b⟩ := c_odd (N := N) (K := K) (by omega) (f := f) hw
  exact ⟨h, a, ⟨_, b⟩, trivial⟩

theorem s_X4_become {N K : Nat} {f : Nat → Int32} {g : Nat → Int32} (hN : NBig N) (hK : 100 ≤ K) (hp0 : OkD g) : Sf (fX4_become N K f g) (fun (z : (Nat → Int32)) => OkD z ∧ True) := by
  obtain ⟨w, hw⟩ := hp0
  obtain ⟨h, a, b⟩ := c_become (N := N) (K := K) (f := f) hw.2
  exact ⟨h, a, ⟨w, hw.1, b⟩, trivial⟩

set_option maxHeartbeats 2000000 in
theorem s_X4_isOwnTurned {N K : Nat} {f : Nat → Int32} {g : Nat → Int32} (hN : NBig N) (hK : 100 ≤ K) (hp0 : OkD f) : Sf (fX4_isOwnTurned N K f g) (fun (z : Int32 × (Nat → Int32)) => 0 ≤ z.1.toInt ∧ z.1.toInt ≤ 1 ∧ True) := by
  unfold fX4_isOwnTurned
  have ql0 : (0 : Int32).toInt = 0 := by decide
  refine sBind (s_X4_becomeTurned hN hK (by first | assumption | exact OkD.z)) (fun x2 b1 => ?_)
  obtain ⟨b1_0, -⟩ := b1
  replace b1_0 : OkD x2 := b1_0
  refine sBind (s_X4_isLike hN hK) (fun x7 b2 => ?_)
  obtain ⟨b2_0, b2_1, -⟩ := b2
  replace b2_0 : 0 ≤ x7.toInt := b2_0
  replace b2_1 : x7.toInt ≤ 1 := b2_1
  refine sIfT (b01 (by omega) (by omega)) ?_
  exact sRet ⟨(by show 0 ≤ x7.toInt; first | omega | assumption), (by show x7.toInt ≤ 1; first | omega | assumption), trivial⟩
set_option maxHeartbeats 2000000 in
theorem s_X4_isOfKind {N K : Nat} {f : Nat → Int32} {g : Nat → Int32} {p0 : Int32} {p1 : Int32} (hN : NBig N) (hK : 100 ≤ K) (hp0 : 0 ≤ p0.toInt) (hp1 : p0.toInt ≤ 7) (hp2 : 0 ≤ p1.toInt) (hp3 : p1.toInt ≤ 20) (hp4 : OkD f) : Sf (fX4_isOfKind N K f g p0 p1) (fun (z : Int32 × (Nat → Int32)) => 0 ≤ z.1.toInt ∧ z.1.toInt ≤ 1 ∧ True) := by
  unfold fX4_isOfKind
  have ql0 : (0 : Int32).toInt = 0 := by decide
  have ql1 : (1 : Int32).toInt = 1 := by decide
  have ql2 : (2 : Int32).toInt = 2 := by decide
  have ql3 : (3 : Int32).toInt = 3 := by decide
  have ql4 : (4 : Int32).toInt = 4 := by decide
  have ql5 : (5 : Int32).toInt = 5 := by decide
  have ql6 : (6 : Int32).toInt = 6 := by decide
  refine sIf (fun h1 => ?_) (fun h1 => ?_)
  · have fh1 := eqT h1
    refine sBind (s_X4_hasNoneAbove hN hK (by first | omega | decide) (by first | omega | decide)) (fun x46 b2 => ?_)
    obtain ⟨b2_0, b2_1, -⟩ := b2
    replace b2_0 : 0 ≤ x46.toInt := b2_0
    replace b2_1 : x46.toInt ≤ 1 := b2_1
    refine sIfT (b01 (by omega) (by omega)) ?_
    exact sRet ⟨(by show 0 ≤ x46.toInt; first | omega | assumption), (by show x46.toInt ≤ 1; first | omega | assumption), trivial⟩
  · have fh1 := eqF h1
    refine sIf (fun h3 => ?_) (fun h3 => ?_)
    · have fh3 := eqT h3
      refine sBind (s_X4_parts hN hK) (fun x51 b4 => ?_)
      refine sIf (fun h5 => ?_) (fun h5 => ?_)
      · have fh5 := eqT h5
        exact sRet ⟨(by show 0 ≤ (1 : Int32).toInt; decide), (by show (1 : Int32).toInt ≤ 1; decide), trivial⟩
      · have fh5 := eqF h5
        exact sRet ⟨(by show 0 ≤ (0 : Int32).toInt; decide), (by show (0 : Int32).toInt ≤ 1; decide), trivial⟩
    · have fh3 := eqF h3
      refine sIf (fun h6 => ?_) (fun h6 => ?_)
      · have fh6 := eqT h6
        refine sBind (s_X4_isUnlike hN hK) (fun x65 b7 => ?_)
        obtain ⟨b7_0, b7_1, -⟩ := b7
        replace b7_0 : 0 ≤ x65.toInt := b7_0
        replace b7_1 : x65.toInt ≤ 1 := b7_1
        refine sIf (fun h8 => ?_) (fun h8 => ?_)
        · have fh8 := eqT h8
          exact sRet ⟨(by show 0 ≤ (0 : Int32).toInt; decide), (by show (0 : Int32).toInt ≤ 1; decide), trivial⟩
        · have fh8 := eqF h8
          refine sBind (s_X4_hasNoneAbove hN hK (by first | omega | decide) (by first | omega | decide)) (fun x73 b9 => ?_)
          obtain ⟨b9_0, b9_1, -⟩ := b9
          replace b9_0 : 0 ≤ x73.toInt := b9_0
          replace b9_1 : x73.toInt ≤ 1 := b9_1
          refine sIf (fun h10 => ?_) (fun h10 => ?_)
          · have fh10 := eqT h10
            exact sRet ⟨(by show 0 ≤ (0 : Int32).toInt; decide), (by show (0 : Int32).toInt ≤ 1; decide), trivial⟩
          · have fh10 := eqF h10
            exact sRet ⟨(by show 0 ≤ (1 : Int32).toInt; decide), (by show (1 : Int32).toInt ≤ 1; decide), trivial⟩
      · have fh6 := eqF h6
        refine sIf (fun h11 => ?_) (fun h11 => ?_)
        · have fh11 := eqT h11
          refine sBind (s_X4_isOdd hN hK) (fun x86 b12 => ?_)
          obtain ⟨b12_0, b12_1, -⟩ := b12
          replace b12_0 : 0 ≤ x86.toInt := b12_0
          replace b12_1 : x86.toInt ≤ 1 := b12_1
          refine sIf (fun h13 => ?_) (fun h13 => ?_)
          · have fh13 := eqT h13
            exact sRet ⟨(by show 0 ≤ (0 : Int32).toInt; decide), (by show (0 : Int32).toInt ≤ 1; decide), trivial⟩
          · have fh13 := eqF h13
            refine sBind (s_X4_hasNoneAbove hN hK (by first | omega | decide) (by first | omega | decide)) (fun x94 b14 => ?_)
            obtain ⟨b14_0, b14_1, -⟩ := b14
            replace b14_0 : 0 ≤ x94.toInt := b14_0
            replace b14_1 : x94.toInt ≤ 1 := b14_1
            refine sIf (fun h15 => ?_) (fun h15 => ?_)
            · have fh15 := eqT h15
              exact sRet ⟨(by show 0 ≤ (0 : Int32).toInt; decide), (by show (0 : Int32).toInt ≤ 1; decide), trivial⟩
            · have fh15 := eqF h15
              exact sRet ⟨(by show 0 ≤ (1 : Int32).toInt; decide), (by show (1 : Int32).toInt ≤ 1; decide), trivial⟩
        · have fh11 := eqF h11
          refine sIf (fun h16 => ?_) (fun h16 => ?_)
          · have fh16 := eqT h16
            refine sBind (s_X4_isOdd hN hK) (fun x107 b17 => ?_)
            obtain ⟨b17_0, b17_1, -⟩ := b17
            replace b17_0 : 0 ≤ x107.toInt := b17_0
            replace b17_1 : x107.toInt ≤ 1 := b17_1
            refine sIf (fun h18 => ?_) (fun h18 => ?_)
            · have fh18 := eqT h18
              exact sRet ⟨(by show 0 ≤ (0 : Int32).toInt; decide), (by show (0 : Int32).toInt ≤ 1; decide), trivial⟩
            · have fh18 := eqF h18
              refine sBind (s_X4_isUnlike hN hK) (fun x114 b19 => ?_)
              obtain ⟨b19_0, b19_1, -⟩ := b19
              replace b19_0 : 0 ≤ x114.toInt := b19_0
              replace b19_1 : x114.toInt ≤ 1 := b19_1
              refine sIf (fun h20 => ?_) (fun h20 => ?_)
              · have fh20 := eqT h20
                exact sRet ⟨(by show 0 ≤ (0 : Int32).toInt; decide), (by show (0 : Int32).toInt ≤ 1; decide), trivial⟩
              · have fh20 := eqF h20
                refine sBind (s_X4_hasNoneAbove hN hK (by first | omega | decide) (by first | omega | decide)) (fun x122 b21 => ?_)
                obtain ⟨b21_0, b21_1, -⟩ := b21
                replace b21_0 : 0 ≤ x122.toInt := b21_0
                replace b21_1 : x122.toInt ≤ 1 := b21_1
                refine sIf (fun h22 => ?_) (fun h22 => ?_)
                · have fh22 := eqT h22
                  exact sRet ⟨(by show 0 ≤ (0 : Int32).toInt; decide), (by show (0 : Int32).toInt ≤ 1; decide), trivial⟩
                · have fh22 := eqF h22
                  exact sRet ⟨(by show 0 ≤ (1 : Int32).toInt; decide), (by show (1 : Int32).toInt ≤ 1; decide), trivial⟩
          · have fh16 := eqF h16
            refine sIf (fun h23 => ?_) (fun h23 => ?_)
            · have fh23 := eqT h23
              refine sBind (s_X4_isUnlike hN hK) (fun x135 b24 => ?_)
              obtain ⟨b24_0, b24_1, -⟩ := b24
              replace b24_0 : 0 ≤ x135.toInt := b24_0
              replace b24_1 : x135.toInt ≤ 1 := b24_1
              refine sIf (fun h25 => ?_) (fun h25 => ?_)
              · have fh25 := eqT h25
                exact sRet ⟨(by show 0 ≤ (0 : Int32).toInt; decide), (by show (0 : Int32).toInt ≤ 1; decide), trivial⟩
              · have fh25 := eqF h25
                refine sBind (s_X4_parts hN hK) (fun x142 b26 => ?_)
                refine sIf (fun h27 => ?_) (fun h27 => ?_)
                · have fh27 := eqT h27
                  exact sRet ⟨(by show 0 ≤ (1 : Int32).toInt; decide), (by show (1 : Int32).toInt ≤ 1; decide), trivial⟩
                · have fh27 := eqF h27
                  exact sRet ⟨(by show 0 ≤ (0 : Int32).toInt; decide), (by show (0 : Int32).toInt ≤ 1; decide), trivial⟩
            · have fh23 := eqF h23
              refine sIf (fun h28 => ?_) (fun h28 => ?_)
              · have fh28 := eqT h28
                refine sBind (s_X4_parts hN hK) (fun x156 b29 => ?_)
                refine sIf (fun h30 => ?_) (fun h30 => ?_)
                · have fh30 := ltT h30
                  exact sRet ⟨(by show 0 ≤ (0 : Int32).toInt; decide), (by show (0 : Int32).toInt ≤ 1; decide), trivial⟩
                · have fh30 := ltF h30
                  exact sRet ⟨(by show 0 ≤ (1 : Int32).toInt; decide), (by show (1 : Int32).toInt ≤ 1; decide), trivial⟩
              · have fh28 := eqF h28
                refine sBind (s_X4_hasNoneAbove hN hK (by first | omega | decide) (by first | omega | decide)) (fun x171 b31 => ?_)
                obtain ⟨b31_0, b31_1, -⟩ := b31
                replace b31_0 : 0 ≤ x171.toInt := b31_0
                replace b31_1 : x171.toInt ≤ 1 := b31_1
                refine sIf (fun h32 => ?_) (fun h32 => ?_)
                · have fh32 := eqT h32
                  exact sRet ⟨(by show 0 ≤ (0 : Int32).toInt; decide), (by show (0 : Int32).toInt ≤ 1; decide), trivial⟩
                · have fh32 := eqF h32
                  refine sBind (s_X4_isOwnTurned hN hK (by first | assumption | exact OkD.z)) (fun x179 b33 => ?_)
                  obtain ⟨b33_0, b33_1, -⟩ := b33
                  replace b33_0 : 0 ≤ x179.1.toInt := b33_0
                  replace b33_1 : x179.1.toInt ≤ 1 := b33_1
                  refine sIf (fun h34 => ?_) (fun h34 => ?_)
                  · have fh34 := eqT h34
                    exact sRet ⟨(by show 0 ≤ (0 : Int32).toInt; decide), (by show (0 : Int32).toInt ≤ 1; decide), trivial⟩
                  · have fh34 := eqF h34
                    exact sRet ⟨(by show 0 ≤ (1 : Int32).toInt; decide), (by show (1 : Int32).toInt ≤ 1; decide), trivial⟩
theorem if01 {C : Prop} {dc : Decidable C} : 0 ≤ ((if C then 0 else 1 : Int32)).toInt ∧ ((if C then 0 else 1 : Int32)).toInt ≤ 1 := by
  by_cases e : C
  · rw [if_pos e]; decide
  · rw [if_neg e]; decide
theorem s_X4_stepOn {N K : Nat} {f : Nat → Int32} (hN : NBig N) (hK : 100 ≤ K) (hp0 : OkD f) : Sf (fX4_stepOn N K f) (fun (z : Int32 × (Nat → Int32)) => 0 ≤ z.1.toInt ∧ z.1.toInt ≤ 1 ∧ OkD z.2 ∧ True) := by
  have hN9 := hN.u
  obtain ⟨w, hw⟩ := hp0
  obtain ⟨g, a, b⟩ := c_step (N := N) (K := K) (by omega) hw
  exact ⟨_, a, if01.1, if01.2, ⟨_, b⟩, trivial⟩

set_option maxHeartbeats 2000000 in
theorem s_X3_takeOften_8 {N K : Nat} {g : Nat → Int32} {p0 : Int32} (hN : NBig N) (hK : 100 ≤ K) (hp0 : 1 ≤ p0.toInt) (hp1 : p0.toInt ≤ 20) : ∀ (fu : Nat) (l2 : Int32) (g_ : (Nat → Int32)), (21 - l2.toInt).toNat < fu → 1 ≤ l2.toInt → l2.toInt ≤ 21 → p0.toInt ≤ l2.toInt → Sf (fX3_takeOften_8 N K g p0  fu l2 g_) (fun (z : (Nat → Int32)) => True) := by
  intro fu
  induction fu with
  | zero => intro l2 g_ h0 hq0 hq1 hq2; omega
  | succ fu ih =>
    intro l2 g_ h0 hq0 hq1 hq2
    unfold fX3_takeOften_8
    have ql0 : (0 : Int32).toInt = 0 := by decide
    have ql1 : (1 : Int32).toInt = 1 := by decide
    have ql21 : (21 : Int32).toInt = 21 := by decide
    refine sIf (fun h1 => ?_) (fun h1 => ?_)
    · have fh1 := leT h1
      exact sRet trivial
    · have fh1 := leF h1
      refine sIfF (noob (by omega) (by omega)) ?_
      have t2 := subI (a := l2) (b := p0) (by omega) (by omega)
      refine sIfF (noob (by omega) (by omega)) ?_
      refine sIfF (noob (by omega) (by omega)) ?_
      have t3 := addI (a := l2) (b := (1 : Int32)) (by omega) (by omega)
      exact ih _ _ (by omega) (by first | omega | decide) (by first | omega | decide) (by omega)
set_option maxHeartbeats 2000000 in
theorem s_X3_takeOften {N K : Nat} {g : Nat → Int32} {p0 : Int32} (hN : NBig N) (hK : 100 ≤ K) (hp0 : 1 ≤ p0.toInt) (hp1 : p0.toInt ≤ 20) : Sf (fX3_takeOften N K g p0) (fun (z : (Nat → Int32)) => True) := by
  unfold fX3_takeOften
  have hN9 := hN.u
  have ql0 : (0 : Int32).toInt = 0 := by decide
  have ql1 : (1 : Int32).toInt = 1 := by decide
  refine sIf (fun h1 => ?_) (fun h1 => ?_)
  · have fh1 := leT h1
    exact s_X3_takeOften_8  hN hK (by omega) (by omega) _ _ _ (by omega) (by first | omega | decide) (by first | omega | decide) (by omega)
  · have fh1 := leF h1
    exfalso; omega
set_option maxHeartbeats 2000000 in
theorem s_X3_takeOnce_14 {N K : Nat} {g : Nat → Int32} {p0 : Int32} (hN : NBig N) (hK : 100 ≤ K) (hp0 : 1 ≤ p0.toInt) (hp1 : p0.toInt ≤ 20) : ∀ (fu : Nat) (l2 : Int32) (g_ : (Nat → Int32)), (l2.toInt - 0).toNat < fu → 0 ≤ l2.toInt → l2.toInt ≤ 20 → Sf (fX3_takeOnce_14 N K g p0  fu l2 g_) (fun (z : (Nat → Int32)) => True) := by
  intro fu
  induction fu with
  | zero => intro l2 g_ h0 hq0 hq1; omega
  | succ fu ih =>
    intro l2 g_ h0 hq0 hq1
    unfold fX3_takeOnce_14
    have ql0 : (0 : Int32).toInt = 0 := by decide
    refine sIf (fun h1 => ?_) (fun h1 => ?_)
    · have fh1 := ltT h1
      exact sRet trivial
    · have fh1 := ltF h1
      refine sIfF (noob (by omega) (by omega)) ?_
      have t2 := subI (a := l2) (b := p0) (by omega) (by omega)
      refine sIfF (noob (by omega) (by omega)) ?_
      refine sIfF (noob (by omega) (by omega)) ?_
      have t3 : (l2 + (-1 : Int32)).toInt = l2.toInt + (-1) := addL (by decide) (by omega) (by omega)
      exact ih _ _ (by (try generalize l2 + (-1 : Int32) = d0_ at *); omega) (by (try generalize l2 + (-1 : Int32) = d0_ at *); first | omega | decide) (by (try generalize l2 + (-1 : Int32) = d0_ at *); first | omega | decide)
set_option maxHeartbeats 2000000 in
theorem s_X3_takeOnce {N K : Nat} {g : Nat → Int32} {p0 : Int32} (hN : NBig N) (hK : 100 ≤ K) (hp0 : 1 ≤ p0.toInt) (hp1 : p0.toInt ≤ 20) : Sf (fX3_takeOnce N K g p0) (fun (z : (Nat → Int32)) => True) := by
  unfold fX3_takeOnce
  have hN9 := hN.u
  have ql0 : (0 : Int32).toInt = 0 := by decide
  have ql1 : (1 : Int32).toInt = 1 := by decide
  have ql21 : (21 : Int32).toInt = 21 := by decide
  refine sIf (fun h1 => ?_) (fun h1 => ?_)
  · have fh1 := leT h1
    have t2 := subI (a := (21 : Int32)) (b := (1 : Int32)) (by omega) (by omega)
    exact s_X3_takeOnce_14  hN hK (by omega) (by omega) _ _ _ (by omega) (by first | omega | decide) (by first | omega | decide)
  · have fh1 := leF h1
    exfalso; omega
set_option maxHeartbeats 2000000 in
theorem s_X3_reckon_128 {N K : Nat} {g : Nat → Int32} {p0 : Int32} {p1 : Int32} (hN : NBig N) (hK : 100 ≤ K) (hp0 : 0 ≤ p0.toInt) (hp1 : p0.toInt ≤ 7) (hp2 : 0 ≤ p1.toInt) (hp3 : p1.toInt ≤ 20) {k_80 : Int32 → Int32 → Int32 → Int32 → (Nat → Int32) → Option ((Nat → Int32))} {m_80 : Nat} (hk_80 : ∀ (l3 : Int32) (l4 : Int32) (l5 : Int32) (l6 : Int32) (g_ : (Nat → Int32)), (21 - l6.toInt).toNat < m_80 → -1 ≤ l3.toInt → l3.toInt ≤ 39 → 0 ≤ l4.toInt → l4.toInt ≤ 1 → 0 ≤ l5.toInt → l5.toInt ≤ 1 → 1 ≤ l6.toInt → l6.toInt ≤ 21 → Sf (k_80 l3 l4 l5 l6 g_) (fun (z : (Nat → Int32)) => True)) : ∀ (l3 : Int32) (l4 : Int32) (l5 : Int32) (l6 : Int32) (g_ : Nat → Int32), 1 ≤ l3.toInt → l3.toInt ≤ 39 → 0 ≤ l4.toInt → l4.toInt ≤ 1 → 0 ≤ l5.toInt → l5.toInt ≤ 1 → 1 ≤ l6.toInt → l6.toInt ≤ 20 → (21 - l6.toInt).toNat ≤ m_80 → Sf (fX3_reckon_128 N K g p0 p1 k_80 l3 l4 l5 l6 g_) (fun (z : (Nat → Int32)) => True) := by
  intro l3 l4 l5 l6 g_ hq0 hq1 hq2 hq3 hq4 hq5 hq6 hq7 hq8
  unfold fX3_reckon_128
  have ql0 : (0 : Int32).toInt = 0 := by decide
  have ql1 : (1 : Int32).toInt = 1 := by decide
  have t1 := addI (a := l6) (b := (1 : Int32)) (by omega) (by omega)
  exact hk_80 _ _ _ _ _ (by omega) (by first | omega | decide) (by first | omega | decide) (by first | omega | decide) (by first | omega | decide) (by first | omega | decide) (by first | omega | decide) (by first | omega | decide) (by first | omega | decide)
set_option maxHeartbeats 2000000 in
theorem s_X3_reckon_108 {N K : Nat} {g : Nat → Int32} {p0 : Int32} {p1 : Int32} (hN : NBig N) (hK : 100 ≤ K) (hp0 : 0 ≤ p0.toInt) (hp1 : p0.toInt ≤ 7) (hp2 : 0 ≤ p1.toInt) (hp3 : p1.toInt ≤ 20) {k_80 : Int32 → Int32 → Int32 → Int32 → (Nat → Int32) → Option ((Nat → Int32))} {m_80 : Nat} (hk_80 : ∀ (l3 : Int32) (l4 : Int32) (l5 : Int32) (l6 : Int32) (g_ : (Nat → Int32)), (21 - l6.toInt).toNat < m_80 → -1 ≤ l3.toInt → l3.toInt ≤ 39 → 0 ≤ l4.toInt → l4.toInt ≤ 1 → 0 ≤ l5.toInt → l5.toInt ≤ 1 → 1 ≤ l6.toInt → l6.toInt ≤ 21 → Sf (k_80 l3 l4 l5 l6 g_) (fun (z : (Nat → Int32)) => True)) : ∀ (l3 : Int32) (l4 : Int32) (l5 : Int32) (l6 : Int32) (g_ : Nat → Int32), 1 ≤ l3.toInt → l3.toInt ≤ 39 → 0 ≤ l4.toInt → l4.toInt ≤ 1 → 0 ≤ l5.toInt → l5.toInt ≤ 1 → 1 ≤ l6.toInt → l6.toInt ≤ 20 → (21 - l6.toInt).toNat ≤ m_80 → Sf (fX3_reckon_108 N K g p0 p1 k_80 l3 l4 l5 l6 g_) (fun (z : (Nat → Int32)) => True) := by
  intro l3 l4 l5 l6 g_ hq0 hq1 hq2 hq3 hq4 hq5 hq6 hq7 hq8
  unfold fX3_reckon_108
  have ql0 : (0 : Int32).toInt = 0 := by decide
  refine sIf (fun h1 => ?_) (fun h1 => ?_)
  · have fh1 := eqT h1
    refine sBind (s_X3_takeOften hN hK (by first | omega | decide) (by first | omega | decide)) (fun x125 b2 => ?_)
    exact s_X3_reckon_128 (hk_80 := hk_80) hN hK (by omega) (by omega) (by omega) (by omega) _ _ _ _ _ (by first | omega | decide) (by first | omega | decide) (by first | omega | decide) (by first | omega | decide) (by first | omega | decide) (by first | omega | decide) (by first | omega | decide) (by first | omega | decide) (by omega)
  · have fh1 := eqF h1
    refine sBind (s_X3_takeOnce hN hK (by first | omega | decide) (by first | omega | decide)) (fun x116 b3 => ?_)
    exact s_X3_reckon_128 (hk_80 := hk_80) hN hK (by omega) (by omega) (by omega) (by omega) _ _ _ _ _ (by first | omega | decide) (by first | omega | decide) (by first | omega | decide) (by first | omega | decide) (by first | omega | decide) (by first | omega | decide) (by first | omega | decide) (by first | omega | decide) (by omega)
set_option maxHeartbeats 2000000 in
theorem s_X3_reckon_80 {N K : Nat} {g : Nat → Int32} {p0 : Int32} {p1 : Int32} (hN : NBig N) (hK : 100 ≤ K) (hp0 : 0 ≤ p0.toInt) (hp1 : p0.toInt ≤ 7) (hp2 : 0 ≤ p1.toInt) (hp3 : p1.toInt ≤ 20) : ∀ (fu : Nat) (l3 : Int32) (l4 : Int32) (l5 : Int32) (l6 : Int32) (g_ : (Nat → Int32)), (21 - l6.toInt).toNat < fu → -1 ≤ l3.toInt → l3.toInt ≤ 39 → 0 ≤ l4.toInt → l4.toInt ≤ 1 → 0 ≤ l5.toInt → l5.toInt ≤ 1 → 1 ≤ l6.toInt → l6.toInt ≤ 21 → Sf (fX3_reckon_80 N K g p0 p1  fu l3 l4 l5 l6 g_) (fun (z : (Nat → Int32)) => True) := by
  intro fu
  induction fu with
  | zero => intro l3 l4 l5 l6 g_ h0 hq0 hq1 hq2 hq3 hq4 hq5 hq6 hq7; omega
  | succ fu ih =>
    intro l3 l4 l5 l6 g_ h0 hq0 hq1 hq2 hq3 hq4 hq5 hq6 hq7
    unfold fX3_reckon_80
    have ql0 : (0 : Int32).toInt = 0 := by decide
    have ql2 : (2 : Int32).toInt = 2 := by decide
    have ql20 : (20 : Int32).toInt = 20 := by decide
    refine sIf (fun h1 => ?_) (fun h1 => ?_)
    · have fh1 := ltT h1
      exact sRet trivial
    · have fh1 := ltF h1
      refine sIf (fun h2 => ?_) (fun h2 => ?_)
      · have fh2 := ltT h2
        exact sRet trivial
      · have fh2 := ltF h2
        refine sIf (fun h3 => ?_) (fun h3 => ?_)
        · have fh3 := eqT h3
          exact s_X3_reckon_108 (hk_80 := ih) hN hK (by omega) (by omega) (by omega) (by omega) _ _ _ _ _ (by first | omega | decide) (by first | omega | decide) (by first | omega | decide) (by first | omega | decide) (by first | omega | decide) (by first | omega | decide) (by first | omega | decide) (by first | omega | decide) (by omega)
        · have fh3 := eqF h3
          refine sIf (fun h4 => ?_) (fun h4 => ?_)
          · have t5 := modL (a := l6) (b := (2 : Int32)) ql2 (by omega)
            have fh4 := eqT h4
            exact s_X3_reckon_128 (hk_80 := ih) hN hK (by omega) (by omega) (by omega) (by omega) _ _ _ _ _ (by first | omega | decide) (by first | omega | decide) (by first | omega | decide) (by first | omega | decide) (by first | omega | decide) (by first | omega | decide) (by first | omega | decide) (by first | omega | decide) (by omega)
          · have t6 := modL (a := l6) (b := (2 : Int32)) ql2 (by omega)
            have fh4 := eqF h4
            exact s_X3_reckon_108 (hk_80 := ih) hN hK (by omega) (by omega) (by omega) (by omega) _ _ _ _ _ (by first | omega | decide) (by first | omega | decide) (by first | omega | decide) (by first | omega | decide) (by first | omega | decide) (by first | omega | decide) (by first | omega | decide) (by first | omega | decide) (by omega)
set_option maxHeartbeats 2000000 in
theorem s_X3_reckon_75 {N K : Nat} {g : Nat → Int32} {p0 : Int32} {p1 : Int32} (hN : NBig N) (hK : 100 ≤ K) (hp0 : 0 ≤ p0.toInt) (hp1 : p0.toInt ≤ 7) (hp2 : 0 ≤ p1.toInt) (hp3 : p1.toInt ≤ 20) : ∀ (l3 : Int32) (l4 : Int32) (s0 : Int32) (g_ : Nat → Int32), -1 ≤ l3.toInt → l3.toInt ≤ 39 → 0 ≤ l4.toInt → l4.toInt ≤ 1 → 0 ≤ s0.toInt → s0.toInt ≤ 1 → (s0.toInt = 0 → 0 ≤ p0.toInt ∧ p0.toInt ≤ 6 ∧ 0 ≤ p1.toInt ∧ p1.toInt ≤ 20) → Sf (fX3_reckon_75 N K g p0 p1  l3 l4 s0 g_) (fun (z : (Nat → Int32)) => True) := by
  intro l3 l4 s0 g_ hq0 hq1 hq2 hq3 hq4 hq5 hq6
  unfold fX3_reckon_75
  have hN9 := hN.u
  have ql0 : (0 : Int32).toInt = 0 := by decide
  have ql1 : (1 : Int32).toInt = 1 := by decide
  exact s_X3_reckon_80  hN hK (by omega) (by omega) (by omega) (by omega) _ _ _ _ _ _ (by omega) (by first | omega | decide) (by first | omega | decide) (by first | omega | decide) (by first | omega | decide) (by first | omega | decide) (by first | omega | decide) (by first | omega | decide) (by first | omega | decide)
set_option maxHeartbeats 2000000 in
theorem s_X3_reckon_70 {N K : Nat} {g : Nat → Int32} {p0 : Int32} {p1 : Int32} (hN : NBig N) (hK : 100 ≤ K) (hp0 : 0 ≤ p0.toInt) (hp1 : p0.toInt ≤ 7) (hp2 : 0 ≤ p1.toInt) (hp3 : p1.toInt ≤ 20) : ∀ (l3 : Int32) (l4 : Int32) (g_ : Nat → Int32), 2 ≤ p0.toInt → p0.toInt ≤ 7 → -1 ≤ l3.toInt → l3.toInt ≤ 39 → 0 ≤ l4.toInt → l4.toInt ≤ 1 → Sf (fX3_reckon_70 N K g p0 p1  l3 l4 g_) (fun (z : (Nat → Int32)) => True) := by
  intro l3 l4 g_ hq0 hq1 hq2 hq3 hq4 hq5
  unfold fX3_reckon_70
  have ql0 : (0 : Int32).toInt = 0 := by decide
  have ql1 : (1 : Int32).toInt = 1 := by decide
  exact s_X3_reckon_75  hN hK (by omega) (by omega) (by omega) (by omega) _ _ _ _ (by first | omega | decide) (by first | omega | decide) (by first | omega | decide) (by first | omega | decide) (by first | omega | decide) (by first | omega | decide) (by first | omega | decide)
set_option maxHeartbeats 2000000 in
theorem s_X3_reckon_52 {N K : Nat} {g : Nat → Int32} {p0 : Int32} {p1 : Int32} (hN : NBig N) (hK : 100 ≤ K) (hp0 : 0 ≤ p0.toInt) (hp1 : p0.toInt ≤ 7) (hp2 : 0 ≤ p1.toInt) (hp3 : p1.toInt ≤ 20) : ∀ (l3 : Int32) (s0 : Int32) (g_ : Nat → Int32), -1 ≤ l3.toInt → l3.toInt ≤ 39 → 0 ≤ s0.toInt → s0.toInt ≤ 1 → (s0.toInt = 0 → 0 ≤ p0.toInt ∧ p0.toInt ≤ 6 ∧ 0 ≤ p1.toInt ∧ p1.toInt ≤ 20) → Sf (fX3_reckon_52 N K g p0 p1  l3 s0 g_) (fun (z : (Nat → Int32)) => True) := by
  intro l3 s0 g_ hq0 hq1 hq2 hq3 hq4
  unfold fX3_reckon_52
  have ql0 : (0 : Int32).toInt = 0 := by decide
  have ql2 : (2 : Int32).toInt = 2 := by decide
  have ql4 : (4 : Int32).toInt = 4 := by decide
  have ql7 : (7 : Int32).toInt = 7 := by decide
  refine sIf (fun h1 => ?_) (fun h1 => ?_)
  · have fh1 := eqT h1
    exact s_X3_reckon_70  hN hK (by omega) (by omega) (by omega) (by omega) _ _ _ (by first | omega | decide) (by first | omega | decide) (by first | omega | decide) (by first | omega | decide) (by first | omega | decide) (by first | omega | decide)
  · have fh1 := eqF h1
    refine sIf (fun h2 => ?_) (fun h2 => ?_)
    · have fh2 := eqT h2
      exact s_X3_reckon_70  hN hK (by omega) (by omega) (by omega) (by omega) _ _ _ (by first | omega | decide) (by first | omega | decide) (by first | omega | decide) (by first | omega | decide) (by first | omega | decide) (by first | omega | decide)
    · have fh2 := eqF h2
      refine sIf (fun h3 => ?_) (fun h3 => ?_)
      · have fh3 := eqT h3
        exact s_X3_reckon_70  hN hK (by omega) (by omega) (by omega) (by omega) _ _ _ (by first | omega | decide) (by first | omega | decide) (by first | omega | decide) (by first | omega | decide) (by first | omega | decide) (by first | omega | decide)
      · have fh3 := eqF h3
        exact s_X3_reckon_75  hN hK (by omega) (by omega) (by omega) (by omega) _ _ _ _ (by first | omega | decide) (by first | omega | decide) (by first | omega | decide) (by first | omega | decide) (by first | omega | decide) (by first | omega | decide) (by first | omega | decide)
set_option maxHeartbeats 2000000 in
theorem s_X3_reckon_47 {N K : Nat} {g : Nat → Int32} {p0 : Int32} {p1 : Int32} (hN : NBig N) (hK : 100 ≤ K) (hp0 : 0 ≤ p0.toInt) (hp1 : p0.toInt ≤ 7) (hp2 : 0 ≤ p1.toInt) (hp3 : p1.toInt ≤ 20) : ∀ (l3 : Int32) (g_ : Nat → Int32), 3 ≤ p0.toInt → p0.toInt ≤ 7 → -1 ≤ l3.toInt → l3.toInt ≤ 39 → Sf (fX3_reckon_47 N K g p0 p1  l3 g_) (fun (z : (Nat → Int32)) => True) := by
  intro l3 g_ hq0 hq1 hq2 hq3
  unfold fX3_reckon_47
  have ql0 : (0 : Int32).toInt = 0 := by decide
  have ql1 : (1 : Int32).toInt = 1 := by decide
  exact s_X3_reckon_52  hN hK (by omega) (by omega) (by omega) (by omega) _ _ _ (by first | omega | decide) (by first | omega | decide) (by first | omega | decide) (by first | omega | decide) (by first | omega | decide)
set_option maxHeartbeats 2000000 in
theorem s_X3_reckon_30 {N K : Nat} {g : Nat → Int32} {p0 : Int32} {p1 : Int32} (hN : NBig N) (hK : 100 ≤ K) (hp0 : 0 ≤ p0.toInt) (hp1 : p0.toInt ≤ 7) (hp2 : 0 ≤ p1.toInt) (hp3 : p1.toInt ≤ 20) : ∀ (s0 : Int32) (g_ : Nat → Int32), -1 ≤ s0.toInt → s0.toInt ≤ 39 → (s0.toInt = 0 → 0 ≤ p0.toInt ∧ p0.toInt ≤ 7 ∧ 0 ≤ p1.toInt ∧ p1.toInt ≤ 20) → Sf (fX3_reckon_30 N K g p0 p1  s0 g_) (fun (z : (Nat → Int32)) => True) := by
  intro s0 g_ hq0 hq1 hq2
  unfold fX3_reckon_30
  have ql0 : (0 : Int32).toInt = 0 := by decide
  have ql3 : (3 : Int32).toInt = 3 := by decide
  have ql4 : (4 : Int32).toInt = 4 := by decide
  have ql7 : (7 : Int32).toInt = 7 := by decide
  refine sIf (fun h1 => ?_) (fun h1 => ?_)
  · have fh1 := eqT h1
    exact s_X3_reckon_47  hN hK (by omega) (by omega) (by omega) (by omega) _ _ (by first | omega | decide) (by first | omega | decide) (by first | omega | decide) (by first | omega | decide)
  · have fh1 := eqF h1
    refine sIf (fun h2 => ?_) (fun h2 => ?_)
    · have fh2 := eqT h2
      exact s_X3_reckon_47  hN hK (by omega) (by omega) (by omega) (by omega) _ _ (by first | omega | decide) (by first | omega | decide) (by first | omega | decide) (by first | omega | decide)
    · have fh2 := eqF h2
      refine sIf (fun h3 => ?_) (fun h3 => ?_)
      · have fh3 := eqT h3
        exact s_X3_reckon_47  hN hK (by omega) (by omega) (by omega) (by omega) _ _ (by first | omega | decide) (by first | omega | decide) (by first | omega | decide) (by first | omega | decide)
      · have fh3 := eqF h3
        exact s_X3_reckon_52  hN hK (by omega) (by omega) (by omega) (by omega) _ _ _ (by first | omega | decide) (by first | omega | decide) (by first | omega | decide) (by first | omega | decide) (by first | omega | decide)
