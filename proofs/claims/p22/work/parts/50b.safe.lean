set_option maxHeartbeats 2000000 in
theorem s_X3_reckon {N K : Nat} {g : Nat → Int32} {p0 : Int32} {p1 : Int32} (hN : NBig N) (hK : 100 ≤ K) (hp0 : 0 ≤ p0.toInt) (hp1 : p0.toInt ≤ 7) (hp2 : 0 ≤ p1.toInt) (hp3 : p1.toInt ≤ 20) : Sf (fX3_reckon N K g p0 p1) (fun (z : (Nat → Int32)) => True) := by
  unfold fX3_reckon
  have ql0 : (0 : Int32).toInt = 0 := by decide
  have ql1 : (1 : Int32).toInt = 1 := by decide
  have ql2 : (2 : Int32).toInt = 2 := by decide
  have ql7 : (7 : Int32).toInt = 7 := by decide
  refine sBind (s_J_fill hN hK (by first | omega | decide)) (fun x5 b1 => ?_)
  refine sIf (fun h2 => ?_) (fun h2 => ?_)
  · have fh2 := eqT h2
    have t4 := mulL (a := (2 : Int32)) (b := p1) ql2 (by omega) (by omega)
    have t3 := subI (a := ((2 : Int32) * p1)) (b := (1 : Int32)) (by omega) (by omega)
    exact s_X3_reckon_30  hN hK (by omega) (by omega) (by omega) (by omega) _ _ (by first | omega | decide) (by first | omega | decide) (by first | omega | decide)
  · have fh2 := eqF h2
    exact s_X3_reckon_30  hN hK (by omega) (by omega) (by omega) (by omega) _ _ (by first | omega | decide) (by first | omega | decide) (by first | omega | decide)
set_option maxHeartbeats 2000000 in
theorem s_X3_reckoned_32 {N K : Nat} {g : Nat → Int32} {p0 : Int32} {p1 : Int32} {p2 : Int32} (hN : NBig N) (hK : 100 ≤ K) (hp0 : 0 ≤ p0.toInt) (hp1 : p0.toInt ≤ 7) (hp2 : 0 ≤ p1.toInt) (hp3 : p1.toInt ≤ 20) (hp4 : 0 ≤ p2.toInt) (hp5 : p2.toInt ≤ 20) : ∀ (l4 : Int32), -210 ≤ l4.toInt → l4.toInt ≤ 20 → Sf (fX3_reckoned_32 N K g p0 p1 p2  l4) (fun (z : Int32) => True) := by
  intro l4 hq0 hq1
  unfold fX3_reckoned_32
  have ql0 : (0 : Int32).toInt = 0 := by decide
  have ql21 : (21 : Int32).toInt = 21 := by decide
  refine sIf (fun h1 => ?_) (fun h1 => ?_)
  · have fh1 := ltT h1
    exact sRet trivial
  · have fh1 := ltF h1
    refine sIf (fun h2 => ?_) (fun h2 => ?_)
    · have fh2 := ltT h2
      refine sIfF (noob (by omega) (by omega)) ?_
      exact sRet trivial
    · have fh2 := ltF h2
      exfalso; omega
set_option maxHeartbeats 2000000 in
theorem s_X3_reckoned {N K : Nat} {g : Nat → Int32} {p0 : Int32} {p1 : Int32} {p2 : Int32} (hN : NBig N) (hK : 100 ≤ K) (hp0 : 0 ≤ p0.toInt) (hp1 : p0.toInt ≤ 7) (hp2 : 0 ≤ p1.toInt) (hp3 : p1.toInt ≤ 20) (hp4 : 0 ≤ p2.toInt) (hp5 : p2.toInt ≤ 20) : Sf (fX3_reckoned N K g p0 p1 p2) (fun (z : Int32) => True) := by
  unfold fX3_reckoned
  have ql0 : (0 : Int32).toInt = 0 := by decide
  have ql1 : (1 : Int32).toInt = 1 := by decide
  have ql2 : (2 : Int32).toInt = 2 := by decide
  have ql5 : (5 : Int32).toInt = 5 := by decide
  refine sIf (fun h1 => ?_) (fun h1 => ?_)
  · have fh1 := eqT h1
    have t2 := subI (a := p1) (b := p2) (by omega) (by omega)
    exact s_X3_reckoned_32  hN hK (by omega) (by omega) (by omega) (by omega) (by omega) (by omega) _ (by first | omega | decide) (by first | omega | decide)
  · have fh1 := eqF h1
    refine sIf (fun h3 => ?_) (fun h3 => ?_)
    · have fh3 := eqT h3
      have t7 := addI (a := p2) (b := (1 : Int32)) (by omega) (by omega)
      have t6 := mulV (a := p2) (b := (p2 + (1 : Int32))) (x0 := 0) (y0 := 1) (x := 20) (y := 21) (z0 := 0) (z := 420) (by omega) (by omega) (by omega) (by omega) (by decide) (by decide) (by decide) (by decide) (by decide)
      have t5 := divL (a := (p2 * (p2 + (1 : Int32)))) (b := (2 : Int32)) ql2 (by omega) (by omega)
      have t4 := subI (a := p1) (b := ((p2 * (p2 + (1 : Int32))) / (2 : Int32))) (by omega) (by omega)
      exact s_X3_reckoned_32  hN hK (by omega) (by omega) (by omega) (by omega) (by omega) (by omega) _ (by first | omega | decide) (by first | omega | decide)
    · have fh3 := eqF h3
      exact s_X3_reckoned_32  hN hK (by omega) (by omega) (by omega) (by omega) (by omega) (by omega) _ (by first | omega | decide) (by first | omega | decide)
set_option maxHeartbeats 2000000 in
theorem s_X3_tells {N K : Nat} {g : Nat → Int32} {p0 : Int32} {p1 : Int32} {p2 : Int32} (hN : NBig N) (hK : 100 ≤ K) (hp0 : 0 ≤ p0.toInt) (hp1 : p0.toInt ≤ 7) (hp2 : 0 ≤ p1.toInt) (hp3 : p1.toInt ≤ 20) (hp4 : 0 ≤ p2.toInt) (hp5 : p2.toInt ≤ 20) : Sf (fX3_tells N K g p0 p1 p2) (fun (z : Int32 × (Nat → Int32)) => True) := by
  unfold fX3_tells
  have ql0 : (0 : Int32).toInt = 0 := by decide
  refine sBind (s_X3_reckon hN hK (by first | omega | decide) (by first | omega | decide) (by first | omega | decide) (by first | omega | decide)) (fun x3 b1 => ?_)
  refine sBind (s_X3_reckoned hN hK (by first | omega | decide) (by first | omega | decide) (by first | omega | decide) (by first | omega | decide) (by first | omega | decide) (by first | omega | decide)) (fun x10 b2 => ?_)
  exact sRet trivial
set_option maxHeartbeats 2000000 in
theorem s_X1_size {N K : Nat} {ru : Int32} {sz : Int32} {f : Nat → Int32} (hN : NBig N) (hK : 100 ≤ K)  : Sf (fX1_size N K ru sz f) (fun (z : Int32) => True) := by
  unfold fX1_size
  have ql0 : (0 : Int32).toInt = 0 := by decide
  exact sRet trivial
set_option maxHeartbeats 2000000 in
theorem s_X1_keptWorth {N K : Nat} {ru : Int32} {sz : Int32} {f : Nat → Int32} {p0 : Int32} (hN : NBig N) (hK : 100 ≤ K) (hp0 : 0 ≤ p0.toInt) (hp1 : p0.toInt ≤ 20) : Sf (fX1_keptWorth N K ru sz f p0) (fun (z : Int32) => True) := by
  unfold fX1_keptWorth
  have ql0 : (0 : Int32).toInt = 0 := by decide
  have ql1 : (1 : Int32).toInt = 1 := by decide
  have ql20 : (20 : Int32).toInt = 20 := by decide
  refine sIf (fun h1 => ?_) (fun h1 => ?_)
  · have fh1 := ltT h1
    exact sRet trivial
  · have fh1 := ltF h1
    refine sIf (fun h2 => ?_) (fun h2 => ?_)
    · have fh2 := leT h2
      refine sIfF (noob (by omega) (by omega)) ?_
      exact sRet trivial
    · have fh2 := leF h2
      exfalso; omega
set_option maxHeartbeats 2000000 in
theorem s_X1_keeps {N K : Nat} {ru : Int32} {sz : Int32} {f : Nat → Int32} {p0 : Int32} (hN : NBig N) (hK : 100 ≤ K) (hp0 : 0 ≤ p0.toInt) (hp1 : p0.toInt ≤ 20) : Sf (fX1_keeps N K ru sz f p0) (fun (z : Int32) => 0 ≤ z.toInt ∧ z.toInt ≤ 1 ∧ True) := by
  unfold fX1_keeps
  have ql0 : (0 : Int32).toInt = 0 := by decide
  have ql1 : (1 : Int32).toInt = 1 := by decide
  refine sBind (s_X1_keptWorth hN hK (by first | omega | decide) (by first | omega | decide)) (fun x2 b1 => ?_)
  refine sIf (fun h2 => ?_) (fun h2 => ?_)
  · have fh2 := eqT h2
    rw [show (-1 : Int32).toInt = -1 from by decide] at fh2
    exact sRet ⟨(by show 0 ≤ (0 : Int32).toInt; decide), (by show (0 : Int32).toInt ≤ 1; decide), trivial⟩
  · have fh2 := eqF h2
    rw [show (-1 : Int32).toInt = -1 from by decide] at fh2
    exact sRet ⟨(by show 0 ≤ (1 : Int32).toInt; decide), (by show (1 : Int32).toInt ≤ 1; decide), trivial⟩
set_option maxHeartbeats 2000000 in
theorem s_X1_sumOfDivisors_37 {N K : Nat} {ru : Int32} {sz : Int32} {f : Nat → Int32} {p0 : Int32} (hN : NBig N) (hK : 100 ≤ K) (hp0 : 1 ≤ p0.toInt) (hp1 : p0.toInt ≤ 20) {k_19 : Int32 → Int32 → Int32 → Option (Int32)} {m_19 : Nat} (hk_19 : ∀ (l2 : Int32) (l3 : Int32) (l4 : Int32), (22 - l4.toInt).toNat < m_19 → 1 ≤ l2.toInt → l2.toInt ≤ 2 → 1 ≤ l4.toInt → l4.toInt ≤ 22 → Sf (k_19 l2 l3 l4) (fun (z : Int32) => True)) : ∀ (l2 : Int32) (l3 : Int32) (l4 : Int32), 1 ≤ l2.toInt → l2.toInt ≤ 2 → 1 ≤ l4.toInt → l4.toInt ≤ 20 → (22 - l4.toInt).toNat ≤ m_19 → Sf (fX1_sumOfDivisors_37 N K ru sz f p0 k_19 l2 l3 l4) (fun (z : Int32) => True) := by
  intro l2 l3 l4 hq0 hq1 hq2 hq3 hq4
  unfold fX1_sumOfDivisors_37
  have ql0 : (0 : Int32).toInt = 0 := by decide
  have t1 := addI (a := l4) (b := l2) (by omega) (by omega)
  exact hk_19 _ _ _ (by omega) (by first | omega | decide) (by first | omega | decide) (by first | omega | decide) (by first | omega | decide)
set_option maxHeartbeats 2000000 in
theorem s_X1_sumOfDivisors_19 {N K : Nat} {ru : Int32} {sz : Int32} {f : Nat → Int32} {p0 : Int32} (hN : NBig N) (hK : 100 ≤ K) (hp0 : 1 ≤ p0.toInt) (hp1 : p0.toInt ≤ 20) : ∀ (fu : Nat) (l2 : Int32) (l3 : Int32) (l4 : Int32), (22 - l4.toInt).toNat < fu → 1 ≤ l2.toInt → l2.toInt ≤ 2 → 1 ≤ l4.toInt → l4.toInt ≤ 22 → Sf (fX1_sumOfDivisors_19 N K ru sz f p0  fu l2 l3 l4) (fun (z : Int32) => True) := by
  intro fu
  induction fu with
  | zero => intro l2 l3 l4 h0 hq0 hq1 hq2 hq3; omega
  | succ fu ih =>
    intro l2 l3 l4 h0 hq0 hq1 hq2 hq3
    unfold fX1_sumOfDivisors_19
    have ql0 : (0 : Int32).toInt = 0 := by decide
    refine sIf (fun h1 => ?_) (fun h1 => ?_)
    · have fh1 := ltT h1
      exact sRet trivial
    · have fh1 := ltF h1
      refine sIfF (fun e9 => by have e8 := eqT e9; omega) ?_
      refine sIf (fun h2 => ?_) (fun h2 => ?_)
      · have fh2 := eqT h2
        exact s_X1_sumOfDivisors_37 (hk_19 := ih) hN hK (by omega) (by omega) _ _ _ (by first | omega | decide) (by first | omega | decide) (by first | omega | decide) (by first | omega | decide) (by omega)
      · have fh2 := eqF h2
        exact s_X1_sumOfDivisors_37 (hk_19 := ih) hN hK (by omega) (by omega) _ _ _ (by first | omega | decide) (by first | omega | decide) (by first | omega | decide) (by first | omega | decide) (by omega)
set_option maxHeartbeats 2000000 in
theorem s_X1_sumOfDivisors_13 {N K : Nat} {ru : Int32} {sz : Int32} {f : Nat → Int32} {p0 : Int32} (hN : NBig N) (hK : 100 ≤ K) (hp0 : 1 ≤ p0.toInt) (hp1 : p0.toInt ≤ 20) : ∀ (s0 : Int32), 1 ≤ s0.toInt → s0.toInt ≤ 2 → Sf (fX1_sumOfDivisors_13 N K ru sz f p0  s0) (fun (z : Int32) => True) := by
  intro s0 hq0 hq1
  unfold fX1_sumOfDivisors_13
  have hN9 := hN.u
  have ql0 : (0 : Int32).toInt = 0 := by decide
  have ql1 : (1 : Int32).toInt = 1 := by decide
  exact s_X1_sumOfDivisors_19  hN hK (by omega) (by omega) _ _ _ _ (by omega) (by first | omega | decide) (by first | omega | decide) (by first | omega | decide) (by first | omega | decide)
set_option maxHeartbeats 2000000 in
theorem s_X1_sumOfDivisors {N K : Nat} {ru : Int32} {sz : Int32} {f : Nat → Int32} {p0 : Int32} (hN : NBig N) (hK : 100 ≤ K) (hp0 : 1 ≤ p0.toInt) (hp1 : p0.toInt ≤ 20) : Sf (fX1_sumOfDivisors N K ru sz f p0) (fun (z : Int32) => True) := by
  unfold fX1_sumOfDivisors
  have ql0 : (0 : Int32).toInt = 0 := by decide
  have ql1 : (1 : Int32).toInt = 1 := by decide
  have ql2 : (2 : Int32).toInt = 2 := by decide
  refine sIf (fun h1 => ?_) (fun h1 => ?_)
  · have fh1 := eqT h1
    exact s_X1_sumOfDivisors_13  hN hK (by omega) (by omega) _ (by first | omega | decide) (by first | omega | decide)
  · have fh1 := eqF h1
    exact s_X1_sumOfDivisors_13  hN hK (by omega) (by omega) _ (by first | omega | decide) (by first | omega | decide)
set_option maxHeartbeats 2000000 in
theorem s_X1_mark_31 {N K : Nat} {ru : Int32} {sz : Int32} {f : Nat → Int32} (hN : NBig N) (hK : 100 ≤ K)  {k_4 : Int32 → Int32 → Option (Int32)} {m_4 : Nat} (hk_4 : ∀ (l1 : Int32) (l2 : Int32), (21 - l2.toInt).toNat < m_4 → 1 ≤ l2.toInt → l2.toInt ≤ 21 → Sf (k_4 l1 l2) (fun (z : Int32) => True)) : ∀ (l1 : Int32) (l2 : Int32), 1 ≤ l2.toInt → l2.toInt ≤ 20 → (21 - l2.toInt).toNat ≤ m_4 → Sf (fX1_mark_31 N K ru sz f k_4 l1 l2) (fun (z : Int32) => True) := by
  intro l1 l2 hq0 hq1 hq2
  unfold fX1_mark_31
  have ql0 : (0 : Int32).toInt = 0 := by decide
  have ql1 : (1 : Int32).toInt = 1 := by decide
  have t1 := addI (a := l2) (b := (1 : Int32)) (by omega) (by omega)
  exact hk_4 _ _ (by omega) (by first | omega | decide) (by first | omega | decide)
set_option maxHeartbeats 2000000 in
theorem s_X1_mark_4 {N K : Nat} {ru : Int32} {sz : Int32} {f : Nat → Int32} (hN : NBig N) (hK : 100 ≤ K)  : ∀ (fu : Nat) (l1 : Int32) (l2 : Int32), (21 - l2.toInt).toNat < fu → 1 ≤ l2.toInt → l2.toInt ≤ 21 → Sf (fX1_mark_4 N K ru sz f  fu l1 l2) (fun (z : Int32) => True) := by
  intro fu
  induction fu with
  | zero => intro l1 l2 h0 hq0 hq1; omega
  | succ fu ih =>
    intro l1 l2 h0 hq0 hq1
    unfold fX1_mark_4
    have ql0 : (0 : Int32).toInt = 0 := by decide
    have ql20 : (20 : Int32).toInt = 20 := by decide
    refine sIf (fun h1 => ?_) (fun h1 => ?_)
    · have fh1 := ltT h1
      exact sRet trivial
    · have fh1 := ltF h1
      refine sIfF (noob (by omega) (by omega)) ?_
      refine sIf (fun h2 => ?_) (fun h2 => ?_)
      · have fh2 := eqT h2
        rw [show (-1 : Int32).toInt = -1 from by decide] at fh2
        exact s_X1_mark_31 (hk_4 := ih) hN hK _ _ (by first | omega | decide) (by first | omega | decide) (by omega)
      · have fh2 := eqF h2
        rw [show (-1 : Int32).toInt = -1 from by decide] at fh2
        refine sIfF (noob (by omega) (by omega)) ?_
        exact s_X1_mark_31 (hk_4 := ih) hN hK _ _ (by first | omega | decide) (by first | omega | decide) (by omega)
set_option maxHeartbeats 2000000 in
theorem s_X1_mark {N K : Nat} {ru : Int32} {sz : Int32} {f : Nat → Int32} (hN : NBig N) (hK : 100 ≤ K)  : Sf (fX1_mark N K ru sz f) (fun (z : Int32) => True) := by
  unfold fX1_mark
  have hN9 := hN.u
  have ql0 : (0 : Int32).toInt = 0 := by decide
  have ql1 : (1 : Int32).toInt = 1 := by decide
  exact s_X1_mark_4  hN hK _ _ _ (by omega) (by first | omega | decide) (by first | omega | decide)
set_option maxHeartbeats 2000000 in
theorem s_X1_drop {N K : Nat} {ru : Int32} {sz : Int32} {f : Nat → Int32} {p0 : Int32} (hN : NBig N) (hK : 100 ≤ K) (hp0 : 1 ≤ p0.toInt) (hp1 : p0.toInt ≤ 20) : Sf (fX1_drop N K ru sz f p0) (fun (z : Int32 × (Nat → Int32)) => True) := by
  unfold fX1_drop
  have ql0 : (0 : Int32).toInt = 0 := by decide
  have ql1 : (1 : Int32).toInt = 1 := by decide
  have ql20 : (20 : Int32).toInt = 20 := by decide
  refine sIf (fun h1 => ?_) (fun h1 => ?_)
  · have fh1 := ltT h1
    exfalso; omega
  · have fh1 := ltF h1
    refine sIf (fun h2 => ?_) (fun h2 => ?_)
    · have fh2 := ltT h2
      exfalso; omega
    · have fh2 := ltF h2
      refine sIfF (noob (by omega) (by omega)) ?_
      refine sIf (fun h3 => ?_) (fun h3 => ?_)
      · have fh3 := eqT h3
        rw [show (-1 : Int32).toInt = -1 from by decide] at fh3
        exact sRet trivial
      · have fh3 := eqF h3
        rw [show (-1 : Int32).toInt = -1 from by decide] at fh3
        refine sIfF (noob (by omega) (by omega)) ?_
        exact sRet trivial
set_option maxHeartbeats 2000000 in
theorem s_X1_dropAll {N K : Nat} {ru : Int32} {sz : Int32} {f : Nat → Int32} (hN : NBig N) (hK : 100 ≤ K)  : Sf (fX1_dropAll N K ru sz f) (fun (z : Int32 × Int32 × (Nat → Int32)) => 0 ≤ z.2.1.toInt ∧ z.2.1.toInt ≤ 0 ∧ True) := by
  unfold fX1_dropAll
  have ql0 : (0 : Int32).toInt = 0 := by decide
  refine sBind (s_J_fill hN hK (by first | omega | decide)) (fun x10 b1 => ?_)
  exact sRet ⟨(by show 0 ≤ (0 : Int32).toInt; decide), (by show (0 : Int32).toInt ≤ 0; decide), trivial⟩
set_option maxHeartbeats 2000000 in
theorem s_X1_byPentagons_105 {N K : Nat} {ru : Int32} {sz : Int32} {f : Nat → Int32} {c0 : Int32} {c1 : Int32} {c2 : Int32} {c3 : Int32} {c4 : Int32} {c5 : Int32} {p0 : Int32} {p1 : Int32} {rec : Int32 → Int32 → (Nat → Int32) → Int32 → Int32 → Int32 → Int32 → Int32 → Int32 → Int32 → Int32 → Option (Int32 × Int32 × (Nat → Int32) × Int32 × Int32 × Int32)} {mr : Nat} (hrec : ∀ (ru : Int32) (sz : Int32) (f : Nat → Int32) (c0 : Int32) (c1 : Int32) (c2 : Int32) (c3 : Int32) (c4 : Int32) (c5 : Int32) (p0 : Int32) (p1 : Int32), (46 - p1.toInt).toNat < mr → -19 ≤ p0.toInt → p0.toInt ≤ 20 → 0 ≤ p1.toInt → p1.toInt ≤ 46 → Sf (rec ru sz f c0 c1 c2 c3 c4 c5 p0 p1) (fun (z : Int32 × Int32 × (Nat → Int32) × Int32 × Int32 × Int32) => True)) (hN : NBig N) (hK : 100 ≤ K) (hp0 : 0 ≤ ru.toInt) (hp1 : ru.toInt ≤ 0) (hp2 : 0 ≤ p0.toInt) (hp3 : p0.toInt ≤ 20) (hp4 : 1 ≤ p1.toInt) (hp5 : p1.toInt ≤ 46) (hp6 : (46 - p1.toInt).toNat < mr) {k_6 : Int32 → Int32 → Int32 → (Nat → Int32) → Int32 → Int32 → Int32 → Option (Int32 × Int32 × (Nat → Int32) × Int32 × Int32 × Int32)} {m_6 : Nat} (hk_6 : ∀ (l4 : Int32) (l5 : Int32) (sz_ : Int32) (f_ : (Nat → Int32)) (c1_ : Int32) (c2_ : Int32) (c3_ : Int32), (21 - l5.toInt).toNat < m_6 → 1 ≤ l5.toInt → l5.toInt ≤ 21 → Sf (k_6 l4 l5 sz_ f_ c1_ c2_ c3_) (fun (z : Int32 × Int32 × (Nat → Int32) × Int32 × Int32 × Int32) => True)) : ∀ (l5 : Int32) (s0 : Int32) (s1 : Int32) (sz_ : Int32) (f_ : Nat → Int32) (c1_ : Int32) (c2_ : Int32) (c3_ : Int32), 1 ≤ p0.toInt → p0.toInt ≤ 20 → 1 ≤ l5.toInt → l5.toInt ≤ 20 → (s0.toInt = 0 → 0 ≤ ru.toInt ∧ ru.toInt ≤ 0 ∧ 1 ≤ p0.toInt ∧ p0.toInt ≤ 20 ∧ 1 ≤ p1.toInt ∧ p1.toInt ≤ 46) → (s1.toInt = 0 → 0 ≤ ru.toInt ∧ ru.toInt ≤ 0 ∧ 1 ≤ p0.toInt ∧ p0.toInt ≤ 20 ∧ 1 ≤ p1.toInt ∧ p1.toInt ≤ 46) → (21 - l5.toInt).toNat ≤ m_6 → Sf (fX1_byPentagons_105 N K rec ru sz f c0 c1 c2 c3 c4 c5 p0 p1 k_6 l5 s0 s1 sz_ f_ c1_ c2_ c3_) (fun (z : Int32 × Int32 × (Nat → Int32) × Int32 × Int32 × Int32) => True) := by
  intro l5 s0 s1 sz_ f_ c1_ c2_ c3_ hq0 hq1 hq2 hq3 hq4 hq5 hq6
  unfold fX1_byPentagons_105
  have ql0 : (0 : Int32).toInt = 0 := by decide
  have ql1 : (1 : Int32).toInt = 1 := by decide
  have t2 := addI (a := l5) (b := (1 : Int32)) (by omega) (by omega)
  exact hk_6 _ _ _ _ _ _ _ (by omega) (by first | omega | decide) (by first | omega | decide)
set_option maxHeartbeats 2000000 in
theorem s_X1_byPentagons_88 {N K : Nat} {ru : Int32} {sz : Int32} {f : Nat → Int32} {c0 : Int32} {c1 : Int32} {c2 : Int32} {c3 : Int32} {c4 : Int32} {c5 : Int32} {p0 : Int32} {p1 : Int32} {rec : Int32 → Int32 → (Nat → Int32) → Int32 → Int32 → Int32 → Int32 → Int32 → Int32 → Int32 → Int32 → Option (Int32 × Int32 × (Nat → Int32) × Int32 × Int32 × Int32)} {mr : Nat} (hrec : ∀ (ru : Int32) (sz : Int32) (f : Nat → Int32) (c0 : Int32) (c1 : Int32) (c2 : Int32) (c3 : Int32) (c4 : Int32) (c5 : Int32) (p0 : Int32) (p1 : Int32), (46 - p1.toInt).toNat < mr → -19 ≤ p0.toInt → p0.toInt ≤ 20 → 0 ≤ p1.toInt → p1.toInt ≤ 46 → Sf (rec ru sz f c0 c1 c2 c3 c4 c5 p0 p1) (fun (z : Int32 × Int32 × (Nat → Int32) × Int32 × Int32 × Int32) => True)) (hN : NBig N) (hK : 100 ≤ K) (hp0 : 0 ≤ ru.toInt) (hp1 : ru.toInt ≤ 0) (hp2 : 0 ≤ p0.toInt) (hp3 : p0.toInt ≤ 20) (hp4 : 1 ≤ p1.toInt) (hp5 : p1.toInt ≤ 46) (hp6 : (46 - p1.toInt).toNat < mr) {k_6 : Int32 → Int32 → Int32 → (Nat → Int32) → Int32 → Int32 → Int32 → Option (Int32 × Int32 × (Nat → Int32) × Int32 × Int32 × Int32)} {m_6 : Nat} (hk_6 : ∀ (l4 : Int32) (l5 : Int32) (sz_ : Int32) (f_ : (Nat → Int32)) (c1_ : Int32) (c2_ : Int32) (c3_ : Int32), (21 - l5.toInt).toNat < m_6 → 1 ≤ l5.toInt → l5.toInt ≤ 21 → Sf (k_6 l4 l5 sz_ f_ c1_ c2_ c3_) (fun (z : Int32 × Int32 × (Nat → Int32) × Int32 × Int32 × Int32) => True)) : ∀ (l4 : Int32) (l5 : Int32) (l6 : Int32) (sz_ : Int32) (f_ : Nat → Int32) (c1_ : Int32) (c2_ : Int32) (c3_ : Int32), 1 ≤ p0.toInt → p0.toInt ≤ 20 → 1 ≤ l5.toInt → l5.toInt ≤ 20 → (21 - l5.toInt).toNat ≤ m_6 → Sf (fX1_byPentagons_88 N K rec ru sz f c0 c1 c2 c3 c4 c5 p0 p1 k_6 l4 l5 l6 sz_ f_ c1_ c2_ c3_) (fun (z : Int32 × Int32 × (Nat → Int32) × Int32 × Int32 × Int32) => True) := by
  intro l4 l5 l6 sz_ f_ c1_ c2_ c3_ hq0 hq1 hq2 hq3 hq4
  unfold fX1_byPentagons_88
  have ql0 : (0 : Int32).toInt = 0 := by decide
  have ql2 : (2 : Int32).toInt = 2 := by decide
  refine sIf (fun h1 => ?_) (fun h1 => ?_)
  · have t2 := modL (a := l5) (b := (2 : Int32)) ql2 (by omega)
    have fh1 := eqT h1
    exact s_X1_byPentagons_105 (hrec := hrec) (hk_6 := hk_6) hN hK (by omega) (by omega) (by omega) (by omega) (by omega) (by omega) (by omega) _ _ _ _ _ _ _ _ (by first | omega | decide) (by first | omega | decide) (by first | omega | decide) (by first | omega | decide) (by first | omega | decide) (by first | omega | decide) (by omega)
  · have t4 := modL (a := l5) (b := (2 : Int32)) ql2 (by omega)
    have fh1 := eqF h1
    exact s_X1_byPentagons_105 (hrec := hrec) (hk_6 := hk_6) hN hK (by omega) (by omega) (by omega) (by omega) (by omega) (by omega) (by omega) _ _ _ _ _ _ _ _ (by first | omega | decide) (by first | omega | decide) (by first | omega | decide) (by first | omega | decide) (by first | omega | decide) (by first | omega | decide) (by omega)
set_option maxHeartbeats 2000000 in
theorem s_X1_byPentagons_6 {N K : Nat} {ru : Int32} {sz : Int32} {f : Nat → Int32} {c0 : Int32} {c1 : Int32} {c2 : Int32} {c3 : Int32} {c4 : Int32} {c5 : Int32} {p0 : Int32} {p1 : Int32} {rec : Int32 → Int32 → (Nat → Int32) → Int32 → Int32 → Int32 → Int32 → Int32 → Int32 → Int32 → Int32 → Option (Int32 × Int32 × (Nat → Int32) × Int32 × Int32 × Int32)} {mr : Nat} (hrec : ∀ (ru : Int32) (sz : Int32) (f : Nat → Int32) (c0 : Int32) (c1 : Int32) (c2 : Int32) (c3 : Int32) (c4 : Int32) (c5 : Int32) (p0 : Int32) (p1 : Int32), (46 - p1.toInt).toNat < mr → -19 ≤ p0.toInt → p0.toInt ≤ 20 → 0 ≤ p1.toInt → p1.toInt ≤ 46 → Sf (rec ru sz f c0 c1 c2 c3 c4 c5 p0 p1) (fun (z : Int32 × Int32 × (Nat → Int32) × Int32 × Int32 × Int32) => True)) (hN : NBig N) (hK : 100 ≤ K) (hp0 : 0 ≤ ru.toInt) (hp1 : ru.toInt ≤ 0) (hp2 : 0 ≤ p0.toInt) (hp3 : p0.toInt ≤ 20) (hp4 : 1 ≤ p1.toInt) (hp5 : p1.toInt ≤ 46) (hp6 : (46 - p1.toInt).toNat < mr) : ∀ (fu : Nat) (l4 : Int32) (l5 : Int32) (sz_ : Int32) (f_ : (Nat → Int32)) (c1_ : Int32) (c2_ : Int32) (c3_ : Int32), (21 - l5.toInt).toNat < fu → 1 ≤ l5.toInt → l5.toInt ≤ 21 → Sf (fX1_byPentagons_6 N K rec ru sz f c0 c1 c2 c3 c4 c5 p0 p1  fu l4 l5 sz_ f_ c1_ c2_ c3_) (fun (z : Int32 × Int32 × (Nat → Int32) × Int32 × Int32 × Int32) => True) := by
  intro fu
  induction fu with
  | zero => intro l4 l5 sz_ f_ c1_ c2_ c3_ h0 hq0 hq1; omega
  | succ fu ih =>
    intro l4 l5 sz_ f_ c1_ c2_ c3_ h0 hq0 hq1
    unfold fX1_byPentagons_6
    have ql0 : (0 : Int32).toInt = 0 := by decide
    have ql1 : (1 : Int32).toInt = 1 := by decide
    have ql2 : (2 : Int32).toInt = 2 := by decide
    have ql3 : (3 : Int32).toInt = 3 := by decide
    have ql20 : (20 : Int32).toInt = 20 := by decide
    refine sIf (fun h1 => ?_) (fun h1 => ?_)
    · have fh1 := ltT h1
      exact sRet trivial
    · have fh1 := ltF h1
      refine sIf (fun h2 => ?_) (fun h2 => ?_)
      · have t6 := mulL (a := (3 : Int32)) (b := l5) ql3 (by omega) (by omega)
        have t5 := subI (a := ((3 : Int32) * l5)) (b := (1 : Int32)) (by omega) (by omega)
        have t4 := mulV (a := l5) (b := (((3 : Int32) * l5) - (1 : Int32))) (x0 := 1) (y0 := 2) (x := 20) (y := 59) (z0 := 2) (z := 1180) (by omega) (by omega) (by omega) (by omega) (by decide) (by decide) (by decide) (by decide) (by decide)
        have t3 := divL (a := (l5 * (((3 : Int32) * l5) - (1 : Int32)))) (b := (2 : Int32)) ql2 (by omega) (by omega)
        have fh2 := ltT h2
        exact sRet trivial
      · have t10 := mulL (a := (3 : Int32)) (b := l5) ql3 (by omega) (by omega)
        have t9 := subI (a := ((3 : Int32) * l5)) (b := (1 : Int32)) (by omega) (by omega)
        have t8 := mulV (a := l5) (b := (((3 : Int32) * l5) - (1 : Int32))) (x0 := 1) (y0 := 2) (x := 20) (y := 59) (z0 := 2) (z := 1180) (by omega) (by omega) (by omega) (by omega) (by decide) (by decide) (by decide) (by decide) (by decide)
        have t7 := divL (a := (l5 * (((3 : Int32) * l5) - (1 : Int32)))) (b := (2 : Int32)) ql2 (by omega) (by omega)
        have fh2 := ltF h2
        have t11 := subI (a := p0) (b := ((l5 * (((3 : Int32) * l5) - (1 : Int32))) / (2 : Int32))) (by omega) (by omega)
        refine sBind (hrec _ _ _ _ _ _ _ _ _ _ _ (by omega) (by first | omega | decide) (by first | omega | decide) (by first | omega | decide) (by first | omega | decide)) (fun x44 b12 => ?_)
        refine sIf (fun h13 => ?_) (fun h13 => ?_)
        · have t16 := addI (a := ((3 : Int32) * l5)) (b := (1 : Int32)) (by omega) (by omega)
          have t15 := mulV (a := l5) (b := (((3 : Int32) * l5) + (1 : Int32))) (x0 := 1) (y0 := 4) (x := 20) (y := 61) (z0 := 4) (z := 1220) (by omega) (by omega) (by omega) (by omega) (by decide) (by decide) (by decide) (by decide) (by decide)
          have t14 := divL (a := (l5 * (((3 : Int32) * l5) + (1 : Int32)))) (b := (2 : Int32)) ql2 (by omega) (by omega)
          have fh13 := ltT h13
          exact s_X1_byPentagons_88 (hrec := hrec) (hk_6 := ih) hN hK (by omega) (by omega) (by omega) (by omega) (by omega) (by omega) (by omega) _ _ _ _ _ _ _ _ (by first | omega | decide) (by first | omega | decide) (by first | omega | decide) (by first | omega | decide) (by omega)
        · have t19 := addI (a := ((3 : Int32) * l5)) (b := (1 : Int32)) (by omega) (by omega)
          have t18 := mulV (a := l5) (b := (((3 : Int32) * l5) + (1 : Int32))) (x0 := 1) (y0 := 4) (x := 20) (y := 61) (z0 := 4) (z := 1220) (by omega) (by omega) (by omega) (by omega) (by decide) (by decide) (by decide) (by decide) (by decide)
          have t17 := divL (a := (l5 * (((3 : Int32) * l5) + (1 : Int32)))) (b := (2 : Int32)) ql2 (by omega) (by omega)
          have fh13 := ltF h13
          have t20 := subI (a := p0) (b := ((l5 * (((3 : Int32) * l5) + (1 : Int32))) / (2 : Int32))) (by omega) (by omega)
          refine sBind (hrec _ _ _ _ _ _ _ _ _ _ _ (by omega) (by first | omega | decide) (by first | omega | decide) (by first | omega | decide) (by first | omega | decide)) (fun x82 b21 => ?_)
          exact s_X1_byPentagons_88 (hrec := hrec) (hk_6 := ih) hN hK (by omega) (by omega) (by omega) (by omega) (by omega) (by omega) (by omega) _ _ _ _ _ _ _ _ (by first | omega | decide) (by first | omega | decide) (by first | omega | decide) (by first | omega | decide) (by omega)
set_option maxHeartbeats 2000000 in
theorem s_X1_byPentagons {N K : Nat} {ru : Int32} {sz : Int32} {f : Nat → Int32} {c0 : Int32} {c1 : Int32} {c2 : Int32} {c3 : Int32} {c4 : Int32} {c5 : Int32} {p0 : Int32} {p1 : Int32} {rec : Int32 → Int32 → (Nat → Int32) → Int32 → Int32 → Int32 → Int32 → Int32 → Int32 → Int32 → Int32 → Option (Int32 × Int32 × (Nat → Int32) × Int32 × Int32 × Int32)} {mr : Nat} (hrec : ∀ (ru : Int32) (sz : Int32) (f : Nat → Int32) (c0 : Int32) (c1 : Int32) (c2 : Int32) (c3 : Int32) (c4 : Int32) (c5 : Int32) (p0 : Int32) (p1 : Int32), (46 - p1.toInt).toNat < mr → -19 ≤ p0.toInt → p0.toInt ≤ 20 → 0 ≤ p1.toInt → p1.toInt ≤ 46 → Sf (rec ru sz f c0 c1 c2 c3 c4 c5 p0 p1) (fun (z : Int32 × Int32 × (Nat → Int32) × Int32 × Int32 × Int32) => True)) (hN : NBig N) (hK : 100 ≤ K) (hp0 : 0 ≤ ru.toInt) (hp1 : ru.toInt ≤ 0) (hp2 : 0 ≤ p0.toInt) (hp3 : p0.toInt ≤ 20) (hp4 : 1 ≤ p1.toInt) (hp5 : p1.toInt ≤ 46) (hp6 : (46 - p1.toInt).toNat < mr) : Sf (fX1_byPentagons N K rec ru sz f c0 c1 c2 c3 c4 c5 p0 p1) (fun (z : Int32 × Int32 × (Nat → Int32) × Int32 × Int32 × Int32) => True) := by
  unfold fX1_byPentagons
  have hN9 := hN.u
  have ql0 : (0 : Int32).toInt = 0 := by decide
  have ql1 : (1 : Int32).toInt = 1 := by decide
  exact s_X1_byPentagons_6 (hrec := hrec)  hN hK (by omega) (by omega) (by omega) (by omega) (by omega) (by omega) (by omega) _ _ _ _ _ _ _ _ (by omega) (by first | omega | decide) (by first | omega | decide)
set_option maxHeartbeats 2000000 in
theorem s_X1_byDivisors_13 {N K : Nat} {ru : Int32} {sz : Int32} {f : Nat → Int32} {c0 : Int32} {c1 : Int32} {c2 : Int32} {c3 : Int32} {c4 : Int32} {c5 : Int32} {p0 : Int32} {p1 : Int32} {rec : Int32 → Int32 → (Nat → Int32) → Int32 → Int32 → Int32 → Int32 → Int32 → Int32 → Int32 → Int32 → Option (Int32 × Int32 × (Nat → Int32) × Int32 × Int32 × Int32)} {mr : Nat} (hrec : ∀ (ru : Int32) (sz : Int32) (f : Nat → Int32) (c0 : Int32) (c1 : Int32) (c2 : Int32) (c3 : Int32) (c4 : Int32) (c5 : Int32) (p0 : Int32) (p1 : Int32), (46 - p1.toInt).toNat < mr → -19 ≤ p0.toInt → p0.toInt ≤ 20 → 0 ≤ p1.toInt → p1.toInt ≤ 46 → Sf (rec ru sz f c0 c1 c2 c3 c4 c5 p0 p1) (fun (z : Int32 × Int32 × (Nat → Int32) × Int32 × Int32 × Int32) => True)) (hN : NBig N) (hK : 100 ≤ K) (hp0 : 0 ≤ p0.toInt) (hp1 : p0.toInt ≤ 20) (hp2 : 1 ≤ p1.toInt) (hp3 : p1.toInt ≤ 46) (hp4 : (46 - p1.toInt).toNat < mr) : ∀ (fu : Nat) (l4 : Int32) (l5 : Int32) (sz_ : Int32) (f_ : (Nat → Int32)) (c1_ : Int32) (c2_ : Int32) (c3_ : Int32), (21 - l5.toInt).toNat < fu → 1 ≤ p0.toInt → p0.toInt ≤ 20 → 1 ≤ l5.toInt → l5.toInt ≤ 21 → Sf (fX1_byDivisors_13 N K rec ru sz f c0 c1 c2 c3 c4 c5 p0 p1  fu l4 l5 sz_ f_ c1_ c2_ c3_) (fun (z : Int32 × Int32 × (Nat → Int32) × Int32 × Int32 × Int32) => True) := by
  intro fu
  induction fu with
  | zero => intro l4 l5 sz_ f_ c1_ c2_ c3_ h0 hq0 hq1 hq2 hq3; omega
  | succ fu ih =>
    intro l4 l5 sz_ f_ c1_ c2_ c3_ h0 hq0 hq1 hq2 hq3
    unfold fX1_byDivisors_13
    have ql0 : (0 : Int32).toInt = 0 := by decide
    have ql1 : (1 : Int32).toInt = 1 := by decide
    refine sIf (fun h1 => ?_) (fun h1 => ?_)
    · have fh1 := ltT h1
      refine sIfF (fun e9 => by have e8 := eqT e9; omega) ?_
      exact sRet trivial
    · have fh1 := ltF h1
      have t3 := subI (a := p0) (b := l5) (by omega) (by omega)
      refine sBind (hrec _ _ _ _ _ _ _ _ _ _ _ (by omega) (by first | omega | decide) (by first | omega | decide) (by first | omega | decide) (by first | omega | decide)) (fun x28 b4 => ?_)
      refine sBind (s_X1_sumOfDivisors hN hK (by first | omega | decide) (by first | omega | decide)) (fun x34 b5 => ?_)
      have t7 := addI (a := l5) (b := (1 : Int32)) (by omega) (by omega)
      exact ih _ _ _ _ _ _ _ (by omega) (by first | omega | decide) (by first | omega | decide) (by first | omega | decide) (by first | omega | decide)
set_option maxHeartbeats 2000000 in
theorem s_X1_byDivisors {N K : Nat} {ru : Int32} {sz : Int32} {f : Nat → Int32} {c0 : Int32} {c1 : Int32} {c2 : Int32} {c3 : Int32} {c4 : Int32} {c5 : Int32} {p0 : Int32} {p1 : Int32} {rec : Int32 → Int32 → (Nat → Int32) → Int32 → Int32 → Int32 → Int32 → Int32 → Int32 → Int32 → Int32 → Option (Int32 × Int32 × (Nat → Int32) × Int32 × Int32 × Int32)} {mr : Nat} (hrec : ∀ (ru : Int32) (sz : Int32) (f : Nat → Int32) (c0 : Int32) (c1 : Int32) (c2 : Int32) (c3 : Int32) (c4 : Int32) (c5 : Int32) (p0 : Int32) (p1 : Int32), (46 - p1.toInt).toNat < mr → -19 ≤ p0.toInt → p0.toInt ≤ 20 → 0 ≤ p1.toInt → p1.toInt ≤ 46 → Sf (rec ru sz f c0 c1 c2 c3 c4 c5 p0 p1) (fun (z : Int32 × Int32 × (Nat → Int32) × Int32 × Int32 × Int32) => True)) (hN : NBig N) (hK : 100 ≤ K) (hp0 : 0 ≤ p0.toInt) (hp1 : p0.toInt ≤ 20) (hp2 : 1 ≤ p1.toInt) (hp3 : p1.toInt ≤ 46) (hp4 : (46 - p1.toInt).toNat < mr) : Sf (fX1_byDivisors N K rec ru sz f c0 c1 c2 c3 c4 c5 p0 p1) (fun (z : Int32 × Int32 × (Nat → Int32) × Int32 × Int32 × Int32) => True) := by
  unfold fX1_byDivisors
  have hN9 := hN.u
  have ql0 : (0 : Int32).toInt = 0 := by decide
  have ql1 : (1 : Int32).toInt = 1 := by decide
  refine sIf (fun h1 => ?_) (fun h1 => ?_)
  · have fh1 := leT h1
    exact s_X1_byDivisors_13 (hrec := hrec)  hN hK (by omega) (by omega) (by omega) (by omega) (by omega) _ _ _ _ _ _ _ _ (by omega) (by first | omega | decide) (by first | omega | decide) (by first | omega | decide) (by first | omega | decide)
  · have fh1 := leF h1
    exact sRet trivial
set_option maxHeartbeats 2000000 in
theorem s_X1_worthKnown {N K : Nat}  (hN : NBig N) (hK : 100 ≤ K)  : ∀ (fu : Nat) (ru : Int32) (sz : Int32) (f : (Nat → Int32)) (c0 : Int32) (c1 : Int32) (c2 : Int32) (c3 : Int32) (c4 : Int32) (c5 : Int32) (p0 : Int32) (p1 : Int32), (46 - p1.toInt).toNat < fu → -19 ≤ p0.toInt → p0.toInt ≤ 20 → 0 ≤ p1.toInt → p1.toInt ≤ 46 → Sf (fX1_worthKnown N K fu ru sz f c0 c1 c2 c3 c4 c5 p0 p1) (fun (z : Int32 × Int32 × (Nat → Int32) × Int32 × Int32 × Int32) => True) := by
  intro fu
  induction fu with
  | zero => intro ru sz f c0 c1 c2 c3 c4 c5 p0 p1 h0 hq0 hq1 hq2 hq3; omega
  | succ k ih =>
    intro ru sz f c0 c1 c2 c3 c4 c5 p0 p1 h0 hq0 hq1 hq2 hq3
    unfold fX1_worthKnown
    have ql0 : (0 : Int32).toInt = 0 := by decide
    have ql1 : (1 : Int32).toInt = 1 := by decide
    have ql20 : (20 : Int32).toInt = 20 := by decide
    have ql45 : (45 : Int32).toInt = 45 := by decide
    refine sIf (fun h1 => ?_) (fun h1 => ?_)
    · have fh1 := eqT h1
      exact sRet trivial
    · have fh1 := eqF h1
      refine sIf (fun h2 => ?_) (fun h2 => ?_)
      · have fh2 := ltT h2
        exact sRet trivial
      · have fh2 := ltF h2
        refine sIf (fun h3 => ?_) (fun h3 => ?_)
        · have fh3 := ltT h3
          exfalso; omega
        · have fh3 := ltF h3
          refine sIf (fun h4 => ?_) (fun h4 => ?_)
          · have fh4 := leT h4
            refine sIfF (noob (by omega) (by omega)) ?_
            refine sIf (fun h5 => ?_) (fun h5 => ?_)
            · have fh5 := eqT h5
              rw [show (-1 : Int32).toInt = -1 from by decide] at fh5
              refine sIf (fun h6 => ?_) (fun h6 => ?_)
              · have fh6 := eqT h6
                have t8 := addI (a := p1) (b := (1 : Int32)) (by omega) (by omega)
                refine sBind (s_X1_byPentagons (hrec := ih) hN hK (by first | omega | decide) (by first | omega | decide) (by first | omega | decide) (by first | omega | decide) (by first | omega | decide) (by first | omega | decide) (by omega)) (fun x74 b9 => ?_)
                refine sIfF (noob (by omega) (by omega)) ?_
                exact sRet trivial
              · have fh6 := eqF h6
                have t13 := addI (a := p1) (b := (1 : Int32)) (by omega) (by omega)
                refine sBind (s_X1_byDivisors (hrec := ih) hN hK (by first | omega | decide) (by first | omega | decide) (by first | omega | decide) (by first | omega | decide) (by omega)) (fun x86 b14 => ?_)
                refine sIfF (noob (by omega) (by omega)) ?_
                exact sRet trivial
            · have fh5 := eqF h5
              rw [show (-1 : Int32).toInt = -1 from by decide] at fh5
              refine sIfF (noob (by omega) (by omega)) ?_
              exact sRet trivial
          · have fh4 := leF h4
            exact sRet trivial
set_option maxHeartbeats 2000000 in
theorem s_X1_recall {N K : Nat} {ru : Int32} {sz : Int32} {f : Nat → Int32} {c0 : Int32} {c1 : Int32} {c2 : Int32} {c3 : Int32} {c4 : Int32} {c5 : Int32} {p0 : Int32} (hN : NBig N) (hK : 100 ≤ K) (hp0 : 0 ≤ p0.toInt) (hp1 : p0.toInt ≤ 20) : Sf (fX1_recall N K ru sz f c0 c1 c2 c3 c4 c5 p0) (fun (z : Int32 × Int32 × (Nat → Int32) × Int32 × Int32 × Int32) => True) := by
  unfold fX1_recall
  have ql0 : (0 : Int32).toInt = 0 := by decide
  refine sBind (s_X1_worthKnown hN hK _ _ _ _ _ _ _ _ _ _ _ _ (by omega) (by first | omega | decide) (by first | omega | decide) (by first | omega | decide) (by first | omega | decide)) (fun x4 b1 => ?_)
  exact sRet trivial
set_option maxHeartbeats 2000000 in
theorem s_X5_rests {N K : Nat} {p0 : Int32} {p1 : Int32} (hN : NBig N) (hK : 100 ≤ K)  : Sf (fX5_rests N K p0 p1) (fun (z : Int32) => 0 ≤ z.toInt ∧ z.toInt ≤ 1 ∧ (z.toInt = 0 → (1 ≤ p0.toInt)) ∧ (z.toInt = 0 → p1.toInt ≠ 0) ∧ True) := by
  unfold fX5_rests
  have ql0 : (0 : Int32).toInt = 0 := by decide
  have ql1 : (1 : Int32).toInt = 1 := by decide
  refine sIf (fun h1 => ?_) (fun h1 => ?_)
  · have fh1 := leT h1
    exact sRet ⟨(by show 0 ≤ (1 : Int32).toInt; decide), (by show (1 : Int32).toInt ≤ 1; decide), (by show ((1 : Int32).toInt = 0 → (1 ≤ p0.toInt)); first | omega | assumption), (by show ((1 : Int32).toInt = 0 → p1.toInt ≠ 0); first | omega | assumption), trivial⟩
  · have fh1 := leF h1
    refine sIf (fun h2 => ?_) (fun h2 => ?_)
    · have fh2 := eqT h2
      exact sRet ⟨(by show 0 ≤ (1 : Int32).toInt; decide), (by show (1 : Int32).toInt ≤ 1; decide), (by show ((1 : Int32).toInt = 0 → (1 ≤ p0.toInt)); first | omega | assumption), (by show ((1 : Int32).toInt = 0 → p1.toInt ≠ 0); first | omega | assumption), trivial⟩
    · have fh2 := eqF h2
      exact sRet ⟨(by show 0 ≤ (0 : Int32).toInt; decide), (by show (0 : Int32).toInt ≤ 1; decide), (by show ((0 : Int32).toInt = 0 → (1 ≤ p0.toInt)); first | omega | assumption), (by show ((0 : Int32).toInt = 0 → p1.toInt ≠ 0); first | omega | assumption), trivial⟩
set_option maxHeartbeats 2000000 in
theorem s_X5_restingWorth_16 {N K : Nat} {p0 : Int32} {p1 : Int32} {p2 : Int32} (hN : NBig N) (hK : 100 ≤ K) (hp0 : 0 ≤ p0.toInt) (hp1 : p0.toInt ≤ 5) : 1 ≤ p0.toInt → p0.toInt ≤ 5 → 0 ≤ p1.toInt → p1.toInt ≤ 0 → Sf (fX5_restingWorth_16 N K p0 p1 p2  ) (fun (z : Int32) => 0 ≤ z.toInt ∧ z.toInt ≤ 1 ∧ True) := by
  intro  hq0 hq1 hq2 hq3
  unfold fX5_restingWorth_16
  have ql0 : (0 : Int32).toInt = 0 := by decide
  have ql1 : (1 : Int32).toInt = 1 := by decide
  refine sIf (fun h1 => ?_) (fun h1 => ?_)
  · have fh1 := eqT h1
    exact sRet ⟨(by show 0 ≤ (1 : Int32).toInt; decide), (by show (1 : Int32).toInt ≤ 1; decide), trivial⟩
  · have fh1 := eqF h1
    exact sRet ⟨(by show 0 ≤ (0 : Int32).toInt; decide), (by show (0 : Int32).toInt ≤ 1; decide), trivial⟩
set_option maxHeartbeats 2000000 in
theorem s_X5_restingWorth {N K : Nat} {p0 : Int32} {p1 : Int32} {p2 : Int32} (hN : NBig N) (hK : 100 ≤ K) (hp0 : 0 ≤ p0.toInt) (hp1 : p0.toInt ≤ 5) : Sf (fX5_restingWorth N K p0 p1 p2) (fun (z : Int32) => 0 ≤ z.toInt ∧ z.toInt ≤ 1 ∧ True) := by
  unfold fX5_restingWorth
  have ql0 : (0 : Int32).toInt = 0 := by decide
  have ql1 : (1 : Int32).toInt = 1 := by decide
  have ql5 : (5 : Int32).toInt = 5 := by decide
  refine sIf (fun h1 => ?_) (fun h1 => ?_)
  · have fh1 := eqT h1
    refine sIf (fun h2 => ?_) (fun h2 => ?_)
    · have fh2 := eqT h2
      exact s_X5_restingWorth_16  hN hK (by omega) (by omega)  (by first | omega | decide) (by first | omega | decide) (by first | omega | decide) (by first | omega | decide)
    · have fh2 := eqF h2
      refine sIf (fun h3 => ?_) (fun h3 => ?_)
      · have fh3 := eqT h3
        exact s_X5_restingWorth_16  hN hK (by omega) (by omega)  (by first | omega | decide) (by first | omega | decide) (by first | omega | decide) (by first | omega | decide)
      · have fh3 := eqF h3
        exact sRet ⟨(by show 0 ≤ (1 : Int32).toInt; decide), (by show (1 : Int32).toInt ≤ 1; decide), trivial⟩
  · have fh1 := eqF h1
    exact sRet ⟨(by show 0 ≤ (0 : Int32).toInt; decide), (by show (0 : Int32).toInt ≤ 1; decide), trivial⟩
set_option maxHeartbeats 2000000 in
theorem s_X2_slotOf {N K : Nat} {p0 : Int32} {p1 : Int32} {p2 : Int32} (hN : NBig N) (hK : 100 ≤ K) (hp0 : 0 ≤ p0.toInt) (hp1 : p0.toInt ≤ 5) (hp2 : 0 ≤ p1.toInt) : Sf (fX2_slotOf N K p0 p1 p2) (fun (z : Int32) => -1 ≤ z.toInt ∧ z.toInt ≤ 2645 ∧ True) := by
  unfold fX2_slotOf
  have ql0 : (0 : Int32).toInt = 0 := by decide
  have ql6 : (6 : Int32).toInt = 6 := by decide
  have ql20 : (20 : Int32).toInt = 20 := by decide
  have ql21 : (21 : Int32).toInt = 21 := by decide
  refine sIf (fun h1 => ?_) (fun h1 => ?_)
  · have fh1 := ltT h1
    exfalso; omega
  · have fh1 := ltF h1
    refine sIf (fun h2 => ?_) (fun h2 => ?_)
    · have fh2 := leT h2
      exfalso; omega
    · have fh2 := leF h2
      refine sIf (fun h3 => ?_) (fun h3 => ?_)
      · have fh3 := ltT h3
        exfalso; omega
      · have fh3 := ltF h3
        refine sIf (fun h4 => ?_) (fun h4 => ?_)
        · have fh4 := ltT h4
          exact sRet ⟨(by show -1 ≤ (-1 : Int32).toInt; decide), (by show (-1 : Int32).toInt ≤ 2645; decide), trivial⟩
        · have fh4 := ltF h4
          refine sIf (fun h5 => ?_) (fun h5 => ?_)
          · have fh5 := ltT h5
            exact sRet ⟨(by show -1 ≤ (-1 : Int32).toInt; decide), (by show (-1 : Int32).toInt ≤ 2645; decide), trivial⟩
          · have fh5 := ltF h5
            refine sIf (fun h6 => ?_) (fun h6 => ?_)
            · have fh6 := leT h6
              have t10 := mulR (a := p0) (b := (21 : Int32)) ql21 (by omega) (by omega)
              have t9 := addI (a := (p0 * (21 : Int32))) (b := p1) (by omega) (by omega)
              have t8 := mulR (a := ((p0 * (21 : Int32)) + p1)) (b := (21 : Int32)) ql21 (by omega) (by omega)
              have t7 := addI (a := (((p0 * (21 : Int32)) + p1) * (21 : Int32))) (b := p2) (by omega) (by omega)
              exact sRet ⟨(by show -1 ≤ ((((p0 * (21 : Int32)) + p1) * (21 : Int32)) + p2).toInt; first | omega | assumption), (by show ((((p0 * (21 : Int32)) + p1) * (21 : Int32)) + p2).toInt ≤ 2645; first | omega | assumption), trivial⟩
            · have fh6 := leF h6
              exact sRet ⟨(by show -1 ≤ (-1 : Int32).toInt; decide), (by show (-1 : Int32).toInt ≤ 2645; decide), trivial⟩
set_option maxHeartbeats 2000000 in
theorem s_X2_kindOf {N K : Nat} {p0 : Int32} (hN : NBig N) (hK : 100 ≤ K) (hp0 : 0 ≤ p0.toInt) (hp1 : p0.toInt ≤ 2645) : Sf (fX2_kindOf N K p0) (fun (z : Int32) => 0 ≤ z.toInt ∧ z.toInt ≤ 5 ∧ True) := by
  unfold fX2_kindOf
  have ql0 : (0 : Int32).toInt = 0 := by decide
  have ql441 : (441 : Int32).toInt = 441 := by decide
  have t1 := divL (a := p0) (b := (441 : Int32)) ql441 (by omega) (by omega)
  exact sRet ⟨(by show 0 ≤ (p0 / (441 : Int32)).toInt; first | omega | assumption), (by show (p0 / (441 : Int32)).toInt ≤ 5; first | omega | assumption), trivial⟩
set_option maxHeartbeats 2000000 in
theorem s_X2_numberOf {N K : Nat} {p0 : Int32} (hN : NBig N) (hK : 100 ≤ K) (hp0 : 0 ≤ p0.toInt) (hp1 : p0.toInt ≤ 2645) : Sf (fX2_numberOf N K p0) (fun (z : Int32) => 0 ≤ z.toInt ∧ z.toInt ≤ 20 ∧ True) := by
  unfold fX2_numberOf
  have ql0 : (0 : Int32).toInt = 0 := by decide
  have ql21 : (21 : Int32).toInt = 21 := by decide
  have t2 := divL (a := p0) (b := (21 : Int32)) ql21 (by omega) (by omega)
  have t1 := modL (a := (p0 / (21 : Int32))) (b := (21 : Int32)) ql21 (by omega)
  exact sRet ⟨(by show 0 ≤ ((p0 / (21 : Int32)) % (21 : Int32)).toInt; first | omega | assumption), (by show ((p0 / (21 : Int32)) % (21 : Int32)).toInt ≤ 20; first | omega | assumption), trivial⟩
set_option maxHeartbeats 2000000 in
theorem s_X2_measureOf {N K : Nat} {p0 : Int32} (hN : NBig N) (hK : 100 ≤ K) (hp0 : 0 ≤ p0.toInt) (hp1 : p0.toInt ≤ 2645) : Sf (fX2_measureOf N K p0) (fun (z : Int32) => 0 ≤ z.toInt ∧ z.toInt ≤ 20 ∧ True) := by
  unfold fX2_measureOf
  have ql0 : (0 : Int32).toInt = 0 := by decide
  have ql21 : (21 : Int32).toInt = 21 := by decide
  have t1 := modL (a := p0) (b := (21 : Int32)) ql21 (by omega)
  exact sRet ⟨(by show 0 ≤ (p0 % (21 : Int32)).toInt; first | omega | assumption), (by show (p0 % (21 : Int32)).toInt ≤ 20; first | omega | assumption), trivial⟩
set_option maxHeartbeats 2000000 in
theorem s_X2_codeOf {N K : Nat} {p0 : Int32} (hN : NBig N) (hK : 100 ≤ K) (hp0 : 0 ≤ p0.toInt) (hp1 : p0.toInt ≤ 2645) : Sf (fX2_codeOf N K p0) (fun (z : Int32) => 0 ≤ z.toInt ∧ z.toInt ≤ 5780 ∧ True) := by
  unfold fX2_codeOf
  have ql0 : (0 : Int32).toInt = 0 := by decide
  have ql32 : (32 : Int32).toInt = 32 := by decide
  have ql1024 : (1024 : Int32).toInt = 1024 := by decide
  refine sBind (s_X2_kindOf hN hK (by first | omega | decide) (by first | omega | decide)) (fun x1 b1 => ?_)
  obtain ⟨b1_0, b1_1, -⟩ := b1
  replace b1_0 : 0 ≤ x1.toInt := b1_0
  replace b1_1 : x1.toInt ≤ 5 := b1_1
  refine sBind (s_X2_numberOf hN hK (by first | omega | decide) (by first | omega | decide)) (fun x9 b2 => ?_)
  obtain ⟨b2_0, b2_1, -⟩ := b2
  replace b2_0 : 0 ≤ x9.toInt := b2_0
  replace b2_1 : x9.toInt ≤ 20 := b2_1
  refine sBind (s_X2_measureOf hN hK (by first | omega | decide) (by first | omega | decide)) (fun x17 b3 => ?_)
  obtain ⟨b3_0, b3_1, -⟩ := b3
  replace b3_0 : 0 ≤ x17.toInt := b3_0
  replace b3_1 : x17.toInt ≤ 20 := b3_1
  have t6 := mulR (a := x1) (b := (1024 : Int32)) ql1024 (by omega) (by omega)
  have t7 := mulR (a := x9) (b := (32 : Int32)) ql32 (by omega) (by omega)
  have t5 := addI (a := (x1 * (1024 : Int32))) (b := (x9 * (32 : Int32))) (by omega) (by omega)
  have t4 := addI (a := ((x1 * (1024 : Int32)) + (x9 * (32 : Int32)))) (b := x17) (by omega) (by omega)
  exact sRet ⟨(by show 0 ≤ (((x1 * (1024 : Int32)) + (x9 * (32 : Int32))) + x17).toInt; first | omega | assumption), (by show (((x1 * (1024 : Int32)) + (x9 * (32 : Int32))) + x17).toInt ≤ 5780; first | omega | assumption), trivial⟩
set_option maxHeartbeats 2000000 in
theorem s_X2_size {N K : Nat} {sz : Int32} {f : Nat → Int32} (hN : NBig N) (hK : 100 ≤ K)  : Sf (fX2_size N K sz f) (fun (z : Int32) => True) := by
  unfold fX2_size
  have ql0 : (0 : Int32).toInt = 0 := by decide
  exact sRet trivial
set_option maxHeartbeats 2000000 in
theorem s_X2_keptWorth {N K : Nat} {sz : Int32} {f : Nat → Int32} {p0 : Int32} {p1 : Int32} {p2 : Int32} (hN : NBig N) (hK : 100 ≤ K) (hp0 : 0 ≤ p0.toInt) (hp1 : p0.toInt ≤ 5) (hp2 : 0 ≤ p1.toInt) (hp3 : p1.toInt ≤ 20) (hp4 : 0 ≤ p2.toInt) (hp5 : p2.toInt ≤ 20) : Sf (fX2_keptWorth N K sz f p0 p1 p2) (fun (z : Int32) => True) := by
  unfold fX2_keptWorth
  have ql0 : (0 : Int32).toInt = 0 := by decide
  refine sBind (s_X2_slotOf hN hK (by first | omega | decide) (by first | omega | decide) (by first | omega | decide)) (fun x3 b1 => ?_)
  obtain ⟨b1_0, b1_1, -⟩ := b1
  replace b1_0 : -1 ≤ x3.toInt := b1_0
  replace b1_1 : x3.toInt ≤ 2645 := b1_1
  refine sIf (fun h2 => ?_) (fun h2 => ?_)
  · have fh2 := eqT h2
    rw [show (-1 : Int32).toInt = -1 from by decide] at fh2
    exact sRet trivial
  · have fh2 := eqF h2
    rw [show (-1 : Int32).toInt = -1 from by decide] at fh2
    refine sIfF (noob (by omega) (by omega)) ?_
    exact sRet trivial
set_option maxHeartbeats 2000000 in
theorem s_X2_keeps {N K : Nat} {sz : Int32} {f : Nat → Int32} {p0 : Int32} {p1 : Int32} {p2 : Int32} (hN : NBig N) (hK : 100 ≤ K) (hp0 : 0 ≤ p0.toInt) (hp1 : p0.toInt ≤ 5) (hp2 : 0 ≤ p1.toInt) (hp3 : p1.toInt ≤ 20) (hp4 : 0 ≤ p2.toInt) (hp5 : p2.toInt ≤ 20) : Sf (fX2_keeps N K sz f p0 p1 p2) (fun (z : Int32) => 0 ≤ z.toInt ∧ z.toInt ≤ 1 ∧ True) := by
  unfold fX2_keeps
  have ql0 : (0 : Int32).toInt = 0 := by decide
  have ql1 : (1 : Int32).toInt = 1 := by decide
  refine sBind (s_X2_keptWorth hN hK (by first | omega | decide) (by first | omega | decide) (by first | omega | decide) (by first | omega | decide) (by first | omega | decide) (by first | omega | decide)) (fun x4 b1 => ?_)
  refine sIf (fun h2 => ?_) (fun h2 => ?_)
  · have fh2 := eqT h2
    rw [show (-1 : Int32).toInt = -1 from by decide] at fh2
    exact sRet ⟨(by show 0 ≤ (0 : Int32).toInt; decide), (by show (0 : Int32).toInt ≤ 1; decide), trivial⟩
  · have fh2 := eqF h2
    rw [show (-1 : Int32).toInt = -1 from by decide] at fh2
    exact sRet ⟨(by show 0 ≤ (1 : Int32).toInt; decide), (by show (1 : Int32).toInt ≤ 1; decide), trivial⟩
set_option maxHeartbeats 2000000 in
theorem s_X2_keepsWith {N K : Nat} {sz : Int32} {f : Nat → Int32} {p0 : Int32} {p1 : Int32} {p2 : Int32} {p3 : Int32} (hN : NBig N) (hK : 100 ≤ K) (hp0 : 0 ≤ p0.toInt) (hp1 : p0.toInt ≤ 5) (hp2 : 0 ≤ p1.toInt) (hp3 : p1.toInt ≤ 20) (hp4 : 0 ≤ p2.toInt) (hp5 : p2.toInt ≤ 20) : Sf (fX2_keepsWith N K sz f p0 p1 p2 p3) (fun (z : Int32) => 0 ≤ z.toInt ∧ z.toInt ≤ 1 ∧ True) := by
  unfold fX2_keepsWith
  have ql0 : (0 : Int32).toInt = 0 := by decide
  have ql1 : (1 : Int32).toInt = 1 := by decide
  refine sBind (s_X2_keeps hN hK (by first | omega | decide) (by first | omega | decide) (by first | omega | decide) (by first | omega | decide) (by first | omega | decide) (by first | omega | decide)) (fun x4 b1 => ?_)
  obtain ⟨b1_0, b1_1, -⟩ := b1
  replace b1_0 : 0 ≤ x4.toInt := b1_0
  replace b1_1 : x4.toInt ≤ 1 := b1_1
  refine sIf (fun h2 => ?_) (fun h2 => ?_)
  · have fh2 := eqT h2
    exact sRet ⟨(by show 0 ≤ (0 : Int32).toInt; decide), (by show (0 : Int32).toInt ≤ 1; decide), trivial⟩
  · have fh2 := eqF h2
    refine sBind (s_X2_keptWorth hN hK (by first | omega | decide) (by first | omega | decide) (by first | omega | decide) (by first | omega | decide) (by first | omega | decide) (by first | omega | decide)) (fun x14 b3 => ?_)
    refine sIf (fun h4 => ?_) (fun h4 => ?_)
    · have fh4 := eqT h4
      exact sRet ⟨(by show 0 ≤ (1 : Int32).toInt; decide), (by show (1 : Int32).toInt ≤ 1; decide), trivial⟩
    · have fh4 := eqF h4
      exact sRet ⟨(by show 0 ≤ (0 : Int32).toInt; decide), (by show (0 : Int32).toInt ≤ 1; decide), trivial⟩
set_option maxHeartbeats 2000000 in
theorem s_X2_keep {N K : Nat} {sz : Int32} {f : Nat → Int32} {p0 : Int32} {p1 : Int32} {p2 : Int32} {p3 : Int32} (hN : NBig N) (hK : 100 ≤ K) (hp0 : 0 ≤ p0.toInt) (hp1 : p0.toInt ≤ 5) (hp2 : 0 ≤ p1.toInt) : Sf (fX2_keep N K sz f p0 p1 p2 p3) (fun (z : Int32 × (Nat → Int32)) => True) := by
  unfold fX2_keep
  have ql0 : (0 : Int32).toInt = 0 := by decide
  refine sBind (s_X2_slotOf hN hK (by first | omega | decide) (by first | omega | decide) (by first | omega | decide)) (fun x3 b1 => ?_)
  obtain ⟨b1_0, b1_1, -⟩ := b1
  replace b1_0 : -1 ≤ x3.toInt := b1_0
  replace b1_1 : x3.toInt ≤ 2645 := b1_1
  refine sIf (fun h2 => ?_) (fun h2 => ?_)
  · have fh2 := eqT h2
    rw [show (-1 : Int32).toInt = -1 from by decide] at fh2
    exact sRet trivial
  · have fh2 := eqF h2
    rw [show (-1 : Int32).toInt = -1 from by decide] at fh2
    refine sIfF (noob (by omega) (by omega)) ?_
    refine sIf (fun h3 => ?_) (fun h3 => ?_)
    · have fh3 := eqT h3
      rw [show (-1 : Int32).toInt = -1 from by decide] at fh3
      refine sIfF (noob (by omega) (by omega)) ?_
      exact sRet trivial
    · have fh3 := eqF h3
      rw [show (-1 : Int32).toInt = -1 from by decide] at fh3
      refine sIfF (noob (by omega) (by omega)) ?_
      exact sRet trivial
set_option maxHeartbeats 2000000 in
theorem s_X2_drop {N K : Nat} {sz : Int32} {f : Nat → Int32} {p0 : Int32} {p1 : Int32} {p2 : Int32} (hN : NBig N) (hK : 100 ≤ K) (hp0 : 0 ≤ p0.toInt) (hp1 : p0.toInt ≤ 5) (hp2 : 0 ≤ p1.toInt) (hp3 : p1.toInt ≤ 20) (hp4 : 0 ≤ p2.toInt) (hp5 : p2.toInt ≤ 20) : Sf (fX2_drop N K sz f p0 p1 p2) (fun (z : Int32 × (Nat → Int32)) => True) := by
  unfold fX2_drop
  have ql0 : (0 : Int32).toInt = 0 := by decide
  refine sBind (s_X2_slotOf hN hK (by first | omega | decide) (by first | omega | decide) (by first | omega | decide)) (fun x3 b1 => ?_)
  obtain ⟨b1_0, b1_1, -⟩ := b1
  replace b1_0 : -1 ≤ x3.toInt := b1_0
  replace b1_1 : x3.toInt ≤ 2645 := b1_1
  refine sIf (fun h2 => ?_) (fun h2 => ?_)
  · have fh2 := eqT h2
    rw [show (-1 : Int32).toInt = -1 from by decide] at fh2
    exact sRet trivial
  · have fh2 := eqF h2
    rw [show (-1 : Int32).toInt = -1 from by decide] at fh2
    refine sIfF (noob (by omega) (by omega)) ?_
    refine sIf (fun h3 => ?_) (fun h3 => ?_)
    · have fh3 := eqT h3
      rw [show (-1 : Int32).toInt = -1 from by decide] at fh3
      exact sRet trivial
    · have fh3 := eqF h3
      rw [show (-1 : Int32).toInt = -1 from by decide] at fh3
      refine sIfF (noob (by omega) (by omega)) ?_
      exact sRet trivial
set_option maxHeartbeats 2000000 in
theorem s_X2_aspect {N K : Nat} {sz : Int32} {f : Nat → Int32} {p0 : Int32} {p1 : Int32} (hN : NBig N) (hK : 100 ≤ K) (hp0 : 0 ≤ p0.toInt) (hp1 : p0.toInt ≤ 2645) (hp2 : 0 ≤ p1.toInt) (hp3 : p1.toInt ≤ 3) : Sf (fX2_aspect N K sz f p0 p1) (fun (z : Int32) => True) := by
  unfold fX2_aspect
  have ql0 : (0 : Int32).toInt = 0 := by decide
  have ql1 : (1 : Int32).toInt = 1 := by decide
  have ql2 : (2 : Int32).toInt = 2 := by decide
  have ql2646 : (2646 : Int32).toInt = 2646 := by decide
  refine sIf (fun h1 => ?_) (fun h1 => ?_)
  · have fh1 := eqT h1
    refine sBind (s_X2_kindOf hN hK (by first | omega | decide) (by first | omega | decide)) (fun x29 b2 => ?_)
    obtain ⟨b2_0, b2_1, -⟩ := b2
    replace b2_0 : 0 ≤ x29.toInt := b2_0
    replace b2_1 : x29.toInt ≤ 5 := b2_1
    exact sRet trivial
  · have fh1 := eqF h1
    refine sIf (fun h3 => ?_) (fun h3 => ?_)
    · have fh3 := eqT h3
      refine sBind (s_X2_numberOf hN hK (by first | omega | decide) (by first | omega | decide)) (fun x34 b4 => ?_)
      obtain ⟨b4_0, b4_1, -⟩ := b4
      replace b4_0 : 0 ≤ x34.toInt := b4_0
      replace b4_1 : x34.toInt ≤ 20 := b4_1
      exact sRet trivial
    · have fh3 := eqF h3
      refine sIf (fun h5 => ?_) (fun h5 => ?_)
      · have fh5 := eqT h5
        refine sBind (s_X2_measureOf hN hK (by first | omega | decide) (by first | omega | decide)) (fun x39 b6 => ?_)
        obtain ⟨b6_0, b6_1, -⟩ := b6
        replace b6_0 : 0 ≤ x39.toInt := b6_0
        replace b6_1 : x39.toInt ≤ 20 := b6_1
        exact sRet trivial
      · have fh5 := eqF h5
        refine sIf (fun h7 => ?_) (fun h7 => ?_)
        · have fh7 := ltT h7
          exfalso; omega
        · have fh7 := ltF h7
          refine sIf (fun h8 => ?_) (fun h8 => ?_)
          · have fh8 := ltT h8
            refine sIfF (noob (by omega) (by omega)) ?_
            exact sRet trivial
          · have fh8 := ltF h8
            exfalso; omega
set_option maxHeartbeats 2000000 in
theorem s_X2_dropEach_46 {N K : Nat} {sz : Int32} {f : Nat → Int32} {p0 : Int32} {p1 : Int32} (hN : NBig N) (hK : 100 ≤ K) (hp0 : 0 ≤ p0.toInt) (hp1 : p0.toInt ≤ 3) {k_5 : Int32 → Int32 → Int32 → (Nat → Int32) → Option (Int32 × Int32 × (Nat → Int32))} {m_5 : Nat} (hk_5 : ∀ (l3 : Int32) (l4 : Int32) (sz_ : Int32) (f_ : (Nat → Int32)), (2646 - l4.toInt).toNat < m_5 → 0 ≤ l4.toInt → l4.toInt ≤ 2646 → Sf (k_5 l3 l4 sz_ f_) (fun (z : Int32 × Int32 × (Nat → Int32)) => True)) : ∀ (l3 : Int32) (l4 : Int32) (sz_ : Int32) (f_ : Nat → Int32), 0 ≤ l4.toInt → l4.toInt ≤ 2645 → (2646 - l4.toInt).toNat ≤ m_5 → Sf (fX2_dropEach_46 N K sz f p0 p1 k_5 l3 l4 sz_ f_) (fun (z : Int32 × Int32 × (Nat → Int32)) => True) := by
  intro l3 l4 sz_ f_ hq0 hq1 hq2
  unfold fX2_dropEach_46
  have ql0 : (0 : Int32).toInt = 0 := by decide
  have ql1 : (1 : Int32).toInt = 1 := by decide
  have t1 := addI (a := l4) (b := (1 : Int32)) (by omega) (by omega)
  exact hk_5 _ _ _ _ (by omega) (by first | omega | decide) (by first | omega | decide)
set_option maxHeartbeats 2000000 in
theorem s_X2_dropEach_5 {N K : Nat} {sz : Int32} {f : Nat → Int32} {p0 : Int32} {p1 : Int32} (hN : NBig N) (hK : 100 ≤ K) (hp0 : 0 ≤ p0.toInt) (hp1 : p0.toInt ≤ 3) : ∀ (fu : Nat) (l3 : Int32) (l4 : Int32) (sz_ : Int32) (f_ : (Nat → Int32)), (2646 - l4.toInt).toNat < fu → 0 ≤ l4.toInt → l4.toInt ≤ 2646 → Sf (fX2_dropEach_5 N K sz f p0 p1  fu l3 l4 sz_ f_) (fun (z : Int32 × Int32 × (Nat → Int32)) => True) := by
  intro fu
  induction fu with
  | zero => intro l3 l4 sz_ f_ h0 hq0 hq1; omega
  | succ fu ih =>
    intro l3 l4 sz_ f_ h0 hq0 hq1
    unfold fX2_dropEach_5
    have ql0 : (0 : Int32).toInt = 0 := by decide
    have ql2646 : (2646 : Int32).toInt = 2646 := by decide
    refine sIf (fun h1 => ?_) (fun h1 => ?_)
    · have fh1 := leT h1
      exact sRet trivial
    · have fh1 := leF h1
      refine sIfF (noob (by omega) (by omega)) ?_
      refine sIf (fun h3 => ?_) (fun h3 => ?_)
      · have fh3 := eqT h3
        rw [show (-1 : Int32).toInt = -1 from by decide] at fh3
        exact s_X2_dropEach_46 (hk_5 := ih) hN hK (by omega) (by omega) _ _ _ _ (by first | omega | decide) (by first | omega | decide) (by omega)
      · have fh3 := eqF h3
        rw [show (-1 : Int32).toInt = -1 from by decide] at fh3
        refine sBind (s_X2_aspect hN hK (by first | omega | decide) (by first | omega | decide) (by first | omega | decide) (by first | omega | decide)) (fun x28 b4 => ?_)
        refine sIf (fun h5 => ?_) (fun h5 => ?_)
        · have fh5 := eqT h5
          refine sIfF (noob (by omega) (by omega)) ?_
          exact s_X2_dropEach_46 (hk_5 := ih) hN hK (by omega) (by omega) _ _ _ _ (by first | omega | decide) (by first | omega | decide) (by omega)
        · have fh5 := eqF h5
          exact s_X2_dropEach_46 (hk_5 := ih) hN hK (by omega) (by omega) _ _ _ _ (by first | omega | decide) (by first | omega | decide) (by omega)
