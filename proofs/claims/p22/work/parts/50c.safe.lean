set_option maxHeartbeats 2000000 in
theorem s_X2_dropEach {N K : Nat} {sz : Int32} {f : Nat → Int32} {p0 : Int32} {p1 : Int32} (hN : NBig N) (hK : 100 ≤ K) (hp0 : 0 ≤ p0.toInt) (hp1 : p0.toInt ≤ 3) : Sf (fX2_dropEach N K sz f p0 p1) (fun (z : Int32 × Int32 × (Nat → Int32)) => True) := by
  unfold fX2_dropEach
  have hN9 := hN.u
  have ql0 : (0 : Int32).toInt = 0 := by decide
  exact s_X2_dropEach_5  hN hK (by omega) (by omega) _ _ _ _ _ (by omega) (by first | omega | decide) (by first | omega | decide)
set_option maxHeartbeats 2000000 in
theorem s_X2_dropAll {N K : Nat} {sz : Int32} {f : Nat → Int32} (hN : NBig N) (hK : 100 ≤ K)  : Sf (fX2_dropAll N K sz f) (fun (z : Int32 × Int32 × (Nat → Int32)) => 0 ≤ z.2.1.toInt ∧ z.2.1.toInt ≤ 0 ∧ True) := by
  unfold fX2_dropAll
  have ql0 : (0 : Int32).toInt = 0 := by decide
  refine sBind (s_J_fill hN hK (by first | omega | decide)) (fun x10 b1 => ?_)
  exact sRet ⟨(by show 0 ≤ (0 : Int32).toInt; decide), (by show (0 : Int32).toInt ≤ 0; decide), trivial⟩
set_option maxHeartbeats 2000000 in
theorem s_X2_howMany_38 {N K : Nat} {sz : Int32} {f : Nat → Int32} {p0 : Int32} {p1 : Int32} (hN : NBig N) (hK : 100 ≤ K) (hp0 : 0 ≤ p0.toInt) (hp1 : p0.toInt ≤ 3) {k_5 : Int32 → Int32 → Option (Int32)} {m_5 : Nat} (hk_5 : ∀ (l3 : Int32) (l4 : Int32), (2646 - l4.toInt).toNat < m_5 → 0 ≤ l4.toInt → l4.toInt ≤ 2646 → Sf (k_5 l3 l4) (fun (z : Int32) => True)) : ∀ (l3 : Int32) (l4 : Int32), 0 ≤ l4.toInt → l4.toInt ≤ 2645 → (2646 - l4.toInt).toNat ≤ m_5 → Sf (fX2_howMany_38 N K sz f p0 p1 k_5 l3 l4) (fun (z : Int32) => True) := by
  intro l3 l4 hq0 hq1 hq2
  unfold fX2_howMany_38
  have ql0 : (0 : Int32).toInt = 0 := by decide
  have ql1 : (1 : Int32).toInt = 1 := by decide
  have t1 := addI (a := l4) (b := (1 : Int32)) (by omega) (by omega)
  exact hk_5 _ _ (by omega) (by first | omega | decide) (by first | omega | decide)
set_option maxHeartbeats 2000000 in
theorem s_X2_howMany_5 {N K : Nat} {sz : Int32} {f : Nat → Int32} {p0 : Int32} {p1 : Int32} (hN : NBig N) (hK : 100 ≤ K) (hp0 : 0 ≤ p0.toInt) (hp1 : p0.toInt ≤ 3) : ∀ (fu : Nat) (l3 : Int32) (l4 : Int32), (2646 - l4.toInt).toNat < fu → 0 ≤ l4.toInt → l4.toInt ≤ 2646 → Sf (fX2_howMany_5 N K sz f p0 p1  fu l3 l4) (fun (z : Int32) => True) := by
  intro fu
  induction fu with
  | zero => intro l3 l4 h0 hq0 hq1; omega
  | succ fu ih =>
    intro l3 l4 h0 hq0 hq1
    unfold fX2_howMany_5
    have ql0 : (0 : Int32).toInt = 0 := by decide
    have ql2646 : (2646 : Int32).toInt = 2646 := by decide
    refine sIf (fun h1 => ?_) (fun h1 => ?_)
    · have fh1 := leT h1
      exact sRet trivial
    · have fh1 := leF h1
      refine sIfF (noob (by omega) (by omega)) ?_
      refine sIf (fun h2 => ?_) (fun h2 => ?_)
      · have fh2 := eqT h2
        rw [show (-1 : Int32).toInt = -1 from by decide] at fh2
        exact s_X2_howMany_38 (hk_5 := ih) hN hK (by omega) (by omega) _ _ (by first | omega | decide) (by first | omega | decide) (by omega)
      · have fh2 := eqF h2
        rw [show (-1 : Int32).toInt = -1 from by decide] at fh2
        refine sBind (s_X2_aspect hN hK (by first | omega | decide) (by first | omega | decide) (by first | omega | decide) (by first | omega | decide)) (fun x28 b3 => ?_)
        refine sIf (fun h4 => ?_) (fun h4 => ?_)
        · have fh4 := eqT h4
          exact s_X2_howMany_38 (hk_5 := ih) hN hK (by omega) (by omega) _ _ (by first | omega | decide) (by first | omega | decide) (by omega)
        · have fh4 := eqF h4
          exact s_X2_howMany_38 (hk_5 := ih) hN hK (by omega) (by omega) _ _ (by first | omega | decide) (by first | omega | decide) (by omega)
set_option maxHeartbeats 2000000 in
theorem s_X2_howMany {N K : Nat} {sz : Int32} {f : Nat → Int32} {p0 : Int32} {p1 : Int32} (hN : NBig N) (hK : 100 ≤ K) (hp0 : 0 ≤ p0.toInt) (hp1 : p0.toInt ≤ 3) : Sf (fX2_howMany N K sz f p0 p1) (fun (z : Int32) => True) := by
  unfold fX2_howMany
  have hN9 := hN.u
  have ql0 : (0 : Int32).toInt = 0 := by decide
  exact s_X2_howMany_5  hN hK (by omega) (by omega) _ _ _ (by omega) (by first | omega | decide) (by first | omega | decide)
set_option maxHeartbeats 2000000 in
theorem s_X2_mark_35 {N K : Nat} {sz : Int32} {f : Nat → Int32} (hN : NBig N) (hK : 100 ≤ K)  {k_4 : Int32 → Int32 → Option (Int32)} {m_4 : Nat} (hk_4 : ∀ (l1 : Int32) (l2 : Int32), (2646 - l2.toInt).toNat < m_4 → 0 ≤ l2.toInt → l2.toInt ≤ 2646 → Sf (k_4 l1 l2) (fun (z : Int32) => True)) : ∀ (l1 : Int32) (l2 : Int32), 0 ≤ l2.toInt → l2.toInt ≤ 2645 → (2646 - l2.toInt).toNat ≤ m_4 → Sf (fX2_mark_35 N K sz f k_4 l1 l2) (fun (z : Int32) => True) := by
  intro l1 l2 hq0 hq1 hq2
  unfold fX2_mark_35
  have ql0 : (0 : Int32).toInt = 0 := by decide
  have ql1 : (1 : Int32).toInt = 1 := by decide
  have t1 := addI (a := l2) (b := (1 : Int32)) (by omega) (by omega)
  exact hk_4 _ _ (by omega) (by first | omega | decide) (by first | omega | decide)
set_option maxHeartbeats 2000000 in
theorem s_X2_mark_4 {N K : Nat} {sz : Int32} {f : Nat → Int32} (hN : NBig N) (hK : 100 ≤ K)  : ∀ (fu : Nat) (l1 : Int32) (l2 : Int32), (2646 - l2.toInt).toNat < fu → 0 ≤ l2.toInt → l2.toInt ≤ 2646 → Sf (fX2_mark_4 N K sz f  fu l1 l2) (fun (z : Int32) => True) := by
  intro fu
  induction fu with
  | zero => intro l1 l2 h0 hq0 hq1; omega
  | succ fu ih =>
    intro l1 l2 h0 hq0 hq1
    unfold fX2_mark_4
    have ql0 : (0 : Int32).toInt = 0 := by decide
    have ql2646 : (2646 : Int32).toInt = 2646 := by decide
    refine sIf (fun h1 => ?_) (fun h1 => ?_)
    · have fh1 := leT h1
      exact sRet trivial
    · have fh1 := leF h1
      refine sIfF (noob (by omega) (by omega)) ?_
      refine sIf (fun h2 => ?_) (fun h2 => ?_)
      · have fh2 := eqT h2
        rw [show (-1 : Int32).toInt = -1 from by decide] at fh2
        exact s_X2_mark_35 (hk_4 := ih) hN hK _ _ (by first | omega | decide) (by first | omega | decide) (by omega)
      · have fh2 := eqF h2
        rw [show (-1 : Int32).toInt = -1 from by decide] at fh2
        refine sBind (s_X2_codeOf hN hK (by first | omega | decide) (by first | omega | decide)) (fun x23 b3 => ?_)
        obtain ⟨b3_0, b3_1, -⟩ := b3
        replace b3_0 : 0 ≤ x23.toInt := b3_0
        replace b3_1 : x23.toInt ≤ 5780 := b3_1
        refine sIfF (noob (by omega) (by omega)) ?_
        exact s_X2_mark_35 (hk_4 := ih) hN hK _ _ (by first | omega | decide) (by first | omega | decide) (by omega)
set_option maxHeartbeats 2000000 in
theorem s_X2_mark {N K : Nat} {sz : Int32} {f : Nat → Int32} (hN : NBig N) (hK : 100 ≤ K)  : Sf (fX2_mark N K sz f) (fun (z : Int32) => True) := by
  unfold fX2_mark
  have hN9 := hN.u
  have ql0 : (0 : Int32).toInt = 0 := by decide
  exact s_X2_mark_4  hN hK _ _ _ (by omega) (by first | omega | decide) (by first | omega | decide)
set_option maxHeartbeats 2000000 in
theorem s_X2_sumOfWorths_30 {N K : Nat} {sz : Int32} {f : Nat → Int32} (hN : NBig N) (hK : 100 ≤ K)  {k_4 : Int32 → Int32 → Option (Int32)} {m_4 : Nat} (hk_4 : ∀ (l1 : Int32) (l2 : Int32), (2646 - l2.toInt).toNat < m_4 → 0 ≤ l2.toInt → l2.toInt ≤ 2646 → Sf (k_4 l1 l2) (fun (z : Int32) => True)) : ∀ (l1 : Int32) (l2 : Int32), 0 ≤ l2.toInt → l2.toInt ≤ 2645 → (2646 - l2.toInt).toNat ≤ m_4 → Sf (fX2_sumOfWorths_30 N K sz f k_4 l1 l2) (fun (z : Int32) => True) := by
  intro l1 l2 hq0 hq1 hq2
  unfold fX2_sumOfWorths_30
  have ql0 : (0 : Int32).toInt = 0 := by decide
  have ql1 : (1 : Int32).toInt = 1 := by decide
  have t1 := addI (a := l2) (b := (1 : Int32)) (by omega) (by omega)
  exact hk_4 _ _ (by omega) (by first | omega | decide) (by first | omega | decide)
set_option maxHeartbeats 2000000 in
theorem s_X2_sumOfWorths_4 {N K : Nat} {sz : Int32} {f : Nat → Int32} (hN : NBig N) (hK : 100 ≤ K)  : ∀ (fu : Nat) (l1 : Int32) (l2 : Int32), (2646 - l2.toInt).toNat < fu → 0 ≤ l2.toInt → l2.toInt ≤ 2646 → Sf (fX2_sumOfWorths_4 N K sz f  fu l1 l2) (fun (z : Int32) => True) := by
  intro fu
  induction fu with
  | zero => intro l1 l2 h0 hq0 hq1; omega
  | succ fu ih =>
    intro l1 l2 h0 hq0 hq1
    unfold fX2_sumOfWorths_4
    have ql0 : (0 : Int32).toInt = 0 := by decide
    have ql2646 : (2646 : Int32).toInt = 2646 := by decide
    refine sIf (fun h1 => ?_) (fun h1 => ?_)
    · have fh1 := leT h1
      exact sRet trivial
    · have fh1 := leF h1
      refine sIfF (noob (by omega) (by omega)) ?_
      refine sIf (fun h2 => ?_) (fun h2 => ?_)
      · have fh2 := eqT h2
        rw [show (-1 : Int32).toInt = -1 from by decide] at fh2
        exact s_X2_sumOfWorths_30 (hk_4 := ih) hN hK _ _ (by first | omega | decide) (by first | omega | decide) (by omega)
      · have fh2 := eqF h2
        rw [show (-1 : Int32).toInt = -1 from by decide] at fh2
        refine sIfF (noob (by omega) (by omega)) ?_
        exact s_X2_sumOfWorths_30 (hk_4 := ih) hN hK _ _ (by first | omega | decide) (by first | omega | decide) (by omega)
set_option maxHeartbeats 2000000 in
theorem s_X2_sumOfWorths {N K : Nat} {sz : Int32} {f : Nat → Int32} (hN : NBig N) (hK : 100 ≤ K)  : Sf (fX2_sumOfWorths N K sz f) (fun (z : Int32) => True) := by
  unfold fX2_sumOfWorths
  have hN9 := hN.u
  have ql0 : (0 : Int32).toInt = 0 := by decide
  exact s_X2_sumOfWorths_4  hN hK _ _ _ (by omega) (by first | omega | decide) (by first | omega | decide)
set_option maxHeartbeats 2000000 in
theorem s_X2_isWellCounted_40 {N K : Nat} {sz : Int32} {f : Nat → Int32} (hN : NBig N) (hK : 100 ≤ K)  {k_4 : Int32 → Int32 → Option (Int32)} {m_4 : Nat} (hk_4 : ∀ (l1 : Int32) (l2 : Int32), (2646 - l2.toInt).toNat < m_4 → 0 ≤ l2.toInt → l2.toInt ≤ 2646 → Sf (k_4 l1 l2) (fun (z : Int32) => 0 ≤ z.toInt ∧ z.toInt ≤ 1 ∧ True)) : ∀ (l1 : Int32) (l2 : Int32), 0 ≤ l2.toInt → l2.toInt ≤ 2645 → (2646 - l2.toInt).toNat ≤ m_4 → Sf (fX2_isWellCounted_40 N K sz f k_4 l1 l2) (fun (z : Int32) => 0 ≤ z.toInt ∧ z.toInt ≤ 1 ∧ True) := by
  intro l1 l2 hq0 hq1 hq2
  unfold fX2_isWellCounted_40
  have ql0 : (0 : Int32).toInt = 0 := by decide
  have ql1 : (1 : Int32).toInt = 1 := by decide
  have t1 := addI (a := l2) (b := (1 : Int32)) (by omega) (by omega)
  exact hk_4 _ _ (by omega) (by first | omega | decide) (by first | omega | decide)
set_option maxHeartbeats 2000000 in
theorem s_X2_isWellCounted_4 {N K : Nat} {sz : Int32} {f : Nat → Int32} (hN : NBig N) (hK : 100 ≤ K)  : ∀ (fu : Nat) (l1 : Int32) (l2 : Int32), (2646 - l2.toInt).toNat < fu → 0 ≤ l2.toInt → l2.toInt ≤ 2646 → Sf (fX2_isWellCounted_4 N K sz f  fu l1 l2) (fun (z : Int32) => 0 ≤ z.toInt ∧ z.toInt ≤ 1 ∧ True) := by
  intro fu
  induction fu with
  | zero => intro l1 l2 h0 hq0 hq1; omega
  | succ fu ih =>
    intro l1 l2 h0 hq0 hq1
    unfold fX2_isWellCounted_4
    have ql0 : (0 : Int32).toInt = 0 := by decide
    have ql1 : (1 : Int32).toInt = 1 := by decide
    have ql2646 : (2646 : Int32).toInt = 2646 := by decide
    refine sIf (fun h1 => ?_) (fun h1 => ?_)
    · have fh1 := leT h1
      refine sIf (fun h2 => ?_) (fun h2 => ?_)
      · have fh2 := eqT h2
        exact sRet ⟨(by show 0 ≤ (1 : Int32).toInt; decide), (by show (1 : Int32).toInt ≤ 1; decide), trivial⟩
      · have fh2 := eqF h2
        exact sRet ⟨(by show 0 ≤ (0 : Int32).toInt; decide), (by show (0 : Int32).toInt ≤ 1; decide), trivial⟩
    · have fh1 := leF h1
      refine sIfF (noob (by omega) (by omega)) ?_
      refine sIf (fun h3 => ?_) (fun h3 => ?_)
      · have fh3 := eqT h3
        rw [show (-1 : Int32).toInt = -1 from by decide] at fh3
        exact s_X2_isWellCounted_40 (hk_4 := ih) hN hK _ _ (by first | omega | decide) (by first | omega | decide) (by omega)
      · have fh3 := eqF h3
        rw [show (-1 : Int32).toInt = -1 from by decide] at fh3
        refine sBind (s_X2_numberOf hN hK (by first | omega | decide) (by first | omega | decide)) (fun x22 b4 => ?_)
        obtain ⟨b4_0, b4_1, -⟩ := b4
        replace b4_0 : 0 ≤ x22.toInt := b4_0
        replace b4_1 : x22.toInt ≤ 20 := b4_1
        refine sBind (s_X2_measureOf hN hK (by first | omega | decide) (by first | omega | decide)) (fun x26 b5 => ?_)
        obtain ⟨b5_0, b5_1, -⟩ := b5
        replace b5_0 : 0 ≤ x26.toInt := b5_0
        replace b5_1 : x26.toInt ≤ 20 := b5_1
        refine sBind (s_X5_rests hN hK) (fun x29 b6 => ?_)
        obtain ⟨b6_0, b6_1, b6_2, b6_3, -⟩ := b6
        replace b6_0 : 0 ≤ x29.toInt := b6_0
        replace b6_1 : x29.toInt ≤ 1 := b6_1
        replace b6_2 : (x29.toInt = 0 → (1 ≤ x22.toInt)) := b6_2
        replace b6_3 : (x29.toInt = 0 → x26.toInt ≠ 0) := b6_3
        refine sIf (fun h7 => ?_) (fun h7 => ?_)
        · have fh7 := eqT h7
          exact s_X2_isWellCounted_40 (hk_4 := ih) hN hK _ _ (by first | omega | decide) (by first | omega | decide) (by omega)
        · have fh7 := eqF h7
          exact sRet ⟨(by show 0 ≤ (0 : Int32).toInt; decide), (by show (0 : Int32).toInt ≤ 1; decide), trivial⟩
set_option maxHeartbeats 2000000 in
theorem s_X2_isWellCounted {N K : Nat} {sz : Int32} {f : Nat → Int32} (hN : NBig N) (hK : 100 ≤ K)  : Sf (fX2_isWellCounted N K sz f) (fun (z : Int32) => 0 ≤ z.toInt ∧ z.toInt ≤ 1 ∧ True) := by
  unfold fX2_isWellCounted
  have hN9 := hN.u
  have ql0 : (0 : Int32).toInt = 0 := by decide
  exact s_X2_isWellCounted_4  hN hK _ _ _ (by omega) (by first | omega | decide) (by first | omega | decide)
set_option maxHeartbeats 2000000 in
theorem s_X2_become {N K : Nat} {sz : Int32} {f : Nat → Int32} {tz : Int32} {g : Nat → Int32} (hN : NBig N) (hK : 100 ≤ K)  : Sf (fX2_become N K sz f tz g) (fun (z : Int32 × (Nat → Int32)) => True) := by
  unfold fX2_become
  have ql0 : (0 : Int32).toInt = 0 := by decide
  exact sRet trivial
set_option maxHeartbeats 2000000 in
theorem s_X2_takeIn_46 {N K : Nat} {sz : Int32} {f : Nat → Int32} {tz : Int32} {g : Nat → Int32} (hN : NBig N) (hK : 100 ≤ K)  {k_4 : Int32 → Int32 → Int32 → (Nat → Int32) → Option (Int32 × Int32 × (Nat → Int32))} {m_4 : Nat} (hk_4 : ∀ (l2 : Int32) (l3 : Int32) (sz_ : Int32) (f_ : (Nat → Int32)), (2646 - l3.toInt).toNat < m_4 → 0 ≤ l3.toInt → l3.toInt ≤ 2646 → Sf (k_4 l2 l3 sz_ f_) (fun (z : Int32 × Int32 × (Nat → Int32)) => True)) : ∀ (l2 : Int32) (l3 : Int32) (sz_ : Int32) (f_ : Nat → Int32), 0 ≤ l3.toInt → l3.toInt ≤ 2645 → (2646 - l3.toInt).toNat ≤ m_4 → Sf (fX2_takeIn_46 N K sz f tz g k_4 l2 l3 sz_ f_) (fun (z : Int32 × Int32 × (Nat → Int32)) => True) := by
  intro l2 l3 sz_ f_ hq0 hq1 hq2
  unfold fX2_takeIn_46
  have ql0 : (0 : Int32).toInt = 0 := by decide
  have ql1 : (1 : Int32).toInt = 1 := by decide
  have t1 := addI (a := l3) (b := (1 : Int32)) (by omega) (by omega)
  exact hk_4 _ _ _ _ (by omega) (by first | omega | decide) (by first | omega | decide)
set_option maxHeartbeats 2000000 in
theorem s_X2_takeIn_34 {N K : Nat} {sz : Int32} {f : Nat → Int32} {tz : Int32} {g : Nat → Int32} (hN : NBig N) (hK : 100 ≤ K)  {k_4 : Int32 → Int32 → Int32 → (Nat → Int32) → Option (Int32 × Int32 × (Nat → Int32))} {m_4 : Nat} (hk_4 : ∀ (l2 : Int32) (l3 : Int32) (sz_ : Int32) (f_ : (Nat → Int32)), (2646 - l3.toInt).toNat < m_4 → 0 ≤ l3.toInt → l3.toInt ≤ 2646 → Sf (k_4 l2 l3 sz_ f_) (fun (z : Int32 × Int32 × (Nat → Int32)) => True)) : ∀ (l2 : Int32) (l3 : Int32) (sz_ : Int32) (f_ : Nat → Int32), 0 ≤ l3.toInt → l3.toInt ≤ 2645 → (2646 - l3.toInt).toNat ≤ m_4 → Sf (fX2_takeIn_34 N K sz f tz g k_4 l2 l3 sz_ f_) (fun (z : Int32 × Int32 × (Nat → Int32)) => True) := by
  intro l2 l3 sz_ f_ hq0 hq1 hq2
  unfold fX2_takeIn_34
  have ql0 : (0 : Int32).toInt = 0 := by decide
  refine sIfF (noob (by omega) (by omega)) ?_
  refine sIfF (noob (by omega) (by omega)) ?_
  exact s_X2_takeIn_46 (hk_4 := hk_4) hN hK _ _ _ _ (by first | omega | decide) (by first | omega | decide) (by omega)
set_option maxHeartbeats 2000000 in
theorem s_X2_takeIn_4 {N K : Nat} {sz : Int32} {f : Nat → Int32} {tz : Int32} {g : Nat → Int32} (hN : NBig N) (hK : 100 ≤ K)  : ∀ (fu : Nat) (l2 : Int32) (l3 : Int32) (sz_ : Int32) (f_ : (Nat → Int32)), (2646 - l3.toInt).toNat < fu → 0 ≤ l3.toInt → l3.toInt ≤ 2646 → Sf (fX2_takeIn_4 N K sz f tz g  fu l2 l3 sz_ f_) (fun (z : Int32 × Int32 × (Nat → Int32)) => True) := by
  intro fu
  induction fu with
  | zero => intro l2 l3 sz_ f_ h0 hq0 hq1; omega
  | succ fu ih =>
    intro l2 l3 sz_ f_ h0 hq0 hq1
    unfold fX2_takeIn_4
    have ql0 : (0 : Int32).toInt = 0 := by decide
    have ql2646 : (2646 : Int32).toInt = 2646 := by decide
    refine sIf (fun h1 => ?_) (fun h1 => ?_)
    · have fh1 := leT h1
      exact sRet trivial
    · have fh1 := leF h1
      refine sIfF (noob (by omega) (by omega)) ?_
      refine sIf (fun h3 => ?_) (fun h3 => ?_)
      · have fh3 := eqT h3
        rw [show (-1 : Int32).toInt = -1 from by decide] at fh3
        exact s_X2_takeIn_46 (hk_4 := ih) hN hK _ _ _ _ (by first | omega | decide) (by first | omega | decide) (by omega)
      · have fh3 := eqF h3
        rw [show (-1 : Int32).toInt = -1 from by decide] at fh3
        refine sIfF (noob (by omega) (by omega)) ?_
        refine sIf (fun h4 => ?_) (fun h4 => ?_)
        · have fh4 := eqT h4
          rw [show (-1 : Int32).toInt = -1 from by decide] at fh4
          exact s_X2_takeIn_34 (hk_4 := ih) hN hK _ _ _ _ (by first | omega | decide) (by first | omega | decide) (by omega)
        · have fh4 := eqF h4
          rw [show (-1 : Int32).toInt = -1 from by decide] at fh4
          exact s_X2_takeIn_34 (hk_4 := ih) hN hK _ _ _ _ (by first | omega | decide) (by first | omega | decide) (by omega)
set_option maxHeartbeats 2000000 in
theorem s_X2_takeIn {N K : Nat} {sz : Int32} {f : Nat → Int32} {tz : Int32} {g : Nat → Int32} (hN : NBig N) (hK : 100 ≤ K)  : Sf (fX2_takeIn N K sz f tz g) (fun (z : Int32 × Int32 × (Nat → Int32)) => True) := by
  unfold fX2_takeIn
  have hN9 := hN.u
  have ql0 : (0 : Int32).toInt = 0 := by decide
  exact s_X2_takeIn_4  hN hK _ _ _ _ _ (by omega) (by first | omega | decide) (by first | omega | decide)
set_option maxHeartbeats 2000000 in
theorem s_X2_isLike_2 {N K : Nat} {sz : Int32} {f : Nat → Int32} {tz : Int32} {g : Nat → Int32} (hN : NBig N) (hK : 100 ≤ K)  : ∀ (fu : Nat) (l2 : Int32), (2646 - l2.toInt).toNat < fu → 0 ≤ l2.toInt → l2.toInt ≤ 2646 → Sf (fX2_isLike_2 N K sz f tz g  fu l2) (fun (z : Int32) => 0 ≤ z.toInt ∧ z.toInt ≤ 1 ∧ True) := by
  intro fu
  induction fu with
  | zero => intro l2 h0 hq0 hq1; omega
  | succ fu ih =>
    intro l2 h0 hq0 hq1
    unfold fX2_isLike_2
    have ql0 : (0 : Int32).toInt = 0 := by decide
    have ql1 : (1 : Int32).toInt = 1 := by decide
    have ql2646 : (2646 : Int32).toInt = 2646 := by decide
    refine sIf (fun h1 => ?_) (fun h1 => ?_)
    · have fh1 := leT h1
      exact sRet ⟨(by show 0 ≤ (1 : Int32).toInt; decide), (by show (1 : Int32).toInt ≤ 1; decide), trivial⟩
    · have fh1 := leF h1
      refine sIfF (noob (by omega) (by omega)) ?_
      refine sIfF (noob (by omega) (by omega)) ?_
      refine sIf (fun h2 => ?_) (fun h2 => ?_)
      · have fh2 := eqT h2
        have t3 := addI (a := l2) (b := (1 : Int32)) (by omega) (by omega)
        exact ih _ (by omega) (by first | omega | decide) (by first | omega | decide)
      · have fh2 := eqF h2
        exact sRet ⟨(by show 0 ≤ (0 : Int32).toInt; decide), (by show (0 : Int32).toInt ≤ 1; decide), trivial⟩
set_option maxHeartbeats 2000000 in
theorem s_X2_isLike {N K : Nat} {sz : Int32} {f : Nat → Int32} {tz : Int32} {g : Nat → Int32} (hN : NBig N) (hK : 100 ≤ K)  : Sf (fX2_isLike N K sz f tz g) (fun (z : Int32) => 0 ≤ z.toInt ∧ z.toInt ≤ 1 ∧ True) := by
  unfold fX2_isLike
  have hN9 := hN.u
  have ql0 : (0 : Int32).toInt = 0 := by decide
  exact s_X2_isLike_2  hN hK _ _ (by omega) (by first | omega | decide) (by first | omega | decide)
set_option maxHeartbeats 2000000 in
theorem s_X2_becomeOwn {N K : Nat} {sz : Int32} {f : Nat → Int32} (hN : NBig N) (hK : 100 ≤ K)  : Sf (fX2_becomeOwn N K sz f) (fun (z : Int32 × (Nat → Int32)) => True) := by
  unfold fX2_becomeOwn
  have ql0 : (0 : Int32).toInt = 0 := by decide
  exact sRet trivial
set_option maxHeartbeats 2000000 in
theorem s_X2_isLikeOwn_2 {N K : Nat} {sz : Int32} {f : Nat → Int32} (hN : NBig N) (hK : 100 ≤ K)  : ∀ (fu : Nat) (l2 : Int32), (2646 - l2.toInt).toNat < fu → 0 ≤ l2.toInt → l2.toInt ≤ 2646 → Sf (fX2_isLikeOwn_2 N K sz f  fu l2) (fun (z : Int32) => 1 ≤ z.toInt ∧ z.toInt ≤ 1 ∧ True) := by
  intro fu
  induction fu with
  | zero => intro l2 h0 hq0 hq1; omega
  | succ fu ih =>
    intro l2 h0 hq0 hq1
    unfold fX2_isLikeOwn_2
    have ql0 : (0 : Int32).toInt = 0 := by decide
    have ql1 : (1 : Int32).toInt = 1 := by decide
    have ql2646 : (2646 : Int32).toInt = 2646 := by decide
    refine sIf (fun h1 => ?_) (fun h1 => ?_)
    · have fh1 := leT h1
      exact sRet ⟨(by show 1 ≤ (1 : Int32).toInt; decide), (by show (1 : Int32).toInt ≤ 1; decide), trivial⟩
    · have fh1 := leF h1
      refine sIfF (noob (by omega) (by omega)) ?_
      refine sIfF (noob (by omega) (by omega)) ?_
      have t2 := addI (a := l2) (b := (1 : Int32)) (by omega) (by omega)
      exact ih _ (by omega) (by first | omega | decide) (by first | omega | decide)
set_option maxHeartbeats 2000000 in
theorem s_X2_isLikeOwn {N K : Nat} {sz : Int32} {f : Nat → Int32} (hN : NBig N) (hK : 100 ≤ K)  : Sf (fX2_isLikeOwn N K sz f) (fun (z : Int32) => 1 ≤ z.toInt ∧ z.toInt ≤ 1 ∧ True) := by
  unfold fX2_isLikeOwn
  have hN9 := hN.u
  have ql0 : (0 : Int32).toInt = 0 := by decide
  exact s_X2_isLikeOwn_2  hN hK _ _ (by omega) (by first | omega | decide) (by first | omega | decide)
set_option maxHeartbeats 2000000 in
theorem s_X2_agreesWithRow_42 {N K : Nat} {sz : Int32} {f : Nat → Int32} {g : Nat → Int32} {p0 : Int32} {p1 : Int32} (hN : NBig N) (hK : 100 ≤ K) (hp0 : 0 ≤ p0.toInt) (hp1 : p0.toInt ≤ 5) (hp2 : 0 ≤ p1.toInt) (hp3 : p1.toInt ≤ 20) {k_3 : Int32 → Option (Int32)} {m_3 : Nat} (hk_3 : ∀ (l4 : Int32), (21 - l4.toInt).toNat < m_3 → 0 ≤ l4.toInt → l4.toInt ≤ 21 → Sf (k_3 l4) (fun (z : Int32) => 0 ≤ z.toInt ∧ z.toInt ≤ 1 ∧ True)) : ∀ (l4 : Int32), 0 ≤ l4.toInt → l4.toInt ≤ 20 → (21 - l4.toInt).toNat ≤ m_3 → Sf (fX2_agreesWithRow_42 N K sz f g p0 p1 k_3 l4) (fun (z : Int32) => 0 ≤ z.toInt ∧ z.toInt ≤ 1 ∧ True) := by
  intro l4 hq0 hq1 hq2
  unfold fX2_agreesWithRow_42
  have ql0 : (0 : Int32).toInt = 0 := by decide
  have ql1 : (1 : Int32).toInt = 1 := by decide
  have t1 := addI (a := l4) (b := (1 : Int32)) (by omega) (by omega)
  exact hk_3 _ (by omega) (by first | omega | decide) (by first | omega | decide)
set_option maxHeartbeats 2000000 in
theorem s_X2_agreesWithRow_3 {N K : Nat} {sz : Int32} {f : Nat → Int32} {g : Nat → Int32} {p0 : Int32} {p1 : Int32} (hN : NBig N) (hK : 100 ≤ K) (hp0 : 0 ≤ p0.toInt) (hp1 : p0.toInt ≤ 5) (hp2 : 0 ≤ p1.toInt) (hp3 : p1.toInt ≤ 20) : ∀ (fu : Nat) (l4 : Int32), (21 - l4.toInt).toNat < fu → 0 ≤ l4.toInt → l4.toInt ≤ 21 → Sf (fX2_agreesWithRow_3 N K sz f g p0 p1  fu l4) (fun (z : Int32) => 0 ≤ z.toInt ∧ z.toInt ≤ 1 ∧ True) := by
  intro fu
  induction fu with
  | zero => intro l4 h0 hq0 hq1; omega
  | succ fu ih =>
    intro l4 h0 hq0 hq1
    unfold fX2_agreesWithRow_3
    have ql0 : (0 : Int32).toInt = 0 := by decide
    have ql1 : (1 : Int32).toInt = 1 := by decide
    have ql20 : (20 : Int32).toInt = 20 := by decide
    refine sIf (fun h1 => ?_) (fun h1 => ?_)
    · have fh1 := ltT h1
      exact sRet ⟨(by show 0 ≤ (1 : Int32).toInt; decide), (by show (1 : Int32).toInt ≤ 1; decide), trivial⟩
    · have fh1 := ltF h1
      refine sBind (s_X2_keeps hN hK (by first | omega | decide) (by first | omega | decide) (by first | omega | decide) (by first | omega | decide) (by first | omega | decide) (by first | omega | decide)) (fun x15 b2 => ?_)
      obtain ⟨b2_0, b2_1, -⟩ := b2
      replace b2_0 : 0 ≤ x15.toInt := b2_0
      replace b2_1 : x15.toInt ≤ 1 := b2_1
      refine sIf (fun h3 => ?_) (fun h3 => ?_)
      · have fh3 := eqT h3
        exact s_X2_agreesWithRow_42 (hk_3 := ih) hN hK (by omega) (by omega) (by omega) (by omega) _ (by first | omega | decide) (by first | omega | decide) (by omega)
      · have fh3 := eqF h3
        refine sBind (s_X2_keptWorth hN hK (by first | omega | decide) (by first | omega | decide) (by first | omega | decide) (by first | omega | decide) (by first | omega | decide) (by first | omega | decide)) (fun x26 b4 => ?_)
        refine sBind (s_X3_reckoned hN hK (by first | omega | decide) (by first | omega | decide) (by first | omega | decide) (by first | omega | decide) (by first | omega | decide) (by first | omega | decide)) (fun x34 b5 => ?_)
        refine sIf (fun h6 => ?_) (fun h6 => ?_)
        · have fh6 := eqT h6
          exact s_X2_agreesWithRow_42 (hk_3 := ih) hN hK (by omega) (by omega) (by omega) (by omega) _ (by first | omega | decide) (by first | omega | decide) (by omega)
        · have fh6 := eqF h6
          exact sRet ⟨(by show 0 ≤ (0 : Int32).toInt; decide), (by show (0 : Int32).toInt ≤ 1; decide), trivial⟩
set_option maxHeartbeats 2000000 in
theorem s_X2_agreesWithRow {N K : Nat} {sz : Int32} {f : Nat → Int32} {g : Nat → Int32} {p0 : Int32} {p1 : Int32} (hN : NBig N) (hK : 100 ≤ K) (hp0 : 0 ≤ p0.toInt) (hp1 : p0.toInt ≤ 5) (hp2 : 0 ≤ p1.toInt) (hp3 : p1.toInt ≤ 20) : Sf (fX2_agreesWithRow N K sz f g p0 p1) (fun (z : Int32) => 0 ≤ z.toInt ∧ z.toInt ≤ 1 ∧ True) := by
  unfold fX2_agreesWithRow
  have hN9 := hN.u
  have ql0 : (0 : Int32).toInt = 0 := by decide
  exact s_X2_agreesWithRow_3  hN hK (by omega) (by omega) (by omega) (by omega) _ _ (by omega) (by first | omega | decide) (by first | omega | decide)
set_option maxHeartbeats 2000000 in
theorem s_X2_agreesWith_10 {N K : Nat} {sz : Int32} {f : Nat → Int32} {g : Nat → Int32} (hN : NBig N) (hK : 100 ≤ K)  {k_2 : Int32 → (Nat → Int32) → Option (Int32 × (Nat → Int32))} {m_2 : Nat} (hk_2 : ∀ (l2 : Int32) (g_ : (Nat → Int32)), (6 - l2.toInt).toNat < m_2 → 0 ≤ l2.toInt → l2.toInt ≤ 6 → Sf (k_2 l2 g_) (fun (z : Int32 × (Nat → Int32)) => 0 ≤ z.1.toInt ∧ z.1.toInt ≤ 1 ∧ True)) : ∀ (fu : Nat) (l2 : Int32) (l3 : Int32) (g_ : (Nat → Int32)), (21 - l3.toInt).toNat < fu → 0 ≤ l2.toInt → l2.toInt ≤ 5 → 0 ≤ l3.toInt → l3.toInt ≤ 21 → (6 - l2.toInt).toNat ≤ m_2 → Sf (fX2_agreesWith_10 N K sz f g k_2 fu l2 l3 g_) (fun (z : Int32 × (Nat → Int32)) => 0 ≤ z.1.toInt ∧ z.1.toInt ≤ 1 ∧ True) := by
  intro fu
  induction fu with
  | zero => intro l2 l3 g_ h0 hq0 hq1 hq2 hq3 hq4; omega
  | succ fu ih =>
    intro l2 l3 g_ h0 hq0 hq1 hq2 hq3 hq4
    unfold fX2_agreesWith_10
    have ql0 : (0 : Int32).toInt = 0 := by decide
    have ql1 : (1 : Int32).toInt = 1 := by decide
    have ql20 : (20 : Int32).toInt = 20 := by decide
    refine sIf (fun h1 => ?_) (fun h1 => ?_)
    · have fh1 := ltT h1
      have t2 := addI (a := l2) (b := (1 : Int32)) (by omega) (by omega)
      exact hk_2 _ _ (by omega) (by first | omega | decide) (by first | omega | decide)
    · have fh1 := ltF h1
      refine sBind (s_X3_reckon hN hK (by first | omega | decide) (by first | omega | decide) (by first | omega | decide) (by first | omega | decide)) (fun x19 b3 => ?_)
      refine sBind (s_X2_agreesWithRow hN hK (by first | omega | decide) (by first | omega | decide) (by first | omega | decide) (by first | omega | decide)) (fun x26 b4 => ?_)
      obtain ⟨b4_0, b4_1, -⟩ := b4
      replace b4_0 : 0 ≤ x26.toInt := b4_0
      replace b4_1 : x26.toInt ≤ 1 := b4_1
      refine sIf (fun h5 => ?_) (fun h5 => ?_)
      · have fh5 := eqT h5
        exact sRet ⟨(by show 0 ≤ (0 : Int32).toInt; decide), (by show (0 : Int32).toInt ≤ 1; decide), trivial⟩
      · have fh5 := eqF h5
        have t6 := addI (a := l3) (b := (1 : Int32)) (by omega) (by omega)
        exact ih _ _ _ (by omega) (by first | omega | decide) (by first | omega | decide) (by first | omega | decide) (by first | omega | decide) (by omega)
set_option maxHeartbeats 2000000 in
theorem s_X2_agreesWith_2 {N K : Nat} {sz : Int32} {f : Nat → Int32} {g : Nat → Int32} (hN : NBig N) (hK : 100 ≤ K)  : ∀ (fu : Nat) (l2 : Int32) (g_ : (Nat → Int32)), (6 - l2.toInt).toNat < fu → 0 ≤ l2.toInt → l2.toInt ≤ 6 → Sf (fX2_agreesWith_2 N K sz f g  fu l2 g_) (fun (z : Int32 × (Nat → Int32)) => 0 ≤ z.1.toInt ∧ z.1.toInt ≤ 1 ∧ True) := by
  intro fu
  induction fu with
  | zero => intro l2 g_ h0 hq0 hq1; omega
  | succ fu ih =>
    intro l2 g_ h0 hq0 hq1
    unfold fX2_agreesWith_2
    have hN9 := hN.u
    have ql0 : (0 : Int32).toInt = 0 := by decide
    have ql1 : (1 : Int32).toInt = 1 := by decide
    have ql6 : (6 : Int32).toInt = 6 := by decide
    refine sIf (fun h1 => ?_) (fun h1 => ?_)
    · have fh1 := leT h1
      exact sRet ⟨(by show 0 ≤ (1 : Int32).toInt; decide), (by show (1 : Int32).toInt ≤ 1; decide), trivial⟩
    · have fh1 := leF h1
      exact s_X2_agreesWith_10 (hk_2 := ih) hN hK _ _ _ _ (by omega) (by first | omega | decide) (by first | omega | decide) (by first | omega | decide) (by first | omega | decide) (by omega)
set_option maxHeartbeats 2000000 in
theorem s_X2_agreesWith {N K : Nat} {sz : Int32} {f : Nat → Int32} {g : Nat → Int32} (hN : NBig N) (hK : 100 ≤ K)  : Sf (fX2_agreesWith N K sz f g) (fun (z : Int32 × (Nat → Int32)) => 0 ≤ z.1.toInt ∧ z.1.toInt ≤ 1 ∧ True) := by
  unfold fX2_agreesWith
  have hN9 := hN.u
  have ql0 : (0 : Int32).toInt = 0 := by decide
  exact s_X2_agreesWith_2  hN hK _ _ _ (by omega) (by first | omega | decide) (by first | omega | decide)
set_option maxHeartbeats 2000000 in
theorem s_X2_sumOfLegs_11 {N K : Nat} {sz : Int32} {f : Nat → Int32} {c0 : Int32} {c1 : Int32} {c2 : Int32} {c3 : Int32} {c4 : Int32} {c5 : Int32} {p0 : Int32} {p1 : Int32} {p2 : Int32} {p3 : Int32} {rec : Int32 → (Nat → Int32) → Int32 → Int32 → Int32 → Int32 → Int32 → Int32 → Int32 → Int32 → Int32 → Int32 → Option (Int32 × Int32 × (Nat → Int32) × Int32 × Int32 × Int32)} {mr : Nat} (hrec : ∀ (sz : Int32) (f : Nat → Int32) (c0 : Int32) (c1 : Int32) (c2 : Int32) (c3 : Int32) (c4 : Int32) (c5 : Int32) (p0 : Int32) (p1 : Int32) (p2 : Int32) (p3 : Int32), (46 - p3.toInt).toNat < mr → 0 ≤ p0.toInt → p0.toInt ≤ 5 → 0 ≤ p3.toInt → p3.toInt ≤ 46 → Sf (rec sz f c0 c1 c2 c3 c4 c5 p0 p1 p2 p3) (fun (z : Int32 × Int32 × (Nat → Int32) × Int32 × Int32 × Int32) => True)) (hN : NBig N) (hK : 100 ≤ K) (hp0 : 0 ≤ p0.toInt) (hp1 : p0.toInt ≤ 5) (hp2 : 1 ≤ p1.toInt) (hp3 : 1 ≤ p3.toInt) (hp4 : p3.toInt ≤ 46) (hp5 : (46 - p3.toInt).toNat < mr) : ∀ (s0 : Int32) (sz_ : Int32) (f_ : Nat → Int32) (c1_ : Int32) (c2_ : Int32) (c3_ : Int32), 0 ≤ s0.toInt → s0.toInt ≤ 1 → (s0.toInt = 0 → 0 ≤ p0.toInt ∧ p0.toInt ≤ 5 ∧ 1 ≤ p1.toInt ∧ 1 ≤ p3.toInt ∧ p3.toInt ≤ 46) → Sf (fX2_sumOfLegs_11 N K rec sz f c0 c1 c2 c3 c4 c5 p0 p1 p2 p3  s0 sz_ f_ c1_ c2_ c3_) (fun (z : Int32 × Int32 × (Nat → Int32) × Int32 × Int32 × Int32) => True) := by
  intro s0 sz_ f_ c1_ c2_ c3_ hq0 hq1 hq2
  unfold fX2_sumOfLegs_11
  have ql0 : (0 : Int32).toInt = 0 := by decide
  have ql1 : (1 : Int32).toInt = 1 := by decide
  have ql2 : (2 : Int32).toInt = 2 := by decide
  have ql3 : (3 : Int32).toInt = 3 := by decide
  have ql4 : (4 : Int32).toInt = 4 := by decide
  refine sIf (fun h1 => ?_) (fun h1 => ?_)
  · have fh1 := eqT h1
    refine sBind (hrec _ _ _ _ _ _ _ _ _ _ _ _ (by omega) (by first | omega | decide) (by first | omega | decide) (by first | omega | decide) (by first | omega | decide)) (fun x58 b3 => ?_)
    refine sBind (hrec _ _ _ _ _ _ _ _ _ _ _ _ (by omega) (by first | omega | decide) (by first | omega | decide) (by first | omega | decide) (by first | omega | decide)) (fun x71 b5 => ?_)
    exact sRet trivial
  · have fh1 := eqF h1
    refine sIf (fun h7 => ?_) (fun h7 => ?_)
    · have fh7 := eqT h7
      have r9 := rgI p1
      have t8 := subI (a := p1) (b := (1 : Int32)) (by omega) (by omega)
      refine sBind (hrec _ _ _ _ _ _ _ _ _ _ _ _ (by omega) (by first | omega | decide) (by first | omega | decide) (by first | omega | decide) (by first | omega | decide)) (fun x88 b11 => ?_)
      refine sBind (hrec _ _ _ _ _ _ _ _ _ _ _ _ (by omega) (by first | omega | decide) (by first | omega | decide) (by first | omega | decide) (by first | omega | decide)) (fun x101 b13 => ?_)
      exact sRet trivial
    · have fh7 := eqF h7
      refine sIf (fun h15 => ?_) (fun h15 => ?_)
      · have fh15 := eqT h15
        refine sBind (hrec _ _ _ _ _ _ _ _ _ _ _ _ (by omega) (by first | omega | decide) (by first | omega | decide) (by first | omega | decide) (by first | omega | decide)) (fun x116 b17 => ?_)
        refine sBind (hrec _ _ _ _ _ _ _ _ _ _ _ _ (by omega) (by first | omega | decide) (by first | omega | decide) (by first | omega | decide) (by first | omega | decide)) (fun x131 b20 => ?_)
        exact sRet trivial
      · have fh15 := eqF h15
        refine sIf (fun h22 => ?_) (fun h22 => ?_)
        · have fh22 := eqT h22
          refine sBind (hrec _ _ _ _ _ _ _ _ _ _ _ _ (by omega) (by first | omega | decide) (by first | omega | decide) (by first | omega | decide) (by first | omega | decide)) (fun x146 b24 => ?_)
          refine sIf (fun h25 => ?_) (fun h25 => ?_)
          · have fh25 := eqT h25
            have r27 := rgI x146.1
            have t26 := addI (a := x146.1) (b := (0 : Int32)) (by omega) (by omega)
            exact sRet trivial
          · have fh25 := eqF h25
            refine sBind (hrec _ _ _ _ _ _ _ _ _ _ _ _ (by omega) (by first | omega | decide) (by first | omega | decide) (by first | omega | decide) (by first | omega | decide)) (fun x164 b29 => ?_)
            exact sRet trivial
        · have fh22 := eqF h22
          refine sIf (fun h31 => ?_) (fun h31 => ?_)
          · have fh31 := eqT h31
            refine sBind (hrec _ _ _ _ _ _ _ _ _ _ _ _ (by omega) (by first | omega | decide) (by first | omega | decide) (by first | omega | decide) (by first | omega | decide)) (fun x183 b33 => ?_)
            refine sIf (fun h34 => ?_) (fun h34 => ?_)
            · have fh34 := eqT h34
              have r36 := rgI x183.1
              have t35 := addI (a := x183.1) (b := (0 : Int32)) (by omega) (by omega)
              exact sRet trivial
            · have fh34 := eqF h34
              refine sBind (hrec _ _ _ _ _ _ _ _ _ _ _ _ (by omega) (by first | omega | decide) (by first | omega | decide) (by first | omega | decide) (by first | omega | decide)) (fun x203 b39 => ?_)
              exact sRet trivial
          · have fh31 := eqF h31
            refine sBind (hrec _ _ _ _ _ _ _ _ _ _ _ _ (by omega) (by first | omega | decide) (by first | omega | decide) (by first | omega | decide) (by first | omega | decide)) (fun x222 b42 => ?_)
            refine sBind (hrec _ _ _ _ _ _ _ _ _ _ _ _ (by omega) (by first | omega | decide) (by first | omega | decide) (by first | omega | decide) (by first | omega | decide)) (fun x237 b45 => ?_)
            exact sRet trivial
set_option maxHeartbeats 2000000 in
theorem s_X2_sumOfLegs {N K : Nat} {sz : Int32} {f : Nat → Int32} {c0 : Int32} {c1 : Int32} {c2 : Int32} {c3 : Int32} {c4 : Int32} {c5 : Int32} {p0 : Int32} {p1 : Int32} {p2 : Int32} {p3 : Int32} {rec : Int32 → (Nat → Int32) → Int32 → Int32 → Int32 → Int32 → Int32 → Int32 → Int32 → Int32 → Int32 → Int32 → Option (Int32 × Int32 × (Nat → Int32) × Int32 × Int32 × Int32)} {mr : Nat} (hrec : ∀ (sz : Int32) (f : Nat → Int32) (c0 : Int32) (c1 : Int32) (c2 : Int32) (c3 : Int32) (c4 : Int32) (c5 : Int32) (p0 : Int32) (p1 : Int32) (p2 : Int32) (p3 : Int32), (46 - p3.toInt).toNat < mr → 0 ≤ p0.toInt → p0.toInt ≤ 5 → 0 ≤ p3.toInt → p3.toInt ≤ 46 → Sf (rec sz f c0 c1 c2 c3 c4 c5 p0 p1 p2 p3) (fun (z : Int32 × Int32 × (Nat → Int32) × Int32 × Int32 × Int32) => True)) (hN : NBig N) (hK : 100 ≤ K) (hp0 : 0 ≤ p0.toInt) (hp1 : p0.toInt ≤ 5) (hp2 : 1 ≤ p1.toInt) (hp3 : 1 ≤ p3.toInt) (hp4 : p3.toInt ≤ 46) (hp5 : (46 - p3.toInt).toNat < mr) : Sf (fX2_sumOfLegs N K rec sz f c0 c1 c2 c3 c4 c5 p0 p1 p2 p3) (fun (z : Int32 × Int32 × (Nat → Int32) × Int32 × Int32 × Int32) => True) := by
  unfold fX2_sumOfLegs
  have ql0 : (0 : Int32).toInt = 0 := by decide
  have ql1 : (1 : Int32).toInt = 1 := by decide
  have ql2 : (2 : Int32).toInt = 2 := by decide
  refine sIf (fun h1 => ?_) (fun h1 => ?_)
  · have t2 := modN (a := p2) (b := (2 : Int32)) ql2 (by omega)
    have fh1 := eqT h1
    exact s_X2_sumOfLegs_11 (hrec := hrec)  hN hK (by omega) (by omega) (by omega) (by omega) (by omega) (by omega) _ _ _ _ _ _ (by first | omega | decide) (by first | omega | decide) (by first | omega | decide)
  · have t3 := modN (a := p2) (b := (2 : Int32)) ql2 (by omega)
    have fh1 := eqF h1
    exact s_X2_sumOfLegs_11 (hrec := hrec)  hN hK (by omega) (by omega) (by omega) (by omega) (by omega) (by omega) _ _ _ _ _ _ (by first | omega | decide) (by first | omega | decide) (by first | omega | decide)
set_option maxHeartbeats 2000000 in
theorem s_X2_worthKnown {N K : Nat}  (hN : NBig N) (hK : 100 ≤ K)  : ∀ (fu : Nat) (sz : Int32) (f : (Nat → Int32)) (c0 : Int32) (c1 : Int32) (c2 : Int32) (c3 : Int32) (c4 : Int32) (c5 : Int32) (p0 : Int32) (p1 : Int32) (p2 : Int32) (p3 : Int32), (46 - p3.toInt).toNat < fu → 0 ≤ p0.toInt → p0.toInt ≤ 5 → 0 ≤ p3.toInt → p3.toInt ≤ 46 → Sf (fX2_worthKnown N K fu sz f c0 c1 c2 c3 c4 c5 p0 p1 p2 p3) (fun (z : Int32 × Int32 × (Nat → Int32) × Int32 × Int32 × Int32) => True) := by
  intro fu
  induction fu with
  | zero => intro sz f c0 c1 c2 c3 c4 c5 p0 p1 p2 p3 h0 hq0 hq1 hq2 hq3; omega
  | succ k ih =>
    intro sz f c0 c1 c2 c3 c4 c5 p0 p1 p2 p3 h0 hq0 hq1 hq2 hq3
    unfold fX2_worthKnown
    have ql0 : (0 : Int32).toInt = 0 := by decide
    have ql1 : (1 : Int32).toInt = 1 := by decide
    have ql45 : (45 : Int32).toInt = 45 := by decide
    refine sBind (s_X5_rests hN hK) (fun x2 b1 => ?_)
    obtain ⟨b1_0, b1_1, b1_2, b1_3, -⟩ := b1
    replace b1_0 : 0 ≤ x2.toInt := b1_0
    replace b1_1 : x2.toInt ≤ 1 := b1_1
    replace b1_2 : (x2.toInt = 0 → (1 ≤ p1.toInt)) := b1_2
    replace b1_3 : (x2.toInt = 0 → p2.toInt ≠ 0) := b1_3
    refine sIf (fun h2 => ?_) (fun h2 => ?_)
    · have fh2 := eqT h2
      refine sBind (s_X2_slotOf hN hK (by first | omega | decide) (by first | omega | decide) (by first | omega | decide)) (fun x18 b3 => ?_)
      obtain ⟨b3_0, b3_1, -⟩ := b3
      replace b3_0 : -1 ≤ x18.toInt := b3_0
      replace b3_1 : x18.toInt ≤ 2645 := b3_1
      refine sIf (fun h4 => ?_) (fun h4 => ?_)
      · have fh4 := eqT h4
        rw [show (-1 : Int32).toInt = -1 from by decide] at fh4
        exact sRet trivial
      · have fh4 := eqF h4
        rw [show (-1 : Int32).toInt = -1 from by decide] at fh4
        refine sIf (fun h5 => ?_) (fun h5 => ?_)
        · have fh5 := leT h5
          refine sIfF (noob (by omega) (by omega)) ?_
          refine sIf (fun h6 => ?_) (fun h6 => ?_)
          · have fh6 := eqT h6
            rw [show (-1 : Int32).toInt = -1 from by decide] at fh6
            have t8 := addI (a := p3) (b := (1 : Int32)) (by omega) (by omega)
            refine sBind (s_X2_sumOfLegs (hrec := ih) hN hK (by first | omega | decide) (by first | omega | decide) (by first | omega | decide) (by first | omega | decide) (by first | omega | decide) (by omega)) (fun x89 b9 => ?_)
            refine sBind (s_X2_keep hN hK (by first | omega | decide) (by first | omega | decide) (by first | omega | decide)) (fun x100 b10 => ?_)
            exact sRet trivial
          · have fh6 := eqF h6
            rw [show (-1 : Int32).toInt = -1 from by decide] at fh6
            refine sIfF (noob (by omega) (by omega)) ?_
            exact sRet trivial
        · have fh5 := leF h5
          exact sRet trivial
    · have fh2 := eqF h2
      refine sBind (s_X5_restingWorth hN hK (by first | omega | decide) (by first | omega | decide)) (fun x11 b14 => ?_)
      obtain ⟨b14_0, b14_1, -⟩ := b14
      replace b14_0 : 0 ≤ x11.toInt := b14_0
      replace b14_1 : x11.toInt ≤ 1 := b14_1
      exact sRet trivial
set_option maxHeartbeats 2000000 in
theorem s_X2_recall {N K : Nat} {sz : Int32} {f : Nat → Int32} {c0 : Int32} {c1 : Int32} {c2 : Int32} {c3 : Int32} {c4 : Int32} {c5 : Int32} {p0 : Int32} {p1 : Int32} {p2 : Int32} (hN : NBig N) (hK : 100 ≤ K) (hp0 : 0 ≤ p0.toInt) (hp1 : p0.toInt ≤ 5) : Sf (fX2_recall N K sz f c0 c1 c2 c3 c4 c5 p0 p1 p2) (fun (z : Int32 × Int32 × (Nat → Int32) × Int32 × Int32 × Int32) => True) := by
  unfold fX2_recall
  have ql0 : (0 : Int32).toInt = 0 := by decide
  refine sBind (s_X2_worthKnown hN hK _ _ _ _ _ _ _ _ _ _ _ _ _ (by omega) (by first | omega | decide) (by first | omega | decide) (by first | omega | decide) (by first | omega | decide)) (fun x7 b1 => ?_)
  exact sRet trivial
set_option maxHeartbeats 2000000 in
theorem s_X0_init {N K : Nat} {k0 : Int32} {k1 : Int32} {k2 : Int32} {k3 : Int32} {k4 : Int32} {k5 : Int32} (hN : NBig N) (hK : 100 ≤ K) (hp0 : 0 ≤ k0.toInt) (hp1 : k0.toInt ≤ 0) (hp2 : 0 ≤ k1.toInt) (hp3 : k1.toInt ≤ 0) (hp4 : 0 ≤ k2.toInt) (hp5 : k2.toInt ≤ 0) (hp6 : 0 ≤ k3.toInt) (hp7 : k3.toInt ≤ 0) (hp8 : 0 ≤ k4.toInt) (hp9 : k4.toInt ≤ 0) (hp10 : 0 ≤ k5.toInt) (hp11 : k5.toInt ≤ 0) : Sf (fX0_init N K k0 k1 k2 k3 k4 k5) (fun (z : Unit) => True) := by
  unfold fX0_init
  have ql0 : (0 : Int32).toInt = 0 := by decide
  exact sRet trivial
set_option maxHeartbeats 2000000 in
theorem s_X4_init {N K : Nat}  (hN : NBig N) (hK : 100 ≤ K)  : Sf (fX4_init N K ) (fun (z : (Nat → Int32)) => True) := by
  unfold fX4_init
  have ql0 : (0 : Int32).toInt = 0 := by decide
  exact sRet trivial
set_option maxHeartbeats 2000000 in
theorem s_X3_init {N K : Nat}  (hN : NBig N) (hK : 100 ≤ K)  : Sf (fX3_init N K ) (fun (z : (Nat → Int32)) => True) := by
  unfold fX3_init
  have ql0 : (0 : Int32).toInt = 0 := by decide
  exact sRet trivial
set_option maxHeartbeats 2000000 in
theorem s_X2_init {N K : Nat} {sz : Int32} (hN : NBig N) (hK : 100 ≤ K) (hp0 : 0 ≤ sz.toInt) (hp1 : sz.toInt ≤ 0) : Sf (fX2_init N K sz) (fun (z : (Nat → Int32)) => True) := by
  unfold fX2_init
  have ql0 : (0 : Int32).toInt = 0 := by decide
  refine sBind (s_J_fill hN hK (by first | omega | decide)) (fun x18 b1 => ?_)
  exact sRet trivial
set_option maxHeartbeats 2000000 in
theorem s_X1_init {N K : Nat} {ru : Int32} {sz : Int32} {p0 : Int32} (hN : NBig N) (hK : 100 ≤ K) (hp0 : 0 ≤ ru.toInt) (hp1 : ru.toInt ≤ 0) (hp2 : 0 ≤ sz.toInt) (hp3 : sz.toInt ≤ 0) (hp4 : 0 ≤ p0.toInt) (hp5 : p0.toInt ≤ 2) : Sf (fX1_init N K ru sz p0) (fun (z : Int32 × (Nat → Int32)) => 0 ≤ z.1.toInt ∧ z.1.toInt ≤ 2 ∧ True) := by
  unfold fX1_init
  have ql0 : (0 : Int32).toInt = 0 := by decide
  refine sBind (s_J_fill hN hK (by first | omega | decide)) (fun x22 b1 => ?_)
  exact sRet ⟨(by show 0 ≤ p0.toInt; first | omega | assumption), (by show p0.toInt ≤ 2; first | omega | assumption), trivial⟩
set_option maxHeartbeats 2000000 in
theorem s_X5_init {N K : Nat}  (hN : NBig N) (hK : 100 ≤ K)  : Sf (fX5_init N K ) (fun (z : Int32 × (Nat → Int32) × Int32 × (Nat → Int32) × Int32 × (Nat → Int32) × Int32 × Int32 × (Nat → Int32) × Int32 × Int32 × (Nat → Int32) × Int32 × Int32 × (Nat → Int32) × (Nat → Int32) × (Nat → Int32) × Int32 × Int32 × Int32 × Int32 × Int32 × Int32 × (Nat → Int32) × (Nat → Int32) × (Nat → Int32)) => 0 ≤ z.1.toInt ∧ z.1.toInt ≤ 0 ∧ 0 ≤ z.2.2.1.toInt ∧ z.2.2.1.toInt ≤ 0 ∧ 0 ≤ z.2.2.2.2.1.toInt ∧ z.2.2.2.2.1.toInt ≤ 0 ∧ 0 ≤ z.2.2.2.2.2.2.1.toInt ∧ z.2.2.2.2.2.2.1.toInt ≤ 2 ∧ 0 ≤ z.2.2.2.2.2.2.2.1.toInt ∧ z.2.2.2.2.2.2.2.1.toInt ≤ 0 ∧ 0 ≤ z.2.2.2.2.2.2.2.2.2.1.toInt ∧ z.2.2.2.2.2.2.2.2.2.1.toInt ≤ 2 ∧ 0 ≤ z.2.2.2.2.2.2.2.2.2.2.1.toInt ∧ z.2.2.2.2.2.2.2.2.2.2.1.toInt ≤ 0 ∧ 0 ≤ z.2.2.2.2.2.2.2.2.2.2.2.2.1.toInt ∧ z.2.2.2.2.2.2.2.2.2.2.2.2.1.toInt ≤ 2 ∧ 0 ≤ z.2.2.2.2.2.2.2.2.2.2.2.2.2.1.toInt ∧ z.2.2.2.2.2.2.2.2.2.2.2.2.2.1.toInt ≤ 0 ∧ 0 ≤ z.2.2.2.2.2.2.2.2.2.2.2.2.2.2.2.2.2.1.toInt ∧ z.2.2.2.2.2.2.2.2.2.2.2.2.2.2.2.2.2.1.toInt ≤ 0 ∧ 0 ≤ z.2.2.2.2.2.2.2.2.2.2.2.2.2.2.2.2.2.2.1.toInt ∧ z.2.2.2.2.2.2.2.2.2.2.2.2.2.2.2.2.2.2.1.toInt ≤ 0 ∧ 0 ≤ z.2.2.2.2.2.2.2.2.2.2.2.2.2.2.2.2.2.2.2.1.toInt ∧ z.2.2.2.2.2.2.2.2.2.2.2.2.2.2.2.2.2.2.2.1.toInt ≤ 0 ∧ 0 ≤ z.2.2.2.2.2.2.2.2.2.2.2.2.2.2.2.2.2.2.2.2.1.toInt ∧ z.2.2.2.2.2.2.2.2.2.2.2.2.2.2.2.2.2.2.2.2.1.toInt ≤ 0 ∧ 0 ≤ z.2.2.2.2.2.2.2.2.2.2.2.2.2.2.2.2.2.2.2.2.2.1.toInt ∧ z.2.2.2.2.2.2.2.2.2.2.2.2.2.2.2.2.2.2.2.2.2.1.toInt ≤ 0 ∧ 0 ≤ z.2.2.2.2.2.2.2.2.2.2.2.2.2.2.2.2.2.2.2.2.2.2.1.toInt ∧ z.2.2.2.2.2.2.2.2.2.2.2.2.2.2.2.2.2.2.2.2.2.2.1.toInt ≤ 0 ∧ True) := by
  unfold fX5_init
  have ql0 : (0 : Int32).toInt = 0 := by decide
  have ql1 : (1 : Int32).toInt = 1 := by decide
  have ql2 : (2 : Int32).toInt = 2 := by decide
  refine sBind (s_X2_init hN hK (by first | omega | decide) (by first | omega | decide)) (fun x32 b1 => ?_)
  refine sBind (s_X2_init hN hK (by first | omega | decide) (by first | omega | decide)) (fun x32_1 b2 => ?_)
  refine sBind (s_X2_init hN hK (by first | omega | decide) (by first | omega | decide)) (fun x32_2 b3 => ?_)
  refine sBind (s_X1_init hN hK (by first | omega | decide) (by first | omega | decide) (by first | omega | decide) (by first | omega | decide) (by first | omega | decide) (by first | omega | decide)) (fun x71 b4 => ?_)
  obtain ⟨b4_0, b4_1, -⟩ := b4
  replace b4_0 : 0 ≤ x71.1.toInt := b4_0
  replace b4_1 : x71.1.toInt ≤ 2 := b4_1
  refine sBind (s_X1_init hN hK (by first | omega | decide) (by first | omega | decide) (by first | omega | decide) (by first | omega | decide) (by first | omega | decide) (by first | omega | decide)) (fun x71_1 b5 => ?_)
  obtain ⟨b5_0, b5_1, -⟩ := b5
  replace b5_0 : 0 ≤ x71_1.1.toInt := b5_0
  replace b5_1 : x71_1.1.toInt ≤ 2 := b5_1
  refine sBind (s_X1_init hN hK (by first | omega | decide) (by first | omega | decide) (by first | omega | decide) (by first | omega | decide) (by first | omega | decide) (by first | omega | decide)) (fun x71_2 b6 => ?_)
  obtain ⟨b6_0, b6_1, -⟩ := b6
  replace b6_0 : 0 ≤ x71_2.1.toInt := b6_0
  replace b6_1 : x71_2.1.toInt ≤ 2 := b6_1
  refine sBind (s_X4_init hN hK) (fun x109 b7 => ?_)
  refine sBind (s_X4_init hN hK) (fun x109_1 b8 => ?_)
  refine sBind (s_X0_init hN hK (by first | omega | decide) (by first | omega | decide) (by first | omega | decide) (by first | omega | decide) (by first | omega | decide) (by first | omega | decide) (by first | omega | decide) (by first | omega | decide) (by first | omega | decide) (by first | omega | decide) (by first | omega | decide) (by first | omega | decide)) (fun x124 b9 => ?_)
  refine sBind (s_X3_init hN hK) (fun x135 b10 => ?_)
  refine sBind (s_X4_init hN hK) (fun x146 b11 => ?_)
  refine sBind (s_X4_init hN hK) (fun x157 b12 => ?_)
  exact sRet ⟨(by show 0 ≤ (0 : Int32).toInt; decide), (by show (0 : Int32).toInt ≤ 0; decide), (by show 0 ≤ (0 : Int32).toInt; decide), (by show (0 : Int32).toInt ≤ 0; decide), (by show 0 ≤ (0 : Int32).toInt; decide), (by show (0 : Int32).toInt ≤ 0; decide), (by show 0 ≤ x71.1.toInt; first | omega | assumption), (by show x71.1.toInt ≤ 2; first | omega | assumption), (by show 0 ≤ (0 : Int32).toInt; decide), (by show (0 : Int32).toInt ≤ 0; decide), (by show 0 ≤ x71_1.1.toInt; first | omega | assumption), (by show x71_1.1.toInt ≤ 2; first | omega | assumption), (by show 0 ≤ (0 : Int32).toInt; decide), (by show (0 : Int32).toInt ≤ 0; decide), (by show 0 ≤ x71_2.1.toInt; first | omega | assumption), (by show x71_2.1.toInt ≤ 2; first | omega | assumption), (by show 0 ≤ (0 : Int32).toInt; decide), (by show (0 : Int32).toInt ≤ 0; decide), (by show 0 ≤ (0 : Int32).toInt; decide), (by show (0 : Int32).toInt ≤ 0; decide), (by show 0 ≤ (0 : Int32).toInt; decide), (by show (0 : Int32).toInt ≤ 0; decide), (by show 0 ≤ (0 : Int32).toInt; decide), (by show (0 : Int32).toInt ≤ 0; decide), (by show 0 ≤ (0 : Int32).toInt; decide), (by show (0 : Int32).toInt ≤ 0; decide), (by show 0 ≤ (0 : Int32).toInt; decide), (by show (0 : Int32).toInt ≤ 0; decide), (by show 0 ≤ (0 : Int32).toInt; decide), (by show (0 : Int32).toInt ≤ 0; decide), trivial⟩
set_option maxHeartbeats 2000000 in
theorem s_X5_memoryAt_13 {N K : Nat} {p0 : Int32} (hN : NBig N) (hK : 100 ≤ K)  : Sf (fX5_memoryAt_13 N K p0  ) (xP true false (fun (z : Unit) => (0 ≤ p0.toInt ∧ p0.toInt ≤ 2) ∧ True)) := by
  unfold fX5_memoryAt_13
  have ql0 : (0 : Int32).toInt = 0 := by decide
  exact sX1
