set_option maxHeartbeats 2000000 in
theorem s_X2_mark {N K : Nat} {sz : Int32} {f : Nat → Int32} (hN : 2 ^ 40 ≤ N) (hK : 100 ≤ K)  : Sf (fX2_mark N K sz f) (fun (z : Int32) => True) := by
  unfold fX2_mark
  have ql0 : (0 : Int32).toInt = 0 := by decide
  exact s_X2_mark_4  hN hK _ _ _ (by omega) (by omega) (by omega)
set_option maxHeartbeats 2000000 in
theorem s_X2_sumOfWorths_30 {N K : Nat} {sz : Int32} {f : Nat → Int32} (hN : 2 ^ 40 ≤ N) (hK : 100 ≤ K)  {k_4 : Int32 → Int32 → Option (Int32)} {m_4 : Nat} (hk_4 : ∀ (l1 : Int32) (l2 : Int32), (2646 - l2.toInt).toNat < m_4 → 0 ≤ l2.toInt → l2.toInt ≤ 2646 → Sf (k_4 l1 l2) (fun (z : Int32) => True)) : ∀ (l1 : Int32) (l2 : Int32), 0 ≤ l2.toInt → l2.toInt ≤ 2645 → (2646 - l2.toInt).toNat ≤ m_4 → Sf (fX2_sumOfWorths_30 N K sz f k_4 l1 l2) (fun (z : Int32) => True) := by
  intro l1 l2 hq0 hq1 hq2
  unfold fX2_sumOfWorths_30
  have ql0 : (0 : Int32).toInt = 0 := by decide
  have ql1 : (1 : Int32).toInt = 1 := by decide
  have r1 := rgI l1
  have r3 := rgI l2
  have t2 := addI (a := l2) (b := (1 : Int32)) (by omega) (by omega)
  exact hk_4 _ _ (by omega) (by omega) (by omega)
set_option maxHeartbeats 2000000 in
theorem s_X2_sumOfWorths_4 {N K : Nat} {sz : Int32} {f : Nat → Int32} (hN : 2 ^ 40 ≤ N) (hK : 100 ≤ K)  : ∀ (fu : Nat) (l1 : Int32) (l2 : Int32), (2646 - l2.toInt).toNat < fu → 0 ≤ l2.toInt → l2.toInt ≤ 2646 → Sf (fX2_sumOfWorths_4 N K sz f  fu l1 l2) (fun (z : Int32) => True) := by
  intro fu
  induction fu with
  | zero => intro l1 l2 h0 hq0 hq1; omega
  | succ fu ih =>
    intro l1 l2 h0 hq0 hq1
    unfold fX2_sumOfWorths_4
    have qlm1 : (-1 : Int32).toInt = -1 := by decide
    have ql0 : (0 : Int32).toInt = 0 := by decide
    have ql2646 : (2646 : Int32).toInt = 2646 := by decide
    refine sIf (fun h1 => ?_) (fun h1 => ?_)
    · have r2 := rgI l2
      have fh1 := leT h1
      have r3 := rgI l1
      exact sRet ⟨trivial⟩
    · have r4 := rgI l2
      have fh1 := leF h1
      refine sIfF (noob (by omega) (by omega)) ?_
      refine sIf (fun h5 => ?_) (fun h5 => ?_)
      · have r6 := rgI (f l2.toNatClampNeg)
        have fh5 := eqT h5
        have r7 := rgI l1
        exact s_X2_sumOfWorths_30 (hk_4 := ih) hN hK _ _ (by omega) (by omega) (by omega)
      · have r8 := rgI (f l2.toNatClampNeg)
        have fh5 := eqF h5
        refine sIfF (noob (by omega) (by omega)) ?_
        have r9 := rgI (l1 + (f l2.toNatClampNeg))
        exact s_X2_sumOfWorths_30 (hk_4 := ih) hN hK _ _ (by omega) (by omega) (by omega)
set_option maxHeartbeats 2000000 in
theorem s_X2_sumOfWorths {N K : Nat} {sz : Int32} {f : Nat → Int32} (hN : 2 ^ 40 ≤ N) (hK : 100 ≤ K)  : Sf (fX2_sumOfWorths N K sz f) (fun (z : Int32) => True) := by
  unfold fX2_sumOfWorths
  have ql0 : (0 : Int32).toInt = 0 := by decide
  exact s_X2_sumOfWorths_4  hN hK _ _ _ (by omega) (by omega) (by omega)
set_option maxHeartbeats 2000000 in
theorem s_X2_isWellCounted_40 {N K : Nat} {sz : Int32} {f : Nat → Int32} (hN : 2 ^ 40 ≤ N) (hK : 100 ≤ K)  {k_4 : Int32 → Int32 → Option (Int32)} {m_4 : Nat} (hk_4 : ∀ (l1 : Int32) (l2 : Int32), (2646 - l2.toInt).toNat < m_4 → 0 ≤ l2.toInt → l2.toInt ≤ 2646 → Sf (k_4 l1 l2) (fun (z : Int32) => 0 ≤ z.toInt ∧ z.toInt ≤ 1 ∧ True)) : ∀ (l1 : Int32) (l2 : Int32), 0 ≤ l2.toInt → l2.toInt ≤ 2645 → (2646 - l2.toInt).toNat ≤ m_4 → Sf (fX2_isWellCounted_40 N K sz f k_4 l1 l2) (fun (z : Int32) => 0 ≤ z.toInt ∧ z.toInt ≤ 1 ∧ True) := by
  intro l1 l2 hq0 hq1 hq2
  unfold fX2_isWellCounted_40
  have ql0 : (0 : Int32).toInt = 0 := by decide
  have ql1 : (1 : Int32).toInt = 1 := by decide
  have r1 := rgI l1
  have r3 := rgI l2
  have t2 := addI (a := l2) (b := (1 : Int32)) (by omega) (by omega)
  exact hk_4 _ _ (by omega) (by omega) (by omega)
set_option maxHeartbeats 2000000 in
theorem s_X2_isWellCounted_4 {N K : Nat} {sz : Int32} {f : Nat → Int32} (hN : 2 ^ 40 ≤ N) (hK : 100 ≤ K)  : ∀ (fu : Nat) (l1 : Int32) (l2 : Int32), (2646 - l2.toInt).toNat < fu → 0 ≤ l2.toInt → l2.toInt ≤ 2646 → Sf (fX2_isWellCounted_4 N K sz f  fu l1 l2) (fun (z : Int32) => 0 ≤ z.toInt ∧ z.toInt ≤ 1 ∧ True) := by
  intro fu
  induction fu with
  | zero => intro l1 l2 h0 hq0 hq1; omega
  | succ fu ih =>
    intro l1 l2 h0 hq0 hq1
    unfold fX2_isWellCounted_4
    have qlm1 : (-1 : Int32).toInt = -1 := by decide
    have ql0 : (0 : Int32).toInt = 0 := by decide
    have ql1 : (1 : Int32).toInt = 1 := by decide
    have ql2646 : (2646 : Int32).toInt = 2646 := by decide
    refine sIf (fun h1 => ?_) (fun h1 => ?_)
    · have r2 := rgI l2
      have fh1 := leT h1
      refine sIf (fun h3 => ?_) (fun h3 => ?_)
      · have r4 := rgI l1
        have r5 := rgI sz
        have fh3 := eqT h3
        exact sRet ⟨(by show 0 ≤ (1 : Int32).toInt; omega), (by show (1 : Int32).toInt ≤ 1; omega), trivial⟩
      · have r6 := rgI l1
        have r7 := rgI sz
        have fh3 := eqF h3
        exact sRet ⟨(by show 0 ≤ (0 : Int32).toInt; omega), (by show (0 : Int32).toInt ≤ 1; omega), trivial⟩
    · have r8 := rgI l2
      have fh1 := leF h1
      refine sIfF (noob (by omega) (by omega)) ?_
      refine sIf (fun h9 => ?_) (fun h9 => ?_)
      · have r10 := rgI (f l2.toNatClampNeg)
        have fh9 := eqT h9
        have r11 := rgI l1
        exact s_X2_isWellCounted_40 (hk_4 := ih) hN hK _ _ (by omega) (by omega) (by omega)
      · have r12 := rgI (f l2.toNatClampNeg)
        have fh9 := eqF h9
        refine sBind (s_X2_numberOf hN hK (by omega) (by omega)) (fun x22 b13 => ?_)
        obtain ⟨b13_0, b13_1, -⟩ := b13
        replace b13_0 : 0 ≤ x22.toInt := b13_0
        replace b13_1 : x22.toInt ≤ 20 := b13_1
        refine sBind (s_X2_measureOf hN hK (by omega) (by omega)) (fun x26 b14 => ?_)
        obtain ⟨b14_0, b14_1, -⟩ := b14
        replace b14_0 : 0 ≤ x26.toInt := b14_0
        replace b14_1 : x26.toInt ≤ 20 := b14_1
        have r15 := rgI x22
        have r16 := rgI x26
        refine sBind (s_X5_rests hN hK) (fun x29 b17 => ?_)
        obtain ⟨b17_0, b17_1, b17_2, b17_3, -⟩ := b17
        replace b17_0 : 0 ≤ x29.toInt := b17_0
        replace b17_1 : x29.toInt ≤ 1 := b17_1
        replace b17_2 : (x29.toInt = 0 → (1 ≤ x22.toInt)) := b17_2
        replace b17_3 : (x29.toInt = 0 → x26.toInt ≠ 0) := b17_3
        refine sIf (fun h18 => ?_) (fun h18 => ?_)
        · have r19 := rgI x29
          have fh18 := eqT h18
          have r20 := rgI (l1 + (1 : Int32))
          exact s_X2_isWellCounted_40 (hk_4 := ih) hN hK _ _ (by omega) (by omega) (by omega)
        · have r21 := rgI x29
          have fh18 := eqF h18
          exact sRet ⟨(by show 0 ≤ (0 : Int32).toInt; omega), (by show (0 : Int32).toInt ≤ 1; omega), trivial⟩
set_option maxHeartbeats 2000000 in
theorem s_X2_isWellCounted {N K : Nat} {sz : Int32} {f : Nat → Int32} (hN : 2 ^ 40 ≤ N) (hK : 100 ≤ K)  : Sf (fX2_isWellCounted N K sz f) (fun (z : Int32) => 0 ≤ z.toInt ∧ z.toInt ≤ 1 ∧ True) := by
  unfold fX2_isWellCounted
  have ql0 : (0 : Int32).toInt = 0 := by decide
  exact s_X2_isWellCounted_4  hN hK _ _ _ (by omega) (by omega) (by omega)
set_option maxHeartbeats 2000000 in
theorem s_X2_become {N K : Nat} {sz : Int32} {f : Nat → Int32} {tz : Int32} {g : Nat → Int32} (hN : 2 ^ 40 ≤ N) (hK : 100 ≤ K)  : Sf (fX2_become N K sz f tz g) (fun (z : Int32 × (Nat → Int32)) => True) := by
  unfold fX2_become
  have ql0 : (0 : Int32).toInt = 0 := by decide
  have r1 := rgI tz
  exact sRet ⟨trivial⟩
set_option maxHeartbeats 2000000 in
theorem s_X2_takeIn_46 {N K : Nat} {sz : Int32} {f : Nat → Int32} {tz : Int32} {g : Nat → Int32} (hN : 2 ^ 40 ≤ N) (hK : 100 ≤ K)  {k_4 : Int32 → Int32 → Int32 → (Nat → Int32) → Option (Int32 × Int32 × (Nat → Int32))} {m_4 : Nat} (hk_4 : ∀ (l2 : Int32) (l3 : Int32) (sz_ : Int32) (f_ : (Nat → Int32)), (2646 - l3.toInt).toNat < m_4 → 0 ≤ l3.toInt → l3.toInt ≤ 2646 → Sf (k_4 l2 l3 sz_ f_) (fun (z : Int32 × Int32 × (Nat → Int32)) => True)) : ∀ (l2 : Int32) (l3 : Int32) (sz_ : Int32) (f_ : Nat → Int32), 0 ≤ l3.toInt → l3.toInt ≤ 2645 → (2646 - l3.toInt).toNat ≤ m_4 → Sf (fX2_takeIn_46 N K sz f tz g k_4 l2 l3 sz_ f_) (fun (z : Int32 × Int32 × (Nat → Int32)) => True) := by
  intro l2 l3 sz_ f_ hq0 hq1 hq2
  unfold fX2_takeIn_46
  have ql0 : (0 : Int32).toInt = 0 := by decide
  have ql1 : (1 : Int32).toInt = 1 := by decide
  have r1 := rgI l2
  have r3 := rgI l3
  have t2 := addI (a := l3) (b := (1 : Int32)) (by omega) (by omega)
  have r4 := rgI sz_
  exact hk_4 _ _ _ _ (by omega) (by omega) (by omega)
set_option maxHeartbeats 2000000 in
theorem s_X2_takeIn_34 {N K : Nat} {sz : Int32} {f : Nat → Int32} {tz : Int32} {g : Nat → Int32} (hN : 2 ^ 40 ≤ N) (hK : 100 ≤ K)  {k_4 : Int32 → Int32 → Int32 → (Nat → Int32) → Option (Int32 × Int32 × (Nat → Int32))} {m_4 : Nat} (hk_4 : ∀ (l2 : Int32) (l3 : Int32) (sz_ : Int32) (f_ : (Nat → Int32)), (2646 - l3.toInt).toNat < m_4 → 0 ≤ l3.toInt → l3.toInt ≤ 2646 → Sf (k_4 l2 l3 sz_ f_) (fun (z : Int32 × Int32 × (Nat → Int32)) => True)) : ∀ (l2 : Int32) (l3 : Int32) (sz_ : Int32) (f_ : Nat → Int32), 0 ≤ l3.toInt → l3.toInt ≤ 2645 → (2646 - l3.toInt).toNat ≤ m_4 → Sf (fX2_takeIn_34 N K sz f tz g k_4 l2 l3 sz_ f_) (fun (z : Int32 × Int32 × (Nat → Int32)) => True) := by
  intro l2 l3 sz_ f_ hq0 hq1 hq2
  unfold fX2_takeIn_34
  have ql0 : (0 : Int32).toInt = 0 := by decide
  have r1 := rgI l3
  refine sIfF (noob (by omega) (by omega)) ?_
  refine sIfF (noob (by omega) (by omega)) ?_
  have r2 := rgI l2
  have r3 := rgI sz_
  exact s_X2_takeIn_46 (hk_4 := hk_4) hN hK _ _ _ _ (by omega) (by omega) (by omega)
set_option maxHeartbeats 2000000 in
theorem s_X2_takeIn_4 {N K : Nat} {sz : Int32} {f : Nat → Int32} {tz : Int32} {g : Nat → Int32} (hN : 2 ^ 40 ≤ N) (hK : 100 ≤ K)  : ∀ (fu : Nat) (l2 : Int32) (l3 : Int32) (sz_ : Int32) (f_ : (Nat → Int32)), (2646 - l3.toInt).toNat < fu → 0 ≤ l3.toInt → l3.toInt ≤ 2646 → Sf (fX2_takeIn_4 N K sz f tz g  fu l2 l3 sz_ f_) (fun (z : Int32 × Int32 × (Nat → Int32)) => True) := by
  intro fu
  induction fu with
  | zero => intro l2 l3 sz_ f_ h0 hq0 hq1; omega
  | succ fu ih =>
    intro l2 l3 sz_ f_ h0 hq0 hq1
    unfold fX2_takeIn_4
    have qlm1 : (-1 : Int32).toInt = -1 := by decide
    have ql0 : (0 : Int32).toInt = 0 := by decide
    have ql2646 : (2646 : Int32).toInt = 2646 := by decide
    refine sIf (fun h1 => ?_) (fun h1 => ?_)
    · have r2 := rgI l3
      have fh1 := leT h1
      have r3 := rgI l2
      have r4 := rgI (sz_ + l2)
      exact sRet ⟨trivial⟩
    · have r5 := rgI l3
      have fh1 := leF h1
      refine sIfF (noob (by omega) (by omega)) ?_
      refine sIf (fun h6 => ?_) (fun h6 => ?_)
      · have r7 := rgI (g l3.toNatClampNeg)
        have fh6 := eqT h6
        have r8 := rgI l2
        have r9 := rgI sz_
        exact s_X2_takeIn_46 (hk_4 := ih) hN hK _ _ _ _ (by omega) (by omega) (by omega)
      · have r10 := rgI (g l3.toNatClampNeg)
        have fh6 := eqF h6
        refine sIfF (noob (by omega) (by omega)) ?_
        refine sIf (fun h11 => ?_) (fun h11 => ?_)
        · have r12 := rgI (f_ l3.toNatClampNeg)
          have fh11 := eqT h11
          have r13 := rgI (l2 + (1 : Int32))
          have r14 := rgI sz_
          exact s_X2_takeIn_34 (hk_4 := ih) hN hK _ _ _ _ (by omega) (by omega) (by omega)
        · have r15 := rgI (f_ l3.toNatClampNeg)
          have fh11 := eqF h11
          have r16 := rgI l2
          have r17 := rgI sz_
          exact s_X2_takeIn_34 (hk_4 := ih) hN hK _ _ _ _ (by omega) (by omega) (by omega)
set_option maxHeartbeats 2000000 in
theorem s_X2_takeIn {N K : Nat} {sz : Int32} {f : Nat → Int32} {tz : Int32} {g : Nat → Int32} (hN : 2 ^ 40 ≤ N) (hK : 100 ≤ K)  : Sf (fX2_takeIn N K sz f tz g) (fun (z : Int32 × Int32 × (Nat → Int32)) => True) := by
  unfold fX2_takeIn
  have ql0 : (0 : Int32).toInt = 0 := by decide
  have r1 := rgI sz
  exact s_X2_takeIn_4  hN hK _ _ _ _ _ (by omega) (by omega) (by omega)
set_option maxHeartbeats 2000000 in
theorem s_X2_isLike_2 {N K : Nat} {sz : Int32} {f : Nat → Int32} {tz : Int32} {g : Nat → Int32} (hN : 2 ^ 40 ≤ N) (hK : 100 ≤ K)  : ∀ (fu : Nat) (l2 : Int32), (2646 - l2.toInt).toNat < fu → 0 ≤ l2.toInt → l2.toInt ≤ 2646 → Sf (fX2_isLike_2 N K sz f tz g  fu l2) (fun (z : Int32) => 0 ≤ z.toInt ∧ z.toInt ≤ 1 ∧ True) := by
  intro fu
  induction fu with
  | zero => intro l2 h0 hq0 hq1; omega
  | succ fu ih =>
    intro l2 h0 hq0 hq1
    unfold fX2_isLike_2
    have ql0 : (0 : Int32).toInt = 0 := by decide
    have ql1 : (1 : Int32).toInt = 1 := by decide
    have ql2646 : (2646 : Int32).toInt = 2646 := by decide
    refine sIf (fun h1 => ?_) (fun h1 => ?_)
    · have r2 := rgI l2
      have fh1 := leT h1
      exact sRet ⟨(by show 0 ≤ (1 : Int32).toInt; omega), (by show (1 : Int32).toInt ≤ 1; omega), trivial⟩
    · have r3 := rgI l2
      have fh1 := leF h1
      refine sIfF (noob (by omega) (by omega)) ?_
      refine sIfF (noob (by omega) (by omega)) ?_
      refine sIf (fun h4 => ?_) (fun h4 => ?_)
      · have r5 := rgI (f l2.toNatClampNeg)
        have r6 := rgI (g l2.toNatClampNeg)
        have fh4 := eqT h4
        have t7 := addI (a := l2) (b := (1 : Int32)) (by omega) (by omega)
        exact ih _ (by omega) (by omega) (by omega)
      · have r8 := rgI (f l2.toNatClampNeg)
        have r9 := rgI (g l2.toNatClampNeg)
        have fh4 := eqF h4
        exact sRet ⟨(by show 0 ≤ (0 : Int32).toInt; omega), (by show (0 : Int32).toInt ≤ 1; omega), trivial⟩
set_option maxHeartbeats 2000000 in
theorem s_X2_isLike {N K : Nat} {sz : Int32} {f : Nat → Int32} {tz : Int32} {g : Nat → Int32} (hN : 2 ^ 40 ≤ N) (hK : 100 ≤ K)  : Sf (fX2_isLike N K sz f tz g) (fun (z : Int32) => 0 ≤ z.toInt ∧ z.toInt ≤ 1 ∧ True) := by
  unfold fX2_isLike
  have ql0 : (0 : Int32).toInt = 0 := by decide
  exact s_X2_isLike_2  hN hK _ _ (by omega) (by omega) (by omega)
set_option maxHeartbeats 2000000 in
theorem s_X2_becomeOwn {N K : Nat} {sz : Int32} {f : Nat → Int32} (hN : 2 ^ 40 ≤ N) (hK : 100 ≤ K)  : Sf (fX2_becomeOwn N K sz f) (fun (z : Int32 × (Nat → Int32)) => True) := by
  unfold fX2_becomeOwn
  have ql0 : (0 : Int32).toInt = 0 := by decide
  have r1 := rgI sz
  exact sRet ⟨trivial⟩
set_option maxHeartbeats 2000000 in
theorem s_X2_isLikeOwn_2 {N K : Nat} {sz : Int32} {f : Nat → Int32} (hN : 2 ^ 40 ≤ N) (hK : 100 ≤ K)  : ∀ (fu : Nat) (l2 : Int32), (2646 - l2.toInt).toNat < fu → 0 ≤ l2.toInt → l2.toInt ≤ 2646 → Sf (fX2_isLikeOwn_2 N K sz f  fu l2) (fun (z : Int32) => 1 ≤ z.toInt ∧ z.toInt ≤ 1 ∧ True) := by
  intro fu
  induction fu with
  | zero => intro l2 h0 hq0 hq1; omega
  | succ fu ih =>
    intro l2 h0 hq0 hq1
    unfold fX2_isLikeOwn_2
    have ql0 : (0 : Int32).toInt = 0 := by decide
    have ql1 : (1 : Int32).toInt = 1 := by decide
    have ql2646 : (2646 : Int32).toInt = 2646 := by decide
    refine sIf (fun h1 => ?_) (fun h1 => ?_)
    · have r2 := rgI l2
      have fh1 := leT h1
      exact sRet ⟨(by show 1 ≤ (1 : Int32).toInt; omega), (by show (1 : Int32).toInt ≤ 1; omega), trivial⟩
    · have r3 := rgI l2
      have fh1 := leF h1
      refine sIfF (noob (by omega) (by omega)) ?_
      refine sIfF (noob (by omega) (by omega)) ?_
      have t4 := addI (a := l2) (b := (1 : Int32)) (by omega) (by omega)
      exact ih _ (by omega) (by omega) (by omega)
set_option maxHeartbeats 2000000 in
theorem s_X2_isLikeOwn {N K : Nat} {sz : Int32} {f : Nat → Int32} (hN : 2 ^ 40 ≤ N) (hK : 100 ≤ K)  : Sf (fX2_isLikeOwn N K sz f) (fun (z : Int32) => 1 ≤ z.toInt ∧ z.toInt ≤ 1 ∧ True) := by
  unfold fX2_isLikeOwn
  have ql0 : (0 : Int32).toInt = 0 := by decide
  exact s_X2_isLikeOwn_2  hN hK _ _ (by omega) (by omega) (by omega)
set_option maxHeartbeats 2000000 in
theorem s_X2_agreesWithRow_42 {N K : Nat} {sz : Int32} {f : Nat → Int32} {g : Nat → Int32} {p0 : Int32} {p1 : Int32} (hN : 2 ^ 40 ≤ N) (hK : 100 ≤ K) (hp0 : 0 ≤ p0.toInt) (hp1 : p0.toInt ≤ 5) (hp2 : 0 ≤ p1.toInt) (hp3 : p1.toInt ≤ 20) {k_3 : Int32 → Option (Int32)} {m_3 : Nat} (hk_3 : ∀ (l4 : Int32), (21 - l4.toInt).toNat < m_3 → 0 ≤ l4.toInt → l4.toInt ≤ 21 → Sf (k_3 l4) (fun (z : Int32) => 0 ≤ z.toInt ∧ z.toInt ≤ 1 ∧ True)) : ∀ (l4 : Int32), 0 ≤ l4.toInt → l4.toInt ≤ 20 → (21 - l4.toInt).toNat ≤ m_3 → Sf (fX2_agreesWithRow_42 N K sz f g p0 p1 k_3 l4) (fun (z : Int32) => 0 ≤ z.toInt ∧ z.toInt ≤ 1 ∧ True) := by
  intro l4 hq0 hq1 hq2
  unfold fX2_agreesWithRow_42
  have ql0 : (0 : Int32).toInt = 0 := by decide
  have ql1 : (1 : Int32).toInt = 1 := by decide
  have r2 := rgI l4
  have t1 := addI (a := l4) (b := (1 : Int32)) (by omega) (by omega)
  exact hk_3 _ (by omega) (by omega) (by omega)
set_option maxHeartbeats 2000000 in
theorem s_X2_agreesWithRow_3 {N K : Nat} {sz : Int32} {f : Nat → Int32} {g : Nat → Int32} {p0 : Int32} {p1 : Int32} (hN : 2 ^ 40 ≤ N) (hK : 100 ≤ K) (hp0 : 0 ≤ p0.toInt) (hp1 : p0.toInt ≤ 5) (hp2 : 0 ≤ p1.toInt) (hp3 : p1.toInt ≤ 20) : ∀ (fu : Nat) (l4 : Int32), (21 - l4.toInt).toNat < fu → 0 ≤ l4.toInt → l4.toInt ≤ 21 → Sf (fX2_agreesWithRow_3 N K sz f g p0 p1  fu l4) (fun (z : Int32) => 0 ≤ z.toInt ∧ z.toInt ≤ 1 ∧ True) := by
  intro fu
  induction fu with
  | zero => intro l4 h0 hq0 hq1; omega
  | succ fu ih =>
    intro l4 h0 hq0 hq1
    unfold fX2_agreesWithRow_3
    have ql0 : (0 : Int32).toInt = 0 := by decide
    have ql1 : (1 : Int32).toInt = 1 := by decide
    have ql20 : (20 : Int32).toInt = 20 := by decide
    refine sIf (fun h1 => ?_) (fun h1 => ?_)
    · have r2 := rgI l4
      have fh1 := ltT h1
      exact sRet ⟨(by show 0 ≤ (1 : Int32).toInt; omega), (by show (1 : Int32).toInt ≤ 1; omega), trivial⟩
    · have r3 := rgI l4
      have fh1 := ltF h1
      have r4 := rgI sz
      have r5 := rgI p0
      have r6 := rgI p1
      refine sBind (s_X2_keeps hN hK (by omega) (by omega) (by omega) (by omega) (by omega) (by omega)) (fun x15 b7 => ?_)
      obtain ⟨b7_0, b7_1, -⟩ := b7
      replace b7_0 : 0 ≤ x15.toInt := b7_0
      replace b7_1 : x15.toInt ≤ 1 := b7_1
      refine sIf (fun h8 => ?_) (fun h8 => ?_)
      · have r9 := rgI x15
        have fh8 := eqT h8
        exact s_X2_agreesWithRow_42 (hk_3 := ih) hN hK (by omega) (by omega) (by omega) (by omega) _ (by omega) (by omega) (by omega)
      · have r10 := rgI x15
        have fh8 := eqF h8
        refine sBind (s_X2_keptWorth hN hK (by omega) (by omega) (by omega) (by omega) (by omega) (by omega)) (fun x26 b11 => ?_)
        refine sBind (s_X3_reckoned hN hK (by omega) (by omega) (by omega) (by omega) (by omega) (by omega)) (fun x34 b12 => ?_)
        refine sIf (fun h13 => ?_) (fun h13 => ?_)
        · have r14 := rgI x26
          have r15 := rgI x34
          have fh13 := eqT h13
          exact s_X2_agreesWithRow_42 (hk_3 := ih) hN hK (by omega) (by omega) (by omega) (by omega) _ (by omega) (by omega) (by omega)
        · have r16 := rgI x26
          have r17 := rgI x34
          have fh13 := eqF h13
          exact sRet ⟨(by show 0 ≤ (0 : Int32).toInt; omega), (by show (0 : Int32).toInt ≤ 1; omega), trivial⟩
set_option maxHeartbeats 2000000 in
theorem s_X2_agreesWithRow {N K : Nat} {sz : Int32} {f : Nat → Int32} {g : Nat → Int32} {p0 : Int32} {p1 : Int32} (hN : 2 ^ 40 ≤ N) (hK : 100 ≤ K) (hp0 : 0 ≤ p0.toInt) (hp1 : p0.toInt ≤ 5) (hp2 : 0 ≤ p1.toInt) (hp3 : p1.toInt ≤ 20) : Sf (fX2_agreesWithRow N K sz f g p0 p1) (fun (z : Int32) => 0 ≤ z.toInt ∧ z.toInt ≤ 1 ∧ True) := by
  unfold fX2_agreesWithRow
  have ql0 : (0 : Int32).toInt = 0 := by decide
  exact s_X2_agreesWithRow_3  hN hK (by omega) (by omega) (by omega) (by omega) _ _ (by omega) (by omega) (by omega)
set_option maxHeartbeats 2000000 in
theorem s_X2_agreesWith_10 {N K : Nat} {sz : Int32} {f : Nat → Int32} {g : Nat → Int32} (hN : 2 ^ 40 ≤ N) (hK : 100 ≤ K)  {k_2 : Int32 → (Nat → Int32) → Option (Int32 × (Nat → Int32))} {m_2 : Nat} (hk_2 : ∀ (l2 : Int32) (g_ : (Nat → Int32)), (6 - l2.toInt).toNat < m_2 → 0 ≤ l2.toInt → l2.toInt ≤ 6 → Sf (k_2 l2 g_) (fun (z : Int32 × (Nat → Int32)) => 0 ≤ z.1.toInt ∧ z.1.toInt ≤ 1 ∧ True)) : ∀ (fu : Nat) (l2 : Int32) (l3 : Int32) (g_ : (Nat → Int32)), (21 - l3.toInt).toNat < fu → 0 ≤ l2.toInt → l2.toInt ≤ 5 → 0 ≤ l3.toInt → l3.toInt ≤ 21 → (6 - l2.toInt).toNat ≤ m_2 → Sf (fX2_agreesWith_10 N K sz f g k_2 fu l2 l3 g_) (fun (z : Int32 × (Nat → Int32)) => 0 ≤ z.1.toInt ∧ z.1.toInt ≤ 1 ∧ True) := by
  intro fu
  induction fu with
  | zero => intro l2 l3 g_ h0 hq0 hq1 hq2 hq3 hq4; omega
  | succ fu ih =>
    intro l2 l3 g_ h0 hq0 hq1 hq2 hq3 hq4
    unfold fX2_agreesWith_10
    have ql0 : (0 : Int32).toInt = 0 := by decide
    have ql1 : (1 : Int32).toInt = 1 := by decide
    have ql20 : (20 : Int32).toInt = 20 := by decide
    refine sIf (fun h1 => ?_) (fun h1 => ?_)
    · have r2 := rgI l3
      have fh1 := ltT h1
      have r4 := rgI l2
      have t3 := addI (a := l2) (b := (1 : Int32)) (by omega) (by omega)
      exact hk_2 _ _ (by omega) (by omega) (by omega)
    · have r5 := rgI l3
      have fh1 := ltF h1
      have r6 := rgI l2
      refine sBind (s_X3_reckon hN hK (by omega) (by omega) (by omega) (by omega)) (fun x19 b7 => ?_)
      have r8 := rgI sz
      refine sBind (s_X2_agreesWithRow hN hK (by omega) (by omega) (by omega) (by omega)) (fun x26 b9 => ?_)
      obtain ⟨b9_0, b9_1, -⟩ := b9
      replace b9_0 : 0 ≤ x26.toInt := b9_0
      replace b9_1 : x26.toInt ≤ 1 := b9_1
      refine sIf (fun h10 => ?_) (fun h10 => ?_)
      · have r11 := rgI x26
        have fh10 := eqT h10
        exact sRet ⟨(by show 0 ≤ (0 : Int32).toInt; omega), (by show (0 : Int32).toInt ≤ 1; omega), trivial⟩
      · have r12 := rgI x26
        have fh10 := eqF h10
        have t13 := addI (a := l3) (b := (1 : Int32)) (by omega) (by omega)
        exact ih _ _ _ (by omega) (by omega) (by omega) (by omega) (by omega) (by omega)
set_option maxHeartbeats 2000000 in
theorem s_X2_agreesWith_2 {N K : Nat} {sz : Int32} {f : Nat → Int32} {g : Nat → Int32} (hN : 2 ^ 40 ≤ N) (hK : 100 ≤ K)  : ∀ (fu : Nat) (l2 : Int32) (g_ : (Nat → Int32)), (6 - l2.toInt).toNat < fu → 0 ≤ l2.toInt → l2.toInt ≤ 6 → Sf (fX2_agreesWith_2 N K sz f g  fu l2 g_) (fun (z : Int32 × (Nat → Int32)) => 0 ≤ z.1.toInt ∧ z.1.toInt ≤ 1 ∧ True) := by
  intro fu
  induction fu with
  | zero => intro l2 g_ h0 hq0 hq1; omega
  | succ fu ih =>
    intro l2 g_ h0 hq0 hq1
    unfold fX2_agreesWith_2
    have ql0 : (0 : Int32).toInt = 0 := by decide
    have ql1 : (1 : Int32).toInt = 1 := by decide
    have ql6 : (6 : Int32).toInt = 6 := by decide
    refine sIf (fun h1 => ?_) (fun h1 => ?_)
    · have r2 := rgI l2
      have fh1 := leT h1
      exact sRet ⟨(by show 0 ≤ (1 : Int32).toInt; omega), (by show (1 : Int32).toInt ≤ 1; omega), trivial⟩
    · have r3 := rgI l2
      have fh1 := leF h1
      exact s_X2_agreesWith_10 (hk_2 := ih) hN hK _ _ _ _ (by omega) (by omega) (by omega) (by omega) (by omega) (by omega)
set_option maxHeartbeats 2000000 in
theorem s_X2_agreesWith {N K : Nat} {sz : Int32} {f : Nat → Int32} {g : Nat → Int32} (hN : 2 ^ 40 ≤ N) (hK : 100 ≤ K)  : Sf (fX2_agreesWith N K sz f g) (fun (z : Int32 × (Nat → Int32)) => 0 ≤ z.1.toInt ∧ z.1.toInt ≤ 1 ∧ True) := by
  unfold fX2_agreesWith
  have ql0 : (0 : Int32).toInt = 0 := by decide
  exact s_X2_agreesWith_2  hN hK _ _ _ (by omega) (by omega) (by omega)
set_option maxHeartbeats 2000000 in
theorem s_X2_sumOfLegs_11 {N K : Nat} {sz : Int32} {f : Nat → Int32} {c0 : Int32} {c1 : Int32} {c2 : Int32} {c3 : Int32} {c4 : Int32} {c5 : Int32} {p0 : Int32} {p1 : Int32} {p2 : Int32} {p3 : Int32} {rec : Int32 → (Nat → Int32) → Int32 → Int32 → Int32 → Int32 → Int32 → Int32 → Int32 → Int32 → Int32 → Int32 → Option (Int32 × Int32 × (Nat → Int32) × Int32 × Int32 × Int32)} {mr : Nat} (hrec : ∀ (sz : Int32) (f : Nat → Int32) (c0 : Int32) (c1 : Int32) (c2 : Int32) (c3 : Int32) (c4 : Int32) (c5 : Int32) (p0 : Int32) (p1 : Int32) (p2 : Int32) (p3 : Int32), (46 - p3.toInt).toNat < mr → 0 ≤ p0.toInt → p0.toInt ≤ 5 → 0 ≤ p3.toInt → p3.toInt ≤ 46 → Sf (rec sz f c0 c1 c2 c3 c4 c5 p0 p1 p2 p3) (fun (z : Int32 × Int32 × (Nat → Int32) × Int32 × Int32 × Int32) => True)) (hN : 2 ^ 40 ≤ N) (hK : 100 ≤ K) (hp0 : 0 ≤ p0.toInt) (hp1 : p0.toInt ≤ 5) (hp2 : 1 ≤ p1.toInt) (hp3 : 1 ≤ p3.toInt) (hp4 : p3.toInt ≤ 46) (hp5 : (46 - p3.toInt).toNat ≤ mr) : ∀ (s0 : Int32) (sz_ : Int32) (f_ : Nat → Int32) (c1_ : Int32) (c2_ : Int32) (c3_ : Int32), 0 ≤ s0.toInt → s0.toInt ≤ 1 → (s0.toInt = 0 → 0 ≤ p0.toInt ∧ p0.toInt ≤ 5 ∧ 1 ≤ p1.toInt) → Sf (fX2_sumOfLegs_11 N K rec sz f c0 c1 c2 c3 c4 c5 p0 p1 p2 p3  s0 sz_ f_ c1_ c2_ c3_) (fun (z : Int32 × Int32 × (Nat → Int32) × Int32 × Int32 × Int32) => True) := by
  intro s0 sz_ f_ c1_ c2_ c3_ hq0 hq1 hq2
  unfold fX2_sumOfLegs_11
  have ql0 : (0 : Int32).toInt = 0 := by decide
  have ql1 : (1 : Int32).toInt = 1 := by decide
  have ql2 : (2 : Int32).toInt = 2 := by decide
  have ql3 : (3 : Int32).toInt = 3 := by decide
  have ql4 : (4 : Int32).toInt = 4 := by decide
  refine sIf (fun h1 => ?_) (fun h1 => ?_)
  · have r2 := rgI p0
    have fh1 := eqT h1
    have r3 := rgI sz_
    have r4 := rgI c0
    have r5 := rgI c1_
    have r6 := rgI c2_
    have r7 := rgI c3_
    have r8 := rgI c4
    have r9 := rgI c5
    have r10 := rgI p1
    have r11 := rgI (p2 - (1 : Int32))
    have r12 := rgI p3
    refine sBind (hrec _ _ _ _ _ _ _ _ _ _ _ _ (by omega) (by omega) (by omega) (by omega) (by omega)) (fun x58 b13 => ?_)
    have r14 := rgI x58.2.1
    have r15 := rgI x58.2.2.2.1
    have r16 := rgI x58.2.2.2.2.1
    have r17 := rgI x58.2.2.2.2.2
    have r18 := rgI (p1 - p2)
    have r19 := rgI p2
    refine sBind (hrec _ _ _ _ _ _ _ _ _ _ _ _ (by omega) (by omega) (by omega) (by omega) (by omega)) (fun x71 b20 => ?_)
    have r21 := rgI (x58.1 + x71.1)
    have r22 := rgI x71.2.1
    have r23 := rgI x71.2.2.2.1
    have r24 := rgI x71.2.2.2.2.1
    have r25 := rgI x71.2.2.2.2.2
    exact sRet ⟨trivial⟩
  · have r26 := rgI p0
    have fh1 := eqF h1
    refine sIf (fun h27 => ?_) (fun h27 => ?_)
    · have fh27 := eqT h27
      have r28 := rgI sz_
      have r29 := rgI c0
      have r30 := rgI c1_
      have r31 := rgI c2_
      have r32 := rgI c3_
      have r33 := rgI c4
      have r34 := rgI c5
      have r36 := rgI p1
      have t35 := subI (a := p1) (b := (1 : Int32)) (by omega) (by omega)
      have r37 := rgI (p2 - (1 : Int32))
      have r38 := rgI p3
      refine sBind (hrec _ _ _ _ _ _ _ _ _ _ _ _ (by omega) (by omega) (by omega) (by omega) (by omega)) (fun x88 b39 => ?_)
      have r40 := rgI x88.2.1
      have r41 := rgI x88.2.2.2.1
      have r42 := rgI x88.2.2.2.2.1
      have r43 := rgI x88.2.2.2.2.2
      have r44 := rgI (p1 - p2)
      have r45 := rgI p2
      refine sBind (hrec _ _ _ _ _ _ _ _ _ _ _ _ (by omega) (by omega) (by omega) (by omega) (by omega)) (fun x101 b46 => ?_)
      have r47 := rgI (x88.1 + x101.1)
      have r48 := rgI x101.2.1
      have r49 := rgI x101.2.2.2.1
      have r50 := rgI x101.2.2.2.2.1
      have r51 := rgI x101.2.2.2.2.2
      exact sRet ⟨trivial⟩
    · have fh27 := eqF h27
      refine sIf (fun h52 => ?_) (fun h52 => ?_)
      · have fh52 := eqT h52
        have r53 := rgI sz_
        have r54 := rgI c0
        have r55 := rgI c1_
        have r56 := rgI c2_
        have r57 := rgI c3_
        have r58 := rgI c4
        have r59 := rgI c5
        have r60 := rgI p1
        have r61 := rgI (p2 - (1 : Int32))
        have r62 := rgI p3
        refine sBind (hrec _ _ _ _ _ _ _ _ _ _ _ _ (by omega) (by omega) (by omega) (by omega) (by omega)) (fun x116 b63 => ?_)
        have r64 := rgI x116.2.1
        have r65 := rgI x116.2.2.2.1
        have r66 := rgI x116.2.2.2.2.1
        have r67 := rgI x116.2.2.2.2.2
        have r68 := rgI (p1 - p2)
        refine sBind (hrec _ _ _ _ _ _ _ _ _ _ _ _ (by omega) (by omega) (by omega) (by omega) (by omega)) (fun x131 b69 => ?_)
        have r70 := rgI (x116.1 + x131.1)
        have r71 := rgI x131.2.1
        have r72 := rgI x131.2.2.2.1
        have r73 := rgI x131.2.2.2.2.1
        have r74 := rgI x131.2.2.2.2.2
        exact sRet ⟨trivial⟩
      · have fh52 := eqF h52
        refine sIf (fun h75 => ?_) (fun h75 => ?_)
        · have fh75 := eqT h75
          have r76 := rgI sz_
          have r77 := rgI c0
          have r78 := rgI c1_
          have r79 := rgI c2_
          have r80 := rgI c3_
          have r81 := rgI c4
          have r82 := rgI c5
          have r83 := rgI p1
          have r84 := rgI (p2 - (1 : Int32))
          have r85 := rgI p3
          refine sBind (hrec _ _ _ _ _ _ _ _ _ _ _ _ (by omega) (by omega) (by omega) (by omega) (by omega)) (fun x146 b86 => ?_)
          refine sIf (fun h87 => ?_) (fun h87 => ?_)
          · have r88 := rgI s0
            have fh87 := eqT h87
            have r90 := rgI x146.1
            have t89 := addI (a := x146.1) (b := (0 : Int32)) (by omega) (by omega)
            have r91 := rgI x146.2.1
            have r92 := rgI x146.2.2.2.1
            have r93 := rgI x146.2.2.2.2.1
            have r94 := rgI x146.2.2.2.2.2
            exact sRet ⟨trivial⟩
          · have r95 := rgI s0
            have fh87 := eqF h87
            have r96 := rgI x146.2.1
            have r97 := rgI x146.2.2.2.1
            have r98 := rgI x146.2.2.2.2.1
            have r99 := rgI x146.2.2.2.2.2
            have r100 := rgI (p1 - p2)
            have r101 := rgI p2
            refine sBind (hrec _ _ _ _ _ _ _ _ _ _ _ _ (by omega) (by omega) (by omega) (by omega) (by omega)) (fun x164 b102 => ?_)
            have r103 := rgI (x146.1 + x164.1)
            have r104 := rgI x164.2.1
            have r105 := rgI x164.2.2.2.1
            have r106 := rgI x164.2.2.2.2.1
            have r107 := rgI x164.2.2.2.2.2
            exact sRet ⟨trivial⟩
        · have fh75 := eqF h75
          refine sIf (fun h108 => ?_) (fun h108 => ?_)
          · have fh108 := eqT h108
            have r109 := rgI sz_
            have r110 := rgI c0
            have r111 := rgI c1_
            have r112 := rgI c2_
            have r113 := rgI c3_
            have r114 := rgI c4
            have r115 := rgI c5
            have r116 := rgI p1
            have r117 := rgI (p2 - (1 : Int32))
            have r118 := rgI p3
            refine sBind (hrec _ _ _ _ _ _ _ _ _ _ _ _ (by omega) (by omega) (by omega) (by omega) (by omega)) (fun x183 b119 => ?_)
            refine sIf (fun h120 => ?_) (fun h120 => ?_)
            · have r121 := rgI s0
              have fh120 := eqT h120
              have r123 := rgI x183.1
              have t122 := addI (a := x183.1) (b := (0 : Int32)) (by omega) (by omega)
              have r124 := rgI x183.2.1
              have r125 := rgI x183.2.2.2.1
              have r126 := rgI x183.2.2.2.2.1
              have r127 := rgI x183.2.2.2.2.2
              exact sRet ⟨trivial⟩
            · have r128 := rgI s0
              have fh120 := eqF h120
              have r129 := rgI x183.2.1
              have r130 := rgI x183.2.2.2.1
              have r131 := rgI x183.2.2.2.2.1
              have r132 := rgI x183.2.2.2.2.2
              have r133 := rgI (p1 - p2)
              refine sBind (hrec _ _ _ _ _ _ _ _ _ _ _ _ (by omega) (by omega) (by omega) (by omega) (by omega)) (fun x203 b134 => ?_)
              have r135 := rgI (x183.1 + x203.1)
              have r136 := rgI x203.2.1
              have r137 := rgI x203.2.2.2.1
              have r138 := rgI x203.2.2.2.2.1
              have r139 := rgI x203.2.2.2.2.2
              exact sRet ⟨trivial⟩
          · have fh108 := eqF h108
            have r140 := rgI sz_
            have r141 := rgI c0
            have r142 := rgI c1_
            have r143 := rgI c2_
            have r144 := rgI c3_
            have r145 := rgI c4
            have r146 := rgI c5
            have r147 := rgI (p1 - p2)
            have r148 := rgI p2
            have r149 := rgI p3
            refine sBind (hrec _ _ _ _ _ _ _ _ _ _ _ _ (by omega) (by omega) (by omega) (by omega) (by omega)) (fun x222 b150 => ?_)
            have r151 := rgI x222.2.1
            have r152 := rgI x222.2.2.2.1
            have r153 := rgI x222.2.2.2.2.1
            have r154 := rgI x222.2.2.2.2.2
            have r155 := rgI (p2 - (1 : Int32))
            refine sBind (hrec _ _ _ _ _ _ _ _ _ _ _ _ (by omega) (by omega) (by omega) (by omega) (by omega)) (fun x237 b156 => ?_)
            have r157 := rgI (x222.1 + x237.1)
            have r158 := rgI x237.2.1
            have r159 := rgI x237.2.2.2.1
            have r160 := rgI x237.2.2.2.2.1
            have r161 := rgI x237.2.2.2.2.2
            exact sRet ⟨trivial⟩
set_option maxHeartbeats 2000000 in
theorem s_X2_sumOfLegs {N K : Nat} {sz : Int32} {f : Nat → Int32} {c0 : Int32} {c1 : Int32} {c2 : Int32} {c3 : Int32} {c4 : Int32} {c5 : Int32} {p0 : Int32} {p1 : Int32} {p2 : Int32} {p3 : Int32} {rec : Int32 → (Nat → Int32) → Int32 → Int32 → Int32 → Int32 → Int32 → Int32 → Int32 → Int32 → Int32 → Int32 → Option (Int32 × Int32 × (Nat → Int32) × Int32 × Int32 × Int32)} {mr : Nat} (hrec : ∀ (sz : Int32) (f : Nat → Int32) (c0 : Int32) (c1 : Int32) (c2 : Int32) (c3 : Int32) (c4 : Int32) (c5 : Int32) (p0 : Int32) (p1 : Int32) (p2 : Int32) (p3 : Int32), (46 - p3.toInt).toNat < mr → 0 ≤ p0.toInt → p0.toInt ≤ 5 → 0 ≤ p3.toInt → p3.toInt ≤ 46 → Sf (rec sz f c0 c1 c2 c3 c4 c5 p0 p1 p2 p3) (fun (z : Int32 × Int32 × (Nat → Int32) × Int32 × Int32 × Int32) => True)) (hN : 2 ^ 40 ≤ N) (hK : 100 ≤ K) (hp0 : 0 ≤ p0.toInt) (hp1 : p0.toInt ≤ 5) (hp2 : 1 ≤ p1.toInt) (hp3 : 1 ≤ p3.toInt) (hp4 : p3.toInt ≤ 46) (hp5 : (46 - p3.toInt).toNat ≤ mr) : Sf (fX2_sumOfLegs N K rec sz f c0 c1 c2 c3 c4 c5 p0 p1 p2 p3) (fun (z : Int32 × Int32 × (Nat → Int32) × Int32 × Int32 × Int32) => True) := by
  unfold fX2_sumOfLegs
  have ql0 : (0 : Int32).toInt = 0 := by decide
  have ql1 : (1 : Int32).toInt = 1 := by decide
  have ql2 : (2 : Int32).toInt = 2 := by decide
  refine sIf (fun h1 => ?_) (fun h1 => ?_)
  · have t2 := modN (a := p2) (b := (2 : Int32)) ql2 (by omega)
    have fh1 := eqT h1
    have r3 := rgI sz
    have r4 := rgI c1
    have r5 := rgI c2
    have r6 := rgI c3
    exact s_X2_sumOfLegs_11 (hrec := hrec)  hN hK (by omega) (by omega) (by omega) (by omega) (by omega) (by omega) _ _ _ _ _ _ (by omega) (by omega) (by omega)
  · have t7 := modN (a := p2) (b := (2 : Int32)) ql2 (by omega)
    have fh1 := eqF h1
    have r8 := rgI sz
    have r9 := rgI c1
    have r10 := rgI c2
    have r11 := rgI c3
    exact s_X2_sumOfLegs_11 (hrec := hrec)  hN hK (by omega) (by omega) (by omega) (by omega) (by omega) (by omega) _ _ _ _ _ _ (by omega) (by omega) (by omega)
set_option maxHeartbeats 2000000 in
theorem s_X2_worthKnown {N K : Nat}  (hN : 2 ^ 40 ≤ N) (hK : 100 ≤ K)  : ∀ (fu : Nat) (sz : Int32) (f : (Nat → Int32)) (c0 : Int32) (c1 : Int32) (c2 : Int32) (c3 : Int32) (c4 : Int32) (c5 : Int32) (p0 : Int32) (p1 : Int32) (p2 : Int32) (p3 : Int32), (46 - p3.toInt).toNat < fu → 0 ≤ p0.toInt → p0.toInt ≤ 5 → 0 ≤ p3.toInt → p3.toInt ≤ 46 → Sf (fX2_worthKnown N K fu sz f c0 c1 c2 c3 c4 c5 p0 p1 p2 p3) (fun (z : Int32 × Int32 × (Nat → Int32) × Int32 × Int32 × Int32) => True) := by
  intro fu
  induction fu with
  | zero => intro sz f c0 c1 c2 c3 c4 c5 p0 p1 p2 p3 h0 hq0 hq1 hq2 hq3; omega
  | succ k ih =>
    intro sz f c0 c1 c2 c3 c4 c5 p0 p1 p2 p3 h0 hq0 hq1 hq2 hq3
    unfold fX2_worthKnown
    have qlm1 : (-1 : Int32).toInt = -1 := by decide
    have ql0 : (0 : Int32).toInt = 0 := by decide
    have ql1 : (1 : Int32).toInt = 1 := by decide
    have ql45 : (45 : Int32).toInt = 45 := by decide
    have r1 := rgI p1
    have r2 := rgI p2
    refine sBind (s_X5_rests hN hK) (fun x2 b3 => ?_)
    obtain ⟨b3_0, b3_1, b3_2, b3_3, -⟩ := b3
    replace b3_0 : 0 ≤ x2.toInt := b3_0
    replace b3_1 : x2.toInt ≤ 1 := b3_1
    replace b3_2 : (x2.toInt = 0 → (1 ≤ p1.toInt)) := b3_2
    replace b3_3 : (x2.toInt = 0 → p2.toInt ≠ 0) := b3_3
    refine sIf (fun h4 => ?_) (fun h4 => ?_)
    · have r5 := rgI x2
      have fh4 := eqT h4
      have r6 := rgI p0
      refine sBind (s_X2_slotOf hN hK (by omega) (by omega) (by omega)) (fun x18 b7 => ?_)
      obtain ⟨b7_0, b7_1, -⟩ := b7
      replace b7_0 : -1 ≤ x18.toInt := b7_0
      replace b7_1 : x18.toInt ≤ 2645 := b7_1
      refine sIf (fun h8 => ?_) (fun h8 => ?_)
      · have r9 := rgI x18
        have fh8 := eqT h8
        have r10 := rgI sz
        have r11 := rgI c1
        have r12 := rgI c2
        have r13 := rgI c3
        exact sRet ⟨trivial⟩
      · have r14 := rgI x18
        have fh8 := eqF h8
        refine sIf (fun h15 => ?_) (fun h15 => ?_)
        · have r16 := rgI p3
          have fh15 := leT h15
          refine sIfF (noob (by omega) (by omega)) ?_
          refine sIf (fun h17 => ?_) (fun h17 => ?_)
          · have r18 := rgI (f x18.toNatClampNeg)
            have fh17 := eqT h17
            have r19 := rgI sz
            have r20 := rgI c0
            have r21 := rgI (c1 + (1 : Int32))
            have r22 := rgI c2
            have r23 := rgI c3
            have r24 := rgI c4
            have r25 := rgI c5
            have t26 := addI (a := p3) (b := (1 : Int32)) (by omega) (by omega)
            refine sBind (s_X2_sumOfLegs (hrec := ih) hN hK (by omega) (by omega) (by omega) (by omega) (by omega) (by omega)) (fun x89 b27 => ?_)
            have r28 := rgI x89.2.1
            have r29 := rgI x89.1
            refine sBind (s_X2_keep hN hK (by omega) (by omega) (by omega)) (fun x100 b30 => ?_)
            have r31 := rgI x100.1
            have r32 := rgI x89.2.2.2.1
            have r33 := rgI (x89.2.2.2.2.1 + (1 : Int32))
            have r34 := rgI x89.2.2.2.2.2
            exact sRet ⟨trivial⟩
          · have r35 := rgI (f x18.toNatClampNeg)
            have fh17 := eqF h17
            refine sIfF (noob (by omega) (by omega)) ?_
            have r36 := rgI sz
            have r37 := rgI (c1 + (1 : Int32))
            have r38 := rgI c2
            have r39 := rgI (c3 + (1 : Int32))
            exact sRet ⟨trivial⟩
        · have r40 := rgI p3
          have fh15 := leF h15
          have r41 := rgI sz
          have r42 := rgI c1
          have r43 := rgI c2
          have r44 := rgI c3
          exact sRet ⟨trivial⟩
    · have r45 := rgI x2
      have fh4 := eqF h4
      have r46 := rgI p0
      refine sBind (s_X5_restingWorth hN hK (by omega) (by omega)) (fun x11 b47 => ?_)
      obtain ⟨b47_0, b47_1, -⟩ := b47
      replace b47_0 : 0 ≤ x11.toInt := b47_0
      replace b47_1 : x11.toInt ≤ 1 := b47_1
      have r48 := rgI x11
      have r49 := rgI sz
      have r50 := rgI c1
      have r51 := rgI c2
      have r52 := rgI c3
      exact sRet ⟨trivial⟩
set_option maxHeartbeats 2000000 in
theorem s_X2_recall {N K : Nat} {sz : Int32} {f : Nat → Int32} {c0 : Int32} {c1 : Int32} {c2 : Int32} {c3 : Int32} {c4 : Int32} {c5 : Int32} {p0 : Int32} {p1 : Int32} {p2 : Int32} (hN : 2 ^ 40 ≤ N) (hK : 100 ≤ K) (hp0 : 0 ≤ p0.toInt) (hp1 : p0.toInt ≤ 5) : Sf (fX2_recall N K sz f c0 c1 c2 c3 c4 c5 p0 p1 p2) (fun (z : Int32 × Int32 × (Nat → Int32) × Int32 × Int32 × Int32) => True) := by
  unfold fX2_recall
  have ql0 : (0 : Int32).toInt = 0 := by decide
  have r1 := rgI sz
  have r2 := rgI c0
  have r3 := rgI c1
  have r4 := rgI c2
  have r5 := rgI c3
  have r6 := rgI c4
  have r7 := rgI c5
  have r8 := rgI p0
  have r9 := rgI p1
  have r10 := rgI p2
  refine sBind (s_X2_worthKnown hN hK _ _ _ _ _ _ _ _ _ _ _ _ _ (by omega) (by omega) (by omega) (by omega) (by omega)) (fun x7 b11 => ?_)
  have r12 := rgI x7.1
  have r13 := rgI x7.2.1
  have r14 := rgI x7.2.2.2.1
  have r15 := rgI x7.2.2.2.2.1
  have r16 := rgI x7.2.2.2.2.2
  exact sRet ⟨trivial⟩
set_option maxHeartbeats 2000000 in
theorem s_X0_init {N K : Nat} {k0 : Int32} {k1 : Int32} {k2 : Int32} {k3 : Int32} {k4 : Int32} {k5 : Int32} (hN : 2 ^ 40 ≤ N) (hK : 100 ≤ K) (hp0 : 0 ≤ k0.toInt) (hp1 : k0.toInt ≤ 0) (hp2 : 0 ≤ k1.toInt) (hp3 : k1.toInt ≤ 0) (hp4 : 0 ≤ k2.toInt) (hp5 : k2.toInt ≤ 0) (hp6 : 0 ≤ k3.toInt) (hp7 : k3.toInt ≤ 0) (hp8 : 0 ≤ k4.toInt) (hp9 : k4.toInt ≤ 0) (hp10 : 0 ≤ k5.toInt) (hp11 : k5.toInt ≤ 0) : Sf (fX0_init N K k0 k1 k2 k3 k4 k5) (fun (z : Unit) => True) := by
  unfold fX0_init
  have ql0 : (0 : Int32).toInt = 0 := by decide
  exact sRet ⟨trivial⟩
set_option maxHeartbeats 2000000 in
theorem s_X4_init {N K : Nat}  (hN : 2 ^ 40 ≤ N) (hK : 100 ≤ K)  : Sf (fX4_init N K ) (fun (z : (Nat → Int32)) => True) := by
  unfold fX4_init
  have ql0 : (0 : Int32).toInt = 0 := by decide
  exact sRet ⟨trivial⟩
set_option maxHeartbeats 2000000 in
theorem s_X3_init {N K : Nat}  (hN : 2 ^ 40 ≤ N) (hK : 100 ≤ K)  : Sf (fX3_init N K ) (fun (z : (Nat → Int32)) => True) := by
  unfold fX3_init
  have ql0 : (0 : Int32).toInt = 0 := by decide
  exact sRet ⟨trivial⟩
set_option maxHeartbeats 2000000 in
theorem s_X2_init {N K : Nat} {sz : Int32} (hN : 2 ^ 40 ≤ N) (hK : 100 ≤ K) (hp0 : 0 ≤ sz.toInt) (hp1 : sz.toInt ≤ 0) : Sf (fX2_init N K sz) (fun (z : (Nat → Int32)) => True) := by
  unfold fX2_init
  have qlm1 : (-1 : Int32).toInt = -1 := by decide
  have ql0 : (0 : Int32).toInt = 0 := by decide
  refine sBind (s_J_fill hN hK (by omega) (by omega)) (fun x18 b1 => ?_)
  exact sRet ⟨trivial⟩
set_option maxHeartbeats 2000000 in
theorem s_X1_init {N K : Nat} {ru : Int32} {sz : Int32} {p0 : Int32} (hN : 2 ^ 40 ≤ N) (hK : 100 ≤ K) (hp0 : 0 ≤ ru.toInt) (hp1 : ru.toInt ≤ 0) (hp2 : 0 ≤ sz.toInt) (hp3 : sz.toInt ≤ 0) (hp4 : 0 ≤ p0.toInt) (hp5 : p0.toInt ≤ 2) : Sf (fX1_init N K ru sz p0) (fun (z : Int32 × (Nat → Int32)) => 0 ≤ z.1.toInt ∧ z.1.toInt ≤ 2 ∧ True) := by
  unfold fX1_init
  have qlm1 : (-1 : Int32).toInt = -1 := by decide
  have ql0 : (0 : Int32).toInt = 0 := by decide
  refine sBind (s_J_fill hN hK (by omega) (by omega)) (fun x22 b1 => ?_)
  have r2 := rgI p0
  exact sRet ⟨(by show 0 ≤ p0.toInt; omega), (by show p0.toInt ≤ 2; omega), trivial⟩
set_option maxHeartbeats 2000000 in
theorem s_X5_init {N K : Nat}  (hN : 2 ^ 40 ≤ N) (hK : 100 ≤ K)  : Sf (fX5_init N K ) (fun (z : Int32 × (Nat → Int32) × Int32 × (Nat → Int32) × Int32 × (Nat → Int32) × Int32 × Int32 × (Nat → Int32) × Int32 × Int32 × (Nat → Int32) × Int32 × Int32 × (Nat → Int32) × (Nat → Int32) × (Nat → Int32) × Int32 × Int32 × Int32 × Int32 × Int32 × Int32 × (Nat → Int32) × (Nat → Int32) × (Nat → Int32)) => 0 ≤ z.1.toInt ∧ z.1.toInt ≤ 0 ∧ 0 ≤ z.2.2.1.toInt ∧ z.2.2.1.toInt ≤ 0 ∧ 0 ≤ z.2.2.2.2.1.toInt ∧ z.2.2.2.2.1.toInt ≤ 0 ∧ 0 ≤ z.2.2.2.2.2.2.1.toInt ∧ z.2.2.2.2.2.2.1.toInt ≤ 2 ∧ 0 ≤ z.2.2.2.2.2.2.2.1.toInt ∧ z.2.2.2.2.2.2.2.1.toInt ≤ 0 ∧ 0 ≤ z.2.2.2.2.2.2.2.2.2.1.toInt ∧ z.2.2.2.2.2.2.2.2.2.1.toInt ≤ 2 ∧ 0 ≤ z.2.2.2.2.2.2.2.2.2.2.1.toInt ∧ z.2.2.2.2.2.2.2.2.2.2.1.toInt ≤ 0 ∧ 0 ≤ z.2.2.2.2.2.2.2.2.2.2.2.2.1.toInt ∧ z.2.2.2.2.2.2.2.2.2.2.2.2.1.toInt ≤ 2 ∧ 0 ≤ z.2.2.2.2.2.2.2.2.2.2.2.2.2.1.toInt ∧ z.2.2.2.2.2.2.2.2.2.2.2.2.2.1.toInt ≤ 0 ∧ 0 ≤ z.2.2.2.2.2.2.2.2.2.2.2.2.2.2.2.2.2.1.toInt ∧ z.2.2.2.2.2.2.2.2.2.2.2.2.2.2.2.2.2.1.toInt ≤ 0 ∧ 0 ≤ z.2.2.2.2.2.2.2.2.2.2.2.2.2.2.2.2.2.2.1.toInt ∧ z.2.2.2.2.2.2.2.2.2.2.2.2.2.2.2.2.2.2.1.toInt ≤ 0 ∧ 0 ≤ z.2.2.2.2.2.2.2.2.2.2.2.2.2.2.2.2.2.2.2.1.toInt ∧ z.2.2.2.2.2.2.2.2.2.2.2.2.2.2.2.2.2.2.2.1.toInt ≤ 0 ∧ 0 ≤ z.2.2.2.2.2.2.2.2.2.2.2.2.2.2.2.2.2.2.2.2.1.toInt ∧ z.2.2.2.2.2.2.2.2.2.2.2.2.2.2.2.2.2.2.2.2.1.toInt ≤ 0 ∧ 0 ≤ z.2.2.2.2.2.2.2.2.2.2.2.2.2.2.2.2.2.2.2.2.2.1.toInt ∧ z.2.2.2.2.2.2.2.2.2.2.2.2.2.2.2.2.2.2.2.2.2.1.toInt ≤ 0 ∧ 0 ≤ z.2.2.2.2.2.2.2.2.2.2.2.2.2.2.2.2.2.2.2.2.2.2.1.toInt ∧ z.2.2.2.2.2.2.2.2.2.2.2.2.2.2.2.2.2.2.2.2.2.2.1.toInt ≤ 0 ∧ True) := by
  unfold fX5_init
  have ql0 : (0 : Int32).toInt = 0 := by decide
  have ql1 : (1 : Int32).toInt = 1 := by decide
  have ql2 : (2 : Int32).toInt = 2 := by decide
  refine sBind (s_X2_init hN hK (by omega) (by omega)) (fun x32 b1 => ?_)
  refine sBind (s_X2_init hN hK (by omega) (by omega)) (fun x32_1 b2 => ?_)
  refine sBind (s_X2_init hN hK (by omega) (by omega)) (fun x32_2 b3 => ?_)
  refine sBind (s_X1_init hN hK (by omega) (by omega) (by omega) (by omega) (by omega) (by omega)) (fun x71 b4 => ?_)
  obtain ⟨b4_0, b4_1, -⟩ := b4
  replace b4_0 : 0 ≤ x71.1.toInt := b4_0
  replace b4_1 : x71.1.toInt ≤ 2 := b4_1
  refine sBind (s_X1_init hN hK (by omega) (by omega) (by omega) (by omega) (by omega) (by omega)) (fun x71_1 b5 => ?_)
  obtain ⟨b5_0, b5_1, -⟩ := b5
  replace b5_0 : 0 ≤ x71_1.1.toInt := b5_0
  replace b5_1 : x71_1.1.toInt ≤ 2 := b5_1
  refine sBind (s_X1_init hN hK (by omega) (by omega) (by omega) (by omega) (by omega) (by omega)) (fun x71_2 b6 => ?_)
  obtain ⟨b6_0, b6_1, -⟩ := b6
  replace b6_0 : 0 ≤ x71_2.1.toInt := b6_0
  replace b6_1 : x71_2.1.toInt ≤ 2 := b6_1
  refine sBind (s_X4_init hN hK) (fun x109 b7 => ?_)
  refine sBind (s_X4_init hN hK) (fun x109_1 b8 => ?_)
  refine sBind (s_X0_init hN hK (by omega) (by omega) (by omega) (by omega) (by omega) (by omega) (by omega) (by omega) (by omega) (by omega) (by omega) (by omega)) (fun x124 b9 => ?_)
  refine sBind (s_X3_init hN hK) (fun x135 b10 => ?_)
  refine sBind (s_X4_init hN hK) (fun x146 b11 => ?_)
  refine sBind (s_X4_init hN hK) (fun x157 b12 => ?_)
  have r13 := rgI x71.1
  have r14 := rgI x71_1.1
  have r15 := rgI x71_2.1
  exact sRet ⟨(by show 0 ≤ (0 : Int32).toInt; omega), (by show (0 : Int32).toInt ≤ 0; omega), (by show 0 ≤ (0 : Int32).toInt; omega), (by show (0 : Int32).toInt ≤ 0; omega), (by show 0 ≤ (0 : Int32).toInt; omega), (by show (0 : Int32).toInt ≤ 0; omega), (by show 0 ≤ x71.1.toInt; omega), (by show x71.1.toInt ≤ 2; omega), (by show 0 ≤ (0 : Int32).toInt; omega), (by show (0 : Int32).toInt ≤ 0; omega), (by show 0 ≤ x71_1.1.toInt; omega), (by show x71_1.1.toInt ≤ 2; omega), (by show 0 ≤ (0 : Int32).toInt; omega), (by show (0 : Int32).toInt ≤ 0; omega), (by show 0 ≤ x71_2.1.toInt; omega), (by show x71_2.1.toInt ≤ 2; omega), (by show 0 ≤ (0 : Int32).toInt; omega), (by show (0 : Int32).toInt ≤ 0; omega), (by show 0 ≤ (0 : Int32).toInt; omega), (by show (0 : Int32).toInt ≤ 0; omega), (by show 0 ≤ (0 : Int32).toInt; omega), (by show (0 : Int32).toInt ≤ 0; omega), (by show 0 ≤ (0 : Int32).toInt; omega), (by show (0 : Int32).toInt ≤ 0; omega), (by show 0 ≤ (0 : Int32).toInt; omega), (by show (0 : Int32).toInt ≤ 0; omega), (by show 0 ≤ (0 : Int32).toInt; omega), (by show (0 : Int32).toInt ≤ 0; omega), (by show 0 ≤ (0 : Int32).toInt; omega), (by show (0 : Int32).toInt ≤ 0; omega), trivial⟩
set_option maxHeartbeats 2000000 in
theorem s_X5_memoryAt_13 {N K : Nat} {p0 : Int32} (hN : 2 ^ 40 ≤ N) (hK : 100 ≤ K)  : Sf (fX5_memoryAt_13 N K p0  ) (xP true false (fun (z : Unit) => (0 ≤ p0.toInt ∧ p0.toInt ≤ 2) ∧ True)) := by
  unfold fX5_memoryAt_13
  have ql0 : (0 : Int32).toInt = 0 := by decide
  exact sX1
set_option maxHeartbeats 2000000 in
theorem s_X5_memoryAt {N K : Nat} {p0 : Int32} (hN : 2 ^ 40 ≤ N) (hK : 100 ≤ K)  : Sf (fX5_memoryAt N K p0) (xP true false (fun (z : Unit) => (0 ≤ p0.toInt ∧ p0.toInt ≤ 2) ∧ True)) := by
  unfold fX5_memoryAt
  have ql0 : (0 : Int32).toInt = 0 := by decide
  have ql3 : (3 : Int32).toInt = 3 := by decide
  refine sIf (fun h1 => ?_) (fun h1 => ?_)
  · have r2 := rgI p0
    have fh1 := ltT h1
    exact s_X5_memoryAt_13  hN hK 
  · have r3 := rgI p0
    have fh1 := ltF h1
    refine sIf (fun h4 => ?_) (fun h4 => ?_)
    · have fh4 := ltT h4
      refine sIfF (noob (by omega) (by omega)) ?_
      exact sXl ⟨(by show (0 ≤ p0.toInt ∧ p0.toInt ≤ 2); omega), trivial⟩
    · have fh4 := ltF h4
      exact s_X5_memoryAt_13  hN hK 
set_option maxHeartbeats 2000000 in
theorem s_X5_ledgerAt_13 {N K : Nat} {p0 : Int32} (hN : 2 ^ 40 ≤ N) (hK : 100 ≤ K)  : Sf (fX5_ledgerAt_13 N K p0  ) (xP true false (fun (z : Unit) => (0 ≤ p0.toInt ∧ p0.toInt ≤ 2) ∧ True)) := by
  unfold fX5_ledgerAt_13
  have ql0 : (0 : Int32).toInt = 0 := by decide
  exact sX1
set_option maxHeartbeats 2000000 in
theorem s_X5_ledgerAt {N K : Nat} {p0 : Int32} (hN : 2 ^ 40 ≤ N) (hK : 100 ≤ K)  : Sf (fX5_ledgerAt N K p0) (xP true false (fun (z : Unit) => (0 ≤ p0.toInt ∧ p0.toInt ≤ 2) ∧ True)) := by
  unfold fX5_ledgerAt
  have ql0 : (0 : Int32).toInt = 0 := by decide
  have ql3 : (3 : Int32).toInt = 3 := by decide
  refine sIf (fun h1 => ?_) (fun h1 => ?_)
  · have r2 := rgI p0
    have fh1 := ltT h1
    exact s_X5_ledgerAt_13  hN hK 
  · have r3 := rgI p0
    have fh1 := ltF h1
    refine sIf (fun h4 => ?_) (fun h4 => ?_)
    · have fh4 := ltT h4
      refine sIfF (noob (by omega) (by omega)) ?_
      exact sXl ⟨(by show (0 ≤ p0.toInt ∧ p0.toInt ≤ 2); omega), trivial⟩
    · have fh4 := ltF h4
      exact s_X5_ledgerAt_13  hN hK 
set_option maxHeartbeats 2000000 in
theorem s_X5_deskAt_13 {N K : Nat} {p0 : Int32} (hN : 2 ^ 40 ≤ N) (hK : 100 ≤ K)  : Sf (fX5_deskAt_13 N K p0  ) (xP true false (fun (z : Unit) => (0 ≤ p0.toInt ∧ p0.toInt ≤ 1) ∧ True)) := by
  unfold fX5_deskAt_13
  have ql0 : (0 : Int32).toInt = 0 := by decide
  exact sX1
set_option maxHeartbeats 2000000 in
theorem s_X5_deskAt {N K : Nat} {p0 : Int32} (hN : 2 ^ 40 ≤ N) (hK : 100 ≤ K)  : Sf (fX5_deskAt N K p0) (xP true false (fun (z : Unit) => (0 ≤ p0.toInt ∧ p0.toInt ≤ 1) ∧ True)) := by
  unfold fX5_deskAt
  have ql0 : (0 : Int32).toInt = 0 := by decide
  have ql2 : (2 : Int32).toInt = 2 := by decide
  refine sIf (fun h1 => ?_) (fun h1 => ?_)
  · have r2 := rgI p0
    have fh1 := ltT h1
    exact s_X5_deskAt_13  hN hK 
  · have r3 := rgI p0
    have fh1 := ltF h1
    refine sIf (fun h4 => ?_) (fun h4 => ?_)
    · have fh4 := ltT h4
      refine sIfF (noob (by omega) (by omega)) ?_
      exact sXl ⟨(by show (0 ≤ p0.toInt ∧ p0.toInt ≤ 1); omega), trivial⟩
    · have fh4 := ltF h4
      exact s_X5_deskAt_13  hN hK 
set_option maxHeartbeats 2000000 in
theorem s_X5_checkRange_10 {N K : Nat} {p0 : Int32} {p1 : Int32} {p2 : Int32} (hN : 2 ^ 40 ≤ N) (hK : 100 ≤ K) (hp0 : 0 ≤ p1.toInt) (hp1 : p1.toInt ≤ 1) (hp2 : 1 ≤ p2.toInt) (hp3 : p2.toInt ≤ 20) : Sf (fX5_checkRange_10 N K p0 p1 p2  ) (xP false true (fun (z : Unit) => (p1.toInt ≤ p0.toInt ∧ p0.toInt ≤ p2.toInt) ∧ True)) := by
  unfold fX5_checkRange_10
  have ql0 : (0 : Int32).toInt = 0 := by decide
  exact sX2
set_option maxHeartbeats 2000000 in
theorem s_X5_checkRange {N K : Nat} {p0 : Int32} {p1 : Int32} {p2 : Int32} (hN : 2 ^ 40 ≤ N) (hK : 100 ≤ K) (hp0 : 0 ≤ p1.toInt) (hp1 : p1.toInt ≤ 1) (hp2 : 1 ≤ p2.toInt) (hp3 : p2.toInt ≤ 20) : Sf (fX5_checkRange N K p0 p1 p2) (xP false true (fun (z : Unit) => (p1.toInt ≤ p0.toInt ∧ p0.toInt ≤ p2.toInt) ∧ True)) := by
  unfold fX5_checkRange
  have ql0 : (0 : Int32).toInt = 0 := by decide
  refine sIf (fun h1 => ?_) (fun h1 => ?_)
  · have r2 := rgI p0
    have r3 := rgI p1
    have fh1 := ltT h1
    exact s_X5_checkRange_10  hN hK (by omega) (by omega) (by omega) (by omega) 
  · have r4 := rgI p0
    have r5 := rgI p1
    have fh1 := ltF h1
    refine sIf (fun h6 => ?_) (fun h6 => ?_)
    · have r7 := rgI p2
      have fh6 := leT h6
      exact sXl ⟨(by show (p1.toInt ≤ p0.toInt ∧ p0.toInt ≤ p2.toInt); omega), trivial⟩
    · have r8 := rgI p2
      have fh6 := leF h6
      exact s_X5_checkRange_10  hN hK (by omega) (by omega) (by omega) (by omega) 
set_option maxHeartbeats 2000000 in
theorem s_X5_checkCase {N K : Nat} {p0 : Int32} {p1 : Int32} {p2 : Int32} (hN : 2 ^ 40 ≤ N) (hK : 100 ≤ K)  : Sf (fX5_checkCase N K p0 p1 p2) (xP false true (fun (z : Unit) => (0 ≤ p0.toInt ∧ p0.toInt ≤ 5) ∧ (0 ≤ p1.toInt ∧ p1.toInt ≤ 20) ∧ (0 ≤ p2.toInt ∧ p2.toInt ≤ 20) ∧ True)) := by
  unfold fX5_checkCase
  have ql0 : (0 : Int32).toInt = 0 := by decide
  have ql5 : (5 : Int32).toInt = 5 := by decide
  have ql20 : (20 : Int32).toInt = 20 := by decide
  have r1 := rgI p0
  refine sXb (s_X5_checkRange hN hK (by omega) (by omega) (by omega) (by omega)) (by decide) (by decide) (fun x3 b2 => ?_)
  obtain ⟨b2_0, -⟩ := b2
  replace b2_0 : ((0 : Int32).toInt ≤ p0.toInt ∧ p0.toInt ≤ (5 : Int32).toInt) := b2_0
  have r3 := rgI p1
  refine sXb (s_X5_checkRange hN hK (by omega) (by omega) (by omega) (by omega)) (by decide) (by decide) (fun x10 b4 => ?_)
  obtain ⟨b4_0, -⟩ := b4
  replace b4_0 : ((0 : Int32).toInt ≤ p1.toInt ∧ p1.toInt ≤ (20 : Int32).toInt) := b4_0
  have r5 := rgI p2
  refine sXb (s_X5_checkRange hN hK (by omega) (by omega) (by omega) (by omega)) (by decide) (by decide) (fun x17 b6 => ?_)
  obtain ⟨b6_0, -⟩ := b6
  replace b6_0 : ((0 : Int32).toInt ≤ p2.toInt ∧ p2.toInt ≤ (20 : Int32).toInt) := b6_0
  exact sXl ⟨(by show (0 ≤ p0.toInt ∧ p0.toInt ≤ 5); omega), (by show (0 ≤ p1.toInt ∧ p1.toInt ≤ 20); omega), (by show (0 ≤ p2.toInt ∧ p2.toInt ≤ 20); omega), trivial⟩
set_option maxHeartbeats 2000000 in
theorem s_X5_checkAnyCase {N K : Nat} {p0 : Int32} {p1 : Int32} {p2 : Int32} (hN : 2 ^ 40 ≤ N) (hK : 100 ≤ K)  : Sf (fX5_checkAnyCase N K p0 p1 p2) (xP false true (fun (z : Unit) => (0 ≤ p0.toInt ∧ p0.toInt ≤ 7) ∧ (0 ≤ p1.toInt ∧ p1.toInt ≤ 20) ∧ (0 ≤ p2.toInt ∧ p2.toInt ≤ 20) ∧ True)) := by
  unfold fX5_checkAnyCase
  have ql0 : (0 : Int32).toInt = 0 := by decide
  have ql7 : (7 : Int32).toInt = 7 := by decide
  have ql20 : (20 : Int32).toInt = 20 := by decide
  have r1 := rgI p0
  refine sXb (s_X5_checkRange hN hK (by omega) (by omega) (by omega) (by omega)) (by decide) (by decide) (fun x4 b2 => ?_)
  obtain ⟨b2_0, -⟩ := b2
  replace b2_0 : ((0 : Int32).toInt ≤ p0.toInt ∧ p0.toInt ≤ (7 : Int32).toInt) := b2_0
  have r3 := rgI p1
  refine sXb (s_X5_checkRange hN hK (by omega) (by omega) (by omega) (by omega)) (by decide) (by decide) (fun x11 b4 => ?_)
  obtain ⟨b4_0, -⟩ := b4
  replace b4_0 : ((0 : Int32).toInt ≤ p1.toInt ∧ p1.toInt ≤ (20 : Int32).toInt) := b4_0
  have r5 := rgI p2
  refine sXb (s_X5_checkRange hN hK (by omega) (by omega) (by omega) (by omega)) (by decide) (by decide) (fun x18 b6 => ?_)
  obtain ⟨b6_0, -⟩ := b6
  replace b6_0 : ((0 : Int32).toInt ≤ p2.toInt ∧ p2.toInt ≤ (20 : Int32).toInt) := b6_0
  exact sXl ⟨(by show (0 ≤ p0.toInt ∧ p0.toInt ≤ 7); omega), (by show (0 ≤ p1.toInt ∧ p1.toInt ≤ 20); omega), (by show (0 ≤ p2.toInt ∧ p2.toInt ≤ 20); omega), trivial⟩
set_option maxHeartbeats 2000000 in
theorem s_X5_acted {N K : Nat} {c0 : Int32} {c1 : Int32} {c2 : Int32} {c3 : Int32} {c4 : Int32} {c5 : Int32} {p0 : Int32} (hN : 2 ^ 40 ≤ N) (hK : 100 ≤ K)  : Sf (fX5_acted N K c0 c1 c2 c3 c4 c5 p0) (fun (z : Int32 × Int32) => True) := by
  unfold fX5_acted
  have ql0 : (0 : Int32).toInt = 0 := by decide
  have r1 := rgI p0
  have r2 := rgI (c0 + (1 : Int32))
  exact sRet ⟨trivial⟩
set_option maxHeartbeats 2000000 in
theorem s_X5_undone {N K : Nat} {c0 : Int32} {c1 : Int32} {c2 : Int32} {c3 : Int32} {c4 : Int32} {c5 : Int32} (hN : 2 ^ 40 ≤ N) (hK : 100 ≤ K)  : Sf (fX5_undone N K c0 c1 c2 c3 c4 c5) (fun (z : Int32 × Int32) => -9 ≤ z.1.toInt ∧ z.1.toInt ≤ -9 ∧ True) := by
  unfold fX5_undone
  have qlm9 : (-9 : Int32).toInt = -9 := by decide
  have ql0 : (0 : Int32).toInt = 0 := by decide
  have r1 := rgI (c4 + (1 : Int32))
  exact sRet ⟨(by show -9 ≤ (-9 : Int32).toInt; omega), (by show (-9 : Int32).toInt ≤ -9; omega), trivial⟩
set_option maxHeartbeats 2000000 in
theorem s_X5_waysOneByOne_41 {N K : Nat} {fw : Nat → Int32} {fs : Nat → Int32} {p0 : Int32} {p1 : Int32} {p2 : Int32} (hN : 2 ^ 40 ≤ N) (hK : 100 ≤ K) (hp0 : 0 ≤ p0.toInt) (hp1 : p0.toInt ≤ 7) (hp2 : 0 ≤ p1.toInt) (hp3 : p1.toInt ≤ 20) (hp4 : 0 ≤ p2.toInt) (hp5 : p2.toInt ≤ 20) {k_14 : Int32 → Int32 → (Nat → Int32) → (Nat → Int32) → Option (Int32 × (Nat → Int32) × (Nat → Int32))} {m_14 : Nat} (hk_14 : ∀ (l4 : Int32) (l5 : Int32) (fw_ : (Nat → Int32)) (fs_ : (Nat → Int32)), (2147483647 - l5.toInt).toNat < m_14 → 0 ≤ l5.toInt → Sf (k_14 l4 l5 fw_ fs_) (fun (z : Int32 × (Nat → Int32) × (Nat → Int32)) => True)) : ∀ (l4 : Int32) (l5 : Int32) (fw_ : Nat → Int32) (fs_ : Nat → Int32), 0 ≤ l5.toInt → l5.toInt ≤ 1000000 → (2147483647 - l5.toInt).toNat ≤ m_14 → Sf (fX5_waysOneByOne_41 N K fw fs p0 p1 p2 k_14 l4 l5 fw_ fs_) (fun (z : Int32 × (Nat → Int32) × (Nat → Int32)) => True) := by
  intro l4 l5 fw_ fs_ hq0 hq1 hq2
  unfold fX5_waysOneByOne_41
  have ql0 : (0 : Int32).toInt = 0 := by decide
  have ql1 : (1 : Int32).toInt = 1 := by decide
  refine sBind (s_X4_stepOn hN hK) (fun x45 b1 => ?_)
  obtain ⟨b1_0, b1_1, -⟩ := b1
  replace b1_0 : 0 ≤ x45.1.toInt := b1_0
  replace b1_1 : x45.1.toInt ≤ 1 := b1_1
  refine sIf (fun h2 => ?_) (fun h2 => ?_)
  · have r3 := rgI x45.1
    have fh2 := eqT h2
    have r4 := rgI l4
    exact sRet ⟨trivial⟩
  · have r5 := rgI x45.1
    have fh2 := eqF h2
    have r6 := rgI l4
    have r8 := rgI l5
    have t7 := addI (a := l5) (b := (1 : Int32)) (by omega) (by omega)
    exact hk_14 _ _ _ _ (by omega) (by omega)
set_option maxHeartbeats 2000000 in
theorem s_X5_waysOneByOne_14 {N K : Nat} {fw : Nat → Int32} {fs : Nat → Int32} {p0 : Int32} {p1 : Int32} {p2 : Int32} (hN : 2 ^ 40 ≤ N) (hK : 100 ≤ K) (hp0 : 0 ≤ p0.toInt) (hp1 : p0.toInt ≤ 7) (hp2 : 0 ≤ p1.toInt) (hp3 : p1.toInt ≤ 20) (hp4 : 0 ≤ p2.toInt) (hp5 : p2.toInt ≤ 20) : ∀ (fu : Nat) (l4 : Int32) (l5 : Int32) (fw_ : (Nat → Int32)) (fs_ : (Nat → Int32)), (2147483647 - l5.toInt).toNat < fu → 0 ≤ l5.toInt → Sf (fX5_waysOneByOne_14 N K fw fs p0 p1 p2  fu l4 l5 fw_ fs_) (fun (z : Int32 × (Nat → Int32) × (Nat → Int32)) => True) := by
  intro fu
  induction fu with
  | zero => intro l4 l5 fw_ fs_ h0 hq0; omega
  | succ fu ih =>
    intro l4 l5 fw_ fs_ h0 hq0
    unfold fX5_waysOneByOne_14
    have ql0 : (0 : Int32).toInt = 0 := by decide
    have ql1000000 : (1000000 : Int32).toInt = 1000000 := by decide
    refine sIf (fun h1 => ?_) (fun h1 => ?_)
    · have r2 := rgI l5
      have fh1 := leT h1
      have r3 := rgI l4
      exact sRet ⟨trivial⟩
    · have r4 := rgI l5
      have fh1 := leF h1
      have r5 := rgI p0
      have r6 := rgI p2
      refine sBind (s_X4_isOfKind hN hK (by omega) (by omega) (by omega) (by omega)) (fun x32 b7 => ?_)
      obtain ⟨b7_0, b7_1, -⟩ := b7
      replace b7_0 : 0 ≤ x32.1.toInt := b7_0
      replace b7_1 : x32.1.toInt ≤ 1 := b7_1
      refine sIf (fun h8 => ?_) (fun h8 => ?_)
      · have r9 := rgI x32.1
        have fh8 := eqT h8
        have r10 := rgI l4
        exact s_X5_waysOneByOne_41 (hk_14 := ih) hN hK (by omega) (by omega) (by omega) (by omega) (by omega) (by omega) _ _ _ _ (by omega) (by omega) (by omega)
      · have r11 := rgI x32.1
        have fh8 := eqF h8
        have r12 := rgI (l4 + (1 : Int32))
        exact s_X5_waysOneByOne_41 (hk_14 := ih) hN hK (by omega) (by omega) (by omega) (by omega) (by omega) (by omega) _ _ _ _ (by omega) (by omega) (by omega)
set_option maxHeartbeats 2000000 in
theorem s_X5_waysOneByOne {N K : Nat} {fw : Nat → Int32} {fs : Nat → Int32} {p0 : Int32} {p1 : Int32} {p2 : Int32} (hN : 2 ^ 40 ≤ N) (hK : 100 ≤ K) (hp0 : 0 ≤ p0.toInt) (hp1 : p0.toInt ≤ 7) (hp2 : 0 ≤ p1.toInt) (hp3 : p1.toInt ≤ 20) (hp4 : 0 ≤ p2.toInt) (hp5 : p2.toInt ≤ 20) : Sf (fX5_waysOneByOne N K fw fs p0 p1 p2) (fun (z : Int32 × (Nat → Int32) × (Nat → Int32)) => True) := by
  unfold fX5_waysOneByOne
  have ql0 : (0 : Int32).toInt = 0 := by decide
  have r1 := rgI p1
  refine sBind (s_X4_becomeFirst hN hK (by omega) (by omega)) (fun x5 b2 => ?_)
  exact s_X5_waysOneByOne_14  hN hK (by omega) (by omega) (by omega) (by omega) (by omega) (by omega) _ _ _ _ _ (by omega) (by omega)
set_option maxHeartbeats 2000000 in
theorem s_X5_know {N K : Nat} {sz : Int32} {f : Nat → Int32} {c0 : Int32} {c1 : Int32} {c2 : Int32} {c3 : Int32} {c4 : Int32} {c5 : Int32} {p0 : Int32} {p1 : Int32} {p2 : Int32} {p3 : Int32} (hN : 2 ^ 40 ≤ N) (hK : 100 ≤ K)  : Sf (fX5_know N K sz f c0 c1 c2 c3 c4 c5 p0 p1 p2 p3) (xP true true (fun (z : Int32 × Int32 × (Nat → Int32) × Int32 × Int32 × Int32 × Int32) => True)) := by
  unfold fX5_know
  have ql0 : (0 : Int32).toInt = 0 := by decide
  have r1 := rgI p0
  refine sXb (s_X5_memoryAt hN hK) (by decide) (by decide) (fun x2 b2 => ?_)
  obtain ⟨b2_0, -⟩ := b2
  replace b2_0 : (0 ≤ p0.toInt ∧ p0.toInt ≤ 2) := b2_0
  have r3 := rgI p1
  have r4 := rgI p2
  have r5 := rgI p3
  refine sXb (s_X5_checkCase hN hK) (by decide) (by decide) (fun x11 b6 => ?_)
  obtain ⟨b6_0, b6_1, b6_2, -⟩ := b6
  replace b6_0 : (0 ≤ p1.toInt ∧ p1.toInt ≤ 5) := b6_0
  replace b6_1 : (0 ≤ p2.toInt ∧ p2.toInt ≤ 20) := b6_1
  replace b6_2 : (0 ≤ p3.toInt ∧ p3.toInt ≤ 20) := b6_2
  have r7 := rgI sz
  have r8 := rgI c0
  have r9 := rgI c1
  have r10 := rgI c2
  have r11 := rgI c3
  have r12 := rgI c4
  have r13 := rgI c5
  refine sBind (s_X2_recall hN hK (by omega) (by omega)) (fun x25 b14 => ?_)
  have r15 := rgI x25.2.2.2.1
  have r16 := rgI x25.2.2.2.2.1
  have r17 := rgI x25.2.2.2.2.2
  have r18 := rgI x25.1
  refine sBind (s_X5_acted hN hK) (fun x28 b19 => ?_)
  have r20 := rgI x28.1
  have r21 := rgI x25.2.1
  have r22 := rgI x28.2
  exact sXl ⟨trivial⟩
set_option maxHeartbeats 2000000 in
theorem s_X5_few_27 {N K : Nat} {sz : Int32} {f : Nat → Int32} {c0 : Int32} {c1 : Int32} {c2 : Int32} {c3 : Int32} {c4 : Int32} {c5 : Int32} {p0 : Int32} {p1 : Int32} {p2 : Int32} (hN : 2 ^ 40 ≤ N) (hK : 100 ≤ K)  : ∀ (fu : Nat) (l5 : Int32) (l6 : Int32) (sz_ : Int32) (f_ : (Nat → Int32)) (c0_ : Int32) (c1_ : Int32) (c2_ : Int32) (c3_ : Int32), (21 - l6.toInt).toNat < fu → 0 ≤ p0.toInt → p0.toInt ≤ 2 → 0 ≤ p1.toInt → p1.toInt ≤ 20 → 0 ≤ p2.toInt → p2.toInt ≤ 20 → 0 ≤ l6.toInt → l6.toInt ≤ 21 → Sf (fX5_few_27 N K sz f c0 c1 c2 c3 c4 c5 p0 p1 p2  fu l5 l6 sz_ f_ c0_ c1_ c2_ c3_) (xP true true (fun (z : Int32 × Int32 × (Nat → Int32) × Int32 × Int32 × Int32 × Int32) => True)) := by
  intro fu
  induction fu with
  | zero => intro l5 l6 sz_ f_ c0_ c1_ c2_ c3_ h0 hq0 hq1 hq2 hq3 hq4 hq5 hq6 hq7; omega
  | succ fu ih =>
    intro l5 l6 sz_ f_ c0_ c1_ c2_ c3_ h0 hq0 hq1 hq2 hq3 hq4 hq5 hq6 hq7
    unfold fX5_few_27
    have ql0 : (0 : Int32).toInt = 0 := by decide
    have ql1 : (1 : Int32).toInt = 1 := by decide
    refine sIf (fun h1 => ?_) (fun h1 => ?_)
    · have r2 := rgI p2
      have r3 := rgI l6
      have fh1 := ltT h1
      have r4 := rgI c0_
      have r5 := rgI c1_
      have r6 := rgI c2_
      have r7 := rgI c3_
      have r8 := rgI c4
      have r9 := rgI c5
      have r10 := rgI l5
      refine sBind (s_X5_acted hN hK) (fun x60 b11 => ?_)
      have r12 := rgI x60.1
      have r13 := rgI sz_
      have r14 := rgI x60.2
      exact sXl ⟨trivial⟩
    · have r15 := rgI p2
      have r16 := rgI l6
      have fh1 := ltF h1
      have r17 := rgI sz_
      have r18 := rgI c0_
      have r19 := rgI c1_
      have r20 := rgI c2_
      have r21 := rgI c3_
      have r22 := rgI c4
      have r23 := rgI c5
      have r24 := rgI p1
      refine sBind (s_X2_recall hN hK (by omega) (by omega)) (fun x45 b25 => ?_)
      have r26 := rgI (l5 + x45.1)
      have t27 := addI (a := l6) (b := (1 : Int32)) (by omega) (by omega)
      have r28 := rgI x45.2.1
      have r29 := rgI x45.2.2.2.1
      have r30 := rgI x45.2.2.2.2.1
      have r31 := rgI x45.2.2.2.2.2
      exact ih _ _ _ _ _ _ _ _ (by omega) (by omega) (by omega) (by omega) (by omega) (by omega) (by omega) (by omega) (by omega)
set_option maxHeartbeats 2000000 in
theorem s_X5_few {N K : Nat} {sz : Int32} {f : Nat → Int32} {c0 : Int32} {c1 : Int32} {c2 : Int32} {c3 : Int32} {c4 : Int32} {c5 : Int32} {p0 : Int32} {p1 : Int32} {p2 : Int32} (hN : 2 ^ 40 ≤ N) (hK : 100 ≤ K)  : Sf (fX5_few N K sz f c0 c1 c2 c3 c4 c5 p0 p1 p2) (xP true true (fun (z : Int32 × Int32 × (Nat → Int32) × Int32 × Int32 × Int32 × Int32) => True)) := by
  unfold fX5_few
  have ql0 : (0 : Int32).toInt = 0 := by decide
  have ql20 : (20 : Int32).toInt = 20 := by decide
  have r1 := rgI p0
  refine sXb (s_X5_memoryAt hN hK) (by decide) (by decide) (fun x2 b2 => ?_)
  obtain ⟨b2_0, -⟩ := b2
  replace b2_0 : (0 ≤ p0.toInt ∧ p0.toInt ≤ 2) := b2_0
  have r3 := rgI p1
  refine sXb (s_X5_checkRange hN hK (by omega) (by omega) (by omega) (by omega)) (by decide) (by decide) (fun x11 b4 => ?_)
  obtain ⟨b4_0, -⟩ := b4
  replace b4_0 : ((0 : Int32).toInt ≤ p1.toInt ∧ p1.toInt ≤ (20 : Int32).toInt) := b4_0
  have r5 := rgI p2
  refine sXb (s_X5_checkRange hN hK (by omega) (by omega) (by omega) (by omega)) (by decide) (by decide) (fun x18 b6 => ?_)
  obtain ⟨b6_0, -⟩ := b6
  replace b6_0 : ((0 : Int32).toInt ≤ p2.toInt ∧ p2.toInt ≤ (20 : Int32).toInt) := b6_0
  have r7 := rgI sz
  have r8 := rgI c0
  have r9 := rgI c1
  have r10 := rgI c2
  have r11 := rgI c3
  exact s_X5_few_27  hN hK _ _ _ _ _ _ _ _ _ (by omega) (by omega) (by omega) (by omega) (by omega) (by omega) (by omega) (by omega) (by omega)
set_option maxHeartbeats 2000000 in
theorem s_X5_surplus_56 {N K : Nat} {sz : Int32} {f : Nat → Int32} {c0 : Int32} {c1 : Int32} {c2 : Int32} {c3 : Int32} {c4 : Int32} {c5 : Int32} {p0 : Int32} {p1 : Int32} (hN : 2 ^ 40 ≤ N) (hK : 100 ≤ K)  {k_19 : Int32 → Int32 → Int32 → (Nat → Int32) → Int32 → Int32 → Int32 → Int32 → Option ((Int32 × Int32 × (Nat → Int32) × Int32 × Int32 × Int32 × Int32) ⊕ String)} {m_19 : Nat} (hk_19 : ∀ (l4 : Int32) (l5 : Int32) (sz_ : Int32) (f_ : (Nat → Int32)) (c0_ : Int32) (c1_ : Int32) (c2_ : Int32) (c3_ : Int32), (21 - l5.toInt).toNat < m_19 → 0 ≤ p0.toInt → p0.toInt ≤ 2 → 0 ≤ p1.toInt → p1.toInt ≤ 20 → 0 ≤ l5.toInt → l5.toInt ≤ 21 → Sf (k_19 l4 l5 sz_ f_ c0_ c1_ c2_ c3_) (xP true true (fun (z : Int32 × Int32 × (Nat → Int32) × Int32 × Int32 × Int32 × Int32) => True))) : ∀ (l5 : Int32) (s0 : Int32) (s1 : Int32) (sz_ : Int32) (f_ : Nat → Int32) (c0_ : Int32) (c1_ : Int32) (c2_ : Int32) (c3_ : Int32), 0 ≤ p0.toInt → p0.toInt ≤ 2 → 0 ≤ p1.toInt → p1.toInt ≤ 20 → 0 ≤ l5.toInt → l5.toInt ≤ 20 → (s0.toInt = 0 → 0 ≤ p0.toInt ∧ p0.toInt ≤ 2 ∧ 0 ≤ p1.toInt ∧ p1.toInt ≤ 20) → (s1.toInt = 0 → 0 ≤ p0.toInt ∧ p0.toInt ≤ 2 ∧ 0 ≤ p1.toInt ∧ p1.toInt ≤ 20) → (21 - l5.toInt).toNat ≤ m_19 → Sf (fX5_surplus_56 N K sz f c0 c1 c2 c3 c4 c5 p0 p1 k_19 l5 s0 s1 sz_ f_ c0_ c1_ c2_ c3_) (xP true true (fun (z : Int32 × Int32 × (Nat → Int32) × Int32 × Int32 × Int32 × Int32) => True)) := by
  intro l5 s0 s1 sz_ f_ c0_ c1_ c2_ c3_ hq0 hq1 hq2 hq3 hq4 hq5 hq6 hq7 hq8
  unfold fX5_surplus_56
  have ql0 : (0 : Int32).toInt = 0 := by decide
  have ql1 : (1 : Int32).toInt = 1 := by decide
  have r1 := rgI (s1 + s0)
  have r3 := rgI l5
  have t2 := addI (a := l5) (b := (1 : Int32)) (by omega) (by omega)
  have r4 := rgI sz_
  have r5 := rgI c0_
  have r6 := rgI c1_
  have r7 := rgI c2_
  have r8 := rgI c3_
  exact hk_19 _ _ _ _ _ _ _ _ (by omega) (by omega) (by omega) (by omega) (by omega) (by omega) (by omega)
set_option maxHeartbeats 2000000 in
theorem s_X5_surplus_19 {N K : Nat} {sz : Int32} {f : Nat → Int32} {c0 : Int32} {c1 : Int32} {c2 : Int32} {c3 : Int32} {c4 : Int32} {c5 : Int32} {p0 : Int32} {p1 : Int32} (hN : 2 ^ 40 ≤ N) (hK : 100 ≤ K)  : ∀ (fu : Nat) (l4 : Int32) (l5 : Int32) (sz_ : Int32) (f_ : (Nat → Int32)) (c0_ : Int32) (c1_ : Int32) (c2_ : Int32) (c3_ : Int32), (21 - l5.toInt).toNat < fu → 0 ≤ p0.toInt → p0.toInt ≤ 2 → 0 ≤ p1.toInt → p1.toInt ≤ 20 → 0 ≤ l5.toInt → l5.toInt ≤ 21 → Sf (fX5_surplus_19 N K sz f c0 c1 c2 c3 c4 c5 p0 p1  fu l4 l5 sz_ f_ c0_ c1_ c2_ c3_) (xP true true (fun (z : Int32 × Int32 × (Nat → Int32) × Int32 × Int32 × Int32 × Int32) => True)) := by
  intro fu
  induction fu with
  | zero => intro l4 l5 sz_ f_ c0_ c1_ c2_ c3_ h0 hq0 hq1 hq2 hq3 hq4 hq5; omega
  | succ fu ih =>
    intro l4 l5 sz_ f_ c0_ c1_ c2_ c3_ h0 hq0 hq1 hq2 hq3 hq4 hq5
    unfold fX5_surplus_19
    have ql0 : (0 : Int32).toInt = 0 := by decide
    have ql2 : (2 : Int32).toInt = 2 := by decide
    have ql5 : (5 : Int32).toInt = 5 := by decide
    refine sIf (fun h1 => ?_) (fun h1 => ?_)
    · have r2 := rgI p1
      have r3 := rgI l5
      have fh1 := ltT h1
      have r4 := rgI c0_
      have r5 := rgI c1_
      have r6 := rgI c2_
      have r7 := rgI c3_
      have r8 := rgI c4
      have r9 := rgI c5
      have r10 := rgI l4
      refine sBind (s_X5_acted hN hK) (fun x68 b11 => ?_)
      have r12 := rgI x68.1
      have r13 := rgI sz_
      have r14 := rgI x68.2
      exact sXl ⟨trivial⟩
    · have r15 := rgI p1
      have r16 := rgI l5
      have fh1 := ltF h1
      have r17 := rgI sz_
      have r18 := rgI c0_
      have r19 := rgI c1_
      have r20 := rgI c2_
      have r21 := rgI c3_
      have r22 := rgI c4
      have r23 := rgI c5
      refine sBind (s_X2_recall hN hK (by omega) (by omega)) (fun x34 b24 => ?_)
      refine sIf (fun h25 => ?_) (fun h25 => ?_)
      · have t26 := modL (a := l5) (b := (2 : Int32)) ql2 (by omega)
        have fh25 := eqT h25
        have r27 := rgI x34.1
        have r28 := rgI l4
        have r29 := rgI x34.2.1
        have r30 := rgI x34.2.2.2.1
        have r31 := rgI x34.2.2.2.2.1
        have r32 := rgI x34.2.2.2.2.2
        exact s_X5_surplus_56 (hk_19 := ih) hN hK _ _ _ _ _ _ _ _ _ (by omega) (by omega) (by omega) (by omega) (by omega) (by omega) (by omega) (by omega) (by omega)
      · have t33 := modL (a := l5) (b := (2 : Int32)) ql2 (by omega)
        have fh25 := eqF h25
        have r34 := rgI (-x34.1)
        have r35 := rgI l4
        have r36 := rgI x34.2.1
        have r37 := rgI x34.2.2.2.1
        have r38 := rgI x34.2.2.2.2.1
        have r39 := rgI x34.2.2.2.2.2
        exact s_X5_surplus_56 (hk_19 := ih) hN hK _ _ _ _ _ _ _ _ _ (by omega) (by omega) (by omega) (by omega) (by omega) (by omega) (by omega) (by omega) (by omega)
set_option maxHeartbeats 2000000 in
theorem s_X5_surplus {N K : Nat} {sz : Int32} {f : Nat → Int32} {c0 : Int32} {c1 : Int32} {c2 : Int32} {c3 : Int32} {c4 : Int32} {c5 : Int32} {p0 : Int32} {p1 : Int32} (hN : 2 ^ 40 ≤ N) (hK : 100 ≤ K)  : Sf (fX5_surplus N K sz f c0 c1 c2 c3 c4 c5 p0 p1) (xP true true (fun (z : Int32 × Int32 × (Nat → Int32) × Int32 × Int32 × Int32 × Int32) => True)) := by
  unfold fX5_surplus
  have ql0 : (0 : Int32).toInt = 0 := by decide
  have ql20 : (20 : Int32).toInt = 20 := by decide
  have r1 := rgI p0
  refine sXb (s_X5_memoryAt hN hK) (by decide) (by decide) (fun x2 b2 => ?_)
  obtain ⟨b2_0, -⟩ := b2
  replace b2_0 : (0 ≤ p0.toInt ∧ p0.toInt ≤ 2) := b2_0
  have r3 := rgI p1
  refine sXb (s_X5_checkRange hN hK (by omega) (by omega) (by omega) (by omega)) (by decide) (by decide) (fun x10 b4 => ?_)
  obtain ⟨b4_0, -⟩ := b4
  replace b4_0 : ((0 : Int32).toInt ≤ p1.toInt ∧ p1.toInt ≤ (20 : Int32).toInt) := b4_0
  have r5 := rgI sz
  have r6 := rgI c0
  have r7 := rgI c1
  have r8 := rgI c2
  have r9 := rgI c3
  exact s_X5_surplus_19  hN hK _ _ _ _ _ _ _ _ _ (by omega) (by omega) (by omega) (by omega) (by omega) (by omega) (by omega)
set_option maxHeartbeats 2000000 in
theorem s_X5_place_46 {N K : Nat} {sz : Int32} {f : Nat → Int32} {fd : Nat → Int32} {c0 : Int32} {c1 : Int32} {c2 : Int32} {c3 : Int32} {c4 : Int32} {c5 : Int32} {p0 : Int32} {p1 : Int32} (hN : 2 ^ 40 ≤ N) (hK : 100 ≤ K)  {k_31 : Int32 → Int32 → Int32 → Int32 → Int32 → (Nat → Int32) → Int32 → Int32 → Int32 → Int32 → Option ((Int32 × Int32 × (Nat → Int32) × Int32 × Int32 × Int32 × Int32) ⊕ String)} {m_31 : Nat} (hk_31 : ∀ (l5 : Int32) (l6 : Int32) (l7 : Int32) (l8 : Int32) (sz_ : Int32) (f_ : (Nat → Int32)) (c0_ : Int32) (c1_ : Int32) (c2_ : Int32) (c3_ : Int32), (l8.toInt - 0).toNat < m_31 → 0 ≤ p0.toInt → p0.toInt ≤ 2 → 0 ≤ p1.toInt → p1.toInt ≤ 1 → 0 ≤ l8.toInt → l8.toInt ≤ 20 → Sf (k_31 l5 l6 l7 l8 sz_ f_ c0_ c1_ c2_ c3_) (xP true false (fun (z : Int32 × Int32 × (Nat → Int32) × Int32 × Int32 × Int32 × Int32) => True))) : ∀ (fu : Nat) (l5 : Int32) (l6 : Int32) (l7 : Int32) (l8 : Int32) (l9 : Int32) (sz_ : Int32) (f_ : (Nat → Int32)) (c0_ : Int32) (c1_ : Int32) (c2_ : Int32) (c3_ : Int32), (l9.toInt + 2147483648).toNat < fu → 0 ≤ p0.toInt → p0.toInt ≤ 2 → 0 ≤ p1.toInt → p1.toInt ≤ 1 → 1 ≤ l8.toInt → l8.toInt ≤ 20 → (l8.toInt - 0).toNat ≤ m_31 → Sf (fX5_place_46 N K sz f fd c0 c1 c2 c3 c4 c5 p0 p1 k_31 fu l5 l6 l7 l8 l9 sz_ f_ c0_ c1_ c2_ c3_) (xP true false (fun (z : Int32 × Int32 × (Nat → Int32) × Int32 × Int32 × Int32 × Int32) => True)) := by
  intro fu
  induction fu with
  | zero => intro l5 l6 l7 l8 l9 sz_ f_ c0_ c1_ c2_ c3_ h0 hq0 hq1 hq2 hq3 hq4 hq5 hq6; omega
  | succ fu ih =>
    intro l5 l6 l7 l8 l9 sz_ f_ c0_ c1_ c2_ c3_ h0 hq0 hq1 hq2 hq3 hq4 hq5 hq6
    unfold fX5_place_46
    have qlm1 : (-1 : Int32).toInt = -1 := by decide
    have ql0 : (0 : Int32).toInt = 0 := by decide
    refine sIf (fun h1 => ?_) (fun h1 => ?_)
    · have r2 := rgI l9
      have fh1 := leT h1
      have r3 := rgI l5
      have r4 := rgI l6
      have r5 := rgI l7
      have r7 := rgI l8
      have t6 := addI (a := l8) (b := (-1 : Int32)) (by omega) (by omega)
      have r8 := rgI sz_
      have r9 := rgI c0_
      have r10 := rgI c1_
      have r11 := rgI c2_
      have r12 := rgI c3_
      exact hk_31 _ _ _ _ _ _ _ _ _ _ (by omega) (by omega) (by omega) (by omega) (by omega) (by omega) (by omega)
    · have r13 := rgI l9
      have fh1 := leF h1
      have r14 := rgI sz_
      have r15 := rgI c0_
      have r16 := rgI c1_
      have r17 := rgI c2_
      have r18 := rgI c3_
      have r19 := rgI c4
      have r20 := rgI c5
      have r21 := rgI l5
      have r22 := rgI l6
      refine sBind (s_X2_recall hN hK (by omega) (by omega)) (fun x63 b23 => ?_)
      have r24 := rgI x63.2.1
      have r25 := rgI x63.2.2.2.1
      have r26 := rgI x63.2.2.2.2.1
      have r27 := rgI x63.2.2.2.2.2
      have r28 := rgI l8
      refine sBind (s_X2_recall hN hK (by omega) (by omega)) (fun x81 b29 => ?_)
      have r30 := rgI (l5 - l8)
      have r31 := rgI ((l7 + x63.1) - x81.1)
      have t32 := addI (a := l9) (b := (-1 : Int32)) (by omega) (by omega)
      have r33 := rgI x81.2.1
      have r34 := rgI x81.2.2.2.1
      have r35 := rgI x81.2.2.2.2.1
      have r36 := rgI x81.2.2.2.2.2
      exact ih _ _ _ _ _ _ _ _ _ _ _ (by omega) (by omega) (by omega) (by omega) (by omega) (by omega) (by omega) (by omega)
set_option maxHeartbeats 2000000 in
theorem s_X5_place_31 {N K : Nat} {sz : Int32} {f : Nat → Int32} {fd : Nat → Int32} {c0 : Int32} {c1 : Int32} {c2 : Int32} {c3 : Int32} {c4 : Int32} {c5 : Int32} {p0 : Int32} {p1 : Int32} (hN : 2 ^ 40 ≤ N) (hK : 100 ≤ K)  : ∀ (fu : Nat) (l5 : Int32) (l6 : Int32) (l7 : Int32) (l8 : Int32) (sz_ : Int32) (f_ : (Nat → Int32)) (c0_ : Int32) (c1_ : Int32) (c2_ : Int32) (c3_ : Int32), (l8.toInt - 0).toNat < fu → 0 ≤ p0.toInt → p0.toInt ≤ 2 → 0 ≤ p1.toInt → p1.toInt ≤ 1 → 0 ≤ l8.toInt → l8.toInt ≤ 20 → Sf (fX5_place_31 N K sz f fd c0 c1 c2 c3 c4 c5 p0 p1  fu l5 l6 l7 l8 sz_ f_ c0_ c1_ c2_ c3_) (xP true false (fun (z : Int32 × Int32 × (Nat → Int32) × Int32 × Int32 × Int32 × Int32) => True)) := by
  intro fu
  induction fu with
  | zero => intro l5 l6 l7 l8 sz_ f_ c0_ c1_ c2_ c3_ h0 hq0 hq1 hq2 hq3 hq4 hq5; omega
  | succ fu ih =>
    intro l5 l6 l7 l8 sz_ f_ c0_ c1_ c2_ c3_ h0 hq0 hq1 hq2 hq3 hq4 hq5
    unfold fX5_place_31
    have ql0 : (0 : Int32).toInt = 0 := by decide
    have ql1 : (1 : Int32).toInt = 1 := by decide
    refine sIf (fun h1 => ?_) (fun h1 => ?_)
    · have r2 := rgI l8
      have fh1 := ltT h1
      have r3 := rgI c0_
      have r4 := rgI c1_
      have r5 := rgI c2_
      have r6 := rgI c3_
      have r7 := rgI c4
      have r8 := rgI c5
      have r9 := rgI l7
      refine sBind (s_X5_acted hN hK) (fun x113 b10 => ?_)
      have r11 := rgI x113.1
      have r12 := rgI sz_
      have r13 := rgI x113.2
      exact sXl ⟨trivial⟩
    · have r14 := rgI l8
      have fh1 := ltF h1
      refine sBind (s_X4_timesOf hN hK (by omega) (by omega)) (fun x41 b15 => ?_)
      have r16 := rgI l5
      have r17 := rgI l6
      have r18 := rgI l7
      have r19 := rgI x41
      have r20 := rgI sz_
      have r21 := rgI c0_
      have r22 := rgI c1_
      have r23 := rgI c2_
      have r24 := rgI c3_
      exact s_X5_place_46 (hk_31 := ih) hN hK _ _ _ _ _ _ _ _ _ _ _ _ (by omega) (by omega) (by omega) (by omega) (by omega) (by omega) (by omega) (by omega)
set_option maxHeartbeats 2000000 in
theorem s_X5_place {N K : Nat} {sz : Int32} {f : Nat → Int32} {fd : Nat → Int32} {c0 : Int32} {c1 : Int32} {c2 : Int32} {c3 : Int32} {c4 : Int32} {c5 : Int32} {p0 : Int32} {p1 : Int32} (hN : 2 ^ 40 ≤ N) (hK : 100 ≤ K)  : Sf (fX5_place N K sz f fd c0 c1 c2 c3 c4 c5 p0 p1) (xP true false (fun (z : Int32 × Int32 × (Nat → Int32) × Int32 × Int32 × Int32 × Int32) => True)) := by
  unfold fX5_place
  have ql0 : (0 : Int32).toInt = 0 := by decide
  have ql20 : (20 : Int32).toInt = 20 := by decide
  have r1 := rgI p0
  refine sXb (s_X5_memoryAt hN hK) (by decide) (by decide) (fun x2 b2 => ?_)
  obtain ⟨b2_0, -⟩ := b2
  replace b2_0 : (0 ≤ p0.toInt ∧ p0.toInt ≤ 2) := b2_0
  have r3 := rgI p1
  refine sXb (s_X5_deskAt hN hK) (by decide) (by decide) (fun x8 b4 => ?_)
  obtain ⟨b4_0, -⟩ := b4
  replace b4_0 : (0 ≤ p1.toInt ∧ p1.toInt ≤ 1) := b4_0
  refine sBind (s_X4_sum hN hK) (fun x15 b5 => ?_)
  have r6 := rgI x15
  have r7 := rgI sz
  have r8 := rgI c0
  have r9 := rgI c1
  have r10 := rgI c2
  have r11 := rgI c3
  exact s_X5_place_31  hN hK _ _ _ _ _ _ _ _ _ _ _ (by omega) (by omega) (by omega) (by omega) (by omega) (by omega) (by omega)
set_option maxHeartbeats 2000000 in
theorem s_X5_learn {N K : Nat} {sz : Int32} {f : Nat → Int32} {c0 : Int32} {c1 : Int32} {c2 : Int32} {c3 : Int32} {c4 : Int32} {c5 : Int32} {g : Nat → Int32} {p0 : Int32} {p1 : Int32} {p2 : Int32} {p3 : Int32} (hN : 2 ^ 40 ≤ N) (hK : 100 ≤ K)  : Sf (fX5_learn N K sz f c0 c1 c2 c3 c4 c5 g p0 p1 p2 p3) (xP true true (fun (z : Int32 × Int32 × (Nat → Int32) × Int32 × Int32 × (Nat → Int32)) => True)) := by
  unfold fX5_learn
  have ql0 : (0 : Int32).toInt = 0 := by decide
  have ql1 : (1 : Int32).toInt = 1 := by decide
  have r1 := rgI p0
  refine sXb (s_X5_memoryAt hN hK) (by decide) (by decide) (fun x2 b2 => ?_)
  obtain ⟨b2_0, -⟩ := b2
  replace b2_0 : (0 ≤ p0.toInt ∧ p0.toInt ≤ 2) := b2_0
  have r3 := rgI p1
  have r4 := rgI p2
  have r5 := rgI p3
  refine sXb (s_X5_checkCase hN hK) (by decide) (by decide) (fun x11 b6 => ?_)
  obtain ⟨b6_0, b6_1, b6_2, -⟩ := b6
  replace b6_0 : (0 ≤ p1.toInt ∧ p1.toInt ≤ 5) := b6_0
  replace b6_1 : (0 ≤ p2.toInt ∧ p2.toInt ≤ 20) := b6_1
  replace b6_2 : (0 ≤ p3.toInt ∧ p3.toInt ≤ 20) := b6_2
  refine sBind (s_X5_rests hN hK) (fun x17 b7 => ?_)
  obtain ⟨b7_0, b7_1, b7_2, b7_3, -⟩ := b7
  replace b7_0 : 0 ≤ x17.toInt := b7_0
  replace b7_1 : x17.toInt ≤ 1 := b7_1
  replace b7_2 : (x17.toInt = 0 → (1 ≤ p2.toInt)) := b7_2
  replace b7_3 : (x17.toInt = 0 → p3.toInt ≠ 0) := b7_3
  refine sIf (fun h8 => ?_) (fun h8 => ?_)
  · have r9 := rgI x17
    have fh8 := eqT h8
    have r10 := rgI sz
    refine sBind (s_X2_keeps hN hK (by omega) (by omega) (by omega) (by omega) (by omega) (by omega)) (fun x34 b11 => ?_)
    obtain ⟨b11_0, b11_1, -⟩ := b11
    replace b11_0 : 0 ≤ x34.toInt := b11_0
    replace b11_1 : x34.toInt ≤ 1 := b11_1
    refine sIf (fun h12 => ?_) (fun h12 => ?_)
    · have r13 := rgI x34
      have fh12 := eqT h12
      refine sBind (s_X3_tells hN hK (by omega) (by omega) (by omega) (by omega) (by omega) (by omega)) (fun x60 b14 => ?_)
      have r15 := rgI x60.1
      refine sBind (s_X2_keep hN hK (by omega) (by omega) (by omega)) (fun x63 b16 => ?_)
      have r17 := rgI c0
      have r18 := rgI c1
      have r19 := rgI c2
      have r20 := rgI c3
      have r21 := rgI c4
      have r22 := rgI c5
      refine sBind (s_X5_acted hN hK) (fun x68 b23 => ?_)
      have r24 := rgI x68.1
      have r25 := rgI x63.1
      have r26 := rgI x68.2
      exact sXl ⟨trivial⟩
    · have r27 := rgI x34
      have fh12 := eqF h12
      have r28 := rgI c0
      have r29 := rgI c1
      have r30 := rgI c2
      have r31 := rgI c3
      have r32 := rgI c4
      have r33 := rgI c5
      refine sBind (s_X5_acted hN hK) (fun x42 b34 => ?_)
      have r35 := rgI x42.1
      have r36 := rgI x42.2
      exact sXl ⟨trivial⟩
  · have r37 := rgI x17
    have fh8 := eqF h8
    have r38 := rgI c0
    have r39 := rgI c1
    have r40 := rgI c2
    have r41 := rgI c3
    have r42 := rgI c4
    have r43 := rgI c5
    refine sBind (s_X5_undone hN hK) (fun x24 b44 => ?_)
    obtain ⟨b44_0, b44_1, -⟩ := b44
    replace b44_0 : -9 ≤ x24.1.toInt := b44_0
    replace b44_1 : x24.1.toInt ≤ -9 := b44_1
    have r45 := rgI x24.1
    have r46 := rgI sz
    have r47 := rgI x24.2
    exact sXl ⟨trivial⟩
set_option maxHeartbeats 2000000 in
theorem s_X5_relearn {N K : Nat} {sz : Int32} {f : Nat → Int32} {c0 : Int32} {c1 : Int32} {c2 : Int32} {c3 : Int32} {c4 : Int32} {c5 : Int32} {fw : Nat → Int32} {fs : Nat → Int32} {p0 : Int32} {p1 : Int32} {p2 : Int32} {p3 : Int32} (hN : 2 ^ 40 ≤ N) (hK : 100 ≤ K)  : Sf (fX5_relearn N K sz f c0 c1 c2 c3 c4 c5 fw fs p0 p1 p2 p3) (xP true true (fun (z : Int32 × Int32 × (Nat → Int32) × Int32 × Int32 × (Nat → Int32) × (Nat → Int32)) => True)) := by
  unfold fX5_relearn
  have ql0 : (0 : Int32).toInt = 0 := by decide
  have r1 := rgI p0
  refine sXb (s_X5_memoryAt hN hK) (by decide) (by decide) (fun x2 b2 => ?_)
  obtain ⟨b2_0, -⟩ := b2
  replace b2_0 : (0 ≤ p0.toInt ∧ p0.toInt ≤ 2) := b2_0
  have r3 := rgI p1
  have r4 := rgI p2
  have r5 := rgI p3
  refine sXb (s_X5_checkCase hN hK) (by decide) (by decide) (fun x11 b6 => ?_)
  obtain ⟨b6_0, b6_1, b6_2, -⟩ := b6
  replace b6_0 : (0 ≤ p1.toInt ∧ p1.toInt ≤ 5) := b6_0
  replace b6_1 : (0 ≤ p2.toInt ∧ p2.toInt ≤ 20) := b6_1
  replace b6_2 : (0 ≤ p3.toInt ∧ p3.toInt ≤ 20) := b6_2
  have r7 := rgI sz
  refine sBind (s_X2_keeps hN hK (by omega) (by omega) (by omega) (by omega) (by omega) (by omega)) (fun x20 b8 => ?_)
  obtain ⟨b8_0, b8_1, -⟩ := b8
  replace b8_0 : 0 ≤ x20.toInt := b8_0
  replace b8_1 : x20.toInt ≤ 1 := b8_1
  refine sIf (fun h9 => ?_) (fun h9 => ?_)
  · have r10 := rgI x20
    have fh9 := eqT h9
    have r11 := rgI c0
    have r12 := rgI c1
    have r13 := rgI c2
    have r14 := rgI c3
    have r15 := rgI c4
    have r16 := rgI c5
    refine sBind (s_X5_undone hN hK) (fun x27 b17 => ?_)
    obtain ⟨b17_0, b17_1, -⟩ := b17
    replace b17_0 : -9 ≤ x27.1.toInt := b17_0
    replace b17_1 : x27.1.toInt ≤ -9 := b17_1
    have r18 := rgI x27.1
    have r19 := rgI x27.2
    exact sXl ⟨trivial⟩
  · have r20 := rgI x20
    have fh9 := eqF h9
    refine sBind (s_X5_waysOneByOne hN hK (by omega) (by omega) (by omega) (by omega) (by omega) (by omega)) (fun x36 b21 => ?_)
    have r22 := rgI x36.1
    refine sBind (s_X2_keep hN hK (by omega) (by omega) (by omega)) (fun x49 b23 => ?_)
    have r24 := rgI c0
    have r25 := rgI c1
    have r26 := rgI c2
    have r27 := rgI c3
    have r28 := rgI c4
    have r29 := rgI c5
    refine sBind (s_X5_acted hN hK) (fun x55 b30 => ?_)
    have r31 := rgI x55.1
    have r32 := rgI x49.1
    have r33 := rgI x55.2
    exact sXl ⟨trivial⟩
set_option maxHeartbeats 2000000 in
theorem s_X5_forget {N K : Nat} {sz : Int32} {f : Nat → Int32} {c0 : Int32} {c1 : Int32} {c2 : Int32} {c3 : Int32} {c4 : Int32} {c5 : Int32} {p0 : Int32} {p1 : Int32} {p2 : Int32} {p3 : Int32} (hN : 2 ^ 40 ≤ N) (hK : 100 ≤ K)  : Sf (fX5_forget N K sz f c0 c1 c2 c3 c4 c5 p0 p1 p2 p3) (xP true true (fun (z : Int32 × Int32 × (Nat → Int32) × Int32 × Int32) => True)) := by
  unfold fX5_forget
  have ql0 : (0 : Int32).toInt = 0 := by decide
  have r1 := rgI p0
  refine sXb (s_X5_memoryAt hN hK) (by decide) (by decide) (fun x2 b2 => ?_)
  obtain ⟨b2_0, -⟩ := b2
  replace b2_0 : (0 ≤ p0.toInt ∧ p0.toInt ≤ 2) := b2_0
  have r3 := rgI p1
  have r4 := rgI p2
  have r5 := rgI p3
  refine sXb (s_X5_checkCase hN hK) (by decide) (by decide) (fun x11 b6 => ?_)
  obtain ⟨b6_0, b6_1, b6_2, -⟩ := b6
  replace b6_0 : (0 ≤ p1.toInt ∧ p1.toInt ≤ 5) := b6_0
  replace b6_1 : (0 ≤ p2.toInt ∧ p2.toInt ≤ 20) := b6_1
  replace b6_2 : (0 ≤ p3.toInt ∧ p3.toInt ≤ 20) := b6_2
  have r7 := rgI sz
  refine sBind (s_X2_keeps hN hK (by omega) (by omega) (by omega) (by omega) (by omega) (by omega)) (fun x20 b8 => ?_)
  obtain ⟨b8_0, b8_1, -⟩ := b8
  replace b8_0 : 0 ≤ x20.toInt := b8_0
  replace b8_1 : x20.toInt ≤ 1 := b8_1
  refine sIf (fun h9 => ?_) (fun h9 => ?_)
  · have r10 := rgI x20
    have fh9 := eqT h9
    have r11 := rgI c0
    have r12 := rgI c1
    have r13 := rgI c2
    have r14 := rgI c3
    have r15 := rgI c4
    have r16 := rgI c5
    refine sBind (s_X5_undone hN hK) (fun x27 b17 => ?_)
    obtain ⟨b17_0, b17_1, -⟩ := b17
    replace b17_0 : -9 ≤ x27.1.toInt := b17_0
    replace b17_1 : x27.1.toInt ≤ -9 := b17_1
    have r18 := rgI x27.1
    have r19 := rgI x27.2
    exact sXl ⟨trivial⟩
  · have r20 := rgI x20
    have fh9 := eqF h9
    refine sBind (s_X2_keptWorth hN hK (by omega) (by omega) (by omega) (by omega) (by omega) (by omega)) (fun x37 b21 => ?_)
    refine sBind (s_X2_drop hN hK (by omega) (by omega) (by omega) (by omega) (by omega) (by omega)) (fun x48 b22 => ?_)
    have r23 := rgI c0
    have r24 := rgI c1
    have r25 := rgI c2
    have r26 := rgI c3
    have r27 := rgI c4
    have r28 := rgI c5
    have r29 := rgI x37
    refine sBind (s_X5_acted hN hK) (fun x54 b30 => ?_)
    have r31 := rgI x54.1
    have r32 := rgI x48.1
    have r33 := rgI x54.2
    exact sXl ⟨trivial⟩
set_option maxHeartbeats 2000000 in
theorem s_X5_forgetIf {N K : Nat} {sz : Int32} {f : Nat → Int32} {c0 : Int32} {c1 : Int32} {c2 : Int32} {c3 : Int32} {c4 : Int32} {c5 : Int32} {p0 : Int32} {p1 : Int32} {p2 : Int32} {p3 : Int32} {p4 : Int32} (hN : 2 ^ 40 ≤ N) (hK : 100 ≤ K)  : Sf (fX5_forgetIf N K sz f c0 c1 c2 c3 c4 c5 p0 p1 p2 p3 p4) (xP true true (fun (z : Int32 × Int32 × (Nat → Int32) × Int32) => True)) := by
  unfold fX5_forgetIf
  have ql0 : (0 : Int32).toInt = 0 := by decide
  have ql1 : (1 : Int32).toInt = 1 := by decide
  have r1 := rgI p0
  refine sXb (s_X5_memoryAt hN hK) (by decide) (by decide) (fun x2 b2 => ?_)
  obtain ⟨b2_0, -⟩ := b2
  replace b2_0 : (0 ≤ p0.toInt ∧ p0.toInt ≤ 2) := b2_0
  have r3 := rgI p1
  have r4 := rgI p2
  have r5 := rgI p3
  refine sXb (s_X5_checkCase hN hK) (by decide) (by decide) (fun x11 b6 => ?_)
  obtain ⟨b6_0, b6_1, b6_2, -⟩ := b6
  replace b6_0 : (0 ≤ p1.toInt ∧ p1.toInt ≤ 5) := b6_0
  replace b6_1 : (0 ≤ p2.toInt ∧ p2.toInt ≤ 20) := b6_1
  replace b6_2 : (0 ≤ p3.toInt ∧ p3.toInt ≤ 20) := b6_2
  have r7 := rgI sz
  have r8 := rgI p4
  refine sBind (s_X2_keepsWith hN hK (by omega) (by omega) (by omega) (by omega) (by omega) (by omega)) (fun x22 b9 => ?_)
  obtain ⟨b9_0, b9_1, -⟩ := b9
  replace b9_0 : 0 ≤ x22.toInt := b9_0
  replace b9_1 : x22.toInt ≤ 1 := b9_1
  refine sIf (fun h10 => ?_) (fun h10 => ?_)
  · have r11 := rgI x22
    have fh10 := eqT h10
    have r12 := rgI c0
    have r13 := rgI c1
    have r14 := rgI c2
    have r15 := rgI c3
    have r16 := rgI c4
    have r17 := rgI c5
    refine sBind (s_X5_acted hN hK) (fun x30 b18 => ?_)
    have r19 := rgI x30.1
    have r20 := rgI x30.2
    exact sXl ⟨trivial⟩
  · have r21 := rgI x22
    have fh10 := eqF h10
    refine sBind (s_X2_drop hN hK (by omega) (by omega) (by omega) (by omega) (by omega) (by omega)) (fun x40 b22 => ?_)
    have r23 := rgI c0
    have r24 := rgI c1
    have r25 := rgI c2
    have r26 := rgI c3
    have r27 := rgI c4
    have r28 := rgI c5
    refine sBind (s_X5_acted hN hK) (fun x45 b29 => ?_)
    have r30 := rgI x45.1
    have r31 := rgI x40.1
    have r32 := rgI x45.2
    exact sXl ⟨trivial⟩
set_option maxHeartbeats 2000000 in
theorem s_X5_forgetAll {N K : Nat} {sz : Int32} {f : Nat → Int32} {c0 : Int32} {c1 : Int32} {c2 : Int32} {c3 : Int32} {c4 : Int32} {c5 : Int32} {p0 : Int32} {p1 : Int32} {p2 : Int32} (hN : 2 ^ 40 ≤ N) (hK : 100 ≤ K)  : Sf (fX5_forgetAll N K sz f c0 c1 c2 c3 c4 c5 p0 p1 p2) (xP true true (fun (z : Int32 × Int32 × (Nat → Int32) × Int32) => True)) := by
  unfold fX5_forgetAll
  have ql0 : (0 : Int32).toInt = 0 := by decide
  have ql3 : (3 : Int32).toInt = 3 := by decide
  have r1 := rgI p0
  refine sXb (s_X5_memoryAt hN hK) (by decide) (by decide) (fun x2 b2 => ?_)
  obtain ⟨b2_0, -⟩ := b2
  replace b2_0 : (0 ≤ p0.toInt ∧ p0.toInt ≤ 2) := b2_0
  have r3 := rgI p1
  refine sXb (s_X5_checkRange hN hK (by omega) (by omega) (by omega) (by omega)) (by decide) (by decide) (fun x10 b4 => ?_)
  obtain ⟨b4_0, -⟩ := b4
  replace b4_0 : ((0 : Int32).toInt ≤ p1.toInt ∧ p1.toInt ≤ (3 : Int32).toInt) := b4_0
  have r5 := rgI sz
  have r6 := rgI p2
  refine sBind (s_X2_dropEach hN hK (by omega) (by omega)) (fun x18 b7 => ?_)
  have r8 := rgI c0
  have r9 := rgI c1
  have r10 := rgI c2
  have r11 := rgI c3
  have r12 := rgI c4
  have r13 := rgI c5
  have r14 := rgI x18.1
  refine sBind (s_X5_acted hN hK) (fun x21 b15 => ?_)
  have r16 := rgI x21.1
  have r17 := rgI x18.2.1
  have r18 := rgI x21.2
  exact sXl ⟨trivial⟩
set_option maxHeartbeats 2000000 in
theorem s_X5_clear {N K : Nat} {sz : Int32} {f : Nat → Int32} {c0 : Int32} {c1 : Int32} {c2 : Int32} {c3 : Int32} {c4 : Int32} {c5 : Int32} {p0 : Int32} (hN : 2 ^ 40 ≤ N) (hK : 100 ≤ K)  : Sf (fX5_clear N K sz f c0 c1 c2 c3 c4 c5 p0) (xP true false (fun (z : Int32 × Int32 × (Nat → Int32) × Int32) => 0 ≤ z.2.1.toInt ∧ z.2.1.toInt ≤ 0 ∧ True)) := by
  unfold fX5_clear
  have ql0 : (0 : Int32).toInt = 0 := by decide
  have r1 := rgI p0
  refine sXb (s_X5_memoryAt hN hK) (by decide) (by decide) (fun x3 b2 => ?_)
  obtain ⟨b2_0, -⟩ := b2
  replace b2_0 : (0 ≤ p0.toInt ∧ p0.toInt ≤ 2) := b2_0
  have r3 := rgI sz
  refine sBind (s_X2_dropAll hN hK) (fun x6 b4 => ?_)
  obtain ⟨b4_0, b4_1, -⟩ := b4
  replace b4_0 : 0 ≤ x6.2.1.toInt := b4_0
  replace b4_1 : x6.2.1.toInt ≤ 0 := b4_1
  have r5 := rgI c0
  have r6 := rgI c1
  have r7 := rgI c2
  have r8 := rgI c3
  have r9 := rgI c4
  have r10 := rgI c5
  have r11 := rgI x6.1
  refine sBind (s_X5_acted hN hK) (fun x9 b12 => ?_)
  have r13 := rgI x9.1
  have r14 := rgI x6.2.1
  have r15 := rgI x9.2
  exact sXl ⟨(by show 0 ≤ x6.2.1.toInt; omega), (by show x6.2.1.toInt ≤ 0; omega), trivial⟩
set_option maxHeartbeats 2000000 in
theorem s_X5_copy {N K : Nat} {sz : Int32} {f : Nat → Int32} {tz : Int32} {f2 : Nat → Int32} {c0 : Int32} {c1 : Int32} {c2 : Int32} {c3 : Int32} {c4 : Int32} {c5 : Int32} {p0 : Int32} {p1 : Int32} (hN : 2 ^ 40 ≤ N) (hK : 100 ≤ K)  : Sf (fX5_copy N K sz f tz f2 c0 c1 c2 c3 c4 c5 p0 p1) (xP true false (fun (z : Int32 × Int32 × (Nat → Int32) × Int32) => True)) := by
  unfold fX5_copy
  have ql0 : (0 : Int32).toInt = 0 := by decide
  have r1 := rgI p0
  refine sXb (s_X5_memoryAt hN hK) (by decide) (by decide) (fun x2 b2 => ?_)
  obtain ⟨b2_0, -⟩ := b2
  replace b2_0 : (0 ≤ p0.toInt ∧ p0.toInt ≤ 2) := b2_0
  have r3 := rgI p1
  refine sXb (s_X5_memoryAt hN hK) (by decide) (by decide) (fun x8 b4 => ?_)
  obtain ⟨b4_0, -⟩ := b4
  replace b4_0 : (0 ≤ p1.toInt ∧ p1.toInt ≤ 2) := b4_0
  have r5 := rgI tz
  have r6 := rgI sz
  refine sBind (s_X2_become hN hK) (fun x16 b7 => ?_)
  have r8 := rgI x16.1
  refine sBind (s_X2_size hN hK) (fun x22 b9 => ?_)
  have r10 := rgI c0
  have r11 := rgI c1
  have r12 := rgI c2
  have r13 := rgI c3
  have r14 := rgI c4
  have r15 := rgI c5
  have r16 := rgI x22
  refine sBind (s_X5_acted hN hK) (fun x25 b17 => ?_)
  have r18 := rgI x25.1
  have r19 := rgI x25.2
  exact sXl ⟨trivial⟩
set_option maxHeartbeats 2000000 in
theorem s_X5_copyOwn {N K : Nat} {sz : Int32} {f : Nat → Int32} {c0 : Int32} {c1 : Int32} {c2 : Int32} {c3 : Int32} {c4 : Int32} {c5 : Int32} {p0 : Int32} (hN : 2 ^ 40 ≤ N) (hK : 100 ≤ K)  : Sf (fX5_copyOwn N K sz f c0 c1 c2 c3 c4 c5 p0) (xP true false (fun (z : Int32 × Int32 × (Nat → Int32) × Int32) => True)) := by
  unfold fX5_copyOwn
  have ql0 : (0 : Int32).toInt = 0 := by decide
  have r1 := rgI p0
  refine sXb (s_X5_memoryAt hN hK) (by decide) (by decide) (fun x2 b2 => ?_)
  obtain ⟨b2_0, -⟩ := b2
  replace b2_0 : (0 ≤ p0.toInt ∧ p0.toInt ≤ 2) := b2_0
  refine sXb (s_X5_memoryAt hN hK) (by decide) (by decide) (fun x8 b3 => ?_)
  obtain ⟨b3_0, -⟩ := b3
  replace b3_0 : (0 ≤ p0.toInt ∧ p0.toInt ≤ 2) := b3_0
  have r4 := rgI sz
  refine sBind (s_X2_becomeOwn hN hK) (fun x16 b5 => ?_)
  have r6 := rgI x16.1
  refine sBind (s_X2_size hN hK) (fun x22 b7 => ?_)
  have r8 := rgI c0
  have r9 := rgI c1
  have r10 := rgI c2
  have r11 := rgI c3
  have r12 := rgI c4
  have r13 := rgI c5
  have r14 := rgI x22
  refine sBind (s_X5_acted hN hK) (fun x25 b15 => ?_)
  have r16 := rgI x25.1
  have r17 := rgI x25.2
  exact sXl ⟨trivial⟩
set_option maxHeartbeats 2000000 in
theorem s_X5_pour {N K : Nat} {sz : Int32} {f : Nat → Int32} {tz : Int32} {f2 : Nat → Int32} {c0 : Int32} {c1 : Int32} {c2 : Int32} {c3 : Int32} {c4 : Int32} {c5 : Int32} {p0 : Int32} {p1 : Int32} (hN : 2 ^ 40 ≤ N) (hK : 100 ≤ K)  : Sf (fX5_pour N K sz f tz f2 c0 c1 c2 c3 c4 c5 p0 p1) (xP true false (fun (z : Int32 × Int32 × (Nat → Int32) × Int32 × Int32) => True)) := by
  unfold fX5_pour
  have ql0 : (0 : Int32).toInt = 0 := by decide
  have r1 := rgI p0
  refine sXb (s_X5_memoryAt hN hK) (by decide) (by decide) (fun x2 b2 => ?_)
  obtain ⟨b2_0, -⟩ := b2
  replace b2_0 : (0 ≤ p0.toInt ∧ p0.toInt ≤ 2) := b2_0
  have r3 := rgI p1
  refine sXb (s_X5_memoryAt hN hK) (by decide) (by decide) (fun x8 b4 => ?_)
  obtain ⟨b4_0, -⟩ := b4
  replace b4_0 : (0 ≤ p1.toInt ∧ p1.toInt ≤ 2) := b4_0
  refine sIf (fun h5 => ?_) (fun h5 => ?_)
  · have fh5 := eqT h5
    have r6 := rgI c0
    have r7 := rgI c1
    have r8 := rgI c2
    have r9 := rgI c3
    have r10 := rgI c4
    have r11 := rgI c5
    refine sBind (s_X5_undone hN hK) (fun x19 b12 => ?_)
    obtain ⟨b12_0, b12_1, -⟩ := b12
    replace b12_0 : -9 ≤ x19.1.toInt := b12_0
    replace b12_1 : x19.1.toInt ≤ -9 := b12_1
    have r13 := rgI x19.1
    have r14 := rgI tz
    have r15 := rgI x19.2
    exact sXl ⟨trivial⟩
  · have fh5 := eqF h5
    have r16 := rgI tz
    have r17 := rgI sz
    refine sBind (s_X2_takeIn hN hK) (fun x27 b18 => ?_)
    have r19 := rgI c0
    have r20 := rgI c1
    have r21 := rgI c2
    have r22 := rgI c3
    have r23 := rgI c4
    have r24 := rgI c5
    have r25 := rgI x27.1
    refine sBind (s_X5_acted hN hK) (fun x30 b26 => ?_)
    have r27 := rgI x30.1
    have r28 := rgI x27.2.1
    have r29 := rgI x30.2
    exact sXl ⟨trivial⟩
set_option maxHeartbeats 2000000 in
theorem s_X5_pourOwn {N K : Nat} {sz : Int32} {f : Nat → Int32} {c0 : Int32} {c1 : Int32} {c2 : Int32} {c3 : Int32} {c4 : Int32} {c5 : Int32} {p0 : Int32} (hN : 2 ^ 40 ≤ N) (hK : 100 ≤ K)  : Sf (fX5_pourOwn N K sz f c0 c1 c2 c3 c4 c5 p0) (xP true false (fun (z : Int32 × Int32) => -9 ≤ z.1.toInt ∧ z.1.toInt ≤ -9 ∧ True)) := by
  unfold fX5_pourOwn
  have ql0 : (0 : Int32).toInt = 0 := by decide
  have r1 := rgI p0
  refine sXb (s_X5_memoryAt hN hK) (by decide) (by decide) (fun x2 b2 => ?_)
  obtain ⟨b2_0, -⟩ := b2
  replace b2_0 : (0 ≤ p0.toInt ∧ p0.toInt ≤ 2) := b2_0
  refine sXb (s_X5_memoryAt hN hK) (by decide) (by decide) (fun x8 b3 => ?_)
  obtain ⟨b3_0, -⟩ := b3
  replace b3_0 : (0 ≤ p0.toInt ∧ p0.toInt ≤ 2) := b3_0
  have r4 := rgI c0
  have r5 := rgI c1
  have r6 := rgI c2
  have r7 := rgI c3
  have r8 := rgI c4
  have r9 := rgI c5
  refine sBind (s_X5_undone hN hK) (fun x19 b10 => ?_)
  obtain ⟨b10_0, b10_1, -⟩ := b10
  replace b10_0 : -9 ≤ x19.1.toInt := b10_0
  replace b10_1 : x19.1.toInt ≤ -9 := b10_1
  have r11 := rgI x19.1
  have r12 := rgI x19.2
  exact sXl ⟨(by show -9 ≤ x19.1.toInt; omega), (by show x19.1.toInt ≤ -9; omega), trivial⟩
set_option maxHeartbeats 2000000 in
theorem s_X5_isKept {N K : Nat} {sz : Int32} {f : Nat → Int32} {p0 : Int32} {p1 : Int32} {p2 : Int32} {p3 : Int32} {p4 : Int32} (hN : 2 ^ 40 ≤ N) (hK : 100 ≤ K)  : Sf (fX5_isKept N K sz f p0 p1 p2 p3 p4) (xP true true (fun (z : Int32) => 0 ≤ z.toInt ∧ z.toInt ≤ 1 ∧ True)) := by
  unfold fX5_isKept
  have ql0 : (0 : Int32).toInt = 0 := by decide
  have ql2 : (2 : Int32).toInt = 2 := by decide
  have r1 := rgI p0
  refine sXb (s_X5_memoryAt hN hK) (by decide) (by decide) (fun x2 b2 => ?_)
  obtain ⟨b2_0, -⟩ := b2
  replace b2_0 : (0 ≤ p0.toInt ∧ p0.toInt ≤ 2) := b2_0
  have r3 := rgI p1
  have r4 := rgI p2
  have r5 := rgI p3
  refine sXb (s_X5_checkCase hN hK) (by decide) (by decide) (fun x11 b6 => ?_)
  obtain ⟨b6_0, b6_1, b6_2, -⟩ := b6
  replace b6_0 : (0 ≤ p1.toInt ∧ p1.toInt ≤ 5) := b6_0
  replace b6_1 : (0 ≤ p2.toInt ∧ p2.toInt ≤ 20) := b6_1
  replace b6_2 : (0 ≤ p3.toInt ∧ p3.toInt ≤ 20) := b6_2
  have r7 := rgI p4
  refine sXb (s_X5_checkRange hN hK (by omega) (by omega) (by omega) (by omega)) (by decide) (by decide) (fun x18 b8 => ?_)
  obtain ⟨b8_0, -⟩ := b8
  replace b8_0 : ((0 : Int32).toInt ≤ p4.toInt ∧ p4.toInt ≤ (2 : Int32).toInt) := b8_0
  have r9 := rgI sz
  refine sBind (s_X2_keeps hN hK (by omega) (by omega) (by omega) (by omega) (by omega) (by omega)) (fun x27 b10 => ?_)
  obtain ⟨b10_0, b10_1, -⟩ := b10
  replace b10_0 : 0 ≤ x27.toInt := b10_0
  replace b10_1 : x27.toInt ≤ 1 := b10_1
  have r11 := rgI x27
  refine sIfT (b01 (by omega) (by omega)) ?_
  exact sXl ⟨(by show 0 ≤ x27.toInt; omega), (by show x27.toInt ≤ 1; omega), trivial⟩
set_option maxHeartbeats 2000000 in
theorem s_X5_worthOr {N K : Nat} {sz : Int32} {f : Nat → Int32} {p0 : Int32} {p1 : Int32} {p2 : Int32} {p3 : Int32} {p4 : Int32} (hN : 2 ^ 40 ≤ N) (hK : 100 ≤ K)  : Sf (fX5_worthOr N K sz f p0 p1 p2 p3 p4) (xP true true (fun (z : Int32) => True)) := by
  unfold fX5_worthOr
  have ql0 : (0 : Int32).toInt = 0 := by decide
  have r1 := rgI p0
  refine sXb (s_X5_memoryAt hN hK) (by decide) (by decide) (fun x2 b2 => ?_)
  obtain ⟨b2_0, -⟩ := b2
  replace b2_0 : (0 ≤ p0.toInt ∧ p0.toInt ≤ 2) := b2_0
  have r3 := rgI p1
  have r4 := rgI p2
  have r5 := rgI p3
  refine sXb (s_X5_checkCase hN hK) (by decide) (by decide) (fun x11 b6 => ?_)
  obtain ⟨b6_0, b6_1, b6_2, -⟩ := b6
  replace b6_0 : (0 ≤ p1.toInt ∧ p1.toInt ≤ 5) := b6_0
  replace b6_1 : (0 ≤ p2.toInt ∧ p2.toInt ≤ 20) := b6_1
  replace b6_2 : (0 ≤ p3.toInt ∧ p3.toInt ≤ 20) := b6_2
  have r7 := rgI sz
  refine sBind (s_X2_keeps hN hK (by omega) (by omega) (by omega) (by omega) (by omega) (by omega)) (fun x20 b8 => ?_)
  obtain ⟨b8_0, b8_1, -⟩ := b8
  replace b8_0 : 0 ≤ x20.toInt := b8_0
  replace b8_1 : x20.toInt ≤ 1 := b8_1
  refine sIf (fun h9 => ?_) (fun h9 => ?_)
  · have r10 := rgI x20
    have fh9 := eqT h9
    have r11 := rgI p4
    exact sXl ⟨trivial⟩
  · have r12 := rgI x20
    have fh9 := eqF h9
    refine sBind (s_X2_keptWorth hN hK (by omega) (by omega) (by omega) (by omega) (by omega) (by omega)) (fun x35 b13 => ?_)
    have r14 := rgI x35
    exact sXl ⟨trivial⟩
set_option maxHeartbeats 2000000 in
theorem s_X5_confirm {N K : Nat} {sz : Int32} {f : Nat → Int32} {p0 : Int32} {p1 : Int32} {p2 : Int32} {p3 : Int32} {p4 : Int32} (hN : 2 ^ 40 ≤ N) (hK : 100 ≤ K)  : Sf (fX5_confirm N K sz f p0 p1 p2 p3 p4) (xP true true (fun (z : Int32) => 0 ≤ z.toInt ∧ z.toInt ≤ 1 ∧ True)) := by
  unfold fX5_confirm
  have ql0 : (0 : Int32).toInt = 0 := by decide
  have r1 := rgI p0
  refine sXb (s_X5_memoryAt hN hK) (by decide) (by decide) (fun x2 b2 => ?_)
  obtain ⟨b2_0, -⟩ := b2
  replace b2_0 : (0 ≤ p0.toInt ∧ p0.toInt ≤ 2) := b2_0
  have r3 := rgI p1
  have r4 := rgI p2
  have r5 := rgI p3
  refine sXb (s_X5_checkCase hN hK) (by decide) (by decide) (fun x11 b6 => ?_)
  obtain ⟨b6_0, b6_1, b6_2, -⟩ := b6
  replace b6_0 : (0 ≤ p1.toInt ∧ p1.toInt ≤ 5) := b6_0
  replace b6_1 : (0 ≤ p2.toInt ∧ p2.toInt ≤ 20) := b6_1
  replace b6_2 : (0 ≤ p3.toInt ∧ p3.toInt ≤ 20) := b6_2
  have r7 := rgI sz
  have r8 := rgI p4
  refine sBind (s_X2_keepsWith hN hK (by omega) (by omega) (by omega) (by omega) (by omega) (by omega)) (fun x22 b9 => ?_)
  obtain ⟨b9_0, b9_1, -⟩ := b9
  replace b9_0 : 0 ≤ x22.toInt := b9_0
  replace b9_1 : x22.toInt ≤ 1 := b9_1
  have r10 := rgI x22
  refine sIfT (b01 (by omega) (by omega)) ?_
  exact sXl ⟨(by show 0 ≤ x22.toInt; omega), (by show x22.toInt ≤ 1; omega), trivial⟩
set_option maxHeartbeats 2000000 in
theorem s_X5_about {N K : Nat} {sz : Int32} {f : Nat → Int32} {p0 : Int32} {p1 : Int32} (hN : 2 ^ 40 ≤ N) (hK : 100 ≤ K)  : Sf (fX5_about N K sz f p0 p1) (xP true true (fun (z : Int32) => True)) := by
  unfold fX5_about
  have ql0 : (0 : Int32).toInt = 0 := by decide
  have ql1 : (1 : Int32).toInt = 1 := by decide
  have ql2 : (2 : Int32).toInt = 2 := by decide
  have ql3 : (3 : Int32).toInt = 3 := by decide
  have r1 := rgI p0
  refine sXb (s_X5_memoryAt hN hK) (by decide) (by decide) (fun x2 b2 => ?_)
  obtain ⟨b2_0, -⟩ := b2
  replace b2_0 : (0 ≤ p0.toInt ∧ p0.toInt ≤ 2) := b2_0
  have r3 := rgI p1
  refine sXb (s_X5_checkRange hN hK (by omega) (by omega) (by omega) (by omega)) (by decide) (by decide) (fun x9 b4 => ?_)
  obtain ⟨b4_0, -⟩ := b4
  replace b4_0 : ((0 : Int32).toInt ≤ p1.toInt ∧ p1.toInt ≤ (3 : Int32).toInt) := b4_0
  refine sIf (fun h5 => ?_) (fun h5 => ?_)
  · have fh5 := eqT h5
    have r6 := rgI sz
    refine sBind (s_X2_size hN hK) (fun x41 b7 => ?_)
    have r8 := rgI x41
    exact sXl ⟨trivial⟩
  · have fh5 := eqF h5
    refine sIf (fun h9 => ?_) (fun h9 => ?_)
    · have fh9 := eqT h9
      have r10 := rgI sz
      refine sBind (s_X2_mark hN hK) (fun x46 b11 => ?_)
      have r12 := rgI x46
      exact sXl ⟨trivial⟩
    · have fh9 := eqF h9
      refine sIf (fun h13 => ?_) (fun h13 => ?_)
      · have fh13 := eqT h13
        have r14 := rgI sz
        refine sBind (s_X2_sumOfWorths hN hK) (fun x51 b15 => ?_)
        have r16 := rgI x51
        exact sXl ⟨trivial⟩
      · have fh13 := eqF h13
        have r17 := rgI sz
        refine sBind (s_X2_size hN hK) (fun x56 b18 => ?_)
        refine sIf (fun h19 => ?_) (fun h19 => ?_)
        · have r20 := rgI x56
          have fh19 := eqT h19
          exact sXl ⟨trivial⟩
        · have r21 := rgI x56
          have fh19 := eqF h19
          exact sXl ⟨trivial⟩
set_option maxHeartbeats 2000000 in
theorem s_X5_has {N K : Nat} {sz : Int32} {f : Nat → Int32} {p0 : Int32} {p1 : Int32} (hN : 2 ^ 40 ≤ N) (hK : 100 ≤ K)  : Sf (fX5_has N K sz f p0 p1) (xP true false (fun (z : Int32) => 0 ≤ z.toInt ∧ z.toInt ≤ 1 ∧ True)) := by
  unfold fX5_has
  have ql0 : (0 : Int32).toInt = 0 := by decide
  have ql1 : (1 : Int32).toInt = 1 := by decide
  have ql3 : (3 : Int32).toInt = 3 := by decide
  have r1 := rgI p0
  refine sXb (s_X5_memoryAt hN hK) (by decide) (by decide) (fun x2 b2 => ?_)
  obtain ⟨b2_0, -⟩ := b2
  replace b2_0 : (0 ≤ p0.toInt ∧ p0.toInt ≤ 2) := b2_0
  have r3 := rgI sz
  have r4 := rgI p1
  refine sBind (s_X2_howMany hN hK (by omega) (by omega)) (fun x7 b5 => ?_)
  refine sIf (fun h6 => ?_) (fun h6 => ?_)
  · have r7 := rgI x7
    have fh6 := leT h6
    exact sXl ⟨(by show 0 ≤ (0 : Int32).toInt; omega), (by show (0 : Int32).toInt ≤ 1; omega), trivial⟩
  · have r8 := rgI x7
    have fh6 := leF h6
    exact sXl ⟨(by show 0 ≤ (1 : Int32).toInt; omega), (by show (1 : Int32).toInt ≤ 1; omega), trivial⟩
set_option maxHeartbeats 2000000 in
theorem s_X5_count {N K : Nat} {sz : Int32} {f : Nat → Int32} {p0 : Int32} {p1 : Int32} {p2 : Int32} (hN : 2 ^ 40 ≤ N) (hK : 100 ≤ K)  : Sf (fX5_count N K sz f p0 p1 p2) (xP true true (fun (z : Int32) => True)) := by
  unfold fX5_count
  have ql0 : (0 : Int32).toInt = 0 := by decide
  have ql3 : (3 : Int32).toInt = 3 := by decide
  have r1 := rgI p0
  refine sXb (s_X5_memoryAt hN hK) (by decide) (by decide) (fun x2 b2 => ?_)
  obtain ⟨b2_0, -⟩ := b2
  replace b2_0 : (0 ≤ p0.toInt ∧ p0.toInt ≤ 2) := b2_0
  have r3 := rgI p1
  refine sXb (s_X5_checkRange hN hK (by omega) (by omega) (by omega) (by omega)) (by decide) (by decide) (fun x10 b4 => ?_)
  obtain ⟨b4_0, -⟩ := b4
  replace b4_0 : ((0 : Int32).toInt ≤ p1.toInt ∧ p1.toInt ≤ (3 : Int32).toInt) := b4_0
  have r5 := rgI sz
  have r6 := rgI p2
  refine sBind (s_X2_howMany hN hK (by omega) (by omega)) (fun x17 b7 => ?_)
  have r8 := rgI x17
  exact sXl ⟨trivial⟩
set_option maxHeartbeats 2000000 in
theorem s_X5_isSame {N K : Nat} {sz : Int32} {f : Nat → Int32} {tz : Int32} {f2 : Nat → Int32} {p0 : Int32} {p1 : Int32} (hN : 2 ^ 40 ≤ N) (hK : 100 ≤ K)  : Sf (fX5_isSame N K sz f tz f2 p0 p1) (xP true false (fun (z : Int32) => 0 ≤ z.toInt ∧ z.toInt ≤ 1 ∧ True)) := by
  unfold fX5_isSame
  have ql0 : (0 : Int32).toInt = 0 := by decide
  have r1 := rgI p0
  refine sXb (s_X5_memoryAt hN hK) (by decide) (by decide) (fun x2 b2 => ?_)
  obtain ⟨b2_0, -⟩ := b2
  replace b2_0 : (0 ≤ p0.toInt ∧ p0.toInt ≤ 2) := b2_0
  have r3 := rgI p1
  refine sXb (s_X5_memoryAt hN hK) (by decide) (by decide) (fun x8 b4 => ?_)
  obtain ⟨b4_0, -⟩ := b4
  replace b4_0 : (0 ≤ p1.toInt ∧ p1.toInt ≤ 2) := b4_0
  have r5 := rgI sz
  have r6 := rgI tz
  refine sBind (s_X2_isLike hN hK) (fun x16 b7 => ?_)
  obtain ⟨b7_0, b7_1, -⟩ := b7
  replace b7_0 : 0 ≤ x16.toInt := b7_0
  replace b7_1 : x16.toInt ≤ 1 := b7_1
  have r8 := rgI x16
  refine sIfT (b01 (by omega) (by omega)) ?_
  exact sXl ⟨(by show 0 ≤ x16.toInt; omega), (by show x16.toInt ≤ 1; omega), trivial⟩
set_option maxHeartbeats 2000000 in
theorem s_X5_isSameOwn {N K : Nat} {sz : Int32} {f : Nat → Int32} {p0 : Int32} (hN : 2 ^ 40 ≤ N) (hK : 100 ≤ K)  : Sf (fX5_isSameOwn N K sz f p0) (xP true false (fun (z : Int32) => 1 ≤ z.toInt ∧ z.toInt ≤ 1 ∧ True)) := by
  unfold fX5_isSameOwn
  have ql0 : (0 : Int32).toInt = 0 := by decide
  have r1 := rgI p0
  refine sXb (s_X5_memoryAt hN hK) (by decide) (by decide) (fun x2 b2 => ?_)
  obtain ⟨b2_0, -⟩ := b2
  replace b2_0 : (0 ≤ p0.toInt ∧ p0.toInt ≤ 2) := b2_0
  refine sXb (s_X5_memoryAt hN hK) (by decide) (by decide) (fun x8 b3 => ?_)
  obtain ⟨b3_0, -⟩ := b3
  replace b3_0 : (0 ≤ p0.toInt ∧ p0.toInt ≤ 2) := b3_0
  have r4 := rgI sz
  refine sBind (s_X2_isLikeOwn hN hK) (fun x16 b5 => ?_)
  obtain ⟨b5_0, b5_1, -⟩ := b5
  replace b5_0 : 1 ≤ x16.toInt := b5_0
  replace b5_1 : x16.toInt ≤ 1 := b5_1
  have r6 := rgI x16
  refine sIfT (b01 (by omega) (by omega)) ?_
  exact sXl ⟨(by show 1 ≤ x16.toInt; omega), (by show x16.toInt ≤ 1; omega), trivial⟩
set_option maxHeartbeats 2000000 in
theorem s_X5_walk {N K : Nat} {fw : Nat → Int32} {fs : Nat → Int32} {p0 : Int32} {p1 : Int32} {p2 : Int32} (hN : 2 ^ 40 ≤ N) (hK : 100 ≤ K)  : Sf (fX5_walk N K fw fs p0 p1 p2) (xP false true (fun (z : Int32 × (Nat → Int32) × (Nat → Int32)) => True)) := by
  unfold fX5_walk
  have ql0 : (0 : Int32).toInt = 0 := by decide
  have r1 := rgI p0
  have r2 := rgI p1
  have r3 := rgI p2
  refine sXb (s_X5_checkAnyCase hN hK) (by decide) (by decide) (fun x3 b4 => ?_)
  obtain ⟨b4_0, b4_1, b4_2, -⟩ := b4
  replace b4_0 : (0 ≤ p0.toInt ∧ p0.toInt ≤ 7) := b4_0
  replace b4_1 : (0 ≤ p1.toInt ∧ p1.toInt ≤ 20) := b4_1
  replace b4_2 : (0 ≤ p2.toInt ∧ p2.toInt ≤ 20) := b4_2
  refine sBind (s_X5_waysOneByOne hN hK (by omega) (by omega) (by omega) (by omega) (by omega) (by omega)) (fun x10 b5 => ?_)
  have r6 := rgI x10.1
  exact sXl ⟨trivial⟩
set_option maxHeartbeats 2000000 in
theorem s_X5_product {N K : Nat} {g : Nat → Int32} {p0 : Int32} {p1 : Int32} {p2 : Int32} (hN : 2 ^ 40 ≤ N) (hK : 100 ≤ K)  : Sf (fX5_product N K g p0 p1 p2) (xP false true (fun (z : Int32 × (Nat → Int32)) => True)) := by
  unfold fX5_product
  have ql0 : (0 : Int32).toInt = 0 := by decide
  have r1 := rgI p0
  have r2 := rgI p1
  have r3 := rgI p2
  refine sXb (s_X5_checkAnyCase hN hK) (by decide) (by decide) (fun x3 b4 => ?_)
  obtain ⟨b4_0, b4_1, b4_2, -⟩ := b4
  replace b4_0 : (0 ≤ p0.toInt ∧ p0.toInt ≤ 7) := b4_0
  replace b4_1 : (0 ≤ p1.toInt ∧ p1.toInt ≤ 20) := b4_1
  replace b4_2 : (0 ≤ p2.toInt ∧ p2.toInt ≤ 20) := b4_2
  refine sBind (s_X3_tells hN hK (by omega) (by omega) (by omega) (by omega) (by omega) (by omega)) (fun x13 b5 => ?_)
  have r6 := rgI x13.1
  exact sXl ⟨trivial⟩
set_option maxHeartbeats 2000000 in
theorem s_X5_rule {N K : Nat} {ru : Int32} {sz : Int32} {f : Nat → Int32} {c0 : Int32} {c1 : Int32} {c2 : Int32} {c3 : Int32} {c4 : Int32} {c5 : Int32} {p0 : Int32} {p1 : Int32} (hN : 2 ^ 40 ≤ N) (hK : 100 ≤ K)  : Sf (fX5_rule N K ru sz f c0 c1 c2 c3 c4 c5 p0 p1) (xP true true (fun (z : Int32 × Int32 × (Nat → Int32) × Int32 × Int32 × Int32 × Int32) => True)) := by
  unfold fX5_rule
  have ql0 : (0 : Int32).toInt = 0 := by decide
  have ql20 : (20 : Int32).toInt = 20 := by decide
  have r1 := rgI p0
  refine sXb (s_X5_ledgerAt hN hK) (by decide) (by decide) (fun x2 b2 => ?_)
  obtain ⟨b2_0, -⟩ := b2
  replace b2_0 : (0 ≤ p0.toInt ∧ p0.toInt ≤ 2) := b2_0
  have r3 := rgI p1
  refine sXb (s_X5_checkRange hN hK (by omega) (by omega) (by omega) (by omega)) (by decide) (by decide) (fun x10 b4 => ?_)
  obtain ⟨b4_0, -⟩ := b4
  replace b4_0 : ((0 : Int32).toInt ≤ p1.toInt ∧ p1.toInt ≤ (20 : Int32).toInt) := b4_0
  have r5 := rgI ru
  have r6 := rgI sz
  have r7 := rgI c0
  have r8 := rgI c1
  have r9 := rgI c2
  have r10 := rgI c3
  have r11 := rgI c4
  have r12 := rgI c5
  refine sBind (s_X1_recall hN hK (by omega) (by omega)) (fun x20 b13 => ?_)
  have r14 := rgI x20.2.2.2.1
  have r15 := rgI x20.2.2.2.2.1
  have r16 := rgI x20.2.2.2.2.2
  have r17 := rgI x20.1
  refine sBind (s_X5_acted hN hK) (fun x23 b18 => ?_)
  have r19 := rgI x23.1
  have r20 := rgI x20.2.1
  have r21 := rgI x23.2
  exact sXl ⟨trivial⟩
set_option maxHeartbeats 2000000 in
theorem s_X5_forgetRule {N K : Nat} {ru : Int32} {sz : Int32} {f : Nat → Int32} {c0 : Int32} {c1 : Int32} {c2 : Int32} {c3 : Int32} {c4 : Int32} {c5 : Int32} {p0 : Int32} {p1 : Int32} (hN : 2 ^ 40 ≤ N) (hK : 100 ≤ K)  : Sf (fX5_forgetRule N K ru sz f c0 c1 c2 c3 c4 c5 p0 p1) (xP true true (fun (z : Int32 × Int32 × (Nat → Int32) × Int32 × Int32) => True)) := by
  unfold fX5_forgetRule
  have ql0 : (0 : Int32).toInt = 0 := by decide
  have ql20 : (20 : Int32).toInt = 20 := by decide
  have r1 := rgI p0
  refine sXb (s_X5_ledgerAt hN hK) (by decide) (by decide) (fun x2 b2 => ?_)
  obtain ⟨b2_0, -⟩ := b2
  replace b2_0 : (0 ≤ p0.toInt ∧ p0.toInt ≤ 2) := b2_0
  have r3 := rgI p1
  refine sXb (s_X5_checkRange hN hK (by omega) (by omega) (by omega) (by omega)) (by decide) (by decide) (fun x10 b4 => ?_)
  obtain ⟨b4_0, -⟩ := b4
  replace b4_0 : ((0 : Int32).toInt ≤ p1.toInt ∧ p1.toInt ≤ (20 : Int32).toInt) := b4_0
  refine sIf (fun h5 => ?_) (fun h5 => ?_)
  · have fh5 := eqT h5
    have r6 := rgI ru
    have r7 := rgI sz
    refine sBind (s_X1_dropAll hN hK) (fun x19 b8 => ?_)
    obtain ⟨b8_0, b8_1, -⟩ := b8
    replace b8_0 : 0 ≤ x19.2.1.toInt := b8_0
    replace b8_1 : x19.2.1.toInt ≤ 0 := b8_1
    have r9 := rgI c0
    have r10 := rgI c1
    have r11 := rgI c2
    have r12 := rgI c3
    have r13 := rgI c4
    have r14 := rgI c5
    have r15 := rgI x19.1
    refine sBind (s_X5_acted hN hK) (fun x22 b16 => ?_)
    have r17 := rgI x22.1
    have r18 := rgI x19.2.1
    have r19 := rgI x22.2
    exact sXl ⟨trivial⟩
  · have fh5 := eqF h5
    have r20 := rgI ru
    have r21 := rgI sz
    refine sBind (s_X1_keeps hN hK (by omega) (by omega)) (fun x28 b22 => ?_)
    obtain ⟨b22_0, b22_1, -⟩ := b22
    replace b22_0 : 0 ≤ x28.toInt := b22_0
    replace b22_1 : x28.toInt ≤ 1 := b22_1
    refine sIf (fun h23 => ?_) (fun h23 => ?_)
    · have r24 := rgI x28
      have fh23 := eqT h23
      have r25 := rgI c0
      have r26 := rgI c1
      have r27 := rgI c2
      have r28 := rgI c3
      have r29 := rgI c4
      have r30 := rgI c5
      refine sBind (s_X5_undone hN hK) (fun x35 b31 => ?_)
      obtain ⟨b31_0, b31_1, -⟩ := b31
      replace b31_0 : -9 ≤ x35.1.toInt := b31_0
      replace b31_1 : x35.1.toInt ≤ -9 := b31_1
      have r32 := rgI x35.1
      have r33 := rgI x35.2
      exact sXl ⟨trivial⟩
    · have r34 := rgI x28
      have fh23 := eqF h23
      refine sBind (s_X1_keptWorth hN hK (by omega) (by omega)) (fun x41 b35 => ?_)
      refine sBind (s_X1_drop hN hK (by omega) (by omega)) (fun x48 b36 => ?_)
      have r37 := rgI c0
      have r38 := rgI c1
      have r39 := rgI c2
      have r40 := rgI c3
      have r41 := rgI c4
      have r42 := rgI c5
      have r43 := rgI x41
      refine sBind (s_X5_acted hN hK) (fun x54 b44 => ?_)
      have r45 := rgI x54.1
      have r46 := rgI x48.1
      have r47 := rgI x54.2
      exact sXl ⟨trivial⟩
set_option maxHeartbeats 2000000 in
theorem s_X5_ledger {N K : Nat} {ru : Int32} {sz : Int32} {f : Nat → Int32} {p0 : Int32} {p1 : Int32} (hN : 2 ^ 40 ≤ N) (hK : 100 ≤ K)  : Sf (fX5_ledger N K ru sz f p0 p1) (xP true true (fun (z : Int32) => True)) := by
  unfold fX5_ledger
  have ql0 : (0 : Int32).toInt = 0 := by decide
  have ql1 : (1 : Int32).toInt = 1 := by decide
  have r1 := rgI p0
  refine sXb (s_X5_ledgerAt hN hK) (by decide) (by decide) (fun x2 b2 => ?_)
  obtain ⟨b2_0, -⟩ := b2
  replace b2_0 : (0 ≤ p0.toInt ∧ p0.toInt ≤ 2) := b2_0
  have r3 := rgI p1
  refine sXb (s_X5_checkRange hN hK (by omega) (by omega) (by omega) (by omega)) (by decide) (by decide) (fun x9 b4 => ?_)
  obtain ⟨b4_0, -⟩ := b4
  replace b4_0 : ((0 : Int32).toInt ≤ p1.toInt ∧ p1.toInt ≤ (1 : Int32).toInt) := b4_0
  refine sIf (fun h5 => ?_) (fun h5 => ?_)
  · have fh5 := eqT h5
    have r6 := rgI ru
    have r7 := rgI sz
    refine sBind (s_X1_size hN hK) (fun x17 b8 => ?_)
    have r9 := rgI x17
    exact sXl ⟨trivial⟩
  · have fh5 := eqF h5
    have r10 := rgI ru
    have r11 := rgI sz
    refine sBind (s_X1_mark hN hK) (fun x24 b12 => ?_)
    have r13 := rgI x24
    exact sXl ⟨trivial⟩
set_option maxHeartbeats 2000000 in
theorem s_X5_ruleWorth {N K : Nat} {ru : Int32} {sz : Int32} {f : Nat → Int32} {p0 : Int32} {p1 : Int32} {p2 : Int32} (hN : 2 ^ 40 ≤ N) (hK : 100 ≤ K)  : Sf (fX5_ruleWorth N K ru sz f p0 p1 p2) (xP true true (fun (z : Int32) => True)) := by
  unfold fX5_ruleWorth
  have qlm1 : (-1 : Int32).toInt = -1 := by decide
  have ql0 : (0 : Int32).toInt = 0 := by decide
  have ql1 : (1 : Int32).toInt = 1 := by decide
  have ql20 : (20 : Int32).toInt = 20 := by decide
  have r1 := rgI p0
  refine sXb (s_X5_ledgerAt hN hK) (by decide) (by decide) (fun x2 b2 => ?_)
  obtain ⟨b2_0, -⟩ := b2
  replace b2_0 : (0 ≤ p0.toInt ∧ p0.toInt ≤ 2) := b2_0
  have r3 := rgI p1
  refine sXb (s_X5_checkRange hN hK (by omega) (by omega) (by omega) (by omega)) (by decide) (by decide) (fun x11 b4 => ?_)
  obtain ⟨b4_0, -⟩ := b4
  replace b4_0 : ((0 : Int32).toInt ≤ p1.toInt ∧ p1.toInt ≤ (20 : Int32).toInt) := b4_0
  have r5 := rgI p2
  refine sXb (s_X5_checkRange hN hK (by omega) (by omega) (by omega) (by omega)) (by decide) (by decide) (fun x17 b6 => ?_)
  obtain ⟨b6_0, -⟩ := b6
  replace b6_0 : ((0 : Int32).toInt ≤ p2.toInt ∧ p2.toInt ≤ (1 : Int32).toInt) := b6_0
  have r7 := rgI ru
  have r8 := rgI sz
  refine sBind (s_X1_keeps hN hK (by omega) (by omega)) (fun x23 b9 => ?_)
  obtain ⟨b9_0, b9_1, -⟩ := b9
  replace b9_0 : 0 ≤ x23.toInt := b9_0
  replace b9_1 : x23.toInt ≤ 1 := b9_1
  refine sIf (fun h10 => ?_) (fun h10 => ?_)
  · have r11 := rgI x23
    have fh10 := eqT h10
    exact sXl ⟨trivial⟩
  · have r12 := rgI x23
    have fh10 := eqF h10
    refine sBind (s_X1_keptWorth hN hK (by omega) (by omega)) (fun x32 b13 => ?_)
    have r14 := rgI x32
    exact sXl ⟨trivial⟩
set_option maxHeartbeats 2000000 in
theorem s_X5_addPart {N K : Nat} {f : Nat → Int32} {c0 : Int32} {c1 : Int32} {c2 : Int32} {c3 : Int32} {c4 : Int32} {c5 : Int32} {p0 : Int32} {p1 : Int32} {p2 : Int32} (hN : 2 ^ 40 ≤ N) (hK : 100 ≤ K)  : Sf (fX5_addPart N K f c0 c1 c2 c3 c4 c5 p0 p1 p2) (xP true true (fun (z : Int32 × (Nat → Int32) × Int32 × Int32) => True)) := by
  unfold fX5_addPart
  have ql0 : (0 : Int32).toInt = 0 := by decide
  have ql1 : (1 : Int32).toInt = 1 := by decide
  have ql20 : (20 : Int32).toInt = 20 := by decide
  have r1 := rgI p0
  refine sXb (s_X5_deskAt hN hK) (by decide) (by decide) (fun x2 b2 => ?_)
  obtain ⟨b2_0, -⟩ := b2
  replace b2_0 : (0 ≤ p0.toInt ∧ p0.toInt ≤ 1) := b2_0
  have r3 := rgI p1
  refine sXb (s_X5_checkRange hN hK (by omega) (by omega) (by omega) (by omega)) (by decide) (by decide) (fun x11 b4 => ?_)
  obtain ⟨b4_0, -⟩ := b4
  replace b4_0 : ((1 : Int32).toInt ≤ p1.toInt ∧ p1.toInt ≤ (20 : Int32).toInt) := b4_0
  have r5 := rgI p2
  refine sXb (s_X5_checkRange hN hK (by omega) (by omega) (by omega) (by omega)) (by decide) (by decide) (fun x18 b6 => ?_)
  obtain ⟨b6_0, -⟩ := b6
  replace b6_0 : ((1 : Int32).toInt ≤ p2.toInt ∧ p2.toInt ≤ (20 : Int32).toInt) := b6_0
  refine sBind (s_X4_sum hN hK) (fun x23 b7 => ?_)
  refine sIf (fun h8 => ?_) (fun h8 => ?_)
  · have r9 := rgI (x23 + (p1 * p2))
    have fh8 := leT h8
    refine sBind (s_X4_put hN hK) (fun x44 b10 => ?_)
    refine sBind (s_X4_timesOf hN hK (by omega) (by omega)) (fun x51 b11 => ?_)
    have r12 := rgI c0
    have r13 := rgI c1
    have r14 := rgI c2
    have r15 := rgI c3
    have r16 := rgI c4
    have r17 := rgI c5
    have r18 := rgI x51
    refine sBind (s_X5_acted hN hK) (fun x54 b19 => ?_)
    have r20 := rgI x54.1
    have r21 := rgI x54.2
    exact sXl ⟨trivial⟩
  · have r22 := rgI (x23 + (p1 * p2))
    have fh8 := leF h8
    have r23 := rgI c0
    have r24 := rgI c1
    have r25 := rgI c2
    have r26 := rgI c3
    have r27 := rgI c4
    have r28 := rgI c5
    refine sBind (s_X5_undone hN hK) (fun x36 b29 => ?_)
    obtain ⟨b29_0, b29_1, -⟩ := b29
    replace b29_0 : -9 ≤ x36.1.toInt := b29_0
    replace b29_1 : x36.1.toInt ≤ -9 := b29_1
    have r30 := rgI x36.1
    have r31 := rgI x36.2
    exact sXl ⟨trivial⟩
set_option maxHeartbeats 2000000 in
theorem s_X5_takePart {N K : Nat} {f : Nat → Int32} {c0 : Int32} {c1 : Int32} {c2 : Int32} {c3 : Int32} {c4 : Int32} {c5 : Int32} {p0 : Int32} {p1 : Int32} (hN : 2 ^ 40 ≤ N) (hK : 100 ≤ K)  : Sf (fX5_takePart N K f c0 c1 c2 c3 c4 c5 p0 p1) (xP true true (fun (z : Int32 × (Nat → Int32) × Int32 × Int32) => True)) := by
  unfold fX5_takePart
  have qlm1 : (-1 : Int32).toInt = -1 := by decide
  have ql0 : (0 : Int32).toInt = 0 := by decide
  have ql1 : (1 : Int32).toInt = 1 := by decide
  have ql20 : (20 : Int32).toInt = 20 := by decide
  have r1 := rgI p0
  refine sXb (s_X5_deskAt hN hK) (by decide) (by decide) (fun x2 b2 => ?_)
  obtain ⟨b2_0, -⟩ := b2
  replace b2_0 : (0 ≤ p0.toInt ∧ p0.toInt ≤ 1) := b2_0
  have r3 := rgI p1
  refine sXb (s_X5_checkRange hN hK (by omega) (by omega) (by omega) (by omega)) (by decide) (by decide) (fun x10 b4 => ?_)
  obtain ⟨b4_0, -⟩ := b4
  replace b4_0 : ((1 : Int32).toInt ≤ p1.toInt ∧ p1.toInt ≤ (20 : Int32).toInt) := b4_0
  refine sBind (s_X4_timesOf hN hK (by omega) (by omega)) (fun x15 b5 => ?_)
  refine sIf (fun h6 => ?_) (fun h6 => ?_)
  · have r7 := rgI x15
    have fh6 := eqT h6
    have r8 := rgI c0
    have r9 := rgI c1
    have r10 := rgI c2
    have r11 := rgI c3
    have r12 := rgI c4
    have r13 := rgI c5
    refine sBind (s_X5_undone hN hK) (fun x22 b14 => ?_)
    obtain ⟨b14_0, b14_1, -⟩ := b14
    replace b14_0 : -9 ≤ x22.1.toInt := b14_0
    replace b14_1 : x22.1.toInt ≤ -9 := b14_1
    have r15 := rgI x22.1
    have r16 := rgI x22.2
    exact sXl ⟨trivial⟩
  · have r17 := rgI x15
    have fh6 := eqF h6
    refine sBind (s_X4_put hN hK) (fun x29 b18 => ?_)
    refine sBind (s_X4_timesOf hN hK (by omega) (by omega)) (fun x35 b19 => ?_)
    have r20 := rgI c0
    have r21 := rgI c1
    have r22 := rgI c2
    have r23 := rgI c3
    have r24 := rgI c4
    have r25 := rgI c5
    have r26 := rgI x35
    refine sBind (s_X5_acted hN hK) (fun x38 b27 => ?_)
    have r28 := rgI x38.1
    have r29 := rgI x38.2
    exact sXl ⟨trivial⟩
set_option maxHeartbeats 2000000 in
theorem s_X5_layFirst {N K : Nat} {f : Nat → Int32} {c0 : Int32} {c1 : Int32} {c2 : Int32} {c3 : Int32} {c4 : Int32} {c5 : Int32} {p0 : Int32} {p1 : Int32} (hN : 2 ^ 40 ≤ N) (hK : 100 ≤ K)  : Sf (fX5_layFirst N K f c0 c1 c2 c3 c4 c5 p0 p1) (xP true true (fun (z : Int32 × (Nat → Int32) × Int32) => True)) := by
  unfold fX5_layFirst
  have ql0 : (0 : Int32).toInt = 0 := by decide
  have ql20 : (20 : Int32).toInt = 20 := by decide
  have r1 := rgI p0
  refine sXb (s_X5_deskAt hN hK) (by decide) (by decide) (fun x2 b2 => ?_)
  obtain ⟨b2_0, -⟩ := b2
  replace b2_0 : (0 ≤ p0.toInt ∧ p0.toInt ≤ 1) := b2_0
  have r3 := rgI p1
  refine sXb (s_X5_checkRange hN hK (by omega) (by omega) (by omega) (by omega)) (by decide) (by decide) (fun x10 b4 => ?_)
  obtain ⟨b4_0, -⟩ := b4
  replace b4_0 : ((0 : Int32).toInt ≤ p1.toInt ∧ p1.toInt ≤ (20 : Int32).toInt) := b4_0
  refine sBind (s_X4_becomeFirst hN hK (by omega) (by omega)) (fun x15 b5 => ?_)
  refine sBind (s_X4_parts hN hK) (fun x20 b6 => ?_)
  have r7 := rgI c0
  have r8 := rgI c1
  have r9 := rgI c2
  have r10 := rgI c3
  have r11 := rgI c4
  have r12 := rgI c5
  have r13 := rgI x20
  refine sBind (s_X5_acted hN hK) (fun x23 b14 => ?_)
  have r15 := rgI x23.1
  have r16 := rgI x23.2
  exact sXl ⟨trivial⟩
set_option maxHeartbeats 2000000 in
theorem s_X5_next {N K : Nat} {f : Nat → Int32} {c0 : Int32} {c1 : Int32} {c2 : Int32} {c3 : Int32} {c4 : Int32} {c5 : Int32} {p0 : Int32} (hN : 2 ^ 40 ≤ N) (hK : 100 ≤ K)  : Sf (fX5_next N K f c0 c1 c2 c3 c4 c5 p0) (xP true false (fun (z : Int32 × (Nat → Int32) × Int32 × Int32) => True)) := by
  unfold fX5_next
  have ql0 : (0 : Int32).toInt = 0 := by decide
  have r1 := rgI p0
  refine sXb (s_X5_deskAt hN hK) (by decide) (by decide) (fun x2 b2 => ?_)
  obtain ⟨b2_0, -⟩ := b2
  replace b2_0 : (0 ≤ p0.toInt ∧ p0.toInt ≤ 1) := b2_0
  refine sBind (s_X4_stepOn hN hK) (fun x7 b3 => ?_)
  obtain ⟨b3_0, b3_1, -⟩ := b3
  replace b3_0 : 0 ≤ x7.1.toInt := b3_0
  replace b3_1 : x7.1.toInt ≤ 1 := b3_1
  refine sIf (fun h4 => ?_) (fun h4 => ?_)
  · have r5 := rgI x7.1
    have fh4 := eqT h4
    have r6 := rgI c0
    have r7 := rgI c1
    have r8 := rgI c2
    have r9 := rgI c3
    have r10 := rgI c4
    have r11 := rgI c5
    refine sBind (s_X5_undone hN hK) (fun x14 b12 => ?_)
    obtain ⟨b12_0, b12_1, -⟩ := b12
    replace b12_0 : -9 ≤ x14.1.toInt := b12_0
    replace b12_1 : x14.1.toInt ≤ -9 := b12_1
    have r13 := rgI x14.1
    have r14 := rgI x14.2
    exact sXl ⟨trivial⟩
  · have r15 := rgI x7.1
    have fh4 := eqF h4
    refine sBind (s_X4_parts hN hK) (fun x20 b16 => ?_)
    have r17 := rgI c0
    have r18 := rgI c1
    have r19 := rgI c2
    have r20 := rgI c3
    have r21 := rgI c4
    have r22 := rgI c5
    have r23 := rgI x20
    refine sBind (s_X5_acted hN hK) (fun x23 b24 => ?_)
    have r25 := rgI x23.1
    have r26 := rgI x23.2
    exact sXl ⟨trivial⟩
set_option maxHeartbeats 2000000 in
theorem s_X5_turn_49 {N K : Nat} {f : Nat → Int32} {c0 : Int32} {c1 : Int32} {c2 : Int32} {c3 : Int32} {c4 : Int32} {c5 : Int32} {fs : Nat → Int32} {p0 : Int32} (hN : 2 ^ 40 ≤ N) (hK : 100 ≤ K)  : ∀ (s0 : Int32) (f_ : Nat → Int32) (c0_ : Int32) (fs_ : Nat → Int32), 0 ≤ p0.toInt → p0.toInt ≤ 1 → 0 ≤ s0.toInt → s0.toInt ≤ 1 → (s0.toInt = 0 → 0 ≤ p0.toInt ∧ p0.toInt ≤ 1) → Sf (fX5_turn_49 N K f c0 c1 c2 c3 c4 c5 fs p0  s0 f_ c0_ fs_) (xP true false (fun (z : Int32 × (Nat → Int32) × Int32 × (Nat → Int32)) => True)) := by
  intro s0 f_ c0_ fs_ hq0 hq1 hq2 hq3 hq4
  unfold fX5_turn_49
  have ql0 : (0 : Int32).toInt = 0 := by decide
  have r1 := rgI c0_
  have r2 := rgI c1
  have r3 := rgI c2
  have r4 := rgI c3
  have r5 := rgI c4
  have r6 := rgI c5
  have r7 := rgI s0
  refine sBind (s_X5_acted hN hK) (fun x49 b8 => ?_)
  have r9 := rgI x49.1
  have r10 := rgI x49.2
  exact sXl ⟨trivial⟩
set_option maxHeartbeats 2000000 in
theorem s_X5_turn_30 {N K : Nat} {f : Nat → Int32} {c0 : Int32} {c1 : Int32} {c2 : Int32} {c3 : Int32} {c4 : Int32} {c5 : Int32} {fs : Nat → Int32} {p0 : Int32} (hN : 2 ^ 40 ≤ N) (hK : 100 ≤ K)  : ∀ (s0 : Int32) (f_ : Nat → Int32) (c0_ : Int32) (fs_ : Nat → Int32), 0 ≤ p0.toInt → p0.toInt ≤ 1 → 0 ≤ s0.toInt → s0.toInt ≤ 1 → (s0.toInt = 0 → 0 ≤ p0.toInt ∧ p0.toInt ≤ 1) → Sf (fX5_turn_30 N K f c0 c1 c2 c3 c4 c5 fs p0  s0 f_ c0_ fs_) (xP true false (fun (z : Int32 × (Nat → Int32) × Int32 × (Nat → Int32)) => True)) := by
  intro s0 f_ c0_ fs_ hq0 hq1 hq2 hq3 hq4
  unfold fX5_turn_30
  have ql0 : (0 : Int32).toInt = 0 := by decide
  have ql1 : (1 : Int32).toInt = 1 := by decide
  refine sBind (s_X4_become hN hK) (fun x36 b1 => ?_)
  refine sIf (fun h2 => ?_) (fun h2 => ?_)
  · have r3 := rgI s0
    have fh2 := eqT h2
    have r4 := rgI c0_
    exact s_X5_turn_49  hN hK _ _ _ _ (by omega) (by omega) (by omega) (by omega) (by omega)
  · have r5 := rgI s0
    have fh2 := eqF h2
    have r6 := rgI c0_
    exact s_X5_turn_49  hN hK _ _ _ _ (by omega) (by omega) (by omega) (by omega) (by omega)
set_option maxHeartbeats 2000000 in
theorem s_X5_turn {N K : Nat} {f : Nat → Int32} {c0 : Int32} {c1 : Int32} {c2 : Int32} {c3 : Int32} {c4 : Int32} {c5 : Int32} {fs : Nat → Int32} {p0 : Int32} (hN : 2 ^ 40 ≤ N) (hK : 100 ≤ K)  : Sf (fX5_turn N K f c0 c1 c2 c3 c4 c5 fs p0) (xP true false (fun (z : Int32 × (Nat → Int32) × Int32 × (Nat → Int32)) => True)) := by
  unfold fX5_turn
  have ql0 : (0 : Int32).toInt = 0 := by decide
  have ql1 : (1 : Int32).toInt = 1 := by decide
  have r1 := rgI p0
  refine sXb (s_X5_deskAt hN hK) (by decide) (by decide) (fun x2 b2 => ?_)
  obtain ⟨b2_0, -⟩ := b2
  replace b2_0 : (0 ≤ p0.toInt ∧ p0.toInt ≤ 1) := b2_0
  refine sBind (s_X4_becomeTurned hN hK) (fun x11 b3 => ?_)
  refine sBind (s_X4_isLike hN hK) (fun x19 b4 => ?_)
  obtain ⟨b4_0, b4_1, -⟩ := b4
  replace b4_0 : 0 ≤ x19.toInt := b4_0
  replace b4_1 : x19.toInt ≤ 1 := b4_1
  refine sIf (fun h5 => ?_) (fun h5 => ?_)
  · have r6 := rgI x19
    have fh5 := eqT h5
    have r7 := rgI c0
    exact s_X5_turn_30  hN hK _ _ _ _ (by omega) (by omega) (by omega) (by omega) (by omega)
  · have r8 := rgI x19
    have fh5 := eqF h5
    have r9 := rgI c0
    exact s_X5_turn_30  hN hK _ _ _ _ (by omega) (by omega) (by omega) (by omega) (by omega)
set_option maxHeartbeats 2000000 in
theorem s_X5_toUnlike {N K : Nat} {f : Nat → Int32} {c0 : Int32} {c1 : Int32} {c2 : Int32} {c3 : Int32} {c4 : Int32} {c5 : Int32} {fs : Nat → Int32} {p0 : Int32} (hN : 2 ^ 40 ≤ N) (hK : 100 ≤ K)  : Sf (fX5_toUnlike N K f c0 c1 c2 c3 c4 c5 fs p0) (xP true false (fun (z : Int32 × (Nat → Int32) × Int32 × Int32 × (Nat → Int32)) => True)) := by
  unfold fX5_toUnlike
  have ql0 : (0 : Int32).toInt = 0 := by decide
  have r1 := rgI p0
  refine sXb (s_X5_deskAt hN hK) (by decide) (by decide) (fun x2 b2 => ?_)
  obtain ⟨b2_0, -⟩ := b2
  replace b2_0 : (0 ≤ p0.toInt ∧ p0.toInt ≤ 1) := b2_0
  refine sBind (s_X4_isOdd hN hK) (fun x7 b3 => ?_)
  obtain ⟨b3_0, b3_1, -⟩ := b3
  replace b3_0 : 0 ≤ x7.toInt := b3_0
  replace b3_1 : x7.toInt ≤ 1 := b3_1
  refine sIf (fun h4 => ?_) (fun h4 => ?_)
  · have r5 := rgI x7
    have fh4 := eqT h4
    have r6 := rgI c0
    have r7 := rgI c1
    have r8 := rgI c2
    have r9 := rgI c3
    have r10 := rgI c4
    have r11 := rgI c5
    refine sBind (s_X5_undone hN hK) (fun x14 b12 => ?_)
    obtain ⟨b12_0, b12_1, -⟩ := b12
    replace b12_0 : -9 ≤ x14.1.toInt := b12_0
    replace b12_1 : x14.1.toInt ≤ -9 := b12_1
    have r13 := rgI x14.1
    have r14 := rgI x14.2
    exact sXl ⟨trivial⟩
  · have r15 := rgI x7
    have fh4 := eqF h4
    refine sBind (s_X4_becomeUnlike hN hK) (fun x23 b16 => ?_)
    refine sBind (s_X4_become hN hK) (fun x31 b17 => ?_)
    refine sBind (s_X4_parts hN hK) (fun x36 b18 => ?_)
    have r19 := rgI c0
    have r20 := rgI c1
    have r21 := rgI c2
    have r22 := rgI c3
    have r23 := rgI c4
    have r24 := rgI c5
    have r25 := rgI x36
    refine sBind (s_X5_acted hN hK) (fun x39 b26 => ?_)
    have r27 := rgI x39.1
    have r28 := rgI x39.2
    exact sXl ⟨trivial⟩
set_option maxHeartbeats 2000000 in
theorem s_X5_toOdd {N K : Nat} {f : Nat → Int32} {c0 : Int32} {c1 : Int32} {c2 : Int32} {c3 : Int32} {c4 : Int32} {c5 : Int32} {fs : Nat → Int32} {p0 : Int32} (hN : 2 ^ 40 ≤ N) (hK : 100 ≤ K)  : Sf (fX5_toOdd N K f c0 c1 c2 c3 c4 c5 fs p0) (xP true false (fun (z : Int32 × (Nat → Int32) × Int32 × Int32 × (Nat → Int32)) => True)) := by
  unfold fX5_toOdd
  have ql0 : (0 : Int32).toInt = 0 := by decide
  have r1 := rgI p0
  refine sXb (s_X5_deskAt hN hK) (by decide) (by decide) (fun x2 b2 => ?_)
  obtain ⟨b2_0, -⟩ := b2
  replace b2_0 : (0 ≤ p0.toInt ∧ p0.toInt ≤ 1) := b2_0
  refine sBind (s_X4_isUnlike hN hK) (fun x7 b3 => ?_)
  obtain ⟨b3_0, b3_1, -⟩ := b3
  replace b3_0 : 0 ≤ x7.toInt := b3_0
  replace b3_1 : x7.toInt ≤ 1 := b3_1
  refine sIf (fun h4 => ?_) (fun h4 => ?_)
  · have r5 := rgI x7
    have fh4 := eqT h4
    have r6 := rgI c0
    have r7 := rgI c1
    have r8 := rgI c2
    have r9 := rgI c3
    have r10 := rgI c4
    have r11 := rgI c5
    refine sBind (s_X5_undone hN hK) (fun x14 b12 => ?_)
    obtain ⟨b12_0, b12_1, -⟩ := b12
    replace b12_0 : -9 ≤ x14.1.toInt := b12_0
    replace b12_1 : x14.1.toInt ≤ -9 := b12_1
    have r13 := rgI x14.1
    have r14 := rgI x14.2
    exact sXl ⟨trivial⟩
  · have r15 := rgI x7
    have fh4 := eqF h4
    refine sBind (s_X4_becomeOdd hN hK) (fun x23 b16 => ?_)
    refine sBind (s_X4_become hN hK) (fun x31 b17 => ?_)
    refine sBind (s_X4_parts hN hK) (fun x36 b18 => ?_)
    have r19 := rgI c0
    have r20 := rgI c1
    have r21 := rgI c2
    have r22 := rgI c3
    have r23 := rgI c4
    have r24 := rgI c5
    have r25 := rgI x36
    refine sBind (s_X5_acted hN hK) (fun x39 b26 => ?_)
    have r27 := rgI x39.1
    have r28 := rgI x39.2
    exact sXl ⟨trivial⟩
set_option maxHeartbeats 2000000 in
theorem s_X5_copyDesk {N K : Nat} {f : Nat → Int32} {f2 : Nat → Int32} {c0 : Int32} {c1 : Int32} {c2 : Int32} {c3 : Int32} {c4 : Int32} {c5 : Int32} {p0 : Int32} (hN : 2 ^ 40 ≤ N) (hK : 100 ≤ K)  : Sf (fX5_copyDesk N K f f2 c0 c1 c2 c3 c4 c5 p0) (xP true false (fun (z : Int32 × (Nat → Int32) × Int32) => True)) := by
  unfold fX5_copyDesk
  have ql0 : (0 : Int32).toInt = 0 := by decide
  have ql1 : (1 : Int32).toInt = 1 := by decide
  have r1 := rgI p0
  refine sXb (s_X5_deskAt hN hK) (by decide) (by decide) (fun x2 b2 => ?_)
  obtain ⟨b2_0, -⟩ := b2
  replace b2_0 : (0 ≤ p0.toInt ∧ p0.toInt ≤ 1) := b2_0
  have t3 := subI (a := (1 : Int32)) (b := p0) (by omega) (by omega)
  refine sXb (s_X5_deskAt hN hK) (by decide) (by decide) (fun x10 b4 => ?_)
  obtain ⟨b4_0, -⟩ := b4
  replace b4_0 : (0 ≤ ((1 : Int32) - p0).toInt ∧ ((1 : Int32) - p0).toInt ≤ 1) := b4_0
  refine sBind (s_X4_become hN hK) (fun x14 b5 => ?_)
  refine sBind (s_X4_differentParts hN hK) (fun x19 b6 => ?_)
  have r7 := rgI c0
  have r8 := rgI c1
  have r9 := rgI c2
  have r10 := rgI c3
  have r11 := rgI c4
  have r12 := rgI c5
  have r13 := rgI x19
  refine sBind (s_X5_acted hN hK) (fun x22 b14 => ?_)
  have r15 := rgI x22.1
  have r16 := rgI x22.2
  exact sXl ⟨trivial⟩
set_option maxHeartbeats 2000000 in
theorem s_X5_times {N K : Nat} {f : Nat → Int32} {p0 : Int32} {p1 : Int32} (hN : 2 ^ 40 ≤ N) (hK : 100 ≤ K)  : Sf (fX5_times N K f p0 p1) (xP true true (fun (z : Int32) => True)) := by
  unfold fX5_times
  have ql0 : (0 : Int32).toInt = 0 := by decide
  have ql1 : (1 : Int32).toInt = 1 := by decide
  have ql20 : (20 : Int32).toInt = 20 := by decide
  have r1 := rgI p0
  refine sXb (s_X5_deskAt hN hK) (by decide) (by decide) (fun x2 b2 => ?_)
  obtain ⟨b2_0, -⟩ := b2
  replace b2_0 : (0 ≤ p0.toInt ∧ p0.toInt ≤ 1) := b2_0
  have r3 := rgI p1
  refine sXb (s_X5_checkRange hN hK (by omega) (by omega) (by omega) (by omega)) (by decide) (by decide) (fun x10 b4 => ?_)
  obtain ⟨b4_0, -⟩ := b4
  replace b4_0 : ((1 : Int32).toInt ≤ p1.toInt ∧ p1.toInt ≤ (20 : Int32).toInt) := b4_0
  refine sBind (s_X4_timesOf hN hK (by omega) (by omega)) (fun x15 b5 => ?_)
  have r6 := rgI x15
  exact sXl ⟨trivial⟩
set_option maxHeartbeats 2000000 in
theorem s_X5_way {N K : Nat} {f : Nat → Int32} {p0 : Int32} {p1 : Int32} (hN : 2 ^ 40 ≤ N) (hK : 100 ≤ K)  : Sf (fX5_way N K f p0 p1) (xP true true (fun (z : Int32) => True)) := by
  unfold fX5_way
  have ql0 : (0 : Int32).toInt = 0 := by decide
  have ql1 : (1 : Int32).toInt = 1 := by decide
  have ql2 : (2 : Int32).toInt = 2 := by decide
  have r1 := rgI p0
  refine sXb (s_X5_deskAt hN hK) (by decide) (by decide) (fun x2 b2 => ?_)
  obtain ⟨b2_0, -⟩ := b2
  replace b2_0 : (0 ≤ p0.toInt ∧ p0.toInt ≤ 1) := b2_0
  have r3 := rgI p1
  refine sXb (s_X5_checkRange hN hK (by omega) (by omega) (by omega) (by omega)) (by decide) (by decide) (fun x9 b4 => ?_)
  obtain ⟨b4_0, -⟩ := b4
  replace b4_0 : ((0 : Int32).toInt ≤ p1.toInt ∧ p1.toInt ≤ (2 : Int32).toInt) := b4_0
  refine sIf (fun h5 => ?_) (fun h5 => ?_)
  · have fh5 := eqT h5
    refine sBind (s_X4_sum hN hK) (fun x41 b6 => ?_)
    have r7 := rgI x41
    exact sXl ⟨trivial⟩
  · have fh5 := eqF h5
    refine sIf (fun h8 => ?_) (fun h8 => ?_)
    · have fh8 := eqT h8
      refine sBind (s_X4_parts hN hK) (fun x46 b9 => ?_)
      have r10 := rgI x46
      exact sXl ⟨trivial⟩
    · have fh8 := eqF h8
      refine sBind (s_X4_differentParts hN hK) (fun x51 b11 => ?_)
      have r12 := rgI x51
      exact sXl ⟨trivial⟩
set_option maxHeartbeats 2000000 in
theorem s_X5_isOf {N K : Nat} {f : Nat → Int32} {fs : Nat → Int32} {p0 : Int32} {p1 : Int32} {p2 : Int32} (hN : 2 ^ 40 ≤ N) (hK : 100 ≤ K)  : Sf (fX5_isOf N K f fs p0 p1 p2) (xP true true (fun (z : Int32 × (Nat → Int32)) => 0 ≤ z.1.toInt ∧ z.1.toInt ≤ 1 ∧ True)) := by
  unfold fX5_isOf
  have ql0 : (0 : Int32).toInt = 0 := by decide
  have ql7 : (7 : Int32).toInt = 7 := by decide
  have ql20 : (20 : Int32).toInt = 20 := by decide
  have r1 := rgI p0
  refine sXb (s_X5_deskAt hN hK) (by decide) (by decide) (fun x2 b2 => ?_)
  obtain ⟨b2_0, -⟩ := b2
  replace b2_0 : (0 ≤ p0.toInt ∧ p0.toInt ≤ 1) := b2_0
  have r3 := rgI p1
  refine sXb (s_X5_checkRange hN hK (by omega) (by omega) (by omega) (by omega)) (by decide) (by decide) (fun x11 b4 => ?_)
  obtain ⟨b4_0, -⟩ := b4
  replace b4_0 : ((0 : Int32).toInt ≤ p1.toInt ∧ p1.toInt ≤ (7 : Int32).toInt) := b4_0
  have r5 := rgI p2
  refine sXb (s_X5_checkRange hN hK (by omega) (by omega) (by omega) (by omega)) (by decide) (by decide) (fun x18 b6 => ?_)
  obtain ⟨b6_0, -⟩ := b6
  replace b6_0 : ((0 : Int32).toInt ≤ p2.toInt ∧ p2.toInt ≤ (20 : Int32).toInt) := b6_0
  refine sBind (s_X4_isOfKind hN hK (by omega) (by omega) (by omega) (by omega)) (fun x29 b7 => ?_)
  obtain ⟨b7_0, b7_1, -⟩ := b7
  replace b7_0 : 0 ≤ x29.1.toInt := b7_0
  replace b7_1 : x29.1.toInt ≤ 1 := b7_1
  have r8 := rgI x29.1
  refine sIfT (b01 (by omega) (by omega)) ?_
  exact sXl ⟨(by show 0 ≤ x29.1.toInt; omega), (by show x29.1.toInt ≤ 1; omega), trivial⟩
set_option maxHeartbeats 2000000 in
theorem s_X5_isSameWay {N K : Nat} {f : Nat → Int32} {f2 : Nat → Int32} (hN : 2 ^ 40 ≤ N) (hK : 100 ≤ K)  : Sf (fX5_isSameWay N K f f2) (xP true false (fun (z : Int32) => 0 ≤ z.toInt ∧ z.toInt ≤ 1 ∧ True)) := by
  unfold fX5_isSameWay
  have ql0 : (0 : Int32).toInt = 0 := by decide
  have ql1 : (1 : Int32).toInt = 1 := by decide
  refine sXb (s_X5_deskAt hN hK) (by decide) (by decide) (fun x2 b1 => ?_)
  obtain ⟨b1_0, -⟩ := b1
  replace b1_0 : (0 ≤ (0 : Int32).toInt ∧ (0 : Int32).toInt ≤ 1) := b1_0
  refine sXb (s_X5_deskAt hN hK) (by decide) (by decide) (fun x7 b2 => ?_)
  obtain ⟨b2_0, -⟩ := b2
  replace b2_0 : (0 ≤ (1 : Int32).toInt ∧ (1 : Int32).toInt ≤ 1) := b2_0
  refine sBind (s_X4_isLike hN hK) (fun x10 b3 => ?_)
  obtain ⟨b3_0, b3_1, -⟩ := b3
  replace b3_0 : 0 ≤ x10.toInt := b3_0
  replace b3_1 : x10.toInt ≤ 1 := b3_1
  have r4 := rgI x10
  refine sIfT (b01 (by omega) (by omega)) ?_
  exact sXl ⟨(by show 0 ≤ x10.toInt; omega), (by show x10.toInt ≤ 1; omega), trivial⟩
set_option maxHeartbeats 2000000 in
theorem s_X5_tally {N K : Nat} {c0 : Int32} {c1 : Int32} {c2 : Int32} {c3 : Int32} {c4 : Int32} {c5 : Int32} {p0 : Int32} (hN : 2 ^ 40 ≤ N) (hK : 100 ≤ K)  : Sf (fX5_tally N K c0 c1 c2 c3 c4 c5 p0) (xP false true (fun (z : Int32) => True)) := by
  unfold fX5_tally
  have ql0 : (0 : Int32).toInt = 0 := by decide
  have ql1 : (1 : Int32).toInt = 1 := by decide
  have ql2 : (2 : Int32).toInt = 2 := by decide
  have ql3 : (3 : Int32).toInt = 3 := by decide
  have ql4 : (4 : Int32).toInt = 4 := by decide
  have ql5 : (5 : Int32).toInt = 5 := by decide
  have r1 := rgI p0
  refine sXb (s_X5_checkRange hN hK (by omega) (by omega) (by omega) (by omega)) (by decide) (by decide) (fun x3 b2 => ?_)
  obtain ⟨b2_0, -⟩ := b2
  replace b2_0 : ((0 : Int32).toInt ≤ p0.toInt ∧ p0.toInt ≤ (5 : Int32).toInt) := b2_0
  refine sIf (fun h3 => ?_) (fun h3 => ?_)
  · have fh3 := eqT h3
    have r4 := rgI c0
    exact sXl ⟨trivial⟩
  · have fh3 := eqF h3
    refine sIf (fun h5 => ?_) (fun h5 => ?_)
    · have fh5 := eqT h5
      have r6 := rgI c1
      exact sXl ⟨trivial⟩
    · have fh5 := eqF h5
      refine sIf (fun h7 => ?_) (fun h7 => ?_)
      · have fh7 := eqT h7
        have r8 := rgI c2
        exact sXl ⟨trivial⟩
      · have fh7 := eqF h7
        refine sIf (fun h9 => ?_) (fun h9 => ?_)
        · have fh9 := eqT h9
          have r10 := rgI c3
          exact sXl ⟨trivial⟩
        · have fh9 := eqF h9
          refine sIf (fun h11 => ?_) (fun h11 => ?_)
          · have fh11 := eqT h11
            have r12 := rgI c4
            exact sXl ⟨trivial⟩
          · have fh11 := eqF h11
            have r13 := rgI c5
            exact sXl ⟨trivial⟩
