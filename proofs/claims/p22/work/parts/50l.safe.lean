set_option maxHeartbeats 2000000 in
theorem s_X7_isOf {N K : Nat} {th : Int32} {f : Nat → Int32} {p0 : Int32} {p1 : Int32} {p2 : Int32} (hN : NBig N) (hK : 100 ≤ K)  : Sf (fX7_isOf N K th f p0 p1 p2) (fun (z : Int32 × Int32) => 0 ≤ z.1.toInt ∧ z.1.toInt ≤ 1 ∧ 0 ≤ z.2.toInt ∧ z.2.toInt ≤ 2 ∧ True) := by
  unfold fX7_isOf
  have ql0 : (0 : Int32).toInt = 0 := by decide
  have ql1 : (1 : Int32).toInt = 1 := by decide
  have ql7 : (7 : Int32).toInt = 7 := by decide
  have ql20 : (20 : Int32).toInt = 20 := by decide
  refine sBind (s_X7_isNo hN hK (by first | omega | decide) (by first | omega | decide) (by first | omega | decide) (by first | omega | decide)) (fun x4 b1 => ?_)
  obtain ⟨b1_0, b1_1, b1_2, -⟩ := b1
  replace b1_0 : 0 ≤ x4.toInt := b1_0
  replace b1_1 : x4.toInt ≤ 1 := b1_1
  replace b1_2 : (x4.toInt = 0 → ((0 : Int32).toInt ≤ p0.toInt ∧ p0.toInt ≤ (1 : Int32).toInt)) := b1_2
  refine sBind (s_X7_isNo hN hK (by first | omega | decide) (by first | omega | decide) (by first | omega | decide) (by first | omega | decide)) (fun x11 b2 => ?_)
  obtain ⟨b2_0, b2_1, b2_2, -⟩ := b2
  replace b2_0 : 0 ≤ x11.toInt := b2_0
  replace b2_1 : x11.toInt ≤ 1 := b2_1
  replace b2_2 : (x11.toInt = 0 → ((0 : Int32).toInt ≤ p1.toInt ∧ p1.toInt ≤ (7 : Int32).toInt)) := b2_2
  refine sIf (fun h3 => ?_) (fun h3 => ?_)
  · have fh3 := eqT h3
    refine sBind (s_X7_isNo hN hK (by first | omega | decide) (by first | omega | decide) (by first | omega | decide) (by first | omega | decide)) (fun x21 b4 => ?_)
    obtain ⟨b4_0, b4_1, b4_2, -⟩ := b4
    replace b4_0 : 0 ≤ x21.toInt := b4_0
    replace b4_1 : x21.toInt ≤ 1 := b4_1
    replace b4_2 : (x21.toInt = 0 → ((0 : Int32).toInt ≤ p2.toInt ∧ p2.toInt ≤ (20 : Int32).toInt)) := b4_2
    refine sIf (fun h5 => ?_) (fun h5 => ?_)
    · have fh5 := eqT h5
      exact s_X7_isOf_32  hN hK _ _ _ (by first | omega | decide) (by first | omega | decide) (by first | omega | decide) (by first | omega | decide) (by first | omega | decide) (by first | omega | decide)
    · have fh5 := eqF h5
      exact s_X7_isOf_27  hN hK _ _ (by first | omega | decide) (by first | omega | decide) (by first | omega | decide)
  · have fh3 := eqF h3
    exact s_X7_isOf_27  hN hK _ _ (by first | omega | decide) (by first | omega | decide) (by first | omega | decide)
set_option maxHeartbeats 2000000 in
theorem s_X7_isSameWay {N K : Nat} {th : Int32} {f : Nat → Int32} {f2 : Nat → Int32} (hN : NBig N) (hK : 100 ≤ K)  : Sf (fX7_isSameWay N K th f f2) (fun (z : Int32 × Int32) => 0 ≤ z.1.toInt ∧ z.1.toInt ≤ 1 ∧ 0 ≤ z.2.toInt ∧ z.2.toInt ≤ 0 ∧ True) := by
  unfold fX7_isSameWay
  have ql0 : (0 : Int32).toInt = 0 := by decide
  have ql1 : (1 : Int32).toInt = 1 := by decide
  refine sIfF (noob (by omega) (by omega)) ?_
  refine sIfF (noob (by omega) (by omega)) ?_
  refine sBind (s_X7_areSame hN hK) (fun x17 b1 => ?_)
  obtain ⟨b1_0, b1_1, -⟩ := b1
  replace b1_0 : 0 ≤ x17.toInt := b1_0
  replace b1_1 : x17.toInt ≤ 1 := b1_1
  refine sIfT (b01 (by omega) (by omega)) ?_
  exact sRet ⟨(by show 0 ≤ x17.toInt; first | omega | assumption), (by show x17.toInt ≤ 1; first | omega | assumption), (by show 0 ≤ (0 : Int32).toInt; decide), (by show (0 : Int32).toInt ≤ 0; decide), trivial⟩
set_option maxHeartbeats 2000000 in
theorem s_X7_tally {N K : Nat} {th : Int32} {t : Nat → Int32} {p0 : Int32} (hN : NBig N) (hK : 100 ≤ K)  : Sf (fX7_tally N K th t p0) (fun (z : Int32 × Int32) => 0 ≤ z.2.toInt ∧ z.2.toInt ≤ 2 ∧ True) := by
  unfold fX7_tally
  have ql0 : (0 : Int32).toInt = 0 := by decide
  have ql5 : (5 : Int32).toInt = 5 := by decide
  refine sBind (s_X7_isNo hN hK (by first | omega | decide) (by first | omega | decide) (by first | omega | decide) (by first | omega | decide)) (fun x4 b1 => ?_)
  obtain ⟨b1_0, b1_1, b1_2, -⟩ := b1
  replace b1_0 : 0 ≤ x4.toInt := b1_0
  replace b1_1 : x4.toInt ≤ 1 := b1_1
  replace b1_2 : (x4.toInt = 0 → ((0 : Int32).toInt ≤ p0.toInt ∧ p0.toInt ≤ (5 : Int32).toInt)) := b1_2
  refine sBind (s_X7_isThrown hN hK (by first | omega | decide) (by first | omega | decide) (by first | omega | decide) (by first | omega | decide)) (fun x8 b2 => ?_)
  obtain ⟨b2_0, b2_1, b2_2, b2_3, b2_4, b2_5, -⟩ := b2
  replace b2_0 : 0 ≤ x8.1.toInt := b2_0
  replace b2_1 : x8.1.toInt ≤ 1 := b2_1
  replace b2_2 : 0 ≤ x8.2.toInt := b2_2
  replace b2_3 : x8.2.toInt ≤ 2 := b2_3
  replace b2_4 : (x8.1.toInt = 0 → (0 ≤ x4.toInt ∧ x4.toInt ≤ 0)) := b2_4
  replace b2_5 : (x8.1.toInt = 0 → (0 ≤ (0 : Int32).toInt ∧ (0 : Int32).toInt ≤ 0)) := b2_5
  refine sIf (fun h3 => ?_) (fun h3 => ?_)
  · have fh3 := eqT h3
    refine sIfF (noob (by omega) (by omega)) ?_
    exact sRet ⟨(by show 0 ≤ x8.2.toInt; first | omega | assumption), (by show x8.2.toInt ≤ 2; first | omega | assumption), trivial⟩
  · have fh3 := eqF h3
    exact sRet ⟨(by show 0 ≤ x8.2.toInt; first | omega | assumption), (by show x8.2.toInt ≤ 2; first | omega | assumption), trivial⟩
set_option maxHeartbeats 2000000 in
theorem s_X7_knock {N K : Nat} {th : Int32} {t : Nat → Int32} (hN : NBig N) (hK : 100 ≤ K)  : Sf (fX7_knock N K th t) (fun (z : Int32 × Int32 × (Nat → Int32)) => 0 ≤ z.2.1.toInt ∧ z.2.1.toInt ≤ 0 ∧ True) := by
  unfold fX7_knock
  have ql0 : (0 : Int32).toInt = 0 := by decide
  exact sRet ⟨(by show 0 ≤ (0 : Int32).toInt; decide), (by show (0 : Int32).toInt ≤ 0; decide), trivial⟩
set_option maxHeartbeats 2000000 in
theorem s_X7_isSound_141 {N K : Nat} {th : Int32} {f : Nat → Int32} {t : Nat → Int32} {p0 : Int32} (hN : NBig N) (hK : 100 ≤ K)  {k_49 : Int32 → Int32 → Int32 → Int32 → Option (Int32 × Int32)} {m_49 : Nat} (hk_49 : ∀ (l2 : Int32) (l3 : Int32) (l4 : Int32) (th_ : Int32), (6 - l4.toInt).toNat < m_49 → 0 ≤ p0.toInt → p0.toInt ≤ 2 → 0 ≤ l2.toInt → l2.toInt ≤ 1 → 0 ≤ l4.toInt → l4.toInt ≤ 6 → 0 ≤ th_.toInt → th_.toInt ≤ 2 → Sf (k_49 l2 l3 l4 th_) (fun (z : Int32 × Int32) => 0 ≤ z.1.toInt ∧ z.1.toInt ≤ 1 ∧ 0 ≤ z.2.toInt ∧ z.2.toInt ≤ 2 ∧ True)) {k_59 : Int32 → Int32 → Int32 → Int32 → Int32 → Option (Int32 × Int32)} {m_59 : Nat} (hk_59 : ∀ (l2 : Int32) (l3 : Int32) (l4 : Int32) (l5 : Int32) (th_ : Int32), (21 - l5.toInt).toNat < m_59 → 0 ≤ p0.toInt → p0.toInt ≤ 2 → 0 ≤ l2.toInt → l2.toInt ≤ 1 → 0 ≤ l4.toInt → l4.toInt ≤ 5 → 1 ≤ l5.toInt → l5.toInt ≤ 21 → 0 ≤ th_.toInt → th_.toInt ≤ 2 → (6 - l4.toInt).toNat ≤ m_49 → Sf (k_59 l2 l3 l4 l5 th_) (fun (z : Int32 × Int32) => 0 ≤ z.1.toInt ∧ z.1.toInt ≤ 1 ∧ 0 ≤ z.2.toInt ∧ z.2.toInt ≤ 2 ∧ True)) {k_78 : Int32 → Int32 → Int32 → Int32 → Int32 → Int32 → (Nat → Int32) → Option (Int32 × Int32)} {m_78 : Nat} (hk_78 : ∀ (l2 : Int32) (l3 : Int32) (l4 : Int32) (l5 : Int32) (l7 : Int32) (th_ : Int32) (e_v0 : (Nat → Int32)), (21 - l7.toInt).toNat < m_78 → 0 ≤ p0.toInt → p0.toInt ≤ 2 → 0 ≤ l2.toInt → l2.toInt ≤ 1 → 0 ≤ l4.toInt → l4.toInt ≤ 5 → 1 ≤ l5.toInt → l5.toInt ≤ 20 → 1 ≤ l7.toInt → l7.toInt ≤ 21 → 0 ≤ th_.toInt → th_.toInt ≤ 2 → (6 - l4.toInt).toNat ≤ m_49 → (21 - l5.toInt).toNat ≤ m_59 → Sf (k_78 l2 l3 l4 l5 l7 th_ e_v0) (fun (z : Int32 × Int32) => 0 ≤ z.1.toInt ∧ z.1.toInt ≤ 1 ∧ 0 ≤ z.2.toInt ∧ z.2.toInt ≤ 2 ∧ True)) : ∀ (l3 : Int32) (l4 : Int32) (l5 : Int32) (l7 : Int32) (s0 : Int32) (s1 : Int32) (th_ : Int32) (e_v0 : Nat → Int32), 0 ≤ p0.toInt → p0.toInt ≤ 2 → 0 ≤ l4.toInt → l4.toInt ≤ 5 → 1 ≤ l5.toInt → l5.toInt ≤ 20 → 1 ≤ l7.toInt → l7.toInt ≤ 20 → 0 ≤ s0.toInt → s0.toInt ≤ 1 → 0 ≤ s1.toInt → s1.toInt ≤ 1 → 0 ≤ th_.toInt → th_.toInt ≤ 2 → (s0.toInt = 0 → 0 ≤ p0.toInt ∧ p0.toInt ≤ 2) → (s1.toInt = 0 → 0 ≤ p0.toInt ∧ p0.toInt ≤ 2) → (6 - l4.toInt).toNat ≤ m_49 → (21 - l5.toInt).toNat ≤ m_59 → (21 - l7.toInt).toNat ≤ m_78 → Sf (fX7_isSound_141 N K th f t p0 k_49 k_59 k_78 l3 l4 l5 l7 s0 s1 th_ e_v0) (fun (z : Int32 × Int32) => 0 ≤ z.1.toInt ∧ z.1.toInt ≤ 1 ∧ 0 ≤ z.2.toInt ∧ z.2.toInt ≤ 2 ∧ True) := by
  intro l3 l4 l5 l7 s0 s1 th_ e_v0 hq0 hq1 hq2 hq3 hq4 hq5 hq6 hq7 hq8 hq9 hq10 hq11 hq12 hq13 hq14 hq15 hq16 hq17 hq18
  unfold fX7_isSound_141
  have ql0 : (0 : Int32).toInt = 0 := by decide
  have ql1 : (1 : Int32).toInt = 1 := by decide
  have t101 := and01 (a := s1) (b := s0) (by omega) (by omega) (by omega) (by omega)
  have t2 := addI (a := l7) (b := (1 : Int32)) (by omega) (by omega)
  exact hk_78 _ _ _ _ _ _ _ (by omega) (by first | omega | decide) (by first | omega | decide) (by first | omega | decide) (by first | omega | decide) (by first | omega | decide) (by first | omega | decide) (by first | omega | decide) (by first | omega | decide) (by first | omega | decide) (by first | omega | decide) (by first | omega | decide) (by first | omega | decide) (by omega) (by omega)
set_option maxHeartbeats 2000000 in
theorem s_X7_isSound_136 {N K : Nat} {th : Int32} {f : Nat → Int32} {t : Nat → Int32} {p0 : Int32} (hN : NBig N) (hK : 100 ≤ K)  {k_49 : Int32 → Int32 → Int32 → Int32 → Option (Int32 × Int32)} {m_49 : Nat} (hk_49 : ∀ (l2 : Int32) (l3 : Int32) (l4 : Int32) (th_ : Int32), (6 - l4.toInt).toNat < m_49 → 0 ≤ p0.toInt → p0.toInt ≤ 2 → 0 ≤ l2.toInt → l2.toInt ≤ 1 → 0 ≤ l4.toInt → l4.toInt ≤ 6 → 0 ≤ th_.toInt → th_.toInt ≤ 2 → Sf (k_49 l2 l3 l4 th_) (fun (z : Int32 × Int32) => 0 ≤ z.1.toInt ∧ z.1.toInt ≤ 1 ∧ 0 ≤ z.2.toInt ∧ z.2.toInt ≤ 2 ∧ True)) {k_59 : Int32 → Int32 → Int32 → Int32 → Int32 → Option (Int32 × Int32)} {m_59 : Nat} (hk_59 : ∀ (l2 : Int32) (l3 : Int32) (l4 : Int32) (l5 : Int32) (th_ : Int32), (21 - l5.toInt).toNat < m_59 → 0 ≤ p0.toInt → p0.toInt ≤ 2 → 0 ≤ l2.toInt → l2.toInt ≤ 1 → 0 ≤ l4.toInt → l4.toInt ≤ 5 → 1 ≤ l5.toInt → l5.toInt ≤ 21 → 0 ≤ th_.toInt → th_.toInt ≤ 2 → (6 - l4.toInt).toNat ≤ m_49 → Sf (k_59 l2 l3 l4 l5 th_) (fun (z : Int32 × Int32) => 0 ≤ z.1.toInt ∧ z.1.toInt ≤ 1 ∧ 0 ≤ z.2.toInt ∧ z.2.toInt ≤ 2 ∧ True)) {k_78 : Int32 → Int32 → Int32 → Int32 → Int32 → Int32 → (Nat → Int32) → Option (Int32 × Int32)} {m_78 : Nat} (hk_78 : ∀ (l2 : Int32) (l3 : Int32) (l4 : Int32) (l5 : Int32) (l7 : Int32) (th_ : Int32) (e_v0 : (Nat → Int32)), (21 - l7.toInt).toNat < m_78 → 0 ≤ p0.toInt → p0.toInt ≤ 2 → 0 ≤ l2.toInt → l2.toInt ≤ 1 → 0 ≤ l4.toInt → l4.toInt ≤ 5 → 1 ≤ l5.toInt → l5.toInt ≤ 20 → 1 ≤ l7.toInt → l7.toInt ≤ 21 → 0 ≤ th_.toInt → th_.toInt ≤ 2 → (6 - l4.toInt).toNat ≤ m_49 → (21 - l5.toInt).toNat ≤ m_59 → Sf (k_78 l2 l3 l4 l5 l7 th_ e_v0) (fun (z : Int32 × Int32) => 0 ≤ z.1.toInt ∧ z.1.toInt ≤ 1 ∧ 0 ≤ z.2.toInt ∧ z.2.toInt ≤ 2 ∧ True)) : ∀ (l3 : Int32) (l4 : Int32) (l5 : Int32) (l7 : Int32) (s0 : Int32) (th_ : Int32) (e_v0 : Nat → Int32), 0 ≤ p0.toInt → p0.toInt ≤ 2 → 0 ≤ l4.toInt → l4.toInt ≤ 5 → 1 ≤ l5.toInt → l5.toInt ≤ 20 → 1 ≤ l7.toInt → l7.toInt ≤ 20 → 0 ≤ s0.toInt → s0.toInt ≤ 1 → 0 ≤ th_.toInt → th_.toInt ≤ 2 → (s0.toInt = 0 → 0 ≤ p0.toInt ∧ p0.toInt ≤ 2) → (6 - l4.toInt).toNat ≤ m_49 → (21 - l5.toInt).toNat ≤ m_59 → (21 - l7.toInt).toNat ≤ m_78 → Sf (fX7_isSound_136 N K th f t p0 k_49 k_59 k_78 l3 l4 l5 l7 s0 th_ e_v0) (fun (z : Int32 × Int32) => 0 ≤ z.1.toInt ∧ z.1.toInt ≤ 1 ∧ 0 ≤ z.2.toInt ∧ z.2.toInt ≤ 2 ∧ True) := by
  intro l3 l4 l5 l7 s0 th_ e_v0 hq0 hq1 hq2 hq3 hq4 hq5 hq6 hq7 hq8 hq9 hq10 hq11 hq12 hq13 hq14 hq15
  unfold fX7_isSound_136
  have ql0 : (0 : Int32).toInt = 0 := by decide
  have ql1 : (1 : Int32).toInt = 1 := by decide
  exact s_X7_isSound_141 (hk_49 := hk_49) (hk_59 := hk_59) (hk_78 := hk_78) hN hK _ _ _ _ _ _ _ _ (by first | omega | decide) (by first | omega | decide) (by first | omega | decide) (by first | omega | decide) (by first | omega | decide) (by first | omega | decide) (by first | omega | decide) (by first | omega | decide) (by first | omega | decide) (by first | omega | decide) (by first | omega | decide) (by first | omega | decide) (by first | omega | decide) (by first | omega | decide) (by first | omega | decide) (by first | omega | decide) (by omega) (by omega) (by omega)
set_option maxHeartbeats 2000000 in
theorem s_X7_isSound_109 {N K : Nat} {th : Int32} {f : Nat → Int32} {t : Nat → Int32} {p0 : Int32} (hN : NBig N) (hK : 100 ≤ K)  {k_49 : Int32 → Int32 → Int32 → Int32 → Option (Int32 × Int32)} {m_49 : Nat} (hk_49 : ∀ (l2 : Int32) (l3 : Int32) (l4 : Int32) (th_ : Int32), (6 - l4.toInt).toNat < m_49 → 0 ≤ p0.toInt → p0.toInt ≤ 2 → 0 ≤ l2.toInt → l2.toInt ≤ 1 → 0 ≤ l4.toInt → l4.toInt ≤ 6 → 0 ≤ th_.toInt → th_.toInt ≤ 2 → Sf (k_49 l2 l3 l4 th_) (fun (z : Int32 × Int32) => 0 ≤ z.1.toInt ∧ z.1.toInt ≤ 1 ∧ 0 ≤ z.2.toInt ∧ z.2.toInt ≤ 2 ∧ True)) {k_59 : Int32 → Int32 → Int32 → Int32 → Int32 → Option (Int32 × Int32)} {m_59 : Nat} (hk_59 : ∀ (l2 : Int32) (l3 : Int32) (l4 : Int32) (l5 : Int32) (th_ : Int32), (21 - l5.toInt).toNat < m_59 → 0 ≤ p0.toInt → p0.toInt ≤ 2 → 0 ≤ l2.toInt → l2.toInt ≤ 1 → 0 ≤ l4.toInt → l4.toInt ≤ 5 → 1 ≤ l5.toInt → l5.toInt ≤ 21 → 0 ≤ th_.toInt → th_.toInt ≤ 2 → (6 - l4.toInt).toNat ≤ m_49 → Sf (k_59 l2 l3 l4 l5 th_) (fun (z : Int32 × Int32) => 0 ≤ z.1.toInt ∧ z.1.toInt ≤ 1 ∧ 0 ≤ z.2.toInt ∧ z.2.toInt ≤ 2 ∧ True)) {k_78 : Int32 → Int32 → Int32 → Int32 → Int32 → Int32 → (Nat → Int32) → Option (Int32 × Int32)} {m_78 : Nat} (hk_78 : ∀ (l2 : Int32) (l3 : Int32) (l4 : Int32) (l5 : Int32) (l7 : Int32) (th_ : Int32) (e_v0 : (Nat → Int32)), (21 - l7.toInt).toNat < m_78 → 0 ≤ p0.toInt → p0.toInt ≤ 2 → 0 ≤ l2.toInt → l2.toInt ≤ 1 → 0 ≤ l4.toInt → l4.toInt ≤ 5 → 1 ≤ l5.toInt → l5.toInt ≤ 20 → 1 ≤ l7.toInt → l7.toInt ≤ 21 → 0 ≤ th_.toInt → th_.toInt ≤ 2 → (6 - l4.toInt).toNat ≤ m_49 → (21 - l5.toInt).toNat ≤ m_59 → Sf (k_78 l2 l3 l4 l5 l7 th_ e_v0) (fun (z : Int32 × Int32) => 0 ≤ z.1.toInt ∧ z.1.toInt ≤ 1 ∧ 0 ≤ z.2.toInt ∧ z.2.toInt ≤ 2 ∧ True)) : ∀ (l2 : Int32) (l4 : Int32) (l5 : Int32) (l7 : Int32) (l8 : Int32) (s0 : Int32) (s1 : Int32) (th_ : Int32) (e_v0 : Nat → Int32), 0 ≤ p0.toInt → p0.toInt ≤ 2 → 0 ≤ l2.toInt → l2.toInt ≤ 1 → 0 ≤ l4.toInt → l4.toInt ≤ 5 → 1 ≤ l5.toInt → l5.toInt ≤ 20 → 1 ≤ l7.toInt → l7.toInt ≤ 20 → 0 ≤ s0.toInt → s0.toInt ≤ 1 → 0 ≤ th_.toInt → th_.toInt ≤ 2 → (s0.toInt = 0 → 0 ≤ p0.toInt ∧ p0.toInt ≤ 2) → (s1.toInt = 0 → 0 ≤ p0.toInt ∧ p0.toInt ≤ 2) → (6 - l4.toInt).toNat ≤ m_49 → (21 - l5.toInt).toNat ≤ m_59 → (21 - l7.toInt).toNat ≤ m_78 → Sf (fX7_isSound_109 N K th f t p0 k_49 k_59 k_78 l2 l4 l5 l7 l8 s0 s1 th_ e_v0) (fun (z : Int32 × Int32) => 0 ≤ z.1.toInt ∧ z.1.toInt ≤ 1 ∧ 0 ≤ z.2.toInt ∧ z.2.toInt ≤ 2 ∧ True) := by
  intro l2 l4 l5 l7 l8 s0 s1 th_ e_v0 hq0 hq1 hq2 hq3 hq4 hq5 hq6 hq7 hq8 hq9 hq10 hq11 hq12 hq13 hq14 hq15 hq16 hq17 hq18
  unfold fX7_isSound_109
  have ql0 : (0 : Int32).toInt = 0 := by decide
  refine sBind (s_X7_bit hN hK (by first | omega | decide) (by first | omega | decide)) (fun x109 b1 => ?_)
  obtain ⟨b1_0, b1_1, -⟩ := b1
  replace b1_0 : 0 ≤ x109.toInt := b1_0
  replace b1_1 : x109.toInt ≤ 1 := b1_1
  refine sIf (fun h2 => ?_) (fun h2 => ?_)
  · have fh2 := ltT h2
    exact s_X7_isSound_136 (hk_49 := hk_49) (hk_59 := hk_59) (hk_78 := hk_78) hN hK _ _ _ _ _ _ _ (by first | omega | decide) (by first | omega | decide) (by first | omega | decide) (by first | omega | decide) (by first | omega | decide) (by first | omega | decide) (by first | omega | decide) (by first | omega | decide) (by first | omega | decide) (by first | omega | decide) (by first | omega | decide) (by first | omega | decide) (by first | omega | decide) (by omega) (by omega) (by omega)
  · have fh2 := ltF h2
    refine sBind (s_X7_told hN hK (by first | omega | decide) (by first | omega | decide) (by first | omega | decide) (by first | omega | decide) (by first | omega | decide) (by first | omega | decide)) (fun x130 b4 => ?_)
    refine sIf (fun h5 => ?_) (fun h5 => ?_)
    · have fh5 := eqT h5
      exact s_X7_isSound_136 (hk_49 := hk_49) (hk_59 := hk_59) (hk_78 := hk_78) hN hK _ _ _ _ _ _ _ (by first | omega | decide) (by first | omega | decide) (by first | omega | decide) (by first | omega | decide) (by first | omega | decide) (by first | omega | decide) (by first | omega | decide) (by first | omega | decide) (by first | omega | decide) (by first | omega | decide) (by first | omega | decide) (by first | omega | decide) (by first | omega | decide) (by omega) (by omega) (by omega)
    · have fh5 := eqF h5
      exact s_X7_isSound_141 (hk_49 := hk_49) (hk_59 := hk_59) (hk_78 := hk_78) hN hK _ _ _ _ _ _ _ _ (by first | omega | decide) (by first | omega | decide) (by first | omega | decide) (by first | omega | decide) (by first | omega | decide) (by first | omega | decide) (by first | omega | decide) (by first | omega | decide) (by first | omega | decide) (by first | omega | decide) (by first | omega | decide) (by first | omega | decide) (by first | omega | decide) (by first | omega | decide) (by first | omega | decide) (by first | omega | decide) (by omega) (by omega) (by omega)
set_option maxHeartbeats 2000000 in
theorem s_X7_isSound_78 {N K : Nat} {th : Int32} {f : Nat → Int32} {t : Nat → Int32} {p0 : Int32} (hN : NBig N) (hK : 100 ≤ K)  {k_49 : Int32 → Int32 → Int32 → Int32 → Option (Int32 × Int32)} {m_49 : Nat} (hk_49 : ∀ (l2 : Int32) (l3 : Int32) (l4 : Int32) (th_ : Int32), (6 - l4.toInt).toNat < m_49 → 0 ≤ p0.toInt → p0.toInt ≤ 2 → 0 ≤ l2.toInt → l2.toInt ≤ 1 → 0 ≤ l4.toInt → l4.toInt ≤ 6 → 0 ≤ th_.toInt → th_.toInt ≤ 2 → Sf (k_49 l2 l3 l4 th_) (fun (z : Int32 × Int32) => 0 ≤ z.1.toInt ∧ z.1.toInt ≤ 1 ∧ 0 ≤ z.2.toInt ∧ z.2.toInt ≤ 2 ∧ True)) {k_59 : Int32 → Int32 → Int32 → Int32 → Int32 → Option (Int32 × Int32)} {m_59 : Nat} (hk_59 : ∀ (l2 : Int32) (l3 : Int32) (l4 : Int32) (l5 : Int32) (th_ : Int32), (21 - l5.toInt).toNat < m_59 → 0 ≤ p0.toInt → p0.toInt ≤ 2 → 0 ≤ l2.toInt → l2.toInt ≤ 1 → 0 ≤ l4.toInt → l4.toInt ≤ 5 → 1 ≤ l5.toInt → l5.toInt ≤ 21 → 0 ≤ th_.toInt → th_.toInt ≤ 2 → (6 - l4.toInt).toNat ≤ m_49 → Sf (k_59 l2 l3 l4 l5 th_) (fun (z : Int32 × Int32) => 0 ≤ z.1.toInt ∧ z.1.toInt ≤ 1 ∧ 0 ≤ z.2.toInt ∧ z.2.toInt ≤ 2 ∧ True)) : ∀ (fu : Nat) (l2 : Int32) (l3 : Int32) (l4 : Int32) (l5 : Int32) (l7 : Int32) (th_ : Int32) (e_v0 : (Nat → Int32)), (21 - l7.toInt).toNat < fu → 0 ≤ p0.toInt → p0.toInt ≤ 2 → 0 ≤ l2.toInt → l2.toInt ≤ 1 → 0 ≤ l4.toInt → l4.toInt ≤ 5 → 1 ≤ l5.toInt → l5.toInt ≤ 20 → 1 ≤ l7.toInt → l7.toInt ≤ 21 → 0 ≤ th_.toInt → th_.toInt ≤ 2 → (6 - l4.toInt).toNat ≤ m_49 → (21 - l5.toInt).toNat ≤ m_59 → Sf (fX7_isSound_78 N K th f t p0 k_49 k_59 fu l2 l3 l4 l5 l7 th_ e_v0) (fun (z : Int32 × Int32) => 0 ≤ z.1.toInt ∧ z.1.toInt ≤ 1 ∧ 0 ≤ z.2.toInt ∧ z.2.toInt ≤ 2 ∧ True) := by
  intro fu
  induction fu with
  | zero => intro l2 l3 l4 l5 l7 th_ e_v0 h0 hq0 hq1 hq2 hq3 hq4 hq5 hq6 hq7 hq8 hq9 hq10 hq11 hq12 hq13; omega
  | succ fu ih =>
    intro l2 l3 l4 l5 l7 th_ e_v0 h0 hq0 hq1 hq2 hq3 hq4 hq5 hq6 hq7 hq8 hq9 hq10 hq11 hq12 hq13
    unfold fX7_isSound_78
    have ql0 : (0 : Int32).toInt = 0 := by decide
    have ql1 : (1 : Int32).toInt = 1 := by decide
    have ql20 : (20 : Int32).toInt = 20 := by decide
    refine sIf (fun h1 => ?_) (fun h1 => ?_)
    · have fh1 := ltT h1
      have t2 := addI (a := l5) (b := (1 : Int32)) (by omega) (by omega)
      exact hk_59 _ _ _ _ _ (by omega) (by first | omega | decide) (by first | omega | decide) (by first | omega | decide) (by first | omega | decide) (by first | omega | decide) (by first | omega | decide) (by first | omega | decide) (by first | omega | decide) (by first | omega | decide) (by first | omega | decide) (by omega)
    · have fh1 := ltF h1
      refine sBind (s_X7_kept hN hK (by first | omega | decide) (by first | omega | decide) (by first | omega | decide) (by first | omega | decide) (by first | omega | decide) (by first | omega | decide) (by first | omega | decide) (by first | omega | decide) (by first | omega | decide) (by first | omega | decide)) (fun x93 b3 => ?_)
      refine sIf (fun h4 => ?_) (fun h4 => ?_)
      · have fh4 := ltT h4
        exact s_X7_isSound_109 (hk_49 := hk_49) (hk_59 := hk_59) (hk_78 := ih) hN hK _ _ _ _ _ _ _ _ _ (by first | omega | decide) (by first | omega | decide) (by first | omega | decide) (by first | omega | decide) (by first | omega | decide) (by first | omega | decide) (by first | omega | decide) (by first | omega | decide) (by first | omega | decide) (by first | omega | decide) (by first | omega | decide) (by first | omega | decide) (by first | omega | decide) (by first | omega | decide) (by first | omega | decide) (by first | omega | decide) (by omega) (by omega) (by omega)
      · have fh4 := ltF h4
        exact s_X7_isSound_109 (hk_49 := hk_49) (hk_59 := hk_59) (hk_78 := ih) hN hK _ _ _ _ _ _ _ _ _ (by first | omega | decide) (by first | omega | decide) (by first | omega | decide) (by first | omega | decide) (by first | omega | decide) (by first | omega | decide) (by first | omega | decide) (by first | omega | decide) (by first | omega | decide) (by first | omega | decide) (by first | omega | decide) (by first | omega | decide) (by first | omega | decide) (by first | omega | decide) (by first | omega | decide) (by first | omega | decide) (by omega) (by omega) (by omega)
set_option maxHeartbeats 2000000 in
theorem s_X7_isSound_59 {N K : Nat} {th : Int32} {f : Nat → Int32} {t : Nat → Int32} {p0 : Int32} (hN : NBig N) (hK : 100 ≤ K)  {k_49 : Int32 → Int32 → Int32 → Int32 → Option (Int32 × Int32)} {m_49 : Nat} (hk_49 : ∀ (l2 : Int32) (l3 : Int32) (l4 : Int32) (th_ : Int32), (6 - l4.toInt).toNat < m_49 → 0 ≤ p0.toInt → p0.toInt ≤ 2 → 0 ≤ l2.toInt → l2.toInt ≤ 1 → 0 ≤ l4.toInt → l4.toInt ≤ 6 → 0 ≤ th_.toInt → th_.toInt ≤ 2 → Sf (k_49 l2 l3 l4 th_) (fun (z : Int32 × Int32) => 0 ≤ z.1.toInt ∧ z.1.toInt ≤ 1 ∧ 0 ≤ z.2.toInt ∧ z.2.toInt ≤ 2 ∧ True)) : ∀ (fu : Nat) (l2 : Int32) (l3 : Int32) (l4 : Int32) (l5 : Int32) (th_ : Int32), (21 - l5.toInt).toNat < fu → 0 ≤ p0.toInt → p0.toInt ≤ 2 → 0 ≤ l2.toInt → l2.toInt ≤ 1 → 0 ≤ l4.toInt → l4.toInt ≤ 5 → 1 ≤ l5.toInt → l5.toInt ≤ 21 → 0 ≤ th_.toInt → th_.toInt ≤ 2 → (6 - l4.toInt).toNat ≤ m_49 → Sf (fX7_isSound_59 N K th f t p0 k_49 fu l2 l3 l4 l5 th_) (fun (z : Int32 × Int32) => 0 ≤ z.1.toInt ∧ z.1.toInt ≤ 1 ∧ 0 ≤ z.2.toInt ∧ z.2.toInt ≤ 2 ∧ True) := by
  intro fu
  induction fu with
  | zero => intro l2 l3 l4 l5 th_ h0 hq0 hq1 hq2 hq3 hq4 hq5 hq6 hq7 hq8 hq9 hq10; omega
  | succ fu ih =>
    intro l2 l3 l4 l5 th_ h0 hq0 hq1 hq2 hq3 hq4 hq5 hq6 hq7 hq8 hq9 hq10
    unfold fX7_isSound_59
    have hN9 := hN.u
    have ql0 : (0 : Int32).toInt = 0 := by decide
    have ql1 : (1 : Int32).toInt = 1 := by decide
    have ql20 : (20 : Int32).toInt = 20 := by decide
    refine sIf (fun h1 => ?_) (fun h1 => ?_)
    · have fh1 := ltT h1
      have t2 := addI (a := l4) (b := (1 : Int32)) (by omega) (by omega)
      exact hk_49 _ _ _ _ (by omega) (by first | omega | decide) (by first | omega | decide) (by first | omega | decide) (by first | omega | decide) (by first | omega | decide) (by first | omega | decide) (by first | omega | decide) (by first | omega | decide)
    · have fh1 := ltF h1
      refine sBind (s_X7_row hN hK (by first | omega | decide) (by first | omega | decide) (by first | omega | decide) (by first | omega | decide)) (fun x70 b3 => ?_)
      exact s_X7_isSound_78 (hk_49 := hk_49) (hk_59 := ih) hN hK _ _ _ _ _ _ _ _ (by omega) (by first | omega | decide) (by first | omega | decide) (by first | omega | decide) (by first | omega | decide) (by first | omega | decide) (by first | omega | decide) (by first | omega | decide) (by first | omega | decide) (by first | omega | decide) (by first | omega | decide) (by first | omega | decide) (by first | omega | decide) (by omega) (by omega)
set_option maxHeartbeats 2000000 in
theorem s_X7_isSound_49 {N K : Nat} {th : Int32} {f : Nat → Int32} {t : Nat → Int32} {p0 : Int32} (hN : NBig N) (hK : 100 ≤ K)  : ∀ (fu : Nat) (l2 : Int32) (l3 : Int32) (l4 : Int32) (th_ : Int32), (6 - l4.toInt).toNat < fu → 0 ≤ p0.toInt → p0.toInt ≤ 2 → 0 ≤ l2.toInt → l2.toInt ≤ 1 → 0 ≤ l4.toInt → l4.toInt ≤ 6 → 0 ≤ th_.toInt → th_.toInt ≤ 2 → Sf (fX7_isSound_49 N K th f t p0  fu l2 l3 l4 th_) (fun (z : Int32 × Int32) => 0 ≤ z.1.toInt ∧ z.1.toInt ≤ 1 ∧ 0 ≤ z.2.toInt ∧ z.2.toInt ≤ 2 ∧ True) := by
  intro fu
  induction fu with
  | zero => intro l2 l3 l4 th_ h0 hq0 hq1 hq2 hq3 hq4 hq5 hq6 hq7; omega
  | succ fu ih =>
    intro l2 l3 l4 th_ h0 hq0 hq1 hq2 hq3 hq4 hq5 hq6 hq7
    unfold fX7_isSound_49
    have ql0 : (0 : Int32).toInt = 0 := by decide
    have ql1 : (1 : Int32).toInt = 1 := by decide
    have ql6 : (6 : Int32).toInt = 6 := by decide
    refine sIf (fun h1 => ?_) (fun h1 => ?_)
    · have fh1 := leT h1
      refine sIf (fun h2 => ?_) (fun h2 => ?_)
      · have fh2 := eqT h2
        exact sRet ⟨(by show 0 ≤ (0 : Int32).toInt; decide), (by show (0 : Int32).toInt ≤ 1; decide), (by show 0 ≤ th_.toInt; first | omega | assumption), (by show th_.toInt ≤ 2; first | omega | assumption), trivial⟩
      · have fh2 := eqF h2
        refine sBind (s_X7_told2 hN hK (by first | omega | decide) (by first | omega | decide) (by first | omega | decide) (by first | omega | decide) (by first | omega | decide) (by first | omega | decide)) (fun x169 b3 => ?_)
        refine sIf (fun h4 => ?_) (fun h4 => ?_)
        · have fh4 := eqT h4
          exact sRet ⟨(by show 0 ≤ (1 : Int32).toInt; decide), (by show (1 : Int32).toInt ≤ 1; decide), (by show 0 ≤ th_.toInt; first | omega | assumption), (by show th_.toInt ≤ 2; first | omega | assumption), trivial⟩
        · have fh4 := eqF h4
          exact sRet ⟨(by show 0 ≤ (0 : Int32).toInt; decide), (by show (0 : Int32).toInt ≤ 1; decide), (by show 0 ≤ th_.toInt; first | omega | assumption), (by show th_.toInt ≤ 2; first | omega | assumption), trivial⟩
    · have fh1 := leF h1
      exact s_X7_isSound_59 (hk_49 := ih) hN hK _ _ _ _ _ _ (by omega) (by first | omega | decide) (by first | omega | decide) (by first | omega | decide) (by first | omega | decide) (by first | omega | decide) (by first | omega | decide) (by first | omega | decide) (by first | omega | decide) (by first | omega | decide) (by first | omega | decide) (by omega)
set_option maxHeartbeats 2000000 in
theorem s_X7_isSound_43 {N K : Nat} {th : Int32} {f : Nat → Int32} {t : Nat → Int32} {p0 : Int32} (hN : NBig N) (hK : 100 ≤ K)  : ∀ (s0 : Int32) (th_ : Int32), 0 ≤ p0.toInt → p0.toInt ≤ 2 → 0 ≤ s0.toInt → s0.toInt ≤ 1 → 0 ≤ th_.toInt → th_.toInt ≤ 2 → (s0.toInt = 0 → 0 ≤ p0.toInt ∧ p0.toInt ≤ 2) → Sf (fX7_isSound_43 N K th f t p0  s0 th_) (fun (z : Int32 × Int32) => 0 ≤ z.1.toInt ∧ z.1.toInt ≤ 1 ∧ 0 ≤ z.2.toInt ∧ z.2.toInt ≤ 2 ∧ True) := by
  intro s0 th_ hq0 hq1 hq2 hq3 hq4 hq5 hq6
  unfold fX7_isSound_43
  have ql0 : (0 : Int32).toInt = 0 := by decide
  exact s_X7_isSound_49  hN hK _ _ _ _ _ (by omega) (by first | omega | decide) (by first | omega | decide) (by first | omega | decide) (by first | omega | decide) (by first | omega | decide) (by first | omega | decide) (by first | omega | decide) (by first | omega | decide)
set_option maxHeartbeats 2000000 in
theorem s_X7_isSound {N K : Nat} {th : Int32} {f : Nat → Int32} {t : Nat → Int32} {p0 : Int32} (hN : NBig N) (hK : 100 ≤ K)  : Sf (fX7_isSound N K th f t p0) (fun (z : Int32 × Int32) => 0 ≤ z.1.toInt ∧ z.1.toInt ≤ 1 ∧ 0 ≤ z.2.toInt ∧ z.2.toInt ≤ 2 ∧ True) := by
  unfold fX7_isSound
  have ql0 : (0 : Int32).toInt = 0 := by decide
  have ql1 : (1 : Int32).toInt = 1 := by decide
  have ql2 : (2 : Int32).toInt = 2 := by decide
  refine sBind (s_X7_isNo hN hK (by first | omega | decide) (by first | omega | decide) (by first | omega | decide) (by first | omega | decide)) (fun x4 b1 => ?_)
  obtain ⟨b1_0, b1_1, b1_2, -⟩ := b1
  replace b1_0 : 0 ≤ x4.toInt := b1_0
  replace b1_1 : x4.toInt ≤ 1 := b1_1
  replace b1_2 : (x4.toInt = 0 → ((0 : Int32).toInt ≤ p0.toInt ∧ p0.toInt ≤ (2 : Int32).toInt)) := b1_2
  refine sBind (s_X7_isThrown hN hK (by first | omega | decide) (by first | omega | decide) (by first | omega | decide) (by first | omega | decide)) (fun x8 b2 => ?_)
  obtain ⟨b2_0, b2_1, b2_2, b2_3, b2_4, b2_5, -⟩ := b2
  replace b2_0 : 0 ≤ x8.1.toInt := b2_0
  replace b2_1 : x8.1.toInt ≤ 1 := b2_1
  replace b2_2 : 0 ≤ x8.2.toInt := b2_2
  replace b2_3 : x8.2.toInt ≤ 2 := b2_3
  replace b2_4 : (x8.1.toInt = 0 → (0 ≤ x4.toInt ∧ x4.toInt ≤ 0)) := b2_4
  replace b2_5 : (x8.1.toInt = 0 → (0 ≤ (0 : Int32).toInt ∧ (0 : Int32).toInt ≤ 0)) := b2_5
  refine sIf (fun h3 => ?_) (fun h3 => ?_)
  · have fh3 := eqT h3
    refine sIf (fun h4 => ?_) (fun h4 => ?_)
    · have fh4 := eqT h4
      exact s_X7_isSound_43  hN hK _ _ (by first | omega | decide) (by first | omega | decide) (by first | omega | decide) (by first | omega | decide) (by first | omega | decide) (by first | omega | decide) (by first | omega | decide)
    · have fh4 := eqF h4
      exact s_X7_isSound_43  hN hK _ _ (by first | omega | decide) (by first | omega | decide) (by first | omega | decide) (by first | omega | decide) (by first | omega | decide) (by first | omega | decide) (by first | omega | decide)
  · have fh3 := eqF h3
    exact sRet ⟨(by show 0 ≤ (0 : Int32).toInt; decide), (by show (0 : Int32).toInt ≤ 1; decide), (by show 0 ≤ x8.2.toInt; first | omega | assumption), (by show x8.2.toInt ≤ 2; first | omega | assumption), trivial⟩
set_option maxHeartbeats 2000000 in
theorem s_X7_digest {N K : Nat} {th : Int32} {f0 : Nat → Int32} {f1 : Nat → Int32} {f2 : Nat → Int32} {g0 : Nat → Int32} {g1 : Nat → Int32} {g2 : Nat → Int32} {e0 : Nat → Int32} {e1 : Nat → Int32} {t : Nat → Int32} (hN : NBig N) (hK : 100 ≤ K) (hp0 : OkD e0) (hp1 : OkD e1) : Sf (fX7_digest N K th f0 f1 f2 g0 g1 g2 e0 e1 t) (fun (z : Int64 × Int32) => 0 ≤ z.2.toInt ∧ z.2.toInt ≤ 0 ∧ True) := by
  unfold fX7_digest
  have ql0 : (0 : Int32).toInt = 0 := by decide
  have ql1 : (1 : Int32).toInt = 1 := by decide
  have ql2 : (2 : Int32).toInt = 2 := by decide
  refine sBind (s_X7_told2 hN hK (by first | omega | decide) (by first | omega | decide) (by first | omega | decide) (by first | omega | decide) (by first | omega | decide) (by first | omega | decide)) (fun x27 b1 => ?_)
  refine sBind (s_X7_told2 hN hK (by first | omega | decide) (by first | omega | decide) (by first | omega | decide) (by first | omega | decide) (by first | omega | decide) (by first | omega | decide)) (fun x36 b2 => ?_)
  refine sBind (s_X7_told2 hN hK (by first | omega | decide) (by first | omega | decide) (by first | omega | decide) (by first | omega | decide) (by first | omega | decide) (by first | omega | decide)) (fun x27_1 b3 => ?_)
  refine sBind (s_X7_told2 hN hK (by first | omega | decide) (by first | omega | decide) (by first | omega | decide) (by first | omega | decide) (by first | omega | decide) (by first | omega | decide)) (fun x36_1 b4 => ?_)
  refine sBind (s_X7_told2 hN hK (by first | omega | decide) (by first | omega | decide) (by first | omega | decide) (by first | omega | decide) (by first | omega | decide) (by first | omega | decide)) (fun x27_2 b5 => ?_)
  refine sBind (s_X7_told2 hN hK (by first | omega | decide) (by first | omega | decide) (by first | omega | decide) (by first | omega | decide) (by first | omega | decide) (by first | omega | decide)) (fun x36_2 b6 => ?_)
  refine sBind (s_X7_ledgerTold hN hK (by first | omega | decide) (by first | omega | decide) (by first | omega | decide) (by first | omega | decide) (by first | omega | decide) (by first | omega | decide)) (fun x66 b7 => ?_)
  refine sBind (s_X7_ledgerTold hN hK (by first | omega | decide) (by first | omega | decide) (by first | omega | decide) (by first | omega | decide) (by first | omega | decide) (by first | omega | decide)) (fun x75 b8 => ?_)
  refine sBind (s_X7_ledgerTold hN hK (by first | omega | decide) (by first | omega | decide) (by first | omega | decide) (by first | omega | decide) (by first | omega | decide) (by first | omega | decide)) (fun x66_1 b9 => ?_)
  refine sBind (s_X7_ledgerTold hN hK (by first | omega | decide) (by first | omega | decide) (by first | omega | decide) (by first | omega | decide) (by first | omega | decide) (by first | omega | decide)) (fun x75_1 b10 => ?_)
  refine sBind (s_X7_ledgerTold hN hK (by first | omega | decide) (by first | omega | decide) (by first | omega | decide) (by first | omega | decide) (by first | omega | decide) (by first | omega | decide)) (fun x66_2 b11 => ?_)
  refine sBind (s_X7_ledgerTold hN hK (by first | omega | decide) (by first | omega | decide) (by first | omega | decide) (by first | omega | decide) (by first | omega | decide) (by first | omega | decide)) (fun x75_2 b12 => ?_)
  refine sIfF (noob (by omega) (by omega)) ?_
  refine sBind (s_X7_number hN hK (by first | assumption | exact OkD.z)) (fun x122 b13 => ?_)
  obtain ⟨b13_0, b13_1, -⟩ := b13
  replace b13_0 : 0 ≤ x122.toInt := b13_0
  replace b13_1 : x122.toInt ≤ 20 := b13_1
  refine sBind (s_X7_parts hN hK) (fun x130 b14 => ?_)
  refine sIfF (noob (by omega) (by omega)) ?_
  refine sBind (s_X7_number hN hK (by first | assumption | exact OkD.z)) (fun x122_1 b15 => ?_)
  obtain ⟨b15_0, b15_1, -⟩ := b15
  replace b15_0 : 0 ≤ x122_1.toInt := b15_0
  replace b15_1 : x122_1.toInt ≤ 20 := b15_1
  refine sBind (s_X7_parts hN hK) (fun x130_1 b16 => ?_)
  exact sRet ⟨(by show 0 ≤ (0 : Int32).toInt; decide), (by show (0 : Int32).toInt ≤ 0; decide), trivial⟩
