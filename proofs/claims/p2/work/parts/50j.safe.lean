set_option maxHeartbeats 2000000 in
theorem s_X7_rule_24 {N K : Nat} {th : Int32} {f : Nat → Int32} {t : Nat → Int32} {u : Nat → Int32} {p0 : Int32} {p1 : Int32} (hN : NBig N) (hK : 100 ≤ K)  : ∀ (fu : Nat) (l3 : Int32) (th_ : Int32) (f_ : (Nat → Int32)) (t_ : (Nat → Int32)) (u_ : (Nat → Int32)), (20 - l3.toInt).toNat < fu → 0 ≤ p0.toInt → p0.toInt ≤ 2 → 0 ≤ p1.toInt → p1.toInt ≤ 20 → 0 ≤ l3.toInt → l3.toInt ≤ 20 → 0 ≤ th_.toInt → th_.toInt ≤ 2 → Sf (fX7_rule_24 N K th f t u p0 p1  fu l3 th_ f_ t_ u_) (fun (z : Int32 × Int32 × (Nat → Int32) × (Nat → Int32) × (Nat → Int32)) => 0 ≤ z.2.1.toInt ∧ z.2.1.toInt ≤ 2 ∧ True) := by
  intro fu
  induction fu with
  | zero => intro l3 th_ f_ t_ u_ h0 hq0 hq1 hq2 hq3 hq4 hq5 hq6 hq7; omega
  | succ fu ih =>
    intro l3 th_ f_ t_ u_ h0 hq0 hq1 hq2 hq3 hq4 hq5 hq6 hq7
    unfold fX7_rule_24
    have hN9 := hN.u
    have ql0 : (0 : Int32).toInt = 0 := by decide
    have ql1 : (1 : Int32).toInt = 1 := by decide
    refine sIf (fun h1 => ?_) (fun h1 => ?_)
    · have r2 := rgI p1
      have r3 := rgI l3
      have fh1 := leT h1
      refine sIfF (noob (by omega) (by omega)) ?_
      have r4 := rgI th_
      exact s_X7_rule_51  hN hK _ _ _ _ _ _ (by omega) (by first | omega | decide) (by first | omega | decide) (by first | omega | decide) (by first | omega | decide) (by first | omega | decide) (by first | omega | decide) (by first | omega | decide) (by first | omega | decide)
    · have r5 := rgI p1
      have r6 := rgI l3
      have fh1 := leF h1
      refine sIfF (noob (by omega) (by omega)) ?_
      have t7 := addI (a := l3) (b := (1 : Int32)) (by omega) (by omega)
      have r8 := rgI th_
      exact ih _ _ _ _ _ (by omega) (by first | omega | decide) (by first | omega | decide) (by first | omega | decide) (by first | omega | decide) (by first | omega | decide) (by first | omega | decide) (by first | omega | decide) (by first | omega | decide)
set_option maxHeartbeats 2000000 in
theorem s_X7_rule {N K : Nat} {th : Int32} {f : Nat → Int32} {t : Nat → Int32} {u : Nat → Int32} {p0 : Int32} {p1 : Int32} (hN : NBig N) (hK : 100 ≤ K)  : Sf (fX7_rule N K th f t u p0 p1) (fun (z : Int32 × Int32 × (Nat → Int32) × (Nat → Int32) × (Nat → Int32)) => 0 ≤ z.2.1.toInt ∧ z.2.1.toInt ≤ 2 ∧ True) := by
  unfold fX7_rule
  have hN9 := hN.u
  have ql0 : (0 : Int32).toInt = 0 := by decide
  have ql2 : (2 : Int32).toInt = 2 := by decide
  have ql20 : (20 : Int32).toInt = 20 := by decide
  have r1 := rgI p0
  refine sBind (s_X7_isNo hN hK (by first | omega | decide) (by first | omega | decide) (by first | omega | decide) (by first | omega | decide)) (fun x4 b2 => ?_)
  obtain ⟨b2_0, b2_1, b2_2, -⟩ := b2
  replace b2_0 : 0 ≤ x4.toInt := b2_0
  replace b2_1 : x4.toInt ≤ 1 := b2_1
  replace b2_2 : (x4.toInt = 0 → ((0 : Int32).toInt ≤ p0.toInt ∧ p0.toInt ≤ (2 : Int32).toInt)) := b2_2
  have r3 := rgI p1
  refine sBind (s_X7_isNo hN hK (by first | omega | decide) (by first | omega | decide) (by first | omega | decide) (by first | omega | decide)) (fun x11 b4 => ?_)
  obtain ⟨b4_0, b4_1, b4_2, -⟩ := b4
  replace b4_0 : 0 ≤ x11.toInt := b4_0
  replace b4_1 : x11.toInt ≤ 1 := b4_1
  replace b4_2 : (x11.toInt = 0 → ((0 : Int32).toInt ≤ p1.toInt ∧ p1.toInt ≤ (20 : Int32).toInt)) := b4_2
  have r5 := rgI th
  have r6 := rgI x4
  have r7 := rgI x11
  refine sBind (s_X7_isThrown hN hK (by first | omega | decide) (by first | omega | decide) (by first | omega | decide) (by first | omega | decide)) (fun x14 b8 => ?_)
  obtain ⟨b8_0, b8_1, b8_2, b8_3, b8_4, b8_5, -⟩ := b8
  replace b8_0 : 0 ≤ x14.1.toInt := b8_0
  replace b8_1 : x14.1.toInt ≤ 1 := b8_1
  replace b8_2 : 0 ≤ x14.2.toInt := b8_2
  replace b8_3 : x14.2.toInt ≤ 2 := b8_3
  replace b8_4 : (x14.1.toInt = 0 → (0 ≤ x4.toInt ∧ x4.toInt ≤ 0)) := b8_4
  replace b8_5 : (x14.1.toInt = 0 → (0 ≤ x11.toInt ∧ x11.toInt ≤ 0)) := b8_5
  refine sIf (fun h9 => ?_) (fun h9 => ?_)
  · have r10 := rgI x14.1
    have fh9 := eqT h9
    have r11 := rgI x14.2
    exact s_X7_rule_24  hN hK _ _ _ _ _ _ (by omega) (by first | omega | decide) (by first | omega | decide) (by first | omega | decide) (by first | omega | decide) (by first | omega | decide) (by first | omega | decide) (by first | omega | decide) (by first | omega | decide)
  · have r12 := rgI x14.1
    have fh9 := eqF h9
    have r13 := rgI x14.2
    exact sRet ⟨(by show 0 ≤ x14.2.toInt; omega), (by show x14.2.toInt ≤ 2; omega), trivial⟩
set_option maxHeartbeats 2000000 in
theorem s_X7_forgetRule_87 {N K : Nat} {th : Int32} {f : Nat → Int32} {t : Nat → Int32} {p0 : Int32} {p1 : Int32} (hN : NBig N) (hK : 100 ≤ K)  {k_60 : Int32 → Int32 → Int32 → (Nat → Int32) → (Nat → Int32) → Option (Int32 × Int32 × (Nat → Int32) × (Nat → Int32))} {m_60 : Nat} (hk_60 : ∀ (l3 : Int32) (l4 : Int32) (th_ : Int32) (f_ : (Nat → Int32)) (t_ : (Nat → Int32)), (21 - l4.toInt).toNat < m_60 → 0 ≤ p0.toInt → p0.toInt ≤ 2 → 0 ≤ p1.toInt → p1.toInt ≤ 20 → 1 ≤ l4.toInt → l4.toInt ≤ 21 → 0 ≤ th_.toInt → th_.toInt ≤ 2 → Sf (k_60 l3 l4 th_ f_ t_) (fun (z : Int32 × Int32 × (Nat → Int32) × (Nat → Int32)) => 0 ≤ z.2.1.toInt ∧ z.2.1.toInt ≤ 2 ∧ True)) : ∀ (l3 : Int32) (l4 : Int32) (th_ : Int32) (f_ : Nat → Int32) (t_ : Nat → Int32), 0 ≤ p0.toInt → p0.toInt ≤ 2 → 0 ≤ p1.toInt → p1.toInt ≤ 20 → 1 ≤ l4.toInt → l4.toInt ≤ 20 → 0 ≤ th_.toInt → th_.toInt ≤ 2 → (21 - l4.toInt).toNat ≤ m_60 → Sf (fX7_forgetRule_87 N K th f t p0 p1 k_60 l3 l4 th_ f_ t_) (fun (z : Int32 × Int32 × (Nat → Int32) × (Nat → Int32)) => 0 ≤ z.2.1.toInt ∧ z.2.1.toInt ≤ 2 ∧ True) := by
  intro l3 l4 th_ f_ t_ hq0 hq1 hq2 hq3 hq4 hq5 hq6 hq7 hq8
  unfold fX7_forgetRule_87
  have ql0 : (0 : Int32).toInt = 0 := by decide
  have ql1 : (1 : Int32).toInt = 1 := by decide
  have r1 := rgI l3
  have r3 := rgI l4
  have t2 := addI (a := l4) (b := (1 : Int32)) (by omega) (by omega)
  have r4 := rgI th_
  exact hk_60 _ _ _ _ _ (by omega) (by first | omega | decide) (by first | omega | decide) (by first | omega | decide) (by first | omega | decide) (by first | omega | decide) (by first | omega | decide) (by first | omega | decide) (by first | omega | decide)
set_option maxHeartbeats 2000000 in
theorem s_X7_forgetRule_77 {N K : Nat} {th : Int32} {f : Nat → Int32} {t : Nat → Int32} {p0 : Int32} {p1 : Int32} (hN : NBig N) (hK : 100 ≤ K)  {k_60 : Int32 → Int32 → Int32 → (Nat → Int32) → (Nat → Int32) → Option (Int32 × Int32 × (Nat → Int32) × (Nat → Int32))} {m_60 : Nat} (hk_60 : ∀ (l3 : Int32) (l4 : Int32) (th_ : Int32) (f_ : (Nat → Int32)) (t_ : (Nat → Int32)), (21 - l4.toInt).toNat < m_60 → 0 ≤ p0.toInt → p0.toInt ≤ 2 → 0 ≤ p1.toInt → p1.toInt ≤ 20 → 1 ≤ l4.toInt → l4.toInt ≤ 21 → 0 ≤ th_.toInt → th_.toInt ≤ 2 → Sf (k_60 l3 l4 th_ f_ t_) (fun (z : Int32 × Int32 × (Nat → Int32) × (Nat → Int32)) => 0 ≤ z.2.1.toInt ∧ z.2.1.toInt ≤ 2 ∧ True)) : ∀ (l3 : Int32) (l4 : Int32) (th_ : Int32) (f_ : Nat → Int32) (t_ : Nat → Int32), 0 ≤ p0.toInt → p0.toInt ≤ 2 → 0 ≤ p1.toInt → p1.toInt ≤ 20 → 1 ≤ l4.toInt → l4.toInt ≤ 20 → 0 ≤ th_.toInt → th_.toInt ≤ 2 → (21 - l4.toInt).toNat ≤ m_60 → Sf (fX7_forgetRule_77 N K th f t p0 p1 k_60 l3 l4 th_ f_ t_) (fun (z : Int32 × Int32 × (Nat → Int32) × (Nat → Int32)) => 0 ≤ z.2.1.toInt ∧ z.2.1.toInt ≤ 2 ∧ True) := by
  intro l3 l4 th_ f_ t_ hq0 hq1 hq2 hq3 hq4 hq5 hq6 hq7 hq8
  unfold fX7_forgetRule_77
  have ql0 : (0 : Int32).toInt = 0 := by decide
  have r1 := rgI p0
  refine sIfF (noob (by omega) (by omega)) ?_
  have r2 := rgI l4
  refine sIfF (noob (by omega) (by omega)) ?_
  have r3 := rgI l3
  have r4 := rgI th_
  exact s_X7_forgetRule_87 (hk_60 := hk_60) hN hK _ _ _ _ _ (by first | omega | decide) (by first | omega | decide) (by first | omega | decide) (by first | omega | decide) (by first | omega | decide) (by first | omega | decide) (by first | omega | decide) (by first | omega | decide) (by omega)
set_option maxHeartbeats 2000000 in
theorem s_X7_forgetRule_60 {N K : Nat} {th : Int32} {f : Nat → Int32} {t : Nat → Int32} {p0 : Int32} {p1 : Int32} (hN : NBig N) (hK : 100 ≤ K)  : ∀ (fu : Nat) (l3 : Int32) (l4 : Int32) (th_ : Int32) (f_ : (Nat → Int32)) (t_ : (Nat → Int32)), (21 - l4.toInt).toNat < fu → 0 ≤ p0.toInt → p0.toInt ≤ 2 → 0 ≤ p1.toInt → p1.toInt ≤ 20 → 1 ≤ l4.toInt → l4.toInt ≤ 21 → 0 ≤ th_.toInt → th_.toInt ≤ 2 → Sf (fX7_forgetRule_60 N K th f t p0 p1  fu l3 l4 th_ f_ t_) (fun (z : Int32 × Int32 × (Nat → Int32) × (Nat → Int32)) => 0 ≤ z.2.1.toInt ∧ z.2.1.toInt ≤ 2 ∧ True) := by
  intro fu
  induction fu with
  | zero => intro l3 l4 th_ f_ t_ h0 hq0 hq1 hq2 hq3 hq4 hq5 hq6 hq7; omega
  | succ fu ih =>
    intro l3 l4 th_ f_ t_ h0 hq0 hq1 hq2 hq3 hq4 hq5 hq6 hq7
    unfold fX7_forgetRule_60
    have ql0 : (0 : Int32).toInt = 0 := by decide
    have ql20 : (20 : Int32).toInt = 20 := by decide
    refine sIf (fun h1 => ?_) (fun h1 => ?_)
    · have r2 := rgI l4
      have fh1 := ltT h1
      have r3 := rgI th_
      have r4 := rgI l3
      refine sBind (s_X7_done hN hK (by first | omega | decide) (by first | omega | decide)) (fun x95 b5 => ?_)
      have r6 := rgI x95.1
      exact sRet ⟨(by show 0 ≤ th_.toInt; omega), (by show th_.toInt ≤ 2; omega), trivial⟩
    · have r7 := rgI l4
      have fh1 := ltF h1
      refine sIf (fun h8 => ?_) (fun h8 => ?_)
      · have r9 := rgI p1
        have fh8 := eqT h8
        have r10 := rgI l3
        have r11 := rgI th_
        exact s_X7_forgetRule_77 (hk_60 := ih) hN hK _ _ _ _ _ (by first | omega | decide) (by first | omega | decide) (by first | omega | decide) (by first | omega | decide) (by first | omega | decide) (by first | omega | decide) (by first | omega | decide) (by first | omega | decide) (by omega)
      · have r12 := rgI p1
        have fh8 := eqF h8
        refine sIf (fun h13 => ?_) (fun h13 => ?_)
        · have fh13 := eqT h13
          have r14 := rgI l3
          have r15 := rgI th_
          exact s_X7_forgetRule_77 (hk_60 := ih) hN hK _ _ _ _ _ (by first | omega | decide) (by first | omega | decide) (by first | omega | decide) (by first | omega | decide) (by first | omega | decide) (by first | omega | decide) (by first | omega | decide) (by first | omega | decide) (by omega)
        · have fh13 := eqF h13
          have r16 := rgI l3
          have r17 := rgI th_
          exact s_X7_forgetRule_87 (hk_60 := ih) hN hK _ _ _ _ _ (by first | omega | decide) (by first | omega | decide) (by first | omega | decide) (by first | omega | decide) (by first | omega | decide) (by first | omega | decide) (by first | omega | decide) (by first | omega | decide) (by omega)
set_option maxHeartbeats 2000000 in
theorem s_X7_forgetRule_57 {N K : Nat} {th : Int32} {f : Nat → Int32} {t : Nat → Int32} {p0 : Int32} {p1 : Int32} (hN : NBig N) (hK : 100 ≤ K)  : ∀ (l3 : Int32) (th_ : Int32) (f_ : Nat → Int32) (t_ : Nat → Int32), 0 ≤ p0.toInt → p0.toInt ≤ 2 → 0 ≤ p1.toInt → p1.toInt ≤ 20 → 0 ≤ th_.toInt → th_.toInt ≤ 2 → Sf (fX7_forgetRule_57 N K th f t p0 p1  l3 th_ f_ t_) (fun (z : Int32 × Int32 × (Nat → Int32) × (Nat → Int32)) => 0 ≤ z.2.1.toInt ∧ z.2.1.toInt ≤ 2 ∧ True) := by
  intro l3 th_ f_ t_ hq0 hq1 hq2 hq3 hq4 hq5
  unfold fX7_forgetRule_57
  have hN9 := hN.u
  have ql0 : (0 : Int32).toInt = 0 := by decide
  have ql1 : (1 : Int32).toInt = 1 := by decide
  have r1 := rgI l3
  have r2 := rgI th_
  exact s_X7_forgetRule_60  hN hK _ _ _ _ _ _ (by omega) (by first | omega | decide) (by first | omega | decide) (by first | omega | decide) (by first | omega | decide) (by first | omega | decide) (by first | omega | decide) (by first | omega | decide) (by first | omega | decide)
set_option maxHeartbeats 2000000 in
theorem s_X7_forgetRule_43 {N K : Nat} {th : Int32} {f : Nat → Int32} {t : Nat → Int32} {p0 : Int32} {p1 : Int32} (hN : NBig N) (hK : 100 ≤ K)  : ∀ (s0 : Int32) (th_ : Int32) (f_ : Nat → Int32) (t_ : Nat → Int32), 0 ≤ p0.toInt → p0.toInt ≤ 2 → 0 ≤ p1.toInt → p1.toInt ≤ 20 → 0 ≤ th_.toInt → th_.toInt ≤ 2 → (s0.toInt = 0 → 0 ≤ p0.toInt ∧ p0.toInt ≤ 2 ∧ 0 ≤ p1.toInt ∧ p1.toInt ≤ 20) → Sf (fX7_forgetRule_43 N K th f t p0 p1  s0 th_ f_ t_) (fun (z : Int32 × Int32 × (Nat → Int32) × (Nat → Int32)) => 0 ≤ z.2.1.toInt ∧ z.2.1.toInt ≤ 2 ∧ True) := by
  intro s0 th_ f_ t_ hq0 hq1 hq2 hq3 hq4 hq5 hq6
  unfold fX7_forgetRule_43
  have ql0 : (0 : Int32).toInt = 0 := by decide
  refine sIf (fun h1 => ?_) (fun h1 => ?_)
  · have r2 := rgI p1
    have fh1 := leT h1
    have r3 := rgI s0
    have r4 := rgI th_
    exact s_X7_forgetRule_57  hN hK _ _ _ _ (by first | omega | decide) (by first | omega | decide) (by first | omega | decide) (by first | omega | decide) (by first | omega | decide) (by first | omega | decide)
  · have r5 := rgI p1
    have fh1 := leF h1
    refine sIf (fun h6 => ?_) (fun h6 => ?_)
    · have r7 := rgI s0
      have fh6 := eqT h6
      have r8 := rgI th_
      refine sBind (s_X7_refused hN hK (by first | omega | decide) (by first | omega | decide)) (fun x53 b9 => ?_)
      obtain ⟨b9_0, b9_1, -⟩ := b9
      replace b9_0 : -9 ≤ x53.1.toInt := b9_0
      replace b9_1 : x53.1.toInt ≤ -9 := b9_1
      have r10 := rgI x53.1
      exact sRet ⟨(by show 0 ≤ th_.toInt; omega), (by show th_.toInt ≤ 2; omega), trivial⟩
    · have r11 := rgI s0
      have fh6 := eqF h6
      have r12 := rgI th_
      exact s_X7_forgetRule_57  hN hK _ _ _ _ (by first | omega | decide) (by first | omega | decide) (by first | omega | decide) (by first | omega | decide) (by first | omega | decide) (by first | omega | decide)
set_option maxHeartbeats 2000000 in
theorem s_X7_forgetRule {N K : Nat} {th : Int32} {f : Nat → Int32} {t : Nat → Int32} {p0 : Int32} {p1 : Int32} (hN : NBig N) (hK : 100 ≤ K)  : Sf (fX7_forgetRule N K th f t p0 p1) (fun (z : Int32 × Int32 × (Nat → Int32) × (Nat → Int32)) => 0 ≤ z.2.1.toInt ∧ z.2.1.toInt ≤ 2 ∧ True) := by
  unfold fX7_forgetRule
  have ql0 : (0 : Int32).toInt = 0 := by decide
  have ql2 : (2 : Int32).toInt = 2 := by decide
  have ql20 : (20 : Int32).toInt = 20 := by decide
  have r1 := rgI p0
  refine sBind (s_X7_isNo hN hK (by first | omega | decide) (by first | omega | decide) (by first | omega | decide) (by first | omega | decide)) (fun x4 b2 => ?_)
  obtain ⟨b2_0, b2_1, b2_2, -⟩ := b2
  replace b2_0 : 0 ≤ x4.toInt := b2_0
  replace b2_1 : x4.toInt ≤ 1 := b2_1
  replace b2_2 : (x4.toInt = 0 → ((0 : Int32).toInt ≤ p0.toInt ∧ p0.toInt ≤ (2 : Int32).toInt)) := b2_2
  have r3 := rgI p1
  refine sBind (s_X7_isNo hN hK (by first | omega | decide) (by first | omega | decide) (by first | omega | decide) (by first | omega | decide)) (fun x11 b4 => ?_)
  obtain ⟨b4_0, b4_1, b4_2, -⟩ := b4
  replace b4_0 : 0 ≤ x11.toInt := b4_0
  replace b4_1 : x11.toInt ≤ 1 := b4_1
  replace b4_2 : (x11.toInt = 0 → ((0 : Int32).toInt ≤ p1.toInt ∧ p1.toInt ≤ (20 : Int32).toInt)) := b4_2
  have r5 := rgI th
  have r6 := rgI x4
  have r7 := rgI x11
  refine sBind (s_X7_isThrown hN hK (by first | omega | decide) (by first | omega | decide) (by first | omega | decide) (by first | omega | decide)) (fun x14 b8 => ?_)
  obtain ⟨b8_0, b8_1, b8_2, b8_3, b8_4, b8_5, -⟩ := b8
  replace b8_0 : 0 ≤ x14.1.toInt := b8_0
  replace b8_1 : x14.1.toInt ≤ 1 := b8_1
  replace b8_2 : 0 ≤ x14.2.toInt := b8_2
  replace b8_3 : x14.2.toInt ≤ 2 := b8_3
  replace b8_4 : (x14.1.toInt = 0 → (0 ≤ x4.toInt ∧ x4.toInt ≤ 0)) := b8_4
  replace b8_5 : (x14.1.toInt = 0 → (0 ≤ x11.toInt ∧ x11.toInt ≤ 0)) := b8_5
  refine sIf (fun h9 => ?_) (fun h9 => ?_)
  · have r10 := rgI x14.1
    have fh9 := eqT h9
    refine sIf (fun h11 => ?_) (fun h11 => ?_)
    · have fh11 := eqT h11
      have r12 := rgI x14.2
      refine sBind (s_X7_ledgerTold hN hK (by first | omega | decide) (by first | omega | decide) (by first | omega | decide) (by first | omega | decide) (by first | omega | decide) (by first | omega | decide)) (fun x29 b13 => ?_)
      have r14 := rgI x29
      exact s_X7_forgetRule_43  hN hK _ _ _ _ (by first | omega | decide) (by first | omega | decide) (by first | omega | decide) (by first | omega | decide) (by first | omega | decide) (by first | omega | decide) (by first | omega | decide)
    · have fh11 := eqF h11
      refine sIfF (noob (by omega) (by omega)) ?_
      refine sIfF (noob (by omega) (by omega)) ?_
      have r15 := rgI (f p1.toNatClampNeg)
      have r16 := rgI x14.2
      exact s_X7_forgetRule_43  hN hK _ _ _ _ (by first | omega | decide) (by first | omega | decide) (by first | omega | decide) (by first | omega | decide) (by first | omega | decide) (by first | omega | decide) (by first | omega | decide)
  · have r17 := rgI x14.1
    have fh9 := eqF h9
    have r18 := rgI x14.2
    exact sRet ⟨(by show 0 ≤ x14.2.toInt; omega), (by show x14.2.toInt ≤ 2; omega), trivial⟩
set_option maxHeartbeats 2000000 in
theorem s_X7_ledger {N K : Nat} {th : Int32} {f : Nat → Int32} {p0 : Int32} {p1 : Int32} (hN : NBig N) (hK : 100 ≤ K)  : Sf (fX7_ledger N K th f p0 p1) (fun (z : Int32 × Int32) => 0 ≤ z.2.toInt ∧ z.2.toInt ≤ 2 ∧ True) := by
  unfold fX7_ledger
  have ql0 : (0 : Int32).toInt = 0 := by decide
  have ql1 : (1 : Int32).toInt = 1 := by decide
  have ql2 : (2 : Int32).toInt = 2 := by decide
  have r1 := rgI p0
  refine sBind (s_X7_isNo hN hK (by first | omega | decide) (by first | omega | decide) (by first | omega | decide) (by first | omega | decide)) (fun x4 b2 => ?_)
  obtain ⟨b2_0, b2_1, b2_2, -⟩ := b2
  replace b2_0 : 0 ≤ x4.toInt := b2_0
  replace b2_1 : x4.toInt ≤ 1 := b2_1
  replace b2_2 : (x4.toInt = 0 → ((0 : Int32).toInt ≤ p0.toInt ∧ p0.toInt ≤ (2 : Int32).toInt)) := b2_2
  have r3 := rgI p1
  refine sBind (s_X7_isNo hN hK (by first | omega | decide) (by first | omega | decide) (by first | omega | decide) (by first | omega | decide)) (fun x10 b4 => ?_)
  obtain ⟨b4_0, b4_1, b4_2, -⟩ := b4
  replace b4_0 : 0 ≤ x10.toInt := b4_0
  replace b4_1 : x10.toInt ≤ 1 := b4_1
  replace b4_2 : (x10.toInt = 0 → ((0 : Int32).toInt ≤ p1.toInt ∧ p1.toInt ≤ (1 : Int32).toInt)) := b4_2
  have r5 := rgI th
  have r6 := rgI x4
  have r7 := rgI x10
  refine sBind (s_X7_isThrown hN hK (by first | omega | decide) (by first | omega | decide) (by first | omega | decide) (by first | omega | decide)) (fun x13 b8 => ?_)
  obtain ⟨b8_0, b8_1, b8_2, b8_3, b8_4, b8_5, -⟩ := b8
  replace b8_0 : 0 ≤ x13.1.toInt := b8_0
  replace b8_1 : x13.1.toInt ≤ 1 := b8_1
  replace b8_2 : 0 ≤ x13.2.toInt := b8_2
  replace b8_3 : x13.2.toInt ≤ 2 := b8_3
  replace b8_4 : (x13.1.toInt = 0 → (0 ≤ x4.toInt ∧ x4.toInt ≤ 0)) := b8_4
  replace b8_5 : (x13.1.toInt = 0 → (0 ≤ x10.toInt ∧ x10.toInt ≤ 0)) := b8_5
  refine sIf (fun h9 => ?_) (fun h9 => ?_)
  · have r10 := rgI x13.1
    have fh9 := eqT h9
    have r11 := rgI x13.2
    refine sBind (s_X7_ledgerTold hN hK (by first | omega | decide) (by first | omega | decide) (by first | omega | decide) (by first | omega | decide) (by first | omega | decide) (by first | omega | decide)) (fun x26 b12 => ?_)
    have r13 := rgI x26
    exact sRet ⟨(by show 0 ≤ x13.2.toInt; omega), (by show x13.2.toInt ≤ 2; omega), trivial⟩
  · have r14 := rgI x13.1
    have fh9 := eqF h9
    have r15 := rgI x13.2
    exact sRet ⟨(by show 0 ≤ x13.2.toInt; omega), (by show x13.2.toInt ≤ 2; omega), trivial⟩
set_option maxHeartbeats 2000000 in
theorem s_X7_ruleWorth_31 {N K : Nat} {th : Int32} {f : Nat → Int32} {p0 : Int32} {p1 : Int32} {p2 : Int32} (hN : NBig N) (hK : 100 ≤ K)  : ∀ (s0 : Int32) (s1 : Int32) (th_ : Int32), 0 ≤ s0.toInt → s0.toInt ≤ 1 → 0 ≤ s1.toInt → s1.toInt ≤ 1 → (s0.toInt = 0 → 0 ≤ p1.toInt ∧ p1.toInt ≤ 20 ∧ 0 ≤ p2.toInt ∧ p2.toInt ≤ 1) → (s1.toInt = 0 → 0 ≤ p0.toInt ∧ p0.toInt ≤ 2) → Sf (fX7_ruleWorth_31 N K th f p0 p1 p2  s0 s1 th_) (fun (z : Int32 × Int32) => 0 ≤ z.2.toInt ∧ z.2.toInt ≤ 2 ∧ True) := by
  intro s0 s1 th_ hq0 hq1 hq2 hq3 hq4 hq5
  unfold fX7_ruleWorth_31
  have ql0 : (0 : Int32).toInt = 0 := by decide
  have r1 := rgI th_
  have r2 := rgI s1
  have r3 := rgI s0
  refine sBind (s_X7_isThrown hN hK (by first | omega | decide) (by first | omega | decide) (by first | omega | decide) (by first | omega | decide)) (fun x31 b4 => ?_)
  obtain ⟨b4_0, b4_1, b4_2, b4_3, b4_4, b4_5, -⟩ := b4
  replace b4_0 : 0 ≤ x31.1.toInt := b4_0
  replace b4_1 : x31.1.toInt ≤ 1 := b4_1
  replace b4_2 : 0 ≤ x31.2.toInt := b4_2
  replace b4_3 : x31.2.toInt ≤ 2 := b4_3
  replace b4_4 : (x31.1.toInt = 0 → (0 ≤ s1.toInt ∧ s1.toInt ≤ 0)) := b4_4
  replace b4_5 : (x31.1.toInt = 0 → (0 ≤ s0.toInt ∧ s0.toInt ≤ 0)) := b4_5
  refine sIf (fun h5 => ?_) (fun h5 => ?_)
  · have r6 := rgI x31.1
    have fh5 := eqT h5
    refine sIf (fun h7 => ?_) (fun h7 => ?_)
    · have r8 := rgI p1
      have fh7 := eqT h7
      have r9 := rgI x31.2
      exact sRet ⟨(by show 0 ≤ x31.2.toInt; omega), (by show x31.2.toInt ≤ 2; omega), trivial⟩
    · have r10 := rgI p1
      have fh7 := eqF h7
      have r11 := rgI p0
      refine sIfF (noob (by omega) (by omega)) ?_
      refine sIfF (noob (by omega) (by omega)) ?_
      refine sIf (fun h12 => ?_) (fun h12 => ?_)
      · have r13 := rgI (f p1.toNatClampNeg)
        have fh12 := eqT h12
        have r14 := rgI x31.2
        exact sRet ⟨(by show 0 ≤ x31.2.toInt; omega), (by show x31.2.toInt ≤ 2; omega), trivial⟩
      · have r15 := rgI (f p1.toNatClampNeg)
        have fh12 := eqF h12
        refine sIfF (noob (by omega) (by omega)) ?_
        refine sIfF (noob (by omega) (by omega)) ?_
        have r16 := rgI x31.2
        exact sRet ⟨(by show 0 ≤ x31.2.toInt; omega), (by show x31.2.toInt ≤ 2; omega), trivial⟩
  · have r17 := rgI x31.1
    have fh5 := eqF h5
    have r18 := rgI x31.2
    exact sRet ⟨(by show 0 ≤ x31.2.toInt; omega), (by show x31.2.toInt ≤ 2; omega), trivial⟩
set_option maxHeartbeats 2000000 in
theorem s_X7_ruleWorth_26 {N K : Nat} {th : Int32} {f : Nat → Int32} {p0 : Int32} {p1 : Int32} {p2 : Int32} (hN : NBig N) (hK : 100 ≤ K)  : ∀ (s0 : Int32) (th_ : Int32), 0 ≤ s0.toInt → s0.toInt ≤ 1 → (s0.toInt = 0 → 0 ≤ p0.toInt ∧ p0.toInt ≤ 2) → Sf (fX7_ruleWorth_26 N K th f p0 p1 p2  s0 th_) (fun (z : Int32 × Int32) => 0 ≤ z.2.toInt ∧ z.2.toInt ≤ 2 ∧ True) := by
  intro s0 th_ hq0 hq1 hq2
  unfold fX7_ruleWorth_26
  have ql0 : (0 : Int32).toInt = 0 := by decide
  have ql1 : (1 : Int32).toInt = 1 := by decide
  have r1 := rgI s0
  have r2 := rgI th_
  exact s_X7_ruleWorth_31  hN hK _ _ _ (by first | omega | decide) (by first | omega | decide) (by first | omega | decide) (by first | omega | decide) (by first | omega | decide) (by first | omega | decide)
set_option maxHeartbeats 2000000 in
theorem s_X7_ruleWorth {N K : Nat} {th : Int32} {f : Nat → Int32} {p0 : Int32} {p1 : Int32} {p2 : Int32} (hN : NBig N) (hK : 100 ≤ K)  : Sf (fX7_ruleWorth N K th f p0 p1 p2) (fun (z : Int32 × Int32) => 0 ≤ z.2.toInt ∧ z.2.toInt ≤ 2 ∧ True) := by
  unfold fX7_ruleWorth
  have ql0 : (0 : Int32).toInt = 0 := by decide
  have ql1 : (1 : Int32).toInt = 1 := by decide
  have ql2 : (2 : Int32).toInt = 2 := by decide
  have ql20 : (20 : Int32).toInt = 20 := by decide
  have r1 := rgI p0
  refine sBind (s_X7_isNo hN hK (by first | omega | decide) (by first | omega | decide) (by first | omega | decide) (by first | omega | decide)) (fun x4 b2 => ?_)
  obtain ⟨b2_0, b2_1, b2_2, -⟩ := b2
  replace b2_0 : 0 ≤ x4.toInt := b2_0
  replace b2_1 : x4.toInt ≤ 1 := b2_1
  replace b2_2 : (x4.toInt = 0 → ((0 : Int32).toInt ≤ p0.toInt ∧ p0.toInt ≤ (2 : Int32).toInt)) := b2_2
  have r3 := rgI p1
  refine sBind (s_X7_isNo hN hK (by first | omega | decide) (by first | omega | decide) (by first | omega | decide) (by first | omega | decide)) (fun x11 b4 => ?_)
  obtain ⟨b4_0, b4_1, b4_2, -⟩ := b4
  replace b4_0 : 0 ≤ x11.toInt := b4_0
  replace b4_1 : x11.toInt ≤ 1 := b4_1
  replace b4_2 : (x11.toInt = 0 → ((0 : Int32).toInt ≤ p1.toInt ∧ p1.toInt ≤ (20 : Int32).toInt)) := b4_2
  refine sIf (fun h5 => ?_) (fun h5 => ?_)
  · have r6 := rgI x11
    have fh5 := eqT h5
    have r7 := rgI p2
    refine sBind (s_X7_isNo hN hK (by first | omega | decide) (by first | omega | decide) (by first | omega | decide) (by first | omega | decide)) (fun x20 b8 => ?_)
    obtain ⟨b8_0, b8_1, b8_2, -⟩ := b8
    replace b8_0 : 0 ≤ x20.toInt := b8_0
    replace b8_1 : x20.toInt ≤ 1 := b8_1
    replace b8_2 : (x20.toInt = 0 → ((0 : Int32).toInt ≤ p2.toInt ∧ p2.toInt ≤ (1 : Int32).toInt)) := b8_2
    refine sIf (fun h9 => ?_) (fun h9 => ?_)
    · have r10 := rgI x20
      have fh9 := eqT h9
      have r11 := rgI x4
      have r12 := rgI th
      exact s_X7_ruleWorth_31  hN hK _ _ _ (by first | omega | decide) (by first | omega | decide) (by first | omega | decide) (by first | omega | decide) (by first | omega | decide) (by first | omega | decide)
    · have r13 := rgI x20
      have fh9 := eqF h9
      have r14 := rgI x4
      have r15 := rgI th
      exact s_X7_ruleWorth_26  hN hK _ _ (by first | omega | decide) (by first | omega | decide) (by first | omega | decide)
  · have r16 := rgI x11
    have fh5 := eqF h5
    have r17 := rgI x4
    have r18 := rgI th
    exact s_X7_ruleWorth_26  hN hK _ _ (by first | omega | decide) (by first | omega | decide) (by first | omega | decide)
set_option maxHeartbeats 2000000 in
theorem s_X7_addPart_32 {N K : Nat} {th : Int32} {f : Nat → Int32} {t : Nat → Int32} {p0 : Int32} {p1 : Int32} {p2 : Int32} (hN : NBig N) (hK : 100 ≤ K)  : ∀ (s0 : Int32) (s1 : Int32) (th_ : Int32) (f_ : Nat → Int32) (t_ : Nat → Int32), 0 ≤ s0.toInt → s0.toInt ≤ 1 → 0 ≤ s1.toInt → s1.toInt ≤ 1 → (s0.toInt = 0 → 1 ≤ p1.toInt ∧ p1.toInt ≤ 20 ∧ 1 ≤ p2.toInt ∧ p2.toInt ≤ 20) → (s1.toInt = 0 → 0 ≤ p0.toInt ∧ p0.toInt ≤ 1) → Sf (fX7_addPart_32 N K th f t p0 p1 p2  s0 s1 th_ f_ t_) (fun (z : Int32 × Int32 × (Nat → Int32) × (Nat → Int32)) => 0 ≤ z.2.1.toInt ∧ z.2.1.toInt ≤ 2 ∧ True) := by
  intro s0 s1 th_ f_ t_ hq0 hq1 hq2 hq3 hq4 hq5
  unfold fX7_addPart_32
  have ql0 : (0 : Int32).toInt = 0 := by decide
  have ql20 : (20 : Int32).toInt = 20 := by decide
  have r1 := rgI th_
  have r2 := rgI s1
  have r3 := rgI s0
  refine sBind (s_X7_isThrown hN hK (by first | omega | decide) (by first | omega | decide) (by first | omega | decide) (by first | omega | decide)) (fun x32 b4 => ?_)
  obtain ⟨b4_0, b4_1, b4_2, b4_3, b4_4, b4_5, -⟩ := b4
  replace b4_0 : 0 ≤ x32.1.toInt := b4_0
  replace b4_1 : x32.1.toInt ≤ 1 := b4_1
  replace b4_2 : 0 ≤ x32.2.toInt := b4_2
  replace b4_3 : x32.2.toInt ≤ 2 := b4_3
  replace b4_4 : (x32.1.toInt = 0 → (0 ≤ s1.toInt ∧ s1.toInt ≤ 0)) := b4_4
  replace b4_5 : (x32.1.toInt = 0 → (0 ≤ s0.toInt ∧ s0.toInt ≤ 0)) := b4_5
  refine sIf (fun h5 => ?_) (fun h5 => ?_)
  · have r6 := rgI x32.1
    have fh5 := eqT h5
    have r7 := rgI p0
    refine sIfF (noob (by omega) (by omega)) ?_
    refine sBind (s_X7_number hN hK) (fun x46 b8 => ?_)
    refine sIf (fun h9 => ?_) (fun h9 => ?_)
    · have r10 := rgI (x46 + (p1 * p2))
      have fh9 := leT h9
      refine sIfF (noob (by omega) (by omega)) ?_
      have r11 := rgI p1
      refine sIfF (noob (by omega) (by omega)) ?_
      refine sIfF (noob (by omega) (by omega)) ?_
      refine sIfF (noob (by omega) (by omega)) ?_
      refine sIfF (noob (by omega) (by omega)) ?_
      have r12 := rgI x32.2
      have r13 := rgI ((upd f_ p1.toNatClampNeg ((f_ p1.toNatClampNeg) + p2)) p1.toNatClampNeg)
      refine sBind (s_X7_done hN hK (by first | omega | decide) (by first | omega | decide)) (fun x84 b14 => ?_)
      have r15 := rgI x84.1
      exact sRet ⟨(by show 0 ≤ x32.2.toInt; omega), (by show x32.2.toInt ≤ 2; omega), trivial⟩
    · have r16 := rgI (x46 + (p1 * p2))
      have fh9 := leF h9
      have r17 := rgI x32.2
      refine sBind (s_X7_refused hN hK (by first | omega | decide) (by first | omega | decide)) (fun x59 b18 => ?_)
      obtain ⟨b18_0, b18_1, -⟩ := b18
      replace b18_0 : -9 ≤ x59.1.toInt := b18_0
      replace b18_1 : x59.1.toInt ≤ -9 := b18_1
      have r19 := rgI x59.1
      exact sRet ⟨(by show 0 ≤ x32.2.toInt; omega), (by show x32.2.toInt ≤ 2; omega), trivial⟩
  · have r20 := rgI x32.1
    have fh5 := eqF h5
    have r21 := rgI x32.2
    exact sRet ⟨(by show 0 ≤ x32.2.toInt; omega), (by show x32.2.toInt ≤ 2; omega), trivial⟩
set_option maxHeartbeats 2000000 in
theorem s_X7_addPart_27 {N K : Nat} {th : Int32} {f : Nat → Int32} {t : Nat → Int32} {p0 : Int32} {p1 : Int32} {p2 : Int32} (hN : NBig N) (hK : 100 ≤ K)  : ∀ (s0 : Int32) (th_ : Int32) (f_ : Nat → Int32) (t_ : Nat → Int32), 0 ≤ s0.toInt → s0.toInt ≤ 1 → (s0.toInt = 0 → 0 ≤ p0.toInt ∧ p0.toInt ≤ 1) → Sf (fX7_addPart_27 N K th f t p0 p1 p2  s0 th_ f_ t_) (fun (z : Int32 × Int32 × (Nat → Int32) × (Nat → Int32)) => 0 ≤ z.2.1.toInt ∧ z.2.1.toInt ≤ 2 ∧ True) := by
  intro s0 th_ f_ t_ hq0 hq1 hq2
  unfold fX7_addPart_27
  have ql0 : (0 : Int32).toInt = 0 := by decide
  have ql1 : (1 : Int32).toInt = 1 := by decide
  have r1 := rgI s0
  have r2 := rgI th_
  exact s_X7_addPart_32  hN hK _ _ _ _ _ (by first | omega | decide) (by first | omega | decide) (by first | omega | decide) (by first | omega | decide) (by first | omega | decide) (by first | omega | decide)
set_option maxHeartbeats 2000000 in
theorem s_X7_addPart {N K : Nat} {th : Int32} {f : Nat → Int32} {t : Nat → Int32} {p0 : Int32} {p1 : Int32} {p2 : Int32} (hN : NBig N) (hK : 100 ≤ K)  : Sf (fX7_addPart N K th f t p0 p1 p2) (fun (z : Int32 × Int32 × (Nat → Int32) × (Nat → Int32)) => 0 ≤ z.2.1.toInt ∧ z.2.1.toInt ≤ 2 ∧ True) := by
  unfold fX7_addPart
  have ql0 : (0 : Int32).toInt = 0 := by decide
  have ql1 : (1 : Int32).toInt = 1 := by decide
  have ql20 : (20 : Int32).toInt = 20 := by decide
  have r1 := rgI p0
  refine sBind (s_X7_isNo hN hK (by first | omega | decide) (by first | omega | decide) (by first | omega | decide) (by first | omega | decide)) (fun x4 b2 => ?_)
  obtain ⟨b2_0, b2_1, b2_2, -⟩ := b2
  replace b2_0 : 0 ≤ x4.toInt := b2_0
  replace b2_1 : x4.toInt ≤ 1 := b2_1
  replace b2_2 : (x4.toInt = 0 → ((0 : Int32).toInt ≤ p0.toInt ∧ p0.toInt ≤ (1 : Int32).toInt)) := b2_2
  have r3 := rgI p1
  refine sBind (s_X7_isNo hN hK (by first | omega | decide) (by first | omega | decide) (by first | omega | decide) (by first | omega | decide)) (fun x11 b4 => ?_)
  obtain ⟨b4_0, b4_1, b4_2, -⟩ := b4
  replace b4_0 : 0 ≤ x11.toInt := b4_0
  replace b4_1 : x11.toInt ≤ 1 := b4_1
  replace b4_2 : (x11.toInt = 0 → ((1 : Int32).toInt ≤ p1.toInt ∧ p1.toInt ≤ (20 : Int32).toInt)) := b4_2
  refine sIf (fun h5 => ?_) (fun h5 => ?_)
  · have r6 := rgI x11
    have fh5 := eqT h5
    have r7 := rgI p2
    refine sBind (s_X7_isNo hN hK (by first | omega | decide) (by first | omega | decide) (by first | omega | decide) (by first | omega | decide)) (fun x21 b8 => ?_)
    obtain ⟨b8_0, b8_1, b8_2, -⟩ := b8
    replace b8_0 : 0 ≤ x21.toInt := b8_0
    replace b8_1 : x21.toInt ≤ 1 := b8_1
    replace b8_2 : (x21.toInt = 0 → ((1 : Int32).toInt ≤ p2.toInt ∧ p2.toInt ≤ (20 : Int32).toInt)) := b8_2
    refine sIf (fun h9 => ?_) (fun h9 => ?_)
    · have r10 := rgI x21
      have fh9 := eqT h9
      have r11 := rgI x4
      have r12 := rgI th
      exact s_X7_addPart_32  hN hK _ _ _ _ _ (by first | omega | decide) (by first | omega | decide) (by first | omega | decide) (by first | omega | decide) (by first | omega | decide) (by first | omega | decide)
    · have r13 := rgI x21
      have fh9 := eqF h9
      have r14 := rgI x4
      have r15 := rgI th
      exact s_X7_addPart_27  hN hK _ _ _ _ (by first | omega | decide) (by first | omega | decide) (by first | omega | decide)
  · have r16 := rgI x11
    have fh5 := eqF h5
    have r17 := rgI x4
    have r18 := rgI th
    exact s_X7_addPart_27  hN hK _ _ _ _ (by first | omega | decide) (by first | omega | decide) (by first | omega | decide)
set_option maxHeartbeats 2000000 in
theorem s_X7_takePart {N K : Nat} {th : Int32} {f : Nat → Int32} {t : Nat → Int32} {p0 : Int32} {p1 : Int32} (hN : NBig N) (hK : 100 ≤ K)  : Sf (fX7_takePart N K th f t p0 p1) (fun (z : Int32 × Int32 × (Nat → Int32) × (Nat → Int32)) => 0 ≤ z.2.1.toInt ∧ z.2.1.toInt ≤ 2 ∧ True) := by
  unfold fX7_takePart
  have ql0 : (0 : Int32).toInt = 0 := by decide
  have ql1 : (1 : Int32).toInt = 1 := by decide
  have ql20 : (20 : Int32).toInt = 20 := by decide
  have r1 := rgI p0
  refine sBind (s_X7_isNo hN hK (by first | omega | decide) (by first | omega | decide) (by first | omega | decide) (by first | omega | decide)) (fun x4 b2 => ?_)
  obtain ⟨b2_0, b2_1, b2_2, -⟩ := b2
  replace b2_0 : 0 ≤ x4.toInt := b2_0
  replace b2_1 : x4.toInt ≤ 1 := b2_1
  replace b2_2 : (x4.toInt = 0 → ((0 : Int32).toInt ≤ p0.toInt ∧ p0.toInt ≤ (1 : Int32).toInt)) := b2_2
  have r3 := rgI p1
  refine sBind (s_X7_isNo hN hK (by first | omega | decide) (by first | omega | decide) (by first | omega | decide) (by first | omega | decide)) (fun x11 b4 => ?_)
  obtain ⟨b4_0, b4_1, b4_2, -⟩ := b4
  replace b4_0 : 0 ≤ x11.toInt := b4_0
  replace b4_1 : x11.toInt ≤ 1 := b4_1
  replace b4_2 : (x11.toInt = 0 → ((1 : Int32).toInt ≤ p1.toInt ∧ p1.toInt ≤ (20 : Int32).toInt)) := b4_2
  have r5 := rgI th
  have r6 := rgI x4
  have r7 := rgI x11
  refine sBind (s_X7_isThrown hN hK (by first | omega | decide) (by first | omega | decide) (by first | omega | decide) (by first | omega | decide)) (fun x14 b8 => ?_)
  obtain ⟨b8_0, b8_1, b8_2, b8_3, b8_4, b8_5, -⟩ := b8
  replace b8_0 : 0 ≤ x14.1.toInt := b8_0
  replace b8_1 : x14.1.toInt ≤ 1 := b8_1
  replace b8_2 : 0 ≤ x14.2.toInt := b8_2
  replace b8_3 : x14.2.toInt ≤ 2 := b8_3
  replace b8_4 : (x14.1.toInt = 0 → (0 ≤ x4.toInt ∧ x4.toInt ≤ 0)) := b8_4
  replace b8_5 : (x14.1.toInt = 0 → (0 ≤ x11.toInt ∧ x11.toInt ≤ 0)) := b8_5
  refine sIf (fun h9 => ?_) (fun h9 => ?_)
  · have r10 := rgI x14.1
    have fh9 := eqT h9
    refine sIfF (noob (by omega) (by omega)) ?_
    refine sIfF (noob (by omega) (by omega)) ?_
    refine sIf (fun h11 => ?_) (fun h11 => ?_)
    · have r12 := rgI (f p1.toNatClampNeg)
      have fh11 := eqT h11
      have r13 := rgI x14.2
      refine sBind (s_X7_refused hN hK (by first | omega | decide) (by first | omega | decide)) (fun x34 b14 => ?_)
      obtain ⟨b14_0, b14_1, -⟩ := b14
      replace b14_0 : -9 ≤ x34.1.toInt := b14_0
      replace b14_1 : x34.1.toInt ≤ -9 := b14_1
      have r15 := rgI x34.1
      exact sRet ⟨(by show 0 ≤ x14.2.toInt; omega), (by show x14.2.toInt ≤ 2; omega), trivial⟩
    · have r16 := rgI (f p1.toNatClampNeg)
      have fh11 := eqF h11
      refine sIfF (noob (by omega) (by omega)) ?_
      refine sIfF (noob (by omega) (by omega)) ?_
      refine sIfF (noob (by omega) (by omega)) ?_
      refine sIfF (noob (by omega) (by omega)) ?_
      refine sIfF (noob (by omega) (by omega)) ?_
      have r17 := rgI x14.2
      have r18 := rgI ((upd f p1.toNatClampNeg ((f p1.toNatClampNeg) - (1 : Int32))) p1.toNatClampNeg)
      refine sBind (s_X7_done hN hK (by first | omega | decide) (by first | omega | decide)) (fun x59 b19 => ?_)
      have r20 := rgI x59.1
      exact sRet ⟨(by show 0 ≤ x14.2.toInt; omega), (by show x14.2.toInt ≤ 2; omega), trivial⟩
  · have r21 := rgI x14.1
    have fh9 := eqF h9
    have r22 := rgI x14.2
    exact sRet ⟨(by show 0 ≤ x14.2.toInt; omega), (by show x14.2.toInt ≤ 2; omega), trivial⟩
set_option maxHeartbeats 2000000 in
theorem s_X7_laid_2 {N K : Nat} {th : Int32} {f : Nat → Int32} {g : Nat → Int32} {t : Nat → Int32} {p0 : Int32} (hN : NBig N) (hK : 100 ≤ K) (hp0 : 0 ≤ th.toInt) (hp1 : th.toInt ≤ 2) (hp2 : 0 ≤ p0.toInt) (hp3 : p0.toInt ≤ 1) : ∀ (fu : Nat) (l3 : Int32) (f_ : (Nat → Int32)) (t_ : (Nat → Int32)), (21 - l3.toInt).toNat < fu → 0 ≤ l3.toInt → l3.toInt ≤ 21 → Sf (fX7_laid_2 N K th f g t p0  fu l3 f_ t_) (fun (z : Int32 × (Nat → Int32) × (Nat → Int32)) => True) := by
  intro fu
  induction fu with
  | zero => intro l3 f_ t_ h0 hq0 hq1; omega
  | succ fu ih =>
    intro l3 f_ t_ h0 hq0 hq1
    unfold fX7_laid_2
    have ql0 : (0 : Int32).toInt = 0 := by decide
    have ql1 : (1 : Int32).toInt = 1 := by decide
    have ql20 : (20 : Int32).toInt = 20 := by decide
    refine sIf (fun h1 => ?_) (fun h1 => ?_)
    · have r2 := rgI l3
      have fh1 := ltT h1
      refine sBind (s_X7_parts hN hK) (fun x27 b3 => ?_)
      have r4 := rgI th
      have r5 := rgI x27
      refine sBind (s_X7_done hN hK (by first | omega | decide) (by first | omega | decide)) (fun x30 b6 => ?_)
      have r7 := rgI x30.1
      exact sRet trivial
    · have r8 := rgI l3
      have fh1 := ltF h1
      have r9 := rgI p0
      refine sIfF (noob (by omega) (by omega)) ?_
      refine sIfF (noob (by omega) (by omega)) ?_
      refine sIfF (noob (by omega) (by omega)) ?_
      have t10 := addI (a := l3) (b := (1 : Int32)) (by omega) (by omega)
      exact ih _ _ _ (by omega) (by first | omega | decide) (by first | omega | decide)
set_option maxHeartbeats 2000000 in
theorem s_X7_laid {N K : Nat} {th : Int32} {f : Nat → Int32} {g : Nat → Int32} {t : Nat → Int32} {p0 : Int32} (hN : NBig N) (hK : 100 ≤ K) (hp0 : 0 ≤ th.toInt) (hp1 : th.toInt ≤ 2) (hp2 : 0 ≤ p0.toInt) (hp3 : p0.toInt ≤ 1) : Sf (fX7_laid N K th f g t p0) (fun (z : Int32 × (Nat → Int32) × (Nat → Int32)) => True) := by
  unfold fX7_laid
  have hN9 := hN.u
  have ql0 : (0 : Int32).toInt = 0 := by decide
  exact s_X7_laid_2  hN hK (by omega) (by omega) (by omega) (by omega) _ _ _ _ (by omega) (by first | omega | decide) (by first | omega | decide)
set_option maxHeartbeats 2000000 in
theorem s_X7_layFirst {N K : Nat} {th : Int32} {f : Nat → Int32} {t : Nat → Int32} {p0 : Int32} {p1 : Int32} (hN : NBig N) (hK : 100 ≤ K)  : Sf (fX7_layFirst N K th f t p0 p1) (fun (z : Int32 × Int32 × (Nat → Int32) × (Nat → Int32)) => 0 ≤ z.2.1.toInt ∧ z.2.1.toInt ≤ 2 ∧ True) := by
  unfold fX7_layFirst
  have ql0 : (0 : Int32).toInt = 0 := by decide
  have ql1 : (1 : Int32).toInt = 1 := by decide
  have ql20 : (20 : Int32).toInt = 20 := by decide
  have r1 := rgI p0
  refine sBind (s_X7_isNo hN hK (by first | omega | decide) (by first | omega | decide) (by first | omega | decide) (by first | omega | decide)) (fun x4 b2 => ?_)
  obtain ⟨b2_0, b2_1, b2_2, -⟩ := b2
  replace b2_0 : 0 ≤ x4.toInt := b2_0
  replace b2_1 : x4.toInt ≤ 1 := b2_1
  replace b2_2 : (x4.toInt = 0 → ((0 : Int32).toInt ≤ p0.toInt ∧ p0.toInt ≤ (1 : Int32).toInt)) := b2_2
  have r3 := rgI p1
  refine sBind (s_X7_isNo hN hK (by first | omega | decide) (by first | omega | decide) (by first | omega | decide) (by first | omega | decide)) (fun x11 b4 => ?_)
  obtain ⟨b4_0, b4_1, b4_2, -⟩ := b4
  replace b4_0 : 0 ≤ x11.toInt := b4_0
  replace b4_1 : x11.toInt ≤ 1 := b4_1
  replace b4_2 : (x11.toInt = 0 → ((0 : Int32).toInt ≤ p1.toInt ∧ p1.toInt ≤ (20 : Int32).toInt)) := b4_2
  have r5 := rgI th
  have r6 := rgI x4
  have r7 := rgI x11
  refine sBind (s_X7_isThrown hN hK (by first | omega | decide) (by first | omega | decide) (by first | omega | decide) (by first | omega | decide)) (fun x14 b8 => ?_)
  obtain ⟨b8_0, b8_1, b8_2, b8_3, b8_4, b8_5, -⟩ := b8
  replace b8_0 : 0 ≤ x14.1.toInt := b8_0
  replace b8_1 : x14.1.toInt ≤ 1 := b8_1
  replace b8_2 : 0 ≤ x14.2.toInt := b8_2
  replace b8_3 : x14.2.toInt ≤ 2 := b8_3
  replace b8_4 : (x14.1.toInt = 0 → (0 ≤ x4.toInt ∧ x4.toInt ≤ 0)) := b8_4
  replace b8_5 : (x14.1.toInt = 0 → (0 ≤ x11.toInt ∧ x11.toInt ≤ 0)) := b8_5
  refine sIf (fun h9 => ?_) (fun h9 => ?_)
  · have r10 := rgI x14.1
    have fh9 := eqT h9
    refine sBind (s_X7_firstWay hN hK (by first | omega | decide) (by first | omega | decide)) (fun x27 b11 => ?_)
    have r12 := rgI x14.2
    refine sBind (s_X7_laid hN hK (by first | omega | decide) (by first | omega | decide) (by first | omega | decide) (by first | omega | decide)) (fun x30 b13 => ?_)
    have r14 := rgI x30.1
    exact sRet ⟨(by show 0 ≤ x14.2.toInt; omega), (by show x14.2.toInt ≤ 2; omega), trivial⟩
  · have r15 := rgI x14.1
    have fh9 := eqF h9
    have r16 := rgI x14.2
    exact sRet ⟨(by show 0 ≤ x14.2.toInt; omega), (by show x14.2.toInt ≤ 2; omega), trivial⟩
set_option maxHeartbeats 2000000 in
theorem s_X7_next {N K : Nat} {th : Int32} {f : Nat → Int32} {t : Nat → Int32} {p0 : Int32} (hN : NBig N) (hK : 100 ≤ K)  : Sf (fX7_next N K th f t p0) (fun (z : Int32 × Int32 × (Nat → Int32) × (Nat → Int32)) => 0 ≤ z.2.1.toInt ∧ z.2.1.toInt ≤ 2 ∧ True) := by
  unfold fX7_next
  have ql0 : (0 : Int32).toInt = 0 := by decide
  have ql1 : (1 : Int32).toInt = 1 := by decide
  have r1 := rgI p0
  refine sBind (s_X7_isNo hN hK (by first | omega | decide) (by first | omega | decide) (by first | omega | decide) (by first | omega | decide)) (fun x4 b2 => ?_)
  obtain ⟨b2_0, b2_1, b2_2, -⟩ := b2
  replace b2_0 : 0 ≤ x4.toInt := b2_0
  replace b2_1 : x4.toInt ≤ 1 := b2_1
  replace b2_2 : (x4.toInt = 0 → ((0 : Int32).toInt ≤ p0.toInt ∧ p0.toInt ≤ (1 : Int32).toInt)) := b2_2
  have r3 := rgI th
  have r4 := rgI x4
  refine sBind (s_X7_isThrown hN hK (by first | omega | decide) (by first | omega | decide) (by first | omega | decide) (by first | omega | decide)) (fun x8 b5 => ?_)
  obtain ⟨b5_0, b5_1, b5_2, b5_3, b5_4, b5_5, -⟩ := b5
  replace b5_0 : 0 ≤ x8.1.toInt := b5_0
  replace b5_1 : x8.1.toInt ≤ 1 := b5_1
  replace b5_2 : 0 ≤ x8.2.toInt := b5_2
  replace b5_3 : x8.2.toInt ≤ 2 := b5_3
  replace b5_4 : (x8.1.toInt = 0 → (0 ≤ x4.toInt ∧ x4.toInt ≤ 0)) := b5_4
  replace b5_5 : (x8.1.toInt = 0 → (0 ≤ (0 : Int32).toInt ∧ (0 : Int32).toInt ≤ 0)) := b5_5
  refine sIf (fun h6 => ?_) (fun h6 => ?_)
  · have r7 := rgI x8.1
    have fh6 := eqT h6
    refine sIfF (noob (by omega) (by omega)) ?_
    refine sBind (s_X7_isNext hN hK) (fun x22 b8 => ?_)
    obtain ⟨b8_0, b8_1, -⟩ := b8
    replace b8_0 : 0 ≤ x22.1.toInt := b8_0
    replace b8_1 : x22.1.toInt ≤ 1 := b8_1
    refine sIf (fun h9 => ?_) (fun h9 => ?_)
    · have r10 := rgI x22.1
      have fh9 := eqT h9
      have r11 := rgI x8.2
      refine sBind (s_X7_refused hN hK (by first | omega | decide) (by first | omega | decide)) (fun x45 b12 => ?_)
      obtain ⟨b12_0, b12_1, -⟩ := b12
      replace b12_0 : -9 ≤ x45.1.toInt := b12_0
      replace b12_1 : x45.1.toInt ≤ -9 := b12_1
      have r13 := rgI x45.1
      exact sRet ⟨(by show 0 ≤ x8.2.toInt; omega), (by show x8.2.toInt ≤ 2; omega), trivial⟩
    · have r14 := rgI x22.1
      have fh9 := eqF h9
      refine sIfF (noob (by omega) (by omega)) ?_
      refine sBind (s_X7_parts hN hK) (fun x35 b15 => ?_)
      have r16 := rgI x8.2
      have r17 := rgI x35
      refine sBind (s_X7_done hN hK (by first | omega | decide) (by first | omega | decide)) (fun x38 b18 => ?_)
      have r19 := rgI x38.1
      exact sRet ⟨(by show 0 ≤ x8.2.toInt; omega), (by show x8.2.toInt ≤ 2; omega), trivial⟩
  · have r20 := rgI x8.1
    have fh6 := eqF h6
    have r21 := rgI x8.2
    exact sRet ⟨(by show 0 ≤ x8.2.toInt; omega), (by show x8.2.toInt ≤ 2; omega), trivial⟩
set_option maxHeartbeats 2000000 in
theorem s_X7_copyDesk {N K : Nat} {th : Int32} {f : Nat → Int32} {f2 : Nat → Int32} {t : Nat → Int32} {p0 : Int32} (hN : NBig N) (hK : 100 ≤ K)  : Sf (fX7_copyDesk N K th f f2 t p0) (fun (z : Int32 × Int32 × (Nat → Int32) × (Nat → Int32)) => 0 ≤ z.2.1.toInt ∧ z.2.1.toInt ≤ 2 ∧ True) := by
  unfold fX7_copyDesk
  have ql0 : (0 : Int32).toInt = 0 := by decide
  have ql1 : (1 : Int32).toInt = 1 := by decide
  have r1 := rgI p0
  refine sBind (s_X7_isNo hN hK (by first | omega | decide) (by first | omega | decide) (by first | omega | decide) (by first | omega | decide)) (fun x4 b2 => ?_)
  obtain ⟨b2_0, b2_1, b2_2, -⟩ := b2
  replace b2_0 : 0 ≤ x4.toInt := b2_0
  replace b2_1 : x4.toInt ≤ 1 := b2_1
  replace b2_2 : (x4.toInt = 0 → ((0 : Int32).toInt ≤ p0.toInt ∧ p0.toInt ≤ (1 : Int32).toInt)) := b2_2
  have r3 := rgI th
  have r4 := rgI x4
  refine sBind (s_X7_isThrown hN hK (by first | omega | decide) (by first | omega | decide) (by first | omega | decide) (by first | omega | decide)) (fun x8 b5 => ?_)
  obtain ⟨b5_0, b5_1, b5_2, b5_3, b5_4, b5_5, -⟩ := b5
  replace b5_0 : 0 ≤ x8.1.toInt := b5_0
  replace b5_1 : x8.1.toInt ≤ 1 := b5_1
  replace b5_2 : 0 ≤ x8.2.toInt := b5_2
  replace b5_3 : x8.2.toInt ≤ 2 := b5_3
  replace b5_4 : (x8.1.toInt = 0 → (0 ≤ x4.toInt ∧ x4.toInt ≤ 0)) := b5_4
  replace b5_5 : (x8.1.toInt = 0 → (0 ≤ (0 : Int32).toInt ∧ (0 : Int32).toInt ≤ 0)) := b5_5
  refine sIf (fun h6 => ?_) (fun h6 => ?_)
  · have r7 := rgI x8.1
    have fh6 := eqT h6
    refine sIfF (noob (by omega) (by omega)) ?_
    have r8 := rgI x8.2
    have t9 := subI (a := (1 : Int32)) (b := p0) (by omega) (by omega)
    refine sBind (s_X7_laid hN hK (by first | omega | decide) (by first | omega | decide) (by first | omega | decide) (by first | omega | decide)) (fun x26 b10 => ?_)
    refine sIfF (noob (by omega) (by omega)) ?_
    refine sBind (s_X7_unlikeOnes hN hK) (fun x36 b11 => ?_)
    have r12 := rgI x36
    exact sRet ⟨(by show 0 ≤ x8.2.toInt; omega), (by show x8.2.toInt ≤ 2; omega), trivial⟩
  · have r13 := rgI x8.1
    have fh6 := eqF h6
    have r14 := rgI x8.2
    exact sRet ⟨(by show 0 ≤ x8.2.toInt; omega), (by show x8.2.toInt ≤ 2; omega), trivial⟩
set_option maxHeartbeats 2000000 in
theorem s_X7_times {N K : Nat} {th : Int32} {f : Nat → Int32} {p0 : Int32} {p1 : Int32} (hN : NBig N) (hK : 100 ≤ K)  : Sf (fX7_times N K th f p0 p1) (fun (z : Int32 × Int32) => 0 ≤ z.2.toInt ∧ z.2.toInt ≤ 2 ∧ True) := by
  unfold fX7_times
  have ql0 : (0 : Int32).toInt = 0 := by decide
  have ql1 : (1 : Int32).toInt = 1 := by decide
  have ql20 : (20 : Int32).toInt = 20 := by decide
  have r1 := rgI p0
  refine sBind (s_X7_isNo hN hK (by first | omega | decide) (by first | omega | decide) (by first | omega | decide) (by first | omega | decide)) (fun x4 b2 => ?_)
  obtain ⟨b2_0, b2_1, b2_2, -⟩ := b2
  replace b2_0 : 0 ≤ x4.toInt := b2_0
  replace b2_1 : x4.toInt ≤ 1 := b2_1
  replace b2_2 : (x4.toInt = 0 → ((0 : Int32).toInt ≤ p0.toInt ∧ p0.toInt ≤ (1 : Int32).toInt)) := b2_2
  have r3 := rgI p1
  refine sBind (s_X7_isNo hN hK (by first | omega | decide) (by first | omega | decide) (by first | omega | decide) (by first | omega | decide)) (fun x11 b4 => ?_)
  obtain ⟨b4_0, b4_1, b4_2, -⟩ := b4
  replace b4_0 : 0 ≤ x11.toInt := b4_0
  replace b4_1 : x11.toInt ≤ 1 := b4_1
  replace b4_2 : (x11.toInt = 0 → ((1 : Int32).toInt ≤ p1.toInt ∧ p1.toInt ≤ (20 : Int32).toInt)) := b4_2
  have r5 := rgI th
  have r6 := rgI x4
  have r7 := rgI x11
  refine sBind (s_X7_isThrown hN hK (by first | omega | decide) (by first | omega | decide) (by first | omega | decide) (by first | omega | decide)) (fun x14 b8 => ?_)
  obtain ⟨b8_0, b8_1, b8_2, b8_3, b8_4, b8_5, -⟩ := b8
  replace b8_0 : 0 ≤ x14.1.toInt := b8_0
  replace b8_1 : x14.1.toInt ≤ 1 := b8_1
  replace b8_2 : 0 ≤ x14.2.toInt := b8_2
  replace b8_3 : x14.2.toInt ≤ 2 := b8_3
  replace b8_4 : (x14.1.toInt = 0 → (0 ≤ x4.toInt ∧ x4.toInt ≤ 0)) := b8_4
  replace b8_5 : (x14.1.toInt = 0 → (0 ≤ x11.toInt ∧ x11.toInt ≤ 0)) := b8_5
  refine sIf (fun h9 => ?_) (fun h9 => ?_)
  · have r10 := rgI x14.1
    have fh9 := eqT h9
    refine sIfF (noob (by omega) (by omega)) ?_
    refine sIfF (noob (by omega) (by omega)) ?_
    have r11 := rgI (f p1.toNatClampNeg)
    have r12 := rgI x14.2
    exact sRet ⟨(by show 0 ≤ x14.2.toInt; omega), (by show x14.2.toInt ≤ 2; omega), trivial⟩
  · have r13 := rgI x14.1
    have fh9 := eqF h9
    have r14 := rgI x14.2
    exact sRet ⟨(by show 0 ≤ x14.2.toInt; omega), (by show x14.2.toInt ≤ 2; omega), trivial⟩
set_option maxHeartbeats 2000000 in
theorem s_X7_way {N K : Nat} {th : Int32} {f : Nat → Int32} {p0 : Int32} {p1 : Int32} (hN : NBig N) (hK : 100 ≤ K)  : Sf (fX7_way N K th f p0 p1) (fun (z : Int32 × Int32) => 0 ≤ z.2.toInt ∧ z.2.toInt ≤ 2 ∧ True) := by
  unfold fX7_way
  have ql0 : (0 : Int32).toInt = 0 := by decide
  have ql1 : (1 : Int32).toInt = 1 := by decide
  have ql2 : (2 : Int32).toInt = 2 := by decide
  have r1 := rgI p0
  refine sBind (s_X7_isNo hN hK (by first | omega | decide) (by first | omega | decide) (by first | omega | decide) (by first | omega | decide)) (fun x4 b2 => ?_)
  obtain ⟨b2_0, b2_1, b2_2, -⟩ := b2
  replace b2_0 : 0 ≤ x4.toInt := b2_0
  replace b2_1 : x4.toInt ≤ 1 := b2_1
  replace b2_2 : (x4.toInt = 0 → ((0 : Int32).toInt ≤ p0.toInt ∧ p0.toInt ≤ (1 : Int32).toInt)) := b2_2
  have r3 := rgI p1
  refine sBind (s_X7_isNo hN hK (by first | omega | decide) (by first | omega | decide) (by first | omega | decide) (by first | omega | decide)) (fun x10 b4 => ?_)
  obtain ⟨b4_0, b4_1, b4_2, -⟩ := b4
  replace b4_0 : 0 ≤ x10.toInt := b4_0
  replace b4_1 : x10.toInt ≤ 1 := b4_1
  replace b4_2 : (x10.toInt = 0 → ((0 : Int32).toInt ≤ p1.toInt ∧ p1.toInt ≤ (2 : Int32).toInt)) := b4_2
  have r5 := rgI th
  have r6 := rgI x4
  have r7 := rgI x10
  refine sBind (s_X7_isThrown hN hK (by first | omega | decide) (by first | omega | decide) (by first | omega | decide) (by first | omega | decide)) (fun x13 b8 => ?_)
  obtain ⟨b8_0, b8_1, b8_2, b8_3, b8_4, b8_5, -⟩ := b8
  replace b8_0 : 0 ≤ x13.1.toInt := b8_0
  replace b8_1 : x13.1.toInt ≤ 1 := b8_1
  replace b8_2 : 0 ≤ x13.2.toInt := b8_2
  replace b8_3 : x13.2.toInt ≤ 2 := b8_3
  replace b8_4 : (x13.1.toInt = 0 → (0 ≤ x4.toInt ∧ x4.toInt ≤ 0)) := b8_4
  replace b8_5 : (x13.1.toInt = 0 → (0 ≤ x10.toInt ∧ x10.toInt ≤ 0)) := b8_5
  refine sIf (fun h9 => ?_) (fun h9 => ?_)
  · have r10 := rgI x13.1
    have fh9 := eqT h9
    refine sIf (fun h11 => ?_) (fun h11 => ?_)
    · have fh11 := eqT h11
      refine sIfF (noob (by omega) (by omega)) ?_
      refine sBind (s_X7_number hN hK) (fun x31 b12 => ?_)
      have r13 := rgI x31
      have r14 := rgI x13.2
      exact sRet ⟨(by show 0 ≤ x13.2.toInt; omega), (by show x13.2.toInt ≤ 2; omega), trivial⟩
    · have fh11 := eqF h11
      refine sIf (fun h15 => ?_) (fun h15 => ?_)
      · have fh15 := eqT h15
        refine sIfF (noob (by omega) (by omega)) ?_
        refine sBind (s_X7_parts hN hK) (fun x48 b16 => ?_)
        have r17 := rgI x48
        have r18 := rgI x13.2
        exact sRet ⟨(by show 0 ≤ x13.2.toInt; omega), (by show x13.2.toInt ≤ 2; omega), trivial⟩
      · have fh15 := eqF h15
        refine sIfF (noob (by omega) (by omega)) ?_
        refine sBind (s_X7_unlikeOnes hN hK) (fun x60 b19 => ?_)
        have r20 := rgI x60
        have r21 := rgI x13.2
        exact sRet ⟨(by show 0 ≤ x13.2.toInt; omega), (by show x13.2.toInt ≤ 2; omega), trivial⟩
  · have r22 := rgI x13.1
    have fh9 := eqF h9
    have r23 := rgI x13.2
    exact sRet ⟨(by show 0 ≤ x13.2.toInt; omega), (by show x13.2.toInt ≤ 2; omega), trivial⟩
set_option maxHeartbeats 2000000 in
theorem s_X7_isOf_32 {N K : Nat} {th : Int32} {f : Nat → Int32} {p0 : Int32} {p1 : Int32} {p2 : Int32} (hN : NBig N) (hK : 100 ≤ K)  : ∀ (s0 : Int32) (s1 : Int32) (th_ : Int32), 0 ≤ s0.toInt → s0.toInt ≤ 1 → 0 ≤ s1.toInt → s1.toInt ≤ 1 → (s0.toInt = 0 → 0 ≤ p1.toInt ∧ p1.toInt ≤ 7 ∧ 0 ≤ p2.toInt ∧ p2.toInt ≤ 20) → (s1.toInt = 0 → 0 ≤ p0.toInt ∧ p0.toInt ≤ 1) → Sf (fX7_isOf_32 N K th f p0 p1 p2  s0 s1 th_) (fun (z : Int32 × Int32) => 0 ≤ z.1.toInt ∧ z.1.toInt ≤ 1 ∧ 0 ≤ z.2.toInt ∧ z.2.toInt ≤ 2 ∧ True) := by
  intro s0 s1 th_ hq0 hq1 hq2 hq3 hq4 hq5
  unfold fX7_isOf_32
  have ql0 : (0 : Int32).toInt = 0 := by decide
  have ql1 : (1 : Int32).toInt = 1 := by decide
  have r1 := rgI th_
  have r2 := rgI s1
  have r3 := rgI s0
  refine sBind (s_X7_isThrown hN hK (by first | omega | decide) (by first | omega | decide) (by first | omega | decide) (by first | omega | decide)) (fun x32 b4 => ?_)
  obtain ⟨b4_0, b4_1, b4_2, b4_3, b4_4, b4_5, -⟩ := b4
  replace b4_0 : 0 ≤ x32.1.toInt := b4_0
  replace b4_1 : x32.1.toInt ≤ 1 := b4_1
  replace b4_2 : 0 ≤ x32.2.toInt := b4_2
  replace b4_3 : x32.2.toInt ≤ 2 := b4_3
  replace b4_4 : (x32.1.toInt = 0 → (0 ≤ s1.toInt ∧ s1.toInt ≤ 0)) := b4_4
  replace b4_5 : (x32.1.toInt = 0 → (0 ≤ s0.toInt ∧ s0.toInt ≤ 0)) := b4_5
  refine sIf (fun h5 => ?_) (fun h5 => ?_)
  · have r6 := rgI x32.1
    have fh5 := eqT h5
    have r7 := rgI p0
    refine sIfF (noob (by omega) (by omega)) ?_
    have r8 := rgI p1
    have r9 := rgI p2
    refine sBind (s_X7_isOfKind hN hK (by first | omega | decide) (by first | omega | decide) (by first | omega | decide) (by first | omega | decide)) (fun x46 b10 => ?_)
    obtain ⟨b10_0, b10_1, -⟩ := b10
    replace b10_0 : 0 ≤ x46.toInt := b10_0
    replace b10_1 : x46.toInt ≤ 1 := b10_1
    refine sIf (fun h11 => ?_) (fun h11 => ?_)
    · have r12 := rgI x46
      have fh11 := eqT h11
      have r13 := rgI x32.2
      exact sRet ⟨(by show 0 ≤ (0 : Int32).toInt; decide), (by show (0 : Int32).toInt ≤ 1; decide), (by show 0 ≤ x32.2.toInt; omega), (by show x32.2.toInt ≤ 2; omega), trivial⟩
    · have r14 := rgI x46
      have fh11 := eqF h11
      have r15 := rgI x32.2
      exact sRet ⟨(by show 0 ≤ (1 : Int32).toInt; decide), (by show (1 : Int32).toInt ≤ 1; decide), (by show 0 ≤ x32.2.toInt; omega), (by show x32.2.toInt ≤ 2; omega), trivial⟩
  · have r16 := rgI x32.1
    have fh5 := eqF h5
    have r17 := rgI x32.2
    exact sRet ⟨(by show 0 ≤ (0 : Int32).toInt; decide), (by show (0 : Int32).toInt ≤ 1; decide), (by show 0 ≤ x32.2.toInt; omega), (by show x32.2.toInt ≤ 2; omega), trivial⟩
set_option maxHeartbeats 2000000 in
theorem s_X7_isOf_27 {N K : Nat} {th : Int32} {f : Nat → Int32} {p0 : Int32} {p1 : Int32} {p2 : Int32} (hN : NBig N) (hK : 100 ≤ K)  : ∀ (s0 : Int32) (th_ : Int32), 0 ≤ s0.toInt → s0.toInt ≤ 1 → (s0.toInt = 0 → 0 ≤ p0.toInt ∧ p0.toInt ≤ 1) → Sf (fX7_isOf_27 N K th f p0 p1 p2  s0 th_) (fun (z : Int32 × Int32) => 0 ≤ z.1.toInt ∧ z.1.toInt ≤ 1 ∧ 0 ≤ z.2.toInt ∧ z.2.toInt ≤ 2 ∧ True) := by
  intro s0 th_ hq0 hq1 hq2
  unfold fX7_isOf_27
  have ql0 : (0 : Int32).toInt = 0 := by decide
  have ql1 : (1 : Int32).toInt = 1 := by decide
  have r1 := rgI s0
  have r2 := rgI th_
  exact s_X7_isOf_32  hN hK _ _ _ (by first | omega | decide) (by first | omega | decide) (by first | omega | decide) (by first | omega | decide) (by first | omega | decide) (by first | omega | decide)
set_option maxHeartbeats 2000000 in
theorem s_X7_isOf {N K : Nat} {th : Int32} {f : Nat → Int32} {p0 : Int32} {p1 : Int32} {p2 : Int32} (hN : NBig N) (hK : 100 ≤ K)  : Sf (fX7_isOf N K th f p0 p1 p2) (fun (z : Int32 × Int32) => 0 ≤ z.1.toInt ∧ z.1.toInt ≤ 1 ∧ 0 ≤ z.2.toInt ∧ z.2.toInt ≤ 2 ∧ True) := by
  unfold fX7_isOf
  have ql0 : (0 : Int32).toInt = 0 := by decide
  have ql1 : (1 : Int32).toInt = 1 := by decide
  have ql7 : (7 : Int32).toInt = 7 := by decide
  have ql20 : (20 : Int32).toInt = 20 := by decide
  have r1 := rgI p0
  refine sBind (s_X7_isNo hN hK (by first | omega | decide) (by first | omega | decide) (by first | omega | decide) (by first | omega | decide)) (fun x4 b2 => ?_)
  obtain ⟨b2_0, b2_1, b2_2, -⟩ := b2
  replace b2_0 : 0 ≤ x4.toInt := b2_0
  replace b2_1 : x4.toInt ≤ 1 := b2_1
  replace b2_2 : (x4.toInt = 0 → ((0 : Int32).toInt ≤ p0.toInt ∧ p0.toInt ≤ (1 : Int32).toInt)) := b2_2
  have r3 := rgI p1
  refine sBind (s_X7_isNo hN hK (by first | omega | decide) (by first | omega | decide) (by first | omega | decide) (by first | omega | decide)) (fun x11 b4 => ?_)
  obtain ⟨b4_0, b4_1, b4_2, -⟩ := b4
  replace b4_0 : 0 ≤ x11.toInt := b4_0
  replace b4_1 : x11.toInt ≤ 1 := b4_1
  replace b4_2 : (x11.toInt = 0 → ((0 : Int32).toInt ≤ p1.toInt ∧ p1.toInt ≤ (7 : Int32).toInt)) := b4_2
  refine sIf (fun h5 => ?_) (fun h5 => ?_)
  · have r6 := rgI x11
    have fh5 := eqT h5
    have r7 := rgI p2
    refine sBind (s_X7_isNo hN hK (by first | omega | decide) (by first | omega | decide) (by first | omega | decide) (by first | omega | decide)) (fun x21 b8 => ?_)
    obtain ⟨b8_0, b8_1, b8_2, -⟩ := b8
    replace b8_0 : 0 ≤ x21.toInt := b8_0
    replace b8_1 : x21.toInt ≤ 1 := b8_1
    replace b8_2 : (x21.toInt = 0 → ((0 : Int32).toInt ≤ p2.toInt ∧ p2.toInt ≤ (20 : Int32).toInt)) := b8_2
    refine sIf (fun h9 => ?_) (fun h9 => ?_)
    · have r10 := rgI x21
      have fh9 := eqT h9
      have r11 := rgI x4
      have r12 := rgI th
      exact s_X7_isOf_32  hN hK _ _ _ (by first | omega | decide) (by first | omega | decide) (by first | omega | decide) (by first | omega | decide) (by first | omega | decide) (by first | omega | decide)
    · have r13 := rgI x21
      have fh9 := eqF h9
      have r14 := rgI x4
      have r15 := rgI th
      exact s_X7_isOf_27  hN hK _ _ (by first | omega | decide) (by first | omega | decide) (by first | omega | decide)
  · have r16 := rgI x11
    have fh5 := eqF h5
    have r17 := rgI x4
    have r18 := rgI th
    exact s_X7_isOf_27  hN hK _ _ (by first | omega | decide) (by first | omega | decide) (by first | omega | decide)
set_option maxHeartbeats 2000000 in
theorem s_X7_isSameWay {N K : Nat} {th : Int32} {f : Nat → Int32} {f2 : Nat → Int32} (hN : NBig N) (hK : 100 ≤ K)  : Sf (fX7_isSameWay N K th f f2) (fun (z : Int32 × Int32) => 0 ≤ z.2.toInt ∧ z.2.toInt ≤ 0 ∧ True) := by
  unfold fX7_isSameWay
  have ql0 : (0 : Int32).toInt = 0 := by decide
  have ql1 : (1 : Int32).toInt = 1 := by decide
  refine sIfF (noob (by omega) (by omega)) ?_
  refine sIfF (noob (by omega) (by omega)) ?_
  refine sBind (s_X7_areSame hN hK) (fun x17 b1 => ?_)
  have r2 := rgI x17
  refine sIfT (b01 (by omega) (by omega)) ?_
  exact sRet ⟨(by show 0 ≤ (0 : Int32).toInt; decide), (by show (0 : Int32).toInt ≤ 0; decide), trivial⟩
set_option maxHeartbeats 2000000 in
theorem s_X7_tally {N K : Nat} {th : Int32} {t : Nat → Int32} {p0 : Int32} (hN : NBig N) (hK : 100 ≤ K)  : Sf (fX7_tally N K th t p0) (fun (z : Int32 × Int32) => 0 ≤ z.2.toInt ∧ z.2.toInt ≤ 2 ∧ True) := by
  unfold fX7_tally
  have ql0 : (0 : Int32).toInt = 0 := by decide
  have ql5 : (5 : Int32).toInt = 5 := by decide
  have r1 := rgI p0
  refine sBind (s_X7_isNo hN hK (by first | omega | decide) (by first | omega | decide) (by first | omega | decide) (by first | omega | decide)) (fun x4 b2 => ?_)
  obtain ⟨b2_0, b2_1, b2_2, -⟩ := b2
  replace b2_0 : 0 ≤ x4.toInt := b2_0
  replace b2_1 : x4.toInt ≤ 1 := b2_1
  replace b2_2 : (x4.toInt = 0 → ((0 : Int32).toInt ≤ p0.toInt ∧ p0.toInt ≤ (5 : Int32).toInt)) := b2_2
  have r3 := rgI th
  have r4 := rgI x4
  refine sBind (s_X7_isThrown hN hK (by first | omega | decide) (by first | omega | decide) (by first | omega | decide) (by first | omega | decide)) (fun x8 b5 => ?_)
  obtain ⟨b5_0, b5_1, b5_2, b5_3, b5_4, b5_5, -⟩ := b5
  replace b5_0 : 0 ≤ x8.1.toInt := b5_0
  replace b5_1 : x8.1.toInt ≤ 1 := b5_1
  replace b5_2 : 0 ≤ x8.2.toInt := b5_2
  replace b5_3 : x8.2.toInt ≤ 2 := b5_3
  replace b5_4 : (x8.1.toInt = 0 → (0 ≤ x4.toInt ∧ x4.toInt ≤ 0)) := b5_4
  replace b5_5 : (x8.1.toInt = 0 → (0 ≤ (0 : Int32).toInt ∧ (0 : Int32).toInt ≤ 0)) := b5_5
  refine sIf (fun h6 => ?_) (fun h6 => ?_)
  · have r7 := rgI x8.1
    have fh6 := eqT h6
    refine sIfF (noob (by omega) (by omega)) ?_
    have r8 := rgI (t p0.toNatClampNeg)
    have r9 := rgI x8.2
    exact sRet ⟨(by show 0 ≤ x8.2.toInt; omega), (by show x8.2.toInt ≤ 2; omega), trivial⟩
  · have r10 := rgI x8.1
    have fh6 := eqF h6
    have r11 := rgI x8.2
    exact sRet ⟨(by show 0 ≤ x8.2.toInt; omega), (by show x8.2.toInt ≤ 2; omega), trivial⟩
set_option maxHeartbeats 2000000 in
theorem s_X7_knock {N K : Nat} {th : Int32} {t : Nat → Int32} (hN : NBig N) (hK : 100 ≤ K)  : Sf (fX7_knock N K th t) (fun (z : Int32 × Int32 × (Nat → Int32)) => 0 ≤ z.2.1.toInt ∧ z.2.1.toInt ≤ 0 ∧ True) := by
  unfold fX7_knock
  have ql0 : (0 : Int32).toInt = 0 := by decide
  have r1 := rgI ((upd t (5 : Int32).toNatClampNeg ((t (5 : Int32).toNatClampNeg) + (1 : Int32))) (5 : Int32).toNatClampNeg)
  exact sRet ⟨(by show 0 ≤ (0 : Int32).toInt; decide), (by show (0 : Int32).toInt ≤ 0; decide), trivial⟩
set_option maxHeartbeats 2000000 in
theorem s_X7_isSound_141 {N K : Nat} {th : Int32} {f : Nat → Int32} {t : Nat → Int32} {p0 : Int32} (hN : NBig N) (hK : 100 ≤ K)  {k_49 : Int32 → Int32 → Int32 → Int32 → Option (Int32 × Int32)} {m_49 : Nat} (hk_49 : ∀ (l2 : Int32) (l3 : Int32) (l4 : Int32) (th_ : Int32), (6 - l4.toInt).toNat < m_49 → 0 ≤ p0.toInt → p0.toInt ≤ 2 → 0 ≤ l4.toInt → l4.toInt ≤ 6 → 0 ≤ th_.toInt → th_.toInt ≤ 2 → Sf (k_49 l2 l3 l4 th_) (fun (z : Int32 × Int32) => 0 ≤ z.1.toInt ∧ z.1.toInt ≤ 1 ∧ 0 ≤ z.2.toInt ∧ z.2.toInt ≤ 2 ∧ True)) {k_59 : Int32 → Int32 → Int32 → Int32 → Int32 → Option (Int32 × Int32)} {m_59 : Nat} (hk_59 : ∀ (l2 : Int32) (l3 : Int32) (l4 : Int32) (l5 : Int32) (th_ : Int32), (21 - l5.toInt).toNat < m_59 → 0 ≤ p0.toInt → p0.toInt ≤ 2 → 0 ≤ l4.toInt → l4.toInt ≤ 5 → 1 ≤ l5.toInt → l5.toInt ≤ 21 → 0 ≤ th_.toInt → th_.toInt ≤ 2 → (6 - l4.toInt).toNat ≤ m_49 → Sf (k_59 l2 l3 l4 l5 th_) (fun (z : Int32 × Int32) => 0 ≤ z.1.toInt ∧ z.1.toInt ≤ 1 ∧ 0 ≤ z.2.toInt ∧ z.2.toInt ≤ 2 ∧ True)) {k_78 : Int32 → Int32 → Int32 → Int32 → Int32 → Int32 → (Nat → Int32) → Option (Int32 × Int32)} {m_78 : Nat} (hk_78 : ∀ (l2 : Int32) (l3 : Int32) (l4 : Int32) (l5 : Int32) (l7 : Int32) (th_ : Int32) (e_v0 : (Nat → Int32)), (21 - l7.toInt).toNat < m_78 → 0 ≤ p0.toInt → p0.toInt ≤ 2 → 0 ≤ l4.toInt → l4.toInt ≤ 5 → 1 ≤ l5.toInt → l5.toInt ≤ 20 → 1 ≤ l7.toInt → l7.toInt ≤ 21 → 0 ≤ th_.toInt → th_.toInt ≤ 2 → (6 - l4.toInt).toNat ≤ m_49 → (21 - l5.toInt).toNat ≤ m_59 → Sf (k_78 l2 l3 l4 l5 l7 th_ e_v0) (fun (z : Int32 × Int32) => 0 ≤ z.1.toInt ∧ z.1.toInt ≤ 1 ∧ 0 ≤ z.2.toInt ∧ z.2.toInt ≤ 2 ∧ True)) : ∀ (l3 : Int32) (l4 : Int32) (l5 : Int32) (l7 : Int32) (s0 : Int32) (s1 : Int32) (th_ : Int32) (e_v0 : Nat → Int32), 0 ≤ p0.toInt → p0.toInt ≤ 2 → 0 ≤ l4.toInt → l4.toInt ≤ 5 → 1 ≤ l5.toInt → l5.toInt ≤ 20 → 1 ≤ l7.toInt → l7.toInt ≤ 20 → 0 ≤ s0.toInt → s0.toInt ≤ 1 → 0 ≤ th_.toInt → th_.toInt ≤ 2 → (s0.toInt = 0 → 0 ≤ p0.toInt ∧ p0.toInt ≤ 2) → (s1.toInt = 0 → 0 ≤ p0.toInt ∧ p0.toInt ≤ 2) → (6 - l4.toInt).toNat ≤ m_49 → (21 - l5.toInt).toNat ≤ m_59 → (21 - l7.toInt).toNat ≤ m_78 → Sf (fX7_isSound_141 N K th f t p0 k_49 k_59 k_78 l3 l4 l5 l7 s0 s1 th_ e_v0) (fun (z : Int32 × Int32) => 0 ≤ z.1.toInt ∧ z.1.toInt ≤ 1 ∧ 0 ≤ z.2.toInt ∧ z.2.toInt ≤ 2 ∧ True) := by
  intro l3 l4 l5 l7 s0 s1 th_ e_v0 hq0 hq1 hq2 hq3 hq4 hq5 hq6 hq7 hq8 hq9 hq10 hq11 hq12 hq13 hq14 hq15 hq16
  unfold fX7_isSound_141
  have ql0 : (0 : Int32).toInt = 0 := by decide
  have ql1 : (1 : Int32).toInt = 1 := by decide
  have r1 := rgI (s1 &&& s0)
  have r2 := rgI l3
  have r3 := rgI l4
  have r4 := rgI l5
  have r6 := rgI l7
  have t5 := addI (a := l7) (b := (1 : Int32)) (by omega) (by omega)
  have r7 := rgI th_
  exact hk_78 _ _ _ _ _ _ _ (by omega) (by first | omega | decide) (by first | omega | decide) (by first | omega | decide) (by first | omega | decide) (by first | omega | decide) (by first | omega | decide) (by first | omega | decide) (by first | omega | decide) (by first | omega | decide) (by first | omega | decide) (by omega) (by omega)
set_option maxHeartbeats 2000000 in
theorem s_X7_isSound_136 {N K : Nat} {th : Int32} {f : Nat → Int32} {t : Nat → Int32} {p0 : Int32} (hN : NBig N) (hK : 100 ≤ K)  {k_49 : Int32 → Int32 → Int32 → Int32 → Option (Int32 × Int32)} {m_49 : Nat} (hk_49 : ∀ (l2 : Int32) (l3 : Int32) (l4 : Int32) (th_ : Int32), (6 - l4.toInt).toNat < m_49 → 0 ≤ p0.toInt → p0.toInt ≤ 2 → 0 ≤ l4.toInt → l4.toInt ≤ 6 → 0 ≤ th_.toInt → th_.toInt ≤ 2 → Sf (k_49 l2 l3 l4 th_) (fun (z : Int32 × Int32) => 0 ≤ z.1.toInt ∧ z.1.toInt ≤ 1 ∧ 0 ≤ z.2.toInt ∧ z.2.toInt ≤ 2 ∧ True)) {k_59 : Int32 → Int32 → Int32 → Int32 → Int32 → Option (Int32 × Int32)} {m_59 : Nat} (hk_59 : ∀ (l2 : Int32) (l3 : Int32) (l4 : Int32) (l5 : Int32) (th_ : Int32), (21 - l5.toInt).toNat < m_59 → 0 ≤ p0.toInt → p0.toInt ≤ 2 → 0 ≤ l4.toInt → l4.toInt ≤ 5 → 1 ≤ l5.toInt → l5.toInt ≤ 21 → 0 ≤ th_.toInt → th_.toInt ≤ 2 → (6 - l4.toInt).toNat ≤ m_49 → Sf (k_59 l2 l3 l4 l5 th_) (fun (z : Int32 × Int32) => 0 ≤ z.1.toInt ∧ z.1.toInt ≤ 1 ∧ 0 ≤ z.2.toInt ∧ z.2.toInt ≤ 2 ∧ True)) {k_78 : Int32 → Int32 → Int32 → Int32 → Int32 → Int32 → (Nat → Int32) → Option (Int32 × Int32)} {m_78 : Nat} (hk_78 : ∀ (l2 : Int32) (l3 : Int32) (l4 : Int32) (l5 : Int32) (l7 : Int32) (th_ : Int32) (e_v0 : (Nat → Int32)), (21 - l7.toInt).toNat < m_78 → 0 ≤ p0.toInt → p0.toInt ≤ 2 → 0 ≤ l4.toInt → l4.toInt ≤ 5 → 1 ≤ l5.toInt → l5.toInt ≤ 20 → 1 ≤ l7.toInt → l7.toInt ≤ 21 → 0 ≤ th_.toInt → th_.toInt ≤ 2 → (6 - l4.toInt).toNat ≤ m_49 → (21 - l5.toInt).toNat ≤ m_59 → Sf (k_78 l2 l3 l4 l5 l7 th_ e_v0) (fun (z : Int32 × Int32) => 0 ≤ z.1.toInt ∧ z.1.toInt ≤ 1 ∧ 0 ≤ z.2.toInt ∧ z.2.toInt ≤ 2 ∧ True)) : ∀ (l3 : Int32) (l4 : Int32) (l5 : Int32) (l7 : Int32) (s0 : Int32) (th_ : Int32) (e_v0 : Nat → Int32), 0 ≤ p0.toInt → p0.toInt ≤ 2 → 0 ≤ l4.toInt → l4.toInt ≤ 5 → 1 ≤ l5.toInt → l5.toInt ≤ 20 → 1 ≤ l7.toInt → l7.toInt ≤ 20 → 0 ≤ th_.toInt → th_.toInt ≤ 2 → (s0.toInt = 0 → 0 ≤ p0.toInt ∧ p0.toInt ≤ 2) → (6 - l4.toInt).toNat ≤ m_49 → (21 - l5.toInt).toNat ≤ m_59 → (21 - l7.toInt).toNat ≤ m_78 → Sf (fX7_isSound_136 N K th f t p0 k_49 k_59 k_78 l3 l4 l5 l7 s0 th_ e_v0) (fun (z : Int32 × Int32) => 0 ≤ z.1.toInt ∧ z.1.toInt ≤ 1 ∧ 0 ≤ z.2.toInt ∧ z.2.toInt ≤ 2 ∧ True) := by
  intro l3 l4 l5 l7 s0 th_ e_v0 hq0 hq1 hq2 hq3 hq4 hq5 hq6 hq7 hq8 hq9 hq10 hq11 hq12 hq13
  unfold fX7_isSound_136
  have ql0 : (0 : Int32).toInt = 0 := by decide
  have ql1 : (1 : Int32).toInt = 1 := by decide
  have r1 := rgI l3
  have r2 := rgI l4
  have r3 := rgI l5
  have r4 := rgI l7
  have r5 := rgI s0
  have r6 := rgI th_
  exact s_X7_isSound_141 (hk_49 := hk_49) (hk_59 := hk_59) (hk_78 := hk_78) hN hK _ _ _ _ _ _ _ _ (by first | omega | decide) (by first | omega | decide) (by first | omega | decide) (by first | omega | decide) (by first | omega | decide) (by first | omega | decide) (by first | omega | decide) (by first | omega | decide) (by first | omega | decide) (by first | omega | decide) (by first | omega | decide) (by first | omega | decide) (by first | omega | decide) (by first | omega | decide) (by omega) (by omega) (by omega)
set_option maxHeartbeats 2000000 in
theorem s_X7_isSound_109 {N K : Nat} {th : Int32} {f : Nat → Int32} {t : Nat → Int32} {p0 : Int32} (hN : NBig N) (hK : 100 ≤ K)  {k_49 : Int32 → Int32 → Int32 → Int32 → Option (Int32 × Int32)} {m_49 : Nat} (hk_49 : ∀ (l2 : Int32) (l3 : Int32) (l4 : Int32) (th_ : Int32), (6 - l4.toInt).toNat < m_49 → 0 ≤ p0.toInt → p0.toInt ≤ 2 → 0 ≤ l4.toInt → l4.toInt ≤ 6 → 0 ≤ th_.toInt → th_.toInt ≤ 2 → Sf (k_49 l2 l3 l4 th_) (fun (z : Int32 × Int32) => 0 ≤ z.1.toInt ∧ z.1.toInt ≤ 1 ∧ 0 ≤ z.2.toInt ∧ z.2.toInt ≤ 2 ∧ True)) {k_59 : Int32 → Int32 → Int32 → Int32 → Int32 → Option (Int32 × Int32)} {m_59 : Nat} (hk_59 : ∀ (l2 : Int32) (l3 : Int32) (l4 : Int32) (l5 : Int32) (th_ : Int32), (21 - l5.toInt).toNat < m_59 → 0 ≤ p0.toInt → p0.toInt ≤ 2 → 0 ≤ l4.toInt → l4.toInt ≤ 5 → 1 ≤ l5.toInt → l5.toInt ≤ 21 → 0 ≤ th_.toInt → th_.toInt ≤ 2 → (6 - l4.toInt).toNat ≤ m_49 → Sf (k_59 l2 l3 l4 l5 th_) (fun (z : Int32 × Int32) => 0 ≤ z.1.toInt ∧ z.1.toInt ≤ 1 ∧ 0 ≤ z.2.toInt ∧ z.2.toInt ≤ 2 ∧ True)) {k_78 : Int32 → Int32 → Int32 → Int32 → Int32 → Int32 → (Nat → Int32) → Option (Int32 × Int32)} {m_78 : Nat} (hk_78 : ∀ (l2 : Int32) (l3 : Int32) (l4 : Int32) (l5 : Int32) (l7 : Int32) (th_ : Int32) (e_v0 : (Nat → Int32)), (21 - l7.toInt).toNat < m_78 → 0 ≤ p0.toInt → p0.toInt ≤ 2 → 0 ≤ l4.toInt → l4.toInt ≤ 5 → 1 ≤ l5.toInt → l5.toInt ≤ 20 → 1 ≤ l7.toInt → l7.toInt ≤ 21 → 0 ≤ th_.toInt → th_.toInt ≤ 2 → (6 - l4.toInt).toNat ≤ m_49 → (21 - l5.toInt).toNat ≤ m_59 → Sf (k_78 l2 l3 l4 l5 l7 th_ e_v0) (fun (z : Int32 × Int32) => 0 ≤ z.1.toInt ∧ z.1.toInt ≤ 1 ∧ 0 ≤ z.2.toInt ∧ z.2.toInt ≤ 2 ∧ True)) : ∀ (l2 : Int32) (l4 : Int32) (l5 : Int32) (l7 : Int32) (l8 : Int32) (s0 : Int32) (s1 : Int32) (th_ : Int32) (e_v0 : Nat → Int32), 0 ≤ p0.toInt → p0.toInt ≤ 2 → 0 ≤ l4.toInt → l4.toInt ≤ 5 → 1 ≤ l5.toInt → l5.toInt ≤ 20 → 1 ≤ l7.toInt → l7.toInt ≤ 20 → 0 ≤ s0.toInt → s0.toInt ≤ 1 → 0 ≤ th_.toInt → th_.toInt ≤ 2 → (s0.toInt = 0 → 0 ≤ p0.toInt ∧ p0.toInt ≤ 2) → (s1.toInt = 0 → 0 ≤ p0.toInt ∧ p0.toInt ≤ 2) → (6 - l4.toInt).toNat ≤ m_49 → (21 - l5.toInt).toNat ≤ m_59 → (21 - l7.toInt).toNat ≤ m_78 → Sf (fX7_isSound_109 N K th f t p0 k_49 k_59 k_78 l2 l4 l5 l7 l8 s0 s1 th_ e_v0) (fun (z : Int32 × Int32) => 0 ≤ z.1.toInt ∧ z.1.toInt ≤ 1 ∧ 0 ≤ z.2.toInt ∧ z.2.toInt ≤ 2 ∧ True) := by
  intro l2 l4 l5 l7 l8 s0 s1 th_ e_v0 hq0 hq1 hq2 hq3 hq4 hq5 hq6 hq7 hq8 hq9 hq10 hq11 hq12 hq13 hq14 hq15 hq16
  unfold fX7_isSound_109
  have ql0 : (0 : Int32).toInt = 0 := by decide
  have r1 := rgI s0
  refine sBind (s_X7_bit hN hK (by first | omega | decide) (by first | omega | decide)) (fun x109 b2 => ?_)
  obtain ⟨b2_0, b2_1, -⟩ := b2
  replace b2_0 : 0 ≤ x109.toInt := b2_0
  replace b2_1 : x109.toInt ≤ 1 := b2_1
  refine sIf (fun h3 => ?_) (fun h3 => ?_)
  · have r4 := rgI l8
    have fh3 := ltT h3
    have r5 := rgI (s1 + x109)
    have r6 := rgI l4
    have r7 := rgI l5
    have r8 := rgI l7
    have r9 := rgI l2
    have r10 := rgI th_
    exact s_X7_isSound_136 (hk_49 := hk_49) (hk_59 := hk_59) (hk_78 := hk_78) hN hK _ _ _ _ _ _ _ (by first | omega | decide) (by first | omega | decide) (by first | omega | decide) (by first | omega | decide) (by first | omega | decide) (by first | omega | decide) (by first | omega | decide) (by first | omega | decide) (by first | omega | decide) (by first | omega | decide) (by first | omega | decide) (by omega) (by omega) (by omega)
  · have r11 := rgI l8
    have fh3 := ltF h3
    have r12 := rgI l4
    have r13 := rgI l7
    have r14 := rgI l5
    refine sBind (s_X7_told hN hK (by first | omega | decide) (by first | omega | decide) (by first | omega | decide) (by first | omega | decide) (by first | omega | decide) (by first | omega | decide)) (fun x130 b15 => ?_)
    refine sIf (fun h16 => ?_) (fun h16 => ?_)
    · have r17 := rgI x130
      have fh16 := eqT h16
      have r18 := rgI (s1 + x109)
      have r19 := rgI l2
      have r20 := rgI th_
      exact s_X7_isSound_136 (hk_49 := hk_49) (hk_59 := hk_59) (hk_78 := hk_78) hN hK _ _ _ _ _ _ _ (by first | omega | decide) (by first | omega | decide) (by first | omega | decide) (by first | omega | decide) (by first | omega | decide) (by first | omega | decide) (by first | omega | decide) (by first | omega | decide) (by first | omega | decide) (by first | omega | decide) (by first | omega | decide) (by omega) (by omega) (by omega)
    · have r21 := rgI x130
      have fh16 := eqF h16
      have r22 := rgI (s1 + x109)
      have r23 := rgI l2
      have r24 := rgI th_
      exact s_X7_isSound_141 (hk_49 := hk_49) (hk_59 := hk_59) (hk_78 := hk_78) hN hK _ _ _ _ _ _ _ _ (by first | omega | decide) (by first | omega | decide) (by first | omega | decide) (by first | omega | decide) (by first | omega | decide) (by first | omega | decide) (by first | omega | decide) (by first | omega | decide) (by first | omega | decide) (by first | omega | decide) (by first | omega | decide) (by first | omega | decide) (by first | omega | decide) (by first | omega | decide) (by omega) (by omega) (by omega)
set_option maxHeartbeats 2000000 in
theorem s_X7_isSound_78 {N K : Nat} {th : Int32} {f : Nat → Int32} {t : Nat → Int32} {p0 : Int32} (hN : NBig N) (hK : 100 ≤ K)  {k_49 : Int32 → Int32 → Int32 → Int32 → Option (Int32 × Int32)} {m_49 : Nat} (hk_49 : ∀ (l2 : Int32) (l3 : Int32) (l4 : Int32) (th_ : Int32), (6 - l4.toInt).toNat < m_49 → 0 ≤ p0.toInt → p0.toInt ≤ 2 → 0 ≤ l4.toInt → l4.toInt ≤ 6 → 0 ≤ th_.toInt → th_.toInt ≤ 2 → Sf (k_49 l2 l3 l4 th_) (fun (z : Int32 × Int32) => 0 ≤ z.1.toInt ∧ z.1.toInt ≤ 1 ∧ 0 ≤ z.2.toInt ∧ z.2.toInt ≤ 2 ∧ True)) {k_59 : Int32 → Int32 → Int32 → Int32 → Int32 → Option (Int32 × Int32)} {m_59 : Nat} (hk_59 : ∀ (l2 : Int32) (l3 : Int32) (l4 : Int32) (l5 : Int32) (th_ : Int32), (21 - l5.toInt).toNat < m_59 → 0 ≤ p0.toInt → p0.toInt ≤ 2 → 0 ≤ l4.toInt → l4.toInt ≤ 5 → 1 ≤ l5.toInt → l5.toInt ≤ 21 → 0 ≤ th_.toInt → th_.toInt ≤ 2 → (6 - l4.toInt).toNat ≤ m_49 → Sf (k_59 l2 l3 l4 l5 th_) (fun (z : Int32 × Int32) => 0 ≤ z.1.toInt ∧ z.1.toInt ≤ 1 ∧ 0 ≤ z.2.toInt ∧ z.2.toInt ≤ 2 ∧ True)) : ∀ (fu : Nat) (l2 : Int32) (l3 : Int32) (l4 : Int32) (l5 : Int32) (l7 : Int32) (th_ : Int32) (e_v0 : (Nat → Int32)), (21 - l7.toInt).toNat < fu → 0 ≤ p0.toInt → p0.toInt ≤ 2 → 0 ≤ l4.toInt → l4.toInt ≤ 5 → 1 ≤ l5.toInt → l5.toInt ≤ 20 → 1 ≤ l7.toInt → l7.toInt ≤ 21 → 0 ≤ th_.toInt → th_.toInt ≤ 2 → (6 - l4.toInt).toNat ≤ m_49 → (21 - l5.toInt).toNat ≤ m_59 → Sf (fX7_isSound_78 N K th f t p0 k_49 k_59 fu l2 l3 l4 l5 l7 th_ e_v0) (fun (z : Int32 × Int32) => 0 ≤ z.1.toInt ∧ z.1.toInt ≤ 1 ∧ 0 ≤ z.2.toInt ∧ z.2.toInt ≤ 2 ∧ True) := by
  intro fu
  induction fu with
  | zero => intro l2 l3 l4 l5 l7 th_ e_v0 h0 hq0 hq1 hq2 hq3 hq4 hq5 hq6 hq7 hq8 hq9 hq10 hq11; omega
  | succ fu ih =>
    intro l2 l3 l4 l5 l7 th_ e_v0 h0 hq0 hq1 hq2 hq3 hq4 hq5 hq6 hq7 hq8 hq9 hq10 hq11
    unfold fX7_isSound_78
    have ql0 : (0 : Int32).toInt = 0 := by decide
    have ql1 : (1 : Int32).toInt = 1 := by decide
    have ql20 : (20 : Int32).toInt = 20 := by decide
    refine sIf (fun h1 => ?_) (fun h1 => ?_)
    · have r2 := rgI l7
      have fh1 := ltT h1
      have r3 := rgI l2
      have r4 := rgI l3
      have r5 := rgI l4
      have r7 := rgI l5
      have t6 := addI (a := l5) (b := (1 : Int32)) (by omega) (by omega)
      have r8 := rgI th_
      exact hk_59 _ _ _ _ _ (by omega) (by first | omega | decide) (by first | omega | decide) (by first | omega | decide) (by first | omega | decide) (by first | omega | decide) (by first | omega | decide) (by first | omega | decide) (by first | omega | decide) (by omega)
    · have r9 := rgI l7
      have fh1 := ltF h1
      have r10 := rgI th_
      have r11 := rgI p0
      have r12 := rgI l4
      have r13 := rgI l5
      refine sBind (s_X7_kept hN hK (by first | omega | decide) (by first | omega | decide) (by first | omega | decide) (by first | omega | decide) (by first | omega | decide) (by first | omega | decide) (by first | omega | decide) (by first | omega | decide) (by first | omega | decide) (by first | omega | decide)) (fun x93 b14 => ?_)
      refine sIf (fun h15 => ?_) (fun h15 => ?_)
      · have r16 := rgI x93
        have fh15 := ltT h15
        have r17 := rgI l2
        have r18 := rgI l3
        exact s_X7_isSound_109 (hk_49 := hk_49) (hk_59 := hk_59) (hk_78 := ih) hN hK _ _ _ _ _ _ _ _ _ (by first | omega | decide) (by first | omega | decide) (by first | omega | decide) (by first | omega | decide) (by first | omega | decide) (by first | omega | decide) (by first | omega | decide) (by first | omega | decide) (by first | omega | decide) (by first | omega | decide) (by first | omega | decide) (by first | omega | decide) (by first | omega | decide) (by first | omega | decide) (by omega) (by omega) (by omega)
      · have r19 := rgI x93
        have fh15 := ltF h15
        have r20 := rgI l2
        have r21 := rgI l3
        exact s_X7_isSound_109 (hk_49 := hk_49) (hk_59 := hk_59) (hk_78 := ih) hN hK _ _ _ _ _ _ _ _ _ (by first | omega | decide) (by first | omega | decide) (by first | omega | decide) (by first | omega | decide) (by first | omega | decide) (by first | omega | decide) (by first | omega | decide) (by first | omega | decide) (by first | omega | decide) (by first | omega | decide) (by first | omega | decide) (by first | omega | decide) (by first | omega | decide) (by first | omega | decide) (by omega) (by omega) (by omega)
set_option maxHeartbeats 2000000 in
theorem s_X7_isSound_59 {N K : Nat} {th : Int32} {f : Nat → Int32} {t : Nat → Int32} {p0 : Int32} (hN : NBig N) (hK : 100 ≤ K)  {k_49 : Int32 → Int32 → Int32 → Int32 → Option (Int32 × Int32)} {m_49 : Nat} (hk_49 : ∀ (l2 : Int32) (l3 : Int32) (l4 : Int32) (th_ : Int32), (6 - l4.toInt).toNat < m_49 → 0 ≤ p0.toInt → p0.toInt ≤ 2 → 0 ≤ l4.toInt → l4.toInt ≤ 6 → 0 ≤ th_.toInt → th_.toInt ≤ 2 → Sf (k_49 l2 l3 l4 th_) (fun (z : Int32 × Int32) => 0 ≤ z.1.toInt ∧ z.1.toInt ≤ 1 ∧ 0 ≤ z.2.toInt ∧ z.2.toInt ≤ 2 ∧ True)) : ∀ (fu : Nat) (l2 : Int32) (l3 : Int32) (l4 : Int32) (l5 : Int32) (th_ : Int32), (21 - l5.toInt).toNat < fu → 0 ≤ p0.toInt → p0.toInt ≤ 2 → 0 ≤ l4.toInt → l4.toInt ≤ 5 → 1 ≤ l5.toInt → l5.toInt ≤ 21 → 0 ≤ th_.toInt → th_.toInt ≤ 2 → (6 - l4.toInt).toNat ≤ m_49 → Sf (fX7_isSound_59 N K th f t p0 k_49 fu l2 l3 l4 l5 th_) (fun (z : Int32 × Int32) => 0 ≤ z.1.toInt ∧ z.1.toInt ≤ 1 ∧ 0 ≤ z.2.toInt ∧ z.2.toInt ≤ 2 ∧ True) := by
  intro fu
  induction fu with
  | zero => intro l2 l3 l4 l5 th_ h0 hq0 hq1 hq2 hq3 hq4 hq5 hq6 hq7 hq8; omega
  | succ fu ih =>
    intro l2 l3 l4 l5 th_ h0 hq0 hq1 hq2 hq3 hq4 hq5 hq6 hq7 hq8
    unfold fX7_isSound_59
    have hN9 := hN.u
    have ql0 : (0 : Int32).toInt = 0 := by decide
    have ql1 : (1 : Int32).toInt = 1 := by decide
    have ql20 : (20 : Int32).toInt = 20 := by decide
    refine sIf (fun h1 => ?_) (fun h1 => ?_)
    · have r2 := rgI l5
      have fh1 := ltT h1
      have r3 := rgI l2
      have r4 := rgI l3
      have r6 := rgI l4
      have t5 := addI (a := l4) (b := (1 : Int32)) (by omega) (by omega)
      have r7 := rgI th_
      exact hk_49 _ _ _ _ (by omega) (by first | omega | decide) (by first | omega | decide) (by first | omega | decide) (by first | omega | decide) (by first | omega | decide) (by first | omega | decide)
    · have r8 := rgI l5
      have fh1 := ltF h1
      have r9 := rgI l4
      refine sBind (s_X7_row hN hK (by first | omega | decide) (by first | omega | decide) (by first | omega | decide) (by first | omega | decide)) (fun x70 b10 => ?_)
      have r11 := rgI l2
      have r12 := rgI l3
      have r13 := rgI th_
      exact s_X7_isSound_78 (hk_49 := hk_49) (hk_59 := ih) hN hK _ _ _ _ _ _ _ _ (by omega) (by first | omega | decide) (by first | omega | decide) (by first | omega | decide) (by first | omega | decide) (by first | omega | decide) (by first | omega | decide) (by first | omega | decide) (by first | omega | decide) (by first | omega | decide) (by first | omega | decide) (by omega) (by omega)
set_option maxHeartbeats 2000000 in
theorem s_X7_isSound_49 {N K : Nat} {th : Int32} {f : Nat → Int32} {t : Nat → Int32} {p0 : Int32} (hN : NBig N) (hK : 100 ≤ K)  : ∀ (fu : Nat) (l2 : Int32) (l3 : Int32) (l4 : Int32) (th_ : Int32), (6 - l4.toInt).toNat < fu → 0 ≤ p0.toInt → p0.toInt ≤ 2 → 0 ≤ l4.toInt → l4.toInt ≤ 6 → 0 ≤ th_.toInt → th_.toInt ≤ 2 → Sf (fX7_isSound_49 N K th f t p0  fu l2 l3 l4 th_) (fun (z : Int32 × Int32) => 0 ≤ z.1.toInt ∧ z.1.toInt ≤ 1 ∧ 0 ≤ z.2.toInt ∧ z.2.toInt ≤ 2 ∧ True) := by
  intro fu
  induction fu with
  | zero => intro l2 l3 l4 th_ h0 hq0 hq1 hq2 hq3 hq4 hq5; omega
  | succ fu ih =>
    intro l2 l3 l4 th_ h0 hq0 hq1 hq2 hq3 hq4 hq5
    unfold fX7_isSound_49
    have ql0 : (0 : Int32).toInt = 0 := by decide
    have ql1 : (1 : Int32).toInt = 1 := by decide
    have ql6 : (6 : Int32).toInt = 6 := by decide
    refine sIf (fun h1 => ?_) (fun h1 => ?_)
    · have r2 := rgI l4
      have fh1 := leT h1
      refine sIf (fun h3 => ?_) (fun h3 => ?_)
      · have r4 := rgI l2
        have fh3 := eqT h3
        have r5 := rgI th_
        exact sRet ⟨(by show 0 ≤ (0 : Int32).toInt; decide), (by show (0 : Int32).toInt ≤ 1; decide), (by show 0 ≤ th_.toInt; omega), (by show th_.toInt ≤ 2; omega), trivial⟩
      · have r6 := rgI l2
        have fh3 := eqF h3
        have r7 := rgI th_
        have r8 := rgI p0
        refine sBind (s_X7_told2 hN hK (by first | omega | decide) (by first | omega | decide) (by first | omega | decide) (by first | omega | decide) (by first | omega | decide) (by first | omega | decide)) (fun x169 b9 => ?_)
        refine sIf (fun h10 => ?_) (fun h10 => ?_)
        · have r11 := rgI l3
          have r12 := rgI x169
          have fh10 := eqT h10
          exact sRet ⟨(by show 0 ≤ (1 : Int32).toInt; decide), (by show (1 : Int32).toInt ≤ 1; decide), (by show 0 ≤ th_.toInt; omega), (by show th_.toInt ≤ 2; omega), trivial⟩
        · have r13 := rgI l3
          have r14 := rgI x169
          have fh10 := eqF h10
          exact sRet ⟨(by show 0 ≤ (0 : Int32).toInt; decide), (by show (0 : Int32).toInt ≤ 1; decide), (by show 0 ≤ th_.toInt; omega), (by show th_.toInt ≤ 2; omega), trivial⟩
    · have r15 := rgI l4
      have fh1 := leF h1
      have r16 := rgI l2
      have r17 := rgI l3
      have r18 := rgI th_
      exact s_X7_isSound_59 (hk_49 := ih) hN hK _ _ _ _ _ _ (by omega) (by first | omega | decide) (by first | omega | decide) (by first | omega | decide) (by first | omega | decide) (by first | omega | decide) (by first | omega | decide) (by first | omega | decide) (by first | omega | decide) (by omega)
set_option maxHeartbeats 2000000 in
theorem s_X7_isSound_43 {N K : Nat} {th : Int32} {f : Nat → Int32} {t : Nat → Int32} {p0 : Int32} (hN : NBig N) (hK : 100 ≤ K)  : ∀ (s0 : Int32) (th_ : Int32), 0 ≤ p0.toInt → p0.toInt ≤ 2 → 0 ≤ s0.toInt → s0.toInt ≤ 1 → 0 ≤ th_.toInt → th_.toInt ≤ 2 → (s0.toInt = 0 → 0 ≤ p0.toInt ∧ p0.toInt ≤ 2) → Sf (fX7_isSound_43 N K th f t p0  s0 th_) (fun (z : Int32 × Int32) => 0 ≤ z.1.toInt ∧ z.1.toInt ≤ 1 ∧ 0 ≤ z.2.toInt ∧ z.2.toInt ≤ 2 ∧ True) := by
  intro s0 th_ hq0 hq1 hq2 hq3 hq4 hq5 hq6
  unfold fX7_isSound_43
  have ql0 : (0 : Int32).toInt = 0 := by decide
  have r1 := rgI s0
  have r2 := rgI th_
  exact s_X7_isSound_49  hN hK _ _ _ _ _ (by omega) (by first | omega | decide) (by first | omega | decide) (by first | omega | decide) (by first | omega | decide) (by first | omega | decide) (by first | omega | decide)
set_option maxHeartbeats 2000000 in
theorem s_X7_isSound {N K : Nat} {th : Int32} {f : Nat → Int32} {t : Nat → Int32} {p0 : Int32} (hN : NBig N) (hK : 100 ≤ K)  : Sf (fX7_isSound N K th f t p0) (fun (z : Int32 × Int32) => 0 ≤ z.1.toInt ∧ z.1.toInt ≤ 1 ∧ 0 ≤ z.2.toInt ∧ z.2.toInt ≤ 2 ∧ True) := by
  unfold fX7_isSound
  have ql0 : (0 : Int32).toInt = 0 := by decide
  have ql1 : (1 : Int32).toInt = 1 := by decide
  have ql2 : (2 : Int32).toInt = 2 := by decide
  have r1 := rgI p0
  refine sBind (s_X7_isNo hN hK (by first | omega | decide) (by first | omega | decide) (by first | omega | decide) (by first | omega | decide)) (fun x4 b2 => ?_)
  obtain ⟨b2_0, b2_1, b2_2, -⟩ := b2
  replace b2_0 : 0 ≤ x4.toInt := b2_0
  replace b2_1 : x4.toInt ≤ 1 := b2_1
  replace b2_2 : (x4.toInt = 0 → ((0 : Int32).toInt ≤ p0.toInt ∧ p0.toInt ≤ (2 : Int32).toInt)) := b2_2
  have r3 := rgI th
  have r4 := rgI x4
  refine sBind (s_X7_isThrown hN hK (by first | omega | decide) (by first | omega | decide) (by first | omega | decide) (by first | omega | decide)) (fun x8 b5 => ?_)
  obtain ⟨b5_0, b5_1, b5_2, b5_3, b5_4, b5_5, -⟩ := b5
  replace b5_0 : 0 ≤ x8.1.toInt := b5_0
  replace b5_1 : x8.1.toInt ≤ 1 := b5_1
  replace b5_2 : 0 ≤ x8.2.toInt := b5_2
  replace b5_3 : x8.2.toInt ≤ 2 := b5_3
  replace b5_4 : (x8.1.toInt = 0 → (0 ≤ x4.toInt ∧ x4.toInt ≤ 0)) := b5_4
  replace b5_5 : (x8.1.toInt = 0 → (0 ≤ (0 : Int32).toInt ∧ (0 : Int32).toInt ≤ 0)) := b5_5
  refine sIf (fun h6 => ?_) (fun h6 => ?_)
  · have r7 := rgI x8.1
    have fh6 := eqT h6
    refine sIf (fun h8 => ?_) (fun h8 => ?_)
    · have r9 := rgI (t (1 : Int32).toNatClampNeg)
      have r10 := rgI ((t (2 : Int32).toNatClampNeg) + (t (3 : Int32).toNatClampNeg))
      have fh8 := eqT h8
      have r11 := rgI x8.2
      exact s_X7_isSound_43  hN hK _ _ (by first | omega | decide) (by first | omega | decide) (by first | omega | decide) (by first | omega | decide) (by first | omega | decide) (by first | omega | decide) (by first | omega | decide)
    · have r12 := rgI (t (1 : Int32).toNatClampNeg)
      have r13 := rgI ((t (2 : Int32).toNatClampNeg) + (t (3 : Int32).toNatClampNeg))
      have fh8 := eqF h8
      have r14 := rgI x8.2
      exact s_X7_isSound_43  hN hK _ _ (by first | omega | decide) (by first | omega | decide) (by first | omega | decide) (by first | omega | decide) (by first | omega | decide) (by first | omega | decide) (by first | omega | decide)
  · have r15 := rgI x8.1
    have fh6 := eqF h6
    have r16 := rgI x8.2
    exact sRet ⟨(by show 0 ≤ (0 : Int32).toInt; decide), (by show (0 : Int32).toInt ≤ 1; decide), (by show 0 ≤ x8.2.toInt; omega), (by show x8.2.toInt ≤ 2; omega), trivial⟩
set_option maxHeartbeats 2000000 in
theorem s_X7_digest {N K : Nat} {th : Int32} {f0 : Nat → Int32} {f1 : Nat → Int32} {f2 : Nat → Int32} {g0 : Nat → Int32} {g1 : Nat → Int32} {g2 : Nat → Int32} {e0 : Nat → Int32} {e1 : Nat → Int32} {t : Nat → Int32} (hN : NBig N) (hK : 100 ≤ K)  : Sf (fX7_digest N K th f0 f1 f2 g0 g1 g2 e0 e1 t) (fun (z : Int64 × Int32) => 0 ≤ z.2.toInt ∧ z.2.toInt ≤ 0 ∧ True) := by
  unfold fX7_digest
  have ql0 : (0 : Int32).toInt = 0 := by decide
  have ql1 : (1 : Int32).toInt = 1 := by decide
  have ql2 : (2 : Int32).toInt = 2 := by decide
  refine sBind (s_X7_told2 hN hK (by first | omega | decide) (by first | omega | decide) (by first | omega | decide) (by first | omega | decide) (by first | omega | decide) (by first | omega | decide)) (fun x27 b1 => ?_)
  refine sBind (s_X7_told2 hN hK (by first | omega | decide) (by first | omega | decide) (by first | omega | decide) (by first | omega | decide) (by first | omega | decide) (by first | omega | decide)) (fun x36 b2 => ?_)
  refine sBind (s_X7_told2 hN hK (by first | omega | decide) (by first | omega | decide) (by first | omega | decide) (by first | omega | decide) (by first | omega | decide) (by first | omega | decide)) (fun x27_1 b3 => ?_)
  refine sBind (s_X7_told2 hN hK (by first | omega | decide) (by first | omega | decide) (by first | omega | decide) (by first | omega | decide) (by first | omega | decide) (by first | omega | decide)) (fun x36_1 b4 => ?_)
  refine sBind (s_X7_told2 hN hK (by first | omega | decide) (by first | omega | decide) (by first | omega | decide) (by first | omega | decide) (by first | omega | decide) (by first | omega | decide)) (fun x27_2 b5 => ?_)
  refine sBind (s_X7_told2 hN hK (by first | omega | decide) (by first | omega | decide) (by first | omega | decide) (by first | omega | decide) (by first | omega | decide) (by first | omega | decide)) (fun x36_2 b6 => ?_)
  refine sBind (s_X7_ledgerTold hN hK (by first | omega | decide) (by first | omega | decide) (by first | omega | decide) (by first | omega | decide) (by first | omega | decide) (by first | omega | decide)) (fun x66 b7 => ?_)
  refine sBind (s_X7_ledgerTold hN hK (by first | omega | decide) (by first | omega | decide) (by first | omega | decide) (by first | omega | decide) (by first | omega | decide) (by first | omega | decide)) (fun x75 b8 => ?_)
  refine sBind (s_X7_ledgerTold hN hK (by first | omega | decide) (by first | omega | decide) (by first | omega | decide) (by first | omega | decide) (by first | omega | decide) (by first | omega | decide)) (fun x66_1 b9 => ?_)
  refine sBind (s_X7_ledgerTold hN hK (by first | omega | decide) (by first | omega | decide) (by first | omega | decide) (by first | omega | decide) (by first | omega | decide) (by first | omega | decide)) (fun x75_1 b10 => ?_)
  refine sBind (s_X7_ledgerTold hN hK (by first | omega | decide) (by first | omega | decide) (by first | omega | decide) (by first | omega | decide) (by first | omega | decide) (by first | omega | decide)) (fun x66_2 b11 => ?_)
  refine sBind (s_X7_ledgerTold hN hK (by first | omega | decide) (by first | omega | decide) (by first | omega | decide) (by first | omega | decide) (by first | omega | decide) (by first | omega | decide)) (fun x75_2 b12 => ?_)
  refine sIfF (noob (by omega) (by omega)) ?_
  refine sBind (s_X7_number hN hK) (fun x122 b13 => ?_)
  refine sBind (s_X7_parts hN hK) (fun x130 b14 => ?_)
  refine sIfF (noob (by omega) (by omega)) ?_
  refine sBind (s_X7_number hN hK) (fun x122_1 b15 => ?_)
  refine sBind (s_X7_parts hN hK) (fun x130_1 b16 => ?_)
  exact sRet ⟨(by show 0 ≤ (0 : Int32).toInt; decide), (by show (0 : Int32).toInt ≤ 0; decide), trivial⟩
set_option maxHeartbeats 2000000 in
theorem s_X6_init {N K : Nat} {nn : Int64} (hN : NBig N) (hK : 100 ≤ K)  : Sf (fX6_init N K nn) (fun (z : Unit) => True) := by
  unfold fX6_init
  have ql0 : (0 : Int32).toInt = 0 := by decide
  exact sRet trivial
