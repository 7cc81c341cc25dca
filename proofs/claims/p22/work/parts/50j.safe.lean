set_option maxHeartbeats 2000000 in
theorem s_X7_forgetRule_87 {N K : Nat} {th : Int32} {f : Nat → Int32} {t : Nat → Int32} {p0 : Int32} {p1 : Int32} (hN : NBig N) (hK : 100 ≤ K)  {k_60 : Int32 → Int32 → Int32 → (Nat → Int32) → (Nat → Int32) → Option (Int32 × Int32 × (Nat → Int32) × (Nat → Int32))} {m_60 : Nat} (hk_60 : ∀ (l3 : Int32) (l4 : Int32) (th_ : Int32) (f_ : (Nat → Int32)) (t_ : (Nat → Int32)), (21 - l4.toInt).toNat < m_60 → 0 ≤ p0.toInt → p0.toInt ≤ 2 → 0 ≤ p1.toInt → p1.toInt ≤ 20 → 1 ≤ l4.toInt → l4.toInt ≤ 21 → 0 ≤ th_.toInt → th_.toInt ≤ 2 → Sf (k_60 l3 l4 th_ f_ t_) (fun (z : Int32 × Int32 × (Nat → Int32) × (Nat → Int32)) => 0 ≤ z.2.1.toInt ∧ z.2.1.toInt ≤ 2 ∧ True)) : ∀ (l3 : Int32) (l4 : Int32) (th_ : Int32) (f_ : Nat → Int32) (t_ : Nat → Int32), 0 ≤ p0.toInt → p0.toInt ≤ 2 → 0 ≤ p1.toInt → p1.toInt ≤ 20 → 1 ≤ l4.toInt → l4.toInt ≤ 20 → 0 ≤ th_.toInt → th_.toInt ≤ 2 → (21 - l4.toInt).toNat ≤ m_60 → Sf (fX7_forgetRule_87 N K th f t p0 p1 k_60 l3 l4 th_ f_ t_) (fun (z : Int32 × Int32 × (Nat → Int32) × (Nat → Int32)) => 0 ≤ z.2.1.toInt ∧ z.2.1.toInt ≤ 2 ∧ True) := by
  intro l3 l4 th_ f_ t_ hq0 hq1 hq2 hq3 hq4 hq5 hq6 hq7 hq8
  unfold fX7_forgetRule_87
  have ql0 : (0 : Int32).toInt = 0 := by decide
  have ql1 : (1 : Int32).toInt = 1 := by decide
  have t1 := addI (a := l4) (b := (1 : Int32)) (by omega) (by omega)
  exact hk_60 _ _ _ _ _ (by omega) (by first | omega | decide) (by first | omega | decide) (by first | omega | decide) (by first | omega | decide) (by first | omega | decide) (by first | omega | decide) (by first | omega | decide) (by first | omega | decide)
set_option maxHeartbeats 2000000 in
theorem s_X7_forgetRule_77 {N K : Nat} {th : Int32} {f : Nat → Int32} {t : Nat → Int32} {p0 : Int32} {p1 : Int32} (hN : NBig N) (hK : 100 ≤ K)  {k_60 : Int32 → Int32 → Int32 → (Nat → Int32) → (Nat → Int32) → Option (Int32 × Int32 × (Nat → Int32) × (Nat → Int32))} {m_60 : Nat} (hk_60 : ∀ (l3 : Int32) (l4 : Int32) (th_ : Int32) (f_ : (Nat → Int32)) (t_ : (Nat → Int32)), (21 - l4.toInt).toNat < m_60 → 0 ≤ p0.toInt → p0.toInt ≤ 2 → 0 ≤ p1.toInt → p1.toInt ≤ 20 → 1 ≤ l4.toInt → l4.toInt ≤ 21 → 0 ≤ th_.toInt → th_.toInt ≤ 2 → Sf (k_60 l3 l4 th_ f_ t_) (fun (z : Int32 × Int32 × (Nat → Int32) × (Nat → Int32)) => 0 ≤ z.2.1.toInt ∧ z.2.1.toInt ≤ 2 ∧ True)) : ∀ (l3 : Int32) (l4 : Int32) (th_ : Int32) (f_ : Nat → Int32) (t_ : Nat → Int32), 0 ≤ p0.toInt → p0.toInt ≤ 2 → 0 ≤ p1.toInt → p1.toInt ≤ 20 → 1 ≤ l4.toInt → l4.toInt ≤ 20 → 0 ≤ th_.toInt → th_.toInt ≤ 2 → (21 - l4.toInt).toNat ≤ m_60 → Sf (fX7_forgetRule_77 N K th f t p0 p1 k_60 l3 l4 th_ f_ t_) (fun (z : Int32 × Int32 × (Nat → Int32) × (Nat → Int32)) => 0 ≤ z.2.1.toInt ∧ z.2.1.toInt ≤ 2 ∧ True) := by
  intro l3 l4 th_ f_ t_ hq0 hq1 hq2 hq3 hq4 hq5 hq6 hq7 hq8
  unfold fX7_forgetRule_77
  have ql0 : (0 : Int32).toInt = 0 := by decide
  refine sIfF (noob (by omega) (by omega)) ?_
  refine sIfF (noob (by omega) (by omega)) ?_
  exact s_X7_forgetRule_87 (hk_60 := hk_60) hN hK _ _ _ _ _ (by first | omega | decide) (by first | omega | decide) (by first | omega | decide) (by first | omega | decide) (by first | omega | decide) (by first | omega | decide) (by first | omega | decide) (by first | omega | decide) (by omega)
set_option maxHeartbeats 2000000 in
theorem s_X7_forgetRule_60 {N K : Nat} {th : Int32} {f : Nat → Int32} {t : Nat → Int32} {p0 : Int32} {p1 : Int32} (hN : NBig N) (hK : 100 ≤ K)  : ∀ (fu : Nat) (l3 : Int32) (l4 : Int32) (th_ : Int32) (f_ : (Nat → Int32)) (t_ : (Nat → Int32)), (21 - l4.toInt).toNat < fu → 0 ≤ p0.toInt → p0.toInt ≤ 2 → 0 ≤ p1.toInt → p1.toInt ≤ 20 → 1 ≤ l4.toInt → l4.toInt ≤ 21 → 0 ≤ th_.toInt → th_.toInt ≤ 2 → Sf (fX7_forgetRule_60 N K th f t p0 p1  fu l3 l4 th_ f_ t_) (fun (z : Int32 × Int32 × (Nat → Int32) × (Nat → Int32)) => 0 ≤ z.2.1.toInt ∧ z.2.1.toInt ≤ 2 ∧ True) := by
  intro fu
  induction fu with
  | zero => intro l3 l4 th_ f_ t_ h0 hq0 hq1 hq2 hq3 hq4 hq5 hq6 hq7; omega
  | succ fu ih =>
    intro l3 l4 th_ f_ t_ h0 hq0 hq1 hq2 hq3 hq4 hq5 hq6 hq7
    unfold fX7_forgetRule_60
    have ql0 : (0 : Int32).toInt = 0 := by decide
    have ql20 : (20 : Int32).toInt = 20 := by decide
    refine sIf (fun h1 => ?_) (fun h1 => ?_)
    · have fh1 := ltT h1
      refine sBind (s_X7_done hN hK (by first | omega | decide) (by first | omega | decide)) (fun x95 b2 => ?_)
      exact sRet ⟨(by show 0 ≤ th_.toInt; first | omega | assumption), (by show th_.toInt ≤ 2; first | omega | assumption), trivial⟩
    · have fh1 := ltF h1
      refine sIf (fun h3 => ?_) (fun h3 => ?_)
      · have fh3 := eqT h3
        exact s_X7_forgetRule_77 (hk_60 := ih) hN hK _ _ _ _ _ (by first | omega | decide) (by first | omega | decide) (by first | omega | decide) (by first | omega | decide) (by first | omega | decide) (by first | omega | decide) (by first | omega | decide) (by first | omega | decide) (by omega)
      · have fh3 := eqF h3
        refine sIf (fun h4 => ?_) (fun h4 => ?_)
        · have fh4 := eqT h4
          exact s_X7_forgetRule_77 (hk_60 := ih) hN hK _ _ _ _ _ (by first | omega | decide) (by first | omega | decide) (by first | omega | decide) (by first | omega | decide) (by first | omega | decide) (by first | omega | decide) (by first | omega | decide) (by first | omega | decide) (by omega)
        · have fh4 := eqF h4
          exact s_X7_forgetRule_87 (hk_60 := ih) hN hK _ _ _ _ _ (by first | omega | decide) (by first | omega | decide) (by first | omega | decide) (by first | omega | decide) (by first | omega | decide) (by first | omega | decide) (by first | omega | decide) (by first | omega | decide) (by omega)
set_option maxHeartbeats 2000000 in
theorem s_X7_forgetRule_57 {N K : Nat} {th : Int32} {f : Nat → Int32} {t : Nat → Int32} {p0 : Int32} {p1 : Int32} (hN : NBig N) (hK : 100 ≤ K)  : ∀ (l3 : Int32) (th_ : Int32) (f_ : Nat → Int32) (t_ : Nat → Int32), 0 ≤ p0.toInt → p0.toInt ≤ 2 → 0 ≤ p1.toInt → p1.toInt ≤ 20 → 0 ≤ th_.toInt → th_.toInt ≤ 2 → Sf (fX7_forgetRule_57 N K th f t p0 p1  l3 th_ f_ t_) (fun (z : Int32 × Int32 × (Nat → Int32) × (Nat → Int32)) => 0 ≤ z.2.1.toInt ∧ z.2.1.toInt ≤ 2 ∧ True) := by
  intro l3 th_ f_ t_ hq0 hq1 hq2 hq3 hq4 hq5
  unfold fX7_forgetRule_57
  have hN9 := hN.u
  have ql0 : (0 : Int32).toInt = 0 := by decide
  have ql1 : (1 : Int32).toInt = 1 := by decide
  exact s_X7_forgetRule_60  hN hK _ _ _ _ _ _ (by omega) (by first | omega | decide) (by first | omega | decide) (by first | omega | decide) (by first | omega | decide) (by first | omega | decide) (by first | omega | decide) (by first | omega | decide) (by first | omega | decide)
set_option maxHeartbeats 2000000 in
theorem s_X7_forgetRule_43 {N K : Nat} {th : Int32} {f : Nat → Int32} {t : Nat → Int32} {p0 : Int32} {p1 : Int32} (hN : NBig N) (hK : 100 ≤ K)  : ∀ (s0 : Int32) (th_ : Int32) (f_ : Nat → Int32) (t_ : Nat → Int32), 0 ≤ p0.toInt → p0.toInt ≤ 2 → 0 ≤ p1.toInt → p1.toInt ≤ 20 → 0 ≤ th_.toInt → th_.toInt ≤ 2 → (s0.toInt = 0 → 0 ≤ p0.toInt ∧ p0.toInt ≤ 2 ∧ 0 ≤ p1.toInt ∧ p1.toInt ≤ 20) → Sf (fX7_forgetRule_43 N K th f t p0 p1  s0 th_ f_ t_) (fun (z : Int32 × Int32 × (Nat → Int32) × (Nat → Int32)) => 0 ≤ z.2.1.toInt ∧ z.2.1.toInt ≤ 2 ∧ True) := by
  intro s0 th_ f_ t_ hq0 hq1 hq2 hq3 hq4 hq5 hq6
  unfold fX7_forgetRule_43
  have ql0 : (0 : Int32).toInt = 0 := by decide
  refine sIf (fun h1 => ?_) (fun h1 => ?_)
  · have fh1 := leT h1
    exact s_X7_forgetRule_57  hN hK _ _ _ _ (by first | omega | decide) (by first | omega | decide) (by first | omega | decide) (by first | omega | decide) (by first | omega | decide) (by first | omega | decide)
  · have fh1 := leF h1
    refine sIf (fun h2 => ?_) (fun h2 => ?_)
    · have fh2 := eqT h2
      refine sBind (s_X7_refused hN hK (by first | omega | decide) (by first | omega | decide)) (fun x53 b3 => ?_)
      obtain ⟨b3_0, b3_1, -⟩ := b3
      replace b3_0 : -9 ≤ x53.1.toInt := b3_0
      replace b3_1 : x53.1.toInt ≤ -9 := b3_1
      exact sRet ⟨(by show 0 ≤ th_.toInt; first | omega | assumption), (by show th_.toInt ≤ 2; first | omega | assumption), trivial⟩
    · have fh2 := eqF h2
      exact s_X7_forgetRule_57  hN hK _ _ _ _ (by first | omega | decide) (by first | omega | decide) (by first | omega | decide) (by first | omega | decide) (by first | omega | decide) (by first | omega | decide)
set_option maxHeartbeats 2000000 in
theorem s_X7_forgetRule {N K : Nat} {th : Int32} {f : Nat → Int32} {t : Nat → Int32} {p0 : Int32} {p1 : Int32} (hN : NBig N) (hK : 100 ≤ K)  : Sf (fX7_forgetRule N K th f t p0 p1) (fun (z : Int32 × Int32 × (Nat → Int32) × (Nat → Int32)) => 0 ≤ z.2.1.toInt ∧ z.2.1.toInt ≤ 2 ∧ True) := by
  unfold fX7_forgetRule
  have ql0 : (0 : Int32).toInt = 0 := by decide
  have ql2 : (2 : Int32).toInt = 2 := by decide
  have ql20 : (20 : Int32).toInt = 20 := by decide
  refine sBind (s_X7_isNo hN hK (by first | omega | decide) (by first | omega | decide) (by first | omega | decide) (by first | omega | decide)) (fun x4 b1 => ?_)
  obtain ⟨b1_0, b1_1, b1_2, -⟩ := b1
  replace b1_0 : 0 ≤ x4.toInt := b1_0
  replace b1_1 : x4.toInt ≤ 1 := b1_1
  replace b1_2 : (x4.toInt = 0 → ((0 : Int32).toInt ≤ p0.toInt ∧ p0.toInt ≤ (2 : Int32).toInt)) := b1_2
  refine sBind (s_X7_isNo hN hK (by first | omega | decide) (by first | omega | decide) (by first | omega | decide) (by first | omega | decide)) (fun x11 b2 => ?_)
  obtain ⟨b2_0, b2_1, b2_2, -⟩ := b2
  replace b2_0 : 0 ≤ x11.toInt := b2_0
  replace b2_1 : x11.toInt ≤ 1 := b2_1
  replace b2_2 : (x11.toInt = 0 → ((0 : Int32).toInt ≤ p1.toInt ∧ p1.toInt ≤ (20 : Int32).toInt)) := b2_2
  refine sBind (s_X7_isThrown hN hK (by first | omega | decide) (by first | omega | decide) (by first | omega | decide) (by first | omega | decide)) (fun x14 b3 => ?_)
  obtain ⟨b3_0, b3_1, b3_2, b3_3, b3_4, b3_5, -⟩ := b3
  replace b3_0 : 0 ≤ x14.1.toInt := b3_0
  replace b3_1 : x14.1.toInt ≤ 1 := b3_1
  replace b3_2 : 0 ≤ x14.2.toInt := b3_2
  replace b3_3 : x14.2.toInt ≤ 2 := b3_3
  replace b3_4 : (x14.1.toInt = 0 → (0 ≤ x4.toInt ∧ x4.toInt ≤ 0)) := b3_4
  replace b3_5 : (x14.1.toInt = 0 → (0 ≤ x11.toInt ∧ x11.toInt ≤ 0)) := b3_5
  refine sIf (fun h4 => ?_) (fun h4 => ?_)
  · have fh4 := eqT h4
    refine sIf (fun h5 => ?_) (fun h5 => ?_)
    · have fh5 := eqT h5
      refine sBind (s_X7_ledgerTold hN hK (by first | omega | decide) (by first | omega | decide) (by first | omega | decide) (by first | omega | decide) (by first | omega | decide) (by first | omega | decide)) (fun x29 b6 => ?_)
      exact s_X7_forgetRule_43  hN hK _ _ _ _ (by first | omega | decide) (by first | omega | decide) (by first | omega | decide) (by first | omega | decide) (by first | omega | decide) (by first | omega | decide) (by first | omega | decide)
    · have fh5 := eqF h5
      refine sIfF (noob (by omega) (by omega)) ?_
      refine sIfF (noob (by omega) (by omega)) ?_
      exact s_X7_forgetRule_43  hN hK _ _ _ _ (by first | omega | decide) (by first | omega | decide) (by first | omega | decide) (by first | omega | decide) (by first | omega | decide) (by first | omega | decide) (by first | omega | decide)
  · have fh4 := eqF h4
    exact sRet ⟨(by show 0 ≤ x14.2.toInt; first | omega | assumption), (by show x14.2.toInt ≤ 2; first | omega | assumption), trivial⟩
set_option maxHeartbeats 2000000 in
theorem s_X7_ledger {N K : Nat} {th : Int32} {f : Nat → Int32} {p0 : Int32} {p1 : Int32} (hN : NBig N) (hK : 100 ≤ K)  : Sf (fX7_ledger N K th f p0 p1) (fun (z : Int32 × Int32) => 0 ≤ z.2.toInt ∧ z.2.toInt ≤ 2 ∧ True) := by
  unfold fX7_ledger
  have ql0 : (0 : Int32).toInt = 0 := by decide
  have ql1 : (1 : Int32).toInt = 1 := by decide
  have ql2 : (2 : Int32).toInt = 2 := by decide
  refine sBind (s_X7_isNo hN hK (by first | omega | decide) (by first | omega | decide) (by first | omega | decide) (by first | omega | decide)) (fun x4 b1 => ?_)
  obtain ⟨b1_0, b1_1, b1_2, -⟩ := b1
  replace b1_0 : 0 ≤ x4.toInt := b1_0
  replace b1_1 : x4.toInt ≤ 1 := b1_1
  replace b1_2 : (x4.toInt = 0 → ((0 : Int32).toInt ≤ p0.toInt ∧ p0.toInt ≤ (2 : Int32).toInt)) := b1_2
  refine sBind (s_X7_isNo hN hK (by first | omega | decide) (by first | omega | decide) (by first | omega | decide) (by first | omega | decide)) (fun x10 b2 => ?_)
  obtain ⟨b2_0, b2_1, b2_2, -⟩ := b2
  replace b2_0 : 0 ≤ x10.toInt := b2_0
  replace b2_1 : x10.toInt ≤ 1 := b2_1
  replace b2_2 : (x10.toInt = 0 → ((0 : Int32).toInt ≤ p1.toInt ∧ p1.toInt ≤ (1 : Int32).toInt)) := b2_2
  refine sBind (s_X7_isThrown hN hK (by first | omega | decide) (by first | omega | decide) (by first | omega | decide) (by first | omega | decide)) (fun x13 b3 => ?_)
  obtain ⟨b3_0, b3_1, b3_2, b3_3, b3_4, b3_5, -⟩ := b3
  replace b3_0 : 0 ≤ x13.1.toInt := b3_0
  replace b3_1 : x13.1.toInt ≤ 1 := b3_1
  replace b3_2 : 0 ≤ x13.2.toInt := b3_2
  replace b3_3 : x13.2.toInt ≤ 2 := b3_3
  replace b3_4 : (x13.1.toInt = 0 → (0 ≤ x4.toInt ∧ x4.toInt ≤ 0)) := b3_4
  replace b3_5 : (x13.1.toInt = 0 → (0 ≤ x10.toInt ∧ x10.toInt ≤ 0)) := b3_5
  refine sIf (fun h4 => ?_) (fun h4 => ?_)
  · have fh4 := eqT h4
    refine sBind (s_X7_ledgerTold hN hK (by first | omega | decide) (by first | omega | decide) (by first | omega | decide) (by first | omega | decide) (by first | omega | decide) (by first | omega | decide)) (fun x26 b5 => ?_)
    exact sRet ⟨(by show 0 ≤ x13.2.toInt; first | omega | assumption), (by show x13.2.toInt ≤ 2; first | omega | assumption), trivial⟩
  · have fh4 := eqF h4
    exact sRet ⟨(by show 0 ≤ x13.2.toInt; first | omega | assumption), (by show x13.2.toInt ≤ 2; first | omega | assumption), trivial⟩
set_option maxHeartbeats 2000000 in
theorem s_X7_ruleWorth_31 {N K : Nat} {th : Int32} {f : Nat → Int32} {p0 : Int32} {p1 : Int32} {p2 : Int32} (hN : NBig N) (hK : 100 ≤ K)  : ∀ (s0 : Int32) (s1 : Int32) (th_ : Int32), 0 ≤ s0.toInt → s0.toInt ≤ 1 → 0 ≤ s1.toInt → s1.toInt ≤ 1 → (s0.toInt = 0 → 0 ≤ p1.toInt ∧ p1.toInt ≤ 20 ∧ 0 ≤ p2.toInt ∧ p2.toInt ≤ 1) → (s1.toInt = 0 → 0 ≤ p0.toInt ∧ p0.toInt ≤ 2) → Sf (fX7_ruleWorth_31 N K th f p0 p1 p2  s0 s1 th_) (fun (z : Int32 × Int32) => 0 ≤ z.2.toInt ∧ z.2.toInt ≤ 2 ∧ True) := by
  intro s0 s1 th_ hq0 hq1 hq2 hq3 hq4 hq5
  unfold fX7_ruleWorth_31
  have ql0 : (0 : Int32).toInt = 0 := by decide
  refine sBind (s_X7_isThrown hN hK (by first | omega | decide) (by first | omega | decide) (by first | omega | decide) (by first | omega | decide)) (fun x31 b1 => ?_)
  obtain ⟨b1_0, b1_1, b1_2, b1_3, b1_4, b1_5, -⟩ := b1
  replace b1_0 : 0 ≤ x31.1.toInt := b1_0
  replace b1_1 : x31.1.toInt ≤ 1 := b1_1
  replace b1_2 : 0 ≤ x31.2.toInt := b1_2
  replace b1_3 : x31.2.toInt ≤ 2 := b1_3
  replace b1_4 : (x31.1.toInt = 0 → (0 ≤ s1.toInt ∧ s1.toInt ≤ 0)) := b1_4
  replace b1_5 : (x31.1.toInt = 0 → (0 ≤ s0.toInt ∧ s0.toInt ≤ 0)) := b1_5
  refine sIf (fun h2 => ?_) (fun h2 => ?_)
  · have fh2 := eqT h2
    refine sIf (fun h3 => ?_) (fun h3 => ?_)
    · have fh3 := eqT h3
      exact sRet ⟨(by show 0 ≤ x31.2.toInt; first | omega | assumption), (by show x31.2.toInt ≤ 2; first | omega | assumption), trivial⟩
    · have fh3 := eqF h3
      refine sIfF (noob (by omega) (by omega)) ?_
      refine sIfF (noob (by omega) (by omega)) ?_
      refine sIf (fun h4 => ?_) (fun h4 => ?_)
      · have fh4 := eqT h4
        exact sRet ⟨(by show 0 ≤ x31.2.toInt; first | omega | assumption), (by show x31.2.toInt ≤ 2; first | omega | assumption), trivial⟩
      · have fh4 := eqF h4
        refine sIfF (noob (by omega) (by omega)) ?_
        refine sIfF (noob (by omega) (by omega)) ?_
        exact sRet ⟨(by show 0 ≤ x31.2.toInt; first | omega | assumption), (by show x31.2.toInt ≤ 2; first | omega | assumption), trivial⟩
  · have fh2 := eqF h2
    exact sRet ⟨(by show 0 ≤ x31.2.toInt; first | omega | assumption), (by show x31.2.toInt ≤ 2; first | omega | assumption), trivial⟩
set_option maxHeartbeats 2000000 in
theorem s_X7_ruleWorth_26 {N K : Nat} {th : Int32} {f : Nat → Int32} {p0 : Int32} {p1 : Int32} {p2 : Int32} (hN : NBig N) (hK : 100 ≤ K)  : ∀ (s0 : Int32) (th_ : Int32), 0 ≤ s0.toInt → s0.toInt ≤ 1 → (s0.toInt = 0 → 0 ≤ p0.toInt ∧ p0.toInt ≤ 2) → Sf (fX7_ruleWorth_26 N K th f p0 p1 p2  s0 th_) (fun (z : Int32 × Int32) => 0 ≤ z.2.toInt ∧ z.2.toInt ≤ 2 ∧ True) := by
  intro s0 th_ hq0 hq1 hq2
  unfold fX7_ruleWorth_26
  have ql0 : (0 : Int32).toInt = 0 := by decide
  have ql1 : (1 : Int32).toInt = 1 := by decide
  exact s_X7_ruleWorth_31  hN hK _ _ _ (by first | omega | decide) (by first | omega | decide) (by first | omega | decide) (by first | omega | decide) (by first | omega | decide) (by first | omega | decide)
set_option maxHeartbeats 2000000 in
theorem s_X7_ruleWorth {N K : Nat} {th : Int32} {f : Nat → Int32} {p0 : Int32} {p1 : Int32} {p2 : Int32} (hN : NBig N) (hK : 100 ≤ K)  : Sf (fX7_ruleWorth N K th f p0 p1 p2) (fun (z : Int32 × Int32) => 0 ≤ z.2.toInt ∧ z.2.toInt ≤ 2 ∧ True) := by
  unfold fX7_ruleWorth
  have ql0 : (0 : Int32).toInt = 0 := by decide
  have ql1 : (1 : Int32).toInt = 1 := by decide
  have ql2 : (2 : Int32).toInt = 2 := by decide
  have ql20 : (20 : Int32).toInt = 20 := by decide
  refine sBind (s_X7_isNo hN hK (by first | omega | decide) (by first | omega | decide) (by first | omega | decide) (by first | omega | decide)) (fun x4 b1 => ?_)
  obtain ⟨b1_0, b1_1, b1_2, -⟩ := b1
  replace b1_0 : 0 ≤ x4.toInt := b1_0
  replace b1_1 : x4.toInt ≤ 1 := b1_1
  replace b1_2 : (x4.toInt = 0 → ((0 : Int32).toInt ≤ p0.toInt ∧ p0.toInt ≤ (2 : Int32).toInt)) := b1_2
  refine sBind (s_X7_isNo hN hK (by first | omega | decide) (by first | omega | decide) (by first | omega | decide) (by first | omega | decide)) (fun x11 b2 => ?_)
  obtain ⟨b2_0, b2_1, b2_2, -⟩ := b2
  replace b2_0 : 0 ≤ x11.toInt := b2_0
  replace b2_1 : x11.toInt ≤ 1 := b2_1
  replace b2_2 : (x11.toInt = 0 → ((0 : Int32).toInt ≤ p1.toInt ∧ p1.toInt ≤ (20 : Int32).toInt)) := b2_2
  refine sIf (fun h3 => ?_) (fun h3 => ?_)
  · have fh3 := eqT h3
    refine sBind (s_X7_isNo hN hK (by first | omega | decide) (by first | omega | decide) (by first | omega | decide) (by first | omega | decide)) (fun x20 b4 => ?_)
    obtain ⟨b4_0, b4_1, b4_2, -⟩ := b4
    replace b4_0 : 0 ≤ x20.toInt := b4_0
    replace b4_1 : x20.toInt ≤ 1 := b4_1
    replace b4_2 : (x20.toInt = 0 → ((0 : Int32).toInt ≤ p2.toInt ∧ p2.toInt ≤ (1 : Int32).toInt)) := b4_2
    refine sIf (fun h5 => ?_) (fun h5 => ?_)
    · have fh5 := eqT h5
      exact s_X7_ruleWorth_31  hN hK _ _ _ (by first | omega | decide) (by first | omega | decide) (by first | omega | decide) (by first | omega | decide) (by first | omega | decide) (by first | omega | decide)
    · have fh5 := eqF h5
      exact s_X7_ruleWorth_26  hN hK _ _ (by first | omega | decide) (by first | omega | decide) (by first | omega | decide)
  · have fh3 := eqF h3
    exact s_X7_ruleWorth_26  hN hK _ _ (by first | omega | decide) (by first | omega | decide) (by first | omega | decide)
theorem s_X7_addPart_32 {N K : Nat} {th : Int32} {f : Nat → Int32} {t : Nat → Int32} {p0 : Int32} {p1 : Int32} {p2 : Int32} (hN : NBig N) (hK : 100 ≤ K) (hp0 : OkD f) {s0 s1 : Int32} (hs0 : 0 ≤ s0.toInt) (hs1 : s0.toInt ≤ 1) (hs2 : 0 ≤ s1.toInt) (hs3 : s1.toInt ≤ 1) (hk : s0.toInt = 0 → s1.toInt = 0 → (0 ≤ p0.toInt ∧ p0.toInt ≤ 1) ∧ (1 ≤ p1.toInt ∧ p1.toInt ≤ 20) ∧ (1 ≤ p2.toInt ∧ p2.toInt ≤ 20)) : Sf (fX7_addPart_32 N K th f t p0 p1 p2 s0 s1 th f t) (fun (z : Int32 × Int32 × (Nat → Int32) × (Nat → Int32)) => 0 ≤ z.2.1.toInt ∧ z.2.1.toInt ≤ 2 ∧ OkD z.2.2.1 ∧ True) := by
  have hN9 := hN.u
  have q0 : (0 : Int32).toInt = 0 := by decide
  obtain ⟨w, hw⟩ := hp0
  unfold fX7_addPart_32
  refine sBind (s_X7_isThrown hN hK (by omega) (by omega) (by omega) (by omega)) (fun x32 q32 => ?_)
  obtain ⟨i1, i2, i3, i4, i5, i6, -⟩ := q32
  refine sIf (fun h => ?_) (fun _ => sRet ⟨i3, i4, ⟨w, hw⟩, trivial⟩)
  have h0 := congrArg Int32.toInt h
  rw [q0] at h0
  obtain ⟨⟨a1, a2⟩, ⟨b1, b2⟩, c1, c2⟩ := hk (by have := i6 h0; omega) (by have := i5 h0; omega)
  refine sIfF (noob (by omega) (by omega)) ?_
  obtain ⟨m, rfl, m1, m2⟩ := o_of (p := p1) (a := 1) (b := 20) (by omega) (by omega)
  obtain ⟨n, rfl, n1, n2⟩ := o_of (p := p2) (a := 1) (b := 20) (by omega) (by omega)
  have hmn := Nat.mul_le_mul m2 n2
  have hwn := hw.1
  rw [m_sum (by omega) hw.2, Option.bind_some, o_mul, o_add, show (20 : Int32) = Int32.ofNat 20 from rfl]
  refine sIf (fun h => ?_) (fun _ => ?_)
  · rw [o_le (by omega) (by omega)] at h
    refine sIfF (noob (by omega) (by omega)) (sIfF (o_ob (by omega) (by omega)) (sIfF (o_ob (by omega) (by omega)) (sIfF (noob (by omega) (by omega)) (sIfF (o_ob (by omega) (by omega)) ?_))))
    refine sBind (s_X7_done hN hK i3 i4) (fun _ _ => sRet ⟨i3, i4, ?_, trivial⟩)
    rw [o_c (by omega), hw.2 m m1 m2, o_add]
    have e3 := wn_upm (w := w) (p := m) (v := w m + n) m1 m2
    rw [Nat.mul_add] at e3
    exact ⟨_, by omega, hw.2.put (p := m) (t := w m + n)⟩
  · exact sBind (s_X7_refused hN hK i3 i4) (fun _ _ => sRet ⟨i3, i4, ⟨w, hw⟩, trivial⟩)
theorem s_X7_addPart {N K : Nat} {th : Int32} {f : Nat → Int32} {t : Nat → Int32} {p0 : Int32} {p1 : Int32} {p2 : Int32} (hN : NBig N) (hK : 100 ≤ K) (hp0 : OkD f) : Sf (fX7_addPart N K th f t p0 p1 p2) (fun (z : Int32 × Int32 × (Nat → Int32) × (Nat → Int32)) => 0 ≤ z.2.1.toInt ∧ z.2.1.toInt ≤ 2 ∧ OkD z.2.2.1 ∧ True) := by
  have q0 : (0 : Int32).toInt = 0 := by decide
  have q1 : (1 : Int32).toInt = 1 := by decide
  have q20 : (20 : Int32).toInt = 20 := by decide
  unfold fX7_addPart
  refine sBind (s_X7_isNo hN hK (by omega) (by omega) (by omega) (by omega)) (fun x4 y4 => ?_)
  refine sBind (s_X7_isNo hN hK (by omega) (by omega) (by omega) (by omega)) (fun x11 y11 => ?_)
  obtain ⟨a1, a2, a3, -⟩ := y4
  obtain ⟨b1, b2, b3, -⟩ := y11
  refine sIf (fun h11 => ?_) (fun _ => ?_)
  · have h11 := congrArg Int32.toInt h11
    rw [q0] at h11
    refine sBind (s_X7_isNo hN hK (by omega) (by omega) (by omega) (by omega)) (fun x21 y21 => ?_)
    obtain ⟨d1, d2, d3, -⟩ := y21
    refine sIf (fun h21 => ?_) (fun _ => ?_)
    · have h21 := congrArg Int32.toInt h21
      rw [q0] at h21
      exact s_X7_addPart_32 hN hK hp0 (by omega) (by omega) (by omega) (by omega) (fun _ z => by
        have u1 := a3 z
        have u2 := b3 h11
        have u3 := d3 h21
        omega)
    · unfold fX7_addPart_27
      exact s_X7_addPart_32 hN hK hp0 (by omega) (by omega) (by omega) (by omega) (fun z _ => by omega)
  · unfold fX7_addPart_27
    exact s_X7_addPart_32 hN hK hp0 (by omega) (by omega) (by omega) (by omega) (fun z _ => by omega)

theorem s_X7_takePart {N K : Nat} {th : Int32} {f : Nat → Int32} {t : Nat → Int32} {p0 : Int32} {p1 : Int32} (hN : NBig N) (hK : 100 ≤ K) (hp0 : OkD f) : Sf (fX7_takePart N K th f t p0 p1) (fun (z : Int32 × Int32 × (Nat → Int32) × (Nat → Int32)) => 0 ≤ z.2.1.toInt ∧ z.2.1.toInt ≤ 2 ∧ OkD z.2.2.1 ∧ True) := by
  have hN9 := hN.u
  have q0 : (0 : Int32).toInt = 0 := by decide
  have q1 : (1 : Int32).toInt = 1 := by decide
  have q20 : (20 : Int32).toInt = 20 := by decide
  obtain ⟨w, hw⟩ := hp0
  unfold fX7_takePart
  refine sBind (s_X7_isNo hN hK (by omega) (by omega) (by omega) (by omega)) (fun x4 y4 => ?_)
  refine sBind (s_X7_isNo hN hK (by omega) (by omega) (by omega) (by omega)) (fun x11 y11 => ?_)
  obtain ⟨a1, a2, a3, -⟩ := y4
  obtain ⟨b1, b2, b3, -⟩ := y11
  refine sBind (s_X7_isThrown hN hK (by omega) (by omega) (by omega) (by omega)) (fun x14 y14 => ?_)
  obtain ⟨i1, i2, i3, i4, i5, i6, -⟩ := y14
  refine sIf (fun h => ?_) (fun _ => sRet ⟨i3, i4, ⟨w, hw⟩, trivial⟩)
  have h0 := congrArg Int32.toInt h
  rw [q0] at h0
  have u1 := a3 (by have := i5 h0; omega)
  have u2 := b3 (by have := i6 h0; omega)
  obtain ⟨m, rfl, m1, m2⟩ := o_of (p := p1) (a := 1) (b := 20) (by omega) (by omega)
  have hwm := wn_le1 (w := w) m1 m2
  have hwn := hw.1
  refine sIfF (noob (by omega) (by omega)) (sIfF (o_ob (by omega) (by omega)) ?_)
  rw [o_c (by omega), hw.2 m m1 m2]
  refine sIf (fun _ => ?_) (fun h => ?_)
  · exact sBind (s_X7_refused hN hK i3 i4) (fun _ _ => sRet ⟨i3, i4, ⟨w, hw⟩, trivial⟩)
  · rw [show (0 : Int32) = Int32.ofNat 0 from rfl, o_eq (by omega) (by omega)] at h
    obtain ⟨v, hv⟩ : ∃ v, w m = v + 1 := ⟨w m - 1, by omega⟩
    refine sIfF (noob (by omega) (by omega)) (sIfF (o_ob2 (a := m) (n := 21) (by omega) (by omega)) (sIfF (o_ob2 (a := m) (n := 21) (by omega) (by omega)) (sIfF (noob (by omega) (by omega)) (sIfF (o_ob2 (a := m) (n := 21) (by omega) (by omega)) ?_))))
    refine sBind (s_X7_done hN hK i3 i4) (fun _ _ => sRet ⟨i3, i4, ?_, trivial⟩)
    have e3 := wn_take (w := w) m1 m2 (by omega)
    have e4 := hw.2.put (p := m) (t := w m - 1)
    rw [hv, show v + 1 - 1 = v from by omega] at e3 e4
    rw [hv, o_s1]
    exact ⟨_, by omega, e4⟩

