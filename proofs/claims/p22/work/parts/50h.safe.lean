set_option maxHeartbeats 2000000 in
theorem s_X7_relearn {N K : Nat} {th : Int32} {f : Nat → Int32} {t : Nat → Int32} {p0 : Int32} {p1 : Int32} {p2 : Int32} {p3 : Int32} (hN : NBig N) (hK : 100 ≤ K)  : Sf (fX7_relearn N K th f t p0 p1 p2 p3) (fun (z : Int32 × Int32 × (Nat → Int32) × (Nat → Int32)) => 0 ≤ z.2.1.toInt ∧ z.2.1.toInt ≤ 2 ∧ True) := by
  unfold fX7_relearn
  have ql0 : (0 : Int32).toInt = 0 := by decide
  have ql2 : (2 : Int32).toInt = 2 := by decide
  refine sBind (s_X7_isNo hN hK (by first | omega | decide) (by first | omega | decide) (by first | omega | decide) (by first | omega | decide)) (fun x4 b1 => ?_)
  obtain ⟨b1_0, b1_1, b1_2, -⟩ := b1
  replace b1_0 : 0 ≤ x4.toInt := b1_0
  replace b1_1 : x4.toInt ≤ 1 := b1_1
  replace b1_2 : (x4.toInt = 0 → ((0 : Int32).toInt ≤ p0.toInt ∧ p0.toInt ≤ (2 : Int32).toInt)) := b1_2
  refine sBind (s_X7_isOut hN hK) (fun x11 b2 => ?_)
  obtain ⟨b2_0, b2_1, b2_2, b2_3, b2_4, -⟩ := b2
  replace b2_0 : 0 ≤ x11.toInt := b2_0
  replace b2_1 : x11.toInt ≤ 1 := b2_1
  replace b2_2 : (x11.toInt = 0 → (0 ≤ p1.toInt ∧ p1.toInt ≤ 5)) := b2_2
  replace b2_3 : (x11.toInt = 0 → (0 ≤ p2.toInt ∧ p2.toInt ≤ 20)) := b2_3
  replace b2_4 : (x11.toInt = 0 → (0 ≤ p3.toInt ∧ p3.toInt ≤ 20)) := b2_4
  refine sBind (s_X7_isThrown hN hK (by first | omega | decide) (by first | omega | decide) (by first | omega | decide) (by first | omega | decide)) (fun x14 b3 => ?_)
  obtain ⟨b3_0, b3_1, b3_2, b3_3, b3_4, b3_5, -⟩ := b3
  replace b3_0 : 0 ≤ x14.1.toInt := b3_0
  replace b3_1 : x14.1.toInt ≤ 1 := b3_1
  replace b3_2 : 0 ≤ x14.2.toInt := b3_2
  replace b3_3 : x14.2.toInt ≤ 2 := b3_3
  replace b3_4 : (x14.1.toInt = 0 → (0 ≤ x4.toInt ∧ x4.toInt ≤ 0)) := b3_4
  replace b3_5 : (x14.1.toInt = 0 → (0 ≤ x11.toInt ∧ x11.toInt ≤ 0)) := b3_5
  refine sIf (fun h4 => ?_) (fun h4 => ?_)
  · have fh4 := eqT h4
    refine sBind (s_X7_kept hN hK (by first | omega | decide) (by first | omega | decide) (by first | omega | decide) (by first | omega | decide) (by first | omega | decide) (by first | omega | decide) (by first | omega | decide) (by first | omega | decide) (by first | omega | decide) (by first | omega | decide)) (fun x28 b5 => ?_)
    refine sIf (fun h6 => ?_) (fun h6 => ?_)
    · have fh6 := leT h6
      refine sIfF (noob (by omega) (by omega)) ?_
      refine sBind (s_X7_code hN hK (by first | omega | decide) (by first | omega | decide) (by first | omega | decide) (by first | omega | decide) (by first | omega | decide) (by first | omega | decide)) (fun x49 b7 => ?_)
      obtain ⟨b7_0, b7_1, -⟩ := b7
      replace b7_0 : 0 ≤ x49.toInt := b7_0
      replace b7_1 : x49.toInt ≤ 5780 := b7_1
      refine sBind (s_X7_walked hN hK (by first | omega | decide) (by first | omega | decide) (by first | omega | decide) (by first | omega | decide) (by first | omega | decide) (by first | omega | decide)) (fun x56 b8 => ?_)
      refine sIfF (noob (by omega) (by omega)) ?_
      refine sBind (s_X7_kept hN hK (by first | omega | decide) (by first | omega | decide) (by first | omega | decide) (by first | omega | decide) (by first | omega | decide) (by first | omega | decide) (by first | omega | decide) (by first | omega | decide) (by first | omega | decide) (by first | omega | decide)) (fun x67 b9 => ?_)
      refine sBind (s_X7_done hN hK (by first | omega | decide) (by first | omega | decide)) (fun x70 b10 => ?_)
      exact sRet ⟨(by show 0 ≤ x14.2.toInt; first | omega | assumption), (by show x14.2.toInt ≤ 2; first | omega | assumption), trivial⟩
    · have fh6 := leF h6
      refine sBind (s_X7_refused hN hK (by first | omega | decide) (by first | omega | decide)) (fun x35 b11 => ?_)
      obtain ⟨b11_0, b11_1, -⟩ := b11
      replace b11_0 : -9 ≤ x35.1.toInt := b11_0
      replace b11_1 : x35.1.toInt ≤ -9 := b11_1
      exact sRet ⟨(by show 0 ≤ x14.2.toInt; first | omega | assumption), (by show x14.2.toInt ≤ 2; first | omega | assumption), trivial⟩
  · have fh4 := eqF h4
    exact sRet ⟨(by show 0 ≤ x14.2.toInt; first | omega | assumption), (by show x14.2.toInt ≤ 2; first | omega | assumption), trivial⟩
set_option maxHeartbeats 2000000 in
theorem s_X7_forget {N K : Nat} {th : Int32} {f : Nat → Int32} {t : Nat → Int32} {p0 : Int32} {p1 : Int32} {p2 : Int32} {p3 : Int32} (hN : NBig N) (hK : 100 ≤ K)  : Sf (fX7_forget N K th f t p0 p1 p2 p3) (fun (z : Int32 × Int32 × (Nat → Int32) × (Nat → Int32)) => 0 ≤ z.2.1.toInt ∧ z.2.1.toInt ≤ 2 ∧ True) := by
  unfold fX7_forget
  have ql0 : (0 : Int32).toInt = 0 := by decide
  have ql2 : (2 : Int32).toInt = 2 := by decide
  refine sBind (s_X7_isNo hN hK (by first | omega | decide) (by first | omega | decide) (by first | omega | decide) (by first | omega | decide)) (fun x4 b1 => ?_)
  obtain ⟨b1_0, b1_1, b1_2, -⟩ := b1
  replace b1_0 : 0 ≤ x4.toInt := b1_0
  replace b1_1 : x4.toInt ≤ 1 := b1_1
  replace b1_2 : (x4.toInt = 0 → ((0 : Int32).toInt ≤ p0.toInt ∧ p0.toInt ≤ (2 : Int32).toInt)) := b1_2
  refine sBind (s_X7_isOut hN hK) (fun x11 b2 => ?_)
  obtain ⟨b2_0, b2_1, b2_2, b2_3, b2_4, -⟩ := b2
  replace b2_0 : 0 ≤ x11.toInt := b2_0
  replace b2_1 : x11.toInt ≤ 1 := b2_1
  replace b2_2 : (x11.toInt = 0 → (0 ≤ p1.toInt ∧ p1.toInt ≤ 5)) := b2_2
  replace b2_3 : (x11.toInt = 0 → (0 ≤ p2.toInt ∧ p2.toInt ≤ 20)) := b2_3
  replace b2_4 : (x11.toInt = 0 → (0 ≤ p3.toInt ∧ p3.toInt ≤ 20)) := b2_4
  refine sBind (s_X7_isThrown hN hK (by first | omega | decide) (by first | omega | decide) (by first | omega | decide) (by first | omega | decide)) (fun x14 b3 => ?_)
  obtain ⟨b3_0, b3_1, b3_2, b3_3, b3_4, b3_5, -⟩ := b3
  replace b3_0 : 0 ≤ x14.1.toInt := b3_0
  replace b3_1 : x14.1.toInt ≤ 1 := b3_1
  replace b3_2 : 0 ≤ x14.2.toInt := b3_2
  replace b3_3 : x14.2.toInt ≤ 2 := b3_3
  replace b3_4 : (x14.1.toInt = 0 → (0 ≤ x4.toInt ∧ x4.toInt ≤ 0)) := b3_4
  replace b3_5 : (x14.1.toInt = 0 → (0 ≤ x11.toInt ∧ x11.toInt ≤ 0)) := b3_5
  refine sIf (fun h4 => ?_) (fun h4 => ?_)
  · have fh4 := eqT h4
    refine sBind (s_X7_kept hN hK (by first | omega | decide) (by first | omega | decide) (by first | omega | decide) (by first | omega | decide) (by first | omega | decide) (by first | omega | decide) (by first | omega | decide) (by first | omega | decide) (by first | omega | decide) (by first | omega | decide)) (fun x28 b5 => ?_)
    refine sIf (fun h6 => ?_) (fun h6 => ?_)
    · have fh6 := leT h6
      refine sIfF (noob (by omega) (by omega)) ?_
      refine sBind (s_X7_code hN hK (by first | omega | decide) (by first | omega | decide) (by first | omega | decide) (by first | omega | decide) (by first | omega | decide) (by first | omega | decide)) (fun x53 b7 => ?_)
      obtain ⟨b7_0, b7_1, -⟩ := b7
      replace b7_0 : 0 ≤ x53.toInt := b7_0
      replace b7_1 : x53.toInt ≤ 5780 := b7_1
      refine sIfF (noob (by omega) (by omega)) ?_
      refine sBind (s_X7_done hN hK (by first | omega | decide) (by first | omega | decide)) (fun x61 b8 => ?_)
      exact sRet ⟨(by show 0 ≤ x14.2.toInt; first | omega | assumption), (by show x14.2.toInt ≤ 2; first | omega | assumption), trivial⟩
    · have fh6 := leF h6
      refine sBind (s_X7_refused hN hK (by first | omega | decide) (by first | omega | decide)) (fun x39 b9 => ?_)
      obtain ⟨b9_0, b9_1, -⟩ := b9
      replace b9_0 : -9 ≤ x39.1.toInt := b9_0
      replace b9_1 : x39.1.toInt ≤ -9 := b9_1
      exact sRet ⟨(by show 0 ≤ x14.2.toInt; first | omega | assumption), (by show x14.2.toInt ≤ 2; first | omega | assumption), trivial⟩
  · have fh4 := eqF h4
    exact sRet ⟨(by show 0 ≤ x14.2.toInt; first | omega | assumption), (by show x14.2.toInt ≤ 2; first | omega | assumption), trivial⟩
set_option maxHeartbeats 2000000 in
theorem s_X7_forgetIf_72 {N K : Nat} {th : Int32} {f : Nat → Int32} {t : Nat → Int32} {p0 : Int32} {p1 : Int32} {p2 : Int32} {p3 : Int32} {p4 : Int32} (hN : NBig N) (hK : 100 ≤ K)  : ∀ (l7 : Int32) (th_ : Int32) (f_ : Nat → Int32) (t_ : Nat → Int32), 0 ≤ p0.toInt → p0.toInt ≤ 2 → 0 ≤ p1.toInt → p1.toInt ≤ 5 → 0 ≤ p2.toInt → p2.toInt ≤ 20 → 0 ≤ p3.toInt → p3.toInt ≤ 20 → 0 ≤ l7.toInt → l7.toInt ≤ 1 → 0 ≤ th_.toInt → th_.toInt ≤ 2 → Sf (fX7_forgetIf_72 N K th f t p0 p1 p2 p3 p4  l7 th_ f_ t_) (fun (z : Int32 × Int32 × (Nat → Int32) × (Nat → Int32)) => 0 ≤ z.2.1.toInt ∧ z.2.1.toInt ≤ 2 ∧ True) := by
  intro l7 th_ f_ t_ hq0 hq1 hq2 hq3 hq4 hq5 hq6 hq7 hq8 hq9 hq10 hq11
  unfold fX7_forgetIf_72
  have ql0 : (0 : Int32).toInt = 0 := by decide
  refine sBind (s_X7_bit hN hK (by first | omega | decide) (by first | omega | decide)) (fun x75 b1 => ?_)
  obtain ⟨b1_0, b1_1, -⟩ := b1
  replace b1_0 : 0 ≤ x75.toInt := b1_0
  replace b1_1 : x75.toInt ≤ 1 := b1_1
  refine sBind (s_X7_done hN hK (by first | omega | decide) (by first | omega | decide)) (fun x78 b2 => ?_)
  exact sRet ⟨(by show 0 ≤ th_.toInt; first | omega | assumption), (by show th_.toInt ≤ 2; first | omega | assumption), trivial⟩
set_option maxHeartbeats 2000000 in
theorem s_X7_forgetIf_50 {N K : Nat} {th : Int32} {f : Nat → Int32} {t : Nat → Int32} {p0 : Int32} {p1 : Int32} {p2 : Int32} {p3 : Int32} {p4 : Int32} (hN : NBig N) (hK : 100 ≤ K)  : ∀ (s0 : Int32) (th_ : Int32) (f_ : Nat → Int32) (t_ : Nat → Int32), 0 ≤ p0.toInt → p0.toInt ≤ 2 → 0 ≤ p1.toInt → p1.toInt ≤ 5 → 0 ≤ p2.toInt → p2.toInt ≤ 20 → 0 ≤ p3.toInt → p3.toInt ≤ 20 → 0 ≤ s0.toInt → s0.toInt ≤ 1 → 0 ≤ th_.toInt → th_.toInt ≤ 2 → (s0.toInt = 0 → 0 ≤ p0.toInt ∧ p0.toInt ≤ 2 ∧ 0 ≤ p1.toInt ∧ p1.toInt ≤ 5 ∧ 0 ≤ p2.toInt ∧ p2.toInt ≤ 20 ∧ 0 ≤ p3.toInt ∧ p3.toInt ≤ 20) → Sf (fX7_forgetIf_50 N K th f t p0 p1 p2 p3 p4  s0 th_ f_ t_) (fun (z : Int32 × Int32 × (Nat → Int32) × (Nat → Int32)) => 0 ≤ z.2.1.toInt ∧ z.2.1.toInt ≤ 2 ∧ True) := by
  intro s0 th_ f_ t_ hq0 hq1 hq2 hq3 hq4 hq5 hq6 hq7 hq8 hq9 hq10 hq11 hq12
  unfold fX7_forgetIf_50
  have ql0 : (0 : Int32).toInt = 0 := by decide
  refine sIf (fun h1 => ?_) (fun h1 => ?_)
  · have fh1 := eqT h1
    exact s_X7_forgetIf_72  hN hK _ _ _ _ (by first | omega | decide) (by first | omega | decide) (by first | omega | decide) (by first | omega | decide) (by first | omega | decide) (by first | omega | decide) (by first | omega | decide) (by first | omega | decide) (by first | omega | decide) (by first | omega | decide) (by first | omega | decide) (by first | omega | decide)
  · have fh1 := eqF h1
    refine sIfF (noob (by omega) (by omega)) ?_
    refine sBind (s_X7_code hN hK (by first | omega | decide) (by first | omega | decide) (by first | omega | decide) (by first | omega | decide) (by first | omega | decide) (by first | omega | decide)) (fun x67 b2 => ?_)
    obtain ⟨b2_0, b2_1, -⟩ := b2
    replace b2_0 : 0 ≤ x67.toInt := b2_0
    replace b2_1 : x67.toInt ≤ 5780 := b2_1
    refine sIfF (noob (by omega) (by omega)) ?_
    exact s_X7_forgetIf_72  hN hK _ _ _ _ (by first | omega | decide) (by first | omega | decide) (by first | omega | decide) (by first | omega | decide) (by first | omega | decide) (by first | omega | decide) (by first | omega | decide) (by first | omega | decide) (by first | omega | decide) (by first | omega | decide) (by first | omega | decide) (by first | omega | decide)
set_option maxHeartbeats 2000000 in
theorem s_X7_forgetIf_49 {N K : Nat} {th : Int32} {f : Nat → Int32} {t : Nat → Int32} {p0 : Int32} {p1 : Int32} {p2 : Int32} {p3 : Int32} {p4 : Int32} (hN : NBig N) (hK : 100 ≤ K)  : ∀ (th_ : Int32) (f_ : Nat → Int32) (t_ : Nat → Int32), 0 ≤ p0.toInt → p0.toInt ≤ 2 → 0 ≤ p1.toInt → p1.toInt ≤ 5 → 0 ≤ p2.toInt → p2.toInt ≤ 20 → 0 ≤ p3.toInt → p3.toInt ≤ 20 → 0 ≤ th_.toInt → th_.toInt ≤ 2 → Sf (fX7_forgetIf_49 N K th f t p0 p1 p2 p3 p4  th_ f_ t_) (fun (z : Int32 × Int32 × (Nat → Int32) × (Nat → Int32)) => 0 ≤ z.2.1.toInt ∧ z.2.1.toInt ≤ 2 ∧ True) := by
  intro th_ f_ t_ hq0 hq1 hq2 hq3 hq4 hq5 hq6 hq7 hq8 hq9
  unfold fX7_forgetIf_49
  have ql0 : (0 : Int32).toInt = 0 := by decide
  exact s_X7_forgetIf_50  hN hK _ _ _ _ (by first | omega | decide) (by first | omega | decide) (by first | omega | decide) (by first | omega | decide) (by first | omega | decide) (by first | omega | decide) (by first | omega | decide) (by first | omega | decide) (by first | omega | decide) (by first | omega | decide) (by first | omega | decide) (by first | omega | decide) (by first | omega | decide)
set_option maxHeartbeats 2000000 in
theorem s_X7_forgetIf {N K : Nat} {th : Int32} {f : Nat → Int32} {t : Nat → Int32} {p0 : Int32} {p1 : Int32} {p2 : Int32} {p3 : Int32} {p4 : Int32} (hN : NBig N) (hK : 100 ≤ K)  : Sf (fX7_forgetIf N K th f t p0 p1 p2 p3 p4) (fun (z : Int32 × Int32 × (Nat → Int32) × (Nat → Int32)) => 0 ≤ z.2.1.toInt ∧ z.2.1.toInt ≤ 2 ∧ True) := by
  unfold fX7_forgetIf
  have ql0 : (0 : Int32).toInt = 0 := by decide
  have ql1 : (1 : Int32).toInt = 1 := by decide
  have ql2 : (2 : Int32).toInt = 2 := by decide
  refine sBind (s_X7_isNo hN hK (by first | omega | decide) (by first | omega | decide) (by first | omega | decide) (by first | omega | decide)) (fun x4 b1 => ?_)
  obtain ⟨b1_0, b1_1, b1_2, -⟩ := b1
  replace b1_0 : 0 ≤ x4.toInt := b1_0
  replace b1_1 : x4.toInt ≤ 1 := b1_1
  replace b1_2 : (x4.toInt = 0 → ((0 : Int32).toInt ≤ p0.toInt ∧ p0.toInt ≤ (2 : Int32).toInt)) := b1_2
  refine sBind (s_X7_isOut hN hK) (fun x11 b2 => ?_)
  obtain ⟨b2_0, b2_1, b2_2, b2_3, b2_4, -⟩ := b2
  replace b2_0 : 0 ≤ x11.toInt := b2_0
  replace b2_1 : x11.toInt ≤ 1 := b2_1
  replace b2_2 : (x11.toInt = 0 → (0 ≤ p1.toInt ∧ p1.toInt ≤ 5)) := b2_2
  replace b2_3 : (x11.toInt = 0 → (0 ≤ p2.toInt ∧ p2.toInt ≤ 20)) := b2_3
  replace b2_4 : (x11.toInt = 0 → (0 ≤ p3.toInt ∧ p3.toInt ≤ 20)) := b2_4
  refine sBind (s_X7_isThrown hN hK (by first | omega | decide) (by first | omega | decide) (by first | omega | decide) (by first | omega | decide)) (fun x14 b3 => ?_)
  obtain ⟨b3_0, b3_1, b3_2, b3_3, b3_4, b3_5, -⟩ := b3
  replace b3_0 : 0 ≤ x14.1.toInt := b3_0
  replace b3_1 : x14.1.toInt ≤ 1 := b3_1
  replace b3_2 : 0 ≤ x14.2.toInt := b3_2
  replace b3_3 : x14.2.toInt ≤ 2 := b3_3
  replace b3_4 : (x14.1.toInt = 0 → (0 ≤ x4.toInt ∧ x4.toInt ≤ 0)) := b3_4
  replace b3_5 : (x14.1.toInt = 0 → (0 ≤ x11.toInt ∧ x11.toInt ≤ 0)) := b3_5
  refine sIf (fun h4 => ?_) (fun h4 => ?_)
  · have fh4 := eqT h4
    refine sBind (s_X7_kept hN hK (by first | omega | decide) (by first | omega | decide) (by first | omega | decide) (by first | omega | decide) (by first | omega | decide) (by first | omega | decide) (by first | omega | decide) (by first | omega | decide) (by first | omega | decide) (by first | omega | decide)) (fun x28 b5 => ?_)
    refine sIf (fun h6 => ?_) (fun h6 => ?_)
    · have fh6 := ltT h6
      exact s_X7_forgetIf_49  hN hK _ _ _ (by first | omega | decide) (by first | omega | decide) (by first | omega | decide) (by first | omega | decide) (by first | omega | decide) (by first | omega | decide) (by first | omega | decide) (by first | omega | decide) (by first | omega | decide) (by first | omega | decide)
    · have fh6 := ltF h6
      refine sIf (fun h7 => ?_) (fun h7 => ?_)
      · have fh7 := eqT h7
        exact s_X7_forgetIf_50  hN hK _ _ _ _ (by first | omega | decide) (by first | omega | decide) (by first | omega | decide) (by first | omega | decide) (by first | omega | decide) (by first | omega | decide) (by first | omega | decide) (by first | omega | decide) (by first | omega | decide) (by first | omega | decide) (by first | omega | decide) (by first | omega | decide) (by first | omega | decide)
      · have fh7 := eqF h7
        exact s_X7_forgetIf_49  hN hK _ _ _ (by first | omega | decide) (by first | omega | decide) (by first | omega | decide) (by first | omega | decide) (by first | omega | decide) (by first | omega | decide) (by first | omega | decide) (by first | omega | decide) (by first | omega | decide) (by first | omega | decide)
  · have fh4 := eqF h4
    exact sRet ⟨(by show 0 ≤ x14.2.toInt; first | omega | assumption), (by show x14.2.toInt ≤ 2; first | omega | assumption), trivial⟩
set_option maxHeartbeats 2000000 in
theorem s_X7_isSo_56 {N K : Nat} {th : Int32} {f : Nat → Int32} {p0 : Int32} {p1 : Int32} {p2 : Int32} {p3 : Int32} (hN : NBig N) (hK : 100 ≤ K) (hp0 : 0 ≤ th.toInt) (hp1 : th.toInt ≤ 2) (hp2 : 0 ≤ p0.toInt) (hp3 : p0.toInt ≤ 2) (hp4 : 0 ≤ p1.toInt) (hp5 : p1.toInt ≤ 6143) (hp6 : 0 ≤ p2.toInt) (hp7 : p2.toInt ≤ 3) : ∀ (s0 : Int32) (s1 : Int32), 0 ≤ s0.toInt → (s0.toInt = 0 → 0 ≤ th.toInt ∧ th.toInt ≤ 2 ∧ 0 ≤ p0.toInt ∧ p0.toInt ≤ 2 ∧ 0 ≤ p1.toInt ∧ p1.toInt ≤ 6143 ∧ 0 ≤ p2.toInt ∧ p2.toInt ≤ 3) → (s1.toInt = 0 → 0 ≤ th.toInt ∧ th.toInt ≤ 2 ∧ 0 ≤ p0.toInt ∧ p0.toInt ≤ 2 ∧ 0 ≤ p1.toInt ∧ p1.toInt ≤ 6143 ∧ 0 ≤ p2.toInt ∧ p2.toInt ≤ 3 ∧ 0 ≤ p3.toInt ∧ p3.toInt ≤ 0) → Sf (fX7_isSo_56 N K th f p0 p1 p2 p3  s0 s1) (fun (z : Int32) => 0 ≤ z.toInt ∧ z.toInt ≤ 1 ∧ True) := by
  intro s0 s1 hq0 hq1 hq2
  unfold fX7_isSo_56
  have ql0 : (0 : Int32).toInt = 0 := by decide
  have ql1 : (1 : Int32).toInt = 1 := by decide
  refine sIf (fun h1 => ?_) (fun h1 => ?_)
  · have fh1 := eqT h1
    exact sRet ⟨(by show 0 ≤ (1 : Int32).toInt; decide), (by show (1 : Int32).toInt ≤ 1; decide), trivial⟩
  · have fh1 := eqF h1
    exact sRet ⟨(by show 0 ≤ (0 : Int32).toInt; decide), (by show (0 : Int32).toInt ≤ 1; decide), trivial⟩
set_option maxHeartbeats 2000000 in
theorem s_X7_isSo {N K : Nat} {th : Int32} {f : Nat → Int32} {p0 : Int32} {p1 : Int32} {p2 : Int32} {p3 : Int32} (hN : NBig N) (hK : 100 ≤ K) (hp0 : 0 ≤ th.toInt) (hp1 : th.toInt ≤ 2) (hp2 : 0 ≤ p0.toInt) (hp3 : p0.toInt ≤ 2) (hp4 : 0 ≤ p1.toInt) (hp5 : p1.toInt ≤ 6143) (hp6 : 0 ≤ p2.toInt) (hp7 : p2.toInt ≤ 3) : Sf (fX7_isSo N K th f p0 p1 p2 p3) (fun (z : Int32) => 0 ≤ z.toInt ∧ z.toInt ≤ 1 ∧ True) := by
  unfold fX7_isSo
  have ql0 : (0 : Int32).toInt = 0 := by decide
  have ql1 : (1 : Int32).toInt = 1 := by decide
  have ql2 : (2 : Int32).toInt = 2 := by decide
  refine sIfF (noob (by omega) (by omega)) ?_
  refine sIfF (noob (by omega) (by omega)) ?_
  refine sIf (fun h1 => ?_) (fun h1 => ?_)
  · have fh1 := leT h1
    refine sIf (fun h2 => ?_) (fun h2 => ?_)
    · have fh2 := eqT h2
      refine sBind (s_X7_kindOf hN hK (by first | omega | decide) (by first | omega | decide)) (fun x24 b3 => ?_)
      obtain ⟨b3_0, b3_1, -⟩ := b3
      replace b3_0 : 0 ≤ x24.toInt := b3_0
      replace b3_1 : x24.toInt ≤ 5 := b3_1
      exact s_X7_isSo_56  hN hK (by omega) (by omega) (by omega) (by omega) (by omega) (by omega) (by omega) (by omega) _ _ (by first | omega | decide) (by first | omega | decide) (by first | omega | decide)
    · have fh2 := eqF h2
      refine sIf (fun h4 => ?_) (fun h4 => ?_)
      · have fh4 := eqT h4
        refine sBind (s_X7_numberOf hN hK (by first | omega | decide) (by first | omega | decide)) (fun x36 b5 => ?_)
        obtain ⟨b5_0, b5_1, -⟩ := b5
        replace b5_0 : 0 ≤ x36.toInt := b5_0
        replace b5_1 : x36.toInt ≤ 31 := b5_1
        exact s_X7_isSo_56  hN hK (by omega) (by omega) (by omega) (by omega) (by omega) (by omega) (by omega) (by omega) _ _ (by first | omega | decide) (by first | omega | decide) (by first | omega | decide)
      · have fh4 := eqF h4
        refine sIf (fun h6 => ?_) (fun h6 => ?_)
        · have fh6 := eqT h6
          refine sBind (s_X7_measureOf hN hK (by first | omega | decide) (by first | omega | decide)) (fun x48 b7 => ?_)
          obtain ⟨b7_0, b7_1, -⟩ := b7
          replace b7_0 : 0 ≤ x48.toInt := b7_0
          replace b7_1 : x48.toInt ≤ 31 := b7_1
          exact s_X7_isSo_56  hN hK (by omega) (by omega) (by omega) (by omega) (by omega) (by omega) (by omega) (by omega) _ _ (by first | omega | decide) (by first | omega | decide) (by first | omega | decide)
        · have fh6 := eqF h6
          exact s_X7_isSo_56  hN hK (by omega) (by omega) (by omega) (by omega) (by omega) (by omega) (by omega) (by omega) _ _ (by first | omega | decide) (by first | omega | decide) (by first | omega | decide)
  · have fh1 := leF h1
    exact sRet ⟨(by show 0 ≤ (0 : Int32).toInt; decide), (by show (0 : Int32).toInt ≤ 1; decide), trivial⟩
set_option maxHeartbeats 2000000 in
theorem s_X7_counted_6 {N K : Nat} {th : Int32} {f : Nat → Int32} {p0 : Int32} {p1 : Int32} {p2 : Int32} (hN : NBig N) (hK : 100 ≤ K) (hp0 : 0 ≤ th.toInt) (hp1 : th.toInt ≤ 2) (hp2 : 0 ≤ p0.toInt) (hp3 : p0.toInt ≤ 2) (hp4 : 0 ≤ p1.toInt) (hp5 : p1.toInt ≤ 3) : ∀ (fu : Nat) (l4 : Int32) (l5 : Int32), (6144 - l5.toInt).toNat < fu → 0 ≤ l5.toInt → l5.toInt ≤ 6144 → Sf (fX7_counted_6 N K th f p0 p1 p2  fu l4 l5) (fun (z : Int32) => True) := by
  intro fu
  induction fu with
  | zero => intro l4 l5 h0 hq0 hq1; omega
  | succ fu ih =>
    intro l4 l5 h0 hq0 hq1
    unfold fX7_counted_6
    have ql0 : (0 : Int32).toInt = 0 := by decide
    have ql1 : (1 : Int32).toInt = 1 := by decide
    have ql6144 : (6144 : Int32).toInt = 6144 := by decide
    refine sIf (fun h1 => ?_) (fun h1 => ?_)
    · have fh1 := leT h1
      exact sRet trivial
    · have fh1 := leF h1
      refine sBind (s_X7_isSo hN hK (by first | omega | decide) (by first | omega | decide) (by first | omega | decide) (by first | omega | decide) (by first | omega | decide) (by first | omega | decide) (by first | omega | decide) (by first | omega | decide)) (fun x22 b2 => ?_)
      obtain ⟨b2_0, b2_1, -⟩ := b2
      replace b2_0 : 0 ≤ x22.toInt := b2_0
      replace b2_1 : x22.toInt ≤ 1 := b2_1
      refine sBind (s_X7_bit hN hK (by first | omega | decide) (by first | omega | decide)) (fun x25 b3 => ?_)
      obtain ⟨b3_0, b3_1, -⟩ := b3
      replace b3_0 : 0 ≤ x25.toInt := b3_0
      replace b3_1 : x25.toInt ≤ 1 := b3_1
      have t5 := addI (a := l5) (b := (1 : Int32)) (by omega) (by omega)
      exact ih _ _ (by omega) (by first | omega | decide) (by first | omega | decide)
set_option maxHeartbeats 2000000 in
theorem s_X7_counted {N K : Nat} {th : Int32} {f : Nat → Int32} {p0 : Int32} {p1 : Int32} {p2 : Int32} (hN : NBig N) (hK : 100 ≤ K) (hp0 : 0 ≤ th.toInt) (hp1 : th.toInt ≤ 2) (hp2 : 0 ≤ p0.toInt) (hp3 : p0.toInt ≤ 2) (hp4 : 0 ≤ p1.toInt) (hp5 : p1.toInt ≤ 3) : Sf (fX7_counted N K th f p0 p1 p2) (fun (z : Int32) => True) := by
  unfold fX7_counted
  have hN9 := hN.u
  have ql0 : (0 : Int32).toInt = 0 := by decide
  exact s_X7_counted_6  hN hK (by omega) (by omega) (by omega) (by omega) (by omega) (by omega) _ _ _ (by omega) (by first | omega | decide) (by first | omega | decide)
set_option maxHeartbeats 2000000 in
theorem s_X7_forgetAll_63 {N K : Nat} {th : Int32} {f : Nat → Int32} {t : Nat → Int32} {p0 : Int32} {p1 : Int32} {p2 : Int32} (hN : NBig N) (hK : 100 ≤ K)  {k_33 : Int32 → Int32 → Int32 → (Nat → Int32) → (Nat → Int32) → Option (Int32 × Int32 × (Nat → Int32) × (Nat → Int32))} {m_33 : Nat} (hk_33 : ∀ (l4 : Int32) (l5 : Int32) (th_ : Int32) (f_ : (Nat → Int32)) (t_ : (Nat → Int32)), (6144 - l5.toInt).toNat < m_33 → 0 ≤ p0.toInt → p0.toInt ≤ 2 → 0 ≤ p1.toInt → p1.toInt ≤ 3 → 0 ≤ l5.toInt → l5.toInt ≤ 6144 → 0 ≤ th_.toInt → th_.toInt ≤ 2 → Sf (k_33 l4 l5 th_ f_ t_) (fun (z : Int32 × Int32 × (Nat → Int32) × (Nat → Int32)) => 0 ≤ z.2.1.toInt ∧ z.2.1.toInt ≤ 2 ∧ True)) : ∀ (l4 : Int32) (l5 : Int32) (th_ : Int32) (f_ : Nat → Int32) (t_ : Nat → Int32), 0 ≤ p0.toInt → p0.toInt ≤ 2 → 0 ≤ p1.toInt → p1.toInt ≤ 3 → 0 ≤ l5.toInt → l5.toInt ≤ 6143 → 0 ≤ th_.toInt → th_.toInt ≤ 2 → (6144 - l5.toInt).toNat ≤ m_33 → Sf (fX7_forgetAll_63 N K th f t p0 p1 p2 k_33 l4 l5 th_ f_ t_) (fun (z : Int32 × Int32 × (Nat → Int32) × (Nat → Int32)) => 0 ≤ z.2.1.toInt ∧ z.2.1.toInt ≤ 2 ∧ True) := by
  intro l4 l5 th_ f_ t_ hq0 hq1 hq2 hq3 hq4 hq5 hq6 hq7 hq8
  unfold fX7_forgetAll_63
  have ql0 : (0 : Int32).toInt = 0 := by decide
  have ql1 : (1 : Int32).toInt = 1 := by decide
  have t1 := addI (a := l5) (b := (1 : Int32)) (by omega) (by omega)
  exact hk_33 _ _ _ _ _ (by omega) (by first | omega | decide) (by first | omega | decide) (by first | omega | decide) (by first | omega | decide) (by first | omega | decide) (by first | omega | decide) (by first | omega | decide) (by first | omega | decide)
set_option maxHeartbeats 2000000 in
theorem s_X7_forgetAll_33 {N K : Nat} {th : Int32} {f : Nat → Int32} {t : Nat → Int32} {p0 : Int32} {p1 : Int32} {p2 : Int32} (hN : NBig N) (hK : 100 ≤ K)  : ∀ (fu : Nat) (l4 : Int32) (l5 : Int32) (th_ : Int32) (f_ : (Nat → Int32)) (t_ : (Nat → Int32)), (6144 - l5.toInt).toNat < fu → 0 ≤ p0.toInt → p0.toInt ≤ 2 → 0 ≤ p1.toInt → p1.toInt ≤ 3 → 0 ≤ l5.toInt → l5.toInt ≤ 6144 → 0 ≤ th_.toInt → th_.toInt ≤ 2 → Sf (fX7_forgetAll_33 N K th f t p0 p1 p2  fu l4 l5 th_ f_ t_) (fun (z : Int32 × Int32 × (Nat → Int32) × (Nat → Int32)) => 0 ≤ z.2.1.toInt ∧ z.2.1.toInt ≤ 2 ∧ True) := by
  intro fu
  induction fu with
  | zero => intro l4 l5 th_ f_ t_ h0 hq0 hq1 hq2 hq3 hq4 hq5 hq6 hq7; omega
  | succ fu ih =>
    intro l4 l5 th_ f_ t_ h0 hq0 hq1 hq2 hq3 hq4 hq5 hq6 hq7
    unfold fX7_forgetAll_33
    have ql0 : (0 : Int32).toInt = 0 := by decide
    have ql6144 : (6144 : Int32).toInt = 6144 := by decide
    refine sIf (fun h1 => ?_) (fun h1 => ?_)
    · have fh1 := leT h1
      refine sBind (s_X7_done hN hK (by first | omega | decide) (by first | omega | decide)) (fun x72 b2 => ?_)
      exact sRet ⟨(by show 0 ≤ th_.toInt; first | omega | assumption), (by show th_.toInt ≤ 2; first | omega | assumption), trivial⟩
    · have fh1 := leF h1
      refine sBind (s_X7_isSo hN hK (by first | omega | decide) (by first | omega | decide) (by first | omega | decide) (by first | omega | decide) (by first | omega | decide) (by first | omega | decide) (by first | omega | decide) (by first | omega | decide)) (fun x47 b3 => ?_)
      obtain ⟨b3_0, b3_1, -⟩ := b3
      replace b3_0 : 0 ≤ x47.toInt := b3_0
      replace b3_1 : x47.toInt ≤ 1 := b3_1
      refine sIf (fun h4 => ?_) (fun h4 => ?_)
      · have fh4 := eqT h4
        exact s_X7_forgetAll_63 (hk_33 := ih) hN hK _ _ _ _ _ (by first | omega | decide) (by first | omega | decide) (by first | omega | decide) (by first | omega | decide) (by first | omega | decide) (by first | omega | decide) (by first | omega | decide) (by first | omega | decide) (by omega)
      · have fh4 := eqF h4
        refine sIfF (noob (by omega) (by omega)) ?_
        refine sIfF (noob (by omega) (by omega)) ?_
        exact s_X7_forgetAll_63 (hk_33 := ih) hN hK _ _ _ _ _ (by first | omega | decide) (by first | omega | decide) (by first | omega | decide) (by first | omega | decide) (by first | omega | decide) (by first | omega | decide) (by first | omega | decide) (by first | omega | decide) (by omega)
set_option maxHeartbeats 2000000 in
theorem s_X7_forgetAll {N K : Nat} {th : Int32} {f : Nat → Int32} {t : Nat → Int32} {p0 : Int32} {p1 : Int32} {p2 : Int32} (hN : NBig N) (hK : 100 ≤ K)  : Sf (fX7_forgetAll N K th f t p0 p1 p2) (fun (z : Int32 × Int32 × (Nat → Int32) × (Nat → Int32)) => 0 ≤ z.2.1.toInt ∧ z.2.1.toInt ≤ 2 ∧ True) := by
  unfold fX7_forgetAll
  have hN9 := hN.u
  have ql0 : (0 : Int32).toInt = 0 := by decide
  have ql2 : (2 : Int32).toInt = 2 := by decide
  have ql3 : (3 : Int32).toInt = 3 := by decide
  refine sBind (s_X7_isNo hN hK (by first | omega | decide) (by first | omega | decide) (by first | omega | decide) (by first | omega | decide)) (fun x4 b1 => ?_)
  obtain ⟨b1_0, b1_1, b1_2, -⟩ := b1
  replace b1_0 : 0 ≤ x4.toInt := b1_0
  replace b1_1 : x4.toInt ≤ 1 := b1_1
  replace b1_2 : (x4.toInt = 0 → ((0 : Int32).toInt ≤ p0.toInt ∧ p0.toInt ≤ (2 : Int32).toInt)) := b1_2
  refine sBind (s_X7_isNo hN hK (by first | omega | decide) (by first | omega | decide) (by first | omega | decide) (by first | omega | decide)) (fun x10 b2 => ?_)
  obtain ⟨b2_0, b2_1, b2_2, -⟩ := b2
  replace b2_0 : 0 ≤ x10.toInt := b2_0
  replace b2_1 : x10.toInt ≤ 1 := b2_1
  replace b2_2 : (x10.toInt = 0 → ((0 : Int32).toInt ≤ p1.toInt ∧ p1.toInt ≤ (3 : Int32).toInt)) := b2_2
  refine sBind (s_X7_isThrown hN hK (by first | omega | decide) (by first | omega | decide) (by first | omega | decide) (by first | omega | decide)) (fun x13 b3 => ?_)
  obtain ⟨b3_0, b3_1, b3_2, b3_3, b3_4, b3_5, -⟩ := b3
  replace b3_0 : 0 ≤ x13.1.toInt := b3_0
  replace b3_1 : x13.1.toInt ≤ 1 := b3_1
  replace b3_2 : 0 ≤ x13.2.toInt := b3_2
  replace b3_3 : x13.2.toInt ≤ 2 := b3_3
  replace b3_4 : (x13.1.toInt = 0 → (0 ≤ x4.toInt ∧ x4.toInt ≤ 0)) := b3_4
  replace b3_5 : (x13.1.toInt = 0 → (0 ≤ x10.toInt ∧ x10.toInt ≤ 0)) := b3_5
  refine sIf (fun h4 => ?_) (fun h4 => ?_)
  · have fh4 := eqT h4
    refine sBind (s_X7_counted hN hK (by first | omega | decide) (by first | omega | decide) (by first | omega | decide) (by first | omega | decide) (by first | omega | decide) (by first | omega | decide)) (fun x25 b5 => ?_)
    exact s_X7_forgetAll_33  hN hK _ _ _ _ _ _ (by omega) (by first | omega | decide) (by first | omega | decide) (by first | omega | decide) (by first | omega | decide) (by first | omega | decide) (by first | omega | decide) (by first | omega | decide) (by first | omega | decide)
  · have fh4 := eqF h4
    exact sRet ⟨(by show 0 ≤ x13.2.toInt; first | omega | assumption), (by show x13.2.toInt ≤ 2; first | omega | assumption), trivial⟩
set_option maxHeartbeats 2000000 in
theorem s_X7_told2_76 {N K : Nat} {th : Int32} {f : Nat → Int32} {p0 : Int32} {p1 : Int32} (hN : NBig N) (hK : 100 ≤ K) (hp0 : 0 ≤ th.toInt) (hp1 : th.toInt ≤ 2) (hp2 : 0 ≤ p0.toInt) (hp3 : p0.toInt ≤ 2) (hp4 : 0 ≤ p1.toInt) (hp5 : p1.toInt ≤ 3) : ∀ (s0 : Int32), 3 ≤ p1.toInt → p1.toInt ≤ 3 → 0 ≤ s0.toInt → s0.toInt ≤ 1 → (s0.toInt = 0 → 0 ≤ th.toInt ∧ th.toInt ≤ 2 ∧ 0 ≤ p0.toInt ∧ p0.toInt ≤ 2 ∧ 3 ≤ p1.toInt ∧ p1.toInt ≤ 3) → Sf (fX7_told2_76 N K th f p0 p1  s0) (fun (z : Int32) => True) := by
  intro s0 hq0 hq1 hq2 hq3 hq4
  unfold fX7_told2_76
  have ql0 : (0 : Int32).toInt = 0 := by decide
  refine sBind (s_X7_bit hN hK (by first | omega | decide) (by first | omega | decide)) (fun x76 b1 => ?_)
  obtain ⟨b1_0, b1_1, -⟩ := b1
  replace b1_0 : 0 ≤ x76.toInt := b1_0
  replace b1_1 : x76.toInt ≤ 1 := b1_1
  exact sRet trivial
set_option maxHeartbeats 2000000 in
theorem s_X7_told2_56 {N K : Nat} {th : Int32} {f : Nat → Int32} {p0 : Int32} {p1 : Int32} (hN : NBig N) (hK : 100 ≤ K) (hp0 : 0 ≤ th.toInt) (hp1 : th.toInt ≤ 2) (hp2 : 0 ≤ p0.toInt) (hp3 : p0.toInt ≤ 2) (hp4 : 0 ≤ p1.toInt) (hp5 : p1.toInt ≤ 3) {k_5 : Int32 → Int32 → Option (Int32)} {m_5 : Nat} (hk_5 : ∀ (l3 : Int32) (l4 : Int32), (6144 - l4.toInt).toNat < m_5 → 0 ≤ l4.toInt → l4.toInt ≤ 6144 → Sf (k_5 l3 l4) (fun (z : Int32) => True)) : ∀ (l3 : Int32) (l4 : Int32), 0 ≤ l4.toInt → l4.toInt ≤ 6143 → (6144 - l4.toInt).toNat ≤ m_5 → Sf (fX7_told2_56 N K th f p0 p1 k_5 l3 l4) (fun (z : Int32) => True) := by
  intro l3 l4 hq0 hq1 hq2
  unfold fX7_told2_56
  have ql0 : (0 : Int32).toInt = 0 := by decide
  have ql1 : (1 : Int32).toInt = 1 := by decide
  have t1 := addI (a := l4) (b := (1 : Int32)) (by omega) (by omega)
  exact hk_5 _ _ (by omega) (by first | omega | decide) (by first | omega | decide)
set_option maxHeartbeats 2000000 in
theorem s_X7_told2_54 {N K : Nat} {th : Int32} {f : Nat → Int32} {p0 : Int32} {p1 : Int32} (hN : NBig N) (hK : 100 ≤ K) (hp0 : 0 ≤ th.toInt) (hp1 : th.toInt ≤ 2) (hp2 : 0 ≤ p0.toInt) (hp3 : p0.toInt ≤ 2) (hp4 : 0 ≤ p1.toInt) (hp5 : p1.toInt ≤ 3) {k_5 : Int32 → Int32 → Option (Int32)} {m_5 : Nat} (hk_5 : ∀ (l3 : Int32) (l4 : Int32), (6144 - l4.toInt).toNat < m_5 → 0 ≤ l4.toInt → l4.toInt ≤ 6144 → Sf (k_5 l3 l4) (fun (z : Int32) => True)) : ∀ (l4 : Int32) (s0 : Int32) (s1 : Int32), 0 ≤ l4.toInt → l4.toInt ≤ 6143 → (s0.toInt = 0 → 0 ≤ th.toInt ∧ th.toInt ≤ 2 ∧ 0 ≤ p0.toInt ∧ p0.toInt ≤ 2 ∧ 1 ≤ p1.toInt ∧ p1.toInt ≤ 2) → (s1.toInt = 0 → 0 ≤ th.toInt ∧ th.toInt ≤ 2 ∧ 0 ≤ p0.toInt ∧ p0.toInt ≤ 2 ∧ 0 ≤ p1.toInt ∧ p1.toInt ≤ 3) → (6144 - l4.toInt).toNat ≤ m_5 → Sf (fX7_told2_54 N K th f p0 p1 k_5 l4 s0 s1) (fun (z : Int32) => True) := by
  intro l4 s0 s1 hq0 hq1 hq2 hq3 hq4
  unfold fX7_told2_54
  have ql0 : (0 : Int32).toInt = 0 := by decide
  exact s_X7_told2_56 (hk_5 := hk_5) hN hK (by omega) (by omega) (by omega) (by omega) (by omega) (by omega) _ _ (by first | omega | decide) (by first | omega | decide) (by omega)
set_option maxHeartbeats 2000000 in
theorem s_X7_told2_5 {N K : Nat} {th : Int32} {f : Nat → Int32} {p0 : Int32} {p1 : Int32} (hN : NBig N) (hK : 100 ≤ K) (hp0 : 0 ≤ th.toInt) (hp1 : th.toInt ≤ 2) (hp2 : 0 ≤ p0.toInt) (hp3 : p0.toInt ≤ 2) (hp4 : 0 ≤ p1.toInt) (hp5 : p1.toInt ≤ 3) : ∀ (fu : Nat) (l3 : Int32) (l4 : Int32), (6144 - l4.toInt).toNat < fu → 0 ≤ l4.toInt → l4.toInt ≤ 6144 → Sf (fX7_told2_5 N K th f p0 p1  fu l3 l4) (fun (z : Int32) => True) := by
  intro fu
  induction fu with
  | zero => intro l3 l4 h0 hq0 hq1; omega
  | succ fu ih =>
    intro l3 l4 h0 hq0 hq1
    unfold fX7_told2_5
    have ql0 : (0 : Int32).toInt = 0 := by decide
    have ql1 : (1 : Int32).toInt = 1 := by decide
    have ql2 : (2 : Int32).toInt = 2 := by decide
    have ql3 : (3 : Int32).toInt = 3 := by decide
    have ql6144 : (6144 : Int32).toInt = 6144 := by decide
    refine sIf (fun h1 => ?_) (fun h1 => ?_)
    · have fh1 := leT h1
      refine sIf (fun h2 => ?_) (fun h2 => ?_)
      · have fh2 := eqT h2
        refine sIf (fun h3 => ?_) (fun h3 => ?_)
        · have fh3 := eqT h3
          exact s_X7_told2_76  hN hK (by omega) (by omega) (by omega) (by omega) (by omega) (by omega) _ (by first | omega | decide) (by first | omega | decide) (by first | omega | decide) (by first | omega | decide) (by first | omega | decide)
        · have fh3 := eqF h3
          exact s_X7_told2_76  hN hK (by omega) (by omega) (by omega) (by omega) (by omega) (by omega) _ (by first | omega | decide) (by first | omega | decide) (by first | omega | decide) (by first | omega | decide) (by first | omega | decide)
      · have fh2 := eqF h2
        exact sRet trivial
    · have fh1 := leF h1
      refine sIfF (noob (by omega) (by omega)) ?_
      refine sIfF (noob (by omega) (by omega)) ?_
      refine sIf (fun h4 => ?_) (fun h4 => ?_)
      · have fh4 := ltT h4
        exact s_X7_told2_56 (hk_5 := ih) hN hK (by omega) (by omega) (by omega) (by omega) (by omega) (by omega) _ _ (by first | omega | decide) (by first | omega | decide) (by omega)
      · have fh4 := ltF h4
        refine sIf (fun h5 => ?_) (fun h5 => ?_)
        · have fh5 := eqT h5
          exact s_X7_told2_54 (hk_5 := ih) hN hK (by omega) (by omega) (by omega) (by omega) (by omega) (by omega) _ _ _ (by first | omega | decide) (by first | omega | decide) (by first | omega | decide) (by first | omega | decide) (by omega)
        · have fh5 := eqF h5
          refine sIf (fun h7 => ?_) (fun h7 => ?_)
          · have fh7 := eqT h7
            exact s_X7_told2_54 (hk_5 := ih) hN hK (by omega) (by omega) (by omega) (by omega) (by omega) (by omega) _ _ _ (by first | omega | decide) (by first | omega | decide) (by first | omega | decide) (by first | omega | decide) (by omega)
          · have fh7 := eqF h7
            exact s_X7_told2_54 (hk_5 := ih) hN hK (by omega) (by omega) (by omega) (by omega) (by omega) (by omega) _ _ _ (by first | omega | decide) (by first | omega | decide) (by first | omega | decide) (by first | omega | decide) (by omega)
set_option maxHeartbeats 2000000 in
theorem s_X7_told2 {N K : Nat} {th : Int32} {f : Nat → Int32} {p0 : Int32} {p1 : Int32} (hN : NBig N) (hK : 100 ≤ K) (hp0 : 0 ≤ th.toInt) (hp1 : th.toInt ≤ 2) (hp2 : 0 ≤ p0.toInt) (hp3 : p0.toInt ≤ 2) (hp4 : 0 ≤ p1.toInt) (hp5 : p1.toInt ≤ 3) : Sf (fX7_told2 N K th f p0 p1) (fun (z : Int32) => True) := by
  unfold fX7_told2
  have hN9 := hN.u
  have ql0 : (0 : Int32).toInt = 0 := by decide
  exact s_X7_told2_5  hN hK (by omega) (by omega) (by omega) (by omega) (by omega) (by omega) _ _ _ (by omega) (by first | omega | decide) (by first | omega | decide)
set_option maxHeartbeats 2000000 in
theorem s_X7_clear_25 {N K : Nat} {th : Int32} {f : Nat → Int32} {t : Nat → Int32} {p0 : Int32} (hN : NBig N) (hK : 100 ≤ K)  : ∀ (fu : Nat) (l2 : Int32) (l3 : Int32) (th_ : Int32) (f_ : (Nat → Int32)) (t_ : (Nat → Int32)), (6144 - l3.toInt).toNat < fu → 0 ≤ p0.toInt → p0.toInt ≤ 2 → 0 ≤ l3.toInt → l3.toInt ≤ 6144 → 0 ≤ th_.toInt → th_.toInt ≤ 2 → Sf (fX7_clear_25 N K th f t p0  fu l2 l3 th_ f_ t_) (fun (z : Int32 × Int32 × (Nat → Int32) × (Nat → Int32)) => 0 ≤ z.2.1.toInt ∧ z.2.1.toInt ≤ 2 ∧ True) := by
  intro fu
  induction fu with
  | zero => intro l2 l3 th_ f_ t_ h0 hq0 hq1 hq2 hq3 hq4 hq5; omega
  | succ fu ih =>
    intro l2 l3 th_ f_ t_ h0 hq0 hq1 hq2 hq3 hq4 hq5
    unfold fX7_clear_25
    have ql0 : (0 : Int32).toInt = 0 := by decide
    have ql1 : (1 : Int32).toInt = 1 := by decide
    have ql6144 : (6144 : Int32).toInt = 6144 := by decide
    refine sIf (fun h1 => ?_) (fun h1 => ?_)
    · have fh1 := leT h1
      refine sBind (s_X7_done hN hK (by first | omega | decide) (by first | omega | decide)) (fun x49 b2 => ?_)
      exact sRet ⟨(by show 0 ≤ th_.toInt; first | omega | assumption), (by show th_.toInt ≤ 2; first | omega | assumption), trivial⟩
    · have fh1 := leF h1
      refine sIfF (noob (by omega) (by omega)) ?_
      refine sIfF (noob (by omega) (by omega)) ?_
      have t3 := addI (a := l3) (b := (1 : Int32)) (by omega) (by omega)
      exact ih _ _ _ _ _ (by omega) (by first | omega | decide) (by first | omega | decide) (by first | omega | decide) (by first | omega | decide) (by first | omega | decide) (by first | omega | decide)
set_option maxHeartbeats 2000000 in
theorem s_X7_clear {N K : Nat} {th : Int32} {f : Nat → Int32} {t : Nat → Int32} {p0 : Int32} (hN : NBig N) (hK : 100 ≤ K)  : Sf (fX7_clear N K th f t p0) (fun (z : Int32 × Int32 × (Nat → Int32) × (Nat → Int32)) => 0 ≤ z.2.1.toInt ∧ z.2.1.toInt ≤ 2 ∧ True) := by
  unfold fX7_clear
  have hN9 := hN.u
  have ql0 : (0 : Int32).toInt = 0 := by decide
  have ql2 : (2 : Int32).toInt = 2 := by decide
  refine sBind (s_X7_isNo hN hK (by first | omega | decide) (by first | omega | decide) (by first | omega | decide) (by first | omega | decide)) (fun x4 b1 => ?_)
  obtain ⟨b1_0, b1_1, b1_2, -⟩ := b1
  replace b1_0 : 0 ≤ x4.toInt := b1_0
  replace b1_1 : x4.toInt ≤ 1 := b1_1
  replace b1_2 : (x4.toInt = 0 → ((0 : Int32).toInt ≤ p0.toInt ∧ p0.toInt ≤ (2 : Int32).toInt)) := b1_2
  refine sBind (s_X7_isThrown hN hK (by first | omega | decide) (by first | omega | decide) (by first | omega | decide) (by first | omega | decide)) (fun x8 b2 => ?_)
  obtain ⟨b2_0, b2_1, b2_2, b2_3, b2_4, b2_5, -⟩ := b2
  replace b2_0 : 0 ≤ x8.1.toInt := b2_0
  replace b2_1 : x8.1.toInt ≤ 1 := b2_1
  replace b2_2 : 0 ≤ x8.2.toInt := b2_2
  replace b2_3 : x8.2.toInt ≤ 2 := b2_3
  replace b2_4 : (x8.1.toInt = 0 → (0 ≤ x4.toInt ∧ x4.toInt ≤ 0)) := b2_4
  replace b2_5 : (x8.1.toInt = 0 → (0 ≤ (0 : Int32).toInt ∧ (0 : Int32).toInt ≤ 0)) := b2_5
  refine sIf (fun h3 => ?_) (fun h3 => ?_)
  · have fh3 := eqT h3
    refine sBind (s_X7_told2 hN hK (by first | omega | decide) (by first | omega | decide) (by first | omega | decide) (by first | omega | decide) (by first | omega | decide) (by first | omega | decide)) (fun x19 b4 => ?_)
    exact s_X7_clear_25  hN hK _ _ _ _ _ _ (by omega) (by first | omega | decide) (by first | omega | decide) (by first | omega | decide) (by first | omega | decide) (by first | omega | decide) (by first | omega | decide)
  · have fh3 := eqF h3
    exact sRet ⟨(by show 0 ≤ x8.2.toInt; first | omega | assumption), (by show x8.2.toInt ≤ 2; first | omega | assumption), trivial⟩
set_option maxHeartbeats 2000000 in
theorem s_X7_copy_35 {N K : Nat} {th : Int32} {f : Nat → Int32} {f2 : Nat → Int32} {t : Nat → Int32} {p0 : Int32} {p1 : Int32} (hN : NBig N) (hK : 100 ≤ K)  : ∀ (fu : Nat) (l3 : Int32) (th_ : Int32) (f2_ : (Nat → Int32)) (t_ : (Nat → Int32)), (6144 - l3.toInt).toNat < fu → 0 ≤ p0.toInt → p0.toInt ≤ 2 → 0 ≤ p1.toInt → p1.toInt ≤ 2 → 0 ≤ l3.toInt → l3.toInt ≤ 6144 → 0 ≤ th_.toInt → th_.toInt ≤ 2 → Sf (fX7_copy_35 N K th f f2 t p0 p1  fu l3 th_ f2_ t_) (fun (z : Int32 × Int32 × (Nat → Int32) × (Nat → Int32)) => 0 ≤ z.2.1.toInt ∧ z.2.1.toInt ≤ 2 ∧ True) := by
  intro fu
  induction fu with
  | zero => intro l3 th_ f2_ t_ h0 hq0 hq1 hq2 hq3 hq4 hq5 hq6 hq7; omega
  | succ fu ih =>
    intro l3 th_ f2_ t_ h0 hq0 hq1 hq2 hq3 hq4 hq5 hq6 hq7
    unfold fX7_copy_35
    have ql0 : (0 : Int32).toInt = 0 := by decide
    have ql1 : (1 : Int32).toInt = 1 := by decide
    have ql6144 : (6144 : Int32).toInt = 6144 := by decide
    refine sIf (fun h1 => ?_) (fun h1 => ?_)
    · have fh1 := leT h1
      refine sBind (s_X7_told2 hN hK (by first | omega | decide) (by first | omega | decide) (by first | omega | decide) (by first | omega | decide) (by first | omega | decide) (by first | omega | decide)) (fun x68 b2 => ?_)
      refine sBind (s_X7_done hN hK (by first | omega | decide) (by first | omega | decide)) (fun x71 b3 => ?_)
      exact sRet ⟨(by show 0 ≤ th_.toInt; first | omega | assumption), (by show th_.toInt ≤ 2; first | omega | assumption), trivial⟩
    · have fh1 := leF h1
      refine sIfF (noob (by omega) (by omega)) ?_
      refine sIfF (noob (by omega) (by omega)) ?_
      refine sIfF (noob (by omega) (by omega)) ?_
      refine sIfF (noob (by omega) (by omega)) ?_
      have t4 := addI (a := l3) (b := (1 : Int32)) (by omega) (by omega)
      exact ih _ _ _ _ (by omega) (by first | omega | decide) (by first | omega | decide) (by first | omega | decide) (by first | omega | decide) (by first | omega | decide) (by first | omega | decide) (by first | omega | decide) (by first | omega | decide)
set_option maxHeartbeats 2000000 in
theorem s_X7_copy_24 {N K : Nat} {th : Int32} {f : Nat → Int32} {f2 : Nat → Int32} {t : Nat → Int32} {p0 : Int32} {p1 : Int32} (hN : NBig N) (hK : 100 ≤ K)  : ∀ (s0 : Int32) (th_ : Int32) (f2_ : Nat → Int32) (t_ : Nat → Int32), 0 ≤ s0.toInt → s0.toInt ≤ 1 → (s0.toInt = 0 → 0 ≤ p0.toInt ∧ p0.toInt ≤ 2 ∧ 0 ≤ p1.toInt ∧ p1.toInt ≤ 2) → Sf (fX7_copy_24 N K th f f2 t p0 p1  s0 th_ f2_ t_) (fun (z : Int32 × Int32 × (Nat → Int32) × (Nat → Int32)) => 0 ≤ z.2.1.toInt ∧ z.2.1.toInt ≤ 2 ∧ True) := by
  intro s0 th_ f2_ t_ hq0 hq1 hq2
  unfold fX7_copy_24
  have hN9 := hN.u
  have ql0 : (0 : Int32).toInt = 0 := by decide
  refine sBind (s_X7_isThrown hN hK (by first | omega | decide) (by first | omega | decide) (by first | omega | decide) (by first | omega | decide)) (fun x25 b1 => ?_)
  obtain ⟨b1_0, b1_1, b1_2, b1_3, b1_4, b1_5, -⟩ := b1
  replace b1_0 : 0 ≤ x25.1.toInt := b1_0
  replace b1_1 : x25.1.toInt ≤ 1 := b1_1
  replace b1_2 : 0 ≤ x25.2.toInt := b1_2
  replace b1_3 : x25.2.toInt ≤ 2 := b1_3
  replace b1_4 : (x25.1.toInt = 0 → (0 ≤ s0.toInt ∧ s0.toInt ≤ 0)) := b1_4
  replace b1_5 : (x25.1.toInt = 0 → (0 ≤ (0 : Int32).toInt ∧ (0 : Int32).toInt ≤ 0)) := b1_5
  refine sIf (fun h2 => ?_) (fun h2 => ?_)
  · have fh2 := eqT h2
    exact s_X7_copy_35  hN hK _ _ _ _ _ (by omega) (by first | omega | decide) (by first | omega | decide) (by first | omega | decide) (by first | omega | decide) (by first | omega | decide) (by first | omega | decide) (by first | omega | decide) (by first | omega | decide)
  · have fh2 := eqF h2
    exact sRet ⟨(by show 0 ≤ x25.2.toInt; first | omega | assumption), (by show x25.2.toInt ≤ 2; first | omega | assumption), trivial⟩
set_option maxHeartbeats 2000000 in
theorem s_X7_copy_19 {N K : Nat} {th : Int32} {f : Nat → Int32} {f2 : Nat → Int32} {t : Nat → Int32} {p0 : Int32} {p1 : Int32} (hN : NBig N) (hK : 100 ≤ K)  : ∀ (th_ : Int32) (f2_ : Nat → Int32) (t_ : Nat → Int32), Sf (fX7_copy_19 N K th f f2 t p0 p1  th_ f2_ t_) (fun (z : Int32 × Int32 × (Nat → Int32) × (Nat → Int32)) => 0 ≤ z.2.1.toInt ∧ z.2.1.toInt ≤ 2 ∧ True) := by
  intro th_ f2_ t_ 
  unfold fX7_copy_19
  have ql0 : (0 : Int32).toInt = 0 := by decide
  have ql1 : (1 : Int32).toInt = 1 := by decide
  exact s_X7_copy_24  hN hK _ _ _ _ (by first | omega | decide) (by first | omega | decide) (by first | omega | decide)
set_option maxHeartbeats 2000000 in
theorem s_X7_copy {N K : Nat} {th : Int32} {f : Nat → Int32} {f2 : Nat → Int32} {t : Nat → Int32} {p0 : Int32} {p1 : Int32} (hN : NBig N) (hK : 100 ≤ K)  : Sf (fX7_copy N K th f f2 t p0 p1) (fun (z : Int32 × Int32 × (Nat → Int32) × (Nat → Int32)) => 0 ≤ z.2.1.toInt ∧ z.2.1.toInt ≤ 2 ∧ True) := by
  unfold fX7_copy
  have ql0 : (0 : Int32).toInt = 0 := by decide
  have ql2 : (2 : Int32).toInt = 2 := by decide
  refine sBind (s_X7_isNo hN hK (by first | omega | decide) (by first | omega | decide) (by first | omega | decide) (by first | omega | decide)) (fun x4 b1 => ?_)
  obtain ⟨b1_0, b1_1, b1_2, -⟩ := b1
  replace b1_0 : 0 ≤ x4.toInt := b1_0
  replace b1_1 : x4.toInt ≤ 1 := b1_1
  replace b1_2 : (x4.toInt = 0 → ((0 : Int32).toInt ≤ p0.toInt ∧ p0.toInt ≤ (2 : Int32).toInt)) := b1_2
  refine sIf (fun h2 => ?_) (fun h2 => ?_)
  · have fh2 := eqT h2
    refine sBind (s_X7_isNo hN hK (by first | omega | decide) (by first | omega | decide) (by first | omega | decide) (by first | omega | decide)) (fun x13 b3 => ?_)
    obtain ⟨b3_0, b3_1, b3_2, -⟩ := b3
    replace b3_0 : 0 ≤ x13.toInt := b3_0
    replace b3_1 : x13.toInt ≤ 1 := b3_1
    replace b3_2 : (x13.toInt = 0 → ((0 : Int32).toInt ≤ p1.toInt ∧ p1.toInt ≤ (2 : Int32).toInt)) := b3_2
    refine sIf (fun h4 => ?_) (fun h4 => ?_)
    · have fh4 := eqT h4
      exact s_X7_copy_24  hN hK _ _ _ _ (by first | omega | decide) (by first | omega | decide) (by first | omega | decide)
    · have fh4 := eqF h4
      exact s_X7_copy_19  hN hK _ _ _
  · have fh2 := eqF h2
    exact s_X7_copy_19  hN hK _ _ _
set_option maxHeartbeats 2000000 in
theorem s_X7_copyOwn_35 {N K : Nat} {th : Int32} {f : Nat → Int32} {t : Nat → Int32} {p0 : Int32} (hN : NBig N) (hK : 100 ≤ K)  : ∀ (fu : Nat) (l3 : Int32) (th_ : Int32) (f_ : (Nat → Int32)) (t_ : (Nat → Int32)), (6144 - l3.toInt).toNat < fu → 0 ≤ p0.toInt → p0.toInt ≤ 2 → 0 ≤ l3.toInt → l3.toInt ≤ 6144 → 0 ≤ th_.toInt → th_.toInt ≤ 2 → Sf (fX7_copyOwn_35 N K th f t p0  fu l3 th_ f_ t_) (fun (z : Int32 × Int32 × (Nat → Int32) × (Nat → Int32)) => 0 ≤ z.2.1.toInt ∧ z.2.1.toInt ≤ 2 ∧ True) := by
  intro fu
  induction fu with
  | zero => intro l3 th_ f_ t_ h0 hq0 hq1 hq2 hq3 hq4 hq5; omega
  | succ fu ih =>
    intro l3 th_ f_ t_ h0 hq0 hq1 hq2 hq3 hq4 hq5
    unfold fX7_copyOwn_35
    have ql0 : (0 : Int32).toInt = 0 := by decide
    have ql1 : (1 : Int32).toInt = 1 := by decide
    have ql6144 : (6144 : Int32).toInt = 6144 := by decide
    refine sIf (fun h1 => ?_) (fun h1 => ?_)
    · have fh1 := leT h1
      refine sBind (s_X7_told2 hN hK (by first | omega | decide) (by first | omega | decide) (by first | omega | decide) (by first | omega | decide) (by first | omega | decide) (by first | omega | decide)) (fun x68 b2 => ?_)
      refine sBind (s_X7_done hN hK (by first | omega | decide) (by first | omega | decide)) (fun x71 b3 => ?_)
      exact sRet ⟨(by show 0 ≤ th_.toInt; first | omega | assumption), (by show th_.toInt ≤ 2; first | omega | assumption), trivial⟩
    · have fh1 := leF h1
      refine sIfF (noob (by omega) (by omega)) ?_
      refine sIfF (noob (by omega) (by omega)) ?_
      refine sIfF (noob (by omega) (by omega)) ?_
      refine sIfF (noob (by omega) (by omega)) ?_
      have t4 := addI (a := l3) (b := (1 : Int32)) (by omega) (by omega)
      exact ih _ _ _ _ (by omega) (by first | omega | decide) (by first | omega | decide) (by first | omega | decide) (by first | omega | decide) (by first | omega | decide) (by first | omega | decide)
set_option maxHeartbeats 2000000 in
theorem s_X7_copyOwn_24 {N K : Nat} {th : Int32} {f : Nat → Int32} {t : Nat → Int32} {p0 : Int32} (hN : NBig N) (hK : 100 ≤ K)  : ∀ (s0 : Int32) (th_ : Int32) (f_ : Nat → Int32) (t_ : Nat → Int32), 0 ≤ s0.toInt → s0.toInt ≤ 1 → (s0.toInt = 0 → 0 ≤ p0.toInt ∧ p0.toInt ≤ 2) → Sf (fX7_copyOwn_24 N K th f t p0  s0 th_ f_ t_) (fun (z : Int32 × Int32 × (Nat → Int32) × (Nat → Int32)) => 0 ≤ z.2.1.toInt ∧ z.2.1.toInt ≤ 2 ∧ True) := by
  intro s0 th_ f_ t_ hq0 hq1 hq2
  unfold fX7_copyOwn_24
  have hN9 := hN.u
  have ql0 : (0 : Int32).toInt = 0 := by decide
  refine sBind (s_X7_isThrown hN hK (by first | omega | decide) (by first | omega | decide) (by first | omega | decide) (by first | omega | decide)) (fun x25 b1 => ?_)
  obtain ⟨b1_0, b1_1, b1_2, b1_3, b1_4, b1_5, -⟩ := b1
  replace b1_0 : 0 ≤ x25.1.toInt := b1_0
  replace b1_1 : x25.1.toInt ≤ 1 := b1_1
  replace b1_2 : 0 ≤ x25.2.toInt := b1_2
  replace b1_3 : x25.2.toInt ≤ 2 := b1_3
  replace b1_4 : (x25.1.toInt = 0 → (0 ≤ s0.toInt ∧ s0.toInt ≤ 0)) := b1_4
  replace b1_5 : (x25.1.toInt = 0 → (0 ≤ (0 : Int32).toInt ∧ (0 : Int32).toInt ≤ 0)) := b1_5
  refine sIf (fun h2 => ?_) (fun h2 => ?_)
  · have fh2 := eqT h2
    exact s_X7_copyOwn_35  hN hK _ _ _ _ _ (by omega) (by first | omega | decide) (by first | omega | decide) (by first | omega | decide) (by first | omega | decide) (by first | omega | decide) (by first | omega | decide)
  · have fh2 := eqF h2
    exact sRet ⟨(by show 0 ≤ x25.2.toInt; first | omega | assumption), (by show x25.2.toInt ≤ 2; first | omega | assumption), trivial⟩
set_option maxHeartbeats 2000000 in
theorem s_X7_copyOwn_19 {N K : Nat} {th : Int32} {f : Nat → Int32} {t : Nat → Int32} {p0 : Int32} (hN : NBig N) (hK : 100 ≤ K)  : ∀ (th_ : Int32) (f_ : Nat → Int32) (t_ : Nat → Int32), Sf (fX7_copyOwn_19 N K th f t p0  th_ f_ t_) (fun (z : Int32 × Int32 × (Nat → Int32) × (Nat → Int32)) => 0 ≤ z.2.1.toInt ∧ z.2.1.toInt ≤ 2 ∧ True) := by
  intro th_ f_ t_ 
  unfold fX7_copyOwn_19
  have ql0 : (0 : Int32).toInt = 0 := by decide
  have ql1 : (1 : Int32).toInt = 1 := by decide
  exact s_X7_copyOwn_24  hN hK _ _ _ _ (by first | omega | decide) (by first | omega | decide) (by first | omega | decide)
set_option maxHeartbeats 2000000 in
theorem s_X7_copyOwn {N K : Nat} {th : Int32} {f : Nat → Int32} {t : Nat → Int32} {p0 : Int32} (hN : NBig N) (hK : 100 ≤ K)  : Sf (fX7_copyOwn N K th f t p0) (fun (z : Int32 × Int32 × (Nat → Int32) × (Nat → Int32)) => 0 ≤ z.2.1.toInt ∧ z.2.1.toInt ≤ 2 ∧ True) := by
  unfold fX7_copyOwn
  have ql0 : (0 : Int32).toInt = 0 := by decide
  have ql2 : (2 : Int32).toInt = 2 := by decide
  refine sBind (s_X7_isNo hN hK (by first | omega | decide) (by first | omega | decide) (by first | omega | decide) (by first | omega | decide)) (fun x4 b1 => ?_)
  obtain ⟨b1_0, b1_1, b1_2, -⟩ := b1
  replace b1_0 : 0 ≤ x4.toInt := b1_0
  replace b1_1 : x4.toInt ≤ 1 := b1_1
  replace b1_2 : (x4.toInt = 0 → ((0 : Int32).toInt ≤ p0.toInt ∧ p0.toInt ≤ (2 : Int32).toInt)) := b1_2
  refine sIf (fun h2 => ?_) (fun h2 => ?_)
  · have fh2 := eqT h2
    refine sBind (s_X7_isNo hN hK (by first | omega | decide) (by first | omega | decide) (by first | omega | decide) (by first | omega | decide)) (fun x13 b3 => ?_)
    obtain ⟨b3_0, b3_1, b3_2, -⟩ := b3
    replace b3_0 : 0 ≤ x13.toInt := b3_0
    replace b3_1 : x13.toInt ≤ 1 := b3_1
    replace b3_2 : (x13.toInt = 0 → ((0 : Int32).toInt ≤ p0.toInt ∧ p0.toInt ≤ (2 : Int32).toInt)) := b3_2
    refine sIf (fun h4 => ?_) (fun h4 => ?_)
    · have fh4 := eqT h4
      exact s_X7_copyOwn_24  hN hK _ _ _ _ (by first | omega | decide) (by first | omega | decide) (by first | omega | decide)
    · have fh4 := eqF h4
      exact s_X7_copyOwn_19  hN hK _ _ _
  · have fh2 := eqF h2
    exact s_X7_copyOwn_19  hN hK _ _ _
set_option maxHeartbeats 2000000 in
theorem s_X7_pour_91 {N K : Nat} {th : Int32} {f : Nat → Int32} {f2 : Nat → Int32} {t : Nat → Int32} {p0 : Int32} {p1 : Int32} (hN : NBig N) (hK : 100 ≤ K)  {k_53 : Int32 → Int32 → Int32 → (Nat → Int32) → (Nat → Int32) → Option (Int32 × Int32 × (Nat → Int32) × (Nat → Int32))} {m_53 : Nat} (hk_53 : ∀ (l3 : Int32) (l4 : Int32) (th_ : Int32) (f2_ : (Nat → Int32)) (t_ : (Nat → Int32)), (6144 - l4.toInt).toNat < m_53 → 0 ≤ p0.toInt → p0.toInt ≤ 2 → 0 ≤ p1.toInt → p1.toInt ≤ 2 → 0 ≤ l4.toInt → l4.toInt ≤ 6144 → 0 ≤ th_.toInt → th_.toInt ≤ 2 → Sf (k_53 l3 l4 th_ f2_ t_) (fun (z : Int32 × Int32 × (Nat → Int32) × (Nat → Int32)) => 0 ≤ z.2.1.toInt ∧ z.2.1.toInt ≤ 2 ∧ True)) : ∀ (l3 : Int32) (l4 : Int32) (th_ : Int32) (f2_ : Nat → Int32) (t_ : Nat → Int32), 0 ≤ p0.toInt → p0.toInt ≤ 2 → 0 ≤ p1.toInt → p1.toInt ≤ 2 → 0 ≤ l4.toInt → l4.toInt ≤ 6143 → 0 ≤ th_.toInt → th_.toInt ≤ 2 → (6144 - l4.toInt).toNat ≤ m_53 → Sf (fX7_pour_91 N K th f f2 t p0 p1 k_53 l3 l4 th_ f2_ t_) (fun (z : Int32 × Int32 × (Nat → Int32) × (Nat → Int32)) => 0 ≤ z.2.1.toInt ∧ z.2.1.toInt ≤ 2 ∧ True) := by
  intro l3 l4 th_ f2_ t_ hq0 hq1 hq2 hq3 hq4 hq5 hq6 hq7 hq8
  unfold fX7_pour_91
  have ql0 : (0 : Int32).toInt = 0 := by decide
  have ql1 : (1 : Int32).toInt = 1 := by decide
  have t1 := addI (a := l4) (b := (1 : Int32)) (by omega) (by omega)
  exact hk_53 _ _ _ _ _ (by omega) (by first | omega | decide) (by first | omega | decide) (by first | omega | decide) (by first | omega | decide) (by first | omega | decide) (by first | omega | decide) (by first | omega | decide) (by first | omega | decide)
set_option maxHeartbeats 2000000 in
theorem s_X7_pour_53 {N K : Nat} {th : Int32} {f : Nat → Int32} {f2 : Nat → Int32} {t : Nat → Int32} {p0 : Int32} {p1 : Int32} (hN : NBig N) (hK : 100 ≤ K)  : ∀ (fu : Nat) (l3 : Int32) (l4 : Int32) (th_ : Int32) (f2_ : (Nat → Int32)) (t_ : (Nat → Int32)), (6144 - l4.toInt).toNat < fu → 0 ≤ p0.toInt → p0.toInt ≤ 2 → 0 ≤ p1.toInt → p1.toInt ≤ 2 → 0 ≤ l4.toInt → l4.toInt ≤ 6144 → 0 ≤ th_.toInt → th_.toInt ≤ 2 → Sf (fX7_pour_53 N K th f f2 t p0 p1  fu l3 l4 th_ f2_ t_) (fun (z : Int32 × Int32 × (Nat → Int32) × (Nat → Int32)) => 0 ≤ z.2.1.toInt ∧ z.2.1.toInt ≤ 2 ∧ True) := by
  intro fu
  induction fu with
  | zero => intro l3 l4 th_ f2_ t_ h0 hq0 hq1 hq2 hq3 hq4 hq5 hq6 hq7; omega
  | succ fu ih =>
    intro l3 l4 th_ f2_ t_ h0 hq0 hq1 hq2 hq3 hq4 hq5 hq6 hq7
    unfold fX7_pour_53
    have ql0 : (0 : Int32).toInt = 0 := by decide
    have ql6144 : (6144 : Int32).toInt = 6144 := by decide
    refine sIf (fun h1 => ?_) (fun h1 => ?_)
    · have fh1 := leT h1
      refine sBind (s_X7_told2 hN hK (by first | omega | decide) (by first | omega | decide) (by first | omega | decide) (by first | omega | decide) (by first | omega | decide) (by first | omega | decide)) (fun x101 b2 => ?_)
      refine sBind (s_X7_done hN hK (by first | omega | decide) (by first | omega | decide)) (fun x106 b4 => ?_)
      exact sRet ⟨(by show 0 ≤ th_.toInt; first | omega | assumption), (by show th_.toInt ≤ 2; first | omega | assumption), trivial⟩
    · have fh1 := leF h1
      refine sIfF (noob (by omega) (by omega)) ?_
      refine sIfF (noob (by omega) (by omega)) ?_
      refine sIf (fun h5 => ?_) (fun h5 => ?_)
      · have fh5 := ltT h5
        exact s_X7_pour_91 (hk_53 := ih) hN hK _ _ _ _ _ (by first | omega | decide) (by first | omega | decide) (by first | omega | decide) (by first | omega | decide) (by first | omega | decide) (by first | omega | decide) (by first | omega | decide) (by first | omega | decide) (by omega)
      · have fh5 := ltF h5
        refine sIfF (noob (by omega) (by omega)) ?_
        refine sIfF (noob (by omega) (by omega)) ?_
        refine sIfF (noob (by omega) (by omega)) ?_
        refine sIfF (noob (by omega) (by omega)) ?_
        exact s_X7_pour_91 (hk_53 := ih) hN hK _ _ _ _ _ (by first | omega | decide) (by first | omega | decide) (by first | omega | decide) (by first | omega | decide) (by first | omega | decide) (by first | omega | decide) (by first | omega | decide) (by first | omega | decide) (by omega)
set_option maxHeartbeats 2000000 in
theorem s_X7_pour_24 {N K : Nat} {th : Int32} {f : Nat → Int32} {f2 : Nat → Int32} {t : Nat → Int32} {p0 : Int32} {p1 : Int32} (hN : NBig N) (hK : 100 ≤ K)  : ∀ (s0 : Int32) (th_ : Int32) (f2_ : Nat → Int32) (t_ : Nat → Int32), 0 ≤ s0.toInt → s0.toInt ≤ 1 → (s0.toInt = 0 → 0 ≤ p0.toInt ∧ p0.toInt ≤ 2 ∧ 0 ≤ p1.toInt ∧ p1.toInt ≤ 2) → Sf (fX7_pour_24 N K th f f2 t p0 p1  s0 th_ f2_ t_) (fun (z : Int32 × Int32 × (Nat → Int32) × (Nat → Int32)) => 0 ≤ z.2.1.toInt ∧ z.2.1.toInt ≤ 2 ∧ True) := by
  intro s0 th_ f2_ t_ hq0 hq1 hq2
  unfold fX7_pour_24
  have hN9 := hN.u
  have ql0 : (0 : Int32).toInt = 0 := by decide
  refine sBind (s_X7_isThrown hN hK (by first | omega | decide) (by first | omega | decide) (by first | omega | decide) (by first | omega | decide)) (fun x25 b1 => ?_)
  obtain ⟨b1_0, b1_1, b1_2, b1_3, b1_4, b1_5, -⟩ := b1
  replace b1_0 : 0 ≤ x25.1.toInt := b1_0
  replace b1_1 : x25.1.toInt ≤ 1 := b1_1
  replace b1_2 : 0 ≤ x25.2.toInt := b1_2
  replace b1_3 : x25.2.toInt ≤ 2 := b1_3
  replace b1_4 : (x25.1.toInt = 0 → (0 ≤ s0.toInt ∧ s0.toInt ≤ 0)) := b1_4
  replace b1_5 : (x25.1.toInt = 0 → (0 ≤ (0 : Int32).toInt ∧ (0 : Int32).toInt ≤ 0)) := b1_5
  refine sIf (fun h2 => ?_) (fun h2 => ?_)
  · have fh2 := eqT h2
    refine sIf (fun h3 => ?_) (fun h3 => ?_)
    · have fh3 := eqT h3
      refine sBind (s_X7_refused hN hK (by first | omega | decide) (by first | omega | decide)) (fun x39 b4 => ?_)
      obtain ⟨b4_0, b4_1, -⟩ := b4
      replace b4_0 : -9 ≤ x39.1.toInt := b4_0
      replace b4_1 : x39.1.toInt ≤ -9 := b4_1
      exact sRet ⟨(by show 0 ≤ x25.2.toInt; first | omega | assumption), (by show x25.2.toInt ≤ 2; first | omega | assumption), trivial⟩
    · have fh3 := eqF h3
      refine sBind (s_X7_told2 hN hK (by first | omega | decide) (by first | omega | decide) (by first | omega | decide) (by first | omega | decide) (by first | omega | decide) (by first | omega | decide)) (fun x46 b5 => ?_)
      exact s_X7_pour_53  hN hK _ _ _ _ _ _ (by omega) (by first | omega | decide) (by first | omega | decide) (by first | omega | decide) (by first | omega | decide) (by first | omega | decide) (by first | omega | decide) (by first | omega | decide) (by first | omega | decide)
  · have fh2 := eqF h2
    exact sRet ⟨(by show 0 ≤ x25.2.toInt; first | omega | assumption), (by show x25.2.toInt ≤ 2; first | omega | assumption), trivial⟩
set_option maxHeartbeats 2000000 in
theorem s_X7_pour_19 {N K : Nat} {th : Int32} {f : Nat → Int32} {f2 : Nat → Int32} {t : Nat → Int32} {p0 : Int32} {p1 : Int32} (hN : NBig N) (hK : 100 ≤ K)  : ∀ (th_ : Int32) (f2_ : Nat → Int32) (t_ : Nat → Int32), Sf (fX7_pour_19 N K th f f2 t p0 p1  th_ f2_ t_) (fun (z : Int32 × Int32 × (Nat → Int32) × (Nat → Int32)) => 0 ≤ z.2.1.toInt ∧ z.2.1.toInt ≤ 2 ∧ True) := by
  intro th_ f2_ t_ 
  unfold fX7_pour_19
  have ql0 : (0 : Int32).toInt = 0 := by decide
  have ql1 : (1 : Int32).toInt = 1 := by decide
  exact s_X7_pour_24  hN hK _ _ _ _ (by first | omega | decide) (by first | omega | decide) (by first | omega | decide)
set_option maxHeartbeats 2000000 in
theorem s_X7_pour {N K : Nat} {th : Int32} {f : Nat → Int32} {f2 : Nat → Int32} {t : Nat → Int32} {p0 : Int32} {p1 : Int32} (hN : NBig N) (hK : 100 ≤ K)  : Sf (fX7_pour N K th f f2 t p0 p1) (fun (z : Int32 × Int32 × (Nat → Int32) × (Nat → Int32)) => 0 ≤ z.2.1.toInt ∧ z.2.1.toInt ≤ 2 ∧ True) := by
  unfold fX7_pour
  have ql0 : (0 : Int32).toInt = 0 := by decide
  have ql2 : (2 : Int32).toInt = 2 := by decide
  refine sBind (s_X7_isNo hN hK (by first | omega | decide) (by first | omega | decide) (by first | omega | decide) (by first | omega | decide)) (fun x4 b1 => ?_)
  obtain ⟨b1_0, b1_1, b1_2, -⟩ := b1
  replace b1_0 : 0 ≤ x4.toInt := b1_0
  replace b1_1 : x4.toInt ≤ 1 := b1_1
  replace b1_2 : (x4.toInt = 0 → ((0 : Int32).toInt ≤ p0.toInt ∧ p0.toInt ≤ (2 : Int32).toInt)) := b1_2
  refine sIf (fun h2 => ?_) (fun h2 => ?_)
  · have fh2 := eqT h2
    refine sBind (s_X7_isNo hN hK (by first | omega | decide) (by first | omega | decide) (by first | omega | decide) (by first | omega | decide)) (fun x13 b3 => ?_)
    obtain ⟨b3_0, b3_1, b3_2, -⟩ := b3
    replace b3_0 : 0 ≤ x13.toInt := b3_0
    replace b3_1 : x13.toInt ≤ 1 := b3_1
    replace b3_2 : (x13.toInt = 0 → ((0 : Int32).toInt ≤ p1.toInt ∧ p1.toInt ≤ (2 : Int32).toInt)) := b3_2
    refine sIf (fun h4 => ?_) (fun h4 => ?_)
    · have fh4 := eqT h4
      exact s_X7_pour_24  hN hK _ _ _ _ (by first | omega | decide) (by first | omega | decide) (by first | omega | decide)
    · have fh4 := eqF h4
      exact s_X7_pour_19  hN hK _ _ _
  · have fh2 := eqF h2
    exact s_X7_pour_19  hN hK _ _ _
set_option maxHeartbeats 2000000 in
theorem s_X7_pourOwn_24 {N K : Nat} {th : Int32} {f : Nat → Int32} {t : Nat → Int32} {p0 : Int32} (hN : NBig N) (hK : 100 ≤ K)  : ∀ (s0 : Int32) (th_ : Int32) (t_ : Nat → Int32), 0 ≤ s0.toInt → s0.toInt ≤ 1 → (s0.toInt = 0 → 0 ≤ p0.toInt ∧ p0.toInt ≤ 2) → Sf (fX7_pourOwn_24 N K th f t p0  s0 th_ t_) (fun (z : Int32 × Int32 × (Nat → Int32)) => -9 ≤ z.1.toInt ∧ z.1.toInt ≤ 0 ∧ 0 ≤ z.2.1.toInt ∧ z.2.1.toInt ≤ 2 ∧ True) := by
  intro s0 th_ t_ hq0 hq1 hq2
  unfold fX7_pourOwn_24
  have ql0 : (0 : Int32).toInt = 0 := by decide
  refine sBind (s_X7_isThrown hN hK (by first | omega | decide) (by first | omega | decide) (by first | omega | decide) (by first | omega | decide)) (fun x25 b1 => ?_)
  obtain ⟨b1_0, b1_1, b1_2, b1_3, b1_4, b1_5, -⟩ := b1
  replace b1_0 : 0 ≤ x25.1.toInt := b1_0
  replace b1_1 : x25.1.toInt ≤ 1 := b1_1
  replace b1_2 : 0 ≤ x25.2.toInt := b1_2
  replace b1_3 : x25.2.toInt ≤ 2 := b1_3
  replace b1_4 : (x25.1.toInt = 0 → (0 ≤ s0.toInt ∧ s0.toInt ≤ 0)) := b1_4
  replace b1_5 : (x25.1.toInt = 0 → (0 ≤ (0 : Int32).toInt ∧ (0 : Int32).toInt ≤ 0)) := b1_5
  refine sIf (fun h2 => ?_) (fun h2 => ?_)
  · have fh2 := eqT h2
    refine sBind (s_X7_refused hN hK (by first | omega | decide) (by first | omega | decide)) (fun x39 b3 => ?_)
    obtain ⟨b3_0, b3_1, -⟩ := b3
    replace b3_0 : -9 ≤ x39.1.toInt := b3_0
    replace b3_1 : x39.1.toInt ≤ -9 := b3_1
    exact sRet ⟨(by show -9 ≤ x39.1.toInt; first | omega | assumption), (by show x39.1.toInt ≤ 0; first | omega | assumption), (by show 0 ≤ x25.2.toInt; first | omega | assumption), (by show x25.2.toInt ≤ 2; first | omega | assumption), trivial⟩
  · have fh2 := eqF h2
    exact sRet ⟨(by show -9 ≤ (0 : Int32).toInt; decide), (by show (0 : Int32).toInt ≤ 0; decide), (by show 0 ≤ x25.2.toInt; first | omega | assumption), (by show x25.2.toInt ≤ 2; first | omega | assumption), trivial⟩
set_option maxHeartbeats 2000000 in
theorem s_X7_pourOwn_19 {N K : Nat} {th : Int32} {f : Nat → Int32} {t : Nat → Int32} {p0 : Int32} (hN : NBig N) (hK : 100 ≤ K)  : ∀ (th_ : Int32) (t_ : Nat → Int32), Sf (fX7_pourOwn_19 N K th f t p0  th_ t_) (fun (z : Int32 × Int32 × (Nat → Int32)) => -9 ≤ z.1.toInt ∧ z.1.toInt ≤ 0 ∧ 0 ≤ z.2.1.toInt ∧ z.2.1.toInt ≤ 2 ∧ True) := by
  intro th_ t_ 
  unfold fX7_pourOwn_19
  have ql0 : (0 : Int32).toInt = 0 := by decide
  have ql1 : (1 : Int32).toInt = 1 := by decide
  exact s_X7_pourOwn_24  hN hK _ _ _ (by first | omega | decide) (by first | omega | decide) (by first | omega | decide)
set_option maxHeartbeats 2000000 in
theorem s_X7_pourOwn {N K : Nat} {th : Int32} {f : Nat → Int32} {t : Nat → Int32} {p0 : Int32} (hN : NBig N) (hK : 100 ≤ K)  : Sf (fX7_pourOwn N K th f t p0) (fun (z : Int32 × Int32 × (Nat → Int32)) => -9 ≤ z.1.toInt ∧ z.1.toInt ≤ 0 ∧ 0 ≤ z.2.1.toInt ∧ z.2.1.toInt ≤ 2 ∧ True) := by
  unfold fX7_pourOwn
  have ql0 : (0 : Int32).toInt = 0 := by decide
  have ql2 : (2 : Int32).toInt = 2 := by decide
  refine sBind (s_X7_isNo hN hK (by first | omega | decide) (by first | omega | decide) (by first | omega | decide) (by first | omega | decide)) (fun x4 b1 => ?_)
  obtain ⟨b1_0, b1_1, b1_2, -⟩ := b1
  replace b1_0 : 0 ≤ x4.toInt := b1_0
  replace b1_1 : x4.toInt ≤ 1 := b1_1
  replace b1_2 : (x4.toInt = 0 → ((0 : Int32).toInt ≤ p0.toInt ∧ p0.toInt ≤ (2 : Int32).toInt)) := b1_2
  refine sIf (fun h2 => ?_) (fun h2 => ?_)
  · have fh2 := eqT h2
    refine sBind (s_X7_isNo hN hK (by first | omega | decide) (by first | omega | decide) (by first | omega | decide) (by first | omega | decide)) (fun x13 b3 => ?_)
    obtain ⟨b3_0, b3_1, b3_2, -⟩ := b3
    replace b3_0 : 0 ≤ x13.toInt := b3_0
    replace b3_1 : x13.toInt ≤ 1 := b3_1
    replace b3_2 : (x13.toInt = 0 → ((0 : Int32).toInt ≤ p0.toInt ∧ p0.toInt ≤ (2 : Int32).toInt)) := b3_2
    refine sIf (fun h4 => ?_) (fun h4 => ?_)
    · have fh4 := eqT h4
      exact s_X7_pourOwn_24  hN hK _ _ _ (by first | omega | decide) (by first | omega | decide) (by first | omega | decide)
    · have fh4 := eqF h4
      exact s_X7_pourOwn_19  hN hK _ _
  · have fh2 := eqF h2
    exact s_X7_pourOwn_19  hN hK _ _
set_option maxHeartbeats 2000000 in
theorem s_X7_isKept_32 {N K : Nat} {th : Int32} {f : Nat → Int32} {p0 : Int32} {p1 : Int32} {p2 : Int32} {p3 : Int32} {p4 : Int32} (hN : NBig N) (hK : 100 ≤ K)  : ∀ (s0 : Int32) (s1 : Int32) (th_ : Int32), 0 ≤ s0.toInt → s0.toInt ≤ 1 → 0 ≤ s1.toInt → s1.toInt ≤ 1 → (s0.toInt = 0 → 0 ≤ p1.toInt ∧ p1.toInt ≤ 5 ∧ 0 ≤ p2.toInt ∧ p2.toInt ≤ 20 ∧ 0 ≤ p3.toInt ∧ p3.toInt ≤ 20 ∧ 0 ≤ p4.toInt ∧ p4.toInt ≤ 2) → (s1.toInt = 0 → 0 ≤ p0.toInt ∧ p0.toInt ≤ 2) → Sf (fX7_isKept_32 N K th f p0 p1 p2 p3 p4  s0 s1 th_) (fun (z : Int32 × Int32) => 0 ≤ z.1.toInt ∧ z.1.toInt ≤ 1 ∧ 0 ≤ z.2.toInt ∧ z.2.toInt ≤ 2 ∧ True) := by
  intro s0 s1 th_ hq0 hq1 hq2 hq3 hq4 hq5
  unfold fX7_isKept_32
  have ql0 : (0 : Int32).toInt = 0 := by decide
  have ql1 : (1 : Int32).toInt = 1 := by decide
  refine sBind (s_X7_isThrown hN hK (by first | omega | decide) (by first | omega | decide) (by first | omega | decide) (by first | omega | decide)) (fun x32 b1 => ?_)
  obtain ⟨b1_0, b1_1, b1_2, b1_3, b1_4, b1_5, -⟩ := b1
  replace b1_0 : 0 ≤ x32.1.toInt := b1_0
  replace b1_1 : x32.1.toInt ≤ 1 := b1_1
  replace b1_2 : 0 ≤ x32.2.toInt := b1_2
  replace b1_3 : x32.2.toInt ≤ 2 := b1_3
  replace b1_4 : (x32.1.toInt = 0 → (0 ≤ s1.toInt ∧ s1.toInt ≤ 0)) := b1_4
  replace b1_5 : (x32.1.toInt = 0 → (0 ≤ s0.toInt ∧ s0.toInt ≤ 0)) := b1_5
  refine sIf (fun h2 => ?_) (fun h2 => ?_)
  · have fh2 := eqT h2
    refine sBind (s_X7_kept hN hK (by first | omega | decide) (by first | omega | decide) (by first | omega | decide) (by first | omega | decide) (by first | omega | decide) (by first | omega | decide) (by first | omega | decide) (by first | omega | decide) (by first | omega | decide) (by first | omega | decide)) (fun x44 b3 => ?_)
    refine sIf (fun h4 => ?_) (fun h4 => ?_)
    · have fh4 := ltT h4
      exact sRet ⟨(by show 0 ≤ (0 : Int32).toInt; decide), (by show (0 : Int32).toInt ≤ 1; decide), (by show 0 ≤ x32.2.toInt; first | omega | assumption), (by show x32.2.toInt ≤ 2; first | omega | assumption), trivial⟩
    · have fh4 := ltF h4
      exact sRet ⟨(by show 0 ≤ (1 : Int32).toInt; decide), (by show (1 : Int32).toInt ≤ 1; decide), (by show 0 ≤ x32.2.toInt; first | omega | assumption), (by show x32.2.toInt ≤ 2; first | omega | assumption), trivial⟩
  · have fh2 := eqF h2
    exact sRet ⟨(by show 0 ≤ (0 : Int32).toInt; decide), (by show (0 : Int32).toInt ≤ 1; decide), (by show 0 ≤ x32.2.toInt; first | omega | assumption), (by show x32.2.toInt ≤ 2; first | omega | assumption), trivial⟩
set_option maxHeartbeats 2000000 in
theorem s_X7_isKept_27 {N K : Nat} {th : Int32} {f : Nat → Int32} {p0 : Int32} {p1 : Int32} {p2 : Int32} {p3 : Int32} {p4 : Int32} (hN : NBig N) (hK : 100 ≤ K)  : ∀ (s0 : Int32) (th_ : Int32), 0 ≤ s0.toInt → s0.toInt ≤ 1 → (s0.toInt = 0 → 0 ≤ p0.toInt ∧ p0.toInt ≤ 2) → Sf (fX7_isKept_27 N K th f p0 p1 p2 p3 p4  s0 th_) (fun (z : Int32 × Int32) => 0 ≤ z.1.toInt ∧ z.1.toInt ≤ 1 ∧ 0 ≤ z.2.toInt ∧ z.2.toInt ≤ 2 ∧ True) := by
  intro s0 th_ hq0 hq1 hq2
  unfold fX7_isKept_27
  have ql0 : (0 : Int32).toInt = 0 := by decide
  have ql1 : (1 : Int32).toInt = 1 := by decide
  exact s_X7_isKept_32  hN hK _ _ _ (by first | omega | decide) (by first | omega | decide) (by first | omega | decide) (by first | omega | decide) (by first | omega | decide) (by first | omega | decide)
set_option maxHeartbeats 2000000 in
theorem s_X7_isKept {N K : Nat} {th : Int32} {f : Nat → Int32} {p0 : Int32} {p1 : Int32} {p2 : Int32} {p3 : Int32} {p4 : Int32} (hN : NBig N) (hK : 100 ≤ K)  : Sf (fX7_isKept N K th f p0 p1 p2 p3 p4) (fun (z : Int32 × Int32) => 0 ≤ z.1.toInt ∧ z.1.toInt ≤ 1 ∧ 0 ≤ z.2.toInt ∧ z.2.toInt ≤ 2 ∧ True) := by
  unfold fX7_isKept
  have ql0 : (0 : Int32).toInt = 0 := by decide
  have ql2 : (2 : Int32).toInt = 2 := by decide
  refine sBind (s_X7_isNo hN hK (by first | omega | decide) (by first | omega | decide) (by first | omega | decide) (by first | omega | decide)) (fun x4 b1 => ?_)
  obtain ⟨b1_0, b1_1, b1_2, -⟩ := b1
  replace b1_0 : 0 ≤ x4.toInt := b1_0
  replace b1_1 : x4.toInt ≤ 1 := b1_1
  replace b1_2 : (x4.toInt = 0 → ((0 : Int32).toInt ≤ p0.toInt ∧ p0.toInt ≤ (2 : Int32).toInt)) := b1_2
  refine sBind (s_X7_isOut hN hK) (fun x11 b2 => ?_)
  obtain ⟨b2_0, b2_1, b2_2, b2_3, b2_4, -⟩ := b2
  replace b2_0 : 0 ≤ x11.toInt := b2_0
  replace b2_1 : x11.toInt ≤ 1 := b2_1
  replace b2_2 : (x11.toInt = 0 → (0 ≤ p1.toInt ∧ p1.toInt ≤ 5)) := b2_2
  replace b2_3 : (x11.toInt = 0 → (0 ≤ p2.toInt ∧ p2.toInt ≤ 20)) := b2_3
  replace b2_4 : (x11.toInt = 0 → (0 ≤ p3.toInt ∧ p3.toInt ≤ 20)) := b2_4
  refine sIf (fun h3 => ?_) (fun h3 => ?_)
  · have fh3 := eqT h3
    refine sBind (s_X7_isNo hN hK (by first | omega | decide) (by first | omega | decide) (by first | omega | decide) (by first | omega | decide)) (fun x21 b4 => ?_)
    obtain ⟨b4_0, b4_1, b4_2, -⟩ := b4
    replace b4_0 : 0 ≤ x21.toInt := b4_0
    replace b4_1 : x21.toInt ≤ 1 := b4_1
    replace b4_2 : (x21.toInt = 0 → ((0 : Int32).toInt ≤ p4.toInt ∧ p4.toInt ≤ (2 : Int32).toInt)) := b4_2
    refine sIf (fun h5 => ?_) (fun h5 => ?_)
    · have fh5 := eqT h5
      exact s_X7_isKept_32  hN hK _ _ _ (by first | omega | decide) (by first | omega | decide) (by first | omega | decide) (by first | omega | decide) (by first | omega | decide) (by first | omega | decide)
    · have fh5 := eqF h5
      exact s_X7_isKept_27  hN hK _ _ (by first | omega | decide) (by first | omega | decide) (by first | omega | decide)
  · have fh3 := eqF h3
    exact s_X7_isKept_27  hN hK _ _ (by first | omega | decide) (by first | omega | decide) (by first | omega | decide)
set_option maxHeartbeats 2000000 in
theorem s_X7_worthOr {N K : Nat} {th : Int32} {f : Nat → Int32} {p0 : Int32} {p1 : Int32} {p2 : Int32} {p3 : Int32} {p4 : Int32} (hN : NBig N) (hK : 100 ≤ K)  : Sf (fX7_worthOr N K th f p0 p1 p2 p3 p4) (fun (z : Int32 × Int32) => 0 ≤ z.2.toInt ∧ z.2.toInt ≤ 2 ∧ True) := by
  unfold fX7_worthOr
  have ql0 : (0 : Int32).toInt = 0 := by decide
  have ql2 : (2 : Int32).toInt = 2 := by decide
  refine sBind (s_X7_isNo hN hK (by first | omega | decide) (by first | omega | decide) (by first | omega | decide) (by first | omega | decide)) (fun x4 b1 => ?_)
  obtain ⟨b1_0, b1_1, b1_2, -⟩ := b1
  replace b1_0 : 0 ≤ x4.toInt := b1_0
  replace b1_1 : x4.toInt ≤ 1 := b1_1
  replace b1_2 : (x4.toInt = 0 → ((0 : Int32).toInt ≤ p0.toInt ∧ p0.toInt ≤ (2 : Int32).toInt)) := b1_2
  refine sBind (s_X7_isOut hN hK) (fun x11 b2 => ?_)
  obtain ⟨b2_0, b2_1, b2_2, b2_3, b2_4, -⟩ := b2
  replace b2_0 : 0 ≤ x11.toInt := b2_0
  replace b2_1 : x11.toInt ≤ 1 := b2_1
  replace b2_2 : (x11.toInt = 0 → (0 ≤ p1.toInt ∧ p1.toInt ≤ 5)) := b2_2
  replace b2_3 : (x11.toInt = 0 → (0 ≤ p2.toInt ∧ p2.toInt ≤ 20)) := b2_3
  replace b2_4 : (x11.toInt = 0 → (0 ≤ p3.toInt ∧ p3.toInt ≤ 20)) := b2_4
  refine sBind (s_X7_isThrown hN hK (by first | omega | decide) (by first | omega | decide) (by first | omega | decide) (by first | omega | decide)) (fun x14 b3 => ?_)
  obtain ⟨b3_0, b3_1, b3_2, b3_3, b3_4, b3_5, -⟩ := b3
  replace b3_0 : 0 ≤ x14.1.toInt := b3_0
  replace b3_1 : x14.1.toInt ≤ 1 := b3_1
  replace b3_2 : 0 ≤ x14.2.toInt := b3_2
  replace b3_3 : x14.2.toInt ≤ 2 := b3_3
  replace b3_4 : (x14.1.toInt = 0 → (0 ≤ x4.toInt ∧ x4.toInt ≤ 0)) := b3_4
  replace b3_5 : (x14.1.toInt = 0 → (0 ≤ x11.toInt ∧ x11.toInt ≤ 0)) := b3_5
  refine sIf (fun h4 => ?_) (fun h4 => ?_)
  · have fh4 := eqT h4
    refine sBind (s_X7_kept hN hK (by first | omega | decide) (by first | omega | decide) (by first | omega | decide) (by first | omega | decide) (by first | omega | decide) (by first | omega | decide) (by first | omega | decide) (by first | omega | decide) (by first | omega | decide) (by first | omega | decide)) (fun x28 b5 => ?_)
    refine sIf (fun h6 => ?_) (fun h6 => ?_)
    · have fh6 := leT h6
      exact sRet ⟨(by show 0 ≤ x14.2.toInt; first | omega | assumption), (by show x14.2.toInt ≤ 2; first | omega | assumption), trivial⟩
    · have fh6 := leF h6
      exact sRet ⟨(by show 0 ≤ x14.2.toInt; first | omega | assumption), (by show x14.2.toInt ≤ 2; first | omega | assumption), trivial⟩
  · have fh4 := eqF h4
    exact sRet ⟨(by show 0 ≤ x14.2.toInt; first | omega | assumption), (by show x14.2.toInt ≤ 2; first | omega | assumption), trivial⟩
set_option maxHeartbeats 2000000 in
theorem s_X7_confirm {N K : Nat} {th : Int32} {f : Nat → Int32} {p0 : Int32} {p1 : Int32} {p2 : Int32} {p3 : Int32} {p4 : Int32} (hN : NBig N) (hK : 100 ≤ K)  : Sf (fX7_confirm N K th f p0 p1 p2 p3 p4) (fun (z : Int32 × Int32) => 0 ≤ z.1.toInt ∧ z.1.toInt ≤ 1 ∧ 0 ≤ z.2.toInt ∧ z.2.toInt ≤ 2 ∧ True) := by
  unfold fX7_confirm
  have ql0 : (0 : Int32).toInt = 0 := by decide
  have ql1 : (1 : Int32).toInt = 1 := by decide
  have ql2 : (2 : Int32).toInt = 2 := by decide
  refine sBind (s_X7_isNo hN hK (by first | omega | decide) (by first | omega | decide) (by first | omega | decide) (by first | omega | decide)) (fun x4 b1 => ?_)
  obtain ⟨b1_0, b1_1, b1_2, -⟩ := b1
  replace b1_0 : 0 ≤ x4.toInt := b1_0
  replace b1_1 : x4.toInt ≤ 1 := b1_1
  replace b1_2 : (x4.toInt = 0 → ((0 : Int32).toInt ≤ p0.toInt ∧ p0.toInt ≤ (2 : Int32).toInt)) := b1_2
  refine sBind (s_X7_isOut hN hK) (fun x11 b2 => ?_)
  obtain ⟨b2_0, b2_1, b2_2, b2_3, b2_4, -⟩ := b2
  replace b2_0 : 0 ≤ x11.toInt := b2_0
  replace b2_1 : x11.toInt ≤ 1 := b2_1
  replace b2_2 : (x11.toInt = 0 → (0 ≤ p1.toInt ∧ p1.toInt ≤ 5)) := b2_2
  replace b2_3 : (x11.toInt = 0 → (0 ≤ p2.toInt ∧ p2.toInt ≤ 20)) := b2_3
  replace b2_4 : (x11.toInt = 0 → (0 ≤ p3.toInt ∧ p3.toInt ≤ 20)) := b2_4
  refine sBind (s_X7_isThrown hN hK (by first | omega | decide) (by first | omega | decide) (by first | omega | decide) (by first | omega | decide)) (fun x14 b3 => ?_)
  obtain ⟨b3_0, b3_1, b3_2, b3_3, b3_4, b3_5, -⟩ := b3
  replace b3_0 : 0 ≤ x14.1.toInt := b3_0
  replace b3_1 : x14.1.toInt ≤ 1 := b3_1
  replace b3_2 : 0 ≤ x14.2.toInt := b3_2
  replace b3_3 : x14.2.toInt ≤ 2 := b3_3
  replace b3_4 : (x14.1.toInt = 0 → (0 ≤ x4.toInt ∧ x4.toInt ≤ 0)) := b3_4
  replace b3_5 : (x14.1.toInt = 0 → (0 ≤ x11.toInt ∧ x11.toInt ≤ 0)) := b3_5
  refine sIf (fun h4 => ?_) (fun h4 => ?_)
  · have fh4 := eqT h4
    refine sBind (s_X7_kept hN hK (by first | omega | decide) (by first | omega | decide) (by first | omega | decide) (by first | omega | decide) (by first | omega | decide) (by first | omega | decide) (by first | omega | decide) (by first | omega | decide) (by first | omega | decide) (by first | omega | decide)) (fun x28 b5 => ?_)
    refine sIf (fun h6 => ?_) (fun h6 => ?_)
    · have fh6 := ltT h6
      exact sRet ⟨(by show 0 ≤ (0 : Int32).toInt; decide), (by show (0 : Int32).toInt ≤ 1; decide), (by show 0 ≤ x14.2.toInt; first | omega | assumption), (by show x14.2.toInt ≤ 2; first | omega | assumption), trivial⟩
    · have fh6 := ltF h6
      refine sIf (fun h7 => ?_) (fun h7 => ?_)
      · have fh7 := eqT h7
        exact sRet ⟨(by show 0 ≤ (1 : Int32).toInt; decide), (by show (1 : Int32).toInt ≤ 1; decide), (by show 0 ≤ x14.2.toInt; first | omega | assumption), (by show x14.2.toInt ≤ 2; first | omega | assumption), trivial⟩
      · have fh7 := eqF h7
        exact sRet ⟨(by show 0 ≤ (0 : Int32).toInt; decide), (by show (0 : Int32).toInt ≤ 1; decide), (by show 0 ≤ x14.2.toInt; first | omega | assumption), (by show x14.2.toInt ≤ 2; first | omega | assumption), trivial⟩
  · have fh4 := eqF h4
    exact sRet ⟨(by show 0 ≤ (0 : Int32).toInt; decide), (by show (0 : Int32).toInt ≤ 1; decide), (by show 0 ≤ x14.2.toInt; first | omega | assumption), (by show x14.2.toInt ≤ 2; first | omega | assumption), trivial⟩
