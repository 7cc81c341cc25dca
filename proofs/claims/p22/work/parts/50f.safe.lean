set_option maxHeartbeats 2000000 in
theorem s_X7_legMeasure {N K : Nat} {p0 : Int32} {p1 : Int32} {p2 : Int32} (hN : NBig N) (hK : 100 ≤ K) (hp0 : 0 ≤ p0.toInt) (hp1 : p0.toInt ≤ 5) (hp2 : 1 ≤ p1.toInt) (hp3 : p1.toInt ≤ 20) (hp4 : 0 ≤ p2.toInt) (hp5 : p2.toInt ≤ 1) : Sf (fX7_legMeasure N K p0 p1 p2) (fun (z : Int32) => 0 ≤ z.toInt ∧ z.toInt ≤ 20 ∧ True) := by
  unfold fX7_legMeasure
  have ql0 : (0 : Int32).toInt = 0 := by decide
  have ql1 : (1 : Int32).toInt = 1 := by decide
  have ql3 : (3 : Int32).toInt = 3 := by decide
  have ql5 : (5 : Int32).toInt = 5 := by decide
  refine sIf (fun h1 => ?_) (fun h1 => ?_)
  · have fh1 := eqT h1
    refine sIf (fun h2 => ?_) (fun h2 => ?_)
    · have fh2 := eqT h2
      exact s_X7_legMeasure_36  hN hK (by omega) (by omega) (by omega) (by omega) (by omega) (by omega) _ (by first | omega | decide) (by first | omega | decide) (by first | omega | decide)
    · have fh2 := eqF h2
      exact s_X7_legMeasure_36  hN hK (by omega) (by omega) (by omega) (by omega) (by omega) (by omega) _ (by first | omega | decide) (by first | omega | decide) (by first | omega | decide)
  · have fh1 := eqF h1
    refine sIf (fun h3 => ?_) (fun h3 => ?_)
    · have fh3 := eqT h3
      exact s_X7_legMeasure_31  hN hK (by omega) (by omega) (by omega) (by omega) (by omega) (by omega)  (by first | omega | decide) (by first | omega | decide) (by first | omega | decide) (by first | omega | decide)
    · have fh3 := eqF h3
      refine sIf (fun h4 => ?_) (fun h4 => ?_)
      · have fh4 := eqT h4
        exact s_X7_legMeasure_31  hN hK (by omega) (by omega) (by omega) (by omega) (by omega) (by omega)  (by first | omega | decide) (by first | omega | decide) (by first | omega | decide) (by first | omega | decide)
      · have fh4 := eqF h4
        refine sIf (fun h5 => ?_) (fun h5 => ?_)
        · have fh5 := eqT h5
          exact s_X7_legMeasure_31  hN hK (by omega) (by omega) (by omega) (by omega) (by omega) (by omega)  (by first | omega | decide) (by first | omega | decide) (by first | omega | decide) (by first | omega | decide)
        · have fh5 := eqF h5
          exact s_X7_legMeasure_36  hN hK (by omega) (by omega) (by omega) (by omega) (by omega) (by omega) _ (by first | omega | decide) (by first | omega | decide) (by first | omega | decide)
set_option maxHeartbeats 2000000 in
theorem s_X7_thrown {N K : Nat} {th : Int32} (hN : NBig N) (hK : 100 ≤ K)  : Sf (fX7_thrown N K th) (fun (z : Int32) => True) := by
  unfold fX7_thrown
  have ql0 : (0 : Int32).toInt = 0 := by decide
  exact sRet trivial
set_option maxHeartbeats 2000000 in
theorem s_X7_isThrown_18 {N K : Nat} {th : Int32} {p0 : Int32} {p1 : Int32} (hN : NBig N) (hK : 100 ≤ K) (hp0 : 0 ≤ p0.toInt) (hp1 : p0.toInt ≤ 1) (hp2 : 0 ≤ p1.toInt) (hp3 : p1.toInt ≤ 1) : ∀ (s0 : Int32) (th_ : Int32), 0 ≤ s0.toInt → s0.toInt ≤ 2 → (s0.toInt = 0 → 0 ≤ p0.toInt ∧ p0.toInt ≤ 0 ∧ 0 ≤ p1.toInt ∧ p1.toInt ≤ 0) → Sf (fX7_isThrown_18 N K th p0 p1  s0 th_) (fun (z : Int32 × Int32) => 0 ≤ z.1.toInt ∧ z.1.toInt ≤ 1 ∧ 0 ≤ z.2.toInt ∧ z.2.toInt ≤ 2 ∧ (z.1.toInt = 0 → (0 ≤ p0.toInt ∧ p0.toInt ≤ 0)) ∧ (z.1.toInt = 0 → (0 ≤ p1.toInt ∧ p1.toInt ≤ 0)) ∧ True) := by
  intro s0 th_ hq0 hq1 hq2
  unfold fX7_isThrown_18
  have ql0 : (0 : Int32).toInt = 0 := by decide
  have ql1 : (1 : Int32).toInt = 1 := by decide
  refine sIf (fun h1 => ?_) (fun h1 => ?_)
  · have fh1 := leT h1
    exact sRet ⟨(by show 0 ≤ (0 : Int32).toInt; decide), (by show (0 : Int32).toInt ≤ 1; decide), (by show 0 ≤ s0.toInt; first | omega | assumption), (by show s0.toInt ≤ 2; first | omega | assumption), (by show ((0 : Int32).toInt = 0 → (0 ≤ p0.toInt ∧ p0.toInt ≤ 0)); first | omega | assumption), (by show ((0 : Int32).toInt = 0 → (0 ≤ p1.toInt ∧ p1.toInt ≤ 0)); first | omega | assumption), trivial⟩
  · have fh1 := leF h1
    exact sRet ⟨(by show 0 ≤ (1 : Int32).toInt; decide), (by show (1 : Int32).toInt ≤ 1; decide), (by show 0 ≤ s0.toInt; first | omega | assumption), (by show s0.toInt ≤ 2; first | omega | assumption), (by show ((1 : Int32).toInt = 0 → (0 ≤ p0.toInt ∧ p0.toInt ≤ 0)); first | omega | assumption), (by show ((1 : Int32).toInt = 0 → (0 ≤ p1.toInt ∧ p1.toInt ≤ 0)); first | omega | assumption), trivial⟩
set_option maxHeartbeats 2000000 in
theorem s_X7_isThrown {N K : Nat} {th : Int32} {p0 : Int32} {p1 : Int32} (hN : NBig N) (hK : 100 ≤ K) (hp0 : 0 ≤ p0.toInt) (hp1 : p0.toInt ≤ 1) (hp2 : 0 ≤ p1.toInt) (hp3 : p1.toInt ≤ 1) : Sf (fX7_isThrown N K th p0 p1) (fun (z : Int32 × Int32) => 0 ≤ z.1.toInt ∧ z.1.toInt ≤ 1 ∧ 0 ≤ z.2.toInt ∧ z.2.toInt ≤ 2 ∧ (z.1.toInt = 0 → (0 ≤ p0.toInt ∧ p0.toInt ≤ 0)) ∧ (z.1.toInt = 0 → (0 ≤ p1.toInt ∧ p1.toInt ≤ 0)) ∧ True) := by
  unfold fX7_isThrown
  have ql0 : (0 : Int32).toInt = 0 := by decide
  have ql1 : (1 : Int32).toInt = 1 := by decide
  have ql2 : (2 : Int32).toInt = 2 := by decide
  refine sIf (fun h1 => ?_) (fun h1 => ?_)
  · have fh1 := eqT h1
    refine sIf (fun h2 => ?_) (fun h2 => ?_)
    · have fh2 := eqT h2
      exact s_X7_isThrown_18  hN hK (by omega) (by omega) (by omega) (by omega) _ _ (by first | omega | decide) (by first | omega | decide) (by first | omega | decide)
    · have fh2 := eqF h2
      exact s_X7_isThrown_18  hN hK (by omega) (by omega) (by omega) (by omega) _ _ (by first | omega | decide) (by first | omega | decide) (by first | omega | decide)
  · have fh1 := eqF h1
    exact s_X7_isThrown_18  hN hK (by omega) (by omega) (by omega) (by omega) _ _ (by first | omega | decide) (by first | omega | decide) (by first | omega | decide)
set_option maxHeartbeats 2000000 in
theorem s_X7_done {N K : Nat} {th : Int32} {t : Nat → Int32} {p0 : Int32} (hN : NBig N) (hK : 100 ≤ K) (hp0 : 0 ≤ th.toInt) (hp1 : th.toInt ≤ 2) : Sf (fX7_done N K th t p0) (fun (z : Int32 × (Nat → Int32)) => True) := by
  unfold fX7_done
  have ql0 : (0 : Int32).toInt = 0 := by decide
  exact sRet trivial
set_option maxHeartbeats 2000000 in
theorem s_X7_refused {N K : Nat} {th : Int32} {t : Nat → Int32} (hN : NBig N) (hK : 100 ≤ K) (hp0 : 0 ≤ th.toInt) (hp1 : th.toInt ≤ 2) : Sf (fX7_refused N K th t) (fun (z : Int32 × (Nat → Int32)) => -9 ≤ z.1.toInt ∧ z.1.toInt ≤ -9 ∧ True) := by
  unfold fX7_refused
  have ql0 : (0 : Int32).toInt = 0 := by decide
  exact sRet ⟨(by show -9 ≤ (-9 : Int32).toInt; decide), (by show (-9 : Int32).toInt ≤ -9; decide), trivial⟩
set_option maxHeartbeats 2000000 in
theorem s_X7_worth_48 {N K : Nat} {th : Int32} {f : Nat → Int32} {p0 : Int32} {p1 : Int32} {p2 : Int32} {p3 : Int32} (hN : NBig N) (hK : 100 ≤ K) (hp0 : 0 ≤ th.toInt) (hp1 : th.toInt ≤ 2) (hp2 : 0 ≤ p0.toInt) (hp3 : p0.toInt ≤ 2) (hp4 : 0 ≤ p1.toInt) (hp5 : p1.toInt ≤ 5) (hp6 : -8400 ≤ p2.toInt) (hp7 : p2.toInt ≤ 20) (hp8 : 0 ≤ p3.toInt) (hp9 : p3.toInt ≤ 20) : ∀ (s0 : Int32), 0 ≤ s0.toInt → s0.toInt ≤ 1 → (s0.toInt = 0 → 0 ≤ th.toInt ∧ th.toInt ≤ 2 ∧ 0 ≤ p0.toInt ∧ p0.toInt ≤ 2 ∧ 0 ≤ p1.toInt ∧ p1.toInt ≤ 5 ∧ -8400 ≤ p2.toInt ∧ p2.toInt ≤ 20 ∧ 0 ≤ p3.toInt ∧ p3.toInt ≤ 20) → Sf (fX7_worth_48 N K th f p0 p1 p2 p3  s0) (fun (z : Int32) => True) := by
  intro s0 hq0 hq1 hq2
  unfold fX7_worth_48
  have ql0 : (0 : Int32).toInt = 0 := by decide
  refine sBind (s_X7_bit hN hK (by first | omega | decide) (by first | omega | decide)) (fun x48 b1 => ?_)
  obtain ⟨b1_0, b1_1, -⟩ := b1
  replace b1_0 : 0 ≤ x48.toInt := b1_0
  replace b1_1 : x48.toInt ≤ 1 := b1_1
  exact sRet trivial
set_option maxHeartbeats 2000000 in
theorem s_X7_worth_47 {N K : Nat} {th : Int32} {f : Nat → Int32} {p0 : Int32} {p1 : Int32} {p2 : Int32} {p3 : Int32} (hN : NBig N) (hK : 100 ≤ K) (hp0 : 0 ≤ th.toInt) (hp1 : th.toInt ≤ 2) (hp2 : 0 ≤ p0.toInt) (hp3 : p0.toInt ≤ 2) (hp4 : 0 ≤ p1.toInt) (hp5 : p1.toInt ≤ 5) (hp6 : -8400 ≤ p2.toInt) (hp7 : p2.toInt ≤ 20) (hp8 : 0 ≤ p3.toInt) (hp9 : p3.toInt ≤ 20) : Sf (fX7_worth_47 N K th f p0 p1 p2 p3  ) (fun (z : Int32) => True) := by
  unfold fX7_worth_47
  have ql0 : (0 : Int32).toInt = 0 := by decide
  exact s_X7_worth_48  hN hK (by omega) (by omega) (by omega) (by omega) (by omega) (by omega) (by omega) (by omega) (by omega) (by omega) _ (by first | omega | decide) (by first | omega | decide) (by first | omega | decide)
set_option maxHeartbeats 2000000 in
theorem s_X7_worth_43 {N K : Nat} {th : Int32} {f : Nat → Int32} {p0 : Int32} {p1 : Int32} {p2 : Int32} {p3 : Int32} (hN : NBig N) (hK : 100 ≤ K) (hp0 : 0 ≤ th.toInt) (hp1 : th.toInt ≤ 2) (hp2 : 0 ≤ p0.toInt) (hp3 : p0.toInt ≤ 2) (hp4 : 0 ≤ p1.toInt) (hp5 : p1.toInt ≤ 5) (hp6 : -8400 ≤ p2.toInt) (hp7 : p2.toInt ≤ 20) (hp8 : 0 ≤ p3.toInt) (hp9 : p3.toInt ≤ 20) : 0 ≤ p2.toInt → p2.toInt ≤ 0 → Sf (fX7_worth_43 N K th f p0 p1 p2 p3  ) (fun (z : Int32) => True) := by
  intro  hq0 hq1
  unfold fX7_worth_43
  have ql0 : (0 : Int32).toInt = 0 := by decide
  have ql1 : (1 : Int32).toInt = 1 := by decide
  exact s_X7_worth_48  hN hK (by omega) (by omega) (by omega) (by omega) (by omega) (by omega) (by omega) (by omega) (by omega) (by omega) _ (by first | omega | decide) (by first | omega | decide) (by first | omega | decide)
set_option maxHeartbeats 2000000 in
theorem s_X7_worth {N K : Nat} {th : Int32} {f : Nat → Int32} {p0 : Int32} {p1 : Int32} {p2 : Int32} {p3 : Int32} (hN : NBig N) (hK : 100 ≤ K) (hp0 : 0 ≤ th.toInt) (hp1 : th.toInt ≤ 2) (hp2 : 0 ≤ p0.toInt) (hp3 : p0.toInt ≤ 2) (hp4 : 0 ≤ p1.toInt) (hp5 : p1.toInt ≤ 5) (hp6 : -8400 ≤ p2.toInt) (hp7 : p2.toInt ≤ 20) (hp8 : 0 ≤ p3.toInt) (hp9 : p3.toInt ≤ 20) : Sf (fX7_worth N K th f p0 p1 p2 p3) (fun (z : Int32) => True) := by
  unfold fX7_worth
  have ql0 : (0 : Int32).toInt = 0 := by decide
  have ql1 : (1 : Int32).toInt = 1 := by decide
  have ql5 : (5 : Int32).toInt = 5 := by decide
  refine sBind (s_X7_rests hN hK (by first | omega | decide) (by first | omega | decide) (by first | omega | decide) (by first | omega | decide)) (fun x3 b1 => ?_)
  obtain ⟨b1_0, b1_1, b1_2, b1_3, -⟩ := b1
  replace b1_0 : 0 ≤ x3.toInt := b1_0
  replace b1_1 : x3.toInt ≤ 1 := b1_1
  replace b1_2 : (x3.toInt = 0 → (1 ≤ p2.toInt)) := b1_2
  replace b1_3 : (x3.toInt = 0 → p3.toInt ≠ 0) := b1_3
  refine sIf (fun h2 => ?_) (fun h2 => ?_)
  · have fh2 := eqT h2
    refine sIfF (noob (by omega) (by omega)) ?_
    refine sBind (s_X7_code hN hK (by first | omega | decide) (by first | omega | decide) (by first | omega | decide) (by first | omega | decide) (by first | omega | decide) (by first | omega | decide)) (fun x19 b3 => ?_)
    obtain ⟨b3_0, b3_1, -⟩ := b3
    replace b3_0 : 0 ≤ x19.toInt := b3_0
    replace b3_1 : x19.toInt ≤ 5780 := b3_1
    refine sIfF (noob (by omega) (by omega)) ?_
    exact sRet trivial
  · have fh2 := eqF h2
    refine sIf (fun h4 => ?_) (fun h4 => ?_)
    · have fh4 := eqT h4
      refine sIf (fun h5 => ?_) (fun h5 => ?_)
      · have fh5 := eqT h5
        exact s_X7_worth_43  hN hK (by omega) (by omega) (by omega) (by omega) (by omega) (by omega) (by omega) (by omega) (by omega) (by omega)  (by first | omega | decide) (by first | omega | decide)
      · have fh5 := eqF h5
        refine sIf (fun h6 => ?_) (fun h6 => ?_)
        · have fh6 := eqT h6
          exact s_X7_worth_47  hN hK (by omega) (by omega) (by omega) (by omega) (by omega) (by omega) (by omega) (by omega) (by omega) (by omega) 
        · have fh6 := eqF h6
          refine sIf (fun h7 => ?_) (fun h7 => ?_)
          · have fh7 := eqT h7
            exact s_X7_worth_47  hN hK (by omega) (by omega) (by omega) (by omega) (by omega) (by omega) (by omega) (by omega) (by omega) (by omega) 
          · have fh7 := eqF h7
            exact s_X7_worth_43  hN hK (by omega) (by omega) (by omega) (by omega) (by omega) (by omega) (by omega) (by omega) (by omega) (by omega)  (by first | omega | decide) (by first | omega | decide)
    · have fh4 := eqF h4
      exact s_X7_worth_47  hN hK (by omega) (by omega) (by omega) (by omega) (by omega) (by omega) (by omega) (by omega) (by omega) (by omega) 
set_option maxHeartbeats 2000000 in
theorem s_X7_kept {N K : Nat} {th : Int32} {f : Nat → Int32} {p0 : Int32} {p1 : Int32} {p2 : Int32} {p3 : Int32} (hN : NBig N) (hK : 100 ≤ K) (hp0 : 0 ≤ th.toInt) (hp1 : th.toInt ≤ 2) (hp2 : 0 ≤ p0.toInt) (hp3 : p0.toInt ≤ 2) (hp4 : 0 ≤ p1.toInt) (hp5 : p1.toInt ≤ 5) (hp6 : 0 ≤ p2.toInt) (hp7 : p2.toInt ≤ 20) (hp8 : 0 ≤ p3.toInt) (hp9 : p3.toInt ≤ 20) : Sf (fX7_kept N K th f p0 p1 p2 p3) (fun (z : Int32) => True) := by
  unfold fX7_kept
  have ql0 : (0 : Int32).toInt = 0 := by decide
  refine sIfF (noob (by omega) (by omega)) ?_
  refine sBind (s_X7_code hN hK (by first | omega | decide) (by first | omega | decide) (by first | omega | decide) (by first | omega | decide) (by first | omega | decide) (by first | omega | decide)) (fun x10 b1 => ?_)
  obtain ⟨b1_0, b1_1, -⟩ := b1
  replace b1_0 : 0 ≤ x10.toInt := b1_0
  replace b1_1 : x10.toInt ≤ 5780 := b1_1
  refine sIfF (noob (by omega) (by omega)) ?_
  exact sRet trivial
set_option maxHeartbeats 2000000 in
theorem s_X7_keep_64 {N K : Nat} {th : Int32} {f : Nat → Int32} {p0 : Int32} {p1 : Int32} {p2 : Int32} {p3 : Int32} (hN : NBig N) (hK : 100 ≤ K) (hp0 : 0 ≤ th.toInt) (hp1 : th.toInt ≤ 2) (hp2 : 0 ≤ p0.toInt) (hp3 : p0.toInt ≤ 2) (hp4 : 0 ≤ p1.toInt) (hp5 : p1.toInt ≤ 5) (hp6 : 0 ≤ p2.toInt) (hp7 : p2.toInt ≤ 20) (hp8 : 1 ≤ p3.toInt) (hp9 : p3.toInt ≤ 20) {k_19 : Int32 → Int32 → (Nat → Int32) → Option ((Nat → Int32))} {m_19 : Nat} (hk_19 : ∀ (l5 : Int32) (l6 : Int32) (f_ : (Nat → Int32)), (2 - l6.toInt).toNat < m_19 → 0 ≤ l6.toInt → l6.toInt ≤ 2 → Sf (k_19 l5 l6 f_) (fun (z : (Nat → Int32)) => True)) : ∀ (l5 : Int32) (l6 : Int32) (f_ : Nat → Int32), 0 ≤ l6.toInt → l6.toInt ≤ 1 → (2 - l6.toInt).toNat ≤ m_19 → Sf (fX7_keep_64 N K th f p0 p1 p2 p3 k_19 l5 l6 f_) (fun (z : (Nat → Int32)) => True) := by
  intro l5 l6 f_ hq0 hq1 hq2
  unfold fX7_keep_64
  have ql0 : (0 : Int32).toInt = 0 := by decide
  have ql1 : (1 : Int32).toInt = 1 := by decide
  have t1 := addI (a := l6) (b := (1 : Int32)) (by omega) (by omega)
  exact hk_19 _ _ _ (by omega) (by first | omega | decide) (by first | omega | decide)
set_option maxHeartbeats 2000000 in
theorem s_X7_keep_19 {N K : Nat} {th : Int32} {f : Nat → Int32} {p0 : Int32} {p1 : Int32} {p2 : Int32} {p3 : Int32} (hN : NBig N) (hK : 100 ≤ K) (hp0 : 0 ≤ th.toInt) (hp1 : th.toInt ≤ 2) (hp2 : 0 ≤ p0.toInt) (hp3 : p0.toInt ≤ 2) (hp4 : 0 ≤ p1.toInt) (hp5 : p1.toInt ≤ 5) (hp6 : 0 ≤ p2.toInt) (hp7 : p2.toInt ≤ 20) (hp8 : 1 ≤ p3.toInt) (hp9 : p3.toInt ≤ 20) : ∀ (fu : Nat) (l5 : Int32) (l6 : Int32) (f_ : (Nat → Int32)), (2 - l6.toInt).toNat < fu → 0 ≤ l6.toInt → l6.toInt ≤ 2 → Sf (fX7_keep_19 N K th f p0 p1 p2 p3  fu l5 l6 f_) (fun (z : (Nat → Int32)) => True) := by
  intro fu
  induction fu with
  | zero => intro l5 l6 f_ h0 hq0 hq1; omega
  | succ fu ih =>
    intro l5 l6 f_ h0 hq0 hq1
    unfold fX7_keep_19
    have ql0 : (0 : Int32).toInt = 0 := by decide
    have ql2 : (2 : Int32).toInt = 2 := by decide
    refine sIf (fun h1 => ?_) (fun h1 => ?_)
    · have fh1 := leT h1
      refine sIfF (noob (by omega) (by omega)) ?_
      refine sBind (s_X7_code hN hK (by first | omega | decide) (by first | omega | decide) (by first | omega | decide) (by first | omega | decide) (by first | omega | decide) (by first | omega | decide)) (fun x80 b2 => ?_)
      obtain ⟨b2_0, b2_1, -⟩ := b2
      replace b2_0 : 0 ≤ x80.toInt := b2_0
      replace b2_1 : x80.toInt ≤ 5780 := b2_1
      refine sIfF (noob (by omega) (by omega)) ?_
      exact sRet trivial
    · have fh1 := leF h1
      refine sBind (s_X7_hasLeg hN hK (by first | omega | decide) (by first | omega | decide) (by first | omega | decide) (by first | omega | decide) (by first | omega | decide) (by first | omega | decide)) (fun x30 b3 => ?_)
      obtain ⟨b3_0, b3_1, -⟩ := b3
      replace b3_0 : 0 ≤ x30.toInt := b3_0
      replace b3_1 : x30.toInt ≤ 1 := b3_1
      refine sIf (fun h4 => ?_) (fun h4 => ?_)
      · have fh4 := eqT h4
        exact s_X7_keep_64 (hk_19 := ih) hN hK (by omega) (by omega) (by omega) (by omega) (by omega) (by omega) (by omega) (by omega) (by omega) (by omega) _ _ _ (by first | omega | decide) (by first | omega | decide) (by omega)
      · have fh4 := eqF h4
        refine sBind (s_X7_legNumber hN hK (by first | omega | decide) (by first | omega | decide) (by first | omega | decide) (by first | omega | decide) (by first | omega | decide) (by first | omega | decide) (by first | omega | decide) (by first | omega | decide)) (fun x47 b5 => ?_)
        obtain ⟨b5_0, b5_1, -⟩ := b5
        replace b5_0 : -20 ≤ x47.toInt := b5_0
        replace b5_1 : x47.toInt ≤ 20 := b5_1
        refine sBind (s_X7_legMeasure hN hK (by first | omega | decide) (by first | omega | decide) (by first | omega | decide) (by first | omega | decide) (by first | omega | decide) (by first | omega | decide)) (fun x55 b6 => ?_)
        obtain ⟨b6_0, b6_1, -⟩ := b6
        replace b6_0 : 0 ≤ x55.toInt := b6_0
        replace b6_1 : x55.toInt ≤ 20 := b6_1
        refine sBind (s_X7_worth hN hK (by first | omega | decide) (by first | omega | decide) (by first | omega | decide) (by first | omega | decide) (by first | omega | decide) (by first | omega | decide) (by first | omega | decide) (by first | omega | decide) (by first | omega | decide) (by first | omega | decide)) (fun x58 b7 => ?_)
        exact s_X7_keep_64 (hk_19 := ih) hN hK (by omega) (by omega) (by omega) (by omega) (by omega) (by omega) (by omega) (by omega) (by omega) (by omega) _ _ _ (by first | omega | decide) (by first | omega | decide) (by omega)
set_option maxHeartbeats 2000000 in
theorem s_X7_keep {N K : Nat} {th : Int32} {f : Nat → Int32} {p0 : Int32} {p1 : Int32} {p2 : Int32} {p3 : Int32} (hN : NBig N) (hK : 100 ≤ K) (hp0 : 0 ≤ th.toInt) (hp1 : th.toInt ≤ 2) (hp2 : 0 ≤ p0.toInt) (hp3 : p0.toInt ≤ 2) (hp4 : 0 ≤ p1.toInt) (hp5 : p1.toInt ≤ 5) (hp6 : 0 ≤ p2.toInt) (hp7 : p2.toInt ≤ 20) (hp8 : 1 ≤ p3.toInt) (hp9 : p3.toInt ≤ 20) : Sf (fX7_keep N K th f p0 p1 p2 p3) (fun (z : (Nat → Int32)) => True) := by
  unfold fX7_keep
  have hN9 := hN.u
  have ql0 : (0 : Int32).toInt = 0 := by decide
  refine sBind (s_X7_worth hN hK (by first | omega | decide) (by first | omega | decide) (by first | omega | decide) (by first | omega | decide) (by first | omega | decide) (by first | omega | decide) (by first | omega | decide) (by first | omega | decide) (by first | omega | decide) (by first | omega | decide)) (fun x6 b1 => ?_)
  refine sIf (fun h2 => ?_) (fun h2 => ?_)
  · have fh2 := ltT h2
    exact s_X7_keep_19  hN hK (by omega) (by omega) (by omega) (by omega) (by omega) (by omega) (by omega) (by omega) (by omega) (by omega) _ _ _ _ (by omega) (by first | omega | decide) (by first | omega | decide)
  · have fh2 := ltF h2
    exact sRet trivial
set_option maxHeartbeats 2000000 in
theorem s_X7_known_315 {N K : Nat} {th : Int32} {f : Nat → Int32} {t : Nat → Int32} {u : Nat → Int32} {p0 : Int32} {p1 : Int32} {p2 : Int32} {p3 : Int32} (hN : NBig N) (hK : 100 ≤ K) (hp0 : 0 ≤ th.toInt) (hp1 : th.toInt ≤ 2) (hp2 : 0 ≤ p0.toInt) (hp3 : p0.toInt ≤ 2) (hp4 : 0 ≤ p1.toInt) (hp5 : p1.toInt ≤ 5) (hp6 : -8400 ≤ p2.toInt) (hp7 : p2.toInt ≤ 20) (hp8 : 0 ≤ p3.toInt) (hp9 : p3.toInt ≤ 20) {k_277 : Int32 → (Nat → Int32) → (Nat → Int32) → (Nat → Int32) → Option (Int32 × (Nat → Int32) × (Nat → Int32) × (Nat → Int32))} {m_277 : Nat} (hk_277 : ∀ (l5 : Int32) (f_ : (Nat → Int32)) (t_ : (Nat → Int32)) (u_ : (Nat → Int32)), (441 - l5.toInt).toNat < m_277 → 1 ≤ p2.toInt → p2.toInt ≤ 20 → 1 ≤ p3.toInt → p3.toInt ≤ 20 → 0 ≤ l5.toInt → l5.toInt ≤ 441 → (∀ a : Nat, a < 21 → u_ a = 0) → Sf (k_277 l5 f_ t_ u_) (fun (z : Int32 × (Nat → Int32) × (Nat → Int32) × (Nat → Int32)) => True)) : ∀ (l5 : Int32) (f_ : Nat → Int32) (t_ : Nat → Int32) (u_ : Nat → Int32), 1 ≤ p2.toInt → p2.toInt ≤ 20 → 1 ≤ p3.toInt → p3.toInt ≤ 20 → 0 ≤ l5.toInt → l5.toInt ≤ 440 → (∀ a : Nat, a < 21 → u_ a = 0) → (441 - l5.toInt).toNat ≤ m_277 → Sf (fX7_known_315 N K th f t u p0 p1 p2 p3 k_277 l5 f_ t_ u_) (fun (z : Int32 × (Nat → Int32) × (Nat → Int32) × (Nat → Int32)) => True) := by
  intro l5 f_ t_ u_ hq0 hq1 hq2 hq3 hq4 hq5 hq6 hq7
  unfold fX7_known_315
  have ql0 : (0 : Int32).toInt = 0 := by decide
  have ql1 : (1 : Int32).toInt = 1 := by decide
  have t1 := addI (a := l5) (b := (1 : Int32)) (by omega) (by omega)
  exact hk_277 _ _ _ _ (by omega) (by first | omega | decide) (by first | omega | decide) (by first | omega | decide) (by first | omega | decide) (by first | omega | decide) (by first | omega | decide) (by first | assumption | exact uz2 ‹∀ a : Nat, a < 21 → u_ a = 0› (by omega))
set_option maxHeartbeats 2000000 in
theorem s_X7_known_277 {N K : Nat} {th : Int32} {f : Nat → Int32} {t : Nat → Int32} {u : Nat → Int32} {p0 : Int32} {p1 : Int32} {p2 : Int32} {p3 : Int32} (hN : NBig N) (hK : 100 ≤ K) (hp0 : 0 ≤ th.toInt) (hp1 : th.toInt ≤ 2) (hp2 : 0 ≤ p0.toInt) (hp3 : p0.toInt ≤ 2) (hp4 : 0 ≤ p1.toInt) (hp5 : p1.toInt ≤ 5) (hp6 : -8400 ≤ p2.toInt) (hp7 : p2.toInt ≤ 20) (hp8 : 0 ≤ p3.toInt) (hp9 : p3.toInt ≤ 20) : ∀ (fu : Nat) (l5 : Int32) (f_ : (Nat → Int32)) (t_ : (Nat → Int32)) (u_ : (Nat → Int32)), (441 - l5.toInt).toNat < fu → 1 ≤ p2.toInt → p2.toInt ≤ 20 → 1 ≤ p3.toInt → p3.toInt ≤ 20 → 0 ≤ l5.toInt → l5.toInt ≤ 441 → (∀ a : Nat, a < 21 → u_ a = 0) → Sf (fX7_known_277 N K th f t u p0 p1 p2 p3  fu l5 f_ t_ u_) (fun (z : Int32 × (Nat → Int32) × (Nat → Int32) × (Nat → Int32)) => True) := by
  intro fu
  induction fu with
  | zero => intro l5 f_ t_ u_ h0 hq0 hq1 hq2 hq3 hq4 hq5 hq6; omega
  | succ fu ih =>
    intro l5 f_ t_ u_ h0 hq0 hq1 hq2 hq3 hq4 hq5 hq6
    unfold fX7_known_277
    have ql0 : (0 : Int32).toInt = 0 := by decide
    have ql21 : (21 : Int32).toInt = 21 := by decide
    refine sIf (fun h1 => ?_) (fun h1 => ?_)
    · have t3 := mulL (a := (21 : Int32)) (b := p3) ql21 (by omega) (by omega)
      have t2 := addI (a := ((21 : Int32) * p3)) (b := p2) (by omega) (by omega)
      have fh1 := ltT h1
      refine sBind (s_X7_worth hN hK (by first | omega | decide) (by first | omega | decide) (by first | omega | decide) (by first | omega | decide) (by first | omega | decide) (by first | omega | decide) (by first | omega | decide) (by first | omega | decide) (by first | omega | decide) (by first | omega | decide)) (fun x327 b4 => ?_)
      exact sRet trivial
    · have t6 := mulL (a := (21 : Int32)) (b := p3) ql21 (by omega) (by omega)
      have t5 := addI (a := ((21 : Int32) * p3)) (b := p2) (by omega) (by omega)
      have fh1 := ltF h1
      refine sIfF (noob (by omega) (by omega)) ?_
      refine sIf (fun h7 => ?_) (fun h7 => ?_)
      · have fh7 := leT h7
        exact s_X7_known_315 (hk_277 := ih) hN hK (by omega) (by omega) (by omega) (by omega) (by omega) (by omega) (by omega) (by omega) (by omega) (by omega) _ _ _ _ (by first | omega | decide) (by first | omega | decide) (by first | omega | decide) (by first | omega | decide) (by first | omega | decide) (by first | omega | decide) (by first | assumption | exact uz2 ‹∀ a : Nat, a < 21 → u_ a = 0› (by omega)) (by omega)
      · have fh7 := leF h7
        have z6 : 21 ≤ l5.toInt := uz4 ‹∀ a : Nat, a < 21 → u_ a = 0› h7 (by omega)
        have t8 := modL (a := l5) (b := (21 : Int32)) ql21 (by omega)
        have t9 := divL (a := l5) (b := (21 : Int32)) ql21 (by omega) (by omega)
        refine sBind (s_X7_keep hN hK (by first | omega | decide) (by first | omega | decide) (by first | omega | decide) (by first | omega | decide) (by first | omega | decide) (by first | omega | decide) (by first | omega | decide) (by first | omega | decide) (by first | omega | decide) (by first | omega | decide)) (fun x312 b10 => ?_)
        exact s_X7_known_315 (hk_277 := ih) hN hK (by omega) (by omega) (by omega) (by omega) (by omega) (by omega) (by omega) (by omega) (by omega) (by omega) _ _ _ _ (by first | omega | decide) (by first | omega | decide) (by first | omega | decide) (by first | omega | decide) (by first | omega | decide) (by first | omega | decide) (by first | assumption | exact uz2 ‹∀ a : Nat, a < 21 → u_ a = 0› (by omega)) (by omega)
set_option maxHeartbeats 2000000 in
theorem s_X7_known_268 {N K : Nat} {th : Int32} {f : Nat → Int32} {t : Nat → Int32} {u : Nat → Int32} {p0 : Int32} {p1 : Int32} {p2 : Int32} {p3 : Int32} (hN : NBig N) (hK : 100 ≤ K) (hp0 : 0 ≤ th.toInt) (hp1 : th.toInt ≤ 2) (hp2 : 0 ≤ p0.toInt) (hp3 : p0.toInt ≤ 2) (hp4 : 0 ≤ p1.toInt) (hp5 : p1.toInt ≤ 5) (hp6 : -8400 ≤ p2.toInt) (hp7 : p2.toInt ≤ 20) (hp8 : 0 ≤ p3.toInt) (hp9 : p3.toInt ≤ 20) {k_68 : Int32 → (Nat → Int32) → (Nat → Int32) → (Nat → Int32) → Option (Int32 × (Nat → Int32) × (Nat → Int32) × (Nat → Int32))} {m_68 : Nat} (hk_68 : ∀ (l5 : Int32) (f_ : (Nat → Int32)) (t_ : (Nat → Int32)) (u_ : (Nat → Int32)), (l5.toInt - 0).toNat < m_68 → 1 ≤ p2.toInt → p2.toInt ≤ 20 → 1 ≤ p3.toInt → p3.toInt ≤ 20 → 0 ≤ l5.toInt → l5.toInt ≤ 440 → (∀ a : Nat, a < 21 → u_ a = 0) → Sf (k_68 l5 f_ t_ u_) (fun (z : Int32 × (Nat → Int32) × (Nat → Int32) × (Nat → Int32)) => True)) : ∀ (l5 : Int32) (f_ : Nat → Int32) (t_ : Nat → Int32) (u_ : Nat → Int32), 1 ≤ p2.toInt → p2.toInt ≤ 20 → 1 ≤ p3.toInt → p3.toInt ≤ 20 → 1 ≤ l5.toInt → l5.toInt ≤ 440 → (∀ a : Nat, a < 21 → u_ a = 0) → (l5.toInt - 0).toNat ≤ m_68 → Sf (fX7_known_268 N K th f t u p0 p1 p2 p3 k_68 l5 f_ t_ u_) (fun (z : Int32 × (Nat → Int32) × (Nat → Int32) × (Nat → Int32)) => True) := by
  intro l5 f_ t_ u_ hq0 hq1 hq2 hq3 hq4 hq5 hq6 hq7
  unfold fX7_known_268
  have ql0 : (0 : Int32).toInt = 0 := by decide
  have t1 : (l5 + (-1 : Int32)).toInt = l5.toInt + (-1) := addL (by decide) (by omega) (by omega)
  exact hk_68 _ _ _ _ (by (try generalize l5 + (-1 : Int32) = d0_ at *); omega) (by (try generalize l5 + (-1 : Int32) = d0_ at *); first | omega | decide) (by (try generalize l5 + (-1 : Int32) = d0_ at *); first | omega | decide) (by (try generalize l5 + (-1 : Int32) = d0_ at *); first | omega | decide) (by (try generalize l5 + (-1 : Int32) = d0_ at *); first | omega | decide) (by (try generalize l5 + (-1 : Int32) = d0_ at *); first | omega | decide) (by (try generalize l5 + (-1 : Int32) = d0_ at *); first | omega | decide) (by first | assumption | exact uz2 ‹∀ a : Nat, a < 21 → u_ a = 0› (by (try generalize l5 + (-1 : Int32) = d0_ at *); omega))
set_option maxHeartbeats 2000000 in
theorem s_X7_known_262 {N K : Nat} {th : Int32} {f : Nat → Int32} {t : Nat → Int32} {u : Nat → Int32} {p0 : Int32} {p1 : Int32} {p2 : Int32} {p3 : Int32} (hN : NBig N) (hK : 100 ≤ K) (hp0 : 0 ≤ th.toInt) (hp1 : th.toInt ≤ 2) (hp2 : 0 ≤ p0.toInt) (hp3 : p0.toInt ≤ 2) (hp4 : 0 ≤ p1.toInt) (hp5 : p1.toInt ≤ 5) (hp6 : -8400 ≤ p2.toInt) (hp7 : p2.toInt ≤ 20) (hp8 : 0 ≤ p3.toInt) (hp9 : p3.toInt ≤ 20) {k_68 : Int32 → (Nat → Int32) → (Nat → Int32) → (Nat → Int32) → Option (Int32 × (Nat → Int32) × (Nat → Int32) × (Nat → Int32))} {m_68 : Nat} (hk_68 : ∀ (l5 : Int32) (f_ : (Nat → Int32)) (t_ : (Nat → Int32)) (u_ : (Nat → Int32)), (l5.toInt - 0).toNat < m_68 → 1 ≤ p2.toInt → p2.toInt ≤ 20 → 1 ≤ p3.toInt → p3.toInt ≤ 20 → 0 ≤ l5.toInt → l5.toInt ≤ 440 → (∀ a : Nat, a < 21 → u_ a = 0) → Sf (k_68 l5 f_ t_ u_) (fun (z : Int32 × (Nat → Int32) × (Nat → Int32) × (Nat → Int32)) => True)) {k_191 : Int32 → Int32 → Int32 → Int32 → Int32 → (Nat → Int32) → (Nat → Int32) → (Nat → Int32) → Option (Int32 × (Nat → Int32) × (Nat → Int32) × (Nat → Int32))} {m_191 : Nat} (hk_191 : ∀ (l5 : Int32) (l6 : Int32) (l7 : Int32) (l8 : Int32) (l9 : Int32) (f_ : (Nat → Int32)) (t_ : (Nat → Int32)) (u_ : (Nat → Int32)), (2 - l9.toInt).toNat < m_191 → 1 ≤ p2.toInt → p2.toInt ≤ 20 → 1 ≤ p3.toInt → p3.toInt ≤ 20 → 21 ≤ l5.toInt → l5.toInt ≤ 440 → 0 ≤ l6.toInt → l6.toInt ≤ 20 → 1 ≤ l7.toInt → l7.toInt ≤ 20 → 0 ≤ l8.toInt → l8.toInt ≤ 1 → 0 ≤ l9.toInt → l9.toInt ≤ 2 → (∀ a : Nat, a < 21 → u_ a = 0) → (l5.toInt - 0).toNat ≤ m_68 → Sf (k_191 l5 l6 l7 l8 l9 f_ t_ u_) (fun (z : Int32 × (Nat → Int32) × (Nat → Int32) × (Nat → Int32)) => True)) : ∀ (l5 : Int32) (l6 : Int32) (l7 : Int32) (l8 : Int32) (l9 : Int32) (f_ : Nat → Int32) (t_ : Nat → Int32) (u_ : Nat → Int32), 1 ≤ p2.toInt → p2.toInt ≤ 20 → 1 ≤ p3.toInt → p3.toInt ≤ 20 → 21 ≤ l5.toInt → l5.toInt ≤ 440 → 0 ≤ l6.toInt → l6.toInt ≤ 20 → 1 ≤ l7.toInt → l7.toInt ≤ 20 → 0 ≤ l8.toInt → l8.toInt ≤ 0 → 0 ≤ l9.toInt → l9.toInt ≤ 1 → (∀ a : Nat, a < 21 → u_ a = 0) → (l5.toInt - 0).toNat ≤ m_68 → (2 - l9.toInt).toNat ≤ m_191 → Sf (fX7_known_262 N K th f t u p0 p1 p2 p3 k_68 k_191 l5 l6 l7 l8 l9 f_ t_ u_) (fun (z : Int32 × (Nat → Int32) × (Nat → Int32) × (Nat → Int32)) => True) := by
  intro l5 l6 l7 l8 l9 f_ t_ u_ hq0 hq1 hq2 hq3 hq4 hq5 hq6 hq7 hq8 hq9 hq10 hq11 hq12 hq13 hq14 hq15 hq16
  unfold fX7_known_262
  have ql0 : (0 : Int32).toInt = 0 := by decide
  have ql1 : (1 : Int32).toInt = 1 := by decide
  have t1 := addI (a := l9) (b := (1 : Int32)) (by omega) (by omega)
  exact hk_191 _ _ _ _ _ _ _ _ (by omega) (by first | omega | decide) (by first | omega | decide) (by first | omega | decide) (by first | omega | decide) (by first | omega | decide) (by first | omega | decide) (by first | omega | decide) (by first | omega | decide) (by first | omega | decide) (by first | omega | decide) (by first | omega | decide) (by first | omega | decide) (by first | omega | decide) (by first | omega | decide) (by first | assumption | exact uz2 ‹∀ a : Nat, a < 21 → u_ a = 0› (by omega)) (by omega)
set_option maxHeartbeats 2000000 in
theorem s_X7_known_191 {N K : Nat} {th : Int32} {f : Nat → Int32} {t : Nat → Int32} {u : Nat → Int32} {p0 : Int32} {p1 : Int32} {p2 : Int32} {p3 : Int32} (hN : NBig N) (hK : 100 ≤ K) (hp0 : 0 ≤ th.toInt) (hp1 : th.toInt ≤ 2) (hp2 : 0 ≤ p0.toInt) (hp3 : p0.toInt ≤ 2) (hp4 : 0 ≤ p1.toInt) (hp5 : p1.toInt ≤ 5) (hp6 : -8400 ≤ p2.toInt) (hp7 : p2.toInt ≤ 20) (hp8 : 0 ≤ p3.toInt) (hp9 : p3.toInt ≤ 20) {k_68 : Int32 → (Nat → Int32) → (Nat → Int32) → (Nat → Int32) → Option (Int32 × (Nat → Int32) × (Nat → Int32) × (Nat → Int32))} {m_68 : Nat} (hk_68 : ∀ (l5 : Int32) (f_ : (Nat → Int32)) (t_ : (Nat → Int32)) (u_ : (Nat → Int32)), (l5.toInt - 0).toNat < m_68 → 1 ≤ p2.toInt → p2.toInt ≤ 20 → 1 ≤ p3.toInt → p3.toInt ≤ 20 → 0 ≤ l5.toInt → l5.toInt ≤ 440 → (∀ a : Nat, a < 21 → u_ a = 0) → Sf (k_68 l5 f_ t_ u_) (fun (z : Int32 × (Nat → Int32) × (Nat → Int32) × (Nat → Int32)) => True)) : ∀ (fu : Nat) (l5 : Int32) (l6 : Int32) (l7 : Int32) (l8 : Int32) (l9 : Int32) (f_ : (Nat → Int32)) (t_ : (Nat → Int32)) (u_ : (Nat → Int32)), (2 - l9.toInt).toNat < fu → 1 ≤ p2.toInt → p2.toInt ≤ 20 → 1 ≤ p3.toInt → p3.toInt ≤ 20 → 21 ≤ l5.toInt → l5.toInt ≤ 440 → 0 ≤ l6.toInt → l6.toInt ≤ 20 → 1 ≤ l7.toInt → l7.toInt ≤ 20 → 0 ≤ l8.toInt → l8.toInt ≤ 1 → 0 ≤ l9.toInt → l9.toInt ≤ 2 → (∀ a : Nat, a < 21 → u_ a = 0) → (l5.toInt - 0).toNat ≤ m_68 → Sf (fX7_known_191 N K th f t u p0 p1 p2 p3 k_68 fu l5 l6 l7 l8 l9 f_ t_ u_) (fun (z : Int32 × (Nat → Int32) × (Nat → Int32) × (Nat → Int32)) => True) := by
  intro fu
  induction fu with
  | zero => intro l5 l6 l7 l8 l9 f_ t_ u_ h0 hq0 hq1 hq2 hq3 hq4 hq5 hq6 hq7 hq8 hq9 hq10 hq11 hq12 hq13 hq14 hq15; omega
  | succ fu ih =>
    intro l5 l6 l7 l8 l9 f_ t_ u_ h0 hq0 hq1 hq2 hq3 hq4 hq5 hq6 hq7 hq8 hq9 hq10 hq11 hq12 hq13 hq14 hq15
    unfold fX7_known_191
    have ql0 : (0 : Int32).toInt = 0 := by decide
    have ql2 : (2 : Int32).toInt = 2 := by decide
    have ql21 : (21 : Int32).toInt = 21 := by decide
    refine sIf (fun h1 => ?_) (fun h1 => ?_)
    · have fh1 := leT h1
      exact s_X7_known_268 (hk_68 := hk_68) hN hK (by omega) (by omega) (by omega) (by omega) (by omega) (by omega) (by omega) (by omega) (by omega) (by omega) _ _ _ _ (by first | omega | decide) (by first | omega | decide) (by first | omega | decide) (by first | omega | decide) (by first | omega | decide) (by first | omega | decide) (by first | assumption | exact uz2 ‹∀ a : Nat, a < 21 → u_ a = 0› (by omega)) (by omega)
    · have fh1 := leF h1
      refine sIf (fun h2 => ?_) (fun h2 => ?_)
      · have fh2 := eqT h2
        refine sBind (s_X7_legNumber hN hK (by first | omega | decide) (by first | omega | decide) (by first | omega | decide) (by first | omega | decide) (by first | omega | decide) (by first | omega | decide) (by first | omega | decide) (by first | omega | decide)) (fun x209 b3 => ?_)
        obtain ⟨b3_0, b3_1, -⟩ := b3
        replace b3_0 : -20 ≤ x209.toInt := b3_0
        replace b3_1 : x209.toInt ≤ 20 := b3_1
        refine sBind (s_X7_legMeasure hN hK (by first | omega | decide) (by first | omega | decide) (by first | omega | decide) (by first | omega | decide) (by first | omega | decide) (by first | omega | decide)) (fun x219 b4 => ?_)
        obtain ⟨b4_0, b4_1, -⟩ := b4
        replace b4_0 : 0 ≤ x219.toInt := b4_0
        replace b4_1 : x219.toInt ≤ 20 := b4_1
        refine sBind (s_X7_hasLeg hN hK (by first | omega | decide) (by first | omega | decide) (by first | omega | decide) (by first | omega | decide) (by first | omega | decide) (by first | omega | decide)) (fun x229 b5 => ?_)
        obtain ⟨b5_0, b5_1, -⟩ := b5
        replace b5_0 : 0 ≤ x229.toInt := b5_0
        replace b5_1 : x229.toInt ≤ 1 := b5_1
        refine sIf (fun h6 => ?_) (fun h6 => ?_)
        · have fh6 := eqT h6
          exact s_X7_known_262 (hk_68 := hk_68) (hk_191 := ih) hN hK (by omega) (by omega) (by omega) (by omega) (by omega) (by omega) (by omega) (by omega) (by omega) (by omega) _ _ _ _ _ _ _ _ (by first | omega | decide) (by first | omega | decide) (by first | omega | decide) (by first | omega | decide) (by first | omega | decide) (by first | omega | decide) (by first | omega | decide) (by first | omega | decide) (by first | omega | decide) (by first | omega | decide) (by first | omega | decide) (by first | omega | decide) (by first | omega | decide) (by first | omega | decide) (by first | assumption | exact uz2 ‹∀ a : Nat, a < 21 → u_ a = 0› (by omega)) (by omega) (by omega)
        · have fh6 := eqF h6
          refine sBind (s_X7_rests hN hK (by first | omega | decide) (by first | omega | decide) (by first | omega | decide) (by first | omega | decide)) (fun x239 b7 => ?_)
          obtain ⟨b7_0, b7_1, b7_2, b7_3, -⟩ := b7
          replace b7_0 : 0 ≤ x239.toInt := b7_0
          replace b7_1 : x239.toInt ≤ 1 := b7_1
          replace b7_2 : (x239.toInt = 0 → (1 ≤ x209.toInt)) := b7_2
          replace b7_3 : (x239.toInt = 0 → x219.toInt ≠ 0) := b7_3
          refine sIf (fun h8 => ?_) (fun h8 => ?_)
          · have fh8 := eqT h8
            have t10 := mulL (a := (21 : Int32)) (b := x219) ql21 (by omega) (by omega)
            have t9 := addI (a := ((21 : Int32) * x219)) (b := x209) (by omega) (by omega)
            refine sIfF (noob (by omega) (by omega)) ?_
            refine sIfF (noob (by omega) (by omega)) ?_
            exact s_X7_known_262 (hk_68 := hk_68) (hk_191 := ih) hN hK (by omega) (by omega) (by omega) (by omega) (by omega) (by omega) (by omega) (by omega) (by omega) (by omega) _ _ _ _ _ _ _ _ (by first | omega | decide) (by first | omega | decide) (by first | omega | decide) (by first | omega | decide) (by first | omega | decide) (by first | omega | decide) (by first | omega | decide) (by first | omega | decide) (by first | omega | decide) (by first | omega | decide) (by first | omega | decide) (by first | omega | decide) (by first | omega | decide) (by first | omega | decide) (by first | assumption | exact uz2 ‹∀ a : Nat, a < 21 → u_ a = 0› (by omega)) (by omega) (by omega)
          · have fh8 := eqF h8
            exact s_X7_known_262 (hk_68 := hk_68) (hk_191 := ih) hN hK (by omega) (by omega) (by omega) (by omega) (by omega) (by omega) (by omega) (by omega) (by omega) (by omega) _ _ _ _ _ _ _ _ (by first | omega | decide) (by first | omega | decide) (by first | omega | decide) (by first | omega | decide) (by first | omega | decide) (by first | omega | decide) (by first | omega | decide) (by first | omega | decide) (by first | omega | decide) (by first | omega | decide) (by first | omega | decide) (by first | omega | decide) (by first | omega | decide) (by first | omega | decide) (by first | assumption | exact uz2 ‹∀ a : Nat, a < 21 → u_ a = 0› (by omega)) (by omega) (by omega)
      · have fh2 := eqF h2
        exact s_X7_known_268 (hk_68 := hk_68) hN hK (by omega) (by omega) (by omega) (by omega) (by omega) (by omega) (by omega) (by omega) (by omega) (by omega) _ _ _ _ (by first | omega | decide) (by first | omega | decide) (by first | omega | decide) (by first | omega | decide) (by first | omega | decide) (by first | omega | decide) (by first | assumption | exact uz2 ‹∀ a : Nat, a < 21 → u_ a = 0› (by omega)) (by omega)
set_option maxHeartbeats 2000000 in
theorem s_X7_known_182 {N K : Nat} {th : Int32} {f : Nat → Int32} {t : Nat → Int32} {u : Nat → Int32} {p0 : Int32} {p1 : Int32} {p2 : Int32} {p3 : Int32} (hN : NBig N) (hK : 100 ≤ K) (hp0 : 0 ≤ th.toInt) (hp1 : th.toInt ≤ 2) (hp2 : 0 ≤ p0.toInt) (hp3 : p0.toInt ≤ 2) (hp4 : 0 ≤ p1.toInt) (hp5 : p1.toInt ≤ 5) (hp6 : -8400 ≤ p2.toInt) (hp7 : p2.toInt ≤ 20) (hp8 : 0 ≤ p3.toInt) (hp9 : p3.toInt ≤ 20) {k_68 : Int32 → (Nat → Int32) → (Nat → Int32) → (Nat → Int32) → Option (Int32 × (Nat → Int32) × (Nat → Int32) × (Nat → Int32))} {m_68 : Nat} (hk_68 : ∀ (l5 : Int32) (f_ : (Nat → Int32)) (t_ : (Nat → Int32)) (u_ : (Nat → Int32)), (l5.toInt - 0).toNat < m_68 → 1 ≤ p2.toInt → p2.toInt ≤ 20 → 1 ≤ p3.toInt → p3.toInt ≤ 20 → 0 ≤ l5.toInt → l5.toInt ≤ 440 → (∀ a : Nat, a < 21 → u_ a = 0) → Sf (k_68 l5 f_ t_ u_) (fun (z : Int32 × (Nat → Int32) × (Nat → Int32) × (Nat → Int32)) => True)) : ∀ (l5 : Int32) (l6 : Int32) (l7 : Int32) (l8 : Int32) (s0 : Int32) (s1 : Int32) (s2 : Int32) (s3 : Int32) (f_ : Nat → Int32) (t_ : Nat → Int32) (u_ : Nat → Int32), 1 ≤ p2.toInt → p2.toInt ≤ 20 → 1 ≤ p3.toInt → p3.toInt ≤ 20 → 21 ≤ l5.toInt → l5.toInt ≤ 440 → 0 ≤ l6.toInt → l6.toInt ≤ 20 → 1 ≤ l7.toInt → l7.toInt ≤ 20 → 0 ≤ l8.toInt → l8.toInt ≤ 1 → 0 ≤ s0.toInt → s0.toInt ≤ 1 → 3 ≤ s3.toInt → s3.toInt ≤ 3 → (s0.toInt = 0 → 0 ≤ th.toInt ∧ th.toInt ≤ 2 ∧ 0 ≤ p0.toInt ∧ p0.toInt ≤ 2 ∧ 0 ≤ p1.toInt ∧ p1.toInt ≤ 5 ∧ 1 ≤ p2.toInt ∧ p2.toInt ≤ 20 ∧ 1 ≤ p3.toInt ∧ p3.toInt ≤ 20) → (s1.toInt = 0 → 0 ≤ th.toInt ∧ th.toInt ≤ 2 ∧ 0 ≤ p0.toInt ∧ p0.toInt ≤ 2 ∧ 0 ≤ p1.toInt ∧ p1.toInt ≤ 5 ∧ 1 ≤ p2.toInt ∧ p2.toInt ≤ 20 ∧ 1 ≤ p3.toInt ∧ p3.toInt ≤ 20) → (s2.toInt = 0 → 0 ≤ th.toInt ∧ th.toInt ≤ 2 ∧ 0 ≤ p0.toInt ∧ p0.toInt ≤ 2 ∧ 0 ≤ p1.toInt ∧ p1.toInt ≤ 5 ∧ 1 ≤ p2.toInt ∧ p2.toInt ≤ 20 ∧ 1 ≤ p3.toInt ∧ p3.toInt ≤ 20) → (∀ a : Nat, a < 21 → u_ a = 0) → (l5.toInt - 0).toNat ≤ m_68 → Sf (fX7_known_182 N K th f t u p0 p1 p2 p3 k_68 l5 l6 l7 l8 s0 s1 s2 s3 f_ t_ u_) (fun (z : Int32 × (Nat → Int32) × (Nat → Int32) × (Nat → Int32)) => True) := by
  intro l5 l6 l7 l8 s0 s1 s2 s3 f_ t_ u_ hq0 hq1 hq2 hq3 hq4 hq5 hq6 hq7 hq8 hq9 hq10 hq11 hq12 hq13 hq14 hq15 hq16 hq17 hq18 hq19 hq20
  unfold fX7_known_182
  have hN9 := hN.u
  have ql0 : (0 : Int32).toInt = 0 := by decide
  refine sBind (s_X7_bit hN hK (by first | omega | decide) (by first | omega | decide)) (fun x182 b1 => ?_)
  obtain ⟨b1_0, b1_1, -⟩ := b1
  replace b1_0 : 0 ≤ x182.toInt := b1_0
  replace b1_1 : x182.toInt ≤ 1 := b1_1
  refine sIfF (noob (by omega) (by omega)) ?_
  exact s_X7_known_191 (hk_68 := hk_68) hN hK (by omega) (by omega) (by omega) (by omega) (by omega) (by omega) (by omega) (by omega) (by omega) (by omega) _ _ _ _ _ _ _ _ _ (by omega) (by first | omega | decide) (by first | omega | decide) (by first | omega | decide) (by first | omega | decide) (by first | omega | decide) (by first | omega | decide) (by first | omega | decide) (by first | omega | decide) (by first | omega | decide) (by first | omega | decide) (by first | omega | decide) (by first | omega | decide) (by first | omega | decide) (by first | omega | decide) (by first | assumption | exact uz2 ‹∀ a : Nat, a < 21 → u_ a = 0› (by omega)) (by omega)
set_option maxHeartbeats 2000000 in
theorem s_X7_known_153 {N K : Nat} {th : Int32} {f : Nat → Int32} {t : Nat → Int32} {u : Nat → Int32} {p0 : Int32} {p1 : Int32} {p2 : Int32} {p3 : Int32} (hN : NBig N) (hK : 100 ≤ K) (hp0 : 0 ≤ th.toInt) (hp1 : th.toInt ≤ 2) (hp2 : 0 ≤ p0.toInt) (hp3 : p0.toInt ≤ 2) (hp4 : 0 ≤ p1.toInt) (hp5 : p1.toInt ≤ 5) (hp6 : -8400 ≤ p2.toInt) (hp7 : p2.toInt ≤ 20) (hp8 : 0 ≤ p3.toInt) (hp9 : p3.toInt ≤ 20) {k_68 : Int32 → (Nat → Int32) → (Nat → Int32) → (Nat → Int32) → Option (Int32 × (Nat → Int32) × (Nat → Int32) × (Nat → Int32))} {m_68 : Nat} (hk_68 : ∀ (l5 : Int32) (f_ : (Nat → Int32)) (t_ : (Nat → Int32)) (u_ : (Nat → Int32)), (l5.toInt - 0).toNat < m_68 → 1 ≤ p2.toInt → p2.toInt ≤ 20 → 1 ≤ p3.toInt → p3.toInt ≤ 20 → 0 ≤ l5.toInt → l5.toInt ≤ 440 → (∀ a : Nat, a < 21 → u_ a = 0) → Sf (k_68 l5 f_ t_ u_) (fun (z : Int32 × (Nat → Int32) × (Nat → Int32) × (Nat → Int32)) => True)) : ∀ (l5 : Int32) (l6 : Int32) (l7 : Int32) (l8 : Int32) (s0 : Int32) (s1 : Int32) (s2 : Int32) (f_ : Nat → Int32) (t_ : Nat → Int32) (u_ : Nat → Int32), 1 ≤ p2.toInt → p2.toInt ≤ 20 → 1 ≤ p3.toInt → p3.toInt ≤ 20 → 21 ≤ l5.toInt → l5.toInt ≤ 440 → 0 ≤ l6.toInt → l6.toInt ≤ 20 → 1 ≤ l7.toInt → l7.toInt ≤ 20 → 0 ≤ l8.toInt → l8.toInt ≤ 1 → 0 ≤ s0.toInt → s0.toInt ≤ 1 → 2 ≤ s2.toInt → s2.toInt ≤ 2 → (s0.toInt = 0 → 0 ≤ th.toInt ∧ th.toInt ≤ 2 ∧ 0 ≤ p0.toInt ∧ p0.toInt ≤ 2 ∧ 0 ≤ p1.toInt ∧ p1.toInt ≤ 5 ∧ 1 ≤ p2.toInt ∧ p2.toInt ≤ 20 ∧ 1 ≤ p3.toInt ∧ p3.toInt ≤ 20) → (s1.toInt = 0 → 0 ≤ th.toInt ∧ th.toInt ≤ 2 ∧ 0 ≤ p0.toInt ∧ p0.toInt ≤ 2 ∧ 0 ≤ p1.toInt ∧ p1.toInt ≤ 5 ∧ 1 ≤ p2.toInt ∧ p2.toInt ≤ 20 ∧ 1 ≤ p3.toInt ∧ p3.toInt ≤ 20) → (∀ a : Nat, a < 21 → u_ a = 0) → (l5.toInt - 0).toNat ≤ m_68 → Sf (fX7_known_153 N K th f t u p0 p1 p2 p3 k_68 l5 l6 l7 l8 s0 s1 s2 f_ t_ u_) (fun (z : Int32 × (Nat → Int32) × (Nat → Int32) × (Nat → Int32)) => True) := by
  intro l5 l6 l7 l8 s0 s1 s2 f_ t_ u_ hq0 hq1 hq2 hq3 hq4 hq5 hq6 hq7 hq8 hq9 hq10 hq11 hq12 hq13 hq14 hq15 hq16 hq17 hq18 hq19
  unfold fX7_known_153
  have ql0 : (0 : Int32).toInt = 0 := by decide
  have ql1 : (1 : Int32).toInt = 1 := by decide
  have ql3 : (3 : Int32).toInt = 3 := by decide
  refine sBind (s_X7_bit hN hK (by first | omega | decide) (by first | omega | decide)) (fun x153 b1 => ?_)
  obtain ⟨b1_0, b1_1, -⟩ := b1
  replace b1_0 : 0 ≤ x153.toInt := b1_0
  replace b1_1 : x153.toInt ≤ 1 := b1_1
  refine sIfF (noob (by omega) (by omega)) ?_
  refine sIfF (noob (by omega) (by omega)) ?_
  refine sIf (fun h2 => ?_) (fun h2 => ?_)
  · have fh2 := eqT h2
    exact s_X7_known_182 (hk_68 := hk_68) hN hK (by omega) (by omega) (by omega) (by omega) (by omega) (by omega) (by omega) (by omega) (by omega) (by omega) _ _ _ _ _ _ _ _ _ _ _ (by first | omega | decide) (by first | omega | decide) (by first | omega | decide) (by first | omega | decide) (by first | omega | decide) (by first | omega | decide) (by first | omega | decide) (by first | omega | decide) (by first | omega | decide) (by first | omega | decide) (by first | omega | decide) (by first | omega | decide) (by first | omega | decide) (by first | omega | decide) (by first | omega | decide) (by first | omega | decide) (by first | omega | decide) (by first | omega | decide) (by first | omega | decide) (by first | assumption | exact uz2 ‹∀ a : Nat, a < 21 → u_ a = 0› (by omega)) (by omega)
  · have fh2 := eqF h2
    exact s_X7_known_182 (hk_68 := hk_68) hN hK (by omega) (by omega) (by omega) (by omega) (by omega) (by omega) (by omega) (by omega) (by omega) (by omega) _ _ _ _ _ _ _ _ _ _ _ (by first | omega | decide) (by first | omega | decide) (by first | omega | decide) (by first | omega | decide) (by first | omega | decide) (by first | omega | decide) (by first | omega | decide) (by first | omega | decide) (by first | omega | decide) (by first | omega | decide) (by first | omega | decide) (by first | omega | decide) (by first | omega | decide) (by first | omega | decide) (by first | omega | decide) (by first | omega | decide) (by first | omega | decide) (by first | omega | decide) (by first | omega | decide) (by first | assumption | exact uz2 ‹∀ a : Nat, a < 21 → u_ a = 0› (by omega)) (by omega)
set_option maxHeartbeats 2000000 in
theorem s_X7_known_118 {N K : Nat} {th : Int32} {f : Nat → Int32} {t : Nat → Int32} {u : Nat → Int32} {p0 : Int32} {p1 : Int32} {p2 : Int32} {p3 : Int32} (hN : NBig N) (hK : 100 ≤ K) (hp0 : 0 ≤ th.toInt) (hp1 : th.toInt ≤ 2) (hp2 : 0 ≤ p0.toInt) (hp3 : p0.toInt ≤ 2) (hp4 : 0 ≤ p1.toInt) (hp5 : p1.toInt ≤ 5) (hp6 : -8400 ≤ p2.toInt) (hp7 : p2.toInt ≤ 20) (hp8 : 0 ≤ p3.toInt) (hp9 : p3.toInt ≤ 20) {k_68 : Int32 → (Nat → Int32) → (Nat → Int32) → (Nat → Int32) → Option (Int32 × (Nat → Int32) × (Nat → Int32) × (Nat → Int32))} {m_68 : Nat} (hk_68 : ∀ (l5 : Int32) (f_ : (Nat → Int32)) (t_ : (Nat → Int32)) (u_ : (Nat → Int32)), (l5.toInt - 0).toNat < m_68 → 1 ≤ p2.toInt → p2.toInt ≤ 20 → 1 ≤ p3.toInt → p3.toInt ≤ 20 → 0 ≤ l5.toInt → l5.toInt ≤ 440 → (∀ a : Nat, a < 21 → u_ a = 0) → Sf (k_68 l5 f_ t_ u_) (fun (z : Int32 × (Nat → Int32) × (Nat → Int32) × (Nat → Int32)) => True)) : ∀ (l5 : Int32) (l6 : Int32) (l7 : Int32) (s0 : Int32) (f_ : Nat → Int32) (t_ : Nat → Int32) (u_ : Nat → Int32), 1 ≤ p2.toInt → p2.toInt ≤ 20 → 1 ≤ p3.toInt → p3.toInt ≤ 20 → 21 ≤ l5.toInt → l5.toInt ≤ 440 → 0 ≤ l6.toInt → l6.toInt ≤ 20 → 1 ≤ l7.toInt → l7.toInt ≤ 20 → 0 ≤ s0.toInt → s0.toInt ≤ 1 → (s0.toInt = 0 → 0 ≤ th.toInt ∧ th.toInt ≤ 2 ∧ 0 ≤ p0.toInt ∧ p0.toInt ≤ 2 ∧ 0 ≤ p1.toInt ∧ p1.toInt ≤ 5 ∧ 1 ≤ p2.toInt ∧ p2.toInt ≤ 20 ∧ 1 ≤ p3.toInt ∧ p3.toInt ≤ 20) → (∀ a : Nat, a < 21 → u_ a = 0) → (l5.toInt - 0).toNat ≤ m_68 → Sf (fX7_known_118 N K th f t u p0 p1 p2 p3 k_68 l5 l6 l7 s0 f_ t_ u_) (fun (z : Int32 × (Nat → Int32) × (Nat → Int32) × (Nat → Int32)) => True) := by
  intro l5 l6 l7 s0 f_ t_ u_ hq0 hq1 hq2 hq3 hq4 hq5 hq6 hq7 hq8 hq9 hq10 hq11 hq12 hq13 hq14
  unfold fX7_known_118
  have ql0 : (0 : Int32).toInt = 0 := by decide
  have ql1 : (1 : Int32).toInt = 1 := by decide
  have ql2 : (2 : Int32).toInt = 2 := by decide
  refine sIfF (noob (by omega) (by omega)) ?_
  refine sIf (fun h1 => ?_) (fun h1 => ?_)
  · have fh1 := eqT h1
    exact s_X7_known_153 (hk_68 := hk_68) hN hK (by omega) (by omega) (by omega) (by omega) (by omega) (by omega) (by omega) (by omega) (by omega) (by omega) _ _ _ _ _ _ _ _ _ _ (by first | omega | decide) (by first | omega | decide) (by first | omega | decide) (by first | omega | decide) (by first | omega | decide) (by first | omega | decide) (by first | omega | decide) (by first | omega | decide) (by first | omega | decide) (by first | omega | decide) (by first | omega | decide) (by first | omega | decide) (by first | omega | decide) (by first | omega | decide) (by first | omega | decide) (by first | omega | decide) (by first | omega | decide) (by first | omega | decide) (by first | assumption | exact uz2 ‹∀ a : Nat, a < 21 → u_ a = 0› (by omega)) (by omega)
  · have fh1 := eqF h1
    exact s_X7_known_153 (hk_68 := hk_68) hN hK (by omega) (by omega) (by omega) (by omega) (by omega) (by omega) (by omega) (by omega) (by omega) (by omega) _ _ _ _ _ _ _ _ _ _ (by first | omega | decide) (by first | omega | decide) (by first | omega | decide) (by first | omega | decide) (by first | omega | decide) (by first | omega | decide) (by first | omega | decide) (by first | omega | decide) (by first | omega | decide) (by first | omega | decide) (by first | omega | decide) (by first | omega | decide) (by first | omega | decide) (by first | omega | decide) (by first | omega | decide) (by first | omega | decide) (by first | omega | decide) (by first | omega | decide) (by first | assumption | exact uz2 ‹∀ a : Nat, a < 21 → u_ a = 0› (by omega)) (by omega)
set_option maxHeartbeats 2000000 in
theorem s_X7_known_68 {N K : Nat} {th : Int32} {f : Nat → Int32} {t : Nat → Int32} {u : Nat → Int32} {p0 : Int32} {p1 : Int32} {p2 : Int32} {p3 : Int32} (hN : NBig N) (hK : 100 ≤ K) (hp0 : 0 ≤ th.toInt) (hp1 : th.toInt ≤ 2) (hp2 : 0 ≤ p0.toInt) (hp3 : p0.toInt ≤ 2) (hp4 : 0 ≤ p1.toInt) (hp5 : p1.toInt ≤ 5) (hp6 : -8400 ≤ p2.toInt) (hp7 : p2.toInt ≤ 20) (hp8 : 0 ≤ p3.toInt) (hp9 : p3.toInt ≤ 20) : ∀ (fu : Nat) (l5 : Int32) (f_ : (Nat → Int32)) (t_ : (Nat → Int32)) (u_ : (Nat → Int32)), (l5.toInt - 0).toNat < fu → 1 ≤ p2.toInt → p2.toInt ≤ 20 → 1 ≤ p3.toInt → p3.toInt ≤ 20 → 0 ≤ l5.toInt → l5.toInt ≤ 440 → (∀ a : Nat, a < 21 → u_ a = 0) → Sf (fX7_known_68 N K th f t u p0 p1 p2 p3  fu l5 f_ t_ u_) (fun (z : Int32 × (Nat → Int32) × (Nat → Int32) × (Nat → Int32)) => True) := by
  intro fu
  induction fu with
  | zero => intro l5 f_ t_ u_ h0 hq0 hq1 hq2 hq3 hq4 hq5 hq6; omega
  | succ fu ih =>
    intro l5 f_ t_ u_ h0 hq0 hq1 hq2 hq3 hq4 hq5 hq6
    unfold fX7_known_68
    have hN9 := hN.u
    have ql0 : (0 : Int32).toInt = 0 := by decide
    have ql1 : (1 : Int32).toInt = 1 := by decide
    have ql21 : (21 : Int32).toInt = 21 := by decide
    refine sIf (fun h1 => ?_) (fun h1 => ?_)
    · have fh1 := leT h1
      exact s_X7_known_277  hN hK (by omega) (by omega) (by omega) (by omega) (by omega) (by omega) (by omega) (by omega) (by omega) (by omega) _ _ _ _ _ (by omega) (by first | omega | decide) (by first | omega | decide) (by first | omega | decide) (by first | omega | decide) (by first | omega | decide) (by first | omega | decide) (by first | assumption | exact uz2 ‹∀ a : Nat, a < 21 → u_ a = 0› (by omega))
    · have fh1 := leF h1
      refine sIfF (noob (by omega) (by omega)) ?_
      refine sIf (fun h2 => ?_) (fun h2 => ?_)
      · have fh2 := eqT h2
        exact s_X7_known_268 (hk_68 := ih) hN hK (by omega) (by omega) (by omega) (by omega) (by omega) (by omega) (by omega) (by omega) (by omega) (by omega) _ _ _ _ (by first | omega | decide) (by first | omega | decide) (by first | omega | decide) (by first | omega | decide) (by first | omega | decide) (by first | omega | decide) (by first | assumption | exact uz2 ‹∀ a : Nat, a < 21 → u_ a = 0› (by omega)) (by omega)
      · have fh2 := eqF h2
        have z6 : 21 ≤ l5.toInt := uz3 ‹∀ a : Nat, a < 21 → u_ a = 0› h2 (by omega)
        have t3 := modL (a := l5) (b := (21 : Int32)) ql21 (by omega)
        have t4 := divL (a := l5) (b := (21 : Int32)) ql21 (by omega) (by omega)
        refine sBind (s_X7_worth hN hK (by first | omega | decide) (by first | omega | decide) (by first | omega | decide) (by first | omega | decide) (by first | omega | decide) (by first | omega | decide) (by first | omega | decide) (by first | omega | decide) (by first | omega | decide) (by first | omega | decide)) (fun x107 b5 => ?_)
        refine sIf (fun h6 => ?_) (fun h6 => ?_)
        · have fh6 := ltT h6
          exact s_X7_known_118 (hk_68 := ih) hN hK (by omega) (by omega) (by omega) (by omega) (by omega) (by omega) (by omega) (by omega) (by omega) (by omega) _ _ _ _ _ _ _ (by first | omega | decide) (by first | omega | decide) (by first | omega | decide) (by first | omega | decide) (by first | omega | decide) (by first | omega | decide) (by first | omega | decide) (by first | omega | decide) (by first | omega | decide) (by first | omega | decide) (by first | omega | decide) (by first | omega | decide) (by first | omega | decide) (by first | assumption | exact uz2 ‹∀ a : Nat, a < 21 → u_ a = 0› (by omega)) (by omega)
        · have fh6 := ltF h6
          exact s_X7_known_118 (hk_68 := ih) hN hK (by omega) (by omega) (by omega) (by omega) (by omega) (by omega) (by omega) (by omega) (by omega) (by omega) _ _ _ _ _ _ _ (by first | omega | decide) (by first | omega | decide) (by first | omega | decide) (by first | omega | decide) (by first | omega | decide) (by first | omega | decide) (by first | omega | decide) (by first | omega | decide) (by first | omega | decide) (by first | omega | decide) (by first | omega | decide) (by first | omega | decide) (by first | omega | decide) (by first | assumption | exact uz2 ‹∀ a : Nat, a < 21 → u_ a = 0› (by omega)) (by omega)
set_option maxHeartbeats 2000000 in
theorem s_X7_known_22 {N K : Nat} {th : Int32} {f : Nat → Int32} {t : Nat → Int32} {u : Nat → Int32} {p0 : Int32} {p1 : Int32} {p2 : Int32} {p3 : Int32} (hN : NBig N) (hK : 100 ≤ K) (hp0 : 0 ≤ th.toInt) (hp1 : th.toInt ≤ 2) (hp2 : 0 ≤ p0.toInt) (hp3 : p0.toInt ≤ 2) (hp4 : 0 ≤ p1.toInt) (hp5 : p1.toInt ≤ 5) (hp6 : -8400 ≤ p2.toInt) (hp7 : p2.toInt ≤ 20) (hp8 : 0 ≤ p3.toInt) (hp9 : p3.toInt ≤ 20) : ∀ (fu : Nat) (l5 : Int32) (f_ : (Nat → Int32)) (t_ : (Nat → Int32)) (u_ : (Nat → Int32)), (441 - l5.toInt).toNat < fu → 1 ≤ p2.toInt → p2.toInt ≤ 20 → 1 ≤ p3.toInt → p3.toInt ≤ 20 → 0 ≤ l5.toInt → l5.toInt ≤ 441 → (∀ a : Nat, a < l5.toInt.toNat → u_ a = 0) → Sf (fX7_known_22 N K th f t u p0 p1 p2 p3  fu l5 f_ t_ u_) (fun (z : Int32 × (Nat → Int32) × (Nat → Int32) × (Nat → Int32)) => True) := by
  intro fu
  induction fu with
  | zero => intro l5 f_ t_ u_ h0 hq0 hq1 hq2 hq3 hq4 hq5 hq6; omega
  | succ fu ih =>
    intro l5 f_ t_ u_ h0 hq0 hq1 hq2 hq3 hq4 hq5 hq6
    unfold fX7_known_22
    have hN9 := hN.u
    have ql0 : (0 : Int32).toInt = 0 := by decide
    have ql1 : (1 : Int32).toInt = 1 := by decide
    have ql21 : (21 : Int32).toInt = 21 := by decide
    have ql441 : (441 : Int32).toInt = 441 := by decide
    refine sIf (fun h1 => ?_) (fun h1 => ?_)
    · have fh1 := leT h1
      have t3 := mulL (a := (21 : Int32)) (b := p3) ql21 (by omega) (by omega)
      have t2 := addI (a := ((21 : Int32) * p3)) (b := p2) (by omega) (by omega)
      refine sIfF (noob (by omega) (by omega)) ?_
      have z5 : ∀ a : Nat, a < 21 → u_ a = 0 := fun a ha => ‹∀ a : Nat, a < l5.toInt.toNat → u_ a = 0› a (by omega)
      exact s_X7_known_68  hN hK (by omega) (by omega) (by omega) (by omega) (by omega) (by omega) (by omega) (by omega) (by omega) (by omega) _ _ _ _ _ (by omega) (by first | omega | decide) (by first | omega | decide) (by first | omega | decide) (by first | omega | decide) (by first | omega | decide) (by first | omega | decide) (by first | assumption | exact uz2 ‹∀ a : Nat, a < 21 → u_ a = 0› (by omega))
    · have fh1 := leF h1
      refine sIfF (noob (by omega) (by omega)) ?_
      have t4 := addI (a := l5) (b := (1 : Int32)) (by omega) (by omega)
      exact ih _ _ _ _ (by omega) (by first | omega | decide) (by first | omega | decide) (by first | omega | decide) (by first | omega | decide) (by first | omega | decide) (by first | omega | decide) (by first | exact uz0 (by decide) | exact uz1 ‹∀ a : Nat, a < l5.toInt.toNat → u_ a = 0› (by omega) (by omega))
set_option maxHeartbeats 2000000 in
theorem s_X7_known {N K : Nat} {th : Int32} {f : Nat → Int32} {t : Nat → Int32} {u : Nat → Int32} {p0 : Int32} {p1 : Int32} {p2 : Int32} {p3 : Int32} (hN : NBig N) (hK : 100 ≤ K) (hp0 : 0 ≤ th.toInt) (hp1 : th.toInt ≤ 2) (hp2 : 0 ≤ p0.toInt) (hp3 : p0.toInt ≤ 2) (hp4 : 0 ≤ p1.toInt) (hp5 : p1.toInt ≤ 5) (hp6 : -8400 ≤ p2.toInt) (hp7 : p2.toInt ≤ 20) (hp8 : 0 ≤ p3.toInt) (hp9 : p3.toInt ≤ 20) : Sf (fX7_known N K th f t u p0 p1 p2 p3) (fun (z : Int32 × (Nat → Int32) × (Nat → Int32) × (Nat → Int32)) => True) := by
  unfold fX7_known
  have hN9 := hN.u
  have ql0 : (0 : Int32).toInt = 0 := by decide
  refine sBind (s_X7_rests hN hK (by first | omega | decide) (by first | omega | decide) (by first | omega | decide) (by first | omega | decide)) (fun x3 b1 => ?_)
  obtain ⟨b1_0, b1_1, b1_2, b1_3, -⟩ := b1
  replace b1_0 : 0 ≤ x3.toInt := b1_0
  replace b1_1 : x3.toInt ≤ 1 := b1_1
  replace b1_2 : (x3.toInt = 0 → (1 ≤ p2.toInt)) := b1_2
  replace b1_3 : (x3.toInt = 0 → p3.toInt ≠ 0) := b1_3
  refine sIf (fun h2 => ?_) (fun h2 => ?_)
  · have fh2 := eqT h2
    exact s_X7_known_22  hN hK (by omega) (by omega) (by omega) (by omega) (by omega) (by omega) (by omega) (by omega) (by omega) (by omega) _ _ _ _ _ (by omega) (by first | omega | decide) (by first | omega | decide) (by first | omega | decide) (by first | omega | decide) (by first | omega | decide) (by first | omega | decide) (by first | exact uz0 (by decide) | exact uz1 ‹∀ a : Nat, a < l5.toInt.toNat → u_ a = 0› (by omega) (by omega))
  · have fh2 := eqF h2
    refine sBind (s_X7_worth hN hK (by first | omega | decide) (by first | omega | decide) (by first | omega | decide) (by first | omega | decide) (by first | omega | decide) (by first | omega | decide) (by first | omega | decide) (by first | omega | decide) (by first | omega | decide) (by first | omega | decide)) (fun x15 b3 => ?_)
    exact sRet trivial
set_option maxHeartbeats 2000000 in
theorem s_X7_row_153 {N K : Nat} {p0 : Int32} {p1 : Int32} (hN : NBig N) (hK : 100 ≤ K) (hp0 : 0 ≤ p0.toInt) (hp1 : p0.toInt ≤ 7) (hp2 : 0 ≤ p1.toInt) (hp3 : p1.toInt ≤ 20) {k_74 : Int32 → Int32 → Int32 → Int32 → (Nat → Int32) → Option ((Nat → Int32))} {m_74 : Nat} (hk_74 : ∀ (l3 : Int32) (l4 : Int32) (l5 : Int32) (l6 : Int32) (e_v0 : (Nat → Int32)), (21 - l6.toInt).toNat < m_74 → -1 ≤ l3.toInt → l3.toInt ≤ 39 → 0 ≤ l4.toInt → l4.toInt ≤ 1 → 0 ≤ l5.toInt → l5.toInt ≤ 1 → 1 ≤ l6.toInt → l6.toInt ≤ 21 → Sf (k_74 l3 l4 l5 l6 e_v0) (fun (z : (Nat → Int32)) => True)) : ∀ (l3 : Int32) (l4 : Int32) (l5 : Int32) (l6 : Int32) (e_v0 : Nat → Int32), 1 ≤ l3.toInt → l3.toInt ≤ 39 → 0 ≤ l4.toInt → l4.toInt ≤ 1 → 0 ≤ l5.toInt → l5.toInt ≤ 1 → 1 ≤ l6.toInt → l6.toInt ≤ 20 → (21 - l6.toInt).toNat ≤ m_74 → Sf (fX7_row_153 N K p0 p1 k_74 l3 l4 l5 l6 e_v0) (fun (z : (Nat → Int32)) => True) := by
  intro l3 l4 l5 l6 e_v0 hq0 hq1 hq2 hq3 hq4 hq5 hq6 hq7 hq8
  unfold fX7_row_153
  have ql0 : (0 : Int32).toInt = 0 := by decide
  have ql1 : (1 : Int32).toInt = 1 := by decide
  have t1 := addI (a := l6) (b := (1 : Int32)) (by omega) (by omega)
  exact hk_74 _ _ _ _ _ (by omega) (by first | omega | decide) (by first | omega | decide) (by first | omega | decide) (by first | omega | decide) (by first | omega | decide) (by first | omega | decide) (by first | omega | decide) (by first | omega | decide)
set_option maxHeartbeats 2000000 in
theorem s_X7_row_131 {N K : Nat} {p0 : Int32} {p1 : Int32} (hN : NBig N) (hK : 100 ≤ K) (hp0 : 0 ≤ p0.toInt) (hp1 : p0.toInt ≤ 7) (hp2 : 0 ≤ p1.toInt) (hp3 : p1.toInt ≤ 20) {k_74 : Int32 → Int32 → Int32 → Int32 → (Nat → Int32) → Option ((Nat → Int32))} {m_74 : Nat} (hk_74 : ∀ (l3 : Int32) (l4 : Int32) (l5 : Int32) (l6 : Int32) (e_v0 : (Nat → Int32)), (21 - l6.toInt).toNat < m_74 → -1 ≤ l3.toInt → l3.toInt ≤ 39 → 0 ≤ l4.toInt → l4.toInt ≤ 1 → 0 ≤ l5.toInt → l5.toInt ≤ 1 → 1 ≤ l6.toInt → l6.toInt ≤ 21 → Sf (k_74 l3 l4 l5 l6 e_v0) (fun (z : (Nat → Int32)) => True)) {k_106 : Int32 → Int32 → Int32 → Int32 → Int32 → (Nat → Int32) → Option ((Nat → Int32))} {m_106 : Nat} (hk_106 : ∀ (l3 : Int32) (l4 : Int32) (l5 : Int32) (l6 : Int32) (l7 : Int32) (e_v0 : (Nat → Int32)), (21 - l7.toInt).toNat < m_106 → 1 ≤ l3.toInt → l3.toInt ≤ 39 → 0 ≤ l4.toInt → l4.toInt ≤ 1 → 0 ≤ l5.toInt → l5.toInt ≤ 1 → 1 ≤ l6.toInt → l6.toInt ≤ 20 → 1 ≤ l7.toInt → l7.toInt ≤ 21 → l6.toInt ≤ l7.toInt → (21 - l6.toInt).toNat ≤ m_74 → Sf (k_106 l3 l4 l5 l6 l7 e_v0) (fun (z : (Nat → Int32)) => True)) : ∀ (l3 : Int32) (l4 : Int32) (l5 : Int32) (l6 : Int32) (l7 : Int32) (s0 : Int32) (e_v0 : Nat → Int32), 1 ≤ l3.toInt → l3.toInt ≤ 39 → 0 ≤ l4.toInt → l4.toInt ≤ 1 → 0 ≤ l5.toInt → l5.toInt ≤ 1 → 1 ≤ l6.toInt → l6.toInt ≤ 20 → 1 ≤ l7.toInt → l7.toInt ≤ 20 → 1 ≤ s0.toInt → s0.toInt ≤ 20 → l6.toInt ≤ s0.toInt → l6.toInt ≤ l7.toInt → (21 - l6.toInt).toNat ≤ m_74 → (21 - l7.toInt).toNat ≤ m_106 → Sf (fX7_row_131 N K p0 p1 k_74 k_106 l3 l4 l5 l6 l7 s0 e_v0) (fun (z : (Nat → Int32)) => True) := by
  intro l3 l4 l5 l6 l7 s0 e_v0 hq0 hq1 hq2 hq3 hq4 hq5 hq6 hq7 hq8 hq9 hq10 hq11 hq12 hq13 hq14 hq15
  unfold fX7_row_131
  have ql0 : (0 : Int32).toInt = 0 := by decide
  have ql1 : (1 : Int32).toInt = 1 := by decide
  refine sIfF (noob (by omega) (by omega)) ?_
  have t1 := subI (a := s0) (b := l6) (by omega) (by omega)
  refine sIfF (noob (by omega) (by omega)) ?_
  refine sIfF (noob (by omega) (by omega)) ?_
  have t2 := addI (a := l7) (b := (1 : Int32)) (by omega) (by omega)
  exact hk_106 _ _ _ _ _ _ (by omega) (by first | omega | decide) (by first | omega | decide) (by first | omega | decide) (by first | omega | decide) (by first | omega | decide) (by first | omega | decide) (by first | omega | decide) (by first | omega | decide) (by first | omega | decide) (by first | omega | decide) (by omega) (by omega)
set_option maxHeartbeats 2000000 in
theorem s_X7_row_106 {N K : Nat} {p0 : Int32} {p1 : Int32} (hN : NBig N) (hK : 100 ≤ K) (hp0 : 0 ≤ p0.toInt) (hp1 : p0.toInt ≤ 7) (hp2 : 0 ≤ p1.toInt) (hp3 : p1.toInt ≤ 20) {k_74 : Int32 → Int32 → Int32 → Int32 → (Nat → Int32) → Option ((Nat → Int32))} {m_74 : Nat} (hk_74 : ∀ (l3 : Int32) (l4 : Int32) (l5 : Int32) (l6 : Int32) (e_v0 : (Nat → Int32)), (21 - l6.toInt).toNat < m_74 → -1 ≤ l3.toInt → l3.toInt ≤ 39 → 0 ≤ l4.toInt → l4.toInt ≤ 1 → 0 ≤ l5.toInt → l5.toInt ≤ 1 → 1 ≤ l6.toInt → l6.toInt ≤ 21 → Sf (k_74 l3 l4 l5 l6 e_v0) (fun (z : (Nat → Int32)) => True)) : ∀ (fu : Nat) (l3 : Int32) (l4 : Int32) (l5 : Int32) (l6 : Int32) (l7 : Int32) (e_v0 : (Nat → Int32)), (21 - l7.toInt).toNat < fu → 1 ≤ l3.toInt → l3.toInt ≤ 39 → 0 ≤ l4.toInt → l4.toInt ≤ 1 → 0 ≤ l5.toInt → l5.toInt ≤ 1 → 1 ≤ l6.toInt → l6.toInt ≤ 20 → 1 ≤ l7.toInt → l7.toInt ≤ 21 → l6.toInt ≤ l7.toInt → (21 - l6.toInt).toNat ≤ m_74 → Sf (fX7_row_106 N K p0 p1 k_74 fu l3 l4 l5 l6 l7 e_v0) (fun (z : (Nat → Int32)) => True) := by
  intro fu
  induction fu with
  | zero => intro l3 l4 l5 l6 l7 e_v0 h0 hq0 hq1 hq2 hq3 hq4 hq5 hq6 hq7 hq8 hq9 hq10 hq11; omega
  | succ fu ih =>
    intro l3 l4 l5 l6 l7 e_v0 h0 hq0 hq1 hq2 hq3 hq4 hq5 hq6 hq7 hq8 hq9 hq10 hq11
    unfold fX7_row_106
    have ql0 : (0 : Int32).toInt = 0 := by decide
    have ql20 : (20 : Int32).toInt = 20 := by decide
    refine sIf (fun h1 => ?_) (fun h1 => ?_)
    · have fh1 := ltT h1
      exact s_X7_row_153 (hk_74 := hk_74) hN hK (by omega) (by omega) (by omega) (by omega) _ _ _ _ _ (by first | omega | decide) (by first | omega | decide) (by first | omega | decide) (by first | omega | decide) (by first | omega | decide) (by first | omega | decide) (by first | omega | decide) (by first | omega | decide) (by omega)
    · have fh1 := ltF h1
      refine sIf (fun h2 => ?_) (fun h2 => ?_)
      · have fh2 := eqT h2
        exact s_X7_row_131 (hk_74 := hk_74) (hk_106 := ih) hN hK (by omega) (by omega) (by omega) (by omega) _ _ _ _ _ _ _ (by first | omega | decide) (by first | omega | decide) (by first | omega | decide) (by first | omega | decide) (by first | omega | decide) (by first | omega | decide) (by first | omega | decide) (by first | omega | decide) (by first | omega | decide) (by first | omega | decide) (by first | omega | decide) (by first | omega | decide) (by omega) (by omega) (by omega) (by omega)
      · have fh2 := eqF h2
        have t4 := addI (a := (20 : Int32)) (b := l6) (by omega) (by omega)
        have t3 := subI (a := ((20 : Int32) + l6)) (b := l7) (by omega) (by omega)
        exact s_X7_row_131 (hk_74 := hk_74) (hk_106 := ih) hN hK (by omega) (by omega) (by omega) (by omega) _ _ _ _ _ _ _ (by first | omega | decide) (by first | omega | decide) (by first | omega | decide) (by first | omega | decide) (by first | omega | decide) (by first | omega | decide) (by first | omega | decide) (by first | omega | decide) (by first | omega | decide) (by first | omega | decide) (by first | omega | decide) (by first | omega | decide) (by omega) (by omega) (by omega) (by omega)
set_option maxHeartbeats 2000000 in
theorem s_X7_row_102 {N K : Nat} {p0 : Int32} {p1 : Int32} (hN : NBig N) (hK : 100 ≤ K) (hp0 : 0 ≤ p0.toInt) (hp1 : p0.toInt ≤ 7) (hp2 : 0 ≤ p1.toInt) (hp3 : p1.toInt ≤ 20) {k_74 : Int32 → Int32 → Int32 → Int32 → (Nat → Int32) → Option ((Nat → Int32))} {m_74 : Nat} (hk_74 : ∀ (l3 : Int32) (l4 : Int32) (l5 : Int32) (l6 : Int32) (e_v0 : (Nat → Int32)), (21 - l6.toInt).toNat < m_74 → -1 ≤ l3.toInt → l3.toInt ≤ 39 → 0 ≤ l4.toInt → l4.toInt ≤ 1 → 0 ≤ l5.toInt → l5.toInt ≤ 1 → 1 ≤ l6.toInt → l6.toInt ≤ 21 → Sf (k_74 l3 l4 l5 l6 e_v0) (fun (z : (Nat → Int32)) => True)) : ∀ (l3 : Int32) (l4 : Int32) (l5 : Int32) (l6 : Int32) (e_v0 : Nat → Int32), 1 ≤ l3.toInt → l3.toInt ≤ 39 → 0 ≤ l4.toInt → l4.toInt ≤ 1 → 0 ≤ l5.toInt → l5.toInt ≤ 1 → 1 ≤ l6.toInt → l6.toInt ≤ 20 → (21 - l6.toInt).toNat ≤ m_74 → Sf (fX7_row_102 N K p0 p1 k_74 l3 l4 l5 l6 e_v0) (fun (z : (Nat → Int32)) => True) := by
  intro l3 l4 l5 l6 e_v0 hq0 hq1 hq2 hq3 hq4 hq5 hq6 hq7 hq8
  unfold fX7_row_102
  have hN9 := hN.u
  have ql0 : (0 : Int32).toInt = 0 := by decide
  exact s_X7_row_106 (hk_74 := hk_74) hN hK (by omega) (by omega) (by omega) (by omega) _ _ _ _ _ _ _ (by omega) (by first | omega | decide) (by first | omega | decide) (by first | omega | decide) (by first | omega | decide) (by first | omega | decide) (by first | omega | decide) (by first | omega | decide) (by first | omega | decide) (by first | omega | decide) (by first | omega | decide) (by omega) (by omega)
set_option maxHeartbeats 2000000 in
theorem s_X7_row_74 {N K : Nat} {p0 : Int32} {p1 : Int32} (hN : NBig N) (hK : 100 ≤ K) (hp0 : 0 ≤ p0.toInt) (hp1 : p0.toInt ≤ 7) (hp2 : 0 ≤ p1.toInt) (hp3 : p1.toInt ≤ 20) : ∀ (fu : Nat) (l3 : Int32) (l4 : Int32) (l5 : Int32) (l6 : Int32) (e_v0 : (Nat → Int32)), (21 - l6.toInt).toNat < fu → -1 ≤ l3.toInt → l3.toInt ≤ 39 → 0 ≤ l4.toInt → l4.toInt ≤ 1 → 0 ≤ l5.toInt → l5.toInt ≤ 1 → 1 ≤ l6.toInt → l6.toInt ≤ 21 → Sf (fX7_row_74 N K p0 p1  fu l3 l4 l5 l6 e_v0) (fun (z : (Nat → Int32)) => True) := by
  intro fu
  induction fu with
  | zero => intro l3 l4 l5 l6 e_v0 h0 hq0 hq1 hq2 hq3 hq4 hq5 hq6 hq7; omega
  | succ fu ih =>
    intro l3 l4 l5 l6 e_v0 h0 hq0 hq1 hq2 hq3 hq4 hq5 hq6 hq7
    unfold fX7_row_74
    have ql0 : (0 : Int32).toInt = 0 := by decide
    have ql2 : (2 : Int32).toInt = 2 := by decide
    have ql20 : (20 : Int32).toInt = 20 := by decide
    refine sIf (fun h1 => ?_) (fun h1 => ?_)
    · have fh1 := ltT h1
      exact sRet trivial
    · have fh1 := ltF h1
      refine sIf (fun h2 => ?_) (fun h2 => ?_)
      · have fh2 := ltT h2
        exact sRet trivial
      · have fh2 := ltF h2
        refine sIf (fun h3 => ?_) (fun h3 => ?_)
        · have fh3 := eqT h3
          exact s_X7_row_102 (hk_74 := ih) hN hK (by omega) (by omega) (by omega) (by omega) _ _ _ _ _ (by first | omega | decide) (by first | omega | decide) (by first | omega | decide) (by first | omega | decide) (by first | omega | decide) (by first | omega | decide) (by first | omega | decide) (by first | omega | decide) (by omega)
        · have fh3 := eqF h3
          refine sIf (fun h4 => ?_) (fun h4 => ?_)
          · have t5 := modL (a := l6) (b := (2 : Int32)) ql2 (by omega)
            have fh4 := eqT h4
            exact s_X7_row_153 (hk_74 := ih) hN hK (by omega) (by omega) (by omega) (by omega) _ _ _ _ _ (by first | omega | decide) (by first | omega | decide) (by first | omega | decide) (by first | omega | decide) (by first | omega | decide) (by first | omega | decide) (by first | omega | decide) (by first | omega | decide) (by omega)
          · have t6 := modL (a := l6) (b := (2 : Int32)) ql2 (by omega)
            have fh4 := eqF h4
            exact s_X7_row_102 (hk_74 := ih) hN hK (by omega) (by omega) (by omega) (by omega) _ _ _ _ _ (by first | omega | decide) (by first | omega | decide) (by first | omega | decide) (by first | omega | decide) (by first | omega | decide) (by first | omega | decide) (by first | omega | decide) (by first | omega | decide) (by omega)
set_option maxHeartbeats 2000000 in
theorem s_X7_row_69 {N K : Nat} {p0 : Int32} {p1 : Int32} (hN : NBig N) (hK : 100 ≤ K) (hp0 : 0 ≤ p0.toInt) (hp1 : p0.toInt ≤ 7) (hp2 : 0 ≤ p1.toInt) (hp3 : p1.toInt ≤ 20) : ∀ (l3 : Int32) (l4 : Int32) (s0 : Int32) (e_v0 : Nat → Int32), -1 ≤ l3.toInt → l3.toInt ≤ 39 → 0 ≤ l4.toInt → l4.toInt ≤ 1 → 0 ≤ s0.toInt → s0.toInt ≤ 1 → (s0.toInt = 0 → 0 ≤ p0.toInt ∧ p0.toInt ≤ 6 ∧ 0 ≤ p1.toInt ∧ p1.toInt ≤ 20) → Sf (fX7_row_69 N K p0 p1  l3 l4 s0 e_v0) (fun (z : (Nat → Int32)) => True) := by
  intro l3 l4 s0 e_v0 hq0 hq1 hq2 hq3 hq4 hq5 hq6
  unfold fX7_row_69
  have hN9 := hN.u
  have ql0 : (0 : Int32).toInt = 0 := by decide
  have ql1 : (1 : Int32).toInt = 1 := by decide
  exact s_X7_row_74  hN hK (by omega) (by omega) (by omega) (by omega) _ _ _ _ _ _ (by omega) (by first | omega | decide) (by first | omega | decide) (by first | omega | decide) (by first | omega | decide) (by first | omega | decide) (by first | omega | decide) (by first | omega | decide) (by first | omega | decide)
set_option maxHeartbeats 2000000 in
theorem s_X7_row_64 {N K : Nat} {p0 : Int32} {p1 : Int32} (hN : NBig N) (hK : 100 ≤ K) (hp0 : 0 ≤ p0.toInt) (hp1 : p0.toInt ≤ 7) (hp2 : 0 ≤ p1.toInt) (hp3 : p1.toInt ≤ 20) : ∀ (l3 : Int32) (l4 : Int32) (e_v0 : Nat → Int32), 2 ≤ p0.toInt → p0.toInt ≤ 7 → -1 ≤ l3.toInt → l3.toInt ≤ 39 → 0 ≤ l4.toInt → l4.toInt ≤ 1 → Sf (fX7_row_64 N K p0 p1  l3 l4 e_v0) (fun (z : (Nat → Int32)) => True) := by
  intro l3 l4 e_v0 hq0 hq1 hq2 hq3 hq4 hq5
  unfold fX7_row_64
  have ql0 : (0 : Int32).toInt = 0 := by decide
  have ql1 : (1 : Int32).toInt = 1 := by decide
  exact s_X7_row_69  hN hK (by omega) (by omega) (by omega) (by omega) _ _ _ _ (by first | omega | decide) (by first | omega | decide) (by first | omega | decide) (by first | omega | decide) (by first | omega | decide) (by first | omega | decide) (by first | omega | decide)
set_option maxHeartbeats 2000000 in
theorem s_X7_row_46 {N K : Nat} {p0 : Int32} {p1 : Int32} (hN : NBig N) (hK : 100 ≤ K) (hp0 : 0 ≤ p0.toInt) (hp1 : p0.toInt ≤ 7) (hp2 : 0 ≤ p1.toInt) (hp3 : p1.toInt ≤ 20) : ∀ (l3 : Int32) (s0 : Int32) (e_v0 : Nat → Int32), -1 ≤ l3.toInt → l3.toInt ≤ 39 → 0 ≤ s0.toInt → s0.toInt ≤ 1 → (s0.toInt = 0 → 0 ≤ p0.toInt ∧ p0.toInt ≤ 6 ∧ 0 ≤ p1.toInt ∧ p1.toInt ≤ 20) → Sf (fX7_row_46 N K p0 p1  l3 s0 e_v0) (fun (z : (Nat → Int32)) => True) := by
  intro l3 s0 e_v0 hq0 hq1 hq2 hq3 hq4
  unfold fX7_row_46
  have ql0 : (0 : Int32).toInt = 0 := by decide
  have ql2 : (2 : Int32).toInt = 2 := by decide
  have ql4 : (4 : Int32).toInt = 4 := by decide
  have ql7 : (7 : Int32).toInt = 7 := by decide
  refine sIf (fun h1 => ?_) (fun h1 => ?_)
  · have fh1 := eqT h1
    exact s_X7_row_64  hN hK (by omega) (by omega) (by omega) (by omega) _ _ _ (by first | omega | decide) (by first | omega | decide) (by first | omega | decide) (by first | omega | decide) (by first | omega | decide) (by first | omega | decide)
  · have fh1 := eqF h1
    refine sIf (fun h2 => ?_) (fun h2 => ?_)
    · have fh2 := eqT h2
      exact s_X7_row_64  hN hK (by omega) (by omega) (by omega) (by omega) _ _ _ (by first | omega | decide) (by first | omega | decide) (by first | omega | decide) (by first | omega | decide) (by first | omega | decide) (by first | omega | decide)
    · have fh2 := eqF h2
      refine sIf (fun h3 => ?_) (fun h3 => ?_)
      · have fh3 := eqT h3
        exact s_X7_row_64  hN hK (by omega) (by omega) (by omega) (by omega) _ _ _ (by first | omega | decide) (by first | omega | decide) (by first | omega | decide) (by first | omega | decide) (by first | omega | decide) (by first | omega | decide)
      · have fh3 := eqF h3
        exact s_X7_row_69  hN hK (by omega) (by omega) (by omega) (by omega) _ _ _ _ (by first | omega | decide) (by first | omega | decide) (by first | omega | decide) (by first | omega | decide) (by first | omega | decide) (by first | omega | decide) (by first | omega | decide)
set_option maxHeartbeats 2000000 in
theorem s_X7_row_41 {N K : Nat} {p0 : Int32} {p1 : Int32} (hN : NBig N) (hK : 100 ≤ K) (hp0 : 0 ≤ p0.toInt) (hp1 : p0.toInt ≤ 7) (hp2 : 0 ≤ p1.toInt) (hp3 : p1.toInt ≤ 20) : ∀ (l3 : Int32) (e_v0 : Nat → Int32), 3 ≤ p0.toInt → p0.toInt ≤ 7 → -1 ≤ l3.toInt → l3.toInt ≤ 39 → Sf (fX7_row_41 N K p0 p1  l3 e_v0) (fun (z : (Nat → Int32)) => True) := by
  intro l3 e_v0 hq0 hq1 hq2 hq3
  unfold fX7_row_41
  have ql0 : (0 : Int32).toInt = 0 := by decide
  have ql1 : (1 : Int32).toInt = 1 := by decide
  exact s_X7_row_46  hN hK (by omega) (by omega) (by omega) (by omega) _ _ _ (by first | omega | decide) (by first | omega | decide) (by first | omega | decide) (by first | omega | decide) (by first | omega | decide)
set_option maxHeartbeats 2000000 in
theorem s_X7_row_24 {N K : Nat} {p0 : Int32} {p1 : Int32} (hN : NBig N) (hK : 100 ≤ K) (hp0 : 0 ≤ p0.toInt) (hp1 : p0.toInt ≤ 7) (hp2 : 0 ≤ p1.toInt) (hp3 : p1.toInt ≤ 20) : ∀ (s0 : Int32) (e_v0 : Nat → Int32), -1 ≤ s0.toInt → s0.toInt ≤ 39 → (s0.toInt = 0 → 0 ≤ p0.toInt ∧ p0.toInt ≤ 7 ∧ 0 ≤ p1.toInt ∧ p1.toInt ≤ 20) → Sf (fX7_row_24 N K p0 p1  s0 e_v0) (fun (z : (Nat → Int32)) => True) := by
  intro s0 e_v0 hq0 hq1 hq2
  unfold fX7_row_24
  have ql0 : (0 : Int32).toInt = 0 := by decide
  have ql3 : (3 : Int32).toInt = 3 := by decide
  have ql4 : (4 : Int32).toInt = 4 := by decide
  have ql7 : (7 : Int32).toInt = 7 := by decide
  refine sIf (fun h1 => ?_) (fun h1 => ?_)
  · have fh1 := eqT h1
    exact s_X7_row_41  hN hK (by omega) (by omega) (by omega) (by omega) _ _ (by first | omega | decide) (by first | omega | decide) (by first | omega | decide) (by first | omega | decide)
  · have fh1 := eqF h1
    refine sIf (fun h2 => ?_) (fun h2 => ?_)
    · have fh2 := eqT h2
      exact s_X7_row_41  hN hK (by omega) (by omega) (by omega) (by omega) _ _ (by first | omega | decide) (by first | omega | decide) (by first | omega | decide) (by first | omega | decide)
    · have fh2 := eqF h2
      refine sIf (fun h3 => ?_) (fun h3 => ?_)
      · have fh3 := eqT h3
        exact s_X7_row_41  hN hK (by omega) (by omega) (by omega) (by omega) _ _ (by first | omega | decide) (by first | omega | decide) (by first | omega | decide) (by first | omega | decide)
      · have fh3 := eqF h3
        exact s_X7_row_46  hN hK (by omega) (by omega) (by omega) (by omega) _ _ _ (by first | omega | decide) (by first | omega | decide) (by first | omega | decide) (by first | omega | decide) (by first | omega | decide)
set_option maxHeartbeats 2000000 in
theorem s_X7_row {N K : Nat} {p0 : Int32} {p1 : Int32} (hN : NBig N) (hK : 100 ≤ K) (hp0 : 0 ≤ p0.toInt) (hp1 : p0.toInt ≤ 7) (hp2 : 0 ≤ p1.toInt) (hp3 : p1.toInt ≤ 20) : Sf (fX7_row N K p0 p1) (fun (z : (Nat → Int32)) => True) := by
  unfold fX7_row
  have ql0 : (0 : Int32).toInt = 0 := by decide
  have ql1 : (1 : Int32).toInt = 1 := by decide
  have ql2 : (2 : Int32).toInt = 2 := by decide
  have ql7 : (7 : Int32).toInt = 7 := by decide
  refine sIf (fun h1 => ?_) (fun h1 => ?_)
  · have fh1 := eqT h1
    have t3 := mulL (a := (2 : Int32)) (b := p1) ql2 (by omega) (by omega)
    have t2 := subI (a := ((2 : Int32) * p1)) (b := (1 : Int32)) (by omega) (by omega)
    exact s_X7_row_24  hN hK (by omega) (by omega) (by omega) (by omega) _ _ (by first | omega | decide) (by first | omega | decide) (by first | omega | decide)
  · have fh1 := eqF h1
    exact s_X7_row_24  hN hK (by omega) (by omega) (by omega) (by omega) _ _ (by first | omega | decide) (by first | omega | decide) (by first | omega | decide)
set_option maxHeartbeats 2000000 in
theorem s_X7_told_29 {N K : Nat} {f : Nat → Int32} {p0 : Int32} {p1 : Int32} {p2 : Int32} (hN : NBig N) (hK : 100 ≤ K) (hp0 : 0 ≤ p0.toInt) (hp1 : p0.toInt ≤ 7) (hp2 : 0 ≤ p1.toInt) (hp3 : p1.toInt ≤ 20) (hp4 : 0 ≤ p2.toInt) (hp5 : p2.toInt ≤ 20) : ∀ (s0 : Int32), -210 ≤ s0.toInt → s0.toInt ≤ 20 → (s0.toInt = 0 → 0 ≤ p0.toInt ∧ p0.toInt ≤ 7 ∧ 0 ≤ p1.toInt ∧ p1.toInt ≤ 20 ∧ 0 ≤ p2.toInt ∧ p2.toInt ≤ 20) → Sf (fX7_told_29 N K f p0 p1 p2  s0) (fun (z : Int32) => True) := by
  intro s0 hq0 hq1 hq2
  unfold fX7_told_29
  have ql0 : (0 : Int32).toInt = 0 := by decide
  refine sIf (fun h1 => ?_) (fun h1 => ?_)
  · have fh1 := leT h1
    refine sIfF (noob (by omega) (by omega)) ?_
    exact sRet trivial
  · have fh1 := leF h1
    exact sRet trivial
set_option maxHeartbeats 2000000 in
theorem s_X7_told {N K : Nat} {f : Nat → Int32} {p0 : Int32} {p1 : Int32} {p2 : Int32} (hN : NBig N) (hK : 100 ≤ K) (hp0 : 0 ≤ p0.toInt) (hp1 : p0.toInt ≤ 7) (hp2 : 0 ≤ p1.toInt) (hp3 : p1.toInt ≤ 20) (hp4 : 0 ≤ p2.toInt) (hp5 : p2.toInt ≤ 20) : Sf (fX7_told N K f p0 p1 p2) (fun (z : Int32) => True) := by
  unfold fX7_told
  have ql0 : (0 : Int32).toInt = 0 := by decide
  have ql1 : (1 : Int32).toInt = 1 := by decide
  have ql2 : (2 : Int32).toInt = 2 := by decide
  have ql5 : (5 : Int32).toInt = 5 := by decide
  refine sIf (fun h1 => ?_) (fun h1 => ?_)
  · have fh1 := eqT h1
    have t2 := subI (a := p1) (b := p2) (by omega) (by omega)
    exact s_X7_told_29  hN hK (by omega) (by omega) (by omega) (by omega) (by omega) (by omega) _ (by first | omega | decide) (by first | omega | decide) (by first | omega | decide)
  · have fh1 := eqF h1
    refine sIf (fun h3 => ?_) (fun h3 => ?_)
    · have fh3 := eqT h3
      have t7 := addI (a := p2) (b := (1 : Int32)) (by omega) (by omega)
      have t6 := mulV (a := p2) (b := (p2 + (1 : Int32))) (x0 := 0) (y0 := 1) (x := 20) (y := 21) (z0 := 0) (z := 420) (by omega) (by omega) (by omega) (by omega) (by decide) (by decide) (by decide) (by decide) (by decide)
      have t5 := divL (a := (p2 * (p2 + (1 : Int32)))) (b := (2 : Int32)) ql2 (by omega) (by omega)
      have t4 := subI (a := p1) (b := ((p2 * (p2 + (1 : Int32))) / (2 : Int32))) (by omega) (by omega)
      exact s_X7_told_29  hN hK (by omega) (by omega) (by omega) (by omega) (by omega) (by omega) _ (by first | omega | decide) (by first | omega | decide) (by first | omega | decide)
    · have fh3 := eqF h3
      exact s_X7_told_29  hN hK (by omega) (by omega) (by omega) (by omega) (by omega) (by omega) _ (by first | omega | decide) (by first | omega | decide) (by first | omega | decide)
set_option maxHeartbeats 2000000 in
theorem s_X7_series {N K : Nat} {p0 : Int32} {p1 : Int32} {p2 : Int32} (hN : NBig N) (hK : 100 ≤ K) (hp0 : 0 ≤ p0.toInt) (hp1 : p0.toInt ≤ 7) (hp2 : 0 ≤ p1.toInt) (hp3 : p1.toInt ≤ 20) (hp4 : 0 ≤ p2.toInt) (hp5 : p2.toInt ≤ 20) : Sf (fX7_series N K p0 p1 p2) (fun (z : Int32) => True) := by
  unfold fX7_series
  have ql0 : (0 : Int32).toInt = 0 := by decide
  refine sBind (s_X7_row hN hK (by first | omega | decide) (by first | omega | decide) (by first | omega | decide) (by first | omega | decide)) (fun x2 b1 => ?_)
  refine sBind (s_X7_told hN hK (by first | omega | decide) (by first | omega | decide) (by first | omega | decide) (by first | omega | decide) (by first | omega | decide) (by first | omega | decide)) (fun x8 b2 => ?_)
  exact sRet trivial
theorem s_X7_number {N K : Nat} {f : Nat → Int32} (hN : NBig N) (hK : 100 ≤ K) (hp0 : OkD f) : Sf (fX7_number N K f) (fun (z : Int32) => 0 ≤ z.toInt ∧ z.toInt ≤ 20 ∧ True) := by
  have hN9 := hN.u
  obtain ⟨w, hw⟩ := hp0
  have hwn := hw.1
  refine ⟨_, m_sum (by omega) hw.2, ?_⟩
  show 0 ≤ (Int32.ofNat (wn w)).toInt ∧ (Int32.ofNat (wn w)).toInt ≤ 20 ∧ True
  rw [o_i (by omega)]
  exact ⟨by omega, by omega, trivial⟩

set_option maxHeartbeats 2000000 in
theorem s_X7_parts_4 {N K : Nat} {f : Nat → Int32} (hN : NBig N) (hK : 100 ≤ K)  : ∀ (fu : Nat) (l1 : Int32) (l2 : Int32), (21 - l2.toInt).toNat < fu → 1 ≤ l2.toInt → l2.toInt ≤ 21 → Sf (fX7_parts_4 N K f  fu l1 l2) (fun (z : Int32) => True) := by
  intro fu
  induction fu with
  | zero => intro l1 l2 h0 hq0 hq1; omega
  | succ fu ih =>
    intro l1 l2 h0 hq0 hq1
    unfold fX7_parts_4
    have ql0 : (0 : Int32).toInt = 0 := by decide
    have ql1 : (1 : Int32).toInt = 1 := by decide
    have ql20 : (20 : Int32).toInt = 20 := by decide
    refine sIf (fun h1 => ?_) (fun h1 => ?_)
    · have fh1 := ltT h1
      exact sRet trivial
    · have fh1 := ltF h1
      refine sIfF (noob (by omega) (by omega)) ?_
      have t3 := addI (a := l2) (b := (1 : Int32)) (by omega) (by omega)
      exact ih _ _ (by omega) (by first | omega | decide) (by first | omega | decide)
