set_option maxHeartbeats 2000000 in
theorem s_X3_reckon_128 {N K : Nat} {g : Nat → Int32} {p0 : Int32} {p1 : Int32} (hN : NBig N) (hK : 100 ≤ K) (hp0 : 0 ≤ p0.toInt) (hp1 : p0.toInt ≤ 7) (hp2 : 0 ≤ p1.toInt) (hp3 : p1.toInt ≤ 20) {k_80 : Int32 → Int32 → Int32 → Int32 → (Nat → Int32) → Option ((Nat → Int32))} {m_80 : Nat} (hk_80 : ∀ (l3 : Int32) (l4 : Int32) (l5 : Int32) (l6 : Int32) (g_ : (Nat → Int32)), (21 - l6.toInt).toNat < m_80 → -1 ≤ l3.toInt → l3.toInt ≤ 39 → 0 ≤ l4.toInt → l4.toInt ≤ 1 → 0 ≤ l5.toInt → l5.toInt ≤ 1 → 1 ≤ l6.toInt → l6.toInt ≤ 21 → Sf (k_80 l3 l4 l5 l6 g_) (fun (z : (Nat → Int32)) => True)) : ∀ (l3 : Int32) (l4 : Int32) (l5 : Int32) (l6 : Int32) (g_ : Nat → Int32), 1 ≤ l3.toInt → l3.toInt ≤ 39 → 0 ≤ l4.toInt → l4.toInt ≤ 1 → 0 ≤ l5.toInt → l5.toInt ≤ 1 → 1 ≤ l6.toInt → l6.toInt ≤ 20 → (21 - l6.toInt).toNat ≤ m_80 → Sf (fX3_reckon_128 N K g p0 p1 k_80 l3 l4 l5 l6 g_) (fun (z : (Nat → Int32)) => True) := by
  intro l3 l4 l5 l6 g_ hq0 hq1 hq2 hq3 hq4 hq5 hq6 hq7 hq8
  unfold fX3_reckon_128
  have ql0 : (0 : Int32).toInt = 0 := by decide
  have ql1 : (1 : Int32).toInt = 1 := by decide
  have r1 := rgI l3
  have r2 := rgI l4
  have r3 := rgI l5
  have r5 := rgI l6
  have t4 := addI (a := l6) (b := (1 : Int32)) (by omega) (by omega)
  exact hk_80 _ _ _ _ _ (by omega) (by first | omega | decide) (by first | omega | decide) (by first | omega | decide) (by first | omega | decide) (by first | omega | decide) (by first | omega | decide) (by first | omega | decide) (by first | omega | decide)
set_option maxHeartbeats 2000000 in
theorem s_X3_reckon_108 {N K : Nat} {g : Nat → Int32} {p0 : Int32} {p1 : Int32} (hN : NBig N) (hK : 100 ≤ K) (hp0 : 0 ≤ p0.toInt) (hp1 : p0.toInt ≤ 7) (hp2 : 0 ≤ p1.toInt) (hp3 : p1.toInt ≤ 20) {k_80 : Int32 → Int32 → Int32 → Int32 → (Nat → Int32) → Option ((Nat → Int32))} {m_80 : Nat} (hk_80 : ∀ (l3 : Int32) (l4 : Int32) (l5 : Int32) (l6 : Int32) (g_ : (Nat → Int32)), (21 - l6.toInt).toNat < m_80 → -1 ≤ l3.toInt → l3.toInt ≤ 39 → 0 ≤ l4.toInt → l4.toInt ≤ 1 → 0 ≤ l5.toInt → l5.toInt ≤ 1 → 1 ≤ l6.toInt → l6.toInt ≤ 21 → Sf (k_80 l3 l4 l5 l6 g_) (fun (z : (Nat → Int32)) => True)) : ∀ (l3 : Int32) (l4 : Int32) (l5 : Int32) (l6 : Int32) (g_ : Nat → Int32), 1 ≤ l3.toInt → l3.toInt ≤ 39 → 0 ≤ l4.toInt → l4.toInt ≤ 1 → 0 ≤ l5.toInt → l5.toInt ≤ 1 → 1 ≤ l6.toInt → l6.toInt ≤ 20 → (21 - l6.toInt).toNat ≤ m_80 → Sf (fX3_reckon_108 N K g p0 p1 k_80 l3 l4 l5 l6 g_) (fun (z : (Nat → Int32)) => True) := by
  intro l3 l4 l5 l6 g_ hq0 hq1 hq2 hq3 hq4 hq5 hq6 hq7 hq8
  unfold fX3_reckon_108
  have ql0 : (0 : Int32).toInt = 0 := by decide
  refine sIf (fun h1 => ?_) (fun h1 => ?_)
  · have r2 := rgI l5
    have fh1 := eqT h1
    have r3 := rgI l6
    refine sBind (s_X3_takeOften hN hK (by first | omega | decide) (by first | omega | decide)) (fun x125 b4 => ?_)
    have r5 := rgI l3
    have r6 := rgI l4
    exact s_X3_reckon_128 (hk_80 := hk_80) hN hK (by omega) (by omega) (by omega) (by omega) _ _ _ _ _ (by first | omega | decide) (by first | omega | decide) (by first | omega | decide) (by first | omega | decide) (by first | omega | decide) (by first | omega | decide) (by first | omega | decide) (by first | omega | decide) (by omega)
  · have r7 := rgI l5
    have fh1 := eqF h1
    have r8 := rgI l6
    refine sBind (s_X3_takeOnce hN hK (by first | omega | decide) (by first | omega | decide)) (fun x116 b9 => ?_)
    have r10 := rgI l3
    have r11 := rgI l4
    exact s_X3_reckon_128 (hk_80 := hk_80) hN hK (by omega) (by omega) (by omega) (by omega) _ _ _ _ _ (by first | omega | decide) (by first | omega | decide) (by first | omega | decide) (by first | omega | decide) (by first | omega | decide) (by first | omega | decide) (by first | omega | decide) (by first | omega | decide) (by omega)
set_option maxHeartbeats 2000000 in
theorem s_X3_reckon_80 {N K : Nat} {g : Nat → Int32} {p0 : Int32} {p1 : Int32} (hN : NBig N) (hK : 100 ≤ K) (hp0 : 0 ≤ p0.toInt) (hp1 : p0.toInt ≤ 7) (hp2 : 0 ≤ p1.toInt) (hp3 : p1.toInt ≤ 20) : ∀ (fu : Nat) (l3 : Int32) (l4 : Int32) (l5 : Int32) (l6 : Int32) (g_ : (Nat → Int32)), (21 - l6.toInt).toNat < fu → -1 ≤ l3.toInt → l3.toInt ≤ 39 → 0 ≤ l4.toInt → l4.toInt ≤ 1 → 0 ≤ l5.toInt → l5.toInt ≤ 1 → 1 ≤ l6.toInt → l6.toInt ≤ 21 → Sf (fX3_reckon_80 N K g p0 p1  fu l3 l4 l5 l6 g_) (fun (z : (Nat → Int32)) => True) := by
  intro fu
  induction fu with
  | zero => intro l3 l4 l5 l6 g_ h0 hq0 hq1 hq2 hq3 hq4 hq5 hq6 hq7; omega
  | succ fu ih =>
    intro l3 l4 l5 l6 g_ h0 hq0 hq1 hq2 hq3 hq4 hq5 hq6 hq7
    unfold fX3_reckon_80
    have ql0 : (0 : Int32).toInt = 0 := by decide
    have ql2 : (2 : Int32).toInt = 2 := by decide
    have ql20 : (20 : Int32).toInt = 20 := by decide
    refine sIf (fun h1 => ?_) (fun h1 => ?_)
    · have r2 := rgI l3
      have r3 := rgI l6
      have fh1 := ltT h1
      exact sRet trivial
    · have r4 := rgI l3
      have r5 := rgI l6
      have fh1 := ltF h1
      refine sIf (fun h6 => ?_) (fun h6 => ?_)
      · have fh6 := ltT h6
        exact sRet trivial
      · have fh6 := ltF h6
        refine sIf (fun h7 => ?_) (fun h7 => ?_)
        · have r8 := rgI l4
          have fh7 := eqT h7
          have r9 := rgI l5
          exact s_X3_reckon_108 (hk_80 := ih) hN hK (by omega) (by omega) (by omega) (by omega) _ _ _ _ _ (by first | omega | decide) (by first | omega | decide) (by first | omega | decide) (by first | omega | decide) (by first | omega | decide) (by first | omega | decide) (by first | omega | decide) (by first | omega | decide) (by omega)
        · have r10 := rgI l4
          have fh7 := eqF h7
          refine sIf (fun h11 => ?_) (fun h11 => ?_)
          · have t12 := modL (a := l6) (b := (2 : Int32)) ql2 (by omega)
            have fh11 := eqT h11
            have r13 := rgI l5
            exact s_X3_reckon_128 (hk_80 := ih) hN hK (by omega) (by omega) (by omega) (by omega) _ _ _ _ _ (by first | omega | decide) (by first | omega | decide) (by first | omega | decide) (by first | omega | decide) (by first | omega | decide) (by first | omega | decide) (by first | omega | decide) (by first | omega | decide) (by omega)
          · have t14 := modL (a := l6) (b := (2 : Int32)) ql2 (by omega)
            have fh11 := eqF h11
            have r15 := rgI l5
            exact s_X3_reckon_108 (hk_80 := ih) hN hK (by omega) (by omega) (by omega) (by omega) _ _ _ _ _ (by first | omega | decide) (by first | omega | decide) (by first | omega | decide) (by first | omega | decide) (by first | omega | decide) (by first | omega | decide) (by first | omega | decide) (by first | omega | decide) (by omega)
set_option maxHeartbeats 2000000 in
theorem s_X3_reckon_75 {N K : Nat} {g : Nat → Int32} {p0 : Int32} {p1 : Int32} (hN : NBig N) (hK : 100 ≤ K) (hp0 : 0 ≤ p0.toInt) (hp1 : p0.toInt ≤ 7) (hp2 : 0 ≤ p1.toInt) (hp3 : p1.toInt ≤ 20) : ∀ (l3 : Int32) (l4 : Int32) (s0 : Int32) (g_ : Nat → Int32), -1 ≤ l3.toInt → l3.toInt ≤ 39 → 0 ≤ l4.toInt → l4.toInt ≤ 1 → 0 ≤ s0.toInt → s0.toInt ≤ 1 → (s0.toInt = 0 → 0 ≤ p0.toInt ∧ p0.toInt ≤ 6 ∧ 0 ≤ p1.toInt ∧ p1.toInt ≤ 20) → Sf (fX3_reckon_75 N K g p0 p1  l3 l4 s0 g_) (fun (z : (Nat → Int32)) => True) := by
  intro l3 l4 s0 g_ hq0 hq1 hq2 hq3 hq4 hq5 hq6
  unfold fX3_reckon_75
  have hN9 := hN.u
  have ql0 : (0 : Int32).toInt = 0 := by decide
  have ql1 : (1 : Int32).toInt = 1 := by decide
  have r1 := rgI l3
  have r2 := rgI l4
  have r3 := rgI s0
  exact s_X3_reckon_80  hN hK (by omega) (by omega) (by omega) (by omega) _ _ _ _ _ _ (by omega) (by first | omega | decide) (by first | omega | decide) (by first | omega | decide) (by first | omega | decide) (by first | omega | decide) (by first | omega | decide) (by first | omega | decide) (by first | omega | decide)
set_option maxHeartbeats 2000000 in
theorem s_X3_reckon_70 {N K : Nat} {g : Nat → Int32} {p0 : Int32} {p1 : Int32} (hN : NBig N) (hK : 100 ≤ K) (hp0 : 0 ≤ p0.toInt) (hp1 : p0.toInt ≤ 7) (hp2 : 0 ≤ p1.toInt) (hp3 : p1.toInt ≤ 20) : ∀ (l3 : Int32) (l4 : Int32) (g_ : Nat → Int32), 2 ≤ p0.toInt → p0.toInt ≤ 7 → -1 ≤ l3.toInt → l3.toInt ≤ 39 → 0 ≤ l4.toInt → l4.toInt ≤ 1 → Sf (fX3_reckon_70 N K g p0 p1  l3 l4 g_) (fun (z : (Nat → Int32)) => True) := by
  intro l3 l4 g_ hq0 hq1 hq2 hq3 hq4 hq5
  unfold fX3_reckon_70
  have ql0 : (0 : Int32).toInt = 0 := by decide
  have ql1 : (1 : Int32).toInt = 1 := by decide
  have r1 := rgI l3
  have r2 := rgI l4
  exact s_X3_reckon_75  hN hK (by omega) (by omega) (by omega) (by omega) _ _ _ _ (by first | omega | decide) (by first | omega | decide) (by first | omega | decide) (by first | omega | decide) (by first | omega | decide) (by first | omega | decide) (by first | omega | decide)
set_option maxHeartbeats 2000000 in
theorem s_X3_reckon_52 {N K : Nat} {g : Nat → Int32} {p0 : Int32} {p1 : Int32} (hN : NBig N) (hK : 100 ≤ K) (hp0 : 0 ≤ p0.toInt) (hp1 : p0.toInt ≤ 7) (hp2 : 0 ≤ p1.toInt) (hp3 : p1.toInt ≤ 20) : ∀ (l3 : Int32) (s0 : Int32) (g_ : Nat → Int32), -1 ≤ l3.toInt → l3.toInt ≤ 39 → 0 ≤ s0.toInt → s0.toInt ≤ 1 → (s0.toInt = 0 → 0 ≤ p0.toInt ∧ p0.toInt ≤ 6 ∧ 0 ≤ p1.toInt ∧ p1.toInt ≤ 20) → Sf (fX3_reckon_52 N K g p0 p1  l3 s0 g_) (fun (z : (Nat → Int32)) => True) := by
  intro l3 s0 g_ hq0 hq1 hq2 hq3 hq4
  unfold fX3_reckon_52
  have ql0 : (0 : Int32).toInt = 0 := by decide
  have ql2 : (2 : Int32).toInt = 2 := by decide
  have ql4 : (4 : Int32).toInt = 4 := by decide
  have ql7 : (7 : Int32).toInt = 7 := by decide
  refine sIf (fun h1 => ?_) (fun h1 => ?_)
  · have r2 := rgI p0
    have fh1 := eqT h1
    have r3 := rgI l3
    have r4 := rgI s0
    exact s_X3_reckon_70  hN hK (by omega) (by omega) (by omega) (by omega) _ _ _ (by first | omega | decide) (by first | omega | decide) (by first | omega | decide) (by first | omega | decide) (by first | omega | decide) (by first | omega | decide)
  · have r5 := rgI p0
    have fh1 := eqF h1
    refine sIf (fun h6 => ?_) (fun h6 => ?_)
    · have fh6 := eqT h6
      have r7 := rgI l3
      have r8 := rgI s0
      exact s_X3_reckon_70  hN hK (by omega) (by omega) (by omega) (by omega) _ _ _ (by first | omega | decide) (by first | omega | decide) (by first | omega | decide) (by first | omega | decide) (by first | omega | decide) (by first | omega | decide)
    · have fh6 := eqF h6
      refine sIf (fun h9 => ?_) (fun h9 => ?_)
      · have fh9 := eqT h9
        have r10 := rgI l3
        have r11 := rgI s0
        exact s_X3_reckon_70  hN hK (by omega) (by omega) (by omega) (by omega) _ _ _ (by first | omega | decide) (by first | omega | decide) (by first | omega | decide) (by first | omega | decide) (by first | omega | decide) (by first | omega | decide)
      · have fh9 := eqF h9
        have r12 := rgI l3
        have r13 := rgI s0
        exact s_X3_reckon_75  hN hK (by omega) (by omega) (by omega) (by omega) _ _ _ _ (by first | omega | decide) (by first | omega | decide) (by first | omega | decide) (by first | omega | decide) (by first | omega | decide) (by first | omega | decide) (by first | omega | decide)
set_option maxHeartbeats 2000000 in
theorem s_X3_reckon_47 {N K : Nat} {g : Nat → Int32} {p0 : Int32} {p1 : Int32} (hN : NBig N) (hK : 100 ≤ K) (hp0 : 0 ≤ p0.toInt) (hp1 : p0.toInt ≤ 7) (hp2 : 0 ≤ p1.toInt) (hp3 : p1.toInt ≤ 20) : ∀ (l3 : Int32) (g_ : Nat → Int32), 3 ≤ p0.toInt → p0.toInt ≤ 7 → -1 ≤ l3.toInt → l3.toInt ≤ 39 → Sf (fX3_reckon_47 N K g p0 p1  l3 g_) (fun (z : (Nat → Int32)) => True) := by
  intro l3 g_ hq0 hq1 hq2 hq3
  unfold fX3_reckon_47
  have ql0 : (0 : Int32).toInt = 0 := by decide
  have ql1 : (1 : Int32).toInt = 1 := by decide
  have r1 := rgI l3
  exact s_X3_reckon_52  hN hK (by omega) (by omega) (by omega) (by omega) _ _ _ (by first | omega | decide) (by first | omega | decide) (by first | omega | decide) (by first | omega | decide) (by first | omega | decide)
set_option maxHeartbeats 2000000 in
theorem s_X3_reckon_30 {N K : Nat} {g : Nat → Int32} {p0 : Int32} {p1 : Int32} (hN : NBig N) (hK : 100 ≤ K) (hp0 : 0 ≤ p0.toInt) (hp1 : p0.toInt ≤ 7) (hp2 : 0 ≤ p1.toInt) (hp3 : p1.toInt ≤ 20) : ∀ (s0 : Int32) (g_ : Nat → Int32), -1 ≤ s0.toInt → s0.toInt ≤ 39 → (s0.toInt = 0 → 0 ≤ p0.toInt ∧ p0.toInt ≤ 7 ∧ 0 ≤ p1.toInt ∧ p1.toInt ≤ 20) → Sf (fX3_reckon_30 N K g p0 p1  s0 g_) (fun (z : (Nat → Int32)) => True) := by
  intro s0 g_ hq0 hq1 hq2
  unfold fX3_reckon_30
  have ql0 : (0 : Int32).toInt = 0 := by decide
  have ql3 : (3 : Int32).toInt = 3 := by decide
  have ql4 : (4 : Int32).toInt = 4 := by decide
  have ql7 : (7 : Int32).toInt = 7 := by decide
  refine sIf (fun h1 => ?_) (fun h1 => ?_)
  · have r2 := rgI p0
    have fh1 := eqT h1
    have r3 := rgI s0
    exact s_X3_reckon_47  hN hK (by omega) (by omega) (by omega) (by omega) _ _ (by first | omega | decide) (by first | omega | decide) (by first | omega | decide) (by first | omega | decide)
  · have r4 := rgI p0
    have fh1 := eqF h1
    refine sIf (fun h5 => ?_) (fun h5 => ?_)
    · have fh5 := eqT h5
      have r6 := rgI s0
      exact s_X3_reckon_47  hN hK (by omega) (by omega) (by omega) (by omega) _ _ (by first | omega | decide) (by first | omega | decide) (by first | omega | decide) (by first | omega | decide)
    · have fh5 := eqF h5
      refine sIf (fun h7 => ?_) (fun h7 => ?_)
      · have fh7 := eqT h7
        have r8 := rgI s0
        exact s_X3_reckon_47  hN hK (by omega) (by omega) (by omega) (by omega) _ _ (by first | omega | decide) (by first | omega | decide) (by first | omega | decide) (by first | omega | decide)
      · have fh7 := eqF h7
        have r9 := rgI s0
        exact s_X3_reckon_52  hN hK (by omega) (by omega) (by omega) (by omega) _ _ _ (by first | omega | decide) (by first | omega | decide) (by first | omega | decide) (by first | omega | decide) (by first | omega | decide)
set_option maxHeartbeats 2000000 in
theorem s_X3_reckon {N K : Nat} {g : Nat → Int32} {p0 : Int32} {p1 : Int32} (hN : NBig N) (hK : 100 ≤ K) (hp0 : 0 ≤ p0.toInt) (hp1 : p0.toInt ≤ 7) (hp2 : 0 ≤ p1.toInt) (hp3 : p1.toInt ≤ 20) : Sf (fX3_reckon N K g p0 p1) (fun (z : (Nat → Int32)) => True) := by
  unfold fX3_reckon
  have ql0 : (0 : Int32).toInt = 0 := by decide
  have ql1 : (1 : Int32).toInt = 1 := by decide
  have ql2 : (2 : Int32).toInt = 2 := by decide
  have ql7 : (7 : Int32).toInt = 7 := by decide
  refine sBind (s_J_fill hN hK (by first | omega | decide)) (fun x5 b1 => ?_)
  refine sIf (fun h2 => ?_) (fun h2 => ?_)
  · have r3 := rgI p0
    have fh2 := eqT h2
    have r6 := rgI p1
    have t5 := mulL (a := (2 : Int32)) (b := p1) ql2 (by omega) (by omega)
    have t4 := subI (a := ((2 : Int32) * p1)) (b := (1 : Int32)) (by omega) (by omega)
    exact s_X3_reckon_30  hN hK (by omega) (by omega) (by omega) (by omega) _ _ (by first | omega | decide) (by first | omega | decide) (by first | omega | decide)
  · have r7 := rgI p0
    have fh2 := eqF h2
    have r8 := rgI p1
    exact s_X3_reckon_30  hN hK (by omega) (by omega) (by omega) (by omega) _ _ (by first | omega | decide) (by first | omega | decide) (by first | omega | decide)
set_option maxHeartbeats 2000000 in
theorem s_X3_reckoned_32 {N K : Nat} {g : Nat → Int32} {p0 : Int32} {p1 : Int32} {p2 : Int32} (hN : NBig N) (hK : 100 ≤ K) (hp0 : 0 ≤ p0.toInt) (hp1 : p0.toInt ≤ 7) (hp2 : 0 ≤ p1.toInt) (hp3 : p1.toInt ≤ 20) (hp4 : 0 ≤ p2.toInt) (hp5 : p2.toInt ≤ 20) : ∀ (l4 : Int32), -210 ≤ l4.toInt → l4.toInt ≤ 20 → Sf (fX3_reckoned_32 N K g p0 p1 p2  l4) (fun (z : Int32) => True) := by
  intro l4 hq0 hq1
  unfold fX3_reckoned_32
  have ql0 : (0 : Int32).toInt = 0 := by decide
  have ql21 : (21 : Int32).toInt = 21 := by decide
  refine sIf (fun h1 => ?_) (fun h1 => ?_)
  · have r2 := rgI l4
    have fh1 := ltT h1
    exact sRet trivial
  · have r3 := rgI l4
    have fh1 := ltF h1
    refine sIf (fun h4 => ?_) (fun h4 => ?_)
    · have fh4 := ltT h4
      refine sIfF (noob (by omega) (by omega)) ?_
      have r5 := rgI (g l4.toNatClampNeg)
      exact sRet trivial
    · have fh4 := ltF h4
      exfalso; omega
set_option maxHeartbeats 2000000 in
theorem s_X3_reckoned {N K : Nat} {g : Nat → Int32} {p0 : Int32} {p1 : Int32} {p2 : Int32} (hN : NBig N) (hK : 100 ≤ K) (hp0 : 0 ≤ p0.toInt) (hp1 : p0.toInt ≤ 7) (hp2 : 0 ≤ p1.toInt) (hp3 : p1.toInt ≤ 20) (hp4 : 0 ≤ p2.toInt) (hp5 : p2.toInt ≤ 20) : Sf (fX3_reckoned N K g p0 p1 p2) (fun (z : Int32) => True) := by
  unfold fX3_reckoned
  have ql0 : (0 : Int32).toInt = 0 := by decide
  have ql1 : (1 : Int32).toInt = 1 := by decide
  have ql2 : (2 : Int32).toInt = 2 := by decide
  have ql5 : (5 : Int32).toInt = 5 := by decide
  refine sIf (fun h1 => ?_) (fun h1 => ?_)
  · have r2 := rgI p0
    have fh1 := eqT h1
    have r4 := rgI p1
    have r5 := rgI p2
    have t3 := subI (a := p1) (b := p2) (by omega) (by omega)
    exact s_X3_reckoned_32  hN hK (by omega) (by omega) (by omega) (by omega) (by omega) (by omega) _ (by first | omega | decide) (by first | omega | decide)
  · have r6 := rgI p0
    have fh1 := eqF h1
    refine sIf (fun h7 => ?_) (fun h7 => ?_)
    · have fh7 := eqT h7
      have r9 := rgI p1
      have r12 := rgI p2
      have t13 := addI (a := p2) (b := (1 : Int32)) (by omega) (by omega)
      have t11 := mulV (a := p2) (b := (p2 + (1 : Int32))) (x0 := 0) (y0 := 1) (x := 20) (y := 21) (z0 := 0) (z := 420) (by omega) (by omega) (by omega) (by omega) (by decide) (by decide) (by decide) (by decide) (by decide)
      have t10 := divL (a := (p2 * (p2 + (1 : Int32)))) (b := (2 : Int32)) ql2 (by omega) (by omega)
      have t8 := subI (a := p1) (b := ((p2 * (p2 + (1 : Int32))) / (2 : Int32))) (by omega) (by omega)
      exact s_X3_reckoned_32  hN hK (by omega) (by omega) (by omega) (by omega) (by omega) (by omega) _ (by first | omega | decide) (by first | omega | decide)
    · have fh7 := eqF h7
      have r14 := rgI p1
      exact s_X3_reckoned_32  hN hK (by omega) (by omega) (by omega) (by omega) (by omega) (by omega) _ (by first | omega | decide) (by first | omega | decide)
set_option maxHeartbeats 2000000 in
theorem s_X3_tells {N K : Nat} {g : Nat → Int32} {p0 : Int32} {p1 : Int32} {p2 : Int32} (hN : NBig N) (hK : 100 ≤ K) (hp0 : 0 ≤ p0.toInt) (hp1 : p0.toInt ≤ 7) (hp2 : 0 ≤ p1.toInt) (hp3 : p1.toInt ≤ 20) (hp4 : 0 ≤ p2.toInt) (hp5 : p2.toInt ≤ 20) : Sf (fX3_tells N K g p0 p1 p2) (fun (z : Int32 × (Nat → Int32)) => True) := by
  unfold fX3_tells
  have ql0 : (0 : Int32).toInt = 0 := by decide
  have r1 := rgI p0
  have r2 := rgI p2
  refine sBind (s_X3_reckon hN hK (by first | omega | decide) (by first | omega | decide) (by first | omega | decide) (by first | omega | decide)) (fun x3 b3 => ?_)
  have r4 := rgI p1
  refine sBind (s_X3_reckoned hN hK (by first | omega | decide) (by first | omega | decide) (by first | omega | decide) (by first | omega | decide) (by first | omega | decide) (by first | omega | decide)) (fun x10 b5 => ?_)
  have r6 := rgI x10
  exact sRet trivial
set_option maxHeartbeats 2000000 in
theorem s_X1_size {N K : Nat} {ru : Int32} {sz : Int32} {f : Nat → Int32} (hN : NBig N) (hK : 100 ≤ K)  : Sf (fX1_size N K ru sz f) (fun (z : Int32) => True) := by
  unfold fX1_size
  have ql0 : (0 : Int32).toInt = 0 := by decide
  have r1 := rgI sz
  exact sRet trivial
set_option maxHeartbeats 2000000 in
theorem s_X1_keptWorth {N K : Nat} {ru : Int32} {sz : Int32} {f : Nat → Int32} {p0 : Int32} (hN : NBig N) (hK : 100 ≤ K) (hp0 : 0 ≤ p0.toInt) (hp1 : p0.toInt ≤ 20) : Sf (fX1_keptWorth N K ru sz f p0) (fun (z : Int32) => True) := by
  unfold fX1_keptWorth
  have ql0 : (0 : Int32).toInt = 0 := by decide
  have ql1 : (1 : Int32).toInt = 1 := by decide
  have ql20 : (20 : Int32).toInt = 20 := by decide
  refine sIf (fun h1 => ?_) (fun h1 => ?_)
  · have r2 := rgI p0
    have fh1 := ltT h1
    exact sRet trivial
  · have r3 := rgI p0
    have fh1 := ltF h1
    refine sIf (fun h4 => ?_) (fun h4 => ?_)
    · have fh4 := leT h4
      refine sIfF (noob (by omega) (by omega)) ?_
      have r5 := rgI (f p0.toNatClampNeg)
      exact sRet trivial
    · have fh4 := leF h4
      exfalso; omega
set_option maxHeartbeats 2000000 in
theorem s_X1_keeps {N K : Nat} {ru : Int32} {sz : Int32} {f : Nat → Int32} {p0 : Int32} (hN : NBig N) (hK : 100 ≤ K) (hp0 : 0 ≤ p0.toInt) (hp1 : p0.toInt ≤ 20) : Sf (fX1_keeps N K ru sz f p0) (fun (z : Int32) => 0 ≤ z.toInt ∧ z.toInt ≤ 1 ∧ True) := by
  unfold fX1_keeps
  have ql0 : (0 : Int32).toInt = 0 := by decide
  have ql1 : (1 : Int32).toInt = 1 := by decide
  have r1 := rgI ru
  have r2 := rgI sz
  have r3 := rgI p0
  refine sBind (s_X1_keptWorth hN hK (by first | omega | decide) (by first | omega | decide)) (fun x2 b4 => ?_)
  refine sIf (fun h5 => ?_) (fun h5 => ?_)
  · have r6 := rgI x2
    have fh5 := eqT h5
    rw [show (-1 : Int32).toInt = -1 from by decide] at fh5
    exact sRet ⟨(by show 0 ≤ (0 : Int32).toInt; decide), (by show (0 : Int32).toInt ≤ 1; decide), trivial⟩
  · have r7 := rgI x2
    have fh5 := eqF h5
    rw [show (-1 : Int32).toInt = -1 from by decide] at fh5
    exact sRet ⟨(by show 0 ≤ (1 : Int32).toInt; decide), (by show (1 : Int32).toInt ≤ 1; decide), trivial⟩
set_option maxHeartbeats 2000000 in
theorem s_X1_sumOfDivisors_37 {N K : Nat} {ru : Int32} {sz : Int32} {f : Nat → Int32} {p0 : Int32} (hN : NBig N) (hK : 100 ≤ K) (hp0 : 1 ≤ p0.toInt) (hp1 : p0.toInt ≤ 20) {k_19 : Int32 → Int32 → Int32 → Option (Int32)} {m_19 : Nat} (hk_19 : ∀ (l2 : Int32) (l3 : Int32) (l4 : Int32), (22 - l4.toInt).toNat < m_19 → 1 ≤ l2.toInt → l2.toInt ≤ 2 → 1 ≤ l4.toInt → l4.toInt ≤ 22 → Sf (k_19 l2 l3 l4) (fun (z : Int32) => True)) : ∀ (l2 : Int32) (l3 : Int32) (l4 : Int32), 1 ≤ l2.toInt → l2.toInt ≤ 2 → 1 ≤ l4.toInt → l4.toInt ≤ 20 → (22 - l4.toInt).toNat ≤ m_19 → Sf (fX1_sumOfDivisors_37 N K ru sz f p0 k_19 l2 l3 l4) (fun (z : Int32) => True) := by
  intro l2 l3 l4 hq0 hq1 hq2 hq3 hq4
  unfold fX1_sumOfDivisors_37
  have ql0 : (0 : Int32).toInt = 0 := by decide
  have r1 := rgI l2
  have r2 := rgI l3
  have r4 := rgI l4
  have t3 := addI (a := l4) (b := l2) (by omega) (by omega)
  exact hk_19 _ _ _ (by omega) (by first | omega | decide) (by first | omega | decide) (by first | omega | decide) (by first | omega | decide)
set_option maxHeartbeats 2000000 in
theorem s_X1_sumOfDivisors_19 {N K : Nat} {ru : Int32} {sz : Int32} {f : Nat → Int32} {p0 : Int32} (hN : NBig N) (hK : 100 ≤ K) (hp0 : 1 ≤ p0.toInt) (hp1 : p0.toInt ≤ 20) : ∀ (fu : Nat) (l2 : Int32) (l3 : Int32) (l4 : Int32), (22 - l4.toInt).toNat < fu → 1 ≤ l2.toInt → l2.toInt ≤ 2 → 1 ≤ l4.toInt → l4.toInt ≤ 22 → Sf (fX1_sumOfDivisors_19 N K ru sz f p0  fu l2 l3 l4) (fun (z : Int32) => True) := by
  intro fu
  induction fu with
  | zero => intro l2 l3 l4 h0 hq0 hq1 hq2 hq3; omega
  | succ fu ih =>
    intro l2 l3 l4 h0 hq0 hq1 hq2 hq3
    unfold fX1_sumOfDivisors_19
    have ql0 : (0 : Int32).toInt = 0 := by decide
    refine sIf (fun h1 => ?_) (fun h1 => ?_)
    · have r2 := rgI p0
      have r3 := rgI l4
      have fh1 := ltT h1
      have r4 := rgI l3
      exact sRet trivial
    · have r5 := rgI p0
      have r6 := rgI l4
      have fh1 := ltF h1
      refine sIfF (fun e9 => by have e8 := eqT e9; omega) ?_
      refine sIf (fun h7 => ?_) (fun h7 => ?_)
      · have r8 := rgI (p0 % l4)
        have fh7 := eqT h7
        have r9 := rgI l2
        have r10 := rgI (l3 + l4)
        exact s_X1_sumOfDivisors_37 (hk_19 := ih) hN hK (by omega) (by omega) _ _ _ (by first | omega | decide) (by first | omega | decide) (by first | omega | decide) (by first | omega | decide) (by omega)
      · have r11 := rgI (p0 % l4)
        have fh7 := eqF h7
        have r12 := rgI l2
        have r13 := rgI l3
        exact s_X1_sumOfDivisors_37 (hk_19 := ih) hN hK (by omega) (by omega) _ _ _ (by first | omega | decide) (by first | omega | decide) (by first | omega | decide) (by first | omega | decide) (by omega)
set_option maxHeartbeats 2000000 in
theorem s_X1_sumOfDivisors_13 {N K : Nat} {ru : Int32} {sz : Int32} {f : Nat → Int32} {p0 : Int32} (hN : NBig N) (hK : 100 ≤ K) (hp0 : 1 ≤ p0.toInt) (hp1 : p0.toInt ≤ 20) : ∀ (s0 : Int32), 1 ≤ s0.toInt → s0.toInt ≤ 2 → Sf (fX1_sumOfDivisors_13 N K ru sz f p0  s0) (fun (z : Int32) => True) := by
  intro s0 hq0 hq1
  unfold fX1_sumOfDivisors_13
  have hN9 := hN.u
  have ql0 : (0 : Int32).toInt = 0 := by decide
  have ql1 : (1 : Int32).toInt = 1 := by decide
  have r1 := rgI s0
  exact s_X1_sumOfDivisors_19  hN hK (by omega) (by omega) _ _ _ _ (by omega) (by first | omega | decide) (by first | omega | decide) (by first | omega | decide) (by first | omega | decide)
set_option maxHeartbeats 2000000 in
theorem s_X1_sumOfDivisors {N K : Nat} {ru : Int32} {sz : Int32} {f : Nat → Int32} {p0 : Int32} (hN : NBig N) (hK : 100 ≤ K) (hp0 : 1 ≤ p0.toInt) (hp1 : p0.toInt ≤ 20) : Sf (fX1_sumOfDivisors N K ru sz f p0) (fun (z : Int32) => True) := by
  unfold fX1_sumOfDivisors
  have ql0 : (0 : Int32).toInt = 0 := by decide
  have ql1 : (1 : Int32).toInt = 1 := by decide
  have ql2 : (2 : Int32).toInt = 2 := by decide
  refine sIf (fun h1 => ?_) (fun h1 => ?_)
  · have r2 := rgI ru
    have fh1 := eqT h1
    exact s_X1_sumOfDivisors_13  hN hK (by omega) (by omega) _ (by first | omega | decide) (by first | omega | decide)
  · have r3 := rgI ru
    have fh1 := eqF h1
    exact s_X1_sumOfDivisors_13  hN hK (by omega) (by omega) _ (by first | omega | decide) (by first | omega | decide)
set_option maxHeartbeats 2000000 in
theorem s_X1_mark_31 {N K : Nat} {ru : Int32} {sz : Int32} {f : Nat → Int32} (hN : NBig N) (hK : 100 ≤ K)  {k_4 : Int32 → Int32 → Option (Int32)} {m_4 : Nat} (hk_4 : ∀ (l1 : Int32) (l2 : Int32), (21 - l2.toInt).toNat < m_4 → 1 ≤ l2.toInt → l2.toInt ≤ 21 → Sf (k_4 l1 l2) (fun (z : Int32) => True)) : ∀ (l1 : Int32) (l2 : Int32), 1 ≤ l2.toInt → l2.toInt ≤ 20 → (21 - l2.toInt).toNat ≤ m_4 → Sf (fX1_mark_31 N K ru sz f k_4 l1 l2) (fun (z : Int32) => True) := by
  intro l1 l2 hq0 hq1 hq2
  unfold fX1_mark_31
  have ql0 : (0 : Int32).toInt = 0 := by decide
  have ql1 : (1 : Int32).toInt = 1 := by decide
  have r1 := rgI l1
  have r3 := rgI l2
  have t2 := addI (a := l2) (b := (1 : Int32)) (by omega) (by omega)
  exact hk_4 _ _ (by omega) (by first | omega | decide) (by first | omega | decide)
set_option maxHeartbeats 2000000 in
theorem s_X1_mark_4 {N K : Nat} {ru : Int32} {sz : Int32} {f : Nat → Int32} (hN : NBig N) (hK : 100 ≤ K)  : ∀ (fu : Nat) (l1 : Int32) (l2 : Int32), (21 - l2.toInt).toNat < fu → 1 ≤ l2.toInt → l2.toInt ≤ 21 → Sf (fX1_mark_4 N K ru sz f  fu l1 l2) (fun (z : Int32) => True) := by
  intro fu
  induction fu with
  | zero => intro l1 l2 h0 hq0 hq1; omega
  | succ fu ih =>
    intro l1 l2 h0 hq0 hq1
    unfold fX1_mark_4
    have ql0 : (0 : Int32).toInt = 0 := by decide
    have ql20 : (20 : Int32).toInt = 20 := by decide
    refine sIf (fun h1 => ?_) (fun h1 => ?_)
    · have r2 := rgI l2
      have fh1 := ltT h1
      have r3 := rgI l1
      exact sRet trivial
    · have r4 := rgI l2
      have fh1 := ltF h1
      refine sIfF (noob (by omega) (by omega)) ?_
      refine sIf (fun h5 => ?_) (fun h5 => ?_)
      · have r6 := rgI (f l2.toNatClampNeg)
        have fh5 := eqT h5
        rw [show (-1 : Int32).toInt = -1 from by decide] at fh5
        have r7 := rgI l1
        exact s_X1_mark_31 (hk_4 := ih) hN hK _ _ (by first | omega | decide) (by first | omega | decide) (by omega)
      · have r8 := rgI (f l2.toNatClampNeg)
        have fh5 := eqF h5
        rw [show (-1 : Int32).toInt = -1 from by decide] at fh5
        refine sIfF (noob (by omega) (by omega)) ?_
        have r9 := rgI (l1 + (l2 ^^^ (f l2.toNatClampNeg)))
        exact s_X1_mark_31 (hk_4 := ih) hN hK _ _ (by first | omega | decide) (by first | omega | decide) (by omega)
set_option maxHeartbeats 2000000 in
theorem s_X1_mark {N K : Nat} {ru : Int32} {sz : Int32} {f : Nat → Int32} (hN : NBig N) (hK : 100 ≤ K)  : Sf (fX1_mark N K ru sz f) (fun (z : Int32) => True) := by
  unfold fX1_mark
  have hN9 := hN.u
  have ql0 : (0 : Int32).toInt = 0 := by decide
  have ql1 : (1 : Int32).toInt = 1 := by decide
  exact s_X1_mark_4  hN hK _ _ _ (by omega) (by first | omega | decide) (by first | omega | decide)
set_option maxHeartbeats 2000000 in
theorem s_X1_drop {N K : Nat} {ru : Int32} {sz : Int32} {f : Nat → Int32} {p0 : Int32} (hN : NBig N) (hK : 100 ≤ K) (hp0 : 1 ≤ p0.toInt) (hp1 : p0.toInt ≤ 20) : Sf (fX1_drop N K ru sz f p0) (fun (z : Int32 × (Nat → Int32)) => True) := by
  unfold fX1_drop
  have ql0 : (0 : Int32).toInt = 0 := by decide
  have ql1 : (1 : Int32).toInt = 1 := by decide
  have ql20 : (20 : Int32).toInt = 20 := by decide
  refine sIf (fun h1 => ?_) (fun h1 => ?_)
  · have r2 := rgI p0
    have fh1 := ltT h1
    exfalso; omega
  · have r3 := rgI p0
    have fh1 := ltF h1
    refine sIf (fun h4 => ?_) (fun h4 => ?_)
    · have fh4 := ltT h4
      exfalso; omega
    · have fh4 := ltF h4
      refine sIfF (noob (by omega) (by omega)) ?_
      refine sIf (fun h5 => ?_) (fun h5 => ?_)
      · have r6 := rgI (f p0.toNatClampNeg)
        have fh5 := eqT h5
        rw [show (-1 : Int32).toInt = -1 from by decide] at fh5
        have r7 := rgI sz
        exact sRet trivial
      · have r8 := rgI (f p0.toNatClampNeg)
        have fh5 := eqF h5
        rw [show (-1 : Int32).toInt = -1 from by decide] at fh5
        refine sIfF (noob (by omega) (by omega)) ?_
        have r9 := rgI (sz - (1 : Int32))
        exact sRet trivial
set_option maxHeartbeats 2000000 in
theorem s_X1_dropAll {N K : Nat} {ru : Int32} {sz : Int32} {f : Nat → Int32} (hN : NBig N) (hK : 100 ≤ K)  : Sf (fX1_dropAll N K ru sz f) (fun (z : Int32 × Int32 × (Nat → Int32)) => 0 ≤ z.2.1.toInt ∧ z.2.1.toInt ≤ 0 ∧ True) := by
  unfold fX1_dropAll
  have ql0 : (0 : Int32).toInt = 0 := by decide
  refine sBind (s_J_fill hN hK (by first | omega | decide)) (fun x10 b1 => ?_)
  have r2 := rgI sz
  exact sRet ⟨(by show 0 ≤ (0 : Int32).toInt; decide), (by show (0 : Int32).toInt ≤ 0; decide), trivial⟩
set_option maxHeartbeats 2000000 in
theorem s_X1_byPentagons_105 {N K : Nat} {ru : Int32} {sz : Int32} {f : Nat → Int32} {c0 : Int32} {c1 : Int32} {c2 : Int32} {c3 : Int32} {c4 : Int32} {c5 : Int32} {p0 : Int32} {p1 : Int32} {rec : Int32 → Int32 → (Nat → Int32) → Int32 → Int32 → Int32 → Int32 → Int32 → Int32 → Int32 → Int32 → Option (Int32 × Int32 × (Nat → Int32) × Int32 × Int32 × Int32)} {mr : Nat} (hrec : ∀ (ru : Int32) (sz : Int32) (f : Nat → Int32) (c0 : Int32) (c1 : Int32) (c2 : Int32) (c3 : Int32) (c4 : Int32) (c5 : Int32) (p0 : Int32) (p1 : Int32), (46 - p1.toInt).toNat < mr → -20 ≤ p0.toInt → p0.toInt ≤ 20 → 0 ≤ p1.toInt → p1.toInt ≤ 46 → Sf (rec ru sz f c0 c1 c2 c3 c4 c5 p0 p1) (fun (z : Int32 × Int32 × (Nat → Int32) × Int32 × Int32 × Int32) => True)) (hN : NBig N) (hK : 100 ≤ K) (hp0 : 0 ≤ ru.toInt) (hp1 : ru.toInt ≤ 0) (hp2 : 0 ≤ p0.toInt) (hp3 : p0.toInt ≤ 20) (hp4 : 1 ≤ p1.toInt) (hp5 : p1.toInt ≤ 46) (hp6 : (46 - p1.toInt).toNat < mr) {k_6 : Int32 → Int32 → Int32 → (Nat → Int32) → Int32 → Int32 → Int32 → Option (Int32 × Int32 × (Nat → Int32) × Int32 × Int32 × Int32)} {m_6 : Nat} (hk_6 : ∀ (l4 : Int32) (l5 : Int32) (sz_ : Int32) (f_ : (Nat → Int32)) (c1_ : Int32) (c2_ : Int32) (c3_ : Int32), (21 - l5.toInt).toNat < m_6 → 1 ≤ l5.toInt → l5.toInt ≤ 21 → Sf (k_6 l4 l5 sz_ f_ c1_ c2_ c3_) (fun (z : Int32 × Int32 × (Nat → Int32) × Int32 × Int32 × Int32) => True)) : ∀ (l5 : Int32) (s0 : Int32) (s1 : Int32) (sz_ : Int32) (f_ : Nat → Int32) (c1_ : Int32) (c2_ : Int32) (c3_ : Int32), 1 ≤ p0.toInt → p0.toInt ≤ 20 → 1 ≤ l5.toInt → l5.toInt ≤ 20 → (s0.toInt = 0 → 0 ≤ ru.toInt ∧ ru.toInt ≤ 0 ∧ 1 ≤ p0.toInt ∧ p0.toInt ≤ 20) → (s1.toInt = 0 → 0 ≤ ru.toInt ∧ ru.toInt ≤ 0 ∧ 1 ≤ p0.toInt ∧ p0.toInt ≤ 20) → (21 - l5.toInt).toNat ≤ m_6 → Sf (fX1_byPentagons_105 N K rec ru sz f c0 c1 c2 c3 c4 c5 p0 p1 k_6 l5 s0 s1 sz_ f_ c1_ c2_ c3_) (fun (z : Int32 × Int32 × (Nat → Int32) × Int32 × Int32 × Int32) => True) := by
  intro l5 s0 s1 sz_ f_ c1_ c2_ c3_ hq0 hq1 hq2 hq3 hq4 hq5 hq6
  unfold fX1_byPentagons_105
  have ql0 : (0 : Int32).toInt = 0 := by decide
  have ql1 : (1 : Int32).toInt = 1 := by decide
  have r1 := rgI (s1 + s0)
  have r3 := rgI l5
  have t2 := addI (a := l5) (b := (1 : Int32)) (by omega) (by omega)
  have r4 := rgI sz_
  have r5 := rgI c1_
  have r6 := rgI c2_
  have r7 := rgI c3_
  exact hk_6 _ _ _ _ _ _ _ (by omega) (by first | omega | decide) (by first | omega | decide)
set_option maxHeartbeats 2000000 in
theorem s_X1_byPentagons_88 {N K : Nat} {ru : Int32} {sz : Int32} {f : Nat → Int32} {c0 : Int32} {c1 : Int32} {c2 : Int32} {c3 : Int32} {c4 : Int32} {c5 : Int32} {p0 : Int32} {p1 : Int32} {rec : Int32 → Int32 → (Nat → Int32) → Int32 → Int32 → Int32 → Int32 → Int32 → Int32 → Int32 → Int32 → Option (Int32 × Int32 × (Nat → Int32) × Int32 × Int32 × Int32)} {mr : Nat} (hrec : ∀ (ru : Int32) (sz : Int32) (f : Nat → Int32) (c0 : Int32) (c1 : Int32) (c2 : Int32) (c3 : Int32) (c4 : Int32) (c5 : Int32) (p0 : Int32) (p1 : Int32), (46 - p1.toInt).toNat < mr → -20 ≤ p0.toInt → p0.toInt ≤ 20 → 0 ≤ p1.toInt → p1.toInt ≤ 46 → Sf (rec ru sz f c0 c1 c2 c3 c4 c5 p0 p1) (fun (z : Int32 × Int32 × (Nat → Int32) × Int32 × Int32 × Int32) => True)) (hN : NBig N) (hK : 100 ≤ K) (hp0 : 0 ≤ ru.toInt) (hp1 : ru.toInt ≤ 0) (hp2 : 0 ≤ p0.toInt) (hp3 : p0.toInt ≤ 20) (hp4 : 1 ≤ p1.toInt) (hp5 : p1.toInt ≤ 46) (hp6 : (46 - p1.toInt).toNat < mr) {k_6 : Int32 → Int32 → Int32 → (Nat → Int32) → Int32 → Int32 → Int32 → Option (Int32 × Int32 × (Nat → Int32) × Int32 × Int32 × Int32)} {m_6 : Nat} (hk_6 : ∀ (l4 : Int32) (l5 : Int32) (sz_ : Int32) (f_ : (Nat → Int32)) (c1_ : Int32) (c2_ : Int32) (c3_ : Int32), (21 - l5.toInt).toNat < m_6 → 1 ≤ l5.toInt → l5.toInt ≤ 21 → Sf (k_6 l4 l5 sz_ f_ c1_ c2_ c3_) (fun (z : Int32 × Int32 × (Nat → Int32) × Int32 × Int32 × Int32) => True)) : ∀ (l4 : Int32) (l5 : Int32) (l6 : Int32) (sz_ : Int32) (f_ : Nat → Int32) (c1_ : Int32) (c2_ : Int32) (c3_ : Int32), 1 ≤ p0.toInt → p0.toInt ≤ 20 → 1 ≤ l5.toInt → l5.toInt ≤ 20 → (21 - l5.toInt).toNat ≤ m_6 → Sf (fX1_byPentagons_88 N K rec ru sz f c0 c1 c2 c3 c4 c5 p0 p1 k_6 l4 l5 l6 sz_ f_ c1_ c2_ c3_) (fun (z : Int32 × Int32 × (Nat → Int32) × Int32 × Int32 × Int32) => True) := by
  intro l4 l5 l6 sz_ f_ c1_ c2_ c3_ hq0 hq1 hq2 hq3 hq4
  unfold fX1_byPentagons_88
  have ql0 : (0 : Int32).toInt = 0 := by decide
  have ql2 : (2 : Int32).toInt = 2 := by decide
  refine sIf (fun h1 => ?_) (fun h1 => ?_)
  · have r3 := rgI l5
    have t2 := modL (a := l5) (b := (2 : Int32)) ql2 (by omega)
    have fh1 := eqT h1
    have r4 := rgI (-l6)
    have r5 := rgI l4
    have r6 := rgI sz_
    have r7 := rgI c1_
    have r8 := rgI c2_
    have r9 := rgI c3_
    exact s_X1_byPentagons_105 (hrec := hrec) (hk_6 := hk_6) hN hK (by omega) (by omega) (by omega) (by omega) (by omega) (by omega) (by omega) _ _ _ _ _ _ _ _ (by first | omega | decide) (by first | omega | decide) (by first | omega | decide) (by first | omega | decide) (by first | omega | decide) (by first | omega | decide) (by omega)
  · have r11 := rgI l5
    have t10 := modL (a := l5) (b := (2 : Int32)) ql2 (by omega)
    have fh1 := eqF h1
    have r12 := rgI l6
    have r13 := rgI l4
    have r14 := rgI sz_
    have r15 := rgI c1_
    have r16 := rgI c2_
    have r17 := rgI c3_
    exact s_X1_byPentagons_105 (hrec := hrec) (hk_6 := hk_6) hN hK (by omega) (by omega) (by omega) (by omega) (by omega) (by omega) (by omega) _ _ _ _ _ _ _ _ (by first | omega | decide) (by first | omega | decide) (by first | omega | decide) (by first | omega | decide) (by first | omega | decide) (by first | omega | decide) (by omega)
set_option maxHeartbeats 2000000 in
theorem s_X1_byPentagons_6 {N K : Nat} {ru : Int32} {sz : Int32} {f : Nat → Int32} {c0 : Int32} {c1 : Int32} {c2 : Int32} {c3 : Int32} {c4 : Int32} {c5 : Int32} {p0 : Int32} {p1 : Int32} {rec : Int32 → Int32 → (Nat → Int32) → Int32 → Int32 → Int32 → Int32 → Int32 → Int32 → Int32 → Int32 → Option (Int32 × Int32 × (Nat → Int32) × Int32 × Int32 × Int32)} {mr : Nat} (hrec : ∀ (ru : Int32) (sz : Int32) (f : Nat → Int32) (c0 : Int32) (c1 : Int32) (c2 : Int32) (c3 : Int32) (c4 : Int32) (c5 : Int32) (p0 : Int32) (p1 : Int32), (46 - p1.toInt).toNat < mr → -20 ≤ p0.toInt → p0.toInt ≤ 20 → 0 ≤ p1.toInt → p1.toInt ≤ 46 → Sf (rec ru sz f c0 c1 c2 c3 c4 c5 p0 p1) (fun (z : Int32 × Int32 × (Nat → Int32) × Int32 × Int32 × Int32) => True)) (hN : NBig N) (hK : 100 ≤ K) (hp0 : 0 ≤ ru.toInt) (hp1 : ru.toInt ≤ 0) (hp2 : 0 ≤ p0.toInt) (hp3 : p0.toInt ≤ 20) (hp4 : 1 ≤ p1.toInt) (hp5 : p1.toInt ≤ 46) (hp6 : (46 - p1.toInt).toNat < mr) : ∀ (fu : Nat) (l4 : Int32) (l5 : Int32) (sz_ : Int32) (f_ : (Nat → Int32)) (c1_ : Int32) (c2_ : Int32) (c3_ : Int32), (21 - l5.toInt).toNat < fu → 1 ≤ l5.toInt → l5.toInt ≤ 21 → Sf (fX1_byPentagons_6 N K rec ru sz f c0 c1 c2 c3 c4 c5 p0 p1  fu l4 l5 sz_ f_ c1_ c2_ c3_) (fun (z : Int32 × Int32 × (Nat → Int32) × Int32 × Int32 × Int32) => True) := by
  intro fu
  induction fu with
  | zero => intro l4 l5 sz_ f_ c1_ c2_ c3_ h0 hq0 hq1; omega
  | succ fu ih =>
    intro l4 l5 sz_ f_ c1_ c2_ c3_ h0 hq0 hq1
    unfold fX1_byPentagons_6
    have ql0 : (0 : Int32).toInt = 0 := by decide
    have ql1 : (1 : Int32).toInt = 1 := by decide
    have ql2 : (2 : Int32).toInt = 2 := by decide
    have ql3 : (3 : Int32).toInt = 3 := by decide
    have ql20 : (20 : Int32).toInt = 20 := by decide
    refine sIf (fun h1 => ?_) (fun h1 => ?_)
    · have r2 := rgI l5
      have fh1 := ltT h1
      have r3 := rgI l4
      have r4 := rgI sz_
      have r5 := rgI c1_
      have r6 := rgI c2_
      have r7 := rgI c3_
      exact sRet trivial
    · have r8 := rgI l5
      have fh1 := ltF h1
      refine sIf (fun h9 => ?_) (fun h9 => ?_)
      · have r10 := rgI p0
        have t14 := mulL (a := (3 : Int32)) (b := l5) ql3 (by omega) (by omega)
        have t13 := subI (a := ((3 : Int32) * l5)) (b := (1 : Int32)) (by omega) (by omega)
        have t12 := mulV (a := l5) (b := (((3 : Int32) * l5) - (1 : Int32))) (x0 := 1) (y0 := 2) (x := 20) (y := 59) (z0 := 2) (z := 1180) (by omega) (by omega) (by omega) (by omega) (by decide) (by decide) (by decide) (by decide) (by decide)
        have t11 := divL (a := (l5 * (((3 : Int32) * l5) - (1 : Int32)))) (b := (2 : Int32)) ql2 (by omega) (by omega)
        have fh9 := ltT h9
        have r15 := rgI l4
        have r16 := rgI sz_
        have r17 := rgI c1_
        have r18 := rgI c2_
        have r19 := rgI c3_
        exact sRet trivial
      · have r20 := rgI p0
        have t24 := mulL (a := (3 : Int32)) (b := l5) ql3 (by omega) (by omega)
        have t23 := subI (a := ((3 : Int32) * l5)) (b := (1 : Int32)) (by omega) (by omega)
        have t22 := mulV (a := l5) (b := (((3 : Int32) * l5) - (1 : Int32))) (x0 := 1) (y0 := 2) (x := 20) (y := 59) (z0 := 2) (z := 1180) (by omega) (by omega) (by omega) (by omega) (by decide) (by decide) (by decide) (by decide) (by decide)
        have t21 := divL (a := (l5 * (((3 : Int32) * l5) - (1 : Int32)))) (b := (2 : Int32)) ql2 (by omega) (by omega)
        have fh9 := ltF h9
        have r25 := rgI ru
        have r26 := rgI sz_
        have r27 := rgI c0
        have r28 := rgI c1_
        have r29 := rgI c2_
        have r30 := rgI c3_
        have r31 := rgI c4
        have r32 := rgI c5
        have t33 := subI (a := p0) (b := ((l5 * (((3 : Int32) * l5) - (1 : Int32))) / (2 : Int32))) (by omega) (by omega)
        have r34 := rgI p1
        refine sBind (hrec _ _ _ _ _ _ _ _ _ _ _ (by omega) (by first | omega | decide) (by first | omega | decide) (by first | omega | decide) (by first | omega | decide)) (fun x44 b35 => ?_)
        refine sIf (fun h36 => ?_) (fun h36 => ?_)
        · have t39 := addI (a := ((3 : Int32) * l5)) (b := (1 : Int32)) (by omega) (by omega)
          have t38 := mulV (a := l5) (b := (((3 : Int32) * l5) + (1 : Int32))) (x0 := 1) (y0 := 4) (x := 20) (y := 61) (z0 := 4) (z := 1220) (by omega) (by omega) (by omega) (by omega) (by decide) (by decide) (by decide) (by decide) (by decide)
          have t37 := divL (a := (l5 * (((3 : Int32) * l5) + (1 : Int32)))) (b := (2 : Int32)) ql2 (by omega) (by omega)
          have fh36 := ltT h36
          have r40 := rgI l4
          have r41 := rgI x44.1
          have r42 := rgI x44.2.1
          have r43 := rgI x44.2.2.2.1
          have r44 := rgI x44.2.2.2.2.1
          have r45 := rgI x44.2.2.2.2.2
          exact s_X1_byPentagons_88 (hrec := hrec) (hk_6 := ih) hN hK (by omega) (by omega) (by omega) (by omega) (by omega) (by omega) (by omega) _ _ _ _ _ _ _ _ (by first | omega | decide) (by first | omega | decide) (by first | omega | decide) (by first | omega | decide) (by omega)
        · have t48 := addI (a := ((3 : Int32) * l5)) (b := (1 : Int32)) (by omega) (by omega)
          have t47 := mulV (a := l5) (b := (((3 : Int32) * l5) + (1 : Int32))) (x0 := 1) (y0 := 4) (x := 20) (y := 61) (z0 := 4) (z := 1220) (by omega) (by omega) (by omega) (by omega) (by decide) (by decide) (by decide) (by decide) (by decide)
          have t46 := divL (a := (l5 * (((3 : Int32) * l5) + (1 : Int32)))) (b := (2 : Int32)) ql2 (by omega) (by omega)
          have fh36 := ltF h36
          have r49 := rgI x44.2.1
          have r50 := rgI x44.2.2.2.1
          have r51 := rgI x44.2.2.2.2.1
          have r52 := rgI x44.2.2.2.2.2
          have t53 := subI (a := p0) (b := ((l5 * (((3 : Int32) * l5) + (1 : Int32))) / (2 : Int32))) (by omega) (by omega)
          refine sBind (hrec _ _ _ _ _ _ _ _ _ _ _ (by omega) (by first | omega | decide) (by first | omega | decide) (by first | omega | decide) (by first | omega | decide)) (fun x82 b54 => ?_)
          have r55 := rgI l4
          have r56 := rgI (x44.1 + x82.1)
          have r57 := rgI x82.2.1
          have r58 := rgI x82.2.2.2.1
          have r59 := rgI x82.2.2.2.2.1
          have r60 := rgI x82.2.2.2.2.2
          exact s_X1_byPentagons_88 (hrec := hrec) (hk_6 := ih) hN hK (by omega) (by omega) (by omega) (by omega) (by omega) (by omega) (by omega) _ _ _ _ _ _ _ _ (by first | omega | decide) (by first | omega | decide) (by first | omega | decide) (by first | omega | decide) (by omega)
set_option maxHeartbeats 2000000 in
theorem s_X1_byPentagons {N K : Nat} {ru : Int32} {sz : Int32} {f : Nat → Int32} {c0 : Int32} {c1 : Int32} {c2 : Int32} {c3 : Int32} {c4 : Int32} {c5 : Int32} {p0 : Int32} {p1 : Int32} {rec : Int32 → Int32 → (Nat → Int32) → Int32 → Int32 → Int32 → Int32 → Int32 → Int32 → Int32 → Int32 → Option (Int32 × Int32 × (Nat → Int32) × Int32 × Int32 × Int32)} {mr : Nat} (hrec : ∀ (ru : Int32) (sz : Int32) (f : Nat → Int32) (c0 : Int32) (c1 : Int32) (c2 : Int32) (c3 : Int32) (c4 : Int32) (c5 : Int32) (p0 : Int32) (p1 : Int32), (46 - p1.toInt).toNat < mr → -20 ≤ p0.toInt → p0.toInt ≤ 20 → 0 ≤ p1.toInt → p1.toInt ≤ 46 → Sf (rec ru sz f c0 c1 c2 c3 c4 c5 p0 p1) (fun (z : Int32 × Int32 × (Nat → Int32) × Int32 × Int32 × Int32) => True)) (hN : NBig N) (hK : 100 ≤ K) (hp0 : 0 ≤ ru.toInt) (hp1 : ru.toInt ≤ 0) (hp2 : 0 ≤ p0.toInt) (hp3 : p0.toInt ≤ 20) (hp4 : 1 ≤ p1.toInt) (hp5 : p1.toInt ≤ 46) (hp6 : (46 - p1.toInt).toNat < mr) : Sf (fX1_byPentagons N K rec ru sz f c0 c1 c2 c3 c4 c5 p0 p1) (fun (z : Int32 × Int32 × (Nat → Int32) × Int32 × Int32 × Int32) => True) := by
  unfold fX1_byPentagons
  have hN9 := hN.u
  have ql0 : (0 : Int32).toInt = 0 := by decide
  have ql1 : (1 : Int32).toInt = 1 := by decide
  have r1 := rgI sz
  have r2 := rgI c1
  have r3 := rgI c2
  have r4 := rgI c3
  exact s_X1_byPentagons_6 (hrec := hrec)  hN hK (by omega) (by omega) (by omega) (by omega) (by omega) (by omega) (by omega) _ _ _ _ _ _ _ _ (by omega) (by first | omega | decide) (by first | omega | decide)
set_option maxHeartbeats 2000000 in
theorem s_X1_byDivisors_13 {N K : Nat} {ru : Int32} {sz : Int32} {f : Nat → Int32} {c0 : Int32} {c1 : Int32} {c2 : Int32} {c3 : Int32} {c4 : Int32} {c5 : Int32} {p0 : Int32} {p1 : Int32} {rec : Int32 → Int32 → (Nat → Int32) → Int32 → Int32 → Int32 → Int32 → Int32 → Int32 → Int32 → Int32 → Option (Int32 × Int32 × (Nat → Int32) × Int32 × Int32 × Int32)} {mr : Nat} (hrec : ∀ (ru : Int32) (sz : Int32) (f : Nat → Int32) (c0 : Int32) (c1 : Int32) (c2 : Int32) (c3 : Int32) (c4 : Int32) (c5 : Int32) (p0 : Int32) (p1 : Int32), (46 - p1.toInt).toNat < mr → -20 ≤ p0.toInt → p0.toInt ≤ 20 → 0 ≤ p1.toInt → p1.toInt ≤ 46 → Sf (rec ru sz f c0 c1 c2 c3 c4 c5 p0 p1) (fun (z : Int32 × Int32 × (Nat → Int32) × Int32 × Int32 × Int32) => True)) (hN : NBig N) (hK : 100 ≤ K) (hp0 : 0 ≤ p0.toInt) (hp1 : p0.toInt ≤ 20) (hp2 : 1 ≤ p1.toInt) (hp3 : p1.toInt ≤ 46) (hp4 : (46 - p1.toInt).toNat < mr) : ∀ (fu : Nat) (l4 : Int32) (l5 : Int32) (sz_ : Int32) (f_ : (Nat → Int32)) (c1_ : Int32) (c2_ : Int32) (c3_ : Int32), (21 - l5.toInt).toNat < fu → 1 ≤ p0.toInt → p0.toInt ≤ 20 → 1 ≤ l5.toInt → l5.toInt ≤ 21 → Sf (fX1_byDivisors_13 N K rec ru sz f c0 c1 c2 c3 c4 c5 p0 p1  fu l4 l5 sz_ f_ c1_ c2_ c3_) (fun (z : Int32 × Int32 × (Nat → Int32) × Int32 × Int32 × Int32) => True) := by
  intro fu
  induction fu with
  | zero => intro l4 l5 sz_ f_ c1_ c2_ c3_ h0 hq0 hq1 hq2 hq3; omega
  | succ fu ih =>
    intro l4 l5 sz_ f_ c1_ c2_ c3_ h0 hq0 hq1 hq2 hq3
    unfold fX1_byDivisors_13
    have ql0 : (0 : Int32).toInt = 0 := by decide
    have ql1 : (1 : Int32).toInt = 1 := by decide
    refine sIf (fun h1 => ?_) (fun h1 => ?_)
    · have r2 := rgI p0
      have r3 := rgI l5
      have fh1 := ltT h1
      refine sIfF (fun e9 => by have e8 := eqT e9; omega) ?_
      have r4 := rgI (l4 / p0)
      have r5 := rgI sz_
      have r6 := rgI c1_
      have r7 := rgI c2_
      have r8 := rgI c3_
      exact sRet trivial
    · have r9 := rgI p0
      have r10 := rgI l5
      have fh1 := ltF h1
      have r11 := rgI ru
      have r12 := rgI sz_
      have r13 := rgI c0
      have r14 := rgI c1_
      have r15 := rgI c2_
      have r16 := rgI c3_
      have r17 := rgI c4
      have r18 := rgI c5
      have t19 := subI (a := p0) (b := l5) (by omega) (by omega)
      have r20 := rgI p1
      refine sBind (hrec _ _ _ _ _ _ _ _ _ _ _ (by omega) (by first | omega | decide) (by first | omega | decide) (by first | omega | decide) (by first | omega | decide)) (fun x28 b21 => ?_)
      have r22 := rgI x28.2.1
      refine sBind (s_X1_sumOfDivisors hN hK (by first | omega | decide) (by first | omega | decide)) (fun x34 b23 => ?_)
      have r24 := rgI (l4 + (x28.1 * x34))
      have t25 := addI (a := l5) (b := (1 : Int32)) (by omega) (by omega)
      have r26 := rgI x28.2.2.2.1
      have r27 := rgI x28.2.2.2.2.1
      have r28 := rgI x28.2.2.2.2.2
      exact ih _ _ _ _ _ _ _ (by omega) (by first | omega | decide) (by first | omega | decide) (by first | omega | decide) (by first | omega | decide)
set_option maxHeartbeats 2000000 in
theorem s_X1_byDivisors {N K : Nat} {ru : Int32} {sz : Int32} {f : Nat → Int32} {c0 : Int32} {c1 : Int32} {c2 : Int32} {c3 : Int32} {c4 : Int32} {c5 : Int32} {p0 : Int32} {p1 : Int32} {rec : Int32 → Int32 → (Nat → Int32) → Int32 → Int32 → Int32 → Int32 → Int32 → Int32 → Int32 → Int32 → Option (Int32 × Int32 × (Nat → Int32) × Int32 × Int32 × Int32)} {mr : Nat} (hrec : ∀ (ru : Int32) (sz : Int32) (f : Nat → Int32) (c0 : Int32) (c1 : Int32) (c2 : Int32) (c3 : Int32) (c4 : Int32) (c5 : Int32) (p0 : Int32) (p1 : Int32), (46 - p1.toInt).toNat < mr → -20 ≤ p0.toInt → p0.toInt ≤ 20 → 0 ≤ p1.toInt → p1.toInt ≤ 46 → Sf (rec ru sz f c0 c1 c2 c3 c4 c5 p0 p1) (fun (z : Int32 × Int32 × (Nat → Int32) × Int32 × Int32 × Int32) => True)) (hN : NBig N) (hK : 100 ≤ K) (hp0 : 0 ≤ p0.toInt) (hp1 : p0.toInt ≤ 20) (hp2 : 1 ≤ p1.toInt) (hp3 : p1.toInt ≤ 46) (hp4 : (46 - p1.toInt).toNat < mr) : Sf (fX1_byDivisors N K rec ru sz f c0 c1 c2 c3 c4 c5 p0 p1) (fun (z : Int32 × Int32 × (Nat → Int32) × Int32 × Int32 × Int32) => True) := by
  unfold fX1_byDivisors
  have hN9 := hN.u
  have ql0 : (0 : Int32).toInt = 0 := by decide
  have ql1 : (1 : Int32).toInt = 1 := by decide
  refine sIf (fun h1 => ?_) (fun h1 => ?_)
  · have r2 := rgI p0
    have fh1 := leT h1
    have r3 := rgI sz
    have r4 := rgI c1
    have r5 := rgI c2
    have r6 := rgI c3
    exact s_X1_byDivisors_13 (hrec := hrec)  hN hK (by omega) (by omega) (by omega) (by omega) (by omega) _ _ _ _ _ _ _ _ (by omega) (by first | omega | decide) (by first | omega | decide) (by first | omega | decide) (by first | omega | decide)
  · have r7 := rgI p0
    have fh1 := leF h1
    have r8 := rgI sz
    have r9 := rgI c1
    have r10 := rgI c2
    have r11 := rgI c3
    exact sRet trivial
set_option maxHeartbeats 2000000 in
theorem s_X1_worthKnown {N K : Nat}  (hN : NBig N) (hK : 100 ≤ K)  : ∀ (fu : Nat) (ru : Int32) (sz : Int32) (f : (Nat → Int32)) (c0 : Int32) (c1 : Int32) (c2 : Int32) (c3 : Int32) (c4 : Int32) (c5 : Int32) (p0 : Int32) (p1 : Int32), (46 - p1.toInt).toNat < fu → -20 ≤ p0.toInt → p0.toInt ≤ 20 → 0 ≤ p1.toInt → p1.toInt ≤ 46 → Sf (fX1_worthKnown N K fu ru sz f c0 c1 c2 c3 c4 c5 p0 p1) (fun (z : Int32 × Int32 × (Nat → Int32) × Int32 × Int32 × Int32) => True) := by
  intro fu
  induction fu with
  | zero => intro ru sz f c0 c1 c2 c3 c4 c5 p0 p1 h0 hq0 hq1 hq2 hq3; omega
  | succ k ih =>
    intro ru sz f c0 c1 c2 c3 c4 c5 p0 p1 h0 hq0 hq1 hq2 hq3
    unfold fX1_worthKnown
    have ql0 : (0 : Int32).toInt = 0 := by decide
    have ql1 : (1 : Int32).toInt = 1 := by decide
    have ql20 : (20 : Int32).toInt = 20 := by decide
    have ql45 : (45 : Int32).toInt = 45 := by decide
    refine sIf (fun h1 => ?_) (fun h1 => ?_)
    · have r2 := rgI p0
      have fh1 := eqT h1
      have r3 := rgI sz
      have r4 := rgI c1
      have r5 := rgI c2
      have r6 := rgI c3
      exact sRet trivial
    · have r7 := rgI p0
      have fh1 := eqF h1
      refine sIf (fun h8 => ?_) (fun h8 => ?_)
      · have fh8 := ltT h8
        have r9 := rgI sz
        have r10 := rgI c1
        have r11 := rgI c2
        have r12 := rgI c3
        exact sRet trivial
      · have fh8 := ltF h8
        refine sIf (fun h13 => ?_) (fun h13 => ?_)
        · have fh13 := ltT h13
          exfalso; omega
        · have fh13 := ltF h13
          refine sIf (fun h14 => ?_) (fun h14 => ?_)
          · have r15 := rgI p1
            have fh14 := leT h14
            refine sIfF (noob (by omega) (by omega)) ?_
            refine sIf (fun h16 => ?_) (fun h16 => ?_)
            · have r17 := rgI (f p0.toNatClampNeg)
              have fh16 := eqT h16
              rw [show (-1 : Int32).toInt = -1 from by decide] at fh16
              refine sIf (fun h18 => ?_) (fun h18 => ?_)
              · have r19 := rgI ru
                have fh18 := eqT h18
                have r20 := rgI sz
                have r21 := rgI c0
                have r22 := rgI (c1 + (1 : Int32))
                have r23 := rgI c2
                have r24 := rgI c3
                have r25 := rgI c4
                have r26 := rgI c5
                have t27 := addI (a := p1) (b := (1 : Int32)) (by omega) (by omega)
                refine sBind (s_X1_byPentagons (hrec := ih) hN hK (by first | omega | decide) (by first | omega | decide) (by first | omega | decide) (by first | omega | decide) (by first | omega | decide) (by first | omega | decide) (by omega)) (fun x74 b28 => ?_)
                refine sIfF (noob (by omega) (by omega)) ?_
                have r29 := rgI x74.1
                have r30 := rgI (x74.2.1 + (1 : Int32))
                have r31 := rgI x74.2.2.2.1
                have r32 := rgI (x74.2.2.2.2.1 + (1 : Int32))
                have r33 := rgI x74.2.2.2.2.2
                exact sRet trivial
              · have r34 := rgI ru
                have fh18 := eqF h18
                have r35 := rgI sz
                have r36 := rgI c0
                have r37 := rgI (c1 + (1 : Int32))
                have r38 := rgI c2
                have r39 := rgI c3
                have r40 := rgI c4
                have r41 := rgI c5
                have t42 := addI (a := p1) (b := (1 : Int32)) (by omega) (by omega)
                refine sBind (s_X1_byDivisors (hrec := ih) hN hK (by first | omega | decide) (by first | omega | decide) (by first | omega | decide) (by first | omega | decide) (by omega)) (fun x86 b43 => ?_)
                refine sIfF (noob (by omega) (by omega)) ?_
                have r44 := rgI x86.1
                have r45 := rgI (x86.2.1 + (1 : Int32))
                have r46 := rgI x86.2.2.2.1
                have r47 := rgI (x86.2.2.2.2.1 + (1 : Int32))
                have r48 := rgI x86.2.2.2.2.2
                exact sRet trivial
            · have r49 := rgI (f p0.toNatClampNeg)
              have fh16 := eqF h16
              rw [show (-1 : Int32).toInt = -1 from by decide] at fh16
              refine sIfF (noob (by omega) (by omega)) ?_
              have r50 := rgI sz
              have r51 := rgI (c1 + (1 : Int32))
              have r52 := rgI c2
              have r53 := rgI (c3 + (1 : Int32))
              exact sRet trivial
          · have r54 := rgI p1
            have fh14 := leF h14
            have r55 := rgI sz
            have r56 := rgI c1
            have r57 := rgI c2
            have r58 := rgI c3
            exact sRet trivial
set_option maxHeartbeats 2000000 in
theorem s_X1_recall {N K : Nat} {ru : Int32} {sz : Int32} {f : Nat → Int32} {c0 : Int32} {c1 : Int32} {c2 : Int32} {c3 : Int32} {c4 : Int32} {c5 : Int32} {p0 : Int32} (hN : NBig N) (hK : 100 ≤ K) (hp0 : 0 ≤ p0.toInt) (hp1 : p0.toInt ≤ 20) : Sf (fX1_recall N K ru sz f c0 c1 c2 c3 c4 c5 p0) (fun (z : Int32 × Int32 × (Nat → Int32) × Int32 × Int32 × Int32) => True) := by
  unfold fX1_recall
  have ql0 : (0 : Int32).toInt = 0 := by decide
  have r1 := rgI ru
  have r2 := rgI sz
  have r3 := rgI c0
  have r4 := rgI c1
  have r5 := rgI c2
  have r6 := rgI c3
  have r7 := rgI c4
  have r8 := rgI c5
  have r9 := rgI p0
  refine sBind (s_X1_worthKnown hN hK _ _ _ _ _ _ _ _ _ _ _ _ (by omega) (by first | omega | decide) (by first | omega | decide) (by first | omega | decide) (by first | omega | decide)) (fun x4 b10 => ?_)
  have r11 := rgI x4.1
  have r12 := rgI x4.2.1
  have r13 := rgI x4.2.2.2.1
  have r14 := rgI x4.2.2.2.2.1
  have r15 := rgI x4.2.2.2.2.2
  exact sRet trivial
set_option maxHeartbeats 2000000 in
theorem s_X5_rests {N K : Nat} {p0 : Int32} {p1 : Int32} (hN : NBig N) (hK : 100 ≤ K)  : Sf (fX5_rests N K p0 p1) (fun (z : Int32) => 0 ≤ z.toInt ∧ z.toInt ≤ 1 ∧ (z.toInt = 0 → (1 ≤ p0.toInt)) ∧ (z.toInt = 0 → p1.toInt ≠ 0) ∧ True) := by
  unfold fX5_rests
  have ql0 : (0 : Int32).toInt = 0 := by decide
  have ql1 : (1 : Int32).toInt = 1 := by decide
  refine sIf (fun h1 => ?_) (fun h1 => ?_)
  · have r2 := rgI p0
    have fh1 := leT h1
    exact sRet ⟨(by show 0 ≤ (1 : Int32).toInt; decide), (by show (1 : Int32).toInt ≤ 1; decide), (by show ((1 : Int32).toInt = 0 → (1 ≤ p0.toInt)); omega), (by show ((1 : Int32).toInt = 0 → p1.toInt ≠ 0); omega), trivial⟩
  · have r3 := rgI p0
    have fh1 := leF h1
    refine sIf (fun h4 => ?_) (fun h4 => ?_)
    · have r5 := rgI p1
      have fh4 := eqT h4
      exact sRet ⟨(by show 0 ≤ (1 : Int32).toInt; decide), (by show (1 : Int32).toInt ≤ 1; decide), (by show ((1 : Int32).toInt = 0 → (1 ≤ p0.toInt)); omega), (by show ((1 : Int32).toInt = 0 → p1.toInt ≠ 0); omega), trivial⟩
    · have r6 := rgI p1
      have fh4 := eqF h4
      exact sRet ⟨(by show 0 ≤ (0 : Int32).toInt; decide), (by show (0 : Int32).toInt ≤ 1; decide), (by show ((0 : Int32).toInt = 0 → (1 ≤ p0.toInt)); omega), (by show ((0 : Int32).toInt = 0 → p1.toInt ≠ 0); omega), trivial⟩
set_option maxHeartbeats 2000000 in
theorem s_X5_restingWorth_16 {N K : Nat} {p0 : Int32} {p1 : Int32} {p2 : Int32} (hN : NBig N) (hK : 100 ≤ K) (hp0 : 0 ≤ p0.toInt) (hp1 : p0.toInt ≤ 5) : 1 ≤ p0.toInt → p0.toInt ≤ 5 → 0 ≤ p1.toInt → p1.toInt ≤ 0 → Sf (fX5_restingWorth_16 N K p0 p1 p2  ) (fun (z : Int32) => 0 ≤ z.toInt ∧ z.toInt ≤ 1 ∧ True) := by
  intro  hq0 hq1 hq2 hq3
  unfold fX5_restingWorth_16
  have ql0 : (0 : Int32).toInt = 0 := by decide
  have ql1 : (1 : Int32).toInt = 1 := by decide
  refine sIf (fun h1 => ?_) (fun h1 => ?_)
  · have r2 := rgI p2
    have fh1 := eqT h1
    exact sRet ⟨(by show 0 ≤ (1 : Int32).toInt; decide), (by show (1 : Int32).toInt ≤ 1; decide), trivial⟩
  · have r3 := rgI p2
    have fh1 := eqF h1
    exact sRet ⟨(by show 0 ≤ (0 : Int32).toInt; decide), (by show (0 : Int32).toInt ≤ 1; decide), trivial⟩
set_option maxHeartbeats 2000000 in
theorem s_X5_restingWorth {N K : Nat} {p0 : Int32} {p1 : Int32} {p2 : Int32} (hN : NBig N) (hK : 100 ≤ K) (hp0 : 0 ≤ p0.toInt) (hp1 : p0.toInt ≤ 5) : Sf (fX5_restingWorth N K p0 p1 p2) (fun (z : Int32) => 0 ≤ z.toInt ∧ z.toInt ≤ 1 ∧ True) := by
  unfold fX5_restingWorth
  have ql0 : (0 : Int32).toInt = 0 := by decide
  have ql1 : (1 : Int32).toInt = 1 := by decide
  have ql5 : (5 : Int32).toInt = 5 := by decide
  refine sIf (fun h1 => ?_) (fun h1 => ?_)
  · have r2 := rgI p1
    have fh1 := eqT h1
    refine sIf (fun h3 => ?_) (fun h3 => ?_)
    · have r4 := rgI p0
      have fh3 := eqT h3
      exact s_X5_restingWorth_16  hN hK (by omega) (by omega)  (by first | omega | decide) (by first | omega | decide) (by first | omega | decide) (by first | omega | decide)
    · have r5 := rgI p0
      have fh3 := eqF h3
      refine sIf (fun h6 => ?_) (fun h6 => ?_)
      · have fh6 := eqT h6
        exact s_X5_restingWorth_16  hN hK (by omega) (by omega)  (by first | omega | decide) (by first | omega | decide) (by first | omega | decide) (by first | omega | decide)
      · have fh6 := eqF h6
        exact sRet ⟨(by show 0 ≤ (1 : Int32).toInt; decide), (by show (1 : Int32).toInt ≤ 1; decide), trivial⟩
  · have r7 := rgI p1
    have fh1 := eqF h1
    exact sRet ⟨(by show 0 ≤ (0 : Int32).toInt; decide), (by show (0 : Int32).toInt ≤ 1; decide), trivial⟩
set_option maxHeartbeats 2000000 in
theorem s_X2_slotOf {N K : Nat} {p0 : Int32} {p1 : Int32} {p2 : Int32} (hN : NBig N) (hK : 100 ≤ K) (hp0 : 0 ≤ p0.toInt) (hp1 : p0.toInt ≤ 5) (hp2 : 0 ≤ p1.toInt) : Sf (fX2_slotOf N K p0 p1 p2) (fun (z : Int32) => -1 ≤ z.toInt ∧ z.toInt ≤ 2645 ∧ True) := by
  unfold fX2_slotOf
  have ql0 : (0 : Int32).toInt = 0 := by decide
  have ql6 : (6 : Int32).toInt = 6 := by decide
  have ql20 : (20 : Int32).toInt = 20 := by decide
  have ql21 : (21 : Int32).toInt = 21 := by decide
  refine sIf (fun h1 => ?_) (fun h1 => ?_)
  · have r2 := rgI p0
    have fh1 := ltT h1
    exfalso; omega
  · have r3 := rgI p0
    have fh1 := ltF h1
    refine sIf (fun h4 => ?_) (fun h4 => ?_)
    · have fh4 := leT h4
      exfalso; omega
    · have fh4 := leF h4
      refine sIf (fun h5 => ?_) (fun h5 => ?_)
      · have r6 := rgI p1
        have fh5 := ltT h5
        exfalso; omega
      · have r7 := rgI p1
        have fh5 := ltF h5
        refine sIf (fun h8 => ?_) (fun h8 => ?_)
        · have fh8 := ltT h8
          exact sRet ⟨(by show -1 ≤ (-1 : Int32).toInt; decide), (by show (-1 : Int32).toInt ≤ 2645; decide), trivial⟩
        · have fh8 := ltF h8
          refine sIf (fun h9 => ?_) (fun h9 => ?_)
          · have r10 := rgI p2
            have fh9 := ltT h9
            exact sRet ⟨(by show -1 ≤ (-1 : Int32).toInt; decide), (by show (-1 : Int32).toInt ≤ 2645; decide), trivial⟩
          · have r11 := rgI p2
            have fh9 := ltF h9
            refine sIf (fun h12 => ?_) (fun h12 => ?_)
            · have fh12 := leT h12
              have t16 := mulR (a := p0) (b := (21 : Int32)) ql21 (by omega) (by omega)
              have t15 := addI (a := (p0 * (21 : Int32))) (b := p1) (by omega) (by omega)
              have t14 := mulR (a := ((p0 * (21 : Int32)) + p1)) (b := (21 : Int32)) ql21 (by omega) (by omega)
              have t13 := addI (a := (((p0 * (21 : Int32)) + p1) * (21 : Int32))) (b := p2) (by omega) (by omega)
              exact sRet ⟨(by show -1 ≤ ((((p0 * (21 : Int32)) + p1) * (21 : Int32)) + p2).toInt; omega), (by show ((((p0 * (21 : Int32)) + p1) * (21 : Int32)) + p2).toInt ≤ 2645; omega), trivial⟩
            · have fh12 := leF h12
              exact sRet ⟨(by show -1 ≤ (-1 : Int32).toInt; decide), (by show (-1 : Int32).toInt ≤ 2645; decide), trivial⟩
set_option maxHeartbeats 2000000 in
theorem s_X2_kindOf {N K : Nat} {p0 : Int32} (hN : NBig N) (hK : 100 ≤ K) (hp0 : 0 ≤ p0.toInt) (hp1 : p0.toInt ≤ 2645) : Sf (fX2_kindOf N K p0) (fun (z : Int32) => 0 ≤ z.toInt ∧ z.toInt ≤ 5 ∧ True) := by
  unfold fX2_kindOf
  have ql0 : (0 : Int32).toInt = 0 := by decide
  have ql441 : (441 : Int32).toInt = 441 := by decide
  have r2 := rgI p0
  have t1 := divL (a := p0) (b := (441 : Int32)) ql441 (by omega) (by omega)
  exact sRet ⟨(by show 0 ≤ (p0 / (441 : Int32)).toInt; omega), (by show (p0 / (441 : Int32)).toInt ≤ 5; omega), trivial⟩
set_option maxHeartbeats 2000000 in
theorem s_X2_numberOf {N K : Nat} {p0 : Int32} (hN : NBig N) (hK : 100 ≤ K) (hp0 : 0 ≤ p0.toInt) (hp1 : p0.toInt ≤ 2645) : Sf (fX2_numberOf N K p0) (fun (z : Int32) => 0 ≤ z.toInt ∧ z.toInt ≤ 20 ∧ True) := by
  unfold fX2_numberOf
  have ql0 : (0 : Int32).toInt = 0 := by decide
  have ql21 : (21 : Int32).toInt = 21 := by decide
  have r3 := rgI p0
  have t2 := divL (a := p0) (b := (21 : Int32)) ql21 (by omega) (by omega)
  have t1 := modL (a := (p0 / (21 : Int32))) (b := (21 : Int32)) ql21 (by omega)
  exact sRet ⟨(by show 0 ≤ ((p0 / (21 : Int32)) % (21 : Int32)).toInt; omega), (by show ((p0 / (21 : Int32)) % (21 : Int32)).toInt ≤ 20; omega), trivial⟩
