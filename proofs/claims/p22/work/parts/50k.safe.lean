theorem s_X7_laid {N K : Nat} {th : Int32} {f : Nat → Int32} {g : Nat → Int32} {t : Nat → Int32} {p0 : Int32} (hN : NBig N) (hK : 100 ≤ K) (hp0 : 0 ≤ th.toInt) (hp1 : th.toInt ≤ 2) (hp2 : 0 ≤ p0.toInt) (hp3 : p0.toInt ≤ 1) (hp4 : OkD g) : Sf (fX7_laid N K th f g t p0) (fun (z : Int32 × (Nat → Int32) × (Nat → Int32)) => OkD z.2.1 ∧ True) := by
  obtain ⟨w, hw⟩ := hp4
  obtain ⟨f', a, b⟩ := m_laid (N := N) (K := K) (th := th) (f := f) (t := t) hN hK (p0 := p0) (noob (by omega) (by omega)) hw
  exact ⟨_, a, ⟨_, b⟩, trivial⟩

set_option maxHeartbeats 2000000 in
theorem s_X7_layFirst {N K : Nat} {th : Int32} {f : Nat → Int32} {t : Nat → Int32} {p0 : Int32} {p1 : Int32} (hN : NBig N) (hK : 100 ≤ K) (hp0 : OkD f) : Sf (fX7_layFirst N K th f t p0 p1) (fun (z : Int32 × Int32 × (Nat → Int32) × (Nat → Int32)) => 0 ≤ z.2.1.toInt ∧ z.2.1.toInt ≤ 2 ∧ OkD z.2.2.1 ∧ True) := by
  unfold fX7_layFirst
  have ql0 : (0 : Int32).toInt = 0 := by decide
  have ql1 : (1 : Int32).toInt = 1 := by decide
  have ql20 : (20 : Int32).toInt = 20 := by decide
  refine sBind (s_X7_isNo hN hK (by first | omega | decide) (by first | omega | decide) (by first | omega | decide) (by first | omega | decide)) (fun x4 b1 => ?_)
  obtain ⟨b1_0, b1_1, b1_2, -⟩ := b1
  replace b1_0 : 0 ≤ x4.toInt := b1_0
  replace b1_1 : x4.toInt ≤ 1 := b1_1
  replace b1_2 : (x4.toInt = 0 → ((0 : Int32).toInt ≤ p0.toInt ∧ p0.toInt ≤ (1 : Int32).toInt)) := b1_2
  refine sBind (s_X7_isNo hN hK (by first | omega | decide) (by first | omega | decide) (by first | omega | decide) (by first | omega | decide)) (fun x11 b2 => ?_)
  obtain ⟨b2_0, b2_1, b2_2, -⟩ := b2
  replace b2_0 : 0 ≤ x11.toInt := b2_0
  replace b2_1 : x11.toInt ≤ 1 := b2_1
  replace b2_2 : (x11.toInt = 0 → ((0 : Int32).toInt ≤ p1.toInt ∧ p1.toInt ≤ (20 : Int32).toInt)) := b2_2
  refine sBind (s_X7_isThrown hN hK (by first | omega | decide) (by first | omega | decide) (by first | omega | decide) (by first | omega | decide)) (fun x14 b3 => ?_)
  obtain ⟨b3_0, b3_1, b3_2, b3_3, b3_4, b3_5, -⟩ := b3
  replace b3_0 : 0 ≤ x14.1.toInt := b3_0
  replace b3_1 : x14.1.toInt ≤ 1 := b3_1
  replace b3_2 : 0 ≤ x14.2.toInt := b3_2
  replace b3_3 : x14.2.toInt ≤ 2 := b3_3
  replace b3_4 : (x14.1.toInt = 0 → (0 ≤ x4.toInt ∧ x4.toInt ≤ 0)) := b3_4
  replace b3_5 : (x14.1.toInt = 0 → (0 ≤ x11.toInt ∧ x11.toInt ≤ 0)) := b3_5
  refine sIf (fun h4 => ?_) (fun h4 => ?_)
  · have fh4 := eqT h4
    refine sBind (s_X7_firstWay hN hK (by first | omega | decide) (by first | omega | decide)) (fun x27 b5 => ?_)
    obtain ⟨b5_0, -⟩ := b5
    replace b5_0 : OkD x27 := b5_0
    refine sBind (s_X7_laid hN hK (by first | omega | decide) (by first | omega | decide) (by first | omega | decide) (by first | omega | decide) (by first | assumption | exact OkD.z)) (fun x30 b6 => ?_)
    obtain ⟨b6_0, -⟩ := b6
    replace b6_0 : OkD x30.2.1 := b6_0
    exact sRet ⟨(by show 0 ≤ x14.2.toInt; first | omega | assumption), (by show x14.2.toInt ≤ 2; first | omega | assumption), (by show OkD x30.2.1; first | omega | assumption), trivial⟩
  · have fh4 := eqF h4
    exact sRet ⟨(by show 0 ≤ x14.2.toInt; first | omega | assumption), (by show x14.2.toInt ≤ 2; first | omega | assumption), (by show OkD f; first | omega | assumption), trivial⟩
set_option maxHeartbeats 2000000 in
theorem s_X7_next {N K : Nat} {th : Int32} {f : Nat → Int32} {t : Nat → Int32} {p0 : Int32} (hN : NBig N) (hK : 100 ≤ K) (hp0 : OkD f) : Sf (fX7_next N K th f t p0) (fun (z : Int32 × Int32 × (Nat → Int32) × (Nat → Int32)) => 0 ≤ z.2.1.toInt ∧ z.2.1.toInt ≤ 2 ∧ OkD z.2.2.1 ∧ True) := by
  unfold fX7_next
  have ql0 : (0 : Int32).toInt = 0 := by decide
  have ql1 : (1 : Int32).toInt = 1 := by decide
  refine sBind (s_X7_isNo hN hK (by first | omega | decide) (by first | omega | decide) (by first | omega | decide) (by first | omega | decide)) (fun x4 b1 => ?_)
  obtain ⟨b1_0, b1_1, b1_2, -⟩ := b1
  replace b1_0 : 0 ≤ x4.toInt := b1_0
  replace b1_1 : x4.toInt ≤ 1 := b1_1
  replace b1_2 : (x4.toInt = 0 → ((0 : Int32).toInt ≤ p0.toInt ∧ p0.toInt ≤ (1 : Int32).toInt)) := b1_2
  refine sBind (s_X7_isThrown hN hK (by first | omega | decide) (by first | omega | decide) (by first | omega | decide) (by first | omega | decide)) (fun x8 b2 => ?_)
  obtain ⟨b2_0, b2_1, b2_2, b2_3, b2_4, b2_5, -⟩ := b2
  replace b2_0 : 0 ≤ x8.1.toInt := b2_0
  replace b2_1 : x8.1.toInt ≤ 1 := b2_1
  replace b2_2 : 0 ≤ x8.2.toInt := b2_2
  replace b2_3 : x8.2.toInt ≤ 2 := b2_3
  replace b2_4 : (x8.1.toInt = 0 → (0 ≤ x4.toInt ∧ x4.toInt ≤ 0)) := b2_4
  replace b2_5 : (x8.1.toInt = 0 → (0 ≤ (0 : Int32).toInt ∧ (0 : Int32).toInt ≤ 0)) := b2_5
  refine sIf (fun h3 => ?_) (fun h3 => ?_)
  · have fh3 := eqT h3
    refine sIfF (noob (by omega) (by omega)) ?_
    refine sBind (s_X7_isNext hN hK (by first | assumption | exact OkD.z)) (fun x22 b4 => ?_)
    obtain ⟨b4_0, b4_1, b4_2, -⟩ := b4
    replace b4_0 : 0 ≤ x22.1.toInt := b4_0
    replace b4_1 : x22.1.toInt ≤ 1 := b4_1
    replace b4_2 : OkD x22.2 := b4_2
    refine sIf (fun h5 => ?_) (fun h5 => ?_)
    · have fh5 := eqT h5
      refine sBind (s_X7_refused hN hK (by first | omega | decide) (by first | omega | decide)) (fun x45 b6 => ?_)
      obtain ⟨b6_0, b6_1, -⟩ := b6
      replace b6_0 : -9 ≤ x45.1.toInt := b6_0
      replace b6_1 : x45.1.toInt ≤ -9 := b6_1
      exact sRet ⟨(by show 0 ≤ x8.2.toInt; first | omega | assumption), (by show x8.2.toInt ≤ 2; first | omega | assumption), (by show OkD x22.2; first | omega | assumption), trivial⟩
    · have fh5 := eqF h5
      refine sIfF (noob (by omega) (by omega)) ?_
      refine sBind (s_X7_parts hN hK) (fun x35 b7 => ?_)
      refine sBind (s_X7_done hN hK (by first | omega | decide) (by first | omega | decide)) (fun x38 b8 => ?_)
      exact sRet ⟨(by show 0 ≤ x8.2.toInt; first | omega | assumption), (by show x8.2.toInt ≤ 2; first | omega | assumption), (by show OkD x22.2; first | omega | assumption), trivial⟩
  · have fh3 := eqF h3
    exact sRet ⟨(by show 0 ≤ x8.2.toInt; first | omega | assumption), (by show x8.2.toInt ≤ 2; first | omega | assumption), (by show OkD f; first | omega | assumption), trivial⟩
set_option maxHeartbeats 2000000 in
theorem s_X7_turn_44 {N K : Nat} {th : Int32} {f : Nat → Int32} {t : Nat → Int32} {p0 : Int32} (hN : NBig N) (hK : 100 ≤ K) (hp0 : OkD f) : ∀ (s0 : Int32) (th_ : Int32) (f_ : Nat → Int32) (t_ : Nat → Int32) (e_v0 : Nat → Int32), 0 ≤ p0.toInt → p0.toInt ≤ 1 → 0 ≤ s0.toInt → s0.toInt ≤ 1 → 0 ≤ th_.toInt → th_.toInt ≤ 2 → (s0.toInt = 0 → 0 ≤ p0.toInt ∧ p0.toInt ≤ 1) → OkD e_v0 → Sf (fX7_turn_44 N K th f t p0  s0 th_ f_ t_ e_v0) (fun (z : Int32 × Int32 × (Nat → Int32) × (Nat → Int32)) => 0 ≤ z.1.toInt ∧ z.1.toInt ≤ 1 ∧ 0 ≤ z.2.1.toInt ∧ z.2.1.toInt ≤ 2 ∧ OkD z.2.2.1 ∧ True) := by
  intro s0 th_ f_ t_ e_v0 hq0 hq1 hq2 hq3 hq4 hq5 hq6 hq7
  unfold fX7_turn_44
  have ql0 : (0 : Int32).toInt = 0 := by decide
  refine sBind (s_X7_laid hN hK (by first | omega | decide) (by first | omega | decide) (by first | omega | decide) (by first | omega | decide) (by first | assumption | exact OkD.z)) (fun x48 b1 => ?_)
  obtain ⟨b1_0, -⟩ := b1
  replace b1_0 : OkD x48.2.1 := b1_0
  refine sBind (s_X7_bit hN hK (by first | omega | decide) (by first | omega | decide)) (fun x53 b2 => ?_)
  obtain ⟨b2_0, b2_1, -⟩ := b2
  replace b2_0 : 0 ≤ x53.toInt := b2_0
  replace b2_1 : x53.toInt ≤ 1 := b2_1
  exact sRet ⟨(by show 0 ≤ x53.toInt; first | omega | assumption), (by show x53.toInt ≤ 1; first | omega | assumption), (by show 0 ≤ th_.toInt; first | omega | assumption), (by show th_.toInt ≤ 2; first | omega | assumption), (by show OkD x48.2.1; first | omega | assumption), trivial⟩
set_option maxHeartbeats 2000000 in
theorem s_X7_turn {N K : Nat} {th : Int32} {f : Nat → Int32} {t : Nat → Int32} {p0 : Int32} (hN : NBig N) (hK : 100 ≤ K) (hp0 : OkD f) : Sf (fX7_turn N K th f t p0) (fun (z : Int32 × Int32 × (Nat → Int32) × (Nat → Int32)) => 0 ≤ z.1.toInt ∧ z.1.toInt ≤ 1 ∧ 0 ≤ z.2.1.toInt ∧ z.2.1.toInt ≤ 2 ∧ OkD z.2.2.1 ∧ True) := by
  unfold fX7_turn
  have ql0 : (0 : Int32).toInt = 0 := by decide
  have ql1 : (1 : Int32).toInt = 1 := by decide
  refine sBind (s_X7_isNo hN hK (by first | omega | decide) (by first | omega | decide) (by first | omega | decide) (by first | omega | decide)) (fun x4 b1 => ?_)
  obtain ⟨b1_0, b1_1, b1_2, -⟩ := b1
  replace b1_0 : 0 ≤ x4.toInt := b1_0
  replace b1_1 : x4.toInt ≤ 1 := b1_1
  replace b1_2 : (x4.toInt = 0 → ((0 : Int32).toInt ≤ p0.toInt ∧ p0.toInt ≤ (1 : Int32).toInt)) := b1_2
  refine sBind (s_X7_isThrown hN hK (by first | omega | decide) (by first | omega | decide) (by first | omega | decide) (by first | omega | decide)) (fun x8 b2 => ?_)
  obtain ⟨b2_0, b2_1, b2_2, b2_3, b2_4, b2_5, -⟩ := b2
  replace b2_0 : 0 ≤ x8.1.toInt := b2_0
  replace b2_1 : x8.1.toInt ≤ 1 := b2_1
  replace b2_2 : 0 ≤ x8.2.toInt := b2_2
  replace b2_3 : x8.2.toInt ≤ 2 := b2_3
  replace b2_4 : (x8.1.toInt = 0 → (0 ≤ x4.toInt ∧ x4.toInt ≤ 0)) := b2_4
  replace b2_5 : (x8.1.toInt = 0 → (0 ≤ (0 : Int32).toInt ∧ (0 : Int32).toInt ≤ 0)) := b2_5
  refine sIf (fun h3 => ?_) (fun h3 => ?_)
  · have fh3 := eqT h3
    refine sIfF (noob (by omega) (by omega)) ?_
    refine sBind (s_X7_turned hN hK (by first | assumption | exact OkD.z)) (fun x22 b4 => ?_)
    obtain ⟨b4_0, -⟩ := b4
    replace b4_0 : OkD x22 := b4_0
    refine sIfF (noob (by omega) (by omega)) ?_
    refine sBind (s_X7_areSame hN hK) (fun x33 b5 => ?_)
    obtain ⟨b5_0, b5_1, -⟩ := b5
    replace b5_0 : 0 ≤ x33.toInt := b5_0
    replace b5_1 : x33.toInt ≤ 1 := b5_1
    refine sIf (fun h6 => ?_) (fun h6 => ?_)
    · have fh6 := eqT h6
      exact s_X7_turn_44  hN hK (by omega) _ _ _ _ _ (by first | omega | decide) (by first | omega | decide) (by first | omega | decide) (by first | omega | decide) (by first | omega | decide) (by first | omega | decide) (by first | omega | decide) (by first | assumption)
    · have fh6 := eqF h6
      exact s_X7_turn_44  hN hK (by omega) _ _ _ _ _ (by first | omega | decide) (by first | omega | decide) (by first | omega | decide) (by first | omega | decide) (by first | omega | decide) (by first | omega | decide) (by first | omega | decide) (by first | assumption)
  · have fh3 := eqF h3
    exact sRet ⟨(by show 0 ≤ (0 : Int32).toInt; decide), (by show (0 : Int32).toInt ≤ 1; decide), (by show 0 ≤ x8.2.toInt; first | omega | assumption), (by show x8.2.toInt ≤ 2; first | omega | assumption), (by show OkD f; first | omega | assumption), trivial⟩
theorem s_X7_toUnlike {N K : Nat} {th : Int32} {f : Nat → Int32} {t : Nat → Int32} {p0 : Int32} (hN : NBig N) (hK : 100 ≤ K) (hp0 : OkD f) : Sf (fX7_toUnlike N K th f t p0) (fun (z : Int32 × Int32 × (Nat → Int32) × (Nat → Int32)) => 0 ≤ z.2.1.toInt ∧ z.2.1.toInt ≤ 2 ∧ OkD z.2.2.1 ∧ True) := by
  have hN9 := hN.u
  have q0 : (0 : Int32).toInt = 0 := by decide
  have q1 : (1 : Int32).toInt = 1 := by decide
  obtain ⟨w, hw⟩ := hp0
  unfold fX7_toUnlike
  refine sBind (s_X7_isNo hN hK (by omega) (by omega) (by omega) (by omega)) (fun x4 y4 => ?_)
  obtain ⟨a1, a2, a3, -⟩ := y4
  refine sBind (s_X7_isThrown hN hK (by omega) (by omega) (by omega) (by omega)) (fun x14 y14 => ?_)
  obtain ⟨i1, i2, i3, i4, i5, i6, -⟩ := y14
  refine sIf (fun h => ?_) (fun _ => sRet ⟨i3, i4, ⟨w, hw⟩, trivial⟩)
  have h0 := congrArg Int32.toInt h
  rw [q0] at h0
  have u1 := a3 (by have := i5 h0; omega)
  have hp : ¬ (p0 < 0 ∨ 2 ≤ p0.toNatClampNeg) := noob (by omega) (by omega)
  refine sIfF hp ?_
  refine sBind (s_X7_isOdd hN hK) (fun x22 _ => ?_)
  refine sIf (fun _ => ?_) (fun _ => ?_)
  · exact sBind (s_X7_refused hN hK i3 i4) (fun _ _ => sRet ⟨i3, i4, ⟨w, hw⟩, trivial⟩)
  · obtain ⟨f', e1, e2⟩ := m_ulo (N := N) (K := K) (th := th) (f0 := f) (t0 := t) (th1 := x14.2) (t := t) hN hK hp hw 20 0 N (fun _ => 0) (fun _ => 0) rfl (by omega) (fun _ _ _ => rfl) (by have := wn_unlike hw.1; have h8 := hw.1; unfold unlikew at this; omega)
    exact ⟨_, e1, i3, i4, ⟨_, e2⟩, trivial⟩

theorem s_X7_toOdd {N K : Nat} {th : Int32} {f : Nat → Int32} {t : Nat → Int32} {p0 : Int32} (hN : NBig N) (hK : 100 ≤ K) (hp0 : OkD f) : Sf (fX7_toOdd N K th f t p0) (fun (z : Int32 × Int32 × (Nat → Int32) × (Nat → Int32)) => 0 ≤ z.2.1.toInt ∧ z.2.1.toInt ≤ 2 ∧ OkD z.2.2.1 ∧ True) := by
  have hN9 := hN.u
  have q0 : (0 : Int32).toInt = 0 := by decide
  have q1 : (1 : Int32).toInt = 1 := by decide
  obtain ⟨w, hw⟩ := hp0
  unfold fX7_toOdd
  refine sBind (s_X7_isNo hN hK (by omega) (by omega) (by omega) (by omega)) (fun x4 y4 => ?_)
  obtain ⟨a1, a2, a3, -⟩ := y4
  refine sBind (s_X7_isThrown hN hK (by omega) (by omega) (by omega) (by omega)) (fun x14 y14 => ?_)
  obtain ⟨i1, i2, i3, i4, i5, i6, -⟩ := y14
  refine sIf (fun h => ?_) (fun _ => sRet ⟨i3, i4, ⟨w, hw⟩, trivial⟩)
  have h0 := congrArg Int32.toInt h
  rw [q0] at h0
  have u1 := a3 (by have := i5 h0; omega)
  have hp : ¬ (p0 < 0 ∨ 2 ≤ p0.toNatClampNeg) := noob (by omega) (by omega)
  refine sIfF hp ?_
  refine sBind (s_X7_isUnlike hN hK) (fun x22 _ => ?_)
  refine sIf (fun _ => ?_) (fun _ => ?_)
  · exact sBind (s_X7_refused hN hK i3 i4) (fun _ _ => sRet ⟨i3, i4, ⟨w, hw⟩, trivial⟩)
  · obtain ⟨f', e1, e2⟩ := m_odo (N := N) (K := K) (th := th) (f0 := f) (t0 := t) (th1 := x14.2) (t := t) hN hK hp hw 20 0 N (fun _ => 0) (fun _ => 0) rfl (by omega) (fun _ _ _ => rfl) (by have := wn_odd (w := w); have h8 := hw.1; unfold oddw at this; omega)
    exact ⟨_, e1, i3, i4, ⟨_, e2⟩, trivial⟩

set_option maxHeartbeats 2000000 in
theorem s_X7_copyDesk {N K : Nat} {th : Int32} {f : Nat → Int32} {f2 : Nat → Int32} {t : Nat → Int32} {p0 : Int32} (hN : NBig N) (hK : 100 ≤ K) (hp0 : OkD f) (hp1 : OkD f2) : Sf (fX7_copyDesk N K th f f2 t p0) (fun (z : Int32 × Int32 × (Nat → Int32) × (Nat → Int32)) => 0 ≤ z.2.1.toInt ∧ z.2.1.toInt ≤ 2 ∧ OkD z.2.2.1 ∧ True) := by
  unfold fX7_copyDesk
  have ql0 : (0 : Int32).toInt = 0 := by decide
  have ql1 : (1 : Int32).toInt = 1 := by decide
  refine sBind (s_X7_isNo hN hK (by first | omega | decide) (by first | omega | decide) (by first | omega | decide) (by first | omega | decide)) (fun x4 b1 => ?_)
  obtain ⟨b1_0, b1_1, b1_2, -⟩ := b1
  replace b1_0 : 0 ≤ x4.toInt := b1_0
  replace b1_1 : x4.toInt ≤ 1 := b1_1
  replace b1_2 : (x4.toInt = 0 → ((0 : Int32).toInt ≤ p0.toInt ∧ p0.toInt ≤ (1 : Int32).toInt)) := b1_2
  refine sBind (s_X7_isThrown hN hK (by first | omega | decide) (by first | omega | decide) (by first | omega | decide) (by first | omega | decide)) (fun x8 b2 => ?_)
  obtain ⟨b2_0, b2_1, b2_2, b2_3, b2_4, b2_5, -⟩ := b2
  replace b2_0 : 0 ≤ x8.1.toInt := b2_0
  replace b2_1 : x8.1.toInt ≤ 1 := b2_1
  replace b2_2 : 0 ≤ x8.2.toInt := b2_2
  replace b2_3 : x8.2.toInt ≤ 2 := b2_3
  replace b2_4 : (x8.1.toInt = 0 → (0 ≤ x4.toInt ∧ x4.toInt ≤ 0)) := b2_4
  replace b2_5 : (x8.1.toInt = 0 → (0 ≤ (0 : Int32).toInt ∧ (0 : Int32).toInt ≤ 0)) := b2_5
  refine sIf (fun h3 => ?_) (fun h3 => ?_)
  · have fh3 := eqT h3
    refine sIfF (noob (by omega) (by omega)) ?_
    have t4 := subI (a := (1 : Int32)) (b := p0) (by omega) (by omega)
    refine sBind (s_X7_laid hN hK (by first | omega | decide) (by first | omega | decide) (by first | omega | decide) (by first | omega | decide) (by first | assumption | exact OkD.z)) (fun x26 b5 => ?_)
    obtain ⟨b5_0, -⟩ := b5
    replace b5_0 : OkD x26.2.1 := b5_0
    refine sIfF (noob (by omega) (by omega)) ?_
    refine sBind (s_X7_unlikeOnes hN hK) (fun x36 b6 => ?_)
    exact sRet ⟨(by show 0 ≤ x8.2.toInt; first | omega | assumption), (by show x8.2.toInt ≤ 2; first | omega | assumption), (by show OkD x26.2.1; first | omega | assumption), trivial⟩
  · have fh3 := eqF h3
    exact sRet ⟨(by show 0 ≤ x8.2.toInt; first | omega | assumption), (by show x8.2.toInt ≤ 2; first | omega | assumption), (by show OkD f2; first | omega | assumption), trivial⟩
set_option maxHeartbeats 2000000 in
theorem s_X7_times {N K : Nat} {th : Int32} {f : Nat → Int32} {p0 : Int32} {p1 : Int32} (hN : NBig N) (hK : 100 ≤ K)  : Sf (fX7_times N K th f p0 p1) (fun (z : Int32 × Int32) => 0 ≤ z.2.toInt ∧ z.2.toInt ≤ 2 ∧ True) := by
  unfold fX7_times
  have ql0 : (0 : Int32).toInt = 0 := by decide
  have ql1 : (1 : Int32).toInt = 1 := by decide
  have ql20 : (20 : Int32).toInt = 20 := by decide
  refine sBind (s_X7_isNo hN hK (by first | omega | decide) (by first | omega | decide) (by first | omega | decide) (by first | omega | decide)) (fun x4 b1 => ?_)
  obtain ⟨b1_0, b1_1, b1_2, -⟩ := b1
  replace b1_0 : 0 ≤ x4.toInt := b1_0
  replace b1_1 : x4.toInt ≤ 1 := b1_1
  replace b1_2 : (x4.toInt = 0 → ((0 : Int32).toInt ≤ p0.toInt ∧ p0.toInt ≤ (1 : Int32).toInt)) := b1_2
  refine sBind (s_X7_isNo hN hK (by first | omega | decide) (by first | omega | decide) (by first | omega | decide) (by first | omega | decide)) (fun x11 b2 => ?_)
  obtain ⟨b2_0, b2_1, b2_2, -⟩ := b2
  replace b2_0 : 0 ≤ x11.toInt := b2_0
  replace b2_1 : x11.toInt ≤ 1 := b2_1
  replace b2_2 : (x11.toInt = 0 → ((1 : Int32).toInt ≤ p1.toInt ∧ p1.toInt ≤ (20 : Int32).toInt)) := b2_2
  refine sBind (s_X7_isThrown hN hK (by first | omega | decide) (by first | omega | decide) (by first | omega | decide) (by first | omega | decide)) (fun x14 b3 => ?_)
  obtain ⟨b3_0, b3_1, b3_2, b3_3, b3_4, b3_5, -⟩ := b3
  replace b3_0 : 0 ≤ x14.1.toInt := b3_0
  replace b3_1 : x14.1.toInt ≤ 1 := b3_1
  replace b3_2 : 0 ≤ x14.2.toInt := b3_2
  replace b3_3 : x14.2.toInt ≤ 2 := b3_3
  replace b3_4 : (x14.1.toInt = 0 → (0 ≤ x4.toInt ∧ x4.toInt ≤ 0)) := b3_4
  replace b3_5 : (x14.1.toInt = 0 → (0 ≤ x11.toInt ∧ x11.toInt ≤ 0)) := b3_5
  refine sIf (fun h4 => ?_) (fun h4 => ?_)
  · have fh4 := eqT h4
    refine sIfF (noob (by omega) (by omega)) ?_
    refine sIfF (noob (by omega) (by omega)) ?_
    exact sRet ⟨(by show 0 ≤ x14.2.toInt; first | omega | assumption), (by show x14.2.toInt ≤ 2; first | omega | assumption), trivial⟩
  · have fh4 := eqF h4
    exact sRet ⟨(by show 0 ≤ x14.2.toInt; first | omega | assumption), (by show x14.2.toInt ≤ 2; first | omega | assumption), trivial⟩
set_option maxHeartbeats 2000000 in
theorem s_X7_way {N K : Nat} {th : Int32} {f : Nat → Int32} {p0 : Int32} {p1 : Int32} (hN : NBig N) (hK : 100 ≤ K) (hp0 : OkD f) : Sf (fX7_way N K th f p0 p1) (fun (z : Int32 × Int32) => 0 ≤ z.2.toInt ∧ z.2.toInt ≤ 2 ∧ True) := by
  unfold fX7_way
  have ql0 : (0 : Int32).toInt = 0 := by decide
  have ql1 : (1 : Int32).toInt = 1 := by decide
  have ql2 : (2 : Int32).toInt = 2 := by decide
  refine sBind (s_X7_isNo hN hK (by first | omega | decide) (by first | omega | decide) (by first | omega | decide) (by first | omega | decide)) (fun x4 b1 => ?_)
  obtain ⟨b1_0, b1_1, b1_2, -⟩ := b1
  replace b1_0 : 0 ≤ x4.toInt := b1_0
  replace b1_1 : x4.toInt ≤ 1 := b1_1
  replace b1_2 : (x4.toInt = 0 → ((0 : Int32).toInt ≤ p0.toInt ∧ p0.toInt ≤ (1 : Int32).toInt)) := b1_2
  refine sBind (s_X7_isNo hN hK (by first | omega | decide) (by first | omega | decide) (by first | omega | decide) (by first | omega | decide)) (fun x10 b2 => ?_)
  obtain ⟨b2_0, b2_1, b2_2, -⟩ := b2
  replace b2_0 : 0 ≤ x10.toInt := b2_0
  replace b2_1 : x10.toInt ≤ 1 := b2_1
  replace b2_2 : (x10.toInt = 0 → ((0 : Int32).toInt ≤ p1.toInt ∧ p1.toInt ≤ (2 : Int32).toInt)) := b2_2
  refine sBind (s_X7_isThrown hN hK (by first | omega | decide) (by first | omega | decide) (by first | omega | decide) (by first | omega | decide)) (fun x13 b3 => ?_)
  obtain ⟨b3_0, b3_1, b3_2, b3_3, b3_4, b3_5, -⟩ := b3
  replace b3_0 : 0 ≤ x13.1.toInt := b3_0
  replace b3_1 : x13.1.toInt ≤ 1 := b3_1
  replace b3_2 : 0 ≤ x13.2.toInt := b3_2
  replace b3_3 : x13.2.toInt ≤ 2 := b3_3
  replace b3_4 : (x13.1.toInt = 0 → (0 ≤ x4.toInt ∧ x4.toInt ≤ 0)) := b3_4
  replace b3_5 : (x13.1.toInt = 0 → (0 ≤ x10.toInt ∧ x10.toInt ≤ 0)) := b3_5
  refine sIf (fun h4 => ?_) (fun h4 => ?_)
  · have fh4 := eqT h4
    refine sIf (fun h5 => ?_) (fun h5 => ?_)
    · have fh5 := eqT h5
      refine sIfF (noob (by omega) (by omega)) ?_
      refine sBind (s_X7_number hN hK (by first | assumption | exact OkD.z)) (fun x31 b6 => ?_)
      obtain ⟨b6_0, b6_1, -⟩ := b6
      replace b6_0 : 0 ≤ x31.toInt := b6_0
      replace b6_1 : x31.toInt ≤ 20 := b6_1
      exact sRet ⟨(by show 0 ≤ x13.2.toInt; first | omega | assumption), (by show x13.2.toInt ≤ 2; first | omega | assumption), trivial⟩
    · have fh5 := eqF h5
      refine sIf (fun h7 => ?_) (fun h7 => ?_)
      · have fh7 := eqT h7
        refine sIfF (noob (by omega) (by omega)) ?_
        refine sBind (s_X7_parts hN hK) (fun x48 b8 => ?_)
        exact sRet ⟨(by show 0 ≤ x13.2.toInt; first | omega | assumption), (by show x13.2.toInt ≤ 2; first | omega | assumption), trivial⟩
      · have fh7 := eqF h7
        refine sIfF (noob (by omega) (by omega)) ?_
        refine sBind (s_X7_unlikeOnes hN hK) (fun x60 b9 => ?_)
        exact sRet ⟨(by show 0 ≤ x13.2.toInt; first | omega | assumption), (by show x13.2.toInt ≤ 2; first | omega | assumption), trivial⟩
  · have fh4 := eqF h4
    exact sRet ⟨(by show 0 ≤ x13.2.toInt; first | omega | assumption), (by show x13.2.toInt ≤ 2; first | omega | assumption), trivial⟩
set_option maxHeartbeats 2000000 in
theorem s_X7_isOf_32 {N K : Nat} {th : Int32} {f : Nat → Int32} {p0 : Int32} {p1 : Int32} {p2 : Int32} (hN : NBig N) (hK : 100 ≤ K)  : ∀ (s0 : Int32) (s1 : Int32) (th_ : Int32), 0 ≤ s0.toInt → s0.toInt ≤ 1 → 0 ≤ s1.toInt → s1.toInt ≤ 1 → (s0.toInt = 0 → 0 ≤ p1.toInt ∧ p1.toInt ≤ 7 ∧ 0 ≤ p2.toInt ∧ p2.toInt ≤ 20) → (s1.toInt = 0 → 0 ≤ p0.toInt ∧ p0.toInt ≤ 1) → Sf (fX7_isOf_32 N K th f p0 p1 p2  s0 s1 th_) (fun (z : Int32 × Int32) => 0 ≤ z.1.toInt ∧ z.1.toInt ≤ 1 ∧ 0 ≤ z.2.toInt ∧ z.2.toInt ≤ 2 ∧ True) := by
  intro s0 s1 th_ hq0 hq1 hq2 hq3 hq4 hq5
  unfold fX7_isOf_32
  have ql0 : (0 : Int32).toInt = 0 := by decide
  have ql1 : (1 : Int32).toInt = 1 := by decide
  refine sBind (s_X7_isThrown hN hK (by first | omega | decide) (by first | omega | decide) (by first | omega | decide) (by first | omega | decide)) (fun x32 b1 => ?_)
  obtain ⟨b1_0, b1_1, b1_2, b1_3, b1_4, b1_5, -⟩ := b1
  replace b1_0 : 0 ≤ x32.1.toInt := b1_0
  replace b1_1 : x32.1.toInt ≤ 1 := b1_1
  replace b1_2 : 0 ≤ x32.2.toInt := b1_2
  replace b1_3 : x32.2.toInt ≤ 2 := b1_3
  replace b1_4 : (x32.1.toInt = 0 → (0 ≤ s1.toInt ∧ s1.toInt ≤ 0)) := b1_4
  replace b1_5 : (x32.1.toInt = 0 → (0 ≤ s0.toInt ∧ s0.toInt ≤ 0)) := b1_5
  refine sIf (fun h2 => ?_) (fun h2 => ?_)
  · have fh2 := eqT h2
    refine sIfF (noob (by omega) (by omega)) ?_
    refine sBind (s_X7_isOfKind hN hK (by first | omega | decide) (by first | omega | decide) (by first | omega | decide) (by first | omega | decide)) (fun x46 b3 => ?_)
    obtain ⟨b3_0, b3_1, -⟩ := b3
    replace b3_0 : 0 ≤ x46.toInt := b3_0
    replace b3_1 : x46.toInt ≤ 1 := b3_1
    refine sIf (fun h4 => ?_) (fun h4 => ?_)
    · have fh4 := eqT h4
      exact sRet ⟨(by show 0 ≤ (0 : Int32).toInt; decide), (by show (0 : Int32).toInt ≤ 1; decide), (by show 0 ≤ x32.2.toInt; first | omega | assumption), (by show x32.2.toInt ≤ 2; first | omega | assumption), trivial⟩
    · have fh4 := eqF h4
      exact sRet ⟨(by show 0 ≤ (1 : Int32).toInt; decide), (by show (1 : Int32).toInt ≤ 1; decide), (by show 0 ≤ x32.2.toInt; first | omega | assumption), (by show x32.2.toInt ≤ 2; first | omega | assumption), trivial⟩
  · have fh2 := eqF h2
    exact sRet ⟨(by show 0 ≤ (0 : Int32).toInt; decide), (by show (0 : Int32).toInt ≤ 1; decide), (by show 0 ≤ x32.2.toInt; first | omega | assumption), (by show x32.2.toInt ≤ 2; first | omega | assumption), trivial⟩
set_option maxHeartbeats 2000000 in
theorem s_X7_isOf_27 {N K : Nat} {th : Int32} {f : Nat → Int32} {p0 : Int32} {p1 : Int32} {p2 : Int32} (hN : NBig N) (hK : 100 ≤ K)  : ∀ (s0 : Int32) (th_ : Int32), 0 ≤ s0.toInt → s0.toInt ≤ 1 → (s0.toInt = 0 → 0 ≤ p0.toInt ∧ p0.toInt ≤ 1) → Sf (fX7_isOf_27 N K th f p0 p1 p2  s0 th_) (fun (z : Int32 × Int32) => 0 ≤ z.1.toInt ∧ z.1.toInt ≤ 1 ∧ 0 ≤ z.2.toInt ∧ z.2.toInt ≤ 2 ∧ True) := by
  intro s0 th_ hq0 hq1 hq2
  unfold fX7_isOf_27
  have ql0 : (0 : Int32).toInt = 0 := by decide
  have ql1 : (1 : Int32).toInt = 1 := by decide
  exact s_X7_isOf_32  hN hK _ _ _ (by first | omega | decide) (by first | omega | decide) (by first | omega | decide) (by first | omega | decide) (by first | omega | decide) (by first | omega | decide)
