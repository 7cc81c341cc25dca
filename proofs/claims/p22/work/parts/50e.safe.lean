set_option maxHeartbeats 2000000 in
theorem s_X5_isSameOwn {N K : Nat} {sz : Int32} {f : Nat → Int32} {p0 : Int32} (hN : NBig N) (hK : 100 ≤ K)  : Sf (fX5_isSameOwn N K sz f p0) (xP true false (fun (z : Int32) => 1 ≤ z.toInt ∧ z.toInt ≤ 1 ∧ True)) := by
  unfold fX5_isSameOwn
  have ql0 : (0 : Int32).toInt = 0 := by decide
  refine sXb (s_X5_memoryAt hN hK) (by decide) (by decide) (fun x2 b1 => ?_)
  obtain ⟨b1_0, -⟩ := b1
  replace b1_0 : (0 ≤ p0.toInt ∧ p0.toInt ≤ 2) := b1_0
  refine sXb (s_X5_memoryAt hN hK) (by decide) (by decide) (fun x8 b2 => ?_)
  obtain ⟨b2_0, -⟩ := b2
  replace b2_0 : (0 ≤ p0.toInt ∧ p0.toInt ≤ 2) := b2_0
  refine sBind (s_X2_isLikeOwn hN hK) (fun x16 b3 => ?_)
  obtain ⟨b3_0, b3_1, -⟩ := b3
  replace b3_0 : 1 ≤ x16.toInt := b3_0
  replace b3_1 : x16.toInt ≤ 1 := b3_1
  refine sIfT (b01 (by omega) (by omega)) ?_
  exact sXl ⟨(by show 1 ≤ x16.toInt; first | omega | assumption), (by show x16.toInt ≤ 1; first | omega | assumption), trivial⟩
set_option maxHeartbeats 2000000 in
theorem s_X5_walk {N K : Nat} {fw : Nat → Int32} {fs : Nat → Int32} {p0 : Int32} {p1 : Int32} {p2 : Int32} (hN : NBig N) (hK : 100 ≤ K)  : Sf (fX5_walk N K fw fs p0 p1 p2) (xP false true (fun (z : Int32 × (Nat → Int32) × (Nat → Int32)) => True)) := by
  unfold fX5_walk
  have ql0 : (0 : Int32).toInt = 0 := by decide
  refine sXb (s_X5_checkAnyCase hN hK) (by decide) (by decide) (fun x3 b1 => ?_)
  obtain ⟨b1_0, b1_1, b1_2, -⟩ := b1
  replace b1_0 : (0 ≤ p0.toInt ∧ p0.toInt ≤ 7) := b1_0
  replace b1_1 : (0 ≤ p1.toInt ∧ p1.toInt ≤ 20) := b1_1
  replace b1_2 : (0 ≤ p2.toInt ∧ p2.toInt ≤ 20) := b1_2
  refine sBind (s_X5_waysOneByOne hN hK (by first | omega | decide) (by first | omega | decide) (by first | omega | decide) (by first | omega | decide) (by first | omega | decide) (by first | omega | decide)) (fun x10 b2 => ?_)
  exact sXl trivial
set_option maxHeartbeats 2000000 in
theorem s_X5_product {N K : Nat} {g : Nat → Int32} {p0 : Int32} {p1 : Int32} {p2 : Int32} (hN : NBig N) (hK : 100 ≤ K)  : Sf (fX5_product N K g p0 p1 p2) (xP false true (fun (z : Int32 × (Nat → Int32)) => True)) := by
  unfold fX5_product
  have ql0 : (0 : Int32).toInt = 0 := by decide
  refine sXb (s_X5_checkAnyCase hN hK) (by decide) (by decide) (fun x3 b1 => ?_)
  obtain ⟨b1_0, b1_1, b1_2, -⟩ := b1
  replace b1_0 : (0 ≤ p0.toInt ∧ p0.toInt ≤ 7) := b1_0
  replace b1_1 : (0 ≤ p1.toInt ∧ p1.toInt ≤ 20) := b1_1
  replace b1_2 : (0 ≤ p2.toInt ∧ p2.toInt ≤ 20) := b1_2
  refine sBind (s_X3_tells hN hK (by first | omega | decide) (by first | omega | decide) (by first | omega | decide) (by first | omega | decide) (by first | omega | decide) (by first | omega | decide)) (fun x13 b2 => ?_)
  exact sXl trivial
set_option maxHeartbeats 2000000 in
theorem s_X5_rule {N K : Nat} {ru : Int32} {sz : Int32} {f : Nat → Int32} {c0 : Int32} {c1 : Int32} {c2 : Int32} {c3 : Int32} {c4 : Int32} {c5 : Int32} {p0 : Int32} {p1 : Int32} (hN : NBig N) (hK : 100 ≤ K)  : Sf (fX5_rule N K ru sz f c0 c1 c2 c3 c4 c5 p0 p1) (xP true true (fun (z : Int32 × Int32 × (Nat → Int32) × Int32 × Int32 × Int32 × Int32) => True)) := by
  unfold fX5_rule
  have ql0 : (0 : Int32).toInt = 0 := by decide
  have ql20 : (20 : Int32).toInt = 20 := by decide
  refine sXb (s_X5_ledgerAt hN hK) (by decide) (by decide) (fun x2 b1 => ?_)
  obtain ⟨b1_0, -⟩ := b1
  replace b1_0 : (0 ≤ p0.toInt ∧ p0.toInt ≤ 2) := b1_0
  refine sXb (s_X5_checkRange hN hK (by first | omega | decide) (by first | omega | decide) (by first | omega | decide) (by first | omega | decide)) (by decide) (by decide) (fun x10 b2 => ?_)
  obtain ⟨b2_0, -⟩ := b2
  replace b2_0 : ((0 : Int32).toInt ≤ p1.toInt ∧ p1.toInt ≤ (20 : Int32).toInt) := b2_0
  refine sBind (s_X1_recall hN hK (by first | omega | decide) (by first | omega | decide)) (fun x20 b3 => ?_)
  refine sBind (s_X5_acted hN hK) (fun x23 b4 => ?_)
  exact sXl trivial
set_option maxHeartbeats 2000000 in
theorem s_X5_forgetRule {N K : Nat} {ru : Int32} {sz : Int32} {f : Nat → Int32} {c0 : Int32} {c1 : Int32} {c2 : Int32} {c3 : Int32} {c4 : Int32} {c5 : Int32} {p0 : Int32} {p1 : Int32} (hN : NBig N) (hK : 100 ≤ K)  : Sf (fX5_forgetRule N K ru sz f c0 c1 c2 c3 c4 c5 p0 p1) (xP true true (fun (z : Int32 × Int32 × (Nat → Int32) × Int32 × Int32) => True)) := by
  unfold fX5_forgetRule
  have ql0 : (0 : Int32).toInt = 0 := by decide
  have ql20 : (20 : Int32).toInt = 20 := by decide
  refine sXb (s_X5_ledgerAt hN hK) (by decide) (by decide) (fun x2 b1 => ?_)
  obtain ⟨b1_0, -⟩ := b1
  replace b1_0 : (0 ≤ p0.toInt ∧ p0.toInt ≤ 2) := b1_0
  refine sXb (s_X5_checkRange hN hK (by first | omega | decide) (by first | omega | decide) (by first | omega | decide) (by first | omega | decide)) (by decide) (by decide) (fun x10 b2 => ?_)
  obtain ⟨b2_0, -⟩ := b2
  replace b2_0 : ((0 : Int32).toInt ≤ p1.toInt ∧ p1.toInt ≤ (20 : Int32).toInt) := b2_0
  refine sIf (fun h3 => ?_) (fun h3 => ?_)
  · have fh3 := eqT h3
    refine sBind (s_X1_dropAll hN hK) (fun x19 b4 => ?_)
    obtain ⟨b4_0, b4_1, -⟩ := b4
    replace b4_0 : 0 ≤ x19.2.1.toInt := b4_0
    replace b4_1 : x19.2.1.toInt ≤ 0 := b4_1
    refine sBind (s_X5_acted hN hK) (fun x22 b5 => ?_)
    exact sXl trivial
  · have fh3 := eqF h3
    refine sBind (s_X1_keeps hN hK (by first | omega | decide) (by first | omega | decide)) (fun x28 b6 => ?_)
    obtain ⟨b6_0, b6_1, -⟩ := b6
    replace b6_0 : 0 ≤ x28.toInt := b6_0
    replace b6_1 : x28.toInt ≤ 1 := b6_1
    refine sIf (fun h7 => ?_) (fun h7 => ?_)
    · have fh7 := eqT h7
      refine sBind (s_X5_undone hN hK) (fun x35 b8 => ?_)
      obtain ⟨b8_0, b8_1, -⟩ := b8
      replace b8_0 : -9 ≤ x35.1.toInt := b8_0
      replace b8_1 : x35.1.toInt ≤ -9 := b8_1
      exact sXl trivial
    · have fh7 := eqF h7
      refine sBind (s_X1_keptWorth hN hK (by first | omega | decide) (by first | omega | decide)) (fun x41 b9 => ?_)
      refine sBind (s_X1_drop hN hK (by first | omega | decide) (by first | omega | decide)) (fun x48 b10 => ?_)
      refine sBind (s_X5_acted hN hK) (fun x54 b11 => ?_)
      exact sXl trivial
set_option maxHeartbeats 2000000 in
theorem s_X5_ledger {N K : Nat} {ru : Int32} {sz : Int32} {f : Nat → Int32} {p0 : Int32} {p1 : Int32} (hN : NBig N) (hK : 100 ≤ K)  : Sf (fX5_ledger N K ru sz f p0 p1) (xP true true (fun (z : Int32) => True)) := by
  unfold fX5_ledger
  have ql0 : (0 : Int32).toInt = 0 := by decide
  have ql1 : (1 : Int32).toInt = 1 := by decide
  refine sXb (s_X5_ledgerAt hN hK) (by decide) (by decide) (fun x2 b1 => ?_)
  obtain ⟨b1_0, -⟩ := b1
  replace b1_0 : (0 ≤ p0.toInt ∧ p0.toInt ≤ 2) := b1_0
  refine sXb (s_X5_checkRange hN hK (by first | omega | decide) (by first | omega | decide) (by first | omega | decide) (by first | omega | decide)) (by decide) (by decide) (fun x9 b2 => ?_)
  obtain ⟨b2_0, -⟩ := b2
  replace b2_0 : ((0 : Int32).toInt ≤ p1.toInt ∧ p1.toInt ≤ (1 : Int32).toInt) := b2_0
  refine sIf (fun h3 => ?_) (fun h3 => ?_)
  · have fh3 := eqT h3
    refine sBind (s_X1_size hN hK) (fun x17 b4 => ?_)
    exact sXl trivial
  · have fh3 := eqF h3
    refine sBind (s_X1_mark hN hK) (fun x24 b5 => ?_)
    exact sXl trivial
set_option maxHeartbeats 2000000 in
theorem s_X5_ruleWorth {N K : Nat} {ru : Int32} {sz : Int32} {f : Nat → Int32} {p0 : Int32} {p1 : Int32} {p2 : Int32} (hN : NBig N) (hK : 100 ≤ K)  : Sf (fX5_ruleWorth N K ru sz f p0 p1 p2) (xP true true (fun (z : Int32) => True)) := by
  unfold fX5_ruleWorth
  have ql0 : (0 : Int32).toInt = 0 := by decide
  have ql1 : (1 : Int32).toInt = 1 := by decide
  have ql20 : (20 : Int32).toInt = 20 := by decide
  refine sXb (s_X5_ledgerAt hN hK) (by decide) (by decide) (fun x2 b1 => ?_)
  obtain ⟨b1_0, -⟩ := b1
  replace b1_0 : (0 ≤ p0.toInt ∧ p0.toInt ≤ 2) := b1_0
  refine sXb (s_X5_checkRange hN hK (by first | omega | decide) (by first | omega | decide) (by first | omega | decide) (by first | omega | decide)) (by decide) (by decide) (fun x11 b2 => ?_)
  obtain ⟨b2_0, -⟩ := b2
  replace b2_0 : ((0 : Int32).toInt ≤ p1.toInt ∧ p1.toInt ≤ (20 : Int32).toInt) := b2_0
  refine sXb (s_X5_checkRange hN hK (by first | omega | decide) (by first | omega | decide) (by first | omega | decide) (by first | omega | decide)) (by decide) (by decide) (fun x17 b3 => ?_)
  obtain ⟨b3_0, -⟩ := b3
  replace b3_0 : ((0 : Int32).toInt ≤ p2.toInt ∧ p2.toInt ≤ (1 : Int32).toInt) := b3_0
  refine sBind (s_X1_keeps hN hK (by first | omega | decide) (by first | omega | decide)) (fun x23 b4 => ?_)
  obtain ⟨b4_0, b4_1, -⟩ := b4
  replace b4_0 : 0 ≤ x23.toInt := b4_0
  replace b4_1 : x23.toInt ≤ 1 := b4_1
  refine sIf (fun h5 => ?_) (fun h5 => ?_)
  · have fh5 := eqT h5
    exact sXl trivial
  · have fh5 := eqF h5
    refine sBind (s_X1_keptWorth hN hK (by first | omega | decide) (by first | omega | decide)) (fun x32 b6 => ?_)
    exact sXl trivial
theorem s_X5_addPart {N K : Nat} {f : Nat → Int32} {c0 : Int32} {c1 : Int32} {c2 : Int32} {c3 : Int32} {c4 : Int32} {c5 : Int32} {p0 : Int32} {p1 : Int32} {p2 : Int32} (hN : NBig N) (hK : 100 ≤ K) (hp0 : OkD f) : Sf (fX5_addPart N K f c0 c1 c2 c3 c4 c5 p0 p1 p2) (xP true true (fun (z : Int32 × (Nat → Int32) × Int32 × Int32) => OkD z.2.1 ∧ True)) := by
  have hN9 := hN.u
  have q1 : (1 : Int32).toInt = 1 := by decide
  have q20 : (20 : Int32).toInt = 20 := by decide
  obtain ⟨w, hw⟩ := hp0
  unfold fX5_addPart
  refine sXb (s_X5_deskAt hN hK) (fun _ => rfl) (fun _ => rfl) (fun _ _ => ?_)
  refine sXb (s_X5_checkRange hN hK (by omega) (by omega) (by omega) (by omega)) (fun _ => rfl) (fun _ => rfl) (fun _ y1 => ?_)
  refine sXb (s_X5_checkRange hN hK (by omega) (by omega) (by omega) (by omega)) (fun _ => rfl) (fun _ => rfl) (fun _ y2 => ?_)
  obtain ⟨⟨a1, a2⟩, -⟩ := y1
  obtain ⟨⟨b1, b2⟩, -⟩ := y2
  obtain ⟨m, rfl, m1, m2⟩ := o_of (p := p1) (a := 1) (b := 20) (by omega) (by omega)
  obtain ⟨n, rfl, n1, n2⟩ := o_of (p := p2) (a := 1) (b := 20) (by omega) (by omega)
  have hmn := Nat.mul_le_mul m2 n2
  have hwn := hw.1
  rw [c_sum (by omega) hw.2, Option.bind_some, o_mul, o_add, show (20 : Int32) = Int32.ofNat 20 from rfl]
  refine sIf (fun h => ?_) (fun _ => ?_)
  · rw [o_le (by omega) (by omega)] at h
    obtain ⟨g, e1, e2⟩ := c_put (N := N) (K := K) hw.2 (p := m) (t := n) m1 m2
    rw [e1, Option.bind_some]
    refine sBind (s_X4_timesOf hN hK (by rw [o_i (by omega)]; omega) (by rw [o_i (by omega)]; omega)) (fun _ _ => ?_)
    refine sBind (s_X5_acted hN hK) (fun _ _ => ?_)
    refine sXl ⟨⟨_, ?_, e2⟩, trivial⟩
    have e3 := wn_upm (w := w) (p := m) (v := w m + n) m1 m2
    rw [Nat.mul_add] at e3
    omega
  · refine sBind (s_X5_undone hN hK) (fun _ _ => ?_)
    exact sXl ⟨⟨w, hw⟩, trivial⟩

theorem c_take {N K : Nat} {f : Nat → Int32} {w : Nat → Nat} (hf : Dv f w) {p : Nat} (h1 : 1 ≤ p) (h2 : p ≤ 20) (h3 : 1 ≤ w p) : ∃ g, fX4_put N K f (Int32.ofNat p) (-1 : Int32) = some g ∧ Dv g (upm w p (w p - 1)) := by
  obtain ⟨v, hv⟩ : ∃ v, w p = v + 1 := ⟨w p - 1, by omega⟩
  refine ⟨_, ?_, hf.put (p := p) (t := w p - 1)⟩
  unfold fX4_put
  rw [if_neg (o_1le h1 (by omega)), if_neg (n_20 h2), if_neg (o_ob (by omega) (by omega)), if_neg (o_ob (by omega) (by omega)), o_c (by omega), hf p h1 h2, hv, o_m1, show v + 1 - 1 = v from by omega]
theorem c_times {N K : Nat} {f : Nat → Int32} {w : Nat → Nat} (hf : Dv f w) {p : Nat} (h1 : 1 ≤ p) (h2 : p ≤ 20) : fX4_timesOf N K f (Int32.ofNat p) = some (Int32.ofNat (w p)) := by
  unfold fX4_timesOf
  rw [if_neg (o_1le h1 (by omega)), if_pos (by rw [show (20 : Int32) = Int32.ofNat 20 from rfl, o_le (by omega) (by omega)]; exact h2), if_neg (o_ob (by omega) (by omega)), o_c (by omega), hf p h1 h2]
theorem wn_take {w : Nat → Nat} {p : Nat} (h1 : 1 ≤ p) (h2 : p ≤ 20) (h3 : 1 ≤ w p) : wn (upm w p (w p - 1)) + p = wn w := by
  have e3 := wn_upm (w := w) (p := p) (v := w p - 1) h1 h2
  obtain ⟨v, hv⟩ : ∃ v, w p = v + 1 := ⟨w p - 1, by omega⟩
  rw [hv, show v + 1 - 1 = v from by omega, Nat.mul_add] at e3
  rw [hv, show v + 1 - 1 = v from by omega]
  omega
theorem s_X5_takePart {N K : Nat} {f : Nat → Int32} {c0 : Int32} {c1 : Int32} {c2 : Int32} {c3 : Int32} {c4 : Int32} {c5 : Int32} {p0 : Int32} {p1 : Int32} (hN : NBig N) (hK : 100 ≤ K) (hp0 : OkD f) : Sf (fX5_takePart N K f c0 c1 c2 c3 c4 c5 p0 p1) (xP true true (fun (z : Int32 × (Nat → Int32) × Int32 × Int32) => OkD z.2.1 ∧ True)) := by
  have hN9 := hN.u
  have q1 : (1 : Int32).toInt = 1 := by decide
  have q20 : (20 : Int32).toInt = 20 := by decide
  obtain ⟨w, hw⟩ := hp0
  unfold fX5_takePart
  refine sXb (s_X5_deskAt hN hK) (fun _ => rfl) (fun _ => rfl) (fun _ _ => ?_)
  refine sXb (s_X5_checkRange hN hK (by omega) (by omega) (by omega) (by omega)) (fun _ => rfl) (fun _ => rfl) (fun _ y1 => ?_)
  obtain ⟨⟨a1, a2⟩, -⟩ := y1
  obtain ⟨m, rfl, m1, m2⟩ := o_of (p := p1) (a := 1) (b := 20) (by omega) (by omega)
  have hwm := wn_le1 (w := w) m1 m2
  have hwn := hw.1
  rw [c_times hw.2 m1 m2, Option.bind_some, show (0 : Int32) = Int32.ofNat 0 from rfl]
  refine sIf (fun _ => ?_) (fun h => ?_)
  · refine sBind (s_X5_undone hN hK) (fun _ _ => ?_)
    exact sXl ⟨⟨w, hw⟩, trivial⟩
  · rw [o_eq (by omega) (by omega)] at h
    obtain ⟨g, e1, e2⟩ := c_take (N := N) (K := K) hw.2 (p := m) m1 m2 (by omega)
    rw [e1, Option.bind_some]
    refine sBind (s_X4_timesOf hN hK (by rw [o_i (by omega)]; omega) (by rw [o_i (by omega)]; omega)) (fun _ _ => ?_)
    refine sBind (s_X5_acted hN hK) (fun _ _ => ?_)
    have e3 := wn_take (w := w) m1 m2 (by omega)
    exact sXl ⟨⟨_, by omega, e2⟩, trivial⟩

set_option maxHeartbeats 2000000 in
theorem s_X5_layFirst {N K : Nat} {f : Nat → Int32} {c0 : Int32} {c1 : Int32} {c2 : Int32} {c3 : Int32} {c4 : Int32} {c5 : Int32} {p0 : Int32} {p1 : Int32} (hN : NBig N) (hK : 100 ≤ K)  : Sf (fX5_layFirst N K f c0 c1 c2 c3 c4 c5 p0 p1) (xP true true (fun (z : Int32 × (Nat → Int32) × Int32) => OkD z.2.1 ∧ True)) := by
  unfold fX5_layFirst
  have ql0 : (0 : Int32).toInt = 0 := by decide
  have ql20 : (20 : Int32).toInt = 20 := by decide
  refine sXb (s_X5_deskAt hN hK) (by decide) (by decide) (fun x2 b1 => ?_)
  obtain ⟨b1_0, -⟩ := b1
  replace b1_0 : (0 ≤ p0.toInt ∧ p0.toInt ≤ 1) := b1_0
  refine sXb (s_X5_checkRange hN hK (by first | omega | decide) (by first | omega | decide) (by first | omega | decide) (by first | omega | decide)) (by decide) (by decide) (fun x10 b2 => ?_)
  obtain ⟨b2_0, -⟩ := b2
  replace b2_0 : ((0 : Int32).toInt ≤ p1.toInt ∧ p1.toInt ≤ (20 : Int32).toInt) := b2_0
  refine sBind (s_X4_becomeFirst hN hK (by first | omega | decide) (by first | omega | decide)) (fun x15 b3 => ?_)
  obtain ⟨b3_0, -⟩ := b3
  replace b3_0 : OkD x15 := b3_0
  refine sBind (s_X4_parts hN hK) (fun x20 b4 => ?_)
  refine sBind (s_X5_acted hN hK) (fun x23 b5 => ?_)
  exact sXl ⟨(by show OkD x15; first | omega | assumption), trivial⟩
set_option maxHeartbeats 2000000 in
theorem s_X5_next {N K : Nat} {f : Nat → Int32} {c0 : Int32} {c1 : Int32} {c2 : Int32} {c3 : Int32} {c4 : Int32} {c5 : Int32} {p0 : Int32} (hN : NBig N) (hK : 100 ≤ K) (hp0 : OkD f) : Sf (fX5_next N K f c0 c1 c2 c3 c4 c5 p0) (xP true false (fun (z : Int32 × (Nat → Int32) × Int32 × Int32) => OkD z.2.1 ∧ True)) := by
  unfold fX5_next
  have ql0 : (0 : Int32).toInt = 0 := by decide
  refine sXb (s_X5_deskAt hN hK) (by decide) (by decide) (fun x2 b1 => ?_)
  obtain ⟨b1_0, -⟩ := b1
  replace b1_0 : (0 ≤ p0.toInt ∧ p0.toInt ≤ 1) := b1_0
  refine sBind (s_X4_stepOn hN hK (by first | assumption | exact OkD.z)) (fun x7 b2 => ?_)
  obtain ⟨b2_0, b2_1, b2_2, -⟩ := b2
  replace b2_0 : 0 ≤ x7.1.toInt := b2_0
  replace b2_1 : x7.1.toInt ≤ 1 := b2_1
  replace b2_2 : OkD x7.2 := b2_2
  refine sIf (fun h3 => ?_) (fun h3 => ?_)
  · have fh3 := eqT h3
    refine sBind (s_X5_undone hN hK) (fun x14 b4 => ?_)
    obtain ⟨b4_0, b4_1, -⟩ := b4
    replace b4_0 : -9 ≤ x14.1.toInt := b4_0
    replace b4_1 : x14.1.toInt ≤ -9 := b4_1
    exact sXl ⟨(by show OkD x7.2; first | omega | assumption), trivial⟩
  · have fh3 := eqF h3
    refine sBind (s_X4_parts hN hK) (fun x20 b5 => ?_)
    refine sBind (s_X5_acted hN hK) (fun x23 b6 => ?_)
    exact sXl ⟨(by show OkD x7.2; first | omega | assumption), trivial⟩
set_option maxHeartbeats 2000000 in
theorem s_X5_turn_49 {N K : Nat} {f : Nat → Int32} {c0 : Int32} {c1 : Int32} {c2 : Int32} {c3 : Int32} {c4 : Int32} {c5 : Int32} {fs : Nat → Int32} {p0 : Int32} (hN : NBig N) (hK : 100 ≤ K) (hp0 : OkD f) : ∀ (s0 : Int32) (f_ : Nat → Int32) (c0_ : Int32) (fs_ : Nat → Int32), 0 ≤ p0.toInt → p0.toInt ≤ 1 → 0 ≤ s0.toInt → s0.toInt ≤ 1 → (s0.toInt = 0 → 0 ≤ p0.toInt ∧ p0.toInt ≤ 1) → OkD f_ → Sf (fX5_turn_49 N K f c0 c1 c2 c3 c4 c5 fs p0  s0 f_ c0_ fs_) (xP true false (fun (z : Int32 × (Nat → Int32) × Int32 × (Nat → Int32)) => OkD z.2.1 ∧ True)) := by
  intro s0 f_ c0_ fs_ hq0 hq1 hq2 hq3 hq4 hq5
  unfold fX5_turn_49
  have ql0 : (0 : Int32).toInt = 0 := by decide
  refine sBind (s_X5_acted hN hK) (fun x49 b1 => ?_)
  exact sXl ⟨(by show OkD f_; first | omega | assumption), trivial⟩
set_option maxHeartbeats 2000000 in
theorem s_X5_turn_30 {N K : Nat} {f : Nat → Int32} {c0 : Int32} {c1 : Int32} {c2 : Int32} {c3 : Int32} {c4 : Int32} {c5 : Int32} {fs : Nat → Int32} {p0 : Int32} (hN : NBig N) (hK : 100 ≤ K) (hp0 : OkD f) : ∀ (s0 : Int32) (f_ : Nat → Int32) (c0_ : Int32) (fs_ : Nat → Int32), 0 ≤ p0.toInt → p0.toInt ≤ 1 → 0 ≤ s0.toInt → s0.toInt ≤ 1 → (s0.toInt = 0 → 0 ≤ p0.toInt ∧ p0.toInt ≤ 1) → OkD fs_ → Sf (fX5_turn_30 N K f c0 c1 c2 c3 c4 c5 fs p0  s0 f_ c0_ fs_) (xP true false (fun (z : Int32 × (Nat → Int32) × Int32 × (Nat → Int32)) => OkD z.2.1 ∧ True)) := by
  intro s0 f_ c0_ fs_ hq0 hq1 hq2 hq3 hq4 hq5
  unfold fX5_turn_30
  have ql0 : (0 : Int32).toInt = 0 := by decide
  have ql1 : (1 : Int32).toInt = 1 := by decide
  refine sBind (s_X4_become hN hK (by first | assumption | exact OkD.z)) (fun x36 b1 => ?_)
  obtain ⟨b1_0, -⟩ := b1
  replace b1_0 : OkD x36 := b1_0
  refine sIf (fun h2 => ?_) (fun h2 => ?_)
  · have fh2 := eqT h2
    exact s_X5_turn_49  hN hK (by omega) _ _ _ _ (by first | omega | decide) (by first | omega | decide) (by first | omega | decide) (by first | omega | decide) (by first | omega | decide) (by assumption)
  · have fh2 := eqF h2
    exact s_X5_turn_49  hN hK (by omega) _ _ _ _ (by first | omega | decide) (by first | omega | decide) (by first | omega | decide) (by first | omega | decide) (by first | omega | decide) (by assumption)
set_option maxHeartbeats 2000000 in
theorem s_X5_turn {N K : Nat} {f : Nat → Int32} {c0 : Int32} {c1 : Int32} {c2 : Int32} {c3 : Int32} {c4 : Int32} {c5 : Int32} {fs : Nat → Int32} {p0 : Int32} (hN : NBig N) (hK : 100 ≤ K) (hp0 : OkD f) : Sf (fX5_turn N K f c0 c1 c2 c3 c4 c5 fs p0) (xP true false (fun (z : Int32 × (Nat → Int32) × Int32 × (Nat → Int32)) => OkD z.2.1 ∧ True)) := by
  unfold fX5_turn
  have ql0 : (0 : Int32).toInt = 0 := by decide
  have ql1 : (1 : Int32).toInt = 1 := by decide
  refine sXb (s_X5_deskAt hN hK) (by decide) (by decide) (fun x2 b1 => ?_)
  obtain ⟨b1_0, -⟩ := b1
  replace b1_0 : (0 ≤ p0.toInt ∧ p0.toInt ≤ 1) := b1_0
  refine sBind (s_X4_becomeTurned hN hK (by first | assumption | exact OkD.z)) (fun x11 b2 => ?_)
  obtain ⟨b2_0, -⟩ := b2
  replace b2_0 : OkD x11 := b2_0
  refine sBind (s_X4_isLike hN hK) (fun x19 b3 => ?_)
  obtain ⟨b3_0, b3_1, -⟩ := b3
  replace b3_0 : 0 ≤ x19.toInt := b3_0
  replace b3_1 : x19.toInt ≤ 1 := b3_1
  refine sIf (fun h4 => ?_) (fun h4 => ?_)
  · have fh4 := eqT h4
    exact s_X5_turn_30  hN hK (by omega) _ _ _ _ (by first | omega | decide) (by first | omega | decide) (by first | omega | decide) (by first | omega | decide) (by first | omega | decide) (by assumption)
  · have fh4 := eqF h4
    exact s_X5_turn_30  hN hK (by omega) _ _ _ _ (by first | omega | decide) (by first | omega | decide) (by first | omega | decide) (by first | omega | decide) (by first | omega | decide) (by assumption)
set_option maxHeartbeats 2000000 in
theorem s_X5_toUnlike {N K : Nat} {f : Nat → Int32} {c0 : Int32} {c1 : Int32} {c2 : Int32} {c3 : Int32} {c4 : Int32} {c5 : Int32} {fs : Nat → Int32} {p0 : Int32} (hN : NBig N) (hK : 100 ≤ K) (hp0 : OkD f) : Sf (fX5_toUnlike N K f c0 c1 c2 c3 c4 c5 fs p0) (xP true false (fun (z : Int32 × (Nat → Int32) × Int32 × Int32 × (Nat → Int32)) => OkD z.2.1 ∧ True)) := by
  unfold fX5_toUnlike
  have ql0 : (0 : Int32).toInt = 0 := by decide
  refine sXb (s_X5_deskAt hN hK) (by decide) (by decide) (fun x2 b1 => ?_)
  obtain ⟨b1_0, -⟩ := b1
  replace b1_0 : (0 ≤ p0.toInt ∧ p0.toInt ≤ 1) := b1_0
  refine sBind (s_X4_isOdd hN hK) (fun x7 b2 => ?_)
  obtain ⟨b2_0, b2_1, -⟩ := b2
  replace b2_0 : 0 ≤ x7.toInt := b2_0
  replace b2_1 : x7.toInt ≤ 1 := b2_1
  refine sIf (fun h3 => ?_) (fun h3 => ?_)
  · have fh3 := eqT h3
    refine sBind (s_X5_undone hN hK) (fun x14 b4 => ?_)
    obtain ⟨b4_0, b4_1, -⟩ := b4
    replace b4_0 : -9 ≤ x14.1.toInt := b4_0
    replace b4_1 : x14.1.toInt ≤ -9 := b4_1
    exact sXl ⟨(by show OkD f; first | omega | assumption), trivial⟩
  · have fh3 := eqF h3
    refine sBind (s_X4_becomeUnlike hN hK (by first | assumption | exact OkD.z)) (fun x23 b5 => ?_)
    obtain ⟨b5_0, -⟩ := b5
    replace b5_0 : OkD x23 := b5_0
    refine sBind (s_X4_become hN hK (by first | assumption | exact OkD.z)) (fun x31 b6 => ?_)
    obtain ⟨b6_0, -⟩ := b6
    replace b6_0 : OkD x31 := b6_0
    refine sBind (s_X4_parts hN hK) (fun x36 b7 => ?_)
    refine sBind (s_X5_acted hN hK) (fun x39 b8 => ?_)
    exact sXl ⟨(by show OkD x31; first | omega | assumption), trivial⟩
set_option maxHeartbeats 2000000 in
theorem s_X5_toOdd {N K : Nat} {f : Nat → Int32} {c0 : Int32} {c1 : Int32} {c2 : Int32} {c3 : Int32} {c4 : Int32} {c5 : Int32} {fs : Nat → Int32} {p0 : Int32} (hN : NBig N) (hK : 100 ≤ K) (hp0 : OkD f) : Sf (fX5_toOdd N K f c0 c1 c2 c3 c4 c5 fs p0) (xP true false (fun (z : Int32 × (Nat → Int32) × Int32 × Int32 × (Nat → Int32)) => OkD z.2.1 ∧ True)) := by
  unfold fX5_toOdd
  have ql0 : (0 : Int32).toInt = 0 := by decide
  refine sXb (s_X5_deskAt hN hK) (by decide) (by decide) (fun x2 b1 => ?_)
  obtain ⟨b1_0, -⟩ := b1
  replace b1_0 : (0 ≤ p0.toInt ∧ p0.toInt ≤ 1) := b1_0
  refine sBind (s_X4_isUnlike hN hK) (fun x7 b2 => ?_)
  obtain ⟨b2_0, b2_1, -⟩ := b2
  replace b2_0 : 0 ≤ x7.toInt := b2_0
  replace b2_1 : x7.toInt ≤ 1 := b2_1
  refine sIf (fun h3 => ?_) (fun h3 => ?_)
  · have fh3 := eqT h3
    refine sBind (s_X5_undone hN hK) (fun x14 b4 => ?_)
    obtain ⟨b4_0, b4_1, -⟩ := b4
    replace b4_0 : -9 ≤ x14.1.toInt := b4_0
    replace b4_1 : x14.1.toInt ≤ -9 := b4_1
    exact sXl ⟨(by show OkD f; first | omega | assumption), trivial⟩
  · have fh3 := eqF h3
    refine sBind (s_X4_becomeOdd hN hK (by first | assumption | exact OkD.z)) (fun x23 b5 => ?_)
    obtain ⟨b5_0, -⟩ := b5
    replace b5_0 : OkD x23 := b5_0
    refine sBind (s_X4_become hN hK (by first | assumption | exact OkD.z)) (fun x31 b6 => ?_)
    obtain ⟨b6_0, -⟩ := b6
    replace b6_0 : OkD x31 := b6_0
    refine sBind (s_X4_parts hN hK) (fun x36 b7 => ?_)
    refine sBind (s_X5_acted hN hK) (fun x39 b8 => ?_)
    exact sXl ⟨(by show OkD x31; first | omega | assumption), trivial⟩
set_option maxHeartbeats 2000000 in
theorem s_X5_copyDesk {N K : Nat} {f : Nat → Int32} {f2 : Nat → Int32} {c0 : Int32} {c1 : Int32} {c2 : Int32} {c3 : Int32} {c4 : Int32} {c5 : Int32} {p0 : Int32} (hN : NBig N) (hK : 100 ≤ K) (hp0 : OkD f) : Sf (fX5_copyDesk N K f f2 c0 c1 c2 c3 c4 c5 p0) (xP true false (fun (z : Int32 × (Nat → Int32) × Int32) => OkD z.2.1 ∧ True)) := by
  unfold fX5_copyDesk
  have ql0 : (0 : Int32).toInt = 0 := by decide
  have ql1 : (1 : Int32).toInt = 1 := by decide
  refine sXb (s_X5_deskAt hN hK) (by decide) (by decide) (fun x2 b1 => ?_)
  obtain ⟨b1_0, -⟩ := b1
  replace b1_0 : (0 ≤ p0.toInt ∧ p0.toInt ≤ 1) := b1_0
  have t2 := subI (a := (1 : Int32)) (b := p0) (by omega) (by omega)
  refine sXb (s_X5_deskAt hN hK) (by decide) (by decide) (fun x10 b3 => ?_)
  obtain ⟨b3_0, -⟩ := b3
  replace b3_0 : (0 ≤ ((1 : Int32) - p0).toInt ∧ ((1 : Int32) - p0).toInt ≤ 1) := b3_0
  refine sBind (s_X4_become hN hK (by first | assumption | exact OkD.z)) (fun x14 b4 => ?_)
  obtain ⟨b4_0, -⟩ := b4
  replace b4_0 : OkD x14 := b4_0
  refine sBind (s_X4_differentParts hN hK) (fun x19 b5 => ?_)
  refine sBind (s_X5_acted hN hK) (fun x22 b6 => ?_)
  exact sXl ⟨(by show OkD x14; first | omega | assumption), trivial⟩
set_option maxHeartbeats 2000000 in
theorem s_X5_times {N K : Nat} {f : Nat → Int32} {p0 : Int32} {p1 : Int32} (hN : NBig N) (hK : 100 ≤ K)  : Sf (fX5_times N K f p0 p1) (xP true true (fun (z : Int32) => True)) := by
  unfold fX5_times
  have ql0 : (0 : Int32).toInt = 0 := by decide
  have ql1 : (1 : Int32).toInt = 1 := by decide
  have ql20 : (20 : Int32).toInt = 20 := by decide
  refine sXb (s_X5_deskAt hN hK) (by decide) (by decide) (fun x2 b1 => ?_)
  obtain ⟨b1_0, -⟩ := b1
  replace b1_0 : (0 ≤ p0.toInt ∧ p0.toInt ≤ 1) := b1_0
  refine sXb (s_X5_checkRange hN hK (by first | omega | decide) (by first | omega | decide) (by first | omega | decide) (by first | omega | decide)) (by decide) (by decide) (fun x10 b2 => ?_)
  obtain ⟨b2_0, -⟩ := b2
  replace b2_0 : ((1 : Int32).toInt ≤ p1.toInt ∧ p1.toInt ≤ (20 : Int32).toInt) := b2_0
  refine sBind (s_X4_timesOf hN hK (by first | omega | decide) (by first | omega | decide)) (fun x15 b3 => ?_)
  exact sXl trivial
set_option maxHeartbeats 2000000 in
theorem s_X5_way {N K : Nat} {f : Nat → Int32} {p0 : Int32} {p1 : Int32} (hN : NBig N) (hK : 100 ≤ K)  : Sf (fX5_way N K f p0 p1) (xP true true (fun (z : Int32) => True)) := by
  unfold fX5_way
  have ql0 : (0 : Int32).toInt = 0 := by decide
  have ql1 : (1 : Int32).toInt = 1 := by decide
  have ql2 : (2 : Int32).toInt = 2 := by decide
  refine sXb (s_X5_deskAt hN hK) (by decide) (by decide) (fun x2 b1 => ?_)
  obtain ⟨b1_0, -⟩ := b1
  replace b1_0 : (0 ≤ p0.toInt ∧ p0.toInt ≤ 1) := b1_0
  refine sXb (s_X5_checkRange hN hK (by first | omega | decide) (by first | omega | decide) (by first | omega | decide) (by first | omega | decide)) (by decide) (by decide) (fun x9 b2 => ?_)
  obtain ⟨b2_0, -⟩ := b2
  replace b2_0 : ((0 : Int32).toInt ≤ p1.toInt ∧ p1.toInt ≤ (2 : Int32).toInt) := b2_0
  refine sIf (fun h3 => ?_) (fun h3 => ?_)
  · have fh3 := eqT h3
    refine sBind (s_X4_sum hN hK) (fun x41 b4 => ?_)
    exact sXl trivial
  · have fh3 := eqF h3
    refine sIf (fun h5 => ?_) (fun h5 => ?_)
    · have fh5 := eqT h5
      refine sBind (s_X4_parts hN hK) (fun x46 b6 => ?_)
      exact sXl trivial
    · have fh5 := eqF h5
      refine sBind (s_X4_differentParts hN hK) (fun x51 b7 => ?_)
      exact sXl trivial
set_option maxHeartbeats 2000000 in
theorem s_X5_isOf {N K : Nat} {f : Nat → Int32} {fs : Nat → Int32} {p0 : Int32} {p1 : Int32} {p2 : Int32} (hN : NBig N) (hK : 100 ≤ K) (hp0 : OkD f) : Sf (fX5_isOf N K f fs p0 p1 p2) (xP true true (fun (z : Int32 × (Nat → Int32)) => 0 ≤ z.1.toInt ∧ z.1.toInt ≤ 1 ∧ True)) := by
  unfold fX5_isOf
  have ql0 : (0 : Int32).toInt = 0 := by decide
  have ql7 : (7 : Int32).toInt = 7 := by decide
  have ql20 : (20 : Int32).toInt = 20 := by decide
  refine sXb (s_X5_deskAt hN hK) (by decide) (by decide) (fun x2 b1 => ?_)
  obtain ⟨b1_0, -⟩ := b1
  replace b1_0 : (0 ≤ p0.toInt ∧ p0.toInt ≤ 1) := b1_0
  refine sXb (s_X5_checkRange hN hK (by first | omega | decide) (by first | omega | decide) (by first | omega | decide) (by first | omega | decide)) (by decide) (by decide) (fun x11 b2 => ?_)
  obtain ⟨b2_0, -⟩ := b2
  replace b2_0 : ((0 : Int32).toInt ≤ p1.toInt ∧ p1.toInt ≤ (7 : Int32).toInt) := b2_0
  refine sXb (s_X5_checkRange hN hK (by first | omega | decide) (by first | omega | decide) (by first | omega | decide) (by first | omega | decide)) (by decide) (by decide) (fun x18 b3 => ?_)
  obtain ⟨b3_0, -⟩ := b3
  replace b3_0 : ((0 : Int32).toInt ≤ p2.toInt ∧ p2.toInt ≤ (20 : Int32).toInt) := b3_0
  refine sBind (s_X4_isOfKind hN hK (by first | omega | decide) (by first | omega | decide) (by first | omega | decide) (by first | omega | decide) (by first | assumption | exact OkD.z)) (fun x29 b4 => ?_)
  obtain ⟨b4_0, b4_1, -⟩ := b4
  replace b4_0 : 0 ≤ x29.1.toInt := b4_0
  replace b4_1 : x29.1.toInt ≤ 1 := b4_1
  refine sIfT (b01 (by omega) (by omega)) ?_
  exact sXl ⟨(by show 0 ≤ x29.1.toInt; first | omega | assumption), (by show x29.1.toInt ≤ 1; first | omega | assumption), trivial⟩
set_option maxHeartbeats 2000000 in
theorem s_X5_isSameWay {N K : Nat} {f : Nat → Int32} {f2 : Nat → Int32} (hN : NBig N) (hK : 100 ≤ K)  : Sf (fX5_isSameWay N K f f2) (xP true false (fun (z : Int32) => 0 ≤ z.toInt ∧ z.toInt ≤ 1 ∧ True)) := by
  unfold fX5_isSameWay
  have ql0 : (0 : Int32).toInt = 0 := by decide
  have ql1 : (1 : Int32).toInt = 1 := by decide
  refine sXb (s_X5_deskAt hN hK) (by decide) (by decide) (fun x2 b1 => ?_)
  obtain ⟨b1_0, -⟩ := b1
  replace b1_0 : (0 ≤ (0 : Int32).toInt ∧ (0 : Int32).toInt ≤ 1) := b1_0
  refine sXb (s_X5_deskAt hN hK) (by decide) (by decide) (fun x7 b2 => ?_)
  obtain ⟨b2_0, -⟩ := b2
  replace b2_0 : (0 ≤ (1 : Int32).toInt ∧ (1 : Int32).toInt ≤ 1) := b2_0
  refine sBind (s_X4_isLike hN hK) (fun x10 b3 => ?_)
  obtain ⟨b3_0, b3_1, -⟩ := b3
  replace b3_0 : 0 ≤ x10.toInt := b3_0
  replace b3_1 : x10.toInt ≤ 1 := b3_1
  refine sIfT (b01 (by omega) (by omega)) ?_
  exact sXl ⟨(by show 0 ≤ x10.toInt; first | omega | assumption), (by show x10.toInt ≤ 1; first | omega | assumption), trivial⟩
set_option maxHeartbeats 2000000 in
theorem s_X5_tally {N K : Nat} {c0 : Int32} {c1 : Int32} {c2 : Int32} {c3 : Int32} {c4 : Int32} {c5 : Int32} {p0 : Int32} (hN : NBig N) (hK : 100 ≤ K)  : Sf (fX5_tally N K c0 c1 c2 c3 c4 c5 p0) (xP false true (fun (z : Int32) => True)) := by
  unfold fX5_tally
  have ql0 : (0 : Int32).toInt = 0 := by decide
  have ql1 : (1 : Int32).toInt = 1 := by decide
  have ql2 : (2 : Int32).toInt = 2 := by decide
  have ql3 : (3 : Int32).toInt = 3 := by decide
  have ql4 : (4 : Int32).toInt = 4 := by decide
  have ql5 : (5 : Int32).toInt = 5 := by decide
  refine sXb (s_X5_checkRange hN hK (by first | omega | decide) (by first | omega | decide) (by first | omega | decide) (by first | omega | decide)) (by decide) (by decide) (fun x3 b1 => ?_)
  obtain ⟨b1_0, -⟩ := b1
  replace b1_0 : ((0 : Int32).toInt ≤ p0.toInt ∧ p0.toInt ≤ (5 : Int32).toInt) := b1_0
  refine sIf (fun h2 => ?_) (fun h2 => ?_)
  · have fh2 := eqT h2
    exact sXl trivial
  · have fh2 := eqF h2
    refine sIf (fun h3 => ?_) (fun h3 => ?_)
    · have fh3 := eqT h3
      exact sXl trivial
    · have fh3 := eqF h3
      refine sIf (fun h4 => ?_) (fun h4 => ?_)
      · have fh4 := eqT h4
        exact sXl trivial
      · have fh4 := eqF h4
        refine sIf (fun h5 => ?_) (fun h5 => ?_)
        · have fh5 := eqT h5
          exact sXl trivial
        · have fh5 := eqF h5
          refine sIf (fun h6 => ?_) (fun h6 => ?_)
          · have fh6 := eqT h6
            exact sXl trivial
          · have fh6 := eqF h6
            exact sXl trivial
set_option maxHeartbeats 2000000 in
theorem s_X5_knock {N K : Nat} {c0 : Int32} {c1 : Int32} {c2 : Int32} {c3 : Int32} {c4 : Int32} {c5 : Int32} (hN : NBig N) (hK : 100 ≤ K)  : Sf (fX5_knock N K c0 c1 c2 c3 c4 c5) (fun (z : Int32 × Int32) => True) := by
  unfold fX5_knock
  have ql0 : (0 : Int32).toInt = 0 := by decide
  exact sRet trivial
set_option maxHeartbeats 2000000 in
theorem s_X5_isSound {N K : Nat} {sz : Int32} {f : Nat → Int32} {c0 : Int32} {c1 : Int32} {c2 : Int32} {c3 : Int32} {c4 : Int32} {c5 : Int32} {g : Nat → Int32} {p0 : Int32} (hN : NBig N) (hK : 100 ≤ K)  : Sf (fX5_isSound N K sz f c0 c1 c2 c3 c4 c5 g p0) (xP true false (fun (z : Int32 × (Nat → Int32)) => 0 ≤ z.1.toInt ∧ z.1.toInt ≤ 1 ∧ True)) := by
  unfold fX5_isSound
  have ql0 : (0 : Int32).toInt = 0 := by decide
  have ql1 : (1 : Int32).toInt = 1 := by decide
  refine sXb (s_X5_memoryAt hN hK) (by decide) (by decide) (fun x2 b1 => ?_)
  obtain ⟨b1_0, -⟩ := b1
  replace b1_0 : (0 ≤ p0.toInt ∧ p0.toInt ≤ 2) := b1_0
  refine sBind (s_X2_agreesWith hN hK) (fun x11 b2 => ?_)
  obtain ⟨b2_0, b2_1, -⟩ := b2
  replace b2_0 : 0 ≤ x11.1.toInt := b2_0
  replace b2_1 : x11.1.toInt ≤ 1 := b2_1
  refine sIf (fun h3 => ?_) (fun h3 => ?_)
  · have fh3 := eqT h3
    exact sXl ⟨(by show 0 ≤ (0 : Int32).toInt; decide), (by show (0 : Int32).toInt ≤ 1; decide), trivial⟩
  · have fh3 := eqF h3
    refine sBind (s_X2_isWellCounted hN hK) (fun x18 b4 => ?_)
    obtain ⟨b4_0, b4_1, -⟩ := b4
    replace b4_0 : 0 ≤ x18.toInt := b4_0
    replace b4_1 : x18.toInt ≤ 1 := b4_1
    refine sIf (fun h5 => ?_) (fun h5 => ?_)
    · have fh5 := eqT h5
      exact sXl ⟨(by show 0 ≤ (0 : Int32).toInt; decide), (by show (0 : Int32).toInt ≤ 1; decide), trivial⟩
    · have fh5 := eqF h5
      refine sIf (fun h6 => ?_) (fun h6 => ?_)
      · have fh6 := eqT h6
        exact sXl ⟨(by show 0 ≤ (1 : Int32).toInt; decide), (by show (1 : Int32).toInt ≤ 1; decide), trivial⟩
      · have fh6 := eqF h6
        exact sXl ⟨(by show 0 ≤ (0 : Int32).toInt; decide), (by show (0 : Int32).toInt ≤ 1; decide), trivial⟩
set_option maxHeartbeats 2000000 in
theorem s_X5_digest {N K : Nat} {ms0 : Int32} {mf0 : Nat → Int32} {ms1 : Int32} {mf1 : Nat → Int32} {ms2 : Int32} {mf2 : Nat → Int32} {ru0 : Int32} {ls0 : Int32} {lf0 : Nat → Int32} {ru1 : Int32} {ls1 : Int32} {lf1 : Nat → Int32} {ru2 : Int32} {ls2 : Int32} {lf2 : Nat → Int32} {df0 : Nat → Int32} {df1 : Nat → Int32} {c0 : Int32} {c1 : Int32} {c2 : Int32} {c3 : Int32} {c4 : Int32} {c5 : Int32} (hN : NBig N) (hK : 100 ≤ K)  : Sf (fX5_digest N K ms0 mf0 ms1 mf1 ms2 mf2 ru0 ls0 lf0 ru1 ls1 lf1 ru2 ls2 lf2 df0 df1 c0 c1 c2 c3 c4 c5) (xP true true (fun (z : Int64) => True)) := by
  unfold fX5_digest
  have ql0 : (0 : Int32).toInt = 0 := by decide
  have ql1 : (1 : Int32).toInt = 1 := by decide
  have ql2 : (2 : Int32).toInt = 2 := by decide
  have ql3 : (3 : Int32).toInt = 3 := by decide
  have ql4 : (4 : Int32).toInt = 4 := by decide
  have ql5 : (5 : Int32).toInt = 5 := by decide
  have ql6 : (6 : Int32).toInt = 6 := by decide
  have ql7 : (7 : Int32).toInt = 7 := by decide
  have ql8 : (8 : Int32).toInt = 8 := by decide
  have ql9 : (9 : Int32).toInt = 9 := by decide
  have ql10 : (10 : Int32).toInt = 10 := by decide
  have ql11 : (11 : Int32).toInt = 11 := by decide
  have ql12 : (12 : Int32).toInt = 12 := by decide
  have ql13 : (13 : Int32).toInt = 13 := by decide
  have ql14 : (14 : Int32).toInt = 14 := by decide
  have ql15 : (15 : Int32).toInt = 15 := by decide
  have ql16 : (16 : Int32).toInt = 16 := by decide
  have ql17 : (17 : Int32).toInt = 17 := by decide
  have ql18 : (18 : Int32).toInt = 18 := by decide
  have ql19 : (19 : Int32).toInt = 19 := by decide
  have ql20 : (20 : Int32).toInt = 20 := by decide
  refine sXb (s_X5_about hN hK) (by decide) (by decide) (fun x19 b1 => ?_)
  refine sXb (s_X5_about hN hK) (by decide) (by decide) (fun x33 b2 => ?_)
  refine sXb (s_X5_about hN hK) (by decide) (by decide) (fun x19_1 b3 => ?_)
  refine sXb (s_X5_about hN hK) (by decide) (by decide) (fun x33_1 b4 => ?_)
  refine sXb (s_X5_about hN hK) (by decide) (by decide) (fun x19_2 b5 => ?_)
  refine sXb (s_X5_about hN hK) (by decide) (by decide) (fun x33_2 b6 => ?_)
  refine sXb (s_X5_ledger hN hK) (by decide) (by decide) (fun x60 b7 => ?_)
  refine sXb (s_X5_ledger hN hK) (by decide) (by decide) (fun x74 b8 => ?_)
  refine sXb (s_X5_ledger hN hK) (by decide) (by decide) (fun x60_1 b9 => ?_)
  refine sXb (s_X5_ledger hN hK) (by decide) (by decide) (fun x74_1 b10 => ?_)
  refine sXb (s_X5_ledger hN hK) (by decide) (by decide) (fun x60_2 b11 => ?_)
  refine sXb (s_X5_ledger hN hK) (by decide) (by decide) (fun x74_2 b12 => ?_)
  refine sXb (s_X5_way hN hK) (by decide) (by decide) (fun x101 b13 => ?_)
  refine sXb (s_X5_way hN hK) (by decide) (by decide) (fun x115 b14 => ?_)
  refine sXb (s_X5_times hN hK) (by decide) (by decide) (fun x140 b15 => ?_)
  refine sXb (s_X5_times hN hK) (by decide) (by decide) (fun x140_1 b16 => ?_)
  refine sXb (s_X5_times hN hK) (by decide) (by decide) (fun x140_2 b17 => ?_)
  refine sXb (s_X5_times hN hK) (by decide) (by decide) (fun x140_3 b18 => ?_)
  refine sXb (s_X5_times hN hK) (by decide) (by decide) (fun x140_4 b19 => ?_)
  refine sXb (s_X5_times hN hK) (by decide) (by decide) (fun x140_5 b20 => ?_)
  refine sXb (s_X5_times hN hK) (by decide) (by decide) (fun x140_6 b21 => ?_)
  refine sXb (s_X5_times hN hK) (by decide) (by decide) (fun x140_7 b22 => ?_)
  refine sXb (s_X5_times hN hK) (by decide) (by decide) (fun x140_8 b23 => ?_)
  refine sXb (s_X5_times hN hK) (by decide) (by decide) (fun x140_9 b24 => ?_)
  refine sXb (s_X5_times hN hK) (by decide) (by decide) (fun x140_10 b25 => ?_)
  refine sXb (s_X5_times hN hK) (by decide) (by decide) (fun x140_11 b26 => ?_)
  refine sXb (s_X5_times hN hK) (by decide) (by decide) (fun x140_12 b27 => ?_)
  refine sXb (s_X5_times hN hK) (by decide) (by decide) (fun x140_13 b28 => ?_)
  refine sXb (s_X5_times hN hK) (by decide) (by decide) (fun x140_14 b29 => ?_)
  refine sXb (s_X5_times hN hK) (by decide) (by decide) (fun x140_15 b30 => ?_)
  refine sXb (s_X5_times hN hK) (by decide) (by decide) (fun x140_16 b31 => ?_)
  refine sXb (s_X5_times hN hK) (by decide) (by decide) (fun x140_17 b32 => ?_)
  refine sXb (s_X5_times hN hK) (by decide) (by decide) (fun x140_18 b33 => ?_)
  refine sXb (s_X5_times hN hK) (by decide) (by decide) (fun x140_19 b34 => ?_)
  refine sXb (s_X5_way hN hK) (by decide) (by decide) (fun x101_1 b35 => ?_)
  refine sXb (s_X5_way hN hK) (by decide) (by decide) (fun x115_1 b36 => ?_)
  refine sXb (s_X5_times hN hK) (by decide) (by decide) (fun x140_20 b37 => ?_)
  refine sXb (s_X5_times hN hK) (by decide) (by decide) (fun x140_21 b38 => ?_)
  refine sXb (s_X5_times hN hK) (by decide) (by decide) (fun x140_22 b39 => ?_)
  refine sXb (s_X5_times hN hK) (by decide) (by decide) (fun x140_23 b40 => ?_)
  refine sXb (s_X5_times hN hK) (by decide) (by decide) (fun x140_24 b41 => ?_)
  refine sXb (s_X5_times hN hK) (by decide) (by decide) (fun x140_25 b42 => ?_)
  refine sXb (s_X5_times hN hK) (by decide) (by decide) (fun x140_26 b43 => ?_)
  refine sXb (s_X5_times hN hK) (by decide) (by decide) (fun x140_27 b44 => ?_)
  refine sXb (s_X5_times hN hK) (by decide) (by decide) (fun x140_28 b45 => ?_)
  refine sXb (s_X5_times hN hK) (by decide) (by decide) (fun x140_29 b46 => ?_)
  refine sXb (s_X5_times hN hK) (by decide) (by decide) (fun x140_30 b47 => ?_)
  refine sXb (s_X5_times hN hK) (by decide) (by decide) (fun x140_31 b48 => ?_)
  refine sXb (s_X5_times hN hK) (by decide) (by decide) (fun x140_32 b49 => ?_)
  refine sXb (s_X5_times hN hK) (by decide) (by decide) (fun x140_33 b50 => ?_)
  refine sXb (s_X5_times hN hK) (by decide) (by decide) (fun x140_34 b51 => ?_)
  refine sXb (s_X5_times hN hK) (by decide) (by decide) (fun x140_35 b52 => ?_)
  refine sXb (s_X5_times hN hK) (by decide) (by decide) (fun x140_36 b53 => ?_)
  refine sXb (s_X5_times hN hK) (by decide) (by decide) (fun x140_37 b54 => ?_)
  refine sXb (s_X5_times hN hK) (by decide) (by decide) (fun x140_38 b55 => ?_)
  refine sXb (s_X5_times hN hK) (by decide) (by decide) (fun x140_39 b56 => ?_)
  refine sXb (s_X5_tally hN hK) (by decide) (by decide) (fun x172 b57 => ?_)
  refine sXb (s_X5_tally hN hK) (by decide) (by decide) (fun x172_1 b58 => ?_)
  refine sXb (s_X5_tally hN hK) (by decide) (by decide) (fun x172_2 b59 => ?_)
  refine sXb (s_X5_tally hN hK) (by decide) (by decide) (fun x172_3 b60 => ?_)
  refine sXb (s_X5_tally hN hK) (by decide) (by decide) (fun x172_4 b61 => ?_)
  refine sXb (s_X5_tally hN hK) (by decide) (by decide) (fun x172_5 b62 => ?_)
  exact sXl trivial
set_option maxHeartbeats 2000000 in
theorem s_X7_init_78vv {N K : Nat} {th : Int32} (hN : NBig N) (hK : 100 ≤ K)  : ∀ (fu : Nat) (l5 : Int32) (e_v1 : (Nat → Int32)) (e_v2 : (Nat → Int32)) (e_v3 : (Nat → Int32)) (e_v6 : (Nat → Int32)) (e_v7 : (Nat → Int32)) (e_v8 : (Nat → Int32)) (e_v9 : (Nat → Int32)) (e_v10 : (Nat → Int32)) (e_v11 : (Nat → Int32)) (e_v12 : (Nat → Int32)), (6144 - l5.toInt).toNat < fu → 0 ≤ l5.toInt → l5.toInt ≤ 6144 → Sf (fX7_init_78vv N K th  fu l5 e_v1 e_v2 e_v3 e_v6 e_v7 e_v8 e_v9 e_v10 e_v11 e_v12) (fun (z : (Nat → Int32) × (Nat → Int32) × (Nat → Int32) × (Nat → Int32) × (Nat → Int32) × (Nat → Int32) × (Nat → Int32) × (Nat → Int32) × (Nat → Int32) × (Nat → Int32)) => True) := by
  intro fu
  induction fu with
  | zero => intro l5 e_v1 e_v2 e_v3 e_v6 e_v7 e_v8 e_v9 e_v10 e_v11 e_v12 h0 hq0 hq1; omega
  | succ fu ih =>
    intro l5 e_v1 e_v2 e_v3 e_v6 e_v7 e_v8 e_v9 e_v10 e_v11 e_v12 h0 hq0 hq1
    unfold fX7_init_78vv
    have ql0 : (0 : Int32).toInt = 0 := by decide
    have ql1 : (1 : Int32).toInt = 1 := by decide
    have ql6144 : (6144 : Int32).toInt = 6144 := by decide
    refine sIf (fun h1 => ?_) (fun h1 => ?_)
    · have fh1 := leT h1
      exact sRet trivial
    · have fh1 := leF h1
      refine sIfF (noob (by omega) (by omega)) ?_
      have t2 := addI (a := l5) (b := (1 : Int32)) (by omega) (by omega)
      exact ih _ _ _ _ _ _ _ _ _ _ _ (by omega) (by first | omega | decide) (by first | omega | decide)
set_option maxHeartbeats 2000000 in
theorem s_X7_init_78v {N K : Nat} {th : Int32} (hN : NBig N) (hK : 100 ≤ K)  : ∀ (fu : Nat) (l5 : Int32) (e_v1 : (Nat → Int32)) (e_v2 : (Nat → Int32)) (e_v3 : (Nat → Int32)) (e_v6 : (Nat → Int32)) (e_v7 : (Nat → Int32)) (e_v8 : (Nat → Int32)) (e_v9 : (Nat → Int32)) (e_v10 : (Nat → Int32)) (e_v11 : (Nat → Int32)) (e_v12 : (Nat → Int32)), (6144 - l5.toInt).toNat < fu → 0 ≤ l5.toInt → l5.toInt ≤ 6144 → Sf (fX7_init_78v N K th  fu l5 e_v1 e_v2 e_v3 e_v6 e_v7 e_v8 e_v9 e_v10 e_v11 e_v12) (fun (z : (Nat → Int32) × (Nat → Int32) × (Nat → Int32) × (Nat → Int32) × (Nat → Int32) × (Nat → Int32) × (Nat → Int32) × (Nat → Int32) × (Nat → Int32) × (Nat → Int32)) => True) := by
  intro fu
  induction fu with
  | zero => intro l5 e_v1 e_v2 e_v3 e_v6 e_v7 e_v8 e_v9 e_v10 e_v11 e_v12 h0 hq0 hq1; omega
  | succ fu ih =>
    intro l5 e_v1 e_v2 e_v3 e_v6 e_v7 e_v8 e_v9 e_v10 e_v11 e_v12 h0 hq0 hq1
    unfold fX7_init_78v
    have hN9 := hN.u
    have ql0 : (0 : Int32).toInt = 0 := by decide
    have ql1 : (1 : Int32).toInt = 1 := by decide
    have ql6144 : (6144 : Int32).toInt = 6144 := by decide
    refine sIf (fun h1 => ?_) (fun h1 => ?_)
    · have fh1 := leT h1
      exact s_X7_init_78vv  hN hK _ _ _ _ _ _ _ _ _ _ _ _ (by omega) (by first | omega | decide) (by first | omega | decide)
    · have fh1 := leF h1
      refine sIfF (noob (by omega) (by omega)) ?_
      have t2 := addI (a := l5) (b := (1 : Int32)) (by omega) (by omega)
      exact ih _ _ _ _ _ _ _ _ _ _ _ (by omega) (by first | omega | decide) (by first | omega | decide)
set_option maxHeartbeats 2000000 in
theorem s_X7_init_78 {N K : Nat} {th : Int32} (hN : NBig N) (hK : 100 ≤ K)  : ∀ (fu : Nat) (l5 : Int32) (e_v1 : (Nat → Int32)) (e_v2 : (Nat → Int32)) (e_v3 : (Nat → Int32)) (e_v6 : (Nat → Int32)) (e_v7 : (Nat → Int32)) (e_v8 : (Nat → Int32)) (e_v9 : (Nat → Int32)) (e_v10 : (Nat → Int32)) (e_v11 : (Nat → Int32)) (e_v12 : (Nat → Int32)), (6144 - l5.toInt).toNat < fu → 0 ≤ l5.toInt → l5.toInt ≤ 6144 → Sf (fX7_init_78 N K th  fu l5 e_v1 e_v2 e_v3 e_v6 e_v7 e_v8 e_v9 e_v10 e_v11 e_v12) (fun (z : (Nat → Int32) × (Nat → Int32) × (Nat → Int32) × (Nat → Int32) × (Nat → Int32) × (Nat → Int32) × (Nat → Int32) × (Nat → Int32) × (Nat → Int32) × (Nat → Int32)) => True) := by
  intro fu
  induction fu with
  | zero => intro l5 e_v1 e_v2 e_v3 e_v6 e_v7 e_v8 e_v9 e_v10 e_v11 e_v12 h0 hq0 hq1; omega
  | succ fu ih =>
    intro l5 e_v1 e_v2 e_v3 e_v6 e_v7 e_v8 e_v9 e_v10 e_v11 e_v12 h0 hq0 hq1
    unfold fX7_init_78
    have hN9 := hN.u
    have ql0 : (0 : Int32).toInt = 0 := by decide
    have ql1 : (1 : Int32).toInt = 1 := by decide
    have ql6144 : (6144 : Int32).toInt = 6144 := by decide
    refine sIf (fun h1 => ?_) (fun h1 => ?_)
    · have fh1 := leT h1
      exact s_X7_init_78v  hN hK _ _ _ _ _ _ _ _ _ _ _ _ (by omega) (by first | omega | decide) (by first | omega | decide)
    · have fh1 := leF h1
      refine sIfF (noob (by omega) (by omega)) ?_
      have t2 := addI (a := l5) (b := (1 : Int32)) (by omega) (by omega)
      exact ih _ _ _ _ _ _ _ _ _ _ _ (by omega) (by first | omega | decide) (by first | omega | decide)
set_option maxHeartbeats 2000000 in
theorem s_X7_init {N K : Nat} {th : Int32} (hN : NBig N) (hK : 100 ≤ K)  : Sf (fX7_init N K th) (fun (z : (Nat → Int32) × (Nat → Int32) × (Nat → Int32) × (Nat → Int32) × (Nat → Int32) × (Nat → Int32) × (Nat → Int32) × (Nat → Int32) × (Nat → Int32) × (Nat → Int32)) => True) := by
  unfold fX7_init
  have hN9 := hN.u
  have ql0 : (0 : Int32).toInt = 0 := by decide
  exact s_X7_init_78  hN hK _ _ _ _ _ _ _ _ _ _ _ _ (by omega) (by first | omega | decide) (by first | omega | decide)
set_option maxHeartbeats 2000000 in
theorem s_X7_isNo {N K : Nat} {p0 : Int32} {p1 : Int32} {p2 : Int32} (hN : NBig N) (hK : 100 ≤ K) (hp0 : 0 ≤ p1.toInt) (hp1 : p1.toInt ≤ 1) (hp2 : 1 ≤ p2.toInt) (hp3 : p2.toInt ≤ 20) : Sf (fX7_isNo N K p0 p1 p2) (fun (z : Int32) => 0 ≤ z.toInt ∧ z.toInt ≤ 1 ∧ (z.toInt = 0 → (p1.toInt ≤ p0.toInt ∧ p0.toInt ≤ p2.toInt)) ∧ True) := by
  unfold fX7_isNo
  have ql0 : (0 : Int32).toInt = 0 := by decide
  have ql1 : (1 : Int32).toInt = 1 := by decide
  refine sIf (fun h1 => ?_) (fun h1 => ?_)
  · have fh1 := ltT h1
    exact sRet ⟨(by show 0 ≤ (1 : Int32).toInt; decide), (by show (1 : Int32).toInt ≤ 1; decide), (by show ((1 : Int32).toInt = 0 → (p1.toInt ≤ p0.toInt ∧ p0.toInt ≤ p2.toInt)); first | omega | assumption), trivial⟩
  · have fh1 := ltF h1
    refine sIf (fun h2 => ?_) (fun h2 => ?_)
    · have fh2 := leT h2
      exact sRet ⟨(by show 0 ≤ (0 : Int32).toInt; decide), (by show (0 : Int32).toInt ≤ 1; decide), (by show ((0 : Int32).toInt = 0 → (p1.toInt ≤ p0.toInt ∧ p0.toInt ≤ p2.toInt)); first | omega | assumption), trivial⟩
    · have fh2 := leF h2
      exact sRet ⟨(by show 0 ≤ (1 : Int32).toInt; decide), (by show (1 : Int32).toInt ≤ 1; decide), (by show ((1 : Int32).toInt = 0 → (p1.toInt ≤ p0.toInt ∧ p0.toInt ≤ p2.toInt)); first | omega | assumption), trivial⟩
set_option maxHeartbeats 2000000 in
theorem s_X7_isOut {N K : Nat} {p0 : Int32} {p1 : Int32} {p2 : Int32} (hN : NBig N) (hK : 100 ≤ K)  : Sf (fX7_isOut N K p0 p1 p2) (fun (z : Int32) => 0 ≤ z.toInt ∧ z.toInt ≤ 1 ∧ (z.toInt = 0 → (0 ≤ p0.toInt ∧ p0.toInt ≤ 5)) ∧ (z.toInt = 0 → (0 ≤ p1.toInt ∧ p1.toInt ≤ 20)) ∧ (z.toInt = 0 → (0 ≤ p2.toInt ∧ p2.toInt ≤ 20)) ∧ True) := by
  unfold fX7_isOut
  have ql0 : (0 : Int32).toInt = 0 := by decide
  have ql1 : (1 : Int32).toInt = 1 := by decide
  have ql5 : (5 : Int32).toInt = 5 := by decide
  have ql20 : (20 : Int32).toInt = 20 := by decide
  refine sBind (s_X7_isNo hN hK (by first | omega | decide) (by first | omega | decide) (by first | omega | decide) (by first | omega | decide)) (fun x3 b1 => ?_)
  obtain ⟨b1_0, b1_1, b1_2, -⟩ := b1
  replace b1_0 : 0 ≤ x3.toInt := b1_0
  replace b1_1 : x3.toInt ≤ 1 := b1_1
  replace b1_2 : (x3.toInt = 0 → ((0 : Int32).toInt ≤ p0.toInt ∧ p0.toInt ≤ (5 : Int32).toInt)) := b1_2
  refine sIf (fun h2 => ?_) (fun h2 => ?_)
  · have fh2 := eqT h2
    refine sBind (s_X7_isNo hN hK (by first | omega | decide) (by first | omega | decide) (by first | omega | decide) (by first | omega | decide)) (fun x13 b3 => ?_)
    obtain ⟨b3_0, b3_1, b3_2, -⟩ := b3
    replace b3_0 : 0 ≤ x13.toInt := b3_0
    replace b3_1 : x13.toInt ≤ 1 := b3_1
    replace b3_2 : (x13.toInt = 0 → ((0 : Int32).toInt ≤ p1.toInt ∧ p1.toInt ≤ (20 : Int32).toInt)) := b3_2
    refine sIf (fun h4 => ?_) (fun h4 => ?_)
    · have fh4 := eqT h4
      refine sBind (s_X7_isNo hN hK (by first | omega | decide) (by first | omega | decide) (by first | omega | decide) (by first | omega | decide)) (fun x23 b5 => ?_)
      obtain ⟨b5_0, b5_1, b5_2, -⟩ := b5
      replace b5_0 : 0 ≤ x23.toInt := b5_0
      replace b5_1 : x23.toInt ≤ 1 := b5_1
      replace b5_2 : (x23.toInt = 0 → ((0 : Int32).toInt ≤ p2.toInt ∧ p2.toInt ≤ (20 : Int32).toInt)) := b5_2
      refine sIf (fun h6 => ?_) (fun h6 => ?_)
      · have fh6 := eqT h6
        exact sRet ⟨(by show 0 ≤ (0 : Int32).toInt; decide), (by show (0 : Int32).toInt ≤ 1; decide), (by show ((0 : Int32).toInt = 0 → (0 ≤ p0.toInt ∧ p0.toInt ≤ 5)); first | omega | assumption), (by show ((0 : Int32).toInt = 0 → (0 ≤ p1.toInt ∧ p1.toInt ≤ 20)); first | omega | assumption), (by show ((0 : Int32).toInt = 0 → (0 ≤ p2.toInt ∧ p2.toInt ≤ 20)); first | omega | assumption), trivial⟩
      · have fh6 := eqF h6
        exact sRet ⟨(by show 0 ≤ (1 : Int32).toInt; decide), (by show (1 : Int32).toInt ≤ 1; decide), (by show ((1 : Int32).toInt = 0 → (0 ≤ p0.toInt ∧ p0.toInt ≤ 5)); first | omega | assumption), (by show ((1 : Int32).toInt = 0 → (0 ≤ p1.toInt ∧ p1.toInt ≤ 20)); first | omega | assumption), (by show ((1 : Int32).toInt = 0 → (0 ≤ p2.toInt ∧ p2.toInt ≤ 20)); first | omega | assumption), trivial⟩
    · have fh4 := eqF h4
      exact sRet ⟨(by show 0 ≤ (1 : Int32).toInt; decide), (by show (1 : Int32).toInt ≤ 1; decide), (by show ((1 : Int32).toInt = 0 → (0 ≤ p0.toInt ∧ p0.toInt ≤ 5)); first | omega | assumption), (by show ((1 : Int32).toInt = 0 → (0 ≤ p1.toInt ∧ p1.toInt ≤ 20)); first | omega | assumption), (by show ((1 : Int32).toInt = 0 → (0 ≤ p2.toInt ∧ p2.toInt ≤ 20)); first | omega | assumption), trivial⟩
  · have fh2 := eqF h2
    exact sRet ⟨(by show 0 ≤ (1 : Int32).toInt; decide), (by show (1 : Int32).toInt ≤ 1; decide), (by show ((1 : Int32).toInt = 0 → (0 ≤ p0.toInt ∧ p0.toInt ≤ 5)); first | omega | assumption), (by show ((1 : Int32).toInt = 0 → (0 ≤ p1.toInt ∧ p1.toInt ≤ 20)); first | omega | assumption), (by show ((1 : Int32).toInt = 0 → (0 ≤ p2.toInt ∧ p2.toInt ≤ 20)); first | omega | assumption), trivial⟩
set_option maxHeartbeats 2000000 in
theorem s_X7_bit {N K : Nat} {p0 : Int32} (hN : NBig N) (hK : 100 ≤ K) (hp0 : 0 ≤ p0.toInt) (hp1 : p0.toInt ≤ 1) : Sf (fX7_bit N K p0) (fun (z : Int32) => 0 ≤ z.toInt ∧ z.toInt ≤ 1 ∧ True) := by
  unfold fX7_bit
  have ql0 : (0 : Int32).toInt = 0 := by decide
  have ql1 : (1 : Int32).toInt = 1 := by decide
  refine sIf (fun h1 => ?_) (fun h1 => ?_)
  · have fh1 := eqT h1
    exact sRet ⟨(by show 0 ≤ (0 : Int32).toInt; decide), (by show (0 : Int32).toInt ≤ 1; decide), trivial⟩
  · have fh1 := eqF h1
    exact sRet ⟨(by show 0 ≤ (1 : Int32).toInt; decide), (by show (1 : Int32).toInt ≤ 1; decide), trivial⟩
set_option maxHeartbeats 2000000 in
theorem s_X7_code {N K : Nat} {p0 : Int32} {p1 : Int32} {p2 : Int32} (hN : NBig N) (hK : 100 ≤ K) (hp0 : 0 ≤ p0.toInt) (hp1 : p0.toInt ≤ 5) (hp2 : 0 ≤ p1.toInt) (hp3 : p1.toInt ≤ 20) (hp4 : 0 ≤ p2.toInt) (hp5 : p2.toInt ≤ 20) : Sf (fX7_code N K p0 p1 p2) (fun (z : Int32) => 0 ≤ z.toInt ∧ z.toInt ≤ 5780 ∧ True) := by
  unfold fX7_code
  have ql0 : (0 : Int32).toInt = 0 := by decide
  have ql32 : (32 : Int32).toInt = 32 := by decide
  have ql1024 : (1024 : Int32).toInt = 1024 := by decide
  have t3 := mulL (a := (1024 : Int32)) (b := p0) ql1024 (by omega) (by omega)
  have t4 := mulL (a := (32 : Int32)) (b := p1) ql32 (by omega) (by omega)
  have t2 := addI (a := ((1024 : Int32) * p0)) (b := ((32 : Int32) * p1)) (by omega) (by omega)
  have t1 := addI (a := (((1024 : Int32) * p0) + ((32 : Int32) * p1))) (b := p2) (by omega) (by omega)
  exact sRet ⟨(by show 0 ≤ ((((1024 : Int32) * p0) + ((32 : Int32) * p1)) + p2).toInt; first | omega | assumption), (by show ((((1024 : Int32) * p0) + ((32 : Int32) * p1)) + p2).toInt ≤ 5780; first | omega | assumption), trivial⟩
set_option maxHeartbeats 2000000 in
theorem s_X7_kindOf {N K : Nat} {p0 : Int32} (hN : NBig N) (hK : 100 ≤ K) (hp0 : 0 ≤ p0.toInt) (hp1 : p0.toInt ≤ 6143) : Sf (fX7_kindOf N K p0) (fun (z : Int32) => 0 ≤ z.toInt ∧ z.toInt ≤ 5 ∧ True) := by
  unfold fX7_kindOf
  have ql0 : (0 : Int32).toInt = 0 := by decide
  have ql1024 : (1024 : Int32).toInt = 1024 := by decide
  have t1 := divL (a := p0) (b := (1024 : Int32)) ql1024 (by omega) (by omega)
  exact sRet ⟨(by show 0 ≤ (p0 / (1024 : Int32)).toInt; first | omega | assumption), (by show (p0 / (1024 : Int32)).toInt ≤ 5; first | omega | assumption), trivial⟩
set_option maxHeartbeats 2000000 in
theorem s_X7_numberOf {N K : Nat} {p0 : Int32} (hN : NBig N) (hK : 100 ≤ K) (hp0 : 0 ≤ p0.toInt) (hp1 : p0.toInt ≤ 6143) : Sf (fX7_numberOf N K p0) (fun (z : Int32) => 0 ≤ z.toInt ∧ z.toInt ≤ 31 ∧ True) := by
  unfold fX7_numberOf
  have ql0 : (0 : Int32).toInt = 0 := by decide
  have ql32 : (32 : Int32).toInt = 32 := by decide
  have t2 := divL (a := p0) (b := (32 : Int32)) ql32 (by omega) (by omega)
  have t1 := modL (a := (p0 / (32 : Int32))) (b := (32 : Int32)) ql32 (by omega)
  exact sRet ⟨(by show 0 ≤ ((p0 / (32 : Int32)) % (32 : Int32)).toInt; first | omega | assumption), (by show ((p0 / (32 : Int32)) % (32 : Int32)).toInt ≤ 31; first | omega | assumption), trivial⟩
set_option maxHeartbeats 2000000 in
theorem s_X7_measureOf {N K : Nat} {p0 : Int32} (hN : NBig N) (hK : 100 ≤ K) (hp0 : 0 ≤ p0.toInt) (hp1 : p0.toInt ≤ 6143) : Sf (fX7_measureOf N K p0) (fun (z : Int32) => 0 ≤ z.toInt ∧ z.toInt ≤ 31 ∧ True) := by
  unfold fX7_measureOf
  have ql0 : (0 : Int32).toInt = 0 := by decide
  have ql32 : (32 : Int32).toInt = 32 := by decide
  have t1 := modL (a := p0) (b := (32 : Int32)) ql32 (by omega)
  exact sRet ⟨(by show 0 ≤ (p0 % (32 : Int32)).toInt; first | omega | assumption), (by show (p0 % (32 : Int32)).toInt ≤ 31; first | omega | assumption), trivial⟩
set_option maxHeartbeats 2000000 in
theorem s_X7_rests {N K : Nat} {p0 : Int32} {p1 : Int32} (hN : NBig N) (hK : 100 ≤ K) (hp0 : -8400 ≤ p0.toInt) (hp1 : p0.toInt ≤ 20) (hp2 : 0 ≤ p1.toInt) (hp3 : p1.toInt ≤ 20) : Sf (fX7_rests N K p0 p1) (fun (z : Int32) => 0 ≤ z.toInt ∧ z.toInt ≤ 1 ∧ (z.toInt = 0 → (1 ≤ p0.toInt)) ∧ (z.toInt = 0 → p1.toInt ≠ 0) ∧ True) := by
  unfold fX7_rests
  have ql0 : (0 : Int32).toInt = 0 := by decide
  have ql1 : (1 : Int32).toInt = 1 := by decide
  refine sIf (fun h1 => ?_) (fun h1 => ?_)
  · have fh1 := leT h1
    exact sRet ⟨(by show 0 ≤ (1 : Int32).toInt; decide), (by show (1 : Int32).toInt ≤ 1; decide), (by show ((1 : Int32).toInt = 0 → (1 ≤ p0.toInt)); first | omega | assumption), (by show ((1 : Int32).toInt = 0 → p1.toInt ≠ 0); first | omega | assumption), trivial⟩
  · have fh1 := leF h1
    refine sIf (fun h2 => ?_) (fun h2 => ?_)
    · have fh2 := eqT h2
      exact sRet ⟨(by show 0 ≤ (1 : Int32).toInt; decide), (by show (1 : Int32).toInt ≤ 1; decide), (by show ((1 : Int32).toInt = 0 → (1 ≤ p0.toInt)); first | omega | assumption), (by show ((1 : Int32).toInt = 0 → p1.toInt ≠ 0); first | omega | assumption), trivial⟩
    · have fh2 := eqF h2
      exact sRet ⟨(by show 0 ≤ (0 : Int32).toInt; decide), (by show (0 : Int32).toInt ≤ 1; decide), (by show ((0 : Int32).toInt = 0 → (1 ≤ p0.toInt)); first | omega | assumption), (by show ((0 : Int32).toInt = 0 → p1.toInt ≠ 0); first | omega | assumption), trivial⟩
set_option maxHeartbeats 2000000 in
theorem s_X7_hasLeg {N K : Nat} {p0 : Int32} {p1 : Int32} {p2 : Int32} (hN : NBig N) (hK : 100 ≤ K) (hp0 : 0 ≤ p0.toInt) (hp1 : p0.toInt ≤ 5) (hp2 : 1 ≤ p1.toInt) (hp3 : p1.toInt ≤ 20) (hp4 : 0 ≤ p2.toInt) (hp5 : p2.toInt ≤ 1) : Sf (fX7_hasLeg N K p0 p1 p2) (fun (z : Int32) => 0 ≤ z.toInt ∧ z.toInt ≤ 1 ∧ True) := by
  unfold fX7_hasLeg
  have ql0 : (0 : Int32).toInt = 0 := by decide
  have ql1 : (1 : Int32).toInt = 1 := by decide
  have ql2 : (2 : Int32).toInt = 2 := by decide
  have ql3 : (3 : Int32).toInt = 3 := by decide
  have ql4 : (4 : Int32).toInt = 4 := by decide
  refine sIf (fun h1 => ?_) (fun h1 => ?_)
  · have fh1 := eqT h1
    exact sRet ⟨(by show 0 ≤ (1 : Int32).toInt; decide), (by show (1 : Int32).toInt ≤ 1; decide), trivial⟩
  · have fh1 := eqF h1
    refine sIf (fun h2 => ?_) (fun h2 => ?_)
    · have t3 := modL (a := p1) (b := (2 : Int32)) ql2 (by omega)
      have fh2 := eqT h2
      exact sRet ⟨(by show 0 ≤ (1 : Int32).toInt; decide), (by show (1 : Int32).toInt ≤ 1; decide), trivial⟩
    · have t4 := modL (a := p1) (b := (2 : Int32)) ql2 (by omega)
      have fh2 := eqF h2
      refine sIf (fun h5 => ?_) (fun h5 => ?_)
      · have fh5 := eqT h5
        exact sRet ⟨(by show 0 ≤ (0 : Int32).toInt; decide), (by show (0 : Int32).toInt ≤ 1; decide), trivial⟩
      · have fh5 := eqF h5
        refine sIf (fun h6 => ?_) (fun h6 => ?_)
        · have fh6 := eqT h6
          exact sRet ⟨(by show 0 ≤ (0 : Int32).toInt; decide), (by show (0 : Int32).toInt ≤ 1; decide), trivial⟩
        · have fh6 := eqF h6
          exact sRet ⟨(by show 0 ≤ (1 : Int32).toInt; decide), (by show (1 : Int32).toInt ≤ 1; decide), trivial⟩
set_option maxHeartbeats 2000000 in
theorem s_X7_legNumber {N K : Nat} {p0 : Int32} {p1 : Int32} {p2 : Int32} {p3 : Int32} (hN : NBig N) (hK : 100 ≤ K) (hp0 : 0 ≤ p0.toInt) (hp1 : p0.toInt ≤ 5) (hp2 : 0 ≤ p1.toInt) (hp3 : p1.toInt ≤ 20) (hp4 : 1 ≤ p2.toInt) (hp5 : p2.toInt ≤ 20) (hp6 : 0 ≤ p3.toInt) (hp7 : p3.toInt ≤ 1) : Sf (fX7_legNumber N K p0 p1 p2 p3) (fun (z : Int32) => -20 ≤ z.toInt ∧ z.toInt ≤ 20 ∧ True) := by
  unfold fX7_legNumber
  have ql0 : (0 : Int32).toInt = 0 := by decide
  have ql1 : (1 : Int32).toInt = 1 := by decide
  have ql5 : (5 : Int32).toInt = 5 := by decide
  refine sIf (fun h1 => ?_) (fun h1 => ?_)
  · have fh1 := eqT h1
    have t2 := subI (a := p1) (b := p2) (by omega) (by omega)
    exact sRet ⟨(by show -20 ≤ (p1 - p2).toInt; first | omega | assumption), (by show (p1 - p2).toInt ≤ 20; first | omega | assumption), trivial⟩
  · have fh1 := eqF h1
    refine sIf (fun h3 => ?_) (fun h3 => ?_)
    · have fh3 := eqT h3
      have t4 := subI (a := p1) (b := p2) (by omega) (by omega)
      exact sRet ⟨(by show -20 ≤ (p1 - p2).toInt; first | omega | assumption), (by show (p1 - p2).toInt ≤ 20; first | omega | assumption), trivial⟩
    · have fh3 := eqF h3
      refine sIf (fun h5 => ?_) (fun h5 => ?_)
      · have fh5 := eqT h5
        have t6 := subI (a := p1) (b := (1 : Int32)) (by omega) (by omega)
        exact sRet ⟨(by show -20 ≤ (p1 - (1 : Int32)).toInt; first | omega | assumption), (by show (p1 - (1 : Int32)).toInt ≤ 20; first | omega | assumption), trivial⟩
      · have fh5 := eqF h5
        exact sRet ⟨(by show -20 ≤ p1.toInt; first | omega | assumption), (by show p1.toInt ≤ 20; first | omega | assumption), trivial⟩
set_option maxHeartbeats 2000000 in
theorem s_X7_legMeasure_36 {N K : Nat} {p0 : Int32} {p1 : Int32} {p2 : Int32} (hN : NBig N) (hK : 100 ≤ K) (hp0 : 0 ≤ p0.toInt) (hp1 : p0.toInt ≤ 5) (hp2 : 1 ≤ p1.toInt) (hp3 : p1.toInt ≤ 20) (hp4 : 0 ≤ p2.toInt) (hp5 : p2.toInt ≤ 1) : ∀ (s0 : Int32), 0 ≤ s0.toInt → s0.toInt ≤ 1 → (s0.toInt = 0 → 0 ≤ p0.toInt ∧ p0.toInt ≤ 5 ∧ 1 ≤ p1.toInt ∧ p1.toInt ≤ 20 ∧ 0 ≤ p2.toInt ∧ p2.toInt ≤ 1) → Sf (fX7_legMeasure_36 N K p0 p1 p2  s0) (fun (z : Int32) => 0 ≤ z.toInt ∧ z.toInt ≤ 20 ∧ True) := by
  intro s0 hq0 hq1 hq2
  unfold fX7_legMeasure_36
  have ql0 : (0 : Int32).toInt = 0 := by decide
  have ql1 : (1 : Int32).toInt = 1 := by decide
  refine sIf (fun h1 => ?_) (fun h1 => ?_)
  · have fh1 := eqT h1
    have t2 := subI (a := p1) (b := (1 : Int32)) (by omega) (by omega)
    exact sRet ⟨(by show 0 ≤ (p1 - (1 : Int32)).toInt; first | omega | assumption), (by show (p1 - (1 : Int32)).toInt ≤ 20; first | omega | assumption), trivial⟩
  · have fh1 := eqF h1
    exact sRet ⟨(by show 0 ≤ p1.toInt; first | omega | assumption), (by show p1.toInt ≤ 20; first | omega | assumption), trivial⟩
set_option maxHeartbeats 2000000 in
theorem s_X7_legMeasure_31 {N K : Nat} {p0 : Int32} {p1 : Int32} {p2 : Int32} (hN : NBig N) (hK : 100 ≤ K) (hp0 : 0 ≤ p0.toInt) (hp1 : p0.toInt ≤ 5) (hp2 : 1 ≤ p1.toInt) (hp3 : p1.toInt ≤ 20) (hp4 : 0 ≤ p2.toInt) (hp5 : p2.toInt ≤ 1) : 0 ≤ p0.toInt → p0.toInt ≤ 3 → 1 ≤ p2.toInt → p2.toInt ≤ 1 → Sf (fX7_legMeasure_31 N K p0 p1 p2  ) (fun (z : Int32) => 0 ≤ z.toInt ∧ z.toInt ≤ 20 ∧ True) := by
  intro  hq0 hq1 hq2 hq3
  unfold fX7_legMeasure_31
  have ql0 : (0 : Int32).toInt = 0 := by decide
  have ql1 : (1 : Int32).toInt = 1 := by decide
  exact s_X7_legMeasure_36  hN hK (by omega) (by omega) (by omega) (by omega) (by omega) (by omega) _ (by first | omega | decide) (by first | omega | decide) (by first | omega | decide)
