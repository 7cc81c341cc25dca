/-! ===== the memories' methods on both sides ===== -/
theorem k_case1 {N K : Nat} {p0 p1 p2 : Int32} (h : Rg p0 0 5 ∧ Rg p1 0 20 ∧ Rg p2 0 20) : fX5_checkCase N K p0 p1 p2 = some (.inl ()) := by
  unfold fX5_checkCase
  rw [k_rng1 h.1, xb_l, k_rng1 h.2.1, xb_l, k_rng1 h.2.2, xb_l]
theorem k_case0 {N K : Nat} {p0 p1 p2 : Int32} (h : ¬ (Rg p0 0 5 ∧ Rg p1 0 20 ∧ Rg p2 0 20)) : fX5_checkCase N K p0 p1 p2 = some (.inr "java/lang/IllegalArgumentException") := by
  unfold fX5_checkCase
  by_cases h0 : Rg p0 0 5
  · by_cases h1 : Rg p1 0 20
    · have h2 : ¬ Rg p2 0 20 := fun z => h ⟨h0, h1, z⟩
      rw [k_rng1 h0, xb_l, k_rng1 h1, xb_l, k_rng0 h2, xb_r]
    · rw [k_rng1 h0, xb_l, k_rng0 h1, xb_r]
  · rw [k_rng0 h0, xb_r]
theorem m_oc1 {N K : Nat} {p0 p1 p2 : Int32} (h : Rg p0 0 5 ∧ Rg p1 0 20 ∧ Rg p2 0 20) : fX7_isOut N K p0 p1 p2 = some 0 := by
  unfold fX7_isOut
  rw [m_in h.1, Option.bind_some, if_pos rfl, m_in h.2.1, Option.bind_some, if_pos rfl, m_in h.2.2, Option.bind_some, if_pos rfl]
theorem m_oc0 {N K : Nat} {p0 p1 p2 : Int32} (h : ¬ (Rg p0 0 5 ∧ Rg p1 0 20 ∧ Rg p2 0 20)) : fX7_isOut N K p0 p1 p2 = some 1 := by
  unfold fX7_isOut
  by_cases h0 : Rg p0 0 5
  · rw [m_in h0, Option.bind_some, if_pos rfl]
    by_cases h1 : Rg p1 0 20
    · have h2 : ¬ Rg p2 0 20 := fun z => h ⟨h0, h1, z⟩
      rw [m_in h1, Option.bind_some, if_pos rfl, m_out h2, Option.bind_some, if_neg (by decide)]
    · rw [m_out h1, Option.bind_some, if_neg (by decide)]
  · rw [m_out h0, Option.bind_some, if_neg (by decide)]
theorem KT.tt {c0 c1 c2 c3 c4 d1 d2 d3 : Int32} {t t' : Nat → Int32} (h : TT c1 c2 c3 d1 d2 d3 t t') : KT c0 c1 c2 c3 c4 t c0 d1 d2 d3 c4 t' := by
  intro h0 h1 h2 h3 h4
  obtain ⟨⟨w, d, e, g1, g2, g3, g4, g5, g6⟩, g7⟩ := h
  exact ⟨h0.trans (g7 0 (by decide) (by decide) (by decide)).symm, by rw [g1, g2, h1], by rw [g3, g4, h2], by rw [g5, g6, h3], h4.trans (g7 4 (by decide) (by decide) (by decide)).symm, g7 5 (by decide) (by decide) (by decide)⟩
theorem few_ {N K a b : Nat} {th0 th p0 sz0 d0 d1 d2 d3 c0 c4 c5 : Int32} {f0 g0 t0 u0 : Nat → Int32} (hN : NBig N) (hK : 100 ≤ K) (ha : a ≤ 20) (hb : b ≤ 20) (hp0 : Rg p0 0 2) : ∀ n i fx fy (l sz c1 c2 c3 : Int32) (f g t u : Nat → Int32), i + n = b + 1 → n < fx → n < fy → MT sz f g → ∃ v sz' f' c1' c2' c3' g' t' u', fX5_few_27 N K sz0 f0 d0 d1 d2 d3 c4 c5 p0 (Int32.ofNat a) (Int32.ofNat b) fx l (Int32.ofNat i) sz f c0 c1 c2 c3 = some (.inl (v, sz', f', c0 + (1 : Int32), c1', c2', c3')) ∧ fX7_few_46 N K th0 g0 t0 u0 p0 (Int32.ofNat a) (Int32.ofNat b) fy l (Int32.ofNat i) th g t u = some (v, th, g', t', u') ∧ MT sz' f' g' ∧ KT c0 c1 c2 c3 c4 t (c0 + (1 : Int32)) c1' c2' c3' c4 t' := by
  intro n
  induction n with
  | zero =>
    intro i fx fy l sz c1 c2 c3 f g t u hi hx hy h
    obtain ⟨fx, rfl⟩ : ∃ m, fx = m + 1 := ⟨fx - 1, by omega⟩
    obtain ⟨fy, rfl⟩ : ∃ m, fy = m + 1 := ⟨fy - 1, by omega⟩
    refine ⟨l, sz, f, c1, c2, c3, g, dn t, u, ?_, ?_, h, KT.done⟩
    · unfold fX5_few_27
      rw [if_pos (by rw [o_lt (by omega) (by omega)]; omega), k_act, Option.bind_some]
    · unfold fX7_few_46
      rw [if_pos (by rw [o_lt (by omega) (by omega)]; omega), m_done, Option.bind_some]
  | succ n ih =>
    intro i fx fy l sz c1 c2 c3 f g t u hi hx hy h
    obtain ⟨fx, rfl⟩ : ∃ m, fx = m + 1 := ⟨fx - 1, by omega⟩
    obtain ⟨fy, rfl⟩ : ∃ m, fy = m + 1 := ⟨fy - 1, by omega⟩
    obtain ⟨v, sz1, f1, x1, x2, x3, g1, t1, u1, e1, e2, e3, e4⟩ := mt_know (N := N) (K := K) (th := th) (k := 1) (n := a) (m := i) (c0 := c0) (c1 := c1) (c2 := c2) (c3 := c3) (c4 := c4) (c5 := c5) (t := t) (u := u) hN hK (by omega) ha (by omega) hp0 h
    have e1' : fX2_recall N K sz f c0 c1 c2 c3 c4 c5 (1 : Int32) (Int32.ofNat a) (Int32.ofNat i) = some (v, sz1, f1, x1, x2, x3) := e1
    have e2' : fX7_known N K th g t u p0 (1 : Int32) (Int32.ofNat a) (Int32.ofNat i) = some (v, g1, t1, u1) := e2
    obtain ⟨v2, sz2, f2, y1, y2, y3, g2, t2, u2, r1, r2, r3, r4⟩ := ih (i + 1) fx fy (l + v) sz1 x1 x2 x3 f1 g1 t1 u1 (by omega) (by omega) (by omega) e3
    refine ⟨v2, sz2, f2, y1, y2, y3, g2, t2, u2, ?_, ?_, r3, (KT.tt e4).trans r4⟩
    · unfold fX5_few_27
      rw [if_neg (by rw [o_lt (by omega) (by omega)]; omega), e1', Option.bind_some, o_1]
      exact r1
    · unfold fX7_few_46
      rw [if_neg (by rw [o_lt (by omega) (by omega)]; omega), e2', Option.bind_some, o_1]
      exact r2
theorem neg1 (v : Int32) : (-1 : Int32) * v = -v := by
  rw [show (-1 : Int32) = -(1 : Int32) from by decide, Int32.neg_mul, Int32.one_mul]
theorem sur_ {N K a : Nat} {th0 th p0 sz0 d0 d1 d2 d3 c0 c4 c5 : Int32} {f0 g0 t0 u0 : Nat → Int32} (hN : NBig N) (hK : 100 ≤ K) (ha : a ≤ 20) (hp0 : Rg p0 0 2) : ∀ n i fx fy (l sz c1 c2 c3 : Int32) (f g t u : Nat → Int32), i + n = a + 1 → n < fx → n < fy → MT sz f g → ∃ v sz' f' c1' c2' c3' g' t' u', fX5_surplus_19 N K sz0 f0 d0 d1 d2 d3 c4 c5 p0 (Int32.ofNat a) fx l (Int32.ofNat i) sz f c0 c1 c2 c3 = some (.inl (v, sz', f', c0 + (1 : Int32), c1', c2', c3')) ∧ fX7_surplus_27 N K th0 g0 t0 u0 p0 (Int32.ofNat a) fy l (Int32.ofNat i) th g t u = some (v, th, g', t', u') ∧ MT sz' f' g' ∧ KT c0 c1 c2 c3 c4 t (c0 + (1 : Int32)) c1' c2' c3' c4 t' := by
  intro n
  induction n with
  | zero =>
    intro i fx fy l sz c1 c2 c3 f g t u hi hx hy h
    obtain ⟨fx, rfl⟩ : ∃ m, fx = m + 1 := ⟨fx - 1, by omega⟩
    obtain ⟨fy, rfl⟩ : ∃ m, fy = m + 1 := ⟨fy - 1, by omega⟩
    refine ⟨l, sz, f, c1, c2, c3, g, dn t, u, ?_, ?_, h, KT.done⟩
    · unfold fX5_surplus_19
      rw [if_pos (by rw [o_lt (by omega) (by omega)]; omega), k_act, Option.bind_some]
    · unfold fX7_surplus_27
      rw [if_pos (by rw [o_lt (by omega) (by omega)]; omega), m_done, Option.bind_some]
  | succ n ih =>
    intro i fx fy l sz c1 c2 c3 f g t u hi hx hy h
    obtain ⟨fx, rfl⟩ : ∃ m, fx = m + 1 := ⟨fx - 1, by omega⟩
    obtain ⟨fy, rfl⟩ : ∃ m, fy = m + 1 := ⟨fy - 1, by omega⟩
    obtain ⟨v, sz1, f1, x1, x2, x3, g1, t1, u1, e1, e2, e3, e4⟩ := mt_know (N := N) (K := K) (th := th) (k := 5) (n := a) (m := i) (c0 := c0) (c1 := c1) (c2 := c2) (c3 := c3) (c4 := c4) (c5 := c5) (t := t) (u := u) hN hK (by omega) ha (by omega) hp0 h
    have e1' : fX2_recall N K sz f c0 c1 c2 c3 c4 c5 (5 : Int32) (Int32.ofNat a) (Int32.ofNat i) = some (v, sz1, f1, x1, x2, x3) := e1
    have e2' : fX7_known N K th g t u p0 (5 : Int32) (Int32.ofNat a) (Int32.ofNat i) = some (v, g1, t1, u1) := e2
    by_cases par : i % 2 = 0
    · obtain ⟨v2, sz2, f2, y1, y2, y3, g2, t2, u2, r1, r2, r3, r4⟩ := ih (i + 1) fx fy (l + v) sz1 x1 x2 x3 f1 g1 t1 u1 (by omega) (by omega) (by omega) e3
      refine ⟨v2, sz2, f2, y1, y2, y3, g2, t2, u2, ?_, ?_, r3, (KT.tt e4).trans r4⟩
      · unfold fX5_surplus_19
        rw [if_neg (by rw [o_lt (by omega) (by omega)]; omega), e1', Option.bind_some, if_pos (by rw [o_par (by omega)]; exact par)]
        unfold fX5_surplus_56
        rw [o_1]
        exact r1
      · unfold fX7_surplus_27
        rw [if_neg (by rw [o_lt (by omega) (by omega)]; omega), if_pos (by rw [o_par (by omega)]; exact par)]
        unfold fX7_surplus_46
        rw [e2', Option.bind_some, o_1, Int32.one_mul]
        exact r2
    · obtain ⟨v2, sz2, f2, y1, y2, y3, g2, t2, u2, r1, r2, r3, r4⟩ := ih (i + 1) fx fy (l + -v) sz1 x1 x2 x3 f1 g1 t1 u1 (by omega) (by omega) (by omega) e3
      refine ⟨v2, sz2, f2, y1, y2, y3, g2, t2, u2, ?_, ?_, r3, (KT.tt e4).trans r4⟩
      · unfold fX5_surplus_19
        rw [if_neg (by rw [o_lt (by omega) (by omega)]; omega), e1', Option.bind_some, if_neg (by rw [o_par (by omega)]; exact par)]
        unfold fX5_surplus_56
        rw [o_1]
        exact r1
      · unfold fX7_surplus_27
        rw [if_neg (by rw [o_lt (by omega) (by omega)]; omega), if_neg (by rw [o_par (by omega)]; exact par)]
        unfold fX7_surplus_46
        rw [e2', Option.bind_some, o_1, neg1]
        exact r2
theorem o_dec {a : Nat} (h : 1 ≤ a) : Int32.ofNat a + (-1 : Int32) = Int32.ofNat (a - 1) := by
  obtain ⟨b, rfl⟩ : ∃ b, a = b + 1 := ⟨a - 1, by omega⟩
  rw [o_m1, Nat.add_sub_cancel]
theorem pl1_ {N K p : Nat} {th0 th p0 p1 sz0 d0 d1 d2 d3 c0 c4 c5 : Int32} {f0 fd0 g0 gd0 t0 u0 : Nat → Int32} (hN : NBig N) (hK : 100 ≤ K) (h1 : 1 ≤ p) (hp : p ≤ 20) (hp0 : Rg p0 0 2)
    {kx : Int32 → Int32 → Int32 → Int32 → Int32 → (Nat → Int32) → Int32 → Int32 → Int32 → Int32 → Option ((Int32 × Int32 × (Nat → Int32) × Int32 × Int32 × Int32 × Int32) ⊕ String)} {ky : Int32 → Int32 → Int32 → Int32 → Int32 → (Nat → Int32) → (Nat → Int32) → (Nat → Int32) → Option (Int32 × Int32 × (Nat → Int32) × (Nat → Int32) × (Nat → Int32))} :
    ∀ l r fx fy b (a sz c1 c2 c3 : Int32) (f g t u : Nat → Int32), r + p * l ≤ 20 → b ≤ 20 → l < fx → l < fy → MT sz f g → ∃ b' a' sz' f' c1' c2' c3' g' t' u', fX5_place_46 N K sz0 f0 fd0 d0 d1 d2 d3 c4 c5 p0 p1 kx fx (Int32.ofNat (r + p * l)) (Int32.ofNat b) a (Int32.ofNat p) (Int32.ofNat l) sz f c0 c1 c2 c3 = kx (Int32.ofNat r) (Int32.ofNat b') a' (Int32.ofNat (p - 1)) sz' f' c0 c1' c2' c3' ∧ fX7_place_69 N K th0 g0 gd0 t0 u0 p0 p1 ky fy (Int32.ofNat (r + p * l)) (Int32.ofNat b) a (Int32.ofNat p) (Int32.ofNat l) th g t u = ky (Int32.ofNat r) (Int32.ofNat b') a' (Int32.ofNat (p - 1)) th g' t' u' ∧ b' ≤ 20 ∧ MT sz' f' g' ∧ TT c1 c2 c3 c1' c2' c3' t t' := by
  intro l
  induction l with
  | zero =>
    intro r fx fy b a sz c1 c2 c3 f g t u hr hb hx hy h
    obtain ⟨fx, rfl⟩ : ∃ m, fx = m + 1 := ⟨fx - 1, by omega⟩
    obtain ⟨fy, rfl⟩ : ∃ m, fy = m + 1 := ⟨fy - 1, by omega⟩
    refine ⟨b, a, sz, f, c1, c2, c3, g, t, u, ?_, ?_, hb, h, TT.r⟩
    · unfold fX5_place_46
      rw [if_pos (by decide), o_dec h1]
      rfl
    · unfold fX7_place_69
      rw [if_pos (by decide), o_dec h1]
      rfl
  | succ l ih =>
    intro r fx fy b a sz c1 c2 c3 f g t u hr hb hx hy h
    obtain ⟨fx, rfl⟩ : ∃ m, fx = m + 1 := ⟨fx - 1, by omega⟩
    obtain ⟨fy, rfl⟩ : ∃ m, fy = m + 1 := ⟨fy - 1, by omega⟩
    have hm : p * (l + 1) = p * l + p := Nat.mul_succ p l
    have hl : l ≤ p * l := Nat.le_mul_of_pos_left _ (by omega)
    obtain ⟨v, sz1, f1, x1, x2, x3, g1, t1, u1, e1, e2, e3, e4⟩ := mt_know (N := N) (K := K) (th := th) (k := 0) (n := r + p * (l + 1)) (m := b) (c0 := c0) (c1 := c1) (c2 := c2) (c3 := c3) (c4 := c4) (c5 := c5) (t := t) (u := u) hN hK (by omega) hr hb hp0 h
    obtain ⟨v2, sz2, f2, y1, y2, y3, g2, t2, u2, i1, i2, i3, i4⟩ := mt_know (N := N) (K := K) (th := th) (k := 0) (n := r + p * (l + 1)) (m := p) (c0 := c0) (c1 := x1) (c2 := x2) (c3 := x3) (c4 := c4) (c5 := c5) (t := t1) (u := u1) hN hK (by omega) hr hp hp0 e3
    have e1' : fX2_recall N K sz f c0 c1 c2 c3 c4 c5 (0 : Int32) (Int32.ofNat (r + p * (l + 1))) (Int32.ofNat b) = some (v, sz1, f1, x1, x2, x3) := e1
    have e2' : fX7_known N K th g t u p0 (0 : Int32) (Int32.ofNat (r + p * (l + 1))) (Int32.ofNat b) = some (v, g1, t1, u1) := e2
    have i1' : fX2_recall N K sz1 f1 c0 x1 x2 x3 c4 c5 (0 : Int32) (Int32.ofNat (r + p * (l + 1))) (Int32.ofNat p) = some (v2, sz2, f2, y1, y2, y3) := i1
    have i2' : fX7_known N K th g1 t1 u1 p0 (0 : Int32) (Int32.ofNat (r + p * (l + 1))) (Int32.ofNat p) = some (v2, g2, t2, u2) := i2
    have hs : Int32.ofNat (r + p * (l + 1)) - Int32.ofNat p = Int32.ofNat (r + p * l) := by rw [o_sub (by omega), show r + p * (l + 1) - p = r + p * l from by omega]
    obtain ⟨b', a', sz', f', c1', c2', c3', g', t', u', r1, r2, r3, r4, r5⟩ := ih r fx fy p (a + v - v2) sz2 y1 y2 y3 f2 g2 t2 u2 (by omega) hp (by omega) (by omega) i3
    refine ⟨b', a', sz', f', c1', c2', c3', g', t', u', ?_, ?_, r3, r4, (e4.trans i4).trans r5⟩
    · unfold fX5_place_46
      rw [if_neg (o_0lt (by omega) (by omega)), e1', Option.bind_some, i1', Option.bind_some, hs, o_m1]
      exact r1
    · unfold fX7_place_69
      rw [if_neg (o_0lt (by omega) (by omega)), e2', Option.bind_some, i2', Option.bind_some, hs, o_m1]
      exact r2
theorem pl_ {N K : Nat} {th0 th p0 p1 sz0 d0 d1 d2 d3 c0 c4 c5 : Int32} {f0 fd g0 gd t0 u0 : Nat → Int32} {w : Nat → Nat} (hN : NBig N) (hK : 100 ≤ K) (hp0 : Rg p0 0 2) (hp1 : Rg p1 0 1) (hf : Dk fd w) (hg : Dk gd w) :
    ∀ j fx fy b (a sz c1 c2 c3 : Int32) (f g t u : Nat → Int32), j ≤ 20 → b ≤ 20 → j < fx → j < fy → MT sz f g → ∃ v sz' f' c1' c2' c3' g' t' u', fX5_place_31 N K sz0 f0 fd d0 d1 d2 d3 c4 c5 p0 p1 fx (Int32.ofNat (sm (fun q => q * w q) j)) (Int32.ofNat b) a (Int32.ofNat j) sz f c0 c1 c2 c3 = some (.inl (v, sz', f', c0 + (1 : Int32), c1', c2', c3')) ∧ fX7_place_53 N K th0 g0 gd t0 u0 p0 p1 fy (Int32.ofNat (sm (fun q => q * w q) j)) (Int32.ofNat b) a (Int32.ofNat j) th g t u = some (v, th, g', t', u') ∧ MT sz' f' g' ∧ KT c0 c1 c2 c3 c4 t (c0 + (1 : Int32)) c1' c2' c3' c4 t' := by
  have hN9 := hN.u
  intro j
  induction j with
  | zero =>
    intro fx fy b a sz c1 c2 c3 f g t u hj hb hx hy h
    obtain ⟨fx, rfl⟩ : ∃ m, fx = m + 1 := ⟨fx - 1, by omega⟩
    obtain ⟨fy, rfl⟩ : ∃ m, fy = m + 1 := ⟨fy - 1, by omega⟩
    refine ⟨a, sz, f, c1, c2, c3, g, dn t, u, ?_, ?_, h, KT.done⟩
    · unfold fX5_place_31
      rw [if_pos (by decide), k_act, Option.bind_some]
    · unfold fX7_place_53
      rw [if_pos (by decide), m_done, Option.bind_some]
  | succ j ih =>
    intro fx fy b a sz c1 c2 c3 f g t u hj hb hx hy h
    obtain ⟨fx, rfl⟩ : ∃ m, fx = m + 1 := ⟨fx - 1, by omega⟩
    obtain ⟨fy, rfl⟩ : ∃ m, fy = m + 1 := ⟨fy - 1, by omega⟩
    have es : sm (fun q => q * w q) (j + 1) = sm (fun q => q * w q) j + (j + 1) * w (j + 1) := rfl
    have hle : sm (fun q => q * w q) (j + 1) ≤ wn w := sm_mono (by omega)
    have hwn := hf.1
    have hw1 := wn_le1 (w := w) (p := j + 1) (by omega) (by omega)
    rw [es] at hle ⊢
    obtain ⟨b', a', sz1, f1, x1, x2, x3, g1, t1, u1, e1, e2, e3, e4, e5⟩ := pl1_ (N := N) (K := K) (p := j + 1) (th0 := th0) (th := th) (p0 := p0) (p1 := p1) (sz0 := sz0) (d0 := d0) (d1 := d1) (d2 := d2) (d3 := d3) (c0 := c0) (c4 := c4) (c5 := c5) (f0 := f0) (fd0 := fd) (g0 := g0) (gd0 := gd) (t0 := t0) (u0 := u0) hN hK (by omega) hj hp0 (kx := fX5_place_31 N K sz0 f0 fd d0 d1 d2 d3 c4 c5 p0 p1 fx) (ky := fX7_place_53 N K th0 g0 gd t0 u0 p0 p1 fy) (w (j + 1)) (sm (fun q => q * w q) j) N N b a sz c1 c2 c3 f g t u (by omega) hb (by omega) (by omega) h
    obtain ⟨v, sz', f', c1', c2', c3', g', t', u', r1, r2, r3, r4⟩ := ih fx fy b' a' sz1 x1 x2 x3 f1 g1 t1 u1 (by omega) e3 (by omega) (by omega) e4
    refine ⟨v, sz', f', c1', c2', c3', g', t', u', ?_, ?_, r3, (KT.tt e5).trans r4⟩
    · unfold fX5_place_31
      rw [if_neg (o_1le (by omega) (by omega)), c_times hf.2 (by omega) hj, Option.bind_some]
      exact e1.trans r1
    · unfold fX7_place_53
      rw [if_neg (o_0lt (by omega) (by omega)), if_neg hp1.dd, if_neg (o_ob (by omega) (by omega)), o_c (by omega), hg.2 (j + 1) (by omega) hj]
      exact e2.trans r2
theorem ty_know {N K : Nat} {th sz c0 c1 c2 c3 c4 c5 p0 p1 p2 p3 : Int32} {f g t u : Nat → Int32} (hN : NBig N) (hK : 100 ≤ K) (h : MT sz f g) : ∃ o y, fX5_know N K sz f c0 c1 c2 c3 c4 c5 p0 p1 p2 p3 = some o ∧ fX7_know N K th g t u p0 p1 p2 p3 = some y ∧ Ti true o y.2.1 (fun z => z.1 = y.1 ∧ MT z.2.1 z.2.2.1 y.2.2.1 ∧ KT c0 c1 c2 c3 c4 t z.2.2.2.1 z.2.2.2.2.1 z.2.2.2.2.2.1 z.2.2.2.2.2.2 c4 y.2.2.2.1) (y.2.2.1 = g ∧ y.2.2.2.1 = t) := by
  have hN9 := hN.u
  have hN1 : 100 ≤ N := by omega
  by_cases d : Rg p0 0 2
  · by_cases q : (Rg p1 0 5 ∧ Rg p2 0 20 ∧ Rg p3 0 20)
    · obtain ⟨k, rfl, -, k2⟩ := Rg.n (a := 0) (b := 5) q.1 (by omega) (by omega)
      obtain ⟨n, rfl, -, n2⟩ := Rg.n (a := 0) (b := 20) q.2.1 (by omega) (by omega)
      obtain ⟨m, rfl, -, m2⟩ := Rg.n (a := 0) (b := 20) q.2.2 (by omega) (by omega)
      have hk : k < 6 := by omega
      have hsl := sl_lt hk n2 m2
      have hcd := cd_lt hk n2 m2
      have hgf := h.2.2.1 k n m hk n2 m2
      have hcell := h.cell hk n2 m2
      obtain ⟨v, sz', f', c1', c2', c3', g', t', u', e1, e2, e3, e4⟩ := mt_know (N := N) (K := K) (th := (0 : Int32)) (c0 := c0) (c1 := c1) (c2 := c2) (c3 := c3) (c4 := c4) (c5 := c5) (t := t) (u := u) hN hK hk n2 m2 d h
      refine ⟨.inl (v, sz', f', c0 + (1 : Int32), c1', c2', c3'), (v, 0, g', dn t', u'), ?_, ?_, rfl, rfl, e3, (KT.tt e4).trans KT.done⟩
      · unfold fX5_know
        rw [k_mem1 d, xb_l, k_case1 q, xb_l]
        rw [e1, Option.bind_some, k_act, Option.bind_some]
      · unfold fX7_know
        rw [m_in d, Option.bind_some, m_oc1 q, Option.bind_some]
        rw [m_th00, Option.bind_some, if_pos rfl]
        rw [e2, Option.bind_some, m_done, Option.bind_some]
    · refine ⟨(.inr "java/lang/IllegalArgumentException"), ((0 : Int32), 2, g, t, u), ?_, ?_, Or.inr ⟨rfl, rfl, rfl⟩, ⟨rfl, rfl⟩⟩
      · unfold fX5_know
        rw [k_mem1 d, xb_l, k_case0 q, xb_r]
      · unfold fX7_know
        rw [m_in d, Option.bind_some, m_oc0 q, Option.bind_some]
        rw [m_th01, Option.bind_some, if_neg (by decide)]
  · by_cases q : (Rg p1 0 5 ∧ Rg p2 0 20 ∧ Rg p3 0 20)
    · refine ⟨(.inr "java/lang/IndexOutOfBoundsException"), ((0 : Int32), 1, g, t, u), ?_, ?_, Or.inl ⟨rfl, rfl⟩, ⟨rfl, rfl⟩⟩
      · unfold fX5_know
        rw [k_mem0 d, xb_r]
      · unfold fX7_know
        rw [m_out d, Option.bind_some, m_oc1 q, Option.bind_some]
        rw [m_th1, Option.bind_some, if_neg (by decide)]
    · refine ⟨(.inr "java/lang/IndexOutOfBoundsException"), ((0 : Int32), 1, g, t, u), ?_, ?_, Or.inl ⟨rfl, rfl⟩, ⟨rfl, rfl⟩⟩
      · unfold fX5_know
        rw [k_mem0 d, xb_r]
      · unfold fX7_know
        rw [m_out d, Option.bind_some, m_oc0 q, Option.bind_some]
        rw [m_th1, Option.bind_some, if_neg (by decide)]
theorem ty_few {N K : Nat} {th sz c0 c1 c2 c3 c4 c5 p0 p1 p2 : Int32} {f g t u : Nat → Int32} (hN : NBig N) (hK : 100 ≤ K) (h : MT sz f g) : ∃ o y, fX5_few N K sz f c0 c1 c2 c3 c4 c5 p0 p1 p2 = some o ∧ fX7_few N K th g t u p0 p1 p2 = some y ∧ Ti true o y.2.1 (fun z => z.1 = y.1 ∧ MT z.2.1 z.2.2.1 y.2.2.1 ∧ KT c0 c1 c2 c3 c4 t z.2.2.2.1 z.2.2.2.2.1 z.2.2.2.2.2.1 z.2.2.2.2.2.2 c4 y.2.2.2.1) (y.2.2.1 = g ∧ y.2.2.2.1 = t) := by
  have hN9 := hN.u
  have hN1 : 100 ≤ N := by omega
  by_cases d : Rg p0 0 2
  · by_cases q : Rg p1 0 20
    · by_cases r : Rg p2 0 20
      · obtain ⟨a, rfl, -, a2⟩ := Rg.n (a := 0) (b := 20) q (by omega) (by omega)
        obtain ⟨b, rfl, -, b2⟩ := Rg.n (a := 0) (b := 20) r (by omega) (by omega)
        obtain ⟨v, sz', f', c1', c2', c3', g', t', u', e1, e2, e3, e4⟩ := few_ (N := N) (K := K) (th0 := th) (th := (0 : Int32)) (sz0 := sz) (d0 := c0) (d1 := c1) (d2 := c2) (d3 := c3) (c0 := c0) (c4 := c4) (c5 := c5) (f0 := f) (g0 := g) (t0 := t) (u0 := u) hN hK a2 b2 d (b + 1) 0 N N 0 sz c1 c2 c3 f g t u (by omega) (by omega) (by omega) h
        refine ⟨.inl (v, sz', f', c0 + (1 : Int32), c1', c2', c3'), (v, 0, g', t', u'), ?_, ?_, rfl, rfl, e3, e4⟩
        · unfold fX5_few
          rw [k_mem1 d, xb_l, k_rng1 q, xb_l, k_rng1 r, xb_l]
          exact e1
        · unfold fX7_few
          rw [m_in d, Option.bind_some, m_in q, Option.bind_some, if_pos rfl, m_in r, Option.bind_some, if_pos rfl]
          unfold fX7_few_32
          rw [m_th00, Option.bind_some, if_pos rfl]
          exact e2
      · refine ⟨(.inr "java/lang/IllegalArgumentException"), ((0 : Int32), 2, g, t, u), ?_, ?_, Or.inr ⟨rfl, rfl, rfl⟩, ⟨rfl, rfl⟩⟩
        · unfold fX5_few
          rw [k_mem1 d, xb_l, k_rng1 q, xb_l, k_rng0 r, xb_r]
        · unfold fX7_few
          rw [m_in d, Option.bind_some, m_in q, Option.bind_some, if_pos rfl, m_out r, Option.bind_some, if_neg (by decide)]
          unfold fX7_few_27 fX7_few_32
          rw [m_th01, Option.bind_some, if_neg (by decide)]
    · by_cases r : Rg p2 0 20
      · refine ⟨(.inr "java/lang/IllegalArgumentException"), ((0 : Int32), 2, g, t, u), ?_, ?_, Or.inr ⟨rfl, rfl, rfl⟩, ⟨rfl, rfl⟩⟩
        · unfold fX5_few
          rw [k_mem1 d, xb_l, k_rng0 q, xb_r]
        · unfold fX7_few
          rw [m_in d, Option.bind_some, m_out q, Option.bind_some, if_neg (by decide)]
          unfold fX7_few_27 fX7_few_32
          rw [m_th01, Option.bind_some, if_neg (by decide)]
      · refine ⟨(.inr "java/lang/IllegalArgumentException"), ((0 : Int32), 2, g, t, u), ?_, ?_, Or.inr ⟨rfl, rfl, rfl⟩, ⟨rfl, rfl⟩⟩
        · unfold fX5_few
          rw [k_mem1 d, xb_l, k_rng0 q, xb_r]
        · unfold fX7_few
          rw [m_in d, Option.bind_some, m_out q, Option.bind_some, if_neg (by decide)]
          unfold fX7_few_27 fX7_few_32
          rw [m_th01, Option.bind_some, if_neg (by decide)]
  · by_cases q : Rg p1 0 20
    · by_cases r : Rg p2 0 20
      · refine ⟨(.inr "java/lang/IndexOutOfBoundsException"), ((0 : Int32), 1, g, t, u), ?_, ?_, Or.inl ⟨rfl, rfl⟩, ⟨rfl, rfl⟩⟩
        · unfold fX5_few
          rw [k_mem0 d, xb_r]
        · unfold fX7_few
          rw [m_out d, Option.bind_some, m_in q, Option.bind_some, if_pos rfl, m_in r, Option.bind_some, if_pos rfl]
          unfold fX7_few_32
          rw [m_th1, Option.bind_some, if_neg (by decide)]
      · refine ⟨(.inr "java/lang/IndexOutOfBoundsException"), ((0 : Int32), 1, g, t, u), ?_, ?_, Or.inl ⟨rfl, rfl⟩, ⟨rfl, rfl⟩⟩
        · unfold fX5_few
          rw [k_mem0 d, xb_r]
        · unfold fX7_few
          rw [m_out d, Option.bind_some, m_in q, Option.bind_some, if_pos rfl, m_out r, Option.bind_some, if_neg (by decide)]
          unfold fX7_few_27 fX7_few_32
          rw [m_th1, Option.bind_some, if_neg (by decide)]
    · by_cases r : Rg p2 0 20
      · refine ⟨(.inr "java/lang/IndexOutOfBoundsException"), ((0 : Int32), 1, g, t, u), ?_, ?_, Or.inl ⟨rfl, rfl⟩, ⟨rfl, rfl⟩⟩
        · unfold fX5_few
          rw [k_mem0 d, xb_r]
        · unfold fX7_few
          rw [m_out d, Option.bind_some, m_out q, Option.bind_some, if_neg (by decide)]
          unfold fX7_few_27 fX7_few_32
          rw [m_th1, Option.bind_some, if_neg (by decide)]
      · refine ⟨(.inr "java/lang/IndexOutOfBoundsException"), ((0 : Int32), 1, g, t, u), ?_, ?_, Or.inl ⟨rfl, rfl⟩, ⟨rfl, rfl⟩⟩
        · unfold fX5_few
          rw [k_mem0 d, xb_r]
        · unfold fX7_few
          rw [m_out d, Option.bind_some, m_out q, Option.bind_some, if_neg (by decide)]
          unfold fX7_few_27 fX7_few_32
          rw [m_th1, Option.bind_some, if_neg (by decide)]
theorem ty_surplus {N K : Nat} {th sz c0 c1 c2 c3 c4 c5 p0 p1 : Int32} {f g t u : Nat → Int32} (hN : NBig N) (hK : 100 ≤ K) (h : MT sz f g) : ∃ o y, fX5_surplus N K sz f c0 c1 c2 c3 c4 c5 p0 p1 = some o ∧ fX7_surplus N K th g t u p0 p1 = some y ∧ Ti true o y.2.1 (fun z => z.1 = y.1 ∧ MT z.2.1 z.2.2.1 y.2.2.1 ∧ KT c0 c1 c2 c3 c4 t z.2.2.2.1 z.2.2.2.2.1 z.2.2.2.2.2.1 z.2.2.2.2.2.2 c4 y.2.2.2.1) (y.2.2.1 = g ∧ y.2.2.2.1 = t) := by
  have hN9 := hN.u
  have hN1 : 100 ≤ N := by omega
  by_cases d : Rg p0 0 2
  · by_cases q : Rg p1 0 20
    · obtain ⟨a, rfl, -, a2⟩ := Rg.n (a := 0) (b := 20) q (by omega) (by omega)
      obtain ⟨v, sz', f', c1', c2', c3', g', t', u', e1, e2, e3, e4⟩ := sur_ (N := N) (K := K) (th0 := th) (th := (0 : Int32)) (sz0 := sz) (d0 := c0) (d1 := c1) (d2 := c2) (d3 := c3) (c0 := c0) (c4 := c4) (c5 := c5) (f0 := f) (g0 := g) (t0 := t) (u0 := u) hN hK a2 d (a + 1) 0 N N 0 sz c1 c2 c3 f g t u (by omega) (by omega) (by omega) h
      refine ⟨.inl (v, sz', f', c0 + (1 : Int32), c1', c2', c3'), (v, 0, g', t', u'), ?_, ?_, rfl, rfl, e3, e4⟩
      · unfold fX5_surplus
        rw [k_mem1 d, xb_l, k_rng1 q, xb_l]
        exact e1
      · unfold fX7_surplus
        rw [m_in d, Option.bind_some, m_in q, Option.bind_some]
        rw [m_th00, Option.bind_some, if_pos rfl]
        exact e2
    · refine ⟨(.inr "java/lang/IllegalArgumentException"), ((0 : Int32), 2, g, t, u), ?_, ?_, Or.inr ⟨rfl, rfl, rfl⟩, ⟨rfl, rfl⟩⟩
      · unfold fX5_surplus
        rw [k_mem1 d, xb_l, k_rng0 q, xb_r]
      · unfold fX7_surplus
        rw [m_in d, Option.bind_some, m_out q, Option.bind_some]
        rw [m_th01, Option.bind_some, if_neg (by decide)]
  · by_cases q : Rg p1 0 20
    · refine ⟨(.inr "java/lang/IndexOutOfBoundsException"), ((0 : Int32), 1, g, t, u), ?_, ?_, Or.inl ⟨rfl, rfl⟩, ⟨rfl, rfl⟩⟩
      · unfold fX5_surplus
        rw [k_mem0 d, xb_r]
      · unfold fX7_surplus
        rw [m_out d, Option.bind_some, m_in q, Option.bind_some]
        rw [m_th1, Option.bind_some, if_neg (by decide)]
    · refine ⟨(.inr "java/lang/IndexOutOfBoundsException"), ((0 : Int32), 1, g, t, u), ?_, ?_, Or.inl ⟨rfl, rfl⟩, ⟨rfl, rfl⟩⟩
      · unfold fX5_surplus
        rw [k_mem0 d, xb_r]
      · unfold fX7_surplus
        rw [m_out d, Option.bind_some, m_out q, Option.bind_some]
        rw [m_th1, Option.bind_some, if_neg (by decide)]
theorem ty_place {N K : Nat} {th sz c0 c1 c2 c3 c4 c5 p0 p1 : Int32} {f g t u fd gd : Nat → Int32} (hN : NBig N) (hK : 100 ≤ K) (h : MT sz f g) (hd : DD fd gd) : ∃ o y, fX5_place N K sz f fd c0 c1 c2 c3 c4 c5 p0 p1 = some o ∧ fX7_place N K th g gd t u p0 p1 = some y ∧ Ti false o y.2.1 (fun z => z.1 = y.1 ∧ MT z.2.1 z.2.2.1 y.2.2.1 ∧ KT c0 c1 c2 c3 c4 t z.2.2.2.1 z.2.2.2.2.1 z.2.2.2.2.2.1 z.2.2.2.2.2.2 c4 y.2.2.2.1) (y.2.2.1 = g ∧ y.2.2.2.1 = t) := by
  have hN9 := hN.u
  have hN1 : 100 ≤ N := by omega
  by_cases d : Rg p0 0 2
  · by_cases q : Rg p1 0 1
    · obtain ⟨w, hf, hg⟩ := hd
      have hwn := hf.1
      obtain ⟨v, sz', f', c1', c2', c3', g', t', u', e1, e2, e3, e4⟩ := pl_ (N := N) (K := K) (th0 := th) (th := (0 : Int32)) (sz0 := sz) (d0 := c0) (d1 := c1) (d2 := c2) (d3 := c3) (c0 := c0) (c4 := c4) (c5 := c5) (f0 := f) (g0 := g) (t0 := t) (u0 := u) hN hK d q hf hg 20 N N (wn w) 0 sz c1 c2 c3 f g t u (by omega) hwn (by omega) (by omega) h
      refine ⟨.inl (v, sz', f', c0 + (1 : Int32), c1', c2', c3'), (v, 0, g', t', u'), ?_, ?_, rfl, rfl, e3, e4⟩
      · unfold fX5_place
        rw [k_mem1 d, xb_l, k_desk1 q, xb_l]
        rw [c_sum hN1 hf.2, Option.bind_some]
        exact e1
      · unfold fX7_place
        rw [m_in d, Option.bind_some, if_pos rfl, m_in q, Option.bind_some, if_pos rfl]
        unfold fX7_place_24
        rw [m_th00, Option.bind_some, if_pos rfl]
        rw [if_neg q.dd, m_sum hN1 hg.2, Option.bind_some]
        exact e2
    · refine ⟨(.inr "java/lang/IndexOutOfBoundsException"), ((0 : Int32), 1, g, t, u), ?_, ?_, Or.inl ⟨rfl, rfl⟩, ⟨rfl, rfl⟩⟩
      · unfold fX5_place
        rw [k_mem1 d, xb_l, k_desk0 q, xb_r]
      · unfold fX7_place
        rw [m_in d, Option.bind_some, if_pos rfl, m_out q, Option.bind_some, if_neg (by decide)]
        unfold fX7_place_19 fX7_place_24
        rw [m_th1, Option.bind_some, if_neg (by decide)]
  · by_cases q : Rg p1 0 1
    · refine ⟨(.inr "java/lang/IndexOutOfBoundsException"), ((0 : Int32), 1, g, t, u), ?_, ?_, Or.inl ⟨rfl, rfl⟩, ⟨rfl, rfl⟩⟩
      · unfold fX5_place
        rw [k_mem0 d, xb_r]
      · unfold fX7_place
        rw [m_out d, Option.bind_some, if_neg (by decide)]
        unfold fX7_place_19 fX7_place_24
        rw [m_th1, Option.bind_some, if_neg (by decide)]
    · refine ⟨(.inr "java/lang/IndexOutOfBoundsException"), ((0 : Int32), 1, g, t, u), ?_, ?_, Or.inl ⟨rfl, rfl⟩, ⟨rfl, rfl⟩⟩
      · unfold fX5_place
        rw [k_mem0 d, xb_r]
      · unfold fX7_place
        rw [m_out d, Option.bind_some, if_neg (by decide)]
        unfold fX7_place_19 fX7_place_24
        rw [m_th1, Option.bind_some, if_neg (by decide)]
theorem ty_learn {N K : Nat} {th sz c0 c1 c2 c3 c4 c5 p0 p1 p2 p3 : Int32} {f g t gs : Nat → Int32} (hN : NBig N) (hK : 100 ≤ K) (h : MT sz f g) : ∃ o y, fX5_learn N K sz f c0 c1 c2 c3 c4 c5 gs p0 p1 p2 p3 = some o ∧ fX7_learn N K th g t p0 p1 p2 p3 = some y ∧ Ti true o y.2.1 (fun z => z.1 = y.1 ∧ MT z.2.1 z.2.2.1 y.2.2.1 ∧ KT c0 c1 c2 c3 c4 t z.2.2.2.1 c1 c2 c3 z.2.2.2.2.1 y.2.2.2) (y.2.2.1 = g ∧ y.2.2.2 = t) := by
  have hN9 := hN.u
  have hN1 : 100 ≤ N := by omega
  by_cases d : Rg p0 0 2
  · by_cases q : (Rg p1 0 5 ∧ Rg p2 0 20 ∧ Rg p3 0 20)
    · obtain ⟨k, rfl, -, k2⟩ := Rg.n (a := 0) (b := 5) q.1 (by omega) (by omega)
      obtain ⟨n, rfl, -, n2⟩ := Rg.n (a := 0) (b := 20) q.2.1 (by omega) (by omega)
      obtain ⟨m, rfl, -, m2⟩ := Rg.n (a := 0) (b := 20) q.2.2 (by omega) (by omega)
      have hk : k < 6 := by omega
      have hsl := sl_lt hk n2 m2
      have hcd := cd_lt hk n2 m2
      have hgf := h.2.2.1 k n m hk n2 m2
      have hcell := h.cell hk n2 m2
      have en : (Int32.ofNat n).toInt = (n : Int) := o_i (by omega)
      by_cases r : rs (n : Int) m = true
      · refine ⟨.inl ((-9 : Int32), sz, f, c0, c4 + (1 : Int32), gs), ((-9 : Int32), 0, g, rf t), ?_, ?_, rfl, rfl, h, KT.refu⟩
        · unfold fX5_learn
          rw [k_mem1 d, xb_l, k_case1 q, xb_l]
          rw [c_rests m2, Option.bind_some, en, r, if_neg bitn, k_und, Option.bind_some]
        · unfold fX7_learn
          rw [m_in d, Option.bind_some, m_oc1 q, Option.bind_some]
          rw [m_th00, Option.bind_some, if_pos rfl]
          rw [m_rests m2, Option.bind_some, en, r, if_neg bitn, m_ref, Option.bind_some]
      · have rF : rs (n : Int) m = false := Bool.eq_false_iff.mpr r
        obtain ⟨r1, r2⟩ := rs_f r
        have hw := m_worth (N := N) (K := K) (th := (0 : Int32)) (g := g) (p := Int32.ofNat n) hk d m2 (by omega)
        rw [en, if_neg r, show ((n : Nat) : Int).toNat = n from by omega] at hw
        by_cases e : 0 ≤ (f (sl k n m)).toInt
        · have e0 := m1_n e
          refine ⟨.inl ((0 : Int32), sz, f, c0 + (1 : Int32), c4, gs), ((0 : Int32), 0, g, dn t), ?_, ?_, rfl, rfl, h, KT.done⟩
          · unfold fX5_learn
            rw [k_mem1 d, xb_l, k_case1 q, xb_l]
            rw [c_rests m2, Option.bind_some, en, rF, if_pos bif0, c_keeps hk n2 m2, Option.bind_some, if_neg e0, if_neg (show ¬ ((1 : Int32) = 0) from by decide), k_act, Option.bind_some]
          · unfold fX7_learn
            rw [m_in d, Option.bind_some, m_oc1 q, Option.bind_some]
            rw [m_th00, Option.bind_some, if_pos rfl]
            rw [m_rests m2, Option.bind_some, en, rF, if_pos bif0, hw, Option.bind_some, hgf, if_pos (by rw [ge0]; exact e)]
            unfold fX7_learn_53 fX7_learn_81
            rw [if_pos rfl, m_b0, Option.bind_some, m_done, Option.bind_some]
        · have e0 : f (sl k n m) = -1 := by rcases hcell with z | z; exact z; exact absurd z.2.2.1 e
          obtain ⟨gs', e1⟩ := c_tells (N := N) (K := K) hN1 (g := gs) (show k ≤ 7 by omega) n2 m2
          have e2 := m_series (N := N) (K := K) hN1 (show k ≤ 7 by omega) n2 m2
          have bd := sworth_bd hk (show 1 ≤ n by omega) n2 r2 m2
          refine ⟨.inl ((1 : Int32), sz + (1 : Int32), upd f (sl k n m) (sworth k n m), c0 + (1 : Int32), c4, gs'), ((1 : Int32), 0, upd g (cd k n m) (sworth k n m), dn t), ?_, ?_, rfl, rfl, h.put hk n2 m2 (Or.inr ⟨by omega, r2, bd⟩) (by rw [cnt_put hsl e0 (m1_n bd.1), h.1, o_1]), KT.done⟩
          · unfold fX5_learn
            rw [k_mem1 d, xb_l, k_case1 q, xb_l]
            rw [c_rests m2, Option.bind_some, en, rF, if_pos bif0, c_keeps hk n2 m2, Option.bind_some, if_pos e0, if_pos rfl, e1, Option.bind_some, c_keep hk n2 m2, Option.bind_some, if_pos e0, k_act, Option.bind_some]
          · unfold fX7_learn
            rw [m_in d, Option.bind_some, m_oc1 q, Option.bind_some]
            rw [m_th00, Option.bind_some, if_pos rfl]
            rw [m_rests m2, Option.bind_some, en, rF, if_pos bif0, hw, Option.bind_some, hgf, if_neg (by rw [ge0]; exact e)]
            unfold fX7_learn_53 fX7_learn_81
            rw [if_neg (by decide), if_neg d.mm, m_code, Option.bind_some, e2, Option.bind_some, if_neg (o_ob hcd (by omega)), o_c (by omega), m_b1, Option.bind_some, m_done, Option.bind_some]
    · refine ⟨(.inr "java/lang/IllegalArgumentException"), ((0 : Int32), 2, g, t), ?_, ?_, Or.inr ⟨rfl, rfl, rfl⟩, ⟨rfl, rfl⟩⟩
      · unfold fX5_learn
        rw [k_mem1 d, xb_l, k_case0 q, xb_r]
      · unfold fX7_learn
        rw [m_in d, Option.bind_some, m_oc0 q, Option.bind_some]
        rw [m_th01, Option.bind_some, if_neg (by decide)]
  · by_cases q : (Rg p1 0 5 ∧ Rg p2 0 20 ∧ Rg p3 0 20)
    · refine ⟨(.inr "java/lang/IndexOutOfBoundsException"), ((0 : Int32), 1, g, t), ?_, ?_, Or.inl ⟨rfl, rfl⟩, ⟨rfl, rfl⟩⟩
      · unfold fX5_learn
        rw [k_mem0 d, xb_r]
      · unfold fX7_learn
        rw [m_out d, Option.bind_some, m_oc1 q, Option.bind_some]
        rw [m_th1, Option.bind_some, if_neg (by decide)]
    · refine ⟨(.inr "java/lang/IndexOutOfBoundsException"), ((0 : Int32), 1, g, t), ?_, ?_, Or.inl ⟨rfl, rfl⟩, ⟨rfl, rfl⟩⟩
      · unfold fX5_learn
        rw [k_mem0 d, xb_r]
      · unfold fX7_learn
        rw [m_out d, Option.bind_some, m_oc0 q, Option.bind_some]
        rw [m_th1, Option.bind_some, if_neg (by decide)]
theorem ty_relearn {N K : Nat} {th sz c0 c1 c2 c3 c4 c5 p0 p1 p2 p3 : Int32} {f g t fw fs : Nat → Int32} (hN : NBig N) (hK : 100 ≤ K) (h : MT sz f g) : ∃ o y, fX5_relearn N K sz f c0 c1 c2 c3 c4 c5 fw fs p0 p1 p2 p3 = some o ∧ fX7_relearn N K th g t p0 p1 p2 p3 = some y ∧ Ti true o y.2.1 (fun z => z.1 = y.1 ∧ MT z.2.1 z.2.2.1 y.2.2.1 ∧ KT c0 c1 c2 c3 c4 t z.2.2.2.1 c1 c2 c3 z.2.2.2.2.1 y.2.2.2) (y.2.2.1 = g ∧ y.2.2.2 = t) := by
  have hN9 := hN.u
  have hN1 : 100 ≤ N := by omega
  by_cases d : Rg p0 0 2
  · by_cases q : (Rg p1 0 5 ∧ Rg p2 0 20 ∧ Rg p3 0 20)
    · obtain ⟨k, rfl, -, k2⟩ := Rg.n (a := 0) (b := 5) q.1 (by omega) (by omega)
      obtain ⟨n, rfl, -, n2⟩ := Rg.n (a := 0) (b := 20) q.2.1 (by omega) (by omega)
      obtain ⟨m, rfl, -, m2⟩ := Rg.n (a := 0) (b := 20) q.2.2 (by omega) (by omega)
      have hk : k < 6 := by omega
      have hsl := sl_lt hk n2 m2
      have hcd := cd_lt hk n2 m2
      have hgf := h.2.2.1 k n m hk n2 m2
      have hcell := h.cell hk n2 m2
      by_cases e : f (sl k n m) = -1
      · refine ⟨.inl ((-9 : Int32), sz, f, c0, c4 + (1 : Int32), fw, fs), ((-9 : Int32), 0, g, rf t), ?_, ?_, rfl, rfl, h, KT.refu⟩
        · unfold fX5_relearn
          rw [k_mem1 d, xb_l, k_case1 q, xb_l]
          rw [c_keeps hk n2 m2, Option.bind_some, if_pos e, if_pos rfl, k_und, Option.bind_some]
        · unfold fX7_relearn
          rw [m_in d, Option.bind_some, m_oc1 q, Option.bind_some]
          rw [m_th00, Option.bind_some, if_pos rfl]
          rw [m_kept hk n2 m2 d, Option.bind_some, hgf, e, if_neg (by decide), m_ref, Option.bind_some]
      · have e0 : 0 ≤ (f (sl k n m)).toInt := by rcases hcell with z | z; exact absurd z e; exact z.2.2.1
        obtain ⟨v, fw', fs', e1, e2, e3, e4⟩ := walk_n (N := N) (K := K) hN (fw := fw) (fs := fs) (show k ≤ 7 by omega) n2 m2
        have tk : 1 ≤ n ∧ 1 ≤ m := by rcases hcell with z | z; exact absurd z e; exact ⟨z.1, z.2.1⟩
        have tb1 := tb_ok k hk n (by omega) m (by omega) tk
        refine ⟨.inl (v, sz, upd f (sl k n m) v, c0 + (1 : Int32), c4, fw', fs'), (v, 0, upd g (cd k n m) v, dn t), ?_, ?_, rfl, rfl, h.put hk n2 m2 (Or.inr ⟨tk.1, tk.2, e3, by omega⟩) (by rw [cnt_again hsl e (m1_n e3), h.1]), KT.done⟩
        · unfold fX5_relearn
          rw [k_mem1 d, xb_l, k_case1 q, xb_l]
          rw [c_keeps hk n2 m2, Option.bind_some, if_neg e, if_neg (show ¬ ((1 : Int32) = 0) from by decide), e1, Option.bind_some, c_keep hk n2 m2, Option.bind_some, if_neg e, k_act, Option.bind_some]
        · unfold fX7_relearn
          rw [m_in d, Option.bind_some, m_oc1 q, Option.bind_some]
          rw [m_th00, Option.bind_some, if_pos rfl]
          rw [m_kept hk n2 m2 d, Option.bind_some, hgf, if_pos (by rw [ge0]; exact e0), if_neg d.mm, m_code, Option.bind_some, e2, Option.bind_some, if_neg (o_ob hcd (by omega)), o_c (by omega), m_kept hk n2 m2 d, Option.bind_some, upd_at, m_done, Option.bind_some]
    · refine ⟨(.inr "java/lang/IllegalArgumentException"), ((0 : Int32), 2, g, t), ?_, ?_, Or.inr ⟨rfl, rfl, rfl⟩, ⟨rfl, rfl⟩⟩
      · unfold fX5_relearn
        rw [k_mem1 d, xb_l, k_case0 q, xb_r]
      · unfold fX7_relearn
        rw [m_in d, Option.bind_some, m_oc0 q, Option.bind_some]
        rw [m_th01, Option.bind_some, if_neg (by decide)]
  · by_cases q : (Rg p1 0 5 ∧ Rg p2 0 20 ∧ Rg p3 0 20)
    · refine ⟨(.inr "java/lang/IndexOutOfBoundsException"), ((0 : Int32), 1, g, t), ?_, ?_, Or.inl ⟨rfl, rfl⟩, ⟨rfl, rfl⟩⟩
      · unfold fX5_relearn
        rw [k_mem0 d, xb_r]
      · unfold fX7_relearn
        rw [m_out d, Option.bind_some, m_oc1 q, Option.bind_some]
        rw [m_th1, Option.bind_some, if_neg (by decide)]
    · refine ⟨(.inr "java/lang/IndexOutOfBoundsException"), ((0 : Int32), 1, g, t), ?_, ?_, Or.inl ⟨rfl, rfl⟩, ⟨rfl, rfl⟩⟩
      · unfold fX5_relearn
        rw [k_mem0 d, xb_r]
      · unfold fX7_relearn
        rw [m_out d, Option.bind_some, m_oc0 q, Option.bind_some]
        rw [m_th1, Option.bind_some, if_neg (by decide)]
theorem ty_forget {N K : Nat} {th sz c0 c1 c2 c3 c4 c5 p0 p1 p2 p3 : Int32} {f g t : Nat → Int32} (hN : NBig N) (hK : 100 ≤ K) (h : MT sz f g) : ∃ o y, fX5_forget N K sz f c0 c1 c2 c3 c4 c5 p0 p1 p2 p3 = some o ∧ fX7_forget N K th g t p0 p1 p2 p3 = some y ∧ Ti true o y.2.1 (fun z => z.1 = y.1 ∧ MT z.2.1 z.2.2.1 y.2.2.1 ∧ KT c0 c1 c2 c3 c4 t z.2.2.2.1 c1 c2 c3 z.2.2.2.2 y.2.2.2) (y.2.2.1 = g ∧ y.2.2.2 = t) := by
  have hN9 := hN.u
  have hN1 : 100 ≤ N := by omega
  by_cases d : Rg p0 0 2
  · by_cases q : (Rg p1 0 5 ∧ Rg p2 0 20 ∧ Rg p3 0 20)
    · obtain ⟨k, rfl, -, k2⟩ := Rg.n (a := 0) (b := 5) q.1 (by omega) (by omega)
      obtain ⟨n, rfl, -, n2⟩ := Rg.n (a := 0) (b := 20) q.2.1 (by omega) (by omega)
      obtain ⟨m, rfl, -, m2⟩ := Rg.n (a := 0) (b := 20) q.2.2 (by omega) (by omega)
      have hk : k < 6 := by omega
      have hsl := sl_lt hk n2 m2
      have hcd := cd_lt hk n2 m2
      have hgf := h.2.2.1 k n m hk n2 m2
      have hcell := h.cell hk n2 m2
      by_cases e : f (sl k n m) = -1
      · refine ⟨.inl ((-9 : Int32), sz, f, c0, c4 + (1 : Int32)), ((-9 : Int32), 0, g, rf t), ?_, ?_, rfl, rfl, h, KT.refu⟩
        · unfold fX5_forget
          rw [k_mem1 d, xb_l, k_case1 q, xb_l]
          rw [c_keeps hk n2 m2, Option.bind_some, if_pos e, if_pos rfl, k_und, Option.bind_some]
        · unfold fX7_forget
          rw [m_in d, Option.bind_some, m_oc1 q, Option.bind_some]
          rw [m_th00, Option.bind_some, if_pos rfl]
          rw [m_kept hk n2 m2 d, Option.bind_some, hgf, e, if_neg (by decide), m_ref, Option.bind_some]
      · have e0 : 0 ≤ (f (sl k n m)).toInt := by rcases hcell with z | z; exact absurd z e; exact z.2.2.1
        refine ⟨.inl (f (sl k n m), sz - (1 : Int32), upd f (sl k n m) (-1 : Int32), c0 + (1 : Int32), c4), (f (sl k n m), 0, upd g (cd k n m) (-1 : Int32), dn t), ?_, ?_, rfl, rfl, h.put hk n2 m2 (Or.inl rfl) (by rw [h.1, cnt_off hsl e, o_s1]), KT.done⟩
        · unfold fX5_forget
          rw [k_mem1 d, xb_l, k_case1 q, xb_l]
          rw [c_keeps hk n2 m2, Option.bind_some, if_neg e, if_neg (show ¬ ((1 : Int32) = 0) from by decide), c_kw hk n2 m2, Option.bind_some, c_drop hk n2 m2 e, Option.bind_some, k_act, Option.bind_some]
        · unfold fX7_forget
          rw [m_in d, Option.bind_some, m_oc1 q, Option.bind_some]
          rw [m_th00, Option.bind_some, if_pos rfl]
          rw [m_kept hk n2 m2 d, Option.bind_some, hgf, if_pos (by rw [ge0]; exact e0), if_neg d.mm, m_code, Option.bind_some, if_neg (o_ob hcd (by omega)), o_c (by omega), m_done, Option.bind_some]
    · refine ⟨(.inr "java/lang/IllegalArgumentException"), ((0 : Int32), 2, g, t), ?_, ?_, Or.inr ⟨rfl, rfl, rfl⟩, ⟨rfl, rfl⟩⟩
      · unfold fX5_forget
        rw [k_mem1 d, xb_l, k_case0 q, xb_r]
      · unfold fX7_forget
        rw [m_in d, Option.bind_some, m_oc0 q, Option.bind_some]
        rw [m_th01, Option.bind_some, if_neg (by decide)]
  · by_cases q : (Rg p1 0 5 ∧ Rg p2 0 20 ∧ Rg p3 0 20)
    · refine ⟨(.inr "java/lang/IndexOutOfBoundsException"), ((0 : Int32), 1, g, t), ?_, ?_, Or.inl ⟨rfl, rfl⟩, ⟨rfl, rfl⟩⟩
      · unfold fX5_forget
        rw [k_mem0 d, xb_r]
      · unfold fX7_forget
        rw [m_out d, Option.bind_some, m_oc1 q, Option.bind_some]
        rw [m_th1, Option.bind_some, if_neg (by decide)]
    · refine ⟨(.inr "java/lang/IndexOutOfBoundsException"), ((0 : Int32), 1, g, t), ?_, ?_, Or.inl ⟨rfl, rfl⟩, ⟨rfl, rfl⟩⟩
      · unfold fX5_forget
        rw [k_mem0 d, xb_r]
      · unfold fX7_forget
        rw [m_out d, Option.bind_some, m_oc0 q, Option.bind_some]
        rw [m_th1, Option.bind_some, if_neg (by decide)]
theorem ty_forgetIf {N K : Nat} {th sz c0 c1 c2 c3 c4 c5 p0 p1 p2 p3 p4 : Int32} {f g t : Nat → Int32} (hN : NBig N) (hK : 100 ≤ K) (h : MT sz f g) : ∃ o y, fX5_forgetIf N K sz f c0 c1 c2 c3 c4 c5 p0 p1 p2 p3 p4 = some o ∧ fX7_forgetIf N K th g t p0 p1 p2 p3 p4 = some y ∧ Ti true o y.2.1 (fun z => z.1 = y.1 ∧ MT z.2.1 z.2.2.1 y.2.2.1 ∧ KT c0 c1 c2 c3 c4 t z.2.2.2 c1 c2 c3 c4 y.2.2.2) (y.2.2.1 = g ∧ y.2.2.2 = t) := by
  have hN9 := hN.u
  have hN1 : 100 ≤ N := by omega
  by_cases d : Rg p0 0 2
  · by_cases q : (Rg p1 0 5 ∧ Rg p2 0 20 ∧ Rg p3 0 20)
    · obtain ⟨k, rfl, -, k2⟩ := Rg.n (a := 0) (b := 5) q.1 (by omega) (by omega)
      obtain ⟨n, rfl, -, n2⟩ := Rg.n (a := 0) (b := 20) q.2.1 (by omega) (by omega)
      obtain ⟨m, rfl, -, m2⟩ := Rg.n (a := 0) (b := 20) q.2.2 (by omega) (by omega)
      have hk : k < 6 := by omega
      have hsl := sl_lt hk n2 m2
      have hcd := cd_lt hk n2 m2
      have hgf := h.2.2.1 k n m hk n2 m2
      have hcell := h.cell hk n2 m2
      by_cases e : f (sl k n m) = -1
      · refine ⟨.inl ((0 : Int32), sz, f, c0 + (1 : Int32)), ((0 : Int32), 0, g, dn t), ?_, ?_, rfl, rfl, h, KT.done⟩
        · unfold fX5_forgetIf
          rw [k_mem1 d, xb_l, k_case1 q, xb_l]
          rw [c_keepsW0 hk n2 m2 (fun z => z.1 e), Option.bind_some, if_pos rfl, k_act, Option.bind_some]
        · unfold fX7_forgetIf
          rw [m_in d, Option.bind_some, m_oc1 q, Option.bind_some]
          rw [m_th00, Option.bind_some, if_pos rfl]
          rw [m_kept hk n2 m2 d, Option.bind_some, hgf, e, if_pos (by decide)]
          unfold fX7_forgetIf_49 fX7_forgetIf_50 fX7_forgetIf_72
          rw [if_pos rfl, m_b0, Option.bind_some, m_done, Option.bind_some]
      · have e0 : 0 ≤ (f (sl k n m)).toInt := by rcases hcell with z | z; exact absurd z e; exact z.2.2.1
        by_cases e2 : f (sl k n m) = p4
        · refine ⟨.inl ((1 : Int32), sz - (1 : Int32), upd f (sl k n m) (-1 : Int32), c0 + (1 : Int32)), ((1 : Int32), 0, upd g (cd k n m) (-1 : Int32), dn t), ?_, ?_, rfl, rfl, h.put hk n2 m2 (Or.inl rfl) (by rw [h.1, cnt_off hsl e, o_s1]), KT.done⟩
          · unfold fX5_forgetIf
            rw [k_mem1 d, xb_l, k_case1 q, xb_l]
            rw [c_keepsW1 hk n2 m2 ⟨e, e2⟩, Option.bind_some, if_neg (show ¬ ((1 : Int32) = 0) from by decide), c_drop hk n2 m2 e, Option.bind_some, k_act, Option.bind_some]
          · unfold fX7_forgetIf
            rw [m_in d, Option.bind_some, m_oc1 q, Option.bind_some]
            rw [m_th00, Option.bind_some, if_pos rfl]
            rw [m_kept hk n2 m2 d, Option.bind_some, hgf, if_neg (by rw [lt0]; omega), if_pos e2]
            unfold fX7_forgetIf_50 fX7_forgetIf_72
            rw [if_neg (by decide), if_neg d.mm, m_code, Option.bind_some, if_neg (o_ob hcd (by omega)), o_c (by omega), m_b1, Option.bind_some, m_done, Option.bind_some]
        · refine ⟨.inl ((0 : Int32), sz, f, c0 + (1 : Int32)), ((0 : Int32), 0, g, dn t), ?_, ?_, rfl, rfl, h, KT.done⟩
          · unfold fX5_forgetIf
            rw [k_mem1 d, xb_l, k_case1 q, xb_l]
            rw [c_keepsW0 hk n2 m2 (fun z => e2 z.2), Option.bind_some, if_pos rfl, k_act, Option.bind_some]
          · unfold fX7_forgetIf
            rw [m_in d, Option.bind_some, m_oc1 q, Option.bind_some]
            rw [m_th00, Option.bind_some, if_pos rfl]
            rw [m_kept hk n2 m2 d, Option.bind_some, hgf, if_neg (by rw [lt0]; omega), if_neg e2]
            unfold fX7_forgetIf_49 fX7_forgetIf_50 fX7_forgetIf_72
            rw [if_pos rfl, m_b0, Option.bind_some, m_done, Option.bind_some]
    · refine ⟨(.inr "java/lang/IllegalArgumentException"), ((0 : Int32), 2, g, t), ?_, ?_, Or.inr ⟨rfl, rfl, rfl⟩, ⟨rfl, rfl⟩⟩
      · unfold fX5_forgetIf
        rw [k_mem1 d, xb_l, k_case0 q, xb_r]
      · unfold fX7_forgetIf
        rw [m_in d, Option.bind_some, m_oc0 q, Option.bind_some]
        rw [m_th01, Option.bind_some, if_neg (by decide)]
  · by_cases q : (Rg p1 0 5 ∧ Rg p2 0 20 ∧ Rg p3 0 20)
    · refine ⟨(.inr "java/lang/IndexOutOfBoundsException"), ((0 : Int32), 1, g, t), ?_, ?_, Or.inl ⟨rfl, rfl⟩, ⟨rfl, rfl⟩⟩
      · unfold fX5_forgetIf
        rw [k_mem0 d, xb_r]
      · unfold fX7_forgetIf
        rw [m_out d, Option.bind_some, m_oc1 q, Option.bind_some]
        rw [m_th1, Option.bind_some, if_neg (by decide)]
    · refine ⟨(.inr "java/lang/IndexOutOfBoundsException"), ((0 : Int32), 1, g, t), ?_, ?_, Or.inl ⟨rfl, rfl⟩, ⟨rfl, rfl⟩⟩
      · unfold fX5_forgetIf
        rw [k_mem0 d, xb_r]
      · unfold fX7_forgetIf
        rw [m_out d, Option.bind_some, m_oc0 q, Option.bind_some]
        rw [m_th1, Option.bind_some, if_neg (by decide)]
theorem ty_forgetAll {N K : Nat} {th sz c0 c1 c2 c3 c4 c5 p0 p1 p2 : Int32} {f g t : Nat → Int32} (hN : NBig N) (hK : 100 ≤ K) (h : MT sz f g) : ∃ o y, fX5_forgetAll N K sz f c0 c1 c2 c3 c4 c5 p0 p1 p2 = some o ∧ fX7_forgetAll N K th g t p0 p1 p2 = some y ∧ Ti true o y.2.1 (fun z => z.1 = y.1 ∧ MT z.2.1 z.2.2.1 y.2.2.1 ∧ KT c0 c1 c2 c3 c4 t z.2.2.2 c1 c2 c3 c4 y.2.2.2) (y.2.2.1 = g ∧ y.2.2.2 = t) := by
  have hN9 := hN.u
  have hN1 : 100 ≤ N := by omega
  by_cases d : Rg p0 0 2
  · by_cases q : Rg p1 0 3
    · obtain ⟨f2, e1, e2⟩ := c_de_ (N := N) (K := K) (sz0 := sz) (sz := sz) (w := p1) (v := p2) (f0 := f) (f := f) 2646 0 N f rfl (by omega) (fun s => by rw [if_neg (by omega)])
      have e1' : fX2_dropEach_5 N K sz f p1 p2 N (Int32.ofNat 0) (Int32.ofNat 0) sz f = _ := e1
      obtain ⟨g2, i1, i2⟩ := m_fa_ (N := N) (K := K) (th0 := th) (th := (0 : Int32)) (w := p1) (v := p2) (l4 := ss (fun s => bi (so p1 p2 f s)) 2646) (g0 := g) (g := g) (t0 := t) (t := t) d 6144 0 N g rfl (by omega) (fun s => by rw [if_neg (by omega)])
      refine ⟨.inl (ss (fun s => bi (so p1 p2 f s)) 2646, sz - ss (fun s => bi (so p1 p2 f s)) 2646, f2, c0 + (1 : Int32)), (ss (fun s => bi (so p1 p2 f s)) 2646, 0, g2, dn t), ?_, ?_, rfl, rfl, mt_offd h e2 i2, KT.done⟩
      · unfold fX5_forgetAll
        rw [k_mem1 d, xb_l, k_rng1 q, xb_l]
        unfold fX2_dropEach
        rw [show (0 : Int32) = Int32.ofNat 0 from rfl]
        rw [e1', Option.bind_some, k_act, Option.bind_some]
      · unfold fX7_forgetAll
        rw [m_in d, Option.bind_some, m_in q, Option.bind_some]
        rw [m_th00, Option.bind_some, if_pos rfl]
        rw [m_cnt hN d h, Option.bind_some]
        exact i1
    · refine ⟨(.inr "java/lang/IllegalArgumentException"), ((0 : Int32), 2, g, t), ?_, ?_, Or.inr ⟨rfl, rfl, rfl⟩, ⟨rfl, rfl⟩⟩
      · unfold fX5_forgetAll
        rw [k_mem1 d, xb_l, k_rng0 q, xb_r]
      · unfold fX7_forgetAll
        rw [m_in d, Option.bind_some, m_out q, Option.bind_some]
        rw [m_th01, Option.bind_some, if_neg (by decide)]
  · by_cases q : Rg p1 0 3
    · refine ⟨(.inr "java/lang/IndexOutOfBoundsException"), ((0 : Int32), 1, g, t), ?_, ?_, Or.inl ⟨rfl, rfl⟩, ⟨rfl, rfl⟩⟩
      · unfold fX5_forgetAll
        rw [k_mem0 d, xb_r]
      · unfold fX7_forgetAll
        rw [m_out d, Option.bind_some, m_in q, Option.bind_some]
        rw [m_th1, Option.bind_some, if_neg (by decide)]
    · refine ⟨(.inr "java/lang/IndexOutOfBoundsException"), ((0 : Int32), 1, g, t), ?_, ?_, Or.inl ⟨rfl, rfl⟩, ⟨rfl, rfl⟩⟩
      · unfold fX5_forgetAll
        rw [k_mem0 d, xb_r]
      · unfold fX7_forgetAll
        rw [m_out d, Option.bind_some, m_out q, Option.bind_some]
        rw [m_th1, Option.bind_some, if_neg (by decide)]
theorem ty_clear {N K : Nat} {th sz c0 c1 c2 c3 c4 c5 p0 : Int32} {f g t : Nat → Int32} (hN : NBig N) (hK : 100 ≤ K) (h : MT sz f g) : ∃ o y, fX5_clear N K sz f c0 c1 c2 c3 c4 c5 p0 = some o ∧ fX7_clear N K th g t p0 = some y ∧ Ti false o y.2.1 (fun z => z.1 = y.1 ∧ MT z.2.1 z.2.2.1 y.2.2.1 ∧ KT c0 c1 c2 c3 c4 t z.2.2.2 c1 c2 c3 c4 y.2.2.2) (y.2.2.1 = g ∧ y.2.2.2 = t) := by
  have hN9 := hN.u
  have hN1 : 100 ≤ N := by omega
  by_cases d : Rg p0 0 2
  · obtain ⟨f2, e1, e2⟩ := c_fill (N := N) (K := K) (n := 2646) (f := f) (v := (-1 : Int32)) (by omega) (by omega)
    obtain ⟨g2, i1, i2⟩ := m_clr_ (N := N) (K := K) (th0 := th) (th := (0 : Int32)) (l2 := sz) (g0 := g) (t0 := t) (t := t) d 6144 0 N g rfl (by omega) (fun s hs => absurd hs (by omega))
    refine ⟨.inl (sz, (0 : Int32), f2, c0 + (1 : Int32)), (sz, 0, g2, dn t), ?_, ?_, rfl, rfl, mt_none (fun s hs => (e2 s).trans (if_pos hs)) i2, KT.done⟩
    · unfold fX5_clear
      rw [k_mem1 d, xb_l]
      unfold fX2_dropAll
      rw [e1, Option.bind_some, Option.bind_some, k_act, Option.bind_some]
    · unfold fX7_clear
      rw [m_in d, Option.bind_some]
      rw [m_th00, Option.bind_some, if_pos rfl]
      rw [m_cnt0 hN d h, Option.bind_some, ← h.1]
      exact i1
  · refine ⟨(.inr "java/lang/IndexOutOfBoundsException"), ((0 : Int32), 1, g, t), ?_, ?_, Or.inl ⟨rfl, rfl⟩, ⟨rfl, rfl⟩⟩
    · unfold fX5_clear
      rw [k_mem0 d, xb_r]
    · unfold fX7_clear
      rw [m_out d, Option.bind_some]
      rw [m_th1, Option.bind_some, if_neg (by decide)]
theorem ty_copy {N K : Nat} {th sz c0 c1 c2 c3 c4 c5 tz p0 p1 : Int32} {f g t f2 g2 : Nat → Int32} (hN : NBig N) (hK : 100 ≤ K) (h : MT sz f g) (h2 : MT tz f2 g2) : ∃ o y, fX5_copy N K sz f tz f2 c0 c1 c2 c3 c4 c5 p0 p1 = some o ∧ fX7_copy N K th g g2 t p0 p1 = some y ∧ Ti false o y.2.1 (fun z => z.1 = y.1 ∧ MT z.2.1 z.2.2.1 y.2.2.1 ∧ KT c0 c1 c2 c3 c4 t z.2.2.2 c1 c2 c3 c4 y.2.2.2) (y.2.2.1 = g2 ∧ y.2.2.2 = t) := by
  have hN9 := hN.u
  have hN1 : 100 ≤ N := by omega
  by_cases d : Rg p0 0 2
  · by_cases q : Rg p1 0 2
    · obtain ⟨g3, i1, i2⟩ := m_copy_ (N := N) (K := K) hN (th0 := th) (th := (0 : Int32)) (g0 := g2) (t0 := t) (t := t) d q h 6144 0 N g2 rfl (by omega) (fun s hs => absurd hs (by omega))
      refine ⟨.inl (sz, sz, va_cpy f f2 (0 : Int32).toNatClampNeg (0 : Int32).toNatClampNeg (2646 : Int32).toNatClampNeg, c0 + (1 : Int32)), (Int32.ofNat (cnt f), 0, g3, dn t), ?_, ?_, rfl, h.1, mt_same h (fun s hs => c_cpy hs) i2, KT.done⟩
      · unfold fX5_copy
        rw [k_mem1 d, xb_l, k_mem1 q, xb_l]
        unfold fX2_become fX2_size
        rw [Option.bind_some, Option.bind_some, k_act, Option.bind_some]
      · unfold fX7_copy
        rw [m_in d, Option.bind_some, if_pos rfl, m_in q, Option.bind_some, if_pos rfl]
        unfold fX7_copy_24
        rw [m_th00, Option.bind_some, if_pos rfl]
        exact i1
    · refine ⟨(.inr "java/lang/IndexOutOfBoundsException"), ((0 : Int32), 1, g2, t), ?_, ?_, Or.inl ⟨rfl, rfl⟩, ⟨rfl, rfl⟩⟩
      · unfold fX5_copy
        rw [k_mem1 d, xb_l, k_mem0 q, xb_r]
      · unfold fX7_copy
        rw [m_in d, Option.bind_some, if_pos rfl, m_out q, Option.bind_some, if_neg (by decide)]
        unfold fX7_copy_19 fX7_copy_24
        rw [m_th1, Option.bind_some, if_neg (by decide)]
  · by_cases q : Rg p1 0 2
    · refine ⟨(.inr "java/lang/IndexOutOfBoundsException"), ((0 : Int32), 1, g2, t), ?_, ?_, Or.inl ⟨rfl, rfl⟩, ⟨rfl, rfl⟩⟩
      · unfold fX5_copy
        rw [k_mem0 d, xb_r]
      · unfold fX7_copy
        rw [m_out d, Option.bind_some, if_neg (by decide)]
        unfold fX7_copy_19 fX7_copy_24
        rw [m_th1, Option.bind_some, if_neg (by decide)]
    · refine ⟨(.inr "java/lang/IndexOutOfBoundsException"), ((0 : Int32), 1, g2, t), ?_, ?_, Or.inl ⟨rfl, rfl⟩, ⟨rfl, rfl⟩⟩
      · unfold fX5_copy
        rw [k_mem0 d, xb_r]
      · unfold fX7_copy
        rw [m_out d, Option.bind_some, if_neg (by decide)]
        unfold fX7_copy_19 fX7_copy_24
        rw [m_th1, Option.bind_some, if_neg (by decide)]
theorem ty_copyOwn {N K : Nat} {th sz c0 c1 c2 c3 c4 c5 p0 : Int32} {f g t : Nat → Int32} (hN : NBig N) (hK : 100 ≤ K) (h : MT sz f g) : ∃ o y, fX5_copyOwn N K sz f c0 c1 c2 c3 c4 c5 p0 = some o ∧ fX7_copyOwn N K th g t p0 = some y ∧ Ti false o y.2.1 (fun z => z.1 = y.1 ∧ MT z.2.1 z.2.2.1 y.2.2.1 ∧ KT c0 c1 c2 c3 c4 t z.2.2.2 c1 c2 c3 c4 y.2.2.2) (y.2.2.1 = g ∧ y.2.2.2 = t) := by
  have hN9 := hN.u
  have hN1 : 100 ≤ N := by omega
  by_cases d : Rg p0 0 2
  · obtain ⟨g3, i1, i2⟩ := m_copyO_ (N := N) (K := K) hN (th0 := th) (th := (0 : Int32)) (g0 := g) (t0 := t) (t := t) d h 6144 0 N g rfl (by omega) (fun s => rfl)
    refine ⟨.inl (sz, sz, va_cpy f f (0 : Int32).toNatClampNeg (0 : Int32).toNatClampNeg (2646 : Int32).toNatClampNeg, c0 + (1 : Int32)), (Int32.ofNat (cnt f), 0, g3, dn t), ?_, ?_, rfl, h.1, mt_same h (fun s hs => c_cpy hs) (fun c _ => i2 c), KT.done⟩
    · unfold fX5_copyOwn
      rw [k_mem1 d, xb_l, xb_l]
      unfold fX2_becomeOwn fX2_size
      rw [Option.bind_some, Option.bind_some, k_act, Option.bind_some]
    · unfold fX7_copyOwn
      rw [m_in d, Option.bind_some, if_pos rfl, Option.bind_some, if_pos rfl]
      unfold fX7_copyOwn_24
      rw [m_th00, Option.bind_some, if_pos rfl]
      exact i1
  · refine ⟨(.inr "java/lang/IndexOutOfBoundsException"), ((0 : Int32), 1, g, t), ?_, ?_, Or.inl ⟨rfl, rfl⟩, ⟨rfl, rfl⟩⟩
    · unfold fX5_copyOwn
      rw [k_mem0 d, xb_r]
    · unfold fX7_copyOwn
      rw [m_out d, Option.bind_some, if_neg (by decide)]
      unfold fX7_copyOwn_19 fX7_copyOwn_24
      rw [m_th1, Option.bind_some, if_neg (by decide)]
theorem ty_pour {N K : Nat} {th sz c0 c1 c2 c3 c4 c5 tz p0 p1 : Int32} {f g t f2 g2 : Nat → Int32} (hN : NBig N) (hK : 100 ≤ K) (h : MT sz f g) (h2 : MT tz f2 g2) (hne : ¬ p0 = p1) : ∃ o y, fX5_pour N K sz f tz f2 c0 c1 c2 c3 c4 c5 p0 p1 = some o ∧ fX7_pour N K th g g2 t p0 p1 = some y ∧ Ti false o y.2.1 (fun z => z.1 = y.1 ∧ MT z.2.1 z.2.2.1 y.2.2.1 ∧ KT c0 c1 c2 c3 c4 t z.2.2.2.1 c1 c2 c3 z.2.2.2.2 y.2.2.2) (y.2.2.1 = g2 ∧ y.2.2.2 = t) := by
  have hN9 := hN.u
  have hN1 : 100 ≤ N := by omega
  by_cases d : Rg p0 0 2
  · by_cases q : Rg p1 0 2
    · obtain ⟨f3, e1, e2⟩ := c_take_ (N := N) (K := K) (sz0 := tz) (sz := tz) (tz := sz) (f0 := f2) (f := f2) (g := f) 2646 0 N f2 rfl (by omega) (fun s => by rw [if_neg (by omega)])
      have e1' : fX2_takeIn_4 N K tz f2 sz f N (0 : Int32) (0 : Int32) tz f2 = some (ss (fun s => bi (newin f f2 s)) 2646, tz + ss (fun s => bi (newin f f2 s)) 2646, f3) := e1
      obtain ⟨g3, i1, i2⟩ := m_pour_ (N := N) (K := K) hN (th0 := th) (th := (0 : Int32)) (g0 := g2) (t0 := t) (t := t) d q h h2 6144 0 N g2 rfl (by omega) (fun s => by rw [if_neg (by omega)])
      refine ⟨.inl (ss (fun s => bi (newin f f2 s)) 2646, tz + ss (fun s => bi (newin f f2 s)) 2646, f3, c0 + (1 : Int32), c4), (ss (fun s => bi (newin f f2 s)) 2646, 0, g3, dn t), ?_, ?_, rfl, rfl, mt_poured h h2 e2 i2, KT.done⟩
      · unfold fX5_pour
        rw [k_mem1 d, xb_l, k_mem1 q, xb_l]
        unfold fX2_takeIn
        rw [if_neg hne]
        rw [e1', Option.bind_some, k_act, Option.bind_some]
      · unfold fX7_pour
        rw [m_in d, Option.bind_some, if_pos rfl, m_in q, Option.bind_some, if_pos rfl]
        unfold fX7_pour_24
        rw [m_th00, Option.bind_some, if_pos rfl]
        rw [if_neg hne, m_cnt0 hN q h2, Option.bind_some]
        exact i1
    · refine ⟨(.inr "java/lang/IndexOutOfBoundsException"), ((0 : Int32), 1, g2, t), ?_, ?_, Or.inl ⟨rfl, rfl⟩, ⟨rfl, rfl⟩⟩
      · unfold fX5_pour
        rw [k_mem1 d, xb_l, k_mem0 q, xb_r]
      · unfold fX7_pour
        rw [m_in d, Option.bind_some, if_pos rfl, m_out q, Option.bind_some, if_neg (by decide)]
        unfold fX7_pour_19 fX7_pour_24
        rw [m_th1, Option.bind_some, if_neg (by decide)]
  · by_cases q : Rg p1 0 2
    · refine ⟨(.inr "java/lang/IndexOutOfBoundsException"), ((0 : Int32), 1, g2, t), ?_, ?_, Or.inl ⟨rfl, rfl⟩, ⟨rfl, rfl⟩⟩
      · unfold fX5_pour
        rw [k_mem0 d, xb_r]
      · unfold fX7_pour
        rw [m_out d, Option.bind_some, if_neg (by decide)]
        unfold fX7_pour_19 fX7_pour_24
        rw [m_th1, Option.bind_some, if_neg (by decide)]
    · refine ⟨(.inr "java/lang/IndexOutOfBoundsException"), ((0 : Int32), 1, g2, t), ?_, ?_, Or.inl ⟨rfl, rfl⟩, ⟨rfl, rfl⟩⟩
      · unfold fX5_pour
        rw [k_mem0 d, xb_r]
      · unfold fX7_pour
        rw [m_out d, Option.bind_some, if_neg (by decide)]
        unfold fX7_pour_19 fX7_pour_24
        rw [m_th1, Option.bind_some, if_neg (by decide)]
theorem ty_pourOwn {N K : Nat} {th sz c0 c1 c2 c3 c4 c5 p0 : Int32} {f g t : Nat → Int32} (hN : NBig N) (hK : 100 ≤ K)  : ∃ o y, fX5_pourOwn N K sz f c0 c1 c2 c3 c4 c5 p0 = some o ∧ fX7_pourOwn N K th g t p0 = some y ∧ Ti false o y.2.1 (fun z => z.1 = y.1 ∧ KT c0 c1 c2 c3 c4 t c0 c1 c2 c3 z.2 y.2.2) (y.2.2 = t) := by
  have hN9 := hN.u
  have hN1 : 100 ≤ N := by omega
  by_cases d : Rg p0 0 2
  · refine ⟨.inl ((-9 : Int32), c4 + (1 : Int32)), ((-9 : Int32), 0, rf t), ?_, ?_, rfl, rfl, KT.refu⟩
    · unfold fX5_pourOwn
      rw [k_mem1 d, xb_l, xb_l]
      rw [k_und, Option.bind_some]
    · unfold fX7_pourOwn
      rw [m_in d, Option.bind_some, if_pos rfl, Option.bind_some, if_pos rfl]
      unfold fX7_pourOwn_24
      rw [m_th00, Option.bind_some, if_pos rfl]
      rw [m_ref, Option.bind_some]
  · refine ⟨(.inr "java/lang/IndexOutOfBoundsException"), ((0 : Int32), 1, t), ?_, ?_, Or.inl ⟨rfl, rfl⟩, rfl⟩
    · unfold fX5_pourOwn
      rw [k_mem0 d, xb_r]
    · unfold fX7_pourOwn
      rw [m_out d, Option.bind_some, if_neg (by decide)]
      unfold fX7_pourOwn_19 fX7_pourOwn_24
      rw [m_th1, Option.bind_some, if_neg (by decide)]
theorem ty_isKept {N K : Nat} {th sz p0 p1 p2 p3 p4 : Int32} {f g : Nat → Int32} (hN : NBig N) (hK : 100 ≤ K) (h : MT sz f g) : ∃ o y, fX5_isKept N K sz f p0 p1 p2 p3 p4 = some o ∧ fX7_isKept N K th g p0 p1 p2 p3 p4 = some y ∧ Ti true o y.2 (fun z => z = y.1 ∧ (y.1 = 0 ∨ y.1 = 1)) (True) := by
  have hN9 := hN.u
  have hN1 : 100 ≤ N := by omega
  by_cases d : Rg p0 0 2
  · by_cases q : (Rg p1 0 5 ∧ Rg p2 0 20 ∧ Rg p3 0 20)
    · by_cases r : Rg p4 0 2
      · obtain ⟨k, rfl, -, k2⟩ := Rg.n (a := 0) (b := 5) q.1 (by omega) (by omega)
        obtain ⟨n, rfl, -, n2⟩ := Rg.n (a := 0) (b := 20) q.2.1 (by omega) (by omega)
        obtain ⟨m, rfl, -, m2⟩ := Rg.n (a := 0) (b := 20) q.2.2 (by omega) (by omega)
        have hk : k < 6 := by omega
        have hsl := sl_lt hk n2 m2
        have hcd := cd_lt hk n2 m2
        have hgf := h.2.2.1 k n m hk n2 m2
        have hcell := h.cell hk n2 m2
        by_cases e : f (sl k n m) = -1
        · refine ⟨.inl (0 : Int32), ((0 : Int32), 0), ?_, ?_, rfl, rfl, Or.inl rfl⟩
          · unfold fX5_isKept
            rw [k_mem1 d, xb_l, k_case1 q, xb_l, k_rng1 r, xb_l]
            rw [c_keeps hk n2 m2, Option.bind_some, if_pos e, if_pos (Or.inl rfl)]
          · unfold fX7_isKept
            rw [m_in d, Option.bind_some, m_oc1 q, Option.bind_some, if_pos rfl, m_in r, Option.bind_some, if_pos rfl]
            unfold fX7_isKept_32
            rw [m_th00, Option.bind_some, if_pos rfl]
            rw [m_kept hk n2 m2 d, Option.bind_some, hgf, e, if_pos (by decide)]
        · have e0 : 0 ≤ (f (sl k n m)).toInt := by rcases hcell with z | z; exact absurd z e; exact z.2.2.1
          refine ⟨.inl (1 : Int32), ((1 : Int32), 0), ?_, ?_, rfl, rfl, Or.inr rfl⟩
          · unfold fX5_isKept
            rw [k_mem1 d, xb_l, k_case1 q, xb_l, k_rng1 r, xb_l]
            rw [c_keeps hk n2 m2, Option.bind_some, if_neg e, if_pos (Or.inr rfl)]
          · unfold fX7_isKept
            rw [m_in d, Option.bind_some, m_oc1 q, Option.bind_some, if_pos rfl, m_in r, Option.bind_some, if_pos rfl]
            unfold fX7_isKept_32
            rw [m_th00, Option.bind_some, if_pos rfl]
            rw [m_kept hk n2 m2 d, Option.bind_some, hgf, if_neg (by rw [lt0]; omega)]
      · refine ⟨(.inr "java/lang/IllegalArgumentException"), ((0 : Int32), 2), ?_, ?_, Or.inr ⟨rfl, rfl, rfl⟩, trivial⟩
        · unfold fX5_isKept
          rw [k_mem1 d, xb_l, k_case1 q, xb_l, k_rng0 r, xb_r]
        · unfold fX7_isKept
          rw [m_in d, Option.bind_some, m_oc1 q, Option.bind_some, if_pos rfl, m_out r, Option.bind_some, if_neg (by decide)]
          unfold fX7_isKept_27 fX7_isKept_32
          rw [m_th01, Option.bind_some, if_neg (by decide)]
    · by_cases r : Rg p4 0 2
      · refine ⟨(.inr "java/lang/IllegalArgumentException"), ((0 : Int32), 2), ?_, ?_, Or.inr ⟨rfl, rfl, rfl⟩, trivial⟩
        · unfold fX5_isKept
          rw [k_mem1 d, xb_l, k_case0 q, xb_r]
        · unfold fX7_isKept
          rw [m_in d, Option.bind_some, m_oc0 q, Option.bind_some, if_neg (by decide)]
          unfold fX7_isKept_27 fX7_isKept_32
          rw [m_th01, Option.bind_some, if_neg (by decide)]
      · refine ⟨(.inr "java/lang/IllegalArgumentException"), ((0 : Int32), 2), ?_, ?_, Or.inr ⟨rfl, rfl, rfl⟩, trivial⟩
        · unfold fX5_isKept
          rw [k_mem1 d, xb_l, k_case0 q, xb_r]
        · unfold fX7_isKept
          rw [m_in d, Option.bind_some, m_oc0 q, Option.bind_some, if_neg (by decide)]
          unfold fX7_isKept_27 fX7_isKept_32
          rw [m_th01, Option.bind_some, if_neg (by decide)]
  · by_cases q : (Rg p1 0 5 ∧ Rg p2 0 20 ∧ Rg p3 0 20)
    · by_cases r : Rg p4 0 2
      · refine ⟨(.inr "java/lang/IndexOutOfBoundsException"), ((0 : Int32), 1), ?_, ?_, Or.inl ⟨rfl, rfl⟩, trivial⟩
        · unfold fX5_isKept
          rw [k_mem0 d, xb_r]
        · unfold fX7_isKept
          rw [m_out d, Option.bind_some, m_oc1 q, Option.bind_some, if_pos rfl, m_in r, Option.bind_some, if_pos rfl]
          unfold fX7_isKept_32
          rw [m_th1, Option.bind_some, if_neg (by decide)]
      · refine ⟨(.inr "java/lang/IndexOutOfBoundsException"), ((0 : Int32), 1), ?_, ?_, Or.inl ⟨rfl, rfl⟩, trivial⟩
        · unfold fX5_isKept
          rw [k_mem0 d, xb_r]
        · unfold fX7_isKept
          rw [m_out d, Option.bind_some, m_oc1 q, Option.bind_some, if_pos rfl, m_out r, Option.bind_some, if_neg (by decide)]
          unfold fX7_isKept_27 fX7_isKept_32
          rw [m_th1, Option.bind_some, if_neg (by decide)]
    · by_cases r : Rg p4 0 2
      · refine ⟨(.inr "java/lang/IndexOutOfBoundsException"), ((0 : Int32), 1), ?_, ?_, Or.inl ⟨rfl, rfl⟩, trivial⟩
        · unfold fX5_isKept
          rw [k_mem0 d, xb_r]
        · unfold fX7_isKept
          rw [m_out d, Option.bind_some, m_oc0 q, Option.bind_some, if_neg (by decide)]
          unfold fX7_isKept_27 fX7_isKept_32
          rw [m_th1, Option.bind_some, if_neg (by decide)]
      · refine ⟨(.inr "java/lang/IndexOutOfBoundsException"), ((0 : Int32), 1), ?_, ?_, Or.inl ⟨rfl, rfl⟩, trivial⟩
        · unfold fX5_isKept
          rw [k_mem0 d, xb_r]
        · unfold fX7_isKept
          rw [m_out d, Option.bind_some, m_oc0 q, Option.bind_some, if_neg (by decide)]
          unfold fX7_isKept_27 fX7_isKept_32
          rw [m_th1, Option.bind_some, if_neg (by decide)]
theorem ty_worthOr {N K : Nat} {th sz p0 p1 p2 p3 p4 : Int32} {f g : Nat → Int32} (hN : NBig N) (hK : 100 ≤ K) (h : MT sz f g) : ∃ o y, fX5_worthOr N K sz f p0 p1 p2 p3 p4 = some o ∧ fX7_worthOr N K th g p0 p1 p2 p3 p4 = some y ∧ Ti true o y.2 (fun z => z = y.1) (True) := by
  have hN9 := hN.u
  have hN1 : 100 ≤ N := by omega
  by_cases d : Rg p0 0 2
  · by_cases q : (Rg p1 0 5 ∧ Rg p2 0 20 ∧ Rg p3 0 20)
    · obtain ⟨k, rfl, -, k2⟩ := Rg.n (a := 0) (b := 5) q.1 (by omega) (by omega)
      obtain ⟨n, rfl, -, n2⟩ := Rg.n (a := 0) (b := 20) q.2.1 (by omega) (by omega)
      obtain ⟨m, rfl, -, m2⟩ := Rg.n (a := 0) (b := 20) q.2.2 (by omega) (by omega)
      have hk : k < 6 := by omega
      have hsl := sl_lt hk n2 m2
      have hcd := cd_lt hk n2 m2
      have hgf := h.2.2.1 k n m hk n2 m2
      have hcell := h.cell hk n2 m2
      by_cases e : f (sl k n m) = -1
      · refine ⟨.inl p4, (p4, 0), ?_, ?_, rfl, rfl⟩
        · unfold fX5_worthOr
          rw [k_mem1 d, xb_l, k_case1 q, xb_l]
          rw [c_keeps hk n2 m2, Option.bind_some, if_pos e, if_pos rfl]
        · unfold fX7_worthOr
          rw [m_in d, Option.bind_some, m_oc1 q, Option.bind_some]
          rw [m_th00, Option.bind_some, if_pos rfl]
          rw [m_kept hk n2 m2 d, Option.bind_some, hgf, e, if_neg (by decide)]
      · have e0 : 0 ≤ (f (sl k n m)).toInt := by rcases hcell with z | z; exact absurd z e; exact z.2.2.1
        refine ⟨.inl (f (sl k n m)), (f (sl k n m), 0), ?_, ?_, rfl, rfl⟩
        · unfold fX5_worthOr
          rw [k_mem1 d, xb_l, k_case1 q, xb_l]
          rw [c_keeps hk n2 m2, Option.bind_some, if_neg e, if_neg (show ¬ ((1 : Int32) = 0) from by decide), c_kw hk n2 m2, Option.bind_some]
        · unfold fX7_worthOr
          rw [m_in d, Option.bind_some, m_oc1 q, Option.bind_some]
          rw [m_th00, Option.bind_some, if_pos rfl]
          rw [m_kept hk n2 m2 d, Option.bind_some, hgf, if_pos (by rw [ge0]; exact e0)]
    · refine ⟨(.inr "java/lang/IllegalArgumentException"), ((0 : Int32), 2), ?_, ?_, Or.inr ⟨rfl, rfl, rfl⟩, trivial⟩
      · unfold fX5_worthOr
        rw [k_mem1 d, xb_l, k_case0 q, xb_r]
      · unfold fX7_worthOr
        rw [m_in d, Option.bind_some, m_oc0 q, Option.bind_some]
        rw [m_th01, Option.bind_some, if_neg (by decide)]
  · by_cases q : (Rg p1 0 5 ∧ Rg p2 0 20 ∧ Rg p3 0 20)
    · refine ⟨(.inr "java/lang/IndexOutOfBoundsException"), ((0 : Int32), 1), ?_, ?_, Or.inl ⟨rfl, rfl⟩, trivial⟩
      · unfold fX5_worthOr
        rw [k_mem0 d, xb_r]
      · unfold fX7_worthOr
        rw [m_out d, Option.bind_some, m_oc1 q, Option.bind_some]
        rw [m_th1, Option.bind_some, if_neg (by decide)]
    · refine ⟨(.inr "java/lang/IndexOutOfBoundsException"), ((0 : Int32), 1), ?_, ?_, Or.inl ⟨rfl, rfl⟩, trivial⟩
      · unfold fX5_worthOr
        rw [k_mem0 d, xb_r]
      · unfold fX7_worthOr
        rw [m_out d, Option.bind_some, m_oc0 q, Option.bind_some]
        rw [m_th1, Option.bind_some, if_neg (by decide)]
theorem ty_confirm {N K : Nat} {th sz p0 p1 p2 p3 p4 : Int32} {f g : Nat → Int32} (hN : NBig N) (hK : 100 ≤ K) (h : MT sz f g) : ∃ o y, fX5_confirm N K sz f p0 p1 p2 p3 p4 = some o ∧ fX7_confirm N K th g p0 p1 p2 p3 p4 = some y ∧ Ti true o y.2 (fun z => z = y.1 ∧ (y.1 = 0 ∨ y.1 = 1)) (True) := by
  have hN9 := hN.u
  have hN1 : 100 ≤ N := by omega
  by_cases d : Rg p0 0 2
  · by_cases q : (Rg p1 0 5 ∧ Rg p2 0 20 ∧ Rg p3 0 20)
    · obtain ⟨k, rfl, -, k2⟩ := Rg.n (a := 0) (b := 5) q.1 (by omega) (by omega)
      obtain ⟨n, rfl, -, n2⟩ := Rg.n (a := 0) (b := 20) q.2.1 (by omega) (by omega)
      obtain ⟨m, rfl, -, m2⟩ := Rg.n (a := 0) (b := 20) q.2.2 (by omega) (by omega)
      have hk : k < 6 := by omega
      have hsl := sl_lt hk n2 m2
      have hcd := cd_lt hk n2 m2
      have hgf := h.2.2.1 k n m hk n2 m2
      have hcell := h.cell hk n2 m2
      by_cases e : f (sl k n m) = -1
      · refine ⟨.inl (0 : Int32), ((0 : Int32), 0), ?_, ?_, rfl, rfl, Or.inl rfl⟩
        · unfold fX5_confirm
          rw [k_mem1 d, xb_l, k_case1 q, xb_l]
          rw [c_keepsW0 hk n2 m2 (fun z => z.1 e), Option.bind_some, if_pos (Or.inl rfl)]
        · unfold fX7_confirm
          rw [m_in d, Option.bind_some, m_oc1 q, Option.bind_some]
          rw [m_th00, Option.bind_some, if_pos rfl]
          rw [m_kept hk n2 m2 d, Option.bind_some, hgf, e, if_pos (by decide)]
      · have e0 : 0 ≤ (f (sl k n m)).toInt := by rcases hcell with z | z; exact absurd z e; exact z.2.2.1
        by_cases e2 : f (sl k n m) = p4
        · refine ⟨.inl (1 : Int32), ((1 : Int32), 0), ?_, ?_, rfl, rfl, Or.inr rfl⟩
          · unfold fX5_confirm
            rw [k_mem1 d, xb_l, k_case1 q, xb_l]
            rw [c_keepsW1 hk n2 m2 ⟨e, e2⟩, Option.bind_some, if_pos (Or.inr rfl)]
          · unfold fX7_confirm
            rw [m_in d, Option.bind_some, m_oc1 q, Option.bind_some]
            rw [m_th00, Option.bind_some, if_pos rfl]
            rw [m_kept hk n2 m2 d, Option.bind_some, hgf, if_neg (by rw [lt0]; omega), if_pos e2]
        · refine ⟨.inl (0 : Int32), ((0 : Int32), 0), ?_, ?_, rfl, rfl, Or.inl rfl⟩
          · unfold fX5_confirm
            rw [k_mem1 d, xb_l, k_case1 q, xb_l]
            rw [c_keepsW0 hk n2 m2 (fun z => e2 z.2), Option.bind_some, if_pos (Or.inl rfl)]
          · unfold fX7_confirm
            rw [m_in d, Option.bind_some, m_oc1 q, Option.bind_some]
            rw [m_th00, Option.bind_some, if_pos rfl]
            rw [m_kept hk n2 m2 d, Option.bind_some, hgf, if_neg (by rw [lt0]; omega), if_neg e2]
    · refine ⟨(.inr "java/lang/IllegalArgumentException"), ((0 : Int32), 2), ?_, ?_, Or.inr ⟨rfl, rfl, rfl⟩, trivial⟩
      · unfold fX5_confirm
        rw [k_mem1 d, xb_l, k_case0 q, xb_r]
      · unfold fX7_confirm
        rw [m_in d, Option.bind_some, m_oc0 q, Option.bind_some]
        rw [m_th01, Option.bind_some, if_neg (by decide)]
  · by_cases q : (Rg p1 0 5 ∧ Rg p2 0 20 ∧ Rg p3 0 20)
    · refine ⟨(.inr "java/lang/IndexOutOfBoundsException"), ((0 : Int32), 1), ?_, ?_, Or.inl ⟨rfl, rfl⟩, trivial⟩
      · unfold fX5_confirm
        rw [k_mem0 d, xb_r]
      · unfold fX7_confirm
        rw [m_out d, Option.bind_some, m_oc1 q, Option.bind_some]
        rw [m_th1, Option.bind_some, if_neg (by decide)]
    · refine ⟨(.inr "java/lang/IndexOutOfBoundsException"), ((0 : Int32), 1), ?_, ?_, Or.inl ⟨rfl, rfl⟩, trivial⟩
      · unfold fX5_confirm
        rw [k_mem0 d, xb_r]
      · unfold fX7_confirm
        rw [m_out d, Option.bind_some, m_oc0 q, Option.bind_some]
        rw [m_th1, Option.bind_some, if_neg (by decide)]
theorem ty_about {N K : Nat} {th sz p0 p1 : Int32} {f g : Nat → Int32} (hN : NBig N) (hK : 100 ≤ K) (h : MT sz f g) : ∃ o y, fX5_about N K sz f p0 p1 = some o ∧ fX7_about N K th g p0 p1 = some y ∧ Ti true o y.2 (fun z => z = y.1) (True) := by
  have hN9 := hN.u
  have hN1 : 100 ≤ N := by omega
  by_cases d : Rg p0 0 2
  · by_cases q : Rg p1 0 3
    · by_cases e0 : p1 = 0
      · subst e0
        refine ⟨.inl sz, (ss (tlc 0 f) 2646, 0), ?_, ?_, rfl, by rw [tlc_cnt (by decide) (by decide)]; exact h.1⟩
        · unfold fX5_about
          rw [k_mem1 d, xb_l, k_rng1 q, xb_l]
          rw [if_pos rfl]
          rfl
        · unfold fX7_about
          rw [m_in d, Option.bind_some, m_in q, Option.bind_some]
          rw [m_th00, Option.bind_some, if_pos rfl]
          rw [m_t2 hN d h, Option.bind_some, if_neg (by decide)]
      · by_cases e1 : p1 = 1
        · subst e1
          have em := c_mark_ (N := N) (K := K) (sz := sz) (f := f) 2646 0 N rfl (by omega)
          have em' : fX2_mark N K sz f = some (ss (tlc 1 f) 2646) := em
          refine ⟨.inl (ss (tlc 1 f) 2646), (ss (tlc 1 f) 2646, 0), ?_, ?_, rfl, rfl⟩
          · unfold fX5_about
            rw [k_mem1 d, xb_l, k_rng1 q, xb_l]
            rw [if_neg (by decide), if_pos rfl, em', Option.bind_some]
          · unfold fX7_about
            rw [m_in d, Option.bind_some, m_in q, Option.bind_some]
            rw [m_th00, Option.bind_some, if_pos rfl]
            rw [m_t2 hN d h, Option.bind_some, if_neg (by decide)]
        · by_cases e2 : p1 = 2
          · subst e2
            have em := c_sumw_ (N := N) (K := K) (sz := sz) (f := f) 2646 0 N rfl (by omega)
            have em' : fX2_sumOfWorths N K sz f = some (ss (tlc 2 f) 2646) := em
            refine ⟨.inl (ss (tlc 2 f) 2646), (ss (tlc 2 f) 2646, 0), ?_, ?_, rfl, rfl⟩
            · unfold fX5_about
              rw [k_mem1 d, xb_l, k_rng1 q, xb_l]
              rw [if_neg (by decide), if_neg (by decide), if_pos rfl, em', Option.bind_some]
            · unfold fX7_about
              rw [m_in d, Option.bind_some, m_in q, Option.bind_some]
              rw [m_th00, Option.bind_some, if_pos rfl]
              rw [m_t2 hN d h, Option.bind_some, if_neg (by decide)]
          · have e3 : p1 = 3 := by
              obtain ⟨n, rfl, -, n2⟩ := Rg.n (a := 0) (b := 3) q (by omega) (by omega)
              have f0 : ¬ n = 0 := fun z => e0 (by rw [z]; rfl)
              have f1 : ¬ n = 1 := fun z => e1 (by rw [z]; rfl)
              have f2 : ¬ n = 2 := fun z => e2 (by rw [z]; rfl)
              rw [show n = 3 from by omega]; rfl
            subst e3
            have es : ss (tlc 3 f) 2646 = sz := by rw [tlc_cnt (by decide) (by decide)]; exact h.1.symm
            by_cases z : sz = 0
            · refine ⟨.inl (1 : Int32), ((1 : Int32), 0), ?_, ?_, rfl, rfl⟩
              · unfold fX5_about
                rw [k_mem1 d, xb_l, k_rng1 q, xb_l]
                rw [if_neg (by decide), if_neg (by decide), if_neg (by decide)]
                unfold fX2_size
                rw [Option.bind_some, if_pos z]
              · unfold fX7_about
                rw [m_in d, Option.bind_some, m_in q, Option.bind_some]
                rw [m_th00, Option.bind_some, if_pos rfl]
                rw [m_t2 hN d h, Option.bind_some, if_pos rfl, es, if_pos z]
            · refine ⟨.inl (0 : Int32), ((0 : Int32), 0), ?_, ?_, rfl, rfl⟩
              · unfold fX5_about
                rw [k_mem1 d, xb_l, k_rng1 q, xb_l]
                rw [if_neg (by decide), if_neg (by decide), if_neg (by decide)]
                unfold fX2_size
                rw [Option.bind_some, if_neg z]
              · unfold fX7_about
                rw [m_in d, Option.bind_some, m_in q, Option.bind_some]
                rw [m_th00, Option.bind_some, if_pos rfl]
                rw [m_t2 hN d h, Option.bind_some, if_pos rfl, es, if_neg z]
    · refine ⟨(.inr "java/lang/IllegalArgumentException"), ((0 : Int32), 2), ?_, ?_, Or.inr ⟨rfl, rfl, rfl⟩, trivial⟩
      · unfold fX5_about
        rw [k_mem1 d, xb_l, k_rng0 q, xb_r]
      · unfold fX7_about
        rw [m_in d, Option.bind_some, m_out q, Option.bind_some]
        rw [m_th01, Option.bind_some, if_neg (by decide)]
  · by_cases q : Rg p1 0 3
    · refine ⟨(.inr "java/lang/IndexOutOfBoundsException"), ((0 : Int32), 1), ?_, ?_, Or.inl ⟨rfl, rfl⟩, trivial⟩
      · unfold fX5_about
        rw [k_mem0 d, xb_r]
      · unfold fX7_about
        rw [m_out d, Option.bind_some, m_in q, Option.bind_some]
        rw [m_th1, Option.bind_some, if_neg (by decide)]
    · refine ⟨(.inr "java/lang/IndexOutOfBoundsException"), ((0 : Int32), 1), ?_, ?_, Or.inl ⟨rfl, rfl⟩, trivial⟩
      · unfold fX5_about
        rw [k_mem0 d, xb_r]
      · unfold fX7_about
        rw [m_out d, Option.bind_some, m_out q, Option.bind_some]
        rw [m_th1, Option.bind_some, if_neg (by decide)]
theorem ty_has {N K : Nat} {th sz p0 p1 : Int32} {f g : Nat → Int32} (hN : NBig N) (hK : 100 ≤ K) (h : MT sz f g) : ∃ o y, fX5_has N K sz f p0 p1 = some o ∧ fX7_has N K th g p0 p1 = some y ∧ Ti false o y.2 (fun z => z = y.1 ∧ (y.1 = 0 ∨ y.1 = 1)) (True) := by
  have hN9 := hN.u
  have hN1 : 100 ≤ N := by omega
  by_cases d : Rg p0 0 2
  · by_cases z : ss (fun s => bi (so 3 p1 f s)) 2646 ≤ 0
    · refine ⟨.inl (0 : Int32), ((0 : Int32), 0), ?_, ?_, rfl, rfl, Or.inl rfl⟩
      · unfold fX5_has
        rw [k_mem1 d, xb_l]
        rw [c_many hN, Option.bind_some, if_pos z]
      · unfold fX7_has
        rw [m_in d, Option.bind_some]
        rw [m_th00, Option.bind_some, if_pos rfl]
        rw [m_cnt hN d h, Option.bind_some, if_pos z]
    · refine ⟨.inl (1 : Int32), ((1 : Int32), 0), ?_, ?_, rfl, rfl, Or.inr rfl⟩
      · unfold fX5_has
        rw [k_mem1 d, xb_l]
        rw [c_many hN, Option.bind_some, if_neg z]
      · unfold fX7_has
        rw [m_in d, Option.bind_some]
        rw [m_th00, Option.bind_some, if_pos rfl]
        rw [m_cnt hN d h, Option.bind_some, if_neg z]
  · refine ⟨(.inr "java/lang/IndexOutOfBoundsException"), ((0 : Int32), 1), ?_, ?_, Or.inl ⟨rfl, rfl⟩, trivial⟩
    · unfold fX5_has
      rw [k_mem0 d, xb_r]
    · unfold fX7_has
      rw [m_out d, Option.bind_some]
      rw [m_th1, Option.bind_some, if_neg (by decide)]
theorem ty_count {N K : Nat} {th sz p0 p1 p2 : Int32} {f g : Nat → Int32} (hN : NBig N) (hK : 100 ≤ K) (h : MT sz f g) : ∃ o y, fX5_count N K sz f p0 p1 p2 = some o ∧ fX7_count N K th g p0 p1 p2 = some y ∧ Ti true o y.2 (fun z => z = y.1) (True) := by
  have hN9 := hN.u
  have hN1 : 100 ≤ N := by omega
  by_cases d : Rg p0 0 2
  · by_cases q : Rg p1 0 3
    · refine ⟨.inl (ss (fun s => bi (so p1 p2 f s)) 2646), (ss (fun s => bi (so p1 p2 f s)) 2646, 0), ?_, ?_, rfl, rfl⟩
      · unfold fX5_count
        rw [k_mem1 d, xb_l, k_rng1 q, xb_l]
        rw [c_many hN, Option.bind_some]
      · unfold fX7_count
        rw [m_in d, Option.bind_some, m_in q, Option.bind_some]
        rw [m_th00, Option.bind_some, if_pos rfl]
        rw [m_cnt hN d h, Option.bind_some]
    · refine ⟨(.inr "java/lang/IllegalArgumentException"), ((0 : Int32), 2), ?_, ?_, Or.inr ⟨rfl, rfl, rfl⟩, trivial⟩
      · unfold fX5_count
        rw [k_mem1 d, xb_l, k_rng0 q, xb_r]
      · unfold fX7_count
        rw [m_in d, Option.bind_some, m_out q, Option.bind_some]
        rw [m_th01, Option.bind_some, if_neg (by decide)]
  · by_cases q : Rg p1 0 3
    · refine ⟨(.inr "java/lang/IndexOutOfBoundsException"), ((0 : Int32), 1), ?_, ?_, Or.inl ⟨rfl, rfl⟩, trivial⟩
      · unfold fX5_count
        rw [k_mem0 d, xb_r]
      · unfold fX7_count
        rw [m_out d, Option.bind_some, m_in q, Option.bind_some]
        rw [m_th1, Option.bind_some, if_neg (by decide)]
    · refine ⟨(.inr "java/lang/IndexOutOfBoundsException"), ((0 : Int32), 1), ?_, ?_, Or.inl ⟨rfl, rfl⟩, trivial⟩
      · unfold fX5_count
        rw [k_mem0 d, xb_r]
      · unfold fX7_count
        rw [m_out d, Option.bind_some, m_out q, Option.bind_some]
        rw [m_th1, Option.bind_some, if_neg (by decide)]
theorem ty_isSame {N K : Nat} {th sz tz p0 p1 : Int32} {f g f2 g2 : Nat → Int32} (hN : NBig N) (hK : 100 ≤ K) (h : MT sz f g) (h2 : MT tz f2 g2) : ∃ o y, fX5_isSame N K sz f tz f2 p0 p1 = some o ∧ fX7_isSame N K th g g2 p0 p1 = some y ∧ Ti false o y.2 (fun z => z = y.1 ∧ (y.1 = 0 ∨ y.1 = 1)) (True) := by
  have hN9 := hN.u
  have hN1 : 100 ≤ N := by omega
  by_cases d : Rg p0 0 2
  · by_cases q : Rg p1 0 2
    · have e1 := c_mlike_ (N := N) (K := K) (sz := sz) (tz := tz) (f := f) (g := f2) 2646 0 N rfl (by omega) (fun s hs => absurd hs (by omega))
      have e1' : fX2_isLike N K sz f tz f2 = some (bi (eqn f f2 2646)) := e1
      have i1 := m_mlike_ (N := N) (K := K) (th0 := th) (th := (0 : Int32)) (f := g) (g := g2) d q 6144 0 N rfl (by omega)
      rw [eqn_b h h2] at i1
      clear e1
      generalize eqn f f2 2646 = b at e1' i1
      refine ⟨.inl (bi b), (bi b, 0), ?_, ?_, rfl, rfl, bi_ok _⟩
      · unfold fX5_isSame
        rw [k_mem1 d, xb_l, k_mem1 q, xb_l]
        rw [e1', Option.bind_some, if_pos (bi_ok _)]
      · unfold fX7_isSame
        rw [m_in d, Option.bind_some, if_pos rfl, m_in q, Option.bind_some, if_pos rfl]
        unfold fX7_isSame_24
        rw [m_th00, Option.bind_some, if_pos rfl]
        exact i1
    · refine ⟨(.inr "java/lang/IndexOutOfBoundsException"), ((0 : Int32), 1), ?_, ?_, Or.inl ⟨rfl, rfl⟩, trivial⟩
      · unfold fX5_isSame
        rw [k_mem1 d, xb_l, k_mem0 q, xb_r]
      · unfold fX7_isSame
        rw [m_in d, Option.bind_some, if_pos rfl, m_out q, Option.bind_some, if_neg (by decide)]
        unfold fX7_isSame_19 fX7_isSame_24
        rw [m_th1, Option.bind_some, if_neg (by decide)]
  · by_cases q : Rg p1 0 2
    · refine ⟨(.inr "java/lang/IndexOutOfBoundsException"), ((0 : Int32), 1), ?_, ?_, Or.inl ⟨rfl, rfl⟩, trivial⟩
      · unfold fX5_isSame
        rw [k_mem0 d, xb_r]
      · unfold fX7_isSame
        rw [m_out d, Option.bind_some, if_neg (by decide)]
        unfold fX7_isSame_19 fX7_isSame_24
        rw [m_th1, Option.bind_some, if_neg (by decide)]
    · refine ⟨(.inr "java/lang/IndexOutOfBoundsException"), ((0 : Int32), 1), ?_, ?_, Or.inl ⟨rfl, rfl⟩, trivial⟩
      · unfold fX5_isSame
        rw [k_mem0 d, xb_r]
      · unfold fX7_isSame
        rw [m_out d, Option.bind_some, if_neg (by decide)]
        unfold fX7_isSame_19 fX7_isSame_24
        rw [m_th1, Option.bind_some, if_neg (by decide)]
theorem ty_isSameOwn {N K : Nat} {th sz p0 : Int32} {f g : Nat → Int32} (hN : NBig N) (hK : 100 ≤ K)  : ∃ o y, fX5_isSameOwn N K sz f p0 = some o ∧ fX7_isSameOwn N K th g p0 = some y ∧ Ti false o y.2 (fun z => z = y.1 ∧ (y.1 = 0 ∨ y.1 = 1)) (True) := by
  have hN9 := hN.u
  have hN1 : 100 ≤ N := by omega
  by_cases d : Rg p0 0 2
  · have e1 := c_mlikeO_ (N := N) (K := K) (sz := sz) (f := f) 2646 0 N rfl (by omega)
    have e1' : fX2_isLikeOwn N K sz f = some 1 := e1
    refine ⟨.inl (1 : Int32), ((1 : Int32), 0), ?_, ?_, rfl, rfl, Or.inr rfl⟩
    · unfold fX5_isSameOwn
      rw [k_mem1 d, xb_l, xb_l]
      rw [e1', Option.bind_some, if_pos (Or.inr rfl)]
    · unfold fX7_isSameOwn
      rw [m_in d, Option.bind_some, if_pos rfl, Option.bind_some, if_pos rfl]
      unfold fX7_isSameOwn_24
      rw [m_th00, Option.bind_some, if_pos rfl]
      exact m_mlikeO_ (N := N) (K := K) (th0 := th) (th := (0 : Int32)) (f := g) d 6144 0 N rfl (by omega)
  · refine ⟨(.inr "java/lang/IndexOutOfBoundsException"), ((0 : Int32), 1), ?_, ?_, Or.inl ⟨rfl, rfl⟩, trivial⟩
    · unfold fX5_isSameOwn
      rw [k_mem0 d, xb_r]
    · unfold fX7_isSameOwn
      rw [m_out d, Option.bind_some, if_neg (by decide)]
      unfold fX7_isSameOwn_19 fX7_isSameOwn_24
      rw [m_th1, Option.bind_some, if_neg (by decide)]
