/-! ===== the desks' methods on both sides ===== -/
theorem ty_addPart {N K : Nat} {th : Int32} {f g t : Nat → Int32} {c0 c1 c2 c3 c4 c5 : Int32} {p0 p1 p2 : Int32} (hN : NBig N) (hK : 100 ≤ K) (h : DD f g) : ∃ o y, fX5_addPart N K f c0 c1 c2 c3 c4 c5 p0 p1 p2 = some o ∧ fX7_addPart N K th g t p0 p1 p2 = some y ∧ Ti true o y.2.1 (fun z => z.1 = y.1 ∧ DD z.2.1 y.2.2.1 ∧ KT c0 c1 c2 c3 c4 t z.2.2.1 c1 c2 c3 z.2.2.2 y.2.2.2) (y.2.2.1 = g ∧ y.2.2.2 = t) := by
  have hN9 := hN.u
  have hN1 : 100 ≤ N := by omega
  obtain ⟨w, hf, hg⟩ := h
  have hwn := hf.1
  by_cases d : Rg p0 0 1
  · by_cases r1 : Rg p1 1 20
    · by_cases r2 : Rg p2 1 20
      · have dd : ¬ (p0 < 0 ∨ 2 ≤ p0.toNatClampNeg) := d.dd
        obtain ⟨m, rfl, m1, m2⟩ := Rg.n (a := 1) (b := 20) r1 (by omega) (by omega)
        obtain ⟨n, rfl, n1, n2⟩ := Rg.n (a := 1) (b := 20) r2 (by omega) (by omega)
        have hmn := Nat.mul_le_mul m2 n2
        by_cases e : wn w + m * n ≤ 20
        · obtain ⟨g1, e1, e2⟩ := c_put (N := N) (K := K) hf.2 (p := m) (t := n) m1 m2
          have e3 := wn_upm (w := w) (p := m) (v := w m + n) m1 m2
          rw [Nat.mul_add] at e3
          refine ⟨.inl (Int32.ofNat (w m + n), g1, c0 + (1 : Int32), c4), (Int32.ofNat (w m + n), 0, upd g m (Int32.ofNat (w m + n)), dn t), ?_, ?_, rfl, rfl, ⟨upm w m (w m + n), ⟨by omega, e2⟩, ⟨by omega, hg.2.put⟩⟩, KT.done⟩
          · unfold fX5_addPart
            rw [k_desk1 d, xb_l, k_rng1 r1, xb_l, k_rng1 r2, xb_l]
            rw [c_sum hN1 hf.2, Option.bind_some, o_mul, o_add, if_pos (by rw [show (20 : Int32) = Int32.ofNat 20 from rfl, o_le (by omega) (by omega)]; exact e), e1, Option.bind_some, c_times e2 m1 m2, Option.bind_some, upm_at, k_act, Option.bind_some]
          · unfold fX7_addPart
            rw [m_in d, Option.bind_some, m_in r1, Option.bind_some, if_pos rfl, m_in r2, Option.bind_some, if_pos rfl]
            unfold fX7_addPart_32
            rw [m_th00, Option.bind_some, if_pos rfl]
            rw [if_neg dd, m_sum hN1 hg.2, Option.bind_some, o_mul, o_add, if_pos (by rw [show (20 : Int32) = Int32.ofNat 20 from rfl, o_le (by omega) (by omega)]; exact e), if_neg dd, if_neg (o_ob (by omega) (by omega)), if_neg (o_ob (by omega) (by omega)), if_neg dd, if_neg (o_ob (by omega) (by omega)), m_done, Option.bind_some, o_c (by omega), hg.2 m m1 m2, o_add, upd_at]
        · refine ⟨.inl ((-9 : Int32), f, c0, c4 + (1 : Int32)), ((-9 : Int32), 0, g, rf t), ?_, ?_, rfl, rfl, ⟨w, hf, hg⟩, KT.refu⟩
          · unfold fX5_addPart
            rw [k_desk1 d, xb_l, k_rng1 r1, xb_l, k_rng1 r2, xb_l]
            rw [c_sum hN1 hf.2, Option.bind_some, o_mul, o_add, if_neg (by rw [show (20 : Int32) = Int32.ofNat 20 from rfl, o_le (by omega) (by omega)]; exact e), k_und, Option.bind_some]
          · unfold fX7_addPart
            rw [m_in d, Option.bind_some, m_in r1, Option.bind_some, if_pos rfl, m_in r2, Option.bind_some, if_pos rfl]
            unfold fX7_addPart_32
            rw [m_th00, Option.bind_some, if_pos rfl]
            rw [if_neg dd, m_sum hN1 hg.2, Option.bind_some, o_mul, o_add, if_neg (by rw [show (20 : Int32) = Int32.ofNat 20 from rfl, o_le (by omega) (by omega)]; exact e), m_ref, Option.bind_some]
      · refine ⟨(.inr "java/lang/IllegalArgumentException"), ((0 : Int32), 2, g, t), ?_, ?_, Or.inr ⟨rfl, rfl, rfl⟩, ⟨rfl, rfl⟩⟩
        · unfold fX5_addPart
          rw [k_desk1 d, xb_l, k_rng1 r1, xb_l, k_rng0 r2, xb_r]
        · unfold fX7_addPart
          rw [m_in d, Option.bind_some, m_in r1, Option.bind_some, if_pos rfl, m_out r2, Option.bind_some, if_neg (by decide)]
          unfold fX7_addPart_27 fX7_addPart_32
          rw [m_th01, Option.bind_some, if_neg (by decide)]
    · by_cases r2 : Rg p2 1 20
      · refine ⟨(.inr "java/lang/IllegalArgumentException"), ((0 : Int32), 2, g, t), ?_, ?_, Or.inr ⟨rfl, rfl, rfl⟩, ⟨rfl, rfl⟩⟩
        · unfold fX5_addPart
          rw [k_desk1 d, xb_l, k_rng0 r1, xb_r]
        · unfold fX7_addPart
          rw [m_in d, Option.bind_some, m_out r1, Option.bind_some, if_neg (by decide)]
          unfold fX7_addPart_27 fX7_addPart_32
          rw [m_th01, Option.bind_some, if_neg (by decide)]
      · refine ⟨(.inr "java/lang/IllegalArgumentException"), ((0 : Int32), 2, g, t), ?_, ?_, Or.inr ⟨rfl, rfl, rfl⟩, ⟨rfl, rfl⟩⟩
        · unfold fX5_addPart
          rw [k_desk1 d, xb_l, k_rng0 r1, xb_r]
        · unfold fX7_addPart
          rw [m_in d, Option.bind_some, m_out r1, Option.bind_some, if_neg (by decide)]
          unfold fX7_addPart_27 fX7_addPart_32
          rw [m_th01, Option.bind_some, if_neg (by decide)]
  · by_cases r1 : Rg p1 1 20
    · by_cases r2 : Rg p2 1 20
      · refine ⟨(.inr "java/lang/IndexOutOfBoundsException"), ((0 : Int32), 1, g, t), ?_, ?_, Or.inl ⟨rfl, rfl⟩, ⟨rfl, rfl⟩⟩
        · unfold fX5_addPart
          rw [k_desk0 d, xb_r]
        · unfold fX7_addPart
          rw [m_out d, Option.bind_some, m_in r1, Option.bind_some, if_pos rfl, m_in r2, Option.bind_some, if_pos rfl]
          unfold fX7_addPart_32
          rw [m_th1, Option.bind_some, if_neg (by decide)]
      · refine ⟨(.inr "java/lang/IndexOutOfBoundsException"), ((0 : Int32), 1, g, t), ?_, ?_, Or.inl ⟨rfl, rfl⟩, ⟨rfl, rfl⟩⟩
        · unfold fX5_addPart
          rw [k_desk0 d, xb_r]
        · unfold fX7_addPart
          rw [m_out d, Option.bind_some, m_in r1, Option.bind_some, if_pos rfl, m_out r2, Option.bind_some, if_neg (by decide)]
          unfold fX7_addPart_27 fX7_addPart_32
          rw [m_th1, Option.bind_some, if_neg (by decide)]
    · by_cases r2 : Rg p2 1 20
      · refine ⟨(.inr "java/lang/IndexOutOfBoundsException"), ((0 : Int32), 1, g, t), ?_, ?_, Or.inl ⟨rfl, rfl⟩, ⟨rfl, rfl⟩⟩
        · unfold fX5_addPart
          rw [k_desk0 d, xb_r]
        · unfold fX7_addPart
          rw [m_out d, Option.bind_some, m_out r1, Option.bind_some, if_neg (by decide)]
          unfold fX7_addPart_27 fX7_addPart_32
          rw [m_th1, Option.bind_some, if_neg (by decide)]
      · refine ⟨(.inr "java/lang/IndexOutOfBoundsException"), ((0 : Int32), 1, g, t), ?_, ?_, Or.inl ⟨rfl, rfl⟩, ⟨rfl, rfl⟩⟩
        · unfold fX5_addPart
          rw [k_desk0 d, xb_r]
        · unfold fX7_addPart
          rw [m_out d, Option.bind_some, m_out r1, Option.bind_some, if_neg (by decide)]
          unfold fX7_addPart_27 fX7_addPart_32
          rw [m_th1, Option.bind_some, if_neg (by decide)]
theorem ty_takePart {N K : Nat} {th : Int32} {f g t : Nat → Int32} {c0 c1 c2 c3 c4 c5 : Int32} {p0 p1 : Int32} (hN : NBig N) (hK : 100 ≤ K) (h : DD f g) : ∃ o y, fX5_takePart N K f c0 c1 c2 c3 c4 c5 p0 p1 = some o ∧ fX7_takePart N K th g t p0 p1 = some y ∧ Ti true o y.2.1 (fun z => z.1 = y.1 ∧ DD z.2.1 y.2.2.1 ∧ KT c0 c1 c2 c3 c4 t z.2.2.1 c1 c2 c3 z.2.2.2 y.2.2.2) (y.2.2.1 = g ∧ y.2.2.2 = t) := by
  have hN9 := hN.u
  have hN1 : 100 ≤ N := by omega
  obtain ⟨w, hf, hg⟩ := h
  have hwn := hf.1
  by_cases d : Rg p0 0 1
  · by_cases r1 : Rg p1 1 20
    · have dd : ¬ (p0 < 0 ∨ 2 ≤ p0.toNatClampNeg) := d.dd
      obtain ⟨m, rfl, m1, m2⟩ := Rg.n (a := 1) (b := 20) r1 (by omega) (by omega)
      have hwm := wn_le1 (w := w) m1 m2
      by_cases e : w m = 0
      · refine ⟨.inl ((-9 : Int32), f, c0, c4 + (1 : Int32)), ((-9 : Int32), 0, g, rf t), ?_, ?_, rfl, rfl, ⟨w, hf, hg⟩, KT.refu⟩
        · unfold fX5_takePart
          rw [k_desk1 d, xb_l, k_rng1 r1, xb_l]
          rw [c_times hf.2 m1 m2, Option.bind_some, if_pos (by rw [e]; rfl), k_und, Option.bind_some]
        · unfold fX7_takePart
          rw [m_in d, Option.bind_some, m_in r1, Option.bind_some]
          rw [m_th00, Option.bind_some, if_pos rfl]
          rw [if_neg dd, if_neg (o_ob (by omega) (by omega)), o_c (by omega), hg.2 m m1 m2, if_pos (by rw [e]; rfl), m_ref, Option.bind_some]
      · obtain ⟨g1, e1, e2⟩ := c_take (N := N) (K := K) hf.2 (p := m) m1 m2 (by omega)
        have e3 := wn_take (w := w) m1 m2 (by omega)
        obtain ⟨v, hv⟩ : ∃ v, w m = v + 1 := ⟨w m - 1, by omega⟩
        rw [hv, show v + 1 - 1 = v from by omega] at e2 e3
        refine ⟨.inl (Int32.ofNat v, g1, c0 + (1 : Int32), c4), (Int32.ofNat v, 0, upd g m (Int32.ofNat v), dn t), ?_, ?_, rfl, rfl, ⟨upm w m v, ⟨by omega, e2⟩, ⟨by omega, hg.2.put⟩⟩, KT.done⟩
        · unfold fX5_takePart
          rw [k_desk1 d, xb_l, k_rng1 r1, xb_l]
          rw [c_times hf.2 m1 m2, Option.bind_some, if_neg (by rw [show (0 : Int32) = Int32.ofNat 0 from rfl, o_eq (by omega) (by omega)]; exact e), e1, Option.bind_some, c_times e2 m1 m2, Option.bind_some, upm_at, k_act, Option.bind_some]
        · unfold fX7_takePart
          rw [m_in d, Option.bind_some, m_in r1, Option.bind_some]
          rw [m_th00, Option.bind_some, if_pos rfl]
          rw [if_neg dd, if_neg (o_ob (by omega) (by omega)), o_c (by omega), hg.2 m m1 m2, if_neg (by rw [show (0 : Int32) = Int32.ofNat 0 from rfl, o_eq (by omega) (by omega)]; exact e), if_neg dd, if_neg (o_ob2 (by omega) (by omega)), if_neg (o_ob2 (by omega) (by omega)), if_neg dd, if_neg (o_ob2 (by omega) (by omega)), m_done, Option.bind_some, hv, o_s1, upd_at]
    · refine ⟨(.inr "java/lang/IllegalArgumentException"), ((0 : Int32), 2, g, t), ?_, ?_, Or.inr ⟨rfl, rfl, rfl⟩, ⟨rfl, rfl⟩⟩
      · unfold fX5_takePart
        rw [k_desk1 d, xb_l, k_rng0 r1, xb_r]
      · unfold fX7_takePart
        rw [m_in d, Option.bind_some, m_out r1, Option.bind_some]
        rw [m_th01, Option.bind_some, if_neg (by decide)]
  · by_cases r1 : Rg p1 1 20
    · refine ⟨(.inr "java/lang/IndexOutOfBoundsException"), ((0 : Int32), 1, g, t), ?_, ?_, Or.inl ⟨rfl, rfl⟩, ⟨rfl, rfl⟩⟩
      · unfold fX5_takePart
        rw [k_desk0 d, xb_r]
      · unfold fX7_takePart
        rw [m_out d, Option.bind_some, m_in r1, Option.bind_some]
        rw [m_th1, Option.bind_some, if_neg (by decide)]
    · refine ⟨(.inr "java/lang/IndexOutOfBoundsException"), ((0 : Int32), 1, g, t), ?_, ?_, Or.inl ⟨rfl, rfl⟩, ⟨rfl, rfl⟩⟩
      · unfold fX5_takePart
        rw [k_desk0 d, xb_r]
      · unfold fX7_takePart
        rw [m_out d, Option.bind_some, m_out r1, Option.bind_some]
        rw [m_th1, Option.bind_some, if_neg (by decide)]
theorem ty_layFirst {N K : Nat} {th : Int32} {f g t : Nat → Int32} {c0 c1 c2 c3 c4 c5 : Int32} {p0 p1 : Int32} (hN : NBig N) (hK : 100 ≤ K) (h : DD f g) : ∃ o y, fX5_layFirst N K f c0 c1 c2 c3 c4 c5 p0 p1 = some o ∧ fX7_layFirst N K th g t p0 p1 = some y ∧ Ti true o y.2.1 (fun z => z.1 = y.1 ∧ DD z.2.1 y.2.2.1 ∧ KT c0 c1 c2 c3 c4 t z.2.2 c1 c2 c3 c4 y.2.2.2) (y.2.2.1 = g ∧ y.2.2.2 = t) := by
  have hN9 := hN.u
  have hN1 : 100 ≤ N := by omega
  obtain ⟨w, hf, hg⟩ := h
  have hwn := hf.1
  by_cases d : Rg p0 0 1
  · by_cases r1 : Rg p1 0 20
    · have dd : ¬ (p0 < 0 ∨ 2 ≤ p0.toNatClampNeg) := d.dd
      obtain ⟨n, rfl, -, n2⟩ := Rg.n (a := 0) (b := 20) r1 (by omega) (by omega)
      obtain ⟨g1, e1, e2⟩ := c_first (N := N) (K := K) hN1 (f := f) n2
      obtain ⟨g2, e3, e4⟩ := m_first (N := N) (K := K) n2
      obtain ⟨g3, e5, e6⟩ := m_laid (th := (0 : Int32)) (f := g) (t := t) hN hK dd e4
      refine ⟨.inl (Int32.ofNat (wp (firstw n)), g1, c0 + (1 : Int32)), (Int32.ofNat (wp (firstw n)), 0, g3, dn t), ?_, ?_, rfl, rfl, ⟨firstw n, e2, e6⟩, KT.done⟩
      · unfold fX5_layFirst
        rw [k_desk1 d, xb_l, k_rng1 r1, xb_l]
        rw [e1, Option.bind_some, c_parts hN1 e2.2, Option.bind_some, k_act, Option.bind_some]
      · unfold fX7_layFirst
        rw [m_in d, Option.bind_some, m_in r1, Option.bind_some]
        rw [m_th00, Option.bind_some, if_pos rfl]
        rw [e3, Option.bind_some, e5, Option.bind_some]
    · refine ⟨(.inr "java/lang/IllegalArgumentException"), ((0 : Int32), 2, g, t), ?_, ?_, Or.inr ⟨rfl, rfl, rfl⟩, ⟨rfl, rfl⟩⟩
      · unfold fX5_layFirst
        rw [k_desk1 d, xb_l, k_rng0 r1, xb_r]
      · unfold fX7_layFirst
        rw [m_in d, Option.bind_some, m_out r1, Option.bind_some]
        rw [m_th01, Option.bind_some, if_neg (by decide)]
  · by_cases r1 : Rg p1 0 20
    · refine ⟨(.inr "java/lang/IndexOutOfBoundsException"), ((0 : Int32), 1, g, t), ?_, ?_, Or.inl ⟨rfl, rfl⟩, ⟨rfl, rfl⟩⟩
      · unfold fX5_layFirst
        rw [k_desk0 d, xb_r]
      · unfold fX7_layFirst
        rw [m_out d, Option.bind_some, m_in r1, Option.bind_some]
        rw [m_th1, Option.bind_some, if_neg (by decide)]
    · refine ⟨(.inr "java/lang/IndexOutOfBoundsException"), ((0 : Int32), 1, g, t), ?_, ?_, Or.inl ⟨rfl, rfl⟩, ⟨rfl, rfl⟩⟩
      · unfold fX5_layFirst
        rw [k_desk0 d, xb_r]
      · unfold fX7_layFirst
        rw [m_out d, Option.bind_some, m_out r1, Option.bind_some]
        rw [m_th1, Option.bind_some, if_neg (by decide)]
theorem ty_next {N K : Nat} {th : Int32} {f g t : Nat → Int32} {c0 c1 c2 c3 c4 c5 : Int32} {p0 : Int32} (hN : NBig N) (hK : 100 ≤ K) (h : DD f g) : ∃ o y, fX5_next N K f c0 c1 c2 c3 c4 c5 p0 = some o ∧ fX7_next N K th g t p0 = some y ∧ Ti false o y.2.1 (fun z => z.1 = y.1 ∧ DD z.2.1 y.2.2.1 ∧ KT c0 c1 c2 c3 c4 t z.2.2.1 c1 c2 c3 z.2.2.2 y.2.2.2) (y.2.2.1 = g ∧ y.2.2.2 = t) := by
  have hN9 := hN.u
  have hN1 : 100 ≤ N := by omega
  obtain ⟨w, hf, hg⟩ := h
  have hwn := hf.1
  by_cases d : Rg p0 0 1
  · have dd : ¬ (p0 < 0 ∨ 2 ≤ p0.toNatClampNeg) := d.dd
    obtain ⟨g1, e1, e2⟩ := c_step (N := N) (K := K) hN1 hf
    obtain ⟨g2, e3, e4⟩ := m_step (N := N) (K := K) hN1 hg
    by_cases e : lst w = 0
    · rw [if_pos e] at e1 e2 e3 e4
      refine ⟨.inl ((-9 : Int32), g1, c0, c4 + (1 : Int32)), ((-9 : Int32), 0, g2, rf t), ?_, ?_, rfl, rfl, ⟨w, e2, e4⟩, KT.refu⟩
      · unfold fX5_next
        rw [k_desk1 d, xb_l]
        rw [e1, Option.bind_some, if_pos rfl, k_und, Option.bind_some]
      · unfold fX7_next
        rw [m_in d, Option.bind_some]
        rw [m_th00, Option.bind_some, if_pos rfl]
        rw [if_neg dd, e3, Option.bind_some, if_pos rfl, m_ref, Option.bind_some]
    · rw [if_neg e] at e1 e2 e3 e4
      refine ⟨.inl (Int32.ofNat (wp (stw w (lst w))), g1, c0 + (1 : Int32), c4), (Int32.ofNat (wp (stw w (lst w))), 0, g2, dn t), ?_, ?_, rfl, rfl, ⟨stw w (lst w), e2, e4⟩, KT.done⟩
      · unfold fX5_next
        rw [k_desk1 d, xb_l]
        rw [e1, Option.bind_some, if_neg (show ¬ ((1 : Int32) = 0) from by decide), c_parts hN1 e2.2, Option.bind_some, k_act, Option.bind_some]
      · unfold fX7_next
        rw [m_in d, Option.bind_some]
        rw [m_th00, Option.bind_some, if_pos rfl]
        rw [if_neg dd, e3, Option.bind_some, if_neg (show ¬ ((1 : Int32) = 0) from by decide), if_neg dd, m_parts hN1 e4.2, Option.bind_some, m_done, Option.bind_some]
  · refine ⟨(.inr "java/lang/IndexOutOfBoundsException"), ((0 : Int32), 1, g, t), ?_, ?_, Or.inl ⟨rfl, rfl⟩, ⟨rfl, rfl⟩⟩
    · unfold fX5_next
      rw [k_desk0 d, xb_r]
    · unfold fX7_next
      rw [m_out d, Option.bind_some]
      rw [m_th1, Option.bind_some, if_neg (by decide)]
theorem ty_turn {N K : Nat} {th : Int32} {f g t fs : Nat → Int32} {c0 c1 c2 c3 c4 c5 : Int32} {p0 : Int32} (hN : NBig N) (hK : 100 ≤ K) (h : DD f g) : ∃ o y, fX5_turn N K f c0 c1 c2 c3 c4 c5 fs p0 = some o ∧ fX7_turn N K th g t p0 = some y ∧ Ti false o y.2.1 (fun z => z.1 = y.1 ∧ DD z.2.1 y.2.2.1 ∧ KT c0 c1 c2 c3 c4 t z.2.2.1 c1 c2 c3 c4 y.2.2.2) (y.2.2.1 = g ∧ y.2.2.2 = t) := by
  have hN9 := hN.u
  have hN1 : 100 ≤ N := by omega
  obtain ⟨w, hf, hg⟩ := h
  have hwn := hf.1
  by_cases d : Rg p0 0 1
  · have dd : ¬ (p0 < 0 ∨ 2 ≤ p0.toNatClampNeg) := d.dd
    obtain ⟨g1, e1, e2⟩ := c_turn (N := N) (K := K) hN1 (f := fs) hf
    obtain ⟨g2, e3, e4⟩ := m_turn (N := N) (K := K) hN1 hg
    obtain ⟨g3, e5, e6⟩ := m_laid (th := (0 : Int32)) (f := g) (t := t) hN hK dd e4
    obtain ⟨g4, e7, e8⟩ := c_become (N := N) (K := K) (f := f) e2.2
    by_cases e : eqw (turnw w) w = true
    · refine ⟨.inl ((0 : Int32), g4, c0 + (1 : Int32), g1), ((0 : Int32), 0, g3, dn t), ?_, ?_, rfl, rfl, ⟨turnw w, ⟨e2.1, e8⟩, e6⟩, KT.done⟩
      · unfold fX5_turn
        rw [k_desk1 d, xb_l]
        rw [e1, Option.bind_some, c_like hN1 e2 hf, Option.bind_some, if_neg (by rw [e]; decide)]
        unfold fX5_turn_30
        rw [e7, Option.bind_some, if_pos rfl]
        rfl
      · unfold fX7_turn
        rw [m_in d, Option.bind_some]
        rw [m_th00, Option.bind_some, if_pos rfl]
        rw [if_neg dd, e3, Option.bind_some, if_neg dd, m_same hN1 e4 hg, Option.bind_some, if_neg (by rw [e]; decide)]
        unfold fX7_turn_44
        rw [e5, Option.bind_some]
        rfl
    · refine ⟨.inl ((1 : Int32), g4, c0 + (1 : Int32), g1), ((1 : Int32), 0, g3, dn t), ?_, ?_, rfl, rfl, ⟨turnw w, ⟨e2.1, e8⟩, e6⟩, KT.done⟩
      · unfold fX5_turn
        rw [k_desk1 d, xb_l]
        rw [e1, Option.bind_some, c_like hN1 e2 hf, Option.bind_some, if_pos (by rw [Bool.eq_false_iff.mpr e]; decide)]
        unfold fX5_turn_30
        rw [e7, Option.bind_some, if_neg (by decide)]
        rfl
      · unfold fX7_turn
        rw [m_in d, Option.bind_some]
        rw [m_th00, Option.bind_some, if_pos rfl]
        rw [if_neg dd, e3, Option.bind_some, if_neg dd, m_same hN1 e4 hg, Option.bind_some, if_pos (by rw [Bool.eq_false_iff.mpr e]; decide)]
        unfold fX7_turn_44
        rw [e5, Option.bind_some]
        rfl
  · refine ⟨(.inr "java/lang/IndexOutOfBoundsException"), ((0 : Int32), 1, g, t), ?_, ?_, Or.inl ⟨rfl, rfl⟩, ⟨rfl, rfl⟩⟩
    · unfold fX5_turn
      rw [k_desk0 d, xb_r]
    · unfold fX7_turn
      rw [m_out d, Option.bind_some]
      rw [m_th1, Option.bind_some, if_neg (by decide)]
theorem ty_toUnlike {N K : Nat} {th : Int32} {f g t fs : Nat → Int32} {c0 c1 c2 c3 c4 c5 : Int32} {p0 : Int32} (hN : NBig N) (hK : 100 ≤ K) (h : DD f g) : ∃ o y, fX5_toUnlike N K f c0 c1 c2 c3 c4 c5 fs p0 = some o ∧ fX7_toUnlike N K th g t p0 = some y ∧ Ti false o y.2.1 (fun z => z.1 = y.1 ∧ DD z.2.1 y.2.2.1 ∧ KT c0 c1 c2 c3 c4 t z.2.2.1 c1 c2 c3 z.2.2.2.1 y.2.2.2) (y.2.2.1 = g ∧ y.2.2.2 = t) := by
  have hN9 := hN.u
  have hN1 : 100 ≤ N := by omega
  obtain ⟨w, hf, hg⟩ := h
  have hwn := hf.1
  by_cases d : Rg p0 0 1
  · have dd : ¬ (p0 < 0 ∨ 2 ≤ p0.toNatClampNeg) := d.dd
    obtain ⟨g1, e1, e2⟩ := c_unlike (N := N) (K := K) hN1 (f := fs) hf
    by_cases e : odw w = true
    · obtain ⟨g4, e7, e8⟩ := c_become (N := N) (K := K) (f := f) e2.2
      obtain ⟨g3, e5, e6⟩ := m_ulo (N := N) (K := K) (th := th) (f0 := g) (t0 := t) (th1 := (0 : Int32)) (t := t) hN hK dd hg 20 0 N (fun _ => 0) (fun _ => 0) rfl (by omega) (fun _ _ _ => rfl) e2.1
      refine ⟨.inl (Int32.ofNat (wp (unlikew w)), g4, c0 + (1 : Int32), c4, g1), (Int32.ofNat (wp (unlikew w)), 0, g3, dn t), ?_, ?_, rfl, rfl, ⟨unlikew w, ⟨e2.1, e8⟩, e6⟩, KT.done⟩
      · unfold fX5_toUnlike
        rw [k_desk1 d, xb_l]
        rw [c_oddq hN1 hf, Option.bind_some, if_neg (by rw [e]; decide), e1, Option.bind_some, e7, Option.bind_some, c_parts hN1 e8, Option.bind_some, k_act, Option.bind_some]
      · unfold fX7_toUnlike
        rw [m_in d, Option.bind_some]
        rw [m_th00, Option.bind_some, if_pos rfl]
        rw [if_neg dd, m_oddq hN1 hg, Option.bind_some, if_neg (by rw [e]; decide)]
        exact e5
    · refine ⟨.inl ((-9 : Int32), f, c0, c4 + (1 : Int32), fs), ((-9 : Int32), 0, g, rf t), ?_, ?_, rfl, rfl, ⟨w, hf, hg⟩, KT.refu⟩
      · unfold fX5_toUnlike
        rw [k_desk1 d, xb_l]
        rw [c_oddq hN1 hf, Option.bind_some, if_pos (by rw [Bool.eq_false_iff.mpr e]; decide), k_und, Option.bind_some]
      · unfold fX7_toUnlike
        rw [m_in d, Option.bind_some]
        rw [m_th00, Option.bind_some, if_pos rfl]
        rw [if_neg dd, m_oddq hN1 hg, Option.bind_some, if_pos (by rw [Bool.eq_false_iff.mpr e]; decide), m_ref, Option.bind_some]
  · refine ⟨(.inr "java/lang/IndexOutOfBoundsException"), ((0 : Int32), 1, g, t), ?_, ?_, Or.inl ⟨rfl, rfl⟩, ⟨rfl, rfl⟩⟩
    · unfold fX5_toUnlike
      rw [k_desk0 d, xb_r]
    · unfold fX7_toUnlike
      rw [m_out d, Option.bind_some]
      rw [m_th1, Option.bind_some, if_neg (by decide)]
theorem ty_toOdd {N K : Nat} {th : Int32} {f g t fs : Nat → Int32} {c0 c1 c2 c3 c4 c5 : Int32} {p0 : Int32} (hN : NBig N) (hK : 100 ≤ K) (h : DD f g) : ∃ o y, fX5_toOdd N K f c0 c1 c2 c3 c4 c5 fs p0 = some o ∧ fX7_toOdd N K th g t p0 = some y ∧ Ti false o y.2.1 (fun z => z.1 = y.1 ∧ DD z.2.1 y.2.2.1 ∧ KT c0 c1 c2 c3 c4 t z.2.2.1 c1 c2 c3 z.2.2.2.1 y.2.2.2) (y.2.2.1 = g ∧ y.2.2.2 = t) := by
  have hN9 := hN.u
  have hN1 : 100 ≤ N := by omega
  obtain ⟨w, hf, hg⟩ := h
  have hwn := hf.1
  by_cases d : Rg p0 0 1
  · have dd : ¬ (p0 < 0 ∨ 2 ≤ p0.toNatClampNeg) := d.dd
    obtain ⟨g1, e1, e2⟩ := c_odd (N := N) (K := K) hN1 (f := fs) hf
    by_cases e : unw w = true
    · obtain ⟨g4, e7, e8⟩ := c_become (N := N) (K := K) (f := f) e2.2
      obtain ⟨g3, e5, e6⟩ := m_odo (N := N) (K := K) (th := th) (f0 := g) (t0 := t) (th1 := (0 : Int32)) (t := t) hN hK dd hg 20 0 N (fun _ => 0) (fun _ => 0) rfl (by omega) (fun _ _ _ => rfl) e2.1
      refine ⟨.inl (Int32.ofNat (wp (oddw w)), g4, c0 + (1 : Int32), c4, g1), (Int32.ofNat (wp (oddw w)), 0, g3, dn t), ?_, ?_, rfl, rfl, ⟨oddw w, ⟨e2.1, e8⟩, e6⟩, KT.done⟩
      · unfold fX5_toOdd
        rw [k_desk1 d, xb_l]
        rw [c_unl hN1 hf, Option.bind_some, if_neg (by rw [e]; decide), e1, Option.bind_some, e7, Option.bind_some, c_parts hN1 e8, Option.bind_some, k_act, Option.bind_some]
      · unfold fX7_toOdd
        rw [m_in d, Option.bind_some]
        rw [m_th00, Option.bind_some, if_pos rfl]
        rw [if_neg dd, m_unl hN1 hg, Option.bind_some, if_neg (by rw [e]; decide)]
        exact e5
    · refine ⟨.inl ((-9 : Int32), f, c0, c4 + (1 : Int32), fs), ((-9 : Int32), 0, g, rf t), ?_, ?_, rfl, rfl, ⟨w, hf, hg⟩, KT.refu⟩
      · unfold fX5_toOdd
        rw [k_desk1 d, xb_l]
        rw [c_unl hN1 hf, Option.bind_some, if_pos (by rw [Bool.eq_false_iff.mpr e]; decide), k_und, Option.bind_some]
      · unfold fX7_toOdd
        rw [m_in d, Option.bind_some]
        rw [m_th00, Option.bind_some, if_pos rfl]
        rw [if_neg dd, m_unl hN1 hg, Option.bind_some, if_pos (by rw [Bool.eq_false_iff.mpr e]; decide), m_ref, Option.bind_some]
  · refine ⟨(.inr "java/lang/IndexOutOfBoundsException"), ((0 : Int32), 1, g, t), ?_, ?_, Or.inl ⟨rfl, rfl⟩, ⟨rfl, rfl⟩⟩
    · unfold fX5_toOdd
      rw [k_desk0 d, xb_r]
    · unfold fX7_toOdd
      rw [m_out d, Option.bind_some]
      rw [m_th1, Option.bind_some, if_neg (by decide)]
theorem ty_copyDesk {N K : Nat} {th : Int32} {f g t f2 g2 : Nat → Int32} {c0 c1 c2 c3 c4 c5 : Int32} {p0 : Int32} (hN : NBig N) (hK : 100 ≤ K) (h : DD f g) : ∃ o y, fX5_copyDesk N K f f2 c0 c1 c2 c3 c4 c5 p0 = some o ∧ fX7_copyDesk N K th g g2 t p0 = some y ∧ Ti false o y.2.1 (fun z => z.1 = y.1 ∧ DD z.2.1 y.2.2.1 ∧ KT c0 c1 c2 c3 c4 t z.2.2 c1 c2 c3 c4 y.2.2.2) (y.2.2.1 = g2 ∧ y.2.2.2 = t) := by
  have hN9 := hN.u
  have hN1 : 100 ≤ N := by omega
  obtain ⟨w, hf, hg⟩ := h
  have hwn := hf.1
  by_cases d : Rg p0 0 1
  · have q0 : (0 : Int32).toInt = 0 := by decide
    have q1 : (1 : Int32).toInt = 1 := by decide
    have dd : ¬ (p0 < 0 ∨ 2 ≤ p0.toNatClampNeg) := d.dd
    have es := subI (a := (1 : Int32)) (b := p0) (by have := d.1; have := d.2; omega) (by have := d.1; have := d.2; omega)
    have d2 : Rg ((1 : Int32) - p0) 0 1 := ⟨by have := d.2; omega, by have := d.1; omega⟩
    have dd2 : ¬ ((1 : Int32) - p0 < 0 ∨ 2 ≤ ((1 : Int32) - p0).toNatClampNeg) := noob (by have := d.2; omega) (by have := d.1; omega)
    obtain ⟨g4, e7, e8⟩ := c_become (N := N) (K := K) (f := f2) hf.2
    obtain ⟨g3, e5, e6⟩ := m_laid (th := (0 : Int32)) (f := g2) (t := t) hN hK dd2 hg
    refine ⟨.inl (Int32.ofNat (dpw w), g4, c0 + (1 : Int32)), (Int32.ofNat (dpw w), 0, g3, dn t), ?_, ?_, rfl, rfl, ⟨w, ⟨hwn, e8⟩, e6⟩, KT.done⟩
    · unfold fX5_copyDesk
      rw [k_desk1 d, xb_l]
      rw [k_desk1 d2, xb_l, e7, Option.bind_some, c_dp hN1 hf, Option.bind_some, k_act, Option.bind_some]
    · unfold fX7_copyDesk
      rw [m_in d, Option.bind_some]
      rw [m_th00, Option.bind_some, if_pos rfl]
      rw [if_neg dd, e5, Option.bind_some, if_neg dd, m_dp hN1 hg, Option.bind_some]
  · refine ⟨(.inr "java/lang/IndexOutOfBoundsException"), ((0 : Int32), 1, g2, t), ?_, ?_, Or.inl ⟨rfl, rfl⟩, ⟨rfl, rfl⟩⟩
    · unfold fX5_copyDesk
      rw [k_desk0 d, xb_r]
    · unfold fX7_copyDesk
      rw [m_out d, Option.bind_some]
      rw [m_th1, Option.bind_some, if_neg (by decide)]
theorem ty_times {N K : Nat} {th : Int32} {f g : Nat → Int32}  {p0 p1 : Int32} (hN : NBig N) (hK : 100 ≤ K) (h : DD f g) : ∃ o y, fX5_times N K f p0 p1 = some o ∧ fX7_times N K th g p0 p1 = some y ∧ Ti true o y.2 (fun z => z = y.1) (True) := by
  have hN9 := hN.u
  have hN1 : 100 ≤ N := by omega
  obtain ⟨w, hf, hg⟩ := h
  have hwn := hf.1
  by_cases d : Rg p0 0 1
  · by_cases r1 : Rg p1 1 20
    · have dd : ¬ (p0 < 0 ∨ 2 ≤ p0.toNatClampNeg) := d.dd
      obtain ⟨n, rfl, n1, n2⟩ := Rg.n (a := 1) (b := 20) r1 (by omega) (by omega)
      refine ⟨.inl (Int32.ofNat (w n)), (Int32.ofNat (w n), 0), ?_, ?_, rfl, rfl⟩
      · unfold fX5_times
        rw [k_desk1 d, xb_l, k_rng1 r1, xb_l]
        rw [c_times hf.2 n1 n2, Option.bind_some]
      · unfold fX7_times
        rw [m_in d, Option.bind_some, m_in r1, Option.bind_some]
        rw [m_th00, Option.bind_some, if_pos rfl]
        rw [if_neg dd, if_neg (o_ob (by omega) (by omega)), o_c (by omega), hg.2 n n1 n2]
    · refine ⟨(.inr "java/lang/IllegalArgumentException"), ((0 : Int32), 2), ?_, ?_, Or.inr ⟨rfl, rfl, rfl⟩, trivial⟩
      · unfold fX5_times
        rw [k_desk1 d, xb_l, k_rng0 r1, xb_r]
      · unfold fX7_times
        rw [m_in d, Option.bind_some, m_out r1, Option.bind_some]
        rw [m_th01, Option.bind_some, if_neg (by decide)]
  · by_cases r1 : Rg p1 1 20
    · refine ⟨(.inr "java/lang/IndexOutOfBoundsException"), ((0 : Int32), 1), ?_, ?_, Or.inl ⟨rfl, rfl⟩, trivial⟩
      · unfold fX5_times
        rw [k_desk0 d, xb_r]
      · unfold fX7_times
        rw [m_out d, Option.bind_some, m_in r1, Option.bind_some]
        rw [m_th1, Option.bind_some, if_neg (by decide)]
    · refine ⟨(.inr "java/lang/IndexOutOfBoundsException"), ((0 : Int32), 1), ?_, ?_, Or.inl ⟨rfl, rfl⟩, trivial⟩
      · unfold fX5_times
        rw [k_desk0 d, xb_r]
      · unfold fX7_times
        rw [m_out d, Option.bind_some, m_out r1, Option.bind_some]
        rw [m_th1, Option.bind_some, if_neg (by decide)]
theorem ty_way {N K : Nat} {th : Int32} {f g : Nat → Int32}  {p0 p1 : Int32} (hN : NBig N) (hK : 100 ≤ K) (h : DD f g) : ∃ o y, fX5_way N K f p0 p1 = some o ∧ fX7_way N K th g p0 p1 = some y ∧ Ti true o y.2 (fun z => z = y.1) (True) := by
  have hN9 := hN.u
  have hN1 : 100 ≤ N := by omega
  obtain ⟨w, hf, hg⟩ := h
  have hwn := hf.1
  by_cases d : Rg p0 0 1
  · by_cases r1 : Rg p1 0 2
    · have dd : ¬ (p0 < 0 ∨ 2 ≤ p0.toNatClampNeg) := d.dd
      by_cases e0 : p1 = 0
      · subst e0
        refine ⟨.inl (Int32.ofNat (wn w)), (Int32.ofNat (wn w), 0), ?_, ?_, rfl, rfl⟩
        · unfold fX5_way
          rw [k_desk1 d, xb_l, k_rng1 r1, xb_l]
          rw [if_pos rfl, c_sum hN1 hf.2, Option.bind_some]
        · unfold fX7_way
          rw [m_in d, Option.bind_some, m_in r1, Option.bind_some]
          rw [m_th00, Option.bind_some, if_pos rfl]
          rw [if_pos rfl, if_neg dd, m_sum hN1 hg.2, Option.bind_some]
      · by_cases e1 : p1 = 1
        · subst e1
          refine ⟨.inl (Int32.ofNat (wp w)), (Int32.ofNat (wp w), 0), ?_, ?_, rfl, rfl⟩
          · unfold fX5_way
            rw [k_desk1 d, xb_l, k_rng1 r1, xb_l]
            rw [if_neg (by decide), if_pos rfl, c_parts hN1 hf.2, Option.bind_some]
          · unfold fX7_way
            rw [m_in d, Option.bind_some, m_in r1, Option.bind_some]
            rw [m_th00, Option.bind_some, if_pos rfl]
            rw [if_neg (by decide), if_pos rfl, if_neg dd, m_parts hN1 hg.2, Option.bind_some]
        · refine ⟨.inl (Int32.ofNat (dpw w)), (Int32.ofNat (dpw w), 0), ?_, ?_, rfl, rfl⟩
          · unfold fX5_way
            rw [k_desk1 d, xb_l, k_rng1 r1, xb_l]
            rw [if_neg e0, if_neg e1, c_dp hN1 hf, Option.bind_some]
          · unfold fX7_way
            rw [m_in d, Option.bind_some, m_in r1, Option.bind_some]
            rw [m_th00, Option.bind_some, if_pos rfl]
            rw [if_neg e0, if_neg e1, if_neg dd, m_dp hN1 hg, Option.bind_some]
    · refine ⟨(.inr "java/lang/IllegalArgumentException"), ((0 : Int32), 2), ?_, ?_, Or.inr ⟨rfl, rfl, rfl⟩, trivial⟩
      · unfold fX5_way
        rw [k_desk1 d, xb_l, k_rng0 r1, xb_r]
      · unfold fX7_way
        rw [m_in d, Option.bind_some, m_out r1, Option.bind_some]
        rw [m_th01, Option.bind_some, if_neg (by decide)]
  · by_cases r1 : Rg p1 0 2
    · refine ⟨(.inr "java/lang/IndexOutOfBoundsException"), ((0 : Int32), 1), ?_, ?_, Or.inl ⟨rfl, rfl⟩, trivial⟩
      · unfold fX5_way
        rw [k_desk0 d, xb_r]
      · unfold fX7_way
        rw [m_out d, Option.bind_some, m_in r1, Option.bind_some]
        rw [m_th1, Option.bind_some, if_neg (by decide)]
    · refine ⟨(.inr "java/lang/IndexOutOfBoundsException"), ((0 : Int32), 1), ?_, ?_, Or.inl ⟨rfl, rfl⟩, trivial⟩
      · unfold fX5_way
        rw [k_desk0 d, xb_r]
      · unfold fX7_way
        rw [m_out d, Option.bind_some, m_out r1, Option.bind_some]
        rw [m_th1, Option.bind_some, if_neg (by decide)]
theorem ty_isSameWay {N K : Nat} {th : Int32} {f f2 g g2 : Nat → Int32} (hN : NBig N) (hK : 100 ≤ K) (h : DD f g) (h2 : DD f2 g2) : ∃ b : Bool, fX5_isSameWay N K f f2 = some (.inl (bi b)) ∧ fX7_isSameWay N K th g g2 = some (bi b, 0) := by
  have hN9 := hN.u
  have hN1 : 100 ≤ N := by omega
  obtain ⟨w, hf, hg⟩ := h
  obtain ⟨v, hf2, hg2⟩ := h2
  refine ⟨eqw w v, ?_, ?_⟩
  · unfold fX5_isSameWay
    rw [k_desk1 (by unfold Rg; decide), xb_l, k_desk1 (by unfold Rg; decide), xb_l, c_like hN1 hf hf2, Option.bind_some, if_pos (bi_ok _)]
  · unfold fX7_isSameWay
    rw [if_neg (by decide), if_neg (by decide), m_same hN1 hg hg2, Option.bind_some, if_pos (bi_ok _)]
