theorem ty_isOf {N K : Nat} {th : Int32} {f g fs : Nat → Int32}  {p0 p1 p2 : Int32} (hN : NBig N) (hK : 100 ≤ K) (h : DD f g) : ∃ o y, fX5_isOf N K f fs p0 p1 p2 = some o ∧ fX7_isOf N K th g p0 p1 p2 = some y ∧ Ti true o y.2 (fun z => z.1 = y.1 ∧ (y.1 = 0 ∨ y.1 = 1)) (True) := by
  have hN9 := hN.u
  have hN1 : 100 ≤ N := by omega
  obtain ⟨w, hf, hg⟩ := h
  have hwn := hf.1
  by_cases d : Rg p0 0 1
  · by_cases r1 : Rg p1 0 7
    · by_cases r2 : Rg p2 0 20
      · have dd : ¬ (p0 < 0 ∨ 2 ≤ p0.toNatClampNeg) := d.dd
        obtain ⟨k, rfl, -, k2⟩ := Rg.n (a := 0) (b := 7) r1 (by omega) (by omega)
        obtain ⟨n, rfl, -, n2⟩ := Rg.n (a := 0) (b := 20) r2 (by omega) (by omega)
        obtain ⟨fs', e1⟩ := c_kind (N := N) (K := K) hN1 (fs := fs) hf k2 n2
        have e2 := m_kind (N := N) (K := K) hN1 hg k2 n2
        cases q : kindb w n k with
        | false =>
          refine ⟨.inl ((0 : Int32), fs'), ((0 : Int32), 0), ?_, ?_, rfl, rfl, Or.inl rfl⟩
          · unfold fX5_isOf
            rw [k_desk1 d, xb_l, k_rng1 r1, xb_l, k_rng1 r2, xb_l]
            rw [e1, Option.bind_some, q]
            rfl
          · unfold fX7_isOf
            rw [m_in d, Option.bind_some, m_in r1, Option.bind_some, if_pos rfl, m_in r2, Option.bind_some, if_pos rfl]
            unfold fX7_isOf_32
            rw [m_th00, Option.bind_some, if_pos rfl]
            rw [if_neg dd, e2, Option.bind_some, q, if_pos bif0]
        | true =>
          refine ⟨.inl ((1 : Int32), fs'), ((1 : Int32), 0), ?_, ?_, rfl, rfl, Or.inr rfl⟩
          · unfold fX5_isOf
            rw [k_desk1 d, xb_l, k_rng1 r1, xb_l, k_rng1 r2, xb_l]
            rw [e1, Option.bind_some, q]
            rfl
          · unfold fX7_isOf
            rw [m_in d, Option.bind_some, m_in r1, Option.bind_some, if_pos rfl, m_in r2, Option.bind_some, if_pos rfl]
            unfold fX7_isOf_32
            rw [m_th00, Option.bind_some, if_pos rfl]
            rw [if_neg dd, e2, Option.bind_some, q, if_neg bitn]
      · refine ⟨(.inr "java/lang/IllegalArgumentException"), ((0 : Int32), 2), ?_, ?_, Or.inr ⟨rfl, rfl, rfl⟩, trivial⟩
        · unfold fX5_isOf
          rw [k_desk1 d, xb_l, k_rng1 r1, xb_l, k_rng0 r2, xb_r]
        · unfold fX7_isOf
          rw [m_in d, Option.bind_some, m_in r1, Option.bind_some, if_pos rfl, m_out r2, Option.bind_some, if_neg (by decide)]
          unfold fX7_isOf_27 fX7_isOf_32
          rw [m_th01, Option.bind_some, if_neg (by decide)]
    · by_cases r2 : Rg p2 0 20
      · refine ⟨(.inr "java/lang/IllegalArgumentException"), ((0 : Int32), 2), ?_, ?_, Or.inr ⟨rfl, rfl, rfl⟩, trivial⟩
        · unfold fX5_isOf
          rw [k_desk1 d, xb_l, k_rng0 r1, xb_r]
        · unfold fX7_isOf
          rw [m_in d, Option.bind_some, m_out r1, Option.bind_some, if_neg (by decide)]
          unfold fX7_isOf_27 fX7_isOf_32
          rw [m_th01, Option.bind_some, if_neg (by decide)]
      · refine ⟨(.inr "java/lang/IllegalArgumentException"), ((0 : Int32), 2), ?_, ?_, Or.inr ⟨rfl, rfl, rfl⟩, trivial⟩
        · unfold fX5_isOf
          rw [k_desk1 d, xb_l, k_rng0 r1, xb_r]
        · unfold fX7_isOf
          rw [m_in d, Option.bind_some, m_out r1, Option.bind_some, if_neg (by decide)]
          unfold fX7_isOf_27 fX7_isOf_32
          rw [m_th01, Option.bind_some, if_neg (by decide)]
  · by_cases r1 : Rg p1 0 7
    · by_cases r2 : Rg p2 0 20
      · refine ⟨(.inr "java/lang/IndexOutOfBoundsException"), ((0 : Int32), 1), ?_, ?_, Or.inl ⟨rfl, rfl⟩, trivial⟩
        · unfold fX5_isOf
          rw [k_desk0 d, xb_r]
        · unfold fX7_isOf
          rw [m_out d, Option.bind_some, m_in r1, Option.bind_some, if_pos rfl, m_in r2, Option.bind_some, if_pos rfl]
          unfold fX7_isOf_32
          rw [m_th1, Option.bind_some, if_neg (by decide)]
      · refine ⟨(.inr "java/lang/IndexOutOfBoundsException"), ((0 : Int32), 1), ?_, ?_, Or.inl ⟨rfl, rfl⟩, trivial⟩
        · unfold fX5_isOf
          rw [k_desk0 d, xb_r]
        · unfold fX7_isOf
          rw [m_out d, Option.bind_some, m_in r1, Option.bind_some, if_pos rfl, m_out r2, Option.bind_some, if_neg (by decide)]
          unfold fX7_isOf_27 fX7_isOf_32
          rw [m_th1, Option.bind_some, if_neg (by decide)]
    · by_cases r2 : Rg p2 0 20
      · refine ⟨(.inr "java/lang/IndexOutOfBoundsException"), ((0 : Int32), 1), ?_, ?_, Or.inl ⟨rfl, rfl⟩, trivial⟩
        · unfold fX5_isOf
          rw [k_desk0 d, xb_r]
        · unfold fX7_isOf
          rw [m_out d, Option.bind_some, m_out r1, Option.bind_some, if_neg (by decide)]
          unfold fX7_isOf_27 fX7_isOf_32
          rw [m_th1, Option.bind_some, if_neg (by decide)]
      · refine ⟨(.inr "java/lang/IndexOutOfBoundsException"), ((0 : Int32), 1), ?_, ?_, Or.inl ⟨rfl, rfl⟩, trivial⟩
        · unfold fX5_isOf
          rw [k_desk0 d, xb_r]
        · unfold fX7_isOf
          rw [m_out d, Option.bind_some, m_out r1, Option.bind_some, if_neg (by decide)]
          unfold fX7_isOf_27 fX7_isOf_32
          rw [m_th1, Option.bind_some, if_neg (by decide)]
