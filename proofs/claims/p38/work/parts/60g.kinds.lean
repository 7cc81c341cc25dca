/-! ===== the eight kinds of ways ===== -/
def kindb (w : Nat → Nat) (m : Nat) : Nat → Bool
  | 0 => decide (gr w ≤ m)
  | 1 => decide (wp w = m)
  | 2 => unw w && decide (gr w ≤ m)
  | 3 => odw w && decide (gr w ≤ m)
  | 4 => odw w && (unw w && decide (gr w ≤ m))
  | 5 => unw w && decide (wp w = m)
  | 6 => decide (wp w ≤ m)
  | _ => decide (gr w ≤ m) && eqw w (turnw w)
theorem bi_1 {b : Bool} (h : b = true) : (1 : Int32) = bi b := by rw [h]; rfl
theorem bi_z {b : Bool} (h : b = false) : (0 : Int32) = bi b := by rw [h]; rfl
theorem c_kind {N K : Nat} (hN : 100 ≤ N) {f fs : Nat → Int32} {w : Nat → Nat} (hf : Dk f w) {k m : Nat} (hk : k ≤ 7) (hm : m ≤ 20) : ∃ fs', fX4_isOfKind N K f fs (Int32.ofNat k) (Int32.ofNat m) = some (bi (kindb w m k), fs') := by
  have b1 := hf.1
  have b2 := wp_le (w := w)
  have b3 : gr w ≤ 20 := grf_le 20
  have hk8 : k = 0 ∨ k = 1 ∨ k = 2 ∨ k = 3 ∨ k = 4 ∨ k = 5 ∨ k = 6 ∨ k = 7 := by omega
  rcases hk8 with rfl | rfl | rfl | rfl | rfl | rfl | rfl | rfl
  · unfold fX4_isOfKind
    rw [if_pos (by decide)]
    exact ⟨fs, by rw [c_none hN hf hm, Option.bind_some, if_pos (bi_ok _)]; rfl⟩
  · unfold fX4_isOfKind
    rw [if_neg (by decide), if_pos (by decide)]
    refine ⟨fs, ?_⟩
    rw [c_parts hN hf.2, Option.bind_some]
    by_cases e : wp w = m
    · rw [if_pos (by rw [e])]
      exact congrArg (fun v => some (v, fs)) (bi_1 (by unfold kindb; simp only [decide_eq_true e, Bool.true_and, Bool.and_true]))
    · rw [if_neg (by rw [o_eq (by omega) (by omega)]; exact e)]
      exact congrArg (fun v => some (v, fs)) (bi_z (by unfold kindb; simp only [decide_eq_false e, Bool.true_and, Bool.and_false]))
  · unfold fX4_isOfKind
    rw [if_neg (by decide), if_neg (by decide), if_pos (by decide)]
    cases qunl : unw w with
    | false =>
      refine ⟨fs, ?_⟩
      rw [c_unl hN hf, Option.bind_some, qunl, if_pos bif0]
      exact congrArg (fun v => some (v, fs)) (bi_z (by unfold kindb; simp only [qunl, Bool.false_and, Bool.and_false]))
    | true =>
      rw [c_unl hN hf, Option.bind_some, qunl, if_neg bitn]
      refine ⟨fs, ?_⟩
      rw [c_none hN hf hm, Option.bind_some]
      by_cases e : gr w ≤ m
      · rw [decide_eq_true e, if_neg bitn]
        exact congrArg (fun v => some (v, fs)) (bi_1 (by unfold kindb; simp only [qunl, decide_eq_true e, Bool.true_and, Bool.and_true]))
      · rw [decide_eq_false e, if_pos bif0]
        exact congrArg (fun v => some (v, fs)) (bi_z (by unfold kindb; simp only [qunl, decide_eq_false e, Bool.true_and, Bool.and_false]))
  · unfold fX4_isOfKind
    rw [if_neg (by decide), if_neg (by decide), if_neg (by decide), if_pos (by decide)]
    cases qoddq : odw w with
    | false =>
      refine ⟨fs, ?_⟩
      rw [c_oddq hN hf, Option.bind_some, qoddq, if_pos bif0]
      exact congrArg (fun v => some (v, fs)) (bi_z (by unfold kindb; simp only [qoddq, Bool.false_and, Bool.and_false]))
    | true =>
      rw [c_oddq hN hf, Option.bind_some, qoddq, if_neg bitn]
      refine ⟨fs, ?_⟩
      rw [c_none hN hf hm, Option.bind_some]
      by_cases e : gr w ≤ m
      · rw [decide_eq_true e, if_neg bitn]
        exact congrArg (fun v => some (v, fs)) (bi_1 (by unfold kindb; simp only [qoddq, decide_eq_true e, Bool.true_and, Bool.and_true]))
      · rw [decide_eq_false e, if_pos bif0]
        exact congrArg (fun v => some (v, fs)) (bi_z (by unfold kindb; simp only [qoddq, decide_eq_false e, Bool.true_and, Bool.and_false]))
  · unfold fX4_isOfKind
    rw [if_neg (by decide), if_neg (by decide), if_neg (by decide), if_neg (by decide), if_pos (by decide)]
    cases qoddq : odw w with
    | false =>
      refine ⟨fs, ?_⟩
      rw [c_oddq hN hf, Option.bind_some, qoddq, if_pos bif0]
      exact congrArg (fun v => some (v, fs)) (bi_z (by unfold kindb; simp only [qoddq, Bool.false_and, Bool.and_false]))
    | true =>
      rw [c_oddq hN hf, Option.bind_some, qoddq, if_neg bitn]
      cases qunl : unw w with
      | false =>
        refine ⟨fs, ?_⟩
        rw [c_unl hN hf, Option.bind_some, qunl, if_pos bif0]
        exact congrArg (fun v => some (v, fs)) (bi_z (by unfold kindb; simp only [qoddq, qunl, Bool.false_and, Bool.and_false]))
      | true =>
        rw [c_unl hN hf, Option.bind_some, qunl, if_neg bitn]
        refine ⟨fs, ?_⟩
        rw [c_none hN hf hm, Option.bind_some]
        by_cases e : gr w ≤ m
        · rw [decide_eq_true e, if_neg bitn]
          exact congrArg (fun v => some (v, fs)) (bi_1 (by unfold kindb; simp only [qoddq, qunl, decide_eq_true e, Bool.true_and, Bool.and_true]))
        · rw [decide_eq_false e, if_pos bif0]
          exact congrArg (fun v => some (v, fs)) (bi_z (by unfold kindb; simp only [qoddq, qunl, decide_eq_false e, Bool.true_and, Bool.and_false]))
  · unfold fX4_isOfKind
    rw [if_neg (by decide), if_neg (by decide), if_neg (by decide), if_neg (by decide), if_neg (by decide), if_pos (by decide)]
    cases qunl : unw w with
    | false =>
      refine ⟨fs, ?_⟩
      rw [c_unl hN hf, Option.bind_some, qunl, if_pos bif0]
      exact congrArg (fun v => some (v, fs)) (bi_z (by unfold kindb; simp only [qunl, Bool.false_and, Bool.and_false]))
    | true =>
      rw [c_unl hN hf, Option.bind_some, qunl, if_neg bitn]
      refine ⟨fs, ?_⟩
      rw [c_parts hN hf.2, Option.bind_some]
      by_cases e : wp w = m
      · rw [if_pos (by rw [e])]
        exact congrArg (fun v => some (v, fs)) (bi_1 (by unfold kindb; simp only [qunl, decide_eq_true e, Bool.true_and, Bool.and_true]))
      · rw [if_neg (by rw [o_eq (by omega) (by omega)]; exact e)]
        exact congrArg (fun v => some (v, fs)) (bi_z (by unfold kindb; simp only [qunl, decide_eq_false e, Bool.true_and, Bool.and_false]))
  · unfold fX4_isOfKind
    rw [if_neg (by decide), if_neg (by decide), if_neg (by decide), if_neg (by decide), if_neg (by decide), if_neg (by decide), if_pos (by decide)]
    refine ⟨fs, ?_⟩
    rw [c_parts hN hf.2, Option.bind_some]
    by_cases e : wp w ≤ m
    · rw [if_neg (by rw [o_lt (by omega) (by omega)]; omega)]
      exact congrArg (fun v => some (v, fs)) (bi_1 (by unfold kindb; exact decide_eq_true e))
    · rw [if_pos (by rw [o_lt (by omega) (by omega)]; omega)]
      exact congrArg (fun v => some (v, fs)) (bi_z (by unfold kindb; exact decide_eq_false e))
  · unfold fX4_isOfKind
    rw [if_neg (by decide), if_neg (by decide), if_neg (by decide), if_neg (by decide), if_neg (by decide), if_neg (by decide), if_neg (by decide)]
    rw [c_none hN hf hm, Option.bind_some]
    by_cases e : gr w ≤ m
    · rw [decide_eq_true e, if_neg bitn]
      obtain ⟨g1, e1, e2⟩ := c_turn (N := N) (K := K) hN (f := fs) hf
      refine ⟨g1, ?_⟩
      unfold fX4_isOwnTurned
      rw [e1, Option.bind_some, c_like hN hf e2, Option.bind_some, if_pos (bi_ok _), Option.bind_some]
      cases q : eqw w (turnw w) with
      | false =>
        rw [if_pos bif0]
        exact congrArg (fun v => some (v, g1)) (bi_z (by unfold kindb; simp only [q, Bool.and_false]))
      | true =>
        rw [if_neg bitn]
        exact congrArg (fun v => some (v, g1)) (bi_1 (by unfold kindb; simp only [q, decide_eq_true e, Bool.and_true]))
    · rw [decide_eq_false e, if_pos bif0]
      exact ⟨fs, congrArg (fun v => some (v, fs)) (bi_z (by unfold kindb; simp only [decide_eq_false e, Bool.false_and]))⟩
theorem m_kind {N K : Nat} (hN : 100 ≤ N) {f : Nat → Int32} {w : Nat → Nat} (hf : Dk f w) {k m : Nat} (hk : k ≤ 7) (hm : m ≤ 20) : fX7_isOfKind N K f (Int32.ofNat k) (Int32.ofNat m) = some (bi (kindb w m k)) := by
  have b1 := hf.1
  have b2 := wp_le (w := w)
  have b3 : gr w ≤ 20 := grf_le 20
  have hk8 : k = 0 ∨ k = 1 ∨ k = 2 ∨ k = 3 ∨ k = 4 ∨ k = 5 ∨ k = 6 ∨ k = 7 := by omega
  rcases hk8 with rfl | rfl | rfl | rfl | rfl | rfl | rfl | rfl
  · unfold fX7_isOfKind
    rw [if_pos (by decide)]
    rw [m_gr hN hf, Option.bind_some]
    by_cases e : gr w ≤ m
    · rw [if_neg (by rw [o_lt (by omega) (by omega)]; omega)]
      exact congrArg some (bi_1 (by unfold kindb; simp only [decide_eq_true e, Bool.true_and, Bool.and_true]))
    · rw [if_pos (by rw [o_lt (by omega) (by omega)]; omega)]
      exact congrArg some (bi_z (by unfold kindb; simp only [decide_eq_false e, Bool.true_and, Bool.and_false]))
  · unfold fX7_isOfKind
    rw [if_neg (by decide), if_pos (by decide)]
    rw [m_parts hN hf.2, Option.bind_some]
    by_cases e : wp w = m
    · rw [if_pos (by rw [e])]
      exact congrArg some (bi_1 (by unfold kindb; simp only [decide_eq_true e, Bool.true_and, Bool.and_true]))
    · rw [if_neg (by rw [o_eq (by omega) (by omega)]; exact e)]
      exact congrArg some (bi_z (by unfold kindb; simp only [decide_eq_false e, Bool.true_and, Bool.and_false]))
  · unfold fX7_isOfKind
    rw [if_neg (by decide), if_neg (by decide), if_pos (by decide)]
    cases qunl : unw w with
    | false =>
      rw [m_unl hN hf, Option.bind_some, qunl, if_pos bif0]
      exact congrArg some (bi_z (by unfold kindb; simp only [qunl, Bool.false_and, Bool.and_false]))
    | true =>
      rw [m_unl hN hf, Option.bind_some, qunl, if_neg bitn]
      rw [m_gr hN hf, Option.bind_some]
      by_cases e : gr w ≤ m
      · rw [if_neg (by rw [o_lt (by omega) (by omega)]; omega)]
        exact congrArg some (bi_1 (by unfold kindb; simp only [qunl, decide_eq_true e, Bool.true_and, Bool.and_true]))
      · rw [if_pos (by rw [o_lt (by omega) (by omega)]; omega)]
        exact congrArg some (bi_z (by unfold kindb; simp only [qunl, decide_eq_false e, Bool.true_and, Bool.and_false]))
  · unfold fX7_isOfKind
    rw [if_neg (by decide), if_neg (by decide), if_neg (by decide), if_pos (by decide)]
    cases qoddq : odw w with
    | false =>
      rw [m_oddq hN hf, Option.bind_some, qoddq, if_pos bif0]
      exact congrArg some (bi_z (by unfold kindb; simp only [qoddq, Bool.false_and, Bool.and_false]))
    | true =>
      rw [m_oddq hN hf, Option.bind_some, qoddq, if_neg bitn]
      rw [m_gr hN hf, Option.bind_some]
      by_cases e : gr w ≤ m
      · rw [if_neg (by rw [o_lt (by omega) (by omega)]; omega)]
        exact congrArg some (bi_1 (by unfold kindb; simp only [qoddq, decide_eq_true e, Bool.true_and, Bool.and_true]))
      · rw [if_pos (by rw [o_lt (by omega) (by omega)]; omega)]
        exact congrArg some (bi_z (by unfold kindb; simp only [qoddq, decide_eq_false e, Bool.true_and, Bool.and_false]))
  · unfold fX7_isOfKind
    rw [if_neg (by decide), if_neg (by decide), if_neg (by decide), if_neg (by decide), if_pos (by decide)]
    cases qoddq : odw w with
    | false =>
      rw [m_oddq hN hf, Option.bind_some, qoddq, if_pos bif0]
      exact congrArg some (bi_z (by unfold kindb; simp only [qoddq, Bool.false_and, Bool.and_false]))
    | true =>
      rw [m_oddq hN hf, Option.bind_some, qoddq, if_neg bitn]
      cases qunl : unw w with
      | false =>
        rw [m_unl hN hf, Option.bind_some, qunl, if_pos bif0]
        exact congrArg some (bi_z (by unfold kindb; simp only [qoddq, qunl, Bool.false_and, Bool.and_false]))
      | true =>
        rw [m_unl hN hf, Option.bind_some, qunl, if_neg bitn]
        rw [m_gr hN hf, Option.bind_some]
        by_cases e : gr w ≤ m
        · rw [if_neg (by rw [o_lt (by omega) (by omega)]; omega)]
          exact congrArg some (bi_1 (by unfold kindb; simp only [qoddq, qunl, decide_eq_true e, Bool.true_and, Bool.and_true]))
        · rw [if_pos (by rw [o_lt (by omega) (by omega)]; omega)]
          exact congrArg some (bi_z (by unfold kindb; simp only [qoddq, qunl, decide_eq_false e, Bool.true_and, Bool.and_false]))
  · unfold fX7_isOfKind
    rw [if_neg (by decide), if_neg (by decide), if_neg (by decide), if_neg (by decide), if_neg (by decide), if_pos (by decide)]
    cases qunl : unw w with
    | false =>
      rw [m_unl hN hf, Option.bind_some, qunl, if_pos bif0]
      exact congrArg some (bi_z (by unfold kindb; simp only [qunl, Bool.false_and, Bool.and_false]))
    | true =>
      rw [m_unl hN hf, Option.bind_some, qunl, if_neg bitn]
      rw [m_parts hN hf.2, Option.bind_some]
      by_cases e : wp w = m
      · rw [if_pos (by rw [e])]
        exact congrArg some (bi_1 (by unfold kindb; simp only [qunl, decide_eq_true e, Bool.true_and, Bool.and_true]))
      · rw [if_neg (by rw [o_eq (by omega) (by omega)]; exact e)]
        exact congrArg some (bi_z (by unfold kindb; simp only [qunl, decide_eq_false e, Bool.true_and, Bool.and_false]))
  · unfold fX7_isOfKind
    rw [if_neg (by decide), if_neg (by decide), if_neg (by decide), if_neg (by decide), if_neg (by decide), if_neg (by decide), if_pos (by decide)]
    rw [m_parts hN hf.2, Option.bind_some]
    by_cases e : wp w ≤ m
    · rw [if_neg (by rw [o_lt (by omega) (by omega)]; omega)]
      exact congrArg some (bi_1 (by unfold kindb; exact decide_eq_true e))
    · rw [if_pos (by rw [o_lt (by omega) (by omega)]; omega)]
      exact congrArg some (bi_z (by unfold kindb; exact decide_eq_false e))
  · unfold fX7_isOfKind
    rw [if_neg (by decide), if_neg (by decide), if_neg (by decide), if_neg (by decide), if_neg (by decide), if_neg (by decide), if_neg (by decide)]
    rw [m_gr hN hf, Option.bind_some]
    by_cases e : gr w ≤ m
    · rw [if_neg (by rw [o_lt (by omega) (by omega)]; omega), m_own hN hf, Option.bind_some]
      cases q : eqw w (turnw w) with
      | false =>
        rw [if_pos bif0]
        exact congrArg some (bi_z (by unfold kindb; simp only [q, Bool.and_false]))
      | true =>
        rw [if_neg bitn]
        exact congrArg some (bi_1 (by unfold kindb; simp only [q, decide_eq_true e, Bool.and_true]))
    · rw [if_pos (by rw [o_lt (by omega) (by omega)]; omega)]
      exact congrArg some (bi_z (by unfold kindb; simp only [decide_eq_false e, Bool.false_and]))
