/-! ===== what is asked of ways ===== -/
def bi (b : Bool) : Int32 := if b = true then 1 else 0
theorem bi_t : bi true = 1 := rfl
theorem bi_f : bi false = 0 := rfl
theorem bif0 : bi false = 0 := rfl
theorem bitn : ¬ (bi true = 0) := by decide
theorem bi_ok (b : Bool) : bi b = 0 ∨ bi b = 1 := by cases b; exact Or.inl rfl; exact Or.inr rfl
theorem bi_0 {b : Bool} : (bi b = 0) = (b = false) := by cases b <;> decide
theorem bi_and1 (b : Bool) : (bi b &&& (1 : Int32)) = bi b := by cases b <;> decide
theorem bi_and0 (b : Bool) : (bi b &&& (0 : Int32)) = bi false := by cases b <;> decide
/-- like parts, as often -/
def eqf (w v : Nat → Nat) : Nat → Nat → Bool
  | 0, _ => true
  | n + 1, i => if w i = v i then eqf w v n (i + 1) else false
def eqw (w v : Nat → Nat) : Bool := eqf w v 20 1
theorem eqf_iff {w v : Nat → Nat} : ∀ n i, eqf w v n i = true ↔ ∀ p, i ≤ p → p < i + n → w p = v p := by
  intro n
  induction n with
  | zero => intro i; exact ⟨fun _ p a b => absurd b (by omega), fun _ => rfl⟩
  | succ n ih =>
    intro i
    unfold eqf
    by_cases e : w i = v i
    · rw [if_pos e, ih (i + 1)]
      constructor
      · intro h p a b
        by_cases e2 : p = i
        · rw [e2]; exact e
        · exact h p (by omega) (by omega)
      · intro h p a b
        exact h p (by omega) (by omega)
    · rw [if_neg e]
      exact ⟨fun h => absurd h (by decide), fun h => absurd (h i (Nat.le_refl _) (by omega)) e⟩
theorem eqw_iff {w v : Nat → Nat} : eqw w v = true ↔ ∀ p, 1 ≤ p → p ≤ 20 → w p = v p := by
  unfold eqw
  rw [eqf_iff]
  exact ⟨fun h p a b => h p a (by omega), fun h p a b => h p a (by omega)⟩
theorem c_like_ {N K : Nat} {f g : Nat → Int32} {w v : Nat → Nat} (hf : Dk f w) (hg : Dk g v) : ∀ n i fu, i + n = 21 → 1 ≤ i → n < fu → fX4_isLike_2 N K f g fu (Int32.ofNat i) = some (bi (eqf w v n i)) := by
  intro n
  induction n with
  | zero =>
    intro i fu hi h1 hfu
    obtain ⟨fu, rfl⟩ : ∃ m, fu = m + 1 := ⟨fu - 1, by omega⟩
    obtain rfl : i = 21 := by omega
    unfold fX4_isLike_2
    rw [if_pos (by decide)]
    rfl
  | succ n ih =>
    intro i fu hi h1 hfu
    obtain ⟨fu, rfl⟩ : ∃ m, fu = m + 1 := ⟨fu - 1, by omega⟩
    have a1 := wn_le1 (w := w) (p := i) h1 (by omega)
    have a2 := wn_le1 (w := v) (p := i) h1 (by omega)
    have b1 := hf.1
    have b2 := hg.1
    unfold fX4_isLike_2 eqf
    rw [if_neg (n_20 (by omega)), if_neg (o_ob (by omega) (by omega)), if_neg (o_ob (by omega) (by omega)), o_c (by omega), hf.2 _ h1 (by omega), hg.2 _ h1 (by omega), o_1]
    by_cases e : w i = v i
    · rw [if_pos (by rw [e]), if_pos e]
      exact ih (i + 1) fu (by omega) (by omega) (by omega)
    · rw [if_neg (by rw [o_eq (by omega) (by omega)]; exact e), if_neg e]
      rfl
theorem c_like {N K : Nat} (hN : 100 ≤ N) {f g : Nat → Int32} {w v : Nat → Nat} (hf : Dk f w) (hg : Dk g v) : fX4_isLike N K f g = some (bi (eqw w v)) := c_like_ hf hg 20 1 N rfl (Nat.le_refl _) (by omega)
theorem m_same_ {N K : Nat} {f g : Nat → Int32} {w v : Nat → Nat} (hf : Dk f w) (hg : Dk g v) : ∀ n i fu b, i + n = 21 → 1 ≤ i → n < fu → fX7_areSame_4 N K f g fu (bi b) (Int32.ofNat i) = some (bi (b && eqf w v n i)) := by
  intro n
  induction n with
  | zero =>
    intro i fu b hi h1 hfu
    obtain ⟨fu, rfl⟩ : ∃ m, fu = m + 1 := ⟨fu - 1, by omega⟩
    obtain rfl : i = 21 := by omega
    unfold fX7_areSame_4 eqf
    rw [if_pos (by decide), if_pos (bi_ok b), Bool.and_true]
  | succ n ih =>
    intro i fu b hi h1 hfu
    obtain ⟨fu, rfl⟩ : ∃ m, fu = m + 1 := ⟨fu - 1, by omega⟩
    have a1 := wn_le1 (w := w) (p := i) h1 (by omega)
    have a2 := wn_le1 (w := v) (p := i) h1 (by omega)
    have b1 := hf.1
    have b2 := hg.1
    unfold fX7_areSame_4 eqf
    rw [if_neg (n_20 (by omega)), if_neg (o_ob (by omega) (by omega)), if_neg (o_ob (by omega) (by omega)), o_c (by omega), hf.2 _ h1 (by omega), hg.2 _ h1 (by omega)]
    by_cases e : w i = v i
    · rw [if_pos (by rw [e]), if_pos e]
      unfold fX7_areSame_25
      rw [o_1, bi_and1]
      exact ih (i + 1) fu b (by omega) (by omega) (by omega)
    · rw [if_neg (by rw [o_eq (by omega) (by omega)]; exact e), if_neg e]
      unfold fX7_areSame_25
      rw [o_1, bi_and0, ih (i + 1) fu false (by omega) (by omega) (by omega), Bool.and_false, Bool.false_and]
theorem m_same {N K : Nat} (hN : 100 ≤ N) {f g : Nat → Int32} {w v : Nat → Nat} (hf : Dk f w) (hg : Dk g v) : fX7_areSame N K f g = some (bi (eqw w v)) := by
  have h := m_same_ (N := N) (K := K) hf hg 20 1 N true rfl (Nat.le_refl _) (by omega)
  rw [Bool.true_and] at h
  exact h
/-- how many different parts -/
def one1 (x : Nat) : Nat := if x = 0 then 0 else 1
def dpw (w : Nat → Nat) : Nat := sm (fun p => one1 (w p)) 20
theorem dpw_le {w : Nat → Nat} : ∀ n, sm (fun p => one1 (w p)) n ≤ sm w n := fun n => sm_le (fun p _ _ => by show one1 (w p) ≤ w p; unfold one1; by_cases e : w p = 0; (rw [if_pos e]; omega); rw [if_neg e]; omega)
theorem c_dp_ {N K : Nat} {f : Nat → Int32} {w : Nat → Nat} (hf : Dk f w) : ∀ n i fu, i + n = 20 → n < fu → fX4_differentParts_4 N K f fu (Int32.ofNat (sm (fun p => one1 (w p)) i)) (Int32.ofNat (i + 1)) = some (Int32.ofNat (dpw w)) := by
  intro n
  induction n with
  | zero =>
    intro i fu hi hfu
    obtain ⟨fu, rfl⟩ : ∃ m, fu = m + 1 := ⟨fu - 1, by omega⟩
    obtain rfl : i = 20 := by omega
    unfold fX4_differentParts_4
    rw [if_pos (by decide)]
    rfl
  | succ n ih =>
    intro i fu hi hfu
    obtain ⟨fu, rfl⟩ : ∃ m, fu = m + 1 := ⟨fu - 1, by omega⟩
    have a1 := wn_le1 (w := w) (p := i + 1) (by omega) (by omega)
    have b1 := hf.1
    have hs : sm (fun p => one1 (w p)) (i + 1) = sm (fun p => one1 (w p)) i + one1 (w (i + 1)) := rfl
    have h2 := ih (i + 1) fu (by omega) (by omega)
    unfold fX4_differentParts_4
    rw [if_neg (n_20 (by omega)), if_neg (o_ob (by omega) (by omega)), o_c (by omega), hf.2 _ (by omega) (by omega)]
    by_cases e : w (i + 1) = 0
    · rw [if_pos (by rw [e]; decide)]
      unfold fX4_differentParts_22
      rw [show one1 (w (i + 1)) = 0 from if_pos e, Nat.add_zero] at hs
      rw [hs] at h2
      rw [o_1]
      exact h2
    · rw [if_neg (o_0lt (by omega) (by omega))]
      unfold fX4_differentParts_22
      rw [show one1 (w (i + 1)) = 1 from if_neg e] at hs
      rw [hs] at h2
      rw [o_1, o_1]
      exact h2
theorem c_dp {N K : Nat} (hN : 100 ≤ N) {f : Nat → Int32} {w : Nat → Nat} (hf : Dk f w) : fX4_differentParts N K f = some (Int32.ofNat (dpw w)) := c_dp_ hf 20 0 N rfl (by omega)
theorem m_dp_ {N K : Nat} {f : Nat → Int32} {w : Nat → Nat} (hf : Dk f w) : ∀ n i fu, i + n = 20 → n < fu → fX7_unlikeOnes_4 N K f fu (Int32.ofNat (sm (fun p => one1 (w p)) i)) (Int32.ofNat (i + 1)) = some (Int32.ofNat (dpw w)) := by
  intro n
  induction n with
  | zero =>
    intro i fu hi hfu
    obtain ⟨fu, rfl⟩ : ∃ m, fu = m + 1 := ⟨fu - 1, by omega⟩
    obtain rfl : i = 20 := by omega
    unfold fX7_unlikeOnes_4
    rw [if_pos (by decide)]
    rfl
  | succ n ih =>
    intro i fu hi hfu
    obtain ⟨fu, rfl⟩ : ∃ m, fu = m + 1 := ⟨fu - 1, by omega⟩
    have a1 := wn_le1 (w := w) (p := i + 1) (by omega) (by omega)
    have b1 := hf.1
    have hs : sm (fun p => one1 (w p)) (i + 1) = sm (fun p => one1 (w p)) i + one1 (w (i + 1)) := rfl
    have h2 := ih (i + 1) fu (by omega) (by omega)
    unfold fX7_unlikeOnes_4
    rw [if_neg (n_20 (by omega)), if_neg (o_ob (by omega) (by omega)), o_c (by omega), hf.2 _ (by omega) (by omega)]
    by_cases e : w (i + 1) = 0
    · rw [if_pos (by rw [e]; decide)]
      unfold fX7_unlikeOnes_22 fX7_bit
      rw [show one1 (w (i + 1)) = 0 from if_pos e, Nat.add_zero] at hs
      rw [hs] at h2
      rw [if_pos rfl, Option.bind_some, o_1, show Int32.ofNat (sm (fun p => one1 (w p)) i) + 0 = Int32.ofNat (sm (fun p => one1 (w p)) i) from Int32.add_zero _]
      exact h2
    · rw [if_neg (o_0lt (by omega) (by omega))]
      unfold fX7_unlikeOnes_22 fX7_bit
      rw [show one1 (w (i + 1)) = 1 from if_neg e] at hs
      rw [hs] at h2
      rw [if_neg (by decide), Option.bind_some, o_1, o_1]
      exact h2
theorem m_dp {N K : Nat} (hN : 100 ≤ N) {f : Nat → Int32} {w : Nat → Nat} (hf : Dk f w) : fX7_unlikeOnes N K f = some (Int32.ofNat (dpw w)) := m_dp_ hf 20 0 N rfl (by omega)
/-- unlike parts -/
def unf (w : Nat → Nat) : Nat → Nat → Bool
  | 0, _ => true
  | n + 1, i => if w i ≤ 1 then unf w n (i + 1) else false
def unw (w : Nat → Nat) : Bool := unf w 20 1
theorem unf_iff {w : Nat → Nat} : ∀ n i, unf w n i = true ↔ ∀ p, i ≤ p → p < i + n → w p ≤ 1 := by
  intro n
  induction n with
  | zero => intro i; exact ⟨fun _ p a b => absurd b (by omega), fun _ => rfl⟩
  | succ n ih =>
    intro i
    unfold unf
    by_cases e : w i ≤ 1
    · rw [if_pos e, ih (i + 1)]
      constructor
      · intro h p a b
        by_cases e2 : p = i
        · rw [e2]; exact e
        · exact h p (by omega) (by omega)
      · intro h p a b
        exact h p (by omega) (by omega)
    · rw [if_neg e]
      exact ⟨fun h => absurd h (by decide), fun h => absurd (h i (Nat.le_refl _) (by omega)) e⟩
theorem un_dp_ {w : Nat → Nat} : ∀ n, sm w n = sm (fun p => one1 (w p)) n → ∀ p, 1 ≤ p → p ≤ n → w p ≤ 1 := by
  intro n
  induction n with
  | zero => intro _ p a b; omega
  | succ n ih =>
    intro h p a b
    have d := dpw_le (w := w) n
    have e1 : sm w (n + 1) = sm w n + w (n + 1) := rfl
    have e2 : sm (fun p => one1 (w p)) (n + 1) = sm (fun p => one1 (w p)) n + one1 (w (n + 1)) := rfl
    have e3 : one1 (w (n + 1)) ≤ w (n + 1) ∧ one1 (w (n + 1)) ≤ 1 := by
      unfold one1
      by_cases e : w (n + 1) = 0
      · rw [if_pos e]; omega
      · rw [if_neg e]; omega
    by_cases e : p = n + 1
    · subst e; omega
    · exact ih (by omega) p a (by omega)
theorem un_dp {w : Nat → Nat} : (wp w = dpw w) ↔ unw w = true := by
  unfold unw
  rw [unf_iff]
  constructor
  · intro h p a b
    exact un_dp_ 20 h p a (by omega)
  · intro h
    refine sm_congr (fun p a b => ?_)
    have := h p a (by omega)
    show w p = one1 (w p)
    unfold one1
    by_cases e : w p = 0
    · rw [if_pos e, e]
    · rw [if_neg e]; omega
theorem c_unl_ {N K : Nat} {f : Nat → Int32} {w : Nat → Nat} (hf : Dk f w) : ∀ n i fu, i + n = 21 → 1 ≤ i → n < fu → fX4_isUnlike_2 N K f fu (Int32.ofNat i) = some (bi (unf w n i)) := by
  intro n
  induction n with
  | zero =>
    intro i fu hi h1 hfu
    obtain ⟨fu, rfl⟩ : ∃ m, fu = m + 1 := ⟨fu - 1, by omega⟩
    obtain rfl : i = 21 := by omega
    unfold fX4_isUnlike_2
    rw [if_pos (by decide)]
    rfl
  | succ n ih =>
    intro i fu hi h1 hfu
    obtain ⟨fu, rfl⟩ : ∃ m, fu = m + 1 := ⟨fu - 1, by omega⟩
    have a1 := wn_le1 (w := w) (p := i) h1 (by omega)
    have b1 := hf.1
    unfold fX4_isUnlike_2 unf
    rw [if_neg (n_20 (by omega)), if_neg (o_ob (by omega) (by omega)), o_c (by omega), hf.2 _ h1 (by omega), o_1]
    by_cases e : w i ≤ 1
    · rw [if_pos (by rw [show (1 : Int32) = Int32.ofNat 1 from rfl, o_le (by omega) (by omega)]; exact e), if_pos e]
      exact ih (i + 1) fu (by omega) (by omega) (by omega)
    · rw [if_neg (by rw [show (1 : Int32) = Int32.ofNat 1 from rfl, o_le (by omega) (by omega)]; exact e), if_neg e]
      rfl
theorem c_unl {N K : Nat} (hN : 100 ≤ N) {f : Nat → Int32} {w : Nat → Nat} (hf : Dk f w) : fX4_isUnlike N K f = some (bi (unw w)) := c_unl_ hf 20 1 N rfl (Nat.le_refl _) (by omega)
theorem m_unl {N K : Nat} (hN : 100 ≤ N) {f : Nat → Int32} {w : Nat → Nat} (hf : Dk f w) : fX7_isUnlike N K f = some (bi (unw w)) := by
  have b1 := hf.1
  have b2 := wp_le (w := w)
  have b3 : dpw w ≤ wp w := dpw_le (w := w) 20
  unfold fX7_isUnlike
  rw [m_parts hN hf.2, Option.bind_some, m_dp hN hf, Option.bind_some]
  by_cases e : unw w = true
  · rw [if_pos (by rw [o_eq (by omega) (by omega)]; exact un_dp.mpr e), e]; rfl
  · rw [if_neg (by rw [o_eq (by omega) (by omega)]; exact fun h => e (un_dp.mp h)), Bool.eq_false_iff.mpr e]; rfl
/-- odd parts: none even -/
def odf (w : Nat → Nat) : Nat → Nat → Bool
  | 0, _ => true
  | n + 1, i => if w i = 0 then odf w n (i + 2) else false
def odw (w : Nat → Nat) : Bool := odf w 10 2
theorem o_2 (a : Nat) : Int32.ofNat a + (2 : Int32) = Int32.ofNat (a + 2) := (Int32.ofNat_add a 2).symm
theorem c_oddq_ {N K : Nat} {f : Nat → Int32} {w : Nat → Nat} (hf : Dk f w) : ∀ n i fu, i + 2 * n = 22 → 1 ≤ i → n < fu → fX4_isOdd_2 N K f fu (Int32.ofNat i) = some (bi (odf w n i)) := by
  intro n
  induction n with
  | zero =>
    intro i fu hi h1 hfu
    obtain ⟨fu, rfl⟩ : ∃ m, fu = m + 1 := ⟨fu - 1, by omega⟩
    obtain rfl : i = 22 := by omega
    unfold fX4_isOdd_2
    rw [if_pos (by decide)]
    rfl
  | succ n ih =>
    intro i fu hi h1 hfu
    obtain ⟨fu, rfl⟩ : ∃ m, fu = m + 1 := ⟨fu - 1, by omega⟩
    have a1 := wn_le1 (w := w) (p := i) h1 (by omega)
    have b1 := hf.1
    unfold fX4_isOdd_2 odf
    rw [if_neg (n_20 (by omega)), if_neg (o_ob (by omega) (by omega)), o_c (by omega), hf.2 _ h1 (by omega), o_2]
    by_cases e : w i = 0
    · rw [if_pos (by rw [e]; decide), if_pos e]
      exact ih (i + 2) fu (by omega) (by omega) (by omega)
    · rw [if_neg (o_0lt (by omega) (by omega)), if_neg e]
      rfl
theorem c_oddq {N K : Nat} (hN : 100 ≤ N) {f : Nat → Int32} {w : Nat → Nat} (hf : Dk f w) : fX4_isOdd N K f = some (bi (odw w)) := c_oddq_ hf 10 2 N rfl (by omega) (by omega)
theorem m_oddq_ {N K : Nat} {f : Nat → Int32} {w : Nat → Nat} (hf : Dk f w) : ∀ n i fu b, i + 2 * n = 22 → 1 ≤ i → n < fu → fX7_isOdd_4 N K f fu (bi b) (Int32.ofNat i) = some (bi (b && odf w n i)) := by
  intro n
  induction n with
  | zero =>
    intro i fu b hi h1 hfu
    obtain ⟨fu, rfl⟩ : ∃ m, fu = m + 1 := ⟨fu - 1, by omega⟩
    obtain rfl : i = 22 := by omega
    unfold fX7_isOdd_4 odf
    rw [if_pos (by decide), if_pos (bi_ok b), Bool.and_true]
  | succ n ih =>
    intro i fu b hi h1 hfu
    obtain ⟨fu, rfl⟩ : ∃ m, fu = m + 1 := ⟨fu - 1, by omega⟩
    have a1 := wn_le1 (w := w) (p := i) h1 (by omega)
    have b1 := hf.1
    unfold fX7_isOdd_4 odf
    rw [if_neg (n_20 (by omega)), if_neg (o_ob (by omega) (by omega)), o_c (by omega), hf.2 _ h1 (by omega)]
    by_cases e : w i = 0
    · rw [if_pos (by rw [e]; rfl), if_pos e]
      unfold fX7_isOdd_22
      rw [o_2, bi_and1]
      exact ih (i + 2) fu b (by omega) (by omega) (by omega)
    · rw [if_neg (by rw [show (0 : Int32) = Int32.ofNat 0 from rfl, o_eq (by omega) (by omega)]; exact e), if_neg e]
      unfold fX7_isOdd_22
      rw [o_2, bi_and0, ih (i + 2) fu false (by omega) (by omega) (by omega), Bool.and_false, Bool.false_and]
theorem m_oddq {N K : Nat} (hN : 100 ≤ N) {f : Nat → Int32} {w : Nat → Nat} (hf : Dk f w) : fX7_isOdd N K f = some (bi (odw w)) := by
  have h := m_oddq_ (N := N) (K := K) hf 10 2 N true rfl (by omega) (by omega)
  rw [Bool.true_and] at h
  exact h
