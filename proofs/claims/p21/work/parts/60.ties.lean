section MG_60cways
/-! ===== what is asked of ways ===== -/
def bi (b : Bool) : Int32 := if b = true then 1 else 0
theorem bi_t : bi true = 1 := rfl
theorem bi_f : bi false = 0 := rfl
theorem bif0 : bi false = 0 := rfl
theorem bitn : ¬ (bi true = 0) := by decide
theorem bi_ok (b : Bool) : bi b = 0 ∨ bi b = 1 := by cases b; exact Or.inl rfl; exact Or.inr rfl
theorem bi_0 {b : Bool} : (bi b = 0) = (b = false) := by cases b <;> decide
theorem bi_and1 (b : Bool) : (bi b &&& (1 : Int32)) = bi b := by cases b <;> decide
theorem bi_and0 (b : Bool) : (bi b &&& (0 : Int32)) = bi false := by cases b <;> decide
/-- like parts, as often -/
def eqf (w v : Nat → Nat) : Nat → Nat → Bool
  | 0, _ => true
  | n + 1, i => if w i = v i then eqf w v n (i + 1) else false
def eqw (w v : Nat → Nat) : Bool := eqf w v 20 1
theorem eqf_iff {w v : Nat → Nat} : ∀ n i, eqf w v n i = true ↔ ∀ p, i ≤ p → p < i + n → w p = v p := by
  intro n
  induction n with
  | zero => intro i; exact ⟨fun _ p a b => absurd b (by omega), fun _ => rfl⟩
  | succ n ih =>
    intro i
    unfold eqf
    by_cases e : w i = v i
    · rw [if_pos e, ih (i + 1)]
      constructor
      · intro h p a b
        by_cases e2 : p = i
        · rw [e2]; exact e
        · exact h p (by omega) (by omega)
      · intro h p a b
        exact h p (by omega) (by omega)
    · rw [if_neg e]
      exact ⟨fun h => absurd h (by decide), fun h => absurd (h i (Nat.le_refl _) (by omega)) e⟩
theorem eqw_iff {w v : Nat → Nat} : eqw w v = true ↔ ∀ p, 1 ≤ p → p ≤ 20 → w p = v p := by
  unfold eqw
  rw [eqf_iff]
  exact ⟨fun h p a b => h p a (by omega), fun h p a b => h p a (by omega)⟩
theorem c_like_ {N K : Nat} {f g : Nat → Int32} {w v : Nat → Nat} (hf : Dk f w) (hg : Dk g v) : ∀ n i fu, i + n = 21 → 1 ≤ i → n < fu → fX4_isLike_2 N K f g fu (Int32.ofNat i) = some (bi (eqf w v n i)) := by
  intro n
  induction n with
  | zero =>
    intro i fu hi h1 hfu
    obtain ⟨fu, rfl⟩ : ∃ m, fu = m + 1 := ⟨fu - 1, by omega⟩
    obtain rfl : i = 21 := by omega
    unfold fX4_isLike_2
    rw [if_pos (by decide)]
    rfl
  | succ n ih =>
    intro i fu hi h1 hfu
    obtain ⟨fu, rfl⟩ : ∃ m, fu = m + 1 := ⟨fu - 1, by omega⟩
    have a1 := wn_le1 (w := w) (p := i) h1 (by omega)
    have a2 := wn_le1 (w := v) (p := i) h1 (by omega)
    have b1 := hf.1
    have b2 := hg.1
    unfold fX4_isLike_2 eqf
    rw [if_neg (n_20 (by omega)), if_neg (o_ob (by omega) (by omega)), if_neg (o_ob (by omega) (by omega)), o_c (by omega), hf.2 _ h1 (by omega), hg.2 _ h1 (by omega), o_1]
    by_cases e : w i = v i
    · rw [if_pos (by rw [e]), if_pos e]
      exact ih (i + 1) fu (by omega) (by omega) (by omega)
    · rw [if_neg (by rw [o_eq (by omega) (by omega)]; exact e), if_neg e]
      rfl
theorem c_like {N K : Nat} (hN : 100 ≤ N) {f g : Nat → Int32} {w v : Nat → Nat} (hf : Dk f w) (hg : Dk g v) : fX4_isLike N K f g = some (bi (eqw w v)) := c_like_ hf hg 20 1 N rfl (Nat.le_refl _) (by omega)
theorem m_same_ {N K : Nat} {f g : Nat → Int32} {w v : Nat → Nat} (hf : Dk f w) (hg : Dk g v) : ∀ n i fu b, i + n = 21 → 1 ≤ i → n < fu → fX7_areSame_4 N K f g fu (bi b) (Int32.ofNat i) = some (bi (b && eqf w v n i)) := by
  intro n
  induction n with
  | zero =>
    intro i fu b hi h1 hfu
    obtain ⟨fu, rfl⟩ : ∃ m, fu = m + 1 := ⟨fu - 1, by omega⟩
    obtain rfl : i = 21 := by omega
    unfold fX7_areSame_4 eqf
    rw [if_pos (by decide), if_pos (bi_ok b), Bool.and_true]
  | succ n ih =>
    intro i fu b hi h1 hfu
    obtain ⟨fu, rfl⟩ : ∃ m, fu = m + 1 := ⟨fu - 1, by omega⟩
    have a1 := wn_le1 (w := w) (p := i) h1 (by omega)
    have a2 := wn_le1 (w := v) (p := i) h1 (by omega)
    have b1 := hf.1
    have b2 := hg.1
    unfold fX7_areSame_4 eqf
    rw [if_neg (n_20 (by omega)), if_neg (o_ob (by omega) (by omega)), if_neg (o_ob (by omega) (by omega)), o_c (by omega), hf.2 _ h1 (by omega), hg.2 _ h1 (by omega)]
    by_cases e : w i = v i
    · rw [if_pos (by rw [e]), if_pos e]
      unfold fX7_areSame_25
      rw [o_1, bi_and1]
      exact ih (i + 1) fu b (by omega) (by omega) (by omega)
    · rw [if_neg (by rw [o_eq (by omega) (by omega)]; exact e), if_neg e]
      unfold fX7_areSame_25
      rw [o_1, bi_and0, ih (i + 1) fu false (by omega) (by omega) (by omega), Bool.and_false, Bool.false_and]
theorem m_same {N K : Nat} (hN : 100 ≤ N) {f g : Nat → Int32} {w v : Nat → Nat} (hf : Dk f w) (hg : Dk g v) : fX7_areSame N K f g = some (bi (eqw w v)) := by
  have h := m_same_ (N := N) (K := K) hf hg 20 1 N true rfl (Nat.le_refl _) (by omega)
  rw [Bool.true_and] at h
  exact h
/-- how many different parts -/
def one1 (x : Nat) : Nat := if x = 0 then 0 else 1
def dpw (w : Nat → Nat) : Nat := sm (fun p => one1 (w p)) 20
theorem dpw_le {w : Nat → Nat} : ∀ n, sm (fun p => one1 (w p)) n ≤ sm w n := fun n => sm_le (fun p _ _ => by show one1 (w p) ≤ w p; unfold one1; by_cases e : w p = 0; (rw [if_pos e]; omega); rw [if_neg e]; omega)
theorem c_dp_ {N K : Nat} {f : Nat → Int32} {w : Nat → Nat} (hf : Dk f w) : ∀ n i fu, i + n = 20 → n < fu → fX4_differentParts_4 N K f fu (Int32.ofNat (sm (fun p => one1 (w p)) i)) (Int32.ofNat (i + 1)) = some (Int32.ofNat (dpw w)) := by
  intro n
  induction n with
  | zero =>
    intro i fu hi hfu
    obtain ⟨fu, rfl⟩ : ∃ m, fu = m + 1 := ⟨fu - 1, by omega⟩
    obtain rfl : i = 20 := by omega
    unfold fX4_differentParts_4
    rw [if_pos (by decide)]
    rfl
  | succ n ih =>
    intro i fu hi hfu
    obtain ⟨fu, rfl⟩ : ∃ m, fu = m + 1 := ⟨fu - 1, by omega⟩
    have a1 := wn_le1 (w := w) (p := i + 1) (by omega) (by omega)
    have b1 := hf.1
    have hs : sm (fun p => one1 (w p)) (i + 1) = sm (fun p => one1 (w p)) i + one1 (w (i + 1)) := rfl
    have h2 := ih (i + 1) fu (by omega) (by omega)
    unfold fX4_differentParts_4
    rw [if_neg (n_20 (by omega)), if_neg (o_ob (by omega) (by omega)), o_c (by omega), hf.2 _ (by omega) (by omega)]
    by_cases e : w (i + 1) = 0
    · rw [if_pos (by rw [e]; decide)]
      unfold fX4_differentParts_22
      rw [show one1 (w (i + 1)) = 0 from if_pos e, Nat.add_zero] at hs
      rw [hs] at h2
      rw [o_1]
      exact h2
    · rw [if_neg (o_0lt (by omega) (by omega))]
      unfold fX4_differentParts_22
      rw [show one1 (w (i + 1)) = 1 from if_neg e] at hs
      rw [hs] at h2
      rw [o_1, o_1]
      exact h2
theorem c_dp {N K : Nat} (hN : 100 ≤ N) {f : Nat → Int32} {w : Nat → Nat} (hf : Dk f w) : fX4_differentParts N K f = some (Int32.ofNat (dpw w)) := c_dp_ hf 20 0 N rfl (by omega)
theorem m_dp_ {N K : Nat} {f : Nat → Int32} {w : Nat → Nat} (hf : Dk f w) : ∀ n i fu, i + n = 20 → n < fu → fX7_unlikeOnes_4 N K f fu (Int32.ofNat (sm (fun p => one1 (w p)) i)) (Int32.ofNat (i + 1)) = some (Int32.ofNat (dpw w)) := by
  intro n
  induction n with
  | zero =>
    intro i fu hi hfu
    obtain ⟨fu, rfl⟩ : ∃ m, fu = m + 1 := ⟨fu - 1, by omega⟩
    obtain rfl : i = 20 := by omega
    unfold fX7_unlikeOnes_4
    rw [if_pos (by decide)]
    rfl
  | succ n ih =>
    intro i fu hi hfu
    obtain ⟨fu, rfl⟩ : ∃ m, fu = m + 1 := ⟨fu - 1, by omega⟩
    have a1 := wn_le1 (w := w) (p := i + 1) (by omega) (by omega)
    have b1 := hf.1
    have hs : sm (fun p => one1 (w p)) (i + 1) = sm (fun p => one1 (w p)) i + one1 (w (i + 1)) := rfl
    have h2 := ih (i + 1) fu (by omega) (by omega)
    unfold fX7_unlikeOnes_4
    rw [if_neg (n_20 (by omega)), if_neg (o_ob (by omega) (by omega)), o_c (by omega), hf.2 _ (by omega) (by omega)]
    by_cases e : w (i + 1) = 0
    · rw [if_pos (by rw [e]; decide)]
      unfold fX7_unlikeOnes_22 fX7_bit
      rw [show one1 (w (i + 1)) = 0 from if_pos e, Nat.add_zero] at hs
      rw [hs] at h2
      rw [if_pos rfl, Option.bind_some, o_1, show Int32.ofNat (sm (fun p => one1 (w p)) i) + 0 = Int32.ofNat (sm (fun p => one1 (w p)) i) from Int32.add_zero _]
      exact h2
    · rw [if_neg (o_0lt (by omega) (by omega))]
      unfold fX7_unlikeOnes_22 fX7_bit
      rw [show one1 (w (i + 1)) = 1 from if_neg e] at hs
      rw [hs] at h2
      rw [if_neg (by decide), Option.bind_some, o_1, o_1]
      exact h2
theorem m_dp {N K : Nat} (hN : 100 ≤ N) {f : Nat → Int32} {w : Nat → Nat} (hf : Dk f w) : fX7_unlikeOnes N K f = some (Int32.ofNat (dpw w)) := m_dp_ hf 20 0 N rfl (by omega)
/-- unlike parts -/
def unf (w : Nat → Nat) : Nat → Nat → Bool
  | 0, _ => true
  | n + 1, i => if w i ≤ 1 then unf w n (i + 1) else false
def unw (w : Nat → Nat) : Bool := unf w 20 1
theorem unf_iff {w : Nat → Nat} : ∀ n i, unf w n i = true ↔ ∀ p, i ≤ p → p < i + n → w p ≤ 1 := by
  intro n
  induction n with
  | zero => intro i; exact ⟨fun _ p a b => absurd b (by omega), fun _ => rfl⟩
  | succ n ih =>
    intro i
    unfold unf
    by_cases e : w i ≤ 1
    · rw [if_pos e, ih (i + 1)]
      constructor
      · intro h p a b
        by_cases e2 : p = i
        · rw [e2]; exact e
        · exact h p (by omega) (by omega)
      · intro h p a b
        exact h p (by omega) (by omega)
    · rw [if_neg e]
      exact ⟨fun h => absurd h (by decide), fun h => absurd (h i (Nat.le_refl _) (by omega)) e⟩
theorem un_dp_ {w : Nat → Nat} : ∀ n, sm w n = sm (fun p => one1 (w p)) n → ∀ p, 1 ≤ p → p ≤ n → w p ≤ 1 := by
  intro n
  induction n with
  | zero => intro _ p a b; omega
  | succ n ih =>
    intro h p a b
    have d := dpw_le (w := w) n
    have e1 : sm w (n + 1) = sm w n + w (n + 1) := rfl
    have e2 : sm (fun p => one1 (w p)) (n + 1) = sm (fun p => one1 (w p)) n + one1 (w (n + 1)) := rfl
    have e3 : one1 (w (n + 1)) ≤ w (n + 1) ∧ one1 (w (n + 1)) ≤ 1 := by
      unfold one1
      by_cases e : w (n + 1) = 0
      · rw [if_pos e]; omega
      · rw [if_neg e]; omega
    by_cases e : p = n + 1
    · subst e; omega
    · exact ih (by omega) p a (by omega)
theorem un_dp {w : Nat → Nat} : (wp w = dpw w) ↔ unw w = true := by
  unfold unw
  rw [unf_iff]
  constructor
  · intro h p a b
    exact un_dp_ 20 h p a (by omega)
  · intro h
    refine sm_congr (fun p a b => ?_)
    have := h p a (by omega)
    show w p = one1 (w p)
    unfold one1
    by_cases e : w p = 0
    · rw [if_pos e, e]
    · rw [if_neg e]; omega
theorem c_unl_ {N K : Nat} {f : Nat → Int32} {w : Nat → Nat} (hf : Dk f w) : ∀ n i fu, i + n = 21 → 1 ≤ i → n < fu → fX4_isUnlike_2 N K f fu (Int32.ofNat i) = some (bi (unf w n i)) := by
  intro n
  induction n with
  | zero =>
    intro i fu hi h1 hfu
    obtain ⟨fu, rfl⟩ : ∃ m, fu = m + 1 := ⟨fu - 1, by omega⟩
    obtain rfl : i = 21 := by omega
    unfold fX4_isUnlike_2
    rw [if_pos (by decide)]
    rfl
  | succ n ih =>
    intro i fu hi h1 hfu
    obtain ⟨fu, rfl⟩ : ∃ m, fu = m + 1 := ⟨fu - 1, by omega⟩
    have a1 := wn_le1 (w := w) (p := i) h1 (by omega)
    have b1 := hf.1
    unfold fX4_isUnlike_2 unf
    rw [if_neg (n_20 (by omega)), if_neg (o_ob (by omega) (by omega)), o_c (by omega), hf.2 _ h1 (by omega), o_1]
    by_cases e : w i ≤ 1
    · rw [if_pos (by rw [show (1 : Int32) = Int32.ofNat 1 from rfl, o_le (by omega) (by omega)]; exact e), if_pos e]
      exact ih (i + 1) fu (by omega) (by omega) (by omega)
    · rw [if_neg (by rw [show (1 : Int32) = Int32.ofNat 1 from rfl, o_le (by omega) (by omega)]; exact e), if_neg e]
      rfl
theorem c_unl {N K : Nat} (hN : 100 ≤ N) {f : Nat → Int32} {w : Nat → Nat} (hf : Dk f w) : fX4_isUnlike N K f = some (bi (unw w)) := c_unl_ hf 20 1 N rfl (Nat.le_refl _) (by omega)
theorem m_unl {N K : Nat} (hN : 100 ≤ N) {f : Nat → Int32} {w : Nat → Nat} (hf : Dk f w) : fX7_isUnlike N K f = some (bi (unw w)) := by
  have b1 := hf.1
  have b2 := wp_le (w := w)
  have b3 : dpw w ≤ wp w := dpw_le (w := w) 20
  unfold fX7_isUnlike
  rw [m_parts hN hf.2, Option.bind_some, m_dp hN hf, Option.bind_some]
  by_cases e : unw w = true
  · rw [if_pos (by rw [o_eq (by omega) (by omega)]; exact un_dp.mpr e), e]; rfl
  · rw [if_neg (by rw [o_eq (by omega) (by omega)]; exact fun h => e (un_dp.mp h)), Bool.eq_false_iff.mpr e]; rfl
/-- odd parts: none even -/
def odf (w : Nat → Nat) : Nat → Nat → Bool
  | 0, _ => true
  | n + 1, i => if w i = 0 then odf w n (i + 2) else false
def odw (w : Nat → Nat) : Bool := odf w 10 2
theorem o_2 (a : Nat) : Int32.ofNat a + (2 : Int32) = Int32.ofNat (a + 2) := (Int32.ofNat_add a 2).symm
theorem c_oddq_ {N K : Nat} {f : Nat → Int32} {w : Nat → Nat} (hf : Dk f w) : ∀ n i fu, i + 2 * n = 22 → 1 ≤ i → n < fu → fX4_isOdd_2 N K f fu (Int32.ofNat i) = some (bi (odf w n i)) := by
  intro n
  induction n with
  | zero =>
    intro i fu hi h1 hfu
    obtain ⟨fu, rfl⟩ : ∃ m, fu = m + 1 := ⟨fu - 1, by omega⟩
    obtain rfl : i = 22 := by omega
    unfold fX4_isOdd_2
    rw [if_pos (by decide)]
    rfl
  | succ n ih =>
    intro i fu hi h1 hfu
    obtain ⟨fu, rfl⟩ : ∃ m, fu = m + 1 := ⟨fu - 1, by omega⟩
    have a1 := wn_le1 (w := w) (p := i) h1 (by omega)
    have b1 := hf.1
    unfold fX4_isOdd_2 odf
    rw [if_neg (n_20 (by omega)), if_neg (o_ob (by omega) (by omega)), o_c (by omega), hf.2 _ h1 (by omega), o_2]
    by_cases e : w i = 0
    · rw [if_pos (by rw [e]; decide), if_pos e]
      exact ih (i + 2) fu (by omega) (by omega) (by omega)
    · rw [if_neg (o_0lt (by omega) (by omega)), if_neg e]
      rfl
theorem c_oddq {N K : Nat} (hN : 100 ≤ N) {f : Nat → Int32} {w : Nat → Nat} (hf : Dk f w) : fX4_isOdd N K f = some (bi (odw w)) := c_oddq_ hf 10 2 N rfl (by omega) (by omega)
theorem m_oddq_ {N K : Nat} {f : Nat → Int32} {w : Nat → Nat} (hf : Dk f w) : ∀ n i fu b, i + 2 * n = 22 → 1 ≤ i → n < fu → fX7_isOdd_4 N K f fu (bi b) (Int32.ofNat i) = some (bi (b && odf w n i)) := by
  intro n
  induction n with
  | zero =>
    intro i fu b hi h1 hfu
    obtain ⟨fu, rfl⟩ : ∃ m, fu = m + 1 := ⟨fu - 1, by omega⟩
    obtain rfl : i = 22 := by omega
    unfold fX7_isOdd_4 odf
    rw [if_pos (by decide), if_pos (bi_ok b), Bool.and_true]
  | succ n ih =>
    intro i fu b hi h1 hfu
    obtain ⟨fu, rfl⟩ : ∃ m, fu = m + 1 := ⟨fu - 1, by omega⟩
    have a1 := wn_le1 (w := w) (p := i) h1 (by omega)
    have b1 := hf.1
    unfold fX7_isOdd_4 odf
    rw [if_neg (n_20 (by omega)), if_neg (o_ob (by omega) (by omega)), o_c (by omega), hf.2 _ h1 (by omega)]
    by_cases e : w i = 0
    · rw [if_pos (by rw [e]; rfl), if_pos e]
      unfold fX7_isOdd_22
      rw [o_2, bi_and1]
      exact ih (i + 2) fu b (by omega) (by omega) (by omega)
    · rw [if_neg (by rw [show (0 : Int32) = Int32.ofNat 0 from rfl, o_eq (by omega) (by omega)]; exact e), if_neg e]
      unfold fX7_isOdd_22
      rw [o_2, bi_and0, ih (i + 2) fu false (by omega) (by omega) (by omega), Bool.and_false, Bool.false_and]
theorem m_oddq {N K : Nat} (hN : 100 ≤ N) {f : Nat → Int32} {w : Nat → Nat} (hf : Dk f w) : fX7_isOdd N K f = some (bi (odw w)) := by
  have h := m_oddq_ (N := N) (K := K) hf 10 2 N true rfl (by omega) (by omega)
  rw [Bool.true_and] at h
  exact h

end MG_60cways
section MG_60dchecks
/-! ===== the checks of both sides ===== -/
def Rg (p a b : Int32) : Prop := a.toInt ≤ p.toInt ∧ p.toInt ≤ b.toInt
theorem Rg.n {p : Int32} {a b : Nat} (h : Rg p (Int32.ofNat a) (Int32.ofNat b)) (ha : a < 2147483648) (hb : b < 2147483648) : ∃ n : Nat, p = Int32.ofNat n ∧ a ≤ n ∧ n ≤ b := by
  obtain ⟨h1, h2⟩ := h
  rw [o_i ha] at h1
  rw [o_i hb] at h2
  exact o_of h1 h2
theorem Rg.dd {p : Int32} (h : Rg p 0 1) : ¬ (p < 0 ∨ 2 ≤ p.toNatClampNeg) := by
  have q0 : (0 : Int32).toInt = 0 := by decide
  have q1 : (1 : Int32).toInt = 1 := by decide
  obtain ⟨h1, h2⟩ := h
  exact noob (by omega) (by omega)
theorem Rg.mm {p : Int32} (h : Rg p 0 2) : ¬ (p < 0 ∨ 3 ≤ p.toNatClampNeg) := by
  have q0 : (0 : Int32).toInt = 0 := by decide
  have q1 : (2 : Int32).toInt = 2 := by decide
  obtain ⟨h1, h2⟩ := h
  exact noob (by omega) (by omega)
theorem xb_l {U V : Type} {a : U} {k : U → Option (V ⊕ String)} : xb (some (.inl a)) k = k a := rfl
theorem xb_r {U V : Type} {E : String} {k : U → Option (V ⊕ String)} : xb (some (.inr E)) k = some (.inr E) := rfl
theorem k_desk1 {N K : Nat} {p : Int32} (h : Rg p 0 1) : fX5_deskAt N K p = some (.inl ()) := by
  have q0 : (0 : Int32).toInt = 0 := by decide
  have q1 : (1 : Int32).toInt = 1 := by decide
  have q2 : (2 : Int32).toInt = 2 := by decide
  obtain ⟨h1, h2⟩ := h
  unfold fX5_deskAt
  rw [if_neg (by rw [Int32.lt_iff_toInt_lt]; omega), if_pos (by rw [Int32.lt_iff_toInt_lt]; omega), if_neg (noob (by omega) (by omega))]
theorem k_desk0 {N K : Nat} {p : Int32} (h : ¬ Rg p 0 1) : fX5_deskAt N K p = some (.inr "java/lang/IndexOutOfBoundsException") := by
  have q0 : (0 : Int32).toInt = 0 := by decide
  have q1 : (1 : Int32).toInt = 1 := by decide
  have q2 : (2 : Int32).toInt = 2 := by decide
  unfold fX5_deskAt
  by_cases e : p < 0
  · rw [if_pos e]; rfl
  · have e1 : ¬ (p.toInt < (0 : Int32).toInt) := fun z => e (Int32.lt_iff_toInt_lt.mpr z)
    rw [if_neg e, if_neg (fun z => h ⟨by omega, by have := Int32.lt_iff_toInt_lt.mp z; omega⟩)]
    rfl
theorem k_mem1 {N K : Nat} {p : Int32} (h : Rg p 0 2) : fX5_memoryAt N K p = some (.inl ()) := by
  have q0 : (0 : Int32).toInt = 0 := by decide
  have q1 : (2 : Int32).toInt = 2 := by decide
  have q2 : (3 : Int32).toInt = 3 := by decide
  obtain ⟨h1, h2⟩ := h
  unfold fX5_memoryAt
  rw [if_neg (by rw [Int32.lt_iff_toInt_lt]; omega), if_pos (by rw [Int32.lt_iff_toInt_lt]; omega), if_neg (noob (by omega) (by omega))]
theorem k_mem0 {N K : Nat} {p : Int32} (h : ¬ Rg p 0 2) : fX5_memoryAt N K p = some (.inr "java/lang/IndexOutOfBoundsException") := by
  have q0 : (0 : Int32).toInt = 0 := by decide
  have q1 : (2 : Int32).toInt = 2 := by decide
  have q2 : (3 : Int32).toInt = 3 := by decide
  unfold fX5_memoryAt
  by_cases e : p < 0
  · rw [if_pos e]; rfl
  · have e1 : ¬ (p.toInt < (0 : Int32).toInt) := fun z => e (Int32.lt_iff_toInt_lt.mpr z)
    rw [if_neg e, if_neg (fun z => h ⟨by omega, by have := Int32.lt_iff_toInt_lt.mp z; omega⟩)]
    rfl
theorem k_led1 {N K : Nat} {p : Int32} (h : Rg p 0 2) : fX5_ledgerAt N K p = some (.inl ()) := by
  have q0 : (0 : Int32).toInt = 0 := by decide
  have q1 : (2 : Int32).toInt = 2 := by decide
  have q2 : (3 : Int32).toInt = 3 := by decide
  obtain ⟨h1, h2⟩ := h
  unfold fX5_ledgerAt
  rw [if_neg (by rw [Int32.lt_iff_toInt_lt]; omega), if_pos (by rw [Int32.lt_iff_toInt_lt]; omega), if_neg (noob (by omega) (by omega))]
theorem k_led0 {N K : Nat} {p : Int32} (h : ¬ Rg p 0 2) : fX5_ledgerAt N K p = some (.inr "java/lang/IndexOutOfBoundsException") := by
  have q0 : (0 : Int32).toInt = 0 := by decide
  have q1 : (2 : Int32).toInt = 2 := by decide
  have q2 : (3 : Int32).toInt = 3 := by decide
  unfold fX5_ledgerAt
  by_cases e : p < 0
  · rw [if_pos e]; rfl
  · have e1 : ¬ (p.toInt < (0 : Int32).toInt) := fun z => e (Int32.lt_iff_toInt_lt.mpr z)
    rw [if_neg e, if_neg (fun z => h ⟨by omega, by have := Int32.lt_iff_toInt_lt.mp z; omega⟩)]
    rfl
theorem k_rng1 {N K : Nat} {p a b : Int32} (h : Rg p a b) : fX5_checkRange N K p a b = some (.inl ()) := by
  obtain ⟨h1, h2⟩ := h
  unfold fX5_checkRange
  rw [if_neg (by rw [Int32.lt_iff_toInt_lt]; omega), if_pos (by rw [Int32.le_iff_toInt_le]; omega)]
theorem k_rng0 {N K : Nat} {p a b : Int32} (h : ¬ Rg p a b) : fX5_checkRange N K p a b = some (.inr "java/lang/IllegalArgumentException") := by
  unfold fX5_checkRange
  by_cases e : p < a
  · rw [if_pos e]; rfl
  · have e1 : ¬ (p.toInt < a.toInt) := fun z => e (Int32.lt_iff_toInt_lt.mpr z)
    rw [if_neg e, if_neg (fun z => h ⟨by omega, Int32.le_iff_toInt_le.mp z⟩)]
    rfl
theorem m_in {N K : Nat} {p a b : Int32} (h : Rg p a b) : fX7_isNo N K p a b = some 0 := by
  obtain ⟨h1, h2⟩ := h
  unfold fX7_isNo
  rw [if_neg (by rw [Int32.lt_iff_toInt_lt]; omega), if_pos (by rw [Int32.le_iff_toInt_le]; omega)]
theorem m_out {N K : Nat} {p a b : Int32} (h : ¬ Rg p a b) : fX7_isNo N K p a b = some 1 := by
  unfold fX7_isNo
  by_cases e : p < a
  · rw [if_pos e]
  · have e1 : ¬ (p.toInt < a.toInt) := fun z => e (Int32.lt_iff_toInt_lt.mpr z)
    rw [if_neg e, if_neg (fun z => h ⟨by omega, Int32.le_iff_toInt_le.mp z⟩)]
theorem m_th00 {N K : Nat} {th : Int32} : fX7_isThrown N K th 0 0 = some (0, 0) := by
  unfold fX7_isThrown fX7_isThrown_18
  rw [if_pos rfl, if_pos rfl, if_pos (by decide)]
theorem m_th01 {N K : Nat} {th : Int32} : fX7_isThrown N K th 0 1 = some (1, 2) := by
  unfold fX7_isThrown fX7_isThrown_18
  rw [if_pos rfl, if_neg (by decide), if_neg (by decide)]
theorem m_th1 {N K : Nat} {th x : Int32} : fX7_isThrown N K th 1 x = some (1, 1) := by
  unfold fX7_isThrown fX7_isThrown_18
  rw [if_neg (by decide), if_neg (by decide)]
/-- what a refusal leaves of the tallies -/
def rf (t : Nat → Int32) : Nat → Int32 := upd t (4 : Int32).toNatClampNeg (t (4 : Int32).toNatClampNeg + (1 : Int32))
theorem m_done {N K : Nat} {th : Int32} {t : Nat → Int32} {p : Int32} : fX7_done N K th t p = some (p, dn t) := rfl
theorem m_ref {N K : Nat} {th : Int32} {t : Nat → Int32} : fX7_refused N K th t = some ((-9 : Int32), rf t) := rfl
theorem k_act {N K : Nat} {c0 c1 c2 c3 c4 c5 p : Int32} : fX5_acted N K c0 c1 c2 c3 c4 c5 p = some (p, c0 + (1 : Int32)) := rfl
theorem k_und {N K : Nat} {c0 c1 c2 c3 c4 c5 : Int32} : fX5_undone N K c0 c1 c2 c3 c4 c5 = some ((-9 : Int32), c4 + (1 : Int32)) := rfl
def DD (f g : Nat → Int32) : Prop := ∃ w, Dk f w ∧ Dk g w
/-- an outcome of the class beside the reference's thrown (b: whether an argument can be refused) -/
def Ti {U : Type} (b : Bool) (o : U ⊕ String) (th : Int32) (Q : U → Prop) (R : Prop) : Prop := match o with
  | .inl z => th = 0 ∧ Q z
  | .inr E => ((E = "java/lang/IndexOutOfBoundsException" ∧ th = 1) ∨ (b = true ∧ E = "java/lang/IllegalArgumentException" ∧ th = 2)) ∧ R
theorem upm_at {α : Type} {w : Nat → α} {p : Nat} {v : α} : upm w p v p = v := if_pos rfl
theorem upd_at {f : Nat → Int32} {p : Nat} {v : Int32} : upd f p v p = v := if_pos rfl
theorem wb_io {U T : Type} {kf : U → Option T} {k1 k2 : Option T} : wb (some (.inr "java/lang/IndexOutOfBoundsException")) kf k1 k2 = k1 := by
  show (if "java/lang/IndexOutOfBoundsException" = "java/lang/IndexOutOfBoundsException" then k1 else if "java/lang/IndexOutOfBoundsException" = "java/lang/IllegalArgumentException" then k2 else none) = k1
  rw [if_pos rfl]
theorem wb_ia {U T : Type} {kf : U → Option T} {k1 k2 : Option T} : wb (some (.inr "java/lang/IllegalArgumentException")) kf k1 k2 = k2 := by
  show (if "java/lang/IllegalArgumentException" = "java/lang/IndexOutOfBoundsException" then k1 else if "java/lang/IllegalArgumentException" = "java/lang/IllegalArgumentException" then k2 else none) = k2
  rw [if_neg (by decide), if_pos rfl]
theorem dd_upm {d e : Nat → Nat → Int32} {i : Nat} {v v' : Nat → Int32} (h : ∀ j, DD (d j) (e j)) (hv : DD v v') : ∀ j, DD (upm d i v j) (upm e i v' j) := by
  intro j
  unfold upm
  by_cases c : j = i
  · rw [if_pos c, if_pos c]; exact hv
  · rw [if_neg c, if_neg c]; exact h j
theorem dd_same {d e : Nat → Nat → Int32} {i : Nat} {v' : Nat → Int32} (h : ∀ j, DD (d j) (e j)) (hv : v' = e i) : ∀ j, DD (d j) (upm e i v' j) := by
  intro j
  unfold upm
  by_cases c : j = i
  · rw [if_pos c, hv, c]; exact h i
  · rw [if_neg c]; exact h j
/-- an outcome that may refuse an argument alone -/
def Tj {U : Type} (o : U ⊕ String) (th : Int32) (Q : U → Prop) : Prop := match o with
  | .inl z => th = 0 ∧ Q z
  | .inr E => E = "java/lang/IllegalArgumentException" ∧ th = 1
theorem k_any1 {N K : Nat} {p0 p1 p2 : Int32} (h0 : Rg p0 0 7) (h1 : Rg p1 0 20) (h2 : Rg p2 0 20) : fX5_checkAnyCase N K p0 p1 p2 = some (.inl ()) := by
  unfold fX5_checkAnyCase
  rw [k_rng1 h0, xb_l, k_rng1 h1, xb_l, k_rng1 h2, xb_l]
theorem k_any0 {N K : Nat} {p0 p1 p2 : Int32} (h : ¬ (Rg p0 0 7 ∧ Rg p1 0 20 ∧ Rg p2 0 20)) : fX5_checkAnyCase N K p0 p1 p2 = some (.inr "java/lang/IllegalArgumentException") := by
  unfold fX5_checkAnyCase
  by_cases h0 : Rg p0 0 7
  · by_cases h1 : Rg p1 0 20
    · have h2 : ¬ Rg p2 0 20 := fun z => h ⟨h0, h1, z⟩
      rw [k_rng1 h0, xb_l, k_rng1 h1, xb_l, k_rng0 h2, xb_r]
    · rw [k_rng1 h0, xb_l, k_rng0 h1, xb_r]
  · rw [k_rng0 h0, xb_r]
theorem ne1 {p : Prop} (h : (1 : Int32) = 0) : p := absurd h (by decide)
theorem ne2 {p : Prop} (h : (2 : Int32) = 0) : p := absurd h (by decide)
/-- counts and tallies stay alike -/
def KT (c0 c1 c2 c3 c4 : Int32) (t : Nat → Int32) (d0 d1 d2 d3 d4 : Int32) (t' : Nat → Int32) : Prop := c0 = t 0 → c1 = t 1 → c2 = t 2 → c3 = t 3 → c4 = t 4 → (d0 = t' 0 ∧ d1 = t' 1 ∧ d2 = t' 2 ∧ d3 = t' 3 ∧ d4 = t' 4 ∧ t' 5 = t 5)
theorem KT.done {c0 c1 c2 c3 c4 : Int32} {t : Nat → Int32} : KT c0 c1 c2 c3 c4 t (c0 + (1 : Int32)) c1 c2 c3 c4 (dn t) := by
  intro h0 h1 h2 h3 h4
  unfold dn upd
  have q : (0 : Int32).toNatClampNeg = 0 := by decide
  rw [q, if_pos rfl, if_neg (by decide), if_neg (by decide), if_neg (by decide), if_neg (by decide), if_neg (by decide), h0]
  exact ⟨rfl, h1, h2, h3, h4, rfl⟩
theorem KT.refu {c0 c1 c2 c3 c4 : Int32} {t : Nat → Int32} : KT c0 c1 c2 c3 c4 t c0 c1 c2 c3 (c4 + (1 : Int32)) (rf t) := by
  intro h0 h1 h2 h3 h4
  unfold rf upd
  have q : (4 : Int32).toNatClampNeg = 4 := by decide
  rw [q, if_neg (by decide), if_neg (by decide), if_neg (by decide), if_neg (by decide), if_pos rfl, if_neg (by decide), h4]
  exact ⟨h0, h1, h2, h3, rfl, rfl⟩
theorem KT.same {c0 c1 c2 c3 c4 : Int32} {t : Nat → Int32} : KT c0 c1 c2 c3 c4 t c0 c1 c2 c3 c4 t := fun h0 h1 h2 h3 h4 => ⟨h0, h1, h2, h3, h4, rfl⟩
theorem KT.trans {c0 c1 c2 c3 c4 d0 d1 d2 d3 d4 e0 e1 e2 e3 e4 : Int32} {t t' t'' : Nat → Int32} (h : KT c0 c1 c2 c3 c4 t d0 d1 d2 d3 d4 t') (g : KT d0 d1 d2 d3 d4 t' e0 e1 e2 e3 e4 t'') : KT c0 c1 c2 c3 c4 t e0 e1 e2 e3 e4 t'' := by
  intro h0 h1 h2 h3 h4
  obtain ⟨a0, a1, a2, a3, a4, a5⟩ := h h0 h1 h2 h3 h4
  obtain ⟨b0, b1, b2, b3, b4, b5⟩ := g a0 a1 a2 a3 a4
  exact ⟨b0, b1, b2, b3, b4, b5.trans a5⟩

end MG_60dchecks
section MG_60fkindof
/-! ===== the greatest part; own turned ===== -/
def grf (w : Nat → Nat) : Nat → Nat
  | 0 => 0
  | n + 1 => if w (n + 1) = 0 then grf w n else n + 1
def gr (w : Nat → Nat) : Nat := grf w 20
theorem grf_le {w : Nat → Nat} : ∀ n, grf w n ≤ n := by
  intro n
  induction n with
  | zero => exact Nat.le_refl _
  | succ n ih =>
    unfold grf
    by_cases e : w (n + 1) = 0
    · rw [if_pos e]; omega
    · rw [if_neg e]; exact Nat.le_refl _
theorem m_gr_ {N K : Nat} {f : Nat → Int32} {w : Nat → Nat} (hf : Dk f w) : ∀ n fu, n ≤ 20 → n < fu → fX7_greatest_3 N K f fu (Int32.ofNat n) = some (Int32.ofNat (grf w n)) := by
  intro n
  induction n with
  | zero =>
    intro fu _ hfu
    obtain ⟨fu, rfl⟩ : ∃ m, fu = m + 1 := ⟨fu - 1, by omega⟩
    unfold fX7_greatest_3
    rw [if_pos (by decide)]
    rfl
  | succ n ih =>
    intro fu hn hfu
    obtain ⟨fu, rfl⟩ : ∃ m, fu = m + 1 := ⟨fu - 1, by omega⟩
    have a1 := wn_le1 (w := w) (p := n + 1) (by omega) hn
    have b1 := hf.1
    unfold fX7_greatest_3 grf
    rw [if_neg (o_0lt (by omega) (by omega)), if_neg (o_ob (by omega) (by omega)), o_c (by omega), hf.2 _ (by omega) hn, o_m1]
    by_cases e : w (n + 1) = 0
    · rw [if_pos (by rw [e]; rfl), if_pos e]
      exact ih fu (by omega) (by omega)
    · rw [if_neg (by rw [show (0 : Int32) = Int32.ofNat 0 from rfl, o_eq (by omega) (by omega)]; exact e), if_neg e]
theorem m_gr {N K : Nat} (hN : 100 ≤ N) {f : Nat → Int32} {w : Nat → Nat} (hf : Dk f w) : fX7_greatest N K f = some (Int32.ofNat (gr w)) := m_gr_ hf 20 N (Nat.le_refl _) (by omega)
theorem c_none_ {N K : Nat} {f : Nat → Int32} {w : Nat → Nat} (hf : Dk f w) {p : Nat} (hp : p ≤ 20) : ∀ n fu, n ≤ 20 → n < fu → fX4_hasNoneAbove_3 N K f (Int32.ofNat p) fu (Int32.ofNat n) = some (bi (decide (grf w n ≤ p))) := by
  intro n
  induction n with
  | zero =>
    intro fu _ hfu
    obtain ⟨fu, rfl⟩ : ∃ m, fu = m + 1 := ⟨fu - 1, by omega⟩
    unfold fX4_hasNoneAbove_3
    rw [if_pos (by rw [o_le (by omega) (by omega)]; omega), decide_eq_true (by show grf w 0 ≤ p; exact Nat.zero_le _)]
    rfl
  | succ n ih =>
    intro fu hn hfu
    obtain ⟨fu, rfl⟩ : ∃ m, fu = m + 1 := ⟨fu - 1, by omega⟩
    have a1 := wn_le1 (w := w) (p := n + 1) (by omega) hn
    have b1 := hf.1
    have g1 := grf_le (w := w) (n + 1)
    unfold fX4_hasNoneAbove_3
    by_cases e0 : n + 1 ≤ p
    · rw [if_pos (by rw [o_le (by omega) (by omega)]; exact e0), decide_eq_true (by omega)]
      rfl
    · rw [if_neg (by rw [o_le (by omega) (by omega)]; exact e0), if_neg (o_1le (by omega) (by omega)), if_neg (o_ob (by omega) (by omega)), o_c (by omega), hf.2 _ (by omega) hn, o_m1]
      unfold grf
      by_cases e : w (n + 1) = 0
      · rw [if_pos (by rw [e]; decide), if_pos e]
        exact ih fu (by omega) (by omega)
      · rw [if_neg (o_0lt (by omega) (by omega)), if_neg e, decide_eq_false (by omega)]
        rfl
theorem c_none {N K : Nat} (hN : 100 ≤ N) {f : Nat → Int32} {w : Nat → Nat} (hf : Dk f w) {p : Nat} (hp : p ≤ 20) : fX4_hasNoneAbove N K f (Int32.ofNat p) = some (bi (decide (gr w ≤ p))) := c_none_ hf hp 20 N (Nat.le_refl _) (by omega)
/-- the i-th part from the greatest on -/
def paf (w : Nat → Nat) (i : Nat) : Nat → Nat
  | 0 => 0
  | n + 1 => if tl w (20 - n) < i then paf w i n else n + 1
def pa (w : Nat → Nat) (i : Nat) : Nat := paf w i 20
theorem tl_s {w : Nat → Nat} {n : Nat} (h : n < 20) : tl w (20 - n) = tl w (19 - n) + w (n + 1) := by
  obtain ⟨j, hj⟩ : ∃ j, 20 - n = j + 1 := ⟨19 - n, by omega⟩
  rw [hj, show 19 - n = j from by omega, show n + 1 = 20 - j from by omega]
  rfl
theorem m_pa_ {N K : Nat} {f : Nat → Int32} {w : Nat → Nat} (hf : Dk f w) {i : Nat} (hi : i ≤ 20) : ∀ n fu, n ≤ 20 → n < fu → fX7_partAt_5 N K f (Int32.ofNat i) fu (Int32.ofNat (tl w (20 - n))) (Int32.ofNat n) = some (Int32.ofNat (paf w i n)) := by
  intro n
  induction n with
  | zero =>
    intro fu _ hfu
    obtain ⟨fu, rfl⟩ : ∃ m, fu = m + 1 := ⟨fu - 1, by omega⟩
    unfold fX7_partAt_5
    rw [if_pos (by decide)]
    rfl
  | succ n ih =>
    intro fu hn hfu
    obtain ⟨fu, rfl⟩ : ∃ m, fu = m + 1 := ⟨fu - 1, by omega⟩
    have ht := tl_s (w := w) (n := n) (by omega)
    have hl := tl_le (w := w) (m := 20 - n) (by omega)
    have b1 := hf.1
    unfold fX7_partAt_5 paf
    rw [if_neg (o_0lt (by omega) (by omega)), if_neg (o_ob (by omega) (by omega)), o_c (by omega), hf.2 _ (by omega) hn, o_add, o_m1, show 20 - (n + 1) = 19 - n from by omega, ← ht]
    by_cases e : tl w (20 - n) < i
    · rw [if_pos (by rw [o_lt (by omega) (by omega)]; exact e), if_pos e]
      exact ih fu (by omega) (by omega)
    · rw [if_neg (by rw [o_lt (by omega) (by omega)]; exact e), if_neg e]
theorem m_pa {N K : Nat} (hN : 100 ≤ N) {f : Nat → Int32} {w : Nat → Nat} (hf : Dk f w) {i : Nat} (hi : i ≤ 20) : fX7_partAt N K f (Int32.ofNat i) = some (Int32.ofNat (pa w i)) := m_pa_ hf hi 20 N (Nat.le_refl _) (by omega)
theorem paf_le {w : Nat → Nat} {i : Nat} : ∀ n, paf w i n ≤ n := by
  intro n
  induction n with
  | zero => exact Nat.le_refl _
  | succ n ih =>
    unfold paf
    by_cases e : tl w (20 - n) < i
    · rw [if_pos e]; omega
    · rw [if_neg e]; exact Nat.le_refl _
theorem paf_iff {w : Nat → Nat} {i l : Nat} (hl : 1 ≤ l) : ∀ n, n ≤ 20 → (l ≤ paf w i n ↔ l ≤ n ∧ i ≤ tl w (21 - l)) := by
  intro n
  induction n with
  | zero => intro _; show l ≤ 0 ↔ _; omega
  | succ n ih =>
    intro hn
    have h := ih (by omega)
    unfold paf
    by_cases e : tl w (20 - n) < i
    · rw [if_pos e, h]
      constructor
      · rintro ⟨a, b⟩; exact ⟨by omega, b⟩
      · rintro ⟨a, b⟩
        refine ⟨?_, b⟩
        by_cases e2 : l = n + 1
        · rw [e2, show 21 - (n + 1) = 20 - n from by omega] at b; omega
        · omega
    · rw [if_neg e]
      constructor
      · intro a
        have := tl_mono (w := w) (m := 20 - n) (n := 21 - l) (by omega)
        exact ⟨a, by omega⟩
      · rintro ⟨a, -⟩; exact a
theorem pa_iff {w : Nat → Nat} {i l : Nat} (h1 : 1 ≤ l) (h2 : l ≤ 20) : l ≤ pa w i ↔ i ≤ tl w (21 - l) := by
  unfold pa
  rw [paf_iff h1 20 (Nat.le_refl _)]
  exact ⟨fun h => h.2, fun h => ⟨h2, h⟩⟩
/-- how many of the tails up to n are l or more -/
def cge (w : Nat → Nat) (l : Nat) : Nat → Nat
  | 0 => 0
  | n + 1 => cge w l n + (if l ≤ tl w (n + 1) then 1 else 0)
theorem tl_upm {u : Nat → Nat} {t v : Nat} (h1 : 1 ≤ t) (h2 : t ≤ 20) : ∀ m, m ≤ 20 → tl (upm u t v) m + (if 21 ≤ m + t then u t else 0) = tl u m + (if 21 ≤ m + t then v else 0) := by
  intro m
  induction m with
  | zero => intro _; rw [if_neg (by omega), if_neg (by omega)]; rfl
  | succ m ih =>
    intro hm
    have h := ih (by omega)
    have e1 : tl (upm u t v) (m + 1) = tl (upm u t v) m + upm u t v (20 - m) := rfl
    have e2 : tl u (m + 1) = tl u m + u (20 - m) := rfl
    rw [e1, e2]
    by_cases e : 20 - m = t
    · rw [if_neg (by omega), if_neg (by omega)] at h
      rw [if_pos (by omega), if_pos (by omega), e, upm_at]
      omega
    · have e3 : upm u t v (20 - m) = u (20 - m) := by unfold upm; rw [if_neg e]
      rw [e3]
      by_cases e4 : 21 ≤ m + t
      · rw [if_pos e4, if_pos e4] at h
        rw [if_pos (by omega), if_pos (by omega)]
        omega
      · rw [if_neg e4, if_neg e4] at h
        rw [if_neg (by omega), if_neg (by omega)]
        omega
theorem tl_cn {w : Nat → Nat} (hw : wn w ≤ 20) {l : Nat} (h1 : 1 ≤ l) (h2 : l ≤ 20) : ∀ m, m ≤ 20 → tl (cn w m) (21 - l) = cge w l m := by
  intro m
  induction m with
  | zero =>
    intro _
    show tl (fun _ => 0) (21 - l) = 0
    have z : ∀ k, tl (fun _ => 0) k = 0 := by
      intro k
      induction k with
      | zero => rfl
      | succ k ih => show tl (fun _ => 0) k + 0 = 0; rw [ih]
    exact z _
  | succ m ih =>
    intro hm
    have h := ih (by omega)
    have ht := tl_le (w := w) hm
    show tl (if tl w (m + 1) = 0 then cn w m else upm (cn w m) (tl w (m + 1)) (cn w m (tl w (m + 1)) + 1)) (21 - l) = cge w l m + (if l ≤ tl w (m + 1) then 1 else 0)
    by_cases e : tl w (m + 1) = 0
    · rw [if_pos e, if_neg (by omega), h]; rfl
    · rw [if_neg e]
      have u := tl_upm (u := cn w m) (t := tl w (m + 1)) (v := cn w m (tl w (m + 1)) + 1) (by omega) (by omega) (21 - l) (by omega)
      by_cases e2 : l ≤ tl w (m + 1)
      · rw [if_pos (by omega), if_pos (by omega)] at u
        rw [if_pos e2]
        omega
      · rw [if_neg (by omega), if_neg (by omega)] at u
        rw [if_neg e2]
        omega
theorem cge_le {w : Nat → Nat} {l : Nat} : ∀ n, cge w l n ≤ n := by
  intro n
  induction n with
  | zero => exact Nat.le_refl _
  | succ n ih =>
    show cge w l n + (if l ≤ tl w (n + 1) then 1 else 0) ≤ n + 1
    by_cases e : l ≤ tl w (n + 1)
    · rw [if_pos e]; omega
    · rw [if_neg e]; omega
theorem cge_iff {w : Nat → Nat} {l : Nat} : ∀ n i, 1 ≤ i → i ≤ n → (i ≤ cge w l n ↔ l ≤ tl w (n + 1 - i)) := by
  intro n
  induction n with
  | zero => intro i a b; omega
  | succ n ih =>
    intro i a b
    show i ≤ cge w l n + (if l ≤ tl w (n + 1) then 1 else 0) ↔ _
    have hle := cge_le (w := w) (l := l) n
    by_cases e : l ≤ tl w (n + 1)
    · rw [if_pos e]
      by_cases e1 : i = 1
      · rw [e1, show n + 1 + 1 - 1 = n + 1 from by omega]
        exact ⟨fun _ => e, fun _ => by omega⟩
      · have h := ih (i - 1) (by omega) (by omega)
        rw [show n + 1 - (i - 1) = n + 1 + 1 - i from by omega] at h
        rw [← h]
        omega
    · rw [if_neg e]
      have mono := tl_mono (w := w) (m := n + 1 + 1 - i) (n := n + 1) (by omega)
      constructor
      · intro h
        exfalso
        have h2 := (ih i a (by omega)).mp (by omega)
        have mono2 := tl_mono (w := w) (m := n + 1 - i) (n := n + 1) (by omega)
        omega
      · intro h; omega
theorem pa_turn {w : Nat → Nat} (hw : wn w ≤ 20) {i : Nat} (h1 : 1 ≤ i) (h2 : i ≤ 20) : pa (turnw w) i = tl w (21 - i) := by
  have key : ∀ l, 1 ≤ l → l ≤ 20 → (l ≤ pa (turnw w) i ↔ l ≤ tl w (21 - i)) := by
    intro l a b
    have e : tl (turnw w) (21 - l) = cge w l 20 := tl_cn hw a b 20 (Nat.le_refl _)
    rw [pa_iff a b, e, cge_iff 20 i h1 h2]
  have b1 : pa (turnw w) i ≤ 20 := paf_le 20
  have b2 : tl w (21 - i) ≤ 20 := Nat.le_trans (tl_le (by omega)) hw
  by_cases c1 : pa (turnw w) i = 0
  · by_cases c2 : tl w (21 - i) = 0
    · omega
    · have := (key (tl w (21 - i)) (by omega) b2).mpr (Nat.le_refl _)
      omega
  · have k1 := (key (pa (turnw w) i) (by omega) b1).mp (Nat.le_refl _)
    have k2 := (key (tl w (21 - i)) (by omega) b2).mpr (Nat.le_refl _)
    omega
theorem tl_congr {u v : Nat → Nat} (h : ∀ p, 1 ≤ p → p ≤ 20 → u p = v p) : ∀ m, m ≤ 20 → tl u m = tl v m := by
  intro m
  induction m with
  | zero => intro _; rfl
  | succ m ih =>
    intro hm
    show tl u m + u (20 - m) = tl v m + v (20 - m)
    rw [ih (by omega), h (20 - m) (by omega) (by omega)]
theorem pa_congr {u v : Nat → Nat} (h : ∀ p, 1 ≤ p → p ≤ 20 → u p = v p) (i : Nat) : pa u i = pa v i := by
  have z : ∀ n, n ≤ 20 → paf u i n = paf v i n := by
    intro n
    induction n with
    | zero => intro _; rfl
    | succ n ih =>
      intro hn
      unfold paf
      rw [tl_congr h (20 - n) (by omega), ih (by omega)]
  exact z 20 (Nat.le_refl _)
theorem pa_inj {u v : Nat → Nat} (hu : wp u ≤ 20) (hv : wp v ≤ 20) (h : ∀ i, 1 ≤ i → i ≤ 20 → pa u i = pa v i) : ∀ p, 1 ≤ p → p ≤ 20 → u p = v p := by
  have bu : ∀ m, m ≤ 20 → tl u m ≤ 20 := fun m hm => Nat.le_trans (tl_mono hm) (by rw [tl_all]; exact hu)
  have bv : ∀ m, m ≤ 20 → tl v m ≤ 20 := fun m hm => Nat.le_trans (tl_mono hm) (by rw [tl_all]; exact hv)
  have key : ∀ l, 1 ≤ l → l ≤ 20 → tl u (21 - l) = tl v (21 - l) := by
    intro l a b
    have c1 := bu (21 - l) (by omega)
    have c2 := bv (21 - l) (by omega)
    have k : ∀ i, 1 ≤ i → i ≤ 20 → (i ≤ tl u (21 - l) ↔ i ≤ tl v (21 - l)) := by
      intro i d e
      rw [← pa_iff a b, ← pa_iff a b, h i d e]
    by_cases z1 : tl u (21 - l) = 0
    · by_cases z2 : tl v (21 - l) = 0
      · omega
      · have := (k (tl v (21 - l)) (by omega) c2).mpr (Nat.le_refl _)
        omega
    · have k1 := (k (tl u (21 - l)) (by omega) c1).mp (Nat.le_refl _)
      have k2 := (k (tl v (21 - l)) (by omega) c2).mpr
      by_cases z2 : tl v (21 - l) ≤ tl u (21 - l)
      · omega
      · have := k2 (Nat.le_refl _)
        omega
  intro p a b
  have e1 := tl_s (w := u) (n := p - 1) (by omega)
  have e2 := tl_s (w := v) (n := p - 1) (by omega)
  have k1 := key p a b
  rw [show 20 - (p - 1) = 21 - p from by omega, show 19 - (p - 1) = 20 - p from by omega, show p - 1 + 1 = p from by omega] at e1 e2
  by_cases c : p = 20
  · subst c
    have t0 : tl u (20 - 20) = 0 := rfl
    have t1 : tl v (20 - 20) = 0 := rfl
    omega
  · have k2 := key (p + 1) (by omega) (by omega)
    rw [show 21 - (p + 1) = 20 - p from by omega] at k2
    omega
/-- the reference's test: part by part -/
def ownf (w : Nat → Nat) : Nat → Bool
  | 0 => true
  | n + 1 => if pa w (n + 1) = tl w (20 - n) then ownf w n else false
theorem ownf_iff {w : Nat → Nat} : ∀ n, ownf w n = true ↔ ∀ i, 1 ≤ i → i ≤ n → pa w i = tl w (21 - i) := by
  intro n
  induction n with
  | zero => exact ⟨fun _ i a b => by omega, fun _ => rfl⟩
  | succ n ih =>
    unfold ownf
    by_cases e : pa w (n + 1) = tl w (20 - n)
    · rw [if_pos e, ih]
      constructor
      · intro h i a b
        by_cases c : i = n + 1
        · rw [c, e, show 21 - (n + 1) = 20 - n from by omega]
        · exact h i a (by omega)
      · intro h i a b
        exact h i a (by omega)
    · rw [if_neg e]
      constructor
      · intro h; exact absurd h (by decide)
      · intro h
        have := h (n + 1) (by omega) (Nat.le_refl _)
        rw [show 21 - (n + 1) = 20 - n from by omega] at this
        exact absurd this e
theorem own_eq {w : Nat → Nat} (hw : wn w ≤ 20) : eqw w (turnw w) = true ↔ ownf w 20 = true := by
  rw [eqw_iff, ownf_iff]
  constructor
  · intro h i a b
    rw [pa_congr h i, pa_turn hw a b]
  · intro h
    have wt := wn_turn hw
    exact pa_inj (Nat.le_trans wp_le hw) (Nat.le_trans wp_le (by omega)) (fun i a b => by rw [pa_turn hw a b]; exact h i a b)
theorem own_gr {w : Nat → Nat} (hw : wn w ≤ 20) (h : ownf w 20 = true) : wp w = gr w := by
  have h1 := (ownf_iff 20).mp h 1 (Nat.le_refl _) (by omega)
  rw [show 21 - 1 = 20 from rfl, tl_all] at h1
  rw [← h1]
  have z : ∀ n, n ≤ 20 → paf w 1 n = grf w n ∨ (tl w (20 - n) ≠ 0) := by
    intro n
    induction n with
    | zero => intro _; exact Or.inl rfl
    | succ n ih =>
      intro hn
      by_cases e : tl w (20 - (n + 1)) = 0
      · refine Or.inl ?_
        have ht := tl_s (w := w) (n := n) (by omega)
        rw [show 20 - (n + 1) = 19 - n from by omega] at e
        unfold paf grf
        by_cases c : w (n + 1) = 0
        · rw [if_pos (by omega), if_pos c]
          rcases ih (by omega) with a | a
          · exact a
          · exact absurd (show tl w (20 - n) = 0 by omega) a
        · rw [if_neg (by omega), if_neg c]
      · exact Or.inr e
  rcases z 20 (Nat.le_refl _) with a | a
  · exact a
  · exact absurd rfl a
theorem m_own_ {N K : Nat} (hN : 100 ≤ N) {f : Nat → Int32} {w : Nat → Nat} (hf : Dk f w) : ∀ n fu b, n ≤ 20 → n < fu → fX7_isOwnTurned_22 N K f fu (Int32.ofNat (tl w (20 - n))) (bi b) (Int32.ofNat n) = some (bi (b && ownf w n)) := by
  intro n
  induction n with
  | zero =>
    intro fu b _ hfu
    obtain ⟨fu, rfl⟩ : ∃ m, fu = m + 1 := ⟨fu - 1, by omega⟩
    unfold fX7_isOwnTurned_22 ownf
    rw [if_pos (by decide), if_pos (bi_ok b), Bool.and_true]
  | succ n ih =>
    intro fu b hn hfu
    obtain ⟨fu, rfl⟩ : ∃ m, fu = m + 1 := ⟨fu - 1, by omega⟩
    have ht := tl_s (w := w) (n := n) (by omega)
    have hl := tl_le (w := w) (m := 20 - n) (by omega)
    have b1 := hf.1
    have hp : pa w (n + 1) ≤ 20 := paf_le 20
    unfold fX7_isOwnTurned_22 ownf
    rw [if_neg (o_0lt (by omega) (by omega))]
    cases b with
    | false => rw [if_pos bif0, if_pos (bi_ok false), Bool.false_and]
    | true =>
      rw [if_neg (by decide), if_neg (o_ob (by omega) (by omega)), m_pa hN hf hn, Option.bind_some, o_c (by omega), hf.2 _ (by omega) hn, o_add, show 20 - (n + 1) = 19 - n from by omega, ← ht]
      by_cases e : pa w (n + 1) = tl w (20 - n)
      · rw [if_pos (by rw [o_eq (by omega) (by omega)]; exact e), if_pos e]
        unfold fX7_isOwnTurned_50
        rw [o_m1]
        exact ih fu true (by omega) (by omega)
      · rw [if_neg (by rw [o_eq (by omega) (by omega)]; exact e), if_neg e]
        unfold fX7_isOwnTurned_50
        rw [o_m1, Bool.and_false]
        have h := ih fu false (by omega) (by omega)
        rw [Bool.false_and] at h
        exact h
theorem m_own {N K : Nat} (hN : 100 ≤ N) {f : Nat → Int32} {w : Nat → Nat} (hf : Dk f w) : fX7_isOwnTurned N K f = some (bi (eqw w (turnw w))) := by
  have b1 := hf.1
  have b2 := wp_le (w := w)
  have b3 : gr w ≤ 20 := grf_le 20
  unfold fX7_isOwnTurned
  rw [m_parts hN hf.2, Option.bind_some, m_gr hN hf, Option.bind_some]
  by_cases e : ownf w 20 = true
  · rw [if_pos (by rw [o_eq (by omega) (by omega)]; exact own_gr hf.1 e), (own_eq hf.1).mpr e]
    unfold fX7_isOwnTurned_18
    have h := m_own_ (N := N) (K := K) hN hf 20 N true (Nat.le_refl _) (by omega)
    rw [e] at h
    exact h
  · have e2 : eqw w (turnw w) = false := Bool.eq_false_iff.mpr (fun z => e ((own_eq hf.1).mp z))
    rw [e2]
    by_cases c : wp w = gr w
    · rw [if_pos (by rw [o_eq (by omega) (by omega)]; exact c)]
      unfold fX7_isOwnTurned_18
      have h := m_own_ (N := N) (K := K) hN hf 20 N true (Nat.le_refl _) (by omega)
      rw [Bool.eq_false_iff.mpr e, Bool.and_false] at h
      exact h
    · rw [if_neg (by rw [o_eq (by omega) (by omega)]; exact c)]
      unfold fX7_isOwnTurned_18
      have h := m_own_ (N := N) (K := K) hN hf 20 N false (Nat.le_refl _) (by omega)
      rw [Bool.false_and] at h
      exact h

end MG_60fkindof
section MG_60gkinds
/-! ===== the eight kinds of ways ===== -/
def kindb (w : Nat → Nat) (m : Nat) : Nat → Bool
  | 0 => decide (gr w ≤ m)
  | 1 => decide (wp w = m)
  | 2 => unw w && decide (gr w ≤ m)
  | 3 => odw w && decide (gr w ≤ m)
  | 4 => odw w && (unw w && decide (gr w ≤ m))
  | 5 => unw w && decide (wp w = m)
  | 6 => decide (wp w ≤ m)
  | _ => decide (gr w ≤ m) && eqw w (turnw w)
theorem bi_1 {b : Bool} (h : b = true) : (1 : Int32) = bi b := by rw [h]; rfl
theorem bi_z {b : Bool} (h : b = false) : (0 : Int32) = bi b := by rw [h]; rfl
theorem c_kind {N K : Nat} (hN : 100 ≤ N) {f fs : Nat → Int32} {w : Nat → Nat} (hf : Dk f w) {k m : Nat} (hk : k ≤ 7) (hm : m ≤ 20) : ∃ fs', fX4_isOfKind N K f fs (Int32.ofNat k) (Int32.ofNat m) = some (bi (kindb w m k), fs') := by
  have b1 := hf.1
  have b2 := wp_le (w := w)
  have b3 : gr w ≤ 20 := grf_le 20
  have hk8 : k = 0 ∨ k = 1 ∨ k = 2 ∨ k = 3 ∨ k = 4 ∨ k = 5 ∨ k = 6 ∨ k = 7 := by omega
  rcases hk8 with rfl | rfl | rfl | rfl | rfl | rfl | rfl | rfl
  · unfold fX4_isOfKind
    rw [if_pos (by decide)]
    exact ⟨fs, by rw [c_none hN hf hm, Option.bind_some, if_pos (bi_ok _)]; rfl⟩
  · unfold fX4_isOfKind
    rw [if_neg (by decide), if_pos (by decide)]
    refine ⟨fs, ?_⟩
    rw [c_parts hN hf.2, Option.bind_some]
    by_cases e : wp w = m
    · rw [if_pos (by rw [e])]
      exact congrArg (fun v => some (v, fs)) (bi_1 (by unfold kindb; simp only [decide_eq_true e, Bool.true_and, Bool.and_true]))
    · rw [if_neg (by rw [o_eq (by omega) (by omega)]; exact e)]
      exact congrArg (fun v => some (v, fs)) (bi_z (by unfold kindb; simp only [decide_eq_false e, Bool.true_and, Bool.and_false]))
  · unfold fX4_isOfKind
    rw [if_neg (by decide), if_neg (by decide), if_pos (by decide)]
    cases qunl : unw w with
    | false =>
      refine ⟨fs, ?_⟩
      rw [c_unl hN hf, Option.bind_some, qunl, if_pos bif0]
      exact congrArg (fun v => some (v, fs)) (bi_z (by unfold kindb; simp only [qunl, Bool.false_and, Bool.and_false]))
    | true =>
      rw [c_unl hN hf, Option.bind_some, qunl, if_neg bitn]
      refine ⟨fs, ?_⟩
      rw [c_none hN hf hm, Option.bind_some]
      by_cases e : gr w ≤ m
      · rw [decide_eq_true e, if_neg bitn]
        exact congrArg (fun v => some (v, fs)) (bi_1 (by unfold kindb; simp only [qunl, decide_eq_true e, Bool.true_and, Bool.and_true]))
      · rw [decide_eq_false e, if_pos bif0]
        exact congrArg (fun v => some (v, fs)) (bi_z (by unfold kindb; simp only [qunl, decide_eq_false e, Bool.true_and, Bool.and_false]))
  · unfold fX4_isOfKind
    rw [if_neg (by decide), if_neg (by decide), if_neg (by decide), if_pos (by decide)]
    cases qoddq : odw w with
    | false =>
      refine ⟨fs, ?_⟩
      rw [c_oddq hN hf, Option.bind_some, qoddq, if_pos bif0]
      exact congrArg (fun v => some (v, fs)) (bi_z (by unfold kindb; simp only [qoddq, Bool.false_and, Bool.and_false]))
    | true =>
      rw [c_oddq hN hf, Option.bind_some, qoddq, if_neg bitn]
      refine ⟨fs, ?_⟩
      rw [c_none hN hf hm, Option.bind_some]
      by_cases e : gr w ≤ m
      · rw [decide_eq_true e, if_neg bitn]
        exact congrArg (fun v => some (v, fs)) (bi_1 (by unfold kindb; simp only [qoddq, decide_eq_true e, Bool.true_and, Bool.and_true]))
      · rw [decide_eq_false e, if_pos bif0]
        exact congrArg (fun v => some (v, fs)) (bi_z (by unfold kindb; simp only [qoddq, decide_eq_false e, Bool.true_and, Bool.and_false]))
  · unfold fX4_isOfKind
    rw [if_neg (by decide), if_neg (by decide), if_neg (by decide), if_neg (by decide), if_pos (by decide)]
    cases qoddq : odw w with
    | false =>
      refine ⟨fs, ?_⟩
      rw [c_oddq hN hf, Option.bind_some, qoddq, if_pos bif0]
      exact congrArg (fun v => some (v, fs)) (bi_z (by unfold kindb; simp only [qoddq, Bool.false_and, Bool.and_false]))
    | true =>
      rw [c_oddq hN hf, Option.bind_some, qoddq, if_neg bitn]
      cases qunl : unw w with
      | false =>
        refine ⟨fs, ?_⟩
        rw [c_unl hN hf, Option.bind_some, qunl, if_pos bif0]
        exact congrArg (fun v => some (v, fs)) (bi_z (by unfold kindb; simp only [qoddq, qunl, Bool.false_and, Bool.and_false]))
      | true =>
        rw [c_unl hN hf, Option.bind_some, qunl, if_neg bitn]
        refine ⟨fs, ?_⟩
        rw [c_none hN hf hm, Option.bind_some]
        by_cases e : gr w ≤ m
        · rw [decide_eq_true e, if_neg bitn]
          exact congrArg (fun v => some (v, fs)) (bi_1 (by unfold kindb; simp only [qoddq, qunl, decide_eq_true e, Bool.true_and, Bool.and_true]))
        · rw [decide_eq_false e, if_pos bif0]
          exact congrArg (fun v => some (v, fs)) (bi_z (by unfold kindb; simp only [qoddq, qunl, decide_eq_false e, Bool.true_and, Bool.and_false]))
  · unfold fX4_isOfKind
    rw [if_neg (by decide), if_neg (by decide), if_neg (by decide), if_neg (by decide), if_neg (by decide), if_pos (by decide)]
    cases qunl : unw w with
    | false =>
      refine ⟨fs, ?_⟩
      rw [c_unl hN hf, Option.bind_some, qunl, if_pos bif0]
      exact congrArg (fun v => some (v, fs)) (bi_z (by unfold kindb; simp only [qunl, Bool.false_and, Bool.and_false]))
    | true =>
      rw [c_unl hN hf, Option.bind_some, qunl, if_neg bitn]
      refine ⟨fs, ?_⟩
      rw [c_parts hN hf.2, Option.bind_some]
      by_cases e : wp w = m
      · rw [if_pos (by rw [e])]
        exact congrArg (fun v => some (v, fs)) (bi_1 (by unfold kindb; simp only [qunl, decide_eq_true e, Bool.true_and, Bool.and_true]))
      · rw [if_neg (by rw [o_eq (by omega) (by omega)]; exact e)]
        exact congrArg (fun v => some (v, fs)) (bi_z (by unfold kindb; simp only [qunl, decide_eq_false e, Bool.true_and, Bool.and_false]))
  · unfold fX4_isOfKind
    rw [if_neg (by decide), if_neg (by decide), if_neg (by decide), if_neg (by decide), if_neg (by decide), if_neg (by decide), if_pos (by decide)]
    refine ⟨fs, ?_⟩
    rw [c_parts hN hf.2, Option.bind_some]
    by_cases e : wp w ≤ m
    · rw [if_neg (by rw [o_lt (by omega) (by omega)]; omega)]
      exact congrArg (fun v => some (v, fs)) (bi_1 (by unfold kindb; exact decide_eq_true e))
    · rw [if_pos (by rw [o_lt (by omega) (by omega)]; omega)]
      exact congrArg (fun v => some (v, fs)) (bi_z (by unfold kindb; exact decide_eq_false e))
  · unfold fX4_isOfKind
    rw [if_neg (by decide), if_neg (by decide), if_neg (by decide), if_neg (by decide), if_neg (by decide), if_neg (by decide), if_neg (by decide)]
    rw [c_none hN hf hm, Option.bind_some]
    by_cases e : gr w ≤ m
    · rw [decide_eq_true e, if_neg bitn]
      obtain ⟨g1, e1, e2⟩ := c_turn (N := N) (K := K) hN (f := fs) hf
      refine ⟨g1, ?_⟩
      unfold fX4_isOwnTurned
      rw [e1, Option.bind_some, c_like hN hf e2, Option.bind_some, if_pos (bi_ok _), Option.bind_some]
      cases q : eqw w (turnw w) with
      | false =>
        rw [if_pos bif0]
        exact congrArg (fun v => some (v, g1)) (bi_z (by unfold kindb; simp only [q, Bool.and_false]))
      | true =>
        rw [if_neg bitn]
        exact congrArg (fun v => some (v, g1)) (bi_1 (by unfold kindb; simp only [q, decide_eq_true e, Bool.and_true]))
    · rw [decide_eq_false e, if_pos bif0]
      exact ⟨fs, congrArg (fun v => some (v, fs)) (bi_z (by unfold kindb; simp only [decide_eq_false e, Bool.false_and]))⟩
theorem m_kind {N K : Nat} (hN : 100 ≤ N) {f : Nat → Int32} {w : Nat → Nat} (hf : Dk f w) {k m : Nat} (hk : k ≤ 7) (hm : m ≤ 20) : fX7_isOfKind N K f (Int32.ofNat k) (Int32.ofNat m) = some (bi (kindb w m k)) := by
  have b1 := hf.1
  have b2 := wp_le (w := w)
  have b3 : gr w ≤ 20 := grf_le 20
  have hk8 : k = 0 ∨ k = 1 ∨ k = 2 ∨ k = 3 ∨ k = 4 ∨ k = 5 ∨ k = 6 ∨ k = 7 := by omega
  rcases hk8 with rfl | rfl | rfl | rfl | rfl | rfl | rfl | rfl
  · unfold fX7_isOfKind
    rw [if_pos (by decide)]
    rw [m_gr hN hf, Option.bind_some]
    by_cases e : gr w ≤ m
    · rw [if_neg (by rw [o_lt (by omega) (by omega)]; omega)]
      exact congrArg some (bi_1 (by unfold kindb; simp only [decide_eq_true e, Bool.true_and, Bool.and_true]))
    · rw [if_pos (by rw [o_lt (by omega) (by omega)]; omega)]
      exact congrArg some (bi_z (by unfold kindb; simp only [decide_eq_false e, Bool.true_and, Bool.and_false]))
  · unfold fX7_isOfKind
    rw [if_neg (by decide), if_pos (by decide)]
    rw [m_parts hN hf.2, Option.bind_some]
    by_cases e : wp w = m
    · rw [if_pos (by rw [e])]
      exact congrArg some (bi_1 (by unfold kindb; simp only [decide_eq_true e, Bool.true_and, Bool.and_true]))
    · rw [if_neg (by rw [o_eq (by omega) (by omega)]; exact e)]
      exact congrArg some (bi_z (by unfold kindb; simp only [decide_eq_false e, Bool.true_and, Bool.and_false]))
  · unfold fX7_isOfKind
    rw [if_neg (by decide), if_neg (by decide), if_pos (by decide)]
    cases qunl : unw w with
    | false =>
      rw [m_unl hN hf, Option.bind_some, qunl, if_pos bif0]
      exact congrArg some (bi_z (by unfold kindb; simp only [qunl, Bool.false_and, Bool.and_false]))
    | true =>
      rw [m_unl hN hf, Option.bind_some, qunl, if_neg bitn]
      rw [m_gr hN hf, Option.bind_some]
      by_cases e : gr w ≤ m
      · rw [if_neg (by rw [o_lt (by omega) (by omega)]; omega)]
        exact congrArg some (bi_1 (by unfold kindb; simp only [qunl, decide_eq_true e, Bool.true_and, Bool.and_true]))
      · rw [if_pos (by rw [o_lt (by omega) (by omega)]; omega)]
        exact congrArg some (bi_z (by unfold kindb; simp only [qunl, decide_eq_false e, Bool.true_and, Bool.and_false]))
  · unfold fX7_isOfKind
    rw [if_neg (by decide), if_neg (by decide), if_neg (by decide), if_pos (by decide)]
    cases qoddq : odw w with
    | false =>
      rw [m_oddq hN hf, Option.bind_some, qoddq, if_pos bif0]
      exact congrArg some (bi_z (by unfold kindb; simp only [qoddq, Bool.false_and, Bool.and_false]))
    | true =>
      rw [m_oddq hN hf, Option.bind_some, qoddq, if_neg bitn]
      rw [m_gr hN hf, Option.bind_some]
      by_cases e : gr w ≤ m
      · rw [if_neg (by rw [o_lt (by omega) (by omega)]; omega)]
        exact congrArg some (bi_1 (by unfold kindb; simp only [qoddq, decide_eq_true e, Bool.true_and, Bool.and_true]))
      · rw [if_pos (by rw [o_lt (by omega) (by omega)]; omega)]
        exact congrArg some (bi_z (by unfold kindb; simp only [qoddq, decide_eq_false e, Bool.true_and, Bool.and_false]))
  · unfold fX7_isOfKind
    rw [if_neg (by decide), if_neg (by decide), if_neg (by decide), if_neg (by decide), if_pos (by decide)]
    cases qoddq : odw w with
    | false =>
      rw [m_oddq hN hf, Option.bind_some, qoddq, if_pos bif0]
      exact congrArg some (bi_z (by unfold kindb; simp only [qoddq, Bool.false_and, Bool.and_false]))
    | true =>
      rw [m_oddq hN hf, Option.bind_some, qoddq, if_neg bitn]
      cases qunl : unw w with
      | false =>
        rw [m_unl hN hf, Option.bind_some, qunl, if_pos bif0]
        exact congrArg some (bi_z (by unfold kindb; simp only [qoddq, qunl, Bool.false_and, Bool.and_false]))
      | true =>
        rw [m_unl hN hf, Option.bind_some, qunl, if_neg bitn]
        rw [m_gr hN hf, Option.bind_some]
        by_cases e : gr w ≤ m
        · rw [if_neg (by rw [o_lt (by omega) (by omega)]; omega)]
          exact congrArg some (bi_1 (by unfold kindb; simp only [qoddq, qunl, decide_eq_true e, Bool.true_and, Bool.and_true]))
        · rw [if_pos (by rw [o_lt (by omega) (by omega)]; omega)]
          exact congrArg some (bi_z (by unfold kindb; simp only [qoddq, qunl, decide_eq_false e, Bool.true_and, Bool.and_false]))
  · unfold fX7_isOfKind
    rw [if_neg (by decide), if_neg (by decide), if_neg (by decide), if_neg (by decide), if_neg (by decide), if_pos (by decide)]
    cases qunl : unw w with
    | false =>
      rw [m_unl hN hf, Option.bind_some, qunl, if_pos bif0]
      exact congrArg some (bi_z (by unfold kindb; simp only [qunl, Bool.false_and, Bool.and_false]))
    | true =>
      rw [m_unl hN hf, Option.bind_some, qunl, if_neg bitn]
      rw [m_parts hN hf.2, Option.bind_some]
      by_cases e : wp w = m
      · rw [if_pos (by rw [e])]
        exact congrArg some (bi_1 (by unfold kindb; simp only [qunl, decide_eq_true e, Bool.true_and, Bool.and_true]))
      · rw [if_neg (by rw [o_eq (by omega) (by omega)]; exact e)]
        exact congrArg some (bi_z (by unfold kindb; simp only [qunl, decide_eq_false e, Bool.true_and, Bool.and_false]))
  · unfold fX7_isOfKind
    rw [if_neg (by decide), if_neg (by decide), if_neg (by decide), if_neg (by decide), if_neg (by decide), if_neg (by decide), if_pos (by decide)]
    rw [m_parts hN hf.2, Option.bind_some]
    by_cases e : wp w ≤ m
    · rw [if_neg (by rw [o_lt (by omega) (by omega)]; omega)]
      exact congrArg some (bi_1 (by unfold kindb; exact decide_eq_true e))
    · rw [if_pos (by rw [o_lt (by omega) (by omega)]; omega)]
      exact congrArg some (bi_z (by unfold kindb; exact decide_eq_false e))
  · unfold fX7_isOfKind
    rw [if_neg (by decide), if_neg (by decide), if_neg (by decide), if_neg (by decide), if_neg (by decide), if_neg (by decide), if_neg (by decide)]
    rw [m_gr hN hf, Option.bind_some]
    by_cases e : gr w ≤ m
    · rw [if_neg (by rw [o_lt (by omega) (by omega)]; omega), m_own hN hf, Option.bind_some]
      cases q : eqw w (turnw w) with
      | false =>
        rw [if_pos bif0]
        exact congrArg some (bi_z (by unfold kindb; simp only [q, Bool.and_false]))
      | true =>
        rw [if_neg bitn]
        exact congrArg some (bi_1 (by unfold kindb; simp only [q, decide_eq_true e, Bool.and_true]))
    · rw [if_pos (by rw [o_lt (by omega) (by omega)]; omega)]
      exact congrArg some (bi_z (by unfold kindb; simp only [decide_eq_false e, Bool.false_and]))

end MG_60gkinds
section MG_60hwalk
/-! ===== the ways one by one ===== -/
/-- a weight for each part: every step on takes at least 1 -/
def cw : Nat → Nat
  | 2 => 1 | 3 => 11 | 4 => 68 | 5 => 341 | 6 => 1365 | 7 => 4097 | 8 => 9560 | 9 => 19189 | 10 => 38380 | 11 => 76761 | 12 => 95951 | 13 => 105512 | 14 => 109610 | 15 => 110976 | 16 => 111318 | 17 => 111387 | 18 => 111399 | 19 => 111401 | 20 => 111402
  | _ => 0
theorem cw_ok : ∀ p, p < 21 → ∀ s, s < 21 → (2 ≤ p ∧ p ≤ s) → s / (p - 1) * cw (p - 1) + cw (s % (p - 1)) + 1 ≤ cw p := by decide +kernel
theorem cw_le : ∀ p, p < 21 → cw p ≤ 111402 := by decide +kernel
def nuw (w : Nat → Nat) : Nat := sm (fun p => w p * cw p) 20
theorem nu_upm {w : Nat → Nat} {p v : Nat} (h1 : 1 ≤ p) (h2 : p ≤ 20) : nuw (upm w p v) + w p * cw p = nuw w + v * cw p := by
  unfold nuw
  rw [show (fun q => upm w p v q * cw q) = upm (fun q => w q * cw q) p (v * cw p) from by
    funext q
    unfold upm
    by_cases e : q = p
    · rw [if_pos e, if_pos e, e]
    · rw [if_neg e, if_neg e]]
  exact sm_upm (g := fun q => w q * cw q) h1 h2
theorem nu_step {w : Nat → Nat} (hw : wn w ≤ 20) (h : ¬ lst w = 0) : nuw (stw w (lst w)) + 1 ≤ nuw w := by
  rcases lst_is w with e | ⟨h2, h3, h1⟩
  · exact absurd e h
  · generalize lst w = p at *
    have hs : p + w 1 ≤ 20 := by
      have a := wn_stg h2 h3 h1
      omega
    have ck := cw_ok p (by omega) (p + w 1) (by omega) ⟨h2, by omega⟩
    obtain ⟨v, hv⟩ : ∃ v, w p = v + 1 := ⟨w p - 1, by omega⟩
    have a := nu_upm (w := w) (p := p) (v := v) (by omega) h3
    have b := nu_upm (w := upm w p v) (p := 1) (v := 0) (by omega) (by omega)
    rw [hv, Nat.add_mul] at a
    have c1 : cw 1 = 0 := rfl
    rw [c1] at b
    have hst : stg w p = upm (upm w p v) 1 0 := by unfold stg; rw [hv, show v + 1 - 1 = v from by omega]
    rw [← hst] at b
    have d := nu_upm (w := stg w p) (p := p - 1) (v := stg w p (p - 1) + (p + w 1) / (p - 1)) (by omega) (by omega)
    rw [Nat.add_mul] at d
    have lt : (p + w 1) % (p - 1) < p - 1 := Nat.mod_lt _ (by omega)
    unfold stw
    by_cases e : (p + w 1) % (p - 1) = 0
    · simp only [e, if_true]
      omega
    · simp only [e, if_false]
      have f := nu_upm (w := upm (stg w p) (p - 1) (stg w p (p - 1) + (p + w 1) / (p - 1))) (p := (p + w 1) % (p - 1)) (v := upm (stg w p) (p - 1) (stg w p (p - 1) + (p + w 1) / (p - 1)) ((p + w 1) % (p - 1)) + 1) (by omega) (by omega)
      rw [Nat.add_mul] at f
      omega
theorem nu_first {n : Nat} (h : n ≤ 20) : nuw (firstw n) ≤ 111402 := by
  unfold firstw
  have z : nuw (fun _ => 0) = 0 := by decide
  by_cases e : n = 0
  · rw [if_pos e, z]; omega
  · rw [if_neg e]
    have a := nu_upm (w := fun _ => 0) (p := n) (v := 1) (by omega) h
    have b := cw_le n (by omega)
    rw [z] at a
    omega
theorem m_bit {N K : Nat} {b : Bool} : fX7_bit N K (bi b) = some (bi b) := by
  unfold fX7_bit
  cases b
  · rw [if_pos bif0]; rfl
  · rw [if_neg bitn]; rfl
theorem bi_add {v : Int32} {b : Bool} {n : Nat} (h0 : 0 ≤ v.toInt) (h1 : v.toInt ≤ (n : Int)) (hn : n < 2000000000) : 0 ≤ (v + bi b).toInt ∧ (v + bi b).toInt ≤ (n : Int) + 1 := by
  have q : 0 ≤ (bi b).toInt ∧ (bi b).toInt ≤ 1 := by cases b <;> decide
  rw [addI (by omega) (by omega)]
  omega
theorem walk_ {N K : Nat} (hN : 100 ≤ N) {fw0 fs0 : Nat → Int32} {p1 : Int32} {k m : Nat} (hk : k ≤ 7) (hm : m ≤ 20) : ∀ n w (l4 : Int32) (l5 fx fy : Nat) (fw fs e : Nat → Int32), nuw w ≤ n → Dk fw w → Dk e w → l5 + nuw w < 1000000 → n < fx → n < fy → 0 ≤ l4.toInt → l4.toInt ≤ (l5 : Int) → ∃ v fw' fs', fX5_waysOneByOne_14 N K fw0 fs0 (Int32.ofNat k) p1 (Int32.ofNat m) fx l4 (Int32.ofNat l5) fw fs = some (v, fw', fs') ∧ fX7_walked_8 N K (Int32.ofNat k) p1 (Int32.ofNat m) fy l4 e = some v ∧ 0 ≤ v.toInt ∧ v.toInt ≤ ((l5 + nuw w + 1 : Nat) : Int) := by
  intro n
  induction n with
  | zero =>
    intro w l4 l5 fx fy fw fs e hn hw he hb h1 h2 hl0 hl1
    obtain ⟨fx, rfl⟩ : ∃ m, fx = m + 1 := ⟨fx - 1, by omega⟩
    obtain ⟨fy, rfl⟩ : ∃ m, fy = m + 1 := ⟨fy - 1, by omega⟩
    obtain ⟨fs', a1⟩ := c_kind (N := N) (K := K) hN (fs := fs) hw hk hm
    obtain ⟨g1, b1, b2⟩ := c_step (N := N) (K := K) hN hw
    obtain ⟨g2, d1, d2⟩ := m_step (N := N) (K := K) hN he
    have hl : lst w = 0 := by
      by_cases z : lst w = 0
      · exact z
      · have := nu_step hw.1 z
        omega
    rw [if_pos hl] at b1 d1
    have hbi := bi_add (v := l4) (b := kindb w m k) (n := l5) hl0 hl1 (by omega)
    refine ⟨l4 + bi (kindb w m k), g1, fs', ?_, ?_, hbi.1, by omega⟩
    · unfold fX5_waysOneByOne_14
      rw [if_neg (by rw [show (1000000 : Int32) = Int32.ofNat 1000000 from rfl, o_le (by omega) (by omega)]; omega), a1, Option.bind_some]
      cases kindb w m k with
      | false =>
        rw [if_pos bif0]
        unfold fX5_waysOneByOne_41
        rw [b1, Option.bind_some, if_pos rfl, show l4 + bi false = l4 from Int32.add_zero l4]
      | true =>
        rw [if_neg bitn]
        unfold fX5_waysOneByOne_41
        rw [b1, Option.bind_some, if_pos rfl]
        rfl
    · unfold fX7_walked_8
      rw [m_kind hN he hk hm, Option.bind_some, m_bit, Option.bind_some, d1, Option.bind_some, if_pos rfl]
  | succ n ih =>
    intro w l4 l5 fx fy fw fs e hn hw he hb h1 h2 hl0 hl1
    obtain ⟨fx, rfl⟩ : ∃ m, fx = m + 1 := ⟨fx - 1, by omega⟩
    obtain ⟨fy, rfl⟩ : ∃ m, fy = m + 1 := ⟨fy - 1, by omega⟩
    obtain ⟨fs', a1⟩ := c_kind (N := N) (K := K) hN (fs := fs) hw hk hm
    obtain ⟨g1, b1, b2⟩ := c_step (N := N) (K := K) hN hw
    obtain ⟨g2, d1, d2⟩ := m_step (N := N) (K := K) hN he
    have hx : fX5_waysOneByOne_14 N K fw0 fs0 (Int32.ofNat k) p1 (Int32.ofNat m) (fx + 1) l4 (Int32.ofNat l5) fw fs = fX5_waysOneByOne_41 N K fw0 fs0 (Int32.ofNat k) p1 (Int32.ofNat m) (fX5_waysOneByOne_14 N K fw0 fs0 (Int32.ofNat k) p1 (Int32.ofNat m) fx) (l4 + bi (kindb w m k)) (Int32.ofNat l5) fw fs' := by
      conv => lhs; unfold fX5_waysOneByOne_14
      rw [if_neg (by rw [show (1000000 : Int32) = Int32.ofNat 1000000 from rfl, o_le (by omega) (by omega)]; omega), a1, Option.bind_some]
      cases kindb w m k with
      | false => rw [if_pos bif0, show l4 + bi false = l4 from Int32.add_zero l4]
      | true => rw [if_neg bitn]; rfl
    have hy : fX7_walked_8 N K (Int32.ofNat k) p1 (Int32.ofNat m) (fy + 1) l4 e = ((fX7_isNext N K e).bind (fun x23 => (if x23.1 = 0 then (some (l4 + bi (kindb w m k))) else fX7_walked_8 N K (Int32.ofNat k) p1 (Int32.ofNat m) fy (l4 + bi (kindb w m k)) x23.2))) := by
      conv => lhs; unfold fX7_walked_8
      rw [m_kind hN he hk hm, Option.bind_some, m_bit, Option.bind_some]
    rw [hx, hy]
    unfold fX5_waysOneByOne_41
    rw [b1, d1, Option.bind_some, Option.bind_some]
    have hbi := bi_add (v := l4) (b := kindb w m k) (n := l5) hl0 hl1 (by omega)
    by_cases hl : lst w = 0
    · rw [if_pos hl]
      exact ⟨_, _, _, by rw [if_pos rfl], by rw [if_pos rfl], hbi.1, by omega⟩
    · have st := nu_step hw.1 hl
      rw [if_neg hl] at b2 d2
      rw [if_neg hl]
      obtain ⟨v, fw', fs2, r1, r2, r3, r4⟩ := ih (stw w (lst w)) (l4 + bi (kindb w m k)) (l5 + 1) fx fy g1 fs' g2 (by omega) b2 d2 (by omega) (by omega) (by omega) hbi.1 (by omega)
      refine ⟨v, fw', fs2, ?_, ?_, r3, by omega⟩
      · rw [if_neg (show ¬ ((1 : Int32) = 0) from by decide), o_1]; exact r1
      · rw [if_neg (show ¬ ((1 : Int32) = 0) from by decide)]; exact r2
theorem walk_n {N K : Nat} (hN : NBig N) {fw fs : Nat → Int32} {k n m : Nat} (hk : k ≤ 7) (hn : n ≤ 20) (hm : m ≤ 20) : ∃ v fw' fs', fX5_waysOneByOne N K fw fs (Int32.ofNat k) (Int32.ofNat n) (Int32.ofNat m) = some (v, fw', fs') ∧ fX7_walked N K (Int32.ofNat k) (Int32.ofNat n) (Int32.ofNat m) = some v ∧ 0 ≤ v.toInt ∧ v.toInt ≤ 111403 := by
  have hN9 := hN.u
  have hN1 : 100 ≤ N := by omega
  obtain ⟨g1, a1, a2⟩ := c_first (N := N) (K := K) hN1 (f := fw) hn
  obtain ⟨g2, b1, b2⟩ := m_first (N := N) (K := K) hn
  have hv := nu_first hn
  unfold fX5_waysOneByOne fX7_walked
  rw [a1, b1, Option.bind_some, Option.bind_some]
  obtain ⟨v, fw', fs', e1, e2, e3, e4⟩ := walk_ (fw0 := fw) (fs0 := fs) (p1 := Int32.ofNat n) hN1 hk hm (nuw (firstw n)) (firstw n) 0 0 N N g1 fs g2 (Nat.le_refl _) a2 b2 (by omega) (by omega) (by omega) (by decide) (by decide)
  exact ⟨v, fw', fs', e1, e2, e3, by omega⟩
theorem ty_walk {N K : Nat} {th : Int32} {fw fs : Nat → Int32} {p0 p1 p2 : Int32} (hN : NBig N) (hK : 100 ≤ K) : ∃ o y, fX5_walk N K fw fs p0 p1 p2 = some o ∧ fX7_walk N K th p0 p1 p2 = some y ∧ Tj o y.2 (fun z => z.1 = y.1) := by
  by_cases h : Rg p0 0 7 ∧ Rg p1 0 20 ∧ Rg p2 0 20
  · obtain ⟨h0, h1, h2⟩ := h
    have a1 := k_any1 (N := N) (K := K) h0 h1 h2
    have b0 := m_in (N := N) (K := K) h0
    have b1 := m_in (N := N) (K := K) h1
    have b2 := m_in (N := N) (K := K) h2
    obtain ⟨k, rfl, -, k2⟩ := Rg.n (a := 0) (b := 7) h0 (by omega) (by omega)
    obtain ⟨n, rfl, -, n2⟩ := Rg.n (a := 0) (b := 20) h1 (by omega) (by omega)
    obtain ⟨m, rfl, -, m2⟩ := Rg.n (a := 0) (b := 20) h2 (by omega) (by omega)
    obtain ⟨v, fw', fs', e1, e2, -, -⟩ := walk_n (N := N) (K := K) hN (fw := fw) (fs := fs) k2 n2 m2
    refine ⟨.inl (v, fw', fs'), (v, 0), ?_, ?_, rfl, rfl⟩
    · unfold fX5_walk
      rw [a1, xb_l, e1, Option.bind_some]
    · unfold fX7_walk
      rw [b0, Option.bind_some, if_pos rfl, b1, Option.bind_some, if_pos rfl, b2, Option.bind_some, if_pos rfl]
      unfold fX7_walk_36
      rw [m_th00, Option.bind_some, if_pos rfl, e2, Option.bind_some]
  · refine ⟨.inr "java/lang/IllegalArgumentException", (0, 1), ?_, ?_, rfl, rfl⟩
    · unfold fX5_walk
      rw [k_any0 h, xb_r]
    · have last : fX7_walk_31 N K th p0 p1 p2 th = some (0, 1) := by
        unfold fX7_walk_31 fX7_walk_36
        rw [m_th1, Option.bind_some, if_neg (by decide)]
      unfold fX7_walk
      by_cases h0 : Rg p0 0 7
      · rw [m_in h0, Option.bind_some, if_pos rfl]
        by_cases h1 : Rg p1 0 20
        · have h2 : ¬ Rg p2 0 20 := fun z => h ⟨h0, h1, z⟩
          rw [m_in h1, Option.bind_some, if_pos rfl, m_out h2, Option.bind_some, if_neg (by decide), last]
        · rw [m_out h1, Option.bind_some, if_neg (by decide), last]
      · rw [m_out h0, Option.bind_some, if_neg (by decide), last]

end MG_60hwalk
