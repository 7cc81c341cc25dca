section MG_60cways
/-! ===== what is asked of ways ===== -/
def bi (b : Bool) : Int32 := if b = true then 1 else 0
theorem bi_t : bi true = 1 := rfl
theorem bi_f : bi false = 0 := rfl
theorem bif0 : bi false = 0 := rfl
theorem bitn : ¬ (bi true = 0) := by decide
theorem bi_ok (b : Bool) : bi b = 0 ∨ bi b = 1 := by cases b; exact Or.inl rfl; exact Or.inr rfl
theorem bi_0 {b : Bool} : (bi b = 0) = (b = false) := by cases b <;> decide
theorem bi_and1 (b : Bool) : (bi b &&& (1 : Int32)) = bi b := by cases b <;> decide
theorem bi_and0 (b : Bool) : (bi b &&& (0 : Int32)) = bi false := by cases b <;> decide
/-- like parts, as often -/
def eqf (w v : Nat → Nat) : Nat → Nat → Bool
  | 0, _ => true
  | n + 1, i => if w i = v i then eqf w v n (i + 1) else false
def eqw (w v : Nat → Nat) : Bool := eqf w v 20 1
theorem eqf_iff {w v : Nat → Nat} : ∀ n i, eqf w v n i = true ↔ ∀ p, i ≤ p → p < i + n → w p = v p := by
  intro n
  induction n with
  | zero => intro i; exact ⟨fun _ p a b => absurd b (by omega), fun _ => rfl⟩
  | succ n ih =>
    intro i
    unfold eqf
    by_cases e : w i = v i
    · rw [if_pos e, ih (i + 1)]
      constructor
      · intro h p a b
        by_cases e2 : p = i
        · rw [e2]; exact e
        · exact h p (by omega) (by omega)
      · intro h p a b
        exact h p (by omega) (by omega)
    · rw [if_neg e]
      exact ⟨fun h => absurd h (by decide), fun h => absurd (h i (Nat.le_refl _) (by omega)) e⟩
theorem eqw_iff {w v : Nat → Nat} : eqw w v = true ↔ ∀ p, 1 ≤ p → p ≤ 20 → w p = v p := by
  unfold eqw
  rw [eqf_iff]
  exact ⟨fun h p a b => h p a (by omega), fun h p a b => h p a (by omega)⟩
theorem c_like_ {N K : Nat} {f g : Nat → Int32} {w v : Nat → Nat} (hf : Dk f w) (hg : Dk g v) : ∀ n i fu, i + n = 21 → 1 ≤ i → n < fu → fX4_isLike_2 N K f g fu (Int32.ofNat i) = some (bi (eqf w v n i)) := by
  intro n
  induction n with
  | zero =>
    intro i fu hi h1 hfu
    obtain ⟨fu, rfl⟩ : ∃ m, fu = m + 1 := ⟨fu - 1, by omega⟩
    obtain rfl : i = 21 := by omega
    unfold fX4_isLike_2
    rw [if_pos (by decide)]
    rfl
  | succ n ih =>
    intro i fu hi h1 hfu
    obtain ⟨fu, rfl⟩ : ∃ m, fu = m + 1 := ⟨fu - 1, by omega⟩
    have a1 := wn_le1 (w := w) (p := i) h1 (by omega)
    have a2 := wn_le1 (w := v) (p := i) h1 (by omega)
    have b1 := hf.1
    have b2 := hg.1
    unfold fX4_isLike_2 eqf
    rw [if_neg (n_20 (by omega)), if_neg (o_ob (by omega) (by omega)), if_neg (o_ob (by omega) (by omega)), o_c (by omega), hf.2 _ h1 (by omega), hg.2 _ h1 (by omega), o_1]
    by_cases e : w i = v i
    · rw [if_pos (by rw [e]), if_pos e]
      exact ih (i + 1) fu (by omega) (by omega) (by omega)
    · rw [if_neg (by rw [o_eq (by omega) (by omega)]; exact e), if_neg e]
      rfl
theorem c_like {N K : Nat} (hN : 100 ≤ N) {f g : Nat → Int32} {w v : Nat → Nat} (hf : Dk f w) (hg : Dk g v) : fX4_isLike N K f g = some (bi (eqw w v)) := c_like_ hf hg 20 1 N rfl (Nat.le_refl _) (by omega)
theorem m_same_ {N K : Nat} {f g : Nat → Int32} {w v : Nat → Nat} (hf : Dk f w) (hg : Dk g v) : ∀ n i fu b, i + n = 21 → 1 ≤ i → n < fu → fX7_areSame_4 N K f g fu (bi b) (Int32.ofNat i) = some (bi (b && eqf w v n i)) := by
  intro n
  induction n with
  | zero =>
    intro i fu b hi h1 hfu
    obtain ⟨fu, rfl⟩ : ∃ m, fu = m + 1 := ⟨fu - 1, by omega⟩
    obtain rfl : i = 21 := by omega
    unfold fX7_areSame_4 eqf
    rw [if_pos (by decide), if_pos (bi_ok b), Bool.and_true]
  | succ n ih =>
    intro i fu b hi h1 hfu
    obtain ⟨fu, rfl⟩ : ∃ m, fu = m + 1 := ⟨fu - 1, by omega⟩
    have a1 := wn_le1 (w := w) (p := i) h1 (by omega)
    have a2 := wn_le1 (w := v) (p := i) h1 (by omega)
    have b1 := hf.1
    have b2 := hg.1
    unfold fX7_areSame_4 eqf
    rw [if_neg (n_20 (by omega)), if_neg (o_ob (by omega) (by omega)), if_neg (o_ob (by omega) (by omega)), o_c (by omega), hf.2 _ h1 (by omega), hg.2 _ h1 (by omega)]
    by_cases e : w i = v i
    · rw [if_pos (by rw [e]), if_pos e]
      unfold fX7_areSame_25
      rw [o_1, bi_and1]
      exact ih (i + 1) fu b (by omega) (by omega) (by omega)
    · rw [if_neg (by rw [o_eq (by omega) (by omega)]; exact e), if_neg e]
      unfold fX7_areSame_25
      rw [o_1, bi_and0, ih (i + 1) fu false (by omega) (by omega) (by omega), Bool.and_false, Bool.false_and]
theorem m_same {N K : Nat} (hN : 100 ≤ N) {f g : Nat → Int32} {w v : Nat → Nat} (hf : Dk f w) (hg : Dk g v) : fX7_areSame N K f g = some (bi (eqw w v)) := by
  have h := m_same_ (N := N) (K := K) hf hg 20 1 N true rfl (Nat.le_refl _) (by omega)
  rw [Bool.true_and] at h
  exact h
/-- how many different parts -/
def one1 (x : Nat) : Nat := if x = 0 then 0 else 1
def dpw (w : Nat → Nat) : Nat := sm (fun p => one1 (w p)) 20
theorem dpw_le {w : Nat → Nat} : ∀ n, sm (fun p => one1 (w p)) n ≤ sm w n := fun n => sm_le (fun p _ _ => by show one1 (w p) ≤ w p; unfold one1; by_cases e : w p = 0; (rw [if_pos e]; omega); rw [if_neg e]; omega)
theorem c_dp_ {N K : Nat} {f : Nat → Int32} {w : Nat → Nat} (hf : Dk f w) : ∀ n i fu, i + n = 20 → n < fu → fX4_differentParts_4 N K f fu (Int32.ofNat (sm (fun p => one1 (w p)) i)) (Int32.ofNat (i + 1)) = some (Int32.ofNat (dpw w)) := by
  intro n
  induction n with
  | zero =>
    intro i fu hi hfu
    obtain ⟨fu, rfl⟩ : ∃ m, fu = m + 1 := ⟨fu - 1, by omega⟩
    obtain rfl : i = 20 := by omega
    unfold fX4_differentParts_4
    rw [if_pos (by decide)]
    rfl
  | succ n ih =>
    intro i fu hi hfu
    obtain ⟨fu, rfl⟩ : ∃ m, fu = m + 1 := ⟨fu - 1, by omega⟩
    have a1 := wn_le1 (w := w) (p := i + 1) (by omega) (by omega)
    have b1 := hf.1
    have hs : sm (fun p => one1 (w p)) (i + 1) = sm (fun p => one1 (w p)) i + one1 (w (i + 1)) := rfl
    have h2 := ih (i + 1) fu (by omega) (by omega)
    unfold fX4_differentParts_4
    rw [if_neg (n_20 (by omega)), if_neg (o_ob (by omega) (by omega)), o_c (by omega), hf.2 _ (by omega) (by omega)]
    by_cases e : w (i + 1) = 0
    · rw [if_pos (by rw [e]; decide)]
      unfold fX4_differentParts_22
      rw [show one1 (w (i + 1)) = 0 from if_pos e, Nat.add_zero] at hs
      rw [hs] at h2
      rw [o_1]
      exact h2
    · rw [if_neg (o_0lt (by omega) (by omega))]
      unfold fX4_differentParts_22
      rw [show one1 (w (i + 1)) = 1 from if_neg e] at hs
      rw [hs] at h2
      rw [o_1, o_1]
      exact h2
theorem c_dp {N K : Nat} (hN : 100 ≤ N) {f : Nat → Int32} {w : Nat → Nat} (hf : Dk f w) : fX4_differentParts N K f = some (Int32.ofNat (dpw w)) := c_dp_ hf 20 0 N rfl (by omega)
theorem m_dp_ {N K : Nat} {f : Nat → Int32} {w : Nat → Nat} (hf : Dk f w) : ∀ n i fu, i + n = 20 → n < fu → fX7_unlikeOnes_4 N K f fu (Int32.ofNat (sm (fun p => one1 (w p)) i)) (Int32.ofNat (i + 1)) = some (Int32.ofNat (dpw w)) := by
  intro n
  induction n with
  | zero =>
    intro i fu hi hfu
    obtain ⟨fu, rfl⟩ : ∃ m, fu = m + 1 := ⟨fu - 1, by omega⟩
    obtain rfl : i = 20 := by omega
    unfold fX7_unlikeOnes_4
    rw [if_pos (by decide)]
    rfl
  | succ n ih =>
    intro i fu hi hfu
    obtain ⟨fu, rfl⟩ : ∃ m, fu = m + 1 := ⟨fu - 1, by omega⟩
    have a1 := wn_le1 (w := w) (p := i + 1) (by omega) (by omega)
    have b1 := hf.1
    have hs : sm (fun p => one1 (w p)) (i + 1) = sm (fun p => one1 (w p)) i + one1 (w (i + 1)) := rfl
    have h2 := ih (i + 1) fu (by omega) (by omega)
    unfold fX7_unlikeOnes_4
    rw [if_neg (n_20 (by omega)), if_neg (o_ob (by omega) (by omega)), o_c (by omega), hf.2 _ (by omega) (by omega)]
    by_cases e : w (i + 1) = 0
    · rw [if_pos (by rw [e]; decide)]
      unfold fX7_unlikeOnes_22 fX7_bit
      rw [show one1 (w (i + 1)) = 0 from if_pos e, Nat.add_zero] at hs
      rw [hs] at h2
      rw [if_pos rfl, Option.bind_some, o_1, show Int32.ofNat (sm (fun p => one1 (w p)) i) + 0 = Int32.ofNat (sm (fun p => one1 (w p)) i) from Int32.add_zero _]
      exact h2
    · rw [if_neg (o_0lt (by omega) (by omega))]
      unfold fX7_unlikeOnes_22 fX7_bit
      rw [show one1 (w (i + 1)) = 1 from if_neg e] at hs
      rw [hs] at h2
      rw [if_neg (by decide), Option.bind_some, o_1, o_1]
      exact h2
theorem m_dp {N K : Nat} (hN : 100 ≤ N) {f : Nat → Int32} {w : Nat → Nat} (hf : Dk f w) : fX7_unlikeOnes N K f = some (Int32.ofNat (dpw w)) := m_dp_ hf 20 0 N rfl (by omega)
/-- unlike parts -/
def unf (w : Nat → Nat) : Nat → Nat → Bool
  | 0, _ => true
  | n + 1, i => if w i ≤ 1 then unf w n (i + 1) else false
def unw (w : Nat → Nat) : Bool := unf w 20 1
theorem unf_iff {w : Nat → Nat} : ∀ n i, unf w n i = true ↔ ∀ p, i ≤ p → p < i + n → w p ≤ 1 := by
  intro n
  induction n with
  | zero => intro i; exact ⟨fun _ p a b => absurd b (by omega), fun _ => rfl⟩
  | succ n ih =>
    intro i
    unfold unf
    by_cases e : w i ≤ 1
    · rw [if_pos e, ih (i + 1)]
      constructor
      · intro h p a b
        by_cases e2 : p = i
        · rw [e2]; exact e
        · exact h p (by omega) (by omega)
      · intro h p a b
        exact h p (by omega) (by omega)
    · rw [if_neg e]
      exact ⟨fun h => absurd h (by decide), fun h => absurd (h i (Nat.le_refl _) (by omega)) e⟩
theorem un_dp_ {w : Nat → Nat} : ∀ n, sm w n = sm (fun p => one1 (w p)) n → ∀ p, 1 ≤ p → p ≤ n → w p ≤ 1 := by
  intro n
  induction n with
  | zero => intro _ p a b; omega
  | succ n ih =>
    intro h p a b
    have d := dpw_le (w := w) n
    have e1 : sm w (n + 1) = sm w n + w (n + 1) := rfl
    have e2 : sm (fun p => one1 (w p)) (n + 1) = sm (fun p => one1 (w p)) n + one1 (w (n + 1)) := rfl
    have e3 : one1 (w (n + 1)) ≤ w (n + 1) ∧ one1 (w (n + 1)) ≤ 1 := by
      unfold one1
      by_cases e : w (n + 1) = 0
      · rw [if_pos e]; omega
      · rw [if_neg e]; omega
    by_cases e : p = n + 1
    · subst e; omega
    · exact ih (by omega) p a (by omega)
theorem un_dp {w : Nat → Nat} : (wp w = dpw w) ↔ unw w = true := by
  unfold unw
  rw [unf_iff]
  constructor
  · intro h p a b
    exact un_dp_ 20 h p a (by omega)
  · intro h
    refine sm_congr (fun p a b => ?_)
    have := h p a (by omega)
    show w p = one1 (w p)
    unfold one1
    by_cases e : w p = 0
    · rw [if_pos e, e]
    · rw [if_neg e]; omega
theorem c_unl_ {N K : Nat} {f : Nat → Int32} {w : Nat → Nat} (hf : Dk f w) : ∀ n i fu, i + n = 21 → 1 ≤ i → n < fu → fX4_isUnlike_2 N K f fu (Int32.ofNat i) = some (bi (unf w n i)) := by
  intro n
  induction n with
  | zero =>
    intro i fu hi h1 hfu
    obtain ⟨fu, rfl⟩ : ∃ m, fu = m + 1 := ⟨fu - 1, by omega⟩
    obtain rfl : i = 21 := by omega
    unfold fX4_isUnlike_2
    rw [if_pos (by decide)]
    rfl
  | succ n ih =>
    intro i fu hi h1 hfu
    obtain ⟨fu, rfl⟩ : ∃ m, fu = m + 1 := ⟨fu - 1, by omega⟩
    have a1 := wn_le1 (w := w) (p := i) h1 (by omega)
    have b1 := hf.1
    unfold fX4_isUnlike_2 unf
    rw [if_neg (n_20 (by omega)), if_neg (o_ob (by omega) (by omega)), o_c (by omega), hf.2 _ h1 (by omega), o_1]
    by_cases e : w i ≤ 1
    · rw [if_pos (by rw [show (1 : Int32) = Int32.ofNat 1 from rfl, o_le (by omega) (by omega)]; exact e), if_pos e]
      exact ih (i + 1) fu (by omega) (by omega) (by omega)
    · rw [if_neg (by rw [show (1 : Int32) = Int32.ofNat 1 from rfl, o_le (by omega) (by omega)]; exact e), if_neg e]
      rfl
theorem c_unl {N K : Nat} (hN : 100 ≤ N) {f : Nat → Int32} {w : Nat → Nat} (hf : Dk f w) : fX4_isUnlike N K f = some (bi (unw w)) := c_unl_ hf 20 1 N rfl (Nat.le_refl _) (by omega)
theorem m_unl {N K : Nat} (hN : 100 ≤ N) {f : Nat → Int32} {w : Nat → Nat} (hf : Dk f w) : fX7_isUnlike N K f = some (bi (unw w)) := by
  have b1 := hf.1
  have b2 := wp_le (w := w)
  have b3 : dpw w ≤ wp w := dpw_le (w := w) 20
  unfold fX7_isUnlike
  rw [m_parts hN hf.2, Option.bind_some, m_dp hN hf, Option.bind_some]
  by_cases e : unw w = true
  · rw [if_pos (by rw [o_eq (by omega) (by omega)]; exact un_dp.mpr e), e]; rfl
  · rw [if_neg (by rw [o_eq (by omega) (by omega)]; exact fun h => e (un_dp.mp h)), Bool.eq_false_iff.mpr e]; rfl
/-- odd parts: none even -/
def odf (w : Nat → Nat) : Nat → Nat → Bool
  | 0, _ => true
  | n + 1, i => if w i = 0 then odf w n (i + 2) else false
def odw (w : Nat → Nat) : Bool := odf w 10 2
theorem o_2 (a : Nat) : Int32.ofNat a + (2 : Int32) = Int32.ofNat (a + 2) := (Int32.ofNat_add a 2).symm
theorem c_oddq_ {N K : Nat} {f : Nat → Int32} {w : Nat → Nat} (hf : Dk f w) : ∀ n i fu, i + 2 * n = 22 → 1 ≤ i → n < fu → fX4_isOdd_2 N K f fu (Int32.ofNat i) = some (bi (odf w n i)) := by
  intro n
  induction n with
  | zero =>
    intro i fu hi h1 hfu
    obtain ⟨fu, rfl⟩ : ∃ m, fu = m + 1 := ⟨fu - 1, by omega⟩
    obtain rfl : i = 22 := by omega
    unfold fX4_isOdd_2
    rw [if_pos (by decide)]
    rfl
  | succ n ih =>
    intro i fu hi h1 hfu
    obtain ⟨fu, rfl⟩ : ∃ m, fu = m + 1 := ⟨fu - 1, by omega⟩
    have a1 := wn_le1 (w := w) (p := i) h1 (by omega)
    have b1 := hf.1
    unfold fX4_isOdd_2 odf
    rw [if_neg (n_20 (by omega)), if_neg (o_ob (by omega) (by omega)), o_c (by omega), hf.2 _ h1 (by omega), o_2]
    by_cases e : w i = 0
    · rw [if_pos (by rw [e]; decide), if_pos e]
      exact ih (i + 2) fu (by omega) (by omega) (by omega)
    · rw [if_neg (o_0lt (by omega) (by omega)), if_neg e]
      rfl
theorem c_oddq {N K : Nat} (hN : 100 ≤ N) {f : Nat → Int32} {w : Nat → Nat} (hf : Dk f w) : fX4_isOdd N K f = some (bi (odw w)) := c_oddq_ hf 10 2 N rfl (by omega) (by omega)
theorem m_oddq_ {N K : Nat} {f : Nat → Int32} {w : Nat → Nat} (hf : Dk f w) : ∀ n i fu b, i + 2 * n = 22 → 1 ≤ i → n < fu → fX7_isOdd_4 N K f fu (bi b) (Int32.ofNat i) = some (bi (b && odf w n i)) := by
  intro n
  induction n with
  | zero =>
    intro i fu b hi h1 hfu
    obtain ⟨fu, rfl⟩ : ∃ m, fu = m + 1 := ⟨fu - 1, by omega⟩
    obtain rfl : i = 22 := by omega
    unfold fX7_isOdd_4 odf
    rw [if_pos (by decide), if_pos (bi_ok b), Bool.and_true]
  | succ n ih =>
    intro i fu b hi h1 hfu
    obtain ⟨fu, rfl⟩ : ∃ m, fu = m + 1 := ⟨fu - 1, by omega⟩
    have a1 := wn_le1 (w := w) (p := i) h1 (by omega)
    have b1 := hf.1
    unfold fX7_isOdd_4 odf
    rw [if_neg (n_20 (by omega)), if_neg (o_ob (by omega) (by omega)), o_c (by omega), hf.2 _ h1 (by omega)]
    by_cases e : w i = 0
    · rw [if_pos (by rw [e]; rfl), if_pos e]
      unfold fX7_isOdd_22
      rw [o_2, bi_and1]
      exact ih (i + 2) fu b (by omega) (by omega) (by omega)
    · rw [if_neg (by rw [show (0 : Int32) = Int32.ofNat 0 from rfl, o_eq (by omega) (by omega)]; exact e), if_neg e]
      unfold fX7_isOdd_22
      rw [o_2, bi_and0, ih (i + 2) fu false (by omega) (by omega) (by omega), Bool.and_false, Bool.false_and]
theorem m_oddq {N K : Nat} (hN : 100 ≤ N) {f : Nat → Int32} {w : Nat → Nat} (hf : Dk f w) : fX7_isOdd N K f = some (bi (odw w)) := by
  have h := m_oddq_ (N := N) (K := K) hf 10 2 N true rfl (by omega) (by omega)
  rw [Bool.true_and] at h
  exact h

end MG_60cways
section MG_60dchecks
/-! ===== the checks of both sides ===== -/
def Rg (p a b : Int32) : Prop := a.toInt ≤ p.toInt ∧ p.toInt ≤ b.toInt
theorem Rg.n {p : Int32} {a b : Nat} (h : Rg p (Int32.ofNat a) (Int32.ofNat b)) (ha : a < 2147483648) (hb : b < 2147483648) : ∃ n : Nat, p = Int32.ofNat n ∧ a ≤ n ∧ n ≤ b := by
  obtain ⟨h1, h2⟩ := h
  rw [o_i ha] at h1
  rw [o_i hb] at h2
  exact o_of h1 h2
theorem Rg.dd {p : Int32} (h : Rg p 0 1) : ¬ (p < 0 ∨ 2 ≤ p.toNatClampNeg) := by
  have q0 : (0 : Int32).toInt = 0 := by decide
  have q1 : (1 : Int32).toInt = 1 := by decide
  obtain ⟨h1, h2⟩ := h
  exact noob (by omega) (by omega)
theorem Rg.mm {p : Int32} (h : Rg p 0 2) : ¬ (p < 0 ∨ 3 ≤ p.toNatClampNeg) := by
  have q0 : (0 : Int32).toInt = 0 := by decide
  have q1 : (2 : Int32).toInt = 2 := by decide
  obtain ⟨h1, h2⟩ := h
  exact noob (by omega) (by omega)
theorem xb_l {U V : Type} {a : U} {k : U → Option (V ⊕ String)} : xb (some (.inl a)) k = k a := rfl
theorem xb_r {U V : Type} {E : String} {k : U → Option (V ⊕ String)} : xb (some (.inr E)) k = some (.inr E) := rfl
theorem k_desk1 {N K : Nat} {p : Int32} (h : Rg p 0 1) : fX5_deskAt N K p = some (.inl ()) := by
  have q0 : (0 : Int32).toInt = 0 := by decide
  have q1 : (1 : Int32).toInt = 1 := by decide
  have q2 : (2 : Int32).toInt = 2 := by decide
  obtain ⟨h1, h2⟩ := h
  unfold fX5_deskAt
  rw [if_neg (by rw [Int32.lt_iff_toInt_lt]; omega), if_pos (by rw [Int32.lt_iff_toInt_lt]; omega), if_neg (noob (by omega) (by omega))]
theorem k_desk0 {N K : Nat} {p : Int32} (h : ¬ Rg p 0 1) : fX5_deskAt N K p = some (.inr "java/lang/IndexOutOfBoundsException") := by
  have q0 : (0 : Int32).toInt = 0 := by decide
  have q1 : (1 : Int32).toInt = 1 := by decide
  have q2 : (2 : Int32).toInt = 2 := by decide
  unfold fX5_deskAt
  by_cases e : p < 0
  · rw [if_pos e]; rfl
  · have e1 : ¬ (p.toInt < (0 : Int32).toInt) := fun z => e (Int32.lt_iff_toInt_lt.mpr z)
    rw [if_neg e, if_neg (fun z => h ⟨by omega, by have := Int32.lt_iff_toInt_lt.mp z; omega⟩)]
    rfl
theorem k_mem1 {N K : Nat} {p : Int32} (h : Rg p 0 2) : fX5_memoryAt N K p = some (.inl ()) := by
  have q0 : (0 : Int32).toInt = 0 := by decide
  have q1 : (2 : Int32).toInt = 2 := by decide
  have q2 : (3 : Int32).toInt = 3 := by decide
  obtain ⟨h1, h2⟩ := h
  unfold fX5_memoryAt
  rw [if_neg (by rw [Int32.lt_iff_toInt_lt]; omega), if_pos (by rw [Int32.lt_iff_toInt_lt]; omega), if_neg (noob (by omega) (by omega))]
theorem k_mem0 {N K : Nat} {p : Int32} (h : ¬ Rg p 0 2) : fX5_memoryAt N K p = some (.inr "java/lang/IndexOutOfBoundsException") := by
  have q0 : (0 : Int32).toInt = 0 := by decide
  have q1 : (2 : Int32).toInt = 2 := by decide
  have q2 : (3 : Int32).toInt = 3 := by decide
  unfold fX5_memoryAt
  by_cases e : p < 0
  · rw [if_pos e]; rfl
  · have e1 : ¬ (p.toInt < (0 : Int32).toInt) := fun z => e (Int32.lt_iff_toInt_lt.mpr z)
    rw [if_neg e, if_neg (fun z => h ⟨by omega, by have := Int32.lt_iff_toInt_lt.mp z; omega⟩)]
    rfl
theorem k_led1 {N K : Nat} {p : Int32} (h : Rg p 0 2) : fX5_ledgerAt N K p = some (.inl ()) := by
  have q0 : (0 : Int32).toInt = 0 := by decide
  have q1 : (2 : Int32).toInt = 2 := by decide
  have q2 : (3 : Int32).toInt = 3 := by decide
  obtain ⟨h1, h2⟩ := h
  unfold fX5_ledgerAt
  rw [if_neg (by rw [Int32.lt_iff_toInt_lt]; omega), if_pos (by rw [Int32.lt_iff_toInt_lt]; omega), if_neg (noob (by omega) (by omega))]
theorem k_led0 {N K : Nat} {p : Int32} (h : ¬ Rg p 0 2) : fX5_ledgerAt N K p = some (.inr "java/lang/IndexOutOfBoundsException") := by
  have q0 : (0 : Int32).toInt = 0 := by decide
  have q1 : (2 : Int32).toInt = 2 := by decide
  have q2 : (3 : Int32).toInt = 3 := by decide
  unfold fX5_ledgerAt
  by_cases e : p < 0
  · rw [if_pos e]; rfl
  · have e1 : ¬ (p.toInt < (0 : Int32).toInt) := fun z => e (Int32.lt_iff_toInt_lt.mpr z)
    rw [if_neg e, if_neg (fun z => h ⟨by omega, by have := Int32.lt_iff_toInt_lt.mp z; omega⟩)]
    rfl
theorem k_rng1 {N K : Nat} {p a b : Int32} (h : Rg p a b) : fX5_checkRange N K p a b = some (.inl ()) := by
  obtain ⟨h1, h2⟩ := h
  unfold fX5_checkRange
  rw [if_neg (by rw [Int32.lt_iff_toInt_lt]; omega), if_pos (by rw [Int32.le_iff_toInt_le]; omega)]
theorem k_rng0 {N K : Nat} {p a b : Int32} (h : ¬ Rg p a b) : fX5_checkRange N K p a b = some (.inr "java/lang/IllegalArgumentException") := by
  unfold fX5_checkRange
  by_cases e : p < a
  · rw [if_pos e]; rfl
  · have e1 : ¬ (p.toInt < a.toInt) := fun z => e (Int32.lt_iff_toInt_lt.mpr z)
    rw [if_neg e, if_neg (fun z => h ⟨by omega, Int32.le_iff_toInt_le.mp z⟩)]
    rfl
theorem m_in {N K : Nat} {p a b : Int32} (h : Rg p a b) : fX7_isNo N K p a b = some 0 := by
  obtain ⟨h1, h2⟩ := h
  unfold fX7_isNo
  rw [if_neg (by rw [Int32.lt_iff_toInt_lt]; omega), if_pos (by rw [Int32.le_iff_toInt_le]; omega)]
theorem m_out {N K : Nat} {p a b : Int32} (h : ¬ Rg p a b) : fX7_isNo N K p a b = some 1 := by
  unfold fX7_isNo
  by_cases e : p < a
  · rw [if_pos e]
  · have e1 : ¬ (p.toInt < a.toInt) := fun z => e (Int32.lt_iff_toInt_lt.mpr z)
    rw [if_neg e, if_neg (fun z => h ⟨by omega, Int32.le_iff_toInt_le.mp z⟩)]
theorem m_th00 {N K : Nat} {th : Int32} : fX7_isThrown N K th 0 0 = some (0, 0) := by
  unfold fX7_isThrown fX7_isThrown_18
  rw [if_pos rfl, if_pos rfl, if_pos (by decide)]
theorem m_th01 {N K : Nat} {th : Int32} : fX7_isThrown N K th 0 1 = some (1, 2) := by
  unfold fX7_isThrown fX7_isThrown_18
  rw [if_pos rfl, if_neg (by decide), if_neg (by decide)]
theorem m_th1 {N K : Nat} {th x : Int32} : fX7_isThrown N K th 1 x = some (1, 1) := by
  unfold fX7_isThrown fX7_isThrown_18
  rw [if_neg (by decide), if_neg (by decide)]
/-- what a refusal leaves of the tallies -/
def rf (t : Nat → Int32) : Nat → Int32 := upd t (4 : Int32).toNatClampNeg (t (4 : Int32).toNatClampNeg + (1 : Int32))
theorem m_done {N K : Nat} {th : Int32} {t : Nat → Int32} {p : Int32} : fX7_done N K th t p = some (p, dn t) := rfl
theorem m_ref {N K : Nat} {th : Int32} {t : Nat → Int32} : fX7_refused N K th t = some ((-9 : Int32), rf t) := rfl
theorem k_act {N K : Nat} {c0 c1 c2 c3 c4 c5 p : Int32} : fX5_acted N K c0 c1 c2 c3 c4 c5 p = some (p, c0 + (1 : Int32)) := rfl
theorem k_und {N K : Nat} {c0 c1 c2 c3 c4 c5 : Int32} : fX5_undone N K c0 c1 c2 c3 c4 c5 = some ((-9 : Int32), c4 + (1 : Int32)) := rfl
def DD (f g : Nat → Int32) : Prop := ∃ w, Dk f w ∧ Dk g w
/-- an outcome of the class beside the reference's thrown (b: whether an argument can be refused) -/
def Ti {U : Type} (b : Bool) (o : U ⊕ String) (th : Int32) (Q : U → Prop) (R : Prop) : Prop := match o with
  | .inl z => th = 0 ∧ Q z
  | .inr E => ((E = "java/lang/IndexOutOfBoundsException" ∧ th = 1) ∨ (b = true ∧ E = "java/lang/IllegalArgumentException" ∧ th = 2)) ∧ R
theorem upm_at {α : Type} {w : Nat → α} {p : Nat} {v : α} : upm w p v p = v := if_pos rfl
theorem upd_at {f : Nat → Int32} {p : Nat} {v : Int32} : upd f p v p = v := if_pos rfl
theorem wb_io {U T : Type} {kf : U → Option T} {k1 k2 : Option T} : wb (some (.inr "java/lang/IndexOutOfBoundsException")) kf k1 k2 = k1 := by
  show (if "java/lang/IndexOutOfBoundsException" = "java/lang/IndexOutOfBoundsException" then k1 else if "java/lang/IndexOutOfBoundsException" = "java/lang/IllegalArgumentException" then k2 else none) = k1
  rw [if_pos rfl]
theorem wb_ia {U T : Type} {kf : U → Option T} {k1 k2 : Option T} : wb (some (.inr "java/lang/IllegalArgumentException")) kf k1 k2 = k2 := by
  show (if "java/lang/IllegalArgumentException" = "java/lang/IndexOutOfBoundsException" then k1 else if "java/lang/IllegalArgumentException" = "java/lang/IllegalArgumentException" then k2 else none) = k2
  rw [if_neg (by decide), if_pos rfl]
theorem dd_upm {d e : Nat → Nat → Int32} {i : Nat} {v v' : Nat → Int32} (h : ∀ j, DD (d j) (e j)) (hv : DD v v') : ∀ j, DD (upm d i v j) (upm e i v' j) := by
  intro j
  unfold upm
  by_cases c : j = i
  · rw [if_pos c, if_pos c]; exact hv
  · rw [if_neg c, if_neg c]; exact h j
theorem dd_same {d e : Nat → Nat → Int32} {i : Nat} {v' : Nat → Int32} (h : ∀ j, DD (d j) (e j)) (hv : v' = e i) : ∀ j, DD (d j) (upm e i v' j) := by
  intro j
  unfold upm
  by_cases c : j = i
  · rw [if_pos c, hv, c]; exact h i
  · rw [if_neg c]; exact h j
/-- an outcome that may refuse an argument alone -/
def Tj {U : Type} (o : U ⊕ String) (th : Int32) (Q : U → Prop) : Prop := match o with
  | .inl z => th = 0 ∧ Q z
  | .inr E => E = "java/lang/IllegalArgumentException" ∧ th = 1
theorem k_any1 {N K : Nat} {p0 p1 p2 : Int32} (h0 : Rg p0 0 7) (h1 : Rg p1 0 20) (h2 : Rg p2 0 20) : fX5_checkAnyCase N K p0 p1 p2 = some (.inl ()) := by
  unfold fX5_checkAnyCase
  rw [k_rng1 h0, xb_l, k_rng1 h1, xb_l, k_rng1 h2, xb_l]
theorem k_any0 {N K : Nat} {p0 p1 p2 : Int32} (h : ¬ (Rg p0 0 7 ∧ Rg p1 0 20 ∧ Rg p2 0 20)) : fX5_checkAnyCase N K p0 p1 p2 = some (.inr "java/lang/IllegalArgumentException") := by
  unfold fX5_checkAnyCase
  by_cases h0 : Rg p0 0 7
  · by_cases h1 : Rg p1 0 20
    · have h2 : ¬ Rg p2 0 20 := fun z => h ⟨h0, h1, z⟩
      rw [k_rng1 h0, xb_l, k_rng1 h1, xb_l, k_rng0 h2, xb_r]
    · rw [k_rng1 h0, xb_l, k_rng0 h1, xb_r]
  · rw [k_rng0 h0, xb_r]
theorem ne1 {p : Prop} (h : (1 : Int32) = 0) : p := absurd h (by decide)
theorem ne2 {p : Prop} (h : (2 : Int32) = 0) : p := absurd h (by decide)
/-- counts and tallies stay alike -/
def KT (c0 c1 c2 c3 c4 : Int32) (t : Nat → Int32) (d0 d1 d2 d3 d4 : Int32) (t' : Nat → Int32) : Prop := c0 = t 0 → c1 = t 1 → c2 = t 2 → c3 = t 3 → c4 = t 4 → (d0 = t' 0 ∧ d1 = t' 1 ∧ d2 = t' 2 ∧ d3 = t' 3 ∧ d4 = t' 4 ∧ t' 5 = t 5)
theorem KT.done {c0 c1 c2 c3 c4 : Int32} {t : Nat → Int32} : KT c0 c1 c2 c3 c4 t (c0 + (1 : Int32)) c1 c2 c3 c4 (dn t) := by
  intro h0 h1 h2 h3 h4
  unfold dn upd
  have q : (0 : Int32).toNatClampNeg = 0 := by decide
  rw [q, if_pos rfl, if_neg (by decide), if_neg (by decide), if_neg (by decide), if_neg (by decide), if_neg (by decide), h0]
  exact ⟨rfl, h1, h2, h3, h4, rfl⟩
theorem KT.refu {c0 c1 c2 c3 c4 : Int32} {t : Nat → Int32} : KT c0 c1 c2 c3 c4 t c0 c1 c2 c3 (c4 + (1 : Int32)) (rf t) := by
  intro h0 h1 h2 h3 h4
  unfold rf upd
  have q : (4 : Int32).toNatClampNeg = 4 := by decide
  rw [q, if_neg (by decide), if_neg (by decide), if_neg (by decide), if_neg (by decide), if_pos rfl, if_neg (by decide), h4]
  exact ⟨h0, h1, h2, h3, rfl, rfl⟩
theorem KT.same {c0 c1 c2 c3 c4 : Int32} {t : Nat → Int32} : KT c0 c1 c2 c3 c4 t c0 c1 c2 c3 c4 t := fun h0 h1 h2 h3 h4 => ⟨h0, h1, h2, h3, h4, rfl⟩
theorem KT.trans {c0 c1 c2 c3 c4 d0 d1 d2 d3 d4 e0 e1 e2 e3 e4 : Int32} {t t' t'' : Nat → Int32} (h : KT c0 c1 c2 c3 c4 t d0 d1 d2 d3 d4 t') (g : KT d0 d1 d2 d3 d4 t' e0 e1 e2 e3 e4 t'') : KT c0 c1 c2 c3 c4 t e0 e1 e2 e3 e4 t'' := by
  intro h0 h1 h2 h3 h4
  obtain ⟨a0, a1, a2, a3, a4, a5⟩ := h h0 h1 h2 h3 h4
  obtain ⟨b0, b1, b2, b3, b4, b5⟩ := g a0 a1 a2 a3 a4
  exact ⟨b0, b1, b2, b3, b4, b5.trans a5⟩

end MG_60dchecks
section MG_60eties
/-! ===== the desks' methods on both sides ===== -/
theorem ty_addPart {N K : Nat} {th : Int32} {f g t : Nat → Int32} {c0 c1 c2 c3 c4 c5 : Int32} {p0 p1 p2 : Int32} (hN : NBig N) (hK : 100 ≤ K) (h : DD f g) : ∃ o y, fX5_addPart N K f c0 c1 c2 c3 c4 c5 p0 p1 p2 = some o ∧ fX7_addPart N K th g t p0 p1 p2 = some y ∧ Ti true o y.2.1 (fun z => z.1 = y.1 ∧ DD z.2.1 y.2.2.1 ∧ KT c0 c1 c2 c3 c4 t z.2.2.1 c1 c2 c3 z.2.2.2 y.2.2.2) (y.2.2.1 = g ∧ y.2.2.2 = t) := by
  have hN9 := hN.u
  have hN1 : 100 ≤ N := by omega
  obtain ⟨w, hf, hg⟩ := h
  have hwn := hf.1
  by_cases d : Rg p0 0 1
  · by_cases r1 : Rg p1 1 20
    · by_cases r2 : Rg p2 1 20
      · have dd : ¬ (p0 < 0 ∨ 2 ≤ p0.toNatClampNeg) := d.dd
        obtain ⟨m, rfl, m1, m2⟩ := Rg.n (a := 1) (b := 20) r1 (by omega) (by omega)
        obtain ⟨n, rfl, n1, n2⟩ := Rg.n (a := 1) (b := 20) r2 (by omega) (by omega)
        have hmn := Nat.mul_le_mul m2 n2
        by_cases e : wn w + m * n ≤ 20
        · obtain ⟨g1, e1, e2⟩ := c_put (N := N) (K := K) hf.2 (p := m) (t := n) m1 m2
          have e3 := wn_upm (w := w) (p := m) (v := w m + n) m1 m2
          rw [Nat.mul_add] at e3
          refine ⟨.inl (Int32.ofNat (w m + n), g1, c0 + (1 : Int32), c4), (Int32.ofNat (w m + n), 0, upd g m (Int32.ofNat (w m + n)), dn t), ?_, ?_, rfl, rfl, ⟨upm w m (w m + n), ⟨by omega, e2⟩, ⟨by omega, hg.2.put⟩⟩, KT.done⟩
          · unfold fX5_addPart
            rw [k_desk1 d, xb_l, k_rng1 r1, xb_l, k_rng1 r2, xb_l]
            rw [c_sum hN1 hf.2, Option.bind_some, o_mul, o_add, if_pos (by rw [show (20 : Int32) = Int32.ofNat 20 from rfl, o_le (by omega) (by omega)]; exact e), e1, Option.bind_some, c_times e2 m1 m2, Option.bind_some, upm_at, k_act, Option.bind_some]
          · unfold fX7_addPart
            rw [m_in d, Option.bind_some, m_in r1, Option.bind_some, if_pos rfl, m_in r2, Option.bind_some, if_pos rfl]
            unfold fX7_addPart_32
            rw [m_th00, Option.bind_some, if_pos rfl]
            rw [if_neg dd, m_sum hN1 hg.2, Option.bind_some, o_mul, o_add, if_pos (by rw [show (20 : Int32) = Int32.ofNat 20 from rfl, o_le (by omega) (by omega)]; exact e), if_neg dd, if_neg (o_ob (by omega) (by omega)), if_neg (o_ob (by omega) (by omega)), if_neg dd, if_neg (o_ob (by omega) (by omega)), m_done, Option.bind_some, o_c (by omega), hg.2 m m1 m2, o_add, upd_at]
        · refine ⟨.inl ((-9 : Int32), f, c0, c4 + (1 : Int32)), ((-9 : Int32), 0, g, rf t), ?_, ?_, rfl, rfl, ⟨w, hf, hg⟩, KT.refu⟩
          · unfold fX5_addPart
            rw [k_desk1 d, xb_l, k_rng1 r1, xb_l, k_rng1 r2, xb_l]
            rw [c_sum hN1 hf.2, Option.bind_some, o_mul, o_add, if_neg (by rw [show (20 : Int32) = Int32.ofNat 20 from rfl, o_le (by omega) (by omega)]; exact e), k_und, Option.bind_some]
          · unfold fX7_addPart
            rw [m_in d, Option.bind_some, m_in r1, Option.bind_some, if_pos rfl, m_in r2, Option.bind_some, if_pos rfl]
            unfold fX7_addPart_32
            rw [m_th00, Option.bind_some, if_pos rfl]
            rw [if_neg dd, m_sum hN1 hg.2, Option.bind_some, o_mul, o_add, if_neg (by rw [show (20 : Int32) = Int32.ofNat 20 from rfl, o_le (by omega) (by omega)]; exact e), m_ref, Option.bind_some]
      · refine ⟨(.inr "java/lang/IllegalArgumentException"), ((0 : Int32), 2, g, t), ?_, ?_, Or.inr ⟨rfl, rfl, rfl⟩, ⟨rfl, rfl⟩⟩
        · unfold fX5_addPart
          rw [k_desk1 d, xb_l, k_rng1 r1, xb_l, k_rng0 r2, xb_r]
        · unfold fX7_addPart
          rw [m_in d, Option.bind_some, m_in r1, Option.bind_some, if_pos rfl, m_out r2, Option.bind_some, if_neg (by decide)]
          unfold fX7_addPart_27 fX7_addPart_32
          rw [m_th01, Option.bind_some, if_neg (by decide)]
    · by_cases r2 : Rg p2 1 20
      · refine ⟨(.inr "java/lang/IllegalArgumentException"), ((0 : Int32), 2, g, t), ?_, ?_, Or.inr ⟨rfl, rfl, rfl⟩, ⟨rfl, rfl⟩⟩
        · unfold fX5_addPart
          rw [k_desk1 d, xb_l, k_rng0 r1, xb_r]
        · unfold fX7_addPart
          rw [m_in d, Option.bind_some, m_out r1, Option.bind_some, if_neg (by decide)]
          unfold fX7_addPart_27 fX7_addPart_32
          rw [m_th01, Option.bind_some, if_neg (by decide)]
      · refine ⟨(.inr "java/lang/IllegalArgumentException"), ((0 : Int32), 2, g, t), ?_, ?_, Or.inr ⟨rfl, rfl, rfl⟩, ⟨rfl, rfl⟩⟩
        · unfold fX5_addPart
          rw [k_desk1 d, xb_l, k_rng0 r1, xb_r]
        · unfold fX7_addPart
          rw [m_in d, Option.bind_some, m_out r1, Option.bind_some, if_neg (by decide)]
          unfold fX7_addPart_27 fX7_addPart_32
          rw [m_th01, Option.bind_some, if_neg (by decide)]
  · by_cases r1 : Rg p1 1 20
    · by_cases r2 : Rg p2 1 20
      · refine ⟨(.inr "java/lang/IndexOutOfBoundsException"), ((0 : Int32), 1, g, t), ?_, ?_, Or.inl ⟨rfl, rfl⟩, ⟨rfl, rfl⟩⟩
        · unfold fX5_addPart
          rw [k_desk0 d, xb_r]
        · unfold fX7_addPart
          rw [m_out d, Option.bind_some, m_in r1, Option.bind_some, if_pos rfl, m_in r2, Option.bind_some, if_pos rfl]
          unfold fX7_addPart_32
          rw [m_th1, Option.bind_some, if_neg (by decide)]
      · refine ⟨(.inr "java/lang/IndexOutOfBoundsException"), ((0 : Int32), 1, g, t), ?_, ?_, Or.inl ⟨rfl, rfl⟩, ⟨rfl, rfl⟩⟩
        · unfold fX5_addPart
          rw [k_desk0 d, xb_r]
        · unfold fX7_addPart
          rw [m_out d, Option.bind_some, m_in r1, Option.bind_some, if_pos rfl, m_out r2, Option.bind_some, if_neg (by decide)]
          unfold fX7_addPart_27 fX7_addPart_32
          rw [m_th1, Option.bind_some, if_neg (by decide)]
    · by_cases r2 : Rg p2 1 20
      · refine ⟨(.inr "java/lang/IndexOutOfBoundsException"), ((0 : Int32), 1, g, t), ?_, ?_, Or.inl ⟨rfl, rfl⟩, ⟨rfl, rfl⟩⟩
        · unfold fX5_addPart
          rw [k_desk0 d, xb_r]
        · unfold fX7_addPart
          rw [m_out d, Option.bind_some, m_out r1, Option.bind_some, if_neg (by decide)]
          unfold fX7_addPart_27 fX7_addPart_32
          rw [m_th1, Option.bind_some, if_neg (by decide)]
      · refine ⟨(.inr "java/lang/IndexOutOfBoundsException"), ((0 : Int32), 1, g, t), ?_, ?_, Or.inl ⟨rfl, rfl⟩, ⟨rfl, rfl⟩⟩
        · unfold fX5_addPart
          rw [k_desk0 d, xb_r]
        · unfold fX7_addPart
          rw [m_out d, Option.bind_some, m_out r1, Option.bind_some, if_neg (by decide)]
          unfold fX7_addPart_27 fX7_addPart_32
          rw [m_th1, Option.bind_some, if_neg (by decide)]
theorem ty_takePart {N K : Nat} {th : Int32} {f g t : Nat → Int32} {c0 c1 c2 c3 c4 c5 : Int32} {p0 p1 : Int32} (hN : NBig N) (hK : 100 ≤ K) (h : DD f g) : ∃ o y, fX5_takePart N K f c0 c1 c2 c3 c4 c5 p0 p1 = some o ∧ fX7_takePart N K th g t p0 p1 = some y ∧ Ti true o y.2.1 (fun z => z.1 = y.1 ∧ DD z.2.1 y.2.2.1 ∧ KT c0 c1 c2 c3 c4 t z.2.2.1 c1 c2 c3 z.2.2.2 y.2.2.2) (y.2.2.1 = g ∧ y.2.2.2 = t) := by
  have hN9 := hN.u
  have hN1 : 100 ≤ N := by omega
  obtain ⟨w, hf, hg⟩ := h
  have hwn := hf.1
  by_cases d : Rg p0 0 1
  · by_cases r1 : Rg p1 1 20
    · have dd : ¬ (p0 < 0 ∨ 2 ≤ p0.toNatClampNeg) := d.dd
      obtain ⟨m, rfl, m1, m2⟩ := Rg.n (a := 1) (b := 20) r1 (by omega) (by omega)
      have hwm := wn_le1 (w := w) m1 m2
      by_cases e : w m = 0
      · refine ⟨.inl ((-9 : Int32), f, c0, c4 + (1 : Int32)), ((-9 : Int32), 0, g, rf t), ?_, ?_, rfl, rfl, ⟨w, hf, hg⟩, KT.refu⟩
        · unfold fX5_takePart
          rw [k_desk1 d, xb_l, k_rng1 r1, xb_l]
          rw [c_times hf.2 m1 m2, Option.bind_some, if_pos (by rw [e]; rfl), k_und, Option.bind_some]
        · unfold fX7_takePart
          rw [m_in d, Option.bind_some, m_in r1, Option.bind_some]
          rw [m_th00, Option.bind_some, if_pos rfl]
          rw [if_neg dd, if_neg (o_ob (by omega) (by omega)), o_c (by omega), hg.2 m m1 m2, if_pos (by rw [e]; rfl), m_ref, Option.bind_some]
      · obtain ⟨g1, e1, e2⟩ := c_take (N := N) (K := K) hf.2 (p := m) m1 m2 (by omega)
        have e3 := wn_take (w := w) m1 m2 (by omega)
        obtain ⟨v, hv⟩ : ∃ v, w m = v + 1 := ⟨w m - 1, by omega⟩
        rw [hv, show v + 1 - 1 = v from by omega] at e2 e3
        refine ⟨.inl (Int32.ofNat v, g1, c0 + (1 : Int32), c4), (Int32.ofNat v, 0, upd g m (Int32.ofNat v), dn t), ?_, ?_, rfl, rfl, ⟨upm w m v, ⟨by omega, e2⟩, ⟨by omega, hg.2.put⟩⟩, KT.done⟩
        · unfold fX5_takePart
          rw [k_desk1 d, xb_l, k_rng1 r1, xb_l]
          rw [c_times hf.2 m1 m2, Option.bind_some, if_neg (by rw [show (0 : Int32) = Int32.ofNat 0 from rfl, o_eq (by omega) (by omega)]; exact e), e1, Option.bind_some, c_times e2 m1 m2, Option.bind_some, upm_at, k_act, Option.bind_some]
        · unfold fX7_takePart
          rw [m_in d, Option.bind_some, m_in r1, Option.bind_some]
          rw [m_th00, Option.bind_some, if_pos rfl]
          rw [if_neg dd, if_neg (o_ob (by omega) (by omega)), o_c (by omega), hg.2 m m1 m2, if_neg (by rw [show (0 : Int32) = Int32.ofNat 0 from rfl, o_eq (by omega) (by omega)]; exact e), if_neg dd, if_neg (o_ob2 (by omega) (by omega)), if_neg (o_ob2 (by omega) (by omega)), if_neg dd, if_neg (o_ob2 (by omega) (by omega)), m_done, Option.bind_some, hv, o_s1, upd_at]
    · refine ⟨(.inr "java/lang/IllegalArgumentException"), ((0 : Int32), 2, g, t), ?_, ?_, Or.inr ⟨rfl, rfl, rfl⟩, ⟨rfl, rfl⟩⟩
      · unfold fX5_takePart
        rw [k_desk1 d, xb_l, k_rng0 r1, xb_r]
      · unfold fX7_takePart
        rw [m_in d, Option.bind_some, m_out r1, Option.bind_some]
        rw [m_th01, Option.bind_some, if_neg (by decide)]
  · by_cases r1 : Rg p1 1 20
    · refine ⟨(.inr "java/lang/IndexOutOfBoundsException"), ((0 : Int32), 1, g, t), ?_, ?_, Or.inl ⟨rfl, rfl⟩, ⟨rfl, rfl⟩⟩
      · unfold fX5_takePart
        rw [k_desk0 d, xb_r]
      · unfold fX7_takePart
        rw [m_out d, Option.bind_some, m_in r1, Option.bind_some]
        rw [m_th1, Option.bind_some, if_neg (by decide)]
    · refine ⟨(.inr "java/lang/IndexOutOfBoundsException"), ((0 : Int32), 1, g, t), ?_, ?_, Or.inl ⟨rfl, rfl⟩, ⟨rfl, rfl⟩⟩
      · unfold fX5_takePart
        rw [k_desk0 d, xb_r]
      · unfold fX7_takePart
        rw [m_out d, Option.bind_some, m_out r1, Option.bind_some]
        rw [m_th1, Option.bind_some, if_neg (by decide)]
theorem ty_layFirst {N K : Nat} {th : Int32} {f g t : Nat → Int32} {c0 c1 c2 c3 c4 c5 : Int32} {p0 p1 : Int32} (hN : NBig N) (hK : 100 ≤ K) (h : DD f g) : ∃ o y, fX5_layFirst N K f c0 c1 c2 c3 c4 c5 p0 p1 = some o ∧ fX7_layFirst N K th g t p0 p1 = some y ∧ Ti true o y.2.1 (fun z => z.1 = y.1 ∧ DD z.2.1 y.2.2.1 ∧ KT c0 c1 c2 c3 c4 t z.2.2 c1 c2 c3 c4 y.2.2.2) (y.2.2.1 = g ∧ y.2.2.2 = t) := by
  have hN9 := hN.u
  have hN1 : 100 ≤ N := by omega
  obtain ⟨w, hf, hg⟩ := h
  have hwn := hf.1
  by_cases d : Rg p0 0 1
  · by_cases r1 : Rg p1 0 20
    · have dd : ¬ (p0 < 0 ∨ 2 ≤ p0.toNatClampNeg) := d.dd
      obtain ⟨n, rfl, -, n2⟩ := Rg.n (a := 0) (b := 20) r1 (by omega) (by omega)
      obtain ⟨g1, e1, e2⟩ := c_first (N := N) (K := K) hN1 (f := f) n2
      obtain ⟨g2, e3, e4⟩ := m_first (N := N) (K := K) n2
      obtain ⟨g3, e5, e6⟩ := m_laid (th := (0 : Int32)) (f := g) (t := t) hN hK dd e4
      refine ⟨.inl (Int32.ofNat (wp (firstw n)), g1, c0 + (1 : Int32)), (Int32.ofNat (wp (firstw n)), 0, g3, dn t), ?_, ?_, rfl, rfl, ⟨firstw n, e2, e6⟩, KT.done⟩
      · unfold fX5_layFirst
        rw [k_desk1 d, xb_l, k_rng1 r1, xb_l]
        rw [e1, Option.bind_some, c_parts hN1 e2.2, Option.bind_some, k_act, Option.bind_some]
      · unfold fX7_layFirst
        rw [m_in d, Option.bind_some, m_in r1, Option.bind_some]
        rw [m_th00, Option.bind_some, if_pos rfl]
        rw [e3, Option.bind_some, e5, Option.bind_some]
    · refine ⟨(.inr "java/lang/IllegalArgumentException"), ((0 : Int32), 2, g, t), ?_, ?_, Or.inr ⟨rfl, rfl, rfl⟩, ⟨rfl, rfl⟩⟩
      · unfold fX5_layFirst
        rw [k_desk1 d, xb_l, k_rng0 r1, xb_r]
      · unfold fX7_layFirst
        rw [m_in d, Option.bind_some, m_out r1, Option.bind_some]
        rw [m_th01, Option.bind_some, if_neg (by decide)]
  · by_cases r1 : Rg p1 0 20
    · refine ⟨(.inr "java/lang/IndexOutOfBoundsException"), ((0 : Int32), 1, g, t), ?_, ?_, Or.inl ⟨rfl, rfl⟩, ⟨rfl, rfl⟩⟩
      · unfold fX5_layFirst
        rw [k_desk0 d, xb_r]
      · unfold fX7_layFirst
        rw [m_out d, Option.bind_some, m_in r1, Option.bind_some]
        rw [m_th1, Option.bind_some, if_neg (by decide)]
    · refine ⟨(.inr "java/lang/IndexOutOfBoundsException"), ((0 : Int32), 1, g, t), ?_, ?_, Or.inl ⟨rfl, rfl⟩, ⟨rfl, rfl⟩⟩
      · unfold fX5_layFirst
        rw [k_desk0 d, xb_r]
      · unfold fX7_layFirst
        rw [m_out d, Option.bind_some, m_out r1, Option.bind_some]
        rw [m_th1, Option.bind_some, if_neg (by decide)]
theorem ty_next {N K : Nat} {th : Int32} {f g t : Nat → Int32} {c0 c1 c2 c3 c4 c5 : Int32} {p0 : Int32} (hN : NBig N) (hK : 100 ≤ K) (h : DD f g) : ∃ o y, fX5_next N K f c0 c1 c2 c3 c4 c5 p0 = some o ∧ fX7_next N K th g t p0 = some y ∧ Ti false o y.2.1 (fun z => z.1 = y.1 ∧ DD z.2.1 y.2.2.1 ∧ KT c0 c1 c2 c3 c4 t z.2.2.1 c1 c2 c3 z.2.2.2 y.2.2.2) (y.2.2.1 = g ∧ y.2.2.2 = t) := by
  have hN9 := hN.u
  have hN1 : 100 ≤ N := by omega
  obtain ⟨w, hf, hg⟩ := h
  have hwn := hf.1
  by_cases d : Rg p0 0 1
  · have dd : ¬ (p0 < 0 ∨ 2 ≤ p0.toNatClampNeg) := d.dd
    obtain ⟨g1, e1, e2⟩ := c_step (N := N) (K := K) hN1 hf
    obtain ⟨g2, e3, e4⟩ := m_step (N := N) (K := K) hN1 hg
    by_cases e : lst w = 0
    · rw [if_pos e] at e1 e2 e3 e4
      refine ⟨.inl ((-9 : Int32), g1, c0, c4 + (1 : Int32)), ((-9 : Int32), 0, g2, rf t), ?_, ?_, rfl, rfl, ⟨w, e2, e4⟩, KT.refu⟩
      · unfold fX5_next
        rw [k_desk1 d, xb_l]
        rw [e1, Option.bind_some, if_pos rfl, k_und, Option.bind_some]
      · unfold fX7_next
        rw [m_in d, Option.bind_some]
        rw [m_th00, Option.bind_some, if_pos rfl]
        rw [if_neg dd, e3, Option.bind_some, if_pos rfl, m_ref, Option.bind_some]
    · rw [if_neg e] at e1 e2 e3 e4
      refine ⟨.inl (Int32.ofNat (wp (stw w (lst w))), g1, c0 + (1 : Int32), c4), (Int32.ofNat (wp (stw w (lst w))), 0, g2, dn t), ?_, ?_, rfl, rfl, ⟨stw w (lst w), e2, e4⟩, KT.done⟩
      · unfold fX5_next
        rw [k_desk1 d, xb_l]
        rw [e1, Option.bind_some, if_neg (show ¬ ((1 : Int32) = 0) from by decide), c_parts hN1 e2.2, Option.bind_some, k_act, Option.bind_some]
      · unfold fX7_next
        rw [m_in d, Option.bind_some]
        rw [m_th00, Option.bind_some, if_pos rfl]
        rw [if_neg dd, e3, Option.bind_some, if_neg (show ¬ ((1 : Int32) = 0) from by decide), if_neg dd, m_parts hN1 e4.2, Option.bind_some, m_done, Option.bind_some]
  · refine ⟨(.inr "java/lang/IndexOutOfBoundsException"), ((0 : Int32), 1, g, t), ?_, ?_, Or.inl ⟨rfl, rfl⟩, ⟨rfl, rfl⟩⟩
    · unfold fX5_next
      rw [k_desk0 d, xb_r]
    · unfold fX7_next
      rw [m_out d, Option.bind_some]
      rw [m_th1, Option.bind_some, if_neg (by decide)]
theorem ty_turn {N K : Nat} {th : Int32} {f g t fs : Nat → Int32} {c0 c1 c2 c3 c4 c5 : Int32} {p0 : Int32} (hN : NBig N) (hK : 100 ≤ K) (h : DD f g) : ∃ o y, fX5_turn N K f c0 c1 c2 c3 c4 c5 fs p0 = some o ∧ fX7_turn N K th g t p0 = some y ∧ Ti false o y.2.1 (fun z => z.1 = y.1 ∧ DD z.2.1 y.2.2.1 ∧ KT c0 c1 c2 c3 c4 t z.2.2.1 c1 c2 c3 c4 y.2.2.2) (y.2.2.1 = g ∧ y.2.2.2 = t) := by
  have hN9 := hN.u
  have hN1 : 100 ≤ N := by omega
  obtain ⟨w, hf, hg⟩ := h
  have hwn := hf.1
  by_cases d : Rg p0 0 1
  · have dd : ¬ (p0 < 0 ∨ 2 ≤ p0.toNatClampNeg) := d.dd
    obtain ⟨g1, e1, e2⟩ := c_turn (N := N) (K := K) hN1 (f := fs) hf
    obtain ⟨g2, e3, e4⟩ := m_turn (N := N) (K := K) hN1 hg
    obtain ⟨g3, e5, e6⟩ := m_laid (th := (0 : Int32)) (f := g) (t := t) hN hK dd e4
    obtain ⟨g4, e7, e8⟩ := c_become (N := N) (K := K) (f := f) e2.2
    by_cases e : eqw (turnw w) w = true
    · refine ⟨.inl ((0 : Int32), g4, c0 + (1 : Int32), g1), ((0 : Int32), 0, g3, dn t), ?_, ?_, rfl, rfl, ⟨turnw w, ⟨e2.1, e8⟩, e6⟩, KT.done⟩
      · unfold fX5_turn
        rw [k_desk1 d, xb_l]
        rw [e1, Option.bind_some, c_like hN1 e2 hf, Option.bind_some, if_neg (by rw [e]; decide)]
        unfold fX5_turn_30
        rw [e7, Option.bind_some, if_pos rfl]
        rfl
      · unfold fX7_turn
        rw [m_in d, Option.bind_some]
        rw [m_th00, Option.bind_some, if_pos rfl]
        rw [if_neg dd, e3, Option.bind_some, if_neg dd, m_same hN1 e4 hg, Option.bind_some, if_neg (by rw [e]; decide)]
        unfold fX7_turn_44
        rw [e5, Option.bind_some]
        rfl
    · refine ⟨.inl ((1 : Int32), g4, c0 + (1 : Int32), g1), ((1 : Int32), 0, g3, dn t), ?_, ?_, rfl, rfl, ⟨turnw w, ⟨e2.1, e8⟩, e6⟩, KT.done⟩
      · unfold fX5_turn
        rw [k_desk1 d, xb_l]
        rw [e1, Option.bind_some, c_like hN1 e2 hf, Option.bind_some, if_pos (by rw [Bool.eq_false_iff.mpr e]; decide)]
        unfold fX5_turn_30
        rw [e7, Option.bind_some, if_neg (by decide)]
        rfl
      · unfold fX7_turn
        rw [m_in d, Option.bind_some]
        rw [m_th00, Option.bind_some, if_pos rfl]
        rw [if_neg dd, e3, Option.bind_some, if_neg dd, m_same hN1 e4 hg, Option.bind_some, if_pos (by rw [Bool.eq_false_iff.mpr e]; decide)]
        unfold fX7_turn_44
        rw [e5, Option.bind_some]
        rfl
  · refine ⟨(.inr "java/lang/IndexOutOfBoundsException"), ((0 : Int32), 1, g, t), ?_, ?_, Or.inl ⟨rfl, rfl⟩, ⟨rfl, rfl⟩⟩
    · unfold fX5_turn
      rw [k_desk0 d, xb_r]
    · unfold fX7_turn
      rw [m_out d, Option.bind_some]
      rw [m_th1, Option.bind_some, if_neg (by decide)]
theorem ty_toUnlike {N K : Nat} {th : Int32} {f g t fs : Nat → Int32} {c0 c1 c2 c3 c4 c5 : Int32} {p0 : Int32} (hN : NBig N) (hK : 100 ≤ K) (h : DD f g) : ∃ o y, fX5_toUnlike N K f c0 c1 c2 c3 c4 c5 fs p0 = some o ∧ fX7_toUnlike N K th g t p0 = some y ∧ Ti false o y.2.1 (fun z => z.1 = y.1 ∧ DD z.2.1 y.2.2.1 ∧ KT c0 c1 c2 c3 c4 t z.2.2.1 c1 c2 c3 z.2.2.2.1 y.2.2.2) (y.2.2.1 = g ∧ y.2.2.2 = t) := by
  have hN9 := hN.u
  have hN1 : 100 ≤ N := by omega
  obtain ⟨w, hf, hg⟩ := h
  have hwn := hf.1
  by_cases d : Rg p0 0 1
  · have dd : ¬ (p0 < 0 ∨ 2 ≤ p0.toNatClampNeg) := d.dd
    obtain ⟨g1, e1, e2⟩ := c_unlike (N := N) (K := K) hN1 (f := fs) hf
    by_cases e : odw w = true
    · obtain ⟨g4, e7, e8⟩ := c_become (N := N) (K := K) (f := f) e2.2
      obtain ⟨g3, e5, e6⟩ := m_ulo (N := N) (K := K) (th := th) (f0 := g) (t0 := t) (th1 := (0 : Int32)) (t := t) hN hK dd hg 20 0 N (fun _ => 0) (fun _ => 0) rfl (by omega) (fun _ _ _ => rfl) e2.1
      refine ⟨.inl (Int32.ofNat (wp (unlikew w)), g4, c0 + (1 : Int32), c4, g1), (Int32.ofNat (wp (unlikew w)), 0, g3, dn t), ?_, ?_, rfl, rfl, ⟨unlikew w, ⟨e2.1, e8⟩, e6⟩, KT.done⟩
      · unfold fX5_toUnlike
        rw [k_desk1 d, xb_l]
        rw [c_oddq hN1 hf, Option.bind_some, if_neg (by rw [e]; decide), e1, Option.bind_some, e7, Option.bind_some, c_parts hN1 e8, Option.bind_some, k_act, Option.bind_some]
      · unfold fX7_toUnlike
        rw [m_in d, Option.bind_some]
        rw [m_th00, Option.bind_some, if_pos rfl]
        rw [if_neg dd, m_oddq hN1 hg, Option.bind_some, if_neg (by rw [e]; decide)]
        exact e5
    · refine ⟨.inl ((-9 : Int32), f, c0, c4 + (1 : Int32), fs), ((-9 : Int32), 0, g, rf t), ?_, ?_, rfl, rfl, ⟨w, hf, hg⟩, KT.refu⟩
      · unfold fX5_toUnlike
        rw [k_desk1 d, xb_l]
        rw [c_oddq hN1 hf, Option.bind_some, if_pos (by rw [Bool.eq_false_iff.mpr e]; decide), k_und, Option.bind_some]
      · unfold fX7_toUnlike
        rw [m_in d, Option.bind_some]
        rw [m_th00, Option.bind_some, if_pos rfl]
        rw [if_neg dd, m_oddq hN1 hg, Option.bind_some, if_pos (by rw [Bool.eq_false_iff.mpr e]; decide), m_ref, Option.bind_some]
  · refine ⟨(.inr "java/lang/IndexOutOfBoundsException"), ((0 : Int32), 1, g, t), ?_, ?_, Or.inl ⟨rfl, rfl⟩, ⟨rfl, rfl⟩⟩
    · unfold fX5_toUnlike
      rw [k_desk0 d, xb_r]
    · unfold fX7_toUnlike
      rw [m_out d, Option.bind_some]
      rw [m_th1, Option.bind_some, if_neg (by decide)]
theorem ty_toOdd {N K : Nat} {th : Int32} {f g t fs : Nat → Int32} {c0 c1 c2 c3 c4 c5 : Int32} {p0 : Int32} (hN : NBig N) (hK : 100 ≤ K) (h : DD f g) : ∃ o y, fX5_toOdd N K f c0 c1 c2 c3 c4 c5 fs p0 = some o ∧ fX7_toOdd N K th g t p0 = some y ∧ Ti false o y.2.1 (fun z => z.1 = y.1 ∧ DD z.2.1 y.2.2.1 ∧ KT c0 c1 c2 c3 c4 t z.2.2.1 c1 c2 c3 z.2.2.2.1 y.2.2.2) (y.2.2.1 = g ∧ y.2.2.2 = t) := by
  have hN9 := hN.u
  have hN1 : 100 ≤ N := by omega
  obtain ⟨w, hf, hg⟩ := h
  have hwn := hf.1
  by_cases d : Rg p0 0 1
  · have dd : ¬ (p0 < 0 ∨ 2 ≤ p0.toNatClampNeg) := d.dd
    obtain ⟨g1, e1, e2⟩ := c_odd (N := N) (K := K) hN1 (f := fs) hf
    by_cases e : unw w = true
    · obtain ⟨g4, e7, e8⟩ := c_become (N := N) (K := K) (f := f) e2.2
      obtain ⟨g3, e5, e6⟩ := m_odo (N := N) (K := K) (th := th) (f0 := g) (t0 := t) (th1 := (0 : Int32)) (t := t) hN hK dd hg 20 0 N (fun _ => 0) (fun _ => 0) rfl (by omega) (fun _ _ _ => rfl) e2.1
      refine ⟨.inl (Int32.ofNat (wp (oddw w)), g4, c0 + (1 : Int32), c4, g1), (Int32.ofNat (wp (oddw w)), 0, g3, dn t), ?_, ?_, rfl, rfl, ⟨oddw w, ⟨e2.1, e8⟩, e6⟩, KT.done⟩
      · unfold fX5_toOdd
        rw [k_desk1 d, xb_l]
        rw [c_unl hN1 hf, Option.bind_some, if_neg (by rw [e]; decide), e1, Option.bind_some, e7, Option.bind_some, c_parts hN1 e8, Option.bind_some, k_act, Option.bind_some]
      · unfold fX7_toOdd
        rw [m_in d, Option.bind_some]
        rw [m_th00, Option.bind_some, if_pos rfl]
        rw [if_neg dd, m_unl hN1 hg, Option.bind_some, if_neg (by rw [e]; decide)]
        exact e5
    · refine ⟨.inl ((-9 : Int32), f, c0, c4 + (1 : Int32), fs), ((-9 : Int32), 0, g, rf t), ?_, ?_, rfl, rfl, ⟨w, hf, hg⟩, KT.refu⟩
      · unfold fX5_toOdd
        rw [k_desk1 d, xb_l]
        rw [c_unl hN1 hf, Option.bind_some, if_pos (by rw [Bool.eq_false_iff.mpr e]; decide), k_und, Option.bind_some]
      · unfold fX7_toOdd
        rw [m_in d, Option.bind_some]
        rw [m_th00, Option.bind_some, if_pos rfl]
        rw [if_neg dd, m_unl hN1 hg, Option.bind_some, if_pos (by rw [Bool.eq_false_iff.mpr e]; decide), m_ref, Option.bind_some]
  · refine ⟨(.inr "java/lang/IndexOutOfBoundsException"), ((0 : Int32), 1, g, t), ?_, ?_, Or.inl ⟨rfl, rfl⟩, ⟨rfl, rfl⟩⟩
    · unfold fX5_toOdd
      rw [k_desk0 d, xb_r]
    · unfold fX7_toOdd
      rw [m_out d, Option.bind_some]
      rw [m_th1, Option.bind_some, if_neg (by decide)]
theorem ty_copyDesk {N K : Nat} {th : Int32} {f g t f2 g2 : Nat → Int32} {c0 c1 c2 c3 c4 c5 : Int32} {p0 : Int32} (hN : NBig N) (hK : 100 ≤ K) (h : DD f g) : ∃ o y, fX5_copyDesk N K f f2 c0 c1 c2 c3 c4 c5 p0 = some o ∧ fX7_copyDesk N K th g g2 t p0 = some y ∧ Ti false o y.2.1 (fun z => z.1 = y.1 ∧ DD z.2.1 y.2.2.1 ∧ KT c0 c1 c2 c3 c4 t z.2.2 c1 c2 c3 c4 y.2.2.2) (y.2.2.1 = g2 ∧ y.2.2.2 = t) := by
  have hN9 := hN.u
  have hN1 : 100 ≤ N := by omega
  obtain ⟨w, hf, hg⟩ := h
  have hwn := hf.1
  by_cases d : Rg p0 0 1
  · have q0 : (0 : Int32).toInt = 0 := by decide
    have q1 : (1 : Int32).toInt = 1 := by decide
    have dd : ¬ (p0 < 0 ∨ 2 ≤ p0.toNatClampNeg) := d.dd
    have es := subI (a := (1 : Int32)) (b := p0) (by have := d.1; have := d.2; omega) (by have := d.1; have := d.2; omega)
    have d2 : Rg ((1 : Int32) - p0) 0 1 := ⟨by have := d.2; omega, by have := d.1; omega⟩
    have dd2 : ¬ ((1 : Int32) - p0 < 0 ∨ 2 ≤ ((1 : Int32) - p0).toNatClampNeg) := noob (by have := d.2; omega) (by have := d.1; omega)
    obtain ⟨g4, e7, e8⟩ := c_become (N := N) (K := K) (f := f2) hf.2
    obtain ⟨g3, e5, e6⟩ := m_laid (th := (0 : Int32)) (f := g2) (t := t) hN hK dd2 hg
    refine ⟨.inl (Int32.ofNat (dpw w), g4, c0 + (1 : Int32)), (Int32.ofNat (dpw w), 0, g3, dn t), ?_, ?_, rfl, rfl, ⟨w, ⟨hwn, e8⟩, e6⟩, KT.done⟩
    · unfold fX5_copyDesk
      rw [k_desk1 d, xb_l]
      rw [k_desk1 d2, xb_l, e7, Option.bind_some, c_dp hN1 hf, Option.bind_some, k_act, Option.bind_some]
    · unfold fX7_copyDesk
      rw [m_in d, Option.bind_some]
      rw [m_th00, Option.bind_some, if_pos rfl]
      rw [if_neg dd, e5, Option.bind_some, if_neg dd, m_dp hN1 hg, Option.bind_some]
  · refine ⟨(.inr "java/lang/IndexOutOfBoundsException"), ((0 : Int32), 1, g2, t), ?_, ?_, Or.inl ⟨rfl, rfl⟩, ⟨rfl, rfl⟩⟩
    · unfold fX5_copyDesk
      rw [k_desk0 d, xb_r]
    · unfold fX7_copyDesk
      rw [m_out d, Option.bind_some]
      rw [m_th1, Option.bind_some, if_neg (by decide)]
theorem ty_times {N K : Nat} {th : Int32} {f g : Nat → Int32}  {p0 p1 : Int32} (hN : NBig N) (hK : 100 ≤ K) (h : DD f g) : ∃ o y, fX5_times N K f p0 p1 = some o ∧ fX7_times N K th g p0 p1 = some y ∧ Ti true o y.2 (fun z => z = y.1) (True) := by
  have hN9 := hN.u
  have hN1 : 100 ≤ N := by omega
  obtain ⟨w, hf, hg⟩ := h
  have hwn := hf.1
  by_cases d : Rg p0 0 1
  · by_cases r1 : Rg p1 1 20
    · have dd : ¬ (p0 < 0 ∨ 2 ≤ p0.toNatClampNeg) := d.dd
      obtain ⟨n, rfl, n1, n2⟩ := Rg.n (a := 1) (b := 20) r1 (by omega) (by omega)
      refine ⟨.inl (Int32.ofNat (w n)), (Int32.ofNat (w n), 0), ?_, ?_, rfl, rfl⟩
      · unfold fX5_times
        rw [k_desk1 d, xb_l, k_rng1 r1, xb_l]
        rw [c_times hf.2 n1 n2, Option.bind_some]
      · unfold fX7_times
        rw [m_in d, Option.bind_some, m_in r1, Option.bind_some]
        rw [m_th00, Option.bind_some, if_pos rfl]
        rw [if_neg dd, if_neg (o_ob (by omega) (by omega)), o_c (by omega), hg.2 n n1 n2]
    · refine ⟨(.inr "java/lang/IllegalArgumentException"), ((0 : Int32), 2), ?_, ?_, Or.inr ⟨rfl, rfl, rfl⟩, trivial⟩
      · unfold fX5_times
        rw [k_desk1 d, xb_l, k_rng0 r1, xb_r]
      · unfold fX7_times
        rw [m_in d, Option.bind_some, m_out r1, Option.bind_some]
        rw [m_th01, Option.bind_some, if_neg (by decide)]
  · by_cases r1 : Rg p1 1 20
    · refine ⟨(.inr "java/lang/IndexOutOfBoundsException"), ((0 : Int32), 1), ?_, ?_, Or.inl ⟨rfl, rfl⟩, trivial⟩
      · unfold fX5_times
        rw [k_desk0 d, xb_r]
      · unfold fX7_times
        rw [m_out d, Option.bind_some, m_in r1, Option.bind_some]
        rw [m_th1, Option.bind_some, if_neg (by decide)]
    · refine ⟨(.inr "java/lang/IndexOutOfBoundsException"), ((0 : Int32), 1), ?_, ?_, Or.inl ⟨rfl, rfl⟩, trivial⟩
      · unfold fX5_times
        rw [k_desk0 d, xb_r]
      · unfold fX7_times
        rw [m_out d, Option.bind_some, m_out r1, Option.bind_some]
        rw [m_th1, Option.bind_some, if_neg (by decide)]
theorem ty_way {N K : Nat} {th : Int32} {f g : Nat → Int32}  {p0 p1 : Int32} (hN : NBig N) (hK : 100 ≤ K) (h : DD f g) : ∃ o y, fX5_way N K f p0 p1 = some o ∧ fX7_way N K th g p0 p1 = some y ∧ Ti true o y.2 (fun z => z = y.1) (True) := by
  have hN9 := hN.u
  have hN1 : 100 ≤ N := by omega
  obtain ⟨w, hf, hg⟩ := h
  have hwn := hf.1
  by_cases d : Rg p0 0 1
  · by_cases r1 : Rg p1 0 2
    · have dd : ¬ (p0 < 0 ∨ 2 ≤ p0.toNatClampNeg) := d.dd
      by_cases e0 : p1 = 0
      · subst e0
        refine ⟨.inl (Int32.ofNat (wn w)), (Int32.ofNat (wn w), 0), ?_, ?_, rfl, rfl⟩
        · unfold fX5_way
          rw [k_desk1 d, xb_l, k_rng1 r1, xb_l]
          rw [if_pos rfl, c_sum hN1 hf.2, Option.bind_some]
        · unfold fX7_way
          rw [m_in d, Option.bind_some, m_in r1, Option.bind_some]
          rw [m_th00, Option.bind_some, if_pos rfl]
          rw [if_pos rfl, if_neg dd, m_sum hN1 hg.2, Option.bind_some]
      · by_cases e1 : p1 = 1
        · subst e1
          refine ⟨.inl (Int32.ofNat (wp w)), (Int32.ofNat (wp w), 0), ?_, ?_, rfl, rfl⟩
          · unfold fX5_way
            rw [k_desk1 d, xb_l, k_rng1 r1, xb_l]
            rw [if_neg (by decide), if_pos rfl, c_parts hN1 hf.2, Option.bind_some]
          · unfold fX7_way
            rw [m_in d, Option.bind_some, m_in r1, Option.bind_some]
            rw [m_th00, Option.bind_some, if_pos rfl]
            rw [if_neg (by decide), if_pos rfl, if_neg dd, m_parts hN1 hg.2, Option.bind_some]
        · refine ⟨.inl (Int32.ofNat (dpw w)), (Int32.ofNat (dpw w), 0), ?_, ?_, rfl, rfl⟩
          · unfold fX5_way
            rw [k_desk1 d, xb_l, k_rng1 r1, xb_l]
            rw [if_neg e0, if_neg e1, c_dp hN1 hf, Option.bind_some]
          · unfold fX7_way
            rw [m_in d, Option.bind_some, m_in r1, Option.bind_some]
            rw [m_th00, Option.bind_some, if_pos rfl]
            rw [if_neg e0, if_neg e1, if_neg dd, m_dp hN1 hg, Option.bind_some]
    · refine ⟨(.inr "java/lang/IllegalArgumentException"), ((0 : Int32), 2), ?_, ?_, Or.inr ⟨rfl, rfl, rfl⟩, trivial⟩
      · unfold fX5_way
        rw [k_desk1 d, xb_l, k_rng0 r1, xb_r]
      · unfold fX7_way
        rw [m_in d, Option.bind_some, m_out r1, Option.bind_some]
        rw [m_th01, Option.bind_some, if_neg (by decide)]
  · by_cases r1 : Rg p1 0 2
    · refine ⟨(.inr "java/lang/IndexOutOfBoundsException"), ((0 : Int32), 1), ?_, ?_, Or.inl ⟨rfl, rfl⟩, trivial⟩
      · unfold fX5_way
        rw [k_desk0 d, xb_r]
      · unfold fX7_way
        rw [m_out d, Option.bind_some, m_in r1, Option.bind_some]
        rw [m_th1, Option.bind_some, if_neg (by decide)]
    · refine ⟨(.inr "java/lang/IndexOutOfBoundsException"), ((0 : Int32), 1), ?_, ?_, Or.inl ⟨rfl, rfl⟩, trivial⟩
      · unfold fX5_way
        rw [k_desk0 d, xb_r]
      · unfold fX7_way
        rw [m_out d, Option.bind_some, m_out r1, Option.bind_some]
        rw [m_th1, Option.bind_some, if_neg (by decide)]
theorem ty_isSameWay {N K : Nat} {th : Int32} {f f2 g g2 : Nat → Int32} (hN : NBig N) (hK : 100 ≤ K) (h : DD f g) (h2 : DD f2 g2) : ∃ b : Bool, fX5_isSameWay N K f f2 = some (.inl (bi b)) ∧ fX7_isSameWay N K th g g2 = some (bi b, 0) := by
  have hN9 := hN.u
  have hN1 : 100 ≤ N := by omega
  obtain ⟨w, hf, hg⟩ := h
  obtain ⟨v, hf2, hg2⟩ := h2
  refine ⟨eqw w v, ?_, ?_⟩
  · unfold fX5_isSameWay
    rw [k_desk1 (by unfold Rg; decide), xb_l, k_desk1 (by unfold Rg; decide), xb_l, c_like hN1 hf hf2, Option.bind_some, if_pos (bi_ok _)]
  · unfold fX7_isSameWay
    rw [if_neg (by decide), if_neg (by decide), m_same hN1 hg hg2, Option.bind_some, if_pos (bi_ok _)]

end MG_60eties
section MG_60fkindof
/-! ===== the greatest part; own turned ===== -/
def grf (w : Nat → Nat) : Nat → Nat
  | 0 => 0
  | n + 1 => if w (n + 1) = 0 then grf w n else n + 1
def gr (w : Nat → Nat) : Nat := grf w 20
theorem grf_le {w : Nat → Nat} : ∀ n, grf w n ≤ n := by
  intro n
  induction n with
  | zero => exact Nat.le_refl _
  | succ n ih =>
    unfold grf
    by_cases e : w (n + 1) = 0
    · rw [if_pos e]; omega
    · rw [if_neg e]; exact Nat.le_refl _
theorem m_gr_ {N K : Nat} {f : Nat → Int32} {w : Nat → Nat} (hf : Dk f w) : ∀ n fu, n ≤ 20 → n < fu → fX7_greatest_3 N K f fu (Int32.ofNat n) = some (Int32.ofNat (grf w n)) := by
  intro n
  induction n with
  | zero =>
    intro fu _ hfu
    obtain ⟨fu, rfl⟩ : ∃ m, fu = m + 1 := ⟨fu - 1, by omega⟩
    unfold fX7_greatest_3
    rw [if_pos (by decide)]
    rfl
  | succ n ih =>
    intro fu hn hfu
    obtain ⟨fu, rfl⟩ : ∃ m, fu = m + 1 := ⟨fu - 1, by omega⟩
    have a1 := wn_le1 (w := w) (p := n + 1) (by omega) hn
    have b1 := hf.1
    unfold fX7_greatest_3 grf
    rw [if_neg (o_0lt (by omega) (by omega)), if_neg (o_ob (by omega) (by omega)), o_c (by omega), hf.2 _ (by omega) hn, o_m1]
    by_cases e : w (n + 1) = 0
    · rw [if_pos (by rw [e]; rfl), if_pos e]
      exact ih fu (by omega) (by omega)
    · rw [if_neg (by rw [show (0 : Int32) = Int32.ofNat 0 from rfl, o_eq (by omega) (by omega)]; exact e), if_neg e]
theorem m_gr {N K : Nat} (hN : 100 ≤ N) {f : Nat → Int32} {w : Nat → Nat} (hf : Dk f w) : fX7_greatest N K f = some (Int32.ofNat (gr w)) := m_gr_ hf 20 N (Nat.le_refl _) (by omega)
theorem c_none_ {N K : Nat} {f : Nat → Int32} {w : Nat → Nat} (hf : Dk f w) {p : Nat} (hp : p ≤ 20) : ∀ n fu, n ≤ 20 → n < fu → fX4_hasNoneAbove_3 N K f (Int32.ofNat p) fu (Int32.ofNat n) = some (bi (decide (grf w n ≤ p))) := by
  intro n
  induction n with
  | zero =>
    intro fu _ hfu
    obtain ⟨fu, rfl⟩ : ∃ m, fu = m + 1 := ⟨fu - 1, by omega⟩
    unfold fX4_hasNoneAbove_3
    rw [if_pos (by rw [o_le (by omega) (by omega)]; omega), decide_eq_true (by show grf w 0 ≤ p; exact Nat.zero_le _)]
    rfl
  | succ n ih =>
    intro fu hn hfu
    obtain ⟨fu, rfl⟩ : ∃ m, fu = m + 1 := ⟨fu - 1, by omega⟩
    have a1 := wn_le1 (w := w) (p := n + 1) (by omega) hn
    have b1 := hf.1
    have g1 := grf_le (w := w) (n + 1)
    unfold fX4_hasNoneAbove_3
    by_cases e0 : n + 1 ≤ p
    · rw [if_pos (by rw [o_le (by omega) (by omega)]; exact e0), decide_eq_true (by omega)]
      rfl
    · rw [if_neg (by rw [o_le (by omega) (by omega)]; exact e0), if_neg (o_1le (by omega) (by omega)), if_neg (o_ob (by omega) (by omega)), o_c (by omega), hf.2 _ (by omega) hn, o_m1]
      unfold grf
      by_cases e : w (n + 1) = 0
      · rw [if_pos (by rw [e]; decide), if_pos e]
        exact ih fu (by omega) (by omega)
      · rw [if_neg (o_0lt (by omega) (by omega)), if_neg e, decide_eq_false (by omega)]
        rfl
theorem c_none {N K : Nat} (hN : 100 ≤ N) {f : Nat → Int32} {w : Nat → Nat} (hf : Dk f w) {p : Nat} (hp : p ≤ 20) : fX4_hasNoneAbove N K f (Int32.ofNat p) = some (bi (decide (gr w ≤ p))) := c_none_ hf hp 20 N (Nat.le_refl _) (by omega)
/-- the i-th part from the greatest on -/
def paf (w : Nat → Nat) (i : Nat) : Nat → Nat
  | 0 => 0
  | n + 1 => if tl w (20 - n) < i then paf w i n else n + 1
def pa (w : Nat → Nat) (i : Nat) : Nat := paf w i 20
theorem tl_s {w : Nat → Nat} {n : Nat} (h : n < 20) : tl w (20 - n) = tl w (19 - n) + w (n + 1) := by
  obtain ⟨j, hj⟩ : ∃ j, 20 - n = j + 1 := ⟨19 - n, by omega⟩
  rw [hj, show 19 - n = j from by omega, show n + 1 = 20 - j from by omega]
  rfl
theorem m_pa_ {N K : Nat} {f : Nat → Int32} {w : Nat → Nat} (hf : Dk f w) {i : Nat} (hi : i ≤ 20) : ∀ n fu, n ≤ 20 → n < fu → fX7_partAt_5 N K f (Int32.ofNat i) fu (Int32.ofNat (tl w (20 - n))) (Int32.ofNat n) = some (Int32.ofNat (paf w i n)) := by
  intro n
  induction n with
  | zero =>
    intro fu _ hfu
    obtain ⟨fu, rfl⟩ : ∃ m, fu = m + 1 := ⟨fu - 1, by omega⟩
    unfold fX7_partAt_5
    rw [if_pos (by decide)]
    rfl
  | succ n ih =>
    intro fu hn hfu
    obtain ⟨fu, rfl⟩ : ∃ m, fu = m + 1 := ⟨fu - 1, by omega⟩
    have ht := tl_s (w := w) (n := n) (by omega)
    have hl := tl_le (w := w) (m := 20 - n) (by omega)
    have b1 := hf.1
    unfold fX7_partAt_5 paf
    rw [if_neg (o_0lt (by omega) (by omega)), if_neg (o_ob (by omega) (by omega)), o_c (by omega), hf.2 _ (by omega) hn, o_add, o_m1, show 20 - (n + 1) = 19 - n from by omega, ← ht]
    by_cases e : tl w (20 - n) < i
    · rw [if_pos (by rw [o_lt (by omega) (by omega)]; exact e), if_pos e]
      exact ih fu (by omega) (by omega)
    · rw [if_neg (by rw [o_lt (by omega) (by omega)]; exact e), if_neg e]
theorem m_pa {N K : Nat} (hN : 100 ≤ N) {f : Nat → Int32} {w : Nat → Nat} (hf : Dk f w) {i : Nat} (hi : i ≤ 20) : fX7_partAt N K f (Int32.ofNat i) = some (Int32.ofNat (pa w i)) := m_pa_ hf hi 20 N (Nat.le_refl _) (by omega)
theorem paf_le {w : Nat → Nat} {i : Nat} : ∀ n, paf w i n ≤ n := by
  intro n
  induction n with
  | zero => exact Nat.le_refl _
  | succ n ih =>
    unfold paf
    by_cases e : tl w (20 - n) < i
    · rw [if_pos e]; omega
    · rw [if_neg e]; exact Nat.le_refl _
theorem paf_iff {w : Nat → Nat} {i l : Nat} (hl : 1 ≤ l) : ∀ n, n ≤ 20 → (l ≤ paf w i n ↔ l ≤ n ∧ i ≤ tl w (21 - l)) := by
  intro n
  induction n with
  | zero => intro _; show l ≤ 0 ↔ _; omega
  | succ n ih =>
    intro hn
    have h := ih (by omega)
    unfold paf
    by_cases e : tl w (20 - n) < i
    · rw [if_pos e, h]
      constructor
      · rintro ⟨a, b⟩; exact ⟨by omega, b⟩
      · rintro ⟨a, b⟩
        refine ⟨?_, b⟩
        by_cases e2 : l = n + 1
        · rw [e2, show 21 - (n + 1) = 20 - n from by omega] at b; omega
        · omega
    · rw [if_neg e]
      constructor
      · intro a
        have := tl_mono (w := w) (m := 20 - n) (n := 21 - l) (by omega)
        exact ⟨a, by omega⟩
      · rintro ⟨a, -⟩; exact a
theorem pa_iff {w : Nat → Nat} {i l : Nat} (h1 : 1 ≤ l) (h2 : l ≤ 20) : l ≤ pa w i ↔ i ≤ tl w (21 - l) := by
  unfold pa
  rw [paf_iff h1 20 (Nat.le_refl _)]
  exact ⟨fun h => h.2, fun h => ⟨h2, h⟩⟩
/-- how many of the tails up to n are l or more -/
def cge (w : Nat → Nat) (l : Nat) : Nat → Nat
  | 0 => 0
  | n + 1 => cge w l n + (if l ≤ tl w (n + 1) then 1 else 0)
theorem tl_upm {u : Nat → Nat} {t v : Nat} (h1 : 1 ≤ t) (h2 : t ≤ 20) : ∀ m, m ≤ 20 → tl (upm u t v) m + (if 21 ≤ m + t then u t else 0) = tl u m + (if 21 ≤ m + t then v else 0) := by
  intro m
  induction m with
  | zero => intro _; rw [if_neg (by omega), if_neg (by omega)]; rfl
  | succ m ih =>
    intro hm
    have h := ih (by omega)
    have e1 : tl (upm u t v) (m + 1) = tl (upm u t v) m + upm u t v (20 - m) := rfl
    have e2 : tl u (m + 1) = tl u m + u (20 - m) := rfl
    rw [e1, e2]
    by_cases e : 20 - m = t
    · rw [if_neg (by omega), if_neg (by omega)] at h
      rw [if_pos (by omega), if_pos (by omega), e, upm_at]
      omega
    · have e3 : upm u t v (20 - m) = u (20 - m) := by unfold upm; rw [if_neg e]
      rw [e3]
      by_cases e4 : 21 ≤ m + t
      · rw [if_pos e4, if_pos e4] at h
        rw [if_pos (by omega), if_pos (by omega)]
        omega
      · rw [if_neg e4, if_neg e4] at h
        rw [if_neg (by omega), if_neg (by omega)]
        omega
theorem tl_cn {w : Nat → Nat} (hw : wn w ≤ 20) {l : Nat} (h1 : 1 ≤ l) (h2 : l ≤ 20) : ∀ m, m ≤ 20 → tl (cn w m) (21 - l) = cge w l m := by
  intro m
  induction m with
  | zero =>
    intro _
    show tl (fun _ => 0) (21 - l) = 0
    have z : ∀ k, tl (fun _ => 0) k = 0 := by
      intro k
      induction k with
      | zero => rfl
      | succ k ih => show tl (fun _ => 0) k + 0 = 0; rw [ih]
    exact z _
  | succ m ih =>
    intro hm
    have h := ih (by omega)
    have ht := tl_le (w := w) hm
    show tl (if tl w (m + 1) = 0 then cn w m else upm (cn w m) (tl w (m + 1)) (cn w m (tl w (m + 1)) + 1)) (21 - l) = cge w l m + (if l ≤ tl w (m + 1) then 1 else 0)
    by_cases e : tl w (m + 1) = 0
    · rw [if_pos e, if_neg (by omega), h]; rfl
    · rw [if_neg e]
      have u := tl_upm (u := cn w m) (t := tl w (m + 1)) (v := cn w m (tl w (m + 1)) + 1) (by omega) (by omega) (21 - l) (by omega)
      by_cases e2 : l ≤ tl w (m + 1)
      · rw [if_pos (by omega), if_pos (by omega)] at u
        rw [if_pos e2]
        omega
      · rw [if_neg (by omega), if_neg (by omega)] at u
        rw [if_neg e2]
        omega
theorem cge_le {w : Nat → Nat} {l : Nat} : ∀ n, cge w l n ≤ n := by
  intro n
  induction n with
  | zero => exact Nat.le_refl _
  | succ n ih =>
    show cge w l n + (if l ≤ tl w (n + 1) then 1 else 0) ≤ n + 1
    by_cases e : l ≤ tl w (n + 1)
    · rw [if_pos e]; omega
    · rw [if_neg e]; omega
theorem cge_iff {w : Nat → Nat} {l : Nat} : ∀ n i, 1 ≤ i → i ≤ n → (i ≤ cge w l n ↔ l ≤ tl w (n + 1 - i)) := by
  intro n
  induction n with
  | zero => intro i a b; omega
  | succ n ih =>
    intro i a b
    show i ≤ cge w l n + (if l ≤ tl w (n + 1) then 1 else 0) ↔ _
    have hle := cge_le (w := w) (l := l) n
    by_cases e : l ≤ tl w (n + 1)
    · rw [if_pos e]
      by_cases e1 : i = 1
      · rw [e1, show n + 1 + 1 - 1 = n + 1 from by omega]
        exact ⟨fun _ => e, fun _ => by omega⟩
      · have h := ih (i - 1) (by omega) (by omega)
        rw [show n + 1 - (i - 1) = n + 1 + 1 - i from by omega] at h
        rw [← h]
        omega
    · rw [if_neg e]
      have mono := tl_mono (w := w) (m := n + 1 + 1 - i) (n := n + 1) (by omega)
      constructor
      · intro h
        exfalso
        have h2 := (ih i a (by omega)).mp (by omega)
        have mono2 := tl_mono (w := w) (m := n + 1 - i) (n := n + 1) (by omega)
        omega
      · intro h; omega
theorem pa_turn {w : Nat → Nat} (hw : wn w ≤ 20) {i : Nat} (h1 : 1 ≤ i) (h2 : i ≤ 20) : pa (turnw w) i = tl w (21 - i) := by
  have key : ∀ l, 1 ≤ l → l ≤ 20 → (l ≤ pa (turnw w) i ↔ l ≤ tl w (21 - i)) := by
    intro l a b
    have e : tl (turnw w) (21 - l) = cge w l 20 := tl_cn hw a b 20 (Nat.le_refl _)
    rw [pa_iff a b, e, cge_iff 20 i h1 h2]
  have b1 : pa (turnw w) i ≤ 20 := paf_le 20
  have b2 : tl w (21 - i) ≤ 20 := Nat.le_trans (tl_le (by omega)) hw
  by_cases c1 : pa (turnw w) i = 0
  · by_cases c2 : tl w (21 - i) = 0
    · omega
    · have := (key (tl w (21 - i)) (by omega) b2).mpr (Nat.le_refl _)
      omega
  · have k1 := (key (pa (turnw w) i) (by omega) b1).mp (Nat.le_refl _)
    have k2 := (key (tl w (21 - i)) (by omega) b2).mpr (Nat.le_refl _)
    omega
theorem tl_congr {u v : Nat → Nat} (h : ∀ p, 1 ≤ p → p ≤ 20 → u p = v p) : ∀ m, m ≤ 20 → tl u m = tl v m := by
  intro m
  induction m with
  | zero => intro _; rfl
  | succ m ih =>
    intro hm
    show tl u m + u (20 - m) = tl v m + v (20 - m)
    rw [ih (by omega), h (20 - m) (by omega) (by omega)]
theorem pa_congr {u v : Nat → Nat} (h : ∀ p, 1 ≤ p → p ≤ 20 → u p = v p) (i : Nat) : pa u i = pa v i := by
  have z : ∀ n, n ≤ 20 → paf u i n = paf v i n := by
    intro n
    induction n with
    | zero => intro _; rfl
    | succ n ih =>
      intro hn
      unfold paf
      rw [tl_congr h (20 - n) (by omega), ih (by omega)]
  exact z 20 (Nat.le_refl _)
theorem pa_inj {u v : Nat → Nat} (hu : wp u ≤ 20) (hv : wp v ≤ 20) (h : ∀ i, 1 ≤ i → i ≤ 20 → pa u i = pa v i) : ∀ p, 1 ≤ p → p ≤ 20 → u p = v p := by
  have bu : ∀ m, m ≤ 20 → tl u m ≤ 20 := fun m hm => Nat.le_trans (tl_mono hm) (by rw [tl_all]; exact hu)
  have bv : ∀ m, m ≤ 20 → tl v m ≤ 20 := fun m hm => Nat.le_trans (tl_mono hm) (by rw [tl_all]; exact hv)
  have key : ∀ l, 1 ≤ l → l ≤ 20 → tl u (21 - l) = tl v (21 - l) := by
    intro l a b
    have c1 := bu (21 - l) (by omega)
    have c2 := bv (21 - l) (by omega)
    have k : ∀ i, 1 ≤ i → i ≤ 20 → (i ≤ tl u (21 - l) ↔ i ≤ tl v (21 - l)) := by
      intro i d e
      rw [← pa_iff a b, ← pa_iff a b, h i d e]
    by_cases z1 : tl u (21 - l) = 0
    · by_cases z2 : tl v (21 - l) = 0
      · omega
      · have := (k (tl v (21 - l)) (by omega) c2).mpr (Nat.le_refl _)
        omega
    · have k1 := (k (tl u (21 - l)) (by omega) c1).mp (Nat.le_refl _)
      have k2 := (k (tl v (21 - l)) (by omega) c2).mpr
      by_cases z2 : tl v (21 - l) ≤ tl u (21 - l)
      · omega
      · have := k2 (Nat.le_refl _)
        omega
  intro p a b
  have e1 := tl_s (w := u) (n := p - 1) (by omega)
  have e2 := tl_s (w := v) (n := p - 1) (by omega)
  have k1 := key p a b
  rw [show 20 - (p - 1) = 21 - p from by omega, show 19 - (p - 1) = 20 - p from by omega, show p - 1 + 1 = p from by omega] at e1 e2
  by_cases c : p = 20
  · subst c
    have t0 : tl u (20 - 20) = 0 := rfl
    have t1 : tl v (20 - 20) = 0 := rfl
    omega
  · have k2 := key (p + 1) (by omega) (by omega)
    rw [show 21 - (p + 1) = 20 - p from by omega] at k2
    omega
/-- the reference's test: part by part -/
def ownf (w : Nat → Nat) : Nat → Bool
  | 0 => true
  | n + 1 => if pa w (n + 1) = tl w (20 - n) then ownf w n else false
theorem ownf_iff {w : Nat → Nat} : ∀ n, ownf w n = true ↔ ∀ i, 1 ≤ i → i ≤ n → pa w i = tl w (21 - i) := by
  intro n
  induction n with
  | zero => exact ⟨fun _ i a b => by omega, fun _ => rfl⟩
  | succ n ih =>
    unfold ownf
    by_cases e : pa w (n + 1) = tl w (20 - n)
    · rw [if_pos e, ih]
      constructor
      · intro h i a b
        by_cases c : i = n + 1
        · rw [c, e, show 21 - (n + 1) = 20 - n from by omega]
        · exact h i a (by omega)
      · intro h i a b
        exact h i a (by omega)
    · rw [if_neg e]
      constructor
      · intro h; exact absurd h (by decide)
      · intro h
        have := h (n + 1) (by omega) (Nat.le_refl _)
        rw [show 21 - (n + 1) = 20 - n from by omega] at this
        exact absurd this e
theorem own_eq {w : Nat → Nat} (hw : wn w ≤ 20) : eqw w (turnw w) = true ↔ ownf w 20 = true := by
  rw [eqw_iff, ownf_iff]
  constructor
  · intro h i a b
    rw [pa_congr h i, pa_turn hw a b]
  · intro h
    have wt := wn_turn hw
    exact pa_inj (Nat.le_trans wp_le hw) (Nat.le_trans wp_le (by omega)) (fun i a b => by rw [pa_turn hw a b]; exact h i a b)
theorem own_gr {w : Nat → Nat} (hw : wn w ≤ 20) (h : ownf w 20 = true) : wp w = gr w := by
  have h1 := (ownf_iff 20).mp h 1 (Nat.le_refl _) (by omega)
  rw [show 21 - 1 = 20 from rfl, tl_all] at h1
  rw [← h1]
  have z : ∀ n, n ≤ 20 → paf w 1 n = grf w n ∨ (tl w (20 - n) ≠ 0) := by
    intro n
    induction n with
    | zero => intro _; exact Or.inl rfl
    | succ n ih =>
      intro hn
      by_cases e : tl w (20 - (n + 1)) = 0
      · refine Or.inl ?_
        have ht := tl_s (w := w) (n := n) (by omega)
        rw [show 20 - (n + 1) = 19 - n from by omega] at e
        unfold paf grf
        by_cases c : w (n + 1) = 0
        · rw [if_pos (by omega), if_pos c]
          rcases ih (by omega) with a | a
          · exact a
          · exact absurd (show tl w (20 - n) = 0 by omega) a
        · rw [if_neg (by omega), if_neg c]
      · exact Or.inr e
  rcases z 20 (Nat.le_refl _) with a | a
  · exact a
  · exact absurd rfl a
theorem m_own_ {N K : Nat} (hN : 100 ≤ N) {f : Nat → Int32} {w : Nat → Nat} (hf : Dk f w) : ∀ n fu b, n ≤ 20 → n < fu → fX7_isOwnTurned_22 N K f fu (Int32.ofNat (tl w (20 - n))) (bi b) (Int32.ofNat n) = some (bi (b && ownf w n)) := by
  intro n
  induction n with
  | zero =>
    intro fu b _ hfu
    obtain ⟨fu, rfl⟩ : ∃ m, fu = m + 1 := ⟨fu - 1, by omega⟩
    unfold fX7_isOwnTurned_22 ownf
    rw [if_pos (by decide), if_pos (bi_ok b), Bool.and_true]
  | succ n ih =>
    intro fu b hn hfu
    obtain ⟨fu, rfl⟩ : ∃ m, fu = m + 1 := ⟨fu - 1, by omega⟩
    have ht := tl_s (w := w) (n := n) (by omega)
    have hl := tl_le (w := w) (m := 20 - n) (by omega)
    have b1 := hf.1
    have hp : pa w (n + 1) ≤ 20 := paf_le 20
    unfold fX7_isOwnTurned_22 ownf
    rw [if_neg (o_0lt (by omega) (by omega))]
    cases b with
    | false => rw [if_pos bif0, if_pos (bi_ok false), Bool.false_and]
    | true =>
      rw [if_neg (by decide), if_neg (o_ob (by omega) (by omega)), m_pa hN hf hn, Option.bind_some, o_c (by omega), hf.2 _ (by omega) hn, o_add, show 20 - (n + 1) = 19 - n from by omega, ← ht]
      by_cases e : pa w (n + 1) = tl w (20 - n)
      · rw [if_pos (by rw [o_eq (by omega) (by omega)]; exact e), if_pos e]
        unfold fX7_isOwnTurned_50
        rw [o_m1]
        exact ih fu true (by omega) (by omega)
      · rw [if_neg (by rw [o_eq (by omega) (by omega)]; exact e), if_neg e]
        unfold fX7_isOwnTurned_50
        rw [o_m1, Bool.and_false]
        have h := ih fu false (by omega) (by omega)
        rw [Bool.false_and] at h
        exact h
theorem m_own {N K : Nat} (hN : 100 ≤ N) {f : Nat → Int32} {w : Nat → Nat} (hf : Dk f w) : fX7_isOwnTurned N K f = some (bi (eqw w (turnw w))) := by
  have b1 := hf.1
  have b2 := wp_le (w := w)
  have b3 : gr w ≤ 20 := grf_le 20
  unfold fX7_isOwnTurned
  rw [m_parts hN hf.2, Option.bind_some, m_gr hN hf, Option.bind_some]
  by_cases e : ownf w 20 = true
  · rw [if_pos (by rw [o_eq (by omega) (by omega)]; exact own_gr hf.1 e), (own_eq hf.1).mpr e]
    unfold fX7_isOwnTurned_18
    have h := m_own_ (N := N) (K := K) hN hf 20 N true (Nat.le_refl _) (by omega)
    rw [e] at h
    exact h
  · have e2 : eqw w (turnw w) = false := Bool.eq_false_iff.mpr (fun z => e ((own_eq hf.1).mp z))
    rw [e2]
    by_cases c : wp w = gr w
    · rw [if_pos (by rw [o_eq (by omega) (by omega)]; exact c)]
      unfold fX7_isOwnTurned_18
      have h := m_own_ (N := N) (K := K) hN hf 20 N true (Nat.le_refl _) (by omega)
      rw [Bool.eq_false_iff.mpr e, Bool.and_false] at h
      exact h
    · rw [if_neg (by rw [o_eq (by omega) (by omega)]; exact c)]
      unfold fX7_isOwnTurned_18
      have h := m_own_ (N := N) (K := K) hN hf 20 N false (Nat.le_refl _) (by omega)
      rw [Bool.false_and] at h
      exact h

end MG_60fkindof
section MG_60gkinds
/-! ===== the eight kinds of ways ===== -/
def kindb (w : Nat → Nat) (m : Nat) : Nat → Bool
  | 0 => decide (gr w ≤ m)
  | 1 => decide (wp w = m)
  | 2 => unw w && decide (gr w ≤ m)
  | 3 => odw w && decide (gr w ≤ m)
  | 4 => odw w && (unw w && decide (gr w ≤ m))
  | 5 => unw w && decide (wp w = m)
  | 6 => decide (wp w ≤ m)
  | _ => decide (gr w ≤ m) && eqw w (turnw w)
theorem bi_1 {b : Bool} (h : b = true) : (1 : Int32) = bi b := by rw [h]; rfl
theorem bi_z {b : Bool} (h : b = false) : (0 : Int32) = bi b := by rw [h]; rfl
theorem c_kind {N K : Nat} (hN : 100 ≤ N) {f fs : Nat → Int32} {w : Nat → Nat} (hf : Dk f w) {k m : Nat} (hk : k ≤ 7) (hm : m ≤ 20) : ∃ fs', fX4_isOfKind N K f fs (Int32.ofNat k) (Int32.ofNat m) = some (bi (kindb w m k), fs') := by
  have b1 := hf.1
  have b2 := wp_le (w := w)
  have b3 : gr w ≤ 20 := grf_le 20
  have hk8 : k = 0 ∨ k = 1 ∨ k = 2 ∨ k = 3 ∨ k = 4 ∨ k = 5 ∨ k = 6 ∨ k = 7 := by omega
  rcases hk8 with rfl | rfl | rfl | rfl | rfl | rfl | rfl | rfl
  · unfold fX4_isOfKind
    rw [if_pos (by decide)]
    exact ⟨fs, by rw [c_none hN hf hm, Option.bind_some, if_pos (bi_ok _)]; rfl⟩
  · unfold fX4_isOfKind
    rw [if_neg (by decide), if_pos (by decide)]
    refine ⟨fs, ?_⟩
    rw [c_parts hN hf.2, Option.bind_some]
    by_cases e : wp w = m
    · rw [if_pos (by rw [e])]
      exact congrArg (fun v => some (v, fs)) (bi_1 (by unfold kindb; simp only [decide_eq_true e, Bool.true_and, Bool.and_true]))
    · rw [if_neg (by rw [o_eq (by omega) (by omega)]; exact e)]
      exact congrArg (fun v => some (v, fs)) (bi_z (by unfold kindb; simp only [decide_eq_false e, Bool.true_and, Bool.and_false]))
  · unfold fX4_isOfKind
    rw [if_neg (by decide), if_neg (by decide), if_pos (by decide)]
    cases qunl : unw w with
    | false =>
      refine ⟨fs, ?_⟩
      rw [c_unl hN hf, Option.bind_some, qunl, if_pos bif0]
      exact congrArg (fun v => some (v, fs)) (bi_z (by unfold kindb; simp only [qunl, Bool.false_and, Bool.and_false]))
    | true =>
      rw [c_unl hN hf, Option.bind_some, qunl, if_neg bitn]
      refine ⟨fs, ?_⟩
      rw [c_none hN hf hm, Option.bind_some]
      by_cases e : gr w ≤ m
      · rw [decide_eq_true e, if_neg bitn]
        exact congrArg (fun v => some (v, fs)) (bi_1 (by unfold kindb; simp only [qunl, decide_eq_true e, Bool.true_and, Bool.and_true]))
      · rw [decide_eq_false e, if_pos bif0]
        exact congrArg (fun v => some (v, fs)) (bi_z (by unfold kindb; simp only [qunl, decide_eq_false e, Bool.true_and, Bool.and_false]))
  · unfold fX4_isOfKind
    rw [if_neg (by decide), if_neg (by decide), if_neg (by decide), if_pos (by decide)]
    cases qoddq : odw w with
    | false =>
      refine ⟨fs, ?_⟩
      rw [c_oddq hN hf, Option.bind_some, qoddq, if_pos bif0]
      exact congrArg (fun v => some (v, fs)) (bi_z (by unfold kindb; simp only [qoddq, Bool.false_and, Bool.and_false]))
    | true =>
      rw [c_oddq hN hf, Option.bind_some, qoddq, if_neg bitn]
      refine ⟨fs, ?_⟩
      rw [c_none hN hf hm, Option.bind_some]
      by_cases e : gr w ≤ m
      · rw [decide_eq_true e, if_neg bitn]
        exact congrArg (fun v => some (v, fs)) (bi_1 (by unfold kindb; simp only [qoddq, decide_eq_true e, Bool.true_and, Bool.and_true]))
      · rw [decide_eq_false e, if_pos bif0]
        exact congrArg (fun v => some (v, fs)) (bi_z (by unfold kindb; simp only [qoddq, decide_eq_false e, Bool.true_and, Bool.and_false]))
  · unfold fX4_isOfKind
    rw [if_neg (by decide), if_neg (by decide), if_neg (by decide), if_neg (by decide), if_pos (by decide)]
    cases qoddq : odw w with
    | false =>
      refine ⟨fs, ?_⟩
      rw [c_oddq hN hf, Option.bind_some, qoddq, if_pos bif0]
      exact congrArg (fun v => some (v, fs)) (bi_z (by unfold kindb; simp only [qoddq, Bool.false_and, Bool.and_false]))
    | true =>
      rw [c_oddq hN hf, Option.bind_some, qoddq, if_neg bitn]
      cases qunl : unw w with
      | false =>
        refine ⟨fs, ?_⟩
        rw [c_unl hN hf, Option.bind_some, qunl, if_pos bif0]
        exact congrArg (fun v => some (v, fs)) (bi_z (by unfold kindb; simp only [qoddq, qunl, Bool.false_and, Bool.and_false]))
      | true =>
        rw [c_unl hN hf, Option.bind_some, qunl, if_neg bitn]
        refine ⟨fs, ?_⟩
        rw [c_none hN hf hm, Option.bind_some]
        by_cases e : gr w ≤ m
        · rw [decide_eq_true e, if_neg bitn]
          exact congrArg (fun v => some (v, fs)) (bi_1 (by unfold kindb; simp only [qoddq, qunl, decide_eq_true e, Bool.true_and, Bool.and_true]))
        · rw [decide_eq_false e, if_pos bif0]
          exact congrArg (fun v => some (v, fs)) (bi_z (by unfold kindb; simp only [qoddq, qunl, decide_eq_false e, Bool.true_and, Bool.and_false]))
  · unfold fX4_isOfKind
    rw [if_neg (by decide), if_neg (by decide), if_neg (by decide), if_neg (by decide), if_neg (by decide), if_pos (by decide)]
    cases qunl : unw w with
    | false =>
      refine ⟨fs, ?_⟩
      rw [c_unl hN hf, Option.bind_some, qunl, if_pos bif0]
      exact congrArg (fun v => some (v, fs)) (bi_z (by unfold kindb; simp only [qunl, Bool.false_and, Bool.and_false]))
    | true =>
      rw [c_unl hN hf, Option.bind_some, qunl, if_neg bitn]
      refine ⟨fs, ?_⟩
      rw [c_parts hN hf.2, Option.bind_some]
      by_cases e : wp w = m
      · rw [if_pos (by rw [e])]
        exact congrArg (fun v => some (v, fs)) (bi_1 (by unfold kindb; simp only [qunl, decide_eq_true e, Bool.true_and, Bool.and_true]))
      · rw [if_neg (by rw [o_eq (by omega) (by omega)]; exact e)]
        exact congrArg (fun v => some (v, fs)) (bi_z (by unfold kindb; simp only [qunl, decide_eq_false e, Bool.true_and, Bool.and_false]))
  · unfold fX4_isOfKind
    rw [if_neg (by decide), if_neg (by decide), if_neg (by decide), if_neg (by decide), if_neg (by decide), if_neg (by decide), if_pos (by decide)]
    refine ⟨fs, ?_⟩
    rw [c_parts hN hf.2, Option.bind_some]
    by_cases e : wp w ≤ m
    · rw [if_neg (by rw [o_lt (by omega) (by omega)]; omega)]
      exact congrArg (fun v => some (v, fs)) (bi_1 (by unfold kindb; exact decide_eq_true e))
    · rw [if_pos (by rw [o_lt (by omega) (by omega)]; omega)]
      exact congrArg (fun v => some (v, fs)) (bi_z (by unfold kindb; exact decide_eq_false e))
  · unfold fX4_isOfKind
    rw [if_neg (by decide), if_neg (by decide), if_neg (by decide), if_neg (by decide), if_neg (by decide), if_neg (by decide), if_neg (by decide)]
    rw [c_none hN hf hm, Option.bind_some]
    by_cases e : gr w ≤ m
    · rw [decide_eq_true e, if_neg bitn]
      obtain ⟨g1, e1, e2⟩ := c_turn (N := N) (K := K) hN (f := fs) hf
      refine ⟨g1, ?_⟩
      unfold fX4_isOwnTurned
      rw [e1, Option.bind_some, c_like hN hf e2, Option.bind_some, if_pos (bi_ok _), Option.bind_some]
      cases q : eqw w (turnw w) with
      | false =>
        rw [if_pos bif0]
        exact congrArg (fun v => some (v, g1)) (bi_z (by unfold kindb; simp only [q, Bool.and_false]))
      | true =>
        rw [if_neg bitn]
        exact congrArg (fun v => some (v, g1)) (bi_1 (by unfold kindb; simp only [q, decide_eq_true e, Bool.and_true]))
    · rw [decide_eq_false e, if_pos bif0]
      exact ⟨fs, congrArg (fun v => some (v, fs)) (bi_z (by unfold kindb; simp only [decide_eq_false e, Bool.false_and]))⟩
theorem m_kind {N K : Nat} (hN : 100 ≤ N) {f : Nat → Int32} {w : Nat → Nat} (hf : Dk f w) {k m : Nat} (hk : k ≤ 7) (hm : m ≤ 20) : fX7_isOfKind N K f (Int32.ofNat k) (Int32.ofNat m) = some (bi (kindb w m k)) := by
  have b1 := hf.1
  have b2 := wp_le (w := w)
  have b3 : gr w ≤ 20 := grf_le 20
  have hk8 : k = 0 ∨ k = 1 ∨ k = 2 ∨ k = 3 ∨ k = 4 ∨ k = 5 ∨ k = 6 ∨ k = 7 := by omega
  rcases hk8 with rfl | rfl | rfl | rfl | rfl | rfl | rfl | rfl
  · unfold fX7_isOfKind
    rw [if_pos (by decide)]
    rw [m_gr hN hf, Option.bind_some]
    by_cases e : gr w ≤ m
    · rw [if_neg (by rw [o_lt (by omega) (by omega)]; omega)]
      exact congrArg some (bi_1 (by unfold kindb; simp only [decide_eq_true e, Bool.true_and, Bool.and_true]))
    · rw [if_pos (by rw [o_lt (by omega) (by omega)]; omega)]
      exact congrArg some (bi_z (by unfold kindb; simp only [decide_eq_false e, Bool.true_and, Bool.and_false]))
  · unfold fX7_isOfKind
    rw [if_neg (by decide), if_pos (by decide)]
    rw [m_parts hN hf.2, Option.bind_some]
    by_cases e : wp w = m
    · rw [if_pos (by rw [e])]
      exact congrArg some (bi_1 (by unfold kindb; simp only [decide_eq_true e, Bool.true_and, Bool.and_true]))
    · rw [if_neg (by rw [o_eq (by omega) (by omega)]; exact e)]
      exact congrArg some (bi_z (by unfold kindb; simp only [decide_eq_false e, Bool.true_and, Bool.and_false]))
  · unfold fX7_isOfKind
    rw [if_neg (by decide), if_neg (by decide), if_pos (by decide)]
    cases qunl : unw w with
    | false =>
      rw [m_unl hN hf, Option.bind_some, qunl, if_pos bif0]
      exact congrArg some (bi_z (by unfold kindb; simp only [qunl, Bool.false_and, Bool.and_false]))
    | true =>
      rw [m_unl hN hf, Option.bind_some, qunl, if_neg bitn]
      rw [m_gr hN hf, Option.bind_some]
      by_cases e : gr w ≤ m
      · rw [if_neg (by rw [o_lt (by omega) (by omega)]; omega)]
        exact congrArg some (bi_1 (by unfold kindb; simp only [qunl, decide_eq_true e, Bool.true_and, Bool.and_true]))
      · rw [if_pos (by rw [o_lt (by omega) (by omega)]; omega)]
        exact congrArg some (bi_z (by unfold kindb; simp only [qunl, decide_eq_false e, Bool.true_and, Bool.and_false]))
  · unfold fX7_isOfKind
    rw [if_neg (by decide), if_neg (by decide), if_neg (by decide), if_pos (by decide)]
    cases qoddq : odw w with
    | false =>
      rw [m_oddq hN hf, Option.bind_some, qoddq, if_pos bif0]
      exact congrArg some (bi_z (by unfold kindb; simp only [qoddq, Bool.false_and, Bool.and_false]))
    | true =>
      rw [m_oddq hN hf, Option.bind_some, qoddq, if_neg bitn]
      rw [m_gr hN hf, Option.bind_some]
      by_cases e : gr w ≤ m
      · rw [if_neg (by rw [o_lt (by omega) (by omega)]; omega)]
        exact congrArg some (bi_1 (by unfold kindb; simp only [qoddq, decide_eq_true e, Bool.true_and, Bool.and_true]))
      · rw [if_pos (by rw [o_lt (by omega) (by omega)]; omega)]
        exact congrArg some (bi_z (by unfold kindb; simp only [qoddq, decide_eq_false e, Bool.true_and, Bool.and_false]))
  · unfold fX7_isOfKind
    rw [if_neg (by decide), if_neg (by decide), if_neg (by decide), if_neg (by decide), if_pos (by decide)]
    cases qoddq : odw w with
    | false =>
      rw [m_oddq hN hf, Option.bind_some, qoddq, if_pos bif0]
      exact congrArg some (bi_z (by unfold kindb; simp only [qoddq, Bool.false_and, Bool.and_false]))
    | true =>
      rw [m_oddq hN hf, Option.bind_some, qoddq, if_neg bitn]
      cases qunl : unw w with
      | false =>
        rw [m_unl hN hf, Option.bind_some, qunl, if_pos bif0]
        exact congrArg some (bi_z (by unfold kindb; simp only [qoddq, qunl, Bool.false_and, Bool.and_false]))
      | true =>
        rw [m_unl hN hf, Option.bind_some, qunl, if_neg bitn]
        rw [m_gr hN hf, Option.bind_some]
        by_cases e : gr w ≤ m
        · rw [if_neg (by rw [o_lt (by omega) (by omega)]; omega)]
          exact congrArg some (bi_1 (by unfold kindb; simp only [qoddq, qunl, decide_eq_true e, Bool.true_and, Bool.and_true]))
        · rw [if_pos (by rw [o_lt (by omega) (by omega)]; omega)]
          exact congrArg some (bi_z (by unfold kindb; simp only [qoddq, qunl, decide_eq_false e, Bool.true_and, Bool.and_false]))
  · unfold fX7_isOfKind
    rw [if_neg (by decide), if_neg (by decide), if_neg (by decide), if_neg (by decide), if_neg (by decide), if_pos (by decide)]
    cases qunl : unw w with
    | false =>
      rw [m_unl hN hf, Option.bind_some, qunl, if_pos bif0]
      exact congrArg some (bi_z (by unfold kindb; simp only [qunl, Bool.false_and, Bool.and_false]))
    | true =>
      rw [m_unl hN hf, Option.bind_some, qunl, if_neg bitn]
      rw [m_parts hN hf.2, Option.bind_some]
      by_cases e : wp w = m
      · rw [if_pos (by rw [e])]
        exact congrArg some (bi_1 (by unfold kindb; simp only [qunl, decide_eq_true e, Bool.true_and, Bool.and_true]))
      · rw [if_neg (by rw [o_eq (by omega) (by omega)]; exact e)]
        exact congrArg some (bi_z (by unfold kindb; simp only [qunl, decide_eq_false e, Bool.true_and, Bool.and_false]))
  · unfold fX7_isOfKind
    rw [if_neg (by decide), if_neg (by decide), if_neg (by decide), if_neg (by decide), if_neg (by decide), if_neg (by decide), if_pos (by decide)]
    rw [m_parts hN hf.2, Option.bind_some]
    by_cases e : wp w ≤ m
    · rw [if_neg (by rw [o_lt (by omega) (by omega)]; omega)]
      exact congrArg some (bi_1 (by unfold kindb; exact decide_eq_true e))
    · rw [if_pos (by rw [o_lt (by omega) (by omega)]; omega)]
      exact congrArg some (bi_z (by unfold kindb; exact decide_eq_false e))
  · unfold fX7_isOfKind
    rw [if_neg (by decide), if_neg (by decide), if_neg (by decide), if_neg (by decide), if_neg (by decide), if_neg (by decide), if_neg (by decide)]
    rw [m_gr hN hf, Option.bind_some]
    by_cases e : gr w ≤ m
    · rw [if_neg (by rw [o_lt (by omega) (by omega)]; omega), m_own hN hf, Option.bind_some]
      cases q : eqw w (turnw w) with
      | false =>
        rw [if_pos bif0]
        exact congrArg some (bi_z (by unfold kindb; simp only [q, Bool.and_false]))
      | true =>
        rw [if_neg bitn]
        exact congrArg some (bi_1 (by unfold kindb; simp only [q, decide_eq_true e, Bool.and_true]))
    · rw [if_pos (by rw [o_lt (by omega) (by omega)]; omega)]
      exact congrArg some (bi_z (by unfold kindb; simp only [decide_eq_false e, Bool.false_and]))

end MG_60gkinds
section MG_60hwalk
/-! ===== the ways one by one ===== -/
/-- a weight for each part: every step on takes at least 1 -/
def cw : Nat → Nat
  | 2 => 1 | 3 => 11 | 4 => 68 | 5 => 341 | 6 => 1365 | 7 => 4097 | 8 => 9560 | 9 => 19189 | 10 => 38380 | 11 => 76761 | 12 => 95951 | 13 => 105512 | 14 => 109610 | 15 => 110976 | 16 => 111318 | 17 => 111387 | 18 => 111399 | 19 => 111401 | 20 => 111402
  | _ => 0
theorem cw_ok : ∀ p, p < 21 → ∀ s, s < 21 → (2 ≤ p ∧ p ≤ s) → s / (p - 1) * cw (p - 1) + cw (s % (p - 1)) + 1 ≤ cw p := by decide +kernel
theorem cw_le : ∀ p, p < 21 → cw p ≤ 111402 := by decide +kernel
def nuw (w : Nat → Nat) : Nat := sm (fun p => w p * cw p) 20
theorem nu_upm {w : Nat → Nat} {p v : Nat} (h1 : 1 ≤ p) (h2 : p ≤ 20) : nuw (upm w p v) + w p * cw p = nuw w + v * cw p := by
  unfold nuw
  rw [show (fun q => upm w p v q * cw q) = upm (fun q => w q * cw q) p (v * cw p) from by
    funext q
    unfold upm
    by_cases e : q = p
    · rw [if_pos e, if_pos e, e]
    · rw [if_neg e, if_neg e]]
  exact sm_upm (g := fun q => w q * cw q) h1 h2
theorem nu_step {w : Nat → Nat} (hw : wn w ≤ 20) (h : ¬ lst w = 0) : nuw (stw w (lst w)) + 1 ≤ nuw w := by
  rcases lst_is w with e | ⟨h2, h3, h1⟩
  · exact absurd e h
  · generalize lst w = p at *
    have hs : p + w 1 ≤ 20 := by
      have a := wn_stg h2 h3 h1
      omega
    have ck := cw_ok p (by omega) (p + w 1) (by omega) ⟨h2, by omega⟩
    obtain ⟨v, hv⟩ : ∃ v, w p = v + 1 := ⟨w p - 1, by omega⟩
    have a := nu_upm (w := w) (p := p) (v := v) (by omega) h3
    have b := nu_upm (w := upm w p v) (p := 1) (v := 0) (by omega) (by omega)
    rw [hv, Nat.add_mul] at a
    have c1 : cw 1 = 0 := rfl
    rw [c1] at b
    have hst : stg w p = upm (upm w p v) 1 0 := by unfold stg; rw [hv, show v + 1 - 1 = v from by omega]
    rw [← hst] at b
    have d := nu_upm (w := stg w p) (p := p - 1) (v := stg w p (p - 1) + (p + w 1) / (p - 1)) (by omega) (by omega)
    rw [Nat.add_mul] at d
    have lt : (p + w 1) % (p - 1) < p - 1 := Nat.mod_lt _ (by omega)
    unfold stw
    by_cases e : (p + w 1) % (p - 1) = 0
    · simp only [e, if_true]
      omega
    · simp only [e, if_false]
      have f := nu_upm (w := upm (stg w p) (p - 1) (stg w p (p - 1) + (p + w 1) / (p - 1))) (p := (p + w 1) % (p - 1)) (v := upm (stg w p) (p - 1) (stg w p (p - 1) + (p + w 1) / (p - 1)) ((p + w 1) % (p - 1)) + 1) (by omega) (by omega)
      rw [Nat.add_mul] at f
      omega
theorem nu_first {n : Nat} (h : n ≤ 20) : nuw (firstw n) ≤ 111402 := by
  unfold firstw
  have z : nuw (fun _ => 0) = 0 := by decide
  by_cases e : n = 0
  · rw [if_pos e, z]; omega
  · rw [if_neg e]
    have a := nu_upm (w := fun _ => 0) (p := n) (v := 1) (by omega) h
    have b := cw_le n (by omega)
    rw [z] at a
    omega
theorem m_bit {N K : Nat} {b : Bool} : fX7_bit N K (bi b) = some (bi b) := by
  unfold fX7_bit
  cases b
  · rw [if_pos bif0]; rfl
  · rw [if_neg bitn]; rfl
theorem bi_add {v : Int32} {b : Bool} {n : Nat} (h0 : 0 ≤ v.toInt) (h1 : v.toInt ≤ (n : Int)) (hn : n < 2000000000) : 0 ≤ (v + bi b).toInt ∧ (v + bi b).toInt ≤ (n : Int) + 1 := by
  have q : 0 ≤ (bi b).toInt ∧ (bi b).toInt ≤ 1 := by cases b <;> decide
  rw [addI (by omega) (by omega)]
  omega
theorem walk_ {N K : Nat} (hN : 100 ≤ N) {fw0 fs0 : Nat → Int32} {p1 : Int32} {k m : Nat} (hk : k ≤ 7) (hm : m ≤ 20) : ∀ n w (l4 : Int32) (l5 fx fy : Nat) (fw fs e : Nat → Int32), nuw w ≤ n → Dk fw w → Dk e w → l5 + nuw w < 1000000 → n < fx → n < fy → 0 ≤ l4.toInt → l4.toInt ≤ (l5 : Int) → ∃ v fw' fs', fX5_waysOneByOne_14 N K fw0 fs0 (Int32.ofNat k) p1 (Int32.ofNat m) fx l4 (Int32.ofNat l5) fw fs = some (v, fw', fs') ∧ fX7_walked_8 N K (Int32.ofNat k) p1 (Int32.ofNat m) fy l4 e = some v ∧ 0 ≤ v.toInt ∧ v.toInt ≤ ((l5 + nuw w + 1 : Nat) : Int) := by
  intro n
  induction n with
  | zero =>
    intro w l4 l5 fx fy fw fs e hn hw he hb h1 h2 hl0 hl1
    obtain ⟨fx, rfl⟩ : ∃ m, fx = m + 1 := ⟨fx - 1, by omega⟩
    obtain ⟨fy, rfl⟩ : ∃ m, fy = m + 1 := ⟨fy - 1, by omega⟩
    obtain ⟨fs', a1⟩ := c_kind (N := N) (K := K) hN (fs := fs) hw hk hm
    obtain ⟨g1, b1, b2⟩ := c_step (N := N) (K := K) hN hw
    obtain ⟨g2, d1, d2⟩ := m_step (N := N) (K := K) hN he
    have hl : lst w = 0 := by
      by_cases z : lst w = 0
      · exact z
      · have := nu_step hw.1 z
        omega
    rw [if_pos hl] at b1 d1
    have hbi := bi_add (v := l4) (b := kindb w m k) (n := l5) hl0 hl1 (by omega)
    refine ⟨l4 + bi (kindb w m k), g1, fs', ?_, ?_, hbi.1, by omega⟩
    · unfold fX5_waysOneByOne_14
      rw [if_neg (by rw [show (1000000 : Int32) = Int32.ofNat 1000000 from rfl, o_le (by omega) (by omega)]; omega), a1, Option.bind_some]
      cases kindb w m k with
      | false =>
        rw [if_pos bif0]
        unfold fX5_waysOneByOne_41
        rw [b1, Option.bind_some, if_pos rfl, show l4 + bi false = l4 from Int32.add_zero l4]
      | true =>
        rw [if_neg bitn]
        unfold fX5_waysOneByOne_41
        rw [b1, Option.bind_some, if_pos rfl]
        rfl
    · unfold fX7_walked_8
      rw [m_kind hN he hk hm, Option.bind_some, m_bit, Option.bind_some, d1, Option.bind_some, if_pos rfl]
  | succ n ih =>
    intro w l4 l5 fx fy fw fs e hn hw he hb h1 h2 hl0 hl1
    obtain ⟨fx, rfl⟩ : ∃ m, fx = m + 1 := ⟨fx - 1, by omega⟩
    obtain ⟨fy, rfl⟩ : ∃ m, fy = m + 1 := ⟨fy - 1, by omega⟩
    obtain ⟨fs', a1⟩ := c_kind (N := N) (K := K) hN (fs := fs) hw hk hm
    obtain ⟨g1, b1, b2⟩ := c_step (N := N) (K := K) hN hw
    obtain ⟨g2, d1, d2⟩ := m_step (N := N) (K := K) hN he
    have hx : fX5_waysOneByOne_14 N K fw0 fs0 (Int32.ofNat k) p1 (Int32.ofNat m) (fx + 1) l4 (Int32.ofNat l5) fw fs = fX5_waysOneByOne_41 N K fw0 fs0 (Int32.ofNat k) p1 (Int32.ofNat m) (fX5_waysOneByOne_14 N K fw0 fs0 (Int32.ofNat k) p1 (Int32.ofNat m) fx) (l4 + bi (kindb w m k)) (Int32.ofNat l5) fw fs' := by
      conv => lhs; unfold fX5_waysOneByOne_14
      rw [if_neg (by rw [show (1000000 : Int32) = Int32.ofNat 1000000 from rfl, o_le (by omega) (by omega)]; omega), a1, Option.bind_some]
      cases kindb w m k with
      | false => rw [if_pos bif0, show l4 + bi false = l4 from Int32.add_zero l4]
      | true => rw [if_neg bitn]; rfl
    have hy : fX7_walked_8 N K (Int32.ofNat k) p1 (Int32.ofNat m) (fy + 1) l4 e = ((fX7_isNext N K e).bind (fun x23 => (if x23.1 = 0 then (some (l4 + bi (kindb w m k))) else fX7_walked_8 N K (Int32.ofNat k) p1 (Int32.ofNat m) fy (l4 + bi (kindb w m k)) x23.2))) := by
      conv => lhs; unfold fX7_walked_8
      rw [m_kind hN he hk hm, Option.bind_some, m_bit, Option.bind_some]
    rw [hx, hy]
    unfold fX5_waysOneByOne_41
    rw [b1, d1, Option.bind_some, Option.bind_some]
    have hbi := bi_add (v := l4) (b := kindb w m k) (n := l5) hl0 hl1 (by omega)
    by_cases hl : lst w = 0
    · rw [if_pos hl]
      exact ⟨_, _, _, by rw [if_pos rfl], by rw [if_pos rfl], hbi.1, by omega⟩
    · have st := nu_step hw.1 hl
      rw [if_neg hl] at b2 d2
      rw [if_neg hl]
      obtain ⟨v, fw', fs2, r1, r2, r3, r4⟩ := ih (stw w (lst w)) (l4 + bi (kindb w m k)) (l5 + 1) fx fy g1 fs' g2 (by omega) b2 d2 (by omega) (by omega) (by omega) hbi.1 (by omega)
      refine ⟨v, fw', fs2, ?_, ?_, r3, by omega⟩
      · rw [if_neg (show ¬ ((1 : Int32) = 0) from by decide), o_1]; exact r1
      · rw [if_neg (show ¬ ((1 : Int32) = 0) from by decide)]; exact r2
theorem walk_n {N K : Nat} (hN : NBig N) {fw fs : Nat → Int32} {k n m : Nat} (hk : k ≤ 7) (hn : n ≤ 20) (hm : m ≤ 20) : ∃ v fw' fs', fX5_waysOneByOne N K fw fs (Int32.ofNat k) (Int32.ofNat n) (Int32.ofNat m) = some (v, fw', fs') ∧ fX7_walked N K (Int32.ofNat k) (Int32.ofNat n) (Int32.ofNat m) = some v ∧ 0 ≤ v.toInt ∧ v.toInt ≤ 111403 := by
  have hN9 := hN.u
  have hN1 : 100 ≤ N := by omega
  obtain ⟨g1, a1, a2⟩ := c_first (N := N) (K := K) hN1 (f := fw) hn
  obtain ⟨g2, b1, b2⟩ := m_first (N := N) (K := K) hn
  have hv := nu_first hn
  unfold fX5_waysOneByOne fX7_walked
  rw [a1, b1, Option.bind_some, Option.bind_some]
  obtain ⟨v, fw', fs', e1, e2, e3, e4⟩ := walk_ (fw0 := fw) (fs0 := fs) (p1 := Int32.ofNat n) hN1 hk hm (nuw (firstw n)) (firstw n) 0 0 N N g1 fs g2 (Nat.le_refl _) a2 b2 (by omega) (by omega) (by omega) (by decide) (by decide)
  exact ⟨v, fw', fs', e1, e2, e3, by omega⟩
theorem ty_walk {N K : Nat} {th : Int32} {fw fs : Nat → Int32} {p0 p1 p2 : Int32} (hN : NBig N) (hK : 100 ≤ K) : ∃ o y, fX5_walk N K fw fs p0 p1 p2 = some o ∧ fX7_walk N K th p0 p1 p2 = some y ∧ Tj o y.2 (fun z => z.1 = y.1) := by
  by_cases h : Rg p0 0 7 ∧ Rg p1 0 20 ∧ Rg p2 0 20
  · obtain ⟨h0, h1, h2⟩ := h
    have a1 := k_any1 (N := N) (K := K) h0 h1 h2
    have b0 := m_in (N := N) (K := K) h0
    have b1 := m_in (N := N) (K := K) h1
    have b2 := m_in (N := N) (K := K) h2
    obtain ⟨k, rfl, -, k2⟩ := Rg.n (a := 0) (b := 7) h0 (by omega) (by omega)
    obtain ⟨n, rfl, -, n2⟩ := Rg.n (a := 0) (b := 20) h1 (by omega) (by omega)
    obtain ⟨m, rfl, -, m2⟩ := Rg.n (a := 0) (b := 20) h2 (by omega) (by omega)
    obtain ⟨v, fw', fs', e1, e2, -, -⟩ := walk_n (N := N) (K := K) hN (fw := fw) (fs := fs) k2 n2 m2
    refine ⟨.inl (v, fw', fs'), (v, 0), ?_, ?_, rfl, rfl⟩
    · unfold fX5_walk
      rw [a1, xb_l, e1, Option.bind_some]
    · unfold fX7_walk
      rw [b0, Option.bind_some, if_pos rfl, b1, Option.bind_some, if_pos rfl, b2, Option.bind_some, if_pos rfl]
      unfold fX7_walk_36
      rw [m_th00, Option.bind_some, if_pos rfl, e2, Option.bind_some]
  · refine ⟨.inr "java/lang/IllegalArgumentException", (0, 1), ?_, ?_, rfl, rfl⟩
    · unfold fX5_walk
      rw [k_any0 h, xb_r]
    · have last : fX7_walk_31 N K th p0 p1 p2 th = some (0, 1) := by
        unfold fX7_walk_31 fX7_walk_36
        rw [m_th1, Option.bind_some, if_neg (by decide)]
      unfold fX7_walk
      by_cases h0 : Rg p0 0 7
      · rw [m_in h0, Option.bind_some, if_pos rfl]
        by_cases h1 : Rg p1 0 20
        · have h2 : ¬ Rg p2 0 20 := fun z => h ⟨h0, h1, z⟩
          rw [m_in h1, Option.bind_some, if_pos rfl, m_out h2, Option.bind_some, if_neg (by decide), last]
        · rw [m_out h1, Option.bind_some, if_neg (by decide), last]
      · rw [m_out h0, Option.bind_some, if_neg (by decide), last]

end MG_60hwalk
section MG_60iproduct
/-! ===== the series ===== -/
/-- n steps of taking a part often, from the place i on -/
def ofn (j : Nat) : Nat → Nat → (Nat → Int32) → Nat → Int32
  | 0, _, g => g
  | n + 1, i, g => ofn j n (i + 1) (upd g i (g i + g (i - j)))
/-- n steps of taking a part once, from the place j + n - 1 down -/
def onc (j : Nat) : Nat → (Nat → Int32) → Nat → Int32
  | 0, g => g
  | n + 1, g => onc j n (upd g (j + n) (g (j + n) + g n))
/-- alike at the places up to 20 -/
def E21 (g h : Nat → Int32) : Prop := ∀ p, p < 21 → g p = h p
theorem E21.u {g h : Nat → Int32} {k : Nat} {v : Int32} (e : E21 g h) : E21 (upd g k v) (upd h k v) := by
  intro p hp
  unfold upd
  by_cases c : p = k
  · rw [if_pos c, if_pos c]
  · rw [if_neg c, if_neg c]; exact e p hp
theorem E21.o {j : Nat} : ∀ n i (g h : Nat → Int32), i + n ≤ 21 → E21 g h → E21 (ofn j n i g) (ofn j n i h) := by
  intro n
  induction n with
  | zero => intro i g h _ e; exact e
  | succ n ih =>
    intro i g h hi e
    show E21 (ofn j n (i + 1) (upd g i (g i + g (i - j)))) (ofn j n (i + 1) (upd h i (h i + h (i - j))))
    rw [e i (by omega), e (i - j) (by omega)]
    exact ih (i + 1) _ _ (by omega) e.u
theorem E21.n {j : Nat} : ∀ n (g h : Nat → Int32), j + n ≤ 21 → E21 g h → E21 (onc j n g) (onc j n h) := by
  intro n
  induction n with
  | zero => intro g h _ e; exact e
  | succ n ih =>
    intro g h hi e
    show E21 (onc j n (upd g (j + n) (g (j + n) + g n))) (onc j n (upd h (j + n) (h (j + n) + h n)))
    rw [e (j + n) (by omega), e n (by omega)]
    exact ih _ _ (by omega) e.u
theorem o_sub {a b : Nat} (h : b ≤ a) : Int32.ofNat a - Int32.ofNat b = Int32.ofNat (a - b) := by
  obtain ⟨c, rfl⟩ : ∃ c, a = c + b := ⟨a - b, by omega⟩
  rw [← o_add, Int32.add_sub_cancel, show c + b - b = c from by omega]
theorem c_often_ {N K : Nat} {g0 : Nat → Int32} {p0 : Int32} {j : Nat} (h : p0 = Int32.ofNat j) : ∀ n i fu (g : Nat → Int32), i + n = 21 → j ≤ i → n < fu → fX3_takeOften_8 N K g0 p0 fu (Int32.ofNat i) g = some (ofn j n i g) := by
  subst h
  intro n
  induction n with
  | zero =>
    intro i fu g hi hj hfu
    obtain ⟨fu, rfl⟩ : ∃ m, fu = m + 1 := ⟨fu - 1, by omega⟩
    obtain rfl : i = 21 := by omega
    unfold fX3_takeOften_8
    rw [if_pos (by decide)]
    rfl
  | succ n ih =>
    intro i fu g hi hj hfu
    obtain ⟨fu, rfl⟩ : ∃ m, fu = m + 1 := ⟨fu - 1, by omega⟩
    unfold fX3_takeOften_8
    rw [if_neg (by rw [show (21 : Int32) = Int32.ofNat 21 from rfl, o_le (by omega) (by omega)]; omega), if_neg (o_ob (by omega) (by omega)), o_sub hj, if_neg (o_ob (by omega) (by omega)), if_neg (o_ob (by omega) (by omega)), o_c (by omega), o_c (by omega), o_1]
    exact ih (i + 1) fu _ (by omega) (by omega) (by omega)
theorem c_often {N K : Nat} (hN : 100 ≤ N) {g : Nat → Int32} {j : Nat} (h1 : 1 ≤ j) (h2 : j ≤ 20) : fX3_takeOften N K g (Int32.ofNat j) = some (ofn j (21 - j) j g) := by
  unfold fX3_takeOften
  rw [if_pos (by rw [show (1 : Int32) = Int32.ofNat 1 from rfl, o_le (by omega) (by omega)]; exact h1)]
  exact c_often_ rfl (21 - j) j N g (by omega) (Nat.le_refl _) (by omega)
theorem c_once_ {N K : Nat} {g0 : Nat → Int32} {p0 : Int32} {j : Nat} (h : p0 = Int32.ofNat j) (hj : 1 ≤ j) : ∀ n fu (g : Nat → Int32), j + n ≤ 21 → n < fu → fX3_takeOnce_14 N K g0 p0 fu (Int32.ofNat (j + n - 1)) g = some (onc j n g) := by
  subst h
  intro n
  induction n with
  | zero =>
    intro fu g hi hfu
    obtain ⟨fu, rfl⟩ : ∃ m, fu = m + 1 := ⟨fu - 1, by omega⟩
    unfold fX3_takeOnce_14
    rw [if_pos (by rw [o_lt (by omega) (by omega)]; omega)]
    rfl
  | succ n ih =>
    intro fu g hi hfu
    obtain ⟨fu, rfl⟩ : ∃ m, fu = m + 1 := ⟨fu - 1, by omega⟩
    obtain ⟨i, rfl⟩ : ∃ i, j = i + 1 := ⟨j - 1, by omega⟩
    rw [show i + 1 + (n + 1) - 1 = i + n + 1 from by omega]
    have h2 := ih fu (upd g (i + 1 + n) (g (i + 1 + n) + g n)) (by omega) (by omega)
    rw [show i + 1 + n - 1 = i + n from by omega] at h2
    unfold fX3_takeOnce_14
    rw [if_neg (by rw [o_lt (by omega) (by omega)]; omega), if_neg (o_ob (by omega) (by omega)), o_sub (by omega), if_neg (o_ob (by omega) (by omega)), if_neg (o_ob (by omega) (by omega)), o_c (by omega), o_c (by omega), o_m1, show i + n + 1 - (i + 1) = n from by omega, show i + n + 1 = i + 1 + n from by omega]
    exact h2
theorem c_once {N K : Nat} (hN : 100 ≤ N) {g : Nat → Int32} {j : Nat} (h1 : 1 ≤ j) (h2 : j ≤ 20) : fX3_takeOnce N K g (Int32.ofNat j) = some (onc j (21 - j) g) := by
  unfold fX3_takeOnce
  rw [if_pos (by rw [show (1 : Int32) = Int32.ofNat 1 from rfl, o_le (by omega) (by omega)]; exact h1), show (21 : Int32) - (1 : Int32) = Int32.ofNat 20 from by decide]
  have h := c_once_ (N := N) (K := K) (g0 := g) (p0 := Int32.ofNat j) (j := j) rfl h1 (21 - j) N g (by omega) (by omega)
  rw [show j + (21 - j) - 1 = 20 from by omega] at h
  exact h
/-- one part taken: often or once -/
def tk (once : Bool) (j : Nat) (g : Nat → Int32) : Nat → Int32 := if once = true then onc j (21 - j) g else ofn j (21 - j) j g
theorem E21.t {once : Bool} {j : Nat} {g h : Nat → Int32} (h2 : j ≤ 20) (e : E21 g h) : E21 (tk once j g) (tk once j h) := by
  unfold tk
  cases once
  · rw [if_neg (by decide), if_neg (by decide)]; exact E21.o _ _ _ _ (by omega) e
  · rw [if_pos rfl, if_pos rfl]; exact E21.n _ _ _ (by omega) e
/-- the parts j, j + 1 .. taken, n of them -/
def rk (odd once : Bool) : Nat → Nat → (Nat → Int32) → Nat → Int32
  | 0, _, g => g
  | n + 1, j, g => rk odd once n (j + 1) (if odd = true ∧ j % 2 = 0 then g else tk once j g)
theorem E21.r {odd once : Bool} : ∀ n j (g h : Nat → Int32), j + n ≤ 21 → E21 g h → E21 (rk odd once n j g) (rk odd once n j h) := by
  intro n
  induction n with
  | zero => intro j g h _ e; exact e
  | succ n ih =>
    intro j g h hj e
    show E21 (rk odd once n (j + 1) (if odd = true ∧ j % 2 = 0 then g else tk once j g)) (rk odd once n (j + 1) (if odd = true ∧ j % 2 = 0 then h else tk once j h))
    by_cases c : odd = true ∧ j % 2 = 0
    · rw [if_pos c, if_pos c]; exact ih (j + 1) _ _ (by omega) e
    · rw [if_neg c, if_neg c]; exact ih (j + 1) _ _ (by omega) (e.t (by omega))
theorem o_par {j : Nat} (h : j < 2147483648) : (Int32.ofNat j % (2 : Int32) = 0) = (j % 2 = 0) := by
  rw [show (2 : Int32) = Int32.ofNat 2 from rfl, o_mod h (by omega), show (0 : Int32) = Int32.ofNat 0 from rfl]
  exact o_eq (by have := Nat.mod_lt j (y := 2) (by omega); omega) (by omega)
/-- how many parts up to the last -/
def lastn (last : Nat) : Nat := if last < 20 then last else 20
theorem c_rk_ {N K : Nat} (hN : 100 ≤ N) {g0 : Nat → Int32} {p0 p1 : Int32} {odd once : Bool} {last : Nat} (hl : last ≤ 40) : ∀ n j fu (g : Nat → Int32), j + n = lastn last + 1 → 1 ≤ j → n < fu → fX3_reckon_80 N K g0 p0 p1 fu (Int32.ofNat last) (bi odd) (bi once) (Int32.ofNat j) g = some (rk odd once n j g) := by
  have hll : lastn last ≤ 20 ∧ lastn last ≤ last ∧ (lastn last = last ∨ lastn last = 20) := by
    unfold lastn
    by_cases e : last < 20
    · rw [if_pos e]; omega
    · rw [if_neg e]; omega
  intro n
  induction n with
  | zero =>
    intro j fu g hj h1 hfu
    obtain ⟨fu, rfl⟩ : ∃ m, fu = m + 1 := ⟨fu - 1, by omega⟩
    unfold fX3_reckon_80
    by_cases e : last < j
    · rw [if_pos (by rw [o_lt (by omega) (by omega)]; exact e)]
      rfl
    · rw [if_neg (by rw [o_lt (by omega) (by omega)]; exact e), if_pos (by rw [show (20 : Int32) = Int32.ofNat 20 from rfl, o_lt (by omega) (by omega)]; omega)]
      rfl
  | succ n ih =>
    intro j fu g hj h1 hfu
    obtain ⟨fu, rfl⟩ : ∃ m, fu = m + 1 := ⟨fu - 1, by omega⟩
    have h128 : ∀ g', fX3_reckon_128 N K g0 p0 p1 (fX3_reckon_80 N K g0 p0 p1 fu) (Int32.ofNat last) (bi odd) (bi once) (Int32.ofNat j) g' = some (rk odd once n (j + 1) g') := by
      intro g'
      unfold fX3_reckon_128
      rw [o_1]
      exact ih (j + 1) fu g' (by omega) (by omega) (by omega)
    have h108 : fX3_reckon_108 N K g0 p0 p1 (fX3_reckon_80 N K g0 p0 p1 fu) (Int32.ofNat last) (bi odd) (bi once) (Int32.ofNat j) g = some (rk odd once n (j + 1) (tk once j g)) := by
      unfold fX3_reckon_108 tk
      cases once
      · rw [if_pos bif0, if_neg (by decide), c_often hN h1 (by omega), Option.bind_some]
        exact h128 _
      · rw [if_neg bitn, if_pos rfl, c_once hN h1 (by omega), Option.bind_some]
        exact h128 _
    unfold fX3_reckon_80
    rw [if_neg (by rw [o_lt (by omega) (by omega)]; omega), if_neg (n_20 (by omega))]
    show (if bi odd = 0 then _ else _) = some (rk odd once n (j + 1) (if odd = true ∧ j % 2 = 0 then g else tk once j g))
    cases odd
    · rw [if_pos bif0, if_neg (fun z => absurd z.1 (by decide))]
      exact h108
    · rw [if_neg bitn]
      by_cases e : j % 2 = 0
      · rw [if_pos (by rw [o_par (by omega)]; exact e), if_pos ⟨rfl, e⟩]
        exact h128 g
      · rw [if_neg (by rw [o_par (by omega)]; exact e), if_neg (fun z => e z.2)]
        exact h108
theorem m_row_ {N K : Nat} {p0 p1 : Int32} {k74 : Int32 → Int32 → Int32 → Int32 → (Nat → Int32) → Option ((Nat → Int32))} {l3 l4 : Int32} {j : Nat} (h1 : 1 ≤ j) (h2 : j ≤ 20) : ∀ n fu (g : Nat → Int32), j + n ≤ 21 → n < fu → fX7_row_106 N K p0 p1 k74 fu l3 l4 (bi false) (Int32.ofNat j) (Int32.ofNat (21 - n)) g = fX7_row_153 N K p0 p1 k74 l3 l4 (bi false) (Int32.ofNat j) (ofn j n (21 - n) g) := by
  intro n
  induction n with
  | zero =>
    intro fu g hi hfu
    obtain ⟨fu, rfl⟩ : ∃ m, fu = m + 1 := ⟨fu - 1, by omega⟩
    unfold fX7_row_106
    rw [if_pos (by decide)]
    rfl
  | succ n ih =>
    intro fu g hi hfu
    obtain ⟨fu, rfl⟩ : ∃ m, fu = m + 1 := ⟨fu - 1, by omega⟩
    unfold fX7_row_106
    rw [if_neg (n_20 (by omega)), if_pos bif0]
    unfold fX7_row_131
    rw [if_neg (o_ob (by omega) (by omega)), o_sub (by omega), if_neg (o_ob (by omega) (by omega)), if_neg (o_ob (by omega) (by omega)), o_c (by omega), o_c (by omega), o_1, show 21 - (n + 1) + 1 = 21 - n from by omega, ih fu _ (by omega) (by omega)]
    show _ = fX7_row_153 N K p0 p1 k74 l3 l4 (bi false) (Int32.ofNat j) (ofn j n (21 - (n + 1) + 1) (upd g (21 - (n + 1)) (g (21 - (n + 1)) + g (21 - (n + 1) - j))))
    rw [show 21 - (n + 1) + 1 = 21 - n from by omega]
theorem m_row1_ {N K : Nat} {p0 p1 : Int32} {k74 : Int32 → Int32 → Int32 → Int32 → (Nat → Int32) → Option ((Nat → Int32))} {l3 l4 : Int32} {j : Nat} (h1 : 1 ≤ j) (h2 : j ≤ 20) : ∀ n fu (g : Nat → Int32), j + n ≤ 21 → n < fu → fX7_row_106 N K p0 p1 k74 fu l3 l4 (bi true) (Int32.ofNat j) (Int32.ofNat (21 - n)) g = fX7_row_153 N K p0 p1 k74 l3 l4 (bi true) (Int32.ofNat j) (onc j n g) := by
  intro n
  induction n with
  | zero =>
    intro fu g hi hfu
    obtain ⟨fu, rfl⟩ : ∃ m, fu = m + 1 := ⟨fu - 1, by omega⟩
    unfold fX7_row_106
    rw [if_pos (by decide)]
    rfl
  | succ n ih =>
    intro fu g hi hfu
    obtain ⟨fu, rfl⟩ : ∃ m, fu = m + 1 := ⟨fu - 1, by omega⟩
    unfold fX7_row_106
    rw [if_neg (n_20 (by omega)), if_neg bitn, show (20 : Int32) = Int32.ofNat 20 from rfl, o_add, o_sub (by omega), show 20 + j - (21 - (n + 1)) = j + n from by omega]
    unfold fX7_row_131
    rw [if_neg (o_ob (by omega) (by omega)), o_sub (by omega), if_neg (o_ob (by omega) (by omega)), if_neg (o_ob (by omega) (by omega)), o_c (by omega), o_c (by omega), o_1, show 21 - (n + 1) + 1 = 21 - n from by omega, show j + n - j = n from by omega, ih fu _ (by omega) (by omega)]
    rfl
theorem m_rk_ {N K : Nat} (hN : 100 ≤ N) {p0 p1 : Int32} {odd once : Bool} {last : Nat} (hl : last ≤ 40) : ∀ n j fu (g : Nat → Int32), j + n = lastn last + 1 → 1 ≤ j → n < fu → fX7_row_74 N K p0 p1 fu (Int32.ofNat last) (bi odd) (bi once) (Int32.ofNat j) g = some (rk odd once n j g) := by
  have hll : lastn last ≤ 20 ∧ lastn last ≤ last ∧ (lastn last = last ∨ lastn last = 20) := by
    unfold lastn
    by_cases e : last < 20
    · rw [if_pos e]; omega
    · rw [if_neg e]; omega
  intro n
  induction n with
  | zero =>
    intro j fu g hj h1 hfu
    obtain ⟨fu, rfl⟩ : ∃ m, fu = m + 1 := ⟨fu - 1, by omega⟩
    unfold fX7_row_74
    by_cases e : last < j
    · rw [if_pos (by rw [o_lt (by omega) (by omega)]; exact e)]
      rfl
    · rw [if_neg (by rw [o_lt (by omega) (by omega)]; exact e), if_pos (by rw [show (20 : Int32) = Int32.ofNat 20 from rfl, o_lt (by omega) (by omega)]; omega)]
      rfl
  | succ n ih =>
    intro j fu g hj h1 hfu
    obtain ⟨fu, rfl⟩ : ∃ m, fu = m + 1 := ⟨fu - 1, by omega⟩
    have h153 : ∀ g', fX7_row_153 N K p0 p1 (fX7_row_74 N K p0 p1 fu) (Int32.ofNat last) (bi odd) (bi once) (Int32.ofNat j) g' = some (rk odd once n (j + 1) g') := by
      intro g'
      unfold fX7_row_153
      rw [o_1]
      exact ih (j + 1) fu g' (by omega) (by omega) (by omega)
    have h102 : fX7_row_102 N K p0 p1 (fX7_row_74 N K p0 p1 fu) (Int32.ofNat last) (bi odd) (bi once) (Int32.ofNat j) g = some (rk odd once n (j + 1) (tk once j g)) := by
      unfold fX7_row_102 tk
      cases once
      · rw [if_neg (by decide)]
        have h := m_row_ (N := N) (K := K) (p0 := p0) (p1 := p1) (k74 := fX7_row_74 N K p0 p1 fu) (l3 := Int32.ofNat last) (l4 := bi odd) h1 (by omega) (21 - j) N g (by omega) (by omega)
        rw [show 21 - (21 - j) = j from by omega] at h
        exact h.trans (h153 _)
      · rw [if_pos rfl]
        have h := m_row1_ (N := N) (K := K) (p0 := p0) (p1 := p1) (k74 := fX7_row_74 N K p0 p1 fu) (l3 := Int32.ofNat last) (l4 := bi odd) h1 (by omega) (21 - j) N g (by omega) (by omega)
        rw [show 21 - (21 - j) = j from by omega] at h
        exact h.trans (h153 _)
    unfold fX7_row_74
    rw [if_neg (by rw [o_lt (by omega) (by omega)]; omega), if_neg (n_20 (by omega))]
    show (if bi odd = 0 then _ else _) = some (rk odd once n (j + 1) (if odd = true ∧ j % 2 = 0 then g else tk once j g))
    cases odd
    · rw [if_pos bif0, if_neg (fun z => absurd z.1 (by decide))]
      exact h102
    · rw [if_neg bitn]
      by_cases e : j % 2 = 0
      · rw [if_pos (by rw [o_par (by omega)]; exact e), if_pos ⟨rfl, e⟩]
        exact h153 g
      · rw [if_neg (by rw [o_par (by omega)]; exact e), if_neg (fun z => e z.2)]
        exact h102
/-- the series' row of a kind and a measure -/
def kOdd (k : Nat) : Bool := decide (k = 3 ∨ k = 4 ∨ k = 7)
def kOnce (k : Nat) : Bool := decide (k = 2 ∨ k = 4 ∨ k = 7)
def kLast (k m : Nat) : Nat := if k = 7 then 2 * m - 1 else m
def rowk (k m : Nat) : Nat → Int32 := rk (kOdd k) (kOnce k) (lastn (kLast k m)) 1 (upd (fun _ => 0) 0 1)
-- kind by kind
theorem c_reckon_ {N K : Nat} (hN : 100 ≤ N) {g0 g : Nat → Int32} {k m : Nat} (hk : k ≤ 7) (hm : m ≤ 20) : (if (Int32.ofNat k) = (7 : Int32) then fX3_reckon_30 N K g0 (Int32.ofNat k) (Int32.ofNat m) (((2 : Int32) * (Int32.ofNat m)) - (1 : Int32)) g else fX3_reckon_30 N K g0 (Int32.ofNat k) (Int32.ofNat m) (Int32.ofNat m) g) = some (rk (kOdd k) (kOnce k) (lastn (kLast k m)) 1 g) := by
  have hk8 : k = 0 ∨ k = 1 ∨ k = 2 ∨ k = 3 ∨ k = 4 ∨ k = 5 ∨ k = 6 ∨ k = 7 := by omega
  have hlm : lastn m ≤ 20 := by unfold lastn; by_cases e : m < 20; (rw [if_pos e]; omega); rw [if_neg e]; omega
  rcases hk8 with rfl | rfl | rfl | rfl | rfl | rfl | rfl | rfl
  · rw [if_neg (by decide)]
    unfold fX3_reckon_30
    rw [if_neg (by decide), if_neg (by decide), if_neg (by decide)]
    unfold fX3_reckon_52
    rw [if_neg (by decide), if_neg (by decide), if_neg (by decide)]
    unfold fX3_reckon_75
    exact c_rk_ hN (odd := false) (once := false) (last := m) (by omega) (lastn m) 1 N g (by omega) (Nat.le_refl _) (by omega)
  · rw [if_neg (by decide)]
    unfold fX3_reckon_30
    rw [if_neg (by decide), if_neg (by decide), if_neg (by decide)]
    unfold fX3_reckon_52
    rw [if_neg (by decide), if_neg (by decide), if_neg (by decide)]
    unfold fX3_reckon_75
    exact c_rk_ hN (odd := false) (once := false) (last := m) (by omega) (lastn m) 1 N g (by omega) (Nat.le_refl _) (by omega)
  · rw [if_neg (by decide)]
    unfold fX3_reckon_30
    rw [if_neg (by decide), if_neg (by decide), if_neg (by decide)]
    unfold fX3_reckon_52
    rw [if_pos (by decide)]
    unfold fX3_reckon_70
    unfold fX3_reckon_75
    exact c_rk_ hN (odd := false) (once := true) (last := m) (by omega) (lastn m) 1 N g (by omega) (Nat.le_refl _) (by omega)
  · rw [if_neg (by decide)]
    unfold fX3_reckon_30
    rw [if_pos (by decide)]
    unfold fX3_reckon_47
    unfold fX3_reckon_52
    rw [if_neg (by decide), if_neg (by decide), if_neg (by decide)]
    unfold fX3_reckon_75
    exact c_rk_ hN (odd := true) (once := false) (last := m) (by omega) (lastn m) 1 N g (by omega) (Nat.le_refl _) (by omega)
  · rw [if_neg (by decide)]
    unfold fX3_reckon_30
    rw [if_neg (by decide), if_pos (by decide)]
    unfold fX3_reckon_47
    unfold fX3_reckon_52
    rw [if_neg (by decide), if_pos (by decide)]
    unfold fX3_reckon_70
    unfold fX3_reckon_75
    exact c_rk_ hN (odd := true) (once := true) (last := m) (by omega) (lastn m) 1 N g (by omega) (Nat.le_refl _) (by omega)
  · rw [if_neg (by decide)]
    unfold fX3_reckon_30
    rw [if_neg (by decide), if_neg (by decide), if_neg (by decide)]
    unfold fX3_reckon_52
    rw [if_neg (by decide), if_neg (by decide), if_neg (by decide)]
    unfold fX3_reckon_75
    exact c_rk_ hN (odd := false) (once := false) (last := m) (by omega) (lastn m) 1 N g (by omega) (Nat.le_refl _) (by omega)
  · rw [if_neg (by decide)]
    unfold fX3_reckon_30
    rw [if_neg (by decide), if_neg (by decide), if_neg (by decide)]
    unfold fX3_reckon_52
    rw [if_neg (by decide), if_neg (by decide), if_neg (by decide)]
    unfold fX3_reckon_75
    exact c_rk_ hN (odd := false) (once := false) (last := m) (by omega) (lastn m) 1 N g (by omega) (Nat.le_refl _) (by omega)
  · rw [if_pos (by decide)]
    unfold fX3_reckon_30
    rw [if_neg (by decide), if_neg (by decide), if_pos (by decide)]
    unfold fX3_reckon_47
    unfold fX3_reckon_52
    rw [if_neg (by decide), if_neg (by decide), if_pos (by decide)]
    unfold fX3_reckon_70
    unfold fX3_reckon_75
    obtain ⟨M, rfl⟩ : ∃ M, N = M + 1 := ⟨N - 1, by omega⟩
    by_cases e : m = 0
    · subst e
      unfold fX3_reckon_80
      rw [if_pos (by decide)]
      rfl
    · rw [show (2 : Int32) = Int32.ofNat 2 from rfl, o_mul, show (1 : Int32) = Int32.ofNat 1 from rfl, o_sub (by omega)]
      have hl2 : lastn (2 * m - 1) ≤ 20 := by unfold lastn; by_cases e : 2 * m - 1 < 20; (rw [if_pos e]; omega); rw [if_neg e]; omega
      exact c_rk_ hN (odd := true) (once := true) (last := 2 * m - 1) (by omega) (lastn (2 * m - 1)) 1 (M + 1) g (by omega) (Nat.le_refl _) (by omega)
theorem m_rowk_ {N K : Nat} (hN : 100 ≤ N) {g : Nat → Int32} {k m : Nat} (hk : k ≤ 7) (hm : m ≤ 20) : (if (Int32.ofNat k) = (7 : Int32) then fX7_row_24 N K (Int32.ofNat k) (Int32.ofNat m) (((2 : Int32) * (Int32.ofNat m)) - (1 : Int32)) g else fX7_row_24 N K (Int32.ofNat k) (Int32.ofNat m) (Int32.ofNat m) g) = some (rk (kOdd k) (kOnce k) (lastn (kLast k m)) 1 g) := by
  have hk8 : k = 0 ∨ k = 1 ∨ k = 2 ∨ k = 3 ∨ k = 4 ∨ k = 5 ∨ k = 6 ∨ k = 7 := by omega
  have hlm : lastn m ≤ 20 := by unfold lastn; by_cases e : m < 20; (rw [if_pos e]; omega); rw [if_neg e]; omega
  rcases hk8 with rfl | rfl | rfl | rfl | rfl | rfl | rfl | rfl
  · rw [if_neg (by decide)]
    unfold fX7_row_24
    rw [if_neg (by decide), if_neg (by decide), if_neg (by decide)]
    unfold fX7_row_46
    rw [if_neg (by decide), if_neg (by decide), if_neg (by decide)]
    unfold fX7_row_69
    exact m_rk_ hN (odd := false) (once := false) (last := m) (by omega) (lastn m) 1 N g (by omega) (Nat.le_refl _) (by omega)
  · rw [if_neg (by decide)]
    unfold fX7_row_24
    rw [if_neg (by decide), if_neg (by decide), if_neg (by decide)]
    unfold fX7_row_46
    rw [if_neg (by decide), if_neg (by decide), if_neg (by decide)]
    unfold fX7_row_69
    exact m_rk_ hN (odd := false) (once := false) (last := m) (by omega) (lastn m) 1 N g (by omega) (Nat.le_refl _) (by omega)
  · rw [if_neg (by decide)]
    unfold fX7_row_24
    rw [if_neg (by decide), if_neg (by decide), if_neg (by decide)]
    unfold fX7_row_46
    rw [if_pos (by decide)]
    unfold fX7_row_64
    unfold fX7_row_69
    exact m_rk_ hN (odd := false) (once := true) (last := m) (by omega) (lastn m) 1 N g (by omega) (Nat.le_refl _) (by omega)
  · rw [if_neg (by decide)]
    unfold fX7_row_24
    rw [if_pos (by decide)]
    unfold fX7_row_41
    unfold fX7_row_46
    rw [if_neg (by decide), if_neg (by decide), if_neg (by decide)]
    unfold fX7_row_69
    exact m_rk_ hN (odd := true) (once := false) (last := m) (by omega) (lastn m) 1 N g (by omega) (Nat.le_refl _) (by omega)
  · rw [if_neg (by decide)]
    unfold fX7_row_24
    rw [if_neg (by decide), if_pos (by decide)]
    unfold fX7_row_41
    unfold fX7_row_46
    rw [if_neg (by decide), if_pos (by decide)]
    unfold fX7_row_64
    unfold fX7_row_69
    exact m_rk_ hN (odd := true) (once := true) (last := m) (by omega) (lastn m) 1 N g (by omega) (Nat.le_refl _) (by omega)
  · rw [if_neg (by decide)]
    unfold fX7_row_24
    rw [if_neg (by decide), if_neg (by decide), if_neg (by decide)]
    unfold fX7_row_46
    rw [if_neg (by decide), if_neg (by decide), if_neg (by decide)]
    unfold fX7_row_69
    exact m_rk_ hN (odd := false) (once := false) (last := m) (by omega) (lastn m) 1 N g (by omega) (Nat.le_refl _) (by omega)
  · rw [if_neg (by decide)]
    unfold fX7_row_24
    rw [if_neg (by decide), if_neg (by decide), if_neg (by decide)]
    unfold fX7_row_46
    rw [if_neg (by decide), if_neg (by decide), if_neg (by decide)]
    unfold fX7_row_69
    exact m_rk_ hN (odd := false) (once := false) (last := m) (by omega) (lastn m) 1 N g (by omega) (Nat.le_refl _) (by omega)
  · rw [if_pos (by decide)]
    unfold fX7_row_24
    rw [if_neg (by decide), if_neg (by decide), if_pos (by decide)]
    unfold fX7_row_41
    unfold fX7_row_46
    rw [if_neg (by decide), if_neg (by decide), if_pos (by decide)]
    unfold fX7_row_64
    unfold fX7_row_69
    obtain ⟨M, rfl⟩ : ∃ M, N = M + 1 := ⟨N - 1, by omega⟩
    by_cases e : m = 0
    · subst e
      unfold fX7_row_74
      rw [if_pos (by decide)]
      rfl
    · rw [show (2 : Int32) = Int32.ofNat 2 from rfl, o_mul, show (1 : Int32) = Int32.ofNat 1 from rfl, o_sub (by omega)]
      have hl2 : lastn (2 * m - 1) ≤ 20 := by unfold lastn; by_cases e : 2 * m - 1 < 20; (rw [if_pos e]; omega); rw [if_neg e]; omega
      exact m_rk_ hN (odd := true) (once := true) (last := 2 * m - 1) (by omega) (lastn (2 * m - 1)) 1 (M + 1) g (by omega) (Nat.le_refl _) (by omega)
theorem lastn_le (x : Nat) : lastn x ≤ 20 := by
  unfold lastn
  by_cases e : x < 20
  · rw [if_pos e]; omega
  · rw [if_neg e]; omega
theorem c_reckon {N K : Nat} (hN : 100 ≤ N) {g : Nat → Int32} {k m : Nat} (hk : k ≤ 7) (hm : m ≤ 20) : ∃ h, fX3_reckon N K g (Int32.ofNat k) (Int32.ofNat m) = some h ∧ E21 h (rowk k m) := by
  obtain ⟨x, h1, h2⟩ := c_fill (N := N) (K := K) (n := 21) (f := g) (v := (0 : Int32)) (by omega) (by omega)
  refine ⟨rk (kOdd k) (kOnce k) (lastn (kLast k m)) 1 (upd x 0 1), ?_, ?_⟩
  · unfold fX3_reckon
    rw [h1, Option.bind_some]
    exact c_reckon_ hN hk hm
  · refine E21.r _ _ _ _ (by have := lastn_le (kLast k m); omega) ?_
    refine E21.u (fun p hp => ?_)
    rw [h2 p, if_pos hp]
theorem m_rowk {N K : Nat} (hN : 100 ≤ N) {k m : Nat} (hk : k ≤ 7) (hm : m ≤ 20) : fX7_row N K (Int32.ofNat k) (Int32.ofNat m) = some (rowk k m) := by
  unfold fX7_row
  exact m_rowk_ hN hk hm
/-- where a row tells: often 0 ahead of it -/
def rat (r : Nat → Int32) (x : Int) : Int32 := if x < 0 then 0 else r x.toNat
theorem c_rat {N K : Nat} {h r : Nat → Int32} (e : E21 h r) {a b c l : Int32} (hl : l.toInt ≤ 20) : fX3_reckoned_32 N K h a b c l = some (rat r l.toInt) := by
  have q0 : (0 : Int32).toInt = 0 := by decide
  have q21 : (21 : Int32).toInt = 21 := by decide
  have ec : l.toNatClampNeg = l.toInt.toNat := rfl
  unfold fX3_reckoned_32 rat
  by_cases z : l.toInt < 0
  · rw [if_pos (by rw [Int32.lt_iff_toInt_lt]; omega), if_pos z]
  · rw [if_neg (by rw [Int32.lt_iff_toInt_lt]; omega), if_neg z, if_pos (by rw [Int32.lt_iff_toInt_lt]; omega), if_neg (noob (by omega) (by omega)), ec, e _ (by omega)]
theorem m_rat {N K : Nat} {r : Nat → Int32} {a b c l : Int32} (hl : l.toInt ≤ 20) : fX7_told_29 N K r a b c l = some (rat r l.toInt) := by
  have q0 : (0 : Int32).toInt = 0 := by decide
  have ec : l.toNatClampNeg = l.toInt.toNat := rfl
  unfold fX7_told_29 rat
  by_cases z : l.toInt < 0
  · rw [if_neg (by rw [Int32.le_iff_toInt_le]; omega), if_pos z]
  · rw [if_pos (by rw [Int32.le_iff_toInt_le]; omega), if_neg z, if_neg (noob (by omega) (by omega)), ec]
/-- the place of a case in its row -/
def spot (k n m : Nat) : Int := if k = 1 then (n : Int) - m else if k = 5 then (n : Int) - (m * (m + 1) / 2 : Nat) else n
def sworth (k n m : Nat) : Int32 := rat (rowk k m) (spot k n m)
theorem tri_le {m : Nat} (hm : m ≤ 20) : m * (m + 1) / 2 ≤ 210 := by
  have a := Nat.mul_le_mul hm (show m + 1 ≤ 21 by omega)
  omega
theorem o_tri {m : Nat} (hm : m ≤ 20) : (Int32.ofNat m * (Int32.ofNat m + (1 : Int32))) / (2 : Int32) = Int32.ofNat (m * (m + 1) / 2) := by
  have a := Nat.mul_le_mul hm (show m + 1 ≤ 21 by omega)
  rw [o_1, o_mul, show (2 : Int32) = Int32.ofNat 2 from rfl, o_div (by omega) (by omega)]
theorem o_subi {n x : Nat} (hn : n ≤ 20) (hx : x ≤ 1000) : (Int32.ofNat n - Int32.ofNat x).toInt = (n : Int) - x := by
  have e1 := o_i (a := n) (by omega)
  have e2 := o_i (a := x) (by omega)
  have e := subI (a := Int32.ofNat n) (b := Int32.ofNat x) (by omega) (by omega)
  omega
theorem c_tells {N K : Nat} (hN : 100 ≤ N) {g : Nat → Int32} {k n m : Nat} (hk : k ≤ 7) (hn : n ≤ 20) (hm : m ≤ 20) : ∃ h, fX3_tells N K g (Int32.ofNat k) (Int32.ofNat n) (Int32.ofNat m) = some (sworth k n m, h) := by
  obtain ⟨h, h1, h2⟩ := c_reckon (N := N) (K := K) hN (g := g) hk hm
  have ht := tri_le hm
  refine ⟨h, ?_⟩
  unfold fX3_tells
  rw [h1, Option.bind_some]
  have e : fX3_reckoned N K h (Int32.ofNat k) (Int32.ofNat n) (Int32.ofNat m) = some (sworth k n m) := by
    unfold fX3_reckoned sworth spot
    by_cases c1 : k = 1
    · subst c1
      have e2 := o_subi hn (show m ≤ 1000 by omega)
      rw [if_pos (by decide), if_pos rfl, c_rat h2 (by omega), e2]
    · rw [if_neg (by rw [show (1 : Int32) = Int32.ofNat 1 from rfl, o_eq (by omega) (by omega)]; exact c1), if_neg c1]
      by_cases c5 : k = 5
      · subst c5
        have e2 := o_subi hn (show m * (m + 1) / 2 ≤ 1000 by omega)
        rw [if_pos (by decide), if_pos rfl, o_tri hm, c_rat h2 (by omega), e2]
      · rw [if_neg (by rw [show (5 : Int32) = Int32.ofNat 5 from rfl, o_eq (by omega) (by omega)]; exact c5), if_neg c5, c_rat h2 (by rw [o_i (by omega)]; omega), o_i (by omega)]
  rw [e, Option.bind_some]
theorem m_series {N K : Nat} (hN : 100 ≤ N) {k n m : Nat} (hk : k ≤ 7) (hn : n ≤ 20) (hm : m ≤ 20) : fX7_series N K (Int32.ofNat k) (Int32.ofNat n) (Int32.ofNat m) = some (sworth k n m) := by
  have ht := tri_le hm
  unfold fX7_series
  rw [m_rowk hN hk hm, Option.bind_some]
  have e : fX7_told N K (rowk k m) (Int32.ofNat k) (Int32.ofNat n) (Int32.ofNat m) = some (sworth k n m) := by
    unfold fX7_told sworth spot
    by_cases c1 : k = 1
    · subst c1
      have e2 := o_subi hn (show m ≤ 1000 by omega)
      rw [if_pos (by decide), if_pos rfl, m_rat (by omega), e2]
    · rw [if_neg (by rw [show (1 : Int32) = Int32.ofNat 1 from rfl, o_eq (by omega) (by omega)]; exact c1), if_neg c1]
      by_cases c5 : k = 5
      · subst c5
        have e2 := o_subi hn (show m * (m + 1) / 2 ≤ 1000 by omega)
        rw [if_pos (by decide), if_pos rfl, o_tri hm, m_rat (by omega), e2]
      · rw [if_neg (by rw [show (5 : Int32) = Int32.ofNat 5 from rfl, o_eq (by omega) (by omega)]; exact c5), if_neg c5, m_rat (by rw [o_i (by omega)]; omega), o_i (by omega)]
  rw [e, Option.bind_some]
theorem ty_product {N K : Nat} {th : Int32} {g : Nat → Int32} {p0 p1 p2 : Int32} (hN : NBig N) (hK : 100 ≤ K) : ∃ o y, fX5_product N K g p0 p1 p2 = some o ∧ fX7_product N K th p0 p1 p2 = some y ∧ Tj o y.2 (fun z => z.1 = y.1) := by
  have hN9 := hN.u
  have hN1 : 100 ≤ N := by omega
  by_cases h : Rg p0 0 7 ∧ Rg p1 0 20 ∧ Rg p2 0 20
  · obtain ⟨h0, h1, h2⟩ := h
    have a1 := k_any1 (N := N) (K := K) h0 h1 h2
    have b0 := m_in (N := N) (K := K) h0
    have b1 := m_in (N := N) (K := K) h1
    have b2 := m_in (N := N) (K := K) h2
    obtain ⟨k, rfl, -, k2⟩ := Rg.n (a := 0) (b := 7) h0 (by omega) (by omega)
    obtain ⟨n, rfl, -, n2⟩ := Rg.n (a := 0) (b := 20) h1 (by omega) (by omega)
    obtain ⟨m, rfl, -, m2⟩ := Rg.n (a := 0) (b := 20) h2 (by omega) (by omega)
    obtain ⟨g', e1⟩ := c_tells (N := N) (K := K) hN1 (g := g) k2 n2 m2
    refine ⟨.inl (sworth k n m, g'), (sworth k n m, 0), ?_, ?_, rfl, rfl⟩
    · unfold fX5_product
      rw [a1, xb_l, e1, Option.bind_some]
    · unfold fX7_product
      rw [b0, Option.bind_some, if_pos rfl, b1, Option.bind_some, if_pos rfl, b2, Option.bind_some, if_pos rfl]
      unfold fX7_product_36
      rw [m_th00, Option.bind_some, if_pos rfl, m_series hN1 k2 n2 m2, Option.bind_some]
  · refine ⟨.inr "java/lang/IllegalArgumentException", (0, 1), ?_, ?_, rfl, rfl⟩
    · unfold fX5_product
      rw [k_any0 h, xb_r]
    · have last : fX7_product_31 N K th p0 p1 p2 th = some (0, 1) := by
        unfold fX7_product_31 fX7_product_36
        rw [m_th1, Option.bind_some, if_neg (by decide)]
      unfold fX7_product
      by_cases h0 : Rg p0 0 7
      · rw [m_in h0, Option.bind_some, if_pos rfl]
        by_cases h1 : Rg p1 0 20
        · have h2 : ¬ Rg p2 0 20 := fun z => h ⟨h0, h1, z⟩
          rw [m_in h1, Option.bind_some, if_pos rfl, m_out h2, Option.bind_some, if_neg (by decide), last]
        · rw [m_out h1, Option.bind_some, if_neg (by decide), last]
      · rw [m_out h0, Option.bind_some, if_neg (by decide), last]

end MG_60iproduct
section MG_60kworth
/-! ===== the worths of cases: legs, what is known, what is reached ===== -/
def ln (k w : Nat) (x : Int) (m : Nat) : Int := if w = 1 ∨ k = 5 then x - m else if k = 1 then x - 1 else x
def lm (k w m : Nat) : Nat := if (w = 0 ∧ k = 5) ∨ (w = 1 ∧ (k = 0 ∨ k = 1 ∨ k = 3)) then m else m - 1
def hl (k w m : Nat) : Bool := decide (w = 0 ∨ m % 2 = 1 ∨ (k ≠ 3 ∧ k ≠ 4))
def rs (x : Int) (m : Nat) : Bool := decide (x ≤ 0 ∨ m = 0)
def rv (k : Nat) (x : Int) (m : Nat) : Int32 := if x = 0 ∧ (m = 0 ∨ (k ≠ 1 ∧ k ≠ 5)) then 1 else 0
theorem rs_f {x : Int} {m : Nat} (h : ¬ rs x m = true) : 1 ≤ x ∧ 1 ≤ m := by
  unfold rs at h
  have h2 : ¬ (x ≤ 0 ∨ m = 0) := fun z => h (decide_eq_true z)
  omega
theorem rs_t {x : Int} {m : Nat} (h : rs x m = true) : x ≤ 0 ∨ m = 0 := of_decide_eq_true h
theorem rs_n {x : Int} {m : Nat} (h1 : 1 ≤ x) (h2 : 1 ≤ m) : ¬ rs x m = true := by
  intro h
  have := rs_t h
  omega
theorem leg_lt {k w m : Nat} {x : Int} (hw : w < 2) (h : ¬ rs x m = true) : (ln k w x m).toNat + lm k w m < x.toNat + m := by
  obtain ⟨h1, h2⟩ := rs_f h
  unfold ln lm
  have hw2 : w = 0 ∨ w = 1 := by omega
  rcases hw2 with rfl | rfl
  · by_cases k5 : k = 5
    · rw [if_pos (Or.inr k5), if_pos (Or.inl ⟨rfl, k5⟩)]; omega
    · rw [if_neg (show ¬ (0 = 1 ∨ k = 5) from by omega), if_neg (show ¬ ((0 = 0 ∧ k = 5) ∨ (0 = 1 ∧ (k = 0 ∨ k = 1 ∨ k = 3))) from by omega)]
      by_cases k1 : k = 1
      · rw [if_pos k1]; omega
      · rw [if_neg k1]; omega
  · rw [if_pos (Or.inl rfl)]
    by_cases e : (1 = 0 ∧ k = 5) ∨ (1 = 1 ∧ (k = 0 ∨ k = 1 ∨ k = 3))
    · rw [if_pos e]; omega
    · rw [if_neg e]; omega
theorem leg_bd {k w m : Nat} {x : Int} (hx : x ≤ 20) (hm : m ≤ 20) (h : ¬ rs x m = true) : ln k w x m ≤ 20 ∧ -20 ≤ ln k w x m ∧ lm k w m ≤ 20 := by
  obtain ⟨h1, h2⟩ := rs_f h
  refine ⟨?_, ?_, ?_⟩
  · unfold ln
    by_cases e : w = 1 ∨ k = 5
    · rw [if_pos e]; omega
    · rw [if_neg e]
      by_cases e2 : k = 1
      · rw [if_pos e2]; omega
      · rw [if_neg e2]; exact hx
  · unfold ln
    by_cases e : w = 1 ∨ k = 5
    · rw [if_pos e]; omega
    · rw [if_neg e]
      by_cases e2 : k = 1
      · rw [if_pos e2]; omega
      · rw [if_neg e2]; omega
  · unfold lm
    by_cases e : (w = 0 ∧ k = 5) ∨ (w = 1 ∧ (k = 0 ∨ k = 1 ∨ k = 3))
    · rw [if_pos e]; exact hm
    · rw [if_neg e]; omega
/-- the worth that a table tells: its own, or its legs' -/
def V (T : Nat → Nat → Int32) (k : Nat) : Nat → Int → Nat → Int32
  | 0, _, _ => 0
  | d + 1, x, m => if rs x m = true then rv k x m else if T x.toNat m = -1 then V T k d (ln k 0 x m) (lm k 0 m) + (if hl k 1 m = true then V T k d (ln k 1 x m) (lm k 1 m) else 0) else T x.toNat m
theorem V_s {T : Nat → Nat → Int32} {k d m : Nat} {x : Int} : V T k (d + 1) x m = if rs x m = true then rv k x m else if T x.toNat m = -1 then V T k d (ln k 0 x m) (lm k 0 m) + (if hl k 1 m = true then V T k d (ln k 1 x m) (lm k 1 m) else 0) else T x.toNat m := rfl
theorem V_st {T : Nat → Nat → Int32} {k : Nat} : ∀ d (x : Int) m, x.toNat + m < d → V T k d x m = V T k (d + 1) x m := by
  intro d
  induction d with
  | zero => intro x m h; omega
  | succ d ih =>
    intro x m h
    rw [V_s (d := d), V_s (d := d + 1)]
    by_cases r : rs x m = true
    · rw [if_pos r, if_pos r]
    · have l0 := leg_lt (k := k) (w := 0) (by omega) r
      have l1 := leg_lt (k := k) (w := 1) (by omega) r
      rw [if_neg r, if_neg r, ih _ _ (show (ln k 0 x m).toNat + lm k 0 m < d by omega), ih _ _ (show (ln k 1 x m).toNat + lm k 1 m < d by omega)]
def VV (T : Nat → Nat → Int32) (k : Nat) (x : Int) (m : Nat) : Int32 := V T k 60 x m
theorem VV_eq {T : Nat → Nat → Int32} {k m : Nat} {x : Int} (hx : x ≤ 20) (hm : m ≤ 20) : VV T k x m = if rs x m = true then rv k x m else if T x.toNat m = -1 then VV T k (ln k 0 x m) (lm k 0 m) + (if hl k 1 m = true then VV T k (ln k 1 x m) (lm k 1 m) else 0) else T x.toNat m := by
  unfold VV
  rw [V_s (d := 59)]
  by_cases r : rs x m = true
  · rw [if_pos r, if_pos r]
  · have l0 := leg_lt (k := k) (w := 0) (by omega) r
    have l1 := leg_lt (k := k) (w := 1) (by omega) r
    rw [if_neg r, if_neg r, V_st 59 _ _ (show (ln k 0 x m).toNat + lm k 0 m < 59 by omega), V_st 59 _ _ (show (ln k 1 x m).toNat + lm k 1 m < 59 by omega)]
/-- what is reached from a case through cases that the table doesn't keep -/
def R (T : Nat → Nat → Int32) (k : Nat) : Nat → Int → Nat → Nat → Nat → Prop
  | 0, _, _, _, _ => False
  | d + 1, x, m, p, q => ¬ rs x m = true ∧ T x.toNat m = -1 ∧ ((x.toNat = p ∧ m = q) ∨ R T k d (ln k 0 x m) (lm k 0 m) p q ∨ (hl k 1 m = true ∧ R T k d (ln k 1 x m) (lm k 1 m) p q))
theorem R_s {T : Nat → Nat → Int32} {k d m p q : Nat} {x : Int} : R T k (d + 1) x m p q = (¬ rs x m = true ∧ T x.toNat m = -1 ∧ ((x.toNat = p ∧ m = q) ∨ R T k d (ln k 0 x m) (lm k 0 m) p q ∨ (hl k 1 m = true ∧ R T k d (ln k 1 x m) (lm k 1 m) p q))) := rfl
theorem R_st {T : Nat → Nat → Int32} {k p q : Nat} : ∀ d (x : Int) m, x.toNat + m < d → (R T k d x m p q ↔ R T k (d + 1) x m p q) := by
  intro d
  induction d with
  | zero => intro x m h; omega
  | succ d ih =>
    intro x m h
    rw [R_s (d := d), R_s (d := d + 1)]
    constructor
    · rintro ⟨r, u, c⟩
      have l0 := leg_lt (k := k) (w := 0) (by omega) r
      have l1 := leg_lt (k := k) (w := 1) (by omega) r
      refine ⟨r, u, ?_⟩
      rcases c with c | c | ⟨c1, c2⟩
      · exact Or.inl c
      · exact Or.inr (Or.inl ((ih _ _ (by omega)).mp c))
      · exact Or.inr (Or.inr ⟨c1, (ih _ _ (by omega)).mp c2⟩)
    · rintro ⟨r, u, c⟩
      have l0 := leg_lt (k := k) (w := 0) (by omega) r
      have l1 := leg_lt (k := k) (w := 1) (by omega) r
      refine ⟨r, u, ?_⟩
      rcases c with c | c | ⟨c1, c2⟩
      · exact Or.inl c
      · exact Or.inr (Or.inl ((ih _ _ (by omega)).mpr c))
      · exact Or.inr (Or.inr ⟨c1, (ih _ _ (by omega)).mpr c2⟩)
def RR (T : Nat → Nat → Int32) (k : Nat) (x : Int) (m p q : Nat) : Prop := R T k 60 x m p q
theorem RR_eq {T : Nat → Nat → Int32} {k m p q : Nat} {x : Int} (hx : x ≤ 20) (hm : m ≤ 20) : RR T k x m p q ↔ (¬ rs x m = true ∧ T x.toNat m = -1 ∧ ((x.toNat = p ∧ m = q) ∨ RR T k (ln k 0 x m) (lm k 0 m) p q ∨ (hl k 1 m = true ∧ RR T k (ln k 1 x m) (lm k 1 m) p q))) := by
  unfold RR
  rw [R_s (d := 59)]
  constructor
  · rintro ⟨r, u, c⟩
    have l0 := leg_lt (k := k) (w := 0) (by omega) r
    have l1 := leg_lt (k := k) (w := 1) (by omega) r
    refine ⟨r, u, ?_⟩
    rcases c with c | c | ⟨c1, c2⟩
    · exact Or.inl c
    · exact Or.inr (Or.inl ((R_st 59 _ _ (by omega)).mp c))
    · exact Or.inr (Or.inr ⟨c1, (R_st 59 _ _ (by omega)).mp c2⟩)
  · rintro ⟨r, u, c⟩
    have l0 := leg_lt (k := k) (w := 0) (by omega) r
    have l1 := leg_lt (k := k) (w := 1) (by omega) r
    refine ⟨r, u, ?_⟩
    rcases c with c | c | ⟨c1, c2⟩
    · exact Or.inl c
    · exact Or.inr (Or.inl ((R_st 59 _ _ (by omega)).mpr c))
    · exact Or.inr (Or.inr ⟨c1, (R_st 59 _ _ (by omega)).mpr c2⟩)
/-- what is reached isn't kept, and rests not -/
theorem RR_un {T : Nat → Nat → Int32} {k p q : Nat} : ∀ d (x : Int) m, x.toNat + m < d → x ≤ 20 → m ≤ 20 → RR T k x m p q → T p q = -1 ∧ 1 ≤ p ∧ 1 ≤ q ∧ p ≤ 20 ∧ q ≤ 20 ∧ p + q ≤ x.toNat + m := by
  intro d
  induction d with
  | zero => intro x m h; omega
  | succ d ih =>
    intro x m h hx hm hr
    obtain ⟨r, u, c⟩ := (RR_eq hx hm).mp hr
    have l0 := leg_lt (k := k) (w := 0) (by omega) r
    have l1 := leg_lt (k := k) (w := 1) (by omega) r
    obtain ⟨b1, -, b2⟩ := leg_bd (k := k) (w := 0) hx hm r
    obtain ⟨b3, -, b4⟩ := leg_bd (k := k) (w := 1) hx hm r
    obtain ⟨g1, g2⟩ := rs_f r
    rcases c with ⟨rfl, rfl⟩ | c | ⟨-, c⟩
    · exact ⟨u, by omega, g2, by omega, hm, Nat.le_refl _⟩
    · obtain ⟨e1, e2, e3, e4, e5, e6⟩ := ih _ _ (by omega) b1 b2 c
      exact ⟨e1, e2, e3, e4, e5, by omega⟩
    · obtain ⟨e1, e2, e3, e4, e5, e6⟩ := ih _ _ (by omega) b3 b4 c
      exact ⟨e1, e2, e3, e4, e5, by omega⟩
theorem RR_self {T : Nat → Nat → Int32} {k m : Nat} {x : Int} (hx : x ≤ 20) (hm : m ≤ 20) (r : ¬ rs x m = true) (u : T x.toNat m = -1) : RR T k x m x.toNat m := (RR_eq hx hm).mpr ⟨r, u, Or.inl ⟨rfl, rfl⟩⟩
theorem RR_tr {T : Nat → Nat → Int32} {k b1 b2 p q : Nat} : ∀ d (x : Int) m, x.toNat + m < d → x ≤ 20 → m ≤ 20 → RR T k x m b1 b2 → RR T k (b1 : Int) b2 p q → RR T k x m p q := by
  intro d
  induction d with
  | zero => intro x m h; omega
  | succ d ih =>
    intro x m h hx hm hr h2
    obtain ⟨r, u, c⟩ := (RR_eq hx hm).mp hr
    have l0 := leg_lt (k := k) (w := 0) (by omega) r
    have l1 := leg_lt (k := k) (w := 1) (by omega) r
    obtain ⟨e1, -, e2⟩ := leg_bd (k := k) (w := 0) hx hm r
    obtain ⟨e3, -, e4⟩ := leg_bd (k := k) (w := 1) hx hm r
    obtain ⟨g1, g2⟩ := rs_f r
    rcases c with ⟨rfl, rfl⟩ | c | ⟨c1, c⟩
    · rw [show ((x.toNat : Nat) : Int) = x from by omega] at h2
      exact h2
    · exact (RR_eq hx hm).mpr ⟨r, u, Or.inr (Or.inl (ih _ _ (by omega) e1 e2 c h2))⟩
    · exact (RR_eq hx hm).mpr ⟨r, u, Or.inr (Or.inr ⟨c1, ih _ _ (by omega) e3 e4 c h2⟩)⟩
/-- a reached case's legs are reached, where they aren't kept -/
theorem RR_leg {T : Nat → Nat → Int32} {k w b1 b2 m : Nat} {x : Int} (hw : w < 2) (hl1 : hl k w b2 = true) (hx : x ≤ 20) (hm : m ≤ 20) (h : RR T k x m b1 b2) (r2 : ¬ rs (ln k w b1 b2) (lm k w b2) = true) (u2 : T (ln k w b1 b2).toNat (lm k w b2) = -1) : RR T k x m (ln k w b1 b2).toNat (lm k w b2) := by
  obtain ⟨e1, e2, e3, e4, e5, -⟩ := RR_un (x.toNat + m + 1) x m (by omega) hx hm h
  have r1 : ¬ rs (b1 : Int) b2 = true := rs_n (by omega) e3
  obtain ⟨f1, -, f2⟩ := leg_bd (k := k) (w := w) (x := (b1 : Int)) (m := b2) (by omega) e5 r1
  refine RR_tr (x.toNat + m + 1) x m (by omega) hx hm h ((RR_eq (by omega) e5).mpr ⟨r1, ?_, ?_⟩)
  · rw [show ((b1 : Int)).toNat = b1 from by omega]; exact e1
  · have s := RR_self (k := k) f1 f2 r2 u2
    have hw2 : w = 0 ∨ w = 1 := by omega
    rcases hw2 with rfl | rfl
    · exact Or.inr (Or.inl s)
    · exact Or.inr (Or.inr ⟨hl1, s⟩)
/-- what is reached is the case itself, or a leg of what is reached -/
theorem RR_par {T : Nat → Nat → Int32} {k p q : Nat} : ∀ d (x : Int) m, x.toNat + m < d → x ≤ 20 → m ≤ 20 → RR T k x m p q → (x.toNat = p ∧ m = q) ∨ ∃ b1 b2 w, w < 2 ∧ hl k w b2 = true ∧ RR T k x m b1 b2 ∧ (ln k w b1 b2).toNat = p ∧ lm k w b2 = q ∧ ¬ rs (ln k w b1 b2) (lm k w b2) = true := by
  intro d
  induction d with
  | zero => intro x m h; omega
  | succ d ih =>
    intro x m h hx hm hr
    obtain ⟨r, u, c⟩ := (RR_eq hx hm).mp hr
    have l0 := leg_lt (k := k) (w := 0) (by omega) r
    have l1 := leg_lt (k := k) (w := 1) (by omega) r
    obtain ⟨e1, -, e2⟩ := leg_bd (k := k) (w := 0) hx hm r
    obtain ⟨e3, -, e4⟩ := leg_bd (k := k) (w := 1) hx hm r
    obtain ⟨g1, g2⟩ := rs_f r
    have ex : ((x.toNat : Nat) : Int) = x := by omega
    have self := RR_self (T := T) (k := k) hx hm r u
    rcases c with c | c | ⟨c1, c⟩
    · exact Or.inl c
    · refine Or.inr ?_
      rcases ih _ _ (by omega) e1 e2 c with ⟨a1, a2⟩ | ⟨b1, b2, w, w2, h3, h4, h5, h6, h7⟩
      · refine ⟨x.toNat, m, 0, by omega, rfl, self, ?_, ?_, ?_⟩
        · rw [ex]; exact a1
        · exact a2
        · rw [ex]; exact ((RR_eq e1 e2).mp c).1
      · exact ⟨b1, b2, w, w2, h3, (RR_eq hx hm).mpr ⟨r, u, Or.inr (Or.inl h4)⟩, h5, h6, h7⟩
    · refine Or.inr ?_
      rcases ih _ _ (by omega) e3 e4 c with ⟨a1, a2⟩ | ⟨b1, b2, w, w2, h3, h4, h5, h6, h7⟩
      · refine ⟨x.toNat, m, 1, by omega, c1, self, ?_, ?_, ?_⟩
        · rw [ex]; exact a1
        · exact a2
        · rw [ex]; exact ((RR_eq e3 e4).mp c).1
      · exact ⟨b1, b2, w, w2, h3, (RR_eq hx hm).mpr ⟨r, u, Or.inr (Or.inr ⟨c1, h4⟩)⟩, h5, h6, h7⟩
/-! ===== how great a worth can be ===== -/
def tbL : List (List Nat) := [[111405, 222809, 334213, 445617, 557021, 668425, 779829, 891233, 1002637, 1114041, 1225445, 1336849, 1448253, 1559657, 1671061, 1782465, 1893869, 2005273, 2116677, 2228081], [222809, 334213, 445617, 557021, 668425, 779829, 891233, 1002637, 1114041, 1225445, 1336849, 1448253, 1559657, 1671061, 1782465, 1893869, 2005273, 2116677, 2228081, 2339485], [334213, 668425, 779829, 891233, 1002637, 1114041, 1225445, 1336849, 1448253, 1559657, 1671061, 1782465, 1893869, 2005273, 2116677, 2228081, 2339485, 2450889, 2562293, 2673697], [445617, 891233, 1336849, 1448253, 1559657, 1671061, 1782465, 1893869, 2005273, 2116677, 2228081, 2339485, 2450889, 2562293, 2673697, 2785101, 2896505, 3007909, 3119313, 3230717], [557021, 1336849, 1893869, 2450889, 2562293, 2673697, 2785101, 2896505, 3007909, 3119313, 3230717, 3342121, 3453525, 3564929, 3676333, 3787737, 3899141, 4010545, 4121949, 4233353], [668425, 1671061, 2562293, 3230717, 3899141, 4010545, 4121949, 4233353, 4344757, 4456161, 4567565, 4678969, 4790373, 4901777, 5013181, 5124585, 5235989, 5347393, 5458797, 5570201], [779829, 2228081, 3676333, 4678969, 5458797, 6238625, 6350029, 6461433, 6572837, 6684241, 6795645, 6907049, 7018453, 7129857, 7241261, 7352665, 7464069, 7575473, 7686877, 7798281], [891233, 2673697, 4678969, 6238625, 7352665, 8243897, 9135129, 9246533, 9357937, 9469341, 9580745, 9692149, 9803553, 9914957, 10026361, 10137765, 10249169, 10360573, 10471977, 10583381], [1002637, 3342121, 6015817, 8578109, 10249169, 11474613, 12477249, 13479885, 13591289, 13702693, 13814097, 13925501, 14036905, 14148309, 14259713, 14371117, 14482521, 14593925, 14705329, 14816733], [1114041, 3899141, 7686877, 11028997, 13702693, 15485157, 16822005, 17936045, 19050085, 19161489, 19272893, 19384297, 19495701, 19607105, 19718509, 19829913, 19941317, 20052721, 20164125, 20275529], [1225445, 4678969, 9469341, 14259713, 18270257, 21055357, 22949225, 24397477, 25622921, 26848365, 26959769, 27071173, 27182577, 27293981, 27405385, 27516789, 27628193, 27739597, 27851001, 27962405], [1336849, 5347393, 11474613, 17824641, 23394841, 27516789, 30413293, 32418565, 33978221, 35315069, 36651917, 36763321, 36874725, 36986129, 37097533, 37208937, 37320341, 37431745, 37543149, 37654553], [1448253, 6238625, 14036905, 22726417, 30190485, 36540513, 40773865, 43781773, 45898449, 47569509, 49017761, 50466013, 50577417, 50688821, 50800225, 50911629, 51023033, 51134437, 51245841, 51357245], [1559657, 7018453, 16599197, 27739597, 38100169, 46455469, 52916901, 57261657, 60380969, 62609049, 64391513, 65951169, 67510825, 67622229, 67733633, 67845037, 67956441, 68067845, 68179249, 68290653], [1671061, 8021089, 19607105, 33978221, 47792317, 59378333, 68624865, 75197701, 79653861, 82884577, 85224061, 87117929, 88788989, 90460049, 90571453, 90682857, 90794261, 90905665, 91017069, 91128473], [1782465, 8912321, 23060629, 40996673, 59378333, 74974893, 87563545, 96921481, 103605721, 108173285, 111515405, 113966293, 115971565, 117754029, 119536493, 119647897, 119759301, 119870705, 119982109, 120093513], [1893869, 10026361, 26736961, 49574781, 73081025, 94247785, 111181193, 124772481, 134241821, 141037465, 145716433, 149169957, 151732249, 153848925, 155742793, 157636661, 157748065, 157859469, 157970873, 158082277], [2005273, 11028997, 30747505, 58598505, 88900393, 116528585, 139589213, 157636661, 171339353, 180920097, 187827145, 192617517, 196182445, 198856141, 201084221, 203089493, 205094765, 205206169, 205317573, 205428977], [2116677, 12254441, 35426473, 69516097, 107727669, 144379585, 174904281, 199413161, 218574649, 232388745, 242080893, 249099345, 254001121, 257677453, 260462553, 262802037, 264918713, 267035389, 267146793, 267258197], [2228081, 13368481, 40216845, 81324921, 129228641, 175795513, 216680781, 249210749, 274945073, 294217965, 308143465, 317947017, 325076873, 330090053, 333877789, 336774293, 339225181, 341453261, 343681341, 343792745]]
def tb (n m : Nat) : Nat := (tbL.getD (n - 1) []).getD (m - 1) 0
def tbx (x : Int) (m : Nat) : Nat := if rs x m = true then 1 else tb x.toNat m
def tbq (k n m : Nat) : Bool := decide (111403 + tbx (ln k 0 (n : Int) m) (lm k 0 m) + (if hl k 1 m = true then tbx (ln k 1 (n : Int) m) (lm k 1 m) else 0) ≤ tb n m ∧ tb n m ≤ 400000000)
set_option maxRecDepth 100000 in
theorem tbq_ok : ∀ k, k < 6 → ∀ n, n < 21 → ∀ m, m < 21 → (1 ≤ n ∧ 1 ≤ m) → tbq k n m = true := by decide +kernel
theorem tb_ok (k : Nat) (hk : k < 6) (n : Nat) (hn : n < 21) (m : Nat) (hm : m < 21) (h : 1 ≤ n ∧ 1 ≤ m) : 111403 + tbx (ln k 0 (n : Int) m) (lm k 0 m) + (if hl k 1 m = true then tbx (ln k 1 (n : Int) m) (lm k 1 m) else 0) ≤ tb n m ∧ tb n m ≤ 400000000 := of_decide_eq_true (tbq_ok k hk n hn m hm h)
/-- a table that holds worths of cases, none too great, none of a case that rests -/
def OKT (T : Nat → Nat → Int32) : Prop := ∀ n m, n ≤ 20 → m ≤ 20 → T n m = -1 ∨ (1 ≤ n ∧ 1 ≤ m ∧ 0 ≤ (T n m).toInt ∧ (T n m).toInt ≤ (tb n m : Int))
theorem VV_bd {T : Nat → Nat → Int32} {k : Nat} (hT : OKT T) (hk : k < 6) : ∀ d (x : Int) m, x.toNat + m < d → x ≤ 20 → m ≤ 20 → 0 ≤ (VV T k x m).toInt ∧ (VV T k x m).toInt ≤ (tbx x m : Int) := by
  intro d
  induction d with
  | zero => intro x m h; omega
  | succ d ih =>
    intro x m h hx hm
    rw [VV_eq hx hm]
    by_cases r : rs x m = true
    · rw [if_pos r]
      unfold tbx rv
      rw [if_pos r]
      have q0 : (0 : Int32).toInt = 0 := by decide
      have q1 : (1 : Int32).toInt = 1 := by decide
      by_cases c : x = 0 ∧ (m = 0 ∨ (k ≠ 1 ∧ k ≠ 5))
      · rw [if_pos c]; omega
      · rw [if_neg c]; omega
    · obtain ⟨g1, g2⟩ := rs_f r
      have ex : ((x.toNat : Nat) : Int) = x := by omega
      have tk := tb_ok k hk x.toNat (by omega) m (by omega) ⟨by omega, g2⟩
      rw [ex] at tk
      have htb : tbx x m = tb x.toNat m := by unfold tbx; rw [if_neg r]
      rw [if_neg r, htb]
      by_cases u : T x.toNat m = -1
      · rw [if_pos u]
        have l0 := leg_lt (k := k) (w := 0) (by omega) r
        have l1 := leg_lt (k := k) (w := 1) (by omega) r
        obtain ⟨e1, -, e2⟩ := leg_bd (k := k) (w := 0) hx hm r
        obtain ⟨e3, -, e4⟩ := leg_bd (k := k) (w := 1) hx hm r
        obtain ⟨i1, i2⟩ := ih _ _ (by omega) e1 e2
        by_cases c : hl k 1 m = true
        · obtain ⟨i3, i4⟩ := ih _ _ (show (ln k 1 x m).toNat + lm k 1 m < d by omega) e3 e4
          rw [if_pos c] at tk
          rw [if_pos c, addI (by omega) (by omega)]
          omega
        · have q0 : (0 : Int32).toInt = 0 := by decide
          rw [if_neg c] at tk
          rw [if_neg c, addI (by omega) (by omega)]
          omega
      · rw [if_neg u]
        rcases hT x.toNat m (by omega) hm with z | ⟨-, -, z1, z2⟩
        · exact absurd z u
        · exact ⟨z1, z2⟩
theorem VV_ne {T : Nat → Nat → Int32} {k m : Nat} {x : Int} (hT : OKT T) (hk : k < 6) (hx : x ≤ 20) (hm : m ≤ 20) : ¬ VV T k x m = -1 := by
  intro h
  have b := (VV_bd hT hk (x.toNat + m + 1) x m (by omega) hx hm).1
  rw [h] at b
  exact absurd b (by decide)
/-! ===== a table with what was reached ===== -/
/-- S is T with the worths of what is reached from (x, m) -/
def Fil (T S : Nat → Nat → Int32) (k : Nat) (x : Int) (m : Nat) : Prop := ∀ p q, p ≤ 20 → q ≤ 20 → (RR T k x m p q → S p q = VV T k p q) ∧ (¬ RR T k x m p q → S p q = T p q)
theorem Fil.ok {T S : Nat → Nat → Int32} {k m : Nat} {x : Int} (hT : OKT T) (hk : k < 6) (hx : x ≤ 20) (hm : m ≤ 20) (h : Fil T S k x m) : OKT S := by
  intro p q hp hq
  by_cases c : RR T k x m p q
  · obtain ⟨e1, e2, e3, -, -, -⟩ := RR_un (x.toNat + m + 1) x m (by omega) hx hm c
    obtain ⟨b1, b2⟩ := VV_bd hT hk (((p : Nat) : Int).toNat + q + 1) p q (by omega) (by omega) hq
    rw [(h p q hp hq).1 c]
    refine Or.inr ⟨e2, e3, b1, ?_⟩
    unfold tbx at b2
    rw [if_neg (rs_n (by omega) e3), show ((p : Nat) : Int).toNat = p from by omega] at b2
    exact b2
  · rw [(h p q hp hq).2 c]
    exact hT p q hp hq
/-- what the filled table tells is what the table told -/
theorem Fil.V {T S : Nat → Nat → Int32} {k m : Nat} {x : Int} (hT : OKT T) (hk : k < 6) (hx : x ≤ 20) (hm : m ≤ 20) (h : Fil T S k x m) : ∀ d (y : Int) r, y.toNat + r < d → y ≤ 20 → r ≤ 20 → VV S k y r = VV T k y r := by
  intro d
  induction d with
  | zero => intro y r hd; omega
  | succ d ih =>
    intro y r hd hy hr
    rw [VV_eq (T := S) hy hr, VV_eq (T := T) hy hr]
    by_cases c : rs y r = true
    · rw [if_pos c, if_pos c]
    · obtain ⟨g1, g2⟩ := rs_f c
      have ey : ((y.toNat : Nat) : Int) = y := by omega
      have l0 := leg_lt (k := k) (w := 0) (by omega) c
      have l1 := leg_lt (k := k) (w := 1) (by omega) c
      obtain ⟨e1, -, e2⟩ := leg_bd (k := k) (w := 0) hy hr c
      obtain ⟨e3, -, e4⟩ := leg_bd (k := k) (w := 1) hy hr c
      rw [if_neg c, if_neg c, ih _ _ (show (ln k 0 y r).toNat + lm k 0 r < d by omega) e1 e2, ih _ _ (show (ln k 1 y r).toNat + lm k 1 r < d by omega) e3 e4]
      by_cases z : RR T k x m y.toNat r
      · obtain ⟨u, -⟩ := RR_un (x.toNat + m + 1) x m (by omega) hx hm z
        have s := (h y.toNat r (by omega) hr).1 z
        rw [ey] at s
        have v := VV_eq (T := T) (k := k) hy hr
        rw [if_neg c, if_pos u] at v
        rw [if_pos u, if_neg (by rw [s]; exact VV_ne hT hk hy hr), s, v]
      · rw [(h y.toNat r (by omega) hr).2 z]
theorem Fil.sub {T S : Nat → Nat → Int32} {k m : Nat} {x : Int} (hT : OKT T) (hk : k < 6) (h : Fil T S k x m) {p q : Nat} : ∀ d (y : Int) r, y.toNat + r < d → y ≤ 20 → r ≤ 20 → RR S k y r p q → RR T k y r p q := by
  intro d
  induction d with
  | zero => intro y r hd; omega
  | succ d ih =>
    intro y r hd hy hr hR
    obtain ⟨c, u, z⟩ := (RR_eq hy hr).mp hR
    obtain ⟨g1, g2⟩ := rs_f c
    have l0 := leg_lt (k := k) (w := 0) (by omega) c
    have l1 := leg_lt (k := k) (w := 1) (by omega) c
    obtain ⟨e1, -, e2⟩ := leg_bd (k := k) (w := 0) hy hr c
    obtain ⟨e3, -, e4⟩ := leg_bd (k := k) (w := 1) hy hr c
    have uT : T y.toNat r = -1 := by
      by_cases w : RR T k x m y.toNat r
      · exact absurd ((h y.toNat r (by omega) hr).1 w ▸ u) (VV_ne hT hk (by omega) hr)
      · rw [← (h y.toNat r (by omega) hr).2 w]; exact u
    refine (RR_eq hy hr).mpr ⟨c, uT, ?_⟩
    rcases z with z | z | ⟨z1, z⟩
    · exact Or.inl z
    · exact Or.inr (Or.inl (ih _ _ (by omega) e1 e2 z))
    · exact Or.inr (Or.inr ⟨z1, ih _ _ (by omega) e3 e4 z⟩)
theorem Fil.sup {T S : Nat → Nat → Int32} {k m : Nat} {x : Int} (hx : x ≤ 20) (hm : m ≤ 20) (h : Fil T S k x m) {p q : Nat} : ∀ d (y : Int) r, y.toNat + r < d → y ≤ 20 → r ≤ 20 → RR T k y r p q → RR S k y r p q ∨ RR T k x m p q := by
  intro d
  induction d with
  | zero => intro y r hd; omega
  | succ d ih =>
    intro y r hd hy hr hR
    obtain ⟨c, u, z⟩ := (RR_eq hy hr).mp hR
    obtain ⟨g1, g2⟩ := rs_f c
    have ey : ((y.toNat : Nat) : Int) = y := by omega
    have l0 := leg_lt (k := k) (w := 0) (by omega) c
    have l1 := leg_lt (k := k) (w := 1) (by omega) c
    obtain ⟨e1, -, e2⟩ := leg_bd (k := k) (w := 0) hy hr c
    obtain ⟨e3, -, e4⟩ := leg_bd (k := k) (w := 1) hy hr c
    by_cases w : RR T k x m y.toNat r
    · refine Or.inr (RR_tr (x.toNat + m + 1) x m (by omega) hx hm w ?_)
      rw [ey]; exact hR
    · have uS : S y.toNat r = -1 := by rw [(h y.toNat r (by omega) hr).2 w]; exact u
      rcases z with z | z | ⟨z1, z⟩
      · exact Or.inl ((RR_eq hy hr).mpr ⟨c, uS, Or.inl z⟩)
      · rcases ih _ _ (by omega) e1 e2 z with a | a
        · exact Or.inl ((RR_eq hy hr).mpr ⟨c, uS, Or.inr (Or.inl a)⟩)
        · exact Or.inr a
      · rcases ih _ _ (by omega) e3 e4 z with a | a
        · exact Or.inl ((RR_eq hy hr).mpr ⟨c, uS, Or.inr (Or.inr ⟨z1, a⟩)⟩)
        · exact Or.inr a

end MG_60kworth
section MG_60lcmem
/-! ===== the class's memories ===== -/
def sl (k n m : Nat) : Nat := (k * 21 + n) * 21 + m
def tab (f : Nat → Int32) (k : Nat) : Nat → Nat → Int32 := fun n m => f (sl k n m)
def OKF (f : Nat → Int32) : Prop := ∀ k, k < 6 → OKT (tab f k)
theorem sl_lt {k n m : Nat} (hk : k < 6) (hn : n ≤ 20) (hm : m ≤ 20) : sl k n m < 2646 := by
  unfold sl
  have a : k * 21 ≤ 5 * 21 := Nat.mul_le_mul_right 21 (by omega)
  omega
theorem sl_inj {k n m j p q : Nat} (hn : n ≤ 20) (hm : m ≤ 20) (hp : p ≤ 20) (hq : q ≤ 20) (h : sl k n m = sl j p q) : k = j ∧ n = p ∧ m = q := by
  unfold sl at h
  omega
/-- how many are kept -/
def cntn (f : Nat → Int32) : Nat → Nat
  | 0 => 0
  | n + 1 => cntn f n + (if f n = -1 then 0 else 1)
def cnt (f : Nat → Int32) : Nat := cntn f 2646
theorem cntn_le {f : Nat → Int32} : ∀ n, cntn f n ≤ n := by
  intro n
  induction n with
  | zero => exact Nat.le_refl _
  | succ n ih =>
    show cntn f n + (if f n = -1 then 0 else 1) ≤ n + 1
    by_cases e : f n = -1
    · rw [if_pos e]; omega
    · rw [if_neg e]; omega
theorem cnt_le {f : Nat → Int32} : cnt f ≤ 2646 := cntn_le 2646
theorem cntn_out {f : Nat → Int32} {i : Nat} {v : Int32} : ∀ n, n ≤ i → cntn (upd f i v) n = cntn f n := by
  intro n
  induction n with
  | zero => intro _; rfl
  | succ n ih =>
    intro h
    show cntn (upd f i v) n + (if upd f i v n = -1 then 0 else 1) = cntn f n + (if f n = -1 then 0 else 1)
    have e : upd f i v n = f n := by unfold upd; rw [if_neg (by omega)]
    rw [ih (by omega), e]
theorem cntn_upd {f : Nat → Int32} {i : Nat} {v : Int32} : ∀ n, i < n → cntn (upd f i v) n + (if f i = -1 then 0 else 1) = cntn f n + (if v = -1 then 0 else 1) := by
  intro n
  induction n with
  | zero => intro h; omega
  | succ n ih =>
    intro h
    show cntn (upd f i v) n + (if upd f i v n = -1 then 0 else 1) + (if f i = -1 then 0 else 1) = cntn f n + (if f n = -1 then 0 else 1) + (if v = -1 then 0 else 1)
    by_cases e : i = n
    · subst e
      rw [cntn_out i (Nat.le_refl _), upd_at]
      omega
    · have e2 : upd f i v n = f n := by unfold upd; rw [if_neg (by omega)]
      have := ih (by omega)
      rw [e2]
      omega
theorem cnt_upd {f : Nat → Int32} {i : Nat} {v : Int32} (h : i < 2646) : cnt (upd f i v) + (if f i = -1 then 0 else 1) = cnt f + (if v = -1 then 0 else 1) := cntn_upd 2646 h
theorem tab_at {f : Nat → Int32} {k n m p q : Nat} {v : Int32} (hn : n ≤ 20) (hm : m ≤ 20) (hp : p ≤ 20) (hq : q ≤ 20) : tab (upd f (sl k n m) v) k p q = if n = p ∧ m = q then v else tab f k p q := by
  unfold tab upd
  by_cases e : n = p ∧ m = q
  · rw [if_pos e, if_pos (by rw [e.1, e.2])]
  · rw [if_neg e, if_neg (fun z => e (by obtain ⟨-, a, b⟩ := sl_inj hp hq hn hm z; exact ⟨a.symm, b.symm⟩))]
theorem tab_ne {f : Nat → Int32} {k j n m p q : Nat} {v : Int32} (hj : j ≠ k) (hn : n ≤ 20) (hm : m ≤ 20) (hp : p ≤ 20) (hq : q ≤ 20) : tab (upd f (sl k n m) v) j p q = tab f j p q := by
  unfold tab upd
  rw [if_neg (fun z => hj (sl_inj hp hq hn hm z).1)]
theorem o_m1ne {a : Nat} (h : a < 2147483648) : ¬ (Int32.ofNat a = (-1 : Int32)) := by
  intro z
  have e := congrArg Int32.toInt z
  rw [o_i h] at e
  have q : (-1 : Int32).toInt = -1 := by decide
  omega
theorem c_rests {N K m : Nat} {p : Int32} (hm : m ≤ 20) : fX5_rests N K p (Int32.ofNat m) = some (bi (rs p.toInt m)) := by
  have q0 : (0 : Int32).toInt = 0 := by decide
  unfold fX5_rests rs
  by_cases e : p.toInt ≤ 0
  · rw [if_pos (by rw [Int32.le_iff_toInt_le]; omega), decide_eq_true (Or.inl e)]; rfl
  · rw [if_neg (by rw [Int32.le_iff_toInt_le]; omega)]
    by_cases e2 : m = 0
    · rw [if_pos (by rw [e2]; rfl), decide_eq_true (Or.inr e2)]; rfl
    · rw [if_neg (by rw [show (0 : Int32) = Int32.ofNat 0 from rfl, o_eq (by omega) (by omega)]; exact e2), decide_eq_false (by omega)]; rfl
theorem p_0 {p : Int32} (h : p.toInt = 0) : p = 0 := Int32.toInt_inj.mp (h.trans (by decide))
theorem c_restw {N K k m : Nat} {p : Int32} (hk : k < 6) (hm : m ≤ 20) : fX5_restingWorth N K (Int32.ofNat k) p (Int32.ofNat m) = some (rv k p.toInt m) := by
  have q0 : (0 : Int32).toInt = 0 := by decide
  have z16 : fX5_restingWorth_16 N K (Int32.ofNat k) p (Int32.ofNat m) = some (if m = 0 then 1 else 0) := by
    unfold fX5_restingWorth_16
    by_cases e2 : m = 0
    · rw [if_pos (by rw [e2]; rfl), if_pos e2]
    · rw [if_neg (by rw [show (0 : Int32) = Int32.ofNat 0 from rfl, o_eq (by omega) (by omega)]; exact e2), if_neg e2]
  unfold fX5_restingWorth rv
  by_cases e : p.toInt = 0
  · rw [if_pos (p_0 e)]
    by_cases k1 : k = 1
    · rw [if_pos (by rw [k1]; rfl), z16]
      by_cases e2 : m = 0
      · rw [if_pos e2, if_pos ⟨e, Or.inl e2⟩]
      · rw [if_neg e2, if_neg (by omega)]
    · rw [if_neg (by rw [show (1 : Int32) = Int32.ofNat 1 from rfl, o_eq (by omega) (by omega)]; exact k1)]
      by_cases k5 : k = 5
      · rw [if_pos (by rw [k5]; rfl), z16]
        by_cases e2 : m = 0
        · rw [if_pos e2, if_pos ⟨e, Or.inl e2⟩]
        · rw [if_neg e2, if_neg (by omega)]
      · rw [if_neg (by rw [show (5 : Int32) = Int32.ofNat 5 from rfl, o_eq (by omega) (by omega)]; exact k5), if_pos ⟨e, Or.inr ⟨k1, k5⟩⟩]
  · rw [if_neg (fun z => e (by rw [z]; exact q0)), if_neg (fun z => e z.1)]
theorem c_slot {N K k n m : Nat} (hk : k < 6) (hn : n ≤ 20) (hm : m ≤ 20) : fX2_slotOf N K (Int32.ofNat k) (Int32.ofNat n) (Int32.ofNat m) = some (Int32.ofNat (sl k n m)) := by
  have n0 : ∀ a, a < 100 → ¬ (Int32.ofNat a < (0 : Int32)) := fun a ha => by rw [show (0 : Int32) = Int32.ofNat 0 from rfl, o_lt (by omega) (by omega)]; omega
  unfold fX2_slotOf
  rw [if_neg (n0 k (by omega)), if_neg (by rw [show (6 : Int32) = Int32.ofNat 6 from rfl, o_le (by omega) (by omega)]; omega), if_neg (n0 n (by omega)), if_neg (n_20 hn), if_neg (n0 m (by omega)), if_pos (by rw [show (20 : Int32) = Int32.ofNat 20 from rfl, o_le (by omega) (by omega)]; exact hm), show (21 : Int32) = Int32.ofNat 21 from rfl, o_mul, o_add, o_mul, o_add]
  rfl
/-- a leg's number, as an int -/
def lnI (k w n m : Nat) : Int32 := if w = 1 ∨ k = 5 then Int32.ofNat n - Int32.ofNat m else if k = 1 then Int32.ofNat n - (1 : Int32) else Int32.ofNat n
theorem lnI_i {k w n m : Nat} (hn : n ≤ 20) (hm : m ≤ 20) : (lnI k w n m).toInt = ln k w (n : Int) m := by
  unfold lnI ln
  by_cases e : w = 1 ∨ k = 5
  · rw [if_pos e, if_pos e, o_subi hn (by omega)]
  · rw [if_neg e, if_neg e]
    by_cases e1 : k = 1
    · rw [if_pos e1, if_pos e1, show (1 : Int32) = Int32.ofNat 1 from rfl, o_subi hn (by omega)]
      rfl
    · rw [if_neg e1, if_neg e1, o_i (by omega)]
theorem c_legs {N K : Nat} {rec : Int32 → (Nat → Int32) → Int32 → Int32 → Int32 → Int32 → Int32 → Int32 → Int32 → Int32 → Int32 → Int32 → Option (Int32 × Int32 × (Nat → Int32) × Int32 × Int32 × Int32)} {k n m : Nat} (hk : k < 6) (hn : n ≤ 20) (hm1 : 1 ≤ m) (hm : m ≤ 20) {sz : Int32} {f : Nat → Int32} {c0 c1 c2 c3 c4 c5 dep : Int32} {A0 A1 : Int32 × Int32 × (Nat → Int32) × Int32 × Int32 × Int32}
    (e0 : rec sz f c0 c1 c2 c3 c4 c5 (Int32.ofNat k) (lnI k 0 n m) (Int32.ofNat (lm k 0 m)) dep = some A0)
    (e1 : hl k 1 m = true → rec A0.2.1 A0.2.2.1 c0 A0.2.2.2.1 A0.2.2.2.2.1 A0.2.2.2.2.2 c4 c5 (Int32.ofNat k) (lnI k 1 n m) (Int32.ofNat (lm k 1 m)) dep = some A1) :
    fX2_sumOfLegs N K rec sz f c0 c1 c2 c3 c4 c5 (Int32.ofNat k) (Int32.ofNat n) (Int32.ofNat m) dep = some (if hl k 1 m = true then (A0.1 + A1.1, A1.2) else (A0.1 + 0, A0.2)) := by
  have hs : Int32.ofNat m - (1 : Int32) = Int32.ofNat (m - 1) := by rw [show (1 : Int32) = Int32.ofNat 1 from rfl, o_sub hm1]
  have hk6 : k = 0 ∨ k = 1 ∨ k = 2 ∨ k = 3 ∨ k = 4 ∨ k = 5 := by omega
  unfold fX2_sumOfLegs
  by_cases par : m % 2 = 0
  · rw [if_pos (by rw [o_par (by omega)]; exact par)]
    rcases hk6 with rfl | rfl | rfl | rfl | rfl | rfl
    · unfold fX2_sumOfLegs_11
      rw [if_pos (by decide)]
      have f0 : rec sz f c0 c1 c2 c3 c4 c5 (Int32.ofNat 0) (Int32.ofNat n) (Int32.ofNat (m - 1)) dep = some A0 := e0
      have hh : hl 0 1 m = true := decide_eq_true (Or.inr (Or.inr ⟨by decide, by decide⟩))
      have f1 : rec A0.2.1 A0.2.2.1 c0 A0.2.2.2.1 A0.2.2.2.2.1 A0.2.2.2.2.2 c4 c5 (Int32.ofNat 0) (Int32.ofNat n - Int32.ofNat m) (Int32.ofNat m) dep = some A1 := e1 hh
      rw [hs, f0, Option.bind_some, f1, Option.bind_some, if_pos hh]
    · unfold fX2_sumOfLegs_11
      rw [if_neg (by decide), if_pos (by decide)]
      have f0 : rec sz f c0 c1 c2 c3 c4 c5 (Int32.ofNat 1) (Int32.ofNat n - (1 : Int32)) (Int32.ofNat (m - 1)) dep = some A0 := e0
      have hh : hl 1 1 m = true := decide_eq_true (Or.inr (Or.inr ⟨by decide, by decide⟩))
      have f1 : rec A0.2.1 A0.2.2.1 c0 A0.2.2.2.1 A0.2.2.2.2.1 A0.2.2.2.2.2 c4 c5 (Int32.ofNat 1) (Int32.ofNat n - Int32.ofNat m) (Int32.ofNat m) dep = some A1 := e1 hh
      rw [hs, f0, Option.bind_some, f1, Option.bind_some, if_pos hh]
    · unfold fX2_sumOfLegs_11
      rw [if_neg (by decide), if_neg (by decide), if_pos (by decide)]
      have f0 : rec sz f c0 c1 c2 c3 c4 c5 (Int32.ofNat 2) (Int32.ofNat n) (Int32.ofNat (m - 1)) dep = some A0 := e0
      have hh : hl 2 1 m = true := decide_eq_true (Or.inr (Or.inr ⟨by decide, by decide⟩))
      have f1 : rec A0.2.1 A0.2.2.1 c0 A0.2.2.2.1 A0.2.2.2.2.1 A0.2.2.2.2.2 c4 c5 (Int32.ofNat 2) (Int32.ofNat n - Int32.ofNat m) (Int32.ofNat (m - 1)) dep = some A1 := e1 hh
      rw [hs, f0, Option.bind_some, f1, Option.bind_some, if_pos hh]
    · unfold fX2_sumOfLegs_11
      rw [if_neg (by decide), if_neg (by decide), if_neg (by decide), if_pos (by decide)]
      have f0 : rec sz f c0 c1 c2 c3 c4 c5 (Int32.ofNat 3) (Int32.ofNat n) (Int32.ofNat (m - 1)) dep = some A0 := e0
      have hh : ¬ hl 3 1 m = true := fun z => absurd (of_decide_eq_true z) (by omega)
      rw [hs, f0, Option.bind_some, if_pos rfl, if_neg hh]
    · unfold fX2_sumOfLegs_11
      rw [if_neg (by decide), if_neg (by decide), if_neg (by decide), if_neg (by decide), if_pos (by decide)]
      have f0 : rec sz f c0 c1 c2 c3 c4 c5 (Int32.ofNat 4) (Int32.ofNat n) (Int32.ofNat (m - 1)) dep = some A0 := e0
      have hh : ¬ hl 4 1 m = true := fun z => absurd (of_decide_eq_true z) (by omega)
      rw [hs, f0, Option.bind_some, if_pos rfl, if_neg hh]
    · unfold fX2_sumOfLegs_11
      rw [if_neg (by decide), if_neg (by decide), if_neg (by decide), if_neg (by decide), if_neg (by decide)]
      have f0 : rec sz f c0 c1 c2 c3 c4 c5 (Int32.ofNat 5) (Int32.ofNat n - Int32.ofNat m) (Int32.ofNat m) dep = some A0 := e0
      have hh : hl 5 1 m = true := decide_eq_true (Or.inr (Or.inr ⟨by decide, by decide⟩))
      have f1 : rec A0.2.1 A0.2.2.1 c0 A0.2.2.2.1 A0.2.2.2.2.1 A0.2.2.2.2.2 c4 c5 (Int32.ofNat 5) (Int32.ofNat n - Int32.ofNat m) (Int32.ofNat (m - 1)) dep = some A1 := e1 hh
      rw [hs, f0, Option.bind_some, f1, Option.bind_some, if_pos hh]
  · rw [if_neg (by rw [o_par (by omega)]; exact par)]
    rcases hk6 with rfl | rfl | rfl | rfl | rfl | rfl
    · unfold fX2_sumOfLegs_11
      rw [if_pos (by decide)]
      have f0 : rec sz f c0 c1 c2 c3 c4 c5 (Int32.ofNat 0) (Int32.ofNat n) (Int32.ofNat (m - 1)) dep = some A0 := e0
      have hh : hl 0 1 m = true := decide_eq_true (Or.inr (Or.inr ⟨by decide, by decide⟩))
      have f1 : rec A0.2.1 A0.2.2.1 c0 A0.2.2.2.1 A0.2.2.2.2.1 A0.2.2.2.2.2 c4 c5 (Int32.ofNat 0) (Int32.ofNat n - Int32.ofNat m) (Int32.ofNat m) dep = some A1 := e1 hh
      rw [hs, f0, Option.bind_some, f1, Option.bind_some, if_pos hh]
    · unfold fX2_sumOfLegs_11
      rw [if_neg (by decide), if_pos (by decide)]
      have f0 : rec sz f c0 c1 c2 c3 c4 c5 (Int32.ofNat 1) (Int32.ofNat n - (1 : Int32)) (Int32.ofNat (m - 1)) dep = some A0 := e0
      have hh : hl 1 1 m = true := decide_eq_true (Or.inr (Or.inr ⟨by decide, by decide⟩))
      have f1 : rec A0.2.1 A0.2.2.1 c0 A0.2.2.2.1 A0.2.2.2.2.1 A0.2.2.2.2.2 c4 c5 (Int32.ofNat 1) (Int32.ofNat n - Int32.ofNat m) (Int32.ofNat m) dep = some A1 := e1 hh
      rw [hs, f0, Option.bind_some, f1, Option.bind_some, if_pos hh]
    · unfold fX2_sumOfLegs_11
      rw [if_neg (by decide), if_neg (by decide), if_pos (by decide)]
      have f0 : rec sz f c0 c1 c2 c3 c4 c5 (Int32.ofNat 2) (Int32.ofNat n) (Int32.ofNat (m - 1)) dep = some A0 := e0
      have hh : hl 2 1 m = true := decide_eq_true (Or.inr (Or.inr ⟨by decide, by decide⟩))
      have f1 : rec A0.2.1 A0.2.2.1 c0 A0.2.2.2.1 A0.2.2.2.2.1 A0.2.2.2.2.2 c4 c5 (Int32.ofNat 2) (Int32.ofNat n - Int32.ofNat m) (Int32.ofNat (m - 1)) dep = some A1 := e1 hh
      rw [hs, f0, Option.bind_some, f1, Option.bind_some, if_pos hh]
    · unfold fX2_sumOfLegs_11
      rw [if_neg (by decide), if_neg (by decide), if_neg (by decide), if_pos (by decide)]
      have f0 : rec sz f c0 c1 c2 c3 c4 c5 (Int32.ofNat 3) (Int32.ofNat n) (Int32.ofNat (m - 1)) dep = some A0 := e0
      have hh : hl 3 1 m = true := decide_eq_true (Or.inr (Or.inl (by omega)))
      have f1 : rec A0.2.1 A0.2.2.1 c0 A0.2.2.2.1 A0.2.2.2.2.1 A0.2.2.2.2.2 c4 c5 (Int32.ofNat 3) (Int32.ofNat n - Int32.ofNat m) (Int32.ofNat m) dep = some A1 := e1 hh
      rw [hs, f0, Option.bind_some, if_neg (by decide), f1, Option.bind_some, if_pos hh]
    · unfold fX2_sumOfLegs_11
      rw [if_neg (by decide), if_neg (by decide), if_neg (by decide), if_neg (by decide), if_pos (by decide)]
      have f0 : rec sz f c0 c1 c2 c3 c4 c5 (Int32.ofNat 4) (Int32.ofNat n) (Int32.ofNat (m - 1)) dep = some A0 := e0
      have hh : hl 4 1 m = true := decide_eq_true (Or.inr (Or.inl (by omega)))
      have f1 : rec A0.2.1 A0.2.2.1 c0 A0.2.2.2.1 A0.2.2.2.2.1 A0.2.2.2.2.2 c4 c5 (Int32.ofNat 4) (Int32.ofNat n - Int32.ofNat m) (Int32.ofNat (m - 1)) dep = some A1 := e1 hh
      rw [hs, f0, Option.bind_some, if_neg (by decide), f1, Option.bind_some, if_pos hh]
    · unfold fX2_sumOfLegs_11
      rw [if_neg (by decide), if_neg (by decide), if_neg (by decide), if_neg (by decide), if_neg (by decide)]
      have f0 : rec sz f c0 c1 c2 c3 c4 c5 (Int32.ofNat 5) (Int32.ofNat n - Int32.ofNat m) (Int32.ofNat m) dep = some A0 := e0
      have hh : hl 5 1 m = true := decide_eq_true (Or.inr (Or.inr ⟨by decide, by decide⟩))
      have f1 : rec A0.2.1 A0.2.2.1 c0 A0.2.2.2.1 A0.2.2.2.2.1 A0.2.2.2.2.2 c4 c5 (Int32.ofNat 5) (Int32.ofNat n - Int32.ofNat m) (Int32.ofNat (m - 1)) dep = some A1 := e1 hh
      rw [hs, f0, Option.bind_some, f1, Option.bind_some, if_pos hh]
/-! counts -/
def rr (k w n m : Nat) : Nat := if hl k w m = true ∧ ¬ rs (ln k w (n : Int) m) (lm k w m) = true then 1 else 0
/-- how many legs of a case are wanted -/
def nl (k n m : Nat) : Nat := rr k 0 n m + rr k 1 n m
theorem nl_t {k n m : Nat} (h : hl k 1 m = true) : (if rs (ln k 0 (n : Int) m) (lm k 0 m) = true then 0 else 1) + (if rs (ln k 1 (n : Int) m) (lm k 1 m) = true then 0 else 1) = nl k n m := by
  have h0 : hl k 0 m = true := decide_eq_true (Or.inl rfl)
  unfold nl rr
  by_cases a : rs (ln k 0 (n : Int) m) (lm k 0 m) = true
  · by_cases b : rs (ln k 1 (n : Int) m) (lm k 1 m) = true
    · rw [if_pos a, if_pos b, if_neg (fun z => z.2 a), if_neg (fun z => z.2 b)]
    · rw [if_pos a, if_neg b, if_neg (fun z => z.2 a), if_pos ⟨h, b⟩]
  · by_cases b : rs (ln k 1 (n : Int) m) (lm k 1 m) = true
    · rw [if_neg a, if_pos b, if_pos ⟨h0, a⟩, if_neg (fun z => z.2 b)]
    · rw [if_neg a, if_neg b, if_pos ⟨h0, a⟩, if_pos ⟨h, b⟩]
theorem nl_f {k n m : Nat} (h : ¬ hl k 1 m = true) : (if rs (ln k 0 (n : Int) m) (lm k 0 m) = true then 0 else 1) = nl k n m := by
  have h0 : hl k 0 m = true := decide_eq_true (Or.inl rfl)
  unfold nl rr
  rw [if_neg (fun z => h z.1) (c := hl k 1 m = true ∧ ¬ rs (ln k 1 (n : Int) m) (lm k 1 m) = true)]
  by_cases a : rs (ln k 0 (n : Int) m) (lm k 0 m) = true
  · rw [if_pos a, if_neg (fun z => z.2 a)]
  · rw [if_neg a, if_pos ⟨h0, a⟩]
def nlS (s : Nat) : Nat := nl (s / 441) (s / 21 % 21) (s % 21)
theorem nlS_sl {k n m : Nat} (hn : n ≤ 20) (hm : m ≤ 20) : nlS (sl k n m) = nl k n m := by
  unfold nlS
  rw [show sl k n m / 441 = k from by unfold sl; omega, show sl k n m / 21 % 21 = n from by unfold sl; omega, show sl k n m % 21 = m from by unfold sl; omega]
def phn (f : Nat → Int32) : Nat → Nat
  | 0 => 0
  | n + 1 => phn f n + (if f n = -1 then 0 else nlS n)
def phi (f : Nat → Int32) : Nat := phn f 2646
theorem phn_out {f : Nat → Int32} {i : Nat} {v : Int32} : ∀ n, n ≤ i → phn (upd f i v) n = phn f n := by
  intro n
  induction n with
  | zero => intro _; rfl
  | succ n ih =>
    intro h
    show phn (upd f i v) n + (if upd f i v n = -1 then 0 else nlS n) = phn f n + (if f n = -1 then 0 else nlS n)
    have e : upd f i v n = f n := by unfold upd; rw [if_neg (by omega)]
    rw [ih (by omega), e]
theorem phn_upd {f : Nat → Int32} {i : Nat} {v : Int32} : ∀ n, i < n → phn (upd f i v) n + (if f i = -1 then 0 else nlS i) = phn f n + (if v = -1 then 0 else nlS i) := by
  intro n
  induction n with
  | zero => intro h; omega
  | succ n ih =>
    intro h
    show phn (upd f i v) n + (if upd f i v n = -1 then 0 else nlS n) + (if f i = -1 then 0 else nlS i) = phn f n + (if f n = -1 then 0 else nlS n) + (if v = -1 then 0 else nlS i)
    by_cases e : i = n
    · subst e
      rw [phn_out i (Nat.le_refl _), upd_at]
      omega
    · have e2 : upd f i v n = f n := by unfold upd; rw [if_neg (by omega)]
      have := ih (by omega)
      rw [e2]
      omega
theorem phi_upd {f : Nat → Int32} {i : Nat} {v : Int32} (h : i < 2646) : phi (upd f i v) + (if f i = -1 then 0 else nlS i) = phi f + (if v = -1 then 0 else nlS i) := phn_upd 2646 h
theorem phn_congr {f g : Nat → Int32} : ∀ n, (∀ s, s < n → g s = f s) → phn g n = phn f n := by
  intro n
  induction n with
  | zero => intro _; rfl
  | succ n ih =>
    intro h
    show phn g n + (if g n = -1 then 0 else nlS n) = phn f n + (if f n = -1 then 0 else nlS n)
    rw [ih (fun s hs => h s (by omega)), h n (by omega)]
theorem o_a2 {c : Int32} {a b : Nat} : c + Int32.ofNat a + Int32.ofNat b = c + Int32.ofNat (a + b) := by rw [Int32.add_assoc, o_add]
theorem o_a0 {c : Int32} : c = c + Int32.ofNat 0 := (Int32.add_zero c).symm
/-- what is wanted, made, found between two contents (r: the cases asked for) -/
def CK (f f' : Nat → Int32) (r : Nat) (c1 c1' c2 c2' c3 c3' : Int32) : Prop := ∃ w d : Nat, d ≤ w ∧ w + phi f = phi f' + r ∧ cnt f' = cnt f + d ∧ c1' = c1 + Int32.ofNat w ∧ c2' = c2 + Int32.ofNat d ∧ c3' = c3 + Int32.ofNat (w - d)
theorem CK.r {f : Nat → Int32} {c1 c2 c3 : Int32} : CK f f 0 c1 c1 c2 c2 c3 c3 := ⟨0, 0, Nat.le_refl _, by omega, by omega, o_a0, o_a0, o_a0⟩
theorem CK.found {f : Nat → Int32} {c1 c2 c3 : Int32} : CK f f 1 c1 (c1 + (1 : Int32)) c2 c2 c3 (c3 + (1 : Int32)) := ⟨1, 0, by omega, by omega, by omega, rfl, o_a0, rfl⟩
theorem CK.trans {f f1 f2 : Nat → Int32} {r1 r2 : Nat} {a1 b1 e1 a2 b2 e2 a3 b3 e3 : Int32} (h : CK f f1 r1 a1 b1 a2 b2 a3 b3) (g : CK f1 f2 r2 b1 e1 b2 e2 b3 e3) : CK f f2 (r1 + r2) a1 e1 a2 e2 a3 e3 := by
  obtain ⟨w, d, h0, h1, h2, rfl, rfl, rfl⟩ := h
  obtain ⟨w', d', g0, g1, g2, rfl, rfl, rfl⟩ := g
  exact ⟨w + w', d + d', by omega, by omega, by omega, o_a2, o_a2, by rw [o_a2, show w - d + (w' - d') = w + w' - (d + d') from by omega]⟩
theorem CK.made {f f3 : Nat → Int32} {i r : Nat} {v c1 d1 c2 d2 c3 d3 : Int32} (h : CK f f3 r (c1 + (1 : Int32)) d1 c2 d2 c3 d3) (hi : i < 2646) (hu : f3 i = -1) (hv : ¬ v = -1) (hn : nlS i = r) : CK f (upd f3 i v) 1 c1 d1 c2 (d2 + (1 : Int32)) c3 d3 := by
  obtain ⟨w, d, h0, h1, h2, rfl, rfl, rfl⟩ := h
  have p := phi_upd (f := f3) (v := v) hi
  have q := cnt_upd (f := f3) (v := v) hi
  rw [if_pos hu, if_neg hv] at p q
  refine ⟨1 + w, d + 1, by omega, by omega, by omega, ?_, ?_, by rw [show 1 + w - (d + 1) = w - d from by omega]⟩
  · exact o_a2 (a := 1)
  · exact o_a2 (b := 1)
theorem OKF.u {f : Nat → Int32} (h : OKF f) {k : Nat} (hk : k < 6) : OKT (tab f k) := h k hk
theorem Fil.r {T : Nat → Nat → Int32} {k m : Nat} {x : Int} (hx : x ≤ 20) (hm : m ≤ 20) (h : rs x m = true ∨ ¬ T x.toNat m = -1) : Fil T T k x m := by
  intro p q _ _
  refine ⟨fun z => ?_, fun _ => rfl⟩
  obtain ⟨a, b, -⟩ := (RR_eq hx hm).mp z
  rcases h with h | h
  · exact absurd h a
  · exact absurd b h
set_option maxHeartbeats 1000000 in
/-- what a memory knows, its contents behind it -/
theorem c_wk {N K k : Nat} (hk : k < 6) {c0 c4 c5 : Int32} : ∀ d fu (x : Int) m dep (p1 sz : Int32) (f : Nat → Int32) (c1 c2 c3 : Int32), p1.toInt = x → x ≤ 20 → m ≤ 20 → x.toNat + m < d → d ≤ fu → dep + d ≤ 46 → OKF f → sz = Int32.ofNat (cnt f) → ∃ sz' f' c1' c2' c3', fX2_worthKnown N K fu sz f c0 c1 c2 c3 c4 c5 (Int32.ofNat k) p1 (Int32.ofNat m) (Int32.ofNat dep) = some (VV (tab f k) k x m, sz', f', c1', c2', c3') ∧ sz' = Int32.ofNat (cnt f') ∧ Fil (tab f k) (tab f' k) k x m ∧ OKF f' ∧ CK f f' (if rs x m = true then 0 else 1) c1 c1' c2 c2' c3 c3' ∧ ∀ j, j ≠ k → ∀ p q, p ≤ 20 → q ≤ 20 → tab f' j p q = tab f j p q := by
  intro d
  induction d with
  | zero => intro fu x m dep p1 sz f c1 c2 c3 _ _ _ h; omega
  | succ d ih =>
    intro fu x m dep p1 sz f c1 c2 c3 hp hx hm hd hfu hdep hf hsz
    obtain ⟨fu, rfl⟩ : ∃ z, fu = z + 1 := ⟨fu - 1, by omega⟩
    have hT := hf k hk
    unfold fX2_worthKnown
    rw [c_rests hm, Option.bind_some, hp]
    by_cases r : rs x m = true
    · refine ⟨sz, f, c1, c2, c3, ?_, hsz, Fil.r hx hm (Or.inl r), hf, by rw [if_pos r]; exact CK.r, fun _ _ _ _ _ _ => rfl⟩
      rw [r, if_neg bitn, c_restw hk hm, Option.bind_some, hp, VV_eq hx hm, if_pos r]
    · obtain ⟨g1, g2⟩ := rs_f r
      rw [Bool.eq_false_iff.mpr r, if_pos bif0]
      obtain ⟨n, rfl, n1, n2⟩ := o_of (p := p1) (a := 1) (b := 20) (by omega) (by omega)
      have en : (Int32.ofNat n).toInt = (n : Int) := o_i (by omega)
      obtain rfl : x = (n : Int) := by omega
      have ent : ((n : Int)).toNat = n := by omega
      rw [ent] at hd
      have hsl := sl_lt hk n2 hm
      have hv := VV_eq (T := tab f k) (k := k) hx hm
      rw [if_neg r, ent] at hv
      rw [c_slot hk n2 hm, Option.bind_some, if_neg (o_m1ne (by omega)), if_pos (by rw [show (45 : Int32) = Int32.ofNat 45 from rfl, o_le (by omega) (by omega)]; omega), if_neg (o_ob hsl (by omega)), o_c (by omega)]
      by_cases u : f (sl k n m) = -1
      · have hu : tab f k n m = -1 := u
        rw [if_pos hu] at hv
        have l0 := leg_lt (k := k) (w := 0) (by omega) r
        have l1 := leg_lt (k := k) (w := 1) (by omega) r
        rw [ent] at l0 l1
        obtain ⟨e1, -, e2⟩ := leg_bd (k := k) (w := 0) hx hm r
        obtain ⟨e3, -, e4⟩ := leg_bd (k := k) (w := 1) hx hm r
        obtain ⟨sz1, f1, a1, a2, a3, i1, i2, i3, i4, i6, i5⟩ := ih fu (ln k 0 (n : Int) m) (lm k 0 m) (dep + 1) (lnI k 0 n m) sz f (c1 + (1 : Int32)) c2 c3 (lnI_i n2 hm) e1 e2 (by omega) (by omega) (by omega) hf hsz
        obtain ⟨sz2, f2, b1, b2, b3, j1, j2, j3, j4, j6, j5⟩ := ih fu (ln k 1 (n : Int) m) (lm k 1 m) (dep + 1) (lnI k 1 n m) sz1 f1 a1 a2 a3 (lnI_i n2 hm) e3 e4 (by omega) (by omega) (by omega) i4 i2
        have hvl := Fil.V hT hk e1 e2 i3 ((ln k 1 (n : Int) m).toNat + lm k 1 m + 1) _ _ (by omega) e3 e4
        have legs := c_legs (N := N) (K := K) (rec := fX2_worthKnown N K fu) hk n2 g2 hm i1 (fun _ => j1)
        rw [if_pos u, o_1, legs, Option.bind_some]
        -- the contents behind the legs
        obtain ⟨sz3, f3, d1, d2, d3, he, hs3, hfil, hok, hck, hoth⟩ : ∃ sz3 f3 d1 d2 d3, (if hl k 1 m = true then ((VV (tab f k) k (ln k 0 (n : Int) m) (lm k 0 m), sz1, f1, a1, a2, a3).1 + (VV (tab f1 k) k (ln k 1 (n : Int) m) (lm k 1 m), sz2, f2, b1, b2, b3).1, (VV (tab f1 k) k (ln k 1 (n : Int) m) (lm k 1 m), sz2, f2, b1, b2, b3).2) else ((VV (tab f k) k (ln k 0 (n : Int) m) (lm k 0 m), sz1, f1, a1, a2, a3).1 + 0, (VV (tab f k) k (ln k 0 (n : Int) m) (lm k 0 m), sz1, f1, a1, a2, a3).2)) = (VV (tab f k) k (n : Int) m, sz3, f3, d1, d2, d3) ∧ sz3 = Int32.ofNat (cnt f3) ∧ (∀ p q, p ≤ 20 → q ≤ 20 → ((RR (tab f k) k (ln k 0 (n : Int) m) (lm k 0 m) p q ∨ (hl k 1 m = true ∧ RR (tab f k) k (ln k 1 (n : Int) m) (lm k 1 m) p q)) → tab f3 k p q = VV (tab f k) k p q) ∧ (¬ (RR (tab f k) k (ln k 0 (n : Int) m) (lm k 0 m) p q ∨ (hl k 1 m = true ∧ RR (tab f k) k (ln k 1 (n : Int) m) (lm k 1 m) p q)) → tab f3 k p q = tab f k p q)) ∧ OKF f3 ∧ CK f f3 (nl k n m) (c1 + (1 : Int32)) d1 c2 d2 c3 d3 ∧ ∀ j, j ≠ k → ∀ p q, p ≤ 20 → q ≤ 20 → tab f3 j p q = tab f j p q := by
          by_cases hh : hl k 1 m = true
          · rw [if_pos hh] at hv
            refine ⟨sz2, f2, b1, b2, b3, ?_, j2, ?_, j4, by rw [← nl_t hh]; exact CK.trans i6 j6, fun j hj p q hp2 hq2 => (j5 j hj p q hp2 hq2).trans (i5 j hj p q hp2 hq2)⟩
            · rw [if_pos hh, hv]
              show (VV (tab f k) k (ln k 0 (n : Int) m) (lm k 0 m) + VV (tab f1 k) k (ln k 1 (n : Int) m) (lm k 1 m), sz2, f2, b1, b2, b3) = _
              rw [hvl]
            · intro p q hp2 hq2
              have hpv := Fil.V hT hk e1 e2 i3 (((p : Nat) : Int).toNat + q + 1) (p : Int) q (by omega) (by omega) hq2
              constructor
              · intro z
                by_cases z1 : RR (tab f1 k) k (ln k 1 (n : Int) m) (lm k 1 m) p q
                · rw [(j3 p q hp2 hq2).1 z1, hpv]
                · rw [(j3 p q hp2 hq2).2 z1]
                  have z0 : RR (tab f k) k (ln k 0 (n : Int) m) (lm k 0 m) p q := by
                    rcases z with z | ⟨-, z⟩
                    · exact z
                    · rcases Fil.sup e1 e2 i3 ((ln k 1 (n : Int) m).toNat + lm k 1 m + 1) _ _ (by omega) e3 e4 z with a | a
                      · exact absurd a z1
                      · exact a
                  exact (i3 p q hp2 hq2).1 z0
              · intro z
                have z1 : ¬ RR (tab f1 k) k (ln k 1 (n : Int) m) (lm k 1 m) p q := fun a => z (Or.inr ⟨hh, Fil.sub hT hk i3 ((ln k 1 (n : Int) m).toNat + lm k 1 m + 1) _ _ (by omega) e3 e4 a⟩)
                rw [(j3 p q hp2 hq2).2 z1]
                exact (i3 p q hp2 hq2).2 (fun a => z (Or.inl a))
          · rw [if_neg hh] at hv
            refine ⟨sz1, f1, a1, a2, a3, ?_, i2, ?_, i4, by rw [← nl_f hh]; exact i6, i5⟩
            · rw [if_neg hh, hv]
            · intro p q hp2 hq2
              constructor
              · intro z
                rcases z with z | ⟨z, -⟩
                · exact (i3 p q hp2 hq2).1 z
                · exact absurd z hh
              · intro z
                exact (i3 p q hp2 hq2).2 (fun a => z (Or.inl a))
        rw [he]
        have hnr : ¬ (RR (tab f k) k (ln k 0 (n : Int) m) (lm k 0 m) n m ∨ (hl k 1 m = true ∧ RR (tab f k) k (ln k 1 (n : Int) m) (lm k 1 m) n m)) := by
          rintro (z | ⟨-, z⟩)
          · have := (RR_un ((ln k 0 (n : Int) m).toNat + lm k 0 m + 1) _ _ (by omega) e1 e2 z).2.2.2.2.2
            omega
          · have := (RR_un ((ln k 1 (n : Int) m).toNat + lm k 1 m + 1) _ _ (by omega) e3 e4 z).2.2.2.2.2
            omega
        have hu3 : f3 (sl k n m) = -1 := ((hfil n m n2 hm).2 hnr).trans hu
        have hvn : ¬ VV (tab f k) k (n : Int) m = -1 := VV_ne hT hk hx hm
        have hc := cnt_upd (f := f3) (v := VV (tab f k) k (n : Int) m) hsl
        rw [if_pos hu3, if_neg hvn, Nat.add_zero] at hc
        have hfin : Fil (tab f k) (tab (upd f3 (sl k n m) (VV (tab f k) k (n : Int) m)) k) k (n : Int) m := by
          intro p q hp2 hq2
          rw [tab_at n2 hm hp2 hq2]
          constructor
          · intro z
            by_cases c : n = p ∧ m = q
            · rw [if_pos c, c.1, c.2]
            · rw [if_neg c]
              obtain ⟨-, -, z2⟩ := (RR_eq hx hm).mp z
              rw [ent] at z2
              rcases z2 with z2 | z2
              · exact absurd z2 c
              · exact (hfil p q hp2 hq2).1 z2
          · intro z
            have c : ¬ (n = p ∧ m = q) := by
              rintro ⟨rfl, rfl⟩
              exact z (by have s := RR_self (T := tab f k) (k := k) hx hm r (by rw [ent]; exact hu); rw [ent] at s; exact s)
            rw [if_neg c]
            exact (hfil p q hp2 hq2).2 (fun a => z ((RR_eq hx hm).mpr ⟨r, by rw [ent]; exact hu, Or.inr a⟩))
        refine ⟨Int32.ofNat (cnt (upd f3 (sl k n m) (VV (tab f k) k (n : Int) m))), upd f3 (sl k n m) (VV (tab f k) k (n : Int) m), d1, d2 + (1 : Int32), d3, ?_, rfl, hfin, ?_, by rw [if_neg (by decide)]; exact hck.made hsl hu3 hvn (nlS_sl n2 hm), ?_⟩
        · unfold fX2_keep
          rw [c_slot hk n2 hm, Option.bind_some, if_neg (o_m1ne (by omega)), if_neg (o_ob hsl (by omega)), o_c (by omega), if_pos hu3, if_neg (o_ob2 hsl (by omega)), Option.bind_some, hc, hs3, ← o_1]
        · intro j hj
          by_cases e : j = k
          · rw [e]; exact Fil.ok hT hk hx hm hfin
          · intro p q hp2 hq2
            rw [tab_ne e n2 hm hp2 hq2]
            exact hok j hj p q hp2 hq2
        · intro j hj p q hp2 hq2
          rw [tab_ne hj n2 hm hp2 hq2]
          exact hoth j hj p q hp2 hq2
      · have hu : ¬ tab f k n m = -1 := u
        rw [if_neg hu] at hv
        refine ⟨sz, f, c1 + (1 : Int32), c2, c3 + (1 : Int32), ?_, hsz, Fil.r hx hm (Or.inr (by rw [ent]; exact hu)), hf, by rw [if_neg (by decide)]; exact CK.found, fun _ _ _ _ _ _ => rfl⟩
        rw [if_neg u, if_neg (o_ob2 hsl (by omega)), hv]
        rfl
theorem c_recall {N k n m : Nat} (hk : k < 6) (hn : n ≤ 20) (hm : m ≤ 20) {sz c0 c1 c2 c3 c4 c5 : Int32} {f : Nat → Int32} {K : Nat} (hK : 100 ≤ K) (hf : OKF f) (hsz : sz = Int32.ofNat (cnt f)) : ∃ sz' f' c1' c2' c3', fX2_recall N K sz f c0 c1 c2 c3 c4 c5 (Int32.ofNat k) (Int32.ofNat n) (Int32.ofNat m) = some (VV (tab f k) k (n : Int) m, sz', f', c1', c2', c3') ∧ sz' = Int32.ofNat (cnt f') ∧ Fil (tab f k) (tab f' k) k (n : Int) m ∧ OKF f' ∧ CK f f' (if rs (n : Int) m = true then 0 else 1) c1 c1' c2 c2' c3 c3' ∧ ∀ j, j ≠ k → ∀ p q, p ≤ 20 → q ≤ 20 → tab f' j p q = tab f j p q := by
  obtain ⟨sz', f', c1', c2', c3', h1, h2⟩ := c_wk (N := N) (K := K) hk (c0 := c0) (c4 := c4) (c5 := c5) 45 K (n : Int) m 0 (Int32.ofNat n) sz f c1 c2 c3 (o_i (by omega)) (by omega) hm (by omega) (by omega) (by omega) hf hsz
  refine ⟨sz', f', c1', c2', c3', ?_, h2⟩
  unfold fX2_recall
  rw [show (0 : Int32) = Int32.ofNat 0 from rfl, h1, Option.bind_some]

end MG_60lcmem
section MG_60mmmem
/-! ===== the reference's memories ===== -/
def cd (k n m : Nat) : Nat := 1024 * k + 32 * n + m
def tabm (g : Nat → Int32) (k : Nat) : Nat → Nat → Int32 := fun n m => g (cd k n m)
theorem cd_lt {k n m : Nat} (hk : k < 6) (hn : n ≤ 20) (hm : m ≤ 20) : cd k n m < 6144 := by unfold cd; omega
theorem cd_inj {k n m j p q : Nat} (hn : n ≤ 20) (hm : m ≤ 20) (hp : p ≤ 20) (hq : q ≤ 20) (h : cd k n m = cd j p q) : k = j ∧ n = p ∧ m = q := by
  unfold cd at h
  omega
theorem en_ {a b : Nat} {c : Int32} (hc : c = Int32.ofNat b) (ha : a < 2147483648) (hb : b < 2147483648) (h : ¬ a = b) : ¬ (Int32.ofNat a = c) := by rw [hc, o_eq ha hb]; exact h
theorem ep_ {a b : Nat} {c : Int32} (hc : c = Int32.ofNat b) (h : a = b) : Int32.ofNat a = c := by rw [hc, h]
theorem m_rests {N K m : Nat} {p : Int32} (hm : m ≤ 20) : fX7_rests N K p (Int32.ofNat m) = some (bi (rs p.toInt m)) := by
  have q0 : (0 : Int32).toInt = 0 := by decide
  unfold fX7_rests rs
  by_cases e : p.toInt ≤ 0
  · rw [if_pos (by rw [Int32.le_iff_toInt_le]; omega), decide_eq_true (Or.inl e)]; rfl
  · rw [if_neg (by rw [Int32.le_iff_toInt_le]; omega)]
    by_cases e2 : m = 0
    · rw [if_pos (ep_ (c := 0) (b := 0) rfl e2), decide_eq_true (Or.inr e2)]; rfl
    · rw [if_neg (en_ (c := 0) (b := 0) rfl (by omega) (by omega) e2), decide_eq_false (by omega)]; rfl
theorem m_code {N K k n m : Nat} : fX7_code N K (Int32.ofNat k) (Int32.ofNat n) (Int32.ofNat m) = some (Int32.ofNat (cd k n m)) := by
  unfold fX7_code
  rw [show (1024 : Int32) = Int32.ofNat 1024 from rfl, show (32 : Int32) = Int32.ofNat 32 from rfl, o_mul, o_mul, o_add, o_add]
  rfl
theorem m_b0 {N K : Nat} : fX7_bit N K (0 : Int32) = some 0 := by unfold fX7_bit; rw [if_pos rfl]
theorem m_b1 {N K : Nat} : fX7_bit N K (1 : Int32) = some 1 := by unfold fX7_bit; rw [if_neg (by decide)]
theorem m_worth {N K k m : Nat} {th p0 p : Int32} {g : Nat → Int32} (hk : k < 6) (hp0 : Rg p0 0 2) (hm : m ≤ 20) (hp : p.toInt ≤ 20) : fX7_worth N K th g p0 (Int32.ofNat k) p (Int32.ofNat m) = some (if rs p.toInt m = true then rv k p.toInt m else g (cd k p.toInt.toNat m)) := by
  have q0 : (0 : Int32).toInt = 0 := by decide
  unfold fX7_worth
  rw [m_rests hm, Option.bind_some]
  by_cases r : rs p.toInt m = true
  · rw [if_pos r, r, if_neg bitn]
    unfold rv
    by_cases z : p.toInt = 0
    · rw [if_pos (p_0 z)]
      by_cases m0 : m = 0
      · rw [if_pos (ep_ (c := 0) (b := 0) rfl m0), if_pos ⟨z, Or.inl m0⟩]
        unfold fX7_worth_43 fX7_worth_48
        rw [m_b1, Option.bind_some]
      · rw [if_neg (en_ (c := 0) (b := 0) rfl (by omega) (by omega) m0)]
        by_cases k1 : k = 1
        · rw [if_pos (ep_ (c := 1) (b := 1) rfl k1), if_neg (by omega)]
          unfold fX7_worth_47 fX7_worth_48
          rw [m_b0, Option.bind_some]
        · rw [if_neg (en_ (c := 1) (b := 1) rfl (by omega) (by omega) k1)]
          by_cases k5 : k = 5
          · rw [if_pos (ep_ (c := 5) (b := 5) rfl k5), if_neg (by omega)]
            unfold fX7_worth_47 fX7_worth_48
            rw [m_b0, Option.bind_some]
          · rw [if_neg (en_ (c := 5) (b := 5) rfl (by omega) (by omega) k5), if_pos ⟨z, Or.inr ⟨k1, k5⟩⟩]
            unfold fX7_worth_43 fX7_worth_48
            rw [m_b1, Option.bind_some]
    · rw [if_neg (fun e => z (by rw [e]; exact q0)), if_neg (fun e => z e.1)]
      unfold fX7_worth_47 fX7_worth_48
      rw [m_b0, Option.bind_some]
  · obtain ⟨g1, g2⟩ := rs_f r
    rw [if_neg r, Bool.eq_false_iff.mpr r, if_pos bif0, if_neg hp0.mm]
    obtain ⟨n, rfl, n1, n2⟩ := o_of (p := p) (a := 1) (b := 20) (by omega) (by omega)
    have hc := cd_lt hk n2 hm
    rw [m_code, Option.bind_some, if_neg (o_ob hc (by omega)), o_c (by omega), o_i (by omega)]
    rfl
theorem m_ln {N K k w n m : Nat} (hk : k < 6) (hw : w < 2) : fX7_legNumber N K (Int32.ofNat k) (Int32.ofNat n) (Int32.ofNat m) (Int32.ofNat w) = some (lnI k w n m) := by
  unfold fX7_legNumber lnI
  by_cases w1 : w = 1
  · rw [if_pos (ep_ (c := 1) (b := 1) rfl w1), if_pos (Or.inl w1)]
  · rw [if_neg (en_ (c := 1) (b := 1) rfl (by omega) (by omega) w1)]
    by_cases k5 : k = 5
    · rw [if_pos (ep_ (c := 5) (b := 5) rfl k5), if_pos (Or.inr k5)]
    · rw [if_neg (en_ (c := 5) (b := 5) rfl (by omega) (by omega) k5), if_neg (show ¬ (w = 1 ∨ k = 5) from by omega)]
      by_cases k1 : k = 1
      · rw [if_pos (ep_ (c := 1) (b := 1) rfl k1), if_pos k1]
      · rw [if_neg (en_ (c := 1) (b := 1) rfl (by omega) (by omega) k1), if_neg k1]
theorem m_lm {N K k w m : Nat} (hk : k < 6) (hw : w < 2) (hm : 1 ≤ m) : fX7_legMeasure N K (Int32.ofNat k) (Int32.ofNat m) (Int32.ofNat w) = some (Int32.ofNat (lm k w m)) := by
  have hs : Int32.ofNat m - (1 : Int32) = Int32.ofNat (m - 1) := by rw [show (1 : Int32) = Int32.ofNat 1 from rfl, o_sub hm]
  have z0 : fX7_legMeasure_36 N K (Int32.ofNat k) (Int32.ofNat m) (Int32.ofNat w) 0 = some (Int32.ofNat (m - 1)) := by unfold fX7_legMeasure_36; rw [if_pos rfl, hs]
  have z1 : fX7_legMeasure_36 N K (Int32.ofNat k) (Int32.ofNat m) (Int32.ofNat w) 1 = some (Int32.ofNat m) := by unfold fX7_legMeasure_36; rw [if_neg (by decide)]
  unfold fX7_legMeasure lm
  by_cases w0 : w = 0
  · rw [if_pos (ep_ (c := 0) (b := 0) rfl w0)]
    by_cases k5 : k = 5
    · rw [if_pos (ep_ (c := 5) (b := 5) rfl k5), z1, if_pos (Or.inl ⟨w0, k5⟩)]
    · rw [if_neg (en_ (c := 5) (b := 5) rfl (by omega) (by omega) k5), z0, if_neg (by omega)]
  · rw [if_neg (en_ (c := 0) (b := 0) rfl (by omega) (by omega) w0)]
    unfold fX7_legMeasure_31
    by_cases k0 : k = 0
    · rw [if_pos (ep_ (c := 0) (b := 0) rfl k0), z1, if_pos (Or.inr ⟨by omega, Or.inl k0⟩)]
    · rw [if_neg (en_ (c := 0) (b := 0) rfl (by omega) (by omega) k0)]
      by_cases k1 : k = 1
      · rw [if_pos (ep_ (c := 1) (b := 1) rfl k1), z1, if_pos (Or.inr ⟨by omega, Or.inr (Or.inl k1)⟩)]
      · rw [if_neg (en_ (c := 1) (b := 1) rfl (by omega) (by omega) k1)]
        by_cases k3 : k = 3
        · rw [if_pos (ep_ (c := 3) (b := 3) rfl k3), z1, if_pos (Or.inr ⟨by omega, Or.inr (Or.inr k3)⟩)]
        · rw [if_neg (en_ (c := 3) (b := 3) rfl (by omega) (by omega) k3), z0, if_neg (by omega)]
theorem m_hl {N K k w m : Nat} (hk : k < 6) (hw : w < 2) (hm : m ≤ 20) : fX7_hasLeg N K (Int32.ofNat k) (Int32.ofNat m) (Int32.ofNat w) = some (bi (hl k w m)) := by
  unfold fX7_hasLeg hl
  by_cases w0 : w = 0
  · rw [if_pos (ep_ (c := 0) (b := 0) rfl w0), decide_eq_true (Or.inl w0)]; rfl
  · rw [if_neg (en_ (c := 0) (b := 0) rfl (by omega) (by omega) w0), show (2 : Int32) = Int32.ofNat 2 from rfl, o_mod (by omega) (by omega)]
    by_cases par : m % 2 = 1
    · rw [if_pos (ep_ (c := 1) (b := 1) rfl par), decide_eq_true (Or.inr (Or.inl par))]; rfl
    · rw [if_neg (en_ (c := 1) (b := 1) rfl (by omega) (by omega) par)]
      by_cases k3 : k = 3
      · rw [if_pos (ep_ (c := 3) (b := 3) rfl k3), decide_eq_false (by omega)]; rfl
      · rw [if_neg (en_ (c := 3) (b := 3) rfl (by omega) (by omega) k3)]
        by_cases k4 : k = 4
        · rw [if_pos (ep_ (c := 4) (b := 4) rfl k4), decide_eq_false (by omega)]; rfl
        · rw [if_neg (en_ (c := 4) (b := 4) rfl (by omega) (by omega) k4), decide_eq_true (Or.inr (Or.inr ⟨k3, k4⟩))]; rfl
/-- the worth of a leg, as the contents tell it -/
def Wl (g : Nat → Int32) (k w n m : Nat) : Int32 := if rs (ln k w (n : Int) m) (lm k w m) = true then rv k (ln k w (n : Int) m) (lm k w m) else g (cd k (ln k w (n : Int) m).toNat (lm k w m))
theorem m_Wl {N K k w n m : Nat} {th p0 : Int32} {g : Nat → Int32} (hk : k < 6) (hp0 : Rg p0 0 2) (hn1 : 1 ≤ n) (hn : n ≤ 20) (hm1 : 1 ≤ m) (hm : m ≤ 20) : fX7_worth N K th g p0 (Int32.ofNat k) (lnI k w n m) (Int32.ofNat (lm k w m)) = some (Wl g k w n m) := by
  obtain ⟨e1, -, e2⟩ := leg_bd (k := k) (w := w) (x := (n : Int)) (m := m) (by omega) hm (rs_n (by omega) hm1)
  rw [m_worth hk hp0 e2 (by rw [lnI_i hn hm]; exact e1), lnI_i hn hm]
  rfl
theorem k19 {N K k n m : Nat} {th p0 : Int32} {g0 : Nat → Int32} (hk : k < 6) (hp0 : Rg p0 0 2) (hn1 : 1 ≤ n) (hn : n ≤ 20) (hm1 : 1 ≤ m) (hm : m ≤ 20) {fu w : Nat} (hw : w < 2) {l5 : Int32} {g : Nat → Int32} : fX7_keep_19 N K th g0 p0 (Int32.ofNat k) (Int32.ofNat n) (Int32.ofNat m) (fu + 1) l5 (Int32.ofNat w) g = fX7_keep_19 N K th g0 p0 (Int32.ofNat k) (Int32.ofNat n) (Int32.ofNat m) fu (if hl k w m = true then l5 + Wl g k w n m else l5) (Int32.ofNat (w + 1)) g := by
  conv => lhs; unfold fX7_keep_19
  rw [if_neg (by rw [show (2 : Int32) = Int32.ofNat 2 from rfl, o_le (by omega) (by omega)]; omega), m_hl hk hw hm, Option.bind_some]
  cases c : hl k w m with
  | false =>
    rw [if_pos bif0, if_neg (by decide)]
    unfold fX7_keep_64
    rw [o_1]
  | true =>
    rw [if_neg bitn, if_pos rfl, m_ln hk hw, Option.bind_some, m_lm hk hw hm1, Option.bind_some, m_Wl hk hp0 hn1 hn hm1 hm, Option.bind_some]
    unfold fX7_keep_64
    rw [o_1]
theorem hl0 {k m : Nat} : hl k 0 m = true := decide_eq_true (Or.inl rfl)
theorem m_keep {N K k n m : Nat} {th p0 : Int32} {g : Nat → Int32} (hN : 100 ≤ N) (hk : k < 6) (hp0 : Rg p0 0 2) (hn1 : 1 ≤ n) (hn : n ≤ 20) (hm1 : 1 ≤ m) (hm : m ≤ 20) (hg : g (cd k n m) = -1 ∨ 0 ≤ (g (cd k n m)).toInt) : fX7_keep N K th g p0 (Int32.ofNat k) (Int32.ofNat n) (Int32.ofNat m) = some (if g (cd k n m) = -1 then upd g (cd k n m) (Wl g k 0 n m + (if hl k 1 m = true then Wl g k 1 n m else 0)) else g) := by
  obtain ⟨M, rfl⟩ : ∃ M, N = M + 3 := ⟨N - 3, by omega⟩
  have q0 : (0 : Int32).toInt = 0 := by decide
  have en : (Int32.ofNat n).toInt = (n : Int) := o_i (by omega)
  have hc := cd_lt hk hn hm
  unfold fX7_keep
  rw [m_worth hk hp0 hm (by omega), Option.bind_some, en, if_neg (rs_n (by omega) hm1), show ((n : Nat) : Int).toNat = n from by omega]
  rcases hg with u | u
  · rw [u, if_pos (by decide), if_pos rfl]
    have a0 := k19 (N := M + 3) (K := K) (th := th) (g0 := g) hk hp0 hn1 hn hm1 hm (fu := M + 2) (w := 0) (by omega) (l5 := 0) (g := g)
    rw [if_pos hl0, Int32.zero_add] at a0
    have a1 := k19 (N := M + 3) (K := K) (th := th) (g0 := g) hk hp0 hn1 hn hm1 hm (fu := M + 1) (w := 1) (by omega) (l5 := Wl g k 0 n m) (g := g)
    refine a0.trans (a1.trans ?_)
    unfold fX7_keep_19
    rw [if_pos (by decide), if_neg hp0.mm, m_code, Option.bind_some, if_neg (o_ob hc (by omega)), o_c (by omega)]
    by_cases c : hl k 1 m = true
    · rw [if_pos c, if_pos c]
    · rw [if_neg c, if_neg c, Int32.add_zero]
  · have hne : ¬ g (cd k n m) = -1 := by
      intro z
      rw [z] at u
      exact absurd u (by decide)
    rw [if_neg (by rw [Int32.lt_iff_toInt_lt]; omega), if_neg hne]
/-! ===== what is wanted ===== -/
def pos (n m : Nat) : Nat := 21 * m + n
theorem pos_inj {n m p q : Nat} (hn : n ≤ 20) (hp : p ≤ 20) (h : pos n m = pos p q) : n = p ∧ m = q := by
  unfold pos at h
  omega
theorem pos_lt {n m : Nat} (hn : n ≤ 20) (hm : m ≤ 20) : pos n m < 441 := by unfold pos; omega
theorem pos_leg {k w b1 b2 : Nat} (hw : w < 2) (h1 : 1 ≤ b1) (h : b1 ≤ 20) (h2 : 1 ≤ b2) (r : ¬ rs (ln k w (b1 : Int) b2) (lm k w b2) = true) : pos (ln k w (b1 : Int) b2).toNat (lm k w b2) < pos b1 b2 := by
  obtain ⟨g1, g2⟩ := rs_f r
  have l := leg_lt (k := k) (w := w) (x := (b1 : Int)) (m := b2) hw (rs_n (by omega) h2)
  have hm : lm k w b2 ≤ b2 := by
    unfold lm
    by_cases e : (w = 0 ∧ k = 5) ∨ (w = 1 ∧ (k = 0 ∨ k = 1 ∨ k = 3))
    · rw [if_pos e]; omega
    · rw [if_neg e]; omega
  have hb : ln k w (b1 : Int) b2 ≤ 20 := by
    unfold ln
    by_cases e : w = 1 ∨ k = 5
    · rw [if_pos e]; omega
    · rw [if_neg e]
      by_cases e2 : k = 1
      · rw [if_pos e2]; omega
      · rw [if_neg e2]; omega
  unfold pos
  by_cases e : lm k w b2 = b2
  · omega
  · omega
/-- a leg is wanted once more -/
def inc (k n m w : Nat) (u : Nat → Int32) : Nat → Int32 := if hl k w m = true ∧ ¬ rs (ln k w (n : Int) m) (lm k w m) = true then upd u (pos (ln k w (n : Int) m).toNat (lm k w m)) (u (pos (ln k w (n : Int) m).toNat (lm k w m)) + (1 : Int32)) else u
theorem o_pos {a b : Nat} : (21 : Int32) * Int32.ofNat b + Int32.ofNat a = Int32.ofNat (pos a b) := by
  rw [show (21 : Int32) = Int32.ofNat 21 from rfl, o_mul, o_add]
  rfl
section KN
variable {N K k n m : Nat} {th p0 p2 p3 : Int32} {f0 t0 u0 : Nat → Int32}
theorem m191 (hk : k < 6) (hn1 : 1 ≤ n) (hn : n ≤ 20) (hm1 : 1 ≤ m) (hm : m ≤ 20) {k68 : Int32 → (Nat → Int32) → (Nat → Int32) → (Nat → Int32) → Option (Int32 × (Nat → Int32) × (Nat → Int32) × (Nat → Int32))} {fu w : Nat} (hw : w < 2) {l5 : Int32} {g t u : Nat → Int32} : fX7_known_191 N K th f0 t0 u0 p0 (Int32.ofNat k) p2 p3 k68 (fu + 1) l5 (Int32.ofNat n) (Int32.ofNat m) 0 (Int32.ofNat w) g t u = fX7_known_191 N K th f0 t0 u0 p0 (Int32.ofNat k) p2 p3 k68 fu l5 (Int32.ofNat n) (Int32.ofNat m) 0 (Int32.ofNat (w + 1)) g t (inc k n m w u) := by
  have r0 := rs_n (x := (n : Int)) (m := m) (by omega) hm1
  obtain ⟨e1, e3, e2⟩ := leg_bd (k := k) (w := w) (x := (n : Int)) (m := m) (by omega) hm r0
  conv => lhs; unfold fX7_known_191
  rw [if_neg (by rw [show (2 : Int32) = Int32.ofNat 2 from rfl, o_le (by omega) (by omega)]; omega), if_pos rfl, m_ln hk hw, Option.bind_some, m_lm hk hw hm1, Option.bind_some, m_hl hk hw hm, Option.bind_some]
  unfold inc
  cases c : hl k w m with
  | false =>
    rw [if_pos bif0, if_neg (fun z => absurd z.1 (by decide))]
    unfold fX7_known_262
    rw [o_1]
  | true =>
    rw [if_neg bitn, m_rests e2, Option.bind_some, lnI_i hn hm]
    by_cases r : rs (ln k w (n : Int) m) (lm k w m) = true
    · rw [r, if_neg bitn, if_neg (fun z => z.2 rfl)]
      unfold fX7_known_262
      rw [o_1]
    · obtain ⟨g1, g2⟩ := rs_f r
      have hli : lnI k w n m = Int32.ofNat (ln k w (n : Int) m).toNat := by
        apply Int32.toInt_inj.mp
        rw [lnI_i hn hm, o_i (by omega)]
        omega
      have hp := pos_lt (n := (ln k w (n : Int) m).toNat) (m := lm k w m) (by omega) e2
      rw [Bool.eq_false_iff.mpr r, if_pos bif0, hli, o_pos, if_neg (o_ob hp (by omega)), if_neg (o_ob hp (by omega)), o_c (by omega), if_pos ⟨rfl, by decide⟩]
      unfold fX7_known_262
      rw [o_1]
/-- what a place asked of leaves of the tallies (b: it was made; v: how often it was wanted) -/
def tka (b v : Int32) (t : Nat → Int32) : Nat → Int32 := upd (upd (upd t (1 : Int32).toNatClampNeg ((t (1 : Int32).toNatClampNeg) + v)) (2 : Int32).toNatClampNeg (((upd t (1 : Int32).toNatClampNeg ((t (1 : Int32).toNatClampNeg) + v)) (2 : Int32).toNatClampNeg) + b)) (3 : Int32).toNatClampNeg (((upd (upd t (1 : Int32).toNatClampNeg ((t (1 : Int32).toNatClampNeg) + v)) (2 : Int32).toNatClampNeg (((upd t (1 : Int32).toNatClampNeg ((t (1 : Int32).toNatClampNeg) + v)) (2 : Int32).toNatClampNeg) + b)) (3 : Int32).toNatClampNeg) + (v - b))
theorem tq1 : (1 : Int32).toNatClampNeg = 1 := by decide
theorem tq2 : (2 : Int32).toNatClampNeg = 2 := by decide
theorem tq3 : (3 : Int32).toNatClampNeg = 3 := by decide
theorem tka_1 {b v : Int32} {t : Nat → Int32} : tka b v t 1 = t 1 + v := by
  unfold tka upd
  rw [tq1, tq2, tq3, if_neg (by decide), if_neg (by decide), if_pos rfl]
theorem tka_2 {b v : Int32} {t : Nat → Int32} : tka b v t 2 = t 2 + b := by
  unfold tka upd
  rw [tq1, tq2, tq3, if_neg (show ¬ ((2 : Nat) = 3) from by decide), if_pos rfl, if_neg (show ¬ ((2 : Nat) = 1) from by decide)]
theorem tka_3 {b v : Int32} {t : Nat → Int32} : tka b v t 3 = t 3 + (v - b) := by
  unfold tka upd
  rw [tq1, tq2, tq3, if_pos rfl, if_neg (show ¬ ((3 : Nat) = 2) from by decide), if_neg (show ¬ ((3 : Nat) = 1) from by decide)]
theorem tka_o {b v : Int32} {t : Nat → Int32} {i : Nat} (h1 : ¬ i = 1) (h2 : ¬ i = 2) (h3 : ¬ i = 3) : tka b v t i = t i := by
  unfold tka upd
  rw [tq1, tq2, tq3, if_neg h3, if_neg h2, if_neg h1]
theorem m68 (hk : k < 6) (hp0 : Rg p0 0 2) (hN : 100 ≤ N) (hn1 : 1 ≤ n) (hn : n ≤ 20) (hm1 : 1 ≤ m) (hm : m ≤ 20) {fu : Nat} {g t u : Nat → Int32} (hu : ¬ u (pos n m) = 0) (hg : g (cd k n m) = -1 ∨ 0 ≤ (g (cd k n m)).toInt) : fX7_known_68 N K th f0 t0 u0 p0 (Int32.ofNat k) p2 p3 (fu + 1) (Int32.ofNat (pos n m)) g t u = fX7_known_68 N K th f0 t0 u0 p0 (Int32.ofNat k) p2 p3 fu (Int32.ofNat (pos n m - 1)) g (tka (if g (cd k n m) = -1 then 1 else 0) (u (pos n m)) t) (if g (cd k n m) = -1 then inc k n m 1 (inc k n m 0 u) else u) := by
  obtain ⟨M, rfl⟩ : ∃ M, N = M + 3 := ⟨N - 3, by omega⟩
  have q0 : (0 : Int32).toInt = 0 := by decide
  have en : (Int32.ofNat n).toInt = (n : Int) := o_i (by omega)
  have hp := pos_lt hn hm
  have hp1 : 1 ≤ pos n m := by unfold pos; omega
  have e1 : pos n m % 21 = n := by unfold pos; omega
  have e2 : pos n m / 21 = m := by unfold pos; omega
  have hdec : Int32.ofNat (pos n m) + (-1 : Int32) = Int32.ofNat (pos n m - 1) := by
    obtain ⟨z, hz⟩ : ∃ z, pos n m = z + 1 := ⟨pos n m - 1, by omega⟩
    rw [hz, o_m1, show z + 1 - 1 = z from by omega]
  rcases hg with c | c
  · conv => lhs; unfold fX7_known_68
    rw [if_neg (o_0lt hp1 (by omega)), if_neg (o_ob hp (by omega)), o_c (by omega), if_neg hu, show (21 : Int32) = Int32.ofNat 21 from rfl, o_mod (by omega) (by omega), o_div (by omega) (by omega), e1, e2, m_worth hk hp0 hm (by omega), Option.bind_some, en, if_neg (rs_n (by omega) hm1), show ((n : Nat) : Int).toNat = n from by omega, c, if_pos (by decide), if_pos rfl, if_pos rfl]
    unfold fX7_known_118
    rw [if_neg (o_ob hp (by omega)), if_pos rfl]
    unfold fX7_known_153
    rw [m_b1, Option.bind_some, if_neg (by decide), if_neg (o_ob hp (by omega)), if_pos rfl]
    unfold fX7_known_182
    rw [m_b1, Option.bind_some, if_neg (by decide)]
    refine (m191 hk hn1 hn hm1 hm (fu := M + 2) (w := 0) (by omega)).trans ((m191 hk hn1 hn hm1 hm (fu := M + 1) (w := 1) (by omega)).trans ?_)
    unfold fX7_known_191
    rw [if_pos (by decide)]
    unfold fX7_known_268
    rw [hdec, o_c (by omega)]
    rfl
  · have hne : ¬ g (cd k n m) = -1 := by
      intro z
      rw [z] at c
      exact absurd c (by decide)
    conv => lhs; unfold fX7_known_68
    rw [if_neg (o_0lt hp1 (by omega)), if_neg (o_ob hp (by omega)), o_c (by omega), if_neg hu, show (21 : Int32) = Int32.ofNat 21 from rfl, o_mod (by omega) (by omega), o_div (by omega) (by omega), e1, e2, m_worth hk hp0 hm (by omega), Option.bind_some, en, if_neg (rs_n (by omega) hm1), show ((n : Nat) : Int).toNat = n from by omega, if_neg (by rw [Int32.lt_iff_toInt_lt]; omega), if_neg hne, if_neg hne]
    unfold fX7_known_118
    rw [if_neg (o_ob hp (by omega)), if_neg (by decide)]
    unfold fX7_known_153
    rw [m_b0, Option.bind_some, if_neg (by decide), if_neg (o_ob hp (by omega)), if_neg (by decide)]
    unfold fX7_known_182
    rw [m_b0, Option.bind_some, if_neg (by decide)]
    unfold fX7_known_191
    rw [if_neg (by decide), if_neg (by decide)]
    unfold fX7_known_268
    rw [hdec, o_c (by omega)]
    rfl
end KN
theorem RR_pos {T : Nat → Nat → Int32} {k p q : Nat} : ∀ d (x : Int) m, x.toNat + m < d → x ≤ 20 → m ≤ 20 → RR T k x m p q → pos p q ≤ pos x.toNat m := by
  intro d
  induction d with
  | zero => intro x m h; omega
  | succ d ih =>
    intro x m h hx hm hr
    obtain ⟨r, u, c⟩ := (RR_eq hx hm).mp hr
    obtain ⟨g1, g2⟩ := rs_f r
    have ex : ((x.toNat : Nat) : Int) = x := by omega
    have l0 := leg_lt (k := k) (w := 0) (by omega) r
    have l1 := leg_lt (k := k) (w := 1) (by omega) r
    obtain ⟨e1, -, e2⟩ := leg_bd (k := k) (w := 0) hx hm r
    obtain ⟨e3, -, e4⟩ := leg_bd (k := k) (w := 1) hx hm r
    rcases c with ⟨rfl, rfl⟩ | c | ⟨-, c⟩
    · exact Nat.le_refl _
    · have a := ih _ _ (by omega) e1 e2 c
      have b := pos_leg (k := k) (w := 0) (b1 := x.toNat) (b2 := m) (by omega) (by omega) (by omega) g2 (by rw [ex]; exact ((RR_eq e1 e2).mp c).1)
      rw [ex] at b
      omega
    · have a := ih _ _ (by omega) e3 e4 c
      have b := pos_leg (k := k) (w := 1) (b1 := x.toNat) (b2 := m) (by omega) (by omega) (by omega) g2 (by rw [ex]; exact ((RR_eq e3 e4).mp c).1)
      rw [ex] at b
      omega
/-- (n, m) is a leg of (b1, b2) -/
def Leg (k b1 b2 n m : Nat) : Prop := ∃ w, w < 2 ∧ hl k w b2 = true ∧ (ln k w (b1 : Int) b2).toNat = n ∧ lm k w b2 = m ∧ ¬ rs (ln k w (b1 : Int) b2) (lm k w b2) = true
/-- what is asked of a table by the places above at -/
def Ask (T : Nat → Nat → Int32) (k x0 m0 at_ n m : Nat) : Prop := (n = x0 ∧ m = m0) ∨ ∃ b1 b2, RR T k (x0 : Int) m0 b1 b2 ∧ at_ < pos b1 b2 ∧ Leg k b1 b2 n m
def MK (T : Nat → Nat → Int32) (k x0 m0 at_ : Nat) (u : Nat → Int32) : Prop := ∀ n m, n ≤ 20 → m ≤ 20 → (0 ≤ (u (pos n m)).toInt ∧ (u (pos n m)).toInt ≤ 1 + 2 * ((pos x0 m0 : Int) - (at_ : Int))) ∧ (¬ u (pos n m) = 0 ↔ Ask T k x0 m0 at_ n m)
theorem Leg.b {k b1 b2 n m : Nat} (h1 : 1 ≤ b1) (hb : b1 ≤ 20) (h2 : 1 ≤ b2) (hb2 : b2 ≤ 20) (h : Leg k b1 b2 n m) : 1 ≤ n ∧ n ≤ 20 ∧ 1 ≤ m ∧ m ≤ 20 ∧ pos n m < pos b1 b2 := by
  obtain ⟨w, hw, -, rfl, rfl, r⟩ := h
  obtain ⟨g1, g2⟩ := rs_f r
  obtain ⟨e1, -, e2⟩ := leg_bd (k := k) (w := w) (x := (b1 : Int)) (m := b2) (by omega) hb2 (rs_n (by omega) h2)
  exact ⟨by omega, by omega, g2, e2, pos_leg hw h1 hb h2 r⟩
/-- what is reached was asked by what lies above it -/
theorem Ask.of {T : Nat → Nat → Int32} {k x0 m0 n m at_ : Nat} (hx : x0 ≤ 20) (hm : m0 ≤ 20) (h : RR T k (x0 : Int) m0 n m) (hat : at_ ≤ pos n m) : Ask T k x0 m0 at_ n m := by
  rcases RR_par ((x0 : Int).toNat + m0 + 1) (x0 : Int) m0 (by omega) (by omega) hm h with ⟨a, b⟩ | ⟨b1, b2, w, hw, h1, h2, h3, h4, h5⟩
  · exact Or.inl ⟨by omega, b.symm⟩
  · obtain ⟨-, c1, c2, c3, c4, -⟩ := RR_un ((x0 : Int).toNat + m0 + 1) (x0 : Int) m0 (by omega) (by omega) hm h2
    have hl2 : Leg k b1 b2 n m := ⟨w, hw, h1, h3, h4, h5⟩
    have := (hl2.b c1 c3 c2 c4).2.2.2.2
    exact Or.inr ⟨b1, b2, h2, by omega, hl2⟩
/-- what is asked and not kept is reached -/
theorem Ask.rr {T : Nat → Nat → Int32} {k x0 m0 n m at_ : Nat} (hx1 : 1 ≤ x0) (hx : x0 ≤ 20) (hm1 : 1 ≤ m0) (hm : m0 ≤ 20) (h : Ask T k x0 m0 at_ n m) (u : T n m = -1) : RR T k (x0 : Int) m0 n m := by
  rcases h with ⟨rfl, rfl⟩ | ⟨b1, b2, h2, -, w, hw, h1, rfl, rfl, r⟩
  · have s := RR_self (T := T) (k := k) (x := (n : Int)) (m := m) (by omega) hm (rs_n (by omega) hm1) (by rw [show ((n : Nat) : Int).toNat = n from by omega]; exact u)
    rw [show ((n : Nat) : Int).toNat = n from by omega] at s
    exact s
  · exact RR_leg hw h1 (by omega) hm h2 r u
theorem Ask.b {T : Nat → Nat → Int32} {k x0 m0 n m at_ : Nat} (hx1 : 1 ≤ x0) (hx : x0 ≤ 20) (hm1 : 1 ≤ m0) (hm : m0 ≤ 20) (h : Ask T k x0 m0 at_ n m) : 1 ≤ n ∧ n ≤ 20 ∧ 1 ≤ m ∧ m ≤ 20 := by
  rcases h with ⟨rfl, rfl⟩ | ⟨b1, b2, h2, -, hl2⟩
  · exact ⟨hx1, hx, hm1, hm⟩
  · obtain ⟨-, c1, c2, c3, c4, -⟩ := RR_un ((x0 : Int).toNat + m0 + 1) (x0 : Int) m0 (by omega) (by omega) hm h2
    obtain ⟨d1, d2, d3, d4, -⟩ := hl2.b c1 c3 c2 c4
    exact ⟨d1, d2, d3, d4⟩
theorem inc_at {k n m w p q : Nat} {u : Nat → Int32} (hn1 : 1 ≤ n) (hn : n ≤ 20) (hm1 : 1 ≤ m) (hm : m ≤ 20) (hp : p ≤ 20) : inc k n m w u (pos p q) = if (hl k w m = true ∧ ¬ rs (ln k w (n : Int) m) (lm k w m) = true) ∧ (ln k w (n : Int) m).toNat = p ∧ lm k w m = q then u (pos p q) + (1 : Int32) else u (pos p q) := by
  obtain ⟨e1, -, e2⟩ := leg_bd (k := k) (w := w) (x := (n : Int)) (m := m) (by omega) hm (rs_n (by omega) hm1)
  unfold inc
  by_cases c : hl k w m = true ∧ ¬ rs (ln k w (n : Int) m) (lm k w m) = true
  · rw [if_pos c]
    unfold upd
    by_cases d : (ln k w (n : Int) m).toNat = p ∧ lm k w m = q
    · rw [if_pos (show pos p q = pos (ln k w (n : Int) m).toNat (lm k w m) from by rw [d.1, d.2]), if_pos (show (hl k w m = true ∧ ¬ rs (ln k w (n : Int) m) (lm k w m) = true) ∧ (ln k w (n : Int) m).toNat = p ∧ lm k w m = q from ⟨c, d⟩), d.1, d.2]
    · rw [if_neg (show ¬ pos p q = pos (ln k w (n : Int) m).toNat (lm k w m) from fun z => d (by obtain ⟨a, b⟩ := pos_inj hp (by omega) z; exact ⟨a.symm, b.symm⟩)), if_neg (show ¬ ((hl k w m = true ∧ ¬ rs (ln k w (n : Int) m) (lm k w m) = true) ∧ (ln k w (n : Int) m).toNat = p ∧ lm k w m = q) from fun z => d z.2)]
  · rw [if_neg c, if_neg (fun z => c z.1)]
theorem add1 {v : Int32} (h : 0 ≤ v.toInt) (h2 : v.toInt ≤ 100000) : (v + (1 : Int32)).toInt = v.toInt + 1 := by
  have q1 : (1 : Int32).toInt = 1 := by decide
  rw [addI (by omega) (by omega), q1]
theorem ne0_of {v : Int32} (h : 1 ≤ v.toInt) : ¬ v = 0 := by
  intro z
  rw [z] at h
  exact absurd h (by decide)
theorem pos_of {v : Int32} (h : 0 ≤ v.toInt) (h2 : ¬ v = 0) : 1 ≤ v.toInt := by
  have : ¬ v.toInt = 0 := fun z => h2 (p_0 z)
  omega

end MG_60mmmem
section MG_60nknown
/-! ===== the reference: what is wanted, from above; worths, from below ===== -/
section KN2
variable {N K k x0 m0 : Nat} {th p0 p2 p3 : Int32} {f0 t0 u0 : Nat → Int32}
theorem MK_skip {T : Nat → Nat → Int32} {at_ : Nat} {u : Nat → Int32} (h : MK T k x0 m0 (at_ + 1) u) (hat : at_ + 1 ≤ pos x0 m0) (hx : x0 ≤ 20) (hm : m0 ≤ 20) (hn : ∀ b1 b2, RR T k (x0 : Int) m0 b1 b2 → ¬ pos b1 b2 = at_ + 1) : MK T k x0 m0 at_ u := by
  intro p q hp hq
  obtain ⟨⟨a1, a2⟩, a3⟩ := h p q hp hq
  refine ⟨⟨a1, by omega⟩, a3.trans ⟨fun z => ?_, fun z => ?_⟩⟩
  · rcases z with z | ⟨b1, b2, c1, c2, c3⟩
    · exact Or.inl z
    · exact Or.inr ⟨b1, b2, c1, by omega, c3⟩
  · rcases z with z | ⟨b1, b2, c1, c2, c3⟩
    · exact Or.inl z
    · have := hn b1 b2 c1
      exact Or.inr ⟨b1, b2, c1, by omega, c3⟩
theorem MK_step {T : Nat → Nat → Int32} {at_ n m : Nat} {u : Nat → Int32} (h : MK T k x0 m0 (at_ + 1) u) (hat : at_ + 1 ≤ pos x0 m0) (hx : x0 ≤ 20) (hm : m0 ≤ 20) (hn1 : 1 ≤ n) (hn : n ≤ 20) (hm1 : 1 ≤ m) (hmm : m ≤ 20) (hp : pos n m = at_ + 1) (hr : RR T k (x0 : Int) m0 n m) : MK T k x0 m0 at_ (inc k n m 1 (inc k n m 0 u)) := by
  have hx0 := pos_lt hx hm
  intro p q hpp hq
  obtain ⟨⟨a1, a2⟩, a3⟩ := h p q hpp hq
  rw [inc_at hn1 hn hm1 hmm hpp, inc_at hn1 hn hm1 hmm hpp]
  have hC : ∀ w, w < 2 → (((hl k w m = true ∧ ¬ rs (ln k w (n : Int) m) (lm k w m) = true) ∧ (ln k w (n : Int) m).toNat = p ∧ lm k w m = q) → Leg k n m p q) := fun w hw z => ⟨w, hw, z.1.1, z.2.1, z.2.2, z.1.2⟩
  have hL : Leg k n m p q → ((hl k 0 m = true ∧ ¬ rs (ln k 0 (n : Int) m) (lm k 0 m) = true) ∧ (ln k 0 (n : Int) m).toNat = p ∧ lm k 0 m = q) ∨ ((hl k 1 m = true ∧ ¬ rs (ln k 1 (n : Int) m) (lm k 1 m) = true) ∧ (ln k 1 (n : Int) m).toNat = p ∧ lm k 1 m = q) := by
    rintro ⟨w, hw, z1, z2, z3, z4⟩
    have hw2 : w = 0 ∨ w = 1 := by omega
    rcases hw2 with rfl | rfl
    · exact Or.inl ⟨⟨z1, z4⟩, z2, z3⟩
    · exact Or.inr ⟨⟨z1, z4⟩, z2, z3⟩
  have hAsk : Ask T k x0 m0 at_ p q ↔ (Ask T k x0 m0 (at_ + 1) p q ∨ Leg k n m p q) := by
    constructor
    · rintro (z | ⟨b1, b2, c1, c2, c3⟩)
      · exact Or.inl (Or.inl z)
      · by_cases e : pos b1 b2 = at_ + 1
        · obtain ⟨-, d1, d2, d3, d4, -⟩ := RR_un ((x0 : Int).toNat + m0 + 1) (x0 : Int) m0 (by omega) (by omega) hm c1
          obtain ⟨rfl, rfl⟩ := pos_inj d3 hn (e.trans hp.symm)
          exact Or.inr c3
        · exact Or.inl (Or.inr ⟨b1, b2, c1, by omega, c3⟩)
    · rintro ((z | ⟨b1, b2, c1, c2, c3⟩) | z)
      · exact Or.inl z
      · exact Or.inr ⟨b1, b2, c1, by omega, c3⟩
      · exact Or.inr ⟨n, m, hr, by omega, z⟩
  rw [hAsk]
  have s1 := add1 (v := u (pos p q)) a1 (by omega)
  by_cases c0 : (hl k 0 m = true ∧ ¬ rs (ln k 0 (n : Int) m) (lm k 0 m) = true) ∧ (ln k 0 (n : Int) m).toNat = p ∧ lm k 0 m = q
  · rw [if_pos c0]
    have s2 := add1 (v := u (pos p q) + (1 : Int32)) (by omega) (by omega)
    by_cases c1 : (hl k 1 m = true ∧ ¬ rs (ln k 1 (n : Int) m) (lm k 1 m) = true) ∧ (ln k 1 (n : Int) m).toNat = p ∧ lm k 1 m = q
    · rw [if_pos c1]
      exact ⟨⟨by omega, by omega⟩, fun _ => Or.inr (hC 0 (by omega) c0), fun _ => ne0_of (by omega)⟩
    · rw [if_neg c1]
      exact ⟨⟨by omega, by omega⟩, fun _ => Or.inr (hC 0 (by omega) c0), fun _ => ne0_of (by omega)⟩
  · rw [if_neg c0]
    by_cases c1 : (hl k 1 m = true ∧ ¬ rs (ln k 1 (n : Int) m) (lm k 1 m) = true) ∧ (ln k 1 (n : Int) m).toNat = p ∧ lm k 1 m = q
    · rw [if_pos c1]
      exact ⟨⟨by omega, by omega⟩, fun _ => Or.inr (hC 1 (by omega) c1), fun _ => ne0_of (by omega)⟩
    · rw [if_neg c1]
      refine ⟨⟨a1, by omega⟩, fun z => Or.inl (a3.mp z), fun z => a3.mpr ?_⟩
      rcases z with z | z
      · exact z
      · rcases hL z with z | z
        · exact absurd z c0
        · exact absurd z c1
/-- the contents, as the class has them, as far as they are asked for: above at -/
def GV (T : Nat → Nat → Int32) (f v : Nat → Int32) (k x0 m0 at_ : Nat) : Prop := (∀ p q, p ≤ 20 → q ≤ 20 → ((RR T k (x0 : Int) m0 p q ∧ at_ < pos p q) → tab v k p q = VV T k (p : Int) q) ∧ (¬ (RR T k (x0 : Int) m0 p q ∧ at_ < pos p q) → tab v k p q = tab f k p q)) ∧ ∀ s, (∀ p q, p ≤ 20 → q ≤ 20 → ¬ s = sl k p q) → v s = f s
/-- how often the places are wanted that are still to come -/
def su (u : Nat → Int32) (n : Nat) : Nat := sm (fun a => (u a).toInt.toNat) n
/-- what is wanted, made, found so far, r still to come -/
def TC (f v t0 t : Nat → Int32) (r : Nat) : Prop := ∃ w d : Nat, d ≤ w ∧ w + r + phi f = phi v + 1 ∧ cnt v = cnt f + d ∧ t 1 = t0 1 + Int32.ofNat w ∧ t 2 = t0 2 + Int32.ofNat d ∧ t 3 = t0 3 + Int32.ofNat (w - d) ∧ ∀ i, ¬ i = 1 → ¬ i = 2 → ¬ i = 3 → t i = t0 i
theorem o_back {v : Int32} (h : 0 ≤ v.toInt) : v = Int32.ofNat v.toInt.toNat := by
  have b := rgI v
  apply Int32.toInt_inj.mp
  rw [o_i (by omega)]
  omega
theorem TC.kept {f v t0 t : Nat → Int32} {r : Nat} {x : Int32} (hx : 0 ≤ x.toInt) (h : TC f v t0 t (r + x.toInt.toNat)) : TC f v t0 (tka 0 x t) r := by
  obtain ⟨w, d, h0, h1, h2, h3, h4, h5, h6⟩ := h
  refine ⟨w + x.toInt.toNat, d, by omega, by omega, h2, ?_, ?_, ?_, fun i a b c => (tka_o a b c).trans (h6 i a b c)⟩
  · rw [tka_1, h3]
    conv => lhs; rw [o_back hx]
    exact o_a2
  · rw [tka_2, h4, Int32.add_zero]
  · rw [tka_3, h5, Int32.sub_zero]
    conv => lhs; rw [o_back hx]
    rw [o_a2, show w - d + x.toInt.toNat = w + x.toInt.toNat - d from by omega]
theorem TC.made {f v t0 t : Nat → Int32} {r i l : Nat} {x y : Int32} (hx : 1 ≤ x.toInt) (h : TC f v t0 t (r + x.toInt.toNat)) (hi : i < 2646) (hu : v i = -1) (hy : ¬ y = -1) (hl : nlS i = l) : TC f (upd v i y) t0 (tka 1 x t) (r + l) := by
  obtain ⟨w, d, h0, h1, h2, h3, h4, h5, h6⟩ := h
  have p := phi_upd (f := v) (v := y) hi
  have q := cnt_upd (f := v) (v := y) hi
  rw [if_pos hu, if_neg hy] at p q
  have e1 : x - 1 = Int32.ofNat (x.toInt.toNat - 1) := by
    conv => lhs; rw [o_back (show 0 ≤ x.toInt by omega)]
    exact o_sub (b := 1) (by omega)
  refine ⟨w + x.toInt.toNat, d + 1, by omega, by omega, by omega, ?_, ?_, ?_, fun i a b c => (tka_o a b c).trans (h6 i a b c)⟩
  · rw [tka_1, h3]
    conv => lhs; rw [o_back (show 0 ≤ x.toInt by omega)]
    exact o_a2
  · rw [tka_2, h4]
    exact o_a2 (b := 1)
  · rw [tka_3, h5, e1, o_a2, show w - d + (x.toInt.toNat - 1) = w + x.toInt.toNat - (d + 1) from by omega]
theorem su_inc {n m w at_ : Nat} {u : Nat → Int32} (hw : w < 2) (hn1 : 1 ≤ n) (hn : n ≤ 20) (hm1 : 1 ≤ m) (hm : m ≤ 20) (hp : pos n m = at_ + 1) (hu : ∀ p q, p ≤ 20 → q ≤ 20 → 0 ≤ (u (pos p q)).toInt ∧ (u (pos p q)).toInt ≤ 100000) : su (inc k n m w u) at_ = su u at_ + rr k w n m := by
  obtain ⟨e1, -, e2⟩ := leg_bd (k := k) (w := w) (x := (n : Int)) (m := m) (by omega) hm (rs_n (by omega) hm1)
  unfold inc rr
  by_cases c : hl k w m = true ∧ ¬ rs (ln k w (n : Int) m) (lm k w m) = true
  · rw [if_pos c, if_pos c]
    obtain ⟨g1, g2⟩ := rs_f c.2
    have pl := pos_leg hw hn1 hn hm1 c.2
    have p1 : 1 ≤ pos (ln k w (n : Int) m).toNat (lm k w m) := by unfold pos; omega
    obtain ⟨b1, b2⟩ := hu (ln k w (n : Int) m).toNat (lm k w m) (by omega) e2
    generalize pos (ln k w (n : Int) m).toNat (lm k w m) = a at *
    have s1 := add1 b1 b2
    have e : (fun z => (upd u a (u a + (1 : Int32)) z).toInt.toNat) = upm (fun z => (u z).toInt.toNat) a ((u a).toInt.toNat + 1) := by
      funext z
      unfold upd upm
      by_cases y : z = a
      · rw [if_pos y, if_pos y, s1]; omega
      · rw [if_neg y, if_neg y]
    have q := sm_upm (g := fun z => (u z).toInt.toNat) (v := (u a).toInt.toNat + 1) (n := at_) p1 (show a ≤ at_ by omega)
    unfold su
    rw [e]
    omega
  · rw [if_neg c, if_neg c, Nat.add_zero]
theorem m_loop2 (hk : k < 6) (hp0 : Rg p0 0 2) (hN : 100 ≤ N) (hx1 : 1 ≤ x0) (hx : x0 ≤ 20) (hm1 : 1 ≤ m0) (hm : m0 ≤ 20) {f g tt : Nat → Int32} (hT : OKT (tabm g k)) (hfg : ∀ n m, n ≤ 20 → m ≤ 20 → tabm g k n m = tab f k n m) : ∀ at_ fu (t u v : Nat → Int32), at_ ≤ pos x0 m0 → at_ < fu → MK (tabm g k) k x0 m0 at_ u → GV (tabm g k) f v k x0 m0 at_ → TC f v tt t (su u at_) → ∃ t' u' v', fX7_known_68 N K th f0 t0 u0 p0 (Int32.ofNat k) p2 p3 fu (Int32.ofNat at_) g t u = fX7_known_277 N K th f0 t0 u0 p0 (Int32.ofNat k) p2 p3 N (0 : Int32) g t' u' ∧ MK (tabm g k) k x0 m0 0 u' ∧ GV (tabm g k) f v' k x0 m0 0 ∧ TC f v' tt t' 0 := by
  have hx0 := pos_lt hx hm
  intro at_
  induction at_ with
  | zero =>
    intro fu t u v _ hfu h hv hc
    obtain ⟨fu, rfl⟩ : ∃ z, fu = z + 1 := ⟨fu - 1, by omega⟩
    refine ⟨t, u, v, ?_, h, hv, hc⟩
    conv => lhs; unfold fX7_known_68
    rw [if_pos (by decide)]
  | succ at_ ih =>
    intro fu t u v hat hfu h hv hc
    obtain ⟨fu, rfl⟩ : ∃ z, fu = z + 1 := ⟨fu - 1, by omega⟩
    have hn : (at_ + 1) % 21 ≤ 20 := by omega
    have hm' : (at_ + 1) / 21 ≤ 20 := by omega
    have hp : pos ((at_ + 1) % 21) ((at_ + 1) / 21) = at_ + 1 := by unfold pos; omega
    obtain ⟨⟨a1, a2⟩, a3⟩ := h _ _ hn hm'
    rw [hp] at a1 a2 a3
    generalize (at_ + 1) % 21 = n at *
    generalize (at_ + 1) / 21 = m at *
    have esu : su u (at_ + 1) = su u at_ + (u (at_ + 1)).toInt.toNat := rfl
    -- a place that isn't made
    have gvs : (∀ b1 b2, RR (tabm g k) k (x0 : Int) m0 b1 b2 → ¬ pos b1 b2 = at_ + 1) → GV (tabm g k) f v k x0 m0 at_ := by
      intro hno
      refine ⟨fun p q hpp hq => ⟨fun z => ?_, fun z => ?_⟩, hv.2⟩
      · have := hno p q z.1
        exact (hv.1 p q hpp hq).1 ⟨z.1, by omega⟩
      · exact (hv.1 p q hpp hq).2 (fun y => z ⟨y.1, by omega⟩)
    by_cases hu : u (at_ + 1) = 0
    · have hno : ∀ b1 b2, RR (tabm g k) k (x0 : Int) m0 b1 b2 → ¬ pos b1 b2 = at_ + 1 := by
        intro b1 b2 c1 c2
        obtain ⟨-, d1, d2, d3, d4, -⟩ := RR_un ((x0 : Int).toNat + m0 + 1) (x0 : Int) m0 (by omega) (by omega) hm c1
        obtain ⟨rfl, rfl⟩ := pos_inj d3 hn (c2.trans hp.symm)
        exact a3.mpr (Ask.of hx hm c1 (by omega)) hu
      have hskip : MK (tabm g k) k x0 m0 at_ u := MK_skip h hat hx hm hno
      have hc2 : TC f v tt t (su u at_) := by
        rw [esu, hu, show ((0 : Int32).toInt.toNat) = 0 from by decide, Nat.add_zero] at hc
        exact hc
      obtain ⟨t', u', v', r1, r2, r3, r4⟩ := ih fu t u v (by omega) (by omega) hskip (gvs hno) hc2
      refine ⟨t', u', v', ?_, r2, r3, r4⟩
      conv => lhs; unfold fX7_known_68
      rw [if_neg (o_0lt (by omega) (by omega)), if_neg (o_ob (by omega) (by omega)), o_c (by omega), if_pos hu]
      unfold fX7_known_268
      rw [o_m1]
      exact r1
    · have hask := a3.mp hu
      have u1 := pos_of a1 hu
      obtain ⟨b1, b2, b3, b4⟩ := hask.b hx1 hx hm1 hm
      have hg : g (cd k n m) = -1 ∨ 0 ≤ (g (cd k n m)).toInt := by
        rcases hT n m b2 b4 with z | ⟨-, -, z, -⟩
        · exact Or.inl z
        · exact Or.inr z
      have e1 := m68 (N := N) (K := K) (th := th) (p2 := p2) (p3 := p3) (f0 := f0) (t0 := t0) (u0 := u0) hk hp0 hN b1 b2 b3 b4 (fu := fu) (g := g) (t := t) (u := u) (by rw [hp]; exact hu) hg
      rw [hp, show at_ + 1 - 1 = at_ from by omega] at e1
      by_cases c : g (cd k n m) = -1
      · rw [if_pos c, if_pos c] at e1
        have hrr := hask.rr hx1 hx hm1 hm c
        have hub : ∀ p q, p ≤ 20 → q ≤ 20 → 0 ≤ (u (pos p q)).toInt ∧ (u (pos p q)).toInt ≤ 1000 := by
          intro p q hpp hq
          obtain ⟨⟨z1, z2⟩, -⟩ := h p q hpp hq
          exact ⟨z1, by omega⟩
        have hub2 : ∀ p q, p ≤ 20 → q ≤ 20 → 0 ≤ (inc k n m 0 u (pos p q)).toInt ∧ (inc k n m 0 u (pos p q)).toInt ≤ 100000 := by
          intro p q hpp hq
          obtain ⟨z1, z2⟩ := hub p q hpp hq
          have s1 := add1 (v := u (pos p q)) z1 (by omega)
          rw [inc_at b1 b2 b3 b4 hpp]
          by_cases y : (hl k 0 m = true ∧ ¬ rs (ln k 0 (n : Int) m) (lm k 0 m) = true) ∧ (ln k 0 (n : Int) m).toNat = p ∧ lm k 0 m = q
          · rw [if_pos y]; omega
          · rw [if_neg y]; omega
        have s0 := su_inc (k := k) (w := 0) (at_ := at_) (u := u) (by omega) b1 b2 b3 b4 hp (fun p q hpp hq => by have := hub p q hpp hq; omega)
        have s1 := su_inc (k := k) (w := 1) (at_ := at_) (u := inc k n m 0 u) (by omega) b1 b2 b3 b4 hp hub2
        have hsl := sl_lt hk b2 b4
        have hvy : ¬ VV (tabm g k) k (n : Int) m = -1 := VV_ne hT hk (by omega) b4
        have hvu : v (sl k n m) = -1 := ((hv.1 n m b2 b4).2 (fun z => by omega)).trans ((hfg n m b2 b4).symm.trans c)
        have hc2 : TC f (upd v (sl k n m) (VV (tabm g k) k (n : Int) m)) tt (tka 1 (u (at_ + 1)) t) (su (inc k n m 1 (inc k n m 0 u)) at_) := by
          rw [s1, s0, Nat.add_assoc]
          rw [esu] at hc
          exact TC.made u1 hc hsl hvu hvy (nlS_sl b2 b4)
        have hv2 : GV (tabm g k) f (upd v (sl k n m) (VV (tabm g k) k (n : Int) m)) k x0 m0 at_ := by
          refine ⟨fun p q hpp hq => ?_, fun s hs => ?_⟩
          · rw [tab_at b2 b4 hpp hq]
            by_cases e : n = p ∧ m = q
            · obtain ⟨rfl, rfl⟩ := e
              rw [if_pos ⟨rfl, rfl⟩]
              exact ⟨fun _ => rfl, fun z => absurd ⟨hrr, by omega⟩ z⟩
            · rw [if_neg e]
              have hpi : ¬ pos p q = at_ + 1 := fun y => e (by obtain ⟨a, b⟩ := pos_inj hpp b2 (y.trans hp.symm); exact ⟨a.symm, b.symm⟩)
              exact ⟨fun z => (hv.1 p q hpp hq).1 ⟨z.1, by omega⟩, fun z => (hv.1 p q hpp hq).2 (fun y => z ⟨y.1, by omega⟩)⟩
          · unfold upd
            rw [if_neg (hs n m b2 b4)]
            exact hv.2 s hs
        obtain ⟨t', u', v', r1, r2⟩ := ih fu _ _ _ (by omega) (by omega) (MK_step h hat hx hm b1 b2 b3 b4 hp hrr) hv2 hc2
        exact ⟨t', u', v', e1.trans r1, r2⟩
      · rw [if_neg c, if_neg c] at e1
        have hno : ∀ d1 d2, RR (tabm g k) k (x0 : Int) m0 d1 d2 → ¬ pos d1 d2 = at_ + 1 := by
          intro d1 d2 c1 c2
          obtain ⟨z, -, -, d3, -, -⟩ := RR_un ((x0 : Int).toNat + m0 + 1) (x0 : Int) m0 (by omega) (by omega) hm c1
          obtain ⟨rfl, rfl⟩ := pos_inj d3 hn (c2.trans hp.symm)
          exact c z
        obtain ⟨t', u', v', r1, r2⟩ := ih fu _ u v (by omega) (by omega) (MK_skip h hat hx hm hno) (gvs hno) (TC.kept a1 hc)
        exact ⟨t', u', v', e1.trans r1, r2⟩
/-- the contents as far as they are written -/
def KP (g g' : Nat → Int32) (k x0 m0 i : Nat) : Prop := (∀ p q, p ≤ 20 → q ≤ 20 → ((RR (tabm g k) k (x0 : Int) m0 p q ∧ pos p q < i) → tabm g' k p q = VV (tabm g k) k (p : Int) q) ∧ (¬ (RR (tabm g k) k (x0 : Int) m0 p q ∧ pos p q < i) → tabm g' k p q = tabm g k p q)) ∧ ∀ c, (∀ p q, p ≤ 20 → q ≤ 20 → ¬ c = cd k p q) → g' c = g c
theorem m_loop3 (hk : k < 6) (hp0 : Rg p0 0 2) (hN : 100 ≤ N) (hx1 : 1 ≤ x0) (hx : x0 ≤ 20) (hm1 : 1 ≤ m0) (hm : m0 ≤ 20) {g t u : Nat → Int32} (hT : OKT (tabm g k)) (hu : MK (tabm g k) k x0 m0 0 u) : ∀ n i fu (g' : Nat → Int32), i + n = pos x0 m0 + 1 → n < fu → KP g g' k x0 m0 i → ∃ g2, fX7_known_277 N K th f0 t0 u0 p0 (Int32.ofNat k) (Int32.ofNat x0) (Int32.ofNat m0) fu (Int32.ofNat i) g' t u = some (VV (tabm g k) k (x0 : Int) m0, g2, t, u) ∧ KP g g2 k x0 m0 (pos x0 m0 + 1) := by
  have hx0 := pos_lt hx hm
  have ex : ((x0 : Nat) : Int).toNat = x0 := by omega
  have hroot : ¬ rs (x0 : Int) m0 = true := rs_n (by omega) hm1
  intro n
  induction n with
  | zero =>
    intro i fu g' hi hfu h
    obtain ⟨fu, rfl⟩ : ∃ z, fu = z + 1 := ⟨fu - 1, by omega⟩
    obtain rfl : i = pos x0 m0 + 1 := by omega
    refine ⟨g', ?_, h⟩
    unfold fX7_known_277
    rw [o_pos, if_pos (by rw [o_lt (by omega) (by omega)]; omega), m_worth hk hp0 hm (by rw [o_i (by omega)]; omega), Option.bind_some, o_i (by omega), if_neg hroot, ex]
    have e : g' (cd k x0 m0) = VV (tabm g k) k (x0 : Int) m0 := by
      by_cases c : tabm g k x0 m0 = -1
      · have s := RR_self (T := tabm g k) (k := k) (x := (x0 : Int)) (m := m0) (by omega) hm hroot (by rw [ex]; exact c)
        rw [ex] at s
        exact (h.1 x0 m0 hx hm).1 ⟨s, by omega⟩
      · have v := VV_eq (T := tabm g k) (k := k) (x := (x0 : Int)) (m := m0) (by omega) hm
        rw [if_neg hroot, ex, if_neg c] at v
        rw [v]
        exact (h.1 x0 m0 hx hm).2 (fun z => c (RR_un ((x0 : Int).toNat + m0 + 1) (x0 : Int) m0 (by omega) (by omega) hm z.1).1)
    rw [e]
  | succ n ih =>
    intro i fu g' hi hfu h
    obtain ⟨fu, rfl⟩ : ∃ z, fu = z + 1 := ⟨fu - 1, by omega⟩
    have hn : i % 21 ≤ 20 := by omega
    have hm' : i / 21 ≤ 20 := by omega
    have hp : pos (i % 21) (i / 21) = i := by unfold pos; omega
    obtain ⟨⟨a1, a2⟩, a3⟩ := hu _ _ hn hm'
    rw [hp] at a1 a2 a3
    have hmod : Int32.ofNat i % (21 : Int32) = Int32.ofNat (i % 21) := by rw [show (21 : Int32) = Int32.ofNat 21 from rfl, o_mod (by omega) (by omega)]
    have hdiv : Int32.ofNat i / (21 : Int32) = Int32.ofNat (i / 21) := by rw [show (21 : Int32) = Int32.ofNat 21 from rfl, o_div (by omega) (by omega)]
    unfold fX7_known_277
    rw [o_pos, if_neg (by rw [o_lt (by omega) (by omega)]; omega), if_neg (o_ob (by omega) (by omega)), o_c (by omega)]
    have q0 : (0 : Int32).toInt = 0 := by decide
    have next : ∀ g3, KP g g3 k x0 m0 (i + 1) → ∃ g2, fX7_known_315 N K th f0 t0 u0 p0 (Int32.ofNat k) (Int32.ofNat x0) (Int32.ofNat m0) (fX7_known_277 N K th f0 t0 u0 p0 (Int32.ofNat k) (Int32.ofNat x0) (Int32.ofNat m0) fu) (Int32.ofNat i) g3 t u = some (VV (tabm g k) k (x0 : Int) m0, g2, t, u) ∧ KP g g2 k x0 m0 (pos x0 m0 + 1) := by
      intro g3 h3
      unfold fX7_known_315
      rw [o_1]
      exact ih (i + 1) fu g3 (by omega) (by omega) h3
    have same : (∀ p q, RR (tabm g k) k (x0 : Int) m0 p q → ¬ pos p q = i) → KP g g' k x0 m0 (i + 1) := by
      intro hs
      refine ⟨fun p q hpp hq => ⟨fun z => ?_, fun z => ?_⟩, h.2⟩
      · have := hs p q z.1
        exact (h.1 p q hpp hq).1 ⟨z.1, by omega⟩
      · exact (h.1 p q hpp hq).2 (fun y => z ⟨y.1, by omega⟩)
    by_cases c : u i = 0
    · rw [if_pos (by rw [c]; decide)]
      refine next g' (same (fun p q z e => ?_))
      obtain ⟨-, d1, d2, d3, d4, -⟩ := RR_un ((x0 : Int).toNat + m0 + 1) (x0 : Int) m0 (by omega) (by omega) hm z
      obtain ⟨rfl, rfl⟩ := pos_inj d3 hn (e.trans hp.symm)
      exact a3.mpr (Ask.of hx hm z (Nat.zero_le _)) c
    · have hask := a3.mp c
      obtain ⟨b1, b2, b3, b4⟩ := hask.b hx1 hx hm1 hm
      have p1 := pos_of a1 c
      rw [if_neg (by rw [Int32.le_iff_toInt_le]; omega), hmod, hdiv]
      generalize i % 21 = n2 at *
      generalize i / 21 = m2 at *
      have hold : g' (cd k n2 m2) = g (cd k n2 m2) := (h.1 n2 m2 b2 b4).2 (fun z => by omega)
      have hg : g' (cd k n2 m2) = -1 ∨ 0 ≤ (g' (cd k n2 m2)).toInt := by
        rw [hold]
        rcases hT n2 m2 b2 b4 with z | ⟨-, -, z, -⟩
        · exact Or.inl z
        · exact Or.inr z
      rw [m_keep hN hk hp0 b1 b2 b3 b4 hg, Option.bind_some]
      by_cases d : g (cd k n2 m2) = -1
      · rw [if_pos (hold.trans d)]
        have hrr := hask.rr hx1 hx hm1 hm d
        have r2 : ¬ rs (n2 : Int) m2 = true := rs_n (by omega) b3
        have en2 : ((n2 : Nat) : Int).toNat = n2 := by omega
        have v := VV_eq (T := tabm g k) (k := k) (x := (n2 : Int)) (m := m2) (by omega) b4
        rw [if_neg r2, en2, if_pos (show tabm g k n2 m2 = -1 from d)] at v
        have hW : ∀ w, w < 2 → hl k w m2 = true → Wl g' k w n2 m2 = VV (tabm g k) k (ln k w (n2 : Int) m2) (lm k w m2) := by
          intro w hw hh
          obtain ⟨e1, -, e2⟩ := leg_bd (k := k) (w := w) (x := (n2 : Int)) (m := m2) (by omega) b4 r2
          rw [VV_eq e1 e2]
          unfold Wl
          by_cases rr : rs (ln k w (n2 : Int) m2) (lm k w m2) = true
          · rw [if_pos rr, if_pos rr]
          · rw [if_neg rr, if_neg rr]
            obtain ⟨s1, s2⟩ := rs_f rr
            have ey : (((ln k w (n2 : Int) m2).toNat : Nat) : Int) = ln k w (n2 : Int) m2 := by omega
            have pl := pos_leg hw b1 b2 b3 rr
            by_cases uu : tabm g k (ln k w (n2 : Int) m2).toNat (lm k w m2) = -1
            · rw [if_pos uu]
              have z := (h.1 _ _ (show (ln k w (n2 : Int) m2).toNat ≤ 20 by omega) e2).1 ⟨RR_leg hw hh (by omega) hm hrr rr uu, by omega⟩
              have vz := VV_eq (T := tabm g k) (k := k) e1 e2
              rw [if_neg rr, if_pos uu] at vz
              rw [ey] at z
              exact z.trans vz
            · rw [if_neg uu]
              exact (h.1 _ _ (show (ln k w (n2 : Int) m2).toNat ≤ 20 by omega) e2).2 (fun z => uu (RR_un ((x0 : Int).toNat + m0 + 1) (x0 : Int) m0 (by omega) (by omega) hm z.1).1)
        have hval : Wl g' k 0 n2 m2 + (if hl k 1 m2 = true then Wl g' k 1 n2 m2 else 0) = VV (tabm g k) k (n2 : Int) m2 := by
          rw [v, hW 0 (by omega) hl0]
          by_cases hh : hl k 1 m2 = true
          · rw [if_pos hh, if_pos hh, hW 1 (by omega) hh]
          · rw [if_neg hh, if_neg hh]
        rw [hval]
        refine next _ ⟨fun p q hpp hq => ?_, fun cc hcc => ?_⟩
        · by_cases e : p = n2 ∧ q = m2
          · obtain ⟨rfl, rfl⟩ := e
            refine ⟨fun _ => upd_at, fun z => absurd ⟨hrr, by omega⟩ z⟩
          · have hne : ¬ cd k p q = cd k n2 m2 := fun z => e (by obtain ⟨-, a, b⟩ := cd_inj hpp hq b2 b4 z; exact ⟨a, b⟩)
            have hsame : tabm (upd g' (cd k n2 m2) (VV (tabm g k) k (n2 : Int) m2)) k p q = tabm g' k p q := by
              unfold tabm upd
              rw [if_neg hne]
            rw [hsame]
            constructor
            · intro z
              have hpi : ¬ pos p q = i := fun y => e (pos_inj hpp b2 (y.trans hp.symm))
              exact (h.1 p q hpp hq).1 ⟨z.1, by omega⟩
            · intro z
              exact (h.1 p q hpp hq).2 (fun y => z ⟨y.1, by omega⟩)
        · unfold upd
          rw [if_neg (hcc n2 m2 b2 b4)]
          exact h.2 cc hcc
      · rw [if_neg (fun z => d (hold.symm.trans z))]
        refine next g' (same (fun p q z e => ?_))
        obtain ⟨d0, d1, d2, d3, d4, -⟩ := RR_un ((x0 : Int).toNat + m0 + 1) (x0 : Int) m0 (by omega) (by omega) hm z
        obtain ⟨rfl, rfl⟩ := pos_inj d3 b2 (e.trans hp.symm)
        exact d d0
theorem m_loop1 : ∀ n i fu (u g t : Nat → Int32), i + n = 441 → n < fu → x0 ≤ 20 → m0 ≤ 20 → ∃ u', fX7_known_22 N K th f0 t0 u0 p0 (Int32.ofNat k) (Int32.ofNat x0) (Int32.ofNat m0) fu (Int32.ofNat i) g t u = fX7_known_68 N K th f0 t0 u0 p0 (Int32.ofNat k) (Int32.ofNat x0) (Int32.ofNat m0) N (Int32.ofNat (pos x0 m0)) g t (upd u' (pos x0 m0) 1) ∧ ∀ a, u' a = if i ≤ a ∧ a < 441 then 0 else u a := by
  intro n
  induction n with
  | zero =>
    intro i fu u g t hi hfu hx hm
    obtain ⟨fu, rfl⟩ : ∃ z, fu = z + 1 := ⟨fu - 1, by omega⟩
    obtain rfl : i = 441 := by omega
    have hp := pos_lt hx hm
    refine ⟨u, ?_, fun a => by rw [if_neg (by omega)]⟩
    unfold fX7_known_22
    rw [if_pos (by decide), o_pos, if_neg (o_ob hp (by omega)), o_c (by omega)]
  | succ n ih =>
    intro i fu u g t hi hfu hx hm
    obtain ⟨fu, rfl⟩ : ∃ z, fu = z + 1 := ⟨fu - 1, by omega⟩
    obtain ⟨u', h1, h2⟩ := ih (i + 1) fu (upd u i 0) g t (by omega) (by omega) hx hm
    refine ⟨u', ?_, fun a => ?_⟩
    · unfold fX7_known_22
      rw [if_neg (by rw [show (441 : Int32) = Int32.ofNat 441 from rfl, o_le (by omega) (by omega)]; omega), if_neg (o_ob (by omega) (by omega)), o_c (by omega), o_1]
      exact h1
    · rw [h2 a]
      unfold upd
      by_cases c : i + 1 ≤ a ∧ a < 441
      · rw [if_pos c, if_pos (by omega)]
      · rw [if_neg c]
        by_cases e : a = i
        · rw [if_pos e, if_pos (by omega)]
        · rw [if_neg e, if_neg (by omega)]
theorem m_known (hk : k < 6) (hp0 : Rg p0 0 2) (hN : 1000 ≤ N) (hx : x0 ≤ 20) (hm : m0 ≤ 20) {f g t u : Nat → Int32} (hT : OKT (tabm g k)) (hfg : ∀ n m, n ≤ 20 → m ≤ 20 → tabm g k n m = tab f k n m) : ∃ g' t' u' v, fX7_known N K th g t u p0 (Int32.ofNat k) (Int32.ofNat x0) (Int32.ofNat m0) = some (VV (tabm g k) k (x0 : Int) m0, g', t', u') ∧ Fil (tabm g k) (tabm g' k) k (x0 : Int) m0 ∧ (∀ c, (∀ p q, p ≤ 20 → q ≤ 20 → ¬ c = cd k p q) → g' c = g c) ∧ (∀ p q, p ≤ 20 → q ≤ 20 → tabm g' k p q = tab v k p q) ∧ (∀ s, (∀ p q, p ≤ 20 → q ≤ 20 → ¬ s = sl k p q) → v s = f s) ∧ CK f v (if rs (x0 : Int) m0 = true then 0 else 1) (t 1) (t' 1) (t 2) (t' 2) (t 3) (t' 3) ∧ ∀ i, ¬ i = 1 → ¬ i = 2 → ¬ i = 3 → t' i = t i := by
  have ex : ((x0 : Nat) : Int).toNat = x0 := by omega
  have ei : (Int32.ofNat x0).toInt = (x0 : Int) := o_i (by omega)
  have hx0 := pos_lt hx hm
  unfold fX7_known
  rw [m_rests hm, Option.bind_some, ei]
  by_cases r : rs (x0 : Int) m0 = true
  · refine ⟨g, t, u, f, ?_, Fil.r (by omega) hm (Or.inl r), fun _ _ => rfl, hfg, fun _ _ => rfl, by rw [if_pos r]; exact CK.r, fun _ _ _ _ => rfl⟩
    rw [r, if_neg bitn, m_worth hk hp0 hm (by omega), Option.bind_some, ei, VV_eq (by omega) hm, if_pos r, if_pos r]
  · obtain ⟨g1, g2⟩ := rs_f r
    rw [Bool.eq_false_iff.mpr r, if_pos bif0]
    obtain ⟨u1, h1, h2⟩ := m_loop1 (N := N) (K := K) (k := k) (x0 := x0) (m0 := m0) (th := th) (p0 := p0) (f0 := g) (t0 := t) (u0 := u) 441 0 N u g t rfl (by omega) hx hm
    have hno : ∀ b1 b2, RR (tabm g k) k (x0 : Int) m0 b1 b2 → ¬ pos x0 m0 < pos b1 b2 := by
      intro b1 b2 z
      have := RR_pos ((x0 : Int).toNat + m0 + 1) (x0 : Int) m0 (by omega) (by omega) hm z
      rw [ex] at this
      omega
    have hmk : MK (tabm g k) k x0 m0 (pos x0 m0) (upd u1 (pos x0 m0) 1) := by
      intro p q hp hq
      have hpq := pos_lt hp hq
      have q1 : (1 : Int32).toInt = 1 := by decide
      have q0 : (0 : Int32).toInt = 0 := by decide
      unfold upd
      by_cases e : pos p q = pos x0 m0
      · obtain ⟨rfl, rfl⟩ := pos_inj hp hx e
        rw [if_pos rfl]
        exact ⟨⟨by omega, by omega⟩, fun _ => Or.inl ⟨rfl, rfl⟩, fun _ => by decide⟩
      · rw [if_neg e, h2, if_pos (by omega)]
        refine ⟨⟨by omega, by omega⟩, fun z => absurd rfl z, fun z => ?_⟩
        rcases z with ⟨rfl, rfl⟩ | ⟨b1, b2, z1, z2, -⟩
        · exact absurd rfl e
        · exact absurd z2 (hno b1 b2 z1)
    have hp1 : 1 ≤ pos x0 m0 := by unfold pos; omega
    have hsu : su (upd u1 (pos x0 m0) 1) (pos x0 m0) = 1 := by
      obtain ⟨z, hz⟩ : ∃ z, pos x0 m0 = z + 1 := ⟨pos x0 m0 - 1, by omega⟩
      rw [hz]
      show su (upd u1 (z + 1) 1) z + (upd u1 (z + 1) 1 (z + 1)).toInt.toNat = 1
      rw [upd_at]
      have e0 : su (upd u1 (z + 1) 1) z = 0 := by
        have e1 : su (upd u1 (z + 1) 1) z = sm (fun _ => 0) z := sm_congr (fun p a b => by
          show (upd u1 (z + 1) 1 p).toInt.toNat = 0
          unfold upd
          rw [if_neg (by omega), h2, if_pos (by omega)]
          rfl)
        rw [e1]
        have : ∀ n, sm (fun _ => 0) n = 0 := by
          intro n
          induction n with
          | zero => rfl
          | succ n ih => show sm (fun _ => 0) n + 0 = 0; rw [ih]
        exact this z
      rw [e0]
      decide
    have hgv : GV (tabm g k) f f k x0 m0 (pos x0 m0) := ⟨fun p q _ _ => ⟨fun z => absurd z.2 (hno p q z.1), fun _ => rfl⟩, fun _ _ => rfl⟩
    have htc : TC f f t t (su (upd u1 (pos x0 m0) 1) (pos x0 m0)) := by
      rw [hsu]
      exact ⟨0, 0, Nat.le_refl _, by omega, by omega, o_a0, o_a0, o_a0, fun _ _ _ _ => rfl⟩
    obtain ⟨t2, u2, v, h3, h4, hv, hc⟩ := m_loop2 (N := N) (K := K) (th := th) (p2 := Int32.ofNat x0) (p3 := Int32.ofNat m0) (f0 := g) (t0 := t) (u0 := u) hk hp0 (by omega) (by omega) hx g2 hm hT hfg (pos x0 m0) N t _ f (Nat.le_refl _) (by omega) hmk hgv htc
    obtain ⟨g', h5, h6⟩ := m_loop3 (N := N) (K := K) (th := th) (f0 := g) (t0 := t) (u0 := u) (t := t2) (u := u2) hk hp0 (by omega) (by omega) hx g2 hm hT h4 (pos x0 m0 + 1) 0 N g (by omega) (by omega) ⟨fun p q _ _ => ⟨fun z => by omega, fun _ => rfl⟩, fun _ _ => rfl⟩
    have hfil : Fil (tabm g k) (tabm g' k) k (x0 : Int) m0 := by
      refine fun p q hp hq => ⟨fun z => ?_, fun z => ?_⟩
      · have := hno p q z
        exact (h6.1 p q hp hq).1 ⟨z, by omega⟩
      · exact (h6.1 p q hp hq).2 (fun y => z y.1)
    refine ⟨g', t2, u2, v, (h1.trans (h3.trans h5)), hfil, h6.2, fun p q hp hq => ?_, hv.2, ?_, ?_⟩
    · by_cases z : RR (tabm g k) k (x0 : Int) m0 p q
      · obtain ⟨-, d1, d2, -, -, -⟩ := RR_un ((x0 : Int).toNat + m0 + 1) (x0 : Int) m0 (by omega) (by omega) hm z
        rw [(hfil p q hp hq).1 z, (hv.1 p q hp hq).1 ⟨z, by unfold pos; omega⟩]
      · rw [(hfil p q hp hq).2 z, (hv.1 p q hp hq).2 (fun y => z y.1)]
        exact hfg p q hp hq
    · obtain ⟨w, d, c0, c1, c2, c3, c4, c5, -⟩ := hc
      rw [if_neg (by decide)]
      exact ⟨w, d, c0, by omega, c2, c3, c4, c5⟩
    · obtain ⟨w, d, -, -, -, -, -, -, c6⟩ := hc
      exact c6
end KN2

end MG_60nknown
section MG_60osworth
/-! ===== the series tells what the legs tell ===== -/
theorem ofn_at {j : Nat} (hj : 1 ≤ j) : ∀ n i (g : Nat → Int32), j ≤ i → ∀ p, ofn j n i g p = if i ≤ p ∧ p < i + n then g p + ofn j n i g (p - j) else g p := by
  intro n
  induction n with
  | zero => intro i g _ p; rw [if_neg (by omega)]; rfl
  | succ n ih =>
    intro i g hi p
    have e : ofn j (n + 1) i g = ofn j n (i + 1) (upd g i (g i + g (i - j))) := rfl
    have hlow : ∀ q, q < i → ofn j (n + 1) i g q = g q := by
      intro q hq
      rw [e, ih (i + 1) _ (by omega) q, if_neg (by omega)]
      unfold upd
      rw [if_neg (by omega)]
    by_cases c : p = i
    · subst c
      rw [if_pos (by omega), hlow (p - j) (by omega), e, ih (p + 1) _ (by omega) p, if_neg (by omega), upd_at]
    · by_cases d : i ≤ p ∧ p < i + (n + 1)
      · rw [if_pos d, e, ih (i + 1) _ (by omega) p, if_pos (by omega)]
        have : upd g i (g i + g (i - j)) p = g p := by unfold upd; rw [if_neg c]
        rw [this]
      · rw [if_neg d, e, ih (i + 1) _ (by omega) p, if_neg (by omega)]
        unfold upd
        rw [if_neg c]
theorem onc_at {j : Nat} (hj : 1 ≤ j) : ∀ n (g : Nat → Int32), ∀ p, onc j n g p = if j ≤ p ∧ p < j + n then g p + g (p - j) else g p := by
  intro n
  induction n with
  | zero => intro g p; rw [if_neg (by omega)]; rfl
  | succ n ih =>
    intro g p
    have e : onc j (n + 1) g = onc j n (upd g (j + n) (g (j + n) + g n)) := rfl
    rw [e, ih _ p]
    by_cases c : p = j + n
    · subst c
      rw [if_neg (by omega), if_pos (by omega), upd_at, show j + n - j = n from by omega]
    · have e1 : upd g (j + n) (g (j + n) + g n) p = g p := by unfold upd; rw [if_neg c]
      by_cases d : j ≤ p ∧ p < j + n
      · have e2 : upd g (j + n) (g (j + n) + g n) (p - j) = g (p - j) := by unfold upd; rw [if_neg (by omega)]
        rw [if_pos d, if_pos (by omega), e1, e2]
      · rw [if_neg d, if_neg (by omega), e1]
theorem rk_last {odd once : Bool} : ∀ n j (g : Nat → Int32), rk odd once (n + 1) j g = if odd = true ∧ (j + n) % 2 = 0 then rk odd once n j g else tk once (j + n) (rk odd once n j g) := by
  intro n
  induction n with
  | zero => intro j g; rfl
  | succ n ih =>
    intro j g
    have e : rk odd once (n + 1 + 1) j g = rk odd once (n + 1) (j + 1) (if odd = true ∧ j % 2 = 0 then g else tk once j g) := rfl
    rw [e, ih (j + 1), show j + 1 + n = j + (n + 1) from by omega]
    rfl
theorem rowk_0 {k : Nat} (hk : k < 6) {p : Nat} : rowk k 0 p = if p = 0 then 1 else 0 := by
  have e : kLast k 0 = 0 := by unfold kLast; rw [if_neg (by omega)]
  unfold rowk
  rw [e]
  show upd (fun _ => 0) 0 1 p = _
  rfl
theorem rowk_s {k m : Nat} (hk : k < 6) (hm : m < 20) : rowk k (m + 1) = if kOdd k = true ∧ (m + 1) % 2 = 0 then rowk k m else tk (kOnce k) (m + 1) (rowk k m) := by
  have e : ∀ z, kLast k z = z := fun z => by unfold kLast; rw [if_neg (by omega)]
  have l : ∀ z, z ≤ 20 → lastn z = z := by
    intro z hz
    unfold lastn
    by_cases c : z < 20
    · rw [if_pos c]
    · rw [if_neg c]; omega
  unfold rowk
  rw [e, e, l (m + 1) (by omega), l m (by omega), rk_last m 1, show 1 + m = m + 1 from by omega]
/-- a row at a place, 0 ahead of it -/
theorem rat_n {r : Nat → Int32} {x : Int} (h : x < 0) : rat r x = 0 := if_pos h
theorem rat_p {r : Nat → Int32} {x : Int} (h : 0 ≤ x) : rat r x = r x.toNat := if_neg (by omega)
theorem rat_often {r : Nat → Int32} {j : Nat} {x : Int} (hj : 1 ≤ j) (hj2 : j ≤ 20) (hx : x ≤ 20) : rat (ofn j (21 - j) j r) x = rat r x + rat (ofn j (21 - j) j r) (x - j) := by
  by_cases c : x < 0
  · rw [rat_n c, rat_n c, rat_n (by omega), Int32.add_zero]
  · rw [rat_p (by omega), rat_p (by omega), ofn_at hj _ _ _ (Nat.le_refl _) x.toNat]
    by_cases d : (j : Int) ≤ x
    · rw [if_pos (by omega), rat_p (by omega), show (x - (j : Int)).toNat = x.toNat - j from by omega]
    · rw [if_neg (by omega), rat_n (by omega), Int32.add_zero]
theorem rat_once {r : Nat → Int32} {j : Nat} {x : Int} (hj : 1 ≤ j) (hj2 : j ≤ 20) (hx : x ≤ 20) : rat (onc j (21 - j) r) x = rat r x + rat r (x - j) := by
  by_cases c : x < 0
  · rw [rat_n c, rat_n c, rat_n (by omega), Int32.add_zero]
  · rw [rat_p (by omega), rat_p (by omega), onc_at hj _ _ x.toNat]
    by_cases d : (j : Int) ≤ x
    · rw [if_pos (by omega), rat_p (by omega), show (x - (j : Int)).toNat = x.toNat - j from by omega]
    · rw [if_neg (by omega), rat_n (by omega), Int32.add_zero]
theorem rowk_at0 {k : Nat} (hk : k < 6) : ∀ m, m ≤ 20 → rowk k m 0 = 1 := by
  intro m
  induction m with
  | zero => intro _; rw [rowk_0 hk, if_pos rfl]
  | succ m ih =>
    intro hm
    rw [rowk_s hk (by omega)]
    by_cases c : kOdd k = true ∧ (m + 1) % 2 = 0
    · rw [if_pos c]; exact ih (by omega)
    · rw [if_neg c]
      unfold tk
      by_cases o : kOnce k = true
      · rw [if_pos o, onc_at (by omega), if_neg (by omega)]; exact ih (by omega)
      · rw [if_neg o, ofn_at (by omega) _ _ _ (Nat.le_refl _), if_neg (by omega)]; exact ih (by omega)
/-- the series' worth, also of numbers below 0 -/
def spi (k : Nat) (x : Int) (m : Nat) : Int := if k = 1 then x - m else if k = 5 then x - (m * (m + 1) / 2 : Nat) else x
def sw (k : Nat) (x : Int) (m : Nat) : Int32 := rat (rowk k m) (spi k x m)
theorem sw_n {k n m : Nat} : sworth k n m = sw k (n : Int) m := rfl
theorem tri : ∀ m, m < 21 → 1 ≤ m → m * (m + 1) / 2 = m + (m - 1) * m / 2 ∧ 1 ≤ m * (m + 1) / 2 := by decide
theorem sw_rest {k m : Nat} {x : Int} (hk : k < 6) (hx : x ≤ 20) (hm : m ≤ 20) (r : rs x m = true) : sw k x m = rv k x m := by
  have h := rs_t r
  unfold sw rv spi
  by_cases m0 : m = 0
  · subst m0
    have e : (if k = 1 then x - ((0 : Nat) : Int) else if k = 5 then x - ((0 * (0 + 1) / 2 : Nat) : Int) else x) = x := by
      by_cases k1 : k = 1
      · rw [if_pos k1]; omega
      · rw [if_neg k1]
        by_cases k5 : k = 5
        · rw [if_pos k5]; omega
        · rw [if_neg k5]
    rw [e]
    by_cases c : x < 0
    · rw [rat_n c, if_neg (by omega)]
    · rw [rat_p (by omega), rowk_0 hk]
      by_cases d : x = 0
      · rw [if_pos (by omega), if_pos ⟨d, Or.inl rfl⟩]
      · rw [if_neg (by omega), if_neg (by omega)]
  · have hx0 : x ≤ 0 := by omega
    obtain ⟨-, t2⟩ := tri m (by omega) (by omega)
    by_cases k1 : k = 1
    · rw [if_pos k1, rat_n (by omega), if_neg (by omega)]
    · rw [if_neg k1]
      by_cases k5 : k = 5
      · rw [if_pos k5, rat_n (by omega), if_neg (by omega)]
      · rw [if_neg k5]
        by_cases c : x = 0
        · rw [c, rat_p (by omega), if_pos ⟨rfl, Or.inr ⟨k1, k5⟩⟩]
          exact rowk_at0 hk m hm
        · rw [rat_n (by omega), if_neg (by omega)]
theorem sw_legs {k m : Nat} {x : Int} (hk : k < 6) (hx : x ≤ 20) (hm : m ≤ 20) (r : ¬ rs x m = true) : sw k x m = sw k (ln k 0 x m) (lm k 0 m) + (if hl k 1 m = true then sw k (ln k 1 x m) (lm k 1 m) else 0) := by
  obtain ⟨g1, g2⟩ := rs_f r
  obtain ⟨m, rfl⟩ : ∃ z, m = z + 1 := ⟨m - 1, by omega⟩
  have hs := rowk_s hk (show m < 20 by omega)
  have hk6 : k = 0 ∨ k = 1 ∨ k = 2 ∨ k = 3 ∨ k = 4 ∨ k = 5 := by omega
  have hc : ((m + 1 : Nat) : Int) = (m : Int) + 1 := by omega
  have mm : m + 1 - 1 = m := by omega
  rcases hk6 with rfl | rfl | rfl | rfl | rfl | rfl
  · have e : rowk 0 (m + 1) = ofn (m + 1) (21 - (m + 1)) (m + 1) (rowk 0 m) := hs
    have q := rat_often (r := rowk 0 m) (j := m + 1) (x := x) (by omega) hm hx
    rw [← e] at q
    rw [if_pos (show hl 0 1 (m + 1) = true from decide_eq_true (Or.inr (Or.inr ⟨by decide, by decide⟩)))]
    show rat (rowk 0 (m + 1)) x = rat (rowk 0 (m + 1 - 1)) x + rat (rowk 0 (m + 1)) (x - ((m + 1 : Nat) : Int))
    rw [mm]
    exact q
  · have e : rowk 1 (m + 1) = ofn (m + 1) (21 - (m + 1)) (m + 1) (rowk 1 m) := hs
    have q := rat_often (r := rowk 1 m) (j := m + 1) (x := x - ((m + 1 : Nat) : Int)) (by omega) hm (by omega)
    rw [← e] at q
    rw [if_pos (show hl 1 1 (m + 1) = true from decide_eq_true (Or.inr (Or.inr ⟨by decide, by decide⟩)))]
    show rat (rowk 1 (m + 1)) (x - ((m + 1 : Nat) : Int)) = rat (rowk 1 (m + 1 - 1)) (x - 1 - ((m + 1 - 1 : Nat) : Int)) + rat (rowk 1 (m + 1)) (x - ((m + 1 : Nat) : Int) - ((m + 1 : Nat) : Int))
    rw [mm, q, show x - 1 - (m : Int) = x - ((m + 1 : Nat) : Int) from by omega]
  · have e : rowk 2 (m + 1) = onc (m + 1) (21 - (m + 1)) (rowk 2 m) := hs
    have q := rat_once (r := rowk 2 m) (j := m + 1) (x := x) (by omega) hm hx
    rw [← e] at q
    rw [if_pos (show hl 2 1 (m + 1) = true from decide_eq_true (Or.inr (Or.inr ⟨by decide, by decide⟩)))]
    show rat (rowk 2 (m + 1)) x = rat (rowk 2 (m + 1 - 1)) x + rat (rowk 2 (m + 1 - 1)) (x - ((m + 1 : Nat) : Int))
    rw [mm]
    exact q
  · by_cases par : (m + 1) % 2 = 0
    · have e : rowk 3 (m + 1) = rowk 3 m := hs.trans (if_pos ⟨rfl, par⟩)
      rw [if_neg (show ¬ hl 3 1 (m + 1) = true from fun z => absurd (of_decide_eq_true z) (by omega)), Int32.add_zero]
      show rat (rowk 3 (m + 1)) x = rat (rowk 3 (m + 1 - 1)) x
      rw [mm, e]
    · have e : rowk 3 (m + 1) = ofn (m + 1) (21 - (m + 1)) (m + 1) (rowk 3 m) := hs.trans (if_neg (fun z => par z.2))
      have q := rat_often (r := rowk 3 m) (j := m + 1) (x := x) (by omega) hm hx
      rw [← e] at q
      rw [if_pos (show hl 3 1 (m + 1) = true from decide_eq_true (Or.inr (Or.inl (by omega))))]
      show rat (rowk 3 (m + 1)) x = rat (rowk 3 (m + 1 - 1)) x + rat (rowk 3 (m + 1)) (x - ((m + 1 : Nat) : Int))
      rw [mm]
      exact q
  · by_cases par : (m + 1) % 2 = 0
    · have e : rowk 4 (m + 1) = rowk 4 m := hs.trans (if_pos ⟨rfl, par⟩)
      rw [if_neg (show ¬ hl 4 1 (m + 1) = true from fun z => absurd (of_decide_eq_true z) (by omega)), Int32.add_zero]
      show rat (rowk 4 (m + 1)) x = rat (rowk 4 (m + 1 - 1)) x
      rw [mm, e]
    · have e : rowk 4 (m + 1) = onc (m + 1) (21 - (m + 1)) (rowk 4 m) := hs.trans (if_neg (fun z => par z.2))
      have q := rat_once (r := rowk 4 m) (j := m + 1) (x := x) (by omega) hm hx
      rw [← e] at q
      rw [if_pos (show hl 4 1 (m + 1) = true from decide_eq_true (Or.inr (Or.inl (by omega))))]
      show rat (rowk 4 (m + 1)) x = rat (rowk 4 (m + 1 - 1)) x + rat (rowk 4 (m + 1 - 1)) (x - ((m + 1 : Nat) : Int))
      rw [mm]
      exact q
  · have e : rowk 5 (m + 1) = ofn (m + 1) (21 - (m + 1)) (m + 1) (rowk 5 m) := hs
    obtain ⟨t1, -⟩ := tri (m + 1) (by omega) (by omega)
    rw [mm] at t1
    have q := rat_often (r := rowk 5 m) (j := m + 1) (x := x - (((m + 1) * (m + 1 + 1) / 2 : Nat) : Int)) (by omega) hm (by omega)
    rw [← e] at q
    rw [if_pos (show hl 5 1 (m + 1) = true from decide_eq_true (Or.inr (Or.inr ⟨by decide, by decide⟩)))]
    show rat (rowk 5 (m + 1)) (x - (((m + 1) * (m + 1 + 1) / 2 : Nat) : Int)) = rat (rowk 5 (m + 1)) (x - ((m + 1 : Nat) : Int) - (((m + 1) * (m + 1 + 1) / 2 : Nat) : Int)) + rat (rowk 5 (m + 1 - 1)) (x - ((m + 1 : Nat) : Int) - (((m + 1 - 1) * (m + 1 - 1 + 1) / 2 : Nat) : Int))
    rw [mm, q, Int32.add_comm]
    have ec : (((m + 1) * (m + 1 + 1) / 2 : Nat) : Int) = ((m + 1 : Nat) : Int) + ((m * (m + 1) / 2 : Nat) : Int) := by rw [t1]; omega
    rw [show x - ((m + 1 : Nat) : Int) - ((m * (m + 1) / 2 : Nat) : Int) = x - (((m + 1) * (m + 1 + 1) / 2 : Nat) : Int) from by rw [ec]; omega, show x - (((m + 1) * (m + 1 + 1) / 2 : Nat) : Int) - ((m + 1 : Nat) : Int) = x - ((m + 1 : Nat) : Int) - (((m + 1) * (m + 1 + 1) / 2 : Nat) : Int) from by omega]
theorem sw_VV {k : Nat} (hk : k < 6) : ∀ d (x : Int) m, x.toNat + m < d → x ≤ 20 → m ≤ 20 → sw k x m = VV (fun _ _ => -1) k x m := by
  intro d
  induction d with
  | zero => intro x m h; omega
  | succ d ih =>
    intro x m h hx hm
    rw [VV_eq hx hm]
    by_cases r : rs x m = true
    · rw [if_pos r]; exact sw_rest hk hx hm r
    · have l0 := leg_lt (k := k) (w := 0) (by omega) r
      have l1 := leg_lt (k := k) (w := 1) (by omega) r
      obtain ⟨e1, -, e2⟩ := leg_bd (k := k) (w := 0) hx hm r
      obtain ⟨e3, -, e4⟩ := leg_bd (k := k) (w := 1) hx hm r
      rw [if_neg r, if_pos rfl, sw_legs hk hx hm r, ih _ _ (show (ln k 0 x m).toNat + lm k 0 m < d by omega) e1 e2, ih _ _ (show (ln k 1 x m).toNat + lm k 1 m < d by omega) e3 e4]
theorem sworth_bd {k n m : Nat} (hk : k < 6) (hn1 : 1 ≤ n) (hn : n ≤ 20) (hm1 : 1 ≤ m) (hm : m ≤ 20) : 0 ≤ (sworth k n m).toInt ∧ (sworth k n m).toInt ≤ (tb n m : Int) := by
  rw [sw_n, sw_VV hk ((n : Int).toNat + m + 1) _ _ (by omega) (by omega) hm]
  have b := VV_bd (T := fun _ _ => -1) (k := k) (fun _ _ _ _ => Or.inl rfl) hk ((n : Int).toNat + m + 1) (n : Int) m (by omega) (by omega) hm
  unfold tbx at b
  rw [if_neg (rs_n (by omega) hm1), show ((n : Nat) : Int).toNat = n from by omega] at b
  exact b

end MG_60osworth
section MG_60pmtie
/-! ===== a memory on both sides ===== -/
def MT (sz : Int32) (f g : Nat → Int32) : Prop := sz = Int32.ofNat (cnt f) ∧ OKF f ∧ (∀ k n m, k < 6 → n ≤ 20 → m ≤ 20 → g (cd k n m) = f (sl k n m)) ∧ ∀ c, c < 6144 → (∀ k n m, k < 6 → n ≤ 20 → m ≤ 20 → ¬ c = cd k n m) → g c = -1
theorem VV_congr {T S : Nat → Nat → Int32} {k : Nat} (h : ∀ n m, n ≤ 20 → m ≤ 20 → S n m = T n m) : ∀ d (x : Int) m, x.toNat + m < d → x ≤ 20 → m ≤ 20 → VV S k x m = VV T k x m := by
  intro d
  induction d with
  | zero => intro x m h; omega
  | succ d ih =>
    intro x m hd hx hm
    rw [VV_eq (T := S) hx hm, VV_eq (T := T) hx hm]
    by_cases r : rs x m = true
    · rw [if_pos r, if_pos r]
    · obtain ⟨g1, g2⟩ := rs_f r
      have l0 := leg_lt (k := k) (w := 0) (by omega) r
      have l1 := leg_lt (k := k) (w := 1) (by omega) r
      obtain ⟨e1, -, e2⟩ := leg_bd (k := k) (w := 0) hx hm r
      obtain ⟨e3, -, e4⟩ := leg_bd (k := k) (w := 1) hx hm r
      rw [if_neg r, if_neg r, ih _ _ (show (ln k 0 x m).toNat + lm k 0 m < d by omega) e1 e2, ih _ _ (show (ln k 1 x m).toNat + lm k 1 m < d by omega) e3 e4, h _ _ (show x.toNat ≤ 20 by omega) hm]
theorem RR_congr {T S : Nat → Nat → Int32} {k p q : Nat} (h : ∀ n m, n ≤ 20 → m ≤ 20 → S n m = T n m) : ∀ d (x : Int) m, x.toNat + m < d → x ≤ 20 → m ≤ 20 → (RR S k x m p q ↔ RR T k x m p q) := by
  intro d
  induction d with
  | zero => intro x m h; omega
  | succ d ih =>
    intro x m hd hx hm
    rw [RR_eq (T := S) hx hm, RR_eq (T := T) hx hm]
    by_cases r : rs x m = true
    · exact ⟨fun z => absurd r z.1, fun z => absurd r z.1⟩
    · obtain ⟨g1, g2⟩ := rs_f r
      have l0 := leg_lt (k := k) (w := 0) (by omega) r
      have l1 := leg_lt (k := k) (w := 1) (by omega) r
      obtain ⟨e1, -, e2⟩ := leg_bd (k := k) (w := 0) hx hm r
      obtain ⟨e3, -, e4⟩ := leg_bd (k := k) (w := 1) hx hm r
      rw [ih _ _ (show (ln k 0 x m).toNat + lm k 0 m < d by omega) e1 e2, ih _ _ (show (ln k 1 x m).toNat + lm k 1 m < d by omega) e3 e4, h _ _ (show x.toNat ≤ 20 by omega) hm]
theorem MT.tabs {sz : Int32} {f g : Nat → Int32} (h : MT sz f g) {k : Nat} (hk : k < 6) : ∀ n m, n ≤ 20 → m ≤ 20 → tabm g k n m = tab f k n m := fun n m hn hm => h.2.2.1 k n m hk hn hm
theorem MT.ok {sz : Int32} {f g : Nat → Int32} (h : MT sz f g) {k : Nat} (hk : k < 6) : OKT (tabm g k) := by
  intro n m hn hm
  rw [h.tabs hk n m hn hm]
  exact h.2.1 k hk n m hn hm
theorem MT.cell {sz : Int32} {f g : Nat → Int32} (h : MT sz f g) {k n m : Nat} (hk : k < 6) (hn : n ≤ 20) (hm : m ≤ 20) : f (sl k n m) = -1 ∨ (1 ≤ n ∧ 1 ≤ m ∧ 0 ≤ (f (sl k n m)).toInt ∧ (f (sl k n m)).toInt ≤ (tb n m : Int)) := h.2.1 k hk n m hn hm
theorem MT.nn {sz : Int32} {f g : Nat → Int32} (h : MT sz f g) {k n m : Nat} (hk : k < 6) (hn : n ≤ 20) (hm : m ≤ 20) : f (sl k n m) = -1 ∨ 0 ≤ (f (sl k n m)).toInt := by
  rcases h.cell hk hn hm with e | ⟨-, -, e, -⟩
  · exact Or.inl e
  · exact Or.inr e
theorem cntn_congr {f g : Nat → Int32} : ∀ n, (∀ s, s < n → g s = f s) → cntn g n = cntn f n := by
  intro n
  induction n with
  | zero => intro _; rfl
  | succ n ih =>
    intro h
    show cntn g n + (if g n = -1 then 0 else 1) = cntn f n + (if f n = -1 then 0 else 1)
    rw [ih (fun s hs => h s (by omega)), h n (by omega)]
/-- counts alike on both sides (of one of them at a time, beside each other) -/
theorem CK.eq {f a b : Nat → Int32} {r : Nat} {c1 c1' c2 c2' c3 c3' t1 t1' t2 t2' t3 t3' : Int32} (h : CK f a r c1 c1' c2 c2' c3 c3') (g : CK f b r t1 t1' t2 t2' t3 t3') (hp : phi a = phi b) (hc : cnt a = cnt b) : ∃ w d e : Int32, c1' = c1 + w ∧ t1' = t1 + w ∧ c2' = c2 + d ∧ t2' = t2 + d ∧ c3' = c3 + e ∧ t3' = t3 + e := by
  obtain ⟨w, d, h0, h1, h2, h3, h4, h5⟩ := h
  obtain ⟨w', d', g0, g1, g2, g3, g4, g5⟩ := g
  obtain rfl : w' = w := by omega
  obtain rfl : d' = d := by omega
  exact ⟨_, _, _, h3, g3, h4, g4, h5, g5⟩
/-- the tallies behind, as the counts behind -/
def TT (c1 c2 c3 c1' c2' c3' : Int32) (t t' : Nat → Int32) : Prop := (∃ w d e : Int32, c1' = c1 + w ∧ t' 1 = t 1 + w ∧ c2' = c2 + d ∧ t' 2 = t 2 + d ∧ c3' = c3 + e ∧ t' 3 = t 3 + e) ∧ ∀ i, ¬ i = 1 → ¬ i = 2 → ¬ i = 3 → t' i = t i
theorem TT.trans {c1 c2 c3 d1 d2 d3 e1 e2 e3 : Int32} {t t' t'' : Nat → Int32} (h : TT c1 c2 c3 d1 d2 d3 t t') (g : TT d1 d2 d3 e1 e2 e3 t' t'') : TT c1 c2 c3 e1 e2 e3 t t'' := by
  obtain ⟨⟨w, d, e, h1, h2, h3, h4, h5, h6⟩, h7⟩ := h
  obtain ⟨⟨w', d', e', g1, g2, g3, g4, g5, g6⟩, g7⟩ := g
  refine ⟨⟨w + w', d + d', e + e', ?_, ?_, ?_, ?_, ?_, ?_⟩, fun i a b c => (g7 i a b c).trans (h7 i a b c)⟩
  · rw [g1, h1, Int32.add_assoc]
  · rw [g2, h2, Int32.add_assoc]
  · rw [g3, h3, Int32.add_assoc]
  · rw [g4, h4, Int32.add_assoc]
  · rw [g5, h5, Int32.add_assoc]
  · rw [g6, h6, Int32.add_assoc]
theorem TT.r {c1 c2 c3 : Int32} {t : Nat → Int32} : TT c1 c2 c3 c1 c2 c3 t t := ⟨⟨0, 0, 0, (Int32.add_zero _).symm, (Int32.add_zero _).symm, (Int32.add_zero _).symm, (Int32.add_zero _).symm, (Int32.add_zero _).symm, (Int32.add_zero _).symm⟩, fun _ _ _ _ => rfl⟩
/-- a case known on both sides -/
theorem mt_know {N K k n m : Nat} {th p0 : Int32} {sz c0 c1 c2 c3 c4 c5 : Int32} {f g t u : Nat → Int32} (hN : NBig N) (hK : 100 ≤ K) (hk : k < 6) (hn : n ≤ 20) (hm : m ≤ 20) (hp0 : Rg p0 0 2) (h : MT sz f g) : ∃ v sz' f' c1' c2' c3' g' t' u', fX2_recall N K sz f c0 c1 c2 c3 c4 c5 (Int32.ofNat k) (Int32.ofNat n) (Int32.ofNat m) = some (v, sz', f', c1', c2', c3') ∧ fX7_known N K th g t u p0 (Int32.ofNat k) (Int32.ofNat n) (Int32.ofNat m) = some (v, g', t', u') ∧ MT sz' f' g' ∧ TT c1 c2 c3 c1' c2' c3' t t' := by
  have hN9 := hN.u
  obtain ⟨h1, h2, h3, h4⟩ := id h
  obtain ⟨sz', f', c1', c2', c3', a1, a2, a3, a4, a6, a5⟩ := c_recall (N := N) (c0 := c0) (c1 := c1) (c2 := c2) (c3 := c3) (c4 := c4) (c5 := c5) hk hn hm hK h2 h1
  have cg := h.tabs hk
  obtain ⟨g', t', u', v, b1, b2, b3, b4, b5, b6, b7⟩ := m_known (N := N) (K := K) (th := th) (t := t) (u := u) hk hp0 (by omega) hn hm (h.ok hk) cg
  rw [VV_congr cg ((n : Int).toNat + m + 1) (n : Int) m (by omega) (by omega) hm] at b1
  have same : ∀ p q, p ≤ 20 → q ≤ 20 → tabm g' k p q = tab f' k p q := by
    intro p q hp hq
    by_cases r : RR (tab f k) k (n : Int) m p q
    · rw [(a3 p q hp hq).1 r, (b2 p q hp hq).1 ((RR_congr cg ((n : Int).toNat + m + 1) (n : Int) m (by omega) (by omega) hm).mpr r)]
      exact VV_congr cg ((p : Int).toNat + q + 1) (p : Int) q (by omega) (by omega) hq
    · rw [(a3 p q hp hq).2 r, (b2 p q hp hq).2 (fun y => r ((RR_congr cg ((n : Int).toNat + m + 1) (n : Int) m (by omega) (by omega) hm).mp y))]
      exact cg p q hp hq
  have hvf : ∀ s, s < 2646 → v s = f' s := by
    intro s hs
    obtain ⟨j, p, q, hj, hp, hq, rfl⟩ : ∃ k n m, k < 6 ∧ n ≤ 20 ∧ m ≤ 20 ∧ s = sl k n m := ⟨s / 441, s / 21 % 21, s % 21, by omega, by omega, by omega, by unfold sl; omega⟩
    by_cases e : j = k
    · subst e
      exact (b4 p q hp hq).symm.trans (same p q hp hq)
    · rw [b5 _ (fun a b ha hb y => e (sl_inj hp hq ha hb y).1)]
      exact (a5 j e p q hp hq).symm
  obtain ck := CK.eq a6 b6 (phn_congr 2646 (fun s hs => (hvf s hs).symm)) (cntn_congr 2646 (fun s hs => (hvf s hs).symm))
  refine ⟨_, sz', f', c1', c2', c3', g', t', u', a1, b1, ⟨a2, a4, fun j p q hj hp hq => ?_, fun c hc z => ?_⟩, ck, b7⟩
  · by_cases e : j = k
    · subst e
      exact same p q hp hq
    · rw [b3 (cd j p q) (fun a b ha hb y => e (cd_inj hp hq ha hb y).1), h3 j p q hj hp hq]
      exact (a5 j e p q hp hq).symm
  · rw [b3 c (fun a b ha hb => z k a b hk ha hb)]
    exact h4 c hc z
/-! ===== one case ===== -/
theorem MT.put {sz sz' v : Int32} {f g : Nat → Int32} {k n m : Nat} (h : MT sz f g) (hk : k < 6) (hn : n ≤ 20) (hm : m ≤ 20) (hv : v = -1 ∨ (1 ≤ n ∧ 1 ≤ m ∧ 0 ≤ v.toInt ∧ v.toInt ≤ (tb n m : Int))) (hs : sz' = Int32.ofNat (cnt (upd f (sl k n m) v))) : MT sz' (upd f (sl k n m) v) (upd g (cd k n m) v) := by
  obtain ⟨h1, h2, h3, h4⟩ := h
  refine ⟨hs, fun j hj p q hp hq => ?_, fun j p q hj hp hq => ?_, fun c hc z => ?_⟩
  · by_cases e : j = k
    · subst e
      rw [tab_at hn hm hp hq]
      by_cases c : n = p ∧ m = q
      · rw [if_pos c]
        obtain ⟨rfl, rfl⟩ := c
        exact hv
      · rw [if_neg c]
        exact h2 j hj p q hp hq
    · rw [tab_ne e hn hm hp hq]
      exact h2 j hj p q hp hq
  · unfold upd
    by_cases e : j = k ∧ p = n ∧ q = m
    · obtain ⟨rfl, rfl, rfl⟩ := e
      rw [if_pos rfl, if_pos rfl]
    · rw [if_neg (fun y => e (cd_inj hp hq hn hm y)), if_neg (fun y => e (sl_inj hp hq hn hm y))]
      exact h3 j p q hj hp hq
  · unfold upd
    rw [if_neg (z k n m hk hn hm)]
    exact h4 c hc z
theorem c_kw {N K k n m : Nat} {sz : Int32} {f : Nat → Int32} (hk : k < 6) (hn : n ≤ 20) (hm : m ≤ 20) : fX2_keptWorth N K sz f (Int32.ofNat k) (Int32.ofNat n) (Int32.ofNat m) = some (f (sl k n m)) := by
  have hsl := sl_lt hk hn hm
  unfold fX2_keptWorth
  rw [c_slot hk hn hm, Option.bind_some, if_neg (o_m1ne (by omega)), if_neg (o_ob hsl (by omega)), o_c (by omega)]
theorem c_keeps {N K k n m : Nat} {sz : Int32} {f : Nat → Int32} (hk : k < 6) (hn : n ≤ 20) (hm : m ≤ 20) : fX2_keeps N K sz f (Int32.ofNat k) (Int32.ofNat n) (Int32.ofNat m) = some (if f (sl k n m) = -1 then 0 else 1) := by
  unfold fX2_keeps
  rw [c_kw hk hn hm, Option.bind_some]
  by_cases e : f (sl k n m) = -1
  · rw [if_pos e, if_pos e]
  · rw [if_neg e, if_neg e]
theorem c_keepsW {N K k n m : Nat} {sz v : Int32} {f : Nat → Int32} (hk : k < 6) (hn : n ≤ 20) (hm : m ≤ 20) : fX2_keepsWith N K sz f (Int32.ofNat k) (Int32.ofNat n) (Int32.ofNat m) v = some (if ¬ f (sl k n m) = -1 ∧ f (sl k n m) = v then 1 else 0) := by
  unfold fX2_keepsWith
  rw [c_keeps hk hn hm, Option.bind_some]
  by_cases e : f (sl k n m) = -1
  · rw [if_pos e, if_pos rfl, if_neg (fun z => z.1 e)]
  · rw [if_neg e, if_neg (by decide), c_kw hk hn hm, Option.bind_some]
    by_cases e2 : f (sl k n m) = v
    · rw [if_pos e2, if_pos ⟨e, e2⟩]
    · rw [if_neg e2, if_neg (fun z => e2 z.2)]
theorem c_keepsW1 {N K k n m : Nat} {sz v : Int32} {f : Nat → Int32} (hk : k < 6) (hn : n ≤ 20) (hm : m ≤ 20) (h : ¬ f (sl k n m) = -1 ∧ f (sl k n m) = v) : fX2_keepsWith N K sz f (Int32.ofNat k) (Int32.ofNat n) (Int32.ofNat m) v = some 1 := by rw [c_keepsW hk hn hm, if_pos h]
theorem c_keepsW0 {N K k n m : Nat} {sz v : Int32} {f : Nat → Int32} (hk : k < 6) (hn : n ≤ 20) (hm : m ≤ 20) (h : ¬ (¬ f (sl k n m) = -1 ∧ f (sl k n m) = v)) : fX2_keepsWith N K sz f (Int32.ofNat k) (Int32.ofNat n) (Int32.ofNat m) v = some 0 := by rw [c_keepsW hk hn hm, if_neg h]
theorem m_kept {N K k n m : Nat} {th p0 : Int32} {g : Nat → Int32} (hk : k < 6) (hn : n ≤ 20) (hm : m ≤ 20) (hp0 : Rg p0 0 2) : fX7_kept N K th g p0 (Int32.ofNat k) (Int32.ofNat n) (Int32.ofNat m) = some (g (cd k n m)) := by
  have hc := cd_lt hk hn hm
  unfold fX7_kept
  rw [if_neg hp0.mm, m_code, Option.bind_some, if_neg (o_ob hc (by omega)), o_c (by omega)]
theorem lt0 {v : Int32} : (v < 0) = (v.toInt < 0) := by
  have q0 : (0 : Int32).toInt = 0 := by decide
  rw [Int32.lt_iff_toInt_lt, q0]
theorem ge0 {v : Int32} : ((0 : Int32) ≤ v) = (0 ≤ v.toInt) := by
  have q0 : (0 : Int32).toInt = 0 := by decide
  rw [Int32.le_iff_toInt_le, q0]
theorem m1_t : (-1 : Int32).toInt = -1 := by decide
theorem m1_n {v : Int32} (h : 0 ≤ v.toInt) : ¬ v = -1 := by
  intro z
  rw [z, m1_t] at h
  omega
theorem cnt_put {f : Nat → Int32} {i : Nat} {v : Int32} (hi : i < 2646) (h : f i = -1) (hv : ¬ v = -1) : cnt (upd f i v) = cnt f + 1 := by
  have := cnt_upd (f := f) (v := v) hi
  rw [if_pos h, if_neg hv] at this
  omega
theorem cnt_again {f : Nat → Int32} {i : Nat} {v : Int32} (hi : i < 2646) (h : ¬ f i = -1) (hv : ¬ v = -1) : cnt (upd f i v) = cnt f := by
  have := cnt_upd (f := f) (v := v) hi
  rw [if_neg h, if_neg hv] at this
  omega
theorem cnt_off {f : Nat → Int32} {i : Nat} (hi : i < 2646) (h : ¬ f i = -1) : cnt f = cnt (upd f i (-1)) + 1 := by
  have := cnt_upd (f := f) (v := -1) hi
  rw [if_neg h, if_pos rfl] at this
  omega
theorem c_keep {N K k n m : Nat} {sz v : Int32} {f : Nat → Int32} (hk : k < 6) (hn : n ≤ 20) (hm : m ≤ 20) : fX2_keep N K sz f (Int32.ofNat k) (Int32.ofNat n) (Int32.ofNat m) v = some (if f (sl k n m) = -1 then sz + 1 else sz, upd f (sl k n m) v) := by
  have hsl := sl_lt hk hn hm
  unfold fX2_keep
  rw [c_slot hk hn hm, Option.bind_some, if_neg (o_m1ne (by omega)), if_neg (o_ob hsl (by omega)), o_c (by omega)]
  by_cases e : f (sl k n m) = -1
  · rw [if_pos e, if_pos e, if_neg (o_ob2 hsl (by omega))]
  · rw [if_neg e, if_neg e, if_neg (o_ob2 hsl (by omega))]
theorem c_drop {N K k n m : Nat} {sz : Int32} {f : Nat → Int32} (hk : k < 6) (hn : n ≤ 20) (hm : m ≤ 20) (e : ¬ f (sl k n m) = -1) : fX2_drop N K sz f (Int32.ofNat k) (Int32.ofNat n) (Int32.ofNat m) = some (sz - 1, upd f (sl k n m) (-1)) := by
  have hsl := sl_lt hk hn hm
  unfold fX2_drop
  rw [c_slot hk hn hm, Option.bind_some, if_neg (o_m1ne (by omega)), if_neg (o_ob hsl (by omega)), o_c (by omega), if_neg e, if_neg (o_ob2 hsl (by omega))]
/-! ===== scans ===== -/
def ss (h : Nat → Int32) : Nat → Int32
  | 0 => 0
  | n + 1 => ss h n + h n
theorem ss_row {hc hm : Nat → Int32} (e : ∀ k n m, k < 6 → n ≤ 20 → m ≤ 20 → hm (cd k n m) = hc (sl k n m)) {k n : Nat} (hk : k < 6) (hn : n ≤ 20) (h0 : ss hm (1024 * k + 32 * n) = ss hc ((k * 21 + n) * 21)) : ∀ m, m ≤ 21 → ss hm (1024 * k + 32 * n + m) = ss hc ((k * 21 + n) * 21 + m) := by
  intro m
  induction m with
  | zero => intro _; exact h0
  | succ m ih =>
    intro h
    show ss hm (1024 * k + 32 * n + m) + hm (1024 * k + 32 * n + m) = ss hc ((k * 21 + n) * 21 + m) + hc ((k * 21 + n) * 21 + m)
    rw [ih (by omega)]
    exact congrArg _ (e k n m hk hn (by omega))
theorem ss_gap {hm : Nat → Int32} (z : ∀ c, c < 6144 → (∀ k n m, k < 6 → n ≤ 20 → m ≤ 20 → ¬ c = cd k n m) → hm c = 0) {a : Nat} : ∀ j, a + j ≤ 6144 → (∀ i, i < j → ∀ k n m, k < 6 → n ≤ 20 → m ≤ 20 → ¬ a + i = cd k n m) → ss hm (a + j) = ss hm a := by
  intro j
  induction j with
  | zero => intro _ _; rfl
  | succ j ih =>
    intro h h2
    show ss hm (a + j) + hm (a + j) = ss hm a
    rw [ih (by omega) (fun i hi => h2 i (by omega)), z (a + j) (by omega) (h2 j (by omega)), Int32.add_zero]
theorem ss_rows {hc hm : Nat → Int32} (e : ∀ k n m, k < 6 → n ≤ 20 → m ≤ 20 → hm (cd k n m) = hc (sl k n m)) (z : ∀ c, c < 6144 → (∀ k n m, k < 6 → n ≤ 20 → m ≤ 20 → ¬ c = cd k n m) → hm c = 0) {k : Nat} (hk : k < 6) (h0 : ss hm (1024 * k) = ss hc (k * 441)) : ∀ n, n ≤ 21 → ss hm (1024 * k + 32 * n) = ss hc ((k * 21 + n) * 21) := by
  intro n
  induction n with
  | zero =>
    intro _
    rw [show 1024 * k + 32 * 0 = 1024 * k from by omega, show (k * 21 + 0) * 21 = k * 441 from by omega]
    exact h0
  | succ n ih =>
    intro h
    have a := ss_row e hk (show n ≤ 20 by omega) (ih (by omega)) 21 (by omega)
    have b := ss_gap z (a := 1024 * k + 32 * n + 21) 11 (by omega) (fun i hi k' n' m' hk' hn' hm' y => by unfold cd at y; omega)
    rw [show 1024 * k + 32 * (n + 1) = 1024 * k + 32 * n + 21 + 11 from by omega, b, a, show (k * 21 + n) * 21 + 21 = (k * 21 + (n + 1)) * 21 from by omega]
theorem ss_all {hc hm : Nat → Int32} (e : ∀ k n m, k < 6 → n ≤ 20 → m ≤ 20 → hm (cd k n m) = hc (sl k n m)) (z : ∀ c, c < 6144 → (∀ k n m, k < 6 → n ≤ 20 → m ≤ 20 → ¬ c = cd k n m) → hm c = 0) : ∀ k, k ≤ 6 → ss hm (1024 * k) = ss hc (k * 441) := by
  intro k
  induction k with
  | zero => intro _; rfl
  | succ k ih =>
    intro h
    have a := ss_rows e z (show k < 6 by omega) (ih (by omega)) 21 (by omega)
    have b := ss_gap z (a := 1024 * k + 32 * 21) 352 (by omega) (fun i hi k' n' m' hk' hn' hm' y => by unfold cd at y; omega)
    rw [show 1024 * (k + 1) = 1024 * k + 32 * 21 + 352 from by omega, b, a, show (k * 21 + 21) * 21 = (k + 1) * 441 from by omega]
theorem bridge {hc hm : Nat → Int32} (e : ∀ k n m, k < 6 → n ≤ 20 → m ≤ 20 → hm (cd k n m) = hc (sl k n m)) (z : ∀ c, c < 6144 → (∀ k n m, k < 6 → n ≤ 20 → m ≤ 20 → ¬ c = cd k n m) → hm c = 0) : ss hm 6144 = ss hc 2646 := ss_all e z 6 (Nat.le_refl _)
/-- a slot is a case's -/
theorem sl_of {s : Nat} (h : s < 2646) : ∃ k n m, k < 6 ∧ n ≤ 20 ∧ m ≤ 20 ∧ s = sl k n m := ⟨s / 441, s / 21 % 21, s % 21, by omega, by omega, by omega, by unfold sl; omega⟩
theorem sl_k {k n m : Nat} (hn : n ≤ 20) (hm : m ≤ 20) : sl k n m / 441 = k := by unfold sl; omega
theorem sl_n {k n m : Nat} (hn : n ≤ 20) (hm : m ≤ 20) : sl k n m / 21 % 21 = n := by unfold sl; omega
theorem sl_m {k n m : Nat} (hn : n ≤ 20) (hm : m ≤ 20) : sl k n m % 21 = m := by unfold sl; omega
theorem cd_k {k n m : Nat} (hn : n ≤ 20) (hm : m ≤ 20) : cd k n m / 1024 = k := by unfold cd; omega
theorem cd_n {k n m : Nat} (hn : n ≤ 20) (hm : m ≤ 20) : cd k n m / 32 % 32 = n := by unfold cd; omega
theorem cd_m {k n m : Nat} (hn : n ≤ 20) (hm : m ≤ 20) : cd k n m % 32 = m := by unfold cd; omega
/-- one thing of a case -/
def asp (w : Int32) (f : Nat → Int32) (s : Nat) : Int32 := if w = 0 then Int32.ofNat (s / 441) else if w = 1 then Int32.ofNat (s / 21 % 21) else if w = 2 then Int32.ofNat (s % 21) else f s
def apm (w : Int32) (g : Nat → Int32) (c : Nat) : Int32 := if w = 0 then Int32.ofNat (c / 1024) else if w = 1 then Int32.ofNat (c / 32 % 32) else if w = 2 then Int32.ofNat (c % 32) else g c
theorem c_asp {N K s : Nat} {sz w : Int32} {f : Nat → Int32} (h : s < 2646) : fX2_aspect N K sz f (Int32.ofNat s) w = some (asp w f s) := by
  unfold fX2_aspect asp fX2_kindOf fX2_numberOf fX2_measureOf
  rw [show (441 : Int32) = Int32.ofNat 441 from rfl, show (21 : Int32) = Int32.ofNat 21 from rfl, o_div (by omega) (by omega), o_div (by omega) (by omega), o_mod (by omega) (by omega), o_mod (by omega) (by omega)]
  by_cases e0 : w = 0
  · rw [if_pos e0, if_pos e0]; rfl
  · rw [if_neg e0, if_neg e0]
    by_cases e1 : w = 1
    · rw [if_pos e1, if_pos e1]; rfl
    · rw [if_neg e1, if_neg e1]
      by_cases e2 : w = 2
      · rw [if_pos e2, if_pos e2]; rfl
      · rw [if_neg e2, if_neg e2, if_neg (by rw [lt0, o_i (by omega)]; omega), if_pos (by rw [show (2646 : Int32) = Int32.ofNat 2646 from rfl, o_lt (by omega) (by omega)]; exact h), if_neg (o_ob h (by omega)), o_c (by omega)]
/-- a case that is kept, and of which one thing is so -/
def so (w v : Int32) (f : Nat → Int32) (s : Nat) : Bool := decide (¬ f s = -1 ∧ asp w f s = v)
def som (w v : Int32) (g : Nat → Int32) (c : Nat) : Bool := decide (0 ≤ (g c).toInt ∧ apm w g c = v)
theorem so_eq {sz w v : Int32} {f g : Nat → Int32} (h : MT sz f g) {k n m : Nat} (hk : k < 6) (hn : n ≤ 20) (hm : m ≤ 20) : som w v g (cd k n m) = so w v f (sl k n m) := by
  have ha : apm w g (cd k n m) = asp w f (sl k n m) := by
    unfold apm asp
    rw [sl_k hn hm, sl_n hn hm, sl_m hn hm, cd_k hn hm, cd_n hn hm, cd_m hn hm, h.2.2.1 k n m hk hn hm]
  unfold so som
  rw [ha, h.2.2.1 k n m hk hn hm]
  rcases h.nn hk hn hm with e | e
  · rw [decide_eq_false (fun z => by rw [e, m1_t] at z; exact absurd z.1 (by decide)), decide_eq_false (fun z => z.1 e)]
  · have e2 := m1_n e
    by_cases c : asp w f (sl k n m) = v
    · rw [decide_eq_true ⟨e, c⟩, decide_eq_true ⟨e2, c⟩]
    · rw [decide_eq_false (fun z => c z.2), decide_eq_false (fun z => c z.2)]
theorem so_gap {sz w v : Int32} {f g : Nat → Int32} (h : MT sz f g) {c : Nat} (hc : c < 6144) (z : ∀ k n m, k < 6 → n ≤ 20 → m ≤ 20 → ¬ c = cd k n m) : som w v g c = false := by
  unfold som
  rw [h.2.2.2 c hc z]
  exact decide_eq_false (fun y => by rw [m1_t] at y; exact absurd y.1 (by decide))
theorem bi_tt {b : Bool} (h : b = true) : bi b = 1 := by rw [h]; rfl
theorem bi_ff {b : Bool} (h : b = false) : bi b = 0 := by rw [h]; rfl
theorem so_f {w v : Int32} {f : Nat → Int32} {s : Nat} (h : f s = -1) : so w v f s = false := decide_eq_false (fun z => z.1 h)
theorem c_many_ {N K : Nat} {sz w v : Int32} {f : Nat → Int32} : ∀ k i fu, i + k = 2646 → k < fu → fX2_howMany_5 N K sz f w v fu (ss (fun s => bi (so w v f s)) i) (Int32.ofNat i) = some (ss (fun s => bi (so w v f s)) 2646) := by
  intro k
  induction k with
  | zero =>
    intro i fu hi hfu
    obtain ⟨fu, rfl⟩ : ∃ m, fu = m + 1 := ⟨fu - 1, by omega⟩
    obtain rfl : i = 2646 := by omega
    unfold fX2_howMany_5
    rw [if_pos (by decide)]
  | succ k ih =>
    intro i fu hi hfu
    obtain ⟨fu, rfl⟩ : ∃ m, fu = m + 1 := ⟨fu - 1, by omega⟩
    have e := ih (i + 1) fu (by omega) (by omega)
    have es : ss (fun s => bi (so w v f s)) (i + 1) = ss (fun s => bi (so w v f s)) i + bi (so w v f i) := rfl
    rw [es] at e
    unfold fX2_howMany_5
    rw [if_neg (by rw [show (2646 : Int32) = Int32.ofNat 2646 from rfl, o_le (by omega) (by omega)]; omega), if_neg (o_ob (by omega) (by omega)), o_c (by omega)]
    unfold fX2_howMany_38
    rw [o_1]
    by_cases c : f i = -1
    · rw [if_pos c]
      rw [so_f c, show bi false = (0 : Int32) from rfl, Int32.add_zero] at e
      exact e
    · rw [if_neg c, c_asp (by omega), Option.bind_some]
      by_cases d : asp w f i = v
      · rw [if_pos d]
        rw [show so w v f i = true from decide_eq_true ⟨c, d⟩] at e
        exact e
      · rw [if_neg d]
        rw [show so w v f i = false from decide_eq_false (fun z => d z.2), show bi false = (0 : Int32) from rfl, Int32.add_zero] at e
        exact e
theorem c_many {N K : Nat} (hN : NBig N) {sz w v : Int32} {f : Nat → Int32} : fX2_howMany N K sz f w v = some (ss (fun s => bi (so w v f s)) 2646) := by
  have hN9 := hN.u
  exact c_many_ 2646 0 N rfl (by omega)
theorem m_so {N K c : Nat} {th p0 w v : Int32} {g : Nat → Int32} (hc : c < 6144) (hp0 : Rg p0 0 2) : fX7_isSo N K th g p0 (Int32.ofNat c) w v = some (bi (som w v g c)) := by
  have z56 : ∀ x : Int32, fX7_isSo_56 N K th g p0 (Int32.ofNat c) w v x v = some (if x = v then 1 else 0) := by
    intro x
    unfold fX7_isSo_56
    by_cases e : x = v
    · rw [if_pos e, if_pos e.symm]
    · rw [if_neg e, if_neg (fun z => e z.symm)]
  have fin : 0 ≤ (g c).toInt → (if apm w g c = v then (1 : Int32) else 0) = bi (som w v g c) := by
    intro h
    by_cases e : apm w g c = v
    · rw [if_pos e, show som w v g c = true from decide_eq_true ⟨h, e⟩]; rfl
    · rw [if_neg e, show som w v g c = false from decide_eq_false (fun z => e z.2)]; rfl
  unfold fX7_isSo
  rw [if_neg hp0.mm, if_neg (o_ob hc (by omega)), o_c (by omega)]
  by_cases h : 0 ≤ (g c).toInt
  · rw [if_pos (by rw [ge0]; exact h)]
    have f0 := fin h
    unfold apm at f0
    unfold fX7_kindOf fX7_numberOf fX7_measureOf
    rw [show (1024 : Int32) = Int32.ofNat 1024 from rfl, show (32 : Int32) = Int32.ofNat 32 from rfl, o_div (by omega) (by omega), o_div (by omega) (by omega), o_mod (by omega) (by omega), o_mod (by omega) (by omega), Option.bind_some, Option.bind_some, Option.bind_some, z56, z56, z56, z56, ← f0]
    by_cases e0 : w = 0
    · rw [if_pos e0, if_pos e0]
    · rw [if_neg e0, if_neg e0]
      by_cases e1 : w = 1
      · rw [if_pos e1, if_pos e1]
      · rw [if_neg e1, if_neg e1]
        by_cases e2 : w = 2
        · rw [if_pos e2, if_pos e2]
        · rw [if_neg e2, if_neg e2]
  · rw [if_neg (by rw [ge0]; exact h), show som w v g c = false from decide_eq_false (fun z => h z.1)]
    rfl
theorem m_cnt_ {N K : Nat} {th p0 w v : Int32} {g : Nat → Int32} (hp0 : Rg p0 0 2) : ∀ k i fu, i + k = 6144 → k < fu → fX7_counted_6 N K th g p0 w v fu (ss (fun s => bi (som w v g s)) i) (Int32.ofNat i) = some (ss (fun s => bi (som w v g s)) 6144) := by
  intro k
  induction k with
  | zero =>
    intro i fu hi hfu
    obtain ⟨fu, rfl⟩ : ∃ m, fu = m + 1 := ⟨fu - 1, by omega⟩
    obtain rfl : i = 6144 := by omega
    unfold fX7_counted_6
    rw [if_pos (by decide)]
  | succ k ih =>
    intro i fu hi hfu
    obtain ⟨fu, rfl⟩ : ∃ m, fu = m + 1 := ⟨fu - 1, by omega⟩
    unfold fX7_counted_6
    rw [if_neg (by rw [show (6144 : Int32) = Int32.ofNat 6144 from rfl, o_le (by omega) (by omega)]; omega), m_so (by omega) hp0, Option.bind_some, m_bit, Option.bind_some, o_1]
    exact ih (i + 1) fu (by omega) (by omega)
theorem m_cnt {N K : Nat} (hN : NBig N) {sz th p0 w v : Int32} {f g : Nat → Int32} (hp0 : Rg p0 0 2) (h : MT sz f g) : fX7_counted N K th g p0 w v = some (ss (fun s => bi (so w v f s)) 2646) := by
  have hN9 := hN.u
  have e := m_cnt_ (N := N) (K := K) (th := th) (w := w) (v := v) (g := g) hp0 6144 0 N rfl (by omega)
  rw [bridge (hc := fun s => bi (so w v f s)) (fun k n m hk hn hm => congrArg bi (so_eq h hk hn hm)) (fun c hc z => congrArg bi (so_gap h hc z))] at e
  exact e
/-! ===== counts ===== -/
def nb (b : Nat → Bool) : Nat → Nat
  | 0 => 0
  | n + 1 => nb b n + (if b n = true then 1 else 0)
theorem nb_le {b : Nat → Bool} : ∀ n, nb b n ≤ n := by
  intro n
  induction n with
  | zero => exact Nat.le_refl _
  | succ n ih =>
    show nb b n + (if b n = true then 1 else 0) ≤ n + 1
    by_cases e : b n = true
    · rw [if_pos e]; omega
    · rw [if_neg e]; omega
theorem ss_nb {b : Nat → Bool} : ∀ n, ss (fun s => bi (b s)) n = Int32.ofNat (nb b n) := by
  intro n
  induction n with
  | zero => rfl
  | succ n ih =>
    show ss (fun s => bi (b s)) n + bi (b n) = Int32.ofNat (nb b n + (if b n = true then 1 else 0))
    rw [ih]
    by_cases e : b n = true
    · rw [if_pos e, bi_tt e, o_1]
    · rw [if_neg e, bi_ff (Bool.eq_false_iff.mpr e), Int32.add_zero, Nat.add_zero]
def kpt (f : Nat → Int32) (s : Nat) : Bool := decide (¬ f s = -1)
theorem cntn_nb {f : Nat → Int32} : ∀ n, cntn f n = nb (kpt f) n := by
  intro n
  induction n with
  | zero => rfl
  | succ n ih =>
    show cntn f n + (if f n = -1 then 0 else 1) = nb (kpt f) n + (if kpt f n = true then 1 else 0)
    rw [ih]
    by_cases e : f n = -1
    · rw [if_pos e, if_neg (show ¬ kpt f n = true from fun z => (of_decide_eq_true (show decide (¬ f n = -1) = true from z)) e)]
    · rw [if_neg e, if_pos (show kpt f n = true from decide_eq_true e)]
/-- what is told of a code -/
def tl2 (w : Int32) (g : Nat → Int32) (c : Nat) : Int32 := if (g c).toInt < 0 then 0 else if w = 1 then Int32.ofNat c ^^^ g c else if w = 2 then g c else 1
theorem m_t2_ {N K : Nat} {th p0 w : Int32} {g : Nat → Int32} (hp0 : Rg p0 0 2) : ∀ k i fu, i + k = 6144 → k < fu → fX7_told2_5 N K th g p0 w fu (ss (tl2 w g) i) (Int32.ofNat i) = some (if w = 3 then (if ss (tl2 w g) 6144 = 0 then 1 else 0) else ss (tl2 w g) 6144) := by
  intro k
  induction k with
  | zero =>
    intro i fu hi hfu
    obtain ⟨fu, rfl⟩ : ∃ m, fu = m + 1 := ⟨fu - 1, by omega⟩
    obtain rfl : i = 6144 := by omega
    unfold fX7_told2_5
    rw [if_pos (by decide)]
    by_cases e : w = 3
    · rw [if_pos e, if_pos e]
      by_cases e2 : ss (tl2 w g) 6144 = 0
      · rw [if_pos e2, if_pos e2]
        unfold fX7_told2_76
        rw [m_b1, Option.bind_some]
      · rw [if_neg e2, if_neg e2]
        unfold fX7_told2_76
        rw [m_b0, Option.bind_some]
    · rw [if_neg e, if_neg e]
  | succ k ih =>
    intro i fu hi hfu
    obtain ⟨fu, rfl⟩ : ∃ m, fu = m + 1 := ⟨fu - 1, by omega⟩
    have e := ih (i + 1) fu (by omega) (by omega)
    have es : ss (tl2 w g) (i + 1) = ss (tl2 w g) i + tl2 w g i := rfl
    rw [es] at e
    unfold fX7_told2_5
    rw [if_neg (by rw [show (6144 : Int32) = Int32.ofNat 6144 from rfl, o_le (by omega) (by omega)]; omega), if_neg hp0.mm, if_neg (o_ob (by omega) (by omega)), o_c (by omega)]
    unfold fX7_told2_54 fX7_told2_56
    rw [o_1]
    by_cases c : (g i).toInt < 0
    · rw [if_pos (by rw [lt0]; exact c)]
      rw [show tl2 w g i = 0 from if_pos c, Int32.add_zero] at e
      exact e
    · rw [if_neg (by rw [lt0]; exact c)]
      by_cases w1 : w = 1
      · rw [if_pos w1]
        rw [show tl2 w g i = Int32.ofNat i ^^^ g i from (if_neg c).trans (if_pos w1)] at e
        exact e
      · rw [if_neg w1]
        by_cases w2 : w = 2
        · rw [if_pos w2]
          rw [show tl2 w g i = g i from (if_neg c).trans ((if_neg w1).trans (if_pos w2))] at e
          exact e
        · rw [if_neg w2]
          rw [show tl2 w g i = 1 from (if_neg c).trans ((if_neg w1).trans (if_neg w2))] at e
          exact e
/-- what is told of a slot -/
def tlc (w : Int32) (f : Nat → Int32) (s : Nat) : Int32 := if f s = -1 then 0 else if w = 1 then Int32.ofNat (cd (s / 441) (s / 21 % 21) (s % 21)) ^^^ f s else if w = 2 then f s else 1
theorem m_t2 {N K : Nat} (hN : NBig N) {sz th p0 w : Int32} {f g : Nat → Int32} (hp0 : Rg p0 0 2) (h : MT sz f g) : fX7_told2 N K th g p0 w = some (if w = 3 then (if ss (tlc w f) 2646 = 0 then 1 else 0) else ss (tlc w f) 2646) := by
  have hN9 := hN.u
  have e := m_t2_ (N := N) (K := K) (th := th) (w := w) (g := g) hp0 6144 0 N rfl (by omega)
  rw [bridge (hc := tlc w f) (fun k n m hk hn hm => ?_) (fun c hc z => ?_)] at e
  · exact e
  · unfold tl2 tlc
    rw [sl_k hn hm, sl_n hn hm, sl_m hn hm, h.2.2.1 k n m hk hn hm]
    rcases h.nn hk hn hm with e | e
    · rw [if_pos e, if_pos (by rw [e]; decide)]
    · rw [if_neg (m1_n e), if_neg (by omega)]
  · unfold tl2
    rw [h.2.2.2 c hc z]
    exact if_pos (by decide)
theorem tlc_cnt {w : Int32} {f : Nat → Int32} (h1 : ¬ w = 1) (h2 : ¬ w = 2) : ss (tlc w f) 2646 = Int32.ofNat (cnt f) := by
  have e : tlc w f = fun s => bi (kpt f s) := by
    funext s
    unfold tlc kpt
    by_cases c : f s = -1
    · rw [if_pos c, bi_ff (decide_eq_false (fun z => z c))]
    · rw [if_neg c, if_neg h1, if_neg h2, bi_tt (decide_eq_true c)]
  rw [e, ss_nb]
  unfold cnt
  rw [cntn_nb]
theorem m_cnt0 {N K : Nat} (hN : NBig N) {sz th p0 : Int32} {f g : Nat → Int32} (hp0 : Rg p0 0 2) (h : MT sz f g) : fX7_told2 N K th g p0 (0 : Int32) = some (Int32.ofNat (cnt f)) := by
  rw [m_t2 hN hp0 h, if_neg (by decide), tlc_cnt (by decide) (by decide)]
theorem c_mark_ {N K : Nat} {sz : Int32} {f : Nat → Int32} : ∀ k i fu, i + k = 2646 → k < fu → fX2_mark_4 N K sz f fu (ss (tlc 1 f) i) (Int32.ofNat i) = some (ss (tlc 1 f) 2646) := by
  intro k
  induction k with
  | zero =>
    intro i fu hi hfu
    obtain ⟨fu, rfl⟩ : ∃ m, fu = m + 1 := ⟨fu - 1, by omega⟩
    obtain rfl : i = 2646 := by omega
    unfold fX2_mark_4
    rw [if_pos (by decide)]
  | succ k ih =>
    intro i fu hi hfu
    obtain ⟨fu, rfl⟩ : ∃ m, fu = m + 1 := ⟨fu - 1, by omega⟩
    have e := ih (i + 1) fu (by omega) (by omega)
    have es : ss (tlc 1 f) (i + 1) = ss (tlc 1 f) i + tlc 1 f i := rfl
    rw [es] at e
    unfold fX2_mark_4
    rw [if_neg (by rw [show (2646 : Int32) = Int32.ofNat 2646 from rfl, o_le (by omega) (by omega)]; omega), if_neg (o_ob (by omega) (by omega)), o_c (by omega)]
    unfold fX2_mark_35
    rw [o_1]
    by_cases c : f i = -1
    · rw [if_pos c]
      rw [show tlc 1 f i = 0 from if_pos c, Int32.add_zero] at e
      exact e
    · rw [if_neg c]
      rw [show tlc 1 f i = Int32.ofNat (cd (i / 441) (i / 21 % 21) (i % 21)) ^^^ f i from (if_neg c).trans (if_pos rfl)] at e
      have ec : fX2_codeOf N K (Int32.ofNat i) = some (Int32.ofNat (cd (i / 441) (i / 21 % 21) (i % 21))) := by
        unfold fX2_codeOf fX2_kindOf fX2_numberOf fX2_measureOf
        rw [show (441 : Int32) = Int32.ofNat 441 from rfl, show (21 : Int32) = Int32.ofNat 21 from rfl, o_div (by omega) (by omega), o_div (by omega) (by omega), o_mod (by omega) (by omega), o_mod (by omega) (by omega), Option.bind_some, Option.bind_some, Option.bind_some, show (1024 : Int32) = Int32.ofNat 1024 from rfl, show (32 : Int32) = Int32.ofNat 32 from rfl, o_mul, o_mul, o_add, o_add, Nat.mul_comm (i / 441) 1024, Nat.mul_comm (i / 21 % 21) 32]
        rfl
      rw [ec, Option.bind_some, if_neg (o_ob2 (by omega) (by omega))]
      exact e
theorem c_sumw_ {N K : Nat} {sz : Int32} {f : Nat → Int32} : ∀ k i fu, i + k = 2646 → k < fu → fX2_sumOfWorths_4 N K sz f fu (ss (tlc 2 f) i) (Int32.ofNat i) = some (ss (tlc 2 f) 2646) := by
  intro k
  induction k with
  | zero =>
    intro i fu hi hfu
    obtain ⟨fu, rfl⟩ : ∃ m, fu = m + 1 := ⟨fu - 1, by omega⟩
    obtain rfl : i = 2646 := by omega
    unfold fX2_sumOfWorths_4
    rw [if_pos (by decide)]
  | succ k ih =>
    intro i fu hi hfu
    obtain ⟨fu, rfl⟩ : ∃ m, fu = m + 1 := ⟨fu - 1, by omega⟩
    have e := ih (i + 1) fu (by omega) (by omega)
    have es : ss (tlc 2 f) (i + 1) = ss (tlc 2 f) i + tlc 2 f i := rfl
    rw [es] at e
    unfold fX2_sumOfWorths_4
    rw [if_neg (by rw [show (2646 : Int32) = Int32.ofNat 2646 from rfl, o_le (by omega) (by omega)]; omega), if_neg (o_ob (by omega) (by omega)), o_c (by omega)]
    unfold fX2_sumOfWorths_30
    rw [o_1]
    by_cases c : f i = -1
    · rw [if_pos c]
      rw [show tlc 2 f i = 0 from if_pos c, Int32.add_zero] at e
      exact e
    · rw [if_neg c]
      rw [show tlc 2 f i = f i from (if_neg c).trans ((if_neg (by decide)).trans (if_pos rfl))] at e
      rw [if_neg (o_ob2 (by omega) (by omega))]
      exact e
/-! ===== what changes many cases ===== -/
theorem cntn_ext {f g : Nat → Int32} {b c : Nat → Bool} (h : ∀ s, (if g s = -1 then 0 else 1) + (if b s = true then 1 else 0) = (if f s = -1 then 0 else 1) + (if c s = true then 1 else 0)) : ∀ n, cntn g n + nb b n = cntn f n + nb c n := by
  intro n
  induction n with
  | zero => rfl
  | succ n ih =>
    show cntn g n + (if g n = -1 then 0 else 1) + (nb b n + (if b n = true then 1 else 0)) = cntn f n + (if f n = -1 then 0 else 1) + (nb c n + (if c n = true then 1 else 0))
    have := h n
    omega
theorem nb_0 : ∀ n, nb (fun _ => false) n = 0 := by
  intro n
  induction n with
  | zero => rfl
  | succ n ih =>
    show nb (fun _ => false) n + (if false = true then 1 else 0) = 0
    rw [ih, if_neg (by decide)]
/-- contents whose cases that b tells are forgotten -/
def offd (b : Nat → Bool) (f : Nat → Int32) : Nat → Int32 := fun s => if b s = true then -1 else f s
theorem cnt_offd {w v : Int32} {f : Nat → Int32} : cnt (offd (so w v f) f) + nb (so w v f) 2646 = cnt f := by
  have h := cntn_ext (f := f) (g := offd (so w v f) f) (b := so w v f) (c := fun _ => false) (fun s => ?_) 2646
  · rw [nb_0, Nat.add_zero] at h
    unfold cnt
    exact h
  · unfold offd
    rw [if_neg (show ¬ (false = true) from by decide), Nat.add_zero]
    by_cases c : so w v f s = true
    · obtain ⟨d, -⟩ := of_decide_eq_true c
      rw [if_pos c, if_pos rfl, if_neg d, if_pos c]
    · rw [if_neg c, if_neg c, Nat.add_zero]
/-- two tables alike at the cases -/
theorem MT.of {sz sz' : Int32} {f g f' g' : Nat → Int32} (h : MT sz f g) (hs : sz' = Int32.ofNat (cnt f')) (hc : ∀ k n m, k < 6 → n ≤ 20 → m ≤ 20 → (f' (sl k n m) = -1 ∨ (1 ≤ n ∧ 1 ≤ m ∧ 0 ≤ (f' (sl k n m)).toInt ∧ (f' (sl k n m)).toInt ≤ (tb n m : Int))) ∧ g' (cd k n m) = f' (sl k n m)) (hg : ∀ c, c < 6144 → (∀ k n m, k < 6 → n ≤ 20 → m ≤ 20 → ¬ c = cd k n m) → g' c = -1) : MT sz' f' g' :=
  ⟨hs, fun k hk n m hn hm => (hc k n m hk hn hm).1, fun k n m hk hn hm => (hc k n m hk hn hm).2, hg⟩
theorem so_at {w v : Int32} {f f' : Nat → Int32} {s : Nat} (h : f' s = f s) : so w v f' s = so w v f s := by
  unfold so asp
  rw [h]
theorem c_de_ {N K : Nat} {sz0 sz w v : Int32} {f0 f : Nat → Int32} : ∀ k i fu (f' : Nat → Int32), i + k = 2646 → k < fu → (∀ s, f' s = if s < i then offd (so w v f) f s else f s) → ∃ f2, fX2_dropEach_5 N K sz0 f0 w v fu (ss (fun s => bi (so w v f s)) i) (Int32.ofNat i) sz f' = some (ss (fun s => bi (so w v f s)) 2646, sz - ss (fun s => bi (so w v f s)) 2646, f2) ∧ ∀ s, s < 2646 → f2 s = offd (so w v f) f s := by
  intro k
  induction k with
  | zero =>
    intro i fu f' hi hfu hf
    obtain ⟨fu, rfl⟩ : ∃ m, fu = m + 1 := ⟨fu - 1, by omega⟩
    obtain rfl : i = 2646 := by omega
    refine ⟨f', ?_, fun s hs => (hf s).trans (if_pos hs)⟩
    unfold fX2_dropEach_5
    rw [if_pos (by decide)]
  | succ k ih =>
    intro i fu f' hi hfu hf
    obtain ⟨fu, rfl⟩ : ∃ m, fu = m + 1 := ⟨fu - 1, by omega⟩
    have es : ss (fun s => bi (so w v f s)) (i + 1) = ss (fun s => bi (so w v f s)) i + bi (so w v f i) := rfl
    have hfi : f' i = f i := (hf i).trans (if_neg (by omega))
    have keep : so w v f i = false → ∀ s, f' s = if s < i + 1 then offd (so w v f) f s else f s := by
      intro hb s
      rw [hf s]
      by_cases c : s < i
      · rw [if_pos c, if_pos (by omega)]
      · rw [if_neg c]
        by_cases d : s = i
        · rw [if_pos (by omega), d]
          unfold offd
          rw [hb, if_neg (by decide)]
        · rw [if_neg (by omega)]
    unfold fX2_dropEach_5
    rw [if_neg (by rw [show (2646 : Int32) = Int32.ofNat 2646 from rfl, o_le (by omega) (by omega)]; omega), if_neg (o_ob (by omega) (by omega)), o_c (by omega), hfi]
    unfold fX2_dropEach_46
    rw [o_1]
    by_cases c : f i = -1
    · rw [if_pos c]
      obtain ⟨f2, e1, e2⟩ := ih (i + 1) fu f' (by omega) (by omega) (keep (so_f c))
      rw [es, so_f c, show bi false = (0 : Int32) from rfl, Int32.add_zero] at e1
      exact ⟨f2, e1, e2⟩
    · have ea : asp w f' i = asp w f i := by unfold asp; rw [hfi]
      rw [if_neg c, c_asp (by omega), Option.bind_some, ea]
      by_cases d : asp w f i = v
      · have hb : so w v f i = true := decide_eq_true ⟨c, d⟩
        rw [if_pos d, if_neg (o_ob2 (by omega) (by omega))]
        obtain ⟨f2, e1, e2⟩ := ih (i + 1) fu (upd f' i (-1)) (by omega) (by omega) (fun s => by
          unfold upd
          by_cases d2 : s = i
          · rw [if_pos d2, if_pos (by omega), d2]
            unfold offd
            rw [hb, if_pos rfl]
          · rw [if_neg d2, hf s]
            by_cases d3 : s < i
            · rw [if_pos d3, if_pos (by omega)]
            · rw [if_neg d3, if_neg (by omega)])
        rw [es, hb] at e1
        exact ⟨f2, e1, e2⟩
      · have hb : so w v f i = false := decide_eq_false (fun z => d z.2)
        rw [if_neg d]
        obtain ⟨f2, e1, e2⟩ := ih (i + 1) fu f' (by omega) (by omega) (keep hb)
        rw [es, hb, show bi false = (0 : Int32) from rfl, Int32.add_zero] at e1
        exact ⟨f2, e1, e2⟩
theorem m_fa_ {N K : Nat} {th0 th p0 w v l4 : Int32} {g0 g t0 t : Nat → Int32} (hp0 : Rg p0 0 2) : ∀ k i fu (g' : Nat → Int32), i + k = 6144 → k < fu → (∀ s, g' s = if s < i then offd (som w v g) g s else g s) → ∃ g2, fX7_forgetAll_33 N K th0 g0 t0 p0 w v fu l4 (Int32.ofNat i) th g' t = some (l4, th, g2, dn t) ∧ ∀ s, s < 6144 → g2 s = offd (som w v g) g s := by
  intro k
  induction k with
  | zero =>
    intro i fu g' hi hfu hg
    obtain ⟨fu, rfl⟩ : ∃ m, fu = m + 1 := ⟨fu - 1, by omega⟩
    obtain rfl : i = 6144 := by omega
    refine ⟨g', ?_, fun s hs => (hg s).trans (if_pos hs)⟩
    unfold fX7_forgetAll_33
    rw [if_pos (by decide), m_done, Option.bind_some]
  | succ k ih =>
    intro i fu g' hi hfu hg
    obtain ⟨fu, rfl⟩ : ∃ m, fu = m + 1 := ⟨fu - 1, by omega⟩
    have hgi : g' i = g i := (hg i).trans (if_neg (by omega))
    have hb : som w v g' i = som w v g i := by unfold som apm; rw [hgi]
    unfold fX7_forgetAll_33
    rw [if_neg (by rw [show (6144 : Int32) = Int32.ofNat 6144 from rfl, o_le (by omega) (by omega)]; omega), m_so (by omega) hp0, Option.bind_some, hb]
    unfold fX7_forgetAll_63
    rw [o_1]
    cases c : som w v g i with
    | false =>
      rw [if_pos bif0]
      exact ih (i + 1) fu g' (by omega) (by omega) (fun s => by
        rw [hg s]
        by_cases d3 : s < i
        · rw [if_pos d3, if_pos (by omega)]
        · rw [if_neg d3]
          by_cases d : s = i
          · rw [if_pos (by omega), d]
            unfold offd
            rw [c, if_neg (by decide)]
          · rw [if_neg (by omega)])
    | true =>
      rw [if_neg bitn, if_neg hp0.mm, if_neg (o_ob (by omega) (by omega)), o_c (by omega)]
      exact ih (i + 1) fu (upd g' i (-1)) (by omega) (by omega) (fun s => by
        unfold upd
        by_cases d2 : s = i
        · rw [if_pos d2, if_pos (by omega), d2]
          unfold offd
          rw [c, if_pos rfl]
        · rw [if_neg d2, hg s]
          by_cases d3 : s < i
          · rw [if_pos d3, if_pos (by omega)]
          · rw [if_neg d3, if_neg (by omega)])
theorem cnt_congr {f g : Nat → Int32} (h : ∀ s, s < 2646 → g s = f s) : cnt g = cnt f := cntn_congr 2646 h
theorem mt_offd {sz : Int32} {f g f2 g2 : Nat → Int32} {w v : Int32} (h : MT sz f g) (hf : ∀ s, s < 2646 → f2 s = offd (so w v f) f s) (hg : ∀ s, s < 6144 → g2 s = offd (som w v g) g s) : MT (sz - ss (fun s => bi (so w v f s)) 2646) f2 g2 := by
  refine h.of ?_ (fun k n m hk hn hm => ?_) (fun c hc z => ?_)
  · rw [h.1, ss_nb, cnt_congr hf, ← cnt_offd (w := w) (v := v) (f := f), o_sub (by omega), show cnt (offd (so w v f) f) + nb (so w v f) 2646 - nb (so w v f) 2646 = cnt (offd (so w v f) f) from by omega]
  · rw [hf _ (sl_lt hk hn hm), hg _ (cd_lt hk hn hm)]
    unfold offd
    rw [so_eq h hk hn hm, h.2.2.1 k n m hk hn hm]
    by_cases c : so w v f (sl k n m) = true
    · rw [if_pos c]
      exact ⟨Or.inl rfl, rfl⟩
    · rw [if_neg c]
      exact ⟨h.cell hk hn hm, rfl⟩
  · rw [hg c hc]
    unfold offd
    rw [so_gap h hc z, if_neg (by decide)]
    exact h.2.2.2 c hc z
/-- all forgotten -/
theorem cnt_none {f : Nat → Int32} (h : ∀ s, s < 2646 → f s = -1) : cnt f = 0 := by
  have : ∀ n, n ≤ 2646 → cntn f n = 0 := by
    intro n
    induction n with
    | zero => intro _; rfl
    | succ n ih =>
      intro hn
      show cntn f n + (if f n = -1 then 0 else 1) = 0
      rw [ih (by omega), if_pos (h n (by omega))]
  exact this 2646 (Nat.le_refl _)
theorem mt_none {f g : Nat → Int32} (hf : ∀ s, s < 2646 → f s = -1) (hg : ∀ c, c < 6144 → g c = -1) : MT 0 f g := by
  refine ⟨by rw [cnt_none hf]; rfl, fun k hk n m hn hm => Or.inl (hf _ (sl_lt hk hn hm)), fun k n m hk hn hm => ?_, fun c hc _ => hg c hc⟩
  rw [hf _ (sl_lt hk hn hm), hg _ (cd_lt hk hn hm)]
theorem m_clr_ {N K : Nat} {th0 th p0 l2 : Int32} {g0 t0 t : Nat → Int32} (hp0 : Rg p0 0 2) : ∀ k i fu (g' : Nat → Int32), i + k = 6144 → k < fu → (∀ s, s < i → g' s = -1) → ∃ g2, fX7_clear_25 N K th0 g0 t0 p0 fu l2 (Int32.ofNat i) th g' t = some (l2, th, g2, dn t) ∧ ∀ s, s < 6144 → g2 s = -1 := by
  intro k
  induction k with
  | zero =>
    intro i fu g' hi hfu hg
    obtain ⟨fu, rfl⟩ : ∃ m, fu = m + 1 := ⟨fu - 1, by omega⟩
    obtain rfl : i = 6144 := by omega
    refine ⟨g', ?_, hg⟩
    unfold fX7_clear_25
    rw [if_pos (by decide), m_done, Option.bind_some]
  | succ k ih =>
    intro i fu g' hi hfu hg
    obtain ⟨fu, rfl⟩ : ∃ m, fu = m + 1 := ⟨fu - 1, by omega⟩
    unfold fX7_clear_25
    rw [if_neg (by rw [show (6144 : Int32) = Int32.ofNat 6144 from rfl, o_le (by omega) (by omega)]; omega), if_neg hp0.mm, if_neg (o_ob (by omega) (by omega)), o_c (by omega), o_1]
    exact ih (i + 1) fu (upd g' i (-1)) (by omega) (by omega) (fun s hs => by
      unfold upd
      by_cases d : s = i
      · rw [if_pos d]
      · rw [if_neg d]; exact hg s (by omega))
/-- contents copied -/
theorem mt_same {sz : Int32} {f g f2 g2 : Nat → Int32} (h : MT sz f g) (hf : ∀ s, s < 2646 → f2 s = f s) (hg : ∀ c, c < 6144 → g2 c = g c) : MT sz f2 g2 := by
  refine h.of (by rw [h.1, cnt_congr hf]) (fun k n m hk hn hm => ?_) (fun c hc z => by rw [hg c hc]; exact h.2.2.2 c hc z)
  rw [hf _ (sl_lt hk hn hm), hg _ (cd_lt hk hn hm)]
  exact ⟨h.cell hk hn hm, h.2.2.1 k n m hk hn hm⟩
theorem c_cpy {f g : Nat → Int32} {s : Nat} (h : s < 2646) : va_cpy g f (0 : Int32).toNatClampNeg (0 : Int32).toNatClampNeg (2646 : Int32).toNatClampNeg s = g s := by
  show (if (0 : Int32).toNatClampNeg ≤ s ∧ s < (0 : Int32).toNatClampNeg + (2646 : Int32).toNatClampNeg then g ((0 : Int32).toNatClampNeg + (s - (0 : Int32).toNatClampNeg)) else f s) = _
  have e0 : (0 : Int32).toNatClampNeg = 0 := by decide
  have e1 : (2646 : Int32).toNatClampNeg = 2646 := by decide
  rw [e0, e1, if_pos (by omega), show 0 + (s - 0) = s from by omega]
theorem m_copy_ {N K : Nat} (hN : NBig N) {sz th0 th p0 p1 : Int32} {f g g0 t0 t : Nat → Int32} (hp0 : Rg p0 0 2) (hp1 : Rg p1 0 2) (h : MT sz f g) : ∀ k i fu (g' : Nat → Int32), i + k = 6144 → k < fu → (∀ s, s < i → g' s = g s) → ∃ g2, fX7_copy_35 N K th0 g g0 t0 p0 p1 fu (Int32.ofNat i) th g' t = some (Int32.ofNat (cnt f), th, g2, dn t) ∧ ∀ s, s < 6144 → g2 s = g s := by
  intro k
  induction k with
  | zero =>
    intro i fu g' hi hfu hg
    obtain ⟨fu, rfl⟩ : ∃ m, fu = m + 1 := ⟨fu - 1, by omega⟩
    obtain rfl : i = 6144 := by omega
    refine ⟨g', ?_, hg⟩
    unfold fX7_copy_35
    rw [if_pos (by decide), m_cnt0 hN hp1 (mt_same h (fun _ _ => rfl) hg), Option.bind_some, m_done, Option.bind_some]
  | succ k ih =>
    intro i fu g' hi hfu hg
    obtain ⟨fu, rfl⟩ : ∃ m, fu = m + 1 := ⟨fu - 1, by omega⟩
    unfold fX7_copy_35
    rw [if_neg (by rw [show (6144 : Int32) = Int32.ofNat 6144 from rfl, o_le (by omega) (by omega)]; omega), if_neg hp1.mm, if_neg hp0.mm, if_neg (o_ob (by omega) (by omega)), if_neg (o_ob (by omega) (by omega)), o_c (by omega), o_1]
    exact ih (i + 1) fu (upd g' i (g i)) (by omega) (by omega) (fun s hs => by
      unfold upd
      by_cases d : s = i
      · rw [if_pos d, d]
      · rw [if_neg d]; exact hg s (by omega))
theorem m_copyO_ {N K : Nat} (hN : NBig N) {sz th0 th p0 : Int32} {f g g0 t0 t : Nat → Int32} (hp0 : Rg p0 0 2) (h : MT sz f g) : ∀ k i fu (g' : Nat → Int32), i + k = 6144 → k < fu → (∀ s, g' s = g s) → ∃ g2, fX7_copyOwn_35 N K th0 g0 t0 p0 fu (Int32.ofNat i) th g' t = some (Int32.ofNat (cnt f), th, g2, dn t) ∧ ∀ s, g2 s = g s := by
  intro k
  induction k with
  | zero =>
    intro i fu g' hi hfu hg
    obtain ⟨fu, rfl⟩ : ∃ m, fu = m + 1 := ⟨fu - 1, by omega⟩
    obtain rfl : i = 6144 := by omega
    refine ⟨g', ?_, hg⟩
    unfold fX7_copyOwn_35
    rw [if_pos (by decide), m_cnt0 hN hp0 (mt_same h (fun _ _ => rfl) (fun c _ => hg c)), Option.bind_some, m_done, Option.bind_some]
  | succ k ih =>
    intro i fu g' hi hfu hg
    obtain ⟨fu, rfl⟩ : ∃ m, fu = m + 1 := ⟨fu - 1, by omega⟩
    unfold fX7_copyOwn_35
    rw [if_neg (by rw [show (6144 : Int32) = Int32.ofNat 6144 from rfl, o_le (by omega) (by omega)]; omega), if_neg hp0.mm, if_neg hp0.mm, if_neg (o_ob (by omega) (by omega)), if_neg (o_ob (by omega) (by omega)), o_c (by omega), o_1]
    exact ih (i + 1) fu (upd g' i (g' i)) (by omega) (by omega) (fun s => by
      unfold upd
      by_cases d : s = i
      · rw [if_pos d, hg i, d]
      · rw [if_neg d]; exact hg s)
/-- f with what g keeps -/
def poured (g f : Nat → Int32) : Nat → Int32 := fun s => if g s = -1 then f s else g s
def newin (g f : Nat → Int32) (s : Nat) : Bool := decide (¬ g s = -1 ∧ f s = -1)
theorem newin_t {f g : Nat → Int32} {s : Nat} (c : ¬ g s = -1) (d : f s = -1) : newin g f s = true := decide_eq_true ⟨c, d⟩
theorem newin_f1 {f g : Nat → Int32} {s : Nat} (c : g s = -1) : newin g f s = false := decide_eq_false (fun z => z.1 c)
theorem newin_f2 {f g : Nat → Int32} {s : Nat} (d : ¬ f s = -1) : newin g f s = false := decide_eq_false (fun z => d z.2)
theorem cnt_poured {f g : Nat → Int32} : cnt (poured g f) = cnt f + nb (newin g f) 2646 := by
  have h := cntn_ext (f := f) (g := poured g f) (b := fun _ => false) (c := newin g f) (fun s => ?_) 2646
  · rw [nb_0, Nat.add_zero] at h
    unfold cnt
    exact h
  · unfold poured
    rw [if_neg (show ¬ (false = true) from by decide), Nat.add_zero]
    by_cases c : g s = -1
    · rw [if_pos c, newin_f1 c, if_neg (show ¬ (false = true) from by decide), Nat.add_zero]
    · rw [if_neg c, if_neg c]
      by_cases d : f s = -1
      · rw [if_pos d, newin_t c d, if_pos rfl]
      · rw [if_neg d, newin_f2 d, if_neg (show ¬ (false = true) from by decide)]
theorem c_take_ {N K : Nat} {sz0 sz tz : Int32} {f0 f g : Nat → Int32} : ∀ k i fu (f' : Nat → Int32), i + k = 2646 → k < fu → (∀ s, f' s = if s < i then poured g f s else f s) → ∃ f2, fX2_takeIn_4 N K sz0 f0 tz g fu (ss (fun s => bi (newin g f s)) i) (Int32.ofNat i) sz f' = some (ss (fun s => bi (newin g f s)) 2646, sz + ss (fun s => bi (newin g f s)) 2646, f2) ∧ ∀ s, s < 2646 → f2 s = poured g f s := by
  intro k
  induction k with
  | zero =>
    intro i fu f' hi hfu hf
    obtain ⟨fu, rfl⟩ : ∃ m, fu = m + 1 := ⟨fu - 1, by omega⟩
    obtain rfl : i = 2646 := by omega
    refine ⟨f', ?_, fun s hs => (hf s).trans (if_pos hs)⟩
    unfold fX2_takeIn_4
    rw [if_pos (by decide)]
  | succ k ih =>
    intro i fu f' hi hfu hf
    obtain ⟨fu, rfl⟩ : ∃ m, fu = m + 1 := ⟨fu - 1, by omega⟩
    have es : ss (fun s => bi (newin g f s)) (i + 1) = ss (fun s => bi (newin g f s)) i + bi (newin g f i) := rfl
    have hfi : f' i = f i := (hf i).trans (if_neg (by omega))
    unfold fX2_takeIn_4
    rw [if_neg (by rw [show (2646 : Int32) = Int32.ofNat 2646 from rfl, o_le (by omega) (by omega)]; omega), if_neg (o_ob (by omega) (by omega)), o_c (by omega), if_neg (o_ob2 (by omega) (by omega)), hfi]
    unfold fX2_takeIn_34 fX2_takeIn_46
    rw [o_1, o_c (by omega)]
    by_cases c : g i = -1
    · rw [if_pos c]
      have hb : newin g f i = false := decide_eq_false (fun z => z.1 c)
      obtain ⟨f2, e1, e2⟩ := ih (i + 1) fu f' (by omega) (by omega) (fun s => by
        rw [hf s]
        by_cases d3 : s < i
        · rw [if_pos d3, if_pos (by omega)]
        · rw [if_neg d3]
          by_cases d : s = i
          · rw [if_pos (by omega), d]
            exact (if_pos c).symm
          · rw [if_neg (by omega)])
      rw [es, hb, show bi false = (0 : Int32) from rfl, Int32.add_zero] at e1
      exact ⟨f2, e1, e2⟩
    · rw [if_neg c]
      repeat rw [if_neg (o_ob2 (by omega) (by omega))]
      have hu : ∀ s, upd f' i (g i) s = if s < i + 1 then poured g f s else f s := by
        intro s
        unfold upd
        by_cases d : s = i
        · rw [if_pos d, if_pos (by omega), d]
          exact (if_neg c).symm
        · rw [if_neg d, hf s]
          by_cases d3 : s < i
          · rw [if_pos d3, if_pos (by omega)]
          · rw [if_neg d3, if_neg (by omega)]
      obtain ⟨f2, e1, e2⟩ := ih (i + 1) fu _ (by omega) (by omega) hu
      by_cases d : f i = -1
      · rw [if_pos d]
        repeat rw [if_neg (o_ob2 (by omega) (by omega))]
        rw [es, newin_t c d] at e1
        exact ⟨f2, e1, e2⟩
      · rw [if_neg d]
        repeat rw [if_neg (o_ob2 (by omega) (by omega))]
        rw [es, newin_f2 d, show bi false = (0 : Int32) from rfl, Int32.add_zero] at e1
        exact ⟨f2, e1, e2⟩
def pouredm (a b : Nat → Int32) : Nat → Int32 := fun c => if (a c).toInt < 0 then b c else a c
theorem mt_poured {sz tz : Int32} {f g f2 g2 f3 g3 : Nat → Int32} (h : MT sz f g) (h2 : MT tz f2 g2) (hf : ∀ s, s < 2646 → f3 s = poured f f2 s) (hg : ∀ c, c < 6144 → g3 c = pouredm g g2 c) : MT (tz + ss (fun s => bi (newin f f2 s)) 2646) f3 g3 := by
  refine h.of ?_ (fun k n m hk hn hm => ?_) (fun c hc z => ?_)
  · rw [h2.1, ss_nb, cnt_congr hf, cnt_poured, o_add]
  · rw [hf _ (sl_lt hk hn hm), hg _ (cd_lt hk hn hm)]
    unfold poured pouredm
    rw [h.2.2.1 k n m hk hn hm, h2.2.2.1 k n m hk hn hm]
    rcases h.cell hk hn hm with e | e
    · rw [if_pos e, if_pos (by rw [e]; decide)]
      exact ⟨h2.cell hk hn hm, rfl⟩
    · rw [if_neg (m1_n e.2.2.1), if_neg (by omega)]
      exact ⟨Or.inr e, rfl⟩
  · rw [hg c hc]
    unfold pouredm
    rw [h.2.2.2 c hc z, if_pos (by decide)]
    exact h2.2.2.2 c hc z
theorem m_pour_ {N K : Nat} (hN : NBig N) {sz tz th0 th p0 p1 : Int32} {f g f2 g2 g0 t0 t : Nat → Int32} (hp0 : Rg p0 0 2) (hp1 : Rg p1 0 2) (h : MT sz f g) (h2 : MT tz f2 g2) : ∀ k i fu (g' : Nat → Int32), i + k = 6144 → k < fu → (∀ s, g' s = if s < i then pouredm g g2 s else g2 s) → ∃ g3, fX7_pour_53 N K th0 g g0 t0 p0 p1 fu (Int32.ofNat (cnt f2)) (Int32.ofNat i) th g' t = some (ss (fun s => bi (newin f f2 s)) 2646, th, g3, dn t) ∧ ∀ s, s < 6144 → g3 s = pouredm g g2 s := by
  intro k
  induction k with
  | zero =>
    intro i fu g' hi hfu hg
    obtain ⟨fu, rfl⟩ : ∃ m, fu = m + 1 := ⟨fu - 1, by omega⟩
    obtain rfl : i = 6144 := by omega
    have hg2 : ∀ s, s < 6144 → g' s = pouredm g g2 s := fun s hs => (hg s).trans (if_pos hs)
    refine ⟨g', ?_, hg2⟩
    unfold fX7_pour_53
    rw [if_pos (by decide), m_cnt0 hN hp1 (mt_poured h h2 (f3 := poured f f2) (fun _ _ => rfl) hg2), Option.bind_some, m_done, Option.bind_some, cnt_poured, o_sub (by omega), show cnt f2 + nb (newin f f2) 2646 - cnt f2 = nb (newin f f2) 2646 from by omega, ss_nb]
  | succ k ih =>
    intro i fu g' hi hfu hg
    obtain ⟨fu, rfl⟩ : ∃ m, fu = m + 1 := ⟨fu - 1, by omega⟩
    unfold fX7_pour_53
    rw [if_neg (by rw [show (6144 : Int32) = Int32.ofNat 6144 from rfl, o_le (by omega) (by omega)]; omega), if_neg hp0.mm, if_neg (o_ob (by omega) (by omega)), o_c (by omega)]
    unfold fX7_pour_91
    rw [o_1]
    by_cases c : (g i).toInt < 0
    · rw [if_pos (by rw [lt0]; exact c)]
      exact ih (i + 1) fu g' (by omega) (by omega) (fun s => by
        rw [hg s]
        by_cases d3 : s < i
        · rw [if_pos d3, if_pos (by omega)]
        · rw [if_neg d3]
          by_cases d : s = i
          · rw [if_pos (by omega), d]
            exact (if_pos c).symm
          · rw [if_neg (by omega)])
    · rw [if_neg (by rw [lt0]; exact c), if_neg hp1.mm, if_neg hp0.mm, if_neg (o_ob2 (by omega) (by omega)), if_neg (o_ob2 (by omega) (by omega))]
      exact ih (i + 1) fu (upd g' i (g i)) (by omega) (by omega) (fun s => by
        unfold upd
        by_cases d : s = i
        · rw [if_pos d, if_pos (by omega), d]
          exact (if_neg c).symm
        · rw [if_neg d, hg s]
          by_cases d3 : s < i
          · rw [if_pos d3, if_pos (by omega)]
          · rw [if_neg d3, if_neg (by omega)])
/-- alike up to a place -/
def eqn (f g : Nat → Int32) : Nat → Bool
  | 0 => true
  | n + 1 => eqn f g n && decide (f n = g n)
theorem eqn_iff {f g : Nat → Int32} : ∀ n, eqn f g n = true ↔ ∀ s, s < n → f s = g s := by
  intro n
  induction n with
  | zero => exact ⟨fun _ s hs => absurd hs (by omega), fun _ => rfl⟩
  | succ n ih =>
    show (eqn f g n && decide (f n = g n)) = true ↔ _
    rw [Bool.and_eq_true, ih]
    constructor
    · intro h s hs
      by_cases e : s = n
      · rw [e]; exact of_decide_eq_true h.2
      · exact h.1 s (by omega)
    · intro h
      exact ⟨fun s hs => h s (by omega), decide_eq_true (h n (by omega))⟩
theorem c_mlike_ {N K : Nat} {sz tz : Int32} {f g : Nat → Int32} : ∀ k i fu, i + k = 2646 → k < fu → (∀ s, s < i → f s = g s) → fX2_isLike_2 N K sz f tz g fu (Int32.ofNat i) = some (bi (eqn f g 2646)) := by
  intro k
  induction k with
  | zero =>
    intro i fu hi hfu h
    obtain ⟨fu, rfl⟩ : ∃ m, fu = m + 1 := ⟨fu - 1, by omega⟩
    obtain rfl : i = 2646 := by omega
    unfold fX2_isLike_2
    rw [if_pos (by decide), bi_tt ((eqn_iff 2646).mpr h)]
  | succ k ih =>
    intro i fu hi hfu h
    obtain ⟨fu, rfl⟩ : ∃ m, fu = m + 1 := ⟨fu - 1, by omega⟩
    unfold fX2_isLike_2
    rw [if_neg (by rw [show (2646 : Int32) = Int32.ofNat 2646 from rfl, o_le (by omega) (by omega)]; omega), if_neg (o_ob (by omega) (by omega)), if_neg (o_ob (by omega) (by omega)), o_c (by omega), o_1]
    by_cases c : f i = g i
    · rw [if_pos c]
      exact ih (i + 1) fu (by omega) (by omega) (fun s hs => by
        by_cases d : s = i
        · rw [d]; exact c
        · exact h s (by omega))
    · rw [if_neg c, bi_ff (Bool.eq_false_iff.mpr (fun z => c ((eqn_iff 2646).mp z i (by omega))))]
theorem c_mlikeO_ {N K : Nat} {sz : Int32} {f : Nat → Int32} : ∀ k i fu, i + k = 2646 → k < fu → fX2_isLikeOwn_2 N K sz f fu (Int32.ofNat i) = some 1 := by
  intro k
  induction k with
  | zero =>
    intro i fu hi hfu
    obtain ⟨fu, rfl⟩ : ∃ m, fu = m + 1 := ⟨fu - 1, by omega⟩
    obtain rfl : i = 2646 := by omega
    unfold fX2_isLikeOwn_2
    rw [if_pos (by decide)]
  | succ k ih =>
    intro i fu hi hfu
    obtain ⟨fu, rfl⟩ : ∃ m, fu = m + 1 := ⟨fu - 1, by omega⟩
    unfold fX2_isLikeOwn_2
    rw [if_neg (by rw [show (2646 : Int32) = Int32.ofNat 2646 from rfl, o_le (by omega) (by omega)]; omega), if_neg (o_ob (by omega) (by omega)), if_neg (o_ob (by omega) (by omega)), o_1]
    exact ih (i + 1) fu (by omega) (by omega)
theorem m_mlike_ {N K : Nat} {th0 th p0 p1 : Int32} {f g : Nat → Int32} (hp0 : Rg p0 0 2) (hp1 : Rg p1 0 2) : ∀ k i fu, i + k = 6144 → k < fu → fX7_isSame_38 N K th0 f g p0 p1 fu (bi (eqn f g i)) (Int32.ofNat i) th = some (bi (eqn f g 6144), th) := by
  intro k
  induction k with
  | zero =>
    intro i fu hi hfu
    obtain ⟨fu, rfl⟩ : ∃ m, fu = m + 1 := ⟨fu - 1, by omega⟩
    obtain rfl : i = 6144 := by omega
    unfold fX7_isSame_38
    rw [if_pos (by decide), if_pos (bi_ok _)]
  | succ k ih =>
    intro i fu hi hfu
    obtain ⟨fu, rfl⟩ : ∃ m, fu = m + 1 := ⟨fu - 1, by omega⟩
    have e := ih (i + 1) fu (by omega) (by omega)
    have es : eqn f g (i + 1) = (eqn f g i && decide (f i = g i)) := rfl
    rw [es] at e
    unfold fX7_isSame_38
    rw [if_neg (by rw [show (6144 : Int32) = Int32.ofNat 6144 from rfl, o_le (by omega) (by omega)]; omega), if_neg hp0.mm, if_neg (o_ob (by omega) (by omega)), if_neg hp1.mm, if_neg (o_ob (by omega) (by omega)), o_c (by omega)]
    unfold fX7_isSame_73
    rw [o_1]
    by_cases c : f i = g i
    · rw [if_pos c, bi_and1]
      rw [decide_eq_true c, Bool.and_true] at e
      exact e
    · rw [if_neg c, bi_and0]
      rw [decide_eq_false c, Bool.and_false] at e
      exact e
theorem m_mlikeO_ {N K : Nat} {th0 th p0 : Int32} {f : Nat → Int32} (hp0 : Rg p0 0 2) : ∀ k i fu, i + k = 6144 → k < fu → fX7_isSameOwn_38 N K th0 f p0 fu 1 (Int32.ofNat i) th = some (1, th) := by
  intro k
  induction k with
  | zero =>
    intro i fu hi hfu
    obtain ⟨fu, rfl⟩ : ∃ m, fu = m + 1 := ⟨fu - 1, by omega⟩
    obtain rfl : i = 6144 := by omega
    unfold fX7_isSameOwn_38
    rw [if_pos (by decide), if_pos (Or.inr rfl)]
  | succ k ih =>
    intro i fu hi hfu
    obtain ⟨fu, rfl⟩ : ∃ m, fu = m + 1 := ⟨fu - 1, by omega⟩
    unfold fX7_isSameOwn_38
    rw [if_neg (by rw [show (6144 : Int32) = Int32.ofNat 6144 from rfl, o_le (by omega) (by omega)]; omega), if_neg hp0.mm, if_neg (o_ob (by omega) (by omega)), if_neg hp0.mm, if_neg (o_ob (by omega) (by omega))]
    unfold fX7_isSameOwn_73
    rw [show (1 : Int32) &&& 1 = 1 from by decide, o_1]
    exact ih (i + 1) fu (by omega) (by omega)
theorem eqn_b {sz tz : Int32} {f g f2 g2 : Nat → Int32} (h : MT sz f g) (h2 : MT tz f2 g2) : eqn g g2 6144 = eqn f f2 2646 := by
  apply Bool.eq_iff_iff.mpr
  rw [eqn_iff, eqn_iff]
  constructor
  · intro e s hs
    obtain ⟨k, n, m, hk, hn, hm, rfl⟩ := sl_of hs
    rw [← h.2.2.1 k n m hk hn hm, ← h2.2.2.1 k n m hk hn hm]
    exact e _ (cd_lt hk hn hm)
  · intro e c hc
    by_cases z : ∃ k n m, k < 6 ∧ n ≤ 20 ∧ m ≤ 20 ∧ c = cd k n m
    · obtain ⟨k, n, m, hk, hn, hm, rfl⟩ := z
      rw [h.2.2.1 k n m hk hn hm, h2.2.2.1 k n m hk hn hm]
      exact e _ (sl_lt hk hn hm)
    · have z2 : ∀ k n m, k < 6 → n ≤ 20 → m ≤ 20 → ¬ c = cd k n m := fun k n m hk hn hm y => z ⟨k, n, m, hk, hn, hm, y⟩
      rw [h.2.2.2 c hc z2, h2.2.2.2 c hc z2]

end MG_60pmtie
section MG_60qmties
/-! ===== the memories' methods on both sides ===== -/
theorem k_case1 {N K : Nat} {p0 p1 p2 : Int32} (h : Rg p0 0 5 ∧ Rg p1 0 20 ∧ Rg p2 0 20) : fX5_checkCase N K p0 p1 p2 = some (.inl ()) := by
  unfold fX5_checkCase
  rw [k_rng1 h.1, xb_l, k_rng1 h.2.1, xb_l, k_rng1 h.2.2, xb_l]
theorem k_case0 {N K : Nat} {p0 p1 p2 : Int32} (h : ¬ (Rg p0 0 5 ∧ Rg p1 0 20 ∧ Rg p2 0 20)) : fX5_checkCase N K p0 p1 p2 = some (.inr "java/lang/IllegalArgumentException") := by
  unfold fX5_checkCase
  by_cases h0 : Rg p0 0 5
  · by_cases h1 : Rg p1 0 20
    · have h2 : ¬ Rg p2 0 20 := fun z => h ⟨h0, h1, z⟩
      rw [k_rng1 h0, xb_l, k_rng1 h1, xb_l, k_rng0 h2, xb_r]
    · rw [k_rng1 h0, xb_l, k_rng0 h1, xb_r]
  · rw [k_rng0 h0, xb_r]
theorem m_oc1 {N K : Nat} {p0 p1 p2 : Int32} (h : Rg p0 0 5 ∧ Rg p1 0 20 ∧ Rg p2 0 20) : fX7_isOut N K p0 p1 p2 = some 0 := by
  unfold fX7_isOut
  rw [m_in h.1, Option.bind_some, if_pos rfl, m_in h.2.1, Option.bind_some, if_pos rfl, m_in h.2.2, Option.bind_some, if_pos rfl]
theorem m_oc0 {N K : Nat} {p0 p1 p2 : Int32} (h : ¬ (Rg p0 0 5 ∧ Rg p1 0 20 ∧ Rg p2 0 20)) : fX7_isOut N K p0 p1 p2 = some 1 := by
  unfold fX7_isOut
  by_cases h0 : Rg p0 0 5
  · rw [m_in h0, Option.bind_some, if_pos rfl]
    by_cases h1 : Rg p1 0 20
    · have h2 : ¬ Rg p2 0 20 := fun z => h ⟨h0, h1, z⟩
      rw [m_in h1, Option.bind_some, if_pos rfl, m_out h2, Option.bind_some, if_neg (by decide)]
    · rw [m_out h1, Option.bind_some, if_neg (by decide)]
  · rw [m_out h0, Option.bind_some, if_neg (by decide)]
theorem KT.tt {c0 c1 c2 c3 c4 d1 d2 d3 : Int32} {t t' : Nat → Int32} (h : TT c1 c2 c3 d1 d2 d3 t t') : KT c0 c1 c2 c3 c4 t c0 d1 d2 d3 c4 t' := by
  intro h0 h1 h2 h3 h4
  obtain ⟨⟨w, d, e, g1, g2, g3, g4, g5, g6⟩, g7⟩ := h
  exact ⟨h0.trans (g7 0 (by decide) (by decide) (by decide)).symm, by rw [g1, g2, h1], by rw [g3, g4, h2], by rw [g5, g6, h3], h4.trans (g7 4 (by decide) (by decide) (by decide)).symm, g7 5 (by decide) (by decide) (by decide)⟩
theorem few_ {N K a b : Nat} {th0 th p0 sz0 d0 d1 d2 d3 c0 c4 c5 : Int32} {f0 g0 t0 u0 : Nat → Int32} (hN : NBig N) (hK : 100 ≤ K) (ha : a ≤ 20) (hb : b ≤ 20) (hp0 : Rg p0 0 2) : ∀ n i fx fy (l sz c1 c2 c3 : Int32) (f g t u : Nat → Int32), i + n = b + 1 → n < fx → n < fy → MT sz f g → ∃ v sz' f' c1' c2' c3' g' t' u', fX5_few_27 N K sz0 f0 d0 d1 d2 d3 c4 c5 p0 (Int32.ofNat a) (Int32.ofNat b) fx l (Int32.ofNat i) sz f c0 c1 c2 c3 = some (.inl (v, sz', f', c0 + (1 : Int32), c1', c2', c3')) ∧ fX7_few_46 N K th0 g0 t0 u0 p0 (Int32.ofNat a) (Int32.ofNat b) fy l (Int32.ofNat i) th g t u = some (v, th, g', t', u') ∧ MT sz' f' g' ∧ KT c0 c1 c2 c3 c4 t (c0 + (1 : Int32)) c1' c2' c3' c4 t' := by
  intro n
  induction n with
  | zero =>
    intro i fx fy l sz c1 c2 c3 f g t u hi hx hy h
    obtain ⟨fx, rfl⟩ : ∃ m, fx = m + 1 := ⟨fx - 1, by omega⟩
    obtain ⟨fy, rfl⟩ : ∃ m, fy = m + 1 := ⟨fy - 1, by omega⟩
    refine ⟨l, sz, f, c1, c2, c3, g, dn t, u, ?_, ?_, h, KT.done⟩
    · unfold fX5_few_27
      rw [if_pos (by rw [o_lt (by omega) (by omega)]; omega), k_act, Option.bind_some]
    · unfold fX7_few_46
      rw [if_pos (by rw [o_lt (by omega) (by omega)]; omega), m_done, Option.bind_some]
  | succ n ih =>
    intro i fx fy l sz c1 c2 c3 f g t u hi hx hy h
    obtain ⟨fx, rfl⟩ : ∃ m, fx = m + 1 := ⟨fx - 1, by omega⟩
    obtain ⟨fy, rfl⟩ : ∃ m, fy = m + 1 := ⟨fy - 1, by omega⟩
    obtain ⟨v, sz1, f1, x1, x2, x3, g1, t1, u1, e1, e2, e3, e4⟩ := mt_know (N := N) (K := K) (th := th) (k := 1) (n := a) (m := i) (c0 := c0) (c1 := c1) (c2 := c2) (c3 := c3) (c4 := c4) (c5 := c5) (t := t) (u := u) hN hK (by omega) ha (by omega) hp0 h
    have e1' : fX2_recall N K sz f c0 c1 c2 c3 c4 c5 (1 : Int32) (Int32.ofNat a) (Int32.ofNat i) = some (v, sz1, f1, x1, x2, x3) := e1
    have e2' : fX7_known N K th g t u p0 (1 : Int32) (Int32.ofNat a) (Int32.ofNat i) = some (v, g1, t1, u1) := e2
    obtain ⟨v2, sz2, f2, y1, y2, y3, g2, t2, u2, r1, r2, r3, r4⟩ := ih (i + 1) fx fy (l + v) sz1 x1 x2 x3 f1 g1 t1 u1 (by omega) (by omega) (by omega) e3
    refine ⟨v2, sz2, f2, y1, y2, y3, g2, t2, u2, ?_, ?_, r3, (KT.tt e4).trans r4⟩
    · unfold fX5_few_27
      rw [if_neg (by rw [o_lt (by omega) (by omega)]; omega), e1', Option.bind_some, o_1]
      exact r1
    · unfold fX7_few_46
      rw [if_neg (by rw [o_lt (by omega) (by omega)]; omega), e2', Option.bind_some, o_1]
      exact r2
theorem neg1 (v : Int32) : (-1 : Int32) * v = -v := by
  rw [show (-1 : Int32) = -(1 : Int32) from by decide, Int32.neg_mul, Int32.one_mul]
theorem sur_ {N K a : Nat} {th0 th p0 sz0 d0 d1 d2 d3 c0 c4 c5 : Int32} {f0 g0 t0 u0 : Nat → Int32} (hN : NBig N) (hK : 100 ≤ K) (ha : a ≤ 20) (hp0 : Rg p0 0 2) : ∀ n i fx fy (l sz c1 c2 c3 : Int32) (f g t u : Nat → Int32), i + n = a + 1 → n < fx → n < fy → MT sz f g → ∃ v sz' f' c1' c2' c3' g' t' u', fX5_surplus_19 N K sz0 f0 d0 d1 d2 d3 c4 c5 p0 (Int32.ofNat a) fx l (Int32.ofNat i) sz f c0 c1 c2 c3 = some (.inl (v, sz', f', c0 + (1 : Int32), c1', c2', c3')) ∧ fX7_surplus_27 N K th0 g0 t0 u0 p0 (Int32.ofNat a) fy l (Int32.ofNat i) th g t u = some (v, th, g', t', u') ∧ MT sz' f' g' ∧ KT c0 c1 c2 c3 c4 t (c0 + (1 : Int32)) c1' c2' c3' c4 t' := by
  intro n
  induction n with
  | zero =>
    intro i fx fy l sz c1 c2 c3 f g t u hi hx hy h
    obtain ⟨fx, rfl⟩ : ∃ m, fx = m + 1 := ⟨fx - 1, by omega⟩
    obtain ⟨fy, rfl⟩ : ∃ m, fy = m + 1 := ⟨fy - 1, by omega⟩
    refine ⟨l, sz, f, c1, c2, c3, g, dn t, u, ?_, ?_, h, KT.done⟩
    · unfold fX5_surplus_19
      rw [if_pos (by rw [o_lt (by omega) (by omega)]; omega), k_act, Option.bind_some]
    · unfold fX7_surplus_27
      rw [if_pos (by rw [o_lt (by omega) (by omega)]; omega), m_done, Option.bind_some]
  | succ n ih =>
    intro i fx fy l sz c1 c2 c3 f g t u hi hx hy h
    obtain ⟨fx, rfl⟩ : ∃ m, fx = m + 1 := ⟨fx - 1, by omega⟩
    obtain ⟨fy, rfl⟩ : ∃ m, fy = m + 1 := ⟨fy - 1, by omega⟩
    obtain ⟨v, sz1, f1, x1, x2, x3, g1, t1, u1, e1, e2, e3, e4⟩ := mt_know (N := N) (K := K) (th := th) (k := 5) (n := a) (m := i) (c0 := c0) (c1 := c1) (c2 := c2) (c3 := c3) (c4 := c4) (c5 := c5) (t := t) (u := u) hN hK (by omega) ha (by omega) hp0 h
    have e1' : fX2_recall N K sz f c0 c1 c2 c3 c4 c5 (5 : Int32) (Int32.ofNat a) (Int32.ofNat i) = some (v, sz1, f1, x1, x2, x3) := e1
    have e2' : fX7_known N K th g t u p0 (5 : Int32) (Int32.ofNat a) (Int32.ofNat i) = some (v, g1, t1, u1) := e2
    by_cases par : i % 2 = 0
    · obtain ⟨v2, sz2, f2, y1, y2, y3, g2, t2, u2, r1, r2, r3, r4⟩ := ih (i + 1) fx fy (l + v) sz1 x1 x2 x3 f1 g1 t1 u1 (by omega) (by omega) (by omega) e3
      refine ⟨v2, sz2, f2, y1, y2, y3, g2, t2, u2, ?_, ?_, r3, (KT.tt e4).trans r4⟩
      · unfold fX5_surplus_19
        rw [if_neg (by rw [o_lt (by omega) (by omega)]; omega), e1', Option.bind_some, if_pos (by rw [o_par (by omega)]; exact par)]
        unfold fX5_surplus_56
        rw [o_1]
        exact r1
      · unfold fX7_surplus_27
        rw [if_neg (by rw [o_lt (by omega) (by omega)]; omega), if_pos (by rw [o_par (by omega)]; exact par)]
        unfold fX7_surplus_46
        rw [e2', Option.bind_some, o_1, Int32.one_mul]
        exact r2
    · obtain ⟨v2, sz2, f2, y1, y2, y3, g2, t2, u2, r1, r2, r3, r4⟩ := ih (i + 1) fx fy (l + -v) sz1 x1 x2 x3 f1 g1 t1 u1 (by omega) (by omega) (by omega) e3
      refine ⟨v2, sz2, f2, y1, y2, y3, g2, t2, u2, ?_, ?_, r3, (KT.tt e4).trans r4⟩
      · unfold fX5_surplus_19
        rw [if_neg (by rw [o_lt (by omega) (by omega)]; omega), e1', Option.bind_some, if_neg (by rw [o_par (by omega)]; exact par)]
        unfold fX5_surplus_56
        rw [o_1]
        exact r1
      · unfold fX7_surplus_27
        rw [if_neg (by rw [o_lt (by omega) (by omega)]; omega), if_neg (by rw [o_par (by omega)]; exact par)]
        unfold fX7_surplus_46
        rw [e2', Option.bind_some, o_1, neg1]
        exact r2
theorem o_dec {a : Nat} (h : 1 ≤ a) : Int32.ofNat a + (-1 : Int32) = Int32.ofNat (a - 1) := by
  obtain ⟨b, rfl⟩ : ∃ b, a = b + 1 := ⟨a - 1, by omega⟩
  rw [o_m1, Nat.add_sub_cancel]
theorem pl1_ {N K p : Nat} {th0 th p0 p1 sz0 d0 d1 d2 d3 c0 c4 c5 : Int32} {f0 fd0 g0 gd0 t0 u0 : Nat → Int32} (hN : NBig N) (hK : 100 ≤ K) (h1 : 1 ≤ p) (hp : p ≤ 20) (hp0 : Rg p0 0 2)
    {kx : Int32 → Int32 → Int32 → Int32 → Int32 → (Nat → Int32) → Int32 → Int32 → Int32 → Int32 → Option ((Int32 × Int32 × (Nat → Int32) × Int32 × Int32 × Int32 × Int32) ⊕ String)} {ky : Int32 → Int32 → Int32 → Int32 → Int32 → (Nat → Int32) → (Nat → Int32) → (Nat → Int32) → Option (Int32 × Int32 × (Nat → Int32) × (Nat → Int32) × (Nat → Int32))} :
    ∀ l r fx fy b (a sz c1 c2 c3 : Int32) (f g t u : Nat → Int32), r + p * l ≤ 20 → b ≤ 20 → l < fx → l < fy → MT sz f g → ∃ b' a' sz' f' c1' c2' c3' g' t' u', fX5_place_46 N K sz0 f0 fd0 d0 d1 d2 d3 c4 c5 p0 p1 kx fx (Int32.ofNat (r + p * l)) (Int32.ofNat b) a (Int32.ofNat p) (Int32.ofNat l) sz f c0 c1 c2 c3 = kx (Int32.ofNat r) (Int32.ofNat b') a' (Int32.ofNat (p - 1)) sz' f' c0 c1' c2' c3' ∧ fX7_place_69 N K th0 g0 gd0 t0 u0 p0 p1 ky fy (Int32.ofNat (r + p * l)) (Int32.ofNat b) a (Int32.ofNat p) (Int32.ofNat l) th g t u = ky (Int32.ofNat r) (Int32.ofNat b') a' (Int32.ofNat (p - 1)) th g' t' u' ∧ b' ≤ 20 ∧ MT sz' f' g' ∧ TT c1 c2 c3 c1' c2' c3' t t' := by
  intro l
  induction l with
  | zero =>
    intro r fx fy b a sz c1 c2 c3 f g t u hr hb hx hy h
    obtain ⟨fx, rfl⟩ : ∃ m, fx = m + 1 := ⟨fx - 1, by omega⟩
    obtain ⟨fy, rfl⟩ : ∃ m, fy = m + 1 := ⟨fy - 1, by omega⟩
    refine ⟨b, a, sz, f, c1, c2, c3, g, t, u, ?_, ?_, hb, h, TT.r⟩
    · unfold fX5_place_46
      rw [if_pos (by decide), o_dec h1]
      rfl
    · unfold fX7_place_69
      rw [if_pos (by decide), o_dec h1]
      rfl
  | succ l ih =>
    intro r fx fy b a sz c1 c2 c3 f g t u hr hb hx hy h
    obtain ⟨fx, rfl⟩ : ∃ m, fx = m + 1 := ⟨fx - 1, by omega⟩
    obtain ⟨fy, rfl⟩ : ∃ m, fy = m + 1 := ⟨fy - 1, by omega⟩
    have hm : p * (l + 1) = p * l + p := Nat.mul_succ p l
    have hl : l ≤ p * l := Nat.le_mul_of_pos_left _ (by omega)
    obtain ⟨v, sz1, f1, x1, x2, x3, g1, t1, u1, e1, e2, e3, e4⟩ := mt_know (N := N) (K := K) (th := th) (k := 0) (n := r + p * (l + 1)) (m := b) (c0 := c0) (c1 := c1) (c2 := c2) (c3 := c3) (c4 := c4) (c5 := c5) (t := t) (u := u) hN hK (by omega) hr hb hp0 h
    obtain ⟨v2, sz2, f2, y1, y2, y3, g2, t2, u2, i1, i2, i3, i4⟩ := mt_know (N := N) (K := K) (th := th) (k := 0) (n := r + p * (l + 1)) (m := p) (c0 := c0) (c1 := x1) (c2 := x2) (c3 := x3) (c4 := c4) (c5 := c5) (t := t1) (u := u1) hN hK (by omega) hr hp hp0 e3
    have e1' : fX2_recall N K sz f c0 c1 c2 c3 c4 c5 (0 : Int32) (Int32.ofNat (r + p * (l + 1))) (Int32.ofNat b) = some (v, sz1, f1, x1, x2, x3) := e1
    have e2' : fX7_known N K th g t u p0 (0 : Int32) (Int32.ofNat (r + p * (l + 1))) (Int32.ofNat b) = some (v, g1, t1, u1) := e2
    have i1' : fX2_recall N K sz1 f1 c0 x1 x2 x3 c4 c5 (0 : Int32) (Int32.ofNat (r + p * (l + 1))) (Int32.ofNat p) = some (v2, sz2, f2, y1, y2, y3) := i1
    have i2' : fX7_known N K th g1 t1 u1 p0 (0 : Int32) (Int32.ofNat (r + p * (l + 1))) (Int32.ofNat p) = some (v2, g2, t2, u2) := i2
    have hs : Int32.ofNat (r + p * (l + 1)) - Int32.ofNat p = Int32.ofNat (r + p * l) := by rw [o_sub (by omega), show r + p * (l + 1) - p = r + p * l from by omega]
    obtain ⟨b', a', sz', f', c1', c2', c3', g', t', u', r1, r2, r3, r4, r5⟩ := ih r fx fy p (a + v - v2) sz2 y1 y2 y3 f2 g2 t2 u2 (by omega) hp (by omega) (by omega) i3
    refine ⟨b', a', sz', f', c1', c2', c3', g', t', u', ?_, ?_, r3, r4, (e4.trans i4).trans r5⟩
    · unfold fX5_place_46
      rw [if_neg (o_0lt (by omega) (by omega)), e1', Option.bind_some, i1', Option.bind_some, hs, o_m1]
      exact r1
    · unfold fX7_place_69
      rw [if_neg (o_0lt (by omega) (by omega)), e2', Option.bind_some, i2', Option.bind_some, hs, o_m1]
      exact r2
theorem pl_ {N K : Nat} {th0 th p0 p1 sz0 d0 d1 d2 d3 c0 c4 c5 : Int32} {f0 fd g0 gd t0 u0 : Nat → Int32} {w : Nat → Nat} (hN : NBig N) (hK : 100 ≤ K) (hp0 : Rg p0 0 2) (hp1 : Rg p1 0 1) (hf : Dk fd w) (hg : Dk gd w) :
    ∀ j fx fy b (a sz c1 c2 c3 : Int32) (f g t u : Nat → Int32), j ≤ 20 → b ≤ 20 → j < fx → j < fy → MT sz f g → ∃ v sz' f' c1' c2' c3' g' t' u', fX5_place_31 N K sz0 f0 fd d0 d1 d2 d3 c4 c5 p0 p1 fx (Int32.ofNat (sm (fun q => q * w q) j)) (Int32.ofNat b) a (Int32.ofNat j) sz f c0 c1 c2 c3 = some (.inl (v, sz', f', c0 + (1 : Int32), c1', c2', c3')) ∧ fX7_place_53 N K th0 g0 gd t0 u0 p0 p1 fy (Int32.ofNat (sm (fun q => q * w q) j)) (Int32.ofNat b) a (Int32.ofNat j) th g t u = some (v, th, g', t', u') ∧ MT sz' f' g' ∧ KT c0 c1 c2 c3 c4 t (c0 + (1 : Int32)) c1' c2' c3' c4 t' := by
  have hN9 := hN.u
  intro j
  induction j with
  | zero =>
    intro fx fy b a sz c1 c2 c3 f g t u hj hb hx hy h
    obtain ⟨fx, rfl⟩ : ∃ m, fx = m + 1 := ⟨fx - 1, by omega⟩
    obtain ⟨fy, rfl⟩ : ∃ m, fy = m + 1 := ⟨fy - 1, by omega⟩
    refine ⟨a, sz, f, c1, c2, c3, g, dn t, u, ?_, ?_, h, KT.done⟩
    · unfold fX5_place_31
      rw [if_pos (by decide), k_act, Option.bind_some]
    · unfold fX7_place_53
      rw [if_pos (by decide), m_done, Option.bind_some]
  | succ j ih =>
    intro fx fy b a sz c1 c2 c3 f g t u hj hb hx hy h
    obtain ⟨fx, rfl⟩ : ∃ m, fx = m + 1 := ⟨fx - 1, by omega⟩
    obtain ⟨fy, rfl⟩ : ∃ m, fy = m + 1 := ⟨fy - 1, by omega⟩
    have es : sm (fun q => q * w q) (j + 1) = sm (fun q => q * w q) j + (j + 1) * w (j + 1) := rfl
    have hle : sm (fun q => q * w q) (j + 1) ≤ wn w := sm_mono (by omega)
    have hwn := hf.1
    have hw1 := wn_le1 (w := w) (p := j + 1) (by omega) (by omega)
    rw [es] at hle ⊢
    obtain ⟨b', a', sz1, f1, x1, x2, x3, g1, t1, u1, e1, e2, e3, e4, e5⟩ := pl1_ (N := N) (K := K) (p := j + 1) (th0 := th0) (th := th) (p0 := p0) (p1 := p1) (sz0 := sz0) (d0 := d0) (d1 := d1) (d2 := d2) (d3 := d3) (c0 := c0) (c4 := c4) (c5 := c5) (f0 := f0) (fd0 := fd) (g0 := g0) (gd0 := gd) (t0 := t0) (u0 := u0) hN hK (by omega) hj hp0 (kx := fX5_place_31 N K sz0 f0 fd d0 d1 d2 d3 c4 c5 p0 p1 fx) (ky := fX7_place_53 N K th0 g0 gd t0 u0 p0 p1 fy) (w (j + 1)) (sm (fun q => q * w q) j) N N b a sz c1 c2 c3 f g t u (by omega) hb (by omega) (by omega) h
    obtain ⟨v, sz', f', c1', c2', c3', g', t', u', r1, r2, r3, r4⟩ := ih fx fy b' a' sz1 x1 x2 x3 f1 g1 t1 u1 (by omega) e3 (by omega) (by omega) e4
    refine ⟨v, sz', f', c1', c2', c3', g', t', u', ?_, ?_, r3, (KT.tt e5).trans r4⟩
    · unfold fX5_place_31
      rw [if_neg (o_1le (by omega) (by omega)), c_times hf.2 (by omega) hj, Option.bind_some]
      exact e1.trans r1
    · unfold fX7_place_53
      rw [if_neg (o_0lt (by omega) (by omega)), if_neg hp1.dd, if_neg (o_ob (by omega) (by omega)), o_c (by omega), hg.2 (j + 1) (by omega) hj]
      exact e2.trans r2
theorem ty_know {N K : Nat} {th sz c0 c1 c2 c3 c4 c5 p0 p1 p2 p3 : Int32} {f g t u : Nat → Int32} (hN : NBig N) (hK : 100 ≤ K) (h : MT sz f g) : ∃ o y, fX5_know N K sz f c0 c1 c2 c3 c4 c5 p0 p1 p2 p3 = some o ∧ fX7_know N K th g t u p0 p1 p2 p3 = some y ∧ Ti true o y.2.1 (fun z => z.1 = y.1 ∧ MT z.2.1 z.2.2.1 y.2.2.1 ∧ KT c0 c1 c2 c3 c4 t z.2.2.2.1 z.2.2.2.2.1 z.2.2.2.2.2.1 z.2.2.2.2.2.2 c4 y.2.2.2.1) (y.2.2.1 = g ∧ y.2.2.2.1 = t) := by
  have hN9 := hN.u
  have hN1 : 100 ≤ N := by omega
  by_cases d : Rg p0 0 2
  · by_cases q : (Rg p1 0 5 ∧ Rg p2 0 20 ∧ Rg p3 0 20)
    · obtain ⟨k, rfl, -, k2⟩ := Rg.n (a := 0) (b := 5) q.1 (by omega) (by omega)
      obtain ⟨n, rfl, -, n2⟩ := Rg.n (a := 0) (b := 20) q.2.1 (by omega) (by omega)
      obtain ⟨m, rfl, -, m2⟩ := Rg.n (a := 0) (b := 20) q.2.2 (by omega) (by omega)
      have hk : k < 6 := by omega
      have hsl := sl_lt hk n2 m2
      have hcd := cd_lt hk n2 m2
      have hgf := h.2.2.1 k n m hk n2 m2
      have hcell := h.cell hk n2 m2
      obtain ⟨v, sz', f', c1', c2', c3', g', t', u', e1, e2, e3, e4⟩ := mt_know (N := N) (K := K) (th := (0 : Int32)) (c0 := c0) (c1 := c1) (c2 := c2) (c3 := c3) (c4 := c4) (c5 := c5) (t := t) (u := u) hN hK hk n2 m2 d h
      refine ⟨.inl (v, sz', f', c0 + (1 : Int32), c1', c2', c3'), (v, 0, g', dn t', u'), ?_, ?_, rfl, rfl, e3, (KT.tt e4).trans KT.done⟩
      · unfold fX5_know
        rw [k_mem1 d, xb_l, k_case1 q, xb_l]
        rw [e1, Option.bind_some, k_act, Option.bind_some]
      · unfold fX7_know
        rw [m_in d, Option.bind_some, m_oc1 q, Option.bind_some]
        rw [m_th00, Option.bind_some, if_pos rfl]
        rw [e2, Option.bind_some, m_done, Option.bind_some]
    · refine ⟨(.inr "java/lang/IllegalArgumentException"), ((0 : Int32), 2, g, t, u), ?_, ?_, Or.inr ⟨rfl, rfl, rfl⟩, ⟨rfl, rfl⟩⟩
      · unfold fX5_know
        rw [k_mem1 d, xb_l, k_case0 q, xb_r]
      · unfold fX7_know
        rw [m_in d, Option.bind_some, m_oc0 q, Option.bind_some]
        rw [m_th01, Option.bind_some, if_neg (by decide)]
  · by_cases q : (Rg p1 0 5 ∧ Rg p2 0 20 ∧ Rg p3 0 20)
    · refine ⟨(.inr "java/lang/IndexOutOfBoundsException"), ((0 : Int32), 1, g, t, u), ?_, ?_, Or.inl ⟨rfl, rfl⟩, ⟨rfl, rfl⟩⟩
      · unfold fX5_know
        rw [k_mem0 d, xb_r]
      · unfold fX7_know
        rw [m_out d, Option.bind_some, m_oc1 q, Option.bind_some]
        rw [m_th1, Option.bind_some, if_neg (by decide)]
    · refine ⟨(.inr "java/lang/IndexOutOfBoundsException"), ((0 : Int32), 1, g, t, u), ?_, ?_, Or.inl ⟨rfl, rfl⟩, ⟨rfl, rfl⟩⟩
      · unfold fX5_know
        rw [k_mem0 d, xb_r]
      · unfold fX7_know
        rw [m_out d, Option.bind_some, m_oc0 q, Option.bind_some]
        rw [m_th1, Option.bind_some, if_neg (by decide)]
theorem ty_few {N K : Nat} {th sz c0 c1 c2 c3 c4 c5 p0 p1 p2 : Int32} {f g t u : Nat → Int32} (hN : NBig N) (hK : 100 ≤ K) (h : MT sz f g) : ∃ o y, fX5_few N K sz f c0 c1 c2 c3 c4 c5 p0 p1 p2 = some o ∧ fX7_few N K th g t u p0 p1 p2 = some y ∧ Ti true o y.2.1 (fun z => z.1 = y.1 ∧ MT z.2.1 z.2.2.1 y.2.2.1 ∧ KT c0 c1 c2 c3 c4 t z.2.2.2.1 z.2.2.2.2.1 z.2.2.2.2.2.1 z.2.2.2.2.2.2 c4 y.2.2.2.1) (y.2.2.1 = g ∧ y.2.2.2.1 = t) := by
  have hN9 := hN.u
  have hN1 : 100 ≤ N := by omega
  by_cases d : Rg p0 0 2
  · by_cases q : Rg p1 0 20
    · by_cases r : Rg p2 0 20
      · obtain ⟨a, rfl, -, a2⟩ := Rg.n (a := 0) (b := 20) q (by omega) (by omega)
        obtain ⟨b, rfl, -, b2⟩ := Rg.n (a := 0) (b := 20) r (by omega) (by omega)
        obtain ⟨v, sz', f', c1', c2', c3', g', t', u', e1, e2, e3, e4⟩ := few_ (N := N) (K := K) (th0 := th) (th := (0 : Int32)) (sz0 := sz) (d0 := c0) (d1 := c1) (d2 := c2) (d3 := c3) (c0 := c0) (c4 := c4) (c5 := c5) (f0 := f) (g0 := g) (t0 := t) (u0 := u) hN hK a2 b2 d (b + 1) 0 N N 0 sz c1 c2 c3 f g t u (by omega) (by omega) (by omega) h
        refine ⟨.inl (v, sz', f', c0 + (1 : Int32), c1', c2', c3'), (v, 0, g', t', u'), ?_, ?_, rfl, rfl, e3, e4⟩
        · unfold fX5_few
          rw [k_mem1 d, xb_l, k_rng1 q, xb_l, k_rng1 r, xb_l]
          exact e1
        · unfold fX7_few
          rw [m_in d, Option.bind_some, m_in q, Option.bind_some, if_pos rfl, m_in r, Option.bind_some, if_pos rfl]
          unfold fX7_few_32
          rw [m_th00, Option.bind_some, if_pos rfl]
          exact e2
      · refine ⟨(.inr "java/lang/IllegalArgumentException"), ((0 : Int32), 2, g, t, u), ?_, ?_, Or.inr ⟨rfl, rfl, rfl⟩, ⟨rfl, rfl⟩⟩
        · unfold fX5_few
          rw [k_mem1 d, xb_l, k_rng1 q, xb_l, k_rng0 r, xb_r]
        · unfold fX7_few
          rw [m_in d, Option.bind_some, m_in q, Option.bind_some, if_pos rfl, m_out r, Option.bind_some, if_neg (by decide)]
          unfold fX7_few_27 fX7_few_32
          rw [m_th01, Option.bind_some, if_neg (by decide)]
    · by_cases r : Rg p2 0 20
      · refine ⟨(.inr "java/lang/IllegalArgumentException"), ((0 : Int32), 2, g, t, u), ?_, ?_, Or.inr ⟨rfl, rfl, rfl⟩, ⟨rfl, rfl⟩⟩
        · unfold fX5_few
          rw [k_mem1 d, xb_l, k_rng0 q, xb_r]
        · unfold fX7_few
          rw [m_in d, Option.bind_some, m_out q, Option.bind_some, if_neg (by decide)]
          unfold fX7_few_27 fX7_few_32
          rw [m_th01, Option.bind_some, if_neg (by decide)]
      · refine ⟨(.inr "java/lang/IllegalArgumentException"), ((0 : Int32), 2, g, t, u), ?_, ?_, Or.inr ⟨rfl, rfl, rfl⟩, ⟨rfl, rfl⟩⟩
        · unfold fX5_few
          rw [k_mem1 d, xb_l, k_rng0 q, xb_r]
        · unfold fX7_few
          rw [m_in d, Option.bind_some, m_out q, Option.bind_some, if_neg (by decide)]
          unfold fX7_few_27 fX7_few_32
          rw [m_th01, Option.bind_some, if_neg (by decide)]
  · by_cases q : Rg p1 0 20
    · by_cases r : Rg p2 0 20
      · refine ⟨(.inr "java/lang/IndexOutOfBoundsException"), ((0 : Int32), 1, g, t, u), ?_, ?_, Or.inl ⟨rfl, rfl⟩, ⟨rfl, rfl⟩⟩
        · unfold fX5_few
          rw [k_mem0 d, xb_r]
        · unfold fX7_few
          rw [m_out d, Option.bind_some, m_in q, Option.bind_some, if_pos rfl, m_in r, Option.bind_some, if_pos rfl]
          unfold fX7_few_32
          rw [m_th1, Option.bind_some, if_neg (by decide)]
      · refine ⟨(.inr "java/lang/IndexOutOfBoundsException"), ((0 : Int32), 1, g, t, u), ?_, ?_, Or.inl ⟨rfl, rfl⟩, ⟨rfl, rfl⟩⟩
        · unfold fX5_few
          rw [k_mem0 d, xb_r]
        · unfold fX7_few
          rw [m_out d, Option.bind_some, m_in q, Option.bind_some, if_pos rfl, m_out r, Option.bind_some, if_neg (by decide)]
          unfold fX7_few_27 fX7_few_32
          rw [m_th1, Option.bind_some, if_neg (by decide)]
    · by_cases r : Rg p2 0 20
      · refine ⟨(.inr "java/lang/IndexOutOfBoundsException"), ((0 : Int32), 1, g, t, u), ?_, ?_, Or.inl ⟨rfl, rfl⟩, ⟨rfl, rfl⟩⟩
        · unfold fX5_few
          rw [k_mem0 d, xb_r]
        · unfold fX7_few
          rw [m_out d, Option.bind_some, m_out q, Option.bind_some, if_neg (by decide)]
          unfold fX7_few_27 fX7_few_32
          rw [m_th1, Option.bind_some, if_neg (by decide)]
      · refine ⟨(.inr "java/lang/IndexOutOfBoundsException"), ((0 : Int32), 1, g, t, u), ?_, ?_, Or.inl ⟨rfl, rfl⟩, ⟨rfl, rfl⟩⟩
        · unfold fX5_few
          rw [k_mem0 d, xb_r]
        · unfold fX7_few
          rw [m_out d, Option.bind_some, m_out q, Option.bind_some, if_neg (by decide)]
          unfold fX7_few_27 fX7_few_32
          rw [m_th1, Option.bind_some, if_neg (by decide)]
theorem ty_surplus {N K : Nat} {th sz c0 c1 c2 c3 c4 c5 p0 p1 : Int32} {f g t u : Nat → Int32} (hN : NBig N) (hK : 100 ≤ K) (h : MT sz f g) : ∃ o y, fX5_surplus N K sz f c0 c1 c2 c3 c4 c5 p0 p1 = some o ∧ fX7_surplus N K th g t u p0 p1 = some y ∧ Ti true o y.2.1 (fun z => z.1 = y.1 ∧ MT z.2.1 z.2.2.1 y.2.2.1 ∧ KT c0 c1 c2 c3 c4 t z.2.2.2.1 z.2.2.2.2.1 z.2.2.2.2.2.1 z.2.2.2.2.2.2 c4 y.2.2.2.1) (y.2.2.1 = g ∧ y.2.2.2.1 = t) := by
  have hN9 := hN.u
  have hN1 : 100 ≤ N := by omega
  by_cases d : Rg p0 0 2
  · by_cases q : Rg p1 0 20
    · obtain ⟨a, rfl, -, a2⟩ := Rg.n (a := 0) (b := 20) q (by omega) (by omega)
      obtain ⟨v, sz', f', c1', c2', c3', g', t', u', e1, e2, e3, e4⟩ := sur_ (N := N) (K := K) (th0 := th) (th := (0 : Int32)) (sz0 := sz) (d0 := c0) (d1 := c1) (d2 := c2) (d3 := c3) (c0 := c0) (c4 := c4) (c5 := c5) (f0 := f) (g0 := g) (t0 := t) (u0 := u) hN hK a2 d (a + 1) 0 N N 0 sz c1 c2 c3 f g t u (by omega) (by omega) (by omega) h
      refine ⟨.inl (v, sz', f', c0 + (1 : Int32), c1', c2', c3'), (v, 0, g', t', u'), ?_, ?_, rfl, rfl, e3, e4⟩
      · unfold fX5_surplus
        rw [k_mem1 d, xb_l, k_rng1 q, xb_l]
        exact e1
      · unfold fX7_surplus
        rw [m_in d, Option.bind_some, m_in q, Option.bind_some]
        rw [m_th00, Option.bind_some, if_pos rfl]
        exact e2
    · refine ⟨(.inr "java/lang/IllegalArgumentException"), ((0 : Int32), 2, g, t, u), ?_, ?_, Or.inr ⟨rfl, rfl, rfl⟩, ⟨rfl, rfl⟩⟩
      · unfold fX5_surplus
        rw [k_mem1 d, xb_l, k_rng0 q, xb_r]
      · unfold fX7_surplus
        rw [m_in d, Option.bind_some, m_out q, Option.bind_some]
        rw [m_th01, Option.bind_some, if_neg (by decide)]
  · by_cases q : Rg p1 0 20
    · refine ⟨(.inr "java/lang/IndexOutOfBoundsException"), ((0 : Int32), 1, g, t, u), ?_, ?_, Or.inl ⟨rfl, rfl⟩, ⟨rfl, rfl⟩⟩
      · unfold fX5_surplus
        rw [k_mem0 d, xb_r]
      · unfold fX7_surplus
        rw [m_out d, Option.bind_some, m_in q, Option.bind_some]
        rw [m_th1, Option.bind_some, if_neg (by decide)]
    · refine ⟨(.inr "java/lang/IndexOutOfBoundsException"), ((0 : Int32), 1, g, t, u), ?_, ?_, Or.inl ⟨rfl, rfl⟩, ⟨rfl, rfl⟩⟩
      · unfold fX5_surplus
        rw [k_mem0 d, xb_r]
      · unfold fX7_surplus
        rw [m_out d, Option.bind_some, m_out q, Option.bind_some]
        rw [m_th1, Option.bind_some, if_neg (by decide)]
theorem ty_place {N K : Nat} {th sz c0 c1 c2 c3 c4 c5 p0 p1 : Int32} {f g t u fd gd : Nat → Int32} (hN : NBig N) (hK : 100 ≤ K) (h : MT sz f g) (hd : DD fd gd) : ∃ o y, fX5_place N K sz f fd c0 c1 c2 c3 c4 c5 p0 p1 = some o ∧ fX7_place N K th g gd t u p0 p1 = some y ∧ Ti false o y.2.1 (fun z => z.1 = y.1 ∧ MT z.2.1 z.2.2.1 y.2.2.1 ∧ KT c0 c1 c2 c3 c4 t z.2.2.2.1 z.2.2.2.2.1 z.2.2.2.2.2.1 z.2.2.2.2.2.2 c4 y.2.2.2.1) (y.2.2.1 = g ∧ y.2.2.2.1 = t) := by
  have hN9 := hN.u
  have hN1 : 100 ≤ N := by omega
  by_cases d : Rg p0 0 2
  · by_cases q : Rg p1 0 1
    · obtain ⟨w, hf, hg⟩ := hd
      have hwn := hf.1
      obtain ⟨v, sz', f', c1', c2', c3', g', t', u', e1, e2, e3, e4⟩ := pl_ (N := N) (K := K) (th0 := th) (th := (0 : Int32)) (sz0 := sz) (d0 := c0) (d1 := c1) (d2 := c2) (d3 := c3) (c0 := c0) (c4 := c4) (c5 := c5) (f0 := f) (g0 := g) (t0 := t) (u0 := u) hN hK d q hf hg 20 N N (wn w) 0 sz c1 c2 c3 f g t u (by omega) hwn (by omega) (by omega) h
      refine ⟨.inl (v, sz', f', c0 + (1 : Int32), c1', c2', c3'), (v, 0, g', t', u'), ?_, ?_, rfl, rfl, e3, e4⟩
      · unfold fX5_place
        rw [k_mem1 d, xb_l, k_desk1 q, xb_l]
        rw [c_sum hN1 hf.2, Option.bind_some]
        exact e1
      · unfold fX7_place
        rw [m_in d, Option.bind_some, if_pos rfl, m_in q, Option.bind_some, if_pos rfl]
        unfold fX7_place_24
        rw [m_th00, Option.bind_some, if_pos rfl]
        rw [if_neg q.dd, m_sum hN1 hg.2, Option.bind_some]
        exact e2
    · refine ⟨(.inr "java/lang/IndexOutOfBoundsException"), ((0 : Int32), 1, g, t, u), ?_, ?_, Or.inl ⟨rfl, rfl⟩, ⟨rfl, rfl⟩⟩
      · unfold fX5_place
        rw [k_mem1 d, xb_l, k_desk0 q, xb_r]
      · unfold fX7_place
        rw [m_in d, Option.bind_some, if_pos rfl, m_out q, Option.bind_some, if_neg (by decide)]
        unfold fX7_place_19 fX7_place_24
        rw [m_th1, Option.bind_some, if_neg (by decide)]
  · by_cases q : Rg p1 0 1
    · refine ⟨(.inr "java/lang/IndexOutOfBoundsException"), ((0 : Int32), 1, g, t, u), ?_, ?_, Or.inl ⟨rfl, rfl⟩, ⟨rfl, rfl⟩⟩
      · unfold fX5_place
        rw [k_mem0 d, xb_r]
      · unfold fX7_place
        rw [m_out d, Option.bind_some, if_neg (by decide)]
        unfold fX7_place_19 fX7_place_24
        rw [m_th1, Option.bind_some, if_neg (by decide)]
    · refine ⟨(.inr "java/lang/IndexOutOfBoundsException"), ((0 : Int32), 1, g, t, u), ?_, ?_, Or.inl ⟨rfl, rfl⟩, ⟨rfl, rfl⟩⟩
      · unfold fX5_place
        rw [k_mem0 d, xb_r]
      · unfold fX7_place
        rw [m_out d, Option.bind_some, if_neg (by decide)]
        unfold fX7_place_19 fX7_place_24
        rw [m_th1, Option.bind_some, if_neg (by decide)]
theorem ty_learn {N K : Nat} {th sz c0 c1 c2 c3 c4 c5 p0 p1 p2 p3 : Int32} {f g t gs : Nat → Int32} (hN : NBig N) (hK : 100 ≤ K) (h : MT sz f g) : ∃ o y, fX5_learn N K sz f c0 c1 c2 c3 c4 c5 gs p0 p1 p2 p3 = some o ∧ fX7_learn N K th g t p0 p1 p2 p3 = some y ∧ Ti true o y.2.1 (fun z => z.1 = y.1 ∧ MT z.2.1 z.2.2.1 y.2.2.1 ∧ KT c0 c1 c2 c3 c4 t z.2.2.2.1 c1 c2 c3 z.2.2.2.2.1 y.2.2.2) (y.2.2.1 = g ∧ y.2.2.2 = t) := by
  have hN9 := hN.u
  have hN1 : 100 ≤ N := by omega
  by_cases d : Rg p0 0 2
  · by_cases q : (Rg p1 0 5 ∧ Rg p2 0 20 ∧ Rg p3 0 20)
    · obtain ⟨k, rfl, -, k2⟩ := Rg.n (a := 0) (b := 5) q.1 (by omega) (by omega)
      obtain ⟨n, rfl, -, n2⟩ := Rg.n (a := 0) (b := 20) q.2.1 (by omega) (by omega)
      obtain ⟨m, rfl, -, m2⟩ := Rg.n (a := 0) (b := 20) q.2.2 (by omega) (by omega)
      have hk : k < 6 := by omega
      have hsl := sl_lt hk n2 m2
      have hcd := cd_lt hk n2 m2
      have hgf := h.2.2.1 k n m hk n2 m2
      have hcell := h.cell hk n2 m2
      have en : (Int32.ofNat n).toInt = (n : Int) := o_i (by omega)
      by_cases r : rs (n : Int) m = true
      · refine ⟨.inl ((-9 : Int32), sz, f, c0, c4 + (1 : Int32), gs), ((-9 : Int32), 0, g, rf t), ?_, ?_, rfl, rfl, h, KT.refu⟩
        · unfold fX5_learn
          rw [k_mem1 d, xb_l, k_case1 q, xb_l]
          rw [c_rests m2, Option.bind_some, en, r, if_neg bitn, k_und, Option.bind_some]
        · unfold fX7_learn
          rw [m_in d, Option.bind_some, m_oc1 q, Option.bind_some]
          rw [m_th00, Option.bind_some, if_pos rfl]
          rw [m_rests m2, Option.bind_some, en, r, if_neg bitn, m_ref, Option.bind_some]
      · have rF : rs (n : Int) m = false := Bool.eq_false_iff.mpr r
        obtain ⟨r1, r2⟩ := rs_f r
        have hw := m_worth (N := N) (K := K) (th := (0 : Int32)) (g := g) (p := Int32.ofNat n) hk d m2 (by omega)
        rw [en, if_neg r, show ((n : Nat) : Int).toNat = n from by omega] at hw
        by_cases e : 0 ≤ (f (sl k n m)).toInt
        · have e0 := m1_n e
          refine ⟨.inl ((0 : Int32), sz, f, c0 + (1 : Int32), c4, gs), ((0 : Int32), 0, g, dn t), ?_, ?_, rfl, rfl, h, KT.done⟩
          · unfold fX5_learn
            rw [k_mem1 d, xb_l, k_case1 q, xb_l]
            rw [c_rests m2, Option.bind_some, en, rF, if_pos bif0, c_keeps hk n2 m2, Option.bind_some, if_neg e0, if_neg (show ¬ ((1 : Int32) = 0) from by decide), k_act, Option.bind_some]
          · unfold fX7_learn
            rw [m_in d, Option.bind_some, m_oc1 q, Option.bind_some]
            rw [m_th00, Option.bind_some, if_pos rfl]
            rw [m_rests m2, Option.bind_some, en, rF, if_pos bif0, hw, Option.bind_some, hgf, if_pos (by rw [ge0]; exact e)]
            unfold fX7_learn_53 fX7_learn_81
            rw [if_pos rfl, m_b0, Option.bind_some, m_done, Option.bind_some]
        · have e0 : f (sl k n m) = -1 := by rcases hcell with z | z; exact z; exact absurd z.2.2.1 e
          obtain ⟨gs', e1⟩ := c_tells (N := N) (K := K) hN1 (g := gs) (show k ≤ 7 by omega) n2 m2
          have e2 := m_series (N := N) (K := K) hN1 (show k ≤ 7 by omega) n2 m2
          have bd := sworth_bd hk (show 1 ≤ n by omega) n2 r2 m2
          refine ⟨.inl ((1 : Int32), sz + (1 : Int32), upd f (sl k n m) (sworth k n m), c0 + (1 : Int32), c4, gs'), ((1 : Int32), 0, upd g (cd k n m) (sworth k n m), dn t), ?_, ?_, rfl, rfl, h.put hk n2 m2 (Or.inr ⟨by omega, r2, bd⟩) (by rw [cnt_put hsl e0 (m1_n bd.1), h.1, o_1]), KT.done⟩
          · unfold fX5_learn
            rw [k_mem1 d, xb_l, k_case1 q, xb_l]
            rw [c_rests m2, Option.bind_some, en, rF, if_pos bif0, c_keeps hk n2 m2, Option.bind_some, if_pos e0, if_pos rfl, e1, Option.bind_some, c_keep hk n2 m2, Option.bind_some, if_pos e0, k_act, Option.bind_some]
          · unfold fX7_learn
            rw [m_in d, Option.bind_some, m_oc1 q, Option.bind_some]
            rw [m_th00, Option.bind_some, if_pos rfl]
            rw [m_rests m2, Option.bind_some, en, rF, if_pos bif0, hw, Option.bind_some, hgf, if_neg (by rw [ge0]; exact e)]
            unfold fX7_learn_53 fX7_learn_81
            rw [if_neg (by decide), if_neg d.mm, m_code, Option.bind_some, e2, Option.bind_some, if_neg (o_ob hcd (by omega)), o_c (by omega), m_b1, Option.bind_some, m_done, Option.bind_some]
    · refine ⟨(.inr "java/lang/IllegalArgumentException"), ((0 : Int32), 2, g, t), ?_, ?_, Or.inr ⟨rfl, rfl, rfl⟩, ⟨rfl, rfl⟩⟩
      · unfold fX5_learn
        rw [k_mem1 d, xb_l, k_case0 q, xb_r]
      · unfold fX7_learn
        rw [m_in d, Option.bind_some, m_oc0 q, Option.bind_some]
        rw [m_th01, Option.bind_some, if_neg (by decide)]
  · by_cases q : (Rg p1 0 5 ∧ Rg p2 0 20 ∧ Rg p3 0 20)
    · refine ⟨(.inr "java/lang/IndexOutOfBoundsException"), ((0 : Int32), 1, g, t), ?_, ?_, Or.inl ⟨rfl, rfl⟩, ⟨rfl, rfl⟩⟩
      · unfold fX5_learn
        rw [k_mem0 d, xb_r]
      · unfold fX7_learn
        rw [m_out d, Option.bind_some, m_oc1 q, Option.bind_some]
        rw [m_th1, Option.bind_some, if_neg (by decide)]
    · refine ⟨(.inr "java/lang/IndexOutOfBoundsException"), ((0 : Int32), 1, g, t), ?_, ?_, Or.inl ⟨rfl, rfl⟩, ⟨rfl, rfl⟩⟩
      · unfold fX5_learn
        rw [k_mem0 d, xb_r]
      · unfold fX7_learn
        rw [m_out d, Option.bind_some, m_oc0 q, Option.bind_some]
        rw [m_th1, Option.bind_some, if_neg (by decide)]
theorem ty_relearn {N K : Nat} {th sz c0 c1 c2 c3 c4 c5 p0 p1 p2 p3 : Int32} {f g t fw fs : Nat → Int32} (hN : NBig N) (hK : 100 ≤ K) (h : MT sz f g) : ∃ o y, fX5_relearn N K sz f c0 c1 c2 c3 c4 c5 fw fs p0 p1 p2 p3 = some o ∧ fX7_relearn N K th g t p0 p1 p2 p3 = some y ∧ Ti true o y.2.1 (fun z => z.1 = y.1 ∧ MT z.2.1 z.2.2.1 y.2.2.1 ∧ KT c0 c1 c2 c3 c4 t z.2.2.2.1 c1 c2 c3 z.2.2.2.2.1 y.2.2.2) (y.2.2.1 = g ∧ y.2.2.2 = t) := by
  have hN9 := hN.u
  have hN1 : 100 ≤ N := by omega
  by_cases d : Rg p0 0 2
  · by_cases q : (Rg p1 0 5 ∧ Rg p2 0 20 ∧ Rg p3 0 20)
    · obtain ⟨k, rfl, -, k2⟩ := Rg.n (a := 0) (b := 5) q.1 (by omega) (by omega)
      obtain ⟨n, rfl, -, n2⟩ := Rg.n (a := 0) (b := 20) q.2.1 (by omega) (by omega)
      obtain ⟨m, rfl, -, m2⟩ := Rg.n (a := 0) (b := 20) q.2.2 (by omega) (by omega)
      have hk : k < 6 := by omega
      have hsl := sl_lt hk n2 m2
      have hcd := cd_lt hk n2 m2
      have hgf := h.2.2.1 k n m hk n2 m2
      have hcell := h.cell hk n2 m2
      by_cases e : f (sl k n m) = -1
      · refine ⟨.inl ((-9 : Int32), sz, f, c0, c4 + (1 : Int32), fw, fs), ((-9 : Int32), 0, g, rf t), ?_, ?_, rfl, rfl, h, KT.refu⟩
        · unfold fX5_relearn
          rw [k_mem1 d, xb_l, k_case1 q, xb_l]
          rw [c_keeps hk n2 m2, Option.bind_some, if_pos e, if_pos rfl, k_und, Option.bind_some]
        · unfold fX7_relearn
          rw [m_in d, Option.bind_some, m_oc1 q, Option.bind_some]
          rw [m_th00, Option.bind_some, if_pos rfl]
          rw [m_kept hk n2 m2 d, Option.bind_some, hgf, e, if_neg (by decide), m_ref, Option.bind_some]
      · have e0 : 0 ≤ (f (sl k n m)).toInt := by rcases hcell with z | z; exact absurd z e; exact z.2.2.1
        obtain ⟨v, fw', fs', e1, e2, e3, e4⟩ := walk_n (N := N) (K := K) hN (fw := fw) (fs := fs) (show k ≤ 7 by omega) n2 m2
        have tk : 1 ≤ n ∧ 1 ≤ m := by rcases hcell with z | z; exact absurd z e; exact ⟨z.1, z.2.1⟩
        have tb1 := tb_ok k hk n (by omega) m (by omega) tk
        refine ⟨.inl (v, sz, upd f (sl k n m) v, c0 + (1 : Int32), c4, fw', fs'), (v, 0, upd g (cd k n m) v, dn t), ?_, ?_, rfl, rfl, h.put hk n2 m2 (Or.inr ⟨tk.1, tk.2, e3, by omega⟩) (by rw [cnt_again hsl e (m1_n e3), h.1]), KT.done⟩
        · unfold fX5_relearn
          rw [k_mem1 d, xb_l, k_case1 q, xb_l]
          rw [c_keeps hk n2 m2, Option.bind_some, if_neg e, if_neg (show ¬ ((1 : Int32) = 0) from by decide), e1, Option.bind_some, c_keep hk n2 m2, Option.bind_some, if_neg e, k_act, Option.bind_some]
        · unfold fX7_relearn
          rw [m_in d, Option.bind_some, m_oc1 q, Option.bind_some]
          rw [m_th00, Option.bind_some, if_pos rfl]
          rw [m_kept hk n2 m2 d, Option.bind_some, hgf, if_pos (by rw [ge0]; exact e0), if_neg d.mm, m_code, Option.bind_some, e2, Option.bind_some, if_neg (o_ob hcd (by omega)), o_c (by omega), m_kept hk n2 m2 d, Option.bind_some, upd_at, m_done, Option.bind_some]
    · refine ⟨(.inr "java/lang/IllegalArgumentException"), ((0 : Int32), 2, g, t), ?_, ?_, Or.inr ⟨rfl, rfl, rfl⟩, ⟨rfl, rfl⟩⟩
      · unfold fX5_relearn
        rw [k_mem1 d, xb_l, k_case0 q, xb_r]
      · unfold fX7_relearn
        rw [m_in d, Option.bind_some, m_oc0 q, Option.bind_some]
        rw [m_th01, Option.bind_some, if_neg (by decide)]
  · by_cases q : (Rg p1 0 5 ∧ Rg p2 0 20 ∧ Rg p3 0 20)
    · refine ⟨(.inr "java/lang/IndexOutOfBoundsException"), ((0 : Int32), 1, g, t), ?_, ?_, Or.inl ⟨rfl, rfl⟩, ⟨rfl, rfl⟩⟩
      · unfold fX5_relearn
        rw [k_mem0 d, xb_r]
      · unfold fX7_relearn
        rw [m_out d, Option.bind_some, m_oc1 q, Option.bind_some]
        rw [m_th1, Option.bind_some, if_neg (by decide)]
    · refine ⟨(.inr "java/lang/IndexOutOfBoundsException"), ((0 : Int32), 1, g, t), ?_, ?_, Or.inl ⟨rfl, rfl⟩, ⟨rfl, rfl⟩⟩
      · unfold fX5_relearn
        rw [k_mem0 d, xb_r]
      · unfold fX7_relearn
        rw [m_out d, Option.bind_some, m_oc0 q, Option.bind_some]
        rw [m_th1, Option.bind_some, if_neg (by decide)]
theorem ty_forget {N K : Nat} {th sz c0 c1 c2 c3 c4 c5 p0 p1 p2 p3 : Int32} {f g t : Nat → Int32} (hN : NBig N) (hK : 100 ≤ K) (h : MT sz f g) : ∃ o y, fX5_forget N K sz f c0 c1 c2 c3 c4 c5 p0 p1 p2 p3 = some o ∧ fX7_forget N K th g t p0 p1 p2 p3 = some y ∧ Ti true o y.2.1 (fun z => z.1 = y.1 ∧ MT z.2.1 z.2.2.1 y.2.2.1 ∧ KT c0 c1 c2 c3 c4 t z.2.2.2.1 c1 c2 c3 z.2.2.2.2 y.2.2.2) (y.2.2.1 = g ∧ y.2.2.2 = t) := by
  have hN9 := hN.u
  have hN1 : 100 ≤ N := by omega
  by_cases d : Rg p0 0 2
  · by_cases q : (Rg p1 0 5 ∧ Rg p2 0 20 ∧ Rg p3 0 20)
    · obtain ⟨k, rfl, -, k2⟩ := Rg.n (a := 0) (b := 5) q.1 (by omega) (by omega)
      obtain ⟨n, rfl, -, n2⟩ := Rg.n (a := 0) (b := 20) q.2.1 (by omega) (by omega)
      obtain ⟨m, rfl, -, m2⟩ := Rg.n (a := 0) (b := 20) q.2.2 (by omega) (by omega)
      have hk : k < 6 := by omega
      have hsl := sl_lt hk n2 m2
      have hcd := cd_lt hk n2 m2
      have hgf := h.2.2.1 k n m hk n2 m2
      have hcell := h.cell hk n2 m2
      by_cases e : f (sl k n m) = -1
      · refine ⟨.inl ((-9 : Int32), sz, f, c0, c4 + (1 : Int32)), ((-9 : Int32), 0, g, rf t), ?_, ?_, rfl, rfl, h, KT.refu⟩
        · unfold fX5_forget
          rw [k_mem1 d, xb_l, k_case1 q, xb_l]
          rw [c_keeps hk n2 m2, Option.bind_some, if_pos e, if_pos rfl, k_und, Option.bind_some]
        · unfold fX7_forget
          rw [m_in d, Option.bind_some, m_oc1 q, Option.bind_some]
          rw [m_th00, Option.bind_some, if_pos rfl]
          rw [m_kept hk n2 m2 d, Option.bind_some, hgf, e, if_neg (by decide), m_ref, Option.bind_some]
      · have e0 : 0 ≤ (f (sl k n m)).toInt := by rcases hcell with z | z; exact absurd z e; exact z.2.2.1
        refine ⟨.inl (f (sl k n m), sz - (1 : Int32), upd f (sl k n m) (-1 : Int32), c0 + (1 : Int32), c4), (f (sl k n m), 0, upd g (cd k n m) (-1 : Int32), dn t), ?_, ?_, rfl, rfl, h.put hk n2 m2 (Or.inl rfl) (by rw [h.1, cnt_off hsl e, o_s1]), KT.done⟩
        · unfold fX5_forget
          rw [k_mem1 d, xb_l, k_case1 q, xb_l]
          rw [c_keeps hk n2 m2, Option.bind_some, if_neg e, if_neg (show ¬ ((1 : Int32) = 0) from by decide), c_kw hk n2 m2, Option.bind_some, c_drop hk n2 m2 e, Option.bind_some, k_act, Option.bind_some]
        · unfold fX7_forget
          rw [m_in d, Option.bind_some, m_oc1 q, Option.bind_some]
          rw [m_th00, Option.bind_some, if_pos rfl]
          rw [m_kept hk n2 m2 d, Option.bind_some, hgf, if_pos (by rw [ge0]; exact e0), if_neg d.mm, m_code, Option.bind_some, if_neg (o_ob hcd (by omega)), o_c (by omega), m_done, Option.bind_some]
    · refine ⟨(.inr "java/lang/IllegalArgumentException"), ((0 : Int32), 2, g, t), ?_, ?_, Or.inr ⟨rfl, rfl, rfl⟩, ⟨rfl, rfl⟩⟩
      · unfold fX5_forget
        rw [k_mem1 d, xb_l, k_case0 q, xb_r]
      · unfold fX7_forget
        rw [m_in d, Option.bind_some, m_oc0 q, Option.bind_some]
        rw [m_th01, Option.bind_some, if_neg (by decide)]
  · by_cases q : (Rg p1 0 5 ∧ Rg p2 0 20 ∧ Rg p3 0 20)
    · refine ⟨(.inr "java/lang/IndexOutOfBoundsException"), ((0 : Int32), 1, g, t), ?_, ?_, Or.inl ⟨rfl, rfl⟩, ⟨rfl, rfl⟩⟩
      · unfold fX5_forget
        rw [k_mem0 d, xb_r]
      · unfold fX7_forget
        rw [m_out d, Option.bind_some, m_oc1 q, Option.bind_some]
        rw [m_th1, Option.bind_some, if_neg (by decide)]
    · refine ⟨(.inr "java/lang/IndexOutOfBoundsException"), ((0 : Int32), 1, g, t), ?_, ?_, Or.inl ⟨rfl, rfl⟩, ⟨rfl, rfl⟩⟩
      · unfold fX5_forget
        rw [k_mem0 d, xb_r]
      · unfold fX7_forget
        rw [m_out d, Option.bind_some, m_oc0 q, Option.bind_some]
        rw [m_th1, Option.bind_some, if_neg (by decide)]
theorem ty_forgetIf {N K : Nat} {th sz c0 c1 c2 c3 c4 c5 p0 p1 p2 p3 p4 : Int32} {f g t : Nat → Int32} (hN : NBig N) (hK : 100 ≤ K) (h : MT sz f g) : ∃ o y, fX5_forgetIf N K sz f c0 c1 c2 c3 c4 c5 p0 p1 p2 p3 p4 = some o ∧ fX7_forgetIf N K th g t p0 p1 p2 p3 p4 = some y ∧ Ti true o y.2.1 (fun z => z.1 = y.1 ∧ MT z.2.1 z.2.2.1 y.2.2.1 ∧ KT c0 c1 c2 c3 c4 t z.2.2.2 c1 c2 c3 c4 y.2.2.2) (y.2.2.1 = g ∧ y.2.2.2 = t) := by
  have hN9 := hN.u
  have hN1 : 100 ≤ N := by omega
  by_cases d : Rg p0 0 2
  · by_cases q : (Rg p1 0 5 ∧ Rg p2 0 20 ∧ Rg p3 0 20)
    · obtain ⟨k, rfl, -, k2⟩ := Rg.n (a := 0) (b := 5) q.1 (by omega) (by omega)
      obtain ⟨n, rfl, -, n2⟩ := Rg.n (a := 0) (b := 20) q.2.1 (by omega) (by omega)
      obtain ⟨m, rfl, -, m2⟩ := Rg.n (a := 0) (b := 20) q.2.2 (by omega) (by omega)
      have hk : k < 6 := by omega
      have hsl := sl_lt hk n2 m2
      have hcd := cd_lt hk n2 m2
      have hgf := h.2.2.1 k n m hk n2 m2
      have hcell := h.cell hk n2 m2
      by_cases e : f (sl k n m) = -1
      · refine ⟨.inl ((0 : Int32), sz, f, c0 + (1 : Int32)), ((0 : Int32), 0, g, dn t), ?_, ?_, rfl, rfl, h, KT.done⟩
        · unfold fX5_forgetIf
          rw [k_mem1 d, xb_l, k_case1 q, xb_l]
          rw [c_keepsW0 hk n2 m2 (fun z => z.1 e), Option.bind_some, if_pos rfl, k_act, Option.bind_some]
        · unfold fX7_forgetIf
          rw [m_in d, Option.bind_some, m_oc1 q, Option.bind_some]
          rw [m_th00, Option.bind_some, if_pos rfl]
          rw [m_kept hk n2 m2 d, Option.bind_some, hgf, e, if_pos (by decide)]
          unfold fX7_forgetIf_49 fX7_forgetIf_50 fX7_forgetIf_72
          rw [if_pos rfl, m_b0, Option.bind_some, m_done, Option.bind_some]
      · have e0 : 0 ≤ (f (sl k n m)).toInt := by rcases hcell with z | z; exact absurd z e; exact z.2.2.1
        by_cases e2 : f (sl k n m) = p4
        · refine ⟨.inl ((1 : Int32), sz - (1 : Int32), upd f (sl k n m) (-1 : Int32), c0 + (1 : Int32)), ((1 : Int32), 0, upd g (cd k n m) (-1 : Int32), dn t), ?_, ?_, rfl, rfl, h.put hk n2 m2 (Or.inl rfl) (by rw [h.1, cnt_off hsl e, o_s1]), KT.done⟩
          · unfold fX5_forgetIf
            rw [k_mem1 d, xb_l, k_case1 q, xb_l]
            rw [c_keepsW1 hk n2 m2 ⟨e, e2⟩, Option.bind_some, if_neg (show ¬ ((1 : Int32) = 0) from by decide), c_drop hk n2 m2 e, Option.bind_some, k_act, Option.bind_some]
          · unfold fX7_forgetIf
            rw [m_in d, Option.bind_some, m_oc1 q, Option.bind_some]
            rw [m_th00, Option.bind_some, if_pos rfl]
            rw [m_kept hk n2 m2 d, Option.bind_some, hgf, if_neg (by rw [lt0]; omega), if_pos e2]
            unfold fX7_forgetIf_50 fX7_forgetIf_72
            rw [if_neg (by decide), if_neg d.mm, m_code, Option.bind_some, if_neg (o_ob hcd (by omega)), o_c (by omega), m_b1, Option.bind_some, m_done, Option.bind_some]
        · refine ⟨.inl ((0 : Int32), sz, f, c0 + (1 : Int32)), ((0 : Int32), 0, g, dn t), ?_, ?_, rfl, rfl, h, KT.done⟩
          · unfold fX5_forgetIf
            rw [k_mem1 d, xb_l, k_case1 q, xb_l]
            rw [c_keepsW0 hk n2 m2 (fun z => e2 z.2), Option.bind_some, if_pos rfl, k_act, Option.bind_some]
          · unfold fX7_forgetIf
            rw [m_in d, Option.bind_some, m_oc1 q, Option.bind_some]
            rw [m_th00, Option.bind_some, if_pos rfl]
            rw [m_kept hk n2 m2 d, Option.bind_some, hgf, if_neg (by rw [lt0]; omega), if_neg e2]
            unfold fX7_forgetIf_49 fX7_forgetIf_50 fX7_forgetIf_72
            rw [if_pos rfl, m_b0, Option.bind_some, m_done, Option.bind_some]
    · refine ⟨(.inr "java/lang/IllegalArgumentException"), ((0 : Int32), 2, g, t), ?_, ?_, Or.inr ⟨rfl, rfl, rfl⟩, ⟨rfl, rfl⟩⟩
      · unfold fX5_forgetIf
        rw [k_mem1 d, xb_l, k_case0 q, xb_r]
      · unfold fX7_forgetIf
        rw [m_in d, Option.bind_some, m_oc0 q, Option.bind_some]
        rw [m_th01, Option.bind_some, if_neg (by decide)]
  · by_cases q : (Rg p1 0 5 ∧ Rg p2 0 20 ∧ Rg p3 0 20)
    · refine ⟨(.inr "java/lang/IndexOutOfBoundsException"), ((0 : Int32), 1, g, t), ?_, ?_, Or.inl ⟨rfl, rfl⟩, ⟨rfl, rfl⟩⟩
      · unfold fX5_forgetIf
        rw [k_mem0 d, xb_r]
      · unfold fX7_forgetIf
        rw [m_out d, Option.bind_some, m_oc1 q, Option.bind_some]
        rw [m_th1, Option.bind_some, if_neg (by decide)]
    · refine ⟨(.inr "java/lang/IndexOutOfBoundsException"), ((0 : Int32), 1, g, t), ?_, ?_, Or.inl ⟨rfl, rfl⟩, ⟨rfl, rfl⟩⟩
      · unfold fX5_forgetIf
        rw [k_mem0 d, xb_r]
      · unfold fX7_forgetIf
        rw [m_out d, Option.bind_some, m_oc0 q, Option.bind_some]
        rw [m_th1, Option.bind_some, if_neg (by decide)]
theorem ty_forgetAll {N K : Nat} {th sz c0 c1 c2 c3 c4 c5 p0 p1 p2 : Int32} {f g t : Nat → Int32} (hN : NBig N) (hK : 100 ≤ K) (h : MT sz f g) : ∃ o y, fX5_forgetAll N K sz f c0 c1 c2 c3 c4 c5 p0 p1 p2 = some o ∧ fX7_forgetAll N K th g t p0 p1 p2 = some y ∧ Ti true o y.2.1 (fun z => z.1 = y.1 ∧ MT z.2.1 z.2.2.1 y.2.2.1 ∧ KT c0 c1 c2 c3 c4 t z.2.2.2 c1 c2 c3 c4 y.2.2.2) (y.2.2.1 = g ∧ y.2.2.2 = t) := by
  have hN9 := hN.u
  have hN1 : 100 ≤ N := by omega
  by_cases d : Rg p0 0 2
  · by_cases q : Rg p1 0 3
    · obtain ⟨f2, e1, e2⟩ := c_de_ (N := N) (K := K) (sz0 := sz) (sz := sz) (w := p1) (v := p2) (f0 := f) (f := f) 2646 0 N f rfl (by omega) (fun s => by rw [if_neg (by omega)])
      have e1' : fX2_dropEach_5 N K sz f p1 p2 N (Int32.ofNat 0) (Int32.ofNat 0) sz f = _ := e1
      obtain ⟨g2, i1, i2⟩ := m_fa_ (N := N) (K := K) (th0 := th) (th := (0 : Int32)) (w := p1) (v := p2) (l4 := ss (fun s => bi (so p1 p2 f s)) 2646) (g0 := g) (g := g) (t0 := t) (t := t) d 6144 0 N g rfl (by omega) (fun s => by rw [if_neg (by omega)])
      refine ⟨.inl (ss (fun s => bi (so p1 p2 f s)) 2646, sz - ss (fun s => bi (so p1 p2 f s)) 2646, f2, c0 + (1 : Int32)), (ss (fun s => bi (so p1 p2 f s)) 2646, 0, g2, dn t), ?_, ?_, rfl, rfl, mt_offd h e2 i2, KT.done⟩
      · unfold fX5_forgetAll
        rw [k_mem1 d, xb_l, k_rng1 q, xb_l]
        unfold fX2_dropEach
        rw [show (0 : Int32) = Int32.ofNat 0 from rfl]
        rw [e1', Option.bind_some, k_act, Option.bind_some]
      · unfold fX7_forgetAll
        rw [m_in d, Option.bind_some, m_in q, Option.bind_some]
        rw [m_th00, Option.bind_some, if_pos rfl]
        rw [m_cnt hN d h, Option.bind_some]
        exact i1
    · refine ⟨(.inr "java/lang/IllegalArgumentException"), ((0 : Int32), 2, g, t), ?_, ?_, Or.inr ⟨rfl, rfl, rfl⟩, ⟨rfl, rfl⟩⟩
      · unfold fX5_forgetAll
        rw [k_mem1 d, xb_l, k_rng0 q, xb_r]
      · unfold fX7_forgetAll
        rw [m_in d, Option.bind_some, m_out q, Option.bind_some]
        rw [m_th01, Option.bind_some, if_neg (by decide)]
  · by_cases q : Rg p1 0 3
    · refine ⟨(.inr "java/lang/IndexOutOfBoundsException"), ((0 : Int32), 1, g, t), ?_, ?_, Or.inl ⟨rfl, rfl⟩, ⟨rfl, rfl⟩⟩
      · unfold fX5_forgetAll
        rw [k_mem0 d, xb_r]
      · unfold fX7_forgetAll
        rw [m_out d, Option.bind_some, m_in q, Option.bind_some]
        rw [m_th1, Option.bind_some, if_neg (by decide)]
    · refine ⟨(.inr "java/lang/IndexOutOfBoundsException"), ((0 : Int32), 1, g, t), ?_, ?_, Or.inl ⟨rfl, rfl⟩, ⟨rfl, rfl⟩⟩
      · unfold fX5_forgetAll
        rw [k_mem0 d, xb_r]
      · unfold fX7_forgetAll
        rw [m_out d, Option.bind_some, m_out q, Option.bind_some]
        rw [m_th1, Option.bind_some, if_neg (by decide)]
theorem ty_clear {N K : Nat} {th sz c0 c1 c2 c3 c4 c5 p0 : Int32} {f g t : Nat → Int32} (hN : NBig N) (hK : 100 ≤ K) (h : MT sz f g) : ∃ o y, fX5_clear N K sz f c0 c1 c2 c3 c4 c5 p0 = some o ∧ fX7_clear N K th g t p0 = some y ∧ Ti false o y.2.1 (fun z => z.1 = y.1 ∧ MT z.2.1 z.2.2.1 y.2.2.1 ∧ KT c0 c1 c2 c3 c4 t z.2.2.2 c1 c2 c3 c4 y.2.2.2) (y.2.2.1 = g ∧ y.2.2.2 = t) := by
  have hN9 := hN.u
  have hN1 : 100 ≤ N := by omega
  by_cases d : Rg p0 0 2
  · obtain ⟨f2, e1, e2⟩ := c_fill (N := N) (K := K) (n := 2646) (f := f) (v := (-1 : Int32)) (by omega) (by omega)
    obtain ⟨g2, i1, i2⟩ := m_clr_ (N := N) (K := K) (th0 := th) (th := (0 : Int32)) (l2 := sz) (g0 := g) (t0 := t) (t := t) d 6144 0 N g rfl (by omega) (fun s hs => absurd hs (by omega))
    refine ⟨.inl (sz, (0 : Int32), f2, c0 + (1 : Int32)), (sz, 0, g2, dn t), ?_, ?_, rfl, rfl, mt_none (fun s hs => (e2 s).trans (if_pos hs)) i2, KT.done⟩
    · unfold fX5_clear
      rw [k_mem1 d, xb_l]
      unfold fX2_dropAll
      rw [e1, Option.bind_some, Option.bind_some, k_act, Option.bind_some]
    · unfold fX7_clear
      rw [m_in d, Option.bind_some]
      rw [m_th00, Option.bind_some, if_pos rfl]
      rw [m_cnt0 hN d h, Option.bind_some, ← h.1]
      exact i1
  · refine ⟨(.inr "java/lang/IndexOutOfBoundsException"), ((0 : Int32), 1, g, t), ?_, ?_, Or.inl ⟨rfl, rfl⟩, ⟨rfl, rfl⟩⟩
    · unfold fX5_clear
      rw [k_mem0 d, xb_r]
    · unfold fX7_clear
      rw [m_out d, Option.bind_some]
      rw [m_th1, Option.bind_some, if_neg (by decide)]
theorem ty_copy {N K : Nat} {th sz c0 c1 c2 c3 c4 c5 tz p0 p1 : Int32} {f g t f2 g2 : Nat → Int32} (hN : NBig N) (hK : 100 ≤ K) (h : MT sz f g) (h2 : MT tz f2 g2) : ∃ o y, fX5_copy N K sz f tz f2 c0 c1 c2 c3 c4 c5 p0 p1 = some o ∧ fX7_copy N K th g g2 t p0 p1 = some y ∧ Ti false o y.2.1 (fun z => z.1 = y.1 ∧ MT z.2.1 z.2.2.1 y.2.2.1 ∧ KT c0 c1 c2 c3 c4 t z.2.2.2 c1 c2 c3 c4 y.2.2.2) (y.2.2.1 = g2 ∧ y.2.2.2 = t) := by
  have hN9 := hN.u
  have hN1 : 100 ≤ N := by omega
  by_cases d : Rg p0 0 2
  · by_cases q : Rg p1 0 2
    · obtain ⟨g3, i1, i2⟩ := m_copy_ (N := N) (K := K) hN (th0 := th) (th := (0 : Int32)) (g0 := g2) (t0 := t) (t := t) d q h 6144 0 N g2 rfl (by omega) (fun s hs => absurd hs (by omega))
      refine ⟨.inl (sz, sz, va_cpy f f2 (0 : Int32).toNatClampNeg (0 : Int32).toNatClampNeg (2646 : Int32).toNatClampNeg, c0 + (1 : Int32)), (Int32.ofNat (cnt f), 0, g3, dn t), ?_, ?_, rfl, h.1, mt_same h (fun s hs => c_cpy hs) i2, KT.done⟩
      · unfold fX5_copy
        rw [k_mem1 d, xb_l, k_mem1 q, xb_l]
        unfold fX2_become fX2_size
        rw [Option.bind_some, Option.bind_some, k_act, Option.bind_some]
      · unfold fX7_copy
        rw [m_in d, Option.bind_some, if_pos rfl, m_in q, Option.bind_some, if_pos rfl]
        unfold fX7_copy_24
        rw [m_th00, Option.bind_some, if_pos rfl]
        exact i1
    · refine ⟨(.inr "java/lang/IndexOutOfBoundsException"), ((0 : Int32), 1, g2, t), ?_, ?_, Or.inl ⟨rfl, rfl⟩, ⟨rfl, rfl⟩⟩
      · unfold fX5_copy
        rw [k_mem1 d, xb_l, k_mem0 q, xb_r]
      · unfold fX7_copy
        rw [m_in d, Option.bind_some, if_pos rfl, m_out q, Option.bind_some, if_neg (by decide)]
        unfold fX7_copy_19 fX7_copy_24
        rw [m_th1, Option.bind_some, if_neg (by decide)]
  · by_cases q : Rg p1 0 2
    · refine ⟨(.inr "java/lang/IndexOutOfBoundsException"), ((0 : Int32), 1, g2, t), ?_, ?_, Or.inl ⟨rfl, rfl⟩, ⟨rfl, rfl⟩⟩
      · unfold fX5_copy
        rw [k_mem0 d, xb_r]
      · unfold fX7_copy
        rw [m_out d, Option.bind_some, if_neg (by decide)]
        unfold fX7_copy_19 fX7_copy_24
        rw [m_th1, Option.bind_some, if_neg (by decide)]
    · refine ⟨(.inr "java/lang/IndexOutOfBoundsException"), ((0 : Int32), 1, g2, t), ?_, ?_, Or.inl ⟨rfl, rfl⟩, ⟨rfl, rfl⟩⟩
      · unfold fX5_copy
        rw [k_mem0 d, xb_r]
      · unfold fX7_copy
        rw [m_out d, Option.bind_some, if_neg (by decide)]
        unfold fX7_copy_19 fX7_copy_24
        rw [m_th1, Option.bind_some, if_neg (by decide)]
theorem ty_copyOwn {N K : Nat} {th sz c0 c1 c2 c3 c4 c5 p0 : Int32} {f g t : Nat → Int32} (hN : NBig N) (hK : 100 ≤ K) (h : MT sz f g) : ∃ o y, fX5_copyOwn N K sz f c0 c1 c2 c3 c4 c5 p0 = some o ∧ fX7_copyOwn N K th g t p0 = some y ∧ Ti false o y.2.1 (fun z => z.1 = y.1 ∧ MT z.2.1 z.2.2.1 y.2.2.1 ∧ KT c0 c1 c2 c3 c4 t z.2.2.2 c1 c2 c3 c4 y.2.2.2) (y.2.2.1 = g ∧ y.2.2.2 = t) := by
  have hN9 := hN.u
  have hN1 : 100 ≤ N := by omega
  by_cases d : Rg p0 0 2
  · obtain ⟨g3, i1, i2⟩ := m_copyO_ (N := N) (K := K) hN (th0 := th) (th := (0 : Int32)) (g0 := g) (t0 := t) (t := t) d h 6144 0 N g rfl (by omega) (fun s => rfl)
    refine ⟨.inl (sz, sz, va_cpy f f (0 : Int32).toNatClampNeg (0 : Int32).toNatClampNeg (2646 : Int32).toNatClampNeg, c0 + (1 : Int32)), (Int32.ofNat (cnt f), 0, g3, dn t), ?_, ?_, rfl, h.1, mt_same h (fun s hs => c_cpy hs) (fun c _ => i2 c), KT.done⟩
    · unfold fX5_copyOwn
      rw [k_mem1 d, xb_l, xb_l]
      unfold fX2_becomeOwn fX2_size
      rw [Option.bind_some, Option.bind_some, k_act, Option.bind_some]
    · unfold fX7_copyOwn
      rw [m_in d, Option.bind_some, if_pos rfl, Option.bind_some, if_pos rfl]
      unfold fX7_copyOwn_24
      rw [m_th00, Option.bind_some, if_pos rfl]
      exact i1
  · refine ⟨(.inr "java/lang/IndexOutOfBoundsException"), ((0 : Int32), 1, g, t), ?_, ?_, Or.inl ⟨rfl, rfl⟩, ⟨rfl, rfl⟩⟩
    · unfold fX5_copyOwn
      rw [k_mem0 d, xb_r]
    · unfold fX7_copyOwn
      rw [m_out d, Option.bind_some, if_neg (by decide)]
      unfold fX7_copyOwn_19 fX7_copyOwn_24
      rw [m_th1, Option.bind_some, if_neg (by decide)]
theorem ty_pour {N K : Nat} {th sz c0 c1 c2 c3 c4 c5 tz p0 p1 : Int32} {f g t f2 g2 : Nat → Int32} (hN : NBig N) (hK : 100 ≤ K) (h : MT sz f g) (h2 : MT tz f2 g2) (hne : ¬ p0 = p1) : ∃ o y, fX5_pour N K sz f tz f2 c0 c1 c2 c3 c4 c5 p0 p1 = some o ∧ fX7_pour N K th g g2 t p0 p1 = some y ∧ Ti false o y.2.1 (fun z => z.1 = y.1 ∧ MT z.2.1 z.2.2.1 y.2.2.1 ∧ KT c0 c1 c2 c3 c4 t z.2.2.2.1 c1 c2 c3 z.2.2.2.2 y.2.2.2) (y.2.2.1 = g2 ∧ y.2.2.2 = t) := by
  have hN9 := hN.u
  have hN1 : 100 ≤ N := by omega
  by_cases d : Rg p0 0 2
  · by_cases q : Rg p1 0 2
    · obtain ⟨f3, e1, e2⟩ := c_take_ (N := N) (K := K) (sz0 := tz) (sz := tz) (tz := sz) (f0 := f2) (f := f2) (g := f) 2646 0 N f2 rfl (by omega) (fun s => by rw [if_neg (by omega)])
      have e1' : fX2_takeIn_4 N K tz f2 sz f N (0 : Int32) (0 : Int32) tz f2 = some (ss (fun s => bi (newin f f2 s)) 2646, tz + ss (fun s => bi (newin f f2 s)) 2646, f3) := e1
      obtain ⟨g3, i1, i2⟩ := m_pour_ (N := N) (K := K) hN (th0 := th) (th := (0 : Int32)) (g0 := g2) (t0 := t) (t := t) d q h h2 6144 0 N g2 rfl (by omega) (fun s => by rw [if_neg (by omega)])
      refine ⟨.inl (ss (fun s => bi (newin f f2 s)) 2646, tz + ss (fun s => bi (newin f f2 s)) 2646, f3, c0 + (1 : Int32), c4), (ss (fun s => bi (newin f f2 s)) 2646, 0, g3, dn t), ?_, ?_, rfl, rfl, mt_poured h h2 e2 i2, KT.done⟩
      · unfold fX5_pour
        rw [k_mem1 d, xb_l, k_mem1 q, xb_l]
        unfold fX2_takeIn
        rw [if_neg hne]
        rw [e1', Option.bind_some, k_act, Option.bind_some]
      · unfold fX7_pour
        rw [m_in d, Option.bind_some, if_pos rfl, m_in q, Option.bind_some, if_pos rfl]
        unfold fX7_pour_24
        rw [m_th00, Option.bind_some, if_pos rfl]
        rw [if_neg hne, m_cnt0 hN q h2, Option.bind_some]
        exact i1
    · refine ⟨(.inr "java/lang/IndexOutOfBoundsException"), ((0 : Int32), 1, g2, t), ?_, ?_, Or.inl ⟨rfl, rfl⟩, ⟨rfl, rfl⟩⟩
      · unfold fX5_pour
        rw [k_mem1 d, xb_l, k_mem0 q, xb_r]
      · unfold fX7_pour
        rw [m_in d, Option.bind_some, if_pos rfl, m_out q, Option.bind_some, if_neg (by decide)]
        unfold fX7_pour_19 fX7_pour_24
        rw [m_th1, Option.bind_some, if_neg (by decide)]
  · by_cases q : Rg p1 0 2
    · refine ⟨(.inr "java/lang/IndexOutOfBoundsException"), ((0 : Int32), 1, g2, t), ?_, ?_, Or.inl ⟨rfl, rfl⟩, ⟨rfl, rfl⟩⟩
      · unfold fX5_pour
        rw [k_mem0 d, xb_r]
      · unfold fX7_pour
        rw [m_out d, Option.bind_some, if_neg (by decide)]
        unfold fX7_pour_19 fX7_pour_24
        rw [m_th1, Option.bind_some, if_neg (by decide)]
    · refine ⟨(.inr "java/lang/IndexOutOfBoundsException"), ((0 : Int32), 1, g2, t), ?_, ?_, Or.inl ⟨rfl, rfl⟩, ⟨rfl, rfl⟩⟩
      · unfold fX5_pour
        rw [k_mem0 d, xb_r]
      · unfold fX7_pour
        rw [m_out d, Option.bind_some, if_neg (by decide)]
        unfold fX7_pour_19 fX7_pour_24
        rw [m_th1, Option.bind_some, if_neg (by decide)]
theorem ty_pourOwn {N K : Nat} {th sz c0 c1 c2 c3 c4 c5 p0 : Int32} {f g t : Nat → Int32} (hN : NBig N) (hK : 100 ≤ K)  : ∃ o y, fX5_pourOwn N K sz f c0 c1 c2 c3 c4 c5 p0 = some o ∧ fX7_pourOwn N K th g t p0 = some y ∧ Ti false o y.2.1 (fun z => z.1 = y.1 ∧ KT c0 c1 c2 c3 c4 t c0 c1 c2 c3 z.2 y.2.2) (y.2.2 = t) := by
  have hN9 := hN.u
  have hN1 : 100 ≤ N := by omega
  by_cases d : Rg p0 0 2
  · refine ⟨.inl ((-9 : Int32), c4 + (1 : Int32)), ((-9 : Int32), 0, rf t), ?_, ?_, rfl, rfl, KT.refu⟩
    · unfold fX5_pourOwn
      rw [k_mem1 d, xb_l, xb_l]
      rw [k_und, Option.bind_some]
    · unfold fX7_pourOwn
      rw [m_in d, Option.bind_some, if_pos rfl, Option.bind_some, if_pos rfl]
      unfold fX7_pourOwn_24
      rw [m_th00, Option.bind_some, if_pos rfl]
      rw [m_ref, Option.bind_some]
  · refine ⟨(.inr "java/lang/IndexOutOfBoundsException"), ((0 : Int32), 1, t), ?_, ?_, Or.inl ⟨rfl, rfl⟩, rfl⟩
    · unfold fX5_pourOwn
      rw [k_mem0 d, xb_r]
    · unfold fX7_pourOwn
      rw [m_out d, Option.bind_some, if_neg (by decide)]
      unfold fX7_pourOwn_19 fX7_pourOwn_24
      rw [m_th1, Option.bind_some, if_neg (by decide)]
theorem ty_isKept {N K : Nat} {th sz p0 p1 p2 p3 p4 : Int32} {f g : Nat → Int32} (hN : NBig N) (hK : 100 ≤ K) (h : MT sz f g) : ∃ o y, fX5_isKept N K sz f p0 p1 p2 p3 p4 = some o ∧ fX7_isKept N K th g p0 p1 p2 p3 p4 = some y ∧ Ti true o y.2 (fun z => z = y.1 ∧ (y.1 = 0 ∨ y.1 = 1)) (True) := by
  have hN9 := hN.u
  have hN1 : 100 ≤ N := by omega
  by_cases d : Rg p0 0 2
  · by_cases q : (Rg p1 0 5 ∧ Rg p2 0 20 ∧ Rg p3 0 20)
    · by_cases r : Rg p4 0 2
      · obtain ⟨k, rfl, -, k2⟩ := Rg.n (a := 0) (b := 5) q.1 (by omega) (by omega)
        obtain ⟨n, rfl, -, n2⟩ := Rg.n (a := 0) (b := 20) q.2.1 (by omega) (by omega)
        obtain ⟨m, rfl, -, m2⟩ := Rg.n (a := 0) (b := 20) q.2.2 (by omega) (by omega)
        have hk : k < 6 := by omega
        have hsl := sl_lt hk n2 m2
        have hcd := cd_lt hk n2 m2
        have hgf := h.2.2.1 k n m hk n2 m2
        have hcell := h.cell hk n2 m2
        by_cases e : f (sl k n m) = -1
        · refine ⟨.inl (0 : Int32), ((0 : Int32), 0), ?_, ?_, rfl, rfl, Or.inl rfl⟩
          · unfold fX5_isKept
            rw [k_mem1 d, xb_l, k_case1 q, xb_l, k_rng1 r, xb_l]
            rw [c_keeps hk n2 m2, Option.bind_some, if_pos e, if_pos (Or.inl rfl)]
          · unfold fX7_isKept
            rw [m_in d, Option.bind_some, m_oc1 q, Option.bind_some, if_pos rfl, m_in r, Option.bind_some, if_pos rfl]
            unfold fX7_isKept_32
            rw [m_th00, Option.bind_some, if_pos rfl]
            rw [m_kept hk n2 m2 d, Option.bind_some, hgf, e, if_pos (by decide)]
        · have e0 : 0 ≤ (f (sl k n m)).toInt := by rcases hcell with z | z; exact absurd z e; exact z.2.2.1
          refine ⟨.inl (1 : Int32), ((1 : Int32), 0), ?_, ?_, rfl, rfl, Or.inr rfl⟩
          · unfold fX5_isKept
            rw [k_mem1 d, xb_l, k_case1 q, xb_l, k_rng1 r, xb_l]
            rw [c_keeps hk n2 m2, Option.bind_some, if_neg e, if_pos (Or.inr rfl)]
          · unfold fX7_isKept
            rw [m_in d, Option.bind_some, m_oc1 q, Option.bind_some, if_pos rfl, m_in r, Option.bind_some, if_pos rfl]
            unfold fX7_isKept_32
            rw [m_th00, Option.bind_some, if_pos rfl]
            rw [m_kept hk n2 m2 d, Option.bind_some, hgf, if_neg (by rw [lt0]; omega)]
      · refine ⟨(.inr "java/lang/IllegalArgumentException"), ((0 : Int32), 2), ?_, ?_, Or.inr ⟨rfl, rfl, rfl⟩, trivial⟩
        · unfold fX5_isKept
          rw [k_mem1 d, xb_l, k_case1 q, xb_l, k_rng0 r, xb_r]
        · unfold fX7_isKept
          rw [m_in d, Option.bind_some, m_oc1 q, Option.bind_some, if_pos rfl, m_out r, Option.bind_some, if_neg (by decide)]
          unfold fX7_isKept_27 fX7_isKept_32
          rw [m_th01, Option.bind_some, if_neg (by decide)]
    · by_cases r : Rg p4 0 2
      · refine ⟨(.inr "java/lang/IllegalArgumentException"), ((0 : Int32), 2), ?_, ?_, Or.inr ⟨rfl, rfl, rfl⟩, trivial⟩
        · unfold fX5_isKept
          rw [k_mem1 d, xb_l, k_case0 q, xb_r]
        · unfold fX7_isKept
          rw [m_in d, Option.bind_some, m_oc0 q, Option.bind_some, if_neg (by decide)]
          unfold fX7_isKept_27 fX7_isKept_32
          rw [m_th01, Option.bind_some, if_neg (by decide)]
      · refine ⟨(.inr "java/lang/IllegalArgumentException"), ((0 : Int32), 2), ?_, ?_, Or.inr ⟨rfl, rfl, rfl⟩, trivial⟩
        · unfold fX5_isKept
          rw [k_mem1 d, xb_l, k_case0 q, xb_r]
        · unfold fX7_isKept
          rw [m_in d, Option.bind_some, m_oc0 q, Option.bind_some, if_neg (by decide)]
          unfold fX7_isKept_27 fX7_isKept_32
          rw [m_th01, Option.bind_some, if_neg (by decide)]
  · by_cases q : (Rg p1 0 5 ∧ Rg p2 0 20 ∧ Rg p3 0 20)
    · by_cases r : Rg p4 0 2
      · refine ⟨(.inr "java/lang/IndexOutOfBoundsException"), ((0 : Int32), 1), ?_, ?_, Or.inl ⟨rfl, rfl⟩, trivial⟩
        · unfold fX5_isKept
          rw [k_mem0 d, xb_r]
        · unfold fX7_isKept
          rw [m_out d, Option.bind_some, m_oc1 q, Option.bind_some, if_pos rfl, m_in r, Option.bind_some, if_pos rfl]
          unfold fX7_isKept_32
          rw [m_th1, Option.bind_some, if_neg (by decide)]
      · refine ⟨(.inr "java/lang/IndexOutOfBoundsException"), ((0 : Int32), 1), ?_, ?_, Or.inl ⟨rfl, rfl⟩, trivial⟩
        · unfold fX5_isKept
          rw [k_mem0 d, xb_r]
        · unfold fX7_isKept
          rw [m_out d, Option.bind_some, m_oc1 q, Option.bind_some, if_pos rfl, m_out r, Option.bind_some, if_neg (by decide)]
          unfold fX7_isKept_27 fX7_isKept_32
          rw [m_th1, Option.bind_some, if_neg (by decide)]
    · by_cases r : Rg p4 0 2
      · refine ⟨(.inr "java/lang/IndexOutOfBoundsException"), ((0 : Int32), 1), ?_, ?_, Or.inl ⟨rfl, rfl⟩, trivial⟩
        · unfold fX5_isKept
          rw [k_mem0 d, xb_r]
        · unfold fX7_isKept
          rw [m_out d, Option.bind_some, m_oc0 q, Option.bind_some, if_neg (by decide)]
          unfold fX7_isKept_27 fX7_isKept_32
          rw [m_th1, Option.bind_some, if_neg (by decide)]
      · refine ⟨(.inr "java/lang/IndexOutOfBoundsException"), ((0 : Int32), 1), ?_, ?_, Or.inl ⟨rfl, rfl⟩, trivial⟩
        · unfold fX5_isKept
          rw [k_mem0 d, xb_r]
        · unfold fX7_isKept
          rw [m_out d, Option.bind_some, m_oc0 q, Option.bind_some, if_neg (by decide)]
          unfold fX7_isKept_27 fX7_isKept_32
          rw [m_th1, Option.bind_some, if_neg (by decide)]
theorem ty_worthOr {N K : Nat} {th sz p0 p1 p2 p3 p4 : Int32} {f g : Nat → Int32} (hN : NBig N) (hK : 100 ≤ K) (h : MT sz f g) : ∃ o y, fX5_worthOr N K sz f p0 p1 p2 p3 p4 = some o ∧ fX7_worthOr N K th g p0 p1 p2 p3 p4 = some y ∧ Ti true o y.2 (fun z => z = y.1) (True) := by
  have hN9 := hN.u
  have hN1 : 100 ≤ N := by omega
  by_cases d : Rg p0 0 2
  · by_cases q : (Rg p1 0 5 ∧ Rg p2 0 20 ∧ Rg p3 0 20)
    · obtain ⟨k, rfl, -, k2⟩ := Rg.n (a := 0) (b := 5) q.1 (by omega) (by omega)
      obtain ⟨n, rfl, -, n2⟩ := Rg.n (a := 0) (b := 20) q.2.1 (by omega) (by omega)
      obtain ⟨m, rfl, -, m2⟩ := Rg.n (a := 0) (b := 20) q.2.2 (by omega) (by omega)
      have hk : k < 6 := by omega
      have hsl := sl_lt hk n2 m2
      have hcd := cd_lt hk n2 m2
      have hgf := h.2.2.1 k n m hk n2 m2
      have hcell := h.cell hk n2 m2
      by_cases e : f (sl k n m) = -1
      · refine ⟨.inl p4, (p4, 0), ?_, ?_, rfl, rfl⟩
        · unfold fX5_worthOr
          rw [k_mem1 d, xb_l, k_case1 q, xb_l]
          rw [c_keeps hk n2 m2, Option.bind_some, if_pos e, if_pos rfl]
        · unfold fX7_worthOr
          rw [m_in d, Option.bind_some, m_oc1 q, Option.bind_some]
          rw [m_th00, Option.bind_some, if_pos rfl]
          rw [m_kept hk n2 m2 d, Option.bind_some, hgf, e, if_neg (by decide)]
      · have e0 : 0 ≤ (f (sl k n m)).toInt := by rcases hcell with z | z; exact absurd z e; exact z.2.2.1
        refine ⟨.inl (f (sl k n m)), (f (sl k n m), 0), ?_, ?_, rfl, rfl⟩
        · unfold fX5_worthOr
          rw [k_mem1 d, xb_l, k_case1 q, xb_l]
          rw [c_keeps hk n2 m2, Option.bind_some, if_neg e, if_neg (show ¬ ((1 : Int32) = 0) from by decide), c_kw hk n2 m2, Option.bind_some]
        · unfold fX7_worthOr
          rw [m_in d, Option.bind_some, m_oc1 q, Option.bind_some]
          rw [m_th00, Option.bind_some, if_pos rfl]
          rw [m_kept hk n2 m2 d, Option.bind_some, hgf, if_pos (by rw [ge0]; exact e0)]
    · refine ⟨(.inr "java/lang/IllegalArgumentException"), ((0 : Int32), 2), ?_, ?_, Or.inr ⟨rfl, rfl, rfl⟩, trivial⟩
      · unfold fX5_worthOr
        rw [k_mem1 d, xb_l, k_case0 q, xb_r]
      · unfold fX7_worthOr
        rw [m_in d, Option.bind_some, m_oc0 q, Option.bind_some]
        rw [m_th01, Option.bind_some, if_neg (by decide)]
  · by_cases q : (Rg p1 0 5 ∧ Rg p2 0 20 ∧ Rg p3 0 20)
    · refine ⟨(.inr "java/lang/IndexOutOfBoundsException"), ((0 : Int32), 1), ?_, ?_, Or.inl ⟨rfl, rfl⟩, trivial⟩
      · unfold fX5_worthOr
        rw [k_mem0 d, xb_r]
      · unfold fX7_worthOr
        rw [m_out d, Option.bind_some, m_oc1 q, Option.bind_some]
        rw [m_th1, Option.bind_some, if_neg (by decide)]
    · refine ⟨(.inr "java/lang/IndexOutOfBoundsException"), ((0 : Int32), 1), ?_, ?_, Or.inl ⟨rfl, rfl⟩, trivial⟩
      · unfold fX5_worthOr
        rw [k_mem0 d, xb_r]
      · unfold fX7_worthOr
        rw [m_out d, Option.bind_some, m_oc0 q, Option.bind_some]
        rw [m_th1, Option.bind_some, if_neg (by decide)]
theorem ty_confirm {N K : Nat} {th sz p0 p1 p2 p3 p4 : Int32} {f g : Nat → Int32} (hN : NBig N) (hK : 100 ≤ K) (h : MT sz f g) : ∃ o y, fX5_confirm N K sz f p0 p1 p2 p3 p4 = some o ∧ fX7_confirm N K th g p0 p1 p2 p3 p4 = some y ∧ Ti true o y.2 (fun z => z = y.1 ∧ (y.1 = 0 ∨ y.1 = 1)) (True) := by
  have hN9 := hN.u
  have hN1 : 100 ≤ N := by omega
  by_cases d : Rg p0 0 2
  · by_cases q : (Rg p1 0 5 ∧ Rg p2 0 20 ∧ Rg p3 0 20)
    · obtain ⟨k, rfl, -, k2⟩ := Rg.n (a := 0) (b := 5) q.1 (by omega) (by omega)
      obtain ⟨n, rfl, -, n2⟩ := Rg.n (a := 0) (b := 20) q.2.1 (by omega) (by omega)
      obtain ⟨m, rfl, -, m2⟩ := Rg.n (a := 0) (b := 20) q.2.2 (by omega) (by omega)
      have hk : k < 6 := by omega
      have hsl := sl_lt hk n2 m2
      have hcd := cd_lt hk n2 m2
      have hgf := h.2.2.1 k n m hk n2 m2
      have hcell := h.cell hk n2 m2
      by_cases e : f (sl k n m) = -1
      · refine ⟨.inl (0 : Int32), ((0 : Int32), 0), ?_, ?_, rfl, rfl, Or.inl rfl⟩
        · unfold fX5_confirm
          rw [k_mem1 d, xb_l, k_case1 q, xb_l]
          rw [c_keepsW0 hk n2 m2 (fun z => z.1 e), Option.bind_some, if_pos (Or.inl rfl)]
        · unfold fX7_confirm
          rw [m_in d, Option.bind_some, m_oc1 q, Option.bind_some]
          rw [m_th00, Option.bind_some, if_pos rfl]
          rw [m_kept hk n2 m2 d, Option.bind_some, hgf, e, if_pos (by decide)]
      · have e0 : 0 ≤ (f (sl k n m)).toInt := by rcases hcell with z | z; exact absurd z e; exact z.2.2.1
        by_cases e2 : f (sl k n m) = p4
        · refine ⟨.inl (1 : Int32), ((1 : Int32), 0), ?_, ?_, rfl, rfl, Or.inr rfl⟩
          · unfold fX5_confirm
            rw [k_mem1 d, xb_l, k_case1 q, xb_l]
            rw [c_keepsW1 hk n2 m2 ⟨e, e2⟩, Option.bind_some, if_pos (Or.inr rfl)]
          · unfold fX7_confirm
            rw [m_in d, Option.bind_some, m_oc1 q, Option.bind_some]
            rw [m_th00, Option.bind_some, if_pos rfl]
            rw [m_kept hk n2 m2 d, Option.bind_some, hgf, if_neg (by rw [lt0]; omega), if_pos e2]
        · refine ⟨.inl (0 : Int32), ((0 : Int32), 0), ?_, ?_, rfl, rfl, Or.inl rfl⟩
          · unfold fX5_confirm
            rw [k_mem1 d, xb_l, k_case1 q, xb_l]
            rw [c_keepsW0 hk n2 m2 (fun z => e2 z.2), Option.bind_some, if_pos (Or.inl rfl)]
          · unfold fX7_confirm
            rw [m_in d, Option.bind_some, m_oc1 q, Option.bind_some]
            rw [m_th00, Option.bind_some, if_pos rfl]
            rw [m_kept hk n2 m2 d, Option.bind_some, hgf, if_neg (by rw [lt0]; omega), if_neg e2]
    · refine ⟨(.inr "java/lang/IllegalArgumentException"), ((0 : Int32), 2), ?_, ?_, Or.inr ⟨rfl, rfl, rfl⟩, trivial⟩
      · unfold fX5_confirm
        rw [k_mem1 d, xb_l, k_case0 q, xb_r]
      · unfold fX7_confirm
        rw [m_in d, Option.bind_some, m_oc0 q, Option.bind_some]
        rw [m_th01, Option.bind_some, if_neg (by decide)]
  · by_cases q : (Rg p1 0 5 ∧ Rg p2 0 20 ∧ Rg p3 0 20)
    · refine ⟨(.inr "java/lang/IndexOutOfBoundsException"), ((0 : Int32), 1), ?_, ?_, Or.inl ⟨rfl, rfl⟩, trivial⟩
      · unfold fX5_confirm
        rw [k_mem0 d, xb_r]
      · unfold fX7_confirm
        rw [m_out d, Option.bind_some, m_oc1 q, Option.bind_some]
        rw [m_th1, Option.bind_some, if_neg (by decide)]
    · refine ⟨(.inr "java/lang/IndexOutOfBoundsException"), ((0 : Int32), 1), ?_, ?_, Or.inl ⟨rfl, rfl⟩, trivial⟩
      · unfold fX5_confirm
        rw [k_mem0 d, xb_r]
      · unfold fX7_confirm
        rw [m_out d, Option.bind_some, m_oc0 q, Option.bind_some]
        rw [m_th1, Option.bind_some, if_neg (by decide)]
theorem ty_about {N K : Nat} {th sz p0 p1 : Int32} {f g : Nat → Int32} (hN : NBig N) (hK : 100 ≤ K) (h : MT sz f g) : ∃ o y, fX5_about N K sz f p0 p1 = some o ∧ fX7_about N K th g p0 p1 = some y ∧ Ti true o y.2 (fun z => z = y.1) (True) := by
  have hN9 := hN.u
  have hN1 : 100 ≤ N := by omega
  by_cases d : Rg p0 0 2
  · by_cases q : Rg p1 0 3
    · by_cases e0 : p1 = 0
      · subst e0
        refine ⟨.inl sz, (ss (tlc 0 f) 2646, 0), ?_, ?_, rfl, by rw [tlc_cnt (by decide) (by decide)]; exact h.1⟩
        · unfold fX5_about
          rw [k_mem1 d, xb_l, k_rng1 q, xb_l]
          rw [if_pos rfl]
          rfl
        · unfold fX7_about
          rw [m_in d, Option.bind_some, m_in q, Option.bind_some]
          rw [m_th00, Option.bind_some, if_pos rfl]
          rw [m_t2 hN d h, Option.bind_some, if_neg (by decide)]
      · by_cases e1 : p1 = 1
        · subst e1
          have em := c_mark_ (N := N) (K := K) (sz := sz) (f := f) 2646 0 N rfl (by omega)
          have em' : fX2_mark N K sz f = some (ss (tlc 1 f) 2646) := em
          refine ⟨.inl (ss (tlc 1 f) 2646), (ss (tlc 1 f) 2646, 0), ?_, ?_, rfl, rfl⟩
          · unfold fX5_about
            rw [k_mem1 d, xb_l, k_rng1 q, xb_l]
            rw [if_neg (by decide), if_pos rfl, em', Option.bind_some]
          · unfold fX7_about
            rw [m_in d, Option.bind_some, m_in q, Option.bind_some]
            rw [m_th00, Option.bind_some, if_pos rfl]
            rw [m_t2 hN d h, Option.bind_some, if_neg (by decide)]
        · by_cases e2 : p1 = 2
          · subst e2
            have em := c_sumw_ (N := N) (K := K) (sz := sz) (f := f) 2646 0 N rfl (by omega)
            have em' : fX2_sumOfWorths N K sz f = some (ss (tlc 2 f) 2646) := em
            refine ⟨.inl (ss (tlc 2 f) 2646), (ss (tlc 2 f) 2646, 0), ?_, ?_, rfl, rfl⟩
            · unfold fX5_about
              rw [k_mem1 d, xb_l, k_rng1 q, xb_l]
              rw [if_neg (by decide), if_neg (by decide), if_pos rfl, em', Option.bind_some]
            · unfold fX7_about
              rw [m_in d, Option.bind_some, m_in q, Option.bind_some]
              rw [m_th00, Option.bind_some, if_pos rfl]
              rw [m_t2 hN d h, Option.bind_some, if_neg (by decide)]
          · have e3 : p1 = 3 := by
              obtain ⟨n, rfl, -, n2⟩ := Rg.n (a := 0) (b := 3) q (by omega) (by omega)
              have f0 : ¬ n = 0 := fun z => e0 (by rw [z]; rfl)
              have f1 : ¬ n = 1 := fun z => e1 (by rw [z]; rfl)
              have f2 : ¬ n = 2 := fun z => e2 (by rw [z]; rfl)
              rw [show n = 3 from by omega]; rfl
            subst e3
            have es : ss (tlc 3 f) 2646 = sz := by rw [tlc_cnt (by decide) (by decide)]; exact h.1.symm
            by_cases z : sz = 0
            · refine ⟨.inl (1 : Int32), ((1 : Int32), 0), ?_, ?_, rfl, rfl⟩
              · unfold fX5_about
                rw [k_mem1 d, xb_l, k_rng1 q, xb_l]
                rw [if_neg (by decide), if_neg (by decide), if_neg (by decide)]
                unfold fX2_size
                rw [Option.bind_some, if_pos z]
              · unfold fX7_about
                rw [m_in d, Option.bind_some, m_in q, Option.bind_some]
                rw [m_th00, Option.bind_some, if_pos rfl]
                rw [m_t2 hN d h, Option.bind_some, if_pos rfl, es, if_pos z]
            · refine ⟨.inl (0 : Int32), ((0 : Int32), 0), ?_, ?_, rfl, rfl⟩
              · unfold fX5_about
                rw [k_mem1 d, xb_l, k_rng1 q, xb_l]
                rw [if_neg (by decide), if_neg (by decide), if_neg (by decide)]
                unfold fX2_size
                rw [Option.bind_some, if_neg z]
              · unfold fX7_about
                rw [m_in d, Option.bind_some, m_in q, Option.bind_some]
                rw [m_th00, Option.bind_some, if_pos rfl]
                rw [m_t2 hN d h, Option.bind_some, if_pos rfl, es, if_neg z]
    · refine ⟨(.inr "java/lang/IllegalArgumentException"), ((0 : Int32), 2), ?_, ?_, Or.inr ⟨rfl, rfl, rfl⟩, trivial⟩
      · unfold fX5_about
        rw [k_mem1 d, xb_l, k_rng0 q, xb_r]
      · unfold fX7_about
        rw [m_in d, Option.bind_some, m_out q, Option.bind_some]
        rw [m_th01, Option.bind_some, if_neg (by decide)]
  · by_cases q : Rg p1 0 3
    · refine ⟨(.inr "java/lang/IndexOutOfBoundsException"), ((0 : Int32), 1), ?_, ?_, Or.inl ⟨rfl, rfl⟩, trivial⟩
      · unfold fX5_about
        rw [k_mem0 d, xb_r]
      · unfold fX7_about
        rw [m_out d, Option.bind_some, m_in q, Option.bind_some]
        rw [m_th1, Option.bind_some, if_neg (by decide)]
    · refine ⟨(.inr "java/lang/IndexOutOfBoundsException"), ((0 : Int32), 1), ?_, ?_, Or.inl ⟨rfl, rfl⟩, trivial⟩
      · unfold fX5_about
        rw [k_mem0 d, xb_r]
      · unfold fX7_about
        rw [m_out d, Option.bind_some, m_out q, Option.bind_some]
        rw [m_th1, Option.bind_some, if_neg (by decide)]
theorem ty_has {N K : Nat} {th sz p0 p1 : Int32} {f g : Nat → Int32} (hN : NBig N) (hK : 100 ≤ K) (h : MT sz f g) : ∃ o y, fX5_has N K sz f p0 p1 = some o ∧ fX7_has N K th g p0 p1 = some y ∧ Ti false o y.2 (fun z => z = y.1 ∧ (y.1 = 0 ∨ y.1 = 1)) (True) := by
  have hN9 := hN.u
  have hN1 : 100 ≤ N := by omega
  by_cases d : Rg p0 0 2
  · by_cases z : ss (fun s => bi (so 3 p1 f s)) 2646 ≤ 0
    · refine ⟨.inl (0 : Int32), ((0 : Int32), 0), ?_, ?_, rfl, rfl, Or.inl rfl⟩
      · unfold fX5_has
        rw [k_mem1 d, xb_l]
        rw [c_many hN, Option.bind_some, if_pos z]
      · unfold fX7_has
        rw [m_in d, Option.bind_some]
        rw [m_th00, Option.bind_some, if_pos rfl]
        rw [m_cnt hN d h, Option.bind_some, if_pos z]
    · refine ⟨.inl (1 : Int32), ((1 : Int32), 0), ?_, ?_, rfl, rfl, Or.inr rfl⟩
      · unfold fX5_has
        rw [k_mem1 d, xb_l]
        rw [c_many hN, Option.bind_some, if_neg z]
      · unfold fX7_has
        rw [m_in d, Option.bind_some]
        rw [m_th00, Option.bind_some, if_pos rfl]
        rw [m_cnt hN d h, Option.bind_some, if_neg z]
  · refine ⟨(.inr "java/lang/IndexOutOfBoundsException"), ((0 : Int32), 1), ?_, ?_, Or.inl ⟨rfl, rfl⟩, trivial⟩
    · unfold fX5_has
      rw [k_mem0 d, xb_r]
    · unfold fX7_has
      rw [m_out d, Option.bind_some]
      rw [m_th1, Option.bind_some, if_neg (by decide)]
theorem ty_count {N K : Nat} {th sz p0 p1 p2 : Int32} {f g : Nat → Int32} (hN : NBig N) (hK : 100 ≤ K) (h : MT sz f g) : ∃ o y, fX5_count N K sz f p0 p1 p2 = some o ∧ fX7_count N K th g p0 p1 p2 = some y ∧ Ti true o y.2 (fun z => z = y.1) (True) := by
  have hN9 := hN.u
  have hN1 : 100 ≤ N := by omega
  by_cases d : Rg p0 0 2
  · by_cases q : Rg p1 0 3
    · refine ⟨.inl (ss (fun s => bi (so p1 p2 f s)) 2646), (ss (fun s => bi (so p1 p2 f s)) 2646, 0), ?_, ?_, rfl, rfl⟩
      · unfold fX5_count
        rw [k_mem1 d, xb_l, k_rng1 q, xb_l]
        rw [c_many hN, Option.bind_some]
      · unfold fX7_count
        rw [m_in d, Option.bind_some, m_in q, Option.bind_some]
        rw [m_th00, Option.bind_some, if_pos rfl]
        rw [m_cnt hN d h, Option.bind_some]
    · refine ⟨(.inr "java/lang/IllegalArgumentException"), ((0 : Int32), 2), ?_, ?_, Or.inr ⟨rfl, rfl, rfl⟩, trivial⟩
      · unfold fX5_count
        rw [k_mem1 d, xb_l, k_rng0 q, xb_r]
      · unfold fX7_count
        rw [m_in d, Option.bind_some, m_out q, Option.bind_some]
        rw [m_th01, Option.bind_some, if_neg (by decide)]
  · by_cases q : Rg p1 0 3
    · refine ⟨(.inr "java/lang/IndexOutOfBoundsException"), ((0 : Int32), 1), ?_, ?_, Or.inl ⟨rfl, rfl⟩, trivial⟩
      · unfold fX5_count
        rw [k_mem0 d, xb_r]
      · unfold fX7_count
        rw [m_out d, Option.bind_some, m_in q, Option.bind_some]
        rw [m_th1, Option.bind_some, if_neg (by decide)]
    · refine ⟨(.inr "java/lang/IndexOutOfBoundsException"), ((0 : Int32), 1), ?_, ?_, Or.inl ⟨rfl, rfl⟩, trivial⟩
      · unfold fX5_count
        rw [k_mem0 d, xb_r]
      · unfold fX7_count
        rw [m_out d, Option.bind_some, m_out q, Option.bind_some]
        rw [m_th1, Option.bind_some, if_neg (by decide)]
theorem ty_isSame {N K : Nat} {th sz tz p0 p1 : Int32} {f g f2 g2 : Nat → Int32} (hN : NBig N) (hK : 100 ≤ K) (h : MT sz f g) (h2 : MT tz f2 g2) : ∃ o y, fX5_isSame N K sz f tz f2 p0 p1 = some o ∧ fX7_isSame N K th g g2 p0 p1 = some y ∧ Ti false o y.2 (fun z => z = y.1 ∧ (y.1 = 0 ∨ y.1 = 1)) (True) := by
  have hN9 := hN.u
  have hN1 : 100 ≤ N := by omega
  by_cases d : Rg p0 0 2
  · by_cases q : Rg p1 0 2
    · have e1 := c_mlike_ (N := N) (K := K) (sz := sz) (tz := tz) (f := f) (g := f2) 2646 0 N rfl (by omega) (fun s hs => absurd hs (by omega))
      have e1' : fX2_isLike N K sz f tz f2 = some (bi (eqn f f2 2646)) := e1
      have i1 := m_mlike_ (N := N) (K := K) (th0 := th) (th := (0 : Int32)) (f := g) (g := g2) d q 6144 0 N rfl (by omega)
      rw [eqn_b h h2] at i1
      clear e1
      generalize eqn f f2 2646 = b at e1' i1
      refine ⟨.inl (bi b), (bi b, 0), ?_, ?_, rfl, rfl, bi_ok _⟩
      · unfold fX5_isSame
        rw [k_mem1 d, xb_l, k_mem1 q, xb_l]
        rw [e1', Option.bind_some, if_pos (bi_ok _)]
      · unfold fX7_isSame
        rw [m_in d, Option.bind_some, if_pos rfl, m_in q, Option.bind_some, if_pos rfl]
        unfold fX7_isSame_24
        rw [m_th00, Option.bind_some, if_pos rfl]
        exact i1
    · refine ⟨(.inr "java/lang/IndexOutOfBoundsException"), ((0 : Int32), 1), ?_, ?_, Or.inl ⟨rfl, rfl⟩, trivial⟩
      · unfold fX5_isSame
        rw [k_mem1 d, xb_l, k_mem0 q, xb_r]
      · unfold fX7_isSame
        rw [m_in d, Option.bind_some, if_pos rfl, m_out q, Option.bind_some, if_neg (by decide)]
        unfold fX7_isSame_19 fX7_isSame_24
        rw [m_th1, Option.bind_some, if_neg (by decide)]
  · by_cases q : Rg p1 0 2
    · refine ⟨(.inr "java/lang/IndexOutOfBoundsException"), ((0 : Int32), 1), ?_, ?_, Or.inl ⟨rfl, rfl⟩, trivial⟩
      · unfold fX5_isSame
        rw [k_mem0 d, xb_r]
      · unfold fX7_isSame
        rw [m_out d, Option.bind_some, if_neg (by decide)]
        unfold fX7_isSame_19 fX7_isSame_24
        rw [m_th1, Option.bind_some, if_neg (by decide)]
    · refine ⟨(.inr "java/lang/IndexOutOfBoundsException"), ((0 : Int32), 1), ?_, ?_, Or.inl ⟨rfl, rfl⟩, trivial⟩
      · unfold fX5_isSame
        rw [k_mem0 d, xb_r]
      · unfold fX7_isSame
        rw [m_out d, Option.bind_some, if_neg (by decide)]
        unfold fX7_isSame_19 fX7_isSame_24
        rw [m_th1, Option.bind_some, if_neg (by decide)]
theorem ty_isSameOwn {N K : Nat} {th sz p0 : Int32} {f g : Nat → Int32} (hN : NBig N) (hK : 100 ≤ K)  : ∃ o y, fX5_isSameOwn N K sz f p0 = some o ∧ fX7_isSameOwn N K th g p0 = some y ∧ Ti false o y.2 (fun z => z = y.1 ∧ (y.1 = 0 ∨ y.1 = 1)) (True) := by
  have hN9 := hN.u
  have hN1 : 100 ≤ N := by omega
  by_cases d : Rg p0 0 2
  · have e1 := c_mlikeO_ (N := N) (K := K) (sz := sz) (f := f) 2646 0 N rfl (by omega)
    have e1' : fX2_isLikeOwn N K sz f = some 1 := e1
    refine ⟨.inl (1 : Int32), ((1 : Int32), 0), ?_, ?_, rfl, rfl, Or.inr rfl⟩
    · unfold fX5_isSameOwn
      rw [k_mem1 d, xb_l, xb_l]
      rw [e1', Option.bind_some, if_pos (Or.inr rfl)]
    · unfold fX7_isSameOwn
      rw [m_in d, Option.bind_some, if_pos rfl, Option.bind_some, if_pos rfl]
      unfold fX7_isSameOwn_24
      rw [m_th00, Option.bind_some, if_pos rfl]
      exact m_mlikeO_ (N := N) (K := K) (th0 := th) (th := (0 : Int32)) (f := g) d 6144 0 N rfl (by omega)
  · refine ⟨(.inr "java/lang/IndexOutOfBoundsException"), ((0 : Int32), 1), ?_, ?_, Or.inl ⟨rfl, rfl⟩, trivial⟩
    · unfold fX5_isSameOwn
      rw [k_mem0 d, xb_r]
    · unfold fX7_isSameOwn
      rw [m_out d, Option.bind_some, if_neg (by decide)]
      unfold fX7_isSameOwn_19 fX7_isSameOwn_24
      rw [m_th1, Option.bind_some, if_neg (by decide)]

end MG_60qmties
section MG_60rcled
/-! ===== ledgers: legs, worths, what is reached ===== -/
def sgl (st j : Nat) : Nat → Nat → Nat → Nat
  | 0, _, acc => acc
  | n + 1, i, acc => if j < i then acc else sgl st j n (i + st) (if j % i = 0 then acc + i else acc)
/-- the sum of the divisors 1, 1 + st, .. -/
def sg (st j : Nat) : Nat := sgl st j 21 1 0
def P1 (j : Nat) : Nat := j * (3 * j - 1) / 2
def P2 (j : Nat) : Nat := j * (3 * j + 1) / 2
def lg (r o : Nat) : Bool := decide (r ≠ 0 ∨ o = 1 ∨ o = 2 ∨ o = 5 ∨ o = 7 ∨ o = 12 ∨ o = 15)
/-- by how much a leg counts -/
def lfI (r o : Nat) : Int32 := if r = 0 then (if o = 1 ∨ o = 2 ∨ o = 12 ∨ o = 15 then 1 else if o = 5 ∨ o = 7 then -1 else 0) else Int32.ofNat (sg r o)
def lwL : List (List Nat) := [[1, 1, 2, 3, 5, 7, 11, 15, 22, 30, 42, 56, 77, 101, 135, 176, 231, 297, 385, 490, 627], [1, 1, 2, 3, 5, 7, 11, 15, 22, 30, 42, 56, 77, 101, 135, 176, 231, 297, 385, 490, 627], [1, 1, 1, 2, 2, 3, 4, 5, 6, 8, 10, 12, 15, 18, 22, 27, 32, 38, 46, 54, 64]]
def LW (r n : Nat) : Nat := (lwL.getD r []).getD n 0
theorem LW_b : ∀ r, r < 3 → ∀ n, n < 21 → 1 ≤ LW r n ∧ LW r n ≤ 627 := by decide +kernel
theorem LW_0 : ∀ r, r < 3 → LW r 0 = 1 := by decide
theorem sg_b : ∀ r, r < 3 → ∀ o, o < 21 → 1 ≤ r → 1 ≤ o → 1 ≤ sg r o ∧ sg r o ≤ 60 := by decide +kernel
theorem lf_0 : ∀ r, r < 3 → ∀ o, o < 21 → 1 ≤ o → (lfI r o = 0 ↔ lg r o = false) := by decide +kernel
/-! reached through numbers that aren't kept -/
def LR (r : Nat) (T : Nat → Int32) : Nat → Nat → Nat → Prop
  | 0, _, _ => False
  | d + 1, x, p => 1 ≤ x ∧ T x = -1 ∧ (x = p ∨ ∃ o, 1 ≤ o ∧ o ≤ x ∧ lg r o = true ∧ LR r T d (x - o) p)
theorem LR_s {r d x p : Nat} {T : Nat → Int32} : LR r T (d + 1) x p = (1 ≤ x ∧ T x = -1 ∧ (x = p ∨ ∃ o, 1 ≤ o ∧ o ≤ x ∧ lg r o = true ∧ LR r T d (x - o) p)) := rfl
theorem LR_st {r p : Nat} {T : Nat → Int32} : ∀ d x, x < d → (LR r T d x p ↔ LR r T (d + 1) x p) := by
  intro d
  induction d with
  | zero => intro x h; omega
  | succ d ih =>
    intro x h
    rw [LR_s (d := d), LR_s (d := d + 1)]
    constructor
    · rintro ⟨a, b, c⟩
      refine ⟨a, b, ?_⟩
      rcases c with c | ⟨o, o1, o2, o3, c⟩
      · exact Or.inl c
      · exact Or.inr ⟨o, o1, o2, o3, (ih _ (by omega)).mp c⟩
    · rintro ⟨a, b, c⟩
      refine ⟨a, b, ?_⟩
      rcases c with c | ⟨o, o1, o2, o3, c⟩
      · exact Or.inl c
      · exact Or.inr ⟨o, o1, o2, o3, (ih _ (by omega)).mpr c⟩
def LRR (r : Nat) (T : Nat → Int32) (x p : Nat) : Prop := LR r T 25 x p
theorem LRR_eq {r x p : Nat} {T : Nat → Int32} (hx : x ≤ 20) : LRR r T x p ↔ (1 ≤ x ∧ T x = -1 ∧ (x = p ∨ ∃ o, 1 ≤ o ∧ o ≤ x ∧ lg r o = true ∧ LRR r T (x - o) p)) := by
  unfold LRR
  rw [LR_s (d := 24)]
  constructor
  · rintro ⟨a, b, c⟩
    refine ⟨a, b, ?_⟩
    rcases c with c | ⟨o, o1, o2, o3, c⟩
    · exact Or.inl c
    · exact Or.inr ⟨o, o1, o2, o3, (LR_st 24 _ (by omega)).mp c⟩
  · rintro ⟨a, b, c⟩
    refine ⟨a, b, ?_⟩
    rcases c with c | ⟨o, o1, o2, o3, c⟩
    · exact Or.inl c
    · exact Or.inr ⟨o, o1, o2, o3, (LR_st 24 _ (by omega)).mpr c⟩
theorem LRR_un {r p : Nat} {T : Nat → Int32} : ∀ d x, x < d → x ≤ 20 → LRR r T x p → T p = -1 ∧ 1 ≤ p ∧ p ≤ x := by
  intro d
  induction d with
  | zero => intro x h; omega
  | succ d ih =>
    intro x h hx hr
    obtain ⟨a, b, c⟩ := (LRR_eq hx).mp hr
    rcases c with rfl | ⟨o, o1, o2, -, c⟩
    · exact ⟨b, a, Nat.le_refl _⟩
    · obtain ⟨e1, e2, e3⟩ := ih (x - o) (by omega) (by omega) c
      exact ⟨e1, e2, by omega⟩
theorem LRR_b {r x p : Nat} {T : Nat → Int32} (hx : x ≤ 20) (h : LRR r T x p) : T p = -1 ∧ 1 ≤ p ∧ p ≤ x := LRR_un (x + 1) x (by omega) hx h
theorem LRR_self {r x : Nat} {T : Nat → Int32} (hx : x ≤ 20) (h1 : 1 ≤ x) (u : T x = -1) : LRR r T x x := (LRR_eq hx).mpr ⟨h1, u, Or.inl rfl⟩
theorem LRR_tr_ {r b p : Nat} {T : Nat → Int32} : ∀ d x, x < d → x ≤ 20 → LRR r T x b → LRR r T b p → LRR r T x p := by
  intro d
  induction d with
  | zero => intro x h; omega
  | succ d ih =>
    intro x h hx hr h2
    obtain ⟨a, u, c⟩ := (LRR_eq hx).mp hr
    rcases c with rfl | ⟨o, o1, o2, o3, c⟩
    · exact h2
    · exact (LRR_eq hx).mpr ⟨a, u, Or.inr ⟨o, o1, o2, o3, ih (x - o) (by omega) (by omega) c h2⟩⟩
theorem LRR_tr {r x b p : Nat} {T : Nat → Int32} (hx : x ≤ 20) (h : LRR r T x b) (h2 : LRR r T b p) : LRR r T x p := LRR_tr_ (x + 1) x (by omega) hx h h2
theorem LRR_leg {r x b o : Nat} {T : Nat → Int32} (hx : x ≤ 20) (h : LRR r T x b) (h1 : 1 ≤ o) (h2 : o < b) (h3 : lg r o = true) (u : T (b - o) = -1) : LRR r T x (b - o) := by
  obtain ⟨e1, e2, e3⟩ := LRR_b hx h
  exact LRR_tr hx h ((LRR_eq (by omega)).mpr ⟨e2, e1, Or.inr ⟨o, h1, by omega, h3, LRR_self (by omega) (by omega) u⟩⟩)
theorem LRR_par {r p : Nat} {T : Nat → Int32} : ∀ d x, x < d → x ≤ 20 → LRR r T x p → x = p ∨ ∃ b, LRR r T x b ∧ p < b ∧ lg r (b - p) = true := by
  intro d
  induction d with
  | zero => intro x h; omega
  | succ d ih =>
    intro x h hx hr
    obtain ⟨a, u, c⟩ := (LRR_eq hx).mp hr
    rcases c with c | ⟨o, o1, o2, o3, c⟩
    · exact Or.inl c
    · refine Or.inr ?_
      rcases ih (x - o) (by omega) (by omega) c with e | ⟨b, b1, b2, b3⟩
      · refine ⟨x, LRR_self hx a u, by omega, ?_⟩
        rw [show x - p = o from by omega]
        exact o3
      · exact ⟨b, (LRR_eq hx).mpr ⟨a, u, Or.inr ⟨o, o1, o2, o3, b1⟩⟩, b2, b3⟩
/-! contents -/
def LOK (r : Nat) (f : Nat → Int32) : Prop := ∀ p, 1 ≤ p → p ≤ 20 → f p = -1 ∨ f p = Int32.ofNat (LW r p)
/-- f' is f with the worths of the numbers in A -/
def LF (r : Nat) (f : Nat → Int32) (A : Nat → Prop) (f' : Nat → Int32) : Prop := ∀ p, 1 ≤ p → p ≤ 20 → (A p → f' p = Int32.ofNat (LW r p)) ∧ (¬ A p → f' p = f p)
def Clo (r : Nat) (f : Nat → Int32) (A : Nat → Prop) : Prop := ∀ p, A p → p ≤ 20 ∧ ∀ q, LRR r f p q → A q
theorem lw_ne {r p : Nat} (hr : r < 3) (hp : p ≤ 20) : ¬ Int32.ofNat (LW r p) = -1 := by
  have := LW_b r hr p (by omega)
  exact o_m1ne (by omega)
theorem LF.ok {r : Nat} {f f' : Nat → Int32} {A : Nat → Prop} (h : LF r f A f') (ho : LOK r f) : LOK r f' := by
  intro p h1 h2
  by_cases c : A p
  · exact Or.inr ((h p h1 h2).1 c)
  · rw [(h p h1 h2).2 c]; exact ho p h1 h2
theorem LF.sub {r : Nat} {f f1 : Nat → Int32} {A : Nat → Prop} (hr : r < 3) (h : LF r f A f1) {q : Nat} : ∀ d y, y < d → y ≤ 20 → LRR r f1 y q → LRR r f y q := by
  intro d
  induction d with
  | zero => intro y hd; omega
  | succ d ih =>
    intro y hd hy hR
    obtain ⟨a, u, c⟩ := (LRR_eq hy).mp hR
    have uT : f y = -1 := by
      by_cases w : A y
      · exact absurd ((h y a hy).1 w ▸ u) (lw_ne hr hy)
      · rw [← (h y a hy).2 w]; exact u
    refine (LRR_eq hy).mpr ⟨a, uT, ?_⟩
    rcases c with c | ⟨o, o1, o2, o3, c⟩
    · exact Or.inl c
    · exact Or.inr ⟨o, o1, o2, o3, ih (y - o) (by omega) (by omega) c⟩
theorem LF.sup {r : Nat} {f f1 : Nat → Int32} {A : Nat → Prop} (hA : Clo r f A) (h : LF r f A f1) {q : Nat} : ∀ d y, y < d → y ≤ 20 → LRR r f y q → LRR r f1 y q ∨ A q := by
  intro d
  induction d with
  | zero => intro y hd; omega
  | succ d ih =>
    intro y hd hy hR
    obtain ⟨a, u, c⟩ := (LRR_eq hy).mp hR
    by_cases w : A y
    · exact Or.inr ((hA y w).2 q hR)
    · have u1 : f1 y = -1 := by rw [(h y a hy).2 w]; exact u
      rcases c with c | ⟨o, o1, o2, o3, c⟩
      · exact Or.inl ((LRR_eq hy).mpr ⟨a, u1, Or.inl c⟩)
      · rcases ih (y - o) (by omega) (by omega) c with z | z
        · exact Or.inl ((LRR_eq hy).mpr ⟨a, u1, Or.inr ⟨o, o1, o2, o3, z⟩⟩)
        · exact Or.inr z
theorem LF.step {r y : Nat} {f f1 f2 : Nat → Int32} {A : Nat → Prop} (hr : r < 3) (hy : y ≤ 20) (hA : Clo r f A) (h : LF r f A f1) (h2 : LF r f1 (LRR r f1 y) f2) : LF r f (fun p => A p ∨ LRR r f y p) f2 ∧ Clo r f (fun p => A p ∨ LRR r f y p) := by
  refine ⟨fun p p1 p2 => ⟨fun z => ?_, fun z => ?_⟩, fun p z => ?_⟩
  · by_cases c : LRR r f1 y p
    · exact (h2 p p1 p2).1 c
    · rw [(h2 p p1 p2).2 c]
      refine (h p p1 p2).1 ?_
      rcases z with z | z
      · exact z
      · rcases LF.sup hA h (y + 1) y (by omega) hy z with w | w
        · exact absurd w c
        · exact w
  · rw [(h2 p p1 p2).2 (fun c => z (Or.inr (LF.sub hr h (y + 1) y (by omega) hy c)))]
    exact (h p p1 p2).2 (fun c => z (Or.inl c))
  · rcases z with z | z
    · exact ⟨(hA p z).1, fun q w => Or.inl ((hA p z).2 q w)⟩
    · have b := LRR_b hy z
      exact ⟨by omega, fun q w => Or.inr (LRR_tr hy z w)⟩
theorem LF.iff {r : Nat} {f f' : Nat → Int32} {A B : Nat → Prop} (h : LF r f A f') (e : ∀ p, A p ↔ B p) : LF r f B f' := fun p h1 h2 => ⟨fun z => (h p h1 h2).1 ((e p).mpr z), fun z => (h p h1 h2).2 (fun y => z ((e p).mp y))⟩
theorem Clo.iff {r : Nat} {f : Nat → Int32} {A B : Nat → Prop} (h : Clo r f A) (e : ∀ p, A p ↔ B p) : Clo r f B := fun p z => ⟨(h p ((e p).mpr z)).1, fun q w => (e q).mp ((h p ((e p).mpr z)).2 q w)⟩
/-- what the legs below j reach -/
def Dn (r : Nat) (f : Nat → Int32) (x j p : Nat) : Prop := ∃ o, 1 ≤ o ∧ o < j ∧ o ≤ x ∧ lg r o = true ∧ LRR r f (x - o) p
theorem LF.r {r : Nat} {f : Nat → Int32} {A : Nat → Prop} (h : ∀ p, ¬ A p) : LF r f A f := fun p _ _ => ⟨fun z => absurd z (h p), fun _ => rfl⟩
theorem Dn_0 {r x p : Nat} {f : Nat → Int32} : ¬ Dn r f x 1 p := by
  rintro ⟨o, a, b, -⟩
  omega
theorem Dn_s {r x j p : Nat} {f : Nat → Int32} (h1 : 1 ≤ j) (hj : j ≤ x) (hl : lg r j = true) : (Dn r f x j p ∨ LRR r f (x - j) p) ↔ Dn r f x (j + 1) p := by
  constructor
  · rintro (⟨o, a, b, c, d, e⟩ | h)
    · exact ⟨o, a, by omega, c, d, e⟩
    · exact ⟨j, h1, by omega, hj, hl, h⟩
  · rintro ⟨o, a, b, c, d, e⟩
    by_cases z : o = j
    · subst z; exact Or.inr e
    · exact Or.inl ⟨o, a, by omega, c, d, e⟩
theorem Dn_n {r x j p : Nat} {f : Nat → Int32} (hl : ¬ (j ≤ x ∧ lg r j = true)) : Dn r f x j p ↔ Dn r f x (j + 1) p := by
  constructor
  · rintro ⟨o, a, b, c, d, e⟩
    exact ⟨o, a, by omega, c, d, e⟩
  · rintro ⟨o, a, b, c, d, e⟩
    by_cases z : o = j
    · subst z; exact absurd ⟨c, d⟩ hl
    · exact ⟨o, a, by omega, c, d, e⟩
theorem LRR_Dn {r x p : Nat} {f : Nat → Int32} (hx : x ≤ 20) (h1 : 1 ≤ x) (u : f x = -1) : LRR r f x p ↔ (x = p ∨ Dn r f x (x + 1) p) := by
  rw [LRR_eq hx]
  constructor
  · rintro ⟨-, -, c⟩
    rcases c with c | ⟨o, o1, o2, o3, c⟩
    · exact Or.inl c
    · exact Or.inr ⟨o, o1, by omega, o2, o3, c⟩
  · rintro (c | ⟨o, o1, -, o2, o3, c⟩)
    · exact ⟨h1, u, Or.inl c⟩
    · exact ⟨h1, u, Or.inr ⟨o, o1, o2, o3, c⟩⟩
/-! counts -/
def lcnt (f : Nat → Int32) : Nat := sm (fun p => if f p = -1 then 0 else 1) 20
/-- how many legs of a number are wanted -/
def lnl (r n : Nat) : Nat := sm (fun m => if lg r (n - m) = true then 1 else 0) (n - 1)
def lphi (r : Nat) (f : Nat → Int32) : Nat := sm (fun p => if f p = -1 then 0 else lnl r p) 20
theorem upd_ind {f : Nat → Int32} {i : Nat} {v : Int32} {c : Nat → Nat} : (fun p => if upd f i v p = -1 then 0 else c p) = upm (fun p => if f p = -1 then 0 else c p) i (if v = -1 then 0 else c i) := by
  funext p
  unfold upd upm
  by_cases e : p = i
  · rw [if_pos e, if_pos e, e]
  · rw [if_neg e, if_neg e]
theorem lcnt_upd {f : Nat → Int32} {i : Nat} {v : Int32} (h1 : 1 ≤ i) (h2 : i ≤ 20) : lcnt (upd f i v) + (if f i = -1 then 0 else 1) = lcnt f + (if v = -1 then 0 else 1) := by
  unfold lcnt
  rw [upd_ind (c := fun _ => 1)]
  exact sm_upm (g := fun p => if f p = -1 then 0 else 1) h1 h2
theorem lphi_upd {r : Nat} {f : Nat → Int32} {i : Nat} {v : Int32} (h1 : 1 ≤ i) (h2 : i ≤ 20) : lphi r (upd f i v) + (if f i = -1 then 0 else lnl r i) = lphi r f + (if v = -1 then 0 else lnl r i) := by
  unfold lphi
  rw [upd_ind (c := lnl r)]
  exact sm_upm (g := fun p => if f p = -1 then 0 else lnl r p) h1 h2
theorem lcnt_congr {f g : Nat → Int32} (h : ∀ p, 1 ≤ p → p ≤ 20 → g p = f p) : lcnt g = lcnt f := sm_congr (fun p a b => by rw [h p a b])
theorem lphi_congr {r : Nat} {f g : Nat → Int32} (h : ∀ p, 1 ≤ p → p ≤ 20 → g p = f p) : lphi r g = lphi r f := sm_congr (fun p a b => by rw [h p a b])
def LCK (r : Nat) (f f' : Nat → Int32) (n : Nat) (c1 c1' c2 c2' c3 c3' : Int32) : Prop := ∃ w d : Nat, d ≤ w ∧ w + lphi r f = lphi r f' + n ∧ lcnt f' = lcnt f + d ∧ c1' = c1 + Int32.ofNat w ∧ c2' = c2 + Int32.ofNat d ∧ c3' = c3 + Int32.ofNat (w - d)
theorem LCK.r {r : Nat} {f : Nat → Int32} {c1 c2 c3 : Int32} : LCK r f f 0 c1 c1 c2 c2 c3 c3 := ⟨0, 0, Nat.le_refl _, by omega, by omega, o_a0, o_a0, o_a0⟩
theorem LCK.found {r : Nat} {f : Nat → Int32} {c1 c2 c3 : Int32} : LCK r f f 1 c1 (c1 + (1 : Int32)) c2 c2 c3 (c3 + (1 : Int32)) := ⟨1, 0, by omega, by omega, by omega, rfl, o_a0, rfl⟩
theorem LCK.trans {r : Nat} {f f1 f2 : Nat → Int32} {r1 r2 : Nat} {a1 b1 e1 a2 b2 e2 a3 b3 e3 : Int32} (h : LCK r f f1 r1 a1 b1 a2 b2 a3 b3) (g : LCK r f1 f2 r2 b1 e1 b2 e2 b3 e3) : LCK r f f2 (r1 + r2) a1 e1 a2 e2 a3 e3 := by
  obtain ⟨w, d, h0, h1, h2, rfl, rfl, rfl⟩ := h
  obtain ⟨w', d', g0, g1, g2, rfl, rfl, rfl⟩ := g
  exact ⟨w + w', d + d', by omega, by omega, by omega, o_a2, o_a2, by rw [o_a2, show w - d + (w' - d') = w + w' - (d + d') from by omega]⟩
theorem LCK.made {r : Nat} {f f3 : Nat → Int32} {i n : Nat} {v c1 d1 c2 d2 c3 d3 : Int32} (h : LCK r f f3 n (c1 + (1 : Int32)) d1 c2 d2 c3 d3) (i1 : 1 ≤ i) (i2 : i ≤ 20) (hu : f3 i = -1) (hv : ¬ v = -1) (hn : lnl r i = n) : LCK r f (upd f3 i v) 1 c1 d1 c2 (d2 + (1 : Int32)) c3 d3 := by
  obtain ⟨w, d, h0, h1, h2, rfl, rfl, rfl⟩ := h
  have p := lphi_upd (r := r) (f := f3) (v := v) i1 i2
  have q := lcnt_upd (f := f3) (v := v) i1 i2
  rw [if_pos hu, if_neg hv] at p q
  refine ⟨1 + w, d + 1, by omega, by omega, by omega, ?_, ?_, by rw [show 1 + w - (d + 1) = w - d from by omega]⟩
  · exact o_a2 (a := 1)
  · exact o_a2 (b := 1)
/-- the wanted legs below j -/
def nlj (r x : Nat) : Nat → Nat
  | 0 => 0
  | j + 1 => nlj r x j + (if 1 ≤ j ∧ j < x ∧ lg r j = true then 1 else 0)
theorem nlj_ok : ∀ r, r < 3 → ∀ x, x < 21 → 1 ≤ x → nlj r x (x + 1) = lnl r x := by decide +kernel
/-! ===== the class's divisors ===== -/
theorem c_sg_ {N K : Nat} {ru sz : Int32} {f : Nat → Int32} {j st : Nat} (hj : j ≤ 20) (h1 : 1 ≤ st) (h2 : st ≤ 2) : ∀ n i acc fu, j < i + n → 1 ≤ i → i ≤ 22 → acc ≤ 1000 - 20 * n → n ≤ 21 → n < fu → fX1_sumOfDivisors_19 N K ru sz f (Int32.ofNat j) fu (Int32.ofNat st) (Int32.ofNat acc) (Int32.ofNat i) = some (Int32.ofNat (sgl st j n i acc)) := by
  intro n
  induction n with
  | zero =>
    intro i acc fu hi i1 i2 _ _ hfu
    obtain ⟨fu, rfl⟩ : ∃ m, fu = m + 1 := ⟨fu - 1, by omega⟩
    unfold fX1_sumOfDivisors_19 sgl
    rw [if_pos (by rw [o_lt (by omega) (by omega)]; omega)]
  | succ n ih =>
    intro i acc fu hi i1 i2 ha hn hfu
    obtain ⟨fu, rfl⟩ : ∃ m, fu = m + 1 := ⟨fu - 1, by omega⟩
    unfold fX1_sumOfDivisors_19 sgl
    by_cases c : j < i
    · rw [if_pos (by rw [o_lt (by omega) (by omega)]; exact c), if_pos c]
    · rw [if_neg (by rw [o_lt (by omega) (by omega)]; exact c), if_neg c, if_neg (by rw [show (0 : Int32) = Int32.ofNat 0 from rfl, o_eq (by omega) (by omega)]; omega), o_mod (by omega) (by omega)]
      unfold fX1_sumOfDivisors_37
      by_cases e : j % i = 0
      · rw [if_pos (by rw [e]; rfl), if_pos e, o_add, o_add]
        exact ih (i + st) (acc + i) fu (by omega) (by omega) (by omega) (by omega) (by omega) (by omega)
      · rw [if_neg (by rw [show (0 : Int32) = Int32.ofNat 0 from rfl, o_eq (by have := Nat.mod_lt j (show 0 < i by omega); omega) (by omega)]; exact e), if_neg e, o_add]
        exact ih (i + st) acc fu (by omega) (by omega) (by omega) (by omega) (by omega) (by omega)
theorem c_sg {N K : Nat} {sz : Int32} {f : Nat → Int32} {r j : Nat} (hN : 100 ≤ N) (hr : r < 3) (r1 : 1 ≤ r) (hj : j ≤ 20) : fX1_sumOfDivisors N K (Int32.ofNat r) sz f (Int32.ofNat j) = some (Int32.ofNat (sg r j)) := by
  have hr2 : r = 1 ∨ r = 2 := by omega
  unfold fX1_sumOfDivisors fX1_sumOfDivisors_13
  rcases hr2 with rfl | rfl
  · rw [if_neg (by decide)]
    exact c_sg_ (st := 1) hj (by omega) (by omega) 21 1 0 N (by omega) (by omega) (by omega) (by omega) (by omega) (by omega)
  · rw [if_pos (by decide)]
    exact c_sg_ (st := 2) hj (by omega) (by omega) 21 1 0 N (by omega) (by omega) (by omega) (by omega) (by omega) (by omega)
/-! ===== the class: a number known ===== -/
def LKP (r : Nat) (f f' : Nat → Int32) (sz' : Int32) (A : Nat → Prop) (n : Nat) (c1 c1' c2 c2' c3 c3' : Int32) : Prop := LF r f A f' ∧ sz' = Int32.ofNat (lcnt f') ∧ LCK r f f' n c1 c1' c2 c2' c3 c3'
abbrev RecT : Type := Int32 → Int32 → (Nat → Int32) → Int32 → Int32 → Int32 → Int32 → Int32 → Int32 → Int32 → Int32 → Option (Int32 × Int32 × (Nat → Int32) × Int32 × Int32 × Int32)
/-- a recursion that knows the numbers below x -/
def RecOk (r : Nat) (rec : RecT) (c0 c4 c5 : Int32) (x dep : Nat) : Prop := ∀ y (sz : Int32) (f : Nat → Int32) (c1 c2 c3 : Int32), y < x → LOK r f → sz = Int32.ofNat (lcnt f) → ∃ sz' f' c1' c2' c3', rec (Int32.ofNat r) sz f c0 c1 c2 c3 c4 c5 (Int32.ofNat y) (Int32.ofNat dep) = some (Int32.ofNat (LW r y), sz', f', c1', c2', c3') ∧ LKP r f f' sz' (LRR r f y) (if y = 0 then 0 else 1) c1 c1' c2 c2' c3 c3'
def dsum (r x : Nat) : Nat → Nat
  | 0 => 0
  | j + 1 => dsum r x j + (if 1 ≤ j then LW r (x - j) * sg r j else 0)
theorem dsum_ok : ∀ r, r < 3 → ∀ x, x < 21 → 1 ≤ r → 1 ≤ x → dsum r x (x + 1) / x = LW r x := by decide +kernel
theorem dsum_b : ∀ r, r < 3 → ∀ x, x < 21 → ∀ j, j < 22 → dsum r x j ≤ 100000 := by decide +kernel
theorem c_div_ {N K r x dep : Nat} {rec : RecT} {sz0 d1 d2 d3 c0 c4 c5 : Int32} {f0 f : Nat → Int32} (hN : 100 ≤ N) (hr : r < 3) (r1 : 1 ≤ r) (h1 : 1 ≤ x) (hx : x ≤ 20) (hf : LOK r f) (hrec : RecOk r rec c0 c4 c5 x dep) {b1 b2 b3 : Int32} : ∀ n j fu (sz : Int32) (g : Nat → Int32) (c1 c2 c3 : Int32), j + n = x + 1 → 1 ≤ j → n < fu → LKP r f g sz (Dn r f x j) (nlj r x j) b1 c1 b2 c2 b3 c3 → Clo r f (Dn r f x j) → ∃ sz' f' c1' c2' c3', fX1_byDivisors_13 N K rec (Int32.ofNat r) sz0 f0 c0 d1 d2 d3 c4 c5 (Int32.ofNat x) (Int32.ofNat dep) fu (Int32.ofNat (dsum r x j)) (Int32.ofNat j) sz g c1 c2 c3 = some (Int32.ofNat (LW r x), sz', f', c1', c2', c3') ∧ LKP r f f' sz' (Dn r f x (x + 1)) (lnl r x) b1 c1' b2 c2' b3 c3' := by
  intro n
  induction n with
  | zero =>
    intro j fu sz g c1 c2 c3 hj j1 hfu h hc
    obtain ⟨fu, rfl⟩ : ∃ m, fu = m + 1 := ⟨fu - 1, by omega⟩
    obtain rfl : j = x + 1 := by omega
    have db := dsum_b r hr x (by omega) (x + 1) (by omega)
    rw [nlj_ok r hr x (by omega) h1] at h
    refine ⟨sz, g, c1, c2, c3, ?_, h⟩
    unfold fX1_byDivisors_13
    rw [if_pos (by rw [o_lt (by omega) (by omega)]; omega), if_neg (by rw [show (0 : Int32) = Int32.ofNat 0 from rfl, o_eq (by omega) (by omega)]; omega), o_div (by omega) (by omega), dsum_ok r hr x (by omega) r1 h1]
  | succ n ih =>
    intro j fu sz g c1 c2 c3 hj j1 hfu h hc
    obtain ⟨fu, rfl⟩ : ∃ m, fu = m + 1 := ⟨fu - 1, by omega⟩
    obtain ⟨hl, hs, hk⟩ := h
    have hlg : lg r j = true := decide_eq_true (Or.inl (by omega))
    obtain ⟨sz1, g1, x1, x2, x3, e1, e2, e3, e4⟩ := hrec (x - j) sz g c1 c2 c3 (by omega) (hl.ok hf) hs
    obtain ⟨s1, s2⟩ := LF.step hr (by omega) hc hl e2
    have es : dsum r x (j + 1) = dsum r x j + LW r (x - j) * sg r j := by
      show dsum r x j + (if 1 ≤ j then LW r (x - j) * sg r j else 0) = _
      rw [if_pos j1]
    have en : nlj r x (j + 1) = nlj r x j + (if x - j = 0 then 0 else 1) := by
      show nlj r x j + (if 1 ≤ j ∧ j < x ∧ lg r j = true then 1 else 0) = _
      by_cases z : x - j = 0
      · rw [if_pos z, if_neg (by omega)]
      · rw [if_neg z, if_pos ⟨j1, by omega, hlg⟩]
    have hk2 := hk.trans e4
    rw [← en] at hk2
    obtain ⟨sz', f', c1', c2', c3', r1', r2'⟩ := ih (j + 1) fu sz1 g1 x1 x2 x3 (by omega) (by omega) (by omega) ⟨s1.iff (fun p => Dn_s j1 (by omega) hlg), e3, hk2⟩ (s2.iff (fun p => Dn_s j1 (by omega) hlg))
    refine ⟨sz', f', c1', c2', c3', ?_, r2'⟩
    unfold fX1_byDivisors_13
    rw [if_neg (by rw [o_lt (by omega) (by omega)]; omega), o_sub (by omega), e1, Option.bind_some, c_sg hN hr r1 (by omega), Option.bind_some, o_mul, o_add, ← es, o_1]
    exact r1'
/-! pentagons -/
def pacc (x : Nat) : Nat → Int32
  | 0 => 0
  | j + 1 => pacc x j + (if 1 ≤ j then (if j % 2 = 0 then -(Int32.ofNat (LW 0 (x - P1 j)) + (if x < P2 j then 0 else Int32.ofNat (LW 0 (x - P2 j)))) else (Int32.ofNat (LW 0 (x - P1 j)) + (if x < P2 j then 0 else Int32.ofNat (LW 0 (x - P2 j))))) else 0)
theorem pacc_ok_ : ∀ x, x < 21 → ∀ j, j < 5 → (1 ≤ x ∧ 1 ≤ j ∧ x < P1 j ∧ (j = 1 ∨ P1 (j - 1) ≤ x)) → pacc x j = Int32.ofNat (LW 0 x) := by decide +kernel
theorem pacc_ok (x : Nat) (hx : x < 21) (h1 : 1 ≤ x) (j : Nat) (hj : j < 5) (j1 : 1 ≤ j) (h : x < P1 j ∧ (j = 1 ∨ P1 (j - 1) ≤ x)) : pacc x j = Int32.ofNat (LW 0 x) := pacc_ok_ x hx j hj ⟨h1, j1, h⟩
theorem o_P1 {j : Nat} (h1 : 1 ≤ j) (h : j ≤ 5) : (Int32.ofNat j * (((3 : Int32) * Int32.ofNat j) - (1 : Int32))) / (2 : Int32) = Int32.ofNat (P1 j) := by
  have hj : j = 1 ∨ j = 2 ∨ j = 3 ∨ j = 4 ∨ j = 5 := by omega
  rcases hj with rfl | rfl | rfl | rfl | rfl <;> decide
theorem o_P2 {j : Nat} (h1 : 1 ≤ j) (h : j ≤ 5) : (Int32.ofNat j * (((3 : Int32) * Int32.ofNat j) + (1 : Int32))) / (2 : Int32) = Int32.ofNat (P2 j) := by
  have hj : j = 1 ∨ j = 2 ∨ j = 3 ∨ j = 4 ∨ j = 5 := by omega
  rcases hj with rfl | rfl | rfl | rfl | rfl <;> decide
theorem P_ok : ∀ j, j < 5 → 1 ≤ j → (P1 j < P2 j ∧ P2 j < P1 (j + 1) ∧ 1 ≤ P1 j ∧ P2 j ≤ 26 ∧ P1 (j + 1) ≤ 35) := by decide
theorem P_lg_ : ∀ j, j < 5 → ∀ o, o < 21 → (1 ≤ j ∧ P1 j ≤ o ∧ o < P1 (j + 1)) → (lg 0 o = true ↔ (o = P1 j ∨ o = P2 j)) := by decide +kernel
theorem P_lg (j : Nat) (hj : j < 5) (o : Nat) (ho : o < 21) (h1 : 1 ≤ j) (h2 : P1 j ≤ o) (h3 : o < P1 (j + 1)) : lg 0 o = true ↔ (o = P1 j ∨ o = P2 j) := P_lg_ j hj o ho ⟨h1, h2, h3⟩
/-- the legs below the next pentagons -/
theorem Dn_p1 {x j p : Nat} {f : Nat → Int32} (hx : x ≤ 20) (h1 : 1 ≤ j) (hj : j < 5) (hp : P1 j ≤ x) (h2 : ¬ x < P2 j) : ((Dn 0 f x (P1 j) p ∨ LRR 0 f (x - P1 j) p) ∨ LRR 0 f (x - P2 j) p) ↔ Dn 0 f x (P1 (j + 1)) p := by
  obtain ⟨a1, a2, a3, a4, a5⟩ := P_ok j hj h1
  constructor
  · rintro ((⟨o, a, b, c, d, e⟩ | h) | h)
    · exact ⟨o, a, by omega, c, d, e⟩
    · exact ⟨P1 j, a3, by omega, hp, (P_lg j hj (P1 j) (by omega) h1 (by omega) (by omega)).mpr (Or.inl rfl), h⟩
    · exact ⟨P2 j, by omega, by omega, by omega, (P_lg j hj (P2 j) (by omega) h1 (by omega) (by omega)).mpr (Or.inr rfl), h⟩
  · rintro ⟨o, a, b, c, d, e⟩
    by_cases z : o < P1 j
    · exact Or.inl (Or.inl ⟨o, a, z, c, d, e⟩)
    · rcases (P_lg j hj o (by omega) h1 (by omega) b).mp d with rfl | rfl
      · exact Or.inl (Or.inr e)
      · exact Or.inr e
theorem Dn_p2 {x j p : Nat} {f : Nat → Int32} (hx : x ≤ 20) (h1 : 1 ≤ j) (hj : j < 5) (hp : P1 j ≤ x) (h2 : x < P2 j) : (Dn 0 f x (P1 j) p ∨ LRR 0 f (x - P1 j) p) ↔ Dn 0 f x (P1 (j + 1)) p := by
  obtain ⟨a1, a2, a3, a4, a5⟩ := P_ok j hj h1
  constructor
  · rintro (⟨o, a, b, c, d, e⟩ | h)
    · exact ⟨o, a, by omega, c, d, e⟩
    · exact ⟨P1 j, a3, by omega, hp, (P_lg j hj (P1 j) (by omega) h1 (by omega) (by omega)).mpr (Or.inl rfl), h⟩
  · rintro ⟨o, a, b, c, d, e⟩
    by_cases z : o < P1 j
    · exact Or.inl ⟨o, a, z, c, d, e⟩
    · rcases (P_lg j hj o (by omega) h1 (by omega) b).mp d with rfl | rfl
      · exact Or.inr e
      · omega
theorem Dn_pe {x j p : Nat} {f : Nat → Int32} (hj : x < P1 j) : Dn 0 f x (P1 j) p ↔ Dn 0 f x (x + 1) p := by
  constructor
  · rintro ⟨o, a, b, c, d, e⟩
    exact ⟨o, a, by omega, c, d, e⟩
  · rintro ⟨o, a, b, c, d, e⟩
    exact ⟨o, a, by omega, c, d, e⟩
def pnl (x : Nat) : Nat → Nat
  | 0 => 0
  | j + 1 => pnl x j + (if 1 ≤ j then (if x - P1 j = 0 then 0 else 1) + (if x < P2 j then 0 else if x - P2 j = 0 then 0 else 1) else 0)
theorem pnl_ok_ : ∀ x, x < 21 → ∀ j, j < 5 → (1 ≤ x ∧ 1 ≤ j ∧ x < P1 j ∧ (j = 1 ∨ P1 (j - 1) ≤ x)) → pnl x j = lnl 0 x := by decide +kernel
theorem pnl_ok (x : Nat) (hx : x < 21) (h1 : 1 ≤ x) (j : Nat) (hj : j < 5) (j1 : 1 ≤ j) (h : x < P1 j ∧ (j = 1 ∨ P1 (j - 1) ≤ x)) : pnl x j = lnl 0 x := pnl_ok_ x hx j hj ⟨h1, j1, h⟩
theorem c_pen_ {N K x dep : Nat} {rec : RecT} {sz0 d1 d2 d3 c0 c4 c5 : Int32} {f0 f : Nat → Int32} (h1 : 1 ≤ x) (hx : x ≤ 20) (hf : LOK 0 f) (hrec : RecOk 0 rec c0 c4 c5 x dep) {b1 b2 b3 : Int32} : ∀ n j fu (sz : Int32) (g : Nat → Int32) (c1 c2 c3 : Int32), j + n = 4 → 1 ≤ j → n < fu → (j = 1 ∨ P1 (j - 1) ≤ x) → LKP 0 f g sz (Dn 0 f x (P1 j)) (pnl x j) b1 c1 b2 c2 b3 c3 → Clo 0 f (Dn 0 f x (P1 j)) → ∃ sz' f' c1' c2' c3', fX1_byPentagons_6 N K rec (Int32.ofNat 0) sz0 f0 c0 d1 d2 d3 c4 c5 (Int32.ofNat x) (Int32.ofNat dep) fu (pacc x j) (Int32.ofNat j) sz g c1 c2 c3 = some (Int32.ofNat (LW 0 x), sz', f', c1', c2', c3') ∧ LKP 0 f f' sz' (Dn 0 f x (x + 1)) (lnl 0 x) b1 c1' b2 c2' b3 c3' := by
  have stop : ∀ j fu (sz : Int32) (g : Nat → Int32) (c1 c2 c3 : Int32), j ≤ 4 → 1 ≤ j → (j = 1 ∨ P1 (j - 1) ≤ x) → x < P1 j → LKP 0 f g sz (Dn 0 f x (P1 j)) (pnl x j) b1 c1 b2 c2 b3 c3 → ∃ sz' f' c1' c2' c3', fX1_byPentagons_6 N K rec (Int32.ofNat 0) sz0 f0 c0 d1 d2 d3 c4 c5 (Int32.ofNat x) (Int32.ofNat dep) (fu + 1) (pacc x j) (Int32.ofNat j) sz g c1 c2 c3 = some (Int32.ofNat (LW 0 x), sz', f', c1', c2', c3') ∧ LKP 0 f f' sz' (Dn 0 f x (x + 1)) (lnl 0 x) b1 c1' b2 c2' b3 c3' := by
    intro j fu sz g c1 c2 c3 j4 j1 hp hx2 h
    obtain ⟨hl, hs, hk⟩ := h
    obtain ⟨a1, a2, a3, a4, a5⟩ := P_ok j (by omega) j1
    rw [pnl_ok x (by omega) h1 j (by omega) j1 ⟨hx2, hp⟩] at hk
    refine ⟨sz, g, c1, c2, c3, ?_, hl.iff (fun p => Dn_pe hx2), hs, hk⟩
    unfold fX1_byPentagons_6
    rw [if_neg (n_20 (by omega)), o_P1 j1 (by omega), if_pos (by rw [o_lt (by omega) (by omega)]; exact hx2), pacc_ok x (by omega) h1 j (by omega) j1 ⟨hx2, hp⟩]
  intro n
  induction n with
  | zero =>
    intro j fu sz g c1 c2 c3 hj j1 hfu hp h hc
    obtain ⟨fu, rfl⟩ : ∃ m, fu = m + 1 := ⟨fu - 1, by omega⟩
    obtain rfl : j = 4 := by omega
    exact stop 4 fu sz g c1 c2 c3 (by omega) j1 hp (by have : P1 4 = 22 := by decide
                                                       omega) h
  | succ n ih =>
    intro j fu sz g c1 c2 c3 hj j1 hfu hp h hc
    obtain ⟨fu, rfl⟩ : ∃ m, fu = m + 1 := ⟨fu - 1, by omega⟩
    obtain ⟨a1, a2, a3, a4, a5⟩ := P_ok j (by omega) j1
    by_cases hx2 : x < P1 j
    · exact stop j fu sz g c1 c2 c3 (by omega) j1 hp hx2 h
    · obtain ⟨hl, hs, hk⟩ := h
      obtain ⟨sz1, g1, x1, x2, x3, e1, e2, e3, e4⟩ := hrec (x - P1 j) sz g c1 c2 c3 (by omega) (hl.ok hf) hs
      obtain ⟨s1, s2⟩ := LF.step (by omega) (by omega) hc hl e2
      have hk2 := hk.trans e4
      by_cases hx3 : x < P2 j
      · have en : pnl x (j + 1) = pnl x j + (if x - P1 j = 0 then 0 else 1) := by
          show pnl x j + (if 1 ≤ j then (if x - P1 j = 0 then 0 else 1) + (if x < P2 j then 0 else if x - P2 j = 0 then 0 else 1) else 0) = _
          rw [if_pos j1, if_pos hx3, Nat.add_zero]
        rw [← en] at hk2
        have ea : pacc x (j + 1) = pacc x j + (if j % 2 = 0 then -(Int32.ofNat (LW 0 (x - P1 j))) else Int32.ofNat (LW 0 (x - P1 j))) := by
          show pacc x j + (if 1 ≤ j then (if j % 2 = 0 then -(Int32.ofNat (LW 0 (x - P1 j)) + (if x < P2 j then 0 else Int32.ofNat (LW 0 (x - P2 j)))) else (Int32.ofNat (LW 0 (x - P1 j)) + (if x < P2 j then 0 else Int32.ofNat (LW 0 (x - P2 j))))) else 0) = _
          rw [if_pos j1, if_pos hx3, Int32.add_zero]
        obtain ⟨sz', f', c1', c2', c3', r1', r2'⟩ := ih (j + 1) fu sz1 g1 x1 x2 x3 (by omega) (by omega) (by omega) (Or.inr (by show P1 j ≤ x; omega)) ⟨s1.iff (fun p => Dn_p2 hx j1 (by omega) (by omega) hx3), e3, hk2⟩ (s2.iff (fun p => Dn_p2 hx j1 (by omega) (by omega) hx3))
        refine ⟨sz', f', c1', c2', c3', ?_, r2'⟩
        unfold fX1_byPentagons_6
        rw [if_neg (n_20 (by omega)), o_P1 j1 (by omega), if_neg (by rw [o_lt (by omega) (by omega)]; exact hx2), o_sub (by omega), e1, Option.bind_some, o_P2 j1 (by omega), if_pos (by rw [o_lt (by omega) (by omega)]; exact hx3)]
        unfold fX1_byPentagons_88 fX1_byPentagons_105
        rw [o_1]
        by_cases par : j % 2 = 0
        · rw [if_pos (by rw [o_par (by omega)]; exact par)]
          rw [ea, if_pos par] at r1'
          exact r1'
        · rw [if_neg (by rw [o_par (by omega)]; exact par)]
          rw [ea, if_neg par] at r1'
          exact r1'
      · obtain ⟨sz2, g2, y1, y2, y3, i1, i2, i3, i4⟩ := hrec (x - P2 j) sz1 g1 x1 x2 x3 (by omega) (s1.ok hf) e3
        obtain ⟨s3, s4⟩ := LF.step (by omega) (by omega) s2 s1 i2
        have hk3 := hk2.trans i4
        have en : pnl x (j + 1) = pnl x j + (if x - P1 j = 0 then 0 else 1) + (if x - P2 j = 0 then 0 else 1) := by
          show pnl x j + (if 1 ≤ j then (if x - P1 j = 0 then 0 else 1) + (if x < P2 j then 0 else if x - P2 j = 0 then 0 else 1) else 0) = _
          rw [if_pos j1, if_neg hx3, Nat.add_assoc]
        rw [← en] at hk3
        have ea : pacc x (j + 1) = pacc x j + (if j % 2 = 0 then -(Int32.ofNat (LW 0 (x - P1 j)) + Int32.ofNat (LW 0 (x - P2 j))) else (Int32.ofNat (LW 0 (x - P1 j)) + Int32.ofNat (LW 0 (x - P2 j)))) := by
          show pacc x j + (if 1 ≤ j then (if j % 2 = 0 then -(Int32.ofNat (LW 0 (x - P1 j)) + (if x < P2 j then 0 else Int32.ofNat (LW 0 (x - P2 j)))) else (Int32.ofNat (LW 0 (x - P1 j)) + (if x < P2 j then 0 else Int32.ofNat (LW 0 (x - P2 j))))) else 0) = _
          rw [if_pos j1, if_neg hx3]
        obtain ⟨sz', f', c1', c2', c3', r1', r2'⟩ := ih (j + 1) fu sz2 g2 y1 y2 y3 (by omega) (by omega) (by omega) (Or.inr (by show P1 j ≤ x; omega)) ⟨s3.iff (fun p => Dn_p1 hx j1 (by omega) (by omega) hx3), i3, hk3⟩ (s4.iff (fun p => Dn_p1 hx j1 (by omega) (by omega) hx3))
        refine ⟨sz', f', c1', c2', c3', ?_, r2'⟩
        unfold fX1_byPentagons_6
        rw [if_neg (n_20 (by omega)), o_P1 j1 (by omega), if_neg (by rw [o_lt (by omega) (by omega)]; exact hx2), o_sub (by omega), e1, Option.bind_some, o_P2 j1 (by omega), if_neg (by rw [o_lt (by omega) (by omega)]; exact hx3), o_sub (by omega), i1, Option.bind_some]
        unfold fX1_byPentagons_88 fX1_byPentagons_105
        rw [o_1]
        by_cases par : j % 2 = 0
        · rw [if_pos (by rw [o_par (by omega)]; exact par)]
          rw [ea, if_pos par] at r1'
          exact r1'
        · rw [if_neg (by rw [o_par (by omega)]; exact par)]
          rw [ea, if_neg par] at r1'
          exact r1'
theorem c_lk {N K r : Nat} (hN : 100 ≤ N) (hr : r < 3) {c0 c4 c5 : Int32} : ∀ d fu x dep, x < d → d ≤ fu → dep + d ≤ 46 → x ≤ 20 → RecOk r (fX1_worthKnown N K fu) c0 c4 c5 (x + 1) dep := by
  intro d
  induction d with
  | zero => intro fu x dep h; omega
  | succ d ih =>
    intro fu x dep hd hfu hdep hx y sz f c1 c2 c3 hy hf hsz
    obtain ⟨fu, rfl⟩ : ∃ z, fu = z + 1 := ⟨fu - 1, by omega⟩
    unfold fX1_worthKnown
    by_cases y0 : y = 0
    · subst y0
      refine ⟨sz, f, c1, c2, c3, ?_, ?_, hsz, by rw [if_pos rfl]; exact LCK.r⟩
      · rw [if_pos (by decide), LW_0 r hr]
        rfl
      · exact LF.r (fun p z => absurd ((LRR_eq (by omega)).mp z).1 (by omega))
    · have hL := LW_b r hr y (by omega)
      rw [if_neg (by rw [show (0 : Int32) = Int32.ofNat 0 from rfl, o_eq (by omega) (by omega)]; exact y0), if_neg (by rw [show (0 : Int32) = Int32.ofNat 0 from rfl, o_lt (by omega) (by omega)]; omega), if_neg (n_20 (by omega)), if_pos (by rw [show (45 : Int32) = Int32.ofNat 45 from rfl, o_le (by omega) (by omega)]; omega), if_neg (o_ob (by omega) (by omega)), o_c (by omega)]
      by_cases u : f y = -1
      · rw [if_pos u, o_1]
        have hrec : RecOk r (fX1_worthKnown N K fu) c0 c4 c5 y (dep + 1) := by
          intro y2 sz2 f2 a1 a2 a3 hy2 hf2 hs2
          exact ih fu (y - 1) (dep + 1) (by omega) (by omega) (by omega) (by omega) y2 sz2 f2 a1 a2 a3 (by omega) hf2 hs2
        have start : ∀ j, (∀ p, ¬ Dn r f y j p) → LKP r f f sz (Dn r f y j) 0 (c1 + (1 : Int32)) (c1 + (1 : Int32)) c2 c2 c3 c3 ∧ Clo r f (Dn r f y j) := fun j hj => ⟨⟨LF.r hj, hsz, LCK.r⟩, fun p z => absurd z (hj p)⟩
        -- the number itself, kept
        have fin : ∀ (sz3 : Int32) (f3 : Nat → Int32) (e1 e2 e3 : Int32), LKP r f f3 sz3 (Dn r f y (y + 1)) (lnl r y) (c1 + (1 : Int32)) e1 c2 e2 c3 e3 → LKP r f (upd f3 y (Int32.ofNat (LW r y))) (sz3 + (1 : Int32)) (LRR r f y) (if y = 0 then 0 else 1) c1 e1 c2 (e2 + (1 : Int32)) c3 e3 := by
          intro sz3 f3 e1 e2 e3 h3
          obtain ⟨hl, hs, hk⟩ := h3
          have hnd : ¬ Dn r f y (y + 1) y := by
            rintro ⟨o, o1, -, o2, -, c⟩
            have := (LRR_b (show y - o ≤ 20 by omega) c).2.2
            omega
          have hu3 : f3 y = -1 := ((hl y (by omega) (by omega)).2 hnd).trans u
          have q := lcnt_upd (f := f3) (v := Int32.ofNat (LW r y)) (show 1 ≤ y by omega) (show y ≤ 20 by omega)
          rw [if_pos hu3, if_neg (lw_ne hr (by omega))] at q
          refine ⟨fun p p1 p2 => ?_, by rw [hs, o_1]; exact congrArg _ (by omega), by rw [if_neg y0]; exact hk.made (by omega) (by omega) hu3 (lw_ne hr (by omega)) rfl⟩
          unfold upd
          rw [LRR_Dn (by omega) (by omega) u]
          by_cases e : p = y
          · rw [if_pos e, e]
            exact ⟨fun _ => rfl, fun z => absurd (Or.inl rfl) z⟩
          · rw [if_neg e]
            refine ⟨fun z => ?_, fun z => (hl p p1 p2).2 (fun w => z (Or.inr w))⟩
            rcases z with z | z
            · exact absurd z.symm e
            · exact (hl p p1 p2).1 z
        by_cases r0 : r = 0
        · subst r0
          obtain ⟨st1, st2⟩ := start (P1 1) (fun p => Dn_0)
          obtain ⟨sz3, f3, e1, e2, e3, a1, a2⟩ := c_pen_ (N := N) (K := K) (sz0 := sz) (d1 := c1 + (1 : Int32)) (d2 := c2) (d3 := c3) (f0 := f) (show 1 ≤ y by omega) (show y ≤ 20 by omega) hf hrec 3 1 N sz f (c1 + (1 : Int32)) c2 c3 rfl (by omega) (by omega) (Or.inl rfl) st1 st2
          refine ⟨sz3 + (1 : Int32), upd f3 y (Int32.ofNat (LW 0 y)), e1, e2 + (1 : Int32), e3, ?_, fin _ _ _ _ _ a2⟩
          have a1' : fX1_byPentagons N K (fX1_worthKnown N K fu) (Int32.ofNat 0) sz f c0 (c1 + (1 : Int32)) c2 c3 c4 c5 (Int32.ofNat y) (Int32.ofNat (dep + 1)) = some (Int32.ofNat (LW 0 y), sz3, f3, e1, e2, e3) := a1
          rw [if_pos (by decide), a1', Option.bind_some, if_neg (o_ob2 (by omega) (by omega))]
        · obtain ⟨st1, st2⟩ := start 1 (fun p => Dn_0)
          obtain ⟨sz3, f3, e1, e2, e3, a1, a2⟩ := c_div_ (N := N) (K := K) (sz0 := sz) (d1 := c1 + (1 : Int32)) (d2 := c2) (d3 := c3) (f0 := f) hN hr (show 1 ≤ r by omega) (show 1 ≤ y by omega) (show y ≤ 20 by omega) hf hrec y 1 N sz f (c1 + (1 : Int32)) c2 c3 (by omega) (by omega) (by omega) st1 st2
          refine ⟨sz3 + (1 : Int32), upd f3 y (Int32.ofNat (LW r y)), e1, e2 + (1 : Int32), e3, ?_, fin _ _ _ _ _ a2⟩
          have a1' : fX1_byDivisors N K (fX1_worthKnown N K fu) (Int32.ofNat r) sz f c0 (c1 + (1 : Int32)) c2 c3 c4 c5 (Int32.ofNat y) (Int32.ofNat (dep + 1)) = some (Int32.ofNat (LW r y), sz3, f3, e1, e2, e3) := by
            unfold fX1_byDivisors
            rw [if_pos (by rw [show (1 : Int32) = Int32.ofNat 1 from rfl, o_le (by omega) (by omega)]; omega)]
            exact a1
          rw [if_neg (by rw [show (0 : Int32) = Int32.ofNat 0 from rfl, o_eq (by omega) (by omega)]; exact r0), a1', Option.bind_some, if_neg (o_ob2 (by omega) (by omega))]
      · rw [if_neg u, if_neg (o_ob2 (by omega) (by omega))]
        refine ⟨sz, f, c1 + (1 : Int32), c2, c3 + (1 : Int32), ?_, ?_, hsz, by rw [if_neg y0]; exact LCK.found⟩
        · rcases hf y (by omega) (by omega) with z | z
          · exact absurd z u
          · rw [z]
        · exact LF.r (fun p z => u ((LRR_eq (show y ≤ 20 by omega)).mp z).2.1)
theorem c_lrec {N K r x : Nat} (hN : 100 ≤ N) (hK : 100 ≤ K) (hr : r < 3) (hx : x ≤ 20) {sz c0 c1 c2 c3 c4 c5 : Int32} {f : Nat → Int32} (hf : LOK r f) (hs : sz = Int32.ofNat (lcnt f)) : ∃ sz' f' c1' c2' c3', fX1_recall N K (Int32.ofNat r) sz f c0 c1 c2 c3 c4 c5 (Int32.ofNat x) = some (Int32.ofNat (LW r x), sz', f', c1', c2', c3') ∧ LKP r f f' sz' (LRR r f x) (if x = 0 then 0 else 1) c1 c1' c2 c2' c3 c3' := by
  obtain ⟨sz', f', c1', c2', c3', h1, h2⟩ := c_lk (N := N) (K := K) hN hr (c0 := c0) (c4 := c4) (c5 := c5) 30 K x 0 (by omega) (by omega) (by omega) hx x sz f c1 c2 c3 (by omega) hf hs
  refine ⟨sz', f', c1', c2', c3', ?_, h2⟩
  unfold fX1_recall
  rw [show (0 : Int32) = Int32.ofNat 0 from rfl, h1, Option.bind_some]

end MG_60rcled
section MG_60smled
/-! ===== ledgers: the reference's side ===== -/
theorem m_fac70 {N K st j : Nat} (hj : j ≤ 20) (h1 : 1 ≤ st) (h2 : st ≤ 2) : ∀ n i acc fu, j < i + n → 1 ≤ i → i ≤ 22 → acc ≤ 1000 - 20 * n → n ≤ 21 → n < fu → fX7_factor_70 N K (Int32.ofNat st) (Int32.ofNat j) fu (Int32.ofNat acc) (Int32.ofNat i) = some (Int32.ofNat (sgl st j n i acc)) := by
  intro n
  induction n with
  | zero =>
    intro i acc fu hi i1 i2 _ _ hfu
    obtain ⟨fu, rfl⟩ : ∃ m, fu = m + 1 := ⟨fu - 1, by omega⟩
    unfold fX7_factor_70 sgl
    rw [if_pos (by rw [o_lt (by omega) (by omega)]; omega)]
  | succ n ih =>
    intro i acc fu hi i1 i2 ha hn hfu
    obtain ⟨fu, rfl⟩ : ∃ m, fu = m + 1 := ⟨fu - 1, by omega⟩
    unfold fX7_factor_70 sgl
    by_cases c : j < i
    · rw [if_pos (by rw [o_lt (by omega) (by omega)]; exact c), if_pos c]
    · rw [if_neg (by rw [o_lt (by omega) (by omega)]; exact c), if_neg c, if_neg (by rw [show (0 : Int32) = Int32.ofNat 0 from rfl, o_eq (by omega) (by omega)]; omega), o_mod (by omega) (by omega)]
      unfold fX7_factor_85
      by_cases e : j % i = 0
      · rw [if_pos (by rw [e]; rfl), if_pos e, o_add, o_add]
        exact ih (i + st) (acc + i) fu (by omega) (by omega) (by omega) (by omega) (by omega) (by omega)
      · rw [if_neg (by rw [show (0 : Int32) = Int32.ofNat 0 from rfl, o_eq (by have := Nat.mod_lt j (show 0 < i by omega); omega) (by omega)]; exact e), if_neg e, o_add]
        exact ih (i + st) acc fu (by omega) (by omega) (by omega) (by omega) (by omega) (by omega)
theorem fac_lt : ∀ o, o < 21 → ∀ j, j < 5 → (1 ≤ o ∧ 1 ≤ j ∧ o < P1 j ∧ (j = 1 ∨ (P1 (j - 1) < o ∧ ¬ o = P2 (j - 1)))) → lfI 0 o = 0 := by decide +kernel
theorem fac_eq : ∀ j, j < 4 → 1 ≤ j → lfI 0 (P1 j) = (if j % 2 = 1 then 1 else -1) ∧ lfI 0 (P2 j) = (if j % 2 = 1 then 1 else -1) := by decide +kernel
theorem m_fac45 {N K j : Nat} {p1 : Int32} (hj : j < 5) : fX7_factor_45 N K (Int32.ofNat 0) p1 (Int32.ofNat j) = some (if j % 2 = 1 then 1 else -1) := by
  unfold fX7_factor_45
  rw [show (2 : Int32) = Int32.ofNat 2 from rfl, o_mod (by omega) (by omega)]
  by_cases e : j % 2 = 1
  · rw [if_pos (by rw [e]; rfl), if_pos e]
  · rw [if_neg (by rw [show (1 : Int32) = Int32.ofNat 1 from rfl, o_eq (by omega) (by omega)]; exact e), if_neg e]
theorem m_fac6 {N K o : Nat} (ho : o ≤ 20) (h1 : 1 ≤ o) : ∀ n j fu, j + n = 4 → 1 ≤ j → n < fu → (j = 1 ∨ (P1 (j - 1) < o ∧ ¬ o = P2 (j - 1))) → fX7_factor_6 N K (Int32.ofNat 0) (Int32.ofNat o) fu (Int32.ofNat j) = some (lfI 0 o) := by
  have stop : ∀ j fu, j ≤ 4 → 1 ≤ j → (j = 1 ∨ (P1 (j - 1) < o ∧ ¬ o = P2 (j - 1))) → o < P1 j → fX7_factor_6 N K (Int32.ofNat 0) (Int32.ofNat o) (fu + 1) (Int32.ofNat j) = some (lfI 0 o) := by
    intro j fu j4 j1 hp hlt
    obtain ⟨a1, a2, a3, a4, a5⟩ := P_ok j (by omega) j1
    unfold fX7_factor_6
    rw [o_P1 j1 (by omega), if_pos (by rw [o_lt (by omega) (by omega)]; exact hlt), fac_lt o (by omega) j (by omega) ⟨h1, j1, hlt, hp⟩]
  intro n
  induction n with
  | zero =>
    intro j fu hj j1 hfu hp
    obtain ⟨fu, rfl⟩ : ∃ m, fu = m + 1 := ⟨fu - 1, by omega⟩
    obtain rfl : j = 4 := by omega
    exact stop 4 fu (by omega) j1 hp (by have : P1 4 = 22 := by decide
                                         omega)
  | succ n ih =>
    intro j fu hj j1 hfu hp
    obtain ⟨fu, rfl⟩ : ∃ m, fu = m + 1 := ⟨fu - 1, by omega⟩
    obtain ⟨a1, a2, a3, a4, a5⟩ := P_ok j (by omega) j1
    obtain ⟨b1, b2⟩ := fac_eq j (by omega) j1
    by_cases c : o < P1 j
    · exact stop j fu (by omega) j1 hp c
    · unfold fX7_factor_6
      rw [o_P1 j1 (by omega), if_neg (by rw [o_lt (by omega) (by omega)]; exact c), o_P2 j1 (by omega)]
      by_cases e : P1 j = o
      · rw [if_pos (by rw [e]), m_fac45 (by omega), ← b1, e]
      · rw [if_neg (by rw [o_eq (by omega) (by omega)]; exact e)]
        by_cases e2 : P2 j = o
        · rw [if_pos (by rw [e2]), m_fac45 (by omega), ← b2, e2]
        · rw [if_neg (by rw [o_eq (by omega) (by omega)]; exact e2), o_1]
          exact ih (j + 1) fu (by omega) (by omega) (by omega) (Or.inr ⟨by show P1 j < o; omega, by show ¬ o = P2 j; omega⟩)
theorem m_factor {N K r o : Nat} (hN : 100 ≤ N) (hr : r < 3) (ho : o ≤ 20) (h1 : 1 ≤ o) : fX7_factor N K (Int32.ofNat r) (Int32.ofNat o) = some (lfI r o) := by
  unfold fX7_factor
  by_cases r0 : r = 0
  · subst r0
    rw [if_pos (by decide)]
    exact m_fac6 ho h1 3 1 N (by omega) (by omega) (by omega) (Or.inl rfl)
  · rw [if_neg (by rw [show (0 : Int32) = Int32.ofNat 0 from rfl, o_eq (by omega) (by omega)]; exact r0)]
    have e := m_fac70 (N := N) (K := K) (st := r) ho (by omega) (by omega) 21 1 0 N (by omega) (by omega) (by omega) (by omega) (by omega) (by omega)
    unfold lfI sg
    rw [if_neg r0]
    exact e
/-- the reference's contents: 0 where nothing is kept -/
def LG (f g : Nat → Int32) : Prop := ∀ p, 1 ≤ p → p ≤ 20 → g p = if f p = -1 then 0 else f p
theorem lw_p {r p : Nat} (hr : r < 3) (hp : p ≤ 20) : ¬ Int32.ofNat (LW r p) = 0 ∧ ¬ Int32.ofNat (LW r p) ≤ 0 := by
  have := LW_b r hr p (by omega)
  refine ⟨by rw [show (0 : Int32) = Int32.ofNat 0 from rfl, o_eq (by omega) (by omega)]; omega, by rw [show (0 : Int32) = Int32.ofNat 0 from rfl, o_le (by omega) (by omega)]; omega⟩
theorem LG.z {r p : Nat} {f g : Nat → Int32} (hr : r < 3) (hf : LOK r f) (h : LG f g) (h1 : 1 ≤ p) (h2 : p ≤ 20) : (g p = 0 ↔ f p = -1) ∧ (g p ≤ 0 ↔ f p = -1) := by
  rw [h p h1 h2]
  rcases hf p h1 h2 with e | e
  · rw [if_pos e]
    exact ⟨⟨fun _ => e, fun _ => rfl⟩, ⟨fun _ => e, fun _ => by decide⟩⟩
  · have ne : ¬ f p = -1 := by rw [e]; exact lw_ne hr h2
    rw [if_neg ne, e]
    exact ⟨⟨fun z => absurd z (lw_p hr h2).1, fun z => absurd z (lw_ne hr h2)⟩, ⟨fun z => absurd z (lw_p hr h2).2, fun z => absurd z (lw_ne hr h2)⟩⟩
section LM
variable {N K r a : Nat} {th0 th : Int32} {g0 t0 u0 : Nat → Int32}
/-- what is asked of the ledger by the numbers above at -/
def LAsk (r : Nat) (f : Nat → Int32) (a at_ m : Nat) : Prop := m = a ∨ ∃ b, LRR r f a b ∧ at_ < b ∧ m < b ∧ lg r (b - m) = true
def LMK (r : Nat) (f : Nat → Int32) (a at_ : Nat) (u : Nat → Int32) : Prop := ∀ m, m ≤ a → (0 ≤ (u m).toInt ∧ (u m).toInt ≤ 1 + ((a : Int) - (at_ : Int))) ∧ (¬ u m = 0 ↔ LAsk r f a at_ m)
theorem LAsk.of {f : Nat → Int32} {m at_ : Nat} (ha : a ≤ 20) (h : LRR r f a m) (hat : at_ ≤ m) : LAsk r f a at_ m := by
  rcases LRR_par (a + 1) a (by omega) ha h with e | ⟨b, b1, b2, b3⟩
  · exact Or.inl e.symm
  · exact Or.inr ⟨b, b1, by omega, b2, b3⟩
theorem LAsk.rr {f : Nat → Int32} {m at_ : Nat} (ha : a ≤ 20) (h1 : 1 ≤ m) (h : LAsk r f a at_ m) (u : f m = -1) : LRR r f a m := by
  rcases h with rfl | ⟨b, b1, -, b2, b3⟩
  · exact LRR_self ha h1 u
  · have q := LRR_leg (o := b - m) ha b1 (by omega) (by omega) b3 (by rw [show b - (b - m) = m from by omega]; exact u)
    rw [show b - (b - m) = m from by omega] at q
    exact q
theorem LMK_skip {f u : Nat → Int32} {at_ : Nat} (h : LMK r f a (at_ + 1) u) (hn : ¬ LRR r f a (at_ + 1)) : LMK r f a at_ u := by
  intro m hm
  obtain ⟨⟨a1, a2⟩, a3⟩ := h m hm
  refine ⟨⟨a1, by omega⟩, a3.trans ⟨fun z => ?_, fun z => ?_⟩⟩
  · rcases z with z | ⟨b, c1, c2, c3⟩
    · exact Or.inl z
    · exact Or.inr ⟨b, c1, by omega, c3⟩
  · rcases z with z | ⟨b, c1, c2, c3⟩
    · exact Or.inl z
    · by_cases e : b = at_ + 1
      · exact absurd (e ▸ c1) hn
      · exact Or.inr ⟨b, c1, by omega, c3⟩
/-- the legs from off on are wanted once more -/
def linc (r n off : Nat) (u : Nat → Int32) : Nat → Int32 := fun m => if m < n ∧ off ≤ n - m ∧ lg r (n - m) = true then u m + (1 : Int32) else u m
theorem LMK_step {f u : Nat → Int32} {at_ : Nat} (ha : a ≤ 20) (hat : at_ + 1 ≤ a) (h : LMK r f a (at_ + 1) u) (hr : LRR r f a (at_ + 1)) : LMK r f a at_ (linc r (at_ + 1) 1 u) := by
  intro m hm
  obtain ⟨⟨a1, a2⟩, a3⟩ := h m hm
  have s1 := add1 (v := u m) a1 (by omega)
  have hA : LAsk r f a at_ m ↔ (LAsk r f a (at_ + 1) m ∨ (m < at_ + 1 ∧ lg r (at_ + 1 - m) = true)) := by
    constructor
    · rintro (z | ⟨b, c1, c2, c3, c4⟩)
      · exact Or.inl (Or.inl z)
      · by_cases e : b = at_ + 1
        · subst e; exact Or.inr ⟨c3, c4⟩
        · exact Or.inl (Or.inr ⟨b, c1, by omega, c3, c4⟩)
    · rintro ((z | ⟨b, c1, c2, c3, c4⟩) | ⟨c3, c4⟩)
      · exact Or.inl z
      · exact Or.inr ⟨b, c1, by omega, c3, c4⟩
      · exact Or.inr ⟨at_ + 1, hr, by omega, c3, c4⟩
  rw [hA]
  unfold linc
  by_cases c : m < at_ + 1 ∧ 1 ≤ at_ + 1 - m ∧ lg r (at_ + 1 - m) = true
  · rw [if_pos c]
    exact ⟨⟨by omega, by omega⟩, fun _ => Or.inr ⟨c.1, c.2.2⟩, fun _ => ne0_of (by omega)⟩
  · rw [if_neg c]
    refine ⟨⟨a1, by omega⟩, fun z => Or.inl (a3.mp z), fun z => ?_⟩
    rcases z with z | z
    · exact a3.mpr z
    · exact absurd ⟨z.1, by omega, z.2⟩ c
theorem m_138 (hN : 100 ≤ N) (hr : r < 3) {k51 : Int32 → Int32 → (Nat → Int32) → (Nat → Int32) → (Nat → Int32) → Option (Int32 × Int32 × (Nat → Int32) × (Nat → Int32) × (Nat → Int32))} {n : Nat} (hn : n ≤ 20) {p1 : Int32} {g t : Nat → Int32} : ∀ k off fu (u : Nat → Int32), off + k = n + 1 → 1 ≤ off → k < fu → ∃ u', fX7_rule_138 N K th0 g0 t0 u0 (Int32.ofNat r) p1 k51 fu (Int32.ofNat n) 1 (Int32.ofNat off) th g t u = fX7_rule_177 N K th0 g0 t0 u0 (Int32.ofNat r) p1 k51 (Int32.ofNat n) th g t u' ∧ ∀ m, u' m = linc r n off u m := by
  intro k
  induction k with
  | zero =>
    intro off fu u ho o1 hfu
    obtain ⟨fu, rfl⟩ : ∃ z, fu = z + 1 := ⟨fu - 1, by omega⟩
    refine ⟨u, ?_, fun m => ?_⟩
    · conv => lhs; unfold fX7_rule_138
      rw [if_pos (by rw [o_lt (by omega) (by omega)]; omega)]
    · unfold linc
      rw [if_neg (by omega)]
  | succ k ih =>
    intro off fu u ho o1 hfu
    obtain ⟨fu, rfl⟩ : ∃ z, fu = z + 1 := ⟨fu - 1, by omega⟩
    have l0 := lf_0 r hr off (by omega) o1
    by_cases c : lg r off = true
    · have hne : ¬ lfI r off = 0 := fun z => by rw [l0.mp z] at c; exact absurd c (by decide)
      obtain ⟨u', e1, e2⟩ := ih (off + 1) fu (upd u (n - off) (u (n - off) + (1 : Int32))) (by omega) (by omega) (by omega)
      refine ⟨u', ?_, fun m => ?_⟩
      · conv => lhs; unfold fX7_rule_138
        rw [if_neg (by rw [o_lt (by omega) (by omega)]; omega), if_neg (by decide), m_factor hN hr (by omega) o1, Option.bind_some, if_neg hne, o_sub (by omega), if_neg (o_ob (by omega) (by omega)), if_neg (o_ob (by omega) (by omega)), o_c (by omega)]
        unfold fX7_rule_171
        rw [o_1]
        exact e1
      · rw [e2 m]
        unfold linc upd
        by_cases d : m < n ∧ off + 1 ≤ n - m ∧ lg r (n - m) = true
        · rw [if_pos d, if_neg (show ¬ m = n - off from by omega), if_pos (show m < n ∧ off ≤ n - m ∧ lg r (n - m) = true from ⟨d.1, by omega, d.2.2⟩)]
        · rw [if_neg d]
          by_cases e : m = n - off
          · rw [if_pos e, if_pos (show m < n ∧ off ≤ n - m ∧ lg r (n - m) = true from ⟨by omega, by omega, by rw [show n - m = off from by omega]; exact c⟩), e]
          · rw [if_neg e, if_neg (show ¬ (m < n ∧ off ≤ n - m ∧ lg r (n - m) = true) from fun z => d ⟨z.1, by omega, z.2.2⟩)]
    · have hz : lfI r off = 0 := l0.mpr (Bool.eq_false_iff.mpr c)
      obtain ⟨u', e1, e2⟩ := ih (off + 1) fu u (by omega) (by omega) (by omega)
      refine ⟨u', ?_, fun m => ?_⟩
      · conv => lhs; unfold fX7_rule_138
        rw [if_neg (by rw [o_lt (by omega) (by omega)]; omega), if_neg (by decide), m_factor hN hr (by omega) o1, Option.bind_some, if_pos hz]
        unfold fX7_rule_171
        rw [o_1]
        exact e1
      · rw [e2 m]
        unfold linc
        by_cases d : m < n ∧ off + 1 ≤ n - m ∧ lg r (n - m) = true
        · rw [if_pos d, if_pos ⟨d.1, by omega, d.2.2⟩]
        · rw [if_neg d, if_neg (fun z => d ⟨z.1, by
            by_cases e : off = n - m
            · exact absurd (e ▸ z.2.2) c
            · omega, z.2.2⟩)]
theorem sm_add {g h : Nat → Nat} : ∀ n, sm (fun p => g p + h p) n = sm g n + sm h n := by
  intro n
  induction n with
  | zero => rfl
  | succ n ih =>
    show sm (fun p => g p + h p) n + (g (n + 1) + h (n + 1)) = sm g n + g (n + 1) + (sm h n + h (n + 1))
    omega
theorem su_linc {n : Nat} {u u' : Nat → Int32} (hu : ∀ m, u' m = linc r n 1 u m) (hb : ∀ m, 1 ≤ m → m ≤ n - 1 → 0 ≤ (u m).toInt ∧ (u m).toInt ≤ 100000) : su u' (n - 1) = su u (n - 1) + lnl r n := by
  unfold su lnl
  rw [← sm_add]
  refine sm_congr (fun m h1 h2 => ?_)
  obtain ⟨b1, b2⟩ := hb m h1 h2
  have s1 := add1 (v := u m) b1 b2
  rw [hu m]
  unfold linc
  by_cases c : lg r (n - m) = true
  · rw [if_pos ⟨by omega, by omega, c⟩, if_pos c, s1]
    omega
  · rw [if_neg (fun z => c z.2.2), if_neg c]
    omega
/-- what is wanted, made, found so far -/
def LTC (r : Nat) (f v t0 t : Nat → Int32) (n : Nat) : Prop := ∃ w d : Nat, d ≤ w ∧ w + n + lphi r f = lphi r v + 1 ∧ lcnt v = lcnt f + d ∧ t 1 = t0 1 + Int32.ofNat w ∧ t 2 = t0 2 + Int32.ofNat d ∧ t 3 = t0 3 + Int32.ofNat (w - d) ∧ ∀ i, ¬ i = 1 → ¬ i = 2 → ¬ i = 3 → t i = t0 i
theorem LTC.kept {f v t0 t : Nat → Int32} {n : Nat} {x : Int32} (hx : 0 ≤ x.toInt) (h : LTC r f v t0 t (n + x.toInt.toNat)) : LTC r f v t0 (tka 0 x t) n := by
  obtain ⟨w, d, h0, h1, h2, h3, h4, h5, h6⟩ := h
  refine ⟨w + x.toInt.toNat, d, by omega, by omega, h2, ?_, ?_, ?_, fun i a b c => (tka_o a b c).trans (h6 i a b c)⟩
  · rw [tka_1, h3]
    conv => lhs; rw [o_back hx]
    exact o_a2
  · rw [tka_2, h4, Int32.add_zero]
  · rw [tka_3, h5, Int32.sub_zero]
    conv => lhs; rw [o_back hx]
    rw [o_a2, show w - d + x.toInt.toNat = w + x.toInt.toNat - d from by omega]
theorem LTC.made {f v t0 t : Nat → Int32} {n i l : Nat} {x y : Int32} (hx : 1 ≤ x.toInt) (h : LTC r f v t0 t (n + x.toInt.toNat)) (i1 : 1 ≤ i) (i2 : i ≤ 20) (hu : v i = -1) (hy : ¬ y = -1) (hl : lnl r i = l) : LTC r f (upd v i y) t0 (tka 1 x t) (n + l) := by
  obtain ⟨w, d, h0, h1, h2, h3, h4, h5, h6⟩ := h
  have p := lphi_upd (r := r) (f := v) (v := y) i1 i2
  have q := lcnt_upd (f := v) (v := y) i1 i2
  rw [if_pos hu, if_neg hy] at p q
  have e1 : x - 1 = Int32.ofNat (x.toInt.toNat - 1) := by
    conv => lhs; rw [o_back (show 0 ≤ x.toInt by omega)]
    exact o_sub (b := 1) (by omega)
  refine ⟨w + x.toInt.toNat, d + 1, by omega, by omega, by omega, ?_, ?_, ?_, fun i a b c => (tka_o a b c).trans (h6 i a b c)⟩
  · rw [tka_1, h3]
    conv => lhs; rw [o_back (show 0 ≤ x.toInt by omega)]
    exact o_a2
  · rw [tka_2, h4]
    exact o_a2 (b := 1)
  · rw [tka_3, h5, e1, o_a2, show w - d + (x.toInt.toNat - 1) = w + x.toInt.toNat - (d + 1) from by omega]
/-- the class's contents as far as they are asked for: above at -/
def LGV (r : Nat) (f v : Nat → Int32) (a at_ : Nat) : Prop := LF r f (fun p => LRR r f a p ∧ at_ < p) v
theorem m_51 (hN : 100 ≤ N) (hr : r < 3) (hp0 : Rg (Int32.ofNat r) 0 2) (ha : a ≤ 20) {f g tt : Nat → Int32} (hf : LOK r f) (hg : LG f g) : ∀ at_ fu (t u v : Nat → Int32), at_ ≤ a → at_ < fu → LMK r f a at_ u → LGV r f v a at_ → LTC r f v tt t (su u at_) → ∃ t' u' v', fX7_rule_51 N K th0 g0 t0 u0 (Int32.ofNat r) (Int32.ofNat a) fu (Int32.ofNat at_) th g t u = fX7_rule_185 N K th0 g0 t0 u0 (Int32.ofNat r) (Int32.ofNat a) N 1 th g t' u' ∧ LMK r f a 0 u' ∧ LGV r f v' a 0 ∧ LTC r f v' tt t' 0 := by
  intro at_
  induction at_ with
  | zero =>
    intro fu t u v _ hfu h hv hc
    obtain ⟨fu, rfl⟩ : ∃ z, fu = z + 1 := ⟨fu - 1, by omega⟩
    refine ⟨t, u, v, ?_, h, hv, hc⟩
    conv => lhs; unfold fX7_rule_51
    rw [if_pos (by decide)]
  | succ at_ ih =>
    intro fu t u v hat hfu h hv hc
    obtain ⟨fu, rfl⟩ : ∃ z, fu = z + 1 := ⟨fu - 1, by omega⟩
    obtain ⟨⟨a1, a2⟩, a3⟩ := h (at_ + 1) hat
    obtain ⟨z1, z2⟩ := hg.z hr hf (show 1 ≤ at_ + 1 by omega) (show at_ + 1 ≤ 20 by omega)
    have esu : su u (at_ + 1) = su u at_ + (u (at_ + 1)).toInt.toNat := rfl
    have gvs : ¬ LRR r f a (at_ + 1) → LGV r f v a at_ := fun hno => hv.iff (fun p => ⟨fun z => ⟨z.1, by omega⟩, fun z => ⟨z.1, by
      by_cases e : p = at_ + 1
      · exact absurd (e ▸ z.1) hno
      · omega⟩⟩)
    by_cases hu : u (at_ + 1) = 0
    · have hno : ¬ LRR r f a (at_ + 1) := fun z => a3.mpr (LAsk.of ha z (Nat.le_refl _)) hu
      have hc2 : LTC r f v tt t (su u at_) := by
        rw [esu, hu, show ((0 : Int32).toInt.toNat) = 0 from by decide, Nat.add_zero] at hc
        exact hc
      obtain ⟨t', u', v', r1, r2⟩ := ih fu t u v (by omega) (by omega) (LMK_skip h hno) (gvs hno) hc2
      refine ⟨t', u', v', ?_, r2⟩
      conv => lhs; unfold fX7_rule_51
      rw [if_neg (o_0lt (by omega) (by omega)), if_neg (o_ob (by omega) (by omega)), o_c (by omega), if_pos hu]
      unfold fX7_rule_177
      rw [o_m1]
      exact r1
    · have hask := a3.mp hu
      have u1 := pos_of a1 hu
      by_cases c : f (at_ + 1) = -1
      · have hrr := hask.rr ha (by omega) c
        obtain ⟨u2, e1, e2⟩ := m_138 (N := N) (K := K) (th0 := th0) (th := th) (g0 := g0) (t0 := t0) (u0 := u0) hN hr (k51 := fX7_rule_51 N K th0 g0 t0 u0 (Int32.ofNat r) (Int32.ofNat a) fu) (n := at_ + 1) (by omega) (p1 := Int32.ofNat a) (g := g) (t := tka 1 (u (at_ + 1)) t) (at_ + 1) 1 N u (by omega) (by omega) (by omega)
        have eu : u2 = linc r (at_ + 1) 1 u := funext e2
        have hsu := su_linc (r := r) (n := at_ + 1) (u := u) (u' := u2) e2 (fun m m1 m2 => by
          obtain ⟨⟨q1, q2⟩, -⟩ := h m (by omega)
          exact ⟨q1, by omega⟩)
        rw [show at_ + 1 - 1 = at_ from by omega] at hsu
        have hvu : v (at_ + 1) = -1 := ((hv (at_ + 1) (by omega) (by omega)).2 (fun z => by omega)).trans c
        have hc2 : LTC r f (upd v (at_ + 1) (Int32.ofNat (LW r (at_ + 1)))) tt (tka 1 (u (at_ + 1)) t) (su u2 at_) := by
          rw [hsu]
          rw [esu] at hc
          exact LTC.made u1 hc (by omega) (by omega) hvu (lw_ne hr (by omega)) rfl
        have hv2 : LGV r f (upd v (at_ + 1) (Int32.ofNat (LW r (at_ + 1)))) a at_ := by
          intro p p1 p2
          unfold upd
          by_cases e : p = at_ + 1
          · rw [if_pos e, e]
            exact ⟨fun _ => rfl, fun z => absurd ⟨hrr, by omega⟩ z⟩
          · rw [if_neg e]
            exact ⟨fun z => (hv p p1 p2).1 ⟨z.1, by omega⟩, fun z => (hv p p1 p2).2 (fun y => z ⟨y.1, by omega⟩)⟩
        obtain ⟨t', u', v', r1, r2⟩ := ih fu _ u2 _ (by omega) (by omega) (by rw [eu]; exact LMK_step ha hat h hrr) hv2 hc2
        refine ⟨t', u', v', ?_, r2⟩
        conv => lhs; unfold fX7_rule_51
        rw [if_neg (o_0lt (by omega) (by omega)), if_neg (o_ob (by omega) (by omega)), o_c (by omega), if_neg hu, if_neg hp0.mm, if_neg (o_ob2 (by omega) (by omega)), if_pos (z1.mpr c)]
        unfold fX7_rule_83
        rw [if_neg (o_ob (by omega) (by omega)), m_b1, Option.bind_some, if_neg (o_ob (by omega) (by omega)), Option.bind_some, o_c (by omega)]
        refine Eq.trans e1 ?_
        unfold fX7_rule_177
        rw [o_m1]
        exact r1
      · have hno : ¬ LRR r f a (at_ + 1) := fun z => c (LRR_b ha z).1
        obtain ⟨t', u', v', r1, r2⟩ := ih fu (tka 0 (u (at_ + 1)) t) u v (by omega) (by omega) (LMK_skip h hno) (gvs hno) (LTC.kept a1 hc)
        refine ⟨t', u', v', ?_, r2⟩
        conv => lhs; unfold fX7_rule_51
        rw [if_neg (o_0lt (by omega) (by omega)), if_neg (o_ob (by omega) (by omega)), o_c (by omega), if_neg hu, if_neg hp0.mm, if_neg (o_ob2 (by omega) (by omega)), if_neg (fun z => c (z1.mp z))]
        unfold fX7_rule_83
        rw [if_neg (o_ob (by omega) (by omega)), m_b0, Option.bind_some, if_neg (o_ob (by omega) (by omega)), Option.bind_some, o_c (by omega)]
        obtain ⟨M, rfl⟩ : ∃ M, N = M + 1 := ⟨N - 1, by omega⟩
        conv => lhs; unfold fX7_rule_138
        rw [if_neg (by rw [show (1 : Int32) = Int32.ofNat 1 from rfl, o_lt (by omega) (by omega)]; omega), if_pos rfl]
        unfold fX7_rule_177
        rw [o_m1]
        exact r1
def racc (r n : Nat) : Nat → Int32
  | 0 => 0
  | o + 1 => racc r n o + (if 1 ≤ o ∧ lg r o = true then lfI r o * Int32.ofNat (LW r (n - o)) else 0)
theorem racc_0 : ∀ n, n < 21 → 1 ≤ n → racc 0 n (n + 1) = Int32.ofNat (LW 0 n) := by decide +kernel
theorem racc_r : ∀ r, r < 3 → ∀ n, n < 21 → 1 ≤ r → 1 ≤ n → racc r n (n + 1) / Int32.ofNat n = Int32.ofNat (LW r n) := by decide +kernel
theorem m_219 (hN : 100 ≤ N) (hr : r < 3) (hp0 : Rg (Int32.ofNat r) 0 2) {k185 : Int32 → Int32 → (Nat → Int32) → (Nat → Int32) → (Nat → Int32) → Option (Int32 × Int32 × (Nat → Int32) × (Nat → Int32) × (Nat → Int32))} {n : Nat} (n1 : 1 ≤ n) (hn : n ≤ 20) {p1 : Int32} {g t u : Nat → Int32} (hg : ∀ o, 1 ≤ o → o < n → lg r o = true → g (n - o) = Int32.ofNat (LW r (n - o))) : ∀ k off fu, off + k = n + 1 → 1 ≤ off → k < fu → fX7_rule_219 N K th0 g0 t0 u0 (Int32.ofNat r) p1 k185 fu (Int32.ofNat n) (racc r n off) (Int32.ofNat off) th g t u = k185 (Int32.ofNat (n + 1)) th (upd g n (Int32.ofNat (LW r n))) t u := by
  intro k
  induction k with
  | zero =>
    intro off fu ho o1 hfu
    obtain ⟨fu, rfl⟩ : ∃ z, fu = z + 1 := ⟨fu - 1, by omega⟩
    obtain rfl : off = n + 1 := by omega
    unfold fX7_rule_219
    rw [if_pos (by rw [o_lt (by omega) (by omega)]; omega), if_neg hp0.mm]
    unfold fX7_rule_281 fX7_rule_282
    by_cases r0 : r = 0
    · subst r0
      rw [if_pos (by decide), if_neg (o_ob (by omega) (by omega)), o_1, o_c (by omega), racc_0 n (by omega) n1]
    · rw [if_neg (by rw [show (0 : Int32) = Int32.ofNat 0 from rfl, o_eq (by omega) (by omega)]; exact r0), if_neg (by rw [show (0 : Int32) = Int32.ofNat 0 from rfl, o_eq (by omega) (by omega)]; omega), if_neg (o_ob (by omega) (by omega)), o_1, o_c (by omega), racc_r r hr n (by omega) (by omega) n1]
  | succ k ih =>
    intro off fu ho o1 hfu
    obtain ⟨fu, rfl⟩ : ∃ z, fu = z + 1 := ⟨fu - 1, by omega⟩
    have l0 := lf_0 r hr off (by omega) o1
    have e := ih (off + 1) fu (by omega) (by omega) (by omega)
    by_cases c : lg r off = true
    · have hne : ¬ lfI r off = 0 := fun z => by rw [l0.mp z] at c; exact absurd c (by decide)
      have es : racc r n (off + 1) = racc r n off + lfI r off * Int32.ofNat (LW r (n - off)) := by
        show racc r n off + (if 1 ≤ off ∧ lg r off = true then lfI r off * Int32.ofNat (LW r (n - off)) else 0) = _
        rw [if_pos ⟨o1, c⟩]
      have hw : fX7_ledgerWorth N K th g (Int32.ofNat r) (Int32.ofNat (n - off)) = some (Int32.ofNat (LW r (n - off))) := by
        unfold fX7_ledgerWorth
        by_cases z : n - off = 0
        · rw [z, if_pos (by decide), LW_0 r hr]
          rfl
        · rw [if_neg (by rw [show (0 : Int32) = Int32.ofNat 0 from rfl, o_eq (by omega) (by omega)]; exact z), if_neg hp0.mm, if_neg (o_ob (by omega) (by omega)), o_c (by omega), hg off o1 (by omega) c]
      rw [es] at e
      unfold fX7_rule_219
      rw [if_neg (by rw [o_lt (by omega) (by omega)]; omega), m_factor hN hr (by omega) o1, Option.bind_some, if_neg hne, Option.bind_some, o_sub (by omega), hw, Option.bind_some]
      unfold fX7_rule_255
      rw [o_1]
      exact e
    · have hz : lfI r off = 0 := l0.mpr (Bool.eq_false_iff.mpr c)
      have es : racc r n (off + 1) = racc r n off := by
        show racc r n off + (if 1 ≤ off ∧ lg r off = true then lfI r off * Int32.ofNat (LW r (n - off)) else 0) = _
        rw [if_neg (fun z => c z.2), Int32.add_zero]
      rw [es] at e
      unfold fX7_rule_219
      rw [if_neg (by rw [o_lt (by omega) (by omega)]; omega), m_factor hN hr (by omega) o1, Option.bind_some, if_pos hz]
      unfold fX7_rule_255
      rw [o_1]
      exact e
/-- the reference's contents as far as they are written: below i -/
def LKPm (r : Nat) (f g : Nat → Int32) (a i : Nat) : Prop := ∀ p, 1 ≤ p → p ≤ 20 → ((LRR r f a p ∧ p < i) → g p = Int32.ofNat (LW r p)) ∧ (¬ (LRR r f a p ∧ p < i) → g p = if f p = -1 then 0 else f p)
theorem m_185 (hN : 100 ≤ N) (hr : r < 3) (hp0 : Rg (Int32.ofNat r) 0 2) (ha : a ≤ 20) {f t u : Nat → Int32} (hf : LOK r f) (hu : LMK r f a 0 u) : ∀ n i fu (g : Nat → Int32), i + n = a + 1 → 1 ≤ i → n < fu → LKPm r f g a i → ∃ g', fX7_rule_185 N K th0 g0 t0 u0 (Int32.ofNat r) (Int32.ofNat a) fu (Int32.ofNat i) th g t u = some (Int32.ofNat (LW r a), th, g', dn t, u) ∧ LKPm r f g' a (a + 1) := by
  intro n
  induction n with
  | zero =>
    intro i fu g hi i1 hfu h
    obtain ⟨fu, rfl⟩ : ∃ z, fu = z + 1 := ⟨fu - 1, by omega⟩
    obtain rfl : i = a + 1 := by omega
    refine ⟨g, ?_, h⟩
    have hw : fX7_ledgerWorth N K th g (Int32.ofNat r) (Int32.ofNat a) = some (Int32.ofNat (LW r a)) := by
      unfold fX7_ledgerWorth
      by_cases z : a = 0
      · rw [z, if_pos (by decide), LW_0 r hr]
        rfl
      · rw [if_neg (by rw [show (0 : Int32) = Int32.ofNat 0 from rfl, o_eq (by omega) (by omega)]; exact z), if_neg hp0.mm, if_neg (o_ob (by omega) (by omega)), o_c (by omega)]
        by_cases c : f a = -1
        · rw [(h a (by omega) ha).1 ⟨LRR_self ha (by omega) c, by omega⟩]
        · rw [(h a (by omega) ha).2 (fun y => c (LRR_b ha y.1).1), if_neg c]
          rcases hf a (by omega) ha with y | y
          · exact absurd y c
          · rw [y]
    unfold fX7_rule_185
    rw [if_pos (by rw [o_lt (by omega) (by omega)]; omega), hw, Option.bind_some, m_done, Option.bind_some]
  | succ n ih =>
    intro i fu g hi i1 hfu h
    obtain ⟨fu, rfl⟩ : ∃ z, fu = z + 1 := ⟨fu - 1, by omega⟩
    obtain ⟨⟨a1, a2⟩, a3⟩ := hu i (by omega)
    have same : ¬ LRR r f a i → LKPm r f g a (i + 1) := by
      intro hs p p1 p2
      refine ⟨fun z => ?_, fun z => ?_⟩
      · have : ¬ p = i := fun e => hs (e ▸ z.1)
        exact (h p p1 p2).1 ⟨z.1, by omega⟩
      · exact (h p p1 p2).2 (fun y => z ⟨y.1, by omega⟩)
    have next : ∀ g2, LKPm r f g2 a (i + 1) → ∃ g', fX7_rule_185 N K th0 g0 t0 u0 (Int32.ofNat r) (Int32.ofNat a) fu (Int32.ofNat (i + 1)) th g2 t u = some (Int32.ofNat (LW r a), th, g', dn t, u) ∧ LKPm r f g' a (a + 1) := fun g2 h2 => ih (i + 1) fu g2 (by omega) (by omega) (by omega) h2
    have hgi : g i = if f i = -1 then 0 else f i := (h i i1 (by omega)).2 (fun z => by omega)
    unfold fX7_rule_185
    rw [if_neg (by rw [o_lt (by omega) (by omega)]; omega), if_neg (o_ob (by omega) (by omega)), o_c (by omega)]
    by_cases c : u i = 0
    · have hno : ¬ LRR r f a i := fun z => a3.mpr (LAsk.of ha z (Nat.zero_le _)) c
      rw [if_pos c]
      unfold fX7_rule_282
      rw [o_1]
      exact next g (same hno)
    · rw [if_neg c, if_neg hp0.mm, if_neg (o_ob2 (by omega) (by omega))]
      have hask := a3.mp c
      by_cases d : f i = -1
      · have hrr := hask.rr ha i1 d
        rw [if_pos (by rw [hgi, if_pos d]; decide)]
        have hl : ∀ o, 1 ≤ o → o < i → lg r o = true → g (i - o) = Int32.ofNat (LW r (i - o)) := by
          intro o o1 o2 o3
          by_cases y : f (i - o) = -1
          · exact (h (i - o) (by omega) (by omega)).1 ⟨LRR_leg ha hrr o1 o2 o3 y, by omega⟩
          · rw [(h (i - o) (by omega) (by omega)).2 (fun z => y (LRR_b ha z.1).1), if_neg y]
            rcases hf (i - o) (by omega) (by omega) with z | z
            · exact absurd z y
            · exact z
        have e := m_219 (N := N) (K := K) (th0 := th0) (th := th) (g0 := g0) (t0 := t0) (u0 := u0) hN hr hp0 (k185 := fX7_rule_185 N K th0 g0 t0 u0 (Int32.ofNat r) (Int32.ofNat a) fu) i1 (show i ≤ 20 by omega) (p1 := Int32.ofNat a) (t := t) (u := u) hl i 1 N (by omega) (by omega) (by omega)
        obtain ⟨g', r1, r2⟩ := next (upd g i (Int32.ofNat (LW r i))) (fun p p1 p2 => by
          unfold upd
          by_cases y : p = i
          · rw [if_pos y, y]
            exact ⟨fun _ => rfl, fun z => absurd ⟨hrr, by omega⟩ z⟩
          · rw [if_neg y]
            exact ⟨fun z => (h p p1 p2).1 ⟨z.1, by omega⟩, fun z => (h p p1 p2).2 (fun w => z ⟨w.1, by omega⟩)⟩)
        exact ⟨g', e.trans r1, r2⟩
      · have hno : ¬ LRR r f a i := fun z => d (LRR_b ha z).1
        have hw : f i = Int32.ofNat (LW r i) := by
          rcases hf i i1 (by omega) with z | z
          · exact absurd z d
          · exact z
        rw [if_neg (by rw [hgi, if_neg d, hw]; exact (lw_p hr (by omega)).2)]
        unfold fX7_rule_282
        rw [o_1]
        exact next g (same hno)
theorem m_24 {p1 : Int32} (hp1 : p1 = Int32.ofNat a) (ha : a ≤ 20) {g t : Nat → Int32} : ∀ n i fu (u : Nat → Int32), i + n = a → n < fu → ∃ u', fX7_rule_24 N K th0 g0 t0 u0 (Int32.ofNat r) p1 fu (Int32.ofNat i) th g t u = fX7_rule_51 N K th0 g0 t0 u0 (Int32.ofNat r) p1 N p1 th g t (upd u' a 1) ∧ ∀ m, u' m = if i ≤ m ∧ m < a then 0 else u m := by
  subst hp1
  intro n
  induction n with
  | zero =>
    intro i fu u hi hfu
    obtain ⟨fu, rfl⟩ : ∃ z, fu = z + 1 := ⟨fu - 1, by omega⟩
    obtain rfl : i = a := by omega
    refine ⟨u, ?_, fun m => by rw [if_neg (by omega)]⟩
    conv => lhs; unfold fX7_rule_24
    rw [if_pos (by rw [o_le (by omega) (by omega)]; omega), if_neg (o_ob (by omega) (by omega)), o_c (by omega)]
  | succ n ih =>
    intro i fu u hi hfu
    obtain ⟨fu, rfl⟩ : ∃ z, fu = z + 1 := ⟨fu - 1, by omega⟩
    obtain ⟨u', h1, h2⟩ := ih (i + 1) fu (upd u i 0) (by omega) (by omega)
    refine ⟨u', ?_, fun m => ?_⟩
    · conv => lhs; unfold fX7_rule_24
      rw [if_neg (by rw [o_le (by omega) (by omega)]; omega), if_neg (o_ob (by omega) (by omega)), o_c (by omega), o_1]
      exact h1
    · rw [h2 m]
      unfold upd
      by_cases c : i + 1 ≤ m ∧ m < a
      · rw [if_pos c, if_pos (by omega)]
      · rw [if_neg c]
        by_cases e : m = i
        · rw [if_pos e, if_pos (by omega)]
        · rw [if_neg e, if_neg (by omega)]
end LM
/-- the reference's rule: its worth, its contents, its tallies -/
theorem m_rule_ {N K r a : Nat} {th0 th : Int32} {f g t u : Nat → Int32} (hN : 100 ≤ N) (hr : r < 3) (hp0 : Rg (Int32.ofNat r) 0 2) (ha : a ≤ 20) (hf : LOK r f) (hg : LG f g) : ∃ g' t' u' v, fX7_rule_24 N K th0 g t u (Int32.ofNat r) (Int32.ofNat a) N (0 : Int32) th g t u = some (Int32.ofNat (LW r a), th, g', dn t', u') ∧ LF r f (LRR r f a) v ∧ LG v g' ∧ LCK r f v (if a = 0 then 0 else 1) (t 1) (t' 1) (t 2) (t' 2) (t 3) (t' 3) ∧ ∀ i, ¬ i = 1 → ¬ i = 2 → ¬ i = 3 → t' i = t i := by
  obtain ⟨u1, h1, h2⟩ := m_24 (N := N) (K := K) (r := r) (th0 := th0) (th := th) (g0 := g) (t0 := t) (u0 := u) (g := g) (t := t) rfl ha a 0 N u (by omega) (by omega)
  have hmk : LMK r f a a (upd u1 a 1) := by
    intro m hm
    have q1 : (1 : Int32).toInt = 1 := by decide
    have q0 : (0 : Int32).toInt = 0 := by decide
    unfold upd
    by_cases e : m = a
    · rw [if_pos e]
      exact ⟨⟨by omega, by omega⟩, fun _ => Or.inl e, fun _ => by decide⟩
    · rw [if_neg e, h2, if_pos (by omega)]
      refine ⟨⟨by omega, by omega⟩, fun z => absurd rfl z, fun z => ?_⟩
      rcases z with z | ⟨b, b1, b2, -⟩
      · exact absurd z e
      · have := LRR_b ha b1
        omega
  have hgv : LGV r f f a a := fun p _ _ => ⟨fun z => by have := LRR_b ha z.1; omega, fun _ => rfl⟩
  by_cases a0 : a = 0
  · subst a0
    obtain ⟨M, rfl⟩ : ∃ M, N = M + 1 := ⟨N - 1, by omega⟩
    obtain ⟨g', h5, h6⟩ := m_185 (N := M + 1) (K := K) (th0 := th0) (th := th) (g0 := g) (t0 := t) (u0 := u) (t := t) (u := upd u1 0 1) hN hr hp0 ha hf hmk 0 1 (M + 1) g (by omega) (by omega) (by omega) (fun p p1 p2 => ⟨fun z => by omega, fun _ => hg p p1 p2⟩)
    refine ⟨g', t, upd u1 0 1, f, ?_, ?_, ?_, by rw [if_pos rfl]; exact LCK.r, fun _ _ _ _ => rfl⟩
    · refine (h1.trans ?_).trans h5
      conv => lhs; unfold fX7_rule_51
      rw [if_pos (by decide)]
      rfl
    · exact fun p p1 p2 => ⟨fun z => by have := LRR_b ha z; omega, fun _ => rfl⟩
    · exact fun p p1 p2 => (h6 p p1 p2).2 (fun z => by omega)
  · have hsu : su (upd u1 a 1) a = 1 := by
      obtain ⟨z, rfl⟩ : ∃ z, a = z + 1 := ⟨a - 1, by omega⟩
      show su (upd u1 (z + 1) 1) z + (upd u1 (z + 1) 1 (z + 1)).toInt.toNat = 1
      rw [upd_at]
      have e1 : su (upd u1 (z + 1) 1) z = sm (fun _ => 0) z := sm_congr (fun p x y => by
        show (upd u1 (z + 1) 1 p).toInt.toNat = 0
        unfold upd
        rw [if_neg (by omega), h2, if_pos (by omega)]
        rfl)
      have e2 : ∀ n, sm (fun _ => 0) n = 0 := by
        intro n
        induction n with
        | zero => rfl
        | succ n ih => show sm (fun _ => 0) n + 0 = 0; rw [ih]
      rw [e1, e2]
      decide
    have htc : LTC r f f t t (su (upd u1 a 1) a) := by
      rw [hsu]
      exact ⟨0, 0, Nat.le_refl _, by omega, by omega, o_a0, o_a0, o_a0, fun _ _ _ _ => rfl⟩
    obtain ⟨t2, u2, v, h3, h4, hv, hc⟩ := m_51 (N := N) (K := K) (th0 := th0) (th := th) (g0 := g) (t0 := t) (u0 := u) hN hr hp0 ha hf hg a N t _ f (Nat.le_refl _) (by omega) hmk hgv htc
    obtain ⟨g', h5, h6⟩ := m_185 (N := N) (K := K) (th0 := th0) (th := th) (g0 := g) (t0 := t) (u0 := u) (t := t2) (u := u2) hN hr hp0 ha hf h4 a 1 N g (by omega) (by omega) (by omega) (fun p p1 p2 => ⟨fun z => by omega, fun _ => hg p p1 p2⟩)
    have hv2 : LF r f (LRR r f a) v := hv.iff (fun p => ⟨fun z => z.1, fun z => ⟨z, by have := LRR_b ha z; omega⟩⟩)
    refine ⟨g', t2, u2, v, (h1.trans h3).trans h5, hv2, fun p p1 p2 => ?_, ?_, ?_⟩
    · by_cases z : LRR r f a p
      · have b := LRR_b ha z
        rw [(h6 p p1 p2).1 ⟨z, by omega⟩, (hv2 p p1 p2).1 z, if_neg (lw_ne hr p2)]
      · rw [(h6 p p1 p2).2 (fun y => z y.1), (hv2 p p1 p2).2 z]
    · obtain ⟨w, d, c0, c1, c2, c3, c4, c5, -⟩ := hc
      rw [if_neg a0]
      exact ⟨w, d, c0, by omega, c2, c3, c4, c5⟩
    · obtain ⟨w, d, -, -, -, -, -, -, c6⟩ := hc
      exact c6

end MG_60smled
section MG_60tlties
/-! ===== the ledgers' methods on both sides ===== -/
def LT (r : Nat) (sz : Int32) (f g : Nat → Int32) : Prop := sz = Int32.ofNat (lcnt f) ∧ LOK r f ∧ LG f g
theorem LCK.eq {r : Nat} {f a b : Nat → Int32} {n : Nat} {c1 c1' c2 c2' c3 c3' t1 t1' t2 t2' t3 t3' : Int32} (h : LCK r f a n c1 c1' c2 c2' c3 c3') (g : LCK r f b n t1 t1' t2 t2' t3 t3') (hp : lphi r a = lphi r b) (hc : lcnt a = lcnt b) : ∃ w d e : Int32, c1' = c1 + w ∧ t1' = t1 + w ∧ c2' = c2 + d ∧ t2' = t2 + d ∧ c3' = c3 + e ∧ t3' = t3 + e := by
  obtain ⟨w, d, h0, h1, h2, h3, h4, h5⟩ := h
  obtain ⟨w', d', g0, g1, g2, g3, g4, g5⟩ := g
  obtain rfl : w' = w := by omega
  obtain rfl : d' = d := by omega
  exact ⟨_, _, _, h3, g3, h4, g4, h5, g5⟩
theorem lt_know {N K r a : Nat} {th0 th : Int32} {sz c0 c1 c2 c3 c4 c5 : Int32} {f g t u : Nat → Int32} (hN : 100 ≤ N) (hK : 100 ≤ K) (hr : r < 3) (hp0 : Rg (Int32.ofNat r) 0 2) (ha : a ≤ 20) (h : LT r sz f g) : ∃ v sz' f' c1' c2' c3' g' t' u', fX1_recall N K (Int32.ofNat r) sz f c0 c1 c2 c3 c4 c5 (Int32.ofNat a) = some (v, sz', f', c1', c2', c3') ∧ fX7_rule_24 N K th0 g t u (Int32.ofNat r) (Int32.ofNat a) N (0 : Int32) th g t u = some (v, th, g', dn t', u') ∧ LT r sz' f' g' ∧ TT c1 c2 c3 c1' c2' c3' t t' := by
  obtain ⟨h1, h2, h3⟩ := h
  obtain ⟨sz', f', c1', c2', c3', a1, a2, a3, a4⟩ := c_lrec (N := N) (c0 := c0) (c1 := c1) (c2 := c2) (c3 := c3) (c4 := c4) (c5 := c5) hN hK hr ha h2 h1
  obtain ⟨g', t', u', v, b1, b2, b3, b4, b5⟩ := m_rule_ (N := N) (K := K) (th0 := th0) (th := th) (t := t) (u := u) hN hr hp0 ha h2 h3
  have e : ∀ p, 1 ≤ p → p ≤ 20 → v p = f' p := by
    intro p p1 p2
    by_cases z : LRR r f a p
    · rw [(a2 p p1 p2).1 z, (b2 p p1 p2).1 z]
    · rw [(a2 p p1 p2).2 z, (b2 p p1 p2).2 z]
  refine ⟨_, sz', f', c1', c2', c3', g', t', u', a1, b1, ⟨a3, a2.ok h2, fun p p1 p2 => ?_⟩, LCK.eq a4 b4 (lphi_congr (fun p p1 p2 => (e p p1 p2).symm)) (lcnt_congr (fun p p1 p2 => (e p p1 p2).symm)), b5⟩
  rw [b3 p p1 p2, e p p1 p2]
theorem c_lkw {N K a : Nat} {ru sz : Int32} {f : Nat → Int32} (h1 : 1 ≤ a) (h2 : a ≤ 20) : fX1_keptWorth N K ru sz f (Int32.ofNat a) = some (f a) := by
  unfold fX1_keptWorth
  rw [if_neg (o_1le h1 (by omega)), if_pos (by rw [show (20 : Int32) = Int32.ofNat 20 from rfl, o_le (by omega) (by omega)]; exact h2), if_neg (o_ob (by omega) (by omega)), o_c (by omega)]
theorem c_lkeeps {N K a : Nat} {ru sz : Int32} {f : Nat → Int32} (h1 : 1 ≤ a) (h2 : a ≤ 20) : fX1_keeps N K ru sz f (Int32.ofNat a) = some (if f a = -1 then 0 else 1) := by
  unfold fX1_keeps
  rw [c_lkw h1 h2, Option.bind_some]
  by_cases e : f a = -1
  · rw [if_pos e, if_pos e]
  · rw [if_neg e, if_neg e]
theorem c_lkeeps0 {N K : Nat} {ru sz : Int32} {f : Nat → Int32} : fX1_keeps N K ru sz f (Int32.ofNat 0) = some 0 := by
  unfold fX1_keeps fX1_keptWorth
  rw [if_pos (by decide), Option.bind_some, if_pos rfl]
theorem c_ldrop {N K a : Nat} {ru sz : Int32} {f : Nat → Int32} (h1 : 1 ≤ a) (h2 : a ≤ 20) (e : ¬ f a = -1) : fX1_drop N K ru sz f (Int32.ofNat a) = some (sz - 1, upd f a (-1)) := by
  unfold fX1_drop
  rw [if_neg (o_1le h1 (by omega)), if_neg (n_20 h2), if_neg (o_ob (by omega) (by omega)), o_c (by omega), if_neg e, if_neg (o_ob2 (by omega) (by omega))]
/-- the mark -/
def lms (f : Nat → Int32) : Nat → Int32
  | 0 => 0
  | n + 1 => lms f n + (if f (n + 1) = -1 then 0 else Int32.ofNat (n + 1) ^^^ f (n + 1))
theorem c_lmark_ {N K : Nat} {ru sz : Int32} {f : Nat → Int32} : ∀ k i fu, i + k = 20 → k < fu → fX1_mark_4 N K ru sz f fu (lms f i) (Int32.ofNat (i + 1)) = some (lms f 20) := by
  intro k
  induction k with
  | zero =>
    intro i fu hi hfu
    obtain ⟨fu, rfl⟩ : ∃ m, fu = m + 1 := ⟨fu - 1, by omega⟩
    obtain rfl : i = 20 := by omega
    unfold fX1_mark_4
    rw [if_pos (by decide)]
  | succ k ih =>
    intro i fu hi hfu
    obtain ⟨fu, rfl⟩ : ∃ m, fu = m + 1 := ⟨fu - 1, by omega⟩
    have e := ih (i + 1) fu (by omega) (by omega)
    have es : lms f (i + 1) = lms f i + (if f (i + 1) = -1 then 0 else Int32.ofNat (i + 1) ^^^ f (i + 1)) := rfl
    rw [es] at e
    unfold fX1_mark_4
    rw [if_neg (n_20 (by omega)), if_neg (o_ob (by omega) (by omega)), o_c (by omega)]
    unfold fX1_mark_31
    rw [o_1]
    by_cases c : f (i + 1) = -1
    · rw [if_pos c]
      rw [if_pos c, Int32.add_zero] at e
      exact e
    · rw [if_neg c, if_neg (o_ob2 (by omega) (by omega))]
      rw [if_neg c] at e
      exact e
theorem m_lt_ {N K r : Nat} {th : Int32} {f g : Nat → Int32} (hr : r < 3) (hp0 : Rg (Int32.ofNat r) 0 2) (hf : LOK r f) (hg : LG f g) {w : Nat} (hw : w < 2) : ∀ k i fu, i + k = 20 → k < fu → fX7_ledgerTold_5 N K th g (Int32.ofNat r) (Int32.ofNat w) fu (if w = 0 then Int32.ofNat (sm (fun p => if f p = -1 then 0 else 1) i) else lms f i) (Int32.ofNat (i + 1)) = some (if w = 0 then Int32.ofNat (lcnt f) else lms f 20) := by
  intro k
  induction k with
  | zero =>
    intro i fu hi hfu
    obtain ⟨fu, rfl⟩ : ∃ m, fu = m + 1 := ⟨fu - 1, by omega⟩
    obtain rfl : i = 20 := by omega
    unfold fX7_ledgerTold_5
    rw [if_pos (by decide)]
    rfl
  | succ k ih =>
    intro i fu hi hfu
    obtain ⟨fu, rfl⟩ : ∃ m, fu = m + 1 := ⟨fu - 1, by omega⟩
    have e := ih (i + 1) fu (by omega) (by omega)
    have es : lms f (i + 1) = lms f i + (if f (i + 1) = -1 then 0 else Int32.ofNat (i + 1) ^^^ f (i + 1)) := rfl
    have et : sm (fun p => if f p = -1 then 0 else 1) (i + 1) = sm (fun p => if f p = -1 then 0 else 1) i + (if f (i + 1) = -1 then 0 else 1) := rfl
    rw [es, et] at e
    obtain ⟨-, z2⟩ := hg.z hr hf (show 1 ≤ i + 1 by omega) (show i + 1 ≤ 20 by omega)
    have hgi := hg (i + 1) (by omega) (by omega)
    unfold fX7_ledgerTold_5
    rw [if_neg (n_20 (by omega)), if_neg hp0.mm, if_neg (o_ob (by omega) (by omega)), o_c (by omega)]
    unfold fX7_ledgerTold_45 fX7_ledgerTold_47
    rw [o_1]
    by_cases c : f (i + 1) = -1
    · rw [if_pos (z2.mpr c)]
      rw [if_pos c, if_pos c, Int32.add_zero, Nat.add_zero] at e
      exact e
    · rw [if_neg (fun z => c (z2.mp z))]
      rw [if_neg c, if_neg c] at e
      rw [if_neg c] at hgi
      by_cases w0 : w = 0
      · subst w0
        rw [if_pos rfl, if_pos rfl] at e
        rw [if_pos (by decide), if_pos rfl, if_pos rfl, o_1]
        exact e
      · rw [if_neg w0, if_neg w0] at e
        rw [if_neg (by rw [show (0 : Int32) = Int32.ofNat 0 from rfl, o_eq (by omega) (by omega)]; exact w0), if_neg hp0.mm, if_neg (o_ob2 (by omega) (by omega)), if_neg w0, if_neg w0, hgi]
        exact e
theorem m_lt {N K r : Nat} {th : Int32} {f g : Nat → Int32} (hN : 100 ≤ N) (hr : r < 3) (hp0 : Rg (Int32.ofNat r) 0 2) (hf : LOK r f) (hg : LG f g) {w : Nat} (hw : w < 2) : fX7_ledgerTold N K th g (Int32.ofNat r) (Int32.ofNat w) = some (if w = 0 then Int32.ofNat (lcnt f) else lms f 20) := by
  have e := m_lt_ (N := N) (K := K) (th := th) hr hp0 hf hg hw 20 0 N rfl (by omega)
  have z : (if w = 0 then Int32.ofNat (sm (fun p => if f p = -1 then 0 else 1) 0) else lms f 0) = 0 := by
    by_cases w0 : w = 0
    · rw [if_pos w0]; rfl
    · rw [if_neg w0]; rfl
  rw [z] at e
  exact e
theorem m_fr_ {N K r a : Nat} {th0 th l3 : Int32} {g0 t0 t g : Nat → Int32} (hp0 : Rg (Int32.ofNat r) 0 2) (ha : a ≤ 20) : ∀ k i fu (g' : Nat → Int32), i + k = 21 → 1 ≤ i → k < fu → (∀ p, g' p = if p < i ∧ 1 ≤ p ∧ (a = 0 ∨ a = p) then 0 else g p) → ∃ g2, fX7_forgetRule_60 N K th0 g0 t0 (Int32.ofNat r) (Int32.ofNat a) fu l3 (Int32.ofNat i) th g' t = some (l3, th, g2, dn t) ∧ ∀ p, g2 p = if p < 21 ∧ 1 ≤ p ∧ (a = 0 ∨ a = p) then 0 else g p := by
  intro k
  induction k with
  | zero =>
    intro i fu g' hi i1 hfu h
    obtain ⟨fu, rfl⟩ : ∃ m, fu = m + 1 := ⟨fu - 1, by omega⟩
    obtain rfl : i = 21 := by omega
    refine ⟨g', ?_, h⟩
    unfold fX7_forgetRule_60
    rw [if_pos (by decide), m_done, Option.bind_some]
  | succ k ih =>
    intro i fu g' hi i1 hfu h
    obtain ⟨fu, rfl⟩ : ∃ m, fu = m + 1 := ⟨fu - 1, by omega⟩
    have put : (a = 0 ∨ a = i) → ∀ p, upd g' i 0 p = if p < i + 1 ∧ 1 ≤ p ∧ (a = 0 ∨ a = p) then 0 else g p := by
      intro ht p
      unfold upd
      by_cases e : p = i
      · rw [if_pos e, if_pos ⟨by omega, by omega, by rw [e]; exact ht⟩]
      · rw [if_neg e, h p]
        by_cases c : p < i ∧ 1 ≤ p ∧ (a = 0 ∨ a = p)
        · rw [if_pos c, if_pos ⟨by omega, c.2.1, c.2.2⟩]
        · rw [if_neg c, if_neg (fun z => c ⟨by omega, z.2.1, z.2.2⟩)]
    unfold fX7_forgetRule_60
    rw [if_neg (n_20 (by omega))]
    unfold fX7_forgetRule_77 fX7_forgetRule_87
    rw [if_neg hp0.mm, if_neg (o_ob (by omega) (by omega)), o_1, o_c (by omega)]
    by_cases a0 : a = 0
    · rw [if_pos (by rw [a0]; decide)]
      exact ih (i + 1) fu _ (by omega) (by omega) (by omega) (put (Or.inl a0))
    · rw [if_neg (by rw [show (0 : Int32) = Int32.ofNat 0 from rfl, o_eq (by omega) (by omega)]; exact a0)]
      by_cases ai : a = i
      · rw [if_pos (by rw [ai])]
        exact ih (i + 1) fu _ (by omega) (by omega) (by omega) (put (Or.inr ai))
      · rw [if_neg (by rw [o_eq (by omega) (by omega)]; exact ai)]
        refine ih (i + 1) fu g' (by omega) (by omega) (by omega) (fun p => ?_)
        rw [h p]
        by_cases c : p < i ∧ 1 ≤ p ∧ (a = 0 ∨ a = p)
        · rw [if_pos c, if_pos ⟨by omega, c.2.1, c.2.2⟩]
        · rw [if_neg c, if_neg (fun z => c ⟨by omega, z.2.1, z.2.2⟩)]
theorem lcnt_none {f : Nat → Int32} (h : ∀ p, 1 ≤ p → p ≤ 20 → f p = -1) : lcnt f = 0 := by
  have e : lcnt f = sm (fun _ => 0) 20 := sm_congr (fun p p1 p2 => by rw [h p p1 p2]; exact if_pos rfl)
  rw [e]
  decide
theorem ty_rule {N K : Nat} {r : Nat} {th ru sz c0 c1 c2 c3 c4 c5 p0 p1 : Int32} {f g t u : Nat → Int32} (hN : NBig N) (hK : 100 ≤ K) (hr : r < 3) (hru : ru = Int32.ofNat r) (hp : Rg p0 0 2 → p0 = Int32.ofNat r) (h : LT r sz f g) : ∃ o y, fX5_rule N K ru sz f c0 c1 c2 c3 c4 c5 p0 p1 = some o ∧ fX7_rule N K th g t u p0 p1 = some y ∧ Ti true o y.2.1 (fun z => z.1 = y.1 ∧ LT r z.2.1 z.2.2.1 y.2.2.1 ∧ KT c0 c1 c2 c3 c4 t z.2.2.2.1 z.2.2.2.2.1 z.2.2.2.2.2.1 z.2.2.2.2.2.2 c4 y.2.2.2.1) (y.2.2.1 = g ∧ y.2.2.2.1 = t) := by
  have hN9 := hN.u
  have hN1 : 100 ≤ N := by omega
  by_cases d : Rg p0 0 2
  · by_cases q : Rg p1 0 20
    · subst hru
      obtain rfl := hp d
      obtain ⟨a, rfl, -, a2⟩ := Rg.n (a := 0) (b := 20) q (by omega) (by omega)
      obtain ⟨v, sz', f', c1', c2', c3', g', t', u', e1, e2, e3, e4⟩ := lt_know (N := N) (K := K) (th0 := th) (th := (0 : Int32)) (c0 := c0) (c1 := c1) (c2 := c2) (c3 := c3) (c4 := c4) (c5 := c5) (t := t) (u := u) hN1 hK hr d a2 h
      refine ⟨.inl (v, sz', f', c0 + (1 : Int32), c1', c2', c3'), (v, 0, g', dn t', u'), ?_, ?_, rfl, rfl, e3, (KT.tt e4).trans KT.done⟩
      · unfold fX5_rule
        rw [k_led1 d, xb_l, k_rng1 q, xb_l]
        rw [e1, Option.bind_some, k_act, Option.bind_some]
      · unfold fX7_rule
        rw [m_in d, Option.bind_some, m_in q, Option.bind_some]
        rw [m_th00, Option.bind_some, if_pos rfl]
        exact e2
    · refine ⟨(.inr "java/lang/IllegalArgumentException"), ((0 : Int32), 2, g, t, u), ?_, ?_, Or.inr ⟨rfl, rfl, rfl⟩, ⟨rfl, rfl⟩⟩
      · unfold fX5_rule
        rw [k_led1 d, xb_l, k_rng0 q, xb_r]
      · unfold fX7_rule
        rw [m_in d, Option.bind_some, m_out q, Option.bind_some]
        rw [m_th01, Option.bind_some, if_neg (by decide)]
  · by_cases q : Rg p1 0 20
    · refine ⟨(.inr "java/lang/IndexOutOfBoundsException"), ((0 : Int32), 1, g, t, u), ?_, ?_, Or.inl ⟨rfl, rfl⟩, ⟨rfl, rfl⟩⟩
      · unfold fX5_rule
        rw [k_led0 d, xb_r]
      · unfold fX7_rule
        rw [m_out d, Option.bind_some, m_in q, Option.bind_some]
        rw [m_th1, Option.bind_some, if_neg (by decide)]
    · refine ⟨(.inr "java/lang/IndexOutOfBoundsException"), ((0 : Int32), 1, g, t, u), ?_, ?_, Or.inl ⟨rfl, rfl⟩, ⟨rfl, rfl⟩⟩
      · unfold fX5_rule
        rw [k_led0 d, xb_r]
      · unfold fX7_rule
        rw [m_out d, Option.bind_some, m_out q, Option.bind_some]
        rw [m_th1, Option.bind_some, if_neg (by decide)]
theorem ty_forgetRule {N K : Nat} {r : Nat} {th ru sz c0 c1 c2 c3 c4 c5 p0 p1 : Int32} {f g t : Nat → Int32} (hN : NBig N) (hK : 100 ≤ K) (hr : r < 3) (hru : ru = Int32.ofNat r) (hp : Rg p0 0 2 → p0 = Int32.ofNat r) (h : LT r sz f g) : ∃ o y, fX5_forgetRule N K ru sz f c0 c1 c2 c3 c4 c5 p0 p1 = some o ∧ fX7_forgetRule N K th g t p0 p1 = some y ∧ Ti true o y.2.1 (fun z => z.1 = y.1 ∧ LT r z.2.1 z.2.2.1 y.2.2.1 ∧ KT c0 c1 c2 c3 c4 t z.2.2.2.1 c1 c2 c3 z.2.2.2.2 y.2.2.2) (y.2.2.1 = g ∧ y.2.2.2 = t) := by
  have hN9 := hN.u
  have hN1 : 100 ≤ N := by omega
  by_cases d : Rg p0 0 2
  · by_cases q : Rg p1 0 20
    · subst hru
      obtain rfl := hp d
      obtain ⟨a, rfl, -, a2⟩ := Rg.n (a := 0) (b := 20) q (by omega) (by omega)
      obtain ⟨h1, h2, h3⟩ := id h
      by_cases a0 : a = 0
      · subst a0
        obtain ⟨f2, e1, e2⟩ := c_fill (N := N) (K := K) (n := 21) (f := f) (v := (-1 : Int32)) (by omega) (by omega)
        have hn : ∀ p, 1 ≤ p → p ≤ 20 → f2 p = -1 := fun p p1 p2 => (e2 p).trans (if_pos (by omega))
        obtain ⟨g2, i1, i2⟩ := m_fr_ (N := N) (K := K) (a := 0) (th0 := th) (th := (0 : Int32)) (l3 := sz) (g0 := g) (t0 := t) (t := t) (g := g) d (by omega) 20 1 N g (by omega) (by omega) (by omega) (fun p => by rw [if_neg (by omega)])
        have mt := m_lt (N := N) (K := K) (th := (0 : Int32)) hN1 hr d h2 h3 (w := 0) (by omega)
        have hT : LT r 0 f2 g2 := ⟨by rw [lcnt_none hn]; rfl, fun p p1 p2 => Or.inl (hn p p1 p2), fun p p1 p2 => by rw [i2 p, if_pos ⟨by omega, p1, Or.inl rfl⟩, hn p p1 p2, if_pos rfl]⟩
        rw [if_pos rfl, ← h1] at mt
        have mt' : fX7_ledgerTold N K (0 : Int32) g (Int32.ofNat r) (0 : Int32) = some sz := mt
        refine ⟨.inl (sz, (0 : Int32), f2, c0 + (1 : Int32), c4), (sz, 0, g2, dn t), ?_, ?_, rfl, rfl, hT, KT.done⟩
        · unfold fX5_forgetRule
          rw [k_led1 d, xb_l, k_rng1 q, xb_l]
          rw [if_pos (by decide)]
          unfold fX1_dropAll
          rw [e1, Option.bind_some, Option.bind_some, k_act, Option.bind_some]
        · unfold fX7_forgetRule
          rw [m_in d, Option.bind_some, m_in q, Option.bind_some]
          rw [m_th00, Option.bind_some, if_pos rfl]
          rw [if_pos (by decide), mt', Option.bind_some]
          unfold fX7_forgetRule_43 fX7_forgetRule_57
          rw [if_pos (by decide)]
          exact i1
      · have hgz := h3.z hr h2 (show 1 ≤ a by omega) a2
        have hga := h3 a (by omega) a2
        have hne : ¬ (Int32.ofNat a = (0 : Int32)) := by rw [show (0 : Int32) = Int32.ofNat 0 from rfl, o_eq (by omega) (by omega)]; exact a0
        by_cases e : f a = -1
        · refine ⟨.inl ((-9 : Int32), sz, f, c0, c4 + (1 : Int32)), ((-9 : Int32), 0, g, rf t), ?_, ?_, rfl, rfl, h, KT.refu⟩
          · unfold fX5_forgetRule
            rw [k_led1 d, xb_l, k_rng1 q, xb_l]
            rw [if_neg hne, c_lkeeps (by omega) a2, Option.bind_some, if_pos e, if_pos rfl, k_und, Option.bind_some]
          · unfold fX7_forgetRule
            rw [m_in d, Option.bind_some, m_in q, Option.bind_some]
            rw [m_th00, Option.bind_some, if_pos rfl]
            rw [if_neg hne, if_neg d.mm, if_neg (o_ob (by omega) (by omega)), o_c (by omega)]
            unfold fX7_forgetRule_43 fX7_forgetRule_57
            rw [if_neg (o_0lt (by omega) (by omega))]
            rw [if_pos (hgz.1.mpr e), m_ref, Option.bind_some]
        · rw [if_neg e] at hga
          have qq := lcnt_upd (f := f) (v := -1) (show 1 ≤ a by omega) a2
          rw [if_neg e, if_pos rfl] at qq
          obtain ⟨g2, i1, i2⟩ := m_fr_ (N := N) (K := K) (a := a) (th0 := th) (th := (0 : Int32)) (l3 := g a) (g0 := g) (t0 := t) (t := t) (g := g) d a2 20 1 N g (by omega) (by omega) (by omega) (fun p => by rw [if_neg (by omega)])
          have hT : LT r (sz - (1 : Int32)) (upd f a (-1 : Int32)) g2 := by
            refine ⟨by rw [h1, show lcnt f = lcnt (upd f a (-1)) + 1 from by omega, o_s1], fun p p1 p2 => ?_, fun p p1 p2 => ?_⟩
            · unfold upd
              by_cases z : p = a
              · rw [if_pos z]; exact Or.inl rfl
              · rw [if_neg z]; exact h2 p p1 p2
            · rw [i2 p]
              unfold upd
              by_cases z : p = a
              · rw [if_pos (show p < 21 ∧ 1 ≤ p ∧ (a = 0 ∨ a = p) from ⟨by omega, p1, Or.inr z.symm⟩), if_pos z, if_pos rfl]
              · rw [if_neg (show ¬ (p < 21 ∧ 1 ≤ p ∧ (a = 0 ∨ a = p)) from fun y => z (by omega)), if_neg z]; exact h3 p p1 p2
          refine ⟨.inl (f a, sz - (1 : Int32), upd f a (-1 : Int32), c0 + (1 : Int32), c4), (g a, 0, g2, dn t), ?_, ?_, rfl, hga.symm, hT, KT.done⟩
          · unfold fX5_forgetRule
            rw [k_led1 d, xb_l, k_rng1 q, xb_l]
            rw [if_neg hne, c_lkeeps (by omega) a2, Option.bind_some, if_neg e, if_neg (show ¬ ((1 : Int32) = 0) from by decide), c_lkw (by omega) a2, Option.bind_some, c_ldrop (by omega) a2 e, Option.bind_some, k_act, Option.bind_some]
          · unfold fX7_forgetRule
            rw [m_in d, Option.bind_some, m_in q, Option.bind_some]
            rw [m_th00, Option.bind_some, if_pos rfl]
            rw [if_neg hne, if_neg d.mm, if_neg (o_ob (by omega) (by omega)), o_c (by omega)]
            unfold fX7_forgetRule_43 fX7_forgetRule_57
            rw [if_neg (o_0lt (by omega) (by omega))]
            rw [if_neg (fun z => e (hgz.1.mp z))]
            exact i1
    · refine ⟨(.inr "java/lang/IllegalArgumentException"), ((0 : Int32), 2, g, t), ?_, ?_, Or.inr ⟨rfl, rfl, rfl⟩, ⟨rfl, rfl⟩⟩
      · unfold fX5_forgetRule
        rw [k_led1 d, xb_l, k_rng0 q, xb_r]
      · unfold fX7_forgetRule
        rw [m_in d, Option.bind_some, m_out q, Option.bind_some]
        rw [m_th01, Option.bind_some, if_neg (by decide)]
  · by_cases q : Rg p1 0 20
    · refine ⟨(.inr "java/lang/IndexOutOfBoundsException"), ((0 : Int32), 1, g, t), ?_, ?_, Or.inl ⟨rfl, rfl⟩, ⟨rfl, rfl⟩⟩
      · unfold fX5_forgetRule
        rw [k_led0 d, xb_r]
      · unfold fX7_forgetRule
        rw [m_out d, Option.bind_some, m_in q, Option.bind_some]
        rw [m_th1, Option.bind_some, if_neg (by decide)]
    · refine ⟨(.inr "java/lang/IndexOutOfBoundsException"), ((0 : Int32), 1, g, t), ?_, ?_, Or.inl ⟨rfl, rfl⟩, ⟨rfl, rfl⟩⟩
      · unfold fX5_forgetRule
        rw [k_led0 d, xb_r]
      · unfold fX7_forgetRule
        rw [m_out d, Option.bind_some, m_out q, Option.bind_some]
        rw [m_th1, Option.bind_some, if_neg (by decide)]
theorem ty_ledger {N K : Nat} {r : Nat} {th ru sz p0 p1 : Int32} {f g : Nat → Int32} (hN : NBig N) (hK : 100 ≤ K) (hr : r < 3) (hru : ru = Int32.ofNat r) (hp : Rg p0 0 2 → p0 = Int32.ofNat r) (h : LT r sz f g) : ∃ o y, fX5_ledger N K ru sz f p0 p1 = some o ∧ fX7_ledger N K th g p0 p1 = some y ∧ Ti true o y.2 (fun z => z = y.1) (True) := by
  have hN9 := hN.u
  have hN1 : 100 ≤ N := by omega
  by_cases d : Rg p0 0 2
  · by_cases q : Rg p1 0 1
    · subst hru
      obtain rfl := hp d
      obtain ⟨w, rfl, -, w2⟩ := Rg.n (a := 0) (b := 1) q (by omega) (by omega)
      obtain ⟨h1, h2, h3⟩ := id h
      have mt := m_lt (N := N) (K := K) (th := (0 : Int32)) hN1 hr d h2 h3 (w := w) (by omega)
      by_cases w0 : w = 0
      · subst w0
        rw [if_pos rfl, ← h1] at mt
        refine ⟨.inl sz, (sz, 0), ?_, ?_, rfl, rfl⟩
        · unfold fX5_ledger
          rw [k_led1 d, xb_l, k_rng1 q, xb_l]
          rw [if_pos (by decide)]
          rfl
        · unfold fX7_ledger
          rw [m_in d, Option.bind_some, m_in q, Option.bind_some]
          rw [m_th00, Option.bind_some, if_pos rfl]
          rw [mt, Option.bind_some]
      · rw [if_neg w0] at mt
        have em := c_lmark_ (N := N) (K := K) (ru := Int32.ofNat r) (sz := sz) (f := f) 20 0 N rfl (by omega)
        have em' : fX1_mark N K (Int32.ofNat r) sz f = some (lms f 20) := em
        refine ⟨.inl (lms f 20), (lms f 20, 0), ?_, ?_, rfl, rfl⟩
        · unfold fX5_ledger
          rw [k_led1 d, xb_l, k_rng1 q, xb_l]
          rw [if_neg (by rw [show (0 : Int32) = Int32.ofNat 0 from rfl, o_eq (by omega) (by omega)]; exact w0), em', Option.bind_some]
        · unfold fX7_ledger
          rw [m_in d, Option.bind_some, m_in q, Option.bind_some]
          rw [m_th00, Option.bind_some, if_pos rfl]
          rw [mt, Option.bind_some]
    · refine ⟨(.inr "java/lang/IllegalArgumentException"), ((0 : Int32), 2), ?_, ?_, Or.inr ⟨rfl, rfl, rfl⟩, trivial⟩
      · unfold fX5_ledger
        rw [k_led1 d, xb_l, k_rng0 q, xb_r]
      · unfold fX7_ledger
        rw [m_in d, Option.bind_some, m_out q, Option.bind_some]
        rw [m_th01, Option.bind_some, if_neg (by decide)]
  · by_cases q : Rg p1 0 1
    · refine ⟨(.inr "java/lang/IndexOutOfBoundsException"), ((0 : Int32), 1), ?_, ?_, Or.inl ⟨rfl, rfl⟩, trivial⟩
      · unfold fX5_ledger
        rw [k_led0 d, xb_r]
      · unfold fX7_ledger
        rw [m_out d, Option.bind_some, m_in q, Option.bind_some]
        rw [m_th1, Option.bind_some, if_neg (by decide)]
    · refine ⟨(.inr "java/lang/IndexOutOfBoundsException"), ((0 : Int32), 1), ?_, ?_, Or.inl ⟨rfl, rfl⟩, trivial⟩
      · unfold fX5_ledger
        rw [k_led0 d, xb_r]
      · unfold fX7_ledger
        rw [m_out d, Option.bind_some, m_out q, Option.bind_some]
        rw [m_th1, Option.bind_some, if_neg (by decide)]
theorem ty_ruleWorth {N K : Nat} {r : Nat} {th ru sz p0 p1 p2 : Int32} {f g : Nat → Int32} (hN : NBig N) (hK : 100 ≤ K) (hr : r < 3) (hru : ru = Int32.ofNat r) (hp : Rg p0 0 2 → p0 = Int32.ofNat r) (h : LT r sz f g) : ∃ o y, fX5_ruleWorth N K ru sz f p0 p1 p2 = some o ∧ fX7_ruleWorth N K th g p0 p1 p2 = some y ∧ Ti true o y.2 (fun z => z = y.1) (True) := by
  have hN9 := hN.u
  have hN1 : 100 ≤ N := by omega
  by_cases d : Rg p0 0 2
  · by_cases q : Rg p1 0 20
    · by_cases r : Rg p2 0 1
      · subst hru
        obtain rfl := hp d
        obtain ⟨a, rfl, -, a2⟩ := Rg.n (a := 0) (b := 20) q (by omega) (by omega)
        obtain ⟨h1, h2, h3⟩ := id h
        by_cases a0 : a = 0
        · subst a0
          refine ⟨.inl (-1 : Int32), ((-1 : Int32), 0), ?_, ?_, rfl, rfl⟩
          · unfold fX5_ruleWorth
            rw [k_led1 d, xb_l, k_rng1 q, xb_l, k_rng1 r, xb_l]
            rw [c_lkeeps0, Option.bind_some, if_pos rfl]
          · unfold fX7_ruleWorth
            rw [m_in d, Option.bind_some, m_in q, Option.bind_some, if_pos rfl, m_in r, Option.bind_some, if_pos rfl]
            unfold fX7_ruleWorth_31
            rw [m_th00, Option.bind_some, if_pos rfl]
            rw [if_pos (by decide)]
        · have hgz := h3.z hr h2 (show 1 ≤ a by omega) a2
          have hga := h3 a (by omega) a2
          have hne : ¬ (Int32.ofNat a = (0 : Int32)) := by rw [show (0 : Int32) = Int32.ofNat 0 from rfl, o_eq (by omega) (by omega)]; exact a0
          by_cases e : f a = -1
          · refine ⟨.inl (-1 : Int32), ((-1 : Int32), 0), ?_, ?_, rfl, rfl⟩
            · unfold fX5_ruleWorth
              rw [k_led1 d, xb_l, k_rng1 q, xb_l, k_rng1 r, xb_l]
              rw [c_lkeeps (by omega) a2, Option.bind_some, if_pos e, if_pos rfl]
            · unfold fX7_ruleWorth
              rw [m_in d, Option.bind_some, m_in q, Option.bind_some, if_pos rfl, m_in r, Option.bind_some, if_pos rfl]
              unfold fX7_ruleWorth_31
              rw [m_th00, Option.bind_some, if_pos rfl]
              rw [if_neg hne, if_neg d.mm, if_neg (o_ob (by omega) (by omega)), o_c (by omega)]
              rw [if_pos (hgz.1.mpr e)]
          · rw [if_neg e] at hga
            refine ⟨.inl (f a), (g a, 0), ?_, ?_, rfl, hga.symm⟩
            · unfold fX5_ruleWorth
              rw [k_led1 d, xb_l, k_rng1 q, xb_l, k_rng1 r, xb_l]
              rw [c_lkeeps (by omega) a2, Option.bind_some, if_neg e, if_neg (show ¬ ((1 : Int32) = 0) from by decide), c_lkw (by omega) a2, Option.bind_some]
            · unfold fX7_ruleWorth
              rw [m_in d, Option.bind_some, m_in q, Option.bind_some, if_pos rfl, m_in r, Option.bind_some, if_pos rfl]
              unfold fX7_ruleWorth_31
              rw [m_th00, Option.bind_some, if_pos rfl]
              rw [if_neg hne, if_neg d.mm, if_neg (o_ob (by omega) (by omega)), o_c (by omega)]
              rw [if_neg (fun z => e (hgz.1.mp z)), if_neg d.mm, if_neg (o_ob2 (by omega) (by omega))]
      · refine ⟨(.inr "java/lang/IllegalArgumentException"), ((0 : Int32), 2), ?_, ?_, Or.inr ⟨rfl, rfl, rfl⟩, trivial⟩
        · unfold fX5_ruleWorth
          rw [k_led1 d, xb_l, k_rng1 q, xb_l, k_rng0 r, xb_r]
        · unfold fX7_ruleWorth
          rw [m_in d, Option.bind_some, m_in q, Option.bind_some, if_pos rfl, m_out r, Option.bind_some, if_neg (by decide)]
          unfold fX7_ruleWorth_26 fX7_ruleWorth_31
          rw [m_th01, Option.bind_some, if_neg (by decide)]
    · by_cases r : Rg p2 0 1
      · refine ⟨(.inr "java/lang/IllegalArgumentException"), ((0 : Int32), 2), ?_, ?_, Or.inr ⟨rfl, rfl, rfl⟩, trivial⟩
        · unfold fX5_ruleWorth
          rw [k_led1 d, xb_l, k_rng0 q, xb_r]
        · unfold fX7_ruleWorth
          rw [m_in d, Option.bind_some, m_out q, Option.bind_some, if_neg (by decide)]
          unfold fX7_ruleWorth_26 fX7_ruleWorth_31
          rw [m_th01, Option.bind_some, if_neg (by decide)]
      · refine ⟨(.inr "java/lang/IllegalArgumentException"), ((0 : Int32), 2), ?_, ?_, Or.inr ⟨rfl, rfl, rfl⟩, trivial⟩
        · unfold fX5_ruleWorth
          rw [k_led1 d, xb_l, k_rng0 q, xb_r]
        · unfold fX7_ruleWorth
          rw [m_in d, Option.bind_some, m_out q, Option.bind_some, if_neg (by decide)]
          unfold fX7_ruleWorth_26 fX7_ruleWorth_31
          rw [m_th01, Option.bind_some, if_neg (by decide)]
  · by_cases q : Rg p1 0 20
    · by_cases r : Rg p2 0 1
      · refine ⟨(.inr "java/lang/IndexOutOfBoundsException"), ((0 : Int32), 1), ?_, ?_, Or.inl ⟨rfl, rfl⟩, trivial⟩
        · unfold fX5_ruleWorth
          rw [k_led0 d, xb_r]
        · unfold fX7_ruleWorth
          rw [m_out d, Option.bind_some, m_in q, Option.bind_some, if_pos rfl, m_in r, Option.bind_some, if_pos rfl]
          unfold fX7_ruleWorth_31
          rw [m_th1, Option.bind_some, if_neg (by decide)]
      · refine ⟨(.inr "java/lang/IndexOutOfBoundsException"), ((0 : Int32), 1), ?_, ?_, Or.inl ⟨rfl, rfl⟩, trivial⟩
        · unfold fX5_ruleWorth
          rw [k_led0 d, xb_r]
        · unfold fX7_ruleWorth
          rw [m_out d, Option.bind_some, m_in q, Option.bind_some, if_pos rfl, m_out r, Option.bind_some, if_neg (by decide)]
          unfold fX7_ruleWorth_26 fX7_ruleWorth_31
          rw [m_th1, Option.bind_some, if_neg (by decide)]
    · by_cases r : Rg p2 0 1
      · refine ⟨(.inr "java/lang/IndexOutOfBoundsException"), ((0 : Int32), 1), ?_, ?_, Or.inl ⟨rfl, rfl⟩, trivial⟩
        · unfold fX5_ruleWorth
          rw [k_led0 d, xb_r]
        · unfold fX7_ruleWorth
          rw [m_out d, Option.bind_some, m_out q, Option.bind_some, if_neg (by decide)]
          unfold fX7_ruleWorth_26 fX7_ruleWorth_31
          rw [m_th1, Option.bind_some, if_neg (by decide)]
      · refine ⟨(.inr "java/lang/IndexOutOfBoundsException"), ((0 : Int32), 1), ?_, ?_, Or.inl ⟨rfl, rfl⟩, trivial⟩
        · unfold fX5_ruleWorth
          rw [k_led0 d, xb_r]
        · unfold fX7_ruleWorth
          rw [m_out d, Option.bind_some, m_out q, Option.bind_some, if_neg (by decide)]
          unfold fX7_ruleWorth_26 fX7_ruleWorth_31
          rw [m_th1, Option.bind_some, if_neg (by decide)]

end MG_60tlties
