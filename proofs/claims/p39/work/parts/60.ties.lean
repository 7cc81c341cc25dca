section MG_60cways
/-! ===== what is asked of ways ===== -/
def bi (b : Bool) : Int32 := if b = true then 1 else 0
theorem bi_t : bi true = 1 := rfl
theorem bi_f : bi false = 0 := rfl
theorem bif0 : bi false = 0 := rfl
theorem bitn : ¬ (bi true = 0) := by decide
theorem bi_ok (b : Bool) : bi b = 0 ∨ bi b = 1 := by cases b; exact Or.inl rfl; exact Or.inr rfl
theorem bi_0 {b : Bool} : (bi b = 0) = (b = false) := by cases b <;> decide
theorem bi_and1 (b : Bool) : (bi b &&& (1 : Int32)) = bi b := by cases b <;> decide
theorem bi_and0 (b : Bool) : (bi b &&& (0 : Int32)) = bi false := by cases b <;> decide
/-- like parts, as often -/
def eqf (w v : Nat → Nat) : Nat → Nat → Bool
  | 0, _ => true
  | n + 1, i => if w i = v i then eqf w v n (i + 1) else false
def eqw (w v : Nat → Nat) : Bool := eqf w v 20 1
theorem eqf_iff {w v : Nat → Nat} : ∀ n i, eqf w v n i = true ↔ ∀ p, i ≤ p → p < i + n → w p = v p := by
  intro n
  induction n with
  | zero => intro i; exact ⟨fun _ p a b => absurd b (by omega), fun _ => rfl⟩
  | succ n ih =>
    intro i
    unfold eqf
    by_cases e : w i = v i
    · rw [if_pos e, ih (i + 1)]
      constructor
      · intro h p a b
        by_cases e2 : p = i
        · rw [e2]; exact e
        · exact h p (by omega) (by omega)
      · intro h p a b
        exact h p (by omega) (by omega)
    · rw [if_neg e]
      exact ⟨fun h => absurd h (by decide), fun h => absurd (h i (Nat.le_refl _) (by omega)) e⟩
theorem eqw_iff {w v : Nat → Nat} : eqw w v = true ↔ ∀ p, 1 ≤ p → p ≤ 20 → w p = v p := by
  unfold eqw
  rw [eqf_iff]
  exact ⟨fun h p a b => h p a (by omega), fun h p a b => h p a (by omega)⟩
theorem c_like_ {N K : Nat} {f g : Nat → Int32} {w v : Nat → Nat} (hf : Dk f w) (hg : Dk g v) : ∀ n i fu, i + n = 21 → 1 ≤ i → n < fu → fX4_isLike_2 N K f g fu (Int32.ofNat i) = some (bi (eqf w v n i)) := by
  intro n
  induction n with
  | zero =>
    intro i fu hi h1 hfu
    obtain ⟨fu, rfl⟩ : ∃ m, fu = m + 1 := ⟨fu - 1, by omega⟩
    obtain rfl : i = 21 := by omega
    unfold fX4_isLike_2
    rw [if_pos (by decide)]
    rfl
  | succ n ih =>
    intro i fu hi h1 hfu
    obtain ⟨fu, rfl⟩ : ∃ m, fu = m + 1 := ⟨fu - 1, by omega⟩
    have a1 := wn_le1 (w := w) (p := i) h1 (by omega)
    have a2 := wn_le1 (w := v) (p := i) h1 (by omega)
    have b1 := hf.1
    have b2 := hg.1
    unfold fX4_isLike_2 eqf
    rw [if_neg (n_20 (by omega)), if_neg (o_ob (by omega) (by omega)), if_neg (o_ob (by omega) (by omega)), o_c (by omega), hf.2 _ h1 (by omega), hg.2 _ h1 (by omega), o_1]
    by_cases e : w i = v i
    · rw [if_pos (by rw [e]), if_pos e]
      exact ih (i + 1) fu (by omega) (by omega) (by omega)
    · rw [if_neg (by rw [o_eq (by omega) (by omega)]; exact e), if_neg e]
      rfl
theorem c_like {N K : Nat} (hN : 100 ≤ N) {f g : Nat → Int32} {w v : Nat → Nat} (hf : Dk f w) (hg : Dk g v) : fX4_isLike N K f g = some (bi (eqw w v)) := c_like_ hf hg 20 1 N rfl (Nat.le_refl _) (by omega)
theorem m_same_ {N K : Nat} {f g : Nat → Int32} {w v : Nat → Nat} (hf : Dk f w) (hg : Dk g v) : ∀ n i fu b, i + n = 21 → 1 ≤ i → n < fu → fX7_areSame_4 N K f g fu (bi b) (Int32.ofNat i) = some (bi (b && eqf w v n i)) := by
  intro n
  induction n with
  | zero =>
    intro i fu b hi h1 hfu
    obtain ⟨fu, rfl⟩ : ∃ m, fu = m + 1 := ⟨fu - 1, by omega⟩
    obtain rfl : i = 21 := by omega
    unfold fX7_areSame_4 eqf
    rw [if_pos (by decide), if_pos (bi_ok b), Bool.and_true]
  | succ n ih =>
    intro i fu b hi h1 hfu
    obtain ⟨fu, rfl⟩ : ∃ m, fu = m + 1 := ⟨fu - 1, by omega⟩
    have a1 := wn_le1 (w := w) (p := i) h1 (by omega)
    have a2 := wn_le1 (w := v) (p := i) h1 (by omega)
    have b1 := hf.1
    have b2 := hg.1
    unfold fX7_areSame_4 eqf
    rw [if_neg (n_20 (by omega)), if_neg (o_ob (by omega) (by omega)), if_neg (o_ob (by omega) (by omega)), o_c (by omega), hf.2 _ h1 (by omega), hg.2 _ h1 (by omega)]
    by_cases e : w i = v i
    · rw [if_pos (by rw [e]), if_pos e]
      unfold fX7_areSame_25
      rw [o_1, bi_and1]
      exact ih (i + 1) fu b (by omega) (by omega) (by omega)
    · rw [if_neg (by rw [o_eq (by omega) (by omega)]; exact e), if_neg e]
      unfold fX7_areSame_25
      rw [o_1, bi_and0, ih (i + 1) fu false (by omega) (by omega) (by omega), Bool.and_false, Bool.false_and]
theorem m_same {N K : Nat} (hN : 100 ≤ N) {f g : Nat → Int32} {w v : Nat → Nat} (hf : Dk f w) (hg : Dk g v) : fX7_areSame N K f g = some (bi (eqw w v)) := by
  have h := m_same_ (N := N) (K := K) hf hg 20 1 N true rfl (Nat.le_refl _) (by omega)
  rw [Bool.true_and] at h
  exact h
/-- how many different parts -/
def one1 (x : Nat) : Nat := if x = 0 then 0 else 1
def dpw (w : Nat → Nat) : Nat := sm (fun p => one1 (w p)) 20
theorem dpw_le {w : Nat → Nat} : ∀ n, sm (fun p => one1 (w p)) n ≤ sm w n := fun n => sm_le (fun p _ _ => by show one1 (w p) ≤ w p; unfold one1; by_cases e : w p = 0; (rw [if_pos e]; omega); rw [if_neg e]; omega)
theorem c_dp_ {N K : Nat} {f : Nat → Int32} {w : Nat → Nat} (hf : Dk f w) : ∀ n i fu, i + n = 20 → n < fu → fX4_differentParts_4 N K f fu (Int32.ofNat (sm (fun p => one1 (w p)) i)) (Int32.ofNat (i + 1)) = some (Int32.ofNat (dpw w)) := by
  intro n
  induction n with
  | zero =>
    intro i fu hi hfu
    obtain ⟨fu, rfl⟩ : ∃ m, fu = m + 1 := ⟨fu - 1, by omega⟩
    obtain rfl : i = 20 := by omega
    unfold fX4_differentParts_4
    rw [if_pos (by decide)]
    rfl
  | succ n ih =>
    intro i fu hi hfu
    obtain ⟨fu, rfl⟩ : ∃ m, fu = m + 1 := ⟨fu - 1, by omega⟩
    have a1 := wn_le1 (w := w) (p := i + 1) (by omega) (by omega)
    have b1 := hf.1
    have hs : sm (fun p => one1 (w p)) (i + 1) = sm (fun p => one1 (w p)) i + one1 (w (i + 1)) := rfl
    have h2 := ih (i + 1) fu (by omega) (by omega)
    unfold fX4_differentParts_4
    rw [if_neg (n_20 (by omega)), if_neg (o_ob (by omega) (by omega)), o_c (by omega), hf.2 _ (by omega) (by omega)]
    by_cases e : w (i + 1) = 0
    · rw [if_pos (by rw [e]; decide)]
      unfold fX4_differentParts_22
      rw [show one1 (w (i + 1)) = 0 from if_pos e, Nat.add_zero] at hs
      rw [hs] at h2
      rw [o_1]
      exact h2
    · rw [if_neg (o_0lt (by omega) (by omega))]
      unfold fX4_differentParts_22
      rw [show one1 (w (i + 1)) = 1 from if_neg e] at hs
      rw [hs] at h2
      rw [o_1, o_1]
      exact h2
theorem c_dp {N K : Nat} (hN : 100 ≤ N) {f : Nat → Int32} {w : Nat → Nat} (hf : Dk f w) : fX4_differentParts N K f = some (Int32.ofNat (dpw w)) := c_dp_ hf 20 0 N rfl (by omega)
theorem m_dp_ {N K : Nat} {f : Nat → Int32} {w : Nat → Nat} (hf : Dk f w) : ∀ n i fu, i + n = 20 → n < fu → fX7_unlikeOnes_4 N K f fu (Int32.ofNat (sm (fun p => one1 (w p)) i)) (Int32.ofNat (i + 1)) = some (Int32.ofNat (dpw w)) := by
  intro n
  induction n with
  | zero =>
    intro i fu hi hfu
    obtain ⟨fu, rfl⟩ : ∃ m, fu = m + 1 := ⟨fu - 1, by omega⟩
    obtain rfl : i = 20 := by omega
    unfold fX7_unlikeOnes_4
    rw [if_pos (by decide)]
    rfl
  | succ n ih =>
    intro i fu hi hfu
    obtain ⟨fu, rfl⟩ : ∃ m, fu = m + 1 := ⟨fu - 1, by omega⟩
    have a1 := wn_le1 (w := w) (p := i + 1) (by omega) (by omega)
    have b1 := hf.1
    have hs : sm (fun p => one1 (w p)) (i + 1) = sm (fun p => one1 (w p)) i + one1 (w (i + 1)) := rfl
    have h2 := ih (i + 1) fu (by omega) (by omega)
    unfold fX7_unlikeOnes_4
    rw [if_neg (n_20 (by omega)), if_neg (o_ob (by omega) (by omega)), o_c (by omega), hf.2 _ (by omega) (by omega)]
    by_cases e : w (i + 1) = 0
    · rw [if_pos (by rw [e]; decide)]
      unfold fX7_unlikeOnes_22 fX7_bit
      rw [show one1 (w (i + 1)) = 0 from if_pos e, Nat.add_zero] at hs
      rw [hs] at h2
      rw [if_pos rfl, Option.bind_some, o_1, show Int32.ofNat (sm (fun p => one1 (w p)) i) + 0 = Int32.ofNat (sm (fun p => one1 (w p)) i) from Int32.add_zero _]
      exact h2
    · rw [if_neg (o_0lt (by omega) (by omega))]
      unfold fX7_unlikeOnes_22 fX7_bit
      rw [show one1 (w (i + 1)) = 1 from if_neg e] at hs
      rw [hs] at h2
      rw [if_neg (by decide), Option.bind_some, o_1, o_1]
      exact h2
theorem m_dp {N K : Nat} (hN : 100 ≤ N) {f : Nat → Int32} {w : Nat → Nat} (hf : Dk f w) : fX7_unlikeOnes N K f = some (Int32.ofNat (dpw w)) := m_dp_ hf 20 0 N rfl (by omega)
/-- unlike parts -/
def unf (w : Nat → Nat) : Nat → Nat → Bool
  | 0, _ => true
  | n + 1, i => if w i ≤ 1 then unf w n (i + 1) else false
def unw (w : Nat → Nat) : Bool := unf w 20 1
theorem unf_iff {w : Nat → Nat} : ∀ n i, unf w n i = true ↔ ∀ p, i ≤ p → p < i + n → w p ≤ 1 := by
  intro n
  induction n with
  | zero => intro i; exact ⟨fun _ p a b => absurd b (by omega), fun _ => rfl⟩
  | succ n ih =>
    intro i
    unfold unf
    by_cases e : w i ≤ 1
    · rw [if_pos e, ih (i + 1)]
      constructor
      · intro h p a b
        by_cases e2 : p = i
        · rw [e2]; exact e
        · exact h p (by omega) (by omega)
      · intro h p a b
        exact h p (by omega) (by omega)
    · rw [if_neg e]
      exact ⟨fun h => absurd h (by decide), fun h => absurd (h i (Nat.le_refl _) (by omega)) e⟩
theorem un_dp_ {w : Nat → Nat} : ∀ n, sm w n = sm (fun p => one1 (w p)) n → ∀ p, 1 ≤ p → p ≤ n → w p ≤ 1 := by
  intro n
  induction n with
  | zero => intro _ p a b; omega
  | succ n ih =>
    intro h p a b
    have d := dpw_le (w := w) n
    have e1 : sm w (n + 1) = sm w n + w (n + 1) := rfl
    have e2 : sm (fun p => one1 (w p)) (n + 1) = sm (fun p => one1 (w p)) n + one1 (w (n + 1)) := rfl
    have e3 : one1 (w (n + 1)) ≤ w (n + 1) ∧ one1 (w (n + 1)) ≤ 1 := by
      unfold one1
      by_cases e : w (n + 1) = 0
      · rw [if_pos e]; omega
      · rw [if_neg e]; omega
    by_cases e : p = n + 1
    · subst e; omega
    · exact ih (by omega) p a (by omega)
theorem un_dp {w : Nat → Nat} : (wp w = dpw w) ↔ unw w = true := by
  unfold unw
  rw [unf_iff]
  constructor
  · intro h p a b
    exact un_dp_ 20 h p a (by omega)
  · intro h
    refine sm_congr (fun p a b => ?_)
    have := h p a (by omega)
    show w p = one1 (w p)
    unfold one1
    by_cases e : w p = 0
    · rw [if_pos e, e]
    · rw [if_neg e]; omega
theorem c_unl_ {N K : Nat} {f : Nat → Int32} {w : Nat → Nat} (hf : Dk f w) : ∀ n i fu, i + n = 21 → 1 ≤ i → n < fu → fX4_isUnlike_2 N K f fu (Int32.ofNat i) = some (bi (unf w n i)) := by
  intro n
  induction n with
  | zero =>
    intro i fu hi h1 hfu
    obtain ⟨fu, rfl⟩ : ∃ m, fu = m + 1 := ⟨fu - 1, by omega⟩
    obtain rfl : i = 21 := by omega
    unfold fX4_isUnlike_2
    rw [if_pos (by decide)]
    rfl
  | succ n ih =>
    intro i fu hi h1 hfu
    obtain ⟨fu, rfl⟩ : ∃ m, fu = m + 1 := ⟨fu - 1, by omega⟩
    have a1 := wn_le1 (w := w) (p := i) h1 (by omega)
    have b1 := hf.1
    unfold fX4_isUnlike_2 unf
    rw [if_neg (n_20 (by omega)), if_neg (o_ob (by omega) (by omega)), o_c (by omega), hf.2 _ h1 (by omega), o_1]
    by_cases e : w i ≤ 1
    · rw [if_pos (by rw [show (1 : Int32) = Int32.ofNat 1 from rfl, o_le (by omega) (by omega)]; exact e), if_pos e]
      exact ih (i + 1) fu (by omega) (by omega) (by omega)
    · rw [if_neg (by rw [show (1 : Int32) = Int32.ofNat 1 from rfl, o_le (by omega) (by omega)]; exact e), if_neg e]
      rfl
theorem c_unl {N K : Nat} (hN : 100 ≤ N) {f : Nat → Int32} {w : Nat → Nat} (hf : Dk f w) : fX4_isUnlike N K f = some (bi (unw w)) := c_unl_ hf 20 1 N rfl (Nat.le_refl _) (by omega)
theorem m_unl {N K : Nat} (hN : 100 ≤ N) {f : Nat → Int32} {w : Nat → Nat} (hf : Dk f w) : fX7_isUnlike N K f = some (bi (unw w)) := by
  have b1 := hf.1
  have b2 := wp_le (w := w)
  have b3 : dpw w ≤ wp w := dpw_le (w := w) 20
  unfold fX7_isUnlike
  rw [m_parts hN hf.2, Option.bind_some, m_dp hN hf, Option.bind_some]
  by_cases e : unw w = true
  · rw [if_pos (by rw [o_eq (by omega) (by omega)]; exact un_dp.mpr e), e]; rfl
  · rw [if_neg (by rw [o_eq (by omega) (by omega)]; exact fun h => e (un_dp.mp h)), Bool.eq_false_iff.mpr e]; rfl
/-- odd parts: none even -/
def odf (w : Nat → Nat) : Nat → Nat → Bool
  | 0, _ => true
  | n + 1, i => if w i = 0 then odf w n (i + 2) else false
def odw (w : Nat → Nat) : Bool := odf w 10 2
theorem o_2 (a : Nat) : Int32.ofNat a + (2 : Int32) = Int32.ofNat (a + 2) := (Int32.ofNat_add a 2).symm
theorem c_oddq_ {N K : Nat} {f : Nat → Int32} {w : Nat → Nat} (hf : Dk f w) : ∀ n i fu, i + 2 * n = 22 → 1 ≤ i → n < fu → fX4_isOdd_2 N K f fu (Int32.ofNat i) = some (bi (odf w n i)) := by
  intro n
  induction n with
  | zero =>
    intro i fu hi h1 hfu
    obtain ⟨fu, rfl⟩ : ∃ m, fu = m + 1 := ⟨fu - 1, by omega⟩
    obtain rfl : i = 22 := by omega
    unfold fX4_isOdd_2
    rw [if_pos (by decide)]
    rfl
  | succ n ih =>
    intro i fu hi h1 hfu
    obtain ⟨fu, rfl⟩ : ∃ m, fu = m + 1 := ⟨fu - 1, by omega⟩
    have a1 := wn_le1 (w := w) (p := i) h1 (by omega)
    have b1 := hf.1
    unfold fX4_isOdd_2 odf
    rw [if_neg (n_20 (by omega)), if_neg (o_ob (by omega) (by omega)), o_c (by omega), hf.2 _ h1 (by omega), o_2]
    by_cases e : w i = 0
    · rw [if_pos (by rw [e]; decide), if_pos e]
      exact ih (i + 2) fu (by omega) (by omega) (by omega)
    · rw [if_neg (o_0lt (by omega) (by omega)), if_neg e]
      rfl
theorem c_oddq {N K : Nat} (hN : 100 ≤ N) {f : Nat → Int32} {w : Nat → Nat} (hf : Dk f w) : fX4_isOdd N K f = some (bi (odw w)) := c_oddq_ hf 10 2 N rfl (by omega) (by omega)
theorem m_oddq_ {N K : Nat} {f : Nat → Int32} {w : Nat → Nat} (hf : Dk f w) : ∀ n i fu b, i + 2 * n = 22 → 1 ≤ i → n < fu → fX7_isOdd_4 N K f fu (bi b) (Int32.ofNat i) = some (bi (b && odf w n i)) := by
  intro n
  induction n with
  | zero =>
    intro i fu b hi h1 hfu
    obtain ⟨fu, rfl⟩ : ∃ m, fu = m + 1 := ⟨fu - 1, by omega⟩
    obtain rfl : i = 22 := by omega
    unfold fX7_isOdd_4 odf
    rw [if_pos (by decide), if_pos (bi_ok b), Bool.and_true]
  | succ n ih =>
    intro i fu b hi h1 hfu
    obtain ⟨fu, rfl⟩ : ∃ m, fu = m + 1 := ⟨fu - 1, by omega⟩
    have a1 := wn_le1 (w := w) (p := i) h1 (by omega)
    have b1 := hf.1
    unfold fX7_isOdd_4 odf
    rw [if_neg (n_20 (by omega)), if_neg (o_ob (by omega) (by omega)), o_c (by omega), hf.2 _ h1 (by omega)]
    by_cases e : w i = 0
    · rw [if_pos (by rw [e]; rfl), if_pos e]
      unfold fX7_isOdd_22
      rw [o_2, bi_and1]
      exact ih (i + 2) fu b (by omega) (by omega) (by omega)
    · rw [if_neg (by rw [show (0 : Int32) = Int32.ofNat 0 from rfl, o_eq (by omega) (by omega)]; exact e), if_neg e]
      unfold fX7_isOdd_22
      rw [o_2, bi_and0, ih (i + 2) fu false (by omega) (by omega) (by omega), Bool.and_false, Bool.false_and]
theorem m_oddq {N K : Nat} (hN : 100 ≤ N) {f : Nat → Int32} {w : Nat → Nat} (hf : Dk f w) : fX7_isOdd N K f = some (bi (odw w)) := by
  have h := m_oddq_ (N := N) (K := K) hf 10 2 N true rfl (by omega) (by omega)
  rw [Bool.true_and] at h
  exact h

end MG_60cways
section MG_60dchecks
/-! ===== the checks of both sides ===== -/
def Rg (p a b : Int32) : Prop := a.toInt ≤ p.toInt ∧ p.toInt ≤ b.toInt
theorem Rg.n {p : Int32} {a b : Nat} (h : Rg p (Int32.ofNat a) (Int32.ofNat b)) (ha : a < 2147483648) (hb : b < 2147483648) : ∃ n : Nat, p = Int32.ofNat n ∧ a ≤ n ∧ n ≤ b := by
  obtain ⟨h1, h2⟩ := h
  rw [o_i ha] at h1
  rw [o_i hb] at h2
  exact o_of h1 h2
theorem Rg.dd {p : Int32} (h : Rg p 0 1) : ¬ (p < 0 ∨ 2 ≤ p.toNatClampNeg) := by
  have q0 : (0 : Int32).toInt = 0 := by decide
  have q1 : (1 : Int32).toInt = 1 := by decide
  obtain ⟨h1, h2⟩ := h
  exact noob (by omega) (by omega)
theorem Rg.mm {p : Int32} (h : Rg p 0 2) : ¬ (p < 0 ∨ 3 ≤ p.toNatClampNeg) := by
  have q0 : (0 : Int32).toInt = 0 := by decide
  have q1 : (2 : Int32).toInt = 2 := by decide
  obtain ⟨h1, h2⟩ := h
  exact noob (by omega) (by omega)
theorem xb_l {U V : Type} {a : U} {k : U → Option (V ⊕ String)} : xb (some (.inl a)) k = k a := rfl
theorem xb_r {U V : Type} {E : String} {k : U → Option (V ⊕ String)} : xb (some (.inr E)) k = some (.inr E) := rfl
theorem k_desk1 {N K : Nat} {p : Int32} (h : Rg p 0 1) : fX5_deskAt N K p = some (.inl ()) := by
  have q0 : (0 : Int32).toInt = 0 := by decide
  have q1 : (1 : Int32).toInt = 1 := by decide
  have q2 : (2 : Int32).toInt = 2 := by decide
  obtain ⟨h1, h2⟩ := h
  unfold fX5_deskAt
  rw [if_neg (by rw [Int32.lt_iff_toInt_lt]; omega), if_pos (by rw [Int32.lt_iff_toInt_lt]; omega), if_neg (noob (by omega) (by omega))]
theorem k_desk0 {N K : Nat} {p : Int32} (h : ¬ Rg p 0 1) : fX5_deskAt N K p = some (.inr "java/lang/IndexOutOfBoundsException") := by
  have q0 : (0 : Int32).toInt = 0 := by decide
  have q1 : (1 : Int32).toInt = 1 := by decide
  have q2 : (2 : Int32).toInt = 2 := by decide
  unfold fX5_deskAt
  by_cases e : p < 0
  · rw [if_pos e]; rfl
  · have e1 : ¬ (p.toInt < (0 : Int32).toInt) := fun z => e (Int32.lt_iff_toInt_lt.mpr z)
    rw [if_neg e, if_neg (fun z => h ⟨by omega, by have := Int32.lt_iff_toInt_lt.mp z; omega⟩)]
    rfl
theorem k_mem1 {N K : Nat} {p : Int32} (h : Rg p 0 2) : fX5_memoryAt N K p = some (.inl ()) := by
  have q0 : (0 : Int32).toInt = 0 := by decide
  have q1 : (2 : Int32).toInt = 2 := by decide
  have q2 : (3 : Int32).toInt = 3 := by decide
  obtain ⟨h1, h2⟩ := h
  unfold fX5_memoryAt
  rw [if_neg (by rw [Int32.lt_iff_toInt_lt]; omega), if_pos (by rw [Int32.lt_iff_toInt_lt]; omega), if_neg (noob (by omega) (by omega))]
theorem k_mem0 {N K : Nat} {p : Int32} (h : ¬ Rg p 0 2) : fX5_memoryAt N K p = some (.inr "java/lang/IndexOutOfBoundsException") := by
  have q0 : (0 : Int32).toInt = 0 := by decide
  have q1 : (2 : Int32).toInt = 2 := by decide
  have q2 : (3 : Int32).toInt = 3 := by decide
  unfold fX5_memoryAt
  by_cases e : p < 0
  · rw [if_pos e]; rfl
  · have e1 : ¬ (p.toInt < (0 : Int32).toInt) := fun z => e (Int32.lt_iff_toInt_lt.mpr z)
    rw [if_neg e, if_neg (fun z => h ⟨by omega, by have := Int32.lt_iff_toInt_lt.mp z; omega⟩)]
    rfl
theorem k_led1 {N K : Nat} {p : Int32} (h : Rg p 0 2) : fX5_ledgerAt N K p = some (.inl ()) := by
  have q0 : (0 : Int32).toInt = 0 := by decide
  have q1 : (2 : Int32).toInt = 2 := by decide
  have q2 : (3 : Int32).toInt = 3 := by decide
  obtain ⟨h1, h2⟩ := h
  unfold fX5_ledgerAt
  rw [if_neg (by rw [Int32.lt_iff_toInt_lt]; omega), if_pos (by rw [Int32.lt_iff_toInt_lt]; omega), if_neg (noob (by omega) (by omega))]
theorem k_led0 {N K : Nat} {p : Int32} (h : ¬ Rg p 0 2) : fX5_ledgerAt N K p = some (.inr "java/lang/IndexOutOfBoundsException") := by
  have q0 : (0 : Int32).toInt = 0 := by decide
  have q1 : (2 : Int32).toInt = 2 := by decide
  have q2 : (3 : Int32).toInt = 3 := by decide
  unfold fX5_ledgerAt
  by_cases e : p < 0
  · rw [if_pos e]; rfl
  · have e1 : ¬ (p.toInt < (0 : Int32).toInt) := fun z => e (Int32.lt_iff_toInt_lt.mpr z)
    rw [if_neg e, if_neg (fun z => h ⟨by omega, by have := Int32.lt_iff_toInt_lt.mp z; omega⟩)]
    rfl
theorem k_rng1 {N K : Nat} {p a b : Int32} (h : Rg p a b) : fX5_checkRange N K p a b = some (.inl ()) := by
  obtain ⟨h1, h2⟩ := h
  unfold fX5_checkRange
  rw [if_neg (by rw [Int32.lt_iff_toInt_lt]; omega), if_pos (by rw [Int32.le_iff_toInt_le]; omega)]
theorem k_rng0 {N K : Nat} {p a b : Int32} (h : ¬ Rg p a b) : fX5_checkRange N K p a b = some (.inr "java/lang/IllegalArgumentException") := by
  unfold fX5_checkRange
  by_cases e : p < a
  · rw [if_pos e]; rfl
  · have e1 : ¬ (p.toInt < a.toInt) := fun z => e (Int32.lt_iff_toInt_lt.mpr z)
    rw [if_neg e, if_neg (fun z => h ⟨by omega, Int32.le_iff_toInt_le.mp z⟩)]
    rfl
theorem m_in {N K : Nat} {p a b : Int32} (h : Rg p a b) : fX7_isNo N K p a b = some 0 := by
  obtain ⟨h1, h2⟩ := h
  unfold fX7_isNo
  rw [if_neg (by rw [Int32.lt_iff_toInt_lt]; omega), if_pos (by rw [Int32.le_iff_toInt_le]; omega)]
theorem m_out {N K : Nat} {p a b : Int32} (h : ¬ Rg p a b) : fX7_isNo N K p a b = some 1 := by
  unfold fX7_isNo
  by_cases e : p < a
  · rw [if_pos e]
  · have e1 : ¬ (p.toInt < a.toInt) := fun z => e (Int32.lt_iff_toInt_lt.mpr z)
    rw [if_neg e, if_neg (fun z => h ⟨by omega, Int32.le_iff_toInt_le.mp z⟩)]
theorem m_th00 {N K : Nat} {th : Int32} : fX7_isThrown N K th 0 0 = some (0, 0) := by
  unfold fX7_isThrown fX7_isThrown_18
  rw [if_pos rfl, if_pos rfl, if_pos (by decide)]
theorem m_th01 {N K : Nat} {th : Int32} : fX7_isThrown N K th 0 1 = some (1, 2) := by
  unfold fX7_isThrown fX7_isThrown_18
  rw [if_pos rfl, if_neg (by decide), if_neg (by decide)]
theorem m_th1 {N K : Nat} {th x : Int32} : fX7_isThrown N K th 1 x = some (1, 1) := by
  unfold fX7_isThrown fX7_isThrown_18
  rw [if_neg (by decide), if_neg (by decide)]
/-- what a refusal leaves of the tallies -/
def rf (t : Nat → Int32) : Nat → Int32 := upd t (4 : Int32).toNatClampNeg (t (4 : Int32).toNatClampNeg + (1 : Int32))
theorem m_done {N K : Nat} {th : Int32} {t : Nat → Int32} {p : Int32} : fX7_done N K th t p = some (p, dn t) := rfl
theorem m_ref {N K : Nat} {th : Int32} {t : Nat → Int32} : fX7_refused N K th t = some ((-9 : Int32), rf t) := rfl
theorem k_act {N K : Nat} {c0 c1 c2 c3 c4 c5 p : Int32} : fX5_acted N K c0 c1 c2 c3 c4 c5 p = some (p, c0 + (1 : Int32)) := rfl
theorem k_und {N K : Nat} {c0 c1 c2 c3 c4 c5 : Int32} : fX5_undone N K c0 c1 c2 c3 c4 c5 = some ((-9 : Int32), c4 + (1 : Int32)) := rfl
def DD (f g : Nat → Int32) : Prop := ∃ w, Dk f w ∧ Dk g w
/-- an outcome of the class beside the reference's thrown (b: whether an argument can be refused) -/
def Ti {U : Type} (b : Bool) (o : U ⊕ String) (th : Int32) (Q : U → Prop) (R : Prop) : Prop := match o with
  | .inl z => th = 0 ∧ Q z
  | .inr E => ((E = "java/lang/IndexOutOfBoundsException" ∧ th = 1) ∨ (b = true ∧ E = "java/lang/IllegalArgumentException" ∧ th = 2)) ∧ R
theorem upm_at {α : Type} {w : Nat → α} {p : Nat} {v : α} : upm w p v p = v := if_pos rfl
theorem upd_at {f : Nat → Int32} {p : Nat} {v : Int32} : upd f p v p = v := if_pos rfl
theorem wb_io {U T : Type} {kf : U → Option T} {k1 k2 : Option T} : wb (some (.inr "java/lang/IndexOutOfBoundsException")) kf k1 k2 = k1 := by
  show (if "java/lang/IndexOutOfBoundsException" = "java/lang/IndexOutOfBoundsException" then k1 else if "java/lang/IndexOutOfBoundsException" = "java/lang/IllegalArgumentException" then k2 else none) = k1
  rw [if_pos rfl]
theorem wb_ia {U T : Type} {kf : U → Option T} {k1 k2 : Option T} : wb (some (.inr "java/lang/IllegalArgumentException")) kf k1 k2 = k2 := by
  show (if "java/lang/IllegalArgumentException" = "java/lang/IndexOutOfBoundsException" then k1 else if "java/lang/IllegalArgumentException" = "java/lang/IllegalArgumentException" then k2 else none) = k2
  rw [if_neg (by decide), if_pos rfl]
theorem dd_upm {d e : Nat → Nat → Int32} {i : Nat} {v v' : Nat → Int32} (h : ∀ j, DD (d j) (e j)) (hv : DD v v') : ∀ j, DD (upm d i v j) (upm e i v' j) := by
  intro j
  unfold upm
  by_cases c : j = i
  · rw [if_pos c, if_pos c]; exact hv
  · rw [if_neg c, if_neg c]; exact h j
theorem dd_same {d e : Nat → Nat → Int32} {i : Nat} {v' : Nat → Int32} (h : ∀ j, DD (d j) (e j)) (hv : v' = e i) : ∀ j, DD (d j) (upm e i v' j) := by
  intro j
  unfold upm
  by_cases c : j = i
  · rw [if_pos c, hv, c]; exact h i
  · rw [if_neg c]; exact h j
/-- an outcome that may refuse an argument alone -/
def Tj {U : Type} (o : U ⊕ String) (th : Int32) (Q : U → Prop) : Prop := match o with
  | .inl z => th = 0 ∧ Q z
  | .inr E => E = "java/lang/IllegalArgumentException" ∧ th = 1
theorem k_any1 {N K : Nat} {p0 p1 p2 : Int32} (h0 : Rg p0 0 7) (h1 : Rg p1 0 20) (h2 : Rg p2 0 20) : fX5_checkAnyCase N K p0 p1 p2 = some (.inl ()) := by
  unfold fX5_checkAnyCase
  rw [k_rng1 h0, xb_l, k_rng1 h1, xb_l, k_rng1 h2, xb_l]
theorem k_any0 {N K : Nat} {p0 p1 p2 : Int32} (h : ¬ (Rg p0 0 7 ∧ Rg p1 0 20 ∧ Rg p2 0 20)) : fX5_checkAnyCase N K p0 p1 p2 = some (.inr "java/lang/IllegalArgumentException") := by
  unfold fX5_checkAnyCase
  by_cases h0 : Rg p0 0 7
  · by_cases h1 : Rg p1 0 20
    · have h2 : ¬ Rg p2 0 20 := fun z => h ⟨h0, h1, z⟩
      rw [k_rng1 h0, xb_l, k_rng1 h1, xb_l, k_rng0 h2, xb_r]
    · rw [k_rng1 h0, xb_l, k_rng0 h1, xb_r]
  · rw [k_rng0 h0, xb_r]
theorem ne1 {p : Prop} (h : (1 : Int32) = 0) : p := absurd h (by decide)
theorem ne2 {p : Prop} (h : (2 : Int32) = 0) : p := absurd h (by decide)
/-- counts and tallies stay alike -/
def KT (c0 c1 c2 c3 c4 : Int32) (t : Nat → Int32) (d0 d1 d2 d3 d4 : Int32) (t' : Nat → Int32) : Prop := c0 = t 0 → c1 = t 1 → c2 = t 2 → c3 = t 3 → c4 = t 4 → (d0 = t' 0 ∧ d1 = t' 1 ∧ d2 = t' 2 ∧ d3 = t' 3 ∧ d4 = t' 4 ∧ t' 5 = t 5)
theorem KT.done {c0 c1 c2 c3 c4 : Int32} {t : Nat → Int32} : KT c0 c1 c2 c3 c4 t (c0 + (1 : Int32)) c1 c2 c3 c4 (dn t) := by
  intro h0 h1 h2 h3 h4
  unfold dn upd
  have q : (0 : Int32).toNatClampNeg = 0 := by decide
  rw [q, if_pos rfl, if_neg (by decide), if_neg (by decide), if_neg (by decide), if_neg (by decide), if_neg (by decide), h0]
  exact ⟨rfl, h1, h2, h3, h4, rfl⟩
theorem KT.refu {c0 c1 c2 c3 c4 : Int32} {t : Nat → Int32} : KT c0 c1 c2 c3 c4 t c0 c1 c2 c3 (c4 + (1 : Int32)) (rf t) := by
  intro h0 h1 h2 h3 h4
  unfold rf upd
  have q : (4 : Int32).toNatClampNeg = 4 := by decide
  rw [q, if_neg (by decide), if_neg (by decide), if_neg (by decide), if_neg (by decide), if_pos rfl, if_neg (by decide), h4]
  exact ⟨h0, h1, h2, h3, rfl, rfl⟩
theorem KT.same {c0 c1 c2 c3 c4 : Int32} {t : Nat → Int32} : KT c0 c1 c2 c3 c4 t c0 c1 c2 c3 c4 t := fun h0 h1 h2 h3 h4 => ⟨h0, h1, h2, h3, h4, rfl⟩
theorem KT.trans {c0 c1 c2 c3 c4 d0 d1 d2 d3 d4 e0 e1 e2 e3 e4 : Int32} {t t' t'' : Nat → Int32} (h : KT c0 c1 c2 c3 c4 t d0 d1 d2 d3 d4 t') (g : KT d0 d1 d2 d3 d4 t' e0 e1 e2 e3 e4 t'') : KT c0 c1 c2 c3 c4 t e0 e1 e2 e3 e4 t'' := by
  intro h0 h1 h2 h3 h4
  obtain ⟨a0, a1, a2, a3, a4, a5⟩ := h h0 h1 h2 h3 h4
  obtain ⟨b0, b1, b2, b3, b4, b5⟩ := g a0 a1 a2 a3 a4
  exact ⟨b0, b1, b2, b3, b4, b5.trans a5⟩

end MG_60dchecks
section MG_60eties
/-! ===== the desks' methods on both sides ===== -/
theorem ty_addPart {N K : Nat} {th : Int32} {f g t : Nat → Int32} {c0 c1 c2 c3 c4 c5 : Int32} {p0 p1 p2 : Int32} (hN : NBig N) (hK : 100 ≤ K) (h : DD f g) : ∃ o y, fX5_addPart N K f c0 c1 c2 c3 c4 c5 p0 p1 p2 = some o ∧ fX7_addPart N K th g t p0 p1 p2 = some y ∧ Ti true o y.2.1 (fun z => z.1 = y.1 ∧ DD z.2.1 y.2.2.1 ∧ KT c0 c1 c2 c3 c4 t z.2.2.1 c1 c2 c3 z.2.2.2 y.2.2.2) (y.2.2.1 = g ∧ y.2.2.2 = t) := by
  have hN9 := hN.u
  have hN1 : 100 ≤ N := by omega
  obtain ⟨w, hf, hg⟩ := h
  have hwn := hf.1
  by_cases d : Rg p0 0 1
  · by_cases r1 : Rg p1 1 20
    · by_cases r2 : Rg p2 1 20
      · have dd : ¬ (p0 < 0 ∨ 2 ≤ p0.toNatClampNeg) := d.dd
        obtain ⟨m, rfl, m1, m2⟩ := Rg.n (a := 1) (b := 20) r1 (by omega) (by omega)
        obtain ⟨n, rfl, n1, n2⟩ := Rg.n (a := 1) (b := 20) r2 (by omega) (by omega)
        have hmn := Nat.mul_le_mul m2 n2
        by_cases e : wn w + m * n ≤ 20
        · obtain ⟨g1, e1, e2⟩ := c_put (N := N) (K := K) hf.2 (p := m) (t := n) m1 m2
          have e3 := wn_upm (w := w) (p := m) (v := w m + n) m1 m2
          rw [Nat.mul_add] at e3
          refine ⟨.inl (Int32.ofNat (w m + n), g1, c0 + (1 : Int32), c4), (Int32.ofNat (w m + n), 0, upd g m (Int32.ofNat (w m + n)), dn t), ?_, ?_, rfl, rfl, ⟨upm w m (w m + n), ⟨by omega, e2⟩, ⟨by omega, hg.2.put⟩⟩, KT.done⟩
          · unfold fX5_addPart
            rw [k_desk1 d, xb_l, k_rng1 r1, xb_l, k_rng1 r2, xb_l]
            rw [c_sum hN1 hf.2, Option.bind_some, o_mul, o_add, if_pos (by rw [show (20 : Int32) = Int32.ofNat 20 from rfl, o_le (by omega) (by omega)]; exact e), e1, Option.bind_some, c_times e2 m1 m2, Option.bind_some, upm_at, k_act, Option.bind_some]
          · unfold fX7_addPart
            rw [m_in d, Option.bind_some, m_in r1, Option.bind_some, if_pos rfl, m_in r2, Option.bind_some, if_pos rfl]
            unfold fX7_addPart_32
            rw [m_th00, Option.bind_some, if_pos rfl]
            rw [if_neg dd, m_sum hN1 hg.2, Option.bind_some, o_mul, o_add, if_pos (by rw [show (20 : Int32) = Int32.ofNat 20 from rfl, o_le (by omega) (by omega)]; exact e), if_neg dd, if_neg (o_ob (by omega) (by omega)), if_neg (o_ob (by omega) (by omega)), if_neg dd, if_neg (o_ob (by omega) (by omega)), m_done, Option.bind_some, o_c (by omega), hg.2 m m1 m2, o_add, upd_at]
        · refine ⟨.inl ((-9 : Int32), f, c0, c4 + (1 : Int32)), ((-9 : Int32), 0, g, rf t), ?_, ?_, rfl, rfl, ⟨w, hf, hg⟩, KT.refu⟩
          · unfold fX5_addPart
            rw [k_desk1 d, xb_l, k_rng1 r1, xb_l, k_rng1 r2, xb_l]
            rw [c_sum hN1 hf.2, Option.bind_some, o_mul, o_add, if_neg (by rw [show (20 : Int32) = Int32.ofNat 20 from rfl, o_le (by omega) (by omega)]; exact e), k_und, Option.bind_some]
          · unfold fX7_addPart
            rw [m_in d, Option.bind_some, m_in r1, Option.bind_some, if_pos rfl, m_in r2, Option.bind_some, if_pos rfl]
            unfold fX7_addPart_32
            rw [m_th00, Option.bind_some, if_pos rfl]
            rw [if_neg dd, m_sum hN1 hg.2, Option.bind_some, o_mul, o_add, if_neg (by rw [show (20 : Int32) = Int32.ofNat 20 from rfl, o_le (by omega) (by omega)]; exact e), m_ref, Option.bind_some]
      · refine ⟨(.inr "java/lang/IllegalArgumentException"), ((0 : Int32), 2, g, t), ?_, ?_, Or.inr ⟨rfl, rfl, rfl⟩, ⟨rfl, rfl⟩⟩
        · unfold fX5_addPart
          rw [k_desk1 d, xb_l, k_rng1 r1, xb_l, k_rng0 r2, xb_r]
        · unfold fX7_addPart
          rw [m_in d, Option.bind_some, m_in r1, Option.bind_some, if_pos rfl, m_out r2, Option.bind_some, if_neg (by decide)]
          unfold fX7_addPart_27 fX7_addPart_32
          rw [m_th01, Option.bind_some, if_neg (by decide)]
    · by_cases r2 : Rg p2 1 20
      · refine ⟨(.inr "java/lang/IllegalArgumentException"), ((0 : Int32), 2, g, t), ?_, ?_, Or.inr ⟨rfl, rfl, rfl⟩, ⟨rfl, rfl⟩⟩
        · unfold fX5_addPart
          rw [k_desk1 d, xb_l, k_rng0 r1, xb_r]
        · unfold fX7_addPart
          rw [m_in d, Option.bind_some, m_out r1, Option.bind_some, if_neg (by decide)]
          unfold fX7_addPart_27 fX7_addPart_32
          rw [m_th01, Option.bind_some, if_neg (by decide)]
      · refine ⟨(.inr "java/lang/IllegalArgumentException"), ((0 : Int32), 2, g, t), ?_, ?_, Or.inr ⟨rfl, rfl, rfl⟩, ⟨rfl, rfl⟩⟩
        · unfold fX5_addPart
          rw [k_desk1 d, xb_l, k_rng0 r1, xb_r]
        · unfold fX7_addPart
          rw [m_in d, Option.bind_some, m_out r1, Option.bind_some, if_neg (by decide)]
          unfold fX7_addPart_27 fX7_addPart_32
          rw [m_th01, Option.bind_some, if_neg (by decide)]
  · by_cases r1 : Rg p1 1 20
    · by_cases r2 : Rg p2 1 20
      · refine ⟨(.inr "java/lang/IndexOutOfBoundsException"), ((0 : Int32), 1, g, t), ?_, ?_, Or.inl ⟨rfl, rfl⟩, ⟨rfl, rfl⟩⟩
        · unfold fX5_addPart
          rw [k_desk0 d, xb_r]
        · unfold fX7_addPart
          rw [m_out d, Option.bind_some, m_in r1, Option.bind_some, if_pos rfl, m_in r2, Option.bind_some, if_pos rfl]
          unfold fX7_addPart_32
          rw [m_th1, Option.bind_some, if_neg (by decide)]
      · refine ⟨(.inr "java/lang/IndexOutOfBoundsException"), ((0 : Int32), 1, g, t), ?_, ?_, Or.inl ⟨rfl, rfl⟩, ⟨rfl, rfl⟩⟩
        · unfold fX5_addPart
          rw [k_desk0 d, xb_r]
        · unfold fX7_addPart
          rw [m_out d, Option.bind_some, m_in r1, Option.bind_some, if_pos rfl, m_out r2, Option.bind_some, if_neg (by decide)]
          unfold fX7_addPart_27 fX7_addPart_32
          rw [m_th1, Option.bind_some, if_neg (by decide)]
    · by_cases r2 : Rg p2 1 20
      · refine ⟨(.inr "java/lang/IndexOutOfBoundsException"), ((0 : Int32), 1, g, t), ?_, ?_, Or.inl ⟨rfl, rfl⟩, ⟨rfl, rfl⟩⟩
        · unfold fX5_addPart
          rw [k_desk0 d, xb_r]
        · unfold fX7_addPart
          rw [m_out d, Option.bind_some, m_out r1, Option.bind_some, if_neg (by decide)]
          unfold fX7_addPart_27 fX7_addPart_32
          rw [m_th1, Option.bind_some, if_neg (by decide)]
      · refine ⟨(.inr "java/lang/IndexOutOfBoundsException"), ((0 : Int32), 1, g, t), ?_, ?_, Or.inl ⟨rfl, rfl⟩, ⟨rfl, rfl⟩⟩
        · unfold fX5_addPart
          rw [k_desk0 d, xb_r]
        · unfold fX7_addPart
          rw [m_out d, Option.bind_some, m_out r1, Option.bind_some, if_neg (by decide)]
          unfold fX7_addPart_27 fX7_addPart_32
          rw [m_th1, Option.bind_some, if_neg (by decide)]
theorem ty_takePart {N K : Nat} {th : Int32} {f g t : Nat → Int32} {c0 c1 c2 c3 c4 c5 : Int32} {p0 p1 : Int32} (hN : NBig N) (hK : 100 ≤ K) (h : DD f g) : ∃ o y, fX5_takePart N K f c0 c1 c2 c3 c4 c5 p0 p1 = some o ∧ fX7_takePart N K th g t p0 p1 = some y ∧ Ti true o y.2.1 (fun z => z.1 = y.1 ∧ DD z.2.1 y.2.2.1 ∧ KT c0 c1 c2 c3 c4 t z.2.2.1 c1 c2 c3 z.2.2.2 y.2.2.2) (y.2.2.1 = g ∧ y.2.2.2 = t) := by
  have hN9 := hN.u
  have hN1 : 100 ≤ N := by omega
  obtain ⟨w, hf, hg⟩ := h
  have hwn := hf.1
  by_cases d : Rg p0 0 1
  · by_cases r1 : Rg p1 1 20
    · have dd : ¬ (p0 < 0 ∨ 2 ≤ p0.toNatClampNeg) := d.dd
      obtain ⟨m, rfl, m1, m2⟩ := Rg.n (a := 1) (b := 20) r1 (by omega) (by omega)
      have hwm := wn_le1 (w := w) m1 m2
      by_cases e : w m = 0
      · refine ⟨.inl ((-9 : Int32), f, c0, c4 + (1 : Int32)), ((-9 : Int32), 0, g, rf t), ?_, ?_, rfl, rfl, ⟨w, hf, hg⟩, KT.refu⟩
        · unfold fX5_takePart
          rw [k_desk1 d, xb_l, k_rng1 r1, xb_l]
          rw [c_times hf.2 m1 m2, Option.bind_some, if_pos (by rw [e]; rfl), k_und, Option.bind_some]
        · unfold fX7_takePart
          rw [m_in d, Option.bind_some, m_in r1, Option.bind_some]
          rw [m_th00, Option.bind_some, if_pos rfl]
          rw [if_neg dd, if_neg (o_ob (by omega) (by omega)), o_c (by omega), hg.2 m m1 m2, if_pos (by rw [e]; rfl), m_ref, Option.bind_some]
      · obtain ⟨g1, e1, e2⟩ := c_take (N := N) (K := K) hf.2 (p := m) m1 m2 (by omega)
        have e3 := wn_take (w := w) m1 m2 (by omega)
        obtain ⟨v, hv⟩ : ∃ v, w m = v + 1 := ⟨w m - 1, by omega⟩
        rw [hv, show v + 1 - 1 = v from by omega] at e2 e3
        refine ⟨.inl (Int32.ofNat v, g1, c0 + (1 : Int32), c4), (Int32.ofNat v, 0, upd g m (Int32.ofNat v), dn t), ?_, ?_, rfl, rfl, ⟨upm w m v, ⟨by omega, e2⟩, ⟨by omega, hg.2.put⟩⟩, KT.done⟩
        · unfold fX5_takePart
          rw [k_desk1 d, xb_l, k_rng1 r1, xb_l]
          rw [c_times hf.2 m1 m2, Option.bind_some, if_neg (by rw [show (0 : Int32) = Int32.ofNat 0 from rfl, o_eq (by omega) (by omega)]; exact e), e1, Option.bind_some, c_times e2 m1 m2, Option.bind_some, upm_at, k_act, Option.bind_some]
        · unfold fX7_takePart
          rw [m_in d, Option.bind_some, m_in r1, Option.bind_some]
          rw [m_th00, Option.bind_some, if_pos rfl]
          rw [if_neg dd, if_neg (o_ob (by omega) (by omega)), o_c (by omega), hg.2 m m1 m2, if_neg (by rw [show (0 : Int32) = Int32.ofNat 0 from rfl, o_eq (by omega) (by omega)]; exact e), if_neg dd, if_neg (o_ob2 (by omega) (by omega)), if_neg (o_ob2 (by omega) (by omega)), if_neg dd, if_neg (o_ob2 (by omega) (by omega)), m_done, Option.bind_some, hv, o_s1, upd_at]
    · refine ⟨(.inr "java/lang/IllegalArgumentException"), ((0 : Int32), 2, g, t), ?_, ?_, Or.inr ⟨rfl, rfl, rfl⟩, ⟨rfl, rfl⟩⟩
      · unfold fX5_takePart
        rw [k_desk1 d, xb_l, k_rng0 r1, xb_r]
      · unfold fX7_takePart
        rw [m_in d, Option.bind_some, m_out r1, Option.bind_some]
        rw [m_th01, Option.bind_some, if_neg (by decide)]
  · by_cases r1 : Rg p1 1 20
    · refine ⟨(.inr "java/lang/IndexOutOfBoundsException"), ((0 : Int32), 1, g, t), ?_, ?_, Or.inl ⟨rfl, rfl⟩, ⟨rfl, rfl⟩⟩
      · unfold fX5_takePart
        rw [k_desk0 d, xb_r]
      · unfold fX7_takePart
        rw [m_out d, Option.bind_some, m_in r1, Option.bind_some]
        rw [m_th1, Option.bind_some, if_neg (by decide)]
    · refine ⟨(.inr "java/lang/IndexOutOfBoundsException"), ((0 : Int32), 1, g, t), ?_, ?_, Or.inl ⟨rfl, rfl⟩, ⟨rfl, rfl⟩⟩
      · unfold fX5_takePart
        rw [k_desk0 d, xb_r]
      · unfold fX7_takePart
        rw [m_out d, Option.bind_some, m_out r1, Option.bind_some]
        rw [m_th1, Option.bind_some, if_neg (by decide)]
theorem ty_layFirst {N K : Nat} {th : Int32} {f g t : Nat → Int32} {c0 c1 c2 c3 c4 c5 : Int32} {p0 p1 : Int32} (hN : NBig N) (hK : 100 ≤ K) (h : DD f g) : ∃ o y, fX5_layFirst N K f c0 c1 c2 c3 c4 c5 p0 p1 = some o ∧ fX7_layFirst N K th g t p0 p1 = some y ∧ Ti true o y.2.1 (fun z => z.1 = y.1 ∧ DD z.2.1 y.2.2.1 ∧ KT c0 c1 c2 c3 c4 t z.2.2 c1 c2 c3 c4 y.2.2.2) (y.2.2.1 = g ∧ y.2.2.2 = t) := by
  have hN9 := hN.u
  have hN1 : 100 ≤ N := by omega
  obtain ⟨w, hf, hg⟩ := h
  have hwn := hf.1
  by_cases d : Rg p0 0 1
  · by_cases r1 : Rg p1 0 20
    · have dd : ¬ (p0 < 0 ∨ 2 ≤ p0.toNatClampNeg) := d.dd
      obtain ⟨n, rfl, -, n2⟩ := Rg.n (a := 0) (b := 20) r1 (by omega) (by omega)
      obtain ⟨g1, e1, e2⟩ := c_first (N := N) (K := K) hN1 (f := f) n2
      obtain ⟨g2, e3, e4⟩ := m_first (N := N) (K := K) n2
      obtain ⟨g3, e5, e6⟩ := m_laid (th := (0 : Int32)) (f := g) (t := t) hN hK dd e4
      refine ⟨.inl (Int32.ofNat (wp (firstw n)), g1, c0 + (1 : Int32)), (Int32.ofNat (wp (firstw n)), 0, g3, dn t), ?_, ?_, rfl, rfl, ⟨firstw n, e2, e6⟩, KT.done⟩
      · unfold fX5_layFirst
        rw [k_desk1 d, xb_l, k_rng1 r1, xb_l]
        rw [e1, Option.bind_some, c_parts hN1 e2.2, Option.bind_some, k_act, Option.bind_some]
      · unfold fX7_layFirst
        rw [m_in d, Option.bind_some, m_in r1, Option.bind_some]
        rw [m_th00, Option.bind_some, if_pos rfl]
        rw [e3, Option.bind_some, e5, Option.bind_some]
    · refine ⟨(.inr "java/lang/IllegalArgumentException"), ((0 : Int32), 2, g, t), ?_, ?_, Or.inr ⟨rfl, rfl, rfl⟩, ⟨rfl, rfl⟩⟩
      · unfold fX5_layFirst
        rw [k_desk1 d, xb_l, k_rng0 r1, xb_r]
      · unfold fX7_layFirst
        rw [m_in d, Option.bind_some, m_out r1, Option.bind_some]
        rw [m_th01, Option.bind_some, if_neg (by decide)]
  · by_cases r1 : Rg p1 0 20
    · refine ⟨(.inr "java/lang/IndexOutOfBoundsException"), ((0 : Int32), 1, g, t), ?_, ?_, Or.inl ⟨rfl, rfl⟩, ⟨rfl, rfl⟩⟩
      · unfold fX5_layFirst
        rw [k_desk0 d, xb_r]
      · unfold fX7_layFirst
        rw [m_out d, Option.bind_some, m_in r1, Option.bind_some]
        rw [m_th1, Option.bind_some, if_neg (by decide)]
    · refine ⟨(.inr "java/lang/IndexOutOfBoundsException"), ((0 : Int32), 1, g, t), ?_, ?_, Or.inl ⟨rfl, rfl⟩, ⟨rfl, rfl⟩⟩
      · unfold fX5_layFirst
        rw [k_desk0 d, xb_r]
      · unfold fX7_layFirst
        rw [m_out d, Option.bind_some, m_out r1, Option.bind_some]
        rw [m_th1, Option.bind_some, if_neg (by decide)]
theorem ty_next {N K : Nat} {th : Int32} {f g t : Nat → Int32} {c0 c1 c2 c3 c4 c5 : Int32} {p0 : Int32} (hN : NBig N) (hK : 100 ≤ K) (h : DD f g) : ∃ o y, fX5_next N K f c0 c1 c2 c3 c4 c5 p0 = some o ∧ fX7_next N K th g t p0 = some y ∧ Ti false o y.2.1 (fun z => z.1 = y.1 ∧ DD z.2.1 y.2.2.1 ∧ KT c0 c1 c2 c3 c4 t z.2.2.1 c1 c2 c3 z.2.2.2 y.2.2.2) (y.2.2.1 = g ∧ y.2.2.2 = t) := by
  have hN9 := hN.u
  have hN1 : 100 ≤ N := by omega
  obtain ⟨w, hf, hg⟩ := h
  have hwn := hf.1
  by_cases d : Rg p0 0 1
  · have dd : ¬ (p0 < 0 ∨ 2 ≤ p0.toNatClampNeg) := d.dd
    obtain ⟨g1, e1, e2⟩ := c_step (N := N) (K := K) hN1 hf
    obtain ⟨g2, e3, e4⟩ := m_step (N := N) (K := K) hN1 hg
    by_cases e : lst w = 0
    · rw [if_pos e] at e1 e2 e3 e4
      refine ⟨.inl ((-9 : Int32), g1, c0, c4 + (1 : Int32)), ((-9 : Int32), 0, g2, rf t), ?_, ?_, rfl, rfl, ⟨w, e2, e4⟩, KT.refu⟩
      · unfold fX5_next
        rw [k_desk1 d, xb_l]
        rw [e1, Option.bind_some, if_pos rfl, k_und, Option.bind_some]
      · unfold fX7_next
        rw [m_in d, Option.bind_some]
        rw [m_th00, Option.bind_some, if_pos rfl]
        rw [if_neg dd, e3, Option.bind_some, if_pos rfl, m_ref, Option.bind_some]
    · rw [if_neg e] at e1 e2 e3 e4
      refine ⟨.inl (Int32.ofNat (wp (stw w (lst w))), g1, c0 + (1 : Int32), c4), (Int32.ofNat (wp (stw w (lst w))), 0, g2, dn t), ?_, ?_, rfl, rfl, ⟨stw w (lst w), e2, e4⟩, KT.done⟩
      · unfold fX5_next
        rw [k_desk1 d, xb_l]
        rw [e1, Option.bind_some, if_neg (show ¬ ((1 : Int32) = 0) from by decide), c_parts hN1 e2.2, Option.bind_some, k_act, Option.bind_some]
      · unfold fX7_next
        rw [m_in d, Option.bind_some]
        rw [m_th00, Option.bind_some, if_pos rfl]
        rw [if_neg dd, e3, Option.bind_some, if_neg (show ¬ ((1 : Int32) = 0) from by decide), if_neg dd, m_parts hN1 e4.2, Option.bind_some, m_done, Option.bind_some]
  · refine ⟨(.inr "java/lang/IndexOutOfBoundsException"), ((0 : Int32), 1, g, t), ?_, ?_, Or.inl ⟨rfl, rfl⟩, ⟨rfl, rfl⟩⟩
    · unfold fX5_next
      rw [k_desk0 d, xb_r]
    · unfold fX7_next
      rw [m_out d, Option.bind_some]
      rw [m_th1, Option.bind_some, if_neg (by decide)]
theorem ty_turn {N K : Nat} {th : Int32} {f g t fs : Nat → Int32} {c0 c1 c2 c3 c4 c5 : Int32} {p0 : Int32} (hN : NBig N) (hK : 100 ≤ K) (h : DD f g) : ∃ o y, fX5_turn N K f c0 c1 c2 c3 c4 c5 fs p0 = some o ∧ fX7_turn N K th g t p0 = some y ∧ Ti false o y.2.1 (fun z => z.1 = y.1 ∧ DD z.2.1 y.2.2.1 ∧ KT c0 c1 c2 c3 c4 t z.2.2.1 c1 c2 c3 c4 y.2.2.2) (y.2.2.1 = g ∧ y.2.2.2 = t) := by
  have hN9 := hN.u
  have hN1 : 100 ≤ N := by omega
  obtain ⟨w, hf, hg⟩ := h
  have hwn := hf.1
  by_cases d : Rg p0 0 1
  · have dd : ¬ (p0 < 0 ∨ 2 ≤ p0.toNatClampNeg) := d.dd
    obtain ⟨g1, e1, e2⟩ := c_turn (N := N) (K := K) hN1 (f := fs) hf
    obtain ⟨g2, e3, e4⟩ := m_turn (N := N) (K := K) hN1 hg
    obtain ⟨g3, e5, e6⟩ := m_laid (th := (0 : Int32)) (f := g) (t := t) hN hK dd e4
    obtain ⟨g4, e7, e8⟩ := c_become (N := N) (K := K) (f := f) e2.2
    by_cases e : eqw (turnw w) w = true
    · refine ⟨.inl ((0 : Int32), g4, c0 + (1 : Int32), g1), ((0 : Int32), 0, g3, dn t), ?_, ?_, rfl, rfl, ⟨turnw w, ⟨e2.1, e8⟩, e6⟩, KT.done⟩
      · unfold fX5_turn
        rw [k_desk1 d, xb_l]
        rw [e1, Option.bind_some, c_like hN1 e2 hf, Option.bind_some, if_neg (by rw [e]; decide)]
        unfold fX5_turn_30
        rw [e7, Option.bind_some, if_pos rfl]
        rfl
      · unfold fX7_turn
        rw [m_in d, Option.bind_some]
        rw [m_th00, Option.bind_some, if_pos rfl]
        rw [if_neg dd, e3, Option.bind_some, if_neg dd, m_same hN1 e4 hg, Option.bind_some, if_neg (by rw [e]; decide)]
        unfold fX7_turn_44
        rw [e5, Option.bind_some]
        rfl
    · refine ⟨.inl ((1 : Int32), g4, c0 + (1 : Int32), g1), ((1 : Int32), 0, g3, dn t), ?_, ?_, rfl, rfl, ⟨turnw w, ⟨e2.1, e8⟩, e6⟩, KT.done⟩
      · unfold fX5_turn
        rw [k_desk1 d, xb_l]
        rw [e1, Option.bind_some, c_like hN1 e2 hf, Option.bind_some, if_pos (by rw [Bool.eq_false_iff.mpr e]; decide)]
        unfold fX5_turn_30
        rw [e7, Option.bind_some, if_neg (by decide)]
        rfl
      · unfold fX7_turn
        rw [m_in d, Option.bind_some]
        rw [m_th00, Option.bind_some, if_pos rfl]
        rw [if_neg dd, e3, Option.bind_some, if_neg dd, m_same hN1 e4 hg, Option.bind_some, if_pos (by rw [Bool.eq_false_iff.mpr e]; decide)]
        unfold fX7_turn_44
        rw [e5, Option.bind_some]
        rfl
  · refine ⟨(.inr "java/lang/IndexOutOfBoundsException"), ((0 : Int32), 1, g, t), ?_, ?_, Or.inl ⟨rfl, rfl⟩, ⟨rfl, rfl⟩⟩
    · unfold fX5_turn
      rw [k_desk0 d, xb_r]
    · unfold fX7_turn
      rw [m_out d, Option.bind_some]
      rw [m_th1, Option.bind_some, if_neg (by decide)]
theorem ty_toUnlike {N K : Nat} {th : Int32} {f g t fs : Nat → Int32} {c0 c1 c2 c3 c4 c5 : Int32} {p0 : Int32} (hN : NBig N) (hK : 100 ≤ K) (h : DD f g) : ∃ o y, fX5_toUnlike N K f c0 c1 c2 c3 c4 c5 fs p0 = some o ∧ fX7_toUnlike N K th g t p0 = some y ∧ Ti false o y.2.1 (fun z => z.1 = y.1 ∧ DD z.2.1 y.2.2.1 ∧ KT c0 c1 c2 c3 c4 t z.2.2.1 c1 c2 c3 z.2.2.2.1 y.2.2.2) (y.2.2.1 = g ∧ y.2.2.2 = t) := by
  have hN9 := hN.u
  have hN1 : 100 ≤ N := by omega
  obtain ⟨w, hf, hg⟩ := h
  have hwn := hf.1
  by_cases d : Rg p0 0 1
  · have dd : ¬ (p0 < 0 ∨ 2 ≤ p0.toNatClampNeg) := d.dd
    obtain ⟨g1, e1, e2⟩ := c_unlike (N := N) (K := K) hN1 (f := fs) hf
    by_cases e : odw w = true
    · obtain ⟨g4, e7, e8⟩ := c_become (N := N) (K := K) (f := f) e2.2
      obtain ⟨g3, e5, e6⟩ := m_ulo (N := N) (K := K) (th := th) (f0 := g) (t0 := t) (th1 := (0 : Int32)) (t := t) hN hK dd hg 20 0 N (fun _ => 0) (fun _ => 0) rfl (by omega) (fun _ _ _ => rfl) e2.1
      refine ⟨.inl (Int32.ofNat (wp (unlikew w)), g4, c0 + (1 : Int32), c4, g1), (Int32.ofNat (wp (unlikew w)), 0, g3, dn t), ?_, ?_, rfl, rfl, ⟨unlikew w, ⟨e2.1, e8⟩, e6⟩, KT.done⟩
      · unfold fX5_toUnlike
        rw [k_desk1 d, xb_l]
        rw [c_oddq hN1 hf, Option.bind_some, if_neg (by rw [e]; decide), e1, Option.bind_some, e7, Option.bind_some, c_parts hN1 e8, Option.bind_some, k_act, Option.bind_some]
      · unfold fX7_toUnlike
        rw [m_in d, Option.bind_some]
        rw [m_th00, Option.bind_some, if_pos rfl]
        rw [if_neg dd, m_oddq hN1 hg, Option.bind_some, if_neg (by rw [e]; decide)]
        exact e5
    · refine ⟨.inl ((-9 : Int32), f, c0, c4 + (1 : Int32), fs), ((-9 : Int32), 0, g, rf t), ?_, ?_, rfl, rfl, ⟨w, hf, hg⟩, KT.refu⟩
      · unfold fX5_toUnlike
        rw [k_desk1 d, xb_l]
        rw [c_oddq hN1 hf, Option.bind_some, if_pos (by rw [Bool.eq_false_iff.mpr e]; decide), k_und, Option.bind_some]
      · unfold fX7_toUnlike
        rw [m_in d, Option.bind_some]
        rw [m_th00, Option.bind_some, if_pos rfl]
        rw [if_neg dd, m_oddq hN1 hg, Option.bind_some, if_pos (by rw [Bool.eq_false_iff.mpr e]; decide), m_ref, Option.bind_some]
  · refine ⟨(.inr "java/lang/IndexOutOfBoundsException"), ((0 : Int32), 1, g, t), ?_, ?_, Or.inl ⟨rfl, rfl⟩, ⟨rfl, rfl⟩⟩
    · unfold fX5_toUnlike
      rw [k_desk0 d, xb_r]
    · unfold fX7_toUnlike
      rw [m_out d, Option.bind_some]
      rw [m_th1, Option.bind_some, if_neg (by decide)]
theorem ty_toOdd {N K : Nat} {th : Int32} {f g t fs : Nat → Int32} {c0 c1 c2 c3 c4 c5 : Int32} {p0 : Int32} (hN : NBig N) (hK : 100 ≤ K) (h : DD f g) : ∃ o y, fX5_toOdd N K f c0 c1 c2 c3 c4 c5 fs p0 = some o ∧ fX7_toOdd N K th g t p0 = some y ∧ Ti false o y.2.1 (fun z => z.1 = y.1 ∧ DD z.2.1 y.2.2.1 ∧ KT c0 c1 c2 c3 c4 t z.2.2.1 c1 c2 c3 z.2.2.2.1 y.2.2.2) (y.2.2.1 = g ∧ y.2.2.2 = t) := by
  have hN9 := hN.u
  have hN1 : 100 ≤ N := by omega
  obtain ⟨w, hf, hg⟩ := h
  have hwn := hf.1
  by_cases d : Rg p0 0 1
  · have dd : ¬ (p0 < 0 ∨ 2 ≤ p0.toNatClampNeg) := d.dd
    obtain ⟨g1, e1, e2⟩ := c_odd (N := N) (K := K) hN1 (f := fs) hf
    by_cases e : unw w = true
    · obtain ⟨g4, e7, e8⟩ := c_become (N := N) (K := K) (f := f) e2.2
      obtain ⟨g3, e5, e6⟩ := m_odo (N := N) (K := K) (th := th) (f0 := g) (t0 := t) (th1 := (0 : Int32)) (t := t) hN hK dd hg 20 0 N (fun _ => 0) (fun _ => 0) rfl (by omega) (fun _ _ _ => rfl) e2.1
      refine ⟨.inl (Int32.ofNat (wp (oddw w)), g4, c0 + (1 : Int32), c4, g1), (Int32.ofNat (wp (oddw w)), 0, g3, dn t), ?_, ?_, rfl, rfl, ⟨oddw w, ⟨e2.1, e8⟩, e6⟩, KT.done⟩
      · unfold fX5_toOdd
        rw [k_desk1 d, xb_l]
        rw [c_unl hN1 hf, Option.bind_some, if_neg (by rw [e]; decide), e1, Option.bind_some, e7, Option.bind_some, c_parts hN1 e8, Option.bind_some, k_act, Option.bind_some]
      · unfold fX7_toOdd
        rw [m_in d, Option.bind_some]
        rw [m_th00, Option.bind_some, if_pos rfl]
        rw [if_neg dd, m_unl hN1 hg, Option.bind_some, if_neg (by rw [e]; decide)]
        exact e5
    · refine ⟨.inl ((-9 : Int32), f, c0, c4 + (1 : Int32), fs), ((-9 : Int32), 0, g, rf t), ?_, ?_, rfl, rfl, ⟨w, hf, hg⟩, KT.refu⟩
      · unfold fX5_toOdd
        rw [k_desk1 d, xb_l]
        rw [c_unl hN1 hf, Option.bind_some, if_pos (by rw [Bool.eq_false_iff.mpr e]; decide), k_und, Option.bind_some]
      · unfold fX7_toOdd
        rw [m_in d, Option.bind_some]
        rw [m_th00, Option.bind_some, if_pos rfl]
        rw [if_neg dd, m_unl hN1 hg, Option.bind_some, if_pos (by rw [Bool.eq_false_iff.mpr e]; decide), m_ref, Option.bind_some]
  · refine ⟨(.inr "java/lang/IndexOutOfBoundsException"), ((0 : Int32), 1, g, t), ?_, ?_, Or.inl ⟨rfl, rfl⟩, ⟨rfl, rfl⟩⟩
    · unfold fX5_toOdd
      rw [k_desk0 d, xb_r]
    · unfold fX7_toOdd
      rw [m_out d, Option.bind_some]
      rw [m_th1, Option.bind_some, if_neg (by decide)]
theorem ty_copyDesk {N K : Nat} {th : Int32} {f g t f2 g2 : Nat → Int32} {c0 c1 c2 c3 c4 c5 : Int32} {p0 : Int32} (hN : NBig N) (hK : 100 ≤ K) (h : DD f g) : ∃ o y, fX5_copyDesk N K f f2 c0 c1 c2 c3 c4 c5 p0 = some o ∧ fX7_copyDesk N K th g g2 t p0 = some y ∧ Ti false o y.2.1 (fun z => z.1 = y.1 ∧ DD z.2.1 y.2.2.1 ∧ KT c0 c1 c2 c3 c4 t z.2.2 c1 c2 c3 c4 y.2.2.2) (y.2.2.1 = g2 ∧ y.2.2.2 = t) := by
  have hN9 := hN.u
  have hN1 : 100 ≤ N := by omega
  obtain ⟨w, hf, hg⟩ := h
  have hwn := hf.1
  by_cases d : Rg p0 0 1
  · have q0 : (0 : Int32).toInt = 0 := by decide
    have q1 : (1 : Int32).toInt = 1 := by decide
    have dd : ¬ (p0 < 0 ∨ 2 ≤ p0.toNatClampNeg) := d.dd
    have es := subI (a := (1 : Int32)) (b := p0) (by have := d.1; have := d.2; omega) (by have := d.1; have := d.2; omega)
    have d2 : Rg ((1 : Int32) - p0) 0 1 := ⟨by have := d.2; omega, by have := d.1; omega⟩
    have dd2 : ¬ ((1 : Int32) - p0 < 0 ∨ 2 ≤ ((1 : Int32) - p0).toNatClampNeg) := noob (by have := d.2; omega) (by have := d.1; omega)
    obtain ⟨g4, e7, e8⟩ := c_become (N := N) (K := K) (f := f2) hf.2
    obtain ⟨g3, e5, e6⟩ := m_laid (th := (0 : Int32)) (f := g2) (t := t) hN hK dd2 hg
    refine ⟨.inl (Int32.ofNat (dpw w), g4, c0 + (1 : Int32)), (Int32.ofNat (dpw w), 0, g3, dn t), ?_, ?_, rfl, rfl, ⟨w, ⟨hwn, e8⟩, e6⟩, KT.done⟩
    · unfold fX5_copyDesk
      rw [k_desk1 d, xb_l]
      rw [k_desk1 d2, xb_l, e7, Option.bind_some, c_dp hN1 hf, Option.bind_some, k_act, Option.bind_some]
    · unfold fX7_copyDesk
      rw [m_in d, Option.bind_some]
      rw [m_th00, Option.bind_some, if_pos rfl]
      rw [if_neg dd, e5, Option.bind_some, if_neg dd, m_dp hN1 hg, Option.bind_some]
  · refine ⟨(.inr "java/lang/IndexOutOfBoundsException"), ((0 : Int32), 1, g2, t), ?_, ?_, Or.inl ⟨rfl, rfl⟩, ⟨rfl, rfl⟩⟩
    · unfold fX5_copyDesk
      rw [k_desk0 d, xb_r]
    · unfold fX7_copyDesk
      rw [m_out d, Option.bind_some]
      rw [m_th1, Option.bind_some, if_neg (by decide)]
theorem ty_times {N K : Nat} {th : Int32} {f g : Nat → Int32}  {p0 p1 : Int32} (hN : NBig N) (hK : 100 ≤ K) (h : DD f g) : ∃ o y, fX5_times N K f p0 p1 = some o ∧ fX7_times N K th g p0 p1 = some y ∧ Ti true o y.2 (fun z => z = y.1) (True) := by
  have hN9 := hN.u
  have hN1 : 100 ≤ N := by omega
  obtain ⟨w, hf, hg⟩ := h
  have hwn := hf.1
  by_cases d : Rg p0 0 1
  · by_cases r1 : Rg p1 1 20
    · have dd : ¬ (p0 < 0 ∨ 2 ≤ p0.toNatClampNeg) := d.dd
      obtain ⟨n, rfl, n1, n2⟩ := Rg.n (a := 1) (b := 20) r1 (by omega) (by omega)
      refine ⟨.inl (Int32.ofNat (w n)), (Int32.ofNat (w n), 0), ?_, ?_, rfl, rfl⟩
      · unfold fX5_times
        rw [k_desk1 d, xb_l, k_rng1 r1, xb_l]
        rw [c_times hf.2 n1 n2, Option.bind_some]
      · unfold fX7_times
        rw [m_in d, Option.bind_some, m_in r1, Option.bind_some]
        rw [m_th00, Option.bind_some, if_pos rfl]
        rw [if_neg dd, if_neg (o_ob (by omega) (by omega)), o_c (by omega), hg.2 n n1 n2]
    · refine ⟨(.inr "java/lang/IllegalArgumentException"), ((0 : Int32), 2), ?_, ?_, Or.inr ⟨rfl, rfl, rfl⟩, trivial⟩
      · unfold fX5_times
        rw [k_desk1 d, xb_l, k_rng0 r1, xb_r]
      · unfold fX7_times
        rw [m_in d, Option.bind_some, m_out r1, Option.bind_some]
        rw [m_th01, Option.bind_some, if_neg (by decide)]
  · by_cases r1 : Rg p1 1 20
    · refine ⟨(.inr "java/lang/IndexOutOfBoundsException"), ((0 : Int32), 1), ?_, ?_, Or.inl ⟨rfl, rfl⟩, trivial⟩
      · unfold fX5_times
        rw [k_desk0 d, xb_r]
      · unfold fX7_times
        rw [m_out d, Option.bind_some, m_in r1, Option.bind_some]
        rw [m_th1, Option.bind_some, if_neg (by decide)]
    · refine ⟨(.inr "java/lang/IndexOutOfBoundsException"), ((0 : Int32), 1), ?_, ?_, Or.inl ⟨rfl, rfl⟩, trivial⟩
      · unfold fX5_times
        rw [k_desk0 d, xb_r]
      · unfold fX7_times
        rw [m_out d, Option.bind_some, m_out r1, Option.bind_some]
        rw [m_th1, Option.bind_some, if_neg (by decide)]
theorem ty_way {N K : Nat} {th : Int32} {f g : Nat → Int32}  {p0 p1 : Int32} (hN : NBig N) (hK : 100 ≤ K) (h : DD f g) : ∃ o y, fX5_way N K f p0 p1 = some o ∧ fX7_way N K th g p0 p1 = some y ∧ Ti true o y.2 (fun z => z = y.1) (True) := by
  have hN9 := hN.u
  have hN1 : 100 ≤ N := by omega
  obtain ⟨w, hf, hg⟩ := h
  have hwn := hf.1
  by_cases d : Rg p0 0 1
  · by_cases r1 : Rg p1 0 2
    · have dd : ¬ (p0 < 0 ∨ 2 ≤ p0.toNatClampNeg) := d.dd
      by_cases e0 : p1 = 0
      · subst e0
        refine ⟨.inl (Int32.ofNat (wn w)), (Int32.ofNat (wn w), 0), ?_, ?_, rfl, rfl⟩
        · unfold fX5_way
          rw [k_desk1 d, xb_l, k_rng1 r1, xb_l]
          rw [if_pos rfl, c_sum hN1 hf.2, Option.bind_some]
        · unfold fX7_way
          rw [m_in d, Option.bind_some, m_in r1, Option.bind_some]
          rw [m_th00, Option.bind_some, if_pos rfl]
          rw [if_pos rfl, if_neg dd, m_sum hN1 hg.2, Option.bind_some]
      · by_cases e1 : p1 = 1
        · subst e1
          refine ⟨.inl (Int32.ofNat (wp w)), (Int32.ofNat (wp w), 0), ?_, ?_, rfl, rfl⟩
          · unfold fX5_way
            rw [k_desk1 d, xb_l, k_rng1 r1, xb_l]
            rw [if_neg (by decide), if_pos rfl, c_parts hN1 hf.2, Option.bind_some]
          · unfold fX7_way
            rw [m_in d, Option.bind_some, m_in r1, Option.bind_some]
            rw [m_th00, Option.bind_some, if_pos rfl]
            rw [if_neg (by decide), if_pos rfl, if_neg dd, m_parts hN1 hg.2, Option.bind_some]
        · refine ⟨.inl (Int32.ofNat (dpw w)), (Int32.ofNat (dpw w), 0), ?_, ?_, rfl, rfl⟩
          · unfold fX5_way
            rw [k_desk1 d, xb_l, k_rng1 r1, xb_l]
            rw [if_neg e0, if_neg e1, c_dp hN1 hf, Option.bind_some]
          · unfold fX7_way
            rw [m_in d, Option.bind_some, m_in r1, Option.bind_some]
            rw [m_th00, Option.bind_some, if_pos rfl]
            rw [if_neg e0, if_neg e1, if_neg dd, m_dp hN1 hg, Option.bind_some]
    · refine ⟨(.inr "java/lang/IllegalArgumentException"), ((0 : Int32), 2), ?_, ?_, Or.inr ⟨rfl, rfl, rfl⟩, trivial⟩
      · unfold fX5_way
        rw [k_desk1 d, xb_l, k_rng0 r1, xb_r]
      · unfold fX7_way
        rw [m_in d, Option.bind_some, m_out r1, Option.bind_some]
        rw [m_th01, Option.bind_some, if_neg (by decide)]
  · by_cases r1 : Rg p1 0 2
    · refine ⟨(.inr "java/lang/IndexOutOfBoundsException"), ((0 : Int32), 1), ?_, ?_, Or.inl ⟨rfl, rfl⟩, trivial⟩
      · unfold fX5_way
        rw [k_desk0 d, xb_r]
      · unfold fX7_way
        rw [m_out d, Option.bind_some, m_in r1, Option.bind_some]
        rw [m_th1, Option.bind_some, if_neg (by decide)]
    · refine ⟨(.inr "java/lang/IndexOutOfBoundsException"), ((0 : Int32), 1), ?_, ?_, Or.inl ⟨rfl, rfl⟩, trivial⟩
      · unfold fX5_way
        rw [k_desk0 d, xb_r]
      · unfold fX7_way
        rw [m_out d, Option.bind_some, m_out r1, Option.bind_some]
        rw [m_th1, Option.bind_some, if_neg (by decide)]
theorem ty_isSameWay {N K : Nat} {th : Int32} {f f2 g g2 : Nat → Int32} (hN : NBig N) (hK : 100 ≤ K) (h : DD f g) (h2 : DD f2 g2) : ∃ b : Bool, fX5_isSameWay N K f f2 = some (.inl (bi b)) ∧ fX7_isSameWay N K th g g2 = some (bi b, 0) := by
  have hN9 := hN.u
  have hN1 : 100 ≤ N := by omega
  obtain ⟨w, hf, hg⟩ := h
  obtain ⟨v, hf2, hg2⟩ := h2
  refine ⟨eqw w v, ?_, ?_⟩
  · unfold fX5_isSameWay
    rw [k_desk1 (by unfold Rg; decide), xb_l, k_desk1 (by unfold Rg; decide), xb_l, c_like hN1 hf hf2, Option.bind_some, if_pos (bi_ok _)]
  · unfold fX7_isSameWay
    rw [if_neg (by decide), if_neg (by decide), m_same hN1 hg hg2, Option.bind_some, if_pos (bi_ok _)]

end MG_60eties
