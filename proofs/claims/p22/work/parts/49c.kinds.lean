/-! ===== to unlike parts ===== -/
theorem bt20 : ∀ m, m < 21 → ∀ i, i < 5 → ((Int32.ofNat m &&& Int32.ofNat (2 ^ i)) = 0 ↔ ¬ m / 2 ^ i % 2 = 1) := by decide +kernel
theorem bd20 : ∀ m, m < 21 → ∀ i, i < 5 → ((Int32.ofNat m / Int32.ofNat (2 ^ i)) % (2 : Int32) = (1 : Int32) ↔ m / 2 ^ i % 2 = 1) := by decide +kernel
theorem bg20 : ∀ m, m < 21 → ∀ i, i < 5 → m / 2 ^ i % 2 = 1 → 2 ^ i ≤ m := by decide +kernel
theorem p2i : ∀ i, i < 5 → 1 ≤ 2 ^ i ∧ 2 ^ i ≤ 16 := by decide
def bs (m : Nat) : Nat → Nat → Nat
  | 0, _ => 0
  | n + 1, i => 2 ^ i * (m / 2 ^ i % 2) + bs m n (i + 1)
theorem bs20 : ∀ m, m < 21 → bs m 5 0 = m := by decide +kernel
/-- the powers of 2 from the i-th on, in how often p stands -/
def ul1 (w : Nat → Nat) (p : Nat) : Nat → Nat → (Nat → Nat) → Nat → Nat
  | 0, _, g => g
  | n + 1, i, g => ul1 w p n (i + 1) (if w p / 2 ^ i % 2 = 1 then upm g (2 ^ i * p) (g (2 ^ i * p) + 1) else g)
def ulo (w : Nat → Nat) : Nat → Nat → (Nat → Nat) → Nat → Nat
  | 0, _, g => g
  | n + 1, j, g => ulo w n (j + 1) (ul1 w (j + 1) 5 0 g)
def unlikew (w : Nat → Nat) : Nat → Nat := ulo w 20 0 (fun _ => 0)
theorem bit_le {w : Nat → Nat} {p i : Nat} (hw : wn w ≤ 20) (h1 : 1 ≤ p) (h2 : p ≤ 20) (hi : i < 5) (hb : w p / 2 ^ i % 2 = 1) : 1 ≤ 2 ^ i * p ∧ 2 ^ i * p ≤ 20 := by
  have a := wn_le1 (w := w) h1 h2
  have b := wn_ge (w := w) h1 h2
  have c := bg20 (w p) (by omega) i hi hb
  have d := p2i i hi
  refine ⟨Nat.mul_pos d.1 h1, ?_⟩
  rw [Nat.mul_comm]
  exact Nat.le_trans (Nat.mul_le_mul_left p c) (by omega)
theorem wn_ul1 {w : Nat → Nat} {p : Nat} (hw : wn w ≤ 20) (h1 : 1 ≤ p) (h2 : p ≤ 20) : ∀ n i g, i + n = 5 → wn (ul1 w p n i g) = wn g + p * bs (w p) n i := by
  intro n
  induction n with
  | zero => intro i g _; rfl
  | succ n ih =>
    intro i g hi
    show wn (ul1 w p n (i + 1) (if w p / 2 ^ i % 2 = 1 then upm g (2 ^ i * p) (g (2 ^ i * p) + 1) else g)) = wn g + p * (2 ^ i * (w p / 2 ^ i % 2) + bs (w p) n (i + 1))
    rw [ih (i + 1) _ (by omega), Nat.mul_add]
    by_cases e : w p / 2 ^ i % 2 = 1
    · obtain ⟨a, b⟩ := bit_le hw h1 h2 (by omega) e
      have c := wn_upm (w := g) (p := 2 ^ i * p) (v := g (2 ^ i * p) + 1) a b
      rw [Nat.mul_add] at c
      rw [if_pos e, e, Nat.mul_one, Nat.mul_comm p (2 ^ i)]
      omega
    · have e0 : w p / 2 ^ i % 2 = 0 := by omega
      rw [if_neg e, e0, Nat.mul_zero, Nat.mul_zero]
      omega
theorem wn_ulo {w : Nat → Nat} (hw : wn w ≤ 20) : ∀ n j g, j + n = 20 → wn (ulo w n j g) + sm (fun p => p * w p) j = wn g + wn w := by
  intro n
  induction n with
  | zero => intro j g hj; obtain rfl : j = 20 := by omega
            rfl
  | succ n ih =>
    intro j g hj
    have a := ih (j + 1) (ul1 w (j + 1) 5 0 g) (by omega)
    have b := wn_ul1 hw (p := j + 1) (by omega) (by omega) 5 0 g rfl
    have c := wn_le1 (w := w) (p := j + 1) (by omega) (by omega)
    rw [bs20 _ (by omega)] at b
    have d : sm (fun p => p * w p) (j + 1) = sm (fun p => p * w p) j + (j + 1) * w (j + 1) := rfl
    show wn (ulo w n (j + 1) (ul1 w (j + 1) 5 0 g)) + _ = _
    omega
theorem wn_unlike {w : Nat → Nat} (hw : wn w ≤ 20) : wn (unlikew w) = wn w := by
  have a := wn_ulo hw 20 0 (fun _ => 0) rfl
  rw [wn_0] at a
  have b : sm (fun p => p * w p) 0 = 0 := rfl
  unfold unlikew
  omega
theorem o_pow2 {i : Nat} : Int32.ofNat (2 ^ i) * (2 : Int32) = Int32.ofNat (2 ^ (i + 1)) := by
  rw [show (2 : Int32) = Int32.ofNat 2 from rfl, o_mul, Nat.pow_succ]
theorem c_ul1 {N K : Nat} {f g0 : Nat → Int32} {k6 : Int32 → (Nat → Int32) → Option (Nat → Int32)} {w : Nat → Nat} {p : Nat} (hw : wn w ≤ 20) (h1 : 1 ≤ p) (h2 : p ≤ 20) : ∀ n i fu (h : Nat → Int32) (g : Nat → Nat), i + n = 5 → n < fu → Dv h g → ∃ h2, fX4_becomeUnlike_22 N K f g0 k6 fu (Int32.ofNat p) (Int32.ofNat (w p)) (Int32.ofNat (2 ^ i)) h = k6 (Int32.ofNat (p + 1)) h2 ∧ Dv h2 (ul1 w p n i g) := by
  intro n
  induction n with
  | zero =>
    intro i fu h g hi hfu hh
    obtain ⟨fu, rfl⟩ : ∃ m, fu = m + 1 := ⟨fu - 1, by omega⟩
    obtain rfl : i = 5 := by omega
    refine ⟨h, ?_, hh⟩
    unfold fX4_becomeUnlike_22
    rw [if_pos (by decide), o_1]
  | succ n ih =>
    intro i fu h g hi hfu hh
    obtain ⟨fu, rfl⟩ : ∃ m, fu = m + 1 := ⟨fu - 1, by omega⟩
    have d := p2i i (by omega)
    have c := wn_le1 (w := w) h1 h2
    have hul : ul1 w p (n + 1) i g = ul1 w p n (i + 1) (if w p / 2 ^ i % 2 = 1 then upm g (2 ^ i * p) (g (2 ^ i * p) + 1) else g) := rfl
    unfold fX4_becomeUnlike_22
    rw [if_neg (n_20 (by omega)), hul]
    unfold fX4_becomeUnlike_45
    rw [o_pow2]
    by_cases e : w p / 2 ^ i % 2 = 1
    · obtain ⟨a, b⟩ := bit_le hw h1 h2 (by omega) e
      obtain ⟨g2, q1, q2⟩ := c_put (N := N) (K := K) hh (p := 2 ^ i * p) (t := 1) a b
      rw [if_neg (fun z => (bt20 (w p) (by omega) i (by omega)).mp z e), if_pos e, o_mul, show (1 : Int32) = Int32.ofNat 1 from rfl, q1, Option.bind_some]
      exact ih (i + 1) fu g2 _ (by omega) (by omega) q2
    · rw [if_pos ((bt20 (w p) (by omega) i (by omega)).mpr e), if_neg e]
      exact ih (i + 1) fu h g (by omega) (by omega) hh
theorem c_ulo {N K : Nat} (hN : 100 ≤ N) {f g0 : Nat → Int32} {w : Nat → Nat} (hg : Dk g0 w) : ∀ n j fu (h : Nat → Int32) (g : Nat → Nat), j + n = 20 → n < fu → Dv h g → ∃ h2, fX4_becomeUnlike_6 N K f g0 fu (Int32.ofNat (j + 1)) h = some h2 ∧ Dv h2 (ulo w n j g) := by
  intro n
  induction n with
  | zero =>
    intro j fu h g hj hfu hh
    obtain ⟨fu, rfl⟩ : ∃ m, fu = m + 1 := ⟨fu - 1, by omega⟩
    obtain rfl : j = 20 := by omega
    refine ⟨h, ?_, hh⟩
    unfold fX4_becomeUnlike_6
    rw [if_pos (by decide)]
  | succ n ih =>
    intro j fu h g hj hfu hh
    obtain ⟨fu, rfl⟩ : ∃ m, fu = m + 1 := ⟨fu - 1, by omega⟩
    obtain ⟨h3, a1, a2⟩ := c_ul1 (N := N) (K := K) (f := f) (g0 := g0) (k6 := fX4_becomeUnlike_6 N K f g0 fu) hg.1 (p := j + 1) (by omega) (by omega) 5 0 N h g rfl (by omega) hh
    obtain ⟨h4, b1, b2⟩ := ih (j + 1) fu h3 _ (by omega) (by omega) a2
    refine ⟨h4, ?_, b2⟩
    unfold fX4_becomeUnlike_6
    rw [if_neg (n_20 (by omega)), if_neg (o_ob (by omega) (by omega)), o_c (by omega), hg.2 _ (by omega) (by omega)]
    exact a1.trans b1
theorem c_unlike {N K : Nat} (hN : 100 ≤ N) {f g : Nat → Int32} {w : Nat → Nat} (h : Dk g w) : ∃ h2, fX4_becomeUnlike N K f g = some h2 ∧ Dk h2 (unlikew w) := by
  obtain ⟨e, h1, h2⟩ := c_empty (N := N) (K := K) hN (f := f)
  obtain ⟨h3, h4, h5⟩ := c_ulo (N := N) (K := K) hN (f := f) h 20 0 N e _ rfl (by omega) h2
  refine ⟨h3, ?_, by rw [wn_unlike h.1]; exact h.1, h5⟩
  unfold fX4_becomeUnlike
  rw [h1, Option.bind_some]
  exact h4
/-! ===== to odd parts ===== -/
def ow (p : Nat) : Nat := if p % 16 = 0 then 16 else if p % 8 = 0 then 8 else if p % 4 = 0 then 4 else if p % 2 = 0 then 2 else 1
theorem ow20 : ∀ p, p < 21 → 1 ≤ p → (Int32.ofNat p &&& -Int32.ofNat p) = Int32.ofNat (ow p) ∧ 1 ≤ ow p ∧ ow p ≤ 16 ∧ 1 ≤ p / ow p ∧ p / ow p ≤ 20 ∧ p / ow p * ow p = p := by decide +kernel
def odo (w : Nat → Nat) : Nat → Nat → (Nat → Nat) → Nat → Nat
  | 0, _, g => g
  | n + 1, j, g => odo w n (j + 1) (upm g ((j + 1) / ow (j + 1)) (g ((j + 1) / ow (j + 1)) + ow (j + 1) * w (j + 1)))
def oddw (w : Nat → Nat) : Nat → Nat := odo w 20 0 (fun _ => 0)
theorem wn_odo {w : Nat → Nat} : ∀ n j g, j + n = 20 → wn (odo w n j g) + sm (fun p => p * w p) j = wn g + wn w := by
  intro n
  induction n with
  | zero => intro j g hj; obtain rfl : j = 20 := by omega
            rfl
  | succ n ih =>
    intro j g hj
    obtain ⟨-, o2, o3, o4, o5, o6⟩ := ow20 (j + 1) (by omega) (by omega)
    have a := ih (j + 1) (upm g ((j + 1) / ow (j + 1)) (g ((j + 1) / ow (j + 1)) + ow (j + 1) * w (j + 1))) (by omega)
    have b := wn_upm (w := g) (p := (j + 1) / ow (j + 1)) (v := g ((j + 1) / ow (j + 1)) + ow (j + 1) * w (j + 1)) o4 o5
    rw [Nat.mul_add, ← Nat.mul_assoc ((j + 1) / ow (j + 1)) (ow (j + 1)), o6] at b
    have d : sm (fun p => p * w p) (j + 1) = sm (fun p => p * w p) j + (j + 1) * w (j + 1) := rfl
    show wn (odo w n (j + 1) (upm g ((j + 1) / ow (j + 1)) (g ((j + 1) / ow (j + 1)) + ow (j + 1) * w (j + 1)))) + _ = _
    omega
theorem wn_odd {w : Nat → Nat} : wn (oddw w) = wn w := by
  have a := wn_odo (w := w) 20 0 (fun _ => 0) rfl
  rw [wn_0] at a
  have b : sm (fun p => p * w p) 0 = 0 := rfl
  unfold oddw
  omega
theorem c_odo {N K : Nat} {f g0 : Nat → Int32} {w : Nat → Nat} (hg : Dv g0 w) : ∀ n j fu (h : Nat → Int32) (g : Nat → Nat), j + n = 20 → n < fu → Dv h g → ∃ h2, fX4_becomeOdd_6 N K f g0 fu (Int32.ofNat (j + 1)) h = some h2 ∧ Dv h2 (odo w n j g) := by
  intro n
  induction n with
  | zero =>
    intro j fu h g hj hfu hh
    obtain ⟨fu, rfl⟩ : ∃ m, fu = m + 1 := ⟨fu - 1, by omega⟩
    obtain rfl : j = 20 := by omega
    refine ⟨h, ?_, hh⟩
    unfold fX4_becomeOdd_6
    rw [if_pos (by decide)]
  | succ n ih =>
    intro j fu h g hj hfu hh
    obtain ⟨fu, rfl⟩ : ∃ m, fu = m + 1 := ⟨fu - 1, by omega⟩
    obtain ⟨o1, o2, o3, o4, o5, o6⟩ := ow20 (j + 1) (by omega) (by omega)
    obtain ⟨h3, a1, a2⟩ := c_put (N := N) (K := K) hh (p := (j + 1) / ow (j + 1)) (t := ow (j + 1) * w (j + 1)) o4 o5
    obtain ⟨h4, b1, b2⟩ := ih (j + 1) fu h3 _ (by omega) (by omega) a2
    refine ⟨h4, ?_, b2⟩
    unfold fX4_becomeOdd_6
    rw [if_neg (n_20 (by omega)), o1, if_neg (o_0lt o2 (by omega)), if_neg (by rw [show (0 : Int32) = Int32.ofNat 0 from rfl, o_eq (by omega) (by omega)]; omega), if_neg (o_ob (by omega) (by omega)), o_c (by omega), hg _ (by omega) (by omega), o_div (by omega) (by omega), o_mul, a1, Option.bind_some]
    unfold fX4_becomeOdd_36
    rw [o_1]
    exact b1
theorem c_odd {N K : Nat} (hN : 100 ≤ N) {f g : Nat → Int32} {w : Nat → Nat} (h : Dk g w) : ∃ h2, fX4_becomeOdd N K f g = some h2 ∧ Dk h2 (oddw w) := by
  obtain ⟨e, h1, h2⟩ := c_empty (N := N) (K := K) hN (f := f)
  obtain ⟨h3, h4, h5⟩ := c_odo (N := N) (K := K) (f := f) h.2 20 0 N e _ rfl (by omega) h2
  refine ⟨h3, ?_, by rw [wn_odd]; exact h.1, h5⟩
  unfold fX4_becomeOdd
  rw [h1, Option.bind_some]
  exact h4
