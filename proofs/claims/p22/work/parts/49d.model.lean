/-! ===== the reference's laying; to unlike and to odd parts ===== -/
/-- what an act leaves of the tallies -/
def dn (t : Nat → Int32) : Nat → Int32 := upd t (0 : Int32).toNatClampNeg (t (0 : Int32).toNatClampNeg + (1 : Int32))
theorem m_laid_ {N K : Nat} {th p0 : Int32} {f0 g t0 : Nat → Int32} {w : Nat → Nat} (hN : NBig N) (hK : 100 ≤ K) (hp : ¬ (p0 < 0 ∨ 2 ≤ p0.toNatClampNeg)) (hg : Dv g w) : ∀ n i fu (f t : Nat → Int32), i + n = 21 → n < fu → (∀ p, 1 ≤ p → p < i → f p = Int32.ofNat (w p)) → ∃ f', fX7_laid_2 N K th f0 g t0 p0 fu (Int32.ofNat i) f t = some (Int32.ofNat (wp w), f', dn t) ∧ Dv f' w := by
  intro n
  induction n with
  | zero =>
    intro i fu f t hi hfu hf
    obtain ⟨fu, rfl⟩ : ∃ m, fu = m + 1 := ⟨fu - 1, by omega⟩
    obtain rfl : i = 21 := by omega
    have hN9 := hN.u
    have hx := m_parts (N := N) (K := K) (by omega) hg
    refine ⟨f, ?_, fun p a b => hf p a (by omega)⟩
    · unfold fX7_laid_2
      rw [if_pos (by decide), hx, Option.bind_some]
      rfl
  | succ n ih =>
    intro i fu f t hi hfu hf
    obtain ⟨fu, rfl⟩ : ∃ m, fu = m + 1 := ⟨fu - 1, by omega⟩
    obtain ⟨f', h1, h2⟩ := ih (i + 1) fu (upd f i (g i)) t (by omega) (by omega) (fun p a b => by
      unfold upd
      by_cases e : p = i
      · rw [if_pos e, ← e]; exact hg p a (by omega)
      · rw [if_neg e]; exact hf p a (by omega))
    refine ⟨f', ?_, h2⟩
    unfold fX7_laid_2
    rw [if_neg (n_20 (by omega)), if_neg hp, if_neg (o_ob (by omega) (by omega)), if_neg (o_ob (by omega) (by omega)), o_c (by omega), o_1]
    exact h1
theorem m_laid {N K : Nat} {th p0 : Int32} {f g t : Nat → Int32} {w : Nat → Nat} (hN : NBig N) (hK : 100 ≤ K) (hp : ¬ (p0 < 0 ∨ 2 ≤ p0.toNatClampNeg)) (hg : Dk g w) : ∃ f', fX7_laid N K th f g t p0 = some (Int32.ofNat (wp w), f', dn t) ∧ Dk f' w := by
  have hN9 := hN.u
  obtain ⟨f', h1, h2⟩ := m_laid_ (th := th) (f0 := f) (t0 := t) hN hK hp hg.2 21 0 N f t rfl (by omega) (fun p a b => by omega)
  exact ⟨f', h1, hg.1, h2⟩
theorem m_ul1 {N K : Nat} {th p0 : Int32} {f0 t0 : Nat → Int32} {k40 : Int32 → Int32 → (Nat → Int32) → (Nat → Int32) → (Nat → Int32) → Option (Int32 × Int32 × (Nat → Int32) × (Nat → Int32))} {th1 : Int32} {f t : Nat → Int32} {w : Nat → Nat} (hp : ¬ (p0 < 0 ∨ 2 ≤ p0.toNatClampNeg)) (hf : Dk f w) {p : Nat} (h1 : 1 ≤ p) (h2 : p ≤ 20) : ∀ n i fu (h : Nat → Int32) (g : Nat → Nat), i + n = 5 → n < fu → Dv h g → ∃ h2, fX7_toUnlike_49 N K th f0 t0 p0 k40 fu (Int32.ofNat p) (Int32.ofNat (2 ^ i)) th1 f t h = k40 (Int32.ofNat (p + 1)) th1 f t h2 ∧ Dv h2 (ul1 w p n i g) := by
  intro n
  induction n with
  | zero =>
    intro i fu h g hi hfu hh
    obtain ⟨fu, rfl⟩ : ∃ m, fu = m + 1 := ⟨fu - 1, by omega⟩
    obtain rfl : i = 5 := by omega
    refine ⟨h, ?_, hh⟩
    unfold fX7_toUnlike_49
    rw [if_pos (by decide), o_1]
  | succ n ih =>
    intro i fu h g hi hfu hh
    obtain ⟨fu, rfl⟩ : ∃ m, fu = m + 1 := ⟨fu - 1, by omega⟩
    have d := p2i i (by omega)
    have c := wn_le1 (w := w) h1 h2
    have hw := hf.1
    have hul : ul1 w p (n + 1) i g = ul1 w p n (i + 1) (if w p / 2 ^ i % 2 = 1 then upm g (2 ^ i * p) (g (2 ^ i * p) + 1) else g) := rfl
    unfold fX7_toUnlike_49
    rw [if_neg (n_20 (by omega)), hul, if_neg hp, if_neg (o_ob (by omega) (by omega)), if_neg (by rw [show (0 : Int32) = Int32.ofNat 0 from rfl, o_eq (by omega) (by omega)]; omega), o_c (by omega), hf.2 _ h1 h2]
    unfold fX7_toUnlike_83
    rw [o_pow2]
    by_cases e : w p / 2 ^ i % 2 = 1
    · obtain ⟨a, b⟩ := bit_le hf.1 h1 h2 (by omega) e
      rw [if_pos ((bd20 (w p) (by omega) i (by omega)).mpr e), if_pos e, o_mul, Nat.mul_comm p, if_neg (o_ob (by omega) (by omega)), if_neg (o_ob (by omega) (by omega)), o_c (by omega), hh _ a b, o_1]
      exact ih (i + 1) fu _ _ (by omega) (by omega) hh.put
    · rw [if_neg (fun z => e ((bd20 (w p) (by omega) i (by omega)).mp z)), if_neg e]
      exact ih (i + 1) fu h g (by omega) (by omega) hh
theorem m_ulo {N K : Nat} {th p0 : Int32} {f0 t0 : Nat → Int32} {th1 : Int32} {f t : Nat → Int32} {w : Nat → Nat} (hN : NBig N) (hK : 100 ≤ K) (hp : ¬ (p0 < 0 ∨ 2 ≤ p0.toNatClampNeg)) (hf : Dk f w) : ∀ n j fu (h : Nat → Int32) (g : Nat → Nat), j + n = 20 → n < fu → Dv h g → wn (ulo w n j g) ≤ 20 → ∃ f', fX7_toUnlike_40 N K th f0 t0 p0 fu (Int32.ofNat (j + 1)) th1 f t h = some (Int32.ofNat (wp (ulo w n j g)), th1, f', dn t) ∧ Dk f' (ulo w n j g) := by
  have hN9 := hN.u
  intro n
  induction n with
  | zero =>
    intro j fu h g hj hfu hh hg
    obtain ⟨fu, rfl⟩ : ∃ m, fu = m + 1 := ⟨fu - 1, by omega⟩
    obtain rfl : j = 20 := by omega
    obtain ⟨f', a1, a2⟩ := m_laid (th := th1) (f := f) (t := t) hN hK hp (g := h) (w := ulo w 0 20 g) ⟨hg, hh⟩
    refine ⟨f', ?_, a2⟩
    unfold fX7_toUnlike_40
    rw [if_pos (by decide), a1, Option.bind_some]
  | succ n ih =>
    intro j fu h g hj hfu hh hg
    obtain ⟨fu, rfl⟩ : ∃ m, fu = m + 1 := ⟨fu - 1, by omega⟩
    obtain ⟨h3, a1, a2⟩ := m_ul1 (N := N) (K := K) (th := th) (f0 := f0) (t0 := t0) (k40 := fX7_toUnlike_40 N K th f0 t0 p0 fu) (th1 := th1) (t := t) hp hf (p := j + 1) (by omega) (by omega) 5 0 N h g rfl (by omega) hh
    obtain ⟨f', b1, b2⟩ := ih (j + 1) fu h3 _ (by omega) (by omega) a2 hg
    refine ⟨f', ?_, b2⟩
    unfold fX7_toUnlike_40
    rw [if_neg (n_20 (by omega))]
    exact a1.trans b1
theorem od20_ : ∀ p, p < 21 → ∀ i, i < 5 → (1 ≤ p ∧ p % 2 ^ i = 0) → (p % (2 * 2 ^ i) = 0 ∧ i < 4) ∨ (¬ p % (2 * 2 ^ i) = 0 ∧ ow p = 2 ^ i) := by decide +kernel
theorem od20 (p : Nat) (h : p < 21) (h1 : 1 ≤ p) (i : Nat) (h2 : i < 5) (h3 : p % 2 ^ i = 0) : (p % (2 * 2 ^ i) = 0 ∧ i < 4) ∨ (¬ p % (2 * 2 ^ i) = 0 ∧ ow p = 2 ^ i) := od20_ p h i h2 ⟨h1, h3⟩
theorem m_od1 {N K : Nat} {th p0 : Int32} {f0 t0 : Nat → Int32} {k40 : Int32 → Int32 → (Nat → Int32) → (Nat → Int32) → (Nat → Int32) → Option (Int32 × Int32 × (Nat → Int32) × (Nat → Int32))} {th1 : Int32} {f t : Nat → Int32} {w : Nat → Nat} (hp : ¬ (p0 < 0 ∨ 2 ≤ p0.toNatClampNeg)) (hf : Dk f w) {p : Nat} (h1 : 1 ≤ p) (h2 : p ≤ 20) {h : Nat → Int32} {g : Nat → Nat} (hh : Dv h g) : ∀ n i fu, i + n = 4 → n < fu → p % 2 ^ i = 0 → ∃ h2, fX7_toOdd_49 N K th f0 t0 p0 k40 fu (Int32.ofNat p) (Int32.ofNat (2 ^ i)) th1 f t h = k40 (Int32.ofNat (p + 1)) th1 f t h2 ∧ Dv h2 (upm g (p / ow p) (g (p / ow p) + ow p * w p)) := by
  intro n
  induction n with
  | zero =>
    intro i fu hi hfu hm
    obtain ⟨fu, rfl⟩ : ∃ m, fu = m + 1 := ⟨fu - 1, by omega⟩
    have d := p2i i (by omega)
    have hmd := Nat.mod_le p (2 * 2 ^ i)
    obtain ⟨-, o2, o3, o4, o5, o6⟩ := ow20 p (by omega) h1
    rcases od20 p (by omega) h1 i (by omega) hm with ⟨-, e⟩ | ⟨e1, e2⟩
    · omega
    · refine ⟨_, ?_, hh.put (p := p / ow p) (t := g (p / ow p) + ow p * w p)⟩
      unfold fX7_toOdd_49
      rw [show (2 : Int32) = Int32.ofNat 2 from rfl, o_mul, if_neg (by rw [show (0 : Int32) = Int32.ofNat 0 from rfl, o_eq (by omega) (by omega)]; omega), o_mod (by omega) (by omega), if_neg (by rw [show (0 : Int32) = Int32.ofNat 0 from rfl, o_eq (by omega) (by omega)]; exact e1), if_neg (by rw [show (0 : Int32) = Int32.ofNat 0 from rfl, o_eq (by omega) (by omega)]; omega), o_div (by omega) (by omega), ← e2, if_neg (o_ob (by omega) (by omega)), if_neg hp, if_neg (o_ob (by omega) (by omega)), if_neg (o_ob (by omega) (by omega)), o_c (by omega), o_c (by omega), hf.2 _ h1 h2, hh _ o4 o5, o_mul, o_add, o_1]
  | succ n ih =>
    intro i fu hi hfu hm
    obtain ⟨fu, rfl⟩ : ∃ m, fu = m + 1 := ⟨fu - 1, by omega⟩
    have d := p2i i (by omega)
    have hmd := Nat.mod_le p (2 * 2 ^ i)
    obtain ⟨-, o2, o3, o4, o5, o6⟩ := ow20 p (by omega) h1
    rcases od20 p (by omega) h1 i (by omega) hm with ⟨e, -⟩ | ⟨e1, e2⟩
    · obtain ⟨h3, a1, a2⟩ := ih (i + 1) fu (by omega) (by omega) (by rw [Nat.pow_succ, Nat.mul_comm]; exact e)
      refine ⟨h3, ?_, a2⟩
      unfold fX7_toOdd_49
      rw [o_pow2, show (2 : Int32) = Int32.ofNat 2 from rfl, o_mul, if_neg (by rw [show (0 : Int32) = Int32.ofNat 0 from rfl, o_eq (by omega) (by omega)]; omega), o_mod (by omega) (by omega), if_pos (by rw [e]; rfl)]
      exact a1
    · refine ⟨_, ?_, hh.put (p := p / ow p) (t := g (p / ow p) + ow p * w p)⟩
      unfold fX7_toOdd_49
      rw [show (2 : Int32) = Int32.ofNat 2 from rfl, o_mul, if_neg (by rw [show (0 : Int32) = Int32.ofNat 0 from rfl, o_eq (by omega) (by omega)]; omega), o_mod (by omega) (by omega), if_neg (by rw [show (0 : Int32) = Int32.ofNat 0 from rfl, o_eq (by omega) (by omega)]; exact e1), if_neg (by rw [show (0 : Int32) = Int32.ofNat 0 from rfl, o_eq (by omega) (by omega)]; omega), o_div (by omega) (by omega), ← e2, if_neg (o_ob (by omega) (by omega)), if_neg hp, if_neg (o_ob (by omega) (by omega)), if_neg (o_ob (by omega) (by omega)), o_c (by omega), o_c (by omega), hf.2 _ h1 h2, hh _ o4 o5, o_mul, o_add, o_1]
theorem m_odo {N K : Nat} {th p0 : Int32} {f0 t0 : Nat → Int32} {th1 : Int32} {f t : Nat → Int32} {w : Nat → Nat} (hN : NBig N) (hK : 100 ≤ K) (hp : ¬ (p0 < 0 ∨ 2 ≤ p0.toNatClampNeg)) (hf : Dk f w) : ∀ n j fu (h : Nat → Int32) (g : Nat → Nat), j + n = 20 → n < fu → Dv h g → wn (odo w n j g) ≤ 20 → ∃ f', fX7_toOdd_40 N K th f0 t0 p0 fu (Int32.ofNat (j + 1)) th1 f t h = some (Int32.ofNat (wp (odo w n j g)), th1, f', dn t) ∧ Dk f' (odo w n j g) := by
  have hN9 := hN.u
  intro n
  induction n with
  | zero =>
    intro j fu h g hj hfu hh hg
    obtain ⟨fu, rfl⟩ : ∃ m, fu = m + 1 := ⟨fu - 1, by omega⟩
    obtain rfl : j = 20 := by omega
    obtain ⟨f', a1, a2⟩ := m_laid (th := th1) (f := f) (t := t) hN hK hp (g := h) (w := odo w 0 20 g) ⟨hg, hh⟩
    refine ⟨f', ?_, a2⟩
    unfold fX7_toOdd_40
    rw [if_pos (by decide), a1, Option.bind_some]
  | succ n ih =>
    intro j fu h g hj hfu hh hg
    obtain ⟨fu, rfl⟩ : ∃ m, fu = m + 1 := ⟨fu - 1, by omega⟩
    obtain ⟨h3, a1, a2⟩ := m_od1 (N := N) (K := K) (th := th) (f0 := f0) (t0 := t0) (k40 := fX7_toOdd_40 N K th f0 t0 p0 fu) (th1 := th1) (t := t) hp hf (p := j + 1) (by omega) (by omega) hh 4 0 N rfl (by omega) (by rw [Nat.pow_zero, Nat.mod_one])
    obtain ⟨f', b1, b2⟩ := ih (j + 1) fu h3 _ (by omega) (by omega) a2 hg
    refine ⟨f', ?_, b2⟩
    unfold fX7_toOdd_40
    rw [if_neg (n_20 (by omega))]
    exact a1.trans b1
