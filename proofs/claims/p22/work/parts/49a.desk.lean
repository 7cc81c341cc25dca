/-! ===== sums ===== -/
def sm (g : Nat → Nat) : Nat → Nat
  | 0 => 0
  | n + 1 => sm g n + g (n + 1)
theorem sm_mono {g : Nat → Nat} {m : Nat} : ∀ {n : Nat}, m ≤ n → sm g m ≤ sm g n := by
  intro n
  induction n with
  | zero => intro h; obtain rfl : m = 0 := by omega
            exact Nat.le_refl _
  | succ n ih =>
    intro h
    by_cases e : m = n + 1
    · subst e; exact Nat.le_refl _
    · exact Nat.le_trans (ih (by omega)) (Nat.le_add_right _ _)
theorem sm_ge {g : Nat → Nat} {n p : Nat} (h1 : 1 ≤ p) (h2 : p ≤ n) : g p ≤ sm g n := by
  obtain ⟨q, rfl⟩ : ∃ q, p = q + 1 := ⟨p - 1, by omega⟩
  exact Nat.le_trans (Nat.le_add_left _ _) (sm_mono (g := g) h2)
theorem sm_congr {g h : Nat → Nat} : ∀ {n : Nat}, (∀ p, 1 ≤ p → p ≤ n → g p = h p) → sm g n = sm h n := by
  intro n
  induction n with
  | zero => intro _; rfl
  | succ n ih =>
    intro e
    show sm g n + g (n + 1) = sm h n + h (n + 1)
    rw [ih (fun p a b => e p a (by omega)), e (n + 1) (by omega) (by omega)]
theorem sm_le {g h : Nat → Nat} : ∀ {n : Nat}, (∀ p, 1 ≤ p → p ≤ n → g p ≤ h p) → sm g n ≤ sm h n := by
  intro n
  induction n with
  | zero => intro _; exact Nat.le_refl _
  | succ n ih =>
    intro e
    exact Nat.add_le_add (ih (fun p a b => e p a (by omega))) (e (n + 1) (by omega) (by omega))
theorem sm_upm {g : Nat → Nat} {p v : Nat} : ∀ {n : Nat}, 1 ≤ p → p ≤ n → sm (upm g p v) n + g p = sm g n + v := by
  intro n
  induction n with
  | zero => intro h1 h2; omega
  | succ n ih =>
    intro h1 h2
    show sm (upm g p v) n + upm g p v (n + 1) + g p = sm g n + g (n + 1) + v
    by_cases e : p = n + 1
    · subst e
      have e1 : sm (upm g (n + 1) v) n = sm g n := sm_congr (fun q a b => by unfold upm; rw [if_neg (by omega)])
      rw [e1]
      unfold upm
      rw [if_pos rfl]
      omega
    · have e1 := ih h1 (by omega)
      have e2 : upm g p v (n + 1) = g (n + 1) := by unfold upm; rw [if_neg (by omega)]
      rw [e2]
      omega
def wn (w : Nat → Nat) : Nat := sm (fun p => p * w p) 20
def wp (w : Nat → Nat) : Nat := sm w 20
/-- f holds, part by part, the way w -/
def Dv (f : Nat → Int32) (w : Nat → Nat) : Prop := ∀ p, 1 ≤ p → p ≤ 20 → f p = Int32.ofNat (w p)
def Dk (f : Nat → Int32) (w : Nat → Nat) : Prop := wn w ≤ 20 ∧ Dv f w
def OkD (f : Nat → Int32) : Prop := ∃ w, Dk f w
theorem wn_upm {w : Nat → Nat} {p v : Nat} (h1 : 1 ≤ p) (h2 : p ≤ 20) : wn (upm w p v) + p * w p = wn w + p * v := by
  unfold wn
  rw [show (fun q => q * upm w p v q) = upm (fun q => q * w q) p (p * v) from by
    funext q
    unfold upm
    by_cases e : q = p
    · rw [if_pos e, if_pos e, e]
    · rw [if_neg e, if_neg e]]
  exact sm_upm (g := fun q => q * w q) h1 h2
theorem Dv.put {f : Nat → Int32} {w : Nat → Nat} {p t : Nat} (h : Dv f w) : Dv (upd f p (Int32.ofNat t)) (upm w p t) := by
  intro q h1 h2
  unfold upd upm
  by_cases e : q = p
  · rw [if_pos e, if_pos e]
  · rw [if_neg e, if_neg e]; exact h q h1 h2
theorem Dv.same {f g : Nat → Int32} {w : Nat → Nat} (h : Dv f w) (e : ∀ p, 1 ≤ p → p ≤ 20 → g p = f p) : Dv g w := fun p a b => (e p a b).trans (h p a b)
theorem wn_ge {w : Nat → Nat} {p : Nat} (h1 : 1 ≤ p) (h2 : p ≤ 20) : p * w p ≤ wn w := sm_ge (g := fun q => q * w q) h1 h2
theorem wn_le1 {w : Nat → Nat} {p : Nat} (h1 : 1 ≤ p) (h2 : p ≤ 20) : w p ≤ wn w := Nat.le_trans (Nat.le_mul_of_pos_left _ (by omega)) (wn_ge h1 h2)
theorem wp_le {w : Nat → Nat} : wp w ≤ wn w := sm_le (fun p a _ => Nat.le_mul_of_pos_left _ (by omega))
/-! ===== the sums of a way, on both sides ===== -/
theorem c_sum_ {N K : Nat} {f : Nat → Int32} {w : Nat → Nat} (hf : Dv f w) : ∀ n i fu, i + n = 20 → n < fu → fX4_sum_4 N K f fu (Int32.ofNat (sm (fun p => p * w p) i)) (Int32.ofNat (i + 1)) = some (Int32.ofNat (wn w)) := by
  intro n
  induction n with
  | zero =>
    intro i fu hi hfu
    obtain ⟨fu, rfl⟩ : ∃ m, fu = m + 1 := ⟨fu - 1, by omega⟩
    obtain rfl : i = 20 := by omega
    unfold fX4_sum_4
    rw [if_pos (by decide)]
    rfl
  | succ n ih =>
    intro i fu hi hfu
    obtain ⟨fu, rfl⟩ : ∃ m, fu = m + 1 := ⟨fu - 1, by omega⟩
    unfold fX4_sum_4
    rw [if_neg (n_20 (by omega)), if_neg (o_ob (by omega) (by omega)), o_c (by omega), hf _ (by omega) (by omega), o_mul, o_add, o_1]
    exact ih (i + 1) fu (by omega) (by omega)
theorem c_sum {N K : Nat} (hN : 100 ≤ N) {f : Nat → Int32} {w : Nat → Nat} (hf : Dv f w) : fX4_sum N K f = some (Int32.ofNat (wn w)) := c_sum_ hf 20 0 N rfl (by omega)
theorem m_sum_ {N K : Nat} {f : Nat → Int32} {w : Nat → Nat} (hf : Dv f w) : ∀ n i fu, i + n = 20 → n < fu → fX7_number_4 N K f fu (Int32.ofNat (sm (fun p => p * w p) i)) (Int32.ofNat (i + 1)) = some (Int32.ofNat (wn w)) := by
  intro n
  induction n with
  | zero =>
    intro i fu hi hfu
    obtain ⟨fu, rfl⟩ : ∃ m, fu = m + 1 := ⟨fu - 1, by omega⟩
    obtain rfl : i = 20 := by omega
    unfold fX7_number_4
    rw [if_pos (by decide)]
    rfl
  | succ n ih =>
    intro i fu hi hfu
    obtain ⟨fu, rfl⟩ : ∃ m, fu = m + 1 := ⟨fu - 1, by omega⟩
    unfold fX7_number_4
    rw [if_neg (n_20 (by omega)), if_neg (o_ob (by omega) (by omega)), o_c (by omega), hf _ (by omega) (by omega), o_mul, o_add, o_1]
    exact ih (i + 1) fu (by omega) (by omega)
theorem m_sum {N K : Nat} (hN : 100 ≤ N) {f : Nat → Int32} {w : Nat → Nat} (hf : Dv f w) : fX7_number N K f = some (Int32.ofNat (wn w)) := m_sum_ hf 20 0 N rfl (by omega)
theorem c_parts_ {N K : Nat} {f : Nat → Int32} {w : Nat → Nat} (hf : Dv f w) : ∀ n i fu, i + n = 20 → n < fu → fX4_parts_4 N K f fu (Int32.ofNat (sm w i)) (Int32.ofNat (i + 1)) = some (Int32.ofNat (wp w)) := by
  intro n
  induction n with
  | zero =>
    intro i fu hi hfu
    obtain ⟨fu, rfl⟩ : ∃ m, fu = m + 1 := ⟨fu - 1, by omega⟩
    obtain rfl : i = 20 := by omega
    unfold fX4_parts_4
    rw [if_pos (by decide)]
    rfl
  | succ n ih =>
    intro i fu hi hfu
    obtain ⟨fu, rfl⟩ : ∃ m, fu = m + 1 := ⟨fu - 1, by omega⟩
    unfold fX4_parts_4
    rw [if_neg (n_20 (by omega)), if_neg (o_ob (by omega) (by omega)), o_c (by omega), hf _ (by omega) (by omega), o_add, o_1]
    exact ih (i + 1) fu (by omega) (by omega)
theorem c_parts {N K : Nat} (hN : 100 ≤ N) {f : Nat → Int32} {w : Nat → Nat} (hf : Dv f w) : fX4_parts N K f = some (Int32.ofNat (wp w)) := c_parts_ hf 20 0 N rfl (by omega)
theorem m_parts_ {N K : Nat} {f : Nat → Int32} {w : Nat → Nat} (hf : Dv f w) : ∀ n i fu, i + n = 20 → n < fu → fX7_parts_4 N K f fu (Int32.ofNat (sm w i)) (Int32.ofNat (i + 1)) = some (Int32.ofNat (wp w)) := by
  intro n
  induction n with
  | zero =>
    intro i fu hi hfu
    obtain ⟨fu, rfl⟩ : ∃ m, fu = m + 1 := ⟨fu - 1, by omega⟩
    obtain rfl : i = 20 := by omega
    unfold fX7_parts_4
    rw [if_pos (by decide)]
    rfl
  | succ n ih =>
    intro i fu hi hfu
    obtain ⟨fu, rfl⟩ : ∃ m, fu = m + 1 := ⟨fu - 1, by omega⟩
    unfold fX7_parts_4
    rw [if_neg (n_20 (by omega)), if_neg (o_ob (by omega) (by omega)), o_c (by omega), hf _ (by omega) (by omega), o_add, o_1]
    exact ih (i + 1) fu (by omega) (by omega)
theorem m_parts {N K : Nat} (hN : 100 ≤ N) {f : Nat → Int32} {w : Nat → Nat} (hf : Dv f w) : fX7_parts N K f = some (Int32.ofNat (wp w)) := m_parts_ hf 20 0 N rfl (by omega)
/-! ===== a part put on, or taken off ===== -/
theorem c_put {N K : Nat} {f : Nat → Int32} {w : Nat → Nat} (hf : Dv f w) {p t : Nat} (h1 : 1 ≤ p) (h2 : p ≤ 20) : ∃ g, fX4_put N K f (Int32.ofNat p) (Int32.ofNat t) = some g ∧ Dv g (upm w p (w p + t)) := by
  refine ⟨_, ?_, hf.put (p := p) (t := w p + t)⟩
  unfold fX4_put
  rw [if_neg (o_1le h1 (by omega)), if_neg (n_20 h2), if_neg (o_ob (by omega) (by omega)), if_neg (o_ob (by omega) (by omega)), o_c (by omega), hf p h1 h2, o_add]
theorem c_put0 {N K : Nat} {f : Nat → Int32} {t : Int32} : fX4_put N K f (Int32.ofNat 0) t = some f := by
  unfold fX4_put
  rw [if_pos (by decide)]
theorem c_empty {N K : Nat} (hN : 100 ≤ N) {f : Nat → Int32} : ∃ g, fX4_becomeEmpty N K f = some g ∧ Dv g (fun _ => 0) := by
  obtain ⟨g, h1, h2⟩ := c_fill (N := N) (K := K) (n := 21) (f := f) (v := 0) (by omega) (by omega)
  refine ⟨g, ?_, fun p a b => by rw [h2 p, if_pos (by omega)]; rfl⟩
  unfold fX4_becomeEmpty
  rw [h1]
  rfl
theorem c_become {N K : Nat} {f g : Nat → Int32} {w : Nat → Nat} (hg : Dv g w) : ∃ h, fX4_become N K f g = some h ∧ Dv h w := by
  refine ⟨_, rfl, fun p a b => ?_⟩
  show (if (0 : Int32).toNatClampNeg ≤ p ∧ p < (0 : Int32).toNatClampNeg + (21 : Int32).toNatClampNeg then g ((0 : Int32).toNatClampNeg + (p - (0 : Int32).toNatClampNeg)) else f p) = _
  have e0 : (0 : Int32).toNatClampNeg = 0 := by decide
  have e1 : (21 : Int32).toNatClampNeg = 21 := by decide
  rw [e0, e1, if_pos (by omega), show 0 + (p - 0) = p from by omega]
  exact hg p a b
/-- the first way of a number -/
def firstw (n : Nat) : Nat → Nat := if n = 0 then fun _ => 0 else upm (fun _ => 0) n 1
theorem wn_0 : wn (fun _ => 0) = 0 := by decide
theorem wn_first {n : Nat} (h : n ≤ 20) : wn (firstw n) = n := by
  unfold firstw
  by_cases e : n = 0
  · rw [if_pos e, wn_0, e]
  · rw [if_neg e]
    have := wn_upm (w := fun _ => 0) (p := n) (v := 1) (by omega) h
    rw [wn_0] at this
    omega
theorem c_first {N K : Nat} (hN : 100 ≤ N) {f : Nat → Int32} {n : Nat} (h : n ≤ 20) : ∃ g, fX4_becomeFirst N K f (Int32.ofNat n) = some g ∧ Dk g (firstw n) := by
  obtain ⟨g, h1, h2⟩ := c_empty (N := N) (K := K) hN (f := f)
  by_cases e : n = 0
  · subst e
    refine ⟨g, ?_, by rw [wn_first h]; omega, by unfold firstw; rw [if_pos rfl]; exact h2⟩
    unfold fX4_becomeFirst
    rw [h1, Option.bind_some, c_put0]
    rfl
  · obtain ⟨g2, h3, h4⟩ := c_put (N := N) (K := K) h2 (p := n) (t := 1) (by omega) h
    refine ⟨g2, ?_, by rw [wn_first h]; omega, by unfold firstw; rw [if_neg e]; exact h4⟩
    unfold fX4_becomeFirst
    rw [h1, Option.bind_some, show (1 : Int32) = Int32.ofNat 1 from rfl, h3]
    rfl
theorem m_first {N K : Nat} {n : Nat} (h : n ≤ 20) : ∃ g, fX7_firstWay N K (Int32.ofNat n) = some g ∧ Dk g (firstw n) := by
  by_cases e : n = 0
  · subst e
    refine ⟨fun _ => 0, ?_, by rw [wn_first h]; omega, by unfold firstw; rw [if_pos rfl]; exact fun p _ _ => rfl⟩
    unfold fX7_firstWay
    rw [if_pos (by decide)]
  · refine ⟨upd (fun _ => 0) n (Int32.ofNat 1), ?_, by rw [wn_first h]; omega, by unfold firstw; rw [if_neg e]; exact Dv.put (w := fun _ => 0) (fun _ _ _ => rfl)⟩
    unfold fX7_firstWay
    rw [if_neg (by rw [show (0 : Int32) = Int32.ofNat 0 from rfl, o_le (by omega) (by omega)]; omega), if_neg (o_ob (by omega) (by omega)), o_c (by omega)]
    rfl
theorem OkD.z : OkD (fun _ => 0) := ⟨fun _ => 0, by rw [wn_0]; omega, fun _ _ _ => rfl⟩
theorem OkD.le {f : Nat → Int32} (h : OkD f) {p : Nat} (h1 : 1 ≤ p) (h2 : p ≤ 20) : 0 ≤ (f p).toInt ∧ (f p).toInt ≤ 20 := by
  obtain ⟨w, hw, hf⟩ := h
  have c := wn_le1 (w := w) h1 h2
  rw [hf p h1 h2, o_i (by omega)]
  omega
