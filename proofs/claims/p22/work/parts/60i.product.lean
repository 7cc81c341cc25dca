/-! ===== the series ===== -/
/-- n steps of taking a part often, from the place i on -/
def ofn (j : Nat) : Nat → Nat → (Nat → Int32) → Nat → Int32
  | 0, _, g => g
  | n + 1, i, g => ofn j n (i + 1) (upd g i (g i + g (i - j)))
/-- n steps of taking a part once, from the place j + n - 1 down -/
def onc (j : Nat) : Nat → (Nat → Int32) → Nat → Int32
  | 0, g => g
  | n + 1, g => onc j n (upd g (j + n) (g (j + n) + g n))
/-- alike at the places up to 20 -/
def E21 (g h : Nat → Int32) : Prop := ∀ p, p < 21 → g p = h p
theorem E21.u {g h : Nat → Int32} {k : Nat} {v : Int32} (e : E21 g h) : E21 (upd g k v) (upd h k v) := by
  intro p hp
  unfold upd
  by_cases c : p = k
  · rw [if_pos c, if_pos c]
  · rw [if_neg c, if_neg c]; exact e p hp
theorem E21.o {j : Nat} : ∀ n i (g h : Nat → Int32), i + n ≤ 21 → E21 g h → E21 (ofn j n i g) (ofn j n i h) := by
  intro n
  induction n with
  | zero => intro i g h _ e; exact e
  | succ n ih =>
    intro i g h hi e
    show E21 (ofn j n (i + 1) (upd g i (g i + g (i - j)))) (ofn j n (i + 1) (upd h i (h i + h (i - j))))
    rw [e i (by omega), e (i - j) (by omega)]
    exact ih (i + 1) _ _ (by omega) e.u
theorem E21.n {j : Nat} : ∀ n (g h : Nat → Int32), j + n ≤ 21 → E21 g h → E21 (onc j n g) (onc j n h) := by
  intro n
  induction n with
  | zero => intro g h _ e; exact e
  | succ n ih =>
    intro g h hi e
    show E21 (onc j n (upd g (j + n) (g (j + n) + g n))) (onc j n (upd h (j + n) (h (j + n) + h n)))
    rw [e (j + n) (by omega), e n (by omega)]
    exact ih _ _ (by omega) e.u
theorem o_sub {a b : Nat} (h : b ≤ a) : Int32.ofNat a - Int32.ofNat b = Int32.ofNat (a - b) := by
  obtain ⟨c, rfl⟩ : ∃ c, a = c + b := ⟨a - b, by omega⟩
  rw [← o_add, Int32.add_sub_cancel, show c + b - b = c from by omega]
theorem c_often_ {N K : Nat} {g0 : Nat → Int32} {p0 : Int32} {j : Nat} (h : p0 = Int32.ofNat j) : ∀ n i fu (g : Nat → Int32), i + n = 21 → j ≤ i → n < fu → fX3_takeOften_8 N K g0 p0 fu (Int32.ofNat i) g = some (ofn j n i g) := by
  subst h
  intro n
  induction n with
  | zero =>
    intro i fu g hi hj hfu
    obtain ⟨fu, rfl⟩ : ∃ m, fu = m + 1 := ⟨fu - 1, by omega⟩
    obtain rfl : i = 21 := by omega
    unfold fX3_takeOften_8
    rw [if_pos (by decide)]
    rfl
  | succ n ih =>
    intro i fu g hi hj hfu
    obtain ⟨fu, rfl⟩ : ∃ m, fu = m + 1 := ⟨fu - 1, by omega⟩
    unfold fX3_takeOften_8
    rw [if_neg (by rw [show (21 : Int32) = Int32.ofNat 21 from rfl, o_le (by omega) (by omega)]; omega), if_neg (o_ob (by omega) (by omega)), o_sub hj, if_neg (o_ob (by omega) (by omega)), if_neg (o_ob (by omega) (by omega)), o_c (by omega), o_c (by omega), o_1]
    exact ih (i + 1) fu _ (by omega) (by omega) (by omega)
theorem c_often {N K : Nat} (hN : 100 ≤ N) {g : Nat → Int32} {j : Nat} (h1 : 1 ≤ j) (h2 : j ≤ 20) : fX3_takeOften N K g (Int32.ofNat j) = some (ofn j (21 - j) j g) := by
  unfold fX3_takeOften
  rw [if_pos (by rw [show (1 : Int32) = Int32.ofNat 1 from rfl, o_le (by omega) (by omega)]; exact h1)]
  exact c_often_ rfl (21 - j) j N g (by omega) (Nat.le_refl _) (by omega)
theorem c_once_ {N K : Nat} {g0 : Nat → Int32} {p0 : Int32} {j : Nat} (h : p0 = Int32.ofNat j) (hj : 1 ≤ j) : ∀ n fu (g : Nat → Int32), j + n ≤ 21 → n < fu → fX3_takeOnce_14 N K g0 p0 fu (Int32.ofNat (j + n - 1)) g = some (onc j n g) := by
  subst h
  intro n
  induction n with
  | zero =>
    intro fu g hi hfu
    obtain ⟨fu, rfl⟩ : ∃ m, fu = m + 1 := ⟨fu - 1, by omega⟩
    unfold fX3_takeOnce_14
    rw [if_pos (by rw [o_lt (by omega) (by omega)]; omega)]
    rfl
  | succ n ih =>
    intro fu g hi hfu
    obtain ⟨fu, rfl⟩ : ∃ m, fu = m + 1 := ⟨fu - 1, by omega⟩
    obtain ⟨i, rfl⟩ : ∃ i, j = i + 1 := ⟨j - 1, by omega⟩
    rw [show i + 1 + (n + 1) - 1 = i + n + 1 from by omega]
    have h2 := ih fu (upd g (i + 1 + n) (g (i + 1 + n) + g n)) (by omega) (by omega)
    rw [show i + 1 + n - 1 = i + n from by omega] at h2
    unfold fX3_takeOnce_14
    rw [if_neg (by rw [o_lt (by omega) (by omega)]; omega), if_neg (o_ob (by omega) (by omega)), o_sub (by omega), if_neg (o_ob (by omega) (by omega)), if_neg (o_ob (by omega) (by omega)), o_c (by omega), o_c (by omega), o_m1, show i + n + 1 - (i + 1) = n from by omega, show i + n + 1 = i + 1 + n from by omega]
    exact h2
theorem c_once {N K : Nat} (hN : 100 ≤ N) {g : Nat → Int32} {j : Nat} (h1 : 1 ≤ j) (h2 : j ≤ 20) : fX3_takeOnce N K g (Int32.ofNat j) = some (onc j (21 - j) g) := by
  unfold fX3_takeOnce
  rw [if_pos (by rw [show (1 : Int32) = Int32.ofNat 1 from rfl, o_le (by omega) (by omega)]; exact h1), show (21 : Int32) - (1 : Int32) = Int32.ofNat 20 from by decide]
  have h := c_once_ (N := N) (K := K) (g0 := g) (p0 := Int32.ofNat j) (j := j) rfl h1 (21 - j) N g (by omega) (by omega)
  rw [show j + (21 - j) - 1 = 20 from by omega] at h
  exact h
/-- one part taken: often or once -/
def tk (once : Bool) (j : Nat) (g : Nat → Int32) : Nat → Int32 := if once = true then onc j (21 - j) g else ofn j (21 - j) j g
theorem E21.t {once : Bool} {j : Nat} {g h : Nat → Int32} (h2 : j ≤ 20) (e : E21 g h) : E21 (tk once j g) (tk once j h) := by
  unfold tk
  cases once
  · rw [if_neg (by decide), if_neg (by decide)]; exact E21.o _ _ _ _ (by omega) e
  · rw [if_pos rfl, if_pos rfl]; exact E21.n _ _ _ (by omega) e
/-- the parts j, j + 1 .. taken, n of them -/
def rk (odd once : Bool) : Nat → Nat → (Nat → Int32) → Nat → Int32
  | 0, _, g => g
  | n + 1, j, g => rk odd once n (j + 1) (if odd = true ∧ j % 2 = 0 then g else tk once j g)
theorem E21.r {odd once : Bool} : ∀ n j (g h : Nat → Int32), j + n ≤ 21 → E21 g h → E21 (rk odd once n j g) (rk odd once n j h) := by
  intro n
  induction n with
  | zero => intro j g h _ e; exact e
  | succ n ih =>
    intro j g h hj e
    show E21 (rk odd once n (j + 1) (if odd = true ∧ j % 2 = 0 then g else tk once j g)) (rk odd once n (j + 1) (if odd = true ∧ j % 2 = 0 then h else tk once j h))
    by_cases c : odd = true ∧ j % 2 = 0
    · rw [if_pos c, if_pos c]; exact ih (j + 1) _ _ (by omega) e
    · rw [if_neg c, if_neg c]; exact ih (j + 1) _ _ (by omega) (e.t (by omega))
theorem o_par {j : Nat} (h : j < 2147483648) : (Int32.ofNat j % (2 : Int32) = 0) = (j % 2 = 0) := by
  rw [show (2 : Int32) = Int32.ofNat 2 from rfl, o_mod h (by omega), show (0 : Int32) = Int32.ofNat 0 from rfl]
  exact o_eq (by have := Nat.mod_lt j (y := 2) (by omega); omega) (by omega)
/-- how many parts up to the last -/
def lastn (last : Nat) : Nat := if last < 20 then last else 20
theorem c_rk_ {N K : Nat} (hN : 100 ≤ N) {g0 : Nat → Int32} {p0 p1 : Int32} {odd once : Bool} {last : Nat} (hl : last ≤ 40) : ∀ n j fu (g : Nat → Int32), j + n = lastn last + 1 → 1 ≤ j → n < fu → fX3_reckon_80 N K g0 p0 p1 fu (Int32.ofNat last) (bi odd) (bi once) (Int32.ofNat j) g = some (rk odd once n j g) := by
  have hll : lastn last ≤ 20 ∧ lastn last ≤ last ∧ (lastn last = last ∨ lastn last = 20) := by
    unfold lastn
    by_cases e : last < 20
    · rw [if_pos e]; omega
    · rw [if_neg e]; omega
  intro n
  induction n with
  | zero =>
    intro j fu g hj h1 hfu
    obtain ⟨fu, rfl⟩ : ∃ m, fu = m + 1 := ⟨fu - 1, by omega⟩
    unfold fX3_reckon_80
    by_cases e : last < j
    · rw [if_pos (by rw [o_lt (by omega) (by omega)]; exact e)]
      rfl
    · rw [if_neg (by rw [o_lt (by omega) (by omega)]; exact e), if_pos (by rw [show (20 : Int32) = Int32.ofNat 20 from rfl, o_lt (by omega) (by omega)]; omega)]
      rfl
  | succ n ih =>
    intro j fu g hj h1 hfu
    obtain ⟨fu, rfl⟩ : ∃ m, fu = m + 1 := ⟨fu - 1, by omega⟩
    have h128 : ∀ g', fX3_reckon_128 N K g0 p0 p1 (fX3_reckon_80 N K g0 p0 p1 fu) (Int32.ofNat last) (bi odd) (bi once) (Int32.ofNat j) g' = some (rk odd once n (j + 1) g') := by
      intro g'
      unfold fX3_reckon_128
      rw [o_1]
      exact ih (j + 1) fu g' (by omega) (by omega) (by omega)
    have h108 : fX3_reckon_108 N K g0 p0 p1 (fX3_reckon_80 N K g0 p0 p1 fu) (Int32.ofNat last) (bi odd) (bi once) (Int32.ofNat j) g = some (rk odd once n (j + 1) (tk once j g)) := by
      unfold fX3_reckon_108 tk
      cases once
      · rw [if_pos bif0, if_neg (by decide), c_often hN h1 (by omega), Option.bind_some]
        exact h128 _
      · rw [if_neg bitn, if_pos rfl, c_once hN h1 (by omega), Option.bind_some]
        exact h128 _
    unfold fX3_reckon_80
    rw [if_neg (by rw [o_lt (by omega) (by omega)]; omega), if_neg (n_20 (by omega))]
    show (if bi odd = 0 then _ else _) = some (rk odd once n (j + 1) (if odd = true ∧ j % 2 = 0 then g else tk once j g))
    cases odd
    · rw [if_pos bif0, if_neg (fun z => absurd z.1 (by decide))]
      exact h108
    · rw [if_neg bitn]
      by_cases e : j % 2 = 0
      · rw [if_pos (by rw [o_par (by omega)]; exact e), if_pos ⟨rfl, e⟩]
        exact h128 g
      · rw [if_neg (by rw [o_par (by omega)]; exact e), if_neg (fun z => e z.2)]
        exact h108
theorem m_row_ {N K : Nat} {p0 p1 : Int32} {k74 : Int32 → Int32 → Int32 → Int32 → (Nat → Int32) → Option ((Nat → Int32))} {l3 l4 : Int32} {j : Nat} (h1 : 1 ≤ j) (h2 : j ≤ 20) : ∀ n fu (g : Nat → Int32), j + n ≤ 21 → n < fu → fX7_row_106 N K p0 p1 k74 fu l3 l4 (bi false) (Int32.ofNat j) (Int32.ofNat (21 - n)) g = fX7_row_153 N K p0 p1 k74 l3 l4 (bi false) (Int32.ofNat j) (ofn j n (21 - n) g) := by
  intro n
  induction n with
  | zero =>
    intro fu g hi hfu
    obtain ⟨fu, rfl⟩ : ∃ m, fu = m + 1 := ⟨fu - 1, by omega⟩
    unfold fX7_row_106
    rw [if_pos (by decide)]
    rfl
  | succ n ih =>
    intro fu g hi hfu
    obtain ⟨fu, rfl⟩ : ∃ m, fu = m + 1 := ⟨fu - 1, by omega⟩
    unfold fX7_row_106
    rw [if_neg (n_20 (by omega)), if_pos bif0]
    unfold fX7_row_131
    rw [if_neg (o_ob (by omega) (by omega)), o_sub (by omega), if_neg (o_ob (by omega) (by omega)), if_neg (o_ob (by omega) (by omega)), o_c (by omega), o_c (by omega), o_1, show 21 - (n + 1) + 1 = 21 - n from by omega, ih fu _ (by omega) (by omega)]
    show _ = fX7_row_153 N K p0 p1 k74 l3 l4 (bi false) (Int32.ofNat j) (ofn j n (21 - (n + 1) + 1) (upd g (21 - (n + 1)) (g (21 - (n + 1)) + g (21 - (n + 1) - j))))
    rw [show 21 - (n + 1) + 1 = 21 - n from by omega]
theorem m_row1_ {N K : Nat} {p0 p1 : Int32} {k74 : Int32 → Int32 → Int32 → Int32 → (Nat → Int32) → Option ((Nat → Int32))} {l3 l4 : Int32} {j : Nat} (h1 : 1 ≤ j) (h2 : j ≤ 20) : ∀ n fu (g : Nat → Int32), j + n ≤ 21 → n < fu → fX7_row_106 N K p0 p1 k74 fu l3 l4 (bi true) (Int32.ofNat j) (Int32.ofNat (21 - n)) g = fX7_row_153 N K p0 p1 k74 l3 l4 (bi true) (Int32.ofNat j) (onc j n g) := by
  intro n
  induction n with
  | zero =>
    intro fu g hi hfu
    obtain ⟨fu, rfl⟩ : ∃ m, fu = m + 1 := ⟨fu - 1, by omega⟩
    unfold fX7_row_106
    rw [if_pos (by decide)]
    rfl
  | succ n ih =>
    intro fu g hi hfu
    obtain ⟨fu, rfl⟩ : ∃ m, fu = m + 1 := ⟨fu - 1, by omega⟩
    unfold fX7_row_106
    rw [if_neg (n_20 (by omega)), if_neg bitn, show (20 : Int32) = Int32.ofNat 20 from rfl, o_add, o_sub (by omega), show 20 + j - (21 - (n + 1)) = j + n from by omega]
    unfold fX7_row_131
    rw [if_neg (o_ob (by omega) (by omega)), o_sub (by omega), if_neg (o_ob (by omega) (by omega)), if_neg (o_ob (by omega) (by omega)), o_c (by omega), o_c (by omega), o_1, show 21 - (n + 1) + 1 = 21 - n from by omega, show j + n - j = n from by omega, ih fu _ (by omega) (by omega)]
    rfl
theorem m_rk_ {N K : Nat} (hN : 100 ≤ N) {p0 p1 : Int32} {odd once : Bool} {last : Nat} (hl : last ≤ 40) : ∀ n j fu (g : Nat → Int32), j + n = lastn last + 1 → 1 ≤ j → n < fu → fX7_row_74 N K p0 p1 fu (Int32.ofNat last) (bi odd) (bi once) (Int32.ofNat j) g = some (rk odd once n j g) := by
  have hll : lastn last ≤ 20 ∧ lastn last ≤ last ∧ (lastn last = last ∨ lastn last = 20) := by
    unfold lastn
    by_cases e : last < 20
    · rw [if_pos e]; omega
    · rw [if_neg e]; omega
  intro n
  induction n with
  | zero =>
    intro j fu g hj h1 hfu
    obtain ⟨fu, rfl⟩ : ∃ m, fu = m + 1 := ⟨fu - 1, by omega⟩
    unfold fX7_row_74
    by_cases e : last < j
    · rw [if_pos (by rw [o_lt (by omega) (by omega)]; exact e)]
      rfl
    · rw [if_neg (by rw [o_lt (by omega) (by omega)]; exact e), if_pos (by rw [show (20 : Int32) = Int32.ofNat 20 from rfl, o_lt (by omega) (by omega)]; omega)]
      rfl
  | succ n ih =>
    intro j fu g hj h1 hfu
    obtain ⟨fu, rfl⟩ : ∃ m, fu = m + 1 := ⟨fu - 1, by omega⟩
    have h153 : ∀ g', fX7_row_153 N K p0 p1 (fX7_row_74 N K p0 p1 fu) (Int32.ofNat last) (bi odd) (bi once) (Int32.ofNat j) g' = some (rk odd once n (j + 1) g') := by
      intro g'
      unfold fX7_row_153
      rw [o_1]
      exact ih (j + 1) fu g' (by omega) (by omega) (by omega)
    have h102 : fX7_row_102 N K p0 p1 (fX7_row_74 N K p0 p1 fu) (Int32.ofNat last) (bi odd) (bi once) (Int32.ofNat j) g = some (rk odd once n (j + 1) (tk once j g)) := by
      unfold fX7_row_102 tk
      cases once
      · rw [if_neg (by decide)]
        have h := m_row_ (N := N) (K := K) (p0 := p0) (p1 := p1) (k74 := fX7_row_74 N K p0 p1 fu) (l3 := Int32.ofNat last) (l4 := bi odd) h1 (by omega) (21 - j) N g (by omega) (by omega)
        rw [show 21 - (21 - j) = j from by omega] at h
        exact h.trans (h153 _)
      · rw [if_pos rfl]
        have h := m_row1_ (N := N) (K := K) (p0 := p0) (p1 := p1) (k74 := fX7_row_74 N K p0 p1 fu) (l3 := Int32.ofNat last) (l4 := bi odd) h1 (by omega) (21 - j) N g (by omega) (by omega)
        rw [show 21 - (21 - j) = j from by omega] at h
        exact h.trans (h153 _)
    unfold fX7_row_74
    rw [if_neg (by rw [o_lt (by omega) (by omega)]; omega), if_neg (n_20 (by omega))]
    show (if bi odd = 0 then _ else _) = some (rk odd once n (j + 1) (if odd = true ∧ j % 2 = 0 then g else tk once j g))
    cases odd
    · rw [if_pos bif0, if_neg (fun z => absurd z.1 (by decide))]
      exact h102
    · rw [if_neg bitn]
      by_cases e : j % 2 = 0
      · rw [if_pos (by rw [o_par (by omega)]; exact e), if_pos ⟨rfl, e⟩]
        exact h153 g
      · rw [if_neg (by rw [o_par (by omega)]; exact e), if_neg (fun z => e z.2)]
        exact h102
/-- the series' row of a kind and a measure -/
def kOdd (k : Nat) : Bool := decide (k = 3 ∨ k = 4 ∨ k = 7)
def kOnce (k : Nat) : Bool := decide (k = 2 ∨ k = 4 ∨ k = 7)
def kLast (k m : Nat) : Nat := if k = 7 then 2 * m - 1 else m
def rowk (k m : Nat) : Nat → Int32 := rk (kOdd k) (kOnce k) (lastn (kLast k m)) 1 (upd (fun _ => 0) 0 1)
-- kind by kind
theorem c_reckon_ {N K : Nat} (hN : 100 ≤ N) {g0 g : Nat → Int32} {k m : Nat} (hk : k ≤ 7) (hm : m ≤ 20) : (if (Int32.ofNat k) = (7 : Int32) then fX3_reckon_30 N K g0 (Int32.ofNat k) (Int32.ofNat m) (((2 : Int32) * (Int32.ofNat m)) - (1 : Int32)) g else fX3_reckon_30 N K g0 (Int32.ofNat k) (Int32.ofNat m) (Int32.ofNat m) g) = some (rk (kOdd k) (kOnce k) (lastn (kLast k m)) 1 g) := by
  have hk8 : k = 0 ∨ k = 1 ∨ k = 2 ∨ k = 3 ∨ k = 4 ∨ k = 5 ∨ k = 6 ∨ k = 7 := by omega
  have hlm : lastn m ≤ 20 := by unfold lastn; by_cases e : m < 20; (rw [if_pos e]; omega); rw [if_neg e]; omega
  rcases hk8 with rfl | rfl | rfl | rfl | rfl | rfl | rfl | rfl
  · rw [if_neg (by decide)]
    unfold fX3_reckon_30
    rw [if_neg (by decide), if_neg (by decide), if_neg (by decide)]
    unfold fX3_reckon_52
    rw [if_neg (by decide), if_neg (by decide), if_neg (by decide)]
    unfold fX3_reckon_75
    exact c_rk_ hN (odd := false) (once := false) (last := m) (by omega) (lastn m) 1 N g (by omega) (Nat.le_refl _) (by omega)
  · rw [if_neg (by decide)]
    unfold fX3_reckon_30
    rw [if_neg (by decide), if_neg (by decide), if_neg (by decide)]
    unfold fX3_reckon_52
    rw [if_neg (by decide), if_neg (by decide), if_neg (by decide)]
    unfold fX3_reckon_75
    exact c_rk_ hN (odd := false) (once := false) (last := m) (by omega) (lastn m) 1 N g (by omega) (Nat.le_refl _) (by omega)
  · rw [if_neg (by decide)]
    unfold fX3_reckon_30
    rw [if_neg (by decide), if_neg (by decide), if_neg (by decide)]
    unfold fX3_reckon_52
    rw [if_pos (by decide)]
    unfold fX3_reckon_70
    unfold fX3_reckon_75
    exact c_rk_ hN (odd := false) (once := true) (last := m) (by omega) (lastn m) 1 N g (by omega) (Nat.le_refl _) (by omega)
  · rw [if_neg (by decide)]
    unfold fX3_reckon_30
    rw [if_pos (by decide)]
    unfold fX3_reckon_47
    unfold fX3_reckon_52
    rw [if_neg (by decide), if_neg (by decide), if_neg (by decide)]
    unfold fX3_reckon_75
    exact c_rk_ hN (odd := true) (once := false) (last := m) (by omega) (lastn m) 1 N g (by omega) (Nat.le_refl _) (by omega)
  · rw [if_neg (by decide)]
    unfold fX3_reckon_30
    rw [if_neg (by decide), if_pos (by decide)]
    unfold fX3_reckon_47
    unfold fX3_reckon_52
    rw [if_neg (by decide), if_pos (by decide)]
    unfold fX3_reckon_70
    unfold fX3_reckon_75
    exact c_rk_ hN (odd := true) (once := true) (last := m) (by omega) (lastn m) 1 N g (by omega) (Nat.le_refl _) (by omega)
  · rw [if_neg (by decide)]
    unfold fX3_reckon_30
    rw [if_neg (by decide), if_neg (by decide), if_neg (by decide)]
    unfold fX3_reckon_52
    rw [if_neg (by decide), if_neg (by decide), if_neg (by decide)]
    unfold fX3_reckon_75
    exact c_rk_ hN (odd := false) (once := false) (last := m) (by omega) (lastn m) 1 N g (by omega) (Nat.le_refl _) (by omega)
  · rw [if_neg (by decide)]
    unfold fX3_reckon_30
    rw [if_neg (by decide), if_neg (by decide), if_neg (by decide)]
    unfold fX3_reckon_52
    rw [if_neg (by decide), if_neg (by decide), if_neg (by decide)]
    unfold fX3_reckon_75
    exact c_rk_ hN (odd := false) (once := false) (last := m) (by omega) (lastn m) 1 N g (by omega) (Nat.le_refl _) (by omega)
  · rw [if_pos (by decide)]
    unfold fX3_reckon_30
    rw [if_neg (by decide), if_neg (by decide), if_pos (by decide)]
    unfold fX3_reckon_47
    unfold fX3_reckon_52
    rw [if_neg (by decide), if_neg (by decide), if_pos (by decide)]
    unfold fX3_reckon_70
    unfold fX3_reckon_75
    obtain ⟨M, rfl⟩ : ∃ M, N = M + 1 := ⟨N - 1, by omega⟩
    by_cases e : m = 0
    · subst e
      unfold fX3_reckon_80
      rw [if_pos (by decide)]
      rfl
    · rw [show (2 : Int32) = Int32.ofNat 2 from rfl, o_mul, show (1 : Int32) = Int32.ofNat 1 from rfl, o_sub (by omega)]
      have hl2 : lastn (2 * m - 1) ≤ 20 := by unfold lastn; by_cases e : 2 * m - 1 < 20; (rw [if_pos e]; omega); rw [if_neg e]; omega
      exact c_rk_ hN (odd := true) (once := true) (last := 2 * m - 1) (by omega) (lastn (2 * m - 1)) 1 (M + 1) g (by omega) (Nat.le_refl _) (by omega)
theorem m_rowk_ {N K : Nat} (hN : 100 ≤ N) {g : Nat → Int32} {k m : Nat} (hk : k ≤ 7) (hm : m ≤ 20) : (if (Int32.ofNat k) = (7 : Int32) then fX7_row_24 N K (Int32.ofNat k) (Int32.ofNat m) (((2 : Int32) * (Int32.ofNat m)) - (1 : Int32)) g else fX7_row_24 N K (Int32.ofNat k) (Int32.ofNat m) (Int32.ofNat m) g) = some (rk (kOdd k) (kOnce k) (lastn (kLast k m)) 1 g) := by
  have hk8 : k = 0 ∨ k = 1 ∨ k = 2 ∨ k = 3 ∨ k = 4 ∨ k = 5 ∨ k = 6 ∨ k = 7 := by omega
  have hlm : lastn m ≤ 20 := by unfold lastn; by_cases e : m < 20; (rw [if_pos e]; omega); rw [if_neg e]; omega
  rcases hk8 with rfl | rfl | rfl | rfl | rfl | rfl | rfl | rfl
  · rw [if_neg (by decide)]
    unfold fX7_row_24
    rw [if_neg (by decide), if_neg (by decide), if_neg (by decide)]
    unfold fX7_row_46
    rw [if_neg (by decide), if_neg (by decide), if_neg (by decide)]
    unfold fX7_row_69
    exact m_rk_ hN (odd := false) (once := false) (last := m) (by omega) (lastn m) 1 N g (by omega) (Nat.le_refl _) (by omega)
  · rw [if_neg (by decide)]
    unfold fX7_row_24
    rw [if_neg (by decide), if_neg (by decide), if_neg (by decide)]
    unfold fX7_row_46
    rw [if_neg (by decide), if_neg (by decide), if_neg (by decide)]
    unfold fX7_row_69
    exact m_rk_ hN (odd := false) (once := false) (last := m) (by omega) (lastn m) 1 N g (by omega) (Nat.le_refl _) (by omega)
  · rw [if_neg (by decide)]
    unfold fX7_row_24
    rw [if_neg (by decide), if_neg (by decide), if_neg (by decide)]
    unfold fX7_row_46
    rw [if_pos (by decide)]
    unfold fX7_row_64
    unfold fX7_row_69
    exact m_rk_ hN (odd := false) (once := true) (last := m) (by omega) (lastn m) 1 N g (by omega) (Nat.le_refl _) (by omega)
  · rw [if_neg (by decide)]
    unfold fX7_row_24
    rw [if_pos (by decide)]
    unfold fX7_row_41
    unfold fX7_row_46
    rw [if_neg (by decide), if_neg (by decide), if_neg (by decide)]
    unfold fX7_row_69
    exact m_rk_ hN (odd := true) (once := false) (last := m) (by omega) (lastn m) 1 N g (by omega) (Nat.le_refl _) (by omega)
  · rw [if_neg (by decide)]
    unfold fX7_row_24
    rw [if_neg (by decide), if_pos (by decide)]
    unfold fX7_row_41
    unfold fX7_row_46
    rw [if_neg (by decide), if_pos (by decide)]
    unfold fX7_row_64
    unfold fX7_row_69
    exact m_rk_ hN (odd := true) (once := true) (last := m) (by omega) (lastn m) 1 N g (by omega) (Nat.le_refl _) (by omega)
  · rw [if_neg (by decide)]
    unfold fX7_row_24
    rw [if_neg (by decide), if_neg (by decide), if_neg (by decide)]
    unfold fX7_row_46
    rw [if_neg (by decide), if_neg (by decide), if_neg (by decide)]
    unfold fX7_row_69
    exact m_rk_ hN (odd := false) (once := false) (last := m) (by omega) (lastn m) 1 N g (by omega) (Nat.le_refl _) (by omega)
  · rw [if_neg (by decide)]
    unfold fX7_row_24
    rw [if_neg (by decide), if_neg (by decide), if_neg (by decide)]
    unfold fX7_row_46
    rw [if_neg (by decide), if_neg (by decide), if_neg (by decide)]
    unfold fX7_row_69
    exact m_rk_ hN (odd := false) (once := false) (last := m) (by omega) (lastn m) 1 N g (by omega) (Nat.le_refl _) (by omega)
  · rw [if_pos (by decide)]
    unfold fX7_row_24
    rw [if_neg (by decide), if_neg (by decide), if_pos (by decide)]
    unfold fX7_row_41
    unfold fX7_row_46
    rw [if_neg (by decide), if_neg (by decide), if_pos (by decide)]
    unfold fX7_row_64
    unfold fX7_row_69
    obtain ⟨M, rfl⟩ : ∃ M, N = M + 1 := ⟨N - 1, by omega⟩
    by_cases e : m = 0
    · subst e
      unfold fX7_row_74
      rw [if_pos (by decide)]
      rfl
    · rw [show (2 : Int32) = Int32.ofNat 2 from rfl, o_mul, show (1 : Int32) = Int32.ofNat 1 from rfl, o_sub (by omega)]
      have hl2 : lastn (2 * m - 1) ≤ 20 := by unfold lastn; by_cases e : 2 * m - 1 < 20; (rw [if_pos e]; omega); rw [if_neg e]; omega
      exact m_rk_ hN (odd := true) (once := true) (last := 2 * m - 1) (by omega) (lastn (2 * m - 1)) 1 (M + 1) g (by omega) (Nat.le_refl _) (by omega)
theorem lastn_le (x : Nat) : lastn x ≤ 20 := by
  unfold lastn
  by_cases e : x < 20
  · rw [if_pos e]; omega
  · rw [if_neg e]; omega
theorem c_reckon {N K : Nat} (hN : 100 ≤ N) {g : Nat → Int32} {k m : Nat} (hk : k ≤ 7) (hm : m ≤ 20) : ∃ h, fX3_reckon N K g (Int32.ofNat k) (Int32.ofNat m) = some h ∧ E21 h (rowk k m) := by
  obtain ⟨x, h1, h2⟩ := c_fill (N := N) (K := K) (n := 21) (f := g) (v := (0 : Int32)) (by omega) (by omega)
  refine ⟨rk (kOdd k) (kOnce k) (lastn (kLast k m)) 1 (upd x 0 1), ?_, ?_⟩
  · unfold fX3_reckon
    rw [h1, Option.bind_some]
    exact c_reckon_ hN hk hm
  · refine E21.r _ _ _ _ (by have := lastn_le (kLast k m); omega) ?_
    refine E21.u (fun p hp => ?_)
    rw [h2 p, if_pos hp]
theorem m_rowk {N K : Nat} (hN : 100 ≤ N) {k m : Nat} (hk : k ≤ 7) (hm : m ≤ 20) : fX7_row N K (Int32.ofNat k) (Int32.ofNat m) = some (rowk k m) := by
  unfold fX7_row
  exact m_rowk_ hN hk hm
/-- where a row tells: often 0 ahead of it -/
def rat (r : Nat → Int32) (x : Int) : Int32 := if x < 0 then 0 else r x.toNat
theorem c_rat {N K : Nat} {h r : Nat → Int32} (e : E21 h r) {a b c l : Int32} (hl : l.toInt ≤ 20) : fX3_reckoned_32 N K h a b c l = some (rat r l.toInt) := by
  have q0 : (0 : Int32).toInt = 0 := by decide
  have q21 : (21 : Int32).toInt = 21 := by decide
  have ec : l.toNatClampNeg = l.toInt.toNat := rfl
  unfold fX3_reckoned_32 rat
  by_cases z : l.toInt < 0
  · rw [if_pos (by rw [Int32.lt_iff_toInt_lt]; omega), if_pos z]
  · rw [if_neg (by rw [Int32.lt_iff_toInt_lt]; omega), if_neg z, if_pos (by rw [Int32.lt_iff_toInt_lt]; omega), if_neg (noob (by omega) (by omega)), ec, e _ (by omega)]
theorem m_rat {N K : Nat} {r : Nat → Int32} {a b c l : Int32} (hl : l.toInt ≤ 20) : fX7_told_29 N K r a b c l = some (rat r l.toInt) := by
  have q0 : (0 : Int32).toInt = 0 := by decide
  have ec : l.toNatClampNeg = l.toInt.toNat := rfl
  unfold fX7_told_29 rat
  by_cases z : l.toInt < 0
  · rw [if_neg (by rw [Int32.le_iff_toInt_le]; omega), if_pos z]
  · rw [if_pos (by rw [Int32.le_iff_toInt_le]; omega), if_neg z, if_neg (noob (by omega) (by omega)), ec]
/-- the place of a case in its row -/
def spot (k n m : Nat) : Int := if k = 1 then (n : Int) - m else if k = 5 then (n : Int) - (m * (m + 1) / 2 : Nat) else n
def sworth (k n m : Nat) : Int32 := rat (rowk k m) (spot k n m)
theorem tri_le {m : Nat} (hm : m ≤ 20) : m * (m + 1) / 2 ≤ 210 := by
  have a := Nat.mul_le_mul hm (show m + 1 ≤ 21 by omega)
  omega
theorem o_tri {m : Nat} (hm : m ≤ 20) : (Int32.ofNat m * (Int32.ofNat m + (1 : Int32))) / (2 : Int32) = Int32.ofNat (m * (m + 1) / 2) := by
  have a := Nat.mul_le_mul hm (show m + 1 ≤ 21 by omega)
  rw [o_1, o_mul, show (2 : Int32) = Int32.ofNat 2 from rfl, o_div (by omega) (by omega)]
theorem o_subi {n x : Nat} (hn : n ≤ 20) (hx : x ≤ 1000) : (Int32.ofNat n - Int32.ofNat x).toInt = (n : Int) - x := by
  have e1 := o_i (a := n) (by omega)
  have e2 := o_i (a := x) (by omega)
  have e := subI (a := Int32.ofNat n) (b := Int32.ofNat x) (by omega) (by omega)
  omega
theorem c_tells {N K : Nat} (hN : 100 ≤ N) {g : Nat → Int32} {k n m : Nat} (hk : k ≤ 7) (hn : n ≤ 20) (hm : m ≤ 20) : ∃ h, fX3_tells N K g (Int32.ofNat k) (Int32.ofNat n) (Int32.ofNat m) = some (sworth k n m, h) := by
  obtain ⟨h, h1, h2⟩ := c_reckon (N := N) (K := K) hN (g := g) hk hm
  have ht := tri_le hm
  refine ⟨h, ?_⟩
  unfold fX3_tells
  rw [h1, Option.bind_some]
  have e : fX3_reckoned N K h (Int32.ofNat k) (Int32.ofNat n) (Int32.ofNat m) = some (sworth k n m) := by
    unfold fX3_reckoned sworth spot
    by_cases c1 : k = 1
    · subst c1
      have e2 := o_subi hn (show m ≤ 1000 by omega)
      rw [if_pos (by decide), if_pos rfl, c_rat h2 (by omega), e2]
    · rw [if_neg (by rw [show (1 : Int32) = Int32.ofNat 1 from rfl, o_eq (by omega) (by omega)]; exact c1), if_neg c1]
      by_cases c5 : k = 5
      · subst c5
        have e2 := o_subi hn (show m * (m + 1) / 2 ≤ 1000 by omega)
        rw [if_pos (by decide), if_pos rfl, o_tri hm, c_rat h2 (by omega), e2]
      · rw [if_neg (by rw [show (5 : Int32) = Int32.ofNat 5 from rfl, o_eq (by omega) (by omega)]; exact c5), if_neg c5, c_rat h2 (by rw [o_i (by omega)]; omega), o_i (by omega)]
  rw [e, Option.bind_some]
theorem m_series {N K : Nat} (hN : 100 ≤ N) {k n m : Nat} (hk : k ≤ 7) (hn : n ≤ 20) (hm : m ≤ 20) : fX7_series N K (Int32.ofNat k) (Int32.ofNat n) (Int32.ofNat m) = some (sworth k n m) := by
  have ht := tri_le hm
  unfold fX7_series
  rw [m_rowk hN hk hm, Option.bind_some]
  have e : fX7_told N K (rowk k m) (Int32.ofNat k) (Int32.ofNat n) (Int32.ofNat m) = some (sworth k n m) := by
    unfold fX7_told sworth spot
    by_cases c1 : k = 1
    · subst c1
      have e2 := o_subi hn (show m ≤ 1000 by omega)
      rw [if_pos (by decide), if_pos rfl, m_rat (by omega), e2]
    · rw [if_neg (by rw [show (1 : Int32) = Int32.ofNat 1 from rfl, o_eq (by omega) (by omega)]; exact c1), if_neg c1]
      by_cases c5 : k = 5
      · subst c5
        have e2 := o_subi hn (show m * (m + 1) / 2 ≤ 1000 by omega)
        rw [if_pos (by decide), if_pos rfl, o_tri hm, m_rat (by omega), e2]
      · rw [if_neg (by rw [show (5 : Int32) = Int32.ofNat 5 from rfl, o_eq (by omega) (by omega)]; exact c5), if_neg c5, m_rat (by rw [o_i (by omega)]; omega), o_i (by omega)]
  rw [e, Option.bind_some]
theorem ty_product {N K : Nat} {th : Int32} {g : Nat → Int32} {p0 p1 p2 : Int32} (hN : NBig N) (hK : 100 ≤ K) : ∃ o y, fX5_product N K g p0 p1 p2 = some o ∧ fX7_product N K th p0 p1 p2 = some y ∧ Tj o y.2 (fun z => z.1 = y.1) := by
  have hN9 := hN.u
  have hN1 : 100 ≤ N := by omega
  by_cases h : Rg p0 0 7 ∧ Rg p1 0 20 ∧ Rg p2 0 20
  · obtain ⟨h0, h1, h2⟩ := h
    have a1 := k_any1 (N := N) (K := K) h0 h1 h2
    have b0 := m_in (N := N) (K := K) h0
    have b1 := m_in (N := N) (K := K) h1
    have b2 := m_in (N := N) (K := K) h2
    obtain ⟨k, rfl, -, k2⟩ := Rg.n (a := 0) (b := 7) h0 (by omega) (by omega)
    obtain ⟨n, rfl, -, n2⟩ := Rg.n (a := 0) (b := 20) h1 (by omega) (by omega)
    obtain ⟨m, rfl, -, m2⟩ := Rg.n (a := 0) (b := 20) h2 (by omega) (by omega)
    obtain ⟨g', e1⟩ := c_tells (N := N) (K := K) hN1 (g := g) k2 n2 m2
    refine ⟨.inl (sworth k n m, g'), (sworth k n m, 0), ?_, ?_, rfl, rfl⟩
    · unfold fX5_product
      rw [a1, xb_l, e1, Option.bind_some]
    · unfold fX7_product
      rw [b0, Option.bind_some, if_pos rfl, b1, Option.bind_some, if_pos rfl, b2, Option.bind_some, if_pos rfl]
      unfold fX7_product_36
      rw [m_th00, Option.bind_some, if_pos rfl, m_series hN1 k2 n2 m2, Option.bind_some]
  · refine ⟨.inr "java/lang/IllegalArgumentException", (0, 1), ?_, ?_, rfl, rfl⟩
    · unfold fX5_product
      rw [k_any0 h, xb_r]
    · have last : fX7_product_31 N K th p0 p1 p2 th = some (0, 1) := by
        unfold fX7_product_31 fX7_product_36
        rw [m_th1, Option.bind_some, if_neg (by decide)]
      unfold fX7_product
      by_cases h0 : Rg p0 0 7
      · rw [m_in h0, Option.bind_some, if_pos rfl]
        by_cases h1 : Rg p1 0 20
        · have h2 : ¬ Rg p2 0 20 := fun z => h ⟨h0, h1, z⟩
          rw [m_in h1, Option.bind_some, if_pos rfl, m_out h2, Option.bind_some, if_neg (by decide), last]
        · rw [m_out h1, Option.bind_some, if_neg (by decide), last]
      · rw [m_out h0, Option.bind_some, if_neg (by decide), last]
