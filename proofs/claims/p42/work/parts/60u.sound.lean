/-! ===== whether a memory is sound, on both sides ===== -/
theorem c_reckoned {N K k n m : Nat} {h : Nat → Int32} (e : E21 h (rowk k m)) (hk : k ≤ 7) (hn : n ≤ 20) (hm : m ≤ 20) : fX3_reckoned N K h (Int32.ofNat k) (Int32.ofNat n) (Int32.ofNat m) = some (sworth k n m) := by
  have ht := tri_le hm
  unfold fX3_reckoned sworth spot
  by_cases c1 : k = 1
  · subst c1
    have e2 := o_subi hn (show m ≤ 1000 by omega)
    rw [if_pos (by decide), if_pos rfl, c_rat e (by omega), e2]
  · rw [if_neg (by rw [show (1 : Int32) = Int32.ofNat 1 from rfl, o_eq (by omega) (by omega)]; exact c1), if_neg c1]
    by_cases c5 : k = 5
    · subst c5
      have e2 := o_subi hn (show m * (m + 1) / 2 ≤ 1000 by omega)
      rw [if_pos (by decide), if_pos rfl, o_tri hm, c_rat e (by omega), e2]
    · rw [if_neg (by rw [show (5 : Int32) = Int32.ofNat 5 from rfl, o_eq (by omega) (by omega)]; exact c5), if_neg c5, c_rat e (by rw [o_i (by omega)]; omega), o_i (by omega)]
theorem m_toldr {N K k n m : Nat} (hk : k ≤ 7) (hn : n ≤ 20) (hm : m ≤ 20) : fX7_told N K (rowk k m) (Int32.ofNat k) (Int32.ofNat n) (Int32.ofNat m) = some (sworth k n m) := by
  have ht := tri_le hm
  unfold fX7_told sworth spot
  by_cases c1 : k = 1
  · subst c1
    have e2 := o_subi hn (show m ≤ 1000 by omega)
    rw [if_pos (by decide), if_pos rfl, m_rat (by omega), e2]
  · rw [if_neg (by rw [show (1 : Int32) = Int32.ofNat 1 from rfl, o_eq (by omega) (by omega)]; exact c1), if_neg c1]
    by_cases c5 : k = 5
    · subst c5
      have e2 := o_subi hn (show m * (m + 1) / 2 ≤ 1000 by omega)
      rw [if_pos (by decide), if_pos rfl, o_tri hm, m_rat (by omega), e2]
    · rw [if_neg (by rw [show (5 : Int32) = Int32.ofNat 5 from rfl, o_eq (by omega) (by omega)]; exact c5), if_neg c5, m_rat (by rw [o_i (by omega)]; omega), o_i (by omega)]
/-- what is kept of a case has the series' worth -/
def Agc (f : Nat → Int32) (k n m : Nat) : Prop := ¬ f (sl k n m) = -1 → f (sl k n m) = sworth k n m
theorem c_agr {N K k m : Nat} {sz : Int32} {f h : Nat → Int32} (e : E21 h (rowk k m)) (hk : k < 6) (hm : m ≤ 20) : ∀ j i fu, i + j = 21 → j < fu → ∃ b : Bool, fX2_agreesWithRow_3 N K sz f h (Int32.ofNat k) (Int32.ofNat m) fu (Int32.ofNat i) = some (bi b) ∧ (b = true ↔ ∀ n, i ≤ n → n ≤ 20 → Agc f k n m) := by
  intro j
  induction j with
  | zero =>
    intro i fu hi hfu
    obtain ⟨fu, rfl⟩ : ∃ z, fu = z + 1 := ⟨fu - 1, by omega⟩
    obtain rfl : i = 21 := by omega
    refine ⟨true, ?_, fun _ n a b => by omega, fun _ => rfl⟩
    unfold fX2_agreesWithRow_3
    rw [if_pos (by decide)]
    rfl
  | succ j ih =>
    intro i fu hi hfu
    obtain ⟨fu, rfl⟩ : ∃ z, fu = z + 1 := ⟨fu - 1, by omega⟩
    obtain ⟨b, e1, e2⟩ := ih (i + 1) fu (by omega) (by omega)
    have go : Agc f k i m → (b = true ↔ ∀ n, i ≤ n → n ≤ 20 → Agc f k n m) := fun h0 => e2.trans ⟨fun z n n1 n2 => by
      by_cases y : n = i
      · rw [y]; exact h0
      · exact z n (by omega) n2, fun z n n1 n2 => z n (by omega) n2⟩
    unfold fX2_agreesWithRow_3
    rw [if_neg (n_20 (by omega)), c_keeps hk (by omega) hm, Option.bind_some]
    unfold fX2_agreesWithRow_42
    rw [o_1]
    by_cases c : f (sl k i m) = -1
    · rw [if_pos c, if_pos rfl]
      exact ⟨b, e1, go (fun z => absurd c z)⟩
    · rw [if_neg c, if_neg (show ¬ ((1 : Int32) = 0) from by decide), c_kw hk (by omega) hm, Option.bind_some, c_reckoned e (by omega) (by omega) hm, Option.bind_some]
      by_cases d : f (sl k i m) = sworth k i m
      · rw [if_pos d]
        exact ⟨b, e1, go (fun _ => d)⟩
      · rw [if_neg d]
        refine ⟨false, rfl, fun z => absurd z (by decide), fun z => absurd (z i (Nat.le_refl _) (by omega) c) d⟩
theorem c_ag10 {N K k : Nat} (hN : 100 ≤ N) {sz : Int32} {f g0 : Nat → Int32} (hk : k < 6) {P : Prop} {k2 : Int32 → (Nat → Int32) → Option (Int32 × (Nat → Int32))} (h2 : ∀ g, ∃ (b : Bool) (g' : Nat → Int32), k2 (Int32.ofNat (k + 1)) g = some (bi b, g') ∧ (b = true ↔ P)) : ∀ j i fu (g : Nat → Int32), i + j = 21 → j < fu → ∃ (b : Bool) (g' : Nat → Int32), fX2_agreesWith_10 N K sz f g0 k2 fu (Int32.ofNat k) (Int32.ofNat i) g = some (bi b, g') ∧ (b = true ↔ (∀ m, i ≤ m → m ≤ 20 → ∀ n, n ≤ 20 → Agc f k n m) ∧ P) := by
  intro j
  induction j with
  | zero =>
    intro i fu g hi hfu
    obtain ⟨fu, rfl⟩ : ∃ z, fu = z + 1 := ⟨fu - 1, by omega⟩
    obtain rfl : i = 21 := by omega
    obtain ⟨b, g', e1, e2⟩ := h2 g
    refine ⟨b, g', ?_, e2.trans ⟨fun z => ⟨fun m a b => by omega, z⟩, fun z => z.2⟩⟩
    unfold fX2_agreesWith_10
    rw [if_pos (by decide), o_1]
    exact e1
  | succ j ih =>
    intro i fu g hi hfu
    obtain ⟨fu, rfl⟩ : ∃ z, fu = z + 1 := ⟨fu - 1, by omega⟩
    obtain ⟨h, r1, r2⟩ := c_reckon (N := N) (K := K) hN (g := g) (show k ≤ 7 by omega) (show i ≤ 20 by omega)
    obtain ⟨b0, a1, a2⟩ := c_agr (N := N) (K := K) (sz := sz) (f := f) r2 hk (show i ≤ 20 by omega) 21 0 N (by omega) (by omega)
    have a1' : fX2_agreesWithRow N K sz f h (Int32.ofNat k) (Int32.ofNat i) = some (bi b0) := a1
    unfold fX2_agreesWith_10
    rw [if_neg (n_20 (by omega)), r1, Option.bind_some, a1', Option.bind_some]
    cases b0 with
    | false =>
      rw [if_pos bif0]
      refine ⟨false, h, rfl, fun z => absurd z (by decide), fun z => absurd (a2.mpr (fun n _ n2 => z.1 i (Nat.le_refl _) (by omega) n n2)) (by decide)⟩
    | true =>
      rw [if_neg bitn, o_1]
      obtain ⟨b, g', e1, e2⟩ := ih (i + 1) fu h (by omega) (by omega)
      have h0 := a2.mp rfl
      exact ⟨b, g', e1, e2.trans ⟨fun z => ⟨fun m m1 m2 n n2 => by
        by_cases y : m = i
        · rw [y]; exact h0 n (Nat.zero_le _) n2
        · exact z.1 m (by omega) m2 n n2, z.2⟩, fun z => ⟨fun m m1 m2 => z.1 m (by omega) m2, z.2⟩⟩⟩
theorem c_ag2 {N K : Nat} (hN : 100 ≤ N) {sz : Int32} {f g0 : Nat → Int32} : ∀ j k fu (g : Nat → Int32), k + j = 6 → j < fu → ∃ (b : Bool) (g' : Nat → Int32), fX2_agreesWith_2 N K sz f g0 fu (Int32.ofNat k) g = some (bi b, g') ∧ (b = true ↔ ∀ q, k ≤ q → q < 6 → ∀ m, m ≤ 20 → ∀ n, n ≤ 20 → Agc f q n m) := by
  intro j
  induction j with
  | zero =>
    intro k fu g hi hfu
    obtain ⟨fu, rfl⟩ : ∃ z, fu = z + 1 := ⟨fu - 1, by omega⟩
    obtain rfl : k = 6 := by omega
    refine ⟨true, g, ?_, fun _ q a b => by omega, fun _ => rfl⟩
    unfold fX2_agreesWith_2
    rw [if_pos (by decide)]
    rfl
  | succ j ih =>
    intro k fu g hi hfu
    obtain ⟨fu, rfl⟩ : ∃ z, fu = z + 1 := ⟨fu - 1, by omega⟩
    have h2 := fun g => ih (k + 1) fu g (by omega) (by omega)
    obtain ⟨b, g', e1, e2⟩ := c_ag10 (N := N) (K := K) hN (sz := sz) (f := f) (g0 := g0) (show k < 6 by omega) h2 21 0 N g (by omega) (by omega)
    refine ⟨b, g', ?_, e2.trans ⟨fun z q q1 q2 m m2 n n2 => ?_, fun z => ⟨fun m _ m2 n n2 => z k (Nat.le_refl _) (by omega) m m2 n n2, fun q q1 q2 => z q (by omega) q2⟩⟩⟩
    · unfold fX2_agreesWith_2
      rw [if_neg (by rw [show (6 : Int32) = Int32.ofNat 6 from rfl, o_le (by omega) (by omega)]; omega)]
      exact e1
    · by_cases y : q = k
      · rw [y]; exact z.1 m (Nat.zero_le _) m2 n n2
      · exact z.2 q (by omega) q2 m m2 n n2
theorem c_well_ {N K : Nat} {sz : Int32} {f : Nat → Int32} (hf : OKF f) (hs : sz = Int32.ofNat (cnt f)) : ∀ j i fu, i + j = 2646 → j < fu → fX2_isWellCounted_4 N K sz f fu (Int32.ofNat (cntn f i)) (Int32.ofNat i) = some 1 := by
  intro j
  induction j with
  | zero =>
    intro i fu hi hfu
    obtain ⟨fu, rfl⟩ : ∃ z, fu = z + 1 := ⟨fu - 1, by omega⟩
    obtain rfl : i = 2646 := by omega
    unfold fX2_isWellCounted_4
    rw [if_pos (by decide), if_pos (show Int32.ofNat (cntn f 2646) = sz from hs.symm)]
  | succ j ih =>
    intro i fu hi hfu
    obtain ⟨fu, rfl⟩ : ∃ z, fu = z + 1 := ⟨fu - 1, by omega⟩
    have e := ih (i + 1) fu (by omega) (by omega)
    have es : cntn f (i + 1) = cntn f i + (if f i = -1 then 0 else 1) := rfl
    rw [es] at e
    unfold fX2_isWellCounted_4
    rw [if_neg (by rw [show (2646 : Int32) = Int32.ofNat 2646 from rfl, o_le (by omega) (by omega)]; omega), if_neg (o_ob (by omega) (by omega)), o_c (by omega)]
    unfold fX2_isWellCounted_40
    rw [o_1]
    by_cases c : f i = -1
    · rw [if_pos c]
      rw [if_pos c, Nat.add_zero] at e
      exact e
    · rw [if_neg c]
      rw [if_neg c] at e
      obtain ⟨k, n, m, hk, hn, hm, rfl⟩ := sl_of (show i < 2646 by omega)
      have hcell : f (sl k n m) = -1 ∨ (1 ≤ n ∧ 1 ≤ m ∧ 0 ≤ (f (sl k n m)).toInt ∧ (f (sl k n m)).toInt ≤ (tb n m : Int)) := hf k hk n m hn hm
      have hnm : 1 ≤ n ∧ 1 ≤ m := by
        rcases hcell with z | z
        · exact absurd z c
        · exact ⟨z.1, z.2.1⟩
      unfold fX2_numberOf fX2_measureOf
      rw [show (21 : Int32) = Int32.ofNat 21 from rfl, o_div (by omega) (by omega), o_mod (by omega) (by omega), o_mod (by omega) (by omega), sl_n hn hm, sl_m hn hm, Option.bind_some, Option.bind_some, c_rests hm, Option.bind_some, o_i (by omega), Bool.eq_false_iff.mpr (rs_n (x := (n : Int)) (by omega) hnm.2), if_pos bif0, o_1]
      exact e
theorem c_well {N K : Nat} (hN : NBig N) {sz : Int32} {f : Nat → Int32} (hf : OKF f) (hs : sz = Int32.ofNat (cnt f)) : fX2_isWellCounted N K sz f = some 1 := by
  have hN9 := hN.u
  exact c_well_ hf hs 2646 0 N rfl (by omega)
/-! the reference's count, kind by kind, measure by measure -/
def ik (f : Nat → Int32) (k n m : Nat) : Nat := if f (sl k n m) = -1 then 0 else 1
def Bk (f : Nat → Int32) (k : Nat) : Nat := sm (fun m => sm (fun n => ik f k n m) 20) 20
def sB (f : Nat → Int32) : Nat → Nat
  | 0 => 0
  | k + 1 => sB f k + Bk f k
theorem sm_zero : ∀ n, sm (fun _ => 0) n = 0 := by
  intro n
  induction n with
  | zero => rfl
  | succ n ih => show sm (fun _ => 0) n + 0 = 0; rw [ih]
theorem sm_add2 {g h : Nat → Nat} : ∀ n, sm (fun p => g p + h p) n = sm g n + sm h n := by
  intro n
  induction n with
  | zero => rfl
  | succ n ih =>
    show sm (fun p => g p + h p) n + (g (n + 1) + h (n + 1)) = sm g n + g (n + 1) + (sm h n + h (n + 1))
    omega
theorem sm_swap {F : Nat → Nat → Nat} {a : Nat} : ∀ b, sm (fun m => sm (fun n => F n m) a) b = sm (fun n => sm (fun m => F n m) b) a := by
  intro b
  induction b with
  | zero => exact (sm_zero a).symm
  | succ b ih =>
    show sm (fun m => sm (fun n => F n m) a) b + sm (fun n => F n (b + 1)) a = sm (fun n => sm (fun m => F n m) b + F n (b + 1)) a
    rw [ih, sm_add2]
theorem cnt_row {f : Nat → Int32} {a : Nat} (h0 : f a = -1) : ∀ j, cntn f (a + (j + 1)) = cntn f a + sm (fun m => if f (a + m) = -1 then 0 else 1) j := by
  intro j
  induction j with
  | zero =>
    show cntn f a + (if f a = -1 then 0 else 1) = cntn f a + 0
    rw [if_pos h0]
  | succ j ih =>
    show cntn f (a + (j + 1)) + (if f (a + (j + 1)) = -1 then 0 else 1) = cntn f a + (sm (fun m => if f (a + m) = -1 then 0 else 1) j + (if f (a + (j + 1)) = -1 then 0 else 1))
    rw [ih]
    omega
theorem cnt_rows {f : Nat → Int32} (hf : OKF f) {k : Nat} (hk : k < 6) : ∀ n, n ≤ 20 → cntn f ((k * 21 + (n + 1)) * 21) = cntn f (k * 441) + sm (fun p => sm (fun m => ik f k p m) 20) n := by
  have z0 : ∀ n m, n ≤ 20 → m ≤ 20 → (n = 0 ∨ m = 0) → f (sl k n m) = -1 := by
    intro n m hn hm h
    rcases hf k hk n m hn hm with z | z
    · exact z
    · omega
  have row : ∀ n, n ≤ 20 → cntn f ((k * 21 + (n + 1)) * 21) = cntn f ((k * 21 + n) * 21) + sm (fun m => ik f k n m) 20 := by
    intro n hn
    have q := cnt_row (f := f) (a := (k * 21 + n) * 21) (by have := z0 n 0 hn (by omega) (Or.inr rfl); unfold sl at this; exact this) 20
    rw [show (k * 21 + (n + 1)) * 21 = (k * 21 + n) * 21 + (20 + 1) from by omega, q]
    rfl
  intro n
  induction n with
  | zero =>
    intro _
    rw [row 0 (by omega), show (k * 21 + 0) * 21 = k * 441 from by omega]
    have e : sm (fun m => ik f k 0 m) 20 = sm (fun _ => 0) 20 := sm_congr (fun m m1 m2 => by
      show (if f (sl k 0 m) = -1 then 0 else 1) = 0
      rw [if_pos (z0 0 m (by omega) m2 (Or.inl rfl))])
    rw [e, sm_zero]
    rfl
  | succ n ih =>
    intro h
    rw [row (n + 1) h, ih (by omega)]
    show _ = cntn f (k * 441) + (sm (fun p => sm (fun m => ik f k p m) 20) n + sm (fun m => ik f k (n + 1) m) 20)
    omega
theorem cnt_sB {f : Nat → Int32} (hf : OKF f) : ∀ k, k ≤ 6 → cntn f (k * 441) = sB f k := by
  intro k
  induction k with
  | zero => intro _; rfl
  | succ k ih =>
    intro h
    have q := cnt_rows hf (show k < 6 by omega) 20 (by omega)
    rw [show (k + 1) * 441 = (k * 21 + (20 + 1)) * 21 from by omega, q, ih (by omega)]
    show sB f k + _ = sB f k + Bk f k
    unfold Bk
    rw [sm_swap (F := fun n m => ik f k n m)]
section SD
variable {N K k m : Nat} {th0 th p0 sz : Int32} {f g g0 t0 : Nat → Int32}
theorem m_s78 (hk : k < 6) (hm1 : 1 ≤ m) (hm : m ≤ 20) (hp0 : Rg p0 0 2) (h : MT sz f g) {k49 : Int32 → Int32 → Int32 → Int32 → Option (Int32 × Int32)} {k59 : Int32 → Int32 → Int32 → Int32 → Int32 → Option (Int32 × Int32)} : ∀ j i fu (b : Bool) c, i + j = 20 → j < fu → ∃ b' : Bool, fX7_isSound_78 N K th0 g t0 p0 k49 k59 fu (bi b) (Int32.ofNat (c + sm (fun n => ik f k n m) i)) (Int32.ofNat k) (Int32.ofNat m) (Int32.ofNat (i + 1)) th (rowk k m) = k59 (bi b') (Int32.ofNat (c + sm (fun n => ik f k n m) 20)) (Int32.ofNat k) (Int32.ofNat (m + 1)) th ∧ (b' = true ↔ b = true ∧ ∀ n, i + 1 ≤ n → n ≤ 20 → Agc f k n m) := by
  intro j
  induction j with
  | zero =>
    intro i fu b c hi hfu
    obtain ⟨fu, rfl⟩ : ∃ z, fu = z + 1 := ⟨fu - 1, by omega⟩
    obtain rfl : i = 20 := by omega
    refine ⟨b, ?_, fun z => ⟨z, fun n a b => by omega⟩, fun z => z.1⟩
    unfold fX7_isSound_78
    rw [if_pos (by decide), o_1]
  | succ j ih =>
    intro i fu b c hi hfu
    obtain ⟨fu, rfl⟩ : ∃ z, fu = z + 1 := ⟨fu - 1, by omega⟩
    have hgf := h.2.2.1 k (i + 1) m hk (by omega) hm
    have es : sm (fun n => ik f k n m) (i + 1) = sm (fun n => ik f k n m) i + ik f k (i + 1) m := rfl
    have go : ∀ b2 : Bool, (b2 = true ↔ b = true ∧ Agc f k (i + 1) m) → ∀ b' : Bool, (b' = true ↔ b2 = true ∧ ∀ n, i + 1 + 1 ≤ n → n ≤ 20 → Agc f k n m) → (b' = true ↔ b = true ∧ ∀ n, i + 1 ≤ n → n ≤ 20 → Agc f k n m) := by
      intro b2 h2 b' h'
      rw [h', h2]
      constructor
      · rintro ⟨⟨x, y⟩, z⟩
        refine ⟨x, fun n n1 n2 => ?_⟩
        by_cases e : n = i + 1
        · rw [e]; exact y
        · exact z n (by omega) n2
      · rintro ⟨x, z⟩
        exact ⟨⟨x, z (i + 1) (Nat.le_refl _) (by omega)⟩, fun n n1 n2 => z n (by omega) n2⟩
    unfold fX7_isSound_78
    rw [if_neg (n_20 (by omega)), m_kept hk (by omega) hm hp0, Option.bind_some, hgf]
    rcases h.nn hk (show i + 1 ≤ 20 by omega) hm with e | e
    · obtain ⟨b', e1, e2⟩ := ih (i + 1) fu b c (by omega) (by omega)
      rw [es, show ik f k (i + 1) m = 0 from if_pos e, Nat.add_zero] at e1
      refine ⟨b', ?_, go b ⟨fun z => ⟨z, fun y => absurd e y⟩, fun z => z.1⟩ b' e2⟩
      rw [e, if_pos (by decide)]
      unfold fX7_isSound_109
      rw [m_b0, Option.bind_some, if_pos (by decide)]
      unfold fX7_isSound_136 fX7_isSound_141
      rw [bi_and1, o_1, Int32.add_zero]
      exact e1
    · have ne := m1_n e
      rw [if_neg (by rw [lt0]; omega)]
      unfold fX7_isSound_109
      rw [m_b1, Option.bind_some, if_neg (by rw [lt0]; omega), m_toldr (by omega) (by omega) hm, Option.bind_some]
      by_cases d : f (sl k (i + 1) m) = sworth k (i + 1) m
      · obtain ⟨b', e1, e2⟩ := ih (i + 1) fu b c (by omega) (by omega)
        rw [es, show ik f k (i + 1) m = 1 from if_neg ne, ← Nat.add_assoc] at e1
        refine ⟨b', ?_, go b ⟨fun z => ⟨z, fun _ => d⟩, fun z => z.1⟩ b' e2⟩
        rw [if_pos d]
        unfold fX7_isSound_136 fX7_isSound_141
        rw [bi_and1, o_1, o_1]
        exact e1
      · obtain ⟨b', e1, e2⟩ := ih (i + 1) fu false c (by omega) (by omega)
        rw [es, show ik f k (i + 1) m = 1 from if_neg ne, ← Nat.add_assoc] at e1
        refine ⟨b', ?_, go false ⟨fun z => absurd z (by decide), fun z => absurd (z.2 ne) d⟩ b' e2⟩
        rw [if_neg d]
        unfold fX7_isSound_141
        rw [bi_and0, o_1, o_1]
        exact e1
theorem m_s59 (hN : 100 ≤ N) (hk : k < 6) (hp0 : Rg p0 0 2) (h : MT sz f g) {k49 : Int32 → Int32 → Int32 → Int32 → Option (Int32 × Int32)} : ∀ j i fu (b : Bool) c, i + j = 20 → j < fu → ∃ b' : Bool, fX7_isSound_59 N K th0 g t0 p0 k49 fu (bi b) (Int32.ofNat (c + sm (fun m => sm (fun n => ik f k n m) 20) i)) (Int32.ofNat k) (Int32.ofNat (i + 1)) th = k49 (bi b') (Int32.ofNat (c + Bk f k)) (Int32.ofNat (k + 1)) th ∧ (b' = true ↔ b = true ∧ ∀ m, i + 1 ≤ m → m ≤ 20 → ∀ n, 1 ≤ n → n ≤ 20 → Agc f k n m) := by
  intro j
  induction j with
  | zero =>
    intro i fu b c hi hfu
    obtain ⟨fu, rfl⟩ : ∃ z, fu = z + 1 := ⟨fu - 1, by omega⟩
    obtain rfl : i = 20 := by omega
    refine ⟨b, ?_, fun z => ⟨z, fun n a b => by omega⟩, fun z => z.1⟩
    unfold fX7_isSound_59
    rw [if_pos (by decide), o_1]
    rfl
  | succ j ih =>
    intro i fu b c hi hfu
    obtain ⟨fu, rfl⟩ : ∃ z, fu = z + 1 := ⟨fu - 1, by omega⟩
    have es : sm (fun m => sm (fun n => ik f k n m) 20) (i + 1) = sm (fun m => sm (fun n => ik f k n m) 20) i + sm (fun n => ik f k n (i + 1)) 20 := rfl
    obtain ⟨b2, a1, a2⟩ := m_s78 (N := N) (K := K) (th0 := th0) (th := th) (t0 := t0) hk (show 1 ≤ i + 1 by omega) (show i + 1 ≤ 20 by omega) hp0 h (k49 := k49) (k59 := fX7_isSound_59 N K th0 g t0 p0 k49 fu) 20 0 N b (c + sm (fun m => sm (fun n => ik f k n m) 20) i) rfl (by omega)
    obtain ⟨b', e1, e2⟩ := ih (i + 1) fu b2 c (by omega) (by omega)
    rw [es, ← Nat.add_assoc] at e1
    refine ⟨b', ?_, ?_⟩
    · unfold fX7_isSound_59
      rw [if_neg (n_20 (by omega)), m_rowk hN (by omega) (by omega), Option.bind_some]
      exact a1.trans e1
    · rw [e2, a2]
      constructor
      · rintro ⟨⟨x, y⟩, z⟩
        refine ⟨x, fun m m1 m2 n n1 n2 => ?_⟩
        by_cases e : m = i + 1
        · rw [e]; exact y n n1 n2
        · exact z m (by omega) m2 n n1 n2
      · rintro ⟨x, z⟩
        exact ⟨⟨x, fun n n1 n2 => z (i + 1) (Nat.le_refl _) (by omega) n n1 n2⟩, fun m m1 m2 => z m (by omega) m2⟩
theorem m_s49 (hN : NBig N) (hp0 : Rg p0 0 2) (h : MT sz f g) : ∀ j k fu (b : Bool), k + j = 6 → j < fu → ∃ b' : Bool, fX7_isSound_49 N K th0 g t0 p0 fu (bi b) (Int32.ofNat (sB f k)) (Int32.ofNat k) th = some (bi b', th) ∧ (b' = true ↔ b = true ∧ ∀ q, k ≤ q → q < 6 → ∀ m, 1 ≤ m → m ≤ 20 → ∀ n, 1 ≤ n → n ≤ 20 → Agc f q n m) := by
  have hN9 := hN.u
  intro j
  induction j with
  | zero =>
    intro k fu b hi hfu
    obtain ⟨fu, rfl⟩ : ∃ z, fu = z + 1 := ⟨fu - 1, by omega⟩
    obtain rfl : k = 6 := by omega
    have ec : sB f 6 = cnt f := (cnt_sB h.2.1 6 (Nat.le_refl _)).symm
    refine ⟨b, ?_, fun z => ⟨z, fun n a b => by omega⟩, fun z => z.1⟩
    unfold fX7_isSound_49
    rw [if_pos (by decide), ec]
    cases b with
    | false => rw [if_pos bif0]; rfl
    | true =>
      rw [if_neg bitn, m_cnt0 hN hp0 h, Option.bind_some, if_pos rfl]
      rfl
  | succ j ih =>
    intro k fu b hi hfu
    obtain ⟨fu, rfl⟩ : ∃ z, fu = z + 1 := ⟨fu - 1, by omega⟩
    obtain ⟨b2, a1, a2⟩ := m_s59 (N := N) (K := K) (th0 := th0) (th := th) (t0 := t0) (by omega) (show k < 6 by omega) hp0 h (k49 := fX7_isSound_49 N K th0 g t0 p0 fu) 20 0 25 b (sB f k) rfl (by omega)
    obtain ⟨b', e1, e2⟩ := ih (k + 1) fu b2 (by omega) (by omega)
    refine ⟨b', ?_, ?_⟩
    · unfold fX7_isSound_49
      rw [if_neg (by rw [show (6 : Int32) = Int32.ofNat 6 from rfl, o_le (by omega) (by omega)]; omega)]
      exact a1.trans e1
    · rw [e2, a2]
      constructor
      · rintro ⟨⟨x, y⟩, z⟩
        refine ⟨x, fun q q1 q2 m m1 m2 n n1 n2 => ?_⟩
        by_cases e : q = k
        · rw [e]; exact y m (by omega) m2 n n1 n2
        · exact z q (by omega) q2 m m1 m2 n n1 n2
      · rintro ⟨x, z⟩
        exact ⟨⟨x, fun m m1 m2 n n1 n2 => z k (Nat.le_refl _) (by omega) m (by omega) m2 n n1 n2⟩, fun q q1 q2 => z q (by omega) q2⟩
end SD
theorem ty_isSound {N K : Nat} {th sz c0 c1 c2 c3 c4 c5 p0 : Int32} {f g t gs : Nat → Int32} (hN : NBig N) (hK : 100 ≤ K) (h : MT sz f g) (h1 : c1 = t 1) (h2 : c2 = t 2) (h3 : c3 = t 3) : ∃ o y, fX5_isSound N K sz f c0 c1 c2 c3 c4 c5 gs p0 = some o ∧ fX7_isSound N K th g t p0 = some y ∧ Ti false o y.2 (fun z => z.1 = y.1 ∧ (y.1 = 0 ∨ y.1 = 1)) True := by
  have hN9 := hN.u
  by_cases d : Rg p0 0 2
  · obtain ⟨b, gs', e1, e2⟩ := c_ag2 (N := N) (K := K) (by omega) (sz := sz) (f := f) (g0 := gs) 6 0 N gs rfl (by omega)
    have e1' : fX2_agreesWith N K sz f gs = some (bi b, gs') := e1
    have all : (∀ q, 0 ≤ q → q < 6 → ∀ m, m ≤ 20 → ∀ n, n ≤ 20 → Agc f q n m) ↔ (∀ q, 0 ≤ q → q < 6 → ∀ m, 1 ≤ m → m ≤ 20 → ∀ n, 1 ≤ n → n ≤ 20 → Agc f q n m) := by
      refine ⟨fun z q q1 q2 m m1 m2 n n1 n2 => z q q1 q2 m m2 n n2, fun z q q1 q2 m m2 n n2 => ?_⟩
      intro hne
      rcases h.cell q2 n2 m2 with y | y
      · exact absurd y hne
      · exact z q q1 q2 m y.2.1 m2 n y.1 n2 hne
    have hw := c_well (N := N) (K := K) hN h.2.1 h.1
    have fin : ∀ s : Bool, (s = true ↔ c1 = c2 + c3) → ∃ b' : Bool, fX7_isSound N K th g t p0 = some (bi b', 0) ∧ (b' = true ↔ c1 = c2 + c3 ∧ b = true) := by
      intro s hs
      obtain ⟨b', i1, i2⟩ := m_s49 (N := N) (K := K) (th0 := th) (th := (0 : Int32)) (t0 := t) hN d h 6 0 8 s rfl (by omega)
      refine ⟨b', ?_, ?_⟩
      · have q : fX7_isSound_43 N K th g t p0 (bi s) 0 = some (bi b', 0) := i1
        unfold fX7_isSound
        rw [m_in d, Option.bind_some, m_th00, Option.bind_some, if_pos rfl, tq1, tq2, tq3, ← h1, ← h2, ← h3]
        cases s with
        | false => rw [if_neg (fun z => absurd (hs.mpr z) (by decide))]; exact q
        | true => rw [if_pos (hs.mp rfl)]; exact q
      · rw [i2, hs, e2, all]
    by_cases hc : c1 = c2 + c3
    · obtain ⟨b', i1, i2⟩ := fin true ⟨fun _ => hc, fun _ => rfl⟩
      have eb : b' = b := by
        apply Bool.eq_iff_iff.mpr
        rw [i2]
        exact ⟨fun z => z.2, fun z => ⟨hc, z⟩⟩
      refine ⟨.inl (bi b, gs'), (bi b', 0), ?_, i1, rfl, by rw [eb], bi_ok _⟩
      unfold fX5_isSound
      rw [k_mem1 d, xb_l, e1', Option.bind_some]
      cases b with
      | false => rw [if_pos bif0]; rfl
      | true =>
        rw [if_neg bitn, hw, Option.bind_some, if_neg (show ¬ ((1 : Int32) = 0) from by decide), if_pos hc]
        rfl
    · obtain ⟨b', i1, i2⟩ := fin false ⟨fun z => absurd z (by decide), fun z => absurd z hc⟩
      have eb : b' = false := Bool.eq_false_iff.mpr (fun z => hc (i2.mp z).1)
      refine ⟨.inl (0, gs'), (bi b', 0), ?_, i1, rfl, by rw [eb]; rfl, bi_ok _⟩
      unfold fX5_isSound
      rw [k_mem1 d, xb_l, e1', Option.bind_some]
      cases b with
      | false => rw [if_pos bif0]
      | true =>
        rw [if_neg bitn, hw, Option.bind_some, if_neg (show ¬ ((1 : Int32) = 0) from by decide), if_neg hc]
  · refine ⟨.inr "java/lang/IndexOutOfBoundsException", ((0 : Int32), 1), ?_, ?_, Or.inl ⟨rfl, rfl⟩, trivial⟩
    · unfold fX5_isSound
      rw [k_mem0 d, xb_r]
    · unfold fX7_isSound
      rw [m_out d, Option.bind_some, m_th1, Option.bind_some, if_neg (by decide)]
theorem ty_tally {N K : Nat} {th c0 c1 c2 c3 c4 c5 p0 : Int32} {t : Nat → Int32} (h0 : c0 = t 0) (h1 : c1 = t 1) (h2 : c2 = t 2) (h3 : c3 = t 3) (h4 : c4 = t 4) (h5 : c5 = t 5) : ∃ o y, fX5_tally N K c0 c1 c2 c3 c4 c5 p0 = some o ∧ fX7_tally N K th t p0 = some y ∧ Tj o y.2 (fun z => z = y.1) := by
  by_cases q : Rg p0 0 5
  · have a := k_rng1 (N := N) (K := K) q
    have b := m_in (N := N) (K := K) q
    obtain ⟨n, rfl, -, n2⟩ := Rg.n (a := 0) (b := 5) q (by omega) (by omega)
    have hn : n = 0 ∨ n = 1 ∨ n = 2 ∨ n = 3 ∨ n = 4 ∨ n = 5 := by omega
    have hy : fX7_tally N K th t (Int32.ofNat n) = some (t n, 0) := by
      unfold fX7_tally
      rw [b, Option.bind_some, m_th00, Option.bind_some, if_pos rfl, if_neg (o_ob (by omega) (by omega)), o_c (by omega)]
    refine ⟨.inl (t n), (t n, 0), ?_, hy, rfl, rfl⟩
    unfold fX5_tally
    rw [a, xb_l]
    rcases hn with rfl | rfl | rfl | rfl | rfl | rfl
    · rw [if_pos (by decide), h0]
    · rw [if_neg (by decide), if_pos (by decide), h1]
    · rw [if_neg (by decide), if_neg (by decide), if_pos (by decide), h2]
    · rw [if_neg (by decide), if_neg (by decide), if_neg (by decide), if_pos (by decide), h3]
    · rw [if_neg (by decide), if_neg (by decide), if_neg (by decide), if_neg (by decide), if_pos (by decide), h4]
    · rw [if_neg (by decide), if_neg (by decide), if_neg (by decide), if_neg (by decide), if_neg (by decide), h5]
  · refine ⟨.inr "java/lang/IllegalArgumentException", (0, 1), ?_, ?_, rfl, rfl⟩
    · unfold fX5_tally
      rw [k_rng0 q, xb_r]
    · unfold fX7_tally
      rw [m_out q, Option.bind_some, m_th1, Option.bind_some, if_neg (by decide)]
