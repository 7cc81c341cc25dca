/-! ===== ledgers: the reference's side ===== -/
theorem m_fac70 {N K st j : Nat} (hj : j ≤ 20) (h1 : 1 ≤ st) (h2 : st ≤ 2) : ∀ n i acc fu, j < i + n → 1 ≤ i → i ≤ 22 → acc ≤ 1000 - 20 * n → n ≤ 21 → n < fu → fX7_factor_70 N K (Int32.ofNat st) (Int32.ofNat j) fu (Int32.ofNat acc) (Int32.ofNat i) = some (Int32.ofNat (sgl st j n i acc)) := by
  intro n
  induction n with
  | zero =>
    intro i acc fu hi i1 i2 _ _ hfu
    obtain ⟨fu, rfl⟩ : ∃ m, fu = m + 1 := ⟨fu - 1, by omega⟩
    unfold fX7_factor_70 sgl
    rw [if_pos (by rw [o_lt (by omega) (by omega)]; omega)]
  | succ n ih =>
    intro i acc fu hi i1 i2 ha hn hfu
    obtain ⟨fu, rfl⟩ : ∃ m, fu = m + 1 := ⟨fu - 1, by omega⟩
    unfold fX7_factor_70 sgl
    by_cases c : j < i
    · rw [if_pos (by rw [o_lt (by omega) (by omega)]; exact c), if_pos c]
    · rw [if_neg (by rw [o_lt (by omega) (by omega)]; exact c), if_neg c, if_neg (by rw [show (0 : Int32) = Int32.ofNat 0 from rfl, o_eq (by omega) (by omega)]; omega), o_mod (by omega) (by omega)]
      unfold fX7_factor_85
      by_cases e : j % i = 0
      · rw [if_pos (by rw [e]; rfl), if_pos e, o_add, o_add]
        exact ih (i + st) (acc + i) fu (by omega) (by omega) (by omega) (by omega) (by omega) (by omega)
      · rw [if_neg (by rw [show (0 : Int32) = Int32.ofNat 0 from rfl, o_eq (by have := Nat.mod_lt j (show 0 < i by omega); omega) (by omega)]; exact e), if_neg e, o_add]
        exact ih (i + st) acc fu (by omega) (by omega) (by omega) (by omega) (by omega) (by omega)
theorem fac_lt : ∀ o, o < 21 → ∀ j, j < 5 → (1 ≤ o ∧ 1 ≤ j ∧ o < P1 j ∧ (j = 1 ∨ (P1 (j - 1) < o ∧ ¬ o = P2 (j - 1)))) → lfI 0 o = 0 := by decide +kernel
theorem fac_eq : ∀ j, j < 4 → 1 ≤ j → lfI 0 (P1 j) = (if j % 2 = 1 then 1 else -1) ∧ lfI 0 (P2 j) = (if j % 2 = 1 then 1 else -1) := by decide +kernel
theorem m_fac45 {N K j : Nat} {p1 : Int32} (hj : j < 5) : fX7_factor_45 N K (Int32.ofNat 0) p1 (Int32.ofNat j) = some (if j % 2 = 1 then 1 else -1) := by
  unfold fX7_factor_45
  rw [show (2 : Int32) = Int32.ofNat 2 from rfl, o_mod (by omega) (by omega)]
  by_cases e : j % 2 = 1
  · rw [if_pos (by rw [e]; rfl), if_pos e]
  · rw [if_neg (by rw [show (1 : Int32) = Int32.ofNat 1 from rfl, o_eq (by omega) (by omega)]; exact e), if_neg e]
theorem m_fac6 {N K o : Nat} (ho : o ≤ 20) (h1 : 1 ≤ o) : ∀ n j fu, j + n = 4 → 1 ≤ j → n < fu → (j = 1 ∨ (P1 (j - 1) < o ∧ ¬ o = P2 (j - 1))) → fX7_factor_6 N K (Int32.ofNat 0) (Int32.ofNat o) fu (Int32.ofNat j) = some (lfI 0 o) := by
  have stop : ∀ j fu, j ≤ 4 → 1 ≤ j → (j = 1 ∨ (P1 (j - 1) < o ∧ ¬ o = P2 (j - 1))) → o < P1 j → fX7_factor_6 N K (Int32.ofNat 0) (Int32.ofNat o) (fu + 1) (Int32.ofNat j) = some (lfI 0 o) := by
    intro j fu j4 j1 hp hlt
    obtain ⟨a1, a2, a3, a4, a5⟩ := P_ok j (by omega) j1
    unfold fX7_factor_6
    rw [o_P1 j1 (by omega), if_pos (by rw [o_lt (by omega) (by omega)]; exact hlt), fac_lt o (by omega) j (by omega) ⟨h1, j1, hlt, hp⟩]
  intro n
  induction n with
  | zero =>
    intro j fu hj j1 hfu hp
    obtain ⟨fu, rfl⟩ : ∃ m, fu = m + 1 := ⟨fu - 1, by omega⟩
    obtain rfl : j = 4 := by omega
    exact stop 4 fu (by omega) j1 hp (by have : P1 4 = 22 := by decide
                                         omega)
  | succ n ih =>
    intro j fu hj j1 hfu hp
    obtain ⟨fu, rfl⟩ : ∃ m, fu = m + 1 := ⟨fu - 1, by omega⟩
    obtain ⟨a1, a2, a3, a4, a5⟩ := P_ok j (by omega) j1
    obtain ⟨b1, b2⟩ := fac_eq j (by omega) j1
    by_cases c : o < P1 j
    · exact stop j fu (by omega) j1 hp c
    · unfold fX7_factor_6
      rw [o_P1 j1 (by omega), if_neg (by rw [o_lt (by omega) (by omega)]; exact c), o_P2 j1 (by omega)]
      by_cases e : P1 j = o
      · rw [if_pos (by rw [e]), m_fac45 (by omega), ← b1, e]
      · rw [if_neg (by rw [o_eq (by omega) (by omega)]; exact e)]
        by_cases e2 : P2 j = o
        · rw [if_pos (by rw [e2]), m_fac45 (by omega), ← b2, e2]
        · rw [if_neg (by rw [o_eq (by omega) (by omega)]; exact e2), o_1]
          exact ih (j + 1) fu (by omega) (by omega) (by omega) (Or.inr ⟨by show P1 j < o; omega, by show ¬ o = P2 j; omega⟩)
theorem m_factor {N K r o : Nat} (hN : 100 ≤ N) (hr : r < 3) (ho : o ≤ 20) (h1 : 1 ≤ o) : fX7_factor N K (Int32.ofNat r) (Int32.ofNat o) = some (lfI r o) := by
  unfold fX7_factor
  by_cases r0 : r = 0
  · subst r0
    rw [if_pos (by decide)]
    exact m_fac6 ho h1 3 1 N (by omega) (by omega) (by omega) (Or.inl rfl)
  · rw [if_neg (by rw [show (0 : Int32) = Int32.ofNat 0 from rfl, o_eq (by omega) (by omega)]; exact r0)]
    have e := m_fac70 (N := N) (K := K) (st := r) ho (by omega) (by omega) 21 1 0 N (by omega) (by omega) (by omega) (by omega) (by omega) (by omega)
    unfold lfI sg
    rw [if_neg r0]
    exact e
/-- the reference's contents: 0 where nothing is kept -/
def LG (f g : Nat → Int32) : Prop := ∀ p, 1 ≤ p → p ≤ 20 → g p = if f p = -1 then 0 else f p
theorem lw_p {r p : Nat} (hr : r < 3) (hp : p ≤ 20) : ¬ Int32.ofNat (LW r p) = 0 ∧ ¬ Int32.ofNat (LW r p) ≤ 0 := by
  have := LW_b r hr p (by omega)
  refine ⟨by rw [show (0 : Int32) = Int32.ofNat 0 from rfl, o_eq (by omega) (by omega)]; omega, by rw [show (0 : Int32) = Int32.ofNat 0 from rfl, o_le (by omega) (by omega)]; omega⟩
theorem LG.z {r p : Nat} {f g : Nat → Int32} (hr : r < 3) (hf : LOK r f) (h : LG f g) (h1 : 1 ≤ p) (h2 : p ≤ 20) : (g p = 0 ↔ f p = -1) ∧ (g p ≤ 0 ↔ f p = -1) := by
  rw [h p h1 h2]
  rcases hf p h1 h2 with e | e
  · rw [if_pos e]
    exact ⟨⟨fun _ => e, fun _ => rfl⟩, ⟨fun _ => e, fun _ => by decide⟩⟩
  · have ne : ¬ f p = -1 := by rw [e]; exact lw_ne hr h2
    rw [if_neg ne, e]
    exact ⟨⟨fun z => absurd z (lw_p hr h2).1, fun z => absurd z (lw_ne hr h2)⟩, ⟨fun z => absurd z (lw_p hr h2).2, fun z => absurd z (lw_ne hr h2)⟩⟩
section LM
variable {N K r a : Nat} {th0 th : Int32} {g0 t0 u0 : Nat → Int32}
/-- what is asked of the ledger by the numbers above at -/
def LAsk (r : Nat) (f : Nat → Int32) (a at_ m : Nat) : Prop := m = a ∨ ∃ b, LRR r f a b ∧ at_ < b ∧ m < b ∧ lg r (b - m) = true
def LMK (r : Nat) (f : Nat → Int32) (a at_ : Nat) (u : Nat → Int32) : Prop := ∀ m, m ≤ a → (0 ≤ (u m).toInt ∧ (u m).toInt ≤ 1 + ((a : Int) - (at_ : Int))) ∧ (¬ u m = 0 ↔ LAsk r f a at_ m)
theorem LAsk.of {f : Nat → Int32} {m at_ : Nat} (ha : a ≤ 20) (h : LRR r f a m) (hat : at_ ≤ m) : LAsk r f a at_ m := by
  rcases LRR_par (a + 1) a (by omega) ha h with e | ⟨b, b1, b2, b3⟩
  · exact Or.inl e.symm
  · exact Or.inr ⟨b, b1, by omega, b2, b3⟩
theorem LAsk.rr {f : Nat → Int32} {m at_ : Nat} (ha : a ≤ 20) (h1 : 1 ≤ m) (h : LAsk r f a at_ m) (u : f m = -1) : LRR r f a m := by
  rcases h with rfl | ⟨b, b1, -, b2, b3⟩
  · exact LRR_self ha h1 u
  · have q := LRR_leg (o := b - m) ha b1 (by omega) (by omega) b3 (by rw [show b - (b - m) = m from by omega]; exact u)
    rw [show b - (b - m) = m from by omega] at q
    exact q
theorem LMK_skip {f u : Nat → Int32} {at_ : Nat} (h : LMK r f a (at_ + 1) u) (hn : ¬ LRR r f a (at_ + 1)) : LMK r f a at_ u := by
  intro m hm
  obtain ⟨⟨a1, a2⟩, a3⟩ := h m hm
  refine ⟨⟨a1, by omega⟩, a3.trans ⟨fun z => ?_, fun z => ?_⟩⟩
  · rcases z with z | ⟨b, c1, c2, c3⟩
    · exact Or.inl z
    · exact Or.inr ⟨b, c1, by omega, c3⟩
  · rcases z with z | ⟨b, c1, c2, c3⟩
    · exact Or.inl z
    · by_cases e : b = at_ + 1
      · exact absurd (e ▸ c1) hn
      · exact Or.inr ⟨b, c1, by omega, c3⟩
/-- the legs from off on are wanted once more -/
def linc (r n off : Nat) (u : Nat → Int32) : Nat → Int32 := fun m => if m < n ∧ off ≤ n - m ∧ lg r (n - m) = true then u m + (1 : Int32) else u m
theorem LMK_step {f u : Nat → Int32} {at_ : Nat} (ha : a ≤ 20) (hat : at_ + 1 ≤ a) (h : LMK r f a (at_ + 1) u) (hr : LRR r f a (at_ + 1)) : LMK r f a at_ (linc r (at_ + 1) 1 u) := by
  intro m hm
  obtain ⟨⟨a1, a2⟩, a3⟩ := h m hm
  have s1 := add1 (v := u m) a1 (by omega)
  have hA : LAsk r f a at_ m ↔ (LAsk r f a (at_ + 1) m ∨ (m < at_ + 1 ∧ lg r (at_ + 1 - m) = true)) := by
    constructor
    · rintro (z | ⟨b, c1, c2, c3, c4⟩)
      · exact Or.inl (Or.inl z)
      · by_cases e : b = at_ + 1
        · subst e; exact Or.inr ⟨c3, c4⟩
        · exact Or.inl (Or.inr ⟨b, c1, by omega, c3, c4⟩)
    · rintro ((z | ⟨b, c1, c2, c3, c4⟩) | ⟨c3, c4⟩)
      · exact Or.inl z
      · exact Or.inr ⟨b, c1, by omega, c3, c4⟩
      · exact Or.inr ⟨at_ + 1, hr, by omega, c3, c4⟩
  rw [hA]
  unfold linc
  by_cases c : m < at_ + 1 ∧ 1 ≤ at_ + 1 - m ∧ lg r (at_ + 1 - m) = true
  · rw [if_pos c]
    exact ⟨⟨by omega, by omega⟩, fun _ => Or.inr ⟨c.1, c.2.2⟩, fun _ => ne0_of (by omega)⟩
  · rw [if_neg c]
    refine ⟨⟨a1, by omega⟩, fun z => Or.inl (a3.mp z), fun z => ?_⟩
    rcases z with z | z
    · exact a3.mpr z
    · exact absurd ⟨z.1, by omega, z.2⟩ c
theorem m_138 (hN : 100 ≤ N) (hr : r < 3) {k51 : Int32 → Int32 → (Nat → Int32) → (Nat → Int32) → (Nat → Int32) → Option (Int32 × Int32 × (Nat → Int32) × (Nat → Int32) × (Nat → Int32))} {n : Nat} (hn : n ≤ 20) {p1 : Int32} {g t : Nat → Int32} : ∀ k off fu (u : Nat → Int32), off + k = n + 1 → 1 ≤ off → k < fu → ∃ u', fX7_rule_138 N K th0 g0 t0 u0 (Int32.ofNat r) p1 k51 fu (Int32.ofNat n) 1 (Int32.ofNat off) th g t u = fX7_rule_177 N K th0 g0 t0 u0 (Int32.ofNat r) p1 k51 (Int32.ofNat n) th g t u' ∧ ∀ m, u' m = linc r n off u m := by
  intro k
  induction k with
  | zero =>
    intro off fu u ho o1 hfu
    obtain ⟨fu, rfl⟩ : ∃ z, fu = z + 1 := ⟨fu - 1, by omega⟩
    refine ⟨u, ?_, fun m => ?_⟩
    · conv => lhs; unfold fX7_rule_138
      rw [if_pos (by rw [o_lt (by omega) (by omega)]; omega)]
    · unfold linc
      rw [if_neg (by omega)]
  | succ k ih =>
    intro off fu u ho o1 hfu
    obtain ⟨fu, rfl⟩ : ∃ z, fu = z + 1 := ⟨fu - 1, by omega⟩
    have l0 := lf_0 r hr off (by omega) o1
    by_cases c : lg r off = true
    · have hne : ¬ lfI r off = 0 := fun z => by rw [l0.mp z] at c; exact absurd c (by decide)
      obtain ⟨u', e1, e2⟩ := ih (off + 1) fu (upd u (n - off) (u (n - off) + (1 : Int32))) (by omega) (by omega) (by omega)
      refine ⟨u', ?_, fun m => ?_⟩
      · conv => lhs; unfold fX7_rule_138
        rw [if_neg (by rw [o_lt (by omega) (by omega)]; omega), if_neg (by decide), m_factor hN hr (by omega) o1, Option.bind_some, if_neg hne, o_sub (by omega), if_neg (o_ob (by omega) (by omega)), if_neg (o_ob (by omega) (by omega)), o_c (by omega)]
        unfold fX7_rule_171
        rw [o_1]
        exact e1
      · rw [e2 m]
        unfold linc upd
        by_cases d : m < n ∧ off + 1 ≤ n - m ∧ lg r (n - m) = true
        · rw [if_pos d, if_neg (show ¬ m = n - off from by omega), if_pos (show m < n ∧ off ≤ n - m ∧ lg r (n - m) = true from ⟨d.1, by omega, d.2.2⟩)]
        · rw [if_neg d]
          by_cases e : m = n - off
          · rw [if_pos e, if_pos (show m < n ∧ off ≤ n - m ∧ lg r (n - m) = true from ⟨by omega, by omega, by rw [show n - m = off from by omega]; exact c⟩), e]
          · rw [if_neg e, if_neg (show ¬ (m < n ∧ off ≤ n - m ∧ lg r (n - m) = true) from fun z => d ⟨z.1, by omega, z.2.2⟩)]
    · have hz : lfI r off = 0 := l0.mpr (Bool.eq_false_iff.mpr c)
      obtain ⟨u', e1, e2⟩ := ih (off + 1) fu u (by omega) (by omega) (by omega)
      refine ⟨u', ?_, fun m => ?_⟩
      · conv => lhs; unfold fX7_rule_138
        rw [if_neg (by rw [o_lt (by omega) (by omega)]; omega), if_neg (by decide), m_factor hN hr (by omega) o1, Option.bind_some, if_pos hz]
        unfold fX7_rule_171
        rw [o_1]
        exact e1
      · rw [e2 m]
        unfold linc
        by_cases d : m < n ∧ off + 1 ≤ n - m ∧ lg r (n - m) = true
        · rw [if_pos d, if_pos ⟨d.1, by omega, d.2.2⟩]
        · rw [if_neg d, if_neg (fun z => d ⟨z.1, by
            by_cases e : off = n - m
            · exact absurd (e ▸ z.2.2) c
            · omega, z.2.2⟩)]
theorem sm_add {g h : Nat → Nat} : ∀ n, sm (fun p => g p + h p) n = sm g n + sm h n := by
  intro n
  induction n with
  | zero => rfl
  | succ n ih =>
    show sm (fun p => g p + h p) n + (g (n + 1) + h (n + 1)) = sm g n + g (n + 1) + (sm h n + h (n + 1))
    omega
theorem su_linc {n : Nat} {u u' : Nat → Int32} (hu : ∀ m, u' m = linc r n 1 u m) (hb : ∀ m, 1 ≤ m → m ≤ n - 1 → 0 ≤ (u m).toInt ∧ (u m).toInt ≤ 100000) : su u' (n - 1) = su u (n - 1) + lnl r n := by
  unfold su lnl
  rw [← sm_add]
  refine sm_congr (fun m h1 h2 => ?_)
  obtain ⟨b1, b2⟩ := hb m h1 h2
  have s1 := add1 (v := u m) b1 b2
  rw [hu m]
  unfold linc
  by_cases c : lg r (n - m) = true
  · rw [if_pos ⟨by omega, by omega, c⟩, if_pos c, s1]
    omega
  · rw [if_neg (fun z => c z.2.2), if_neg c]
    omega
/-- what is wanted, made, found so far -/
def LTC (r : Nat) (f v t0 t : Nat → Int32) (n : Nat) : Prop := ∃ w d : Nat, d ≤ w ∧ w + n + lphi r f = lphi r v + 1 ∧ lcnt v = lcnt f + d ∧ t 1 = t0 1 + Int32.ofNat w ∧ t 2 = t0 2 + Int32.ofNat d ∧ t 3 = t0 3 + Int32.ofNat (w - d) ∧ ∀ i, ¬ i = 1 → ¬ i = 2 → ¬ i = 3 → t i = t0 i
theorem LTC.kept {f v t0 t : Nat → Int32} {n : Nat} {x : Int32} (hx : 0 ≤ x.toInt) (h : LTC r f v t0 t (n + x.toInt.toNat)) : LTC r f v t0 (tka 0 x t) n := by
  obtain ⟨w, d, h0, h1, h2, h3, h4, h5, h6⟩ := h
  refine ⟨w + x.toInt.toNat, d, by omega, by omega, h2, ?_, ?_, ?_, fun i a b c => (tka_o a b c).trans (h6 i a b c)⟩
  · rw [tka_1, h3]
    conv => lhs; rw [o_back hx]
    exact o_a2
  · rw [tka_2, h4, Int32.add_zero]
  · rw [tka_3, h5, Int32.sub_zero]
    conv => lhs; rw [o_back hx]
    rw [o_a2, show w - d + x.toInt.toNat = w + x.toInt.toNat - d from by omega]
theorem LTC.made {f v t0 t : Nat → Int32} {n i l : Nat} {x y : Int32} (hx : 1 ≤ x.toInt) (h : LTC r f v t0 t (n + x.toInt.toNat)) (i1 : 1 ≤ i) (i2 : i ≤ 20) (hu : v i = -1) (hy : ¬ y = -1) (hl : lnl r i = l) : LTC r f (upd v i y) t0 (tka 1 x t) (n + l) := by
  obtain ⟨w, d, h0, h1, h2, h3, h4, h5, h6⟩ := h
  have p := lphi_upd (r := r) (f := v) (v := y) i1 i2
  have q := lcnt_upd (f := v) (v := y) i1 i2
  rw [if_pos hu, if_neg hy] at p q
  have e1 : x - 1 = Int32.ofNat (x.toInt.toNat - 1) := by
    conv => lhs; rw [o_back (show 0 ≤ x.toInt by omega)]
    exact o_sub (b := 1) (by omega)
  refine ⟨w + x.toInt.toNat, d + 1, by omega, by omega, by omega, ?_, ?_, ?_, fun i a b c => (tka_o a b c).trans (h6 i a b c)⟩
  · rw [tka_1, h3]
    conv => lhs; rw [o_back (show 0 ≤ x.toInt by omega)]
    exact o_a2
  · rw [tka_2, h4]
    exact o_a2 (b := 1)
  · rw [tka_3, h5, e1, o_a2, show w - d + (x.toInt.toNat - 1) = w + x.toInt.toNat - (d + 1) from by omega]
/-- the class's contents as far as they are asked for: above at -/
def LGV (r : Nat) (f v : Nat → Int32) (a at_ : Nat) : Prop := LF r f (fun p => LRR r f a p ∧ at_ < p) v
theorem m_51 (hN : 100 ≤ N) (hr : r < 3) (hp0 : Rg (Int32.ofNat r) 0 2) (ha : a ≤ 20) {f g tt : Nat → Int32} (hf : LOK r f) (hg : LG f g) : ∀ at_ fu (t u v : Nat → Int32), at_ ≤ a → at_ < fu → LMK r f a at_ u → LGV r f v a at_ → LTC r f v tt t (su u at_) → ∃ t' u' v', fX7_rule_51 N K th0 g0 t0 u0 (Int32.ofNat r) (Int32.ofNat a) fu (Int32.ofNat at_) th g t u = fX7_rule_185 N K th0 g0 t0 u0 (Int32.ofNat r) (Int32.ofNat a) N 1 th g t' u' ∧ LMK r f a 0 u' ∧ LGV r f v' a 0 ∧ LTC r f v' tt t' 0 := by
  intro at_
  induction at_ with
  | zero =>
    intro fu t u v _ hfu h hv hc
    obtain ⟨fu, rfl⟩ : ∃ z, fu = z + 1 := ⟨fu - 1, by omega⟩
    refine ⟨t, u, v, ?_, h, hv, hc⟩
    conv => lhs; unfold fX7_rule_51
    rw [if_pos (by decide)]
  | succ at_ ih =>
    intro fu t u v hat hfu h hv hc
    obtain ⟨fu, rfl⟩ : ∃ z, fu = z + 1 := ⟨fu - 1, by omega⟩
    obtain ⟨⟨a1, a2⟩, a3⟩ := h (at_ + 1) hat
    obtain ⟨z1, z2⟩ := hg.z hr hf (show 1 ≤ at_ + 1 by omega) (show at_ + 1 ≤ 20 by omega)
    have esu : su u (at_ + 1) = su u at_ + (u (at_ + 1)).toInt.toNat := rfl
    have gvs : ¬ LRR r f a (at_ + 1) → LGV r f v a at_ := fun hno => hv.iff (fun p => ⟨fun z => ⟨z.1, by omega⟩, fun z => ⟨z.1, by
      by_cases e : p = at_ + 1
      · exact absurd (e ▸ z.1) hno
      · omega⟩⟩)
    by_cases hu : u (at_ + 1) = 0
    · have hno : ¬ LRR r f a (at_ + 1) := fun z => a3.mpr (LAsk.of ha z (Nat.le_refl _)) hu
      have hc2 : LTC r f v tt t (su u at_) := by
        rw [esu, hu, show ((0 : Int32).toInt.toNat) = 0 from by decide, Nat.add_zero] at hc
        exact hc
      obtain ⟨t', u', v', r1, r2⟩ := ih fu t u v (by omega) (by omega) (LMK_skip h hno) (gvs hno) hc2
      refine ⟨t', u', v', ?_, r2⟩
      conv => lhs; unfold fX7_rule_51
      rw [if_neg (o_0lt (by omega) (by omega)), if_neg (o_ob (by omega) (by omega)), o_c (by omega), if_pos hu]
      unfold fX7_rule_177
      rw [o_m1]
      exact r1
    · have hask := a3.mp hu
      have u1 := pos_of a1 hu
      by_cases c : f (at_ + 1) = -1
      · have hrr := hask.rr ha (by omega) c
        obtain ⟨u2, e1, e2⟩ := m_138 (N := N) (K := K) (th0 := th0) (th := th) (g0 := g0) (t0 := t0) (u0 := u0) hN hr (k51 := fX7_rule_51 N K th0 g0 t0 u0 (Int32.ofNat r) (Int32.ofNat a) fu) (n := at_ + 1) (by omega) (p1 := Int32.ofNat a) (g := g) (t := tka 1 (u (at_ + 1)) t) (at_ + 1) 1 N u (by omega) (by omega) (by omega)
        have eu : u2 = linc r (at_ + 1) 1 u := funext e2
        have hsu := su_linc (r := r) (n := at_ + 1) (u := u) (u' := u2) e2 (fun m m1 m2 => by
          obtain ⟨⟨q1, q2⟩, -⟩ := h m (by omega)
          exact ⟨q1, by omega⟩)
        rw [show at_ + 1 - 1 = at_ from by omega] at hsu
        have hvu : v (at_ + 1) = -1 := ((hv (at_ + 1) (by omega) (by omega)).2 (fun z => by omega)).trans c
        have hc2 : LTC r f (upd v (at_ + 1) (Int32.ofNat (LW r (at_ + 1)))) tt (tka 1 (u (at_ + 1)) t) (su u2 at_) := by
          rw [hsu]
          rw [esu] at hc
          exact LTC.made u1 hc (by omega) (by omega) hvu (lw_ne hr (by omega)) rfl
        have hv2 : LGV r f (upd v (at_ + 1) (Int32.ofNat (LW r (at_ + 1)))) a at_ := by
          intro p p1 p2
          unfold upd
          by_cases e : p = at_ + 1
          · rw [if_pos e, e]
            exact ⟨fun _ => rfl, fun z => absurd ⟨hrr, by omega⟩ z⟩
          · rw [if_neg e]
            exact ⟨fun z => (hv p p1 p2).1 ⟨z.1, by omega⟩, fun z => (hv p p1 p2).2 (fun y => z ⟨y.1, by omega⟩)⟩
        obtain ⟨t', u', v', r1, r2⟩ := ih fu _ u2 _ (by omega) (by omega) (by rw [eu]; exact LMK_step ha hat h hrr) hv2 hc2
        refine ⟨t', u', v', ?_, r2⟩
        conv => lhs; unfold fX7_rule_51
        rw [if_neg (o_0lt (by omega) (by omega)), if_neg (o_ob (by omega) (by omega)), o_c (by omega), if_neg hu, if_neg hp0.mm, if_neg (o_ob2 (by omega) (by omega)), if_pos (z1.mpr c)]
        unfold fX7_rule_83
        rw [if_neg (o_ob (by omega) (by omega)), m_b1, Option.bind_some, if_neg (o_ob (by omega) (by omega)), Option.bind_some, o_c (by omega)]
        refine Eq.trans e1 ?_
        unfold fX7_rule_177
        rw [o_m1]
        exact r1
      · have hno : ¬ LRR r f a (at_ + 1) := fun z => c (LRR_b ha z).1
        obtain ⟨t', u', v', r1, r2⟩ := ih fu (tka 0 (u (at_ + 1)) t) u v (by omega) (by omega) (LMK_skip h hno) (gvs hno) (LTC.kept a1 hc)
        refine ⟨t', u', v', ?_, r2⟩
        conv => lhs; unfold fX7_rule_51
        rw [if_neg (o_0lt (by omega) (by omega)), if_neg (o_ob (by omega) (by omega)), o_c (by omega), if_neg hu, if_neg hp0.mm, if_neg (o_ob2 (by omega) (by omega)), if_neg (fun z => c (z1.mp z))]
        unfold fX7_rule_83
        rw [if_neg (o_ob (by omega) (by omega)), m_b0, Option.bind_some, if_neg (o_ob (by omega) (by omega)), Option.bind_some, o_c (by omega)]
        obtain ⟨M, rfl⟩ : ∃ M, N = M + 1 := ⟨N - 1, by omega⟩
        conv => lhs; unfold fX7_rule_138
        rw [if_neg (by rw [show (1 : Int32) = Int32.ofNat 1 from rfl, o_lt (by omega) (by omega)]; omega), if_pos rfl]
        unfold fX7_rule_177
        rw [o_m1]
        exact r1
def racc (r n : Nat) : Nat → Int32
  | 0 => 0
  | o + 1 => racc r n o + (if 1 ≤ o ∧ lg r o = true then lfI r o * Int32.ofNat (LW r (n - o)) else 0)
theorem racc_0 : ∀ n, n < 21 → 1 ≤ n → racc 0 n (n + 1) = Int32.ofNat (LW 0 n) := by decide +kernel
theorem racc_r : ∀ r, r < 3 → ∀ n, n < 21 → 1 ≤ r → 1 ≤ n → racc r n (n + 1) / Int32.ofNat n = Int32.ofNat (LW r n) := by decide +kernel
theorem m_219 (hN : 100 ≤ N) (hr : r < 3) (hp0 : Rg (Int32.ofNat r) 0 2) {k185 : Int32 → Int32 → (Nat → Int32) → (Nat → Int32) → (Nat → Int32) → Option (Int32 × Int32 × (Nat → Int32) × (Nat → Int32) × (Nat → Int32))} {n : Nat} (n1 : 1 ≤ n) (hn : n ≤ 20) {p1 : Int32} {g t u : Nat → Int32} (hg : ∀ o, 1 ≤ o → o < n → lg r o = true → g (n - o) = Int32.ofNat (LW r (n - o))) : ∀ k off fu, off + k = n + 1 → 1 ≤ off → k < fu → fX7_rule_219 N K th0 g0 t0 u0 (Int32.ofNat r) p1 k185 fu (Int32.ofNat n) (racc r n off) (Int32.ofNat off) th g t u = k185 (Int32.ofNat (n + 1)) th (upd g n (Int32.ofNat (LW r n))) t u := by
  intro k
  induction k with
  | zero =>
    intro off fu ho o1 hfu
    obtain ⟨fu, rfl⟩ : ∃ z, fu = z + 1 := ⟨fu - 1, by omega⟩
    obtain rfl : off = n + 1 := by omega
    unfold fX7_rule_219
    rw [if_pos (by rw [o_lt (by omega) (by omega)]; omega), if_neg hp0.mm]
    unfold fX7_rule_281 fX7_rule_282
    by_cases r0 : r = 0
    · subst r0
      rw [if_pos (by decide), if_neg (o_ob (by omega) (by omega)), o_1, o_c (by omega), racc_0 n (by omega) n1]
    · rw [if_neg (by rw [show (0 : Int32) = Int32.ofNat 0 from rfl, o_eq (by omega) (by omega)]; exact r0), if_neg (by rw [show (0 : Int32) = Int32.ofNat 0 from rfl, o_eq (by omega) (by omega)]; omega), if_neg (o_ob (by omega) (by omega)), o_1, o_c (by omega), racc_r r hr n (by omega) (by omega) n1]
  | succ k ih =>
    intro off fu ho o1 hfu
    obtain ⟨fu, rfl⟩ : ∃ z, fu = z + 1 := ⟨fu - 1, by omega⟩
    have l0 := lf_0 r hr off (by omega) o1
    have e := ih (off + 1) fu (by omega) (by omega) (by omega)
    by_cases c : lg r off = true
    · have hne : ¬ lfI r off = 0 := fun z => by rw [l0.mp z] at c; exact absurd c (by decide)
      have es : racc r n (off + 1) = racc r n off + lfI r off * Int32.ofNat (LW r (n - off)) := by
        show racc r n off + (if 1 ≤ off ∧ lg r off = true then lfI r off * Int32.ofNat (LW r (n - off)) else 0) = _
        rw [if_pos ⟨o1, c⟩]
      have hw : fX7_ledgerWorth N K th g (Int32.ofNat r) (Int32.ofNat (n - off)) = some (Int32.ofNat (LW r (n - off))) := by
        unfold fX7_ledgerWorth
        by_cases z : n - off = 0
        · rw [z, if_pos (by decide), LW_0 r hr]
          rfl
        · rw [if_neg (by rw [show (0 : Int32) = Int32.ofNat 0 from rfl, o_eq (by omega) (by omega)]; exact z), if_neg hp0.mm, if_neg (o_ob (by omega) (by omega)), o_c (by omega), hg off o1 (by omega) c]
      rw [es] at e
      unfold fX7_rule_219
      rw [if_neg (by rw [o_lt (by omega) (by omega)]; omega), m_factor hN hr (by omega) o1, Option.bind_some, if_neg hne, Option.bind_some, o_sub (by omega), hw, Option.bind_some]
      unfold fX7_rule_255
      rw [o_1]
      exact e
    · have hz : lfI r off = 0 := l0.mpr (Bool.eq_false_iff.mpr c)
      have es : racc r n (off + 1) = racc r n off := by
        show racc r n off + (if 1 ≤ off ∧ lg r off = true then lfI r off * Int32.ofNat (LW r (n - off)) else 0) = _
        rw [if_neg (fun z => c z.2), Int32.add_zero]
      rw [es] at e
      unfold fX7_rule_219
      rw [if_neg (by rw [o_lt (by omega) (by omega)]; omega), m_factor hN hr (by omega) o1, Option.bind_some, if_pos hz]
      unfold fX7_rule_255
      rw [o_1]
      exact e
/-- the reference's contents as far as they are written: below i -/
def LKPm (r : Nat) (f g : Nat → Int32) (a i : Nat) : Prop := ∀ p, 1 ≤ p → p ≤ 20 → ((LRR r f a p ∧ p < i) → g p = Int32.ofNat (LW r p)) ∧ (¬ (LRR r f a p ∧ p < i) → g p = if f p = -1 then 0 else f p)
theorem m_185 (hN : 100 ≤ N) (hr : r < 3) (hp0 : Rg (Int32.ofNat r) 0 2) (ha : a ≤ 20) {f t u : Nat → Int32} (hf : LOK r f) (hu : LMK r f a 0 u) : ∀ n i fu (g : Nat → Int32), i + n = a + 1 → 1 ≤ i → n < fu → LKPm r f g a i → ∃ g', fX7_rule_185 N K th0 g0 t0 u0 (Int32.ofNat r) (Int32.ofNat a) fu (Int32.ofNat i) th g t u = some (Int32.ofNat (LW r a), th, g', dn t, u) ∧ LKPm r f g' a (a + 1) := by
  intro n
  induction n with
  | zero =>
    intro i fu g hi i1 hfu h
    obtain ⟨fu, rfl⟩ : ∃ z, fu = z + 1 := ⟨fu - 1, by omega⟩
    obtain rfl : i = a + 1 := by omega
    refine ⟨g, ?_, h⟩
    have hw : fX7_ledgerWorth N K th g (Int32.ofNat r) (Int32.ofNat a) = some (Int32.ofNat (LW r a)) := by
      unfold fX7_ledgerWorth
      by_cases z : a = 0
      · rw [z, if_pos (by decide), LW_0 r hr]
        rfl
      · rw [if_neg (by rw [show (0 : Int32) = Int32.ofNat 0 from rfl, o_eq (by omega) (by omega)]; exact z), if_neg hp0.mm, if_neg (o_ob (by omega) (by omega)), o_c (by omega)]
        by_cases c : f a = -1
        · rw [(h a (by omega) ha).1 ⟨LRR_self ha (by omega) c, by omega⟩]
        · rw [(h a (by omega) ha).2 (fun y => c (LRR_b ha y.1).1), if_neg c]
          rcases hf a (by omega) ha with y | y
          · exact absurd y c
          · rw [y]
    unfold fX7_rule_185
    rw [if_pos (by rw [o_lt (by omega) (by omega)]; omega), hw, Option.bind_some, m_done, Option.bind_some]
  | succ n ih =>
    intro i fu g hi i1 hfu h
    obtain ⟨fu, rfl⟩ : ∃ z, fu = z + 1 := ⟨fu - 1, by omega⟩
    obtain ⟨⟨a1, a2⟩, a3⟩ := hu i (by omega)
    have same : ¬ LRR r f a i → LKPm r f g a (i + 1) := by
      intro hs p p1 p2
      refine ⟨fun z => ?_, fun z => ?_⟩
      · have : ¬ p = i := fun e => hs (e ▸ z.1)
        exact (h p p1 p2).1 ⟨z.1, by omega⟩
      · exact (h p p1 p2).2 (fun y => z ⟨y.1, by omega⟩)
    have next : ∀ g2, LKPm r f g2 a (i + 1) → ∃ g', fX7_rule_185 N K th0 g0 t0 u0 (Int32.ofNat r) (Int32.ofNat a) fu (Int32.ofNat (i + 1)) th g2 t u = some (Int32.ofNat (LW r a), th, g', dn t, u) ∧ LKPm r f g' a (a + 1) := fun g2 h2 => ih (i + 1) fu g2 (by omega) (by omega) (by omega) h2
    have hgi : g i = if f i = -1 then 0 else f i := (h i i1 (by omega)).2 (fun z => by omega)
    unfold fX7_rule_185
    rw [if_neg (by rw [o_lt (by omega) (by omega)]; omega), if_neg (o_ob (by omega) (by omega)), o_c (by omega)]
    by_cases c : u i = 0
    · have hno : ¬ LRR r f a i := fun z => a3.mpr (LAsk.of ha z (Nat.zero_le _)) c
      rw [if_pos c]
      unfold fX7_rule_282
      rw [o_1]
      exact next g (same hno)
    · rw [if_neg c, if_neg hp0.mm, if_neg (o_ob2 (by omega) (by omega))]
      have hask := a3.mp c
      by_cases d : f i = -1
      · have hrr := hask.rr ha i1 d
        rw [if_pos (by rw [hgi, if_pos d]; decide)]
        have hl : ∀ o, 1 ≤ o → o < i → lg r o = true → g (i - o) = Int32.ofNat (LW r (i - o)) := by
          intro o o1 o2 o3
          by_cases y : f (i - o) = -1
          · exact (h (i - o) (by omega) (by omega)).1 ⟨LRR_leg ha hrr o1 o2 o3 y, by omega⟩
          · rw [(h (i - o) (by omega) (by omega)).2 (fun z => y (LRR_b ha z.1).1), if_neg y]
            rcases hf (i - o) (by omega) (by omega) with z | z
            · exact absurd z y
            · exact z
        have e := m_219 (N := N) (K := K) (th0 := th0) (th := th) (g0 := g0) (t0 := t0) (u0 := u0) hN hr hp0 (k185 := fX7_rule_185 N K th0 g0 t0 u0 (Int32.ofNat r) (Int32.ofNat a) fu) i1 (show i ≤ 20 by omega) (p1 := Int32.ofNat a) (t := t) (u := u) hl i 1 N (by omega) (by omega) (by omega)
        obtain ⟨g', r1, r2⟩ := next (upd g i (Int32.ofNat (LW r i))) (fun p p1 p2 => by
          unfold upd
          by_cases y : p = i
          · rw [if_pos y, y]
            exact ⟨fun _ => rfl, fun z => absurd ⟨hrr, by omega⟩ z⟩
          · rw [if_neg y]
            exact ⟨fun z => (h p p1 p2).1 ⟨z.1, by omega⟩, fun z => (h p p1 p2).2 (fun w => z ⟨w.1, by omega⟩)⟩)
        exact ⟨g', e.trans r1, r2⟩
      · have hno : ¬ LRR r f a i := fun z => d (LRR_b ha z).1
        have hw : f i = Int32.ofNat (LW r i) := by
          rcases hf i i1 (by omega) with z | z
          · exact absurd z d
          · exact z
        rw [if_neg (by rw [hgi, if_neg d, hw]; exact (lw_p hr (by omega)).2)]
        unfold fX7_rule_282
        rw [o_1]
        exact next g (same hno)
theorem m_24 {p1 : Int32} (hp1 : p1 = Int32.ofNat a) (ha : a ≤ 20) {g t : Nat → Int32} : ∀ n i fu (u : Nat → Int32), i + n = a → n < fu → ∃ u', fX7_rule_24 N K th0 g0 t0 u0 (Int32.ofNat r) p1 fu (Int32.ofNat i) th g t u = fX7_rule_51 N K th0 g0 t0 u0 (Int32.ofNat r) p1 N p1 th g t (upd u' a 1) ∧ ∀ m, u' m = if i ≤ m ∧ m < a then 0 else u m := by
  subst hp1
  intro n
  induction n with
  | zero =>
    intro i fu u hi hfu
    obtain ⟨fu, rfl⟩ : ∃ z, fu = z + 1 := ⟨fu - 1, by omega⟩
    obtain rfl : i = a := by omega
    refine ⟨u, ?_, fun m => by rw [if_neg (by omega)]⟩
    conv => lhs; unfold fX7_rule_24
    rw [if_pos (by rw [o_le (by omega) (by omega)]; omega), if_neg (o_ob (by omega) (by omega)), o_c (by omega)]
  | succ n ih =>
    intro i fu u hi hfu
    obtain ⟨fu, rfl⟩ : ∃ z, fu = z + 1 := ⟨fu - 1, by omega⟩
    obtain ⟨u', h1, h2⟩ := ih (i + 1) fu (upd u i 0) (by omega) (by omega)
    refine ⟨u', ?_, fun m => ?_⟩
    · conv => lhs; unfold fX7_rule_24
      rw [if_neg (by rw [o_le (by omega) (by omega)]; omega), if_neg (o_ob (by omega) (by omega)), o_c (by omega), o_1]
      exact h1
    · rw [h2 m]
      unfold upd
      by_cases c : i + 1 ≤ m ∧ m < a
      · rw [if_pos c, if_pos (by omega)]
      · rw [if_neg c]
        by_cases e : m = i
        · rw [if_pos e, if_pos (by omega)]
        · rw [if_neg e, if_neg (by omega)]
end LM
/-- the reference's rule: its worth, its contents, its tallies -/
theorem m_rule_ {N K r a : Nat} {th0 th : Int32} {f g t u : Nat → Int32} (hN : 100 ≤ N) (hr : r < 3) (hp0 : Rg (Int32.ofNat r) 0 2) (ha : a ≤ 20) (hf : LOK r f) (hg : LG f g) : ∃ g' t' u' v, fX7_rule_24 N K th0 g t u (Int32.ofNat r) (Int32.ofNat a) N (0 : Int32) th g t u = some (Int32.ofNat (LW r a), th, g', dn t', u') ∧ LF r f (LRR r f a) v ∧ LG v g' ∧ LCK r f v (if a = 0 then 0 else 1) (t 1) (t' 1) (t 2) (t' 2) (t 3) (t' 3) ∧ ∀ i, ¬ i = 1 → ¬ i = 2 → ¬ i = 3 → t' i = t i := by
  obtain ⟨u1, h1, h2⟩ := m_24 (N := N) (K := K) (r := r) (th0 := th0) (th := th) (g0 := g) (t0 := t) (u0 := u) (g := g) (t := t) rfl ha a 0 N u (by omega) (by omega)
  have hmk : LMK r f a a (upd u1 a 1) := by
    intro m hm
    have q1 : (1 : Int32).toInt = 1 := by decide
    have q0 : (0 : Int32).toInt = 0 := by decide
    unfold upd
    by_cases e : m = a
    · rw [if_pos e]
      exact ⟨⟨by omega, by omega⟩, fun _ => Or.inl e, fun _ => by decide⟩
    · rw [if_neg e, h2, if_pos (by omega)]
      refine ⟨⟨by omega, by omega⟩, fun z => absurd rfl z, fun z => ?_⟩
      rcases z with z | ⟨b, b1, b2, -⟩
      · exact absurd z e
      · have := LRR_b ha b1
        omega
  have hgv : LGV r f f a a := fun p _ _ => ⟨fun z => by have := LRR_b ha z.1; omega, fun _ => rfl⟩
  by_cases a0 : a = 0
  · subst a0
    obtain ⟨M, rfl⟩ : ∃ M, N = M + 1 := ⟨N - 1, by omega⟩
    obtain ⟨g', h5, h6⟩ := m_185 (N := M + 1) (K := K) (th0 := th0) (th := th) (g0 := g) (t0 := t) (u0 := u) (t := t) (u := upd u1 0 1) hN hr hp0 ha hf hmk 0 1 (M + 1) g (by omega) (by omega) (by omega) (fun p p1 p2 => ⟨fun z => by omega, fun _ => hg p p1 p2⟩)
    refine ⟨g', t, upd u1 0 1, f, ?_, ?_, ?_, by rw [if_pos rfl]; exact LCK.r, fun _ _ _ _ => rfl⟩
    · refine (h1.trans ?_).trans h5
      conv => lhs; unfold fX7_rule_51
      rw [if_pos (by decide)]
      rfl
    · exact fun p p1 p2 => ⟨fun z => by have := LRR_b ha z; omega, fun _ => rfl⟩
    · exact fun p p1 p2 => (h6 p p1 p2).2 (fun z => by omega)
  · have hsu : su (upd u1 a 1) a = 1 := by
      obtain ⟨z, rfl⟩ : ∃ z, a = z + 1 := ⟨a - 1, by omega⟩
      show su (upd u1 (z + 1) 1) z + (upd u1 (z + 1) 1 (z + 1)).toInt.toNat = 1
      rw [upd_at]
      have e1 : su (upd u1 (z + 1) 1) z = sm (fun _ => 0) z := sm_congr (fun p x y => by
        show (upd u1 (z + 1) 1 p).toInt.toNat = 0
        unfold upd
        rw [if_neg (by omega), h2, if_pos (by omega)]
        rfl)
      have e2 : ∀ n, sm (fun _ => 0) n = 0 := by
        intro n
        induction n with
        | zero => rfl
        | succ n ih => show sm (fun _ => 0) n + 0 = 0; rw [ih]
      rw [e1, e2]
      decide
    have htc : LTC r f f t t (su (upd u1 a 1) a) := by
      rw [hsu]
      exact ⟨0, 0, Nat.le_refl _, by omega, by omega, o_a0, o_a0, o_a0, fun _ _ _ _ => rfl⟩
    obtain ⟨t2, u2, v, h3, h4, hv, hc⟩ := m_51 (N := N) (K := K) (th0 := th0) (th := th) (g0 := g) (t0 := t) (u0 := u) hN hr hp0 ha hf hg a N t _ f (Nat.le_refl _) (by omega) hmk hgv htc
    obtain ⟨g', h5, h6⟩ := m_185 (N := N) (K := K) (th0 := th0) (th := th) (g0 := g) (t0 := t) (u0 := u) (t := t2) (u := u2) hN hr hp0 ha hf h4 a 1 N g (by omega) (by omega) (by omega) (fun p p1 p2 => ⟨fun z => by omega, fun _ => hg p p1 p2⟩)
    have hv2 : LF r f (LRR r f a) v := hv.iff (fun p => ⟨fun z => z.1, fun z => ⟨z, by have := LRR_b ha z; omega⟩⟩)
    refine ⟨g', t2, u2, v, (h1.trans h3).trans h5, hv2, fun p p1 p2 => ?_, ?_, ?_⟩
    · by_cases z : LRR r f a p
      · have b := LRR_b ha z
        rw [(h6 p p1 p2).1 ⟨z, by omega⟩, (hv2 p p1 p2).1 z, if_neg (lw_ne hr p2)]
      · rw [(h6 p p1 p2).2 (fun y => z y.1), (hv2 p p1 p2).2 z]
    · obtain ⟨w, d, c0, c1, c2, c3, c4, c5, -⟩ := hc
      rw [if_neg a0]
      exact ⟨w, d, c0, by omega, c2, c3, c4, c5⟩
    · obtain ⟨w, d, -, -, -, -, -, -, c6⟩ := hc
      exact c6
