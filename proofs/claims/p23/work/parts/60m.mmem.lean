/-! ===== the reference's memories ===== -/
def cd (k n m : Nat) : Nat := 1024 * k + 32 * n + m
def tabm (g : Nat → Int32) (k : Nat) : Nat → Nat → Int32 := fun n m => g (cd k n m)
theorem cd_lt {k n m : Nat} (hk : k < 6) (hn : n ≤ 20) (hm : m ≤ 20) : cd k n m < 6144 := by unfold cd; omega
theorem cd_inj {k n m j p q : Nat} (hn : n ≤ 20) (hm : m ≤ 20) (hp : p ≤ 20) (hq : q ≤ 20) (h : cd k n m = cd j p q) : k = j ∧ n = p ∧ m = q := by
  unfold cd at h
  omega
theorem en_ {a b : Nat} {c : Int32} (hc : c = Int32.ofNat b) (ha : a < 2147483648) (hb : b < 2147483648) (h : ¬ a = b) : ¬ (Int32.ofNat a = c) := by rw [hc, o_eq ha hb]; exact h
theorem ep_ {a b : Nat} {c : Int32} (hc : c = Int32.ofNat b) (h : a = b) : Int32.ofNat a = c := by rw [hc, h]
theorem m_rests {N K m : Nat} {p : Int32} (hm : m ≤ 20) : fX7_rests N K p (Int32.ofNat m) = some (bi (rs p.toInt m)) := by
  have q0 : (0 : Int32).toInt = 0 := by decide
  unfold fX7_rests rs
  by_cases e : p.toInt ≤ 0
  · rw [if_pos (by rw [Int32.le_iff_toInt_le]; omega), decide_eq_true (Or.inl e)]; rfl
  · rw [if_neg (by rw [Int32.le_iff_toInt_le]; omega)]
    by_cases e2 : m = 0
    · rw [if_pos (ep_ (c := 0) (b := 0) rfl e2), decide_eq_true (Or.inr e2)]; rfl
    · rw [if_neg (en_ (c := 0) (b := 0) rfl (by omega) (by omega) e2), decide_eq_false (by omega)]; rfl
theorem m_code {N K k n m : Nat} : fX7_code N K (Int32.ofNat k) (Int32.ofNat n) (Int32.ofNat m) = some (Int32.ofNat (cd k n m)) := by
  unfold fX7_code
  rw [show (1024 : Int32) = Int32.ofNat 1024 from rfl, show (32 : Int32) = Int32.ofNat 32 from rfl, o_mul, o_mul, o_add, o_add]
  rfl
theorem m_b0 {N K : Nat} : fX7_bit N K (0 : Int32) = some 0 := by unfold fX7_bit; rw [if_pos rfl]
theorem m_b1 {N K : Nat} : fX7_bit N K (1 : Int32) = some 1 := by unfold fX7_bit; rw [if_neg (by decide)]
theorem m_worth {N K k m : Nat} {th p0 p : Int32} {g : Nat → Int32} (hk : k < 6) (hp0 : Rg p0 0 2) (hm : m ≤ 20) (hp : p.toInt ≤ 20) : fX7_worth N K th g p0 (Int32.ofNat k) p (Int32.ofNat m) = some (if rs p.toInt m = true then rv k p.toInt m else g (cd k p.toInt.toNat m)) := by
  have q0 : (0 : Int32).toInt = 0 := by decide
  unfold fX7_worth
  rw [m_rests hm, Option.bind_some]
  by_cases r : rs p.toInt m = true
  · rw [if_pos r, r, if_neg bitn]
    unfold rv
    by_cases z : p.toInt = 0
    · rw [if_pos (p_0 z)]
      by_cases m0 : m = 0
      · rw [if_pos (ep_ (c := 0) (b := 0) rfl m0), if_pos ⟨z, Or.inl m0⟩]
        unfold fX7_worth_43 fX7_worth_48
        rw [m_b1, Option.bind_some]
      · rw [if_neg (en_ (c := 0) (b := 0) rfl (by omega) (by omega) m0)]
        by_cases k1 : k = 1
        · rw [if_pos (ep_ (c := 1) (b := 1) rfl k1), if_neg (by omega)]
          unfold fX7_worth_47 fX7_worth_48
          rw [m_b0, Option.bind_some]
        · rw [if_neg (en_ (c := 1) (b := 1) rfl (by omega) (by omega) k1)]
          by_cases k5 : k = 5
          · rw [if_pos (ep_ (c := 5) (b := 5) rfl k5), if_neg (by omega)]
            unfold fX7_worth_47 fX7_worth_48
            rw [m_b0, Option.bind_some]
          · rw [if_neg (en_ (c := 5) (b := 5) rfl (by omega) (by omega) k5), if_pos ⟨z, Or.inr ⟨k1, k5⟩⟩]
            unfold fX7_worth_43 fX7_worth_48
            rw [m_b1, Option.bind_some]
    · rw [if_neg (fun e => z (by rw [e]; exact q0)), if_neg (fun e => z e.1)]
      unfold fX7_worth_47 fX7_worth_48
      rw [m_b0, Option.bind_some]
  · obtain ⟨g1, g2⟩ := rs_f r
    rw [if_neg r, Bool.eq_false_iff.mpr r, if_pos bif0, if_neg hp0.mm]
    obtain ⟨n, rfl, n1, n2⟩ := o_of (p := p) (a := 1) (b := 20) (by omega) (by omega)
    have hc := cd_lt hk n2 hm
    rw [m_code, Option.bind_some, if_neg (o_ob hc (by omega)), o_c (by omega), o_i (by omega)]
    rfl
theorem m_ln {N K k w n m : Nat} (hk : k < 6) (hw : w < 2) : fX7_legNumber N K (Int32.ofNat k) (Int32.ofNat n) (Int32.ofNat m) (Int32.ofNat w) = some (lnI k w n m) := by
  unfold fX7_legNumber lnI
  by_cases w1 : w = 1
  · rw [if_pos (ep_ (c := 1) (b := 1) rfl w1), if_pos (Or.inl w1)]
  · rw [if_neg (en_ (c := 1) (b := 1) rfl (by omega) (by omega) w1)]
    by_cases k5 : k = 5
    · rw [if_pos (ep_ (c := 5) (b := 5) rfl k5), if_pos (Or.inr k5)]
    · rw [if_neg (en_ (c := 5) (b := 5) rfl (by omega) (by omega) k5), if_neg (show ¬ (w = 1 ∨ k = 5) from by omega)]
      by_cases k1 : k = 1
      · rw [if_pos (ep_ (c := 1) (b := 1) rfl k1), if_pos k1]
      · rw [if_neg (en_ (c := 1) (b := 1) rfl (by omega) (by omega) k1), if_neg k1]
theorem m_lm {N K k w m : Nat} (hk : k < 6) (hw : w < 2) (hm : 1 ≤ m) : fX7_legMeasure N K (Int32.ofNat k) (Int32.ofNat m) (Int32.ofNat w) = some (Int32.ofNat (lm k w m)) := by
  have hs : Int32.ofNat m - (1 : Int32) = Int32.ofNat (m - 1) := by rw [show (1 : Int32) = Int32.ofNat 1 from rfl, o_sub hm]
  have z0 : fX7_legMeasure_36 N K (Int32.ofNat k) (Int32.ofNat m) (Int32.ofNat w) 0 = some (Int32.ofNat (m - 1)) := by unfold fX7_legMeasure_36; rw [if_pos rfl, hs]
  have z1 : fX7_legMeasure_36 N K (Int32.ofNat k) (Int32.ofNat m) (Int32.ofNat w) 1 = some (Int32.ofNat m) := by unfold fX7_legMeasure_36; rw [if_neg (by decide)]
  unfold fX7_legMeasure lm
  by_cases w0 : w = 0
  · rw [if_pos (ep_ (c := 0) (b := 0) rfl w0)]
    by_cases k5 : k = 5
    · rw [if_pos (ep_ (c := 5) (b := 5) rfl k5), z1, if_pos (Or.inl ⟨w0, k5⟩)]
    · rw [if_neg (en_ (c := 5) (b := 5) rfl (by omega) (by omega) k5), z0, if_neg (by omega)]
  · rw [if_neg (en_ (c := 0) (b := 0) rfl (by omega) (by omega) w0)]
    unfold fX7_legMeasure_31
    by_cases k0 : k = 0
    · rw [if_pos (ep_ (c := 0) (b := 0) rfl k0), z1, if_pos (Or.inr ⟨by omega, Or.inl k0⟩)]
    · rw [if_neg (en_ (c := 0) (b := 0) rfl (by omega) (by omega) k0)]
      by_cases k1 : k = 1
      · rw [if_pos (ep_ (c := 1) (b := 1) rfl k1), z1, if_pos (Or.inr ⟨by omega, Or.inr (Or.inl k1)⟩)]
      · rw [if_neg (en_ (c := 1) (b := 1) rfl (by omega) (by omega) k1)]
        by_cases k3 : k = 3
        · rw [if_pos (ep_ (c := 3) (b := 3) rfl k3), z1, if_pos (Or.inr ⟨by omega, Or.inr (Or.inr k3)⟩)]
        · rw [if_neg (en_ (c := 3) (b := 3) rfl (by omega) (by omega) k3), z0, if_neg (by omega)]
theorem m_hl {N K k w m : Nat} (hk : k < 6) (hw : w < 2) (hm : m ≤ 20) : fX7_hasLeg N K (Int32.ofNat k) (Int32.ofNat m) (Int32.ofNat w) = some (bi (hl k w m)) := by
  unfold fX7_hasLeg hl
  by_cases w0 : w = 0
  · rw [if_pos (ep_ (c := 0) (b := 0) rfl w0), decide_eq_true (Or.inl w0)]; rfl
  · rw [if_neg (en_ (c := 0) (b := 0) rfl (by omega) (by omega) w0), show (2 : Int32) = Int32.ofNat 2 from rfl, o_mod (by omega) (by omega)]
    by_cases par : m % 2 = 1
    · rw [if_pos (ep_ (c := 1) (b := 1) rfl par), decide_eq_true (Or.inr (Or.inl par))]; rfl
    · rw [if_neg (en_ (c := 1) (b := 1) rfl (by omega) (by omega) par)]
      by_cases k3 : k = 3
      · rw [if_pos (ep_ (c := 3) (b := 3) rfl k3), decide_eq_false (by omega)]; rfl
      · rw [if_neg (en_ (c := 3) (b := 3) rfl (by omega) (by omega) k3)]
        by_cases k4 : k = 4
        · rw [if_pos (ep_ (c := 4) (b := 4) rfl k4), decide_eq_false (by omega)]; rfl
        · rw [if_neg (en_ (c := 4) (b := 4) rfl (by omega) (by omega) k4), decide_eq_true (Or.inr (Or.inr ⟨k3, k4⟩))]; rfl
/-- the worth of a leg, as the contents tell it -/
def Wl (g : Nat → Int32) (k w n m : Nat) : Int32 := if rs (ln k w (n : Int) m) (lm k w m) = true then rv k (ln k w (n : Int) m) (lm k w m) else g (cd k (ln k w (n : Int) m).toNat (lm k w m))
theorem m_Wl {N K k w n m : Nat} {th p0 : Int32} {g : Nat → Int32} (hk : k < 6) (hp0 : Rg p0 0 2) (hn1 : 1 ≤ n) (hn : n ≤ 20) (hm1 : 1 ≤ m) (hm : m ≤ 20) : fX7_worth N K th g p0 (Int32.ofNat k) (lnI k w n m) (Int32.ofNat (lm k w m)) = some (Wl g k w n m) := by
  obtain ⟨e1, -, e2⟩ := leg_bd (k := k) (w := w) (x := (n : Int)) (m := m) (by omega) hm (rs_n (by omega) hm1)
  rw [m_worth hk hp0 e2 (by rw [lnI_i hn hm]; exact e1), lnI_i hn hm]
  rfl
theorem k19 {N K k n m : Nat} {th p0 : Int32} {g0 : Nat → Int32} (hk : k < 6) (hp0 : Rg p0 0 2) (hn1 : 1 ≤ n) (hn : n ≤ 20) (hm1 : 1 ≤ m) (hm : m ≤ 20) {fu w : Nat} (hw : w < 2) {l5 : Int32} {g : Nat → Int32} : fX7_keep_19 N K th g0 p0 (Int32.ofNat k) (Int32.ofNat n) (Int32.ofNat m) (fu + 1) l5 (Int32.ofNat w) g = fX7_keep_19 N K th g0 p0 (Int32.ofNat k) (Int32.ofNat n) (Int32.ofNat m) fu (if hl k w m = true then l5 + Wl g k w n m else l5) (Int32.ofNat (w + 1)) g := by
  conv => lhs; unfold fX7_keep_19
  rw [if_neg (by rw [show (2 : Int32) = Int32.ofNat 2 from rfl, o_le (by omega) (by omega)]; omega), m_hl hk hw hm, Option.bind_some]
  cases c : hl k w m with
  | false =>
    rw [if_pos bif0, if_neg (by decide)]
    unfold fX7_keep_64
    rw [o_1]
  | true =>
    rw [if_neg bitn, if_pos rfl, m_ln hk hw, Option.bind_some, m_lm hk hw hm1, Option.bind_some, m_Wl hk hp0 hn1 hn hm1 hm, Option.bind_some]
    unfold fX7_keep_64
    rw [o_1]
theorem hl0 {k m : Nat} : hl k 0 m = true := decide_eq_true (Or.inl rfl)
theorem m_keep {N K k n m : Nat} {th p0 : Int32} {g : Nat → Int32} (hN : 100 ≤ N) (hk : k < 6) (hp0 : Rg p0 0 2) (hn1 : 1 ≤ n) (hn : n ≤ 20) (hm1 : 1 ≤ m) (hm : m ≤ 20) (hg : g (cd k n m) = -1 ∨ 0 ≤ (g (cd k n m)).toInt) : fX7_keep N K th g p0 (Int32.ofNat k) (Int32.ofNat n) (Int32.ofNat m) = some (if g (cd k n m) = -1 then upd g (cd k n m) (Wl g k 0 n m + (if hl k 1 m = true then Wl g k 1 n m else 0)) else g) := by
  obtain ⟨M, rfl⟩ : ∃ M, N = M + 3 := ⟨N - 3, by omega⟩
  have q0 : (0 : Int32).toInt = 0 := by decide
  have en : (Int32.ofNat n).toInt = (n : Int) := o_i (by omega)
  have hc := cd_lt hk hn hm
  unfold fX7_keep
  rw [m_worth hk hp0 hm (by omega), Option.bind_some, en, if_neg (rs_n (by omega) hm1), show ((n : Nat) : Int).toNat = n from by omega]
  rcases hg with u | u
  · rw [u, if_pos (by decide), if_pos rfl]
    have a0 := k19 (N := M + 3) (K := K) (th := th) (g0 := g) hk hp0 hn1 hn hm1 hm (fu := M + 2) (w := 0) (by omega) (l5 := 0) (g := g)
    rw [if_pos hl0, Int32.zero_add] at a0
    have a1 := k19 (N := M + 3) (K := K) (th := th) (g0 := g) hk hp0 hn1 hn hm1 hm (fu := M + 1) (w := 1) (by omega) (l5 := Wl g k 0 n m) (g := g)
    refine a0.trans (a1.trans ?_)
    unfold fX7_keep_19
    rw [if_pos (by decide), if_neg hp0.mm, m_code, Option.bind_some, if_neg (o_ob hc (by omega)), o_c (by omega)]
    by_cases c : hl k 1 m = true
    · rw [if_pos c, if_pos c]
    · rw [if_neg c, if_neg c, Int32.add_zero]
  · have hne : ¬ g (cd k n m) = -1 := by
      intro z
      rw [z] at u
      exact absurd u (by decide)
    rw [if_neg (by rw [Int32.lt_iff_toInt_lt]; omega), if_neg hne]
/-! ===== what is wanted ===== -/
def pos (n m : Nat) : Nat := 21 * m + n
theorem pos_inj {n m p q : Nat} (hn : n ≤ 20) (hp : p ≤ 20) (h : pos n m = pos p q) : n = p ∧ m = q := by
  unfold pos at h
  omega
theorem pos_lt {n m : Nat} (hn : n ≤ 20) (hm : m ≤ 20) : pos n m < 441 := by unfold pos; omega
theorem pos_leg {k w b1 b2 : Nat} (hw : w < 2) (h1 : 1 ≤ b1) (h : b1 ≤ 20) (h2 : 1 ≤ b2) (r : ¬ rs (ln k w (b1 : Int) b2) (lm k w b2) = true) : pos (ln k w (b1 : Int) b2).toNat (lm k w b2) < pos b1 b2 := by
  obtain ⟨g1, g2⟩ := rs_f r
  have l := leg_lt (k := k) (w := w) (x := (b1 : Int)) (m := b2) hw (rs_n (by omega) h2)
  have hm : lm k w b2 ≤ b2 := by
    unfold lm
    by_cases e : (w = 0 ∧ k = 5) ∨ (w = 1 ∧ (k = 0 ∨ k = 1 ∨ k = 3))
    · rw [if_pos e]; omega
    · rw [if_neg e]; omega
  have hb : ln k w (b1 : Int) b2 ≤ 20 := by
    unfold ln
    by_cases e : w = 1 ∨ k = 5
    · rw [if_pos e]; omega
    · rw [if_neg e]
      by_cases e2 : k = 1
      · rw [if_pos e2]; omega
      · rw [if_neg e2]; omega
  unfold pos
  by_cases e : lm k w b2 = b2
  · omega
  · omega
/-- a leg is wanted once more -/
def inc (k n m w : Nat) (u : Nat → Int32) : Nat → Int32 := if hl k w m = true ∧ ¬ rs (ln k w (n : Int) m) (lm k w m) = true then upd u (pos (ln k w (n : Int) m).toNat (lm k w m)) (u (pos (ln k w (n : Int) m).toNat (lm k w m)) + (1 : Int32)) else u
theorem o_pos {a b : Nat} : (21 : Int32) * Int32.ofNat b + Int32.ofNat a = Int32.ofNat (pos a b) := by
  rw [show (21 : Int32) = Int32.ofNat 21 from rfl, o_mul, o_add]
  rfl
section KN
variable {N K k n m : Nat} {th p0 p2 p3 : Int32} {f0 t0 u0 : Nat → Int32}
theorem m191 (hk : k < 6) (hn1 : 1 ≤ n) (hn : n ≤ 20) (hm1 : 1 ≤ m) (hm : m ≤ 20) {k68 : Int32 → (Nat → Int32) → (Nat → Int32) → (Nat → Int32) → Option (Int32 × (Nat → Int32) × (Nat → Int32) × (Nat → Int32))} {fu w : Nat} (hw : w < 2) {l5 : Int32} {g t u : Nat → Int32} : fX7_known_191 N K th f0 t0 u0 p0 (Int32.ofNat k) p2 p3 k68 (fu + 1) l5 (Int32.ofNat n) (Int32.ofNat m) 0 (Int32.ofNat w) g t u = fX7_known_191 N K th f0 t0 u0 p0 (Int32.ofNat k) p2 p3 k68 fu l5 (Int32.ofNat n) (Int32.ofNat m) 0 (Int32.ofNat (w + 1)) g t (inc k n m w u) := by
  have r0 := rs_n (x := (n : Int)) (m := m) (by omega) hm1
  obtain ⟨e1, e3, e2⟩ := leg_bd (k := k) (w := w) (x := (n : Int)) (m := m) (by omega) hm r0
  conv => lhs; unfold fX7_known_191
  rw [if_neg (by rw [show (2 : Int32) = Int32.ofNat 2 from rfl, o_le (by omega) (by omega)]; omega), if_pos rfl, m_ln hk hw, Option.bind_some, m_lm hk hw hm1, Option.bind_some, m_hl hk hw hm, Option.bind_some]
  unfold inc
  cases c : hl k w m with
  | false =>
    rw [if_pos bif0, if_neg (fun z => absurd z.1 (by decide))]
    unfold fX7_known_262
    rw [o_1]
  | true =>
    rw [if_neg bitn, m_rests e2, Option.bind_some, lnI_i hn hm]
    by_cases r : rs (ln k w (n : Int) m) (lm k w m) = true
    · rw [r, if_neg bitn, if_neg (fun z => z.2 rfl)]
      unfold fX7_known_262
      rw [o_1]
    · obtain ⟨g1, g2⟩ := rs_f r
      have hli : lnI k w n m = Int32.ofNat (ln k w (n : Int) m).toNat := by
        apply Int32.toInt_inj.mp
        rw [lnI_i hn hm, o_i (by omega)]
        omega
      have hp := pos_lt (n := (ln k w (n : Int) m).toNat) (m := lm k w m) (by omega) e2
      rw [Bool.eq_false_iff.mpr r, if_pos bif0, hli, o_pos, if_neg (o_ob hp (by omega)), if_neg (o_ob hp (by omega)), o_c (by omega), if_pos ⟨rfl, by decide⟩]
      unfold fX7_known_262
      rw [o_1]
/-- what a place asked of leaves of the tallies (b: it was made; v: how often it was wanted) -/
def tka (b v : Int32) (t : Nat → Int32) : Nat → Int32 := upd (upd (upd t (1 : Int32).toNatClampNeg ((t (1 : Int32).toNatClampNeg) + v)) (2 : Int32).toNatClampNeg (((upd t (1 : Int32).toNatClampNeg ((t (1 : Int32).toNatClampNeg) + v)) (2 : Int32).toNatClampNeg) + b)) (3 : Int32).toNatClampNeg (((upd (upd t (1 : Int32).toNatClampNeg ((t (1 : Int32).toNatClampNeg) + v)) (2 : Int32).toNatClampNeg (((upd t (1 : Int32).toNatClampNeg ((t (1 : Int32).toNatClampNeg) + v)) (2 : Int32).toNatClampNeg) + b)) (3 : Int32).toNatClampNeg) + (v - b))
theorem tq1 : (1 : Int32).toNatClampNeg = 1 := by decide
theorem tq2 : (2 : Int32).toNatClampNeg = 2 := by decide
theorem tq3 : (3 : Int32).toNatClampNeg = 3 := by decide
theorem tka_1 {b v : Int32} {t : Nat → Int32} : tka b v t 1 = t 1 + v := by
  unfold tka upd
  rw [tq1, tq2, tq3, if_neg (by decide), if_neg (by decide), if_pos rfl]
theorem tka_2 {b v : Int32} {t : Nat → Int32} : tka b v t 2 = t 2 + b := by
  unfold tka upd
  rw [tq1, tq2, tq3, if_neg (show ¬ ((2 : Nat) = 3) from by decide), if_pos rfl, if_neg (show ¬ ((2 : Nat) = 1) from by decide)]
theorem tka_3 {b v : Int32} {t : Nat → Int32} : tka b v t 3 = t 3 + (v - b) := by
  unfold tka upd
  rw [tq1, tq2, tq3, if_pos rfl, if_neg (show ¬ ((3 : Nat) = 2) from by decide), if_neg (show ¬ ((3 : Nat) = 1) from by decide)]
theorem tka_o {b v : Int32} {t : Nat → Int32} {i : Nat} (h1 : ¬ i = 1) (h2 : ¬ i = 2) (h3 : ¬ i = 3) : tka b v t i = t i := by
  unfold tka upd
  rw [tq1, tq2, tq3, if_neg h3, if_neg h2, if_neg h1]
theorem m68 (hk : k < 6) (hp0 : Rg p0 0 2) (hN : 100 ≤ N) (hn1 : 1 ≤ n) (hn : n ≤ 20) (hm1 : 1 ≤ m) (hm : m ≤ 20) {fu : Nat} {g t u : Nat → Int32} (hu : ¬ u (pos n m) = 0) (hg : g (cd k n m) = -1 ∨ 0 ≤ (g (cd k n m)).toInt) : fX7_known_68 N K th f0 t0 u0 p0 (Int32.ofNat k) p2 p3 (fu + 1) (Int32.ofNat (pos n m)) g t u = fX7_known_68 N K th f0 t0 u0 p0 (Int32.ofNat k) p2 p3 fu (Int32.ofNat (pos n m - 1)) g (tka (if g (cd k n m) = -1 then 1 else 0) (u (pos n m)) t) (if g (cd k n m) = -1 then inc k n m 1 (inc k n m 0 u) else u) := by
  obtain ⟨M, rfl⟩ : ∃ M, N = M + 3 := ⟨N - 3, by omega⟩
  have q0 : (0 : Int32).toInt = 0 := by decide
  have en : (Int32.ofNat n).toInt = (n : Int) := o_i (by omega)
  have hp := pos_lt hn hm
  have hp1 : 1 ≤ pos n m := by unfold pos; omega
  have e1 : pos n m % 21 = n := by unfold pos; omega
  have e2 : pos n m / 21 = m := by unfold pos; omega
  have hdec : Int32.ofNat (pos n m) + (-1 : Int32) = Int32.ofNat (pos n m - 1) := by
    obtain ⟨z, hz⟩ : ∃ z, pos n m = z + 1 := ⟨pos n m - 1, by omega⟩
    rw [hz, o_m1, show z + 1 - 1 = z from by omega]
  rcases hg with c | c
  · conv => lhs; unfold fX7_known_68
    rw [if_neg (o_0lt hp1 (by omega)), if_neg (o_ob hp (by omega)), o_c (by omega), if_neg hu, show (21 : Int32) = Int32.ofNat 21 from rfl, o_mod (by omega) (by omega), o_div (by omega) (by omega), e1, e2, m_worth hk hp0 hm (by omega), Option.bind_some, en, if_neg (rs_n (by omega) hm1), show ((n : Nat) : Int).toNat = n from by omega, c, if_pos (by decide), if_pos rfl, if_pos rfl]
    unfold fX7_known_118
    rw [if_neg (o_ob hp (by omega)), if_pos rfl]
    unfold fX7_known_153
    rw [m_b1, Option.bind_some, if_neg (by decide), if_neg (o_ob hp (by omega)), if_pos rfl]
    unfold fX7_known_182
    rw [m_b1, Option.bind_some, if_neg (by decide)]
    refine (m191 hk hn1 hn hm1 hm (fu := M + 2) (w := 0) (by omega)).trans ((m191 hk hn1 hn hm1 hm (fu := M + 1) (w := 1) (by omega)).trans ?_)
    unfold fX7_known_191
    rw [if_pos (by decide)]
    unfold fX7_known_268
    rw [hdec, o_c (by omega)]
    rfl
  · have hne : ¬ g (cd k n m) = -1 := by
      intro z
      rw [z] at c
      exact absurd c (by decide)
    conv => lhs; unfold fX7_known_68
    rw [if_neg (o_0lt hp1 (by omega)), if_neg (o_ob hp (by omega)), o_c (by omega), if_neg hu, show (21 : Int32) = Int32.ofNat 21 from rfl, o_mod (by omega) (by omega), o_div (by omega) (by omega), e1, e2, m_worth hk hp0 hm (by omega), Option.bind_some, en, if_neg (rs_n (by omega) hm1), show ((n : Nat) : Int).toNat = n from by omega, if_neg (by rw [Int32.lt_iff_toInt_lt]; omega), if_neg hne, if_neg hne]
    unfold fX7_known_118
    rw [if_neg (o_ob hp (by omega)), if_neg (by decide)]
    unfold fX7_known_153
    rw [m_b0, Option.bind_some, if_neg (by decide), if_neg (o_ob hp (by omega)), if_neg (by decide)]
    unfold fX7_known_182
    rw [m_b0, Option.bind_some, if_neg (by decide)]
    unfold fX7_known_191
    rw [if_neg (by decide), if_neg (by decide)]
    unfold fX7_known_268
    rw [hdec, o_c (by omega)]
    rfl
end KN
theorem RR_pos {T : Nat → Nat → Int32} {k p q : Nat} : ∀ d (x : Int) m, x.toNat + m < d → x ≤ 20 → m ≤ 20 → RR T k x m p q → pos p q ≤ pos x.toNat m := by
  intro d
  induction d with
  | zero => intro x m h; omega
  | succ d ih =>
    intro x m h hx hm hr
    obtain ⟨r, u, c⟩ := (RR_eq hx hm).mp hr
    obtain ⟨g1, g2⟩ := rs_f r
    have ex : ((x.toNat : Nat) : Int) = x := by omega
    have l0 := leg_lt (k := k) (w := 0) (by omega) r
    have l1 := leg_lt (k := k) (w := 1) (by omega) r
    obtain ⟨e1, -, e2⟩ := leg_bd (k := k) (w := 0) hx hm r
    obtain ⟨e3, -, e4⟩ := leg_bd (k := k) (w := 1) hx hm r
    rcases c with ⟨rfl, rfl⟩ | c | ⟨-, c⟩
    · exact Nat.le_refl _
    · have a := ih _ _ (by omega) e1 e2 c
      have b := pos_leg (k := k) (w := 0) (b1 := x.toNat) (b2 := m) (by omega) (by omega) (by omega) g2 (by rw [ex]; exact ((RR_eq e1 e2).mp c).1)
      rw [ex] at b
      omega
    · have a := ih _ _ (by omega) e3 e4 c
      have b := pos_leg (k := k) (w := 1) (b1 := x.toNat) (b2 := m) (by omega) (by omega) (by omega) g2 (by rw [ex]; exact ((RR_eq e3 e4).mp c).1)
      rw [ex] at b
      omega
/-- (n, m) is a leg of (b1, b2) -/
def Leg (k b1 b2 n m : Nat) : Prop := ∃ w, w < 2 ∧ hl k w b2 = true ∧ (ln k w (b1 : Int) b2).toNat = n ∧ lm k w b2 = m ∧ ¬ rs (ln k w (b1 : Int) b2) (lm k w b2) = true
/-- what is asked of a table by the places above at -/
def Ask (T : Nat → Nat → Int32) (k x0 m0 at_ n m : Nat) : Prop := (n = x0 ∧ m = m0) ∨ ∃ b1 b2, RR T k (x0 : Int) m0 b1 b2 ∧ at_ < pos b1 b2 ∧ Leg k b1 b2 n m
def MK (T : Nat → Nat → Int32) (k x0 m0 at_ : Nat) (u : Nat → Int32) : Prop := ∀ n m, n ≤ 20 → m ≤ 20 → (0 ≤ (u (pos n m)).toInt ∧ (u (pos n m)).toInt ≤ 1 + 2 * ((pos x0 m0 : Int) - (at_ : Int))) ∧ (¬ u (pos n m) = 0 ↔ Ask T k x0 m0 at_ n m)
theorem Leg.b {k b1 b2 n m : Nat} (h1 : 1 ≤ b1) (hb : b1 ≤ 20) (h2 : 1 ≤ b2) (hb2 : b2 ≤ 20) (h : Leg k b1 b2 n m) : 1 ≤ n ∧ n ≤ 20 ∧ 1 ≤ m ∧ m ≤ 20 ∧ pos n m < pos b1 b2 := by
  obtain ⟨w, hw, -, rfl, rfl, r⟩ := h
  obtain ⟨g1, g2⟩ := rs_f r
  obtain ⟨e1, -, e2⟩ := leg_bd (k := k) (w := w) (x := (b1 : Int)) (m := b2) (by omega) hb2 (rs_n (by omega) h2)
  exact ⟨by omega, by omega, g2, e2, pos_leg hw h1 hb h2 r⟩
/-- what is reached was asked by what lies above it -/
theorem Ask.of {T : Nat → Nat → Int32} {k x0 m0 n m at_ : Nat} (hx : x0 ≤ 20) (hm : m0 ≤ 20) (h : RR T k (x0 : Int) m0 n m) (hat : at_ ≤ pos n m) : Ask T k x0 m0 at_ n m := by
  rcases RR_par ((x0 : Int).toNat + m0 + 1) (x0 : Int) m0 (by omega) (by omega) hm h with ⟨a, b⟩ | ⟨b1, b2, w, hw, h1, h2, h3, h4, h5⟩
  · exact Or.inl ⟨by omega, b.symm⟩
  · obtain ⟨-, c1, c2, c3, c4, -⟩ := RR_un ((x0 : Int).toNat + m0 + 1) (x0 : Int) m0 (by omega) (by omega) hm h2
    have hl2 : Leg k b1 b2 n m := ⟨w, hw, h1, h3, h4, h5⟩
    have := (hl2.b c1 c3 c2 c4).2.2.2.2
    exact Or.inr ⟨b1, b2, h2, by omega, hl2⟩
/-- what is asked and not kept is reached -/
theorem Ask.rr {T : Nat → Nat → Int32} {k x0 m0 n m at_ : Nat} (hx1 : 1 ≤ x0) (hx : x0 ≤ 20) (hm1 : 1 ≤ m0) (hm : m0 ≤ 20) (h : Ask T k x0 m0 at_ n m) (u : T n m = -1) : RR T k (x0 : Int) m0 n m := by
  rcases h with ⟨rfl, rfl⟩ | ⟨b1, b2, h2, -, w, hw, h1, rfl, rfl, r⟩
  · have s := RR_self (T := T) (k := k) (x := (n : Int)) (m := m) (by omega) hm (rs_n (by omega) hm1) (by rw [show ((n : Nat) : Int).toNat = n from by omega]; exact u)
    rw [show ((n : Nat) : Int).toNat = n from by omega] at s
    exact s
  · exact RR_leg hw h1 (by omega) hm h2 r u
theorem Ask.b {T : Nat → Nat → Int32} {k x0 m0 n m at_ : Nat} (hx1 : 1 ≤ x0) (hx : x0 ≤ 20) (hm1 : 1 ≤ m0) (hm : m0 ≤ 20) (h : Ask T k x0 m0 at_ n m) : 1 ≤ n ∧ n ≤ 20 ∧ 1 ≤ m ∧ m ≤ 20 := by
  rcases h with ⟨rfl, rfl⟩ | ⟨b1, b2, h2, -, hl2⟩
  · exact ⟨hx1, hx, hm1, hm⟩
  · obtain ⟨-, c1, c2, c3, c4, -⟩ := RR_un ((x0 : Int).toNat + m0 + 1) (x0 : Int) m0 (by omega) (by omega) hm h2
    obtain ⟨d1, d2, d3, d4, -⟩ := hl2.b c1 c3 c2 c4
    exact ⟨d1, d2, d3, d4⟩
theorem inc_at {k n m w p q : Nat} {u : Nat → Int32} (hn1 : 1 ≤ n) (hn : n ≤ 20) (hm1 : 1 ≤ m) (hm : m ≤ 20) (hp : p ≤ 20) : inc k n m w u (pos p q) = if (hl k w m = true ∧ ¬ rs (ln k w (n : Int) m) (lm k w m) = true) ∧ (ln k w (n : Int) m).toNat = p ∧ lm k w m = q then u (pos p q) + (1 : Int32) else u (pos p q) := by
  obtain ⟨e1, -, e2⟩ := leg_bd (k := k) (w := w) (x := (n : Int)) (m := m) (by omega) hm (rs_n (by omega) hm1)
  unfold inc
  by_cases c : hl k w m = true ∧ ¬ rs (ln k w (n : Int) m) (lm k w m) = true
  · rw [if_pos c]
    unfold upd
    by_cases d : (ln k w (n : Int) m).toNat = p ∧ lm k w m = q
    · rw [if_pos (show pos p q = pos (ln k w (n : Int) m).toNat (lm k w m) from by rw [d.1, d.2]), if_pos (show (hl k w m = true ∧ ¬ rs (ln k w (n : Int) m) (lm k w m) = true) ∧ (ln k w (n : Int) m).toNat = p ∧ lm k w m = q from ⟨c, d⟩), d.1, d.2]
    · rw [if_neg (show ¬ pos p q = pos (ln k w (n : Int) m).toNat (lm k w m) from fun z => d (by obtain ⟨a, b⟩ := pos_inj hp (by omega) z; exact ⟨a.symm, b.symm⟩)), if_neg (show ¬ ((hl k w m = true ∧ ¬ rs (ln k w (n : Int) m) (lm k w m) = true) ∧ (ln k w (n : Int) m).toNat = p ∧ lm k w m = q) from fun z => d z.2)]
  · rw [if_neg c, if_neg (fun z => c z.1)]
theorem add1 {v : Int32} (h : 0 ≤ v.toInt) (h2 : v.toInt ≤ 100000) : (v + (1 : Int32)).toInt = v.toInt + 1 := by
  have q1 : (1 : Int32).toInt = 1 := by decide
  rw [addI (by omega) (by omega), q1]
theorem ne0_of {v : Int32} (h : 1 ≤ v.toInt) : ¬ v = 0 := by
  intro z
  rw [z] at h
  exact absurd h (by decide)
theorem pos_of {v : Int32} (h : 0 ≤ v.toInt) (h2 : ¬ v = 0) : 1 ≤ v.toInt := by
  have : ¬ v.toInt = 0 := fun z => h2 (p_0 z)
  omega
