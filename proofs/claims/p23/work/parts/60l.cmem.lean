/-! ===== the class's memories ===== -/
def sl (k n m : Nat) : Nat := (k * 21 + n) * 21 + m
def tab (f : Nat → Int32) (k : Nat) : Nat → Nat → Int32 := fun n m => f (sl k n m)
def OKF (f : Nat → Int32) : Prop := ∀ k, k < 6 → OKT (tab f k)
theorem sl_lt {k n m : Nat} (hk : k < 6) (hn : n ≤ 20) (hm : m ≤ 20) : sl k n m < 2646 := by
  unfold sl
  have a : k * 21 ≤ 5 * 21 := Nat.mul_le_mul_right 21 (by omega)
  omega
theorem sl_inj {k n m j p q : Nat} (hn : n ≤ 20) (hm : m ≤ 20) (hp : p ≤ 20) (hq : q ≤ 20) (h : sl k n m = sl j p q) : k = j ∧ n = p ∧ m = q := by
  unfold sl at h
  omega
/-- how many are kept -/
def cntn (f : Nat → Int32) : Nat → Nat
  | 0 => 0
  | n + 1 => cntn f n + (if f n = -1 then 0 else 1)
def cnt (f : Nat → Int32) : Nat := cntn f 2646
theorem cntn_le {f : Nat → Int32} : ∀ n, cntn f n ≤ n := by
  intro n
  induction n with
  | zero => exact Nat.le_refl _
  | succ n ih =>
    show cntn f n + (if f n = -1 then 0 else 1) ≤ n + 1
    by_cases e : f n = -1
    · rw [if_pos e]; omega
    · rw [if_neg e]; omega
theorem cnt_le {f : Nat → Int32} : cnt f ≤ 2646 := cntn_le 2646
theorem cntn_out {f : Nat → Int32} {i : Nat} {v : Int32} : ∀ n, n ≤ i → cntn (upd f i v) n = cntn f n := by
  intro n
  induction n with
  | zero => intro _; rfl
  | succ n ih =>
    intro h
    show cntn (upd f i v) n + (if upd f i v n = -1 then 0 else 1) = cntn f n + (if f n = -1 then 0 else 1)
    have e : upd f i v n = f n := by unfold upd; rw [if_neg (by omega)]
    rw [ih (by omega), e]
theorem cntn_upd {f : Nat → Int32} {i : Nat} {v : Int32} : ∀ n, i < n → cntn (upd f i v) n + (if f i = -1 then 0 else 1) = cntn f n + (if v = -1 then 0 else 1) := by
  intro n
  induction n with
  | zero => intro h; omega
  | succ n ih =>
    intro h
    show cntn (upd f i v) n + (if upd f i v n = -1 then 0 else 1) + (if f i = -1 then 0 else 1) = cntn f n + (if f n = -1 then 0 else 1) + (if v = -1 then 0 else 1)
    by_cases e : i = n
    · subst e
      rw [cntn_out i (Nat.le_refl _), upd_at]
      omega
    · have e2 : upd f i v n = f n := by unfold upd; rw [if_neg (by omega)]
      have := ih (by omega)
      rw [e2]
      omega
theorem cnt_upd {f : Nat → Int32} {i : Nat} {v : Int32} (h : i < 2646) : cnt (upd f i v) + (if f i = -1 then 0 else 1) = cnt f + (if v = -1 then 0 else 1) := cntn_upd 2646 h
theorem tab_at {f : Nat → Int32} {k n m p q : Nat} {v : Int32} (hn : n ≤ 20) (hm : m ≤ 20) (hp : p ≤ 20) (hq : q ≤ 20) : tab (upd f (sl k n m) v) k p q = if n = p ∧ m = q then v else tab f k p q := by
  unfold tab upd
  by_cases e : n = p ∧ m = q
  · rw [if_pos e, if_pos (by rw [e.1, e.2])]
  · rw [if_neg e, if_neg (fun z => e (by obtain ⟨-, a, b⟩ := sl_inj hp hq hn hm z; exact ⟨a.symm, b.symm⟩))]
theorem tab_ne {f : Nat → Int32} {k j n m p q : Nat} {v : Int32} (hj : j ≠ k) (hn : n ≤ 20) (hm : m ≤ 20) (hp : p ≤ 20) (hq : q ≤ 20) : tab (upd f (sl k n m) v) j p q = tab f j p q := by
  unfold tab upd
  rw [if_neg (fun z => hj (sl_inj hp hq hn hm z).1)]
theorem o_m1ne {a : Nat} (h : a < 2147483648) : ¬ (Int32.ofNat a = (-1 : Int32)) := by
  intro z
  have e := congrArg Int32.toInt z
  rw [o_i h] at e
  have q : (-1 : Int32).toInt = -1 := by decide
  omega
theorem c_rests {N K m : Nat} {p : Int32} (hm : m ≤ 20) : fX5_rests N K p (Int32.ofNat m) = some (bi (rs p.toInt m)) := by
  have q0 : (0 : Int32).toInt = 0 := by decide
  unfold fX5_rests rs
  by_cases e : p.toInt ≤ 0
  · rw [if_pos (by rw [Int32.le_iff_toInt_le]; omega), decide_eq_true (Or.inl e)]; rfl
  · rw [if_neg (by rw [Int32.le_iff_toInt_le]; omega)]
    by_cases e2 : m = 0
    · rw [if_pos (by rw [e2]; rfl), decide_eq_true (Or.inr e2)]; rfl
    · rw [if_neg (by rw [show (0 : Int32) = Int32.ofNat 0 from rfl, o_eq (by omega) (by omega)]; exact e2), decide_eq_false (by omega)]; rfl
theorem p_0 {p : Int32} (h : p.toInt = 0) : p = 0 := Int32.toInt_inj.mp (h.trans (by decide))
theorem c_restw {N K k m : Nat} {p : Int32} (hk : k < 6) (hm : m ≤ 20) : fX5_restingWorth N K (Int32.ofNat k) p (Int32.ofNat m) = some (rv k p.toInt m) := by
  have q0 : (0 : Int32).toInt = 0 := by decide
  have z16 : fX5_restingWorth_16 N K (Int32.ofNat k) p (Int32.ofNat m) = some (if m = 0 then 1 else 0) := by
    unfold fX5_restingWorth_16
    by_cases e2 : m = 0
    · rw [if_pos (by rw [e2]; rfl), if_pos e2]
    · rw [if_neg (by rw [show (0 : Int32) = Int32.ofNat 0 from rfl, o_eq (by omega) (by omega)]; exact e2), if_neg e2]
  unfold fX5_restingWorth rv
  by_cases e : p.toInt = 0
  · rw [if_pos (p_0 e)]
    by_cases k1 : k = 1
    · rw [if_pos (by rw [k1]; rfl), z16]
      by_cases e2 : m = 0
      · rw [if_pos e2, if_pos ⟨e, Or.inl e2⟩]
      · rw [if_neg e2, if_neg (by omega)]
    · rw [if_neg (by rw [show (1 : Int32) = Int32.ofNat 1 from rfl, o_eq (by omega) (by omega)]; exact k1)]
      by_cases k5 : k = 5
      · rw [if_pos (by rw [k5]; rfl), z16]
        by_cases e2 : m = 0
        · rw [if_pos e2, if_pos ⟨e, Or.inl e2⟩]
        · rw [if_neg e2, if_neg (by omega)]
      · rw [if_neg (by rw [show (5 : Int32) = Int32.ofNat 5 from rfl, o_eq (by omega) (by omega)]; exact k5), if_pos ⟨e, Or.inr ⟨k1, k5⟩⟩]
  · rw [if_neg (fun z => e (by rw [z]; exact q0)), if_neg (fun z => e z.1)]
theorem c_slot {N K k n m : Nat} (hk : k < 6) (hn : n ≤ 20) (hm : m ≤ 20) : fX2_slotOf N K (Int32.ofNat k) (Int32.ofNat n) (Int32.ofNat m) = some (Int32.ofNat (sl k n m)) := by
  have n0 : ∀ a, a < 100 → ¬ (Int32.ofNat a < (0 : Int32)) := fun a ha => by rw [show (0 : Int32) = Int32.ofNat 0 from rfl, o_lt (by omega) (by omega)]; omega
  unfold fX2_slotOf
  rw [if_neg (n0 k (by omega)), if_neg (by rw [show (6 : Int32) = Int32.ofNat 6 from rfl, o_le (by omega) (by omega)]; omega), if_neg (n0 n (by omega)), if_neg (n_20 hn), if_neg (n0 m (by omega)), if_pos (by rw [show (20 : Int32) = Int32.ofNat 20 from rfl, o_le (by omega) (by omega)]; exact hm), show (21 : Int32) = Int32.ofNat 21 from rfl, o_mul, o_add, o_mul, o_add]
  rfl
/-- a leg's number, as an int -/
def lnI (k w n m : Nat) : Int32 := if w = 1 ∨ k = 5 then Int32.ofNat n - Int32.ofNat m else if k = 1 then Int32.ofNat n - (1 : Int32) else Int32.ofNat n
theorem lnI_i {k w n m : Nat} (hn : n ≤ 20) (hm : m ≤ 20) : (lnI k w n m).toInt = ln k w (n : Int) m := by
  unfold lnI ln
  by_cases e : w = 1 ∨ k = 5
  · rw [if_pos e, if_pos e, o_subi hn (by omega)]
  · rw [if_neg e, if_neg e]
    by_cases e1 : k = 1
    · rw [if_pos e1, if_pos e1, show (1 : Int32) = Int32.ofNat 1 from rfl, o_subi hn (by omega)]
      rfl
    · rw [if_neg e1, if_neg e1, o_i (by omega)]
theorem c_legs {N K : Nat} {rec : Int32 → (Nat → Int32) → Int32 → Int32 → Int32 → Int32 → Int32 → Int32 → Int32 → Int32 → Int32 → Int32 → Option (Int32 × Int32 × (Nat → Int32) × Int32 × Int32 × Int32)} {k n m : Nat} (hk : k < 6) (hn : n ≤ 20) (hm1 : 1 ≤ m) (hm : m ≤ 20) {sz : Int32} {f : Nat → Int32} {c0 c1 c2 c3 c4 c5 dep : Int32} {A0 A1 : Int32 × Int32 × (Nat → Int32) × Int32 × Int32 × Int32}
    (e0 : rec sz f c0 c1 c2 c3 c4 c5 (Int32.ofNat k) (lnI k 0 n m) (Int32.ofNat (lm k 0 m)) dep = some A0)
    (e1 : hl k 1 m = true → rec A0.2.1 A0.2.2.1 c0 A0.2.2.2.1 A0.2.2.2.2.1 A0.2.2.2.2.2 c4 c5 (Int32.ofNat k) (lnI k 1 n m) (Int32.ofNat (lm k 1 m)) dep = some A1) :
    fX2_sumOfLegs N K rec sz f c0 c1 c2 c3 c4 c5 (Int32.ofNat k) (Int32.ofNat n) (Int32.ofNat m) dep = some (if hl k 1 m = true then (A0.1 + A1.1, A1.2) else (A0.1 + 0, A0.2)) := by
  have hs : Int32.ofNat m - (1 : Int32) = Int32.ofNat (m - 1) := by rw [show (1 : Int32) = Int32.ofNat 1 from rfl, o_sub hm1]
  have hk6 : k = 0 ∨ k = 1 ∨ k = 2 ∨ k = 3 ∨ k = 4 ∨ k = 5 := by omega
  unfold fX2_sumOfLegs
  by_cases par : m % 2 = 0
  · rw [if_pos (by rw [o_par (by omega)]; exact par)]
    rcases hk6 with rfl | rfl | rfl | rfl | rfl | rfl
    · unfold fX2_sumOfLegs_11
      rw [if_pos (by decide)]
      have f0 : rec sz f c0 c1 c2 c3 c4 c5 (Int32.ofNat 0) (Int32.ofNat n) (Int32.ofNat (m - 1)) dep = some A0 := e0
      have hh : hl 0 1 m = true := decide_eq_true (Or.inr (Or.inr ⟨by decide, by decide⟩))
      have f1 : rec A0.2.1 A0.2.2.1 c0 A0.2.2.2.1 A0.2.2.2.2.1 A0.2.2.2.2.2 c4 c5 (Int32.ofNat 0) (Int32.ofNat n - Int32.ofNat m) (Int32.ofNat m) dep = some A1 := e1 hh
      rw [hs, f0, Option.bind_some, f1, Option.bind_some, if_pos hh]
    · unfold fX2_sumOfLegs_11
      rw [if_neg (by decide), if_pos (by decide)]
      have f0 : rec sz f c0 c1 c2 c3 c4 c5 (Int32.ofNat 1) (Int32.ofNat n - (1 : Int32)) (Int32.ofNat (m - 1)) dep = some A0 := e0
      have hh : hl 1 1 m = true := decide_eq_true (Or.inr (Or.inr ⟨by decide, by decide⟩))
      have f1 : rec A0.2.1 A0.2.2.1 c0 A0.2.2.2.1 A0.2.2.2.2.1 A0.2.2.2.2.2 c4 c5 (Int32.ofNat 1) (Int32.ofNat n - Int32.ofNat m) (Int32.ofNat m) dep = some A1 := e1 hh
      rw [hs, f0, Option.bind_some, f1, Option.bind_some, if_pos hh]
    · unfold fX2_sumOfLegs_11
      rw [if_neg (by decide), if_neg (by decide), if_pos (by decide)]
      have f0 : rec sz f c0 c1 c2 c3 c4 c5 (Int32.ofNat 2) (Int32.ofNat n) (Int32.ofNat (m - 1)) dep = some A0 := e0
      have hh : hl 2 1 m = true := decide_eq_true (Or.inr (Or.inr ⟨by decide, by decide⟩))
      have f1 : rec A0.2.1 A0.2.2.1 c0 A0.2.2.2.1 A0.2.2.2.2.1 A0.2.2.2.2.2 c4 c5 (Int32.ofNat 2) (Int32.ofNat n - Int32.ofNat m) (Int32.ofNat (m - 1)) dep = some A1 := e1 hh
      rw [hs, f0, Option.bind_some, f1, Option.bind_some, if_pos hh]
    · unfold fX2_sumOfLegs_11
      rw [if_neg (by decide), if_neg (by decide), if_neg (by decide), if_pos (by decide)]
      have f0 : rec sz f c0 c1 c2 c3 c4 c5 (Int32.ofNat 3) (Int32.ofNat n) (Int32.ofNat (m - 1)) dep = some A0 := e0
      have hh : ¬ hl 3 1 m = true := fun z => absurd (of_decide_eq_true z) (by omega)
      rw [hs, f0, Option.bind_some, if_pos rfl, if_neg hh]
    · unfold fX2_sumOfLegs_11
      rw [if_neg (by decide), if_neg (by decide), if_neg (by decide), if_neg (by decide), if_pos (by decide)]
      have f0 : rec sz f c0 c1 c2 c3 c4 c5 (Int32.ofNat 4) (Int32.ofNat n) (Int32.ofNat (m - 1)) dep = some A0 := e0
      have hh : ¬ hl 4 1 m = true := fun z => absurd (of_decide_eq_true z) (by omega)
      rw [hs, f0, Option.bind_some, if_pos rfl, if_neg hh]
    · unfold fX2_sumOfLegs_11
      rw [if_neg (by decide), if_neg (by decide), if_neg (by decide), if_neg (by decide), if_neg (by decide)]
      have f0 : rec sz f c0 c1 c2 c3 c4 c5 (Int32.ofNat 5) (Int32.ofNat n - Int32.ofNat m) (Int32.ofNat m) dep = some A0 := e0
      have hh : hl 5 1 m = true := decide_eq_true (Or.inr (Or.inr ⟨by decide, by decide⟩))
      have f1 : rec A0.2.1 A0.2.2.1 c0 A0.2.2.2.1 A0.2.2.2.2.1 A0.2.2.2.2.2 c4 c5 (Int32.ofNat 5) (Int32.ofNat n - Int32.ofNat m) (Int32.ofNat (m - 1)) dep = some A1 := e1 hh
      rw [hs, f0, Option.bind_some, f1, Option.bind_some, if_pos hh]
  · rw [if_neg (by rw [o_par (by omega)]; exact par)]
    rcases hk6 with rfl | rfl | rfl | rfl | rfl | rfl
    · unfold fX2_sumOfLegs_11
      rw [if_pos (by decide)]
      have f0 : rec sz f c0 c1 c2 c3 c4 c5 (Int32.ofNat 0) (Int32.ofNat n) (Int32.ofNat (m - 1)) dep = some A0 := e0
      have hh : hl 0 1 m = true := decide_eq_true (Or.inr (Or.inr ⟨by decide, by decide⟩))
      have f1 : rec A0.2.1 A0.2.2.1 c0 A0.2.2.2.1 A0.2.2.2.2.1 A0.2.2.2.2.2 c4 c5 (Int32.ofNat 0) (Int32.ofNat n - Int32.ofNat m) (Int32.ofNat m) dep = some A1 := e1 hh
      rw [hs, f0, Option.bind_some, f1, Option.bind_some, if_pos hh]
    · unfold fX2_sumOfLegs_11
      rw [if_neg (by decide), if_pos (by decide)]
      have f0 : rec sz f c0 c1 c2 c3 c4 c5 (Int32.ofNat 1) (Int32.ofNat n - (1 : Int32)) (Int32.ofNat (m - 1)) dep = some A0 := e0
      have hh : hl 1 1 m = true := decide_eq_true (Or.inr (Or.inr ⟨by decide, by decide⟩))
      have f1 : rec A0.2.1 A0.2.2.1 c0 A0.2.2.2.1 A0.2.2.2.2.1 A0.2.2.2.2.2 c4 c5 (Int32.ofNat 1) (Int32.ofNat n - Int32.ofNat m) (Int32.ofNat m) dep = some A1 := e1 hh
      rw [hs, f0, Option.bind_some, f1, Option.bind_some, if_pos hh]
    · unfold fX2_sumOfLegs_11
      rw [if_neg (by decide), if_neg (by decide), if_pos (by decide)]
      have f0 : rec sz f c0 c1 c2 c3 c4 c5 (Int32.ofNat 2) (Int32.ofNat n) (Int32.ofNat (m - 1)) dep = some A0 := e0
      have hh : hl 2 1 m = true := decide_eq_true (Or.inr (Or.inr ⟨by decide, by decide⟩))
      have f1 : rec A0.2.1 A0.2.2.1 c0 A0.2.2.2.1 A0.2.2.2.2.1 A0.2.2.2.2.2 c4 c5 (Int32.ofNat 2) (Int32.ofNat n - Int32.ofNat m) (Int32.ofNat (m - 1)) dep = some A1 := e1 hh
      rw [hs, f0, Option.bind_some, f1, Option.bind_some, if_pos hh]
    · unfold fX2_sumOfLegs_11
      rw [if_neg (by decide), if_neg (by decide), if_neg (by decide), if_pos (by decide)]
      have f0 : rec sz f c0 c1 c2 c3 c4 c5 (Int32.ofNat 3) (Int32.ofNat n) (Int32.ofNat (m - 1)) dep = some A0 := e0
      have hh : hl 3 1 m = true := decide_eq_true (Or.inr (Or.inl (by omega)))
      have f1 : rec A0.2.1 A0.2.2.1 c0 A0.2.2.2.1 A0.2.2.2.2.1 A0.2.2.2.2.2 c4 c5 (Int32.ofNat 3) (Int32.ofNat n - Int32.ofNat m) (Int32.ofNat m) dep = some A1 := e1 hh
      rw [hs, f0, Option.bind_some, if_neg (by decide), f1, Option.bind_some, if_pos hh]
    · unfold fX2_sumOfLegs_11
      rw [if_neg (by decide), if_neg (by decide), if_neg (by decide), if_neg (by decide), if_pos (by decide)]
      have f0 : rec sz f c0 c1 c2 c3 c4 c5 (Int32.ofNat 4) (Int32.ofNat n) (Int32.ofNat (m - 1)) dep = some A0 := e0
      have hh : hl 4 1 m = true := decide_eq_true (Or.inr (Or.inl (by omega)))
      have f1 : rec A0.2.1 A0.2.2.1 c0 A0.2.2.2.1 A0.2.2.2.2.1 A0.2.2.2.2.2 c4 c5 (Int32.ofNat 4) (Int32.ofNat n - Int32.ofNat m) (Int32.ofNat (m - 1)) dep = some A1 := e1 hh
      rw [hs, f0, Option.bind_some, if_neg (by decide), f1, Option.bind_some, if_pos hh]
    · unfold fX2_sumOfLegs_11
      rw [if_neg (by decide), if_neg (by decide), if_neg (by decide), if_neg (by decide), if_neg (by decide)]
      have f0 : rec sz f c0 c1 c2 c3 c4 c5 (Int32.ofNat 5) (Int32.ofNat n - Int32.ofNat m) (Int32.ofNat m) dep = some A0 := e0
      have hh : hl 5 1 m = true := decide_eq_true (Or.inr (Or.inr ⟨by decide, by decide⟩))
      have f1 : rec A0.2.1 A0.2.2.1 c0 A0.2.2.2.1 A0.2.2.2.2.1 A0.2.2.2.2.2 c4 c5 (Int32.ofNat 5) (Int32.ofNat n - Int32.ofNat m) (Int32.ofNat (m - 1)) dep = some A1 := e1 hh
      rw [hs, f0, Option.bind_some, f1, Option.bind_some, if_pos hh]
/-! counts -/
def rr (k w n m : Nat) : Nat := if hl k w m = true ∧ ¬ rs (ln k w (n : Int) m) (lm k w m) = true then 1 else 0
/-- how many legs of a case are wanted -/
def nl (k n m : Nat) : Nat := rr k 0 n m + rr k 1 n m
theorem nl_t {k n m : Nat} (h : hl k 1 m = true) : (if rs (ln k 0 (n : Int) m) (lm k 0 m) = true then 0 else 1) + (if rs (ln k 1 (n : Int) m) (lm k 1 m) = true then 0 else 1) = nl k n m := by
  have h0 : hl k 0 m = true := decide_eq_true (Or.inl rfl)
  unfold nl rr
  by_cases a : rs (ln k 0 (n : Int) m) (lm k 0 m) = true
  · by_cases b : rs (ln k 1 (n : Int) m) (lm k 1 m) = true
    · rw [if_pos a, if_pos b, if_neg (fun z => z.2 a), if_neg (fun z => z.2 b)]
    · rw [if_pos a, if_neg b, if_neg (fun z => z.2 a), if_pos ⟨h, b⟩]
  · by_cases b : rs (ln k 1 (n : Int) m) (lm k 1 m) = true
    · rw [if_neg a, if_pos b, if_pos ⟨h0, a⟩, if_neg (fun z => z.2 b)]
    · rw [if_neg a, if_neg b, if_pos ⟨h0, a⟩, if_pos ⟨h, b⟩]
theorem nl_f {k n m : Nat} (h : ¬ hl k 1 m = true) : (if rs (ln k 0 (n : Int) m) (lm k 0 m) = true then 0 else 1) = nl k n m := by
  have h0 : hl k 0 m = true := decide_eq_true (Or.inl rfl)
  unfold nl rr
  rw [if_neg (fun z => h z.1) (c := hl k 1 m = true ∧ ¬ rs (ln k 1 (n : Int) m) (lm k 1 m) = true)]
  by_cases a : rs (ln k 0 (n : Int) m) (lm k 0 m) = true
  · rw [if_pos a, if_neg (fun z => z.2 a)]
  · rw [if_neg a, if_pos ⟨h0, a⟩]
def nlS (s : Nat) : Nat := nl (s / 441) (s / 21 % 21) (s % 21)
theorem nlS_sl {k n m : Nat} (hn : n ≤ 20) (hm : m ≤ 20) : nlS (sl k n m) = nl k n m := by
  unfold nlS
  rw [show sl k n m / 441 = k from by unfold sl; omega, show sl k n m / 21 % 21 = n from by unfold sl; omega, show sl k n m % 21 = m from by unfold sl; omega]
def phn (f : Nat → Int32) : Nat → Nat
  | 0 => 0
  | n + 1 => phn f n + (if f n = -1 then 0 else nlS n)
def phi (f : Nat → Int32) : Nat := phn f 2646
theorem phn_out {f : Nat → Int32} {i : Nat} {v : Int32} : ∀ n, n ≤ i → phn (upd f i v) n = phn f n := by
  intro n
  induction n with
  | zero => intro _; rfl
  | succ n ih =>
    intro h
    show phn (upd f i v) n + (if upd f i v n = -1 then 0 else nlS n) = phn f n + (if f n = -1 then 0 else nlS n)
    have e : upd f i v n = f n := by unfold upd; rw [if_neg (by omega)]
    rw [ih (by omega), e]
theorem phn_upd {f : Nat → Int32} {i : Nat} {v : Int32} : ∀ n, i < n → phn (upd f i v) n + (if f i = -1 then 0 else nlS i) = phn f n + (if v = -1 then 0 else nlS i) := by
  intro n
  induction n with
  | zero => intro h; omega
  | succ n ih =>
    intro h
    show phn (upd f i v) n + (if upd f i v n = -1 then 0 else nlS n) + (if f i = -1 then 0 else nlS i) = phn f n + (if f n = -1 then 0 else nlS n) + (if v = -1 then 0 else nlS i)
    by_cases e : i = n
    · subst e
      rw [phn_out i (Nat.le_refl _), upd_at]
      omega
    · have e2 : upd f i v n = f n := by unfold upd; rw [if_neg (by omega)]
      have := ih (by omega)
      rw [e2]
      omega
theorem phi_upd {f : Nat → Int32} {i : Nat} {v : Int32} (h : i < 2646) : phi (upd f i v) + (if f i = -1 then 0 else nlS i) = phi f + (if v = -1 then 0 else nlS i) := phn_upd 2646 h
theorem phn_congr {f g : Nat → Int32} : ∀ n, (∀ s, s < n → g s = f s) → phn g n = phn f n := by
  intro n
  induction n with
  | zero => intro _; rfl
  | succ n ih =>
    intro h
    show phn g n + (if g n = -1 then 0 else nlS n) = phn f n + (if f n = -1 then 0 else nlS n)
    rw [ih (fun s hs => h s (by omega)), h n (by omega)]
theorem o_a2 {c : Int32} {a b : Nat} : c + Int32.ofNat a + Int32.ofNat b = c + Int32.ofNat (a + b) := by rw [Int32.add_assoc, o_add]
theorem o_a0 {c : Int32} : c = c + Int32.ofNat 0 := (Int32.add_zero c).symm
/-- what is wanted, made, found between two contents (r: the cases asked for) -/
def CK (f f' : Nat → Int32) (r : Nat) (c1 c1' c2 c2' c3 c3' : Int32) : Prop := ∃ w d : Nat, d ≤ w ∧ w + phi f = phi f' + r ∧ cnt f' = cnt f + d ∧ c1' = c1 + Int32.ofNat w ∧ c2' = c2 + Int32.ofNat d ∧ c3' = c3 + Int32.ofNat (w - d)
theorem CK.r {f : Nat → Int32} {c1 c2 c3 : Int32} : CK f f 0 c1 c1 c2 c2 c3 c3 := ⟨0, 0, Nat.le_refl _, by omega, by omega, o_a0, o_a0, o_a0⟩
theorem CK.found {f : Nat → Int32} {c1 c2 c3 : Int32} : CK f f 1 c1 (c1 + (1 : Int32)) c2 c2 c3 (c3 + (1 : Int32)) := ⟨1, 0, by omega, by omega, by omega, rfl, o_a0, rfl⟩
theorem CK.trans {f f1 f2 : Nat → Int32} {r1 r2 : Nat} {a1 b1 e1 a2 b2 e2 a3 b3 e3 : Int32} (h : CK f f1 r1 a1 b1 a2 b2 a3 b3) (g : CK f1 f2 r2 b1 e1 b2 e2 b3 e3) : CK f f2 (r1 + r2) a1 e1 a2 e2 a3 e3 := by
  obtain ⟨w, d, h0, h1, h2, rfl, rfl, rfl⟩ := h
  obtain ⟨w', d', g0, g1, g2, rfl, rfl, rfl⟩ := g
  exact ⟨w + w', d + d', by omega, by omega, by omega, o_a2, o_a2, by rw [o_a2, show w - d + (w' - d') = w + w' - (d + d') from by omega]⟩
theorem CK.made {f f3 : Nat → Int32} {i r : Nat} {v c1 d1 c2 d2 c3 d3 : Int32} (h : CK f f3 r (c1 + (1 : Int32)) d1 c2 d2 c3 d3) (hi : i < 2646) (hu : f3 i = -1) (hv : ¬ v = -1) (hn : nlS i = r) : CK f (upd f3 i v) 1 c1 d1 c2 (d2 + (1 : Int32)) c3 d3 := by
  obtain ⟨w, d, h0, h1, h2, rfl, rfl, rfl⟩ := h
  have p := phi_upd (f := f3) (v := v) hi
  have q := cnt_upd (f := f3) (v := v) hi
  rw [if_pos hu, if_neg hv] at p q
  refine ⟨1 + w, d + 1, by omega, by omega, by omega, ?_, ?_, by rw [show 1 + w - (d + 1) = w - d from by omega]⟩
  · exact o_a2 (a := 1)
  · exact o_a2 (b := 1)
theorem OKF.u {f : Nat → Int32} (h : OKF f) {k : Nat} (hk : k < 6) : OKT (tab f k) := h k hk
theorem Fil.r {T : Nat → Nat → Int32} {k m : Nat} {x : Int} (hx : x ≤ 20) (hm : m ≤ 20) (h : rs x m = true ∨ ¬ T x.toNat m = -1) : Fil T T k x m := by
  intro p q _ _
  refine ⟨fun z => ?_, fun _ => rfl⟩
  obtain ⟨a, b, -⟩ := (RR_eq hx hm).mp z
  rcases h with h | h
  · exact absurd h a
  · exact absurd b h
set_option maxHeartbeats 1000000 in
/-- what a memory knows, its contents behind it -/
theorem c_wk {N K k : Nat} (hk : k < 6) {c0 c4 c5 : Int32} : ∀ d fu (x : Int) m dep (p1 sz : Int32) (f : Nat → Int32) (c1 c2 c3 : Int32), p1.toInt = x → x ≤ 20 → m ≤ 20 → x.toNat + m < d → d ≤ fu → dep + d ≤ 46 → OKF f → sz = Int32.ofNat (cnt f) → ∃ sz' f' c1' c2' c3', fX2_worthKnown N K fu sz f c0 c1 c2 c3 c4 c5 (Int32.ofNat k) p1 (Int32.ofNat m) (Int32.ofNat dep) = some (VV (tab f k) k x m, sz', f', c1', c2', c3') ∧ sz' = Int32.ofNat (cnt f') ∧ Fil (tab f k) (tab f' k) k x m ∧ OKF f' ∧ CK f f' (if rs x m = true then 0 else 1) c1 c1' c2 c2' c3 c3' ∧ ∀ j, j ≠ k → ∀ p q, p ≤ 20 → q ≤ 20 → tab f' j p q = tab f j p q := by
  intro d
  induction d with
  | zero => intro fu x m dep p1 sz f c1 c2 c3 _ _ _ h; omega
  | succ d ih =>
    intro fu x m dep p1 sz f c1 c2 c3 hp hx hm hd hfu hdep hf hsz
    obtain ⟨fu, rfl⟩ : ∃ z, fu = z + 1 := ⟨fu - 1, by omega⟩
    have hT := hf k hk
    unfold fX2_worthKnown
    rw [c_rests hm, Option.bind_some, hp]
    by_cases r : rs x m = true
    · refine ⟨sz, f, c1, c2, c3, ?_, hsz, Fil.r hx hm (Or.inl r), hf, by rw [if_pos r]; exact CK.r, fun _ _ _ _ _ _ => rfl⟩
      rw [r, if_neg bitn, c_restw hk hm, Option.bind_some, hp, VV_eq hx hm, if_pos r]
    · obtain ⟨g1, g2⟩ := rs_f r
      rw [Bool.eq_false_iff.mpr r, if_pos bif0]
      obtain ⟨n, rfl, n1, n2⟩ := o_of (p := p1) (a := 1) (b := 20) (by omega) (by omega)
      have en : (Int32.ofNat n).toInt = (n : Int) := o_i (by omega)
      obtain rfl : x = (n : Int) := by omega
      have ent : ((n : Int)).toNat = n := by omega
      rw [ent] at hd
      have hsl := sl_lt hk n2 hm
      have hv := VV_eq (T := tab f k) (k := k) hx hm
      rw [if_neg r, ent] at hv
      rw [c_slot hk n2 hm, Option.bind_some, if_neg (o_m1ne (by omega)), if_pos (by rw [show (45 : Int32) = Int32.ofNat 45 from rfl, o_le (by omega) (by omega)]; omega), if_neg (o_ob hsl (by omega)), o_c (by omega)]
      by_cases u : f (sl k n m) = -1
      · have hu : tab f k n m = -1 := u
        rw [if_pos hu] at hv
        have l0 := leg_lt (k := k) (w := 0) (by omega) r
        have l1 := leg_lt (k := k) (w := 1) (by omega) r
        rw [ent] at l0 l1
        obtain ⟨e1, -, e2⟩ := leg_bd (k := k) (w := 0) hx hm r
        obtain ⟨e3, -, e4⟩ := leg_bd (k := k) (w := 1) hx hm r
        obtain ⟨sz1, f1, a1, a2, a3, i1, i2, i3, i4, i6, i5⟩ := ih fu (ln k 0 (n : Int) m) (lm k 0 m) (dep + 1) (lnI k 0 n m) sz f (c1 + (1 : Int32)) c2 c3 (lnI_i n2 hm) e1 e2 (by omega) (by omega) (by omega) hf hsz
        obtain ⟨sz2, f2, b1, b2, b3, j1, j2, j3, j4, j6, j5⟩ := ih fu (ln k 1 (n : Int) m) (lm k 1 m) (dep + 1) (lnI k 1 n m) sz1 f1 a1 a2 a3 (lnI_i n2 hm) e3 e4 (by omega) (by omega) (by omega) i4 i2
        have hvl := Fil.V hT hk e1 e2 i3 ((ln k 1 (n : Int) m).toNat + lm k 1 m + 1) _ _ (by omega) e3 e4
        have legs := c_legs (N := N) (K := K) (rec := fX2_worthKnown N K fu) hk n2 g2 hm i1 (fun _ => j1)
        rw [if_pos u, o_1, legs, Option.bind_some]
        -- the contents behind the legs
        obtain ⟨sz3, f3, d1, d2, d3, he, hs3, hfil, hok, hck, hoth⟩ : ∃ sz3 f3 d1 d2 d3, (if hl k 1 m = true then ((VV (tab f k) k (ln k 0 (n : Int) m) (lm k 0 m), sz1, f1, a1, a2, a3).1 + (VV (tab f1 k) k (ln k 1 (n : Int) m) (lm k 1 m), sz2, f2, b1, b2, b3).1, (VV (tab f1 k) k (ln k 1 (n : Int) m) (lm k 1 m), sz2, f2, b1, b2, b3).2) else ((VV (tab f k) k (ln k 0 (n : Int) m) (lm k 0 m), sz1, f1, a1, a2, a3).1 + 0, (VV (tab f k) k (ln k 0 (n : Int) m) (lm k 0 m), sz1, f1, a1, a2, a3).2)) = (VV (tab f k) k (n : Int) m, sz3, f3, d1, d2, d3) ∧ sz3 = Int32.ofNat (cnt f3) ∧ (∀ p q, p ≤ 20 → q ≤ 20 → ((RR (tab f k) k (ln k 0 (n : Int) m) (lm k 0 m) p q ∨ (hl k 1 m = true ∧ RR (tab f k) k (ln k 1 (n : Int) m) (lm k 1 m) p q)) → tab f3 k p q = VV (tab f k) k p q) ∧ (¬ (RR (tab f k) k (ln k 0 (n : Int) m) (lm k 0 m) p q ∨ (hl k 1 m = true ∧ RR (tab f k) k (ln k 1 (n : Int) m) (lm k 1 m) p q)) → tab f3 k p q = tab f k p q)) ∧ OKF f3 ∧ CK f f3 (nl k n m) (c1 + (1 : Int32)) d1 c2 d2 c3 d3 ∧ ∀ j, j ≠ k → ∀ p q, p ≤ 20 → q ≤ 20 → tab f3 j p q = tab f j p q := by
          by_cases hh : hl k 1 m = true
          · rw [if_pos hh] at hv
            refine ⟨sz2, f2, b1, b2, b3, ?_, j2, ?_, j4, by rw [← nl_t hh]; exact CK.trans i6 j6, fun j hj p q hp2 hq2 => (j5 j hj p q hp2 hq2).trans (i5 j hj p q hp2 hq2)⟩
            · rw [if_pos hh, hv]
              show (VV (tab f k) k (ln k 0 (n : Int) m) (lm k 0 m) + VV (tab f1 k) k (ln k 1 (n : Int) m) (lm k 1 m), sz2, f2, b1, b2, b3) = _
              rw [hvl]
            · intro p q hp2 hq2
              have hpv := Fil.V hT hk e1 e2 i3 (((p : Nat) : Int).toNat + q + 1) (p : Int) q (by omega) (by omega) hq2
              constructor
              · intro z
                by_cases z1 : RR (tab f1 k) k (ln k 1 (n : Int) m) (lm k 1 m) p q
                · rw [(j3 p q hp2 hq2).1 z1, hpv]
                · rw [(j3 p q hp2 hq2).2 z1]
                  have z0 : RR (tab f k) k (ln k 0 (n : Int) m) (lm k 0 m) p q := by
                    rcases z with z | ⟨-, z⟩
                    · exact z
                    · rcases Fil.sup e1 e2 i3 ((ln k 1 (n : Int) m).toNat + lm k 1 m + 1) _ _ (by omega) e3 e4 z with a | a
                      · exact absurd a z1
                      · exact a
                  exact (i3 p q hp2 hq2).1 z0
              · intro z
                have z1 : ¬ RR (tab f1 k) k (ln k 1 (n : Int) m) (lm k 1 m) p q := fun a => z (Or.inr ⟨hh, Fil.sub hT hk i3 ((ln k 1 (n : Int) m).toNat + lm k 1 m + 1) _ _ (by omega) e3 e4 a⟩)
                rw [(j3 p q hp2 hq2).2 z1]
                exact (i3 p q hp2 hq2).2 (fun a => z (Or.inl a))
          · rw [if_neg hh] at hv
            refine ⟨sz1, f1, a1, a2, a3, ?_, i2, ?_, i4, by rw [← nl_f hh]; exact i6, i5⟩
            · rw [if_neg hh, hv]
            · intro p q hp2 hq2
              constructor
              · intro z
                rcases z with z | ⟨z, -⟩
                · exact (i3 p q hp2 hq2).1 z
                · exact absurd z hh
              · intro z
                exact (i3 p q hp2 hq2).2 (fun a => z (Or.inl a))
        rw [he]
        have hnr : ¬ (RR (tab f k) k (ln k 0 (n : Int) m) (lm k 0 m) n m ∨ (hl k 1 m = true ∧ RR (tab f k) k (ln k 1 (n : Int) m) (lm k 1 m) n m)) := by
          rintro (z | ⟨-, z⟩)
          · have := (RR_un ((ln k 0 (n : Int) m).toNat + lm k 0 m + 1) _ _ (by omega) e1 e2 z).2.2.2.2.2
            omega
          · have := (RR_un ((ln k 1 (n : Int) m).toNat + lm k 1 m + 1) _ _ (by omega) e3 e4 z).2.2.2.2.2
            omega
        have hu3 : f3 (sl k n m) = -1 := ((hfil n m n2 hm).2 hnr).trans hu
        have hvn : ¬ VV (tab f k) k (n : Int) m = -1 := VV_ne hT hk hx hm
        have hc := cnt_upd (f := f3) (v := VV (tab f k) k (n : Int) m) hsl
        rw [if_pos hu3, if_neg hvn, Nat.add_zero] at hc
        have hfin : Fil (tab f k) (tab (upd f3 (sl k n m) (VV (tab f k) k (n : Int) m)) k) k (n : Int) m := by
          intro p q hp2 hq2
          rw [tab_at n2 hm hp2 hq2]
          constructor
          · intro z
            by_cases c : n = p ∧ m = q
            · rw [if_pos c, c.1, c.2]
            · rw [if_neg c]
              obtain ⟨-, -, z2⟩ := (RR_eq hx hm).mp z
              rw [ent] at z2
              rcases z2 with z2 | z2
              · exact absurd z2 c
              · exact (hfil p q hp2 hq2).1 z2
          · intro z
            have c : ¬ (n = p ∧ m = q) := by
              rintro ⟨rfl, rfl⟩
              exact z (by have s := RR_self (T := tab f k) (k := k) hx hm r (by rw [ent]; exact hu); rw [ent] at s; exact s)
            rw [if_neg c]
            exact (hfil p q hp2 hq2).2 (fun a => z ((RR_eq hx hm).mpr ⟨r, by rw [ent]; exact hu, Or.inr a⟩))
        refine ⟨Int32.ofNat (cnt (upd f3 (sl k n m) (VV (tab f k) k (n : Int) m))), upd f3 (sl k n m) (VV (tab f k) k (n : Int) m), d1, d2 + (1 : Int32), d3, ?_, rfl, hfin, ?_, by rw [if_neg (by decide)]; exact hck.made hsl hu3 hvn (nlS_sl n2 hm), ?_⟩
        · unfold fX2_keep
          rw [c_slot hk n2 hm, Option.bind_some, if_neg (o_m1ne (by omega)), if_neg (o_ob hsl (by omega)), o_c (by omega), if_pos hu3, if_neg (o_ob2 hsl (by omega)), Option.bind_some, hc, hs3, ← o_1]
        · intro j hj
          by_cases e : j = k
          · rw [e]; exact Fil.ok hT hk hx hm hfin
          · intro p q hp2 hq2
            rw [tab_ne e n2 hm hp2 hq2]
            exact hok j hj p q hp2 hq2
        · intro j hj p q hp2 hq2
          rw [tab_ne hj n2 hm hp2 hq2]
          exact hoth j hj p q hp2 hq2
      · have hu : ¬ tab f k n m = -1 := u
        rw [if_neg hu] at hv
        refine ⟨sz, f, c1 + (1 : Int32), c2, c3 + (1 : Int32), ?_, hsz, Fil.r hx hm (Or.inr (by rw [ent]; exact hu)), hf, by rw [if_neg (by decide)]; exact CK.found, fun _ _ _ _ _ _ => rfl⟩
        rw [if_neg u, if_neg (o_ob2 hsl (by omega)), hv]
        rfl
theorem c_recall {N k n m : Nat} (hk : k < 6) (hn : n ≤ 20) (hm : m ≤ 20) {sz c0 c1 c2 c3 c4 c5 : Int32} {f : Nat → Int32} {K : Nat} (hK : 100 ≤ K) (hf : OKF f) (hsz : sz = Int32.ofNat (cnt f)) : ∃ sz' f' c1' c2' c3', fX2_recall N K sz f c0 c1 c2 c3 c4 c5 (Int32.ofNat k) (Int32.ofNat n) (Int32.ofNat m) = some (VV (tab f k) k (n : Int) m, sz', f', c1', c2', c3') ∧ sz' = Int32.ofNat (cnt f') ∧ Fil (tab f k) (tab f' k) k (n : Int) m ∧ OKF f' ∧ CK f f' (if rs (n : Int) m = true then 0 else 1) c1 c1' c2 c2' c3 c3' ∧ ∀ j, j ≠ k → ∀ p q, p ≤ 20 → q ≤ 20 → tab f' j p q = tab f j p q := by
  obtain ⟨sz', f', c1', c2', c3', h1, h2⟩ := c_wk (N := N) (K := K) hk (c0 := c0) (c4 := c4) (c5 := c5) 45 K (n : Int) m 0 (Int32.ofNat n) sz f c1 c2 c3 (o_i (by omega)) (by omega) hm (by omega) (by omega) (by omega) hf hsz
  refine ⟨sz', f', c1', c2', c3', ?_, h2⟩
  unfold fX2_recall
  rw [show (0 : Int32) = Int32.ofNat 0 from rfl, h1, Option.bind_some]
