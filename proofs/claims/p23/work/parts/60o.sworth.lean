/-! ===== the series tells what the legs tell ===== -/
theorem ofn_at {j : Nat} (hj : 1 ≤ j) : ∀ n i (g : Nat → Int32), j ≤ i → ∀ p, ofn j n i g p = if i ≤ p ∧ p < i + n then g p + ofn j n i g (p - j) else g p := by
  intro n
  induction n with
  | zero => intro i g _ p; rw [if_neg (by omega)]; rfl
  | succ n ih =>
    intro i g hi p
    have e : ofn j (n + 1) i g = ofn j n (i + 1) (upd g i (g i + g (i - j))) := rfl
    have hlow : ∀ q, q < i → ofn j (n + 1) i g q = g q := by
      intro q hq
      rw [e, ih (i + 1) _ (by omega) q, if_neg (by omega)]
      unfold upd
      rw [if_neg (by omega)]
    by_cases c : p = i
    · subst c
      rw [if_pos (by omega), hlow (p - j) (by omega), e, ih (p + 1) _ (by omega) p, if_neg (by omega), upd_at]
    · by_cases d : i ≤ p ∧ p < i + (n + 1)
      · rw [if_pos d, e, ih (i + 1) _ (by omega) p, if_pos (by omega)]
        have : upd g i (g i + g (i - j)) p = g p := by unfold upd; rw [if_neg c]
        rw [this]
      · rw [if_neg d, e, ih (i + 1) _ (by omega) p, if_neg (by omega)]
        unfold upd
        rw [if_neg c]
theorem onc_at {j : Nat} (hj : 1 ≤ j) : ∀ n (g : Nat → Int32), ∀ p, onc j n g p = if j ≤ p ∧ p < j + n then g p + g (p - j) else g p := by
  intro n
  induction n with
  | zero => intro g p; rw [if_neg (by omega)]; rfl
  | succ n ih =>
    intro g p
    have e : onc j (n + 1) g = onc j n (upd g (j + n) (g (j + n) + g n)) := rfl
    rw [e, ih _ p]
    by_cases c : p = j + n
    · subst c
      rw [if_neg (by omega), if_pos (by omega), upd_at, show j + n - j = n from by omega]
    · have e1 : upd g (j + n) (g (j + n) + g n) p = g p := by unfold upd; rw [if_neg c]
      by_cases d : j ≤ p ∧ p < j + n
      · have e2 : upd g (j + n) (g (j + n) + g n) (p - j) = g (p - j) := by unfold upd; rw [if_neg (by omega)]
        rw [if_pos d, if_pos (by omega), e1, e2]
      · rw [if_neg d, if_neg (by omega), e1]
theorem rk_last {odd once : Bool} : ∀ n j (g : Nat → Int32), rk odd once (n + 1) j g = if odd = true ∧ (j + n) % 2 = 0 then rk odd once n j g else tk once (j + n) (rk odd once n j g) := by
  intro n
  induction n with
  | zero => intro j g; rfl
  | succ n ih =>
    intro j g
    have e : rk odd once (n + 1 + 1) j g = rk odd once (n + 1) (j + 1) (if odd = true ∧ j % 2 = 0 then g else tk once j g) := rfl
    rw [e, ih (j + 1), show j + 1 + n = j + (n + 1) from by omega]
    rfl
theorem rowk_0 {k : Nat} (hk : k < 6) {p : Nat} : rowk k 0 p = if p = 0 then 1 else 0 := by
  have e : kLast k 0 = 0 := by unfold kLast; rw [if_neg (by omega)]
  unfold rowk
  rw [e]
  show upd (fun _ => 0) 0 1 p = _
  rfl
theorem rowk_s {k m : Nat} (hk : k < 6) (hm : m < 20) : rowk k (m + 1) = if kOdd k = true ∧ (m + 1) % 2 = 0 then rowk k m else tk (kOnce k) (m + 1) (rowk k m) := by
  have e : ∀ z, kLast k z = z := fun z => by unfold kLast; rw [if_neg (by omega)]
  have l : ∀ z, z ≤ 20 → lastn z = z := by
    intro z hz
    unfold lastn
    by_cases c : z < 20
    · rw [if_pos c]
    · rw [if_neg c]; omega
  unfold rowk
  rw [e, e, l (m + 1) (by omega), l m (by omega), rk_last m 1, show 1 + m = m + 1 from by omega]
/-- a row at a place, 0 ahead of it -/
theorem rat_n {r : Nat → Int32} {x : Int} (h : x < 0) : rat r x = 0 := if_pos h
theorem rat_p {r : Nat → Int32} {x : Int} (h : 0 ≤ x) : rat r x = r x.toNat := if_neg (by omega)
theorem rat_often {r : Nat → Int32} {j : Nat} {x : Int} (hj : 1 ≤ j) (hj2 : j ≤ 20) (hx : x ≤ 20) : rat (ofn j (21 - j) j r) x = rat r x + rat (ofn j (21 - j) j r) (x - j) := by
  by_cases c : x < 0
  · rw [rat_n c, rat_n c, rat_n (by omega), Int32.add_zero]
  · rw [rat_p (by omega), rat_p (by omega), ofn_at hj _ _ _ (Nat.le_refl _) x.toNat]
    by_cases d : (j : Int) ≤ x
    · rw [if_pos (by omega), rat_p (by omega), show (x - (j : Int)).toNat = x.toNat - j from by omega]
    · rw [if_neg (by omega), rat_n (by omega), Int32.add_zero]
theorem rat_once {r : Nat → Int32} {j : Nat} {x : Int} (hj : 1 ≤ j) (hj2 : j ≤ 20) (hx : x ≤ 20) : rat (onc j (21 - j) r) x = rat r x + rat r (x - j) := by
  by_cases c : x < 0
  · rw [rat_n c, rat_n c, rat_n (by omega), Int32.add_zero]
  · rw [rat_p (by omega), rat_p (by omega), onc_at hj _ _ x.toNat]
    by_cases d : (j : Int) ≤ x
    · rw [if_pos (by omega), rat_p (by omega), show (x - (j : Int)).toNat = x.toNat - j from by omega]
    · rw [if_neg (by omega), rat_n (by omega), Int32.add_zero]
theorem rowk_at0 {k : Nat} (hk : k < 6) : ∀ m, m ≤ 20 → rowk k m 0 = 1 := by
  intro m
  induction m with
  | zero => intro _; rw [rowk_0 hk, if_pos rfl]
  | succ m ih =>
    intro hm
    rw [rowk_s hk (by omega)]
    by_cases c : kOdd k = true ∧ (m + 1) % 2 = 0
    · rw [if_pos c]; exact ih (by omega)
    · rw [if_neg c]
      unfold tk
      by_cases o : kOnce k = true
      · rw [if_pos o, onc_at (by omega), if_neg (by omega)]; exact ih (by omega)
      · rw [if_neg o, ofn_at (by omega) _ _ _ (Nat.le_refl _), if_neg (by omega)]; exact ih (by omega)
/-- the series' worth, also of numbers below 0 -/
def spi (k : Nat) (x : Int) (m : Nat) : Int := if k = 1 then x - m else if k = 5 then x - (m * (m + 1) / 2 : Nat) else x
def sw (k : Nat) (x : Int) (m : Nat) : Int32 := rat (rowk k m) (spi k x m)
theorem sw_n {k n m : Nat} : sworth k n m = sw k (n : Int) m := rfl
theorem tri : ∀ m, m < 21 → 1 ≤ m → m * (m + 1) / 2 = m + (m - 1) * m / 2 ∧ 1 ≤ m * (m + 1) / 2 := by decide
theorem sw_rest {k m : Nat} {x : Int} (hk : k < 6) (hx : x ≤ 20) (hm : m ≤ 20) (r : rs x m = true) : sw k x m = rv k x m := by
  have h := rs_t r
  unfold sw rv spi
  by_cases m0 : m = 0
  · subst m0
    have e : (if k = 1 then x - ((0 : Nat) : Int) else if k = 5 then x - ((0 * (0 + 1) / 2 : Nat) : Int) else x) = x := by
      by_cases k1 : k = 1
      · rw [if_pos k1]; omega
      · rw [if_neg k1]
        by_cases k5 : k = 5
        · rw [if_pos k5]; omega
        · rw [if_neg k5]
    rw [e]
    by_cases c : x < 0
    · rw [rat_n c, if_neg (by omega)]
    · rw [rat_p (by omega), rowk_0 hk]
      by_cases d : x = 0
      · rw [if_pos (by omega), if_pos ⟨d, Or.inl rfl⟩]
      · rw [if_neg (by omega), if_neg (by omega)]
  · have hx0 : x ≤ 0 := by omega
    obtain ⟨-, t2⟩ := tri m (by omega) (by omega)
    by_cases k1 : k = 1
    · rw [if_pos k1, rat_n (by omega), if_neg (by omega)]
    · rw [if_neg k1]
      by_cases k5 : k = 5
      · rw [if_pos k5, rat_n (by omega), if_neg (by omega)]
      · rw [if_neg k5]
        by_cases c : x = 0
        · rw [c, rat_p (by omega), if_pos ⟨rfl, Or.inr ⟨k1, k5⟩⟩]
          exact rowk_at0 hk m hm
        · rw [rat_n (by omega), if_neg (by omega)]
theorem sw_legs {k m : Nat} {x : Int} (hk : k < 6) (hx : x ≤ 20) (hm : m ≤ 20) (r : ¬ rs x m = true) : sw k x m = sw k (ln k 0 x m) (lm k 0 m) + (if hl k 1 m = true then sw k (ln k 1 x m) (lm k 1 m) else 0) := by
  obtain ⟨g1, g2⟩ := rs_f r
  obtain ⟨m, rfl⟩ : ∃ z, m = z + 1 := ⟨m - 1, by omega⟩
  have hs := rowk_s hk (show m < 20 by omega)
  have hk6 : k = 0 ∨ k = 1 ∨ k = 2 ∨ k = 3 ∨ k = 4 ∨ k = 5 := by omega
  have hc : ((m + 1 : Nat) : Int) = (m : Int) + 1 := by omega
  have mm : m + 1 - 1 = m := by omega
  rcases hk6 with rfl | rfl | rfl | rfl | rfl | rfl
  · have e : rowk 0 (m + 1) = ofn (m + 1) (21 - (m + 1)) (m + 1) (rowk 0 m) := hs
    have q := rat_often (r := rowk 0 m) (j := m + 1) (x := x) (by omega) hm hx
    rw [← e] at q
    rw [if_pos (show hl 0 1 (m + 1) = true from decide_eq_true (Or.inr (Or.inr ⟨by decide, by decide⟩)))]
    show rat (rowk 0 (m + 1)) x = rat (rowk 0 (m + 1 - 1)) x + rat (rowk 0 (m + 1)) (x - ((m + 1 : Nat) : Int))
    rw [mm]
    exact q
  · have e : rowk 1 (m + 1) = ofn (m + 1) (21 - (m + 1)) (m + 1) (rowk 1 m) := hs
    have q := rat_often (r := rowk 1 m) (j := m + 1) (x := x - ((m + 1 : Nat) : Int)) (by omega) hm (by omega)
    rw [← e] at q
    rw [if_pos (show hl 1 1 (m + 1) = true from decide_eq_true (Or.inr (Or.inr ⟨by decide, by decide⟩)))]
    show rat (rowk 1 (m + 1)) (x - ((m + 1 : Nat) : Int)) = rat (rowk 1 (m + 1 - 1)) (x - 1 - ((m + 1 - 1 : Nat) : Int)) + rat (rowk 1 (m + 1)) (x - ((m + 1 : Nat) : Int) - ((m + 1 : Nat) : Int))
    rw [mm, q, show x - 1 - (m : Int) = x - ((m + 1 : Nat) : Int) from by omega]
  · have e : rowk 2 (m + 1) = onc (m + 1) (21 - (m + 1)) (rowk 2 m) := hs
    have q := rat_once (r := rowk 2 m) (j := m + 1) (x := x) (by omega) hm hx
    rw [← e] at q
    rw [if_pos (show hl 2 1 (m + 1) = true from decide_eq_true (Or.inr (Or.inr ⟨by decide, by decide⟩)))]
    show rat (rowk 2 (m + 1)) x = rat (rowk 2 (m + 1 - 1)) x + rat (rowk 2 (m + 1 - 1)) (x - ((m + 1 : Nat) : Int))
    rw [mm]
    exact q
  · by_cases par : (m + 1) % 2 = 0
    · have e : rowk 3 (m + 1) = rowk 3 m := hs.trans (if_pos ⟨rfl, par⟩)
      rw [if_neg (show ¬ hl 3 1 (m + 1) = true from fun z => absurd (of_decide_eq_true z) (by omega)), Int32.add_zero]
      show rat (rowk 3 (m + 1)) x = rat (rowk 3 (m + 1 - 1)) x
      rw [mm, e]
    · have e : rowk 3 (m + 1) = ofn (m + 1) (21 - (m + 1)) (m + 1) (rowk 3 m) := hs.trans (if_neg (fun z => par z.2))
      have q := rat_often (r := rowk 3 m) (j := m + 1) (x := x) (by omega) hm hx
      rw [← e] at q
      rw [if_pos (show hl 3 1 (m + 1) = true from decide_eq_true (Or.inr (Or.inl (by omega))))]
      show rat (rowk 3 (m + 1)) x = rat (rowk 3 (m + 1 - 1)) x + rat (rowk 3 (m + 1)) (x - ((m + 1 : Nat) : Int))
      rw [mm]
      exact q
  · by_cases par : (m + 1) % 2 = 0
    · have e : rowk 4 (m + 1) = rowk 4 m := hs.trans (if_pos ⟨rfl, par⟩)
      rw [if_neg (show ¬ hl 4 1 (m + 1) = true from fun z => absurd (of_decide_eq_true z) (by omega)), Int32.add_zero]
      show rat (rowk 4 (m + 1)) x = rat (rowk 4 (m + 1 - 1)) x
      rw [mm, e]
    · have e : rowk 4 (m + 1) = onc (m + 1) (21 - (m + 1)) (rowk 4 m) := hs.trans (if_neg (fun z => par z.2))
      have q := rat_once (r := rowk 4 m) (j := m + 1) (x := x) (by omega) hm hx
      rw [← e] at q
      rw [if_pos (show hl 4 1 (m + 1) = true from decide_eq_true (Or.inr (Or.inl (by omega))))]
      show rat (rowk 4 (m + 1)) x = rat (rowk 4 (m + 1 - 1)) x + rat (rowk 4 (m + 1 - 1)) (x - ((m + 1 : Nat) : Int))
      rw [mm]
      exact q
  · have e : rowk 5 (m + 1) = ofn (m + 1) (21 - (m + 1)) (m + 1) (rowk 5 m) := hs
    obtain ⟨t1, -⟩ := tri (m + 1) (by omega) (by omega)
    rw [mm] at t1
    have q := rat_often (r := rowk 5 m) (j := m + 1) (x := x - (((m + 1) * (m + 1 + 1) / 2 : Nat) : Int)) (by omega) hm (by omega)
    rw [← e] at q
    rw [if_pos (show hl 5 1 (m + 1) = true from decide_eq_true (Or.inr (Or.inr ⟨by decide, by decide⟩)))]
    show rat (rowk 5 (m + 1)) (x - (((m + 1) * (m + 1 + 1) / 2 : Nat) : Int)) = rat (rowk 5 (m + 1)) (x - ((m + 1 : Nat) : Int) - (((m + 1) * (m + 1 + 1) / 2 : Nat) : Int)) + rat (rowk 5 (m + 1 - 1)) (x - ((m + 1 : Nat) : Int) - (((m + 1 - 1) * (m + 1 - 1 + 1) / 2 : Nat) : Int))
    rw [mm, q, Int32.add_comm]
    have ec : (((m + 1) * (m + 1 + 1) / 2 : Nat) : Int) = ((m + 1 : Nat) : Int) + ((m * (m + 1) / 2 : Nat) : Int) := by rw [t1]; omega
    rw [show x - ((m + 1 : Nat) : Int) - ((m * (m + 1) / 2 : Nat) : Int) = x - (((m + 1) * (m + 1 + 1) / 2 : Nat) : Int) from by rw [ec]; omega, show x - (((m + 1) * (m + 1 + 1) / 2 : Nat) : Int) - ((m + 1 : Nat) : Int) = x - ((m + 1 : Nat) : Int) - (((m + 1) * (m + 1 + 1) / 2 : Nat) : Int) from by omega]
theorem sw_VV {k : Nat} (hk : k < 6) : ∀ d (x : Int) m, x.toNat + m < d → x ≤ 20 → m ≤ 20 → sw k x m = VV (fun _ _ => -1) k x m := by
  intro d
  induction d with
  | zero => intro x m h; omega
  | succ d ih =>
    intro x m h hx hm
    rw [VV_eq hx hm]
    by_cases r : rs x m = true
    · rw [if_pos r]; exact sw_rest hk hx hm r
    · have l0 := leg_lt (k := k) (w := 0) (by omega) r
      have l1 := leg_lt (k := k) (w := 1) (by omega) r
      obtain ⟨e1, -, e2⟩ := leg_bd (k := k) (w := 0) hx hm r
      obtain ⟨e3, -, e4⟩ := leg_bd (k := k) (w := 1) hx hm r
      rw [if_neg r, if_pos rfl, sw_legs hk hx hm r, ih _ _ (show (ln k 0 x m).toNat + lm k 0 m < d by omega) e1 e2, ih _ _ (show (ln k 1 x m).toNat + lm k 1 m < d by omega) e3 e4]
theorem sworth_bd {k n m : Nat} (hk : k < 6) (hn1 : 1 ≤ n) (hn : n ≤ 20) (hm1 : 1 ≤ m) (hm : m ≤ 20) : 0 ≤ (sworth k n m).toInt ∧ (sworth k n m).toInt ≤ (tb n m : Int) := by
  rw [sw_n, sw_VV hk ((n : Int).toNat + m + 1) _ _ (by omega) (by omega) hm]
  have b := VV_bd (T := fun _ _ => -1) (k := k) (fun _ _ _ _ => Or.inl rfl) hk ((n : Int).toNat + m + 1) (n : Int) m (by omega) (by omega) hm
  unfold tbx at b
  rw [if_neg (rs_n (by omega) hm1), show ((n : Nat) : Int).toNat = n from by omega] at b
  exact b
