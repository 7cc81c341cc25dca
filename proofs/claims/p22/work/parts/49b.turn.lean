/-! ===== a way turned ===== -/
def tl (w : Nat → Nat) : Nat → Nat
  | 0 => 0
  | m + 1 => tl w m + w (20 - m)
def cn (w : Nat → Nat) : Nat → Nat → Nat
  | 0 => fun _ => 0
  | m + 1 => if tl w (m + 1) = 0 then cn w m else upm (cn w m) (tl w (m + 1)) (cn w m (tl w (m + 1)) + 1)
def turnw (w : Nat → Nat) : Nat → Nat := cn w 20
theorem tl_all (w : Nat → Nat) : tl w 20 = wp w := by
  simp only [tl, wp, sm, Nat.reduceAdd, Nat.reduceSub, Nat.zero_add, Nat.sub_zero]
  omega
theorem tl_mono {w : Nat → Nat} {m : Nat} : ∀ {n : Nat}, m ≤ n → tl w m ≤ tl w n := by
  intro n
  induction n with
  | zero => intro h; obtain rfl : m = 0 := by omega
            exact Nat.le_refl _
  | succ n ih =>
    intro h
    by_cases e : m = n + 1
    · subst e; exact Nat.le_refl _
    · exact Nat.le_trans (ih (by omega)) (Nat.le_add_right _ _)
theorem tl_le {w : Nat → Nat} {m : Nat} (h : m ≤ 20) : tl w m ≤ wn w := Nat.le_trans (tl_mono h) (by rw [tl_all]; exact wp_le)
theorem tl_sum (w : Nat → Nat) : sm (tl w) 20 = wn w := by
  simp only [sm, tl, wn, Nat.reduceAdd, Nat.reduceSub, Nat.reduceMul, Nat.zero_add, Nat.sub_zero]
  omega
theorem wn_cn {w : Nat → Nat} (hw : wn w ≤ 20) : ∀ m, m ≤ 20 → wn (cn w m) = sm (tl w) m := by
  intro m
  induction m with
  | zero => intro _; exact wn_0
  | succ m ih =>
    intro h
    have h1 := ih (by omega)
    have h2 := tl_le (w := w) h
    show wn (if tl w (m + 1) = 0 then cn w m else upm (cn w m) (tl w (m + 1)) (cn w m (tl w (m + 1)) + 1)) = sm (tl w) m + tl w (m + 1)
    by_cases e : tl w (m + 1) = 0
    · rw [if_pos e, h1, e, Nat.add_zero]
    · rw [if_neg e]
      have h3 := wn_upm (w := cn w m) (p := tl w (m + 1)) (v := cn w m (tl w (m + 1)) + 1) (by omega) (by omega)
      rw [Nat.mul_add, h1] at h3
      omega
theorem wn_turn {w : Nat → Nat} (hw : wn w ≤ 20) : wn (turnw w) = wn w := (wn_cn hw 20 (Nat.le_refl _)).trans (tl_sum w)
theorem c_turn_ {N K : Nat} {f g : Nat → Int32} {w : Nat → Nat} (hg : Dv g w) (hw : wn w ≤ 20) : ∀ k m fu (h : Nat → Int32), m + k = 20 → k < fu → Dv h (cn w m) → ∃ h2, fX4_becomeTurned_9 N K f g fu (Int32.ofNat (tl w m)) (Int32.ofNat (20 - m)) h = some h2 ∧ Dv h2 (turnw w) := by
  intro k
  induction k with
  | zero =>
    intro m fu h hm hfu hh
    obtain ⟨fu, rfl⟩ : ∃ m, fu = m + 1 := ⟨fu - 1, by omega⟩
    obtain rfl : m = 20 := by omega
    refine ⟨h, ?_, hh⟩
    unfold fX4_becomeTurned_9
    rw [if_pos (by decide)]
  | succ k ih =>
    intro m fu h hm hfu hh
    obtain ⟨fu, rfl⟩ : ∃ m, fu = m + 1 := ⟨fu - 1, by omega⟩
    obtain ⟨j, hj⟩ : ∃ j, 20 - m = j + 1 := ⟨19 - m, by omega⟩
    have ht : tl w m + w (j + 1) = tl w (m + 1) := by show _ = tl w m + w (20 - m); rw [hj]
    have ht2 := tl_le (w := w) (m := m + 1) (by omega)
    have hcn : cn w (m + 1) = if tl w (m + 1) = 0 then cn w m else upm (cn w m) (tl w (m + 1)) (cn w m (tl w (m + 1)) + 1) := rfl
    unfold fX4_becomeTurned_9
    rw [hj, if_neg (o_1le (by omega) (by omega)), if_neg (o_ob (by omega) (by omega)), o_c (by omega), hg _ (by omega) (by omega), o_add, ht, o_m1]
    have hj2 : j = 20 - (m + 1) := by omega
    by_cases e : tl w (m + 1) = 0
    · rw [e, c_put0, Option.bind_some, ← e, hj2]
      exact ih (m + 1) fu h (by omega) (by omega) (by rw [hcn, if_pos e]; exact hh)
    · obtain ⟨g2, h1, h2⟩ := c_put (N := N) (K := K) hh (p := tl w (m + 1)) (t := 1) (by omega) (by omega)
      rw [show (1 : Int32) = Int32.ofNat 1 from rfl, h1, Option.bind_some, hj2]
      exact ih (m + 1) fu g2 (by omega) (by omega) (by rw [hcn, if_neg e]; exact h2)
theorem c_turn {N K : Nat} (hN : 100 ≤ N) {f g : Nat → Int32} {w : Nat → Nat} (h : Dk g w) : ∃ h2, fX4_becomeTurned N K f g = some h2 ∧ Dk h2 (turnw w) := by
  obtain ⟨e, h1, h2⟩ := c_empty (N := N) (K := K) hN (f := f)
  obtain ⟨h3, h4, h5⟩ := c_turn_ (N := N) (K := K) (f := f) h.2 h.1 20 0 N e rfl (by omega) h2
  refine ⟨h3, ?_, by rw [wn_turn h.1]; exact h.1, h5⟩
  unfold fX4_becomeTurned
  rw [h1, Option.bind_some]
  exact h4
theorem m_turn_ {N K : Nat} {g : Nat → Int32} {w : Nat → Nat} (hg : Dv g w) (hw : wn w ≤ 20) : ∀ k m fu (h : Nat → Int32), m + k = 20 → k < fu → Dv h (cn w m) → ∃ h2, fX7_turned_10 N K g fu (Int32.ofNat (tl w m)) (Int32.ofNat (20 - m)) h = some h2 ∧ Dv h2 (turnw w) := by
  intro k
  induction k with
  | zero =>
    intro m fu h hm hfu hh
    obtain ⟨fu, rfl⟩ : ∃ m, fu = m + 1 := ⟨fu - 1, by omega⟩
    obtain rfl : m = 20 := by omega
    refine ⟨h, ?_, hh⟩
    unfold fX7_turned_10
    rw [if_pos (by decide)]
  | succ k ih =>
    intro m fu h hm hfu hh
    obtain ⟨fu, rfl⟩ : ∃ m, fu = m + 1 := ⟨fu - 1, by omega⟩
    obtain ⟨j, hj⟩ : ∃ j, 20 - m = j + 1 := ⟨19 - m, by omega⟩
    have ht : tl w m + w (j + 1) = tl w (m + 1) := by show _ = tl w m + w (20 - m); rw [hj]
    have ht2 := tl_le (w := w) (m := m + 1) (by omega)
    have hcn : cn w (m + 1) = if tl w (m + 1) = 0 then cn w m else upm (cn w m) (tl w (m + 1)) (cn w m (tl w (m + 1)) + 1) := rfl
    unfold fX7_turned_10
    rw [hj, if_neg (o_0lt (by omega) (by omega)), if_neg (o_ob (by omega) (by omega)), o_c (by omega), hg _ (by omega) (by omega), o_add, ht]
    unfold fX7_turned_31
    rw [o_m1]
    have hj2 : j = 20 - (m + 1) := by omega
    by_cases e : tl w (m + 1) = 0
    · rw [if_pos (by rw [e]; decide), hj2]
      exact ih (m + 1) fu h (by omega) (by omega) (by rw [hcn, if_pos e]; exact hh)
    · rw [if_neg (o_0lt (by omega) (by omega)), if_neg (o_ob (by omega) (by omega)), if_neg (o_ob (by omega) (by omega)), o_c (by omega), hh _ (by omega) (by omega), o_1, hj2]
      exact ih (m + 1) fu _ (by omega) (by omega) (by rw [hcn, if_neg e]; exact hh.put)
theorem m_turn {N K : Nat} (hN : 100 ≤ N) {g : Nat → Int32} {w : Nat → Nat} (h : Dk g w) : ∃ h2, fX7_turned N K g = some h2 ∧ Dk h2 (turnw w) := by
  obtain ⟨h3, h4, h5⟩ := m_turn_ (N := N) (K := K) h.2 h.1 20 0 N (fun _ => 0) rfl (by omega) (fun _ _ _ => rfl)
  exact ⟨h3, h4, by rw [wn_turn h.1]; exact h.1, h5⟩
/-! ===== the next way ===== -/
def lsf (w : Nat → Nat) : Nat → Nat → Nat
  | 0, _ => 0
  | n + 1, i => if w i = 0 then lsf w n (i + 1) else i
/-- the least part above 1, or 0 -/
def lst (w : Nat → Nat) : Nat := lsf w 19 2
theorem lsf_is {w : Nat → Nat} : ∀ n i, i + n = 21 → 2 ≤ i → lsf w n i = 0 ∨ (2 ≤ lsf w n i ∧ lsf w n i ≤ 20 ∧ 1 ≤ w (lsf w n i)) := by
  intro n
  induction n with
  | zero => intro i _ _; exact Or.inl rfl
  | succ n ih =>
    intro i hi h2
    unfold lsf
    by_cases e : w i = 0
    · rw [if_pos e]; exact ih (i + 1) (by omega) (by omega)
    · rw [if_neg e]; exact Or.inr ⟨h2, by omega, by omega⟩
theorem lst_is (w : Nat → Nat) : lst w = 0 ∨ (2 ≤ lst w ∧ lst w ≤ 20 ∧ 1 ≤ w (lst w)) := lsf_is 19 2 rfl (Nat.le_refl _)
theorem c_least_ {N K : Nat} {f : Nat → Int32} {w : Nat → Nat} (hf : Dv f w) (hw : wn w ≤ 20) : ∀ n i fu, i + n = 21 → 2 ≤ i → n < fu → fX4_leastAboveOne_2 N K f fu (Int32.ofNat i) = some (Int32.ofNat (lsf w n i)) := by
  intro n
  induction n with
  | zero =>
    intro i fu hi h2 hfu
    obtain ⟨fu, rfl⟩ : ∃ m, fu = m + 1 := ⟨fu - 1, by omega⟩
    obtain rfl : i = 21 := by omega
    unfold fX4_leastAboveOne_2
    rw [if_pos (by decide)]
    rfl
  | succ n ih =>
    intro i fu hi h2 hfu
    obtain ⟨fu, rfl⟩ : ∃ m, fu = m + 1 := ⟨fu - 1, by omega⟩
    have hwi := wn_le1 (w := w) (p := i) (by omega) (by omega)
    unfold fX4_leastAboveOne_2 lsf
    rw [if_neg (n_20 (by omega)), if_neg (o_ob (by omega) (by omega)), o_c (by omega), hf _ (by omega) (by omega), o_1]
    by_cases e : w i = 0
    · rw [if_pos e, if_pos (by rw [e]; decide)]
      exact ih (i + 1) fu (by omega) (by omega) (by omega)
    · rw [if_neg e, if_neg (o_0lt (by omega) (by omega))]
theorem c_least {N K : Nat} (hN : 100 ≤ N) {f : Nat → Int32} {w : Nat → Nat} (hf : Dk f w) : fX4_leastAboveOne N K f = some (Int32.ofNat (lst w)) := c_least_ hf.2 hf.1 19 2 N rfl (Nat.le_refl _) (by omega)
/-- the part p taken down: itself and all parts of 1 written anew -/
def stg (w : Nat → Nat) (p : Nat) : Nat → Nat := upm (upm w p (w p - 1)) 1 0
def stw (w : Nat → Nat) (p : Nat) : Nat → Nat :=
  let g1 := upm (stg w p) (p - 1) (stg w p (p - 1) + (p + w 1) / (p - 1))
  if (p + w 1) % (p - 1) = 0 then g1 else upm g1 ((p + w 1) % (p - 1)) (g1 ((p + w 1) % (p - 1)) + 1)
theorem wn_stg {w : Nat → Nat} {p : Nat} (h2 : 2 ≤ p) (h3 : p ≤ 20) (h1 : 1 ≤ w p) : wn (stg w p) + (p + w 1) = wn w := by
  obtain ⟨v, hv⟩ : ∃ v, w p = v + 1 := ⟨w p - 1, by omega⟩
  have a := wn_upm (w := w) (p := p) (v := v) (by omega) h3
  have b := wn_upm (w := upm w p v) (p := 1) (v := 0) (by omega) (by omega)
  have c : upm w p v 1 = w 1 := by unfold upm; rw [if_neg (by omega)]
  rw [c] at b
  rw [hv, Nat.mul_add] at a
  unfold stg
  rw [hv, show v + 1 - 1 = v from by omega]
  omega
theorem wn_stw {w : Nat → Nat} {p : Nat} (h2 : 2 ≤ p) (h3 : p ≤ 20) (h1 : 1 ≤ w p) : wn (stw w p) = wn w := by
  have a := wn_stg h2 h3 h1
  have b := wn_upm (w := stg w p) (p := p - 1) (v := stg w p (p - 1) + (p + w 1) / (p - 1)) (by omega) (by omega)
  have d := Nat.div_add_mod (p + w 1) (p - 1)
  rw [Nat.mul_add] at b
  have lt : (p + w 1) % (p - 1) < p - 1 := Nat.mod_lt _ (by omega)
  unfold stw
  by_cases e : (p + w 1) % (p - 1) = 0
  · simp only [e, if_true]
    omega
  · simp only [e, if_false]
    have c := wn_upm (w := upm (stg w p) (p - 1) (stg w p (p - 1) + (p + w 1) / (p - 1))) (p := (p + w 1) % (p - 1)) (v := upm (stg w p) (p - 1) (stg w p (p - 1) + (p + w 1) / (p - 1)) ((p + w 1) % (p - 1)) + 1) (by omega) (by omega)
    rw [Nat.mul_add] at c
    omega
theorem o_div {a b : Nat} (ha : a < 2147483648) (hb : b < 2147483648) : Int32.ofNat a / Int32.ofNat b = Int32.ofNat (a / b) := (Int32.ofNat_div ha hb).symm
theorem o_mod {a b : Nat} (ha : a < 2147483648) (hb : b < 2147483648) : Int32.ofNat a % Int32.ofNat b = Int32.ofNat (a % b) := (Int32.ofNat_mod ha hb).symm
theorem c_step {N K : Nat} (hN : 100 ≤ N) {f : Nat → Int32} {w : Nat → Nat} (hf : Dk f w) : ∃ g, fX4_stepOn N K f = some (if lst w = 0 then 0 else 1, g) ∧ Dk g (if lst w = 0 then w else stw w (lst w)) := by
  rcases lst_is w with e | ⟨h2, h3, h1⟩
  · refine ⟨f, ?_, by rw [if_pos e]; exact hf⟩
    unfold fX4_stepOn
    rw [c_least hN hf, Option.bind_some, e, if_pos (by decide), if_pos rfl]
  · have hne : ¬ lst w = 0 := by omega
    rw [if_neg hne, if_neg hne]
    generalize hp : lst w = p at *
    obtain ⟨q, rfl⟩ : ∃ q, p = q + 1 := ⟨p - 1, by omega⟩
    obtain ⟨v, hv⟩ : ∃ v, w (q + 1) = v + 1 := ⟨w (q + 1) - 1, by omega⟩
    have hw1 := wn_le1 (w := w) (p := 1) (by omega) (by omega)
    have hwn := hf.1
    have hs : Dv (upd (upd f (q + 1) (Int32.ofNat v)) 1 (Int32.ofNat 0)) (stg w (q + 1)) := by
      have := (hf.2.put (p := q + 1) (t := v)).put (p := 1) (t := 0)
      unfold stg
      rw [hv]
      exact this
    obtain ⟨g1, a1, a2⟩ := c_put (N := N) (K := K) hs (p := q) (t := (q + 1 + w 1) / q) (by omega) (by omega)
    have lt : (q + 1 + w 1) % q < q := Nat.mod_lt _ (by omega)
    have pre : fX4_stepOn N K f = ((fX4_put N K g1 (Int32.ofNat ((q + 1 + w 1) % q)) (1 : Int32)).bind (fun x61 => (some ((1 : Int32), x61)))) := by
      unfold fX4_stepOn
      rw [c_least hN hf, Option.bind_some, hp, if_neg (by rw [show (2 : Int32) = Int32.ofNat 2 from rfl, o_lt (by omega) (by omega)]; omega), if_pos (by rw [show (20 : Int32) = Int32.ofNat 20 from rfl, o_le (by omega) (by omega)]; omega), if_neg (o_ob (by omega) (by omega)), if_neg (o_ob (by omega) (by omega)), o_c (by omega), hf.2 _ (by omega) h3, hv, o_s1, o_s1, show (1 : Int32).toNatClampNeg = 1 from by decide, hf.2 1 (by omega) (by omega), o_add, o_div (by omega) (by omega), o_mod (by omega) (by omega), if_neg (by rw [show (0 : Int32) = Int32.ofNat 0 from rfl, o_eq (by omega) (by omega)]; omega), show (0 : Int32) = Int32.ofNat 0 from rfl, a1, Option.bind_some, if_neg (by rw [o_eq (by omega) (by omega)]; omega)]
    have hstw : stw w (q + 1) = (if (q + 1 + w 1) % q = 0 then upm (stg w (q + 1)) q (stg w (q + 1) q + (q + 1 + w 1) / q) else upm (upm (stg w (q + 1)) q (stg w (q + 1) q + (q + 1 + w 1) / q)) ((q + 1 + w 1) % q) (upm (stg w (q + 1)) q (stg w (q + 1) q + (q + 1 + w 1) / q) ((q + 1 + w 1) % q) + 1)) := rfl
    have hsum : wn (stw w (q + 1)) ≤ 20 := by rw [wn_stw h2 h3 h1]; exact hf.1
    rw [pre]
    by_cases e : (q + 1 + w 1) % q = 0
    · refine ⟨g1, ?_, hsum, ?_⟩
      · rw [e, c_put0]; rfl
      · rw [hstw, if_pos e]; exact a2
    · obtain ⟨g2, b1, b2⟩ := c_put (N := N) (K := K) a2 (p := (q + 1 + w 1) % q) (t := 1) (by omega) (by omega)
      refine ⟨g2, ?_, hsum, ?_⟩
      · rw [show (1 : Int32) = Int32.ofNat 1 from rfl, b1]; rfl
      · rw [hstw, if_neg e]; exact b2
/-- the reference's loop, behind its first turn -/
theorem m_step_ {N K : Nat} {f0 : Nat → Int32} : ∀ n c fu (g : Nat → Int32) (w : Nat → Nat), c ≤ n → n ≤ 20 → n < fu → Dv g w → ∃ h, fX7_isNext_49 N K f0 fu (Int32.ofNat c) (Int32.ofNat n) g = some (1, h) ∧ Dv h (if c = 0 then w else upm w c (w c + 1)) := by
  intro n
  induction n with
  | zero =>
    intro c fu g w hc hn hfu hg
    obtain ⟨fu, rfl⟩ : ∃ m, fu = m + 1 := ⟨fu - 1, by omega⟩
    refine ⟨g, ?_, by rw [if_pos (by omega)]; exact hg⟩
    unfold fX7_isNext_49
    rw [if_pos (by decide)]
  | succ n ih =>
    intro c fu g w hc hn hfu hg
    obtain ⟨fu, rfl⟩ : ∃ m, fu = m + 1 := ⟨fu - 1, by omega⟩
    unfold fX7_isNext_49
    rw [if_neg (o_0lt (by omega) (by omega)), if_neg (o_ob (by omega) (by omega)), if_neg (by rw [show (0 : Int32) = Int32.ofNat 0 from rfl, o_eq (by omega) (by omega)]; omega), if_neg (o_ob (by omega) (by omega)), if_neg (by rw [show (0 : Int32) = Int32.ofNat 0 from rfl, o_eq (by omega) (by omega)]; omega), o_c (by omega), o_m1, o_div (by omega) (by omega), o_mod (by omega) (by omega), hg _ (by omega) (by omega), o_add]
    by_cases e : c = n + 1
    · subst e
      rw [Nat.mod_self, Nat.div_self (by omega)]
      obtain ⟨h, h1, h2⟩ := ih 0 fu _ (upm w (n + 1) (w (n + 1) + 1)) (by omega) (by omega) (by omega) hg.put
      refine ⟨h, h1, ?_⟩
      rw [if_neg (by omega)]
      rwa [if_pos rfl] at h2
    · rw [Nat.mod_eq_of_lt (by omega), Nat.div_eq_of_lt (by omega)]
      have hg2 : Dv (upd g (n + 1) (Int32.ofNat (w (n + 1) + 0))) w := by
        refine hg.same (fun p a b => ?_)
        unfold upd
        by_cases e2 : p = n + 1
        · rw [if_pos e2, e2, hg _ (by omega) (by omega)]; rfl
        · rw [if_neg e2]
      exact ih c fu _ w (by omega) (by omega) (by omega) hg2
theorem m_step20 {N K : Nat} (hN : 100 ≤ N) {f0 f : Nat → Int32} {w : Nat → Nat} (hf : Dk f w) {p : Nat} (h2 : 2 ≤ p) (h3 : p ≤ 20) (h1 : 1 ≤ w p) : ∃ g, fX7_isNext_20 N K f0 (Int32.ofNat p) f = some (1, g) ∧ Dk g (stw w p) := by
  obtain ⟨q, rfl⟩ : ∃ q, p = q + 1 := ⟨p - 1, by omega⟩
  obtain ⟨v, hv⟩ : ∃ v, w (q + 1) = v + 1 := ⟨w (q + 1) - 1, by omega⟩
  have hw1 := wn_le1 (w := w) (p := 1) (by omega) (by omega)
  have hwn := hf.1
  have hs : Dv (upd (upd f 1 (Int32.ofNat 0)) (q + 1) (Int32.ofNat v)) (stg w (q + 1)) := by
    have h := (hf.2.put (p := 1) (t := 0)).put (p := q + 1) (t := v)
    unfold stg
    rw [hv]
    intro r a b
    rw [h r a b]
    unfold upm
    by_cases e : r = q + 1
    · rw [if_pos e, if_neg (by omega), if_pos e]; rfl
    · rw [if_neg e, if_neg e]
  have lt : (q + 1 + w 1) % q < q := Nat.mod_lt _ (by omega)
  have hstw : stw w (q + 1) = (if (q + 1 + w 1) % q = 0 then upm (stg w (q + 1)) q (stg w (q + 1) q + (q + 1 + w 1) / q) else upm (upm (stg w (q + 1)) q (stg w (q + 1) q + (q + 1 + w 1) / q)) ((q + 1 + w 1) % q) (upm (stg w (q + 1)) q (stg w (q + 1) q + (q + 1 + w 1) / q) ((q + 1 + w 1) % q) + 1)) := rfl
  have hsum : wn (stw w (q + 1)) ≤ 20 := by rw [wn_stw h2 h3 h1]; exact hf.1
  obtain ⟨M, hM⟩ : ∃ M, N = M + 1 := ⟨N - 1, by omega⟩
  obtain ⟨r, hr⟩ : ∃ r, q = r + 1 := ⟨q - 1, by omega⟩
  obtain ⟨h, a1, a2⟩ := m_step_ (N := N) (K := K) (f0 := f0) r ((q + 1 + w 1) % q) M (upd (upd (upd f 1 (Int32.ofNat 0)) (q + 1) (Int32.ofNat v)) q (Int32.ofNat (stg w (q + 1) q + (q + 1 + w 1) / q))) _ (by omega) (by omega) (by omega) hs.put
  refine ⟨h, ?_, hsum, by rw [hstw]; exact a2⟩
  unfold fX7_isNext_20
  rw [if_pos (by rw [show (20 : Int32) = Int32.ofNat 20 from rfl, o_le (by omega) (by omega)]; omega), if_neg (o_ob (by omega) (by omega)), if_neg (o_ob (by omega) (by omega)), o_c (by omega), o_s1, show (1 : Int32).toNatClampNeg = 1 from by decide, hf.2 1 (by omega) (by omega), o_add, show (0 : Int32) = Int32.ofNat 0 from rfl]
  rw [show upd f 1 (Int32.ofNat 0) (q + 1) = Int32.ofNat (v + 1) from by unfold upd; rw [if_neg (by omega), hf.2 _ (by omega) (by omega), hv], o_s1]
  conv => lhs; rw [show fX7_isNext_49 N K f0 N = fX7_isNext_49 N K f0 (M + 1) from by rw [← hM]]
  unfold fX7_isNext_49
  rw [if_neg (o_0lt (by omega) (by omega)), if_neg (o_ob (by omega) (by omega)), if_neg (by rw [show (0 : Int32) = Int32.ofNat 0 from rfl, o_eq (by omega) (by omega)]; omega), if_neg (o_ob (by omega) (by omega)), if_neg (by rw [show (0 : Int32) = Int32.ofNat 0 from rfl, o_eq (by omega) (by omega)]; omega), o_c (by omega), o_div (by omega) (by omega), o_mod (by omega) (by omega), hs _ (by omega) (by omega), o_add]
  rw [show Int32.ofNat q + (-1 : Int32) = Int32.ofNat r from by rw [hr, o_m1]]
  exact a1
theorem m_step2 {N K : Nat} (hN : 100 ≤ N) {f0 f : Nat → Int32} {w : Nat → Nat} (hf : Dk f w) : ∀ n i fu, i + n = 21 → 2 ≤ i → n < fu → ∃ g, fX7_isNext_2 N K f0 fu (Int32.ofNat i) f = some (if lsf w n i = 0 then 0 else 1, g) ∧ Dk g (if lsf w n i = 0 then w else stw w (lsf w n i)) := by
  intro n
  induction n with
  | zero =>
    intro i fu hi h2 hfu
    obtain ⟨fu, rfl⟩ : ∃ m, fu = m + 1 := ⟨fu - 1, by omega⟩
    obtain rfl : i = 21 := by omega
    refine ⟨f, ?_, by rw [show lsf w 0 21 = 0 from rfl, if_pos rfl]; exact hf⟩
    unfold fX7_isNext_2
    rw [if_pos (by decide)]
    unfold fX7_isNext_20
    rw [if_neg (by decide), show lsf w 0 21 = 0 from rfl, if_pos rfl]
  | succ n ih =>
    intro i fu hi h2 hfu
    obtain ⟨fu, rfl⟩ : ∃ m, fu = m + 1 := ⟨fu - 1, by omega⟩
    have hwi := wn_le1 (w := w) (p := i) (by omega) (by omega)
    have hwn := hf.1
    unfold fX7_isNext_2 lsf
    rw [if_neg (n_20 (by omega)), if_neg (o_ob (by omega) (by omega)), o_c (by omega), hf.2 _ (by omega) (by omega), o_1]
    by_cases e : w i = 0
    · simp only [e, if_true]
      rw [if_pos (by decide)]
      exact ih (i + 1) fu (by omega) (by omega) (by omega)
    · simp only [e, if_false]
      rw [if_neg (by rw [show (0 : Int32) = Int32.ofNat 0 from rfl, o_eq (by omega) (by omega)]; exact e), if_neg (by omega), if_neg (by omega)]
      exact m_step20 hN hf h2 (by omega) (by omega)
theorem m_step {N K : Nat} (hN : 100 ≤ N) {f : Nat → Int32} {w : Nat → Nat} (hf : Dk f w) : ∃ g, fX7_isNext N K f = some (if lst w = 0 then 0 else 1, g) ∧ Dk g (if lst w = 0 then w else stw w (lst w)) := m_step2 hN hf 19 2 N rfl (Nat.le_refl _) (by omega)
