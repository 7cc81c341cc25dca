/-! ===== the beginning of both sides ===== -/
theorem init_x {N K : Nat} (hN : NBig N) : ∃ m l : Nat → Int32, (∀ p, m p = if p < 2646 then (-1 : Int32) else 0) ∧ (∀ p, l p = if p < 21 then (-1 : Int32) else 0) ∧ fX5_init N K = some ((0 : Int32), m, (0 : Int32), m, (0 : Int32), m, (0 : Int32), (0 : Int32), l, (1 : Int32), (0 : Int32), l, (2 : Int32), (0 : Int32), l, (fun _ => 0), (fun _ => 0), (0 : Int32), (0 : Int32), (0 : Int32), (0 : Int32), (0 : Int32), (0 : Int32), (fun _ => 0), (fun _ => 0), (fun _ => 0)) := by
  have hN9 := hN.u
  obtain ⟨m, h1, h2⟩ := c_fill (N := N) (K := K) (n := 2646) (f := fun _ => 0) (v := (-1 : Int32)) (by omega) (by omega)
  obtain ⟨l, h3, h4⟩ := c_fill (N := N) (K := K) (n := 21) (f := fun _ => 0) (v := (-1 : Int32)) (by omega) (by omega)
  refine ⟨m, l, h2, h4, ?_⟩
  unfold fX5_init fX2_init fX1_init fX4_init fX0_init fX3_init
  rw [h1, h3]
  rfl
theorem i78vv {N K : Nat} {th : Int32} {e2 e3 e6 e7 e8 e9 e10 e11 e12 : Nat → Int32} : ∀ k i fu (e1 : Nat → Int32), i + k = 6144 → k < fu → ∃ g, fX7_init_78vv N K th fu (Int32.ofNat i) e1 e2 e3 e6 e7 e8 e9 e10 e11 e12 = some (e2, e3, g, e8, e9, e10, e11, e12, e6, e7) ∧ ∀ p, g p = if i ≤ p ∧ p < 6144 then (-1 : Int32) else e1 p := by
  intro k
  induction k with
  | zero =>
    intro i fu e1 hi hfu
    obtain ⟨fu, rfl⟩ : ∃ m, fu = m + 1 := ⟨fu - 1, by omega⟩
    obtain rfl : i = 6144 := by omega
    refine ⟨e1, ?_, fun p => by rw [if_neg (by omega)]⟩
    unfold fX7_init_78vv
    rw [if_pos (by decide)]
  | succ k ih =>
    intro i fu e1 hi hfu
    obtain ⟨fu, rfl⟩ : ∃ m, fu = m + 1 := ⟨fu - 1, by omega⟩
    obtain ⟨g, h1, h2⟩ := ih (i + 1) fu (upd e1 i (-1 : Int32)) (by omega) (by omega)
    refine ⟨g, ?_, fun p => ?_⟩
    · unfold fX7_init_78vv
      rw [if_neg (by rw [show (6144 : Int32) = Int32.ofNat 6144 from rfl, o_le (by omega) (by omega)]; omega), if_neg (o_ob (by omega) (by omega)), o_c (by omega), o_1]
      exact h1
    · rw [h2 p]
      unfold upd
      by_cases a : i + 1 ≤ p ∧ p < 6144
      · rw [if_pos a, if_pos (by omega)]
      · rw [if_neg a]
        by_cases b : p = i
        · rw [if_pos b, if_pos (by omega)]
        · rw [if_neg b, if_neg (by omega)]
theorem i78v {N K : Nat} {th : Int32} {e2 e3 e6 e7 e8 e9 e10 e11 e12 : Nat → Int32} : ∀ k i fu (e1 : Nat → Int32), i + k = 6144 → k < fu → ∃ g, fX7_init_78v N K th fu (Int32.ofNat i) e1 e2 e3 e6 e7 e8 e9 e10 e11 e12 = fX7_init_78vv N K th N (Int32.ofNat 0) e3 e2 g e6 e7 e8 e9 e10 e11 e12 ∧ ∀ p, g p = if i ≤ p ∧ p < 6144 then (-1 : Int32) else e1 p := by
  intro k
  induction k with
  | zero =>
    intro i fu e1 hi hfu
    obtain ⟨fu, rfl⟩ : ∃ m, fu = m + 1 := ⟨fu - 1, by omega⟩
    obtain rfl : i = 6144 := by omega
    refine ⟨e1, ?_, fun p => by rw [if_neg (by omega)]⟩
    unfold fX7_init_78v
    rw [if_pos (by decide)]
    rfl
  | succ k ih =>
    intro i fu e1 hi hfu
    obtain ⟨fu, rfl⟩ : ∃ m, fu = m + 1 := ⟨fu - 1, by omega⟩
    obtain ⟨g, h1, h2⟩ := ih (i + 1) fu (upd e1 i (-1 : Int32)) (by omega) (by omega)
    refine ⟨g, ?_, fun p => ?_⟩
    · unfold fX7_init_78v
      rw [if_neg (by rw [show (6144 : Int32) = Int32.ofNat 6144 from rfl, o_le (by omega) (by omega)]; omega), if_neg (o_ob (by omega) (by omega)), o_c (by omega), o_1]
      exact h1
    · rw [h2 p]
      unfold upd
      by_cases a : i + 1 ≤ p ∧ p < 6144
      · rw [if_pos a, if_pos (by omega)]
      · rw [if_neg a]
        by_cases b : p = i
        · rw [if_pos b, if_pos (by omega)]
        · rw [if_neg b, if_neg (by omega)]
theorem i78 {N K : Nat} {th : Int32} {e2 e3 e6 e7 e8 e9 e10 e11 e12 : Nat → Int32} : ∀ k i fu (e1 : Nat → Int32), i + k = 6144 → k < fu → ∃ g, fX7_init_78 N K th fu (Int32.ofNat i) e1 e2 e3 e6 e7 e8 e9 e10 e11 e12 = fX7_init_78v N K th N (Int32.ofNat 0) e2 g e3 e6 e7 e8 e9 e10 e11 e12 ∧ ∀ p, g p = if i ≤ p ∧ p < 6144 then (-1 : Int32) else e1 p := by
  intro k
  induction k with
  | zero =>
    intro i fu e1 hi hfu
    obtain ⟨fu, rfl⟩ : ∃ m, fu = m + 1 := ⟨fu - 1, by omega⟩
    obtain rfl : i = 6144 := by omega
    refine ⟨e1, ?_, fun p => by rw [if_neg (by omega)]⟩
    unfold fX7_init_78
    rw [if_pos (by decide)]
    rfl
  | succ k ih =>
    intro i fu e1 hi hfu
    obtain ⟨fu, rfl⟩ : ∃ m, fu = m + 1 := ⟨fu - 1, by omega⟩
    obtain ⟨g, h1, h2⟩ := ih (i + 1) fu (upd e1 i (-1 : Int32)) (by omega) (by omega)
    refine ⟨g, ?_, fun p => ?_⟩
    · unfold fX7_init_78
      rw [if_neg (by rw [show (6144 : Int32) = Int32.ofNat 6144 from rfl, o_le (by omega) (by omega)]; omega), if_neg (o_ob (by omega) (by omega)), o_c (by omega), o_1]
      exact h1
    · rw [h2 p]
      unfold upd
      by_cases a : i + 1 ≤ p ∧ p < 6144
      · rw [if_pos a, if_pos (by omega)]
      · rw [if_neg a]
        by_cases b : p = i
        · rw [if_pos b, if_pos (by omega)]
        · rw [if_neg b, if_neg (by omega)]
theorem init_m {N K : Nat} (hN : NBig N) {th : Int32} : ∃ a b c : Nat → Int32, (∀ p, p < 6144 → a p = (-1 : Int32) ∧ b p = (-1 : Int32) ∧ c p = (-1 : Int32)) ∧ fX7_init N K th = some (a, b, c, (fun _ => 0), (fun _ => 0), (fun _ => 0), (fun _ => 0), (fun _ => 0), (fun _ => 0), (fun _ => 0)) := by
  have hN9 := hN.u
  obtain ⟨a, a1, a2⟩ := i78 (N := N) (K := K) (th := th) (e2 := fun _ => 0) (e3 := fun _ => 0) (e6 := fun _ => 0) (e7 := fun _ => 0) (e8 := fun _ => 0) (e9 := fun _ => 0) (e10 := fun _ => 0) (e11 := fun _ => 0) (e12 := fun _ => 0) 6144 0 N (fun _ => 0) rfl (by omega)
  obtain ⟨b, b1, b2⟩ := i78v (N := N) (K := K) (th := th) (e2 := a) (e3 := fun _ => 0) (e6 := fun _ => 0) (e7 := fun _ => 0) (e8 := fun _ => 0) (e9 := fun _ => 0) (e10 := fun _ => 0) (e11 := fun _ => 0) (e12 := fun _ => 0) 6144 0 N (fun _ => 0) rfl (by omega)
  obtain ⟨c, d1, d2⟩ := i78vv (N := N) (K := K) (th := th) (e2 := a) (e3 := b) (e6 := fun _ => 0) (e7 := fun _ => 0) (e8 := fun _ => 0) (e9 := fun _ => 0) (e10 := fun _ => 0) (e11 := fun _ => 0) (e12 := fun _ => 0) 6144 0 N (fun _ => 0) rfl (by omega)
  refine ⟨a, b, c, fun p h => ⟨by rw [a2 p, if_pos (by omega)], by rw [b2 p, if_pos (by omega)], by rw [d2 p, if_pos (by omega)]⟩, ?_⟩
  unfold fX7_init
  exact a1.trans (b1.trans d1)
def ixs (L : Nat) (i : Int32) : Prop := ∀ c : Int32, 0 ≤ c.toInt → c.toInt ≤ 5 → ¬ ((i + c) < 0 ∨ L ≤ (i + c).toNatClampNeg)
theorem ixs_of {L : Nat} {i : Int32} (h0 : 0 ≤ i.toInt) (h1 : i.toInt + 6 ≤ (L : Int)) (hL : L ≤ 384) : ixs L i := by
  intro c a b
  have e := addI (a := i) (b := c) (by omega) (by omega)
  exact noob (by omega) (by omega)
