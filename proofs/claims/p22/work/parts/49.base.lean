def Sf {T : Type} (o : Option T) (P : T → Prop) : Prop := ∃ x, o = some x ∧ P x
/-- fuel enough for every loop -/
def NBig (N : Nat) : Prop := 2 ^ 100 ≤ N
theorem NBig.u {N : Nat} (h : NBig N) : 2000000 ≤ N := Nat.le_trans (by decide) h
theorem sRet {T : Type} {x : T} {P : T → Prop} (h : P x) : Sf (some x) P := ⟨x, rfl, h⟩
theorem sBind {U T : Type} {u : Option U} {k : U → Option T} {Q : U → Prop} {P : T → Prop} (h : Sf u Q) (K : ∀ y, Q y → Sf (k y) P) : Sf (u.bind k) P := by
  obtain ⟨y, e, q⟩ := h
  obtain ⟨x, e2, p⟩ := K y q
  exact ⟨x, by rw [e]; exact e2, p⟩
theorem sIf {T : Type} {C : Prop} {dc : Decidable C} {A B : Option T} {P : T → Prop} (kt : C → Sf A P) (kf : ¬ C → Sf B P) : Sf (if C then A else B) P := by
  by_cases h : C
  · rw [if_pos h]; exact kt h
  · rw [if_neg h]; exact kf h
theorem sIfF {T : Type} {C : Prop} {dc : Decidable C} {A B : Option T} {P : T → Prop} (h : ¬ C) (k : Sf B P) : Sf (if C then A else B) P := by rw [if_neg h]; exact k
theorem sIfT {T : Type} {C : Prop} {dc : Decidable C} {A B : Option T} {P : T → Prop} (h : C) (k : Sf A P) : Sf (if C then A else B) P := by rw [if_pos h]; exact k
def eP (b1 b2 : Bool) (E : String) : Prop := (b1 = true ∧ E = "java/lang/IndexOutOfBoundsException") ∨ (b2 = true ∧ E = "java/lang/IllegalArgumentException")
def xP {U : Type} (b1 b2 : Bool) (Q : U → Prop) : U ⊕ String → Prop := fun x => match x with
  | .inl a => Q a
  | .inr E => eP b1 b2 E
theorem sXb {U V : Type} {b1 b2 c1 c2 : Bool} {u : Option (U ⊕ String)} {k : U → Option (V ⊕ String)} {Q : U → Prop} {P : V → Prop} (h : Sf u (xP b1 b2 Q)) (h1 : b1 = true → c1 = true) (h2 : b2 = true → c2 = true) (K : ∀ y, Q y → Sf (k y) (xP c1 c2 P)) : Sf (xb u k) (xP c1 c2 P) := by
  obtain ⟨y, e, q⟩ := h
  rw [e]
  cases y with
  | inl a => exact K a q
  | inr E => exact ⟨.inr E, rfl, Or.imp (fun z => ⟨h1 z.1, z.2⟩) (fun z => ⟨h2 z.1, z.2⟩) q⟩
theorem sMono {T : Type} {o : Option T} {P Q : T → Prop} (h : Sf o P) (k : ∀ x, P x → Q x) : Sf o Q := by
  obtain ⟨x, e, p⟩ := h
  exact ⟨x, e, k x p⟩
theorem sXl {V : Type} {b1 b2 : Bool} {P : V → Prop} {x : V} (h : P x) : Sf (some (.inl x : V ⊕ String)) (xP b1 b2 P) := ⟨_, rfl, h⟩
theorem sX1 {V : Type} {b2 : Bool} {P : V → Prop} : Sf (some (.inr "java/lang/IndexOutOfBoundsException" : V ⊕ String)) (xP true b2 P) := ⟨_, rfl, Or.inl ⟨rfl, rfl⟩⟩
theorem sX2 {V : Type} {b1 : Bool} {P : V → Prop} : Sf (some (.inr "java/lang/IllegalArgumentException" : V ⊕ String)) (xP b1 true P) := ⟨_, rfl, Or.inr ⟨rfl, rfl⟩⟩
theorem noob {i : Int32} {n : Nat} (h1 : 0 ≤ i.toInt) (h2 : i.toInt < (n : Int)) : ¬ (i < 0 ∨ n ≤ i.toNatClampNeg) := by
  have e : i.toNatClampNeg = i.toInt.toNat := rfl
  rintro (h | h)
  · have := Int32.lt_iff_toInt_lt.mp h
    have e0 : (0 : Int32).toInt = 0 := by decide
    omega
  · omega
theorem ltT {a b : Int32} (h : a < b) : a.toInt < b.toInt := Int32.lt_iff_toInt_lt.mp h
theorem leT {a b : Int32} (h : a ≤ b) : a.toInt ≤ b.toInt := Int32.le_iff_toInt_le.mp h
theorem eqT {a b : Int32} (h : a = b) : a.toInt = b.toInt := by rw [h]
theorem ltF {a b : Int32} (h : ¬ a < b) : b.toInt ≤ a.toInt := Int.not_lt.mp (fun k => h (Int32.lt_iff_toInt_lt.mpr k))
theorem leF {a b : Int32} (h : ¬ a ≤ b) : b.toInt < a.toInt := Int.not_le.mp (fun k => h (Int32.le_iff_toInt_le.mpr k))
theorem eqF {a b : Int32} (h : ¬ a = b) : ¬ a.toInt = b.toInt := fun k => h (Int32.toInt_inj.mp k)
theorem rgI (a : Int32) : -2147483648 ≤ a.toInt ∧ a.toInt ≤ 2147483647 := ⟨a.le_toInt, Int.le_of_lt_add_one a.toInt_lt⟩
theorem addI {a b : Int32} (h1 : -2147483648 ≤ a.toInt + b.toInt) (h2 : a.toInt + b.toInt ≤ 2147483647) : (a + b).toInt = a.toInt + b.toInt := by
  rw [Int32.toInt_add]
  exact Int.bmod_eq_of_le (by show -(4294967296 / 2) ≤ _; omega) (by show _ < (4294967296 + 1) / 2; omega)
theorem subI {a b : Int32} (h1 : -2147483648 ≤ a.toInt - b.toInt) (h2 : a.toInt - b.toInt ≤ 2147483647) : (a - b).toInt = a.toInt - b.toInt := by
  rw [Int32.toInt_sub]
  exact Int.bmod_eq_of_le (by show -(4294967296 / 2) ≤ _; omega) (by show _ < (4294967296 + 1) / 2; omega)
theorem mulI {a b : Int32} (h1 : -2147483648 ≤ a.toInt * b.toInt) (h2 : a.toInt * b.toInt ≤ 2147483647) : (a * b).toInt = a.toInt * b.toInt := by
  rw [Int32.toInt_mul]
  exact Int.bmod_eq_of_le (by show -(4294967296 / 2) ≤ _; omega) (by show _ < (4294967296 + 1) / 2; omega)
theorem mulL {a b : Int32} {c : Int} (h : a.toInt = c) (h1 : -2147483648 ≤ c * b.toInt) (h2 : c * b.toInt ≤ 2147483647) : (a * b).toInt = c * b.toInt := by
  subst h; exact mulI h1 h2
theorem mulR {a b : Int32} {c : Int} (h : b.toInt = c) (h1 : -2147483648 ≤ a.toInt * c) (h2 : a.toInt * c ≤ 2147483647) : (a * b).toInt = a.toInt * c := by
  subst h; exact mulI h1 h2
theorem addL {a b : Int32} {c : Int} (h : b.toInt = c) (h1 : -2147483648 ≤ a.toInt + c) (h2 : a.toInt + c ≤ 2147483647) : (a + b).toInt = a.toInt + c := by
  subst h; exact addI h1 h2
theorem mulV {a b : Int32} {x0 y0 x y z0 z : Int} (h1 : x0 ≤ a.toInt) (h2 : a.toInt ≤ x) (h3 : y0 ≤ b.toInt) (h4 : b.toInt ≤ y) (hx : 0 ≤ x0) (hy : 0 ≤ y0) (hz0 : x0 * y0 = z0) (hz : x * y = z) (h5 : z ≤ 2147483647) : z0 ≤ (a * b).toInt ∧ (a * b).toInt ≤ z := by
  have e1 : x0 * y0 ≤ a.toInt * b.toInt := Int.mul_le_mul h1 h3 hy (Int.le_trans hx h1)
  have e2 : a.toInt * b.toInt ≤ x * y := Int.mul_le_mul h2 h4 (Int.le_trans hy h3) (Int.le_trans (Int.le_trans hx h1) h2)
  have e3 : 0 ≤ x0 * y0 := Int.mul_nonneg hx hy
  rw [mulI (by omega) (by omega)]
  omega
theorem negI {a : Int32} (h1 : -2147483648 < a.toInt) : (-a).toInt = -a.toInt := by
  have := rgI a
  rw [Int32.toInt_neg]
  exact Int.bmod_eq_of_le (by show -(4294967296 / 2) ≤ _; omega) (by show _ < (4294967296 + 1) / 2; omega)
theorem divL {a b : Int32} {c : Int} (h : b.toInt = c) (hc : 0 < c) (h1 : 0 ≤ a.toInt) : (a / b).toInt = a.toInt / c := by
  have := rgI a
  subst h
  rw [Int32.toInt_div, Int.tdiv_eq_ediv_of_nonneg h1]
  have h3 : 0 ≤ a.toInt / b.toInt := Int.ediv_nonneg h1 (by omega)
  have h4 : a.toInt / b.toInt ≤ a.toInt := Int.ediv_le_self _ h1
  exact Int.bmod_eq_of_le (by show -(4294967296 / 2) ≤ _; omega) (by show _ < (4294967296 + 1) / 2; omega)
theorem modL {a b : Int32} {c : Int} (h : b.toInt = c) (h1 : 0 ≤ a.toInt) : (a % b).toInt = a.toInt % c := by
  subst h
  rw [Int32.toInt_mod, Int.tmod_eq_emod_of_nonneg h1]
theorem modN {a b : Int32} {c : Int} (h : b.toInt = c) (hc : 0 < c) : -c < (a % b).toInt ∧ (a % b).toInt < c := by
  subst h
  rw [Int32.toInt_mod]
  have h2 := Int.tmod_lt_of_pos a.toInt hc
  have h3 : -b.toInt < a.toInt.tmod b.toInt := Int.lt_tmod_of_pos a.toInt hc
  exact ⟨h3, h2⟩
theorem M31_ex : ∃ M : Int32 → Nat, (∀ x : Int32, 1 ≤ x.toInt → M (x + (-1 : Int32)) < M x) ∧ ∀ (N : Nat) (x : Int32), NBig N → M x < N := by
  refine ⟨fun x => (x.toInt + 2147483648).toNat, fun x h => ?_, fun N x h => ?_⟩
  · have := rgI x
    show ((x + (-1 : Int32)).toInt + 2147483648).toNat < (x.toInt + 2147483648).toNat
    rw [addL (c := -1) (by decide) (by omega) (by omega)]
    omega
  · have := rgI x
    have h2 : 4294967296 < N := Nat.lt_of_lt_of_le (by decide) h
    show (x.toInt + 2147483648).toNat < N
    omega
/-- how often a counter can go down -/
noncomputable def M31 : Int32 → Nat := Classical.choose M31_ex
theorem M31_dec {x : Int32} (h : 1 ≤ x.toInt) : M31 (x + (-1 : Int32)) < M31 x := (Classical.choose_spec M31_ex).1 x h
theorem M31_N {N : Nat} (h : NBig N) (x : Int32) : M31 x < N := (Classical.choose_spec M31_ex).2 N x h
theorem b01 {v : Int32} (h : 0 ≤ v.toInt) (h2 : v.toInt ≤ 1) : v = 0 ∨ v = 1 := by
  have : v.toInt = 0 ∨ v.toInt = 1 := by omega
  rcases this with h | h
  · exact Or.inl (Int32.toInt_inj.mp (h.trans (by decide)))
  · exact Or.inr (Int32.toInt_inj.mp (h.trans (by decide)))
theorem and01 {a b : Int32} (h : 0 ≤ a.toInt) (h2 : a.toInt ≤ 1) (h3 : 0 ≤ b.toInt) (h4 : b.toInt ≤ 1) : 0 ≤ (a &&& b).toInt ∧ (a &&& b).toInt ≤ 1 := by
  rcases b01 h h2 with rfl | rfl <;> rcases b01 h3 h4 with rfl | rfl <;> decide
/-! ===== small numbers as ints ===== -/
theorem o_lt {a b : Nat} (ha : a < 2147483648) (hb : b < 2147483648) : (Int32.ofNat a < Int32.ofNat b) = (a < b) := propext (Int32.ofNat_lt_iff_lt ha hb)
theorem o_le {a b : Nat} (ha : a < 2147483648) (hb : b < 2147483648) : (Int32.ofNat a ≤ Int32.ofNat b) = (a ≤ b) := propext (Int32.ofNat_le_iff_le ha hb)
theorem o_c {a : Nat} (ha : a < 2147483648) : (Int32.ofNat a).toNatClampNeg = a := Int32.toNatClampNeg_ofNat_of_lt ha
theorem o_i {a : Nat} (ha : a < 2147483648) : (Int32.ofNat a).toInt = a := Int32.toInt_ofNat_of_lt ha
theorem o_eq {a b : Nat} (ha : a < 2147483648) (hb : b < 2147483648) : (Int32.ofNat a = Int32.ofNat b) = (a = b) := by
  refine propext ⟨fun h => ?_, fun h => by rw [h]⟩
  have h1 := congrArg Int32.toInt h
  rw [o_i ha, o_i hb] at h1
  omega
theorem o_ob {a n : Nat} (h : a < n) (hn : n ≤ 2147483648) : ¬ (Int32.ofNat a < 0 ∨ n ≤ (Int32.ofNat a).toNatClampNeg) := noob (by rw [o_i (by omega)]; omega) (by rw [o_i (by omega)]; omega)
theorem o_1 (a : Nat) : Int32.ofNat a + (1 : Int32) = Int32.ofNat (a + 1) := (Int32.ofNat_add a 1).symm
theorem o_m1 (a : Nat) : Int32.ofNat (a + 1) + (-1 : Int32) = Int32.ofNat a := by
  rw [← o_1, Int32.add_assoc, show (1 : Int32) + (-1 : Int32) = 0 from by decide, Int32.add_zero]
theorem o_s1 (a : Nat) : Int32.ofNat (a + 1) - (1 : Int32) = Int32.ofNat a := by
  rw [← o_1, Int32.add_sub_cancel]
theorem o_add (a b : Nat) : Int32.ofNat a + Int32.ofNat b = Int32.ofNat (a + b) := (Int32.ofNat_add a b).symm
theorem o_mul (a b : Nat) : Int32.ofNat a * Int32.ofNat b = Int32.ofNat (a * b) := (Int32.ofNat_mul a b).symm
theorem o_gt {n a : Nat} (hn : n < 2147483648) (h : a ≤ n) : ¬ (Int32.ofNat n < Int32.ofNat a) := by rw [o_lt hn (by omega)]; omega
theorem o_lt1 {n a : Nat} (hn : n < 2147483648) (h : a < n) : Int32.ofNat a < Int32.ofNat n := by rw [o_lt (by omega) hn]; exact h
theorem o_of {p : Int32} {a b : Nat} (h1 : (a : Int) ≤ p.toInt) (h2 : p.toInt ≤ (b : Int)) : ∃ n : Nat, p = Int32.ofNat n ∧ a ≤ n ∧ n ≤ b := by
  have h0 : 0 ≤ p := by rw [Int32.le_iff_toInt_le]; have : (0 : Int32).toInt = 0 := by decide
                        omega
  refine ⟨p.toNatClampNeg, (Int32.ofNat_toNatClampNeg p h0).symm, ?_, ?_⟩
  · have e : p.toNatClampNeg = p.toInt.toNat := rfl
    omega
  · have e : p.toNatClampNeg = p.toInt.toNat := rfl
    omega
theorem n_20 {a : Nat} (h : a ≤ 20) : ¬ ((20 : Int32) < Int32.ofNat a) := o_gt (n := 20) (by omega) h
theorem o_0lt {a : Nat} (h : 1 ≤ a) (h2 : a < 2147483648) : ¬ (Int32.ofNat a ≤ (0 : Int32)) := by
  rw [show (0 : Int32) = Int32.ofNat 0 from rfl, o_le h2 (by omega)]
  omega
theorem o_1le {a : Nat} (h : 1 ≤ a) (h2 : a < 2147483648) : ¬ (Int32.ofNat a < (1 : Int32)) := by
  rw [show (1 : Int32) = Int32.ofNat 1 from rfl, o_lt h2 (by omega)]
  omega
theorem o_ob2 {a n : Nat} (h : a < n) (hn : n ≤ 2147483648) : ¬ (Int32.ofNat a < 0 ∨ n ≤ a) := by
  have e := o_ob h hn
  rwa [o_c (by omega)] at e
theorem sEq {T : Type} {o : Option T} {x : T} (h : o = some x) : Sf o (fun z => z = x) := ⟨x, h, rfl⟩
/-! ===== filling ===== -/
theorem c_fill_ {N K n : Nat} {f0 : Nat → Int32} {v : Int32} (hn : n < 2147483648) : ∀ k i fu (f : Nat → Int32), i + k = n → k < fu → ∃ g, fJ_fill_5 N K n f0 v fu (Int32.ofNat i) (Int32.ofNat n) f = some g ∧ ∀ p, g p = if i ≤ p ∧ p < n then v else f p := by
  intro k
  induction k with
  | zero =>
    intro i fu f hi hfu
    obtain ⟨fu, rfl⟩ : ∃ m, fu = m + 1 := ⟨fu - 1, by omega⟩
    obtain rfl : i = n := by omega
    refine ⟨f, ?_, fun p => by rw [if_neg (by omega)]⟩
    unfold fJ_fill_5
    rw [if_pos (by rw [o_le hn hn]; omega)]
  | succ k ih =>
    intro i fu f hi hfu
    obtain ⟨fu, rfl⟩ : ∃ m, fu = m + 1 := ⟨fu - 1, by omega⟩
    obtain ⟨g, h1, h2⟩ := ih (i + 1) fu (upd f i v) (by omega) (by omega)
    refine ⟨g, ?_, fun p => ?_⟩
    · unfold fJ_fill_5
      rw [if_neg (by rw [o_le hn (by omega)]; omega), if_neg (o_ob (by omega) (by omega)), o_c (by omega), o_1]
      exact h1
    · rw [h2 p]
      unfold upd
      by_cases e1 : i + 1 ≤ p ∧ p < n
      · rw [if_pos e1, if_pos (by omega)]
      · rw [if_neg e1]
        by_cases e2 : p = i
        · rw [if_pos e2, if_pos (by omega)]
        · rw [if_neg e2, if_neg (by omega)]
theorem c_fill {N K n : Nat} (hN : n < N) (hn : n < 2147483648) {f : Nat → Int32} {v : Int32} : ∃ g, fJ_fill N K n f v = some g ∧ ∀ p, g p = if p < n then v else f p := by
  obtain ⟨g, h1, h2⟩ := c_fill_ (N := N) (K := K) (f0 := f) (v := v) hn n 0 N f (by omega) hN
  exact ⟨g, h1, fun p => by rw [h2 p]; simp⟩
theorem s_J_fill {N K : Nat} {n : Nat} {f : Nat → Int32} {v : Int32} (hN : NBig N) (hK : 100 ≤ K) (hn : n ≤ 1000000) : Sf (fJ_fill N K n f v) (fun (z : Nat → Int32) => True) := by
  have hN9 := hN.u
  obtain ⟨g, h1, -⟩ := c_fill (N := N) (K := K) (n := n) (f := f) (v := v) (by omega) (by omega)
  exact ⟨g, h1, trivial⟩
/-! ===== a row of counts, still all 0 at its front ===== -/
theorem uz0 {u : Nat → Int32} {n : Nat} (h : n = 0) : ∀ a : Nat, a < n → u a = 0 := fun a ha => absurd ha (by omega)
theorem uz1 {u : Nat → Int32} {x : Int32} (h : ∀ a : Nat, a < x.toInt.toNat → u a = 0) (h0 : 0 ≤ x.toInt) (h1 : (x + (1 : Int32)).toInt = x.toInt + 1) : ∀ a : Nat, a < (x + (1 : Int32)).toInt.toNat → upd u x.toNatClampNeg 0 a = 0 := by
  intro a ha
  have e : x.toNatClampNeg = x.toInt.toNat := rfl
  unfold upd
  by_cases e2 : a = x.toNatClampNeg
  · rw [if_pos e2]
  · rw [if_neg e2]; exact h a (by omega)
theorem uz2 {u : Nat → Int32} {x v : Int32} (h : ∀ a : Nat, a < 21 → u a = 0) (h0 : 21 ≤ x.toInt) : ∀ a : Nat, a < 21 → upd u x.toNatClampNeg v a = 0 := by
  intro a ha
  have e : x.toNatClampNeg = x.toInt.toNat := rfl
  unfold upd
  rw [if_neg (by omega)]
  exact h a ha
theorem uz3 {u : Nat → Int32} {x : Int32} (h : ∀ a : Nat, a < 21 → u a = 0) (hn : ¬ u x.toNatClampNeg = 0) (h0 : 0 ≤ x.toInt) : 21 ≤ x.toInt := by
  have e : x.toNatClampNeg = x.toInt.toNat := rfl
  by_cases e2 : x.toNatClampNeg < 21
  · exact absurd (h _ e2) hn
  · omega
theorem uz4 {u : Nat → Int32} {x : Int32} (h : ∀ a : Nat, a < 21 → u a = 0) (hn : ¬ u x.toNatClampNeg ≤ 0) (h0 : 0 ≤ x.toInt) : 21 ≤ x.toInt := uz3 h (fun e => hn (by rw [e]; decide)) h0
theorem fac3 {l p : Int32} (h1 : 1 ≤ l.toInt) (h2 : l.toInt ≤ 4) (h : ¬ (p < ((l * (((3 : Int32) * l) - (1 : Int32))) / (2 : Int32)))) (h3 : p.toInt ≤ 20) : l.toInt ≤ 3 := by
  by_cases e : l.toInt = 4
  · have e2 : l = 4 := Int32.toInt_inj.mp (e.trans (by decide))
    subst e2
    have q : (((4 : Int32) * (((3 : Int32) * 4) - (1 : Int32))) / (2 : Int32)) = 22 := by decide
    have q2 : (22 : Int32).toInt = 22 := by decide
    rw [q] at h
    exact absurd (Int32.lt_iff_toInt_lt.mpr (by omega)) h
  · omega
