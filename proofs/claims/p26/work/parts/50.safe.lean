section MG_49base
def Sf {T : Type} (o : Option T) (P : T → Prop) : Prop := ∃ x, o = some x ∧ P x
/-- fuel enough for every loop -/
def NBig (N : Nat) : Prop := 2 ^ 100 ≤ N
theorem NBig.u {N : Nat} (h : NBig N) : 2000000 ≤ N := Nat.le_trans (by decide) h
theorem sRet {T : Type} {x : T} {P : T → Prop} (h : P x) : Sf (some x) P := ⟨x, rfl, h⟩
theorem sBind {U T : Type} {u : Option U} {k : U → Option T} {Q : U → Prop} {P : T → Prop} (h : Sf u Q) (K : ∀ y, Q y → Sf (k y) P) : Sf (u.bind k) P := by
  obtain ⟨y, e, q⟩ := h
  obtain ⟨x, e2, p⟩ := K y q
  exact ⟨x, by rw [e]; exact e2, p⟩
theorem sIf {T : Type} {C : Prop} {dc : Decidable C} {A B : Option T} {P : T → Prop} (kt : C → Sf A P) (kf : ¬ C → Sf B P) : Sf (if C then A else B) P := by
  by_cases h : C
  · rw [if_pos h]; exact kt h
  · rw [if_neg h]; exact kf h
theorem sIfF {T : Type} {C : Prop} {dc : Decidable C} {A B : Option T} {P : T → Prop} (h : ¬ C) (k : Sf B P) : Sf (if C then A else B) P := by rw [if_neg h]; exact k
theorem sIfT {T : Type} {C : Prop} {dc : Decidable C} {A B : Option T} {P : T → Prop} (h : C) (k : Sf A P) : Sf (if C then A else B) P := by rw [if_pos h]; exact k
def eP (b1 b2 : Bool) (E : String) : Prop := (b1 = true ∧ E = "java/lang/IndexOutOfBoundsException") ∨ (b2 = true ∧ E = "java/lang/IllegalArgumentException")
def xP {U : Type} (b1 b2 : Bool) (Q : U → Prop) : U ⊕ String → Prop := fun x => match x with
  | .inl a => Q a
  | .inr E => eP b1 b2 E
theorem sXb {U V : Type} {b1 b2 c1 c2 : Bool} {u : Option (U ⊕ String)} {k : U → Option (V ⊕ String)} {Q : U → Prop} {P : V → Prop} (h : Sf u (xP b1 b2 Q)) (h1 : b1 = true → c1 = true) (h2 : b2 = true → c2 = true) (K : ∀ y, Q y → Sf (k y) (xP c1 c2 P)) : Sf (xb u k) (xP c1 c2 P) := by
  obtain ⟨y, e, q⟩ := h
  rw [e]
  cases y with
  | inl a => exact K a q
  | inr E => exact ⟨.inr E, rfl, Or.imp (fun z => ⟨h1 z.1, z.2⟩) (fun z => ⟨h2 z.1, z.2⟩) q⟩
theorem sMono {T : Type} {o : Option T} {P Q : T → Prop} (h : Sf o P) (k : ∀ x, P x → Q x) : Sf o Q := by
  obtain ⟨x, e, p⟩ := h
  exact ⟨x, e, k x p⟩
theorem sXl {V : Type} {b1 b2 : Bool} {P : V → Prop} {x : V} (h : P x) : Sf (some (.inl x : V ⊕ String)) (xP b1 b2 P) := ⟨_, rfl, h⟩
theorem sX1 {V : Type} {b2 : Bool} {P : V → Prop} : Sf (some (.inr "java/lang/IndexOutOfBoundsException" : V ⊕ String)) (xP true b2 P) := ⟨_, rfl, Or.inl ⟨rfl, rfl⟩⟩
theorem sX2 {V : Type} {b1 : Bool} {P : V → Prop} : Sf (some (.inr "java/lang/IllegalArgumentException" : V ⊕ String)) (xP b1 true P) := ⟨_, rfl, Or.inr ⟨rfl, rfl⟩⟩
theorem noob {i : Int32} {n : Nat} (h1 : 0 ≤ i.toInt) (h2 : i.toInt < (n : Int)) : ¬ (i < 0 ∨ n ≤ i.toNatClampNeg) := by
  have e : i.toNatClampNeg = i.toInt.toNat := rfl
  rintro (h | h)
  · have := Int32.lt_iff_toInt_lt.mp h
    have e0 : (0 : Int32).toInt = 0 := by decide
    omega
  · omega
theorem ltT {a b : Int32} (h : a < b) : a.toInt < b.toInt := Int32.lt_iff_toInt_lt.mp h
theorem leT {a b : Int32} (h : a ≤ b) : a.toInt ≤ b.toInt := Int32.le_iff_toInt_le.mp h
theorem eqT {a b : Int32} (h : a = b) : a.toInt = b.toInt := by rw [h]
theorem ltF {a b : Int32} (h : ¬ a < b) : b.toInt ≤ a.toInt := Int.not_lt.mp (fun k => h (Int32.lt_iff_toInt_lt.mpr k))
theorem leF {a b : Int32} (h : ¬ a ≤ b) : b.toInt < a.toInt := Int.not_le.mp (fun k => h (Int32.le_iff_toInt_le.mpr k))
theorem eqF {a b : Int32} (h : ¬ a = b) : ¬ a.toInt = b.toInt := fun k => h (Int32.toInt_inj.mp k)
theorem rgI (a : Int32) : -2147483648 ≤ a.toInt ∧ a.toInt ≤ 2147483647 := ⟨a.le_toInt, Int.le_of_lt_add_one a.toInt_lt⟩
theorem addI {a b : Int32} (h1 : -2147483648 ≤ a.toInt + b.toInt) (h2 : a.toInt + b.toInt ≤ 2147483647) : (a + b).toInt = a.toInt + b.toInt := by
  rw [Int32.toInt_add]
  exact Int.bmod_eq_of_le (by show -(4294967296 / 2) ≤ _; omega) (by show _ < (4294967296 + 1) / 2; omega)
theorem subI {a b : Int32} (h1 : -2147483648 ≤ a.toInt - b.toInt) (h2 : a.toInt - b.toInt ≤ 2147483647) : (a - b).toInt = a.toInt - b.toInt := by
  rw [Int32.toInt_sub]
  exact Int.bmod_eq_of_le (by show -(4294967296 / 2) ≤ _; omega) (by show _ < (4294967296 + 1) / 2; omega)
theorem mulI {a b : Int32} (h1 : -2147483648 ≤ a.toInt * b.toInt) (h2 : a.toInt * b.toInt ≤ 2147483647) : (a * b).toInt = a.toInt * b.toInt := by
  rw [Int32.toInt_mul]
  exact Int.bmod_eq_of_le (by show -(4294967296 / 2) ≤ _; omega) (by show _ < (4294967296 + 1) / 2; omega)
theorem mulL {a b : Int32} {c : Int} (h : a.toInt = c) (h1 : -2147483648 ≤ c * b.toInt) (h2 : c * b.toInt ≤ 2147483647) : (a * b).toInt = c * b.toInt := by
  subst h; exact mulI h1 h2
theorem mulR {a b : Int32} {c : Int} (h : b.toInt = c) (h1 : -2147483648 ≤ a.toInt * c) (h2 : a.toInt * c ≤ 2147483647) : (a * b).toInt = a.toInt * c := by
  subst h; exact mulI h1 h2
theorem addL {a b : Int32} {c : Int} (h : b.toInt = c) (h1 : -2147483648 ≤ a.toInt + c) (h2 : a.toInt + c ≤ 2147483647) : (a + b).toInt = a.toInt + c := by
  subst h; exact addI h1 h2
theorem mulV {a b : Int32} {x0 y0 x y z0 z : Int} (h1 : x0 ≤ a.toInt) (h2 : a.toInt ≤ x) (h3 : y0 ≤ b.toInt) (h4 : b.toInt ≤ y) (hx : 0 ≤ x0) (hy : 0 ≤ y0) (hz0 : x0 * y0 = z0) (hz : x * y = z) (h5 : z ≤ 2147483647) : z0 ≤ (a * b).toInt ∧ (a * b).toInt ≤ z := by
  have e1 : x0 * y0 ≤ a.toInt * b.toInt := Int.mul_le_mul h1 h3 hy (Int.le_trans hx h1)
  have e2 : a.toInt * b.toInt ≤ x * y := Int.mul_le_mul h2 h4 (Int.le_trans hy h3) (Int.le_trans (Int.le_trans hx h1) h2)
  have e3 : 0 ≤ x0 * y0 := Int.mul_nonneg hx hy
  rw [mulI (by omega) (by omega)]
  omega
theorem negI {a : Int32} (h1 : -2147483648 < a.toInt) : (-a).toInt = -a.toInt := by
  have := rgI a
  rw [Int32.toInt_neg]
  exact Int.bmod_eq_of_le (by show -(4294967296 / 2) ≤ _; omega) (by show _ < (4294967296 + 1) / 2; omega)
theorem divL {a b : Int32} {c : Int} (h : b.toInt = c) (hc : 0 < c) (h1 : 0 ≤ a.toInt) : (a / b).toInt = a.toInt / c := by
  have := rgI a
  subst h
  rw [Int32.toInt_div, Int.tdiv_eq_ediv_of_nonneg h1]
  have h3 : 0 ≤ a.toInt / b.toInt := Int.ediv_nonneg h1 (by omega)
  have h4 : a.toInt / b.toInt ≤ a.toInt := Int.ediv_le_self _ h1
  exact Int.bmod_eq_of_le (by show -(4294967296 / 2) ≤ _; omega) (by show _ < (4294967296 + 1) / 2; omega)
theorem modL {a b : Int32} {c : Int} (h : b.toInt = c) (h1 : 0 ≤ a.toInt) : (a % b).toInt = a.toInt % c := by
  subst h
  rw [Int32.toInt_mod, Int.tmod_eq_emod_of_nonneg h1]
theorem modN {a b : Int32} {c : Int} (h : b.toInt = c) (hc : 0 < c) : -c < (a % b).toInt ∧ (a % b).toInt < c := by
  subst h
  rw [Int32.toInt_mod]
  have h2 := Int.tmod_lt_of_pos a.toInt hc
  have h3 : -b.toInt < a.toInt.tmod b.toInt := Int.lt_tmod_of_pos a.toInt hc
  exact ⟨h3, h2⟩
theorem M31_ex : ∃ M : Int32 → Nat, (∀ x : Int32, 1 ≤ x.toInt → M (x + (-1 : Int32)) < M x) ∧ ∀ (N : Nat) (x : Int32), NBig N → M x < N := by
  refine ⟨fun x => (x.toInt + 2147483648).toNat, fun x h => ?_, fun N x h => ?_⟩
  · have := rgI x
    show ((x + (-1 : Int32)).toInt + 2147483648).toNat < (x.toInt + 2147483648).toNat
    rw [addL (c := -1) (by decide) (by omega) (by omega)]
    omega
  · have := rgI x
    have h2 : 4294967296 < N := Nat.lt_of_lt_of_le (by decide) h
    show (x.toInt + 2147483648).toNat < N
    omega
/-- how often a counter can go down -/
noncomputable def M31 : Int32 → Nat := Classical.choose M31_ex
theorem M31_dec {x : Int32} (h : 1 ≤ x.toInt) : M31 (x + (-1 : Int32)) < M31 x := (Classical.choose_spec M31_ex).1 x h
theorem M31_N {N : Nat} (h : NBig N) (x : Int32) : M31 x < N := (Classical.choose_spec M31_ex).2 N x h
theorem b01 {v : Int32} (h : 0 ≤ v.toInt) (h2 : v.toInt ≤ 1) : v = 0 ∨ v = 1 := by
  have : v.toInt = 0 ∨ v.toInt = 1 := by omega
  rcases this with h | h
  · exact Or.inl (Int32.toInt_inj.mp (h.trans (by decide)))
  · exact Or.inr (Int32.toInt_inj.mp (h.trans (by decide)))
theorem and01 {a b : Int32} (h : 0 ≤ a.toInt) (h2 : a.toInt ≤ 1) (h3 : 0 ≤ b.toInt) (h4 : b.toInt ≤ 1) : 0 ≤ (a &&& b).toInt ∧ (a &&& b).toInt ≤ 1 := by
  rcases b01 h h2 with rfl | rfl <;> rcases b01 h3 h4 with rfl | rfl <;> decide
/-! ===== small numbers as ints ===== -/
theorem o_lt {a b : Nat} (ha : a < 2147483648) (hb : b < 2147483648) : (Int32.ofNat a < Int32.ofNat b) = (a < b) := propext (Int32.ofNat_lt_iff_lt ha hb)
theorem o_le {a b : Nat} (ha : a < 2147483648) (hb : b < 2147483648) : (Int32.ofNat a ≤ Int32.ofNat b) = (a ≤ b) := propext (Int32.ofNat_le_iff_le ha hb)
theorem o_c {a : Nat} (ha : a < 2147483648) : (Int32.ofNat a).toNatClampNeg = a := Int32.toNatClampNeg_ofNat_of_lt ha
theorem o_i {a : Nat} (ha : a < 2147483648) : (Int32.ofNat a).toInt = a := Int32.toInt_ofNat_of_lt ha
theorem o_eq {a b : Nat} (ha : a < 2147483648) (hb : b < 2147483648) : (Int32.ofNat a = Int32.ofNat b) = (a = b) := by
  refine propext ⟨fun h => ?_, fun h => by rw [h]⟩
  have h1 := congrArg Int32.toInt h
  rw [o_i ha, o_i hb] at h1
  omega
theorem o_ob {a n : Nat} (h : a < n) (hn : n ≤ 2147483648) : ¬ (Int32.ofNat a < 0 ∨ n ≤ (Int32.ofNat a).toNatClampNeg) := noob (by rw [o_i (by omega)]; omega) (by rw [o_i (by omega)]; omega)
theorem o_1 (a : Nat) : Int32.ofNat a + (1 : Int32) = Int32.ofNat (a + 1) := (Int32.ofNat_add a 1).symm
theorem o_m1 (a : Nat) : Int32.ofNat (a + 1) + (-1 : Int32) = Int32.ofNat a := by
  rw [← o_1, Int32.add_assoc, show (1 : Int32) + (-1 : Int32) = 0 from by decide, Int32.add_zero]
theorem o_s1 (a : Nat) : Int32.ofNat (a + 1) - (1 : Int32) = Int32.ofNat a := by
  rw [← o_1, Int32.add_sub_cancel]
theorem o_add (a b : Nat) : Int32.ofNat a + Int32.ofNat b = Int32.ofNat (a + b) := (Int32.ofNat_add a b).symm
theorem o_mul (a b : Nat) : Int32.ofNat a * Int32.ofNat b = Int32.ofNat (a * b) := (Int32.ofNat_mul a b).symm
theorem o_gt {n a : Nat} (hn : n < 2147483648) (h : a ≤ n) : ¬ (Int32.ofNat n < Int32.ofNat a) := by rw [o_lt hn (by omega)]; omega
theorem o_lt1 {n a : Nat} (hn : n < 2147483648) (h : a < n) : Int32.ofNat a < Int32.ofNat n := by rw [o_lt (by omega) hn]; exact h
theorem o_of {p : Int32} {a b : Nat} (h1 : (a : Int) ≤ p.toInt) (h2 : p.toInt ≤ (b : Int)) : ∃ n : Nat, p = Int32.ofNat n ∧ a ≤ n ∧ n ≤ b := by
  have h0 : 0 ≤ p := by rw [Int32.le_iff_toInt_le]; have : (0 : Int32).toInt = 0 := by decide
                        omega
  refine ⟨p.toNatClampNeg, (Int32.ofNat_toNatClampNeg p h0).symm, ?_, ?_⟩
  · have e : p.toNatClampNeg = p.toInt.toNat := rfl
    omega
  · have e : p.toNatClampNeg = p.toInt.toNat := rfl
    omega
theorem n_20 {a : Nat} (h : a ≤ 20) : ¬ ((20 : Int32) < Int32.ofNat a) := o_gt (n := 20) (by omega) h
theorem o_0lt {a : Nat} (h : 1 ≤ a) (h2 : a < 2147483648) : ¬ (Int32.ofNat a ≤ (0 : Int32)) := by
  rw [show (0 : Int32) = Int32.ofNat 0 from rfl, o_le h2 (by omega)]
  omega
theorem o_1le {a : Nat} (h : 1 ≤ a) (h2 : a < 2147483648) : ¬ (Int32.ofNat a < (1 : Int32)) := by
  rw [show (1 : Int32) = Int32.ofNat 1 from rfl, o_lt h2 (by omega)]
  omega
theorem o_ob2 {a n : Nat} (h : a < n) (hn : n ≤ 2147483648) : ¬ (Int32.ofNat a < 0 ∨ n ≤ a) := by
  have e := o_ob h hn
  rwa [o_c (by omega)] at e
theorem sEq {T : Type} {o : Option T} {x : T} (h : o = some x) : Sf o (fun z => z = x) := ⟨x, h, rfl⟩
/-! ===== filling ===== -/
theorem c_fill_ {N K n : Nat} {f0 : Nat → Int32} {v : Int32} (hn : n < 2147483648) : ∀ k i fu (f : Nat → Int32), i + k = n → k < fu → ∃ g, fJ_fill_5 N K n f0 v fu (Int32.ofNat i) (Int32.ofNat n) f = some g ∧ ∀ p, g p = if i ≤ p ∧ p < n then v else f p := by
  intro k
  induction k with
  | zero =>
    intro i fu f hi hfu
    obtain ⟨fu, rfl⟩ : ∃ m, fu = m + 1 := ⟨fu - 1, by omega⟩
    obtain rfl : i = n := by omega
    refine ⟨f, ?_, fun p => by rw [if_neg (by omega)]⟩
    unfold fJ_fill_5
    rw [if_pos (by rw [o_le hn hn]; omega)]
  | succ k ih =>
    intro i fu f hi hfu
    obtain ⟨fu, rfl⟩ : ∃ m, fu = m + 1 := ⟨fu - 1, by omega⟩
    obtain ⟨g, h1, h2⟩ := ih (i + 1) fu (upd f i v) (by omega) (by omega)
    refine ⟨g, ?_, fun p => ?_⟩
    · unfold fJ_fill_5
      rw [if_neg (by rw [o_le hn (by omega)]; omega), if_neg (o_ob (by omega) (by omega)), o_c (by omega), o_1]
      exact h1
    · rw [h2 p]
      unfold upd
      by_cases e1 : i + 1 ≤ p ∧ p < n
      · rw [if_pos e1, if_pos (by omega)]
      · rw [if_neg e1]
        by_cases e2 : p = i
        · rw [if_pos e2, if_pos (by omega)]
        · rw [if_neg e2, if_neg (by omega)]
theorem c_fill {N K n : Nat} (hN : n < N) (hn : n < 2147483648) {f : Nat → Int32} {v : Int32} : ∃ g, fJ_fill N K n f v = some g ∧ ∀ p, g p = if p < n then v else f p := by
  obtain ⟨g, h1, h2⟩ := c_fill_ (N := N) (K := K) (f0 := f) (v := v) hn n 0 N f (by omega) hN
  exact ⟨g, h1, fun p => by rw [h2 p]; simp⟩
theorem s_J_fill {N K : Nat} {n : Nat} {f : Nat → Int32} {v : Int32} (hN : NBig N) (hK : 100 ≤ K) (hn : n ≤ 1000000) : Sf (fJ_fill N K n f v) (fun (z : Nat → Int32) => True) := by
  have hN9 := hN.u
  obtain ⟨g, h1, -⟩ := c_fill (N := N) (K := K) (n := n) (f := f) (v := v) (by omega) (by omega)
  exact ⟨g, h1, trivial⟩
/-! ===== a row of counts, still all 0 at its front ===== -/
theorem uz0 {u : Nat → Int32} {n : Nat} (h : n = 0) : ∀ a : Nat, a < n → u a = 0 := fun a ha => absurd ha (by omega)
theorem uz1 {u : Nat → Int32} {x : Int32} (h : ∀ a : Nat, a < x.toInt.toNat → u a = 0) (h0 : 0 ≤ x.toInt) (h1 : (x + (1 : Int32)).toInt = x.toInt + 1) : ∀ a : Nat, a < (x + (1 : Int32)).toInt.toNat → upd u x.toNatClampNeg 0 a = 0 := by
  intro a ha
  have e : x.toNatClampNeg = x.toInt.toNat := rfl
  unfold upd
  by_cases e2 : a = x.toNatClampNeg
  · rw [if_pos e2]
  · rw [if_neg e2]; exact h a (by omega)
theorem uz2 {u : Nat → Int32} {x v : Int32} (h : ∀ a : Nat, a < 21 → u a = 0) (h0 : 21 ≤ x.toInt) : ∀ a : Nat, a < 21 → upd u x.toNatClampNeg v a = 0 := by
  intro a ha
  have e : x.toNatClampNeg = x.toInt.toNat := rfl
  unfold upd
  rw [if_neg (by omega)]
  exact h a ha
theorem uz3 {u : Nat → Int32} {x : Int32} (h : ∀ a : Nat, a < 21 → u a = 0) (hn : ¬ u x.toNatClampNeg = 0) (h0 : 0 ≤ x.toInt) : 21 ≤ x.toInt := by
  have e : x.toNatClampNeg = x.toInt.toNat := rfl
  by_cases e2 : x.toNatClampNeg < 21
  · exact absurd (h _ e2) hn
  · omega
theorem uz4 {u : Nat → Int32} {x : Int32} (h : ∀ a : Nat, a < 21 → u a = 0) (hn : ¬ u x.toNatClampNeg ≤ 0) (h0 : 0 ≤ x.toInt) : 21 ≤ x.toInt := uz3 h (fun e => hn (by rw [e]; decide)) h0
theorem fac3 {l p : Int32} (h1 : 1 ≤ l.toInt) (h2 : l.toInt ≤ 4) (h : ¬ (p < ((l * (((3 : Int32) * l) - (1 : Int32))) / (2 : Int32)))) (h3 : p.toInt ≤ 20) : l.toInt ≤ 3 := by
  by_cases e : l.toInt = 4
  · have e2 : l = 4 := Int32.toInt_inj.mp (e.trans (by decide))
    subst e2
    have q : (((4 : Int32) * (((3 : Int32) * 4) - (1 : Int32))) / (2 : Int32)) = 22 := by decide
    have q2 : (22 : Int32).toInt = 22 := by decide
    rw [q] at h
    exact absurd (Int32.lt_iff_toInt_lt.mpr (by omega)) h
  · omega

end MG_49base
section MG_49adesk
/-! ===== sums ===== -/
def sm (g : Nat → Nat) : Nat → Nat
  | 0 => 0
  | n + 1 => sm g n + g (n + 1)
theorem sm_mono {g : Nat → Nat} {m : Nat} : ∀ {n : Nat}, m ≤ n → sm g m ≤ sm g n := by
  intro n
  induction n with
  | zero => intro h; obtain rfl : m = 0 := by omega
            exact Nat.le_refl _
  | succ n ih =>
    intro h
    by_cases e : m = n + 1
    · subst e; exact Nat.le_refl _
    · exact Nat.le_trans (ih (by omega)) (Nat.le_add_right _ _)
theorem sm_ge {g : Nat → Nat} {n p : Nat} (h1 : 1 ≤ p) (h2 : p ≤ n) : g p ≤ sm g n := by
  obtain ⟨q, rfl⟩ : ∃ q, p = q + 1 := ⟨p - 1, by omega⟩
  exact Nat.le_trans (Nat.le_add_left _ _) (sm_mono (g := g) h2)
theorem sm_congr {g h : Nat → Nat} : ∀ {n : Nat}, (∀ p, 1 ≤ p → p ≤ n → g p = h p) → sm g n = sm h n := by
  intro n
  induction n with
  | zero => intro _; rfl
  | succ n ih =>
    intro e
    show sm g n + g (n + 1) = sm h n + h (n + 1)
    rw [ih (fun p a b => e p a (by omega)), e (n + 1) (by omega) (by omega)]
theorem sm_le {g h : Nat → Nat} : ∀ {n : Nat}, (∀ p, 1 ≤ p → p ≤ n → g p ≤ h p) → sm g n ≤ sm h n := by
  intro n
  induction n with
  | zero => intro _; exact Nat.le_refl _
  | succ n ih =>
    intro e
    exact Nat.add_le_add (ih (fun p a b => e p a (by omega))) (e (n + 1) (by omega) (by omega))
theorem sm_upm {g : Nat → Nat} {p v : Nat} : ∀ {n : Nat}, 1 ≤ p → p ≤ n → sm (upm g p v) n + g p = sm g n + v := by
  intro n
  induction n with
  | zero => intro h1 h2; omega
  | succ n ih =>
    intro h1 h2
    show sm (upm g p v) n + upm g p v (n + 1) + g p = sm g n + g (n + 1) + v
    by_cases e : p = n + 1
    · subst e
      have e1 : sm (upm g (n + 1) v) n = sm g n := sm_congr (fun q a b => by unfold upm; rw [if_neg (by omega)])
      rw [e1]
      unfold upm
      rw [if_pos rfl]
      omega
    · have e1 := ih h1 (by omega)
      have e2 : upm g p v (n + 1) = g (n + 1) := by unfold upm; rw [if_neg (by omega)]
      rw [e2]
      omega
def wn (w : Nat → Nat) : Nat := sm (fun p => p * w p) 20
def wp (w : Nat → Nat) : Nat := sm w 20
/-- f holds, part by part, the way w -/
def Dv (f : Nat → Int32) (w : Nat → Nat) : Prop := ∀ p, 1 ≤ p → p ≤ 20 → f p = Int32.ofNat (w p)
def Dk (f : Nat → Int32) (w : Nat → Nat) : Prop := wn w ≤ 20 ∧ Dv f w
def OkD (f : Nat → Int32) : Prop := ∃ w, Dk f w
theorem wn_upm {w : Nat → Nat} {p v : Nat} (h1 : 1 ≤ p) (h2 : p ≤ 20) : wn (upm w p v) + p * w p = wn w + p * v := by
  unfold wn
  rw [show (fun q => q * upm w p v q) = upm (fun q => q * w q) p (p * v) from by
    funext q
    unfold upm
    by_cases e : q = p
    · rw [if_pos e, if_pos e, e]
    · rw [if_neg e, if_neg e]]
  exact sm_upm (g := fun q => q * w q) h1 h2
theorem Dv.put {f : Nat → Int32} {w : Nat → Nat} {p t : Nat} (h : Dv f w) : Dv (upd f p (Int32.ofNat t)) (upm w p t) := by
  intro q h1 h2
  unfold upd upm
  by_cases e : q = p
  · rw [if_pos e, if_pos e]
  · rw [if_neg e, if_neg e]; exact h q h1 h2
theorem Dv.same {f g : Nat → Int32} {w : Nat → Nat} (h : Dv f w) (e : ∀ p, 1 ≤ p → p ≤ 20 → g p = f p) : Dv g w := fun p a b => (e p a b).trans (h p a b)
theorem wn_ge {w : Nat → Nat} {p : Nat} (h1 : 1 ≤ p) (h2 : p ≤ 20) : p * w p ≤ wn w := sm_ge (g := fun q => q * w q) h1 h2
theorem wn_le1 {w : Nat → Nat} {p : Nat} (h1 : 1 ≤ p) (h2 : p ≤ 20) : w p ≤ wn w := Nat.le_trans (Nat.le_mul_of_pos_left _ (by omega)) (wn_ge h1 h2)
theorem wp_le {w : Nat → Nat} : wp w ≤ wn w := sm_le (fun p a _ => Nat.le_mul_of_pos_left _ (by omega))
/-! ===== the sums of a way, on both sides ===== -/
theorem c_sum_ {N K : Nat} {f : Nat → Int32} {w : Nat → Nat} (hf : Dv f w) : ∀ n i fu, i + n = 20 → n < fu → fX4_sum_4 N K f fu (Int32.ofNat (sm (fun p => p * w p) i)) (Int32.ofNat (i + 1)) = some (Int32.ofNat (wn w)) := by
  intro n
  induction n with
  | zero =>
    intro i fu hi hfu
    obtain ⟨fu, rfl⟩ : ∃ m, fu = m + 1 := ⟨fu - 1, by omega⟩
    obtain rfl : i = 20 := by omega
    unfold fX4_sum_4
    rw [if_pos (by decide)]
    rfl
  | succ n ih =>
    intro i fu hi hfu
    obtain ⟨fu, rfl⟩ : ∃ m, fu = m + 1 := ⟨fu - 1, by omega⟩
    unfold fX4_sum_4
    rw [if_neg (n_20 (by omega)), if_neg (o_ob (by omega) (by omega)), o_c (by omega), hf _ (by omega) (by omega), o_mul, o_add, o_1]
    exact ih (i + 1) fu (by omega) (by omega)
theorem c_sum {N K : Nat} (hN : 100 ≤ N) {f : Nat → Int32} {w : Nat → Nat} (hf : Dv f w) : fX4_sum N K f = some (Int32.ofNat (wn w)) := c_sum_ hf 20 0 N rfl (by omega)
theorem m_sum_ {N K : Nat} {f : Nat → Int32} {w : Nat → Nat} (hf : Dv f w) : ∀ n i fu, i + n = 20 → n < fu → fX7_number_4 N K f fu (Int32.ofNat (sm (fun p => p * w p) i)) (Int32.ofNat (i + 1)) = some (Int32.ofNat (wn w)) := by
  intro n
  induction n with
  | zero =>
    intro i fu hi hfu
    obtain ⟨fu, rfl⟩ : ∃ m, fu = m + 1 := ⟨fu - 1, by omega⟩
    obtain rfl : i = 20 := by omega
    unfold fX7_number_4
    rw [if_pos (by decide)]
    rfl
  | succ n ih =>
    intro i fu hi hfu
    obtain ⟨fu, rfl⟩ : ∃ m, fu = m + 1 := ⟨fu - 1, by omega⟩
    unfold fX7_number_4
    rw [if_neg (n_20 (by omega)), if_neg (o_ob (by omega) (by omega)), o_c (by omega), hf _ (by omega) (by omega), o_mul, o_add, o_1]
    exact ih (i + 1) fu (by omega) (by omega)
theorem m_sum {N K : Nat} (hN : 100 ≤ N) {f : Nat → Int32} {w : Nat → Nat} (hf : Dv f w) : fX7_number N K f = some (Int32.ofNat (wn w)) := m_sum_ hf 20 0 N rfl (by omega)
theorem c_parts_ {N K : Nat} {f : Nat → Int32} {w : Nat → Nat} (hf : Dv f w) : ∀ n i fu, i + n = 20 → n < fu → fX4_parts_4 N K f fu (Int32.ofNat (sm w i)) (Int32.ofNat (i + 1)) = some (Int32.ofNat (wp w)) := by
  intro n
  induction n with
  | zero =>
    intro i fu hi hfu
    obtain ⟨fu, rfl⟩ : ∃ m, fu = m + 1 := ⟨fu - 1, by omega⟩
    obtain rfl : i = 20 := by omega
    unfold fX4_parts_4
    rw [if_pos (by decide)]
    rfl
  | succ n ih =>
    intro i fu hi hfu
    obtain ⟨fu, rfl⟩ : ∃ m, fu = m + 1 := ⟨fu - 1, by omega⟩
    unfold fX4_parts_4
    rw [if_neg (n_20 (by omega)), if_neg (o_ob (by omega) (by omega)), o_c (by omega), hf _ (by omega) (by omega), o_add, o_1]
    exact ih (i + 1) fu (by omega) (by omega)
theorem c_parts {N K : Nat} (hN : 100 ≤ N) {f : Nat → Int32} {w : Nat → Nat} (hf : Dv f w) : fX4_parts N K f = some (Int32.ofNat (wp w)) := c_parts_ hf 20 0 N rfl (by omega)
theorem m_parts_ {N K : Nat} {f : Nat → Int32} {w : Nat → Nat} (hf : Dv f w) : ∀ n i fu, i + n = 20 → n < fu → fX7_parts_4 N K f fu (Int32.ofNat (sm w i)) (Int32.ofNat (i + 1)) = some (Int32.ofNat (wp w)) := by
  intro n
  induction n with
  | zero =>
    intro i fu hi hfu
    obtain ⟨fu, rfl⟩ : ∃ m, fu = m + 1 := ⟨fu - 1, by omega⟩
    obtain rfl : i = 20 := by omega
    unfold fX7_parts_4
    rw [if_pos (by decide)]
    rfl
  | succ n ih =>
    intro i fu hi hfu
    obtain ⟨fu, rfl⟩ : ∃ m, fu = m + 1 := ⟨fu - 1, by omega⟩
    unfold fX7_parts_4
    rw [if_neg (n_20 (by omega)), if_neg (o_ob (by omega) (by omega)), o_c (by omega), hf _ (by omega) (by omega), o_add, o_1]
    exact ih (i + 1) fu (by omega) (by omega)
theorem m_parts {N K : Nat} (hN : 100 ≤ N) {f : Nat → Int32} {w : Nat → Nat} (hf : Dv f w) : fX7_parts N K f = some (Int32.ofNat (wp w)) := m_parts_ hf 20 0 N rfl (by omega)
/-! ===== a part put on, or taken off ===== -/
theorem c_put {N K : Nat} {f : Nat → Int32} {w : Nat → Nat} (hf : Dv f w) {p t : Nat} (h1 : 1 ≤ p) (h2 : p ≤ 20) : ∃ g, fX4_put N K f (Int32.ofNat p) (Int32.ofNat t) = some g ∧ Dv g (upm w p (w p + t)) := by
  refine ⟨_, ?_, hf.put (p := p) (t := w p + t)⟩
  unfold fX4_put
  rw [if_neg (o_1le h1 (by omega)), if_neg (n_20 h2), if_neg (o_ob (by omega) (by omega)), if_neg (o_ob (by omega) (by omega)), o_c (by omega), hf p h1 h2, o_add]
theorem c_put0 {N K : Nat} {f : Nat → Int32} {t : Int32} : fX4_put N K f (Int32.ofNat 0) t = some f := by
  unfold fX4_put
  rw [if_pos (by decide)]
theorem c_empty {N K : Nat} (hN : 100 ≤ N) {f : Nat → Int32} : ∃ g, fX4_becomeEmpty N K f = some g ∧ Dv g (fun _ => 0) := by
  obtain ⟨g, h1, h2⟩ := c_fill (N := N) (K := K) (n := 21) (f := f) (v := 0) (by omega) (by omega)
  refine ⟨g, ?_, fun p a b => by rw [h2 p, if_pos (by omega)]; rfl⟩
  unfold fX4_becomeEmpty
  rw [h1]
  rfl
theorem c_become {N K : Nat} {f g : Nat → Int32} {w : Nat → Nat} (hg : Dv g w) : ∃ h, fX4_become N K f g = some h ∧ Dv h w := by
  refine ⟨_, rfl, fun p a b => ?_⟩
  show (if (0 : Int32).toNatClampNeg ≤ p ∧ p < (0 : Int32).toNatClampNeg + (21 : Int32).toNatClampNeg then g ((0 : Int32).toNatClampNeg + (p - (0 : Int32).toNatClampNeg)) else f p) = _
  have e0 : (0 : Int32).toNatClampNeg = 0 := by decide
  have e1 : (21 : Int32).toNatClampNeg = 21 := by decide
  rw [e0, e1, if_pos (by omega), show 0 + (p - 0) = p from by omega]
  exact hg p a b
/-- the first way of a number -/
def firstw (n : Nat) : Nat → Nat := if n = 0 then fun _ => 0 else upm (fun _ => 0) n 1
theorem wn_0 : wn (fun _ => 0) = 0 := by decide
theorem wn_first {n : Nat} (h : n ≤ 20) : wn (firstw n) = n := by
  unfold firstw
  by_cases e : n = 0
  · rw [if_pos e, wn_0, e]
  · rw [if_neg e]
    have := wn_upm (w := fun _ => 0) (p := n) (v := 1) (by omega) h
    rw [wn_0] at this
    omega
theorem c_first {N K : Nat} (hN : 100 ≤ N) {f : Nat → Int32} {n : Nat} (h : n ≤ 20) : ∃ g, fX4_becomeFirst N K f (Int32.ofNat n) = some g ∧ Dk g (firstw n) := by
  obtain ⟨g, h1, h2⟩ := c_empty (N := N) (K := K) hN (f := f)
  by_cases e : n = 0
  · subst e
    refine ⟨g, ?_, by rw [wn_first h]; omega, by unfold firstw; rw [if_pos rfl]; exact h2⟩
    unfold fX4_becomeFirst
    rw [h1, Option.bind_some, c_put0]
    rfl
  · obtain ⟨g2, h3, h4⟩ := c_put (N := N) (K := K) h2 (p := n) (t := 1) (by omega) h
    refine ⟨g2, ?_, by rw [wn_first h]; omega, by unfold firstw; rw [if_neg e]; exact h4⟩
    unfold fX4_becomeFirst
    rw [h1, Option.bind_some, show (1 : Int32) = Int32.ofNat 1 from rfl, h3]
    rfl
theorem m_first {N K : Nat} {n : Nat} (h : n ≤ 20) : ∃ g, fX7_firstWay N K (Int32.ofNat n) = some g ∧ Dk g (firstw n) := by
  by_cases e : n = 0
  · subst e
    refine ⟨fun _ => 0, ?_, by rw [wn_first h]; omega, by unfold firstw; rw [if_pos rfl]; exact fun p _ _ => rfl⟩
    unfold fX7_firstWay
    rw [if_pos (by decide)]
  · refine ⟨upd (fun _ => 0) n (Int32.ofNat 1), ?_, by rw [wn_first h]; omega, by unfold firstw; rw [if_neg e]; exact Dv.put (w := fun _ => 0) (fun _ _ _ => rfl)⟩
    unfold fX7_firstWay
    rw [if_neg (by rw [show (0 : Int32) = Int32.ofNat 0 from rfl, o_le (by omega) (by omega)]; omega), if_neg (o_ob (by omega) (by omega)), o_c (by omega)]
    rfl
theorem OkD.z : OkD (fun _ => 0) := ⟨fun _ => 0, by rw [wn_0]; omega, fun _ _ _ => rfl⟩
theorem OkD.le {f : Nat → Int32} (h : OkD f) {p : Nat} (h1 : 1 ≤ p) (h2 : p ≤ 20) : 0 ≤ (f p).toInt ∧ (f p).toInt ≤ 20 := by
  obtain ⟨w, hw, hf⟩ := h
  have c := wn_le1 (w := w) h1 h2
  rw [hf p h1 h2, o_i (by omega)]
  omega

end MG_49adesk
section MG_49bturn
/-! ===== a way turned ===== -/
def tl (w : Nat → Nat) : Nat → Nat
  | 0 => 0
  | m + 1 => tl w m + w (20 - m)
def cn (w : Nat → Nat) : Nat → Nat → Nat
  | 0 => fun _ => 0
  | m + 1 => if tl w (m + 1) = 0 then cn w m else upm (cn w m) (tl w (m + 1)) (cn w m (tl w (m + 1)) + 1)
def turnw (w : Nat → Nat) : Nat → Nat := cn w 20
theorem tl_all (w : Nat → Nat) : tl w 20 = wp w := by
  simp only [tl, wp, sm, Nat.reduceAdd, Nat.reduceSub, Nat.zero_add, Nat.sub_zero]
  omega
theorem tl_mono {w : Nat → Nat} {m : Nat} : ∀ {n : Nat}, m ≤ n → tl w m ≤ tl w n := by
  intro n
  induction n with
  | zero => intro h; obtain rfl : m = 0 := by omega
            exact Nat.le_refl _
  | succ n ih =>
    intro h
    by_cases e : m = n + 1
    · subst e; exact Nat.le_refl _
    · exact Nat.le_trans (ih (by omega)) (Nat.le_add_right _ _)
theorem tl_le {w : Nat → Nat} {m : Nat} (h : m ≤ 20) : tl w m ≤ wn w := Nat.le_trans (tl_mono h) (by rw [tl_all]; exact wp_le)
theorem tl_sum (w : Nat → Nat) : sm (tl w) 20 = wn w := by
  simp only [sm, tl, wn, Nat.reduceAdd, Nat.reduceSub, Nat.reduceMul, Nat.zero_add, Nat.sub_zero]
  omega
theorem wn_cn {w : Nat → Nat} (hw : wn w ≤ 20) : ∀ m, m ≤ 20 → wn (cn w m) = sm (tl w) m := by
  intro m
  induction m with
  | zero => intro _; exact wn_0
  | succ m ih =>
    intro h
    have h1 := ih (by omega)
    have h2 := tl_le (w := w) h
    show wn (if tl w (m + 1) = 0 then cn w m else upm (cn w m) (tl w (m + 1)) (cn w m (tl w (m + 1)) + 1)) = sm (tl w) m + tl w (m + 1)
    by_cases e : tl w (m + 1) = 0
    · rw [if_pos e, h1, e, Nat.add_zero]
    · rw [if_neg e]
      have h3 := wn_upm (w := cn w m) (p := tl w (m + 1)) (v := cn w m (tl w (m + 1)) + 1) (by omega) (by omega)
      rw [Nat.mul_add, h1] at h3
      omega
theorem wn_turn {w : Nat → Nat} (hw : wn w ≤ 20) : wn (turnw w) = wn w := (wn_cn hw 20 (Nat.le_refl _)).trans (tl_sum w)
theorem c_turn_ {N K : Nat} {f g : Nat → Int32} {w : Nat → Nat} (hg : Dv g w) (hw : wn w ≤ 20) : ∀ k m fu (h : Nat → Int32), m + k = 20 → k < fu → Dv h (cn w m) → ∃ h2, fX4_becomeTurned_9 N K f g fu (Int32.ofNat (tl w m)) (Int32.ofNat (20 - m)) h = some h2 ∧ Dv h2 (turnw w) := by
  intro k
  induction k with
  | zero =>
    intro m fu h hm hfu hh
    obtain ⟨fu, rfl⟩ : ∃ m, fu = m + 1 := ⟨fu - 1, by omega⟩
    obtain rfl : m = 20 := by omega
    refine ⟨h, ?_, hh⟩
    unfold fX4_becomeTurned_9
    rw [if_pos (by decide)]
  | succ k ih =>
    intro m fu h hm hfu hh
    obtain ⟨fu, rfl⟩ : ∃ m, fu = m + 1 := ⟨fu - 1, by omega⟩
    obtain ⟨j, hj⟩ : ∃ j, 20 - m = j + 1 := ⟨19 - m, by omega⟩
    have ht : tl w m + w (j + 1) = tl w (m + 1) := by show _ = tl w m + w (20 - m); rw [hj]
    have ht2 := tl_le (w := w) (m := m + 1) (by omega)
    have hcn : cn w (m + 1) = if tl w (m + 1) = 0 then cn w m else upm (cn w m) (tl w (m + 1)) (cn w m (tl w (m + 1)) + 1) := rfl
    unfold fX4_becomeTurned_9
    rw [hj, if_neg (o_1le (by omega) (by omega)), if_neg (o_ob (by omega) (by omega)), o_c (by omega), hg _ (by omega) (by omega), o_add, ht, o_m1]
    have hj2 : j = 20 - (m + 1) := by omega
    by_cases e : tl w (m + 1) = 0
    · rw [e, c_put0, Option.bind_some, ← e, hj2]
      exact ih (m + 1) fu h (by omega) (by omega) (by rw [hcn, if_pos e]; exact hh)
    · obtain ⟨g2, h1, h2⟩ := c_put (N := N) (K := K) hh (p := tl w (m + 1)) (t := 1) (by omega) (by omega)
      rw [show (1 : Int32) = Int32.ofNat 1 from rfl, h1, Option.bind_some, hj2]
      exact ih (m + 1) fu g2 (by omega) (by omega) (by rw [hcn, if_neg e]; exact h2)
theorem c_turn {N K : Nat} (hN : 100 ≤ N) {f g : Nat → Int32} {w : Nat → Nat} (h : Dk g w) : ∃ h2, fX4_becomeTurned N K f g = some h2 ∧ Dk h2 (turnw w) := by
  obtain ⟨e, h1, h2⟩ := c_empty (N := N) (K := K) hN (f := f)
  obtain ⟨h3, h4, h5⟩ := c_turn_ (N := N) (K := K) (f := f) h.2 h.1 20 0 N e rfl (by omega) h2
  refine ⟨h3, ?_, by rw [wn_turn h.1]; exact h.1, h5⟩
  unfold fX4_becomeTurned
  rw [h1, Option.bind_some]
  exact h4
theorem m_turn_ {N K : Nat} {g : Nat → Int32} {w : Nat → Nat} (hg : Dv g w) (hw : wn w ≤ 20) : ∀ k m fu (h : Nat → Int32), m + k = 20 → k < fu → Dv h (cn w m) → ∃ h2, fX7_turned_10 N K g fu (Int32.ofNat (tl w m)) (Int32.ofNat (20 - m)) h = some h2 ∧ Dv h2 (turnw w) := by
  intro k
  induction k with
  | zero =>
    intro m fu h hm hfu hh
    obtain ⟨fu, rfl⟩ : ∃ m, fu = m + 1 := ⟨fu - 1, by omega⟩
    obtain rfl : m = 20 := by omega
    refine ⟨h, ?_, hh⟩
    unfold fX7_turned_10
    rw [if_pos (by decide)]
  | succ k ih =>
    intro m fu h hm hfu hh
    obtain ⟨fu, rfl⟩ : ∃ m, fu = m + 1 := ⟨fu - 1, by omega⟩
    obtain ⟨j, hj⟩ : ∃ j, 20 - m = j + 1 := ⟨19 - m, by omega⟩
    have ht : tl w m + w (j + 1) = tl w (m + 1) := by show _ = tl w m + w (20 - m); rw [hj]
    have ht2 := tl_le (w := w) (m := m + 1) (by omega)
    have hcn : cn w (m + 1) = if tl w (m + 1) = 0 then cn w m else upm (cn w m) (tl w (m + 1)) (cn w m (tl w (m + 1)) + 1) := rfl
    unfold fX7_turned_10
    rw [hj, if_neg (o_0lt (by omega) (by omega)), if_neg (o_ob (by omega) (by omega)), o_c (by omega), hg _ (by omega) (by omega), o_add, ht]
    unfold fX7_turned_31
    rw [o_m1]
    have hj2 : j = 20 - (m + 1) := by omega
    by_cases e : tl w (m + 1) = 0
    · rw [if_pos (by rw [e]; decide), hj2]
      exact ih (m + 1) fu h (by omega) (by omega) (by rw [hcn, if_pos e]; exact hh)
    · rw [if_neg (o_0lt (by omega) (by omega)), if_neg (o_ob (by omega) (by omega)), if_neg (o_ob (by omega) (by omega)), o_c (by omega), hh _ (by omega) (by omega), o_1, hj2]
      exact ih (m + 1) fu _ (by omega) (by omega) (by rw [hcn, if_neg e]; exact hh.put)
theorem m_turn {N K : Nat} (hN : 100 ≤ N) {g : Nat → Int32} {w : Nat → Nat} (h : Dk g w) : ∃ h2, fX7_turned N K g = some h2 ∧ Dk h2 (turnw w) := by
  obtain ⟨h3, h4, h5⟩ := m_turn_ (N := N) (K := K) h.2 h.1 20 0 N (fun _ => 0) rfl (by omega) (fun _ _ _ => rfl)
  exact ⟨h3, h4, by rw [wn_turn h.1]; exact h.1, h5⟩
/-! ===== the next way ===== -/
def lsf (w : Nat → Nat) : Nat → Nat → Nat
  | 0, _ => 0
  | n + 1, i => if w i = 0 then lsf w n (i + 1) else i
/-- the least part above 1, or 0 -/
def lst (w : Nat → Nat) : Nat := lsf w 19 2
theorem lsf_is {w : Nat → Nat} : ∀ n i, i + n = 21 → 2 ≤ i → lsf w n i = 0 ∨ (2 ≤ lsf w n i ∧ lsf w n i ≤ 20 ∧ 1 ≤ w (lsf w n i)) := by
  intro n
  induction n with
  | zero => intro i _ _; exact Or.inl rfl
  | succ n ih =>
    intro i hi h2
    unfold lsf
    by_cases e : w i = 0
    · rw [if_pos e]; exact ih (i + 1) (by omega) (by omega)
    · rw [if_neg e]; exact Or.inr ⟨h2, by omega, by omega⟩
theorem lst_is (w : Nat → Nat) : lst w = 0 ∨ (2 ≤ lst w ∧ lst w ≤ 20 ∧ 1 ≤ w (lst w)) := lsf_is 19 2 rfl (Nat.le_refl _)
theorem c_least_ {N K : Nat} {f : Nat → Int32} {w : Nat → Nat} (hf : Dv f w) (hw : wn w ≤ 20) : ∀ n i fu, i + n = 21 → 2 ≤ i → n < fu → fX4_leastAboveOne_2 N K f fu (Int32.ofNat i) = some (Int32.ofNat (lsf w n i)) := by
  intro n
  induction n with
  | zero =>
    intro i fu hi h2 hfu
    obtain ⟨fu, rfl⟩ : ∃ m, fu = m + 1 := ⟨fu - 1, by omega⟩
    obtain rfl : i = 21 := by omega
    unfold fX4_leastAboveOne_2
    rw [if_pos (by decide)]
    rfl
  | succ n ih =>
    intro i fu hi h2 hfu
    obtain ⟨fu, rfl⟩ : ∃ m, fu = m + 1 := ⟨fu - 1, by omega⟩
    have hwi := wn_le1 (w := w) (p := i) (by omega) (by omega)
    unfold fX4_leastAboveOne_2 lsf
    rw [if_neg (n_20 (by omega)), if_neg (o_ob (by omega) (by omega)), o_c (by omega), hf _ (by omega) (by omega), o_1]
    by_cases e : w i = 0
    · rw [if_pos e, if_pos (by rw [e]; decide)]
      exact ih (i + 1) fu (by omega) (by omega) (by omega)
    · rw [if_neg e, if_neg (o_0lt (by omega) (by omega))]
theorem c_least {N K : Nat} (hN : 100 ≤ N) {f : Nat → Int32} {w : Nat → Nat} (hf : Dk f w) : fX4_leastAboveOne N K f = some (Int32.ofNat (lst w)) := c_least_ hf.2 hf.1 19 2 N rfl (Nat.le_refl _) (by omega)
/-- the part p taken down: itself and all parts of 1 written anew -/
def stg (w : Nat → Nat) (p : Nat) : Nat → Nat := upm (upm w p (w p - 1)) 1 0
def stw (w : Nat → Nat) (p : Nat) : Nat → Nat :=
  let g1 := upm (stg w p) (p - 1) (stg w p (p - 1) + (p + w 1) / (p - 1))
  if (p + w 1) % (p - 1) = 0 then g1 else upm g1 ((p + w 1) % (p - 1)) (g1 ((p + w 1) % (p - 1)) + 1)
theorem wn_stg {w : Nat → Nat} {p : Nat} (h2 : 2 ≤ p) (h3 : p ≤ 20) (h1 : 1 ≤ w p) : wn (stg w p) + (p + w 1) = wn w := by
  obtain ⟨v, hv⟩ : ∃ v, w p = v + 1 := ⟨w p - 1, by omega⟩
  have a := wn_upm (w := w) (p := p) (v := v) (by omega) h3
  have b := wn_upm (w := upm w p v) (p := 1) (v := 0) (by omega) (by omega)
  have c : upm w p v 1 = w 1 := by unfold upm; rw [if_neg (by omega)]
  rw [c] at b
  rw [hv, Nat.mul_add] at a
  unfold stg
  rw [hv, show v + 1 - 1 = v from by omega]
  omega
theorem wn_stw {w : Nat → Nat} {p : Nat} (h2 : 2 ≤ p) (h3 : p ≤ 20) (h1 : 1 ≤ w p) : wn (stw w p) = wn w := by
  have a := wn_stg h2 h3 h1
  have b := wn_upm (w := stg w p) (p := p - 1) (v := stg w p (p - 1) + (p + w 1) / (p - 1)) (by omega) (by omega)
  have d := Nat.div_add_mod (p + w 1) (p - 1)
  rw [Nat.mul_add] at b
  have lt : (p + w 1) % (p - 1) < p - 1 := Nat.mod_lt _ (by omega)
  unfold stw
  by_cases e : (p + w 1) % (p - 1) = 0
  · simp only [e, if_true]
    omega
  · simp only [e, if_false]
    have c := wn_upm (w := upm (stg w p) (p - 1) (stg w p (p - 1) + (p + w 1) / (p - 1))) (p := (p + w 1) % (p - 1)) (v := upm (stg w p) (p - 1) (stg w p (p - 1) + (p + w 1) / (p - 1)) ((p + w 1) % (p - 1)) + 1) (by omega) (by omega)
    rw [Nat.mul_add] at c
    omega
theorem o_div {a b : Nat} (ha : a < 2147483648) (hb : b < 2147483648) : Int32.ofNat a / Int32.ofNat b = Int32.ofNat (a / b) := (Int32.ofNat_div ha hb).symm
theorem o_mod {a b : Nat} (ha : a < 2147483648) (hb : b < 2147483648) : Int32.ofNat a % Int32.ofNat b = Int32.ofNat (a % b) := (Int32.ofNat_mod ha hb).symm
theorem c_step {N K : Nat} (hN : 100 ≤ N) {f : Nat → Int32} {w : Nat → Nat} (hf : Dk f w) : ∃ g, fX4_stepOn N K f = some (if lst w = 0 then 0 else 1, g) ∧ Dk g (if lst w = 0 then w else stw w (lst w)) := by
  rcases lst_is w with e | ⟨h2, h3, h1⟩
  · refine ⟨f, ?_, by rw [if_pos e]; exact hf⟩
    unfold fX4_stepOn
    rw [c_least hN hf, Option.bind_some, e, if_pos (by decide), if_pos rfl]
  · have hne : ¬ lst w = 0 := by omega
    rw [if_neg hne, if_neg hne]
    generalize hp : lst w = p at *
    obtain ⟨q, rfl⟩ : ∃ q, p = q + 1 := ⟨p - 1, by omega⟩
    obtain ⟨v, hv⟩ : ∃ v, w (q + 1) = v + 1 := ⟨w (q + 1) - 1, by omega⟩
    have hw1 := wn_le1 (w := w) (p := 1) (by omega) (by omega)
    have hwn := hf.1
    have hs : Dv (upd (upd f (q + 1) (Int32.ofNat v)) 1 (Int32.ofNat 0)) (stg w (q + 1)) := by
      have := (hf.2.put (p := q + 1) (t := v)).put (p := 1) (t := 0)
      unfold stg
      rw [hv]
      exact this
    obtain ⟨g1, a1, a2⟩ := c_put (N := N) (K := K) hs (p := q) (t := (q + 1 + w 1) / q) (by omega) (by omega)
    have lt : (q + 1 + w 1) % q < q := Nat.mod_lt _ (by omega)
    have pre : fX4_stepOn N K f = ((fX4_put N K g1 (Int32.ofNat ((q + 1 + w 1) % q)) (1 : Int32)).bind (fun x61 => (some ((1 : Int32), x61)))) := by
      unfold fX4_stepOn
      rw [c_least hN hf, Option.bind_some, hp, if_neg (by rw [show (2 : Int32) = Int32.ofNat 2 from rfl, o_lt (by omega) (by omega)]; omega), if_pos (by rw [show (20 : Int32) = Int32.ofNat 20 from rfl, o_le (by omega) (by omega)]; omega), if_neg (o_ob (by omega) (by omega)), if_neg (o_ob (by omega) (by omega)), o_c (by omega), hf.2 _ (by omega) h3, hv, o_s1, o_s1, show (1 : Int32).toNatClampNeg = 1 from by decide, hf.2 1 (by omega) (by omega), o_add, o_div (by omega) (by omega), o_mod (by omega) (by omega), if_neg (by rw [show (0 : Int32) = Int32.ofNat 0 from rfl, o_eq (by omega) (by omega)]; omega), show (0 : Int32) = Int32.ofNat 0 from rfl, a1, Option.bind_some, if_neg (by rw [o_eq (by omega) (by omega)]; omega)]
    have hstw : stw w (q + 1) = (if (q + 1 + w 1) % q = 0 then upm (stg w (q + 1)) q (stg w (q + 1) q + (q + 1 + w 1) / q) else upm (upm (stg w (q + 1)) q (stg w (q + 1) q + (q + 1 + w 1) / q)) ((q + 1 + w 1) % q) (upm (stg w (q + 1)) q (stg w (q + 1) q + (q + 1 + w 1) / q) ((q + 1 + w 1) % q) + 1)) := rfl
    have hsum : wn (stw w (q + 1)) ≤ 20 := by rw [wn_stw h2 h3 h1]; exact hf.1
    rw [pre]
    by_cases e : (q + 1 + w 1) % q = 0
    · refine ⟨g1, ?_, hsum, ?_⟩
      · rw [e, c_put0]; rfl
      · rw [hstw, if_pos e]; exact a2
    · obtain ⟨g2, b1, b2⟩ := c_put (N := N) (K := K) a2 (p := (q + 1 + w 1) % q) (t := 1) (by omega) (by omega)
      refine ⟨g2, ?_, hsum, ?_⟩
      · rw [show (1 : Int32) = Int32.ofNat 1 from rfl, b1]; rfl
      · rw [hstw, if_neg e]; exact b2
/-- the reference's loop, behind its first turn -/
theorem m_step_ {N K : Nat} {f0 : Nat → Int32} : ∀ n c fu (g : Nat → Int32) (w : Nat → Nat), c ≤ n → n ≤ 20 → n < fu → Dv g w → ∃ h, fX7_isNext_49 N K f0 fu (Int32.ofNat c) (Int32.ofNat n) g = some (1, h) ∧ Dv h (if c = 0 then w else upm w c (w c + 1)) := by
  intro n
  induction n with
  | zero =>
    intro c fu g w hc hn hfu hg
    obtain ⟨fu, rfl⟩ : ∃ m, fu = m + 1 := ⟨fu - 1, by omega⟩
    refine ⟨g, ?_, by rw [if_pos (by omega)]; exact hg⟩
    unfold fX7_isNext_49
    rw [if_pos (by decide)]
  | succ n ih =>
    intro c fu g w hc hn hfu hg
    obtain ⟨fu, rfl⟩ : ∃ m, fu = m + 1 := ⟨fu - 1, by omega⟩
    unfold fX7_isNext_49
    rw [if_neg (o_0lt (by omega) (by omega)), if_neg (o_ob (by omega) (by omega)), if_neg (by rw [show (0 : Int32) = Int32.ofNat 0 from rfl, o_eq (by omega) (by omega)]; omega), if_neg (o_ob (by omega) (by omega)), if_neg (by rw [show (0 : Int32) = Int32.ofNat 0 from rfl, o_eq (by omega) (by omega)]; omega), o_c (by omega), o_m1, o_div (by omega) (by omega), o_mod (by omega) (by omega), hg _ (by omega) (by omega), o_add]
    by_cases e : c = n + 1
    · subst e
      rw [Nat.mod_self, Nat.div_self (by omega)]
      obtain ⟨h, h1, h2⟩ := ih 0 fu _ (upm w (n + 1) (w (n + 1) + 1)) (by omega) (by omega) (by omega) hg.put
      refine ⟨h, h1, ?_⟩
      rw [if_neg (by omega)]
      rwa [if_pos rfl] at h2
    · rw [Nat.mod_eq_of_lt (by omega), Nat.div_eq_of_lt (by omega)]
      have hg2 : Dv (upd g (n + 1) (Int32.ofNat (w (n + 1) + 0))) w := by
        refine hg.same (fun p a b => ?_)
        unfold upd
        by_cases e2 : p = n + 1
        · rw [if_pos e2, e2, hg _ (by omega) (by omega)]; rfl
        · rw [if_neg e2]
      exact ih c fu _ w (by omega) (by omega) (by omega) hg2
theorem m_step20 {N K : Nat} (hN : 100 ≤ N) {f0 f : Nat → Int32} {w : Nat → Nat} (hf : Dk f w) {p : Nat} (h2 : 2 ≤ p) (h3 : p ≤ 20) (h1 : 1 ≤ w p) : ∃ g, fX7_isNext_20 N K f0 (Int32.ofNat p) f = some (1, g) ∧ Dk g (stw w p) := by
  obtain ⟨q, rfl⟩ : ∃ q, p = q + 1 := ⟨p - 1, by omega⟩
  obtain ⟨v, hv⟩ : ∃ v, w (q + 1) = v + 1 := ⟨w (q + 1) - 1, by omega⟩
  have hw1 := wn_le1 (w := w) (p := 1) (by omega) (by omega)
  have hwn := hf.1
  have hs : Dv (upd (upd f 1 (Int32.ofNat 0)) (q + 1) (Int32.ofNat v)) (stg w (q + 1)) := by
    have h := (hf.2.put (p := 1) (t := 0)).put (p := q + 1) (t := v)
    unfold stg
    rw [hv]
    intro r a b
    rw [h r a b]
    unfold upm
    by_cases e : r = q + 1
    · rw [if_pos e, if_neg (by omega), if_pos e]; rfl
    · rw [if_neg e, if_neg e]
  have lt : (q + 1 + w 1) % q < q := Nat.mod_lt _ (by omega)
  have hstw : stw w (q + 1) = (if (q + 1 + w 1) % q = 0 then upm (stg w (q + 1)) q (stg w (q + 1) q + (q + 1 + w 1) / q) else upm (upm (stg w (q + 1)) q (stg w (q + 1) q + (q + 1 + w 1) / q)) ((q + 1 + w 1) % q) (upm (stg w (q + 1)) q (stg w (q + 1) q + (q + 1 + w 1) / q) ((q + 1 + w 1) % q) + 1)) := rfl
  have hsum : wn (stw w (q + 1)) ≤ 20 := by rw [wn_stw h2 h3 h1]; exact hf.1
  obtain ⟨M, hM⟩ : ∃ M, N = M + 1 := ⟨N - 1, by omega⟩
  obtain ⟨r, hr⟩ : ∃ r, q = r + 1 := ⟨q - 1, by omega⟩
  obtain ⟨h, a1, a2⟩ := m_step_ (N := N) (K := K) (f0 := f0) r ((q + 1 + w 1) % q) M (upd (upd (upd f 1 (Int32.ofNat 0)) (q + 1) (Int32.ofNat v)) q (Int32.ofNat (stg w (q + 1) q + (q + 1 + w 1) / q))) _ (by omega) (by omega) (by omega) hs.put
  refine ⟨h, ?_, hsum, by rw [hstw]; exact a2⟩
  unfold fX7_isNext_20
  rw [if_pos (by rw [show (20 : Int32) = Int32.ofNat 20 from rfl, o_le (by omega) (by omega)]; omega), if_neg (o_ob (by omega) (by omega)), if_neg (o_ob (by omega) (by omega)), o_c (by omega), o_s1, show (1 : Int32).toNatClampNeg = 1 from by decide, hf.2 1 (by omega) (by omega), o_add, show (0 : Int32) = Int32.ofNat 0 from rfl]
  rw [show upd f 1 (Int32.ofNat 0) (q + 1) = Int32.ofNat (v + 1) from by unfold upd; rw [if_neg (by omega), hf.2 _ (by omega) (by omega), hv], o_s1]
  conv => lhs; rw [show fX7_isNext_49 N K f0 N = fX7_isNext_49 N K f0 (M + 1) from by rw [← hM]]
  unfold fX7_isNext_49
  rw [if_neg (o_0lt (by omega) (by omega)), if_neg (o_ob (by omega) (by omega)), if_neg (by rw [show (0 : Int32) = Int32.ofNat 0 from rfl, o_eq (by omega) (by omega)]; omega), if_neg (o_ob (by omega) (by omega)), if_neg (by rw [show (0 : Int32) = Int32.ofNat 0 from rfl, o_eq (by omega) (by omega)]; omega), o_c (by omega), o_div (by omega) (by omega), o_mod (by omega) (by omega), hs _ (by omega) (by omega), o_add]
  rw [show Int32.ofNat q + (-1 : Int32) = Int32.ofNat r from by rw [hr, o_m1]]
  exact a1
theorem m_step2 {N K : Nat} (hN : 100 ≤ N) {f0 f : Nat → Int32} {w : Nat → Nat} (hf : Dk f w) : ∀ n i fu, i + n = 21 → 2 ≤ i → n < fu → ∃ g, fX7_isNext_2 N K f0 fu (Int32.ofNat i) f = some (if lsf w n i = 0 then 0 else 1, g) ∧ Dk g (if lsf w n i = 0 then w else stw w (lsf w n i)) := by
  intro n
  induction n with
  | zero =>
    intro i fu hi h2 hfu
    obtain ⟨fu, rfl⟩ : ∃ m, fu = m + 1 := ⟨fu - 1, by omega⟩
    obtain rfl : i = 21 := by omega
    refine ⟨f, ?_, by rw [show lsf w 0 21 = 0 from rfl, if_pos rfl]; exact hf⟩
    unfold fX7_isNext_2
    rw [if_pos (by decide)]
    unfold fX7_isNext_20
    rw [if_neg (by decide), show lsf w 0 21 = 0 from rfl, if_pos rfl]
  | succ n ih =>
    intro i fu hi h2 hfu
    obtain ⟨fu, rfl⟩ : ∃ m, fu = m + 1 := ⟨fu - 1, by omega⟩
    have hwi := wn_le1 (w := w) (p := i) (by omega) (by omega)
    have hwn := hf.1
    unfold fX7_isNext_2 lsf
    rw [if_neg (n_20 (by omega)), if_neg (o_ob (by omega) (by omega)), o_c (by omega), hf.2 _ (by omega) (by omega), o_1]
    by_cases e : w i = 0
    · simp only [e, if_true]
      rw [if_pos (by decide)]
      exact ih (i + 1) fu (by omega) (by omega) (by omega)
    · simp only [e, if_false]
      rw [if_neg (by rw [show (0 : Int32) = Int32.ofNat 0 from rfl, o_eq (by omega) (by omega)]; exact e), if_neg (by omega), if_neg (by omega)]
      exact m_step20 hN hf h2 (by omega) (by omega)
theorem m_step {N K : Nat} (hN : 100 ≤ N) {f : Nat → Int32} {w : Nat → Nat} (hf : Dk f w) : ∃ g, fX7_isNext N K f = some (if lst w = 0 then 0 else 1, g) ∧ Dk g (if lst w = 0 then w else stw w (lst w)) := m_step2 hN hf 19 2 N rfl (Nat.le_refl _) (by omega)

end MG_49bturn
section MG_49ckinds
/-! ===== to unlike parts ===== -/
theorem bt20 : ∀ m, m < 21 → ∀ i, i < 5 → ((Int32.ofNat m &&& Int32.ofNat (2 ^ i)) = 0 ↔ ¬ m / 2 ^ i % 2 = 1) := by decide +kernel
theorem bd20 : ∀ m, m < 21 → ∀ i, i < 5 → ((Int32.ofNat m / Int32.ofNat (2 ^ i)) % (2 : Int32) = (1 : Int32) ↔ m / 2 ^ i % 2 = 1) := by decide +kernel
theorem bg20 : ∀ m, m < 21 → ∀ i, i < 5 → m / 2 ^ i % 2 = 1 → 2 ^ i ≤ m := by decide +kernel
theorem p2i : ∀ i, i < 5 → 1 ≤ 2 ^ i ∧ 2 ^ i ≤ 16 := by decide
def bs (m : Nat) : Nat → Nat → Nat
  | 0, _ => 0
  | n + 1, i => 2 ^ i * (m / 2 ^ i % 2) + bs m n (i + 1)
theorem bs20 : ∀ m, m < 21 → bs m 5 0 = m := by decide +kernel
/-- the powers of 2 from the i-th on, in how often p stands -/
def ul1 (w : Nat → Nat) (p : Nat) : Nat → Nat → (Nat → Nat) → Nat → Nat
  | 0, _, g => g
  | n + 1, i, g => ul1 w p n (i + 1) (if w p / 2 ^ i % 2 = 1 then upm g (2 ^ i * p) (g (2 ^ i * p) + 1) else g)
def ulo (w : Nat → Nat) : Nat → Nat → (Nat → Nat) → Nat → Nat
  | 0, _, g => g
  | n + 1, j, g => ulo w n (j + 1) (ul1 w (j + 1) 5 0 g)
def unlikew (w : Nat → Nat) : Nat → Nat := ulo w 20 0 (fun _ => 0)
theorem bit_le {w : Nat → Nat} {p i : Nat} (hw : wn w ≤ 20) (h1 : 1 ≤ p) (h2 : p ≤ 20) (hi : i < 5) (hb : w p / 2 ^ i % 2 = 1) : 1 ≤ 2 ^ i * p ∧ 2 ^ i * p ≤ 20 := by
  have a := wn_le1 (w := w) h1 h2
  have b := wn_ge (w := w) h1 h2
  have c := bg20 (w p) (by omega) i hi hb
  have d := p2i i hi
  refine ⟨Nat.mul_pos d.1 h1, ?_⟩
  rw [Nat.mul_comm]
  exact Nat.le_trans (Nat.mul_le_mul_left p c) (by omega)
theorem wn_ul1 {w : Nat → Nat} {p : Nat} (hw : wn w ≤ 20) (h1 : 1 ≤ p) (h2 : p ≤ 20) : ∀ n i g, i + n = 5 → wn (ul1 w p n i g) = wn g + p * bs (w p) n i := by
  intro n
  induction n with
  | zero => intro i g _; rfl
  | succ n ih =>
    intro i g hi
    show wn (ul1 w p n (i + 1) (if w p / 2 ^ i % 2 = 1 then upm g (2 ^ i * p) (g (2 ^ i * p) + 1) else g)) = wn g + p * (2 ^ i * (w p / 2 ^ i % 2) + bs (w p) n (i + 1))
    rw [ih (i + 1) _ (by omega), Nat.mul_add]
    by_cases e : w p / 2 ^ i % 2 = 1
    · obtain ⟨a, b⟩ := bit_le hw h1 h2 (by omega) e
      have c := wn_upm (w := g) (p := 2 ^ i * p) (v := g (2 ^ i * p) + 1) a b
      rw [Nat.mul_add] at c
      rw [if_pos e, e, Nat.mul_one, Nat.mul_comm p (2 ^ i)]
      omega
    · have e0 : w p / 2 ^ i % 2 = 0 := by omega
      rw [if_neg e, e0, Nat.mul_zero, Nat.mul_zero]
      omega
theorem wn_ulo {w : Nat → Nat} (hw : wn w ≤ 20) : ∀ n j g, j + n = 20 → wn (ulo w n j g) + sm (fun p => p * w p) j = wn g + wn w := by
  intro n
  induction n with
  | zero => intro j g hj; obtain rfl : j = 20 := by omega
            rfl
  | succ n ih =>
    intro j g hj
    have a := ih (j + 1) (ul1 w (j + 1) 5 0 g) (by omega)
    have b := wn_ul1 hw (p := j + 1) (by omega) (by omega) 5 0 g rfl
    have c := wn_le1 (w := w) (p := j + 1) (by omega) (by omega)
    rw [bs20 _ (by omega)] at b
    have d : sm (fun p => p * w p) (j + 1) = sm (fun p => p * w p) j + (j + 1) * w (j + 1) := rfl
    show wn (ulo w n (j + 1) (ul1 w (j + 1) 5 0 g)) + _ = _
    omega
theorem wn_unlike {w : Nat → Nat} (hw : wn w ≤ 20) : wn (unlikew w) = wn w := by
  have a := wn_ulo hw 20 0 (fun _ => 0) rfl
  rw [wn_0] at a
  have b : sm (fun p => p * w p) 0 = 0 := rfl
  unfold unlikew
  omega
theorem o_pow2 {i : Nat} : Int32.ofNat (2 ^ i) * (2 : Int32) = Int32.ofNat (2 ^ (i + 1)) := by
  rw [show (2 : Int32) = Int32.ofNat 2 from rfl, o_mul, Nat.pow_succ]
theorem c_ul1 {N K : Nat} {f g0 : Nat → Int32} {k6 : Int32 → (Nat → Int32) → Option (Nat → Int32)} {w : Nat → Nat} {p : Nat} (hw : wn w ≤ 20) (h1 : 1 ≤ p) (h2 : p ≤ 20) : ∀ n i fu (h : Nat → Int32) (g : Nat → Nat), i + n = 5 → n < fu → Dv h g → ∃ h2, fX4_becomeUnlike_22 N K f g0 k6 fu (Int32.ofNat p) (Int32.ofNat (w p)) (Int32.ofNat (2 ^ i)) h = k6 (Int32.ofNat (p + 1)) h2 ∧ Dv h2 (ul1 w p n i g) := by
  intro n
  induction n with
  | zero =>
    intro i fu h g hi hfu hh
    obtain ⟨fu, rfl⟩ : ∃ m, fu = m + 1 := ⟨fu - 1, by omega⟩
    obtain rfl : i = 5 := by omega
    refine ⟨h, ?_, hh⟩
    unfold fX4_becomeUnlike_22
    rw [if_pos (by decide), o_1]
  | succ n ih =>
    intro i fu h g hi hfu hh
    obtain ⟨fu, rfl⟩ : ∃ m, fu = m + 1 := ⟨fu - 1, by omega⟩
    have d := p2i i (by omega)
    have c := wn_le1 (w := w) h1 h2
    have hul : ul1 w p (n + 1) i g = ul1 w p n (i + 1) (if w p / 2 ^ i % 2 = 1 then upm g (2 ^ i * p) (g (2 ^ i * p) + 1) else g) := rfl
    unfold fX4_becomeUnlike_22
    rw [if_neg (n_20 (by omega)), hul]
    unfold fX4_becomeUnlike_45
    rw [o_pow2]
    by_cases e : w p / 2 ^ i % 2 = 1
    · obtain ⟨a, b⟩ := bit_le hw h1 h2 (by omega) e
      obtain ⟨g2, q1, q2⟩ := c_put (N := N) (K := K) hh (p := 2 ^ i * p) (t := 1) a b
      rw [if_neg (fun z => (bt20 (w p) (by omega) i (by omega)).mp z e), if_pos e, o_mul, show (1 : Int32) = Int32.ofNat 1 from rfl, q1, Option.bind_some]
      exact ih (i + 1) fu g2 _ (by omega) (by omega) q2
    · rw [if_pos ((bt20 (w p) (by omega) i (by omega)).mpr e), if_neg e]
      exact ih (i + 1) fu h g (by omega) (by omega) hh
theorem c_ulo {N K : Nat} (hN : 100 ≤ N) {f g0 : Nat → Int32} {w : Nat → Nat} (hg : Dk g0 w) : ∀ n j fu (h : Nat → Int32) (g : Nat → Nat), j + n = 20 → n < fu → Dv h g → ∃ h2, fX4_becomeUnlike_6 N K f g0 fu (Int32.ofNat (j + 1)) h = some h2 ∧ Dv h2 (ulo w n j g) := by
  intro n
  induction n with
  | zero =>
    intro j fu h g hj hfu hh
    obtain ⟨fu, rfl⟩ : ∃ m, fu = m + 1 := ⟨fu - 1, by omega⟩
    obtain rfl : j = 20 := by omega
    refine ⟨h, ?_, hh⟩
    unfold fX4_becomeUnlike_6
    rw [if_pos (by decide)]
  | succ n ih =>
    intro j fu h g hj hfu hh
    obtain ⟨fu, rfl⟩ : ∃ m, fu = m + 1 := ⟨fu - 1, by omega⟩
    obtain ⟨h3, a1, a2⟩ := c_ul1 (N := N) (K := K) (f := f) (g0 := g0) (k6 := fX4_becomeUnlike_6 N K f g0 fu) hg.1 (p := j + 1) (by omega) (by omega) 5 0 N h g rfl (by omega) hh
    obtain ⟨h4, b1, b2⟩ := ih (j + 1) fu h3 _ (by omega) (by omega) a2
    refine ⟨h4, ?_, b2⟩
    unfold fX4_becomeUnlike_6
    rw [if_neg (n_20 (by omega)), if_neg (o_ob (by omega) (by omega)), o_c (by omega), hg.2 _ (by omega) (by omega)]
    exact a1.trans b1
theorem c_unlike {N K : Nat} (hN : 100 ≤ N) {f g : Nat → Int32} {w : Nat → Nat} (h : Dk g w) : ∃ h2, fX4_becomeUnlike N K f g = some h2 ∧ Dk h2 (unlikew w) := by
  obtain ⟨e, h1, h2⟩ := c_empty (N := N) (K := K) hN (f := f)
  obtain ⟨h3, h4, h5⟩ := c_ulo (N := N) (K := K) hN (f := f) h 20 0 N e _ rfl (by omega) h2
  refine ⟨h3, ?_, by rw [wn_unlike h.1]; exact h.1, h5⟩
  unfold fX4_becomeUnlike
  rw [h1, Option.bind_some]
  exact h4
/-! ===== to odd parts ===== -/
def ow (p : Nat) : Nat := if p % 16 = 0 then 16 else if p % 8 = 0 then 8 else if p % 4 = 0 then 4 else if p % 2 = 0 then 2 else 1
theorem ow20 : ∀ p, p < 21 → 1 ≤ p → (Int32.ofNat p &&& -Int32.ofNat p) = Int32.ofNat (ow p) ∧ 1 ≤ ow p ∧ ow p ≤ 16 ∧ 1 ≤ p / ow p ∧ p / ow p ≤ 20 ∧ p / ow p * ow p = p := by decide +kernel
def odo (w : Nat → Nat) : Nat → Nat → (Nat → Nat) → Nat → Nat
  | 0, _, g => g
  | n + 1, j, g => odo w n (j + 1) (upm g ((j + 1) / ow (j + 1)) (g ((j + 1) / ow (j + 1)) + ow (j + 1) * w (j + 1)))
def oddw (w : Nat → Nat) : Nat → Nat := odo w 20 0 (fun _ => 0)
theorem wn_odo {w : Nat → Nat} : ∀ n j g, j + n = 20 → wn (odo w n j g) + sm (fun p => p * w p) j = wn g + wn w := by
  intro n
  induction n with
  | zero => intro j g hj; obtain rfl : j = 20 := by omega
            rfl
  | succ n ih =>
    intro j g hj
    obtain ⟨-, o2, o3, o4, o5, o6⟩ := ow20 (j + 1) (by omega) (by omega)
    have a := ih (j + 1) (upm g ((j + 1) / ow (j + 1)) (g ((j + 1) / ow (j + 1)) + ow (j + 1) * w (j + 1))) (by omega)
    have b := wn_upm (w := g) (p := (j + 1) / ow (j + 1)) (v := g ((j + 1) / ow (j + 1)) + ow (j + 1) * w (j + 1)) o4 o5
    rw [Nat.mul_add, ← Nat.mul_assoc ((j + 1) / ow (j + 1)) (ow (j + 1)), o6] at b
    have d : sm (fun p => p * w p) (j + 1) = sm (fun p => p * w p) j + (j + 1) * w (j + 1) := rfl
    show wn (odo w n (j + 1) (upm g ((j + 1) / ow (j + 1)) (g ((j + 1) / ow (j + 1)) + ow (j + 1) * w (j + 1)))) + _ = _
    omega
theorem wn_odd {w : Nat → Nat} : wn (oddw w) = wn w := by
  have a := wn_odo (w := w) 20 0 (fun _ => 0) rfl
  rw [wn_0] at a
  have b : sm (fun p => p * w p) 0 = 0 := rfl
  unfold oddw
  omega
theorem c_odo {N K : Nat} {f g0 : Nat → Int32} {w : Nat → Nat} (hg : Dv g0 w) : ∀ n j fu (h : Nat → Int32) (g : Nat → Nat), j + n = 20 → n < fu → Dv h g → ∃ h2, fX4_becomeOdd_6 N K f g0 fu (Int32.ofNat (j + 1)) h = some h2 ∧ Dv h2 (odo w n j g) := by
  intro n
  induction n with
  | zero =>
    intro j fu h g hj hfu hh
    obtain ⟨fu, rfl⟩ : ∃ m, fu = m + 1 := ⟨fu - 1, by omega⟩
    obtain rfl : j = 20 := by omega
    refine ⟨h, ?_, hh⟩
    unfold fX4_becomeOdd_6
    rw [if_pos (by decide)]
  | succ n ih =>
    intro j fu h g hj hfu hh
    obtain ⟨fu, rfl⟩ : ∃ m, fu = m + 1 := ⟨fu - 1, by omega⟩
    obtain ⟨o1, o2, o3, o4, o5, o6⟩ := ow20 (j + 1) (by omega) (by omega)
    obtain ⟨h3, a1, a2⟩ := c_put (N := N) (K := K) hh (p := (j + 1) / ow (j + 1)) (t := ow (j + 1) * w (j + 1)) o4 o5
    obtain ⟨h4, b1, b2⟩ := ih (j + 1) fu h3 _ (by omega) (by omega) a2
    refine ⟨h4, ?_, b2⟩
    unfold fX4_becomeOdd_6
    rw [if_neg (n_20 (by omega)), o1, if_neg (o_0lt o2 (by omega)), if_neg (by rw [show (0 : Int32) = Int32.ofNat 0 from rfl, o_eq (by omega) (by omega)]; omega), if_neg (o_ob (by omega) (by omega)), o_c (by omega), hg _ (by omega) (by omega), o_div (by omega) (by omega), o_mul, a1, Option.bind_some]
    unfold fX4_becomeOdd_36
    rw [o_1]
    exact b1
theorem c_odd {N K : Nat} (hN : 100 ≤ N) {f g : Nat → Int32} {w : Nat → Nat} (h : Dk g w) : ∃ h2, fX4_becomeOdd N K f g = some h2 ∧ Dk h2 (oddw w) := by
  obtain ⟨e, h1, h2⟩ := c_empty (N := N) (K := K) hN (f := f)
  obtain ⟨h3, h4, h5⟩ := c_odo (N := N) (K := K) (f := f) h.2 20 0 N e _ rfl (by omega) h2
  refine ⟨h3, ?_, by rw [wn_odd]; exact h.1, h5⟩
  unfold fX4_becomeOdd
  rw [h1, Option.bind_some]
  exact h4

end MG_49ckinds
section MG_49dmodel
/-! ===== the reference's laying; to unlike and to odd parts ===== -/
/-- what an act leaves of the tallies -/
def dn (t : Nat → Int32) : Nat → Int32 := upd t (0 : Int32).toNatClampNeg (t (0 : Int32).toNatClampNeg + (1 : Int32))
theorem m_laid_ {N K : Nat} {th p0 : Int32} {f0 g t0 : Nat → Int32} {w : Nat → Nat} (hN : NBig N) (hK : 100 ≤ K) (hp : ¬ (p0 < 0 ∨ 2 ≤ p0.toNatClampNeg)) (hg : Dv g w) : ∀ n i fu (f t : Nat → Int32), i + n = 21 → n < fu → (∀ p, 1 ≤ p → p < i → f p = Int32.ofNat (w p)) → ∃ f', fX7_laid_2 N K th f0 g t0 p0 fu (Int32.ofNat i) f t = some (Int32.ofNat (wp w), f', dn t) ∧ Dv f' w := by
  intro n
  induction n with
  | zero =>
    intro i fu f t hi hfu hf
    obtain ⟨fu, rfl⟩ : ∃ m, fu = m + 1 := ⟨fu - 1, by omega⟩
    obtain rfl : i = 21 := by omega
    have hN9 := hN.u
    have hx := m_parts (N := N) (K := K) (by omega) hg
    refine ⟨f, ?_, fun p a b => hf p a (by omega)⟩
    · unfold fX7_laid_2
      rw [if_pos (by decide), hx, Option.bind_some]
      rfl
  | succ n ih =>
    intro i fu f t hi hfu hf
    obtain ⟨fu, rfl⟩ : ∃ m, fu = m + 1 := ⟨fu - 1, by omega⟩
    obtain ⟨f', h1, h2⟩ := ih (i + 1) fu (upd f i (g i)) t (by omega) (by omega) (fun p a b => by
      unfold upd
      by_cases e : p = i
      · rw [if_pos e, ← e]; exact hg p a (by omega)
      · rw [if_neg e]; exact hf p a (by omega))
    refine ⟨f', ?_, h2⟩
    unfold fX7_laid_2
    rw [if_neg (n_20 (by omega)), if_neg hp, if_neg (o_ob (by omega) (by omega)), if_neg (o_ob (by omega) (by omega)), o_c (by omega), o_1]
    exact h1
theorem m_laid {N K : Nat} {th p0 : Int32} {f g t : Nat → Int32} {w : Nat → Nat} (hN : NBig N) (hK : 100 ≤ K) (hp : ¬ (p0 < 0 ∨ 2 ≤ p0.toNatClampNeg)) (hg : Dk g w) : ∃ f', fX7_laid N K th f g t p0 = some (Int32.ofNat (wp w), f', dn t) ∧ Dk f' w := by
  have hN9 := hN.u
  obtain ⟨f', h1, h2⟩ := m_laid_ (th := th) (f0 := f) (t0 := t) hN hK hp hg.2 21 0 N f t rfl (by omega) (fun p a b => by omega)
  exact ⟨f', h1, hg.1, h2⟩
theorem m_ul1 {N K : Nat} {th p0 : Int32} {f0 t0 : Nat → Int32} {k40 : Int32 → Int32 → (Nat → Int32) → (Nat → Int32) → (Nat → Int32) → Option (Int32 × Int32 × (Nat → Int32) × (Nat → Int32))} {th1 : Int32} {f t : Nat → Int32} {w : Nat → Nat} (hp : ¬ (p0 < 0 ∨ 2 ≤ p0.toNatClampNeg)) (hf : Dk f w) {p : Nat} (h1 : 1 ≤ p) (h2 : p ≤ 20) : ∀ n i fu (h : Nat → Int32) (g : Nat → Nat), i + n = 5 → n < fu → Dv h g → ∃ h2, fX7_toUnlike_49 N K th f0 t0 p0 k40 fu (Int32.ofNat p) (Int32.ofNat (2 ^ i)) th1 f t h = k40 (Int32.ofNat (p + 1)) th1 f t h2 ∧ Dv h2 (ul1 w p n i g) := by
  intro n
  induction n with
  | zero =>
    intro i fu h g hi hfu hh
    obtain ⟨fu, rfl⟩ : ∃ m, fu = m + 1 := ⟨fu - 1, by omega⟩
    obtain rfl : i = 5 := by omega
    refine ⟨h, ?_, hh⟩
    unfold fX7_toUnlike_49
    rw [if_pos (by decide), o_1]
  | succ n ih =>
    intro i fu h g hi hfu hh
    obtain ⟨fu, rfl⟩ : ∃ m, fu = m + 1 := ⟨fu - 1, by omega⟩
    have d := p2i i (by omega)
    have c := wn_le1 (w := w) h1 h2
    have hw := hf.1
    have hul : ul1 w p (n + 1) i g = ul1 w p n (i + 1) (if w p / 2 ^ i % 2 = 1 then upm g (2 ^ i * p) (g (2 ^ i * p) + 1) else g) := rfl
    unfold fX7_toUnlike_49
    rw [if_neg (n_20 (by omega)), hul, if_neg hp, if_neg (o_ob (by omega) (by omega)), if_neg (by rw [show (0 : Int32) = Int32.ofNat 0 from rfl, o_eq (by omega) (by omega)]; omega), o_c (by omega), hf.2 _ h1 h2]
    unfold fX7_toUnlike_83
    rw [o_pow2]
    by_cases e : w p / 2 ^ i % 2 = 1
    · obtain ⟨a, b⟩ := bit_le hf.1 h1 h2 (by omega) e
      rw [if_pos ((bd20 (w p) (by omega) i (by omega)).mpr e), if_pos e, o_mul, Nat.mul_comm p, if_neg (o_ob (by omega) (by omega)), if_neg (o_ob (by omega) (by omega)), o_c (by omega), hh _ a b, o_1]
      exact ih (i + 1) fu _ _ (by omega) (by omega) hh.put
    · rw [if_neg (fun z => e ((bd20 (w p) (by omega) i (by omega)).mp z)), if_neg e]
      exact ih (i + 1) fu h g (by omega) (by omega) hh
theorem m_ulo {N K : Nat} {th p0 : Int32} {f0 t0 : Nat → Int32} {th1 : Int32} {f t : Nat → Int32} {w : Nat → Nat} (hN : NBig N) (hK : 100 ≤ K) (hp : ¬ (p0 < 0 ∨ 2 ≤ p0.toNatClampNeg)) (hf : Dk f w) : ∀ n j fu (h : Nat → Int32) (g : Nat → Nat), j + n = 20 → n < fu → Dv h g → wn (ulo w n j g) ≤ 20 → ∃ f', fX7_toUnlike_40 N K th f0 t0 p0 fu (Int32.ofNat (j + 1)) th1 f t h = some (Int32.ofNat (wp (ulo w n j g)), th1, f', dn t) ∧ Dk f' (ulo w n j g) := by
  have hN9 := hN.u
  intro n
  induction n with
  | zero =>
    intro j fu h g hj hfu hh hg
    obtain ⟨fu, rfl⟩ : ∃ m, fu = m + 1 := ⟨fu - 1, by omega⟩
    obtain rfl : j = 20 := by omega
    obtain ⟨f', a1, a2⟩ := m_laid (th := th1) (f := f) (t := t) hN hK hp (g := h) (w := ulo w 0 20 g) ⟨hg, hh⟩
    refine ⟨f', ?_, a2⟩
    unfold fX7_toUnlike_40
    rw [if_pos (by decide), a1, Option.bind_some]
  | succ n ih =>
    intro j fu h g hj hfu hh hg
    obtain ⟨fu, rfl⟩ : ∃ m, fu = m + 1 := ⟨fu - 1, by omega⟩
    obtain ⟨h3, a1, a2⟩ := m_ul1 (N := N) (K := K) (th := th) (f0 := f0) (t0 := t0) (k40 := fX7_toUnlike_40 N K th f0 t0 p0 fu) (th1 := th1) (t := t) hp hf (p := j + 1) (by omega) (by omega) 5 0 N h g rfl (by omega) hh
    obtain ⟨f', b1, b2⟩ := ih (j + 1) fu h3 _ (by omega) (by omega) a2 hg
    refine ⟨f', ?_, b2⟩
    unfold fX7_toUnlike_40
    rw [if_neg (n_20 (by omega))]
    exact a1.trans b1
theorem od20_ : ∀ p, p < 21 → ∀ i, i < 5 → (1 ≤ p ∧ p % 2 ^ i = 0) → (p % (2 * 2 ^ i) = 0 ∧ i < 4) ∨ (¬ p % (2 * 2 ^ i) = 0 ∧ ow p = 2 ^ i) := by decide +kernel
theorem od20 (p : Nat) (h : p < 21) (h1 : 1 ≤ p) (i : Nat) (h2 : i < 5) (h3 : p % 2 ^ i = 0) : (p % (2 * 2 ^ i) = 0 ∧ i < 4) ∨ (¬ p % (2 * 2 ^ i) = 0 ∧ ow p = 2 ^ i) := od20_ p h i h2 ⟨h1, h3⟩
theorem m_od1 {N K : Nat} {th p0 : Int32} {f0 t0 : Nat → Int32} {k40 : Int32 → Int32 → (Nat → Int32) → (Nat → Int32) → (Nat → Int32) → Option (Int32 × Int32 × (Nat → Int32) × (Nat → Int32))} {th1 : Int32} {f t : Nat → Int32} {w : Nat → Nat} (hp : ¬ (p0 < 0 ∨ 2 ≤ p0.toNatClampNeg)) (hf : Dk f w) {p : Nat} (h1 : 1 ≤ p) (h2 : p ≤ 20) {h : Nat → Int32} {g : Nat → Nat} (hh : Dv h g) : ∀ n i fu, i + n = 4 → n < fu → p % 2 ^ i = 0 → ∃ h2, fX7_toOdd_49 N K th f0 t0 p0 k40 fu (Int32.ofNat p) (Int32.ofNat (2 ^ i)) th1 f t h = k40 (Int32.ofNat (p + 1)) th1 f t h2 ∧ Dv h2 (upm g (p / ow p) (g (p / ow p) + ow p * w p)) := by
  intro n
  induction n with
  | zero =>
    intro i fu hi hfu hm
    obtain ⟨fu, rfl⟩ : ∃ m, fu = m + 1 := ⟨fu - 1, by omega⟩
    have d := p2i i (by omega)
    have hmd := Nat.mod_le p (2 * 2 ^ i)
    obtain ⟨-, o2, o3, o4, o5, o6⟩ := ow20 p (by omega) h1
    rcases od20 p (by omega) h1 i (by omega) hm with ⟨-, e⟩ | ⟨e1, e2⟩
    · omega
    · refine ⟨_, ?_, hh.put (p := p / ow p) (t := g (p / ow p) + ow p * w p)⟩
      unfold fX7_toOdd_49
      rw [show (2 : Int32) = Int32.ofNat 2 from rfl, o_mul, if_neg (by rw [show (0 : Int32) = Int32.ofNat 0 from rfl, o_eq (by omega) (by omega)]; omega), o_mod (by omega) (by omega), if_neg (by rw [show (0 : Int32) = Int32.ofNat 0 from rfl, o_eq (by omega) (by omega)]; exact e1), if_neg (by rw [show (0 : Int32) = Int32.ofNat 0 from rfl, o_eq (by omega) (by omega)]; omega), o_div (by omega) (by omega), ← e2, if_neg (o_ob (by omega) (by omega)), if_neg hp, if_neg (o_ob (by omega) (by omega)), if_neg (o_ob (by omega) (by omega)), o_c (by omega), o_c (by omega), hf.2 _ h1 h2, hh _ o4 o5, o_mul, o_add, o_1]
  | succ n ih =>
    intro i fu hi hfu hm
    obtain ⟨fu, rfl⟩ : ∃ m, fu = m + 1 := ⟨fu - 1, by omega⟩
    have d := p2i i (by omega)
    have hmd := Nat.mod_le p (2 * 2 ^ i)
    obtain ⟨-, o2, o3, o4, o5, o6⟩ := ow20 p (by omega) h1
    rcases od20 p (by omega) h1 i (by omega) hm with ⟨e, -⟩ | ⟨e1, e2⟩
    · obtain ⟨h3, a1, a2⟩ := ih (i + 1) fu (by omega) (by omega) (by rw [Nat.pow_succ, Nat.mul_comm]; exact e)
      refine ⟨h3, ?_, a2⟩
      unfold fX7_toOdd_49
      rw [o_pow2, show (2 : Int32) = Int32.ofNat 2 from rfl, o_mul, if_neg (by rw [show (0 : Int32) = Int32.ofNat 0 from rfl, o_eq (by omega) (by omega)]; omega), o_mod (by omega) (by omega), if_pos (by rw [e]; rfl)]
      exact a1
    · refine ⟨_, ?_, hh.put (p := p / ow p) (t := g (p / ow p) + ow p * w p)⟩
      unfold fX7_toOdd_49
      rw [show (2 : Int32) = Int32.ofNat 2 from rfl, o_mul, if_neg (by rw [show (0 : Int32) = Int32.ofNat 0 from rfl, o_eq (by omega) (by omega)]; omega), o_mod (by omega) (by omega), if_neg (by rw [show (0 : Int32) = Int32.ofNat 0 from rfl, o_eq (by omega) (by omega)]; exact e1), if_neg (by rw [show (0 : Int32) = Int32.ofNat 0 from rfl, o_eq (by omega) (by omega)]; omega), o_div (by omega) (by omega), ← e2, if_neg (o_ob (by omega) (by omega)), if_neg hp, if_neg (o_ob (by omega) (by omega)), if_neg (o_ob (by omega) (by omega)), o_c (by omega), o_c (by omega), hf.2 _ h1 h2, hh _ o4 o5, o_mul, o_add, o_1]
theorem m_odo {N K : Nat} {th p0 : Int32} {f0 t0 : Nat → Int32} {th1 : Int32} {f t : Nat → Int32} {w : Nat → Nat} (hN : NBig N) (hK : 100 ≤ K) (hp : ¬ (p0 < 0 ∨ 2 ≤ p0.toNatClampNeg)) (hf : Dk f w) : ∀ n j fu (h : Nat → Int32) (g : Nat → Nat), j + n = 20 → n < fu → Dv h g → wn (odo w n j g) ≤ 20 → ∃ f', fX7_toOdd_40 N K th f0 t0 p0 fu (Int32.ofNat (j + 1)) th1 f t h = some (Int32.ofNat (wp (odo w n j g)), th1, f', dn t) ∧ Dk f' (odo w n j g) := by
  have hN9 := hN.u
  intro n
  induction n with
  | zero =>
    intro j fu h g hj hfu hh hg
    obtain ⟨fu, rfl⟩ : ∃ m, fu = m + 1 := ⟨fu - 1, by omega⟩
    obtain rfl : j = 20 := by omega
    obtain ⟨f', a1, a2⟩ := m_laid (th := th1) (f := f) (t := t) hN hK hp (g := h) (w := odo w 0 20 g) ⟨hg, hh⟩
    refine ⟨f', ?_, a2⟩
    unfold fX7_toOdd_40
    rw [if_pos (by decide), a1, Option.bind_some]
  | succ n ih =>
    intro j fu h g hj hfu hh hg
    obtain ⟨fu, rfl⟩ : ∃ m, fu = m + 1 := ⟨fu - 1, by omega⟩
    obtain ⟨h3, a1, a2⟩ := m_od1 (N := N) (K := K) (th := th) (f0 := f0) (t0 := t0) (k40 := fX7_toOdd_40 N K th f0 t0 p0 fu) (th1 := th1) (t := t) hp hf (p := j + 1) (by omega) (by omega) hh 4 0 N rfl (by omega) (by rw [Nat.pow_zero, Nat.mod_one])
    obtain ⟨f', b1, b2⟩ := ih (j + 1) fu h3 _ (by omega) (by omega) a2 hg
    refine ⟨f', ?_, b2⟩
    unfold fX7_toOdd_40
    rw [if_neg (n_20 (by omega))]
    exact a1.trans b1

end MG_49dmodel
section MG_50asafe
set_option maxHeartbeats 2000000 in
theorem s_X4_timesOf {N K : Nat} {f : Nat → Int32} {p0 : Int32} (hN : NBig N) (hK : 100 ≤ K) (hp0 : 1 ≤ p0.toInt) (hp1 : p0.toInt ≤ 20) : Sf (fX4_timesOf N K f p0) (fun (z : Int32) => True) := by
  unfold fX4_timesOf
  have ql0 : (0 : Int32).toInt = 0 := by decide
  have ql1 : (1 : Int32).toInt = 1 := by decide
  have ql20 : (20 : Int32).toInt = 20 := by decide
  refine sIf (fun h1 => ?_) (fun h1 => ?_)
  · have fh1 := ltT h1
    exfalso; omega
  · have fh1 := ltF h1
    refine sIf (fun h2 => ?_) (fun h2 => ?_)
    · have fh2 := leT h2
      refine sIfF (noob (by omega) (by omega)) ?_
      exact sRet trivial
    · have fh2 := leF h2
      exfalso; omega
set_option maxHeartbeats 2000000 in
theorem s_X4_put {N K : Nat} {f : Nat → Int32} {p0 : Int32} {p1 : Int32} (hN : NBig N) (hK : 100 ≤ K)  : Sf (fX4_put N K f p0 p1) (fun (z : (Nat → Int32)) => True) := by
  unfold fX4_put
  have ql0 : (0 : Int32).toInt = 0 := by decide
  have ql1 : (1 : Int32).toInt = 1 := by decide
  have ql20 : (20 : Int32).toInt = 20 := by decide
  refine sIf (fun h1 => ?_) (fun h1 => ?_)
  · have fh1 := ltT h1
    exact sRet trivial
  · have fh1 := ltF h1
    refine sIf (fun h2 => ?_) (fun h2 => ?_)
    · have fh2 := ltT h2
      exact sRet trivial
    · have fh2 := ltF h2
      refine sIfF (noob (by omega) (by omega)) ?_
      refine sIfF (noob (by omega) (by omega)) ?_
      exact sRet trivial
set_option maxHeartbeats 2000000 in
theorem s_X4_sum_4 {N K : Nat} {f : Nat → Int32} (hN : NBig N) (hK : 100 ≤ K)  : ∀ (fu : Nat) (l1 : Int32) (l2 : Int32), (21 - l2.toInt).toNat < fu → 1 ≤ l2.toInt → l2.toInt ≤ 21 → Sf (fX4_sum_4 N K f  fu l1 l2) (fun (z : Int32) => True) := by
  intro fu
  induction fu with
  | zero => intro l1 l2 h0 hq0 hq1; omega
  | succ fu ih =>
    intro l1 l2 h0 hq0 hq1
    unfold fX4_sum_4
    have ql0 : (0 : Int32).toInt = 0 := by decide
    have ql1 : (1 : Int32).toInt = 1 := by decide
    have ql20 : (20 : Int32).toInt = 20 := by decide
    refine sIf (fun h1 => ?_) (fun h1 => ?_)
    · have fh1 := ltT h1
      exact sRet trivial
    · have fh1 := ltF h1
      refine sIfF (noob (by omega) (by omega)) ?_
      have t3 := addI (a := l2) (b := (1 : Int32)) (by omega) (by omega)
      exact ih _ _ (by omega) (by first | omega | decide) (by first | omega | decide)
set_option maxHeartbeats 2000000 in
theorem s_X4_sum {N K : Nat} {f : Nat → Int32} (hN : NBig N) (hK : 100 ≤ K)  : Sf (fX4_sum N K f) (fun (z : Int32) => True) := by
  unfold fX4_sum
  have hN9 := hN.u
  have ql0 : (0 : Int32).toInt = 0 := by decide
  have ql1 : (1 : Int32).toInt = 1 := by decide
  exact s_X4_sum_4  hN hK _ _ _ (by omega) (by first | omega | decide) (by first | omega | decide)
set_option maxHeartbeats 2000000 in
theorem s_X4_parts_4 {N K : Nat} {f : Nat → Int32} (hN : NBig N) (hK : 100 ≤ K)  : ∀ (fu : Nat) (l1 : Int32) (l2 : Int32), (21 - l2.toInt).toNat < fu → 1 ≤ l2.toInt → l2.toInt ≤ 21 → Sf (fX4_parts_4 N K f  fu l1 l2) (fun (z : Int32) => True) := by
  intro fu
  induction fu with
  | zero => intro l1 l2 h0 hq0 hq1; omega
  | succ fu ih =>
    intro l1 l2 h0 hq0 hq1
    unfold fX4_parts_4
    have ql0 : (0 : Int32).toInt = 0 := by decide
    have ql1 : (1 : Int32).toInt = 1 := by decide
    have ql20 : (20 : Int32).toInt = 20 := by decide
    refine sIf (fun h1 => ?_) (fun h1 => ?_)
    · have fh1 := ltT h1
      exact sRet trivial
    · have fh1 := ltF h1
      refine sIfF (noob (by omega) (by omega)) ?_
      have t3 := addI (a := l2) (b := (1 : Int32)) (by omega) (by omega)
      exact ih _ _ (by omega) (by first | omega | decide) (by first | omega | decide)
set_option maxHeartbeats 2000000 in
theorem s_X4_parts {N K : Nat} {f : Nat → Int32} (hN : NBig N) (hK : 100 ≤ K)  : Sf (fX4_parts N K f) (fun (z : Int32) => True) := by
  unfold fX4_parts
  have hN9 := hN.u
  have ql0 : (0 : Int32).toInt = 0 := by decide
  have ql1 : (1 : Int32).toInt = 1 := by decide
  exact s_X4_parts_4  hN hK _ _ _ (by omega) (by first | omega | decide) (by first | omega | decide)
set_option maxHeartbeats 2000000 in
theorem s_X4_differentParts_22 {N K : Nat} {f : Nat → Int32} (hN : NBig N) (hK : 100 ≤ K)  {k_4 : Int32 → Int32 → Option (Int32)} {m_4 : Nat} (hk_4 : ∀ (l1 : Int32) (l2 : Int32), (21 - l2.toInt).toNat < m_4 → 1 ≤ l2.toInt → l2.toInt ≤ 21 → Sf (k_4 l1 l2) (fun (z : Int32) => True)) : ∀ (l1 : Int32) (l2 : Int32), 1 ≤ l2.toInt → l2.toInt ≤ 20 → (21 - l2.toInt).toNat ≤ m_4 → Sf (fX4_differentParts_22 N K f k_4 l1 l2) (fun (z : Int32) => True) := by
  intro l1 l2 hq0 hq1 hq2
  unfold fX4_differentParts_22
  have ql0 : (0 : Int32).toInt = 0 := by decide
  have ql1 : (1 : Int32).toInt = 1 := by decide
  have t1 := addI (a := l2) (b := (1 : Int32)) (by omega) (by omega)
  exact hk_4 _ _ (by omega) (by first | omega | decide) (by first | omega | decide)
set_option maxHeartbeats 2000000 in
theorem s_X4_differentParts_4 {N K : Nat} {f : Nat → Int32} (hN : NBig N) (hK : 100 ≤ K)  : ∀ (fu : Nat) (l1 : Int32) (l2 : Int32), (21 - l2.toInt).toNat < fu → 1 ≤ l2.toInt → l2.toInt ≤ 21 → Sf (fX4_differentParts_4 N K f  fu l1 l2) (fun (z : Int32) => True) := by
  intro fu
  induction fu with
  | zero => intro l1 l2 h0 hq0 hq1; omega
  | succ fu ih =>
    intro l1 l2 h0 hq0 hq1
    unfold fX4_differentParts_4
    have ql0 : (0 : Int32).toInt = 0 := by decide
    have ql20 : (20 : Int32).toInt = 20 := by decide
    refine sIf (fun h1 => ?_) (fun h1 => ?_)
    · have fh1 := ltT h1
      exact sRet trivial
    · have fh1 := ltF h1
      refine sIfF (noob (by omega) (by omega)) ?_
      refine sIf (fun h2 => ?_) (fun h2 => ?_)
      · have fh2 := leT h2
        exact s_X4_differentParts_22 (hk_4 := ih) hN hK _ _ (by first | omega | decide) (by first | omega | decide) (by omega)
      · have fh2 := leF h2
        exact s_X4_differentParts_22 (hk_4 := ih) hN hK _ _ (by first | omega | decide) (by first | omega | decide) (by omega)
set_option maxHeartbeats 2000000 in
theorem s_X4_differentParts {N K : Nat} {f : Nat → Int32} (hN : NBig N) (hK : 100 ≤ K)  : Sf (fX4_differentParts N K f) (fun (z : Int32) => True) := by
  unfold fX4_differentParts
  have hN9 := hN.u
  have ql0 : (0 : Int32).toInt = 0 := by decide
  have ql1 : (1 : Int32).toInt = 1 := by decide
  exact s_X4_differentParts_4  hN hK _ _ _ (by omega) (by first | omega | decide) (by first | omega | decide)
set_option maxHeartbeats 2000000 in
theorem s_X4_isUnlike_2 {N K : Nat} {f : Nat → Int32} (hN : NBig N) (hK : 100 ≤ K)  : ∀ (fu : Nat) (l1 : Int32), (21 - l1.toInt).toNat < fu → 1 ≤ l1.toInt → l1.toInt ≤ 21 → Sf (fX4_isUnlike_2 N K f  fu l1) (fun (z : Int32) => 0 ≤ z.toInt ∧ z.toInt ≤ 1 ∧ True) := by
  intro fu
  induction fu with
  | zero => intro l1 h0 hq0 hq1; omega
  | succ fu ih =>
    intro l1 h0 hq0 hq1
    unfold fX4_isUnlike_2
    have ql0 : (0 : Int32).toInt = 0 := by decide
    have ql1 : (1 : Int32).toInt = 1 := by decide
    have ql20 : (20 : Int32).toInt = 20 := by decide
    refine sIf (fun h1 => ?_) (fun h1 => ?_)
    · have fh1 := ltT h1
      exact sRet ⟨(by show 0 ≤ (1 : Int32).toInt; decide), (by show (1 : Int32).toInt ≤ 1; decide), trivial⟩
    · have fh1 := ltF h1
      refine sIfF (noob (by omega) (by omega)) ?_
      refine sIf (fun h2 => ?_) (fun h2 => ?_)
      · have fh2 := leT h2
        have t3 := addI (a := l1) (b := (1 : Int32)) (by omega) (by omega)
        exact ih _ (by omega) (by first | omega | decide) (by first | omega | decide)
      · have fh2 := leF h2
        exact sRet ⟨(by show 0 ≤ (0 : Int32).toInt; decide), (by show (0 : Int32).toInt ≤ 1; decide), trivial⟩
set_option maxHeartbeats 2000000 in
theorem s_X4_isUnlike {N K : Nat} {f : Nat → Int32} (hN : NBig N) (hK : 100 ≤ K)  : Sf (fX4_isUnlike N K f) (fun (z : Int32) => 0 ≤ z.toInt ∧ z.toInt ≤ 1 ∧ True) := by
  unfold fX4_isUnlike
  have hN9 := hN.u
  have ql0 : (0 : Int32).toInt = 0 := by decide
  have ql1 : (1 : Int32).toInt = 1 := by decide
  exact s_X4_isUnlike_2  hN hK _ _ (by omega) (by first | omega | decide) (by first | omega | decide)
set_option maxHeartbeats 2000000 in
theorem s_X4_isOdd_2 {N K : Nat} {f : Nat → Int32} (hN : NBig N) (hK : 100 ≤ K)  : ∀ (fu : Nat) (l1 : Int32), (22 - l1.toInt).toNat < fu → 2 ≤ l1.toInt → l1.toInt ≤ 22 → Sf (fX4_isOdd_2 N K f  fu l1) (fun (z : Int32) => 0 ≤ z.toInt ∧ z.toInt ≤ 1 ∧ True) := by
  intro fu
  induction fu with
  | zero => intro l1 h0 hq0 hq1; omega
  | succ fu ih =>
    intro l1 h0 hq0 hq1
    unfold fX4_isOdd_2
    have ql0 : (0 : Int32).toInt = 0 := by decide
    have ql1 : (1 : Int32).toInt = 1 := by decide
    have ql2 : (2 : Int32).toInt = 2 := by decide
    have ql20 : (20 : Int32).toInt = 20 := by decide
    refine sIf (fun h1 => ?_) (fun h1 => ?_)
    · have fh1 := ltT h1
      exact sRet ⟨(by show 0 ≤ (1 : Int32).toInt; decide), (by show (1 : Int32).toInt ≤ 1; decide), trivial⟩
    · have fh1 := ltF h1
      refine sIfF (noob (by omega) (by omega)) ?_
      refine sIf (fun h2 => ?_) (fun h2 => ?_)
      · have fh2 := leT h2
        have t3 := addI (a := l1) (b := (2 : Int32)) (by omega) (by omega)
        exact ih _ (by omega) (by first | omega | decide) (by first | omega | decide)
      · have fh2 := leF h2
        exact sRet ⟨(by show 0 ≤ (0 : Int32).toInt; decide), (by show (0 : Int32).toInt ≤ 1; decide), trivial⟩
set_option maxHeartbeats 2000000 in
theorem s_X4_isOdd {N K : Nat} {f : Nat → Int32} (hN : NBig N) (hK : 100 ≤ K)  : Sf (fX4_isOdd N K f) (fun (z : Int32) => 0 ≤ z.toInt ∧ z.toInt ≤ 1 ∧ True) := by
  unfold fX4_isOdd
  have hN9 := hN.u
  have ql0 : (0 : Int32).toInt = 0 := by decide
  have ql2 : (2 : Int32).toInt = 2 := by decide
  exact s_X4_isOdd_2  hN hK _ _ (by omega) (by first | omega | decide) (by first | omega | decide)
set_option maxHeartbeats 2000000 in
theorem s_X4_leastAboveOne_2 {N K : Nat} {f : Nat → Int32} (hN : NBig N) (hK : 100 ≤ K)  : ∀ (fu : Nat) (l1 : Int32), (21 - l1.toInt).toNat < fu → 2 ≤ l1.toInt → l1.toInt ≤ 21 → Sf (fX4_leastAboveOne_2 N K f  fu l1) (fun (z : Int32) => 0 ≤ z.toInt ∧ z.toInt ≤ 20 ∧ True) := by
  intro fu
  induction fu with
  | zero => intro l1 h0 hq0 hq1; omega
  | succ fu ih =>
    intro l1 h0 hq0 hq1
    unfold fX4_leastAboveOne_2
    have ql0 : (0 : Int32).toInt = 0 := by decide
    have ql1 : (1 : Int32).toInt = 1 := by decide
    have ql20 : (20 : Int32).toInt = 20 := by decide
    refine sIf (fun h1 => ?_) (fun h1 => ?_)
    · have fh1 := ltT h1
      exact sRet ⟨(by show 0 ≤ (0 : Int32).toInt; decide), (by show (0 : Int32).toInt ≤ 20; decide), trivial⟩
    · have fh1 := ltF h1
      refine sIfF (noob (by omega) (by omega)) ?_
      refine sIf (fun h2 => ?_) (fun h2 => ?_)
      · have fh2 := leT h2
        have t3 := addI (a := l1) (b := (1 : Int32)) (by omega) (by omega)
        exact ih _ (by omega) (by first | omega | decide) (by first | omega | decide)
      · have fh2 := leF h2
        exact sRet ⟨(by show 0 ≤ l1.toInt; first | omega | assumption), (by show l1.toInt ≤ 20; first | omega | assumption), trivial⟩
set_option maxHeartbeats 2000000 in
theorem s_X4_leastAboveOne {N K : Nat} {f : Nat → Int32} (hN : NBig N) (hK : 100 ≤ K)  : Sf (fX4_leastAboveOne N K f) (fun (z : Int32) => 0 ≤ z.toInt ∧ z.toInt ≤ 20 ∧ True) := by
  unfold fX4_leastAboveOne
  have hN9 := hN.u
  have ql0 : (0 : Int32).toInt = 0 := by decide
  have ql2 : (2 : Int32).toInt = 2 := by decide
  exact s_X4_leastAboveOne_2  hN hK _ _ (by omega) (by first | omega | decide) (by first | omega | decide)
set_option maxHeartbeats 2000000 in
theorem s_X4_isLike_2 {N K : Nat} {f : Nat → Int32} {g : Nat → Int32} (hN : NBig N) (hK : 100 ≤ K)  : ∀ (fu : Nat) (l2 : Int32), (21 - l2.toInt).toNat < fu → 1 ≤ l2.toInt → l2.toInt ≤ 21 → Sf (fX4_isLike_2 N K f g  fu l2) (fun (z : Int32) => 0 ≤ z.toInt ∧ z.toInt ≤ 1 ∧ True) := by
  intro fu
  induction fu with
  | zero => intro l2 h0 hq0 hq1; omega
  | succ fu ih =>
    intro l2 h0 hq0 hq1
    unfold fX4_isLike_2
    have ql0 : (0 : Int32).toInt = 0 := by decide
    have ql1 : (1 : Int32).toInt = 1 := by decide
    have ql20 : (20 : Int32).toInt = 20 := by decide
    refine sIf (fun h1 => ?_) (fun h1 => ?_)
    · have fh1 := ltT h1
      exact sRet ⟨(by show 0 ≤ (1 : Int32).toInt; decide), (by show (1 : Int32).toInt ≤ 1; decide), trivial⟩
    · have fh1 := ltF h1
      refine sIfF (noob (by omega) (by omega)) ?_
      refine sIfF (noob (by omega) (by omega)) ?_
      refine sIf (fun h2 => ?_) (fun h2 => ?_)
      · have fh2 := eqT h2
        have t3 := addI (a := l2) (b := (1 : Int32)) (by omega) (by omega)
        exact ih _ (by omega) (by first | omega | decide) (by first | omega | decide)
      · have fh2 := eqF h2
        exact sRet ⟨(by show 0 ≤ (0 : Int32).toInt; decide), (by show (0 : Int32).toInt ≤ 1; decide), trivial⟩
set_option maxHeartbeats 2000000 in
theorem s_X4_isLike {N K : Nat} {f : Nat → Int32} {g : Nat → Int32} (hN : NBig N) (hK : 100 ≤ K)  : Sf (fX4_isLike N K f g) (fun (z : Int32) => 0 ≤ z.toInt ∧ z.toInt ≤ 1 ∧ True) := by
  unfold fX4_isLike
  have hN9 := hN.u
  have ql0 : (0 : Int32).toInt = 0 := by decide
  have ql1 : (1 : Int32).toInt = 1 := by decide
  exact s_X4_isLike_2  hN hK _ _ (by omega) (by first | omega | decide) (by first | omega | decide)
set_option maxHeartbeats 2000000 in
theorem s_X4_hasNoneAbove_3 {N K : Nat} {f : Nat → Int32} {p0 : Int32} (hN : NBig N) (hK : 100 ≤ K) (hp0 : 0 ≤ p0.toInt) (hp1 : p0.toInt ≤ 20) : ∀ (fu : Nat) (l2 : Int32), (l2.toInt - 0).toNat < fu → 0 ≤ l2.toInt → l2.toInt ≤ 20 → Sf (fX4_hasNoneAbove_3 N K f p0  fu l2) (fun (z : Int32) => 0 ≤ z.toInt ∧ z.toInt ≤ 1 ∧ True) := by
  intro fu
  induction fu with
  | zero => intro l2 h0 hq0 hq1; omega
  | succ fu ih =>
    intro l2 h0 hq0 hq1
    unfold fX4_hasNoneAbove_3
    have ql0 : (0 : Int32).toInt = 0 := by decide
    have ql1 : (1 : Int32).toInt = 1 := by decide
    refine sIf (fun h1 => ?_) (fun h1 => ?_)
    · have fh1 := leT h1
      exact sRet ⟨(by show 0 ≤ (1 : Int32).toInt; decide), (by show (1 : Int32).toInt ≤ 1; decide), trivial⟩
    · have fh1 := leF h1
      refine sIf (fun h2 => ?_) (fun h2 => ?_)
      · have fh2 := ltT h2
        exfalso; omega
      · have fh2 := ltF h2
        refine sIfF (noob (by omega) (by omega)) ?_
        refine sIf (fun h3 => ?_) (fun h3 => ?_)
        · have fh3 := leT h3
          have t4 : (l2 + (-1 : Int32)).toInt = l2.toInt + (-1) := addL (by decide) (by omega) (by omega)
          exact ih _ (by (try generalize l2 + (-1 : Int32) = d0_ at *); omega) (by (try generalize l2 + (-1 : Int32) = d0_ at *); first | omega | decide) (by (try generalize l2 + (-1 : Int32) = d0_ at *); first | omega | decide)
        · have fh3 := leF h3
          exact sRet ⟨(by show 0 ≤ (0 : Int32).toInt; decide), (by show (0 : Int32).toInt ≤ 1; decide), trivial⟩
set_option maxHeartbeats 2000000 in
theorem s_X4_hasNoneAbove {N K : Nat} {f : Nat → Int32} {p0 : Int32} (hN : NBig N) (hK : 100 ≤ K) (hp0 : 0 ≤ p0.toInt) (hp1 : p0.toInt ≤ 20) : Sf (fX4_hasNoneAbove N K f p0) (fun (z : Int32) => 0 ≤ z.toInt ∧ z.toInt ≤ 1 ∧ True) := by
  unfold fX4_hasNoneAbove
  have hN9 := hN.u
  have ql0 : (0 : Int32).toInt = 0 := by decide
  have ql20 : (20 : Int32).toInt = 20 := by decide
  exact s_X4_hasNoneAbove_3  hN hK (by omega) (by omega) _ _ (by omega) (by first | omega | decide) (by first | omega | decide)
set_option maxHeartbeats 2000000 in
theorem s_X4_becomeEmpty {N K : Nat} {f : Nat → Int32} (hN : NBig N) (hK : 100 ≤ K)  : Sf (fX4_becomeEmpty N K f) (fun (z : (Nat → Int32)) => True) := by
  unfold fX4_becomeEmpty
  have ql0 : (0 : Int32).toInt = 0 := by decide
  refine sBind (s_J_fill hN hK (by first | omega | decide)) (fun x5 b1 => ?_)
  exact sRet trivial
theorem s_X4_becomeFirst {N K : Nat} {f : Nat → Int32} {p0 : Int32} (hN : NBig N) (hK : 100 ≤ K) (hp0 : 0 ≤ p0.toInt) (hp1 : p0.toInt ≤ 20) : Sf (fX4_becomeFirst N K f p0) (fun (z : (Nat → Int32)) => OkD z ∧ True) := by
  have hN9 := hN.u
  obtain ⟨n, rfl, -, h2⟩ := o_of (p := p0) (a := 0) (b := 20) (by omega) (by omega)
  obtain ⟨g, a, b⟩ := c_first (N := N) (K := K) (by omega) (f := f) h2
  exact ⟨g, a, ⟨_, b⟩, trivial⟩

theorem s_X4_becomeTurned {N K : Nat} {f : Nat → Int32} {g : Nat → Int32} (hN : NBig N) (hK : 100 ≤ K) (hp0 : OkD g) : Sf (fX4_becomeTurned N K f g) (fun (z : (Nat → Int32)) => OkD z ∧ True) := by
  have hN9 := hN.u
  obtain ⟨w, hw⟩ := hp0
  obtain ⟨h, a, b⟩ := c_turn (N := N) (K := K) (by omega) (f := f) hw
  exact ⟨h, a, ⟨_, b⟩, trivial⟩

theorem s_X4_becomeUnlike {N K : Nat} {f : Nat → Int32} {g : Nat → Int32} (hN : NBig N) (hK : 100 ≤ K) (hp0 : OkD g) : Sf (fX4_becomeUnlike N K f g) (fun (z : (Nat → Int32)) => OkD z ∧ True) := by
  have hN9 := hN.u
  obtain ⟨w, hw⟩ := hp0
  obtain ⟨h, a, b⟩ := c_unlike (N := N) (K := K) (by omega) (f := f) hw
  exact ⟨h, a, ⟨_, b⟩, trivial⟩

theorem s_X4_becomeOdd {N K : Nat} {f : Nat → Int32} {g : Nat → Int32} (hN : NBig N) (hK : 100 ≤ K) (hp0 : OkD g) : Sf (fX4_becomeOdd N K f g) (fun (z : (Nat → Int32)) => OkD z ∧ True) := by
  have hN9 := hN.u
  obtain ⟨w, hw⟩ := hp0
  obtain ⟨h, a, b⟩ := c_odd (N := N) (K := K) (by omega) (f := f) hw
  exact ⟨h, a, ⟨_, b⟩, trivial⟩

theorem s_X4_become {N K : Nat} {f : Nat → Int32} {g : Nat → Int32} (hN : NBig N) (hK : 100 ≤ K) (hp0 : OkD g) : Sf (fX4_become N K f g) (fun (z : (Nat → Int32)) => OkD z ∧ True) := by
  obtain ⟨w, hw⟩ := hp0
  obtain ⟨h, a, b⟩ := c_become (N := N) (K := K) (f := f) hw.2
  exact ⟨h, a, ⟨w, hw.1, b⟩, trivial⟩

set_option maxHeartbeats 2000000 in
theorem s_X4_isOwnTurned {N K : Nat} {f : Nat → Int32} {g : Nat → Int32} (hN : NBig N) (hK : 100 ≤ K) (hp0 : OkD f) : Sf (fX4_isOwnTurned N K f g) (fun (z : Int32 × (Nat → Int32)) => 0 ≤ z.1.toInt ∧ z.1.toInt ≤ 1 ∧ True) := by
  unfold fX4_isOwnTurned
  have ql0 : (0 : Int32).toInt = 0 := by decide
  refine sBind (s_X4_becomeTurned hN hK (by first | assumption | exact OkD.z)) (fun x2 b1 => ?_)
  obtain ⟨b1_0, -⟩ := b1
  replace b1_0 : OkD x2 := b1_0
  refine sBind (s_X4_isLike hN hK) (fun x7 b2 => ?_)
  obtain ⟨b2_0, b2_1, -⟩ := b2
  replace b2_0 : 0 ≤ x7.toInt := b2_0
  replace b2_1 : x7.toInt ≤ 1 := b2_1
  refine sIfT (b01 (by omega) (by omega)) ?_
  exact sRet ⟨(by show 0 ≤ x7.toInt; first | omega | assumption), (by show x7.toInt ≤ 1; first | omega | assumption), trivial⟩
set_option maxHeartbeats 2000000 in
theorem s_X4_isOfKind {N K : Nat} {f : Nat → Int32} {g : Nat → Int32} {p0 : Int32} {p1 : Int32} (hN : NBig N) (hK : 100 ≤ K) (hp0 : 0 ≤ p0.toInt) (hp1 : p0.toInt ≤ 7) (hp2 : 0 ≤ p1.toInt) (hp3 : p1.toInt ≤ 20) (hp4 : OkD f) : Sf (fX4_isOfKind N K f g p0 p1) (fun (z : Int32 × (Nat → Int32)) => 0 ≤ z.1.toInt ∧ z.1.toInt ≤ 1 ∧ True) := by
  unfold fX4_isOfKind
  have ql0 : (0 : Int32).toInt = 0 := by decide
  have ql1 : (1 : Int32).toInt = 1 := by decide
  have ql2 : (2 : Int32).toInt = 2 := by decide
  have ql3 : (3 : Int32).toInt = 3 := by decide
  have ql4 : (4 : Int32).toInt = 4 := by decide
  have ql5 : (5 : Int32).toInt = 5 := by decide
  have ql6 : (6 : Int32).toInt = 6 := by decide
  refine sIf (fun h1 => ?_) (fun h1 => ?_)
  · have fh1 := eqT h1
    refine sBind (s_X4_hasNoneAbove hN hK (by first | omega | decide) (by first | omega | decide)) (fun x46 b2 => ?_)
    obtain ⟨b2_0, b2_1, -⟩ := b2
    replace b2_0 : 0 ≤ x46.toInt := b2_0
    replace b2_1 : x46.toInt ≤ 1 := b2_1
    refine sIfT (b01 (by omega) (by omega)) ?_
    exact sRet ⟨(by show 0 ≤ x46.toInt; first | omega | assumption), (by show x46.toInt ≤ 1; first | omega | assumption), trivial⟩
  · have fh1 := eqF h1
    refine sIf (fun h3 => ?_) (fun h3 => ?_)
    · have fh3 := eqT h3
      refine sBind (s_X4_parts hN hK) (fun x51 b4 => ?_)
      refine sIf (fun h5 => ?_) (fun h5 => ?_)
      · have fh5 := eqT h5
        exact sRet ⟨(by show 0 ≤ (1 : Int32).toInt; decide), (by show (1 : Int32).toInt ≤ 1; decide), trivial⟩
      · have fh5 := eqF h5
        exact sRet ⟨(by show 0 ≤ (0 : Int32).toInt; decide), (by show (0 : Int32).toInt ≤ 1; decide), trivial⟩
    · have fh3 := eqF h3
      refine sIf (fun h6 => ?_) (fun h6 => ?_)
      · have fh6 := eqT h6
        refine sBind (s_X4_isUnlike hN hK) (fun x65 b7 => ?_)
        obtain ⟨b7_0, b7_1, -⟩ := b7
        replace b7_0 : 0 ≤ x65.toInt := b7_0
        replace b7_1 : x65.toInt ≤ 1 := b7_1
        refine sIf (fun h8 => ?_) (fun h8 => ?_)
        · have fh8 := eqT h8
          exact sRet ⟨(by show 0 ≤ (0 : Int32).toInt; decide), (by show (0 : Int32).toInt ≤ 1; decide), trivial⟩
        · have fh8 := eqF h8
          refine sBind (s_X4_hasNoneAbove hN hK (by first | omega | decide) (by first | omega | decide)) (fun x73 b9 => ?_)
          obtain ⟨b9_0, b9_1, -⟩ := b9
          replace b9_0 : 0 ≤ x73.toInt := b9_0
          replace b9_1 : x73.toInt ≤ 1 := b9_1
          refine sIf (fun h10 => ?_) (fun h10 => ?_)
          · have fh10 := eqT h10
            exact sRet ⟨(by show 0 ≤ (0 : Int32).toInt; decide), (by show (0 : Int32).toInt ≤ 1; decide), trivial⟩
          · have fh10 := eqF h10
            exact sRet ⟨(by show 0 ≤ (1 : Int32).toInt; decide), (by show (1 : Int32).toInt ≤ 1; decide), trivial⟩
      · have fh6 := eqF h6
        refine sIf (fun h11 => ?_) (fun h11 => ?_)
        · have fh11 := eqT h11
          refine sBind (s_X4_isOdd hN hK) (fun x86 b12 => ?_)
          obtain ⟨b12_0, b12_1, -⟩ := b12
          replace b12_0 : 0 ≤ x86.toInt := b12_0
          replace b12_1 : x86.toInt ≤ 1 := b12_1
          refine sIf (fun h13 => ?_) (fun h13 => ?_)
          · have fh13 := eqT h13
            exact sRet ⟨(by show 0 ≤ (0 : Int32).toInt; decide), (by show (0 : Int32).toInt ≤ 1; decide), trivial⟩
          · have fh13 := eqF h13
            refine sBind (s_X4_hasNoneAbove hN hK (by first | omega | decide) (by first | omega | decide)) (fun x94 b14 => ?_)
            obtain ⟨b14_0, b14_1, -⟩ := b14
            replace b14_0 : 0 ≤ x94.toInt := b14_0
            replace b14_1 : x94.toInt ≤ 1 := b14_1
            refine sIf (fun h15 => ?_) (fun h15 => ?_)
            · have fh15 := eqT h15
              exact sRet ⟨(by show 0 ≤ (0 : Int32).toInt; decide), (by show (0 : Int32).toInt ≤ 1; decide), trivial⟩
            · have fh15 := eqF h15
              exact sRet ⟨(by show 0 ≤ (1 : Int32).toInt; decide), (by show (1 : Int32).toInt ≤ 1; decide), trivial⟩
        · have fh11 := eqF h11
          refine sIf (fun h16 => ?_) (fun h16 => ?_)
          · have fh16 := eqT h16
            refine sBind (s_X4_isOdd hN hK) (fun x107 b17 => ?_)
            obtain ⟨b17_0, b17_1, -⟩ := b17
            replace b17_0 : 0 ≤ x107.toInt := b17_0
            replace b17_1 : x107.toInt ≤ 1 := b17_1
            refine sIf (fun h18 => ?_) (fun h18 => ?_)
            · have fh18 := eqT h18
              exact sRet ⟨(by show 0 ≤ (0 : Int32).toInt; decide), (by show (0 : Int32).toInt ≤ 1; decide), trivial⟩
            · have fh18 := eqF h18
              refine sBind (s_X4_isUnlike hN hK) (fun x114 b19 => ?_)
              obtain ⟨b19_0, b19_1, -⟩ := b19
              replace b19_0 : 0 ≤ x114.toInt := b19_0
              replace b19_1 : x114.toInt ≤ 1 := b19_1
              refine sIf (fun h20 => ?_) (fun h20 => ?_)
              · have fh20 := eqT h20
                exact sRet ⟨(by show 0 ≤ (0 : Int32).toInt; decide), (by show (0 : Int32).toInt ≤ 1; decide), trivial⟩
              · have fh20 := eqF h20
                refine sBind (s_X4_hasNoneAbove hN hK (by first | omega | decide) (by first | omega | decide)) (fun x122 b21 => ?_)
                obtain ⟨b21_0, b21_1, -⟩ := b21
                replace b21_0 : 0 ≤ x122.toInt := b21_0
                replace b21_1 : x122.toInt ≤ 1 := b21_1
                refine sIf (fun h22 => ?_) (fun h22 => ?_)
                · have fh22 := eqT h22
                  exact sRet ⟨(by show 0 ≤ (0 : Int32).toInt; decide), (by show (0 : Int32).toInt ≤ 1; decide), trivial⟩
                · have fh22 := eqF h22
                  exact sRet ⟨(by show 0 ≤ (1 : Int32).toInt; decide), (by show (1 : Int32).toInt ≤ 1; decide), trivial⟩
          · have fh16 := eqF h16
            refine sIf (fun h23 => ?_) (fun h23 => ?_)
            · have fh23 := eqT h23
              refine sBind (s_X4_isUnlike hN hK) (fun x135 b24 => ?_)
              obtain ⟨b24_0, b24_1, -⟩ := b24
              replace b24_0 : 0 ≤ x135.toInt := b24_0
              replace b24_1 : x135.toInt ≤ 1 := b24_1
              refine sIf (fun h25 => ?_) (fun h25 => ?_)
              · have fh25 := eqT h25
                exact sRet ⟨(by show 0 ≤ (0 : Int32).toInt; decide), (by show (0 : Int32).toInt ≤ 1; decide), trivial⟩
              · have fh25 := eqF h25
                refine sBind (s_X4_parts hN hK) (fun x142 b26 => ?_)
                refine sIf (fun h27 => ?_) (fun h27 => ?_)
                · have fh27 := eqT h27
                  exact sRet ⟨(by show 0 ≤ (1 : Int32).toInt; decide), (by show (1 : Int32).toInt ≤ 1; decide), trivial⟩
                · have fh27 := eqF h27
                  exact sRet ⟨(by show 0 ≤ (0 : Int32).toInt; decide), (by show (0 : Int32).toInt ≤ 1; decide), trivial⟩
            · have fh23 := eqF h23
              refine sIf (fun h28 => ?_) (fun h28 => ?_)
              · have fh28 := eqT h28
                refine sBind (s_X4_parts hN hK) (fun x156 b29 => ?_)
                refine sIf (fun h30 => ?_) (fun h30 => ?_)
                · have fh30 := ltT h30
                  exact sRet ⟨(by show 0 ≤ (0 : Int32).toInt; decide), (by show (0 : Int32).toInt ≤ 1; decide), trivial⟩
                · have fh30 := ltF h30
                  exact sRet ⟨(by show 0 ≤ (1 : Int32).toInt; decide), (by show (1 : Int32).toInt ≤ 1; decide), trivial⟩
              · have fh28 := eqF h28
                refine sBind (s_X4_hasNoneAbove hN hK (by first | omega | decide) (by first | omega | decide)) (fun x171 b31 => ?_)
                obtain ⟨b31_0, b31_1, -⟩ := b31
                replace b31_0 : 0 ≤ x171.toInt := b31_0
                replace b31_1 : x171.toInt ≤ 1 := b31_1
                refine sIf (fun h32 => ?_) (fun h32 => ?_)
                · have fh32 := eqT h32
                  exact sRet ⟨(by show 0 ≤ (0 : Int32).toInt; decide), (by show (0 : Int32).toInt ≤ 1; decide), trivial⟩
                · have fh32 := eqF h32
                  refine sBind (s_X4_isOwnTurned hN hK (by first | assumption | exact OkD.z)) (fun x179 b33 => ?_)
                  obtain ⟨b33_0, b33_1, -⟩ := b33
                  replace b33_0 : 0 ≤ x179.1.toInt := b33_0
                  replace b33_1 : x179.1.toInt ≤ 1 := b33_1
                  refine sIf (fun h34 => ?_) (fun h34 => ?_)
                  · have fh34 := eqT h34
                    exact sRet ⟨(by show 0 ≤ (0 : Int32).toInt; decide), (by show (0 : Int32).toInt ≤ 1; decide), trivial⟩
                  · have fh34 := eqF h34
                    exact sRet ⟨(by show 0 ≤ (1 : Int32).toInt; decide), (by show (1 : Int32).toInt ≤ 1; decide), trivial⟩
theorem if01 {C : Prop} {dc : Decidable C} : 0 ≤ ((if C then 0 else 1 : Int32)).toInt ∧ ((if C then 0 else 1 : Int32)).toInt ≤ 1 := by
  by_cases e : C
  · rw [if_pos e]; decide
  · rw [if_neg e]; decide
theorem s_X4_stepOn {N K : Nat} {f : Nat → Int32} (hN : NBig N) (hK : 100 ≤ K) (hp0 : OkD f) : Sf (fX4_stepOn N K f) (fun (z : Int32 × (Nat → Int32)) => 0 ≤ z.1.toInt ∧ z.1.toInt ≤ 1 ∧ OkD z.2 ∧ True) := by
  have hN9 := hN.u
  obtain ⟨w, hw⟩ := hp0
  obtain ⟨g, a, b⟩ := c_step (N := N) (K := K) (by omega) hw
  exact ⟨_, a, if01.1, if01.2, ⟨_, b⟩, trivial⟩

set_option maxHeartbeats 2000000 in
theorem s_X3_takeOften_8 {N K : Nat} {g : Nat → Int32} {p0 : Int32} (hN : NBig N) (hK : 100 ≤ K) (hp0 : 1 ≤ p0.toInt) (hp1 : p0.toInt ≤ 20) : ∀ (fu : Nat) (l2 : Int32) (g_ : (Nat → Int32)), (21 - l2.toInt).toNat < fu → 1 ≤ l2.toInt → l2.toInt ≤ 21 → p0.toInt ≤ l2.toInt → Sf (fX3_takeOften_8 N K g p0  fu l2 g_) (fun (z : (Nat → Int32)) => True) := by
  intro fu
  induction fu with
  | zero => intro l2 g_ h0 hq0 hq1 hq2; omega
  | succ fu ih =>
    intro l2 g_ h0 hq0 hq1 hq2
    unfold fX3_takeOften_8
    have ql0 : (0 : Int32).toInt = 0 := by decide
    have ql1 : (1 : Int32).toInt = 1 := by decide
    have ql21 : (21 : Int32).toInt = 21 := by decide
    refine sIf (fun h1 => ?_) (fun h1 => ?_)
    · have fh1 := leT h1
      exact sRet trivial
    · have fh1 := leF h1
      refine sIfF (noob (by omega) (by omega)) ?_
      have t2 := subI (a := l2) (b := p0) (by omega) (by omega)
      refine sIfF (noob (by omega) (by omega)) ?_
      refine sIfF (noob (by omega) (by omega)) ?_
      have t3 := addI (a := l2) (b := (1 : Int32)) (by omega) (by omega)
      exact ih _ _ (by omega) (by first | omega | decide) (by first | omega | decide) (by omega)
set_option maxHeartbeats 2000000 in
theorem s_X3_takeOften {N K : Nat} {g : Nat → Int32} {p0 : Int32} (hN : NBig N) (hK : 100 ≤ K) (hp0 : 1 ≤ p0.toInt) (hp1 : p0.toInt ≤ 20) : Sf (fX3_takeOften N K g p0) (fun (z : (Nat → Int32)) => True) := by
  unfold fX3_takeOften
  have hN9 := hN.u
  have ql0 : (0 : Int32).toInt = 0 := by decide
  have ql1 : (1 : Int32).toInt = 1 := by decide
  refine sIf (fun h1 => ?_) (fun h1 => ?_)
  · have fh1 := leT h1
    exact s_X3_takeOften_8  hN hK (by omega) (by omega) _ _ _ (by omega) (by first | omega | decide) (by first | omega | decide) (by omega)
  · have fh1 := leF h1
    exfalso; omega
set_option maxHeartbeats 2000000 in
theorem s_X3_takeOnce_14 {N K : Nat} {g : Nat → Int32} {p0 : Int32} (hN : NBig N) (hK : 100 ≤ K) (hp0 : 1 ≤ p0.toInt) (hp1 : p0.toInt ≤ 20) : ∀ (fu : Nat) (l2 : Int32) (g_ : (Nat → Int32)), (l2.toInt - 0).toNat < fu → 0 ≤ l2.toInt → l2.toInt ≤ 20 → Sf (fX3_takeOnce_14 N K g p0  fu l2 g_) (fun (z : (Nat → Int32)) => True) := by
  intro fu
  induction fu with
  | zero => intro l2 g_ h0 hq0 hq1; omega
  | succ fu ih =>
    intro l2 g_ h0 hq0 hq1
    unfold fX3_takeOnce_14
    have ql0 : (0 : Int32).toInt = 0 := by decide
    refine sIf (fun h1 => ?_) (fun h1 => ?_)
    · have fh1 := ltT h1
      exact sRet trivial
    · have fh1 := ltF h1
      refine sIfF (noob (by omega) (by omega)) ?_
      have t2 := subI (a := l2) (b := p0) (by omega) (by omega)
      refine sIfF (noob (by omega) (by omega)) ?_
      refine sIfF (noob (by omega) (by omega)) ?_
      have t3 : (l2 + (-1 : Int32)).toInt = l2.toInt + (-1) := addL (by decide) (by omega) (by omega)
      exact ih _ _ (by (try generalize l2 + (-1 : Int32) = d0_ at *); omega) (by (try generalize l2 + (-1 : Int32) = d0_ at *); first | omega | decide) (by (try generalize l2 + (-1 : Int32) = d0_ at *); first | omega | decide)
set_option maxHeartbeats 2000000 in
theorem s_X3_takeOnce {N K : Nat} {g : Nat → Int32} {p0 : Int32} (hN : NBig N) (hK : 100 ≤ K) (hp0 : 1 ≤ p0.toInt) (hp1 : p0.toInt ≤ 20) : Sf (fX3_takeOnce N K g p0) (fun (z : (Nat → Int32)) => True) := by
  unfold fX3_takeOnce
  have hN9 := hN.u
  have ql0 : (0 : Int32).toInt = 0 := by decide
  have ql1 : (1 : Int32).toInt = 1 := by decide
  have ql21 : (21 : Int32).toInt = 21 := by decide
  refine sIf (fun h1 => ?_) (fun h1 => ?_)
  · have fh1 := leT h1
    have t2 := subI (a := (21 : Int32)) (b := (1 : Int32)) (by omega) (by omega)
    exact s_X3_takeOnce_14  hN hK (by omega) (by omega) _ _ _ (by omega) (by first | omega | decide) (by first | omega | decide)
  · have fh1 := leF h1
    exfalso; omega
set_option maxHeartbeats 2000000 in
theorem s_X3_reckon_128 {N K : Nat} {g : Nat → Int32} {p0 : Int32} {p1 : Int32} (hN : NBig N) (hK : 100 ≤ K) (hp0 : 0 ≤ p0.toInt) (hp1 : p0.toInt ≤ 7) (hp2 : 0 ≤ p1.toInt) (hp3 : p1.toInt ≤ 20) {k_80 : Int32 → Int32 → Int32 → Int32 → (Nat → Int32) → Option ((Nat → Int32))} {m_80 : Nat} (hk_80 : ∀ (l3 : Int32) (l4 : Int32) (l5 : Int32) (l6 : Int32) (g_ : (Nat → Int32)), (21 - l6.toInt).toNat < m_80 → -1 ≤ l3.toInt → l3.toInt ≤ 39 → 0 ≤ l4.toInt → l4.toInt ≤ 1 → 0 ≤ l5.toInt → l5.toInt ≤ 1 → 1 ≤ l6.toInt → l6.toInt ≤ 21 → Sf (k_80 l3 l4 l5 l6 g_) (fun (z : (Nat → Int32)) => True)) : ∀ (l3 : Int32) (l4 : Int32) (l5 : Int32) (l6 : Int32) (g_ : Nat → Int32), 1 ≤ l3.toInt → l3.toInt ≤ 39 → 0 ≤ l4.toInt → l4.toInt ≤ 1 → 0 ≤ l5.toInt → l5.toInt ≤ 1 → 1 ≤ l6.toInt → l6.toInt ≤ 20 → (21 - l6.toInt).toNat ≤ m_80 → Sf (fX3_reckon_128 N K g p0 p1 k_80 l3 l4 l5 l6 g_) (fun (z : (Nat → Int32)) => True) := by
  intro l3 l4 l5 l6 g_ hq0 hq1 hq2 hq3 hq4 hq5 hq6 hq7 hq8
  unfold fX3_reckon_128
  have ql0 : (0 : Int32).toInt = 0 := by decide
  have ql1 : (1 : Int32).toInt = 1 := by decide
  have t1 := addI (a := l6) (b := (1 : Int32)) (by omega) (by omega)
  exact hk_80 _ _ _ _ _ (by omega) (by first | omega | decide) (by first | omega | decide) (by first | omega | decide) (by first | omega | decide) (by first | omega | decide) (by first | omega | decide) (by first | omega | decide) (by first | omega | decide)
set_option maxHeartbeats 2000000 in
theorem s_X3_reckon_108 {N K : Nat} {g : Nat → Int32} {p0 : Int32} {p1 : Int32} (hN : NBig N) (hK : 100 ≤ K) (hp0 : 0 ≤ p0.toInt) (hp1 : p0.toInt ≤ 7) (hp2 : 0 ≤ p1.toInt) (hp3 : p1.toInt ≤ 20) {k_80 : Int32 → Int32 → Int32 → Int32 → (Nat → Int32) → Option ((Nat → Int32))} {m_80 : Nat} (hk_80 : ∀ (l3 : Int32) (l4 : Int32) (l5 : Int32) (l6 : Int32) (g_ : (Nat → Int32)), (21 - l6.toInt).toNat < m_80 → -1 ≤ l3.toInt → l3.toInt ≤ 39 → 0 ≤ l4.toInt → l4.toInt ≤ 1 → 0 ≤ l5.toInt → l5.toInt ≤ 1 → 1 ≤ l6.toInt → l6.toInt ≤ 21 → Sf (k_80 l3 l4 l5 l6 g_) (fun (z : (Nat → Int32)) => True)) : ∀ (l3 : Int32) (l4 : Int32) (l5 : Int32) (l6 : Int32) (g_ : Nat → Int32), 1 ≤ l3.toInt → l3.toInt ≤ 39 → 0 ≤ l4.toInt → l4.toInt ≤ 1 → 0 ≤ l5.toInt → l5.toInt ≤ 1 → 1 ≤ l6.toInt → l6.toInt ≤ 20 → (21 - l6.toInt).toNat ≤ m_80 → Sf (fX3_reckon_108 N K g p0 p1 k_80 l3 l4 l5 l6 g_) (fun (z : (Nat → Int32)) => True) := by
  intro l3 l4 l5 l6 g_ hq0 hq1 hq2 hq3 hq4 hq5 hq6 hq7 hq8
  unfold fX3_reckon_108
  have ql0 : (0 : Int32).toInt = 0 := by decide
  refine sIf (fun h1 => ?_) (fun h1 => ?_)
  · have fh1 := eqT h1
    refine sBind (s_X3_takeOften hN hK (by first | omega | decide) (by first | omega | decide)) (fun x125 b2 => ?_)
    exact s_X3_reckon_128 (hk_80 := hk_80) hN hK (by omega) (by omega) (by omega) (by omega) _ _ _ _ _ (by first | omega | decide) (by first | omega | decide) (by first | omega | decide) (by first | omega | decide) (by first | omega | decide) (by first | omega | decide) (by first | omega | decide) (by first | omega | decide) (by omega)
  · have fh1 := eqF h1
    refine sBind (s_X3_takeOnce hN hK (by first | omega | decide) (by first | omega | decide)) (fun x116 b3 => ?_)
    exact s_X3_reckon_128 (hk_80 := hk_80) hN hK (by omega) (by omega) (by omega) (by omega) _ _ _ _ _ (by first | omega | decide) (by first | omega | decide) (by first | omega | decide) (by first | omega | decide) (by first | omega | decide) (by first | omega | decide) (by first | omega | decide) (by first | omega | decide) (by omega)
set_option maxHeartbeats 2000000 in
theorem s_X3_reckon_80 {N K : Nat} {g : Nat → Int32} {p0 : Int32} {p1 : Int32} (hN : NBig N) (hK : 100 ≤ K) (hp0 : 0 ≤ p0.toInt) (hp1 : p0.toInt ≤ 7) (hp2 : 0 ≤ p1.toInt) (hp3 : p1.toInt ≤ 20) : ∀ (fu : Nat) (l3 : Int32) (l4 : Int32) (l5 : Int32) (l6 : Int32) (g_ : (Nat → Int32)), (21 - l6.toInt).toNat < fu → -1 ≤ l3.toInt → l3.toInt ≤ 39 → 0 ≤ l4.toInt → l4.toInt ≤ 1 → 0 ≤ l5.toInt → l5.toInt ≤ 1 → 1 ≤ l6.toInt → l6.toInt ≤ 21 → Sf (fX3_reckon_80 N K g p0 p1  fu l3 l4 l5 l6 g_) (fun (z : (Nat → Int32)) => True) := by
  intro fu
  induction fu with
  | zero => intro l3 l4 l5 l6 g_ h0 hq0 hq1 hq2 hq3 hq4 hq5 hq6 hq7; omega
  | succ fu ih =>
    intro l3 l4 l5 l6 g_ h0 hq0 hq1 hq2 hq3 hq4 hq5 hq6 hq7
    unfold fX3_reckon_80
    have ql0 : (0 : Int32).toInt = 0 := by decide
    have ql2 : (2 : Int32).toInt = 2 := by decide
    have ql20 : (20 : Int32).toInt = 20 := by decide
    refine sIf (fun h1 => ?_) (fun h1 => ?_)
    · have fh1 := ltT h1
      exact sRet trivial
    · have fh1 := ltF h1
      refine sIf (fun h2 => ?_) (fun h2 => ?_)
      · have fh2 := ltT h2
        exact sRet trivial
      · have fh2 := ltF h2
        refine sIf (fun h3 => ?_) (fun h3 => ?_)
        · have fh3 := eqT h3
          exact s_X3_reckon_108 (hk_80 := ih) hN hK (by omega) (by omega) (by omega) (by omega) _ _ _ _ _ (by first | omega | decide) (by first | omega | decide) (by first | omega | decide) (by first | omega | decide) (by first | omega | decide) (by first | omega | decide) (by first | omega | decide) (by first | omega | decide) (by omega)
        · have fh3 := eqF h3
          refine sIf (fun h4 => ?_) (fun h4 => ?_)
          · have t5 := modL (a := l6) (b := (2 : Int32)) ql2 (by omega)
            have fh4 := eqT h4
            exact s_X3_reckon_128 (hk_80 := ih) hN hK (by omega) (by omega) (by omega) (by omega) _ _ _ _ _ (by first | omega | decide) (by first | omega | decide) (by first | omega | decide) (by first | omega | decide) (by first | omega | decide) (by first | omega | decide) (by first | omega | decide) (by first | omega | decide) (by omega)
          · have t6 := modL (a := l6) (b := (2 : Int32)) ql2 (by omega)
            have fh4 := eqF h4
            exact s_X3_reckon_108 (hk_80 := ih) hN hK (by omega) (by omega) (by omega) (by omega) _ _ _ _ _ (by first | omega | decide) (by first | omega | decide) (by first | omega | decide) (by first | omega | decide) (by first | omega | decide) (by first | omega | decide) (by first | omega | decide) (by first | omega | decide) (by omega)
set_option maxHeartbeats 2000000 in
theorem s_X3_reckon_75 {N K : Nat} {g : Nat → Int32} {p0 : Int32} {p1 : Int32} (hN : NBig N) (hK : 100 ≤ K) (hp0 : 0 ≤ p0.toInt) (hp1 : p0.toInt ≤ 7) (hp2 : 0 ≤ p1.toInt) (hp3 : p1.toInt ≤ 20) : ∀ (l3 : Int32) (l4 : Int32) (s0 : Int32) (g_ : Nat → Int32), -1 ≤ l3.toInt → l3.toInt ≤ 39 → 0 ≤ l4.toInt → l4.toInt ≤ 1 → 0 ≤ s0.toInt → s0.toInt ≤ 1 → (s0.toInt = 0 → 0 ≤ p0.toInt ∧ p0.toInt ≤ 6 ∧ 0 ≤ p1.toInt ∧ p1.toInt ≤ 20) → Sf (fX3_reckon_75 N K g p0 p1  l3 l4 s0 g_) (fun (z : (Nat → Int32)) => True) := by
  intro l3 l4 s0 g_ hq0 hq1 hq2 hq3 hq4 hq5 hq6
  unfold fX3_reckon_75
  have hN9 := hN.u
  have ql0 : (0 : Int32).toInt = 0 := by decide
  have ql1 : (1 : Int32).toInt = 1 := by decide
  exact s_X3_reckon_80  hN hK (by omega) (by omega) (by omega) (by omega) _ _ _ _ _ _ (by omega) (by first | omega | decide) (by first | omega | decide) (by first | omega | decide) (by first | omega | decide) (by first | omega | decide) (by first | omega | decide) (by first | omega | decide) (by first | omega | decide)
set_option maxHeartbeats 2000000 in
theorem s_X3_reckon_70 {N K : Nat} {g : Nat → Int32} {p0 : Int32} {p1 : Int32} (hN : NBig N) (hK : 100 ≤ K) (hp0 : 0 ≤ p0.toInt) (hp1 : p0.toInt ≤ 7) (hp2 : 0 ≤ p1.toInt) (hp3 : p1.toInt ≤ 20) : ∀ (l3 : Int32) (l4 : Int32) (g_ : Nat → Int32), 2 ≤ p0.toInt → p0.toInt ≤ 7 → -1 ≤ l3.toInt → l3.toInt ≤ 39 → 0 ≤ l4.toInt → l4.toInt ≤ 1 → Sf (fX3_reckon_70 N K g p0 p1  l3 l4 g_) (fun (z : (Nat → Int32)) => True) := by
  intro l3 l4 g_ hq0 hq1 hq2 hq3 hq4 hq5
  unfold fX3_reckon_70
  have ql0 : (0 : Int32).toInt = 0 := by decide
  have ql1 : (1 : Int32).toInt = 1 := by decide
  exact s_X3_reckon_75  hN hK (by omega) (by omega) (by omega) (by omega) _ _ _ _ (by first | omega | decide) (by first | omega | decide) (by first | omega | decide) (by first | omega | decide) (by first | omega | decide) (by first | omega | decide) (by first | omega | decide)
set_option maxHeartbeats 2000000 in
theorem s_X3_reckon_52 {N K : Nat} {g : Nat → Int32} {p0 : Int32} {p1 : Int32} (hN : NBig N) (hK : 100 ≤ K) (hp0 : 0 ≤ p0.toInt) (hp1 : p0.toInt ≤ 7) (hp2 : 0 ≤ p1.toInt) (hp3 : p1.toInt ≤ 20) : ∀ (l3 : Int32) (s0 : Int32) (g_ : Nat → Int32), -1 ≤ l3.toInt → l3.toInt ≤ 39 → 0 ≤ s0.toInt → s0.toInt ≤ 1 → (s0.toInt = 0 → 0 ≤ p0.toInt ∧ p0.toInt ≤ 6 ∧ 0 ≤ p1.toInt ∧ p1.toInt ≤ 20) → Sf (fX3_reckon_52 N K g p0 p1  l3 s0 g_) (fun (z : (Nat → Int32)) => True) := by
  intro l3 s0 g_ hq0 hq1 hq2 hq3 hq4
  unfold fX3_reckon_52
  have ql0 : (0 : Int32).toInt = 0 := by decide
  have ql2 : (2 : Int32).toInt = 2 := by decide
  have ql4 : (4 : Int32).toInt = 4 := by decide
  have ql7 : (7 : Int32).toInt = 7 := by decide
  refine sIf (fun h1 => ?_) (fun h1 => ?_)
  · have fh1 := eqT h1
    exact s_X3_reckon_70  hN hK (by omega) (by omega) (by omega) (by omega) _ _ _ (by first | omega | decide) (by first | omega | decide) (by first | omega | decide) (by first | omega | decide) (by first | omega | decide) (by first | omega | decide)
  · have fh1 := eqF h1
    refine sIf (fun h2 => ?_) (fun h2 => ?_)
    · have fh2 := eqT h2
      exact s_X3_reckon_70  hN hK (by omega) (by omega) (by omega) (by omega) _ _ _ (by first | omega | decide) (by first | omega | decide) (by first | omega | decide) (by first | omega | decide) (by first | omega | decide) (by first | omega | decide)
    · have fh2 := eqF h2
      refine sIf (fun h3 => ?_) (fun h3 => ?_)
      · have fh3 := eqT h3
        exact s_X3_reckon_70  hN hK (by omega) (by omega) (by omega) (by omega) _ _ _ (by first | omega | decide) (by first | omega | decide) (by first | omega | decide) (by first | omega | decide) (by first | omega | decide) (by first | omega | decide)
      · have fh3 := eqF h3
        exact s_X3_reckon_75  hN hK (by omega) (by omega) (by omega) (by omega) _ _ _ _ (by first | omega | decide) (by first | omega | decide) (by first | omega | decide) (by first | omega | decide) (by first | omega | decide) (by first | omega | decide) (by first | omega | decide)
set_option maxHeartbeats 2000000 in
theorem s_X3_reckon_47 {N K : Nat} {g : Nat → Int32} {p0 : Int32} {p1 : Int32} (hN : NBig N) (hK : 100 ≤ K) (hp0 : 0 ≤ p0.toInt) (hp1 : p0.toInt ≤ 7) (hp2 : 0 ≤ p1.toInt) (hp3 : p1.toInt ≤ 20) : ∀ (l3 : Int32) (g_ : Nat → Int32), 3 ≤ p0.toInt → p0.toInt ≤ 7 → -1 ≤ l3.toInt → l3.toInt ≤ 39 → Sf (fX3_reckon_47 N K g p0 p1  l3 g_) (fun (z : (Nat → Int32)) => True) := by
  intro l3 g_ hq0 hq1 hq2 hq3
  unfold fX3_reckon_47
  have ql0 : (0 : Int32).toInt = 0 := by decide
  have ql1 : (1 : Int32).toInt = 1 := by decide
  exact s_X3_reckon_52  hN hK (by omega) (by omega) (by omega) (by omega) _ _ _ (by first | omega | decide) (by first | omega | decide) (by first | omega | decide) (by first | omega | decide) (by first | omega | decide)
set_option maxHeartbeats 2000000 in
theorem s_X3_reckon_30 {N K : Nat} {g : Nat → Int32} {p0 : Int32} {p1 : Int32} (hN : NBig N) (hK : 100 ≤ K) (hp0 : 0 ≤ p0.toInt) (hp1 : p0.toInt ≤ 7) (hp2 : 0 ≤ p1.toInt) (hp3 : p1.toInt ≤ 20) : ∀ (s0 : Int32) (g_ : Nat → Int32), -1 ≤ s0.toInt → s0.toInt ≤ 39 → (s0.toInt = 0 → 0 ≤ p0.toInt ∧ p0.toInt ≤ 7 ∧ 0 ≤ p1.toInt ∧ p1.toInt ≤ 20) → Sf (fX3_reckon_30 N K g p0 p1  s0 g_) (fun (z : (Nat → Int32)) => True) := by
  intro s0 g_ hq0 hq1 hq2
  unfold fX3_reckon_30
  have ql0 : (0 : Int32).toInt = 0 := by decide
  have ql3 : (3 : Int32).toInt = 3 := by decide
  have ql4 : (4 : Int32).toInt = 4 := by decide
  have ql7 : (7 : Int32).toInt = 7 := by decide
  refine sIf (fun h1 => ?_) (fun h1 => ?_)
  · have fh1 := eqT h1
    exact s_X3_reckon_47  hN hK (by omega) (by omega) (by omega) (by omega) _ _ (by first | omega | decide) (by first | omega | decide) (by first | omega | decide) (by first | omega | decide)
  · have fh1 := eqF h1
    refine sIf (fun h2 => ?_) (fun h2 => ?_)
    · have fh2 := eqT h2
      exact s_X3_reckon_47  hN hK (by omega) (by omega) (by omega) (by omega) _ _ (by first | omega | decide) (by first | omega | decide) (by first | omega | decide) (by first | omega | decide)
    · have fh2 := eqF h2
      refine sIf (fun h3 => ?_) (fun h3 => ?_)
      · have fh3 := eqT h3
        exact s_X3_reckon_47  hN hK (by omega) (by omega) (by omega) (by omega) _ _ (by first | omega | decide) (by first | omega | decide) (by first | omega | decide) (by first | omega | decide)
      · have fh3 := eqF h3
        exact s_X3_reckon_52  hN hK (by omega) (by omega) (by omega) (by omega) _ _ _ (by first | omega | decide) (by first | omega | decide) (by first | omega | decide) (by first | omega | decide) (by first | omega | decide)

end MG_50asafe
section MG_50bsafe
set_option maxHeartbeats 2000000 in
theorem s_X3_reckon {N K : Nat} {g : Nat → Int32} {p0 : Int32} {p1 : Int32} (hN : NBig N) (hK : 100 ≤ K) (hp0 : 0 ≤ p0.toInt) (hp1 : p0.toInt ≤ 7) (hp2 : 0 ≤ p1.toInt) (hp3 : p1.toInt ≤ 20) : Sf (fX3_reckon N K g p0 p1) (fun (z : (Nat → Int32)) => True) := by
  unfold fX3_reckon
  have ql0 : (0 : Int32).toInt = 0 := by decide
  have ql1 : (1 : Int32).toInt = 1 := by decide
  have ql2 : (2 : Int32).toInt = 2 := by decide
  have ql7 : (7 : Int32).toInt = 7 := by decide
  refine sBind (s_J_fill hN hK (by first | omega | decide)) (fun x5 b1 => ?_)
  refine sIf (fun h2 => ?_) (fun h2 => ?_)
  · have fh2 := eqT h2
    have t4 := mulL (a := (2 : Int32)) (b := p1) ql2 (by omega) (by omega)
    have t3 := subI (a := ((2 : Int32) * p1)) (b := (1 : Int32)) (by omega) (by omega)
    exact s_X3_reckon_30  hN hK (by omega) (by omega) (by omega) (by omega) _ _ (by first | omega | decide) (by first | omega | decide) (by first | omega | decide)
  · have fh2 := eqF h2
    exact s_X3_reckon_30  hN hK (by omega) (by omega) (by omega) (by omega) _ _ (by first | omega | decide) (by first | omega | decide) (by first | omega | decide)
set_option maxHeartbeats 2000000 in
theorem s_X3_reckoned_32 {N K : Nat} {g : Nat → Int32} {p0 : Int32} {p1 : Int32} {p2 : Int32} (hN : NBig N) (hK : 100 ≤ K) (hp0 : 0 ≤ p0.toInt) (hp1 : p0.toInt ≤ 7) (hp2 : 0 ≤ p1.toInt) (hp3 : p1.toInt ≤ 20) (hp4 : 0 ≤ p2.toInt) (hp5 : p2.toInt ≤ 20) : ∀ (l4 : Int32), -210 ≤ l4.toInt → l4.toInt ≤ 20 → Sf (fX3_reckoned_32 N K g p0 p1 p2  l4) (fun (z : Int32) => True) := by
  intro l4 hq0 hq1
  unfold fX3_reckoned_32
  have ql0 : (0 : Int32).toInt = 0 := by decide
  have ql21 : (21 : Int32).toInt = 21 := by decide
  refine sIf (fun h1 => ?_) (fun h1 => ?_)
  · have fh1 := ltT h1
    exact sRet trivial
  · have fh1 := ltF h1
    refine sIf (fun h2 => ?_) (fun h2 => ?_)
    · have fh2 := ltT h2
      refine sIfF (noob (by omega) (by omega)) ?_
      exact sRet trivial
    · have fh2 := ltF h2
      exfalso; omega
set_option maxHeartbeats 2000000 in
theorem s_X3_reckoned {N K : Nat} {g : Nat → Int32} {p0 : Int32} {p1 : Int32} {p2 : Int32} (hN : NBig N) (hK : 100 ≤ K) (hp0 : 0 ≤ p0.toInt) (hp1 : p0.toInt ≤ 7) (hp2 : 0 ≤ p1.toInt) (hp3 : p1.toInt ≤ 20) (hp4 : 0 ≤ p2.toInt) (hp5 : p2.toInt ≤ 20) : Sf (fX3_reckoned N K g p0 p1 p2) (fun (z : Int32) => True) := by
  unfold fX3_reckoned
  have ql0 : (0 : Int32).toInt = 0 := by decide
  have ql1 : (1 : Int32).toInt = 1 := by decide
  have ql2 : (2 : Int32).toInt = 2 := by decide
  have ql5 : (5 : Int32).toInt = 5 := by decide
  refine sIf (fun h1 => ?_) (fun h1 => ?_)
  · have fh1 := eqT h1
    have t2 := subI (a := p1) (b := p2) (by omega) (by omega)
    exact s_X3_reckoned_32  hN hK (by omega) (by omega) (by omega) (by omega) (by omega) (by omega) _ (by first | omega | decide) (by first | omega | decide)
  · have fh1 := eqF h1
    refine sIf (fun h3 => ?_) (fun h3 => ?_)
    · have fh3 := eqT h3
      have t7 := addI (a := p2) (b := (1 : Int32)) (by omega) (by omega)
      have t6 := mulV (a := p2) (b := (p2 + (1 : Int32))) (x0 := 0) (y0 := 1) (x := 20) (y := 21) (z0 := 0) (z := 420) (by omega) (by omega) (by omega) (by omega) (by decide) (by decide) (by decide) (by decide) (by decide)
      have t5 := divL (a := (p2 * (p2 + (1 : Int32)))) (b := (2 : Int32)) ql2 (by omega) (by omega)
      have t4 := subI (a := p1) (b := ((p2 * (p2 + (1 : Int32))) / (2 : Int32))) (by omega) (by omega)
      exact s_X3_reckoned_32  hN hK (by omega) (by omega) (by omega) (by omega) (by omega) (by omega) _ (by first | omega | decide) (by first | omega | decide)
    · have fh3 := eqF h3
      exact s_X3_reckoned_32  hN hK (by omega) (by omega) (by omega) (by omega) (by omega) (by omega) _ (by first | omega | decide) (by first | omega | decide)
set_option maxHeartbeats 2000000 in
theorem s_X3_tells {N K : Nat} {g : Nat → Int32} {p0 : Int32} {p1 : Int32} {p2 : Int32} (hN : NBig N) (hK : 100 ≤ K) (hp0 : 0 ≤ p0.toInt) (hp1 : p0.toInt ≤ 7) (hp2 : 0 ≤ p1.toInt) (hp3 : p1.toInt ≤ 20) (hp4 : 0 ≤ p2.toInt) (hp5 : p2.toInt ≤ 20) : Sf (fX3_tells N K g p0 p1 p2) (fun (z : Int32 × (Nat → Int32)) => True) := by
  unfold fX3_tells
  have ql0 : (0 : Int32).toInt = 0 := by decide
  refine sBind (s_X3_reckon hN hK (by first | omega | decide) (by first | omega | decide) (by first | omega | decide) (by first | omega | decide)) (fun x3 b1 => ?_)
  refine sBind (s_X3_reckoned hN hK (by first | omega | decide) (by first | omega | decide) (by first | omega | decide) (by first | omega | decide) (by first | omega | decide) (by first | omega | decide)) (fun x10 b2 => ?_)
  exact sRet trivial
set_option maxHeartbeats 2000000 in
theorem s_X1_size {N K : Nat} {ru : Int32} {sz : Int32} {f : Nat → Int32} (hN : NBig N) (hK : 100 ≤ K)  : Sf (fX1_size N K ru sz f) (fun (z : Int32) => True) := by
  unfold fX1_size
  have ql0 : (0 : Int32).toInt = 0 := by decide
  exact sRet trivial
set_option maxHeartbeats 2000000 in
theorem s_X1_keptWorth {N K : Nat} {ru : Int32} {sz : Int32} {f : Nat → Int32} {p0 : Int32} (hN : NBig N) (hK : 100 ≤ K) (hp0 : 0 ≤ p0.toInt) (hp1 : p0.toInt ≤ 20) : Sf (fX1_keptWorth N K ru sz f p0) (fun (z : Int32) => True) := by
  unfold fX1_keptWorth
  have ql0 : (0 : Int32).toInt = 0 := by decide
  have ql1 : (1 : Int32).toInt = 1 := by decide
  have ql20 : (20 : Int32).toInt = 20 := by decide
  refine sIf (fun h1 => ?_) (fun h1 => ?_)
  · have fh1 := ltT h1
    exact sRet trivial
  · have fh1 := ltF h1
    refine sIf (fun h2 => ?_) (fun h2 => ?_)
    · have fh2 := leT h2
      refine sIfF (noob (by omega) (by omega)) ?_
      exact sRet trivial
    · have fh2 := leF h2
      exfalso; omega
set_option maxHeartbeats 2000000 in
theorem s_X1_keeps {N K : Nat} {ru : Int32} {sz : Int32} {f : Nat → Int32} {p0 : Int32} (hN : NBig N) (hK : 100 ≤ K) (hp0 : 0 ≤ p0.toInt) (hp1 : p0.toInt ≤ 20) : Sf (fX1_keeps N K ru sz f p0) (fun (z : Int32) => 0 ≤ z.toInt ∧ z.toInt ≤ 1 ∧ True) := by
  unfold fX1_keeps
  have ql0 : (0 : Int32).toInt = 0 := by decide
  have ql1 : (1 : Int32).toInt = 1 := by decide
  refine sBind (s_X1_keptWorth hN hK (by first | omega | decide) (by first | omega | decide)) (fun x2 b1 => ?_)
  refine sIf (fun h2 => ?_) (fun h2 => ?_)
  · have fh2 := eqT h2
    rw [show (-1 : Int32).toInt = -1 from by decide] at fh2
    exact sRet ⟨(by show 0 ≤ (0 : Int32).toInt; decide), (by show (0 : Int32).toInt ≤ 1; decide), trivial⟩
  · have fh2 := eqF h2
    rw [show (-1 : Int32).toInt = -1 from by decide] at fh2
    exact sRet ⟨(by show 0 ≤ (1 : Int32).toInt; decide), (by show (1 : Int32).toInt ≤ 1; decide), trivial⟩
set_option maxHeartbeats 2000000 in
theorem s_X1_sumOfDivisors_37 {N K : Nat} {ru : Int32} {sz : Int32} {f : Nat → Int32} {p0 : Int32} (hN : NBig N) (hK : 100 ≤ K) (hp0 : 1 ≤ p0.toInt) (hp1 : p0.toInt ≤ 20) {k_19 : Int32 → Int32 → Int32 → Option (Int32)} {m_19 : Nat} (hk_19 : ∀ (l2 : Int32) (l3 : Int32) (l4 : Int32), (22 - l4.toInt).toNat < m_19 → 1 ≤ l2.toInt → l2.toInt ≤ 2 → 1 ≤ l4.toInt → l4.toInt ≤ 22 → Sf (k_19 l2 l3 l4) (fun (z : Int32) => True)) : ∀ (l2 : Int32) (l3 : Int32) (l4 : Int32), 1 ≤ l2.toInt → l2.toInt ≤ 2 → 1 ≤ l4.toInt → l4.toInt ≤ 20 → (22 - l4.toInt).toNat ≤ m_19 → Sf (fX1_sumOfDivisors_37 N K ru sz f p0 k_19 l2 l3 l4) (fun (z : Int32) => True) := by
  intro l2 l3 l4 hq0 hq1 hq2 hq3 hq4
  unfold fX1_sumOfDivisors_37
  have ql0 : (0 : Int32).toInt = 0 := by decide
  have t1 := addI (a := l4) (b := l2) (by omega) (by omega)
  exact hk_19 _ _ _ (by omega) (by first | omega | decide) (by first | omega | decide) (by first | omega | decide) (by first | omega | decide)
set_option maxHeartbeats 2000000 in
theorem s_X1_sumOfDivisors_19 {N K : Nat} {ru : Int32} {sz : Int32} {f : Nat → Int32} {p0 : Int32} (hN : NBig N) (hK : 100 ≤ K) (hp0 : 1 ≤ p0.toInt) (hp1 : p0.toInt ≤ 20) : ∀ (fu : Nat) (l2 : Int32) (l3 : Int32) (l4 : Int32), (22 - l4.toInt).toNat < fu → 1 ≤ l2.toInt → l2.toInt ≤ 2 → 1 ≤ l4.toInt → l4.toInt ≤ 22 → Sf (fX1_sumOfDivisors_19 N K ru sz f p0  fu l2 l3 l4) (fun (z : Int32) => True) := by
  intro fu
  induction fu with
  | zero => intro l2 l3 l4 h0 hq0 hq1 hq2 hq3; omega
  | succ fu ih =>
    intro l2 l3 l4 h0 hq0 hq1 hq2 hq3
    unfold fX1_sumOfDivisors_19
    have ql0 : (0 : Int32).toInt = 0 := by decide
    refine sIf (fun h1 => ?_) (fun h1 => ?_)
    · have fh1 := ltT h1
      exact sRet trivial
    · have fh1 := ltF h1
      refine sIfF (fun e9 => by have e8 := eqT e9; omega) ?_
      refine sIf (fun h2 => ?_) (fun h2 => ?_)
      · have fh2 := eqT h2
        exact s_X1_sumOfDivisors_37 (hk_19 := ih) hN hK (by omega) (by omega) _ _ _ (by first | omega | decide) (by first | omega | decide) (by first | omega | decide) (by first | omega | decide) (by omega)
      · have fh2 := eqF h2
        exact s_X1_sumOfDivisors_37 (hk_19 := ih) hN hK (by omega) (by omega) _ _ _ (by first | omega | decide) (by first | omega | decide) (by first | omega | decide) (by first | omega | decide) (by omega)
set_option maxHeartbeats 2000000 in
theorem s_X1_sumOfDivisors_13 {N K : Nat} {ru : Int32} {sz : Int32} {f : Nat → Int32} {p0 : Int32} (hN : NBig N) (hK : 100 ≤ K) (hp0 : 1 ≤ p0.toInt) (hp1 : p0.toInt ≤ 20) : ∀ (s0 : Int32), 1 ≤ s0.toInt → s0.toInt ≤ 2 → Sf (fX1_sumOfDivisors_13 N K ru sz f p0  s0) (fun (z : Int32) => True) := by
  intro s0 hq0 hq1
  unfold fX1_sumOfDivisors_13
  have hN9 := hN.u
  have ql0 : (0 : Int32).toInt = 0 := by decide
  have ql1 : (1 : Int32).toInt = 1 := by decide
  exact s_X1_sumOfDivisors_19  hN hK (by omega) (by omega) _ _ _ _ (by omega) (by first | omega | decide) (by first | omega | decide) (by first | omega | decide) (by first | omega | decide)
set_option maxHeartbeats 2000000 in
theorem s_X1_sumOfDivisors {N K : Nat} {ru : Int32} {sz : Int32} {f : Nat → Int32} {p0 : Int32} (hN : NBig N) (hK : 100 ≤ K) (hp0 : 1 ≤ p0.toInt) (hp1 : p0.toInt ≤ 20) : Sf (fX1_sumOfDivisors N K ru sz f p0) (fun (z : Int32) => True) := by
  unfold fX1_sumOfDivisors
  have ql0 : (0 : Int32).toInt = 0 := by decide
  have ql1 : (1 : Int32).toInt = 1 := by decide
  have ql2 : (2 : Int32).toInt = 2 := by decide
  refine sIf (fun h1 => ?_) (fun h1 => ?_)
  · have fh1 := eqT h1
    exact s_X1_sumOfDivisors_13  hN hK (by omega) (by omega) _ (by first | omega | decide) (by first | omega | decide)
  · have fh1 := eqF h1
    exact s_X1_sumOfDivisors_13  hN hK (by omega) (by omega) _ (by first | omega | decide) (by first | omega | decide)
set_option maxHeartbeats 2000000 in
theorem s_X1_mark_31 {N K : Nat} {ru : Int32} {sz : Int32} {f : Nat → Int32} (hN : NBig N) (hK : 100 ≤ K)  {k_4 : Int32 → Int32 → Option (Int32)} {m_4 : Nat} (hk_4 : ∀ (l1 : Int32) (l2 : Int32), (21 - l2.toInt).toNat < m_4 → 1 ≤ l2.toInt → l2.toInt ≤ 21 → Sf (k_4 l1 l2) (fun (z : Int32) => True)) : ∀ (l1 : Int32) (l2 : Int32), 1 ≤ l2.toInt → l2.toInt ≤ 20 → (21 - l2.toInt).toNat ≤ m_4 → Sf (fX1_mark_31 N K ru sz f k_4 l1 l2) (fun (z : Int32) => True) := by
  intro l1 l2 hq0 hq1 hq2
  unfold fX1_mark_31
  have ql0 : (0 : Int32).toInt = 0 := by decide
  have ql1 : (1 : Int32).toInt = 1 := by decide
  have t1 := addI (a := l2) (b := (1 : Int32)) (by omega) (by omega)
  exact hk_4 _ _ (by omega) (by first | omega | decide) (by first | omega | decide)
set_option maxHeartbeats 2000000 in
theorem s_X1_mark_4 {N K : Nat} {ru : Int32} {sz : Int32} {f : Nat → Int32} (hN : NBig N) (hK : 100 ≤ K)  : ∀ (fu : Nat) (l1 : Int32) (l2 : Int32), (21 - l2.toInt).toNat < fu → 1 ≤ l2.toInt → l2.toInt ≤ 21 → Sf (fX1_mark_4 N K ru sz f  fu l1 l2) (fun (z : Int32) => True) := by
  intro fu
  induction fu with
  | zero => intro l1 l2 h0 hq0 hq1; omega
  | succ fu ih =>
    intro l1 l2 h0 hq0 hq1
    unfold fX1_mark_4
    have ql0 : (0 : Int32).toInt = 0 := by decide
    have ql20 : (20 : Int32).toInt = 20 := by decide
    refine sIf (fun h1 => ?_) (fun h1 => ?_)
    · have fh1 := ltT h1
      exact sRet trivial
    · have fh1 := ltF h1
      refine sIfF (noob (by omega) (by omega)) ?_
      refine sIf (fun h2 => ?_) (fun h2 => ?_)
      · have fh2 := eqT h2
        rw [show (-1 : Int32).toInt = -1 from by decide] at fh2
        exact s_X1_mark_31 (hk_4 := ih) hN hK _ _ (by first | omega | decide) (by first | omega | decide) (by omega)
      · have fh2 := eqF h2
        rw [show (-1 : Int32).toInt = -1 from by decide] at fh2
        refine sIfF (noob (by omega) (by omega)) ?_
        exact s_X1_mark_31 (hk_4 := ih) hN hK _ _ (by first | omega | decide) (by first | omega | decide) (by omega)
set_option maxHeartbeats 2000000 in
theorem s_X1_mark {N K : Nat} {ru : Int32} {sz : Int32} {f : Nat → Int32} (hN : NBig N) (hK : 100 ≤ K)  : Sf (fX1_mark N K ru sz f) (fun (z : Int32) => True) := by
  unfold fX1_mark
  have hN9 := hN.u
  have ql0 : (0 : Int32).toInt = 0 := by decide
  have ql1 : (1 : Int32).toInt = 1 := by decide
  exact s_X1_mark_4  hN hK _ _ _ (by omega) (by first | omega | decide) (by first | omega | decide)
set_option maxHeartbeats 2000000 in
theorem s_X1_drop {N K : Nat} {ru : Int32} {sz : Int32} {f : Nat → Int32} {p0 : Int32} (hN : NBig N) (hK : 100 ≤ K) (hp0 : 1 ≤ p0.toInt) (hp1 : p0.toInt ≤ 20) : Sf (fX1_drop N K ru sz f p0) (fun (z : Int32 × (Nat → Int32)) => True) := by
  unfold fX1_drop
  have ql0 : (0 : Int32).toInt = 0 := by decide
  have ql1 : (1 : Int32).toInt = 1 := by decide
  have ql20 : (20 : Int32).toInt = 20 := by decide
  refine sIf (fun h1 => ?_) (fun h1 => ?_)
  · have fh1 := ltT h1
    exfalso; omega
  · have fh1 := ltF h1
    refine sIf (fun h2 => ?_) (fun h2 => ?_)
    · have fh2 := ltT h2
      exfalso; omega
    · have fh2 := ltF h2
      refine sIfF (noob (by omega) (by omega)) ?_
      refine sIf (fun h3 => ?_) (fun h3 => ?_)
      · have fh3 := eqT h3
        rw [show (-1 : Int32).toInt = -1 from by decide] at fh3
        exact sRet trivial
      · have fh3 := eqF h3
        rw [show (-1 : Int32).toInt = -1 from by decide] at fh3
        refine sIfF (noob (by omega) (by omega)) ?_
        exact sRet trivial
set_option maxHeartbeats 2000000 in
theorem s_X1_dropAll {N K : Nat} {ru : Int32} {sz : Int32} {f : Nat → Int32} (hN : NBig N) (hK : 100 ≤ K)  : Sf (fX1_dropAll N K ru sz f) (fun (z : Int32 × Int32 × (Nat → Int32)) => 0 ≤ z.2.1.toInt ∧ z.2.1.toInt ≤ 0 ∧ True) := by
  unfold fX1_dropAll
  have ql0 : (0 : Int32).toInt = 0 := by decide
  refine sBind (s_J_fill hN hK (by first | omega | decide)) (fun x10 b1 => ?_)
  exact sRet ⟨(by show 0 ≤ (0 : Int32).toInt; decide), (by show (0 : Int32).toInt ≤ 0; decide), trivial⟩
set_option maxHeartbeats 2000000 in
theorem s_X1_byPentagons_105 {N K : Nat} {ru : Int32} {sz : Int32} {f : Nat → Int32} {c0 : Int32} {c1 : Int32} {c2 : Int32} {c3 : Int32} {c4 : Int32} {c5 : Int32} {p0 : Int32} {p1 : Int32} {rec : Int32 → Int32 → (Nat → Int32) → Int32 → Int32 → Int32 → Int32 → Int32 → Int32 → Int32 → Int32 → Option (Int32 × Int32 × (Nat → Int32) × Int32 × Int32 × Int32)} {mr : Nat} (hrec : ∀ (ru : Int32) (sz : Int32) (f : Nat → Int32) (c0 : Int32) (c1 : Int32) (c2 : Int32) (c3 : Int32) (c4 : Int32) (c5 : Int32) (p0 : Int32) (p1 : Int32), (46 - p1.toInt).toNat < mr → -19 ≤ p0.toInt → p0.toInt ≤ 20 → 0 ≤ p1.toInt → p1.toInt ≤ 46 → Sf (rec ru sz f c0 c1 c2 c3 c4 c5 p0 p1) (fun (z : Int32 × Int32 × (Nat → Int32) × Int32 × Int32 × Int32) => True)) (hN : NBig N) (hK : 100 ≤ K) (hp0 : 0 ≤ ru.toInt) (hp1 : ru.toInt ≤ 0) (hp2 : 0 ≤ p0.toInt) (hp3 : p0.toInt ≤ 20) (hp4 : 1 ≤ p1.toInt) (hp5 : p1.toInt ≤ 46) (hp6 : (46 - p1.toInt).toNat < mr) {k_6 : Int32 → Int32 → Int32 → (Nat → Int32) → Int32 → Int32 → Int32 → Option (Int32 × Int32 × (Nat → Int32) × Int32 × Int32 × Int32)} {m_6 : Nat} (hk_6 : ∀ (l4 : Int32) (l5 : Int32) (sz_ : Int32) (f_ : (Nat → Int32)) (c1_ : Int32) (c2_ : Int32) (c3_ : Int32), (21 - l5.toInt).toNat < m_6 → 1 ≤ l5.toInt → l5.toInt ≤ 21 → Sf (k_6 l4 l5 sz_ f_ c1_ c2_ c3_) (fun (z : Int32 × Int32 × (Nat → Int32) × Int32 × Int32 × Int32) => True)) : ∀ (l5 : Int32) (s0 : Int32) (s1 : Int32) (sz_ : Int32) (f_ : Nat → Int32) (c1_ : Int32) (c2_ : Int32) (c3_ : Int32), 1 ≤ p0.toInt → p0.toInt ≤ 20 → 1 ≤ l5.toInt → l5.toInt ≤ 20 → (s0.toInt = 0 → 0 ≤ ru.toInt ∧ ru.toInt ≤ 0 ∧ 1 ≤ p0.toInt ∧ p0.toInt ≤ 20 ∧ 1 ≤ p1.toInt ∧ p1.toInt ≤ 46) → (s1.toInt = 0 → 0 ≤ ru.toInt ∧ ru.toInt ≤ 0 ∧ 1 ≤ p0.toInt ∧ p0.toInt ≤ 20 ∧ 1 ≤ p1.toInt ∧ p1.toInt ≤ 46) → (21 - l5.toInt).toNat ≤ m_6 → Sf (fX1_byPentagons_105 N K rec ru sz f c0 c1 c2 c3 c4 c5 p0 p1 k_6 l5 s0 s1 sz_ f_ c1_ c2_ c3_) (fun (z : Int32 × Int32 × (Nat → Int32) × Int32 × Int32 × Int32) => True) := by
  intro l5 s0 s1 sz_ f_ c1_ c2_ c3_ hq0 hq1 hq2 hq3 hq4 hq5 hq6
  unfold fX1_byPentagons_105
  have ql0 : (0 : Int32).toInt = 0 := by decide
  have ql1 : (1 : Int32).toInt = 1 := by decide
  have t2 := addI (a := l5) (b := (1 : Int32)) (by omega) (by omega)
  exact hk_6 _ _ _ _ _ _ _ (by omega) (by first | omega | decide) (by first | omega | decide)
set_option maxHeartbeats 2000000 in
theorem s_X1_byPentagons_88 {N K : Nat} {ru : Int32} {sz : Int32} {f : Nat → Int32} {c0 : Int32} {c1 : Int32} {c2 : Int32} {c3 : Int32} {c4 : Int32} {c5 : Int32} {p0 : Int32} {p1 : Int32} {rec : Int32 → Int32 → (Nat → Int32) → Int32 → Int32 → Int32 → Int32 → Int32 → Int32 → Int32 → Int32 → Option (Int32 × Int32 × (Nat → Int32) × Int32 × Int32 × Int32)} {mr : Nat} (hrec : ∀ (ru : Int32) (sz : Int32) (f : Nat → Int32) (c0 : Int32) (c1 : Int32) (c2 : Int32) (c3 : Int32) (c4 : Int32) (c5 : Int32) (p0 : Int32) (p1 : Int32), (46 - p1.toInt).toNat < mr → -19 ≤ p0.toInt → p0.toInt ≤ 20 → 0 ≤ p1.toInt → p1.toInt ≤ 46 → Sf (rec ru sz f c0 c1 c2 c3 c4 c5 p0 p1) (fun (z : Int32 × Int32 × (Nat → Int32) × Int32 × Int32 × Int32) => True)) (hN : NBig N) (hK : 100 ≤ K) (hp0 : 0 ≤ ru.toInt) (hp1 : ru.toInt ≤ 0) (hp2 : 0 ≤ p0.toInt) (hp3 : p0.toInt ≤ 20) (hp4 : 1 ≤ p1.toInt) (hp5 : p1.toInt ≤ 46) (hp6 : (46 - p1.toInt).toNat < mr) {k_6 : Int32 → Int32 → Int32 → (Nat → Int32) → Int32 → Int32 → Int32 → Option (Int32 × Int32 × (Nat → Int32) × Int32 × Int32 × Int32)} {m_6 : Nat} (hk_6 : ∀ (l4 : Int32) (l5 : Int32) (sz_ : Int32) (f_ : (Nat → Int32)) (c1_ : Int32) (c2_ : Int32) (c3_ : Int32), (21 - l5.toInt).toNat < m_6 → 1 ≤ l5.toInt → l5.toInt ≤ 21 → Sf (k_6 l4 l5 sz_ f_ c1_ c2_ c3_) (fun (z : Int32 × Int32 × (Nat → Int32) × Int32 × Int32 × Int32) => True)) : ∀ (l4 : Int32) (l5 : Int32) (l6 : Int32) (sz_ : Int32) (f_ : Nat → Int32) (c1_ : Int32) (c2_ : Int32) (c3_ : Int32), 1 ≤ p0.toInt → p0.toInt ≤ 20 → 1 ≤ l5.toInt → l5.toInt ≤ 20 → (21 - l5.toInt).toNat ≤ m_6 → Sf (fX1_byPentagons_88 N K rec ru sz f c0 c1 c2 c3 c4 c5 p0 p1 k_6 l4 l5 l6 sz_ f_ c1_ c2_ c3_) (fun (z : Int32 × Int32 × (Nat → Int32) × Int32 × Int32 × Int32) => True) := by
  intro l4 l5 l6 sz_ f_ c1_ c2_ c3_ hq0 hq1 hq2 hq3 hq4
  unfold fX1_byPentagons_88
  have ql0 : (0 : Int32).toInt = 0 := by decide
  have ql2 : (2 : Int32).toInt = 2 := by decide
  refine sIf (fun h1 => ?_) (fun h1 => ?_)
  · have t2 := modL (a := l5) (b := (2 : Int32)) ql2 (by omega)
    have fh1 := eqT h1
    exact s_X1_byPentagons_105 (hrec := hrec) (hk_6 := hk_6) hN hK (by omega) (by omega) (by omega) (by omega) (by omega) (by omega) (by omega) _ _ _ _ _ _ _ _ (by first | omega | decide) (by first | omega | decide) (by first | omega | decide) (by first | omega | decide) (by first | omega | decide) (by first | omega | decide) (by omega)
  · have t4 := modL (a := l5) (b := (2 : Int32)) ql2 (by omega)
    have fh1 := eqF h1
    exact s_X1_byPentagons_105 (hrec := hrec) (hk_6 := hk_6) hN hK (by omega) (by omega) (by omega) (by omega) (by omega) (by omega) (by omega) _ _ _ _ _ _ _ _ (by first | omega | decide) (by first | omega | decide) (by first | omega | decide) (by first | omega | decide) (by first | omega | decide) (by first | omega | decide) (by omega)
set_option maxHeartbeats 2000000 in
theorem s_X1_byPentagons_6 {N K : Nat} {ru : Int32} {sz : Int32} {f : Nat → Int32} {c0 : Int32} {c1 : Int32} {c2 : Int32} {c3 : Int32} {c4 : Int32} {c5 : Int32} {p0 : Int32} {p1 : Int32} {rec : Int32 → Int32 → (Nat → Int32) → Int32 → Int32 → Int32 → Int32 → Int32 → Int32 → Int32 → Int32 → Option (Int32 × Int32 × (Nat → Int32) × Int32 × Int32 × Int32)} {mr : Nat} (hrec : ∀ (ru : Int32) (sz : Int32) (f : Nat → Int32) (c0 : Int32) (c1 : Int32) (c2 : Int32) (c3 : Int32) (c4 : Int32) (c5 : Int32) (p0 : Int32) (p1 : Int32), (46 - p1.toInt).toNat < mr → -19 ≤ p0.toInt → p0.toInt ≤ 20 → 0 ≤ p1.toInt → p1.toInt ≤ 46 → Sf (rec ru sz f c0 c1 c2 c3 c4 c5 p0 p1) (fun (z : Int32 × Int32 × (Nat → Int32) × Int32 × Int32 × Int32) => True)) (hN : NBig N) (hK : 100 ≤ K) (hp0 : 0 ≤ ru.toInt) (hp1 : ru.toInt ≤ 0) (hp2 : 0 ≤ p0.toInt) (hp3 : p0.toInt ≤ 20) (hp4 : 1 ≤ p1.toInt) (hp5 : p1.toInt ≤ 46) (hp6 : (46 - p1.toInt).toNat < mr) : ∀ (fu : Nat) (l4 : Int32) (l5 : Int32) (sz_ : Int32) (f_ : (Nat → Int32)) (c1_ : Int32) (c2_ : Int32) (c3_ : Int32), (21 - l5.toInt).toNat < fu → 1 ≤ l5.toInt → l5.toInt ≤ 21 → Sf (fX1_byPentagons_6 N K rec ru sz f c0 c1 c2 c3 c4 c5 p0 p1  fu l4 l5 sz_ f_ c1_ c2_ c3_) (fun (z : Int32 × Int32 × (Nat → Int32) × Int32 × Int32 × Int32) => True) := by
  intro fu
  induction fu with
  | zero => intro l4 l5 sz_ f_ c1_ c2_ c3_ h0 hq0 hq1; omega
  | succ fu ih =>
    intro l4 l5 sz_ f_ c1_ c2_ c3_ h0 hq0 hq1
    unfold fX1_byPentagons_6
    have ql0 : (0 : Int32).toInt = 0 := by decide
    have ql1 : (1 : Int32).toInt = 1 := by decide
    have ql2 : (2 : Int32).toInt = 2 := by decide
    have ql3 : (3 : Int32).toInt = 3 := by decide
    have ql20 : (20 : Int32).toInt = 20 := by decide
    refine sIf (fun h1 => ?_) (fun h1 => ?_)
    · have fh1 := ltT h1
      exact sRet trivial
    · have fh1 := ltF h1
      refine sIf (fun h2 => ?_) (fun h2 => ?_)
      · have t6 := mulL (a := (3 : Int32)) (b := l5) ql3 (by omega) (by omega)
        have t5 := subI (a := ((3 : Int32) * l5)) (b := (1 : Int32)) (by omega) (by omega)
        have t4 := mulV (a := l5) (b := (((3 : Int32) * l5) - (1 : Int32))) (x0 := 1) (y0 := 2) (x := 20) (y := 59) (z0 := 2) (z := 1180) (by omega) (by omega) (by omega) (by omega) (by decide) (by decide) (by decide) (by decide) (by decide)
        have t3 := divL (a := (l5 * (((3 : Int32) * l5) - (1 : Int32)))) (b := (2 : Int32)) ql2 (by omega) (by omega)
        have fh2 := ltT h2
        exact sRet trivial
      · have t10 := mulL (a := (3 : Int32)) (b := l5) ql3 (by omega) (by omega)
        have t9 := subI (a := ((3 : Int32) * l5)) (b := (1 : Int32)) (by omega) (by omega)
        have t8 := mulV (a := l5) (b := (((3 : Int32) * l5) - (1 : Int32))) (x0 := 1) (y0 := 2) (x := 20) (y := 59) (z0 := 2) (z := 1180) (by omega) (by omega) (by omega) (by omega) (by decide) (by decide) (by decide) (by decide) (by decide)
        have t7 := divL (a := (l5 * (((3 : Int32) * l5) - (1 : Int32)))) (b := (2 : Int32)) ql2 (by omega) (by omega)
        have fh2 := ltF h2
        have t11 := subI (a := p0) (b := ((l5 * (((3 : Int32) * l5) - (1 : Int32))) / (2 : Int32))) (by omega) (by omega)
        refine sBind (hrec _ _ _ _ _ _ _ _ _ _ _ (by omega) (by first | omega | decide) (by first | omega | decide) (by first | omega | decide) (by first | omega | decide)) (fun x44 b12 => ?_)
        refine sIf (fun h13 => ?_) (fun h13 => ?_)
        · have t16 := addI (a := ((3 : Int32) * l5)) (b := (1 : Int32)) (by omega) (by omega)
          have t15 := mulV (a := l5) (b := (((3 : Int32) * l5) + (1 : Int32))) (x0 := 1) (y0 := 4) (x := 20) (y := 61) (z0 := 4) (z := 1220) (by omega) (by omega) (by omega) (by omega) (by decide) (by decide) (by decide) (by decide) (by decide)
          have t14 := divL (a := (l5 * (((3 : Int32) * l5) + (1 : Int32)))) (b := (2 : Int32)) ql2 (by omega) (by omega)
          have fh13 := ltT h13
          exact s_X1_byPentagons_88 (hrec := hrec) (hk_6 := ih) hN hK (by omega) (by omega) (by omega) (by omega) (by omega) (by omega) (by omega) _ _ _ _ _ _ _ _ (by first | omega | decide) (by first | omega | decide) (by first | omega | decide) (by first | omega | decide) (by omega)
        · have t19 := addI (a := ((3 : Int32) * l5)) (b := (1 : Int32)) (by omega) (by omega)
          have t18 := mulV (a := l5) (b := (((3 : Int32) * l5) + (1 : Int32))) (x0 := 1) (y0 := 4) (x := 20) (y := 61) (z0 := 4) (z := 1220) (by omega) (by omega) (by omega) (by omega) (by decide) (by decide) (by decide) (by decide) (by decide)
          have t17 := divL (a := (l5 * (((3 : Int32) * l5) + (1 : Int32)))) (b := (2 : Int32)) ql2 (by omega) (by omega)
          have fh13 := ltF h13
          have t20 := subI (a := p0) (b := ((l5 * (((3 : Int32) * l5) + (1 : Int32))) / (2 : Int32))) (by omega) (by omega)
          refine sBind (hrec _ _ _ _ _ _ _ _ _ _ _ (by omega) (by first | omega | decide) (by first | omega | decide) (by first | omega | decide) (by first | omega | decide)) (fun x82 b21 => ?_)
          exact s_X1_byPentagons_88 (hrec := hrec) (hk_6 := ih) hN hK (by omega) (by omega) (by omega) (by omega) (by omega) (by omega) (by omega) _ _ _ _ _ _ _ _ (by first | omega | decide) (by first | omega | decide) (by first | omega | decide) (by first | omega | decide) (by omega)
set_option maxHeartbeats 2000000 in
theorem s_X1_byPentagons {N K : Nat} {ru : Int32} {sz : Int32} {f : Nat → Int32} {c0 : Int32} {c1 : Int32} {c2 : Int32} {c3 : Int32} {c4 : Int32} {c5 : Int32} {p0 : Int32} {p1 : Int32} {rec : Int32 → Int32 → (Nat → Int32) → Int32 → Int32 → Int32 → Int32 → Int32 → Int32 → Int32 → Int32 → Option (Int32 × Int32 × (Nat → Int32) × Int32 × Int32 × Int32)} {mr : Nat} (hrec : ∀ (ru : Int32) (sz : Int32) (f : Nat → Int32) (c0 : Int32) (c1 : Int32) (c2 : Int32) (c3 : Int32) (c4 : Int32) (c5 : Int32) (p0 : Int32) (p1 : Int32), (46 - p1.toInt).toNat < mr → -19 ≤ p0.toInt → p0.toInt ≤ 20 → 0 ≤ p1.toInt → p1.toInt ≤ 46 → Sf (rec ru sz f c0 c1 c2 c3 c4 c5 p0 p1) (fun (z : Int32 × Int32 × (Nat → Int32) × Int32 × Int32 × Int32) => True)) (hN : NBig N) (hK : 100 ≤ K) (hp0 : 0 ≤ ru.toInt) (hp1 : ru.toInt ≤ 0) (hp2 : 0 ≤ p0.toInt) (hp3 : p0.toInt ≤ 20) (hp4 : 1 ≤ p1.toInt) (hp5 : p1.toInt ≤ 46) (hp6 : (46 - p1.toInt).toNat < mr) : Sf (fX1_byPentagons N K rec ru sz f c0 c1 c2 c3 c4 c5 p0 p1) (fun (z : Int32 × Int32 × (Nat → Int32) × Int32 × Int32 × Int32) => True) := by
  unfold fX1_byPentagons
  have hN9 := hN.u
  have ql0 : (0 : Int32).toInt = 0 := by decide
  have ql1 : (1 : Int32).toInt = 1 := by decide
  exact s_X1_byPentagons_6 (hrec := hrec)  hN hK (by omega) (by omega) (by omega) (by omega) (by omega) (by omega) (by omega) _ _ _ _ _ _ _ _ (by omega) (by first | omega | decide) (by first | omega | decide)
set_option maxHeartbeats 2000000 in
theorem s_X1_byDivisors_13 {N K : Nat} {ru : Int32} {sz : Int32} {f : Nat → Int32} {c0 : Int32} {c1 : Int32} {c2 : Int32} {c3 : Int32} {c4 : Int32} {c5 : Int32} {p0 : Int32} {p1 : Int32} {rec : Int32 → Int32 → (Nat → Int32) → Int32 → Int32 → Int32 → Int32 → Int32 → Int32 → Int32 → Int32 → Option (Int32 × Int32 × (Nat → Int32) × Int32 × Int32 × Int32)} {mr : Nat} (hrec : ∀ (ru : Int32) (sz : Int32) (f : Nat → Int32) (c0 : Int32) (c1 : Int32) (c2 : Int32) (c3 : Int32) (c4 : Int32) (c5 : Int32) (p0 : Int32) (p1 : Int32), (46 - p1.toInt).toNat < mr → -19 ≤ p0.toInt → p0.toInt ≤ 20 → 0 ≤ p1.toInt → p1.toInt ≤ 46 → Sf (rec ru sz f c0 c1 c2 c3 c4 c5 p0 p1) (fun (z : Int32 × Int32 × (Nat → Int32) × Int32 × Int32 × Int32) => True)) (hN : NBig N) (hK : 100 ≤ K) (hp0 : 0 ≤ p0.toInt) (hp1 : p0.toInt ≤ 20) (hp2 : 1 ≤ p1.toInt) (hp3 : p1.toInt ≤ 46) (hp4 : (46 - p1.toInt).toNat < mr) : ∀ (fu : Nat) (l4 : Int32) (l5 : Int32) (sz_ : Int32) (f_ : (Nat → Int32)) (c1_ : Int32) (c2_ : Int32) (c3_ : Int32), (21 - l5.toInt).toNat < fu → 1 ≤ p0.toInt → p0.toInt ≤ 20 → 1 ≤ l5.toInt → l5.toInt ≤ 21 → Sf (fX1_byDivisors_13 N K rec ru sz f c0 c1 c2 c3 c4 c5 p0 p1  fu l4 l5 sz_ f_ c1_ c2_ c3_) (fun (z : Int32 × Int32 × (Nat → Int32) × Int32 × Int32 × Int32) => True) := by
  intro fu
  induction fu with
  | zero => intro l4 l5 sz_ f_ c1_ c2_ c3_ h0 hq0 hq1 hq2 hq3; omega
  | succ fu ih =>
    intro l4 l5 sz_ f_ c1_ c2_ c3_ h0 hq0 hq1 hq2 hq3
    unfold fX1_byDivisors_13
    have ql0 : (0 : Int32).toInt = 0 := by decide
    have ql1 : (1 : Int32).toInt = 1 := by decide
    refine sIf (fun h1 => ?_) (fun h1 => ?_)
    · have fh1 := ltT h1
      refine sIfF (fun e9 => by have e8 := eqT e9; omega) ?_
      exact sRet trivial
    · have fh1 := ltF h1
      have t3 := subI (a := p0) (b := l5) (by omega) (by omega)
      refine sBind (hrec _ _ _ _ _ _ _ _ _ _ _ (by omega) (by first | omega | decide) (by first | omega | decide) (by first | omega | decide) (by first | omega | decide)) (fun x28 b4 => ?_)
      refine sBind (s_X1_sumOfDivisors hN hK (by first | omega | decide) (by first | omega | decide)) (fun x34 b5 => ?_)
      have t7 := addI (a := l5) (b := (1 : Int32)) (by omega) (by omega)
      exact ih _ _ _ _ _ _ _ (by omega) (by first | omega | decide) (by first | omega | decide) (by first | omega | decide) (by first | omega | decide)
set_option maxHeartbeats 2000000 in
theorem s_X1_byDivisors {N K : Nat} {ru : Int32} {sz : Int32} {f : Nat → Int32} {c0 : Int32} {c1 : Int32} {c2 : Int32} {c3 : Int32} {c4 : Int32} {c5 : Int32} {p0 : Int32} {p1 : Int32} {rec : Int32 → Int32 → (Nat → Int32) → Int32 → Int32 → Int32 → Int32 → Int32 → Int32 → Int32 → Int32 → Option (Int32 × Int32 × (Nat → Int32) × Int32 × Int32 × Int32)} {mr : Nat} (hrec : ∀ (ru : Int32) (sz : Int32) (f : Nat → Int32) (c0 : Int32) (c1 : Int32) (c2 : Int32) (c3 : Int32) (c4 : Int32) (c5 : Int32) (p0 : Int32) (p1 : Int32), (46 - p1.toInt).toNat < mr → -19 ≤ p0.toInt → p0.toInt ≤ 20 → 0 ≤ p1.toInt → p1.toInt ≤ 46 → Sf (rec ru sz f c0 c1 c2 c3 c4 c5 p0 p1) (fun (z : Int32 × Int32 × (Nat → Int32) × Int32 × Int32 × Int32) => True)) (hN : NBig N) (hK : 100 ≤ K) (hp0 : 0 ≤ p0.toInt) (hp1 : p0.toInt ≤ 20) (hp2 : 1 ≤ p1.toInt) (hp3 : p1.toInt ≤ 46) (hp4 : (46 - p1.toInt).toNat < mr) : Sf (fX1_byDivisors N K rec ru sz f c0 c1 c2 c3 c4 c5 p0 p1) (fun (z : Int32 × Int32 × (Nat → Int32) × Int32 × Int32 × Int32) => True) := by
  unfold fX1_byDivisors
  have hN9 := hN.u
  have ql0 : (0 : Int32).toInt = 0 := by decide
  have ql1 : (1 : Int32).toInt = 1 := by decide
  refine sIf (fun h1 => ?_) (fun h1 => ?_)
  · have fh1 := leT h1
    exact s_X1_byDivisors_13 (hrec := hrec)  hN hK (by omega) (by omega) (by omega) (by omega) (by omega) _ _ _ _ _ _ _ _ (by omega) (by first | omega | decide) (by first | omega | decide) (by first | omega | decide) (by first | omega | decide)
  · have fh1 := leF h1
    exact sRet trivial
set_option maxHeartbeats 2000000 in
theorem s_X1_worthKnown {N K : Nat}  (hN : NBig N) (hK : 100 ≤ K)  : ∀ (fu : Nat) (ru : Int32) (sz : Int32) (f : (Nat → Int32)) (c0 : Int32) (c1 : Int32) (c2 : Int32) (c3 : Int32) (c4 : Int32) (c5 : Int32) (p0 : Int32) (p1 : Int32), (46 - p1.toInt).toNat < fu → -19 ≤ p0.toInt → p0.toInt ≤ 20 → 0 ≤ p1.toInt → p1.toInt ≤ 46 → Sf (fX1_worthKnown N K fu ru sz f c0 c1 c2 c3 c4 c5 p0 p1) (fun (z : Int32 × Int32 × (Nat → Int32) × Int32 × Int32 × Int32) => True) := by
  intro fu
  induction fu with
  | zero => intro ru sz f c0 c1 c2 c3 c4 c5 p0 p1 h0 hq0 hq1 hq2 hq3; omega
  | succ k ih =>
    intro ru sz f c0 c1 c2 c3 c4 c5 p0 p1 h0 hq0 hq1 hq2 hq3
    unfold fX1_worthKnown
    have ql0 : (0 : Int32).toInt = 0 := by decide
    have ql1 : (1 : Int32).toInt = 1 := by decide
    have ql20 : (20 : Int32).toInt = 20 := by decide
    have ql45 : (45 : Int32).toInt = 45 := by decide
    refine sIf (fun h1 => ?_) (fun h1 => ?_)
    · have fh1 := eqT h1
      exact sRet trivial
    · have fh1 := eqF h1
      refine sIf (fun h2 => ?_) (fun h2 => ?_)
      · have fh2 := ltT h2
        exact sRet trivial
      · have fh2 := ltF h2
        refine sIf (fun h3 => ?_) (fun h3 => ?_)
        · have fh3 := ltT h3
          exfalso; omega
        · have fh3 := ltF h3
          refine sIf (fun h4 => ?_) (fun h4 => ?_)
          · have fh4 := leT h4
            refine sIfF (noob (by omega) (by omega)) ?_
            refine sIf (fun h5 => ?_) (fun h5 => ?_)
            · have fh5 := eqT h5
              rw [show (-1 : Int32).toInt = -1 from by decide] at fh5
              refine sIf (fun h6 => ?_) (fun h6 => ?_)
              · have fh6 := eqT h6
                have t8 := addI (a := p1) (b := (1 : Int32)) (by omega) (by omega)
                refine sBind (s_X1_byPentagons (hrec := ih) hN hK (by first | omega | decide) (by first | omega | decide) (by first | omega | decide) (by first | omega | decide) (by first | omega | decide) (by first | omega | decide) (by omega)) (fun x74 b9 => ?_)
                refine sIfF (noob (by omega) (by omega)) ?_
                exact sRet trivial
              · have fh6 := eqF h6
                have t13 := addI (a := p1) (b := (1 : Int32)) (by omega) (by omega)
                refine sBind (s_X1_byDivisors (hrec := ih) hN hK (by first | omega | decide) (by first | omega | decide) (by first | omega | decide) (by first | omega | decide) (by omega)) (fun x86 b14 => ?_)
                refine sIfF (noob (by omega) (by omega)) ?_
                exact sRet trivial
            · have fh5 := eqF h5
              rw [show (-1 : Int32).toInt = -1 from by decide] at fh5
              refine sIfF (noob (by omega) (by omega)) ?_
              exact sRet trivial
          · have fh4 := leF h4
            exact sRet trivial
set_option maxHeartbeats 2000000 in
theorem s_X1_recall {N K : Nat} {ru : Int32} {sz : Int32} {f : Nat → Int32} {c0 : Int32} {c1 : Int32} {c2 : Int32} {c3 : Int32} {c4 : Int32} {c5 : Int32} {p0 : Int32} (hN : NBig N) (hK : 100 ≤ K) (hp0 : 0 ≤ p0.toInt) (hp1 : p0.toInt ≤ 20) : Sf (fX1_recall N K ru sz f c0 c1 c2 c3 c4 c5 p0) (fun (z : Int32 × Int32 × (Nat → Int32) × Int32 × Int32 × Int32) => True) := by
  unfold fX1_recall
  have ql0 : (0 : Int32).toInt = 0 := by decide
  refine sBind (s_X1_worthKnown hN hK _ _ _ _ _ _ _ _ _ _ _ _ (by omega) (by first | omega | decide) (by first | omega | decide) (by first | omega | decide) (by first | omega | decide)) (fun x4 b1 => ?_)
  exact sRet trivial
set_option maxHeartbeats 2000000 in
theorem s_X5_rests {N K : Nat} {p0 : Int32} {p1 : Int32} (hN : NBig N) (hK : 100 ≤ K)  : Sf (fX5_rests N K p0 p1) (fun (z : Int32) => 0 ≤ z.toInt ∧ z.toInt ≤ 1 ∧ (z.toInt = 0 → (1 ≤ p0.toInt)) ∧ (z.toInt = 0 → p1.toInt ≠ 0) ∧ True) := by
  unfold fX5_rests
  have ql0 : (0 : Int32).toInt = 0 := by decide
  have ql1 : (1 : Int32).toInt = 1 := by decide
  refine sIf (fun h1 => ?_) (fun h1 => ?_)
  · have fh1 := leT h1
    exact sRet ⟨(by show 0 ≤ (1 : Int32).toInt; decide), (by show (1 : Int32).toInt ≤ 1; decide), (by show ((1 : Int32).toInt = 0 → (1 ≤ p0.toInt)); first | omega | assumption), (by show ((1 : Int32).toInt = 0 → p1.toInt ≠ 0); first | omega | assumption), trivial⟩
  · have fh1 := leF h1
    refine sIf (fun h2 => ?_) (fun h2 => ?_)
    · have fh2 := eqT h2
      exact sRet ⟨(by show 0 ≤ (1 : Int32).toInt; decide), (by show (1 : Int32).toInt ≤ 1; decide), (by show ((1 : Int32).toInt = 0 → (1 ≤ p0.toInt)); first | omega | assumption), (by show ((1 : Int32).toInt = 0 → p1.toInt ≠ 0); first | omega | assumption), trivial⟩
    · have fh2 := eqF h2
      exact sRet ⟨(by show 0 ≤ (0 : Int32).toInt; decide), (by show (0 : Int32).toInt ≤ 1; decide), (by show ((0 : Int32).toInt = 0 → (1 ≤ p0.toInt)); first | omega | assumption), (by show ((0 : Int32).toInt = 0 → p1.toInt ≠ 0); first | omega | assumption), trivial⟩
set_option maxHeartbeats 2000000 in
theorem s_X5_restingWorth_16 {N K : Nat} {p0 : Int32} {p1 : Int32} {p2 : Int32} (hN : NBig N) (hK : 100 ≤ K) (hp0 : 0 ≤ p0.toInt) (hp1 : p0.toInt ≤ 5) : 1 ≤ p0.toInt → p0.toInt ≤ 5 → 0 ≤ p1.toInt → p1.toInt ≤ 0 → Sf (fX5_restingWorth_16 N K p0 p1 p2  ) (fun (z : Int32) => 0 ≤ z.toInt ∧ z.toInt ≤ 1 ∧ True) := by
  intro  hq0 hq1 hq2 hq3
  unfold fX5_restingWorth_16
  have ql0 : (0 : Int32).toInt = 0 := by decide
  have ql1 : (1 : Int32).toInt = 1 := by decide
  refine sIf (fun h1 => ?_) (fun h1 => ?_)
  · have fh1 := eqT h1
    exact sRet ⟨(by show 0 ≤ (1 : Int32).toInt; decide), (by show (1 : Int32).toInt ≤ 1; decide), trivial⟩
  · have fh1 := eqF h1
    exact sRet ⟨(by show 0 ≤ (0 : Int32).toInt; decide), (by show (0 : Int32).toInt ≤ 1; decide), trivial⟩
set_option maxHeartbeats 2000000 in
theorem s_X5_restingWorth {N K : Nat} {p0 : Int32} {p1 : Int32} {p2 : Int32} (hN : NBig N) (hK : 100 ≤ K) (hp0 : 0 ≤ p0.toInt) (hp1 : p0.toInt ≤ 5) : Sf (fX5_restingWorth N K p0 p1 p2) (fun (z : Int32) => 0 ≤ z.toInt ∧ z.toInt ≤ 1 ∧ True) := by
  unfold fX5_restingWorth
  have ql0 : (0 : Int32).toInt = 0 := by decide
  have ql1 : (1 : Int32).toInt = 1 := by decide
  have ql5 : (5 : Int32).toInt = 5 := by decide
  refine sIf (fun h1 => ?_) (fun h1 => ?_)
  · have fh1 := eqT h1
    refine sIf (fun h2 => ?_) (fun h2 => ?_)
    · have fh2 := eqT h2
      exact s_X5_restingWorth_16  hN hK (by omega) (by omega)  (by first | omega | decide) (by first | omega | decide) (by first | omega | decide) (by first | omega | decide)
    · have fh2 := eqF h2
      refine sIf (fun h3 => ?_) (fun h3 => ?_)
      · have fh3 := eqT h3
        exact s_X5_restingWorth_16  hN hK (by omega) (by omega)  (by first | omega | decide) (by first | omega | decide) (by first | omega | decide) (by first | omega | decide)
      · have fh3 := eqF h3
        exact sRet ⟨(by show 0 ≤ (1 : Int32).toInt; decide), (by show (1 : Int32).toInt ≤ 1; decide), trivial⟩
  · have fh1 := eqF h1
    exact sRet ⟨(by show 0 ≤ (0 : Int32).toInt; decide), (by show (0 : Int32).toInt ≤ 1; decide), trivial⟩
set_option maxHeartbeats 2000000 in
theorem s_X2_slotOf {N K : Nat} {p0 : Int32} {p1 : Int32} {p2 : Int32} (hN : NBig N) (hK : 100 ≤ K) (hp0 : 0 ≤ p0.toInt) (hp1 : p0.toInt ≤ 5) (hp2 : 0 ≤ p1.toInt) : Sf (fX2_slotOf N K p0 p1 p2) (fun (z : Int32) => -1 ≤ z.toInt ∧ z.toInt ≤ 2645 ∧ True) := by
  unfold fX2_slotOf
  have ql0 : (0 : Int32).toInt = 0 := by decide
  have ql6 : (6 : Int32).toInt = 6 := by decide
  have ql20 : (20 : Int32).toInt = 20 := by decide
  have ql21 : (21 : Int32).toInt = 21 := by decide
  refine sIf (fun h1 => ?_) (fun h1 => ?_)
  · have fh1 := ltT h1
    exfalso; omega
  · have fh1 := ltF h1
    refine sIf (fun h2 => ?_) (fun h2 => ?_)
    · have fh2 := leT h2
      exfalso; omega
    · have fh2 := leF h2
      refine sIf (fun h3 => ?_) (fun h3 => ?_)
      · have fh3 := ltT h3
        exfalso; omega
      · have fh3 := ltF h3
        refine sIf (fun h4 => ?_) (fun h4 => ?_)
        · have fh4 := ltT h4
          exact sRet ⟨(by show -1 ≤ (-1 : Int32).toInt; decide), (by show (-1 : Int32).toInt ≤ 2645; decide), trivial⟩
        · have fh4 := ltF h4
          refine sIf (fun h5 => ?_) (fun h5 => ?_)
          · have fh5 := ltT h5
            exact sRet ⟨(by show -1 ≤ (-1 : Int32).toInt; decide), (by show (-1 : Int32).toInt ≤ 2645; decide), trivial⟩
          · have fh5 := ltF h5
            refine sIf (fun h6 => ?_) (fun h6 => ?_)
            · have fh6 := leT h6
              have t10 := mulR (a := p0) (b := (21 : Int32)) ql21 (by omega) (by omega)
              have t9 := addI (a := (p0 * (21 : Int32))) (b := p1) (by omega) (by omega)
              have t8 := mulR (a := ((p0 * (21 : Int32)) + p1)) (b := (21 : Int32)) ql21 (by omega) (by omega)
              have t7 := addI (a := (((p0 * (21 : Int32)) + p1) * (21 : Int32))) (b := p2) (by omega) (by omega)
              exact sRet ⟨(by show -1 ≤ ((((p0 * (21 : Int32)) + p1) * (21 : Int32)) + p2).toInt; first | omega | assumption), (by show ((((p0 * (21 : Int32)) + p1) * (21 : Int32)) + p2).toInt ≤ 2645; first | omega | assumption), trivial⟩
            · have fh6 := leF h6
              exact sRet ⟨(by show -1 ≤ (-1 : Int32).toInt; decide), (by show (-1 : Int32).toInt ≤ 2645; decide), trivial⟩
set_option maxHeartbeats 2000000 in
theorem s_X2_kindOf {N K : Nat} {p0 : Int32} (hN : NBig N) (hK : 100 ≤ K) (hp0 : 0 ≤ p0.toInt) (hp1 : p0.toInt ≤ 2645) : Sf (fX2_kindOf N K p0) (fun (z : Int32) => 0 ≤ z.toInt ∧ z.toInt ≤ 5 ∧ True) := by
  unfold fX2_kindOf
  have ql0 : (0 : Int32).toInt = 0 := by decide
  have ql441 : (441 : Int32).toInt = 441 := by decide
  have t1 := divL (a := p0) (b := (441 : Int32)) ql441 (by omega) (by omega)
  exact sRet ⟨(by show 0 ≤ (p0 / (441 : Int32)).toInt; first | omega | assumption), (by show (p0 / (441 : Int32)).toInt ≤ 5; first | omega | assumption), trivial⟩
set_option maxHeartbeats 2000000 in
theorem s_X2_numberOf {N K : Nat} {p0 : Int32} (hN : NBig N) (hK : 100 ≤ K) (hp0 : 0 ≤ p0.toInt) (hp1 : p0.toInt ≤ 2645) : Sf (fX2_numberOf N K p0) (fun (z : Int32) => 0 ≤ z.toInt ∧ z.toInt ≤ 20 ∧ True) := by
  unfold fX2_numberOf
  have ql0 : (0 : Int32).toInt = 0 := by decide
  have ql21 : (21 : Int32).toInt = 21 := by decide
  have t2 := divL (a := p0) (b := (21 : Int32)) ql21 (by omega) (by omega)
  have t1 := modL (a := (p0 / (21 : Int32))) (b := (21 : Int32)) ql21 (by omega)
  exact sRet ⟨(by show 0 ≤ ((p0 / (21 : Int32)) % (21 : Int32)).toInt; first | omega | assumption), (by show ((p0 / (21 : Int32)) % (21 : Int32)).toInt ≤ 20; first | omega | assumption), trivial⟩
set_option maxHeartbeats 2000000 in
theorem s_X2_measureOf {N K : Nat} {p0 : Int32} (hN : NBig N) (hK : 100 ≤ K) (hp0 : 0 ≤ p0.toInt) (hp1 : p0.toInt ≤ 2645) : Sf (fX2_measureOf N K p0) (fun (z : Int32) => 0 ≤ z.toInt ∧ z.toInt ≤ 20 ∧ True) := by
  unfold fX2_measureOf
  have ql0 : (0 : Int32).toInt = 0 := by decide
  have ql21 : (21 : Int32).toInt = 21 := by decide
  have t1 := modL (a := p0) (b := (21 : Int32)) ql21 (by omega)
  exact sRet ⟨(by show 0 ≤ (p0 % (21 : Int32)).toInt; first | omega | assumption), (by show (p0 % (21 : Int32)).toInt ≤ 20; first | omega | assumption), trivial⟩
set_option maxHeartbeats 2000000 in
theorem s_X2_codeOf {N K : Nat} {p0 : Int32} (hN : NBig N) (hK : 100 ≤ K) (hp0 : 0 ≤ p0.toInt) (hp1 : p0.toInt ≤ 2645) : Sf (fX2_codeOf N K p0) (fun (z : Int32) => 0 ≤ z.toInt ∧ z.toInt ≤ 5780 ∧ True) := by
  unfold fX2_codeOf
  have ql0 : (0 : Int32).toInt = 0 := by decide
  have ql32 : (32 : Int32).toInt = 32 := by decide
  have ql1024 : (1024 : Int32).toInt = 1024 := by decide
  refine sBind (s_X2_kindOf hN hK (by first | omega | decide) (by first | omega | decide)) (fun x1 b1 => ?_)
  obtain ⟨b1_0, b1_1, -⟩ := b1
  replace b1_0 : 0 ≤ x1.toInt := b1_0
  replace b1_1 : x1.toInt ≤ 5 := b1_1
  refine sBind (s_X2_numberOf hN hK (by first | omega | decide) (by first | omega | decide)) (fun x9 b2 => ?_)
  obtain ⟨b2_0, b2_1, -⟩ := b2
  replace b2_0 : 0 ≤ x9.toInt := b2_0
  replace b2_1 : x9.toInt ≤ 20 := b2_1
  refine sBind (s_X2_measureOf hN hK (by first | omega | decide) (by first | omega | decide)) (fun x17 b3 => ?_)
  obtain ⟨b3_0, b3_1, -⟩ := b3
  replace b3_0 : 0 ≤ x17.toInt := b3_0
  replace b3_1 : x17.toInt ≤ 20 := b3_1
  have t6 := mulR (a := x1) (b := (1024 : Int32)) ql1024 (by omega) (by omega)
  have t7 := mulR (a := x9) (b := (32 : Int32)) ql32 (by omega) (by omega)
  have t5 := addI (a := (x1 * (1024 : Int32))) (b := (x9 * (32 : Int32))) (by omega) (by omega)
  have t4 := addI (a := ((x1 * (1024 : Int32)) + (x9 * (32 : Int32)))) (b := x17) (by omega) (by omega)
  exact sRet ⟨(by show 0 ≤ (((x1 * (1024 : Int32)) + (x9 * (32 : Int32))) + x17).toInt; first | omega | assumption), (by show (((x1 * (1024 : Int32)) + (x9 * (32 : Int32))) + x17).toInt ≤ 5780; first | omega | assumption), trivial⟩
set_option maxHeartbeats 2000000 in
theorem s_X2_size {N K : Nat} {sz : Int32} {f : Nat → Int32} (hN : NBig N) (hK : 100 ≤ K)  : Sf (fX2_size N K sz f) (fun (z : Int32) => True) := by
  unfold fX2_size
  have ql0 : (0 : Int32).toInt = 0 := by decide
  exact sRet trivial
set_option maxHeartbeats 2000000 in
theorem s_X2_keptWorth {N K : Nat} {sz : Int32} {f : Nat → Int32} {p0 : Int32} {p1 : Int32} {p2 : Int32} (hN : NBig N) (hK : 100 ≤ K) (hp0 : 0 ≤ p0.toInt) (hp1 : p0.toInt ≤ 5) (hp2 : 0 ≤ p1.toInt) (hp3 : p1.toInt ≤ 20) (hp4 : 0 ≤ p2.toInt) (hp5 : p2.toInt ≤ 20) : Sf (fX2_keptWorth N K sz f p0 p1 p2) (fun (z : Int32) => True) := by
  unfold fX2_keptWorth
  have ql0 : (0 : Int32).toInt = 0 := by decide
  refine sBind (s_X2_slotOf hN hK (by first | omega | decide) (by first | omega | decide) (by first | omega | decide)) (fun x3 b1 => ?_)
  obtain ⟨b1_0, b1_1, -⟩ := b1
  replace b1_0 : -1 ≤ x3.toInt := b1_0
  replace b1_1 : x3.toInt ≤ 2645 := b1_1
  refine sIf (fun h2 => ?_) (fun h2 => ?_)
  · have fh2 := eqT h2
    rw [show (-1 : Int32).toInt = -1 from by decide] at fh2
    exact sRet trivial
  · have fh2 := eqF h2
    rw [show (-1 : Int32).toInt = -1 from by decide] at fh2
    refine sIfF (noob (by omega) (by omega)) ?_
    exact sRet trivial
set_option maxHeartbeats 2000000 in
theorem s_X2_keeps {N K : Nat} {sz : Int32} {f : Nat → Int32} {p0 : Int32} {p1 : Int32} {p2 : Int32} (hN : NBig N) (hK : 100 ≤ K) (hp0 : 0 ≤ p0.toInt) (hp1 : p0.toInt ≤ 5) (hp2 : 0 ≤ p1.toInt) (hp3 : p1.toInt ≤ 20) (hp4 : 0 ≤ p2.toInt) (hp5 : p2.toInt ≤ 20) : Sf (fX2_keeps N K sz f p0 p1 p2) (fun (z : Int32) => 0 ≤ z.toInt ∧ z.toInt ≤ 1 ∧ True) := by
  unfold fX2_keeps
  have ql0 : (0 : Int32).toInt = 0 := by decide
  have ql1 : (1 : Int32).toInt = 1 := by decide
  refine sBind (s_X2_keptWorth hN hK (by first | omega | decide) (by first | omega | decide) (by first | omega | decide) (by first | omega | decide) (by first | omega | decide) (by first | omega | decide)) (fun x4 b1 => ?_)
  refine sIf (fun h2 => ?_) (fun h2 => ?_)
  · have fh2 := eqT h2
    rw [show (-1 : Int32).toInt = -1 from by decide] at fh2
    exact sRet ⟨(by show 0 ≤ (0 : Int32).toInt; decide), (by show (0 : Int32).toInt ≤ 1; decide), trivial⟩
  · have fh2 := eqF h2
    rw [show (-1 : Int32).toInt = -1 from by decide] at fh2
    exact sRet ⟨(by show 0 ≤ (1 : Int32).toInt; decide), (by show (1 : Int32).toInt ≤ 1; decide), trivial⟩
set_option maxHeartbeats 2000000 in
theorem s_X2_keepsWith {N K : Nat} {sz : Int32} {f : Nat → Int32} {p0 : Int32} {p1 : Int32} {p2 : Int32} {p3 : Int32} (hN : NBig N) (hK : 100 ≤ K) (hp0 : 0 ≤ p0.toInt) (hp1 : p0.toInt ≤ 5) (hp2 : 0 ≤ p1.toInt) (hp3 : p1.toInt ≤ 20) (hp4 : 0 ≤ p2.toInt) (hp5 : p2.toInt ≤ 20) : Sf (fX2_keepsWith N K sz f p0 p1 p2 p3) (fun (z : Int32) => 0 ≤ z.toInt ∧ z.toInt ≤ 1 ∧ True) := by
  unfold fX2_keepsWith
  have ql0 : (0 : Int32).toInt = 0 := by decide
  have ql1 : (1 : Int32).toInt = 1 := by decide
  refine sBind (s_X2_keeps hN hK (by first | omega | decide) (by first | omega | decide) (by first | omega | decide) (by first | omega | decide) (by first | omega | decide) (by first | omega | decide)) (fun x4 b1 => ?_)
  obtain ⟨b1_0, b1_1, -⟩ := b1
  replace b1_0 : 0 ≤ x4.toInt := b1_0
  replace b1_1 : x4.toInt ≤ 1 := b1_1
  refine sIf (fun h2 => ?_) (fun h2 => ?_)
  · have fh2 := eqT h2
    exact sRet ⟨(by show 0 ≤ (0 : Int32).toInt; decide), (by show (0 : Int32).toInt ≤ 1; decide), trivial⟩
  · have fh2 := eqF h2
    refine sBind (s_X2_keptWorth hN hK (by first | omega | decide) (by first | omega | decide) (by first | omega | decide) (by first | omega | decide) (by first | omega | decide) (by first | omega | decide)) (fun x14 b3 => ?_)
    refine sIf (fun h4 => ?_) (fun h4 => ?_)
    · have fh4 := eqT h4
      exact sRet ⟨(by show 0 ≤ (1 : Int32).toInt; decide), (by show (1 : Int32).toInt ≤ 1; decide), trivial⟩
    · have fh4 := eqF h4
      exact sRet ⟨(by show 0 ≤ (0 : Int32).toInt; decide), (by show (0 : Int32).toInt ≤ 1; decide), trivial⟩
set_option maxHeartbeats 2000000 in
theorem s_X2_keep {N K : Nat} {sz : Int32} {f : Nat → Int32} {p0 : Int32} {p1 : Int32} {p2 : Int32} {p3 : Int32} (hN : NBig N) (hK : 100 ≤ K) (hp0 : 0 ≤ p0.toInt) (hp1 : p0.toInt ≤ 5) (hp2 : 0 ≤ p1.toInt) : Sf (fX2_keep N K sz f p0 p1 p2 p3) (fun (z : Int32 × (Nat → Int32)) => True) := by
  unfold fX2_keep
  have ql0 : (0 : Int32).toInt = 0 := by decide
  refine sBind (s_X2_slotOf hN hK (by first | omega | decide) (by first | omega | decide) (by first | omega | decide)) (fun x3 b1 => ?_)
  obtain ⟨b1_0, b1_1, -⟩ := b1
  replace b1_0 : -1 ≤ x3.toInt := b1_0
  replace b1_1 : x3.toInt ≤ 2645 := b1_1
  refine sIf (fun h2 => ?_) (fun h2 => ?_)
  · have fh2 := eqT h2
    rw [show (-1 : Int32).toInt = -1 from by decide] at fh2
    exact sRet trivial
  · have fh2 := eqF h2
    rw [show (-1 : Int32).toInt = -1 from by decide] at fh2
    refine sIfF (noob (by omega) (by omega)) ?_
    refine sIf (fun h3 => ?_) (fun h3 => ?_)
    · have fh3 := eqT h3
      rw [show (-1 : Int32).toInt = -1 from by decide] at fh3
      refine sIfF (noob (by omega) (by omega)) ?_
      exact sRet trivial
    · have fh3 := eqF h3
      rw [show (-1 : Int32).toInt = -1 from by decide] at fh3
      refine sIfF (noob (by omega) (by omega)) ?_
      exact sRet trivial
set_option maxHeartbeats 2000000 in
theorem s_X2_drop {N K : Nat} {sz : Int32} {f : Nat → Int32} {p0 : Int32} {p1 : Int32} {p2 : Int32} (hN : NBig N) (hK : 100 ≤ K) (hp0 : 0 ≤ p0.toInt) (hp1 : p0.toInt ≤ 5) (hp2 : 0 ≤ p1.toInt) (hp3 : p1.toInt ≤ 20) (hp4 : 0 ≤ p2.toInt) (hp5 : p2.toInt ≤ 20) : Sf (fX2_drop N K sz f p0 p1 p2) (fun (z : Int32 × (Nat → Int32)) => True) := by
  unfold fX2_drop
  have ql0 : (0 : Int32).toInt = 0 := by decide
  refine sBind (s_X2_slotOf hN hK (by first | omega | decide) (by first | omega | decide) (by first | omega | decide)) (fun x3 b1 => ?_)
  obtain ⟨b1_0, b1_1, -⟩ := b1
  replace b1_0 : -1 ≤ x3.toInt := b1_0
  replace b1_1 : x3.toInt ≤ 2645 := b1_1
  refine sIf (fun h2 => ?_) (fun h2 => ?_)
  · have fh2 := eqT h2
    rw [show (-1 : Int32).toInt = -1 from by decide] at fh2
    exact sRet trivial
  · have fh2 := eqF h2
    rw [show (-1 : Int32).toInt = -1 from by decide] at fh2
    refine sIfF (noob (by omega) (by omega)) ?_
    refine sIf (fun h3 => ?_) (fun h3 => ?_)
    · have fh3 := eqT h3
      rw [show (-1 : Int32).toInt = -1 from by decide] at fh3
      exact sRet trivial
    · have fh3 := eqF h3
      rw [show (-1 : Int32).toInt = -1 from by decide] at fh3
      refine sIfF (noob (by omega) (by omega)) ?_
      exact sRet trivial
set_option maxHeartbeats 2000000 in
theorem s_X2_aspect {N K : Nat} {sz : Int32} {f : Nat → Int32} {p0 : Int32} {p1 : Int32} (hN : NBig N) (hK : 100 ≤ K) (hp0 : 0 ≤ p0.toInt) (hp1 : p0.toInt ≤ 2645) (hp2 : 0 ≤ p1.toInt) (hp3 : p1.toInt ≤ 3) : Sf (fX2_aspect N K sz f p0 p1) (fun (z : Int32) => True) := by
  unfold fX2_aspect
  have ql0 : (0 : Int32).toInt = 0 := by decide
  have ql1 : (1 : Int32).toInt = 1 := by decide
  have ql2 : (2 : Int32).toInt = 2 := by decide
  have ql2646 : (2646 : Int32).toInt = 2646 := by decide
  refine sIf (fun h1 => ?_) (fun h1 => ?_)
  · have fh1 := eqT h1
    refine sBind (s_X2_kindOf hN hK (by first | omega | decide) (by first | omega | decide)) (fun x29 b2 => ?_)
    obtain ⟨b2_0, b2_1, -⟩ := b2
    replace b2_0 : 0 ≤ x29.toInt := b2_0
    replace b2_1 : x29.toInt ≤ 5 := b2_1
    exact sRet trivial
  · have fh1 := eqF h1
    refine sIf (fun h3 => ?_) (fun h3 => ?_)
    · have fh3 := eqT h3
      refine sBind (s_X2_numberOf hN hK (by first | omega | decide) (by first | omega | decide)) (fun x34 b4 => ?_)
      obtain ⟨b4_0, b4_1, -⟩ := b4
      replace b4_0 : 0 ≤ x34.toInt := b4_0
      replace b4_1 : x34.toInt ≤ 20 := b4_1
      exact sRet trivial
    · have fh3 := eqF h3
      refine sIf (fun h5 => ?_) (fun h5 => ?_)
      · have fh5 := eqT h5
        refine sBind (s_X2_measureOf hN hK (by first | omega | decide) (by first | omega | decide)) (fun x39 b6 => ?_)
        obtain ⟨b6_0, b6_1, -⟩ := b6
        replace b6_0 : 0 ≤ x39.toInt := b6_0
        replace b6_1 : x39.toInt ≤ 20 := b6_1
        exact sRet trivial
      · have fh5 := eqF h5
        refine sIf (fun h7 => ?_) (fun h7 => ?_)
        · have fh7 := ltT h7
          exfalso; omega
        · have fh7 := ltF h7
          refine sIf (fun h8 => ?_) (fun h8 => ?_)
          · have fh8 := ltT h8
            refine sIfF (noob (by omega) (by omega)) ?_
            exact sRet trivial
          · have fh8 := ltF h8
            exfalso; omega
set_option maxHeartbeats 2000000 in
theorem s_X2_dropEach_46 {N K : Nat} {sz : Int32} {f : Nat → Int32} {p0 : Int32} {p1 : Int32} (hN : NBig N) (hK : 100 ≤ K) (hp0 : 0 ≤ p0.toInt) (hp1 : p0.toInt ≤ 3) {k_5 : Int32 → Int32 → Int32 → (Nat → Int32) → Option (Int32 × Int32 × (Nat → Int32))} {m_5 : Nat} (hk_5 : ∀ (l3 : Int32) (l4 : Int32) (sz_ : Int32) (f_ : (Nat → Int32)), (2646 - l4.toInt).toNat < m_5 → 0 ≤ l4.toInt → l4.toInt ≤ 2646 → Sf (k_5 l3 l4 sz_ f_) (fun (z : Int32 × Int32 × (Nat → Int32)) => True)) : ∀ (l3 : Int32) (l4 : Int32) (sz_ : Int32) (f_ : Nat → Int32), 0 ≤ l4.toInt → l4.toInt ≤ 2645 → (2646 - l4.toInt).toNat ≤ m_5 → Sf (fX2_dropEach_46 N K sz f p0 p1 k_5 l3 l4 sz_ f_) (fun (z : Int32 × Int32 × (Nat → Int32)) => True) := by
  intro l3 l4 sz_ f_ hq0 hq1 hq2
  unfold fX2_dropEach_46
  have ql0 : (0 : Int32).toInt = 0 := by decide
  have ql1 : (1 : Int32).toInt = 1 := by decide
  have t1 := addI (a := l4) (b := (1 : Int32)) (by omega) (by omega)
  exact hk_5 _ _ _ _ (by omega) (by first | omega | decide) (by first | omega | decide)
set_option maxHeartbeats 2000000 in
theorem s_X2_dropEach_5 {N K : Nat} {sz : Int32} {f : Nat → Int32} {p0 : Int32} {p1 : Int32} (hN : NBig N) (hK : 100 ≤ K) (hp0 : 0 ≤ p0.toInt) (hp1 : p0.toInt ≤ 3) : ∀ (fu : Nat) (l3 : Int32) (l4 : Int32) (sz_ : Int32) (f_ : (Nat → Int32)), (2646 - l4.toInt).toNat < fu → 0 ≤ l4.toInt → l4.toInt ≤ 2646 → Sf (fX2_dropEach_5 N K sz f p0 p1  fu l3 l4 sz_ f_) (fun (z : Int32 × Int32 × (Nat → Int32)) => True) := by
  intro fu
  induction fu with
  | zero => intro l3 l4 sz_ f_ h0 hq0 hq1; omega
  | succ fu ih =>
    intro l3 l4 sz_ f_ h0 hq0 hq1
    unfold fX2_dropEach_5
    have ql0 : (0 : Int32).toInt = 0 := by decide
    have ql2646 : (2646 : Int32).toInt = 2646 := by decide
    refine sIf (fun h1 => ?_) (fun h1 => ?_)
    · have fh1 := leT h1
      exact sRet trivial
    · have fh1 := leF h1
      refine sIfF (noob (by omega) (by omega)) ?_
      refine sIf (fun h3 => ?_) (fun h3 => ?_)
      · have fh3 := eqT h3
        rw [show (-1 : Int32).toInt = -1 from by decide] at fh3
        exact s_X2_dropEach_46 (hk_5 := ih) hN hK (by omega) (by omega) _ _ _ _ (by first | omega | decide) (by first | omega | decide) (by omega)
      · have fh3 := eqF h3
        rw [show (-1 : Int32).toInt = -1 from by decide] at fh3
        refine sBind (s_X2_aspect hN hK (by first | omega | decide) (by first | omega | decide) (by first | omega | decide) (by first | omega | decide)) (fun x28 b4 => ?_)
        refine sIf (fun h5 => ?_) (fun h5 => ?_)
        · have fh5 := eqT h5
          refine sIfF (noob (by omega) (by omega)) ?_
          exact s_X2_dropEach_46 (hk_5 := ih) hN hK (by omega) (by omega) _ _ _ _ (by first | omega | decide) (by first | omega | decide) (by omega)
        · have fh5 := eqF h5
          exact s_X2_dropEach_46 (hk_5 := ih) hN hK (by omega) (by omega) _ _ _ _ (by first | omega | decide) (by first | omega | decide) (by omega)

end MG_50bsafe
section MG_50csafe
set_option maxHeartbeats 2000000 in
theorem s_X2_dropEach {N K : Nat} {sz : Int32} {f : Nat → Int32} {p0 : Int32} {p1 : Int32} (hN : NBig N) (hK : 100 ≤ K) (hp0 : 0 ≤ p0.toInt) (hp1 : p0.toInt ≤ 3) : Sf (fX2_dropEach N K sz f p0 p1) (fun (z : Int32 × Int32 × (Nat → Int32)) => True) := by
  unfold fX2_dropEach
  have hN9 := hN.u
  have ql0 : (0 : Int32).toInt = 0 := by decide
  exact s_X2_dropEach_5  hN hK (by omega) (by omega) _ _ _ _ _ (by omega) (by first | omega | decide) (by first | omega | decide)
set_option maxHeartbeats 2000000 in
theorem s_X2_dropAll {N K : Nat} {sz : Int32} {f : Nat → Int32} (hN : NBig N) (hK : 100 ≤ K)  : Sf (fX2_dropAll N K sz f) (fun (z : Int32 × Int32 × (Nat → Int32)) => 0 ≤ z.2.1.toInt ∧ z.2.1.toInt ≤ 0 ∧ True) := by
  unfold fX2_dropAll
  have ql0 : (0 : Int32).toInt = 0 := by decide
  refine sBind (s_J_fill hN hK (by first | omega | decide)) (fun x10 b1 => ?_)
  exact sRet ⟨(by show 0 ≤ (0 : Int32).toInt; decide), (by show (0 : Int32).toInt ≤ 0; decide), trivial⟩
set_option maxHeartbeats 2000000 in
theorem s_X2_howMany_38 {N K : Nat} {sz : Int32} {f : Nat → Int32} {p0 : Int32} {p1 : Int32} (hN : NBig N) (hK : 100 ≤ K) (hp0 : 0 ≤ p0.toInt) (hp1 : p0.toInt ≤ 3) {k_5 : Int32 → Int32 → Option (Int32)} {m_5 : Nat} (hk_5 : ∀ (l3 : Int32) (l4 : Int32), (2646 - l4.toInt).toNat < m_5 → 0 ≤ l4.toInt → l4.toInt ≤ 2646 → Sf (k_5 l3 l4) (fun (z : Int32) => True)) : ∀ (l3 : Int32) (l4 : Int32), 0 ≤ l4.toInt → l4.toInt ≤ 2645 → (2646 - l4.toInt).toNat ≤ m_5 → Sf (fX2_howMany_38 N K sz f p0 p1 k_5 l3 l4) (fun (z : Int32) => True) := by
  intro l3 l4 hq0 hq1 hq2
  unfold fX2_howMany_38
  have ql0 : (0 : Int32).toInt = 0 := by decide
  have ql1 : (1 : Int32).toInt = 1 := by decide
  have t1 := addI (a := l4) (b := (1 : Int32)) (by omega) (by omega)
  exact hk_5 _ _ (by omega) (by first | omega | decide) (by first | omega | decide)
set_option maxHeartbeats 2000000 in
theorem s_X2_howMany_5 {N K : Nat} {sz : Int32} {f : Nat → Int32} {p0 : Int32} {p1 : Int32} (hN : NBig N) (hK : 100 ≤ K) (hp0 : 0 ≤ p0.toInt) (hp1 : p0.toInt ≤ 3) : ∀ (fu : Nat) (l3 : Int32) (l4 : Int32), (2646 - l4.toInt).toNat < fu → 0 ≤ l4.toInt → l4.toInt ≤ 2646 → Sf (fX2_howMany_5 N K sz f p0 p1  fu l3 l4) (fun (z : Int32) => True) := by
  intro fu
  induction fu with
  | zero => intro l3 l4 h0 hq0 hq1; omega
  | succ fu ih =>
    intro l3 l4 h0 hq0 hq1
    unfold fX2_howMany_5
    have ql0 : (0 : Int32).toInt = 0 := by decide
    have ql2646 : (2646 : Int32).toInt = 2646 := by decide
    refine sIf (fun h1 => ?_) (fun h1 => ?_)
    · have fh1 := leT h1
      exact sRet trivial
    · have fh1 := leF h1
      refine sIfF (noob (by omega) (by omega)) ?_
      refine sIf (fun h2 => ?_) (fun h2 => ?_)
      · have fh2 := eqT h2
        rw [show (-1 : Int32).toInt = -1 from by decide] at fh2
        exact s_X2_howMany_38 (hk_5 := ih) hN hK (by omega) (by omega) _ _ (by first | omega | decide) (by first | omega | decide) (by omega)
      · have fh2 := eqF h2
        rw [show (-1 : Int32).toInt = -1 from by decide] at fh2
        refine sBind (s_X2_aspect hN hK (by first | omega | decide) (by first | omega | decide) (by first | omega | decide) (by first | omega | decide)) (fun x28 b3 => ?_)
        refine sIf (fun h4 => ?_) (fun h4 => ?_)
        · have fh4 := eqT h4
          exact s_X2_howMany_38 (hk_5 := ih) hN hK (by omega) (by omega) _ _ (by first | omega | decide) (by first | omega | decide) (by omega)
        · have fh4 := eqF h4
          exact s_X2_howMany_38 (hk_5 := ih) hN hK (by omega) (by omega) _ _ (by first | omega | decide) (by first | omega | decide) (by omega)
set_option maxHeartbeats 2000000 in
theorem s_X2_howMany {N K : Nat} {sz : Int32} {f : Nat → Int32} {p0 : Int32} {p1 : Int32} (hN : NBig N) (hK : 100 ≤ K) (hp0 : 0 ≤ p0.toInt) (hp1 : p0.toInt ≤ 3) : Sf (fX2_howMany N K sz f p0 p1) (fun (z : Int32) => True) := by
  unfold fX2_howMany
  have hN9 := hN.u
  have ql0 : (0 : Int32).toInt = 0 := by decide
  exact s_X2_howMany_5  hN hK (by omega) (by omega) _ _ _ (by omega) (by first | omega | decide) (by first | omega | decide)
set_option maxHeartbeats 2000000 in
theorem s_X2_mark_35 {N K : Nat} {sz : Int32} {f : Nat → Int32} (hN : NBig N) (hK : 100 ≤ K)  {k_4 : Int32 → Int32 → Option (Int32)} {m_4 : Nat} (hk_4 : ∀ (l1 : Int32) (l2 : Int32), (2646 - l2.toInt).toNat < m_4 → 0 ≤ l2.toInt → l2.toInt ≤ 2646 → Sf (k_4 l1 l2) (fun (z : Int32) => True)) : ∀ (l1 : Int32) (l2 : Int32), 0 ≤ l2.toInt → l2.toInt ≤ 2645 → (2646 - l2.toInt).toNat ≤ m_4 → Sf (fX2_mark_35 N K sz f k_4 l1 l2) (fun (z : Int32) => True) := by
  intro l1 l2 hq0 hq1 hq2
  unfold fX2_mark_35
  have ql0 : (0 : Int32).toInt = 0 := by decide
  have ql1 : (1 : Int32).toInt = 1 := by decide
  have t1 := addI (a := l2) (b := (1 : Int32)) (by omega) (by omega)
  exact hk_4 _ _ (by omega) (by first | omega | decide) (by first | omega | decide)
set_option maxHeartbeats 2000000 in
theorem s_X2_mark_4 {N K : Nat} {sz : Int32} {f : Nat → Int32} (hN : NBig N) (hK : 100 ≤ K)  : ∀ (fu : Nat) (l1 : Int32) (l2 : Int32), (2646 - l2.toInt).toNat < fu → 0 ≤ l2.toInt → l2.toInt ≤ 2646 → Sf (fX2_mark_4 N K sz f  fu l1 l2) (fun (z : Int32) => True) := by
  intro fu
  induction fu with
  | zero => intro l1 l2 h0 hq0 hq1; omega
  | succ fu ih =>
    intro l1 l2 h0 hq0 hq1
    unfold fX2_mark_4
    have ql0 : (0 : Int32).toInt = 0 := by decide
    have ql2646 : (2646 : Int32).toInt = 2646 := by decide
    refine sIf (fun h1 => ?_) (fun h1 => ?_)
    · have fh1 := leT h1
      exact sRet trivial
    · have fh1 := leF h1
      refine sIfF (noob (by omega) (by omega)) ?_
      refine sIf (fun h2 => ?_) (fun h2 => ?_)
      · have fh2 := eqT h2
        rw [show (-1 : Int32).toInt = -1 from by decide] at fh2
        exact s_X2_mark_35 (hk_4 := ih) hN hK _ _ (by first | omega | decide) (by first | omega | decide) (by omega)
      · have fh2 := eqF h2
        rw [show (-1 : Int32).toInt = -1 from by decide] at fh2
        refine sBind (s_X2_codeOf hN hK (by first | omega | decide) (by first | omega | decide)) (fun x23 b3 => ?_)
        obtain ⟨b3_0, b3_1, -⟩ := b3
        replace b3_0 : 0 ≤ x23.toInt := b3_0
        replace b3_1 : x23.toInt ≤ 5780 := b3_1
        refine sIfF (noob (by omega) (by omega)) ?_
        exact s_X2_mark_35 (hk_4 := ih) hN hK _ _ (by first | omega | decide) (by first | omega | decide) (by omega)
set_option maxHeartbeats 2000000 in
theorem s_X2_mark {N K : Nat} {sz : Int32} {f : Nat → Int32} (hN : NBig N) (hK : 100 ≤ K)  : Sf (fX2_mark N K sz f) (fun (z : Int32) => True) := by
  unfold fX2_mark
  have hN9 := hN.u
  have ql0 : (0 : Int32).toInt = 0 := by decide
  exact s_X2_mark_4  hN hK _ _ _ (by omega) (by first | omega | decide) (by first | omega | decide)
set_option maxHeartbeats 2000000 in
theorem s_X2_sumOfWorths_30 {N K : Nat} {sz : Int32} {f : Nat → Int32} (hN : NBig N) (hK : 100 ≤ K)  {k_4 : Int32 → Int32 → Option (Int32)} {m_4 : Nat} (hk_4 : ∀ (l1 : Int32) (l2 : Int32), (2646 - l2.toInt).toNat < m_4 → 0 ≤ l2.toInt → l2.toInt ≤ 2646 → Sf (k_4 l1 l2) (fun (z : Int32) => True)) : ∀ (l1 : Int32) (l2 : Int32), 0 ≤ l2.toInt → l2.toInt ≤ 2645 → (2646 - l2.toInt).toNat ≤ m_4 → Sf (fX2_sumOfWorths_30 N K sz f k_4 l1 l2) (fun (z : Int32) => True) := by
  intro l1 l2 hq0 hq1 hq2
  unfold fX2_sumOfWorths_30
  have ql0 : (0 : Int32).toInt = 0 := by decide
  have ql1 : (1 : Int32).toInt = 1 := by decide
  have t1 := addI (a := l2) (b := (1 : Int32)) (by omega) (by omega)
  exact hk_4 _ _ (by omega) (by first | omega | decide) (by first | omega | decide)
set_option maxHeartbeats 2000000 in
theorem s_X2_sumOfWorths_4 {N K : Nat} {sz : Int32} {f : Nat → Int32} (hN : NBig N) (hK : 100 ≤ K)  : ∀ (fu : Nat) (l1 : Int32) (l2 : Int32), (2646 - l2.toInt).toNat < fu → 0 ≤ l2.toInt → l2.toInt ≤ 2646 → Sf (fX2_sumOfWorths_4 N K sz f  fu l1 l2) (fun (z : Int32) => True) := by
  intro fu
  induction fu with
  | zero => intro l1 l2 h0 hq0 hq1; omega
  | succ fu ih =>
    intro l1 l2 h0 hq0 hq1
    unfold fX2_sumOfWorths_4
    have ql0 : (0 : Int32).toInt = 0 := by decide
    have ql2646 : (2646 : Int32).toInt = 2646 := by decide
    refine sIf (fun h1 => ?_) (fun h1 => ?_)
    · have fh1 := leT h1
      exact sRet trivial
    · have fh1 := leF h1
      refine sIfF (noob (by omega) (by omega)) ?_
      refine sIf (fun h2 => ?_) (fun h2 => ?_)
      · have fh2 := eqT h2
        rw [show (-1 : Int32).toInt = -1 from by decide] at fh2
        exact s_X2_sumOfWorths_30 (hk_4 := ih) hN hK _ _ (by first | omega | decide) (by first | omega | decide) (by omega)
      · have fh2 := eqF h2
        rw [show (-1 : Int32).toInt = -1 from by decide] at fh2
        refine sIfF (noob (by omega) (by omega)) ?_
        exact s_X2_sumOfWorths_30 (hk_4 := ih) hN hK _ _ (by first | omega | decide) (by first | omega | decide) (by omega)
set_option maxHeartbeats 2000000 in
theorem s_X2_sumOfWorths {N K : Nat} {sz : Int32} {f : Nat → Int32} (hN : NBig N) (hK : 100 ≤ K)  : Sf (fX2_sumOfWorths N K sz f) (fun (z : Int32) => True) := by
  unfold fX2_sumOfWorths
  have hN9 := hN.u
  have ql0 : (0 : Int32).toInt = 0 := by decide
  exact s_X2_sumOfWorths_4  hN hK _ _ _ (by omega) (by first | omega | decide) (by first | omega | decide)
set_option maxHeartbeats 2000000 in
theorem s_X2_isWellCounted_40 {N K : Nat} {sz : Int32} {f : Nat → Int32} (hN : NBig N) (hK : 100 ≤ K)  {k_4 : Int32 → Int32 → Option (Int32)} {m_4 : Nat} (hk_4 : ∀ (l1 : Int32) (l2 : Int32), (2646 - l2.toInt).toNat < m_4 → 0 ≤ l2.toInt → l2.toInt ≤ 2646 → Sf (k_4 l1 l2) (fun (z : Int32) => 0 ≤ z.toInt ∧ z.toInt ≤ 1 ∧ True)) : ∀ (l1 : Int32) (l2 : Int32), 0 ≤ l2.toInt → l2.toInt ≤ 2645 → (2646 - l2.toInt).toNat ≤ m_4 → Sf (fX2_isWellCounted_40 N K sz f k_4 l1 l2) (fun (z : Int32) => 0 ≤ z.toInt ∧ z.toInt ≤ 1 ∧ True) := by
  intro l1 l2 hq0 hq1 hq2
  unfold fX2_isWellCounted_40
  have ql0 : (0 : Int32).toInt = 0 := by decide
  have ql1 : (1 : Int32).toInt = 1 := by decide
  have t1 := addI (a := l2) (b := (1 : Int32)) (by omega) (by omega)
  exact hk_4 _ _ (by omega) (by first | omega | decide) (by first | omega | decide)
set_option maxHeartbeats 2000000 in
theorem s_X2_isWellCounted_4 {N K : Nat} {sz : Int32} {f : Nat → Int32} (hN : NBig N) (hK : 100 ≤ K)  : ∀ (fu : Nat) (l1 : Int32) (l2 : Int32), (2646 - l2.toInt).toNat < fu → 0 ≤ l2.toInt → l2.toInt ≤ 2646 → Sf (fX2_isWellCounted_4 N K sz f  fu l1 l2) (fun (z : Int32) => 0 ≤ z.toInt ∧ z.toInt ≤ 1 ∧ True) := by
  intro fu
  induction fu with
  | zero => intro l1 l2 h0 hq0 hq1; omega
  | succ fu ih =>
    intro l1 l2 h0 hq0 hq1
    unfold fX2_isWellCounted_4
    have ql0 : (0 : Int32).toInt = 0 := by decide
    have ql1 : (1 : Int32).toInt = 1 := by decide
    have ql2646 : (2646 : Int32).toInt = 2646 := by decide
    refine sIf (fun h1 => ?_) (fun h1 => ?_)
    · have fh1 := leT h1
      refine sIf (fun h2 => ?_) (fun h2 => ?_)
      · have fh2 := eqT h2
        exact sRet ⟨(by show 0 ≤ (1 : Int32).toInt; decide), (by show (1 : Int32).toInt ≤ 1; decide), trivial⟩
      · have fh2 := eqF h2
        exact sRet ⟨(by show 0 ≤ (0 : Int32).toInt; decide), (by show (0 : Int32).toInt ≤ 1; decide), trivial⟩
    · have fh1 := leF h1
      refine sIfF (noob (by omega) (by omega)) ?_
      refine sIf (fun h3 => ?_) (fun h3 => ?_)
      · have fh3 := eqT h3
        rw [show (-1 : Int32).toInt = -1 from by decide] at fh3
        exact s_X2_isWellCounted_40 (hk_4 := ih) hN hK _ _ (by first | omega | decide) (by first | omega | decide) (by omega)
      · have fh3 := eqF h3
        rw [show (-1 : Int32).toInt = -1 from by decide] at fh3
        refine sBind (s_X2_numberOf hN hK (by first | omega | decide) (by first | omega | decide)) (fun x22 b4 => ?_)
        obtain ⟨b4_0, b4_1, -⟩ := b4
        replace b4_0 : 0 ≤ x22.toInt := b4_0
        replace b4_1 : x22.toInt ≤ 20 := b4_1
        refine sBind (s_X2_measureOf hN hK (by first | omega | decide) (by first | omega | decide)) (fun x26 b5 => ?_)
        obtain ⟨b5_0, b5_1, -⟩ := b5
        replace b5_0 : 0 ≤ x26.toInt := b5_0
        replace b5_1 : x26.toInt ≤ 20 := b5_1
        refine sBind (s_X5_rests hN hK) (fun x29 b6 => ?_)
        obtain ⟨b6_0, b6_1, b6_2, b6_3, -⟩ := b6
        replace b6_0 : 0 ≤ x29.toInt := b6_0
        replace b6_1 : x29.toInt ≤ 1 := b6_1
        replace b6_2 : (x29.toInt = 0 → (1 ≤ x22.toInt)) := b6_2
        replace b6_3 : (x29.toInt = 0 → x26.toInt ≠ 0) := b6_3
        refine sIf (fun h7 => ?_) (fun h7 => ?_)
        · have fh7 := eqT h7
          exact s_X2_isWellCounted_40 (hk_4 := ih) hN hK _ _ (by first | omega | decide) (by first | omega | decide) (by omega)
        · have fh7 := eqF h7
          exact sRet ⟨(by show 0 ≤ (0 : Int32).toInt; decide), (by show (0 : Int32).toInt ≤ 1; decide), trivial⟩
set_option maxHeartbeats 2000000 in
theorem s_X2_isWellCounted {N K : Nat} {sz : Int32} {f : Nat → Int32} (hN : NBig N) (hK : 100 ≤ K)  : Sf (fX2_isWellCounted N K sz f) (fun (z : Int32) => 0 ≤ z.toInt ∧ z.toInt ≤ 1 ∧ True) := by
  unfold fX2_isWellCounted
  have hN9 := hN.u
  have ql0 : (0 : Int32).toInt = 0 := by decide
  exact s_X2_isWellCounted_4  hN hK _ _ _ (by omega) (by first | omega | decide) (by first | omega | decide)
set_option maxHeartbeats 2000000 in
theorem s_X2_become {N K : Nat} {sz : Int32} {f : Nat → Int32} {tz : Int32} {g : Nat → Int32} (hN : NBig N) (hK : 100 ≤ K)  : Sf (fX2_become N K sz f tz g) (fun (z : Int32 × (Nat → Int32)) => True) := by
  unfold fX2_become
  have ql0 : (0 : Int32).toInt = 0 := by decide
  exact sRet trivial
set_option maxHeartbeats 2000000 in
theorem s_X2_takeIn_46 {N K : Nat} {sz : Int32} {f : Nat → Int32} {tz : Int32} {g : Nat → Int32} (hN : NBig N) (hK : 100 ≤ K)  {k_4 : Int32 → Int32 → Int32 → (Nat → Int32) → Option (Int32 × Int32 × (Nat → Int32))} {m_4 : Nat} (hk_4 : ∀ (l2 : Int32) (l3 : Int32) (sz_ : Int32) (f_ : (Nat → Int32)), (2646 - l3.toInt).toNat < m_4 → 0 ≤ l3.toInt → l3.toInt ≤ 2646 → Sf (k_4 l2 l3 sz_ f_) (fun (z : Int32 × Int32 × (Nat → Int32)) => True)) : ∀ (l2 : Int32) (l3 : Int32) (sz_ : Int32) (f_ : Nat → Int32), 0 ≤ l3.toInt → l3.toInt ≤ 2645 → (2646 - l3.toInt).toNat ≤ m_4 → Sf (fX2_takeIn_46 N K sz f tz g k_4 l2 l3 sz_ f_) (fun (z : Int32 × Int32 × (Nat → Int32)) => True) := by
  intro l2 l3 sz_ f_ hq0 hq1 hq2
  unfold fX2_takeIn_46
  have ql0 : (0 : Int32).toInt = 0 := by decide
  have ql1 : (1 : Int32).toInt = 1 := by decide
  have t1 := addI (a := l3) (b := (1 : Int32)) (by omega) (by omega)
  exact hk_4 _ _ _ _ (by omega) (by first | omega | decide) (by first | omega | decide)
set_option maxHeartbeats 2000000 in
theorem s_X2_takeIn_34 {N K : Nat} {sz : Int32} {f : Nat → Int32} {tz : Int32} {g : Nat → Int32} (hN : NBig N) (hK : 100 ≤ K)  {k_4 : Int32 → Int32 → Int32 → (Nat → Int32) → Option (Int32 × Int32 × (Nat → Int32))} {m_4 : Nat} (hk_4 : ∀ (l2 : Int32) (l3 : Int32) (sz_ : Int32) (f_ : (Nat → Int32)), (2646 - l3.toInt).toNat < m_4 → 0 ≤ l3.toInt → l3.toInt ≤ 2646 → Sf (k_4 l2 l3 sz_ f_) (fun (z : Int32 × Int32 × (Nat → Int32)) => True)) : ∀ (l2 : Int32) (l3 : Int32) (sz_ : Int32) (f_ : Nat → Int32), 0 ≤ l3.toInt → l3.toInt ≤ 2645 → (2646 - l3.toInt).toNat ≤ m_4 → Sf (fX2_takeIn_34 N K sz f tz g k_4 l2 l3 sz_ f_) (fun (z : Int32 × Int32 × (Nat → Int32)) => True) := by
  intro l2 l3 sz_ f_ hq0 hq1 hq2
  unfold fX2_takeIn_34
  have ql0 : (0 : Int32).toInt = 0 := by decide
  refine sIfF (noob (by omega) (by omega)) ?_
  refine sIfF (noob (by omega) (by omega)) ?_
  exact s_X2_takeIn_46 (hk_4 := hk_4) hN hK _ _ _ _ (by first | omega | decide) (by first | omega | decide) (by omega)
set_option maxHeartbeats 2000000 in
theorem s_X2_takeIn_4 {N K : Nat} {sz : Int32} {f : Nat → Int32} {tz : Int32} {g : Nat → Int32} (hN : NBig N) (hK : 100 ≤ K)  : ∀ (fu : Nat) (l2 : Int32) (l3 : Int32) (sz_ : Int32) (f_ : (Nat → Int32)), (2646 - l3.toInt).toNat < fu → 0 ≤ l3.toInt → l3.toInt ≤ 2646 → Sf (fX2_takeIn_4 N K sz f tz g  fu l2 l3 sz_ f_) (fun (z : Int32 × Int32 × (Nat → Int32)) => True) := by
  intro fu
  induction fu with
  | zero => intro l2 l3 sz_ f_ h0 hq0 hq1; omega
  | succ fu ih =>
    intro l2 l3 sz_ f_ h0 hq0 hq1
    unfold fX2_takeIn_4
    have ql0 : (0 : Int32).toInt = 0 := by decide
    have ql2646 : (2646 : Int32).toInt = 2646 := by decide
    refine sIf (fun h1 => ?_) (fun h1 => ?_)
    · have fh1 := leT h1
      exact sRet trivial
    · have fh1 := leF h1
      refine sIfF (noob (by omega) (by omega)) ?_
      refine sIf (fun h3 => ?_) (fun h3 => ?_)
      · have fh3 := eqT h3
        rw [show (-1 : Int32).toInt = -1 from by decide] at fh3
        exact s_X2_takeIn_46 (hk_4 := ih) hN hK _ _ _ _ (by first | omega | decide) (by first | omega | decide) (by omega)
      · have fh3 := eqF h3
        rw [show (-1 : Int32).toInt = -1 from by decide] at fh3
        refine sIfF (noob (by omega) (by omega)) ?_
        refine sIf (fun h4 => ?_) (fun h4 => ?_)
        · have fh4 := eqT h4
          rw [show (-1 : Int32).toInt = -1 from by decide] at fh4
          exact s_X2_takeIn_34 (hk_4 := ih) hN hK _ _ _ _ (by first | omega | decide) (by first | omega | decide) (by omega)
        · have fh4 := eqF h4
          rw [show (-1 : Int32).toInt = -1 from by decide] at fh4
          exact s_X2_takeIn_34 (hk_4 := ih) hN hK _ _ _ _ (by first | omega | decide) (by first | omega | decide) (by omega)
set_option maxHeartbeats 2000000 in
theorem s_X2_takeIn {N K : Nat} {sz : Int32} {f : Nat → Int32} {tz : Int32} {g : Nat → Int32} (hN : NBig N) (hK : 100 ≤ K)  : Sf (fX2_takeIn N K sz f tz g) (fun (z : Int32 × Int32 × (Nat → Int32)) => True) := by
  unfold fX2_takeIn
  have hN9 := hN.u
  have ql0 : (0 : Int32).toInt = 0 := by decide
  exact s_X2_takeIn_4  hN hK _ _ _ _ _ (by omega) (by first | omega | decide) (by first | omega | decide)
set_option maxHeartbeats 2000000 in
theorem s_X2_isLike_2 {N K : Nat} {sz : Int32} {f : Nat → Int32} {tz : Int32} {g : Nat → Int32} (hN : NBig N) (hK : 100 ≤ K)  : ∀ (fu : Nat) (l2 : Int32), (2646 - l2.toInt).toNat < fu → 0 ≤ l2.toInt → l2.toInt ≤ 2646 → Sf (fX2_isLike_2 N K sz f tz g  fu l2) (fun (z : Int32) => 0 ≤ z.toInt ∧ z.toInt ≤ 1 ∧ True) := by
  intro fu
  induction fu with
  | zero => intro l2 h0 hq0 hq1; omega
  | succ fu ih =>
    intro l2 h0 hq0 hq1
    unfold fX2_isLike_2
    have ql0 : (0 : Int32).toInt = 0 := by decide
    have ql1 : (1 : Int32).toInt = 1 := by decide
    have ql2646 : (2646 : Int32).toInt = 2646 := by decide
    refine sIf (fun h1 => ?_) (fun h1 => ?_)
    · have fh1 := leT h1
      exact sRet ⟨(by show 0 ≤ (1 : Int32).toInt; decide), (by show (1 : Int32).toInt ≤ 1; decide), trivial⟩
    · have fh1 := leF h1
      refine sIfF (noob (by omega) (by omega)) ?_
      refine sIfF (noob (by omega) (by omega)) ?_
      refine sIf (fun h2 => ?_) (fun h2 => ?_)
      · have fh2 := eqT h2
        have t3 := addI (a := l2) (b := (1 : Int32)) (by omega) (by omega)
        exact ih _ (by omega) (by first | omega | decide) (by first | omega | decide)
      · have fh2 := eqF h2
        exact sRet ⟨(by show 0 ≤ (0 : Int32).toInt; decide), (by show (0 : Int32).toInt ≤ 1; decide), trivial⟩
set_option maxHeartbeats 2000000 in
theorem s_X2_isLike {N K : Nat} {sz : Int32} {f : Nat → Int32} {tz : Int32} {g : Nat → Int32} (hN : NBig N) (hK : 100 ≤ K)  : Sf (fX2_isLike N K sz f tz g) (fun (z : Int32) => 0 ≤ z.toInt ∧ z.toInt ≤ 1 ∧ True) := by
  unfold fX2_isLike
  have hN9 := hN.u
  have ql0 : (0 : Int32).toInt = 0 := by decide
  exact s_X2_isLike_2  hN hK _ _ (by omega) (by first | omega | decide) (by first | omega | decide)
set_option maxHeartbeats 2000000 in
theorem s_X2_becomeOwn {N K : Nat} {sz : Int32} {f : Nat → Int32} (hN : NBig N) (hK : 100 ≤ K)  : Sf (fX2_becomeOwn N K sz f) (fun (z : Int32 × (Nat → Int32)) => True) := by
  unfold fX2_becomeOwn
  have ql0 : (0 : Int32).toInt = 0 := by decide
  exact sRet trivial
set_option maxHeartbeats 2000000 in
theorem s_X2_isLikeOwn_2 {N K : Nat} {sz : Int32} {f : Nat → Int32} (hN : NBig N) (hK : 100 ≤ K)  : ∀ (fu : Nat) (l2 : Int32), (2646 - l2.toInt).toNat < fu → 0 ≤ l2.toInt → l2.toInt ≤ 2646 → Sf (fX2_isLikeOwn_2 N K sz f  fu l2) (fun (z : Int32) => 1 ≤ z.toInt ∧ z.toInt ≤ 1 ∧ True) := by
  intro fu
  induction fu with
  | zero => intro l2 h0 hq0 hq1; omega
  | succ fu ih =>
    intro l2 h0 hq0 hq1
    unfold fX2_isLikeOwn_2
    have ql0 : (0 : Int32).toInt = 0 := by decide
    have ql1 : (1 : Int32).toInt = 1 := by decide
    have ql2646 : (2646 : Int32).toInt = 2646 := by decide
    refine sIf (fun h1 => ?_) (fun h1 => ?_)
    · have fh1 := leT h1
      exact sRet ⟨(by show 1 ≤ (1 : Int32).toInt; decide), (by show (1 : Int32).toInt ≤ 1; decide), trivial⟩
    · have fh1 := leF h1
      refine sIfF (noob (by omega) (by omega)) ?_
      refine sIfF (noob (by omega) (by omega)) ?_
      have t2 := addI (a := l2) (b := (1 : Int32)) (by omega) (by omega)
      exact ih _ (by omega) (by first | omega | decide) (by first | omega | decide)
set_option maxHeartbeats 2000000 in
theorem s_X2_isLikeOwn {N K : Nat} {sz : Int32} {f : Nat → Int32} (hN : NBig N) (hK : 100 ≤ K)  : Sf (fX2_isLikeOwn N K sz f) (fun (z : Int32) => 1 ≤ z.toInt ∧ z.toInt ≤ 1 ∧ True) := by
  unfold fX2_isLikeOwn
  have hN9 := hN.u
  have ql0 : (0 : Int32).toInt = 0 := by decide
  exact s_X2_isLikeOwn_2  hN hK _ _ (by omega) (by first | omega | decide) (by first | omega | decide)
set_option maxHeartbeats 2000000 in
theorem s_X2_agreesWithRow_42 {N K : Nat} {sz : Int32} {f : Nat → Int32} {g : Nat → Int32} {p0 : Int32} {p1 : Int32} (hN : NBig N) (hK : 100 ≤ K) (hp0 : 0 ≤ p0.toInt) (hp1 : p0.toInt ≤ 5) (hp2 : 0 ≤ p1.toInt) (hp3 : p1.toInt ≤ 20) {k_3 : Int32 → Option (Int32)} {m_3 : Nat} (hk_3 : ∀ (l4 : Int32), (21 - l4.toInt).toNat < m_3 → 0 ≤ l4.toInt → l4.toInt ≤ 21 → Sf (k_3 l4) (fun (z : Int32) => 0 ≤ z.toInt ∧ z.toInt ≤ 1 ∧ True)) : ∀ (l4 : Int32), 0 ≤ l4.toInt → l4.toInt ≤ 20 → (21 - l4.toInt).toNat ≤ m_3 → Sf (fX2_agreesWithRow_42 N K sz f g p0 p1 k_3 l4) (fun (z : Int32) => 0 ≤ z.toInt ∧ z.toInt ≤ 1 ∧ True) := by
  intro l4 hq0 hq1 hq2
  unfold fX2_agreesWithRow_42
  have ql0 : (0 : Int32).toInt = 0 := by decide
  have ql1 : (1 : Int32).toInt = 1 := by decide
  have t1 := addI (a := l4) (b := (1 : Int32)) (by omega) (by omega)
  exact hk_3 _ (by omega) (by first | omega | decide) (by first | omega | decide)
set_option maxHeartbeats 2000000 in
theorem s_X2_agreesWithRow_3 {N K : Nat} {sz : Int32} {f : Nat → Int32} {g : Nat → Int32} {p0 : Int32} {p1 : Int32} (hN : NBig N) (hK : 100 ≤ K) (hp0 : 0 ≤ p0.toInt) (hp1 : p0.toInt ≤ 5) (hp2 : 0 ≤ p1.toInt) (hp3 : p1.toInt ≤ 20) : ∀ (fu : Nat) (l4 : Int32), (21 - l4.toInt).toNat < fu → 0 ≤ l4.toInt → l4.toInt ≤ 21 → Sf (fX2_agreesWithRow_3 N K sz f g p0 p1  fu l4) (fun (z : Int32) => 0 ≤ z.toInt ∧ z.toInt ≤ 1 ∧ True) := by
  intro fu
  induction fu with
  | zero => intro l4 h0 hq0 hq1; omega
  | succ fu ih =>
    intro l4 h0 hq0 hq1
    unfold fX2_agreesWithRow_3
    have ql0 : (0 : Int32).toInt = 0 := by decide
    have ql1 : (1 : Int32).toInt = 1 := by decide
    have ql20 : (20 : Int32).toInt = 20 := by decide
    refine sIf (fun h1 => ?_) (fun h1 => ?_)
    · have fh1 := ltT h1
      exact sRet ⟨(by show 0 ≤ (1 : Int32).toInt; decide), (by show (1 : Int32).toInt ≤ 1; decide), trivial⟩
    · have fh1 := ltF h1
      refine sBind (s_X2_keeps hN hK (by first | omega | decide) (by first | omega | decide) (by first | omega | decide) (by first | omega | decide) (by first | omega | decide) (by first | omega | decide)) (fun x15 b2 => ?_)
      obtain ⟨b2_0, b2_1, -⟩ := b2
      replace b2_0 : 0 ≤ x15.toInt := b2_0
      replace b2_1 : x15.toInt ≤ 1 := b2_1
      refine sIf (fun h3 => ?_) (fun h3 => ?_)
      · have fh3 := eqT h3
        exact s_X2_agreesWithRow_42 (hk_3 := ih) hN hK (by omega) (by omega) (by omega) (by omega) _ (by first | omega | decide) (by first | omega | decide) (by omega)
      · have fh3 := eqF h3
        refine sBind (s_X2_keptWorth hN hK (by first | omega | decide) (by first | omega | decide) (by first | omega | decide) (by first | omega | decide) (by first | omega | decide) (by first | omega | decide)) (fun x26 b4 => ?_)
        refine sBind (s_X3_reckoned hN hK (by first | omega | decide) (by first | omega | decide) (by first | omega | decide) (by first | omega | decide) (by first | omega | decide) (by first | omega | decide)) (fun x34 b5 => ?_)
        refine sIf (fun h6 => ?_) (fun h6 => ?_)
        · have fh6 := eqT h6
          exact s_X2_agreesWithRow_42 (hk_3 := ih) hN hK (by omega) (by omega) (by omega) (by omega) _ (by first | omega | decide) (by first | omega | decide) (by omega)
        · have fh6 := eqF h6
          exact sRet ⟨(by show 0 ≤ (0 : Int32).toInt; decide), (by show (0 : Int32).toInt ≤ 1; decide), trivial⟩
set_option maxHeartbeats 2000000 in
theorem s_X2_agreesWithRow {N K : Nat} {sz : Int32} {f : Nat → Int32} {g : Nat → Int32} {p0 : Int32} {p1 : Int32} (hN : NBig N) (hK : 100 ≤ K) (hp0 : 0 ≤ p0.toInt) (hp1 : p0.toInt ≤ 5) (hp2 : 0 ≤ p1.toInt) (hp3 : p1.toInt ≤ 20) : Sf (fX2_agreesWithRow N K sz f g p0 p1) (fun (z : Int32) => 0 ≤ z.toInt ∧ z.toInt ≤ 1 ∧ True) := by
  unfold fX2_agreesWithRow
  have hN9 := hN.u
  have ql0 : (0 : Int32).toInt = 0 := by decide
  exact s_X2_agreesWithRow_3  hN hK (by omega) (by omega) (by omega) (by omega) _ _ (by omega) (by first | omega | decide) (by first | omega | decide)
set_option maxHeartbeats 2000000 in
theorem s_X2_agreesWith_10 {N K : Nat} {sz : Int32} {f : Nat → Int32} {g : Nat → Int32} (hN : NBig N) (hK : 100 ≤ K)  {k_2 : Int32 → (Nat → Int32) → Option (Int32 × (Nat → Int32))} {m_2 : Nat} (hk_2 : ∀ (l2 : Int32) (g_ : (Nat → Int32)), (6 - l2.toInt).toNat < m_2 → 0 ≤ l2.toInt → l2.toInt ≤ 6 → Sf (k_2 l2 g_) (fun (z : Int32 × (Nat → Int32)) => 0 ≤ z.1.toInt ∧ z.1.toInt ≤ 1 ∧ True)) : ∀ (fu : Nat) (l2 : Int32) (l3 : Int32) (g_ : (Nat → Int32)), (21 - l3.toInt).toNat < fu → 0 ≤ l2.toInt → l2.toInt ≤ 5 → 0 ≤ l3.toInt → l3.toInt ≤ 21 → (6 - l2.toInt).toNat ≤ m_2 → Sf (fX2_agreesWith_10 N K sz f g k_2 fu l2 l3 g_) (fun (z : Int32 × (Nat → Int32)) => 0 ≤ z.1.toInt ∧ z.1.toInt ≤ 1 ∧ True) := by
  intro fu
  induction fu with
  | zero => intro l2 l3 g_ h0 hq0 hq1 hq2 hq3 hq4; omega
  | succ fu ih =>
    intro l2 l3 g_ h0 hq0 hq1 hq2 hq3 hq4
    unfold fX2_agreesWith_10
    have ql0 : (0 : Int32).toInt = 0 := by decide
    have ql1 : (1 : Int32).toInt = 1 := by decide
    have ql20 : (20 : Int32).toInt = 20 := by decide
    refine sIf (fun h1 => ?_) (fun h1 => ?_)
    · have fh1 := ltT h1
      have t2 := addI (a := l2) (b := (1 : Int32)) (by omega) (by omega)
      exact hk_2 _ _ (by omega) (by first | omega | decide) (by first | omega | decide)
    · have fh1 := ltF h1
      refine sBind (s_X3_reckon hN hK (by first | omega | decide) (by first | omega | decide) (by first | omega | decide) (by first | omega | decide)) (fun x19 b3 => ?_)
      refine sBind (s_X2_agreesWithRow hN hK (by first | omega | decide) (by first | omega | decide) (by first | omega | decide) (by first | omega | decide)) (fun x26 b4 => ?_)
      obtain ⟨b4_0, b4_1, -⟩ := b4
      replace b4_0 : 0 ≤ x26.toInt := b4_0
      replace b4_1 : x26.toInt ≤ 1 := b4_1
      refine sIf (fun h5 => ?_) (fun h5 => ?_)
      · have fh5 := eqT h5
        exact sRet ⟨(by show 0 ≤ (0 : Int32).toInt; decide), (by show (0 : Int32).toInt ≤ 1; decide), trivial⟩
      · have fh5 := eqF h5
        have t6 := addI (a := l3) (b := (1 : Int32)) (by omega) (by omega)
        exact ih _ _ _ (by omega) (by first | omega | decide) (by first | omega | decide) (by first | omega | decide) (by first | omega | decide) (by omega)
set_option maxHeartbeats 2000000 in
theorem s_X2_agreesWith_2 {N K : Nat} {sz : Int32} {f : Nat → Int32} {g : Nat → Int32} (hN : NBig N) (hK : 100 ≤ K)  : ∀ (fu : Nat) (l2 : Int32) (g_ : (Nat → Int32)), (6 - l2.toInt).toNat < fu → 0 ≤ l2.toInt → l2.toInt ≤ 6 → Sf (fX2_agreesWith_2 N K sz f g  fu l2 g_) (fun (z : Int32 × (Nat → Int32)) => 0 ≤ z.1.toInt ∧ z.1.toInt ≤ 1 ∧ True) := by
  intro fu
  induction fu with
  | zero => intro l2 g_ h0 hq0 hq1; omega
  | succ fu ih =>
    intro l2 g_ h0 hq0 hq1
    unfold fX2_agreesWith_2
    have hN9 := hN.u
    have ql0 : (0 : Int32).toInt = 0 := by decide
    have ql1 : (1 : Int32).toInt = 1 := by decide
    have ql6 : (6 : Int32).toInt = 6 := by decide
    refine sIf (fun h1 => ?_) (fun h1 => ?_)
    · have fh1 := leT h1
      exact sRet ⟨(by show 0 ≤ (1 : Int32).toInt; decide), (by show (1 : Int32).toInt ≤ 1; decide), trivial⟩
    · have fh1 := leF h1
      exact s_X2_agreesWith_10 (hk_2 := ih) hN hK _ _ _ _ (by omega) (by first | omega | decide) (by first | omega | decide) (by first | omega | decide) (by first | omega | decide) (by omega)
set_option maxHeartbeats 2000000 in
theorem s_X2_agreesWith {N K : Nat} {sz : Int32} {f : Nat → Int32} {g : Nat → Int32} (hN : NBig N) (hK : 100 ≤ K)  : Sf (fX2_agreesWith N K sz f g) (fun (z : Int32 × (Nat → Int32)) => 0 ≤ z.1.toInt ∧ z.1.toInt ≤ 1 ∧ True) := by
  unfold fX2_agreesWith
  have hN9 := hN.u
  have ql0 : (0 : Int32).toInt = 0 := by decide
  exact s_X2_agreesWith_2  hN hK _ _ _ (by omega) (by first | omega | decide) (by first | omega | decide)
set_option maxHeartbeats 2000000 in
theorem s_X2_sumOfLegs_11 {N K : Nat} {sz : Int32} {f : Nat → Int32} {c0 : Int32} {c1 : Int32} {c2 : Int32} {c3 : Int32} {c4 : Int32} {c5 : Int32} {p0 : Int32} {p1 : Int32} {p2 : Int32} {p3 : Int32} {rec : Int32 → (Nat → Int32) → Int32 → Int32 → Int32 → Int32 → Int32 → Int32 → Int32 → Int32 → Int32 → Int32 → Option (Int32 × Int32 × (Nat → Int32) × Int32 × Int32 × Int32)} {mr : Nat} (hrec : ∀ (sz : Int32) (f : Nat → Int32) (c0 : Int32) (c1 : Int32) (c2 : Int32) (c3 : Int32) (c4 : Int32) (c5 : Int32) (p0 : Int32) (p1 : Int32) (p2 : Int32) (p3 : Int32), (46 - p3.toInt).toNat < mr → 0 ≤ p0.toInt → p0.toInt ≤ 5 → 0 ≤ p3.toInt → p3.toInt ≤ 46 → Sf (rec sz f c0 c1 c2 c3 c4 c5 p0 p1 p2 p3) (fun (z : Int32 × Int32 × (Nat → Int32) × Int32 × Int32 × Int32) => True)) (hN : NBig N) (hK : 100 ≤ K) (hp0 : 0 ≤ p0.toInt) (hp1 : p0.toInt ≤ 5) (hp2 : 1 ≤ p1.toInt) (hp3 : 1 ≤ p3.toInt) (hp4 : p3.toInt ≤ 46) (hp5 : (46 - p3.toInt).toNat < mr) : ∀ (s0 : Int32) (sz_ : Int32) (f_ : Nat → Int32) (c1_ : Int32) (c2_ : Int32) (c3_ : Int32), 0 ≤ s0.toInt → s0.toInt ≤ 1 → (s0.toInt = 0 → 0 ≤ p0.toInt ∧ p0.toInt ≤ 5 ∧ 1 ≤ p1.toInt ∧ 1 ≤ p3.toInt ∧ p3.toInt ≤ 46) → Sf (fX2_sumOfLegs_11 N K rec sz f c0 c1 c2 c3 c4 c5 p0 p1 p2 p3  s0 sz_ f_ c1_ c2_ c3_) (fun (z : Int32 × Int32 × (Nat → Int32) × Int32 × Int32 × Int32) => True) := by
  intro s0 sz_ f_ c1_ c2_ c3_ hq0 hq1 hq2
  unfold fX2_sumOfLegs_11
  have ql0 : (0 : Int32).toInt = 0 := by decide
  have ql1 : (1 : Int32).toInt = 1 := by decide
  have ql2 : (2 : Int32).toInt = 2 := by decide
  have ql3 : (3 : Int32).toInt = 3 := by decide
  have ql4 : (4 : Int32).toInt = 4 := by decide
  refine sIf (fun h1 => ?_) (fun h1 => ?_)
  · have fh1 := eqT h1
    refine sBind (hrec _ _ _ _ _ _ _ _ _ _ _ _ (by omega) (by first | omega | decide) (by first | omega | decide) (by first | omega | decide) (by first | omega | decide)) (fun x58 b3 => ?_)
    refine sBind (hrec _ _ _ _ _ _ _ _ _ _ _ _ (by omega) (by first | omega | decide) (by first | omega | decide) (by first | omega | decide) (by first | omega | decide)) (fun x71 b5 => ?_)
    exact sRet trivial
  · have fh1 := eqF h1
    refine sIf (fun h7 => ?_) (fun h7 => ?_)
    · have fh7 := eqT h7
      have r9 := rgI p1
      have t8 := subI (a := p1) (b := (1 : Int32)) (by omega) (by omega)
      refine sBind (hrec _ _ _ _ _ _ _ _ _ _ _ _ (by omega) (by first | omega | decide) (by first | omega | decide) (by first | omega | decide) (by first | omega | decide)) (fun x88 b11 => ?_)
      refine sBind (hrec _ _ _ _ _ _ _ _ _ _ _ _ (by omega) (by first | omega | decide) (by first | omega | decide) (by first | omega | decide) (by first | omega | decide)) (fun x101 b13 => ?_)
      exact sRet trivial
    · have fh7 := eqF h7
      refine sIf (fun h15 => ?_) (fun h15 => ?_)
      · have fh15 := eqT h15
        refine sBind (hrec _ _ _ _ _ _ _ _ _ _ _ _ (by omega) (by first | omega | decide) (by first | omega | decide) (by first | omega | decide) (by first | omega | decide)) (fun x116 b17 => ?_)
        refine sBind (hrec _ _ _ _ _ _ _ _ _ _ _ _ (by omega) (by first | omega | decide) (by first | omega | decide) (by first | omega | decide) (by first | omega | decide)) (fun x131 b20 => ?_)
        exact sRet trivial
      · have fh15 := eqF h15
        refine sIf (fun h22 => ?_) (fun h22 => ?_)
        · have fh22 := eqT h22
          refine sBind (hrec _ _ _ _ _ _ _ _ _ _ _ _ (by omega) (by first | omega | decide) (by first | omega | decide) (by first | omega | decide) (by first | omega | decide)) (fun x146 b24 => ?_)
          refine sIf (fun h25 => ?_) (fun h25 => ?_)
          · have fh25 := eqT h25
            have r27 := rgI x146.1
            have t26 := addI (a := x146.1) (b := (0 : Int32)) (by omega) (by omega)
            exact sRet trivial
          · have fh25 := eqF h25
            refine sBind (hrec _ _ _ _ _ _ _ _ _ _ _ _ (by omega) (by first | omega | decide) (by first | omega | decide) (by first | omega | decide) (by first | omega | decide)) (fun x164 b29 => ?_)
            exact sRet trivial
        · have fh22 := eqF h22
          refine sIf (fun h31 => ?_) (fun h31 => ?_)
          · have fh31 := eqT h31
            refine sBind (hrec _ _ _ _ _ _ _ _ _ _ _ _ (by omega) (by first | omega | decide) (by first | omega | decide) (by first | omega | decide) (by first | omega | decide)) (fun x183 b33 => ?_)
            refine sIf (fun h34 => ?_) (fun h34 => ?_)
            · have fh34 := eqT h34
              have r36 := rgI x183.1
              have t35 := addI (a := x183.1) (b := (0 : Int32)) (by omega) (by omega)
              exact sRet trivial
            · have fh34 := eqF h34
              refine sBind (hrec _ _ _ _ _ _ _ _ _ _ _ _ (by omega) (by first | omega | decide) (by first | omega | decide) (by first | omega | decide) (by first | omega | decide)) (fun x203 b39 => ?_)
              exact sRet trivial
          · have fh31 := eqF h31
            refine sBind (hrec _ _ _ _ _ _ _ _ _ _ _ _ (by omega) (by first | omega | decide) (by first | omega | decide) (by first | omega | decide) (by first | omega | decide)) (fun x222 b42 => ?_)
            refine sBind (hrec _ _ _ _ _ _ _ _ _ _ _ _ (by omega) (by first | omega | decide) (by first | omega | decide) (by first | omega | decide) (by first | omega | decide)) (fun x237 b45 => ?_)
            exact sRet trivial
set_option maxHeartbeats 2000000 in
theorem s_X2_sumOfLegs {N K : Nat} {sz : Int32} {f : Nat → Int32} {c0 : Int32} {c1 : Int32} {c2 : Int32} {c3 : Int32} {c4 : Int32} {c5 : Int32} {p0 : Int32} {p1 : Int32} {p2 : Int32} {p3 : Int32} {rec : Int32 → (Nat → Int32) → Int32 → Int32 → Int32 → Int32 → Int32 → Int32 → Int32 → Int32 → Int32 → Int32 → Option (Int32 × Int32 × (Nat → Int32) × Int32 × Int32 × Int32)} {mr : Nat} (hrec : ∀ (sz : Int32) (f : Nat → Int32) (c0 : Int32) (c1 : Int32) (c2 : Int32) (c3 : Int32) (c4 : Int32) (c5 : Int32) (p0 : Int32) (p1 : Int32) (p2 : Int32) (p3 : Int32), (46 - p3.toInt).toNat < mr → 0 ≤ p0.toInt → p0.toInt ≤ 5 → 0 ≤ p3.toInt → p3.toInt ≤ 46 → Sf (rec sz f c0 c1 c2 c3 c4 c5 p0 p1 p2 p3) (fun (z : Int32 × Int32 × (Nat → Int32) × Int32 × Int32 × Int32) => True)) (hN : NBig N) (hK : 100 ≤ K) (hp0 : 0 ≤ p0.toInt) (hp1 : p0.toInt ≤ 5) (hp2 : 1 ≤ p1.toInt) (hp3 : 1 ≤ p3.toInt) (hp4 : p3.toInt ≤ 46) (hp5 : (46 - p3.toInt).toNat < mr) : Sf (fX2_sumOfLegs N K rec sz f c0 c1 c2 c3 c4 c5 p0 p1 p2 p3) (fun (z : Int32 × Int32 × (Nat → Int32) × Int32 × Int32 × Int32) => True) := by
  unfold fX2_sumOfLegs
  have ql0 : (0 : Int32).toInt = 0 := by decide
  have ql1 : (1 : Int32).toInt = 1 := by decide
  have ql2 : (2 : Int32).toInt = 2 := by decide
  refine sIf (fun h1 => ?_) (fun h1 => ?_)
  · have t2 := modN (a := p2) (b := (2 : Int32)) ql2 (by omega)
    have fh1 := eqT h1
    exact s_X2_sumOfLegs_11 (hrec := hrec)  hN hK (by omega) (by omega) (by omega) (by omega) (by omega) (by omega) _ _ _ _ _ _ (by first | omega | decide) (by first | omega | decide) (by first | omega | decide)
  · have t3 := modN (a := p2) (b := (2 : Int32)) ql2 (by omega)
    have fh1 := eqF h1
    exact s_X2_sumOfLegs_11 (hrec := hrec)  hN hK (by omega) (by omega) (by omega) (by omega) (by omega) (by omega) _ _ _ _ _ _ (by first | omega | decide) (by first | omega | decide) (by first | omega | decide)
set_option maxHeartbeats 2000000 in
theorem s_X2_worthKnown {N K : Nat}  (hN : NBig N) (hK : 100 ≤ K)  : ∀ (fu : Nat) (sz : Int32) (f : (Nat → Int32)) (c0 : Int32) (c1 : Int32) (c2 : Int32) (c3 : Int32) (c4 : Int32) (c5 : Int32) (p0 : Int32) (p1 : Int32) (p2 : Int32) (p3 : Int32), (46 - p3.toInt).toNat < fu → 0 ≤ p0.toInt → p0.toInt ≤ 5 → 0 ≤ p3.toInt → p3.toInt ≤ 46 → Sf (fX2_worthKnown N K fu sz f c0 c1 c2 c3 c4 c5 p0 p1 p2 p3) (fun (z : Int32 × Int32 × (Nat → Int32) × Int32 × Int32 × Int32) => True) := by
  intro fu
  induction fu with
  | zero => intro sz f c0 c1 c2 c3 c4 c5 p0 p1 p2 p3 h0 hq0 hq1 hq2 hq3; omega
  | succ k ih =>
    intro sz f c0 c1 c2 c3 c4 c5 p0 p1 p2 p3 h0 hq0 hq1 hq2 hq3
    unfold fX2_worthKnown
    have ql0 : (0 : Int32).toInt = 0 := by decide
    have ql1 : (1 : Int32).toInt = 1 := by decide
    have ql45 : (45 : Int32).toInt = 45 := by decide
    refine sBind (s_X5_rests hN hK) (fun x2 b1 => ?_)
    obtain ⟨b1_0, b1_1, b1_2, b1_3, -⟩ := b1
    replace b1_0 : 0 ≤ x2.toInt := b1_0
    replace b1_1 : x2.toInt ≤ 1 := b1_1
    replace b1_2 : (x2.toInt = 0 → (1 ≤ p1.toInt)) := b1_2
    replace b1_3 : (x2.toInt = 0 → p2.toInt ≠ 0) := b1_3
    refine sIf (fun h2 => ?_) (fun h2 => ?_)
    · have fh2 := eqT h2
      refine sBind (s_X2_slotOf hN hK (by first | omega | decide) (by first | omega | decide) (by first | omega | decide)) (fun x18 b3 => ?_)
      obtain ⟨b3_0, b3_1, -⟩ := b3
      replace b3_0 : -1 ≤ x18.toInt := b3_0
      replace b3_1 : x18.toInt ≤ 2645 := b3_1
      refine sIf (fun h4 => ?_) (fun h4 => ?_)
      · have fh4 := eqT h4
        rw [show (-1 : Int32).toInt = -1 from by decide] at fh4
        exact sRet trivial
      · have fh4 := eqF h4
        rw [show (-1 : Int32).toInt = -1 from by decide] at fh4
        refine sIf (fun h5 => ?_) (fun h5 => ?_)
        · have fh5 := leT h5
          refine sIfF (noob (by omega) (by omega)) ?_
          refine sIf (fun h6 => ?_) (fun h6 => ?_)
          · have fh6 := eqT h6
            rw [show (-1 : Int32).toInt = -1 from by decide] at fh6
            have t8 := addI (a := p3) (b := (1 : Int32)) (by omega) (by omega)
            refine sBind (s_X2_sumOfLegs (hrec := ih) hN hK (by first | omega | decide) (by first | omega | decide) (by first | omega | decide) (by first | omega | decide) (by first | omega | decide) (by omega)) (fun x89 b9 => ?_)
            refine sBind (s_X2_keep hN hK (by first | omega | decide) (by first | omega | decide) (by first | omega | decide)) (fun x100 b10 => ?_)
            exact sRet trivial
          · have fh6 := eqF h6
            rw [show (-1 : Int32).toInt = -1 from by decide] at fh6
            refine sIfF (noob (by omega) (by omega)) ?_
            exact sRet trivial
        · have fh5 := leF h5
          exact sRet trivial
    · have fh2 := eqF h2
      refine sBind (s_X5_restingWorth hN hK (by first | omega | decide) (by first | omega | decide)) (fun x11 b14 => ?_)
      obtain ⟨b14_0, b14_1, -⟩ := b14
      replace b14_0 : 0 ≤ x11.toInt := b14_0
      replace b14_1 : x11.toInt ≤ 1 := b14_1
      exact sRet trivial
set_option maxHeartbeats 2000000 in
theorem s_X2_recall {N K : Nat} {sz : Int32} {f : Nat → Int32} {c0 : Int32} {c1 : Int32} {c2 : Int32} {c3 : Int32} {c4 : Int32} {c5 : Int32} {p0 : Int32} {p1 : Int32} {p2 : Int32} (hN : NBig N) (hK : 100 ≤ K) (hp0 : 0 ≤ p0.toInt) (hp1 : p0.toInt ≤ 5) : Sf (fX2_recall N K sz f c0 c1 c2 c3 c4 c5 p0 p1 p2) (fun (z : Int32 × Int32 × (Nat → Int32) × Int32 × Int32 × Int32) => True) := by
  unfold fX2_recall
  have ql0 : (0 : Int32).toInt = 0 := by decide
  refine sBind (s_X2_worthKnown hN hK _ _ _ _ _ _ _ _ _ _ _ _ _ (by omega) (by first | omega | decide) (by first | omega | decide) (by first | omega | decide) (by first | omega | decide)) (fun x7 b1 => ?_)
  exact sRet trivial
set_option maxHeartbeats 2000000 in
theorem s_X0_init {N K : Nat} {k0 : Int32} {k1 : Int32} {k2 : Int32} {k3 : Int32} {k4 : Int32} {k5 : Int32} (hN : NBig N) (hK : 100 ≤ K) (hp0 : 0 ≤ k0.toInt) (hp1 : k0.toInt ≤ 0) (hp2 : 0 ≤ k1.toInt) (hp3 : k1.toInt ≤ 0) (hp4 : 0 ≤ k2.toInt) (hp5 : k2.toInt ≤ 0) (hp6 : 0 ≤ k3.toInt) (hp7 : k3.toInt ≤ 0) (hp8 : 0 ≤ k4.toInt) (hp9 : k4.toInt ≤ 0) (hp10 : 0 ≤ k5.toInt) (hp11 : k5.toInt ≤ 0) : Sf (fX0_init N K k0 k1 k2 k3 k4 k5) (fun (z : Unit) => True) := by
  unfold fX0_init
  have ql0 : (0 : Int32).toInt = 0 := by decide
  exact sRet trivial
set_option maxHeartbeats 2000000 in
theorem s_X4_init {N K : Nat}  (hN : NBig N) (hK : 100 ≤ K)  : Sf (fX4_init N K ) (fun (z : (Nat → Int32)) => True) := by
  unfold fX4_init
  have ql0 : (0 : Int32).toInt = 0 := by decide
  exact sRet trivial
set_option maxHeartbeats 2000000 in
theorem s_X3_init {N K : Nat}  (hN : NBig N) (hK : 100 ≤ K)  : Sf (fX3_init N K ) (fun (z : (Nat → Int32)) => True) := by
  unfold fX3_init
  have ql0 : (0 : Int32).toInt = 0 := by decide
  exact sRet trivial
set_option maxHeartbeats 2000000 in
theorem s_X2_init {N K : Nat} {sz : Int32} (hN : NBig N) (hK : 100 ≤ K) (hp0 : 0 ≤ sz.toInt) (hp1 : sz.toInt ≤ 0) : Sf (fX2_init N K sz) (fun (z : (Nat → Int32)) => True) := by
  unfold fX2_init
  have ql0 : (0 : Int32).toInt = 0 := by decide
  refine sBind (s_J_fill hN hK (by first | omega | decide)) (fun x18 b1 => ?_)
  exact sRet trivial
set_option maxHeartbeats 2000000 in
theorem s_X1_init {N K : Nat} {ru : Int32} {sz : Int32} {p0 : Int32} (hN : NBig N) (hK : 100 ≤ K) (hp0 : 0 ≤ ru.toInt) (hp1 : ru.toInt ≤ 0) (hp2 : 0 ≤ sz.toInt) (hp3 : sz.toInt ≤ 0) (hp4 : 0 ≤ p0.toInt) (hp5 : p0.toInt ≤ 2) : Sf (fX1_init N K ru sz p0) (fun (z : Int32 × (Nat → Int32)) => 0 ≤ z.1.toInt ∧ z.1.toInt ≤ 2 ∧ True) := by
  unfold fX1_init
  have ql0 : (0 : Int32).toInt = 0 := by decide
  refine sBind (s_J_fill hN hK (by first | omega | decide)) (fun x22 b1 => ?_)
  exact sRet ⟨(by show 0 ≤ p0.toInt; first | omega | assumption), (by show p0.toInt ≤ 2; first | omega | assumption), trivial⟩
set_option maxHeartbeats 2000000 in
theorem s_X5_init {N K : Nat}  (hN : NBig N) (hK : 100 ≤ K)  : Sf (fX5_init N K ) (fun (z : Int32 × (Nat → Int32) × Int32 × (Nat → Int32) × Int32 × (Nat → Int32) × Int32 × Int32 × (Nat → Int32) × Int32 × Int32 × (Nat → Int32) × Int32 × Int32 × (Nat → Int32) × (Nat → Int32) × (Nat → Int32) × Int32 × Int32 × Int32 × Int32 × Int32 × Int32 × (Nat → Int32) × (Nat → Int32) × (Nat → Int32)) => 0 ≤ z.1.toInt ∧ z.1.toInt ≤ 0 ∧ 0 ≤ z.2.2.1.toInt ∧ z.2.2.1.toInt ≤ 0 ∧ 0 ≤ z.2.2.2.2.1.toInt ∧ z.2.2.2.2.1.toInt ≤ 0 ∧ 0 ≤ z.2.2.2.2.2.2.1.toInt ∧ z.2.2.2.2.2.2.1.toInt ≤ 2 ∧ 0 ≤ z.2.2.2.2.2.2.2.1.toInt ∧ z.2.2.2.2.2.2.2.1.toInt ≤ 0 ∧ 0 ≤ z.2.2.2.2.2.2.2.2.2.1.toInt ∧ z.2.2.2.2.2.2.2.2.2.1.toInt ≤ 2 ∧ 0 ≤ z.2.2.2.2.2.2.2.2.2.2.1.toInt ∧ z.2.2.2.2.2.2.2.2.2.2.1.toInt ≤ 0 ∧ 0 ≤ z.2.2.2.2.2.2.2.2.2.2.2.2.1.toInt ∧ z.2.2.2.2.2.2.2.2.2.2.2.2.1.toInt ≤ 2 ∧ 0 ≤ z.2.2.2.2.2.2.2.2.2.2.2.2.2.1.toInt ∧ z.2.2.2.2.2.2.2.2.2.2.2.2.2.1.toInt ≤ 0 ∧ 0 ≤ z.2.2.2.2.2.2.2.2.2.2.2.2.2.2.2.2.2.1.toInt ∧ z.2.2.2.2.2.2.2.2.2.2.2.2.2.2.2.2.2.1.toInt ≤ 0 ∧ 0 ≤ z.2.2.2.2.2.2.2.2.2.2.2.2.2.2.2.2.2.2.1.toInt ∧ z.2.2.2.2.2.2.2.2.2.2.2.2.2.2.2.2.2.2.1.toInt ≤ 0 ∧ 0 ≤ z.2.2.2.2.2.2.2.2.2.2.2.2.2.2.2.2.2.2.2.1.toInt ∧ z.2.2.2.2.2.2.2.2.2.2.2.2.2.2.2.2.2.2.2.1.toInt ≤ 0 ∧ 0 ≤ z.2.2.2.2.2.2.2.2.2.2.2.2.2.2.2.2.2.2.2.2.1.toInt ∧ z.2.2.2.2.2.2.2.2.2.2.2.2.2.2.2.2.2.2.2.2.1.toInt ≤ 0 ∧ 0 ≤ z.2.2.2.2.2.2.2.2.2.2.2.2.2.2.2.2.2.2.2.2.2.1.toInt ∧ z.2.2.2.2.2.2.2.2.2.2.2.2.2.2.2.2.2.2.2.2.2.1.toInt ≤ 0 ∧ 0 ≤ z.2.2.2.2.2.2.2.2.2.2.2.2.2.2.2.2.2.2.2.2.2.2.1.toInt ∧ z.2.2.2.2.2.2.2.2.2.2.2.2.2.2.2.2.2.2.2.2.2.2.1.toInt ≤ 0 ∧ True) := by
  unfold fX5_init
  have ql0 : (0 : Int32).toInt = 0 := by decide
  have ql1 : (1 : Int32).toInt = 1 := by decide
  have ql2 : (2 : Int32).toInt = 2 := by decide
  refine sBind (s_X2_init hN hK (by first | omega | decide) (by first | omega | decide)) (fun x32 b1 => ?_)
  refine sBind (s_X2_init hN hK (by first | omega | decide) (by first | omega | decide)) (fun x32_1 b2 => ?_)
  refine sBind (s_X2_init hN hK (by first | omega | decide) (by first | omega | decide)) (fun x32_2 b3 => ?_)
  refine sBind (s_X1_init hN hK (by first | omega | decide) (by first | omega | decide) (by first | omega | decide) (by first | omega | decide) (by first | omega | decide) (by first | omega | decide)) (fun x71 b4 => ?_)
  obtain ⟨b4_0, b4_1, -⟩ := b4
  replace b4_0 : 0 ≤ x71.1.toInt := b4_0
  replace b4_1 : x71.1.toInt ≤ 2 := b4_1
  refine sBind (s_X1_init hN hK (by first | omega | decide) (by first | omega | decide) (by first | omega | decide) (by first | omega | decide) (by first | omega | decide) (by first | omega | decide)) (fun x71_1 b5 => ?_)
  obtain ⟨b5_0, b5_1, -⟩ := b5
  replace b5_0 : 0 ≤ x71_1.1.toInt := b5_0
  replace b5_1 : x71_1.1.toInt ≤ 2 := b5_1
  refine sBind (s_X1_init hN hK (by first | omega | decide) (by first | omega | decide) (by first | omega | decide) (by first | omega | decide) (by first | omega | decide) (by first | omega | decide)) (fun x71_2 b6 => ?_)
  obtain ⟨b6_0, b6_1, -⟩ := b6
  replace b6_0 : 0 ≤ x71_2.1.toInt := b6_0
  replace b6_1 : x71_2.1.toInt ≤ 2 := b6_1
  refine sBind (s_X4_init hN hK) (fun x109 b7 => ?_)
  refine sBind (s_X4_init hN hK) (fun x109_1 b8 => ?_)
  refine sBind (s_X0_init hN hK (by first | omega | decide) (by first | omega | decide) (by first | omega | decide) (by first | omega | decide) (by first | omega | decide) (by first | omega | decide) (by first | omega | decide) (by first | omega | decide) (by first | omega | decide) (by first | omega | decide) (by first | omega | decide) (by first | omega | decide)) (fun x124 b9 => ?_)
  refine sBind (s_X3_init hN hK) (fun x135 b10 => ?_)
  refine sBind (s_X4_init hN hK) (fun x146 b11 => ?_)
  refine sBind (s_X4_init hN hK) (fun x157 b12 => ?_)
  exact sRet ⟨(by show 0 ≤ (0 : Int32).toInt; decide), (by show (0 : Int32).toInt ≤ 0; decide), (by show 0 ≤ (0 : Int32).toInt; decide), (by show (0 : Int32).toInt ≤ 0; decide), (by show 0 ≤ (0 : Int32).toInt; decide), (by show (0 : Int32).toInt ≤ 0; decide), (by show 0 ≤ x71.1.toInt; first | omega | assumption), (by show x71.1.toInt ≤ 2; first | omega | assumption), (by show 0 ≤ (0 : Int32).toInt; decide), (by show (0 : Int32).toInt ≤ 0; decide), (by show 0 ≤ x71_1.1.toInt; first | omega | assumption), (by show x71_1.1.toInt ≤ 2; first | omega | assumption), (by show 0 ≤ (0 : Int32).toInt; decide), (by show (0 : Int32).toInt ≤ 0; decide), (by show 0 ≤ x71_2.1.toInt; first | omega | assumption), (by show x71_2.1.toInt ≤ 2; first | omega | assumption), (by show 0 ≤ (0 : Int32).toInt; decide), (by show (0 : Int32).toInt ≤ 0; decide), (by show 0 ≤ (0 : Int32).toInt; decide), (by show (0 : Int32).toInt ≤ 0; decide), (by show 0 ≤ (0 : Int32).toInt; decide), (by show (0 : Int32).toInt ≤ 0; decide), (by show 0 ≤ (0 : Int32).toInt; decide), (by show (0 : Int32).toInt ≤ 0; decide), (by show 0 ≤ (0 : Int32).toInt; decide), (by show (0 : Int32).toInt ≤ 0; decide), (by show 0 ≤ (0 : Int32).toInt; decide), (by show (0 : Int32).toInt ≤ 0; decide), (by show 0 ≤ (0 : Int32).toInt; decide), (by show (0 : Int32).toInt ≤ 0; decide), trivial⟩
set_option maxHeartbeats 2000000 in
theorem s_X5_memoryAt_13 {N K : Nat} {p0 : Int32} (hN : NBig N) (hK : 100 ≤ K)  : Sf (fX5_memoryAt_13 N K p0  ) (xP true false (fun (z : Unit) => (0 ≤ p0.toInt ∧ p0.toInt ≤ 2) ∧ True)) := by
  unfold fX5_memoryAt_13
  have ql0 : (0 : Int32).toInt = 0 := by decide
  exact sX1

end MG_50csafe
section MG_50dsafe
set_option maxHeartbeats 2000000 in
theorem s_X5_memoryAt {N K : Nat} {p0 : Int32} (hN : NBig N) (hK : 100 ≤ K)  : Sf (fX5_memoryAt N K p0) (xP true false (fun (z : Unit) => (0 ≤ p0.toInt ∧ p0.toInt ≤ 2) ∧ True)) := by
  unfold fX5_memoryAt
  have ql0 : (0 : Int32).toInt = 0 := by decide
  have ql3 : (3 : Int32).toInt = 3 := by decide
  refine sIf (fun h1 => ?_) (fun h1 => ?_)
  · have fh1 := ltT h1
    exact s_X5_memoryAt_13  hN hK 
  · have fh1 := ltF h1
    refine sIf (fun h2 => ?_) (fun h2 => ?_)
    · have fh2 := ltT h2
      refine sIfF (noob (by omega) (by omega)) ?_
      exact sXl ⟨(by show (0 ≤ p0.toInt ∧ p0.toInt ≤ 2); first | omega | assumption), trivial⟩
    · have fh2 := ltF h2
      exact s_X5_memoryAt_13  hN hK 
set_option maxHeartbeats 2000000 in
theorem s_X5_ledgerAt_13 {N K : Nat} {p0 : Int32} (hN : NBig N) (hK : 100 ≤ K)  : Sf (fX5_ledgerAt_13 N K p0  ) (xP true false (fun (z : Unit) => (0 ≤ p0.toInt ∧ p0.toInt ≤ 2) ∧ True)) := by
  unfold fX5_ledgerAt_13
  have ql0 : (0 : Int32).toInt = 0 := by decide
  exact sX1
set_option maxHeartbeats 2000000 in
theorem s_X5_ledgerAt {N K : Nat} {p0 : Int32} (hN : NBig N) (hK : 100 ≤ K)  : Sf (fX5_ledgerAt N K p0) (xP true false (fun (z : Unit) => (0 ≤ p0.toInt ∧ p0.toInt ≤ 2) ∧ True)) := by
  unfold fX5_ledgerAt
  have ql0 : (0 : Int32).toInt = 0 := by decide
  have ql3 : (3 : Int32).toInt = 3 := by decide
  refine sIf (fun h1 => ?_) (fun h1 => ?_)
  · have fh1 := ltT h1
    exact s_X5_ledgerAt_13  hN hK 
  · have fh1 := ltF h1
    refine sIf (fun h2 => ?_) (fun h2 => ?_)
    · have fh2 := ltT h2
      refine sIfF (noob (by omega) (by omega)) ?_
      exact sXl ⟨(by show (0 ≤ p0.toInt ∧ p0.toInt ≤ 2); first | omega | assumption), trivial⟩
    · have fh2 := ltF h2
      exact s_X5_ledgerAt_13  hN hK 
set_option maxHeartbeats 2000000 in
theorem s_X5_deskAt_13 {N K : Nat} {p0 : Int32} (hN : NBig N) (hK : 100 ≤ K)  : Sf (fX5_deskAt_13 N K p0  ) (xP true false (fun (z : Unit) => (0 ≤ p0.toInt ∧ p0.toInt ≤ 1) ∧ True)) := by
  unfold fX5_deskAt_13
  have ql0 : (0 : Int32).toInt = 0 := by decide
  exact sX1
set_option maxHeartbeats 2000000 in
theorem s_X5_deskAt {N K : Nat} {p0 : Int32} (hN : NBig N) (hK : 100 ≤ K)  : Sf (fX5_deskAt N K p0) (xP true false (fun (z : Unit) => (0 ≤ p0.toInt ∧ p0.toInt ≤ 1) ∧ True)) := by
  unfold fX5_deskAt
  have ql0 : (0 : Int32).toInt = 0 := by decide
  have ql2 : (2 : Int32).toInt = 2 := by decide
  refine sIf (fun h1 => ?_) (fun h1 => ?_)
  · have fh1 := ltT h1
    exact s_X5_deskAt_13  hN hK 
  · have fh1 := ltF h1
    refine sIf (fun h2 => ?_) (fun h2 => ?_)
    · have fh2 := ltT h2
      refine sIfF (noob (by omega) (by omega)) ?_
      exact sXl ⟨(by show (0 ≤ p0.toInt ∧ p0.toInt ≤ 1); first | omega | assumption), trivial⟩
    · have fh2 := ltF h2
      exact s_X5_deskAt_13  hN hK 
set_option maxHeartbeats 2000000 in
theorem s_X5_checkRange_10 {N K : Nat} {p0 : Int32} {p1 : Int32} {p2 : Int32} (hN : NBig N) (hK : 100 ≤ K) (hp0 : 0 ≤ p1.toInt) (hp1 : p1.toInt ≤ 1) (hp2 : 1 ≤ p2.toInt) (hp3 : p2.toInt ≤ 20) : Sf (fX5_checkRange_10 N K p0 p1 p2  ) (xP false true (fun (z : Unit) => (p1.toInt ≤ p0.toInt ∧ p0.toInt ≤ p2.toInt) ∧ True)) := by
  unfold fX5_checkRange_10
  have ql0 : (0 : Int32).toInt = 0 := by decide
  exact sX2
set_option maxHeartbeats 2000000 in
theorem s_X5_checkRange {N K : Nat} {p0 : Int32} {p1 : Int32} {p2 : Int32} (hN : NBig N) (hK : 100 ≤ K) (hp0 : 0 ≤ p1.toInt) (hp1 : p1.toInt ≤ 1) (hp2 : 1 ≤ p2.toInt) (hp3 : p2.toInt ≤ 20) : Sf (fX5_checkRange N K p0 p1 p2) (xP false true (fun (z : Unit) => (p1.toInt ≤ p0.toInt ∧ p0.toInt ≤ p2.toInt) ∧ True)) := by
  unfold fX5_checkRange
  have ql0 : (0 : Int32).toInt = 0 := by decide
  refine sIf (fun h1 => ?_) (fun h1 => ?_)
  · have fh1 := ltT h1
    exact s_X5_checkRange_10  hN hK (by omega) (by omega) (by omega) (by omega) 
  · have fh1 := ltF h1
    refine sIf (fun h2 => ?_) (fun h2 => ?_)
    · have fh2 := leT h2
      exact sXl ⟨(by show (p1.toInt ≤ p0.toInt ∧ p0.toInt ≤ p2.toInt); first | omega | assumption), trivial⟩
    · have fh2 := leF h2
      exact s_X5_checkRange_10  hN hK (by omega) (by omega) (by omega) (by omega) 
set_option maxHeartbeats 2000000 in
theorem s_X5_checkCase {N K : Nat} {p0 : Int32} {p1 : Int32} {p2 : Int32} (hN : NBig N) (hK : 100 ≤ K)  : Sf (fX5_checkCase N K p0 p1 p2) (xP false true (fun (z : Unit) => (0 ≤ p0.toInt ∧ p0.toInt ≤ 5) ∧ (0 ≤ p1.toInt ∧ p1.toInt ≤ 20) ∧ (0 ≤ p2.toInt ∧ p2.toInt ≤ 20) ∧ True)) := by
  unfold fX5_checkCase
  have ql0 : (0 : Int32).toInt = 0 := by decide
  have ql5 : (5 : Int32).toInt = 5 := by decide
  have ql20 : (20 : Int32).toInt = 20 := by decide
  refine sXb (s_X5_checkRange hN hK (by first | omega | decide) (by first | omega | decide) (by first | omega | decide) (by first | omega | decide)) (by decide) (by decide) (fun x3 b1 => ?_)
  obtain ⟨b1_0, -⟩ := b1
  replace b1_0 : ((0 : Int32).toInt ≤ p0.toInt ∧ p0.toInt ≤ (5 : Int32).toInt) := b1_0
  refine sXb (s_X5_checkRange hN hK (by first | omega | decide) (by first | omega | decide) (by first | omega | decide) (by first | omega | decide)) (by decide) (by decide) (fun x10 b2 => ?_)
  obtain ⟨b2_0, -⟩ := b2
  replace b2_0 : ((0 : Int32).toInt ≤ p1.toInt ∧ p1.toInt ≤ (20 : Int32).toInt) := b2_0
  refine sXb (s_X5_checkRange hN hK (by first | omega | decide) (by first | omega | decide) (by first | omega | decide) (by first | omega | decide)) (by decide) (by decide) (fun x17 b3 => ?_)
  obtain ⟨b3_0, -⟩ := b3
  replace b3_0 : ((0 : Int32).toInt ≤ p2.toInt ∧ p2.toInt ≤ (20 : Int32).toInt) := b3_0
  exact sXl ⟨(by show (0 ≤ p0.toInt ∧ p0.toInt ≤ 5); first | omega | assumption), (by show (0 ≤ p1.toInt ∧ p1.toInt ≤ 20); first | omega | assumption), (by show (0 ≤ p2.toInt ∧ p2.toInt ≤ 20); first | omega | assumption), trivial⟩
set_option maxHeartbeats 2000000 in
theorem s_X5_checkAnyCase {N K : Nat} {p0 : Int32} {p1 : Int32} {p2 : Int32} (hN : NBig N) (hK : 100 ≤ K)  : Sf (fX5_checkAnyCase N K p0 p1 p2) (xP false true (fun (z : Unit) => (0 ≤ p0.toInt ∧ p0.toInt ≤ 7) ∧ (0 ≤ p1.toInt ∧ p1.toInt ≤ 20) ∧ (0 ≤ p2.toInt ∧ p2.toInt ≤ 20) ∧ True)) := by
  unfold fX5_checkAnyCase
  have ql0 : (0 : Int32).toInt = 0 := by decide
  have ql7 : (7 : Int32).toInt = 7 := by decide
  have ql20 : (20 : Int32).toInt = 20 := by decide
  refine sXb (s_X5_checkRange hN hK (by first | omega | decide) (by first | omega | decide) (by first | omega | decide) (by first | omega | decide)) (by decide) (by decide) (fun x4 b1 => ?_)
  obtain ⟨b1_0, -⟩ := b1
  replace b1_0 : ((0 : Int32).toInt ≤ p0.toInt ∧ p0.toInt ≤ (7 : Int32).toInt) := b1_0
  refine sXb (s_X5_checkRange hN hK (by first | omega | decide) (by first | omega | decide) (by first | omega | decide) (by first | omega | decide)) (by decide) (by decide) (fun x11 b2 => ?_)
  obtain ⟨b2_0, -⟩ := b2
  replace b2_0 : ((0 : Int32).toInt ≤ p1.toInt ∧ p1.toInt ≤ (20 : Int32).toInt) := b2_0
  refine sXb (s_X5_checkRange hN hK (by first | omega | decide) (by first | omega | decide) (by first | omega | decide) (by first | omega | decide)) (by decide) (by decide) (fun x18 b3 => ?_)
  obtain ⟨b3_0, -⟩ := b3
  replace b3_0 : ((0 : Int32).toInt ≤ p2.toInt ∧ p2.toInt ≤ (20 : Int32).toInt) := b3_0
  exact sXl ⟨(by show (0 ≤ p0.toInt ∧ p0.toInt ≤ 7); first | omega | assumption), (by show (0 ≤ p1.toInt ∧ p1.toInt ≤ 20); first | omega | assumption), (by show (0 ≤ p2.toInt ∧ p2.toInt ≤ 20); first | omega | assumption), trivial⟩
set_option maxHeartbeats 2000000 in
theorem s_X5_acted {N K : Nat} {c0 : Int32} {c1 : Int32} {c2 : Int32} {c3 : Int32} {c4 : Int32} {c5 : Int32} {p0 : Int32} (hN : NBig N) (hK : 100 ≤ K)  : Sf (fX5_acted N K c0 c1 c2 c3 c4 c5 p0) (fun (z : Int32 × Int32) => True) := by
  unfold fX5_acted
  have ql0 : (0 : Int32).toInt = 0 := by decide
  exact sRet trivial
set_option maxHeartbeats 2000000 in
theorem s_X5_undone {N K : Nat} {c0 : Int32} {c1 : Int32} {c2 : Int32} {c3 : Int32} {c4 : Int32} {c5 : Int32} (hN : NBig N) (hK : 100 ≤ K)  : Sf (fX5_undone N K c0 c1 c2 c3 c4 c5) (fun (z : Int32 × Int32) => -9 ≤ z.1.toInt ∧ z.1.toInt ≤ -9 ∧ True) := by
  unfold fX5_undone
  have ql0 : (0 : Int32).toInt = 0 := by decide
  exact sRet ⟨(by show -9 ≤ (-9 : Int32).toInt; decide), (by show (-9 : Int32).toInt ≤ -9; decide), trivial⟩
set_option maxHeartbeats 2000000 in
theorem s_X5_waysOneByOne_41 {N K : Nat} {fw : Nat → Int32} {fs : Nat → Int32} {p0 : Int32} {p1 : Int32} {p2 : Int32} (hN : NBig N) (hK : 100 ≤ K) (hp0 : 0 ≤ p0.toInt) (hp1 : p0.toInt ≤ 7) (hp2 : 0 ≤ p1.toInt) (hp3 : p1.toInt ≤ 20) (hp4 : 0 ≤ p2.toInt) (hp5 : p2.toInt ≤ 20) {k_14 : Int32 → Int32 → (Nat → Int32) → (Nat → Int32) → Option (Int32 × (Nat → Int32) × (Nat → Int32))} {m_14 : Nat} (hk_14 : ∀ (l4 : Int32) (l5 : Int32) (fw_ : (Nat → Int32)) (fs_ : (Nat → Int32)), (1000000 - l5.toInt).toNat < m_14 → 0 ≤ l5.toInt → l5.toInt ≤ 1000000 → OkD fw_ → Sf (k_14 l4 l5 fw_ fs_) (fun (z : Int32 × (Nat → Int32) × (Nat → Int32)) => True)) : ∀ (l4 : Int32) (l5 : Int32) (fw_ : Nat → Int32) (fs_ : Nat → Int32), 0 ≤ l5.toInt → l5.toInt ≤ 999999 → OkD fw_ → (1000000 - l5.toInt).toNat ≤ m_14 → Sf (fX5_waysOneByOne_41 N K fw fs p0 p1 p2 k_14 l4 l5 fw_ fs_) (fun (z : Int32 × (Nat → Int32) × (Nat → Int32)) => True) := by
  intro l4 l5 fw_ fs_ hq0 hq1 hq2 hq3
  unfold fX5_waysOneByOne_41
  have ql0 : (0 : Int32).toInt = 0 := by decide
  have ql1 : (1 : Int32).toInt = 1 := by decide
  refine sBind (s_X4_stepOn hN hK (by first | assumption | exact OkD.z)) (fun x45 b1 => ?_)
  obtain ⟨b1_0, b1_1, b1_2, -⟩ := b1
  replace b1_0 : 0 ≤ x45.1.toInt := b1_0
  replace b1_1 : x45.1.toInt ≤ 1 := b1_1
  replace b1_2 : OkD x45.2 := b1_2
  refine sIf (fun h2 => ?_) (fun h2 => ?_)
  · have fh2 := eqT h2
    exact sRet trivial
  · have fh2 := eqF h2
    have t3 := addI (a := l5) (b := (1 : Int32)) (by omega) (by omega)
    exact hk_14 _ _ _ _ (by omega) (by first | omega | decide) (by first | omega | decide) (by assumption)
set_option maxHeartbeats 2000000 in
theorem s_X5_waysOneByOne_14 {N K : Nat} {fw : Nat → Int32} {fs : Nat → Int32} {p0 : Int32} {p1 : Int32} {p2 : Int32} (hN : NBig N) (hK : 100 ≤ K) (hp0 : 0 ≤ p0.toInt) (hp1 : p0.toInt ≤ 7) (hp2 : 0 ≤ p1.toInt) (hp3 : p1.toInt ≤ 20) (hp4 : 0 ≤ p2.toInt) (hp5 : p2.toInt ≤ 20) : ∀ (fu : Nat) (l4 : Int32) (l5 : Int32) (fw_ : (Nat → Int32)) (fs_ : (Nat → Int32)), (1000000 - l5.toInt).toNat < fu → 0 ≤ l5.toInt → l5.toInt ≤ 1000000 → OkD fw_ → Sf (fX5_waysOneByOne_14 N K fw fs p0 p1 p2  fu l4 l5 fw_ fs_) (fun (z : Int32 × (Nat → Int32) × (Nat → Int32)) => True) := by
  intro fu
  induction fu with
  | zero => intro l4 l5 fw_ fs_ h0 hq0 hq1 hq2; omega
  | succ fu ih =>
    intro l4 l5 fw_ fs_ h0 hq0 hq1 hq2
    unfold fX5_waysOneByOne_14
    have ql0 : (0 : Int32).toInt = 0 := by decide
    have ql1000000 : (1000000 : Int32).toInt = 1000000 := by decide
    refine sIf (fun h1 => ?_) (fun h1 => ?_)
    · have fh1 := leT h1
      exact sRet trivial
    · have fh1 := leF h1
      refine sBind (s_X4_isOfKind hN hK (by first | omega | decide) (by first | omega | decide) (by first | omega | decide) (by first | omega | decide) (by first | assumption | exact OkD.z)) (fun x32 b2 => ?_)
      obtain ⟨b2_0, b2_1, -⟩ := b2
      replace b2_0 : 0 ≤ x32.1.toInt := b2_0
      replace b2_1 : x32.1.toInt ≤ 1 := b2_1
      refine sIf (fun h3 => ?_) (fun h3 => ?_)
      · have fh3 := eqT h3
        exact s_X5_waysOneByOne_41 (hk_14 := ih) hN hK (by omega) (by omega) (by omega) (by omega) (by omega) (by omega) _ _ _ _ (by first | omega | decide) (by first | omega | decide) (by assumption) (by omega)
      · have fh3 := eqF h3
        exact s_X5_waysOneByOne_41 (hk_14 := ih) hN hK (by omega) (by omega) (by omega) (by omega) (by omega) (by omega) _ _ _ _ (by first | omega | decide) (by first | omega | decide) (by assumption) (by omega)
set_option maxHeartbeats 2000000 in
theorem s_X5_waysOneByOne {N K : Nat} {fw : Nat → Int32} {fs : Nat → Int32} {p0 : Int32} {p1 : Int32} {p2 : Int32} (hN : NBig N) (hK : 100 ≤ K) (hp0 : 0 ≤ p0.toInt) (hp1 : p0.toInt ≤ 7) (hp2 : 0 ≤ p1.toInt) (hp3 : p1.toInt ≤ 20) (hp4 : 0 ≤ p2.toInt) (hp5 : p2.toInt ≤ 20) : Sf (fX5_waysOneByOne N K fw fs p0 p1 p2) (fun (z : Int32 × (Nat → Int32) × (Nat → Int32)) => True) := by
  unfold fX5_waysOneByOne
  have hN9 := hN.u
  have ql0 : (0 : Int32).toInt = 0 := by decide
  refine sBind (s_X4_becomeFirst hN hK (by first | omega | decide) (by first | omega | decide)) (fun x5 b1 => ?_)
  obtain ⟨b1_0, -⟩ := b1
  replace b1_0 : OkD x5 := b1_0
  exact s_X5_waysOneByOne_14  hN hK (by omega) (by omega) (by omega) (by omega) (by omega) (by omega) _ _ _ _ _ (by omega) (by first | omega | decide) (by first | omega | decide) (by assumption)
set_option maxHeartbeats 2000000 in
theorem s_X5_know {N K : Nat} {sz : Int32} {f : Nat → Int32} {c0 : Int32} {c1 : Int32} {c2 : Int32} {c3 : Int32} {c4 : Int32} {c5 : Int32} {p0 : Int32} {p1 : Int32} {p2 : Int32} {p3 : Int32} (hN : NBig N) (hK : 100 ≤ K)  : Sf (fX5_know N K sz f c0 c1 c2 c3 c4 c5 p0 p1 p2 p3) (xP true true (fun (z : Int32 × Int32 × (Nat → Int32) × Int32 × Int32 × Int32 × Int32) => True)) := by
  unfold fX5_know
  have ql0 : (0 : Int32).toInt = 0 := by decide
  refine sXb (s_X5_memoryAt hN hK) (by decide) (by decide) (fun x2 b1 => ?_)
  obtain ⟨b1_0, -⟩ := b1
  replace b1_0 : (0 ≤ p0.toInt ∧ p0.toInt ≤ 2) := b1_0
  refine sXb (s_X5_checkCase hN hK) (by decide) (by decide) (fun x11 b2 => ?_)
  obtain ⟨b2_0, b2_1, b2_2, -⟩ := b2
  replace b2_0 : (0 ≤ p1.toInt ∧ p1.toInt ≤ 5) := b2_0
  replace b2_1 : (0 ≤ p2.toInt ∧ p2.toInt ≤ 20) := b2_1
  replace b2_2 : (0 ≤ p3.toInt ∧ p3.toInt ≤ 20) := b2_2
  refine sBind (s_X2_recall hN hK (by first | omega | decide) (by first | omega | decide)) (fun x25 b3 => ?_)
  refine sBind (s_X5_acted hN hK) (fun x28 b4 => ?_)
  exact sXl trivial
set_option maxHeartbeats 2000000 in
theorem s_X5_few_27 {N K : Nat} {sz : Int32} {f : Nat → Int32} {c0 : Int32} {c1 : Int32} {c2 : Int32} {c3 : Int32} {c4 : Int32} {c5 : Int32} {p0 : Int32} {p1 : Int32} {p2 : Int32} (hN : NBig N) (hK : 100 ≤ K)  : ∀ (fu : Nat) (l5 : Int32) (l6 : Int32) (sz_ : Int32) (f_ : (Nat → Int32)) (c0_ : Int32) (c1_ : Int32) (c2_ : Int32) (c3_ : Int32), (21 - l6.toInt).toNat < fu → 0 ≤ p0.toInt → p0.toInt ≤ 2 → 0 ≤ p1.toInt → p1.toInt ≤ 20 → 0 ≤ p2.toInt → p2.toInt ≤ 20 → 0 ≤ l6.toInt → l6.toInt ≤ 21 → Sf (fX5_few_27 N K sz f c0 c1 c2 c3 c4 c5 p0 p1 p2  fu l5 l6 sz_ f_ c0_ c1_ c2_ c3_) (xP true true (fun (z : Int32 × Int32 × (Nat → Int32) × Int32 × Int32 × Int32 × Int32) => True)) := by
  intro fu
  induction fu with
  | zero => intro l5 l6 sz_ f_ c0_ c1_ c2_ c3_ h0 hq0 hq1 hq2 hq3 hq4 hq5 hq6 hq7; omega
  | succ fu ih =>
    intro l5 l6 sz_ f_ c0_ c1_ c2_ c3_ h0 hq0 hq1 hq2 hq3 hq4 hq5 hq6 hq7
    unfold fX5_few_27
    have ql0 : (0 : Int32).toInt = 0 := by decide
    have ql1 : (1 : Int32).toInt = 1 := by decide
    refine sIf (fun h1 => ?_) (fun h1 => ?_)
    · have fh1 := ltT h1
      refine sBind (s_X5_acted hN hK) (fun x60 b2 => ?_)
      exact sXl trivial
    · have fh1 := ltF h1
      refine sBind (s_X2_recall hN hK (by first | omega | decide) (by first | omega | decide)) (fun x45 b3 => ?_)
      have t5 := addI (a := l6) (b := (1 : Int32)) (by omega) (by omega)
      exact ih _ _ _ _ _ _ _ _ (by omega) (by first | omega | decide) (by first | omega | decide) (by first | omega | decide) (by first | omega | decide) (by first | omega | decide) (by first | omega | decide) (by first | omega | decide) (by first | omega | decide)
set_option maxHeartbeats 2000000 in
theorem s_X5_few {N K : Nat} {sz : Int32} {f : Nat → Int32} {c0 : Int32} {c1 : Int32} {c2 : Int32} {c3 : Int32} {c4 : Int32} {c5 : Int32} {p0 : Int32} {p1 : Int32} {p2 : Int32} (hN : NBig N) (hK : 100 ≤ K)  : Sf (fX5_few N K sz f c0 c1 c2 c3 c4 c5 p0 p1 p2) (xP true true (fun (z : Int32 × Int32 × (Nat → Int32) × Int32 × Int32 × Int32 × Int32) => True)) := by
  unfold fX5_few
  have hN9 := hN.u
  have ql0 : (0 : Int32).toInt = 0 := by decide
  have ql20 : (20 : Int32).toInt = 20 := by decide
  refine sXb (s_X5_memoryAt hN hK) (by decide) (by decide) (fun x2 b1 => ?_)
  obtain ⟨b1_0, -⟩ := b1
  replace b1_0 : (0 ≤ p0.toInt ∧ p0.toInt ≤ 2) := b1_0
  refine sXb (s_X5_checkRange hN hK (by first | omega | decide) (by first | omega | decide) (by first | omega | decide) (by first | omega | decide)) (by decide) (by decide) (fun x11 b2 => ?_)
  obtain ⟨b2_0, -⟩ := b2
  replace b2_0 : ((0 : Int32).toInt ≤ p1.toInt ∧ p1.toInt ≤ (20 : Int32).toInt) := b2_0
  refine sXb (s_X5_checkRange hN hK (by first | omega | decide) (by first | omega | decide) (by first | omega | decide) (by first | omega | decide)) (by decide) (by decide) (fun x18 b3 => ?_)
  obtain ⟨b3_0, -⟩ := b3
  replace b3_0 : ((0 : Int32).toInt ≤ p2.toInt ∧ p2.toInt ≤ (20 : Int32).toInt) := b3_0
  exact s_X5_few_27  hN hK _ _ _ _ _ _ _ _ _ (by omega) (by first | omega | decide) (by first | omega | decide) (by first | omega | decide) (by first | omega | decide) (by first | omega | decide) (by first | omega | decide) (by first | omega | decide) (by first | omega | decide)
set_option maxHeartbeats 2000000 in
theorem s_X5_surplus_56 {N K : Nat} {sz : Int32} {f : Nat → Int32} {c0 : Int32} {c1 : Int32} {c2 : Int32} {c3 : Int32} {c4 : Int32} {c5 : Int32} {p0 : Int32} {p1 : Int32} (hN : NBig N) (hK : 100 ≤ K)  {k_19 : Int32 → Int32 → Int32 → (Nat → Int32) → Int32 → Int32 → Int32 → Int32 → Option ((Int32 × Int32 × (Nat → Int32) × Int32 × Int32 × Int32 × Int32) ⊕ String)} {m_19 : Nat} (hk_19 : ∀ (l4 : Int32) (l5 : Int32) (sz_ : Int32) (f_ : (Nat → Int32)) (c0_ : Int32) (c1_ : Int32) (c2_ : Int32) (c3_ : Int32), (21 - l5.toInt).toNat < m_19 → 0 ≤ p0.toInt → p0.toInt ≤ 2 → 0 ≤ p1.toInt → p1.toInt ≤ 20 → 0 ≤ l5.toInt → l5.toInt ≤ 21 → Sf (k_19 l4 l5 sz_ f_ c0_ c1_ c2_ c3_) (xP true true (fun (z : Int32 × Int32 × (Nat → Int32) × Int32 × Int32 × Int32 × Int32) => True))) : ∀ (l5 : Int32) (s0 : Int32) (s1 : Int32) (sz_ : Int32) (f_ : Nat → Int32) (c0_ : Int32) (c1_ : Int32) (c2_ : Int32) (c3_ : Int32), 0 ≤ p0.toInt → p0.toInt ≤ 2 → 0 ≤ p1.toInt → p1.toInt ≤ 20 → 0 ≤ l5.toInt → l5.toInt ≤ 20 → (s0.toInt = 0 → 0 ≤ p0.toInt ∧ p0.toInt ≤ 2 ∧ 0 ≤ p1.toInt ∧ p1.toInt ≤ 20) → (s1.toInt = 0 → 0 ≤ p0.toInt ∧ p0.toInt ≤ 2 ∧ 0 ≤ p1.toInt ∧ p1.toInt ≤ 20) → (21 - l5.toInt).toNat ≤ m_19 → Sf (fX5_surplus_56 N K sz f c0 c1 c2 c3 c4 c5 p0 p1 k_19 l5 s0 s1 sz_ f_ c0_ c1_ c2_ c3_) (xP true true (fun (z : Int32 × Int32 × (Nat → Int32) × Int32 × Int32 × Int32 × Int32) => True)) := by
  intro l5 s0 s1 sz_ f_ c0_ c1_ c2_ c3_ hq0 hq1 hq2 hq3 hq4 hq5 hq6 hq7 hq8
  unfold fX5_surplus_56
  have ql0 : (0 : Int32).toInt = 0 := by decide
  have ql1 : (1 : Int32).toInt = 1 := by decide
  have t2 := addI (a := l5) (b := (1 : Int32)) (by omega) (by omega)
  exact hk_19 _ _ _ _ _ _ _ _ (by omega) (by first | omega | decide) (by first | omega | decide) (by first | omega | decide) (by first | omega | decide) (by first | omega | decide) (by first | omega | decide)
set_option maxHeartbeats 2000000 in
theorem s_X5_surplus_19 {N K : Nat} {sz : Int32} {f : Nat → Int32} {c0 : Int32} {c1 : Int32} {c2 : Int32} {c3 : Int32} {c4 : Int32} {c5 : Int32} {p0 : Int32} {p1 : Int32} (hN : NBig N) (hK : 100 ≤ K)  : ∀ (fu : Nat) (l4 : Int32) (l5 : Int32) (sz_ : Int32) (f_ : (Nat → Int32)) (c0_ : Int32) (c1_ : Int32) (c2_ : Int32) (c3_ : Int32), (21 - l5.toInt).toNat < fu → 0 ≤ p0.toInt → p0.toInt ≤ 2 → 0 ≤ p1.toInt → p1.toInt ≤ 20 → 0 ≤ l5.toInt → l5.toInt ≤ 21 → Sf (fX5_surplus_19 N K sz f c0 c1 c2 c3 c4 c5 p0 p1  fu l4 l5 sz_ f_ c0_ c1_ c2_ c3_) (xP true true (fun (z : Int32 × Int32 × (Nat → Int32) × Int32 × Int32 × Int32 × Int32) => True)) := by
  intro fu
  induction fu with
  | zero => intro l4 l5 sz_ f_ c0_ c1_ c2_ c3_ h0 hq0 hq1 hq2 hq3 hq4 hq5; omega
  | succ fu ih =>
    intro l4 l5 sz_ f_ c0_ c1_ c2_ c3_ h0 hq0 hq1 hq2 hq3 hq4 hq5
    unfold fX5_surplus_19
    have ql0 : (0 : Int32).toInt = 0 := by decide
    have ql2 : (2 : Int32).toInt = 2 := by decide
    have ql5 : (5 : Int32).toInt = 5 := by decide
    refine sIf (fun h1 => ?_) (fun h1 => ?_)
    · have fh1 := ltT h1
      refine sBind (s_X5_acted hN hK) (fun x68 b2 => ?_)
      exact sXl trivial
    · have fh1 := ltF h1
      refine sBind (s_X2_recall hN hK (by first | omega | decide) (by first | omega | decide)) (fun x34 b3 => ?_)
      refine sIf (fun h4 => ?_) (fun h4 => ?_)
      · have t5 := modL (a := l5) (b := (2 : Int32)) ql2 (by omega)
        have fh4 := eqT h4
        exact s_X5_surplus_56 (hk_19 := ih) hN hK _ _ _ _ _ _ _ _ _ (by first | omega | decide) (by first | omega | decide) (by first | omega | decide) (by first | omega | decide) (by first | omega | decide) (by first | omega | decide) (by first | omega | decide) (by first | omega | decide) (by omega)
      · have t6 := modL (a := l5) (b := (2 : Int32)) ql2 (by omega)
        have fh4 := eqF h4
        exact s_X5_surplus_56 (hk_19 := ih) hN hK _ _ _ _ _ _ _ _ _ (by first | omega | decide) (by first | omega | decide) (by first | omega | decide) (by first | omega | decide) (by first | omega | decide) (by first | omega | decide) (by first | omega | decide) (by first | omega | decide) (by omega)
set_option maxHeartbeats 2000000 in
theorem s_X5_surplus {N K : Nat} {sz : Int32} {f : Nat → Int32} {c0 : Int32} {c1 : Int32} {c2 : Int32} {c3 : Int32} {c4 : Int32} {c5 : Int32} {p0 : Int32} {p1 : Int32} (hN : NBig N) (hK : 100 ≤ K)  : Sf (fX5_surplus N K sz f c0 c1 c2 c3 c4 c5 p0 p1) (xP true true (fun (z : Int32 × Int32 × (Nat → Int32) × Int32 × Int32 × Int32 × Int32) => True)) := by
  unfold fX5_surplus
  have hN9 := hN.u
  have ql0 : (0 : Int32).toInt = 0 := by decide
  have ql20 : (20 : Int32).toInt = 20 := by decide
  refine sXb (s_X5_memoryAt hN hK) (by decide) (by decide) (fun x2 b1 => ?_)
  obtain ⟨b1_0, -⟩ := b1
  replace b1_0 : (0 ≤ p0.toInt ∧ p0.toInt ≤ 2) := b1_0
  refine sXb (s_X5_checkRange hN hK (by first | omega | decide) (by first | omega | decide) (by first | omega | decide) (by first | omega | decide)) (by decide) (by decide) (fun x10 b2 => ?_)
  obtain ⟨b2_0, -⟩ := b2
  replace b2_0 : ((0 : Int32).toInt ≤ p1.toInt ∧ p1.toInt ≤ (20 : Int32).toInt) := b2_0
  exact s_X5_surplus_19  hN hK _ _ _ _ _ _ _ _ _ (by omega) (by first | omega | decide) (by first | omega | decide) (by first | omega | decide) (by first | omega | decide) (by first | omega | decide) (by first | omega | decide)
set_option maxHeartbeats 2000000 in
theorem s_X5_place_46 {N K : Nat} {sz : Int32} {f : Nat → Int32} {fd : Nat → Int32} {c0 : Int32} {c1 : Int32} {c2 : Int32} {c3 : Int32} {c4 : Int32} {c5 : Int32} {p0 : Int32} {p1 : Int32} (hN : NBig N) (hK : 100 ≤ K)  {k_31 : Int32 → Int32 → Int32 → Int32 → Int32 → (Nat → Int32) → Int32 → Int32 → Int32 → Int32 → Option ((Int32 × Int32 × (Nat → Int32) × Int32 × Int32 × Int32 × Int32) ⊕ String)} {m_31 : Nat} (hk_31 : ∀ (l5 : Int32) (l6 : Int32) (l7 : Int32) (l8 : Int32) (sz_ : Int32) (f_ : (Nat → Int32)) (c0_ : Int32) (c1_ : Int32) (c2_ : Int32) (c3_ : Int32), (l8.toInt - 0).toNat < m_31 → 0 ≤ p0.toInt → p0.toInt ≤ 2 → 0 ≤ p1.toInt → p1.toInt ≤ 1 → 0 ≤ l8.toInt → l8.toInt ≤ 20 → Sf (k_31 l5 l6 l7 l8 sz_ f_ c0_ c1_ c2_ c3_) (xP true false (fun (z : Int32 × Int32 × (Nat → Int32) × Int32 × Int32 × Int32 × Int32) => True))) : ∀ (fu : Nat) (l5 : Int32) (l6 : Int32) (l7 : Int32) (l8 : Int32) (l9 : Int32) (sz_ : Int32) (f_ : (Nat → Int32)) (c0_ : Int32) (c1_ : Int32) (c2_ : Int32) (c3_ : Int32), M31 l9 < fu → 0 ≤ p0.toInt → p0.toInt ≤ 2 → 0 ≤ p1.toInt → p1.toInt ≤ 1 → 1 ≤ l8.toInt → l8.toInt ≤ 20 → (l8.toInt - 0).toNat ≤ m_31 → Sf (fX5_place_46 N K sz f fd c0 c1 c2 c3 c4 c5 p0 p1 k_31 fu l5 l6 l7 l8 l9 sz_ f_ c0_ c1_ c2_ c3_) (xP true false (fun (z : Int32 × Int32 × (Nat → Int32) × Int32 × Int32 × Int32 × Int32) => True)) := by
  intro fu
  induction fu with
  | zero => intro l5 l6 l7 l8 l9 sz_ f_ c0_ c1_ c2_ c3_ h0 hq0 hq1 hq2 hq3 hq4 hq5 hq6; omega
  | succ fu ih =>
    intro l5 l6 l7 l8 l9 sz_ f_ c0_ c1_ c2_ c3_ h0 hq0 hq1 hq2 hq3 hq4 hq5 hq6
    unfold fX5_place_46
    have ql0 : (0 : Int32).toInt = 0 := by decide
    refine sIf (fun h1 => ?_) (fun h1 => ?_)
    · have fh1 := leT h1
      clear h0
      have t2 : (l8 + (-1 : Int32)).toInt = l8.toInt + (-1) := addL (by decide) (by omega) (by omega)
      exact hk_31 _ _ _ _ _ _ _ _ _ _ (by (try generalize l8 + (-1 : Int32) = d0_ at *); omega) (by (try generalize l8 + (-1 : Int32) = d0_ at *); first | omega | decide) (by (try generalize l8 + (-1 : Int32) = d0_ at *); first | omega | decide) (by (try generalize l8 + (-1 : Int32) = d0_ at *); first | omega | decide) (by (try generalize l8 + (-1 : Int32) = d0_ at *); first | omega | decide) (by (try generalize l8 + (-1 : Int32) = d0_ at *); first | omega | decide) (by (try generalize l8 + (-1 : Int32) = d0_ at *); first | omega | decide)
    · have fh1 := leF h1
      have z9 := M31_dec (x := l9) (by omega)
      refine sBind (s_X2_recall hN hK (by first | omega | decide) (by first | omega | decide)) (fun x63 b3 => ?_)
      refine sBind (s_X2_recall hN hK (by first | omega | decide) (by first | omega | decide)) (fun x81 b4 => ?_)
      have r8 := rgI l9
      have t7 : (l9 + (-1 : Int32)).toInt = l9.toInt + (-1) := addL (by decide) (by omega) (by omega)
      exact ih _ _ _ _ _ _ _ _ _ _ _ (by (try generalize l9 + (-1 : Int32) = d0_ at *); omega) (by (try generalize l9 + (-1 : Int32) = d0_ at *); first | omega | decide) (by (try generalize l9 + (-1 : Int32) = d0_ at *); first | omega | decide) (by (try generalize l9 + (-1 : Int32) = d0_ at *); first | omega | decide) (by (try generalize l9 + (-1 : Int32) = d0_ at *); first | omega | decide) (by (try generalize l9 + (-1 : Int32) = d0_ at *); first | omega | decide) (by (try generalize l9 + (-1 : Int32) = d0_ at *); first | omega | decide) (by (try generalize l9 + (-1 : Int32) = d0_ at *); omega)
set_option maxHeartbeats 2000000 in
theorem s_X5_place_31 {N K : Nat} {sz : Int32} {f : Nat → Int32} {fd : Nat → Int32} {c0 : Int32} {c1 : Int32} {c2 : Int32} {c3 : Int32} {c4 : Int32} {c5 : Int32} {p0 : Int32} {p1 : Int32} (hN : NBig N) (hK : 100 ≤ K)  : ∀ (fu : Nat) (l5 : Int32) (l6 : Int32) (l7 : Int32) (l8 : Int32) (sz_ : Int32) (f_ : (Nat → Int32)) (c0_ : Int32) (c1_ : Int32) (c2_ : Int32) (c3_ : Int32), (l8.toInt - 0).toNat < fu → 0 ≤ p0.toInt → p0.toInt ≤ 2 → 0 ≤ p1.toInt → p1.toInt ≤ 1 → 0 ≤ l8.toInt → l8.toInt ≤ 20 → Sf (fX5_place_31 N K sz f fd c0 c1 c2 c3 c4 c5 p0 p1  fu l5 l6 l7 l8 sz_ f_ c0_ c1_ c2_ c3_) (xP true false (fun (z : Int32 × Int32 × (Nat → Int32) × Int32 × Int32 × Int32 × Int32) => True)) := by
  intro fu
  induction fu with
  | zero => intro l5 l6 l7 l8 sz_ f_ c0_ c1_ c2_ c3_ h0 hq0 hq1 hq2 hq3 hq4 hq5; omega
  | succ fu ih =>
    intro l5 l6 l7 l8 sz_ f_ c0_ c1_ c2_ c3_ h0 hq0 hq1 hq2 hq3 hq4 hq5
    unfold fX5_place_31
    have hN9 := hN.u
    have ql0 : (0 : Int32).toInt = 0 := by decide
    have ql1 : (1 : Int32).toInt = 1 := by decide
    refine sIf (fun h1 => ?_) (fun h1 => ?_)
    · have fh1 := ltT h1
      refine sBind (s_X5_acted hN hK) (fun x113 b2 => ?_)
      exact sXl trivial
    · have fh1 := ltF h1
      refine sBind (s_X4_timesOf hN hK (by first | omega | decide) (by first | omega | decide)) (fun x41 b3 => ?_)
      have z8 := M31_N hN x41
      exact s_X5_place_46 (hk_31 := ih) hN hK _ _ _ _ _ _ _ _ _ _ _ _ (by omega) (by first | omega | decide) (by first | omega | decide) (by first | omega | decide) (by first | omega | decide) (by first | omega | decide) (by first | omega | decide) (by omega)
set_option maxHeartbeats 2000000 in
theorem s_X5_place {N K : Nat} {sz : Int32} {f : Nat → Int32} {fd : Nat → Int32} {c0 : Int32} {c1 : Int32} {c2 : Int32} {c3 : Int32} {c4 : Int32} {c5 : Int32} {p0 : Int32} {p1 : Int32} (hN : NBig N) (hK : 100 ≤ K)  : Sf (fX5_place N K sz f fd c0 c1 c2 c3 c4 c5 p0 p1) (xP true false (fun (z : Int32 × Int32 × (Nat → Int32) × Int32 × Int32 × Int32 × Int32) => True)) := by
  unfold fX5_place
  have hN9 := hN.u
  have ql0 : (0 : Int32).toInt = 0 := by decide
  have ql20 : (20 : Int32).toInt = 20 := by decide
  refine sXb (s_X5_memoryAt hN hK) (by decide) (by decide) (fun x2 b1 => ?_)
  obtain ⟨b1_0, -⟩ := b1
  replace b1_0 : (0 ≤ p0.toInt ∧ p0.toInt ≤ 2) := b1_0
  refine sXb (s_X5_deskAt hN hK) (by decide) (by decide) (fun x8 b2 => ?_)
  obtain ⟨b2_0, -⟩ := b2
  replace b2_0 : (0 ≤ p1.toInt ∧ p1.toInt ≤ 1) := b2_0
  refine sBind (s_X4_sum hN hK) (fun x15 b3 => ?_)
  exact s_X5_place_31  hN hK _ _ _ _ _ _ _ _ _ _ _ (by omega) (by first | omega | decide) (by first | omega | decide) (by first | omega | decide) (by first | omega | decide) (by first | omega | decide) (by first | omega | decide)
set_option maxHeartbeats 2000000 in
theorem s_X5_learn {N K : Nat} {sz : Int32} {f : Nat → Int32} {c0 : Int32} {c1 : Int32} {c2 : Int32} {c3 : Int32} {c4 : Int32} {c5 : Int32} {g : Nat → Int32} {p0 : Int32} {p1 : Int32} {p2 : Int32} {p3 : Int32} (hN : NBig N) (hK : 100 ≤ K)  : Sf (fX5_learn N K sz f c0 c1 c2 c3 c4 c5 g p0 p1 p2 p3) (xP true true (fun (z : Int32 × Int32 × (Nat → Int32) × Int32 × Int32 × (Nat → Int32)) => True)) := by
  unfold fX5_learn
  have ql0 : (0 : Int32).toInt = 0 := by decide
  have ql1 : (1 : Int32).toInt = 1 := by decide
  refine sXb (s_X5_memoryAt hN hK) (by decide) (by decide) (fun x2 b1 => ?_)
  obtain ⟨b1_0, -⟩ := b1
  replace b1_0 : (0 ≤ p0.toInt ∧ p0.toInt ≤ 2) := b1_0
  refine sXb (s_X5_checkCase hN hK) (by decide) (by decide) (fun x11 b2 => ?_)
  obtain ⟨b2_0, b2_1, b2_2, -⟩ := b2
  replace b2_0 : (0 ≤ p1.toInt ∧ p1.toInt ≤ 5) := b2_0
  replace b2_1 : (0 ≤ p2.toInt ∧ p2.toInt ≤ 20) := b2_1
  replace b2_2 : (0 ≤ p3.toInt ∧ p3.toInt ≤ 20) := b2_2
  refine sBind (s_X5_rests hN hK) (fun x17 b3 => ?_)
  obtain ⟨b3_0, b3_1, b3_2, b3_3, -⟩ := b3
  replace b3_0 : 0 ≤ x17.toInt := b3_0
  replace b3_1 : x17.toInt ≤ 1 := b3_1
  replace b3_2 : (x17.toInt = 0 → (1 ≤ p2.toInt)) := b3_2
  replace b3_3 : (x17.toInt = 0 → p3.toInt ≠ 0) := b3_3
  refine sIf (fun h4 => ?_) (fun h4 => ?_)
  · have fh4 := eqT h4
    refine sBind (s_X2_keeps hN hK (by first | omega | decide) (by first | omega | decide) (by first | omega | decide) (by first | omega | decide) (by first | omega | decide) (by first | omega | decide)) (fun x34 b5 => ?_)
    obtain ⟨b5_0, b5_1, -⟩ := b5
    replace b5_0 : 0 ≤ x34.toInt := b5_0
    replace b5_1 : x34.toInt ≤ 1 := b5_1
    refine sIf (fun h6 => ?_) (fun h6 => ?_)
    · have fh6 := eqT h6
      refine sBind (s_X3_tells hN hK (by first | omega | decide) (by first | omega | decide) (by first | omega | decide) (by first | omega | decide) (by first | omega | decide) (by first | omega | decide)) (fun x60 b7 => ?_)
      refine sBind (s_X2_keep hN hK (by first | omega | decide) (by first | omega | decide) (by first | omega | decide)) (fun x63 b8 => ?_)
      refine sBind (s_X5_acted hN hK) (fun x68 b9 => ?_)
      exact sXl trivial
    · have fh6 := eqF h6
      refine sBind (s_X5_acted hN hK) (fun x42 b10 => ?_)
      exact sXl trivial
  · have fh4 := eqF h4
    refine sBind (s_X5_undone hN hK) (fun x24 b11 => ?_)
    obtain ⟨b11_0, b11_1, -⟩ := b11
    replace b11_0 : -9 ≤ x24.1.toInt := b11_0
    replace b11_1 : x24.1.toInt ≤ -9 := b11_1
    exact sXl trivial
set_option maxHeartbeats 2000000 in
theorem s_X5_relearn {N K : Nat} {sz : Int32} {f : Nat → Int32} {c0 : Int32} {c1 : Int32} {c2 : Int32} {c3 : Int32} {c4 : Int32} {c5 : Int32} {fw : Nat → Int32} {fs : Nat → Int32} {p0 : Int32} {p1 : Int32} {p2 : Int32} {p3 : Int32} (hN : NBig N) (hK : 100 ≤ K)  : Sf (fX5_relearn N K sz f c0 c1 c2 c3 c4 c5 fw fs p0 p1 p2 p3) (xP true true (fun (z : Int32 × Int32 × (Nat → Int32) × Int32 × Int32 × (Nat → Int32) × (Nat → Int32)) => True)) := by
  unfold fX5_relearn
  have ql0 : (0 : Int32).toInt = 0 := by decide
  refine sXb (s_X5_memoryAt hN hK) (by decide) (by decide) (fun x2 b1 => ?_)
  obtain ⟨b1_0, -⟩ := b1
  replace b1_0 : (0 ≤ p0.toInt ∧ p0.toInt ≤ 2) := b1_0
  refine sXb (s_X5_checkCase hN hK) (by decide) (by decide) (fun x11 b2 => ?_)
  obtain ⟨b2_0, b2_1, b2_2, -⟩ := b2
  replace b2_0 : (0 ≤ p1.toInt ∧ p1.toInt ≤ 5) := b2_0
  replace b2_1 : (0 ≤ p2.toInt ∧ p2.toInt ≤ 20) := b2_1
  replace b2_2 : (0 ≤ p3.toInt ∧ p3.toInt ≤ 20) := b2_2
  refine sBind (s_X2_keeps hN hK (by first | omega | decide) (by first | omega | decide) (by first | omega | decide) (by first | omega | decide) (by first | omega | decide) (by first | omega | decide)) (fun x20 b3 => ?_)
  obtain ⟨b3_0, b3_1, -⟩ := b3
  replace b3_0 : 0 ≤ x20.toInt := b3_0
  replace b3_1 : x20.toInt ≤ 1 := b3_1
  refine sIf (fun h4 => ?_) (fun h4 => ?_)
  · have fh4 := eqT h4
    refine sBind (s_X5_undone hN hK) (fun x27 b5 => ?_)
    obtain ⟨b5_0, b5_1, -⟩ := b5
    replace b5_0 : -9 ≤ x27.1.toInt := b5_0
    replace b5_1 : x27.1.toInt ≤ -9 := b5_1
    exact sXl trivial
  · have fh4 := eqF h4
    refine sBind (s_X5_waysOneByOne hN hK (by first | omega | decide) (by first | omega | decide) (by first | omega | decide) (by first | omega | decide) (by first | omega | decide) (by first | omega | decide)) (fun x36 b6 => ?_)
    refine sBind (s_X2_keep hN hK (by first | omega | decide) (by first | omega | decide) (by first | omega | decide)) (fun x49 b7 => ?_)
    refine sBind (s_X5_acted hN hK) (fun x55 b8 => ?_)
    exact sXl trivial
set_option maxHeartbeats 2000000 in
theorem s_X5_forget {N K : Nat} {sz : Int32} {f : Nat → Int32} {c0 : Int32} {c1 : Int32} {c2 : Int32} {c3 : Int32} {c4 : Int32} {c5 : Int32} {p0 : Int32} {p1 : Int32} {p2 : Int32} {p3 : Int32} (hN : NBig N) (hK : 100 ≤ K)  : Sf (fX5_forget N K sz f c0 c1 c2 c3 c4 c5 p0 p1 p2 p3) (xP true true (fun (z : Int32 × Int32 × (Nat → Int32) × Int32 × Int32) => True)) := by
  unfold fX5_forget
  have ql0 : (0 : Int32).toInt = 0 := by decide
  refine sXb (s_X5_memoryAt hN hK) (by decide) (by decide) (fun x2 b1 => ?_)
  obtain ⟨b1_0, -⟩ := b1
  replace b1_0 : (0 ≤ p0.toInt ∧ p0.toInt ≤ 2) := b1_0
  refine sXb (s_X5_checkCase hN hK) (by decide) (by decide) (fun x11 b2 => ?_)
  obtain ⟨b2_0, b2_1, b2_2, -⟩ := b2
  replace b2_0 : (0 ≤ p1.toInt ∧ p1.toInt ≤ 5) := b2_0
  replace b2_1 : (0 ≤ p2.toInt ∧ p2.toInt ≤ 20) := b2_1
  replace b2_2 : (0 ≤ p3.toInt ∧ p3.toInt ≤ 20) := b2_2
  refine sBind (s_X2_keeps hN hK (by first | omega | decide) (by first | omega | decide) (by first | omega | decide) (by first | omega | decide) (by first | omega | decide) (by first | omega | decide)) (fun x20 b3 => ?_)
  obtain ⟨b3_0, b3_1, -⟩ := b3
  replace b3_0 : 0 ≤ x20.toInt := b3_0
  replace b3_1 : x20.toInt ≤ 1 := b3_1
  refine sIf (fun h4 => ?_) (fun h4 => ?_)
  · have fh4 := eqT h4
    refine sBind (s_X5_undone hN hK) (fun x27 b5 => ?_)
    obtain ⟨b5_0, b5_1, -⟩ := b5
    replace b5_0 : -9 ≤ x27.1.toInt := b5_0
    replace b5_1 : x27.1.toInt ≤ -9 := b5_1
    exact sXl trivial
  · have fh4 := eqF h4
    refine sBind (s_X2_keptWorth hN hK (by first | omega | decide) (by first | omega | decide) (by first | omega | decide) (by first | omega | decide) (by first | omega | decide) (by first | omega | decide)) (fun x37 b6 => ?_)
    refine sBind (s_X2_drop hN hK (by first | omega | decide) (by first | omega | decide) (by first | omega | decide) (by first | omega | decide) (by first | omega | decide) (by first | omega | decide)) (fun x48 b7 => ?_)
    refine sBind (s_X5_acted hN hK) (fun x54 b8 => ?_)
    exact sXl trivial
set_option maxHeartbeats 2000000 in
theorem s_X5_forgetIf {N K : Nat} {sz : Int32} {f : Nat → Int32} {c0 : Int32} {c1 : Int32} {c2 : Int32} {c3 : Int32} {c4 : Int32} {c5 : Int32} {p0 : Int32} {p1 : Int32} {p2 : Int32} {p3 : Int32} {p4 : Int32} (hN : NBig N) (hK : 100 ≤ K)  : Sf (fX5_forgetIf N K sz f c0 c1 c2 c3 c4 c5 p0 p1 p2 p3 p4) (xP true true (fun (z : Int32 × Int32 × (Nat → Int32) × Int32) => True)) := by
  unfold fX5_forgetIf
  have ql0 : (0 : Int32).toInt = 0 := by decide
  have ql1 : (1 : Int32).toInt = 1 := by decide
  refine sXb (s_X5_memoryAt hN hK) (by decide) (by decide) (fun x2 b1 => ?_)
  obtain ⟨b1_0, -⟩ := b1
  replace b1_0 : (0 ≤ p0.toInt ∧ p0.toInt ≤ 2) := b1_0
  refine sXb (s_X5_checkCase hN hK) (by decide) (by decide) (fun x11 b2 => ?_)
  obtain ⟨b2_0, b2_1, b2_2, -⟩ := b2
  replace b2_0 : (0 ≤ p1.toInt ∧ p1.toInt ≤ 5) := b2_0
  replace b2_1 : (0 ≤ p2.toInt ∧ p2.toInt ≤ 20) := b2_1
  replace b2_2 : (0 ≤ p3.toInt ∧ p3.toInt ≤ 20) := b2_2
  refine sBind (s_X2_keepsWith hN hK (by first | omega | decide) (by first | omega | decide) (by first | omega | decide) (by first | omega | decide) (by first | omega | decide) (by first | omega | decide)) (fun x22 b3 => ?_)
  obtain ⟨b3_0, b3_1, -⟩ := b3
  replace b3_0 : 0 ≤ x22.toInt := b3_0
  replace b3_1 : x22.toInt ≤ 1 := b3_1
  refine sIf (fun h4 => ?_) (fun h4 => ?_)
  · have fh4 := eqT h4
    refine sBind (s_X5_acted hN hK) (fun x30 b5 => ?_)
    exact sXl trivial
  · have fh4 := eqF h4
    refine sBind (s_X2_drop hN hK (by first | omega | decide) (by first | omega | decide) (by first | omega | decide) (by first | omega | decide) (by first | omega | decide) (by first | omega | decide)) (fun x40 b6 => ?_)
    refine sBind (s_X5_acted hN hK) (fun x45 b7 => ?_)
    exact sXl trivial
set_option maxHeartbeats 2000000 in
theorem s_X5_forgetAll {N K : Nat} {sz : Int32} {f : Nat → Int32} {c0 : Int32} {c1 : Int32} {c2 : Int32} {c3 : Int32} {c4 : Int32} {c5 : Int32} {p0 : Int32} {p1 : Int32} {p2 : Int32} (hN : NBig N) (hK : 100 ≤ K)  : Sf (fX5_forgetAll N K sz f c0 c1 c2 c3 c4 c5 p0 p1 p2) (xP true true (fun (z : Int32 × Int32 × (Nat → Int32) × Int32) => True)) := by
  unfold fX5_forgetAll
  have ql0 : (0 : Int32).toInt = 0 := by decide
  have ql3 : (3 : Int32).toInt = 3 := by decide
  refine sXb (s_X5_memoryAt hN hK) (by decide) (by decide) (fun x2 b1 => ?_)
  obtain ⟨b1_0, -⟩ := b1
  replace b1_0 : (0 ≤ p0.toInt ∧ p0.toInt ≤ 2) := b1_0
  refine sXb (s_X5_checkRange hN hK (by first | omega | decide) (by first | omega | decide) (by first | omega | decide) (by first | omega | decide)) (by decide) (by decide) (fun x10 b2 => ?_)
  obtain ⟨b2_0, -⟩ := b2
  replace b2_0 : ((0 : Int32).toInt ≤ p1.toInt ∧ p1.toInt ≤ (3 : Int32).toInt) := b2_0
  refine sBind (s_X2_dropEach hN hK (by first | omega | decide) (by first | omega | decide)) (fun x18 b3 => ?_)
  refine sBind (s_X5_acted hN hK) (fun x21 b4 => ?_)
  exact sXl trivial
set_option maxHeartbeats 2000000 in
theorem s_X5_clear {N K : Nat} {sz : Int32} {f : Nat → Int32} {c0 : Int32} {c1 : Int32} {c2 : Int32} {c3 : Int32} {c4 : Int32} {c5 : Int32} {p0 : Int32} (hN : NBig N) (hK : 100 ≤ K)  : Sf (fX5_clear N K sz f c0 c1 c2 c3 c4 c5 p0) (xP true false (fun (z : Int32 × Int32 × (Nat → Int32) × Int32) => 0 ≤ z.2.1.toInt ∧ z.2.1.toInt ≤ 0 ∧ True)) := by
  unfold fX5_clear
  have ql0 : (0 : Int32).toInt = 0 := by decide
  refine sXb (s_X5_memoryAt hN hK) (by decide) (by decide) (fun x3 b1 => ?_)
  obtain ⟨b1_0, -⟩ := b1
  replace b1_0 : (0 ≤ p0.toInt ∧ p0.toInt ≤ 2) := b1_0
  refine sBind (s_X2_dropAll hN hK) (fun x6 b2 => ?_)
  obtain ⟨b2_0, b2_1, -⟩ := b2
  replace b2_0 : 0 ≤ x6.2.1.toInt := b2_0
  replace b2_1 : x6.2.1.toInt ≤ 0 := b2_1
  refine sBind (s_X5_acted hN hK) (fun x9 b3 => ?_)
  exact sXl ⟨(by show 0 ≤ x6.2.1.toInt; first | omega | assumption), (by show x6.2.1.toInt ≤ 0; first | omega | assumption), trivial⟩
set_option maxHeartbeats 2000000 in
theorem s_X5_copy {N K : Nat} {sz : Int32} {f : Nat → Int32} {tz : Int32} {f2 : Nat → Int32} {c0 : Int32} {c1 : Int32} {c2 : Int32} {c3 : Int32} {c4 : Int32} {c5 : Int32} {p0 : Int32} {p1 : Int32} (hN : NBig N) (hK : 100 ≤ K)  : Sf (fX5_copy N K sz f tz f2 c0 c1 c2 c3 c4 c5 p0 p1) (xP true false (fun (z : Int32 × Int32 × (Nat → Int32) × Int32) => True)) := by
  unfold fX5_copy
  have ql0 : (0 : Int32).toInt = 0 := by decide
  refine sXb (s_X5_memoryAt hN hK) (by decide) (by decide) (fun x2 b1 => ?_)
  obtain ⟨b1_0, -⟩ := b1
  replace b1_0 : (0 ≤ p0.toInt ∧ p0.toInt ≤ 2) := b1_0
  refine sXb (s_X5_memoryAt hN hK) (by decide) (by decide) (fun x8 b2 => ?_)
  obtain ⟨b2_0, -⟩ := b2
  replace b2_0 : (0 ≤ p1.toInt ∧ p1.toInt ≤ 2) := b2_0
  refine sBind (s_X2_become hN hK) (fun x16 b3 => ?_)
  refine sBind (s_X2_size hN hK) (fun x22 b4 => ?_)
  refine sBind (s_X5_acted hN hK) (fun x25 b5 => ?_)
  exact sXl trivial
set_option maxHeartbeats 2000000 in
theorem s_X5_copyOwn {N K : Nat} {sz : Int32} {f : Nat → Int32} {c0 : Int32} {c1 : Int32} {c2 : Int32} {c3 : Int32} {c4 : Int32} {c5 : Int32} {p0 : Int32} (hN : NBig N) (hK : 100 ≤ K)  : Sf (fX5_copyOwn N K sz f c0 c1 c2 c3 c4 c5 p0) (xP true false (fun (z : Int32 × Int32 × (Nat → Int32) × Int32) => True)) := by
  unfold fX5_copyOwn
  have ql0 : (0 : Int32).toInt = 0 := by decide
  refine sXb (s_X5_memoryAt hN hK) (by decide) (by decide) (fun x2 b1 => ?_)
  obtain ⟨b1_0, -⟩ := b1
  replace b1_0 : (0 ≤ p0.toInt ∧ p0.toInt ≤ 2) := b1_0
  refine sXb (s_X5_memoryAt hN hK) (by decide) (by decide) (fun x8 b2 => ?_)
  obtain ⟨b2_0, -⟩ := b2
  replace b2_0 : (0 ≤ p0.toInt ∧ p0.toInt ≤ 2) := b2_0
  refine sBind (s_X2_becomeOwn hN hK) (fun x16 b3 => ?_)
  refine sBind (s_X2_size hN hK) (fun x22 b4 => ?_)
  refine sBind (s_X5_acted hN hK) (fun x25 b5 => ?_)
  exact sXl trivial
set_option maxHeartbeats 2000000 in
theorem s_X5_pour {N K : Nat} {sz : Int32} {f : Nat → Int32} {tz : Int32} {f2 : Nat → Int32} {c0 : Int32} {c1 : Int32} {c2 : Int32} {c3 : Int32} {c4 : Int32} {c5 : Int32} {p0 : Int32} {p1 : Int32} (hN : NBig N) (hK : 100 ≤ K)  : Sf (fX5_pour N K sz f tz f2 c0 c1 c2 c3 c4 c5 p0 p1) (xP true false (fun (z : Int32 × Int32 × (Nat → Int32) × Int32 × Int32) => True)) := by
  unfold fX5_pour
  have ql0 : (0 : Int32).toInt = 0 := by decide
  refine sXb (s_X5_memoryAt hN hK) (by decide) (by decide) (fun x2 b1 => ?_)
  obtain ⟨b1_0, -⟩ := b1
  replace b1_0 : (0 ≤ p0.toInt ∧ p0.toInt ≤ 2) := b1_0
  refine sXb (s_X5_memoryAt hN hK) (by decide) (by decide) (fun x8 b2 => ?_)
  obtain ⟨b2_0, -⟩ := b2
  replace b2_0 : (0 ≤ p1.toInt ∧ p1.toInt ≤ 2) := b2_0
  refine sIf (fun h3 => ?_) (fun h3 => ?_)
  · have fh3 := eqT h3
    refine sBind (s_X5_undone hN hK) (fun x19 b4 => ?_)
    obtain ⟨b4_0, b4_1, -⟩ := b4
    replace b4_0 : -9 ≤ x19.1.toInt := b4_0
    replace b4_1 : x19.1.toInt ≤ -9 := b4_1
    exact sXl trivial
  · have fh3 := eqF h3
    refine sBind (s_X2_takeIn hN hK) (fun x27 b5 => ?_)
    refine sBind (s_X5_acted hN hK) (fun x30 b6 => ?_)
    exact sXl trivial
set_option maxHeartbeats 2000000 in
theorem s_X5_pourOwn {N K : Nat} {sz : Int32} {f : Nat → Int32} {c0 : Int32} {c1 : Int32} {c2 : Int32} {c3 : Int32} {c4 : Int32} {c5 : Int32} {p0 : Int32} (hN : NBig N) (hK : 100 ≤ K)  : Sf (fX5_pourOwn N K sz f c0 c1 c2 c3 c4 c5 p0) (xP true false (fun (z : Int32 × Int32) => -9 ≤ z.1.toInt ∧ z.1.toInt ≤ -9 ∧ True)) := by
  unfold fX5_pourOwn
  have ql0 : (0 : Int32).toInt = 0 := by decide
  refine sXb (s_X5_memoryAt hN hK) (by decide) (by decide) (fun x2 b1 => ?_)
  obtain ⟨b1_0, -⟩ := b1
  replace b1_0 : (0 ≤ p0.toInt ∧ p0.toInt ≤ 2) := b1_0
  refine sXb (s_X5_memoryAt hN hK) (by decide) (by decide) (fun x8 b2 => ?_)
  obtain ⟨b2_0, -⟩ := b2
  replace b2_0 : (0 ≤ p0.toInt ∧ p0.toInt ≤ 2) := b2_0
  refine sBind (s_X5_undone hN hK) (fun x19 b3 => ?_)
  obtain ⟨b3_0, b3_1, -⟩ := b3
  replace b3_0 : -9 ≤ x19.1.toInt := b3_0
  replace b3_1 : x19.1.toInt ≤ -9 := b3_1
  exact sXl ⟨(by show -9 ≤ x19.1.toInt; first | omega | assumption), (by show x19.1.toInt ≤ -9; first | omega | assumption), trivial⟩
set_option maxHeartbeats 2000000 in
theorem s_X5_isKept {N K : Nat} {sz : Int32} {f : Nat → Int32} {p0 : Int32} {p1 : Int32} {p2 : Int32} {p3 : Int32} {p4 : Int32} (hN : NBig N) (hK : 100 ≤ K)  : Sf (fX5_isKept N K sz f p0 p1 p2 p3 p4) (xP true true (fun (z : Int32) => 0 ≤ z.toInt ∧ z.toInt ≤ 1 ∧ True)) := by
  unfold fX5_isKept
  have ql0 : (0 : Int32).toInt = 0 := by decide
  have ql2 : (2 : Int32).toInt = 2 := by decide
  refine sXb (s_X5_memoryAt hN hK) (by decide) (by decide) (fun x2 b1 => ?_)
  obtain ⟨b1_0, -⟩ := b1
  replace b1_0 : (0 ≤ p0.toInt ∧ p0.toInt ≤ 2) := b1_0
  refine sXb (s_X5_checkCase hN hK) (by decide) (by decide) (fun x11 b2 => ?_)
  obtain ⟨b2_0, b2_1, b2_2, -⟩ := b2
  replace b2_0 : (0 ≤ p1.toInt ∧ p1.toInt ≤ 5) := b2_0
  replace b2_1 : (0 ≤ p2.toInt ∧ p2.toInt ≤ 20) := b2_1
  replace b2_2 : (0 ≤ p3.toInt ∧ p3.toInt ≤ 20) := b2_2
  refine sXb (s_X5_checkRange hN hK (by first | omega | decide) (by first | omega | decide) (by first | omega | decide) (by first | omega | decide)) (by decide) (by decide) (fun x18 b3 => ?_)
  obtain ⟨b3_0, -⟩ := b3
  replace b3_0 : ((0 : Int32).toInt ≤ p4.toInt ∧ p4.toInt ≤ (2 : Int32).toInt) := b3_0
  refine sBind (s_X2_keeps hN hK (by first | omega | decide) (by first | omega | decide) (by first | omega | decide) (by first | omega | decide) (by first | omega | decide) (by first | omega | decide)) (fun x27 b4 => ?_)
  obtain ⟨b4_0, b4_1, -⟩ := b4
  replace b4_0 : 0 ≤ x27.toInt := b4_0
  replace b4_1 : x27.toInt ≤ 1 := b4_1
  refine sIfT (b01 (by omega) (by omega)) ?_
  exact sXl ⟨(by show 0 ≤ x27.toInt; first | omega | assumption), (by show x27.toInt ≤ 1; first | omega | assumption), trivial⟩
set_option maxHeartbeats 2000000 in
theorem s_X5_worthOr {N K : Nat} {sz : Int32} {f : Nat → Int32} {p0 : Int32} {p1 : Int32} {p2 : Int32} {p3 : Int32} {p4 : Int32} (hN : NBig N) (hK : 100 ≤ K)  : Sf (fX5_worthOr N K sz f p0 p1 p2 p3 p4) (xP true true (fun (z : Int32) => True)) := by
  unfold fX5_worthOr
  have ql0 : (0 : Int32).toInt = 0 := by decide
  refine sXb (s_X5_memoryAt hN hK) (by decide) (by decide) (fun x2 b1 => ?_)
  obtain ⟨b1_0, -⟩ := b1
  replace b1_0 : (0 ≤ p0.toInt ∧ p0.toInt ≤ 2) := b1_0
  refine sXb (s_X5_checkCase hN hK) (by decide) (by decide) (fun x11 b2 => ?_)
  obtain ⟨b2_0, b2_1, b2_2, -⟩ := b2
  replace b2_0 : (0 ≤ p1.toInt ∧ p1.toInt ≤ 5) := b2_0
  replace b2_1 : (0 ≤ p2.toInt ∧ p2.toInt ≤ 20) := b2_1
  replace b2_2 : (0 ≤ p3.toInt ∧ p3.toInt ≤ 20) := b2_2
  refine sBind (s_X2_keeps hN hK (by first | omega | decide) (by first | omega | decide) (by first | omega | decide) (by first | omega | decide) (by first | omega | decide) (by first | omega | decide)) (fun x20 b3 => ?_)
  obtain ⟨b3_0, b3_1, -⟩ := b3
  replace b3_0 : 0 ≤ x20.toInt := b3_0
  replace b3_1 : x20.toInt ≤ 1 := b3_1
  refine sIf (fun h4 => ?_) (fun h4 => ?_)
  · have fh4 := eqT h4
    exact sXl trivial
  · have fh4 := eqF h4
    refine sBind (s_X2_keptWorth hN hK (by first | omega | decide) (by first | omega | decide) (by first | omega | decide) (by first | omega | decide) (by first | omega | decide) (by first | omega | decide)) (fun x35 b5 => ?_)
    exact sXl trivial
set_option maxHeartbeats 2000000 in
theorem s_X5_confirm {N K : Nat} {sz : Int32} {f : Nat → Int32} {p0 : Int32} {p1 : Int32} {p2 : Int32} {p3 : Int32} {p4 : Int32} (hN : NBig N) (hK : 100 ≤ K)  : Sf (fX5_confirm N K sz f p0 p1 p2 p3 p4) (xP true true (fun (z : Int32) => 0 ≤ z.toInt ∧ z.toInt ≤ 1 ∧ True)) := by
  unfold fX5_confirm
  have ql0 : (0 : Int32).toInt = 0 := by decide
  refine sXb (s_X5_memoryAt hN hK) (by decide) (by decide) (fun x2 b1 => ?_)
  obtain ⟨b1_0, -⟩ := b1
  replace b1_0 : (0 ≤ p0.toInt ∧ p0.toInt ≤ 2) := b1_0
  refine sXb (s_X5_checkCase hN hK) (by decide) (by decide) (fun x11 b2 => ?_)
  obtain ⟨b2_0, b2_1, b2_2, -⟩ := b2
  replace b2_0 : (0 ≤ p1.toInt ∧ p1.toInt ≤ 5) := b2_0
  replace b2_1 : (0 ≤ p2.toInt ∧ p2.toInt ≤ 20) := b2_1
  replace b2_2 : (0 ≤ p3.toInt ∧ p3.toInt ≤ 20) := b2_2
  refine sBind (s_X2_keepsWith hN hK (by first | omega | decide) (by first | omega | decide) (by first | omega | decide) (by first | omega | decide) (by first | omega | decide) (by first | omega | decide)) (fun x22 b3 => ?_)
  obtain ⟨b3_0, b3_1, -⟩ := b3
  replace b3_0 : 0 ≤ x22.toInt := b3_0
  replace b3_1 : x22.toInt ≤ 1 := b3_1
  refine sIfT (b01 (by omega) (by omega)) ?_
  exact sXl ⟨(by show 0 ≤ x22.toInt; first | omega | assumption), (by show x22.toInt ≤ 1; first | omega | assumption), trivial⟩
set_option maxHeartbeats 2000000 in
theorem s_X5_about {N K : Nat} {sz : Int32} {f : Nat → Int32} {p0 : Int32} {p1 : Int32} (hN : NBig N) (hK : 100 ≤ K)  : Sf (fX5_about N K sz f p0 p1) (xP true true (fun (z : Int32) => True)) := by
  unfold fX5_about
  have ql0 : (0 : Int32).toInt = 0 := by decide
  have ql1 : (1 : Int32).toInt = 1 := by decide
  have ql2 : (2 : Int32).toInt = 2 := by decide
  have ql3 : (3 : Int32).toInt = 3 := by decide
  refine sXb (s_X5_memoryAt hN hK) (by decide) (by decide) (fun x2 b1 => ?_)
  obtain ⟨b1_0, -⟩ := b1
  replace b1_0 : (0 ≤ p0.toInt ∧ p0.toInt ≤ 2) := b1_0
  refine sXb (s_X5_checkRange hN hK (by first | omega | decide) (by first | omega | decide) (by first | omega | decide) (by first | omega | decide)) (by decide) (by decide) (fun x9 b2 => ?_)
  obtain ⟨b2_0, -⟩ := b2
  replace b2_0 : ((0 : Int32).toInt ≤ p1.toInt ∧ p1.toInt ≤ (3 : Int32).toInt) := b2_0
  refine sIf (fun h3 => ?_) (fun h3 => ?_)
  · have fh3 := eqT h3
    refine sBind (s_X2_size hN hK) (fun x41 b4 => ?_)
    exact sXl trivial
  · have fh3 := eqF h3
    refine sIf (fun h5 => ?_) (fun h5 => ?_)
    · have fh5 := eqT h5
      refine sBind (s_X2_mark hN hK) (fun x46 b6 => ?_)
      exact sXl trivial
    · have fh5 := eqF h5
      refine sIf (fun h7 => ?_) (fun h7 => ?_)
      · have fh7 := eqT h7
        refine sBind (s_X2_sumOfWorths hN hK) (fun x51 b8 => ?_)
        exact sXl trivial
      · have fh7 := eqF h7
        refine sBind (s_X2_size hN hK) (fun x56 b9 => ?_)
        refine sIf (fun h10 => ?_) (fun h10 => ?_)
        · have fh10 := eqT h10
          exact sXl trivial
        · have fh10 := eqF h10
          exact sXl trivial
set_option maxHeartbeats 2000000 in
theorem s_X5_has {N K : Nat} {sz : Int32} {f : Nat → Int32} {p0 : Int32} {p1 : Int32} (hN : NBig N) (hK : 100 ≤ K)  : Sf (fX5_has N K sz f p0 p1) (xP true false (fun (z : Int32) => 0 ≤ z.toInt ∧ z.toInt ≤ 1 ∧ True)) := by
  unfold fX5_has
  have ql0 : (0 : Int32).toInt = 0 := by decide
  have ql1 : (1 : Int32).toInt = 1 := by decide
  have ql3 : (3 : Int32).toInt = 3 := by decide
  refine sXb (s_X5_memoryAt hN hK) (by decide) (by decide) (fun x2 b1 => ?_)
  obtain ⟨b1_0, -⟩ := b1
  replace b1_0 : (0 ≤ p0.toInt ∧ p0.toInt ≤ 2) := b1_0
  refine sBind (s_X2_howMany hN hK (by first | omega | decide) (by first | omega | decide)) (fun x7 b2 => ?_)
  refine sIf (fun h3 => ?_) (fun h3 => ?_)
  · have fh3 := leT h3
    exact sXl ⟨(by show 0 ≤ (0 : Int32).toInt; decide), (by show (0 : Int32).toInt ≤ 1; decide), trivial⟩
  · have fh3 := leF h3
    exact sXl ⟨(by show 0 ≤ (1 : Int32).toInt; decide), (by show (1 : Int32).toInt ≤ 1; decide), trivial⟩
set_option maxHeartbeats 2000000 in
theorem s_X5_count {N K : Nat} {sz : Int32} {f : Nat → Int32} {p0 : Int32} {p1 : Int32} {p2 : Int32} (hN : NBig N) (hK : 100 ≤ K)  : Sf (fX5_count N K sz f p0 p1 p2) (xP true true (fun (z : Int32) => True)) := by
  unfold fX5_count
  have ql0 : (0 : Int32).toInt = 0 := by decide
  have ql3 : (3 : Int32).toInt = 3 := by decide
  refine sXb (s_X5_memoryAt hN hK) (by decide) (by decide) (fun x2 b1 => ?_)
  obtain ⟨b1_0, -⟩ := b1
  replace b1_0 : (0 ≤ p0.toInt ∧ p0.toInt ≤ 2) := b1_0
  refine sXb (s_X5_checkRange hN hK (by first | omega | decide) (by first | omega | decide) (by first | omega | decide) (by first | omega | decide)) (by decide) (by decide) (fun x10 b2 => ?_)
  obtain ⟨b2_0, -⟩ := b2
  replace b2_0 : ((0 : Int32).toInt ≤ p1.toInt ∧ p1.toInt ≤ (3 : Int32).toInt) := b2_0
  refine sBind (s_X2_howMany hN hK (by first | omega | decide) (by first | omega | decide)) (fun x17 b3 => ?_)
  exact sXl trivial
set_option maxHeartbeats 2000000 in
theorem s_X5_isSame {N K : Nat} {sz : Int32} {f : Nat → Int32} {tz : Int32} {f2 : Nat → Int32} {p0 : Int32} {p1 : Int32} (hN : NBig N) (hK : 100 ≤ K)  : Sf (fX5_isSame N K sz f tz f2 p0 p1) (xP true false (fun (z : Int32) => 0 ≤ z.toInt ∧ z.toInt ≤ 1 ∧ True)) := by
  unfold fX5_isSame
  have ql0 : (0 : Int32).toInt = 0 := by decide
  refine sXb (s_X5_memoryAt hN hK) (by decide) (by decide) (fun x2 b1 => ?_)
  obtain ⟨b1_0, -⟩ := b1
  replace b1_0 : (0 ≤ p0.toInt ∧ p0.toInt ≤ 2) := b1_0
  refine sXb (s_X5_memoryAt hN hK) (by decide) (by decide) (fun x8 b2 => ?_)
  obtain ⟨b2_0, -⟩ := b2
  replace b2_0 : (0 ≤ p1.toInt ∧ p1.toInt ≤ 2) := b2_0
  refine sBind (s_X2_isLike hN hK) (fun x16 b3 => ?_)
  obtain ⟨b3_0, b3_1, -⟩ := b3
  replace b3_0 : 0 ≤ x16.toInt := b3_0
  replace b3_1 : x16.toInt ≤ 1 := b3_1
  refine sIfT (b01 (by omega) (by omega)) ?_
  exact sXl ⟨(by show 0 ≤ x16.toInt; first | omega | assumption), (by show x16.toInt ≤ 1; first | omega | assumption), trivial⟩

end MG_50dsafe
section MG_50esafe
set_option maxHeartbeats 2000000 in
theorem s_X5_isSameOwn {N K : Nat} {sz : Int32} {f : Nat → Int32} {p0 : Int32} (hN : NBig N) (hK : 100 ≤ K)  : Sf (fX5_isSameOwn N K sz f p0) (xP true false (fun (z : Int32) => 1 ≤ z.toInt ∧ z.toInt ≤ 1 ∧ True)) := by
  unfold fX5_isSameOwn
  have ql0 : (0 : Int32).toInt = 0 := by decide
  refine sXb (s_X5_memoryAt hN hK) (by decide) (by decide) (fun x2 b1 => ?_)
  obtain ⟨b1_0, -⟩ := b1
  replace b1_0 : (0 ≤ p0.toInt ∧ p0.toInt ≤ 2) := b1_0
  refine sXb (s_X5_memoryAt hN hK) (by decide) (by decide) (fun x8 b2 => ?_)
  obtain ⟨b2_0, -⟩ := b2
  replace b2_0 : (0 ≤ p0.toInt ∧ p0.toInt ≤ 2) := b2_0
  refine sBind (s_X2_isLikeOwn hN hK) (fun x16 b3 => ?_)
  obtain ⟨b3_0, b3_1, -⟩ := b3
  replace b3_0 : 1 ≤ x16.toInt := b3_0
  replace b3_1 : x16.toInt ≤ 1 := b3_1
  refine sIfT (b01 (by omega) (by omega)) ?_
  exact sXl ⟨(by show 1 ≤ x16.toInt; first | omega | assumption), (by show x16.toInt ≤ 1; first | omega | assumption), trivial⟩
set_option maxHeartbeats 2000000 in
theorem s_X5_walk {N K : Nat} {fw : Nat → Int32} {fs : Nat → Int32} {p0 : Int32} {p1 : Int32} {p2 : Int32} (hN : NBig N) (hK : 100 ≤ K)  : Sf (fX5_walk N K fw fs p0 p1 p2) (xP false true (fun (z : Int32 × (Nat → Int32) × (Nat → Int32)) => True)) := by
  unfold fX5_walk
  have ql0 : (0 : Int32).toInt = 0 := by decide
  refine sXb (s_X5_checkAnyCase hN hK) (by decide) (by decide) (fun x3 b1 => ?_)
  obtain ⟨b1_0, b1_1, b1_2, -⟩ := b1
  replace b1_0 : (0 ≤ p0.toInt ∧ p0.toInt ≤ 7) := b1_0
  replace b1_1 : (0 ≤ p1.toInt ∧ p1.toInt ≤ 20) := b1_1
  replace b1_2 : (0 ≤ p2.toInt ∧ p2.toInt ≤ 20) := b1_2
  refine sBind (s_X5_waysOneByOne hN hK (by first | omega | decide) (by first | omega | decide) (by first | omega | decide) (by first | omega | decide) (by first | omega | decide) (by first | omega | decide)) (fun x10 b2 => ?_)
  exact sXl trivial
set_option maxHeartbeats 2000000 in
theorem s_X5_product {N K : Nat} {g : Nat → Int32} {p0 : Int32} {p1 : Int32} {p2 : Int32} (hN : NBig N) (hK : 100 ≤ K)  : Sf (fX5_product N K g p0 p1 p2) (xP false true (fun (z : Int32 × (Nat → Int32)) => True)) := by
  unfold fX5_product
  have ql0 : (0 : Int32).toInt = 0 := by decide
  refine sXb (s_X5_checkAnyCase hN hK) (by decide) (by decide) (fun x3 b1 => ?_)
  obtain ⟨b1_0, b1_1, b1_2, -⟩ := b1
  replace b1_0 : (0 ≤ p0.toInt ∧ p0.toInt ≤ 7) := b1_0
  replace b1_1 : (0 ≤ p1.toInt ∧ p1.toInt ≤ 20) := b1_1
  replace b1_2 : (0 ≤ p2.toInt ∧ p2.toInt ≤ 20) := b1_2
  refine sBind (s_X3_tells hN hK (by first | omega | decide) (by first | omega | decide) (by first | omega | decide) (by first | omega | decide) (by first | omega | decide) (by first | omega | decide)) (fun x13 b2 => ?_)
  exact sXl trivial
set_option maxHeartbeats 2000000 in
theorem s_X5_rule {N K : Nat} {ru : Int32} {sz : Int32} {f : Nat → Int32} {c0 : Int32} {c1 : Int32} {c2 : Int32} {c3 : Int32} {c4 : Int32} {c5 : Int32} {p0 : Int32} {p1 : Int32} (hN : NBig N) (hK : 100 ≤ K)  : Sf (fX5_rule N K ru sz f c0 c1 c2 c3 c4 c5 p0 p1) (xP true true (fun (z : Int32 × Int32 × (Nat → Int32) × Int32 × Int32 × Int32 × Int32) => True)) := by
  unfold fX5_rule
  have ql0 : (0 : Int32).toInt = 0 := by decide
  have ql20 : (20 : Int32).toInt = 20 := by decide
  refine sXb (s_X5_ledgerAt hN hK) (by decide) (by decide) (fun x2 b1 => ?_)
  obtain ⟨b1_0, -⟩ := b1
  replace b1_0 : (0 ≤ p0.toInt ∧ p0.toInt ≤ 2) := b1_0
  refine sXb (s_X5_checkRange hN hK (by first | omega | decide) (by first | omega | decide) (by first | omega | decide) (by first | omega | decide)) (by decide) (by decide) (fun x10 b2 => ?_)
  obtain ⟨b2_0, -⟩ := b2
  replace b2_0 : ((0 : Int32).toInt ≤ p1.toInt ∧ p1.toInt ≤ (20 : Int32).toInt) := b2_0
  refine sBind (s_X1_recall hN hK (by first | omega | decide) (by first | omega | decide)) (fun x20 b3 => ?_)
  refine sBind (s_X5_acted hN hK) (fun x23 b4 => ?_)
  exact sXl trivial
set_option maxHeartbeats 2000000 in
theorem s_X5_forgetRule {N K : Nat} {ru : Int32} {sz : Int32} {f : Nat → Int32} {c0 : Int32} {c1 : Int32} {c2 : Int32} {c3 : Int32} {c4 : Int32} {c5 : Int32} {p0 : Int32} {p1 : Int32} (hN : NBig N) (hK : 100 ≤ K)  : Sf (fX5_forgetRule N K ru sz f c0 c1 c2 c3 c4 c5 p0 p1) (xP true true (fun (z : Int32 × Int32 × (Nat → Int32) × Int32 × Int32) => True)) := by
  unfold fX5_forgetRule
  have ql0 : (0 : Int32).toInt = 0 := by decide
  have ql20 : (20 : Int32).toInt = 20 := by decide
  refine sXb (s_X5_ledgerAt hN hK) (by decide) (by decide) (fun x2 b1 => ?_)
  obtain ⟨b1_0, -⟩ := b1
  replace b1_0 : (0 ≤ p0.toInt ∧ p0.toInt ≤ 2) := b1_0
  refine sXb (s_X5_checkRange hN hK (by first | omega | decide) (by first | omega | decide) (by first | omega | decide) (by first | omega | decide)) (by decide) (by decide) (fun x10 b2 => ?_)
  obtain ⟨b2_0, -⟩ := b2
  replace b2_0 : ((0 : Int32).toInt ≤ p1.toInt ∧ p1.toInt ≤ (20 : Int32).toInt) := b2_0
  refine sIf (fun h3 => ?_) (fun h3 => ?_)
  · have fh3 := eqT h3
    refine sBind (s_X1_dropAll hN hK) (fun x19 b4 => ?_)
    obtain ⟨b4_0, b4_1, -⟩ := b4
    replace b4_0 : 0 ≤ x19.2.1.toInt := b4_0
    replace b4_1 : x19.2.1.toInt ≤ 0 := b4_1
    refine sBind (s_X5_acted hN hK) (fun x22 b5 => ?_)
    exact sXl trivial
  · have fh3 := eqF h3
    refine sBind (s_X1_keeps hN hK (by first | omega | decide) (by first | omega | decide)) (fun x28 b6 => ?_)
    obtain ⟨b6_0, b6_1, -⟩ := b6
    replace b6_0 : 0 ≤ x28.toInt := b6_0
    replace b6_1 : x28.toInt ≤ 1 := b6_1
    refine sIf (fun h7 => ?_) (fun h7 => ?_)
    · have fh7 := eqT h7
      refine sBind (s_X5_undone hN hK) (fun x35 b8 => ?_)
      obtain ⟨b8_0, b8_1, -⟩ := b8
      replace b8_0 : -9 ≤ x35.1.toInt := b8_0
      replace b8_1 : x35.1.toInt ≤ -9 := b8_1
      exact sXl trivial
    · have fh7 := eqF h7
      refine sBind (s_X1_keptWorth hN hK (by first | omega | decide) (by first | omega | decide)) (fun x41 b9 => ?_)
      refine sBind (s_X1_drop hN hK (by first | omega | decide) (by first | omega | decide)) (fun x48 b10 => ?_)
      refine sBind (s_X5_acted hN hK) (fun x54 b11 => ?_)
      exact sXl trivial
set_option maxHeartbeats 2000000 in
theorem s_X5_ledger {N K : Nat} {ru : Int32} {sz : Int32} {f : Nat → Int32} {p0 : Int32} {p1 : Int32} (hN : NBig N) (hK : 100 ≤ K)  : Sf (fX5_ledger N K ru sz f p0 p1) (xP true true (fun (z : Int32) => True)) := by
  unfold fX5_ledger
  have ql0 : (0 : Int32).toInt = 0 := by decide
  have ql1 : (1 : Int32).toInt = 1 := by decide
  refine sXb (s_X5_ledgerAt hN hK) (by decide) (by decide) (fun x2 b1 => ?_)
  obtain ⟨b1_0, -⟩ := b1
  replace b1_0 : (0 ≤ p0.toInt ∧ p0.toInt ≤ 2) := b1_0
  refine sXb (s_X5_checkRange hN hK (by first | omega | decide) (by first | omega | decide) (by first | omega | decide) (by first | omega | decide)) (by decide) (by decide) (fun x9 b2 => ?_)
  obtain ⟨b2_0, -⟩ := b2
  replace b2_0 : ((0 : Int32).toInt ≤ p1.toInt ∧ p1.toInt ≤ (1 : Int32).toInt) := b2_0
  refine sIf (fun h3 => ?_) (fun h3 => ?_)
  · have fh3 := eqT h3
    refine sBind (s_X1_size hN hK) (fun x17 b4 => ?_)
    exact sXl trivial
  · have fh3 := eqF h3
    refine sBind (s_X1_mark hN hK) (fun x24 b5 => ?_)
    exact sXl trivial
set_option maxHeartbeats 2000000 in
theorem s_X5_ruleWorth {N K : Nat} {ru : Int32} {sz : Int32} {f : Nat → Int32} {p0 : Int32} {p1 : Int32} {p2 : Int32} (hN : NBig N) (hK : 100 ≤ K)  : Sf (fX5_ruleWorth N K ru sz f p0 p1 p2) (xP true true (fun (z : Int32) => True)) := by
  unfold fX5_ruleWorth
  have ql0 : (0 : Int32).toInt = 0 := by decide
  have ql1 : (1 : Int32).toInt = 1 := by decide
  have ql20 : (20 : Int32).toInt = 20 := by decide
  refine sXb (s_X5_ledgerAt hN hK) (by decide) (by decide) (fun x2 b1 => ?_)
  obtain ⟨b1_0, -⟩ := b1
  replace b1_0 : (0 ≤ p0.toInt ∧ p0.toInt ≤ 2) := b1_0
  refine sXb (s_X5_checkRange hN hK (by first | omega | decide) (by first | omega | decide) (by first | omega | decide) (by first | omega | decide)) (by decide) (by decide) (fun x11 b2 => ?_)
  obtain ⟨b2_0, -⟩ := b2
  replace b2_0 : ((0 : Int32).toInt ≤ p1.toInt ∧ p1.toInt ≤ (20 : Int32).toInt) := b2_0
  refine sXb (s_X5_checkRange hN hK (by first | omega | decide) (by first | omega | decide) (by first | omega | decide) (by first | omega | decide)) (by decide) (by decide) (fun x17 b3 => ?_)
  obtain ⟨b3_0, -⟩ := b3
  replace b3_0 : ((0 : Int32).toInt ≤ p2.toInt ∧ p2.toInt ≤ (1 : Int32).toInt) := b3_0
  refine sBind (s_X1_keeps hN hK (by first | omega | decide) (by first | omega | decide)) (fun x23 b4 => ?_)
  obtain ⟨b4_0, b4_1, -⟩ := b4
  replace b4_0 : 0 ≤ x23.toInt := b4_0
  replace b4_1 : x23.toInt ≤ 1 := b4_1
  refine sIf (fun h5 => ?_) (fun h5 => ?_)
  · have fh5 := eqT h5
    exact sXl trivial
  · have fh5 := eqF h5
    refine sBind (s_X1_keptWorth hN hK (by first | omega | decide) (by first | omega | decide)) (fun x32 b6 => ?_)
    exact sXl trivial
theorem s_X5_addPart {N K : Nat} {f : Nat → Int32} {c0 : Int32} {c1 : Int32} {c2 : Int32} {c3 : Int32} {c4 : Int32} {c5 : Int32} {p0 : Int32} {p1 : Int32} {p2 : Int32} (hN : NBig N) (hK : 100 ≤ K) (hp0 : OkD f) : Sf (fX5_addPart N K f c0 c1 c2 c3 c4 c5 p0 p1 p2) (xP true true (fun (z : Int32 × (Nat → Int32) × Int32 × Int32) => OkD z.2.1 ∧ True)) := by
  have hN9 := hN.u
  have q1 : (1 : Int32).toInt = 1 := by decide
  have q20 : (20 : Int32).toInt = 20 := by decide
  obtain ⟨w, hw⟩ := hp0
  unfold fX5_addPart
  refine sXb (s_X5_deskAt hN hK) (fun _ => rfl) (fun _ => rfl) (fun _ _ => ?_)
  refine sXb (s_X5_checkRange hN hK (by omega) (by omega) (by omega) (by omega)) (fun _ => rfl) (fun _ => rfl) (fun _ y1 => ?_)
  refine sXb (s_X5_checkRange hN hK (by omega) (by omega) (by omega) (by omega)) (fun _ => rfl) (fun _ => rfl) (fun _ y2 => ?_)
  obtain ⟨⟨a1, a2⟩, -⟩ := y1
  obtain ⟨⟨b1, b2⟩, -⟩ := y2
  obtain ⟨m, rfl, m1, m2⟩ := o_of (p := p1) (a := 1) (b := 20) (by omega) (by omega)
  obtain ⟨n, rfl, n1, n2⟩ := o_of (p := p2) (a := 1) (b := 20) (by omega) (by omega)
  have hmn := Nat.mul_le_mul m2 n2
  have hwn := hw.1
  rw [c_sum (by omega) hw.2, Option.bind_some, o_mul, o_add, show (20 : Int32) = Int32.ofNat 20 from rfl]
  refine sIf (fun h => ?_) (fun _ => ?_)
  · rw [o_le (by omega) (by omega)] at h
    obtain ⟨g, e1, e2⟩ := c_put (N := N) (K := K) hw.2 (p := m) (t := n) m1 m2
    rw [e1, Option.bind_some]
    refine sBind (s_X4_timesOf hN hK (by rw [o_i (by omega)]; omega) (by rw [o_i (by omega)]; omega)) (fun _ _ => ?_)
    refine sBind (s_X5_acted hN hK) (fun _ _ => ?_)
    refine sXl ⟨⟨_, ?_, e2⟩, trivial⟩
    have e3 := wn_upm (w := w) (p := m) (v := w m + n) m1 m2
    rw [Nat.mul_add] at e3
    omega
  · refine sBind (s_X5_undone hN hK) (fun _ _ => ?_)
    exact sXl ⟨⟨w, hw⟩, trivial⟩

theorem c_take {N K : Nat} {f : Nat → Int32} {w : Nat → Nat} (hf : Dv f w) {p : Nat} (h1 : 1 ≤ p) (h2 : p ≤ 20) (h3 : 1 ≤ w p) : ∃ g, fX4_put N K f (Int32.ofNat p) (-1 : Int32) = some g ∧ Dv g (upm w p (w p - 1)) := by
  obtain ⟨v, hv⟩ : ∃ v, w p = v + 1 := ⟨w p - 1, by omega⟩
  refine ⟨_, ?_, hf.put (p := p) (t := w p - 1)⟩
  unfold fX4_put
  rw [if_neg (o_1le h1 (by omega)), if_neg (n_20 h2), if_neg (o_ob (by omega) (by omega)), if_neg (o_ob (by omega) (by omega)), o_c (by omega), hf p h1 h2, hv, o_m1, show v + 1 - 1 = v from by omega]
theorem c_times {N K : Nat} {f : Nat → Int32} {w : Nat → Nat} (hf : Dv f w) {p : Nat} (h1 : 1 ≤ p) (h2 : p ≤ 20) : fX4_timesOf N K f (Int32.ofNat p) = some (Int32.ofNat (w p)) := by
  unfold fX4_timesOf
  rw [if_neg (o_1le h1 (by omega)), if_pos (by rw [show (20 : Int32) = Int32.ofNat 20 from rfl, o_le (by omega) (by omega)]; exact h2), if_neg (o_ob (by omega) (by omega)), o_c (by omega), hf p h1 h2]
theorem wn_take {w : Nat → Nat} {p : Nat} (h1 : 1 ≤ p) (h2 : p ≤ 20) (h3 : 1 ≤ w p) : wn (upm w p (w p - 1)) + p = wn w := by
  have e3 := wn_upm (w := w) (p := p) (v := w p - 1) h1 h2
  obtain ⟨v, hv⟩ : ∃ v, w p = v + 1 := ⟨w p - 1, by omega⟩
  rw [hv, show v + 1 - 1 = v from by omega, Nat.mul_add] at e3
  rw [hv, show v + 1 - 1 = v from by omega]
  omega
theorem s_X5_takePart {N K : Nat} {f : Nat → Int32} {c0 : Int32} {c1 : Int32} {c2 : Int32} {c3 : Int32} {c4 : Int32} {c5 : Int32} {p0 : Int32} {p1 : Int32} (hN : NBig N) (hK : 100 ≤ K) (hp0 : OkD f) : Sf (fX5_takePart N K f c0 c1 c2 c3 c4 c5 p0 p1) (xP true true (fun (z : Int32 × (Nat → Int32) × Int32 × Int32) => OkD z.2.1 ∧ True)) := by
  have hN9 := hN.u
  have q1 : (1 : Int32).toInt = 1 := by decide
  have q20 : (20 : Int32).toInt = 20 := by decide
  obtain ⟨w, hw⟩ := hp0
  unfold fX5_takePart
  refine sXb (s_X5_deskAt hN hK) (fun _ => rfl) (fun _ => rfl) (fun _ _ => ?_)
  refine sXb (s_X5_checkRange hN hK (by omega) (by omega) (by omega) (by omega)) (fun _ => rfl) (fun _ => rfl) (fun _ y1 => ?_)
  obtain ⟨⟨a1, a2⟩, -⟩ := y1
  obtain ⟨m, rfl, m1, m2⟩ := o_of (p := p1) (a := 1) (b := 20) (by omega) (by omega)
  have hwm := wn_le1 (w := w) m1 m2
  have hwn := hw.1
  rw [c_times hw.2 m1 m2, Option.bind_some, show (0 : Int32) = Int32.ofNat 0 from rfl]
  refine sIf (fun _ => ?_) (fun h => ?_)
  · refine sBind (s_X5_undone hN hK) (fun _ _ => ?_)
    exact sXl ⟨⟨w, hw⟩, trivial⟩
  · rw [o_eq (by omega) (by omega)] at h
    obtain ⟨g, e1, e2⟩ := c_take (N := N) (K := K) hw.2 (p := m) m1 m2 (by omega)
    rw [e1, Option.bind_some]
    refine sBind (s_X4_timesOf hN hK (by rw [o_i (by omega)]; omega) (by rw [o_i (by omega)]; omega)) (fun _ _ => ?_)
    refine sBind (s_X5_acted hN hK) (fun _ _ => ?_)
    have e3 := wn_take (w := w) m1 m2 (by omega)
    exact sXl ⟨⟨_, by omega, e2⟩, trivial⟩

set_option maxHeartbeats 2000000 in
theorem s_X5_layFirst {N K : Nat} {f : Nat → Int32} {c0 : Int32} {c1 : Int32} {c2 : Int32} {c3 : Int32} {c4 : Int32} {c5 : Int32} {p0 : Int32} {p1 : Int32} (hN : NBig N) (hK : 100 ≤ K)  : Sf (fX5_layFirst N K f c0 c1 c2 c3 c4 c5 p0 p1) (xP true true (fun (z : Int32 × (Nat → Int32) × Int32) => OkD z.2.1 ∧ True)) := by
  unfold fX5_layFirst
  have ql0 : (0 : Int32).toInt = 0 := by decide
  have ql20 : (20 : Int32).toInt = 20 := by decide
  refine sXb (s_X5_deskAt hN hK) (by decide) (by decide) (fun x2 b1 => ?_)
  obtain ⟨b1_0, -⟩ := b1
  replace b1_0 : (0 ≤ p0.toInt ∧ p0.toInt ≤ 1) := b1_0
  refine sXb (s_X5_checkRange hN hK (by first | omega | decide) (by first | omega | decide) (by first | omega | decide) (by first | omega | decide)) (by decide) (by decide) (fun x10 b2 => ?_)
  obtain ⟨b2_0, -⟩ := b2
  replace b2_0 : ((0 : Int32).toInt ≤ p1.toInt ∧ p1.toInt ≤ (20 : Int32).toInt) := b2_0
  refine sBind (s_X4_becomeFirst hN hK (by first | omega | decide) (by first | omega | decide)) (fun x15 b3 => ?_)
  obtain ⟨b3_0, -⟩ := b3
  replace b3_0 : OkD x15 := b3_0
  refine sBind (s_X4_parts hN hK) (fun x20 b4 => ?_)
  refine sBind (s_X5_acted hN hK) (fun x23 b5 => ?_)
  exact sXl ⟨(by show OkD x15; first | omega | assumption), trivial⟩
set_option maxHeartbeats 2000000 in
theorem s_X5_next {N K : Nat} {f : Nat → Int32} {c0 : Int32} {c1 : Int32} {c2 : Int32} {c3 : Int32} {c4 : Int32} {c5 : Int32} {p0 : Int32} (hN : NBig N) (hK : 100 ≤ K) (hp0 : OkD f) : Sf (fX5_next N K f c0 c1 c2 c3 c4 c5 p0) (xP true false (fun (z : Int32 × (Nat → Int32) × Int32 × Int32) => OkD z.2.1 ∧ True)) := by
  unfold fX5_next
  have ql0 : (0 : Int32).toInt = 0 := by decide
  refine sXb (s_X5_deskAt hN hK) (by decide) (by decide) (fun x2 b1 => ?_)
  obtain ⟨b1_0, -⟩ := b1
  replace b1_0 : (0 ≤ p0.toInt ∧ p0.toInt ≤ 1) := b1_0
  refine sBind (s_X4_stepOn hN hK (by first | assumption | exact OkD.z)) (fun x7 b2 => ?_)
  obtain ⟨b2_0, b2_1, b2_2, -⟩ := b2
  replace b2_0 : 0 ≤ x7.1.toInt := b2_0
  replace b2_1 : x7.1.toInt ≤ 1 := b2_1
  replace b2_2 : OkD x7.2 := b2_2
  refine sIf (fun h3 => ?_) (fun h3 => ?_)
  · have fh3 := eqT h3
    refine sBind (s_X5_undone hN hK) (fun x14 b4 => ?_)
    obtain ⟨b4_0, b4_1, -⟩ := b4
    replace b4_0 : -9 ≤ x14.1.toInt := b4_0
    replace b4_1 : x14.1.toInt ≤ -9 := b4_1
    exact sXl ⟨(by show OkD x7.2; first | omega | assumption), trivial⟩
  · have fh3 := eqF h3
    refine sBind (s_X4_parts hN hK) (fun x20 b5 => ?_)
    refine sBind (s_X5_acted hN hK) (fun x23 b6 => ?_)
    exact sXl ⟨(by show OkD x7.2; first | omega | assumption), trivial⟩
set_option maxHeartbeats 2000000 in
theorem s_X5_turn_49 {N K : Nat} {f : Nat → Int32} {c0 : Int32} {c1 : Int32} {c2 : Int32} {c3 : Int32} {c4 : Int32} {c5 : Int32} {fs : Nat → Int32} {p0 : Int32} (hN : NBig N) (hK : 100 ≤ K) (hp0 : OkD f) : ∀ (s0 : Int32) (f_ : Nat → Int32) (c0_ : Int32) (fs_ : Nat → Int32), 0 ≤ p0.toInt → p0.toInt ≤ 1 → 0 ≤ s0.toInt → s0.toInt ≤ 1 → (s0.toInt = 0 → 0 ≤ p0.toInt ∧ p0.toInt ≤ 1) → OkD f_ → Sf (fX5_turn_49 N K f c0 c1 c2 c3 c4 c5 fs p0  s0 f_ c0_ fs_) (xP true false (fun (z : Int32 × (Nat → Int32) × Int32 × (Nat → Int32)) => OkD z.2.1 ∧ True)) := by
  intro s0 f_ c0_ fs_ hq0 hq1 hq2 hq3 hq4 hq5
  unfold fX5_turn_49
  have ql0 : (0 : Int32).toInt = 0 := by decide
  refine sBind (s_X5_acted hN hK) (fun x49 b1 => ?_)
  exact sXl ⟨(by show OkD f_; first | omega | assumption), trivial⟩
set_option maxHeartbeats 2000000 in
theorem s_X5_turn_30 {N K : Nat} {f : Nat → Int32} {c0 : Int32} {c1 : Int32} {c2 : Int32} {c3 : Int32} {c4 : Int32} {c5 : Int32} {fs : Nat → Int32} {p0 : Int32} (hN : NBig N) (hK : 100 ≤ K) (hp0 : OkD f) : ∀ (s0 : Int32) (f_ : Nat → Int32) (c0_ : Int32) (fs_ : Nat → Int32), 0 ≤ p0.toInt → p0.toInt ≤ 1 → 0 ≤ s0.toInt → s0.toInt ≤ 1 → (s0.toInt = 0 → 0 ≤ p0.toInt ∧ p0.toInt ≤ 1) → OkD fs_ → Sf (fX5_turn_30 N K f c0 c1 c2 c3 c4 c5 fs p0  s0 f_ c0_ fs_) (xP true false (fun (z : Int32 × (Nat → Int32) × Int32 × (Nat → Int32)) => OkD z.2.1 ∧ True)) := by
  intro s0 f_ c0_ fs_ hq0 hq1 hq2 hq3 hq4 hq5
  unfold fX5_turn_30
  have ql0 : (0 : Int32).toInt = 0 := by decide
  have ql1 : (1 : Int32).toInt = 1 := by decide
  refine sBind (s_X4_become hN hK (by first | assumption | exact OkD.z)) (fun x36 b1 => ?_)
  obtain ⟨b1_0, -⟩ := b1
  replace b1_0 : OkD x36 := b1_0
  refine sIf (fun h2 => ?_) (fun h2 => ?_)
  · have fh2 := eqT h2
    exact s_X5_turn_49  hN hK (by omega) _ _ _ _ (by first | omega | decide) (by first | omega | decide) (by first | omega | decide) (by first | omega | decide) (by first | omega | decide) (by assumption)
  · have fh2 := eqF h2
    exact s_X5_turn_49  hN hK (by omega) _ _ _ _ (by first | omega | decide) (by first | omega | decide) (by first | omega | decide) (by first | omega | decide) (by first | omega | decide) (by assumption)
set_option maxHeartbeats 2000000 in
theorem s_X5_turn {N K : Nat} {f : Nat → Int32} {c0 : Int32} {c1 : Int32} {c2 : Int32} {c3 : Int32} {c4 : Int32} {c5 : Int32} {fs : Nat → Int32} {p0 : Int32} (hN : NBig N) (hK : 100 ≤ K) (hp0 : OkD f) : Sf (fX5_turn N K f c0 c1 c2 c3 c4 c5 fs p0) (xP true false (fun (z : Int32 × (Nat → Int32) × Int32 × (Nat → Int32)) => OkD z.2.1 ∧ True)) := by
  unfold fX5_turn
  have ql0 : (0 : Int32).toInt = 0 := by decide
  have ql1 : (1 : Int32).toInt = 1 := by decide
  refine sXb (s_X5_deskAt hN hK) (by decide) (by decide) (fun x2 b1 => ?_)
  obtain ⟨b1_0, -⟩ := b1
  replace b1_0 : (0 ≤ p0.toInt ∧ p0.toInt ≤ 1) := b1_0
  refine sBind (s_X4_becomeTurned hN hK (by first | assumption | exact OkD.z)) (fun x11 b2 => ?_)
  obtain ⟨b2_0, -⟩ := b2
  replace b2_0 : OkD x11 := b2_0
  refine sBind (s_X4_isLike hN hK) (fun x19 b3 => ?_)
  obtain ⟨b3_0, b3_1, -⟩ := b3
  replace b3_0 : 0 ≤ x19.toInt := b3_0
  replace b3_1 : x19.toInt ≤ 1 := b3_1
  refine sIf (fun h4 => ?_) (fun h4 => ?_)
  · have fh4 := eqT h4
    exact s_X5_turn_30  hN hK (by omega) _ _ _ _ (by first | omega | decide) (by first | omega | decide) (by first | omega | decide) (by first | omega | decide) (by first | omega | decide) (by assumption)
  · have fh4 := eqF h4
    exact s_X5_turn_30  hN hK (by omega) _ _ _ _ (by first | omega | decide) (by first | omega | decide) (by first | omega | decide) (by first | omega | decide) (by first | omega | decide) (by assumption)
set_option maxHeartbeats 2000000 in
theorem s_X5_toUnlike {N K : Nat} {f : Nat → Int32} {c0 : Int32} {c1 : Int32} {c2 : Int32} {c3 : Int32} {c4 : Int32} {c5 : Int32} {fs : Nat → Int32} {p0 : Int32} (hN : NBig N) (hK : 100 ≤ K) (hp0 : OkD f) : Sf (fX5_toUnlike N K f c0 c1 c2 c3 c4 c5 fs p0) (xP true false (fun (z : Int32 × (Nat → Int32) × Int32 × Int32 × (Nat → Int32)) => OkD z.2.1 ∧ True)) := by
  unfold fX5_toUnlike
  have ql0 : (0 : Int32).toInt = 0 := by decide
  refine sXb (s_X5_deskAt hN hK) (by decide) (by decide) (fun x2 b1 => ?_)
  obtain ⟨b1_0, -⟩ := b1
  replace b1_0 : (0 ≤ p0.toInt ∧ p0.toInt ≤ 1) := b1_0
  refine sBind (s_X4_isOdd hN hK) (fun x7 b2 => ?_)
  obtain ⟨b2_0, b2_1, -⟩ := b2
  replace b2_0 : 0 ≤ x7.toInt := b2_0
  replace b2_1 : x7.toInt ≤ 1 := b2_1
  refine sIf (fun h3 => ?_) (fun h3 => ?_)
  · have fh3 := eqT h3
    refine sBind (s_X5_undone hN hK) (fun x14 b4 => ?_)
    obtain ⟨b4_0, b4_1, -⟩ := b4
    replace b4_0 : -9 ≤ x14.1.toInt := b4_0
    replace b4_1 : x14.1.toInt ≤ -9 := b4_1
    exact sXl ⟨(by show OkD f; first | omega | assumption), trivial⟩
  · have fh3 := eqF h3
    refine sBind (s_X4_becomeUnlike hN hK (by first | assumption | exact OkD.z)) (fun x23 b5 => ?_)
    obtain ⟨b5_0, -⟩ := b5
    replace b5_0 : OkD x23 := b5_0
    refine sBind (s_X4_become hN hK (by first | assumption | exact OkD.z)) (fun x31 b6 => ?_)
    obtain ⟨b6_0, -⟩ := b6
    replace b6_0 : OkD x31 := b6_0
    refine sBind (s_X4_parts hN hK) (fun x36 b7 => ?_)
    refine sBind (s_X5_acted hN hK) (fun x39 b8 => ?_)
    exact sXl ⟨(by show OkD x31; first | omega | assumption), trivial⟩
set_option maxHeartbeats 2000000 in
theorem s_X5_toOdd {N K : Nat} {f : Nat → Int32} {c0 : Int32} {c1 : Int32} {c2 : Int32} {c3 : Int32} {c4 : Int32} {c5 : Int32} {fs : Nat → Int32} {p0 : Int32} (hN : NBig N) (hK : 100 ≤ K) (hp0 : OkD f) : Sf (fX5_toOdd N K f c0 c1 c2 c3 c4 c5 fs p0) (xP true false (fun (z : Int32 × (Nat → Int32) × Int32 × Int32 × (Nat → Int32)) => OkD z.2.1 ∧ True)) := by
  unfold fX5_toOdd
  have ql0 : (0 : Int32).toInt = 0 := by decide
  refine sXb (s_X5_deskAt hN hK) (by decide) (by decide) (fun x2 b1 => ?_)
  obtain ⟨b1_0, -⟩ := b1
  replace b1_0 : (0 ≤ p0.toInt ∧ p0.toInt ≤ 1) := b1_0
  refine sBind (s_X4_isUnlike hN hK) (fun x7 b2 => ?_)
  obtain ⟨b2_0, b2_1, -⟩ := b2
  replace b2_0 : 0 ≤ x7.toInt := b2_0
  replace b2_1 : x7.toInt ≤ 1 := b2_1
  refine sIf (fun h3 => ?_) (fun h3 => ?_)
  · have fh3 := eqT h3
    refine sBind (s_X5_undone hN hK) (fun x14 b4 => ?_)
    obtain ⟨b4_0, b4_1, -⟩ := b4
    replace b4_0 : -9 ≤ x14.1.toInt := b4_0
    replace b4_1 : x14.1.toInt ≤ -9 := b4_1
    exact sXl ⟨(by show OkD f; first | omega | assumption), trivial⟩
  · have fh3 := eqF h3
    refine sBind (s_X4_becomeOdd hN hK (by first | assumption | exact OkD.z)) (fun x23 b5 => ?_)
    obtain ⟨b5_0, -⟩ := b5
    replace b5_0 : OkD x23 := b5_0
    refine sBind (s_X4_become hN hK (by first | assumption | exact OkD.z)) (fun x31 b6 => ?_)
    obtain ⟨b6_0, -⟩ := b6
    replace b6_0 : OkD x31 := b6_0
    refine sBind (s_X4_parts hN hK) (fun x36 b7 => ?_)
    refine sBind (s_X5_acted hN hK) (fun x39 b8 => ?_)
    exact sXl ⟨(by show OkD x31; first | omega | assumption), trivial⟩
set_option maxHeartbeats 2000000 in
theorem s_X5_copyDesk {N K : Nat} {f : Nat → Int32} {f2 : Nat → Int32} {c0 : Int32} {c1 : Int32} {c2 : Int32} {c3 : Int32} {c4 : Int32} {c5 : Int32} {p0 : Int32} (hN : NBig N) (hK : 100 ≤ K) (hp0 : OkD f) : Sf (fX5_copyDesk N K f f2 c0 c1 c2 c3 c4 c5 p0) (xP true false (fun (z : Int32 × (Nat → Int32) × Int32) => OkD z.2.1 ∧ True)) := by
  unfold fX5_copyDesk
  have ql0 : (0 : Int32).toInt = 0 := by decide
  have ql1 : (1 : Int32).toInt = 1 := by decide
  refine sXb (s_X5_deskAt hN hK) (by decide) (by decide) (fun x2 b1 => ?_)
  obtain ⟨b1_0, -⟩ := b1
  replace b1_0 : (0 ≤ p0.toInt ∧ p0.toInt ≤ 1) := b1_0
  have t2 := subI (a := (1 : Int32)) (b := p0) (by omega) (by omega)
  refine sXb (s_X5_deskAt hN hK) (by decide) (by decide) (fun x10 b3 => ?_)
  obtain ⟨b3_0, -⟩ := b3
  replace b3_0 : (0 ≤ ((1 : Int32) - p0).toInt ∧ ((1 : Int32) - p0).toInt ≤ 1) := b3_0
  refine sBind (s_X4_become hN hK (by first | assumption | exact OkD.z)) (fun x14 b4 => ?_)
  obtain ⟨b4_0, -⟩ := b4
  replace b4_0 : OkD x14 := b4_0
  refine sBind (s_X4_differentParts hN hK) (fun x19 b5 => ?_)
  refine sBind (s_X5_acted hN hK) (fun x22 b6 => ?_)
  exact sXl ⟨(by show OkD x14; first | omega | assumption), trivial⟩
set_option maxHeartbeats 2000000 in
theorem s_X5_times {N K : Nat} {f : Nat → Int32} {p0 : Int32} {p1 : Int32} (hN : NBig N) (hK : 100 ≤ K)  : Sf (fX5_times N K f p0 p1) (xP true true (fun (z : Int32) => True)) := by
  unfold fX5_times
  have ql0 : (0 : Int32).toInt = 0 := by decide
  have ql1 : (1 : Int32).toInt = 1 := by decide
  have ql20 : (20 : Int32).toInt = 20 := by decide
  refine sXb (s_X5_deskAt hN hK) (by decide) (by decide) (fun x2 b1 => ?_)
  obtain ⟨b1_0, -⟩ := b1
  replace b1_0 : (0 ≤ p0.toInt ∧ p0.toInt ≤ 1) := b1_0
  refine sXb (s_X5_checkRange hN hK (by first | omega | decide) (by first | omega | decide) (by first | omega | decide) (by first | omega | decide)) (by decide) (by decide) (fun x10 b2 => ?_)
  obtain ⟨b2_0, -⟩ := b2
  replace b2_0 : ((1 : Int32).toInt ≤ p1.toInt ∧ p1.toInt ≤ (20 : Int32).toInt) := b2_0
  refine sBind (s_X4_timesOf hN hK (by first | omega | decide) (by first | omega | decide)) (fun x15 b3 => ?_)
  exact sXl trivial
set_option maxHeartbeats 2000000 in
theorem s_X5_way {N K : Nat} {f : Nat → Int32} {p0 : Int32} {p1 : Int32} (hN : NBig N) (hK : 100 ≤ K)  : Sf (fX5_way N K f p0 p1) (xP true true (fun (z : Int32) => True)) := by
  unfold fX5_way
  have ql0 : (0 : Int32).toInt = 0 := by decide
  have ql1 : (1 : Int32).toInt = 1 := by decide
  have ql2 : (2 : Int32).toInt = 2 := by decide
  refine sXb (s_X5_deskAt hN hK) (by decide) (by decide) (fun x2 b1 => ?_)
  obtain ⟨b1_0, -⟩ := b1
  replace b1_0 : (0 ≤ p0.toInt ∧ p0.toInt ≤ 1) := b1_0
  refine sXb (s_X5_checkRange hN hK (by first | omega | decide) (by first | omega | decide) (by first | omega | decide) (by first | omega | decide)) (by decide) (by decide) (fun x9 b2 => ?_)
  obtain ⟨b2_0, -⟩ := b2
  replace b2_0 : ((0 : Int32).toInt ≤ p1.toInt ∧ p1.toInt ≤ (2 : Int32).toInt) := b2_0
  refine sIf (fun h3 => ?_) (fun h3 => ?_)
  · have fh3 := eqT h3
    refine sBind (s_X4_sum hN hK) (fun x41 b4 => ?_)
    exact sXl trivial
  · have fh3 := eqF h3
    refine sIf (fun h5 => ?_) (fun h5 => ?_)
    · have fh5 := eqT h5
      refine sBind (s_X4_parts hN hK) (fun x46 b6 => ?_)
      exact sXl trivial
    · have fh5 := eqF h5
      refine sBind (s_X4_differentParts hN hK) (fun x51 b7 => ?_)
      exact sXl trivial
set_option maxHeartbeats 2000000 in
theorem s_X5_isOf {N K : Nat} {f : Nat → Int32} {fs : Nat → Int32} {p0 : Int32} {p1 : Int32} {p2 : Int32} (hN : NBig N) (hK : 100 ≤ K) (hp0 : OkD f) : Sf (fX5_isOf N K f fs p0 p1 p2) (xP true true (fun (z : Int32 × (Nat → Int32)) => 0 ≤ z.1.toInt ∧ z.1.toInt ≤ 1 ∧ True)) := by
  unfold fX5_isOf
  have ql0 : (0 : Int32).toInt = 0 := by decide
  have ql7 : (7 : Int32).toInt = 7 := by decide
  have ql20 : (20 : Int32).toInt = 20 := by decide
  refine sXb (s_X5_deskAt hN hK) (by decide) (by decide) (fun x2 b1 => ?_)
  obtain ⟨b1_0, -⟩ := b1
  replace b1_0 : (0 ≤ p0.toInt ∧ p0.toInt ≤ 1) := b1_0
  refine sXb (s_X5_checkRange hN hK (by first | omega | decide) (by first | omega | decide) (by first | omega | decide) (by first | omega | decide)) (by decide) (by decide) (fun x11 b2 => ?_)
  obtain ⟨b2_0, -⟩ := b2
  replace b2_0 : ((0 : Int32).toInt ≤ p1.toInt ∧ p1.toInt ≤ (7 : Int32).toInt) := b2_0
  refine sXb (s_X5_checkRange hN hK (by first | omega | decide) (by first | omega | decide) (by first | omega | decide) (by first | omega | decide)) (by decide) (by decide) (fun x18 b3 => ?_)
  obtain ⟨b3_0, -⟩ := b3
  replace b3_0 : ((0 : Int32).toInt ≤ p2.toInt ∧ p2.toInt ≤ (20 : Int32).toInt) := b3_0
  refine sBind (s_X4_isOfKind hN hK (by first | omega | decide) (by first | omega | decide) (by first | omega | decide) (by first | omega | decide) (by first | assumption | exact OkD.z)) (fun x29 b4 => ?_)
  obtain ⟨b4_0, b4_1, -⟩ := b4
  replace b4_0 : 0 ≤ x29.1.toInt := b4_0
  replace b4_1 : x29.1.toInt ≤ 1 := b4_1
  refine sIfT (b01 (by omega) (by omega)) ?_
  exact sXl ⟨(by show 0 ≤ x29.1.toInt; first | omega | assumption), (by show x29.1.toInt ≤ 1; first | omega | assumption), trivial⟩
set_option maxHeartbeats 2000000 in
theorem s_X5_isSameWay {N K : Nat} {f : Nat → Int32} {f2 : Nat → Int32} (hN : NBig N) (hK : 100 ≤ K)  : Sf (fX5_isSameWay N K f f2) (xP true false (fun (z : Int32) => 0 ≤ z.toInt ∧ z.toInt ≤ 1 ∧ True)) := by
  unfold fX5_isSameWay
  have ql0 : (0 : Int32).toInt = 0 := by decide
  have ql1 : (1 : Int32).toInt = 1 := by decide
  refine sXb (s_X5_deskAt hN hK) (by decide) (by decide) (fun x2 b1 => ?_)
  obtain ⟨b1_0, -⟩ := b1
  replace b1_0 : (0 ≤ (0 : Int32).toInt ∧ (0 : Int32).toInt ≤ 1) := b1_0
  refine sXb (s_X5_deskAt hN hK) (by decide) (by decide) (fun x7 b2 => ?_)
  obtain ⟨b2_0, -⟩ := b2
  replace b2_0 : (0 ≤ (1 : Int32).toInt ∧ (1 : Int32).toInt ≤ 1) := b2_0
  refine sBind (s_X4_isLike hN hK) (fun x10 b3 => ?_)
  obtain ⟨b3_0, b3_1, -⟩ := b3
  replace b3_0 : 0 ≤ x10.toInt := b3_0
  replace b3_1 : x10.toInt ≤ 1 := b3_1
  refine sIfT (b01 (by omega) (by omega)) ?_
  exact sXl ⟨(by show 0 ≤ x10.toInt; first | omega | assumption), (by show x10.toInt ≤ 1; first | omega | assumption), trivial⟩
set_option maxHeartbeats 2000000 in
theorem s_X5_tally {N K : Nat} {c0 : Int32} {c1 : Int32} {c2 : Int32} {c3 : Int32} {c4 : Int32} {c5 : Int32} {p0 : Int32} (hN : NBig N) (hK : 100 ≤ K)  : Sf (fX5_tally N K c0 c1 c2 c3 c4 c5 p0) (xP false true (fun (z : Int32) => True)) := by
  unfold fX5_tally
  have ql0 : (0 : Int32).toInt = 0 := by decide
  have ql1 : (1 : Int32).toInt = 1 := by decide
  have ql2 : (2 : Int32).toInt = 2 := by decide
  have ql3 : (3 : Int32).toInt = 3 := by decide
  have ql4 : (4 : Int32).toInt = 4 := by decide
  have ql5 : (5 : Int32).toInt = 5 := by decide
  refine sXb (s_X5_checkRange hN hK (by first | omega | decide) (by first | omega | decide) (by first | omega | decide) (by first | omega | decide)) (by decide) (by decide) (fun x3 b1 => ?_)
  obtain ⟨b1_0, -⟩ := b1
  replace b1_0 : ((0 : Int32).toInt ≤ p0.toInt ∧ p0.toInt ≤ (5 : Int32).toInt) := b1_0
  refine sIf (fun h2 => ?_) (fun h2 => ?_)
  · have fh2 := eqT h2
    exact sXl trivial
  · have fh2 := eqF h2
    refine sIf (fun h3 => ?_) (fun h3 => ?_)
    · have fh3 := eqT h3
      exact sXl trivial
    · have fh3 := eqF h3
      refine sIf (fun h4 => ?_) (fun h4 => ?_)
      · have fh4 := eqT h4
        exact sXl trivial
      · have fh4 := eqF h4
        refine sIf (fun h5 => ?_) (fun h5 => ?_)
        · have fh5 := eqT h5
          exact sXl trivial
        · have fh5 := eqF h5
          refine sIf (fun h6 => ?_) (fun h6 => ?_)
          · have fh6 := eqT h6
            exact sXl trivial
          · have fh6 := eqF h6
            exact sXl trivial
set_option maxHeartbeats 2000000 in
theorem s_X5_knock {N K : Nat} {c0 : Int32} {c1 : Int32} {c2 : Int32} {c3 : Int32} {c4 : Int32} {c5 : Int32} (hN : NBig N) (hK : 100 ≤ K)  : Sf (fX5_knock N K c0 c1 c2 c3 c4 c5) (fun (z : Int32 × Int32) => True) := by
  unfold fX5_knock
  have ql0 : (0 : Int32).toInt = 0 := by decide
  exact sRet trivial
set_option maxHeartbeats 2000000 in
theorem s_X5_isSound {N K : Nat} {sz : Int32} {f : Nat → Int32} {c0 : Int32} {c1 : Int32} {c2 : Int32} {c3 : Int32} {c4 : Int32} {c5 : Int32} {g : Nat → Int32} {p0 : Int32} (hN : NBig N) (hK : 100 ≤ K)  : Sf (fX5_isSound N K sz f c0 c1 c2 c3 c4 c5 g p0) (xP true false (fun (z : Int32 × (Nat → Int32)) => 0 ≤ z.1.toInt ∧ z.1.toInt ≤ 1 ∧ True)) := by
  unfold fX5_isSound
  have ql0 : (0 : Int32).toInt = 0 := by decide
  have ql1 : (1 : Int32).toInt = 1 := by decide
  refine sXb (s_X5_memoryAt hN hK) (by decide) (by decide) (fun x2 b1 => ?_)
  obtain ⟨b1_0, -⟩ := b1
  replace b1_0 : (0 ≤ p0.toInt ∧ p0.toInt ≤ 2) := b1_0
  refine sBind (s_X2_agreesWith hN hK) (fun x11 b2 => ?_)
  obtain ⟨b2_0, b2_1, -⟩ := b2
  replace b2_0 : 0 ≤ x11.1.toInt := b2_0
  replace b2_1 : x11.1.toInt ≤ 1 := b2_1
  refine sIf (fun h3 => ?_) (fun h3 => ?_)
  · have fh3 := eqT h3
    exact sXl ⟨(by show 0 ≤ (0 : Int32).toInt; decide), (by show (0 : Int32).toInt ≤ 1; decide), trivial⟩
  · have fh3 := eqF h3
    refine sBind (s_X2_isWellCounted hN hK) (fun x18 b4 => ?_)
    obtain ⟨b4_0, b4_1, -⟩ := b4
    replace b4_0 : 0 ≤ x18.toInt := b4_0
    replace b4_1 : x18.toInt ≤ 1 := b4_1
    refine sIf (fun h5 => ?_) (fun h5 => ?_)
    · have fh5 := eqT h5
      exact sXl ⟨(by show 0 ≤ (0 : Int32).toInt; decide), (by show (0 : Int32).toInt ≤ 1; decide), trivial⟩
    · have fh5 := eqF h5
      refine sIf (fun h6 => ?_) (fun h6 => ?_)
      · have fh6 := eqT h6
        exact sXl ⟨(by show 0 ≤ (1 : Int32).toInt; decide), (by show (1 : Int32).toInt ≤ 1; decide), trivial⟩
      · have fh6 := eqF h6
        exact sXl ⟨(by show 0 ≤ (0 : Int32).toInt; decide), (by show (0 : Int32).toInt ≤ 1; decide), trivial⟩
set_option maxHeartbeats 2000000 in
theorem s_X5_digest {N K : Nat} {ms0 : Int32} {mf0 : Nat → Int32} {ms1 : Int32} {mf1 : Nat → Int32} {ms2 : Int32} {mf2 : Nat → Int32} {ru0 : Int32} {ls0 : Int32} {lf0 : Nat → Int32} {ru1 : Int32} {ls1 : Int32} {lf1 : Nat → Int32} {ru2 : Int32} {ls2 : Int32} {lf2 : Nat → Int32} {df0 : Nat → Int32} {df1 : Nat → Int32} {c0 : Int32} {c1 : Int32} {c2 : Int32} {c3 : Int32} {c4 : Int32} {c5 : Int32} (hN : NBig N) (hK : 100 ≤ K)  : Sf (fX5_digest N K ms0 mf0 ms1 mf1 ms2 mf2 ru0 ls0 lf0 ru1 ls1 lf1 ru2 ls2 lf2 df0 df1 c0 c1 c2 c3 c4 c5) (xP true true (fun (z : Int64) => True)) := by
  unfold fX5_digest
  have ql0 : (0 : Int32).toInt = 0 := by decide
  have ql1 : (1 : Int32).toInt = 1 := by decide
  have ql2 : (2 : Int32).toInt = 2 := by decide
  have ql3 : (3 : Int32).toInt = 3 := by decide
  have ql4 : (4 : Int32).toInt = 4 := by decide
  have ql5 : (5 : Int32).toInt = 5 := by decide
  have ql6 : (6 : Int32).toInt = 6 := by decide
  have ql7 : (7 : Int32).toInt = 7 := by decide
  have ql8 : (8 : Int32).toInt = 8 := by decide
  have ql9 : (9 : Int32).toInt = 9 := by decide
  have ql10 : (10 : Int32).toInt = 10 := by decide
  have ql11 : (11 : Int32).toInt = 11 := by decide
  have ql12 : (12 : Int32).toInt = 12 := by decide
  have ql13 : (13 : Int32).toInt = 13 := by decide
  have ql14 : (14 : Int32).toInt = 14 := by decide
  have ql15 : (15 : Int32).toInt = 15 := by decide
  have ql16 : (16 : Int32).toInt = 16 := by decide
  have ql17 : (17 : Int32).toInt = 17 := by decide
  have ql18 : (18 : Int32).toInt = 18 := by decide
  have ql19 : (19 : Int32).toInt = 19 := by decide
  have ql20 : (20 : Int32).toInt = 20 := by decide
  refine sXb (s_X5_about hN hK) (by decide) (by decide) (fun x19 b1 => ?_)
  refine sXb (s_X5_about hN hK) (by decide) (by decide) (fun x33 b2 => ?_)
  refine sXb (s_X5_about hN hK) (by decide) (by decide) (fun x19_1 b3 => ?_)
  refine sXb (s_X5_about hN hK) (by decide) (by decide) (fun x33_1 b4 => ?_)
  refine sXb (s_X5_about hN hK) (by decide) (by decide) (fun x19_2 b5 => ?_)
  refine sXb (s_X5_about hN hK) (by decide) (by decide) (fun x33_2 b6 => ?_)
  refine sXb (s_X5_ledger hN hK) (by decide) (by decide) (fun x60 b7 => ?_)
  refine sXb (s_X5_ledger hN hK) (by decide) (by decide) (fun x74 b8 => ?_)
  refine sXb (s_X5_ledger hN hK) (by decide) (by decide) (fun x60_1 b9 => ?_)
  refine sXb (s_X5_ledger hN hK) (by decide) (by decide) (fun x74_1 b10 => ?_)
  refine sXb (s_X5_ledger hN hK) (by decide) (by decide) (fun x60_2 b11 => ?_)
  refine sXb (s_X5_ledger hN hK) (by decide) (by decide) (fun x74_2 b12 => ?_)
  refine sXb (s_X5_way hN hK) (by decide) (by decide) (fun x101 b13 => ?_)
  refine sXb (s_X5_way hN hK) (by decide) (by decide) (fun x115 b14 => ?_)
  refine sXb (s_X5_times hN hK) (by decide) (by decide) (fun x140 b15 => ?_)
  refine sXb (s_X5_times hN hK) (by decide) (by decide) (fun x140_1 b16 => ?_)
  refine sXb (s_X5_times hN hK) (by decide) (by decide) (fun x140_2 b17 => ?_)
  refine sXb (s_X5_times hN hK) (by decide) (by decide) (fun x140_3 b18 => ?_)
  refine sXb (s_X5_times hN hK) (by decide) (by decide) (fun x140_4 b19 => ?_)
  refine sXb (s_X5_times hN hK) (by decide) (by decide) (fun x140_5 b20 => ?_)
  refine sXb (s_X5_times hN hK) (by decide) (by decide) (fun x140_6 b21 => ?_)
  refine sXb (s_X5_times hN hK) (by decide) (by decide) (fun x140_7 b22 => ?_)
  refine sXb (s_X5_times hN hK) (by decide) (by decide) (fun x140_8 b23 => ?_)
  refine sXb (s_X5_times hN hK) (by decide) (by decide) (fun x140_9 b24 => ?_)
  refine sXb (s_X5_times hN hK) (by decide) (by decide) (fun x140_10 b25 => ?_)
  refine sXb (s_X5_times hN hK) (by decide) (by decide) (fun x140_11 b26 => ?_)
  refine sXb (s_X5_times hN hK) (by decide) (by decide) (fun x140_12 b27 => ?_)
  refine sXb (s_X5_times hN hK) (by decide) (by decide) (fun x140_13 b28 => ?_)
  refine sXb (s_X5_times hN hK) (by decide) (by decide) (fun x140_14 b29 => ?_)
  refine sXb (s_X5_times hN hK) (by decide) (by decide) (fun x140_15 b30 => ?_)
  refine sXb (s_X5_times hN hK) (by decide) (by decide) (fun x140_16 b31 => ?_)
  refine sXb (s_X5_times hN hK) (by decide) (by decide) (fun x140_17 b32 => ?_)
  refine sXb (s_X5_times hN hK) (by decide) (by decide) (fun x140_18 b33 => ?_)
  refine sXb (s_X5_times hN hK) (by decide) (by decide) (fun x140_19 b34 => ?_)
  refine sXb (s_X5_way hN hK) (by decide) (by decide) (fun x101_1 b35 => ?_)
  refine sXb (s_X5_way hN hK) (by decide) (by decide) (fun x115_1 b36 => ?_)
  refine sXb (s_X5_times hN hK) (by decide) (by decide) (fun x140_20 b37 => ?_)
  refine sXb (s_X5_times hN hK) (by decide) (by decide) (fun x140_21 b38 => ?_)
  refine sXb (s_X5_times hN hK) (by decide) (by decide) (fun x140_22 b39 => ?_)
  refine sXb (s_X5_times hN hK) (by decide) (by decide) (fun x140_23 b40 => ?_)
  refine sXb (s_X5_times hN hK) (by decide) (by decide) (fun x140_24 b41 => ?_)
  refine sXb (s_X5_times hN hK) (by decide) (by decide) (fun x140_25 b42 => ?_)
  refine sXb (s_X5_times hN hK) (by decide) (by decide) (fun x140_26 b43 => ?_)
  refine sXb (s_X5_times hN hK) (by decide) (by decide) (fun x140_27 b44 => ?_)
  refine sXb (s_X5_times hN hK) (by decide) (by decide) (fun x140_28 b45 => ?_)
  refine sXb (s_X5_times hN hK) (by decide) (by decide) (fun x140_29 b46 => ?_)
  refine sXb (s_X5_times hN hK) (by decide) (by decide) (fun x140_30 b47 => ?_)
  refine sXb (s_X5_times hN hK) (by decide) (by decide) (fun x140_31 b48 => ?_)
  refine sXb (s_X5_times hN hK) (by decide) (by decide) (fun x140_32 b49 => ?_)
  refine sXb (s_X5_times hN hK) (by decide) (by decide) (fun x140_33 b50 => ?_)
  refine sXb (s_X5_times hN hK) (by decide) (by decide) (fun x140_34 b51 => ?_)
  refine sXb (s_X5_times hN hK) (by decide) (by decide) (fun x140_35 b52 => ?_)
  refine sXb (s_X5_times hN hK) (by decide) (by decide) (fun x140_36 b53 => ?_)
  refine sXb (s_X5_times hN hK) (by decide) (by decide) (fun x140_37 b54 => ?_)
  refine sXb (s_X5_times hN hK) (by decide) (by decide) (fun x140_38 b55 => ?_)
  refine sXb (s_X5_times hN hK) (by decide) (by decide) (fun x140_39 b56 => ?_)
  refine sXb (s_X5_tally hN hK) (by decide) (by decide) (fun x172 b57 => ?_)
  refine sXb (s_X5_tally hN hK) (by decide) (by decide) (fun x172_1 b58 => ?_)
  refine sXb (s_X5_tally hN hK) (by decide) (by decide) (fun x172_2 b59 => ?_)
  refine sXb (s_X5_tally hN hK) (by decide) (by decide) (fun x172_3 b60 => ?_)
  refine sXb (s_X5_tally hN hK) (by decide) (by decide) (fun x172_4 b61 => ?_)
  refine sXb (s_X5_tally hN hK) (by decide) (by decide) (fun x172_5 b62 => ?_)
  exact sXl trivial
set_option maxHeartbeats 2000000 in
theorem s_X7_init_78vv {N K : Nat} {th : Int32} (hN : NBig N) (hK : 100 ≤ K)  : ∀ (fu : Nat) (l5 : Int32) (e_v1 : (Nat → Int32)) (e_v2 : (Nat → Int32)) (e_v3 : (Nat → Int32)) (e_v6 : (Nat → Int32)) (e_v7 : (Nat → Int32)) (e_v8 : (Nat → Int32)) (e_v9 : (Nat → Int32)) (e_v10 : (Nat → Int32)) (e_v11 : (Nat → Int32)) (e_v12 : (Nat → Int32)), (6144 - l5.toInt).toNat < fu → 0 ≤ l5.toInt → l5.toInt ≤ 6144 → Sf (fX7_init_78vv N K th  fu l5 e_v1 e_v2 e_v3 e_v6 e_v7 e_v8 e_v9 e_v10 e_v11 e_v12) (fun (z : (Nat → Int32) × (Nat → Int32) × (Nat → Int32) × (Nat → Int32) × (Nat → Int32) × (Nat → Int32) × (Nat → Int32) × (Nat → Int32) × (Nat → Int32) × (Nat → Int32)) => True) := by
  intro fu
  induction fu with
  | zero => intro l5 e_v1 e_v2 e_v3 e_v6 e_v7 e_v8 e_v9 e_v10 e_v11 e_v12 h0 hq0 hq1; omega
  | succ fu ih =>
    intro l5 e_v1 e_v2 e_v3 e_v6 e_v7 e_v8 e_v9 e_v10 e_v11 e_v12 h0 hq0 hq1
    unfold fX7_init_78vv
    have ql0 : (0 : Int32).toInt = 0 := by decide
    have ql1 : (1 : Int32).toInt = 1 := by decide
    have ql6144 : (6144 : Int32).toInt = 6144 := by decide
    refine sIf (fun h1 => ?_) (fun h1 => ?_)
    · have fh1 := leT h1
      exact sRet trivial
    · have fh1 := leF h1
      refine sIfF (noob (by omega) (by omega)) ?_
      have t2 := addI (a := l5) (b := (1 : Int32)) (by omega) (by omega)
      exact ih _ _ _ _ _ _ _ _ _ _ _ (by omega) (by first | omega | decide) (by first | omega | decide)
set_option maxHeartbeats 2000000 in
theorem s_X7_init_78v {N K : Nat} {th : Int32} (hN : NBig N) (hK : 100 ≤ K)  : ∀ (fu : Nat) (l5 : Int32) (e_v1 : (Nat → Int32)) (e_v2 : (Nat → Int32)) (e_v3 : (Nat → Int32)) (e_v6 : (Nat → Int32)) (e_v7 : (Nat → Int32)) (e_v8 : (Nat → Int32)) (e_v9 : (Nat → Int32)) (e_v10 : (Nat → Int32)) (e_v11 : (Nat → Int32)) (e_v12 : (Nat → Int32)), (6144 - l5.toInt).toNat < fu → 0 ≤ l5.toInt → l5.toInt ≤ 6144 → Sf (fX7_init_78v N K th  fu l5 e_v1 e_v2 e_v3 e_v6 e_v7 e_v8 e_v9 e_v10 e_v11 e_v12) (fun (z : (Nat → Int32) × (Nat → Int32) × (Nat → Int32) × (Nat → Int32) × (Nat → Int32) × (Nat → Int32) × (Nat → Int32) × (Nat → Int32) × (Nat → Int32) × (Nat → Int32)) => True) := by
  intro fu
  induction fu with
  | zero => intro l5 e_v1 e_v2 e_v3 e_v6 e_v7 e_v8 e_v9 e_v10 e_v11 e_v12 h0 hq0 hq1; omega
  | succ fu ih =>
    intro l5 e_v1 e_v2 e_v3 e_v6 e_v7 e_v8 e_v9 e_v10 e_v11 e_v12 h0 hq0 hq1
    unfold fX7_init_78v
    have hN9 := hN.u
    have ql0 : (0 : Int32).toInt = 0 := by decide
    have ql1 : (1 : Int32).toInt = 1 := by decide
    have ql6144 : (6144 : Int32).toInt = 6144 := by decide
    refine sIf (fun h1 => ?_) (fun h1 => ?_)
    · have fh1 := leT h1
      exact s_X7_init_78vv  hN hK _ _ _ _ _ _ _ _ _ _ _ _ (by omega) (by first | omega | decide) (by first | omega | decide)
    · have fh1 := leF h1
      refine sIfF (noob (by omega) (by omega)) ?_
      have t2 := addI (a := l5) (b := (1 : Int32)) (by omega) (by omega)
      exact ih _ _ _ _ _ _ _ _ _ _ _ (by omega) (by first | omega | decide) (by first | omega | decide)
set_option maxHeartbeats 2000000 in
theorem s_X7_init_78 {N K : Nat} {th : Int32} (hN : NBig N) (hK : 100 ≤ K)  : ∀ (fu : Nat) (l5 : Int32) (e_v1 : (Nat → Int32)) (e_v2 : (Nat → Int32)) (e_v3 : (Nat → Int32)) (e_v6 : (Nat → Int32)) (e_v7 : (Nat → Int32)) (e_v8 : (Nat → Int32)) (e_v9 : (Nat → Int32)) (e_v10 : (Nat → Int32)) (e_v11 : (Nat → Int32)) (e_v12 : (Nat → Int32)), (6144 - l5.toInt).toNat < fu → 0 ≤ l5.toInt → l5.toInt ≤ 6144 → Sf (fX7_init_78 N K th  fu l5 e_v1 e_v2 e_v3 e_v6 e_v7 e_v8 e_v9 e_v10 e_v11 e_v12) (fun (z : (Nat → Int32) × (Nat → Int32) × (Nat → Int32) × (Nat → Int32) × (Nat → Int32) × (Nat → Int32) × (Nat → Int32) × (Nat → Int32) × (Nat → Int32) × (Nat → Int32)) => True) := by
  intro fu
  induction fu with
  | zero => intro l5 e_v1 e_v2 e_v3 e_v6 e_v7 e_v8 e_v9 e_v10 e_v11 e_v12 h0 hq0 hq1; omega
  | succ fu ih =>
    intro l5 e_v1 e_v2 e_v3 e_v6 e_v7 e_v8 e_v9 e_v10 e_v11 e_v12 h0 hq0 hq1
    unfold fX7_init_78
    have hN9 := hN.u
    have ql0 : (0 : Int32).toInt = 0 := by decide
    have ql1 : (1 : Int32).toInt = 1 := by decide
    have ql6144 : (6144 : Int32).toInt = 6144 := by decide
    refine sIf (fun h1 => ?_) (fun h1 => ?_)
    · have fh1 := leT h1
      exact s_X7_init_78v  hN hK _ _ _ _ _ _ _ _ _ _ _ _ (by omega) (by first | omega | decide) (by first | omega | decide)
    · have fh1 := leF h1
      refine sIfF (noob (by omega) (by omega)) ?_
      have t2 := addI (a := l5) (b := (1 : Int32)) (by omega) (by omega)
      exact ih _ _ _ _ _ _ _ _ _ _ _ (by omega) (by first | omega | decide) (by first | omega | decide)
set_option maxHeartbeats 2000000 in
theorem s_X7_init {N K : Nat} {th : Int32} (hN : NBig N) (hK : 100 ≤ K)  : Sf (fX7_init N K th) (fun (z : (Nat → Int32) × (Nat → Int32) × (Nat → Int32) × (Nat → Int32) × (Nat → Int32) × (Nat → Int32) × (Nat → Int32) × (Nat → Int32) × (Nat → Int32) × (Nat → Int32)) => True) := by
  unfold fX7_init
  have hN9 := hN.u
  have ql0 : (0 : Int32).toInt = 0 := by decide
  exact s_X7_init_78  hN hK _ _ _ _ _ _ _ _ _ _ _ _ (by omega) (by first | omega | decide) (by first | omega | decide)
set_option maxHeartbeats 2000000 in
theorem s_X7_isNo {N K : Nat} {p0 : Int32} {p1 : Int32} {p2 : Int32} (hN : NBig N) (hK : 100 ≤ K) (hp0 : 0 ≤ p1.toInt) (hp1 : p1.toInt ≤ 1) (hp2 : 1 ≤ p2.toInt) (hp3 : p2.toInt ≤ 20) : Sf (fX7_isNo N K p0 p1 p2) (fun (z : Int32) => 0 ≤ z.toInt ∧ z.toInt ≤ 1 ∧ (z.toInt = 0 → (p1.toInt ≤ p0.toInt ∧ p0.toInt ≤ p2.toInt)) ∧ True) := by
  unfold fX7_isNo
  have ql0 : (0 : Int32).toInt = 0 := by decide
  have ql1 : (1 : Int32).toInt = 1 := by decide
  refine sIf (fun h1 => ?_) (fun h1 => ?_)
  · have fh1 := ltT h1
    exact sRet ⟨(by show 0 ≤ (1 : Int32).toInt; decide), (by show (1 : Int32).toInt ≤ 1; decide), (by show ((1 : Int32).toInt = 0 → (p1.toInt ≤ p0.toInt ∧ p0.toInt ≤ p2.toInt)); first | omega | assumption), trivial⟩
  · have fh1 := ltF h1
    refine sIf (fun h2 => ?_) (fun h2 => ?_)
    · have fh2 := leT h2
      exact sRet ⟨(by show 0 ≤ (0 : Int32).toInt; decide), (by show (0 : Int32).toInt ≤ 1; decide), (by show ((0 : Int32).toInt = 0 → (p1.toInt ≤ p0.toInt ∧ p0.toInt ≤ p2.toInt)); first | omega | assumption), trivial⟩
    · have fh2 := leF h2
      exact sRet ⟨(by show 0 ≤ (1 : Int32).toInt; decide), (by show (1 : Int32).toInt ≤ 1; decide), (by show ((1 : Int32).toInt = 0 → (p1.toInt ≤ p0.toInt ∧ p0.toInt ≤ p2.toInt)); first | omega | assumption), trivial⟩
set_option maxHeartbeats 2000000 in
theorem s_X7_isOut {N K : Nat} {p0 : Int32} {p1 : Int32} {p2 : Int32} (hN : NBig N) (hK : 100 ≤ K)  : Sf (fX7_isOut N K p0 p1 p2) (fun (z : Int32) => 0 ≤ z.toInt ∧ z.toInt ≤ 1 ∧ (z.toInt = 0 → (0 ≤ p0.toInt ∧ p0.toInt ≤ 5)) ∧ (z.toInt = 0 → (0 ≤ p1.toInt ∧ p1.toInt ≤ 20)) ∧ (z.toInt = 0 → (0 ≤ p2.toInt ∧ p2.toInt ≤ 20)) ∧ True) := by
  unfold fX7_isOut
  have ql0 : (0 : Int32).toInt = 0 := by decide
  have ql1 : (1 : Int32).toInt = 1 := by decide
  have ql5 : (5 : Int32).toInt = 5 := by decide
  have ql20 : (20 : Int32).toInt = 20 := by decide
  refine sBind (s_X7_isNo hN hK (by first | omega | decide) (by first | omega | decide) (by first | omega | decide) (by first | omega | decide)) (fun x3 b1 => ?_)
  obtain ⟨b1_0, b1_1, b1_2, -⟩ := b1
  replace b1_0 : 0 ≤ x3.toInt := b1_0
  replace b1_1 : x3.toInt ≤ 1 := b1_1
  replace b1_2 : (x3.toInt = 0 → ((0 : Int32).toInt ≤ p0.toInt ∧ p0.toInt ≤ (5 : Int32).toInt)) := b1_2
  refine sIf (fun h2 => ?_) (fun h2 => ?_)
  · have fh2 := eqT h2
    refine sBind (s_X7_isNo hN hK (by first | omega | decide) (by first | omega | decide) (by first | omega | decide) (by first | omega | decide)) (fun x13 b3 => ?_)
    obtain ⟨b3_0, b3_1, b3_2, -⟩ := b3
    replace b3_0 : 0 ≤ x13.toInt := b3_0
    replace b3_1 : x13.toInt ≤ 1 := b3_1
    replace b3_2 : (x13.toInt = 0 → ((0 : Int32).toInt ≤ p1.toInt ∧ p1.toInt ≤ (20 : Int32).toInt)) := b3_2
    refine sIf (fun h4 => ?_) (fun h4 => ?_)
    · have fh4 := eqT h4
      refine sBind (s_X7_isNo hN hK (by first | omega | decide) (by first | omega | decide) (by first | omega | decide) (by first | omega | decide)) (fun x23 b5 => ?_)
      obtain ⟨b5_0, b5_1, b5_2, -⟩ := b5
      replace b5_0 : 0 ≤ x23.toInt := b5_0
      replace b5_1 : x23.toInt ≤ 1 := b5_1
      replace b5_2 : (x23.toInt = 0 → ((0 : Int32).toInt ≤ p2.toInt ∧ p2.toInt ≤ (20 : Int32).toInt)) := b5_2
      refine sIf (fun h6 => ?_) (fun h6 => ?_)
      · have fh6 := eqT h6
        exact sRet ⟨(by show 0 ≤ (0 : Int32).toInt; decide), (by show (0 : Int32).toInt ≤ 1; decide), (by show ((0 : Int32).toInt = 0 → (0 ≤ p0.toInt ∧ p0.toInt ≤ 5)); first | omega | assumption), (by show ((0 : Int32).toInt = 0 → (0 ≤ p1.toInt ∧ p1.toInt ≤ 20)); first | omega | assumption), (by show ((0 : Int32).toInt = 0 → (0 ≤ p2.toInt ∧ p2.toInt ≤ 20)); first | omega | assumption), trivial⟩
      · have fh6 := eqF h6
        exact sRet ⟨(by show 0 ≤ (1 : Int32).toInt; decide), (by show (1 : Int32).toInt ≤ 1; decide), (by show ((1 : Int32).toInt = 0 → (0 ≤ p0.toInt ∧ p0.toInt ≤ 5)); first | omega | assumption), (by show ((1 : Int32).toInt = 0 → (0 ≤ p1.toInt ∧ p1.toInt ≤ 20)); first | omega | assumption), (by show ((1 : Int32).toInt = 0 → (0 ≤ p2.toInt ∧ p2.toInt ≤ 20)); first | omega | assumption), trivial⟩
    · have fh4 := eqF h4
      exact sRet ⟨(by show 0 ≤ (1 : Int32).toInt; decide), (by show (1 : Int32).toInt ≤ 1; decide), (by show ((1 : Int32).toInt = 0 → (0 ≤ p0.toInt ∧ p0.toInt ≤ 5)); first | omega | assumption), (by show ((1 : Int32).toInt = 0 → (0 ≤ p1.toInt ∧ p1.toInt ≤ 20)); first | omega | assumption), (by show ((1 : Int32).toInt = 0 → (0 ≤ p2.toInt ∧ p2.toInt ≤ 20)); first | omega | assumption), trivial⟩
  · have fh2 := eqF h2
    exact sRet ⟨(by show 0 ≤ (1 : Int32).toInt; decide), (by show (1 : Int32).toInt ≤ 1; decide), (by show ((1 : Int32).toInt = 0 → (0 ≤ p0.toInt ∧ p0.toInt ≤ 5)); first | omega | assumption), (by show ((1 : Int32).toInt = 0 → (0 ≤ p1.toInt ∧ p1.toInt ≤ 20)); first | omega | assumption), (by show ((1 : Int32).toInt = 0 → (0 ≤ p2.toInt ∧ p2.toInt ≤ 20)); first | omega | assumption), trivial⟩
set_option maxHeartbeats 2000000 in
theorem s_X7_bit {N K : Nat} {p0 : Int32} (hN : NBig N) (hK : 100 ≤ K) (hp0 : 0 ≤ p0.toInt) (hp1 : p0.toInt ≤ 1) : Sf (fX7_bit N K p0) (fun (z : Int32) => 0 ≤ z.toInt ∧ z.toInt ≤ 1 ∧ True) := by
  unfold fX7_bit
  have ql0 : (0 : Int32).toInt = 0 := by decide
  have ql1 : (1 : Int32).toInt = 1 := by decide
  refine sIf (fun h1 => ?_) (fun h1 => ?_)
  · have fh1 := eqT h1
    exact sRet ⟨(by show 0 ≤ (0 : Int32).toInt; decide), (by show (0 : Int32).toInt ≤ 1; decide), trivial⟩
  · have fh1 := eqF h1
    exact sRet ⟨(by show 0 ≤ (1 : Int32).toInt; decide), (by show (1 : Int32).toInt ≤ 1; decide), trivial⟩
set_option maxHeartbeats 2000000 in
theorem s_X7_code {N K : Nat} {p0 : Int32} {p1 : Int32} {p2 : Int32} (hN : NBig N) (hK : 100 ≤ K) (hp0 : 0 ≤ p0.toInt) (hp1 : p0.toInt ≤ 5) (hp2 : 0 ≤ p1.toInt) (hp3 : p1.toInt ≤ 20) (hp4 : 0 ≤ p2.toInt) (hp5 : p2.toInt ≤ 20) : Sf (fX7_code N K p0 p1 p2) (fun (z : Int32) => 0 ≤ z.toInt ∧ z.toInt ≤ 5780 ∧ True) := by
  unfold fX7_code
  have ql0 : (0 : Int32).toInt = 0 := by decide
  have ql32 : (32 : Int32).toInt = 32 := by decide
  have ql1024 : (1024 : Int32).toInt = 1024 := by decide
  have t3 := mulL (a := (1024 : Int32)) (b := p0) ql1024 (by omega) (by omega)
  have t4 := mulL (a := (32 : Int32)) (b := p1) ql32 (by omega) (by omega)
  have t2 := addI (a := ((1024 : Int32) * p0)) (b := ((32 : Int32) * p1)) (by omega) (by omega)
  have t1 := addI (a := (((1024 : Int32) * p0) + ((32 : Int32) * p1))) (b := p2) (by omega) (by omega)
  exact sRet ⟨(by show 0 ≤ ((((1024 : Int32) * p0) + ((32 : Int32) * p1)) + p2).toInt; first | omega | assumption), (by show ((((1024 : Int32) * p0) + ((32 : Int32) * p1)) + p2).toInt ≤ 5780; first | omega | assumption), trivial⟩
set_option maxHeartbeats 2000000 in
theorem s_X7_kindOf {N K : Nat} {p0 : Int32} (hN : NBig N) (hK : 100 ≤ K) (hp0 : 0 ≤ p0.toInt) (hp1 : p0.toInt ≤ 6143) : Sf (fX7_kindOf N K p0) (fun (z : Int32) => 0 ≤ z.toInt ∧ z.toInt ≤ 5 ∧ True) := by
  unfold fX7_kindOf
  have ql0 : (0 : Int32).toInt = 0 := by decide
  have ql1024 : (1024 : Int32).toInt = 1024 := by decide
  have t1 := divL (a := p0) (b := (1024 : Int32)) ql1024 (by omega) (by omega)
  exact sRet ⟨(by show 0 ≤ (p0 / (1024 : Int32)).toInt; first | omega | assumption), (by show (p0 / (1024 : Int32)).toInt ≤ 5; first | omega | assumption), trivial⟩
set_option maxHeartbeats 2000000 in
theorem s_X7_numberOf {N K : Nat} {p0 : Int32} (hN : NBig N) (hK : 100 ≤ K) (hp0 : 0 ≤ p0.toInt) (hp1 : p0.toInt ≤ 6143) : Sf (fX7_numberOf N K p0) (fun (z : Int32) => 0 ≤ z.toInt ∧ z.toInt ≤ 31 ∧ True) := by
  unfold fX7_numberOf
  have ql0 : (0 : Int32).toInt = 0 := by decide
  have ql32 : (32 : Int32).toInt = 32 := by decide
  have t2 := divL (a := p0) (b := (32 : Int32)) ql32 (by omega) (by omega)
  have t1 := modL (a := (p0 / (32 : Int32))) (b := (32 : Int32)) ql32 (by omega)
  exact sRet ⟨(by show 0 ≤ ((p0 / (32 : Int32)) % (32 : Int32)).toInt; first | omega | assumption), (by show ((p0 / (32 : Int32)) % (32 : Int32)).toInt ≤ 31; first | omega | assumption), trivial⟩
set_option maxHeartbeats 2000000 in
theorem s_X7_measureOf {N K : Nat} {p0 : Int32} (hN : NBig N) (hK : 100 ≤ K) (hp0 : 0 ≤ p0.toInt) (hp1 : p0.toInt ≤ 6143) : Sf (fX7_measureOf N K p0) (fun (z : Int32) => 0 ≤ z.toInt ∧ z.toInt ≤ 31 ∧ True) := by
  unfold fX7_measureOf
  have ql0 : (0 : Int32).toInt = 0 := by decide
  have ql32 : (32 : Int32).toInt = 32 := by decide
  have t1 := modL (a := p0) (b := (32 : Int32)) ql32 (by omega)
  exact sRet ⟨(by show 0 ≤ (p0 % (32 : Int32)).toInt; first | omega | assumption), (by show (p0 % (32 : Int32)).toInt ≤ 31; first | omega | assumption), trivial⟩
set_option maxHeartbeats 2000000 in
theorem s_X7_rests {N K : Nat} {p0 : Int32} {p1 : Int32} (hN : NBig N) (hK : 100 ≤ K) (hp0 : -8400 ≤ p0.toInt) (hp1 : p0.toInt ≤ 20) (hp2 : 0 ≤ p1.toInt) (hp3 : p1.toInt ≤ 20) : Sf (fX7_rests N K p0 p1) (fun (z : Int32) => 0 ≤ z.toInt ∧ z.toInt ≤ 1 ∧ (z.toInt = 0 → (1 ≤ p0.toInt)) ∧ (z.toInt = 0 → p1.toInt ≠ 0) ∧ True) := by
  unfold fX7_rests
  have ql0 : (0 : Int32).toInt = 0 := by decide
  have ql1 : (1 : Int32).toInt = 1 := by decide
  refine sIf (fun h1 => ?_) (fun h1 => ?_)
  · have fh1 := leT h1
    exact sRet ⟨(by show 0 ≤ (1 : Int32).toInt; decide), (by show (1 : Int32).toInt ≤ 1; decide), (by show ((1 : Int32).toInt = 0 → (1 ≤ p0.toInt)); first | omega | assumption), (by show ((1 : Int32).toInt = 0 → p1.toInt ≠ 0); first | omega | assumption), trivial⟩
  · have fh1 := leF h1
    refine sIf (fun h2 => ?_) (fun h2 => ?_)
    · have fh2 := eqT h2
      exact sRet ⟨(by show 0 ≤ (1 : Int32).toInt; decide), (by show (1 : Int32).toInt ≤ 1; decide), (by show ((1 : Int32).toInt = 0 → (1 ≤ p0.toInt)); first | omega | assumption), (by show ((1 : Int32).toInt = 0 → p1.toInt ≠ 0); first | omega | assumption), trivial⟩
    · have fh2 := eqF h2
      exact sRet ⟨(by show 0 ≤ (0 : Int32).toInt; decide), (by show (0 : Int32).toInt ≤ 1; decide), (by show ((0 : Int32).toInt = 0 → (1 ≤ p0.toInt)); first | omega | assumption), (by show ((0 : Int32).toInt = 0 → p1.toInt ≠ 0); first | omega | assumption), trivial⟩
set_option maxHeartbeats 2000000 in
theorem s_X7_hasLeg {N K : Nat} {p0 : Int32} {p1 : Int32} {p2 : Int32} (hN : NBig N) (hK : 100 ≤ K) (hp0 : 0 ≤ p0.toInt) (hp1 : p0.toInt ≤ 5) (hp2 : 1 ≤ p1.toInt) (hp3 : p1.toInt ≤ 20) (hp4 : 0 ≤ p2.toInt) (hp5 : p2.toInt ≤ 1) : Sf (fX7_hasLeg N K p0 p1 p2) (fun (z : Int32) => 0 ≤ z.toInt ∧ z.toInt ≤ 1 ∧ True) := by
  unfold fX7_hasLeg
  have ql0 : (0 : Int32).toInt = 0 := by decide
  have ql1 : (1 : Int32).toInt = 1 := by decide
  have ql2 : (2 : Int32).toInt = 2 := by decide
  have ql3 : (3 : Int32).toInt = 3 := by decide
  have ql4 : (4 : Int32).toInt = 4 := by decide
  refine sIf (fun h1 => ?_) (fun h1 => ?_)
  · have fh1 := eqT h1
    exact sRet ⟨(by show 0 ≤ (1 : Int32).toInt; decide), (by show (1 : Int32).toInt ≤ 1; decide), trivial⟩
  · have fh1 := eqF h1
    refine sIf (fun h2 => ?_) (fun h2 => ?_)
    · have t3 := modL (a := p1) (b := (2 : Int32)) ql2 (by omega)
      have fh2 := eqT h2
      exact sRet ⟨(by show 0 ≤ (1 : Int32).toInt; decide), (by show (1 : Int32).toInt ≤ 1; decide), trivial⟩
    · have t4 := modL (a := p1) (b := (2 : Int32)) ql2 (by omega)
      have fh2 := eqF h2
      refine sIf (fun h5 => ?_) (fun h5 => ?_)
      · have fh5 := eqT h5
        exact sRet ⟨(by show 0 ≤ (0 : Int32).toInt; decide), (by show (0 : Int32).toInt ≤ 1; decide), trivial⟩
      · have fh5 := eqF h5
        refine sIf (fun h6 => ?_) (fun h6 => ?_)
        · have fh6 := eqT h6
          exact sRet ⟨(by show 0 ≤ (0 : Int32).toInt; decide), (by show (0 : Int32).toInt ≤ 1; decide), trivial⟩
        · have fh6 := eqF h6
          exact sRet ⟨(by show 0 ≤ (1 : Int32).toInt; decide), (by show (1 : Int32).toInt ≤ 1; decide), trivial⟩
set_option maxHeartbeats 2000000 in
theorem s_X7_legNumber {N K : Nat} {p0 : Int32} {p1 : Int32} {p2 : Int32} {p3 : Int32} (hN : NBig N) (hK : 100 ≤ K) (hp0 : 0 ≤ p0.toInt) (hp1 : p0.toInt ≤ 5) (hp2 : 0 ≤ p1.toInt) (hp3 : p1.toInt ≤ 20) (hp4 : 1 ≤ p2.toInt) (hp5 : p2.toInt ≤ 20) (hp6 : 0 ≤ p3.toInt) (hp7 : p3.toInt ≤ 1) : Sf (fX7_legNumber N K p0 p1 p2 p3) (fun (z : Int32) => -20 ≤ z.toInt ∧ z.toInt ≤ 20 ∧ True) := by
  unfold fX7_legNumber
  have ql0 : (0 : Int32).toInt = 0 := by decide
  have ql1 : (1 : Int32).toInt = 1 := by decide
  have ql5 : (5 : Int32).toInt = 5 := by decide
  refine sIf (fun h1 => ?_) (fun h1 => ?_)
  · have fh1 := eqT h1
    have t2 := subI (a := p1) (b := p2) (by omega) (by omega)
    exact sRet ⟨(by show -20 ≤ (p1 - p2).toInt; first | omega | assumption), (by show (p1 - p2).toInt ≤ 20; first | omega | assumption), trivial⟩
  · have fh1 := eqF h1
    refine sIf (fun h3 => ?_) (fun h3 => ?_)
    · have fh3 := eqT h3
      have t4 := subI (a := p1) (b := p2) (by omega) (by omega)
      exact sRet ⟨(by show -20 ≤ (p1 - p2).toInt; first | omega | assumption), (by show (p1 - p2).toInt ≤ 20; first | omega | assumption), trivial⟩
    · have fh3 := eqF h3
      refine sIf (fun h5 => ?_) (fun h5 => ?_)
      · have fh5 := eqT h5
        have t6 := subI (a := p1) (b := (1 : Int32)) (by omega) (by omega)
        exact sRet ⟨(by show -20 ≤ (p1 - (1 : Int32)).toInt; first | omega | assumption), (by show (p1 - (1 : Int32)).toInt ≤ 20; first | omega | assumption), trivial⟩
      · have fh5 := eqF h5
        exact sRet ⟨(by show -20 ≤ p1.toInt; first | omega | assumption), (by show p1.toInt ≤ 20; first | omega | assumption), trivial⟩
set_option maxHeartbeats 2000000 in
theorem s_X7_legMeasure_36 {N K : Nat} {p0 : Int32} {p1 : Int32} {p2 : Int32} (hN : NBig N) (hK : 100 ≤ K) (hp0 : 0 ≤ p0.toInt) (hp1 : p0.toInt ≤ 5) (hp2 : 1 ≤ p1.toInt) (hp3 : p1.toInt ≤ 20) (hp4 : 0 ≤ p2.toInt) (hp5 : p2.toInt ≤ 1) : ∀ (s0 : Int32), 0 ≤ s0.toInt → s0.toInt ≤ 1 → (s0.toInt = 0 → 0 ≤ p0.toInt ∧ p0.toInt ≤ 5 ∧ 1 ≤ p1.toInt ∧ p1.toInt ≤ 20 ∧ 0 ≤ p2.toInt ∧ p2.toInt ≤ 1) → Sf (fX7_legMeasure_36 N K p0 p1 p2  s0) (fun (z : Int32) => 0 ≤ z.toInt ∧ z.toInt ≤ 20 ∧ True) := by
  intro s0 hq0 hq1 hq2
  unfold fX7_legMeasure_36
  have ql0 : (0 : Int32).toInt = 0 := by decide
  have ql1 : (1 : Int32).toInt = 1 := by decide
  refine sIf (fun h1 => ?_) (fun h1 => ?_)
  · have fh1 := eqT h1
    have t2 := subI (a := p1) (b := (1 : Int32)) (by omega) (by omega)
    exact sRet ⟨(by show 0 ≤ (p1 - (1 : Int32)).toInt; first | omega | assumption), (by show (p1 - (1 : Int32)).toInt ≤ 20; first | omega | assumption), trivial⟩
  · have fh1 := eqF h1
    exact sRet ⟨(by show 0 ≤ p1.toInt; first | omega | assumption), (by show p1.toInt ≤ 20; first | omega | assumption), trivial⟩
set_option maxHeartbeats 2000000 in
theorem s_X7_legMeasure_31 {N K : Nat} {p0 : Int32} {p1 : Int32} {p2 : Int32} (hN : NBig N) (hK : 100 ≤ K) (hp0 : 0 ≤ p0.toInt) (hp1 : p0.toInt ≤ 5) (hp2 : 1 ≤ p1.toInt) (hp3 : p1.toInt ≤ 20) (hp4 : 0 ≤ p2.toInt) (hp5 : p2.toInt ≤ 1) : 0 ≤ p0.toInt → p0.toInt ≤ 3 → 1 ≤ p2.toInt → p2.toInt ≤ 1 → Sf (fX7_legMeasure_31 N K p0 p1 p2  ) (fun (z : Int32) => 0 ≤ z.toInt ∧ z.toInt ≤ 20 ∧ True) := by
  intro  hq0 hq1 hq2 hq3
  unfold fX7_legMeasure_31
  have ql0 : (0 : Int32).toInt = 0 := by decide
  have ql1 : (1 : Int32).toInt = 1 := by decide
  exact s_X7_legMeasure_36  hN hK (by omega) (by omega) (by omega) (by omega) (by omega) (by omega) _ (by first | omega | decide) (by first | omega | decide) (by first | omega | decide)

end MG_50esafe
section MG_50fsafe
set_option maxHeartbeats 2000000 in
theorem s_X7_legMeasure {N K : Nat} {p0 : Int32} {p1 : Int32} {p2 : Int32} (hN : NBig N) (hK : 100 ≤ K) (hp0 : 0 ≤ p0.toInt) (hp1 : p0.toInt ≤ 5) (hp2 : 1 ≤ p1.toInt) (hp3 : p1.toInt ≤ 20) (hp4 : 0 ≤ p2.toInt) (hp5 : p2.toInt ≤ 1) : Sf (fX7_legMeasure N K p0 p1 p2) (fun (z : Int32) => 0 ≤ z.toInt ∧ z.toInt ≤ 20 ∧ True) := by
  unfold fX7_legMeasure
  have ql0 : (0 : Int32).toInt = 0 := by decide
  have ql1 : (1 : Int32).toInt = 1 := by decide
  have ql3 : (3 : Int32).toInt = 3 := by decide
  have ql5 : (5 : Int32).toInt = 5 := by decide
  refine sIf (fun h1 => ?_) (fun h1 => ?_)
  · have fh1 := eqT h1
    refine sIf (fun h2 => ?_) (fun h2 => ?_)
    · have fh2 := eqT h2
      exact s_X7_legMeasure_36  hN hK (by omega) (by omega) (by omega) (by omega) (by omega) (by omega) _ (by first | omega | decide) (by first | omega | decide) (by first | omega | decide)
    · have fh2 := eqF h2
      exact s_X7_legMeasure_36  hN hK (by omega) (by omega) (by omega) (by omega) (by omega) (by omega) _ (by first | omega | decide) (by first | omega | decide) (by first | omega | decide)
  · have fh1 := eqF h1
    refine sIf (fun h3 => ?_) (fun h3 => ?_)
    · have fh3 := eqT h3
      exact s_X7_legMeasure_31  hN hK (by omega) (by omega) (by omega) (by omega) (by omega) (by omega)  (by first | omega | decide) (by first | omega | decide) (by first | omega | decide) (by first | omega | decide)
    · have fh3 := eqF h3
      refine sIf (fun h4 => ?_) (fun h4 => ?_)
      · have fh4 := eqT h4
        exact s_X7_legMeasure_31  hN hK (by omega) (by omega) (by omega) (by omega) (by omega) (by omega)  (by first | omega | decide) (by first | omega | decide) (by first | omega | decide) (by first | omega | decide)
      · have fh4 := eqF h4
        refine sIf (fun h5 => ?_) (fun h5 => ?_)
        · have fh5 := eqT h5
          exact s_X7_legMeasure_31  hN hK (by omega) (by omega) (by omega) (by omega) (by omega) (by omega)  (by first | omega | decide) (by first | omega | decide) (by first | omega | decide) (by first | omega | decide)
        · have fh5 := eqF h5
          exact s_X7_legMeasure_36  hN hK (by omega) (by omega) (by omega) (by omega) (by omega) (by omega) _ (by first | omega | decide) (by first | omega | decide) (by first | omega | decide)
set_option maxHeartbeats 2000000 in
theorem s_X7_thrown {N K : Nat} {th : Int32} (hN : NBig N) (hK : 100 ≤ K)  : Sf (fX7_thrown N K th) (fun (z : Int32) => True) := by
  unfold fX7_thrown
  have ql0 : (0 : Int32).toInt = 0 := by decide
  exact sRet trivial
set_option maxHeartbeats 2000000 in
theorem s_X7_isThrown_18 {N K : Nat} {th : Int32} {p0 : Int32} {p1 : Int32} (hN : NBig N) (hK : 100 ≤ K) (hp0 : 0 ≤ p0.toInt) (hp1 : p0.toInt ≤ 1) (hp2 : 0 ≤ p1.toInt) (hp3 : p1.toInt ≤ 1) : ∀ (s0 : Int32) (th_ : Int32), 0 ≤ s0.toInt → s0.toInt ≤ 2 → (s0.toInt = 0 → 0 ≤ p0.toInt ∧ p0.toInt ≤ 0 ∧ 0 ≤ p1.toInt ∧ p1.toInt ≤ 0) → Sf (fX7_isThrown_18 N K th p0 p1  s0 th_) (fun (z : Int32 × Int32) => 0 ≤ z.1.toInt ∧ z.1.toInt ≤ 1 ∧ 0 ≤ z.2.toInt ∧ z.2.toInt ≤ 2 ∧ (z.1.toInt = 0 → (0 ≤ p0.toInt ∧ p0.toInt ≤ 0)) ∧ (z.1.toInt = 0 → (0 ≤ p1.toInt ∧ p1.toInt ≤ 0)) ∧ True) := by
  intro s0 th_ hq0 hq1 hq2
  unfold fX7_isThrown_18
  have ql0 : (0 : Int32).toInt = 0 := by decide
  have ql1 : (1 : Int32).toInt = 1 := by decide
  refine sIf (fun h1 => ?_) (fun h1 => ?_)
  · have fh1 := leT h1
    exact sRet ⟨(by show 0 ≤ (0 : Int32).toInt; decide), (by show (0 : Int32).toInt ≤ 1; decide), (by show 0 ≤ s0.toInt; first | omega | assumption), (by show s0.toInt ≤ 2; first | omega | assumption), (by show ((0 : Int32).toInt = 0 → (0 ≤ p0.toInt ∧ p0.toInt ≤ 0)); first | omega | assumption), (by show ((0 : Int32).toInt = 0 → (0 ≤ p1.toInt ∧ p1.toInt ≤ 0)); first | omega | assumption), trivial⟩
  · have fh1 := leF h1
    exact sRet ⟨(by show 0 ≤ (1 : Int32).toInt; decide), (by show (1 : Int32).toInt ≤ 1; decide), (by show 0 ≤ s0.toInt; first | omega | assumption), (by show s0.toInt ≤ 2; first | omega | assumption), (by show ((1 : Int32).toInt = 0 → (0 ≤ p0.toInt ∧ p0.toInt ≤ 0)); first | omega | assumption), (by show ((1 : Int32).toInt = 0 → (0 ≤ p1.toInt ∧ p1.toInt ≤ 0)); first | omega | assumption), trivial⟩
set_option maxHeartbeats 2000000 in
theorem s_X7_isThrown {N K : Nat} {th : Int32} {p0 : Int32} {p1 : Int32} (hN : NBig N) (hK : 100 ≤ K) (hp0 : 0 ≤ p0.toInt) (hp1 : p0.toInt ≤ 1) (hp2 : 0 ≤ p1.toInt) (hp3 : p1.toInt ≤ 1) : Sf (fX7_isThrown N K th p0 p1) (fun (z : Int32 × Int32) => 0 ≤ z.1.toInt ∧ z.1.toInt ≤ 1 ∧ 0 ≤ z.2.toInt ∧ z.2.toInt ≤ 2 ∧ (z.1.toInt = 0 → (0 ≤ p0.toInt ∧ p0.toInt ≤ 0)) ∧ (z.1.toInt = 0 → (0 ≤ p1.toInt ∧ p1.toInt ≤ 0)) ∧ True) := by
  unfold fX7_isThrown
  have ql0 : (0 : Int32).toInt = 0 := by decide
  have ql1 : (1 : Int32).toInt = 1 := by decide
  have ql2 : (2 : Int32).toInt = 2 := by decide
  refine sIf (fun h1 => ?_) (fun h1 => ?_)
  · have fh1 := eqT h1
    refine sIf (fun h2 => ?_) (fun h2 => ?_)
    · have fh2 := eqT h2
      exact s_X7_isThrown_18  hN hK (by omega) (by omega) (by omega) (by omega) _ _ (by first | omega | decide) (by first | omega | decide) (by first | omega | decide)
    · have fh2 := eqF h2
      exact s_X7_isThrown_18  hN hK (by omega) (by omega) (by omega) (by omega) _ _ (by first | omega | decide) (by first | omega | decide) (by first | omega | decide)
  · have fh1 := eqF h1
    exact s_X7_isThrown_18  hN hK (by omega) (by omega) (by omega) (by omega) _ _ (by first | omega | decide) (by first | omega | decide) (by first | omega | decide)
set_option maxHeartbeats 2000000 in
theorem s_X7_done {N K : Nat} {th : Int32} {t : Nat → Int32} {p0 : Int32} (hN : NBig N) (hK : 100 ≤ K) (hp0 : 0 ≤ th.toInt) (hp1 : th.toInt ≤ 2) : Sf (fX7_done N K th t p0) (fun (z : Int32 × (Nat → Int32)) => True) := by
  unfold fX7_done
  have ql0 : (0 : Int32).toInt = 0 := by decide
  exact sRet trivial
set_option maxHeartbeats 2000000 in
theorem s_X7_refused {N K : Nat} {th : Int32} {t : Nat → Int32} (hN : NBig N) (hK : 100 ≤ K) (hp0 : 0 ≤ th.toInt) (hp1 : th.toInt ≤ 2) : Sf (fX7_refused N K th t) (fun (z : Int32 × (Nat → Int32)) => -9 ≤ z.1.toInt ∧ z.1.toInt ≤ -9 ∧ True) := by
  unfold fX7_refused
  have ql0 : (0 : Int32).toInt = 0 := by decide
  exact sRet ⟨(by show -9 ≤ (-9 : Int32).toInt; decide), (by show (-9 : Int32).toInt ≤ -9; decide), trivial⟩
set_option maxHeartbeats 2000000 in
theorem s_X7_worth_48 {N K : Nat} {th : Int32} {f : Nat → Int32} {p0 : Int32} {p1 : Int32} {p2 : Int32} {p3 : Int32} (hN : NBig N) (hK : 100 ≤ K) (hp0 : 0 ≤ th.toInt) (hp1 : th.toInt ≤ 2) (hp2 : 0 ≤ p0.toInt) (hp3 : p0.toInt ≤ 2) (hp4 : 0 ≤ p1.toInt) (hp5 : p1.toInt ≤ 5) (hp6 : -8400 ≤ p2.toInt) (hp7 : p2.toInt ≤ 20) (hp8 : 0 ≤ p3.toInt) (hp9 : p3.toInt ≤ 20) : ∀ (s0 : Int32), 0 ≤ s0.toInt → s0.toInt ≤ 1 → (s0.toInt = 0 → 0 ≤ th.toInt ∧ th.toInt ≤ 2 ∧ 0 ≤ p0.toInt ∧ p0.toInt ≤ 2 ∧ 0 ≤ p1.toInt ∧ p1.toInt ≤ 5 ∧ -8400 ≤ p2.toInt ∧ p2.toInt ≤ 20 ∧ 0 ≤ p3.toInt ∧ p3.toInt ≤ 20) → Sf (fX7_worth_48 N K th f p0 p1 p2 p3  s0) (fun (z : Int32) => True) := by
  intro s0 hq0 hq1 hq2
  unfold fX7_worth_48
  have ql0 : (0 : Int32).toInt = 0 := by decide
  refine sBind (s_X7_bit hN hK (by first | omega | decide) (by first | omega | decide)) (fun x48 b1 => ?_)
  obtain ⟨b1_0, b1_1, -⟩ := b1
  replace b1_0 : 0 ≤ x48.toInt := b1_0
  replace b1_1 : x48.toInt ≤ 1 := b1_1
  exact sRet trivial
set_option maxHeartbeats 2000000 in
theorem s_X7_worth_47 {N K : Nat} {th : Int32} {f : Nat → Int32} {p0 : Int32} {p1 : Int32} {p2 : Int32} {p3 : Int32} (hN : NBig N) (hK : 100 ≤ K) (hp0 : 0 ≤ th.toInt) (hp1 : th.toInt ≤ 2) (hp2 : 0 ≤ p0.toInt) (hp3 : p0.toInt ≤ 2) (hp4 : 0 ≤ p1.toInt) (hp5 : p1.toInt ≤ 5) (hp6 : -8400 ≤ p2.toInt) (hp7 : p2.toInt ≤ 20) (hp8 : 0 ≤ p3.toInt) (hp9 : p3.toInt ≤ 20) : Sf (fX7_worth_47 N K th f p0 p1 p2 p3  ) (fun (z : Int32) => True) := by
  unfold fX7_worth_47
  have ql0 : (0 : Int32).toInt = 0 := by decide
  exact s_X7_worth_48  hN hK (by omega) (by omega) (by omega) (by omega) (by omega) (by omega) (by omega) (by omega) (by omega) (by omega) _ (by first | omega | decide) (by first | omega | decide) (by first | omega | decide)
set_option maxHeartbeats 2000000 in
theorem s_X7_worth_43 {N K : Nat} {th : Int32} {f : Nat → Int32} {p0 : Int32} {p1 : Int32} {p2 : Int32} {p3 : Int32} (hN : NBig N) (hK : 100 ≤ K) (hp0 : 0 ≤ th.toInt) (hp1 : th.toInt ≤ 2) (hp2 : 0 ≤ p0.toInt) (hp3 : p0.toInt ≤ 2) (hp4 : 0 ≤ p1.toInt) (hp5 : p1.toInt ≤ 5) (hp6 : -8400 ≤ p2.toInt) (hp7 : p2.toInt ≤ 20) (hp8 : 0 ≤ p3.toInt) (hp9 : p3.toInt ≤ 20) : 0 ≤ p2.toInt → p2.toInt ≤ 0 → Sf (fX7_worth_43 N K th f p0 p1 p2 p3  ) (fun (z : Int32) => True) := by
  intro  hq0 hq1
  unfold fX7_worth_43
  have ql0 : (0 : Int32).toInt = 0 := by decide
  have ql1 : (1 : Int32).toInt = 1 := by decide
  exact s_X7_worth_48  hN hK (by omega) (by omega) (by omega) (by omega) (by omega) (by omega) (by omega) (by omega) (by omega) (by omega) _ (by first | omega | decide) (by first | omega | decide) (by first | omega | decide)
set_option maxHeartbeats 2000000 in
theorem s_X7_worth {N K : Nat} {th : Int32} {f : Nat → Int32} {p0 : Int32} {p1 : Int32} {p2 : Int32} {p3 : Int32} (hN : NBig N) (hK : 100 ≤ K) (hp0 : 0 ≤ th.toInt) (hp1 : th.toInt ≤ 2) (hp2 : 0 ≤ p0.toInt) (hp3 : p0.toInt ≤ 2) (hp4 : 0 ≤ p1.toInt) (hp5 : p1.toInt ≤ 5) (hp6 : -8400 ≤ p2.toInt) (hp7 : p2.toInt ≤ 20) (hp8 : 0 ≤ p3.toInt) (hp9 : p3.toInt ≤ 20) : Sf (fX7_worth N K th f p0 p1 p2 p3) (fun (z : Int32) => True) := by
  unfold fX7_worth
  have ql0 : (0 : Int32).toInt = 0 := by decide
  have ql1 : (1 : Int32).toInt = 1 := by decide
  have ql5 : (5 : Int32).toInt = 5 := by decide
  refine sBind (s_X7_rests hN hK (by first | omega | decide) (by first | omega | decide) (by first | omega | decide) (by first | omega | decide)) (fun x3 b1 => ?_)
  obtain ⟨b1_0, b1_1, b1_2, b1_3, -⟩ := b1
  replace b1_0 : 0 ≤ x3.toInt := b1_0
  replace b1_1 : x3.toInt ≤ 1 := b1_1
  replace b1_2 : (x3.toInt = 0 → (1 ≤ p2.toInt)) := b1_2
  replace b1_3 : (x3.toInt = 0 → p3.toInt ≠ 0) := b1_3
  refine sIf (fun h2 => ?_) (fun h2 => ?_)
  · have fh2 := eqT h2
    refine sIfF (noob (by omega) (by omega)) ?_
    refine sBind (s_X7_code hN hK (by first | omega | decide) (by first | omega | decide) (by first | omega | decide) (by first | omega | decide) (by first | omega | decide) (by first | omega | decide)) (fun x19 b3 => ?_)
    obtain ⟨b3_0, b3_1, -⟩ := b3
    replace b3_0 : 0 ≤ x19.toInt := b3_0
    replace b3_1 : x19.toInt ≤ 5780 := b3_1
    refine sIfF (noob (by omega) (by omega)) ?_
    exact sRet trivial
  · have fh2 := eqF h2
    refine sIf (fun h4 => ?_) (fun h4 => ?_)
    · have fh4 := eqT h4
      refine sIf (fun h5 => ?_) (fun h5 => ?_)
      · have fh5 := eqT h5
        exact s_X7_worth_43  hN hK (by omega) (by omega) (by omega) (by omega) (by omega) (by omega) (by omega) (by omega) (by omega) (by omega)  (by first | omega | decide) (by first | omega | decide)
      · have fh5 := eqF h5
        refine sIf (fun h6 => ?_) (fun h6 => ?_)
        · have fh6 := eqT h6
          exact s_X7_worth_47  hN hK (by omega) (by omega) (by omega) (by omega) (by omega) (by omega) (by omega) (by omega) (by omega) (by omega) 
        · have fh6 := eqF h6
          refine sIf (fun h7 => ?_) (fun h7 => ?_)
          · have fh7 := eqT h7
            exact s_X7_worth_47  hN hK (by omega) (by omega) (by omega) (by omega) (by omega) (by omega) (by omega) (by omega) (by omega) (by omega) 
          · have fh7 := eqF h7
            exact s_X7_worth_43  hN hK (by omega) (by omega) (by omega) (by omega) (by omega) (by omega) (by omega) (by omega) (by omega) (by omega)  (by first | omega | decide) (by first | omega | decide)
    · have fh4 := eqF h4
      exact s_X7_worth_47  hN hK (by omega) (by omega) (by omega) (by omega) (by omega) (by omega) (by omega) (by omega) (by omega) (by omega) 
set_option maxHeartbeats 2000000 in
theorem s_X7_kept {N K : Nat} {th : Int32} {f : Nat → Int32} {p0 : Int32} {p1 : Int32} {p2 : Int32} {p3 : Int32} (hN : NBig N) (hK : 100 ≤ K) (hp0 : 0 ≤ th.toInt) (hp1 : th.toInt ≤ 2) (hp2 : 0 ≤ p0.toInt) (hp3 : p0.toInt ≤ 2) (hp4 : 0 ≤ p1.toInt) (hp5 : p1.toInt ≤ 5) (hp6 : 0 ≤ p2.toInt) (hp7 : p2.toInt ≤ 20) (hp8 : 0 ≤ p3.toInt) (hp9 : p3.toInt ≤ 20) : Sf (fX7_kept N K th f p0 p1 p2 p3) (fun (z : Int32) => True) := by
  unfold fX7_kept
  have ql0 : (0 : Int32).toInt = 0 := by decide
  refine sIfF (noob (by omega) (by omega)) ?_
  refine sBind (s_X7_code hN hK (by first | omega | decide) (by first | omega | decide) (by first | omega | decide) (by first | omega | decide) (by first | omega | decide) (by first | omega | decide)) (fun x10 b1 => ?_)
  obtain ⟨b1_0, b1_1, -⟩ := b1
  replace b1_0 : 0 ≤ x10.toInt := b1_0
  replace b1_1 : x10.toInt ≤ 5780 := b1_1
  refine sIfF (noob (by omega) (by omega)) ?_
  exact sRet trivial
set_option maxHeartbeats 2000000 in
theorem s_X7_keep_64 {N K : Nat} {th : Int32} {f : Nat → Int32} {p0 : Int32} {p1 : Int32} {p2 : Int32} {p3 : Int32} (hN : NBig N) (hK : 100 ≤ K) (hp0 : 0 ≤ th.toInt) (hp1 : th.toInt ≤ 2) (hp2 : 0 ≤ p0.toInt) (hp3 : p0.toInt ≤ 2) (hp4 : 0 ≤ p1.toInt) (hp5 : p1.toInt ≤ 5) (hp6 : 0 ≤ p2.toInt) (hp7 : p2.toInt ≤ 20) (hp8 : 1 ≤ p3.toInt) (hp9 : p3.toInt ≤ 20) {k_19 : Int32 → Int32 → (Nat → Int32) → Option ((Nat → Int32))} {m_19 : Nat} (hk_19 : ∀ (l5 : Int32) (l6 : Int32) (f_ : (Nat → Int32)), (2 - l6.toInt).toNat < m_19 → 0 ≤ l6.toInt → l6.toInt ≤ 2 → Sf (k_19 l5 l6 f_) (fun (z : (Nat → Int32)) => True)) : ∀ (l5 : Int32) (l6 : Int32) (f_ : Nat → Int32), 0 ≤ l6.toInt → l6.toInt ≤ 1 → (2 - l6.toInt).toNat ≤ m_19 → Sf (fX7_keep_64 N K th f p0 p1 p2 p3 k_19 l5 l6 f_) (fun (z : (Nat → Int32)) => True) := by
  intro l5 l6 f_ hq0 hq1 hq2
  unfold fX7_keep_64
  have ql0 : (0 : Int32).toInt = 0 := by decide
  have ql1 : (1 : Int32).toInt = 1 := by decide
  have t1 := addI (a := l6) (b := (1 : Int32)) (by omega) (by omega)
  exact hk_19 _ _ _ (by omega) (by first | omega | decide) (by first | omega | decide)
set_option maxHeartbeats 2000000 in
theorem s_X7_keep_19 {N K : Nat} {th : Int32} {f : Nat → Int32} {p0 : Int32} {p1 : Int32} {p2 : Int32} {p3 : Int32} (hN : NBig N) (hK : 100 ≤ K) (hp0 : 0 ≤ th.toInt) (hp1 : th.toInt ≤ 2) (hp2 : 0 ≤ p0.toInt) (hp3 : p0.toInt ≤ 2) (hp4 : 0 ≤ p1.toInt) (hp5 : p1.toInt ≤ 5) (hp6 : 0 ≤ p2.toInt) (hp7 : p2.toInt ≤ 20) (hp8 : 1 ≤ p3.toInt) (hp9 : p3.toInt ≤ 20) : ∀ (fu : Nat) (l5 : Int32) (l6 : Int32) (f_ : (Nat → Int32)), (2 - l6.toInt).toNat < fu → 0 ≤ l6.toInt → l6.toInt ≤ 2 → Sf (fX7_keep_19 N K th f p0 p1 p2 p3  fu l5 l6 f_) (fun (z : (Nat → Int32)) => True) := by
  intro fu
  induction fu with
  | zero => intro l5 l6 f_ h0 hq0 hq1; omega
  | succ fu ih =>
    intro l5 l6 f_ h0 hq0 hq1
    unfold fX7_keep_19
    have ql0 : (0 : Int32).toInt = 0 := by decide
    have ql2 : (2 : Int32).toInt = 2 := by decide
    refine sIf (fun h1 => ?_) (fun h1 => ?_)
    · have fh1 := leT h1
      refine sIfF (noob (by omega) (by omega)) ?_
      refine sBind (s_X7_code hN hK (by first | omega | decide) (by first | omega | decide) (by first | omega | decide) (by first | omega | decide) (by first | omega | decide) (by first | omega | decide)) (fun x80 b2 => ?_)
      obtain ⟨b2_0, b2_1, -⟩ := b2
      replace b2_0 : 0 ≤ x80.toInt := b2_0
      replace b2_1 : x80.toInt ≤ 5780 := b2_1
      refine sIfF (noob (by omega) (by omega)) ?_
      exact sRet trivial
    · have fh1 := leF h1
      refine sBind (s_X7_hasLeg hN hK (by first | omega | decide) (by first | omega | decide) (by first | omega | decide) (by first | omega | decide) (by first | omega | decide) (by first | omega | decide)) (fun x30 b3 => ?_)
      obtain ⟨b3_0, b3_1, -⟩ := b3
      replace b3_0 : 0 ≤ x30.toInt := b3_0
      replace b3_1 : x30.toInt ≤ 1 := b3_1
      refine sIf (fun h4 => ?_) (fun h4 => ?_)
      · have fh4 := eqT h4
        exact s_X7_keep_64 (hk_19 := ih) hN hK (by omega) (by omega) (by omega) (by omega) (by omega) (by omega) (by omega) (by omega) (by omega) (by omega) _ _ _ (by first | omega | decide) (by first | omega | decide) (by omega)
      · have fh4 := eqF h4
        refine sBind (s_X7_legNumber hN hK (by first | omega | decide) (by first | omega | decide) (by first | omega | decide) (by first | omega | decide) (by first | omega | decide) (by first | omega | decide) (by first | omega | decide) (by first | omega | decide)) (fun x47 b5 => ?_)
        obtain ⟨b5_0, b5_1, -⟩ := b5
        replace b5_0 : -20 ≤ x47.toInt := b5_0
        replace b5_1 : x47.toInt ≤ 20 := b5_1
        refine sBind (s_X7_legMeasure hN hK (by first | omega | decide) (by first | omega | decide) (by first | omega | decide) (by first | omega | decide) (by first | omega | decide) (by first | omega | decide)) (fun x55 b6 => ?_)
        obtain ⟨b6_0, b6_1, -⟩ := b6
        replace b6_0 : 0 ≤ x55.toInt := b6_0
        replace b6_1 : x55.toInt ≤ 20 := b6_1
        refine sBind (s_X7_worth hN hK (by first | omega | decide) (by first | omega | decide) (by first | omega | decide) (by first | omega | decide) (by first | omega | decide) (by first | omega | decide) (by first | omega | decide) (by first | omega | decide) (by first | omega | decide) (by first | omega | decide)) (fun x58 b7 => ?_)
        exact s_X7_keep_64 (hk_19 := ih) hN hK (by omega) (by omega) (by omega) (by omega) (by omega) (by omega) (by omega) (by omega) (by omega) (by omega) _ _ _ (by first | omega | decide) (by first | omega | decide) (by omega)
set_option maxHeartbeats 2000000 in
theorem s_X7_keep {N K : Nat} {th : Int32} {f : Nat → Int32} {p0 : Int32} {p1 : Int32} {p2 : Int32} {p3 : Int32} (hN : NBig N) (hK : 100 ≤ K) (hp0 : 0 ≤ th.toInt) (hp1 : th.toInt ≤ 2) (hp2 : 0 ≤ p0.toInt) (hp3 : p0.toInt ≤ 2) (hp4 : 0 ≤ p1.toInt) (hp5 : p1.toInt ≤ 5) (hp6 : 0 ≤ p2.toInt) (hp7 : p2.toInt ≤ 20) (hp8 : 1 ≤ p3.toInt) (hp9 : p3.toInt ≤ 20) : Sf (fX7_keep N K th f p0 p1 p2 p3) (fun (z : (Nat → Int32)) => True) := by
  unfold fX7_keep
  have hN9 := hN.u
  have ql0 : (0 : Int32).toInt = 0 := by decide
  refine sBind (s_X7_worth hN hK (by first | omega | decide) (by first | omega | decide) (by first | omega | decide) (by first | omega | decide) (by first | omega | decide) (by first | omega | decide) (by first | omega | decide) (by first | omega | decide) (by first | omega | decide) (by first | omega | decide)) (fun x6 b1 => ?_)
  refine sIf (fun h2 => ?_) (fun h2 => ?_)
  · have fh2 := ltT h2
    exact s_X7_keep_19  hN hK (by omega) (by omega) (by omega) (by omega) (by omega) (by omega) (by omega) (by omega) (by omega) (by omega) _ _ _ _ (by omega) (by first | omega | decide) (by first | omega | decide)
  · have fh2 := ltF h2
    exact sRet trivial
set_option maxHeartbeats 2000000 in
theorem s_X7_known_315 {N K : Nat} {th : Int32} {f : Nat → Int32} {t : Nat → Int32} {u : Nat → Int32} {p0 : Int32} {p1 : Int32} {p2 : Int32} {p3 : Int32} (hN : NBig N) (hK : 100 ≤ K) (hp0 : 0 ≤ th.toInt) (hp1 : th.toInt ≤ 2) (hp2 : 0 ≤ p0.toInt) (hp3 : p0.toInt ≤ 2) (hp4 : 0 ≤ p1.toInt) (hp5 : p1.toInt ≤ 5) (hp6 : -8400 ≤ p2.toInt) (hp7 : p2.toInt ≤ 20) (hp8 : 0 ≤ p3.toInt) (hp9 : p3.toInt ≤ 20) {k_277 : Int32 → (Nat → Int32) → (Nat → Int32) → (Nat → Int32) → Option (Int32 × (Nat → Int32) × (Nat → Int32) × (Nat → Int32))} {m_277 : Nat} (hk_277 : ∀ (l5 : Int32) (f_ : (Nat → Int32)) (t_ : (Nat → Int32)) (u_ : (Nat → Int32)), (441 - l5.toInt).toNat < m_277 → 1 ≤ p2.toInt → p2.toInt ≤ 20 → 1 ≤ p3.toInt → p3.toInt ≤ 20 → 0 ≤ l5.toInt → l5.toInt ≤ 441 → (∀ a : Nat, a < 21 → u_ a = 0) → Sf (k_277 l5 f_ t_ u_) (fun (z : Int32 × (Nat → Int32) × (Nat → Int32) × (Nat → Int32)) => True)) : ∀ (l5 : Int32) (f_ : Nat → Int32) (t_ : Nat → Int32) (u_ : Nat → Int32), 1 ≤ p2.toInt → p2.toInt ≤ 20 → 1 ≤ p3.toInt → p3.toInt ≤ 20 → 0 ≤ l5.toInt → l5.toInt ≤ 440 → (∀ a : Nat, a < 21 → u_ a = 0) → (441 - l5.toInt).toNat ≤ m_277 → Sf (fX7_known_315 N K th f t u p0 p1 p2 p3 k_277 l5 f_ t_ u_) (fun (z : Int32 × (Nat → Int32) × (Nat → Int32) × (Nat → Int32)) => True) := by
  intro l5 f_ t_ u_ hq0 hq1 hq2 hq3 hq4 hq5 hq6 hq7
  unfold fX7_known_315
  have ql0 : (0 : Int32).toInt = 0 := by decide
  have ql1 : (1 : Int32).toInt = 1 := by decide
  have t1 := addI (a := l5) (b := (1 : Int32)) (by omega) (by omega)
  exact hk_277 _ _ _ _ (by omega) (by first | omega | decide) (by first | omega | decide) (by first | omega | decide) (by first | omega | decide) (by first | omega | decide) (by first | omega | decide) (by first | assumption | exact uz2 ‹∀ a : Nat, a < 21 → u_ a = 0› (by omega))
set_option maxHeartbeats 2000000 in
theorem s_X7_known_277 {N K : Nat} {th : Int32} {f : Nat → Int32} {t : Nat → Int32} {u : Nat → Int32} {p0 : Int32} {p1 : Int32} {p2 : Int32} {p3 : Int32} (hN : NBig N) (hK : 100 ≤ K) (hp0 : 0 ≤ th.toInt) (hp1 : th.toInt ≤ 2) (hp2 : 0 ≤ p0.toInt) (hp3 : p0.toInt ≤ 2) (hp4 : 0 ≤ p1.toInt) (hp5 : p1.toInt ≤ 5) (hp6 : -8400 ≤ p2.toInt) (hp7 : p2.toInt ≤ 20) (hp8 : 0 ≤ p3.toInt) (hp9 : p3.toInt ≤ 20) : ∀ (fu : Nat) (l5 : Int32) (f_ : (Nat → Int32)) (t_ : (Nat → Int32)) (u_ : (Nat → Int32)), (441 - l5.toInt).toNat < fu → 1 ≤ p2.toInt → p2.toInt ≤ 20 → 1 ≤ p3.toInt → p3.toInt ≤ 20 → 0 ≤ l5.toInt → l5.toInt ≤ 441 → (∀ a : Nat, a < 21 → u_ a = 0) → Sf (fX7_known_277 N K th f t u p0 p1 p2 p3  fu l5 f_ t_ u_) (fun (z : Int32 × (Nat → Int32) × (Nat → Int32) × (Nat → Int32)) => True) := by
  intro fu
  induction fu with
  | zero => intro l5 f_ t_ u_ h0 hq0 hq1 hq2 hq3 hq4 hq5 hq6; omega
  | succ fu ih =>
    intro l5 f_ t_ u_ h0 hq0 hq1 hq2 hq3 hq4 hq5 hq6
    unfold fX7_known_277
    have ql0 : (0 : Int32).toInt = 0 := by decide
    have ql21 : (21 : Int32).toInt = 21 := by decide
    refine sIf (fun h1 => ?_) (fun h1 => ?_)
    · have t3 := mulL (a := (21 : Int32)) (b := p3) ql21 (by omega) (by omega)
      have t2 := addI (a := ((21 : Int32) * p3)) (b := p2) (by omega) (by omega)
      have fh1 := ltT h1
      refine sBind (s_X7_worth hN hK (by first | omega | decide) (by first | omega | decide) (by first | omega | decide) (by first | omega | decide) (by first | omega | decide) (by first | omega | decide) (by first | omega | decide) (by first | omega | decide) (by first | omega | decide) (by first | omega | decide)) (fun x327 b4 => ?_)
      exact sRet trivial
    · have t6 := mulL (a := (21 : Int32)) (b := p3) ql21 (by omega) (by omega)
      have t5 := addI (a := ((21 : Int32) * p3)) (b := p2) (by omega) (by omega)
      have fh1 := ltF h1
      refine sIfF (noob (by omega) (by omega)) ?_
      refine sIf (fun h7 => ?_) (fun h7 => ?_)
      · have fh7 := leT h7
        exact s_X7_known_315 (hk_277 := ih) hN hK (by omega) (by omega) (by omega) (by omega) (by omega) (by omega) (by omega) (by omega) (by omega) (by omega) _ _ _ _ (by first | omega | decide) (by first | omega | decide) (by first | omega | decide) (by first | omega | decide) (by first | omega | decide) (by first | omega | decide) (by first | assumption | exact uz2 ‹∀ a : Nat, a < 21 → u_ a = 0› (by omega)) (by omega)
      · have fh7 := leF h7
        have z6 : 21 ≤ l5.toInt := uz4 ‹∀ a : Nat, a < 21 → u_ a = 0› h7 (by omega)
        have t8 := modL (a := l5) (b := (21 : Int32)) ql21 (by omega)
        have t9 := divL (a := l5) (b := (21 : Int32)) ql21 (by omega) (by omega)
        refine sBind (s_X7_keep hN hK (by first | omega | decide) (by first | omega | decide) (by first | omega | decide) (by first | omega | decide) (by first | omega | decide) (by first | omega | decide) (by first | omega | decide) (by first | omega | decide) (by first | omega | decide) (by first | omega | decide)) (fun x312 b10 => ?_)
        exact s_X7_known_315 (hk_277 := ih) hN hK (by omega) (by omega) (by omega) (by omega) (by omega) (by omega) (by omega) (by omega) (by omega) (by omega) _ _ _ _ (by first | omega | decide) (by first | omega | decide) (by first | omega | decide) (by first | omega | decide) (by first | omega | decide) (by first | omega | decide) (by first | assumption | exact uz2 ‹∀ a : Nat, a < 21 → u_ a = 0› (by omega)) (by omega)
set_option maxHeartbeats 2000000 in
theorem s_X7_known_268 {N K : Nat} {th : Int32} {f : Nat → Int32} {t : Nat → Int32} {u : Nat → Int32} {p0 : Int32} {p1 : Int32} {p2 : Int32} {p3 : Int32} (hN : NBig N) (hK : 100 ≤ K) (hp0 : 0 ≤ th.toInt) (hp1 : th.toInt ≤ 2) (hp2 : 0 ≤ p0.toInt) (hp3 : p0.toInt ≤ 2) (hp4 : 0 ≤ p1.toInt) (hp5 : p1.toInt ≤ 5) (hp6 : -8400 ≤ p2.toInt) (hp7 : p2.toInt ≤ 20) (hp8 : 0 ≤ p3.toInt) (hp9 : p3.toInt ≤ 20) {k_68 : Int32 → (Nat → Int32) → (Nat → Int32) → (Nat → Int32) → Option (Int32 × (Nat → Int32) × (Nat → Int32) × (Nat → Int32))} {m_68 : Nat} (hk_68 : ∀ (l5 : Int32) (f_ : (Nat → Int32)) (t_ : (Nat → Int32)) (u_ : (Nat → Int32)), (l5.toInt - 0).toNat < m_68 → 1 ≤ p2.toInt → p2.toInt ≤ 20 → 1 ≤ p3.toInt → p3.toInt ≤ 20 → 0 ≤ l5.toInt → l5.toInt ≤ 440 → (∀ a : Nat, a < 21 → u_ a = 0) → Sf (k_68 l5 f_ t_ u_) (fun (z : Int32 × (Nat → Int32) × (Nat → Int32) × (Nat → Int32)) => True)) : ∀ (l5 : Int32) (f_ : Nat → Int32) (t_ : Nat → Int32) (u_ : Nat → Int32), 1 ≤ p2.toInt → p2.toInt ≤ 20 → 1 ≤ p3.toInt → p3.toInt ≤ 20 → 1 ≤ l5.toInt → l5.toInt ≤ 440 → (∀ a : Nat, a < 21 → u_ a = 0) → (l5.toInt - 0).toNat ≤ m_68 → Sf (fX7_known_268 N K th f t u p0 p1 p2 p3 k_68 l5 f_ t_ u_) (fun (z : Int32 × (Nat → Int32) × (Nat → Int32) × (Nat → Int32)) => True) := by
  intro l5 f_ t_ u_ hq0 hq1 hq2 hq3 hq4 hq5 hq6 hq7
  unfold fX7_known_268
  have ql0 : (0 : Int32).toInt = 0 := by decide
  have t1 : (l5 + (-1 : Int32)).toInt = l5.toInt + (-1) := addL (by decide) (by omega) (by omega)
  exact hk_68 _ _ _ _ (by (try generalize l5 + (-1 : Int32) = d0_ at *); omega) (by (try generalize l5 + (-1 : Int32) = d0_ at *); first | omega | decide) (by (try generalize l5 + (-1 : Int32) = d0_ at *); first | omega | decide) (by (try generalize l5 + (-1 : Int32) = d0_ at *); first | omega | decide) (by (try generalize l5 + (-1 : Int32) = d0_ at *); first | omega | decide) (by (try generalize l5 + (-1 : Int32) = d0_ at *); first | omega | decide) (by (try generalize l5 + (-1 : Int32) = d0_ at *); first | omega | decide) (by first | assumption | exact uz2 ‹∀ a : Nat, a < 21 → u_ a = 0› (by (try generalize l5 + (-1 : Int32) = d0_ at *); omega))
set_option maxHeartbeats 2000000 in
theorem s_X7_known_262 {N K : Nat} {th : Int32} {f : Nat → Int32} {t : Nat → Int32} {u : Nat → Int32} {p0 : Int32} {p1 : Int32} {p2 : Int32} {p3 : Int32} (hN : NBig N) (hK : 100 ≤ K) (hp0 : 0 ≤ th.toInt) (hp1 : th.toInt ≤ 2) (hp2 : 0 ≤ p0.toInt) (hp3 : p0.toInt ≤ 2) (hp4 : 0 ≤ p1.toInt) (hp5 : p1.toInt ≤ 5) (hp6 : -8400 ≤ p2.toInt) (hp7 : p2.toInt ≤ 20) (hp8 : 0 ≤ p3.toInt) (hp9 : p3.toInt ≤ 20) {k_68 : Int32 → (Nat → Int32) → (Nat → Int32) → (Nat → Int32) → Option (Int32 × (Nat → Int32) × (Nat → Int32) × (Nat → Int32))} {m_68 : Nat} (hk_68 : ∀ (l5 : Int32) (f_ : (Nat → Int32)) (t_ : (Nat → Int32)) (u_ : (Nat → Int32)), (l5.toInt - 0).toNat < m_68 → 1 ≤ p2.toInt → p2.toInt ≤ 20 → 1 ≤ p3.toInt → p3.toInt ≤ 20 → 0 ≤ l5.toInt → l5.toInt ≤ 440 → (∀ a : Nat, a < 21 → u_ a = 0) → Sf (k_68 l5 f_ t_ u_) (fun (z : Int32 × (Nat → Int32) × (Nat → Int32) × (Nat → Int32)) => True)) {k_191 : Int32 → Int32 → Int32 → Int32 → Int32 → (Nat → Int32) → (Nat → Int32) → (Nat → Int32) → Option (Int32 × (Nat → Int32) × (Nat → Int32) × (Nat → Int32))} {m_191 : Nat} (hk_191 : ∀ (l5 : Int32) (l6 : Int32) (l7 : Int32) (l8 : Int32) (l9 : Int32) (f_ : (Nat → Int32)) (t_ : (Nat → Int32)) (u_ : (Nat → Int32)), (2 - l9.toInt).toNat < m_191 → 1 ≤ p2.toInt → p2.toInt ≤ 20 → 1 ≤ p3.toInt → p3.toInt ≤ 20 → 21 ≤ l5.toInt → l5.toInt ≤ 440 → 0 ≤ l6.toInt → l6.toInt ≤ 20 → 1 ≤ l7.toInt → l7.toInt ≤ 20 → 0 ≤ l8.toInt → l8.toInt ≤ 1 → 0 ≤ l9.toInt → l9.toInt ≤ 2 → (∀ a : Nat, a < 21 → u_ a = 0) → (l5.toInt - 0).toNat ≤ m_68 → Sf (k_191 l5 l6 l7 l8 l9 f_ t_ u_) (fun (z : Int32 × (Nat → Int32) × (Nat → Int32) × (Nat → Int32)) => True)) : ∀ (l5 : Int32) (l6 : Int32) (l7 : Int32) (l8 : Int32) (l9 : Int32) (f_ : Nat → Int32) (t_ : Nat → Int32) (u_ : Nat → Int32), 1 ≤ p2.toInt → p2.toInt ≤ 20 → 1 ≤ p3.toInt → p3.toInt ≤ 20 → 21 ≤ l5.toInt → l5.toInt ≤ 440 → 0 ≤ l6.toInt → l6.toInt ≤ 20 → 1 ≤ l7.toInt → l7.toInt ≤ 20 → 0 ≤ l8.toInt → l8.toInt ≤ 0 → 0 ≤ l9.toInt → l9.toInt ≤ 1 → (∀ a : Nat, a < 21 → u_ a = 0) → (l5.toInt - 0).toNat ≤ m_68 → (2 - l9.toInt).toNat ≤ m_191 → Sf (fX7_known_262 N K th f t u p0 p1 p2 p3 k_68 k_191 l5 l6 l7 l8 l9 f_ t_ u_) (fun (z : Int32 × (Nat → Int32) × (Nat → Int32) × (Nat → Int32)) => True) := by
  intro l5 l6 l7 l8 l9 f_ t_ u_ hq0 hq1 hq2 hq3 hq4 hq5 hq6 hq7 hq8 hq9 hq10 hq11 hq12 hq13 hq14 hq15 hq16
  unfold fX7_known_262
  have ql0 : (0 : Int32).toInt = 0 := by decide
  have ql1 : (1 : Int32).toInt = 1 := by decide
  have t1 := addI (a := l9) (b := (1 : Int32)) (by omega) (by omega)
  exact hk_191 _ _ _ _ _ _ _ _ (by omega) (by first | omega | decide) (by first | omega | decide) (by first | omega | decide) (by first | omega | decide) (by first | omega | decide) (by first | omega | decide) (by first | omega | decide) (by first | omega | decide) (by first | omega | decide) (by first | omega | decide) (by first | omega | decide) (by first | omega | decide) (by first | omega | decide) (by first | omega | decide) (by first | assumption | exact uz2 ‹∀ a : Nat, a < 21 → u_ a = 0› (by omega)) (by omega)
set_option maxHeartbeats 2000000 in
theorem s_X7_known_191 {N K : Nat} {th : Int32} {f : Nat → Int32} {t : Nat → Int32} {u : Nat → Int32} {p0 : Int32} {p1 : Int32} {p2 : Int32} {p3 : Int32} (hN : NBig N) (hK : 100 ≤ K) (hp0 : 0 ≤ th.toInt) (hp1 : th.toInt ≤ 2) (hp2 : 0 ≤ p0.toInt) (hp3 : p0.toInt ≤ 2) (hp4 : 0 ≤ p1.toInt) (hp5 : p1.toInt ≤ 5) (hp6 : -8400 ≤ p2.toInt) (hp7 : p2.toInt ≤ 20) (hp8 : 0 ≤ p3.toInt) (hp9 : p3.toInt ≤ 20) {k_68 : Int32 → (Nat → Int32) → (Nat → Int32) → (Nat → Int32) → Option (Int32 × (Nat → Int32) × (Nat → Int32) × (Nat → Int32))} {m_68 : Nat} (hk_68 : ∀ (l5 : Int32) (f_ : (Nat → Int32)) (t_ : (Nat → Int32)) (u_ : (Nat → Int32)), (l5.toInt - 0).toNat < m_68 → 1 ≤ p2.toInt → p2.toInt ≤ 20 → 1 ≤ p3.toInt → p3.toInt ≤ 20 → 0 ≤ l5.toInt → l5.toInt ≤ 440 → (∀ a : Nat, a < 21 → u_ a = 0) → Sf (k_68 l5 f_ t_ u_) (fun (z : Int32 × (Nat → Int32) × (Nat → Int32) × (Nat → Int32)) => True)) : ∀ (fu : Nat) (l5 : Int32) (l6 : Int32) (l7 : Int32) (l8 : Int32) (l9 : Int32) (f_ : (Nat → Int32)) (t_ : (Nat → Int32)) (u_ : (Nat → Int32)), (2 - l9.toInt).toNat < fu → 1 ≤ p2.toInt → p2.toInt ≤ 20 → 1 ≤ p3.toInt → p3.toInt ≤ 20 → 21 ≤ l5.toInt → l5.toInt ≤ 440 → 0 ≤ l6.toInt → l6.toInt ≤ 20 → 1 ≤ l7.toInt → l7.toInt ≤ 20 → 0 ≤ l8.toInt → l8.toInt ≤ 1 → 0 ≤ l9.toInt → l9.toInt ≤ 2 → (∀ a : Nat, a < 21 → u_ a = 0) → (l5.toInt - 0).toNat ≤ m_68 → Sf (fX7_known_191 N K th f t u p0 p1 p2 p3 k_68 fu l5 l6 l7 l8 l9 f_ t_ u_) (fun (z : Int32 × (Nat → Int32) × (Nat → Int32) × (Nat → Int32)) => True) := by
  intro fu
  induction fu with
  | zero => intro l5 l6 l7 l8 l9 f_ t_ u_ h0 hq0 hq1 hq2 hq3 hq4 hq5 hq6 hq7 hq8 hq9 hq10 hq11 hq12 hq13 hq14 hq15; omega
  | succ fu ih =>
    intro l5 l6 l7 l8 l9 f_ t_ u_ h0 hq0 hq1 hq2 hq3 hq4 hq5 hq6 hq7 hq8 hq9 hq10 hq11 hq12 hq13 hq14 hq15
    unfold fX7_known_191
    have ql0 : (0 : Int32).toInt = 0 := by decide
    have ql2 : (2 : Int32).toInt = 2 := by decide
    have ql21 : (21 : Int32).toInt = 21 := by decide
    refine sIf (fun h1 => ?_) (fun h1 => ?_)
    · have fh1 := leT h1
      exact s_X7_known_268 (hk_68 := hk_68) hN hK (by omega) (by omega) (by omega) (by omega) (by omega) (by omega) (by omega) (by omega) (by omega) (by omega) _ _ _ _ (by first | omega | decide) (by first | omega | decide) (by first | omega | decide) (by first | omega | decide) (by first | omega | decide) (by first | omega | decide) (by first | assumption | exact uz2 ‹∀ a : Nat, a < 21 → u_ a = 0› (by omega)) (by omega)
    · have fh1 := leF h1
      refine sIf (fun h2 => ?_) (fun h2 => ?_)
      · have fh2 := eqT h2
        refine sBind (s_X7_legNumber hN hK (by first | omega | decide) (by first | omega | decide) (by first | omega | decide) (by first | omega | decide) (by first | omega | decide) (by first | omega | decide) (by first | omega | decide) (by first | omega | decide)) (fun x209 b3 => ?_)
        obtain ⟨b3_0, b3_1, -⟩ := b3
        replace b3_0 : -20 ≤ x209.toInt := b3_0
        replace b3_1 : x209.toInt ≤ 20 := b3_1
        refine sBind (s_X7_legMeasure hN hK (by first | omega | decide) (by first | omega | decide) (by first | omega | decide) (by first | omega | decide) (by first | omega | decide) (by first | omega | decide)) (fun x219 b4 => ?_)
        obtain ⟨b4_0, b4_1, -⟩ := b4
        replace b4_0 : 0 ≤ x219.toInt := b4_0
        replace b4_1 : x219.toInt ≤ 20 := b4_1
        refine sBind (s_X7_hasLeg hN hK (by first | omega | decide) (by first | omega | decide) (by first | omega | decide) (by first | omega | decide) (by first | omega | decide) (by first | omega | decide)) (fun x229 b5 => ?_)
        obtain ⟨b5_0, b5_1, -⟩ := b5
        replace b5_0 : 0 ≤ x229.toInt := b5_0
        replace b5_1 : x229.toInt ≤ 1 := b5_1
        refine sIf (fun h6 => ?_) (fun h6 => ?_)
        · have fh6 := eqT h6
          exact s_X7_known_262 (hk_68 := hk_68) (hk_191 := ih) hN hK (by omega) (by omega) (by omega) (by omega) (by omega) (by omega) (by omega) (by omega) (by omega) (by omega) _ _ _ _ _ _ _ _ (by first | omega | decide) (by first | omega | decide) (by first | omega | decide) (by first | omega | decide) (by first | omega | decide) (by first | omega | decide) (by first | omega | decide) (by first | omega | decide) (by first | omega | decide) (by first | omega | decide) (by first | omega | decide) (by first | omega | decide) (by first | omega | decide) (by first | omega | decide) (by first | assumption | exact uz2 ‹∀ a : Nat, a < 21 → u_ a = 0› (by omega)) (by omega) (by omega)
        · have fh6 := eqF h6
          refine sBind (s_X7_rests hN hK (by first | omega | decide) (by first | omega | decide) (by first | omega | decide) (by first | omega | decide)) (fun x239 b7 => ?_)
          obtain ⟨b7_0, b7_1, b7_2, b7_3, -⟩ := b7
          replace b7_0 : 0 ≤ x239.toInt := b7_0
          replace b7_1 : x239.toInt ≤ 1 := b7_1
          replace b7_2 : (x239.toInt = 0 → (1 ≤ x209.toInt)) := b7_2
          replace b7_3 : (x239.toInt = 0 → x219.toInt ≠ 0) := b7_3
          refine sIf (fun h8 => ?_) (fun h8 => ?_)
          · have fh8 := eqT h8
            have t10 := mulL (a := (21 : Int32)) (b := x219) ql21 (by omega) (by omega)
            have t9 := addI (a := ((21 : Int32) * x219)) (b := x209) (by omega) (by omega)
            refine sIfF (noob (by omega) (by omega)) ?_
            refine sIfF (noob (by omega) (by omega)) ?_
            exact s_X7_known_262 (hk_68 := hk_68) (hk_191 := ih) hN hK (by omega) (by omega) (by omega) (by omega) (by omega) (by omega) (by omega) (by omega) (by omega) (by omega) _ _ _ _ _ _ _ _ (by first | omega | decide) (by first | omega | decide) (by first | omega | decide) (by first | omega | decide) (by first | omega | decide) (by first | omega | decide) (by first | omega | decide) (by first | omega | decide) (by first | omega | decide) (by first | omega | decide) (by first | omega | decide) (by first | omega | decide) (by first | omega | decide) (by first | omega | decide) (by first | assumption | exact uz2 ‹∀ a : Nat, a < 21 → u_ a = 0› (by omega)) (by omega) (by omega)
          · have fh8 := eqF h8
            exact s_X7_known_262 (hk_68 := hk_68) (hk_191 := ih) hN hK (by omega) (by omega) (by omega) (by omega) (by omega) (by omega) (by omega) (by omega) (by omega) (by omega) _ _ _ _ _ _ _ _ (by first | omega | decide) (by first | omega | decide) (by first | omega | decide) (by first | omega | decide) (by first | omega | decide) (by first | omega | decide) (by first | omega | decide) (by first | omega | decide) (by first | omega | decide) (by first | omega | decide) (by first | omega | decide) (by first | omega | decide) (by first | omega | decide) (by first | omega | decide) (by first | assumption | exact uz2 ‹∀ a : Nat, a < 21 → u_ a = 0› (by omega)) (by omega) (by omega)
      · have fh2 := eqF h2
        exact s_X7_known_268 (hk_68 := hk_68) hN hK (by omega) (by omega) (by omega) (by omega) (by omega) (by omega) (by omega) (by omega) (by omega) (by omega) _ _ _ _ (by first | omega | decide) (by first | omega | decide) (by first | omega | decide) (by first | omega | decide) (by first | omega | decide) (by first | omega | decide) (by first | assumption | exact uz2 ‹∀ a : Nat, a < 21 → u_ a = 0› (by omega)) (by omega)
set_option maxHeartbeats 2000000 in
theorem s_X7_known_182 {N K : Nat} {th : Int32} {f : Nat → Int32} {t : Nat → Int32} {u : Nat → Int32} {p0 : Int32} {p1 : Int32} {p2 : Int32} {p3 : Int32} (hN : NBig N) (hK : 100 ≤ K) (hp0 : 0 ≤ th.toInt) (hp1 : th.toInt ≤ 2) (hp2 : 0 ≤ p0.toInt) (hp3 : p0.toInt ≤ 2) (hp4 : 0 ≤ p1.toInt) (hp5 : p1.toInt ≤ 5) (hp6 : -8400 ≤ p2.toInt) (hp7 : p2.toInt ≤ 20) (hp8 : 0 ≤ p3.toInt) (hp9 : p3.toInt ≤ 20) {k_68 : Int32 → (Nat → Int32) → (Nat → Int32) → (Nat → Int32) → Option (Int32 × (Nat → Int32) × (Nat → Int32) × (Nat → Int32))} {m_68 : Nat} (hk_68 : ∀ (l5 : Int32) (f_ : (Nat → Int32)) (t_ : (Nat → Int32)) (u_ : (Nat → Int32)), (l5.toInt - 0).toNat < m_68 → 1 ≤ p2.toInt → p2.toInt ≤ 20 → 1 ≤ p3.toInt → p3.toInt ≤ 20 → 0 ≤ l5.toInt → l5.toInt ≤ 440 → (∀ a : Nat, a < 21 → u_ a = 0) → Sf (k_68 l5 f_ t_ u_) (fun (z : Int32 × (Nat → Int32) × (Nat → Int32) × (Nat → Int32)) => True)) : ∀ (l5 : Int32) (l6 : Int32) (l7 : Int32) (l8 : Int32) (s0 : Int32) (s1 : Int32) (s2 : Int32) (s3 : Int32) (f_ : Nat → Int32) (t_ : Nat → Int32) (u_ : Nat → Int32), 1 ≤ p2.toInt → p2.toInt ≤ 20 → 1 ≤ p3.toInt → p3.toInt ≤ 20 → 21 ≤ l5.toInt → l5.toInt ≤ 440 → 0 ≤ l6.toInt → l6.toInt ≤ 20 → 1 ≤ l7.toInt → l7.toInt ≤ 20 → 0 ≤ l8.toInt → l8.toInt ≤ 1 → 0 ≤ s0.toInt → s0.toInt ≤ 1 → 3 ≤ s3.toInt → s3.toInt ≤ 3 → (s0.toInt = 0 → 0 ≤ th.toInt ∧ th.toInt ≤ 2 ∧ 0 ≤ p0.toInt ∧ p0.toInt ≤ 2 ∧ 0 ≤ p1.toInt ∧ p1.toInt ≤ 5 ∧ 1 ≤ p2.toInt ∧ p2.toInt ≤ 20 ∧ 1 ≤ p3.toInt ∧ p3.toInt ≤ 20) → (s1.toInt = 0 → 0 ≤ th.toInt ∧ th.toInt ≤ 2 ∧ 0 ≤ p0.toInt ∧ p0.toInt ≤ 2 ∧ 0 ≤ p1.toInt ∧ p1.toInt ≤ 5 ∧ 1 ≤ p2.toInt ∧ p2.toInt ≤ 20 ∧ 1 ≤ p3.toInt ∧ p3.toInt ≤ 20) → (s2.toInt = 0 → 0 ≤ th.toInt ∧ th.toInt ≤ 2 ∧ 0 ≤ p0.toInt ∧ p0.toInt ≤ 2 ∧ 0 ≤ p1.toInt ∧ p1.toInt ≤ 5 ∧ 1 ≤ p2.toInt ∧ p2.toInt ≤ 20 ∧ 1 ≤ p3.toInt ∧ p3.toInt ≤ 20) → (∀ a : Nat, a < 21 → u_ a = 0) → (l5.toInt - 0).toNat ≤ m_68 → Sf (fX7_known_182 N K th f t u p0 p1 p2 p3 k_68 l5 l6 l7 l8 s0 s1 s2 s3 f_ t_ u_) (fun (z : Int32 × (Nat → Int32) × (Nat → Int32) × (Nat → Int32)) => True) := by
  intro l5 l6 l7 l8 s0 s1 s2 s3 f_ t_ u_ hq0 hq1 hq2 hq3 hq4 hq5 hq6 hq7 hq8 hq9 hq10 hq11 hq12 hq13 hq14 hq15 hq16 hq17 hq18 hq19 hq20
  unfold fX7_known_182
  have hN9 := hN.u
  have ql0 : (0 : Int32).toInt = 0 := by decide
  refine sBind (s_X7_bit hN hK (by first | omega | decide) (by first | omega | decide)) (fun x182 b1 => ?_)
  obtain ⟨b1_0, b1_1, -⟩ := b1
  replace b1_0 : 0 ≤ x182.toInt := b1_0
  replace b1_1 : x182.toInt ≤ 1 := b1_1
  refine sIfF (noob (by omega) (by omega)) ?_
  exact s_X7_known_191 (hk_68 := hk_68) hN hK (by omega) (by omega) (by omega) (by omega) (by omega) (by omega) (by omega) (by omega) (by omega) (by omega) _ _ _ _ _ _ _ _ _ (by omega) (by first | omega | decide) (by first | omega | decide) (by first | omega | decide) (by first | omega | decide) (by first | omega | decide) (by first | omega | decide) (by first | omega | decide) (by first | omega | decide) (by first | omega | decide) (by first | omega | decide) (by first | omega | decide) (by first | omega | decide) (by first | omega | decide) (by first | omega | decide) (by first | assumption | exact uz2 ‹∀ a : Nat, a < 21 → u_ a = 0› (by omega)) (by omega)
set_option maxHeartbeats 2000000 in
theorem s_X7_known_153 {N K : Nat} {th : Int32} {f : Nat → Int32} {t : Nat → Int32} {u : Nat → Int32} {p0 : Int32} {p1 : Int32} {p2 : Int32} {p3 : Int32} (hN : NBig N) (hK : 100 ≤ K) (hp0 : 0 ≤ th.toInt) (hp1 : th.toInt ≤ 2) (hp2 : 0 ≤ p0.toInt) (hp3 : p0.toInt ≤ 2) (hp4 : 0 ≤ p1.toInt) (hp5 : p1.toInt ≤ 5) (hp6 : -8400 ≤ p2.toInt) (hp7 : p2.toInt ≤ 20) (hp8 : 0 ≤ p3.toInt) (hp9 : p3.toInt ≤ 20) {k_68 : Int32 → (Nat → Int32) → (Nat → Int32) → (Nat → Int32) → Option (Int32 × (Nat → Int32) × (Nat → Int32) × (Nat → Int32))} {m_68 : Nat} (hk_68 : ∀ (l5 : Int32) (f_ : (Nat → Int32)) (t_ : (Nat → Int32)) (u_ : (Nat → Int32)), (l5.toInt - 0).toNat < m_68 → 1 ≤ p2.toInt → p2.toInt ≤ 20 → 1 ≤ p3.toInt → p3.toInt ≤ 20 → 0 ≤ l5.toInt → l5.toInt ≤ 440 → (∀ a : Nat, a < 21 → u_ a = 0) → Sf (k_68 l5 f_ t_ u_) (fun (z : Int32 × (Nat → Int32) × (Nat → Int32) × (Nat → Int32)) => True)) : ∀ (l5 : Int32) (l6 : Int32) (l7 : Int32) (l8 : Int32) (s0 : Int32) (s1 : Int32) (s2 : Int32) (f_ : Nat → Int32) (t_ : Nat → Int32) (u_ : Nat → Int32), 1 ≤ p2.toInt → p2.toInt ≤ 20 → 1 ≤ p3.toInt → p3.toInt ≤ 20 → 21 ≤ l5.toInt → l5.toInt ≤ 440 → 0 ≤ l6.toInt → l6.toInt ≤ 20 → 1 ≤ l7.toInt → l7.toInt ≤ 20 → 0 ≤ l8.toInt → l8.toInt ≤ 1 → 0 ≤ s0.toInt → s0.toInt ≤ 1 → 2 ≤ s2.toInt → s2.toInt ≤ 2 → (s0.toInt = 0 → 0 ≤ th.toInt ∧ th.toInt ≤ 2 ∧ 0 ≤ p0.toInt ∧ p0.toInt ≤ 2 ∧ 0 ≤ p1.toInt ∧ p1.toInt ≤ 5 ∧ 1 ≤ p2.toInt ∧ p2.toInt ≤ 20 ∧ 1 ≤ p3.toInt ∧ p3.toInt ≤ 20) → (s1.toInt = 0 → 0 ≤ th.toInt ∧ th.toInt ≤ 2 ∧ 0 ≤ p0.toInt ∧ p0.toInt ≤ 2 ∧ 0 ≤ p1.toInt ∧ p1.toInt ≤ 5 ∧ 1 ≤ p2.toInt ∧ p2.toInt ≤ 20 ∧ 1 ≤ p3.toInt ∧ p3.toInt ≤ 20) → (∀ a : Nat, a < 21 → u_ a = 0) → (l5.toInt - 0).toNat ≤ m_68 → Sf (fX7_known_153 N K th f t u p0 p1 p2 p3 k_68 l5 l6 l7 l8 s0 s1 s2 f_ t_ u_) (fun (z : Int32 × (Nat → Int32) × (Nat → Int32) × (Nat → Int32)) => True) := by
  intro l5 l6 l7 l8 s0 s1 s2 f_ t_ u_ hq0 hq1 hq2 hq3 hq4 hq5 hq6 hq7 hq8 hq9 hq10 hq11 hq12 hq13 hq14 hq15 hq16 hq17 hq18 hq19
  unfold fX7_known_153
  have ql0 : (0 : Int32).toInt = 0 := by decide
  have ql1 : (1 : Int32).toInt = 1 := by decide
  have ql3 : (3 : Int32).toInt = 3 := by decide
  refine sBind (s_X7_bit hN hK (by first | omega | decide) (by first | omega | decide)) (fun x153 b1 => ?_)
  obtain ⟨b1_0, b1_1, -⟩ := b1
  replace b1_0 : 0 ≤ x153.toInt := b1_0
  replace b1_1 : x153.toInt ≤ 1 := b1_1
  refine sIfF (noob (by omega) (by omega)) ?_
  refine sIfF (noob (by omega) (by omega)) ?_
  refine sIf (fun h2 => ?_) (fun h2 => ?_)
  · have fh2 := eqT h2
    exact s_X7_known_182 (hk_68 := hk_68) hN hK (by omega) (by omega) (by omega) (by omega) (by omega) (by omega) (by omega) (by omega) (by omega) (by omega) _ _ _ _ _ _ _ _ _ _ _ (by first | omega | decide) (by first | omega | decide) (by first | omega | decide) (by first | omega | decide) (by first | omega | decide) (by first | omega | decide) (by first | omega | decide) (by first | omega | decide) (by first | omega | decide) (by first | omega | decide) (by first | omega | decide) (by first | omega | decide) (by first | omega | decide) (by first | omega | decide) (by first | omega | decide) (by first | omega | decide) (by first | omega | decide) (by first | omega | decide) (by first | omega | decide) (by first | assumption | exact uz2 ‹∀ a : Nat, a < 21 → u_ a = 0› (by omega)) (by omega)
  · have fh2 := eqF h2
    exact s_X7_known_182 (hk_68 := hk_68) hN hK (by omega) (by omega) (by omega) (by omega) (by omega) (by omega) (by omega) (by omega) (by omega) (by omega) _ _ _ _ _ _ _ _ _ _ _ (by first | omega | decide) (by first | omega | decide) (by first | omega | decide) (by first | omega | decide) (by first | omega | decide) (by first | omega | decide) (by first | omega | decide) (by first | omega | decide) (by first | omega | decide) (by first | omega | decide) (by first | omega | decide) (by first | omega | decide) (by first | omega | decide) (by first | omega | decide) (by first | omega | decide) (by first | omega | decide) (by first | omega | decide) (by first | omega | decide) (by first | omega | decide) (by first | assumption | exact uz2 ‹∀ a : Nat, a < 21 → u_ a = 0› (by omega)) (by omega)
set_option maxHeartbeats 2000000 in
theorem s_X7_known_118 {N K : Nat} {th : Int32} {f : Nat → Int32} {t : Nat → Int32} {u : Nat → Int32} {p0 : Int32} {p1 : Int32} {p2 : Int32} {p3 : Int32} (hN : NBig N) (hK : 100 ≤ K) (hp0 : 0 ≤ th.toInt) (hp1 : th.toInt ≤ 2) (hp2 : 0 ≤ p0.toInt) (hp3 : p0.toInt ≤ 2) (hp4 : 0 ≤ p1.toInt) (hp5 : p1.toInt ≤ 5) (hp6 : -8400 ≤ p2.toInt) (hp7 : p2.toInt ≤ 20) (hp8 : 0 ≤ p3.toInt) (hp9 : p3.toInt ≤ 20) {k_68 : Int32 → (Nat → Int32) → (Nat → Int32) → (Nat → Int32) → Option (Int32 × (Nat → Int32) × (Nat → Int32) × (Nat → Int32))} {m_68 : Nat} (hk_68 : ∀ (l5 : Int32) (f_ : (Nat → Int32)) (t_ : (Nat → Int32)) (u_ : (Nat → Int32)), (l5.toInt - 0).toNat < m_68 → 1 ≤ p2.toInt → p2.toInt ≤ 20 → 1 ≤ p3.toInt → p3.toInt ≤ 20 → 0 ≤ l5.toInt → l5.toInt ≤ 440 → (∀ a : Nat, a < 21 → u_ a = 0) → Sf (k_68 l5 f_ t_ u_) (fun (z : Int32 × (Nat → Int32) × (Nat → Int32) × (Nat → Int32)) => True)) : ∀ (l5 : Int32) (l6 : Int32) (l7 : Int32) (s0 : Int32) (f_ : Nat → Int32) (t_ : Nat → Int32) (u_ : Nat → Int32), 1 ≤ p2.toInt → p2.toInt ≤ 20 → 1 ≤ p3.toInt → p3.toInt ≤ 20 → 21 ≤ l5.toInt → l5.toInt ≤ 440 → 0 ≤ l6.toInt → l6.toInt ≤ 20 → 1 ≤ l7.toInt → l7.toInt ≤ 20 → 0 ≤ s0.toInt → s0.toInt ≤ 1 → (s0.toInt = 0 → 0 ≤ th.toInt ∧ th.toInt ≤ 2 ∧ 0 ≤ p0.toInt ∧ p0.toInt ≤ 2 ∧ 0 ≤ p1.toInt ∧ p1.toInt ≤ 5 ∧ 1 ≤ p2.toInt ∧ p2.toInt ≤ 20 ∧ 1 ≤ p3.toInt ∧ p3.toInt ≤ 20) → (∀ a : Nat, a < 21 → u_ a = 0) → (l5.toInt - 0).toNat ≤ m_68 → Sf (fX7_known_118 N K th f t u p0 p1 p2 p3 k_68 l5 l6 l7 s0 f_ t_ u_) (fun (z : Int32 × (Nat → Int32) × (Nat → Int32) × (Nat → Int32)) => True) := by
  intro l5 l6 l7 s0 f_ t_ u_ hq0 hq1 hq2 hq3 hq4 hq5 hq6 hq7 hq8 hq9 hq10 hq11 hq12 hq13 hq14
  unfold fX7_known_118
  have ql0 : (0 : Int32).toInt = 0 := by decide
  have ql1 : (1 : Int32).toInt = 1 := by decide
  have ql2 : (2 : Int32).toInt = 2 := by decide
  refine sIfF (noob (by omega) (by omega)) ?_
  refine sIf (fun h1 => ?_) (fun h1 => ?_)
  · have fh1 := eqT h1
    exact s_X7_known_153 (hk_68 := hk_68) hN hK (by omega) (by omega) (by omega) (by omega) (by omega) (by omega) (by omega) (by omega) (by omega) (by omega) _ _ _ _ _ _ _ _ _ _ (by first | omega | decide) (by first | omega | decide) (by first | omega | decide) (by first | omega | decide) (by first | omega | decide) (by first | omega | decide) (by first | omega | decide) (by first | omega | decide) (by first | omega | decide) (by first | omega | decide) (by first | omega | decide) (by first | omega | decide) (by first | omega | decide) (by first | omega | decide) (by first | omega | decide) (by first | omega | decide) (by first | omega | decide) (by first | omega | decide) (by first | assumption | exact uz2 ‹∀ a : Nat, a < 21 → u_ a = 0› (by omega)) (by omega)
  · have fh1 := eqF h1
    exact s_X7_known_153 (hk_68 := hk_68) hN hK (by omega) (by omega) (by omega) (by omega) (by omega) (by omega) (by omega) (by omega) (by omega) (by omega) _ _ _ _ _ _ _ _ _ _ (by first | omega | decide) (by first | omega | decide) (by first | omega | decide) (by first | omega | decide) (by first | omega | decide) (by first | omega | decide) (by first | omega | decide) (by first | omega | decide) (by first | omega | decide) (by first | omega | decide) (by first | omega | decide) (by first | omega | decide) (by first | omega | decide) (by first | omega | decide) (by first | omega | decide) (by first | omega | decide) (by first | omega | decide) (by first | omega | decide) (by first | assumption | exact uz2 ‹∀ a : Nat, a < 21 → u_ a = 0› (by omega)) (by omega)
set_option maxHeartbeats 2000000 in
theorem s_X7_known_68 {N K : Nat} {th : Int32} {f : Nat → Int32} {t : Nat → Int32} {u : Nat → Int32} {p0 : Int32} {p1 : Int32} {p2 : Int32} {p3 : Int32} (hN : NBig N) (hK : 100 ≤ K) (hp0 : 0 ≤ th.toInt) (hp1 : th.toInt ≤ 2) (hp2 : 0 ≤ p0.toInt) (hp3 : p0.toInt ≤ 2) (hp4 : 0 ≤ p1.toInt) (hp5 : p1.toInt ≤ 5) (hp6 : -8400 ≤ p2.toInt) (hp7 : p2.toInt ≤ 20) (hp8 : 0 ≤ p3.toInt) (hp9 : p3.toInt ≤ 20) : ∀ (fu : Nat) (l5 : Int32) (f_ : (Nat → Int32)) (t_ : (Nat → Int32)) (u_ : (Nat → Int32)), (l5.toInt - 0).toNat < fu → 1 ≤ p2.toInt → p2.toInt ≤ 20 → 1 ≤ p3.toInt → p3.toInt ≤ 20 → 0 ≤ l5.toInt → l5.toInt ≤ 440 → (∀ a : Nat, a < 21 → u_ a = 0) → Sf (fX7_known_68 N K th f t u p0 p1 p2 p3  fu l5 f_ t_ u_) (fun (z : Int32 × (Nat → Int32) × (Nat → Int32) × (Nat → Int32)) => True) := by
  intro fu
  induction fu with
  | zero => intro l5 f_ t_ u_ h0 hq0 hq1 hq2 hq3 hq4 hq5 hq6; omega
  | succ fu ih =>
    intro l5 f_ t_ u_ h0 hq0 hq1 hq2 hq3 hq4 hq5 hq6
    unfold fX7_known_68
    have hN9 := hN.u
    have ql0 : (0 : Int32).toInt = 0 := by decide
    have ql1 : (1 : Int32).toInt = 1 := by decide
    have ql21 : (21 : Int32).toInt = 21 := by decide
    refine sIf (fun h1 => ?_) (fun h1 => ?_)
    · have fh1 := leT h1
      exact s_X7_known_277  hN hK (by omega) (by omega) (by omega) (by omega) (by omega) (by omega) (by omega) (by omega) (by omega) (by omega) _ _ _ _ _ (by omega) (by first | omega | decide) (by first | omega | decide) (by first | omega | decide) (by first | omega | decide) (by first | omega | decide) (by first | omega | decide) (by first | assumption | exact uz2 ‹∀ a : Nat, a < 21 → u_ a = 0› (by omega))
    · have fh1 := leF h1
      refine sIfF (noob (by omega) (by omega)) ?_
      refine sIf (fun h2 => ?_) (fun h2 => ?_)
      · have fh2 := eqT h2
        exact s_X7_known_268 (hk_68 := ih) hN hK (by omega) (by omega) (by omega) (by omega) (by omega) (by omega) (by omega) (by omega) (by omega) (by omega) _ _ _ _ (by first | omega | decide) (by first | omega | decide) (by first | omega | decide) (by first | omega | decide) (by first | omega | decide) (by first | omega | decide) (by first | assumption | exact uz2 ‹∀ a : Nat, a < 21 → u_ a = 0› (by omega)) (by omega)
      · have fh2 := eqF h2
        have z6 : 21 ≤ l5.toInt := uz3 ‹∀ a : Nat, a < 21 → u_ a = 0› h2 (by omega)
        have t3 := modL (a := l5) (b := (21 : Int32)) ql21 (by omega)
        have t4 := divL (a := l5) (b := (21 : Int32)) ql21 (by omega) (by omega)
        refine sBind (s_X7_worth hN hK (by first | omega | decide) (by first | omega | decide) (by first | omega | decide) (by first | omega | decide) (by first | omega | decide) (by first | omega | decide) (by first | omega | decide) (by first | omega | decide) (by first | omega | decide) (by first | omega | decide)) (fun x107 b5 => ?_)
        refine sIf (fun h6 => ?_) (fun h6 => ?_)
        · have fh6 := ltT h6
          exact s_X7_known_118 (hk_68 := ih) hN hK (by omega) (by omega) (by omega) (by omega) (by omega) (by omega) (by omega) (by omega) (by omega) (by omega) _ _ _ _ _ _ _ (by first | omega | decide) (by first | omega | decide) (by first | omega | decide) (by first | omega | decide) (by first | omega | decide) (by first | omega | decide) (by first | omega | decide) (by first | omega | decide) (by first | omega | decide) (by first | omega | decide) (by first | omega | decide) (by first | omega | decide) (by first | omega | decide) (by first | assumption | exact uz2 ‹∀ a : Nat, a < 21 → u_ a = 0› (by omega)) (by omega)
        · have fh6 := ltF h6
          exact s_X7_known_118 (hk_68 := ih) hN hK (by omega) (by omega) (by omega) (by omega) (by omega) (by omega) (by omega) (by omega) (by omega) (by omega) _ _ _ _ _ _ _ (by first | omega | decide) (by first | omega | decide) (by first | omega | decide) (by first | omega | decide) (by first | omega | decide) (by first | omega | decide) (by first | omega | decide) (by first | omega | decide) (by first | omega | decide) (by first | omega | decide) (by first | omega | decide) (by first | omega | decide) (by first | omega | decide) (by first | assumption | exact uz2 ‹∀ a : Nat, a < 21 → u_ a = 0› (by omega)) (by omega)
set_option maxHeartbeats 2000000 in
theorem s_X7_known_22 {N K : Nat} {th : Int32} {f : Nat → Int32} {t : Nat → Int32} {u : Nat → Int32} {p0 : Int32} {p1 : Int32} {p2 : Int32} {p3 : Int32} (hN : NBig N) (hK : 100 ≤ K) (hp0 : 0 ≤ th.toInt) (hp1 : th.toInt ≤ 2) (hp2 : 0 ≤ p0.toInt) (hp3 : p0.toInt ≤ 2) (hp4 : 0 ≤ p1.toInt) (hp5 : p1.toInt ≤ 5) (hp6 : -8400 ≤ p2.toInt) (hp7 : p2.toInt ≤ 20) (hp8 : 0 ≤ p3.toInt) (hp9 : p3.toInt ≤ 20) : ∀ (fu : Nat) (l5 : Int32) (f_ : (Nat → Int32)) (t_ : (Nat → Int32)) (u_ : (Nat → Int32)), (441 - l5.toInt).toNat < fu → 1 ≤ p2.toInt → p2.toInt ≤ 20 → 1 ≤ p3.toInt → p3.toInt ≤ 20 → 0 ≤ l5.toInt → l5.toInt ≤ 441 → (∀ a : Nat, a < l5.toInt.toNat → u_ a = 0) → Sf (fX7_known_22 N K th f t u p0 p1 p2 p3  fu l5 f_ t_ u_) (fun (z : Int32 × (Nat → Int32) × (Nat → Int32) × (Nat → Int32)) => True) := by
  intro fu
  induction fu with
  | zero => intro l5 f_ t_ u_ h0 hq0 hq1 hq2 hq3 hq4 hq5 hq6; omega
  | succ fu ih =>
    intro l5 f_ t_ u_ h0 hq0 hq1 hq2 hq3 hq4 hq5 hq6
    unfold fX7_known_22
    have hN9 := hN.u
    have ql0 : (0 : Int32).toInt = 0 := by decide
    have ql1 : (1 : Int32).toInt = 1 := by decide
    have ql21 : (21 : Int32).toInt = 21 := by decide
    have ql441 : (441 : Int32).toInt = 441 := by decide
    refine sIf (fun h1 => ?_) (fun h1 => ?_)
    · have fh1 := leT h1
      have t3 := mulL (a := (21 : Int32)) (b := p3) ql21 (by omega) (by omega)
      have t2 := addI (a := ((21 : Int32) * p3)) (b := p2) (by omega) (by omega)
      refine sIfF (noob (by omega) (by omega)) ?_
      have z5 : ∀ a : Nat, a < 21 → u_ a = 0 := fun a ha => ‹∀ a : Nat, a < l5.toInt.toNat → u_ a = 0› a (by omega)
      exact s_X7_known_68  hN hK (by omega) (by omega) (by omega) (by omega) (by omega) (by omega) (by omega) (by omega) (by omega) (by omega) _ _ _ _ _ (by omega) (by first | omega | decide) (by first | omega | decide) (by first | omega | decide) (by first | omega | decide) (by first | omega | decide) (by first | omega | decide) (by first | assumption | exact uz2 ‹∀ a : Nat, a < 21 → u_ a = 0› (by omega))
    · have fh1 := leF h1
      refine sIfF (noob (by omega) (by omega)) ?_
      have t4 := addI (a := l5) (b := (1 : Int32)) (by omega) (by omega)
      exact ih _ _ _ _ (by omega) (by first | omega | decide) (by first | omega | decide) (by first | omega | decide) (by first | omega | decide) (by first | omega | decide) (by first | omega | decide) (by first | exact uz0 (by decide) | exact uz1 ‹∀ a : Nat, a < l5.toInt.toNat → u_ a = 0› (by omega) (by omega))
set_option maxHeartbeats 2000000 in
theorem s_X7_known {N K : Nat} {th : Int32} {f : Nat → Int32} {t : Nat → Int32} {u : Nat → Int32} {p0 : Int32} {p1 : Int32} {p2 : Int32} {p3 : Int32} (hN : NBig N) (hK : 100 ≤ K) (hp0 : 0 ≤ th.toInt) (hp1 : th.toInt ≤ 2) (hp2 : 0 ≤ p0.toInt) (hp3 : p0.toInt ≤ 2) (hp4 : 0 ≤ p1.toInt) (hp5 : p1.toInt ≤ 5) (hp6 : -8400 ≤ p2.toInt) (hp7 : p2.toInt ≤ 20) (hp8 : 0 ≤ p3.toInt) (hp9 : p3.toInt ≤ 20) : Sf (fX7_known N K th f t u p0 p1 p2 p3) (fun (z : Int32 × (Nat → Int32) × (Nat → Int32) × (Nat → Int32)) => True) := by
  unfold fX7_known
  have hN9 := hN.u
  have ql0 : (0 : Int32).toInt = 0 := by decide
  refine sBind (s_X7_rests hN hK (by first | omega | decide) (by first | omega | decide) (by first | omega | decide) (by first | omega | decide)) (fun x3 b1 => ?_)
  obtain ⟨b1_0, b1_1, b1_2, b1_3, -⟩ := b1
  replace b1_0 : 0 ≤ x3.toInt := b1_0
  replace b1_1 : x3.toInt ≤ 1 := b1_1
  replace b1_2 : (x3.toInt = 0 → (1 ≤ p2.toInt)) := b1_2
  replace b1_3 : (x3.toInt = 0 → p3.toInt ≠ 0) := b1_3
  refine sIf (fun h2 => ?_) (fun h2 => ?_)
  · have fh2 := eqT h2
    exact s_X7_known_22  hN hK (by omega) (by omega) (by omega) (by omega) (by omega) (by omega) (by omega) (by omega) (by omega) (by omega) _ _ _ _ _ (by omega) (by first | omega | decide) (by first | omega | decide) (by first | omega | decide) (by first | omega | decide) (by first | omega | decide) (by first | omega | decide) (by first | exact uz0 (by decide) | exact uz1 ‹∀ a : Nat, a < l5.toInt.toNat → u_ a = 0› (by omega) (by omega))
  · have fh2 := eqF h2
    refine sBind (s_X7_worth hN hK (by first | omega | decide) (by first | omega | decide) (by first | omega | decide) (by first | omega | decide) (by first | omega | decide) (by first | omega | decide) (by first | omega | decide) (by first | omega | decide) (by first | omega | decide) (by first | omega | decide)) (fun x15 b3 => ?_)
    exact sRet trivial
set_option maxHeartbeats 2000000 in
theorem s_X7_row_153 {N K : Nat} {p0 : Int32} {p1 : Int32} (hN : NBig N) (hK : 100 ≤ K) (hp0 : 0 ≤ p0.toInt) (hp1 : p0.toInt ≤ 7) (hp2 : 0 ≤ p1.toInt) (hp3 : p1.toInt ≤ 20) {k_74 : Int32 → Int32 → Int32 → Int32 → (Nat → Int32) → Option ((Nat → Int32))} {m_74 : Nat} (hk_74 : ∀ (l3 : Int32) (l4 : Int32) (l5 : Int32) (l6 : Int32) (e_v0 : (Nat → Int32)), (21 - l6.toInt).toNat < m_74 → -1 ≤ l3.toInt → l3.toInt ≤ 39 → 0 ≤ l4.toInt → l4.toInt ≤ 1 → 0 ≤ l5.toInt → l5.toInt ≤ 1 → 1 ≤ l6.toInt → l6.toInt ≤ 21 → Sf (k_74 l3 l4 l5 l6 e_v0) (fun (z : (Nat → Int32)) => True)) : ∀ (l3 : Int32) (l4 : Int32) (l5 : Int32) (l6 : Int32) (e_v0 : Nat → Int32), 1 ≤ l3.toInt → l3.toInt ≤ 39 → 0 ≤ l4.toInt → l4.toInt ≤ 1 → 0 ≤ l5.toInt → l5.toInt ≤ 1 → 1 ≤ l6.toInt → l6.toInt ≤ 20 → (21 - l6.toInt).toNat ≤ m_74 → Sf (fX7_row_153 N K p0 p1 k_74 l3 l4 l5 l6 e_v0) (fun (z : (Nat → Int32)) => True) := by
  intro l3 l4 l5 l6 e_v0 hq0 hq1 hq2 hq3 hq4 hq5 hq6 hq7 hq8
  unfold fX7_row_153
  have ql0 : (0 : Int32).toInt = 0 := by decide
  have ql1 : (1 : Int32).toInt = 1 := by decide
  have t1 := addI (a := l6) (b := (1 : Int32)) (by omega) (by omega)
  exact hk_74 _ _ _ _ _ (by omega) (by first | omega | decide) (by first | omega | decide) (by first | omega | decide) (by first | omega | decide) (by first | omega | decide) (by first | omega | decide) (by first | omega | decide) (by first | omega | decide)
set_option maxHeartbeats 2000000 in
theorem s_X7_row_131 {N K : Nat} {p0 : Int32} {p1 : Int32} (hN : NBig N) (hK : 100 ≤ K) (hp0 : 0 ≤ p0.toInt) (hp1 : p0.toInt ≤ 7) (hp2 : 0 ≤ p1.toInt) (hp3 : p1.toInt ≤ 20) {k_74 : Int32 → Int32 → Int32 → Int32 → (Nat → Int32) → Option ((Nat → Int32))} {m_74 : Nat} (hk_74 : ∀ (l3 : Int32) (l4 : Int32) (l5 : Int32) (l6 : Int32) (e_v0 : (Nat → Int32)), (21 - l6.toInt).toNat < m_74 → -1 ≤ l3.toInt → l3.toInt ≤ 39 → 0 ≤ l4.toInt → l4.toInt ≤ 1 → 0 ≤ l5.toInt → l5.toInt ≤ 1 → 1 ≤ l6.toInt → l6.toInt ≤ 21 → Sf (k_74 l3 l4 l5 l6 e_v0) (fun (z : (Nat → Int32)) => True)) {k_106 : Int32 → Int32 → Int32 → Int32 → Int32 → (Nat → Int32) → Option ((Nat → Int32))} {m_106 : Nat} (hk_106 : ∀ (l3 : Int32) (l4 : Int32) (l5 : Int32) (l6 : Int32) (l7 : Int32) (e_v0 : (Nat → Int32)), (21 - l7.toInt).toNat < m_106 → 1 ≤ l3.toInt → l3.toInt ≤ 39 → 0 ≤ l4.toInt → l4.toInt ≤ 1 → 0 ≤ l5.toInt → l5.toInt ≤ 1 → 1 ≤ l6.toInt → l6.toInt ≤ 20 → 1 ≤ l7.toInt → l7.toInt ≤ 21 → l6.toInt ≤ l7.toInt → (21 - l6.toInt).toNat ≤ m_74 → Sf (k_106 l3 l4 l5 l6 l7 e_v0) (fun (z : (Nat → Int32)) => True)) : ∀ (l3 : Int32) (l4 : Int32) (l5 : Int32) (l6 : Int32) (l7 : Int32) (s0 : Int32) (e_v0 : Nat → Int32), 1 ≤ l3.toInt → l3.toInt ≤ 39 → 0 ≤ l4.toInt → l4.toInt ≤ 1 → 0 ≤ l5.toInt → l5.toInt ≤ 1 → 1 ≤ l6.toInt → l6.toInt ≤ 20 → 1 ≤ l7.toInt → l7.toInt ≤ 20 → 1 ≤ s0.toInt → s0.toInt ≤ 20 → l6.toInt ≤ s0.toInt → l6.toInt ≤ l7.toInt → (21 - l6.toInt).toNat ≤ m_74 → (21 - l7.toInt).toNat ≤ m_106 → Sf (fX7_row_131 N K p0 p1 k_74 k_106 l3 l4 l5 l6 l7 s0 e_v0) (fun (z : (Nat → Int32)) => True) := by
  intro l3 l4 l5 l6 l7 s0 e_v0 hq0 hq1 hq2 hq3 hq4 hq5 hq6 hq7 hq8 hq9 hq10 hq11 hq12 hq13 hq14 hq15
  unfold fX7_row_131
  have ql0 : (0 : Int32).toInt = 0 := by decide
  have ql1 : (1 : Int32).toInt = 1 := by decide
  refine sIfF (noob (by omega) (by omega)) ?_
  have t1 := subI (a := s0) (b := l6) (by omega) (by omega)
  refine sIfF (noob (by omega) (by omega)) ?_
  refine sIfF (noob (by omega) (by omega)) ?_
  have t2 := addI (a := l7) (b := (1 : Int32)) (by omega) (by omega)
  exact hk_106 _ _ _ _ _ _ (by omega) (by first | omega | decide) (by first | omega | decide) (by first | omega | decide) (by first | omega | decide) (by first | omega | decide) (by first | omega | decide) (by first | omega | decide) (by first | omega | decide) (by first | omega | decide) (by first | omega | decide) (by omega) (by omega)
set_option maxHeartbeats 2000000 in
theorem s_X7_row_106 {N K : Nat} {p0 : Int32} {p1 : Int32} (hN : NBig N) (hK : 100 ≤ K) (hp0 : 0 ≤ p0.toInt) (hp1 : p0.toInt ≤ 7) (hp2 : 0 ≤ p1.toInt) (hp3 : p1.toInt ≤ 20) {k_74 : Int32 → Int32 → Int32 → Int32 → (Nat → Int32) → Option ((Nat → Int32))} {m_74 : Nat} (hk_74 : ∀ (l3 : Int32) (l4 : Int32) (l5 : Int32) (l6 : Int32) (e_v0 : (Nat → Int32)), (21 - l6.toInt).toNat < m_74 → -1 ≤ l3.toInt → l3.toInt ≤ 39 → 0 ≤ l4.toInt → l4.toInt ≤ 1 → 0 ≤ l5.toInt → l5.toInt ≤ 1 → 1 ≤ l6.toInt → l6.toInt ≤ 21 → Sf (k_74 l3 l4 l5 l6 e_v0) (fun (z : (Nat → Int32)) => True)) : ∀ (fu : Nat) (l3 : Int32) (l4 : Int32) (l5 : Int32) (l6 : Int32) (l7 : Int32) (e_v0 : (Nat → Int32)), (21 - l7.toInt).toNat < fu → 1 ≤ l3.toInt → l3.toInt ≤ 39 → 0 ≤ l4.toInt → l4.toInt ≤ 1 → 0 ≤ l5.toInt → l5.toInt ≤ 1 → 1 ≤ l6.toInt → l6.toInt ≤ 20 → 1 ≤ l7.toInt → l7.toInt ≤ 21 → l6.toInt ≤ l7.toInt → (21 - l6.toInt).toNat ≤ m_74 → Sf (fX7_row_106 N K p0 p1 k_74 fu l3 l4 l5 l6 l7 e_v0) (fun (z : (Nat → Int32)) => True) := by
  intro fu
  induction fu with
  | zero => intro l3 l4 l5 l6 l7 e_v0 h0 hq0 hq1 hq2 hq3 hq4 hq5 hq6 hq7 hq8 hq9 hq10 hq11; omega
  | succ fu ih =>
    intro l3 l4 l5 l6 l7 e_v0 h0 hq0 hq1 hq2 hq3 hq4 hq5 hq6 hq7 hq8 hq9 hq10 hq11
    unfold fX7_row_106
    have ql0 : (0 : Int32).toInt = 0 := by decide
    have ql20 : (20 : Int32).toInt = 20 := by decide
    refine sIf (fun h1 => ?_) (fun h1 => ?_)
    · have fh1 := ltT h1
      exact s_X7_row_153 (hk_74 := hk_74) hN hK (by omega) (by omega) (by omega) (by omega) _ _ _ _ _ (by first | omega | decide) (by first | omega | decide) (by first | omega | decide) (by first | omega | decide) (by first | omega | decide) (by first | omega | decide) (by first | omega | decide) (by first | omega | decide) (by omega)
    · have fh1 := ltF h1
      refine sIf (fun h2 => ?_) (fun h2 => ?_)
      · have fh2 := eqT h2
        exact s_X7_row_131 (hk_74 := hk_74) (hk_106 := ih) hN hK (by omega) (by omega) (by omega) (by omega) _ _ _ _ _ _ _ (by first | omega | decide) (by first | omega | decide) (by first | omega | decide) (by first | omega | decide) (by first | omega | decide) (by first | omega | decide) (by first | omega | decide) (by first | omega | decide) (by first | omega | decide) (by first | omega | decide) (by first | omega | decide) (by first | omega | decide) (by omega) (by omega) (by omega) (by omega)
      · have fh2 := eqF h2
        have t4 := addI (a := (20 : Int32)) (b := l6) (by omega) (by omega)
        have t3 := subI (a := ((20 : Int32) + l6)) (b := l7) (by omega) (by omega)
        exact s_X7_row_131 (hk_74 := hk_74) (hk_106 := ih) hN hK (by omega) (by omega) (by omega) (by omega) _ _ _ _ _ _ _ (by first | omega | decide) (by first | omega | decide) (by first | omega | decide) (by first | omega | decide) (by first | omega | decide) (by first | omega | decide) (by first | omega | decide) (by first | omega | decide) (by first | omega | decide) (by first | omega | decide) (by first | omega | decide) (by first | omega | decide) (by omega) (by omega) (by omega) (by omega)
set_option maxHeartbeats 2000000 in
theorem s_X7_row_102 {N K : Nat} {p0 : Int32} {p1 : Int32} (hN : NBig N) (hK : 100 ≤ K) (hp0 : 0 ≤ p0.toInt) (hp1 : p0.toInt ≤ 7) (hp2 : 0 ≤ p1.toInt) (hp3 : p1.toInt ≤ 20) {k_74 : Int32 → Int32 → Int32 → Int32 → (Nat → Int32) → Option ((Nat → Int32))} {m_74 : Nat} (hk_74 : ∀ (l3 : Int32) (l4 : Int32) (l5 : Int32) (l6 : Int32) (e_v0 : (Nat → Int32)), (21 - l6.toInt).toNat < m_74 → -1 ≤ l3.toInt → l3.toInt ≤ 39 → 0 ≤ l4.toInt → l4.toInt ≤ 1 → 0 ≤ l5.toInt → l5.toInt ≤ 1 → 1 ≤ l6.toInt → l6.toInt ≤ 21 → Sf (k_74 l3 l4 l5 l6 e_v0) (fun (z : (Nat → Int32)) => True)) : ∀ (l3 : Int32) (l4 : Int32) (l5 : Int32) (l6 : Int32) (e_v0 : Nat → Int32), 1 ≤ l3.toInt → l3.toInt ≤ 39 → 0 ≤ l4.toInt → l4.toInt ≤ 1 → 0 ≤ l5.toInt → l5.toInt ≤ 1 → 1 ≤ l6.toInt → l6.toInt ≤ 20 → (21 - l6.toInt).toNat ≤ m_74 → Sf (fX7_row_102 N K p0 p1 k_74 l3 l4 l5 l6 e_v0) (fun (z : (Nat → Int32)) => True) := by
  intro l3 l4 l5 l6 e_v0 hq0 hq1 hq2 hq3 hq4 hq5 hq6 hq7 hq8
  unfold fX7_row_102
  have hN9 := hN.u
  have ql0 : (0 : Int32).toInt = 0 := by decide
  exact s_X7_row_106 (hk_74 := hk_74) hN hK (by omega) (by omega) (by omega) (by omega) _ _ _ _ _ _ _ (by omega) (by first | omega | decide) (by first | omega | decide) (by first | omega | decide) (by first | omega | decide) (by first | omega | decide) (by first | omega | decide) (by first | omega | decide) (by first | omega | decide) (by first | omega | decide) (by first | omega | decide) (by omega) (by omega)
set_option maxHeartbeats 2000000 in
theorem s_X7_row_74 {N K : Nat} {p0 : Int32} {p1 : Int32} (hN : NBig N) (hK : 100 ≤ K) (hp0 : 0 ≤ p0.toInt) (hp1 : p0.toInt ≤ 7) (hp2 : 0 ≤ p1.toInt) (hp3 : p1.toInt ≤ 20) : ∀ (fu : Nat) (l3 : Int32) (l4 : Int32) (l5 : Int32) (l6 : Int32) (e_v0 : (Nat → Int32)), (21 - l6.toInt).toNat < fu → -1 ≤ l3.toInt → l3.toInt ≤ 39 → 0 ≤ l4.toInt → l4.toInt ≤ 1 → 0 ≤ l5.toInt → l5.toInt ≤ 1 → 1 ≤ l6.toInt → l6.toInt ≤ 21 → Sf (fX7_row_74 N K p0 p1  fu l3 l4 l5 l6 e_v0) (fun (z : (Nat → Int32)) => True) := by
  intro fu
  induction fu with
  | zero => intro l3 l4 l5 l6 e_v0 h0 hq0 hq1 hq2 hq3 hq4 hq5 hq6 hq7; omega
  | succ fu ih =>
    intro l3 l4 l5 l6 e_v0 h0 hq0 hq1 hq2 hq3 hq4 hq5 hq6 hq7
    unfold fX7_row_74
    have ql0 : (0 : Int32).toInt = 0 := by decide
    have ql2 : (2 : Int32).toInt = 2 := by decide
    have ql20 : (20 : Int32).toInt = 20 := by decide
    refine sIf (fun h1 => ?_) (fun h1 => ?_)
    · have fh1 := ltT h1
      exact sRet trivial
    · have fh1 := ltF h1
      refine sIf (fun h2 => ?_) (fun h2 => ?_)
      · have fh2 := ltT h2
        exact sRet trivial
      · have fh2 := ltF h2
        refine sIf (fun h3 => ?_) (fun h3 => ?_)
        · have fh3 := eqT h3
          exact s_X7_row_102 (hk_74 := ih) hN hK (by omega) (by omega) (by omega) (by omega) _ _ _ _ _ (by first | omega | decide) (by first | omega | decide) (by first | omega | decide) (by first | omega | decide) (by first | omega | decide) (by first | omega | decide) (by first | omega | decide) (by first | omega | decide) (by omega)
        · have fh3 := eqF h3
          refine sIf (fun h4 => ?_) (fun h4 => ?_)
          · have t5 := modL (a := l6) (b := (2 : Int32)) ql2 (by omega)
            have fh4 := eqT h4
            exact s_X7_row_153 (hk_74 := ih) hN hK (by omega) (by omega) (by omega) (by omega) _ _ _ _ _ (by first | omega | decide) (by first | omega | decide) (by first | omega | decide) (by first | omega | decide) (by first | omega | decide) (by first | omega | decide) (by first | omega | decide) (by first | omega | decide) (by omega)
          · have t6 := modL (a := l6) (b := (2 : Int32)) ql2 (by omega)
            have fh4 := eqF h4
            exact s_X7_row_102 (hk_74 := ih) hN hK (by omega) (by omega) (by omega) (by omega) _ _ _ _ _ (by first | omega | decide) (by first | omega | decide) (by first | omega | decide) (by first | omega | decide) (by first | omega | decide) (by first | omega | decide) (by first | omega | decide) (by first | omega | decide) (by omega)
set_option maxHeartbeats 2000000 in
theorem s_X7_row_69 {N K : Nat} {p0 : Int32} {p1 : Int32} (hN : NBig N) (hK : 100 ≤ K) (hp0 : 0 ≤ p0.toInt) (hp1 : p0.toInt ≤ 7) (hp2 : 0 ≤ p1.toInt) (hp3 : p1.toInt ≤ 20) : ∀ (l3 : Int32) (l4 : Int32) (s0 : Int32) (e_v0 : Nat → Int32), -1 ≤ l3.toInt → l3.toInt ≤ 39 → 0 ≤ l4.toInt → l4.toInt ≤ 1 → 0 ≤ s0.toInt → s0.toInt ≤ 1 → (s0.toInt = 0 → 0 ≤ p0.toInt ∧ p0.toInt ≤ 6 ∧ 0 ≤ p1.toInt ∧ p1.toInt ≤ 20) → Sf (fX7_row_69 N K p0 p1  l3 l4 s0 e_v0) (fun (z : (Nat → Int32)) => True) := by
  intro l3 l4 s0 e_v0 hq0 hq1 hq2 hq3 hq4 hq5 hq6
  unfold fX7_row_69
  have hN9 := hN.u
  have ql0 : (0 : Int32).toInt = 0 := by decide
  have ql1 : (1 : Int32).toInt = 1 := by decide
  exact s_X7_row_74  hN hK (by omega) (by omega) (by omega) (by omega) _ _ _ _ _ _ (by omega) (by first | omega | decide) (by first | omega | decide) (by first | omega | decide) (by first | omega | decide) (by first | omega | decide) (by first | omega | decide) (by first | omega | decide) (by first | omega | decide)
set_option maxHeartbeats 2000000 in
theorem s_X7_row_64 {N K : Nat} {p0 : Int32} {p1 : Int32} (hN : NBig N) (hK : 100 ≤ K) (hp0 : 0 ≤ p0.toInt) (hp1 : p0.toInt ≤ 7) (hp2 : 0 ≤ p1.toInt) (hp3 : p1.toInt ≤ 20) : ∀ (l3 : Int32) (l4 : Int32) (e_v0 : Nat → Int32), 2 ≤ p0.toInt → p0.toInt ≤ 7 → -1 ≤ l3.toInt → l3.toInt ≤ 39 → 0 ≤ l4.toInt → l4.toInt ≤ 1 → Sf (fX7_row_64 N K p0 p1  l3 l4 e_v0) (fun (z : (Nat → Int32)) => True) := by
  intro l3 l4 e_v0 hq0 hq1 hq2 hq3 hq4 hq5
  unfold fX7_row_64
  have ql0 : (0 : Int32).toInt = 0 := by decide
  have ql1 : (1 : Int32).toInt = 1 := by decide
  exact s_X7_row_69  hN hK (by omega) (by omega) (by omega) (by omega) _ _ _ _ (by first | omega | decide) (by first | omega | decide) (by first | omega | decide) (by first | omega | decide) (by first | omega | decide) (by first | omega | decide) (by first | omega | decide)
set_option maxHeartbeats 2000000 in
theorem s_X7_row_46 {N K : Nat} {p0 : Int32} {p1 : Int32} (hN : NBig N) (hK : 100 ≤ K) (hp0 : 0 ≤ p0.toInt) (hp1 : p0.toInt ≤ 7) (hp2 : 0 ≤ p1.toInt) (hp3 : p1.toInt ≤ 20) : ∀ (l3 : Int32) (s0 : Int32) (e_v0 : Nat → Int32), -1 ≤ l3.toInt → l3.toInt ≤ 39 → 0 ≤ s0.toInt → s0.toInt ≤ 1 → (s0.toInt = 0 → 0 ≤ p0.toInt ∧ p0.toInt ≤ 6 ∧ 0 ≤ p1.toInt ∧ p1.toInt ≤ 20) → Sf (fX7_row_46 N K p0 p1  l3 s0 e_v0) (fun (z : (Nat → Int32)) => True) := by
  intro l3 s0 e_v0 hq0 hq1 hq2 hq3 hq4
  unfold fX7_row_46
  have ql0 : (0 : Int32).toInt = 0 := by decide
  have ql2 : (2 : Int32).toInt = 2 := by decide
  have ql4 : (4 : Int32).toInt = 4 := by decide
  have ql7 : (7 : Int32).toInt = 7 := by decide
  refine sIf (fun h1 => ?_) (fun h1 => ?_)
  · have fh1 := eqT h1
    exact s_X7_row_64  hN hK (by omega) (by omega) (by omega) (by omega) _ _ _ (by first | omega | decide) (by first | omega | decide) (by first | omega | decide) (by first | omega | decide) (by first | omega | decide) (by first | omega | decide)
  · have fh1 := eqF h1
    refine sIf (fun h2 => ?_) (fun h2 => ?_)
    · have fh2 := eqT h2
      exact s_X7_row_64  hN hK (by omega) (by omega) (by omega) (by omega) _ _ _ (by first | omega | decide) (by first | omega | decide) (by first | omega | decide) (by first | omega | decide) (by first | omega | decide) (by first | omega | decide)
    · have fh2 := eqF h2
      refine sIf (fun h3 => ?_) (fun h3 => ?_)
      · have fh3 := eqT h3
        exact s_X7_row_64  hN hK (by omega) (by omega) (by omega) (by omega) _ _ _ (by first | omega | decide) (by first | omega | decide) (by first | omega | decide) (by first | omega | decide) (by first | omega | decide) (by first | omega | decide)
      · have fh3 := eqF h3
        exact s_X7_row_69  hN hK (by omega) (by omega) (by omega) (by omega) _ _ _ _ (by first | omega | decide) (by first | omega | decide) (by first | omega | decide) (by first | omega | decide) (by first | omega | decide) (by first | omega | decide) (by first | omega | decide)
set_option maxHeartbeats 2000000 in
theorem s_X7_row_41 {N K : Nat} {p0 : Int32} {p1 : Int32} (hN : NBig N) (hK : 100 ≤ K) (hp0 : 0 ≤ p0.toInt) (hp1 : p0.toInt ≤ 7) (hp2 : 0 ≤ p1.toInt) (hp3 : p1.toInt ≤ 20) : ∀ (l3 : Int32) (e_v0 : Nat → Int32), 3 ≤ p0.toInt → p0.toInt ≤ 7 → -1 ≤ l3.toInt → l3.toInt ≤ 39 → Sf (fX7_row_41 N K p0 p1  l3 e_v0) (fun (z : (Nat → Int32)) => True) := by
  intro l3 e_v0 hq0 hq1 hq2 hq3
  unfold fX7_row_41
  have ql0 : (0 : Int32).toInt = 0 := by decide
  have ql1 : (1 : Int32).toInt = 1 := by decide
  exact s_X7_row_46  hN hK (by omega) (by omega) (by omega) (by omega) _ _ _ (by first | omega | decide) (by first | omega | decide) (by first | omega | decide) (by first | omega | decide) (by first | omega | decide)
set_option maxHeartbeats 2000000 in
theorem s_X7_row_24 {N K : Nat} {p0 : Int32} {p1 : Int32} (hN : NBig N) (hK : 100 ≤ K) (hp0 : 0 ≤ p0.toInt) (hp1 : p0.toInt ≤ 7) (hp2 : 0 ≤ p1.toInt) (hp3 : p1.toInt ≤ 20) : ∀ (s0 : Int32) (e_v0 : Nat → Int32), -1 ≤ s0.toInt → s0.toInt ≤ 39 → (s0.toInt = 0 → 0 ≤ p0.toInt ∧ p0.toInt ≤ 7 ∧ 0 ≤ p1.toInt ∧ p1.toInt ≤ 20) → Sf (fX7_row_24 N K p0 p1  s0 e_v0) (fun (z : (Nat → Int32)) => True) := by
  intro s0 e_v0 hq0 hq1 hq2
  unfold fX7_row_24
  have ql0 : (0 : Int32).toInt = 0 := by decide
  have ql3 : (3 : Int32).toInt = 3 := by decide
  have ql4 : (4 : Int32).toInt = 4 := by decide
  have ql7 : (7 : Int32).toInt = 7 := by decide
  refine sIf (fun h1 => ?_) (fun h1 => ?_)
  · have fh1 := eqT h1
    exact s_X7_row_41  hN hK (by omega) (by omega) (by omega) (by omega) _ _ (by first | omega | decide) (by first | omega | decide) (by first | omega | decide) (by first | omega | decide)
  · have fh1 := eqF h1
    refine sIf (fun h2 => ?_) (fun h2 => ?_)
    · have fh2 := eqT h2
      exact s_X7_row_41  hN hK (by omega) (by omega) (by omega) (by omega) _ _ (by first | omega | decide) (by first | omega | decide) (by first | omega | decide) (by first | omega | decide)
    · have fh2 := eqF h2
      refine sIf (fun h3 => ?_) (fun h3 => ?_)
      · have fh3 := eqT h3
        exact s_X7_row_41  hN hK (by omega) (by omega) (by omega) (by omega) _ _ (by first | omega | decide) (by first | omega | decide) (by first | omega | decide) (by first | omega | decide)
      · have fh3 := eqF h3
        exact s_X7_row_46  hN hK (by omega) (by omega) (by omega) (by omega) _ _ _ (by first | omega | decide) (by first | omega | decide) (by first | omega | decide) (by first | omega | decide) (by first | omega | decide)
set_option maxHeartbeats 2000000 in
theorem s_X7_row {N K : Nat} {p0 : Int32} {p1 : Int32} (hN : NBig N) (hK : 100 ≤ K) (hp0 : 0 ≤ p0.toInt) (hp1 : p0.toInt ≤ 7) (hp2 : 0 ≤ p1.toInt) (hp3 : p1.toInt ≤ 20) : Sf (fX7_row N K p0 p1) (fun (z : (Nat → Int32)) => True) := by
  unfold fX7_row
  have ql0 : (0 : Int32).toInt = 0 := by decide
  have ql1 : (1 : Int32).toInt = 1 := by decide
  have ql2 : (2 : Int32).toInt = 2 := by decide
  have ql7 : (7 : Int32).toInt = 7 := by decide
  refine sIf (fun h1 => ?_) (fun h1 => ?_)
  · have fh1 := eqT h1
    have t3 := mulL (a := (2 : Int32)) (b := p1) ql2 (by omega) (by omega)
    have t2 := subI (a := ((2 : Int32) * p1)) (b := (1 : Int32)) (by omega) (by omega)
    exact s_X7_row_24  hN hK (by omega) (by omega) (by omega) (by omega) _ _ (by first | omega | decide) (by first | omega | decide) (by first | omega | decide)
  · have fh1 := eqF h1
    exact s_X7_row_24  hN hK (by omega) (by omega) (by omega) (by omega) _ _ (by first | omega | decide) (by first | omega | decide) (by first | omega | decide)
set_option maxHeartbeats 2000000 in
theorem s_X7_told_29 {N K : Nat} {f : Nat → Int32} {p0 : Int32} {p1 : Int32} {p2 : Int32} (hN : NBig N) (hK : 100 ≤ K) (hp0 : 0 ≤ p0.toInt) (hp1 : p0.toInt ≤ 7) (hp2 : 0 ≤ p1.toInt) (hp3 : p1.toInt ≤ 20) (hp4 : 0 ≤ p2.toInt) (hp5 : p2.toInt ≤ 20) : ∀ (s0 : Int32), -210 ≤ s0.toInt → s0.toInt ≤ 20 → (s0.toInt = 0 → 0 ≤ p0.toInt ∧ p0.toInt ≤ 7 ∧ 0 ≤ p1.toInt ∧ p1.toInt ≤ 20 ∧ 0 ≤ p2.toInt ∧ p2.toInt ≤ 20) → Sf (fX7_told_29 N K f p0 p1 p2  s0) (fun (z : Int32) => True) := by
  intro s0 hq0 hq1 hq2
  unfold fX7_told_29
  have ql0 : (0 : Int32).toInt = 0 := by decide
  refine sIf (fun h1 => ?_) (fun h1 => ?_)
  · have fh1 := leT h1
    refine sIfF (noob (by omega) (by omega)) ?_
    exact sRet trivial
  · have fh1 := leF h1
    exact sRet trivial
set_option maxHeartbeats 2000000 in
theorem s_X7_told {N K : Nat} {f : Nat → Int32} {p0 : Int32} {p1 : Int32} {p2 : Int32} (hN : NBig N) (hK : 100 ≤ K) (hp0 : 0 ≤ p0.toInt) (hp1 : p0.toInt ≤ 7) (hp2 : 0 ≤ p1.toInt) (hp3 : p1.toInt ≤ 20) (hp4 : 0 ≤ p2.toInt) (hp5 : p2.toInt ≤ 20) : Sf (fX7_told N K f p0 p1 p2) (fun (z : Int32) => True) := by
  unfold fX7_told
  have ql0 : (0 : Int32).toInt = 0 := by decide
  have ql1 : (1 : Int32).toInt = 1 := by decide
  have ql2 : (2 : Int32).toInt = 2 := by decide
  have ql5 : (5 : Int32).toInt = 5 := by decide
  refine sIf (fun h1 => ?_) (fun h1 => ?_)
  · have fh1 := eqT h1
    have t2 := subI (a := p1) (b := p2) (by omega) (by omega)
    exact s_X7_told_29  hN hK (by omega) (by omega) (by omega) (by omega) (by omega) (by omega) _ (by first | omega | decide) (by first | omega | decide) (by first | omega | decide)
  · have fh1 := eqF h1
    refine sIf (fun h3 => ?_) (fun h3 => ?_)
    · have fh3 := eqT h3
      have t7 := addI (a := p2) (b := (1 : Int32)) (by omega) (by omega)
      have t6 := mulV (a := p2) (b := (p2 + (1 : Int32))) (x0 := 0) (y0 := 1) (x := 20) (y := 21) (z0 := 0) (z := 420) (by omega) (by omega) (by omega) (by omega) (by decide) (by decide) (by decide) (by decide) (by decide)
      have t5 := divL (a := (p2 * (p2 + (1 : Int32)))) (b := (2 : Int32)) ql2 (by omega) (by omega)
      have t4 := subI (a := p1) (b := ((p2 * (p2 + (1 : Int32))) / (2 : Int32))) (by omega) (by omega)
      exact s_X7_told_29  hN hK (by omega) (by omega) (by omega) (by omega) (by omega) (by omega) _ (by first | omega | decide) (by first | omega | decide) (by first | omega | decide)
    · have fh3 := eqF h3
      exact s_X7_told_29  hN hK (by omega) (by omega) (by omega) (by omega) (by omega) (by omega) _ (by first | omega | decide) (by first | omega | decide) (by first | omega | decide)
set_option maxHeartbeats 2000000 in
theorem s_X7_series {N K : Nat} {p0 : Int32} {p1 : Int32} {p2 : Int32} (hN : NBig N) (hK : 100 ≤ K) (hp0 : 0 ≤ p0.toInt) (hp1 : p0.toInt ≤ 7) (hp2 : 0 ≤ p1.toInt) (hp3 : p1.toInt ≤ 20) (hp4 : 0 ≤ p2.toInt) (hp5 : p2.toInt ≤ 20) : Sf (fX7_series N K p0 p1 p2) (fun (z : Int32) => True) := by
  unfold fX7_series
  have ql0 : (0 : Int32).toInt = 0 := by decide
  refine sBind (s_X7_row hN hK (by first | omega | decide) (by first | omega | decide) (by first | omega | decide) (by first | omega | decide)) (fun x2 b1 => ?_)
  refine sBind (s_X7_told hN hK (by first | omega | decide) (by first | omega | decide) (by first | omega | decide) (by first | omega | decide) (by first | omega | decide) (by first | omega | decide)) (fun x8 b2 => ?_)
  exact sRet trivial
theorem s_X7_number {N K : Nat} {f : Nat → Int32} (hN : NBig N) (hK : 100 ≤ K) (hp0 : OkD f) : Sf (fX7_number N K f) (fun (z : Int32) => 0 ≤ z.toInt ∧ z.toInt ≤ 20 ∧ True) := by
  have hN9 := hN.u
  obtain ⟨w, hw⟩ := hp0
  have hwn := hw.1
  refine ⟨_, m_sum (by omega) hw.2, ?_⟩
  show 0 ≤ (Int32.ofNat (wn w)).toInt ∧ (Int32.ofNat (wn w)).toInt ≤ 20 ∧ True
  rw [o_i (by omega)]
  exact ⟨by omega, by omega, trivial⟩

set_option maxHeartbeats 2000000 in
theorem s_X7_parts_4 {N K : Nat} {f : Nat → Int32} (hN : NBig N) (hK : 100 ≤ K)  : ∀ (fu : Nat) (l1 : Int32) (l2 : Int32), (21 - l2.toInt).toNat < fu → 1 ≤ l2.toInt → l2.toInt ≤ 21 → Sf (fX7_parts_4 N K f  fu l1 l2) (fun (z : Int32) => True) := by
  intro fu
  induction fu with
  | zero => intro l1 l2 h0 hq0 hq1; omega
  | succ fu ih =>
    intro l1 l2 h0 hq0 hq1
    unfold fX7_parts_4
    have ql0 : (0 : Int32).toInt = 0 := by decide
    have ql1 : (1 : Int32).toInt = 1 := by decide
    have ql20 : (20 : Int32).toInt = 20 := by decide
    refine sIf (fun h1 => ?_) (fun h1 => ?_)
    · have fh1 := ltT h1
      exact sRet trivial
    · have fh1 := ltF h1
      refine sIfF (noob (by omega) (by omega)) ?_
      have t3 := addI (a := l2) (b := (1 : Int32)) (by omega) (by omega)
      exact ih _ _ (by omega) (by first | omega | decide) (by first | omega | decide)

end MG_50fsafe
section MG_50gsafe
set_option maxHeartbeats 2000000 in
theorem s_X7_parts {N K : Nat} {f : Nat → Int32} (hN : NBig N) (hK : 100 ≤ K)  : Sf (fX7_parts N K f) (fun (z : Int32) => True) := by
  unfold fX7_parts
  have hN9 := hN.u
  have ql0 : (0 : Int32).toInt = 0 := by decide
  have ql1 : (1 : Int32).toInt = 1 := by decide
  exact s_X7_parts_4  hN hK _ _ _ (by omega) (by first | omega | decide) (by first | omega | decide)
set_option maxHeartbeats 2000000 in
theorem s_X7_unlikeOnes_22 {N K : Nat} {f : Nat → Int32} (hN : NBig N) (hK : 100 ≤ K)  {k_4 : Int32 → Int32 → Option (Int32)} {m_4 : Nat} (hk_4 : ∀ (l1 : Int32) (l2 : Int32), (21 - l2.toInt).toNat < m_4 → 1 ≤ l2.toInt → l2.toInt ≤ 21 → Sf (k_4 l1 l2) (fun (z : Int32) => True)) : ∀ (l2 : Int32) (s0 : Int32) (s1 : Int32), 1 ≤ l2.toInt → l2.toInt ≤ 20 → 0 ≤ s0.toInt → s0.toInt ≤ 1 → (21 - l2.toInt).toNat ≤ m_4 → Sf (fX7_unlikeOnes_22 N K f k_4 l2 s0 s1) (fun (z : Int32) => True) := by
  intro l2 s0 s1 hq0 hq1 hq2 hq3 hq4
  unfold fX7_unlikeOnes_22
  have ql0 : (0 : Int32).toInt = 0 := by decide
  have ql1 : (1 : Int32).toInt = 1 := by decide
  refine sBind (s_X7_bit hN hK (by first | omega | decide) (by first | omega | decide)) (fun x22 b1 => ?_)
  obtain ⟨b1_0, b1_1, -⟩ := b1
  replace b1_0 : 0 ≤ x22.toInt := b1_0
  replace b1_1 : x22.toInt ≤ 1 := b1_1
  have t3 := addI (a := l2) (b := (1 : Int32)) (by omega) (by omega)
  exact hk_4 _ _ (by omega) (by first | omega | decide) (by first | omega | decide)
set_option maxHeartbeats 2000000 in
theorem s_X7_unlikeOnes_4 {N K : Nat} {f : Nat → Int32} (hN : NBig N) (hK : 100 ≤ K)  : ∀ (fu : Nat) (l1 : Int32) (l2 : Int32), (21 - l2.toInt).toNat < fu → 1 ≤ l2.toInt → l2.toInt ≤ 21 → Sf (fX7_unlikeOnes_4 N K f  fu l1 l2) (fun (z : Int32) => True) := by
  intro fu
  induction fu with
  | zero => intro l1 l2 h0 hq0 hq1; omega
  | succ fu ih =>
    intro l1 l2 h0 hq0 hq1
    unfold fX7_unlikeOnes_4
    have ql0 : (0 : Int32).toInt = 0 := by decide
    have ql1 : (1 : Int32).toInt = 1 := by decide
    have ql20 : (20 : Int32).toInt = 20 := by decide
    refine sIf (fun h1 => ?_) (fun h1 => ?_)
    · have fh1 := ltT h1
      exact sRet trivial
    · have fh1 := ltF h1
      refine sIfF (noob (by omega) (by omega)) ?_
      refine sIf (fun h2 => ?_) (fun h2 => ?_)
      · have fh2 := leT h2
        exact s_X7_unlikeOnes_22 (hk_4 := ih) hN hK _ _ _ (by first | omega | decide) (by first | omega | decide) (by first | omega | decide) (by first | omega | decide) (by omega)
      · have fh2 := leF h2
        exact s_X7_unlikeOnes_22 (hk_4 := ih) hN hK _ _ _ (by first | omega | decide) (by first | omega | decide) (by first | omega | decide) (by first | omega | decide) (by omega)
set_option maxHeartbeats 2000000 in
theorem s_X7_unlikeOnes {N K : Nat} {f : Nat → Int32} (hN : NBig N) (hK : 100 ≤ K)  : Sf (fX7_unlikeOnes N K f) (fun (z : Int32) => True) := by
  unfold fX7_unlikeOnes
  have hN9 := hN.u
  have ql0 : (0 : Int32).toInt = 0 := by decide
  have ql1 : (1 : Int32).toInt = 1 := by decide
  exact s_X7_unlikeOnes_4  hN hK _ _ _ (by omega) (by first | omega | decide) (by first | omega | decide)
set_option maxHeartbeats 2000000 in
theorem s_X7_isUnlike {N K : Nat} {f : Nat → Int32} (hN : NBig N) (hK : 100 ≤ K)  : Sf (fX7_isUnlike N K f) (fun (z : Int32) => 0 ≤ z.toInt ∧ z.toInt ≤ 1 ∧ True) := by
  unfold fX7_isUnlike
  have ql0 : (0 : Int32).toInt = 0 := by decide
  have ql1 : (1 : Int32).toInt = 1 := by decide
  refine sBind (s_X7_parts hN hK) (fun x1 b1 => ?_)
  refine sBind (s_X7_unlikeOnes hN hK) (fun x5 b2 => ?_)
  refine sIf (fun h3 => ?_) (fun h3 => ?_)
  · have fh3 := eqT h3
    exact sRet ⟨(by show 0 ≤ (1 : Int32).toInt; decide), (by show (1 : Int32).toInt ≤ 1; decide), trivial⟩
  · have fh3 := eqF h3
    exact sRet ⟨(by show 0 ≤ (0 : Int32).toInt; decide), (by show (0 : Int32).toInt ≤ 1; decide), trivial⟩
set_option maxHeartbeats 2000000 in
theorem s_X7_isOdd_22 {N K : Nat} {f : Nat → Int32} (hN : NBig N) (hK : 100 ≤ K)  {k_4 : Int32 → Int32 → Option (Int32)} {m_4 : Nat} (hk_4 : ∀ (l1 : Int32) (l2 : Int32), (22 - l2.toInt).toNat < m_4 → 0 ≤ l1.toInt → l1.toInt ≤ 1 → 2 ≤ l2.toInt → l2.toInt ≤ 22 → Sf (k_4 l1 l2) (fun (z : Int32) => 0 ≤ z.toInt ∧ z.toInt ≤ 1 ∧ True)) : ∀ (l2 : Int32) (s0 : Int32) (s1 : Int32), 2 ≤ l2.toInt → l2.toInt ≤ 20 → 0 ≤ s0.toInt → s0.toInt ≤ 1 → 0 ≤ s1.toInt → s1.toInt ≤ 1 → (22 - l2.toInt).toNat ≤ m_4 → Sf (fX7_isOdd_22 N K f k_4 l2 s0 s1) (fun (z : Int32) => 0 ≤ z.toInt ∧ z.toInt ≤ 1 ∧ True) := by
  intro l2 s0 s1 hq0 hq1 hq2 hq3 hq4 hq5 hq6
  unfold fX7_isOdd_22
  have ql0 : (0 : Int32).toInt = 0 := by decide
  have ql2 : (2 : Int32).toInt = 2 := by decide
  have t101 := and01 (a := s1) (b := s0) (by omega) (by omega) (by omega) (by omega)
  have t2 := addI (a := l2) (b := (2 : Int32)) (by omega) (by omega)
  exact hk_4 _ _ (by omega) (by first | omega | decide) (by first | omega | decide) (by first | omega | decide) (by first | omega | decide)
set_option maxHeartbeats 2000000 in
theorem s_X7_isOdd_4 {N K : Nat} {f : Nat → Int32} (hN : NBig N) (hK : 100 ≤ K)  : ∀ (fu : Nat) (l1 : Int32) (l2 : Int32), (22 - l2.toInt).toNat < fu → 0 ≤ l1.toInt → l1.toInt ≤ 1 → 2 ≤ l2.toInt → l2.toInt ≤ 22 → Sf (fX7_isOdd_4 N K f  fu l1 l2) (fun (z : Int32) => 0 ≤ z.toInt ∧ z.toInt ≤ 1 ∧ True) := by
  intro fu
  induction fu with
  | zero => intro l1 l2 h0 hq0 hq1 hq2 hq3; omega
  | succ fu ih =>
    intro l1 l2 h0 hq0 hq1 hq2 hq3
    unfold fX7_isOdd_4
    have ql0 : (0 : Int32).toInt = 0 := by decide
    have ql1 : (1 : Int32).toInt = 1 := by decide
    have ql20 : (20 : Int32).toInt = 20 := by decide
    refine sIf (fun h1 => ?_) (fun h1 => ?_)
    · have fh1 := ltT h1
      refine sIfT (b01 (by omega) (by omega)) ?_
      exact sRet ⟨(by show 0 ≤ l1.toInt; first | omega | assumption), (by show l1.toInt ≤ 1; first | omega | assumption), trivial⟩
    · have fh1 := ltF h1
      refine sIfF (noob (by omega) (by omega)) ?_
      refine sIf (fun h2 => ?_) (fun h2 => ?_)
      · have fh2 := eqT h2
        exact s_X7_isOdd_22 (hk_4 := ih) hN hK _ _ _ (by first | omega | decide) (by first | omega | decide) (by first | omega | decide) (by first | omega | decide) (by first | omega | decide) (by first | omega | decide) (by omega)
      · have fh2 := eqF h2
        exact s_X7_isOdd_22 (hk_4 := ih) hN hK _ _ _ (by first | omega | decide) (by first | omega | decide) (by first | omega | decide) (by first | omega | decide) (by first | omega | decide) (by first | omega | decide) (by omega)
set_option maxHeartbeats 2000000 in
theorem s_X7_isOdd {N K : Nat} {f : Nat → Int32} (hN : NBig N) (hK : 100 ≤ K)  : Sf (fX7_isOdd N K f) (fun (z : Int32) => 0 ≤ z.toInt ∧ z.toInt ≤ 1 ∧ True) := by
  unfold fX7_isOdd
  have hN9 := hN.u
  have ql0 : (0 : Int32).toInt = 0 := by decide
  have ql1 : (1 : Int32).toInt = 1 := by decide
  have ql2 : (2 : Int32).toInt = 2 := by decide
  exact s_X7_isOdd_4  hN hK _ _ _ (by omega) (by first | omega | decide) (by first | omega | decide) (by first | omega | decide) (by first | omega | decide)
set_option maxHeartbeats 2000000 in
theorem s_X7_greatest_3 {N K : Nat} {f : Nat → Int32} (hN : NBig N) (hK : 100 ≤ K)  : ∀ (fu : Nat) (l1 : Int32), (l1.toInt - 0).toNat < fu → 0 ≤ l1.toInt → l1.toInt ≤ 20 → Sf (fX7_greatest_3 N K f  fu l1) (fun (z : Int32) => 0 ≤ z.toInt ∧ z.toInt ≤ 20 ∧ True) := by
  intro fu
  induction fu with
  | zero => intro l1 h0 hq0 hq1; omega
  | succ fu ih =>
    intro l1 h0 hq0 hq1
    unfold fX7_greatest_3
    have ql0 : (0 : Int32).toInt = 0 := by decide
    refine sIf (fun h1 => ?_) (fun h1 => ?_)
    · have fh1 := leT h1
      exact sRet ⟨(by show 0 ≤ l1.toInt; first | omega | assumption), (by show l1.toInt ≤ 20; first | omega | assumption), trivial⟩
    · have fh1 := leF h1
      refine sIfF (noob (by omega) (by omega)) ?_
      refine sIf (fun h2 => ?_) (fun h2 => ?_)
      · have fh2 := eqT h2
        have t3 : (l1 + (-1 : Int32)).toInt = l1.toInt + (-1) := addL (by decide) (by omega) (by omega)
        exact ih _ (by (try generalize l1 + (-1 : Int32) = d0_ at *); omega) (by (try generalize l1 + (-1 : Int32) = d0_ at *); first | omega | decide) (by (try generalize l1 + (-1 : Int32) = d0_ at *); first | omega | decide)
      · have fh2 := eqF h2
        exact sRet ⟨(by show 0 ≤ l1.toInt; first | omega | assumption), (by show l1.toInt ≤ 20; first | omega | assumption), trivial⟩
set_option maxHeartbeats 2000000 in
theorem s_X7_greatest {N K : Nat} {f : Nat → Int32} (hN : NBig N) (hK : 100 ≤ K)  : Sf (fX7_greatest N K f) (fun (z : Int32) => 0 ≤ z.toInt ∧ z.toInt ≤ 20 ∧ True) := by
  unfold fX7_greatest
  have hN9 := hN.u
  have ql0 : (0 : Int32).toInt = 0 := by decide
  have ql20 : (20 : Int32).toInt = 20 := by decide
  exact s_X7_greatest_3  hN hK _ _ (by omega) (by first | omega | decide) (by first | omega | decide)
set_option maxHeartbeats 2000000 in
theorem s_X7_partAt_5 {N K : Nat} {f : Nat → Int32} {p0 : Int32} (hN : NBig N) (hK : 100 ≤ K) (hp0 : 1 ≤ p0.toInt) (hp1 : p0.toInt ≤ 20) : ∀ (fu : Nat) (l2 : Int32) (l3 : Int32), (l3.toInt - 0).toNat < fu → l2.toInt ≤ 19 → 0 ≤ l3.toInt → l3.toInt ≤ 20 → Sf (fX7_partAt_5 N K f p0  fu l2 l3) (fun (z : Int32) => 0 ≤ z.toInt ∧ z.toInt ≤ 20 ∧ True) := by
  intro fu
  induction fu with
  | zero => intro l2 l3 h0 hq0 hq1 hq2; omega
  | succ fu ih =>
    intro l2 l3 h0 hq0 hq1 hq2
    unfold fX7_partAt_5
    have ql0 : (0 : Int32).toInt = 0 := by decide
    refine sIf (fun h1 => ?_) (fun h1 => ?_)
    · have fh1 := leT h1
      exact sRet ⟨(by show 0 ≤ (0 : Int32).toInt; decide), (by show (0 : Int32).toInt ≤ 20; decide), trivial⟩
    · have fh1 := leF h1
      refine sIfF (noob (by omega) (by omega)) ?_
      refine sIf (fun h2 => ?_) (fun h2 => ?_)
      · have fh2 := ltT h2
        have t5 : (l3 + (-1 : Int32)).toInt = l3.toInt + (-1) := addL (by decide) (by omega) (by omega)
        exact ih _ _ (by (try generalize l3 + (-1 : Int32) = d0_ at *); omega) (by (try generalize l3 + (-1 : Int32) = d0_ at *); first | omega | decide) (by (try generalize l3 + (-1 : Int32) = d0_ at *); first | omega | decide) (by (try generalize l3 + (-1 : Int32) = d0_ at *); first | omega | decide)
      · have fh2 := ltF h2
        exact sRet ⟨(by show 0 ≤ l3.toInt; first | omega | assumption), (by show l3.toInt ≤ 20; first | omega | assumption), trivial⟩
set_option maxHeartbeats 2000000 in
theorem s_X7_partAt {N K : Nat} {f : Nat → Int32} {p0 : Int32} (hN : NBig N) (hK : 100 ≤ K) (hp0 : 1 ≤ p0.toInt) (hp1 : p0.toInt ≤ 20) : Sf (fX7_partAt N K f p0) (fun (z : Int32) => 0 ≤ z.toInt ∧ z.toInt ≤ 20 ∧ True) := by
  unfold fX7_partAt
  have hN9 := hN.u
  have ql0 : (0 : Int32).toInt = 0 := by decide
  have ql20 : (20 : Int32).toInt = 20 := by decide
  exact s_X7_partAt_5  hN hK (by omega) (by omega) _ _ _ (by omega) (by first | omega | decide) (by first | omega | decide) (by first | omega | decide)
set_option maxHeartbeats 2000000 in
theorem s_X7_isOwnTurned_50 {N K : Nat} {f : Nat → Int32} (hN : NBig N) (hK : 100 ≤ K)  {k_22 : Int32 → Int32 → Int32 → Option (Int32)} {m_22 : Nat} (hk_22 : ∀ (l1 : Int32) (l2 : Int32) (l3 : Int32), (l3.toInt - 0).toNat < m_22 → 0 ≤ l2.toInt → l2.toInt ≤ 1 → 0 ≤ l3.toInt → l3.toInt ≤ 20 → Sf (k_22 l1 l2 l3) (fun (z : Int32) => 0 ≤ z.toInt ∧ z.toInt ≤ 1 ∧ True)) : ∀ (l1 : Int32) (l3 : Int32) (s0 : Int32), 1 ≤ l3.toInt → l3.toInt ≤ 20 → 0 ≤ s0.toInt → s0.toInt ≤ 1 → (l3.toInt - 0).toNat ≤ m_22 → Sf (fX7_isOwnTurned_50 N K f k_22 l1 l3 s0) (fun (z : Int32) => 0 ≤ z.toInt ∧ z.toInt ≤ 1 ∧ True) := by
  intro l1 l3 s0 hq0 hq1 hq2 hq3 hq4
  unfold fX7_isOwnTurned_50
  have ql0 : (0 : Int32).toInt = 0 := by decide
  have t1 : (l3 + (-1 : Int32)).toInt = l3.toInt + (-1) := addL (by decide) (by omega) (by omega)
  exact hk_22 _ _ _ (by (try generalize l3 + (-1 : Int32) = d0_ at *); omega) (by (try generalize l3 + (-1 : Int32) = d0_ at *); first | omega | decide) (by (try generalize l3 + (-1 : Int32) = d0_ at *); first | omega | decide) (by (try generalize l3 + (-1 : Int32) = d0_ at *); first | omega | decide) (by (try generalize l3 + (-1 : Int32) = d0_ at *); first | omega | decide)
set_option maxHeartbeats 2000000 in
theorem s_X7_isOwnTurned_22 {N K : Nat} {f : Nat → Int32} (hN : NBig N) (hK : 100 ≤ K)  : ∀ (fu : Nat) (l1 : Int32) (l2 : Int32) (l3 : Int32), (l3.toInt - 0).toNat < fu → 0 ≤ l2.toInt → l2.toInt ≤ 1 → 0 ≤ l3.toInt → l3.toInt ≤ 20 → Sf (fX7_isOwnTurned_22 N K f  fu l1 l2 l3) (fun (z : Int32) => 0 ≤ z.toInt ∧ z.toInt ≤ 1 ∧ True) := by
  intro fu
  induction fu with
  | zero => intro l1 l2 l3 h0 hq0 hq1 hq2 hq3; omega
  | succ fu ih =>
    intro l1 l2 l3 h0 hq0 hq1 hq2 hq3
    unfold fX7_isOwnTurned_22
    have ql0 : (0 : Int32).toInt = 0 := by decide
    have ql1 : (1 : Int32).toInt = 1 := by decide
    refine sIf (fun h1 => ?_) (fun h1 => ?_)
    · have fh1 := leT h1
      refine sIfT (b01 (by omega) (by omega)) ?_
      exact sRet ⟨(by show 0 ≤ l2.toInt; first | omega | assumption), (by show l2.toInt ≤ 1; first | omega | assumption), trivial⟩
    · have fh1 := leF h1
      refine sIf (fun h2 => ?_) (fun h2 => ?_)
      · have fh2 := eqT h2
        refine sIfT (b01 (by omega) (by omega)) ?_
        exact sRet ⟨(by show 0 ≤ l2.toInt; first | omega | assumption), (by show l2.toInt ≤ 1; first | omega | assumption), trivial⟩
      · have fh2 := eqF h2
        refine sIfF (noob (by omega) (by omega)) ?_
        refine sBind (s_X7_partAt hN hK (by first | omega | decide) (by first | omega | decide)) (fun x38 b3 => ?_)
        obtain ⟨b3_0, b3_1, -⟩ := b3
        replace b3_0 : 0 ≤ x38.toInt := b3_0
        replace b3_1 : x38.toInt ≤ 20 := b3_1
        refine sIf (fun h4 => ?_) (fun h4 => ?_)
        · have fh4 := eqT h4
          exact s_X7_isOwnTurned_50 (hk_22 := ih) hN hK _ _ _ (by first | omega | decide) (by first | omega | decide) (by first | omega | decide) (by first | omega | decide) (by omega)
        · have fh4 := eqF h4
          exact s_X7_isOwnTurned_50 (hk_22 := ih) hN hK _ _ _ (by first | omega | decide) (by first | omega | decide) (by first | omega | decide) (by first | omega | decide) (by omega)
set_option maxHeartbeats 2000000 in
theorem s_X7_isOwnTurned_18 {N K : Nat} {f : Nat → Int32} (hN : NBig N) (hK : 100 ≤ K)  : ∀ (s0 : Int32), 0 ≤ s0.toInt → s0.toInt ≤ 1 → Sf (fX7_isOwnTurned_18 N K f  s0) (fun (z : Int32) => 0 ≤ z.toInt ∧ z.toInt ≤ 1 ∧ True) := by
  intro s0 hq0 hq1
  unfold fX7_isOwnTurned_18
  have hN9 := hN.u
  have ql0 : (0 : Int32).toInt = 0 := by decide
  have ql20 : (20 : Int32).toInt = 20 := by decide
  exact s_X7_isOwnTurned_22  hN hK _ _ _ _ (by omega) (by first | omega | decide) (by first | omega | decide) (by first | omega | decide) (by first | omega | decide)
set_option maxHeartbeats 2000000 in
theorem s_X7_isOwnTurned {N K : Nat} {f : Nat → Int32} (hN : NBig N) (hK : 100 ≤ K)  : Sf (fX7_isOwnTurned N K f) (fun (z : Int32) => 0 ≤ z.toInt ∧ z.toInt ≤ 1 ∧ True) := by
  unfold fX7_isOwnTurned
  have ql0 : (0 : Int32).toInt = 0 := by decide
  have ql1 : (1 : Int32).toInt = 1 := by decide
  refine sBind (s_X7_parts hN hK) (fun x3 b1 => ?_)
  refine sBind (s_X7_greatest hN hK) (fun x7 b2 => ?_)
  obtain ⟨b2_0, b2_1, -⟩ := b2
  replace b2_0 : 0 ≤ x7.toInt := b2_0
  replace b2_1 : x7.toInt ≤ 20 := b2_1
  refine sIf (fun h3 => ?_) (fun h3 => ?_)
  · have fh3 := eqT h3
    exact s_X7_isOwnTurned_18  hN hK _ (by first | omega | decide) (by first | omega | decide)
  · have fh3 := eqF h3
    exact s_X7_isOwnTurned_18  hN hK _ (by first | omega | decide) (by first | omega | decide)
set_option maxHeartbeats 2000000 in
theorem s_X7_isOfKind {N K : Nat} {f : Nat → Int32} {p0 : Int32} {p1 : Int32} (hN : NBig N) (hK : 100 ≤ K) (hp0 : 0 ≤ p0.toInt) (hp1 : p0.toInt ≤ 7) (hp2 : 0 ≤ p1.toInt) (hp3 : p1.toInt ≤ 20) : Sf (fX7_isOfKind N K f p0 p1) (fun (z : Int32) => 0 ≤ z.toInt ∧ z.toInt ≤ 1 ∧ True) := by
  unfold fX7_isOfKind
  have ql0 : (0 : Int32).toInt = 0 := by decide
  have ql1 : (1 : Int32).toInt = 1 := by decide
  have ql2 : (2 : Int32).toInt = 2 := by decide
  have ql3 : (3 : Int32).toInt = 3 := by decide
  have ql4 : (4 : Int32).toInt = 4 := by decide
  have ql5 : (5 : Int32).toInt = 5 := by decide
  have ql6 : (6 : Int32).toInt = 6 := by decide
  refine sIf (fun h1 => ?_) (fun h1 => ?_)
  · have fh1 := eqT h1
    refine sBind (s_X7_greatest hN hK) (fun x45 b2 => ?_)
    obtain ⟨b2_0, b2_1, -⟩ := b2
    replace b2_0 : 0 ≤ x45.toInt := b2_0
    replace b2_1 : x45.toInt ≤ 20 := b2_1
    refine sIf (fun h3 => ?_) (fun h3 => ?_)
    · have fh3 := ltT h3
      exact sRet ⟨(by show 0 ≤ (0 : Int32).toInt; decide), (by show (0 : Int32).toInt ≤ 1; decide), trivial⟩
    · have fh3 := ltF h3
      exact sRet ⟨(by show 0 ≤ (1 : Int32).toInt; decide), (by show (1 : Int32).toInt ≤ 1; decide), trivial⟩
  · have fh1 := eqF h1
    refine sIf (fun h4 => ?_) (fun h4 => ?_)
    · have fh4 := eqT h4
      refine sBind (s_X7_parts hN hK) (fun x59 b5 => ?_)
      refine sIf (fun h6 => ?_) (fun h6 => ?_)
      · have fh6 := eqT h6
        exact sRet ⟨(by show 0 ≤ (1 : Int32).toInt; decide), (by show (1 : Int32).toInt ≤ 1; decide), trivial⟩
      · have fh6 := eqF h6
        exact sRet ⟨(by show 0 ≤ (0 : Int32).toInt; decide), (by show (0 : Int32).toInt ≤ 1; decide), trivial⟩
    · have fh4 := eqF h4
      refine sIf (fun h7 => ?_) (fun h7 => ?_)
      · have fh7 := eqT h7
        refine sBind (s_X7_isUnlike hN hK) (fun x73 b8 => ?_)
        obtain ⟨b8_0, b8_1, -⟩ := b8
        replace b8_0 : 0 ≤ x73.toInt := b8_0
        replace b8_1 : x73.toInt ≤ 1 := b8_1
        refine sIf (fun h9 => ?_) (fun h9 => ?_)
        · have fh9 := eqT h9
          exact sRet ⟨(by show 0 ≤ (0 : Int32).toInt; decide), (by show (0 : Int32).toInt ≤ 1; decide), trivial⟩
        · have fh9 := eqF h9
          refine sBind (s_X7_greatest hN hK) (fun x80 b10 => ?_)
          obtain ⟨b10_0, b10_1, -⟩ := b10
          replace b10_0 : 0 ≤ x80.toInt := b10_0
          replace b10_1 : x80.toInt ≤ 20 := b10_1
          refine sIf (fun h11 => ?_) (fun h11 => ?_)
          · have fh11 := ltT h11
            exact sRet ⟨(by show 0 ≤ (0 : Int32).toInt; decide), (by show (0 : Int32).toInt ≤ 1; decide), trivial⟩
          · have fh11 := ltF h11
            exact sRet ⟨(by show 0 ≤ (1 : Int32).toInt; decide), (by show (1 : Int32).toInt ≤ 1; decide), trivial⟩
      · have fh7 := eqF h7
        refine sIf (fun h12 => ?_) (fun h12 => ?_)
        · have fh12 := eqT h12
          refine sBind (s_X7_isOdd hN hK) (fun x94 b13 => ?_)
          obtain ⟨b13_0, b13_1, -⟩ := b13
          replace b13_0 : 0 ≤ x94.toInt := b13_0
          replace b13_1 : x94.toInt ≤ 1 := b13_1
          refine sIf (fun h14 => ?_) (fun h14 => ?_)
          · have fh14 := eqT h14
            exact sRet ⟨(by show 0 ≤ (0 : Int32).toInt; decide), (by show (0 : Int32).toInt ≤ 1; decide), trivial⟩
          · have fh14 := eqF h14
            refine sBind (s_X7_greatest hN hK) (fun x101 b15 => ?_)
            obtain ⟨b15_0, b15_1, -⟩ := b15
            replace b15_0 : 0 ≤ x101.toInt := b15_0
            replace b15_1 : x101.toInt ≤ 20 := b15_1
            refine sIf (fun h16 => ?_) (fun h16 => ?_)
            · have fh16 := ltT h16
              exact sRet ⟨(by show 0 ≤ (0 : Int32).toInt; decide), (by show (0 : Int32).toInt ≤ 1; decide), trivial⟩
            · have fh16 := ltF h16
              exact sRet ⟨(by show 0 ≤ (1 : Int32).toInt; decide), (by show (1 : Int32).toInt ≤ 1; decide), trivial⟩
        · have fh12 := eqF h12
          refine sIf (fun h17 => ?_) (fun h17 => ?_)
          · have fh17 := eqT h17
            refine sBind (s_X7_isOdd hN hK) (fun x115 b18 => ?_)
            obtain ⟨b18_0, b18_1, -⟩ := b18
            replace b18_0 : 0 ≤ x115.toInt := b18_0
            replace b18_1 : x115.toInt ≤ 1 := b18_1
            refine sIf (fun h19 => ?_) (fun h19 => ?_)
            · have fh19 := eqT h19
              exact sRet ⟨(by show 0 ≤ (0 : Int32).toInt; decide), (by show (0 : Int32).toInt ≤ 1; decide), trivial⟩
            · have fh19 := eqF h19
              refine sBind (s_X7_isUnlike hN hK) (fun x122 b20 => ?_)
              obtain ⟨b20_0, b20_1, -⟩ := b20
              replace b20_0 : 0 ≤ x122.toInt := b20_0
              replace b20_1 : x122.toInt ≤ 1 := b20_1
              refine sIf (fun h21 => ?_) (fun h21 => ?_)
              · have fh21 := eqT h21
                exact sRet ⟨(by show 0 ≤ (0 : Int32).toInt; decide), (by show (0 : Int32).toInt ≤ 1; decide), trivial⟩
              · have fh21 := eqF h21
                refine sBind (s_X7_greatest hN hK) (fun x129 b22 => ?_)
                obtain ⟨b22_0, b22_1, -⟩ := b22
                replace b22_0 : 0 ≤ x129.toInt := b22_0
                replace b22_1 : x129.toInt ≤ 20 := b22_1
                refine sIf (fun h23 => ?_) (fun h23 => ?_)
                · have fh23 := ltT h23
                  exact sRet ⟨(by show 0 ≤ (0 : Int32).toInt; decide), (by show (0 : Int32).toInt ≤ 1; decide), trivial⟩
                · have fh23 := ltF h23
                  exact sRet ⟨(by show 0 ≤ (1 : Int32).toInt; decide), (by show (1 : Int32).toInt ≤ 1; decide), trivial⟩
          · have fh17 := eqF h17
            refine sIf (fun h24 => ?_) (fun h24 => ?_)
            · have fh24 := eqT h24
              refine sBind (s_X7_isUnlike hN hK) (fun x143 b25 => ?_)
              obtain ⟨b25_0, b25_1, -⟩ := b25
              replace b25_0 : 0 ≤ x143.toInt := b25_0
              replace b25_1 : x143.toInt ≤ 1 := b25_1
              refine sIf (fun h26 => ?_) (fun h26 => ?_)
              · have fh26 := eqT h26
                exact sRet ⟨(by show 0 ≤ (0 : Int32).toInt; decide), (by show (0 : Int32).toInt ≤ 1; decide), trivial⟩
              · have fh26 := eqF h26
                refine sBind (s_X7_parts hN hK) (fun x150 b27 => ?_)
                refine sIf (fun h28 => ?_) (fun h28 => ?_)
                · have fh28 := eqT h28
                  exact sRet ⟨(by show 0 ≤ (1 : Int32).toInt; decide), (by show (1 : Int32).toInt ≤ 1; decide), trivial⟩
                · have fh28 := eqF h28
                  exact sRet ⟨(by show 0 ≤ (0 : Int32).toInt; decide), (by show (0 : Int32).toInt ≤ 1; decide), trivial⟩
            · have fh24 := eqF h24
              refine sIf (fun h29 => ?_) (fun h29 => ?_)
              · have fh29 := eqT h29
                refine sBind (s_X7_parts hN hK) (fun x164 b30 => ?_)
                refine sIf (fun h31 => ?_) (fun h31 => ?_)
                · have fh31 := ltT h31
                  exact sRet ⟨(by show 0 ≤ (0 : Int32).toInt; decide), (by show (0 : Int32).toInt ≤ 1; decide), trivial⟩
                · have fh31 := ltF h31
                  exact sRet ⟨(by show 0 ≤ (1 : Int32).toInt; decide), (by show (1 : Int32).toInt ≤ 1; decide), trivial⟩
              · have fh29 := eqF h29
                refine sBind (s_X7_greatest hN hK) (fun x178 b32 => ?_)
                obtain ⟨b32_0, b32_1, -⟩ := b32
                replace b32_0 : 0 ≤ x178.toInt := b32_0
                replace b32_1 : x178.toInt ≤ 20 := b32_1
                refine sIf (fun h33 => ?_) (fun h33 => ?_)
                · have fh33 := ltT h33
                  exact sRet ⟨(by show 0 ≤ (0 : Int32).toInt; decide), (by show (0 : Int32).toInt ≤ 1; decide), trivial⟩
                · have fh33 := ltF h33
                  refine sBind (s_X7_isOwnTurned hN hK) (fun x186 b34 => ?_)
                  obtain ⟨b34_0, b34_1, -⟩ := b34
                  replace b34_0 : 0 ≤ x186.toInt := b34_0
                  replace b34_1 : x186.toInt ≤ 1 := b34_1
                  refine sIf (fun h35 => ?_) (fun h35 => ?_)
                  · have fh35 := eqT h35
                    exact sRet ⟨(by show 0 ≤ (0 : Int32).toInt; decide), (by show (0 : Int32).toInt ≤ 1; decide), trivial⟩
                  · have fh35 := eqF h35
                    exact sRet ⟨(by show 0 ≤ (1 : Int32).toInt; decide), (by show (1 : Int32).toInt ≤ 1; decide), trivial⟩
theorem s_X7_turned {N K : Nat} {f : Nat → Int32} (hN : NBig N) (hK : 100 ≤ K) (hp0 : OkD f) : Sf (fX7_turned N K f) (fun (z : (Nat → Int32)) => OkD z ∧ True) := by
  have hN9 := hN.u
  obtain ⟨w, hw⟩ := hp0
  obtain ⟨h, a, b⟩ := m_turn (N := N) (K := K) (by omega) hw
  exact ⟨h, a, ⟨_, b⟩, trivial⟩

set_option maxHeartbeats 2000000 in
theorem s_X7_areSame_25 {N K : Nat} {f : Nat → Int32} {g : Nat → Int32} (hN : NBig N) (hK : 100 ≤ K)  {k_4 : Int32 → Int32 → Option (Int32)} {m_4 : Nat} (hk_4 : ∀ (l2 : Int32) (l3 : Int32), (21 - l3.toInt).toNat < m_4 → 0 ≤ l2.toInt → l2.toInt ≤ 1 → 1 ≤ l3.toInt → l3.toInt ≤ 21 → Sf (k_4 l2 l3) (fun (z : Int32) => 0 ≤ z.toInt ∧ z.toInt ≤ 1 ∧ True)) : ∀ (l3 : Int32) (s0 : Int32) (s1 : Int32), 1 ≤ l3.toInt → l3.toInt ≤ 20 → 0 ≤ s0.toInt → s0.toInt ≤ 1 → 0 ≤ s1.toInt → s1.toInt ≤ 1 → (21 - l3.toInt).toNat ≤ m_4 → Sf (fX7_areSame_25 N K f g k_4 l3 s0 s1) (fun (z : Int32) => 0 ≤ z.toInt ∧ z.toInt ≤ 1 ∧ True) := by
  intro l3 s0 s1 hq0 hq1 hq2 hq3 hq4 hq5 hq6
  unfold fX7_areSame_25
  have ql0 : (0 : Int32).toInt = 0 := by decide
  have ql1 : (1 : Int32).toInt = 1 := by decide
  have t101 := and01 (a := s1) (b := s0) (by omega) (by omega) (by omega) (by omega)
  have t2 := addI (a := l3) (b := (1 : Int32)) (by omega) (by omega)
  exact hk_4 _ _ (by omega) (by first | omega | decide) (by first | omega | decide) (by first | omega | decide) (by first | omega | decide)
set_option maxHeartbeats 2000000 in
theorem s_X7_areSame_4 {N K : Nat} {f : Nat → Int32} {g : Nat → Int32} (hN : NBig N) (hK : 100 ≤ K)  : ∀ (fu : Nat) (l2 : Int32) (l3 : Int32), (21 - l3.toInt).toNat < fu → 0 ≤ l2.toInt → l2.toInt ≤ 1 → 1 ≤ l3.toInt → l3.toInt ≤ 21 → Sf (fX7_areSame_4 N K f g  fu l2 l3) (fun (z : Int32) => 0 ≤ z.toInt ∧ z.toInt ≤ 1 ∧ True) := by
  intro fu
  induction fu with
  | zero => intro l2 l3 h0 hq0 hq1 hq2 hq3; omega
  | succ fu ih =>
    intro l2 l3 h0 hq0 hq1 hq2 hq3
    unfold fX7_areSame_4
    have ql0 : (0 : Int32).toInt = 0 := by decide
    have ql1 : (1 : Int32).toInt = 1 := by decide
    have ql20 : (20 : Int32).toInt = 20 := by decide
    refine sIf (fun h1 => ?_) (fun h1 => ?_)
    · have fh1 := ltT h1
      refine sIfT (b01 (by omega) (by omega)) ?_
      exact sRet ⟨(by show 0 ≤ l2.toInt; first | omega | assumption), (by show l2.toInt ≤ 1; first | omega | assumption), trivial⟩
    · have fh1 := ltF h1
      refine sIfF (noob (by omega) (by omega)) ?_
      refine sIfF (noob (by omega) (by omega)) ?_
      refine sIf (fun h2 => ?_) (fun h2 => ?_)
      · have fh2 := eqT h2
        exact s_X7_areSame_25 (hk_4 := ih) hN hK _ _ _ (by first | omega | decide) (by first | omega | decide) (by first | omega | decide) (by first | omega | decide) (by first | omega | decide) (by first | omega | decide) (by omega)
      · have fh2 := eqF h2
        exact s_X7_areSame_25 (hk_4 := ih) hN hK _ _ _ (by first | omega | decide) (by first | omega | decide) (by first | omega | decide) (by first | omega | decide) (by first | omega | decide) (by first | omega | decide) (by omega)
set_option maxHeartbeats 2000000 in
theorem s_X7_areSame {N K : Nat} {f : Nat → Int32} {g : Nat → Int32} (hN : NBig N) (hK : 100 ≤ K)  : Sf (fX7_areSame N K f g) (fun (z : Int32) => 0 ≤ z.toInt ∧ z.toInt ≤ 1 ∧ True) := by
  unfold fX7_areSame
  have hN9 := hN.u
  have ql0 : (0 : Int32).toInt = 0 := by decide
  have ql1 : (1 : Int32).toInt = 1 := by decide
  exact s_X7_areSame_4  hN hK _ _ _ (by omega) (by first | omega | decide) (by first | omega | decide) (by first | omega | decide) (by first | omega | decide)
theorem s_X7_firstWay {N K : Nat} {p0 : Int32} (hN : NBig N) (hK : 100 ≤ K) (hp0 : 0 ≤ p0.toInt) (hp1 : p0.toInt ≤ 20) : Sf (fX7_firstWay N K p0) (fun (z : (Nat → Int32)) => OkD z ∧ True) := by
  obtain ⟨n, rfl, -, h2⟩ := o_of (p := p0) (a := 0) (b := 20) (by omega) (by omega)
  obtain ⟨g, a, b⟩ := m_first (N := N) (K := K) h2
  exact ⟨g, a, ⟨_, b⟩, trivial⟩

theorem s_X7_isNext {N K : Nat} {f : Nat → Int32} (hN : NBig N) (hK : 100 ≤ K) (hp0 : OkD f) : Sf (fX7_isNext N K f) (fun (z : Int32 × (Nat → Int32)) => 0 ≤ z.1.toInt ∧ z.1.toInt ≤ 1 ∧ OkD z.2 ∧ True) := by
  have hN9 := hN.u
  obtain ⟨w, hw⟩ := hp0
  obtain ⟨g, a, b⟩ := m_step (N := N) (K := K) (by omega) hw
  exact ⟨_, a, if01.1, if01.2, ⟨_, b⟩, trivial⟩

/-- how far a way is from the last one -/
def muw (w : Nat → Nat) : Nat := sm (fun p => w p * 21 ^ p) 20
theorem mu_low {v : Nat → Nat} : ∀ {n : Nat}, (∀ q, 1 ≤ q → q ≤ n → v q ≤ 20) → sm (fun p => v p * 21 ^ p) n < 21 ^ (n + 1) := by
  intro n
  induction n with
  | zero => intro _; show 0 < 21 ^ 1; decide
  | succ n ih =>
    intro h
    have a := ih (fun q x y => h q x (by omega))
    have b := Nat.mul_le_mul_right (21 ^ (n + 1)) (h (n + 1) (by omega) (Nat.le_refl _))
    have c : 21 ^ (n + 1 + 1) = 21 ^ (n + 1) * 21 := Nat.pow_succ _ _
    show sm (fun p => v p * 21 ^ p) n + v (n + 1) * 21 ^ (n + 1) < _
    omega
theorem mu_up {v w : Nat → Nat} {p : Nat} : ∀ {n : Nat}, p ≤ n → (∀ q, p < q → q ≤ n → v q = w q) → sm (fun p => v p * 21 ^ p) p < sm (fun p => w p * 21 ^ p) p → sm (fun p => v p * 21 ^ p) n < sm (fun p => w p * 21 ^ p) n := by
  intro n
  induction n with
  | zero => intro h1 _ h3; obtain rfl : p = 0 := by omega
            exact h3
  | succ n ih =>
    intro h1 h2 h3
    by_cases e : p = n + 1
    · subst e; exact h3
    · have a := ih (by omega) (fun q x y => h2 q x (by omega)) h3
      have b := h2 (n + 1) (by omega) (Nat.le_refl _)
      show sm (fun p => v p * 21 ^ p) n + v (n + 1) * 21 ^ (n + 1) < sm (fun p => w p * 21 ^ p) n + w (n + 1) * 21 ^ (n + 1)
      rw [b]
      omega
theorem mu_lt {v w : Nat → Nat} {p : Nat} (h1 : 1 ≤ p) (h2 : p ≤ 20) (h3 : ∀ q, p < q → q ≤ 20 → v q = w q) (h4 : v p < w p) (h5 : ∀ q, 1 ≤ q → q < p → v q ≤ 20) : muw v < muw w := by
  refine mu_up h2 h3 ?_
  obtain ⟨n, rfl⟩ : ∃ n, p = n + 1 := ⟨p - 1, by omega⟩
  have a := mu_low (v := v) (n := n) (fun q x y => h5 q x (by omega))
  have b := Nat.mul_le_mul_right (21 ^ (n + 1)) (show v (n + 1) + 1 ≤ w (n + 1) from h4)
  rw [Nat.add_mul, Nat.one_mul] at b
  show sm (fun p => v p * 21 ^ p) n + v (n + 1) * 21 ^ (n + 1) < sm (fun p => w p * 21 ^ p) n + w (n + 1) * 21 ^ (n + 1)
  omega
theorem stw_hi {w : Nat → Nat} {p q : Nat} (h2 : 2 ≤ p) (h : p < q) : stw w p q = w q := by
  have lt : (p + w 1) % (p - 1) < p - 1 := Nat.mod_lt _ (by omega)
  unfold stw
  by_cases e : (p + w 1) % (p - 1) = 0
  · simp only [e, if_true]
    unfold stg upm
    rw [if_neg (by omega), if_neg (by omega), if_neg (by omega)]
  · simp only [e, if_false]
    unfold stg upm
    rw [if_neg (by omega), if_neg (by omega), if_neg (by omega), if_neg (by omega)]
theorem stw_at {w : Nat → Nat} {p : Nat} (h2 : 2 ≤ p) : stw w p p = w p - 1 := by
  have lt : (p + w 1) % (p - 1) < p - 1 := Nat.mod_lt _ (by omega)
  unfold stw
  by_cases e : (p + w 1) % (p - 1) = 0
  · simp only [e, if_true]
    unfold stg upm
    rw [if_neg (by omega), if_neg (by omega), if_pos rfl]
  · simp only [e, if_false]
    unfold stg upm
    rw [if_neg (by omega), if_neg (by omega), if_neg (by omega), if_pos rfl]
theorem mu_step {w : Nat → Nat} (hw : wn w ≤ 20) (h : ¬ lst w = 0) : muw (stw w (lst w)) < muw w := by
  rcases lst_is w with e | ⟨h2, h3, h1⟩
  · exact absurd e h
  · have hs : wn (stw w (lst w)) ≤ 20 := by rw [wn_stw h2 h3 h1]; exact hw
    refine mu_lt (p := lst w) (by omega) h3 (fun q a b => stw_hi h2 a) (by rw [stw_at h2]; omega) (fun q a b => ?_)
    exact Nat.le_trans (wn_le1 (w := stw w (lst w)) a (by omega)) hs
theorem mu_N {N : Nat} {w : Nat → Nat} (hN : NBig N) (hw : wn w ≤ 20) : muw w < N := by
  have a : muw w < 21 ^ (20 + 1) := mu_low (n := 20) (fun q x y => Nat.le_trans (wn_le1 x y) hw)
  have b : 21 ^ (20 + 1) ≤ 2 ^ 100 := by decide
  exact Nat.lt_of_lt_of_le a (Nat.le_trans b hN)
theorem walked_ {N K : Nat} {p0 p1 p2 : Int32} (hN : NBig N) (hK : 100 ≤ K) (hp0 : 0 ≤ p0.toInt) (hp1 : p0.toInt ≤ 7) (hp4 : 0 ≤ p2.toInt) (hp5 : p2.toInt ≤ 20) : ∀ (fu : Nat) (l4 : Int32) (e : Nat → Int32) (w : Nat → Nat), Dk e w → muw w < fu → Sf (fX7_walked_8 N K p0 p1 p2 fu l4 e) (fun (z : Int32) => True) := by
  have hN9 := hN.u
  intro fu
  induction fu with
  | zero => intro l4 e w _ h; omega
  | succ fu ih =>
    intro l4 e w hw h
    unfold fX7_walked_8
    refine sBind (s_X7_isOfKind hN hK (by omega) (by omega) (by omega) (by omega)) (fun x13 y13 => ?_)
    refine sBind (s_X7_bit hN hK (by omega) (by omega)) (fun x16 _ => ?_)
    obtain ⟨g, a, b⟩ := m_step (N := N) (K := K) (by omega) hw
    rw [a, Option.bind_some]
    refine sIf (fun _ => sRet trivial) (fun h9 => ?_)
    have hl : ¬ lst w = 0 := fun z => h9 (by show (if lst w = 0 then 0 else 1 : Int32) = 0; rw [if_pos z])
    rw [if_neg hl] at b
    have c := mu_step hw.1 hl
    exact ih _ _ _ b (by omega)
theorem s_X7_walked {N K : Nat} {p0 : Int32} {p1 : Int32} {p2 : Int32} (hN : NBig N) (hK : 100 ≤ K) (hp0 : 0 ≤ p0.toInt) (hp1 : p0.toInt ≤ 7) (hp2 : 0 ≤ p1.toInt) (hp3 : p1.toInt ≤ 20) (hp4 : 0 ≤ p2.toInt) (hp5 : p2.toInt ≤ 20) : Sf (fX7_walked N K p0 p1 p2) (fun (z : Int32) => True) := by
  obtain ⟨n, rfl, -, h2⟩ := o_of (p := p1) (a := 0) (b := 20) (by omega) (by omega)
  obtain ⟨g, a, b⟩ := m_first (N := N) (K := K) h2
  unfold fX7_walked
  rw [a, Option.bind_some]
  exact walked_ hN hK hp0 hp1 hp4 hp5 N 0 g _ b (mu_N hN b.1)

set_option maxHeartbeats 2000000 in
theorem s_X7_know {N K : Nat} {th : Int32} {f : Nat → Int32} {t : Nat → Int32} {u : Nat → Int32} {p0 : Int32} {p1 : Int32} {p2 : Int32} {p3 : Int32} (hN : NBig N) (hK : 100 ≤ K)  : Sf (fX7_know N K th f t u p0 p1 p2 p3) (fun (z : Int32 × Int32 × (Nat → Int32) × (Nat → Int32) × (Nat → Int32)) => 0 ≤ z.2.1.toInt ∧ z.2.1.toInt ≤ 2 ∧ True) := by
  unfold fX7_know
  have ql0 : (0 : Int32).toInt = 0 := by decide
  have ql2 : (2 : Int32).toInt = 2 := by decide
  refine sBind (s_X7_isNo hN hK (by first | omega | decide) (by first | omega | decide) (by first | omega | decide) (by first | omega | decide)) (fun x4 b1 => ?_)
  obtain ⟨b1_0, b1_1, b1_2, -⟩ := b1
  replace b1_0 : 0 ≤ x4.toInt := b1_0
  replace b1_1 : x4.toInt ≤ 1 := b1_1
  replace b1_2 : (x4.toInt = 0 → ((0 : Int32).toInt ≤ p0.toInt ∧ p0.toInt ≤ (2 : Int32).toInt)) := b1_2
  refine sBind (s_X7_isOut hN hK) (fun x11 b2 => ?_)
  obtain ⟨b2_0, b2_1, b2_2, b2_3, b2_4, -⟩ := b2
  replace b2_0 : 0 ≤ x11.toInt := b2_0
  replace b2_1 : x11.toInt ≤ 1 := b2_1
  replace b2_2 : (x11.toInt = 0 → (0 ≤ p1.toInt ∧ p1.toInt ≤ 5)) := b2_2
  replace b2_3 : (x11.toInt = 0 → (0 ≤ p2.toInt ∧ p2.toInt ≤ 20)) := b2_3
  replace b2_4 : (x11.toInt = 0 → (0 ≤ p3.toInt ∧ p3.toInt ≤ 20)) := b2_4
  refine sBind (s_X7_isThrown hN hK (by first | omega | decide) (by first | omega | decide) (by first | omega | decide) (by first | omega | decide)) (fun x14 b3 => ?_)
  obtain ⟨b3_0, b3_1, b3_2, b3_3, b3_4, b3_5, -⟩ := b3
  replace b3_0 : 0 ≤ x14.1.toInt := b3_0
  replace b3_1 : x14.1.toInt ≤ 1 := b3_1
  replace b3_2 : 0 ≤ x14.2.toInt := b3_2
  replace b3_3 : x14.2.toInt ≤ 2 := b3_3
  replace b3_4 : (x14.1.toInt = 0 → (0 ≤ x4.toInt ∧ x4.toInt ≤ 0)) := b3_4
  replace b3_5 : (x14.1.toInt = 0 → (0 ≤ x11.toInt ∧ x11.toInt ≤ 0)) := b3_5
  refine sIf (fun h4 => ?_) (fun h4 => ?_)
  · have fh4 := eqT h4
    refine sBind (s_X7_known hN hK (by first | omega | decide) (by first | omega | decide) (by first | omega | decide) (by first | omega | decide) (by first | omega | decide) (by first | omega | decide) (by first | omega | decide) (by first | omega | decide) (by first | omega | decide) (by first | omega | decide)) (fun x29 b5 => ?_)
    refine sBind (s_X7_done hN hK (by first | omega | decide) (by first | omega | decide)) (fun x32 b6 => ?_)
    exact sRet ⟨(by show 0 ≤ x14.2.toInt; first | omega | assumption), (by show x14.2.toInt ≤ 2; first | omega | assumption), trivial⟩
  · have fh4 := eqF h4
    exact sRet ⟨(by show 0 ≤ x14.2.toInt; first | omega | assumption), (by show x14.2.toInt ≤ 2; first | omega | assumption), trivial⟩
set_option maxHeartbeats 2000000 in
theorem s_X7_few_46 {N K : Nat} {th : Int32} {f : Nat → Int32} {t : Nat → Int32} {u : Nat → Int32} {p0 : Int32} {p1 : Int32} {p2 : Int32} (hN : NBig N) (hK : 100 ≤ K)  : ∀ (fu : Nat) (l4 : Int32) (l5 : Int32) (th_ : Int32) (f_ : (Nat → Int32)) (t_ : (Nat → Int32)) (u_ : (Nat → Int32)), (21 - l5.toInt).toNat < fu → 0 ≤ p0.toInt → p0.toInt ≤ 2 → 0 ≤ p1.toInt → p1.toInt ≤ 20 → 0 ≤ p2.toInt → p2.toInt ≤ 20 → 0 ≤ l5.toInt → l5.toInt ≤ 21 → 0 ≤ th_.toInt → th_.toInt ≤ 2 → Sf (fX7_few_46 N K th f t u p0 p1 p2  fu l4 l5 th_ f_ t_ u_) (fun (z : Int32 × Int32 × (Nat → Int32) × (Nat → Int32) × (Nat → Int32)) => 0 ≤ z.2.1.toInt ∧ z.2.1.toInt ≤ 2 ∧ True) := by
  intro fu
  induction fu with
  | zero => intro l4 l5 th_ f_ t_ u_ h0 hq0 hq1 hq2 hq3 hq4 hq5 hq6 hq7 hq8 hq9; omega
  | succ fu ih =>
    intro l4 l5 th_ f_ t_ u_ h0 hq0 hq1 hq2 hq3 hq4 hq5 hq6 hq7 hq8 hq9
    unfold fX7_few_46
    have ql0 : (0 : Int32).toInt = 0 := by decide
    have ql1 : (1 : Int32).toInt = 1 := by decide
    refine sIf (fun h1 => ?_) (fun h1 => ?_)
    · have fh1 := ltT h1
      refine sBind (s_X7_done hN hK (by first | omega | decide) (by first | omega | decide)) (fun x75 b2 => ?_)
      exact sRet ⟨(by show 0 ≤ th_.toInt; first | omega | assumption), (by show th_.toInt ≤ 2; first | omega | assumption), trivial⟩
    · have fh1 := ltF h1
      refine sBind (s_X7_known hN hK (by first | omega | decide) (by first | omega | decide) (by first | omega | decide) (by first | omega | decide) (by first | omega | decide) (by first | omega | decide) (by first | omega | decide) (by first | omega | decide) (by first | omega | decide) (by first | omega | decide)) (fun x60 b3 => ?_)
      have t5 := addI (a := l5) (b := (1 : Int32)) (by omega) (by omega)
      exact ih _ _ _ _ _ _ (by omega) (by first | omega | decide) (by first | omega | decide) (by first | omega | decide) (by first | omega | decide) (by first | omega | decide) (by first | omega | decide) (by first | omega | decide) (by first | omega | decide) (by first | omega | decide) (by first | omega | decide)
set_option maxHeartbeats 2000000 in
theorem s_X7_few_32 {N K : Nat} {th : Int32} {f : Nat → Int32} {t : Nat → Int32} {u : Nat → Int32} {p0 : Int32} {p1 : Int32} {p2 : Int32} (hN : NBig N) (hK : 100 ≤ K)  : ∀ (s0 : Int32) (s1 : Int32) (th_ : Int32) (f_ : Nat → Int32) (t_ : Nat → Int32) (u_ : Nat → Int32), 0 ≤ s0.toInt → s0.toInt ≤ 1 → 0 ≤ s1.toInt → s1.toInt ≤ 1 → (s0.toInt = 0 → 0 ≤ p1.toInt ∧ p1.toInt ≤ 20 ∧ 0 ≤ p2.toInt ∧ p2.toInt ≤ 20) → (s1.toInt = 0 → 0 ≤ p0.toInt ∧ p0.toInt ≤ 2) → Sf (fX7_few_32 N K th f t u p0 p1 p2  s0 s1 th_ f_ t_ u_) (fun (z : Int32 × Int32 × (Nat → Int32) × (Nat → Int32) × (Nat → Int32)) => 0 ≤ z.2.1.toInt ∧ z.2.1.toInt ≤ 2 ∧ True) := by
  intro s0 s1 th_ f_ t_ u_ hq0 hq1 hq2 hq3 hq4 hq5
  unfold fX7_few_32
  have hN9 := hN.u
  have ql0 : (0 : Int32).toInt = 0 := by decide
  refine sBind (s_X7_isThrown hN hK (by first | omega | decide) (by first | omega | decide) (by first | omega | decide) (by first | omega | decide)) (fun x32 b1 => ?_)
  obtain ⟨b1_0, b1_1, b1_2, b1_3, b1_4, b1_5, -⟩ := b1
  replace b1_0 : 0 ≤ x32.1.toInt := b1_0
  replace b1_1 : x32.1.toInt ≤ 1 := b1_1
  replace b1_2 : 0 ≤ x32.2.toInt := b1_2
  replace b1_3 : x32.2.toInt ≤ 2 := b1_3
  replace b1_4 : (x32.1.toInt = 0 → (0 ≤ s1.toInt ∧ s1.toInt ≤ 0)) := b1_4
  replace b1_5 : (x32.1.toInt = 0 → (0 ≤ s0.toInt ∧ s0.toInt ≤ 0)) := b1_5
  refine sIf (fun h2 => ?_) (fun h2 => ?_)
  · have fh2 := eqT h2
    exact s_X7_few_46  hN hK _ _ _ _ _ _ _ (by omega) (by first | omega | decide) (by first | omega | decide) (by first | omega | decide) (by first | omega | decide) (by first | omega | decide) (by first | omega | decide) (by first | omega | decide) (by first | omega | decide) (by first | omega | decide) (by first | omega | decide)
  · have fh2 := eqF h2
    exact sRet ⟨(by show 0 ≤ x32.2.toInt; first | omega | assumption), (by show x32.2.toInt ≤ 2; first | omega | assumption), trivial⟩
set_option maxHeartbeats 2000000 in
theorem s_X7_few_27 {N K : Nat} {th : Int32} {f : Nat → Int32} {t : Nat → Int32} {u : Nat → Int32} {p0 : Int32} {p1 : Int32} {p2 : Int32} (hN : NBig N) (hK : 100 ≤ K)  : ∀ (s0 : Int32) (th_ : Int32) (f_ : Nat → Int32) (t_ : Nat → Int32) (u_ : Nat → Int32), 0 ≤ s0.toInt → s0.toInt ≤ 1 → (s0.toInt = 0 → 0 ≤ p0.toInt ∧ p0.toInt ≤ 2) → Sf (fX7_few_27 N K th f t u p0 p1 p2  s0 th_ f_ t_ u_) (fun (z : Int32 × Int32 × (Nat → Int32) × (Nat → Int32) × (Nat → Int32)) => 0 ≤ z.2.1.toInt ∧ z.2.1.toInt ≤ 2 ∧ True) := by
  intro s0 th_ f_ t_ u_ hq0 hq1 hq2
  unfold fX7_few_27
  have ql0 : (0 : Int32).toInt = 0 := by decide
  have ql1 : (1 : Int32).toInt = 1 := by decide
  exact s_X7_few_32  hN hK _ _ _ _ _ _ (by first | omega | decide) (by first | omega | decide) (by first | omega | decide) (by first | omega | decide) (by first | omega | decide) (by first | omega | decide)
set_option maxHeartbeats 2000000 in
theorem s_X7_few {N K : Nat} {th : Int32} {f : Nat → Int32} {t : Nat → Int32} {u : Nat → Int32} {p0 : Int32} {p1 : Int32} {p2 : Int32} (hN : NBig N) (hK : 100 ≤ K)  : Sf (fX7_few N K th f t u p0 p1 p2) (fun (z : Int32 × Int32 × (Nat → Int32) × (Nat → Int32) × (Nat → Int32)) => 0 ≤ z.2.1.toInt ∧ z.2.1.toInt ≤ 2 ∧ True) := by
  unfold fX7_few
  have ql0 : (0 : Int32).toInt = 0 := by decide
  have ql2 : (2 : Int32).toInt = 2 := by decide
  have ql20 : (20 : Int32).toInt = 20 := by decide
  refine sBind (s_X7_isNo hN hK (by first | omega | decide) (by first | omega | decide) (by first | omega | decide) (by first | omega | decide)) (fun x4 b1 => ?_)
  obtain ⟨b1_0, b1_1, b1_2, -⟩ := b1
  replace b1_0 : 0 ≤ x4.toInt := b1_0
  replace b1_1 : x4.toInt ≤ 1 := b1_1
  replace b1_2 : (x4.toInt = 0 → ((0 : Int32).toInt ≤ p0.toInt ∧ p0.toInt ≤ (2 : Int32).toInt)) := b1_2
  refine sBind (s_X7_isNo hN hK (by first | omega | decide) (by first | omega | decide) (by first | omega | decide) (by first | omega | decide)) (fun x11 b2 => ?_)
  obtain ⟨b2_0, b2_1, b2_2, -⟩ := b2
  replace b2_0 : 0 ≤ x11.toInt := b2_0
  replace b2_1 : x11.toInt ≤ 1 := b2_1
  replace b2_2 : (x11.toInt = 0 → ((0 : Int32).toInt ≤ p1.toInt ∧ p1.toInt ≤ (20 : Int32).toInt)) := b2_2
  refine sIf (fun h3 => ?_) (fun h3 => ?_)
  · have fh3 := eqT h3
    refine sBind (s_X7_isNo hN hK (by first | omega | decide) (by first | omega | decide) (by first | omega | decide) (by first | omega | decide)) (fun x21 b4 => ?_)
    obtain ⟨b4_0, b4_1, b4_2, -⟩ := b4
    replace b4_0 : 0 ≤ x21.toInt := b4_0
    replace b4_1 : x21.toInt ≤ 1 := b4_1
    replace b4_2 : (x21.toInt = 0 → ((0 : Int32).toInt ≤ p2.toInt ∧ p2.toInt ≤ (20 : Int32).toInt)) := b4_2
    refine sIf (fun h5 => ?_) (fun h5 => ?_)
    · have fh5 := eqT h5
      exact s_X7_few_32  hN hK _ _ _ _ _ _ (by first | omega | decide) (by first | omega | decide) (by first | omega | decide) (by first | omega | decide) (by first | omega | decide) (by first | omega | decide)
    · have fh5 := eqF h5
      exact s_X7_few_27  hN hK _ _ _ _ _ (by first | omega | decide) (by first | omega | decide) (by first | omega | decide)
  · have fh3 := eqF h3
    exact s_X7_few_27  hN hK _ _ _ _ _ (by first | omega | decide) (by first | omega | decide) (by first | omega | decide)
set_option maxHeartbeats 2000000 in
theorem s_X7_surplus_46 {N K : Nat} {th : Int32} {f : Nat → Int32} {t : Nat → Int32} {u : Nat → Int32} {p0 : Int32} {p1 : Int32} (hN : NBig N) (hK : 100 ≤ K)  {k_27 : Int32 → Int32 → Int32 → (Nat → Int32) → (Nat → Int32) → (Nat → Int32) → Option (Int32 × Int32 × (Nat → Int32) × (Nat → Int32) × (Nat → Int32))} {m_27 : Nat} (hk_27 : ∀ (l3 : Int32) (l4 : Int32) (th_ : Int32) (f_ : (Nat → Int32)) (t_ : (Nat → Int32)) (u_ : (Nat → Int32)), (21 - l4.toInt).toNat < m_27 → 0 ≤ p0.toInt → p0.toInt ≤ 2 → 0 ≤ p1.toInt → p1.toInt ≤ 20 → 0 ≤ l4.toInt → l4.toInt ≤ 21 → 0 ≤ th_.toInt → th_.toInt ≤ 2 → Sf (k_27 l3 l4 th_ f_ t_ u_) (fun (z : Int32 × Int32 × (Nat → Int32) × (Nat → Int32) × (Nat → Int32)) => 0 ≤ z.2.1.toInt ∧ z.2.1.toInt ≤ 2 ∧ True)) : ∀ (l4 : Int32) (s0 : Int32) (s1 : Int32) (th_ : Int32) (f_ : Nat → Int32) (t_ : Nat → Int32) (u_ : Nat → Int32), 0 ≤ p0.toInt → p0.toInt ≤ 2 → 0 ≤ p1.toInt → p1.toInt ≤ 20 → 0 ≤ l4.toInt → l4.toInt ≤ 20 → -1 ≤ s0.toInt → s0.toInt ≤ 1 → 0 ≤ th_.toInt → th_.toInt ≤ 2 → (s0.toInt = 0 → 0 ≤ p0.toInt ∧ p0.toInt ≤ 2 ∧ 0 ≤ p1.toInt ∧ p1.toInt ≤ 20) → (s1.toInt = 0 → 0 ≤ p0.toInt ∧ p0.toInt ≤ 2 ∧ 0 ≤ p1.toInt ∧ p1.toInt ≤ 20) → (21 - l4.toInt).toNat ≤ m_27 → Sf (fX7_surplus_46 N K th f t u p0 p1 k_27 l4 s0 s1 th_ f_ t_ u_) (fun (z : Int32 × Int32 × (Nat → Int32) × (Nat → Int32) × (Nat → Int32)) => 0 ≤ z.2.1.toInt ∧ z.2.1.toInt ≤ 2 ∧ True) := by
  intro l4 s0 s1 th_ f_ t_ u_ hq0 hq1 hq2 hq3 hq4 hq5 hq6 hq7 hq8 hq9 hq10 hq11 hq12
  unfold fX7_surplus_46
  have ql0 : (0 : Int32).toInt = 0 := by decide
  have ql1 : (1 : Int32).toInt = 1 := by decide
  have ql5 : (5 : Int32).toInt = 5 := by decide
  refine sBind (s_X7_known hN hK (by first | omega | decide) (by first | omega | decide) (by first | omega | decide) (by first | omega | decide) (by first | omega | decide) (by first | omega | decide) (by first | omega | decide) (by first | omega | decide) (by first | omega | decide) (by first | omega | decide)) (fun x52 b1 => ?_)
  have t3 := addI (a := l4) (b := (1 : Int32)) (by omega) (by omega)
  exact hk_27 _ _ _ _ _ _ (by omega) (by first | omega | decide) (by first | omega | decide) (by first | omega | decide) (by first | omega | decide) (by first | omega | decide) (by first | omega | decide) (by first | omega | decide) (by first | omega | decide)
set_option maxHeartbeats 2000000 in
theorem s_X7_surplus_27 {N K : Nat} {th : Int32} {f : Nat → Int32} {t : Nat → Int32} {u : Nat → Int32} {p0 : Int32} {p1 : Int32} (hN : NBig N) (hK : 100 ≤ K)  : ∀ (fu : Nat) (l3 : Int32) (l4 : Int32) (th_ : Int32) (f_ : (Nat → Int32)) (t_ : (Nat → Int32)) (u_ : (Nat → Int32)), (21 - l4.toInt).toNat < fu → 0 ≤ p0.toInt → p0.toInt ≤ 2 → 0 ≤ p1.toInt → p1.toInt ≤ 20 → 0 ≤ l4.toInt → l4.toInt ≤ 21 → 0 ≤ th_.toInt → th_.toInt ≤ 2 → Sf (fX7_surplus_27 N K th f t u p0 p1  fu l3 l4 th_ f_ t_ u_) (fun (z : Int32 × Int32 × (Nat → Int32) × (Nat → Int32) × (Nat → Int32)) => 0 ≤ z.2.1.toInt ∧ z.2.1.toInt ≤ 2 ∧ True) := by
  intro fu
  induction fu with
  | zero => intro l3 l4 th_ f_ t_ u_ h0 hq0 hq1 hq2 hq3 hq4 hq5 hq6 hq7; omega
  | succ fu ih =>
    intro l3 l4 th_ f_ t_ u_ h0 hq0 hq1 hq2 hq3 hq4 hq5 hq6 hq7
    unfold fX7_surplus_27
    have ql0 : (0 : Int32).toInt = 0 := by decide
    have ql1 : (1 : Int32).toInt = 1 := by decide
    have ql2 : (2 : Int32).toInt = 2 := by decide
    refine sIf (fun h1 => ?_) (fun h1 => ?_)
    · have fh1 := ltT h1
      refine sBind (s_X7_done hN hK (by first | omega | decide) (by first | omega | decide)) (fun x66 b2 => ?_)
      exact sRet ⟨(by show 0 ≤ th_.toInt; first | omega | assumption), (by show th_.toInt ≤ 2; first | omega | assumption), trivial⟩
    · have fh1 := ltF h1
      refine sIf (fun h3 => ?_) (fun h3 => ?_)
      · have t4 := modL (a := l4) (b := (2 : Int32)) ql2 (by omega)
        have fh3 := eqT h3
        exact s_X7_surplus_46 (hk_27 := ih) hN hK _ _ _ _ _ _ _ (by first | omega | decide) (by first | omega | decide) (by first | omega | decide) (by first | omega | decide) (by first | omega | decide) (by first | omega | decide) (by first | omega | decide) (by first | omega | decide) (by first | omega | decide) (by first | omega | decide) (by first | omega | decide) (by first | omega | decide) (by omega)
      · have t5 := modL (a := l4) (b := (2 : Int32)) ql2 (by omega)
        have fh3 := eqF h3
        exact s_X7_surplus_46 (hk_27 := ih) hN hK _ _ _ _ _ _ _ (by first | omega | decide) (by first | omega | decide) (by first | omega | decide) (by first | omega | decide) (by first | omega | decide) (by first | omega | decide) (by first | omega | decide) (by first | omega | decide) (by first | omega | decide) (by first | omega | decide) (by first | omega | decide) (by first | omega | decide) (by omega)
set_option maxHeartbeats 2000000 in
theorem s_X7_surplus {N K : Nat} {th : Int32} {f : Nat → Int32} {t : Nat → Int32} {u : Nat → Int32} {p0 : Int32} {p1 : Int32} (hN : NBig N) (hK : 100 ≤ K)  : Sf (fX7_surplus N K th f t u p0 p1) (fun (z : Int32 × Int32 × (Nat → Int32) × (Nat → Int32) × (Nat → Int32)) => 0 ≤ z.2.1.toInt ∧ z.2.1.toInt ≤ 2 ∧ True) := by
  unfold fX7_surplus
  have hN9 := hN.u
  have ql0 : (0 : Int32).toInt = 0 := by decide
  have ql2 : (2 : Int32).toInt = 2 := by decide
  have ql20 : (20 : Int32).toInt = 20 := by decide
  refine sBind (s_X7_isNo hN hK (by first | omega | decide) (by first | omega | decide) (by first | omega | decide) (by first | omega | decide)) (fun x4 b1 => ?_)
  obtain ⟨b1_0, b1_1, b1_2, -⟩ := b1
  replace b1_0 : 0 ≤ x4.toInt := b1_0
  replace b1_1 : x4.toInt ≤ 1 := b1_1
  replace b1_2 : (x4.toInt = 0 → ((0 : Int32).toInt ≤ p0.toInt ∧ p0.toInt ≤ (2 : Int32).toInt)) := b1_2
  refine sBind (s_X7_isNo hN hK (by first | omega | decide) (by first | omega | decide) (by first | omega | decide) (by first | omega | decide)) (fun x11 b2 => ?_)
  obtain ⟨b2_0, b2_1, b2_2, -⟩ := b2
  replace b2_0 : 0 ≤ x11.toInt := b2_0
  replace b2_1 : x11.toInt ≤ 1 := b2_1
  replace b2_2 : (x11.toInt = 0 → ((0 : Int32).toInt ≤ p1.toInt ∧ p1.toInt ≤ (20 : Int32).toInt)) := b2_2
  refine sBind (s_X7_isThrown hN hK (by first | omega | decide) (by first | omega | decide) (by first | omega | decide) (by first | omega | decide)) (fun x14 b3 => ?_)
  obtain ⟨b3_0, b3_1, b3_2, b3_3, b3_4, b3_5, -⟩ := b3
  replace b3_0 : 0 ≤ x14.1.toInt := b3_0
  replace b3_1 : x14.1.toInt ≤ 1 := b3_1
  replace b3_2 : 0 ≤ x14.2.toInt := b3_2
  replace b3_3 : x14.2.toInt ≤ 2 := b3_3
  replace b3_4 : (x14.1.toInt = 0 → (0 ≤ x4.toInt ∧ x4.toInt ≤ 0)) := b3_4
  replace b3_5 : (x14.1.toInt = 0 → (0 ≤ x11.toInt ∧ x11.toInt ≤ 0)) := b3_5
  refine sIf (fun h4 => ?_) (fun h4 => ?_)
  · have fh4 := eqT h4
    exact s_X7_surplus_27  hN hK _ _ _ _ _ _ _ (by omega) (by first | omega | decide) (by first | omega | decide) (by first | omega | decide) (by first | omega | decide) (by first | omega | decide) (by first | omega | decide) (by first | omega | decide) (by first | omega | decide)
  · have fh4 := eqF h4
    exact sRet ⟨(by show 0 ≤ x14.2.toInt; first | omega | assumption), (by show x14.2.toInt ≤ 2; first | omega | assumption), trivial⟩
set_option maxHeartbeats 2000000 in
theorem s_X7_place_69 {N K : Nat} {th : Int32} {f : Nat → Int32} {fd : Nat → Int32} {t : Nat → Int32} {u : Nat → Int32} {p0 : Int32} {p1 : Int32} (hN : NBig N) (hK : 100 ≤ K) (hp0 : OkD fd) {k_53 : Int32 → Int32 → Int32 → Int32 → Int32 → (Nat → Int32) → (Nat → Int32) → (Nat → Int32) → Option (Int32 × Int32 × (Nat → Int32) × (Nat → Int32) × (Nat → Int32))} {m_53 : Nat} (hk_53 : ∀ (l3 : Int32) (l4 : Int32) (l5 : Int32) (l6 : Int32) (th_ : Int32) (f_ : (Nat → Int32)) (t_ : (Nat → Int32)) (u_ : (Nat → Int32)), (l6.toInt - 0).toNat < m_53 → 0 ≤ p0.toInt → p0.toInt ≤ 2 → 0 ≤ p1.toInt → p1.toInt ≤ 1 → -8400 ≤ l3.toInt → l3.toInt ≤ 20 → 0 ≤ l4.toInt → l4.toInt ≤ 20 → 0 ≤ l6.toInt → l6.toInt ≤ 20 → 0 ≤ th_.toInt → th_.toInt ≤ 2 → -400 * (20 - l6.toInt) ≤ l3.toInt → Sf (k_53 l3 l4 l5 l6 th_ f_ t_ u_) (fun (z : Int32 × Int32 × (Nat → Int32) × (Nat → Int32) × (Nat → Int32)) => 0 ≤ z.2.1.toInt ∧ z.2.1.toInt ≤ 2 ∧ True)) : ∀ (fu : Nat) (l3 : Int32) (l4 : Int32) (l5 : Int32) (l6 : Int32) (l7 : Int32) (th_ : Int32) (f_ : (Nat → Int32)) (t_ : (Nat → Int32)) (u_ : (Nat → Int32)), (l7.toInt - 0).toNat < fu → 0 ≤ p0.toInt → p0.toInt ≤ 2 → 0 ≤ p1.toInt → p1.toInt ≤ 1 → -8400 ≤ l3.toInt → l3.toInt ≤ 20 → 0 ≤ l4.toInt → l4.toInt ≤ 20 → 1 ≤ l6.toInt → l6.toInt ≤ 20 → 0 ≤ l7.toInt → l7.toInt ≤ 20 → 0 ≤ th_.toInt → th_.toInt ≤ 2 → -400 * (20 - l6.toInt) - 20 * (20 - l7.toInt) ≤ l3.toInt → (l6.toInt - 0).toNat ≤ m_53 → Sf (fX7_place_69 N K th f fd t u p0 p1 k_53 fu l3 l4 l5 l6 l7 th_ f_ t_ u_) (fun (z : Int32 × Int32 × (Nat → Int32) × (Nat → Int32) × (Nat → Int32)) => 0 ≤ z.2.1.toInt ∧ z.2.1.toInt ≤ 2 ∧ True) := by
  intro fu
  induction fu with
  | zero => intro l3 l4 l5 l6 l7 th_ f_ t_ u_ h0 hq0 hq1 hq2 hq3 hq4 hq5 hq6 hq7 hq8 hq9 hq10 hq11 hq12 hq13 hq14 hq15; omega
  | succ fu ih =>
    intro l3 l4 l5 l6 l7 th_ f_ t_ u_ h0 hq0 hq1 hq2 hq3 hq4 hq5 hq6 hq7 hq8 hq9 hq10 hq11 hq12 hq13 hq14 hq15
    unfold fX7_place_69
    have ql0 : (0 : Int32).toInt = 0 := by decide
    refine sIf (fun h1 => ?_) (fun h1 => ?_)
    · have fh1 := leT h1
      have t2 : (l6 + (-1 : Int32)).toInt = l6.toInt + (-1) := addL (by decide) (by omega) (by omega)
      exact hk_53 _ _ _ _ _ _ _ _ (by (try generalize l6 + (-1 : Int32) = d0_ at *); omega) (by (try generalize l6 + (-1 : Int32) = d0_ at *); first | omega | decide) (by (try generalize l6 + (-1 : Int32) = d0_ at *); first | omega | decide) (by (try generalize l6 + (-1 : Int32) = d0_ at *); first | omega | decide) (by (try generalize l6 + (-1 : Int32) = d0_ at *); first | omega | decide) (by (try generalize l6 + (-1 : Int32) = d0_ at *); first | omega | decide) (by (try generalize l6 + (-1 : Int32) = d0_ at *); first | omega | decide) (by (try generalize l6 + (-1 : Int32) = d0_ at *); first | omega | decide) (by (try generalize l6 + (-1 : Int32) = d0_ at *); first | omega | decide) (by (try generalize l6 + (-1 : Int32) = d0_ at *); first | omega | decide) (by (try generalize l6 + (-1 : Int32) = d0_ at *); first | omega | decide) (by (try generalize l6 + (-1 : Int32) = d0_ at *); first | omega | decide) (by (try generalize l6 + (-1 : Int32) = d0_ at *); first | omega | decide) (by (try generalize l6 + (-1 : Int32) = d0_ at *); omega)
    · have fh1 := leF h1
      refine sBind (s_X7_known hN hK (by first | omega | decide) (by first | omega | decide) (by first | omega | decide) (by first | omega | decide) (by first | omega | decide) (by first | omega | decide) (by first | omega | decide) (by first | omega | decide) (by first | omega | decide) (by first | omega | decide)) (fun x82 b3 => ?_)
      refine sBind (s_X7_known hN hK (by first | omega | decide) (by first | omega | decide) (by first | omega | decide) (by first | omega | decide) (by first | omega | decide) (by first | omega | decide) (by first | omega | decide) (by first | omega | decide) (by first | omega | decide) (by first | omega | decide)) (fun x96 b4 => ?_)
      have t5 := subI (a := l3) (b := l6) (by omega) (by omega)
      have t7 : (l7 + (-1 : Int32)).toInt = l7.toInt + (-1) := addL (by decide) (by omega) (by omega)
      exact ih _ _ _ _ _ _ _ _ _ (by (try generalize l7 + (-1 : Int32) = d0_ at *); omega) (by (try generalize l7 + (-1 : Int32) = d0_ at *); first | omega | decide) (by (try generalize l7 + (-1 : Int32) = d0_ at *); first | omega | decide) (by (try generalize l7 + (-1 : Int32) = d0_ at *); first | omega | decide) (by (try generalize l7 + (-1 : Int32) = d0_ at *); first | omega | decide) (by (try generalize l7 + (-1 : Int32) = d0_ at *); first | omega | decide) (by (try generalize l7 + (-1 : Int32) = d0_ at *); first | omega | decide) (by (try generalize l7 + (-1 : Int32) = d0_ at *); first | omega | decide) (by (try generalize l7 + (-1 : Int32) = d0_ at *); first | omega | decide) (by (try generalize l7 + (-1 : Int32) = d0_ at *); first | omega | decide) (by (try generalize l7 + (-1 : Int32) = d0_ at *); first | omega | decide) (by (try generalize l7 + (-1 : Int32) = d0_ at *); first | omega | decide) (by (try generalize l7 + (-1 : Int32) = d0_ at *); first | omega | decide) (by (try generalize l7 + (-1 : Int32) = d0_ at *); first | omega | decide) (by (try generalize l7 + (-1 : Int32) = d0_ at *); first | omega | decide) (by (try generalize l7 + (-1 : Int32) = d0_ at *); omega) (by (try generalize l7 + (-1 : Int32) = d0_ at *); omega)
set_option maxHeartbeats 2000000 in
theorem s_X7_place_53 {N K : Nat} {th : Int32} {f : Nat → Int32} {fd : Nat → Int32} {t : Nat → Int32} {u : Nat → Int32} {p0 : Int32} {p1 : Int32} (hN : NBig N) (hK : 100 ≤ K) (hp0 : OkD fd) : ∀ (fu : Nat) (l3 : Int32) (l4 : Int32) (l5 : Int32) (l6 : Int32) (th_ : Int32) (f_ : (Nat → Int32)) (t_ : (Nat → Int32)) (u_ : (Nat → Int32)), (l6.toInt - 0).toNat < fu → 0 ≤ p0.toInt → p0.toInt ≤ 2 → 0 ≤ p1.toInt → p1.toInt ≤ 1 → -8400 ≤ l3.toInt → l3.toInt ≤ 20 → 0 ≤ l4.toInt → l4.toInt ≤ 20 → 0 ≤ l6.toInt → l6.toInt ≤ 20 → 0 ≤ th_.toInt → th_.toInt ≤ 2 → -400 * (20 - l6.toInt) ≤ l3.toInt → Sf (fX7_place_53 N K th f fd t u p0 p1  fu l3 l4 l5 l6 th_ f_ t_ u_) (fun (z : Int32 × Int32 × (Nat → Int32) × (Nat → Int32) × (Nat → Int32)) => 0 ≤ z.2.1.toInt ∧ z.2.1.toInt ≤ 2 ∧ True) := by
  intro fu
  induction fu with
  | zero => intro l3 l4 l5 l6 th_ f_ t_ u_ h0 hq0 hq1 hq2 hq3 hq4 hq5 hq6 hq7 hq8 hq9 hq10 hq11 hq12; omega
  | succ fu ih =>
    intro l3 l4 l5 l6 th_ f_ t_ u_ h0 hq0 hq1 hq2 hq3 hq4 hq5 hq6 hq7 hq8 hq9 hq10 hq11 hq12
    unfold fX7_place_53
    have hN9 := hN.u
    have ql0 : (0 : Int32).toInt = 0 := by decide
    refine sIf (fun h1 => ?_) (fun h1 => ?_)
    · have fh1 := leT h1
      refine sBind (s_X7_done hN hK (by first | omega | decide) (by first | omega | decide)) (fun x126 b2 => ?_)
      exact sRet ⟨(by show 0 ≤ th_.toInt; first | omega | assumption), (by show th_.toInt ≤ 2; first | omega | assumption), trivial⟩
    · have fh1 := leF h1
      refine sIfF (noob (by omega) (by omega)) ?_
      refine sIfF (noob (by omega) (by omega)) ?_
      have z8 := OkD.le (p := l6.toNatClampNeg) ‹OkD fd› (by have e : l6.toNatClampNeg = l6.toInt.toNat := rfl; omega) (by have e : l6.toNatClampNeg = l6.toInt.toNat := rfl; omega)
      exact s_X7_place_69 (hk_53 := ih) hN hK (by omega) _ _ _ _ _ _ _ _ _ _ (by omega) (by first | omega | decide) (by first | omega | decide) (by first | omega | decide) (by first | omega | decide) (by first | omega | decide) (by first | omega | decide) (by first | omega | decide) (by first | omega | decide) (by first | omega | decide) (by first | omega | decide) (by first | omega | decide) (by first | omega | decide) (by first | omega | decide) (by first | omega | decide) (by omega) (by omega)
set_option maxHeartbeats 2000000 in
theorem s_X7_place_24 {N K : Nat} {th : Int32} {f : Nat → Int32} {fd : Nat → Int32} {t : Nat → Int32} {u : Nat → Int32} {p0 : Int32} {p1 : Int32} (hN : NBig N) (hK : 100 ≤ K) (hp0 : OkD fd) : ∀ (s0 : Int32) (th_ : Int32) (f_ : Nat → Int32) (t_ : Nat → Int32) (u_ : Nat → Int32), 0 ≤ s0.toInt → s0.toInt ≤ 1 → (s0.toInt = 0 → 0 ≤ p0.toInt ∧ p0.toInt ≤ 2 ∧ 0 ≤ p1.toInt ∧ p1.toInt ≤ 1) → Sf (fX7_place_24 N K th f fd t u p0 p1  s0 th_ f_ t_ u_) (fun (z : Int32 × Int32 × (Nat → Int32) × (Nat → Int32) × (Nat → Int32)) => 0 ≤ z.2.1.toInt ∧ z.2.1.toInt ≤ 2 ∧ True) := by
  intro s0 th_ f_ t_ u_ hq0 hq1 hq2
  unfold fX7_place_24
  have hN9 := hN.u
  have ql0 : (0 : Int32).toInt = 0 := by decide
  have ql20 : (20 : Int32).toInt = 20 := by decide
  refine sBind (s_X7_isThrown hN hK (by first | omega | decide) (by first | omega | decide) (by first | omega | decide) (by first | omega | decide)) (fun x25 b1 => ?_)
  obtain ⟨b1_0, b1_1, b1_2, b1_3, b1_4, b1_5, -⟩ := b1
  replace b1_0 : 0 ≤ x25.1.toInt := b1_0
  replace b1_1 : x25.1.toInt ≤ 1 := b1_1
  replace b1_2 : 0 ≤ x25.2.toInt := b1_2
  replace b1_3 : x25.2.toInt ≤ 2 := b1_3
  replace b1_4 : (x25.1.toInt = 0 → (0 ≤ s0.toInt ∧ s0.toInt ≤ 0)) := b1_4
  replace b1_5 : (x25.1.toInt = 0 → (0 ≤ (0 : Int32).toInt ∧ (0 : Int32).toInt ≤ 0)) := b1_5
  refine sIf (fun h2 => ?_) (fun h2 => ?_)
  · have fh2 := eqT h2
    refine sIfF (noob (by omega) (by omega)) ?_
    refine sBind (s_X7_number hN hK (by first | assumption | exact OkD.z)) (fun x39 b3 => ?_)
    obtain ⟨b3_0, b3_1, -⟩ := b3
    replace b3_0 : 0 ≤ x39.toInt := b3_0
    replace b3_1 : x39.toInt ≤ 20 := b3_1
    exact s_X7_place_53  hN hK (by omega) _ _ _ _ _ _ _ _ _ (by omega) (by first | omega | decide) (by first | omega | decide) (by first | omega | decide) (by first | omega | decide) (by first | omega | decide) (by first | omega | decide) (by first | omega | decide) (by first | omega | decide) (by first | omega | decide) (by first | omega | decide) (by first | omega | decide) (by first | omega | decide) (by omega)
  · have fh2 := eqF h2
    exact sRet ⟨(by show 0 ≤ x25.2.toInt; first | omega | assumption), (by show x25.2.toInt ≤ 2; first | omega | assumption), trivial⟩
set_option maxHeartbeats 2000000 in
theorem s_X7_place_19 {N K : Nat} {th : Int32} {f : Nat → Int32} {fd : Nat → Int32} {t : Nat → Int32} {u : Nat → Int32} {p0 : Int32} {p1 : Int32} (hN : NBig N) (hK : 100 ≤ K) (hp0 : OkD fd) : ∀ (th_ : Int32) (f_ : Nat → Int32) (t_ : Nat → Int32) (u_ : Nat → Int32), Sf (fX7_place_19 N K th f fd t u p0 p1  th_ f_ t_ u_) (fun (z : Int32 × Int32 × (Nat → Int32) × (Nat → Int32) × (Nat → Int32)) => 0 ≤ z.2.1.toInt ∧ z.2.1.toInt ≤ 2 ∧ True) := by
  intro th_ f_ t_ u_ 
  unfold fX7_place_19
  have ql0 : (0 : Int32).toInt = 0 := by decide
  have ql1 : (1 : Int32).toInt = 1 := by decide
  exact s_X7_place_24  hN hK (by omega) _ _ _ _ _ (by first | omega | decide) (by first | omega | decide) (by first | omega | decide)
set_option maxHeartbeats 2000000 in
theorem s_X7_place {N K : Nat} {th : Int32} {f : Nat → Int32} {fd : Nat → Int32} {t : Nat → Int32} {u : Nat → Int32} {p0 : Int32} {p1 : Int32} (hN : NBig N) (hK : 100 ≤ K) (hp0 : OkD fd) : Sf (fX7_place N K th f fd t u p0 p1) (fun (z : Int32 × Int32 × (Nat → Int32) × (Nat → Int32) × (Nat → Int32)) => 0 ≤ z.2.1.toInt ∧ z.2.1.toInt ≤ 2 ∧ True) := by
  unfold fX7_place
  have ql0 : (0 : Int32).toInt = 0 := by decide
  have ql1 : (1 : Int32).toInt = 1 := by decide
  have ql2 : (2 : Int32).toInt = 2 := by decide
  refine sBind (s_X7_isNo hN hK (by first | omega | decide) (by first | omega | decide) (by first | omega | decide) (by first | omega | decide)) (fun x4 b1 => ?_)
  obtain ⟨b1_0, b1_1, b1_2, -⟩ := b1
  replace b1_0 : 0 ≤ x4.toInt := b1_0
  replace b1_1 : x4.toInt ≤ 1 := b1_1
  replace b1_2 : (x4.toInt = 0 → ((0 : Int32).toInt ≤ p0.toInt ∧ p0.toInt ≤ (2 : Int32).toInt)) := b1_2
  refine sIf (fun h2 => ?_) (fun h2 => ?_)
  · have fh2 := eqT h2
    refine sBind (s_X7_isNo hN hK (by first | omega | decide) (by first | omega | decide) (by first | omega | decide) (by first | omega | decide)) (fun x13 b3 => ?_)
    obtain ⟨b3_0, b3_1, b3_2, -⟩ := b3
    replace b3_0 : 0 ≤ x13.toInt := b3_0
    replace b3_1 : x13.toInt ≤ 1 := b3_1
    replace b3_2 : (x13.toInt = 0 → ((0 : Int32).toInt ≤ p1.toInt ∧ p1.toInt ≤ (1 : Int32).toInt)) := b3_2
    refine sIf (fun h4 => ?_) (fun h4 => ?_)
    · have fh4 := eqT h4
      exact s_X7_place_24  hN hK (by omega) _ _ _ _ _ (by first | omega | decide) (by first | omega | decide) (by first | omega | decide)
    · have fh4 := eqF h4
      exact s_X7_place_19  hN hK (by omega) _ _ _ _
  · have fh2 := eqF h2
    exact s_X7_place_19  hN hK (by omega) _ _ _ _
set_option maxHeartbeats 2000000 in
theorem s_X7_learn_81 {N K : Nat} {th : Int32} {f : Nat → Int32} {t : Nat → Int32} {p0 : Int32} {p1 : Int32} {p2 : Int32} {p3 : Int32} (hN : NBig N) (hK : 100 ≤ K)  : ∀ (l5 : Int32) (th_ : Int32) (f_ : Nat → Int32) (t_ : Nat → Int32), 0 ≤ p0.toInt → p0.toInt ≤ 2 → 0 ≤ p1.toInt → p1.toInt ≤ 5 → 1 ≤ p2.toInt → p2.toInt ≤ 20 → 1 ≤ p3.toInt → p3.toInt ≤ 20 → 0 ≤ l5.toInt → l5.toInt ≤ 1 → 0 ≤ th_.toInt → th_.toInt ≤ 2 → Sf (fX7_learn_81 N K th f t p0 p1 p2 p3  l5 th_ f_ t_) (fun (z : Int32 × Int32 × (Nat → Int32) × (Nat → Int32)) => 0 ≤ z.2.1.toInt ∧ z.2.1.toInt ≤ 2 ∧ True) := by
  intro l5 th_ f_ t_ hq0 hq1 hq2 hq3 hq4 hq5 hq6 hq7 hq8 hq9 hq10 hq11
  unfold fX7_learn_81
  have ql0 : (0 : Int32).toInt = 0 := by decide
  refine sBind (s_X7_bit hN hK (by first | omega | decide) (by first | omega | decide)) (fun x84 b1 => ?_)
  obtain ⟨b1_0, b1_1, -⟩ := b1
  replace b1_0 : 0 ≤ x84.toInt := b1_0
  replace b1_1 : x84.toInt ≤ 1 := b1_1
  refine sBind (s_X7_done hN hK (by first | omega | decide) (by first | omega | decide)) (fun x87 b2 => ?_)
  exact sRet ⟨(by show 0 ≤ th_.toInt; first | omega | assumption), (by show th_.toInt ≤ 2; first | omega | assumption), trivial⟩
set_option maxHeartbeats 2000000 in
theorem s_X7_learn_53 {N K : Nat} {th : Int32} {f : Nat → Int32} {t : Nat → Int32} {p0 : Int32} {p1 : Int32} {p2 : Int32} {p3 : Int32} (hN : NBig N) (hK : 100 ≤ K)  : ∀ (s0 : Int32) (th_ : Int32) (f_ : Nat → Int32) (t_ : Nat → Int32), 0 ≤ p0.toInt → p0.toInt ≤ 2 → 0 ≤ p1.toInt → p1.toInt ≤ 5 → 1 ≤ p2.toInt → p2.toInt ≤ 20 → 1 ≤ p3.toInt → p3.toInt ≤ 20 → 0 ≤ s0.toInt → s0.toInt ≤ 1 → 0 ≤ th_.toInt → th_.toInt ≤ 2 → (s0.toInt = 0 → 0 ≤ p0.toInt ∧ p0.toInt ≤ 2 ∧ 0 ≤ p1.toInt ∧ p1.toInt ≤ 5 ∧ 1 ≤ p2.toInt ∧ p2.toInt ≤ 20 ∧ 1 ≤ p3.toInt ∧ p3.toInt ≤ 20) → Sf (fX7_learn_53 N K th f t p0 p1 p2 p3  s0 th_ f_ t_) (fun (z : Int32 × Int32 × (Nat → Int32) × (Nat → Int32)) => 0 ≤ z.2.1.toInt ∧ z.2.1.toInt ≤ 2 ∧ True) := by
  intro s0 th_ f_ t_ hq0 hq1 hq2 hq3 hq4 hq5 hq6 hq7 hq8 hq9 hq10 hq11 hq12
  unfold fX7_learn_53
  have ql0 : (0 : Int32).toInt = 0 := by decide
  refine sIf (fun h1 => ?_) (fun h1 => ?_)
  · have fh1 := eqT h1
    exact s_X7_learn_81  hN hK _ _ _ _ (by first | omega | decide) (by first | omega | decide) (by first | omega | decide) (by first | omega | decide) (by first | omega | decide) (by first | omega | decide) (by first | omega | decide) (by first | omega | decide) (by first | omega | decide) (by first | omega | decide) (by first | omega | decide) (by first | omega | decide)
  · have fh1 := eqF h1
    refine sIfF (noob (by omega) (by omega)) ?_
    refine sBind (s_X7_code hN hK (by first | omega | decide) (by first | omega | decide) (by first | omega | decide) (by first | omega | decide) (by first | omega | decide) (by first | omega | decide)) (fun x70 b2 => ?_)
    obtain ⟨b2_0, b2_1, -⟩ := b2
    replace b2_0 : 0 ≤ x70.toInt := b2_0
    replace b2_1 : x70.toInt ≤ 5780 := b2_1
    refine sBind (s_X7_series hN hK (by first | omega | decide) (by first | omega | decide) (by first | omega | decide) (by first | omega | decide) (by first | omega | decide) (by first | omega | decide)) (fun x77 b3 => ?_)
    refine sIfF (noob (by omega) (by omega)) ?_
    exact s_X7_learn_81  hN hK _ _ _ _ (by first | omega | decide) (by first | omega | decide) (by first | omega | decide) (by first | omega | decide) (by first | omega | decide) (by first | omega | decide) (by first | omega | decide) (by first | omega | decide) (by first | omega | decide) (by first | omega | decide) (by first | omega | decide) (by first | omega | decide)
set_option maxHeartbeats 2000000 in
theorem s_X7_learn {N K : Nat} {th : Int32} {f : Nat → Int32} {t : Nat → Int32} {p0 : Int32} {p1 : Int32} {p2 : Int32} {p3 : Int32} (hN : NBig N) (hK : 100 ≤ K)  : Sf (fX7_learn N K th f t p0 p1 p2 p3) (fun (z : Int32 × Int32 × (Nat → Int32) × (Nat → Int32)) => 0 ≤ z.2.1.toInt ∧ z.2.1.toInt ≤ 2 ∧ True) := by
  unfold fX7_learn
  have ql0 : (0 : Int32).toInt = 0 := by decide
  have ql1 : (1 : Int32).toInt = 1 := by decide
  have ql2 : (2 : Int32).toInt = 2 := by decide
  refine sBind (s_X7_isNo hN hK (by first | omega | decide) (by first | omega | decide) (by first | omega | decide) (by first | omega | decide)) (fun x4 b1 => ?_)
  obtain ⟨b1_0, b1_1, b1_2, -⟩ := b1
  replace b1_0 : 0 ≤ x4.toInt := b1_0
  replace b1_1 : x4.toInt ≤ 1 := b1_1
  replace b1_2 : (x4.toInt = 0 → ((0 : Int32).toInt ≤ p0.toInt ∧ p0.toInt ≤ (2 : Int32).toInt)) := b1_2
  refine sBind (s_X7_isOut hN hK) (fun x11 b2 => ?_)
  obtain ⟨b2_0, b2_1, b2_2, b2_3, b2_4, -⟩ := b2
  replace b2_0 : 0 ≤ x11.toInt := b2_0
  replace b2_1 : x11.toInt ≤ 1 := b2_1
  replace b2_2 : (x11.toInt = 0 → (0 ≤ p1.toInt ∧ p1.toInt ≤ 5)) := b2_2
  replace b2_3 : (x11.toInt = 0 → (0 ≤ p2.toInt ∧ p2.toInt ≤ 20)) := b2_3
  replace b2_4 : (x11.toInt = 0 → (0 ≤ p3.toInt ∧ p3.toInt ≤ 20)) := b2_4
  refine sBind (s_X7_isThrown hN hK (by first | omega | decide) (by first | omega | decide) (by first | omega | decide) (by first | omega | decide)) (fun x14 b3 => ?_)
  obtain ⟨b3_0, b3_1, b3_2, b3_3, b3_4, b3_5, -⟩ := b3
  replace b3_0 : 0 ≤ x14.1.toInt := b3_0
  replace b3_1 : x14.1.toInt ≤ 1 := b3_1
  replace b3_2 : 0 ≤ x14.2.toInt := b3_2
  replace b3_3 : x14.2.toInt ≤ 2 := b3_3
  replace b3_4 : (x14.1.toInt = 0 → (0 ≤ x4.toInt ∧ x4.toInt ≤ 0)) := b3_4
  replace b3_5 : (x14.1.toInt = 0 → (0 ≤ x11.toInt ∧ x11.toInt ≤ 0)) := b3_5
  refine sIf (fun h4 => ?_) (fun h4 => ?_)
  · have fh4 := eqT h4
    refine sBind (s_X7_rests hN hK (by first | omega | decide) (by first | omega | decide) (by first | omega | decide) (by first | omega | decide)) (fun x25 b5 => ?_)
    obtain ⟨b5_0, b5_1, b5_2, b5_3, -⟩ := b5
    replace b5_0 : 0 ≤ x25.toInt := b5_0
    replace b5_1 : x25.toInt ≤ 1 := b5_1
    replace b5_2 : (x25.toInt = 0 → (1 ≤ p2.toInt)) := b5_2
    replace b5_3 : (x25.toInt = 0 → p3.toInt ≠ 0) := b5_3
    refine sIf (fun h6 => ?_) (fun h6 => ?_)
    · have fh6 := eqT h6
      refine sBind (s_X7_worth hN hK (by first | omega | decide) (by first | omega | decide) (by first | omega | decide) (by first | omega | decide) (by first | omega | decide) (by first | omega | decide) (by first | omega | decide) (by first | omega | decide) (by first | omega | decide) (by first | omega | decide)) (fun x42 b7 => ?_)
      refine sIf (fun h8 => ?_) (fun h8 => ?_)
      · have fh8 := leT h8
        exact s_X7_learn_53  hN hK _ _ _ _ (by first | omega | decide) (by first | omega | decide) (by first | omega | decide) (by first | omega | decide) (by first | omega | decide) (by first | omega | decide) (by first | omega | decide) (by first | omega | decide) (by first | omega | decide) (by first | omega | decide) (by first | omega | decide) (by first | omega | decide) (by first | omega | decide)
      · have fh8 := leF h8
        exact s_X7_learn_53  hN hK _ _ _ _ (by first | omega | decide) (by first | omega | decide) (by first | omega | decide) (by first | omega | decide) (by first | omega | decide) (by first | omega | decide) (by first | omega | decide) (by first | omega | decide) (by first | omega | decide) (by first | omega | decide) (by first | omega | decide) (by first | omega | decide) (by first | omega | decide)
    · have fh6 := eqF h6
      refine sBind (s_X7_refused hN hK (by first | omega | decide) (by first | omega | decide)) (fun x32 b9 => ?_)
      obtain ⟨b9_0, b9_1, -⟩ := b9
      replace b9_0 : -9 ≤ x32.1.toInt := b9_0
      replace b9_1 : x32.1.toInt ≤ -9 := b9_1
      exact sRet ⟨(by show 0 ≤ x14.2.toInt; first | omega | assumption), (by show x14.2.toInt ≤ 2; first | omega | assumption), trivial⟩
  · have fh4 := eqF h4
    exact sRet ⟨(by show 0 ≤ x14.2.toInt; first | omega | assumption), (by show x14.2.toInt ≤ 2; first | omega | assumption), trivial⟩

end MG_50gsafe
section MG_50hsafe
set_option maxHeartbeats 2000000 in
theorem s_X7_relearn {N K : Nat} {th : Int32} {f : Nat → Int32} {t : Nat → Int32} {p0 : Int32} {p1 : Int32} {p2 : Int32} {p3 : Int32} (hN : NBig N) (hK : 100 ≤ K)  : Sf (fX7_relearn N K th f t p0 p1 p2 p3) (fun (z : Int32 × Int32 × (Nat → Int32) × (Nat → Int32)) => 0 ≤ z.2.1.toInt ∧ z.2.1.toInt ≤ 2 ∧ True) := by
  unfold fX7_relearn
  have ql0 : (0 : Int32).toInt = 0 := by decide
  have ql2 : (2 : Int32).toInt = 2 := by decide
  refine sBind (s_X7_isNo hN hK (by first | omega | decide) (by first | omega | decide) (by first | omega | decide) (by first | omega | decide)) (fun x4 b1 => ?_)
  obtain ⟨b1_0, b1_1, b1_2, -⟩ := b1
  replace b1_0 : 0 ≤ x4.toInt := b1_0
  replace b1_1 : x4.toInt ≤ 1 := b1_1
  replace b1_2 : (x4.toInt = 0 → ((0 : Int32).toInt ≤ p0.toInt ∧ p0.toInt ≤ (2 : Int32).toInt)) := b1_2
  refine sBind (s_X7_isOut hN hK) (fun x11 b2 => ?_)
  obtain ⟨b2_0, b2_1, b2_2, b2_3, b2_4, -⟩ := b2
  replace b2_0 : 0 ≤ x11.toInt := b2_0
  replace b2_1 : x11.toInt ≤ 1 := b2_1
  replace b2_2 : (x11.toInt = 0 → (0 ≤ p1.toInt ∧ p1.toInt ≤ 5)) := b2_2
  replace b2_3 : (x11.toInt = 0 → (0 ≤ p2.toInt ∧ p2.toInt ≤ 20)) := b2_3
  replace b2_4 : (x11.toInt = 0 → (0 ≤ p3.toInt ∧ p3.toInt ≤ 20)) := b2_4
  refine sBind (s_X7_isThrown hN hK (by first | omega | decide) (by first | omega | decide) (by first | omega | decide) (by first | omega | decide)) (fun x14 b3 => ?_)
  obtain ⟨b3_0, b3_1, b3_2, b3_3, b3_4, b3_5, -⟩ := b3
  replace b3_0 : 0 ≤ x14.1.toInt := b3_0
  replace b3_1 : x14.1.toInt ≤ 1 := b3_1
  replace b3_2 : 0 ≤ x14.2.toInt := b3_2
  replace b3_3 : x14.2.toInt ≤ 2 := b3_3
  replace b3_4 : (x14.1.toInt = 0 → (0 ≤ x4.toInt ∧ x4.toInt ≤ 0)) := b3_4
  replace b3_5 : (x14.1.toInt = 0 → (0 ≤ x11.toInt ∧ x11.toInt ≤ 0)) := b3_5
  refine sIf (fun h4 => ?_) (fun h4 => ?_)
  · have fh4 := eqT h4
    refine sBind (s_X7_kept hN hK (by first | omega | decide) (by first | omega | decide) (by first | omega | decide) (by first | omega | decide) (by first | omega | decide) (by first | omega | decide) (by first | omega | decide) (by first | omega | decide) (by first | omega | decide) (by first | omega | decide)) (fun x28 b5 => ?_)
    refine sIf (fun h6 => ?_) (fun h6 => ?_)
    · have fh6 := leT h6
      refine sIfF (noob (by omega) (by omega)) ?_
      refine sBind (s_X7_code hN hK (by first | omega | decide) (by first | omega | decide) (by first | omega | decide) (by first | omega | decide) (by first | omega | decide) (by first | omega | decide)) (fun x49 b7 => ?_)
      obtain ⟨b7_0, b7_1, -⟩ := b7
      replace b7_0 : 0 ≤ x49.toInt := b7_0
      replace b7_1 : x49.toInt ≤ 5780 := b7_1
      refine sBind (s_X7_walked hN hK (by first | omega | decide) (by first | omega | decide) (by first | omega | decide) (by first | omega | decide) (by first | omega | decide) (by first | omega | decide)) (fun x56 b8 => ?_)
      refine sIfF (noob (by omega) (by omega)) ?_
      refine sBind (s_X7_kept hN hK (by first | omega | decide) (by first | omega | decide) (by first | omega | decide) (by first | omega | decide) (by first | omega | decide) (by first | omega | decide) (by first | omega | decide) (by first | omega | decide) (by first | omega | decide) (by first | omega | decide)) (fun x67 b9 => ?_)
      refine sBind (s_X7_done hN hK (by first | omega | decide) (by first | omega | decide)) (fun x70 b10 => ?_)
      exact sRet ⟨(by show 0 ≤ x14.2.toInt; first | omega | assumption), (by show x14.2.toInt ≤ 2; first | omega | assumption), trivial⟩
    · have fh6 := leF h6
      refine sBind (s_X7_refused hN hK (by first | omega | decide) (by first | omega | decide)) (fun x35 b11 => ?_)
      obtain ⟨b11_0, b11_1, -⟩ := b11
      replace b11_0 : -9 ≤ x35.1.toInt := b11_0
      replace b11_1 : x35.1.toInt ≤ -9 := b11_1
      exact sRet ⟨(by show 0 ≤ x14.2.toInt; first | omega | assumption), (by show x14.2.toInt ≤ 2; first | omega | assumption), trivial⟩
  · have fh4 := eqF h4
    exact sRet ⟨(by show 0 ≤ x14.2.toInt; first | omega | assumption), (by show x14.2.toInt ≤ 2; first | omega | assumption), trivial⟩
set_option maxHeartbeats 2000000 in
theorem s_X7_forget {N K : Nat} {th : Int32} {f : Nat → Int32} {t : Nat → Int32} {p0 : Int32} {p1 : Int32} {p2 : Int32} {p3 : Int32} (hN : NBig N) (hK : 100 ≤ K)  : Sf (fX7_forget N K th f t p0 p1 p2 p3) (fun (z : Int32 × Int32 × (Nat → Int32) × (Nat → Int32)) => 0 ≤ z.2.1.toInt ∧ z.2.1.toInt ≤ 2 ∧ True) := by
  unfold fX7_forget
  have ql0 : (0 : Int32).toInt = 0 := by decide
  have ql2 : (2 : Int32).toInt = 2 := by decide
  refine sBind (s_X7_isNo hN hK (by first | omega | decide) (by first | omega | decide) (by first | omega | decide) (by first | omega | decide)) (fun x4 b1 => ?_)
  obtain ⟨b1_0, b1_1, b1_2, -⟩ := b1
  replace b1_0 : 0 ≤ x4.toInt := b1_0
  replace b1_1 : x4.toInt ≤ 1 := b1_1
  replace b1_2 : (x4.toInt = 0 → ((0 : Int32).toInt ≤ p0.toInt ∧ p0.toInt ≤ (2 : Int32).toInt)) := b1_2
  refine sBind (s_X7_isOut hN hK) (fun x11 b2 => ?_)
  obtain ⟨b2_0, b2_1, b2_2, b2_3, b2_4, -⟩ := b2
  replace b2_0 : 0 ≤ x11.toInt := b2_0
  replace b2_1 : x11.toInt ≤ 1 := b2_1
  replace b2_2 : (x11.toInt = 0 → (0 ≤ p1.toInt ∧ p1.toInt ≤ 5)) := b2_2
  replace b2_3 : (x11.toInt = 0 → (0 ≤ p2.toInt ∧ p2.toInt ≤ 20)) := b2_3
  replace b2_4 : (x11.toInt = 0 → (0 ≤ p3.toInt ∧ p3.toInt ≤ 20)) := b2_4
  refine sBind (s_X7_isThrown hN hK (by first | omega | decide) (by first | omega | decide) (by first | omega | decide) (by first | omega | decide)) (fun x14 b3 => ?_)
  obtain ⟨b3_0, b3_1, b3_2, b3_3, b3_4, b3_5, -⟩ := b3
  replace b3_0 : 0 ≤ x14.1.toInt := b3_0
  replace b3_1 : x14.1.toInt ≤ 1 := b3_1
  replace b3_2 : 0 ≤ x14.2.toInt := b3_2
  replace b3_3 : x14.2.toInt ≤ 2 := b3_3
  replace b3_4 : (x14.1.toInt = 0 → (0 ≤ x4.toInt ∧ x4.toInt ≤ 0)) := b3_4
  replace b3_5 : (x14.1.toInt = 0 → (0 ≤ x11.toInt ∧ x11.toInt ≤ 0)) := b3_5
  refine sIf (fun h4 => ?_) (fun h4 => ?_)
  · have fh4 := eqT h4
    refine sBind (s_X7_kept hN hK (by first | omega | decide) (by first | omega | decide) (by first | omega | decide) (by first | omega | decide) (by first | omega | decide) (by first | omega | decide) (by first | omega | decide) (by first | omega | decide) (by first | omega | decide) (by first | omega | decide)) (fun x28 b5 => ?_)
    refine sIf (fun h6 => ?_) (fun h6 => ?_)
    · have fh6 := leT h6
      refine sIfF (noob (by omega) (by omega)) ?_
      refine sBind (s_X7_code hN hK (by first | omega | decide) (by first | omega | decide) (by first | omega | decide) (by first | omega | decide) (by first | omega | decide) (by first | omega | decide)) (fun x53 b7 => ?_)
      obtain ⟨b7_0, b7_1, -⟩ := b7
      replace b7_0 : 0 ≤ x53.toInt := b7_0
      replace b7_1 : x53.toInt ≤ 5780 := b7_1
      refine sIfF (noob (by omega) (by omega)) ?_
      refine sBind (s_X7_done hN hK (by first | omega | decide) (by first | omega | decide)) (fun x61 b8 => ?_)
      exact sRet ⟨(by show 0 ≤ x14.2.toInt; first | omega | assumption), (by show x14.2.toInt ≤ 2; first | omega | assumption), trivial⟩
    · have fh6 := leF h6
      refine sBind (s_X7_refused hN hK (by first | omega | decide) (by first | omega | decide)) (fun x39 b9 => ?_)
      obtain ⟨b9_0, b9_1, -⟩ := b9
      replace b9_0 : -9 ≤ x39.1.toInt := b9_0
      replace b9_1 : x39.1.toInt ≤ -9 := b9_1
      exact sRet ⟨(by show 0 ≤ x14.2.toInt; first | omega | assumption), (by show x14.2.toInt ≤ 2; first | omega | assumption), trivial⟩
  · have fh4 := eqF h4
    exact sRet ⟨(by show 0 ≤ x14.2.toInt; first | omega | assumption), (by show x14.2.toInt ≤ 2; first | omega | assumption), trivial⟩
set_option maxHeartbeats 2000000 in
theorem s_X7_forgetIf_72 {N K : Nat} {th : Int32} {f : Nat → Int32} {t : Nat → Int32} {p0 : Int32} {p1 : Int32} {p2 : Int32} {p3 : Int32} {p4 : Int32} (hN : NBig N) (hK : 100 ≤ K)  : ∀ (l7 : Int32) (th_ : Int32) (f_ : Nat → Int32) (t_ : Nat → Int32), 0 ≤ p0.toInt → p0.toInt ≤ 2 → 0 ≤ p1.toInt → p1.toInt ≤ 5 → 0 ≤ p2.toInt → p2.toInt ≤ 20 → 0 ≤ p3.toInt → p3.toInt ≤ 20 → 0 ≤ l7.toInt → l7.toInt ≤ 1 → 0 ≤ th_.toInt → th_.toInt ≤ 2 → Sf (fX7_forgetIf_72 N K th f t p0 p1 p2 p3 p4  l7 th_ f_ t_) (fun (z : Int32 × Int32 × (Nat → Int32) × (Nat → Int32)) => 0 ≤ z.2.1.toInt ∧ z.2.1.toInt ≤ 2 ∧ True) := by
  intro l7 th_ f_ t_ hq0 hq1 hq2 hq3 hq4 hq5 hq6 hq7 hq8 hq9 hq10 hq11
  unfold fX7_forgetIf_72
  have ql0 : (0 : Int32).toInt = 0 := by decide
  refine sBind (s_X7_bit hN hK (by first | omega | decide) (by first | omega | decide)) (fun x75 b1 => ?_)
  obtain ⟨b1_0, b1_1, -⟩ := b1
  replace b1_0 : 0 ≤ x75.toInt := b1_0
  replace b1_1 : x75.toInt ≤ 1 := b1_1
  refine sBind (s_X7_done hN hK (by first | omega | decide) (by first | omega | decide)) (fun x78 b2 => ?_)
  exact sRet ⟨(by show 0 ≤ th_.toInt; first | omega | assumption), (by show th_.toInt ≤ 2; first | omega | assumption), trivial⟩
set_option maxHeartbeats 2000000 in
theorem s_X7_forgetIf_50 {N K : Nat} {th : Int32} {f : Nat → Int32} {t : Nat → Int32} {p0 : Int32} {p1 : Int32} {p2 : Int32} {p3 : Int32} {p4 : Int32} (hN : NBig N) (hK : 100 ≤ K)  : ∀ (s0 : Int32) (th_ : Int32) (f_ : Nat → Int32) (t_ : Nat → Int32), 0 ≤ p0.toInt → p0.toInt ≤ 2 → 0 ≤ p1.toInt → p1.toInt ≤ 5 → 0 ≤ p2.toInt → p2.toInt ≤ 20 → 0 ≤ p3.toInt → p3.toInt ≤ 20 → 0 ≤ s0.toInt → s0.toInt ≤ 1 → 0 ≤ th_.toInt → th_.toInt ≤ 2 → (s0.toInt = 0 → 0 ≤ p0.toInt ∧ p0.toInt ≤ 2 ∧ 0 ≤ p1.toInt ∧ p1.toInt ≤ 5 ∧ 0 ≤ p2.toInt ∧ p2.toInt ≤ 20 ∧ 0 ≤ p3.toInt ∧ p3.toInt ≤ 20) → Sf (fX7_forgetIf_50 N K th f t p0 p1 p2 p3 p4  s0 th_ f_ t_) (fun (z : Int32 × Int32 × (Nat → Int32) × (Nat → Int32)) => 0 ≤ z.2.1.toInt ∧ z.2.1.toInt ≤ 2 ∧ True) := by
  intro s0 th_ f_ t_ hq0 hq1 hq2 hq3 hq4 hq5 hq6 hq7 hq8 hq9 hq10 hq11 hq12
  unfold fX7_forgetIf_50
  have ql0 : (0 : Int32).toInt = 0 := by decide
  refine sIf (fun h1 => ?_) (fun h1 => ?_)
  · have fh1 := eqT h1
    exact s_X7_forgetIf_72  hN hK _ _ _ _ (by first | omega | decide) (by first | omega | decide) (by first | omega | decide) (by first | omega | decide) (by first | omega | decide) (by first | omega | decide) (by first | omega | decide) (by first | omega | decide) (by first | omega | decide) (by first | omega | decide) (by first | omega | decide) (by first | omega | decide)
  · have fh1 := eqF h1
    refine sIfF (noob (by omega) (by omega)) ?_
    refine sBind (s_X7_code hN hK (by first | omega | decide) (by first | omega | decide) (by first | omega | decide) (by first | omega | decide) (by first | omega | decide) (by first | omega | decide)) (fun x67 b2 => ?_)
    obtain ⟨b2_0, b2_1, -⟩ := b2
    replace b2_0 : 0 ≤ x67.toInt := b2_0
    replace b2_1 : x67.toInt ≤ 5780 := b2_1
    refine sIfF (noob (by omega) (by omega)) ?_
    exact s_X7_forgetIf_72  hN hK _ _ _ _ (by first | omega | decide) (by first | omega | decide) (by first | omega | decide) (by first | omega | decide) (by first | omega | decide) (by first | omega | decide) (by first | omega | decide) (by first | omega | decide) (by first | omega | decide) (by first | omega | decide) (by first | omega | decide) (by first | omega | decide)
set_option maxHeartbeats 2000000 in
theorem s_X7_forgetIf_49 {N K : Nat} {th : Int32} {f : Nat → Int32} {t : Nat → Int32} {p0 : Int32} {p1 : Int32} {p2 : Int32} {p3 : Int32} {p4 : Int32} (hN : NBig N) (hK : 100 ≤ K)  : ∀ (th_ : Int32) (f_ : Nat → Int32) (t_ : Nat → Int32), 0 ≤ p0.toInt → p0.toInt ≤ 2 → 0 ≤ p1.toInt → p1.toInt ≤ 5 → 0 ≤ p2.toInt → p2.toInt ≤ 20 → 0 ≤ p3.toInt → p3.toInt ≤ 20 → 0 ≤ th_.toInt → th_.toInt ≤ 2 → Sf (fX7_forgetIf_49 N K th f t p0 p1 p2 p3 p4  th_ f_ t_) (fun (z : Int32 × Int32 × (Nat → Int32) × (Nat → Int32)) => 0 ≤ z.2.1.toInt ∧ z.2.1.toInt ≤ 2 ∧ True) := by
  intro th_ f_ t_ hq0 hq1 hq2 hq3 hq4 hq5 hq6 hq7 hq8 hq9
  unfold fX7_forgetIf_49
  have ql0 : (0 : Int32).toInt = 0 := by decide
  exact s_X7_forgetIf_50  hN hK _ _ _ _ (by first | omega | decide) (by first | omega | decide) (by first | omega | decide) (by first | omega | decide) (by first | omega | decide) (by first | omega | decide) (by first | omega | decide) (by first | omega | decide) (by first | omega | decide) (by first | omega | decide) (by first | omega | decide) (by first | omega | decide) (by first | omega | decide)
set_option maxHeartbeats 2000000 in
theorem s_X7_forgetIf {N K : Nat} {th : Int32} {f : Nat → Int32} {t : Nat → Int32} {p0 : Int32} {p1 : Int32} {p2 : Int32} {p3 : Int32} {p4 : Int32} (hN : NBig N) (hK : 100 ≤ K)  : Sf (fX7_forgetIf N K th f t p0 p1 p2 p3 p4) (fun (z : Int32 × Int32 × (Nat → Int32) × (Nat → Int32)) => 0 ≤ z.2.1.toInt ∧ z.2.1.toInt ≤ 2 ∧ True) := by
  unfold fX7_forgetIf
  have ql0 : (0 : Int32).toInt = 0 := by decide
  have ql1 : (1 : Int32).toInt = 1 := by decide
  have ql2 : (2 : Int32).toInt = 2 := by decide
  refine sBind (s_X7_isNo hN hK (by first | omega | decide) (by first | omega | decide) (by first | omega | decide) (by first | omega | decide)) (fun x4 b1 => ?_)
  obtain ⟨b1_0, b1_1, b1_2, -⟩ := b1
  replace b1_0 : 0 ≤ x4.toInt := b1_0
  replace b1_1 : x4.toInt ≤ 1 := b1_1
  replace b1_2 : (x4.toInt = 0 → ((0 : Int32).toInt ≤ p0.toInt ∧ p0.toInt ≤ (2 : Int32).toInt)) := b1_2
  refine sBind (s_X7_isOut hN hK) (fun x11 b2 => ?_)
  obtain ⟨b2_0, b2_1, b2_2, b2_3, b2_4, -⟩ := b2
  replace b2_0 : 0 ≤ x11.toInt := b2_0
  replace b2_1 : x11.toInt ≤ 1 := b2_1
  replace b2_2 : (x11.toInt = 0 → (0 ≤ p1.toInt ∧ p1.toInt ≤ 5)) := b2_2
  replace b2_3 : (x11.toInt = 0 → (0 ≤ p2.toInt ∧ p2.toInt ≤ 20)) := b2_3
  replace b2_4 : (x11.toInt = 0 → (0 ≤ p3.toInt ∧ p3.toInt ≤ 20)) := b2_4
  refine sBind (s_X7_isThrown hN hK (by first | omega | decide) (by first | omega | decide) (by first | omega | decide) (by first | omega | decide)) (fun x14 b3 => ?_)
  obtain ⟨b3_0, b3_1, b3_2, b3_3, b3_4, b3_5, -⟩ := b3
  replace b3_0 : 0 ≤ x14.1.toInt := b3_0
  replace b3_1 : x14.1.toInt ≤ 1 := b3_1
  replace b3_2 : 0 ≤ x14.2.toInt := b3_2
  replace b3_3 : x14.2.toInt ≤ 2 := b3_3
  replace b3_4 : (x14.1.toInt = 0 → (0 ≤ x4.toInt ∧ x4.toInt ≤ 0)) := b3_4
  replace b3_5 : (x14.1.toInt = 0 → (0 ≤ x11.toInt ∧ x11.toInt ≤ 0)) := b3_5
  refine sIf (fun h4 => ?_) (fun h4 => ?_)
  · have fh4 := eqT h4
    refine sBind (s_X7_kept hN hK (by first | omega | decide) (by first | omega | decide) (by first | omega | decide) (by first | omega | decide) (by first | omega | decide) (by first | omega | decide) (by first | omega | decide) (by first | omega | decide) (by first | omega | decide) (by first | omega | decide)) (fun x28 b5 => ?_)
    refine sIf (fun h6 => ?_) (fun h6 => ?_)
    · have fh6 := ltT h6
      exact s_X7_forgetIf_49  hN hK _ _ _ (by first | omega | decide) (by first | omega | decide) (by first | omega | decide) (by first | omega | decide) (by first | omega | decide) (by first | omega | decide) (by first | omega | decide) (by first | omega | decide) (by first | omega | decide) (by first | omega | decide)
    · have fh6 := ltF h6
      refine sIf (fun h7 => ?_) (fun h7 => ?_)
      · have fh7 := eqT h7
        exact s_X7_forgetIf_50  hN hK _ _ _ _ (by first | omega | decide) (by first | omega | decide) (by first | omega | decide) (by first | omega | decide) (by first | omega | decide) (by first | omega | decide) (by first | omega | decide) (by first | omega | decide) (by first | omega | decide) (by first | omega | decide) (by first | omega | decide) (by first | omega | decide) (by first | omega | decide)
      · have fh7 := eqF h7
        exact s_X7_forgetIf_49  hN hK _ _ _ (by first | omega | decide) (by first | omega | decide) (by first | omega | decide) (by first | omega | decide) (by first | omega | decide) (by first | omega | decide) (by first | omega | decide) (by first | omega | decide) (by first | omega | decide) (by first | omega | decide)
  · have fh4 := eqF h4
    exact sRet ⟨(by show 0 ≤ x14.2.toInt; first | omega | assumption), (by show x14.2.toInt ≤ 2; first | omega | assumption), trivial⟩
set_option maxHeartbeats 2000000 in
theorem s_X7_isSo_56 {N K : Nat} {th : Int32} {f : Nat → Int32} {p0 : Int32} {p1 : Int32} {p2 : Int32} {p3 : Int32} (hN : NBig N) (hK : 100 ≤ K) (hp0 : 0 ≤ th.toInt) (hp1 : th.toInt ≤ 2) (hp2 : 0 ≤ p0.toInt) (hp3 : p0.toInt ≤ 2) (hp4 : 0 ≤ p1.toInt) (hp5 : p1.toInt ≤ 6143) (hp6 : 0 ≤ p2.toInt) (hp7 : p2.toInt ≤ 3) : ∀ (s0 : Int32) (s1 : Int32), 0 ≤ s0.toInt → (s0.toInt = 0 → 0 ≤ th.toInt ∧ th.toInt ≤ 2 ∧ 0 ≤ p0.toInt ∧ p0.toInt ≤ 2 ∧ 0 ≤ p1.toInt ∧ p1.toInt ≤ 6143 ∧ 0 ≤ p2.toInt ∧ p2.toInt ≤ 3) → (s1.toInt = 0 → 0 ≤ th.toInt ∧ th.toInt ≤ 2 ∧ 0 ≤ p0.toInt ∧ p0.toInt ≤ 2 ∧ 0 ≤ p1.toInt ∧ p1.toInt ≤ 6143 ∧ 0 ≤ p2.toInt ∧ p2.toInt ≤ 3 ∧ 0 ≤ p3.toInt ∧ p3.toInt ≤ 0) → Sf (fX7_isSo_56 N K th f p0 p1 p2 p3  s0 s1) (fun (z : Int32) => 0 ≤ z.toInt ∧ z.toInt ≤ 1 ∧ True) := by
  intro s0 s1 hq0 hq1 hq2
  unfold fX7_isSo_56
  have ql0 : (0 : Int32).toInt = 0 := by decide
  have ql1 : (1 : Int32).toInt = 1 := by decide
  refine sIf (fun h1 => ?_) (fun h1 => ?_)
  · have fh1 := eqT h1
    exact sRet ⟨(by show 0 ≤ (1 : Int32).toInt; decide), (by show (1 : Int32).toInt ≤ 1; decide), trivial⟩
  · have fh1 := eqF h1
    exact sRet ⟨(by show 0 ≤ (0 : Int32).toInt; decide), (by show (0 : Int32).toInt ≤ 1; decide), trivial⟩
set_option maxHeartbeats 2000000 in
theorem s_X7_isSo {N K : Nat} {th : Int32} {f : Nat → Int32} {p0 : Int32} {p1 : Int32} {p2 : Int32} {p3 : Int32} (hN : NBig N) (hK : 100 ≤ K) (hp0 : 0 ≤ th.toInt) (hp1 : th.toInt ≤ 2) (hp2 : 0 ≤ p0.toInt) (hp3 : p0.toInt ≤ 2) (hp4 : 0 ≤ p1.toInt) (hp5 : p1.toInt ≤ 6143) (hp6 : 0 ≤ p2.toInt) (hp7 : p2.toInt ≤ 3) : Sf (fX7_isSo N K th f p0 p1 p2 p3) (fun (z : Int32) => 0 ≤ z.toInt ∧ z.toInt ≤ 1 ∧ True) := by
  unfold fX7_isSo
  have ql0 : (0 : Int32).toInt = 0 := by decide
  have ql1 : (1 : Int32).toInt = 1 := by decide
  have ql2 : (2 : Int32).toInt = 2 := by decide
  refine sIfF (noob (by omega) (by omega)) ?_
  refine sIfF (noob (by omega) (by omega)) ?_
  refine sIf (fun h1 => ?_) (fun h1 => ?_)
  · have fh1 := leT h1
    refine sIf (fun h2 => ?_) (fun h2 => ?_)
    · have fh2 := eqT h2
      refine sBind (s_X7_kindOf hN hK (by first | omega | decide) (by first | omega | decide)) (fun x24 b3 => ?_)
      obtain ⟨b3_0, b3_1, -⟩ := b3
      replace b3_0 : 0 ≤ x24.toInt := b3_0
      replace b3_1 : x24.toInt ≤ 5 := b3_1
      exact s_X7_isSo_56  hN hK (by omega) (by omega) (by omega) (by omega) (by omega) (by omega) (by omega) (by omega) _ _ (by first | omega | decide) (by first | omega | decide) (by first | omega | decide)
    · have fh2 := eqF h2
      refine sIf (fun h4 => ?_) (fun h4 => ?_)
      · have fh4 := eqT h4
        refine sBind (s_X7_numberOf hN hK (by first | omega | decide) (by first | omega | decide)) (fun x36 b5 => ?_)
        obtain ⟨b5_0, b5_1, -⟩ := b5
        replace b5_0 : 0 ≤ x36.toInt := b5_0
        replace b5_1 : x36.toInt ≤ 31 := b5_1
        exact s_X7_isSo_56  hN hK (by omega) (by omega) (by omega) (by omega) (by omega) (by omega) (by omega) (by omega) _ _ (by first | omega | decide) (by first | omega | decide) (by first | omega | decide)
      · have fh4 := eqF h4
        refine sIf (fun h6 => ?_) (fun h6 => ?_)
        · have fh6 := eqT h6
          refine sBind (s_X7_measureOf hN hK (by first | omega | decide) (by first | omega | decide)) (fun x48 b7 => ?_)
          obtain ⟨b7_0, b7_1, -⟩ := b7
          replace b7_0 : 0 ≤ x48.toInt := b7_0
          replace b7_1 : x48.toInt ≤ 31 := b7_1
          exact s_X7_isSo_56  hN hK (by omega) (by omega) (by omega) (by omega) (by omega) (by omega) (by omega) (by omega) _ _ (by first | omega | decide) (by first | omega | decide) (by first | omega | decide)
        · have fh6 := eqF h6
          exact s_X7_isSo_56  hN hK (by omega) (by omega) (by omega) (by omega) (by omega) (by omega) (by omega) (by omega) _ _ (by first | omega | decide) (by first | omega | decide) (by first | omega | decide)
  · have fh1 := leF h1
    exact sRet ⟨(by show 0 ≤ (0 : Int32).toInt; decide), (by show (0 : Int32).toInt ≤ 1; decide), trivial⟩
set_option maxHeartbeats 2000000 in
theorem s_X7_counted_6 {N K : Nat} {th : Int32} {f : Nat → Int32} {p0 : Int32} {p1 : Int32} {p2 : Int32} (hN : NBig N) (hK : 100 ≤ K) (hp0 : 0 ≤ th.toInt) (hp1 : th.toInt ≤ 2) (hp2 : 0 ≤ p0.toInt) (hp3 : p0.toInt ≤ 2) (hp4 : 0 ≤ p1.toInt) (hp5 : p1.toInt ≤ 3) : ∀ (fu : Nat) (l4 : Int32) (l5 : Int32), (6144 - l5.toInt).toNat < fu → 0 ≤ l5.toInt → l5.toInt ≤ 6144 → Sf (fX7_counted_6 N K th f p0 p1 p2  fu l4 l5) (fun (z : Int32) => True) := by
  intro fu
  induction fu with
  | zero => intro l4 l5 h0 hq0 hq1; omega
  | succ fu ih =>
    intro l4 l5 h0 hq0 hq1
    unfold fX7_counted_6
    have ql0 : (0 : Int32).toInt = 0 := by decide
    have ql1 : (1 : Int32).toInt = 1 := by decide
    have ql6144 : (6144 : Int32).toInt = 6144 := by decide
    refine sIf (fun h1 => ?_) (fun h1 => ?_)
    · have fh1 := leT h1
      exact sRet trivial
    · have fh1 := leF h1
      refine sBind (s_X7_isSo hN hK (by first | omega | decide) (by first | omega | decide) (by first | omega | decide) (by first | omega | decide) (by first | omega | decide) (by first | omega | decide) (by first | omega | decide) (by first | omega | decide)) (fun x22 b2 => ?_)
      obtain ⟨b2_0, b2_1, -⟩ := b2
      replace b2_0 : 0 ≤ x22.toInt := b2_0
      replace b2_1 : x22.toInt ≤ 1 := b2_1
      refine sBind (s_X7_bit hN hK (by first | omega | decide) (by first | omega | decide)) (fun x25 b3 => ?_)
      obtain ⟨b3_0, b3_1, -⟩ := b3
      replace b3_0 : 0 ≤ x25.toInt := b3_0
      replace b3_1 : x25.toInt ≤ 1 := b3_1
      have t5 := addI (a := l5) (b := (1 : Int32)) (by omega) (by omega)
      exact ih _ _ (by omega) (by first | omega | decide) (by first | omega | decide)
set_option maxHeartbeats 2000000 in
theorem s_X7_counted {N K : Nat} {th : Int32} {f : Nat → Int32} {p0 : Int32} {p1 : Int32} {p2 : Int32} (hN : NBig N) (hK : 100 ≤ K) (hp0 : 0 ≤ th.toInt) (hp1 : th.toInt ≤ 2) (hp2 : 0 ≤ p0.toInt) (hp3 : p0.toInt ≤ 2) (hp4 : 0 ≤ p1.toInt) (hp5 : p1.toInt ≤ 3) : Sf (fX7_counted N K th f p0 p1 p2) (fun (z : Int32) => True) := by
  unfold fX7_counted
  have hN9 := hN.u
  have ql0 : (0 : Int32).toInt = 0 := by decide
  exact s_X7_counted_6  hN hK (by omega) (by omega) (by omega) (by omega) (by omega) (by omega) _ _ _ (by omega) (by first | omega | decide) (by first | omega | decide)
set_option maxHeartbeats 2000000 in
theorem s_X7_forgetAll_63 {N K : Nat} {th : Int32} {f : Nat → Int32} {t : Nat → Int32} {p0 : Int32} {p1 : Int32} {p2 : Int32} (hN : NBig N) (hK : 100 ≤ K)  {k_33 : Int32 → Int32 → Int32 → (Nat → Int32) → (Nat → Int32) → Option (Int32 × Int32 × (Nat → Int32) × (Nat → Int32))} {m_33 : Nat} (hk_33 : ∀ (l4 : Int32) (l5 : Int32) (th_ : Int32) (f_ : (Nat → Int32)) (t_ : (Nat → Int32)), (6144 - l5.toInt).toNat < m_33 → 0 ≤ p0.toInt → p0.toInt ≤ 2 → 0 ≤ p1.toInt → p1.toInt ≤ 3 → 0 ≤ l5.toInt → l5.toInt ≤ 6144 → 0 ≤ th_.toInt → th_.toInt ≤ 2 → Sf (k_33 l4 l5 th_ f_ t_) (fun (z : Int32 × Int32 × (Nat → Int32) × (Nat → Int32)) => 0 ≤ z.2.1.toInt ∧ z.2.1.toInt ≤ 2 ∧ True)) : ∀ (l4 : Int32) (l5 : Int32) (th_ : Int32) (f_ : Nat → Int32) (t_ : Nat → Int32), 0 ≤ p0.toInt → p0.toInt ≤ 2 → 0 ≤ p1.toInt → p1.toInt ≤ 3 → 0 ≤ l5.toInt → l5.toInt ≤ 6143 → 0 ≤ th_.toInt → th_.toInt ≤ 2 → (6144 - l5.toInt).toNat ≤ m_33 → Sf (fX7_forgetAll_63 N K th f t p0 p1 p2 k_33 l4 l5 th_ f_ t_) (fun (z : Int32 × Int32 × (Nat → Int32) × (Nat → Int32)) => 0 ≤ z.2.1.toInt ∧ z.2.1.toInt ≤ 2 ∧ True) := by
  intro l4 l5 th_ f_ t_ hq0 hq1 hq2 hq3 hq4 hq5 hq6 hq7 hq8
  unfold fX7_forgetAll_63
  have ql0 : (0 : Int32).toInt = 0 := by decide
  have ql1 : (1 : Int32).toInt = 1 := by decide
  have t1 := addI (a := l5) (b := (1 : Int32)) (by omega) (by omega)
  exact hk_33 _ _ _ _ _ (by omega) (by first | omega | decide) (by first | omega | decide) (by first | omega | decide) (by first | omega | decide) (by first | omega | decide) (by first | omega | decide) (by first | omega | decide) (by first | omega | decide)
set_option maxHeartbeats 2000000 in
theorem s_X7_forgetAll_33 {N K : Nat} {th : Int32} {f : Nat → Int32} {t : Nat → Int32} {p0 : Int32} {p1 : Int32} {p2 : Int32} (hN : NBig N) (hK : 100 ≤ K)  : ∀ (fu : Nat) (l4 : Int32) (l5 : Int32) (th_ : Int32) (f_ : (Nat → Int32)) (t_ : (Nat → Int32)), (6144 - l5.toInt).toNat < fu → 0 ≤ p0.toInt → p0.toInt ≤ 2 → 0 ≤ p1.toInt → p1.toInt ≤ 3 → 0 ≤ l5.toInt → l5.toInt ≤ 6144 → 0 ≤ th_.toInt → th_.toInt ≤ 2 → Sf (fX7_forgetAll_33 N K th f t p0 p1 p2  fu l4 l5 th_ f_ t_) (fun (z : Int32 × Int32 × (Nat → Int32) × (Nat → Int32)) => 0 ≤ z.2.1.toInt ∧ z.2.1.toInt ≤ 2 ∧ True) := by
  intro fu
  induction fu with
  | zero => intro l4 l5 th_ f_ t_ h0 hq0 hq1 hq2 hq3 hq4 hq5 hq6 hq7; omega
  | succ fu ih =>
    intro l4 l5 th_ f_ t_ h0 hq0 hq1 hq2 hq3 hq4 hq5 hq6 hq7
    unfold fX7_forgetAll_33
    have ql0 : (0 : Int32).toInt = 0 := by decide
    have ql6144 : (6144 : Int32).toInt = 6144 := by decide
    refine sIf (fun h1 => ?_) (fun h1 => ?_)
    · have fh1 := leT h1
      refine sBind (s_X7_done hN hK (by first | omega | decide) (by first | omega | decide)) (fun x72 b2 => ?_)
      exact sRet ⟨(by show 0 ≤ th_.toInt; first | omega | assumption), (by show th_.toInt ≤ 2; first | omega | assumption), trivial⟩
    · have fh1 := leF h1
      refine sBind (s_X7_isSo hN hK (by first | omega | decide) (by first | omega | decide) (by first | omega | decide) (by first | omega | decide) (by first | omega | decide) (by first | omega | decide) (by first | omega | decide) (by first | omega | decide)) (fun x47 b3 => ?_)
      obtain ⟨b3_0, b3_1, -⟩ := b3
      replace b3_0 : 0 ≤ x47.toInt := b3_0
      replace b3_1 : x47.toInt ≤ 1 := b3_1
      refine sIf (fun h4 => ?_) (fun h4 => ?_)
      · have fh4 := eqT h4
        exact s_X7_forgetAll_63 (hk_33 := ih) hN hK _ _ _ _ _ (by first | omega | decide) (by first | omega | decide) (by first | omega | decide) (by first | omega | decide) (by first | omega | decide) (by first | omega | decide) (by first | omega | decide) (by first | omega | decide) (by omega)
      · have fh4 := eqF h4
        refine sIfF (noob (by omega) (by omega)) ?_
        refine sIfF (noob (by omega) (by omega)) ?_
        exact s_X7_forgetAll_63 (hk_33 := ih) hN hK _ _ _ _ _ (by first | omega | decide) (by first | omega | decide) (by first | omega | decide) (by first | omega | decide) (by first | omega | decide) (by first | omega | decide) (by first | omega | decide) (by first | omega | decide) (by omega)
set_option maxHeartbeats 2000000 in
theorem s_X7_forgetAll {N K : Nat} {th : Int32} {f : Nat → Int32} {t : Nat → Int32} {p0 : Int32} {p1 : Int32} {p2 : Int32} (hN : NBig N) (hK : 100 ≤ K)  : Sf (fX7_forgetAll N K th f t p0 p1 p2) (fun (z : Int32 × Int32 × (Nat → Int32) × (Nat → Int32)) => 0 ≤ z.2.1.toInt ∧ z.2.1.toInt ≤ 2 ∧ True) := by
  unfold fX7_forgetAll
  have hN9 := hN.u
  have ql0 : (0 : Int32).toInt = 0 := by decide
  have ql2 : (2 : Int32).toInt = 2 := by decide
  have ql3 : (3 : Int32).toInt = 3 := by decide
  refine sBind (s_X7_isNo hN hK (by first | omega | decide) (by first | omega | decide) (by first | omega | decide) (by first | omega | decide)) (fun x4 b1 => ?_)
  obtain ⟨b1_0, b1_1, b1_2, -⟩ := b1
  replace b1_0 : 0 ≤ x4.toInt := b1_0
  replace b1_1 : x4.toInt ≤ 1 := b1_1
  replace b1_2 : (x4.toInt = 0 → ((0 : Int32).toInt ≤ p0.toInt ∧ p0.toInt ≤ (2 : Int32).toInt)) := b1_2
  refine sBind (s_X7_isNo hN hK (by first | omega | decide) (by first | omega | decide) (by first | omega | decide) (by first | omega | decide)) (fun x10 b2 => ?_)
  obtain ⟨b2_0, b2_1, b2_2, -⟩ := b2
  replace b2_0 : 0 ≤ x10.toInt := b2_0
  replace b2_1 : x10.toInt ≤ 1 := b2_1
  replace b2_2 : (x10.toInt = 0 → ((0 : Int32).toInt ≤ p1.toInt ∧ p1.toInt ≤ (3 : Int32).toInt)) := b2_2
  refine sBind (s_X7_isThrown hN hK (by first | omega | decide) (by first | omega | decide) (by first | omega | decide) (by first | omega | decide)) (fun x13 b3 => ?_)
  obtain ⟨b3_0, b3_1, b3_2, b3_3, b3_4, b3_5, -⟩ := b3
  replace b3_0 : 0 ≤ x13.1.toInt := b3_0
  replace b3_1 : x13.1.toInt ≤ 1 := b3_1
  replace b3_2 : 0 ≤ x13.2.toInt := b3_2
  replace b3_3 : x13.2.toInt ≤ 2 := b3_3
  replace b3_4 : (x13.1.toInt = 0 → (0 ≤ x4.toInt ∧ x4.toInt ≤ 0)) := b3_4
  replace b3_5 : (x13.1.toInt = 0 → (0 ≤ x10.toInt ∧ x10.toInt ≤ 0)) := b3_5
  refine sIf (fun h4 => ?_) (fun h4 => ?_)
  · have fh4 := eqT h4
    refine sBind (s_X7_counted hN hK (by first | omega | decide) (by first | omega | decide) (by first | omega | decide) (by first | omega | decide) (by first | omega | decide) (by first | omega | decide)) (fun x25 b5 => ?_)
    exact s_X7_forgetAll_33  hN hK _ _ _ _ _ _ (by omega) (by first | omega | decide) (by first | omega | decide) (by first | omega | decide) (by first | omega | decide) (by first | omega | decide) (by first | omega | decide) (by first | omega | decide) (by first | omega | decide)
  · have fh4 := eqF h4
    exact sRet ⟨(by show 0 ≤ x13.2.toInt; first | omega | assumption), (by show x13.2.toInt ≤ 2; first | omega | assumption), trivial⟩
set_option maxHeartbeats 2000000 in
theorem s_X7_told2_76 {N K : Nat} {th : Int32} {f : Nat → Int32} {p0 : Int32} {p1 : Int32} (hN : NBig N) (hK : 100 ≤ K) (hp0 : 0 ≤ th.toInt) (hp1 : th.toInt ≤ 2) (hp2 : 0 ≤ p0.toInt) (hp3 : p0.toInt ≤ 2) (hp4 : 0 ≤ p1.toInt) (hp5 : p1.toInt ≤ 3) : ∀ (s0 : Int32), 3 ≤ p1.toInt → p1.toInt ≤ 3 → 0 ≤ s0.toInt → s0.toInt ≤ 1 → (s0.toInt = 0 → 0 ≤ th.toInt ∧ th.toInt ≤ 2 ∧ 0 ≤ p0.toInt ∧ p0.toInt ≤ 2 ∧ 3 ≤ p1.toInt ∧ p1.toInt ≤ 3) → Sf (fX7_told2_76 N K th f p0 p1  s0) (fun (z : Int32) => True) := by
  intro s0 hq0 hq1 hq2 hq3 hq4
  unfold fX7_told2_76
  have ql0 : (0 : Int32).toInt = 0 := by decide
  refine sBind (s_X7_bit hN hK (by first | omega | decide) (by first | omega | decide)) (fun x76 b1 => ?_)
  obtain ⟨b1_0, b1_1, -⟩ := b1
  replace b1_0 : 0 ≤ x76.toInt := b1_0
  replace b1_1 : x76.toInt ≤ 1 := b1_1
  exact sRet trivial
set_option maxHeartbeats 2000000 in
theorem s_X7_told2_56 {N K : Nat} {th : Int32} {f : Nat → Int32} {p0 : Int32} {p1 : Int32} (hN : NBig N) (hK : 100 ≤ K) (hp0 : 0 ≤ th.toInt) (hp1 : th.toInt ≤ 2) (hp2 : 0 ≤ p0.toInt) (hp3 : p0.toInt ≤ 2) (hp4 : 0 ≤ p1.toInt) (hp5 : p1.toInt ≤ 3) {k_5 : Int32 → Int32 → Option (Int32)} {m_5 : Nat} (hk_5 : ∀ (l3 : Int32) (l4 : Int32), (6144 - l4.toInt).toNat < m_5 → 0 ≤ l4.toInt → l4.toInt ≤ 6144 → Sf (k_5 l3 l4) (fun (z : Int32) => True)) : ∀ (l3 : Int32) (l4 : Int32), 0 ≤ l4.toInt → l4.toInt ≤ 6143 → (6144 - l4.toInt).toNat ≤ m_5 → Sf (fX7_told2_56 N K th f p0 p1 k_5 l3 l4) (fun (z : Int32) => True) := by
  intro l3 l4 hq0 hq1 hq2
  unfold fX7_told2_56
  have ql0 : (0 : Int32).toInt = 0 := by decide
  have ql1 : (1 : Int32).toInt = 1 := by decide
  have t1 := addI (a := l4) (b := (1 : Int32)) (by omega) (by omega)
  exact hk_5 _ _ (by omega) (by first | omega | decide) (by first | omega | decide)
set_option maxHeartbeats 2000000 in
theorem s_X7_told2_54 {N K : Nat} {th : Int32} {f : Nat → Int32} {p0 : Int32} {p1 : Int32} (hN : NBig N) (hK : 100 ≤ K) (hp0 : 0 ≤ th.toInt) (hp1 : th.toInt ≤ 2) (hp2 : 0 ≤ p0.toInt) (hp3 : p0.toInt ≤ 2) (hp4 : 0 ≤ p1.toInt) (hp5 : p1.toInt ≤ 3) {k_5 : Int32 → Int32 → Option (Int32)} {m_5 : Nat} (hk_5 : ∀ (l3 : Int32) (l4 : Int32), (6144 - l4.toInt).toNat < m_5 → 0 ≤ l4.toInt → l4.toInt ≤ 6144 → Sf (k_5 l3 l4) (fun (z : Int32) => True)) : ∀ (l4 : Int32) (s0 : Int32) (s1 : Int32), 0 ≤ l4.toInt → l4.toInt ≤ 6143 → (s0.toInt = 0 → 0 ≤ th.toInt ∧ th.toInt ≤ 2 ∧ 0 ≤ p0.toInt ∧ p0.toInt ≤ 2 ∧ 1 ≤ p1.toInt ∧ p1.toInt ≤ 2) → (s1.toInt = 0 → 0 ≤ th.toInt ∧ th.toInt ≤ 2 ∧ 0 ≤ p0.toInt ∧ p0.toInt ≤ 2 ∧ 0 ≤ p1.toInt ∧ p1.toInt ≤ 3) → (6144 - l4.toInt).toNat ≤ m_5 → Sf (fX7_told2_54 N K th f p0 p1 k_5 l4 s0 s1) (fun (z : Int32) => True) := by
  intro l4 s0 s1 hq0 hq1 hq2 hq3 hq4
  unfold fX7_told2_54
  have ql0 : (0 : Int32).toInt = 0 := by decide
  exact s_X7_told2_56 (hk_5 := hk_5) hN hK (by omega) (by omega) (by omega) (by omega) (by omega) (by omega) _ _ (by first | omega | decide) (by first | omega | decide) (by omega)
set_option maxHeartbeats 2000000 in
theorem s_X7_told2_5 {N K : Nat} {th : Int32} {f : Nat → Int32} {p0 : Int32} {p1 : Int32} (hN : NBig N) (hK : 100 ≤ K) (hp0 : 0 ≤ th.toInt) (hp1 : th.toInt ≤ 2) (hp2 : 0 ≤ p0.toInt) (hp3 : p0.toInt ≤ 2) (hp4 : 0 ≤ p1.toInt) (hp5 : p1.toInt ≤ 3) : ∀ (fu : Nat) (l3 : Int32) (l4 : Int32), (6144 - l4.toInt).toNat < fu → 0 ≤ l4.toInt → l4.toInt ≤ 6144 → Sf (fX7_told2_5 N K th f p0 p1  fu l3 l4) (fun (z : Int32) => True) := by
  intro fu
  induction fu with
  | zero => intro l3 l4 h0 hq0 hq1; omega
  | succ fu ih =>
    intro l3 l4 h0 hq0 hq1
    unfold fX7_told2_5
    have ql0 : (0 : Int32).toInt = 0 := by decide
    have ql1 : (1 : Int32).toInt = 1 := by decide
    have ql2 : (2 : Int32).toInt = 2 := by decide
    have ql3 : (3 : Int32).toInt = 3 := by decide
    have ql6144 : (6144 : Int32).toInt = 6144 := by decide
    refine sIf (fun h1 => ?_) (fun h1 => ?_)
    · have fh1 := leT h1
      refine sIf (fun h2 => ?_) (fun h2 => ?_)
      · have fh2 := eqT h2
        refine sIf (fun h3 => ?_) (fun h3 => ?_)
        · have fh3 := eqT h3
          exact s_X7_told2_76  hN hK (by omega) (by omega) (by omega) (by omega) (by omega) (by omega) _ (by first | omega | decide) (by first | omega | decide) (by first | omega | decide) (by first | omega | decide) (by first | omega | decide)
        · have fh3 := eqF h3
          exact s_X7_told2_76  hN hK (by omega) (by omega) (by omega) (by omega) (by omega) (by omega) _ (by first | omega | decide) (by first | omega | decide) (by first | omega | decide) (by first | omega | decide) (by first | omega | decide)
      · have fh2 := eqF h2
        exact sRet trivial
    · have fh1 := leF h1
      refine sIfF (noob (by omega) (by omega)) ?_
      refine sIfF (noob (by omega) (by omega)) ?_
      refine sIf (fun h4 => ?_) (fun h4 => ?_)
      · have fh4 := ltT h4
        exact s_X7_told2_56 (hk_5 := ih) hN hK (by omega) (by omega) (by omega) (by omega) (by omega) (by omega) _ _ (by first | omega | decide) (by first | omega | decide) (by omega)
      · have fh4 := ltF h4
        refine sIf (fun h5 => ?_) (fun h5 => ?_)
        · have fh5 := eqT h5
          exact s_X7_told2_54 (hk_5 := ih) hN hK (by omega) (by omega) (by omega) (by omega) (by omega) (by omega) _ _ _ (by first | omega | decide) (by first | omega | decide) (by first | omega | decide) (by first | omega | decide) (by omega)
        · have fh5 := eqF h5
          refine sIf (fun h7 => ?_) (fun h7 => ?_)
          · have fh7 := eqT h7
            exact s_X7_told2_54 (hk_5 := ih) hN hK (by omega) (by omega) (by omega) (by omega) (by omega) (by omega) _ _ _ (by first | omega | decide) (by first | omega | decide) (by first | omega | decide) (by first | omega | decide) (by omega)
          · have fh7 := eqF h7
            exact s_X7_told2_54 (hk_5 := ih) hN hK (by omega) (by omega) (by omega) (by omega) (by omega) (by omega) _ _ _ (by first | omega | decide) (by first | omega | decide) (by first | omega | decide) (by first | omega | decide) (by omega)
set_option maxHeartbeats 2000000 in
theorem s_X7_told2 {N K : Nat} {th : Int32} {f : Nat → Int32} {p0 : Int32} {p1 : Int32} (hN : NBig N) (hK : 100 ≤ K) (hp0 : 0 ≤ th.toInt) (hp1 : th.toInt ≤ 2) (hp2 : 0 ≤ p0.toInt) (hp3 : p0.toInt ≤ 2) (hp4 : 0 ≤ p1.toInt) (hp5 : p1.toInt ≤ 3) : Sf (fX7_told2 N K th f p0 p1) (fun (z : Int32) => True) := by
  unfold fX7_told2
  have hN9 := hN.u
  have ql0 : (0 : Int32).toInt = 0 := by decide
  exact s_X7_told2_5  hN hK (by omega) (by omega) (by omega) (by omega) (by omega) (by omega) _ _ _ (by omega) (by first | omega | decide) (by first | omega | decide)
set_option maxHeartbeats 2000000 in
theorem s_X7_clear_25 {N K : Nat} {th : Int32} {f : Nat → Int32} {t : Nat → Int32} {p0 : Int32} (hN : NBig N) (hK : 100 ≤ K)  : ∀ (fu : Nat) (l2 : Int32) (l3 : Int32) (th_ : Int32) (f_ : (Nat → Int32)) (t_ : (Nat → Int32)), (6144 - l3.toInt).toNat < fu → 0 ≤ p0.toInt → p0.toInt ≤ 2 → 0 ≤ l3.toInt → l3.toInt ≤ 6144 → 0 ≤ th_.toInt → th_.toInt ≤ 2 → Sf (fX7_clear_25 N K th f t p0  fu l2 l3 th_ f_ t_) (fun (z : Int32 × Int32 × (Nat → Int32) × (Nat → Int32)) => 0 ≤ z.2.1.toInt ∧ z.2.1.toInt ≤ 2 ∧ True) := by
  intro fu
  induction fu with
  | zero => intro l2 l3 th_ f_ t_ h0 hq0 hq1 hq2 hq3 hq4 hq5; omega
  | succ fu ih =>
    intro l2 l3 th_ f_ t_ h0 hq0 hq1 hq2 hq3 hq4 hq5
    unfold fX7_clear_25
    have ql0 : (0 : Int32).toInt = 0 := by decide
    have ql1 : (1 : Int32).toInt = 1 := by decide
    have ql6144 : (6144 : Int32).toInt = 6144 := by decide
    refine sIf (fun h1 => ?_) (fun h1 => ?_)
    · have fh1 := leT h1
      refine sBind (s_X7_done hN hK (by first | omega | decide) (by first | omega | decide)) (fun x49 b2 => ?_)
      exact sRet ⟨(by show 0 ≤ th_.toInt; first | omega | assumption), (by show th_.toInt ≤ 2; first | omega | assumption), trivial⟩
    · have fh1 := leF h1
      refine sIfF (noob (by omega) (by omega)) ?_
      refine sIfF (noob (by omega) (by omega)) ?_
      have t3 := addI (a := l3) (b := (1 : Int32)) (by omega) (by omega)
      exact ih _ _ _ _ _ (by omega) (by first | omega | decide) (by first | omega | decide) (by first | omega | decide) (by first | omega | decide) (by first | omega | decide) (by first | omega | decide)
set_option maxHeartbeats 2000000 in
theorem s_X7_clear {N K : Nat} {th : Int32} {f : Nat → Int32} {t : Nat → Int32} {p0 : Int32} (hN : NBig N) (hK : 100 ≤ K)  : Sf (fX7_clear N K th f t p0) (fun (z : Int32 × Int32 × (Nat → Int32) × (Nat → Int32)) => 0 ≤ z.2.1.toInt ∧ z.2.1.toInt ≤ 2 ∧ True) := by
  unfold fX7_clear
  have hN9 := hN.u
  have ql0 : (0 : Int32).toInt = 0 := by decide
  have ql2 : (2 : Int32).toInt = 2 := by decide
  refine sBind (s_X7_isNo hN hK (by first | omega | decide) (by first | omega | decide) (by first | omega | decide) (by first | omega | decide)) (fun x4 b1 => ?_)
  obtain ⟨b1_0, b1_1, b1_2, -⟩ := b1
  replace b1_0 : 0 ≤ x4.toInt := b1_0
  replace b1_1 : x4.toInt ≤ 1 := b1_1
  replace b1_2 : (x4.toInt = 0 → ((0 : Int32).toInt ≤ p0.toInt ∧ p0.toInt ≤ (2 : Int32).toInt)) := b1_2
  refine sBind (s_X7_isThrown hN hK (by first | omega | decide) (by first | omega | decide) (by first | omega | decide) (by first | omega | decide)) (fun x8 b2 => ?_)
  obtain ⟨b2_0, b2_1, b2_2, b2_3, b2_4, b2_5, -⟩ := b2
  replace b2_0 : 0 ≤ x8.1.toInt := b2_0
  replace b2_1 : x8.1.toInt ≤ 1 := b2_1
  replace b2_2 : 0 ≤ x8.2.toInt := b2_2
  replace b2_3 : x8.2.toInt ≤ 2 := b2_3
  replace b2_4 : (x8.1.toInt = 0 → (0 ≤ x4.toInt ∧ x4.toInt ≤ 0)) := b2_4
  replace b2_5 : (x8.1.toInt = 0 → (0 ≤ (0 : Int32).toInt ∧ (0 : Int32).toInt ≤ 0)) := b2_5
  refine sIf (fun h3 => ?_) (fun h3 => ?_)
  · have fh3 := eqT h3
    refine sBind (s_X7_told2 hN hK (by first | omega | decide) (by first | omega | decide) (by first | omega | decide) (by first | omega | decide) (by first | omega | decide) (by first | omega | decide)) (fun x19 b4 => ?_)
    exact s_X7_clear_25  hN hK _ _ _ _ _ _ (by omega) (by first | omega | decide) (by first | omega | decide) (by first | omega | decide) (by first | omega | decide) (by first | omega | decide) (by first | omega | decide)
  · have fh3 := eqF h3
    exact sRet ⟨(by show 0 ≤ x8.2.toInt; first | omega | assumption), (by show x8.2.toInt ≤ 2; first | omega | assumption), trivial⟩
set_option maxHeartbeats 2000000 in
theorem s_X7_copy_35 {N K : Nat} {th : Int32} {f : Nat → Int32} {f2 : Nat → Int32} {t : Nat → Int32} {p0 : Int32} {p1 : Int32} (hN : NBig N) (hK : 100 ≤ K)  : ∀ (fu : Nat) (l3 : Int32) (th_ : Int32) (f2_ : (Nat → Int32)) (t_ : (Nat → Int32)), (6144 - l3.toInt).toNat < fu → 0 ≤ p0.toInt → p0.toInt ≤ 2 → 0 ≤ p1.toInt → p1.toInt ≤ 2 → 0 ≤ l3.toInt → l3.toInt ≤ 6144 → 0 ≤ th_.toInt → th_.toInt ≤ 2 → Sf (fX7_copy_35 N K th f f2 t p0 p1  fu l3 th_ f2_ t_) (fun (z : Int32 × Int32 × (Nat → Int32) × (Nat → Int32)) => 0 ≤ z.2.1.toInt ∧ z.2.1.toInt ≤ 2 ∧ True) := by
  intro fu
  induction fu with
  | zero => intro l3 th_ f2_ t_ h0 hq0 hq1 hq2 hq3 hq4 hq5 hq6 hq7; omega
  | succ fu ih =>
    intro l3 th_ f2_ t_ h0 hq0 hq1 hq2 hq3 hq4 hq5 hq6 hq7
    unfold fX7_copy_35
    have ql0 : (0 : Int32).toInt = 0 := by decide
    have ql1 : (1 : Int32).toInt = 1 := by decide
    have ql6144 : (6144 : Int32).toInt = 6144 := by decide
    refine sIf (fun h1 => ?_) (fun h1 => ?_)
    · have fh1 := leT h1
      refine sBind (s_X7_told2 hN hK (by first | omega | decide) (by first | omega | decide) (by first | omega | decide) (by first | omega | decide) (by first | omega | decide) (by first | omega | decide)) (fun x68 b2 => ?_)
      refine sBind (s_X7_done hN hK (by first | omega | decide) (by first | omega | decide)) (fun x71 b3 => ?_)
      exact sRet ⟨(by show 0 ≤ th_.toInt; first | omega | assumption), (by show th_.toInt ≤ 2; first | omega | assumption), trivial⟩
    · have fh1 := leF h1
      refine sIfF (noob (by omega) (by omega)) ?_
      refine sIfF (noob (by omega) (by omega)) ?_
      refine sIfF (noob (by omega) (by omega)) ?_
      refine sIfF (noob (by omega) (by omega)) ?_
      have t4 := addI (a := l3) (b := (1 : Int32)) (by omega) (by omega)
      exact ih _ _ _ _ (by omega) (by first | omega | decide) (by first | omega | decide) (by first | omega | decide) (by first | omega | decide) (by first | omega | decide) (by first | omega | decide) (by first | omega | decide) (by first | omega | decide)
set_option maxHeartbeats 2000000 in
theorem s_X7_copy_24 {N K : Nat} {th : Int32} {f : Nat → Int32} {f2 : Nat → Int32} {t : Nat → Int32} {p0 : Int32} {p1 : Int32} (hN : NBig N) (hK : 100 ≤ K)  : ∀ (s0 : Int32) (th_ : Int32) (f2_ : Nat → Int32) (t_ : Nat → Int32), 0 ≤ s0.toInt → s0.toInt ≤ 1 → (s0.toInt = 0 → 0 ≤ p0.toInt ∧ p0.toInt ≤ 2 ∧ 0 ≤ p1.toInt ∧ p1.toInt ≤ 2) → Sf (fX7_copy_24 N K th f f2 t p0 p1  s0 th_ f2_ t_) (fun (z : Int32 × Int32 × (Nat → Int32) × (Nat → Int32)) => 0 ≤ z.2.1.toInt ∧ z.2.1.toInt ≤ 2 ∧ True) := by
  intro s0 th_ f2_ t_ hq0 hq1 hq2
  unfold fX7_copy_24
  have hN9 := hN.u
  have ql0 : (0 : Int32).toInt = 0 := by decide
  refine sBind (s_X7_isThrown hN hK (by first | omega | decide) (by first | omega | decide) (by first | omega | decide) (by first | omega | decide)) (fun x25 b1 => ?_)
  obtain ⟨b1_0, b1_1, b1_2, b1_3, b1_4, b1_5, -⟩ := b1
  replace b1_0 : 0 ≤ x25.1.toInt := b1_0
  replace b1_1 : x25.1.toInt ≤ 1 := b1_1
  replace b1_2 : 0 ≤ x25.2.toInt := b1_2
  replace b1_3 : x25.2.toInt ≤ 2 := b1_3
  replace b1_4 : (x25.1.toInt = 0 → (0 ≤ s0.toInt ∧ s0.toInt ≤ 0)) := b1_4
  replace b1_5 : (x25.1.toInt = 0 → (0 ≤ (0 : Int32).toInt ∧ (0 : Int32).toInt ≤ 0)) := b1_5
  refine sIf (fun h2 => ?_) (fun h2 => ?_)
  · have fh2 := eqT h2
    exact s_X7_copy_35  hN hK _ _ _ _ _ (by omega) (by first | omega | decide) (by first | omega | decide) (by first | omega | decide) (by first | omega | decide) (by first | omega | decide) (by first | omega | decide) (by first | omega | decide) (by first | omega | decide)
  · have fh2 := eqF h2
    exact sRet ⟨(by show 0 ≤ x25.2.toInt; first | omega | assumption), (by show x25.2.toInt ≤ 2; first | omega | assumption), trivial⟩
set_option maxHeartbeats 2000000 in
theorem s_X7_copy_19 {N K : Nat} {th : Int32} {f : Nat → Int32} {f2 : Nat → Int32} {t : Nat → Int32} {p0 : Int32} {p1 : Int32} (hN : NBig N) (hK : 100 ≤ K)  : ∀ (th_ : Int32) (f2_ : Nat → Int32) (t_ : Nat → Int32), Sf (fX7_copy_19 N K th f f2 t p0 p1  th_ f2_ t_) (fun (z : Int32 × Int32 × (Nat → Int32) × (Nat → Int32)) => 0 ≤ z.2.1.toInt ∧ z.2.1.toInt ≤ 2 ∧ True) := by
  intro th_ f2_ t_ 
  unfold fX7_copy_19
  have ql0 : (0 : Int32).toInt = 0 := by decide
  have ql1 : (1 : Int32).toInt = 1 := by decide
  exact s_X7_copy_24  hN hK _ _ _ _ (by first | omega | decide) (by first | omega | decide) (by first | omega | decide)
set_option maxHeartbeats 2000000 in
theorem s_X7_copy {N K : Nat} {th : Int32} {f : Nat → Int32} {f2 : Nat → Int32} {t : Nat → Int32} {p0 : Int32} {p1 : Int32} (hN : NBig N) (hK : 100 ≤ K)  : Sf (fX7_copy N K th f f2 t p0 p1) (fun (z : Int32 × Int32 × (Nat → Int32) × (Nat → Int32)) => 0 ≤ z.2.1.toInt ∧ z.2.1.toInt ≤ 2 ∧ True) := by
  unfold fX7_copy
  have ql0 : (0 : Int32).toInt = 0 := by decide
  have ql2 : (2 : Int32).toInt = 2 := by decide
  refine sBind (s_X7_isNo hN hK (by first | omega | decide) (by first | omega | decide) (by first | omega | decide) (by first | omega | decide)) (fun x4 b1 => ?_)
  obtain ⟨b1_0, b1_1, b1_2, -⟩ := b1
  replace b1_0 : 0 ≤ x4.toInt := b1_0
  replace b1_1 : x4.toInt ≤ 1 := b1_1
  replace b1_2 : (x4.toInt = 0 → ((0 : Int32).toInt ≤ p0.toInt ∧ p0.toInt ≤ (2 : Int32).toInt)) := b1_2
  refine sIf (fun h2 => ?_) (fun h2 => ?_)
  · have fh2 := eqT h2
    refine sBind (s_X7_isNo hN hK (by first | omega | decide) (by first | omega | decide) (by first | omega | decide) (by first | omega | decide)) (fun x13 b3 => ?_)
    obtain ⟨b3_0, b3_1, b3_2, -⟩ := b3
    replace b3_0 : 0 ≤ x13.toInt := b3_0
    replace b3_1 : x13.toInt ≤ 1 := b3_1
    replace b3_2 : (x13.toInt = 0 → ((0 : Int32).toInt ≤ p1.toInt ∧ p1.toInt ≤ (2 : Int32).toInt)) := b3_2
    refine sIf (fun h4 => ?_) (fun h4 => ?_)
    · have fh4 := eqT h4
      exact s_X7_copy_24  hN hK _ _ _ _ (by first | omega | decide) (by first | omega | decide) (by first | omega | decide)
    · have fh4 := eqF h4
      exact s_X7_copy_19  hN hK _ _ _
  · have fh2 := eqF h2
    exact s_X7_copy_19  hN hK _ _ _
set_option maxHeartbeats 2000000 in
theorem s_X7_copyOwn_35 {N K : Nat} {th : Int32} {f : Nat → Int32} {t : Nat → Int32} {p0 : Int32} (hN : NBig N) (hK : 100 ≤ K)  : ∀ (fu : Nat) (l3 : Int32) (th_ : Int32) (f_ : (Nat → Int32)) (t_ : (Nat → Int32)), (6144 - l3.toInt).toNat < fu → 0 ≤ p0.toInt → p0.toInt ≤ 2 → 0 ≤ l3.toInt → l3.toInt ≤ 6144 → 0 ≤ th_.toInt → th_.toInt ≤ 2 → Sf (fX7_copyOwn_35 N K th f t p0  fu l3 th_ f_ t_) (fun (z : Int32 × Int32 × (Nat → Int32) × (Nat → Int32)) => 0 ≤ z.2.1.toInt ∧ z.2.1.toInt ≤ 2 ∧ True) := by
  intro fu
  induction fu with
  | zero => intro l3 th_ f_ t_ h0 hq0 hq1 hq2 hq3 hq4 hq5; omega
  | succ fu ih =>
    intro l3 th_ f_ t_ h0 hq0 hq1 hq2 hq3 hq4 hq5
    unfold fX7_copyOwn_35
    have ql0 : (0 : Int32).toInt = 0 := by decide
    have ql1 : (1 : Int32).toInt = 1 := by decide
    have ql6144 : (6144 : Int32).toInt = 6144 := by decide
    refine sIf (fun h1 => ?_) (fun h1 => ?_)
    · have fh1 := leT h1
      refine sBind (s_X7_told2 hN hK (by first | omega | decide) (by first | omega | decide) (by first | omega | decide) (by first | omega | decide) (by first | omega | decide) (by first | omega | decide)) (fun x68 b2 => ?_)
      refine sBind (s_X7_done hN hK (by first | omega | decide) (by first | omega | decide)) (fun x71 b3 => ?_)
      exact sRet ⟨(by show 0 ≤ th_.toInt; first | omega | assumption), (by show th_.toInt ≤ 2; first | omega | assumption), trivial⟩
    · have fh1 := leF h1
      refine sIfF (noob (by omega) (by omega)) ?_
      refine sIfF (noob (by omega) (by omega)) ?_
      refine sIfF (noob (by omega) (by omega)) ?_
      refine sIfF (noob (by omega) (by omega)) ?_
      have t4 := addI (a := l3) (b := (1 : Int32)) (by omega) (by omega)
      exact ih _ _ _ _ (by omega) (by first | omega | decide) (by first | omega | decide) (by first | omega | decide) (by first | omega | decide) (by first | omega | decide) (by first | omega | decide)
set_option maxHeartbeats 2000000 in
theorem s_X7_copyOwn_24 {N K : Nat} {th : Int32} {f : Nat → Int32} {t : Nat → Int32} {p0 : Int32} (hN : NBig N) (hK : 100 ≤ K)  : ∀ (s0 : Int32) (th_ : Int32) (f_ : Nat → Int32) (t_ : Nat → Int32), 0 ≤ s0.toInt → s0.toInt ≤ 1 → (s0.toInt = 0 → 0 ≤ p0.toInt ∧ p0.toInt ≤ 2) → Sf (fX7_copyOwn_24 N K th f t p0  s0 th_ f_ t_) (fun (z : Int32 × Int32 × (Nat → Int32) × (Nat → Int32)) => 0 ≤ z.2.1.toInt ∧ z.2.1.toInt ≤ 2 ∧ True) := by
  intro s0 th_ f_ t_ hq0 hq1 hq2
  unfold fX7_copyOwn_24
  have hN9 := hN.u
  have ql0 : (0 : Int32).toInt = 0 := by decide
  refine sBind (s_X7_isThrown hN hK (by first | omega | decide) (by first | omega | decide) (by first | omega | decide) (by first | omega | decide)) (fun x25 b1 => ?_)
  obtain ⟨b1_0, b1_1, b1_2, b1_3, b1_4, b1_5, -⟩ := b1
  replace b1_0 : 0 ≤ x25.1.toInt := b1_0
  replace b1_1 : x25.1.toInt ≤ 1 := b1_1
  replace b1_2 : 0 ≤ x25.2.toInt := b1_2
  replace b1_3 : x25.2.toInt ≤ 2 := b1_3
  replace b1_4 : (x25.1.toInt = 0 → (0 ≤ s0.toInt ∧ s0.toInt ≤ 0)) := b1_4
  replace b1_5 : (x25.1.toInt = 0 → (0 ≤ (0 : Int32).toInt ∧ (0 : Int32).toInt ≤ 0)) := b1_5
  refine sIf (fun h2 => ?_) (fun h2 => ?_)
  · have fh2 := eqT h2
    exact s_X7_copyOwn_35  hN hK _ _ _ _ _ (by omega) (by first | omega | decide) (by first | omega | decide) (by first | omega | decide) (by first | omega | decide) (by first | omega | decide) (by first | omega | decide)
  · have fh2 := eqF h2
    exact sRet ⟨(by show 0 ≤ x25.2.toInt; first | omega | assumption), (by show x25.2.toInt ≤ 2; first | omega | assumption), trivial⟩
set_option maxHeartbeats 2000000 in
theorem s_X7_copyOwn_19 {N K : Nat} {th : Int32} {f : Nat → Int32} {t : Nat → Int32} {p0 : Int32} (hN : NBig N) (hK : 100 ≤ K)  : ∀ (th_ : Int32) (f_ : Nat → Int32) (t_ : Nat → Int32), Sf (fX7_copyOwn_19 N K th f t p0  th_ f_ t_) (fun (z : Int32 × Int32 × (Nat → Int32) × (Nat → Int32)) => 0 ≤ z.2.1.toInt ∧ z.2.1.toInt ≤ 2 ∧ True) := by
  intro th_ f_ t_ 
  unfold fX7_copyOwn_19
  have ql0 : (0 : Int32).toInt = 0 := by decide
  have ql1 : (1 : Int32).toInt = 1 := by decide
  exact s_X7_copyOwn_24  hN hK _ _ _ _ (by first | omega | decide) (by first | omega | decide) (by first | omega | decide)
set_option maxHeartbeats 2000000 in
theorem s_X7_copyOwn {N K : Nat} {th : Int32} {f : Nat → Int32} {t : Nat → Int32} {p0 : Int32} (hN : NBig N) (hK : 100 ≤ K)  : Sf (fX7_copyOwn N K th f t p0) (fun (z : Int32 × Int32 × (Nat → Int32) × (Nat → Int32)) => 0 ≤ z.2.1.toInt ∧ z.2.1.toInt ≤ 2 ∧ True) := by
  unfold fX7_copyOwn
  have ql0 : (0 : Int32).toInt = 0 := by decide
  have ql2 : (2 : Int32).toInt = 2 := by decide
  refine sBind (s_X7_isNo hN hK (by first | omega | decide) (by first | omega | decide) (by first | omega | decide) (by first | omega | decide)) (fun x4 b1 => ?_)
  obtain ⟨b1_0, b1_1, b1_2, -⟩ := b1
  replace b1_0 : 0 ≤ x4.toInt := b1_0
  replace b1_1 : x4.toInt ≤ 1 := b1_1
  replace b1_2 : (x4.toInt = 0 → ((0 : Int32).toInt ≤ p0.toInt ∧ p0.toInt ≤ (2 : Int32).toInt)) := b1_2
  refine sIf (fun h2 => ?_) (fun h2 => ?_)
  · have fh2 := eqT h2
    refine sBind (s_X7_isNo hN hK (by first | omega | decide) (by first | omega | decide) (by first | omega | decide) (by first | omega | decide)) (fun x13 b3 => ?_)
    obtain ⟨b3_0, b3_1, b3_2, -⟩ := b3
    replace b3_0 : 0 ≤ x13.toInt := b3_0
    replace b3_1 : x13.toInt ≤ 1 := b3_1
    replace b3_2 : (x13.toInt = 0 → ((0 : Int32).toInt ≤ p0.toInt ∧ p0.toInt ≤ (2 : Int32).toInt)) := b3_2
    refine sIf (fun h4 => ?_) (fun h4 => ?_)
    · have fh4 := eqT h4
      exact s_X7_copyOwn_24  hN hK _ _ _ _ (by first | omega | decide) (by first | omega | decide) (by first | omega | decide)
    · have fh4 := eqF h4
      exact s_X7_copyOwn_19  hN hK _ _ _
  · have fh2 := eqF h2
    exact s_X7_copyOwn_19  hN hK _ _ _
set_option maxHeartbeats 2000000 in
theorem s_X7_pour_91 {N K : Nat} {th : Int32} {f : Nat → Int32} {f2 : Nat → Int32} {t : Nat → Int32} {p0 : Int32} {p1 : Int32} (hN : NBig N) (hK : 100 ≤ K)  {k_53 : Int32 → Int32 → Int32 → (Nat → Int32) → (Nat → Int32) → Option (Int32 × Int32 × (Nat → Int32) × (Nat → Int32))} {m_53 : Nat} (hk_53 : ∀ (l3 : Int32) (l4 : Int32) (th_ : Int32) (f2_ : (Nat → Int32)) (t_ : (Nat → Int32)), (6144 - l4.toInt).toNat < m_53 → 0 ≤ p0.toInt → p0.toInt ≤ 2 → 0 ≤ p1.toInt → p1.toInt ≤ 2 → 0 ≤ l4.toInt → l4.toInt ≤ 6144 → 0 ≤ th_.toInt → th_.toInt ≤ 2 → Sf (k_53 l3 l4 th_ f2_ t_) (fun (z : Int32 × Int32 × (Nat → Int32) × (Nat → Int32)) => 0 ≤ z.2.1.toInt ∧ z.2.1.toInt ≤ 2 ∧ True)) : ∀ (l3 : Int32) (l4 : Int32) (th_ : Int32) (f2_ : Nat → Int32) (t_ : Nat → Int32), 0 ≤ p0.toInt → p0.toInt ≤ 2 → 0 ≤ p1.toInt → p1.toInt ≤ 2 → 0 ≤ l4.toInt → l4.toInt ≤ 6143 → 0 ≤ th_.toInt → th_.toInt ≤ 2 → (6144 - l4.toInt).toNat ≤ m_53 → Sf (fX7_pour_91 N K th f f2 t p0 p1 k_53 l3 l4 th_ f2_ t_) (fun (z : Int32 × Int32 × (Nat → Int32) × (Nat → Int32)) => 0 ≤ z.2.1.toInt ∧ z.2.1.toInt ≤ 2 ∧ True) := by
  intro l3 l4 th_ f2_ t_ hq0 hq1 hq2 hq3 hq4 hq5 hq6 hq7 hq8
  unfold fX7_pour_91
  have ql0 : (0 : Int32).toInt = 0 := by decide
  have ql1 : (1 : Int32).toInt = 1 := by decide
  have t1 := addI (a := l4) (b := (1 : Int32)) (by omega) (by omega)
  exact hk_53 _ _ _ _ _ (by omega) (by first | omega | decide) (by first | omega | decide) (by first | omega | decide) (by first | omega | decide) (by first | omega | decide) (by first | omega | decide) (by first | omega | decide) (by first | omega | decide)
set_option maxHeartbeats 2000000 in
theorem s_X7_pour_53 {N K : Nat} {th : Int32} {f : Nat → Int32} {f2 : Nat → Int32} {t : Nat → Int32} {p0 : Int32} {p1 : Int32} (hN : NBig N) (hK : 100 ≤ K)  : ∀ (fu : Nat) (l3 : Int32) (l4 : Int32) (th_ : Int32) (f2_ : (Nat → Int32)) (t_ : (Nat → Int32)), (6144 - l4.toInt).toNat < fu → 0 ≤ p0.toInt → p0.toInt ≤ 2 → 0 ≤ p1.toInt → p1.toInt ≤ 2 → 0 ≤ l4.toInt → l4.toInt ≤ 6144 → 0 ≤ th_.toInt → th_.toInt ≤ 2 → Sf (fX7_pour_53 N K th f f2 t p0 p1  fu l3 l4 th_ f2_ t_) (fun (z : Int32 × Int32 × (Nat → Int32) × (Nat → Int32)) => 0 ≤ z.2.1.toInt ∧ z.2.1.toInt ≤ 2 ∧ True) := by
  intro fu
  induction fu with
  | zero => intro l3 l4 th_ f2_ t_ h0 hq0 hq1 hq2 hq3 hq4 hq5 hq6 hq7; omega
  | succ fu ih =>
    intro l3 l4 th_ f2_ t_ h0 hq0 hq1 hq2 hq3 hq4 hq5 hq6 hq7
    unfold fX7_pour_53
    have ql0 : (0 : Int32).toInt = 0 := by decide
    have ql6144 : (6144 : Int32).toInt = 6144 := by decide
    refine sIf (fun h1 => ?_) (fun h1 => ?_)
    · have fh1 := leT h1
      refine sBind (s_X7_told2 hN hK (by first | omega | decide) (by first | omega | decide) (by first | omega | decide) (by first | omega | decide) (by first | omega | decide) (by first | omega | decide)) (fun x101 b2 => ?_)
      refine sBind (s_X7_done hN hK (by first | omega | decide) (by first | omega | decide)) (fun x106 b4 => ?_)
      exact sRet ⟨(by show 0 ≤ th_.toInt; first | omega | assumption), (by show th_.toInt ≤ 2; first | omega | assumption), trivial⟩
    · have fh1 := leF h1
      refine sIfF (noob (by omega) (by omega)) ?_
      refine sIfF (noob (by omega) (by omega)) ?_
      refine sIf (fun h5 => ?_) (fun h5 => ?_)
      · have fh5 := ltT h5
        exact s_X7_pour_91 (hk_53 := ih) hN hK _ _ _ _ _ (by first | omega | decide) (by first | omega | decide) (by first | omega | decide) (by first | omega | decide) (by first | omega | decide) (by first | omega | decide) (by first | omega | decide) (by first | omega | decide) (by omega)
      · have fh5 := ltF h5
        refine sIfF (noob (by omega) (by omega)) ?_
        refine sIfF (noob (by omega) (by omega)) ?_
        refine sIfF (noob (by omega) (by omega)) ?_
        refine sIfF (noob (by omega) (by omega)) ?_
        exact s_X7_pour_91 (hk_53 := ih) hN hK _ _ _ _ _ (by first | omega | decide) (by first | omega | decide) (by first | omega | decide) (by first | omega | decide) (by first | omega | decide) (by first | omega | decide) (by first | omega | decide) (by first | omega | decide) (by omega)
set_option maxHeartbeats 2000000 in
theorem s_X7_pour_24 {N K : Nat} {th : Int32} {f : Nat → Int32} {f2 : Nat → Int32} {t : Nat → Int32} {p0 : Int32} {p1 : Int32} (hN : NBig N) (hK : 100 ≤ K)  : ∀ (s0 : Int32) (th_ : Int32) (f2_ : Nat → Int32) (t_ : Nat → Int32), 0 ≤ s0.toInt → s0.toInt ≤ 1 → (s0.toInt = 0 → 0 ≤ p0.toInt ∧ p0.toInt ≤ 2 ∧ 0 ≤ p1.toInt ∧ p1.toInt ≤ 2) → Sf (fX7_pour_24 N K th f f2 t p0 p1  s0 th_ f2_ t_) (fun (z : Int32 × Int32 × (Nat → Int32) × (Nat → Int32)) => 0 ≤ z.2.1.toInt ∧ z.2.1.toInt ≤ 2 ∧ True) := by
  intro s0 th_ f2_ t_ hq0 hq1 hq2
  unfold fX7_pour_24
  have hN9 := hN.u
  have ql0 : (0 : Int32).toInt = 0 := by decide
  refine sBind (s_X7_isThrown hN hK (by first | omega | decide) (by first | omega | decide) (by first | omega | decide) (by first | omega | decide)) (fun x25 b1 => ?_)
  obtain ⟨b1_0, b1_1, b1_2, b1_3, b1_4, b1_5, -⟩ := b1
  replace b1_0 : 0 ≤ x25.1.toInt := b1_0
  replace b1_1 : x25.1.toInt ≤ 1 := b1_1
  replace b1_2 : 0 ≤ x25.2.toInt := b1_2
  replace b1_3 : x25.2.toInt ≤ 2 := b1_3
  replace b1_4 : (x25.1.toInt = 0 → (0 ≤ s0.toInt ∧ s0.toInt ≤ 0)) := b1_4
  replace b1_5 : (x25.1.toInt = 0 → (0 ≤ (0 : Int32).toInt ∧ (0 : Int32).toInt ≤ 0)) := b1_5
  refine sIf (fun h2 => ?_) (fun h2 => ?_)
  · have fh2 := eqT h2
    refine sIf (fun h3 => ?_) (fun h3 => ?_)
    · have fh3 := eqT h3
      refine sBind (s_X7_refused hN hK (by first | omega | decide) (by first | omega | decide)) (fun x39 b4 => ?_)
      obtain ⟨b4_0, b4_1, -⟩ := b4
      replace b4_0 : -9 ≤ x39.1.toInt := b4_0
      replace b4_1 : x39.1.toInt ≤ -9 := b4_1
      exact sRet ⟨(by show 0 ≤ x25.2.toInt; first | omega | assumption), (by show x25.2.toInt ≤ 2; first | omega | assumption), trivial⟩
    · have fh3 := eqF h3
      refine sBind (s_X7_told2 hN hK (by first | omega | decide) (by first | omega | decide) (by first | omega | decide) (by first | omega | decide) (by first | omega | decide) (by first | omega | decide)) (fun x46 b5 => ?_)
      exact s_X7_pour_53  hN hK _ _ _ _ _ _ (by omega) (by first | omega | decide) (by first | omega | decide) (by first | omega | decide) (by first | omega | decide) (by first | omega | decide) (by first | omega | decide) (by first | omega | decide) (by first | omega | decide)
  · have fh2 := eqF h2
    exact sRet ⟨(by show 0 ≤ x25.2.toInt; first | omega | assumption), (by show x25.2.toInt ≤ 2; first | omega | assumption), trivial⟩
set_option maxHeartbeats 2000000 in
theorem s_X7_pour_19 {N K : Nat} {th : Int32} {f : Nat → Int32} {f2 : Nat → Int32} {t : Nat → Int32} {p0 : Int32} {p1 : Int32} (hN : NBig N) (hK : 100 ≤ K)  : ∀ (th_ : Int32) (f2_ : Nat → Int32) (t_ : Nat → Int32), Sf (fX7_pour_19 N K th f f2 t p0 p1  th_ f2_ t_) (fun (z : Int32 × Int32 × (Nat → Int32) × (Nat → Int32)) => 0 ≤ z.2.1.toInt ∧ z.2.1.toInt ≤ 2 ∧ True) := by
  intro th_ f2_ t_ 
  unfold fX7_pour_19
  have ql0 : (0 : Int32).toInt = 0 := by decide
  have ql1 : (1 : Int32).toInt = 1 := by decide
  exact s_X7_pour_24  hN hK _ _ _ _ (by first | omega | decide) (by first | omega | decide) (by first | omega | decide)
set_option maxHeartbeats 2000000 in
theorem s_X7_pour {N K : Nat} {th : Int32} {f : Nat → Int32} {f2 : Nat → Int32} {t : Nat → Int32} {p0 : Int32} {p1 : Int32} (hN : NBig N) (hK : 100 ≤ K)  : Sf (fX7_pour N K th f f2 t p0 p1) (fun (z : Int32 × Int32 × (Nat → Int32) × (Nat → Int32)) => 0 ≤ z.2.1.toInt ∧ z.2.1.toInt ≤ 2 ∧ True) := by
  unfold fX7_pour
  have ql0 : (0 : Int32).toInt = 0 := by decide
  have ql2 : (2 : Int32).toInt = 2 := by decide
  refine sBind (s_X7_isNo hN hK (by first | omega | decide) (by first | omega | decide) (by first | omega | decide) (by first | omega | decide)) (fun x4 b1 => ?_)
  obtain ⟨b1_0, b1_1, b1_2, -⟩ := b1
  replace b1_0 : 0 ≤ x4.toInt := b1_0
  replace b1_1 : x4.toInt ≤ 1 := b1_1
  replace b1_2 : (x4.toInt = 0 → ((0 : Int32).toInt ≤ p0.toInt ∧ p0.toInt ≤ (2 : Int32).toInt)) := b1_2
  refine sIf (fun h2 => ?_) (fun h2 => ?_)
  · have fh2 := eqT h2
    refine sBind (s_X7_isNo hN hK (by first | omega | decide) (by first | omega | decide) (by first | omega | decide) (by first | omega | decide)) (fun x13 b3 => ?_)
    obtain ⟨b3_0, b3_1, b3_2, -⟩ := b3
    replace b3_0 : 0 ≤ x13.toInt := b3_0
    replace b3_1 : x13.toInt ≤ 1 := b3_1
    replace b3_2 : (x13.toInt = 0 → ((0 : Int32).toInt ≤ p1.toInt ∧ p1.toInt ≤ (2 : Int32).toInt)) := b3_2
    refine sIf (fun h4 => ?_) (fun h4 => ?_)
    · have fh4 := eqT h4
      exact s_X7_pour_24  hN hK _ _ _ _ (by first | omega | decide) (by first | omega | decide) (by first | omega | decide)
    · have fh4 := eqF h4
      exact s_X7_pour_19  hN hK _ _ _
  · have fh2 := eqF h2
    exact s_X7_pour_19  hN hK _ _ _
set_option maxHeartbeats 2000000 in
theorem s_X7_pourOwn_24 {N K : Nat} {th : Int32} {f : Nat → Int32} {t : Nat → Int32} {p0 : Int32} (hN : NBig N) (hK : 100 ≤ K)  : ∀ (s0 : Int32) (th_ : Int32) (t_ : Nat → Int32), 0 ≤ s0.toInt → s0.toInt ≤ 1 → (s0.toInt = 0 → 0 ≤ p0.toInt ∧ p0.toInt ≤ 2) → Sf (fX7_pourOwn_24 N K th f t p0  s0 th_ t_) (fun (z : Int32 × Int32 × (Nat → Int32)) => -9 ≤ z.1.toInt ∧ z.1.toInt ≤ 0 ∧ 0 ≤ z.2.1.toInt ∧ z.2.1.toInt ≤ 2 ∧ True) := by
  intro s0 th_ t_ hq0 hq1 hq2
  unfold fX7_pourOwn_24
  have ql0 : (0 : Int32).toInt = 0 := by decide
  refine sBind (s_X7_isThrown hN hK (by first | omega | decide) (by first | omega | decide) (by first | omega | decide) (by first | omega | decide)) (fun x25 b1 => ?_)
  obtain ⟨b1_0, b1_1, b1_2, b1_3, b1_4, b1_5, -⟩ := b1
  replace b1_0 : 0 ≤ x25.1.toInt := b1_0
  replace b1_1 : x25.1.toInt ≤ 1 := b1_1
  replace b1_2 : 0 ≤ x25.2.toInt := b1_2
  replace b1_3 : x25.2.toInt ≤ 2 := b1_3
  replace b1_4 : (x25.1.toInt = 0 → (0 ≤ s0.toInt ∧ s0.toInt ≤ 0)) := b1_4
  replace b1_5 : (x25.1.toInt = 0 → (0 ≤ (0 : Int32).toInt ∧ (0 : Int32).toInt ≤ 0)) := b1_5
  refine sIf (fun h2 => ?_) (fun h2 => ?_)
  · have fh2 := eqT h2
    refine sBind (s_X7_refused hN hK (by first | omega | decide) (by first | omega | decide)) (fun x39 b3 => ?_)
    obtain ⟨b3_0, b3_1, -⟩ := b3
    replace b3_0 : -9 ≤ x39.1.toInt := b3_0
    replace b3_1 : x39.1.toInt ≤ -9 := b3_1
    exact sRet ⟨(by show -9 ≤ x39.1.toInt; first | omega | assumption), (by show x39.1.toInt ≤ 0; first | omega | assumption), (by show 0 ≤ x25.2.toInt; first | omega | assumption), (by show x25.2.toInt ≤ 2; first | omega | assumption), trivial⟩
  · have fh2 := eqF h2
    exact sRet ⟨(by show -9 ≤ (0 : Int32).toInt; decide), (by show (0 : Int32).toInt ≤ 0; decide), (by show 0 ≤ x25.2.toInt; first | omega | assumption), (by show x25.2.toInt ≤ 2; first | omega | assumption), trivial⟩
set_option maxHeartbeats 2000000 in
theorem s_X7_pourOwn_19 {N K : Nat} {th : Int32} {f : Nat → Int32} {t : Nat → Int32} {p0 : Int32} (hN : NBig N) (hK : 100 ≤ K)  : ∀ (th_ : Int32) (t_ : Nat → Int32), Sf (fX7_pourOwn_19 N K th f t p0  th_ t_) (fun (z : Int32 × Int32 × (Nat → Int32)) => -9 ≤ z.1.toInt ∧ z.1.toInt ≤ 0 ∧ 0 ≤ z.2.1.toInt ∧ z.2.1.toInt ≤ 2 ∧ True) := by
  intro th_ t_ 
  unfold fX7_pourOwn_19
  have ql0 : (0 : Int32).toInt = 0 := by decide
  have ql1 : (1 : Int32).toInt = 1 := by decide
  exact s_X7_pourOwn_24  hN hK _ _ _ (by first | omega | decide) (by first | omega | decide) (by first | omega | decide)
set_option maxHeartbeats 2000000 in
theorem s_X7_pourOwn {N K : Nat} {th : Int32} {f : Nat → Int32} {t : Nat → Int32} {p0 : Int32} (hN : NBig N) (hK : 100 ≤ K)  : Sf (fX7_pourOwn N K th f t p0) (fun (z : Int32 × Int32 × (Nat → Int32)) => -9 ≤ z.1.toInt ∧ z.1.toInt ≤ 0 ∧ 0 ≤ z.2.1.toInt ∧ z.2.1.toInt ≤ 2 ∧ True) := by
  unfold fX7_pourOwn
  have ql0 : (0 : Int32).toInt = 0 := by decide
  have ql2 : (2 : Int32).toInt = 2 := by decide
  refine sBind (s_X7_isNo hN hK (by first | omega | decide) (by first | omega | decide) (by first | omega | decide) (by first | omega | decide)) (fun x4 b1 => ?_)
  obtain ⟨b1_0, b1_1, b1_2, -⟩ := b1
  replace b1_0 : 0 ≤ x4.toInt := b1_0
  replace b1_1 : x4.toInt ≤ 1 := b1_1
  replace b1_2 : (x4.toInt = 0 → ((0 : Int32).toInt ≤ p0.toInt ∧ p0.toInt ≤ (2 : Int32).toInt)) := b1_2
  refine sIf (fun h2 => ?_) (fun h2 => ?_)
  · have fh2 := eqT h2
    refine sBind (s_X7_isNo hN hK (by first | omega | decide) (by first | omega | decide) (by first | omega | decide) (by first | omega | decide)) (fun x13 b3 => ?_)
    obtain ⟨b3_0, b3_1, b3_2, -⟩ := b3
    replace b3_0 : 0 ≤ x13.toInt := b3_0
    replace b3_1 : x13.toInt ≤ 1 := b3_1
    replace b3_2 : (x13.toInt = 0 → ((0 : Int32).toInt ≤ p0.toInt ∧ p0.toInt ≤ (2 : Int32).toInt)) := b3_2
    refine sIf (fun h4 => ?_) (fun h4 => ?_)
    · have fh4 := eqT h4
      exact s_X7_pourOwn_24  hN hK _ _ _ (by first | omega | decide) (by first | omega | decide) (by first | omega | decide)
    · have fh4 := eqF h4
      exact s_X7_pourOwn_19  hN hK _ _
  · have fh2 := eqF h2
    exact s_X7_pourOwn_19  hN hK _ _
set_option maxHeartbeats 2000000 in
theorem s_X7_isKept_32 {N K : Nat} {th : Int32} {f : Nat → Int32} {p0 : Int32} {p1 : Int32} {p2 : Int32} {p3 : Int32} {p4 : Int32} (hN : NBig N) (hK : 100 ≤ K)  : ∀ (s0 : Int32) (s1 : Int32) (th_ : Int32), 0 ≤ s0.toInt → s0.toInt ≤ 1 → 0 ≤ s1.toInt → s1.toInt ≤ 1 → (s0.toInt = 0 → 0 ≤ p1.toInt ∧ p1.toInt ≤ 5 ∧ 0 ≤ p2.toInt ∧ p2.toInt ≤ 20 ∧ 0 ≤ p3.toInt ∧ p3.toInt ≤ 20 ∧ 0 ≤ p4.toInt ∧ p4.toInt ≤ 2) → (s1.toInt = 0 → 0 ≤ p0.toInt ∧ p0.toInt ≤ 2) → Sf (fX7_isKept_32 N K th f p0 p1 p2 p3 p4  s0 s1 th_) (fun (z : Int32 × Int32) => 0 ≤ z.1.toInt ∧ z.1.toInt ≤ 1 ∧ 0 ≤ z.2.toInt ∧ z.2.toInt ≤ 2 ∧ True) := by
  intro s0 s1 th_ hq0 hq1 hq2 hq3 hq4 hq5
  unfold fX7_isKept_32
  have ql0 : (0 : Int32).toInt = 0 := by decide
  have ql1 : (1 : Int32).toInt = 1 := by decide
  refine sBind (s_X7_isThrown hN hK (by first | omega | decide) (by first | omega | decide) (by first | omega | decide) (by first | omega | decide)) (fun x32 b1 => ?_)
  obtain ⟨b1_0, b1_1, b1_2, b1_3, b1_4, b1_5, -⟩ := b1
  replace b1_0 : 0 ≤ x32.1.toInt := b1_0
  replace b1_1 : x32.1.toInt ≤ 1 := b1_1
  replace b1_2 : 0 ≤ x32.2.toInt := b1_2
  replace b1_3 : x32.2.toInt ≤ 2 := b1_3
  replace b1_4 : (x32.1.toInt = 0 → (0 ≤ s1.toInt ∧ s1.toInt ≤ 0)) := b1_4
  replace b1_5 : (x32.1.toInt = 0 → (0 ≤ s0.toInt ∧ s0.toInt ≤ 0)) := b1_5
  refine sIf (fun h2 => ?_) (fun h2 => ?_)
  · have fh2 := eqT h2
    refine sBind (s_X7_kept hN hK (by first | omega | decide) (by first | omega | decide) (by first | omega | decide) (by first | omega | decide) (by first | omega | decide) (by first | omega | decide) (by first | omega | decide) (by first | omega | decide) (by first | omega | decide) (by first | omega | decide)) (fun x44 b3 => ?_)
    refine sIf (fun h4 => ?_) (fun h4 => ?_)
    · have fh4 := ltT h4
      exact sRet ⟨(by show 0 ≤ (0 : Int32).toInt; decide), (by show (0 : Int32).toInt ≤ 1; decide), (by show 0 ≤ x32.2.toInt; first | omega | assumption), (by show x32.2.toInt ≤ 2; first | omega | assumption), trivial⟩
    · have fh4 := ltF h4
      exact sRet ⟨(by show 0 ≤ (1 : Int32).toInt; decide), (by show (1 : Int32).toInt ≤ 1; decide), (by show 0 ≤ x32.2.toInt; first | omega | assumption), (by show x32.2.toInt ≤ 2; first | omega | assumption), trivial⟩
  · have fh2 := eqF h2
    exact sRet ⟨(by show 0 ≤ (0 : Int32).toInt; decide), (by show (0 : Int32).toInt ≤ 1; decide), (by show 0 ≤ x32.2.toInt; first | omega | assumption), (by show x32.2.toInt ≤ 2; first | omega | assumption), trivial⟩
set_option maxHeartbeats 2000000 in
theorem s_X7_isKept_27 {N K : Nat} {th : Int32} {f : Nat → Int32} {p0 : Int32} {p1 : Int32} {p2 : Int32} {p3 : Int32} {p4 : Int32} (hN : NBig N) (hK : 100 ≤ K)  : ∀ (s0 : Int32) (th_ : Int32), 0 ≤ s0.toInt → s0.toInt ≤ 1 → (s0.toInt = 0 → 0 ≤ p0.toInt ∧ p0.toInt ≤ 2) → Sf (fX7_isKept_27 N K th f p0 p1 p2 p3 p4  s0 th_) (fun (z : Int32 × Int32) => 0 ≤ z.1.toInt ∧ z.1.toInt ≤ 1 ∧ 0 ≤ z.2.toInt ∧ z.2.toInt ≤ 2 ∧ True) := by
  intro s0 th_ hq0 hq1 hq2
  unfold fX7_isKept_27
  have ql0 : (0 : Int32).toInt = 0 := by decide
  have ql1 : (1 : Int32).toInt = 1 := by decide
  exact s_X7_isKept_32  hN hK _ _ _ (by first | omega | decide) (by first | omega | decide) (by first | omega | decide) (by first | omega | decide) (by first | omega | decide) (by first | omega | decide)
set_option maxHeartbeats 2000000 in
theorem s_X7_isKept {N K : Nat} {th : Int32} {f : Nat → Int32} {p0 : Int32} {p1 : Int32} {p2 : Int32} {p3 : Int32} {p4 : Int32} (hN : NBig N) (hK : 100 ≤ K)  : Sf (fX7_isKept N K th f p0 p1 p2 p3 p4) (fun (z : Int32 × Int32) => 0 ≤ z.1.toInt ∧ z.1.toInt ≤ 1 ∧ 0 ≤ z.2.toInt ∧ z.2.toInt ≤ 2 ∧ True) := by
  unfold fX7_isKept
  have ql0 : (0 : Int32).toInt = 0 := by decide
  have ql2 : (2 : Int32).toInt = 2 := by decide
  refine sBind (s_X7_isNo hN hK (by first | omega | decide) (by first | omega | decide) (by first | omega | decide) (by first | omega | decide)) (fun x4 b1 => ?_)
  obtain ⟨b1_0, b1_1, b1_2, -⟩ := b1
  replace b1_0 : 0 ≤ x4.toInt := b1_0
  replace b1_1 : x4.toInt ≤ 1 := b1_1
  replace b1_2 : (x4.toInt = 0 → ((0 : Int32).toInt ≤ p0.toInt ∧ p0.toInt ≤ (2 : Int32).toInt)) := b1_2
  refine sBind (s_X7_isOut hN hK) (fun x11 b2 => ?_)
  obtain ⟨b2_0, b2_1, b2_2, b2_3, b2_4, -⟩ := b2
  replace b2_0 : 0 ≤ x11.toInt := b2_0
  replace b2_1 : x11.toInt ≤ 1 := b2_1
  replace b2_2 : (x11.toInt = 0 → (0 ≤ p1.toInt ∧ p1.toInt ≤ 5)) := b2_2
  replace b2_3 : (x11.toInt = 0 → (0 ≤ p2.toInt ∧ p2.toInt ≤ 20)) := b2_3
  replace b2_4 : (x11.toInt = 0 → (0 ≤ p3.toInt ∧ p3.toInt ≤ 20)) := b2_4
  refine sIf (fun h3 => ?_) (fun h3 => ?_)
  · have fh3 := eqT h3
    refine sBind (s_X7_isNo hN hK (by first | omega | decide) (by first | omega | decide) (by first | omega | decide) (by first | omega | decide)) (fun x21 b4 => ?_)
    obtain ⟨b4_0, b4_1, b4_2, -⟩ := b4
    replace b4_0 : 0 ≤ x21.toInt := b4_0
    replace b4_1 : x21.toInt ≤ 1 := b4_1
    replace b4_2 : (x21.toInt = 0 → ((0 : Int32).toInt ≤ p4.toInt ∧ p4.toInt ≤ (2 : Int32).toInt)) := b4_2
    refine sIf (fun h5 => ?_) (fun h5 => ?_)
    · have fh5 := eqT h5
      exact s_X7_isKept_32  hN hK _ _ _ (by first | omega | decide) (by first | omega | decide) (by first | omega | decide) (by first | omega | decide) (by first | omega | decide) (by first | omega | decide)
    · have fh5 := eqF h5
      exact s_X7_isKept_27  hN hK _ _ (by first | omega | decide) (by first | omega | decide) (by first | omega | decide)
  · have fh3 := eqF h3
    exact s_X7_isKept_27  hN hK _ _ (by first | omega | decide) (by first | omega | decide) (by first | omega | decide)
set_option maxHeartbeats 2000000 in
theorem s_X7_worthOr {N K : Nat} {th : Int32} {f : Nat → Int32} {p0 : Int32} {p1 : Int32} {p2 : Int32} {p3 : Int32} {p4 : Int32} (hN : NBig N) (hK : 100 ≤ K)  : Sf (fX7_worthOr N K th f p0 p1 p2 p3 p4) (fun (z : Int32 × Int32) => 0 ≤ z.2.toInt ∧ z.2.toInt ≤ 2 ∧ True) := by
  unfold fX7_worthOr
  have ql0 : (0 : Int32).toInt = 0 := by decide
  have ql2 : (2 : Int32).toInt = 2 := by decide
  refine sBind (s_X7_isNo hN hK (by first | omega | decide) (by first | omega | decide) (by first | omega | decide) (by first | omega | decide)) (fun x4 b1 => ?_)
  obtain ⟨b1_0, b1_1, b1_2, -⟩ := b1
  replace b1_0 : 0 ≤ x4.toInt := b1_0
  replace b1_1 : x4.toInt ≤ 1 := b1_1
  replace b1_2 : (x4.toInt = 0 → ((0 : Int32).toInt ≤ p0.toInt ∧ p0.toInt ≤ (2 : Int32).toInt)) := b1_2
  refine sBind (s_X7_isOut hN hK) (fun x11 b2 => ?_)
  obtain ⟨b2_0, b2_1, b2_2, b2_3, b2_4, -⟩ := b2
  replace b2_0 : 0 ≤ x11.toInt := b2_0
  replace b2_1 : x11.toInt ≤ 1 := b2_1
  replace b2_2 : (x11.toInt = 0 → (0 ≤ p1.toInt ∧ p1.toInt ≤ 5)) := b2_2
  replace b2_3 : (x11.toInt = 0 → (0 ≤ p2.toInt ∧ p2.toInt ≤ 20)) := b2_3
  replace b2_4 : (x11.toInt = 0 → (0 ≤ p3.toInt ∧ p3.toInt ≤ 20)) := b2_4
  refine sBind (s_X7_isThrown hN hK (by first | omega | decide) (by first | omega | decide) (by first | omega | decide) (by first | omega | decide)) (fun x14 b3 => ?_)
  obtain ⟨b3_0, b3_1, b3_2, b3_3, b3_4, b3_5, -⟩ := b3
  replace b3_0 : 0 ≤ x14.1.toInt := b3_0
  replace b3_1 : x14.1.toInt ≤ 1 := b3_1
  replace b3_2 : 0 ≤ x14.2.toInt := b3_2
  replace b3_3 : x14.2.toInt ≤ 2 := b3_3
  replace b3_4 : (x14.1.toInt = 0 → (0 ≤ x4.toInt ∧ x4.toInt ≤ 0)) := b3_4
  replace b3_5 : (x14.1.toInt = 0 → (0 ≤ x11.toInt ∧ x11.toInt ≤ 0)) := b3_5
  refine sIf (fun h4 => ?_) (fun h4 => ?_)
  · have fh4 := eqT h4
    refine sBind (s_X7_kept hN hK (by first | omega | decide) (by first | omega | decide) (by first | omega | decide) (by first | omega | decide) (by first | omega | decide) (by first | omega | decide) (by first | omega | decide) (by first | omega | decide) (by first | omega | decide) (by first | omega | decide)) (fun x28 b5 => ?_)
    refine sIf (fun h6 => ?_) (fun h6 => ?_)
    · have fh6 := leT h6
      exact sRet ⟨(by show 0 ≤ x14.2.toInt; first | omega | assumption), (by show x14.2.toInt ≤ 2; first | omega | assumption), trivial⟩
    · have fh6 := leF h6
      exact sRet ⟨(by show 0 ≤ x14.2.toInt; first | omega | assumption), (by show x14.2.toInt ≤ 2; first | omega | assumption), trivial⟩
  · have fh4 := eqF h4
    exact sRet ⟨(by show 0 ≤ x14.2.toInt; first | omega | assumption), (by show x14.2.toInt ≤ 2; first | omega | assumption), trivial⟩
set_option maxHeartbeats 2000000 in
theorem s_X7_confirm {N K : Nat} {th : Int32} {f : Nat → Int32} {p0 : Int32} {p1 : Int32} {p2 : Int32} {p3 : Int32} {p4 : Int32} (hN : NBig N) (hK : 100 ≤ K)  : Sf (fX7_confirm N K th f p0 p1 p2 p3 p4) (fun (z : Int32 × Int32) => 0 ≤ z.1.toInt ∧ z.1.toInt ≤ 1 ∧ 0 ≤ z.2.toInt ∧ z.2.toInt ≤ 2 ∧ True) := by
  unfold fX7_confirm
  have ql0 : (0 : Int32).toInt = 0 := by decide
  have ql1 : (1 : Int32).toInt = 1 := by decide
  have ql2 : (2 : Int32).toInt = 2 := by decide
  refine sBind (s_X7_isNo hN hK (by first | omega | decide) (by first | omega | decide) (by first | omega | decide) (by first | omega | decide)) (fun x4 b1 => ?_)
  obtain ⟨b1_0, b1_1, b1_2, -⟩ := b1
  replace b1_0 : 0 ≤ x4.toInt := b1_0
  replace b1_1 : x4.toInt ≤ 1 := b1_1
  replace b1_2 : (x4.toInt = 0 → ((0 : Int32).toInt ≤ p0.toInt ∧ p0.toInt ≤ (2 : Int32).toInt)) := b1_2
  refine sBind (s_X7_isOut hN hK) (fun x11 b2 => ?_)
  obtain ⟨b2_0, b2_1, b2_2, b2_3, b2_4, -⟩ := b2
  replace b2_0 : 0 ≤ x11.toInt := b2_0
  replace b2_1 : x11.toInt ≤ 1 := b2_1
  replace b2_2 : (x11.toInt = 0 → (0 ≤ p1.toInt ∧ p1.toInt ≤ 5)) := b2_2
  replace b2_3 : (x11.toInt = 0 → (0 ≤ p2.toInt ∧ p2.toInt ≤ 20)) := b2_3
  replace b2_4 : (x11.toInt = 0 → (0 ≤ p3.toInt ∧ p3.toInt ≤ 20)) := b2_4
  refine sBind (s_X7_isThrown hN hK (by first | omega | decide) (by first | omega | decide) (by first | omega | decide) (by first | omega | decide)) (fun x14 b3 => ?_)
  obtain ⟨b3_0, b3_1, b3_2, b3_3, b3_4, b3_5, -⟩ := b3
  replace b3_0 : 0 ≤ x14.1.toInt := b3_0
  replace b3_1 : x14.1.toInt ≤ 1 := b3_1
  replace b3_2 : 0 ≤ x14.2.toInt := b3_2
  replace b3_3 : x14.2.toInt ≤ 2 := b3_3
  replace b3_4 : (x14.1.toInt = 0 → (0 ≤ x4.toInt ∧ x4.toInt ≤ 0)) := b3_4
  replace b3_5 : (x14.1.toInt = 0 → (0 ≤ x11.toInt ∧ x11.toInt ≤ 0)) := b3_5
  refine sIf (fun h4 => ?_) (fun h4 => ?_)
  · have fh4 := eqT h4
    refine sBind (s_X7_kept hN hK (by first | omega | decide) (by first | omega | decide) (by first | omega | decide) (by first | omega | decide) (by first | omega | decide) (by first | omega | decide) (by first | omega | decide) (by first | omega | decide) (by first | omega | decide) (by first | omega | decide)) (fun x28 b5 => ?_)
    refine sIf (fun h6 => ?_) (fun h6 => ?_)
    · have fh6 := ltT h6
      exact sRet ⟨(by show 0 ≤ (0 : Int32).toInt; decide), (by show (0 : Int32).toInt ≤ 1; decide), (by show 0 ≤ x14.2.toInt; first | omega | assumption), (by show x14.2.toInt ≤ 2; first | omega | assumption), trivial⟩
    · have fh6 := ltF h6
      refine sIf (fun h7 => ?_) (fun h7 => ?_)
      · have fh7 := eqT h7
        exact sRet ⟨(by show 0 ≤ (1 : Int32).toInt; decide), (by show (1 : Int32).toInt ≤ 1; decide), (by show 0 ≤ x14.2.toInt; first | omega | assumption), (by show x14.2.toInt ≤ 2; first | omega | assumption), trivial⟩
      · have fh7 := eqF h7
        exact sRet ⟨(by show 0 ≤ (0 : Int32).toInt; decide), (by show (0 : Int32).toInt ≤ 1; decide), (by show 0 ≤ x14.2.toInt; first | omega | assumption), (by show x14.2.toInt ≤ 2; first | omega | assumption), trivial⟩
  · have fh4 := eqF h4
    exact sRet ⟨(by show 0 ≤ (0 : Int32).toInt; decide), (by show (0 : Int32).toInt ≤ 1; decide), (by show 0 ≤ x14.2.toInt; first | omega | assumption), (by show x14.2.toInt ≤ 2; first | omega | assumption), trivial⟩

end MG_50hsafe
section MG_50isafe
set_option maxHeartbeats 2000000 in
theorem s_X7_about {N K : Nat} {th : Int32} {f : Nat → Int32} {p0 : Int32} {p1 : Int32} (hN : NBig N) (hK : 100 ≤ K)  : Sf (fX7_about N K th f p0 p1) (fun (z : Int32 × Int32) => 0 ≤ z.2.toInt ∧ z.2.toInt ≤ 2 ∧ True) := by
  unfold fX7_about
  have ql0 : (0 : Int32).toInt = 0 := by decide
  have ql2 : (2 : Int32).toInt = 2 := by decide
  have ql3 : (3 : Int32).toInt = 3 := by decide
  refine sBind (s_X7_isNo hN hK (by first | omega | decide) (by first | omega | decide) (by first | omega | decide) (by first | omega | decide)) (fun x4 b1 => ?_)
  obtain ⟨b1_0, b1_1, b1_2, -⟩ := b1
  replace b1_0 : 0 ≤ x4.toInt := b1_0
  replace b1_1 : x4.toInt ≤ 1 := b1_1
  replace b1_2 : (x4.toInt = 0 → ((0 : Int32).toInt ≤ p0.toInt ∧ p0.toInt ≤ (2 : Int32).toInt)) := b1_2
  refine sBind (s_X7_isNo hN hK (by first | omega | decide) (by first | omega | decide) (by first | omega | decide) (by first | omega | decide)) (fun x10 b2 => ?_)
  obtain ⟨b2_0, b2_1, b2_2, -⟩ := b2
  replace b2_0 : 0 ≤ x10.toInt := b2_0
  replace b2_1 : x10.toInt ≤ 1 := b2_1
  replace b2_2 : (x10.toInt = 0 → ((0 : Int32).toInt ≤ p1.toInt ∧ p1.toInt ≤ (3 : Int32).toInt)) := b2_2
  refine sBind (s_X7_isThrown hN hK (by first | omega | decide) (by first | omega | decide) (by first | omega | decide) (by first | omega | decide)) (fun x13 b3 => ?_)
  obtain ⟨b3_0, b3_1, b3_2, b3_3, b3_4, b3_5, -⟩ := b3
  replace b3_0 : 0 ≤ x13.1.toInt := b3_0
  replace b3_1 : x13.1.toInt ≤ 1 := b3_1
  replace b3_2 : 0 ≤ x13.2.toInt := b3_2
  replace b3_3 : x13.2.toInt ≤ 2 := b3_3
  replace b3_4 : (x13.1.toInt = 0 → (0 ≤ x4.toInt ∧ x4.toInt ≤ 0)) := b3_4
  replace b3_5 : (x13.1.toInt = 0 → (0 ≤ x10.toInt ∧ x10.toInt ≤ 0)) := b3_5
  refine sIf (fun h4 => ?_) (fun h4 => ?_)
  · have fh4 := eqT h4
    refine sBind (s_X7_told2 hN hK (by first | omega | decide) (by first | omega | decide) (by first | omega | decide) (by first | omega | decide) (by first | omega | decide) (by first | omega | decide)) (fun x26 b5 => ?_)
    exact sRet ⟨(by show 0 ≤ x13.2.toInt; first | omega | assumption), (by show x13.2.toInt ≤ 2; first | omega | assumption), trivial⟩
  · have fh4 := eqF h4
    exact sRet ⟨(by show 0 ≤ x13.2.toInt; first | omega | assumption), (by show x13.2.toInt ≤ 2; first | omega | assumption), trivial⟩
set_option maxHeartbeats 2000000 in
theorem s_X7_has {N K : Nat} {th : Int32} {f : Nat → Int32} {p0 : Int32} {p1 : Int32} (hN : NBig N) (hK : 100 ≤ K)  : Sf (fX7_has N K th f p0 p1) (fun (z : Int32 × Int32) => 0 ≤ z.1.toInt ∧ z.1.toInt ≤ 1 ∧ 0 ≤ z.2.toInt ∧ z.2.toInt ≤ 2 ∧ True) := by
  unfold fX7_has
  have ql0 : (0 : Int32).toInt = 0 := by decide
  have ql1 : (1 : Int32).toInt = 1 := by decide
  have ql2 : (2 : Int32).toInt = 2 := by decide
  have ql3 : (3 : Int32).toInt = 3 := by decide
  refine sBind (s_X7_isNo hN hK (by first | omega | decide) (by first | omega | decide) (by first | omega | decide) (by first | omega | decide)) (fun x4 b1 => ?_)
  obtain ⟨b1_0, b1_1, b1_2, -⟩ := b1
  replace b1_0 : 0 ≤ x4.toInt := b1_0
  replace b1_1 : x4.toInt ≤ 1 := b1_1
  replace b1_2 : (x4.toInt = 0 → ((0 : Int32).toInt ≤ p0.toInt ∧ p0.toInt ≤ (2 : Int32).toInt)) := b1_2
  refine sBind (s_X7_isThrown hN hK (by first | omega | decide) (by first | omega | decide) (by first | omega | decide) (by first | omega | decide)) (fun x8 b2 => ?_)
  obtain ⟨b2_0, b2_1, b2_2, b2_3, b2_4, b2_5, -⟩ := b2
  replace b2_0 : 0 ≤ x8.1.toInt := b2_0
  replace b2_1 : x8.1.toInt ≤ 1 := b2_1
  replace b2_2 : 0 ≤ x8.2.toInt := b2_2
  replace b2_3 : x8.2.toInt ≤ 2 := b2_3
  replace b2_4 : (x8.1.toInt = 0 → (0 ≤ x4.toInt ∧ x4.toInt ≤ 0)) := b2_4
  replace b2_5 : (x8.1.toInt = 0 → (0 ≤ (0 : Int32).toInt ∧ (0 : Int32).toInt ≤ 0)) := b2_5
  refine sIf (fun h3 => ?_) (fun h3 => ?_)
  · have fh3 := eqT h3
    refine sBind (s_X7_counted hN hK (by first | omega | decide) (by first | omega | decide) (by first | omega | decide) (by first | omega | decide) (by first | omega | decide) (by first | omega | decide)) (fun x18 b4 => ?_)
    refine sIf (fun h5 => ?_) (fun h5 => ?_)
    · have fh5 := leT h5
      exact sRet ⟨(by show 0 ≤ (0 : Int32).toInt; decide), (by show (0 : Int32).toInt ≤ 1; decide), (by show 0 ≤ x8.2.toInt; first | omega | assumption), (by show x8.2.toInt ≤ 2; first | omega | assumption), trivial⟩
    · have fh5 := leF h5
      exact sRet ⟨(by show 0 ≤ (1 : Int32).toInt; decide), (by show (1 : Int32).toInt ≤ 1; decide), (by show 0 ≤ x8.2.toInt; first | omega | assumption), (by show x8.2.toInt ≤ 2; first | omega | assumption), trivial⟩
  · have fh3 := eqF h3
    exact sRet ⟨(by show 0 ≤ (0 : Int32).toInt; decide), (by show (0 : Int32).toInt ≤ 1; decide), (by show 0 ≤ x8.2.toInt; first | omega | assumption), (by show x8.2.toInt ≤ 2; first | omega | assumption), trivial⟩
set_option maxHeartbeats 2000000 in
theorem s_X7_count {N K : Nat} {th : Int32} {f : Nat → Int32} {p0 : Int32} {p1 : Int32} {p2 : Int32} (hN : NBig N) (hK : 100 ≤ K)  : Sf (fX7_count N K th f p0 p1 p2) (fun (z : Int32 × Int32) => 0 ≤ z.2.toInt ∧ z.2.toInt ≤ 2 ∧ True) := by
  unfold fX7_count
  have ql0 : (0 : Int32).toInt = 0 := by decide
  have ql2 : (2 : Int32).toInt = 2 := by decide
  have ql3 : (3 : Int32).toInt = 3 := by decide
  refine sBind (s_X7_isNo hN hK (by first | omega | decide) (by first | omega | decide) (by first | omega | decide) (by first | omega | decide)) (fun x4 b1 => ?_)
  obtain ⟨b1_0, b1_1, b1_2, -⟩ := b1
  replace b1_0 : 0 ≤ x4.toInt := b1_0
  replace b1_1 : x4.toInt ≤ 1 := b1_1
  replace b1_2 : (x4.toInt = 0 → ((0 : Int32).toInt ≤ p0.toInt ∧ p0.toInt ≤ (2 : Int32).toInt)) := b1_2
  refine sBind (s_X7_isNo hN hK (by first | omega | decide) (by first | omega | decide) (by first | omega | decide) (by first | omega | decide)) (fun x10 b2 => ?_)
  obtain ⟨b2_0, b2_1, b2_2, -⟩ := b2
  replace b2_0 : 0 ≤ x10.toInt := b2_0
  replace b2_1 : x10.toInt ≤ 1 := b2_1
  replace b2_2 : (x10.toInt = 0 → ((0 : Int32).toInt ≤ p1.toInt ∧ p1.toInt ≤ (3 : Int32).toInt)) := b2_2
  refine sBind (s_X7_isThrown hN hK (by first | omega | decide) (by first | omega | decide) (by first | omega | decide) (by first | omega | decide)) (fun x13 b3 => ?_)
  obtain ⟨b3_0, b3_1, b3_2, b3_3, b3_4, b3_5, -⟩ := b3
  replace b3_0 : 0 ≤ x13.1.toInt := b3_0
  replace b3_1 : x13.1.toInt ≤ 1 := b3_1
  replace b3_2 : 0 ≤ x13.2.toInt := b3_2
  replace b3_3 : x13.2.toInt ≤ 2 := b3_3
  replace b3_4 : (x13.1.toInt = 0 → (0 ≤ x4.toInt ∧ x4.toInt ≤ 0)) := b3_4
  replace b3_5 : (x13.1.toInt = 0 → (0 ≤ x10.toInt ∧ x10.toInt ≤ 0)) := b3_5
  refine sIf (fun h4 => ?_) (fun h4 => ?_)
  · have fh4 := eqT h4
    refine sBind (s_X7_counted hN hK (by first | omega | decide) (by first | omega | decide) (by first | omega | decide) (by first | omega | decide) (by first | omega | decide) (by first | omega | decide)) (fun x27 b5 => ?_)
    exact sRet ⟨(by show 0 ≤ x13.2.toInt; first | omega | assumption), (by show x13.2.toInt ≤ 2; first | omega | assumption), trivial⟩
  · have fh4 := eqF h4
    exact sRet ⟨(by show 0 ≤ x13.2.toInt; first | omega | assumption), (by show x13.2.toInt ≤ 2; first | omega | assumption), trivial⟩
set_option maxHeartbeats 2000000 in
theorem s_X7_isSame_73 {N K : Nat} {th : Int32} {f : Nat → Int32} {f2 : Nat → Int32} {p0 : Int32} {p1 : Int32} (hN : NBig N) (hK : 100 ≤ K)  {k_38 : Int32 → Int32 → Int32 → Option (Int32 × Int32)} {m_38 : Nat} (hk_38 : ∀ (l3 : Int32) (l4 : Int32) (th_ : Int32), (6144 - l4.toInt).toNat < m_38 → 0 ≤ p0.toInt → p0.toInt ≤ 2 → 0 ≤ p1.toInt → p1.toInt ≤ 2 → 0 ≤ l3.toInt → l3.toInt ≤ 1 → 0 ≤ l4.toInt → l4.toInt ≤ 6144 → 0 ≤ th_.toInt → th_.toInt ≤ 2 → Sf (k_38 l3 l4 th_) (fun (z : Int32 × Int32) => 0 ≤ z.1.toInt ∧ z.1.toInt ≤ 1 ∧ 0 ≤ z.2.toInt ∧ z.2.toInt ≤ 2 ∧ True)) : ∀ (l4 : Int32) (s0 : Int32) (s1 : Int32) (th_ : Int32), 0 ≤ p0.toInt → p0.toInt ≤ 2 → 0 ≤ p1.toInt → p1.toInt ≤ 2 → 0 ≤ l4.toInt → l4.toInt ≤ 6143 → 0 ≤ s0.toInt → s0.toInt ≤ 1 → 0 ≤ s1.toInt → s1.toInt ≤ 1 → 0 ≤ th_.toInt → th_.toInt ≤ 2 → (s0.toInt = 0 → 0 ≤ p0.toInt ∧ p0.toInt ≤ 2 ∧ 0 ≤ p1.toInt ∧ p1.toInt ≤ 2) → (s1.toInt = 0 → 0 ≤ p0.toInt ∧ p0.toInt ≤ 2 ∧ 0 ≤ p1.toInt ∧ p1.toInt ≤ 2) → (6144 - l4.toInt).toNat ≤ m_38 → Sf (fX7_isSame_73 N K th f f2 p0 p1 k_38 l4 s0 s1 th_) (fun (z : Int32 × Int32) => 0 ≤ z.1.toInt ∧ z.1.toInt ≤ 1 ∧ 0 ≤ z.2.toInt ∧ z.2.toInt ≤ 2 ∧ True) := by
  intro l4 s0 s1 th_ hq0 hq1 hq2 hq3 hq4 hq5 hq6 hq7 hq8 hq9 hq10 hq11 hq12 hq13 hq14
  unfold fX7_isSame_73
  have ql0 : (0 : Int32).toInt = 0 := by decide
  have ql1 : (1 : Int32).toInt = 1 := by decide
  have t101 := and01 (a := s1) (b := s0) (by omega) (by omega) (by omega) (by omega)
  have t2 := addI (a := l4) (b := (1 : Int32)) (by omega) (by omega)
  exact hk_38 _ _ _ (by omega) (by first | omega | decide) (by first | omega | decide) (by first | omega | decide) (by first | omega | decide) (by first | omega | decide) (by first | omega | decide) (by first | omega | decide) (by first | omega | decide) (by first | omega | decide) (by first | omega | decide)
set_option maxHeartbeats 2000000 in
theorem s_X7_isSame_38 {N K : Nat} {th : Int32} {f : Nat → Int32} {f2 : Nat → Int32} {p0 : Int32} {p1 : Int32} (hN : NBig N) (hK : 100 ≤ K)  : ∀ (fu : Nat) (l3 : Int32) (l4 : Int32) (th_ : Int32), (6144 - l4.toInt).toNat < fu → 0 ≤ p0.toInt → p0.toInt ≤ 2 → 0 ≤ p1.toInt → p1.toInt ≤ 2 → 0 ≤ l3.toInt → l3.toInt ≤ 1 → 0 ≤ l4.toInt → l4.toInt ≤ 6144 → 0 ≤ th_.toInt → th_.toInt ≤ 2 → Sf (fX7_isSame_38 N K th f f2 p0 p1  fu l3 l4 th_) (fun (z : Int32 × Int32) => 0 ≤ z.1.toInt ∧ z.1.toInt ≤ 1 ∧ 0 ≤ z.2.toInt ∧ z.2.toInt ≤ 2 ∧ True) := by
  intro fu
  induction fu with
  | zero => intro l3 l4 th_ h0 hq0 hq1 hq2 hq3 hq4 hq5 hq6 hq7 hq8 hq9; omega
  | succ fu ih =>
    intro l3 l4 th_ h0 hq0 hq1 hq2 hq3 hq4 hq5 hq6 hq7 hq8 hq9
    unfold fX7_isSame_38
    have ql0 : (0 : Int32).toInt = 0 := by decide
    have ql1 : (1 : Int32).toInt = 1 := by decide
    have ql6144 : (6144 : Int32).toInt = 6144 := by decide
    refine sIf (fun h1 => ?_) (fun h1 => ?_)
    · have fh1 := leT h1
      refine sIfT (b01 (by omega) (by omega)) ?_
      exact sRet ⟨(by show 0 ≤ l3.toInt; first | omega | assumption), (by show l3.toInt ≤ 1; first | omega | assumption), (by show 0 ≤ th_.toInt; first | omega | assumption), (by show th_.toInt ≤ 2; first | omega | assumption), trivial⟩
    · have fh1 := leF h1
      refine sIfF (noob (by omega) (by omega)) ?_
      refine sIfF (noob (by omega) (by omega)) ?_
      refine sIfF (noob (by omega) (by omega)) ?_
      refine sIfF (noob (by omega) (by omega)) ?_
      refine sIf (fun h2 => ?_) (fun h2 => ?_)
      · have fh2 := eqT h2
        exact s_X7_isSame_73 (hk_38 := ih) hN hK _ _ _ _ (by first | omega | decide) (by first | omega | decide) (by first | omega | decide) (by first | omega | decide) (by first | omega | decide) (by first | omega | decide) (by first | omega | decide) (by first | omega | decide) (by first | omega | decide) (by first | omega | decide) (by first | omega | decide) (by first | omega | decide) (by first | omega | decide) (by first | omega | decide) (by omega)
      · have fh2 := eqF h2
        exact s_X7_isSame_73 (hk_38 := ih) hN hK _ _ _ _ (by first | omega | decide) (by first | omega | decide) (by first | omega | decide) (by first | omega | decide) (by first | omega | decide) (by first | omega | decide) (by first | omega | decide) (by first | omega | decide) (by first | omega | decide) (by first | omega | decide) (by first | omega | decide) (by first | omega | decide) (by first | omega | decide) (by first | omega | decide) (by omega)
set_option maxHeartbeats 2000000 in
theorem s_X7_isSame_24 {N K : Nat} {th : Int32} {f : Nat → Int32} {f2 : Nat → Int32} {p0 : Int32} {p1 : Int32} (hN : NBig N) (hK : 100 ≤ K)  : ∀ (s0 : Int32) (th_ : Int32), 0 ≤ s0.toInt → s0.toInt ≤ 1 → (s0.toInt = 0 → 0 ≤ p0.toInt ∧ p0.toInt ≤ 2 ∧ 0 ≤ p1.toInt ∧ p1.toInt ≤ 2) → Sf (fX7_isSame_24 N K th f f2 p0 p1  s0 th_) (fun (z : Int32 × Int32) => 0 ≤ z.1.toInt ∧ z.1.toInt ≤ 1 ∧ 0 ≤ z.2.toInt ∧ z.2.toInt ≤ 2 ∧ True) := by
  intro s0 th_ hq0 hq1 hq2
  unfold fX7_isSame_24
  have hN9 := hN.u
  have ql0 : (0 : Int32).toInt = 0 := by decide
  have ql1 : (1 : Int32).toInt = 1 := by decide
  refine sBind (s_X7_isThrown hN hK (by first | omega | decide) (by first | omega | decide) (by first | omega | decide) (by first | omega | decide)) (fun x25 b1 => ?_)
  obtain ⟨b1_0, b1_1, b1_2, b1_3, b1_4, b1_5, -⟩ := b1
  replace b1_0 : 0 ≤ x25.1.toInt := b1_0
  replace b1_1 : x25.1.toInt ≤ 1 := b1_1
  replace b1_2 : 0 ≤ x25.2.toInt := b1_2
  replace b1_3 : x25.2.toInt ≤ 2 := b1_3
  replace b1_4 : (x25.1.toInt = 0 → (0 ≤ s0.toInt ∧ s0.toInt ≤ 0)) := b1_4
  replace b1_5 : (x25.1.toInt = 0 → (0 ≤ (0 : Int32).toInt ∧ (0 : Int32).toInt ≤ 0)) := b1_5
  refine sIf (fun h2 => ?_) (fun h2 => ?_)
  · have fh2 := eqT h2
    exact s_X7_isSame_38  hN hK _ _ _ _ (by omega) (by first | omega | decide) (by first | omega | decide) (by first | omega | decide) (by first | omega | decide) (by first | omega | decide) (by first | omega | decide) (by first | omega | decide) (by first | omega | decide) (by first | omega | decide) (by first | omega | decide)
  · have fh2 := eqF h2
    exact sRet ⟨(by show 0 ≤ (0 : Int32).toInt; decide), (by show (0 : Int32).toInt ≤ 1; decide), (by show 0 ≤ x25.2.toInt; first | omega | assumption), (by show x25.2.toInt ≤ 2; first | omega | assumption), trivial⟩
set_option maxHeartbeats 2000000 in
theorem s_X7_isSame_19 {N K : Nat} {th : Int32} {f : Nat → Int32} {f2 : Nat → Int32} {p0 : Int32} {p1 : Int32} (hN : NBig N) (hK : 100 ≤ K)  : ∀ (th_ : Int32), Sf (fX7_isSame_19 N K th f f2 p0 p1  th_) (fun (z : Int32 × Int32) => 0 ≤ z.1.toInt ∧ z.1.toInt ≤ 1 ∧ 0 ≤ z.2.toInt ∧ z.2.toInt ≤ 2 ∧ True) := by
  intro th_ 
  unfold fX7_isSame_19
  have ql0 : (0 : Int32).toInt = 0 := by decide
  have ql1 : (1 : Int32).toInt = 1 := by decide
  exact s_X7_isSame_24  hN hK _ _ (by first | omega | decide) (by first | omega | decide) (by first | omega | decide)
set_option maxHeartbeats 2000000 in
theorem s_X7_isSame {N K : Nat} {th : Int32} {f : Nat → Int32} {f2 : Nat → Int32} {p0 : Int32} {p1 : Int32} (hN : NBig N) (hK : 100 ≤ K)  : Sf (fX7_isSame N K th f f2 p0 p1) (fun (z : Int32 × Int32) => 0 ≤ z.1.toInt ∧ z.1.toInt ≤ 1 ∧ 0 ≤ z.2.toInt ∧ z.2.toInt ≤ 2 ∧ True) := by
  unfold fX7_isSame
  have ql0 : (0 : Int32).toInt = 0 := by decide
  have ql2 : (2 : Int32).toInt = 2 := by decide
  refine sBind (s_X7_isNo hN hK (by first | omega | decide) (by first | omega | decide) (by first | omega | decide) (by first | omega | decide)) (fun x4 b1 => ?_)
  obtain ⟨b1_0, b1_1, b1_2, -⟩ := b1
  replace b1_0 : 0 ≤ x4.toInt := b1_0
  replace b1_1 : x4.toInt ≤ 1 := b1_1
  replace b1_2 : (x4.toInt = 0 → ((0 : Int32).toInt ≤ p0.toInt ∧ p0.toInt ≤ (2 : Int32).toInt)) := b1_2
  refine sIf (fun h2 => ?_) (fun h2 => ?_)
  · have fh2 := eqT h2
    refine sBind (s_X7_isNo hN hK (by first | omega | decide) (by first | omega | decide) (by first | omega | decide) (by first | omega | decide)) (fun x13 b3 => ?_)
    obtain ⟨b3_0, b3_1, b3_2, -⟩ := b3
    replace b3_0 : 0 ≤ x13.toInt := b3_0
    replace b3_1 : x13.toInt ≤ 1 := b3_1
    replace b3_2 : (x13.toInt = 0 → ((0 : Int32).toInt ≤ p1.toInt ∧ p1.toInt ≤ (2 : Int32).toInt)) := b3_2
    refine sIf (fun h4 => ?_) (fun h4 => ?_)
    · have fh4 := eqT h4
      exact s_X7_isSame_24  hN hK _ _ (by first | omega | decide) (by first | omega | decide) (by first | omega | decide)
    · have fh4 := eqF h4
      exact s_X7_isSame_19  hN hK _
  · have fh2 := eqF h2
    exact s_X7_isSame_19  hN hK _
set_option maxHeartbeats 2000000 in
theorem s_X7_isSameOwn_73 {N K : Nat} {th : Int32} {f : Nat → Int32} {p0 : Int32} (hN : NBig N) (hK : 100 ≤ K)  {k_38 : Int32 → Int32 → Int32 → Option (Int32 × Int32)} {m_38 : Nat} (hk_38 : ∀ (l3 : Int32) (l4 : Int32) (th_ : Int32), (6144 - l4.toInt).toNat < m_38 → 0 ≤ p0.toInt → p0.toInt ≤ 2 → 0 ≤ l3.toInt → l3.toInt ≤ 1 → 0 ≤ l4.toInt → l4.toInt ≤ 6144 → 0 ≤ th_.toInt → th_.toInt ≤ 2 → Sf (k_38 l3 l4 th_) (fun (z : Int32 × Int32) => 0 ≤ z.1.toInt ∧ z.1.toInt ≤ 1 ∧ 0 ≤ z.2.toInt ∧ z.2.toInt ≤ 2 ∧ True)) : ∀ (l4 : Int32) (s0 : Int32) (s1 : Int32) (th_ : Int32), 0 ≤ p0.toInt → p0.toInt ≤ 2 → 0 ≤ l4.toInt → l4.toInt ≤ 6143 → 1 ≤ s0.toInt → s0.toInt ≤ 1 → 0 ≤ s1.toInt → s1.toInt ≤ 1 → 0 ≤ th_.toInt → th_.toInt ≤ 2 → (s1.toInt = 0 → 0 ≤ p0.toInt ∧ p0.toInt ≤ 2) → (6144 - l4.toInt).toNat ≤ m_38 → Sf (fX7_isSameOwn_73 N K th f p0 k_38 l4 s0 s1 th_) (fun (z : Int32 × Int32) => 0 ≤ z.1.toInt ∧ z.1.toInt ≤ 1 ∧ 0 ≤ z.2.toInt ∧ z.2.toInt ≤ 2 ∧ True) := by
  intro l4 s0 s1 th_ hq0 hq1 hq2 hq3 hq4 hq5 hq6 hq7 hq8 hq9 hq10 hq11
  unfold fX7_isSameOwn_73
  have ql0 : (0 : Int32).toInt = 0 := by decide
  have ql1 : (1 : Int32).toInt = 1 := by decide
  have t101 := and01 (a := s1) (b := s0) (by omega) (by omega) (by omega) (by omega)
  have t2 := addI (a := l4) (b := (1 : Int32)) (by omega) (by omega)
  exact hk_38 _ _ _ (by omega) (by first | omega | decide) (by first | omega | decide) (by first | omega | decide) (by first | omega | decide) (by first | omega | decide) (by first | omega | decide) (by first | omega | decide) (by first | omega | decide)
set_option maxHeartbeats 2000000 in
theorem s_X7_isSameOwn_38 {N K : Nat} {th : Int32} {f : Nat → Int32} {p0 : Int32} (hN : NBig N) (hK : 100 ≤ K)  : ∀ (fu : Nat) (l3 : Int32) (l4 : Int32) (th_ : Int32), (6144 - l4.toInt).toNat < fu → 0 ≤ p0.toInt → p0.toInt ≤ 2 → 0 ≤ l3.toInt → l3.toInt ≤ 1 → 0 ≤ l4.toInt → l4.toInt ≤ 6144 → 0 ≤ th_.toInt → th_.toInt ≤ 2 → Sf (fX7_isSameOwn_38 N K th f p0  fu l3 l4 th_) (fun (z : Int32 × Int32) => 0 ≤ z.1.toInt ∧ z.1.toInt ≤ 1 ∧ 0 ≤ z.2.toInt ∧ z.2.toInt ≤ 2 ∧ True) := by
  intro fu
  induction fu with
  | zero => intro l3 l4 th_ h0 hq0 hq1 hq2 hq3 hq4 hq5 hq6 hq7; omega
  | succ fu ih =>
    intro l3 l4 th_ h0 hq0 hq1 hq2 hq3 hq4 hq5 hq6 hq7
    unfold fX7_isSameOwn_38
    have ql0 : (0 : Int32).toInt = 0 := by decide
    have ql1 : (1 : Int32).toInt = 1 := by decide
    have ql6144 : (6144 : Int32).toInt = 6144 := by decide
    refine sIf (fun h1 => ?_) (fun h1 => ?_)
    · have fh1 := leT h1
      refine sIfT (b01 (by omega) (by omega)) ?_
      exact sRet ⟨(by show 0 ≤ l3.toInt; first | omega | assumption), (by show l3.toInt ≤ 1; first | omega | assumption), (by show 0 ≤ th_.toInt; first | omega | assumption), (by show th_.toInt ≤ 2; first | omega | assumption), trivial⟩
    · have fh1 := leF h1
      refine sIfF (noob (by omega) (by omega)) ?_
      refine sIfF (noob (by omega) (by omega)) ?_
      refine sIfF (noob (by omega) (by omega)) ?_
      refine sIfF (noob (by omega) (by omega)) ?_
      exact s_X7_isSameOwn_73 (hk_38 := ih) hN hK _ _ _ _ (by first | omega | decide) (by first | omega | decide) (by first | omega | decide) (by first | omega | decide) (by first | omega | decide) (by first | omega | decide) (by first | omega | decide) (by first | omega | decide) (by first | omega | decide) (by first | omega | decide) (by first | omega | decide) (by omega)
set_option maxHeartbeats 2000000 in
theorem s_X7_isSameOwn_24 {N K : Nat} {th : Int32} {f : Nat → Int32} {p0 : Int32} (hN : NBig N) (hK : 100 ≤ K)  : ∀ (s0 : Int32) (th_ : Int32), 0 ≤ s0.toInt → s0.toInt ≤ 1 → (s0.toInt = 0 → 0 ≤ p0.toInt ∧ p0.toInt ≤ 2) → Sf (fX7_isSameOwn_24 N K th f p0  s0 th_) (fun (z : Int32 × Int32) => 0 ≤ z.1.toInt ∧ z.1.toInt ≤ 1 ∧ 0 ≤ z.2.toInt ∧ z.2.toInt ≤ 2 ∧ True) := by
  intro s0 th_ hq0 hq1 hq2
  unfold fX7_isSameOwn_24
  have hN9 := hN.u
  have ql0 : (0 : Int32).toInt = 0 := by decide
  have ql1 : (1 : Int32).toInt = 1 := by decide
  refine sBind (s_X7_isThrown hN hK (by first | omega | decide) (by first | omega | decide) (by first | omega | decide) (by first | omega | decide)) (fun x25 b1 => ?_)
  obtain ⟨b1_0, b1_1, b1_2, b1_3, b1_4, b1_5, -⟩ := b1
  replace b1_0 : 0 ≤ x25.1.toInt := b1_0
  replace b1_1 : x25.1.toInt ≤ 1 := b1_1
  replace b1_2 : 0 ≤ x25.2.toInt := b1_2
  replace b1_3 : x25.2.toInt ≤ 2 := b1_3
  replace b1_4 : (x25.1.toInt = 0 → (0 ≤ s0.toInt ∧ s0.toInt ≤ 0)) := b1_4
  replace b1_5 : (x25.1.toInt = 0 → (0 ≤ (0 : Int32).toInt ∧ (0 : Int32).toInt ≤ 0)) := b1_5
  refine sIf (fun h2 => ?_) (fun h2 => ?_)
  · have fh2 := eqT h2
    exact s_X7_isSameOwn_38  hN hK _ _ _ _ (by omega) (by first | omega | decide) (by first | omega | decide) (by first | omega | decide) (by first | omega | decide) (by first | omega | decide) (by first | omega | decide) (by first | omega | decide) (by first | omega | decide)
  · have fh2 := eqF h2
    exact sRet ⟨(by show 0 ≤ (0 : Int32).toInt; decide), (by show (0 : Int32).toInt ≤ 1; decide), (by show 0 ≤ x25.2.toInt; first | omega | assumption), (by show x25.2.toInt ≤ 2; first | omega | assumption), trivial⟩
set_option maxHeartbeats 2000000 in
theorem s_X7_isSameOwn_19 {N K : Nat} {th : Int32} {f : Nat → Int32} {p0 : Int32} (hN : NBig N) (hK : 100 ≤ K)  : ∀ (th_ : Int32), Sf (fX7_isSameOwn_19 N K th f p0  th_) (fun (z : Int32 × Int32) => 0 ≤ z.1.toInt ∧ z.1.toInt ≤ 1 ∧ 0 ≤ z.2.toInt ∧ z.2.toInt ≤ 2 ∧ True) := by
  intro th_ 
  unfold fX7_isSameOwn_19
  have ql0 : (0 : Int32).toInt = 0 := by decide
  have ql1 : (1 : Int32).toInt = 1 := by decide
  exact s_X7_isSameOwn_24  hN hK _ _ (by first | omega | decide) (by first | omega | decide) (by first | omega | decide)
set_option maxHeartbeats 2000000 in
theorem s_X7_isSameOwn {N K : Nat} {th : Int32} {f : Nat → Int32} {p0 : Int32} (hN : NBig N) (hK : 100 ≤ K)  : Sf (fX7_isSameOwn N K th f p0) (fun (z : Int32 × Int32) => 0 ≤ z.1.toInt ∧ z.1.toInt ≤ 1 ∧ 0 ≤ z.2.toInt ∧ z.2.toInt ≤ 2 ∧ True) := by
  unfold fX7_isSameOwn
  have ql0 : (0 : Int32).toInt = 0 := by decide
  have ql2 : (2 : Int32).toInt = 2 := by decide
  refine sBind (s_X7_isNo hN hK (by first | omega | decide) (by first | omega | decide) (by first | omega | decide) (by first | omega | decide)) (fun x4 b1 => ?_)
  obtain ⟨b1_0, b1_1, b1_2, -⟩ := b1
  replace b1_0 : 0 ≤ x4.toInt := b1_0
  replace b1_1 : x4.toInt ≤ 1 := b1_1
  replace b1_2 : (x4.toInt = 0 → ((0 : Int32).toInt ≤ p0.toInt ∧ p0.toInt ≤ (2 : Int32).toInt)) := b1_2
  refine sIf (fun h2 => ?_) (fun h2 => ?_)
  · have fh2 := eqT h2
    refine sBind (s_X7_isNo hN hK (by first | omega | decide) (by first | omega | decide) (by first | omega | decide) (by first | omega | decide)) (fun x13 b3 => ?_)
    obtain ⟨b3_0, b3_1, b3_2, -⟩ := b3
    replace b3_0 : 0 ≤ x13.toInt := b3_0
    replace b3_1 : x13.toInt ≤ 1 := b3_1
    replace b3_2 : (x13.toInt = 0 → ((0 : Int32).toInt ≤ p0.toInt ∧ p0.toInt ≤ (2 : Int32).toInt)) := b3_2
    refine sIf (fun h4 => ?_) (fun h4 => ?_)
    · have fh4 := eqT h4
      exact s_X7_isSameOwn_24  hN hK _ _ (by first | omega | decide) (by first | omega | decide) (by first | omega | decide)
    · have fh4 := eqF h4
      exact s_X7_isSameOwn_19  hN hK _
  · have fh2 := eqF h2
    exact s_X7_isSameOwn_19  hN hK _
set_option maxHeartbeats 2000000 in
theorem s_X7_walk_36 {N K : Nat} {th : Int32} {p0 : Int32} {p1 : Int32} {p2 : Int32} (hN : NBig N) (hK : 100 ≤ K)  : ∀ (s0 : Int32) (th_ : Int32), 0 ≤ s0.toInt → s0.toInt ≤ 1 → (s0.toInt = 0 → 0 ≤ p0.toInt ∧ p0.toInt ≤ 7 ∧ 0 ≤ p1.toInt ∧ p1.toInt ≤ 20 ∧ 0 ≤ p2.toInt ∧ p2.toInt ≤ 20) → Sf (fX7_walk_36 N K th p0 p1 p2  s0 th_) (fun (z : Int32 × Int32) => 0 ≤ z.2.toInt ∧ z.2.toInt ≤ 2 ∧ True) := by
  intro s0 th_ hq0 hq1 hq2
  unfold fX7_walk_36
  have ql0 : (0 : Int32).toInt = 0 := by decide
  refine sBind (s_X7_isThrown hN hK (by first | omega | decide) (by first | omega | decide) (by first | omega | decide) (by first | omega | decide)) (fun x37 b1 => ?_)
  obtain ⟨b1_0, b1_1, b1_2, b1_3, b1_4, b1_5, -⟩ := b1
  replace b1_0 : 0 ≤ x37.1.toInt := b1_0
  replace b1_1 : x37.1.toInt ≤ 1 := b1_1
  replace b1_2 : 0 ≤ x37.2.toInt := b1_2
  replace b1_3 : x37.2.toInt ≤ 2 := b1_3
  replace b1_4 : (x37.1.toInt = 0 → (0 ≤ s0.toInt ∧ s0.toInt ≤ 0)) := b1_4
  replace b1_5 : (x37.1.toInt = 0 → (0 ≤ (0 : Int32).toInt ∧ (0 : Int32).toInt ≤ 0)) := b1_5
  refine sIf (fun h2 => ?_) (fun h2 => ?_)
  · have fh2 := eqT h2
    refine sBind (s_X7_walked hN hK (by first | omega | decide) (by first | omega | decide) (by first | omega | decide) (by first | omega | decide) (by first | omega | decide) (by first | omega | decide)) (fun x50 b3 => ?_)
    exact sRet ⟨(by show 0 ≤ x37.2.toInt; first | omega | assumption), (by show x37.2.toInt ≤ 2; first | omega | assumption), trivial⟩
  · have fh2 := eqF h2
    exact sRet ⟨(by show 0 ≤ x37.2.toInt; first | omega | assumption), (by show x37.2.toInt ≤ 2; first | omega | assumption), trivial⟩
set_option maxHeartbeats 2000000 in
theorem s_X7_walk_31 {N K : Nat} {th : Int32} {p0 : Int32} {p1 : Int32} {p2 : Int32} (hN : NBig N) (hK : 100 ≤ K)  : ∀ (th_ : Int32), Sf (fX7_walk_31 N K th p0 p1 p2  th_) (fun (z : Int32 × Int32) => 0 ≤ z.2.toInt ∧ z.2.toInt ≤ 2 ∧ True) := by
  intro th_ 
  unfold fX7_walk_31
  have ql0 : (0 : Int32).toInt = 0 := by decide
  have ql1 : (1 : Int32).toInt = 1 := by decide
  exact s_X7_walk_36  hN hK _ _ (by first | omega | decide) (by first | omega | decide) (by first | omega | decide)
set_option maxHeartbeats 2000000 in
theorem s_X7_walk {N K : Nat} {th : Int32} {p0 : Int32} {p1 : Int32} {p2 : Int32} (hN : NBig N) (hK : 100 ≤ K)  : Sf (fX7_walk N K th p0 p1 p2) (fun (z : Int32 × Int32) => 0 ≤ z.2.toInt ∧ z.2.toInt ≤ 2 ∧ True) := by
  unfold fX7_walk
  have ql0 : (0 : Int32).toInt = 0 := by decide
  have ql7 : (7 : Int32).toInt = 7 := by decide
  have ql20 : (20 : Int32).toInt = 20 := by decide
  refine sBind (s_X7_isNo hN hK (by first | omega | decide) (by first | omega | decide) (by first | omega | decide) (by first | omega | decide)) (fun x5 b1 => ?_)
  obtain ⟨b1_0, b1_1, b1_2, -⟩ := b1
  replace b1_0 : 0 ≤ x5.toInt := b1_0
  replace b1_1 : x5.toInt ≤ 1 := b1_1
  replace b1_2 : (x5.toInt = 0 → ((0 : Int32).toInt ≤ p0.toInt ∧ p0.toInt ≤ (7 : Int32).toInt)) := b1_2
  refine sIf (fun h2 => ?_) (fun h2 => ?_)
  · have fh2 := eqT h2
    refine sBind (s_X7_isNo hN hK (by first | omega | decide) (by first | omega | decide) (by first | omega | decide) (by first | omega | decide)) (fun x15 b3 => ?_)
    obtain ⟨b3_0, b3_1, b3_2, -⟩ := b3
    replace b3_0 : 0 ≤ x15.toInt := b3_0
    replace b3_1 : x15.toInt ≤ 1 := b3_1
    replace b3_2 : (x15.toInt = 0 → ((0 : Int32).toInt ≤ p1.toInt ∧ p1.toInt ≤ (20 : Int32).toInt)) := b3_2
    refine sIf (fun h4 => ?_) (fun h4 => ?_)
    · have fh4 := eqT h4
      refine sBind (s_X7_isNo hN hK (by first | omega | decide) (by first | omega | decide) (by first | omega | decide) (by first | omega | decide)) (fun x25 b5 => ?_)
      obtain ⟨b5_0, b5_1, b5_2, -⟩ := b5
      replace b5_0 : 0 ≤ x25.toInt := b5_0
      replace b5_1 : x25.toInt ≤ 1 := b5_1
      replace b5_2 : (x25.toInt = 0 → ((0 : Int32).toInt ≤ p2.toInt ∧ p2.toInt ≤ (20 : Int32).toInt)) := b5_2
      refine sIf (fun h6 => ?_) (fun h6 => ?_)
      · have fh6 := eqT h6
        exact s_X7_walk_36  hN hK _ _ (by first | omega | decide) (by first | omega | decide) (by first | omega | decide)
      · have fh6 := eqF h6
        exact s_X7_walk_31  hN hK _
    · have fh4 := eqF h4
      exact s_X7_walk_31  hN hK _
  · have fh2 := eqF h2
    exact s_X7_walk_31  hN hK _
set_option maxHeartbeats 2000000 in
theorem s_X7_product_36 {N K : Nat} {th : Int32} {p0 : Int32} {p1 : Int32} {p2 : Int32} (hN : NBig N) (hK : 100 ≤ K)  : ∀ (s0 : Int32) (th_ : Int32), 0 ≤ s0.toInt → s0.toInt ≤ 1 → (s0.toInt = 0 → 0 ≤ p0.toInt ∧ p0.toInt ≤ 7 ∧ 0 ≤ p1.toInt ∧ p1.toInt ≤ 20 ∧ 0 ≤ p2.toInt ∧ p2.toInt ≤ 20) → Sf (fX7_product_36 N K th p0 p1 p2  s0 th_) (fun (z : Int32 × Int32) => 0 ≤ z.2.toInt ∧ z.2.toInt ≤ 2 ∧ True) := by
  intro s0 th_ hq0 hq1 hq2
  unfold fX7_product_36
  have ql0 : (0 : Int32).toInt = 0 := by decide
  refine sBind (s_X7_isThrown hN hK (by first | omega | decide) (by first | omega | decide) (by first | omega | decide) (by first | omega | decide)) (fun x37 b1 => ?_)
  obtain ⟨b1_0, b1_1, b1_2, b1_3, b1_4, b1_5, -⟩ := b1
  replace b1_0 : 0 ≤ x37.1.toInt := b1_0
  replace b1_1 : x37.1.toInt ≤ 1 := b1_1
  replace b1_2 : 0 ≤ x37.2.toInt := b1_2
  replace b1_3 : x37.2.toInt ≤ 2 := b1_3
  replace b1_4 : (x37.1.toInt = 0 → (0 ≤ s0.toInt ∧ s0.toInt ≤ 0)) := b1_4
  replace b1_5 : (x37.1.toInt = 0 → (0 ≤ (0 : Int32).toInt ∧ (0 : Int32).toInt ≤ 0)) := b1_5
  refine sIf (fun h2 => ?_) (fun h2 => ?_)
  · have fh2 := eqT h2
    refine sBind (s_X7_series hN hK (by first | omega | decide) (by first | omega | decide) (by first | omega | decide) (by first | omega | decide) (by first | omega | decide) (by first | omega | decide)) (fun x50 b3 => ?_)
    exact sRet ⟨(by show 0 ≤ x37.2.toInt; first | omega | assumption), (by show x37.2.toInt ≤ 2; first | omega | assumption), trivial⟩
  · have fh2 := eqF h2
    exact sRet ⟨(by show 0 ≤ x37.2.toInt; first | omega | assumption), (by show x37.2.toInt ≤ 2; first | omega | assumption), trivial⟩
set_option maxHeartbeats 2000000 in
theorem s_X7_product_31 {N K : Nat} {th : Int32} {p0 : Int32} {p1 : Int32} {p2 : Int32} (hN : NBig N) (hK : 100 ≤ K)  : ∀ (th_ : Int32), Sf (fX7_product_31 N K th p0 p1 p2  th_) (fun (z : Int32 × Int32) => 0 ≤ z.2.toInt ∧ z.2.toInt ≤ 2 ∧ True) := by
  intro th_ 
  unfold fX7_product_31
  have ql0 : (0 : Int32).toInt = 0 := by decide
  have ql1 : (1 : Int32).toInt = 1 := by decide
  exact s_X7_product_36  hN hK _ _ (by first | omega | decide) (by first | omega | decide) (by first | omega | decide)
set_option maxHeartbeats 2000000 in
theorem s_X7_product {N K : Nat} {th : Int32} {p0 : Int32} {p1 : Int32} {p2 : Int32} (hN : NBig N) (hK : 100 ≤ K)  : Sf (fX7_product N K th p0 p1 p2) (fun (z : Int32 × Int32) => 0 ≤ z.2.toInt ∧ z.2.toInt ≤ 2 ∧ True) := by
  unfold fX7_product
  have ql0 : (0 : Int32).toInt = 0 := by decide
  have ql7 : (7 : Int32).toInt = 7 := by decide
  have ql20 : (20 : Int32).toInt = 20 := by decide
  refine sBind (s_X7_isNo hN hK (by first | omega | decide) (by first | omega | decide) (by first | omega | decide) (by first | omega | decide)) (fun x5 b1 => ?_)
  obtain ⟨b1_0, b1_1, b1_2, -⟩ := b1
  replace b1_0 : 0 ≤ x5.toInt := b1_0
  replace b1_1 : x5.toInt ≤ 1 := b1_1
  replace b1_2 : (x5.toInt = 0 → ((0 : Int32).toInt ≤ p0.toInt ∧ p0.toInt ≤ (7 : Int32).toInt)) := b1_2
  refine sIf (fun h2 => ?_) (fun h2 => ?_)
  · have fh2 := eqT h2
    refine sBind (s_X7_isNo hN hK (by first | omega | decide) (by first | omega | decide) (by first | omega | decide) (by first | omega | decide)) (fun x15 b3 => ?_)
    obtain ⟨b3_0, b3_1, b3_2, -⟩ := b3
    replace b3_0 : 0 ≤ x15.toInt := b3_0
    replace b3_1 : x15.toInt ≤ 1 := b3_1
    replace b3_2 : (x15.toInt = 0 → ((0 : Int32).toInt ≤ p1.toInt ∧ p1.toInt ≤ (20 : Int32).toInt)) := b3_2
    refine sIf (fun h4 => ?_) (fun h4 => ?_)
    · have fh4 := eqT h4
      refine sBind (s_X7_isNo hN hK (by first | omega | decide) (by first | omega | decide) (by first | omega | decide) (by first | omega | decide)) (fun x25 b5 => ?_)
      obtain ⟨b5_0, b5_1, b5_2, -⟩ := b5
      replace b5_0 : 0 ≤ x25.toInt := b5_0
      replace b5_1 : x25.toInt ≤ 1 := b5_1
      replace b5_2 : (x25.toInt = 0 → ((0 : Int32).toInt ≤ p2.toInt ∧ p2.toInt ≤ (20 : Int32).toInt)) := b5_2
      refine sIf (fun h6 => ?_) (fun h6 => ?_)
      · have fh6 := eqT h6
        exact s_X7_product_36  hN hK _ _ (by first | omega | decide) (by first | omega | decide) (by first | omega | decide)
      · have fh6 := eqF h6
        exact s_X7_product_31  hN hK _
    · have fh4 := eqF h4
      exact s_X7_product_31  hN hK _
  · have fh2 := eqF h2
    exact s_X7_product_31  hN hK _
set_option maxHeartbeats 2000000 in
theorem s_X7_factor_85 {N K : Nat} {p0 : Int32} {p1 : Int32} (hN : NBig N) (hK : 100 ≤ K) (hp0 : 0 ≤ p0.toInt) (hp1 : p0.toInt ≤ 2) (hp2 : 1 ≤ p1.toInt) (hp3 : p1.toInt ≤ 20) {k_70 : Int32 → Int32 → Option (Int32)} {m_70 : Nat} (hk_70 : ∀ (l2 : Int32) (l3 : Int32), (22 - l3.toInt).toNat < m_70 → 1 ≤ p0.toInt → p0.toInt ≤ 2 → 1 ≤ l3.toInt → l3.toInt ≤ 22 → Sf (k_70 l2 l3) (fun (z : Int32) => True)) : ∀ (l2 : Int32) (l3 : Int32), 1 ≤ p0.toInt → p0.toInt ≤ 2 → 1 ≤ l3.toInt → l3.toInt ≤ 20 → (22 - l3.toInt).toNat ≤ m_70 → Sf (fX7_factor_85 N K p0 p1 k_70 l2 l3) (fun (z : Int32) => True) := by
  intro l2 l3 hq0 hq1 hq2 hq3 hq4
  unfold fX7_factor_85
  have ql0 : (0 : Int32).toInt = 0 := by decide
  have t1 := addI (a := l3) (b := p0) (by omega) (by omega)
  exact hk_70 _ _ (by omega) (by first | omega | decide) (by first | omega | decide) (by first | omega | decide) (by first | omega | decide)
set_option maxHeartbeats 2000000 in
theorem s_X7_factor_70 {N K : Nat} {p0 : Int32} {p1 : Int32} (hN : NBig N) (hK : 100 ≤ K) (hp0 : 0 ≤ p0.toInt) (hp1 : p0.toInt ≤ 2) (hp2 : 1 ≤ p1.toInt) (hp3 : p1.toInt ≤ 20) : ∀ (fu : Nat) (l2 : Int32) (l3 : Int32), (22 - l3.toInt).toNat < fu → 1 ≤ p0.toInt → p0.toInt ≤ 2 → 1 ≤ l3.toInt → l3.toInt ≤ 22 → Sf (fX7_factor_70 N K p0 p1  fu l2 l3) (fun (z : Int32) => True) := by
  intro fu
  induction fu with
  | zero => intro l2 l3 h0 hq0 hq1 hq2 hq3; omega
  | succ fu ih =>
    intro l2 l3 h0 hq0 hq1 hq2 hq3
    unfold fX7_factor_70
    have ql0 : (0 : Int32).toInt = 0 := by decide
    refine sIf (fun h1 => ?_) (fun h1 => ?_)
    · have fh1 := ltT h1
      exact sRet trivial
    · have fh1 := ltF h1
      refine sIfF (fun e9 => by have e8 := eqT e9; omega) ?_
      refine sIf (fun h2 => ?_) (fun h2 => ?_)
      · have fh2 := eqT h2
        exact s_X7_factor_85 (hk_70 := ih) hN hK (by omega) (by omega) (by omega) (by omega) _ _ (by first | omega | decide) (by first | omega | decide) (by first | omega | decide) (by first | omega | decide) (by omega)
      · have fh2 := eqF h2
        exact s_X7_factor_85 (hk_70 := ih) hN hK (by omega) (by omega) (by omega) (by omega) _ _ (by first | omega | decide) (by first | omega | decide) (by first | omega | decide) (by first | omega | decide) (by omega)
set_option maxHeartbeats 2000000 in
theorem s_X7_factor_45 {N K : Nat} {p0 : Int32} {p1 : Int32} (hN : NBig N) (hK : 100 ≤ K) (hp0 : 0 ≤ p0.toInt) (hp1 : p0.toInt ≤ 2) (hp2 : 1 ≤ p1.toInt) (hp3 : p1.toInt ≤ 20) : ∀ (l2 : Int32), 0 ≤ p0.toInt → p0.toInt ≤ 0 → 1 ≤ l2.toInt → l2.toInt ≤ 3 → Sf (fX7_factor_45 N K p0 p1  l2) (fun (z : Int32) => True) := by
  intro l2 hq0 hq1 hq2 hq3
  unfold fX7_factor_45
  have ql0 : (0 : Int32).toInt = 0 := by decide
  have ql1 : (1 : Int32).toInt = 1 := by decide
  have ql2 : (2 : Int32).toInt = 2 := by decide
  refine sIf (fun h1 => ?_) (fun h1 => ?_)
  · have t2 := modL (a := l2) (b := (2 : Int32)) ql2 (by omega)
    have fh1 := eqT h1
    exact sRet trivial
  · have t3 := modL (a := l2) (b := (2 : Int32)) ql2 (by omega)
    have fh1 := eqF h1
    exact sRet trivial
set_option maxHeartbeats 2000000 in
theorem s_X7_factor_6 {N K : Nat} {p0 : Int32} {p1 : Int32} (hN : NBig N) (hK : 100 ≤ K) (hp0 : 0 ≤ p0.toInt) (hp1 : p0.toInt ≤ 2) (hp2 : 1 ≤ p1.toInt) (hp3 : p1.toInt ≤ 20) : ∀ (fu : Nat) (l2 : Int32), (4 - l2.toInt).toNat < fu → 0 ≤ p0.toInt → p0.toInt ≤ 0 → 1 ≤ l2.toInt → l2.toInt ≤ 4 → Sf (fX7_factor_6 N K p0 p1  fu l2) (fun (z : Int32) => True) := by
  intro fu
  induction fu with
  | zero => intro l2 h0 hq0 hq1 hq2 hq3; omega
  | succ fu ih =>
    intro l2 h0 hq0 hq1 hq2 hq3
    unfold fX7_factor_6
    have ql0 : (0 : Int32).toInt = 0 := by decide
    have ql1 : (1 : Int32).toInt = 1 := by decide
    have ql2 : (2 : Int32).toInt = 2 := by decide
    have ql3 : (3 : Int32).toInt = 3 := by decide
    refine sIf (fun h1 => ?_) (fun h1 => ?_)
    · have t5 := mulL (a := (3 : Int32)) (b := l2) ql3 (by omega) (by omega)
      have t4 := subI (a := ((3 : Int32) * l2)) (b := (1 : Int32)) (by omega) (by omega)
      have t3 := mulV (a := l2) (b := (((3 : Int32) * l2) - (1 : Int32))) (x0 := 1) (y0 := 2) (x := 4) (y := 11) (z0 := 2) (z := 44) (by omega) (by omega) (by omega) (by omega) (by decide) (by decide) (by decide) (by decide) (by decide)
      have t2 := divL (a := (l2 * (((3 : Int32) * l2) - (1 : Int32)))) (b := (2 : Int32)) ql2 (by omega) (by omega)
      have fh1 := ltT h1
      exact sRet trivial
    · have t9 := mulL (a := (3 : Int32)) (b := l2) ql3 (by omega) (by omega)
      have t8 := subI (a := ((3 : Int32) * l2)) (b := (1 : Int32)) (by omega) (by omega)
      have t7 := mulV (a := l2) (b := (((3 : Int32) * l2) - (1 : Int32))) (x0 := 1) (y0 := 2) (x := 4) (y := 11) (z0 := 2) (z := 44) (by omega) (by omega) (by omega) (by omega) (by decide) (by decide) (by decide) (by decide) (by decide)
      have t6 := divL (a := (l2 * (((3 : Int32) * l2) - (1 : Int32)))) (b := (2 : Int32)) ql2 (by omega) (by omega)
      have fh1 := ltF h1
      have z6 : l2.toInt ≤ 3 := fac3 (by omega) (by omega) h1 (by omega)
      refine sIf (fun h10 => ?_) (fun h10 => ?_)
      · have fh10 := eqT h10
        exact s_X7_factor_45  hN hK (by omega) (by omega) (by omega) (by omega) _ (by first | omega | decide) (by first | omega | decide) (by first | omega | decide) (by first | omega | decide)
      · have fh10 := eqF h10
        refine sIf (fun h11 => ?_) (fun h11 => ?_)
        · have t14 := addI (a := ((3 : Int32) * l2)) (b := (1 : Int32)) (by omega) (by omega)
          have t13 := mulV (a := l2) (b := (((3 : Int32) * l2) + (1 : Int32))) (x0 := 1) (y0 := 4) (x := 3) (y := 10) (z0 := 4) (z := 30) (by omega) (by omega) (by omega) (by omega) (by decide) (by decide) (by decide) (by decide) (by decide)
          have t12 := divL (a := (l2 * (((3 : Int32) * l2) + (1 : Int32)))) (b := (2 : Int32)) ql2 (by omega) (by omega)
          have fh11 := eqT h11
          exact s_X7_factor_45  hN hK (by omega) (by omega) (by omega) (by omega) _ (by first | omega | decide) (by first | omega | decide) (by first | omega | decide) (by first | omega | decide)
        · have t17 := addI (a := ((3 : Int32) * l2)) (b := (1 : Int32)) (by omega) (by omega)
          have t16 := mulV (a := l2) (b := (((3 : Int32) * l2) + (1 : Int32))) (x0 := 1) (y0 := 4) (x := 3) (y := 10) (z0 := 4) (z := 30) (by omega) (by omega) (by omega) (by omega) (by decide) (by decide) (by decide) (by decide) (by decide)
          have t15 := divL (a := (l2 * (((3 : Int32) * l2) + (1 : Int32)))) (b := (2 : Int32)) ql2 (by omega) (by omega)
          have fh11 := eqF h11
          have t18 := addI (a := l2) (b := (1 : Int32)) (by omega) (by omega)
          exact ih _ (by omega) (by first | omega | decide) (by first | omega | decide) (by first | omega | decide) (by first | omega | decide)
set_option maxHeartbeats 2000000 in
theorem s_X7_factor {N K : Nat} {p0 : Int32} {p1 : Int32} (hN : NBig N) (hK : 100 ≤ K) (hp0 : 0 ≤ p0.toInt) (hp1 : p0.toInt ≤ 2) (hp2 : 1 ≤ p1.toInt) (hp3 : p1.toInt ≤ 20) : Sf (fX7_factor N K p0 p1) (fun (z : Int32) => True) := by
  unfold fX7_factor
  have hN9 := hN.u
  have ql0 : (0 : Int32).toInt = 0 := by decide
  have ql1 : (1 : Int32).toInt = 1 := by decide
  refine sIf (fun h1 => ?_) (fun h1 => ?_)
  · have fh1 := eqT h1
    exact s_X7_factor_6  hN hK (by omega) (by omega) (by omega) (by omega) _ _ (by omega) (by first | omega | decide) (by first | omega | decide) (by first | omega | decide) (by first | omega | decide)
  · have fh1 := eqF h1
    exact s_X7_factor_70  hN hK (by omega) (by omega) (by omega) (by omega) _ _ _ (by omega) (by first | omega | decide) (by first | omega | decide) (by first | omega | decide) (by first | omega | decide)
set_option maxHeartbeats 2000000 in
theorem s_X7_ledgerWorth {N K : Nat} {th : Int32} {f : Nat → Int32} {p0 : Int32} {p1 : Int32} (hN : NBig N) (hK : 100 ≤ K) (hp0 : 0 ≤ th.toInt) (hp1 : th.toInt ≤ 2) (hp2 : 0 ≤ p0.toInt) (hp3 : p0.toInt ≤ 2) (hp4 : 0 ≤ p1.toInt) (hp5 : p1.toInt ≤ 20) : Sf (fX7_ledgerWorth N K th f p0 p1) (fun (z : Int32) => True) := by
  unfold fX7_ledgerWorth
  have ql0 : (0 : Int32).toInt = 0 := by decide
  have ql1 : (1 : Int32).toInt = 1 := by decide
  refine sIf (fun h1 => ?_) (fun h1 => ?_)
  · have fh1 := eqT h1
    exact sRet trivial
  · have fh1 := eqF h1
    refine sIfF (noob (by omega) (by omega)) ?_
    refine sIfF (noob (by omega) (by omega)) ?_
    exact sRet trivial
set_option maxHeartbeats 2000000 in
theorem s_X7_ledgerTold_47 {N K : Nat} {th : Int32} {f : Nat → Int32} {p0 : Int32} {p1 : Int32} (hN : NBig N) (hK : 100 ≤ K) (hp0 : 0 ≤ th.toInt) (hp1 : th.toInt ≤ 2) (hp2 : 0 ≤ p0.toInt) (hp3 : p0.toInt ≤ 2) (hp4 : 0 ≤ p1.toInt) (hp5 : p1.toInt ≤ 1) {k_5 : Int32 → Int32 → Option (Int32)} {m_5 : Nat} (hk_5 : ∀ (l3 : Int32) (l4 : Int32), (21 - l4.toInt).toNat < m_5 → 1 ≤ l4.toInt → l4.toInt ≤ 21 → Sf (k_5 l3 l4) (fun (z : Int32) => True)) : ∀ (l3 : Int32) (l4 : Int32), 1 ≤ l4.toInt → l4.toInt ≤ 20 → (21 - l4.toInt).toNat ≤ m_5 → Sf (fX7_ledgerTold_47 N K th f p0 p1 k_5 l3 l4) (fun (z : Int32) => True) := by
  intro l3 l4 hq0 hq1 hq2
  unfold fX7_ledgerTold_47
  have ql0 : (0 : Int32).toInt = 0 := by decide
  have ql1 : (1 : Int32).toInt = 1 := by decide
  have t1 := addI (a := l4) (b := (1 : Int32)) (by omega) (by omega)
  exact hk_5 _ _ (by omega) (by first | omega | decide) (by first | omega | decide)
set_option maxHeartbeats 2000000 in
theorem s_X7_ledgerTold_45 {N K : Nat} {th : Int32} {f : Nat → Int32} {p0 : Int32} {p1 : Int32} (hN : NBig N) (hK : 100 ≤ K) (hp0 : 0 ≤ th.toInt) (hp1 : th.toInt ≤ 2) (hp2 : 0 ≤ p0.toInt) (hp3 : p0.toInt ≤ 2) (hp4 : 0 ≤ p1.toInt) (hp5 : p1.toInt ≤ 1) {k_5 : Int32 → Int32 → Option (Int32)} {m_5 : Nat} (hk_5 : ∀ (l3 : Int32) (l4 : Int32), (21 - l4.toInt).toNat < m_5 → 1 ≤ l4.toInt → l4.toInt ≤ 21 → Sf (k_5 l3 l4) (fun (z : Int32) => True)) : ∀ (l4 : Int32) (s0 : Int32) (s1 : Int32), 1 ≤ l4.toInt → l4.toInt ≤ 20 → (s0.toInt = 0 → 0 ≤ th.toInt ∧ th.toInt ≤ 2 ∧ 0 ≤ p0.toInt ∧ p0.toInt ≤ 2 ∧ 1 ≤ p1.toInt ∧ p1.toInt ≤ 1) → (s1.toInt = 0 → 0 ≤ th.toInt ∧ th.toInt ≤ 2 ∧ 0 ≤ p0.toInt ∧ p0.toInt ≤ 2 ∧ 0 ≤ p1.toInt ∧ p1.toInt ≤ 1) → (21 - l4.toInt).toNat ≤ m_5 → Sf (fX7_ledgerTold_45 N K th f p0 p1 k_5 l4 s0 s1) (fun (z : Int32) => True) := by
  intro l4 s0 s1 hq0 hq1 hq2 hq3 hq4
  unfold fX7_ledgerTold_45
  have ql0 : (0 : Int32).toInt = 0 := by decide
  exact s_X7_ledgerTold_47 (hk_5 := hk_5) hN hK (by omega) (by omega) (by omega) (by omega) (by omega) (by omega) _ _ (by first | omega | decide) (by first | omega | decide) (by omega)
set_option maxHeartbeats 2000000 in
theorem s_X7_ledgerTold_5 {N K : Nat} {th : Int32} {f : Nat → Int32} {p0 : Int32} {p1 : Int32} (hN : NBig N) (hK : 100 ≤ K) (hp0 : 0 ≤ th.toInt) (hp1 : th.toInt ≤ 2) (hp2 : 0 ≤ p0.toInt) (hp3 : p0.toInt ≤ 2) (hp4 : 0 ≤ p1.toInt) (hp5 : p1.toInt ≤ 1) : ∀ (fu : Nat) (l3 : Int32) (l4 : Int32), (21 - l4.toInt).toNat < fu → 1 ≤ l4.toInt → l4.toInt ≤ 21 → Sf (fX7_ledgerTold_5 N K th f p0 p1  fu l3 l4) (fun (z : Int32) => True) := by
  intro fu
  induction fu with
  | zero => intro l3 l4 h0 hq0 hq1; omega
  | succ fu ih =>
    intro l3 l4 h0 hq0 hq1
    unfold fX7_ledgerTold_5
    have ql0 : (0 : Int32).toInt = 0 := by decide
    have ql1 : (1 : Int32).toInt = 1 := by decide
    have ql20 : (20 : Int32).toInt = 20 := by decide
    refine sIf (fun h1 => ?_) (fun h1 => ?_)
    · have fh1 := ltT h1
      exact sRet trivial
    · have fh1 := ltF h1
      refine sIfF (noob (by omega) (by omega)) ?_
      refine sIfF (noob (by omega) (by omega)) ?_
      refine sIf (fun h2 => ?_) (fun h2 => ?_)
      · have fh2 := leT h2
        exact s_X7_ledgerTold_47 (hk_5 := ih) hN hK (by omega) (by omega) (by omega) (by omega) (by omega) (by omega) _ _ (by first | omega | decide) (by first | omega | decide) (by omega)
      · have fh2 := leF h2
        refine sIf (fun h3 => ?_) (fun h3 => ?_)
        · have fh3 := eqT h3
          exact s_X7_ledgerTold_45 (hk_5 := ih) hN hK (by omega) (by omega) (by omega) (by omega) (by omega) (by omega) _ _ _ (by first | omega | decide) (by first | omega | decide) (by first | omega | decide) (by first | omega | decide) (by omega)
        · have fh3 := eqF h3
          refine sIfF (noob (by omega) (by omega)) ?_
          refine sIfF (noob (by omega) (by omega)) ?_
          exact s_X7_ledgerTold_45 (hk_5 := ih) hN hK (by omega) (by omega) (by omega) (by omega) (by omega) (by omega) _ _ _ (by first | omega | decide) (by first | omega | decide) (by first | omega | decide) (by first | omega | decide) (by omega)
set_option maxHeartbeats 2000000 in
theorem s_X7_ledgerTold {N K : Nat} {th : Int32} {f : Nat → Int32} {p0 : Int32} {p1 : Int32} (hN : NBig N) (hK : 100 ≤ K) (hp0 : 0 ≤ th.toInt) (hp1 : th.toInt ≤ 2) (hp2 : 0 ≤ p0.toInt) (hp3 : p0.toInt ≤ 2) (hp4 : 0 ≤ p1.toInt) (hp5 : p1.toInt ≤ 1) : Sf (fX7_ledgerTold N K th f p0 p1) (fun (z : Int32) => True) := by
  unfold fX7_ledgerTold
  have hN9 := hN.u
  have ql0 : (0 : Int32).toInt = 0 := by decide
  have ql1 : (1 : Int32).toInt = 1 := by decide
  exact s_X7_ledgerTold_5  hN hK (by omega) (by omega) (by omega) (by omega) (by omega) (by omega) _ _ _ (by omega) (by first | omega | decide) (by first | omega | decide)
set_option maxHeartbeats 2000000 in
theorem s_X7_rule_282 {N K : Nat} {th : Int32} {f : Nat → Int32} {t : Nat → Int32} {u : Nat → Int32} {p0 : Int32} {p1 : Int32} (hN : NBig N) (hK : 100 ≤ K)  {k_185 : Int32 → Int32 → (Nat → Int32) → (Nat → Int32) → (Nat → Int32) → Option (Int32 × Int32 × (Nat → Int32) × (Nat → Int32) × (Nat → Int32))} {m_185 : Nat} (hk_185 : ∀ (l3 : Int32) (th_ : Int32) (f_ : (Nat → Int32)) (t_ : (Nat → Int32)) (u_ : (Nat → Int32)), (21 - l3.toInt).toNat < m_185 → 0 ≤ p0.toInt → p0.toInt ≤ 2 → 0 ≤ p1.toInt → p1.toInt ≤ 20 → 1 ≤ l3.toInt → l3.toInt ≤ 21 → 0 ≤ th_.toInt → th_.toInt ≤ 2 → Sf (k_185 l3 th_ f_ t_ u_) (fun (z : Int32 × Int32 × (Nat → Int32) × (Nat → Int32) × (Nat → Int32)) => 0 ≤ z.2.1.toInt ∧ z.2.1.toInt ≤ 2 ∧ True)) : ∀ (l3 : Int32) (th_ : Int32) (f_ : Nat → Int32) (t_ : Nat → Int32) (u_ : Nat → Int32), 0 ≤ p0.toInt → p0.toInt ≤ 2 → 1 ≤ p1.toInt → p1.toInt ≤ 20 → 1 ≤ l3.toInt → l3.toInt ≤ 20 → 0 ≤ th_.toInt → th_.toInt ≤ 2 → (21 - l3.toInt).toNat ≤ m_185 → Sf (fX7_rule_282 N K th f t u p0 p1 k_185 l3 th_ f_ t_ u_) (fun (z : Int32 × Int32 × (Nat → Int32) × (Nat → Int32) × (Nat → Int32)) => 0 ≤ z.2.1.toInt ∧ z.2.1.toInt ≤ 2 ∧ True) := by
  intro l3 th_ f_ t_ u_ hq0 hq1 hq2 hq3 hq4 hq5 hq6 hq7 hq8
  unfold fX7_rule_282
  have ql0 : (0 : Int32).toInt = 0 := by decide
  have ql1 : (1 : Int32).toInt = 1 := by decide
  have t1 := addI (a := l3) (b := (1 : Int32)) (by omega) (by omega)
  exact hk_185 _ _ _ _ _ (by omega) (by first | omega | decide) (by first | omega | decide) (by first | omega | decide) (by first | omega | decide) (by first | omega | decide) (by first | omega | decide) (by first | omega | decide) (by first | omega | decide)
set_option maxHeartbeats 2000000 in
theorem s_X7_rule_281 {N K : Nat} {th : Int32} {f : Nat → Int32} {t : Nat → Int32} {u : Nat → Int32} {p0 : Int32} {p1 : Int32} (hN : NBig N) (hK : 100 ≤ K)  {k_185 : Int32 → Int32 → (Nat → Int32) → (Nat → Int32) → (Nat → Int32) → Option (Int32 × Int32 × (Nat → Int32) × (Nat → Int32) × (Nat → Int32))} {m_185 : Nat} (hk_185 : ∀ (l3 : Int32) (th_ : Int32) (f_ : (Nat → Int32)) (t_ : (Nat → Int32)) (u_ : (Nat → Int32)), (21 - l3.toInt).toNat < m_185 → 0 ≤ p0.toInt → p0.toInt ≤ 2 → 0 ≤ p1.toInt → p1.toInt ≤ 20 → 1 ≤ l3.toInt → l3.toInt ≤ 21 → 0 ≤ th_.toInt → th_.toInt ≤ 2 → Sf (k_185 l3 th_ f_ t_ u_) (fun (z : Int32 × Int32 × (Nat → Int32) × (Nat → Int32) × (Nat → Int32)) => 0 ≤ z.2.1.toInt ∧ z.2.1.toInt ≤ 2 ∧ True)) : ∀ (l3 : Int32) (s0 : Int32) (s1 : Int32) (th_ : Int32) (f_ : Nat → Int32) (t_ : Nat → Int32) (u_ : Nat → Int32), 0 ≤ p0.toInt → p0.toInt ≤ 2 → 1 ≤ p1.toInt → p1.toInt ≤ 20 → 1 ≤ l3.toInt → l3.toInt ≤ 20 → 1 ≤ s1.toInt → s1.toInt ≤ 20 → 0 ≤ th_.toInt → th_.toInt ≤ 2 → (s0.toInt = 0 → 0 ≤ p0.toInt ∧ p0.toInt ≤ 2 ∧ 1 ≤ p1.toInt ∧ p1.toInt ≤ 20) → (21 - l3.toInt).toNat ≤ m_185 → Sf (fX7_rule_281 N K th f t u p0 p1 k_185 l3 s0 s1 th_ f_ t_ u_) (fun (z : Int32 × Int32 × (Nat → Int32) × (Nat → Int32) × (Nat → Int32)) => 0 ≤ z.2.1.toInt ∧ z.2.1.toInt ≤ 2 ∧ True) := by
  intro l3 s0 s1 th_ f_ t_ u_ hq0 hq1 hq2 hq3 hq4 hq5 hq6 hq7 hq8 hq9 hq10 hq11
  unfold fX7_rule_281
  have ql0 : (0 : Int32).toInt = 0 := by decide
  refine sIfF (noob (by omega) (by omega)) ?_
  exact s_X7_rule_282 (hk_185 := hk_185) hN hK _ _ _ _ _ (by first | omega | decide) (by first | omega | decide) (by first | omega | decide) (by first | omega | decide) (by first | omega | decide) (by first | omega | decide) (by first | omega | decide) (by first | omega | decide) (by omega)
set_option maxHeartbeats 2000000 in
theorem s_X7_rule_255 {N K : Nat} {th : Int32} {f : Nat → Int32} {t : Nat → Int32} {u : Nat → Int32} {p0 : Int32} {p1 : Int32} (hN : NBig N) (hK : 100 ≤ K)  {k_185 : Int32 → Int32 → (Nat → Int32) → (Nat → Int32) → (Nat → Int32) → Option (Int32 × Int32 × (Nat → Int32) × (Nat → Int32) × (Nat → Int32))} {m_185 : Nat} (hk_185 : ∀ (l3 : Int32) (th_ : Int32) (f_ : (Nat → Int32)) (t_ : (Nat → Int32)) (u_ : (Nat → Int32)), (21 - l3.toInt).toNat < m_185 → 0 ≤ p0.toInt → p0.toInt ≤ 2 → 0 ≤ p1.toInt → p1.toInt ≤ 20 → 1 ≤ l3.toInt → l3.toInt ≤ 21 → 0 ≤ th_.toInt → th_.toInt ≤ 2 → Sf (k_185 l3 th_ f_ t_ u_) (fun (z : Int32 × Int32 × (Nat → Int32) × (Nat → Int32) × (Nat → Int32)) => 0 ≤ z.2.1.toInt ∧ z.2.1.toInt ≤ 2 ∧ True)) {k_219 : Int32 → Int32 → Int32 → Int32 → (Nat → Int32) → (Nat → Int32) → (Nat → Int32) → Option (Int32 × Int32 × (Nat → Int32) × (Nat → Int32) × (Nat → Int32))} {m_219 : Nat} (hk_219 : ∀ (l3 : Int32) (l4 : Int32) (l5 : Int32) (th_ : Int32) (f_ : (Nat → Int32)) (t_ : (Nat → Int32)) (u_ : (Nat → Int32)), (21 - l5.toInt).toNat < m_219 → 0 ≤ p0.toInt → p0.toInt ≤ 2 → 1 ≤ p1.toInt → p1.toInt ≤ 20 → 1 ≤ l3.toInt → l3.toInt ≤ 20 → 1 ≤ l5.toInt → l5.toInt ≤ 21 → 0 ≤ th_.toInt → th_.toInt ≤ 2 → (21 - l3.toInt).toNat ≤ m_185 → Sf (k_219 l3 l4 l5 th_ f_ t_ u_) (fun (z : Int32 × Int32 × (Nat → Int32) × (Nat → Int32) × (Nat → Int32)) => 0 ≤ z.2.1.toInt ∧ z.2.1.toInt ≤ 2 ∧ True)) : ∀ (l3 : Int32) (l4 : Int32) (l5 : Int32) (th_ : Int32) (f_ : Nat → Int32) (t_ : Nat → Int32) (u_ : Nat → Int32), 0 ≤ p0.toInt → p0.toInt ≤ 2 → 1 ≤ p1.toInt → p1.toInt ≤ 20 → 1 ≤ l3.toInt → l3.toInt ≤ 20 → 1 ≤ l5.toInt → l5.toInt ≤ 20 → 0 ≤ th_.toInt → th_.toInt ≤ 2 → (21 - l3.toInt).toNat ≤ m_185 → (21 - l5.toInt).toNat ≤ m_219 → Sf (fX7_rule_255 N K th f t u p0 p1 k_185 k_219 l3 l4 l5 th_ f_ t_ u_) (fun (z : Int32 × Int32 × (Nat → Int32) × (Nat → Int32) × (Nat → Int32)) => 0 ≤ z.2.1.toInt ∧ z.2.1.toInt ≤ 2 ∧ True) := by
  intro l3 l4 l5 th_ f_ t_ u_ hq0 hq1 hq2 hq3 hq4 hq5 hq6 hq7 hq8 hq9 hq10 hq11
  unfold fX7_rule_255
  have ql0 : (0 : Int32).toInt = 0 := by decide
  have ql1 : (1 : Int32).toInt = 1 := by decide
  have t1 := addI (a := l5) (b := (1 : Int32)) (by omega) (by omega)
  exact hk_219 _ _ _ _ _ _ _ (by omega) (by first | omega | decide) (by first | omega | decide) (by first | omega | decide) (by first | omega | decide) (by first | omega | decide) (by first | omega | decide) (by first | omega | decide) (by first | omega | decide) (by first | omega | decide) (by first | omega | decide) (by omega)
set_option maxHeartbeats 2000000 in
theorem s_X7_rule_219 {N K : Nat} {th : Int32} {f : Nat → Int32} {t : Nat → Int32} {u : Nat → Int32} {p0 : Int32} {p1 : Int32} (hN : NBig N) (hK : 100 ≤ K)  {k_185 : Int32 → Int32 → (Nat → Int32) → (Nat → Int32) → (Nat → Int32) → Option (Int32 × Int32 × (Nat → Int32) × (Nat → Int32) × (Nat → Int32))} {m_185 : Nat} (hk_185 : ∀ (l3 : Int32) (th_ : Int32) (f_ : (Nat → Int32)) (t_ : (Nat → Int32)) (u_ : (Nat → Int32)), (21 - l3.toInt).toNat < m_185 → 0 ≤ p0.toInt → p0.toInt ≤ 2 → 0 ≤ p1.toInt → p1.toInt ≤ 20 → 1 ≤ l3.toInt → l3.toInt ≤ 21 → 0 ≤ th_.toInt → th_.toInt ≤ 2 → Sf (k_185 l3 th_ f_ t_ u_) (fun (z : Int32 × Int32 × (Nat → Int32) × (Nat → Int32) × (Nat → Int32)) => 0 ≤ z.2.1.toInt ∧ z.2.1.toInt ≤ 2 ∧ True)) : ∀ (fu : Nat) (l3 : Int32) (l4 : Int32) (l5 : Int32) (th_ : Int32) (f_ : (Nat → Int32)) (t_ : (Nat → Int32)) (u_ : (Nat → Int32)), (21 - l5.toInt).toNat < fu → 0 ≤ p0.toInt → p0.toInt ≤ 2 → 1 ≤ p1.toInt → p1.toInt ≤ 20 → 1 ≤ l3.toInt → l3.toInt ≤ 20 → 1 ≤ l5.toInt → l5.toInt ≤ 21 → 0 ≤ th_.toInt → th_.toInt ≤ 2 → (21 - l3.toInt).toNat ≤ m_185 → Sf (fX7_rule_219 N K th f t u p0 p1 k_185 fu l3 l4 l5 th_ f_ t_ u_) (fun (z : Int32 × Int32 × (Nat → Int32) × (Nat → Int32) × (Nat → Int32)) => 0 ≤ z.2.1.toInt ∧ z.2.1.toInt ≤ 2 ∧ True) := by
  intro fu
  induction fu with
  | zero => intro l3 l4 l5 th_ f_ t_ u_ h0 hq0 hq1 hq2 hq3 hq4 hq5 hq6 hq7 hq8 hq9 hq10; omega
  | succ fu ih =>
    intro l3 l4 l5 th_ f_ t_ u_ h0 hq0 hq1 hq2 hq3 hq4 hq5 hq6 hq7 hq8 hq9 hq10
    unfold fX7_rule_219
    have ql0 : (0 : Int32).toInt = 0 := by decide
    refine sIf (fun h1 => ?_) (fun h1 => ?_)
    · have fh1 := ltT h1
      refine sIfF (noob (by omega) (by omega)) ?_
      refine sIf (fun h2 => ?_) (fun h2 => ?_)
      · have fh2 := eqT h2
        exact s_X7_rule_281 (hk_185 := hk_185) hN hK _ _ _ _ _ _ _ (by first | omega | decide) (by first | omega | decide) (by first | omega | decide) (by first | omega | decide) (by first | omega | decide) (by first | omega | decide) (by first | omega | decide) (by first | omega | decide) (by first | omega | decide) (by first | omega | decide) (by first | omega | decide) (by omega)
      · have fh2 := eqF h2
        refine sIfF (fun e9 => by have e8 := eqT e9; omega) ?_
        exact s_X7_rule_281 (hk_185 := hk_185) hN hK _ _ _ _ _ _ _ (by first | omega | decide) (by first | omega | decide) (by first | omega | decide) (by first | omega | decide) (by first | omega | decide) (by first | omega | decide) (by first | omega | decide) (by first | omega | decide) (by first | omega | decide) (by first | omega | decide) (by first | omega | decide) (by omega)
    · have fh1 := ltF h1
      refine sBind (s_X7_factor hN hK (by first | omega | decide) (by first | omega | decide) (by first | omega | decide) (by first | omega | decide)) (fun x228 b4 => ?_)
      refine sIf (fun h5 => ?_) (fun h5 => ?_)
      · have fh5 := eqT h5
        exact s_X7_rule_255 (hk_185 := hk_185) (hk_219 := ih) hN hK _ _ _ _ _ _ _ (by first | omega | decide) (by first | omega | decide) (by first | omega | decide) (by first | omega | decide) (by first | omega | decide) (by first | omega | decide) (by first | omega | decide) (by first | omega | decide) (by first | omega | decide) (by first | omega | decide) (by omega) (by omega)
      · have fh5 := eqF h5
        refine sBind (s_X7_factor hN hK (by first | omega | decide) (by first | omega | decide) (by first | omega | decide) (by first | omega | decide)) (fun x239 b6 => ?_)
        have t7 := subI (a := l3) (b := l5) (by omega) (by omega)
        refine sBind (s_X7_ledgerWorth hN hK (by first | omega | decide) (by first | omega | decide) (by first | omega | decide) (by first | omega | decide) (by first | omega | decide) (by first | omega | decide)) (fun x248 b8 => ?_)
        exact s_X7_rule_255 (hk_185 := hk_185) (hk_219 := ih) hN hK _ _ _ _ _ _ _ (by first | omega | decide) (by first | omega | decide) (by first | omega | decide) (by first | omega | decide) (by first | omega | decide) (by first | omega | decide) (by first | omega | decide) (by first | omega | decide) (by first | omega | decide) (by first | omega | decide) (by omega) (by omega)
set_option maxHeartbeats 2000000 in
theorem s_X7_rule_185 {N K : Nat} {th : Int32} {f : Nat → Int32} {t : Nat → Int32} {u : Nat → Int32} {p0 : Int32} {p1 : Int32} (hN : NBig N) (hK : 100 ≤ K)  : ∀ (fu : Nat) (l3 : Int32) (th_ : Int32) (f_ : (Nat → Int32)) (t_ : (Nat → Int32)) (u_ : (Nat → Int32)), (21 - l3.toInt).toNat < fu → 0 ≤ p0.toInt → p0.toInt ≤ 2 → 0 ≤ p1.toInt → p1.toInt ≤ 20 → 1 ≤ l3.toInt → l3.toInt ≤ 21 → 0 ≤ th_.toInt → th_.toInt ≤ 2 → Sf (fX7_rule_185 N K th f t u p0 p1  fu l3 th_ f_ t_ u_) (fun (z : Int32 × Int32 × (Nat → Int32) × (Nat → Int32) × (Nat → Int32)) => 0 ≤ z.2.1.toInt ∧ z.2.1.toInt ≤ 2 ∧ True) := by
  intro fu
  induction fu with
  | zero => intro l3 th_ f_ t_ u_ h0 hq0 hq1 hq2 hq3 hq4 hq5 hq6 hq7; omega
  | succ fu ih =>
    intro l3 th_ f_ t_ u_ h0 hq0 hq1 hq2 hq3 hq4 hq5 hq6 hq7
    unfold fX7_rule_185
    have hN9 := hN.u
    have ql0 : (0 : Int32).toInt = 0 := by decide
    have ql1 : (1 : Int32).toInt = 1 := by decide
    refine sIf (fun h1 => ?_) (fun h1 => ?_)
    · have fh1 := ltT h1
      refine sBind (s_X7_ledgerWorth hN hK (by first | omega | decide) (by first | omega | decide) (by first | omega | decide) (by first | omega | decide) (by first | omega | decide) (by first | omega | decide)) (fun x292 b2 => ?_)
      refine sBind (s_X7_done hN hK (by first | omega | decide) (by first | omega | decide)) (fun x295 b3 => ?_)
      exact sRet ⟨(by show 0 ≤ th_.toInt; first | omega | assumption), (by show th_.toInt ≤ 2; first | omega | assumption), trivial⟩
    · have fh1 := ltF h1
      refine sIfF (noob (by omega) (by omega)) ?_
      refine sIf (fun h4 => ?_) (fun h4 => ?_)
      · have fh4 := eqT h4
        exact s_X7_rule_282 (hk_185 := ih) hN hK _ _ _ _ _ (by first | omega | decide) (by first | omega | decide) (by first | omega | decide) (by first | omega | decide) (by first | omega | decide) (by first | omega | decide) (by first | omega | decide) (by first | omega | decide) (by omega)
      · have fh4 := eqF h4
        refine sIfF (noob (by omega) (by omega)) ?_
        refine sIfF (noob (by omega) (by omega)) ?_
        refine sIf (fun h5 => ?_) (fun h5 => ?_)
        · have fh5 := leT h5
          exact s_X7_rule_219 (hk_185 := ih) hN hK _ _ _ _ _ _ _ _ (by omega) (by first | omega | decide) (by first | omega | decide) (by first | omega | decide) (by first | omega | decide) (by first | omega | decide) (by first | omega | decide) (by first | omega | decide) (by first | omega | decide) (by first | omega | decide) (by first | omega | decide) (by omega)
        · have fh5 := leF h5
          exact s_X7_rule_282 (hk_185 := ih) hN hK _ _ _ _ _ (by first | omega | decide) (by first | omega | decide) (by first | omega | decide) (by first | omega | decide) (by first | omega | decide) (by first | omega | decide) (by first | omega | decide) (by first | omega | decide) (by omega)
set_option maxHeartbeats 2000000 in
theorem s_X7_rule_177 {N K : Nat} {th : Int32} {f : Nat → Int32} {t : Nat → Int32} {u : Nat → Int32} {p0 : Int32} {p1 : Int32} (hN : NBig N) (hK : 100 ≤ K)  {k_51 : Int32 → Int32 → (Nat → Int32) → (Nat → Int32) → (Nat → Int32) → Option (Int32 × Int32 × (Nat → Int32) × (Nat → Int32) × (Nat → Int32))} {m_51 : Nat} (hk_51 : ∀ (l3 : Int32) (th_ : Int32) (f_ : (Nat → Int32)) (t_ : (Nat → Int32)) (u_ : (Nat → Int32)), (l3.toInt - 0).toNat < m_51 → 0 ≤ p0.toInt → p0.toInt ≤ 2 → 0 ≤ p1.toInt → p1.toInt ≤ 20 → 0 ≤ l3.toInt → l3.toInt ≤ 20 → 0 ≤ th_.toInt → th_.toInt ≤ 2 → Sf (k_51 l3 th_ f_ t_ u_) (fun (z : Int32 × Int32 × (Nat → Int32) × (Nat → Int32) × (Nat → Int32)) => 0 ≤ z.2.1.toInt ∧ z.2.1.toInt ≤ 2 ∧ True)) : ∀ (l3 : Int32) (th_ : Int32) (f_ : Nat → Int32) (t_ : Nat → Int32) (u_ : Nat → Int32), 0 ≤ p0.toInt → p0.toInt ≤ 2 → 0 ≤ p1.toInt → p1.toInt ≤ 20 → 1 ≤ l3.toInt → l3.toInt ≤ 20 → 0 ≤ th_.toInt → th_.toInt ≤ 2 → (l3.toInt - 0).toNat ≤ m_51 → Sf (fX7_rule_177 N K th f t u p0 p1 k_51 l3 th_ f_ t_ u_) (fun (z : Int32 × Int32 × (Nat → Int32) × (Nat → Int32) × (Nat → Int32)) => 0 ≤ z.2.1.toInt ∧ z.2.1.toInt ≤ 2 ∧ True) := by
  intro l3 th_ f_ t_ u_ hq0 hq1 hq2 hq3 hq4 hq5 hq6 hq7 hq8
  unfold fX7_rule_177
  have ql0 : (0 : Int32).toInt = 0 := by decide
  have t1 : (l3 + (-1 : Int32)).toInt = l3.toInt + (-1) := addL (by decide) (by omega) (by omega)
  exact hk_51 _ _ _ _ _ (by (try generalize l3 + (-1 : Int32) = d0_ at *); omega) (by (try generalize l3 + (-1 : Int32) = d0_ at *); first | omega | decide) (by (try generalize l3 + (-1 : Int32) = d0_ at *); first | omega | decide) (by (try generalize l3 + (-1 : Int32) = d0_ at *); first | omega | decide) (by (try generalize l3 + (-1 : Int32) = d0_ at *); first | omega | decide) (by (try generalize l3 + (-1 : Int32) = d0_ at *); first | omega | decide) (by (try generalize l3 + (-1 : Int32) = d0_ at *); first | omega | decide) (by (try generalize l3 + (-1 : Int32) = d0_ at *); first | omega | decide) (by (try generalize l3 + (-1 : Int32) = d0_ at *); first | omega | decide)
set_option maxHeartbeats 2000000 in
theorem s_X7_rule_171 {N K : Nat} {th : Int32} {f : Nat → Int32} {t : Nat → Int32} {u : Nat → Int32} {p0 : Int32} {p1 : Int32} (hN : NBig N) (hK : 100 ≤ K)  {k_51 : Int32 → Int32 → (Nat → Int32) → (Nat → Int32) → (Nat → Int32) → Option (Int32 × Int32 × (Nat → Int32) × (Nat → Int32) × (Nat → Int32))} {m_51 : Nat} (hk_51 : ∀ (l3 : Int32) (th_ : Int32) (f_ : (Nat → Int32)) (t_ : (Nat → Int32)) (u_ : (Nat → Int32)), (l3.toInt - 0).toNat < m_51 → 0 ≤ p0.toInt → p0.toInt ≤ 2 → 0 ≤ p1.toInt → p1.toInt ≤ 20 → 0 ≤ l3.toInt → l3.toInt ≤ 20 → 0 ≤ th_.toInt → th_.toInt ≤ 2 → Sf (k_51 l3 th_ f_ t_ u_) (fun (z : Int32 × Int32 × (Nat → Int32) × (Nat → Int32) × (Nat → Int32)) => 0 ≤ z.2.1.toInt ∧ z.2.1.toInt ≤ 2 ∧ True)) {k_138 : Int32 → Int32 → Int32 → Int32 → (Nat → Int32) → (Nat → Int32) → (Nat → Int32) → Option (Int32 × Int32 × (Nat → Int32) × (Nat → Int32) × (Nat → Int32))} {m_138 : Nat} (hk_138 : ∀ (l3 : Int32) (l4 : Int32) (l5 : Int32) (th_ : Int32) (f_ : (Nat → Int32)) (t_ : (Nat → Int32)) (u_ : (Nat → Int32)), (21 - l5.toInt).toNat < m_138 → 0 ≤ p0.toInt → p0.toInt ≤ 2 → 0 ≤ p1.toInt → p1.toInt ≤ 20 → 1 ≤ l3.toInt → l3.toInt ≤ 20 → 0 ≤ l4.toInt → l4.toInt ≤ 1 → 1 ≤ l5.toInt → l5.toInt ≤ 21 → 0 ≤ th_.toInt → th_.toInt ≤ 2 → (l3.toInt - 0).toNat ≤ m_51 → Sf (k_138 l3 l4 l5 th_ f_ t_ u_) (fun (z : Int32 × Int32 × (Nat → Int32) × (Nat → Int32) × (Nat → Int32)) => 0 ≤ z.2.1.toInt ∧ z.2.1.toInt ≤ 2 ∧ True)) : ∀ (l3 : Int32) (l4 : Int32) (l5 : Int32) (th_ : Int32) (f_ : Nat → Int32) (t_ : Nat → Int32) (u_ : Nat → Int32), 0 ≤ p0.toInt → p0.toInt ≤ 2 → 0 ≤ p1.toInt → p1.toInt ≤ 20 → 1 ≤ l3.toInt → l3.toInt ≤ 20 → 1 ≤ l4.toInt → l4.toInt ≤ 1 → 1 ≤ l5.toInt → l5.toInt ≤ 20 → 0 ≤ th_.toInt → th_.toInt ≤ 2 → (l3.toInt - 0).toNat ≤ m_51 → (21 - l5.toInt).toNat ≤ m_138 → Sf (fX7_rule_171 N K th f t u p0 p1 k_51 k_138 l3 l4 l5 th_ f_ t_ u_) (fun (z : Int32 × Int32 × (Nat → Int32) × (Nat → Int32) × (Nat → Int32)) => 0 ≤ z.2.1.toInt ∧ z.2.1.toInt ≤ 2 ∧ True) := by
  intro l3 l4 l5 th_ f_ t_ u_ hq0 hq1 hq2 hq3 hq4 hq5 hq6 hq7 hq8 hq9 hq10 hq11 hq12 hq13
  unfold fX7_rule_171
  have ql0 : (0 : Int32).toInt = 0 := by decide
  have ql1 : (1 : Int32).toInt = 1 := by decide
  have t1 := addI (a := l5) (b := (1 : Int32)) (by omega) (by omega)
  exact hk_138 _ _ _ _ _ _ _ (by omega) (by first | omega | decide) (by first | omega | decide) (by first | omega | decide) (by first | omega | decide) (by first | omega | decide) (by first | omega | decide) (by first | omega | decide) (by first | omega | decide) (by first | omega | decide) (by first | omega | decide) (by first | omega | decide) (by first | omega | decide) (by omega)
set_option maxHeartbeats 2000000 in
theorem s_X7_rule_138 {N K : Nat} {th : Int32} {f : Nat → Int32} {t : Nat → Int32} {u : Nat → Int32} {p0 : Int32} {p1 : Int32} (hN : NBig N) (hK : 100 ≤ K)  {k_51 : Int32 → Int32 → (Nat → Int32) → (Nat → Int32) → (Nat → Int32) → Option (Int32 × Int32 × (Nat → Int32) × (Nat → Int32) × (Nat → Int32))} {m_51 : Nat} (hk_51 : ∀ (l3 : Int32) (th_ : Int32) (f_ : (Nat → Int32)) (t_ : (Nat → Int32)) (u_ : (Nat → Int32)), (l3.toInt - 0).toNat < m_51 → 0 ≤ p0.toInt → p0.toInt ≤ 2 → 0 ≤ p1.toInt → p1.toInt ≤ 20 → 0 ≤ l3.toInt → l3.toInt ≤ 20 → 0 ≤ th_.toInt → th_.toInt ≤ 2 → Sf (k_51 l3 th_ f_ t_ u_) (fun (z : Int32 × Int32 × (Nat → Int32) × (Nat → Int32) × (Nat → Int32)) => 0 ≤ z.2.1.toInt ∧ z.2.1.toInt ≤ 2 ∧ True)) : ∀ (fu : Nat) (l3 : Int32) (l4 : Int32) (l5 : Int32) (th_ : Int32) (f_ : (Nat → Int32)) (t_ : (Nat → Int32)) (u_ : (Nat → Int32)), (21 - l5.toInt).toNat < fu → 0 ≤ p0.toInt → p0.toInt ≤ 2 → 0 ≤ p1.toInt → p1.toInt ≤ 20 → 1 ≤ l3.toInt → l3.toInt ≤ 20 → 0 ≤ l4.toInt → l4.toInt ≤ 1 → 1 ≤ l5.toInt → l5.toInt ≤ 21 → 0 ≤ th_.toInt → th_.toInt ≤ 2 → (l3.toInt - 0).toNat ≤ m_51 → Sf (fX7_rule_138 N K th f t u p0 p1 k_51 fu l3 l4 l5 th_ f_ t_ u_) (fun (z : Int32 × Int32 × (Nat → Int32) × (Nat → Int32) × (Nat → Int32)) => 0 ≤ z.2.1.toInt ∧ z.2.1.toInt ≤ 2 ∧ True) := by
  intro fu
  induction fu with
  | zero => intro l3 l4 l5 th_ f_ t_ u_ h0 hq0 hq1 hq2 hq3 hq4 hq5 hq6 hq7 hq8 hq9 hq10 hq11 hq12; omega
  | succ fu ih =>
    intro l3 l4 l5 th_ f_ t_ u_ h0 hq0 hq1 hq2 hq3 hq4 hq5 hq6 hq7 hq8 hq9 hq10 hq11 hq12
    unfold fX7_rule_138
    have ql0 : (0 : Int32).toInt = 0 := by decide
    refine sIf (fun h1 => ?_) (fun h1 => ?_)
    · have fh1 := ltT h1
      exact s_X7_rule_177 (hk_51 := hk_51) hN hK _ _ _ _ _ (by first | omega | decide) (by first | omega | decide) (by first | omega | decide) (by first | omega | decide) (by first | omega | decide) (by first | omega | decide) (by first | omega | decide) (by first | omega | decide) (by omega)
    · have fh1 := ltF h1
      refine sIf (fun h2 => ?_) (fun h2 => ?_)
      · have fh2 := eqT h2
        exact s_X7_rule_177 (hk_51 := hk_51) hN hK _ _ _ _ _ (by first | omega | decide) (by first | omega | decide) (by first | omega | decide) (by first | omega | decide) (by first | omega | decide) (by first | omega | decide) (by first | omega | decide) (by first | omega | decide) (by omega)
      · have fh2 := eqF h2
        refine sBind (s_X7_factor hN hK (by first | omega | decide) (by first | omega | decide) (by first | omega | decide) (by first | omega | decide)) (fun x152 b3 => ?_)
        refine sIf (fun h4 => ?_) (fun h4 => ?_)
        · have fh4 := eqT h4
          exact s_X7_rule_171 (hk_51 := hk_51) (hk_138 := ih) hN hK _ _ _ _ _ _ _ (by first | omega | decide) (by first | omega | decide) (by first | omega | decide) (by first | omega | decide) (by first | omega | decide) (by first | omega | decide) (by first | omega | decide) (by first | omega | decide) (by first | omega | decide) (by first | omega | decide) (by first | omega | decide) (by first | omega | decide) (by omega) (by omega)
        · have fh4 := eqF h4
          have t5 := subI (a := l3) (b := l5) (by omega) (by omega)
          refine sIfF (noob (by omega) (by omega)) ?_
          refine sIfF (noob (by omega) (by omega)) ?_
          exact s_X7_rule_171 (hk_51 := hk_51) (hk_138 := ih) hN hK _ _ _ _ _ _ _ (by first | omega | decide) (by first | omega | decide) (by first | omega | decide) (by first | omega | decide) (by first | omega | decide) (by first | omega | decide) (by first | omega | decide) (by first | omega | decide) (by first | omega | decide) (by first | omega | decide) (by first | omega | decide) (by first | omega | decide) (by omega) (by omega)
set_option maxHeartbeats 2000000 in
theorem s_X7_rule_83 {N K : Nat} {th : Int32} {f : Nat → Int32} {t : Nat → Int32} {u : Nat → Int32} {p0 : Int32} {p1 : Int32} (hN : NBig N) (hK : 100 ≤ K)  {k_51 : Int32 → Int32 → (Nat → Int32) → (Nat → Int32) → (Nat → Int32) → Option (Int32 × Int32 × (Nat → Int32) × (Nat → Int32) × (Nat → Int32))} {m_51 : Nat} (hk_51 : ∀ (l3 : Int32) (th_ : Int32) (f_ : (Nat → Int32)) (t_ : (Nat → Int32)) (u_ : (Nat → Int32)), (l3.toInt - 0).toNat < m_51 → 0 ≤ p0.toInt → p0.toInt ≤ 2 → 0 ≤ p1.toInt → p1.toInt ≤ 20 → 0 ≤ l3.toInt → l3.toInt ≤ 20 → 0 ≤ th_.toInt → th_.toInt ≤ 2 → Sf (k_51 l3 th_ f_ t_ u_) (fun (z : Int32 × Int32 × (Nat → Int32) × (Nat → Int32) × (Nat → Int32)) => 0 ≤ z.2.1.toInt ∧ z.2.1.toInt ≤ 2 ∧ True)) : ∀ (l3 : Int32) (s0 : Int32) (th_ : Int32) (f_ : Nat → Int32) (t_ : Nat → Int32) (u_ : Nat → Int32), 0 ≤ p0.toInt → p0.toInt ≤ 2 → 0 ≤ p1.toInt → p1.toInt ≤ 20 → 1 ≤ l3.toInt → l3.toInt ≤ 20 → 0 ≤ s0.toInt → s0.toInt ≤ 1 → 0 ≤ th_.toInt → th_.toInt ≤ 2 → (s0.toInt = 0 → 0 ≤ p0.toInt ∧ p0.toInt ≤ 2 ∧ 0 ≤ p1.toInt ∧ p1.toInt ≤ 20) → (l3.toInt - 0).toNat ≤ m_51 → Sf (fX7_rule_83 N K th f t u p0 p1 k_51 l3 s0 th_ f_ t_ u_) (fun (z : Int32 × Int32 × (Nat → Int32) × (Nat → Int32) × (Nat → Int32)) => 0 ≤ z.2.1.toInt ∧ z.2.1.toInt ≤ 2 ∧ True) := by
  intro l3 s0 th_ f_ t_ u_ hq0 hq1 hq2 hq3 hq4 hq5 hq6 hq7 hq8 hq9 hq10 hq11
  unfold fX7_rule_83
  have hN9 := hN.u
  have ql0 : (0 : Int32).toInt = 0 := by decide
  have ql1 : (1 : Int32).toInt = 1 := by decide
  refine sIfF (noob (by omega) (by omega)) ?_
  refine sBind (s_X7_bit hN hK (by first | omega | decide) (by first | omega | decide)) (fun x109 b1 => ?_)
  obtain ⟨b1_0, b1_1, -⟩ := b1
  replace b1_0 : 0 ≤ x109.toInt := b1_0
  replace b1_1 : x109.toInt ≤ 1 := b1_1
  refine sIfF (noob (by omega) (by omega)) ?_
  refine sBind (s_X7_bit hN hK (by first | omega | decide) (by first | omega | decide)) (fun x129 b2 => ?_)
  obtain ⟨b2_0, b2_1, -⟩ := b2
  replace b2_0 : 0 ≤ x129.toInt := b2_0
  replace b2_1 : x129.toInt ≤ 1 := b2_1
  exact s_X7_rule_138 (hk_51 := hk_51) hN hK _ _ _ _ _ _ _ _ (by omega) (by first | omega | decide) (by first | omega | decide) (by first | omega | decide) (by first | omega | decide) (by first | omega | decide) (by first | omega | decide) (by first | omega | decide) (by first | omega | decide) (by first | omega | decide) (by first | omega | decide) (by first | omega | decide) (by first | omega | decide) (by omega)
set_option maxHeartbeats 2000000 in
theorem s_X7_rule_51 {N K : Nat} {th : Int32} {f : Nat → Int32} {t : Nat → Int32} {u : Nat → Int32} {p0 : Int32} {p1 : Int32} (hN : NBig N) (hK : 100 ≤ K)  : ∀ (fu : Nat) (l3 : Int32) (th_ : Int32) (f_ : (Nat → Int32)) (t_ : (Nat → Int32)) (u_ : (Nat → Int32)), (l3.toInt - 0).toNat < fu → 0 ≤ p0.toInt → p0.toInt ≤ 2 → 0 ≤ p1.toInt → p1.toInt ≤ 20 → 0 ≤ l3.toInt → l3.toInt ≤ 20 → 0 ≤ th_.toInt → th_.toInt ≤ 2 → Sf (fX7_rule_51 N K th f t u p0 p1  fu l3 th_ f_ t_ u_) (fun (z : Int32 × Int32 × (Nat → Int32) × (Nat → Int32) × (Nat → Int32)) => 0 ≤ z.2.1.toInt ∧ z.2.1.toInt ≤ 2 ∧ True) := by
  intro fu
  induction fu with
  | zero => intro l3 th_ f_ t_ u_ h0 hq0 hq1 hq2 hq3 hq4 hq5 hq6 hq7; omega
  | succ fu ih =>
    intro l3 th_ f_ t_ u_ h0 hq0 hq1 hq2 hq3 hq4 hq5 hq6 hq7
    unfold fX7_rule_51
    have hN9 := hN.u
    have ql0 : (0 : Int32).toInt = 0 := by decide
    have ql1 : (1 : Int32).toInt = 1 := by decide
    refine sIf (fun h1 => ?_) (fun h1 => ?_)
    · have fh1 := leT h1
      exact s_X7_rule_185  hN hK _ _ _ _ _ _ (by omega) (by first | omega | decide) (by first | omega | decide) (by first | omega | decide) (by first | omega | decide) (by first | omega | decide) (by first | omega | decide) (by first | omega | decide) (by first | omega | decide)
    · have fh1 := leF h1
      refine sIfF (noob (by omega) (by omega)) ?_
      refine sIf (fun h2 => ?_) (fun h2 => ?_)
      · have fh2 := eqT h2
        exact s_X7_rule_177 (hk_51 := ih) hN hK _ _ _ _ _ (by first | omega | decide) (by first | omega | decide) (by first | omega | decide) (by first | omega | decide) (by first | omega | decide) (by first | omega | decide) (by first | omega | decide) (by first | omega | decide) (by omega)
      · have fh2 := eqF h2
        refine sIfF (noob (by omega) (by omega)) ?_
        refine sIfF (noob (by omega) (by omega)) ?_
        refine sIf (fun h3 => ?_) (fun h3 => ?_)
        · have fh3 := eqT h3
          exact s_X7_rule_83 (hk_51 := ih) hN hK _ _ _ _ _ _ (by first | omega | decide) (by first | omega | decide) (by first | omega | decide) (by first | omega | decide) (by first | omega | decide) (by first | omega | decide) (by first | omega | decide) (by first | omega | decide) (by first | omega | decide) (by first | omega | decide) (by first | omega | decide) (by omega)
        · have fh3 := eqF h3
          exact s_X7_rule_83 (hk_51 := ih) hN hK _ _ _ _ _ _ (by first | omega | decide) (by first | omega | decide) (by first | omega | decide) (by first | omega | decide) (by first | omega | decide) (by first | omega | decide) (by first | omega | decide) (by first | omega | decide) (by first | omega | decide) (by first | omega | decide) (by first | omega | decide) (by omega)
set_option maxHeartbeats 2000000 in
theorem s_X7_rule_24 {N K : Nat} {th : Int32} {f : Nat → Int32} {t : Nat → Int32} {u : Nat → Int32} {p0 : Int32} {p1 : Int32} (hN : NBig N) (hK : 100 ≤ K)  : ∀ (fu : Nat) (l3 : Int32) (th_ : Int32) (f_ : (Nat → Int32)) (t_ : (Nat → Int32)) (u_ : (Nat → Int32)), (20 - l3.toInt).toNat < fu → 0 ≤ p0.toInt → p0.toInt ≤ 2 → 0 ≤ p1.toInt → p1.toInt ≤ 20 → 0 ≤ l3.toInt → l3.toInt ≤ 20 → 0 ≤ th_.toInt → th_.toInt ≤ 2 → Sf (fX7_rule_24 N K th f t u p0 p1  fu l3 th_ f_ t_ u_) (fun (z : Int32 × Int32 × (Nat → Int32) × (Nat → Int32) × (Nat → Int32)) => 0 ≤ z.2.1.toInt ∧ z.2.1.toInt ≤ 2 ∧ True) := by
  intro fu
  induction fu with
  | zero => intro l3 th_ f_ t_ u_ h0 hq0 hq1 hq2 hq3 hq4 hq5 hq6 hq7; omega
  | succ fu ih =>
    intro l3 th_ f_ t_ u_ h0 hq0 hq1 hq2 hq3 hq4 hq5 hq6 hq7
    unfold fX7_rule_24
    have hN9 := hN.u
    have ql0 : (0 : Int32).toInt = 0 := by decide
    have ql1 : (1 : Int32).toInt = 1 := by decide
    refine sIf (fun h1 => ?_) (fun h1 => ?_)
    · have fh1 := leT h1
      refine sIfF (noob (by omega) (by omega)) ?_
      exact s_X7_rule_51  hN hK _ _ _ _ _ _ (by omega) (by first | omega | decide) (by first | omega | decide) (by first | omega | decide) (by first | omega | decide) (by first | omega | decide) (by first | omega | decide) (by first | omega | decide) (by first | omega | decide)
    · have fh1 := leF h1
      refine sIfF (noob (by omega) (by omega)) ?_
      have t2 := addI (a := l3) (b := (1 : Int32)) (by omega) (by omega)
      exact ih _ _ _ _ _ (by omega) (by first | omega | decide) (by first | omega | decide) (by first | omega | decide) (by first | omega | decide) (by first | omega | decide) (by first | omega | decide) (by first | omega | decide) (by first | omega | decide)
set_option maxHeartbeats 2000000 in
theorem s_X7_rule {N K : Nat} {th : Int32} {f : Nat → Int32} {t : Nat → Int32} {u : Nat → Int32} {p0 : Int32} {p1 : Int32} (hN : NBig N) (hK : 100 ≤ K)  : Sf (fX7_rule N K th f t u p0 p1) (fun (z : Int32 × Int32 × (Nat → Int32) × (Nat → Int32) × (Nat → Int32)) => 0 ≤ z.2.1.toInt ∧ z.2.1.toInt ≤ 2 ∧ True) := by
  unfold fX7_rule
  have hN9 := hN.u
  have ql0 : (0 : Int32).toInt = 0 := by decide
  have ql2 : (2 : Int32).toInt = 2 := by decide
  have ql20 : (20 : Int32).toInt = 20 := by decide
  refine sBind (s_X7_isNo hN hK (by first | omega | decide) (by first | omega | decide) (by first | omega | decide) (by first | omega | decide)) (fun x4 b1 => ?_)
  obtain ⟨b1_0, b1_1, b1_2, -⟩ := b1
  replace b1_0 : 0 ≤ x4.toInt := b1_0
  replace b1_1 : x4.toInt ≤ 1 := b1_1
  replace b1_2 : (x4.toInt = 0 → ((0 : Int32).toInt ≤ p0.toInt ∧ p0.toInt ≤ (2 : Int32).toInt)) := b1_2
  refine sBind (s_X7_isNo hN hK (by first | omega | decide) (by first | omega | decide) (by first | omega | decide) (by first | omega | decide)) (fun x11 b2 => ?_)
  obtain ⟨b2_0, b2_1, b2_2, -⟩ := b2
  replace b2_0 : 0 ≤ x11.toInt := b2_0
  replace b2_1 : x11.toInt ≤ 1 := b2_1
  replace b2_2 : (x11.toInt = 0 → ((0 : Int32).toInt ≤ p1.toInt ∧ p1.toInt ≤ (20 : Int32).toInt)) := b2_2
  refine sBind (s_X7_isThrown hN hK (by first | omega | decide) (by first | omega | decide) (by first | omega | decide) (by first | omega | decide)) (fun x14 b3 => ?_)
  obtain ⟨b3_0, b3_1, b3_2, b3_3, b3_4, b3_5, -⟩ := b3
  replace b3_0 : 0 ≤ x14.1.toInt := b3_0
  replace b3_1 : x14.1.toInt ≤ 1 := b3_1
  replace b3_2 : 0 ≤ x14.2.toInt := b3_2
  replace b3_3 : x14.2.toInt ≤ 2 := b3_3
  replace b3_4 : (x14.1.toInt = 0 → (0 ≤ x4.toInt ∧ x4.toInt ≤ 0)) := b3_4
  replace b3_5 : (x14.1.toInt = 0 → (0 ≤ x11.toInt ∧ x11.toInt ≤ 0)) := b3_5
  refine sIf (fun h4 => ?_) (fun h4 => ?_)
  · have fh4 := eqT h4
    exact s_X7_rule_24  hN hK _ _ _ _ _ _ (by omega) (by first | omega | decide) (by first | omega | decide) (by first | omega | decide) (by first | omega | decide) (by first | omega | decide) (by first | omega | decide) (by first | omega | decide) (by first | omega | decide)
  · have fh4 := eqF h4
    exact sRet ⟨(by show 0 ≤ x14.2.toInt; first | omega | assumption), (by show x14.2.toInt ≤ 2; first | omega | assumption), trivial⟩

end MG_50isafe
section MG_50jsafe
set_option maxHeartbeats 2000000 in
theorem s_X7_forgetRule_87 {N K : Nat} {th : Int32} {f : Nat → Int32} {t : Nat → Int32} {p0 : Int32} {p1 : Int32} (hN : NBig N) (hK : 100 ≤ K)  {k_60 : Int32 → Int32 → Int32 → (Nat → Int32) → (Nat → Int32) → Option (Int32 × Int32 × (Nat → Int32) × (Nat → Int32))} {m_60 : Nat} (hk_60 : ∀ (l3 : Int32) (l4 : Int32) (th_ : Int32) (f_ : (Nat → Int32)) (t_ : (Nat → Int32)), (21 - l4.toInt).toNat < m_60 → 0 ≤ p0.toInt → p0.toInt ≤ 2 → 0 ≤ p1.toInt → p1.toInt ≤ 20 → 1 ≤ l4.toInt → l4.toInt ≤ 21 → 0 ≤ th_.toInt → th_.toInt ≤ 2 → Sf (k_60 l3 l4 th_ f_ t_) (fun (z : Int32 × Int32 × (Nat → Int32) × (Nat → Int32)) => 0 ≤ z.2.1.toInt ∧ z.2.1.toInt ≤ 2 ∧ True)) : ∀ (l3 : Int32) (l4 : Int32) (th_ : Int32) (f_ : Nat → Int32) (t_ : Nat → Int32), 0 ≤ p0.toInt → p0.toInt ≤ 2 → 0 ≤ p1.toInt → p1.toInt ≤ 20 → 1 ≤ l4.toInt → l4.toInt ≤ 20 → 0 ≤ th_.toInt → th_.toInt ≤ 2 → (21 - l4.toInt).toNat ≤ m_60 → Sf (fX7_forgetRule_87 N K th f t p0 p1 k_60 l3 l4 th_ f_ t_) (fun (z : Int32 × Int32 × (Nat → Int32) × (Nat → Int32)) => 0 ≤ z.2.1.toInt ∧ z.2.1.toInt ≤ 2 ∧ True) := by
  intro l3 l4 th_ f_ t_ hq0 hq1 hq2 hq3 hq4 hq5 hq6 hq7 hq8
  unfold fX7_forgetRule_87
  have ql0 : (0 : Int32).toInt = 0 := by decide
  have ql1 : (1 : Int32).toInt = 1 := by decide
  have t1 := addI (a := l4) (b := (1 : Int32)) (by omega) (by omega)
  exact hk_60 _ _ _ _ _ (by omega) (by first | omega | decide) (by first | omega | decide) (by first | omega | decide) (by first | omega | decide) (by first | omega | decide) (by first | omega | decide) (by first | omega | decide) (by first | omega | decide)
set_option maxHeartbeats 2000000 in
theorem s_X7_forgetRule_77 {N K : Nat} {th : Int32} {f : Nat → Int32} {t : Nat → Int32} {p0 : Int32} {p1 : Int32} (hN : NBig N) (hK : 100 ≤ K)  {k_60 : Int32 → Int32 → Int32 → (Nat → Int32) → (Nat → Int32) → Option (Int32 × Int32 × (Nat → Int32) × (Nat → Int32))} {m_60 : Nat} (hk_60 : ∀ (l3 : Int32) (l4 : Int32) (th_ : Int32) (f_ : (Nat → Int32)) (t_ : (Nat → Int32)), (21 - l4.toInt).toNat < m_60 → 0 ≤ p0.toInt → p0.toInt ≤ 2 → 0 ≤ p1.toInt → p1.toInt ≤ 20 → 1 ≤ l4.toInt → l4.toInt ≤ 21 → 0 ≤ th_.toInt → th_.toInt ≤ 2 → Sf (k_60 l3 l4 th_ f_ t_) (fun (z : Int32 × Int32 × (Nat → Int32) × (Nat → Int32)) => 0 ≤ z.2.1.toInt ∧ z.2.1.toInt ≤ 2 ∧ True)) : ∀ (l3 : Int32) (l4 : Int32) (th_ : Int32) (f_ : Nat → Int32) (t_ : Nat → Int32), 0 ≤ p0.toInt → p0.toInt ≤ 2 → 0 ≤ p1.toInt → p1.toInt ≤ 20 → 1 ≤ l4.toInt → l4.toInt ≤ 20 → 0 ≤ th_.toInt → th_.toInt ≤ 2 → (21 - l4.toInt).toNat ≤ m_60 → Sf (fX7_forgetRule_77 N K th f t p0 p1 k_60 l3 l4 th_ f_ t_) (fun (z : Int32 × Int32 × (Nat → Int32) × (Nat → Int32)) => 0 ≤ z.2.1.toInt ∧ z.2.1.toInt ≤ 2 ∧ True) := by
  intro l3 l4 th_ f_ t_ hq0 hq1 hq2 hq3 hq4 hq5 hq6 hq7 hq8
  unfold fX7_forgetRule_77
  have ql0 : (0 : Int32).toInt = 0 := by decide
  refine sIfF (noob (by omega) (by omega)) ?_
  refine sIfF (noob (by omega) (by omega)) ?_
  exact s_X7_forgetRule_87 (hk_60 := hk_60) hN hK _ _ _ _ _ (by first | omega | decide) (by first | omega | decide) (by first | omega | decide) (by first | omega | decide) (by first | omega | decide) (by first | omega | decide) (by first | omega | decide) (by first | omega | decide) (by omega)
set_option maxHeartbeats 2000000 in
theorem s_X7_forgetRule_60 {N K : Nat} {th : Int32} {f : Nat → Int32} {t : Nat → Int32} {p0 : Int32} {p1 : Int32} (hN : NBig N) (hK : 100 ≤ K)  : ∀ (fu : Nat) (l3 : Int32) (l4 : Int32) (th_ : Int32) (f_ : (Nat → Int32)) (t_ : (Nat → Int32)), (21 - l4.toInt).toNat < fu → 0 ≤ p0.toInt → p0.toInt ≤ 2 → 0 ≤ p1.toInt → p1.toInt ≤ 20 → 1 ≤ l4.toInt → l4.toInt ≤ 21 → 0 ≤ th_.toInt → th_.toInt ≤ 2 → Sf (fX7_forgetRule_60 N K th f t p0 p1  fu l3 l4 th_ f_ t_) (fun (z : Int32 × Int32 × (Nat → Int32) × (Nat → Int32)) => 0 ≤ z.2.1.toInt ∧ z.2.1.toInt ≤ 2 ∧ True) := by
  intro fu
  induction fu with
  | zero => intro l3 l4 th_ f_ t_ h0 hq0 hq1 hq2 hq3 hq4 hq5 hq6 hq7; omega
  | succ fu ih =>
    intro l3 l4 th_ f_ t_ h0 hq0 hq1 hq2 hq3 hq4 hq5 hq6 hq7
    unfold fX7_forgetRule_60
    have ql0 : (0 : Int32).toInt = 0 := by decide
    have ql20 : (20 : Int32).toInt = 20 := by decide
    refine sIf (fun h1 => ?_) (fun h1 => ?_)
    · have fh1 := ltT h1
      refine sBind (s_X7_done hN hK (by first | omega | decide) (by first | omega | decide)) (fun x95 b2 => ?_)
      exact sRet ⟨(by show 0 ≤ th_.toInt; first | omega | assumption), (by show th_.toInt ≤ 2; first | omega | assumption), trivial⟩
    · have fh1 := ltF h1
      refine sIf (fun h3 => ?_) (fun h3 => ?_)
      · have fh3 := eqT h3
        exact s_X7_forgetRule_77 (hk_60 := ih) hN hK _ _ _ _ _ (by first | omega | decide) (by first | omega | decide) (by first | omega | decide) (by first | omega | decide) (by first | omega | decide) (by first | omega | decide) (by first | omega | decide) (by first | omega | decide) (by omega)
      · have fh3 := eqF h3
        refine sIf (fun h4 => ?_) (fun h4 => ?_)
        · have fh4 := eqT h4
          exact s_X7_forgetRule_77 (hk_60 := ih) hN hK _ _ _ _ _ (by first | omega | decide) (by first | omega | decide) (by first | omega | decide) (by first | omega | decide) (by first | omega | decide) (by first | omega | decide) (by first | omega | decide) (by first | omega | decide) (by omega)
        · have fh4 := eqF h4
          exact s_X7_forgetRule_87 (hk_60 := ih) hN hK _ _ _ _ _ (by first | omega | decide) (by first | omega | decide) (by first | omega | decide) (by first | omega | decide) (by first | omega | decide) (by first | omega | decide) (by first | omega | decide) (by first | omega | decide) (by omega)
set_option maxHeartbeats 2000000 in
theorem s_X7_forgetRule_57 {N K : Nat} {th : Int32} {f : Nat → Int32} {t : Nat → Int32} {p0 : Int32} {p1 : Int32} (hN : NBig N) (hK : 100 ≤ K)  : ∀ (l3 : Int32) (th_ : Int32) (f_ : Nat → Int32) (t_ : Nat → Int32), 0 ≤ p0.toInt → p0.toInt ≤ 2 → 0 ≤ p1.toInt → p1.toInt ≤ 20 → 0 ≤ th_.toInt → th_.toInt ≤ 2 → Sf (fX7_forgetRule_57 N K th f t p0 p1  l3 th_ f_ t_) (fun (z : Int32 × Int32 × (Nat → Int32) × (Nat → Int32)) => 0 ≤ z.2.1.toInt ∧ z.2.1.toInt ≤ 2 ∧ True) := by
  intro l3 th_ f_ t_ hq0 hq1 hq2 hq3 hq4 hq5
  unfold fX7_forgetRule_57
  have hN9 := hN.u
  have ql0 : (0 : Int32).toInt = 0 := by decide
  have ql1 : (1 : Int32).toInt = 1 := by decide
  exact s_X7_forgetRule_60  hN hK _ _ _ _ _ _ (by omega) (by first | omega | decide) (by first | omega | decide) (by first | omega | decide) (by first | omega | decide) (by first | omega | decide) (by first | omega | decide) (by first | omega | decide) (by first | omega | decide)
set_option maxHeartbeats 2000000 in
theorem s_X7_forgetRule_43 {N K : Nat} {th : Int32} {f : Nat → Int32} {t : Nat → Int32} {p0 : Int32} {p1 : Int32} (hN : NBig N) (hK : 100 ≤ K)  : ∀ (s0 : Int32) (th_ : Int32) (f_ : Nat → Int32) (t_ : Nat → Int32), 0 ≤ p0.toInt → p0.toInt ≤ 2 → 0 ≤ p1.toInt → p1.toInt ≤ 20 → 0 ≤ th_.toInt → th_.toInt ≤ 2 → (s0.toInt = 0 → 0 ≤ p0.toInt ∧ p0.toInt ≤ 2 ∧ 0 ≤ p1.toInt ∧ p1.toInt ≤ 20) → Sf (fX7_forgetRule_43 N K th f t p0 p1  s0 th_ f_ t_) (fun (z : Int32 × Int32 × (Nat → Int32) × (Nat → Int32)) => 0 ≤ z.2.1.toInt ∧ z.2.1.toInt ≤ 2 ∧ True) := by
  intro s0 th_ f_ t_ hq0 hq1 hq2 hq3 hq4 hq5 hq6
  unfold fX7_forgetRule_43
  have ql0 : (0 : Int32).toInt = 0 := by decide
  refine sIf (fun h1 => ?_) (fun h1 => ?_)
  · have fh1 := leT h1
    exact s_X7_forgetRule_57  hN hK _ _ _ _ (by first | omega | decide) (by first | omega | decide) (by first | omega | decide) (by first | omega | decide) (by first | omega | decide) (by first | omega | decide)
  · have fh1 := leF h1
    refine sIf (fun h2 => ?_) (fun h2 => ?_)
    · have fh2 := eqT h2
      refine sBind (s_X7_refused hN hK (by first | omega | decide) (by first | omega | decide)) (fun x53 b3 => ?_)
      obtain ⟨b3_0, b3_1, -⟩ := b3
      replace b3_0 : -9 ≤ x53.1.toInt := b3_0
      replace b3_1 : x53.1.toInt ≤ -9 := b3_1
      exact sRet ⟨(by show 0 ≤ th_.toInt; first | omega | assumption), (by show th_.toInt ≤ 2; first | omega | assumption), trivial⟩
    · have fh2 := eqF h2
      exact s_X7_forgetRule_57  hN hK _ _ _ _ (by first | omega | decide) (by first | omega | decide) (by first | omega | decide) (by first | omega | decide) (by first | omega | decide) (by first | omega | decide)
set_option maxHeartbeats 2000000 in
theorem s_X7_forgetRule {N K : Nat} {th : Int32} {f : Nat → Int32} {t : Nat → Int32} {p0 : Int32} {p1 : Int32} (hN : NBig N) (hK : 100 ≤ K)  : Sf (fX7_forgetRule N K th f t p0 p1) (fun (z : Int32 × Int32 × (Nat → Int32) × (Nat → Int32)) => 0 ≤ z.2.1.toInt ∧ z.2.1.toInt ≤ 2 ∧ True) := by
  unfold fX7_forgetRule
  have ql0 : (0 : Int32).toInt = 0 := by decide
  have ql2 : (2 : Int32).toInt = 2 := by decide
  have ql20 : (20 : Int32).toInt = 20 := by decide
  refine sBind (s_X7_isNo hN hK (by first | omega | decide) (by first | omega | decide) (by first | omega | decide) (by first | omega | decide)) (fun x4 b1 => ?_)
  obtain ⟨b1_0, b1_1, b1_2, -⟩ := b1
  replace b1_0 : 0 ≤ x4.toInt := b1_0
  replace b1_1 : x4.toInt ≤ 1 := b1_1
  replace b1_2 : (x4.toInt = 0 → ((0 : Int32).toInt ≤ p0.toInt ∧ p0.toInt ≤ (2 : Int32).toInt)) := b1_2
  refine sBind (s_X7_isNo hN hK (by first | omega | decide) (by first | omega | decide) (by first | omega | decide) (by first | omega | decide)) (fun x11 b2 => ?_)
  obtain ⟨b2_0, b2_1, b2_2, -⟩ := b2
  replace b2_0 : 0 ≤ x11.toInt := b2_0
  replace b2_1 : x11.toInt ≤ 1 := b2_1
  replace b2_2 : (x11.toInt = 0 → ((0 : Int32).toInt ≤ p1.toInt ∧ p1.toInt ≤ (20 : Int32).toInt)) := b2_2
  refine sBind (s_X7_isThrown hN hK (by first | omega | decide) (by first | omega | decide) (by first | omega | decide) (by first | omega | decide)) (fun x14 b3 => ?_)
  obtain ⟨b3_0, b3_1, b3_2, b3_3, b3_4, b3_5, -⟩ := b3
  replace b3_0 : 0 ≤ x14.1.toInt := b3_0
  replace b3_1 : x14.1.toInt ≤ 1 := b3_1
  replace b3_2 : 0 ≤ x14.2.toInt := b3_2
  replace b3_3 : x14.2.toInt ≤ 2 := b3_3
  replace b3_4 : (x14.1.toInt = 0 → (0 ≤ x4.toInt ∧ x4.toInt ≤ 0)) := b3_4
  replace b3_5 : (x14.1.toInt = 0 → (0 ≤ x11.toInt ∧ x11.toInt ≤ 0)) := b3_5
  refine sIf (fun h4 => ?_) (fun h4 => ?_)
  · have fh4 := eqT h4
    refine sIf (fun h5 => ?_) (fun h5 => ?_)
    · have fh5 := eqT h5
      refine sBind (s_X7_ledgerTold hN hK (by first | omega | decide) (by first | omega | decide) (by first | omega | decide) (by first | omega | decide) (by first | omega | decide) (by first | omega | decide)) (fun x29 b6 => ?_)
      exact s_X7_forgetRule_43  hN hK _ _ _ _ (by first | omega | decide) (by first | omega | decide) (by first | omega | decide) (by first | omega | decide) (by first | omega | decide) (by first | omega | decide) (by first | omega | decide)
    · have fh5 := eqF h5
      refine sIfF (noob (by omega) (by omega)) ?_
      refine sIfF (noob (by omega) (by omega)) ?_
      exact s_X7_forgetRule_43  hN hK _ _ _ _ (by first | omega | decide) (by first | omega | decide) (by first | omega | decide) (by first | omega | decide) (by first | omega | decide) (by first | omega | decide) (by first | omega | decide)
  · have fh4 := eqF h4
    exact sRet ⟨(by show 0 ≤ x14.2.toInt; first | omega | assumption), (by show x14.2.toInt ≤ 2; first | omega | assumption), trivial⟩
set_option maxHeartbeats 2000000 in
theorem s_X7_ledger {N K : Nat} {th : Int32} {f : Nat → Int32} {p0 : Int32} {p1 : Int32} (hN : NBig N) (hK : 100 ≤ K)  : Sf (fX7_ledger N K th f p0 p1) (fun (z : Int32 × Int32) => 0 ≤ z.2.toInt ∧ z.2.toInt ≤ 2 ∧ True) := by
  unfold fX7_ledger
  have ql0 : (0 : Int32).toInt = 0 := by decide
  have ql1 : (1 : Int32).toInt = 1 := by decide
  have ql2 : (2 : Int32).toInt = 2 := by decide
  refine sBind (s_X7_isNo hN hK (by first | omega | decide) (by first | omega | decide) (by first | omega | decide) (by first | omega | decide)) (fun x4 b1 => ?_)
  obtain ⟨b1_0, b1_1, b1_2, -⟩ := b1
  replace b1_0 : 0 ≤ x4.toInt := b1_0
  replace b1_1 : x4.toInt ≤ 1 := b1_1
  replace b1_2 : (x4.toInt = 0 → ((0 : Int32).toInt ≤ p0.toInt ∧ p0.toInt ≤ (2 : Int32).toInt)) := b1_2
  refine sBind (s_X7_isNo hN hK (by first | omega | decide) (by first | omega | decide) (by first | omega | decide) (by first | omega | decide)) (fun x10 b2 => ?_)
  obtain ⟨b2_0, b2_1, b2_2, -⟩ := b2
  replace b2_0 : 0 ≤ x10.toInt := b2_0
  replace b2_1 : x10.toInt ≤ 1 := b2_1
  replace b2_2 : (x10.toInt = 0 → ((0 : Int32).toInt ≤ p1.toInt ∧ p1.toInt ≤ (1 : Int32).toInt)) := b2_2
  refine sBind (s_X7_isThrown hN hK (by first | omega | decide) (by first | omega | decide) (by first | omega | decide) (by first | omega | decide)) (fun x13 b3 => ?_)
  obtain ⟨b3_0, b3_1, b3_2, b3_3, b3_4, b3_5, -⟩ := b3
  replace b3_0 : 0 ≤ x13.1.toInt := b3_0
  replace b3_1 : x13.1.toInt ≤ 1 := b3_1
  replace b3_2 : 0 ≤ x13.2.toInt := b3_2
  replace b3_3 : x13.2.toInt ≤ 2 := b3_3
  replace b3_4 : (x13.1.toInt = 0 → (0 ≤ x4.toInt ∧ x4.toInt ≤ 0)) := b3_4
  replace b3_5 : (x13.1.toInt = 0 → (0 ≤ x10.toInt ∧ x10.toInt ≤ 0)) := b3_5
  refine sIf (fun h4 => ?_) (fun h4 => ?_)
  · have fh4 := eqT h4
    refine sBind (s_X7_ledgerTold hN hK (by first | omega | decide) (by first | omega | decide) (by first | omega | decide) (by first | omega | decide) (by first | omega | decide) (by first | omega | decide)) (fun x26 b5 => ?_)
    exact sRet ⟨(by show 0 ≤ x13.2.toInt; first | omega | assumption), (by show x13.2.toInt ≤ 2; first | omega | assumption), trivial⟩
  · have fh4 := eqF h4
    exact sRet ⟨(by show 0 ≤ x13.2.toInt; first | omega | assumption), (by show x13.2.toInt ≤ 2; first | omega | assumption), trivial⟩
set_option maxHeartbeats 2000000 in
theorem s_X7_ruleWorth_31 {N K : Nat} {th : Int32} {f : Nat → Int32} {p0 : Int32} {p1 : Int32} {p2 : Int32} (hN : NBig N) (hK : 100 ≤ K)  : ∀ (s0 : Int32) (s1 : Int32) (th_ : Int32), 0 ≤ s0.toInt → s0.toInt ≤ 1 → 0 ≤ s1.toInt → s1.toInt ≤ 1 → (s0.toInt = 0 → 0 ≤ p1.toInt ∧ p1.toInt ≤ 20 ∧ 0 ≤ p2.toInt ∧ p2.toInt ≤ 1) → (s1.toInt = 0 → 0 ≤ p0.toInt ∧ p0.toInt ≤ 2) → Sf (fX7_ruleWorth_31 N K th f p0 p1 p2  s0 s1 th_) (fun (z : Int32 × Int32) => 0 ≤ z.2.toInt ∧ z.2.toInt ≤ 2 ∧ True) := by
  intro s0 s1 th_ hq0 hq1 hq2 hq3 hq4 hq5
  unfold fX7_ruleWorth_31
  have ql0 : (0 : Int32).toInt = 0 := by decide
  refine sBind (s_X7_isThrown hN hK (by first | omega | decide) (by first | omega | decide) (by first | omega | decide) (by first | omega | decide)) (fun x31 b1 => ?_)
  obtain ⟨b1_0, b1_1, b1_2, b1_3, b1_4, b1_5, -⟩ := b1
  replace b1_0 : 0 ≤ x31.1.toInt := b1_0
  replace b1_1 : x31.1.toInt ≤ 1 := b1_1
  replace b1_2 : 0 ≤ x31.2.toInt := b1_2
  replace b1_3 : x31.2.toInt ≤ 2 := b1_3
  replace b1_4 : (x31.1.toInt = 0 → (0 ≤ s1.toInt ∧ s1.toInt ≤ 0)) := b1_4
  replace b1_5 : (x31.1.toInt = 0 → (0 ≤ s0.toInt ∧ s0.toInt ≤ 0)) := b1_5
  refine sIf (fun h2 => ?_) (fun h2 => ?_)
  · have fh2 := eqT h2
    refine sIf (fun h3 => ?_) (fun h3 => ?_)
    · have fh3 := eqT h3
      exact sRet ⟨(by show 0 ≤ x31.2.toInt; first | omega | assumption), (by show x31.2.toInt ≤ 2; first | omega | assumption), trivial⟩
    · have fh3 := eqF h3
      refine sIfF (noob (by omega) (by omega)) ?_
      refine sIfF (noob (by omega) (by omega)) ?_
      refine sIf (fun h4 => ?_) (fun h4 => ?_)
      · have fh4 := eqT h4
        exact sRet ⟨(by show 0 ≤ x31.2.toInt; first | omega | assumption), (by show x31.2.toInt ≤ 2; first | omega | assumption), trivial⟩
      · have fh4 := eqF h4
        refine sIfF (noob (by omega) (by omega)) ?_
        refine sIfF (noob (by omega) (by omega)) ?_
        exact sRet ⟨(by show 0 ≤ x31.2.toInt; first | omega | assumption), (by show x31.2.toInt ≤ 2; first | omega | assumption), trivial⟩
  · have fh2 := eqF h2
    exact sRet ⟨(by show 0 ≤ x31.2.toInt; first | omega | assumption), (by show x31.2.toInt ≤ 2; first | omega | assumption), trivial⟩
set_option maxHeartbeats 2000000 in
theorem s_X7_ruleWorth_26 {N K : Nat} {th : Int32} {f : Nat → Int32} {p0 : Int32} {p1 : Int32} {p2 : Int32} (hN : NBig N) (hK : 100 ≤ K)  : ∀ (s0 : Int32) (th_ : Int32), 0 ≤ s0.toInt → s0.toInt ≤ 1 → (s0.toInt = 0 → 0 ≤ p0.toInt ∧ p0.toInt ≤ 2) → Sf (fX7_ruleWorth_26 N K th f p0 p1 p2  s0 th_) (fun (z : Int32 × Int32) => 0 ≤ z.2.toInt ∧ z.2.toInt ≤ 2 ∧ True) := by
  intro s0 th_ hq0 hq1 hq2
  unfold fX7_ruleWorth_26
  have ql0 : (0 : Int32).toInt = 0 := by decide
  have ql1 : (1 : Int32).toInt = 1 := by decide
  exact s_X7_ruleWorth_31  hN hK _ _ _ (by first | omega | decide) (by first | omega | decide) (by first | omega | decide) (by first | omega | decide) (by first | omega | decide) (by first | omega | decide)
set_option maxHeartbeats 2000000 in
theorem s_X7_ruleWorth {N K : Nat} {th : Int32} {f : Nat → Int32} {p0 : Int32} {p1 : Int32} {p2 : Int32} (hN : NBig N) (hK : 100 ≤ K)  : Sf (fX7_ruleWorth N K th f p0 p1 p2) (fun (z : Int32 × Int32) => 0 ≤ z.2.toInt ∧ z.2.toInt ≤ 2 ∧ True) := by
  unfold fX7_ruleWorth
  have ql0 : (0 : Int32).toInt = 0 := by decide
  have ql1 : (1 : Int32).toInt = 1 := by decide
  have ql2 : (2 : Int32).toInt = 2 := by decide
  have ql20 : (20 : Int32).toInt = 20 := by decide
  refine sBind (s_X7_isNo hN hK (by first | omega | decide) (by first | omega | decide) (by first | omega | decide) (by first | omega | decide)) (fun x4 b1 => ?_)
  obtain ⟨b1_0, b1_1, b1_2, -⟩ := b1
  replace b1_0 : 0 ≤ x4.toInt := b1_0
  replace b1_1 : x4.toInt ≤ 1 := b1_1
  replace b1_2 : (x4.toInt = 0 → ((0 : Int32).toInt ≤ p0.toInt ∧ p0.toInt ≤ (2 : Int32).toInt)) := b1_2
  refine sBind (s_X7_isNo hN hK (by first | omega | decide) (by first | omega | decide) (by first | omega | decide) (by first | omega | decide)) (fun x11 b2 => ?_)
  obtain ⟨b2_0, b2_1, b2_2, -⟩ := b2
  replace b2_0 : 0 ≤ x11.toInt := b2_0
  replace b2_1 : x11.toInt ≤ 1 := b2_1
  replace b2_2 : (x11.toInt = 0 → ((0 : Int32).toInt ≤ p1.toInt ∧ p1.toInt ≤ (20 : Int32).toInt)) := b2_2
  refine sIf (fun h3 => ?_) (fun h3 => ?_)
  · have fh3 := eqT h3
    refine sBind (s_X7_isNo hN hK (by first | omega | decide) (by first | omega | decide) (by first | omega | decide) (by first | omega | decide)) (fun x20 b4 => ?_)
    obtain ⟨b4_0, b4_1, b4_2, -⟩ := b4
    replace b4_0 : 0 ≤ x20.toInt := b4_0
    replace b4_1 : x20.toInt ≤ 1 := b4_1
    replace b4_2 : (x20.toInt = 0 → ((0 : Int32).toInt ≤ p2.toInt ∧ p2.toInt ≤ (1 : Int32).toInt)) := b4_2
    refine sIf (fun h5 => ?_) (fun h5 => ?_)
    · have fh5 := eqT h5
      exact s_X7_ruleWorth_31  hN hK _ _ _ (by first | omega | decide) (by first | omega | decide) (by first | omega | decide) (by first | omega | decide) (by first | omega | decide) (by first | omega | decide)
    · have fh5 := eqF h5
      exact s_X7_ruleWorth_26  hN hK _ _ (by first | omega | decide) (by first | omega | decide) (by first | omega | decide)
  · have fh3 := eqF h3
    exact s_X7_ruleWorth_26  hN hK _ _ (by first | omega | decide) (by first | omega | decide) (by first | omega | decide)
theorem s_X7_addPart_32 {N K : Nat} {th : Int32} {f : Nat → Int32} {t : Nat → Int32} {p0 : Int32} {p1 : Int32} {p2 : Int32} (hN : NBig N) (hK : 100 ≤ K) (hp0 : OkD f) {s0 s1 : Int32} (hs0 : 0 ≤ s0.toInt) (hs1 : s0.toInt ≤ 1) (hs2 : 0 ≤ s1.toInt) (hs3 : s1.toInt ≤ 1) (hk : s0.toInt = 0 → s1.toInt = 0 → (0 ≤ p0.toInt ∧ p0.toInt ≤ 1) ∧ (1 ≤ p1.toInt ∧ p1.toInt ≤ 20) ∧ (1 ≤ p2.toInt ∧ p2.toInt ≤ 20)) : Sf (fX7_addPart_32 N K th f t p0 p1 p2 s0 s1 th f t) (fun (z : Int32 × Int32 × (Nat → Int32) × (Nat → Int32)) => 0 ≤ z.2.1.toInt ∧ z.2.1.toInt ≤ 2 ∧ OkD z.2.2.1 ∧ True) := by
  have hN9 := hN.u
  have q0 : (0 : Int32).toInt = 0 := by decide
  obtain ⟨w, hw⟩ := hp0
  unfold fX7_addPart_32
  refine sBind (s_X7_isThrown hN hK (by omega) (by omega) (by omega) (by omega)) (fun x32 q32 => ?_)
  obtain ⟨i1, i2, i3, i4, i5, i6, -⟩ := q32
  refine sIf (fun h => ?_) (fun _ => sRet ⟨i3, i4, ⟨w, hw⟩, trivial⟩)
  have h0 := congrArg Int32.toInt h
  rw [q0] at h0
  obtain ⟨⟨a1, a2⟩, ⟨b1, b2⟩, c1, c2⟩ := hk (by have := i6 h0; omega) (by have := i5 h0; omega)
  refine sIfF (noob (by omega) (by omega)) ?_
  obtain ⟨m, rfl, m1, m2⟩ := o_of (p := p1) (a := 1) (b := 20) (by omega) (by omega)
  obtain ⟨n, rfl, n1, n2⟩ := o_of (p := p2) (a := 1) (b := 20) (by omega) (by omega)
  have hmn := Nat.mul_le_mul m2 n2
  have hwn := hw.1
  rw [m_sum (by omega) hw.2, Option.bind_some, o_mul, o_add, show (20 : Int32) = Int32.ofNat 20 from rfl]
  refine sIf (fun h => ?_) (fun _ => ?_)
  · rw [o_le (by omega) (by omega)] at h
    refine sIfF (noob (by omega) (by omega)) (sIfF (o_ob (by omega) (by omega)) (sIfF (o_ob (by omega) (by omega)) (sIfF (noob (by omega) (by omega)) (sIfF (o_ob (by omega) (by omega)) ?_))))
    refine sBind (s_X7_done hN hK i3 i4) (fun _ _ => sRet ⟨i3, i4, ?_, trivial⟩)
    rw [o_c (by omega), hw.2 m m1 m2, o_add]
    have e3 := wn_upm (w := w) (p := m) (v := w m + n) m1 m2
    rw [Nat.mul_add] at e3
    exact ⟨_, by omega, hw.2.put (p := m) (t := w m + n)⟩
  · exact sBind (s_X7_refused hN hK i3 i4) (fun _ _ => sRet ⟨i3, i4, ⟨w, hw⟩, trivial⟩)
theorem s_X7_addPart {N K : Nat} {th : Int32} {f : Nat → Int32} {t : Nat → Int32} {p0 : Int32} {p1 : Int32} {p2 : Int32} (hN : NBig N) (hK : 100 ≤ K) (hp0 : OkD f) : Sf (fX7_addPart N K th f t p0 p1 p2) (fun (z : Int32 × Int32 × (Nat → Int32) × (Nat → Int32)) => 0 ≤ z.2.1.toInt ∧ z.2.1.toInt ≤ 2 ∧ OkD z.2.2.1 ∧ True) := by
  have q0 : (0 : Int32).toInt = 0 := by decide
  have q1 : (1 : Int32).toInt = 1 := by decide
  have q20 : (20 : Int32).toInt = 20 := by decide
  unfold fX7_addPart
  refine sBind (s_X7_isNo hN hK (by omega) (by omega) (by omega) (by omega)) (fun x4 y4 => ?_)
  refine sBind (s_X7_isNo hN hK (by omega) (by omega) (by omega) (by omega)) (fun x11 y11 => ?_)
  obtain ⟨a1, a2, a3, -⟩ := y4
  obtain ⟨b1, b2, b3, -⟩ := y11
  refine sIf (fun h11 => ?_) (fun _ => ?_)
  · have h11 := congrArg Int32.toInt h11
    rw [q0] at h11
    refine sBind (s_X7_isNo hN hK (by omega) (by omega) (by omega) (by omega)) (fun x21 y21 => ?_)
    obtain ⟨d1, d2, d3, -⟩ := y21
    refine sIf (fun h21 => ?_) (fun _ => ?_)
    · have h21 := congrArg Int32.toInt h21
      rw [q0] at h21
      exact s_X7_addPart_32 hN hK hp0 (by omega) (by omega) (by omega) (by omega) (fun _ z => by
        have u1 := a3 z
        have u2 := b3 h11
        have u3 := d3 h21
        omega)
    · unfold fX7_addPart_27
      exact s_X7_addPart_32 hN hK hp0 (by omega) (by omega) (by omega) (by omega) (fun z _ => by omega)
  · unfold fX7_addPart_27
    exact s_X7_addPart_32 hN hK hp0 (by omega) (by omega) (by omega) (by omega) (fun z _ => by omega)

theorem s_X7_takePart {N K : Nat} {th : Int32} {f : Nat → Int32} {t : Nat → Int32} {p0 : Int32} {p1 : Int32} (hN : NBig N) (hK : 100 ≤ K) (hp0 : OkD f) : Sf (fX7_takePart N K th f t p0 p1) (fun (z : Int32 × Int32 × (Nat → Int32) × (Nat → Int32)) => 0 ≤ z.2.1.toInt ∧ z.2.1.toInt ≤ 2 ∧ OkD z.2.2.1 ∧ True) := by
  have hN9 := hN.u
  have q0 : (0 : Int32).toInt = 0 := by decide
  have q1 : (1 : Int32).toInt = 1 := by decide
  have q20 : (20 : Int32).toInt = 20 := by decide
  obtain ⟨w, hw⟩ := hp0
  unfold fX7_takePart
  refine sBind (s_X7_isNo hN hK (by omega) (by omega) (by omega) (by omega)) (fun x4 y4 => ?_)
  refine sBind (s_X7_isNo hN hK (by omega) (by omega) (by omega) (by omega)) (fun x11 y11 => ?_)
  obtain ⟨a1, a2, a3, -⟩ := y4
  obtain ⟨b1, b2, b3, -⟩ := y11
  refine sBind (s_X7_isThrown hN hK (by omega) (by omega) (by omega) (by omega)) (fun x14 y14 => ?_)
  obtain ⟨i1, i2, i3, i4, i5, i6, -⟩ := y14
  refine sIf (fun h => ?_) (fun _ => sRet ⟨i3, i4, ⟨w, hw⟩, trivial⟩)
  have h0 := congrArg Int32.toInt h
  rw [q0] at h0
  have u1 := a3 (by have := i5 h0; omega)
  have u2 := b3 (by have := i6 h0; omega)
  obtain ⟨m, rfl, m1, m2⟩ := o_of (p := p1) (a := 1) (b := 20) (by omega) (by omega)
  have hwm := wn_le1 (w := w) m1 m2
  have hwn := hw.1
  refine sIfF (noob (by omega) (by omega)) (sIfF (o_ob (by omega) (by omega)) ?_)
  rw [o_c (by omega), hw.2 m m1 m2]
  refine sIf (fun _ => ?_) (fun h => ?_)
  · exact sBind (s_X7_refused hN hK i3 i4) (fun _ _ => sRet ⟨i3, i4, ⟨w, hw⟩, trivial⟩)
  · rw [show (0 : Int32) = Int32.ofNat 0 from rfl, o_eq (by omega) (by omega)] at h
    obtain ⟨v, hv⟩ : ∃ v, w m = v + 1 := ⟨w m - 1, by omega⟩
    refine sIfF (noob (by omega) (by omega)) (sIfF (o_ob2 (a := m) (n := 21) (by omega) (by omega)) (sIfF (o_ob2 (a := m) (n := 21) (by omega) (by omega)) (sIfF (noob (by omega) (by omega)) (sIfF (o_ob2 (a := m) (n := 21) (by omega) (by omega)) ?_))))
    refine sBind (s_X7_done hN hK i3 i4) (fun _ _ => sRet ⟨i3, i4, ?_, trivial⟩)
    have e3 := wn_take (w := w) m1 m2 (by omega)
    have e4 := hw.2.put (p := m) (t := w m - 1)
    rw [hv, show v + 1 - 1 = v from by omega] at e3 e4
    rw [hv, o_s1]
    exact ⟨_, by omega, e4⟩


end MG_50jsafe
section MG_50ksafe
theorem s_X7_laid {N K : Nat} {th : Int32} {f : Nat → Int32} {g : Nat → Int32} {t : Nat → Int32} {p0 : Int32} (hN : NBig N) (hK : 100 ≤ K) (hp0 : 0 ≤ th.toInt) (hp1 : th.toInt ≤ 2) (hp2 : 0 ≤ p0.toInt) (hp3 : p0.toInt ≤ 1) (hp4 : OkD g) : Sf (fX7_laid N K th f g t p0) (fun (z : Int32 × (Nat → Int32) × (Nat → Int32)) => OkD z.2.1 ∧ True) := by
  obtain ⟨w, hw⟩ := hp4
  obtain ⟨f', a, b⟩ := m_laid (N := N) (K := K) (th := th) (f := f) (t := t) hN hK (p0 := p0) (noob (by omega) (by omega)) hw
  exact ⟨_, a, ⟨_, b⟩, trivial⟩

set_option maxHeartbeats 2000000 in
theorem s_X7_layFirst {N K : Nat} {th : Int32} {f : Nat → Int32} {t : Nat → Int32} {p0 : Int32} {p1 : Int32} (hN : NBig N) (hK : 100 ≤ K) (hp0 : OkD f) : Sf (fX7_layFirst N K th f t p0 p1) (fun (z : Int32 × Int32 × (Nat → Int32) × (Nat → Int32)) => 0 ≤ z.2.1.toInt ∧ z.2.1.toInt ≤ 2 ∧ OkD z.2.2.1 ∧ True) := by
  unfold fX7_layFirst
  have ql0 : (0 : Int32).toInt = 0 := by decide
  have ql1 : (1 : Int32).toInt = 1 := by decide
  have ql20 : (20 : Int32).toInt = 20 := by decide
  refine sBind (s_X7_isNo hN hK (by first | omega | decide) (by first | omega | decide) (by first | omega | decide) (by first | omega | decide)) (fun x4 b1 => ?_)
  obtain ⟨b1_0, b1_1, b1_2, -⟩ := b1
  replace b1_0 : 0 ≤ x4.toInt := b1_0
  replace b1_1 : x4.toInt ≤ 1 := b1_1
  replace b1_2 : (x4.toInt = 0 → ((0 : Int32).toInt ≤ p0.toInt ∧ p0.toInt ≤ (1 : Int32).toInt)) := b1_2
  refine sBind (s_X7_isNo hN hK (by first | omega | decide) (by first | omega | decide) (by first | omega | decide) (by first | omega | decide)) (fun x11 b2 => ?_)
  obtain ⟨b2_0, b2_1, b2_2, -⟩ := b2
  replace b2_0 : 0 ≤ x11.toInt := b2_0
  replace b2_1 : x11.toInt ≤ 1 := b2_1
  replace b2_2 : (x11.toInt = 0 → ((0 : Int32).toInt ≤ p1.toInt ∧ p1.toInt ≤ (20 : Int32).toInt)) := b2_2
  refine sBind (s_X7_isThrown hN hK (by first | omega | decide) (by first | omega | decide) (by first | omega | decide) (by first | omega | decide)) (fun x14 b3 => ?_)
  obtain ⟨b3_0, b3_1, b3_2, b3_3, b3_4, b3_5, -⟩ := b3
  replace b3_0 : 0 ≤ x14.1.toInt := b3_0
  replace b3_1 : x14.1.toInt ≤ 1 := b3_1
  replace b3_2 : 0 ≤ x14.2.toInt := b3_2
  replace b3_3 : x14.2.toInt ≤ 2 := b3_3
  replace b3_4 : (x14.1.toInt = 0 → (0 ≤ x4.toInt ∧ x4.toInt ≤ 0)) := b3_4
  replace b3_5 : (x14.1.toInt = 0 → (0 ≤ x11.toInt ∧ x11.toInt ≤ 0)) := b3_5
  refine sIf (fun h4 => ?_) (fun h4 => ?_)
  · have fh4 := eqT h4
    refine sBind (s_X7_firstWay hN hK (by first | omega | decide) (by first | omega | decide)) (fun x27 b5 => ?_)
    obtain ⟨b5_0, -⟩ := b5
    replace b5_0 : OkD x27 := b5_0
    refine sBind (s_X7_laid hN hK (by first | omega | decide) (by first | omega | decide) (by first | omega | decide) (by first | omega | decide) (by first | assumption | exact OkD.z)) (fun x30 b6 => ?_)
    obtain ⟨b6_0, -⟩ := b6
    replace b6_0 : OkD x30.2.1 := b6_0
    exact sRet ⟨(by show 0 ≤ x14.2.toInt; first | omega | assumption), (by show x14.2.toInt ≤ 2; first | omega | assumption), (by show OkD x30.2.1; first | omega | assumption), trivial⟩
  · have fh4 := eqF h4
    exact sRet ⟨(by show 0 ≤ x14.2.toInt; first | omega | assumption), (by show x14.2.toInt ≤ 2; first | omega | assumption), (by show OkD f; first | omega | assumption), trivial⟩
set_option maxHeartbeats 2000000 in
theorem s_X7_next {N K : Nat} {th : Int32} {f : Nat → Int32} {t : Nat → Int32} {p0 : Int32} (hN : NBig N) (hK : 100 ≤ K) (hp0 : OkD f) : Sf (fX7_next N K th f t p0) (fun (z : Int32 × Int32 × (Nat → Int32) × (Nat → Int32)) => 0 ≤ z.2.1.toInt ∧ z.2.1.toInt ≤ 2 ∧ OkD z.2.2.1 ∧ True) := by
  unfold fX7_next
  have ql0 : (0 : Int32).toInt = 0 := by decide
  have ql1 : (1 : Int32).toInt = 1 := by decide
  refine sBind (s_X7_isNo hN hK (by first | omega | decide) (by first | omega | decide) (by first | omega | decide) (by first | omega | decide)) (fun x4 b1 => ?_)
  obtain ⟨b1_0, b1_1, b1_2, -⟩ := b1
  replace b1_0 : 0 ≤ x4.toInt := b1_0
  replace b1_1 : x4.toInt ≤ 1 := b1_1
  replace b1_2 : (x4.toInt = 0 → ((0 : Int32).toInt ≤ p0.toInt ∧ p0.toInt ≤ (1 : Int32).toInt)) := b1_2
  refine sBind (s_X7_isThrown hN hK (by first | omega | decide) (by first | omega | decide) (by first | omega | decide) (by first | omega | decide)) (fun x8 b2 => ?_)
  obtain ⟨b2_0, b2_1, b2_2, b2_3, b2_4, b2_5, -⟩ := b2
  replace b2_0 : 0 ≤ x8.1.toInt := b2_0
  replace b2_1 : x8.1.toInt ≤ 1 := b2_1
  replace b2_2 : 0 ≤ x8.2.toInt := b2_2
  replace b2_3 : x8.2.toInt ≤ 2 := b2_3
  replace b2_4 : (x8.1.toInt = 0 → (0 ≤ x4.toInt ∧ x4.toInt ≤ 0)) := b2_4
  replace b2_5 : (x8.1.toInt = 0 → (0 ≤ (0 : Int32).toInt ∧ (0 : Int32).toInt ≤ 0)) := b2_5
  refine sIf (fun h3 => ?_) (fun h3 => ?_)
  · have fh3 := eqT h3
    refine sIfF (noob (by omega) (by omega)) ?_
    refine sBind (s_X7_isNext hN hK (by first | assumption | exact OkD.z)) (fun x22 b4 => ?_)
    obtain ⟨b4_0, b4_1, b4_2, -⟩ := b4
    replace b4_0 : 0 ≤ x22.1.toInt := b4_0
    replace b4_1 : x22.1.toInt ≤ 1 := b4_1
    replace b4_2 : OkD x22.2 := b4_2
    refine sIf (fun h5 => ?_) (fun h5 => ?_)
    · have fh5 := eqT h5
      refine sBind (s_X7_refused hN hK (by first | omega | decide) (by first | omega | decide)) (fun x45 b6 => ?_)
      obtain ⟨b6_0, b6_1, -⟩ := b6
      replace b6_0 : -9 ≤ x45.1.toInt := b6_0
      replace b6_1 : x45.1.toInt ≤ -9 := b6_1
      exact sRet ⟨(by show 0 ≤ x8.2.toInt; first | omega | assumption), (by show x8.2.toInt ≤ 2; first | omega | assumption), (by show OkD x22.2; first | omega | assumption), trivial⟩
    · have fh5 := eqF h5
      refine sIfF (noob (by omega) (by omega)) ?_
      refine sBind (s_X7_parts hN hK) (fun x35 b7 => ?_)
      refine sBind (s_X7_done hN hK (by first | omega | decide) (by first | omega | decide)) (fun x38 b8 => ?_)
      exact sRet ⟨(by show 0 ≤ x8.2.toInt; first | omega | assumption), (by show x8.2.toInt ≤ 2; first | omega | assumption), (by show OkD x22.2; first | omega | assumption), trivial⟩
  · have fh3 := eqF h3
    exact sRet ⟨(by show 0 ≤ x8.2.toInt; first | omega | assumption), (by show x8.2.toInt ≤ 2; first | omega | assumption), (by show OkD f; first | omega | assumption), trivial⟩
set_option maxHeartbeats 2000000 in
theorem s_X7_turn_44 {N K : Nat} {th : Int32} {f : Nat → Int32} {t : Nat → Int32} {p0 : Int32} (hN : NBig N) (hK : 100 ≤ K) (hp0 : OkD f) : ∀ (s0 : Int32) (th_ : Int32) (f_ : Nat → Int32) (t_ : Nat → Int32) (e_v0 : Nat → Int32), 0 ≤ p0.toInt → p0.toInt ≤ 1 → 0 ≤ s0.toInt → s0.toInt ≤ 1 → 0 ≤ th_.toInt → th_.toInt ≤ 2 → (s0.toInt = 0 → 0 ≤ p0.toInt ∧ p0.toInt ≤ 1) → OkD e_v0 → Sf (fX7_turn_44 N K th f t p0  s0 th_ f_ t_ e_v0) (fun (z : Int32 × Int32 × (Nat → Int32) × (Nat → Int32)) => 0 ≤ z.1.toInt ∧ z.1.toInt ≤ 1 ∧ 0 ≤ z.2.1.toInt ∧ z.2.1.toInt ≤ 2 ∧ OkD z.2.2.1 ∧ True) := by
  intro s0 th_ f_ t_ e_v0 hq0 hq1 hq2 hq3 hq4 hq5 hq6 hq7
  unfold fX7_turn_44
  have ql0 : (0 : Int32).toInt = 0 := by decide
  refine sBind (s_X7_laid hN hK (by first | omega | decide) (by first | omega | decide) (by first | omega | decide) (by first | omega | decide) (by first | assumption | exact OkD.z)) (fun x48 b1 => ?_)
  obtain ⟨b1_0, -⟩ := b1
  replace b1_0 : OkD x48.2.1 := b1_0
  refine sBind (s_X7_bit hN hK (by first | omega | decide) (by first | omega | decide)) (fun x53 b2 => ?_)
  obtain ⟨b2_0, b2_1, -⟩ := b2
  replace b2_0 : 0 ≤ x53.toInt := b2_0
  replace b2_1 : x53.toInt ≤ 1 := b2_1
  exact sRet ⟨(by show 0 ≤ x53.toInt; first | omega | assumption), (by show x53.toInt ≤ 1; first | omega | assumption), (by show 0 ≤ th_.toInt; first | omega | assumption), (by show th_.toInt ≤ 2; first | omega | assumption), (by show OkD x48.2.1; first | omega | assumption), trivial⟩
set_option maxHeartbeats 2000000 in
theorem s_X7_turn {N K : Nat} {th : Int32} {f : Nat → Int32} {t : Nat → Int32} {p0 : Int32} (hN : NBig N) (hK : 100 ≤ K) (hp0 : OkD f) : Sf (fX7_turn N K th f t p0) (fun (z : Int32 × Int32 × (Nat → Int32) × (Nat → Int32)) => 0 ≤ z.1.toInt ∧ z.1.toInt ≤ 1 ∧ 0 ≤ z.2.1.toInt ∧ z.2.1.toInt ≤ 2 ∧ OkD z.2.2.1 ∧ True) := by
  unfold fX7_turn
  have ql0 : (0 : Int32).toInt = 0 := by decide
  have ql1 : (1 : Int32).toInt = 1 := by decide
  refine sBind (s_X7_isNo hN hK (by first | omega | decide) (by first | omega | decide) (by first | omega | decide) (by first | omega | decide)) (fun x4 b1 => ?_)
  obtain ⟨b1_0, b1_1, b1_2, -⟩ := b1
  replace b1_0 : 0 ≤ x4.toInt := b1_0
  replace b1_1 : x4.toInt ≤ 1 := b1_1
  replace b1_2 : (x4.toInt = 0 → ((0 : Int32).toInt ≤ p0.toInt ∧ p0.toInt ≤ (1 : Int32).toInt)) := b1_2
  refine sBind (s_X7_isThrown hN hK (by first | omega | decide) (by first | omega | decide) (by first | omega | decide) (by first | omega | decide)) (fun x8 b2 => ?_)
  obtain ⟨b2_0, b2_1, b2_2, b2_3, b2_4, b2_5, -⟩ := b2
  replace b2_0 : 0 ≤ x8.1.toInt := b2_0
  replace b2_1 : x8.1.toInt ≤ 1 := b2_1
  replace b2_2 : 0 ≤ x8.2.toInt := b2_2
  replace b2_3 : x8.2.toInt ≤ 2 := b2_3
  replace b2_4 : (x8.1.toInt = 0 → (0 ≤ x4.toInt ∧ x4.toInt ≤ 0)) := b2_4
  replace b2_5 : (x8.1.toInt = 0 → (0 ≤ (0 : Int32).toInt ∧ (0 : Int32).toInt ≤ 0)) := b2_5
  refine sIf (fun h3 => ?_) (fun h3 => ?_)
  · have fh3 := eqT h3
    refine sIfF (noob (by omega) (by omega)) ?_
    refine sBind (s_X7_turned hN hK (by first | assumption | exact OkD.z)) (fun x22 b4 => ?_)
    obtain ⟨b4_0, -⟩ := b4
    replace b4_0 : OkD x22 := b4_0
    refine sIfF (noob (by omega) (by omega)) ?_
    refine sBind (s_X7_areSame hN hK) (fun x33 b5 => ?_)
    obtain ⟨b5_0, b5_1, -⟩ := b5
    replace b5_0 : 0 ≤ x33.toInt := b5_0
    replace b5_1 : x33.toInt ≤ 1 := b5_1
    refine sIf (fun h6 => ?_) (fun h6 => ?_)
    · have fh6 := eqT h6
      exact s_X7_turn_44  hN hK (by omega) _ _ _ _ _ (by first | omega | decide) (by first | omega | decide) (by first | omega | decide) (by first | omega | decide) (by first | omega | decide) (by first | omega | decide) (by first | omega | decide) (by first | assumption)
    · have fh6 := eqF h6
      exact s_X7_turn_44  hN hK (by omega) _ _ _ _ _ (by first | omega | decide) (by first | omega | decide) (by first | omega | decide) (by first | omega | decide) (by first | omega | decide) (by first | omega | decide) (by first | omega | decide) (by first | assumption)
  · have fh3 := eqF h3
    exact sRet ⟨(by show 0 ≤ (0 : Int32).toInt; decide), (by show (0 : Int32).toInt ≤ 1; decide), (by show 0 ≤ x8.2.toInt; first | omega | assumption), (by show x8.2.toInt ≤ 2; first | omega | assumption), (by show OkD f; first | omega | assumption), trivial⟩
theorem s_X7_toUnlike {N K : Nat} {th : Int32} {f : Nat → Int32} {t : Nat → Int32} {p0 : Int32} (hN : NBig N) (hK : 100 ≤ K) (hp0 : OkD f) : Sf (fX7_toUnlike N K th f t p0) (fun (z : Int32 × Int32 × (Nat → Int32) × (Nat → Int32)) => 0 ≤ z.2.1.toInt ∧ z.2.1.toInt ≤ 2 ∧ OkD z.2.2.1 ∧ True) := by
  have hN9 := hN.u
  have q0 : (0 : Int32).toInt = 0 := by decide
  have q1 : (1 : Int32).toInt = 1 := by decide
  obtain ⟨w, hw⟩ := hp0
  unfold fX7_toUnlike
  refine sBind (s_X7_isNo hN hK (by omega) (by omega) (by omega) (by omega)) (fun x4 y4 => ?_)
  obtain ⟨a1, a2, a3, -⟩ := y4
  refine sBind (s_X7_isThrown hN hK (by omega) (by omega) (by omega) (by omega)) (fun x14 y14 => ?_)
  obtain ⟨i1, i2, i3, i4, i5, i6, -⟩ := y14
  refine sIf (fun h => ?_) (fun _ => sRet ⟨i3, i4, ⟨w, hw⟩, trivial⟩)
  have h0 := congrArg Int32.toInt h
  rw [q0] at h0
  have u1 := a3 (by have := i5 h0; omega)
  have hp : ¬ (p0 < 0 ∨ 2 ≤ p0.toNatClampNeg) := noob (by omega) (by omega)
  refine sIfF hp ?_
  refine sBind (s_X7_isOdd hN hK) (fun x22 _ => ?_)
  refine sIf (fun _ => ?_) (fun _ => ?_)
  · exact sBind (s_X7_refused hN hK i3 i4) (fun _ _ => sRet ⟨i3, i4, ⟨w, hw⟩, trivial⟩)
  · obtain ⟨f', e1, e2⟩ := m_ulo (N := N) (K := K) (th := th) (f0 := f) (t0 := t) (th1 := x14.2) (t := t) hN hK hp hw 20 0 N (fun _ => 0) (fun _ => 0) rfl (by omega) (fun _ _ _ => rfl) (by have := wn_unlike hw.1; have h8 := hw.1; unfold unlikew at this; omega)
    exact ⟨_, e1, i3, i4, ⟨_, e2⟩, trivial⟩

theorem s_X7_toOdd {N K : Nat} {th : Int32} {f : Nat → Int32} {t : Nat → Int32} {p0 : Int32} (hN : NBig N) (hK : 100 ≤ K) (hp0 : OkD f) : Sf (fX7_toOdd N K th f t p0) (fun (z : Int32 × Int32 × (Nat → Int32) × (Nat → Int32)) => 0 ≤ z.2.1.toInt ∧ z.2.1.toInt ≤ 2 ∧ OkD z.2.2.1 ∧ True) := by
  have hN9 := hN.u
  have q0 : (0 : Int32).toInt = 0 := by decide
  have q1 : (1 : Int32).toInt = 1 := by decide
  obtain ⟨w, hw⟩ := hp0
  unfold fX7_toOdd
  refine sBind (s_X7_isNo hN hK (by omega) (by omega) (by omega) (by omega)) (fun x4 y4 => ?_)
  obtain ⟨a1, a2, a3, -⟩ := y4
  refine sBind (s_X7_isThrown hN hK (by omega) (by omega) (by omega) (by omega)) (fun x14 y14 => ?_)
  obtain ⟨i1, i2, i3, i4, i5, i6, -⟩ := y14
  refine sIf (fun h => ?_) (fun _ => sRet ⟨i3, i4, ⟨w, hw⟩, trivial⟩)
  have h0 := congrArg Int32.toInt h
  rw [q0] at h0
  have u1 := a3 (by have := i5 h0; omega)
  have hp : ¬ (p0 < 0 ∨ 2 ≤ p0.toNatClampNeg) := noob (by omega) (by omega)
  refine sIfF hp ?_
  refine sBind (s_X7_isUnlike hN hK) (fun x22 _ => ?_)
  refine sIf (fun _ => ?_) (fun _ => ?_)
  · exact sBind (s_X7_refused hN hK i3 i4) (fun _ _ => sRet ⟨i3, i4, ⟨w, hw⟩, trivial⟩)
  · obtain ⟨f', e1, e2⟩ := m_odo (N := N) (K := K) (th := th) (f0 := f) (t0 := t) (th1 := x14.2) (t := t) hN hK hp hw 20 0 N (fun _ => 0) (fun _ => 0) rfl (by omega) (fun _ _ _ => rfl) (by have := wn_odd (w := w); have h8 := hw.1; unfold oddw at this; omega)
    exact ⟨_, e1, i3, i4, ⟨_, e2⟩, trivial⟩

set_option maxHeartbeats 2000000 in
theorem s_X7_copyDesk {N K : Nat} {th : Int32} {f : Nat → Int32} {f2 : Nat → Int32} {t : Nat → Int32} {p0 : Int32} (hN : NBig N) (hK : 100 ≤ K) (hp0 : OkD f) (hp1 : OkD f2) : Sf (fX7_copyDesk N K th f f2 t p0) (fun (z : Int32 × Int32 × (Nat → Int32) × (Nat → Int32)) => 0 ≤ z.2.1.toInt ∧ z.2.1.toInt ≤ 2 ∧ OkD z.2.2.1 ∧ True) := by
  unfold fX7_copyDesk
  have ql0 : (0 : Int32).toInt = 0 := by decide
  have ql1 : (1 : Int32).toInt = 1 := by decide
  refine sBind (s_X7_isNo hN hK (by first | omega | decide) (by first | omega | decide) (by first | omega | decide) (by first | omega | decide)) (fun x4 b1 => ?_)
  obtain ⟨b1_0, b1_1, b1_2, -⟩ := b1
  replace b1_0 : 0 ≤ x4.toInt := b1_0
  replace b1_1 : x4.toInt ≤ 1 := b1_1
  replace b1_2 : (x4.toInt = 0 → ((0 : Int32).toInt ≤ p0.toInt ∧ p0.toInt ≤ (1 : Int32).toInt)) := b1_2
  refine sBind (s_X7_isThrown hN hK (by first | omega | decide) (by first | omega | decide) (by first | omega | decide) (by first | omega | decide)) (fun x8 b2 => ?_)
  obtain ⟨b2_0, b2_1, b2_2, b2_3, b2_4, b2_5, -⟩ := b2
  replace b2_0 : 0 ≤ x8.1.toInt := b2_0
  replace b2_1 : x8.1.toInt ≤ 1 := b2_1
  replace b2_2 : 0 ≤ x8.2.toInt := b2_2
  replace b2_3 : x8.2.toInt ≤ 2 := b2_3
  replace b2_4 : (x8.1.toInt = 0 → (0 ≤ x4.toInt ∧ x4.toInt ≤ 0)) := b2_4
  replace b2_5 : (x8.1.toInt = 0 → (0 ≤ (0 : Int32).toInt ∧ (0 : Int32).toInt ≤ 0)) := b2_5
  refine sIf (fun h3 => ?_) (fun h3 => ?_)
  · have fh3 := eqT h3
    refine sIfF (noob (by omega) (by omega)) ?_
    have t4 := subI (a := (1 : Int32)) (b := p0) (by omega) (by omega)
    refine sBind (s_X7_laid hN hK (by first | omega | decide) (by first | omega | decide) (by first | omega | decide) (by first | omega | decide) (by first | assumption | exact OkD.z)) (fun x26 b5 => ?_)
    obtain ⟨b5_0, -⟩ := b5
    replace b5_0 : OkD x26.2.1 := b5_0
    refine sIfF (noob (by omega) (by omega)) ?_
    refine sBind (s_X7_unlikeOnes hN hK) (fun x36 b6 => ?_)
    exact sRet ⟨(by show 0 ≤ x8.2.toInt; first | omega | assumption), (by show x8.2.toInt ≤ 2; first | omega | assumption), (by show OkD x26.2.1; first | omega | assumption), trivial⟩
  · have fh3 := eqF h3
    exact sRet ⟨(by show 0 ≤ x8.2.toInt; first | omega | assumption), (by show x8.2.toInt ≤ 2; first | omega | assumption), (by show OkD f2; first | omega | assumption), trivial⟩
set_option maxHeartbeats 2000000 in
theorem s_X7_times {N K : Nat} {th : Int32} {f : Nat → Int32} {p0 : Int32} {p1 : Int32} (hN : NBig N) (hK : 100 ≤ K)  : Sf (fX7_times N K th f p0 p1) (fun (z : Int32 × Int32) => 0 ≤ z.2.toInt ∧ z.2.toInt ≤ 2 ∧ True) := by
  unfold fX7_times
  have ql0 : (0 : Int32).toInt = 0 := by decide
  have ql1 : (1 : Int32).toInt = 1 := by decide
  have ql20 : (20 : Int32).toInt = 20 := by decide
  refine sBind (s_X7_isNo hN hK (by first | omega | decide) (by first | omega | decide) (by first | omega | decide) (by first | omega | decide)) (fun x4 b1 => ?_)
  obtain ⟨b1_0, b1_1, b1_2, -⟩ := b1
  replace b1_0 : 0 ≤ x4.toInt := b1_0
  replace b1_1 : x4.toInt ≤ 1 := b1_1
  replace b1_2 : (x4.toInt = 0 → ((0 : Int32).toInt ≤ p0.toInt ∧ p0.toInt ≤ (1 : Int32).toInt)) := b1_2
  refine sBind (s_X7_isNo hN hK (by first | omega | decide) (by first | omega | decide) (by first | omega | decide) (by first | omega | decide)) (fun x11 b2 => ?_)
  obtain ⟨b2_0, b2_1, b2_2, -⟩ := b2
  replace b2_0 : 0 ≤ x11.toInt := b2_0
  replace b2_1 : x11.toInt ≤ 1 := b2_1
  replace b2_2 : (x11.toInt = 0 → ((1 : Int32).toInt ≤ p1.toInt ∧ p1.toInt ≤ (20 : Int32).toInt)) := b2_2
  refine sBind (s_X7_isThrown hN hK (by first | omega | decide) (by first | omega | decide) (by first | omega | decide) (by first | omega | decide)) (fun x14 b3 => ?_)
  obtain ⟨b3_0, b3_1, b3_2, b3_3, b3_4, b3_5, -⟩ := b3
  replace b3_0 : 0 ≤ x14.1.toInt := b3_0
  replace b3_1 : x14.1.toInt ≤ 1 := b3_1
  replace b3_2 : 0 ≤ x14.2.toInt := b3_2
  replace b3_3 : x14.2.toInt ≤ 2 := b3_3
  replace b3_4 : (x14.1.toInt = 0 → (0 ≤ x4.toInt ∧ x4.toInt ≤ 0)) := b3_4
  replace b3_5 : (x14.1.toInt = 0 → (0 ≤ x11.toInt ∧ x11.toInt ≤ 0)) := b3_5
  refine sIf (fun h4 => ?_) (fun h4 => ?_)
  · have fh4 := eqT h4
    refine sIfF (noob (by omega) (by omega)) ?_
    refine sIfF (noob (by omega) (by omega)) ?_
    exact sRet ⟨(by show 0 ≤ x14.2.toInt; first | omega | assumption), (by show x14.2.toInt ≤ 2; first | omega | assumption), trivial⟩
  · have fh4 := eqF h4
    exact sRet ⟨(by show 0 ≤ x14.2.toInt; first | omega | assumption), (by show x14.2.toInt ≤ 2; first | omega | assumption), trivial⟩
set_option maxHeartbeats 2000000 in
theorem s_X7_way {N K : Nat} {th : Int32} {f : Nat → Int32} {p0 : Int32} {p1 : Int32} (hN : NBig N) (hK : 100 ≤ K) (hp0 : OkD f) : Sf (fX7_way N K th f p0 p1) (fun (z : Int32 × Int32) => 0 ≤ z.2.toInt ∧ z.2.toInt ≤ 2 ∧ True) := by
  unfold fX7_way
  have ql0 : (0 : Int32).toInt = 0 := by decide
  have ql1 : (1 : Int32).toInt = 1 := by decide
  have ql2 : (2 : Int32).toInt = 2 := by decide
  refine sBind (s_X7_isNo hN hK (by first | omega | decide) (by first | omega | decide) (by first | omega | decide) (by first | omega | decide)) (fun x4 b1 => ?_)
  obtain ⟨b1_0, b1_1, b1_2, -⟩ := b1
  replace b1_0 : 0 ≤ x4.toInt := b1_0
  replace b1_1 : x4.toInt ≤ 1 := b1_1
  replace b1_2 : (x4.toInt = 0 → ((0 : Int32).toInt ≤ p0.toInt ∧ p0.toInt ≤ (1 : Int32).toInt)) := b1_2
  refine sBind (s_X7_isNo hN hK (by first | omega | decide) (by first | omega | decide) (by first | omega | decide) (by first | omega | decide)) (fun x10 b2 => ?_)
  obtain ⟨b2_0, b2_1, b2_2, -⟩ := b2
  replace b2_0 : 0 ≤ x10.toInt := b2_0
  replace b2_1 : x10.toInt ≤ 1 := b2_1
  replace b2_2 : (x10.toInt = 0 → ((0 : Int32).toInt ≤ p1.toInt ∧ p1.toInt ≤ (2 : Int32).toInt)) := b2_2
  refine sBind (s_X7_isThrown hN hK (by first | omega | decide) (by first | omega | decide) (by first | omega | decide) (by first | omega | decide)) (fun x13 b3 => ?_)
  obtain ⟨b3_0, b3_1, b3_2, b3_3, b3_4, b3_5, -⟩ := b3
  replace b3_0 : 0 ≤ x13.1.toInt := b3_0
  replace b3_1 : x13.1.toInt ≤ 1 := b3_1
  replace b3_2 : 0 ≤ x13.2.toInt := b3_2
  replace b3_3 : x13.2.toInt ≤ 2 := b3_3
  replace b3_4 : (x13.1.toInt = 0 → (0 ≤ x4.toInt ∧ x4.toInt ≤ 0)) := b3_4
  replace b3_5 : (x13.1.toInt = 0 → (0 ≤ x10.toInt ∧ x10.toInt ≤ 0)) := b3_5
  refine sIf (fun h4 => ?_) (fun h4 => ?_)
  · have fh4 := eqT h4
    refine sIf (fun h5 => ?_) (fun h5 => ?_)
    · have fh5 := eqT h5
      refine sIfF (noob (by omega) (by omega)) ?_
      refine sBind (s_X7_number hN hK (by first | assumption | exact OkD.z)) (fun x31 b6 => ?_)
      obtain ⟨b6_0, b6_1, -⟩ := b6
      replace b6_0 : 0 ≤ x31.toInt := b6_0
      replace b6_1 : x31.toInt ≤ 20 := b6_1
      exact sRet ⟨(by show 0 ≤ x13.2.toInt; first | omega | assumption), (by show x13.2.toInt ≤ 2; first | omega | assumption), trivial⟩
    · have fh5 := eqF h5
      refine sIf (fun h7 => ?_) (fun h7 => ?_)
      · have fh7 := eqT h7
        refine sIfF (noob (by omega) (by omega)) ?_
        refine sBind (s_X7_parts hN hK) (fun x48 b8 => ?_)
        exact sRet ⟨(by show 0 ≤ x13.2.toInt; first | omega | assumption), (by show x13.2.toInt ≤ 2; first | omega | assumption), trivial⟩
      · have fh7 := eqF h7
        refine sIfF (noob (by omega) (by omega)) ?_
        refine sBind (s_X7_unlikeOnes hN hK) (fun x60 b9 => ?_)
        exact sRet ⟨(by show 0 ≤ x13.2.toInt; first | omega | assumption), (by show x13.2.toInt ≤ 2; first | omega | assumption), trivial⟩
  · have fh4 := eqF h4
    exact sRet ⟨(by show 0 ≤ x13.2.toInt; first | omega | assumption), (by show x13.2.toInt ≤ 2; first | omega | assumption), trivial⟩
set_option maxHeartbeats 2000000 in
theorem s_X7_isOf_32 {N K : Nat} {th : Int32} {f : Nat → Int32} {p0 : Int32} {p1 : Int32} {p2 : Int32} (hN : NBig N) (hK : 100 ≤ K)  : ∀ (s0 : Int32) (s1 : Int32) (th_ : Int32), 0 ≤ s0.toInt → s0.toInt ≤ 1 → 0 ≤ s1.toInt → s1.toInt ≤ 1 → (s0.toInt = 0 → 0 ≤ p1.toInt ∧ p1.toInt ≤ 7 ∧ 0 ≤ p2.toInt ∧ p2.toInt ≤ 20) → (s1.toInt = 0 → 0 ≤ p0.toInt ∧ p0.toInt ≤ 1) → Sf (fX7_isOf_32 N K th f p0 p1 p2  s0 s1 th_) (fun (z : Int32 × Int32) => 0 ≤ z.1.toInt ∧ z.1.toInt ≤ 1 ∧ 0 ≤ z.2.toInt ∧ z.2.toInt ≤ 2 ∧ True) := by
  intro s0 s1 th_ hq0 hq1 hq2 hq3 hq4 hq5
  unfold fX7_isOf_32
  have ql0 : (0 : Int32).toInt = 0 := by decide
  have ql1 : (1 : Int32).toInt = 1 := by decide
  refine sBind (s_X7_isThrown hN hK (by first | omega | decide) (by first | omega | decide) (by first | omega | decide) (by first | omega | decide)) (fun x32 b1 => ?_)
  obtain ⟨b1_0, b1_1, b1_2, b1_3, b1_4, b1_5, -⟩ := b1
  replace b1_0 : 0 ≤ x32.1.toInt := b1_0
  replace b1_1 : x32.1.toInt ≤ 1 := b1_1
  replace b1_2 : 0 ≤ x32.2.toInt := b1_2
  replace b1_3 : x32.2.toInt ≤ 2 := b1_3
  replace b1_4 : (x32.1.toInt = 0 → (0 ≤ s1.toInt ∧ s1.toInt ≤ 0)) := b1_4
  replace b1_5 : (x32.1.toInt = 0 → (0 ≤ s0.toInt ∧ s0.toInt ≤ 0)) := b1_5
  refine sIf (fun h2 => ?_) (fun h2 => ?_)
  · have fh2 := eqT h2
    refine sIfF (noob (by omega) (by omega)) ?_
    refine sBind (s_X7_isOfKind hN hK (by first | omega | decide) (by first | omega | decide) (by first | omega | decide) (by first | omega | decide)) (fun x46 b3 => ?_)
    obtain ⟨b3_0, b3_1, -⟩ := b3
    replace b3_0 : 0 ≤ x46.toInt := b3_0
    replace b3_1 : x46.toInt ≤ 1 := b3_1
    refine sIf (fun h4 => ?_) (fun h4 => ?_)
    · have fh4 := eqT h4
      exact sRet ⟨(by show 0 ≤ (0 : Int32).toInt; decide), (by show (0 : Int32).toInt ≤ 1; decide), (by show 0 ≤ x32.2.toInt; first | omega | assumption), (by show x32.2.toInt ≤ 2; first | omega | assumption), trivial⟩
    · have fh4 := eqF h4
      exact sRet ⟨(by show 0 ≤ (1 : Int32).toInt; decide), (by show (1 : Int32).toInt ≤ 1; decide), (by show 0 ≤ x32.2.toInt; first | omega | assumption), (by show x32.2.toInt ≤ 2; first | omega | assumption), trivial⟩
  · have fh2 := eqF h2
    exact sRet ⟨(by show 0 ≤ (0 : Int32).toInt; decide), (by show (0 : Int32).toInt ≤ 1; decide), (by show 0 ≤ x32.2.toInt; first | omega | assumption), (by show x32.2.toInt ≤ 2; first | omega | assumption), trivial⟩
set_option maxHeartbeats 2000000 in
theorem s_X7_isOf_27 {N K : Nat} {th : Int32} {f : Nat → Int32} {p0 : Int32} {p1 : Int32} {p2 : Int32} (hN : NBig N) (hK : 100 ≤ K)  : ∀ (s0 : Int32) (th_ : Int32), 0 ≤ s0.toInt → s0.toInt ≤ 1 → (s0.toInt = 0 → 0 ≤ p0.toInt ∧ p0.toInt ≤ 1) → Sf (fX7_isOf_27 N K th f p0 p1 p2  s0 th_) (fun (z : Int32 × Int32) => 0 ≤ z.1.toInt ∧ z.1.toInt ≤ 1 ∧ 0 ≤ z.2.toInt ∧ z.2.toInt ≤ 2 ∧ True) := by
  intro s0 th_ hq0 hq1 hq2
  unfold fX7_isOf_27
  have ql0 : (0 : Int32).toInt = 0 := by decide
  have ql1 : (1 : Int32).toInt = 1 := by decide
  exact s_X7_isOf_32  hN hK _ _ _ (by first | omega | decide) (by first | omega | decide) (by first | omega | decide) (by first | omega | decide) (by first | omega | decide) (by first | omega | decide)

end MG_50ksafe
section MG_50lsafe
set_option maxHeartbeats 2000000 in
theorem s_X7_isOf {N K : Nat} {th : Int32} {f : Nat → Int32} {p0 : Int32} {p1 : Int32} {p2 : Int32} (hN : NBig N) (hK : 100 ≤ K)  : Sf (fX7_isOf N K th f p0 p1 p2) (fun (z : Int32 × Int32) => 0 ≤ z.1.toInt ∧ z.1.toInt ≤ 1 ∧ 0 ≤ z.2.toInt ∧ z.2.toInt ≤ 2 ∧ True) := by
  unfold fX7_isOf
  have ql0 : (0 : Int32).toInt = 0 := by decide
  have ql1 : (1 : Int32).toInt = 1 := by decide
  have ql7 : (7 : Int32).toInt = 7 := by decide
  have ql20 : (20 : Int32).toInt = 20 := by decide
  refine sBind (s_X7_isNo hN hK (by first | omega | decide) (by first | omega | decide) (by first | omega | decide) (by first | omega | decide)) (fun x4 b1 => ?_)
  obtain ⟨b1_0, b1_1, b1_2, -⟩ := b1
  replace b1_0 : 0 ≤ x4.toInt := b1_0
  replace b1_1 : x4.toInt ≤ 1 := b1_1
  replace b1_2 : (x4.toInt = 0 → ((0 : Int32).toInt ≤ p0.toInt ∧ p0.toInt ≤ (1 : Int32).toInt)) := b1_2
  refine sBind (s_X7_isNo hN hK (by first | omega | decide) (by first | omega | decide) (by first | omega | decide) (by first | omega | decide)) (fun x11 b2 => ?_)
  obtain ⟨b2_0, b2_1, b2_2, -⟩ := b2
  replace b2_0 : 0 ≤ x11.toInt := b2_0
  replace b2_1 : x11.toInt ≤ 1 := b2_1
  replace b2_2 : (x11.toInt = 0 → ((0 : Int32).toInt ≤ p1.toInt ∧ p1.toInt ≤ (7 : Int32).toInt)) := b2_2
  refine sIf (fun h3 => ?_) (fun h3 => ?_)
  · have fh3 := eqT h3
    refine sBind (s_X7_isNo hN hK (by first | omega | decide) (by first | omega | decide) (by first | omega | decide) (by first | omega | decide)) (fun x21 b4 => ?_)
    obtain ⟨b4_0, b4_1, b4_2, -⟩ := b4
    replace b4_0 : 0 ≤ x21.toInt := b4_0
    replace b4_1 : x21.toInt ≤ 1 := b4_1
    replace b4_2 : (x21.toInt = 0 → ((0 : Int32).toInt ≤ p2.toInt ∧ p2.toInt ≤ (20 : Int32).toInt)) := b4_2
    refine sIf (fun h5 => ?_) (fun h5 => ?_)
    · have fh5 := eqT h5
      exact s_X7_isOf_32  hN hK _ _ _ (by first | omega | decide) (by first | omega | decide) (by first | omega | decide) (by first | omega | decide) (by first | omega | decide) (by first | omega | decide)
    · have fh5 := eqF h5
      exact s_X7_isOf_27  hN hK _ _ (by first | omega | decide) (by first | omega | decide) (by first | omega | decide)
  · have fh3 := eqF h3
    exact s_X7_isOf_27  hN hK _ _ (by first | omega | decide) (by first | omega | decide) (by first | omega | decide)
set_option maxHeartbeats 2000000 in
theorem s_X7_isSameWay {N K : Nat} {th : Int32} {f : Nat → Int32} {f2 : Nat → Int32} (hN : NBig N) (hK : 100 ≤ K)  : Sf (fX7_isSameWay N K th f f2) (fun (z : Int32 × Int32) => 0 ≤ z.1.toInt ∧ z.1.toInt ≤ 1 ∧ 0 ≤ z.2.toInt ∧ z.2.toInt ≤ 0 ∧ True) := by
  unfold fX7_isSameWay
  have ql0 : (0 : Int32).toInt = 0 := by decide
  have ql1 : (1 : Int32).toInt = 1 := by decide
  refine sIfF (noob (by omega) (by omega)) ?_
  refine sIfF (noob (by omega) (by omega)) ?_
  refine sBind (s_X7_areSame hN hK) (fun x17 b1 => ?_)
  obtain ⟨b1_0, b1_1, -⟩ := b1
  replace b1_0 : 0 ≤ x17.toInt := b1_0
  replace b1_1 : x17.toInt ≤ 1 := b1_1
  refine sIfT (b01 (by omega) (by omega)) ?_
  exact sRet ⟨(by show 0 ≤ x17.toInt; first | omega | assumption), (by show x17.toInt ≤ 1; first | omega | assumption), (by show 0 ≤ (0 : Int32).toInt; decide), (by show (0 : Int32).toInt ≤ 0; decide), trivial⟩
set_option maxHeartbeats 2000000 in
theorem s_X7_tally {N K : Nat} {th : Int32} {t : Nat → Int32} {p0 : Int32} (hN : NBig N) (hK : 100 ≤ K)  : Sf (fX7_tally N K th t p0) (fun (z : Int32 × Int32) => 0 ≤ z.2.toInt ∧ z.2.toInt ≤ 2 ∧ True) := by
  unfold fX7_tally
  have ql0 : (0 : Int32).toInt = 0 := by decide
  have ql5 : (5 : Int32).toInt = 5 := by decide
  refine sBind (s_X7_isNo hN hK (by first | omega | decide) (by first | omega | decide) (by first | omega | decide) (by first | omega | decide)) (fun x4 b1 => ?_)
  obtain ⟨b1_0, b1_1, b1_2, -⟩ := b1
  replace b1_0 : 0 ≤ x4.toInt := b1_0
  replace b1_1 : x4.toInt ≤ 1 := b1_1
  replace b1_2 : (x4.toInt = 0 → ((0 : Int32).toInt ≤ p0.toInt ∧ p0.toInt ≤ (5 : Int32).toInt)) := b1_2
  refine sBind (s_X7_isThrown hN hK (by first | omega | decide) (by first | omega | decide) (by first | omega | decide) (by first | omega | decide)) (fun x8 b2 => ?_)
  obtain ⟨b2_0, b2_1, b2_2, b2_3, b2_4, b2_5, -⟩ := b2
  replace b2_0 : 0 ≤ x8.1.toInt := b2_0
  replace b2_1 : x8.1.toInt ≤ 1 := b2_1
  replace b2_2 : 0 ≤ x8.2.toInt := b2_2
  replace b2_3 : x8.2.toInt ≤ 2 := b2_3
  replace b2_4 : (x8.1.toInt = 0 → (0 ≤ x4.toInt ∧ x4.toInt ≤ 0)) := b2_4
  replace b2_5 : (x8.1.toInt = 0 → (0 ≤ (0 : Int32).toInt ∧ (0 : Int32).toInt ≤ 0)) := b2_5
  refine sIf (fun h3 => ?_) (fun h3 => ?_)
  · have fh3 := eqT h3
    refine sIfF (noob (by omega) (by omega)) ?_
    exact sRet ⟨(by show 0 ≤ x8.2.toInt; first | omega | assumption), (by show x8.2.toInt ≤ 2; first | omega | assumption), trivial⟩
  · have fh3 := eqF h3
    exact sRet ⟨(by show 0 ≤ x8.2.toInt; first | omega | assumption), (by show x8.2.toInt ≤ 2; first | omega | assumption), trivial⟩
set_option maxHeartbeats 2000000 in
theorem s_X7_knock {N K : Nat} {th : Int32} {t : Nat → Int32} (hN : NBig N) (hK : 100 ≤ K)  : Sf (fX7_knock N K th t) (fun (z : Int32 × Int32 × (Nat → Int32)) => 0 ≤ z.2.1.toInt ∧ z.2.1.toInt ≤ 0 ∧ True) := by
  unfold fX7_knock
  have ql0 : (0 : Int32).toInt = 0 := by decide
  exact sRet ⟨(by show 0 ≤ (0 : Int32).toInt; decide), (by show (0 : Int32).toInt ≤ 0; decide), trivial⟩
set_option maxHeartbeats 2000000 in
theorem s_X7_isSound_141 {N K : Nat} {th : Int32} {f : Nat → Int32} {t : Nat → Int32} {p0 : Int32} (hN : NBig N) (hK : 100 ≤ K)  {k_49 : Int32 → Int32 → Int32 → Int32 → Option (Int32 × Int32)} {m_49 : Nat} (hk_49 : ∀ (l2 : Int32) (l3 : Int32) (l4 : Int32) (th_ : Int32), (6 - l4.toInt).toNat < m_49 → 0 ≤ p0.toInt → p0.toInt ≤ 2 → 0 ≤ l2.toInt → l2.toInt ≤ 1 → 0 ≤ l4.toInt → l4.toInt ≤ 6 → 0 ≤ th_.toInt → th_.toInt ≤ 2 → Sf (k_49 l2 l3 l4 th_) (fun (z : Int32 × Int32) => 0 ≤ z.1.toInt ∧ z.1.toInt ≤ 1 ∧ 0 ≤ z.2.toInt ∧ z.2.toInt ≤ 2 ∧ True)) {k_59 : Int32 → Int32 → Int32 → Int32 → Int32 → Option (Int32 × Int32)} {m_59 : Nat} (hk_59 : ∀ (l2 : Int32) (l3 : Int32) (l4 : Int32) (l5 : Int32) (th_ : Int32), (21 - l5.toInt).toNat < m_59 → 0 ≤ p0.toInt → p0.toInt ≤ 2 → 0 ≤ l2.toInt → l2.toInt ≤ 1 → 0 ≤ l4.toInt → l4.toInt ≤ 5 → 1 ≤ l5.toInt → l5.toInt ≤ 21 → 0 ≤ th_.toInt → th_.toInt ≤ 2 → (6 - l4.toInt).toNat ≤ m_49 → Sf (k_59 l2 l3 l4 l5 th_) (fun (z : Int32 × Int32) => 0 ≤ z.1.toInt ∧ z.1.toInt ≤ 1 ∧ 0 ≤ z.2.toInt ∧ z.2.toInt ≤ 2 ∧ True)) {k_78 : Int32 → Int32 → Int32 → Int32 → Int32 → Int32 → (Nat → Int32) → Option (Int32 × Int32)} {m_78 : Nat} (hk_78 : ∀ (l2 : Int32) (l3 : Int32) (l4 : Int32) (l5 : Int32) (l7 : Int32) (th_ : Int32) (e_v0 : (Nat → Int32)), (21 - l7.toInt).toNat < m_78 → 0 ≤ p0.toInt → p0.toInt ≤ 2 → 0 ≤ l2.toInt → l2.toInt ≤ 1 → 0 ≤ l4.toInt → l4.toInt ≤ 5 → 1 ≤ l5.toInt → l5.toInt ≤ 20 → 1 ≤ l7.toInt → l7.toInt ≤ 21 → 0 ≤ th_.toInt → th_.toInt ≤ 2 → (6 - l4.toInt).toNat ≤ m_49 → (21 - l5.toInt).toNat ≤ m_59 → Sf (k_78 l2 l3 l4 l5 l7 th_ e_v0) (fun (z : Int32 × Int32) => 0 ≤ z.1.toInt ∧ z.1.toInt ≤ 1 ∧ 0 ≤ z.2.toInt ∧ z.2.toInt ≤ 2 ∧ True)) : ∀ (l3 : Int32) (l4 : Int32) (l5 : Int32) (l7 : Int32) (s0 : Int32) (s1 : Int32) (th_ : Int32) (e_v0 : Nat → Int32), 0 ≤ p0.toInt → p0.toInt ≤ 2 → 0 ≤ l4.toInt → l4.toInt ≤ 5 → 1 ≤ l5.toInt → l5.toInt ≤ 20 → 1 ≤ l7.toInt → l7.toInt ≤ 20 → 0 ≤ s0.toInt → s0.toInt ≤ 1 → 0 ≤ s1.toInt → s1.toInt ≤ 1 → 0 ≤ th_.toInt → th_.toInt ≤ 2 → (s0.toInt = 0 → 0 ≤ p0.toInt ∧ p0.toInt ≤ 2) → (s1.toInt = 0 → 0 ≤ p0.toInt ∧ p0.toInt ≤ 2) → (6 - l4.toInt).toNat ≤ m_49 → (21 - l5.toInt).toNat ≤ m_59 → (21 - l7.toInt).toNat ≤ m_78 → Sf (fX7_isSound_141 N K th f t p0 k_49 k_59 k_78 l3 l4 l5 l7 s0 s1 th_ e_v0) (fun (z : Int32 × Int32) => 0 ≤ z.1.toInt ∧ z.1.toInt ≤ 1 ∧ 0 ≤ z.2.toInt ∧ z.2.toInt ≤ 2 ∧ True) := by
  intro l3 l4 l5 l7 s0 s1 th_ e_v0 hq0 hq1 hq2 hq3 hq4 hq5 hq6 hq7 hq8 hq9 hq10 hq11 hq12 hq13 hq14 hq15 hq16 hq17 hq18
  unfold fX7_isSound_141
  have ql0 : (0 : Int32).toInt = 0 := by decide
  have ql1 : (1 : Int32).toInt = 1 := by decide
  have t101 := and01 (a := s1) (b := s0) (by omega) (by omega) (by omega) (by omega)
  have t2 := addI (a := l7) (b := (1 : Int32)) (by omega) (by omega)
  exact hk_78 _ _ _ _ _ _ _ (by omega) (by first | omega | decide) (by first | omega | decide) (by first | omega | decide) (by first | omega | decide) (by first | omega | decide) (by first | omega | decide) (by first | omega | decide) (by first | omega | decide) (by first | omega | decide) (by first | omega | decide) (by first | omega | decide) (by first | omega | decide) (by omega) (by omega)
set_option maxHeartbeats 2000000 in
theorem s_X7_isSound_136 {N K : Nat} {th : Int32} {f : Nat → Int32} {t : Nat → Int32} {p0 : Int32} (hN : NBig N) (hK : 100 ≤ K)  {k_49 : Int32 → Int32 → Int32 → Int32 → Option (Int32 × Int32)} {m_49 : Nat} (hk_49 : ∀ (l2 : Int32) (l3 : Int32) (l4 : Int32) (th_ : Int32), (6 - l4.toInt).toNat < m_49 → 0 ≤ p0.toInt → p0.toInt ≤ 2 → 0 ≤ l2.toInt → l2.toInt ≤ 1 → 0 ≤ l4.toInt → l4.toInt ≤ 6 → 0 ≤ th_.toInt → th_.toInt ≤ 2 → Sf (k_49 l2 l3 l4 th_) (fun (z : Int32 × Int32) => 0 ≤ z.1.toInt ∧ z.1.toInt ≤ 1 ∧ 0 ≤ z.2.toInt ∧ z.2.toInt ≤ 2 ∧ True)) {k_59 : Int32 → Int32 → Int32 → Int32 → Int32 → Option (Int32 × Int32)} {m_59 : Nat} (hk_59 : ∀ (l2 : Int32) (l3 : Int32) (l4 : Int32) (l5 : Int32) (th_ : Int32), (21 - l5.toInt).toNat < m_59 → 0 ≤ p0.toInt → p0.toInt ≤ 2 → 0 ≤ l2.toInt → l2.toInt ≤ 1 → 0 ≤ l4.toInt → l4.toInt ≤ 5 → 1 ≤ l5.toInt → l5.toInt ≤ 21 → 0 ≤ th_.toInt → th_.toInt ≤ 2 → (6 - l4.toInt).toNat ≤ m_49 → Sf (k_59 l2 l3 l4 l5 th_) (fun (z : Int32 × Int32) => 0 ≤ z.1.toInt ∧ z.1.toInt ≤ 1 ∧ 0 ≤ z.2.toInt ∧ z.2.toInt ≤ 2 ∧ True)) {k_78 : Int32 → Int32 → Int32 → Int32 → Int32 → Int32 → (Nat → Int32) → Option (Int32 × Int32)} {m_78 : Nat} (hk_78 : ∀ (l2 : Int32) (l3 : Int32) (l4 : Int32) (l5 : Int32) (l7 : Int32) (th_ : Int32) (e_v0 : (Nat → Int32)), (21 - l7.toInt).toNat < m_78 → 0 ≤ p0.toInt → p0.toInt ≤ 2 → 0 ≤ l2.toInt → l2.toInt ≤ 1 → 0 ≤ l4.toInt → l4.toInt ≤ 5 → 1 ≤ l5.toInt → l5.toInt ≤ 20 → 1 ≤ l7.toInt → l7.toInt ≤ 21 → 0 ≤ th_.toInt → th_.toInt ≤ 2 → (6 - l4.toInt).toNat ≤ m_49 → (21 - l5.toInt).toNat ≤ m_59 → Sf (k_78 l2 l3 l4 l5 l7 th_ e_v0) (fun (z : Int32 × Int32) => 0 ≤ z.1.toInt ∧ z.1.toInt ≤ 1 ∧ 0 ≤ z.2.toInt ∧ z.2.toInt ≤ 2 ∧ True)) : ∀ (l3 : Int32) (l4 : Int32) (l5 : Int32) (l7 : Int32) (s0 : Int32) (th_ : Int32) (e_v0 : Nat → Int32), 0 ≤ p0.toInt → p0.toInt ≤ 2 → 0 ≤ l4.toInt → l4.toInt ≤ 5 → 1 ≤ l5.toInt → l5.toInt ≤ 20 → 1 ≤ l7.toInt → l7.toInt ≤ 20 → 0 ≤ s0.toInt → s0.toInt ≤ 1 → 0 ≤ th_.toInt → th_.toInt ≤ 2 → (s0.toInt = 0 → 0 ≤ p0.toInt ∧ p0.toInt ≤ 2) → (6 - l4.toInt).toNat ≤ m_49 → (21 - l5.toInt).toNat ≤ m_59 → (21 - l7.toInt).toNat ≤ m_78 → Sf (fX7_isSound_136 N K th f t p0 k_49 k_59 k_78 l3 l4 l5 l7 s0 th_ e_v0) (fun (z : Int32 × Int32) => 0 ≤ z.1.toInt ∧ z.1.toInt ≤ 1 ∧ 0 ≤ z.2.toInt ∧ z.2.toInt ≤ 2 ∧ True) := by
  intro l3 l4 l5 l7 s0 th_ e_v0 hq0 hq1 hq2 hq3 hq4 hq5 hq6 hq7 hq8 hq9 hq10 hq11 hq12 hq13 hq14 hq15
  unfold fX7_isSound_136
  have ql0 : (0 : Int32).toInt = 0 := by decide
  have ql1 : (1 : Int32).toInt = 1 := by decide
  exact s_X7_isSound_141 (hk_49 := hk_49) (hk_59 := hk_59) (hk_78 := hk_78) hN hK _ _ _ _ _ _ _ _ (by first | omega | decide) (by first | omega | decide) (by first | omega | decide) (by first | omega | decide) (by first | omega | decide) (by first | omega | decide) (by first | omega | decide) (by first | omega | decide) (by first | omega | decide) (by first | omega | decide) (by first | omega | decide) (by first | omega | decide) (by first | omega | decide) (by first | omega | decide) (by first | omega | decide) (by first | omega | decide) (by omega) (by omega) (by omega)
set_option maxHeartbeats 2000000 in
theorem s_X7_isSound_109 {N K : Nat} {th : Int32} {f : Nat → Int32} {t : Nat → Int32} {p0 : Int32} (hN : NBig N) (hK : 100 ≤ K)  {k_49 : Int32 → Int32 → Int32 → Int32 → Option (Int32 × Int32)} {m_49 : Nat} (hk_49 : ∀ (l2 : Int32) (l3 : Int32) (l4 : Int32) (th_ : Int32), (6 - l4.toInt).toNat < m_49 → 0 ≤ p0.toInt → p0.toInt ≤ 2 → 0 ≤ l2.toInt → l2.toInt ≤ 1 → 0 ≤ l4.toInt → l4.toInt ≤ 6 → 0 ≤ th_.toInt → th_.toInt ≤ 2 → Sf (k_49 l2 l3 l4 th_) (fun (z : Int32 × Int32) => 0 ≤ z.1.toInt ∧ z.1.toInt ≤ 1 ∧ 0 ≤ z.2.toInt ∧ z.2.toInt ≤ 2 ∧ True)) {k_59 : Int32 → Int32 → Int32 → Int32 → Int32 → Option (Int32 × Int32)} {m_59 : Nat} (hk_59 : ∀ (l2 : Int32) (l3 : Int32) (l4 : Int32) (l5 : Int32) (th_ : Int32), (21 - l5.toInt).toNat < m_59 → 0 ≤ p0.toInt → p0.toInt ≤ 2 → 0 ≤ l2.toInt → l2.toInt ≤ 1 → 0 ≤ l4.toInt → l4.toInt ≤ 5 → 1 ≤ l5.toInt → l5.toInt ≤ 21 → 0 ≤ th_.toInt → th_.toInt ≤ 2 → (6 - l4.toInt).toNat ≤ m_49 → Sf (k_59 l2 l3 l4 l5 th_) (fun (z : Int32 × Int32) => 0 ≤ z.1.toInt ∧ z.1.toInt ≤ 1 ∧ 0 ≤ z.2.toInt ∧ z.2.toInt ≤ 2 ∧ True)) {k_78 : Int32 → Int32 → Int32 → Int32 → Int32 → Int32 → (Nat → Int32) → Option (Int32 × Int32)} {m_78 : Nat} (hk_78 : ∀ (l2 : Int32) (l3 : Int32) (l4 : Int32) (l5 : Int32) (l7 : Int32) (th_ : Int32) (e_v0 : (Nat → Int32)), (21 - l7.toInt).toNat < m_78 → 0 ≤ p0.toInt → p0.toInt ≤ 2 → 0 ≤ l2.toInt → l2.toInt ≤ 1 → 0 ≤ l4.toInt → l4.toInt ≤ 5 → 1 ≤ l5.toInt → l5.toInt ≤ 20 → 1 ≤ l7.toInt → l7.toInt ≤ 21 → 0 ≤ th_.toInt → th_.toInt ≤ 2 → (6 - l4.toInt).toNat ≤ m_49 → (21 - l5.toInt).toNat ≤ m_59 → Sf (k_78 l2 l3 l4 l5 l7 th_ e_v0) (fun (z : Int32 × Int32) => 0 ≤ z.1.toInt ∧ z.1.toInt ≤ 1 ∧ 0 ≤ z.2.toInt ∧ z.2.toInt ≤ 2 ∧ True)) : ∀ (l2 : Int32) (l4 : Int32) (l5 : Int32) (l7 : Int32) (l8 : Int32) (s0 : Int32) (s1 : Int32) (th_ : Int32) (e_v0 : Nat → Int32), 0 ≤ p0.toInt → p0.toInt ≤ 2 → 0 ≤ l2.toInt → l2.toInt ≤ 1 → 0 ≤ l4.toInt → l4.toInt ≤ 5 → 1 ≤ l5.toInt → l5.toInt ≤ 20 → 1 ≤ l7.toInt → l7.toInt ≤ 20 → 0 ≤ s0.toInt → s0.toInt ≤ 1 → 0 ≤ th_.toInt → th_.toInt ≤ 2 → (s0.toInt = 0 → 0 ≤ p0.toInt ∧ p0.toInt ≤ 2) → (s1.toInt = 0 → 0 ≤ p0.toInt ∧ p0.toInt ≤ 2) → (6 - l4.toInt).toNat ≤ m_49 → (21 - l5.toInt).toNat ≤ m_59 → (21 - l7.toInt).toNat ≤ m_78 → Sf (fX7_isSound_109 N K th f t p0 k_49 k_59 k_78 l2 l4 l5 l7 l8 s0 s1 th_ e_v0) (fun (z : Int32 × Int32) => 0 ≤ z.1.toInt ∧ z.1.toInt ≤ 1 ∧ 0 ≤ z.2.toInt ∧ z.2.toInt ≤ 2 ∧ True) := by
  intro l2 l4 l5 l7 l8 s0 s1 th_ e_v0 hq0 hq1 hq2 hq3 hq4 hq5 hq6 hq7 hq8 hq9 hq10 hq11 hq12 hq13 hq14 hq15 hq16 hq17 hq18
  unfold fX7_isSound_109
  have ql0 : (0 : Int32).toInt = 0 := by decide
  refine sBind (s_X7_bit hN hK (by first | omega | decide) (by first | omega | decide)) (fun x109 b1 => ?_)
  obtain ⟨b1_0, b1_1, -⟩ := b1
  replace b1_0 : 0 ≤ x109.toInt := b1_0
  replace b1_1 : x109.toInt ≤ 1 := b1_1
  refine sIf (fun h2 => ?_) (fun h2 => ?_)
  · have fh2 := ltT h2
    exact s_X7_isSound_136 (hk_49 := hk_49) (hk_59 := hk_59) (hk_78 := hk_78) hN hK _ _ _ _ _ _ _ (by first | omega | decide) (by first | omega | decide) (by first | omega | decide) (by first | omega | decide) (by first | omega | decide) (by first | omega | decide) (by first | omega | decide) (by first | omega | decide) (by first | omega | decide) (by first | omega | decide) (by first | omega | decide) (by first | omega | decide) (by first | omega | decide) (by omega) (by omega) (by omega)
  · have fh2 := ltF h2
    refine sBind (s_X7_told hN hK (by first | omega | decide) (by first | omega | decide) (by first | omega | decide) (by first | omega | decide) (by first | omega | decide) (by first | omega | decide)) (fun x130 b4 => ?_)
    refine sIf (fun h5 => ?_) (fun h5 => ?_)
    · have fh5 := eqT h5
      exact s_X7_isSound_136 (hk_49 := hk_49) (hk_59 := hk_59) (hk_78 := hk_78) hN hK _ _ _ _ _ _ _ (by first | omega | decide) (by first | omega | decide) (by first | omega | decide) (by first | omega | decide) (by first | omega | decide) (by first | omega | decide) (by first | omega | decide) (by first | omega | decide) (by first | omega | decide) (by first | omega | decide) (by first | omega | decide) (by first | omega | decide) (by first | omega | decide) (by omega) (by omega) (by omega)
    · have fh5 := eqF h5
      exact s_X7_isSound_141 (hk_49 := hk_49) (hk_59 := hk_59) (hk_78 := hk_78) hN hK _ _ _ _ _ _ _ _ (by first | omega | decide) (by first | omega | decide) (by first | omega | decide) (by first | omega | decide) (by first | omega | decide) (by first | omega | decide) (by first | omega | decide) (by first | omega | decide) (by first | omega | decide) (by first | omega | decide) (by first | omega | decide) (by first | omega | decide) (by first | omega | decide) (by first | omega | decide) (by first | omega | decide) (by first | omega | decide) (by omega) (by omega) (by omega)
set_option maxHeartbeats 2000000 in
theorem s_X7_isSound_78 {N K : Nat} {th : Int32} {f : Nat → Int32} {t : Nat → Int32} {p0 : Int32} (hN : NBig N) (hK : 100 ≤ K)  {k_49 : Int32 → Int32 → Int32 → Int32 → Option (Int32 × Int32)} {m_49 : Nat} (hk_49 : ∀ (l2 : Int32) (l3 : Int32) (l4 : Int32) (th_ : Int32), (6 - l4.toInt).toNat < m_49 → 0 ≤ p0.toInt → p0.toInt ≤ 2 → 0 ≤ l2.toInt → l2.toInt ≤ 1 → 0 ≤ l4.toInt → l4.toInt ≤ 6 → 0 ≤ th_.toInt → th_.toInt ≤ 2 → Sf (k_49 l2 l3 l4 th_) (fun (z : Int32 × Int32) => 0 ≤ z.1.toInt ∧ z.1.toInt ≤ 1 ∧ 0 ≤ z.2.toInt ∧ z.2.toInt ≤ 2 ∧ True)) {k_59 : Int32 → Int32 → Int32 → Int32 → Int32 → Option (Int32 × Int32)} {m_59 : Nat} (hk_59 : ∀ (l2 : Int32) (l3 : Int32) (l4 : Int32) (l5 : Int32) (th_ : Int32), (21 - l5.toInt).toNat < m_59 → 0 ≤ p0.toInt → p0.toInt ≤ 2 → 0 ≤ l2.toInt → l2.toInt ≤ 1 → 0 ≤ l4.toInt → l4.toInt ≤ 5 → 1 ≤ l5.toInt → l5.toInt ≤ 21 → 0 ≤ th_.toInt → th_.toInt ≤ 2 → (6 - l4.toInt).toNat ≤ m_49 → Sf (k_59 l2 l3 l4 l5 th_) (fun (z : Int32 × Int32) => 0 ≤ z.1.toInt ∧ z.1.toInt ≤ 1 ∧ 0 ≤ z.2.toInt ∧ z.2.toInt ≤ 2 ∧ True)) : ∀ (fu : Nat) (l2 : Int32) (l3 : Int32) (l4 : Int32) (l5 : Int32) (l7 : Int32) (th_ : Int32) (e_v0 : (Nat → Int32)), (21 - l7.toInt).toNat < fu → 0 ≤ p0.toInt → p0.toInt ≤ 2 → 0 ≤ l2.toInt → l2.toInt ≤ 1 → 0 ≤ l4.toInt → l4.toInt ≤ 5 → 1 ≤ l5.toInt → l5.toInt ≤ 20 → 1 ≤ l7.toInt → l7.toInt ≤ 21 → 0 ≤ th_.toInt → th_.toInt ≤ 2 → (6 - l4.toInt).toNat ≤ m_49 → (21 - l5.toInt).toNat ≤ m_59 → Sf (fX7_isSound_78 N K th f t p0 k_49 k_59 fu l2 l3 l4 l5 l7 th_ e_v0) (fun (z : Int32 × Int32) => 0 ≤ z.1.toInt ∧ z.1.toInt ≤ 1 ∧ 0 ≤ z.2.toInt ∧ z.2.toInt ≤ 2 ∧ True) := by
  intro fu
  induction fu with
  | zero => intro l2 l3 l4 l5 l7 th_ e_v0 h0 hq0 hq1 hq2 hq3 hq4 hq5 hq6 hq7 hq8 hq9 hq10 hq11 hq12 hq13; omega
  | succ fu ih =>
    intro l2 l3 l4 l5 l7 th_ e_v0 h0 hq0 hq1 hq2 hq3 hq4 hq5 hq6 hq7 hq8 hq9 hq10 hq11 hq12 hq13
    unfold fX7_isSound_78
    have ql0 : (0 : Int32).toInt = 0 := by decide
    have ql1 : (1 : Int32).toInt = 1 := by decide
    have ql20 : (20 : Int32).toInt = 20 := by decide
    refine sIf (fun h1 => ?_) (fun h1 => ?_)
    · have fh1 := ltT h1
      have t2 := addI (a := l5) (b := (1 : Int32)) (by omega) (by omega)
      exact hk_59 _ _ _ _ _ (by omega) (by first | omega | decide) (by first | omega | decide) (by first | omega | decide) (by first | omega | decide) (by first | omega | decide) (by first | omega | decide) (by first | omega | decide) (by first | omega | decide) (by first | omega | decide) (by first | omega | decide) (by omega)
    · have fh1 := ltF h1
      refine sBind (s_X7_kept hN hK (by first | omega | decide) (by first | omega | decide) (by first | omega | decide) (by first | omega | decide) (by first | omega | decide) (by first | omega | decide) (by first | omega | decide) (by first | omega | decide) (by first | omega | decide) (by first | omega | decide)) (fun x93 b3 => ?_)
      refine sIf (fun h4 => ?_) (fun h4 => ?_)
      · have fh4 := ltT h4
        exact s_X7_isSound_109 (hk_49 := hk_49) (hk_59 := hk_59) (hk_78 := ih) hN hK _ _ _ _ _ _ _ _ _ (by first | omega | decide) (by first | omega | decide) (by first | omega | decide) (by first | omega | decide) (by first | omega | decide) (by first | omega | decide) (by first | omega | decide) (by first | omega | decide) (by first | omega | decide) (by first | omega | decide) (by first | omega | decide) (by first | omega | decide) (by first | omega | decide) (by first | omega | decide) (by first | omega | decide) (by first | omega | decide) (by omega) (by omega) (by omega)
      · have fh4 := ltF h4
        exact s_X7_isSound_109 (hk_49 := hk_49) (hk_59 := hk_59) (hk_78 := ih) hN hK _ _ _ _ _ _ _ _ _ (by first | omega | decide) (by first | omega | decide) (by first | omega | decide) (by first | omega | decide) (by first | omega | decide) (by first | omega | decide) (by first | omega | decide) (by first | omega | decide) (by first | omega | decide) (by first | omega | decide) (by first | omega | decide) (by first | omega | decide) (by first | omega | decide) (by first | omega | decide) (by first | omega | decide) (by first | omega | decide) (by omega) (by omega) (by omega)
set_option maxHeartbeats 2000000 in
theorem s_X7_isSound_59 {N K : Nat} {th : Int32} {f : Nat → Int32} {t : Nat → Int32} {p0 : Int32} (hN : NBig N) (hK : 100 ≤ K)  {k_49 : Int32 → Int32 → Int32 → Int32 → Option (Int32 × Int32)} {m_49 : Nat} (hk_49 : ∀ (l2 : Int32) (l3 : Int32) (l4 : Int32) (th_ : Int32), (6 - l4.toInt).toNat < m_49 → 0 ≤ p0.toInt → p0.toInt ≤ 2 → 0 ≤ l2.toInt → l2.toInt ≤ 1 → 0 ≤ l4.toInt → l4.toInt ≤ 6 → 0 ≤ th_.toInt → th_.toInt ≤ 2 → Sf (k_49 l2 l3 l4 th_) (fun (z : Int32 × Int32) => 0 ≤ z.1.toInt ∧ z.1.toInt ≤ 1 ∧ 0 ≤ z.2.toInt ∧ z.2.toInt ≤ 2 ∧ True)) : ∀ (fu : Nat) (l2 : Int32) (l3 : Int32) (l4 : Int32) (l5 : Int32) (th_ : Int32), (21 - l5.toInt).toNat < fu → 0 ≤ p0.toInt → p0.toInt ≤ 2 → 0 ≤ l2.toInt → l2.toInt ≤ 1 → 0 ≤ l4.toInt → l4.toInt ≤ 5 → 1 ≤ l5.toInt → l5.toInt ≤ 21 → 0 ≤ th_.toInt → th_.toInt ≤ 2 → (6 - l4.toInt).toNat ≤ m_49 → Sf (fX7_isSound_59 N K th f t p0 k_49 fu l2 l3 l4 l5 th_) (fun (z : Int32 × Int32) => 0 ≤ z.1.toInt ∧ z.1.toInt ≤ 1 ∧ 0 ≤ z.2.toInt ∧ z.2.toInt ≤ 2 ∧ True) := by
  intro fu
  induction fu with
  | zero => intro l2 l3 l4 l5 th_ h0 hq0 hq1 hq2 hq3 hq4 hq5 hq6 hq7 hq8 hq9 hq10; omega
  | succ fu ih =>
    intro l2 l3 l4 l5 th_ h0 hq0 hq1 hq2 hq3 hq4 hq5 hq6 hq7 hq8 hq9 hq10
    unfold fX7_isSound_59
    have hN9 := hN.u
    have ql0 : (0 : Int32).toInt = 0 := by decide
    have ql1 : (1 : Int32).toInt = 1 := by decide
    have ql20 : (20 : Int32).toInt = 20 := by decide
    refine sIf (fun h1 => ?_) (fun h1 => ?_)
    · have fh1 := ltT h1
      have t2 := addI (a := l4) (b := (1 : Int32)) (by omega) (by omega)
      exact hk_49 _ _ _ _ (by omega) (by first | omega | decide) (by first | omega | decide) (by first | omega | decide) (by first | omega | decide) (by first | omega | decide) (by first | omega | decide) (by first | omega | decide) (by first | omega | decide)
    · have fh1 := ltF h1
      refine sBind (s_X7_row hN hK (by first | omega | decide) (by first | omega | decide) (by first | omega | decide) (by first | omega | decide)) (fun x70 b3 => ?_)
      exact s_X7_isSound_78 (hk_49 := hk_49) (hk_59 := ih) hN hK _ _ _ _ _ _ _ _ (by omega) (by first | omega | decide) (by first | omega | decide) (by first | omega | decide) (by first | omega | decide) (by first | omega | decide) (by first | omega | decide) (by first | omega | decide) (by first | omega | decide) (by first | omega | decide) (by first | omega | decide) (by first | omega | decide) (by first | omega | decide) (by omega) (by omega)
set_option maxHeartbeats 2000000 in
theorem s_X7_isSound_49 {N K : Nat} {th : Int32} {f : Nat → Int32} {t : Nat → Int32} {p0 : Int32} (hN : NBig N) (hK : 100 ≤ K)  : ∀ (fu : Nat) (l2 : Int32) (l3 : Int32) (l4 : Int32) (th_ : Int32), (6 - l4.toInt).toNat < fu → 0 ≤ p0.toInt → p0.toInt ≤ 2 → 0 ≤ l2.toInt → l2.toInt ≤ 1 → 0 ≤ l4.toInt → l4.toInt ≤ 6 → 0 ≤ th_.toInt → th_.toInt ≤ 2 → Sf (fX7_isSound_49 N K th f t p0  fu l2 l3 l4 th_) (fun (z : Int32 × Int32) => 0 ≤ z.1.toInt ∧ z.1.toInt ≤ 1 ∧ 0 ≤ z.2.toInt ∧ z.2.toInt ≤ 2 ∧ True) := by
  intro fu
  induction fu with
  | zero => intro l2 l3 l4 th_ h0 hq0 hq1 hq2 hq3 hq4 hq5 hq6 hq7; omega
  | succ fu ih =>
    intro l2 l3 l4 th_ h0 hq0 hq1 hq2 hq3 hq4 hq5 hq6 hq7
    unfold fX7_isSound_49
    have ql0 : (0 : Int32).toInt = 0 := by decide
    have ql1 : (1 : Int32).toInt = 1 := by decide
    have ql6 : (6 : Int32).toInt = 6 := by decide
    refine sIf (fun h1 => ?_) (fun h1 => ?_)
    · have fh1 := leT h1
      refine sIf (fun h2 => ?_) (fun h2 => ?_)
      · have fh2 := eqT h2
        exact sRet ⟨(by show 0 ≤ (0 : Int32).toInt; decide), (by show (0 : Int32).toInt ≤ 1; decide), (by show 0 ≤ th_.toInt; first | omega | assumption), (by show th_.toInt ≤ 2; first | omega | assumption), trivial⟩
      · have fh2 := eqF h2
        refine sBind (s_X7_told2 hN hK (by first | omega | decide) (by first | omega | decide) (by first | omega | decide) (by first | omega | decide) (by first | omega | decide) (by first | omega | decide)) (fun x169 b3 => ?_)
        refine sIf (fun h4 => ?_) (fun h4 => ?_)
        · have fh4 := eqT h4
          exact sRet ⟨(by show 0 ≤ (1 : Int32).toInt; decide), (by show (1 : Int32).toInt ≤ 1; decide), (by show 0 ≤ th_.toInt; first | omega | assumption), (by show th_.toInt ≤ 2; first | omega | assumption), trivial⟩
        · have fh4 := eqF h4
          exact sRet ⟨(by show 0 ≤ (0 : Int32).toInt; decide), (by show (0 : Int32).toInt ≤ 1; decide), (by show 0 ≤ th_.toInt; first | omega | assumption), (by show th_.toInt ≤ 2; first | omega | assumption), trivial⟩
    · have fh1 := leF h1
      exact s_X7_isSound_59 (hk_49 := ih) hN hK _ _ _ _ _ _ (by omega) (by first | omega | decide) (by first | omega | decide) (by first | omega | decide) (by first | omega | decide) (by first | omega | decide) (by first | omega | decide) (by first | omega | decide) (by first | omega | decide) (by first | omega | decide) (by first | omega | decide) (by omega)
set_option maxHeartbeats 2000000 in
theorem s_X7_isSound_43 {N K : Nat} {th : Int32} {f : Nat → Int32} {t : Nat → Int32} {p0 : Int32} (hN : NBig N) (hK : 100 ≤ K)  : ∀ (s0 : Int32) (th_ : Int32), 0 ≤ p0.toInt → p0.toInt ≤ 2 → 0 ≤ s0.toInt → s0.toInt ≤ 1 → 0 ≤ th_.toInt → th_.toInt ≤ 2 → (s0.toInt = 0 → 0 ≤ p0.toInt ∧ p0.toInt ≤ 2) → Sf (fX7_isSound_43 N K th f t p0  s0 th_) (fun (z : Int32 × Int32) => 0 ≤ z.1.toInt ∧ z.1.toInt ≤ 1 ∧ 0 ≤ z.2.toInt ∧ z.2.toInt ≤ 2 ∧ True) := by
  intro s0 th_ hq0 hq1 hq2 hq3 hq4 hq5 hq6
  unfold fX7_isSound_43
  have ql0 : (0 : Int32).toInt = 0 := by decide
  exact s_X7_isSound_49  hN hK _ _ _ _ _ (by omega) (by first | omega | decide) (by first | omega | decide) (by first | omega | decide) (by first | omega | decide) (by first | omega | decide) (by first | omega | decide) (by first | omega | decide) (by first | omega | decide)
set_option maxHeartbeats 2000000 in
theorem s_X7_isSound {N K : Nat} {th : Int32} {f : Nat → Int32} {t : Nat → Int32} {p0 : Int32} (hN : NBig N) (hK : 100 ≤ K)  : Sf (fX7_isSound N K th f t p0) (fun (z : Int32 × Int32) => 0 ≤ z.1.toInt ∧ z.1.toInt ≤ 1 ∧ 0 ≤ z.2.toInt ∧ z.2.toInt ≤ 2 ∧ True) := by
  unfold fX7_isSound
  have ql0 : (0 : Int32).toInt = 0 := by decide
  have ql1 : (1 : Int32).toInt = 1 := by decide
  have ql2 : (2 : Int32).toInt = 2 := by decide
  refine sBind (s_X7_isNo hN hK (by first | omega | decide) (by first | omega | decide) (by first | omega | decide) (by first | omega | decide)) (fun x4 b1 => ?_)
  obtain ⟨b1_0, b1_1, b1_2, -⟩ := b1
  replace b1_0 : 0 ≤ x4.toInt := b1_0
  replace b1_1 : x4.toInt ≤ 1 := b1_1
  replace b1_2 : (x4.toInt = 0 → ((0 : Int32).toInt ≤ p0.toInt ∧ p0.toInt ≤ (2 : Int32).toInt)) := b1_2
  refine sBind (s_X7_isThrown hN hK (by first | omega | decide) (by first | omega | decide) (by first | omega | decide) (by first | omega | decide)) (fun x8 b2 => ?_)
  obtain ⟨b2_0, b2_1, b2_2, b2_3, b2_4, b2_5, -⟩ := b2
  replace b2_0 : 0 ≤ x8.1.toInt := b2_0
  replace b2_1 : x8.1.toInt ≤ 1 := b2_1
  replace b2_2 : 0 ≤ x8.2.toInt := b2_2
  replace b2_3 : x8.2.toInt ≤ 2 := b2_3
  replace b2_4 : (x8.1.toInt = 0 → (0 ≤ x4.toInt ∧ x4.toInt ≤ 0)) := b2_4
  replace b2_5 : (x8.1.toInt = 0 → (0 ≤ (0 : Int32).toInt ∧ (0 : Int32).toInt ≤ 0)) := b2_5
  refine sIf (fun h3 => ?_) (fun h3 => ?_)
  · have fh3 := eqT h3
    refine sIf (fun h4 => ?_) (fun h4 => ?_)
    · have fh4 := eqT h4
      exact s_X7_isSound_43  hN hK _ _ (by first | omega | decide) (by first | omega | decide) (by first | omega | decide) (by first | omega | decide) (by first | omega | decide) (by first | omega | decide) (by first | omega | decide)
    · have fh4 := eqF h4
      exact s_X7_isSound_43  hN hK _ _ (by first | omega | decide) (by first | omega | decide) (by first | omega | decide) (by first | omega | decide) (by first | omega | decide) (by first | omega | decide) (by first | omega | decide)
  · have fh3 := eqF h3
    exact sRet ⟨(by show 0 ≤ (0 : Int32).toInt; decide), (by show (0 : Int32).toInt ≤ 1; decide), (by show 0 ≤ x8.2.toInt; first | omega | assumption), (by show x8.2.toInt ≤ 2; first | omega | assumption), trivial⟩
set_option maxHeartbeats 2000000 in
theorem s_X7_digest {N K : Nat} {th : Int32} {f0 : Nat → Int32} {f1 : Nat → Int32} {f2 : Nat → Int32} {g0 : Nat → Int32} {g1 : Nat → Int32} {g2 : Nat → Int32} {e0 : Nat → Int32} {e1 : Nat → Int32} {t : Nat → Int32} (hN : NBig N) (hK : 100 ≤ K) (hp0 : OkD e0) (hp1 : OkD e1) : Sf (fX7_digest N K th f0 f1 f2 g0 g1 g2 e0 e1 t) (fun (z : Int64 × Int32) => 0 ≤ z.2.toInt ∧ z.2.toInt ≤ 0 ∧ True) := by
  unfold fX7_digest
  have ql0 : (0 : Int32).toInt = 0 := by decide
  have ql1 : (1 : Int32).toInt = 1 := by decide
  have ql2 : (2 : Int32).toInt = 2 := by decide
  refine sBind (s_X7_told2 hN hK (by first | omega | decide) (by first | omega | decide) (by first | omega | decide) (by first | omega | decide) (by first | omega | decide) (by first | omega | decide)) (fun x27 b1 => ?_)
  refine sBind (s_X7_told2 hN hK (by first | omega | decide) (by first | omega | decide) (by first | omega | decide) (by first | omega | decide) (by first | omega | decide) (by first | omega | decide)) (fun x36 b2 => ?_)
  refine sBind (s_X7_told2 hN hK (by first | omega | decide) (by first | omega | decide) (by first | omega | decide) (by first | omega | decide) (by first | omega | decide) (by first | omega | decide)) (fun x27_1 b3 => ?_)
  refine sBind (s_X7_told2 hN hK (by first | omega | decide) (by first | omega | decide) (by first | omega | decide) (by first | omega | decide) (by first | omega | decide) (by first | omega | decide)) (fun x36_1 b4 => ?_)
  refine sBind (s_X7_told2 hN hK (by first | omega | decide) (by first | omega | decide) (by first | omega | decide) (by first | omega | decide) (by first | omega | decide) (by first | omega | decide)) (fun x27_2 b5 => ?_)
  refine sBind (s_X7_told2 hN hK (by first | omega | decide) (by first | omega | decide) (by first | omega | decide) (by first | omega | decide) (by first | omega | decide) (by first | omega | decide)) (fun x36_2 b6 => ?_)
  refine sBind (s_X7_ledgerTold hN hK (by first | omega | decide) (by first | omega | decide) (by first | omega | decide) (by first | omega | decide) (by first | omega | decide) (by first | omega | decide)) (fun x66 b7 => ?_)
  refine sBind (s_X7_ledgerTold hN hK (by first | omega | decide) (by first | omega | decide) (by first | omega | decide) (by first | omega | decide) (by first | omega | decide) (by first | omega | decide)) (fun x75 b8 => ?_)
  refine sBind (s_X7_ledgerTold hN hK (by first | omega | decide) (by first | omega | decide) (by first | omega | decide) (by first | omega | decide) (by first | omega | decide) (by first | omega | decide)) (fun x66_1 b9 => ?_)
  refine sBind (s_X7_ledgerTold hN hK (by first | omega | decide) (by first | omega | decide) (by first | omega | decide) (by first | omega | decide) (by first | omega | decide) (by first | omega | decide)) (fun x75_1 b10 => ?_)
  refine sBind (s_X7_ledgerTold hN hK (by first | omega | decide) (by first | omega | decide) (by first | omega | decide) (by first | omega | decide) (by first | omega | decide) (by first | omega | decide)) (fun x66_2 b11 => ?_)
  refine sBind (s_X7_ledgerTold hN hK (by first | omega | decide) (by first | omega | decide) (by first | omega | decide) (by first | omega | decide) (by first | omega | decide) (by first | omega | decide)) (fun x75_2 b12 => ?_)
  refine sIfF (noob (by omega) (by omega)) ?_
  refine sBind (s_X7_number hN hK (by first | assumption | exact OkD.z)) (fun x122 b13 => ?_)
  obtain ⟨b13_0, b13_1, -⟩ := b13
  replace b13_0 : 0 ≤ x122.toInt := b13_0
  replace b13_1 : x122.toInt ≤ 20 := b13_1
  refine sBind (s_X7_parts hN hK) (fun x130 b14 => ?_)
  refine sIfF (noob (by omega) (by omega)) ?_
  refine sBind (s_X7_number hN hK (by first | assumption | exact OkD.z)) (fun x122_1 b15 => ?_)
  obtain ⟨b15_0, b15_1, -⟩ := b15
  replace b15_0 : 0 ≤ x122_1.toInt := b15_0
  replace b15_1 : x122_1.toInt ≤ 20 := b15_1
  refine sBind (s_X7_parts hN hK) (fun x130_1 b16 => ?_)
  exact sRet ⟨(by show 0 ≤ (0 : Int32).toInt; decide), (by show (0 : Int32).toInt ≤ 0; decide), trivial⟩

end MG_50lsafe
section MG_50msafe
/-- what a builder's cells hold: so many bytes, room for at most 80 -/
def SBo (cnt : Int32) (n : Nat) (f : Nat → Int32) : Prop := 0 ≤ cnt.toInt ∧ cnt.toInt ≤ (n : Int) ∧ 16 ≤ n ∧ n ≤ 80 ∧ ∀ i, fits .byte (.int (f i)) = true
theorem fit_nar (x : Int32) : fits .byte (.int (vp_nar .byte x)) = true := fits_narrow_byte x
theorem fit_upd {f : Nat → Int32} {k : Nat} {x : Int32} (h : ∀ i, fits .byte (.int (f i)) = true) : ∀ i, fits .byte (.int (upd f k (vp_nar .byte x) i)) = true := by
  intro i
  unfold upd
  by_cases e : i = k
  · rw [if_pos e]; exact fit_nar x
  · rw [if_neg e]; exact h i
theorem sh0 : ((0 : Int32) &&& (31 : Int32)) = 0 := by decide
theorem j_cpy {f : Nat → Int32} {a b c : Nat} (h : ∀ i, fits .byte (.int (f i)) = true) : ∀ i, fits .byte (.int (va_cpy f (fun _ => 0) a b c i)) = true := by
  intro i
  unfold va_cpy
  by_cases e : b ≤ i ∧ i < b + c
  · rw [if_pos e]; exact h _
  · rw [if_neg e]; exact (by decide : fits .byte (.int 0) = true)
theorem j_ensure {N K n : Nat} {cnt p : Int32} {f : Nat → Int32} (h : SBo cnt n f) (h1 : 0 ≤ p.toInt) (h2 : p.toInt ≤ 40) : ∃ n' f', fJ_ensure N K cnt n f p = some (n', f') ∧ n ≤ n' ∧ n' ≤ 80 ∧ p.toInt ≤ (n' : Int) ∧ ∀ i, fits .byte (.int (f' i)) = true := by
  obtain ⟨a1, a2, a3, a4, a5⟩ := h
  have q0 : (0 : Int32).toInt = 0 := by decide
  have q2 : (2 : Int32).toInt = 2 := by decide
  have qM : (2147483639 : Int32).toInt = 2147483639 := by decide
  have qX : (2147483647 : Int32).toInt = 2147483647 := by decide
  have en : (Int32.ofNat n).toInt = (n : Int) := o_i (by omega)
  have es := subI (a := p) (b := Int32.ofNat n) (by omega) (by omega)
  have e2 := addI (a := Int32.ofNat n) (b := (2 : Int32)) (by omega) (by omega)
  unfold fJ_ensure
  rw [sh0, Int32.shiftRight_zero]
  by_cases hle : p.toInt ≤ (n : Int)
  · rw [if_pos (by rw [Int32.le_iff_toInt_le]; omega)]
    exact ⟨n, f, rfl, Nat.le_refl _, a4, hle, a5⟩
  · rw [if_neg (by rw [Int32.le_iff_toInt_le]; omega)]
    unfold fJ_newCapacity fJ_newLength
    rw [sh0, Int32.shiftLeft_zero, Int32.shiftLeft_zero]
    generalize hc : (if p - Int32.ofNat n < Int32.ofNat n + (2 : Int32) then Int32.ofNat n + (2 : Int32) else p - Int32.ofNat n) = c
    have hc2 : p.toInt - (n : Int) ≤ c.toInt ∧ c.toInt ≤ 41 := by
      by_cases e : p - Int32.ofNat n < Int32.ofNat n + (2 : Int32)
      · rw [if_pos e] at hc
        subst hc
        have := Int32.lt_iff_toInt_lt.mp e
        omega
      · rw [if_neg e] at hc
        subst hc
        omega
    have hc3 : (c.toInt ≤ (n : Int) + 2) ∨ c.toInt ≤ p.toInt - (n : Int) := by
      by_cases e : p - Int32.ofNat n < Int32.ofNat n + (2 : Int32)
      · rw [if_pos e] at hc
        subst hc
        omega
      · rw [if_neg e] at hc
        subst hc
        omega
    have ec := addI (a := Int32.ofNat n) (b := c) (by omega) (by omega)
    rw [if_neg (by rw [Int32.le_iff_toInt_le]; omega), if_neg (by rw [Int32.lt_iff_toInt_lt]; omega), Option.bind_some, if_neg (fun z => by have := congrArg Int32.toInt z; omega), Int32.shiftRight_zero, Option.bind_some, Int32.shiftLeft_zero]
    generalize hd : Int32.ofNat n + c = d at *
    have ecl : d.toNatClampNeg = d.toInt.toNat := rfl
    unfold fJ_copyOf
    rw [if_neg (fun z => by have := congrArg Int32.toInt z; omega), if_neg (by rw [Int32.lt_iff_toInt_lt]; omega), if_neg (show ¬ d < Int32.ofNat n from by rw [Int32.lt_iff_toInt_lt]; omega), if_neg, Option.bind_some]
    · exact ⟨_, _, rfl, by omega, by omega, by omega, j_cpy a5⟩
    · have ez : (0 : Int32).toNatClampNeg = 0 := by decide
      rw [o_c (by omega), ez]
      rintro (z | z | z | z | z | z)
      · exact absurd z (by decide)
      · exact absurd z (by decide)
      · have := Int32.lt_iff_toInt_lt.mp z; omega
      · omega
      · omega
      · exact z (fun i _ => a5 _)
theorem j_appendC {N K n : Nat} {cnt : Int32} {f : Nat → Int32} (h : SBo cnt n f) (h2 : cnt.toInt ≤ 39) : ∃ c' n' f', fJ_appendC N K cnt n f (43 : Int32) = some (c', n', f') ∧ c'.toInt = cnt.toInt + 1 ∧ SBo c' n' f' := by
  have q1 : (1 : Int32).toInt = 1 := by decide
  have h' := h
  obtain ⟨a1, a2, a3, a4, a5⟩ := h'
  have e1 := addI (a := cnt) (b := (1 : Int32)) (by omega) (by omega)
  obtain ⟨n', f', b1, b2, b3, b4, b5⟩ := j_ensure (N := N) (K := K) h (p := cnt + (1 : Int32)) (by omega) (by omega)
  have ecl : cnt.toNatClampNeg = cnt.toInt.toNat := rfl
  unfold fJ_appendC fJ_appendC5
  rw [b1, Option.bind_some]
  unfold fJ_isLatin1 fJ_canEncode
  rw [Option.bind_some, if_neg (by decide), if_neg (by decide), Option.bind_some, if_neg (by decide), if_neg (noob (by omega) (by omega)), Option.bind_some]
  exact ⟨cnt + (1 : Int32), n', _, rfl, by omega, by omega, by omega, by omega, by omega, fit_upd b5⟩
theorem j_size {N K : Nat} (hN : 100 ≤ N) {l : Nat} (h1 : 1 ≤ l) (h2 : l ≤ 20) : ∃ z, fJ_size N K (Int32.ofNat l) = some z ∧ 1 ≤ z.toInt ∧ z.toInt ≤ 2 ∧ (10 ≤ l → z.toInt = 2) ∧ (l < 10 → z.toInt = 1) := by
  have q0 : (0 : Int32).toInt = 0 := by decide
  have q10 : (10 : Int32).toInt = 10 := by decide
  have q1 : (1 : Int32).toInt = 1 := by decide
  have qm : (-10 : Int32).toInt = -10 := by decide
  have qh : ((10 : Int32) * (-10 : Int32)).toInt = -100 := by decide
  have el : (Int32.ofNat l).toInt = (l : Int) := o_i (by omega)
  have en := negI (a := Int32.ofNat l) (by omega)
  obtain ⟨M, rfl⟩ : ∃ M, N = M + 2 := ⟨N - 2, by omega⟩
  unfold fJ_size
  rw [if_neg (by rw [Int32.lt_iff_toInt_lt]; omega)]
  unfold fJ_size_16v
  rw [if_neg (by decide)]
  by_cases e : 10 ≤ l
  · rw [if_pos (by rw [Int32.le_iff_toInt_le]; omega)]
    unfold fJ_size_16v
    rw [if_neg (by decide), if_neg (by rw [Int32.le_iff_toInt_le]; omega)]
    exact ⟨_, rfl, by decide, by decide, fun _ => by decide, fun z => by omega⟩
  · rw [if_neg (by rw [Int32.le_iff_toInt_le]; omega)]
    exact ⟨_, rfl, by decide, by decide, fun z => by omega, fun _ => by decide⟩
theorem j_appendI {N K n : Nat} (hN : 100 ≤ N) {cnt : Int32} {f : Nat → Int32} (h : SBo cnt n f) {l : Nat} (h1 : 1 ≤ l) (h2 : l ≤ 20) (h3 : cnt.toInt ≤ 39) (h4 : 10 ≤ l → cnt.toInt ≤ 38) : ∃ c' n' f', fJ_appendI N K cnt n f (Int32.ofNat l) = some (c', n', f') ∧ (c'.toInt = cnt.toInt + 1 ∧ l < 10 ∨ c'.toInt = cnt.toInt + 2 ∧ 10 ≤ l) ∧ SBo c' n' f' := by
  have q0 : (0 : Int32).toInt = 0 := by decide
  have q9 : (-9 : Int32).toInt = -9 := by decide
  have q100 : (-100 : Int32).toInt = -100 := by decide
  obtain ⟨a1, a2, a3, a4, a5⟩ := id h
  obtain ⟨z, s1, s2, s3, s4, s5⟩ := j_size (N := N) (K := K) hN h1 h2
  have e1 := addI (a := cnt) (b := z) (by omega) (by omega)
  obtain ⟨n', f', b1, b2, b3, b4, b5⟩ := j_ensure (N := N) (K := K) h (p := cnt + z) (by omega) (by
    by_cases e : 10 ≤ l
    · have u1 := h4 e
      omega
    · have u2 := s5 (by omega)
      omega)
  have el : (Int32.ofNat l).toInt = (l : Int) := o_i (by omega)
  have en := negI (a := Int32.ofNat l) (by omega)
  have en2 := negI (a := -Int32.ofNat l) (by omega)
  unfold fJ_appendI fJ_appendI5
  rw [s1, Option.bind_some, b1, Option.bind_some]
  unfold fJ_isLatin1
  rw [Option.bind_some, if_neg (by decide)]
  clear s1 b1
  generalize hp : cnt + z = p at *
  have d1 : (p + (-1 : Int32)).toInt = p.toInt + (-1) := addL (by decide) (by omega) (by omega)
  unfold fJ_getChars
  rw [if_pos (by rw [Int32.le_iff_toInt_le]; omega)]
  obtain ⟨M, rfl⟩ : ∃ M, N = M + 1 := ⟨N - 1, by omega⟩
  unfold fJ_getChars_22
  dsimp only
  generalize hnl : -Int32.ofNat l = nl at en en2 ⊢
  generalize hnn : -nl = nn at en2 ⊢
  generalize hp1 : p + (-1 : Int32) = p1 at d1 ⊢
  rw [if_pos (by rw [Int32.lt_iff_toInt_lt]; omega), if_neg (noob (by omega) (by omega)), if_neg (noob (by omega) (by omega))]
  by_cases e : l < 10
  · have s6 := s5 e
    rw [if_pos (by rw [Int32.le_iff_toInt_le]; omega), Option.bind_some, Option.bind_some]
    exact ⟨p, n', _, rfl, Or.inl ⟨by omega, e⟩, by omega, by omega, by omega, by omega, fit_upd b5⟩
  · have s6 := s4 (by omega)
    have d2 : (p1 + (-1 : Int32)).toInt = p1.toInt + (-1) := addL (by decide) (by omega) (by omega)
    generalize hp2 : p1 + (-1 : Int32) = p2 at d2 ⊢
    rw [if_neg (by rw [Int32.le_iff_toInt_le]; omega), if_neg (noob (by omega) (by omega)), if_neg (noob (by omega) (by omega)), Option.bind_some, Option.bind_some]
    exact ⟨p, n', _, rfl, Or.inr ⟨by omega, by omega⟩, by omega, by omega, by omega, by omega, fit_upd (fit_upd b5)⟩
theorem j_toString {N K n : Nat} {cnt : Int32} {f : Nat → Int32} (h : SBo cnt n f) : fJ_toString N K cnt n f = some () := by
  obtain ⟨a1, a2, a3, a4, a5⟩ := h
  have q0 : (0 : Int32).toInt = 0 := by decide
  have ez : (0 : Int32).toNatClampNeg = 0 := by decide
  have en : (Int32.ofNat n).toInt = (n : Int) := o_i (by omega)
  unfold fJ_toString fJ_str1 fJ_str2 fJ_getValue fJ_length fJ_len fJ_isLatin1
  rw [Option.bind_some, Option.bind_some, Option.bind_some, Option.bind_some, if_neg (by decide)]
  unfold fJ_copyOfRange
  rw [if_pos rfl]
  by_cases e : cnt = Int32.ofNat n
  · rw [if_pos e, if_neg (by rintro (z | z); (· omega); exact z (fun i _ => a5 i))]
    rfl
  · rw [if_neg e]
    have e2 := subI (a := cnt) (b := (0 : Int32)) (by omega) (by omega)
    have e3 := subI (a := Int32.ofNat n) (b := (0 : Int32)) (by omega) (by omega)
    have e4 : cnt - 0 < Int32.ofNat n - 0 := by
      rw [Int32.lt_iff_toInt_lt]
      have : ¬ cnt.toInt = (n : Int) := fun z => e (Int32.toInt_inj.mp (z.trans en.symm))
      omega
    have ecl : (cnt - 0).toNatClampNeg = (cnt - 0).toInt.toNat := rfl
    unfold fJ_copyOfRangeByte fJ_checkLength
    rw [if_pos (by rw [Int32.le_iff_toInt_le]; omega), Option.bind_some, if_neg (by rintro (z | z); (· have := Int32.lt_iff_toInt_lt.mp z; omega); omega), if_pos e4, if_neg]
    · rfl
    · rw [ez]
      rintro (z | z | z | z | z | z)
      · exact absurd z (by decide)
      · exact absurd z (by decide)
      · have := Int32.lt_iff_toInt_lt.mp z; omega
      · omega
      · omega
      · exact z (fun i _ => a5 _)
theorem j_init {N K : Nat} : ∃ f, fJ_init4 N K = some (16, f) ∧ SBo 0 16 f := by
  refine ⟨fun _ => 0, ?_, by decide, by decide, by decide, by decide, fun _ => (by decide : fits .byte (.int 0) = true)⟩
  unfold fJ_init4 fJ_init5
  rw [if_neg (by decide)]
  rfl
theorem text_in {N K : Nat} {f0 : Nat → Int32} {k : Int32 → Int32 → Nat → (Nat → Int32) → Nat → Option Unit} {P : Unit → Prop} (hN : 100 ≤ N) {l rest rb : Nat} (h1 : 1 ≤ l) (h2 : l ≤ 20) (hk : ∀ (cnt : Int32) (n : Nat) (f : Nat → Int32) (bd : Nat), SBo cnt n f → cnt.toInt + 2 * (rest : Int) ≤ 40 → rb ≤ bd → Sf (k (Int32.ofNat (l - 1)) cnt n f bd) P) : ∀ (v fu : Nat) (cnt : Int32) (n : Nat) (f : Nat → Int32) (bd : Nat), v ≤ 20 → v < fu → SBo cnt n f → cnt.toInt + 2 * ((l * v + rest : Nat) : Int) ≤ 40 → v + 1 + rb ≤ bd → Sf (fX4_text_23 N K f0 k fu (Int32.ofNat l) (Int32.ofNat v) cnt n f bd) P := by
  intro v
  obtain ⟨l', rfl⟩ : ∃ l', l = l' + 1 := ⟨l - 1, by omega⟩
  induction v with
  | zero =>
    intro fu cnt n f bd _ hfu hs hc hb
    obtain ⟨fu, rfl⟩ : ∃ m, fu = m + 1 := ⟨fu - 1, by omega⟩
    unfold fX4_text_23
    rw [if_neg (by omega), if_pos (by decide), o_m1]
    exact hk cnt n f (bd - 1) hs (by omega) (by omega)
  | succ v ih =>
    intro fu cnt n f bd hv hfu hs hc hb
    obtain ⟨fu, rfl⟩ : ∃ m, fu = m + 1 := ⟨fu - 1, by omega⟩
    rw [Nat.mul_succ] at hc
    unfold fX4_text_23
    rw [if_neg (by omega), if_neg (o_0lt (by omega) (by omega))]
    unfold fJ_length fJ_len
    rw [Option.bind_some, Option.bind_some, o_m1]
    refine sIf (fun h => ?_) (fun h => ?_)
    · obtain ⟨c', n', f', a1, a2, a3⟩ := j_appendI (K := K) hN hs (l := l' + 1) (by omega) h2 (by omega) (fun _ => by omega)
      rw [a1, Option.bind_some]
      exact ih fu c' n' f' (bd - 1) (by omega) (by omega) a3 (by omega) (by omega)
    · have q0 : (0 : Int32).toInt = 0 := by decide
      have h0 : ¬ cnt.toInt ≤ 0 := fun z => h (by rw [Int32.le_iff_toInt_le]; omega)
      obtain ⟨c1, n1, f1, b1, b2, b3⟩ := j_appendC (N := N) (K := K) hs (by omega)
      rw [b1, Option.bind_some]
      obtain ⟨c', n', f', a1, a2, a3⟩ := j_appendI (K := K) hN b3 (l := l' + 1) (by omega) h2 (by omega) (fun _ => by omega)
      show Sf ((fJ_appendI N K c1 n1 f1 (Int32.ofNat (l' + 1))).bind _) P
      rw [a1, Option.bind_some]
      exact ih fu c' n' f' (bd - 1) (by omega) (by omega) a3 (by omega) (by omega)
theorem text_out {N K : Nat} {f0 : Nat → Int32} {w : Nat → Nat} (hN : 100 ≤ N) (hf : Dk f0 w) : ∀ (l fu : Nat) (cnt : Int32) (n : Nat) (f : Nat → Int32) (bd : Nat), l ≤ 20 → l < fu → SBo cnt n f → cnt.toInt + 2 * ((sm (fun p => p * w p) l : Nat) : Int) ≤ 40 → sm w l + l ≤ bd → Sf (fX4_text_11 N K f0 fu (Int32.ofNat l) cnt n f bd) (fun _ => True) := by
  intro l
  induction l with
  | zero =>
    intro fu cnt n f bd _ hfu hs hc hb
    obtain ⟨fu, rfl⟩ : ∃ m, fu = m + 1 := ⟨fu - 1, by omega⟩
    unfold fX4_text_11
    rw [if_pos (by decide), j_toString hs, Option.bind_some]
    exact sRet trivial
  | succ l ih =>
    intro fu cnt n f bd hl hfu hs hc hb
    obtain ⟨fu, rfl⟩ : ∃ m, fu = m + 1 := ⟨fu - 1, by omega⟩
    have hwl := wn_le1 (w := w) (p := l + 1) (by omega) hl
    have hwn := hf.1
    have d1 : sm (fun p => p * w p) (l + 1) = sm (fun p => p * w p) l + (l + 1) * w (l + 1) := rfl
    have d2 : sm w (l + 1) = sm w l + w (l + 1) := rfl
    unfold fX4_text_11
    rw [if_neg (o_1le (by omega) (by omega)), if_neg (o_ob (by omega) (by omega)), o_c (by omega), hf.2 _ (by omega) hl]
    exact text_in hN (l := l + 1) (rest := sm (fun p => p * w p) l) (rb := sm w l + l) (by omega) hl (fun cnt' n' f' bd' h1 h2 h3 => ih fu cnt' n' f' bd' (by omega) (by omega) h1 h2 h3) (w (l + 1)) N cnt n f bd (by omega) (by omega) hs (by rw [d1] at hc; omega) (by omega)
theorem s_X4_text {N K : Nat} {f : Nat → Int32} (hN : NBig N) (hK : 100 ≤ K) (hp0 : OkD f) : Sf (fX4_text N K f) (fun (z : Unit) => True) := by
  have hN9 := hN.u
  have q0 : (0 : Int32).toInt = 0 := by decide
  obtain ⟨w, hw⟩ := hp0
  obtain ⟨g, a, b⟩ := j_init (N := N) (K := K)
  have h1 := hw.1
  have h2 := wp_le (w := w)
  unfold fX4_text
  rw [a, Option.bind_some]
  exact text_out (by omega) hw 20 N 0 16 g 41 (Nat.le_refl _) (by omega) b (by show (0 : Int32).toInt + 2 * ((wn w : Nat) : Int) ≤ 40; omega) (by show wp w + 20 ≤ 41; omega)


end MG_50msafe
section MG_50nsafe
set_option maxHeartbeats 2000000 in
theorem s_X5_wayText {N K : Nat} {f : Nat → Int32} {p0 : Int32} (hN : NBig N) (hK : 100 ≤ K) (hp0 : OkD f) : Sf (fX5_wayText N K f p0) (xP true false (fun (z : Unit) => True)) := by
  unfold fX5_wayText
  have ql0 : (0 : Int32).toInt = 0 := by decide
  refine sXb (s_X5_deskAt hN hK) (by decide) (by decide) (fun x2 b1 => ?_)
  obtain ⟨b1_0, -⟩ := b1
  replace b1_0 : (0 ≤ p0.toInt ∧ p0.toInt ≤ 1) := b1_0
  refine sBind (s_X4_text hN hK (by first | assumption | exact OkD.z)) (fun x5 b2 => ?_)
  exact sXl trivial
theorem wtext_in {N K : Nat} {th p0 : Int32} {f0 : Nat → Int32} {k : Int32 → Int32 → Int32 → Nat → (Nat → Int32) → Nat → Option Int32} {P : Int32 → Prop} (hN : 100 ≤ N) {th1 : Int32} {l rest rb : Nat} (h1 : 1 ≤ l) (h2 : l ≤ 20) (hk : ∀ (cnt : Int32) (n : Nat) (f : Nat → Int32) (bd : Nat), SBo cnt n f → cnt.toInt + 2 * (rest : Int) ≤ 40 → rb ≤ bd → Sf (k (Int32.ofNat (l - 1)) th1 cnt n f bd) P) : ∀ (v fu : Nat) (cnt : Int32) (n : Nat) (f : Nat → Int32) (bd : Nat), v ≤ 20 → v < fu → SBo cnt n f → cnt.toInt + 2 * ((l * v + rest : Nat) : Int) ≤ 40 → v + 1 + rb ≤ bd → Sf (fX7_wayText_42 N K th f0 p0 k fu (Int32.ofNat l) (Int32.ofNat v) th1 cnt n f bd) P := by
  intro v
  obtain ⟨l', rfl⟩ : ∃ l', l = l' + 1 := ⟨l - 1, by omega⟩
  induction v with
  | zero =>
    intro fu cnt n f bd _ hfu hs hc hb
    obtain ⟨fu, rfl⟩ : ∃ m, fu = m + 1 := ⟨fu - 1, by omega⟩
    unfold fX7_wayText_42
    rw [if_neg (by omega), if_pos (by decide), o_m1]
    exact hk cnt n f (bd - 1) hs (by omega) (by omega)
  | succ v ih =>
    intro fu cnt n f bd hv hfu hs hc hb
    obtain ⟨fu, rfl⟩ : ∃ m, fu = m + 1 := ⟨fu - 1, by omega⟩
    rw [Nat.mul_succ] at hc
    unfold fX7_wayText_42
    rw [if_neg (by omega), if_neg (o_0lt (by omega) (by omega))]
    unfold fJ_length fJ_len
    rw [Option.bind_some, Option.bind_some, o_m1]
    refine sIf (fun h => ?_) (fun h => ?_)
    · obtain ⟨c', n', f', a1, a2, a3⟩ := j_appendI (K := K) hN hs (l := l' + 1) (by omega) h2 (by omega) (fun _ => by omega)
      rw [a1, Option.bind_some]
      exact ih fu c' n' f' (bd - 1) (by omega) (by omega) a3 (by omega) (by omega)
    · have q0 : (0 : Int32).toInt = 0 := by decide
      have h0 : ¬ cnt.toInt ≤ 0 := fun z => h (by rw [Int32.le_iff_toInt_le]; omega)
      obtain ⟨c1, n1, f1, b1, b2, b3⟩ := j_appendC (N := N) (K := K) hs (by omega)
      rw [b1, Option.bind_some]
      obtain ⟨c', n', f', a1, a2, a3⟩ := j_appendI (K := K) hN b3 (l := l' + 1) (by omega) h2 (by omega) (fun _ => by omega)
      show Sf ((fJ_appendI N K c1 n1 f1 (Int32.ofNat (l' + 1))).bind _) P
      rw [a1, Option.bind_some]
      exact ih fu c' n' f' (bd - 1) (by omega) (by omega) a3 (by omega) (by omega)
theorem wtext_out {N K : Nat} {th p0 th1 : Int32} {f0 : Nat → Int32} {w : Nat → Nat} (hN : 100 ≤ N) (hf : Dk f0 w) (hp : ¬ (p0 < 0 ∨ 2 ≤ p0.toNatClampNeg)) : ∀ (l fu : Nat) (cnt : Int32) (n : Nat) (f : Nat → Int32) (bd : Nat), l ≤ 20 → l < fu → SBo cnt n f → cnt.toInt + 2 * ((sm (fun p => p * w p) l : Nat) : Int) ≤ 40 → sm w l + l ≤ bd → Sf (fX7_wayText_28 N K th f0 p0 fu (Int32.ofNat l) th1 cnt n f bd) (fun z => z = th1) := by
  intro l
  induction l with
  | zero =>
    intro fu cnt n f bd _ hfu hs hc hb
    obtain ⟨fu, rfl⟩ : ∃ m, fu = m + 1 := ⟨fu - 1, by omega⟩
    unfold fX7_wayText_28
    rw [if_pos (by decide), j_toString hs, Option.bind_some]
    exact sRet rfl
  | succ l ih =>
    intro fu cnt n f bd hl hfu hs hc hb
    obtain ⟨fu, rfl⟩ : ∃ m, fu = m + 1 := ⟨fu - 1, by omega⟩
    have hwl := wn_le1 (w := w) (p := l + 1) (by omega) hl
    have hwn := hf.1
    have d1 : sm (fun p => p * w p) (l + 1) = sm (fun p => p * w p) l + (l + 1) * w (l + 1) := rfl
    have d2 : sm w (l + 1) = sm w l + w (l + 1) := rfl
    unfold fX7_wayText_28
    rw [if_neg (o_0lt (by omega) (by omega)), if_neg hp, if_neg (o_ob (by omega) (by omega)), o_c (by omega), hf.2 _ (by omega) hl]
    exact wtext_in hN (l := l + 1) (rest := sm (fun p => p * w p) l) (rb := sm w l + l) (by omega) hl (fun cnt' n' f' bd' h1 h2 h3 => ih fu cnt' n' f' bd' (by omega) (by omega) h1 h2 h3) (w (l + 1)) N cnt n f bd (by omega) (by omega) hs (by rw [d1] at hc; omega) (by omega)
theorem s_X7_wayText {N K : Nat} {th : Int32} {f : Nat → Int32} {p0 : Int32} (hN : NBig N) (hK : 100 ≤ K) (hp0 : OkD f) : Sf (fX7_wayText N K th f p0) (fun (z : Int32) => 0 ≤ z.toInt ∧ z.toInt ≤ 2 ∧ True) := by
  have hN9 := hN.u
  have q0 : (0 : Int32).toInt = 0 := by decide
  have q1 : (1 : Int32).toInt = 1 := by decide
  obtain ⟨w, hw⟩ := hp0
  obtain ⟨g, a, b⟩ := j_init (N := N) (K := K)
  have h1 := hw.1
  have h2 := wp_le (w := w)
  unfold fX7_wayText
  refine sBind (s_X7_isNo hN hK (by omega) (by omega) (by omega) (by omega)) (fun x4 y4 => ?_)
  obtain ⟨a1, a2, a3, -⟩ := y4
  refine sBind (s_X7_isThrown hN hK (by omega) (by omega) (by omega) (by omega)) (fun x8 y8 => ?_)
  obtain ⟨i1, i2, i3, i4, i5, i6, -⟩ := y8
  refine sIf (fun h => ?_) (fun _ => sRet ⟨i3, i4, trivial⟩)
  have h0 := congrArg Int32.toInt h
  rw [q0] at h0
  have u1 := a3 (by have := i5 h0; omega)
  rw [a, Option.bind_some]
  refine sMono (wtext_out (th := th) (by omega) hw (noob (by omega) (by omega)) 20 N 0 16 g 41 (Nat.le_refl _) (by omega) b (by show (0 : Int32).toInt + 2 * ((wn w : Nat) : Int) ≤ 40; omega) (by show wp w + 20 ≤ 41; omega)) (fun z hz => ?_)
  subst hz
  exact ⟨i3, i4, trivial⟩

set_option maxHeartbeats 2000000 in
theorem s_X6_init {N K : Nat} {nn : Int64} (hN : NBig N) (hK : 100 ≤ K)  : Sf (fX6_init N K nn) (fun (z : Unit) => True) := by
  unfold fX6_init
  have ql0 : (0 : Int32).toInt = 0 := by decide
  exact sRet trivial

end MG_50nsafe
section MG_50tstays
/-! ===== what stays ===== -/
def Fr {T : Type} (o : Option T) (P : T → Prop) : Prop := ∀ x, o = some x → P x
theorem fN {T : Type} {P : T → Prop} : Fr none P := fun x h => by cases h
theorem fR {T : Type} {P : T → Prop} {x : T} (h : P x) : Fr (some x) P := fun y e => by cases e; exact h
theorem fI {T : Type} {P : T → Prop} {C : Prop} {dc : Decidable C} {A B : Option T} (a : Fr A P) (b : Fr B P) : Fr (if C then A else B) P := by
  by_cases h : C
  · rw [if_pos h]; exact a
  · rw [if_neg h]; exact b
theorem fB {U T : Type} {P : T → Prop} {Q : U → Prop} {u : Option U} {k : U → Option T} (h : Fr u Q) (K : ∀ y, Q y → Fr (k y) P) : Fr (u.bind k) P := by
  intro x e
  cases hu : u with
  | none => rw [hu] at e; cases e
  | some y => rw [hu] at e; exact K y (h y hu) x e
theorem fB' {U T : Type} {P : T → Prop} {u : Option U} {k : U → Option T} (K : ∀ y, Fr (k y) P) : Fr (u.bind k) P := fB (Q := fun _ => True) (fun _ _ => trivial) (fun y _ => K y)
theorem upd5 {f : Nat → Int32} {k : Nat} {v z : Int32} (hk : ¬ (5 : Nat) = k) (h : f 5 = z) : upd f k v 5 = z := by
  unfold upd
  rw [if_neg hk]
  exact h
theorem Sf.fr {T : Type} {o : Option T} {P Q : T → Prop} (h : Sf o P) (g : Fr o Q) : Sf o (fun z => P z ∧ Q z) := by
  obtain ⟨x, e, p⟩ := h
  exact ⟨x, e, p, g x e⟩
set_option maxRecDepth 100000 in
theorem r_X7_done {N K : Nat} {th : Int32} {t : Nat → Int32} {p0 : Int32} : Fr (fX7_done N K th t p0) (fun (z : Int32 × (Nat → Int32)) => z.2 5 = t 5) := by
  unfold fX7_done
  exact (fR (upd5 (f := t) (k := (0 : Int32).toNatClampNeg) (v := ((t (0 : Int32).toNatClampNeg) + (1 : Int32))) (by decide) rfl))
set_option maxRecDepth 100000 in
theorem r_X7_refused {N K : Nat} {th : Int32} {t : Nat → Int32} : Fr (fX7_refused N K th t) (fun (z : Int32 × (Nat → Int32)) => z.2 5 = t 5) := by
  unfold fX7_refused
  exact (fR (upd5 (f := t) (k := (4 : Int32).toNatClampNeg) (v := ((t (4 : Int32).toNatClampNeg) + (1 : Int32))) (by decide) rfl))
set_option maxRecDepth 100000 in
theorem r_X7_known_315 {N K : Nat} {th : Int32} {f : Nat → Int32} {t : Nat → Int32} {u : Nat → Int32} {p0 : Int32} {p1 : Int32} {p2 : Int32} {p3 : Int32} {k_277 : Int32 → (Nat → Int32) → (Nat → Int32) → (Nat → Int32) → Option (Int32 × (Nat → Int32) × (Nat → Int32) × (Nat → Int32))} (hk_277 : ∀ (l5 : Int32) (f_ : (Nat → Int32)) (t_ : (Nat → Int32)) (u_ : (Nat → Int32)), t_ 5 = t 5 → Fr (k_277 l5 f_ t_ u_) (fun (z : Int32 × (Nat → Int32) × (Nat → Int32) × (Nat → Int32)) => z.2.2.1 5 = t 5)) : ∀ (l5 : Int32) (f_ : Nat → Int32) (t_ : Nat → Int32) (u_ : Nat → Int32), t_ 5 = t 5 → Fr (fX7_known_315 N K th f t u p0 p1 p2 p3 k_277 l5 f_ t_ u_) (fun (z : Int32 × (Nat → Int32) × (Nat → Int32) × (Nat → Int32)) => z.2.2.1 5 = t 5) := by
  intro l5 f_ t_ u_ ht
  unfold fX7_known_315
  exact (hk_277 _ _ _ _ ht)
set_option maxRecDepth 100000 in
theorem r_X7_known_277 {N K : Nat} {th : Int32} {f : Nat → Int32} {t : Nat → Int32} {u : Nat → Int32} {p0 : Int32} {p1 : Int32} {p2 : Int32} {p3 : Int32} : ∀ (fu : Nat) (l5 : Int32) (f_ : (Nat → Int32)) (t_ : (Nat → Int32)) (u_ : (Nat → Int32)), t_ 5 = t 5 → Fr (fX7_known_277 N K th f t u p0 p1 p2 p3  fu l5 f_ t_ u_) (fun (z : Int32 × (Nat → Int32) × (Nat → Int32) × (Nat → Int32)) => z.2.2.1 5 = t 5) := by
  intro fu
  induction fu with
  | zero => intros; exact fN
  | succ fu ih =>
    intro l5 f_ t_ u_ ht
    unfold fX7_known_277
    exact (fI (fB' (fun x327 => (fR ht))) (fI fN (fI (r_X7_known_315 ih _ _ _ _ ht) (fB' (fun x312 => (r_X7_known_315 ih _ _ _ _ ht))))))
set_option maxRecDepth 100000 in
theorem r_X7_known_268 {N K : Nat} {th : Int32} {f : Nat → Int32} {t : Nat → Int32} {u : Nat → Int32} {p0 : Int32} {p1 : Int32} {p2 : Int32} {p3 : Int32} {k_68 : Int32 → (Nat → Int32) → (Nat → Int32) → (Nat → Int32) → Option (Int32 × (Nat → Int32) × (Nat → Int32) × (Nat → Int32))} (hk_68 : ∀ (l5 : Int32) (f_ : (Nat → Int32)) (t_ : (Nat → Int32)) (u_ : (Nat → Int32)), t_ 5 = t 5 → Fr (k_68 l5 f_ t_ u_) (fun (z : Int32 × (Nat → Int32) × (Nat → Int32) × (Nat → Int32)) => z.2.2.1 5 = t 5)) : ∀ (l5 : Int32) (f_ : Nat → Int32) (t_ : Nat → Int32) (u_ : Nat → Int32), t_ 5 = t 5 → Fr (fX7_known_268 N K th f t u p0 p1 p2 p3 k_68 l5 f_ t_ u_) (fun (z : Int32 × (Nat → Int32) × (Nat → Int32) × (Nat → Int32)) => z.2.2.1 5 = t 5) := by
  intro l5 f_ t_ u_ ht
  unfold fX7_known_268
  exact (hk_68 _ _ _ _ ht)
set_option maxRecDepth 100000 in
theorem r_X7_known_262 {N K : Nat} {th : Int32} {f : Nat → Int32} {t : Nat → Int32} {u : Nat → Int32} {p0 : Int32} {p1 : Int32} {p2 : Int32} {p3 : Int32} {k_68 : Int32 → (Nat → Int32) → (Nat → Int32) → (Nat → Int32) → Option (Int32 × (Nat → Int32) × (Nat → Int32) × (Nat → Int32))} (hk_68 : ∀ (l5 : Int32) (f_ : (Nat → Int32)) (t_ : (Nat → Int32)) (u_ : (Nat → Int32)), t_ 5 = t 5 → Fr (k_68 l5 f_ t_ u_) (fun (z : Int32 × (Nat → Int32) × (Nat → Int32) × (Nat → Int32)) => z.2.2.1 5 = t 5)) {k_191 : Int32 → Int32 → Int32 → Int32 → Int32 → (Nat → Int32) → (Nat → Int32) → (Nat → Int32) → Option (Int32 × (Nat → Int32) × (Nat → Int32) × (Nat → Int32))} (hk_191 : ∀ (l5 : Int32) (l6 : Int32) (l7 : Int32) (l8 : Int32) (l9 : Int32) (f_ : (Nat → Int32)) (t_ : (Nat → Int32)) (u_ : (Nat → Int32)), t_ 5 = t 5 → Fr (k_191 l5 l6 l7 l8 l9 f_ t_ u_) (fun (z : Int32 × (Nat → Int32) × (Nat → Int32) × (Nat → Int32)) => z.2.2.1 5 = t 5)) : ∀ (l5 : Int32) (l6 : Int32) (l7 : Int32) (l8 : Int32) (l9 : Int32) (f_ : Nat → Int32) (t_ : Nat → Int32) (u_ : Nat → Int32), t_ 5 = t 5 → Fr (fX7_known_262 N K th f t u p0 p1 p2 p3 k_68 k_191 l5 l6 l7 l8 l9 f_ t_ u_) (fun (z : Int32 × (Nat → Int32) × (Nat → Int32) × (Nat → Int32)) => z.2.2.1 5 = t 5) := by
  intro l5 l6 l7 l8 l9 f_ t_ u_ ht
  unfold fX7_known_262
  exact (hk_191 _ _ _ _ _ _ _ _ ht)
set_option maxRecDepth 100000 in
theorem r_X7_known_191 {N K : Nat} {th : Int32} {f : Nat → Int32} {t : Nat → Int32} {u : Nat → Int32} {p0 : Int32} {p1 : Int32} {p2 : Int32} {p3 : Int32} {k_68 : Int32 → (Nat → Int32) → (Nat → Int32) → (Nat → Int32) → Option (Int32 × (Nat → Int32) × (Nat → Int32) × (Nat → Int32))} (hk_68 : ∀ (l5 : Int32) (f_ : (Nat → Int32)) (t_ : (Nat → Int32)) (u_ : (Nat → Int32)), t_ 5 = t 5 → Fr (k_68 l5 f_ t_ u_) (fun (z : Int32 × (Nat → Int32) × (Nat → Int32) × (Nat → Int32)) => z.2.2.1 5 = t 5)) : ∀ (fu : Nat) (l5 : Int32) (l6 : Int32) (l7 : Int32) (l8 : Int32) (l9 : Int32) (f_ : (Nat → Int32)) (t_ : (Nat → Int32)) (u_ : (Nat → Int32)), t_ 5 = t 5 → Fr (fX7_known_191 N K th f t u p0 p1 p2 p3 k_68 fu l5 l6 l7 l8 l9 f_ t_ u_) (fun (z : Int32 × (Nat → Int32) × (Nat → Int32) × (Nat → Int32)) => z.2.2.1 5 = t 5) := by
  intro fu
  induction fu with
  | zero => intros; exact fN
  | succ fu ih =>
    intro l5 l6 l7 l8 l9 f_ t_ u_ ht
    unfold fX7_known_191
    exact (fI (r_X7_known_268 hk_68 _ _ _ _ ht) (fI (fB' (fun x209 => (fB' (fun x219 => (fB' (fun x229 => (fI (r_X7_known_262 hk_68 ih _ _ _ _ _ _ _ _ ht) (fB' (fun x239 => (fI (fI fN (fI fN (r_X7_known_262 hk_68 ih _ _ _ _ _ _ _ _ ht))) (r_X7_known_262 hk_68 ih _ _ _ _ _ _ _ _ ht))))))))))) (r_X7_known_268 hk_68 _ _ _ _ ht)))
set_option maxRecDepth 100000 in
theorem r_X7_known_182 {N K : Nat} {th : Int32} {f : Nat → Int32} {t : Nat → Int32} {u : Nat → Int32} {p0 : Int32} {p1 : Int32} {p2 : Int32} {p3 : Int32} {k_68 : Int32 → (Nat → Int32) → (Nat → Int32) → (Nat → Int32) → Option (Int32 × (Nat → Int32) × (Nat → Int32) × (Nat → Int32))} (hk_68 : ∀ (l5 : Int32) (f_ : (Nat → Int32)) (t_ : (Nat → Int32)) (u_ : (Nat → Int32)), t_ 5 = t 5 → Fr (k_68 l5 f_ t_ u_) (fun (z : Int32 × (Nat → Int32) × (Nat → Int32) × (Nat → Int32)) => z.2.2.1 5 = t 5)) : ∀ (l5 : Int32) (l6 : Int32) (l7 : Int32) (l8 : Int32) (s0 : Int32) (s1 : Int32) (s2 : Int32) (s3 : Int32) (f_ : Nat → Int32) (t_ : Nat → Int32) (u_ : Nat → Int32), ¬ (5 : Nat) = s3.toNatClampNeg → t_ 5 = t 5 → Fr (fX7_known_182 N K th f t u p0 p1 p2 p3 k_68 l5 l6 l7 l8 s0 s1 s2 s3 f_ t_ u_) (fun (z : Int32 × (Nat → Int32) × (Nat → Int32) × (Nat → Int32)) => z.2.2.1 5 = t 5) := by
  intro l5 l6 l7 l8 s0 s1 s2 s3 f_ t_ u_ h5_s3 ht
  unfold fX7_known_182
  exact (fB' (fun x182 => (fI fN (r_X7_known_191 hk_68 N _ _ _ _ _ _ _ _ (upd5 (f := t_) (k := s3.toNatClampNeg) (v := (s2 + (s1 - x182))) h5_s3 ht)))))
set_option maxRecDepth 100000 in
theorem r_X7_known_153 {N K : Nat} {th : Int32} {f : Nat → Int32} {t : Nat → Int32} {u : Nat → Int32} {p0 : Int32} {p1 : Int32} {p2 : Int32} {p3 : Int32} {k_68 : Int32 → (Nat → Int32) → (Nat → Int32) → (Nat → Int32) → Option (Int32 × (Nat → Int32) × (Nat → Int32) × (Nat → Int32))} (hk_68 : ∀ (l5 : Int32) (f_ : (Nat → Int32)) (t_ : (Nat → Int32)) (u_ : (Nat → Int32)), t_ 5 = t 5 → Fr (k_68 l5 f_ t_ u_) (fun (z : Int32 × (Nat → Int32) × (Nat → Int32) × (Nat → Int32)) => z.2.2.1 5 = t 5)) : ∀ (l5 : Int32) (l6 : Int32) (l7 : Int32) (l8 : Int32) (s0 : Int32) (s1 : Int32) (s2 : Int32) (f_ : Nat → Int32) (t_ : Nat → Int32) (u_ : Nat → Int32), ¬ (5 : Nat) = s2.toNatClampNeg → t_ 5 = t 5 → Fr (fX7_known_153 N K th f t u p0 p1 p2 p3 k_68 l5 l6 l7 l8 s0 s1 s2 f_ t_ u_) (fun (z : Int32 × (Nat → Int32) × (Nat → Int32) × (Nat → Int32)) => z.2.2.1 5 = t 5) := by
  intro l5 l6 l7 l8 s0 s1 s2 f_ t_ u_ h5_s2 ht
  unfold fX7_known_153
  exact (fB' (fun x153 => (fI fN (fI fN (fI (r_X7_known_182 hk_68 _ _ _ _ _ _ _ _ _ _ _ (by decide) (upd5 (f := t_) (k := s2.toNatClampNeg) (v := (s1 + x153)) h5_s2 ht)) (r_X7_known_182 hk_68 _ _ _ _ _ _ _ _ _ _ _ (by decide) (upd5 (f := t_) (k := s2.toNatClampNeg) (v := (s1 + x153)) h5_s2 ht)))))))
set_option maxRecDepth 100000 in
theorem r_X7_known_118 {N K : Nat} {th : Int32} {f : Nat → Int32} {t : Nat → Int32} {u : Nat → Int32} {p0 : Int32} {p1 : Int32} {p2 : Int32} {p3 : Int32} {k_68 : Int32 → (Nat → Int32) → (Nat → Int32) → (Nat → Int32) → Option (Int32 × (Nat → Int32) × (Nat → Int32) × (Nat → Int32))} (hk_68 : ∀ (l5 : Int32) (f_ : (Nat → Int32)) (t_ : (Nat → Int32)) (u_ : (Nat → Int32)), t_ 5 = t 5 → Fr (k_68 l5 f_ t_ u_) (fun (z : Int32 × (Nat → Int32) × (Nat → Int32) × (Nat → Int32)) => z.2.2.1 5 = t 5)) : ∀ (l5 : Int32) (l6 : Int32) (l7 : Int32) (s0 : Int32) (f_ : Nat → Int32) (t_ : Nat → Int32) (u_ : Nat → Int32), t_ 5 = t 5 → Fr (fX7_known_118 N K th f t u p0 p1 p2 p3 k_68 l5 l6 l7 s0 f_ t_ u_) (fun (z : Int32 × (Nat → Int32) × (Nat → Int32) × (Nat → Int32)) => z.2.2.1 5 = t 5) := by
  intro l5 l6 l7 s0 f_ t_ u_ ht
  unfold fX7_known_118
  exact (fI fN (fI (r_X7_known_153 hk_68 _ _ _ _ _ _ _ _ _ _ (by decide) (upd5 (f := t_) (k := (1 : Int32).toNatClampNeg) (v := ((t_ (1 : Int32).toNatClampNeg) + (u_ l5.toNatClampNeg))) (by decide) ht)) (r_X7_known_153 hk_68 _ _ _ _ _ _ _ _ _ _ (by decide) (upd5 (f := t_) (k := (1 : Int32).toNatClampNeg) (v := ((t_ (1 : Int32).toNatClampNeg) + (u_ l5.toNatClampNeg))) (by decide) ht))))
set_option maxRecDepth 100000 in
theorem r_X7_known_68 {N K : Nat} {th : Int32} {f : Nat → Int32} {t : Nat → Int32} {u : Nat → Int32} {p0 : Int32} {p1 : Int32} {p2 : Int32} {p3 : Int32} : ∀ (fu : Nat) (l5 : Int32) (f_ : (Nat → Int32)) (t_ : (Nat → Int32)) (u_ : (Nat → Int32)), t_ 5 = t 5 → Fr (fX7_known_68 N K th f t u p0 p1 p2 p3  fu l5 f_ t_ u_) (fun (z : Int32 × (Nat → Int32) × (Nat → Int32) × (Nat → Int32)) => z.2.2.1 5 = t 5) := by
  intro fu
  induction fu with
  | zero => intros; exact fN
  | succ fu ih =>
    intro l5 f_ t_ u_ ht
    unfold fX7_known_68
    exact (fI (r_X7_known_277 N _ _ _ _ ht) (fI fN (fI (r_X7_known_268 ih _ _ _ _ ht) (fB' (fun x107 => (fI (r_X7_known_118 ih _ _ _ _ _ _ _ ht) (r_X7_known_118 ih _ _ _ _ _ _ _ ht)))))))
set_option maxRecDepth 100000 in
theorem r_X7_known_22 {N K : Nat} {th : Int32} {f : Nat → Int32} {t : Nat → Int32} {u : Nat → Int32} {p0 : Int32} {p1 : Int32} {p2 : Int32} {p3 : Int32} : ∀ (fu : Nat) (l5 : Int32) (f_ : (Nat → Int32)) (t_ : (Nat → Int32)) (u_ : (Nat → Int32)), t_ 5 = t 5 → Fr (fX7_known_22 N K th f t u p0 p1 p2 p3  fu l5 f_ t_ u_) (fun (z : Int32 × (Nat → Int32) × (Nat → Int32) × (Nat → Int32)) => z.2.2.1 5 = t 5) := by
  intro fu
  induction fu with
  | zero => intros; exact fN
  | succ fu ih =>
    intro l5 f_ t_ u_ ht
    unfold fX7_known_22
    exact (fI (fI fN (r_X7_known_68 N _ _ _ _ ht)) (fI fN (ih _ _ _ _ ht)))
set_option maxRecDepth 100000 in
theorem r_X7_known {N K : Nat} {th : Int32} {f : Nat → Int32} {t : Nat → Int32} {u : Nat → Int32} {p0 : Int32} {p1 : Int32} {p2 : Int32} {p3 : Int32} : Fr (fX7_known N K th f t u p0 p1 p2 p3) (fun (z : Int32 × (Nat → Int32) × (Nat → Int32) × (Nat → Int32)) => z.2.2.1 5 = t 5) := by
  unfold fX7_known
  exact (fB' (fun x3 => (fI (r_X7_known_22 N _ _ _ _ rfl) (fB' (fun x15 => (fR rfl))))))
set_option maxRecDepth 100000 in
theorem r_X7_know {N K : Nat} {th : Int32} {f : Nat → Int32} {t : Nat → Int32} {u : Nat → Int32} {p0 : Int32} {p1 : Int32} {p2 : Int32} {p3 : Int32} : Fr (fX7_know N K th f t u p0 p1 p2 p3) (fun (z : Int32 × Int32 × (Nat → Int32) × (Nat → Int32) × (Nat → Int32)) => z.2.2.2.1 5 = t 5) := by
  unfold fX7_know
  exact (fB' (fun x4 => (fB' (fun x11 => (fB' (fun x14 => (fI (fB r_X7_known (fun x29 hx29 => (fB r_X7_done (fun x32 hx32 => (fR (hx32.trans (hx29.trans rfl))))))) (fR rfl))))))))
set_option maxRecDepth 100000 in
theorem r_X7_few_46 {N K : Nat} {th : Int32} {f : Nat → Int32} {t : Nat → Int32} {u : Nat → Int32} {p0 : Int32} {p1 : Int32} {p2 : Int32} : ∀ (fu : Nat) (l4 : Int32) (l5 : Int32) (th_ : Int32) (f_ : (Nat → Int32)) (t_ : (Nat → Int32)) (u_ : (Nat → Int32)), t_ 5 = t 5 → Fr (fX7_few_46 N K th f t u p0 p1 p2  fu l4 l5 th_ f_ t_ u_) (fun (z : Int32 × Int32 × (Nat → Int32) × (Nat → Int32) × (Nat → Int32)) => z.2.2.2.1 5 = t 5) := by
  intro fu
  induction fu with
  | zero => intros; exact fN
  | succ fu ih =>
    intro l4 l5 th_ f_ t_ u_ ht
    unfold fX7_few_46
    exact (fI (fB r_X7_done (fun x75 hx75 => (fR (hx75.trans ht)))) (fB r_X7_known (fun x60 hx60 => (ih _ _ _ _ _ _ (hx60.trans ht)))))
set_option maxRecDepth 100000 in
theorem r_X7_few_32 {N K : Nat} {th : Int32} {f : Nat → Int32} {t : Nat → Int32} {u : Nat → Int32} {p0 : Int32} {p1 : Int32} {p2 : Int32} : ∀ (s0 : Int32) (s1 : Int32) (th_ : Int32) (f_ : Nat → Int32) (t_ : Nat → Int32) (u_ : Nat → Int32), t_ 5 = t 5 → Fr (fX7_few_32 N K th f t u p0 p1 p2  s0 s1 th_ f_ t_ u_) (fun (z : Int32 × Int32 × (Nat → Int32) × (Nat → Int32) × (Nat → Int32)) => z.2.2.2.1 5 = t 5) := by
  intro s0 s1 th_ f_ t_ u_ ht
  unfold fX7_few_32
  exact (fB' (fun x32 => (fI (r_X7_few_46 N _ _ _ _ _ _ ht) (fR ht))))
set_option maxRecDepth 100000 in
theorem r_X7_few_27 {N K : Nat} {th : Int32} {f : Nat → Int32} {t : Nat → Int32} {u : Nat → Int32} {p0 : Int32} {p1 : Int32} {p2 : Int32} : ∀ (s0 : Int32) (th_ : Int32) (f_ : Nat → Int32) (t_ : Nat → Int32) (u_ : Nat → Int32), t_ 5 = t 5 → Fr (fX7_few_27 N K th f t u p0 p1 p2  s0 th_ f_ t_ u_) (fun (z : Int32 × Int32 × (Nat → Int32) × (Nat → Int32) × (Nat → Int32)) => z.2.2.2.1 5 = t 5) := by
  intro s0 th_ f_ t_ u_ ht
  unfold fX7_few_27
  exact (r_X7_few_32 _ _ _ _ _ _ ht)
set_option maxRecDepth 100000 in
theorem r_X7_few {N K : Nat} {th : Int32} {f : Nat → Int32} {t : Nat → Int32} {u : Nat → Int32} {p0 : Int32} {p1 : Int32} {p2 : Int32} : Fr (fX7_few N K th f t u p0 p1 p2) (fun (z : Int32 × Int32 × (Nat → Int32) × (Nat → Int32) × (Nat → Int32)) => z.2.2.2.1 5 = t 5) := by
  unfold fX7_few
  exact (fB' (fun x4 => (fB' (fun x11 => (fI (fB' (fun x21 => (fI (r_X7_few_32 _ _ _ _ _ _ rfl) (r_X7_few_27 _ _ _ _ _ rfl)))) (r_X7_few_27 _ _ _ _ _ rfl))))))
set_option maxRecDepth 100000 in
theorem r_X7_surplus_46 {N K : Nat} {th : Int32} {f : Nat → Int32} {t : Nat → Int32} {u : Nat → Int32} {p0 : Int32} {p1 : Int32} {k_27 : Int32 → Int32 → Int32 → (Nat → Int32) → (Nat → Int32) → (Nat → Int32) → Option (Int32 × Int32 × (Nat → Int32) × (Nat → Int32) × (Nat → Int32))} (hk_27 : ∀ (l3 : Int32) (l4 : Int32) (th_ : Int32) (f_ : (Nat → Int32)) (t_ : (Nat → Int32)) (u_ : (Nat → Int32)), t_ 5 = t 5 → Fr (k_27 l3 l4 th_ f_ t_ u_) (fun (z : Int32 × Int32 × (Nat → Int32) × (Nat → Int32) × (Nat → Int32)) => z.2.2.2.1 5 = t 5)) : ∀ (l4 : Int32) (s0 : Int32) (s1 : Int32) (th_ : Int32) (f_ : Nat → Int32) (t_ : Nat → Int32) (u_ : Nat → Int32), t_ 5 = t 5 → Fr (fX7_surplus_46 N K th f t u p0 p1 k_27 l4 s0 s1 th_ f_ t_ u_) (fun (z : Int32 × Int32 × (Nat → Int32) × (Nat → Int32) × (Nat → Int32)) => z.2.2.2.1 5 = t 5) := by
  intro l4 s0 s1 th_ f_ t_ u_ ht
  unfold fX7_surplus_46
  exact (fB r_X7_known (fun x52 hx52 => (hk_27 _ _ _ _ _ _ (hx52.trans ht))))
set_option maxRecDepth 100000 in
theorem r_X7_surplus_27 {N K : Nat} {th : Int32} {f : Nat → Int32} {t : Nat → Int32} {u : Nat → Int32} {p0 : Int32} {p1 : Int32} : ∀ (fu : Nat) (l3 : Int32) (l4 : Int32) (th_ : Int32) (f_ : (Nat → Int32)) (t_ : (Nat → Int32)) (u_ : (Nat → Int32)), t_ 5 = t 5 → Fr (fX7_surplus_27 N K th f t u p0 p1  fu l3 l4 th_ f_ t_ u_) (fun (z : Int32 × Int32 × (Nat → Int32) × (Nat → Int32) × (Nat → Int32)) => z.2.2.2.1 5 = t 5) := by
  intro fu
  induction fu with
  | zero => intros; exact fN
  | succ fu ih =>
    intro l3 l4 th_ f_ t_ u_ ht
    unfold fX7_surplus_27
    exact (fI (fB r_X7_done (fun x66 hx66 => (fR (hx66.trans ht)))) (fI (r_X7_surplus_46 ih _ _ _ _ _ _ _ ht) (r_X7_surplus_46 ih _ _ _ _ _ _ _ ht)))
set_option maxRecDepth 100000 in
theorem r_X7_surplus {N K : Nat} {th : Int32} {f : Nat → Int32} {t : Nat → Int32} {u : Nat → Int32} {p0 : Int32} {p1 : Int32} : Fr (fX7_surplus N K th f t u p0 p1) (fun (z : Int32 × Int32 × (Nat → Int32) × (Nat → Int32) × (Nat → Int32)) => z.2.2.2.1 5 = t 5) := by
  unfold fX7_surplus
  exact (fB' (fun x4 => (fB' (fun x11 => (fB' (fun x14 => (fI (r_X7_surplus_27 N _ _ _ _ _ _ rfl) (fR rfl))))))))
set_option maxRecDepth 100000 in
theorem r_X7_place_69 {N K : Nat} {th : Int32} {f : Nat → Int32} {fd : Nat → Int32} {t : Nat → Int32} {u : Nat → Int32} {p0 : Int32} {p1 : Int32} {k_53 : Int32 → Int32 → Int32 → Int32 → Int32 → (Nat → Int32) → (Nat → Int32) → (Nat → Int32) → Option (Int32 × Int32 × (Nat → Int32) × (Nat → Int32) × (Nat → Int32))} (hk_53 : ∀ (l3 : Int32) (l4 : Int32) (l5 : Int32) (l6 : Int32) (th_ : Int32) (f_ : (Nat → Int32)) (t_ : (Nat → Int32)) (u_ : (Nat → Int32)), t_ 5 = t 5 → Fr (k_53 l3 l4 l5 l6 th_ f_ t_ u_) (fun (z : Int32 × Int32 × (Nat → Int32) × (Nat → Int32) × (Nat → Int32)) => z.2.2.2.1 5 = t 5)) : ∀ (fu : Nat) (l3 : Int32) (l4 : Int32) (l5 : Int32) (l6 : Int32) (l7 : Int32) (th_ : Int32) (f_ : (Nat → Int32)) (t_ : (Nat → Int32)) (u_ : (Nat → Int32)), t_ 5 = t 5 → Fr (fX7_place_69 N K th f fd t u p0 p1 k_53 fu l3 l4 l5 l6 l7 th_ f_ t_ u_) (fun (z : Int32 × Int32 × (Nat → Int32) × (Nat → Int32) × (Nat → Int32)) => z.2.2.2.1 5 = t 5) := by
  intro fu
  induction fu with
  | zero => intros; exact fN
  | succ fu ih =>
    intro l3 l4 l5 l6 l7 th_ f_ t_ u_ ht
    unfold fX7_place_69
    exact (fI (hk_53 _ _ _ _ _ _ _ _ ht) (fB r_X7_known (fun x82 hx82 => (fB r_X7_known (fun x96 hx96 => (ih _ _ _ _ _ _ _ _ _ (hx96.trans (hx82.trans ht))))))))
set_option maxRecDepth 100000 in
theorem r_X7_place_53 {N K : Nat} {th : Int32} {f : Nat → Int32} {fd : Nat → Int32} {t : Nat → Int32} {u : Nat → Int32} {p0 : Int32} {p1 : Int32} : ∀ (fu : Nat) (l3 : Int32) (l4 : Int32) (l5 : Int32) (l6 : Int32) (th_ : Int32) (f_ : (Nat → Int32)) (t_ : (Nat → Int32)) (u_ : (Nat → Int32)), t_ 5 = t 5 → Fr (fX7_place_53 N K th f fd t u p0 p1  fu l3 l4 l5 l6 th_ f_ t_ u_) (fun (z : Int32 × Int32 × (Nat → Int32) × (Nat → Int32) × (Nat → Int32)) => z.2.2.2.1 5 = t 5) := by
  intro fu
  induction fu with
  | zero => intros; exact fN
  | succ fu ih =>
    intro l3 l4 l5 l6 th_ f_ t_ u_ ht
    unfold fX7_place_53
    exact (fI (fB r_X7_done (fun x126 hx126 => (fR (hx126.trans ht)))) (fI fN (fI fN (r_X7_place_69 ih N _ _ _ _ _ _ _ _ _ ht))))
set_option maxRecDepth 100000 in
theorem r_X7_place_24 {N K : Nat} {th : Int32} {f : Nat → Int32} {fd : Nat → Int32} {t : Nat → Int32} {u : Nat → Int32} {p0 : Int32} {p1 : Int32} : ∀ (s0 : Int32) (th_ : Int32) (f_ : Nat → Int32) (t_ : Nat → Int32) (u_ : Nat → Int32), t_ 5 = t 5 → Fr (fX7_place_24 N K th f fd t u p0 p1  s0 th_ f_ t_ u_) (fun (z : Int32 × Int32 × (Nat → Int32) × (Nat → Int32) × (Nat → Int32)) => z.2.2.2.1 5 = t 5) := by
  intro s0 th_ f_ t_ u_ ht
  unfold fX7_place_24
  exact (fB' (fun x25 => (fI (fI fN (fB' (fun x39 => (r_X7_place_53 N _ _ _ _ _ _ _ _ ht)))) (fR ht))))
set_option maxRecDepth 100000 in
theorem r_X7_place_19 {N K : Nat} {th : Int32} {f : Nat → Int32} {fd : Nat → Int32} {t : Nat → Int32} {u : Nat → Int32} {p0 : Int32} {p1 : Int32} : ∀ (th_ : Int32) (f_ : Nat → Int32) (t_ : Nat → Int32) (u_ : Nat → Int32), t_ 5 = t 5 → Fr (fX7_place_19 N K th f fd t u p0 p1  th_ f_ t_ u_) (fun (z : Int32 × Int32 × (Nat → Int32) × (Nat → Int32) × (Nat → Int32)) => z.2.2.2.1 5 = t 5) := by
  intro th_ f_ t_ u_ ht
  unfold fX7_place_19
  exact (r_X7_place_24 _ _ _ _ _ ht)
set_option maxRecDepth 100000 in
theorem r_X7_place {N K : Nat} {th : Int32} {f : Nat → Int32} {fd : Nat → Int32} {t : Nat → Int32} {u : Nat → Int32} {p0 : Int32} {p1 : Int32} : Fr (fX7_place N K th f fd t u p0 p1) (fun (z : Int32 × Int32 × (Nat → Int32) × (Nat → Int32) × (Nat → Int32)) => z.2.2.2.1 5 = t 5) := by
  unfold fX7_place
  exact (fB' (fun x4 => (fI (fB' (fun x13 => (fI (r_X7_place_24 _ _ _ _ _ rfl) (r_X7_place_19 _ _ _ _ rfl)))) (r_X7_place_19 _ _ _ _ rfl))))
set_option maxRecDepth 100000 in
theorem r_X7_learn_81 {N K : Nat} {th : Int32} {f : Nat → Int32} {t : Nat → Int32} {p0 : Int32} {p1 : Int32} {p2 : Int32} {p3 : Int32} : ∀ (l5 : Int32) (th_ : Int32) (f_ : Nat → Int32) (t_ : Nat → Int32), t_ 5 = t 5 → Fr (fX7_learn_81 N K th f t p0 p1 p2 p3  l5 th_ f_ t_) (fun (z : Int32 × Int32 × (Nat → Int32) × (Nat → Int32)) => z.2.2.2 5 = t 5) := by
  intro l5 th_ f_ t_ ht
  unfold fX7_learn_81
  exact (fB' (fun x84 => (fB r_X7_done (fun x87 hx87 => (fR (hx87.trans ht))))))
set_option maxRecDepth 100000 in
theorem r_X7_learn_53 {N K : Nat} {th : Int32} {f : Nat → Int32} {t : Nat → Int32} {p0 : Int32} {p1 : Int32} {p2 : Int32} {p3 : Int32} : ∀ (s0 : Int32) (th_ : Int32) (f_ : Nat → Int32) (t_ : Nat → Int32), t_ 5 = t 5 → Fr (fX7_learn_53 N K th f t p0 p1 p2 p3  s0 th_ f_ t_) (fun (z : Int32 × Int32 × (Nat → Int32) × (Nat → Int32)) => z.2.2.2 5 = t 5) := by
  intro s0 th_ f_ t_ ht
  unfold fX7_learn_53
  exact (fI (r_X7_learn_81 _ _ _ _ ht) (fI fN (fB' (fun x70 => (fB' (fun x77 => (fI fN (r_X7_learn_81 _ _ _ _ ht))))))))
set_option maxRecDepth 100000 in
theorem r_X7_learn {N K : Nat} {th : Int32} {f : Nat → Int32} {t : Nat → Int32} {p0 : Int32} {p1 : Int32} {p2 : Int32} {p3 : Int32} : Fr (fX7_learn N K th f t p0 p1 p2 p3) (fun (z : Int32 × Int32 × (Nat → Int32) × (Nat → Int32)) => z.2.2.2 5 = t 5) := by
  unfold fX7_learn
  exact (fB' (fun x4 => (fB' (fun x11 => (fB' (fun x14 => (fI (fB' (fun x25 => (fI (fB' (fun x42 => (fI (r_X7_learn_53 _ _ _ _ rfl) (r_X7_learn_53 _ _ _ _ rfl)))) (fB r_X7_refused (fun x32 hx32 => (fR (hx32.trans rfl))))))) (fR rfl))))))))
set_option maxRecDepth 100000 in
theorem r_X7_relearn {N K : Nat} {th : Int32} {f : Nat → Int32} {t : Nat → Int32} {p0 : Int32} {p1 : Int32} {p2 : Int32} {p3 : Int32} : Fr (fX7_relearn N K th f t p0 p1 p2 p3) (fun (z : Int32 × Int32 × (Nat → Int32) × (Nat → Int32)) => z.2.2.2 5 = t 5) := by
  unfold fX7_relearn
  exact (fB' (fun x4 => (fB' (fun x11 => (fB' (fun x14 => (fI (fB' (fun x28 => (fI (fI fN (fB' (fun x49 => (fB' (fun x56 => (fI fN (fB' (fun x67 => (fB r_X7_done (fun x70 hx70 => (fR (hx70.trans rfl)))))))))))) (fB r_X7_refused (fun x35 hx35 => (fR (hx35.trans rfl))))))) (fR rfl))))))))
set_option maxRecDepth 100000 in
theorem r_X7_forget {N K : Nat} {th : Int32} {f : Nat → Int32} {t : Nat → Int32} {p0 : Int32} {p1 : Int32} {p2 : Int32} {p3 : Int32} : Fr (fX7_forget N K th f t p0 p1 p2 p3) (fun (z : Int32 × Int32 × (Nat → Int32) × (Nat → Int32)) => z.2.2.2 5 = t 5) := by
  unfold fX7_forget
  exact (fB' (fun x4 => (fB' (fun x11 => (fB' (fun x14 => (fI (fB' (fun x28 => (fI (fI fN (fB' (fun x53 => (fI fN (fB r_X7_done (fun x61 hx61 => (fR (hx61.trans rfl)))))))) (fB r_X7_refused (fun x39 hx39 => (fR (hx39.trans rfl))))))) (fR rfl))))))))
set_option maxRecDepth 100000 in
theorem r_X7_forgetIf_72 {N K : Nat} {th : Int32} {f : Nat → Int32} {t : Nat → Int32} {p0 : Int32} {p1 : Int32} {p2 : Int32} {p3 : Int32} {p4 : Int32} : ∀ (l7 : Int32) (th_ : Int32) (f_ : Nat → Int32) (t_ : Nat → Int32), t_ 5 = t 5 → Fr (fX7_forgetIf_72 N K th f t p0 p1 p2 p3 p4  l7 th_ f_ t_) (fun (z : Int32 × Int32 × (Nat → Int32) × (Nat → Int32)) => z.2.2.2 5 = t 5) := by
  intro l7 th_ f_ t_ ht
  unfold fX7_forgetIf_72
  exact (fB' (fun x75 => (fB r_X7_done (fun x78 hx78 => (fR (hx78.trans ht))))))
set_option maxRecDepth 100000 in
theorem r_X7_forgetIf_50 {N K : Nat} {th : Int32} {f : Nat → Int32} {t : Nat → Int32} {p0 : Int32} {p1 : Int32} {p2 : Int32} {p3 : Int32} {p4 : Int32} : ∀ (s0 : Int32) (th_ : Int32) (f_ : Nat → Int32) (t_ : Nat → Int32), t_ 5 = t 5 → Fr (fX7_forgetIf_50 N K th f t p0 p1 p2 p3 p4  s0 th_ f_ t_) (fun (z : Int32 × Int32 × (Nat → Int32) × (Nat → Int32)) => z.2.2.2 5 = t 5) := by
  intro s0 th_ f_ t_ ht
  unfold fX7_forgetIf_50
  exact (fI (r_X7_forgetIf_72 _ _ _ _ ht) (fI fN (fB' (fun x67 => (fI fN (r_X7_forgetIf_72 _ _ _ _ ht))))))
set_option maxRecDepth 100000 in
theorem r_X7_forgetIf_49 {N K : Nat} {th : Int32} {f : Nat → Int32} {t : Nat → Int32} {p0 : Int32} {p1 : Int32} {p2 : Int32} {p3 : Int32} {p4 : Int32} : ∀ (th_ : Int32) (f_ : Nat → Int32) (t_ : Nat → Int32), t_ 5 = t 5 → Fr (fX7_forgetIf_49 N K th f t p0 p1 p2 p3 p4  th_ f_ t_) (fun (z : Int32 × Int32 × (Nat → Int32) × (Nat → Int32)) => z.2.2.2 5 = t 5) := by
  intro th_ f_ t_ ht
  unfold fX7_forgetIf_49
  exact (r_X7_forgetIf_50 _ _ _ _ ht)
set_option maxRecDepth 100000 in
theorem r_X7_forgetIf {N K : Nat} {th : Int32} {f : Nat → Int32} {t : Nat → Int32} {p0 : Int32} {p1 : Int32} {p2 : Int32} {p3 : Int32} {p4 : Int32} : Fr (fX7_forgetIf N K th f t p0 p1 p2 p3 p4) (fun (z : Int32 × Int32 × (Nat → Int32) × (Nat → Int32)) => z.2.2.2 5 = t 5) := by
  unfold fX7_forgetIf
  exact (fB' (fun x4 => (fB' (fun x11 => (fB' (fun x14 => (fI (fB' (fun x28 => (fI (r_X7_forgetIf_49 _ _ _ rfl) (fI (r_X7_forgetIf_50 _ _ _ _ rfl) (r_X7_forgetIf_49 _ _ _ rfl))))) (fR rfl))))))))
set_option maxRecDepth 100000 in
theorem r_X7_forgetAll_63 {N K : Nat} {th : Int32} {f : Nat → Int32} {t : Nat → Int32} {p0 : Int32} {p1 : Int32} {p2 : Int32} {k_33 : Int32 → Int32 → Int32 → (Nat → Int32) → (Nat → Int32) → Option (Int32 × Int32 × (Nat → Int32) × (Nat → Int32))} (hk_33 : ∀ (l4 : Int32) (l5 : Int32) (th_ : Int32) (f_ : (Nat → Int32)) (t_ : (Nat → Int32)), t_ 5 = t 5 → Fr (k_33 l4 l5 th_ f_ t_) (fun (z : Int32 × Int32 × (Nat → Int32) × (Nat → Int32)) => z.2.2.2 5 = t 5)) : ∀ (l4 : Int32) (l5 : Int32) (th_ : Int32) (f_ : Nat → Int32) (t_ : Nat → Int32), t_ 5 = t 5 → Fr (fX7_forgetAll_63 N K th f t p0 p1 p2 k_33 l4 l5 th_ f_ t_) (fun (z : Int32 × Int32 × (Nat → Int32) × (Nat → Int32)) => z.2.2.2 5 = t 5) := by
  intro l4 l5 th_ f_ t_ ht
  unfold fX7_forgetAll_63
  exact (hk_33 _ _ _ _ _ ht)
set_option maxRecDepth 100000 in
theorem r_X7_forgetAll_33 {N K : Nat} {th : Int32} {f : Nat → Int32} {t : Nat → Int32} {p0 : Int32} {p1 : Int32} {p2 : Int32} : ∀ (fu : Nat) (l4 : Int32) (l5 : Int32) (th_ : Int32) (f_ : (Nat → Int32)) (t_ : (Nat → Int32)), t_ 5 = t 5 → Fr (fX7_forgetAll_33 N K th f t p0 p1 p2  fu l4 l5 th_ f_ t_) (fun (z : Int32 × Int32 × (Nat → Int32) × (Nat → Int32)) => z.2.2.2 5 = t 5) := by
  intro fu
  induction fu with
  | zero => intros; exact fN
  | succ fu ih =>
    intro l4 l5 th_ f_ t_ ht
    unfold fX7_forgetAll_33
    exact (fI (fB r_X7_done (fun x72 hx72 => (fR (hx72.trans ht)))) (fB' (fun x47 => (fI (r_X7_forgetAll_63 ih _ _ _ _ _ ht) (fI fN (fI fN (r_X7_forgetAll_63 ih _ _ _ _ _ ht)))))))
set_option maxRecDepth 100000 in
theorem r_X7_forgetAll {N K : Nat} {th : Int32} {f : Nat → Int32} {t : Nat → Int32} {p0 : Int32} {p1 : Int32} {p2 : Int32} : Fr (fX7_forgetAll N K th f t p0 p1 p2) (fun (z : Int32 × Int32 × (Nat → Int32) × (Nat → Int32)) => z.2.2.2 5 = t 5) := by
  unfold fX7_forgetAll
  exact (fB' (fun x4 => (fB' (fun x10 => (fB' (fun x13 => (fI (fB' (fun x25 => (r_X7_forgetAll_33 N _ _ _ _ _ rfl))) (fR rfl))))))))
set_option maxRecDepth 100000 in
theorem r_X7_clear_25 {N K : Nat} {th : Int32} {f : Nat → Int32} {t : Nat → Int32} {p0 : Int32} : ∀ (fu : Nat) (l2 : Int32) (l3 : Int32) (th_ : Int32) (f_ : (Nat → Int32)) (t_ : (Nat → Int32)), t_ 5 = t 5 → Fr (fX7_clear_25 N K th f t p0  fu l2 l3 th_ f_ t_) (fun (z : Int32 × Int32 × (Nat → Int32) × (Nat → Int32)) => z.2.2.2 5 = t 5) := by
  intro fu
  induction fu with
  | zero => intros; exact fN
  | succ fu ih =>
    intro l2 l3 th_ f_ t_ ht
    unfold fX7_clear_25
    exact (fI (fB r_X7_done (fun x49 hx49 => (fR (hx49.trans ht)))) (fI fN (fI fN (ih _ _ _ _ _ ht))))
set_option maxRecDepth 100000 in
theorem r_X7_clear {N K : Nat} {th : Int32} {f : Nat → Int32} {t : Nat → Int32} {p0 : Int32} : Fr (fX7_clear N K th f t p0) (fun (z : Int32 × Int32 × (Nat → Int32) × (Nat → Int32)) => z.2.2.2 5 = t 5) := by
  unfold fX7_clear
  exact (fB' (fun x4 => (fB' (fun x8 => (fI (fB' (fun x19 => (r_X7_clear_25 N _ _ _ _ _ rfl))) (fR rfl))))))
set_option maxRecDepth 100000 in
theorem r_X7_copy_35 {N K : Nat} {th : Int32} {f : Nat → Int32} {f2 : Nat → Int32} {t : Nat → Int32} {p0 : Int32} {p1 : Int32} : ∀ (fu : Nat) (l3 : Int32) (th_ : Int32) (f2_ : (Nat → Int32)) (t_ : (Nat → Int32)), t_ 5 = t 5 → Fr (fX7_copy_35 N K th f f2 t p0 p1  fu l3 th_ f2_ t_) (fun (z : Int32 × Int32 × (Nat → Int32) × (Nat → Int32)) => z.2.2.2 5 = t 5) := by
  intro fu
  induction fu with
  | zero => intros; exact fN
  | succ fu ih =>
    intro l3 th_ f2_ t_ ht
    unfold fX7_copy_35
    exact (fI (fB' (fun x68 => (fB r_X7_done (fun x71 hx71 => (fR (hx71.trans ht)))))) (fI fN (fI fN (fI fN (fI fN (ih _ _ _ _ ht))))))
set_option maxRecDepth 100000 in
theorem r_X7_copy_24 {N K : Nat} {th : Int32} {f : Nat → Int32} {f2 : Nat → Int32} {t : Nat → Int32} {p0 : Int32} {p1 : Int32} : ∀ (s0 : Int32) (th_ : Int32) (f2_ : Nat → Int32) (t_ : Nat → Int32), t_ 5 = t 5 → Fr (fX7_copy_24 N K th f f2 t p0 p1  s0 th_ f2_ t_) (fun (z : Int32 × Int32 × (Nat → Int32) × (Nat → Int32)) => z.2.2.2 5 = t 5) := by
  intro s0 th_ f2_ t_ ht
  unfold fX7_copy_24
  exact (fB' (fun x25 => (fI (r_X7_copy_35 N _ _ _ _ ht) (fR ht))))
set_option maxRecDepth 100000 in
theorem r_X7_copy_19 {N K : Nat} {th : Int32} {f : Nat → Int32} {f2 : Nat → Int32} {t : Nat → Int32} {p0 : Int32} {p1 : Int32} : ∀ (th_ : Int32) (f2_ : Nat → Int32) (t_ : Nat → Int32), t_ 5 = t 5 → Fr (fX7_copy_19 N K th f f2 t p0 p1  th_ f2_ t_) (fun (z : Int32 × Int32 × (Nat → Int32) × (Nat → Int32)) => z.2.2.2 5 = t 5) := by
  intro th_ f2_ t_ ht
  unfold fX7_copy_19
  exact (r_X7_copy_24 _ _ _ _ ht)
set_option maxRecDepth 100000 in
theorem r_X7_copy {N K : Nat} {th : Int32} {f : Nat → Int32} {f2 : Nat → Int32} {t : Nat → Int32} {p0 : Int32} {p1 : Int32} : Fr (fX7_copy N K th f f2 t p0 p1) (fun (z : Int32 × Int32 × (Nat → Int32) × (Nat → Int32)) => z.2.2.2 5 = t 5) := by
  unfold fX7_copy
  exact (fB' (fun x4 => (fI (fB' (fun x13 => (fI (r_X7_copy_24 _ _ _ _ rfl) (r_X7_copy_19 _ _ _ rfl)))) (r_X7_copy_19 _ _ _ rfl))))
set_option maxRecDepth 100000 in
theorem r_X7_copyOwn_35 {N K : Nat} {th : Int32} {f : Nat → Int32} {t : Nat → Int32} {p0 : Int32} : ∀ (fu : Nat) (l3 : Int32) (th_ : Int32) (f_ : (Nat → Int32)) (t_ : (Nat → Int32)), t_ 5 = t 5 → Fr (fX7_copyOwn_35 N K th f t p0  fu l3 th_ f_ t_) (fun (z : Int32 × Int32 × (Nat → Int32) × (Nat → Int32)) => z.2.2.2 5 = t 5) := by
  intro fu
  induction fu with
  | zero => intros; exact fN
  | succ fu ih =>
    intro l3 th_ f_ t_ ht
    unfold fX7_copyOwn_35
    exact (fI (fB' (fun x68 => (fB r_X7_done (fun x71 hx71 => (fR (hx71.trans ht)))))) (fI fN (fI fN (fI fN (fI fN (ih _ _ _ _ ht))))))
set_option maxRecDepth 100000 in
theorem r_X7_copyOwn_24 {N K : Nat} {th : Int32} {f : Nat → Int32} {t : Nat → Int32} {p0 : Int32} : ∀ (s0 : Int32) (th_ : Int32) (f_ : Nat → Int32) (t_ : Nat → Int32), t_ 5 = t 5 → Fr (fX7_copyOwn_24 N K th f t p0  s0 th_ f_ t_) (fun (z : Int32 × Int32 × (Nat → Int32) × (Nat → Int32)) => z.2.2.2 5 = t 5) := by
  intro s0 th_ f_ t_ ht
  unfold fX7_copyOwn_24
  exact (fB' (fun x25 => (fI (r_X7_copyOwn_35 N _ _ _ _ ht) (fR ht))))
set_option maxRecDepth 100000 in
theorem r_X7_copyOwn_19 {N K : Nat} {th : Int32} {f : Nat → Int32} {t : Nat → Int32} {p0 : Int32} : ∀ (th_ : Int32) (f_ : Nat → Int32) (t_ : Nat → Int32), t_ 5 = t 5 → Fr (fX7_copyOwn_19 N K th f t p0  th_ f_ t_) (fun (z : Int32 × Int32 × (Nat → Int32) × (Nat → Int32)) => z.2.2.2 5 = t 5) := by
  intro th_ f_ t_ ht
  unfold fX7_copyOwn_19
  exact (r_X7_copyOwn_24 _ _ _ _ ht)
set_option maxRecDepth 100000 in
theorem r_X7_copyOwn {N K : Nat} {th : Int32} {f : Nat → Int32} {t : Nat → Int32} {p0 : Int32} : Fr (fX7_copyOwn N K th f t p0) (fun (z : Int32 × Int32 × (Nat → Int32) × (Nat → Int32)) => z.2.2.2 5 = t 5) := by
  unfold fX7_copyOwn
  exact (fB' (fun x4 => (fI (fB' (fun x13 => (fI (r_X7_copyOwn_24 _ _ _ _ rfl) (r_X7_copyOwn_19 _ _ _ rfl)))) (r_X7_copyOwn_19 _ _ _ rfl))))
set_option maxRecDepth 100000 in
theorem r_X7_pour_91 {N K : Nat} {th : Int32} {f : Nat → Int32} {f2 : Nat → Int32} {t : Nat → Int32} {p0 : Int32} {p1 : Int32} {k_53 : Int32 → Int32 → Int32 → (Nat → Int32) → (Nat → Int32) → Option (Int32 × Int32 × (Nat → Int32) × (Nat → Int32))} (hk_53 : ∀ (l3 : Int32) (l4 : Int32) (th_ : Int32) (f2_ : (Nat → Int32)) (t_ : (Nat → Int32)), t_ 5 = t 5 → Fr (k_53 l3 l4 th_ f2_ t_) (fun (z : Int32 × Int32 × (Nat → Int32) × (Nat → Int32)) => z.2.2.2 5 = t 5)) : ∀ (l3 : Int32) (l4 : Int32) (th_ : Int32) (f2_ : Nat → Int32) (t_ : Nat → Int32), t_ 5 = t 5 → Fr (fX7_pour_91 N K th f f2 t p0 p1 k_53 l3 l4 th_ f2_ t_) (fun (z : Int32 × Int32 × (Nat → Int32) × (Nat → Int32)) => z.2.2.2 5 = t 5) := by
  intro l3 l4 th_ f2_ t_ ht
  unfold fX7_pour_91
  exact (hk_53 _ _ _ _ _ ht)
set_option maxRecDepth 100000 in
theorem r_X7_pour_53 {N K : Nat} {th : Int32} {f : Nat → Int32} {f2 : Nat → Int32} {t : Nat → Int32} {p0 : Int32} {p1 : Int32} : ∀ (fu : Nat) (l3 : Int32) (l4 : Int32) (th_ : Int32) (f2_ : (Nat → Int32)) (t_ : (Nat → Int32)), t_ 5 = t 5 → Fr (fX7_pour_53 N K th f f2 t p0 p1  fu l3 l4 th_ f2_ t_) (fun (z : Int32 × Int32 × (Nat → Int32) × (Nat → Int32)) => z.2.2.2 5 = t 5) := by
  intro fu
  induction fu with
  | zero => intros; exact fN
  | succ fu ih =>
    intro l3 l4 th_ f2_ t_ ht
    unfold fX7_pour_53
    exact (fI (fB' (fun x101 => (fB r_X7_done (fun x106 hx106 => (fR (hx106.trans ht)))))) (fI fN (fI fN (fI (r_X7_pour_91 ih _ _ _ _ _ ht) (fI fN (fI fN (fI fN (fI fN (r_X7_pour_91 ih _ _ _ _ _ ht)))))))))
set_option maxRecDepth 100000 in
theorem r_X7_pour_24 {N K : Nat} {th : Int32} {f : Nat → Int32} {f2 : Nat → Int32} {t : Nat → Int32} {p0 : Int32} {p1 : Int32} : ∀ (s0 : Int32) (th_ : Int32) (f2_ : Nat → Int32) (t_ : Nat → Int32), t_ 5 = t 5 → Fr (fX7_pour_24 N K th f f2 t p0 p1  s0 th_ f2_ t_) (fun (z : Int32 × Int32 × (Nat → Int32) × (Nat → Int32)) => z.2.2.2 5 = t 5) := by
  intro s0 th_ f2_ t_ ht
  unfold fX7_pour_24
  exact (fB' (fun x25 => (fI (fI (fB r_X7_refused (fun x39 hx39 => (fR (hx39.trans ht)))) (fB' (fun x46 => (r_X7_pour_53 N _ _ _ _ _ ht)))) (fR ht))))
set_option maxRecDepth 100000 in
theorem r_X7_pour_19 {N K : Nat} {th : Int32} {f : Nat → Int32} {f2 : Nat → Int32} {t : Nat → Int32} {p0 : Int32} {p1 : Int32} : ∀ (th_ : Int32) (f2_ : Nat → Int32) (t_ : Nat → Int32), t_ 5 = t 5 → Fr (fX7_pour_19 N K th f f2 t p0 p1  th_ f2_ t_) (fun (z : Int32 × Int32 × (Nat → Int32) × (Nat → Int32)) => z.2.2.2 5 = t 5) := by
  intro th_ f2_ t_ ht
  unfold fX7_pour_19
  exact (r_X7_pour_24 _ _ _ _ ht)
set_option maxRecDepth 100000 in
theorem r_X7_pour {N K : Nat} {th : Int32} {f : Nat → Int32} {f2 : Nat → Int32} {t : Nat → Int32} {p0 : Int32} {p1 : Int32} : Fr (fX7_pour N K th f f2 t p0 p1) (fun (z : Int32 × Int32 × (Nat → Int32) × (Nat → Int32)) => z.2.2.2 5 = t 5) := by
  unfold fX7_pour
  exact (fB' (fun x4 => (fI (fB' (fun x13 => (fI (r_X7_pour_24 _ _ _ _ rfl) (r_X7_pour_19 _ _ _ rfl)))) (r_X7_pour_19 _ _ _ rfl))))
set_option maxRecDepth 100000 in
theorem r_X7_pourOwn_24 {N K : Nat} {th : Int32} {f : Nat → Int32} {t : Nat → Int32} {p0 : Int32} : ∀ (s0 : Int32) (th_ : Int32) (t_ : Nat → Int32), t_ 5 = t 5 → Fr (fX7_pourOwn_24 N K th f t p0  s0 th_ t_) (fun (z : Int32 × Int32 × (Nat → Int32)) => z.2.2 5 = t 5) := by
  intro s0 th_ t_ ht
  unfold fX7_pourOwn_24
  exact (fB' (fun x25 => (fI (fB r_X7_refused (fun x39 hx39 => (fR (hx39.trans ht)))) (fR ht))))
set_option maxRecDepth 100000 in
theorem r_X7_pourOwn_19 {N K : Nat} {th : Int32} {f : Nat → Int32} {t : Nat → Int32} {p0 : Int32} : ∀ (th_ : Int32) (t_ : Nat → Int32), t_ 5 = t 5 → Fr (fX7_pourOwn_19 N K th f t p0  th_ t_) (fun (z : Int32 × Int32 × (Nat → Int32)) => z.2.2 5 = t 5) := by
  intro th_ t_ ht
  unfold fX7_pourOwn_19
  exact (r_X7_pourOwn_24 _ _ _ ht)
set_option maxRecDepth 100000 in
theorem r_X7_pourOwn {N K : Nat} {th : Int32} {f : Nat → Int32} {t : Nat → Int32} {p0 : Int32} : Fr (fX7_pourOwn N K th f t p0) (fun (z : Int32 × Int32 × (Nat → Int32)) => z.2.2 5 = t 5) := by
  unfold fX7_pourOwn
  exact (fB' (fun x4 => (fI (fB' (fun x13 => (fI (r_X7_pourOwn_24 _ _ _ rfl) (r_X7_pourOwn_19 _ _ rfl)))) (r_X7_pourOwn_19 _ _ rfl))))
set_option maxRecDepth 100000 in
theorem r_X7_rule_282 {N K : Nat} {th : Int32} {f : Nat → Int32} {t : Nat → Int32} {u : Nat → Int32} {p0 : Int32} {p1 : Int32} {k_185 : Int32 → Int32 → (Nat → Int32) → (Nat → Int32) → (Nat → Int32) → Option (Int32 × Int32 × (Nat → Int32) × (Nat → Int32) × (Nat → Int32))} (hk_185 : ∀ (l3 : Int32) (th_ : Int32) (f_ : (Nat → Int32)) (t_ : (Nat → Int32)) (u_ : (Nat → Int32)), t_ 5 = t 5 → Fr (k_185 l3 th_ f_ t_ u_) (fun (z : Int32 × Int32 × (Nat → Int32) × (Nat → Int32) × (Nat → Int32)) => z.2.2.2.1 5 = t 5)) : ∀ (l3 : Int32) (th_ : Int32) (f_ : Nat → Int32) (t_ : Nat → Int32) (u_ : Nat → Int32), t_ 5 = t 5 → Fr (fX7_rule_282 N K th f t u p0 p1 k_185 l3 th_ f_ t_ u_) (fun (z : Int32 × Int32 × (Nat → Int32) × (Nat → Int32) × (Nat → Int32)) => z.2.2.2.1 5 = t 5) := by
  intro l3 th_ f_ t_ u_ ht
  unfold fX7_rule_282
  exact (hk_185 _ _ _ _ _ ht)
set_option maxRecDepth 100000 in
theorem r_X7_rule_281 {N K : Nat} {th : Int32} {f : Nat → Int32} {t : Nat → Int32} {u : Nat → Int32} {p0 : Int32} {p1 : Int32} {k_185 : Int32 → Int32 → (Nat → Int32) → (Nat → Int32) → (Nat → Int32) → Option (Int32 × Int32 × (Nat → Int32) × (Nat → Int32) × (Nat → Int32))} (hk_185 : ∀ (l3 : Int32) (th_ : Int32) (f_ : (Nat → Int32)) (t_ : (Nat → Int32)) (u_ : (Nat → Int32)), t_ 5 = t 5 → Fr (k_185 l3 th_ f_ t_ u_) (fun (z : Int32 × Int32 × (Nat → Int32) × (Nat → Int32) × (Nat → Int32)) => z.2.2.2.1 5 = t 5)) : ∀ (l3 : Int32) (s0 : Int32) (s1 : Int32) (th_ : Int32) (f_ : Nat → Int32) (t_ : Nat → Int32) (u_ : Nat → Int32), t_ 5 = t 5 → Fr (fX7_rule_281 N K th f t u p0 p1 k_185 l3 s0 s1 th_ f_ t_ u_) (fun (z : Int32 × Int32 × (Nat → Int32) × (Nat → Int32) × (Nat → Int32)) => z.2.2.2.1 5 = t 5) := by
  intro l3 s0 s1 th_ f_ t_ u_ ht
  unfold fX7_rule_281
  exact (fI fN (r_X7_rule_282 hk_185 _ _ _ _ _ ht))
set_option maxRecDepth 100000 in
theorem r_X7_rule_255 {N K : Nat} {th : Int32} {f : Nat → Int32} {t : Nat → Int32} {u : Nat → Int32} {p0 : Int32} {p1 : Int32} {k_185 : Int32 → Int32 → (Nat → Int32) → (Nat → Int32) → (Nat → Int32) → Option (Int32 × Int32 × (Nat → Int32) × (Nat → Int32) × (Nat → Int32))} (hk_185 : ∀ (l3 : Int32) (th_ : Int32) (f_ : (Nat → Int32)) (t_ : (Nat → Int32)) (u_ : (Nat → Int32)), t_ 5 = t 5 → Fr (k_185 l3 th_ f_ t_ u_) (fun (z : Int32 × Int32 × (Nat → Int32) × (Nat → Int32) × (Nat → Int32)) => z.2.2.2.1 5 = t 5)) {k_219 : Int32 → Int32 → Int32 → Int32 → (Nat → Int32) → (Nat → Int32) → (Nat → Int32) → Option (Int32 × Int32 × (Nat → Int32) × (Nat → Int32) × (Nat → Int32))} (hk_219 : ∀ (l3 : Int32) (l4 : Int32) (l5 : Int32) (th_ : Int32) (f_ : (Nat → Int32)) (t_ : (Nat → Int32)) (u_ : (Nat → Int32)), t_ 5 = t 5 → Fr (k_219 l3 l4 l5 th_ f_ t_ u_) (fun (z : Int32 × Int32 × (Nat → Int32) × (Nat → Int32) × (Nat → Int32)) => z.2.2.2.1 5 = t 5)) : ∀ (l3 : Int32) (l4 : Int32) (l5 : Int32) (th_ : Int32) (f_ : Nat → Int32) (t_ : Nat → Int32) (u_ : Nat → Int32), t_ 5 = t 5 → Fr (fX7_rule_255 N K th f t u p0 p1 k_185 k_219 l3 l4 l5 th_ f_ t_ u_) (fun (z : Int32 × Int32 × (Nat → Int32) × (Nat → Int32) × (Nat → Int32)) => z.2.2.2.1 5 = t 5) := by
  intro l3 l4 l5 th_ f_ t_ u_ ht
  unfold fX7_rule_255
  exact (hk_219 _ _ _ _ _ _ _ ht)
set_option maxRecDepth 100000 in
theorem r_X7_rule_219 {N K : Nat} {th : Int32} {f : Nat → Int32} {t : Nat → Int32} {u : Nat → Int32} {p0 : Int32} {p1 : Int32} {k_185 : Int32 → Int32 → (Nat → Int32) → (Nat → Int32) → (Nat → Int32) → Option (Int32 × Int32 × (Nat → Int32) × (Nat → Int32) × (Nat → Int32))} (hk_185 : ∀ (l3 : Int32) (th_ : Int32) (f_ : (Nat → Int32)) (t_ : (Nat → Int32)) (u_ : (Nat → Int32)), t_ 5 = t 5 → Fr (k_185 l3 th_ f_ t_ u_) (fun (z : Int32 × Int32 × (Nat → Int32) × (Nat → Int32) × (Nat → Int32)) => z.2.2.2.1 5 = t 5)) : ∀ (fu : Nat) (l3 : Int32) (l4 : Int32) (l5 : Int32) (th_ : Int32) (f_ : (Nat → Int32)) (t_ : (Nat → Int32)) (u_ : (Nat → Int32)), t_ 5 = t 5 → Fr (fX7_rule_219 N K th f t u p0 p1 k_185 fu l3 l4 l5 th_ f_ t_ u_) (fun (z : Int32 × Int32 × (Nat → Int32) × (Nat → Int32) × (Nat → Int32)) => z.2.2.2.1 5 = t 5) := by
  intro fu
  induction fu with
  | zero => intros; exact fN
  | succ fu ih =>
    intro l3 l4 l5 th_ f_ t_ u_ ht
    unfold fX7_rule_219
    exact (fI (fI fN (fI (r_X7_rule_281 hk_185 _ _ _ _ _ _ _ ht) (fI fN (r_X7_rule_281 hk_185 _ _ _ _ _ _ _ ht)))) (fB' (fun x228 => (fI (r_X7_rule_255 hk_185 ih _ _ _ _ _ _ _ ht) (fB' (fun x239 => (fB' (fun x248 => (r_X7_rule_255 hk_185 ih _ _ _ _ _ _ _ ht)))))))))
set_option maxRecDepth 100000 in
theorem r_X7_rule_185 {N K : Nat} {th : Int32} {f : Nat → Int32} {t : Nat → Int32} {u : Nat → Int32} {p0 : Int32} {p1 : Int32} : ∀ (fu : Nat) (l3 : Int32) (th_ : Int32) (f_ : (Nat → Int32)) (t_ : (Nat → Int32)) (u_ : (Nat → Int32)), t_ 5 = t 5 → Fr (fX7_rule_185 N K th f t u p0 p1  fu l3 th_ f_ t_ u_) (fun (z : Int32 × Int32 × (Nat → Int32) × (Nat → Int32) × (Nat → Int32)) => z.2.2.2.1 5 = t 5) := by
  intro fu
  induction fu with
  | zero => intros; exact fN
  | succ fu ih =>
    intro l3 th_ f_ t_ u_ ht
    unfold fX7_rule_185
    exact (fI (fB' (fun x292 => (fB r_X7_done (fun x295 hx295 => (fR (hx295.trans ht)))))) (fI fN (fI (r_X7_rule_282 ih _ _ _ _ _ ht) (fI fN (fI fN (fI (r_X7_rule_219 ih N _ _ _ _ _ _ _ ht) (r_X7_rule_282 ih _ _ _ _ _ ht)))))))
set_option maxRecDepth 100000 in
theorem r_X7_rule_177 {N K : Nat} {th : Int32} {f : Nat → Int32} {t : Nat → Int32} {u : Nat → Int32} {p0 : Int32} {p1 : Int32} {k_51 : Int32 → Int32 → (Nat → Int32) → (Nat → Int32) → (Nat → Int32) → Option (Int32 × Int32 × (Nat → Int32) × (Nat → Int32) × (Nat → Int32))} (hk_51 : ∀ (l3 : Int32) (th_ : Int32) (f_ : (Nat → Int32)) (t_ : (Nat → Int32)) (u_ : (Nat → Int32)), t_ 5 = t 5 → Fr (k_51 l3 th_ f_ t_ u_) (fun (z : Int32 × Int32 × (Nat → Int32) × (Nat → Int32) × (Nat → Int32)) => z.2.2.2.1 5 = t 5)) : ∀ (l3 : Int32) (th_ : Int32) (f_ : Nat → Int32) (t_ : Nat → Int32) (u_ : Nat → Int32), t_ 5 = t 5 → Fr (fX7_rule_177 N K th f t u p0 p1 k_51 l3 th_ f_ t_ u_) (fun (z : Int32 × Int32 × (Nat → Int32) × (Nat → Int32) × (Nat → Int32)) => z.2.2.2.1 5 = t 5) := by
  intro l3 th_ f_ t_ u_ ht
  unfold fX7_rule_177
  exact (hk_51 _ _ _ _ _ ht)
set_option maxRecDepth 100000 in
theorem r_X7_rule_171 {N K : Nat} {th : Int32} {f : Nat → Int32} {t : Nat → Int32} {u : Nat → Int32} {p0 : Int32} {p1 : Int32} {k_51 : Int32 → Int32 → (Nat → Int32) → (Nat → Int32) → (Nat → Int32) → Option (Int32 × Int32 × (Nat → Int32) × (Nat → Int32) × (Nat → Int32))} (hk_51 : ∀ (l3 : Int32) (th_ : Int32) (f_ : (Nat → Int32)) (t_ : (Nat → Int32)) (u_ : (Nat → Int32)), t_ 5 = t 5 → Fr (k_51 l3 th_ f_ t_ u_) (fun (z : Int32 × Int32 × (Nat → Int32) × (Nat → Int32) × (Nat → Int32)) => z.2.2.2.1 5 = t 5)) {k_138 : Int32 → Int32 → Int32 → Int32 → (Nat → Int32) → (Nat → Int32) → (Nat → Int32) → Option (Int32 × Int32 × (Nat → Int32) × (Nat → Int32) × (Nat → Int32))} (hk_138 : ∀ (l3 : Int32) (l4 : Int32) (l5 : Int32) (th_ : Int32) (f_ : (Nat → Int32)) (t_ : (Nat → Int32)) (u_ : (Nat → Int32)), t_ 5 = t 5 → Fr (k_138 l3 l4 l5 th_ f_ t_ u_) (fun (z : Int32 × Int32 × (Nat → Int32) × (Nat → Int32) × (Nat → Int32)) => z.2.2.2.1 5 = t 5)) : ∀ (l3 : Int32) (l4 : Int32) (l5 : Int32) (th_ : Int32) (f_ : Nat → Int32) (t_ : Nat → Int32) (u_ : Nat → Int32), t_ 5 = t 5 → Fr (fX7_rule_171 N K th f t u p0 p1 k_51 k_138 l3 l4 l5 th_ f_ t_ u_) (fun (z : Int32 × Int32 × (Nat → Int32) × (Nat → Int32) × (Nat → Int32)) => z.2.2.2.1 5 = t 5) := by
  intro l3 l4 l5 th_ f_ t_ u_ ht
  unfold fX7_rule_171
  exact (hk_138 _ _ _ _ _ _ _ ht)
set_option maxRecDepth 100000 in
theorem r_X7_rule_138 {N K : Nat} {th : Int32} {f : Nat → Int32} {t : Nat → Int32} {u : Nat → Int32} {p0 : Int32} {p1 : Int32} {k_51 : Int32 → Int32 → (Nat → Int32) → (Nat → Int32) → (Nat → Int32) → Option (Int32 × Int32 × (Nat → Int32) × (Nat → Int32) × (Nat → Int32))} (hk_51 : ∀ (l3 : Int32) (th_ : Int32) (f_ : (Nat → Int32)) (t_ : (Nat → Int32)) (u_ : (Nat → Int32)), t_ 5 = t 5 → Fr (k_51 l3 th_ f_ t_ u_) (fun (z : Int32 × Int32 × (Nat → Int32) × (Nat → Int32) × (Nat → Int32)) => z.2.2.2.1 5 = t 5)) : ∀ (fu : Nat) (l3 : Int32) (l4 : Int32) (l5 : Int32) (th_ : Int32) (f_ : (Nat → Int32)) (t_ : (Nat → Int32)) (u_ : (Nat → Int32)), t_ 5 = t 5 → Fr (fX7_rule_138 N K th f t u p0 p1 k_51 fu l3 l4 l5 th_ f_ t_ u_) (fun (z : Int32 × Int32 × (Nat → Int32) × (Nat → Int32) × (Nat → Int32)) => z.2.2.2.1 5 = t 5) := by
  intro fu
  induction fu with
  | zero => intros; exact fN
  | succ fu ih =>
    intro l3 l4 l5 th_ f_ t_ u_ ht
    unfold fX7_rule_138
    exact (fI (r_X7_rule_177 hk_51 _ _ _ _ _ ht) (fI (r_X7_rule_177 hk_51 _ _ _ _ _ ht) (fB' (fun x152 => (fI (r_X7_rule_171 hk_51 ih _ _ _ _ _ _ _ ht) (fI fN (fI fN (r_X7_rule_171 hk_51 ih _ _ _ _ _ _ _ ht))))))))
set_option maxRecDepth 100000 in
theorem r_X7_rule_83 {N K : Nat} {th : Int32} {f : Nat → Int32} {t : Nat → Int32} {u : Nat → Int32} {p0 : Int32} {p1 : Int32} {k_51 : Int32 → Int32 → (Nat → Int32) → (Nat → Int32) → (Nat → Int32) → Option (Int32 × Int32 × (Nat → Int32) × (Nat → Int32) × (Nat → Int32))} (hk_51 : ∀ (l3 : Int32) (th_ : Int32) (f_ : (Nat → Int32)) (t_ : (Nat → Int32)) (u_ : (Nat → Int32)), t_ 5 = t 5 → Fr (k_51 l3 th_ f_ t_ u_) (fun (z : Int32 × Int32 × (Nat → Int32) × (Nat → Int32) × (Nat → Int32)) => z.2.2.2.1 5 = t 5)) : ∀ (l3 : Int32) (s0 : Int32) (th_ : Int32) (f_ : Nat → Int32) (t_ : Nat → Int32) (u_ : Nat → Int32), t_ 5 = t 5 → Fr (fX7_rule_83 N K th f t u p0 p1 k_51 l3 s0 th_ f_ t_ u_) (fun (z : Int32 × Int32 × (Nat → Int32) × (Nat → Int32) × (Nat → Int32)) => z.2.2.2.1 5 = t 5) := by
  intro l3 s0 th_ f_ t_ u_ ht
  unfold fX7_rule_83
  exact (fI fN (fB' (fun x109 => (fI fN (fB' (fun x129 => (r_X7_rule_138 hk_51 N _ _ _ _ _ _ _ (upd5 (f := (upd (upd t_ (1 : Int32).toNatClampNeg ((t_ (1 : Int32).toNatClampNeg) + (u_ l3.toNatClampNeg))) (2 : Int32).toNatClampNeg (((upd t_ (1 : Int32).toNatClampNeg ((t_ (1 : Int32).toNatClampNeg) + (u_ l3.toNatClampNeg))) (2 : Int32).toNatClampNeg) + x109))) (k := (3 : Int32).toNatClampNeg) (v := (((upd (upd t_ (1 : Int32).toNatClampNeg ((t_ (1 : Int32).toNatClampNeg) + (u_ l3.toNatClampNeg))) (2 : Int32).toNatClampNeg (((upd t_ (1 : Int32).toNatClampNeg ((t_ (1 : Int32).toNatClampNeg) + (u_ l3.toNatClampNeg))) (2 : Int32).toNatClampNeg) + x109)) (3 : Int32).toNatClampNeg) + ((u_ l3.toNatClampNeg) - x129))) (by decide) (upd5 (f := (upd t_ (1 : Int32).toNatClampNeg ((t_ (1 : Int32).toNatClampNeg) + (u_ l3.toNatClampNeg)))) (k := (2 : Int32).toNatClampNeg) (v := (((upd t_ (1 : Int32).toNatClampNeg ((t_ (1 : Int32).toNatClampNeg) + (u_ l3.toNatClampNeg))) (2 : Int32).toNatClampNeg) + x109)) (by decide) (upd5 (f := t_) (k := (1 : Int32).toNatClampNeg) (v := ((t_ (1 : Int32).toNatClampNeg) + (u_ l3.toNatClampNeg))) (by decide) ht))))))))))
set_option maxRecDepth 100000 in
theorem r_X7_rule_51 {N K : Nat} {th : Int32} {f : Nat → Int32} {t : Nat → Int32} {u : Nat → Int32} {p0 : Int32} {p1 : Int32} : ∀ (fu : Nat) (l3 : Int32) (th_ : Int32) (f_ : (Nat → Int32)) (t_ : (Nat → Int32)) (u_ : (Nat → Int32)), t_ 5 = t 5 → Fr (fX7_rule_51 N K th f t u p0 p1  fu l3 th_ f_ t_ u_) (fun (z : Int32 × Int32 × (Nat → Int32) × (Nat → Int32) × (Nat → Int32)) => z.2.2.2.1 5 = t 5) := by
  intro fu
  induction fu with
  | zero => intros; exact fN
  | succ fu ih =>
    intro l3 th_ f_ t_ u_ ht
    unfold fX7_rule_51
    exact (fI (r_X7_rule_185 N _ _ _ _ _ ht) (fI fN (fI (r_X7_rule_177 ih _ _ _ _ _ ht) (fI fN (fI fN (fI (r_X7_rule_83 ih _ _ _ _ _ _ ht) (r_X7_rule_83 ih _ _ _ _ _ _ ht)))))))
set_option maxRecDepth 100000 in
theorem r_X7_rule_24 {N K : Nat} {th : Int32} {f : Nat → Int32} {t : Nat → Int32} {u : Nat → Int32} {p0 : Int32} {p1 : Int32} : ∀ (fu : Nat) (l3 : Int32) (th_ : Int32) (f_ : (Nat → Int32)) (t_ : (Nat → Int32)) (u_ : (Nat → Int32)), t_ 5 = t 5 → Fr (fX7_rule_24 N K th f t u p0 p1  fu l3 th_ f_ t_ u_) (fun (z : Int32 × Int32 × (Nat → Int32) × (Nat → Int32) × (Nat → Int32)) => z.2.2.2.1 5 = t 5) := by
  intro fu
  induction fu with
  | zero => intros; exact fN
  | succ fu ih =>
    intro l3 th_ f_ t_ u_ ht
    unfold fX7_rule_24
    exact (fI (fI fN (r_X7_rule_51 N _ _ _ _ _ ht)) (fI fN (ih _ _ _ _ _ ht)))
set_option maxRecDepth 100000 in
theorem r_X7_rule {N K : Nat} {th : Int32} {f : Nat → Int32} {t : Nat → Int32} {u : Nat → Int32} {p0 : Int32} {p1 : Int32} : Fr (fX7_rule N K th f t u p0 p1) (fun (z : Int32 × Int32 × (Nat → Int32) × (Nat → Int32) × (Nat → Int32)) => z.2.2.2.1 5 = t 5) := by
  unfold fX7_rule
  exact (fB' (fun x4 => (fB' (fun x11 => (fB' (fun x14 => (fI (r_X7_rule_24 N _ _ _ _ _ rfl) (fR rfl))))))))
set_option maxRecDepth 100000 in
theorem r_X7_forgetRule_87 {N K : Nat} {th : Int32} {f : Nat → Int32} {t : Nat → Int32} {p0 : Int32} {p1 : Int32} {k_60 : Int32 → Int32 → Int32 → (Nat → Int32) → (Nat → Int32) → Option (Int32 × Int32 × (Nat → Int32) × (Nat → Int32))} (hk_60 : ∀ (l3 : Int32) (l4 : Int32) (th_ : Int32) (f_ : (Nat → Int32)) (t_ : (Nat → Int32)), t_ 5 = t 5 → Fr (k_60 l3 l4 th_ f_ t_) (fun (z : Int32 × Int32 × (Nat → Int32) × (Nat → Int32)) => z.2.2.2 5 = t 5)) : ∀ (l3 : Int32) (l4 : Int32) (th_ : Int32) (f_ : Nat → Int32) (t_ : Nat → Int32), t_ 5 = t 5 → Fr (fX7_forgetRule_87 N K th f t p0 p1 k_60 l3 l4 th_ f_ t_) (fun (z : Int32 × Int32 × (Nat → Int32) × (Nat → Int32)) => z.2.2.2 5 = t 5) := by
  intro l3 l4 th_ f_ t_ ht
  unfold fX7_forgetRule_87
  exact (hk_60 _ _ _ _ _ ht)
set_option maxRecDepth 100000 in
theorem r_X7_forgetRule_77 {N K : Nat} {th : Int32} {f : Nat → Int32} {t : Nat → Int32} {p0 : Int32} {p1 : Int32} {k_60 : Int32 → Int32 → Int32 → (Nat → Int32) → (Nat → Int32) → Option (Int32 × Int32 × (Nat → Int32) × (Nat → Int32))} (hk_60 : ∀ (l3 : Int32) (l4 : Int32) (th_ : Int32) (f_ : (Nat → Int32)) (t_ : (Nat → Int32)), t_ 5 = t 5 → Fr (k_60 l3 l4 th_ f_ t_) (fun (z : Int32 × Int32 × (Nat → Int32) × (Nat → Int32)) => z.2.2.2 5 = t 5)) : ∀ (l3 : Int32) (l4 : Int32) (th_ : Int32) (f_ : Nat → Int32) (t_ : Nat → Int32), t_ 5 = t 5 → Fr (fX7_forgetRule_77 N K th f t p0 p1 k_60 l3 l4 th_ f_ t_) (fun (z : Int32 × Int32 × (Nat → Int32) × (Nat → Int32)) => z.2.2.2 5 = t 5) := by
  intro l3 l4 th_ f_ t_ ht
  unfold fX7_forgetRule_77
  exact (fI fN (fI fN (r_X7_forgetRule_87 hk_60 _ _ _ _ _ ht)))
set_option maxRecDepth 100000 in
theorem r_X7_forgetRule_60 {N K : Nat} {th : Int32} {f : Nat → Int32} {t : Nat → Int32} {p0 : Int32} {p1 : Int32} : ∀ (fu : Nat) (l3 : Int32) (l4 : Int32) (th_ : Int32) (f_ : (Nat → Int32)) (t_ : (Nat → Int32)), t_ 5 = t 5 → Fr (fX7_forgetRule_60 N K th f t p0 p1  fu l3 l4 th_ f_ t_) (fun (z : Int32 × Int32 × (Nat → Int32) × (Nat → Int32)) => z.2.2.2 5 = t 5) := by
  intro fu
  induction fu with
  | zero => intros; exact fN
  | succ fu ih =>
    intro l3 l4 th_ f_ t_ ht
    unfold fX7_forgetRule_60
    exact (fI (fB r_X7_done (fun x95 hx95 => (fR (hx95.trans ht)))) (fI (r_X7_forgetRule_77 ih _ _ _ _ _ ht) (fI (r_X7_forgetRule_77 ih _ _ _ _ _ ht) (r_X7_forgetRule_87 ih _ _ _ _ _ ht))))
set_option maxRecDepth 100000 in
theorem r_X7_forgetRule_57 {N K : Nat} {th : Int32} {f : Nat → Int32} {t : Nat → Int32} {p0 : Int32} {p1 : Int32} : ∀ (l3 : Int32) (th_ : Int32) (f_ : Nat → Int32) (t_ : Nat → Int32), t_ 5 = t 5 → Fr (fX7_forgetRule_57 N K th f t p0 p1  l3 th_ f_ t_) (fun (z : Int32 × Int32 × (Nat → Int32) × (Nat → Int32)) => z.2.2.2 5 = t 5) := by
  intro l3 th_ f_ t_ ht
  unfold fX7_forgetRule_57
  exact (r_X7_forgetRule_60 N _ _ _ _ _ ht)
set_option maxRecDepth 100000 in
theorem r_X7_forgetRule_43 {N K : Nat} {th : Int32} {f : Nat → Int32} {t : Nat → Int32} {p0 : Int32} {p1 : Int32} : ∀ (s0 : Int32) (th_ : Int32) (f_ : Nat → Int32) (t_ : Nat → Int32), t_ 5 = t 5 → Fr (fX7_forgetRule_43 N K th f t p0 p1  s0 th_ f_ t_) (fun (z : Int32 × Int32 × (Nat → Int32) × (Nat → Int32)) => z.2.2.2 5 = t 5) := by
  intro s0 th_ f_ t_ ht
  unfold fX7_forgetRule_43
  exact (fI (r_X7_forgetRule_57 _ _ _ _ ht) (fI (fB r_X7_refused (fun x53 hx53 => (fR (hx53.trans ht)))) (r_X7_forgetRule_57 _ _ _ _ ht)))
set_option maxRecDepth 100000 in
theorem r_X7_forgetRule {N K : Nat} {th : Int32} {f : Nat → Int32} {t : Nat → Int32} {p0 : Int32} {p1 : Int32} : Fr (fX7_forgetRule N K th f t p0 p1) (fun (z : Int32 × Int32 × (Nat → Int32) × (Nat → Int32)) => z.2.2.2 5 = t 5) := by
  unfold fX7_forgetRule
  exact (fB' (fun x4 => (fB' (fun x11 => (fB' (fun x14 => (fI (fI (fB' (fun x29 => (r_X7_forgetRule_43 _ _ _ _ rfl))) (fI fN (fI fN (r_X7_forgetRule_43 _ _ _ _ rfl)))) (fR rfl))))))))
set_option maxRecDepth 100000 in
theorem r_X7_addPart_32 {N K : Nat} {th : Int32} {f : Nat → Int32} {t : Nat → Int32} {p0 : Int32} {p1 : Int32} {p2 : Int32} : ∀ (s0 : Int32) (s1 : Int32) (th_ : Int32) (f_ : Nat → Int32) (t_ : Nat → Int32), t_ 5 = t 5 → Fr (fX7_addPart_32 N K th f t p0 p1 p2  s0 s1 th_ f_ t_) (fun (z : Int32 × Int32 × (Nat → Int32) × (Nat → Int32)) => z.2.2.2 5 = t 5) := by
  intro s0 s1 th_ f_ t_ ht
  unfold fX7_addPart_32
  exact (fB' (fun x32 => (fI (fI fN (fB' (fun x46 => (fI (fI fN (fI fN (fI fN (fI fN (fI fN (fB r_X7_done (fun x84 hx84 => (fR (hx84.trans ht))))))))) (fB r_X7_refused (fun x59 hx59 => (fR (hx59.trans ht)))))))) (fR ht))))
set_option maxRecDepth 100000 in
theorem r_X7_addPart_27 {N K : Nat} {th : Int32} {f : Nat → Int32} {t : Nat → Int32} {p0 : Int32} {p1 : Int32} {p2 : Int32} : ∀ (s0 : Int32) (th_ : Int32) (f_ : Nat → Int32) (t_ : Nat → Int32), t_ 5 = t 5 → Fr (fX7_addPart_27 N K th f t p0 p1 p2  s0 th_ f_ t_) (fun (z : Int32 × Int32 × (Nat → Int32) × (Nat → Int32)) => z.2.2.2 5 = t 5) := by
  intro s0 th_ f_ t_ ht
  unfold fX7_addPart_27
  exact (r_X7_addPart_32 _ _ _ _ _ ht)
set_option maxRecDepth 100000 in
theorem r_X7_addPart {N K : Nat} {th : Int32} {f : Nat → Int32} {t : Nat → Int32} {p0 : Int32} {p1 : Int32} {p2 : Int32} : Fr (fX7_addPart N K th f t p0 p1 p2) (fun (z : Int32 × Int32 × (Nat → Int32) × (Nat → Int32)) => z.2.2.2 5 = t 5) := by
  unfold fX7_addPart
  exact (fB' (fun x4 => (fB' (fun x11 => (fI (fB' (fun x21 => (fI (r_X7_addPart_32 _ _ _ _ _ rfl) (r_X7_addPart_27 _ _ _ _ rfl)))) (r_X7_addPart_27 _ _ _ _ rfl))))))
set_option maxRecDepth 100000 in
theorem r_X7_takePart {N K : Nat} {th : Int32} {f : Nat → Int32} {t : Nat → Int32} {p0 : Int32} {p1 : Int32} : Fr (fX7_takePart N K th f t p0 p1) (fun (z : Int32 × Int32 × (Nat → Int32) × (Nat → Int32)) => z.2.2.2 5 = t 5) := by
  unfold fX7_takePart
  exact (fB' (fun x4 => (fB' (fun x11 => (fB' (fun x14 => (fI (fI fN (fI fN (fI (fB r_X7_refused (fun x34 hx34 => (fR (hx34.trans rfl)))) (fI fN (fI fN (fI fN (fI fN (fI fN (fB r_X7_done (fun x59 hx59 => (fR (hx59.trans rfl)))))))))))) (fR rfl))))))))
set_option maxRecDepth 100000 in
theorem r_X7_laid_2 {N K : Nat} {th : Int32} {f : Nat → Int32} {g : Nat → Int32} {t : Nat → Int32} {p0 : Int32} : ∀ (fu : Nat) (l3 : Int32) (f_ : (Nat → Int32)) (t_ : (Nat → Int32)), t_ 5 = t 5 → Fr (fX7_laid_2 N K th f g t p0  fu l3 f_ t_) (fun (z : Int32 × (Nat → Int32) × (Nat → Int32)) => z.2.2 5 = t 5) := by
  intro fu
  induction fu with
  | zero => intros; exact fN
  | succ fu ih =>
    intro l3 f_ t_ ht
    unfold fX7_laid_2
    exact (fI (fB' (fun x27 => (fB r_X7_done (fun x30 hx30 => (fR (hx30.trans ht)))))) (fI fN (fI fN (fI fN (ih _ _ _ ht)))))
set_option maxRecDepth 100000 in
theorem r_X7_laid {N K : Nat} {th : Int32} {f : Nat → Int32} {g : Nat → Int32} {t : Nat → Int32} {p0 : Int32} : Fr (fX7_laid N K th f g t p0) (fun (z : Int32 × (Nat → Int32) × (Nat → Int32)) => z.2.2 5 = t 5) := by
  unfold fX7_laid
  exact (r_X7_laid_2 N _ _ _ rfl)
set_option maxRecDepth 100000 in
theorem r_X7_layFirst {N K : Nat} {th : Int32} {f : Nat → Int32} {t : Nat → Int32} {p0 : Int32} {p1 : Int32} : Fr (fX7_layFirst N K th f t p0 p1) (fun (z : Int32 × Int32 × (Nat → Int32) × (Nat → Int32)) => z.2.2.2 5 = t 5) := by
  unfold fX7_layFirst
  exact (fB' (fun x4 => (fB' (fun x11 => (fB' (fun x14 => (fI (fB' (fun x27 => (fB r_X7_laid (fun x30 hx30 => (fR (hx30.trans rfl)))))) (fR rfl))))))))
set_option maxRecDepth 100000 in
theorem r_X7_next {N K : Nat} {th : Int32} {f : Nat → Int32} {t : Nat → Int32} {p0 : Int32} : Fr (fX7_next N K th f t p0) (fun (z : Int32 × Int32 × (Nat → Int32) × (Nat → Int32)) => z.2.2.2 5 = t 5) := by
  unfold fX7_next
  exact (fB' (fun x4 => (fB' (fun x8 => (fI (fI fN (fB' (fun x22 => (fI (fB r_X7_refused (fun x45 hx45 => (fR (hx45.trans rfl)))) (fI fN (fB' (fun x35 => (fB r_X7_done (fun x38 hx38 => (fR (hx38.trans rfl))))))))))) (fR rfl))))))
set_option maxRecDepth 100000 in
theorem r_X7_turn_44 {N K : Nat} {th : Int32} {f : Nat → Int32} {t : Nat → Int32} {p0 : Int32} : ∀ (s0 : Int32) (th_ : Int32) (f_ : Nat → Int32) (t_ : Nat → Int32) (e_v0 : Nat → Int32), t_ 5 = t 5 → Fr (fX7_turn_44 N K th f t p0  s0 th_ f_ t_ e_v0) (fun (z : Int32 × Int32 × (Nat → Int32) × (Nat → Int32)) => z.2.2.2 5 = t 5) := by
  intro s0 th_ f_ t_ e_v0 ht
  unfold fX7_turn_44
  exact (fB r_X7_laid (fun x48 hx48 => (fB' (fun x53 => (fR (hx48.trans ht))))))
set_option maxRecDepth 100000 in
theorem r_X7_turn {N K : Nat} {th : Int32} {f : Nat → Int32} {t : Nat → Int32} {p0 : Int32} : Fr (fX7_turn N K th f t p0) (fun (z : Int32 × Int32 × (Nat → Int32) × (Nat → Int32)) => z.2.2.2 5 = t 5) := by
  unfold fX7_turn
  exact (fB' (fun x4 => (fB' (fun x8 => (fI (fI fN (fB' (fun x22 => (fI fN (fB' (fun x33 => (fI (r_X7_turn_44 _ _ _ _ _ rfl) (r_X7_turn_44 _ _ _ _ _ rfl)))))))) (fR rfl))))))
set_option maxRecDepth 100000 in
theorem r_X7_toUnlike_83 {N K : Nat} {th : Int32} {f : Nat → Int32} {t : Nat → Int32} {p0 : Int32} {k_40 : Int32 → Int32 → (Nat → Int32) → (Nat → Int32) → (Nat → Int32) → Option (Int32 × Int32 × (Nat → Int32) × (Nat → Int32))} (hk_40 : ∀ (l3 : Int32) (th_ : Int32) (f_ : (Nat → Int32)) (t_ : (Nat → Int32)) (e_v0 : (Nat → Int32)), t_ 5 = t 5 → Fr (k_40 l3 th_ f_ t_ e_v0) (fun (z : Int32 × Int32 × (Nat → Int32) × (Nat → Int32)) => z.2.2.2 5 = t 5)) {k_49 : Int32 → Int32 → Int32 → (Nat → Int32) → (Nat → Int32) → (Nat → Int32) → Option (Int32 × Int32 × (Nat → Int32) × (Nat → Int32))} (hk_49 : ∀ (l3 : Int32) (l4 : Int32) (th_ : Int32) (f_ : (Nat → Int32)) (t_ : (Nat → Int32)) (e_v0 : (Nat → Int32)), t_ 5 = t 5 → Fr (k_49 l3 l4 th_ f_ t_ e_v0) (fun (z : Int32 × Int32 × (Nat → Int32) × (Nat → Int32)) => z.2.2.2 5 = t 5)) : ∀ (l3 : Int32) (l4 : Int32) (th_ : Int32) (f_ : Nat → Int32) (t_ : Nat → Int32) (e_v0 : Nat → Int32), t_ 5 = t 5 → Fr (fX7_toUnlike_83 N K th f t p0 k_40 k_49 l3 l4 th_ f_ t_ e_v0) (fun (z : Int32 × Int32 × (Nat → Int32) × (Nat → Int32)) => z.2.2.2 5 = t 5) := by
  intro l3 l4 th_ f_ t_ e_v0 ht
  unfold fX7_toUnlike_83
  exact (hk_49 _ _ _ _ _ _ ht)
set_option maxRecDepth 100000 in
theorem r_X7_toUnlike_49 {N K : Nat} {th : Int32} {f : Nat → Int32} {t : Nat → Int32} {p0 : Int32} {k_40 : Int32 → Int32 → (Nat → Int32) → (Nat → Int32) → (Nat → Int32) → Option (Int32 × Int32 × (Nat → Int32) × (Nat → Int32))} (hk_40 : ∀ (l3 : Int32) (th_ : Int32) (f_ : (Nat → Int32)) (t_ : (Nat → Int32)) (e_v0 : (Nat → Int32)), t_ 5 = t 5 → Fr (k_40 l3 th_ f_ t_ e_v0) (fun (z : Int32 × Int32 × (Nat → Int32) × (Nat → Int32)) => z.2.2.2 5 = t 5)) : ∀ (fu : Nat) (l3 : Int32) (l4 : Int32) (th_ : Int32) (f_ : (Nat → Int32)) (t_ : (Nat → Int32)) (e_v0 : (Nat → Int32)), t_ 5 = t 5 → Fr (fX7_toUnlike_49 N K th f t p0 k_40 fu l3 l4 th_ f_ t_ e_v0) (fun (z : Int32 × Int32 × (Nat → Int32) × (Nat → Int32)) => z.2.2.2 5 = t 5) := by
  intro fu
  induction fu with
  | zero => intros; exact fN
  | succ fu ih =>
    intro l3 l4 th_ f_ t_ e_v0 ht
    unfold fX7_toUnlike_49
    exact (fI (hk_40 _ _ _ _ _ ht) (fI fN (fI fN (fI fN (fI (fI fN (fI fN (r_X7_toUnlike_83 hk_40 ih _ _ _ _ _ _ ht))) (r_X7_toUnlike_83 hk_40 ih _ _ _ _ _ _ ht))))))
set_option maxRecDepth 100000 in
theorem r_X7_toUnlike_40 {N K : Nat} {th : Int32} {f : Nat → Int32} {t : Nat → Int32} {p0 : Int32} : ∀ (fu : Nat) (l3 : Int32) (th_ : Int32) (f_ : (Nat → Int32)) (t_ : (Nat → Int32)) (e_v0 : (Nat → Int32)), t_ 5 = t 5 → Fr (fX7_toUnlike_40 N K th f t p0  fu l3 th_ f_ t_ e_v0) (fun (z : Int32 × Int32 × (Nat → Int32) × (Nat → Int32)) => z.2.2.2 5 = t 5) := by
  intro fu
  induction fu with
  | zero => intros; exact fN
  | succ fu ih =>
    intro l3 th_ f_ t_ e_v0 ht
    unfold fX7_toUnlike_40
    exact (fI (fB r_X7_laid (fun x101 hx101 => (fR (hx101.trans ht)))) (r_X7_toUnlike_49 ih N _ _ _ _ _ _ ht))
set_option maxRecDepth 100000 in
theorem r_X7_toUnlike {N K : Nat} {th : Int32} {f : Nat → Int32} {t : Nat → Int32} {p0 : Int32} : Fr (fX7_toUnlike N K th f t p0) (fun (z : Int32 × Int32 × (Nat → Int32) × (Nat → Int32)) => z.2.2.2 5 = t 5) := by
  unfold fX7_toUnlike
  exact (fB' (fun x4 => (fB' (fun x8 => (fI (fI fN (fB' (fun x22 => (fI (fB r_X7_refused (fun x29 hx29 => (fR (hx29.trans rfl)))) (r_X7_toUnlike_40 N _ _ _ _ _ rfl))))) (fR rfl))))))
set_option maxRecDepth 100000 in
theorem r_X7_toOdd_49 {N K : Nat} {th : Int32} {f : Nat → Int32} {t : Nat → Int32} {p0 : Int32} {k_40 : Int32 → Int32 → (Nat → Int32) → (Nat → Int32) → (Nat → Int32) → Option (Int32 × Int32 × (Nat → Int32) × (Nat → Int32))} (hk_40 : ∀ (l3 : Int32) (th_ : Int32) (f_ : (Nat → Int32)) (t_ : (Nat → Int32)) (e_v0 : (Nat → Int32)), t_ 5 = t 5 → Fr (k_40 l3 th_ f_ t_ e_v0) (fun (z : Int32 × Int32 × (Nat → Int32) × (Nat → Int32)) => z.2.2.2 5 = t 5)) : ∀ (fu : Nat) (l3 : Int32) (l4 : Int32) (th_ : Int32) (f_ : (Nat → Int32)) (t_ : (Nat → Int32)) (e_v0 : (Nat → Int32)), t_ 5 = t 5 → Fr (fX7_toOdd_49 N K th f t p0 k_40 fu l3 l4 th_ f_ t_ e_v0) (fun (z : Int32 × Int32 × (Nat → Int32) × (Nat → Int32)) => z.2.2.2 5 = t 5) := by
  intro fu
  induction fu with
  | zero => intros; exact fN
  | succ fu ih =>
    intro l3 l4 th_ f_ t_ e_v0 ht
    unfold fX7_toOdd_49
    exact (fI fN (fI (ih _ _ _ _ _ _ ht) (fI fN (fI fN (fI fN (fI fN (fI fN (hk_40 _ _ _ _ _ ht))))))))
set_option maxRecDepth 100000 in
theorem r_X7_toOdd_40 {N K : Nat} {th : Int32} {f : Nat → Int32} {t : Nat → Int32} {p0 : Int32} : ∀ (fu : Nat) (l3 : Int32) (th_ : Int32) (f_ : (Nat → Int32)) (t_ : (Nat → Int32)) (e_v0 : (Nat → Int32)), t_ 5 = t 5 → Fr (fX7_toOdd_40 N K th f t p0  fu l3 th_ f_ t_ e_v0) (fun (z : Int32 × Int32 × (Nat → Int32) × (Nat → Int32)) => z.2.2.2 5 = t 5) := by
  intro fu
  induction fu with
  | zero => intros; exact fN
  | succ fu ih =>
    intro l3 th_ f_ t_ e_v0 ht
    unfold fX7_toOdd_40
    exact (fI (fB r_X7_laid (fun x96 hx96 => (fR (hx96.trans ht)))) (r_X7_toOdd_49 ih N _ _ _ _ _ _ ht))
set_option maxRecDepth 100000 in
theorem r_X7_toOdd {N K : Nat} {th : Int32} {f : Nat → Int32} {t : Nat → Int32} {p0 : Int32} : Fr (fX7_toOdd N K th f t p0) (fun (z : Int32 × Int32 × (Nat → Int32) × (Nat → Int32)) => z.2.2.2 5 = t 5) := by
  unfold fX7_toOdd
  exact (fB' (fun x4 => (fB' (fun x8 => (fI (fI fN (fB' (fun x22 => (fI (fB r_X7_refused (fun x29 hx29 => (fR (hx29.trans rfl)))) (r_X7_toOdd_40 N _ _ _ _ _ rfl))))) (fR rfl))))))
set_option maxRecDepth 100000 in
theorem r_X7_copyDesk {N K : Nat} {th : Int32} {f : Nat → Int32} {f2 : Nat → Int32} {t : Nat → Int32} {p0 : Int32} : Fr (fX7_copyDesk N K th f f2 t p0) (fun (z : Int32 × Int32 × (Nat → Int32) × (Nat → Int32)) => z.2.2.2 5 = t 5) := by
  unfold fX7_copyDesk
  exact (fB' (fun x4 => (fB' (fun x8 => (fI (fI fN (fB r_X7_laid (fun x26 hx26 => (fI fN (fB' (fun x36 => (fR (hx26.trans rfl)))))))) (fR rfl))))))

end MG_50tstays
section MG_60init
/-! ===== the beginning of both sides ===== -/
theorem init_x {N K : Nat} (hN : NBig N) : ∃ m l : Nat → Int32, (∀ p, m p = if p < 2646 then (-1 : Int32) else 0) ∧ (∀ p, l p = if p < 21 then (-1 : Int32) else 0) ∧ fX5_init N K = some ((0 : Int32), m, (0 : Int32), m, (0 : Int32), m, (0 : Int32), (0 : Int32), l, (1 : Int32), (0 : Int32), l, (2 : Int32), (0 : Int32), l, (fun _ => 0), (fun _ => 0), (0 : Int32), (0 : Int32), (0 : Int32), (0 : Int32), (0 : Int32), (0 : Int32), (fun _ => 0), (fun _ => 0), (fun _ => 0)) := by
  have hN9 := hN.u
  obtain ⟨m, h1, h2⟩ := c_fill (N := N) (K := K) (n := 2646) (f := fun _ => 0) (v := (-1 : Int32)) (by omega) (by omega)
  obtain ⟨l, h3, h4⟩ := c_fill (N := N) (K := K) (n := 21) (f := fun _ => 0) (v := (-1 : Int32)) (by omega) (by omega)
  refine ⟨m, l, h2, h4, ?_⟩
  unfold fX5_init fX2_init fX1_init fX4_init fX0_init fX3_init
  rw [h1, h3]
  rfl
theorem i78vv {N K : Nat} {th : Int32} {e2 e3 e6 e7 e8 e9 e10 e11 e12 : Nat → Int32} : ∀ k i fu (e1 : Nat → Int32), i + k = 6144 → k < fu → ∃ g, fX7_init_78vv N K th fu (Int32.ofNat i) e1 e2 e3 e6 e7 e8 e9 e10 e11 e12 = some (e2, e3, g, e8, e9, e10, e11, e12, e6, e7) ∧ ∀ p, g p = if i ≤ p ∧ p < 6144 then (-1 : Int32) else e1 p := by
  intro k
  induction k with
  | zero =>
    intro i fu e1 hi hfu
    obtain ⟨fu, rfl⟩ : ∃ m, fu = m + 1 := ⟨fu - 1, by omega⟩
    obtain rfl : i = 6144 := by omega
    refine ⟨e1, ?_, fun p => by rw [if_neg (by omega)]⟩
    unfold fX7_init_78vv
    rw [if_pos (by decide)]
  | succ k ih =>
    intro i fu e1 hi hfu
    obtain ⟨fu, rfl⟩ : ∃ m, fu = m + 1 := ⟨fu - 1, by omega⟩
    obtain ⟨g, h1, h2⟩ := ih (i + 1) fu (upd e1 i (-1 : Int32)) (by omega) (by omega)
    refine ⟨g, ?_, fun p => ?_⟩
    · unfold fX7_init_78vv
      rw [if_neg (by rw [show (6144 : Int32) = Int32.ofNat 6144 from rfl, o_le (by omega) (by omega)]; omega), if_neg (o_ob (by omega) (by omega)), o_c (by omega), o_1]
      exact h1
    · rw [h2 p]
      unfold upd
      by_cases a : i + 1 ≤ p ∧ p < 6144
      · rw [if_pos a, if_pos (by omega)]
      · rw [if_neg a]
        by_cases b : p = i
        · rw [if_pos b, if_pos (by omega)]
        · rw [if_neg b, if_neg (by omega)]
theorem i78v {N K : Nat} {th : Int32} {e2 e3 e6 e7 e8 e9 e10 e11 e12 : Nat → Int32} : ∀ k i fu (e1 : Nat → Int32), i + k = 6144 → k < fu → ∃ g, fX7_init_78v N K th fu (Int32.ofNat i) e1 e2 e3 e6 e7 e8 e9 e10 e11 e12 = fX7_init_78vv N K th N (Int32.ofNat 0) e3 e2 g e6 e7 e8 e9 e10 e11 e12 ∧ ∀ p, g p = if i ≤ p ∧ p < 6144 then (-1 : Int32) else e1 p := by
  intro k
  induction k with
  | zero =>
    intro i fu e1 hi hfu
    obtain ⟨fu, rfl⟩ : ∃ m, fu = m + 1 := ⟨fu - 1, by omega⟩
    obtain rfl : i = 6144 := by omega
    refine ⟨e1, ?_, fun p => by rw [if_neg (by omega)]⟩
    unfold fX7_init_78v
    rw [if_pos (by decide)]
    rfl
  | succ k ih =>
    intro i fu e1 hi hfu
    obtain ⟨fu, rfl⟩ : ∃ m, fu = m + 1 := ⟨fu - 1, by omega⟩
    obtain ⟨g, h1, h2⟩ := ih (i + 1) fu (upd e1 i (-1 : Int32)) (by omega) (by omega)
    refine ⟨g, ?_, fun p => ?_⟩
    · unfold fX7_init_78v
      rw [if_neg (by rw [show (6144 : Int32) = Int32.ofNat 6144 from rfl, o_le (by omega) (by omega)]; omega), if_neg (o_ob (by omega) (by omega)), o_c (by omega), o_1]
      exact h1
    · rw [h2 p]
      unfold upd
      by_cases a : i + 1 ≤ p ∧ p < 6144
      · rw [if_pos a, if_pos (by omega)]
      · rw [if_neg a]
        by_cases b : p = i
        · rw [if_pos b, if_pos (by omega)]
        · rw [if_neg b, if_neg (by omega)]
theorem i78 {N K : Nat} {th : Int32} {e2 e3 e6 e7 e8 e9 e10 e11 e12 : Nat → Int32} : ∀ k i fu (e1 : Nat → Int32), i + k = 6144 → k < fu → ∃ g, fX7_init_78 N K th fu (Int32.ofNat i) e1 e2 e3 e6 e7 e8 e9 e10 e11 e12 = fX7_init_78v N K th N (Int32.ofNat 0) e2 g e3 e6 e7 e8 e9 e10 e11 e12 ∧ ∀ p, g p = if i ≤ p ∧ p < 6144 then (-1 : Int32) else e1 p := by
  intro k
  induction k with
  | zero =>
    intro i fu e1 hi hfu
    obtain ⟨fu, rfl⟩ : ∃ m, fu = m + 1 := ⟨fu - 1, by omega⟩
    obtain rfl : i = 6144 := by omega
    refine ⟨e1, ?_, fun p => by rw [if_neg (by omega)]⟩
    unfold fX7_init_78
    rw [if_pos (by decide)]
    rfl
  | succ k ih =>
    intro i fu e1 hi hfu
    obtain ⟨fu, rfl⟩ : ∃ m, fu = m + 1 := ⟨fu - 1, by omega⟩
    obtain ⟨g, h1, h2⟩ := ih (i + 1) fu (upd e1 i (-1 : Int32)) (by omega) (by omega)
    refine ⟨g, ?_, fun p => ?_⟩
    · unfold fX7_init_78
      rw [if_neg (by rw [show (6144 : Int32) = Int32.ofNat 6144 from rfl, o_le (by omega) (by omega)]; omega), if_neg (o_ob (by omega) (by omega)), o_c (by omega), o_1]
      exact h1
    · rw [h2 p]
      unfold upd
      by_cases a : i + 1 ≤ p ∧ p < 6144
      · rw [if_pos a, if_pos (by omega)]
      · rw [if_neg a]
        by_cases b : p = i
        · rw [if_pos b, if_pos (by omega)]
        · rw [if_neg b, if_neg (by omega)]
theorem init_m {N K : Nat} (hN : NBig N) {th : Int32} : ∃ a b c : Nat → Int32, (∀ p, p < 6144 → a p = (-1 : Int32) ∧ b p = (-1 : Int32) ∧ c p = (-1 : Int32)) ∧ fX7_init N K th = some (a, b, c, (fun _ => 0), (fun _ => 0), (fun _ => 0), (fun _ => 0), (fun _ => 0), (fun _ => 0), (fun _ => 0)) := by
  have hN9 := hN.u
  obtain ⟨a, a1, a2⟩ := i78 (N := N) (K := K) (th := th) (e2 := fun _ => 0) (e3 := fun _ => 0) (e6 := fun _ => 0) (e7 := fun _ => 0) (e8 := fun _ => 0) (e9 := fun _ => 0) (e10 := fun _ => 0) (e11 := fun _ => 0) (e12 := fun _ => 0) 6144 0 N (fun _ => 0) rfl (by omega)
  obtain ⟨b, b1, b2⟩ := i78v (N := N) (K := K) (th := th) (e2 := a) (e3 := fun _ => 0) (e6 := fun _ => 0) (e7 := fun _ => 0) (e8 := fun _ => 0) (e9 := fun _ => 0) (e10 := fun _ => 0) (e11 := fun _ => 0) (e12 := fun _ => 0) 6144 0 N (fun _ => 0) rfl (by omega)
  obtain ⟨c, d1, d2⟩ := i78vv (N := N) (K := K) (th := th) (e2 := a) (e3 := b) (e6 := fun _ => 0) (e7 := fun _ => 0) (e8 := fun _ => 0) (e9 := fun _ => 0) (e10 := fun _ => 0) (e11 := fun _ => 0) (e12 := fun _ => 0) 6144 0 N (fun _ => 0) rfl (by omega)
  refine ⟨a, b, c, fun p h => ⟨by rw [a2 p, if_pos (by omega)], by rw [b2 p, if_pos (by omega)], by rw [d2 p, if_pos (by omega)]⟩, ?_⟩
  unfold fX7_init
  exact a1.trans (b1.trans d1)
def ixs (L : Nat) (i : Int32) : Prop := ∀ c : Int32, 0 ≤ c.toInt → c.toInt ≤ 5 → ¬ ((i + c) < 0 ∨ L ≤ (i + c).toNatClampNeg)
theorem ixs_of {L : Nat} {i : Int32} (h0 : 0 ≤ i.toInt) (h1 : i.toInt + 6 ≤ (L : Int)) (hL : L ≤ 384) : ixs L i := by
  intro c a b
  have e := addI (a := i) (b := c) (by omega) (by omega)
  exact noob (by omega) (by omega)

end MG_60init
section MG_60aapi
/-! ===== from the methods to the law ===== -/
theorem sMap {U V : Type} {u : Option U} {k : U → V} {Q : U → Prop} {P : V → Prop} (h : Sf u Q) (K : ∀ y, Q y → P (k y)) : Sf (u.map k) P := by
  obtain ⟨y, e, q⟩ := h
  exact ⟨k y, by rw [e]; rfl, K y q⟩
theorem sWb {U T : Type} {b1 b2 : Bool} {u : Option (U ⊕ String)} {kf : U → Option T} {k1 k2 : Option T} {Q : U → Prop} {P : T → Prop} (h : Sf u (xP b1 b2 Q)) (K : ∀ y, Q y → Sf (kf y) P) (h1 : b1 = true → Sf k1 P) (h2 : b2 = true → Sf k2 P) : Sf (wb u kf k1 k2) P := by
  obtain ⟨y, e, q⟩ := h
  rw [e]
  cases y with
  | inl a => exact K a q
  | inr E =>
    rcases q with ⟨a, rfl⟩ | ⟨a, rfl⟩
    · exact h1 a
    · exact h2 a
def OkX (S : CS) : Prop := ∀ j, OkD (S.2.2.1 j)
def OkN (M : MS) : Prop := ∀ j, OkD (M.2.2.1 j)
def c5 (S : CS) : Int32 := S.2.2.2.1 5
def t5 (M : MS) : Int32 := M.2.2.2.1 5
/-- what stays: memories, ledgers, desks -/
def Ux (a b c : Bool) (S z : CS) : Prop := (a = true → z.1 = S.1) ∧ (b = true → z.2.1 = S.2.1) ∧ (c = true → z.2.2.1 = S.2.2.1)
def Um (a b c : Bool) (M z : MS) : Prop := (a = true → z.1 = M.1) ∧ (b = true → z.2.1 = M.2.1) ∧ (c = true → z.2.2.1 = M.2.2.1)
theorem Ux.r {a b c : Bool} {S : CS} : Ux a b c S S := ⟨fun _ => rfl, fun _ => rfl, fun _ => rfl⟩
theorem okd_upm {d : Nat → Nat → Int32} (h : ∀ j, OkD (d j)) {i : Nat} {v : Nat → Int32} (hv : OkD v) : ∀ j, OkD (upm d i v j) := by
  intro j
  unfold upm
  by_cases e : j = i
  · rw [if_pos e]; exact hv
  · rw [if_neg e]; exact h j
/-- an outcome that throws nothing -/
def iL {U : Type} (o : U ⊕ String) : Prop := ∃ z, o = .inl z
theorem nXb {U V : Type} {u : Option (U ⊕ String)} {k : U → Option (V ⊕ String)} {P : V ⊕ String → Prop} (h : Fr u iL) (K : ∀ z, Fr (k z) P) : Fr (xb u k) P := by
  intro x e
  cases u with
  | none => cases e
  | some y =>
    cases y with
    | inl a => exact K a x e
    | inr E => obtain ⟨z, hz⟩ := h _ rfl; cases hz
theorem fIf {T : Type} {P : T → Prop} {C : Prop} {dc : Decidable C} {A B : Option T} (h : ¬ C) (b : Fr B P) : Fr (if C then A else B) P := by rw [if_neg h]; exact b
theorem fIt {T : Type} {P : T → Prop} {C : Prop} {dc : Decidable C} {A B : Option T} (h : C) (b : Fr A P) : Fr (if C then A else B) P := by rw [if_pos h]; exact b
theorem n_X5_memoryAt {N K : Nat} {p0 : Int32} (h1 : ¬ p0 < 0) (h2 : p0 < (3 : Int32)) : Fr (fX5_memoryAt N K p0) iL := by
  unfold fX5_memoryAt
  exact fIf h1 (fIt h2 (fI fN (fR ⟨_, rfl⟩)))
theorem n_X5_ledgerAt {N K : Nat} {p0 : Int32} (h1 : ¬ p0 < 0) (h2 : p0 < (3 : Int32)) : Fr (fX5_ledgerAt N K p0) iL := by
  unfold fX5_ledgerAt
  exact fIf h1 (fIt h2 (fI fN (fR ⟨_, rfl⟩)))
theorem n_X5_deskAt {N K : Nat} {p0 : Int32} (h1 : ¬ p0 < 0) (h2 : p0 < (2 : Int32)) : Fr (fX5_deskAt N K p0) iL := by
  unfold fX5_deskAt
  exact fIf h1 (fIt h2 (fI fN (fR ⟨_, rfl⟩)))
theorem n_X5_checkRange {N K : Nat} {p0 p1 p2 : Int32} (h1 : ¬ p0 < p1) (h2 : p0 ≤ p2) : Fr (fX5_checkRange N K p0 p1 p2) iL := by
  unfold fX5_checkRange
  exact fIf h1 (fIt h2 (fR ⟨_, rfl⟩))
theorem n_X5_about {N K : Nat} {sz : Int32} {f : Nat → Int32} {p0 p1 : Int32} (h1 : ¬ p0 < 0) (h2 : p0 < (3 : Int32)) (h3 : ¬ p1 < (0 : Int32)) (h4 : p1 ≤ (3 : Int32)) : Fr (fX5_about N K sz f p0 p1) iL := by
  unfold fX5_about
  exact nXb (n_X5_memoryAt h1 h2) (fun _ => nXb (n_X5_checkRange h3 h4) (fun _ => fI (fB' (fun _ => fR ⟨_, rfl⟩)) (fI (fB' (fun _ => fR ⟨_, rfl⟩)) (fI (fB' (fun _ => fR ⟨_, rfl⟩)) (fB' (fun _ => fI (fR ⟨_, rfl⟩) (fR ⟨_, rfl⟩)))))))
theorem n_X5_ledger {N K : Nat} {ru sz : Int32} {f : Nat → Int32} {p0 p1 : Int32} (h1 : ¬ p0 < 0) (h2 : p0 < (3 : Int32)) (h3 : ¬ p1 < (0 : Int32)) (h4 : p1 ≤ (1 : Int32)) : Fr (fX5_ledger N K ru sz f p0 p1) iL := by
  unfold fX5_ledger
  exact nXb (n_X5_ledgerAt h1 h2) (fun _ => nXb (n_X5_checkRange h3 h4) (fun _ => fI (fB' (fun _ => fR ⟨_, rfl⟩)) (fB' (fun _ => fR ⟨_, rfl⟩))))
theorem n_X5_times {N K : Nat} {f : Nat → Int32} {p0 p1 : Int32} (h1 : ¬ p0 < 0) (h2 : p0 < (2 : Int32)) (h3 : ¬ p1 < (1 : Int32)) (h4 : p1 ≤ (20 : Int32)) : Fr (fX5_times N K f p0 p1) iL := by
  unfold fX5_times
  exact nXb (n_X5_deskAt h1 h2) (fun _ => nXb (n_X5_checkRange h3 h4) (fun _ => fB' (fun _ => fR ⟨_, rfl⟩)))
theorem n_X5_way {N K : Nat} {f : Nat → Int32} {p0 p1 : Int32} (h1 : ¬ p0 < 0) (h2 : p0 < (2 : Int32)) (h3 : ¬ p1 < (0 : Int32)) (h4 : p1 ≤ (2 : Int32)) : Fr (fX5_way N K f p0 p1) iL := by
  unfold fX5_way
  exact nXb (n_X5_deskAt h1 h2) (fun _ => nXb (n_X5_checkRange h3 h4) (fun _ => fI (fB' (fun _ => fR ⟨_, rfl⟩)) (fI (fB' (fun _ => fR ⟨_, rfl⟩)) (fB' (fun _ => fR ⟨_, rfl⟩)))))
theorem n_X5_tally {N K : Nat} {c0 c1 c2 c3 c4 c5 p0 : Int32} (h3 : ¬ p0 < (0 : Int32)) (h4 : p0 ≤ (5 : Int32)) : Fr (fX5_tally N K c0 c1 c2 c3 c4 c5 p0) iL := by
  unfold fX5_tally
  exact nXb (n_X5_checkRange h3 h4) (fun _ => fI (fR ⟨_, rfl⟩) (fI (fR ⟨_, rfl⟩) (fI (fR ⟨_, rfl⟩) (fI (fR ⟨_, rfl⟩) (fI (fR ⟨_, rfl⟩) (fR ⟨_, rfl⟩))))))
set_option maxRecDepth 100000 in
set_option maxHeartbeats 4000000 in
theorem n_X5_isSameWay {N K : Nat} {f : Nat → Int32} {f2 : Nat → Int32} : Fr (fX5_isSameWay N K f f2) iL := by
  unfold fX5_isSameWay
  exact (nXb (n_X5_deskAt (by decide) (by decide)) (fun x2 => (nXb (n_X5_deskAt (by decide) (by decide)) (fun x7 => (fB' (fun x10 => (fI (fR ⟨_, rfl⟩) fN)))))))
set_option maxRecDepth 100000 in
set_option maxHeartbeats 4000000 in
theorem n_X5_digest {N K : Nat} {ms0 : Int32} {mf0 : Nat → Int32} {ms1 : Int32} {mf1 : Nat → Int32} {ms2 : Int32} {mf2 : Nat → Int32} {ru0 : Int32} {ls0 : Int32} {lf0 : Nat → Int32} {ru1 : Int32} {ls1 : Int32} {lf1 : Nat → Int32} {ru2 : Int32} {ls2 : Int32} {lf2 : Nat → Int32} {df0 : Nat → Int32} {df1 : Nat → Int32} {c0 : Int32} {c1 : Int32} {c2 : Int32} {c3 : Int32} {c4 : Int32} {c5 : Int32} : Fr (fX5_digest N K ms0 mf0 ms1 mf1 ms2 mf2 ru0 ls0 lf0 ru1 ls1 lf1 ru2 ls2 lf2 df0 df1 c0 c1 c2 c3 c4 c5) iL := by
  unfold fX5_digest
  exact (nXb (n_X5_about (by decide) (by decide) (by decide) (by decide)) (fun x19 => (nXb (n_X5_about (by decide) (by decide) (by decide) (by decide)) (fun x33 => (nXb (n_X5_about (by decide) (by decide) (by decide) (by decide)) (fun x19_1 => (nXb (n_X5_about (by decide) (by decide) (by decide) (by decide)) (fun x33_1 => (nXb (n_X5_about (by decide) (by decide) (by decide) (by decide)) (fun x19_2 => (nXb (n_X5_about (by decide) (by decide) (by decide) (by decide)) (fun x33_2 => (nXb (n_X5_ledger (by decide) (by decide) (by decide) (by decide)) (fun x60 => (nXb (n_X5_ledger (by decide) (by decide) (by decide) (by decide)) (fun x74 => (nXb (n_X5_ledger (by decide) (by decide) (by decide) (by decide)) (fun x60_1 => (nXb (n_X5_ledger (by decide) (by decide) (by decide) (by decide)) (fun x74_1 => (nXb (n_X5_ledger (by decide) (by decide) (by decide) (by decide)) (fun x60_2 => (nXb (n_X5_ledger (by decide) (by decide) (by decide) (by decide)) (fun x74_2 => (nXb (n_X5_way (by decide) (by decide) (by decide) (by decide)) (fun x101 => (nXb (n_X5_way (by decide) (by decide) (by decide) (by decide)) (fun x115 => (nXb (n_X5_times (by decide) (by decide) (by decide) (by decide)) (fun x140 => (nXb (n_X5_times (by decide) (by decide) (by decide) (by decide)) (fun x140_1 => (nXb (n_X5_times (by decide) (by decide) (by decide) (by decide)) (fun x140_2 => (nXb (n_X5_times (by decide) (by decide) (by decide) (by decide)) (fun x140_3 => (nXb (n_X5_times (by decide) (by decide) (by decide) (by decide)) (fun x140_4 => (nXb (n_X5_times (by decide) (by decide) (by decide) (by decide)) (fun x140_5 => (nXb (n_X5_times (by decide) (by decide) (by decide) (by decide)) (fun x140_6 => (nXb (n_X5_times (by decide) (by decide) (by decide) (by decide)) (fun x140_7 => (nXb (n_X5_times (by decide) (by decide) (by decide) (by decide)) (fun x140_8 => (nXb (n_X5_times (by decide) (by decide) (by decide) (by decide)) (fun x140_9 => (nXb (n_X5_times (by decide) (by decide) (by decide) (by decide)) (fun x140_10 => (nXb (n_X5_times (by decide) (by decide) (by decide) (by decide)) (fun x140_11 => (nXb (n_X5_times (by decide) (by decide) (by decide) (by decide)) (fun x140_12 => (nXb (n_X5_times (by decide) (by decide) (by decide) (by decide)) (fun x140_13 => (nXb (n_X5_times (by decide) (by decide) (by decide) (by decide)) (fun x140_14 => (nXb (n_X5_times (by decide) (by decide) (by decide) (by decide)) (fun x140_15 => (nXb (n_X5_times (by decide) (by decide) (by decide) (by decide)) (fun x140_16 => (nXb (n_X5_times (by decide) (by decide) (by decide) (by decide)) (fun x140_17 => (nXb (n_X5_times (by decide) (by decide) (by decide) (by decide)) (fun x140_18 => (nXb (n_X5_times (by decide) (by decide) (by decide) (by decide)) (fun x140_19 => (nXb (n_X5_way (by decide) (by decide) (by decide) (by decide)) (fun x101_1 => (nXb (n_X5_way (by decide) (by decide) (by decide) (by decide)) (fun x115_1 => (nXb (n_X5_times (by decide) (by decide) (by decide) (by decide)) (fun x140_20 => (nXb (n_X5_times (by decide) (by decide) (by decide) (by decide)) (fun x140_21 => (nXb (n_X5_times (by decide) (by decide) (by decide) (by decide)) (fun x140_22 => (nXb (n_X5_times (by decide) (by decide) (by decide) (by decide)) (fun x140_23 => (nXb (n_X5_times (by decide) (by decide) (by decide) (by decide)) (fun x140_24 => (nXb (n_X5_times (by decide) (by decide) (by decide) (by decide)) (fun x140_25 => (nXb (n_X5_times (by decide) (by decide) (by decide) (by decide)) (fun x140_26 => (nXb (n_X5_times (by decide) (by decide) (by decide) (by decide)) (fun x140_27 => (nXb (n_X5_times (by decide) (by decide) (by decide) (by decide)) (fun x140_28 => (nXb (n_X5_times (by decide) (by decide) (by decide) (by decide)) (fun x140_29 => (nXb (n_X5_times (by decide) (by decide) (by decide) (by decide)) (fun x140_30 => (nXb (n_X5_times (by decide) (by decide) (by decide) (by decide)) (fun x140_31 => (nXb (n_X5_times (by decide) (by decide) (by decide) (by decide)) (fun x140_32 => (nXb (n_X5_times (by decide) (by decide) (by decide) (by decide)) (fun x140_33 => (nXb (n_X5_times (by decide) (by decide) (by decide) (by decide)) (fun x140_34 => (nXb (n_X5_times (by decide) (by decide) (by decide) (by decide)) (fun x140_35 => (nXb (n_X5_times (by decide) (by decide) (by decide) (by decide)) (fun x140_36 => (nXb (n_X5_times (by decide) (by decide) (by decide) (by decide)) (fun x140_37 => (nXb (n_X5_times (by decide) (by decide) (by decide) (by decide)) (fun x140_38 => (nXb (n_X5_times (by decide) (by decide) (by decide) (by decide)) (fun x140_39 => (nXb (n_X5_tally (by decide) (by decide)) (fun x172 => (nXb (n_X5_tally (by decide) (by decide)) (fun x172_1 => (nXb (n_X5_tally (by decide) (by decide)) (fun x172_2 => (nXb (n_X5_tally (by decide) (by decide)) (fun x172_3 => (nXb (n_X5_tally (by decide) (by decide)) (fun x172_4 => (nXb (n_X5_tally (by decide) (by decide)) (fun x172_5 => (fR ⟨_, rfl⟩)))))))))))))))))))))))))))))))))))))))))))))))))))))))))))))))))))))))))))))))))))))))))))))))))))))))))))))))))))))))))))))
theorem aX_know {N K : Nat} {S : CS} {p0 : Int32} {p1 : Int32} {p2 : Int32} {p3 : Int32} (hN : NBig N) (hK : 100 ≤ K) (h : OkX S) : Sf (gX_know N K S p0 p1 p2 p3) (xP true true (fun (z : Int32 × CS) => OkX z.2 ∧ c5 z.2 = c5 S ∧ Ux false true true S z.2)) := by
  unfold gX_know
  refine sMap (s_X5_know hN hK) (fun o q => ?_)
  cases o with
  | inl z => exact And.intro h (And.intro rfl (And.intro (fun e => Bool.noConfusion e) (And.intro (fun _ => rfl) (fun _ => rfl))))
  | inr E => exact q
theorem aX_few {N K : Nat} {S : CS} {p0 : Int32} {p1 : Int32} {p2 : Int32} (hN : NBig N) (hK : 100 ≤ K) (h : OkX S) : Sf (gX_few N K S p0 p1 p2) (xP true true (fun (z : Int32 × CS) => OkX z.2 ∧ c5 z.2 = c5 S ∧ Ux false true true S z.2)) := by
  unfold gX_few
  refine sMap (s_X5_few hN hK) (fun o q => ?_)
  cases o with
  | inl z => exact And.intro h (And.intro rfl (And.intro (fun e => Bool.noConfusion e) (And.intro (fun _ => rfl) (fun _ => rfl))))
  | inr E => exact q
theorem aX_surplus {N K : Nat} {S : CS} {p0 : Int32} {p1 : Int32} (hN : NBig N) (hK : 100 ≤ K) (h : OkX S) : Sf (gX_surplus N K S p0 p1) (xP true true (fun (z : Int32 × CS) => OkX z.2 ∧ c5 z.2 = c5 S ∧ Ux false true true S z.2)) := by
  unfold gX_surplus
  refine sMap (s_X5_surplus hN hK) (fun o q => ?_)
  cases o with
  | inl z => exact And.intro h (And.intro rfl (And.intro (fun e => Bool.noConfusion e) (And.intro (fun _ => rfl) (fun _ => rfl))))
  | inr E => exact q
theorem aX_place {N K : Nat} {S : CS} {p0 : Int32} {p1 : Int32} (hN : NBig N) (hK : 100 ≤ K) (h : OkX S) : Sf (gX_place N K S p0 p1) (xP true false (fun (z : Int32 × CS) => OkX z.2 ∧ c5 z.2 = c5 S ∧ Ux false true true S z.2)) := by
  unfold gX_place
  refine sMap (s_X5_place hN hK) (fun o q => ?_)
  cases o with
  | inl z => exact And.intro h (And.intro rfl (And.intro (fun e => Bool.noConfusion e) (And.intro (fun _ => rfl) (fun _ => rfl))))
  | inr E => exact q
theorem aX_learn {N K : Nat} {S : CS} {p0 : Int32} {p1 : Int32} {p2 : Int32} {p3 : Int32} (hN : NBig N) (hK : 100 ≤ K) (h : OkX S) : Sf (gX_learn N K S p0 p1 p2 p3) (xP true true (fun (z : Int32 × CS) => OkX z.2 ∧ c5 z.2 = c5 S ∧ Ux false true true S z.2)) := by
  unfold gX_learn
  refine sMap (s_X5_learn hN hK) (fun o q => ?_)
  cases o with
  | inl z => exact And.intro h (And.intro rfl (And.intro (fun e => Bool.noConfusion e) (And.intro (fun _ => rfl) (fun _ => rfl))))
  | inr E => exact q
theorem aX_relearn {N K : Nat} {S : CS} {p0 : Int32} {p1 : Int32} {p2 : Int32} {p3 : Int32} (hN : NBig N) (hK : 100 ≤ K) (h : OkX S) : Sf (gX_relearn N K S p0 p1 p2 p3) (xP true true (fun (z : Int32 × CS) => OkX z.2 ∧ c5 z.2 = c5 S ∧ Ux false true true S z.2)) := by
  unfold gX_relearn
  refine sMap (s_X5_relearn hN hK) (fun o q => ?_)
  cases o with
  | inl z => exact And.intro h (And.intro rfl (And.intro (fun e => Bool.noConfusion e) (And.intro (fun _ => rfl) (fun _ => rfl))))
  | inr E => exact q
theorem aX_forget {N K : Nat} {S : CS} {p0 : Int32} {p1 : Int32} {p2 : Int32} {p3 : Int32} (hN : NBig N) (hK : 100 ≤ K) (h : OkX S) : Sf (gX_forget N K S p0 p1 p2 p3) (xP true true (fun (z : Int32 × CS) => OkX z.2 ∧ c5 z.2 = c5 S ∧ Ux false true true S z.2)) := by
  unfold gX_forget
  refine sMap (s_X5_forget hN hK) (fun o q => ?_)
  cases o with
  | inl z => exact And.intro h (And.intro rfl (And.intro (fun e => Bool.noConfusion e) (And.intro (fun _ => rfl) (fun _ => rfl))))
  | inr E => exact q
theorem aX_forgetIf {N K : Nat} {S : CS} {p0 : Int32} {p1 : Int32} {p2 : Int32} {p3 : Int32} {p4 : Int32} (hN : NBig N) (hK : 100 ≤ K) (h : OkX S) : Sf (gX_forgetIf N K S p0 p1 p2 p3 p4) (xP true true (fun (z : Int32 × CS) => OkX z.2 ∧ c5 z.2 = c5 S ∧ Ux false true true S z.2)) := by
  unfold gX_forgetIf
  refine sMap (s_X5_forgetIf hN hK) (fun o q => ?_)
  cases o with
  | inl z => exact And.intro h (And.intro rfl (And.intro (fun e => Bool.noConfusion e) (And.intro (fun _ => rfl) (fun _ => rfl))))
  | inr E => exact q
theorem aX_forgetAll {N K : Nat} {S : CS} {p0 : Int32} {p1 : Int32} {p2 : Int32} (hN : NBig N) (hK : 100 ≤ K) (h : OkX S) : Sf (gX_forgetAll N K S p0 p1 p2) (xP true true (fun (z : Int32 × CS) => OkX z.2 ∧ c5 z.2 = c5 S ∧ Ux false true true S z.2)) := by
  unfold gX_forgetAll
  refine sMap (s_X5_forgetAll hN hK) (fun o q => ?_)
  cases o with
  | inl z => exact And.intro h (And.intro rfl (And.intro (fun e => Bool.noConfusion e) (And.intro (fun _ => rfl) (fun _ => rfl))))
  | inr E => exact q
theorem aX_clear {N K : Nat} {S : CS} {p0 : Int32} (hN : NBig N) (hK : 100 ≤ K) (h : OkX S) : Sf (gX_clear N K S p0) (xP true false (fun (z : Int32 × CS) => OkX z.2 ∧ c5 z.2 = c5 S ∧ Ux false true true S z.2)) := by
  unfold gX_clear
  refine sMap (s_X5_clear hN hK) (fun o q => ?_)
  cases o with
  | inl z => exact And.intro h (And.intro rfl (And.intro (fun e => Bool.noConfusion e) (And.intro (fun _ => rfl) (fun _ => rfl))))
  | inr E => exact q
theorem aX_copy {N K : Nat} {S : CS} {p0 : Int32} {p1 : Int32} (hN : NBig N) (hK : 100 ≤ K) (h : OkX S) : Sf (gX_copy N K S p0 p1) (xP true false (fun (z : Int32 × CS) => OkX z.2 ∧ c5 z.2 = c5 S ∧ Ux false true true S z.2)) := by
  unfold gX_copy
  by_cases e0 : p0 = p1
  · rw [if_pos e0]
    refine sMap (s_X5_copyOwn hN hK) (fun o q => ?_)
    cases o with
    | inl z => exact And.intro h (And.intro rfl (And.intro (fun e => Bool.noConfusion e) (And.intro (fun _ => rfl) (fun _ => rfl))))
    | inr E => exact q
  · rw [if_neg e0]
    refine sMap (s_X5_copy hN hK) (fun o q => ?_)
    cases o with
    | inl z => exact And.intro h (And.intro rfl (And.intro (fun e => Bool.noConfusion e) (And.intro (fun _ => rfl) (fun _ => rfl))))
    | inr E => exact q
theorem aX_pour {N K : Nat} {S : CS} {p0 : Int32} {p1 : Int32} (hN : NBig N) (hK : 100 ≤ K) (h : OkX S) : Sf (gX_pour N K S p0 p1) (xP true false (fun (z : Int32 × CS) => OkX z.2 ∧ c5 z.2 = c5 S ∧ Ux false true true S z.2)) := by
  unfold gX_pour
  by_cases e0 : p0 = p1
  · rw [if_pos e0]
    refine sMap (s_X5_pourOwn hN hK) (fun o q => ?_)
    cases o with
    | inl z => exact And.intro h (And.intro rfl (And.intro (fun e => Bool.noConfusion e) (And.intro (fun _ => rfl) (fun _ => rfl))))
    | inr E => exact q
  · rw [if_neg e0]
    refine sMap (s_X5_pour hN hK) (fun o q => ?_)
    cases o with
    | inl z => exact And.intro h (And.intro rfl (And.intro (fun e => Bool.noConfusion e) (And.intro (fun _ => rfl) (fun _ => rfl))))
    | inr E => exact q
theorem aX_isKept {N K : Nat} {S : CS} {p0 : Int32} {p1 : Int32} {p2 : Int32} {p3 : Int32} {p4 : Int32} (hN : NBig N) (hK : 100 ≤ K) (h : OkX S) : Sf (gX_isKept N K S p0 p1 p2 p3 p4) (xP true true (fun (z : Int32 × CS) => OkX z.2 ∧ c5 z.2 = c5 S ∧ Ux true true true S z.2)) := by
  unfold gX_isKept
  refine sMap (s_X5_isKept hN hK) (fun o q => ?_)
  cases o with
  | inl z => exact And.intro h (And.intro rfl (And.intro (fun _ => rfl) (And.intro (fun _ => rfl) (fun _ => rfl))))
  | inr E => exact q
theorem aX_worthOr {N K : Nat} {S : CS} {p0 : Int32} {p1 : Int32} {p2 : Int32} {p3 : Int32} {p4 : Int32} (hN : NBig N) (hK : 100 ≤ K) (h : OkX S) : Sf (gX_worthOr N K S p0 p1 p2 p3 p4) (xP true true (fun (z : Int32 × CS) => OkX z.2 ∧ c5 z.2 = c5 S ∧ Ux true true true S z.2)) := by
  unfold gX_worthOr
  refine sMap (s_X5_worthOr hN hK) (fun o q => ?_)
  cases o with
  | inl z => exact And.intro h (And.intro rfl (And.intro (fun _ => rfl) (And.intro (fun _ => rfl) (fun _ => rfl))))
  | inr E => exact q
theorem aX_confirm {N K : Nat} {S : CS} {p0 : Int32} {p1 : Int32} {p2 : Int32} {p3 : Int32} {p4 : Int32} (hN : NBig N) (hK : 100 ≤ K) (h : OkX S) : Sf (gX_confirm N K S p0 p1 p2 p3 p4) (xP true true (fun (z : Int32 × CS) => OkX z.2 ∧ c5 z.2 = c5 S ∧ Ux true true true S z.2)) := by
  unfold gX_confirm
  refine sMap (s_X5_confirm hN hK) (fun o q => ?_)
  cases o with
  | inl z => exact And.intro h (And.intro rfl (And.intro (fun _ => rfl) (And.intro (fun _ => rfl) (fun _ => rfl))))
  | inr E => exact q
theorem aX_about {N K : Nat} {S : CS} {p0 : Int32} {p1 : Int32} (hN : NBig N) (hK : 100 ≤ K) (h : OkX S) : Sf (gX_about N K S p0 p1) (xP true true (fun (z : Int32 × CS) => OkX z.2 ∧ c5 z.2 = c5 S ∧ Ux true true true S z.2)) := by
  unfold gX_about
  refine sMap (s_X5_about hN hK) (fun o q => ?_)
  cases o with
  | inl z => exact And.intro h (And.intro rfl (And.intro (fun _ => rfl) (And.intro (fun _ => rfl) (fun _ => rfl))))
  | inr E => exact q
theorem aX_has {N K : Nat} {S : CS} {p0 : Int32} {p1 : Int32} (hN : NBig N) (hK : 100 ≤ K) (h : OkX S) : Sf (gX_has N K S p0 p1) (xP true false (fun (z : Int32 × CS) => OkX z.2 ∧ c5 z.2 = c5 S ∧ Ux true true true S z.2)) := by
  unfold gX_has
  refine sMap (s_X5_has hN hK) (fun o q => ?_)
  cases o with
  | inl z => exact And.intro h (And.intro rfl (And.intro (fun _ => rfl) (And.intro (fun _ => rfl) (fun _ => rfl))))
  | inr E => exact q
theorem aX_count {N K : Nat} {S : CS} {p0 : Int32} {p1 : Int32} {p2 : Int32} (hN : NBig N) (hK : 100 ≤ K) (h : OkX S) : Sf (gX_count N K S p0 p1 p2) (xP true true (fun (z : Int32 × CS) => OkX z.2 ∧ c5 z.2 = c5 S ∧ Ux true true true S z.2)) := by
  unfold gX_count
  refine sMap (s_X5_count hN hK) (fun o q => ?_)
  cases o with
  | inl z => exact And.intro h (And.intro rfl (And.intro (fun _ => rfl) (And.intro (fun _ => rfl) (fun _ => rfl))))
  | inr E => exact q
theorem aX_isSame {N K : Nat} {S : CS} {p0 : Int32} {p1 : Int32} (hN : NBig N) (hK : 100 ≤ K) (h : OkX S) : Sf (gX_isSame N K S p0 p1) (xP true false (fun (z : Int32 × CS) => OkX z.2 ∧ c5 z.2 = c5 S ∧ Ux true true true S z.2)) := by
  unfold gX_isSame
  by_cases e0 : p0 = p1
  · rw [if_pos e0]
    refine sMap (s_X5_isSameOwn hN hK) (fun o q => ?_)
    cases o with
    | inl z => exact And.intro h (And.intro rfl (And.intro (fun _ => rfl) (And.intro (fun _ => rfl) (fun _ => rfl))))
    | inr E => exact q
  · rw [if_neg e0]
    refine sMap (s_X5_isSame hN hK) (fun o q => ?_)
    cases o with
    | inl z => exact And.intro h (And.intro rfl (And.intro (fun _ => rfl) (And.intro (fun _ => rfl) (fun _ => rfl))))
    | inr E => exact q
theorem aX_walk {N K : Nat} {S : CS} {p0 : Int32} {p1 : Int32} {p2 : Int32} (hN : NBig N) (hK : 100 ≤ K) (h : OkX S) : Sf (gX_walk N K S p0 p1 p2) (xP false true (fun (z : Int32 × CS) => OkX z.2 ∧ c5 z.2 = c5 S ∧ Ux true true true S z.2)) := by
  unfold gX_walk
  refine sMap (s_X5_walk hN hK) (fun o q => ?_)
  cases o with
  | inl z => exact And.intro h (And.intro rfl (And.intro (fun _ => rfl) (And.intro (fun _ => rfl) (fun _ => rfl))))
  | inr E => exact q
theorem aX_product {N K : Nat} {S : CS} {p0 : Int32} {p1 : Int32} {p2 : Int32} (hN : NBig N) (hK : 100 ≤ K) (h : OkX S) : Sf (gX_product N K S p0 p1 p2) (xP false true (fun (z : Int32 × CS) => OkX z.2 ∧ c5 z.2 = c5 S ∧ Ux true true true S z.2)) := by
  unfold gX_product
  refine sMap (s_X5_product hN hK) (fun o q => ?_)
  cases o with
  | inl z => exact And.intro h (And.intro rfl (And.intro (fun _ => rfl) (And.intro (fun _ => rfl) (fun _ => rfl))))
  | inr E => exact q
theorem aX_rule {N K : Nat} {S : CS} {p0 : Int32} {p1 : Int32} (hN : NBig N) (hK : 100 ≤ K) (h : OkX S) : Sf (gX_rule N K S p0 p1) (xP true true (fun (z : Int32 × CS) => OkX z.2 ∧ c5 z.2 = c5 S ∧ Ux true false true S z.2)) := by
  unfold gX_rule
  refine sMap (s_X5_rule hN hK) (fun o q => ?_)
  cases o with
  | inl z => exact And.intro h (And.intro rfl (And.intro (fun _ => rfl) (And.intro (fun e => Bool.noConfusion e) (fun _ => rfl))))
  | inr E => exact q
theorem aX_forgetRule {N K : Nat} {S : CS} {p0 : Int32} {p1 : Int32} (hN : NBig N) (hK : 100 ≤ K) (h : OkX S) : Sf (gX_forgetRule N K S p0 p1) (xP true true (fun (z : Int32 × CS) => OkX z.2 ∧ c5 z.2 = c5 S ∧ Ux true false true S z.2)) := by
  unfold gX_forgetRule
  refine sMap (s_X5_forgetRule hN hK) (fun o q => ?_)
  cases o with
  | inl z => exact And.intro h (And.intro rfl (And.intro (fun _ => rfl) (And.intro (fun e => Bool.noConfusion e) (fun _ => rfl))))
  | inr E => exact q
theorem aX_ledger {N K : Nat} {S : CS} {p0 : Int32} {p1 : Int32} (hN : NBig N) (hK : 100 ≤ K) (h : OkX S) : Sf (gX_ledger N K S p0 p1) (xP true true (fun (z : Int32 × CS) => OkX z.2 ∧ c5 z.2 = c5 S ∧ Ux true true true S z.2)) := by
  unfold gX_ledger
  refine sMap (s_X5_ledger hN hK) (fun o q => ?_)
  cases o with
  | inl z => exact And.intro h (And.intro rfl (And.intro (fun _ => rfl) (And.intro (fun _ => rfl) (fun _ => rfl))))
  | inr E => exact q
theorem aX_ruleWorth {N K : Nat} {S : CS} {p0 : Int32} {p1 : Int32} {p2 : Int32} (hN : NBig N) (hK : 100 ≤ K) (h : OkX S) : Sf (gX_ruleWorth N K S p0 p1 p2) (xP true true (fun (z : Int32 × CS) => OkX z.2 ∧ c5 z.2 = c5 S ∧ Ux true true true S z.2)) := by
  unfold gX_ruleWorth
  refine sMap (s_X5_ruleWorth hN hK) (fun o q => ?_)
  cases o with
  | inl z => exact And.intro h (And.intro rfl (And.intro (fun _ => rfl) (And.intro (fun _ => rfl) (fun _ => rfl))))
  | inr E => exact q
theorem aX_addPart {N K : Nat} {S : CS} {p0 : Int32} {p1 : Int32} {p2 : Int32} (hN : NBig N) (hK : 100 ≤ K) (h : OkX S) : Sf (gX_addPart N K S p0 p1 p2) (xP true true (fun (z : Int32 × CS) => OkX z.2 ∧ c5 z.2 = c5 S ∧ Ux true true false S z.2)) := by
  unfold gX_addPart
  refine sMap (s_X5_addPart hN hK (h _)) (fun o q => ?_)
  cases o with
  | inl z => exact And.intro (okd_upm h q.1) (And.intro rfl (And.intro (fun _ => rfl) (And.intro (fun _ => rfl) (fun e => Bool.noConfusion e))))
  | inr E => exact q
theorem aX_takePart {N K : Nat} {S : CS} {p0 : Int32} {p1 : Int32} (hN : NBig N) (hK : 100 ≤ K) (h : OkX S) : Sf (gX_takePart N K S p0 p1) (xP true true (fun (z : Int32 × CS) => OkX z.2 ∧ c5 z.2 = c5 S ∧ Ux true true false S z.2)) := by
  unfold gX_takePart
  refine sMap (s_X5_takePart hN hK (h _)) (fun o q => ?_)
  cases o with
  | inl z => exact And.intro (okd_upm h q.1) (And.intro rfl (And.intro (fun _ => rfl) (And.intro (fun _ => rfl) (fun e => Bool.noConfusion e))))
  | inr E => exact q
theorem aX_layFirst {N K : Nat} {S : CS} {p0 : Int32} {p1 : Int32} (hN : NBig N) (hK : 100 ≤ K) (h : OkX S) : Sf (gX_layFirst N K S p0 p1) (xP true true (fun (z : Int32 × CS) => OkX z.2 ∧ c5 z.2 = c5 S ∧ Ux true true false S z.2)) := by
  unfold gX_layFirst
  refine sMap (s_X5_layFirst hN hK) (fun o q => ?_)
  cases o with
  | inl z => exact And.intro (okd_upm h q.1) (And.intro rfl (And.intro (fun _ => rfl) (And.intro (fun _ => rfl) (fun e => Bool.noConfusion e))))
  | inr E => exact q
theorem aX_next {N K : Nat} {S : CS} {p0 : Int32} (hN : NBig N) (hK : 100 ≤ K) (h : OkX S) : Sf (gX_next N K S p0) (xP true false (fun (z : Int32 × CS) => OkX z.2 ∧ c5 z.2 = c5 S ∧ Ux true true false S z.2)) := by
  unfold gX_next
  refine sMap (s_X5_next hN hK (h _)) (fun o q => ?_)
  cases o with
  | inl z => exact And.intro (okd_upm h q.1) (And.intro rfl (And.intro (fun _ => rfl) (And.intro (fun _ => rfl) (fun e => Bool.noConfusion e))))
  | inr E => exact q
theorem aX_turn {N K : Nat} {S : CS} {p0 : Int32} (hN : NBig N) (hK : 100 ≤ K) (h : OkX S) : Sf (gX_turn N K S p0) (xP true false (fun (z : Int32 × CS) => OkX z.2 ∧ c5 z.2 = c5 S ∧ Ux true true false S z.2)) := by
  unfold gX_turn
  refine sMap (s_X5_turn hN hK (h _)) (fun o q => ?_)
  cases o with
  | inl z => exact And.intro (okd_upm h q.1) (And.intro rfl (And.intro (fun _ => rfl) (And.intro (fun _ => rfl) (fun e => Bool.noConfusion e))))
  | inr E => exact q
theorem aX_toUnlike {N K : Nat} {S : CS} {p0 : Int32} (hN : NBig N) (hK : 100 ≤ K) (h : OkX S) : Sf (gX_toUnlike N K S p0) (xP true false (fun (z : Int32 × CS) => OkX z.2 ∧ c5 z.2 = c5 S ∧ Ux true true false S z.2)) := by
  unfold gX_toUnlike
  refine sMap (s_X5_toUnlike hN hK (h _)) (fun o q => ?_)
  cases o with
  | inl z => exact And.intro (okd_upm h q.1) (And.intro rfl (And.intro (fun _ => rfl) (And.intro (fun _ => rfl) (fun e => Bool.noConfusion e))))
  | inr E => exact q
theorem aX_toOdd {N K : Nat} {S : CS} {p0 : Int32} (hN : NBig N) (hK : 100 ≤ K) (h : OkX S) : Sf (gX_toOdd N K S p0) (xP true false (fun (z : Int32 × CS) => OkX z.2 ∧ c5 z.2 = c5 S ∧ Ux true true false S z.2)) := by
  unfold gX_toOdd
  refine sMap (s_X5_toOdd hN hK (h _)) (fun o q => ?_)
  cases o with
  | inl z => exact And.intro (okd_upm h q.1) (And.intro rfl (And.intro (fun _ => rfl) (And.intro (fun _ => rfl) (fun e => Bool.noConfusion e))))
  | inr E => exact q
theorem aX_copyDesk {N K : Nat} {S : CS} {p0 : Int32} (hN : NBig N) (hK : 100 ≤ K) (h : OkX S) : Sf (gX_copyDesk N K S p0) (xP true false (fun (z : Int32 × CS) => OkX z.2 ∧ c5 z.2 = c5 S ∧ Ux true true false S z.2)) := by
  unfold gX_copyDesk
  refine sMap (s_X5_copyDesk hN hK (h _)) (fun o q => ?_)
  cases o with
  | inl z => exact And.intro (okd_upm h q.1) (And.intro rfl (And.intro (fun _ => rfl) (And.intro (fun _ => rfl) (fun e => Bool.noConfusion e))))
  | inr E => exact q
theorem aX_times {N K : Nat} {S : CS} {p0 : Int32} {p1 : Int32} (hN : NBig N) (hK : 100 ≤ K) (h : OkX S) : Sf (gX_times N K S p0 p1) (xP true true (fun (z : Int32 × CS) => OkX z.2 ∧ c5 z.2 = c5 S ∧ Ux true true true S z.2)) := by
  unfold gX_times
  refine sMap (s_X5_times hN hK) (fun o q => ?_)
  cases o with
  | inl z => exact And.intro h (And.intro rfl (And.intro (fun _ => rfl) (And.intro (fun _ => rfl) (fun _ => rfl))))
  | inr E => exact q
theorem aX_way {N K : Nat} {S : CS} {p0 : Int32} {p1 : Int32} (hN : NBig N) (hK : 100 ≤ K) (h : OkX S) : Sf (gX_way N K S p0 p1) (xP true true (fun (z : Int32 × CS) => OkX z.2 ∧ c5 z.2 = c5 S ∧ Ux true true true S z.2)) := by
  unfold gX_way
  refine sMap (s_X5_way hN hK) (fun o q => ?_)
  cases o with
  | inl z => exact And.intro h (And.intro rfl (And.intro (fun _ => rfl) (And.intro (fun _ => rfl) (fun _ => rfl))))
  | inr E => exact q
theorem aX_wayText {N K : Nat} {S : CS} {p0 : Int32} (hN : NBig N) (hK : 100 ≤ K) (h : OkX S) : Sf (gX_wayText N K S p0) (xP true false (fun (z : CS) => OkX z ∧ c5 z = c5 S ∧ Ux true true true S z)) := by
  unfold gX_wayText
  refine sMap (s_X5_wayText hN hK (h _)) (fun o q => ?_)
  cases o with
  | inl z => exact And.intro h (And.intro rfl (And.intro (fun _ => rfl) (And.intro (fun _ => rfl) (fun _ => rfl))))
  | inr E => exact q
theorem aX_isOf {N K : Nat} {S : CS} {p0 : Int32} {p1 : Int32} {p2 : Int32} (hN : NBig N) (hK : 100 ≤ K) (h : OkX S) : Sf (gX_isOf N K S p0 p1 p2) (xP true true (fun (z : Int32 × CS) => OkX z.2 ∧ c5 z.2 = c5 S ∧ Ux true true true S z.2)) := by
  unfold gX_isOf
  refine sMap (s_X5_isOf hN hK (h _)) (fun o q => ?_)
  cases o with
  | inl z => exact And.intro h (And.intro rfl (And.intro (fun _ => rfl) (And.intro (fun _ => rfl) (fun _ => rfl))))
  | inr E => exact q
theorem aX_isSameWay {N K : Nat} {S : CS} (hN : NBig N) (hK : 100 ≤ K) (h : OkX S) : Sf (gX_isSameWay N K S ) (fun (z : Int32 × CS) => OkX z.2 ∧ c5 z.2 = c5 S ∧ Ux true true true S z.2) := by
  unfold gX_isSameWay
  refine sBind ((s_X5_isSameWay hN hK).fr n_X5_isSameWay) (fun o q => ?_)
  cases o with
  | inl z => exact sRet (And.intro h (And.intro rfl (And.intro (fun _ => rfl) (And.intro (fun _ => rfl) (fun _ => rfl)))))
  | inr E => obtain ⟨z, hz⟩ := q.2; cases hz
theorem aX_tally {N K : Nat} {S : CS} {p0 : Int32} (hN : NBig N) (hK : 100 ≤ K) (h : OkX S) : Sf (gX_tally N K S p0) (xP false true (fun (z : Int32 × CS) => OkX z.2 ∧ c5 z.2 = c5 S ∧ Ux true true true S z.2)) := by
  unfold gX_tally
  refine sMap (s_X5_tally hN hK) (fun o q => ?_)
  cases o with
  | inl z => exact And.intro h (And.intro rfl (And.intro (fun _ => rfl) (And.intro (fun _ => rfl) (fun _ => rfl))))
  | inr E => exact q
theorem aX_isSound {N K : Nat} {S : CS} {p0 : Int32} (hN : NBig N) (hK : 100 ≤ K) (h : OkX S) : Sf (gX_isSound N K S p0) (xP true false (fun (z : Int32 × CS) => OkX z.2 ∧ c5 z.2 = c5 S ∧ Ux true true true S z.2)) := by
  unfold gX_isSound
  refine sMap (s_X5_isSound hN hK) (fun o q => ?_)
  cases o with
  | inl z => exact And.intro h (And.intro rfl (And.intro (fun _ => rfl) (And.intro (fun _ => rfl) (fun _ => rfl))))
  | inr E => exact q
theorem aX_digest {N K : Nat} {S : CS} (hN : NBig N) (hK : 100 ≤ K) (h : OkX S) : Sf (gX_digest N K S ) (fun (z : Int64 × CS) => OkX z.2 ∧ c5 z.2 = c5 S ∧ Ux true true true S z.2) := by
  unfold gX_digest
  refine sBind ((s_X5_digest hN hK).fr n_X5_digest) (fun o q => ?_)
  cases o with
  | inl z => exact sRet (And.intro h (And.intro rfl (And.intro (fun _ => rfl) (And.intro (fun _ => rfl) (fun _ => rfl)))))
  | inr E => obtain ⟨z, hz⟩ := q.2; cases hz

end MG_60aapi
section MG_60bapi
theorem aM_know {N K : Nat} {M : MS} {p0 : Int32} {p1 : Int32} {p2 : Int32} {p3 : Int32} (hN : NBig N) (hK : 100 ≤ K) (h : OkN M) : Sf (gM_know N K M p0 p1 p2 p3) (fun (z : Int32 × MS) => OkN z.2 ∧ t5 z.2 = t5 M ∧ Um false true true M z.2) := by
  unfold gM_know
  exact sMap ((s_X7_know hN hK).fr r_X7_know) (fun z q => And.intro h (And.intro q.2 (And.intro (fun e => Bool.noConfusion e) (And.intro (fun _ => rfl) (fun _ => rfl)))))
theorem aM_few {N K : Nat} {M : MS} {p0 : Int32} {p1 : Int32} {p2 : Int32} (hN : NBig N) (hK : 100 ≤ K) (h : OkN M) : Sf (gM_few N K M p0 p1 p2) (fun (z : Int32 × MS) => OkN z.2 ∧ t5 z.2 = t5 M ∧ Um false true true M z.2) := by
  unfold gM_few
  exact sMap ((s_X7_few hN hK).fr r_X7_few) (fun z q => And.intro h (And.intro q.2 (And.intro (fun e => Bool.noConfusion e) (And.intro (fun _ => rfl) (fun _ => rfl)))))
theorem aM_surplus {N K : Nat} {M : MS} {p0 : Int32} {p1 : Int32} (hN : NBig N) (hK : 100 ≤ K) (h : OkN M) : Sf (gM_surplus N K M p0 p1) (fun (z : Int32 × MS) => OkN z.2 ∧ t5 z.2 = t5 M ∧ Um false true true M z.2) := by
  unfold gM_surplus
  exact sMap ((s_X7_surplus hN hK).fr r_X7_surplus) (fun z q => And.intro h (And.intro q.2 (And.intro (fun e => Bool.noConfusion e) (And.intro (fun _ => rfl) (fun _ => rfl)))))
theorem aM_place {N K : Nat} {M : MS} {p0 : Int32} {p1 : Int32} (hN : NBig N) (hK : 100 ≤ K) (h : OkN M) : Sf (gM_place N K M p0 p1) (fun (z : Int32 × MS) => OkN z.2 ∧ t5 z.2 = t5 M ∧ Um false true true M z.2) := by
  unfold gM_place
  exact sMap ((s_X7_place hN hK (h _)).fr r_X7_place) (fun z q => And.intro h (And.intro q.2 (And.intro (fun e => Bool.noConfusion e) (And.intro (fun _ => rfl) (fun _ => rfl)))))
theorem aM_learn {N K : Nat} {M : MS} {p0 : Int32} {p1 : Int32} {p2 : Int32} {p3 : Int32} (hN : NBig N) (hK : 100 ≤ K) (h : OkN M) : Sf (gM_learn N K M p0 p1 p2 p3) (fun (z : Int32 × MS) => OkN z.2 ∧ t5 z.2 = t5 M ∧ Um false true true M z.2) := by
  unfold gM_learn
  exact sMap ((s_X7_learn hN hK).fr r_X7_learn) (fun z q => And.intro h (And.intro q.2 (And.intro (fun e => Bool.noConfusion e) (And.intro (fun _ => rfl) (fun _ => rfl)))))
theorem aM_relearn {N K : Nat} {M : MS} {p0 : Int32} {p1 : Int32} {p2 : Int32} {p3 : Int32} (hN : NBig N) (hK : 100 ≤ K) (h : OkN M) : Sf (gM_relearn N K M p0 p1 p2 p3) (fun (z : Int32 × MS) => OkN z.2 ∧ t5 z.2 = t5 M ∧ Um false true true M z.2) := by
  unfold gM_relearn
  exact sMap ((s_X7_relearn hN hK).fr r_X7_relearn) (fun z q => And.intro h (And.intro q.2 (And.intro (fun e => Bool.noConfusion e) (And.intro (fun _ => rfl) (fun _ => rfl)))))
theorem aM_forget {N K : Nat} {M : MS} {p0 : Int32} {p1 : Int32} {p2 : Int32} {p3 : Int32} (hN : NBig N) (hK : 100 ≤ K) (h : OkN M) : Sf (gM_forget N K M p0 p1 p2 p3) (fun (z : Int32 × MS) => OkN z.2 ∧ t5 z.2 = t5 M ∧ Um false true true M z.2) := by
  unfold gM_forget
  exact sMap ((s_X7_forget hN hK).fr r_X7_forget) (fun z q => And.intro h (And.intro q.2 (And.intro (fun e => Bool.noConfusion e) (And.intro (fun _ => rfl) (fun _ => rfl)))))
theorem aM_forgetIf {N K : Nat} {M : MS} {p0 : Int32} {p1 : Int32} {p2 : Int32} {p3 : Int32} {p4 : Int32} (hN : NBig N) (hK : 100 ≤ K) (h : OkN M) : Sf (gM_forgetIf N K M p0 p1 p2 p3 p4) (fun (z : Int32 × MS) => OkN z.2 ∧ t5 z.2 = t5 M ∧ Um false true true M z.2) := by
  unfold gM_forgetIf
  exact sMap ((s_X7_forgetIf hN hK).fr r_X7_forgetIf) (fun z q => And.intro h (And.intro q.2 (And.intro (fun e => Bool.noConfusion e) (And.intro (fun _ => rfl) (fun _ => rfl)))))
theorem aM_forgetAll {N K : Nat} {M : MS} {p0 : Int32} {p1 : Int32} {p2 : Int32} (hN : NBig N) (hK : 100 ≤ K) (h : OkN M) : Sf (gM_forgetAll N K M p0 p1 p2) (fun (z : Int32 × MS) => OkN z.2 ∧ t5 z.2 = t5 M ∧ Um false true true M z.2) := by
  unfold gM_forgetAll
  exact sMap ((s_X7_forgetAll hN hK).fr r_X7_forgetAll) (fun z q => And.intro h (And.intro q.2 (And.intro (fun e => Bool.noConfusion e) (And.intro (fun _ => rfl) (fun _ => rfl)))))
theorem aM_clear {N K : Nat} {M : MS} {p0 : Int32} (hN : NBig N) (hK : 100 ≤ K) (h : OkN M) : Sf (gM_clear N K M p0) (fun (z : Int32 × MS) => OkN z.2 ∧ t5 z.2 = t5 M ∧ Um false true true M z.2) := by
  unfold gM_clear
  exact sMap ((s_X7_clear hN hK).fr r_X7_clear) (fun z q => And.intro h (And.intro q.2 (And.intro (fun e => Bool.noConfusion e) (And.intro (fun _ => rfl) (fun _ => rfl)))))
theorem aM_copy {N K : Nat} {M : MS} {p0 : Int32} {p1 : Int32} (hN : NBig N) (hK : 100 ≤ K) (h : OkN M) : Sf (gM_copy N K M p0 p1) (fun (z : Int32 × MS) => OkN z.2 ∧ t5 z.2 = t5 M ∧ Um false true true M z.2) := by
  unfold gM_copy
  by_cases e0 : p0 = p1
  · rw [if_pos e0]
    exact sMap ((s_X7_copyOwn hN hK).fr r_X7_copyOwn) (fun z q => And.intro h (And.intro q.2 (And.intro (fun e => Bool.noConfusion e) (And.intro (fun _ => rfl) (fun _ => rfl)))))
  · rw [if_neg e0]
    exact sMap ((s_X7_copy hN hK).fr r_X7_copy) (fun z q => And.intro h (And.intro q.2 (And.intro (fun e => Bool.noConfusion e) (And.intro (fun _ => rfl) (fun _ => rfl)))))
theorem aM_pour {N K : Nat} {M : MS} {p0 : Int32} {p1 : Int32} (hN : NBig N) (hK : 100 ≤ K) (h : OkN M) : Sf (gM_pour N K M p0 p1) (fun (z : Int32 × MS) => OkN z.2 ∧ t5 z.2 = t5 M ∧ Um false true true M z.2) := by
  unfold gM_pour
  by_cases e0 : p0 = p1
  · rw [if_pos e0]
    exact sMap ((s_X7_pourOwn hN hK).fr r_X7_pourOwn) (fun z q => And.intro h (And.intro q.2 (And.intro (fun e => Bool.noConfusion e) (And.intro (fun _ => rfl) (fun _ => rfl)))))
  · rw [if_neg e0]
    exact sMap ((s_X7_pour hN hK).fr r_X7_pour) (fun z q => And.intro h (And.intro q.2 (And.intro (fun e => Bool.noConfusion e) (And.intro (fun _ => rfl) (fun _ => rfl)))))
theorem aM_isKept {N K : Nat} {M : MS} {p0 : Int32} {p1 : Int32} {p2 : Int32} {p3 : Int32} {p4 : Int32} (hN : NBig N) (hK : 100 ≤ K) (h : OkN M) : Sf (gM_isKept N K M p0 p1 p2 p3 p4) (fun (z : Int32 × MS) => OkN z.2 ∧ t5 z.2 = t5 M ∧ Um true true true M z.2) := by
  unfold gM_isKept
  exact sMap (s_X7_isKept hN hK) (fun z q => And.intro h (And.intro rfl (And.intro (fun _ => rfl) (And.intro (fun _ => rfl) (fun _ => rfl)))))
theorem aM_worthOr {N K : Nat} {M : MS} {p0 : Int32} {p1 : Int32} {p2 : Int32} {p3 : Int32} {p4 : Int32} (hN : NBig N) (hK : 100 ≤ K) (h : OkN M) : Sf (gM_worthOr N K M p0 p1 p2 p3 p4) (fun (z : Int32 × MS) => OkN z.2 ∧ t5 z.2 = t5 M ∧ Um true true true M z.2) := by
  unfold gM_worthOr
  exact sMap (s_X7_worthOr hN hK) (fun z q => And.intro h (And.intro rfl (And.intro (fun _ => rfl) (And.intro (fun _ => rfl) (fun _ => rfl)))))
theorem aM_confirm {N K : Nat} {M : MS} {p0 : Int32} {p1 : Int32} {p2 : Int32} {p3 : Int32} {p4 : Int32} (hN : NBig N) (hK : 100 ≤ K) (h : OkN M) : Sf (gM_confirm N K M p0 p1 p2 p3 p4) (fun (z : Int32 × MS) => OkN z.2 ∧ t5 z.2 = t5 M ∧ Um true true true M z.2) := by
  unfold gM_confirm
  exact sMap (s_X7_confirm hN hK) (fun z q => And.intro h (And.intro rfl (And.intro (fun _ => rfl) (And.intro (fun _ => rfl) (fun _ => rfl)))))
theorem aM_about {N K : Nat} {M : MS} {p0 : Int32} {p1 : Int32} (hN : NBig N) (hK : 100 ≤ K) (h : OkN M) : Sf (gM_about N K M p0 p1) (fun (z : Int32 × MS) => OkN z.2 ∧ t5 z.2 = t5 M ∧ Um true true true M z.2) := by
  unfold gM_about
  exact sMap (s_X7_about hN hK) (fun z q => And.intro h (And.intro rfl (And.intro (fun _ => rfl) (And.intro (fun _ => rfl) (fun _ => rfl)))))
theorem aM_has {N K : Nat} {M : MS} {p0 : Int32} {p1 : Int32} (hN : NBig N) (hK : 100 ≤ K) (h : OkN M) : Sf (gM_has N K M p0 p1) (fun (z : Int32 × MS) => OkN z.2 ∧ t5 z.2 = t5 M ∧ Um true true true M z.2) := by
  unfold gM_has
  exact sMap (s_X7_has hN hK) (fun z q => And.intro h (And.intro rfl (And.intro (fun _ => rfl) (And.intro (fun _ => rfl) (fun _ => rfl)))))
theorem aM_count {N K : Nat} {M : MS} {p0 : Int32} {p1 : Int32} {p2 : Int32} (hN : NBig N) (hK : 100 ≤ K) (h : OkN M) : Sf (gM_count N K M p0 p1 p2) (fun (z : Int32 × MS) => OkN z.2 ∧ t5 z.2 = t5 M ∧ Um true true true M z.2) := by
  unfold gM_count
  exact sMap (s_X7_count hN hK) (fun z q => And.intro h (And.intro rfl (And.intro (fun _ => rfl) (And.intro (fun _ => rfl) (fun _ => rfl)))))
theorem aM_isSame {N K : Nat} {M : MS} {p0 : Int32} {p1 : Int32} (hN : NBig N) (hK : 100 ≤ K) (h : OkN M) : Sf (gM_isSame N K M p0 p1) (fun (z : Int32 × MS) => OkN z.2 ∧ t5 z.2 = t5 M ∧ Um true true true M z.2) := by
  unfold gM_isSame
  by_cases e0 : p0 = p1
  · rw [if_pos e0]
    exact sMap (s_X7_isSameOwn hN hK) (fun z q => And.intro h (And.intro rfl (And.intro (fun _ => rfl) (And.intro (fun _ => rfl) (fun _ => rfl)))))
  · rw [if_neg e0]
    exact sMap (s_X7_isSame hN hK) (fun z q => And.intro h (And.intro rfl (And.intro (fun _ => rfl) (And.intro (fun _ => rfl) (fun _ => rfl)))))
theorem aM_walk {N K : Nat} {M : MS} {p0 : Int32} {p1 : Int32} {p2 : Int32} (hN : NBig N) (hK : 100 ≤ K) (h : OkN M) : Sf (gM_walk N K M p0 p1 p2) (fun (z : Int32 × MS) => OkN z.2 ∧ t5 z.2 = t5 M ∧ Um true true true M z.2) := by
  unfold gM_walk
  exact sMap (s_X7_walk hN hK) (fun z q => And.intro h (And.intro rfl (And.intro (fun _ => rfl) (And.intro (fun _ => rfl) (fun _ => rfl)))))
theorem aM_product {N K : Nat} {M : MS} {p0 : Int32} {p1 : Int32} {p2 : Int32} (hN : NBig N) (hK : 100 ≤ K) (h : OkN M) : Sf (gM_product N K M p0 p1 p2) (fun (z : Int32 × MS) => OkN z.2 ∧ t5 z.2 = t5 M ∧ Um true true true M z.2) := by
  unfold gM_product
  exact sMap (s_X7_product hN hK) (fun z q => And.intro h (And.intro rfl (And.intro (fun _ => rfl) (And.intro (fun _ => rfl) (fun _ => rfl)))))
theorem aM_rule {N K : Nat} {M : MS} {p0 : Int32} {p1 : Int32} (hN : NBig N) (hK : 100 ≤ K) (h : OkN M) : Sf (gM_rule N K M p0 p1) (fun (z : Int32 × MS) => OkN z.2 ∧ t5 z.2 = t5 M ∧ Um true false true M z.2) := by
  unfold gM_rule
  exact sMap ((s_X7_rule hN hK).fr r_X7_rule) (fun z q => And.intro h (And.intro q.2 (And.intro (fun _ => rfl) (And.intro (fun e => Bool.noConfusion e) (fun _ => rfl)))))
theorem aM_forgetRule {N K : Nat} {M : MS} {p0 : Int32} {p1 : Int32} (hN : NBig N) (hK : 100 ≤ K) (h : OkN M) : Sf (gM_forgetRule N K M p0 p1) (fun (z : Int32 × MS) => OkN z.2 ∧ t5 z.2 = t5 M ∧ Um true false true M z.2) := by
  unfold gM_forgetRule
  exact sMap ((s_X7_forgetRule hN hK).fr r_X7_forgetRule) (fun z q => And.intro h (And.intro q.2 (And.intro (fun _ => rfl) (And.intro (fun e => Bool.noConfusion e) (fun _ => rfl)))))
theorem aM_ledger {N K : Nat} {M : MS} {p0 : Int32} {p1 : Int32} (hN : NBig N) (hK : 100 ≤ K) (h : OkN M) : Sf (gM_ledger N K M p0 p1) (fun (z : Int32 × MS) => OkN z.2 ∧ t5 z.2 = t5 M ∧ Um true true true M z.2) := by
  unfold gM_ledger
  exact sMap (s_X7_ledger hN hK) (fun z q => And.intro h (And.intro rfl (And.intro (fun _ => rfl) (And.intro (fun _ => rfl) (fun _ => rfl)))))
theorem aM_ruleWorth {N K : Nat} {M : MS} {p0 : Int32} {p1 : Int32} {p2 : Int32} (hN : NBig N) (hK : 100 ≤ K) (h : OkN M) : Sf (gM_ruleWorth N K M p0 p1 p2) (fun (z : Int32 × MS) => OkN z.2 ∧ t5 z.2 = t5 M ∧ Um true true true M z.2) := by
  unfold gM_ruleWorth
  exact sMap (s_X7_ruleWorth hN hK) (fun z q => And.intro h (And.intro rfl (And.intro (fun _ => rfl) (And.intro (fun _ => rfl) (fun _ => rfl)))))
theorem aM_addPart {N K : Nat} {M : MS} {p0 : Int32} {p1 : Int32} {p2 : Int32} (hN : NBig N) (hK : 100 ≤ K) (h : OkN M) : Sf (gM_addPart N K M p0 p1 p2) (fun (z : Int32 × MS) => OkN z.2 ∧ t5 z.2 = t5 M ∧ Um true true false M z.2) := by
  unfold gM_addPart
  exact sMap ((s_X7_addPart hN hK (h _)).fr r_X7_addPart) (fun z q => And.intro (okd_upm h q.1.2.2.1) (And.intro q.2 (And.intro (fun _ => rfl) (And.intro (fun _ => rfl) (fun e => Bool.noConfusion e)))))
theorem aM_takePart {N K : Nat} {M : MS} {p0 : Int32} {p1 : Int32} (hN : NBig N) (hK : 100 ≤ K) (h : OkN M) : Sf (gM_takePart N K M p0 p1) (fun (z : Int32 × MS) => OkN z.2 ∧ t5 z.2 = t5 M ∧ Um true true false M z.2) := by
  unfold gM_takePart
  exact sMap ((s_X7_takePart hN hK (h _)).fr r_X7_takePart) (fun z q => And.intro (okd_upm h q.1.2.2.1) (And.intro q.2 (And.intro (fun _ => rfl) (And.intro (fun _ => rfl) (fun e => Bool.noConfusion e)))))
theorem aM_layFirst {N K : Nat} {M : MS} {p0 : Int32} {p1 : Int32} (hN : NBig N) (hK : 100 ≤ K) (h : OkN M) : Sf (gM_layFirst N K M p0 p1) (fun (z : Int32 × MS) => OkN z.2 ∧ t5 z.2 = t5 M ∧ Um true true false M z.2) := by
  unfold gM_layFirst
  exact sMap ((s_X7_layFirst hN hK (h _)).fr r_X7_layFirst) (fun z q => And.intro (okd_upm h q.1.2.2.1) (And.intro q.2 (And.intro (fun _ => rfl) (And.intro (fun _ => rfl) (fun e => Bool.noConfusion e)))))
theorem aM_next {N K : Nat} {M : MS} {p0 : Int32} (hN : NBig N) (hK : 100 ≤ K) (h : OkN M) : Sf (gM_next N K M p0) (fun (z : Int32 × MS) => OkN z.2 ∧ t5 z.2 = t5 M ∧ Um true true false M z.2) := by
  unfold gM_next
  exact sMap ((s_X7_next hN hK (h _)).fr r_X7_next) (fun z q => And.intro (okd_upm h q.1.2.2.1) (And.intro q.2 (And.intro (fun _ => rfl) (And.intro (fun _ => rfl) (fun e => Bool.noConfusion e)))))
theorem aM_turn {N K : Nat} {M : MS} {p0 : Int32} (hN : NBig N) (hK : 100 ≤ K) (h : OkN M) : Sf (gM_turn N K M p0) (fun (z : Int32 × MS) => OkN z.2 ∧ t5 z.2 = t5 M ∧ Um true true false M z.2) := by
  unfold gM_turn
  exact sMap ((s_X7_turn hN hK (h _)).fr r_X7_turn) (fun z q => And.intro (okd_upm h q.1.2.2.2.2.1) (And.intro q.2 (And.intro (fun _ => rfl) (And.intro (fun _ => rfl) (fun e => Bool.noConfusion e)))))
theorem aM_toUnlike {N K : Nat} {M : MS} {p0 : Int32} (hN : NBig N) (hK : 100 ≤ K) (h : OkN M) : Sf (gM_toUnlike N K M p0) (fun (z : Int32 × MS) => OkN z.2 ∧ t5 z.2 = t5 M ∧ Um true true false M z.2) := by
  unfold gM_toUnlike
  exact sMap ((s_X7_toUnlike hN hK (h _)).fr r_X7_toUnlike) (fun z q => And.intro (okd_upm h q.1.2.2.1) (And.intro q.2 (And.intro (fun _ => rfl) (And.intro (fun _ => rfl) (fun e => Bool.noConfusion e)))))
theorem aM_toOdd {N K : Nat} {M : MS} {p0 : Int32} (hN : NBig N) (hK : 100 ≤ K) (h : OkN M) : Sf (gM_toOdd N K M p0) (fun (z : Int32 × MS) => OkN z.2 ∧ t5 z.2 = t5 M ∧ Um true true false M z.2) := by
  unfold gM_toOdd
  exact sMap ((s_X7_toOdd hN hK (h _)).fr r_X7_toOdd) (fun z q => And.intro (okd_upm h q.1.2.2.1) (And.intro q.2 (And.intro (fun _ => rfl) (And.intro (fun _ => rfl) (fun e => Bool.noConfusion e)))))
theorem aM_copyDesk {N K : Nat} {M : MS} {p0 : Int32} (hN : NBig N) (hK : 100 ≤ K) (h : OkN M) : Sf (gM_copyDesk N K M p0) (fun (z : Int32 × MS) => OkN z.2 ∧ t5 z.2 = t5 M ∧ Um true true false M z.2) := by
  unfold gM_copyDesk
  exact sMap ((s_X7_copyDesk hN hK (h _) (h _)).fr r_X7_copyDesk) (fun z q => And.intro (okd_upm h q.1.2.2.1) (And.intro q.2 (And.intro (fun _ => rfl) (And.intro (fun _ => rfl) (fun e => Bool.noConfusion e)))))
theorem aM_times {N K : Nat} {M : MS} {p0 : Int32} {p1 : Int32} (hN : NBig N) (hK : 100 ≤ K) (h : OkN M) : Sf (gM_times N K M p0 p1) (fun (z : Int32 × MS) => OkN z.2 ∧ t5 z.2 = t5 M ∧ Um true true true M z.2) := by
  unfold gM_times
  exact sMap (s_X7_times hN hK) (fun z q => And.intro h (And.intro rfl (And.intro (fun _ => rfl) (And.intro (fun _ => rfl) (fun _ => rfl)))))
theorem aM_way {N K : Nat} {M : MS} {p0 : Int32} {p1 : Int32} (hN : NBig N) (hK : 100 ≤ K) (h : OkN M) : Sf (gM_way N K M p0 p1) (fun (z : Int32 × MS) => OkN z.2 ∧ t5 z.2 = t5 M ∧ Um true true true M z.2) := by
  unfold gM_way
  exact sMap (s_X7_way hN hK (h _)) (fun z q => And.intro h (And.intro rfl (And.intro (fun _ => rfl) (And.intro (fun _ => rfl) (fun _ => rfl)))))
theorem aM_wayText {N K : Nat} {M : MS} {p0 : Int32} (hN : NBig N) (hK : 100 ≤ K) (h : OkN M) : Sf (gM_wayText N K M p0) (fun (z : MS) => OkN z ∧ t5 z = t5 M ∧ Um true true true M z) := by
  unfold gM_wayText
  exact sMap (s_X7_wayText hN hK (h _)) (fun z q => And.intro h (And.intro rfl (And.intro (fun _ => rfl) (And.intro (fun _ => rfl) (fun _ => rfl)))))
theorem aM_isOf {N K : Nat} {M : MS} {p0 : Int32} {p1 : Int32} {p2 : Int32} (hN : NBig N) (hK : 100 ≤ K) (h : OkN M) : Sf (gM_isOf N K M p0 p1 p2) (fun (z : Int32 × MS) => OkN z.2 ∧ t5 z.2 = t5 M ∧ Um true true true M z.2) := by
  unfold gM_isOf
  exact sMap (s_X7_isOf hN hK) (fun z q => And.intro h (And.intro rfl (And.intro (fun _ => rfl) (And.intro (fun _ => rfl) (fun _ => rfl)))))
theorem aM_isSameWay {N K : Nat} {M : MS} (hN : NBig N) (hK : 100 ≤ K) (h : OkN M) : Sf (gM_isSameWay N K M ) (fun (z : Int32 × MS) => OkN z.2 ∧ t5 z.2 = t5 M ∧ Um true true true M z.2) := by
  unfold gM_isSameWay
  exact sMap (s_X7_isSameWay hN hK) (fun z q => And.intro h (And.intro rfl (And.intro (fun _ => rfl) (And.intro (fun _ => rfl) (fun _ => rfl)))))
theorem aM_tally {N K : Nat} {M : MS} {p0 : Int32} (hN : NBig N) (hK : 100 ≤ K) (h : OkN M) : Sf (gM_tally N K M p0) (fun (z : Int32 × MS) => OkN z.2 ∧ t5 z.2 = t5 M ∧ Um true true true M z.2) := by
  unfold gM_tally
  exact sMap (s_X7_tally hN hK) (fun z q => And.intro h (And.intro rfl (And.intro (fun _ => rfl) (And.intro (fun _ => rfl) (fun _ => rfl)))))
theorem aM_isSound {N K : Nat} {M : MS} {p0 : Int32} (hN : NBig N) (hK : 100 ≤ K) (h : OkN M) : Sf (gM_isSound N K M p0) (fun (z : Int32 × MS) => OkN z.2 ∧ t5 z.2 = t5 M ∧ Um true true true M z.2) := by
  unfold gM_isSound
  exact sMap (s_X7_isSound hN hK) (fun z q => And.intro h (And.intro rfl (And.intro (fun _ => rfl) (And.intro (fun _ => rfl) (fun _ => rfl)))))
theorem aM_digest {N K : Nat} {M : MS} (hN : NBig N) (hK : 100 ≤ K) (h : OkN M) : Sf (gM_digest N K M ) (fun (z : Int64 × MS) => OkN z.2 ∧ t5 z.2 = t5 M ∧ Um true true true M z.2) := by
  unfold gM_digest
  exact sMap (s_X7_digest hN hK (h _) (h _)) (fun z q => And.intro h (And.intro rfl (And.intro (fun _ => rfl) (And.intro (fun _ => rfl) (fun _ => rfl)))))
theorem lL_know {N K : Nat} {S : CS} {p0 : Int32} {p1 : Int32} {p2 : Int32} {p3 : Int32} {nv : Int64} (hN : NBig N) (hK : 100 ≤ K) (h : OkX S) : Sf (gL_know N K S p0 p1 p2 p3 nv) (fun z => OkX z.2.1 ∧ c5 z.2.1 = c5 S ∧ Ux false true true S z.2.1) := by
  unfold gL_know
  exact sWb (aX_know hN hK h) (fun z q => sRet q) (fun _ => sRet (And.intro h (And.intro rfl Ux.r))) (fun _ => sRet (And.intro h (And.intro rfl Ux.r)))
theorem lL_few {N K : Nat} {S : CS} {p0 : Int32} {p1 : Int32} {p2 : Int32} {nv : Int64} (hN : NBig N) (hK : 100 ≤ K) (h : OkX S) : Sf (gL_few N K S p0 p1 p2 nv) (fun z => OkX z.2.1 ∧ c5 z.2.1 = c5 S ∧ Ux false true true S z.2.1) := by
  unfold gL_few
  exact sWb (aX_few hN hK h) (fun z q => sRet q) (fun _ => sRet (And.intro h (And.intro rfl Ux.r))) (fun _ => sRet (And.intro h (And.intro rfl Ux.r)))
theorem lL_surplus {N K : Nat} {S : CS} {p0 : Int32} {p1 : Int32} {nv : Int64} (hN : NBig N) (hK : 100 ≤ K) (h : OkX S) : Sf (gL_surplus N K S p0 p1 nv) (fun z => OkX z.2.1 ∧ c5 z.2.1 = c5 S ∧ Ux false true true S z.2.1) := by
  unfold gL_surplus
  exact sWb (aX_surplus hN hK h) (fun z q => sRet q) (fun _ => sRet (And.intro h (And.intro rfl Ux.r))) (fun _ => sRet (And.intro h (And.intro rfl Ux.r)))
theorem lL_place {N K : Nat} {S : CS} {p0 : Int32} {p1 : Int32} {nv : Int64} (hN : NBig N) (hK : 100 ≤ K) (h : OkX S) : Sf (gL_place N K S p0 p1 nv) (fun z => OkX z.2.1 ∧ c5 z.2.1 = c5 S ∧ Ux false true true S z.2.1) := by
  unfold gL_place
  exact sWb (aX_place hN hK h) (fun z q => sRet q) (fun _ => sRet (And.intro h (And.intro rfl Ux.r))) (fun e => by cases e)
theorem lL_learn {N K : Nat} {S : CS} {p0 : Int32} {p1 : Int32} {p2 : Int32} {p3 : Int32} {nv : Int64} (hN : NBig N) (hK : 100 ≤ K) (h : OkX S) : Sf (gL_learn N K S p0 p1 p2 p3 nv) (fun z => OkX z.2.1 ∧ c5 z.2.1 = c5 S ∧ Ux false true true S z.2.1) := by
  unfold gL_learn
  exact sWb (aX_learn hN hK h) (fun z q => sRet q) (fun _ => sRet (And.intro h (And.intro rfl Ux.r))) (fun _ => sRet (And.intro h (And.intro rfl Ux.r)))
theorem lL_relearn {N K : Nat} {S : CS} {p0 : Int32} {p1 : Int32} {p2 : Int32} {p3 : Int32} {nv : Int64} (hN : NBig N) (hK : 100 ≤ K) (h : OkX S) : Sf (gL_relearn N K S p0 p1 p2 p3 nv) (fun z => OkX z.2.1 ∧ c5 z.2.1 = c5 S ∧ Ux false true true S z.2.1) := by
  unfold gL_relearn
  exact sWb (aX_relearn hN hK h) (fun z q => sRet q) (fun _ => sRet (And.intro h (And.intro rfl Ux.r))) (fun _ => sRet (And.intro h (And.intro rfl Ux.r)))
theorem lL_forget {N K : Nat} {S : CS} {p0 : Int32} {p1 : Int32} {p2 : Int32} {p3 : Int32} {nv : Int64} (hN : NBig N) (hK : 100 ≤ K) (h : OkX S) : Sf (gL_forget N K S p0 p1 p2 p3 nv) (fun z => OkX z.2.1 ∧ c5 z.2.1 = c5 S ∧ Ux false true true S z.2.1) := by
  unfold gL_forget
  exact sWb (aX_forget hN hK h) (fun z q => sRet q) (fun _ => sRet (And.intro h (And.intro rfl Ux.r))) (fun _ => sRet (And.intro h (And.intro rfl Ux.r)))
theorem lL_forgetIf {N K : Nat} {S : CS} {p0 : Int32} {p1 : Int32} {p2 : Int32} {p3 : Int32} {p4 : Int32} {nv : Int64} (hN : NBig N) (hK : 100 ≤ K) (h : OkX S) : Sf (gL_forgetIf N K S p0 p1 p2 p3 p4 nv) (fun z => OkX z.2.1 ∧ c5 z.2.1 = c5 S ∧ Ux false true true S z.2.1) := by
  unfold gL_forgetIf
  exact sWb (aX_forgetIf hN hK h) (fun z q => sRet q) (fun _ => sRet (And.intro h (And.intro rfl Ux.r))) (fun _ => sRet (And.intro h (And.intro rfl Ux.r)))
theorem lL_forgetAll {N K : Nat} {S : CS} {p0 : Int32} {p1 : Int32} {p2 : Int32} {nv : Int64} (hN : NBig N) (hK : 100 ≤ K) (h : OkX S) : Sf (gL_forgetAll N K S p0 p1 p2 nv) (fun z => OkX z.2.1 ∧ c5 z.2.1 = c5 S ∧ Ux false true true S z.2.1) := by
  unfold gL_forgetAll
  exact sWb (aX_forgetAll hN hK h) (fun z q => sRet q) (fun _ => sRet (And.intro h (And.intro rfl Ux.r))) (fun _ => sRet (And.intro h (And.intro rfl Ux.r)))
theorem lL_clear {N K : Nat} {S : CS} {p0 : Int32} {nv : Int64} (hN : NBig N) (hK : 100 ≤ K) (h : OkX S) : Sf (gL_clear N K S p0 nv) (fun z => OkX z.2.1 ∧ c5 z.2.1 = c5 S ∧ Ux false true true S z.2.1) := by
  unfold gL_clear
  exact sWb (aX_clear hN hK h) (fun z q => sRet q) (fun _ => sRet (And.intro h (And.intro rfl Ux.r))) (fun e => by cases e)
theorem lL_copy {N K : Nat} {S : CS} {p0 : Int32} {p1 : Int32} {nv : Int64} (hN : NBig N) (hK : 100 ≤ K) (h : OkX S) : Sf (gL_copy N K S p0 p1 nv) (fun z => OkX z.2.1 ∧ c5 z.2.1 = c5 S ∧ Ux false true true S z.2.1) := by
  unfold gL_copy
  exact sWb (aX_copy hN hK h) (fun z q => sRet q) (fun _ => sRet (And.intro h (And.intro rfl Ux.r))) (fun e => by cases e)
theorem lL_pour {N K : Nat} {S : CS} {p0 : Int32} {p1 : Int32} {nv : Int64} (hN : NBig N) (hK : 100 ≤ K) (h : OkX S) : Sf (gL_pour N K S p0 p1 nv) (fun z => OkX z.2.1 ∧ c5 z.2.1 = c5 S ∧ Ux false true true S z.2.1) := by
  unfold gL_pour
  exact sWb (aX_pour hN hK h) (fun z q => sRet q) (fun _ => sRet (And.intro h (And.intro rfl Ux.r))) (fun e => by cases e)
theorem lL_isKept {N K : Nat} {S : CS} {p0 : Int32} {p1 : Int32} {p2 : Int32} {p3 : Int32} {p4 : Int32} {nv : Int64} (hN : NBig N) (hK : 100 ≤ K) (h : OkX S) : Sf (gL_isKept N K S p0 p1 p2 p3 p4 nv) (fun z => OkX z.2.1 ∧ c5 z.2.1 = c5 S ∧ Ux true true true S z.2.1) := by
  unfold gL_isKept
  exact sWb (aX_isKept hN hK h) (fun z q => sIf (fun _ => sRet q) (fun _ => sRet q)) (fun _ => sRet (And.intro h (And.intro rfl Ux.r))) (fun _ => sRet (And.intro h (And.intro rfl Ux.r)))
theorem lL_worthOr {N K : Nat} {S : CS} {p0 : Int32} {p1 : Int32} {p2 : Int32} {p3 : Int32} {p4 : Int32} {nv : Int64} (hN : NBig N) (hK : 100 ≤ K) (h : OkX S) : Sf (gL_worthOr N K S p0 p1 p2 p3 p4 nv) (fun z => OkX z.2.1 ∧ c5 z.2.1 = c5 S ∧ Ux true true true S z.2.1) := by
  unfold gL_worthOr
  exact sWb (aX_worthOr hN hK h) (fun z q => sRet q) (fun _ => sRet (And.intro h (And.intro rfl Ux.r))) (fun _ => sRet (And.intro h (And.intro rfl Ux.r)))
theorem lL_confirm {N K : Nat} {S : CS} {p0 : Int32} {p1 : Int32} {p2 : Int32} {p3 : Int32} {p4 : Int32} {nv : Int64} (hN : NBig N) (hK : 100 ≤ K) (h : OkX S) : Sf (gL_confirm N K S p0 p1 p2 p3 p4 nv) (fun z => OkX z.2.1 ∧ c5 z.2.1 = c5 S ∧ Ux true true true S z.2.1) := by
  unfold gL_confirm
  exact sWb (aX_confirm hN hK h) (fun z q => sIf (fun _ => sRet q) (fun _ => sRet q)) (fun _ => sRet (And.intro h (And.intro rfl Ux.r))) (fun _ => sRet (And.intro h (And.intro rfl Ux.r)))
theorem lL_about {N K : Nat} {S : CS} {p0 : Int32} {p1 : Int32} {nv : Int64} (hN : NBig N) (hK : 100 ≤ K) (h : OkX S) : Sf (gL_about N K S p0 p1 nv) (fun z => OkX z.2.1 ∧ c5 z.2.1 = c5 S ∧ Ux true true true S z.2.1) := by
  unfold gL_about
  exact sWb (aX_about hN hK h) (fun z q => sRet q) (fun _ => sRet (And.intro h (And.intro rfl Ux.r))) (fun _ => sRet (And.intro h (And.intro rfl Ux.r)))
theorem lL_has {N K : Nat} {S : CS} {p0 : Int32} {p1 : Int32} {nv : Int64} (hN : NBig N) (hK : 100 ≤ K) (h : OkX S) : Sf (gL_has N K S p0 p1 nv) (fun z => OkX z.2.1 ∧ c5 z.2.1 = c5 S ∧ Ux true true true S z.2.1) := by
  unfold gL_has
  exact sWb (aX_has hN hK h) (fun z q => sIf (fun _ => sRet q) (fun _ => sRet q)) (fun _ => sRet (And.intro h (And.intro rfl Ux.r))) (fun e => by cases e)
theorem lL_count {N K : Nat} {S : CS} {p0 : Int32} {p1 : Int32} {p2 : Int32} {nv : Int64} (hN : NBig N) (hK : 100 ≤ K) (h : OkX S) : Sf (gL_count N K S p0 p1 p2 nv) (fun z => OkX z.2.1 ∧ c5 z.2.1 = c5 S ∧ Ux true true true S z.2.1) := by
  unfold gL_count
  exact sWb (aX_count hN hK h) (fun z q => sRet q) (fun _ => sRet (And.intro h (And.intro rfl Ux.r))) (fun _ => sRet (And.intro h (And.intro rfl Ux.r)))
theorem lL_isSame {N K : Nat} {S : CS} {p0 : Int32} {p1 : Int32} {nv : Int64} (hN : NBig N) (hK : 100 ≤ K) (h : OkX S) : Sf (gL_isSame N K S p0 p1 nv) (fun z => OkX z.2.1 ∧ c5 z.2.1 = c5 S ∧ Ux true true true S z.2.1) := by
  unfold gL_isSame
  exact sWb (aX_isSame hN hK h) (fun z q => sIf (fun _ => sRet q) (fun _ => sRet q)) (fun _ => sRet (And.intro h (And.intro rfl Ux.r))) (fun e => by cases e)
theorem lL_walk {N K : Nat} {S : CS} {p0 : Int32} {p1 : Int32} {p2 : Int32} {nv : Int64} (hN : NBig N) (hK : 100 ≤ K) (h : OkX S) : Sf (gL_walk N K S p0 p1 p2 nv) (fun z => OkX z.2.1 ∧ c5 z.2.1 = c5 S ∧ Ux true true true S z.2.1) := by
  unfold gL_walk
  exact sWb (aX_walk hN hK h) (fun z q => sRet q) (fun e => by cases e) (fun _ => sRet (And.intro h (And.intro rfl Ux.r)))
theorem lL_product {N K : Nat} {S : CS} {p0 : Int32} {p1 : Int32} {p2 : Int32} {nv : Int64} (hN : NBig N) (hK : 100 ≤ K) (h : OkX S) : Sf (gL_product N K S p0 p1 p2 nv) (fun z => OkX z.2.1 ∧ c5 z.2.1 = c5 S ∧ Ux true true true S z.2.1) := by
  unfold gL_product
  exact sWb (aX_product hN hK h) (fun z q => sRet q) (fun e => by cases e) (fun _ => sRet (And.intro h (And.intro rfl Ux.r)))
theorem lL_rule {N K : Nat} {S : CS} {p0 : Int32} {p1 : Int32} {nv : Int64} (hN : NBig N) (hK : 100 ≤ K) (h : OkX S) : Sf (gL_rule N K S p0 p1 nv) (fun z => OkX z.2.1 ∧ c5 z.2.1 = c5 S ∧ Ux true false true S z.2.1) := by
  unfold gL_rule
  exact sWb (aX_rule hN hK h) (fun z q => sRet q) (fun _ => sRet (And.intro h (And.intro rfl Ux.r))) (fun _ => sRet (And.intro h (And.intro rfl Ux.r)))
theorem lL_forgetRule {N K : Nat} {S : CS} {p0 : Int32} {p1 : Int32} {nv : Int64} (hN : NBig N) (hK : 100 ≤ K) (h : OkX S) : Sf (gL_forgetRule N K S p0 p1 nv) (fun z => OkX z.2.1 ∧ c5 z.2.1 = c5 S ∧ Ux true false true S z.2.1) := by
  unfold gL_forgetRule
  exact sWb (aX_forgetRule hN hK h) (fun z q => sRet q) (fun _ => sRet (And.intro h (And.intro rfl Ux.r))) (fun _ => sRet (And.intro h (And.intro rfl Ux.r)))
theorem lL_ledger {N K : Nat} {S : CS} {p0 : Int32} {p1 : Int32} {nv : Int64} (hN : NBig N) (hK : 100 ≤ K) (h : OkX S) : Sf (gL_ledger N K S p0 p1 nv) (fun z => OkX z.2.1 ∧ c5 z.2.1 = c5 S ∧ Ux true true true S z.2.1) := by
  unfold gL_ledger
  exact sWb (aX_ledger hN hK h) (fun z q => sRet q) (fun _ => sRet (And.intro h (And.intro rfl Ux.r))) (fun _ => sRet (And.intro h (And.intro rfl Ux.r)))
theorem lL_ruleWorth {N K : Nat} {S : CS} {p0 : Int32} {p1 : Int32} {p2 : Int32} {nv : Int64} (hN : NBig N) (hK : 100 ≤ K) (h : OkX S) : Sf (gL_ruleWorth N K S p0 p1 p2 nv) (fun z => OkX z.2.1 ∧ c5 z.2.1 = c5 S ∧ Ux true true true S z.2.1) := by
  unfold gL_ruleWorth
  exact sWb (aX_ruleWorth hN hK h) (fun z q => sRet q) (fun _ => sRet (And.intro h (And.intro rfl Ux.r))) (fun _ => sRet (And.intro h (And.intro rfl Ux.r)))
theorem lL_addPart {N K : Nat} {S : CS} {p0 : Int32} {p1 : Int32} {p2 : Int32} {nv : Int64} (hN : NBig N) (hK : 100 ≤ K) (h : OkX S) : Sf (gL_addPart N K S p0 p1 p2 nv) (fun z => OkX z.2.1 ∧ c5 z.2.1 = c5 S ∧ Ux true true false S z.2.1) := by
  unfold gL_addPart
  exact sWb (aX_addPart hN hK h) (fun z q => sRet q) (fun _ => sRet (And.intro h (And.intro rfl Ux.r))) (fun _ => sRet (And.intro h (And.intro rfl Ux.r)))
theorem lL_takePart {N K : Nat} {S : CS} {p0 : Int32} {p1 : Int32} {nv : Int64} (hN : NBig N) (hK : 100 ≤ K) (h : OkX S) : Sf (gL_takePart N K S p0 p1 nv) (fun z => OkX z.2.1 ∧ c5 z.2.1 = c5 S ∧ Ux true true false S z.2.1) := by
  unfold gL_takePart
  exact sWb (aX_takePart hN hK h) (fun z q => sRet q) (fun _ => sRet (And.intro h (And.intro rfl Ux.r))) (fun _ => sRet (And.intro h (And.intro rfl Ux.r)))
theorem lL_layFirst {N K : Nat} {S : CS} {p0 : Int32} {p1 : Int32} {nv : Int64} (hN : NBig N) (hK : 100 ≤ K) (h : OkX S) : Sf (gL_layFirst N K S p0 p1 nv) (fun z => OkX z.2.1 ∧ c5 z.2.1 = c5 S ∧ Ux true true false S z.2.1) := by
  unfold gL_layFirst
  exact sWb (aX_layFirst hN hK h) (fun z q => sRet q) (fun _ => sRet (And.intro h (And.intro rfl Ux.r))) (fun _ => sRet (And.intro h (And.intro rfl Ux.r)))
theorem lL_next {N K : Nat} {S : CS} {p0 : Int32} {nv : Int64} (hN : NBig N) (hK : 100 ≤ K) (h : OkX S) : Sf (gL_next N K S p0 nv) (fun z => OkX z.2.1 ∧ c5 z.2.1 = c5 S ∧ Ux true true false S z.2.1) := by
  unfold gL_next
  exact sWb (aX_next hN hK h) (fun z q => sRet q) (fun _ => sRet (And.intro h (And.intro rfl Ux.r))) (fun e => by cases e)
theorem lL_turn {N K : Nat} {S : CS} {p0 : Int32} {nv : Int64} (hN : NBig N) (hK : 100 ≤ K) (h : OkX S) : Sf (gL_turn N K S p0 nv) (fun z => OkX z.2.1 ∧ c5 z.2.1 = c5 S ∧ Ux true true false S z.2.1) := by
  unfold gL_turn
  exact sWb (aX_turn hN hK h) (fun z q => sRet q) (fun _ => sRet (And.intro h (And.intro rfl Ux.r))) (fun e => by cases e)
theorem lL_toUnlike {N K : Nat} {S : CS} {p0 : Int32} {nv : Int64} (hN : NBig N) (hK : 100 ≤ K) (h : OkX S) : Sf (gL_toUnlike N K S p0 nv) (fun z => OkX z.2.1 ∧ c5 z.2.1 = c5 S ∧ Ux true true false S z.2.1) := by
  unfold gL_toUnlike
  exact sWb (aX_toUnlike hN hK h) (fun z q => sRet q) (fun _ => sRet (And.intro h (And.intro rfl Ux.r))) (fun e => by cases e)
theorem lL_toOdd {N K : Nat} {S : CS} {p0 : Int32} {nv : Int64} (hN : NBig N) (hK : 100 ≤ K) (h : OkX S) : Sf (gL_toOdd N K S p0 nv) (fun z => OkX z.2.1 ∧ c5 z.2.1 = c5 S ∧ Ux true true false S z.2.1) := by
  unfold gL_toOdd
  exact sWb (aX_toOdd hN hK h) (fun z q => sRet q) (fun _ => sRet (And.intro h (And.intro rfl Ux.r))) (fun e => by cases e)
theorem lL_copyDesk {N K : Nat} {S : CS} {p0 : Int32} {nv : Int64} (hN : NBig N) (hK : 100 ≤ K) (h : OkX S) : Sf (gL_copyDesk N K S p0 nv) (fun z => OkX z.2.1 ∧ c5 z.2.1 = c5 S ∧ Ux true true false S z.2.1) := by
  unfold gL_copyDesk
  exact sWb (aX_copyDesk hN hK h) (fun z q => sRet q) (fun _ => sRet (And.intro h (And.intro rfl Ux.r))) (fun e => by cases e)
theorem lL_times {N K : Nat} {S : CS} {p0 : Int32} {p1 : Int32} {nv : Int64} (hN : NBig N) (hK : 100 ≤ K) (h : OkX S) : Sf (gL_times N K S p0 p1 nv) (fun z => OkX z.2.1 ∧ c5 z.2.1 = c5 S ∧ Ux true true true S z.2.1) := by
  unfold gL_times
  exact sWb (aX_times hN hK h) (fun z q => sRet q) (fun _ => sRet (And.intro h (And.intro rfl Ux.r))) (fun _ => sRet (And.intro h (And.intro rfl Ux.r)))
theorem lL_way {N K : Nat} {S : CS} {p0 : Int32} {p1 : Int32} {nv : Int64} (hN : NBig N) (hK : 100 ≤ K) (h : OkX S) : Sf (gL_way N K S p0 p1 nv) (fun z => OkX z.2.1 ∧ c5 z.2.1 = c5 S ∧ Ux true true true S z.2.1) := by
  unfold gL_way
  exact sWb (aX_way hN hK h) (fun z q => sRet q) (fun _ => sRet (And.intro h (And.intro rfl Ux.r))) (fun _ => sRet (And.intro h (And.intro rfl Ux.r)))
theorem lL_wayText {N K : Nat} {S : CS} {p0 : Int32} {nv : Int64} (hN : NBig N) (hK : 100 ≤ K) (h : OkX S) : Sf (gL_wayText N K S p0 nv) (fun z => OkX z.2.1 ∧ c5 z.2.1 = c5 S ∧ Ux true true true S z.2.1) := by
  unfold gL_wayText
  exact sWb (aX_wayText hN hK h) (fun z q => sRet q) (fun _ => sRet (And.intro h (And.intro rfl Ux.r))) (fun e => by cases e)
theorem lL_isOf {N K : Nat} {S : CS} {p0 : Int32} {p1 : Int32} {p2 : Int32} {nv : Int64} (hN : NBig N) (hK : 100 ≤ K) (h : OkX S) : Sf (gL_isOf N K S p0 p1 p2 nv) (fun z => OkX z.2.1 ∧ c5 z.2.1 = c5 S ∧ Ux true true true S z.2.1) := by
  unfold gL_isOf
  exact sWb (aX_isOf hN hK h) (fun z q => sIf (fun _ => sRet q) (fun _ => sRet q)) (fun _ => sRet (And.intro h (And.intro rfl Ux.r))) (fun _ => sRet (And.intro h (And.intro rfl Ux.r)))
theorem lL_tally {N K : Nat} {S : CS} {p0 : Int32} {nv : Int64} (hN : NBig N) (hK : 100 ≤ K) (h : OkX S) : Sf (gL_tally N K S p0 nv) (fun z => OkX z.2.1 ∧ c5 z.2.1 = c5 S ∧ Ux true true true S z.2.1) := by
  unfold gL_tally
  exact sWb (aX_tally hN hK h) (fun z q => sRet q) (fun e => by cases e) (fun _ => sRet (And.intro h (And.intro rfl Ux.r)))
theorem lL_isSound {N K : Nat} {S : CS} {p0 : Int32} {nv : Int64} (hN : NBig N) (hK : 100 ≤ K) (h : OkX S) : Sf (gL_isSound N K S p0 nv) (fun z => OkX z.2.1 ∧ c5 z.2.1 = c5 S ∧ Ux true true true S z.2.1) := by
  unfold gL_isSound
  exact sWb (aX_isSound hN hK h) (fun z q => sIf (fun _ => sRet q) (fun _ => sRet q)) (fun _ => sRet (And.intro h (And.intro rfl Ux.r))) (fun e => by cases e)

end MG_60bapi
