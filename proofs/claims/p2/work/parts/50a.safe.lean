def Sf {T : Type} (o : Option T) (P : T → Prop) : Prop := ∃ x, o = some x ∧ P x
theorem sRet {T : Type} {x : T} {P : T → Prop} (h : P x) : Sf (some x) P := ⟨x, rfl, h⟩
theorem sBind {U T : Type} {u : Option U} {k : U → Option T} {Q : U → Prop} {P : T → Prop} (h : Sf u Q) (K : ∀ y, Q y → Sf (k y) P) : Sf (u.bind k) P := by
  obtain ⟨y, e, q⟩ := h
  obtain ⟨x, e2, p⟩ := K y q
  exact ⟨x, by rw [e]; exact e2, p⟩
theorem sIf {T : Type} {C : Prop} {dc : Decidable C} {A B : Option T} {P : T → Prop} (kt : C → Sf A P) (kf : ¬ C → Sf B P) : Sf (if C then A else B) P := by
  by_cases h : C
  · rw [if_pos h]; exact kt h
  · rw [if_neg h]; exact kf h
theorem sIfF {T : Type} {C : Prop} {dc : Decidable C} {A B : Option T} {P : T → Prop} (h : ¬ C) (k : Sf B P) : Sf (if C then A else B) P := by rw [if_neg h]; exact k
theorem sIfT {T : Type} {C : Prop} {dc : Decidable C} {A B : Option T} {P : T → Prop} (h : C) (k : Sf A P) : Sf (if C then A else B) P := by rw [if_pos h]; exact k
def eP (b1 b2 : Bool) (E : String) : Prop := (b1 = true ∧ E = "java/lang/IndexOutOfBoundsException") ∨ (b2 = true ∧ E = "java/lang/IllegalArgumentException")
def xP {U : Type} (b1 b2 : Bool) (Q : U → Prop) : U ⊕ String → Prop := fun x => match x with
  | .inl a => Q a
  | .inr E => eP b1 b2 E
theorem sXb {U V : Type} {b1 b2 c1 c2 : Bool} {u : Option (U ⊕ String)} {k : U → Option (V ⊕ String)} {Q : U → Prop} {P : V → Prop} (h : Sf u (xP b1 b2 Q)) (h1 : b1 = true → c1 = true) (h2 : b2 = true → c2 = true) (K : ∀ y, Q y → Sf (k y) (xP c1 c2 P)) : Sf (xb u k) (xP c1 c2 P) := by
  obtain ⟨y, e, q⟩ := h
  rw [e]
  cases y with
  | inl a => exact K a q
  | inr E => exact ⟨.inr E, rfl, Or.imp (fun z => ⟨h1 z.1, z.2⟩) (fun z => ⟨h2 z.1, z.2⟩) q⟩
theorem sMono {T : Type} {o : Option T} {P Q : T → Prop} (h : Sf o P) (k : ∀ x, P x → Q x) : Sf o Q := by
  obtain ⟨x, e, p⟩ := h
  exact ⟨x, e, k x p⟩
theorem sXl {V : Type} {b1 b2 : Bool} {P : V → Prop} {x : V} (h : P x) : Sf (some (.inl x : V ⊕ String)) (xP b1 b2 P) := ⟨_, rfl, h⟩
theorem sX1 {V : Type} {b2 : Bool} {P : V → Prop} : Sf (some (.inr "java/lang/IndexOutOfBoundsException" : V ⊕ String)) (xP true b2 P) := ⟨_, rfl, Or.inl ⟨rfl, rfl⟩⟩
theorem sX2 {V : Type} {b1 : Bool} {P : V → Prop} : Sf (some (.inr "java/lang/IllegalArgumentException" : V ⊕ String)) (xP b1 true P) := ⟨_, rfl, Or.inr ⟨rfl, rfl⟩⟩
theorem noob {i : Int32} {n : Nat} (h1 : 0 ≤ i.toInt) (h2 : i.toInt < (n : Int)) : ¬ (i < 0 ∨ n ≤ i.toNatClampNeg) := by
  have e : i.toNatClampNeg = i.toInt.toNat := rfl
  rintro (h | h)
  · have := Int32.lt_iff_toInt_lt.mp h
    have e0 : (0 : Int32).toInt = 0 := by decide
    omega
  · omega
theorem ltT {a b : Int32} (h : a < b) : a.toInt < b.toInt := Int32.lt_iff_toInt_lt.mp h
theorem leT {a b : Int32} (h : a ≤ b) : a.toInt ≤ b.toInt := Int32.le_iff_toInt_le.mp h
theorem eqT {a b : Int32} (h : a = b) : a.toInt = b.toInt := by rw [h]
theorem ltF {a b : Int32} (h : ¬ a < b) : b.toInt ≤ a.toInt := Int.not_lt.mp (fun k => h (Int32.lt_iff_toInt_lt.mpr k))
theorem leF {a b : Int32} (h : ¬ a ≤ b) : b.toInt < a.toInt := Int.not_le.mp (fun k => h (Int32.le_iff_toInt_le.mpr k))
theorem eqF {a b : Int32} (h : ¬ a = b) : ¬ a.toInt = b.toInt := fun k => h (Int32.toInt_inj.mp k)
theorem rgI (a : Int32) : -2147483648 ≤ a.toInt ∧ a.toInt ≤ 2147483647 := ⟨a.le_toInt, Int.le_of_lt_add_one a.toInt_lt⟩
theorem addI {a b : Int32} (h1 : -2147483648 ≤ a.toInt + b.toInt) (h2 : a.toInt + b.toInt ≤ 2147483647) : (a + b).toInt = a.toInt + b.toInt := by
  rw [Int32.toInt_add]
  exact Int.bmod_eq_of_le (by show -(4294967296 / 2) ≤ _; omega) (by show _ < (4294967296 + 1) / 2; omega)
theorem subI {a b : Int32} (h1 : -2147483648 ≤ a.toInt - b.toInt) (h2 : a.toInt - b.toInt ≤ 2147483647) : (a - b).toInt = a.toInt - b.toInt := by
  rw [Int32.toInt_sub]
  exact Int.bmod_eq_of_le (by show -(4294967296 / 2) ≤ _; omega) (by show _ < (4294967296 + 1) / 2; omega)
theorem mulI {a b : Int32} (h1 : -2147483648 ≤ a.toInt * b.toInt) (h2 : a.toInt * b.toInt ≤ 2147483647) : (a * b).toInt = a.toInt * b.toInt := by
  rw [Int32.toInt_mul]
  exact Int.bmod_eq_of_le (by show -(4294967296 / 2) ≤ _; omega) (by show _ < (4294967296 + 1) / 2; omega)
theorem mulL {a b : Int32} {c : Int} (h : a.toInt = c) (h1 : -2147483648 ≤ c * b.toInt) (h2 : c * b.toInt ≤ 2147483647) : (a * b).toInt = c * b.toInt := by
  subst h; exact mulI h1 h2
theorem mulR {a b : Int32} {c : Int} (h : b.toInt = c) (h1 : -2147483648 ≤ a.toInt * c) (h2 : a.toInt * c ≤ 2147483647) : (a * b).toInt = a.toInt * c := by
  subst h; exact mulI h1 h2
theorem negI {a : Int32} (h1 : -2147483648 < a.toInt) : (-a).toInt = -a.toInt := by
  have := rgI a
  rw [Int32.toInt_neg]
  exact Int.bmod_eq_of_le (by show -(4294967296 / 2) ≤ _; omega) (by show _ < (4294967296 + 1) / 2; omega)
theorem divL {a b : Int32} {c : Int} (h : b.toInt = c) (hc : 0 < c) (h1 : 0 ≤ a.toInt) : (a / b).toInt = a.toInt / c := by
  have := rgI a
  subst h
  rw [Int32.toInt_div, Int.tdiv_eq_ediv_of_nonneg h1]
  have h3 : 0 ≤ a.toInt / b.toInt := Int.ediv_nonneg h1 (by omega)
  have h4 : a.toInt / b.toInt ≤ a.toInt := Int.ediv_le_self _ h1
  exact Int.bmod_eq_of_le (by show -(4294967296 / 2) ≤ _; omega) (by show _ < (4294967296 + 1) / 2; omega)
theorem modL {a b : Int32} {c : Int} (h : b.toInt = c) (h1 : 0 ≤ a.toInt) : (a % b).toInt = a.toInt % c := by
  subst h
  rw [Int32.toInt_mod, Int.tmod_eq_emod_of_nonneg h1]
theorem modN {a b : Int32} {c : Int} (h : b.toInt = c) (hc : 0 < c) : -c < (a % b).toInt ∧ (a % b).toInt < c := by
  subst h
  rw [Int32.toInt_mod]
  have h2 := Int.tmod_lt_of_pos a.toInt hc
  have h3 : -b.toInt < a.toInt.tmod b.toInt := Int.neg_lt_tmod_of_pos a.toInt hc
  exact ⟨h3, h2⟩
theorem b01 {v : Int32} (h : 0 ≤ v.toInt) (h2 : v.toInt ≤ 1) : v = 0 ∨ v = 1 := by
  have : v.toInt = 0 ∨ v.toInt = 1 := by omega
  rcases this with h | h
  · exact Or.inl (Int32.toInt_inj.mp (h.trans (by decide)))
  · exact Or.inr (Int32.toInt_inj.mp (h.trans (by decide)))
set_option maxHeartbeats 2000000 in
theorem s_J_fill_5 {N K : Nat} {n : Nat} {f : Nat → Int32} {v : Int32} (hN : 2 ^ 40 ≤ N) (hK : 100 ≤ K) (hp0 : -1 ≤ v.toInt) (hp1 : v.toInt ≤ 0) : ∀ (fu : Nat) (l2 : Int32) (l3 : Int32) (f_ : (Nat → Int32)), (2147483647 - l2.toInt).toNat < fu → 0 ≤ l2.toInt → Sf (fJ_fill_5 N K n f v  fu l2 l3 f_) (fun (z : (Nat → Int32)) => True) := by
  intro fu
  induction fu with
  | zero => intro l2 l3 f_ h0 hq0; omega
  | succ fu ih =>
    intro l2 l3 f_ h0 hq0
    unfold fJ_fill_5
    have ql0 : (0 : Int32).toInt = 0 := by decide
    have ql1 : (1 : Int32).toInt = 1 := by decide
    refine sIf (fun h1 => ?_) (fun h1 => ?_)
    · have r2 := rgI l3
      have r3 := rgI l2
      have fh1 := leT h1
      exact sRet ⟨trivial⟩
    · have r4 := rgI l3
      have r5 := rgI l2
      have fh1 := leF h1
      refine sIfF (noob (by omega) (by omega)) ?_
      have t6 := addI (a := l2) (b := (1 : Int32)) (by omega) (by omega)
      exact ih _ _ _ (by omega) (by omega)
set_option maxHeartbeats 2000000 in
theorem s_J_fill {N K : Nat} {n : Nat} {f : Nat → Int32} {v : Int32} (hN : 2 ^ 40 ≤ N) (hK : 100 ≤ K) (hp0 : -1 ≤ v.toInt) (hp1 : v.toInt ≤ 0) : Sf (fJ_fill N K n f v) (fun (z : (Nat → Int32)) => True) := by
  unfold fJ_fill
  have ql0 : (0 : Int32).toInt = 0 := by decide
  have r1 := rgI (Int32.ofNat n)
  exact s_J_fill_5  hN hK (by omega) (by omega) _ _ _ _ (by omega) (by omega)
set_option maxHeartbeats 2000000 in
theorem s_X4_timesOf {N K : Nat} {f : Nat → Int32} {p0 : Int32} (hN : 2 ^ 40 ≤ N) (hK : 100 ≤ K) (hp0 : 1 ≤ p0.toInt) (hp1 : p0.toInt ≤ 20) : Sf (fX4_timesOf N K f p0) (fun (z : Int32) => True) := by
  unfold fX4_timesOf
  have ql0 : (0 : Int32).toInt = 0 := by decide
  have ql1 : (1 : Int32).toInt = 1 := by decide
  have ql20 : (20 : Int32).toInt = 20 := by decide
  refine sIf (fun h1 => ?_) (fun h1 => ?_)
  · have r2 := rgI p0
    have fh1 := ltT h1
    exfalso; omega
  · have r3 := rgI p0
    have fh1 := ltF h1
    refine sIf (fun h4 => ?_) (fun h4 => ?_)
    · have fh4 := leT h4
      refine sIfF (noob (by omega) (by omega)) ?_
      have r5 := rgI (f p0.toNatClampNeg)
      exact sRet ⟨trivial⟩
    · have fh4 := leF h4
      exfalso; omega
set_option maxHeartbeats 2000000 in
theorem s_X4_put {N K : Nat} {f : Nat → Int32} {p0 : Int32} {p1 : Int32} (hN : 2 ^ 40 ≤ N) (hK : 100 ≤ K)  : Sf (fX4_put N K f p0 p1) (fun (z : (Nat → Int32)) => True) := by
  unfold fX4_put
  have ql0 : (0 : Int32).toInt = 0 := by decide
  have ql1 : (1 : Int32).toInt = 1 := by decide
  have ql20 : (20 : Int32).toInt = 20 := by decide
  refine sIf (fun h1 => ?_) (fun h1 => ?_)
  · have r2 := rgI p0
    have fh1 := ltT h1
    exact sRet ⟨trivial⟩
  · have r3 := rgI p0
    have fh1 := ltF h1
    refine sIf (fun h4 => ?_) (fun h4 => ?_)
    · have fh4 := ltT h4
      exact sRet ⟨trivial⟩
    · have fh4 := ltF h4
      refine sIfF (noob (by omega) (by omega)) ?_
      refine sIfF (noob (by omega) (by omega)) ?_
      exact sRet ⟨trivial⟩
set_option maxHeartbeats 2000000 in
theorem s_X4_sum_4 {N K : Nat} {f : Nat → Int32} (hN : 2 ^ 40 ≤ N) (hK : 100 ≤ K)  : ∀ (fu : Nat) (l1 : Int32) (l2 : Int32), (21 - l2.toInt).toNat < fu → 1 ≤ l2.toInt → l2.toInt ≤ 21 → Sf (fX4_sum_4 N K f  fu l1 l2) (fun (z : Int32) => True) := by
  intro fu
  induction fu with
  | zero => intro l1 l2 h0 hq0 hq1; omega
  | succ fu ih =>
    intro l1 l2 h0 hq0 hq1
    unfold fX4_sum_4
    have ql0 : (0 : Int32).toInt = 0 := by decide
    have ql1 : (1 : Int32).toInt = 1 := by decide
    have ql20 : (20 : Int32).toInt = 20 := by decide
    refine sIf (fun h1 => ?_) (fun h1 => ?_)
    · have r2 := rgI l2
      have fh1 := ltT h1
      have r3 := rgI l1
      exact sRet ⟨trivial⟩
    · have r4 := rgI l2
      have fh1 := ltF h1
      refine sIfF (noob (by omega) (by omega)) ?_
      have r5 := rgI (l1 + (l2 * (f l2.toNatClampNeg)))
      have t6 := addI (a := l2) (b := (1 : Int32)) (by omega) (by omega)
      exact ih _ _ (by omega) (by omega) (by omega)
set_option maxHeartbeats 2000000 in
theorem s_X4_sum {N K : Nat} {f : Nat → Int32} (hN : 2 ^ 40 ≤ N) (hK : 100 ≤ K)  : Sf (fX4_sum N K f) (fun (z : Int32) => True) := by
  unfold fX4_sum
  have ql0 : (0 : Int32).toInt = 0 := by decide
  have ql1 : (1 : Int32).toInt = 1 := by decide
  exact s_X4_sum_4  hN hK _ _ _ (by omega) (by omega) (by omega)
set_option maxHeartbeats 2000000 in
theorem s_X4_parts_4 {N K : Nat} {f : Nat → Int32} (hN : 2 ^ 40 ≤ N) (hK : 100 ≤ K)  : ∀ (fu : Nat) (l1 : Int32) (l2 : Int32), (21 - l2.toInt).toNat < fu → 1 ≤ l2.toInt → l2.toInt ≤ 21 → Sf (fX4_parts_4 N K f  fu l1 l2) (fun (z : Int32) => True) := by
  intro fu
  induction fu with
  | zero => intro l1 l2 h0 hq0 hq1; omega
  | succ fu ih =>
    intro l1 l2 h0 hq0 hq1
    unfold fX4_parts_4
    have ql0 : (0 : Int32).toInt = 0 := by decide
    have ql1 : (1 : Int32).toInt = 1 := by decide
    have ql20 : (20 : Int32).toInt = 20 := by decide
    refine sIf (fun h1 => ?_) (fun h1 => ?_)
    · have r2 := rgI l2
      have fh1 := ltT h1
      have r3 := rgI l1
      exact sRet ⟨trivial⟩
    · have r4 := rgI l2
      have fh1 := ltF h1
      refine sIfF (noob (by omega) (by omega)) ?_
      have r5 := rgI (l1 + (f l2.toNatClampNeg))
      have t6 := addI (a := l2) (b := (1 : Int32)) (by omega) (by omega)
      exact ih _ _ (by omega) (by omega) (by omega)
set_option maxHeartbeats 2000000 in
theorem s_X4_parts {N K : Nat} {f : Nat → Int32} (hN : 2 ^ 40 ≤ N) (hK : 100 ≤ K)  : Sf (fX4_parts N K f) (fun (z : Int32) => True) := by
  unfold fX4_parts
  have ql0 : (0 : Int32).toInt = 0 := by decide
  have ql1 : (1 : Int32).toInt = 1 := by decide
  exact s_X4_parts_4  hN hK _ _ _ (by omega) (by omega) (by omega)
set_option maxHeartbeats 2000000 in
theorem s_X4_differentParts_22 {N K : Nat} {f : Nat → Int32} (hN : 2 ^ 40 ≤ N) (hK : 100 ≤ K)  {k_4 : Int32 → Int32 → Option (Int32)} {m_4 : Nat} (hk_4 : ∀ (l1 : Int32) (l2 : Int32), (21 - l2.toInt).toNat < m_4 → 1 ≤ l2.toInt → l2.toInt ≤ 21 → Sf (k_4 l1 l2) (fun (z : Int32) => True)) : ∀ (l1 : Int32) (l2 : Int32), 1 ≤ l2.toInt → l2.toInt ≤ 20 → (21 - l2.toInt).toNat ≤ m_4 → Sf (fX4_differentParts_22 N K f k_4 l1 l2) (fun (z : Int32) => True) := by
  intro l1 l2 hq0 hq1 hq2
  unfold fX4_differentParts_22
  have ql0 : (0 : Int32).toInt = 0 := by decide
  have ql1 : (1 : Int32).toInt = 1 := by decide
  have r1 := rgI l1
  have r3 := rgI l2
  have t2 := addI (a := l2) (b := (1 : Int32)) (by omega) (by omega)
  exact hk_4 _ _ (by omega) (by omega) (by omega)
set_option maxHeartbeats 2000000 in
theorem s_X4_differentParts_4 {N K : Nat} {f : Nat → Int32} (hN : 2 ^ 40 ≤ N) (hK : 100 ≤ K)  : ∀ (fu : Nat) (l1 : Int32) (l2 : Int32), (21 - l2.toInt).toNat < fu → 1 ≤ l2.toInt → l2.toInt ≤ 21 → Sf (fX4_differentParts_4 N K f  fu l1 l2) (fun (z : Int32) => True) := by
  intro fu
  induction fu with
  | zero => intro l1 l2 h0 hq0 hq1; omega
  | succ fu ih =>
    intro l1 l2 h0 hq0 hq1
    unfold fX4_differentParts_4
    have ql0 : (0 : Int32).toInt = 0 := by decide
    have ql20 : (20 : Int32).toInt = 20 := by decide
    refine sIf (fun h1 => ?_) (fun h1 => ?_)
    · have r2 := rgI l2
      have fh1 := ltT h1
      have r3 := rgI l1
      exact sRet ⟨trivial⟩
    · have r4 := rgI l2
      have fh1 := ltF h1
      refine sIfF (noob (by omega) (by omega)) ?_
      refine sIf (fun h5 => ?_) (fun h5 => ?_)
      · have r6 := rgI (f l2.toNatClampNeg)
        have fh5 := leT h5
        have r7 := rgI l1
        exact s_X4_differentParts_22 (hk_4 := ih) hN hK _ _ (by omega) (by omega) (by omega)
      · have r8 := rgI (f l2.toNatClampNeg)
        have fh5 := leF h5
        have r9 := rgI (l1 + (1 : Int32))
        exact s_X4_differentParts_22 (hk_4 := ih) hN hK _ _ (by omega) (by omega) (by omega)
set_option maxHeartbeats 2000000 in
theorem s_X4_differentParts {N K : Nat} {f : Nat → Int32} (hN : 2 ^ 40 ≤ N) (hK : 100 ≤ K)  : Sf (fX4_differentParts N K f) (fun (z : Int32) => True) := by
  unfold fX4_differentParts
  have ql0 : (0 : Int32).toInt = 0 := by decide
  have ql1 : (1 : Int32).toInt = 1 := by decide
  exact s_X4_differentParts_4  hN hK _ _ _ (by omega) (by omega) (by omega)
set_option maxHeartbeats 2000000 in
theorem s_X4_isUnlike_2 {N K : Nat} {f : Nat → Int32} (hN : 2 ^ 40 ≤ N) (hK : 100 ≤ K)  : ∀ (fu : Nat) (l1 : Int32), (21 - l1.toInt).toNat < fu → 1 ≤ l1.toInt → l1.toInt ≤ 21 → Sf (fX4_isUnlike_2 N K f  fu l1) (fun (z : Int32) => 0 ≤ z.toInt ∧ z.toInt ≤ 1 ∧ True) := by
  intro fu
  induction fu with
  | zero => intro l1 h0 hq0 hq1; omega
  | succ fu ih =>
    intro l1 h0 hq0 hq1
    unfold fX4_isUnlike_2
    have ql0 : (0 : Int32).toInt = 0 := by decide
    have ql1 : (1 : Int32).toInt = 1 := by decide
    have ql20 : (20 : Int32).toInt = 20 := by decide
    refine sIf (fun h1 => ?_) (fun h1 => ?_)
    · have r2 := rgI l1
      have fh1 := ltT h1
      exact sRet ⟨(by show 0 ≤ (1 : Int32).toInt; omega), (by show (1 : Int32).toInt ≤ 1; omega), trivial⟩
    · have r3 := rgI l1
      have fh1 := ltF h1
      refine sIfF (noob (by omega) (by omega)) ?_
      refine sIf (fun h4 => ?_) (fun h4 => ?_)
      · have r5 := rgI (f l1.toNatClampNeg)
        have fh4 := leT h4
        have t6 := addI (a := l1) (b := (1 : Int32)) (by omega) (by omega)
        exact ih _ (by omega) (by omega) (by omega)
      · have r7 := rgI (f l1.toNatClampNeg)
        have fh4 := leF h4
        exact sRet ⟨(by show 0 ≤ (0 : Int32).toInt; omega), (by show (0 : Int32).toInt ≤ 1; omega), trivial⟩
set_option maxHeartbeats 2000000 in
theorem s_X4_isUnlike {N K : Nat} {f : Nat → Int32} (hN : 2 ^ 40 ≤ N) (hK : 100 ≤ K)  : Sf (fX4_isUnlike N K f) (fun (z : Int32) => 0 ≤ z.toInt ∧ z.toInt ≤ 1 ∧ True) := by
  unfold fX4_isUnlike
  have ql0 : (0 : Int32).toInt = 0 := by decide
  have ql1 : (1 : Int32).toInt = 1 := by decide
  exact s_X4_isUnlike_2  hN hK _ _ (by omega) (by omega) (by omega)
set_option maxHeartbeats 2000000 in
theorem s_X4_isOdd_2 {N K : Nat} {f : Nat → Int32} (hN : 2 ^ 40 ≤ N) (hK : 100 ≤ K)  : ∀ (fu : Nat) (l1 : Int32), (22 - l1.toInt).toNat < fu → 2 ≤ l1.toInt → l1.toInt ≤ 22 → Sf (fX4_isOdd_2 N K f  fu l1) (fun (z : Int32) => 0 ≤ z.toInt ∧ z.toInt ≤ 1 ∧ True) := by
  intro fu
  induction fu with
  | zero => intro l1 h0 hq0 hq1; omega
  | succ fu ih =>
    intro l1 h0 hq0 hq1
    unfold fX4_isOdd_2
    have ql0 : (0 : Int32).toInt = 0 := by decide
    have ql1 : (1 : Int32).toInt = 1 := by decide
    have ql2 : (2 : Int32).toInt = 2 := by decide
    have ql20 : (20 : Int32).toInt = 20 := by decide
    refine sIf (fun h1 => ?_) (fun h1 => ?_)
    · have r2 := rgI l1
      have fh1 := ltT h1
      exact sRet ⟨(by show 0 ≤ (1 : Int32).toInt; omega), (by show (1 : Int32).toInt ≤ 1; omega), trivial⟩
    · have r3 := rgI l1
      have fh1 := ltF h1
      refine sIfF (noob (by omega) (by omega)) ?_
      refine sIf (fun h4 => ?_) (fun h4 => ?_)
      · have r5 := rgI (f l1.toNatClampNeg)
        have fh4 := leT h4
        have t6 := addI (a := l1) (b := (2 : Int32)) (by omega) (by omega)
        exact ih _ (by omega) (by omega) (by omega)
      · have r7 := rgI (f l1.toNatClampNeg)
        have fh4 := leF h4
        exact sRet ⟨(by show 0 ≤ (0 : Int32).toInt; omega), (by show (0 : Int32).toInt ≤ 1; omega), trivial⟩
set_option maxHeartbeats 2000000 in
theorem s_X4_isOdd {N K : Nat} {f : Nat → Int32} (hN : 2 ^ 40 ≤ N) (hK : 100 ≤ K)  : Sf (fX4_isOdd N K f) (fun (z : Int32) => 0 ≤ z.toInt ∧ z.toInt ≤ 1 ∧ True) := by
  unfold fX4_isOdd
  have ql0 : (0 : Int32).toInt = 0 := by decide
  have ql2 : (2 : Int32).toInt = 2 := by decide
  exact s_X4_isOdd_2  hN hK _ _ (by omega) (by omega) (by omega)
set_option maxHeartbeats 2000000 in
theorem s_X4_leastAboveOne_2 {N K : Nat} {f : Nat → Int32} (hN : 2 ^ 40 ≤ N) (hK : 100 ≤ K)  : ∀ (fu : Nat) (l1 : Int32), (21 - l1.toInt).toNat < fu → 2 ≤ l1.toInt → l1.toInt ≤ 21 → Sf (fX4_leastAboveOne_2 N K f  fu l1) (fun (z : Int32) => 0 ≤ z.toInt ∧ z.toInt ≤ 20 ∧ True) := by
  intro fu
  induction fu with
  | zero => intro l1 h0 hq0 hq1; omega
  | succ fu ih =>
    intro l1 h0 hq0 hq1
    unfold fX4_leastAboveOne_2
    have ql0 : (0 : Int32).toInt = 0 := by decide
    have ql1 : (1 : Int32).toInt = 1 := by decide
    have ql20 : (20 : Int32).toInt = 20 := by decide
    refine sIf (fun h1 => ?_) (fun h1 => ?_)
    · have r2 := rgI l1
      have fh1 := ltT h1
      exact sRet ⟨(by show 0 ≤ (0 : Int32).toInt; omega), (by show (0 : Int32).toInt ≤ 20; omega), trivial⟩
    · have r3 := rgI l1
      have fh1 := ltF h1
      refine sIfF (noob (by omega) (by omega)) ?_
      refine sIf (fun h4 => ?_) (fun h4 => ?_)
      · have r5 := rgI (f l1.toNatClampNeg)
        have fh4 := leT h4
        have t6 := addI (a := l1) (b := (1 : Int32)) (by omega) (by omega)
        exact ih _ (by omega) (by omega) (by omega)
      · have r7 := rgI (f l1.toNatClampNeg)
        have fh4 := leF h4
        exact sRet ⟨(by show 0 ≤ l1.toInt; omega), (by show l1.toInt ≤ 20; omega), trivial⟩
set_option maxHeartbeats 2000000 in
theorem s_X4_leastAboveOne {N K : Nat} {f : Nat → Int32} (hN : 2 ^ 40 ≤ N) (hK : 100 ≤ K)  : Sf (fX4_leastAboveOne N K f) (fun (z : Int32) => 0 ≤ z.toInt ∧ z.toInt ≤ 20 ∧ True) := by
  unfold fX4_leastAboveOne
  have ql0 : (0 : Int32).toInt = 0 := by decide
  have ql2 : (2 : Int32).toInt = 2 := by decide
  exact s_X4_leastAboveOne_2  hN hK _ _ (by omega) (by omega) (by omega)
set_option maxHeartbeats 2000000 in
theorem s_X4_isLike_2 {N K : Nat} {f : Nat → Int32} {g : Nat → Int32} (hN : 2 ^ 40 ≤ N) (hK : 100 ≤ K)  : ∀ (fu : Nat) (l2 : Int32), (21 - l2.toInt).toNat < fu → 1 ≤ l2.toInt → l2.toInt ≤ 21 → Sf (fX4_isLike_2 N K f g  fu l2) (fun (z : Int32) => 0 ≤ z.toInt ∧ z.toInt ≤ 1 ∧ True) := by
  intro fu
  induction fu with
  | zero => intro l2 h0 hq0 hq1; omega
  | succ fu ih =>
    intro l2 h0 hq0 hq1
    unfold fX4_isLike_2
    have ql0 : (0 : Int32).toInt = 0 := by decide
    have ql1 : (1 : Int32).toInt = 1 := by decide
    have ql20 : (20 : Int32).toInt = 20 := by decide
    refine sIf (fun h1 => ?_) (fun h1 => ?_)
    · have r2 := rgI l2
      have fh1 := ltT h1
      exact sRet ⟨(by show 0 ≤ (1 : Int32).toInt; omega), (by show (1 : Int32).toInt ≤ 1; omega), trivial⟩
    · have r3 := rgI l2
      have fh1 := ltF h1
      refine sIfF (noob (by omega) (by omega)) ?_
      refine sIfF (noob (by omega) (by omega)) ?_
      refine sIf (fun h4 => ?_) (fun h4 => ?_)
      · have r5 := rgI (f l2.toNatClampNeg)
        have r6 := rgI (g l2.toNatClampNeg)
        have fh4 := eqT h4
        have t7 := addI (a := l2) (b := (1 : Int32)) (by omega) (by omega)
        exact ih _ (by omega) (by omega) (by omega)
      · have r8 := rgI (f l2.toNatClampNeg)
        have r9 := rgI (g l2.toNatClampNeg)
        have fh4 := eqF h4
        exact sRet ⟨(by show 0 ≤ (0 : Int32).toInt; omega), (by show (0 : Int32).toInt ≤ 1; omega), trivial⟩
set_option maxHeartbeats 2000000 in
theorem s_X4_isLike {N K : Nat} {f : Nat → Int32} {g : Nat → Int32} (hN : 2 ^ 40 ≤ N) (hK : 100 ≤ K)  : Sf (fX4_isLike N K f g) (fun (z : Int32) => 0 ≤ z.toInt ∧ z.toInt ≤ 1 ∧ True) := by
  unfold fX4_isLike
  have ql0 : (0 : Int32).toInt = 0 := by decide
  have ql1 : (1 : Int32).toInt = 1 := by decide
  exact s_X4_isLike_2  hN hK _ _ (by omega) (by omega) (by omega)
set_option maxHeartbeats 2000000 in
theorem s_X4_hasNoneAbove_3 {N K : Nat} {f : Nat → Int32} {p0 : Int32} (hN : 2 ^ 40 ≤ N) (hK : 100 ≤ K) (hp0 : 0 ≤ p0.toInt) (hp1 : p0.toInt ≤ 20) : ∀ (fu : Nat) (l2 : Int32), (l2.toInt - 0).toNat < fu → 0 ≤ l2.toInt → l2.toInt ≤ 20 → Sf (fX4_hasNoneAbove_3 N K f p0  fu l2) (fun (z : Int32) => 0 ≤ z.toInt ∧ z.toInt ≤ 1 ∧ True) := by
  intro fu
  induction fu with
  | zero => intro l2 h0 hq0 hq1; omega
  | succ fu ih =>
    intro l2 h0 hq0 hq1
    unfold fX4_hasNoneAbove_3
    have qlm1 : (-1 : Int32).toInt = -1 := by decide
    have ql0 : (0 : Int32).toInt = 0 := by decide
    have ql1 : (1 : Int32).toInt = 1 := by decide
    refine sIf (fun h1 => ?_) (fun h1 => ?_)
    · have r2 := rgI l2
      have r3 := rgI p0
      have fh1 := leT h1
      exact sRet ⟨(by show 0 ≤ (1 : Int32).toInt; omega), (by show (1 : Int32).toInt ≤ 1; omega), trivial⟩
    · have r4 := rgI l2
      have r5 := rgI p0
      have fh1 := leF h1
      refine sIf (fun h6 => ?_) (fun h6 => ?_)
      · have fh6 := ltT h6
        exfalso; omega
      · have fh6 := ltF h6
        refine sIfF (noob (by omega) (by omega)) ?_
        refine sIf (fun h7 => ?_) (fun h7 => ?_)
        · have r8 := rgI (f l2.toNatClampNeg)
          have fh7 := leT h7
          have t9 := addI (a := l2) (b := (-1 : Int32)) (by omega) (by omega)
          exact ih _ (by omega) (by omega) (by omega)
        · have r10 := rgI (f l2.toNatClampNeg)
          have fh7 := leF h7
          exact sRet ⟨(by show 0 ≤ (0 : Int32).toInt; omega), (by show (0 : Int32).toInt ≤ 1; omega), trivial⟩
set_option maxHeartbeats 2000000 in
theorem s_X4_hasNoneAbove {N K : Nat} {f : Nat → Int32} {p0 : Int32} (hN : 2 ^ 40 ≤ N) (hK : 100 ≤ K) (hp0 : 0 ≤ p0.toInt) (hp1 : p0.toInt ≤ 20) : Sf (fX4_hasNoneAbove N K f p0) (fun (z : Int32) => 0 ≤ z.toInt ∧ z.toInt ≤ 1 ∧ True) := by
  unfold fX4_hasNoneAbove
  have ql0 : (0 : Int32).toInt = 0 := by decide
  have ql20 : (20 : Int32).toInt = 20 := by decide
  exact s_X4_hasNoneAbove_3  hN hK (by omega) (by omega) _ _ (by omega) (by omega) (by omega)
set_option maxHeartbeats 2000000 in
theorem s_X4_becomeEmpty {N K : Nat} {f : Nat → Int32} (hN : 2 ^ 40 ≤ N) (hK : 100 ≤ K)  : Sf (fX4_becomeEmpty N K f) (fun (z : (Nat → Int32)) => True) := by
  unfold fX4_becomeEmpty
  have ql0 : (0 : Int32).toInt = 0 := by decide
  refine sBind (s_J_fill hN hK (by omega) (by omega)) (fun x5 b1 => ?_)
  exact sRet ⟨trivial⟩
set_option maxHeartbeats 2000000 in
theorem s_X4_becomeFirst {N K : Nat} {f : Nat → Int32} {p0 : Int32} (hN : 2 ^ 40 ≤ N) (hK : 100 ≤ K) (hp0 : 0 ≤ p0.toInt) (hp1 : p0.toInt ≤ 20) : Sf (fX4_becomeFirst N K f p0) (fun (z : (Nat → Int32)) => True) := by
  unfold fX4_becomeFirst
  have ql0 : (0 : Int32).toInt = 0 := by decide
  have ql1 : (1 : Int32).toInt = 1 := by decide
  refine sBind (s_X4_becomeEmpty hN hK) (fun x1 b1 => ?_)
  have r2 := rgI p0
  refine sBind (s_X4_put hN hK) (fun x7 b3 => ?_)
  exact sRet ⟨trivial⟩
set_option maxHeartbeats 2000000 in
theorem s_X4_becomeTurned_9 {N K : Nat} {f : Nat → Int32} {g : Nat → Int32} (hN : 2 ^ 40 ≤ N) (hK : 100 ≤ K)  : ∀ (fu : Nat) (l2 : Int32) (l3 : Int32) (f_ : (Nat → Int32)), (l3.toInt - 0).toNat < fu → 0 ≤ l3.toInt → l3.toInt ≤ 20 → Sf (fX4_becomeTurned_9 N K f g  fu l2 l3 f_) (fun (z : (Nat → Int32)) => True) := by
  intro fu
  induction fu with
  | zero => intro l2 l3 f_ h0 hq0 hq1; omega
  | succ fu ih =>
    intro l2 l3 f_ h0 hq0 hq1
    unfold fX4_becomeTurned_9
    have qlm1 : (-1 : Int32).toInt = -1 := by decide
    have ql0 : (0 : Int32).toInt = 0 := by decide
    have ql1 : (1 : Int32).toInt = 1 := by decide
    refine sIf (fun h1 => ?_) (fun h1 => ?_)
    · have r2 := rgI l3
      have fh1 := ltT h1
      exact sRet ⟨trivial⟩
    · have r3 := rgI l3
      have fh1 := ltF h1
      refine sIfF (noob (by omega) (by omega)) ?_
      have r4 := rgI (l2 + (g l3.toNatClampNeg))
      refine sBind (s_X4_put hN hK) (fun x26 b5 => ?_)
      have t6 := addI (a := l3) (b := (-1 : Int32)) (by omega) (by omega)
      exact ih _ _ _ (by omega) (by omega) (by omega)
set_option maxHeartbeats 2000000 in
theorem s_X4_becomeTurned {N K : Nat} {f : Nat → Int32} {g : Nat → Int32} (hN : 2 ^ 40 ≤ N) (hK : 100 ≤ K)  : Sf (fX4_becomeTurned N K f g) (fun (z : (Nat → Int32)) => True) := by
  unfold fX4_becomeTurned
  have ql0 : (0 : Int32).toInt = 0 := by decide
  have ql20 : (20 : Int32).toInt = 20 := by decide
  refine sBind (s_X4_becomeEmpty hN hK) (fun x1 b1 => ?_)
  exact s_X4_becomeTurned_9  hN hK _ _ _ _ (by omega) (by omega) (by omega)
set_option maxHeartbeats 2000000 in
theorem s_X4_becomeUnlike_45 {N K : Nat} {f : Nat → Int32} {g : Nat → Int32} (hN : 2 ^ 40 ≤ N) (hK : 100 ≤ K)  {k_6 : Int32 → (Nat → Int32) → Option ((Nat → Int32))} {m_6 : Nat} (hk_6 : ∀ (l2 : Int32) (f_ : (Nat → Int32)), (21 - l2.toInt).toNat < m_6 → 1 ≤ l2.toInt → l2.toInt ≤ 21 → Sf (k_6 l2 f_) (fun (z : (Nat → Int32)) => True)) {k_22 : Int32 → Int32 → Int32 → (Nat → Int32) → Option ((Nat → Int32))} {m_22 : Nat} (hk_22 : ∀ (l2 : Int32) (l3 : Int32) (l4 : Int32) (f_ : (Nat → Int32)), (40 - l4.toInt).toNat < m_22 → 1 ≤ l2.toInt → l2.toInt ≤ 20 → 1 ≤ l4.toInt → l4.toInt ≤ 40 → (21 - l2.toInt).toNat ≤ m_6 → Sf (k_22 l2 l3 l4 f_) (fun (z : (Nat → Int32)) => True)) : ∀ (l2 : Int32) (l3 : Int32) (l4 : Int32) (f_ : Nat → Int32), 1 ≤ l2.toInt → l2.toInt ≤ 20 → 1 ≤ l4.toInt → l4.toInt ≤ 20 → (21 - l2.toInt).toNat ≤ m_6 → (40 - l4.toInt).toNat ≤ m_22 → Sf (fX4_becomeUnlike_45 N K f g k_6 k_22 l2 l3 l4 f_) (fun (z : (Nat → Int32)) => True) := by
  intro l2 l3 l4 f_ hq0 hq1 hq2 hq3 hq4 hq5
  unfold fX4_becomeUnlike_45
  have ql0 : (0 : Int32).toInt = 0 := by decide
  have ql2 : (2 : Int32).toInt = 2 := by decide
  have r1 := rgI l2
  have r2 := rgI l3
  have r4 := rgI l4
  have t3 := mulR (a := l4) (b := (2 : Int32)) ql2 (by omega) (by omega)
  exact hk_22 _ _ _ _ (by omega) (by omega) (by omega) (by omega) (by omega) (by omega)
set_option maxHeartbeats 2000000 in
theorem s_X4_becomeUnlike_22 {N K : Nat} {f : Nat → Int32} {g : Nat → Int32} (hN : 2 ^ 40 ≤ N) (hK : 100 ≤ K)  {k_6 : Int32 → (Nat → Int32) → Option ((Nat → Int32))} {m_6 : Nat} (hk_6 : ∀ (l2 : Int32) (f_ : (Nat → Int32)), (21 - l2.toInt).toNat < m_6 → 1 ≤ l2.toInt → l2.toInt ≤ 21 → Sf (k_6 l2 f_) (fun (z : (Nat → Int32)) => True)) : ∀ (fu : Nat) (l2 : Int32) (l3 : Int32) (l4 : Int32) (f_ : (Nat → Int32)), (40 - l4.toInt).toNat < fu → 1 ≤ l2.toInt → l2.toInt ≤ 20 → 1 ≤ l4.toInt → l4.toInt ≤ 40 → (21 - l2.toInt).toNat ≤ m_6 → Sf (fX4_becomeUnlike_22 N K f g k_6 fu l2 l3 l4 f_) (fun (z : (Nat → Int32)) => True) := by
  intro fu
  induction fu with
  | zero => intro l2 l3 l4 f_ h0 hq0 hq1 hq2 hq3 hq4; omega
  | succ fu ih =>
    intro l2 l3 l4 f_ h0 hq0 hq1 hq2 hq3 hq4
    unfold fX4_becomeUnlike_22
    have ql0 : (0 : Int32).toInt = 0 := by decide
    have ql1 : (1 : Int32).toInt = 1 := by decide
    have ql20 : (20 : Int32).toInt = 20 := by decide
    refine sIf (fun h1 => ?_) (fun h1 => ?_)
    · have r2 := rgI l4
      have fh1 := ltT h1
      have r4 := rgI l2
      have t3 := addI (a := l2) (b := (1 : Int32)) (by omega) (by omega)
      exact hk_6 _ _ (by omega) (by omega) (by omega)
    · have r5 := rgI l4
      have fh1 := ltF h1
      refine sIf (fun h6 => ?_) (fun h6 => ?_)
      · have r7 := rgI (l3 &&& l4)
        have fh6 := eqT h6
        have r8 := rgI l2
        have r9 := rgI l3
        exact s_X4_becomeUnlike_45 (hk_6 := hk_6) (hk_22 := ih) hN hK _ _ _ _ (by omega) (by omega) (by omega) (by omega) (by omega) (by omega)
      · have r10 := rgI (l3 &&& l4)
        have fh6 := eqF h6
        have r11 := rgI (l4 * l2)
        refine sBind (s_X4_put hN hK) (fun x42 b12 => ?_)
        have r13 := rgI l2
        have r14 := rgI l3
        exact s_X4_becomeUnlike_45 (hk_6 := hk_6) (hk_22 := ih) hN hK _ _ _ _ (by omega) (by omega) (by omega) (by omega) (by omega) (by omega)
set_option maxHeartbeats 2000000 in
theorem s_X4_becomeUnlike_6 {N K : Nat} {f : Nat → Int32} {g : Nat → Int32} (hN : 2 ^ 40 ≤ N) (hK : 100 ≤ K)  : ∀ (fu : Nat) (l2 : Int32) (f_ : (Nat → Int32)), (21 - l2.toInt).toNat < fu → 1 ≤ l2.toInt → l2.toInt ≤ 21 → Sf (fX4_becomeUnlike_6 N K f g  fu l2 f_) (fun (z : (Nat → Int32)) => True) := by
  intro fu
  induction fu with
  | zero => intro l2 f_ h0 hq0 hq1; omega
  | succ fu ih =>
    intro l2 f_ h0 hq0 hq1
    unfold fX4_becomeUnlike_6
    have ql0 : (0 : Int32).toInt = 0 := by decide
    have ql1 : (1 : Int32).toInt = 1 := by decide
    have ql20 : (20 : Int32).toInt = 20 := by decide
    refine sIf (fun h1 => ?_) (fun h1 => ?_)
    · have r2 := rgI l2
      have fh1 := ltT h1
      exact sRet ⟨trivial⟩
    · have r3 := rgI l2
      have fh1 := ltF h1
      refine sIfF (noob (by omega) (by omega)) ?_
      have r4 := rgI (g l2.toNatClampNeg)
      exact s_X4_becomeUnlike_22 (hk_6 := ih) hN hK _ _ _ _ _ (by omega) (by omega) (by omega) (by omega) (by omega) (by omega)
set_option maxHeartbeats 2000000 in
theorem s_X4_becomeUnlike {N K : Nat} {f : Nat → Int32} {g : Nat → Int32} (hN : 2 ^ 40 ≤ N) (hK : 100 ≤ K)  : Sf (fX4_becomeUnlike N K f g) (fun (z : (Nat → Int32)) => True) := by
  unfold fX4_becomeUnlike
  have ql0 : (0 : Int32).toInt = 0 := by decide
  have ql1 : (1 : Int32).toInt = 1 := by decide
  refine sBind (s_X4_becomeEmpty hN hK) (fun x1 b1 => ?_)
  exact s_X4_becomeUnlike_6  hN hK _ _ _ (by omega) (by omega) (by omega)
set_option maxHeartbeats 2000000 in
theorem s_X4_becomeOdd_36 {N K : Nat} {f : Nat → Int32} {g : Nat → Int32} (hN : 2 ^ 40 ≤ N) (hK : 100 ≤ K)  {k_6 : Int32 → (Nat → Int32) → Option ((Nat → Int32))} {m_6 : Nat} (hk_6 : ∀ (l2 : Int32) (f_ : (Nat → Int32)), (21 - l2.toInt).toNat < m_6 → 1 ≤ l2.toInt → l2.toInt ≤ 21 → Sf (k_6 l2 f_) (fun (z : (Nat → Int32)) => True)) : ∀ (l2 : Int32) (f_ : Nat → Int32), 1 ≤ l2.toInt → l2.toInt ≤ 20 → (21 - l2.toInt).toNat ≤ m_6 → Sf (fX4_becomeOdd_36 N K f g k_6 l2 f_) (fun (z : (Nat → Int32)) => True) := by
  intro l2 f_ hq0 hq1 hq2
  unfold fX4_becomeOdd_36
  have ql0 : (0 : Int32).toInt = 0 := by decide
  have ql1 : (1 : Int32).toInt = 1 := by decide
  have r2 := rgI l2
  have t1 := addI (a := l2) (b := (1 : Int32)) (by omega) (by omega)
  exact hk_6 _ _ (by omega) (by omega) (by omega)
set_option maxHeartbeats 2000000 in
theorem s_X4_becomeOdd_6 {N K : Nat} {f : Nat → Int32} {g : Nat → Int32} (hN : 2 ^ 40 ≤ N) (hK : 100 ≤ K)  : ∀ (fu : Nat) (l2 : Int32) (f_ : (Nat → Int32)), (21 - l2.toInt).toNat < fu → 1 ≤ l2.toInt → l2.toInt ≤ 21 → Sf (fX4_becomeOdd_6 N K f g  fu l2 f_) (fun (z : (Nat → Int32)) => True) := by
  intro fu
  induction fu with
  | zero => intro l2 f_ h0 hq0 hq1; omega
  | succ fu ih =>
    intro l2 f_ h0 hq0 hq1
    unfold fX4_becomeOdd_6
    have ql0 : (0 : Int32).toInt = 0 := by decide
    have ql20 : (20 : Int32).toInt = 20 := by decide
    refine sIf (fun h1 => ?_) (fun h1 => ?_)
    · have r2 := rgI l2
      have fh1 := ltT h1
      exact sRet ⟨trivial⟩
    · have r3 := rgI l2
      have fh1 := ltF h1
      refine sIf (fun h4 => ?_) (fun h4 => ?_)
      · have r5 := rgI (l2 &&& (-l2))
        have fh4 := leT h4
        exact s_X4_becomeOdd_36 (hk_6 := ih) hN hK _ _ (by omega) (by omega) (by omega)
      · have r6 := rgI (l2 &&& (-l2))
        have fh4 := leF h4
        refine sIfF (fun e9 => by have e8 := eqT e9; omega) ?_
        refine sIfF (noob (by omega) (by omega)) ?_
        have r7 := rgI (l2 / (l2 &&& (-l2)))
        have r8 := rgI ((l2 &&& (-l2)) * (g l2.toNatClampNeg))
        refine sBind (s_X4_put hN hK) (fun x33 b9 => ?_)
        exact s_X4_becomeOdd_36 (hk_6 := ih) hN hK _ _ (by omega) (by omega) (by omega)
set_option maxHeartbeats 2000000 in
theorem s_X4_becomeOdd {N K : Nat} {f : Nat → Int32} {g : Nat → Int32} (hN : 2 ^ 40 ≤ N) (hK : 100 ≤ K)  : Sf (fX4_becomeOdd N K f g) (fun (z : (Nat → Int32)) => True) := by
  unfold fX4_becomeOdd
  have ql0 : (0 : Int32).toInt = 0 := by decide
  have ql1 : (1 : Int32).toInt = 1 := by decide
  refine sBind (s_X4_becomeEmpty hN hK) (fun x1 b1 => ?_)
  exact s_X4_becomeOdd_6  hN hK _ _ _ (by omega) (by omega) (by omega)
set_option maxHeartbeats 2000000 in
theorem s_X4_become {N K : Nat} {f : Nat → Int32} {g : Nat → Int32} (hN : 2 ^ 40 ≤ N) (hK : 100 ≤ K)  : Sf (fX4_become N K f g) (fun (z : (Nat → Int32)) => True) := by
  unfold fX4_become
  have ql0 : (0 : Int32).toInt = 0 := by decide
  exact sRet ⟨trivial⟩
set_option maxHeartbeats 2000000 in
theorem s_X4_isOwnTurned {N K : Nat} {f : Nat → Int32} {g : Nat → Int32} (hN : 2 ^ 40 ≤ N) (hK : 100 ≤ K)  : Sf (fX4_isOwnTurned N K f g) (fun (z : Int32 × (Nat → Int32)) => 0 ≤ z.1.toInt ∧ z.1.toInt ≤ 1 ∧ True) := by
  unfold fX4_isOwnTurned
  have ql0 : (0 : Int32).toInt = 0 := by decide
  refine sBind (s_X4_becomeTurned hN hK) (fun x2 b1 => ?_)
  refine sBind (s_X4_isLike hN hK) (fun x7 b2 => ?_)
  obtain ⟨b2_0, b2_1, -⟩ := b2
  replace b2_0 : 0 ≤ x7.toInt := b2_0
  replace b2_1 : x7.toInt ≤ 1 := b2_1
  have r3 := rgI x7
  refine sIfT (b01 (by omega) (by omega)) ?_
  exact sRet ⟨(by show 0 ≤ x7.toInt; omega), (by show x7.toInt ≤ 1; omega), trivial⟩
set_option maxHeartbeats 2000000 in
theorem s_X4_isOfKind {N K : Nat} {f : Nat → Int32} {g : Nat → Int32} {p0 : Int32} {p1 : Int32} (hN : 2 ^ 40 ≤ N) (hK : 100 ≤ K) (hp0 : 0 ≤ p0.toInt) (hp1 : p0.toInt ≤ 7) (hp2 : 0 ≤ p1.toInt) (hp3 : p1.toInt ≤ 20) : Sf (fX4_isOfKind N K f g p0 p1) (fun (z : Int32 × (Nat → Int32)) => 0 ≤ z.1.toInt ∧ z.1.toInt ≤ 1 ∧ True) := by
  unfold fX4_isOfKind
  have ql0 : (0 : Int32).toInt = 0 := by decide
  have ql1 : (1 : Int32).toInt = 1 := by decide
  have ql2 : (2 : Int32).toInt = 2 := by decide
  have ql3 : (3 : Int32).toInt = 3 := by decide
  have ql4 : (4 : Int32).toInt = 4 := by decide
  have ql5 : (5 : Int32).toInt = 5 := by decide
  have ql6 : (6 : Int32).toInt = 6 := by decide
  refine sIf (fun h1 => ?_) (fun h1 => ?_)
  · have r2 := rgI p0
    have fh1 := eqT h1
    have r3 := rgI p1
    refine sBind (s_X4_hasNoneAbove hN hK (by omega) (by omega)) (fun x46 b4 => ?_)
    obtain ⟨b4_0, b4_1, -⟩ := b4
    replace b4_0 : 0 ≤ x46.toInt := b4_0
    replace b4_1 : x46.toInt ≤ 1 := b4_1
    have r5 := rgI x46
    refine sIfT (b01 (by omega) (by omega)) ?_
    exact sRet ⟨(by show 0 ≤ x46.toInt; omega), (by show x46.toInt ≤ 1; omega), trivial⟩
  · have r6 := rgI p0
    have fh1 := eqF h1
    refine sIf (fun h7 => ?_) (fun h7 => ?_)
    · have fh7 := eqT h7
      refine sBind (s_X4_parts hN hK) (fun x51 b8 => ?_)
      refine sIf (fun h9 => ?_) (fun h9 => ?_)
      · have r10 := rgI x51
        have r11 := rgI p1
        have fh9 := eqT h9
        exact sRet ⟨(by show 0 ≤ (1 : Int32).toInt; omega), (by show (1 : Int32).toInt ≤ 1; omega), trivial⟩
      · have r12 := rgI x51
        have r13 := rgI p1
        have fh9 := eqF h9
        exact sRet ⟨(by show 0 ≤ (0 : Int32).toInt; omega), (by show (0 : Int32).toInt ≤ 1; omega), trivial⟩
    · have fh7 := eqF h7
      refine sIf (fun h14 => ?_) (fun h14 => ?_)
      · have fh14 := eqT h14
        refine sBind (s_X4_isUnlike hN hK) (fun x65 b15 => ?_)
        obtain ⟨b15_0, b15_1, -⟩ := b15
        replace b15_0 : 0 ≤ x65.toInt := b15_0
        replace b15_1 : x65.toInt ≤ 1 := b15_1
        refine sIf (fun h16 => ?_) (fun h16 => ?_)
        · have r17 := rgI x65
          have fh16 := eqT h16
          exact sRet ⟨(by show 0 ≤ (0 : Int32).toInt; omega), (by show (0 : Int32).toInt ≤ 1; omega), trivial⟩
        · have r18 := rgI x65
          have fh16 := eqF h16
          have r19 := rgI p1
          refine sBind (s_X4_hasNoneAbove hN hK (by omega) (by omega)) (fun x73 b20 => ?_)
          obtain ⟨b20_0, b20_1, -⟩ := b20
          replace b20_0 : 0 ≤ x73.toInt := b20_0
          replace b20_1 : x73.toInt ≤ 1 := b20_1
          refine sIf (fun h21 => ?_) (fun h21 => ?_)
          · have r22 := rgI x73
            have fh21 := eqT h21
            exact sRet ⟨(by show 0 ≤ (0 : Int32).toInt; omega), (by show (0 : Int32).toInt ≤ 1; omega), trivial⟩
          · have r23 := rgI x73
            have fh21 := eqF h21
            exact sRet ⟨(by show 0 ≤ (1 : Int32).toInt; omega), (by show (1 : Int32).toInt ≤ 1; omega), trivial⟩
      · have fh14 := eqF h14
        refine sIf (fun h24 => ?_) (fun h24 => ?_)
        · have fh24 := eqT h24
          refine sBind (s_X4_isOdd hN hK) (fun x86 b25 => ?_)
          obtain ⟨b25_0, b25_1, -⟩ := b25
          replace b25_0 : 0 ≤ x86.toInt := b25_0
          replace b25_1 : x86.toInt ≤ 1 := b25_1
          refine sIf (fun h26 => ?_) (fun h26 => ?_)
          · have r27 := rgI x86
            have fh26 := eqT h26
            exact sRet ⟨(by show 0 ≤ (0 : Int32).toInt; omega), (by show (0 : Int32).toInt ≤ 1; omega), trivial⟩
          · have r28 := rgI x86
            have fh26 := eqF h26
            have r29 := rgI p1
            refine sBind (s_X4_hasNoneAbove hN hK (by omega) (by omega)) (fun x94 b30 => ?_)
            obtain ⟨b30_0, b30_1, -⟩ := b30
            replace b30_0 : 0 ≤ x94.toInt := b30_0
            replace b30_1 : x94.toInt ≤ 1 := b30_1
            refine sIf (fun h31 => ?_) (fun h31 => ?_)
            · have r32 := rgI x94
              have fh31 := eqT h31
              exact sRet ⟨(by show 0 ≤ (0 : Int32).toInt; omega), (by show (0 : Int32).toInt ≤ 1; omega), trivial⟩
            · have r33 := rgI x94
              have fh31 := eqF h31
              exact sRet ⟨(by show 0 ≤ (1 : Int32).toInt; omega), (by show (1 : Int32).toInt ≤ 1; omega), trivial⟩
        · have fh24 := eqF h24
          refine sIf (fun h34 => ?_) (fun h34 => ?_)
          · have fh34 := eqT h34
            refine sBind (s_X4_isOdd hN hK) (fun x107 b35 => ?_)
            obtain ⟨b35_0, b35_1, -⟩ := b35
            replace b35_0 : 0 ≤ x107.toInt := b35_0
            replace b35_1 : x107.toInt ≤ 1 := b35_1
            refine sIf (fun h36 => ?_) (fun h36 => ?_)
            · have r37 := rgI x107
              have fh36 := eqT h36
              exact sRet ⟨(by show 0 ≤ (0 : Int32).toInt; omega), (by show (0 : Int32).toInt ≤ 1; omega), trivial⟩
            · have r38 := rgI x107
              have fh36 := eqF h36
              refine sBind (s_X4_isUnlike hN hK) (fun x114 b39 => ?_)
              obtain ⟨b39_0, b39_1, -⟩ := b39
              replace b39_0 : 0 ≤ x114.toInt := b39_0
              replace b39_1 : x114.toInt ≤ 1 := b39_1
              refine sIf (fun h40 => ?_) (fun h40 => ?_)
              · have r41 := rgI x114
                have fh40 := eqT h40
                exact sRet ⟨(by show 0 ≤ (0 : Int32).toInt; omega), (by show (0 : Int32).toInt ≤ 1; omega), trivial⟩
              · have r42 := rgI x114
                have fh40 := eqF h40
                have r43 := rgI p1
                refine sBind (s_X4_hasNoneAbove hN hK (by omega) (by omega)) (fun x122 b44 => ?_)
                obtain ⟨b44_0, b44_1, -⟩ := b44
                replace b44_0 : 0 ≤ x122.toInt := b44_0
                replace b44_1 : x122.toInt ≤ 1 := b44_1
                refine sIf (fun h45 => ?_) (fun h45 => ?_)
                · have r46 := rgI x122
                  have fh45 := eqT h45
                  exact sRet ⟨(by show 0 ≤ (0 : Int32).toInt; omega), (by show (0 : Int32).toInt ≤ 1; omega), trivial⟩
                · have r47 := rgI x122
                  have fh45 := eqF h45
                  exact sRet ⟨(by show 0 ≤ (1 : Int32).toInt; omega), (by show (1 : Int32).toInt ≤ 1; omega), trivial⟩
          · have fh34 := eqF h34
            refine sIf (fun h48 => ?_) (fun h48 => ?_)
            · have fh48 := eqT h48
              refine sBind (s_X4_isUnlike hN hK) (fun x135 b49 => ?_)
              obtain ⟨b49_0, b49_1, -⟩ := b49
              replace b49_0 : 0 ≤ x135.toInt := b49_0
              replace b49_1 : x135.toInt ≤ 1 := b49_1
              refine sIf (fun h50 => ?_) (fun h50 => ?_)
              · have r51 := rgI x135
                have fh50 := eqT h50
                exact sRet ⟨(by show 0 ≤ (0 : Int32).toInt; omega), (by show (0 : Int32).toInt ≤ 1; omega), trivial⟩
              · have r52 := rgI x135
                have fh50 := eqF h50
                refine sBind (s_X4_parts hN hK) (fun x142 b53 => ?_)
                refine sIf (fun h54 => ?_) (fun h54 => ?_)
                · have r55 := rgI x142
                  have r56 := rgI p1
                  have fh54 := eqT h54
                  exact sRet ⟨(by show 0 ≤ (1 : Int32).toInt; omega), (by show (1 : Int32).toInt ≤ 1; omega), trivial⟩
                · have r57 := rgI x142
                  have r58 := rgI p1
                  have fh54 := eqF h54
                  exact sRet ⟨(by show 0 ≤ (0 : Int32).toInt; omega), (by show (0 : Int32).toInt ≤ 1; omega), trivial⟩
            · have fh48 := eqF h48
              refine sIf (fun h59 => ?_) (fun h59 => ?_)
              · have fh59 := eqT h59
                refine sBind (s_X4_parts hN hK) (fun x156 b60 => ?_)
                refine sIf (fun h61 => ?_) (fun h61 => ?_)
                · have r62 := rgI p1
                  have r63 := rgI x156
                  have fh61 := ltT h61
                  exact sRet ⟨(by show 0 ≤ (0 : Int32).toInt; omega), (by show (0 : Int32).toInt ≤ 1; omega), trivial⟩
                · have r64 := rgI p1
                  have r65 := rgI x156
                  have fh61 := ltF h61
                  exact sRet ⟨(by show 0 ≤ (1 : Int32).toInt; omega), (by show (1 : Int32).toInt ≤ 1; omega), trivial⟩
              · have fh59 := eqF h59
                have r66 := rgI p1
                refine sBind (s_X4_hasNoneAbove hN hK (by omega) (by omega)) (fun x171 b67 => ?_)
                obtain ⟨b67_0, b67_1, -⟩ := b67
                replace b67_0 : 0 ≤ x171.toInt := b67_0
                replace b67_1 : x171.toInt ≤ 1 := b67_1
                refine sIf (fun h68 => ?_) (fun h68 => ?_)
                · have r69 := rgI x171
                  have fh68 := eqT h68
                  exact sRet ⟨(by show 0 ≤ (0 : Int32).toInt; omega), (by show (0 : Int32).toInt ≤ 1; omega), trivial⟩
                · have r70 := rgI x171
                  have fh68 := eqF h68
                  refine sBind (s_X4_isOwnTurned hN hK) (fun x179 b71 => ?_)
                  obtain ⟨b71_0, b71_1, -⟩ := b71
                  replace b71_0 : 0 ≤ x179.1.toInt := b71_0
                  replace b71_1 : x179.1.toInt ≤ 1 := b71_1
                  refine sIf (fun h72 => ?_) (fun h72 => ?_)
                  · have r73 := rgI x179.1
                    have fh72 := eqT h72
                    exact sRet ⟨(by show 0 ≤ (0 : Int32).toInt; omega), (by show (0 : Int32).toInt ≤ 1; omega), trivial⟩
                  · have r74 := rgI x179.1
                    have fh72 := eqF h72
                    exact sRet ⟨(by show 0 ≤ (1 : Int32).toInt; omega), (by show (1 : Int32).toInt ≤ 1; omega), trivial⟩
set_option maxHeartbeats 2000000 in
theorem s_X4_stepOn {N K : Nat} {f : Nat → Int32} (hN : 2 ^ 40 ≤ N) (hK : 100 ≤ K)  : Sf (fX4_stepOn N K f) (fun (z : Int32 × (Nat → Int32)) => 0 ≤ z.1.toInt ∧ z.1.toInt ≤ 1 ∧ True) := by
  unfold fX4_stepOn
  have ql0 : (0 : Int32).toInt = 0 := by decide
  have ql1 : (1 : Int32).toInt = 1 := by decide
  have ql2 : (2 : Int32).toInt = 2 := by decide
  have ql20 : (20 : Int32).toInt = 20 := by decide
  refine sBind (s_X4_leastAboveOne hN hK) (fun x1 b1 => ?_)
  obtain ⟨b1_0, b1_1, -⟩ := b1
  replace b1_0 : 0 ≤ x1.toInt := b1_0
  replace b1_1 : x1.toInt ≤ 20 := b1_1
  refine sIf (fun h2 => ?_) (fun h2 => ?_)
  · have r3 := rgI x1
    have fh2 := ltT h2
    exact sRet ⟨(by show 0 ≤ (0 : Int32).toInt; omega), (by show (0 : Int32).toInt ≤ 1; omega), trivial⟩
  · have r4 := rgI x1
    have fh2 := ltF h2
    refine sIf (fun h5 => ?_) (fun h5 => ?_)
    · have fh5 := leT h5
      refine sIfF (noob (by omega) (by omega)) ?_
      refine sIfF (noob (by omega) (by omega)) ?_
      have t6 := subI (a := x1) (b := (1 : Int32)) (by omega) (by omega)
      refine sIfF (fun e9 => by have e8 := eqT e9; omega) ?_
      have r7 := rgI ((x1 + (f (1 : Int32).toNatClampNeg)) / (x1 - (1 : Int32)))
      refine sBind (s_X4_put hN hK) (fun x53 b8 => ?_)
      refine sIfF (fun e9 => by have e8 := eqT e9; omega) ?_
      have r9 := rgI ((x1 + (f (1 : Int32).toNatClampNeg)) % (x1 - (1 : Int32)))
      refine sBind (s_X4_put hN hK) (fun x61 b10 => ?_)
      exact sRet ⟨(by show 0 ≤ (1 : Int32).toInt; omega), (by show (1 : Int32).toInt ≤ 1; omega), trivial⟩
    · have fh5 := leF h5
      exfalso; omega
set_option maxHeartbeats 2000000 in
theorem s_X3_takeOften_8 {N K : Nat} {g : Nat → Int32} {p0 : Int32} (hN : 2 ^ 40 ≤ N) (hK : 100 ≤ K) (hp0 : 1 ≤ p0.toInt) (hp1 : p0.toInt ≤ 20) : ∀ (fu : Nat) (l2 : Int32) (g_ : (Nat → Int32)), (21 - l2.toInt).toNat < fu → 1 ≤ l2.toInt → l2.toInt ≤ 21 → Sf (fX3_takeOften_8 N K g p0  fu l2 g_) (fun (z : (Nat → Int32)) => True) := by
  intro fu
  induction fu with
  | zero => intro l2 g_ h0 hq0 hq1; omega
  | succ fu ih =>
    intro l2 g_ h0 hq0 hq1
    unfold fX3_takeOften_8
    have ql0 : (0 : Int32).toInt = 0 := by decide
    have ql1 : (1 : Int32).toInt = 1 := by decide
    have ql21 : (21 : Int32).toInt = 21 := by decide
    refine sIf (fun h1 => ?_) (fun h1 => ?_)
    · have r2 := rgI l2
      have fh1 := leT h1
      exact sRet ⟨trivial⟩
    · have r3 := rgI l2
      have fh1 := leF h1
      refine sIfF (noob (by omega) (by omega)) ?_
      have r5 := rgI p0
      have t4 := subI (a := l2) (b := p0) (by omega) (by omega)
      refine sIfF (noob (by omega) (by omega)) ?_
      refine sIfF (noob (by omega) (by omega)) ?_
      have t6 := addI (a := l2) (b := (1 : Int32)) (by omega) (by omega)
      exact ih _ _ (by omega) (by omega) (by omega)
set_option maxHeartbeats 2000000 in
theorem s_X3_takeOften {N K : Nat} {g : Nat → Int32} {p0 : Int32} (hN : 2 ^ 40 ≤ N) (hK : 100 ≤ K) (hp0 : 1 ≤ p0.toInt) (hp1 : p0.toInt ≤ 20) : Sf (fX3_takeOften N K g p0) (fun (z : (Nat → Int32)) => True) := by
  unfold fX3_takeOften
  have ql0 : (0 : Int32).toInt = 0 := by decide
  have ql1 : (1 : Int32).toInt = 1 := by decide
  refine sIf (fun h1 => ?_) (fun h1 => ?_)
  · have r2 := rgI p0
    have fh1 := leT h1
    exact s_X3_takeOften_8  hN hK (by omega) (by omega) _ _ _ (by omega) (by omega) (by omega)
  · have r3 := rgI p0
    have fh1 := leF h1
    exfalso; omega
set_option maxHeartbeats 2000000 in
theorem s_X3_takeOnce_14 {N K : Nat} {g : Nat → Int32} {p0 : Int32} (hN : 2 ^ 40 ≤ N) (hK : 100 ≤ K) (hp0 : 1 ≤ p0.toInt) (hp1 : p0.toInt ≤ 20) : ∀ (fu : Nat) (l2 : Int32) (g_ : (Nat → Int32)), (l2.toInt - 0).toNat < fu → 0 ≤ l2.toInt → l2.toInt ≤ 20 → Sf (fX3_takeOnce_14 N K g p0  fu l2 g_) (fun (z : (Nat → Int32)) => True) := by
  intro fu
  induction fu with
  | zero => intro l2 g_ h0 hq0 hq1; omega
  | succ fu ih =>
    intro l2 g_ h0 hq0 hq1
    unfold fX3_takeOnce_14
    have qlm1 : (-1 : Int32).toInt = -1 := by decide
    have ql0 : (0 : Int32).toInt = 0 := by decide
    refine sIf (fun h1 => ?_) (fun h1 => ?_)
    · have r2 := rgI l2
      have r3 := rgI p0
      have fh1 := ltT h1
      exact sRet ⟨trivial⟩
    · have r4 := rgI l2
      have r5 := rgI p0
      have fh1 := ltF h1
      refine sIfF (noob (by omega) (by omega)) ?_
      have t6 := subI (a := l2) (b := p0) (by omega) (by omega)
      refine sIfF (noob (by omega) (by omega)) ?_
      refine sIfF (noob (by omega) (by omega)) ?_
      have t7 := addI (a := l2) (b := (-1 : Int32)) (by omega) (by omega)
      exact ih _ _ (by omega) (by omega) (by omega)
set_option maxHeartbeats 2000000 in
theorem s_X3_takeOnce {N K : Nat} {g : Nat → Int32} {p0 : Int32} (hN : 2 ^ 40 ≤ N) (hK : 100 ≤ K) (hp0 : 1 ≤ p0.toInt) (hp1 : p0.toInt ≤ 20) : Sf (fX3_takeOnce N K g p0) (fun (z : (Nat → Int32)) => True) := by
  unfold fX3_takeOnce
  have ql0 : (0 : Int32).toInt = 0 := by decide
  have ql1 : (1 : Int32).toInt = 1 := by decide
  have ql21 : (21 : Int32).toInt = 21 := by decide
  refine sIf (fun h1 => ?_) (fun h1 => ?_)
  · have r2 := rgI p0
    have fh1 := leT h1
    have t3 := subI (a := (21 : Int32)) (b := (1 : Int32)) (by omega) (by omega)
    exact s_X3_takeOnce_14  hN hK (by omega) (by omega) _ _ _ (by omega) (by omega) (by omega)
  · have r4 := rgI p0
    have fh1 := leF h1
    exfalso; omega
set_option maxHeartbeats 2000000 in
theorem s_X3_reckon_128 {N K : Nat} {g : Nat → Int32} {p0 : Int32} {p1 : Int32} (hN : 2 ^ 40 ≤ N) (hK : 100 ≤ K) (hp0 : 0 ≤ p0.toInt) (hp1 : p0.toInt ≤ 7) (hp2 : 0 ≤ p1.toInt) (hp3 : p1.toInt ≤ 20) {k_80 : Int32 → Int32 → Int32 → Int32 → (Nat → Int32) → Option ((Nat → Int32))} {m_80 : Nat} (hk_80 : ∀ (l3 : Int32) (l4 : Int32) (l5 : Int32) (l6 : Int32) (g_ : (Nat → Int32)), (21 - l6.toInt).toNat < m_80 → -1 ≤ l3.toInt → l3.toInt ≤ 39 → 0 ≤ l4.toInt → l4.toInt ≤ 1 → 0 ≤ l5.toInt → l5.toInt ≤ 1 → 1 ≤ l6.toInt → l6.toInt ≤ 21 → Sf (k_80 l3 l4 l5 l6 g_) (fun (z : (Nat → Int32)) => True)) : ∀ (l3 : Int32) (l4 : Int32) (l5 : Int32) (l6 : Int32) (g_ : Nat → Int32), 1 ≤ l3.toInt → l3.toInt ≤ 39 → 0 ≤ l4.toInt → l4.toInt ≤ 1 → 0 ≤ l5.toInt → l5.toInt ≤ 1 → 1 ≤ l6.toInt → l6.toInt ≤ 20 → (21 - l6.toInt).toNat ≤ m_80 → Sf (fX3_reckon_128 N K g p0 p1 k_80 l3 l4 l5 l6 g_) (fun (z : (Nat → Int32)) => True) := by
  intro l3 l4 l5 l6 g_ hq0 hq1 hq2 hq3 hq4 hq5 hq6 hq7 hq8
  unfold fX3_reckon_128
  have ql0 : (0 : Int32).toInt = 0 := by decide
  have ql1 : (1 : Int32).toInt = 1 := by decide
  have r1 := rgI l3
  have r2 := rgI l4
  have r3 := rgI l5
  have r5 := rgI l6
  have t4 := addI (a := l6) (b := (1 : Int32)) (by omega) (by omega)
  exact hk_80 _ _ _ _ _ (by omega) (by omega) (by omega) (by omega) (by omega) (by omega) (by omega) (by omega) (by omega)
set_option maxHeartbeats 2000000 in
theorem s_X3_reckon_108 {N K : Nat} {g : Nat → Int32} {p0 : Int32} {p1 : Int32} (hN : 2 ^ 40 ≤ N) (hK : 100 ≤ K) (hp0 : 0 ≤ p0.toInt) (hp1 : p0.toInt ≤ 7) (hp2 : 0 ≤ p1.toInt) (hp3 : p1.toInt ≤ 20) {k_80 : Int32 → Int32 → Int32 → Int32 → (Nat → Int32) → Option ((Nat → Int32))} {m_80 : Nat} (hk_80 : ∀ (l3 : Int32) (l4 : Int32) (l5 : Int32) (l6 : Int32) (g_ : (Nat → Int32)), (21 - l6.toInt).toNat < m_80 → -1 ≤ l3.toInt → l3.toInt ≤ 39 → 0 ≤ l4.toInt → l4.toInt ≤ 1 → 0 ≤ l5.toInt → l5.toInt ≤ 1 → 1 ≤ l6.toInt → l6.toInt ≤ 21 → Sf (k_80 l3 l4 l5 l6 g_) (fun (z : (Nat → Int32)) => True)) : ∀ (l3 : Int32) (l4 : Int32) (l5 : Int32) (l6 : Int32) (g_ : Nat → Int32), 1 ≤ l3.toInt → l3.toInt ≤ 39 → 0 ≤ l4.toInt → l4.toInt ≤ 1 → 0 ≤ l5.toInt → l5.toInt ≤ 1 → 1 ≤ l6.toInt → l6.toInt ≤ 20 → (21 - l6.toInt).toNat ≤ m_80 → Sf (fX3_reckon_108 N K g p0 p1 k_80 l3 l4 l5 l6 g_) (fun (z : (Nat → Int32)) => True) := by
  intro l3 l4 l5 l6 g_ hq0 hq1 hq2 hq3 hq4 hq5 hq6 hq7 hq8
  unfold fX3_reckon_108
  have ql0 : (0 : Int32).toInt = 0 := by decide
  refine sIf (fun h1 => ?_) (fun h1 => ?_)
  · have r2 := rgI l5
    have fh1 := eqT h1
    have r3 := rgI l6
    refine sBind (s_X3_takeOften hN hK (by omega) (by omega)) (fun x125 b4 => ?_)
    have r5 := rgI l3
    have r6 := rgI l4
    exact s_X3_reckon_128 (hk_80 := hk_80) hN hK (by omega) (by omega) (by omega) (by omega) _ _ _ _ _ (by omega) (by omega) (by omega) (by omega) (by omega) (by omega) (by omega) (by omega) (by omega)
  · have r7 := rgI l5
    have fh1 := eqF h1
    have r8 := rgI l6
    refine sBind (s_X3_takeOnce hN hK (by omega) (by omega)) (fun x116 b9 => ?_)
    have r10 := rgI l3
    have r11 := rgI l4
    exact s_X3_reckon_128 (hk_80 := hk_80) hN hK (by omega) (by omega) (by omega) (by omega) _ _ _ _ _ (by omega) (by omega) (by omega) (by omega) (by omega) (by omega) (by omega) (by omega) (by omega)
set_option maxHeartbeats 2000000 in
theorem s_X3_reckon_80 {N K : Nat} {g : Nat → Int32} {p0 : Int32} {p1 : Int32} (hN : 2 ^ 40 ≤ N) (hK : 100 ≤ K) (hp0 : 0 ≤ p0.toInt) (hp1 : p0.toInt ≤ 7) (hp2 : 0 ≤ p1.toInt) (hp3 : p1.toInt ≤ 20) : ∀ (fu : Nat) (l3 : Int32) (l4 : Int32) (l5 : Int32) (l6 : Int32) (g_ : (Nat → Int32)), (21 - l6.toInt).toNat < fu → -1 ≤ l3.toInt → l3.toInt ≤ 39 → 0 ≤ l4.toInt → l4.toInt ≤ 1 → 0 ≤ l5.toInt → l5.toInt ≤ 1 → 1 ≤ l6.toInt → l6.toInt ≤ 21 → Sf (fX3_reckon_80 N K g p0 p1  fu l3 l4 l5 l6 g_) (fun (z : (Nat → Int32)) => True) := by
  intro fu
  induction fu with
  | zero => intro l3 l4 l5 l6 g_ h0 hq0 hq1 hq2 hq3 hq4 hq5 hq6 hq7; omega
  | succ fu ih =>
    intro l3 l4 l5 l6 g_ h0 hq0 hq1 hq2 hq3 hq4 hq5 hq6 hq7
    unfold fX3_reckon_80
    have ql0 : (0 : Int32).toInt = 0 := by decide
    have ql2 : (2 : Int32).toInt = 2 := by decide
    have ql20 : (20 : Int32).toInt = 20 := by decide
    refine sIf (fun h1 => ?_) (fun h1 => ?_)
    · have r2 := rgI l3
      have r3 := rgI l6
      have fh1 := ltT h1
      exact sRet ⟨trivial⟩
    · have r4 := rgI l3
      have r5 := rgI l6
      have fh1 := ltF h1
      refine sIf (fun h6 => ?_) (fun h6 => ?_)
      · have fh6 := ltT h6
        exact sRet ⟨trivial⟩
      · have fh6 := ltF h6
        refine sIf (fun h7 => ?_) (fun h7 => ?_)
        · have r8 := rgI l4
          have fh7 := eqT h7
          have r9 := rgI l5
          exact s_X3_reckon_108 (hk_80 := ih) hN hK (by omega) (by omega) (by omega) (by omega) _ _ _ _ _ (by omega) (by omega) (by omega) (by omega) (by omega) (by omega) (by omega) (by omega) (by omega)
        · have r10 := rgI l4
          have fh7 := eqF h7
          refine sIf (fun h11 => ?_) (fun h11 => ?_)
          · have t12 := modL (a := l6) (b := (2 : Int32)) ql2 (by omega)
            have fh11 := eqT h11
            have r13 := rgI l5
            exact s_X3_reckon_128 (hk_80 := ih) hN hK (by omega) (by omega) (by omega) (by omega) _ _ _ _ _ (by omega) (by omega) (by omega) (by omega) (by omega) (by omega) (by omega) (by omega) (by omega)
          · have t14 := modL (a := l6) (b := (2 : Int32)) ql2 (by omega)
            have fh11 := eqF h11
            have r15 := rgI l5
            exact s_X3_reckon_108 (hk_80 := ih) hN hK (by omega) (by omega) (by omega) (by omega) _ _ _ _ _ (by omega) (by omega) (by omega) (by omega) (by omega) (by omega) (by omega) (by omega) (by omega)
set_option maxHeartbeats 2000000 in
theorem s_X3_reckon_75 {N K : Nat} {g : Nat → Int32} {p0 : Int32} {p1 : Int32} (hN : 2 ^ 40 ≤ N) (hK : 100 ≤ K) (hp0 : 0 ≤ p0.toInt) (hp1 : p0.toInt ≤ 7) (hp2 : 0 ≤ p1.toInt) (hp3 : p1.toInt ≤ 20) : ∀ (l3 : Int32) (l4 : Int32) (s0 : Int32) (g_ : Nat → Int32), -1 ≤ l3.toInt → l3.toInt ≤ 39 → 0 ≤ l4.toInt → l4.toInt ≤ 1 → 0 ≤ s0.toInt → s0.toInt ≤ 1 → (s0.toInt = 0 → 0 ≤ p0.toInt ∧ p0.toInt ≤ 6 ∧ 0 ≤ p1.toInt ∧ p1.toInt ≤ 20) → Sf (fX3_reckon_75 N K g p0 p1  l3 l4 s0 g_) (fun (z : (Nat → Int32)) => True) := by
  intro l3 l4 s0 g_ hq0 hq1 hq2 hq3 hq4 hq5 hq6
  unfold fX3_reckon_75
  have ql0 : (0 : Int32).toInt = 0 := by decide
  have ql1 : (1 : Int32).toInt = 1 := by decide
  have r1 := rgI l3
  have r2 := rgI l4
  have r3 := rgI s0
  exact s_X3_reckon_80  hN hK (by omega) (by omega) (by omega) (by omega) _ _ _ _ _ _ (by omega) (by omega) (by omega) (by omega) (by omega) (by omega) (by omega) (by omega) (by omega)
set_option maxHeartbeats 2000000 in
theorem s_X3_reckon_70 {N K : Nat} {g : Nat → Int32} {p0 : Int32} {p1 : Int32} (hN : 2 ^ 40 ≤ N) (hK : 100 ≤ K) (hp0 : 0 ≤ p0.toInt) (hp1 : p0.toInt ≤ 7) (hp2 : 0 ≤ p1.toInt) (hp3 : p1.toInt ≤ 20) : ∀ (l3 : Int32) (l4 : Int32) (g_ : Nat → Int32), 2 ≤ p0.toInt → p0.toInt ≤ 7 → -1 ≤ l3.toInt → l3.toInt ≤ 39 → 0 ≤ l4.toInt → l4.toInt ≤ 1 → Sf (fX3_reckon_70 N K g p0 p1  l3 l4 g_) (fun (z : (Nat → Int32)) => True) := by
  intro l3 l4 g_ hq0 hq1 hq2 hq3 hq4 hq5
  unfold fX3_reckon_70
  have ql0 : (0 : Int32).toInt = 0 := by decide
  have ql1 : (1 : Int32).toInt = 1 := by decide
  have r1 := rgI l3
  have r2 := rgI l4
  exact s_X3_reckon_75  hN hK (by omega) (by omega) (by omega) (by omega) _ _ _ _ (by omega) (by omega) (by omega) (by omega) (by omega) (by omega) (by omega)
set_option maxHeartbeats 2000000 in
theorem s_X3_reckon_52 {N K : Nat} {g : Nat → Int32} {p0 : Int32} {p1 : Int32} (hN : 2 ^ 40 ≤ N) (hK : 100 ≤ K) (hp0 : 0 ≤ p0.toInt) (hp1 : p0.toInt ≤ 7) (hp2 : 0 ≤ p1.toInt) (hp3 : p1.toInt ≤ 20) : ∀ (l3 : Int32) (s0 : Int32) (g_ : Nat → Int32), -1 ≤ l3.toInt → l3.toInt ≤ 39 → 0 ≤ s0.toInt → s0.toInt ≤ 1 → (s0.toInt = 0 → 0 ≤ p0.toInt ∧ p0.toInt ≤ 6 ∧ 0 ≤ p1.toInt ∧ p1.toInt ≤ 20) → Sf (fX3_reckon_52 N K g p0 p1  l3 s0 g_) (fun (z : (Nat → Int32)) => True) := by
  intro l3 s0 g_ hq0 hq1 hq2 hq3 hq4
  unfold fX3_reckon_52
  have ql0 : (0 : Int32).toInt = 0 := by decide
  have ql2 : (2 : Int32).toInt = 2 := by decide
  have ql4 : (4 : Int32).toInt = 4 := by decide
  have ql7 : (7 : Int32).toInt = 7 := by decide
  refine sIf (fun h1 => ?_) (fun h1 => ?_)
  · have r2 := rgI p0
    have fh1 := eqT h1
    have r3 := rgI l3
    have r4 := rgI s0
    exact s_X3_reckon_70  hN hK (by omega) (by omega) (by omega) (by omega) _ _ _ (by omega) (by omega) (by omega) (by omega) (by omega) (by omega)
  · have r5 := rgI p0
    have fh1 := eqF h1
    refine sIf (fun h6 => ?_) (fun h6 => ?_)
    · have fh6 := eqT h6
      have r7 := rgI l3
      have r8 := rgI s0
      exact s_X3_reckon_70  hN hK (by omega) (by omega) (by omega) (by omega) _ _ _ (by omega) (by omega) (by omega) (by omega) (by omega) (by omega)
    · have fh6 := eqF h6
      refine sIf (fun h9 => ?_) (fun h9 => ?_)
      · have fh9 := eqT h9
        have r10 := rgI l3
        have r11 := rgI s0
        exact s_X3_reckon_70  hN hK (by omega) (by omega) (by omega) (by omega) _ _ _ (by omega) (by omega) (by omega) (by omega) (by omega) (by omega)
      · have fh9 := eqF h9
        have r12 := rgI l3
        have r13 := rgI s0
        exact s_X3_reckon_75  hN hK (by omega) (by omega) (by omega) (by omega) _ _ _ _ (by omega) (by omega) (by omega) (by omega) (by omega) (by omega) (by omega)
set_option maxHeartbeats 2000000 in
theorem s_X3_reckon_47 {N K : Nat} {g : Nat → Int32} {p0 : Int32} {p1 : Int32} (hN : 2 ^ 40 ≤ N) (hK : 100 ≤ K) (hp0 : 0 ≤ p0.toInt) (hp1 : p0.toInt ≤ 7) (hp2 : 0 ≤ p1.toInt) (hp3 : p1.toInt ≤ 20) : ∀ (l3 : Int32) (g_ : Nat → Int32), 3 ≤ p0.toInt → p0.toInt ≤ 7 → -1 ≤ l3.toInt → l3.toInt ≤ 39 → Sf (fX3_reckon_47 N K g p0 p1  l3 g_) (fun (z : (Nat → Int32)) => True) := by
  intro l3 g_ hq0 hq1 hq2 hq3
  unfold fX3_reckon_47
  have ql0 : (0 : Int32).toInt = 0 := by decide
  have ql1 : (1 : Int32).toInt = 1 := by decide
  have r1 := rgI l3
  exact s_X3_reckon_52  hN hK (by omega) (by omega) (by omega) (by omega) _ _ _ (by omega) (by omega) (by omega) (by omega) (by omega)
set_option maxHeartbeats 2000000 in
theorem s_X3_reckon_30 {N K : Nat} {g : Nat → Int32} {p0 : Int32} {p1 : Int32} (hN : 2 ^ 40 ≤ N) (hK : 100 ≤ K) (hp0 : 0 ≤ p0.toInt) (hp1 : p0.toInt ≤ 7) (hp2 : 0 ≤ p1.toInt) (hp3 : p1.toInt ≤ 20) : ∀ (s0 : Int32) (g_ : Nat → Int32), -1 ≤ s0.toInt → s0.toInt ≤ 39 → (s0.toInt = 0 → 0 ≤ p0.toInt ∧ p0.toInt ≤ 7 ∧ 0 ≤ p1.toInt ∧ p1.toInt ≤ 20) → Sf (fX3_reckon_30 N K g p0 p1  s0 g_) (fun (z : (Nat → Int32)) => True) := by
  intro s0 g_ hq0 hq1 hq2
  unfold fX3_reckon_30
  have ql0 : (0 : Int32).toInt = 0 := by decide
  have ql3 : (3 : Int32).toInt = 3 := by decide
  have ql4 : (4 : Int32).toInt = 4 := by decide
  have ql7 : (7 : Int32).toInt = 7 := by decide
  refine sIf (fun h1 => ?_) (fun h1 => ?_)
  · have r2 := rgI p0
    have fh1 := eqT h1
    have r3 := rgI s0
    exact s_X3_reckon_47  hN hK (by omega) (by omega) (by omega) (by omega) _ _ (by omega) (by omega) (by omega) (by omega)
  · have r4 := rgI p0
    have fh1 := eqF h1
    refine sIf (fun h5 => ?_) (fun h5 => ?_)
    · have fh5 := eqT h5
      have r6 := rgI s0
      exact s_X3_reckon_47  hN hK (by omega) (by omega) (by omega) (by omega) _ _ (by omega) (by omega) (by omega) (by omega)
    · have fh5 := eqF h5
      refine sIf (fun h7 => ?_) (fun h7 => ?_)
      · have fh7 := eqT h7
        have r8 := rgI s0
        exact s_X3_reckon_47  hN hK (by omega) (by omega) (by omega) (by omega) _ _ (by omega) (by omega) (by omega) (by omega)
      · have fh7 := eqF h7
        have r9 := rgI s0
        exact s_X3_reckon_52  hN hK (by omega) (by omega) (by omega) (by omega) _ _ _ (by omega) (by omega) (by omega) (by omega) (by omega)
set_option maxHeartbeats 2000000 in
theorem s_X3_reckon {N K : Nat} {g : Nat → Int32} {p0 : Int32} {p1 : Int32} (hN : 2 ^ 40 ≤ N) (hK : 100 ≤ K) (hp0 : 0 ≤ p0.toInt) (hp1 : p0.toInt ≤ 7) (hp2 : 0 ≤ p1.toInt) (hp3 : p1.toInt ≤ 20) : Sf (fX3_reckon N K g p0 p1) (fun (z : (Nat → Int32)) => True) := by
  unfold fX3_reckon
  have ql0 : (0 : Int32).toInt = 0 := by decide
  have ql1 : (1 : Int32).toInt = 1 := by decide
  have ql2 : (2 : Int32).toInt = 2 := by decide
  have ql7 : (7 : Int32).toInt = 7 := by decide
  refine sBind (s_J_fill hN hK (by omega) (by omega)) (fun x5 b1 => ?_)
  refine sIf (fun h2 => ?_) (fun h2 => ?_)
  · have r3 := rgI p0
    have fh2 := eqT h2
    have r6 := rgI p1
    have t5 := mulL (a := (2 : Int32)) (b := p1) ql2 (by omega) (by omega)
    have t4 := subI (a := ((2 : Int32) * p1)) (b := (1 : Int32)) (by omega) (by omega)
    exact s_X3_reckon_30  hN hK (by omega) (by omega) (by omega) (by omega) _ _ (by omega) (by omega) (by omega)
  · have r7 := rgI p0
    have fh2 := eqF h2
    have r8 := rgI p1
    exact s_X3_reckon_30  hN hK (by omega) (by omega) (by omega) (by omega) _ _ (by omega) (by omega) (by omega)
set_option maxHeartbeats 2000000 in
theorem s_X3_reckoned_32 {N K : Nat} {g : Nat → Int32} {p0 : Int32} {p1 : Int32} {p2 : Int32} (hN : 2 ^ 40 ≤ N) (hK : 100 ≤ K) (hp0 : 0 ≤ p0.toInt) (hp1 : p0.toInt ≤ 7) (hp2 : 0 ≤ p1.toInt) (hp3 : p1.toInt ≤ 20) (hp4 : 0 ≤ p2.toInt) (hp5 : p2.toInt ≤ 20) : ∀ (l4 : Int32), -210 ≤ l4.toInt → l4.toInt ≤ 20 → Sf (fX3_reckoned_32 N K g p0 p1 p2  l4) (fun (z : Int32) => True) := by
  intro l4 hq0 hq1
  unfold fX3_reckoned_32
  have ql0 : (0 : Int32).toInt = 0 := by decide
  have ql21 : (21 : Int32).toInt = 21 := by decide
  refine sIf (fun h1 => ?_) (fun h1 => ?_)
  · have r2 := rgI l4
    have fh1 := ltT h1
    exact sRet ⟨trivial⟩
  · have r3 := rgI l4
    have fh1 := ltF h1
    refine sIf (fun h4 => ?_) (fun h4 => ?_)
    · have fh4 := ltT h4
      refine sIfF (noob (by omega) (by omega)) ?_
      have r5 := rgI (g l4.toNatClampNeg)
      exact sRet ⟨trivial⟩
    · have fh4 := ltF h4
      exfalso; omega
set_option maxHeartbeats 2000000 in
theorem s_X3_reckoned {N K : Nat} {g : Nat → Int32} {p0 : Int32} {p1 : Int32} {p2 : Int32} (hN : 2 ^ 40 ≤ N) (hK : 100 ≤ K) (hp0 : 0 ≤ p0.toInt) (hp1 : p0.toInt ≤ 7) (hp2 : 0 ≤ p1.toInt) (hp3 : p1.toInt ≤ 20) (hp4 : 0 ≤ p2.toInt) (hp5 : p2.toInt ≤ 20) : Sf (fX3_reckoned N K g p0 p1 p2) (fun (z : Int32) => True) := by
  unfold fX3_reckoned
  have ql0 : (0 : Int32).toInt = 0 := by decide
  have ql1 : (1 : Int32).toInt = 1 := by decide
  have ql5 : (5 : Int32).toInt = 5 := by decide
  refine sIf (fun h1 => ?_) (fun h1 => ?_)
  · have r2 := rgI p0
    have fh1 := eqT h1
    have r4 := rgI p1
    have r5 := rgI p2
    have t3 := subI (a := p1) (b := p2) (by omega) (by omega)
    exact s_X3_reckoned_32  hN hK (by omega) (by omega) (by omega) (by omega) (by omega) (by omega) _ (by omega) (by omega)
  · have r6 := rgI p0
    have fh1 := eqF h1
    refine sIf (fun h7 => ?_) (fun h7 => ?_)
    · have fh7 := eqT h7
      have r8 := rgI (p1 - ((p2 * (p2 + (1 : Int32))) / (2 : Int32)))
      exact s_X3_reckoned_32  hN hK (by omega) (by omega) (by omega) (by omega) (by omega) (by omega) _ (by omega) (by omega)
    · have fh7 := eqF h7
      have r9 := rgI p1
      exact s_X3_reckoned_32  hN hK (by omega) (by omega) (by omega) (by omega) (by omega) (by omega) _ (by omega) (by omega)
set_option maxHeartbeats 2000000 in
theorem s_X3_tells {N K : Nat} {g : Nat → Int32} {p0 : Int32} {p1 : Int32} {p2 : Int32} (hN : 2 ^ 40 ≤ N) (hK : 100 ≤ K) (hp0 : 0 ≤ p0.toInt) (hp1 : p0.toInt ≤ 7) (hp2 : 0 ≤ p1.toInt) (hp3 : p1.toInt ≤ 20) (hp4 : 0 ≤ p2.toInt) (hp5 : p2.toInt ≤ 20) : Sf (fX3_tells N K g p0 p1 p2) (fun (z : Int32 × (Nat → Int32)) => True) := by
  unfold fX3_tells
  have ql0 : (0 : Int32).toInt = 0 := by decide
  have r1 := rgI p0
  have r2 := rgI p2
  refine sBind (s_X3_reckon hN hK (by omega) (by omega) (by omega) (by omega)) (fun x3 b3 => ?_)
  have r4 := rgI p1
  refine sBind (s_X3_reckoned hN hK (by omega) (by omega) (by omega) (by omega) (by omega) (by omega)) (fun x10 b5 => ?_)
  have r6 := rgI x10
  exact sRet ⟨trivial⟩
set_option maxHeartbeats 2000000 in
theorem s_X1_size {N K : Nat} {ru : Int32} {sz : Int32} {f : Nat → Int32} (hN : 2 ^ 40 ≤ N) (hK : 100 ≤ K)  : Sf (fX1_size N K ru sz f) (fun (z : Int32) => True) := by
  unfold fX1_size
  have ql0 : (0 : Int32).toInt = 0 := by decide
  have r1 := rgI sz
  exact sRet ⟨trivial⟩
set_option maxHeartbeats 2000000 in
theorem s_X1_keptWorth {N K : Nat} {ru : Int32} {sz : Int32} {f : Nat → Int32} {p0 : Int32} (hN : 2 ^ 40 ≤ N) (hK : 100 ≤ K) (hp0 : 0 ≤ p0.toInt) (hp1 : p0.toInt ≤ 20) : Sf (fX1_keptWorth N K ru sz f p0) (fun (z : Int32) => True) := by
  unfold fX1_keptWorth
  have qlm1 : (-1 : Int32).toInt = -1 := by decide
  have ql0 : (0 : Int32).toInt = 0 := by decide
  have ql1 : (1 : Int32).toInt = 1 := by decide
  have ql20 : (20 : Int32).toInt = 20 := by decide
  refine sIf (fun h1 => ?_) (fun h1 => ?_)
  · have r2 := rgI p0
    have fh1 := ltT h1
    exact sRet ⟨trivial⟩
  · have r3 := rgI p0
    have fh1 := ltF h1
    refine sIf (fun h4 => ?_) (fun h4 => ?_)
    · have fh4 := leT h4
      refine sIfF (noob (by omega) (by omega)) ?_
      have r5 := rgI (f p0.toNatClampNeg)
      exact sRet ⟨trivial⟩
    · have fh4 := leF h4
      exfalso; omega
set_option maxHeartbeats 2000000 in
theorem s_X1_keeps {N K : Nat} {ru : Int32} {sz : Int32} {f : Nat → Int32} {p0 : Int32} (hN : 2 ^ 40 ≤ N) (hK : 100 ≤ K) (hp0 : 0 ≤ p0.toInt) (hp1 : p0.toInt ≤ 20) : Sf (fX1_keeps N K ru sz f p0) (fun (z : Int32) => 0 ≤ z.toInt ∧ z.toInt ≤ 1 ∧ True) := by
  unfold fX1_keeps
  have qlm1 : (-1 : Int32).toInt = -1 := by decide
  have ql0 : (0 : Int32).toInt = 0 := by decide
  have ql1 : (1 : Int32).toInt = 1 := by decide
  have r1 := rgI ru
  have r2 := rgI sz
  have r3 := rgI p0
  refine sBind (s_X1_keptWorth hN hK (by omega) (by omega)) (fun x2 b4 => ?_)
  refine sIf (fun h5 => ?_) (fun h5 => ?_)
  · have r6 := rgI x2
    have fh5 := eqT h5
    exact sRet ⟨(by show 0 ≤ (0 : Int32).toInt; omega), (by show (0 : Int32).toInt ≤ 1; omega), trivial⟩
  · have r7 := rgI x2
    have fh5 := eqF h5
    exact sRet ⟨(by show 0 ≤ (1 : Int32).toInt; omega), (by show (1 : Int32).toInt ≤ 1; omega), trivial⟩
set_option maxHeartbeats 2000000 in
theorem s_X1_sumOfDivisors_37 {N K : Nat} {ru : Int32} {sz : Int32} {f : Nat → Int32} {p0 : Int32} (hN : 2 ^ 40 ≤ N) (hK : 100 ≤ K) (hp0 : 1 ≤ p0.toInt) (hp1 : p0.toInt ≤ 20) {k_19 : Int32 → Int32 → Int32 → Option (Int32)} {m_19 : Nat} (hk_19 : ∀ (l2 : Int32) (l3 : Int32) (l4 : Int32), (22 - l4.toInt).toNat < m_19 → 1 ≤ l2.toInt → l2.toInt ≤ 2 → 1 ≤ l4.toInt → l4.toInt ≤ 22 → Sf (k_19 l2 l3 l4) (fun (z : Int32) => True)) : ∀ (l2 : Int32) (l3 : Int32) (l4 : Int32), 1 ≤ l2.toInt → l2.toInt ≤ 2 → 1 ≤ l4.toInt → l4.toInt ≤ 20 → (22 - l4.toInt).toNat ≤ m_19 → Sf (fX1_sumOfDivisors_37 N K ru sz f p0 k_19 l2 l3 l4) (fun (z : Int32) => True) := by
  intro l2 l3 l4 hq0 hq1 hq2 hq3 hq4
  unfold fX1_sumOfDivisors_37
  have ql0 : (0 : Int32).toInt = 0 := by decide
  have r1 := rgI l2
  have r2 := rgI l3
  have r4 := rgI l4
  have t3 := addI (a := l4) (b := l2) (by omega) (by omega)
  exact hk_19 _ _ _ (by omega) (by omega) (by omega) (by omega) (by omega)
set_option maxHeartbeats 2000000 in
theorem s_X1_sumOfDivisors_19 {N K : Nat} {ru : Int32} {sz : Int32} {f : Nat → Int32} {p0 : Int32} (hN : 2 ^ 40 ≤ N) (hK : 100 ≤ K) (hp0 : 1 ≤ p0.toInt) (hp1 : p0.toInt ≤ 20) : ∀ (fu : Nat) (l2 : Int32) (l3 : Int32) (l4 : Int32), (22 - l4.toInt).toNat < fu → 1 ≤ l2.toInt → l2.toInt ≤ 2 → 1 ≤ l4.toInt → l4.toInt ≤ 22 → Sf (fX1_sumOfDivisors_19 N K ru sz f p0  fu l2 l3 l4) (fun (z : Int32) => True) := by
  intro fu
  induction fu with
  | zero => intro l2 l3 l4 h0 hq0 hq1 hq2 hq3; omega
  | succ fu ih =>
    intro l2 l3 l4 h0 hq0 hq1 hq2 hq3
    unfold fX1_sumOfDivisors_19
    have ql0 : (0 : Int32).toInt = 0 := by decide
    refine sIf (fun h1 => ?_) (fun h1 => ?_)
    · have r2 := rgI p0
      have r3 := rgI l4
      have fh1 := ltT h1
      have r4 := rgI l3
      exact sRet ⟨trivial⟩
    · have r5 := rgI p0
      have r6 := rgI l4
      have fh1 := ltF h1
      refine sIfF (fun e9 => by have e8 := eqT e9; omega) ?_
      refine sIf (fun h7 => ?_) (fun h7 => ?_)
      · have r8 := rgI (p0 % l4)
        have fh7 := eqT h7
        have r9 := rgI l2
        have r10 := rgI (l3 + l4)
        exact s_X1_sumOfDivisors_37 (hk_19 := ih) hN hK (by omega) (by omega) _ _ _ (by omega) (by omega) (by omega) (by omega) (by omega)
      · have r11 := rgI (p0 % l4)
        have fh7 := eqF h7
        have r12 := rgI l2
        have r13 := rgI l3
        exact s_X1_sumOfDivisors_37 (hk_19 := ih) hN hK (by omega) (by omega) _ _ _ (by omega) (by omega) (by omega) (by omega) (by omega)
set_option maxHeartbeats 2000000 in
theorem s_X1_sumOfDivisors_13 {N K : Nat} {ru : Int32} {sz : Int32} {f : Nat → Int32} {p0 : Int32} (hN : 2 ^ 40 ≤ N) (hK : 100 ≤ K) (hp0 : 1 ≤ p0.toInt) (hp1 : p0.toInt ≤ 20) : ∀ (s0 : Int32), 1 ≤ s0.toInt → s0.toInt ≤ 2 → Sf (fX1_sumOfDivisors_13 N K ru sz f p0  s0) (fun (z : Int32) => True) := by
  intro s0 hq0 hq1
  unfold fX1_sumOfDivisors_13
  have ql0 : (0 : Int32).toInt = 0 := by decide
  have ql1 : (1 : Int32).toInt = 1 := by decide
  have r1 := rgI s0
  exact s_X1_sumOfDivisors_19  hN hK (by omega) (by omega) _ _ _ _ (by omega) (by omega) (by omega) (by omega) (by omega)
set_option maxHeartbeats 2000000 in
theorem s_X1_sumOfDivisors {N K : Nat} {ru : Int32} {sz : Int32} {f : Nat → Int32} {p0 : Int32} (hN : 2 ^ 40 ≤ N) (hK : 100 ≤ K) (hp0 : 1 ≤ p0.toInt) (hp1 : p0.toInt ≤ 20) : Sf (fX1_sumOfDivisors N K ru sz f p0) (fun (z : Int32) => True) := by
  unfold fX1_sumOfDivisors
  have ql0 : (0 : Int32).toInt = 0 := by decide
  have ql1 : (1 : Int32).toInt = 1 := by decide
  have ql2 : (2 : Int32).toInt = 2 := by decide
  refine sIf (fun h1 => ?_) (fun h1 => ?_)
  · have r2 := rgI ru
    have fh1 := eqT h1
    exact s_X1_sumOfDivisors_13  hN hK (by omega) (by omega) _ (by omega) (by omega)
  · have r3 := rgI ru
    have fh1 := eqF h1
    exact s_X1_sumOfDivisors_13  hN hK (by omega) (by omega) _ (by omega) (by omega)
set_option maxHeartbeats 2000000 in
theorem s_X1_mark_31 {N K : Nat} {ru : Int32} {sz : Int32} {f : Nat → Int32} (hN : 2 ^ 40 ≤ N) (hK : 100 ≤ K)  {k_4 : Int32 → Int32 → Option (Int32)} {m_4 : Nat} (hk_4 : ∀ (l1 : Int32) (l2 : Int32), (21 - l2.toInt).toNat < m_4 → 1 ≤ l2.toInt → l2.toInt ≤ 21 → Sf (k_4 l1 l2) (fun (z : Int32) => True)) : ∀ (l1 : Int32) (l2 : Int32), 1 ≤ l2.toInt → l2.toInt ≤ 20 → (21 - l2.toInt).toNat ≤ m_4 → Sf (fX1_mark_31 N K ru sz f k_4 l1 l2) (fun (z : Int32) => True) := by
  intro l1 l2 hq0 hq1 hq2
  unfold fX1_mark_31
  have ql0 : (0 : Int32).toInt = 0 := by decide
  have ql1 : (1 : Int32).toInt = 1 := by decide
  have r1 := rgI l1
  have r3 := rgI l2
  have t2 := addI (a := l2) (b := (1 : Int32)) (by omega) (by omega)
  exact hk_4 _ _ (by omega) (by omega) (by omega)
set_option maxHeartbeats 2000000 in
theorem s_X1_mark_4 {N K : Nat} {ru : Int32} {sz : Int32} {f : Nat → Int32} (hN : 2 ^ 40 ≤ N) (hK : 100 ≤ K)  : ∀ (fu : Nat) (l1 : Int32) (l2 : Int32), (21 - l2.toInt).toNat < fu → 1 ≤ l2.toInt → l2.toInt ≤ 21 → Sf (fX1_mark_4 N K ru sz f  fu l1 l2) (fun (z : Int32) => True) := by
  intro fu
  induction fu with
  | zero => intro l1 l2 h0 hq0 hq1; omega
  | succ fu ih =>
    intro l1 l2 h0 hq0 hq1
    unfold fX1_mark_4
    have qlm1 : (-1 : Int32).toInt = -1 := by decide
    have ql0 : (0 : Int32).toInt = 0 := by decide
    have ql20 : (20 : Int32).toInt = 20 := by decide
    refine sIf (fun h1 => ?_) (fun h1 => ?_)
    · have r2 := rgI l2
      have fh1 := ltT h1
      have r3 := rgI l1
      exact sRet ⟨trivial⟩
    · have r4 := rgI l2
      have fh1 := ltF h1
      refine sIfF (noob (by omega) (by omega)) ?_
      refine sIf (fun h5 => ?_) (fun h5 => ?_)
      · have r6 := rgI (f l2.toNatClampNeg)
        have fh5 := eqT h5
        have r7 := rgI l1
        exact s_X1_mark_31 (hk_4 := ih) hN hK _ _ (by omega) (by omega) (by omega)
      · have r8 := rgI (f l2.toNatClampNeg)
        have fh5 := eqF h5
        refine sIfF (noob (by omega) (by omega)) ?_
        have r9 := rgI (l1 + (l2 ^^^ (f l2.toNatClampNeg)))
        exact s_X1_mark_31 (hk_4 := ih) hN hK _ _ (by omega) (by omega) (by omega)
set_option maxHeartbeats 2000000 in
theorem s_X1_mark {N K : Nat} {ru : Int32} {sz : Int32} {f : Nat → Int32} (hN : 2 ^ 40 ≤ N) (hK : 100 ≤ K)  : Sf (fX1_mark N K ru sz f) (fun (z : Int32) => True) := by
  unfold fX1_mark
  have ql0 : (0 : Int32).toInt = 0 := by decide
  have ql1 : (1 : Int32).toInt = 1 := by decide
  exact s_X1_mark_4  hN hK _ _ _ (by omega) (by omega) (by omega)
set_option maxHeartbeats 2000000 in
theorem s_X1_drop {N K : Nat} {ru : Int32} {sz : Int32} {f : Nat → Int32} {p0 : Int32} (hN : 2 ^ 40 ≤ N) (hK : 100 ≤ K) (hp0 : 1 ≤ p0.toInt) (hp1 : p0.toInt ≤ 20) : Sf (fX1_drop N K ru sz f p0) (fun (z : Int32 × (Nat → Int32)) => True) := by
  unfold fX1_drop
  have qlm1 : (-1 : Int32).toInt = -1 := by decide
  have ql0 : (0 : Int32).toInt = 0 := by decide
  have ql1 : (1 : Int32).toInt = 1 := by decide
  have ql20 : (20 : Int32).toInt = 20 := by decide
  refine sIf (fun h1 => ?_) (fun h1 => ?_)
  · have r2 := rgI p0
    have fh1 := ltT h1
    exfalso; omega
  · have r3 := rgI p0
    have fh1 := ltF h1
    refine sIf (fun h4 => ?_) (fun h4 => ?_)
    · have fh4 := ltT h4
      exfalso; omega
    · have fh4 := ltF h4
      refine sIfF (noob (by omega) (by omega)) ?_
      refine sIf (fun h5 => ?_) (fun h5 => ?_)
      · have r6 := rgI (f p0.toNatClampNeg)
        have fh5 := eqT h5
        have r7 := rgI sz
        exact sRet ⟨trivial⟩
      · have r8 := rgI (f p0.toNatClampNeg)
        have fh5 := eqF h5
        refine sIfF (noob (by omega) (by omega)) ?_
        have r9 := rgI (sz - (1 : Int32))
        exact sRet ⟨trivial⟩
set_option maxHeartbeats 2000000 in
theorem s_X1_dropAll {N K : Nat} {ru : Int32} {sz : Int32} {f : Nat → Int32} (hN : 2 ^ 40 ≤ N) (hK : 100 ≤ K)  : Sf (fX1_dropAll N K ru sz f) (fun (z : Int32 × Int32 × (Nat → Int32)) => 0 ≤ z.2.1.toInt ∧ z.2.1.toInt ≤ 0 ∧ True) := by
  unfold fX1_dropAll
  have qlm1 : (-1 : Int32).toInt = -1 := by decide
  have ql0 : (0 : Int32).toInt = 0 := by decide
  refine sBind (s_J_fill hN hK (by omega) (by omega)) (fun x10 b1 => ?_)
  have r2 := rgI sz
  exact sRet ⟨(by show 0 ≤ (0 : Int32).toInt; omega), (by show (0 : Int32).toInt ≤ 0; omega), trivial⟩
set_option maxHeartbeats 2000000 in
theorem s_X1_byPentagons_105 {N K : Nat} {ru : Int32} {sz : Int32} {f : Nat → Int32} {c0 : Int32} {c1 : Int32} {c2 : Int32} {c3 : Int32} {c4 : Int32} {c5 : Int32} {p0 : Int32} {p1 : Int32} {rec : Int32 → Int32 → (Nat → Int32) → Int32 → Int32 → Int32 → Int32 → Int32 → Int32 → Int32 → Int32 → Option (Int32 × Int32 × (Nat → Int32) × Int32 × Int32 × Int32)} {mr : Nat} (hrec : ∀ (ru : Int32) (sz : Int32) (f : Nat → Int32) (c0 : Int32) (c1 : Int32) (c2 : Int32) (c3 : Int32) (c4 : Int32) (c5 : Int32) (p0 : Int32) (p1 : Int32), (46 - p1.toInt).toNat < mr → -20 ≤ p0.toInt → p0.toInt ≤ 20 → 0 ≤ p1.toInt → p1.toInt ≤ 46 → Sf (rec ru sz f c0 c1 c2 c3 c4 c5 p0 p1) (fun (z : Int32 × Int32 × (Nat → Int32) × Int32 × Int32 × Int32) => True)) (hN : 2 ^ 40 ≤ N) (hK : 100 ≤ K) (hp0 : 0 ≤ ru.toInt) (hp1 : ru.toInt ≤ 0) (hp2 : 0 ≤ p0.toInt) (hp3 : p0.toInt ≤ 20) (hp4 : 1 ≤ p1.toInt) (hp5 : p1.toInt ≤ 46) (hp6 : (46 - p1.toInt).toNat ≤ mr) {k_6 : Int32 → Int32 → Int32 → (Nat → Int32) → Int32 → Int32 → Int32 → Option (Int32 × Int32 × (Nat → Int32) × Int32 × Int32 × Int32)} {m_6 : Nat} (hk_6 : ∀ (l4 : Int32) (l5 : Int32) (sz_ : Int32) (f_ : (Nat → Int32)) (c1_ : Int32) (c2_ : Int32) (c3_ : Int32), (21 - l5.toInt).toNat < m_6 → 1 ≤ l5.toInt → l5.toInt ≤ 21 → Sf (k_6 l4 l5 sz_ f_ c1_ c2_ c3_) (fun (z : Int32 × Int32 × (Nat → Int32) × Int32 × Int32 × Int32) => True)) : ∀ (l5 : Int32) (s0 : Int32) (s1 : Int32) (sz_ : Int32) (f_ : Nat → Int32) (c1_ : Int32) (c2_ : Int32) (c3_ : Int32), 1 ≤ p0.toInt → p0.toInt ≤ 20 → 1 ≤ l5.toInt → l5.toInt ≤ 20 → (s0.toInt = 0 → 0 ≤ ru.toInt ∧ ru.toInt ≤ 0 ∧ 1 ≤ p0.toInt ∧ p0.toInt ≤ 20) → (s1.toInt = 0 → 0 ≤ ru.toInt ∧ ru.toInt ≤ 0 ∧ 1 ≤ p0.toInt ∧ p0.toInt ≤ 20) → (21 - l5.toInt).toNat ≤ m_6 → Sf (fX1_byPentagons_105 N K rec ru sz f c0 c1 c2 c3 c4 c5 p0 p1 k_6 l5 s0 s1 sz_ f_ c1_ c2_ c3_) (fun (z : Int32 × Int32 × (Nat → Int32) × Int32 × Int32 × Int32) => True) := by
  intro l5 s0 s1 sz_ f_ c1_ c2_ c3_ hq0 hq1 hq2 hq3 hq4 hq5 hq6
  unfold fX1_byPentagons_105
  have ql0 : (0 : Int32).toInt = 0 := by decide
  have ql1 : (1 : Int32).toInt = 1 := by decide
  have r1 := rgI (s1 + s0)
  have r3 := rgI l5
  have t2 := addI (a := l5) (b := (1 : Int32)) (by omega) (by omega)
  have r4 := rgI sz_
  have r5 := rgI c1_
  have r6 := rgI c2_
  have r7 := rgI c3_
  exact hk_6 _ _ _ _ _ _ _ (by omega) (by omega) (by omega)
set_option maxHeartbeats 2000000 in
theorem s_X1_byPentagons_88 {N K : Nat} {ru : Int32} {sz : Int32} {f : Nat → Int32} {c0 : Int32} {c1 : Int32} {c2 : Int32} {c3 : Int32} {c4 : Int32} {c5 : Int32} {p0 : Int32} {p1 : Int32} {rec : Int32 → Int32 → (Nat → Int32) → Int32 → Int32 → Int32 → Int32 → Int32 → Int32 → Int32 → Int32 → Option (Int32 × Int32 × (Nat → Int32) × Int32 × Int32 × Int32)} {mr : Nat} (hrec : ∀ (ru : Int32) (sz : Int32) (f : Nat → Int32) (c0 : Int32) (c1 : Int32) (c2 : Int32) (c3 : Int32) (c4 : Int32) (c5 : Int32) (p0 : Int32) (p1 : Int32), (46 - p1.toInt).toNat < mr → -20 ≤ p0.toInt → p0.toInt ≤ 20 → 0 ≤ p1.toInt → p1.toInt ≤ 46 → Sf (rec ru sz f c0 c1 c2 c3 c4 c5 p0 p1) (fun (z : Int32 × Int32 × (Nat → Int32) × Int32 × Int32 × Int32) => True)) (hN : 2 ^ 40 ≤ N) (hK : 100 ≤ K) (hp0 : 0 ≤ ru.toInt) (hp1 : ru.toInt ≤ 0) (hp2 : 0 ≤ p0.toInt) (hp3 : p0.toInt ≤ 20) (hp4 : 1 ≤ p1.toInt) (hp5 : p1.toInt ≤ 46) (hp6 : (46 - p1.toInt).toNat ≤ mr) {k_6 : Int32 → Int32 → Int32 → (Nat → Int32) → Int32 → Int32 → Int32 → Option (Int32 × Int32 × (Nat → Int32) × Int32 × Int32 × Int32)} {m_6 : Nat} (hk_6 : ∀ (l4 : Int32) (l5 : Int32) (sz_ : Int32) (f_ : (Nat → Int32)) (c1_ : Int32) (c2_ : Int32) (c3_ : Int32), (21 - l5.toInt).toNat < m_6 → 1 ≤ l5.toInt → l5.toInt ≤ 21 → Sf (k_6 l4 l5 sz_ f_ c1_ c2_ c3_) (fun (z : Int32 × Int32 × (Nat → Int32) × Int32 × Int32 × Int32) => True)) : ∀ (l4 : Int32) (l5 : Int32) (l6 : Int32) (sz_ : Int32) (f_ : Nat → Int32) (c1_ : Int32) (c2_ : Int32) (c3_ : Int32), 1 ≤ p0.toInt → p0.toInt ≤ 20 → 1 ≤ l5.toInt → l5.toInt ≤ 20 → (21 - l5.toInt).toNat ≤ m_6 → Sf (fX1_byPentagons_88 N K rec ru sz f c0 c1 c2 c3 c4 c5 p0 p1 k_6 l4 l5 l6 sz_ f_ c1_ c2_ c3_) (fun (z : Int32 × Int32 × (Nat → Int32) × Int32 × Int32 × Int32) => True) := by
  intro l4 l5 l6 sz_ f_ c1_ c2_ c3_ hq0 hq1 hq2 hq3 hq4
  unfold fX1_byPentagons_88
  have ql0 : (0 : Int32).toInt = 0 := by decide
  have ql2 : (2 : Int32).toInt = 2 := by decide
  refine sIf (fun h1 => ?_) (fun h1 => ?_)
  · have r3 := rgI l5
    have t2 := modL (a := l5) (b := (2 : Int32)) ql2 (by omega)
    have fh1 := eqT h1
    have r4 := rgI (-l6)
    have r5 := rgI l4
    have r6 := rgI sz_
    have r7 := rgI c1_
    have r8 := rgI c2_
    have r9 := rgI c3_
    exact s_X1_byPentagons_105 (hrec := hrec) (hk_6 := hk_6) hN hK (by omega) (by omega) (by omega) (by omega) (by omega) (by omega) (by omega) _ _ _ _ _ _ _ _ (by omega) (by omega) (by omega) (by omega) (by omega) (by omega) (by omega)
  · have r11 := rgI l5
    have t10 := modL (a := l5) (b := (2 : Int32)) ql2 (by omega)
    have fh1 := eqF h1
    have r12 := rgI l6
    have r13 := rgI l4
    have r14 := rgI sz_
    have r15 := rgI c1_
    have r16 := rgI c2_
    have r17 := rgI c3_
    exact s_X1_byPentagons_105 (hrec := hrec) (hk_6 := hk_6) hN hK (by omega) (by omega) (by omega) (by omega) (by omega) (by omega) (by omega) _ _ _ _ _ _ _ _ (by omega) (by omega) (by omega) (by omega) (by omega) (by omega) (by omega)
set_option maxHeartbeats 2000000 in
theorem s_X1_byPentagons_6 {N K : Nat} {ru : Int32} {sz : Int32} {f : Nat → Int32} {c0 : Int32} {c1 : Int32} {c2 : Int32} {c3 : Int32} {c4 : Int32} {c5 : Int32} {p0 : Int32} {p1 : Int32} {rec : Int32 → Int32 → (Nat → Int32) → Int32 → Int32 → Int32 → Int32 → Int32 → Int32 → Int32 → Int32 → Option (Int32 × Int32 × (Nat → Int32) × Int32 × Int32 × Int32)} {mr : Nat} (hrec : ∀ (ru : Int32) (sz : Int32) (f : Nat → Int32) (c0 : Int32) (c1 : Int32) (c2 : Int32) (c3 : Int32) (c4 : Int32) (c5 : Int32) (p0 : Int32) (p1 : Int32), (46 - p1.toInt).toNat < mr → -20 ≤ p0.toInt → p0.toInt ≤ 20 → 0 ≤ p1.toInt → p1.toInt ≤ 46 → Sf (rec ru sz f c0 c1 c2 c3 c4 c5 p0 p1) (fun (z : Int32 × Int32 × (Nat → Int32) × Int32 × Int32 × Int32) => True)) (hN : 2 ^ 40 ≤ N) (hK : 100 ≤ K) (hp0 : 0 ≤ ru.toInt) (hp1 : ru.toInt ≤ 0) (hp2 : 0 ≤ p0.toInt) (hp3 : p0.toInt ≤ 20) (hp4 : 1 ≤ p1.toInt) (hp5 : p1.toInt ≤ 46) (hp6 : (46 - p1.toInt).toNat ≤ mr) : ∀ (fu : Nat) (l4 : Int32) (l5 : Int32) (sz_ : Int32) (f_ : (Nat → Int32)) (c1_ : Int32) (c2_ : Int32) (c3_ : Int32), (21 - l5.toInt).toNat < fu → 1 ≤ l5.toInt → l5.toInt ≤ 21 → Sf (fX1_byPentagons_6 N K rec ru sz f c0 c1 c2 c3 c4 c5 p0 p1  fu l4 l5 sz_ f_ c1_ c2_ c3_) (fun (z : Int32 × Int32 × (Nat → Int32) × Int32 × Int32 × Int32) => True) := by
  intro fu
  induction fu with
  | zero => intro l4 l5 sz_ f_ c1_ c2_ c3_ h0 hq0 hq1; omega
  | succ fu ih =>
    intro l4 l5 sz_ f_ c1_ c2_ c3_ h0 hq0 hq1
    unfold fX1_byPentagons_6
    have ql0 : (0 : Int32).toInt = 0 := by decide
    have ql20 : (20 : Int32).toInt = 20 := by decide
    refine sIf (fun h1 => ?_) (fun h1 => ?_)
    · have r2 := rgI l5
      have fh1 := ltT h1
      have r3 := rgI l4
      have r4 := rgI sz_
      have r5 := rgI c1_
      have r6 := rgI c2_
      have r7 := rgI c3_
      exact sRet ⟨trivial⟩
    · have r8 := rgI l5
      have fh1 := ltF h1
      refine sIf (fun h9 => ?_) (fun h9 => ?_)
      · have r10 := rgI p0
        have r11 := rgI ((l5 * (((3 : Int32) * l5) - (1 : Int32))) / (2 : Int32))
        have fh9 := ltT h9
        have r12 := rgI l4
        have r13 := rgI sz_
        have r14 := rgI c1_
        have r15 := rgI c2_
        have r16 := rgI c3_
        exact sRet ⟨trivial⟩
      · have r17 := rgI p0
        have r18 := rgI ((l5 * (((3 : Int32) * l5) - (1 : Int32))) / (2 : Int32))
        have fh9 := ltF h9
        have r19 := rgI ru
        have r20 := rgI sz_
        have r21 := rgI c0
        have r22 := rgI c1_
        have r23 := rgI c2_
        have r24 := rgI c3_
        have r25 := rgI c4
        have r26 := rgI c5
        have r27 := rgI (p0 - ((l5 * (((3 : Int32) * l5) - (1 : Int32))) / (2 : Int32)))
        have r28 := rgI p1
        refine sBind (hrec _ _ _ _ _ _ _ _ _ _ _ (by omega) (by omega) (by omega) (by omega) (by omega)) (fun x44 b29 => ?_)
        refine sIf (fun h30 => ?_) (fun h30 => ?_)
        · have r31 := rgI ((l5 * (((3 : Int32) * l5) + (1 : Int32))) / (2 : Int32))
          have fh30 := ltT h30
          have r32 := rgI l4
          have r33 := rgI x44.1
          have r34 := rgI x44.2.1
          have r35 := rgI x44.2.2.2.1
          have r36 := rgI x44.2.2.2.2.1
          have r37 := rgI x44.2.2.2.2.2
          exact s_X1_byPentagons_88 (hrec := hrec) (hk_6 := ih) hN hK (by omega) (by omega) (by omega) (by omega) (by omega) (by omega) (by omega) _ _ _ _ _ _ _ _ (by omega) (by omega) (by omega) (by omega) (by omega)
        · have r38 := rgI ((l5 * (((3 : Int32) * l5) + (1 : Int32))) / (2 : Int32))
          have fh30 := ltF h30
          have r39 := rgI x44.2.1
          have r40 := rgI x44.2.2.2.1
          have r41 := rgI x44.2.2.2.2.1
          have r42 := rgI x44.2.2.2.2.2
          have r43 := rgI (p0 - ((l5 * (((3 : Int32) * l5) + (1 : Int32))) / (2 : Int32)))
          refine sBind (hrec _ _ _ _ _ _ _ _ _ _ _ (by omega) (by omega) (by omega) (by omega) (by omega)) (fun x82 b44 => ?_)
          have r45 := rgI l4
          have r46 := rgI (x44.1 + x82.1)
          have r47 := rgI x82.2.1
          have r48 := rgI x82.2.2.2.1
          have r49 := rgI x82.2.2.2.2.1
          have r50 := rgI x82.2.2.2.2.2
          exact s_X1_byPentagons_88 (hrec := hrec) (hk_6 := ih) hN hK (by omega) (by omega) (by omega) (by omega) (by omega) (by omega) (by omega) _ _ _ _ _ _ _ _ (by omega) (by omega) (by omega) (by omega) (by omega)
set_option maxHeartbeats 2000000 in
theorem s_X1_byPentagons {N K : Nat} {ru : Int32} {sz : Int32} {f : Nat → Int32} {c0 : Int32} {c1 : Int32} {c2 : Int32} {c3 : Int32} {c4 : Int32} {c5 : Int32} {p0 : Int32} {p1 : Int32} {rec : Int32 → Int32 → (Nat → Int32) → Int32 → Int32 → Int32 → Int32 → Int32 → Int32 → Int32 → Int32 → Option (Int32 × Int32 × (Nat → Int32) × Int32 × Int32 × Int32)} {mr : Nat} (hrec : ∀ (ru : Int32) (sz : Int32) (f : Nat → Int32) (c0 : Int32) (c1 : Int32) (c2 : Int32) (c3 : Int32) (c4 : Int32) (c5 : Int32) (p0 : Int32) (p1 : Int32), (46 - p1.toInt).toNat < mr → -20 ≤ p0.toInt → p0.toInt ≤ 20 → 0 ≤ p1.toInt → p1.toInt ≤ 46 → Sf (rec ru sz f c0 c1 c2 c3 c4 c5 p0 p1) (fun (z : Int32 × Int32 × (Nat → Int32) × Int32 × Int32 × Int32) => True)) (hN : 2 ^ 40 ≤ N) (hK : 100 ≤ K) (hp0 : 0 ≤ ru.toInt) (hp1 : ru.toInt ≤ 0) (hp2 : 0 ≤ p0.toInt) (hp3 : p0.toInt ≤ 20) (hp4 : 1 ≤ p1.toInt) (hp5 : p1.toInt ≤ 46) (hp6 : (46 - p1.toInt).toNat ≤ mr) : Sf (fX1_byPentagons N K rec ru sz f c0 c1 c2 c3 c4 c5 p0 p1) (fun (z : Int32 × Int32 × (Nat → Int32) × Int32 × Int32 × Int32) => True) := by
  unfold fX1_byPentagons
  have ql0 : (0 : Int32).toInt = 0 := by decide
  have ql1 : (1 : Int32).toInt = 1 := by decide
  have r1 := rgI sz
  have r2 := rgI c1
  have r3 := rgI c2
  have r4 := rgI c3
  exact s_X1_byPentagons_6 (hrec := hrec)  hN hK (by omega) (by omega) (by omega) (by omega) (by omega) (by omega) (by omega) _ _ _ _ _ _ _ _ (by omega) (by omega) (by omega)
set_option maxHeartbeats 2000000 in
theorem s_X1_byDivisors_13 {N K : Nat} {ru : Int32} {sz : Int32} {f : Nat → Int32} {c0 : Int32} {c1 : Int32} {c2 : Int32} {c3 : Int32} {c4 : Int32} {c5 : Int32} {p0 : Int32} {p1 : Int32} {rec : Int32 → Int32 → (Nat → Int32) → Int32 → Int32 → Int32 → Int32 → Int32 → Int32 → Int32 → Int32 → Option (Int32 × Int32 × (Nat → Int32) × Int32 × Int32 × Int32)} {mr : Nat} (hrec : ∀ (ru : Int32) (sz : Int32) (f : Nat → Int32) (c0 : Int32) (c1 : Int32) (c2 : Int32) (c3 : Int32) (c4 : Int32) (c5 : Int32) (p0 : Int32) (p1 : Int32), (46 - p1.toInt).toNat < mr → -20 ≤ p0.toInt → p0.toInt ≤ 20 → 0 ≤ p1.toInt → p1.toInt ≤ 46 → Sf (rec ru sz f c0 c1 c2 c3 c4 c5 p0 p1) (fun (z : Int32 × Int32 × (Nat → Int32) × Int32 × Int32 × Int32) => True)) (hN : 2 ^ 40 ≤ N) (hK : 100 ≤ K) (hp0 : 0 ≤ p0.toInt) (hp1 : p0.toInt ≤ 20) (hp2 : 1 ≤ p1.toInt) (hp3 : p1.toInt ≤ 46) (hp4 : (46 - p1.toInt).toNat ≤ mr) : ∀ (fu : Nat) (l4 : Int32) (l5 : Int32) (sz_ : Int32) (f_ : (Nat → Int32)) (c1_ : Int32) (c2_ : Int32) (c3_ : Int32), (21 - l5.toInt).toNat < fu → 1 ≤ p0.toInt → p0.toInt ≤ 20 → 1 ≤ l5.toInt → l5.toInt ≤ 21 → Sf (fX1_byDivisors_13 N K rec ru sz f c0 c1 c2 c3 c4 c5 p0 p1  fu l4 l5 sz_ f_ c1_ c2_ c3_) (fun (z : Int32 × Int32 × (Nat → Int32) × Int32 × Int32 × Int32) => True) := by
  intro fu
  induction fu with
  | zero => intro l4 l5 sz_ f_ c1_ c2_ c3_ h0 hq0 hq1 hq2 hq3; omega
  | succ fu ih =>
    intro l4 l5 sz_ f_ c1_ c2_ c3_ h0 hq0 hq1 hq2 hq3
    unfold fX1_byDivisors_13
    have ql0 : (0 : Int32).toInt = 0 := by decide
    have ql1 : (1 : Int32).toInt = 1 := by decide
    refine sIf (fun h1 => ?_) (fun h1 => ?_)
    · have r2 := rgI p0
      have r3 := rgI l5
      have fh1 := ltT h1
      refine sIfF (fun e9 => by have e8 := eqT e9; omega) ?_
      have r4 := rgI (l4 / p0)
      have r5 := rgI sz_
      have r6 := rgI c1_
      have r7 := rgI c2_
      have r8 := rgI c3_
      exact sRet ⟨trivial⟩
    · have r9 := rgI p0
      have r10 := rgI l5
      have fh1 := ltF h1
      have r11 := rgI ru
      have r12 := rgI sz_
      have r13 := rgI c0
      have r14 := rgI c1_
      have r15 := rgI c2_
      have r16 := rgI c3_
      have r17 := rgI c4
      have r18 := rgI c5
      have t19 := subI (a := p0) (b := l5) (by omega) (by omega)
      have r20 := rgI p1
      refine sBind (hrec _ _ _ _ _ _ _ _ _ _ _ (by omega) (by omega) (by omega) (by omega) (by omega)) (fun x28 b21 => ?_)
      have r22 := rgI x28.2.1
      refine sBind (s_X1_sumOfDivisors hN hK (by omega) (by omega)) (fun x34 b23 => ?_)
      have r24 := rgI (l4 + (x28.1 * x34))
      have t25 := addI (a := l5) (b := (1 : Int32)) (by omega) (by omega)
      have r26 := rgI x28.2.2.2.1
      have r27 := rgI x28.2.2.2.2.1
      have r28 := rgI x28.2.2.2.2.2
      exact ih _ _ _ _ _ _ _ (by omega) (by omega) (by omega) (by omega) (by omega)
set_option maxHeartbeats 2000000 in
theorem s_X1_byDivisors {N K : Nat} {ru : Int32} {sz : Int32} {f : Nat → Int32} {c0 : Int32} {c1 : Int32} {c2 : Int32} {c3 : Int32} {c4 : Int32} {c5 : Int32} {p0 : Int32} {p1 : Int32} {rec : Int32 → Int32 → (Nat → Int32) → Int32 → Int32 → Int32 → Int32 → Int32 → Int32 → Int32 → Int32 → Option (Int32 × Int32 × (Nat → Int32) × Int32 × Int32 × Int32)} {mr : Nat} (hrec : ∀ (ru : Int32) (sz : Int32) (f : Nat → Int32) (c0 : Int32) (c1 : Int32) (c2 : Int32) (c3 : Int32) (c4 : Int32) (c5 : Int32) (p0 : Int32) (p1 : Int32), (46 - p1.toInt).toNat < mr → -20 ≤ p0.toInt → p0.toInt ≤ 20 → 0 ≤ p1.toInt → p1.toInt ≤ 46 → Sf (rec ru sz f c0 c1 c2 c3 c4 c5 p0 p1) (fun (z : Int32 × Int32 × (Nat → Int32) × Int32 × Int32 × Int32) => True)) (hN : 2 ^ 40 ≤ N) (hK : 100 ≤ K) (hp0 : 0 ≤ p0.toInt) (hp1 : p0.toInt ≤ 20) (hp2 : 1 ≤ p1.toInt) (hp3 : p1.toInt ≤ 46) (hp4 : (46 - p1.toInt).toNat ≤ mr) : Sf (fX1_byDivisors N K rec ru sz f c0 c1 c2 c3 c4 c5 p0 p1) (fun (z : Int32 × Int32 × (Nat → Int32) × Int32 × Int32 × Int32) => True) := by
  unfold fX1_byDivisors
  have ql0 : (0 : Int32).toInt = 0 := by decide
  have ql1 : (1 : Int32).toInt = 1 := by decide
  refine sIf (fun h1 => ?_) (fun h1 => ?_)
  · have r2 := rgI p0
    have fh1 := leT h1
    have r3 := rgI sz
    have r4 := rgI c1
    have r5 := rgI c2
    have r6 := rgI c3
    exact s_X1_byDivisors_13 (hrec := hrec)  hN hK (by omega) (by omega) (by omega) (by omega) (by omega) _ _ _ _ _ _ _ _ (by omega) (by omega) (by omega) (by omega) (by omega)
  · have r7 := rgI p0
    have fh1 := leF h1
    have r8 := rgI sz
    have r9 := rgI c1
    have r10 := rgI c2
    have r11 := rgI c3
    exact sRet ⟨trivial⟩
set_option maxHeartbeats 2000000 in
theorem s_X1_worthKnown {N K : Nat}  (hN : 2 ^ 40 ≤ N) (hK : 100 ≤ K)  : ∀ (fu : Nat) (ru : Int32) (sz : Int32) (f : (Nat → Int32)) (c0 : Int32) (c1 : Int32) (c2 : Int32) (c3 : Int32) (c4 : Int32) (c5 : Int32) (p0 : Int32) (p1 : Int32), (46 - p1.toInt).toNat < fu → -20 ≤ p0.toInt → p0.toInt ≤ 20 → 0 ≤ p1.toInt → p1.toInt ≤ 46 → Sf (fX1_worthKnown N K fu ru sz f c0 c1 c2 c3 c4 c5 p0 p1) (fun (z : Int32 × Int32 × (Nat → Int32) × Int32 × Int32 × Int32) => True) := by
  intro fu
  induction fu with
  | zero => intro ru sz f c0 c1 c2 c3 c4 c5 p0 p1 h0 hq0 hq1 hq2 hq3; omega
  | succ k ih =>
    intro ru sz f c0 c1 c2 c3 c4 c5 p0 p1 h0 hq0 hq1 hq2 hq3
    unfold fX1_worthKnown
    have qlm1 : (-1 : Int32).toInt = -1 := by decide
    have ql0 : (0 : Int32).toInt = 0 := by decide
    have ql1 : (1 : Int32).toInt = 1 := by decide
    have ql20 : (20 : Int32).toInt = 20 := by decide
    have ql45 : (45 : Int32).toInt = 45 := by decide
    refine sIf (fun h1 => ?_) (fun h1 => ?_)
    · have r2 := rgI p0
      have fh1 := eqT h1
      have r3 := rgI sz
      have r4 := rgI c1
      have r5 := rgI c2
      have r6 := rgI c3
      exact sRet ⟨trivial⟩
    · have r7 := rgI p0
      have fh1 := eqF h1
      refine sIf (fun h8 => ?_) (fun h8 => ?_)
      · have fh8 := ltT h8
        have r9 := rgI sz
        have r10 := rgI c1
        have r11 := rgI c2
        have r12 := rgI c3
        exact sRet ⟨trivial⟩
      · have fh8 := ltF h8
        refine sIf (fun h13 => ?_) (fun h13 => ?_)
        · have fh13 := ltT h13
          exfalso; omega
        · have fh13 := ltF h13
          refine sIf (fun h14 => ?_) (fun h14 => ?_)
          · have r15 := rgI p1
            have fh14 := leT h14
            refine sIfF (noob (by omega) (by omega)) ?_
            refine sIf (fun h16 => ?_) (fun h16 => ?_)
            · have r17 := rgI (f p0.toNatClampNeg)
              have fh16 := eqT h16
              refine sIf (fun h18 => ?_) (fun h18 => ?_)
              · have r19 := rgI ru
                have fh18 := eqT h18
                have r20 := rgI sz
                have r21 := rgI c0
                have r22 := rgI (c1 + (1 : Int32))
                have r23 := rgI c2
                have r24 := rgI c3
                have r25 := rgI c4
                have r26 := rgI c5
                have t27 := addI (a := p1) (b := (1 : Int32)) (by omega) (by omega)
                refine sBind (s_X1_byPentagons (hrec := ih) hN hK (by omega) (by omega) (by omega) (by omega) (by omega) (by omega) (by omega)) (fun x74 b28 => ?_)
                refine sIfF (noob (by omega) (by omega)) ?_
                have r29 := rgI x74.1
                have r30 := rgI (x74.2.1 + (1 : Int32))
                have r31 := rgI x74.2.2.2.1
                have r32 := rgI (x74.2.2.2.2.1 + (1 : Int32))
                have r33 := rgI x74.2.2.2.2.2
                exact sRet ⟨trivial⟩
              · have r34 := rgI ru
                have fh18 := eqF h18
                have r35 := rgI sz
                have r36 := rgI c0
                have r37 := rgI (c1 + (1 : Int32))
                have r38 := rgI c2
                have r39 := rgI c3
                have r40 := rgI c4
                have r41 := rgI c5
                have t42 := addI (a := p1) (b := (1 : Int32)) (by omega) (by omega)
                refine sBind (s_X1_byDivisors (hrec := ih) hN hK (by omega) (by omega) (by omega) (by omega) (by omega)) (fun x86 b43 => ?_)
                refine sIfF (noob (by omega) (by omega)) ?_
                have r44 := rgI x86.1
                have r45 := rgI (x86.2.1 + (1 : Int32))
                have r46 := rgI x86.2.2.2.1
                have r47 := rgI (x86.2.2.2.2.1 + (1 : Int32))
                have r48 := rgI x86.2.2.2.2.2
                exact sRet ⟨trivial⟩
            · have r49 := rgI (f p0.toNatClampNeg)
              have fh16 := eqF h16
              refine sIfF (noob (by omega) (by omega)) ?_
              have r50 := rgI sz
              have r51 := rgI (c1 + (1 : Int32))
              have r52 := rgI c2
              have r53 := rgI (c3 + (1 : Int32))
              exact sRet ⟨trivial⟩
          · have r54 := rgI p1
            have fh14 := leF h14
            have r55 := rgI sz
            have r56 := rgI c1
            have r57 := rgI c2
            have r58 := rgI c3
            exact sRet ⟨trivial⟩
set_option maxHeartbeats 2000000 in
theorem s_X1_recall {N K : Nat} {ru : Int32} {sz : Int32} {f : Nat → Int32} {c0 : Int32} {c1 : Int32} {c2 : Int32} {c3 : Int32} {c4 : Int32} {c5 : Int32} {p0 : Int32} (hN : 2 ^ 40 ≤ N) (hK : 100 ≤ K) (hp0 : 0 ≤ p0.toInt) (hp1 : p0.toInt ≤ 20) : Sf (fX1_recall N K ru sz f c0 c1 c2 c3 c4 c5 p0) (fun (z : Int32 × Int32 × (Nat → Int32) × Int32 × Int32 × Int32) => True) := by
  unfold fX1_recall
  have ql0 : (0 : Int32).toInt = 0 := by decide
  have r1 := rgI ru
  have r2 := rgI sz
  have r3 := rgI c0
  have r4 := rgI c1
  have r5 := rgI c2
  have r6 := rgI c3
  have r7 := rgI c4
  have r8 := rgI c5
  have r9 := rgI p0
  refine sBind (s_X1_worthKnown hN hK _ _ _ _ _ _ _ _ _ _ _ _ (by omega) (by omega) (by omega) (by omega) (by omega)) (fun x4 b10 => ?_)
  have r11 := rgI x4.1
  have r12 := rgI x4.2.1
  have r13 := rgI x4.2.2.2.1
  have r14 := rgI x4.2.2.2.2.1
  have r15 := rgI x4.2.2.2.2.2
  exact sRet ⟨trivial⟩
set_option maxHeartbeats 2000000 in
theorem s_X5_rests {N K : Nat} {p0 : Int32} {p1 : Int32} (hN : 2 ^ 40 ≤ N) (hK : 100 ≤ K)  : Sf (fX5_rests N K p0 p1) (fun (z : Int32) => 0 ≤ z.toInt ∧ z.toInt ≤ 1 ∧ (z.toInt = 0 → (1 ≤ p0.toInt)) ∧ (z.toInt = 0 → p1.toInt ≠ 0) ∧ True) := by
  unfold fX5_rests
  have ql0 : (0 : Int32).toInt = 0 := by decide
  have ql1 : (1 : Int32).toInt = 1 := by decide
  refine sIf (fun h1 => ?_) (fun h1 => ?_)
  · have r2 := rgI p0
    have fh1 := leT h1
    exact sRet ⟨(by show 0 ≤ (1 : Int32).toInt; omega), (by show (1 : Int32).toInt ≤ 1; omega), (by show ((1 : Int32).toInt = 0 → (1 ≤ p0.toInt)); omega), (by show ((1 : Int32).toInt = 0 → p1.toInt ≠ 0); omega), trivial⟩
  · have r3 := rgI p0
    have fh1 := leF h1
    refine sIf (fun h4 => ?_) (fun h4 => ?_)
    · have r5 := rgI p1
      have fh4 := eqT h4
      exact sRet ⟨(by show 0 ≤ (1 : Int32).toInt; omega), (by show (1 : Int32).toInt ≤ 1; omega), (by show ((1 : Int32).toInt = 0 → (1 ≤ p0.toInt)); omega), (by show ((1 : Int32).toInt = 0 → p1.toInt ≠ 0); omega), trivial⟩
    · have r6 := rgI p1
      have fh4 := eqF h4
      exact sRet ⟨(by show 0 ≤ (0 : Int32).toInt; omega), (by show (0 : Int32).toInt ≤ 1; omega), (by show ((0 : Int32).toInt = 0 → (1 ≤ p0.toInt)); omega), (by show ((0 : Int32).toInt = 0 → p1.toInt ≠ 0); omega), trivial⟩
set_option maxHeartbeats 2000000 in
theorem s_X5_restingWorth_16 {N K : Nat} {p0 : Int32} {p1 : Int32} {p2 : Int32} (hN : 2 ^ 40 ≤ N) (hK : 100 ≤ K) (hp0 : 0 ≤ p0.toInt) (hp1 : p0.toInt ≤ 5) : 1 ≤ p0.toInt → p0.toInt ≤ 5 → 0 ≤ p1.toInt → p1.toInt ≤ 0 → Sf (fX5_restingWorth_16 N K p0 p1 p2  ) (fun (z : Int32) => 0 ≤ z.toInt ∧ z.toInt ≤ 1 ∧ True) := by
  intro  hq0 hq1 hq2 hq3
  unfold fX5_restingWorth_16
  have ql0 : (0 : Int32).toInt = 0 := by decide
  have ql1 : (1 : Int32).toInt = 1 := by decide
  refine sIf (fun h1 => ?_) (fun h1 => ?_)
  · have r2 := rgI p2
    have fh1 := eqT h1
    exact sRet ⟨(by show 0 ≤ (1 : Int32).toInt; omega), (by show (1 : Int32).toInt ≤ 1; omega), trivial⟩
  · have r3 := rgI p2
    have fh1 := eqF h1
    exact sRet ⟨(by show 0 ≤ (0 : Int32).toInt; omega), (by show (0 : Int32).toInt ≤ 1; omega), trivial⟩
set_option maxHeartbeats 2000000 in
theorem s_X5_restingWorth {N K : Nat} {p0 : Int32} {p1 : Int32} {p2 : Int32} (hN : 2 ^ 40 ≤ N) (hK : 100 ≤ K) (hp0 : 0 ≤ p0.toInt) (hp1 : p0.toInt ≤ 5) : Sf (fX5_restingWorth N K p0 p1 p2) (fun (z : Int32) => 0 ≤ z.toInt ∧ z.toInt ≤ 1 ∧ True) := by
  unfold fX5_restingWorth
  have ql0 : (0 : Int32).toInt = 0 := by decide
  have ql1 : (1 : Int32).toInt = 1 := by decide
  have ql5 : (5 : Int32).toInt = 5 := by decide
  refine sIf (fun h1 => ?_) (fun h1 => ?_)
  · have r2 := rgI p1
    have fh1 := eqT h1
    refine sIf (fun h3 => ?_) (fun h3 => ?_)
    · have r4 := rgI p0
      have fh3 := eqT h3
      exact s_X5_restingWorth_16  hN hK (by omega) (by omega)  (by omega) (by omega) (by omega) (by omega)
    · have r5 := rgI p0
      have fh3 := eqF h3
      refine sIf (fun h6 => ?_) (fun h6 => ?_)
      · have fh6 := eqT h6
        exact s_X5_restingWorth_16  hN hK (by omega) (by omega)  (by omega) (by omega) (by omega) (by omega)
      · have fh6 := eqF h6
        exact sRet ⟨(by show 0 ≤ (1 : Int32).toInt; omega), (by show (1 : Int32).toInt ≤ 1; omega), trivial⟩
  · have r7 := rgI p1
    have fh1 := eqF h1
    exact sRet ⟨(by show 0 ≤ (0 : Int32).toInt; omega), (by show (0 : Int32).toInt ≤ 1; omega), trivial⟩
set_option maxHeartbeats 2000000 in
theorem s_X2_slotOf {N K : Nat} {p0 : Int32} {p1 : Int32} {p2 : Int32} (hN : 2 ^ 40 ≤ N) (hK : 100 ≤ K) (hp0 : 0 ≤ p0.toInt) (hp1 : p0.toInt ≤ 5) (hp2 : 0 ≤ p1.toInt) : Sf (fX2_slotOf N K p0 p1 p2) (fun (z : Int32) => -1 ≤ z.toInt ∧ z.toInt ≤ 2645 ∧ True) := by
  unfold fX2_slotOf
  have qlm1 : (-1 : Int32).toInt = -1 := by decide
  have ql0 : (0 : Int32).toInt = 0 := by decide
  have ql6 : (6 : Int32).toInt = 6 := by decide
  have ql20 : (20 : Int32).toInt = 20 := by decide
  have ql21 : (21 : Int32).toInt = 21 := by decide
  refine sIf (fun h1 => ?_) (fun h1 => ?_)
  · have r2 := rgI p0
    have fh1 := ltT h1
    exfalso; omega
  · have r3 := rgI p0
    have fh1 := ltF h1
    refine sIf (fun h4 => ?_) (fun h4 => ?_)
    · have fh4 := leT h4
      exfalso; omega
    · have fh4 := leF h4
      refine sIf (fun h5 => ?_) (fun h5 => ?_)
      · have r6 := rgI p1
        have fh5 := ltT h5
        exfalso; omega
      · have r7 := rgI p1
        have fh5 := ltF h5
        refine sIf (fun h8 => ?_) (fun h8 => ?_)
        · have fh8 := ltT h8
          exact sRet ⟨(by show -1 ≤ (-1 : Int32).toInt; omega), (by show (-1 : Int32).toInt ≤ 2645; omega), trivial⟩
        · have fh8 := ltF h8
          refine sIf (fun h9 => ?_) (fun h9 => ?_)
          · have r10 := rgI p2
            have fh9 := ltT h9
            exact sRet ⟨(by show -1 ≤ (-1 : Int32).toInt; omega), (by show (-1 : Int32).toInt ≤ 2645; omega), trivial⟩
          · have r11 := rgI p2
            have fh9 := ltF h9
            refine sIf (fun h12 => ?_) (fun h12 => ?_)
            · have fh12 := leT h12
              have t16 := mulR (a := p0) (b := (21 : Int32)) ql21 (by omega) (by omega)
              have t15 := addI (a := (p0 * (21 : Int32))) (b := p1) (by omega) (by omega)
              have t14 := mulR (a := ((p0 * (21 : Int32)) + p1)) (b := (21 : Int32)) ql21 (by omega) (by omega)
              have t13 := addI (a := (((p0 * (21 : Int32)) + p1) * (21 : Int32))) (b := p2) (by omega) (by omega)
              exact sRet ⟨(by show -1 ≤ ((((p0 * (21 : Int32)) + p1) * (21 : Int32)) + p2).toInt; omega), (by show ((((p0 * (21 : Int32)) + p1) * (21 : Int32)) + p2).toInt ≤ 2645; omega), trivial⟩
            · have fh12 := leF h12
              exact sRet ⟨(by show -1 ≤ (-1 : Int32).toInt; omega), (by show (-1 : Int32).toInt ≤ 2645; omega), trivial⟩
set_option maxHeartbeats 2000000 in
theorem s_X2_kindOf {N K : Nat} {p0 : Int32} (hN : 2 ^ 40 ≤ N) (hK : 100 ≤ K) (hp0 : 0 ≤ p0.toInt) (hp1 : p0.toInt ≤ 2645) : Sf (fX2_kindOf N K p0) (fun (z : Int32) => 0 ≤ z.toInt ∧ z.toInt ≤ 5 ∧ True) := by
  unfold fX2_kindOf
  have ql0 : (0 : Int32).toInt = 0 := by decide
  have ql441 : (441 : Int32).toInt = 441 := by decide
  have r2 := rgI p0
  have t1 := divL (a := p0) (b := (441 : Int32)) ql441 (by omega) (by omega)
  exact sRet ⟨(by show 0 ≤ (p0 / (441 : Int32)).toInt; omega), (by show (p0 / (441 : Int32)).toInt ≤ 5; omega), trivial⟩
set_option maxHeartbeats 2000000 in
theorem s_X2_numberOf {N K : Nat} {p0 : Int32} (hN : 2 ^ 40 ≤ N) (hK : 100 ≤ K) (hp0 : 0 ≤ p0.toInt) (hp1 : p0.toInt ≤ 2645) : Sf (fX2_numberOf N K p0) (fun (z : Int32) => 0 ≤ z.toInt ∧ z.toInt ≤ 20 ∧ True) := by
  unfold fX2_numberOf
  have ql0 : (0 : Int32).toInt = 0 := by decide
  have ql21 : (21 : Int32).toInt = 21 := by decide
  have r3 := rgI p0
  have t2 := divL (a := p0) (b := (21 : Int32)) ql21 (by omega) (by omega)
  have t1 := modL (a := (p0 / (21 : Int32))) (b := (21 : Int32)) ql21 (by omega)
  exact sRet ⟨(by show 0 ≤ ((p0 / (21 : Int32)) % (21 : Int32)).toInt; omega), (by show ((p0 / (21 : Int32)) % (21 : Int32)).toInt ≤ 20; omega), trivial⟩
set_option maxHeartbeats 2000000 in
theorem s_X2_measureOf {N K : Nat} {p0 : Int32} (hN : 2 ^ 40 ≤ N) (hK : 100 ≤ K) (hp0 : 0 ≤ p0.toInt) (hp1 : p0.toInt ≤ 2645) : Sf (fX2_measureOf N K p0) (fun (z : Int32) => 0 ≤ z.toInt ∧ z.toInt ≤ 20 ∧ True) := by
  unfold fX2_measureOf
  have ql0 : (0 : Int32).toInt = 0 := by decide
  have ql21 : (21 : Int32).toInt = 21 := by decide
  have r2 := rgI p0
  have t1 := modL (a := p0) (b := (21 : Int32)) ql21 (by omega)
  exact sRet ⟨(by show 0 ≤ (p0 % (21 : Int32)).toInt; omega), (by show (p0 % (21 : Int32)).toInt ≤ 20; omega), trivial⟩
set_option maxHeartbeats 2000000 in
theorem s_X2_codeOf {N K : Nat} {p0 : Int32} (hN : 2 ^ 40 ≤ N) (hK : 100 ≤ K) (hp0 : 0 ≤ p0.toInt) (hp1 : p0.toInt ≤ 2645) : Sf (fX2_codeOf N K p0) (fun (z : Int32) => 0 ≤ z.toInt ∧ z.toInt ≤ 6143 ∧ True) := by
  unfold fX2_codeOf
  have ql0 : (0 : Int32).toInt = 0 := by decide
  have ql32 : (32 : Int32).toInt = 32 := by decide
  have ql1024 : (1024 : Int32).toInt = 1024 := by decide
  have r1 := rgI p0
  refine sBind (s_X2_kindOf hN hK (by omega) (by omega)) (fun x1 b2 => ?_)
  obtain ⟨b2_0, b2_1, -⟩ := b2
  replace b2_0 : 0 ≤ x1.toInt := b2_0
  replace b2_1 : x1.toInt ≤ 5 := b2_1
  refine sBind (s_X2_numberOf hN hK (by omega) (by omega)) (fun x9 b3 => ?_)
  obtain ⟨b3_0, b3_1, -⟩ := b3
  replace b3_0 : 0 ≤ x9.toInt := b3_0
  replace b3_1 : x9.toInt ≤ 20 := b3_1
  refine sBind (s_X2_measureOf hN hK (by omega) (by omega)) (fun x17 b4 => ?_)
  obtain ⟨b4_0, b4_1, -⟩ := b4
  replace b4_0 : 0 ≤ x17.toInt := b4_0
  replace b4_1 : x17.toInt ≤ 20 := b4_1
  have r8 := rgI x1
  have t7 := mulR (a := x1) (b := (1024 : Int32)) ql1024 (by omega) (by omega)
  have r10 := rgI x9
  have t9 := mulR (a := x9) (b := (32 : Int32)) ql32 (by omega) (by omega)
  have t6 := addI (a := (x1 * (1024 : Int32))) (b := (x9 * (32 : Int32))) (by omega) (by omega)
  have r11 := rgI x17
  have t5 := addI (a := ((x1 * (1024 : Int32)) + (x9 * (32 : Int32)))) (b := x17) (by omega) (by omega)
  exact sRet ⟨(by show 0 ≤ (((x1 * (1024 : Int32)) + (x9 * (32 : Int32))) + x17).toInt; omega), (by show (((x1 * (1024 : Int32)) + (x9 * (32 : Int32))) + x17).toInt ≤ 6143; omega), trivial⟩
set_option maxHeartbeats 2000000 in
theorem s_X2_size {N K : Nat} {sz : Int32} {f : Nat → Int32} (hN : 2 ^ 40 ≤ N) (hK : 100 ≤ K)  : Sf (fX2_size N K sz f) (fun (z : Int32) => True) := by
  unfold fX2_size
  have ql0 : (0 : Int32).toInt = 0 := by decide
  have r1 := rgI sz
  exact sRet ⟨trivial⟩
set_option maxHeartbeats 2000000 in
theorem s_X2_keptWorth {N K : Nat} {sz : Int32} {f : Nat → Int32} {p0 : Int32} {p1 : Int32} {p2 : Int32} (hN : 2 ^ 40 ≤ N) (hK : 100 ≤ K) (hp0 : 0 ≤ p0.toInt) (hp1 : p0.toInt ≤ 5) (hp2 : 0 ≤ p1.toInt) (hp3 : p1.toInt ≤ 20) (hp4 : 0 ≤ p2.toInt) (hp5 : p2.toInt ≤ 20) : Sf (fX2_keptWorth N K sz f p0 p1 p2) (fun (z : Int32) => True) := by
  unfold fX2_keptWorth
  have qlm1 : (-1 : Int32).toInt = -1 := by decide
  have ql0 : (0 : Int32).toInt = 0 := by decide
  have r1 := rgI p0
  have r2 := rgI p1
  have r3 := rgI p2
  refine sBind (s_X2_slotOf hN hK (by omega) (by omega) (by omega)) (fun x3 b4 => ?_)
  obtain ⟨b4_0, b4_1, -⟩ := b4
  replace b4_0 : -1 ≤ x3.toInt := b4_0
  replace b4_1 : x3.toInt ≤ 2645 := b4_1
  refine sIf (fun h5 => ?_) (fun h5 => ?_)
  · have r6 := rgI x3
    have fh5 := eqT h5
    exact sRet ⟨trivial⟩
  · have r7 := rgI x3
    have fh5 := eqF h5
    refine sIfF (noob (by omega) (by omega)) ?_
    have r8 := rgI (f x3.toNatClampNeg)
    exact sRet ⟨trivial⟩
set_option maxHeartbeats 2000000 in
theorem s_X2_keeps {N K : Nat} {sz : Int32} {f : Nat → Int32} {p0 : Int32} {p1 : Int32} {p2 : Int32} (hN : 2 ^ 40 ≤ N) (hK : 100 ≤ K) (hp0 : 0 ≤ p0.toInt) (hp1 : p0.toInt ≤ 5) (hp2 : 0 ≤ p1.toInt) (hp3 : p1.toInt ≤ 20) (hp4 : 0 ≤ p2.toInt) (hp5 : p2.toInt ≤ 20) : Sf (fX2_keeps N K sz f p0 p1 p2) (fun (z : Int32) => 0 ≤ z.toInt ∧ z.toInt ≤ 1 ∧ True) := by
  unfold fX2_keeps
  have qlm1 : (-1 : Int32).toInt = -1 := by decide
  have ql0 : (0 : Int32).toInt = 0 := by decide
  have ql1 : (1 : Int32).toInt = 1 := by decide
  have r1 := rgI sz
  have r2 := rgI p0
  have r3 := rgI p1
  have r4 := rgI p2
  refine sBind (s_X2_keptWorth hN hK (by omega) (by omega) (by omega) (by omega) (by omega) (by omega)) (fun x4 b5 => ?_)
  refine sIf (fun h6 => ?_) (fun h6 => ?_)
  · have r7 := rgI x4
    have fh6 := eqT h6
    exact sRet ⟨(by show 0 ≤ (0 : Int32).toInt; omega), (by show (0 : Int32).toInt ≤ 1; omega), trivial⟩
  · have r8 := rgI x4
    have fh6 := eqF h6
    exact sRet ⟨(by show 0 ≤ (1 : Int32).toInt; omega), (by show (1 : Int32).toInt ≤ 1; omega), trivial⟩
set_option maxHeartbeats 2000000 in
theorem s_X2_keepsWith {N K : Nat} {sz : Int32} {f : Nat → Int32} {p0 : Int32} {p1 : Int32} {p2 : Int32} {p3 : Int32} (hN : 2 ^ 40 ≤ N) (hK : 100 ≤ K) (hp0 : 0 ≤ p0.toInt) (hp1 : p0.toInt ≤ 5) (hp2 : 0 ≤ p1.toInt) (hp3 : p1.toInt ≤ 20) (hp4 : 0 ≤ p2.toInt) (hp5 : p2.toInt ≤ 20) : Sf (fX2_keepsWith N K sz f p0 p1 p2 p3) (fun (z : Int32) => 0 ≤ z.toInt ∧ z.toInt ≤ 1 ∧ True) := by
  unfold fX2_keepsWith
  have ql0 : (0 : Int32).toInt = 0 := by decide
  have ql1 : (1 : Int32).toInt = 1 := by decide
  have r1 := rgI sz
  have r2 := rgI p0
  have r3 := rgI p1
  have r4 := rgI p2
  refine sBind (s_X2_keeps hN hK (by omega) (by omega) (by omega) (by omega) (by omega) (by omega)) (fun x4 b5 => ?_)
  obtain ⟨b5_0, b5_1, -⟩ := b5
  replace b5_0 : 0 ≤ x4.toInt := b5_0
  replace b5_1 : x4.toInt ≤ 1 := b5_1
  refine sIf (fun h6 => ?_) (fun h6 => ?_)
  · have r7 := rgI x4
    have fh6 := eqT h6
    exact sRet ⟨(by show 0 ≤ (0 : Int32).toInt; omega), (by show (0 : Int32).toInt ≤ 1; omega), trivial⟩
  · have r8 := rgI x4
    have fh6 := eqF h6
    refine sBind (s_X2_keptWorth hN hK (by omega) (by omega) (by omega) (by omega) (by omega) (by omega)) (fun x14 b9 => ?_)
    refine sIf (fun h10 => ?_) (fun h10 => ?_)
    · have r11 := rgI x14
      have r12 := rgI p3
      have fh10 := eqT h10
      exact sRet ⟨(by show 0 ≤ (1 : Int32).toInt; omega), (by show (1 : Int32).toInt ≤ 1; omega), trivial⟩
    · have r13 := rgI x14
      have r14 := rgI p3
      have fh10 := eqF h10
      exact sRet ⟨(by show 0 ≤ (0 : Int32).toInt; omega), (by show (0 : Int32).toInt ≤ 1; omega), trivial⟩
set_option maxHeartbeats 2000000 in
theorem s_X2_keep {N K : Nat} {sz : Int32} {f : Nat → Int32} {p0 : Int32} {p1 : Int32} {p2 : Int32} {p3 : Int32} (hN : 2 ^ 40 ≤ N) (hK : 100 ≤ K) (hp0 : 0 ≤ p0.toInt) (hp1 : p0.toInt ≤ 5) (hp2 : 0 ≤ p1.toInt) : Sf (fX2_keep N K sz f p0 p1 p2 p3) (fun (z : Int32 × (Nat → Int32)) => True) := by
  unfold fX2_keep
  have qlm1 : (-1 : Int32).toInt = -1 := by decide
  have ql0 : (0 : Int32).toInt = 0 := by decide
  have r1 := rgI p0
  have r2 := rgI p1
  have r3 := rgI p2
  refine sBind (s_X2_slotOf hN hK (by omega) (by omega) (by omega)) (fun x3 b4 => ?_)
  obtain ⟨b4_0, b4_1, -⟩ := b4
  replace b4_0 : -1 ≤ x3.toInt := b4_0
  replace b4_1 : x3.toInt ≤ 2645 := b4_1
  refine sIf (fun h5 => ?_) (fun h5 => ?_)
  · have r6 := rgI x3
    have fh5 := eqT h5
    have r7 := rgI sz
    exact sRet ⟨trivial⟩
  · have r8 := rgI x3
    have fh5 := eqF h5
    refine sIfF (noob (by omega) (by omega)) ?_
    refine sIf (fun h9 => ?_) (fun h9 => ?_)
    · have r10 := rgI (f x3.toNatClampNeg)
      have fh9 := eqT h9
      refine sIfF (noob (by omega) (by omega)) ?_
      have r11 := rgI (sz + (1 : Int32))
      exact sRet ⟨trivial⟩
    · have r12 := rgI (f x3.toNatClampNeg)
      have fh9 := eqF h9
      refine sIfF (noob (by omega) (by omega)) ?_
      have r13 := rgI sz
      exact sRet ⟨trivial⟩
set_option maxHeartbeats 2000000 in
theorem s_X2_drop {N K : Nat} {sz : Int32} {f : Nat → Int32} {p0 : Int32} {p1 : Int32} {p2 : Int32} (hN : 2 ^ 40 ≤ N) (hK : 100 ≤ K) (hp0 : 0 ≤ p0.toInt) (hp1 : p0.toInt ≤ 5) (hp2 : 0 ≤ p1.toInt) (hp3 : p1.toInt ≤ 20) (hp4 : 0 ≤ p2.toInt) (hp5 : p2.toInt ≤ 20) : Sf (fX2_drop N K sz f p0 p1 p2) (fun (z : Int32 × (Nat → Int32)) => True) := by
  unfold fX2_drop
  have qlm1 : (-1 : Int32).toInt = -1 := by decide
  have ql0 : (0 : Int32).toInt = 0 := by decide
  have r1 := rgI p0
  have r2 := rgI p1
  have r3 := rgI p2
  refine sBind (s_X2_slotOf hN hK (by omega) (by omega) (by omega)) (fun x3 b4 => ?_)
  obtain ⟨b4_0, b4_1, -⟩ := b4
  replace b4_0 : -1 ≤ x3.toInt := b4_0
  replace b4_1 : x3.toInt ≤ 2645 := b4_1
  refine sIf (fun h5 => ?_) (fun h5 => ?_)
  · have r6 := rgI x3
    have fh5 := eqT h5
    have r7 := rgI sz
    exact sRet ⟨trivial⟩
  · have r8 := rgI x3
    have fh5 := eqF h5
    refine sIfF (noob (by omega) (by omega)) ?_
    refine sIf (fun h9 => ?_) (fun h9 => ?_)
    · have r10 := rgI (f x3.toNatClampNeg)
      have fh9 := eqT h9
      have r11 := rgI sz
      exact sRet ⟨trivial⟩
    · have r12 := rgI (f x3.toNatClampNeg)
      have fh9 := eqF h9
      refine sIfF (noob (by omega) (by omega)) ?_
      have r13 := rgI (sz - (1 : Int32))
      exact sRet ⟨trivial⟩
set_option maxHeartbeats 2000000 in
theorem s_X2_aspect {N K : Nat} {sz : Int32} {f : Nat → Int32} {p0 : Int32} {p1 : Int32} (hN : 2 ^ 40 ≤ N) (hK : 100 ≤ K) (hp0 : 0 ≤ p0.toInt) (hp1 : p0.toInt ≤ 2645) (hp2 : 0 ≤ p1.toInt) (hp3 : p1.toInt ≤ 3) : Sf (fX2_aspect N K sz f p0 p1) (fun (z : Int32) => True) := by
  unfold fX2_aspect
  have ql0 : (0 : Int32).toInt = 0 := by decide
  have ql1 : (1 : Int32).toInt = 1 := by decide
  have ql2 : (2 : Int32).toInt = 2 := by decide
  have ql2646 : (2646 : Int32).toInt = 2646 := by decide
  refine sIf (fun h1 => ?_) (fun h1 => ?_)
  · have r2 := rgI p1
    have fh1 := eqT h1
    have r3 := rgI p0
    refine sBind (s_X2_kindOf hN hK (by omega) (by omega)) (fun x29 b4 => ?_)
    obtain ⟨b4_0, b4_1, -⟩ := b4
    replace b4_0 : 0 ≤ x29.toInt := b4_0
    replace b4_1 : x29.toInt ≤ 5 := b4_1
    have r5 := rgI x29
    exact sRet ⟨trivial⟩
  · have r6 := rgI p1
    have fh1 := eqF h1
    refine sIf (fun h7 => ?_) (fun h7 => ?_)
    · have fh7 := eqT h7
      have r8 := rgI p0
      refine sBind (s_X2_numberOf hN hK (by omega) (by omega)) (fun x34 b9 => ?_)
      obtain ⟨b9_0, b9_1, -⟩ := b9
      replace b9_0 : 0 ≤ x34.toInt := b9_0
      replace b9_1 : x34.toInt ≤ 20 := b9_1
      have r10 := rgI x34
      exact sRet ⟨trivial⟩
    · have fh7 := eqF h7
      refine sIf (fun h11 => ?_) (fun h11 => ?_)
      · have fh11 := eqT h11
        have r12 := rgI p0
        refine sBind (s_X2_measureOf hN hK (by omega) (by omega)) (fun x39 b13 => ?_)
        obtain ⟨b13_0, b13_1, -⟩ := b13
        replace b13_0 : 0 ≤ x39.toInt := b13_0
        replace b13_1 : x39.toInt ≤ 20 := b13_1
        have r14 := rgI x39
        exact sRet ⟨trivial⟩
      · have fh11 := eqF h11
        refine sIf (fun h15 => ?_) (fun h15 => ?_)
        · have r16 := rgI p0
          have fh15 := ltT h15
          exfalso; omega
        · have r17 := rgI p0
          have fh15 := ltF h15
          refine sIf (fun h18 => ?_) (fun h18 => ?_)
          · have fh18 := ltT h18
            refine sIfF (noob (by omega) (by omega)) ?_
            have r19 := rgI (f p0.toNatClampNeg)
            exact sRet ⟨trivial⟩
          · have fh18 := ltF h18
            exfalso; omega
set_option maxHeartbeats 2000000 in
theorem s_X2_dropEach_46 {N K : Nat} {sz : Int32} {f : Nat → Int32} {p0 : Int32} {p1 : Int32} (hN : 2 ^ 40 ≤ N) (hK : 100 ≤ K) (hp0 : 0 ≤ p0.toInt) (hp1 : p0.toInt ≤ 3) {k_5 : Int32 → Int32 → Int32 → (Nat → Int32) → Option (Int32 × Int32 × (Nat → Int32))} {m_5 : Nat} (hk_5 : ∀ (l3 : Int32) (l4 : Int32) (sz_ : Int32) (f_ : (Nat → Int32)), (2646 - l4.toInt).toNat < m_5 → 0 ≤ l4.toInt → l4.toInt ≤ 2646 → Sf (k_5 l3 l4 sz_ f_) (fun (z : Int32 × Int32 × (Nat → Int32)) => True)) : ∀ (l3 : Int32) (l4 : Int32) (sz_ : Int32) (f_ : Nat → Int32), 0 ≤ l4.toInt → l4.toInt ≤ 2645 → (2646 - l4.toInt).toNat ≤ m_5 → Sf (fX2_dropEach_46 N K sz f p0 p1 k_5 l3 l4 sz_ f_) (fun (z : Int32 × Int32 × (Nat → Int32)) => True) := by
  intro l3 l4 sz_ f_ hq0 hq1 hq2
  unfold fX2_dropEach_46
  have ql0 : (0 : Int32).toInt = 0 := by decide
  have ql1 : (1 : Int32).toInt = 1 := by decide
  have r1 := rgI l3
  have r3 := rgI l4
  have t2 := addI (a := l4) (b := (1 : Int32)) (by omega) (by omega)
  have r4 := rgI sz_
  exact hk_5 _ _ _ _ (by omega) (by omega) (by omega)
set_option maxHeartbeats 2000000 in
theorem s_X2_dropEach_5 {N K : Nat} {sz : Int32} {f : Nat → Int32} {p0 : Int32} {p1 : Int32} (hN : 2 ^ 40 ≤ N) (hK : 100 ≤ K) (hp0 : 0 ≤ p0.toInt) (hp1 : p0.toInt ≤ 3) : ∀ (fu : Nat) (l3 : Int32) (l4 : Int32) (sz_ : Int32) (f_ : (Nat → Int32)), (2646 - l4.toInt).toNat < fu → 0 ≤ l4.toInt → l4.toInt ≤ 2646 → Sf (fX2_dropEach_5 N K sz f p0 p1  fu l3 l4 sz_ f_) (fun (z : Int32 × Int32 × (Nat → Int32)) => True) := by
  intro fu
  induction fu with
  | zero => intro l3 l4 sz_ f_ h0 hq0 hq1; omega
  | succ fu ih =>
    intro l3 l4 sz_ f_ h0 hq0 hq1
    unfold fX2_dropEach_5
    have qlm1 : (-1 : Int32).toInt = -1 := by decide
    have ql0 : (0 : Int32).toInt = 0 := by decide
    have ql2646 : (2646 : Int32).toInt = 2646 := by decide
    refine sIf (fun h1 => ?_) (fun h1 => ?_)
    · have r2 := rgI l4
      have fh1 := leT h1
      have r3 := rgI l3
      have r4 := rgI (sz_ - l3)
      exact sRet ⟨trivial⟩
    · have r5 := rgI l4
      have fh1 := leF h1
      refine sIfF (noob (by omega) (by omega)) ?_
      refine sIf (fun h6 => ?_) (fun h6 => ?_)
      · have r7 := rgI (f_ l4.toNatClampNeg)
        have fh6 := eqT h6
        have r8 := rgI l3
        have r9 := rgI sz_
        exact s_X2_dropEach_46 (hk_5 := ih) hN hK (by omega) (by omega) _ _ _ _ (by omega) (by omega) (by omega)
      · have r10 := rgI (f_ l4.toNatClampNeg)
        have fh6 := eqF h6
        have r11 := rgI sz_
        have r12 := rgI p0
        refine sBind (s_X2_aspect hN hK (by omega) (by omega) (by omega) (by omega)) (fun x28 b13 => ?_)
        refine sIf (fun h14 => ?_) (fun h14 => ?_)
        · have r15 := rgI x28
          have r16 := rgI p1
          have fh14 := eqT h14
          refine sIfF (noob (by omega) (by omega)) ?_
          have r17 := rgI (l3 + (1 : Int32))
          exact s_X2_dropEach_46 (hk_5 := ih) hN hK (by omega) (by omega) _ _ _ _ (by omega) (by omega) (by omega)
        · have r18 := rgI x28
          have r19 := rgI p1
          have fh14 := eqF h14
          have r20 := rgI l3
          exact s_X2_dropEach_46 (hk_5 := ih) hN hK (by omega) (by omega) _ _ _ _ (by omega) (by omega) (by omega)
set_option maxHeartbeats 2000000 in
theorem s_X2_dropEach {N K : Nat} {sz : Int32} {f : Nat → Int32} {p0 : Int32} {p1 : Int32} (hN : 2 ^ 40 ≤ N) (hK : 100 ≤ K) (hp0 : 0 ≤ p0.toInt) (hp1 : p0.toInt ≤ 3) : Sf (fX2_dropEach N K sz f p0 p1) (fun (z : Int32 × Int32 × (Nat → Int32)) => True) := by
  unfold fX2_dropEach
  have ql0 : (0 : Int32).toInt = 0 := by decide
  have r1 := rgI sz
  exact s_X2_dropEach_5  hN hK (by omega) (by omega) _ _ _ _ _ (by omega) (by omega) (by omega)
set_option maxHeartbeats 2000000 in
theorem s_X2_dropAll {N K : Nat} {sz : Int32} {f : Nat → Int32} (hN : 2 ^ 40 ≤ N) (hK : 100 ≤ K)  : Sf (fX2_dropAll N K sz f) (fun (z : Int32 × Int32 × (Nat → Int32)) => 0 ≤ z.2.1.toInt ∧ z.2.1.toInt ≤ 0 ∧ True) := by
  unfold fX2_dropAll
  have qlm1 : (-1 : Int32).toInt = -1 := by decide
  have ql0 : (0 : Int32).toInt = 0 := by decide
  refine sBind (s_J_fill hN hK (by omega) (by omega)) (fun x10 b1 => ?_)
  have r2 := rgI sz
  exact sRet ⟨(by show 0 ≤ (0 : Int32).toInt; omega), (by show (0 : Int32).toInt ≤ 0; omega), trivial⟩
set_option maxHeartbeats 2000000 in
theorem s_X2_howMany_38 {N K : Nat} {sz : Int32} {f : Nat → Int32} {p0 : Int32} {p1 : Int32} (hN : 2 ^ 40 ≤ N) (hK : 100 ≤ K) (hp0 : 0 ≤ p0.toInt) (hp1 : p0.toInt ≤ 3) {k_5 : Int32 → Int32 → Option (Int32)} {m_5 : Nat} (hk_5 : ∀ (l3 : Int32) (l4 : Int32), (2646 - l4.toInt).toNat < m_5 → 0 ≤ l4.toInt → l4.toInt ≤ 2646 → Sf (k_5 l3 l4) (fun (z : Int32) => True)) : ∀ (l3 : Int32) (l4 : Int32), 0 ≤ l4.toInt → l4.toInt ≤ 2645 → (2646 - l4.toInt).toNat ≤ m_5 → Sf (fX2_howMany_38 N K sz f p0 p1 k_5 l3 l4) (fun (z : Int32) => True) := by
  intro l3 l4 hq0 hq1 hq2
  unfold fX2_howMany_38
  have ql0 : (0 : Int32).toInt = 0 := by decide
  have ql1 : (1 : Int32).toInt = 1 := by decide
  have r1 := rgI l3
  have r3 := rgI l4
  have t2 := addI (a := l4) (b := (1 : Int32)) (by omega) (by omega)
  exact hk_5 _ _ (by omega) (by omega) (by omega)
set_option maxHeartbeats 2000000 in
theorem s_X2_howMany_5 {N K : Nat} {sz : Int32} {f : Nat → Int32} {p0 : Int32} {p1 : Int32} (hN : 2 ^ 40 ≤ N) (hK : 100 ≤ K) (hp0 : 0 ≤ p0.toInt) (hp1 : p0.toInt ≤ 3) : ∀ (fu : Nat) (l3 : Int32) (l4 : Int32), (2646 - l4.toInt).toNat < fu → 0 ≤ l4.toInt → l4.toInt ≤ 2646 → Sf (fX2_howMany_5 N K sz f p0 p1  fu l3 l4) (fun (z : Int32) => True) := by
  intro fu
  induction fu with
  | zero => intro l3 l4 h0 hq0 hq1; omega
  | succ fu ih =>
    intro l3 l4 h0 hq0 hq1
    unfold fX2_howMany_5
    have qlm1 : (-1 : Int32).toInt = -1 := by decide
    have ql0 : (0 : Int32).toInt = 0 := by decide
    have ql2646 : (2646 : Int32).toInt = 2646 := by decide
    refine sIf (fun h1 => ?_) (fun h1 => ?_)
    · have r2 := rgI l4
      have fh1 := leT h1
      have r3 := rgI l3
      exact sRet ⟨trivial⟩
    · have r4 := rgI l4
      have fh1 := leF h1
      refine sIfF (noob (by omega) (by omega)) ?_
      refine sIf (fun h5 => ?_) (fun h5 => ?_)
      · have r6 := rgI (f l4.toNatClampNeg)
        have fh5 := eqT h5
        have r7 := rgI l3
        exact s_X2_howMany_38 (hk_5 := ih) hN hK (by omega) (by omega) _ _ (by omega) (by omega) (by omega)
      · have r8 := rgI (f l4.toNatClampNeg)
        have fh5 := eqF h5
        have r9 := rgI sz
        have r10 := rgI p0
        refine sBind (s_X2_aspect hN hK (by omega) (by omega) (by omega) (by omega)) (fun x28 b11 => ?_)
        refine sIf (fun h12 => ?_) (fun h12 => ?_)
        · have r13 := rgI x28
          have r14 := rgI p1
          have fh12 := eqT h12
          have r15 := rgI (l3 + (1 : Int32))
          exact s_X2_howMany_38 (hk_5 := ih) hN hK (by omega) (by omega) _ _ (by omega) (by omega) (by omega)
        · have r16 := rgI x28
          have r17 := rgI p1
          have fh12 := eqF h12
          have r18 := rgI l3
          exact s_X2_howMany_38 (hk_5 := ih) hN hK (by omega) (by omega) _ _ (by omega) (by omega) (by omega)
set_option maxHeartbeats 2000000 in
theorem s_X2_howMany {N K : Nat} {sz : Int32} {f : Nat → Int32} {p0 : Int32} {p1 : Int32} (hN : 2 ^ 40 ≤ N) (hK : 100 ≤ K) (hp0 : 0 ≤ p0.toInt) (hp1 : p0.toInt ≤ 3) : Sf (fX2_howMany N K sz f p0 p1) (fun (z : Int32) => True) := by
  unfold fX2_howMany
  have ql0 : (0 : Int32).toInt = 0 := by decide
  exact s_X2_howMany_5  hN hK (by omega) (by omega) _ _ _ (by omega) (by omega) (by omega)
set_option maxHeartbeats 2000000 in
theorem s_X2_mark_35 {N K : Nat} {sz : Int32} {f : Nat → Int32} (hN : 2 ^ 40 ≤ N) (hK : 100 ≤ K)  {k_4 : Int32 → Int32 → Option (Int32)} {m_4 : Nat} (hk_4 : ∀ (l1 : Int32) (l2 : Int32), (2646 - l2.toInt).toNat < m_4 → 0 ≤ l2.toInt → l2.toInt ≤ 2646 → Sf (k_4 l1 l2) (fun (z : Int32) => True)) : ∀ (l1 : Int32) (l2 : Int32), 0 ≤ l2.toInt → l2.toInt ≤ 2645 → (2646 - l2.toInt).toNat ≤ m_4 → Sf (fX2_mark_35 N K sz f k_4 l1 l2) (fun (z : Int32) => True) := by
  intro l1 l2 hq0 hq1 hq2
  unfold fX2_mark_35
  have ql0 : (0 : Int32).toInt = 0 := by decide
  have ql1 : (1 : Int32).toInt = 1 := by decide
  have r1 := rgI l1
  have r3 := rgI l2
  have t2 := addI (a := l2) (b := (1 : Int32)) (by omega) (by omega)
  exact hk_4 _ _ (by omega) (by omega) (by omega)
set_option maxHeartbeats 2000000 in
theorem s_X2_mark_4 {N K : Nat} {sz : Int32} {f : Nat → Int32} (hN : 2 ^ 40 ≤ N) (hK : 100 ≤ K)  : ∀ (fu : Nat) (l1 : Int32) (l2 : Int32), (2646 - l2.toInt).toNat < fu → 0 ≤ l2.toInt → l2.toInt ≤ 2646 → Sf (fX2_mark_4 N K sz f  fu l1 l2) (fun (z : Int32) => True) := by
  intro fu
  induction fu with
  | zero => intro l1 l2 h0 hq0 hq1; omega
  | succ fu ih =>
    intro l1 l2 h0 hq0 hq1
    unfold fX2_mark_4
    have qlm1 : (-1 : Int32).toInt = -1 := by decide
    have ql0 : (0 : Int32).toInt = 0 := by decide
    have ql2646 : (2646 : Int32).toInt = 2646 := by decide
    refine sIf (fun h1 => ?_) (fun h1 => ?_)
    · have r2 := rgI l2
      have fh1 := leT h1
      have r3 := rgI l1
      exact sRet ⟨trivial⟩
    · have r4 := rgI l2
      have fh1 := leF h1
      refine sIfF (noob (by omega) (by omega)) ?_
      refine sIf (fun h5 => ?_) (fun h5 => ?_)
      · have r6 := rgI (f l2.toNatClampNeg)
        have fh5 := eqT h5
        have r7 := rgI l1
        exact s_X2_mark_35 (hk_4 := ih) hN hK _ _ (by omega) (by omega) (by omega)
      · have r8 := rgI (f l2.toNatClampNeg)
        have fh5 := eqF h5
        refine sBind (s_X2_codeOf hN hK (by omega) (by omega)) (fun x23 b9 => ?_)
        obtain ⟨b9_0, b9_1, -⟩ := b9
        replace b9_0 : 0 ≤ x23.toInt := b9_0
        replace b9_1 : x23.toInt ≤ 6143 := b9_1
        refine sIfF (noob (by omega) (by omega)) ?_
        have r10 := rgI (l1 + (x23 ^^^ (f l2.toNatClampNeg)))
        exact s_X2_mark_35 (hk_4 := ih) hN hK _ _ (by omega) (by omega) (by omega)
