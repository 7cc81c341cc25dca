/-! ===== the checks of both sides ===== -/
def Rg (p a b : Int32) : Prop := a.toInt ≤ p.toInt ∧ p.toInt ≤ b.toInt
theorem Rg.n {p : Int32} {a b : Nat} (h : Rg p (Int32.ofNat a) (Int32.ofNat b)) (ha : a < 2147483648) (hb : b < 2147483648) : ∃ n : Nat, p = Int32.ofNat n ∧ a ≤ n ∧ n ≤ b := by
  obtain ⟨h1, h2⟩ := h
  rw [o_i ha] at h1
  rw [o_i hb] at h2
  exact o_of h1 h2
theorem Rg.dd {p : Int32} (h : Rg p 0 1) : ¬ (p < 0 ∨ 2 ≤ p.toNatClampNeg) := by
  have q0 : (0 : Int32).toInt = 0 := by decide
  have q1 : (1 : Int32).toInt = 1 := by decide
  obtain ⟨h1, h2⟩ := h
  exact noob (by omega) (by omega)
theorem Rg.mm {p : Int32} (h : Rg p 0 2) : ¬ (p < 0 ∨ 3 ≤ p.toNatClampNeg) := by
  have q0 : (0 : Int32).toInt = 0 := by decide
  have q1 : (2 : Int32).toInt = 2 := by decide
  obtain ⟨h1, h2⟩ := h
  exact noob (by omega) (by omega)
theorem xb_l {U V : Type} {a : U} {k : U → Option (V ⊕ String)} : xb (some (.inl a)) k = k a := rfl
theorem xb_r {U V : Type} {E : String} {k : U → Option (V ⊕ String)} : xb (some (.inr E)) k = some (.inr E) := rfl
theorem k_desk1 {N K : Nat} {p : Int32} (h : Rg p 0 1) : fX5_deskAt N K p = some (.inl ()) := by
  have q0 : (0 : Int32).toInt = 0 := by decide
  have q1 : (1 : Int32).toInt = 1 := by decide
  have q2 : (2 : Int32).toInt = 2 := by decide
  obtain ⟨h1, h2⟩ := h
  unfold fX5_deskAt
  rw [if_neg (by rw [Int32.lt_iff_toInt_lt]; omega), if_pos (by rw [Int32.lt_iff_toInt_lt]; omega), if_neg (noob (by omega) (by omega))]
theorem k_desk0 {N K : Nat} {p : Int32} (h : ¬ Rg p 0 1) : fX5_deskAt N K p = some (.inr "java/lang/IndexOutOfBoundsException") := by
  have q0 : (0 : Int32).toInt = 0 := by decide
  have q1 : (1 : Int32).toInt = 1 := by decide
  have q2 : (2 : Int32).toInt = 2 := by decide
  unfold fX5_deskAt
  by_cases e : p < 0
  · rw [if_pos e]; rfl
  · have e1 : ¬ (p.toInt < (0 : Int32).toInt) := fun z => e (Int32.lt_iff_toInt_lt.mpr z)
    rw [if_neg e, if_neg (fun z => h ⟨by omega, by have := Int32.lt_iff_toInt_lt.mp z; omega⟩)]
    rfl
theorem k_mem1 {N K : Nat} {p : Int32} (h : Rg p 0 2) : fX5_memoryAt N K p = some (.inl ()) := by
  have q0 : (0 : Int32).toInt = 0 := by decide
  have q1 : (2 : Int32).toInt = 2 := by decide
  have q2 : (3 : Int32).toInt = 3 := by decide
  obtain ⟨h1, h2⟩ := h
  unfold fX5_memoryAt
  rw [if_neg (by rw [Int32.lt_iff_toInt_lt]; omega), if_pos (by rw [Int32.lt_iff_toInt_lt]; omega), if_neg (noob (by omega) (by omega))]
theorem k_mem0 {N K : Nat} {p : Int32} (h : ¬ Rg p 0 2) : fX5_memoryAt N K p = some (.inr "java/lang/IndexOutOfBoundsException") := by
  have q0 : (0 : Int32).toInt = 0 := by decide
  have q1 : (2 : Int32).toInt = 2 := by decide
  have q2 : (3 : Int32).toInt = 3 := by decide
  unfold fX5_memoryAt
  by_cases e : p < 0
  · rw [if_pos e]; rfl
  · have e1 : ¬ (p.toInt < (0 : Int32).toInt) := fun z => e (Int32.lt_iff_toInt_lt.mpr z)
    rw [if_neg e, if_neg (fun z => h ⟨by omega, by have := Int32.lt_iff_toInt_lt.mp z; omega⟩)]
    rfl
theorem k_led1 {N K : Nat} {p : Int32} (h : Rg p 0 2) : fX5_ledgerAt N K p = some (.inl ()) := by
  have q0 : (0 : Int32).toInt = 0 := by decide
  have q1 : (2 : Int32).toInt = 2 := by decide
  have q2 : (3 : Int32).toInt = 3 := by decide
  obtain ⟨h1, h2⟩ := h
  unfold fX5_ledgerAt
  rw [if_neg (by rw [Int32.lt_iff_toInt_lt]; omega), if_pos (by rw [Int32.lt_iff_toInt_lt]; omega), if_neg (noob (by omega) (by omega))]
theorem k_led0 {N K : Nat} {p : Int32} (h : ¬ Rg p 0 2) : fX5_ledgerAt N K p = some (.inr "java/lang/IndexOutOfBoundsException") := by
  have q0 : (0 : Int32).toInt = 0 := by decide
  have q1 : (2 : Int32).toInt = 2 := by decide
  have q2 : (3 : Int32).toInt = 3 := by decide
  unfold fX5_ledgerAt
  by_cases e : p < 0
  · rw [if_pos e]; rfl
  · have e1 : ¬ (p.toInt < (0 : Int32).toInt) := fun z => e (Int32.lt_iff_toInt_lt.mpr z)
    rw [if_neg e, if_neg (fun z => h ⟨by omega, by have := Int32.lt_iff_toInt_lt.mp z; omega⟩)]
    rfl
theorem k_rng1 {N K : Nat} {p a b : Int32} (h : Rg p a b) : fX5_checkRange N K p a b = some (.inl ()) := by
  obtain ⟨h1, h2⟩ := h
  unfold fX5_checkRange
  rw [if_neg (by rw [Int32.lt_iff_toInt_lt]; omega), if_pos (by rw [Int32.le_iff_toInt_le]; omega)]
theorem k_rng0 {N K : Nat} {p a b : Int32} (h : ¬ Rg p a b) : fX5_checkRange N K p a b = some (.inr "java/lang/IllegalArgumentException") := by
  unfold fX5_checkRange
  by_cases e : p < a
  · rw [if_pos e]; rfl
  · have e1 : ¬ (p.toInt < a.toInt) := fun z => e (Int32.lt_iff_toInt_lt.mpr z)
    rw [if_neg e, if_neg (fun z => h ⟨by omega, Int32.le_iff_toInt_le.mp z⟩)]
    rfl
theorem m_in {N K : Nat} {p a b : Int32} (h : Rg p a b) : fX7_isNo N K p a b = some 0 := by
  obtain ⟨h1, h2⟩ := h
  unfold fX7_isNo
  rw [if_neg (by rw [Int32.lt_iff_toInt_lt]; omega), if_pos (by rw [Int32.le_iff_toInt_le]; omega)]
theorem m_out {N K : Nat} {p a b : Int32} (h : ¬ Rg p a b) : fX7_isNo N K p a b = some 1 := by
  unfold fX7_isNo
  by_cases e : p < a
  · rw [if_pos e]
  · have e1 : ¬ (p.toInt < a.toInt) := fun z => e (Int32.lt_iff_toInt_lt.mpr z)
    rw [if_neg e, if_neg (fun z => h ⟨by omega, Int32.le_iff_toInt_le.mp z⟩)]
theorem m_th00 {N K : Nat} {th : Int32} : fX7_isThrown N K th 0 0 = some (0, 0) := by
  unfold fX7_isThrown fX7_isThrown_18
  rw [if_pos rfl, if_pos rfl, if_pos (by decide)]
theorem m_th01 {N K : Nat} {th : Int32} : fX7_isThrown N K th 0 1 = some (1, 2) := by
  unfold fX7_isThrown fX7_isThrown_18
  rw [if_pos rfl, if_neg (by decide), if_neg (by decide)]
theorem m_th1 {N K : Nat} {th x : Int32} : fX7_isThrown N K th 1 x = some (1, 1) := by
  unfold fX7_isThrown fX7_isThrown_18
  rw [if_neg (by decide), if_neg (by decide)]
/-- what a refusal leaves of the tallies -/
def rf (t : Nat → Int32) : Nat → Int32 := upd t (4 : Int32).toNatClampNeg (t (4 : Int32).toNatClampNeg + (1 : Int32))
theorem m_done {N K : Nat} {th : Int32} {t : Nat → Int32} {p : Int32} : fX7_done N K th t p = some (p, dn t) := rfl
theorem m_ref {N K : Nat} {th : Int32} {t : Nat → Int32} : fX7_refused N K th t = some ((-9 : Int32), rf t) := rfl
theorem k_act {N K : Nat} {c0 c1 c2 c3 c4 c5 p : Int32} : fX5_acted N K c0 c1 c2 c3 c4 c5 p = some (p, c0 + (1 : Int32)) := rfl
theorem k_und {N K : Nat} {c0 c1 c2 c3 c4 c5 : Int32} : fX5_undone N K c0 c1 c2 c3 c4 c5 = some ((-9 : Int32), c4 + (1 : Int32)) := rfl
def DD (f g : Nat → Int32) : Prop := ∃ w, Dk f w ∧ Dk g w
/-- an outcome of the class beside the reference's thrown (b: whether an argument can be refused) -/
def Ti {U : Type} (b : Bool) (o : U ⊕ String) (th : Int32) (Q : U → Prop) (R : Prop) : Prop := match o with
  | .inl z => th = 0 ∧ Q z
  | .inr E => ((E = "java/lang/IndexOutOfBoundsException" ∧ th = 1) ∨ (b = true ∧ E = "java/lang/IllegalArgumentException" ∧ th = 2)) ∧ R
theorem upm_at {α : Type} {w : Nat → α} {p : Nat} {v : α} : upm w p v p = v := if_pos rfl
theorem upd_at {f : Nat → Int32} {p : Nat} {v : Int32} : upd f p v p = v := if_pos rfl
theorem wb_io {U T : Type} {kf : U → Option T} {k1 k2 : Option T} : wb (some (.inr "java/lang/IndexOutOfBoundsException")) kf k1 k2 = k1 := by
  show (if "java/lang/IndexOutOfBoundsException" = "java/lang/IndexOutOfBoundsException" then k1 else if "java/lang/IndexOutOfBoundsException" = "java/lang/IllegalArgumentException" then k2 else none) = k1
  rw [if_pos rfl]
theorem wb_ia {U T : Type} {kf : U → Option T} {k1 k2 : Option T} : wb (some (.inr "java/lang/IllegalArgumentException")) kf k1 k2 = k2 := by
  show (if "java/lang/IllegalArgumentException" = "java/lang/IndexOutOfBoundsException" then k1 else if "java/lang/IllegalArgumentException" = "java/lang/IllegalArgumentException" then k2 else none) = k2
  rw [if_neg (by decide), if_pos rfl]
theorem dd_upm {d e : Nat → Nat → Int32} {i : Nat} {v v' : Nat → Int32} (h : ∀ j, DD (d j) (e j)) (hv : DD v v') : ∀ j, DD (upm d i v j) (upm e i v' j) := by
  intro j
  unfold upm
  by_cases c : j = i
  · rw [if_pos c, if_pos c]; exact hv
  · rw [if_neg c, if_neg c]; exact h j
theorem dd_same {d e : Nat → Nat → Int32} {i : Nat} {v' : Nat → Int32} (h : ∀ j, DD (d j) (e j)) (hv : v' = e i) : ∀ j, DD (d j) (upm e i v' j) := by
  intro j
  unfold upm
  by_cases c : j = i
  · rw [if_pos c, hv, c]; exact h i
  · rw [if_neg c]; exact h j
/-- an outcome that may refuse an argument alone -/
def Tj {U : Type} (o : U ⊕ String) (th : Int32) (Q : U → Prop) : Prop := match o with
  | .inl z => th = 0 ∧ Q z
  | .inr E => E = "java/lang/IllegalArgumentException" ∧ th = 1
theorem k_any1 {N K : Nat} {p0 p1 p2 : Int32} (h0 : Rg p0 0 7) (h1 : Rg p1 0 20) (h2 : Rg p2 0 20) : fX5_checkAnyCase N K p0 p1 p2 = some (.inl ()) := by
  unfold fX5_checkAnyCase
  rw [k_rng1 h0, xb_l, k_rng1 h1, xb_l, k_rng1 h2, xb_l]
theorem k_any0 {N K : Nat} {p0 p1 p2 : Int32} (h : ¬ (Rg p0 0 7 ∧ Rg p1 0 20 ∧ Rg p2 0 20)) : fX5_checkAnyCase N K p0 p1 p2 = some (.inr "java/lang/IllegalArgumentException") := by
  unfold fX5_checkAnyCase
  by_cases h0 : Rg p0 0 7
  · by_cases h1 : Rg p1 0 20
    · have h2 : ¬ Rg p2 0 20 := fun z => h ⟨h0, h1, z⟩
      rw [k_rng1 h0, xb_l, k_rng1 h1, xb_l, k_rng0 h2, xb_r]
    · rw [k_rng1 h0, xb_l, k_rng0 h1, xb_r]
  · rw [k_rng0 h0, xb_r]
theorem ne1 {p : Prop} (h : (1 : Int32) = 0) : p := absurd h (by decide)
theorem ne2 {p : Prop} (h : (2 : Int32) = 0) : p := absurd h (by decide)
/-- counts and tallies stay alike -/
def KT (c0 c1 c2 c3 c4 : Int32) (t : Nat → Int32) (d0 d1 d2 d3 d4 : Int32) (t' : Nat → Int32) : Prop := c0 = t 0 → c1 = t 1 → c2 = t 2 → c3 = t 3 → c4 = t 4 → (d0 = t' 0 ∧ d1 = t' 1 ∧ d2 = t' 2 ∧ d3 = t' 3 ∧ d4 = t' 4 ∧ t' 5 = t 5)
theorem KT.done {c0 c1 c2 c3 c4 : Int32} {t : Nat → Int32} : KT c0 c1 c2 c3 c4 t (c0 + (1 : Int32)) c1 c2 c3 c4 (dn t) := by
  intro h0 h1 h2 h3 h4
  unfold dn upd
  have q : (0 : Int32).toNatClampNeg = 0 := by decide
  rw [q, if_pos rfl, if_neg (by decide), if_neg (by decide), if_neg (by decide), if_neg (by decide), if_neg (by decide), h0]
  exact ⟨rfl, h1, h2, h3, h4, rfl⟩
theorem KT.refu {c0 c1 c2 c3 c4 : Int32} {t : Nat → Int32} : KT c0 c1 c2 c3 c4 t c0 c1 c2 c3 (c4 + (1 : Int32)) (rf t) := by
  intro h0 h1 h2 h3 h4
  unfold rf upd
  have q : (4 : Int32).toNatClampNeg = 4 := by decide
  rw [q, if_neg (by decide), if_neg (by decide), if_neg (by decide), if_neg (by decide), if_pos rfl, if_neg (by decide), h4]
  exact ⟨h0, h1, h2, h3, rfl, rfl⟩
theorem KT.same {c0 c1 c2 c3 c4 : Int32} {t : Nat → Int32} : KT c0 c1 c2 c3 c4 t c0 c1 c2 c3 c4 t := fun h0 h1 h2 h3 h4 => ⟨h0, h1, h2, h3, h4, rfl⟩
theorem KT.trans {c0 c1 c2 c3 c4 d0 d1 d2 d3 d4 e0 e1 e2 e3 e4 : Int32} {t t' t'' : Nat → Int32} (h : KT c0 c1 c2 c3 c4 t d0 d1 d2 d3 d4 t') (g : KT d0 d1 d2 d3 d4 t' e0 e1 e2 e3 e4 t'') : KT c0 c1 c2 c3 c4 t e0 e1 e2 e3 e4 t'' := by
  intro h0 h1 h2 h3 h4
  obtain ⟨a0, a1, a2, a3, a4, a5⟩ := h h0 h1 h2 h3 h4
  obtain ⟨b0, b1, b2, b3, b4, b5⟩ := g a0 a1 a2 a3 a4
  exact ⟨b0, b1, b2, b3, b4, b5.trans a5⟩
