/-! ===== the worths of cases: legs, what is known, what is reached ===== -/
def ln (k w : Nat) (x : Int) (m : Nat) : Int := if w = 1 ∨ k = 5 then x - m else if k = 1 then x - 1 else x
def lm (k w m : Nat) : Nat := if (w = 0 ∧ k = 5) ∨ (w = 1 ∧ (k = 0 ∨ k = 1 ∨ k = 3)) then m else m - 1
def hl (k w m : Nat) : Bool := decide (w = 0 ∨ m % 2 = 1 ∨ (k ≠ 3 ∧ k ≠ 4))
def rs (x : Int) (m : Nat) : Bool := decide (x ≤ 0 ∨ m = 0)
def rv (k : Nat) (x : Int) (m : Nat) : Int32 := if x = 0 ∧ (m = 0 ∨ (k ≠ 1 ∧ k ≠ 5)) then 1 else 0
theorem rs_f {x : Int} {m : Nat} (h : ¬ rs x m = true) : 1 ≤ x ∧ 1 ≤ m := by
  unfold rs at h
  have h2 : ¬ (x ≤ 0 ∨ m = 0) := fun z => h (decide_eq_true z)
  omega
theorem rs_t {x : Int} {m : Nat} (h : rs x m = true) : x ≤ 0 ∨ m = 0 := of_decide_eq_true h
theorem rs_n {x : Int} {m : Nat} (h1 : 1 ≤ x) (h2 : 1 ≤ m) : ¬ rs x m = true := by
  intro h
  have := rs_t h
  omega
theorem leg_lt {k w m : Nat} {x : Int} (hw : w < 2) (h : ¬ rs x m = true) : (ln k w x m).toNat + lm k w m < x.toNat + m := by
  obtain ⟨h1, h2⟩ := rs_f h
  unfold ln lm
  have hw2 : w = 0 ∨ w = 1 := by omega
  rcases hw2 with rfl | rfl
  · by_cases k5 : k = 5
    · rw [if_pos (Or.inr k5), if_pos (Or.inl ⟨rfl, k5⟩)]; omega
    · rw [if_neg (show ¬ (0 = 1 ∨ k = 5) from by omega), if_neg (show ¬ ((0 = 0 ∧ k = 5) ∨ (0 = 1 ∧ (k = 0 ∨ k = 1 ∨ k = 3))) from by omega)]
      by_cases k1 : k = 1
      · rw [if_pos k1]; omega
      · rw [if_neg k1]; omega
  · rw [if_pos (Or.inl rfl)]
    by_cases e : (1 = 0 ∧ k = 5) ∨ (1 = 1 ∧ (k = 0 ∨ k = 1 ∨ k = 3))
    · rw [if_pos e]; omega
    · rw [if_neg e]; omega
theorem leg_bd {k w m : Nat} {x : Int} (hx : x ≤ 20) (hm : m ≤ 20) (h : ¬ rs x m = true) : ln k w x m ≤ 20 ∧ -20 ≤ ln k w x m ∧ lm k w m ≤ 20 := by
  obtain ⟨h1, h2⟩ := rs_f h
  refine ⟨?_, ?_, ?_⟩
  · unfold ln
    by_cases e : w = 1 ∨ k = 5
    · rw [if_pos e]; omega
    · rw [if_neg e]
      by_cases e2 : k = 1
      · rw [if_pos e2]; omega
      · rw [if_neg e2]; exact hx
  · unfold ln
    by_cases e : w = 1 ∨ k = 5
    · rw [if_pos e]; omega
    · rw [if_neg e]
      by_cases e2 : k = 1
      · rw [if_pos e2]; omega
      · rw [if_neg e2]; omega
  · unfold lm
    by_cases e : (w = 0 ∧ k = 5) ∨ (w = 1 ∧ (k = 0 ∨ k = 1 ∨ k = 3))
    · rw [if_pos e]; exact hm
    · rw [if_neg e]; omega
/-- the worth that a table tells: its own, or its legs' -/
def V (T : Nat → Nat → Int32) (k : Nat) : Nat → Int → Nat → Int32
  | 0, _, _ => 0
  | d + 1, x, m => if rs x m = true then rv k x m else if T x.toNat m = -1 then V T k d (ln k 0 x m) (lm k 0 m) + (if hl k 1 m = true then V T k d (ln k 1 x m) (lm k 1 m) else 0) else T x.toNat m
theorem V_s {T : Nat → Nat → Int32} {k d m : Nat} {x : Int} : V T k (d + 1) x m = if rs x m = true then rv k x m else if T x.toNat m = -1 then V T k d (ln k 0 x m) (lm k 0 m) + (if hl k 1 m = true then V T k d (ln k 1 x m) (lm k 1 m) else 0) else T x.toNat m := rfl
theorem V_st {T : Nat → Nat → Int32} {k : Nat} : ∀ d (x : Int) m, x.toNat + m < d → V T k d x m = V T k (d + 1) x m := by
  intro d
  induction d with
  | zero => intro x m h; omega
  | succ d ih =>
    intro x m h
    rw [V_s (d := d), V_s (d := d + 1)]
    by_cases r : rs x m = true
    · rw [if_pos r, if_pos r]
    · have l0 := leg_lt (k := k) (w := 0) (by omega) r
      have l1 := leg_lt (k := k) (w := 1) (by omega) r
      rw [if_neg r, if_neg r, ih _ _ (show (ln k 0 x m).toNat + lm k 0 m < d by omega), ih _ _ (show (ln k 1 x m).toNat + lm k 1 m < d by omega)]
def VV (T : Nat → Nat → Int32) (k : Nat) (x : Int) (m : Nat) : Int32 := V T k 60 x m
theorem VV_eq {T : Nat → Nat → Int32} {k m : Nat} {x : Int} (hx : x ≤ 20) (hm : m ≤ 20) : VV T k x m = if rs x m = true then rv k x m else if T x.toNat m = -1 then VV T k (ln k 0 x m) (lm k 0 m) + (if hl k 1 m = true then VV T k (ln k 1 x m) (lm k 1 m) else 0) else T x.toNat m := by
  unfold VV
  rw [V_s (d := 59)]
  by_cases r : rs x m = true
  · rw [if_pos r, if_pos r]
  · have l0 := leg_lt (k := k) (w := 0) (by omega) r
    have l1 := leg_lt (k := k) (w := 1) (by omega) r
    rw [if_neg r, if_neg r, V_st 59 _ _ (show (ln k 0 x m).toNat + lm k 0 m < 59 by omega), V_st 59 _ _ (show (ln k 1 x m).toNat + lm k 1 m < 59 by omega)]
/-- what is reached from a case through cases that the table doesn't keep -/
def R (T : Nat → Nat → Int32) (k : Nat) : Nat → Int → Nat → Nat → Nat → Prop
  | 0, _, _, _, _ => False
  | d + 1, x, m, p, q => ¬ rs x m = true ∧ T x.toNat m = -1 ∧ ((x.toNat = p ∧ m = q) ∨ R T k d (ln k 0 x m) (lm k 0 m) p q ∨ (hl k 1 m = true ∧ R T k d (ln k 1 x m) (lm k 1 m) p q))
theorem R_s {T : Nat → Nat → Int32} {k d m p q : Nat} {x : Int} : R T k (d + 1) x m p q = (¬ rs x m = true ∧ T x.toNat m = -1 ∧ ((x.toNat = p ∧ m = q) ∨ R T k d (ln k 0 x m) (lm k 0 m) p q ∨ (hl k 1 m = true ∧ R T k d (ln k 1 x m) (lm k 1 m) p q))) := rfl
theorem R_st {T : Nat → Nat → Int32} {k p q : Nat} : ∀ d (x : Int) m, x.toNat + m < d → (R T k d x m p q ↔ R T k (d + 1) x m p q) := by
  intro d
  induction d with
  | zero => intro x m h; omega
  | succ d ih =>
    intro x m h
    rw [R_s (d := d), R_s (d := d + 1)]
    constructor
    · rintro ⟨r, u, c⟩
      have l0 := leg_lt (k := k) (w := 0) (by omega) r
      have l1 := leg_lt (k := k) (w := 1) (by omega) r
      refine ⟨r, u, ?_⟩
      rcases c with c | c | ⟨c1, c2⟩
      · exact Or.inl c
      · exact Or.inr (Or.inl ((ih _ _ (by omega)).mp c))
      · exact Or.inr (Or.inr ⟨c1, (ih _ _ (by omega)).mp c2⟩)
    · rintro ⟨r, u, c⟩
      have l0 := leg_lt (k := k) (w := 0) (by omega) r
      have l1 := leg_lt (k := k) (w := 1) (by omega) r
      refine ⟨r, u, ?_⟩
      rcases c with c | c | ⟨c1, c2⟩
      · exact Or.inl c
      · exact Or.inr (Or.inl ((ih _ _ (by omega)).mpr c))
      · exact Or.inr (Or.inr ⟨c1, (ih _ _ (by omega)).mpr c2⟩)
def RR (T : Nat → Nat → Int32) (k : Nat) (x : Int) (m p q : Nat) : Prop := R T k 60 x m p q
theorem RR_eq {T : Nat → Nat → Int32} {k m p q : Nat} {x : Int} (hx : x ≤ 20) (hm : m ≤ 20) : RR T k x m p q ↔ (¬ rs x m = true ∧ T x.toNat m = -1 ∧ ((x.toNat = p ∧ m = q) ∨ RR T k (ln k 0 x m) (lm k 0 m) p q ∨ (hl k 1 m = true ∧ RR T k (ln k 1 x m) (lm k 1 m) p q))) := by
  unfold RR
  rw [R_s (d := 59)]
  constructor
  · rintro ⟨r, u, c⟩
    have l0 := leg_lt (k := k) (w := 0) (by omega) r
    have l1 := leg_lt (k := k) (w := 1) (by omega) r
    refine ⟨r, u, ?_⟩
    rcases c with c | c | ⟨c1, c2⟩
    · exact Or.inl c
    · exact Or.inr (Or.inl ((R_st 59 _ _ (by omega)).mp c))
    · exact Or.inr (Or.inr ⟨c1, (R_st 59 _ _ (by omega)).mp c2⟩)
  · rintro ⟨r, u, c⟩
    have l0 := leg_lt (k := k) (w := 0) (by omega) r
    have l1 := leg_lt (k := k) (w := 1) (by omega) r
    refine ⟨r, u, ?_⟩
    rcases c with c | c | ⟨c1, c2⟩
    · exact Or.inl c
    · exact Or.inr (Or.inl ((R_st 59 _ _ (by omega)).mpr c))
    · exact Or.inr (Or.inr ⟨c1, (R_st 59 _ _ (by omega)).mpr c2⟩)
/-- what is reached isn't kept, and rests not -/
theorem RR_un {T : Nat → Nat → Int32} {k p q : Nat} : ∀ d (x : Int) m, x.toNat + m < d → x ≤ 20 → m ≤ 20 → RR T k x m p q → T p q = -1 ∧ 1 ≤ p ∧ 1 ≤ q ∧ p ≤ 20 ∧ q ≤ 20 ∧ p + q ≤ x.toNat + m := by
  intro d
  induction d with
  | zero => intro x m h; omega
  | succ d ih =>
    intro x m h hx hm hr
    obtain ⟨r, u, c⟩ := (RR_eq hx hm).mp hr
    have l0 := leg_lt (k := k) (w := 0) (by omega) r
    have l1 := leg_lt (k := k) (w := 1) (by omega) r
    obtain ⟨b1, -, b2⟩ := leg_bd (k := k) (w := 0) hx hm r
    obtain ⟨b3, -, b4⟩ := leg_bd (k := k) (w := 1) hx hm r
    obtain ⟨g1, g2⟩ := rs_f r
    rcases c with ⟨rfl, rfl⟩ | c | ⟨-, c⟩
    · exact ⟨u, by omega, g2, by omega, hm, Nat.le_refl _⟩
    · obtain ⟨e1, e2, e3, e4, e5, e6⟩ := ih _ _ (by omega) b1 b2 c
      exact ⟨e1, e2, e3, e4, e5, by omega⟩
    · obtain ⟨e1, e2, e3, e4, e5, e6⟩ := ih _ _ (by omega) b3 b4 c
      exact ⟨e1, e2, e3, e4, e5, by omega⟩
theorem RR_self {T : Nat → Nat → Int32} {k m : Nat} {x : Int} (hx : x ≤ 20) (hm : m ≤ 20) (r : ¬ rs x m = true) (u : T x.toNat m = -1) : RR T k x m x.toNat m := (RR_eq hx hm).mpr ⟨r, u, Or.inl ⟨rfl, rfl⟩⟩
theorem RR_tr {T : Nat → Nat → Int32} {k b1 b2 p q : Nat} : ∀ d (x : Int) m, x.toNat + m < d → x ≤ 20 → m ≤ 20 → RR T k x m b1 b2 → RR T k (b1 : Int) b2 p q → RR T k x m p q := by
  intro d
  induction d with
  | zero => intro x m h; omega
  | succ d ih =>
    intro x m h hx hm hr h2
    obtain ⟨r, u, c⟩ := (RR_eq hx hm).mp hr
    have l0 := leg_lt (k := k) (w := 0) (by omega) r
    have l1 := leg_lt (k := k) (w := 1) (by omega) r
    obtain ⟨e1, -, e2⟩ := leg_bd (k := k) (w := 0) hx hm r
    obtain ⟨e3, -, e4⟩ := leg_bd (k := k) (w := 1) hx hm r
    obtain ⟨g1, g2⟩ := rs_f r
    rcases c with ⟨rfl, rfl⟩ | c | ⟨c1, c⟩
    · rw [show ((x.toNat : Nat) : Int) = x from by omega] at h2
      exact h2
    · exact (RR_eq hx hm).mpr ⟨r, u, Or.inr (Or.inl (ih _ _ (by omega) e1 e2 c h2))⟩
    · exact (RR_eq hx hm).mpr ⟨r, u, Or.inr (Or.inr ⟨c1, ih _ _ (by omega) e3 e4 c h2⟩)⟩
/-- a reached case's legs are reached, where they aren't kept -/
theorem RR_leg {T : Nat → Nat → Int32} {k w b1 b2 m : Nat} {x : Int} (hw : w < 2) (hl1 : hl k w b2 = true) (hx : x ≤ 20) (hm : m ≤ 20) (h : RR T k x m b1 b2) (r2 : ¬ rs (ln k w b1 b2) (lm k w b2) = true) (u2 : T (ln k w b1 b2).toNat (lm k w b2) = -1) : RR T k x m (ln k w b1 b2).toNat (lm k w b2) := by
  obtain ⟨e1, e2, e3, e4, e5, -⟩ := RR_un (x.toNat + m + 1) x m (by omega) hx hm h
  have r1 : ¬ rs (b1 : Int) b2 = true := rs_n (by omega) e3
  obtain ⟨f1, -, f2⟩ := leg_bd (k := k) (w := w) (x := (b1 : Int)) (m := b2) (by omega) e5 r1
  refine RR_tr (x.toNat + m + 1) x m (by omega) hx hm h ((RR_eq (by omega) e5).mpr ⟨r1, ?_, ?_⟩)
  · rw [show ((b1 : Int)).toNat = b1 from by omega]; exact e1
  · have s := RR_self (k := k) f1 f2 r2 u2
    have hw2 : w = 0 ∨ w = 1 := by omega
    rcases hw2 with rfl | rfl
    · exact Or.inr (Or.inl s)
    · exact Or.inr (Or.inr ⟨hl1, s⟩)
/-- what is reached is the case itself, or a leg of what is reached -/
theorem RR_par {T : Nat → Nat → Int32} {k p q : Nat} : ∀ d (x : Int) m, x.toNat + m < d → x ≤ 20 → m ≤ 20 → RR T k x m p q → (x.toNat = p ∧ m = q) ∨ ∃ b1 b2 w, w < 2 ∧ hl k w b2 = true ∧ RR T k x m b1 b2 ∧ (ln k w b1 b2).toNat = p ∧ lm k w b2 = q ∧ ¬ rs (ln k w b1 b2) (lm k w b2) = true := by
  intro d
  induction d with
  | zero => intro x m h; omega
  | succ d ih =>
    intro x m h hx hm hr
    obtain ⟨r, u, c⟩ := (RR_eq hx hm).mp hr
    have l0 := leg_lt (k := k) (w := 0) (by omega) r
    have l1 := leg_lt (k := k) (w := 1) (by omega) r
    obtain ⟨e1, -, e2⟩ := leg_bd (k := k) (w := 0) hx hm r
    obtain ⟨e3, -, e4⟩ := leg_bd (k := k) (w := 1) hx hm r
    obtain ⟨g1, g2⟩ := rs_f r
    have ex : ((x.toNat : Nat) : Int) = x := by omega
    have self := RR_self (T := T) (k := k) hx hm r u
    rcases c with c | c | ⟨c1, c⟩
    · exact Or.inl c
    · refine Or.inr ?_
      rcases ih _ _ (by omega) e1 e2 c with ⟨a1, a2⟩ | ⟨b1, b2, w, w2, h3, h4, h5, h6, h7⟩
      · refine ⟨x.toNat, m, 0, by omega, rfl, self, ?_, ?_, ?_⟩
        · rw [ex]; exact a1
        · exact a2
        · rw [ex]; exact ((RR_eq e1 e2).mp c).1
      · exact ⟨b1, b2, w, w2, h3, (RR_eq hx hm).mpr ⟨r, u, Or.inr (Or.inl h4)⟩, h5, h6, h7⟩
    · refine Or.inr ?_
      rcases ih _ _ (by omega) e3 e4 c with ⟨a1, a2⟩ | ⟨b1, b2, w, w2, h3, h4, h5, h6, h7⟩
      · refine ⟨x.toNat, m, 1, by omega, c1, self, ?_, ?_, ?_⟩
        · rw [ex]; exact a1
        · exact a2
        · rw [ex]; exact ((RR_eq e3 e4).mp c).1
      · exact ⟨b1, b2, w, w2, h3, (RR_eq hx hm).mpr ⟨r, u, Or.inr (Or.inr ⟨c1, h4⟩)⟩, h5, h6, h7⟩
/-! ===== how great a worth can be ===== -/
def tbL : List (List Nat) := [[111405, 222809, 334213, 445617, 557021, 668425, 779829, 891233, 1002637, 1114041, 1225445, 1336849, 1448253, 1559657, 1671061, 1782465, 1893869, 2005273, 2116677, 2228081], [222809, 334213, 445617, 557021, 668425, 779829, 891233, 1002637, 1114041, 1225445, 1336849, 1448253, 1559657, 1671061, 1782465, 1893869, 2005273, 2116677, 2228081, 2339485], [334213, 668425, 779829, 891233, 1002637, 1114041, 1225445, 1336849, 1448253, 1559657, 1671061, 1782465, 1893869, 2005273, 2116677, 2228081, 2339485, 2450889, 2562293, 2673697], [445617, 891233, 1336849, 1448253, 1559657, 1671061, 1782465, 1893869, 2005273, 2116677, 2228081, 2339485, 2450889, 2562293, 2673697, 2785101, 2896505, 3007909, 3119313, 3230717], [557021, 1336849, 1893869, 2450889, 2562293, 2673697, 2785101, 2896505, 3007909, 3119313, 3230717, 3342121, 3453525, 3564929, 3676333, 3787737, 3899141, 4010545, 4121949, 4233353], [668425, 1671061, 2562293, 3230717, 3899141, 4010545, 4121949, 4233353, 4344757, 4456161, 4567565, 4678969, 4790373, 4901777, 5013181, 5124585, 5235989, 5347393, 5458797, 5570201], [779829, 2228081, 3676333, 4678969, 5458797, 6238625, 6350029, 6461433, 6572837, 6684241, 6795645, 6907049, 7018453, 7129857, 7241261, 7352665, 7464069, 7575473, 7686877, 7798281], [891233, 2673697, 4678969, 6238625, 7352665, 8243897, 9135129, 9246533, 9357937, 9469341, 9580745, 9692149, 9803553, 9914957, 10026361, 10137765, 10249169, 10360573, 10471977, 10583381], [1002637, 3342121, 6015817, 8578109, 10249169, 11474613, 12477249, 13479885, 13591289, 13702693, 13814097, 13925501, 14036905, 14148309, 14259713, 14371117, 14482521, 14593925, 14705329, 14816733], [1114041, 3899141, 7686877, 11028997, 13702693, 15485157, 16822005, 17936045, 19050085, 19161489, 19272893, 19384297, 19495701, 19607105, 19718509, 19829913, 19941317, 20052721, 20164125, 20275529], [1225445, 4678969, 9469341, 14259713, 18270257, 21055357, 22949225, 24397477, 25622921, 26848365, 26959769, 27071173, 27182577, 27293981, 27405385, 27516789, 27628193, 27739597, 27851001, 27962405], [1336849, 5347393, 11474613, 17824641, 23394841, 27516789, 30413293, 32418565, 33978221, 35315069, 36651917, 36763321, 36874725, 36986129, 37097533, 37208937, 37320341, 37431745, 37543149, 37654553], [1448253, 6238625, 14036905, 22726417, 30190485, 36540513, 40773865, 43781773, 45898449, 47569509, 49017761, 50466013, 50577417, 50688821, 50800225, 50911629, 51023033, 51134437, 51245841, 51357245], [1559657, 7018453, 16599197, 27739597, 38100169, 46455469, 52916901, 57261657, 60380969, 62609049, 64391513, 65951169, 67510825, 67622229, 67733633, 67845037, 67956441, 68067845, 68179249, 68290653], [1671061, 8021089, 19607105, 33978221, 47792317, 59378333, 68624865, 75197701, 79653861, 82884577, 85224061, 87117929, 88788989, 90460049, 90571453, 90682857, 90794261, 90905665, 91017069, 91128473], [1782465, 8912321, 23060629, 40996673, 59378333, 74974893, 87563545, 96921481, 103605721, 108173285, 111515405, 113966293, 115971565, 117754029, 119536493, 119647897, 119759301, 119870705, 119982109, 120093513], [1893869, 10026361, 26736961, 49574781, 73081025, 94247785, 111181193, 124772481, 134241821, 141037465, 145716433, 149169957, 151732249, 153848925, 155742793, 157636661, 157748065, 157859469, 157970873, 158082277], [2005273, 11028997, 30747505, 58598505, 88900393, 116528585, 139589213, 157636661, 171339353, 180920097, 187827145, 192617517, 196182445, 198856141, 201084221, 203089493, 205094765, 205206169, 205317573, 205428977], [2116677, 12254441, 35426473, 69516097, 107727669, 144379585, 174904281, 199413161, 218574649, 232388745, 242080893, 249099345, 254001121, 257677453, 260462553, 262802037, 264918713, 267035389, 267146793, 267258197], [2228081, 13368481, 40216845, 81324921, 129228641, 175795513, 216680781, 249210749, 274945073, 294217965, 308143465, 317947017, 325076873, 330090053, 333877789, 336774293, 339225181, 341453261, 343681341, 343792745]]
def tb (n m : Nat) : Nat := (tbL.getD (n - 1) []).getD (m - 1) 0
def tbx (x : Int) (m : Nat) : Nat := if rs x m = true then 1 else tb x.toNat m
def tbq (k n m : Nat) : Bool := decide (111403 + tbx (ln k 0 (n : Int) m) (lm k 0 m) + (if hl k 1 m = true then tbx (ln k 1 (n : Int) m) (lm k 1 m) else 0) ≤ tb n m ∧ tb n m ≤ 400000000)
set_option maxRecDepth 100000 in
theorem tbq_ok : ∀ k, k < 6 → ∀ n, n < 21 → ∀ m, m < 21 → (1 ≤ n ∧ 1 ≤ m) → tbq k n m = true := by decide +kernel
theorem tb_ok (k : Nat) (hk : k < 6) (n : Nat) (hn : n < 21) (m : Nat) (hm : m < 21) (h : 1 ≤ n ∧ 1 ≤ m) : 111403 + tbx (ln k 0 (n : Int) m) (lm k 0 m) + (if hl k 1 m = true then tbx (ln k 1 (n : Int) m) (lm k 1 m) else 0) ≤ tb n m ∧ tb n m ≤ 400000000 := of_decide_eq_true (tbq_ok k hk n hn m hm h)
/-- a table that holds worths of cases, none too great, none of a case that rests -/
def OKT (T : Nat → Nat → Int32) : Prop := ∀ n m, n ≤ 20 → m ≤ 20 → T n m = -1 ∨ (1 ≤ n ∧ 1 ≤ m ∧ 0 ≤ (T n m).toInt ∧ (T n m).toInt ≤ (tb n m : Int))
theorem VV_bd {T : Nat → Nat → Int32} {k : Nat} (hT : OKT T) (hk : k < 6) : ∀ d (x : Int) m, x.toNat + m < d → x ≤ 20 → m ≤ 20 → 0 ≤ (VV T k x m).toInt ∧ (VV T k x m).toInt ≤ (tbx x m : Int) := by
  intro d
  induction d with
  | zero => intro x m h; omega
  | succ d ih =>
    intro x m h hx hm
    rw [VV_eq hx hm]
    by_cases r : rs x m = true
    · rw [if_pos r]
      unfold tbx rv
      rw [if_pos r]
      have q0 : (0 : Int32).toInt = 0 := by decide
      have q1 : (1 : Int32).toInt = 1 := by decide
      by_cases c : x = 0 ∧ (m = 0 ∨ (k ≠ 1 ∧ k ≠ 5))
      · rw [if_pos c]; omega
      · rw [if_neg c]; omega
    · obtain ⟨g1, g2⟩ := rs_f r
      have ex : ((x.toNat : Nat) : Int) = x := by omega
      have tk := tb_ok k hk x.toNat (by omega) m (by omega) ⟨by omega, g2⟩
      rw [ex] at tk
      have htb : tbx x m = tb x.toNat m := by unfold tbx; rw [if_neg r]
      rw [if_neg r, htb]
      by_cases u : T x.toNat m = -1
      · rw [if_pos u]
        have l0 := leg_lt (k := k) (w := 0) (by omega) r
        have l1 := leg_lt (k := k) (w := 1) (by omega) r
        obtain ⟨e1, -, e2⟩ := leg_bd (k := k) (w := 0) hx hm r
        obtain ⟨e3, -, e4⟩ := leg_bd (k := k) (w := 1) hx hm r
        obtain ⟨i1, i2⟩ := ih _ _ (by omega) e1 e2
        by_cases c : hl k 1 m = true
        · obtain ⟨i3, i4⟩ := ih _ _ (show (ln k 1 x m).toNat + lm k 1 m < d by omega) e3 e4
          rw [if_pos c] at tk
          rw [if_pos c, addI (by omega) (by omega)]
          omega
        · have q0 : (0 : Int32).toInt = 0 := by decide
          rw [if_neg c] at tk
          rw [if_neg c, addI (by omega) (by omega)]
          omega
      · rw [if_neg u]
        rcases hT x.toNat m (by omega) hm with z | ⟨-, -, z1, z2⟩
        · exact absurd z u
        · exact ⟨z1, z2⟩
theorem VV_ne {T : Nat → Nat → Int32} {k m : Nat} {x : Int} (hT : OKT T) (hk : k < 6) (hx : x ≤ 20) (hm : m ≤ 20) : ¬ VV T k x m = -1 := by
  intro h
  have b := (VV_bd hT hk (x.toNat + m + 1) x m (by omega) hx hm).1
  rw [h] at b
  exact absurd b (by decide)
/-! ===== a table with what was reached ===== -/
/-- S is T with the worths of what is reached from (x, m) -/
def Fil (T S : Nat → Nat → Int32) (k : Nat) (x : Int) (m : Nat) : Prop := ∀ p q, p ≤ 20 → q ≤ 20 → (RR T k x m p q → S p q = VV T k p q) ∧ (¬ RR T k x m p q → S p q = T p q)
theorem Fil.ok {T S : Nat → Nat → Int32} {k m : Nat} {x : Int} (hT : OKT T) (hk : k < 6) (hx : x ≤ 20) (hm : m ≤ 20) (h : Fil T S k x m) : OKT S := by
  intro p q hp hq
  by_cases c : RR T k x m p q
  · obtain ⟨e1, e2, e3, -, -, -⟩ := RR_un (x.toNat + m + 1) x m (by omega) hx hm c
    obtain ⟨b1, b2⟩ := VV_bd hT hk (((p : Nat) : Int).toNat + q + 1) p q (by omega) (by omega) hq
    rw [(h p q hp hq).1 c]
    refine Or.inr ⟨e2, e3, b1, ?_⟩
    unfold tbx at b2
    rw [if_neg (rs_n (by omega) e3), show ((p : Nat) : Int).toNat = p from by omega] at b2
    exact b2
  · rw [(h p q hp hq).2 c]
    exact hT p q hp hq
/-- what the filled table tells is what the table told -/
theorem Fil.V {T S : Nat → Nat → Int32} {k m : Nat} {x : Int} (hT : OKT T) (hk : k < 6) (hx : x ≤ 20) (hm : m ≤ 20) (h : Fil T S k x m) : ∀ d (y : Int) r, y.toNat + r < d → y ≤ 20 → r ≤ 20 → VV S k y r = VV T k y r := by
  intro d
  induction d with
  | zero => intro y r hd; omega
  | succ d ih =>
    intro y r hd hy hr
    rw [VV_eq (T := S) hy hr, VV_eq (T := T) hy hr]
    by_cases c : rs y r = true
    · rw [if_pos c, if_pos c]
    · obtain ⟨g1, g2⟩ := rs_f c
      have ey : ((y.toNat : Nat) : Int) = y := by omega
      have l0 := leg_lt (k := k) (w := 0) (by omega) c
      have l1 := leg_lt (k := k) (w := 1) (by omega) c
      obtain ⟨e1, -, e2⟩ := leg_bd (k := k) (w := 0) hy hr c
      obtain ⟨e3, -, e4⟩ := leg_bd (k := k) (w := 1) hy hr c
      rw [if_neg c, if_neg c, ih _ _ (show (ln k 0 y r).toNat + lm k 0 r < d by omega) e1 e2, ih _ _ (show (ln k 1 y r).toNat + lm k 1 r < d by omega) e3 e4]
      by_cases z : RR T k x m y.toNat r
      · obtain ⟨u, -⟩ := RR_un (x.toNat + m + 1) x m (by omega) hx hm z
        have s := (h y.toNat r (by omega) hr).1 z
        rw [ey] at s
        have v := VV_eq (T := T) (k := k) hy hr
        rw [if_neg c, if_pos u] at v
        rw [if_pos u, if_neg (by rw [s]; exact VV_ne hT hk hy hr), s, v]
      · rw [(h y.toNat r (by omega) hr).2 z]
theorem Fil.sub {T S : Nat → Nat → Int32} {k m : Nat} {x : Int} (hT : OKT T) (hk : k < 6) (h : Fil T S k x m) {p q : Nat} : ∀ d (y : Int) r, y.toNat + r < d → y ≤ 20 → r ≤ 20 → RR S k y r p q → RR T k y r p q := by
  intro d
  induction d with
  | zero => intro y r hd; omega
  | succ d ih =>
    intro y r hd hy hr hR
    obtain ⟨c, u, z⟩ := (RR_eq hy hr).mp hR
    obtain ⟨g1, g2⟩ := rs_f c
    have l0 := leg_lt (k := k) (w := 0) (by omega) c
    have l1 := leg_lt (k := k) (w := 1) (by omega) c
    obtain ⟨e1, -, e2⟩ := leg_bd (k := k) (w := 0) hy hr c
    obtain ⟨e3, -, e4⟩ := leg_bd (k := k) (w := 1) hy hr c
    have uT : T y.toNat r = -1 := by
      by_cases w : RR T k x m y.toNat r
      · exact absurd ((h y.toNat r (by omega) hr).1 w ▸ u) (VV_ne hT hk (by omega) hr)
      · rw [← (h y.toNat r (by omega) hr).2 w]; exact u
    refine (RR_eq hy hr).mpr ⟨c, uT, ?_⟩
    rcases z with z | z | ⟨z1, z⟩
    · exact Or.inl z
    · exact Or.inr (Or.inl (ih _ _ (by omega) e1 e2 z))
    · exact Or.inr (Or.inr ⟨z1, ih _ _ (by omega) e3 e4 z⟩)
theorem Fil.sup {T S : Nat → Nat → Int32} {k m : Nat} {x : Int} (hx : x ≤ 20) (hm : m ≤ 20) (h : Fil T S k x m) {p q : Nat} : ∀ d (y : Int) r, y.toNat + r < d → y ≤ 20 → r ≤ 20 → RR T k y r p q → RR S k y r p q ∨ RR T k x m p q := by
  intro d
  induction d with
  | zero => intro y r hd; omega
  | succ d ih =>
    intro y r hd hy hr hR
    obtain ⟨c, u, z⟩ := (RR_eq hy hr).mp hR
    obtain ⟨g1, g2⟩ := rs_f c
    have ey : ((y.toNat : Nat) : Int) = y := by omega
    have l0 := leg_lt (k := k) (w := 0) (by omega) c
    have l1 := leg_lt (k := k) (w := 1) (by omega) c
    obtain ⟨e1, -, e2⟩ := leg_bd (k := k) (w := 0) hy hr c
    obtain ⟨e3, -, e4⟩ := leg_bd (k := k) (w := 1) hy hr c
    by_cases w : RR T k x m y.toNat r
    · refine Or.inr (RR_tr (x.toNat + m + 1) x m (by omega) hx hm w ?_)
      rw [ey]; exact hR
    · have uS : S y.toNat r = -1 := by rw [(h y.toNat r (by omega) hr).2 w]; exact u
      rcases z with z | z | ⟨z1, z⟩
      · exact Or.inl ((RR_eq hy hr).mpr ⟨c, uS, Or.inl z⟩)
      · rcases ih _ _ (by omega) e1 e2 z with a | a
        · exact Or.inl ((RR_eq hy hr).mpr ⟨c, uS, Or.inr (Or.inl a)⟩)
        · exact Or.inr a
      · rcases ih _ _ (by omega) e3 e4 z with a | a
        · exact Or.inl ((RR_eq hy hr).mpr ⟨c, uS, Or.inr (Or.inr ⟨z1, a⟩)⟩)
        · exact Or.inr a
