/-- what a builder's cells hold: so many bytes, room for at most 80 -/
def SBo (cnt : Int32) (n : Nat) (f : Nat → Int32) : Prop := 0 ≤ cnt.toInt ∧ cnt.toInt ≤ (n : Int) ∧ 16 ≤ n ∧ n ≤ 80 ∧ ∀ i, fits .byte (.int (f i)) = true
theorem fit_nar (x : Int32) : fits .byte (.int (vp_nar .byte x)) = true := fits_narrow_byte x
theorem fit_upd {f : Nat → Int32} {k : Nat} {x : Int32} (h : ∀ i, fits .byte (.int (f i)) = true) : ∀ i, fits .byte (.int (upd f k (vp_nar .byte x) i)) = true := by
  intro i
  unfold upd
  by_cases e : i = k
  · rw [if_pos e]; exact fit_nar x
  · rw [if_neg e]; exact h i
theorem sh0 : ((0 : Int32) &&& (31 : Int32)) = 0 := by decide
theorem j_cpy {f : Nat → Int32} {a b c : Nat} (h : ∀ i, fits .byte (.int (f i)) = true) : ∀ i, fits .byte (.int (va_cpy f (fun _ => 0) a b c i)) = true := by
  intro i
  unfold va_cpy
  by_cases e : b ≤ i ∧ i < b + c
  · rw [if_pos e]; exact h _
  · rw [if_neg e]; exact (by decide : fits .byte (.int 0) = true)
theorem j_ensure {N K n : Nat} {cnt p : Int32} {f : Nat → Int32} (h : SBo cnt n f) (h1 : 0 ≤ p.toInt) (h2 : p.toInt ≤ 40) : ∃ n' f', fJ_ensure N K cnt n f p = some (n', f') ∧ n ≤ n' ∧ n' ≤ 80 ∧ p.toInt ≤ (n' : Int) ∧ ∀ i, fits .byte (.int (f' i)) = true := by
  obtain ⟨a1, a2, a3, a4, a5⟩ := h
  have q0 : (0 : Int32).toInt = 0 := by decide
  have q2 : (2 : Int32).toInt = 2 := by decide
  have qM : (2147483639 : Int32).toInt = 2147483639 := by decide
  have qX : (2147483647 : Int32).toInt = 2147483647 := by decide
  have en : (Int32.ofNat n).toInt = (n : Int) := o_i (by omega)
  have es := subI (a := p) (b := Int32.ofNat n) (by omega) (by omega)
  have e2 := addI (a := Int32.ofNat n) (b := (2 : Int32)) (by omega) (by omega)
  unfold fJ_ensure
  rw [sh0, Int32.shiftRight_zero]
  by_cases hle : p.toInt ≤ (n : Int)
  · rw [if_pos (by rw [Int32.le_iff_toInt_le]; omega)]
    exact ⟨n, f, rfl, Nat.le_refl _, a4, hle, a5⟩
  · rw [if_neg (by rw [Int32.le_iff_toInt_le]; omega)]
    unfold fJ_newCapacity fJ_newLength
    rw [sh0, Int32.shiftLeft_zero, Int32.shiftLeft_zero]
    generalize hc : (if p - Int32.ofNat n < Int32.ofNat n + (2 : Int32) then Int32.ofNat n + (2 : Int32) else p - Int32.ofNat n) = c
    have hc2 : p.toInt - (n : Int) ≤ c.toInt ∧ c.toInt ≤ 41 := by
      by_cases e : p - Int32.ofNat n < Int32.ofNat n + (2 : Int32)
      · rw [if_pos e] at hc
        subst hc
        have := Int32.lt_iff_toInt_lt.mp e
        omega
      · rw [if_neg e] at hc
        subst hc
        omega
    have hc3 : (c.toInt ≤ (n : Int) + 2) ∨ c.toInt ≤ p.toInt - (n : Int) := by
      by_cases e : p - Int32.ofNat n < Int32.ofNat n + (2 : Int32)
      · rw [if_pos e] at hc
        subst hc
        omega
      · rw [if_neg e] at hc
        subst hc
        omega
    have ec := addI (a := Int32.ofNat n) (b := c) (by omega) (by omega)
    rw [if_neg (by rw [Int32.le_iff_toInt_le]; omega), if_neg (by rw [Int32.lt_iff_toInt_lt]; omega), Option.bind_some, if_neg (fun z => by have := congrArg Int32.toInt z; omega), Int32.shiftRight_zero, Option.bind_some, Int32.shiftLeft_zero]
    generalize hd : Int32.ofNat n + c = d at *
    have ecl : d.toNatClampNeg = d.toInt.toNat := rfl
    unfold fJ_copyOf
    rw [if_neg (fun z => by have := congrArg Int32.toInt z; omega), if_neg (by rw [Int32.lt_iff_toInt_lt]; omega), if_neg (show ¬ d < Int32.ofNat n from by rw [Int32.lt_iff_toInt_lt]; omega), if_neg, Option.bind_some]
    · exact ⟨_, _, rfl, by omega, by omega, by omega, j_cpy a5⟩
    · have ez : (0 : Int32).toNatClampNeg = 0 := by decide
      rw [o_c (by omega), ez]
      rintro (z | z | z | z | z | z)
      · exact absurd z (by decide)
      · exact absurd z (by decide)
      · have := Int32.lt_iff_toInt_lt.mp z; omega
      · omega
      · omega
      · exact z (fun i _ => a5 _)
theorem j_appendC {N K n : Nat} {cnt : Int32} {f : Nat → Int32} (h : SBo cnt n f) (h2 : cnt.toInt ≤ 39) : ∃ c' n' f', fJ_appendC N K cnt n f (43 : Int32) = some (c', n', f') ∧ c'.toInt = cnt.toInt + 1 ∧ SBo c' n' f' := by
  have q1 : (1 : Int32).toInt = 1 := by decide
  have h' := h
  obtain ⟨a1, a2, a3, a4, a5⟩ := h'
  have e1 := addI (a := cnt) (b := (1 : Int32)) (by omega) (by omega)
  obtain ⟨n', f', b1, b2, b3, b4, b5⟩ := j_ensure (N := N) (K := K) h (p := cnt + (1 : Int32)) (by omega) (by omega)
  have ecl : cnt.toNatClampNeg = cnt.toInt.toNat := rfl
  unfold fJ_appendC fJ_appendC5
  rw [b1, Option.bind_some]
  unfold fJ_isLatin1 fJ_canEncode
  rw [Option.bind_some, if_neg (by decide), if_neg (by decide), Option.bind_some, if_neg (by decide), if_neg (noob (by omega) (by omega)), Option.bind_some]
  exact ⟨cnt + (1 : Int32), n', _, rfl, by omega, by omega, by omega, by omega, by omega, fit_upd b5⟩
theorem j_size {N K : Nat} (hN : 100 ≤ N) {l : Nat} (h1 : 1 ≤ l) (h2 : l ≤ 20) : ∃ z, fJ_size N K (Int32.ofNat l) = some z ∧ 1 ≤ z.toInt ∧ z.toInt ≤ 2 ∧ (10 ≤ l → z.toInt = 2) ∧ (l < 10 → z.toInt = 1) := by
  have q0 : (0 : Int32).toInt = 0 := by decide
  have q10 : (10 : Int32).toInt = 10 := by decide
  have q1 : (1 : Int32).toInt = 1 := by decide
  have qm : (-10 : Int32).toInt = -10 := by decide
  have qh : ((10 : Int32) * (-10 : Int32)).toInt = -100 := by decide
  have el : (Int32.ofNat l).toInt = (l : Int) := o_i (by omega)
  have en := negI (a := Int32.ofNat l) (by omega)
  obtain ⟨M, rfl⟩ : ∃ M, N = M + 2 := ⟨N - 2, by omega⟩
  unfold fJ_size
  rw [if_neg (by rw [Int32.lt_iff_toInt_lt]; omega)]
  unfold fJ_size_16v
  rw [if_neg (by decide)]
  by_cases e : 10 ≤ l
  · rw [if_pos (by rw [Int32.le_iff_toInt_le]; omega)]
    unfold fJ_size_16v
    rw [if_neg (by decide), if_neg (by rw [Int32.le_iff_toInt_le]; omega)]
    exact ⟨_, rfl, by decide, by decide, fun _ => by decide, fun z => by omega⟩
  · rw [if_neg (by rw [Int32.le_iff_toInt_le]; omega)]
    exact ⟨_, rfl, by decide, by decide, fun z => by omega, fun _ => by decide⟩
theorem j_appendI {N K n : Nat} (hN : 100 ≤ N) {cnt : Int32} {f : Nat → Int32} (h : SBo cnt n f) {l : Nat} (h1 : 1 ≤ l) (h2 : l ≤ 20) (h3 : cnt.toInt ≤ 39) (h4 : 10 ≤ l → cnt.toInt ≤ 38) : ∃ c' n' f', fJ_appendI N K cnt n f (Int32.ofNat l) = some (c', n', f') ∧ (c'.toInt = cnt.toInt + 1 ∧ l < 10 ∨ c'.toInt = cnt.toInt + 2 ∧ 10 ≤ l) ∧ SBo c' n' f' := by
  have q0 : (0 : Int32).toInt = 0 := by decide
  have q9 : (-9 : Int32).toInt = -9 := by decide
  have q100 : (-100 : Int32).toInt = -100 := by decide
  obtain ⟨a1, a2, a3, a4, a5⟩ := id h
  obtain ⟨z, s1, s2, s3, s4, s5⟩ := j_size (N := N) (K := K) hN h1 h2
  have e1 := addI (a := cnt) (b := z) (by omega) (by omega)
  obtain ⟨n', f', b1, b2, b3, b4, b5⟩ := j_ensure (N := N) (K := K) h (p := cnt + z) (by omega) (by
    by_cases e : 10 ≤ l
    · have u1 := h4 e
      omega
    · have u2 := s5 (by omega)
      omega)
  have el : (Int32.ofNat l).toInt = (l : Int) := o_i (by omega)
  have en := negI (a := Int32.ofNat l) (by omega)
  have en2 := negI (a := -Int32.ofNat l) (by omega)
  unfold fJ_appendI fJ_appendI5
  rw [s1, Option.bind_some, b1, Option.bind_some]
  unfold fJ_isLatin1
  rw [Option.bind_some, if_neg (by decide)]
  clear s1 b1
  generalize hp : cnt + z = p at *
  have d1 : (p + (-1 : Int32)).toInt = p.toInt + (-1) := addL (by decide) (by omega) (by omega)
  unfold fJ_getChars
  rw [if_pos (by rw [Int32.le_iff_toInt_le]; omega)]
  obtain ⟨M, rfl⟩ : ∃ M, N = M + 1 := ⟨N - 1, by omega⟩
  unfold fJ_getChars_22
  dsimp only
  generalize hnl : -Int32.ofNat l = nl at en en2 ⊢
  generalize hnn : -nl = nn at en2 ⊢
  generalize hp1 : p + (-1 : Int32) = p1 at d1 ⊢
  rw [if_pos (by rw [Int32.lt_iff_toInt_lt]; omega), if_neg (noob (by omega) (by omega)), if_neg (noob (by omega) (by omega))]
  by_cases e : l < 10
  · have s6 := s5 e
    rw [if_pos (by rw [Int32.le_iff_toInt_le]; omega), Option.bind_some, Option.bind_some]
    exact ⟨p, n', _, rfl, Or.inl ⟨by omega, e⟩, by omega, by omega, by omega, by omega, fit_upd b5⟩
  · have s6 := s4 (by omega)
    have d2 : (p1 + (-1 : Int32)).toInt = p1.toInt + (-1) := addL (by decide) (by omega) (by omega)
    generalize hp2 : p1 + (-1 : Int32) = p2 at d2 ⊢
    rw [if_neg (by rw [Int32.le_iff_toInt_le]; omega), if_neg (noob (by omega) (by omega)), if_neg (noob (by omega) (by omega)), Option.bind_some, Option.bind_some]
    exact ⟨p, n', _, rfl, Or.inr ⟨by omega, by omega⟩, by omega, by omega, by omega, by omega, fit_upd (fit_upd b5)⟩
theorem j_toString {N K n : Nat} {cnt : Int32} {f : Nat → Int32} (h : SBo cnt n f) : fJ_toString N K cnt n f = some () := by
  obtain ⟨a1, a2, a3, a4, a5⟩ := h
  have q0 : (0 : Int32).toInt = 0 := by decide
  have ez : (0 : Int32).toNatClampNeg = 0 := by decide
  have en : (Int32.ofNat n).toInt = (n : Int) := o_i (by omega)
  unfold fJ_toString fJ_str1 fJ_str2 fJ_getValue fJ_length fJ_len fJ_isLatin1
  rw [Option.bind_some, Option.bind_some, Option.bind_some, Option.bind_some, if_neg (by decide)]
  unfold fJ_copyOfRange
  rw [if_pos rfl]
  by_cases e : cnt = Int32.ofNat n
  · rw [if_pos e, if_neg (by rintro (z | z); (· omega); exact z (fun i _ => a5 i))]
    rfl
  · rw [if_neg e]
    have e2 := subI (a := cnt) (b := (0 : Int32)) (by omega) (by omega)
    have e3 := subI (a := Int32.ofNat n) (b := (0 : Int32)) (by omega) (by omega)
    have e4 : cnt - 0 < Int32.ofNat n - 0 := by
      rw [Int32.lt_iff_toInt_lt]
      have : ¬ cnt.toInt = (n : Int) := fun z => e (Int32.toInt_inj.mp (z.trans en.symm))
      omega
    have ecl : (cnt - 0).toNatClampNeg = (cnt - 0).toInt.toNat := rfl
    unfold fJ_copyOfRangeByte fJ_checkLength
    rw [if_pos (by rw [Int32.le_iff_toInt_le]; omega), Option.bind_some, if_neg (by rintro (z | z); (· have := Int32.lt_iff_toInt_lt.mp z; omega); omega), if_pos e4, if_neg]
    · rfl
    · rw [ez]
      rintro (z | z | z | z | z | z)
      · exact absurd z (by decide)
      · exact absurd z (by decide)
      · have := Int32.lt_iff_toInt_lt.mp z; omega
      · omega
      · omega
      · exact z (fun i _ => a5 _)
theorem j_init {N K : Nat} : ∃ f, fJ_init4 N K = some (16, f) ∧ SBo 0 16 f := by
  refine ⟨fun _ => 0, ?_, by decide, by decide, by decide, by decide, fun _ => (by decide : fits .byte (.int 0) = true)⟩
  unfold fJ_init4 fJ_init5
  rw [if_neg (by decide)]
  rfl
theorem text_in {N K : Nat} {f0 : Nat → Int32} {k : Int32 → Int32 → Nat → (Nat → Int32) → Nat → Option Unit} {P : Unit → Prop} (hN : 100 ≤ N) {l rest rb : Nat} (h1 : 1 ≤ l) (h2 : l ≤ 20) (hk : ∀ (cnt : Int32) (n : Nat) (f : Nat → Int32) (bd : Nat), SBo cnt n f → cnt.toInt + 2 * (rest : Int) ≤ 40 → rb ≤ bd → Sf (k (Int32.ofNat (l - 1)) cnt n f bd) P) : ∀ (v fu : Nat) (cnt : Int32) (n : Nat) (f : Nat → Int32) (bd : Nat), v ≤ 20 → v < fu → SBo cnt n f → cnt.toInt + 2 * ((l * v + rest : Nat) : Int) ≤ 40 → v + 1 + rb ≤ bd → Sf (fX4_text_23 N K f0 k fu (Int32.ofNat l) (Int32.ofNat v) cnt n f bd) P := by
  intro v
  obtain ⟨l', rfl⟩ : ∃ l', l = l' + 1 := ⟨l - 1, by omega⟩
  induction v with
  | zero =>
    intro fu cnt n f bd _ hfu hs hc hb
    obtain ⟨fu, rfl⟩ : ∃ m, fu = m + 1 := ⟨fu - 1, by omega⟩
    unfold fX4_text_23
    rw [if_neg (by omega), if_pos (by decide), o_m1]
    exact hk cnt n f (bd - 1) hs (by omega) (by omega)
  | succ v ih =>
    intro fu cnt n f bd hv hfu hs hc hb
    obtain ⟨fu, rfl⟩ : ∃ m, fu = m + 1 := ⟨fu - 1, by omega⟩
    rw [Nat.mul_succ] at hc
    unfold fX4_text_23
    rw [if_neg (by omega), if_neg (o_0lt (by omega) (by omega))]
    unfold fJ_length fJ_len
    rw [Option.bind_some, Option.bind_some, o_m1]
    refine sIf (fun h => ?_) (fun h => ?_)
    · obtain ⟨c', n', f', a1, a2, a3⟩ := j_appendI (K := K) hN hs (l := l' + 1) (by omega) h2 (by omega) (fun _ => by omega)
      rw [a1, Option.bind_some]
      exact ih fu c' n' f' (bd - 1) (by omega) (by omega) a3 (by omega) (by omega)
    · have q0 : (0 : Int32).toInt = 0 := by decide
      have h0 : ¬ cnt.toInt ≤ 0 := fun z => h (by rw [Int32.le_iff_toInt_le]; omega)
      obtain ⟨c1, n1, f1, b1, b2, b3⟩ := j_appendC (N := N) (K := K) hs (by omega)
      rw [b1, Option.bind_some]
      obtain ⟨c', n', f', a1, a2, a3⟩ := j_appendI (K := K) hN b3 (l := l' + 1) (by omega) h2 (by omega) (fun _ => by omega)
      show Sf ((fJ_appendI N K c1 n1 f1 (Int32.ofNat (l' + 1))).bind _) P
      rw [a1, Option.bind_some]
      exact ih fu c' n' f' (bd - 1) (by omega) (by omega) a3 (by omega) (by omega)
theorem text_out {N K : Nat} {f0 : Nat → Int32} {w : Nat → Nat} (hN : 100 ≤ N) (hf : Dk f0 w) : ∀ (l fu : Nat) (cnt : Int32) (n : Nat) (f : Nat → Int32) (bd : Nat), l ≤ 20 → l < fu → SBo cnt n f → cnt.toInt + 2 * ((sm (fun p => p * w p) l : Nat) : Int) ≤ 40 → sm w l + l ≤ bd → Sf (fX4_text_11 N K f0 fu (Int32.ofNat l) cnt n f bd) (fun _ => True) := by
  intro l
  induction l with
  | zero =>
    intro fu cnt n f bd _ hfu hs hc hb
    obtain ⟨fu, rfl⟩ : ∃ m, fu = m + 1 := ⟨fu - 1, by omega⟩
    unfold fX4_text_11
    rw [if_pos (by decide), j_toString hs, Option.bind_some]
    exact sRet trivial
  | succ l ih =>
    intro fu cnt n f bd hl hfu hs hc hb
    obtain ⟨fu, rfl⟩ : ∃ m, fu = m + 1 := ⟨fu - 1, by omega⟩
    have hwl := wn_le1 (w := w) (p := l + 1) (by omega) hl
    have hwn := hf.1
    have d1 : sm (fun p => p * w p) (l + 1) = sm (fun p => p * w p) l + (l + 1) * w (l + 1) := rfl
    have d2 : sm w (l + 1) = sm w l + w (l + 1) := rfl
    unfold fX4_text_11
    rw [if_neg (o_1le (by omega) (by omega)), if_neg (o_ob (by omega) (by omega)), o_c (by omega), hf.2 _ (by omega) hl]
    exact text_in hN (l := l + 1) (rest := sm (fun p => p * w p) l) (rb := sm w l + l) (by omega) hl (fun cnt' n' f' bd' h1 h2 h3 => ih fu cnt' n' f' bd' (by omega) (by omega) h1 h2 h3) (w (l + 1)) N cnt n f bd (by omega) (by omega) hs (by rw [d1] at hc; omega) (by omega)
theorem s_X4_text {N K : Nat} {f : Nat → Int32} (hN : NBig N) (hK : 100 ≤ K) (hp0 : OkD f) : Sf (fX4_text N K f) (fun (z : Unit) => True) := by
  have hN9 := hN.u
  have q0 : (0 : Int32).toInt = 0 := by decide
  obtain ⟨w, hw⟩ := hp0
  obtain ⟨g, a, b⟩ := j_init (N := N) (K := K)
  have h1 := hw.1
  have h2 := wp_le (w := w)
  unfold fX4_text
  rw [a, Option.bind_some]
  exact text_out (by omega) hw 20 N 0 16 g 41 (Nat.le_refl _) (by omega) b (by show (0 : Int32).toInt + 2 * ((wn w : Nat) : Int) ≤ 40; omega) (by show wp w + 20 ≤ 41; omega)

