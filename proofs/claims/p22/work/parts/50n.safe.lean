set_option maxHeartbeats 2000000 in
theorem s_X5_wayText {N K : Nat} {f : Nat → Int32} {p0 : Int32} (hN : NBig N) (hK : 100 ≤ K) (hp0 : OkD f) : Sf (fX5_wayText N K f p0) (xP true false (fun (z : Unit) => True)) := by
  unfold fX5_wayText
  have ql0 : (0 : Int32).toInt = 0 := by decide
  refine sXb (s_X5_deskAt hN hK) (by decide) (by decide) (fun x2 b1 => ?_)
  obtain ⟨b1_0, -⟩ := b1
  replace b1_0 : (0 ≤ p0.toInt ∧ p0.toInt ≤ 1) := b1_0
  refine sBind (s_X4_text hN hK (by first | assumption | exact OkD.z)) (fun x5 b2 => ?_)
  exact sXl trivial
theorem wtext_in {N K : Nat} {th p0 : Int32} {f0 : Nat → Int32} {k : Int32 → Int32 → Int32 → Nat → (Nat → Int32) → Nat → Option Int32} {P : Int32 → Prop} (hN : 100 ≤ N) {th1 : Int32} {l rest rb : Nat} (h1 : 1 ≤ l) (h2 : l ≤ 20) (hk : ∀ (cnt : Int32) (n : Nat) (f : Nat → Int32) (bd : Nat), SBo cnt n f → cnt.toInt + 2 * (rest : Int) ≤ 40 → rb ≤ bd → Sf (k (Int32.ofNat (l - 1)) th1 cnt n f bd) P) : ∀ (v fu : Nat) (cnt : Int32) (n : Nat) (f : Nat → Int32) (bd : Nat), v ≤ 20 → v < fu → SBo cnt n f → cnt.toInt + 2 * ((l * v + rest : Nat) : Int) ≤ 40 → v + 1 + rb ≤ bd → Sf (fX7_wayText_42 N K th f0 p0 k fu (Int32.ofNat l) (Int32.ofNat v) th1 cnt n f bd) P := by
  intro v
  obtain ⟨l', rfl⟩ : ∃ l', l = l' + 1 := ⟨l - 1, by omega⟩
  induction v with
  | zero =>
    intro fu cnt n f bd _ hfu hs hc hb
    obtain ⟨fu, rfl⟩ : ∃ m, fu = m + 1 := ⟨fu - 1, by omega⟩
    unfold fX7_wayText_42
    rw [if_neg (by omega), if_pos (by decide), o_m1]
    exact hk cnt n f (bd - 1) hs (by omega) (by omega)
  | succ v ih =>
    intro fu cnt n f bd hv hfu hs hc hb
    obtain ⟨fu, rfl⟩ : ∃ m, fu = m + 1 := ⟨fu - 1, by omega⟩
    rw [Nat.mul_succ] at hc
    unfold fX7_wayText_42
    rw [if_neg (by omega), if_neg (o_0lt (by omega) (by omega))]
    unfold fJ_length fJ_len
    rw [Option.bind_some, Option.bind_some, o_m1]
    refine sIf (fun h => ?_) (fun h => ?_)
    · obtain ⟨c', n', f', a1, a2, a3⟩ := j_appendI (K := K) hN hs (l := l' + 1) (by omega) h2 (by omega) (fun _ => by omega)
      rw [a1, Option.bind_some]
      exact ih fu c' n' f' (bd - 1) (by omega) (by omega) a3 (by omega) (by omega)
    · have q0 : (0 : Int32).toInt = 0 := by decide
      have h0 : ¬ cnt.toInt ≤ 0 := fun z => h (by rw [Int32.le_iff_toInt_le]; omega)
      obtain ⟨c1, n1, f1, b1, b2, b3⟩ := j_appendC (N := N) (K := K) hs (by omega)
      rw [b1, Option.bind_some]
      obtain ⟨c', n', f', a1, a2, a3⟩ := j_appendI (K := K) hN b3 (l := l' + 1) (by omega) h2 (by omega) (fun _ => by omega)
      show Sf ((fJ_appendI N K c1 n1 f1 (Int32.ofNat (l' + 1))).bind _) P
      rw [a1, Option.bind_some]
      exact ih fu c' n' f' (bd - 1) (by omega) (by omega) a3 (by omega) (by omega)
theorem wtext_out {N K : Nat} {th p0 th1 : Int32} {f0 : Nat → Int32} {w : Nat → Nat} (hN : 100 ≤ N) (hf : Dk f0 w) (hp : ¬ (p0 < 0 ∨ 2 ≤ p0.toNatClampNeg)) : ∀ (l fu : Nat) (cnt : Int32) (n : Nat) (f : Nat → Int32) (bd : Nat), l ≤ 20 → l < fu → SBo cnt n f → cnt.toInt + 2 * ((sm (fun p => p * w p) l : Nat) : Int) ≤ 40 → sm w l + l ≤ bd → Sf (fX7_wayText_28 N K th f0 p0 fu (Int32.ofNat l) th1 cnt n f bd) (fun z => z = th1) := by
  intro l
  induction l with
  | zero =>
    intro fu cnt n f bd _ hfu hs hc hb
    obtain ⟨fu, rfl⟩ : ∃ m, fu = m + 1 := ⟨fu - 1, by omega⟩
    unfold fX7_wayText_28
    rw [if_pos (by decide), j_toString hs, Option.bind_some]
    exact sRet rfl
  | succ l ih =>
    intro fu cnt n f bd hl hfu hs hc hb
    obtain ⟨fu, rfl⟩ : ∃ m, fu = m + 1 := ⟨fu - 1, by omega⟩
    have hwl := wn_le1 (w := w) (p := l + 1) (by omega) hl
    have hwn := hf.1
    have d1 : sm (fun p => p * w p) (l + 1) = sm (fun p => p * w p) l + (l + 1) * w (l + 1) := rfl
    have d2 : sm w (l + 1) = sm w l + w (l + 1) := rfl
    unfold fX7_wayText_28
    rw [if_neg (o_0lt (by omega) (by omega)), if_neg hp, if_neg (o_ob (by omega) (by omega)), o_c (by omega), hf.2 _ (by omega) hl]
    exact wtext_in hN (l := l + 1) (rest := sm (fun p => p * w p) l) (rb := sm w l + l) (by omega) hl (fun cnt' n' f' bd' h1 h2 h3 => ih fu cnt' n' f' bd' (by omega) (by omega) h1 h2 h3) (w (l + 1)) N cnt n f bd (by omega) (by omega) hs (by rw [d1] at hc; omega) (by omega)
theorem s_X7_wayText {N K : Nat} {th : Int32} {f : Nat → Int32} {p0 : Int32} (hN : NBig N) (hK : 100 ≤ K) (hp0 : OkD f) : Sf (fX7_wayText N K th f p0) (fun (z : Int32) => 0 ≤ z.toInt ∧ z.toInt ≤ 2 ∧ True) := by
  have hN9 := hN.u
  have q0 : (0 : Int32).toInt = 0 := by decide
  have q1 : (1 : Int32).toInt = 1 := by decide
  obtain ⟨w, hw⟩ := hp0
  obtain ⟨g, a, b⟩ := j_init (N := N) (K := K)
  have h1 := hw.1
  have h2 := wp_le (w := w)
  unfold fX7_wayText
  refine sBind (s_X7_isNo hN hK (by omega) (by omega) (by omega) (by omega)) (fun x4 y4 => ?_)
  obtain ⟨a1, a2, a3, -⟩ := y4
  refine sBind (s_X7_isThrown hN hK (by omega) (by omega) (by omega) (by omega)) (fun x8 y8 => ?_)
  obtain ⟨i1, i2, i3, i4, i5, i6, -⟩ := y8
  refine sIf (fun h => ?_) (fun _ => sRet ⟨i3, i4, trivial⟩)
  have h0 := congrArg Int32.toInt h
  rw [q0] at h0
  have u1 := a3 (by have := i5 h0; omega)
  rw [a, Option.bind_some]
  refine sMono (wtext_out (th := th) (by omega) hw (noob (by omega) (by omega)) 20 N 0 16 g 41 (Nat.le_refl _) (by omega) b (by show (0 : Int32).toInt + 2 * ((wn w : Nat) : Int) ≤ 40; omega) (by show wp w + 20 ≤ 41; omega)) (fun z hz => ?_)
  subst hz
  exact ⟨i3, i4, trivial⟩

set_option maxHeartbeats 2000000 in
theorem s_X6_init {N K : Nat} {nn : Int64} (hN : NBig N) (hK : 100 ≤ K)  : Sf (fX6_init N K nn) (fun (z : Unit) => True) := by
  unfold fX6_init
  have ql0 : (0 : Int32).toInt = 0 := by decide
  exact sRet trivial
