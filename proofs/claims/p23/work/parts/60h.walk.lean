/-! ===== the ways one by one ===== -/
/-- a weight for each part: every step on takes at least 1 -/
def cw : Nat → Nat
  | 2 => 1 | 3 => 11 | 4 => 68 | 5 => 341 | 6 => 1365 | 7 => 4097 | 8 => 9560 | 9 => 19189 | 10 => 38380 | 11 => 76761 | 12 => 95951 | 13 => 105512 | 14 => 109610 | 15 => 110976 | 16 => 111318 | 17 => 111387 | 18 => 111399 | 19 => 111401 | 20 => 111402
  | _ => 0
theorem cw_ok : ∀ p, p < 21 → ∀ s, s < 21 → (2 ≤ p ∧ p ≤ s) → s / (p - 1) * cw (p - 1) + cw (s % (p - 1)) + 1 ≤ cw p := by decide +kernel
theorem cw_le : ∀ p, p < 21 → cw p ≤ 111402 := by decide +kernel
def nuw (w : Nat → Nat) : Nat := sm (fun p => w p * cw p) 20
theorem nu_upm {w : Nat → Nat} {p v : Nat} (h1 : 1 ≤ p) (h2 : p ≤ 20) : nuw (upm w p v) + w p * cw p = nuw w + v * cw p := by
  unfold nuw
  rw [show (fun q => upm w p v q * cw q) = upm (fun q => w q * cw q) p (v * cw p) from by
    funext q
    unfold upm
    by_cases e : q = p
    · rw [if_pos e, if_pos e, e]
    · rw [if_neg e, if_neg e]]
  exact sm_upm (g := fun q => w q * cw q) h1 h2
theorem nu_step {w : Nat → Nat} (hw : wn w ≤ 20) (h : ¬ lst w = 0) : nuw (stw w (lst w)) + 1 ≤ nuw w := by
  rcases lst_is w with e | ⟨h2, h3, h1⟩
  · exact absurd e h
  · generalize lst w = p at *
    have hs : p + w 1 ≤ 20 := by
      have a := wn_stg h2 h3 h1
      omega
    have ck := cw_ok p (by omega) (p + w 1) (by omega) ⟨h2, by omega⟩
    obtain ⟨v, hv⟩ : ∃ v, w p = v + 1 := ⟨w p - 1, by omega⟩
    have a := nu_upm (w := w) (p := p) (v := v) (by omega) h3
    have b := nu_upm (w := upm w p v) (p := 1) (v := 0) (by omega) (by omega)
    rw [hv, Nat.add_mul] at a
    have c1 : cw 1 = 0 := rfl
    rw [c1] at b
    have hst : stg w p = upm (upm w p v) 1 0 := by unfold stg; rw [hv, show v + 1 - 1 = v from by omega]
    rw [← hst] at b
    have d := nu_upm (w := stg w p) (p := p - 1) (v := stg w p (p - 1) + (p + w 1) / (p - 1)) (by omega) (by omega)
    rw [Nat.add_mul] at d
    have lt : (p + w 1) % (p - 1) < p - 1 := Nat.mod_lt _ (by omega)
    unfold stw
    by_cases e : (p + w 1) % (p - 1) = 0
    · simp only [e, if_true]
      omega
    · simp only [e, if_false]
      have f := nu_upm (w := upm (stg w p) (p - 1) (stg w p (p - 1) + (p + w 1) / (p - 1))) (p := (p + w 1) % (p - 1)) (v := upm (stg w p) (p - 1) (stg w p (p - 1) + (p + w 1) / (p - 1)) ((p + w 1) % (p - 1)) + 1) (by omega) (by omega)
      rw [Nat.add_mul] at f
      omega
theorem nu_first {n : Nat} (h : n ≤ 20) : nuw (firstw n) ≤ 111402 := by
  unfold firstw
  have z : nuw (fun _ => 0) = 0 := by decide
  by_cases e : n = 0
  · rw [if_pos e, z]; omega
  · rw [if_neg e]
    have a := nu_upm (w := fun _ => 0) (p := n) (v := 1) (by omega) h
    have b := cw_le n (by omega)
    rw [z] at a
    omega
theorem m_bit {N K : Nat} {b : Bool} : fX7_bit N K (bi b) = some (bi b) := by
  unfold fX7_bit
  cases b
  · rw [if_pos bif0]; rfl
  · rw [if_neg bitn]; rfl
theorem bi_add {v : Int32} {b : Bool} {n : Nat} (h0 : 0 ≤ v.toInt) (h1 : v.toInt ≤ (n : Int)) (hn : n < 2000000000) : 0 ≤ (v + bi b).toInt ∧ (v + bi b).toInt ≤ (n : Int) + 1 := by
  have q : 0 ≤ (bi b).toInt ∧ (bi b).toInt ≤ 1 := by cases b <;> decide
  rw [addI (by omega) (by omega)]
  omega
theorem walk_ {N K : Nat} (hN : 100 ≤ N) {fw0 fs0 : Nat → Int32} {p1 : Int32} {k m : Nat} (hk : k ≤ 7) (hm : m ≤ 20) : ∀ n w (l4 : Int32) (l5 fx fy : Nat) (fw fs e : Nat → Int32), nuw w ≤ n → Dk fw w → Dk e w → l5 + nuw w < 1000000 → n < fx → n < fy → 0 ≤ l4.toInt → l4.toInt ≤ (l5 : Int) → ∃ v fw' fs', fX5_waysOneByOne_14 N K fw0 fs0 (Int32.ofNat k) p1 (Int32.ofNat m) fx l4 (Int32.ofNat l5) fw fs = some (v, fw', fs') ∧ fX7_walked_8 N K (Int32.ofNat k) p1 (Int32.ofNat m) fy l4 e = some v ∧ 0 ≤ v.toInt ∧ v.toInt ≤ ((l5 + nuw w + 1 : Nat) : Int) := by
  intro n
  induction n with
  | zero =>
    intro w l4 l5 fx fy fw fs e hn hw he hb h1 h2 hl0 hl1
    obtain ⟨fx, rfl⟩ : ∃ m, fx = m + 1 := ⟨fx - 1, by omega⟩
    obtain ⟨fy, rfl⟩ : ∃ m, fy = m + 1 := ⟨fy - 1, by omega⟩
    obtain ⟨fs', a1⟩ := c_kind (N := N) (K := K) hN (fs := fs) hw hk hm
    obtain ⟨g1, b1, b2⟩ := c_step (N := N) (K := K) hN hw
    obtain ⟨g2, d1, d2⟩ := m_step (N := N) (K := K) hN he
    have hl : lst w = 0 := by
      by_cases z : lst w = 0
      · exact z
      · have := nu_step hw.1 z
        omega
    rw [if_pos hl] at b1 d1
    have hbi := bi_add (v := l4) (b := kindb w m k) (n := l5) hl0 hl1 (by omega)
    refine ⟨l4 + bi (kindb w m k), g1, fs', ?_, ?_, hbi.1, by omega⟩
    · unfold fX5_waysOneByOne_14
      rw [if_neg (by rw [show (1000000 : Int32) = Int32.ofNat 1000000 from rfl, o_le (by omega) (by omega)]; omega), a1, Option.bind_some]
      cases kindb w m k with
      | false =>
        rw [if_pos bif0]
        unfold fX5_waysOneByOne_41
        rw [b1, Option.bind_some, if_pos rfl, show l4 + bi false = l4 from Int32.add_zero l4]
      | true =>
        rw [if_neg bitn]
        unfold fX5_waysOneByOne_41
        rw [b1, Option.bind_some, if_pos rfl]
        rfl
    · unfold fX7_walked_8
      rw [m_kind hN he hk hm, Option.bind_some, m_bit, Option.bind_some, d1, Option.bind_some, if_pos rfl]
  | succ n ih =>
    intro w l4 l5 fx fy fw fs e hn hw he hb h1 h2 hl0 hl1
    obtain ⟨fx, rfl⟩ : ∃ m, fx = m + 1 := ⟨fx - 1, by omega⟩
    obtain ⟨fy, rfl⟩ : ∃ m, fy = m + 1 := ⟨fy - 1, by omega⟩
    obtain ⟨fs', a1⟩ := c_kind (N := N) (K := K) hN (fs := fs) hw hk hm
    obtain ⟨g1, b1, b2⟩ := c_step (N := N) (K := K) hN hw
    obtain ⟨g2, d1, d2⟩ := m_step (N := N) (K := K) hN he
    have hx : fX5_waysOneByOne_14 N K fw0 fs0 (Int32.ofNat k) p1 (Int32.ofNat m) (fx + 1) l4 (Int32.ofNat l5) fw fs = fX5_waysOneByOne_41 N K fw0 fs0 (Int32.ofNat k) p1 (Int32.ofNat m) (fX5_waysOneByOne_14 N K fw0 fs0 (Int32.ofNat k) p1 (Int32.ofNat m) fx) (l4 + bi (kindb w m k)) (Int32.ofNat l5) fw fs' := by
      conv => lhs; unfold fX5_waysOneByOne_14
      rw [if_neg (by rw [show (1000000 : Int32) = Int32.ofNat 1000000 from rfl, o_le (by omega) (by omega)]; omega), a1, Option.bind_some]
      cases kindb w m k with
      | false => rw [if_pos bif0, show l4 + bi false = l4 from Int32.add_zero l4]
      | true => rw [if_neg bitn]; rfl
    have hy : fX7_walked_8 N K (Int32.ofNat k) p1 (Int32.ofNat m) (fy + 1) l4 e = ((fX7_isNext N K e).bind (fun x23 => (if x23.1 = 0 then (some (l4 + bi (kindb w m k))) else fX7_walked_8 N K (Int32.ofNat k) p1 (Int32.ofNat m) fy (l4 + bi (kindb w m k)) x23.2))) := by
      conv => lhs; unfold fX7_walked_8
      rw [m_kind hN he hk hm, Option.bind_some, m_bit, Option.bind_some]
    rw [hx, hy]
    unfold fX5_waysOneByOne_41
    rw [b1, d1, Option.bind_some, Option.bind_some]
    have hbi := bi_add (v := l4) (b := kindb w m k) (n := l5) hl0 hl1 (by omega)
    by_cases hl : lst w = 0
    · rw [if_pos hl]
      exact ⟨_, _, _, by rw [if_pos rfl], by rw [if_pos rfl], hbi.1, by omega⟩
    · have st := nu_step hw.1 hl
      rw [if_neg hl] at b2 d2
      rw [if_neg hl]
      obtain ⟨v, fw', fs2, r1, r2, r3, r4⟩ := ih (stw w (lst w)) (l4 + bi (kindb w m k)) (l5 + 1) fx fy g1 fs' g2 (by omega) b2 d2 (by omega) (by omega) (by omega) hbi.1 (by omega)
      refine ⟨v, fw', fs2, ?_, ?_, r3, by omega⟩
      · rw [if_neg (show ¬ ((1 : Int32) = 0) from by decide), o_1]; exact r1
      · rw [if_neg (show ¬ ((1 : Int32) = 0) from by decide)]; exact r2
theorem walk_n {N K : Nat} (hN : NBig N) {fw fs : Nat → Int32} {k n m : Nat} (hk : k ≤ 7) (hn : n ≤ 20) (hm : m ≤ 20) : ∃ v fw' fs', fX5_waysOneByOne N K fw fs (Int32.ofNat k) (Int32.ofNat n) (Int32.ofNat m) = some (v, fw', fs') ∧ fX7_walked N K (Int32.ofNat k) (Int32.ofNat n) (Int32.ofNat m) = some v ∧ 0 ≤ v.toInt ∧ v.toInt ≤ 111403 := by
  have hN9 := hN.u
  have hN1 : 100 ≤ N := by omega
  obtain ⟨g1, a1, a2⟩ := c_first (N := N) (K := K) hN1 (f := fw) hn
  obtain ⟨g2, b1, b2⟩ := m_first (N := N) (K := K) hn
  have hv := nu_first hn
  unfold fX5_waysOneByOne fX7_walked
  rw [a1, b1, Option.bind_some, Option.bind_some]
  obtain ⟨v, fw', fs', e1, e2, e3, e4⟩ := walk_ (fw0 := fw) (fs0 := fs) (p1 := Int32.ofNat n) hN1 hk hm (nuw (firstw n)) (firstw n) 0 0 N N g1 fs g2 (Nat.le_refl _) a2 b2 (by omega) (by omega) (by omega) (by decide) (by decide)
  exact ⟨v, fw', fs', e1, e2, e3, by omega⟩
theorem ty_walk {N K : Nat} {th : Int32} {fw fs : Nat → Int32} {p0 p1 p2 : Int32} (hN : NBig N) (hK : 100 ≤ K) : ∃ o y, fX5_walk N K fw fs p0 p1 p2 = some o ∧ fX7_walk N K th p0 p1 p2 = some y ∧ Tj o y.2 (fun z => z.1 = y.1) := by
  by_cases h : Rg p0 0 7 ∧ Rg p1 0 20 ∧ Rg p2 0 20
  · obtain ⟨h0, h1, h2⟩ := h
    have a1 := k_any1 (N := N) (K := K) h0 h1 h2
    have b0 := m_in (N := N) (K := K) h0
    have b1 := m_in (N := N) (K := K) h1
    have b2 := m_in (N := N) (K := K) h2
    obtain ⟨k, rfl, -, k2⟩ := Rg.n (a := 0) (b := 7) h0 (by omega) (by omega)
    obtain ⟨n, rfl, -, n2⟩ := Rg.n (a := 0) (b := 20) h1 (by omega) (by omega)
    obtain ⟨m, rfl, -, m2⟩ := Rg.n (a := 0) (b := 20) h2 (by omega) (by omega)
    obtain ⟨v, fw', fs', e1, e2, -, -⟩ := walk_n (N := N) (K := K) hN (fw := fw) (fs := fs) k2 n2 m2
    refine ⟨.inl (v, fw', fs'), (v, 0), ?_, ?_, rfl, rfl⟩
    · unfold fX5_walk
      rw [a1, xb_l, e1, Option.bind_some]
    · unfold fX7_walk
      rw [b0, Option.bind_some, if_pos rfl, b1, Option.bind_some, if_pos rfl, b2, Option.bind_some, if_pos rfl]
      unfold fX7_walk_36
      rw [m_th00, Option.bind_some, if_pos rfl, e2, Option.bind_some]
  · refine ⟨.inr "java/lang/IllegalArgumentException", (0, 1), ?_, ?_, rfl, rfl⟩
    · unfold fX5_walk
      rw [k_any0 h, xb_r]
    · have last : fX7_walk_31 N K th p0 p1 p2 th = some (0, 1) := by
        unfold fX7_walk_31 fX7_walk_36
        rw [m_th1, Option.bind_some, if_neg (by decide)]
      unfold fX7_walk
      by_cases h0 : Rg p0 0 7
      · rw [m_in h0, Option.bind_some, if_pos rfl]
        by_cases h1 : Rg p1 0 20
        · have h2 : ¬ Rg p2 0 20 := fun z => h ⟨h0, h1, z⟩
          rw [m_in h1, Option.bind_some, if_pos rfl, m_out h2, Option.bind_some, if_neg (by decide), last]
        · rw [m_out h1, Option.bind_some, if_neg (by decide), last]
      · rw [m_out h0, Option.bind_some, if_neg (by decide), last]
