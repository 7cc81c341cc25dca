/-! ===== the greatest part; own turned ===== -/
def grf (w : Nat → Nat) : Nat → Nat
  | 0 => 0
  | n + 1 => if w (n + 1) = 0 then grf w n else n + 1
def gr (w : Nat → Nat) : Nat := grf w 20
theorem grf_le {w : Nat → Nat} : ∀ n, grf w n ≤ n := by
  intro n
  induction n with
  | zero => exact Nat.le_refl _
  | succ n ih =>
    unfold grf
    by_cases e : w (n + 1) = 0
    · rw [if_pos e]; omega
    · rw [if_neg e]; exact Nat.le_refl _
theorem m_gr_ {N K : Nat} {f : Nat → Int32} {w : Nat → Nat} (hf : Dk f w) : ∀ n fu, n ≤ 20 → n < fu → fX7_greatest_3 N K f fu (Int32.ofNat n) = some (Int32.ofNat (grf w n)) := by
  intro n
  induction n with
  | zero =>
    intro fu _ hfu
    obtain ⟨fu, rfl⟩ : ∃ m, fu = m + 1 := ⟨fu - 1, by omega⟩
    unfold fX7_greatest_3
    rw [if_pos (by decide)]
    rfl
  | succ n ih =>
    intro fu hn hfu
    obtain ⟨fu, rfl⟩ : ∃ m, fu = m + 1 := ⟨fu - 1, by omega⟩
    have a1 := wn_le1 (w := w) (p := n + 1) (by omega) hn
    have b1 := hf.1
    unfold fX7_greatest_3 grf
    rw [if_neg (o_0lt (by omega) (by omega)), if_neg (o_ob (by omega) (by omega)), o_c (by omega), hf.2 _ (by omega) hn, o_m1]
    by_cases e : w (n + 1) = 0
    · rw [if_pos (by rw [e]; rfl), if_pos e]
      exact ih fu (by omega) (by omega)
    · rw [if_neg (by rw [show (0 : Int32) = Int32.ofNat 0 from rfl, o_eq (by omega) (by omega)]; exact e), if_neg e]
theorem m_gr {N K : Nat} (hN : 100 ≤ N) {f : Nat → Int32} {w : Nat → Nat} (hf : Dk f w) : fX7_greatest N K f = some (Int32.ofNat (gr w)) := m_gr_ hf 20 N (Nat.le_refl _) (by omega)
theorem c_none_ {N K : Nat} {f : Nat → Int32} {w : Nat → Nat} (hf : Dk f w) {p : Nat} (hp : p ≤ 20) : ∀ n fu, n ≤ 20 → n < fu → fX4_hasNoneAbove_3 N K f (Int32.ofNat p) fu (Int32.ofNat n) = some (bi (decide (grf w n ≤ p))) := by
  intro n
  induction n with
  | zero =>
    intro fu _ hfu
    obtain ⟨fu, rfl⟩ : ∃ m, fu = m + 1 := ⟨fu - 1, by omega⟩
    unfold fX4_hasNoneAbove_3
    rw [if_pos (by rw [o_le (by omega) (by omega)]; omega), decide_eq_true (by show grf w 0 ≤ p; exact Nat.zero_le _)]
    rfl
  | succ n ih =>
    intro fu hn hfu
    obtain ⟨fu, rfl⟩ : ∃ m, fu = m + 1 := ⟨fu - 1, by omega⟩
    have a1 := wn_le1 (w := w) (p := n + 1) (by omega) hn
    have b1 := hf.1
    have g1 := grf_le (w := w) (n + 1)
    unfold fX4_hasNoneAbove_3
    by_cases e0 : n + 1 ≤ p
    · rw [if_pos (by rw [o_le (by omega) (by omega)]; exact e0), decide_eq_true (by omega)]
      rfl
    · rw [if_neg (by rw [o_le (by omega) (by omega)]; exact e0), if_neg (o_1le (by omega) (by omega)), if_neg (o_ob (by omega) (by omega)), o_c (by omega), hf.2 _ (by omega) hn, o_m1]
      unfold grf
      by_cases e : w (n + 1) = 0
      · rw [if_pos (by rw [e]; decide), if_pos e]
        exact ih fu (by omega) (by omega)
      · rw [if_neg (o_0lt (by omega) (by omega)), if_neg e, decide_eq_false (by omega)]
        rfl
theorem c_none {N K : Nat} (hN : 100 ≤ N) {f : Nat → Int32} {w : Nat → Nat} (hf : Dk f w) {p : Nat} (hp : p ≤ 20) : fX4_hasNoneAbove N K f (Int32.ofNat p) = some (bi (decide (gr w ≤ p))) := c_none_ hf hp 20 N (Nat.le_refl _) (by omega)
/-- the i-th part from the greatest on -/
def paf (w : Nat → Nat) (i : Nat) : Nat → Nat
  | 0 => 0
  | n + 1 => if tl w (20 - n) < i then paf w i n else n + 1
def pa (w : Nat → Nat) (i : Nat) : Nat := paf w i 20
theorem tl_s {w : Nat → Nat} {n : Nat} (h : n < 20) : tl w (20 - n) = tl w (19 - n) + w (n + 1) := by
  obtain ⟨j, hj⟩ : ∃ j, 20 - n = j + 1 := ⟨19 - n, by omega⟩
  rw [hj, show 19 - n = j from by omega, show n + 1 = 20 - j from by omega]
  rfl
theorem m_pa_ {N K : Nat} {f : Nat → Int32} {w : Nat → Nat} (hf : Dk f w) {i : Nat} (hi : i ≤ 20) : ∀ n fu, n ≤ 20 → n < fu → fX7_partAt_5 N K f (Int32.ofNat i) fu (Int32.ofNat (tl w (20 - n))) (Int32.ofNat n) = some (Int32.ofNat (paf w i n)) := by
  intro n
  induction n with
  | zero =>
    intro fu _ hfu
    obtain ⟨fu, rfl⟩ : ∃ m, fu = m + 1 := ⟨fu - 1, by omega⟩
    unfold fX7_partAt_5
    rw [if_pos (by decide)]
    rfl
  | succ n ih =>
    intro fu hn hfu
    obtain ⟨fu, rfl⟩ : ∃ m, fu = m + 1 := ⟨fu - 1, by omega⟩
    have ht := tl_s (w := w) (n := n) (by omega)
    have hl := tl_le (w := w) (m := 20 - n) (by omega)
    have b1 := hf.1
    unfold fX7_partAt_5 paf
    rw [if_neg (o_0lt (by omega) (by omega)), if_neg (o_ob (by omega) (by omega)), o_c (by omega), hf.2 _ (by omega) hn, o_add, o_m1, show 20 - (n + 1) = 19 - n from by omega, ← ht]
    by_cases e : tl w (20 - n) < i
    · rw [if_pos (by rw [o_lt (by omega) (by omega)]; exact e), if_pos e]
      exact ih fu (by omega) (by omega)
    · rw [if_neg (by rw [o_lt (by omega) (by omega)]; exact e), if_neg e]
theorem m_pa {N K : Nat} (hN : 100 ≤ N) {f : Nat → Int32} {w : Nat → Nat} (hf : Dk f w) {i : Nat} (hi : i ≤ 20) : fX7_partAt N K f (Int32.ofNat i) = some (Int32.ofNat (pa w i)) := m_pa_ hf hi 20 N (Nat.le_refl _) (by omega)
theorem paf_le {w : Nat → Nat} {i : Nat} : ∀ n, paf w i n ≤ n := by
  intro n
  induction n with
  | zero => exact Nat.le_refl _
  | succ n ih =>
    unfold paf
    by_cases e : tl w (20 - n) < i
    · rw [if_pos e]; omega
    · rw [if_neg e]; exact Nat.le_refl _
theorem paf_iff {w : Nat → Nat} {i l : Nat} (hl : 1 ≤ l) : ∀ n, n ≤ 20 → (l ≤ paf w i n ↔ l ≤ n ∧ i ≤ tl w (21 - l)) := by
  intro n
  induction n with
  | zero => intro _; show l ≤ 0 ↔ _; omega
  | succ n ih =>
    intro hn
    have h := ih (by omega)
    unfold paf
    by_cases e : tl w (20 - n) < i
    · rw [if_pos e, h]
      constructor
      · rintro ⟨a, b⟩; exact ⟨by omega, b⟩
      · rintro ⟨a, b⟩
        refine ⟨?_, b⟩
        by_cases e2 : l = n + 1
        · rw [e2, show 21 - (n + 1) = 20 - n from by omega] at b; omega
        · omega
    · rw [if_neg e]
      constructor
      · intro a
        have := tl_mono (w := w) (m := 20 - n) (n := 21 - l) (by omega)
        exact ⟨a, by omega⟩
      · rintro ⟨a, -⟩; exact a
theorem pa_iff {w : Nat → Nat} {i l : Nat} (h1 : 1 ≤ l) (h2 : l ≤ 20) : l ≤ pa w i ↔ i ≤ tl w (21 - l) := by
  unfold pa
  rw [paf_iff h1 20 (Nat.le_refl _)]
  exact ⟨fun h => h.2, fun h => ⟨h2, h⟩⟩
/-- how many of the tails up to n are l or more -/
def cge (w : Nat → Nat) (l : Nat) : Nat → Nat
  | 0 => 0
  | n + 1 => cge w l n + (if l ≤ tl w (n + 1) then 1 else 0)
theorem tl_upm {u : Nat → Nat} {t v : Nat} (h1 : 1 ≤ t) (h2 : t ≤ 20) : ∀ m, m ≤ 20 → tl (upm u t v) m + (if 21 ≤ m + t then u t else 0) = tl u m + (if 21 ≤ m + t then v else 0) := by
  intro m
  induction m with
  | zero => intro _; rw [if_neg (by omega), if_neg (by omega)]; rfl
  | succ m ih =>
    intro hm
    have h := ih (by omega)
    have e1 : tl (upm u t v) (m + 1) = tl (upm u t v) m + upm u t v (20 - m) := rfl
    have e2 : tl u (m + 1) = tl u m + u (20 - m) := rfl
    rw [e1, e2]
    by_cases e : 20 - m = t
    · rw [if_neg (by omega), if_neg (by omega)] at h
      rw [if_pos (by omega), if_pos (by omega), e, upm_at]
      omega
    · have e3 : upm u t v (20 - m) = u (20 - m) := by unfold upm; rw [if_neg e]
      rw [e3]
      by_cases e4 : 21 ≤ m + t
      · rw [if_pos e4, if_pos e4] at h
        rw [if_pos (by omega), if_pos (by omega)]
        omega
      · rw [if_neg e4, if_neg e4] at h
        rw [if_neg (by omega), if_neg (by omega)]
        omega
theorem tl_cn {w : Nat → Nat} (hw : wn w ≤ 20) {l : Nat} (h1 : 1 ≤ l) (h2 : l ≤ 20) : ∀ m, m ≤ 20 → tl (cn w m) (21 - l) = cge w l m := by
  intro m
  induction m with
  | zero =>
    intro _
    show tl (fun _ => 0) (21 - l) = 0
    have z : ∀ k, tl (fun _ => 0) k = 0 := by
      intro k
      induction k with
      | zero => rfl
      | succ k ih => show tl (fun _ => 0) k + 0 = 0; rw [ih]
    exact z _
  | succ m ih =>
    intro hm
    have h := ih (by omega)
    have ht := tl_le (w := w) hm
    show tl (if tl w (m + 1) = 0 then cn w m else upm (cn w m) (tl w (m + 1)) (cn w m (tl w (m + 1)) + 1)) (21 - l) = cge w l m + (if l ≤ tl w (m + 1) then 1 else 0)
    by_cases e : tl w (m + 1) = 0
    · rw [if_pos e, if_neg (by omega), h]; rfl
    · rw [if_neg e]
      have u := tl_upm (u := cn w m) (t := tl w (m + 1)) (v := cn w m (tl w (m + 1)) + 1) (by omega) (by omega) (21 - l) (by omega)
      by_cases e2 : l ≤ tl w (m + 1)
      · rw [if_pos (by omega), if_pos (by omega)] at u
        rw [if_pos e2]
        omega
      · rw [if_neg (by omega), if_neg (by omega)] at u
        rw [if_neg e2]
        omega
theorem cge_le {w : Nat → Nat} {l : Nat} : ∀ n, cge w l n ≤ n := by
  intro n
  induction n with
  | zero => exact Nat.le_refl _
  | succ n ih =>
    show cge w l n + (if l ≤ tl w (n + 1) then 1 else 0) ≤ n + 1
    by_cases e : l ≤ tl w (n + 1)
    · rw [if_pos e]; omega
    · rw [if_neg e]; omega
theorem cge_iff {w : Nat → Nat} {l : Nat} : ∀ n i, 1 ≤ i → i ≤ n → (i ≤ cge w l n ↔ l ≤ tl w (n + 1 - i)) := by
  intro n
  induction n with
  | zero => intro i a b; omega
  | succ n ih =>
    intro i a b
    show i ≤ cge w l n + (if l ≤ tl w (n + 1) then 1 else 0) ↔ _
    have hle := cge_le (w := w) (l := l) n
    by_cases e : l ≤ tl w (n + 1)
    · rw [if_pos e]
      by_cases e1 : i = 1
      · rw [e1, show n + 1 + 1 - 1 = n + 1 from by omega]
        exact ⟨fun _ => e, fun _ => by omega⟩
      · have h := ih (i - 1) (by omega) (by omega)
        rw [show n + 1 - (i - 1) = n + 1 + 1 - i from by omega] at h
        rw [← h]
        omega
    · rw [if_neg e]
      have mono := tl_mono (w := w) (m := n + 1 + 1 - i) (n := n + 1) (by omega)
      constructor
      · intro h
        exfalso
        have h2 := (ih i a (by omega)).mp (by omega)
        have mono2 := tl_mono (w := w) (m := n + 1 - i) (n := n + 1) (by omega)
        omega
      · intro h; omega
theorem pa_turn {w : Nat → Nat} (hw : wn w ≤ 20) {i : Nat} (h1 : 1 ≤ i) (h2 : i ≤ 20) : pa (turnw w) i = tl w (21 - i) := by
  have key : ∀ l, 1 ≤ l → l ≤ 20 → (l ≤ pa (turnw w) i ↔ l ≤ tl w (21 - i)) := by
    intro l a b
    have e : tl (turnw w) (21 - l) = cge w l 20 := tl_cn hw a b 20 (Nat.le_refl _)
    rw [pa_iff a b, e, cge_iff 20 i h1 h2]
  have b1 : pa (turnw w) i ≤ 20 := paf_le 20
  have b2 : tl w (21 - i) ≤ 20 := Nat.le_trans (tl_le (by omega)) hw
  by_cases c1 : pa (turnw w) i = 0
  · by_cases c2 : tl w (21 - i) = 0
    · omega
    · have := (key (tl w (21 - i)) (by omega) b2).mpr (Nat.le_refl _)
      omega
  · have k1 := (key (pa (turnw w) i) (by omega) b1).mp (Nat.le_refl _)
    have k2 := (key (tl w (21 - i)) (by omega) b2).mpr (Nat.le_refl _)
    omega
theorem tl_congr {u v : Nat → Nat} (h : ∀ p, 1 ≤ p → p ≤ 20 → u p = v p) : ∀ m, m ≤ 20 → tl u m = tl v m := by
  intro m
  induction m with
  | zero => intro _; rfl
  | succ m ih =>
    intro hm
    show tl u m + u (20 - m) = tl v m + v (20 - m)
    rw [ih (by omega), h (20 - m) (by omega) (by omega)]
theorem pa_congr {u v : Nat → Nat} (h : ∀ p, 1 ≤ p → p ≤ 20 → u p = v p) (i : Nat) : pa u i = pa v i := by
  have z : ∀ n, n ≤ 20 → paf u i n = paf v i n := by
    intro n
    induction n with
    | zero => intro _; rfl
    | succ n ih =>
      intro hn
      unfold paf
      rw [tl_congr h (20 - n) (by omega), ih (by omega)]
  exact z 20 (Nat.le_refl _)
theorem pa_inj {u v : Nat → Nat} (hu : wp u ≤ 20) (hv : wp v ≤ 20) (h : ∀ i, 1 ≤ i → i ≤ 20 → pa u i = pa v i) : ∀ p, 1 ≤ p → p ≤ 20 → u p = v p := by
  have bu : ∀ m, m ≤ 20 → tl u m ≤ 20 := fun m hm => Nat.le_trans (tl_mono hm) (by rw [tl_all]; exact hu)
  have bv : ∀ m, m ≤ 20 → tl v m ≤ 20 := fun m hm => Nat.le_trans (tl_mono hm) (by rw [tl_all]; exact hv)
  have key : ∀ l, 1 ≤ l → l ≤ 20 → tl u (21 - l) = tl v (21 - l) := by
    intro l a b
    have c1 := bu (21 - l) (by omega)
    have c2 := bv (21 - l) (by omega)
    have k : ∀ i, 1 ≤ i → i ≤ 20 → (i ≤ tl u (21 - l) ↔ i ≤ tl v (21 - l)) := by
      intro i d e
      rw [← pa_iff a b, ← pa_iff a b, h i d e]
    by_cases z1 : tl u (21 - l) = 0
    · by_cases z2 : tl v (21 - l) = 0
      · omega
      · have := (k (tl v (21 - l)) (by omega) c2).mpr (Nat.le_refl _)
        omega
    · have k1 := (k (tl u (21 - l)) (by omega) c1).mp (Nat.le_refl _)
      have k2 := (k (tl v (21 - l)) (by omega) c2).mpr
      by_cases z2 : tl v (21 - l) ≤ tl u (21 - l)
      · omega
      · have := k2 (Nat.le_refl _)
        omega
  intro p a b
  have e1 := tl_s (w := u) (n := p - 1) (by omega)
  have e2 := tl_s (w := v) (n := p - 1) (by omega)
  have k1 := key p a b
  rw [show 20 - (p - 1) = 21 - p from by omega, show 19 - (p - 1) = 20 - p from by omega, show p - 1 + 1 = p from by omega] at e1 e2
  by_cases c : p = 20
  · subst c
    have t0 : tl u (20 - 20) = 0 := rfl
    have t1 : tl v (20 - 20) = 0 := rfl
    omega
  · have k2 := key (p + 1) (by omega) (by omega)
    rw [show 21 - (p + 1) = 20 - p from by omega] at k2
    omega
/-- the reference's test: part by part -/
def ownf (w : Nat → Nat) : Nat → Bool
  | 0 => true
  | n + 1 => if pa w (n + 1) = tl w (20 - n) then ownf w n else false
theorem ownf_iff {w : Nat → Nat} : ∀ n, ownf w n = true ↔ ∀ i, 1 ≤ i → i ≤ n → pa w i = tl w (21 - i) := by
  intro n
  induction n with
  | zero => exact ⟨fun _ i a b => by omega, fun _ => rfl⟩
  | succ n ih =>
    unfold ownf
    by_cases e : pa w (n + 1) = tl w (20 - n)
    · rw [if_pos e, ih]
      constructor
      · intro h i a b
        by_cases c : i = n + 1
        · rw [c, e, show 21 - (n + 1) = 20 - n from by omega]
        · exact h i a (by omega)
      · intro h i a b
        exact h i a (by omega)
    · rw [if_neg e]
      constructor
      · intro h; exact absurd h (by decide)
      · intro h
        have := h (n + 1) (by omega) (Nat.le_refl _)
        rw [show 21 - (n + 1) = 20 - n from by omega] at this
        exact absurd this e
theorem own_eq {w : Nat → Nat} (hw : wn w ≤ 20) : eqw w (turnw w) = true ↔ ownf w 20 = true := by
  rw [eqw_iff, ownf_iff]
  constructor
  · intro h i a b
    rw [pa_congr h i, pa_turn hw a b]
  · intro h
    have wt := wn_turn hw
    exact pa_inj (Nat.le_trans wp_le hw) (Nat.le_trans wp_le (by omega)) (fun i a b => by rw [pa_turn hw a b]; exact h i a b)
theorem own_gr {w : Nat → Nat} (hw : wn w ≤ 20) (h : ownf w 20 = true) : wp w = gr w := by
  have h1 := (ownf_iff 20).mp h 1 (Nat.le_refl _) (by omega)
  rw [show 21 - 1 = 20 from rfl, tl_all] at h1
  rw [← h1]
  have z : ∀ n, n ≤ 20 → paf w 1 n = grf w n ∨ (tl w (20 - n) ≠ 0) := by
    intro n
    induction n with
    | zero => intro _; exact Or.inl rfl
    | succ n ih =>
      intro hn
      by_cases e : tl w (20 - (n + 1)) = 0
      · refine Or.inl ?_
        have ht := tl_s (w := w) (n := n) (by omega)
        rw [show 20 - (n + 1) = 19 - n from by omega] at e
        unfold paf grf
        by_cases c : w (n + 1) = 0
        · rw [if_pos (by omega), if_pos c]
          rcases ih (by omega) with a | a
          · exact a
          · exact absurd (show tl w (20 - n) = 0 by omega) a
        · rw [if_neg (by omega), if_neg c]
      · exact Or.inr e
  rcases z 20 (Nat.le_refl _) with a | a
  · exact a
  · exact absurd rfl a
theorem m_own_ {N K : Nat} (hN : 100 ≤ N) {f : Nat → Int32} {w : Nat → Nat} (hf : Dk f w) : ∀ n fu b, n ≤ 20 → n < fu → fX7_isOwnTurned_22 N K f fu (Int32.ofNat (tl w (20 - n))) (bi b) (Int32.ofNat n) = some (bi (b && ownf w n)) := by
  intro n
  induction n with
  | zero =>
    intro fu b _ hfu
    obtain ⟨fu, rfl⟩ : ∃ m, fu = m + 1 := ⟨fu - 1, by omega⟩
    unfold fX7_isOwnTurned_22 ownf
    rw [if_pos (by decide), if_pos (bi_ok b), Bool.and_true]
  | succ n ih =>
    intro fu b hn hfu
    obtain ⟨fu, rfl⟩ : ∃ m, fu = m + 1 := ⟨fu - 1, by omega⟩
    have ht := tl_s (w := w) (n := n) (by omega)
    have hl := tl_le (w := w) (m := 20 - n) (by omega)
    have b1 := hf.1
    have hp : pa w (n + 1) ≤ 20 := paf_le 20
    unfold fX7_isOwnTurned_22 ownf
    rw [if_neg (o_0lt (by omega) (by omega))]
    cases b with
    | false => rw [if_pos bif0, if_pos (bi_ok false), Bool.false_and]
    | true =>
      rw [if_neg (by decide), if_neg (o_ob (by omega) (by omega)), m_pa hN hf hn, Option.bind_some, o_c (by omega), hf.2 _ (by omega) hn, o_add, show 20 - (n + 1) = 19 - n from by omega, ← ht]
      by_cases e : pa w (n + 1) = tl w (20 - n)
      · rw [if_pos (by rw [o_eq (by omega) (by omega)]; exact e), if_pos e]
        unfold fX7_isOwnTurned_50
        rw [o_m1]
        exact ih fu true (by omega) (by omega)
      · rw [if_neg (by rw [o_eq (by omega) (by omega)]; exact e), if_neg e]
        unfold fX7_isOwnTurned_50
        rw [o_m1, Bool.and_false]
        have h := ih fu false (by omega) (by omega)
        rw [Bool.false_and] at h
        exact h
theorem m_own {N K : Nat} (hN : 100 ≤ N) {f : Nat → Int32} {w : Nat → Nat} (hf : Dk f w) : fX7_isOwnTurned N K f = some (bi (eqw w (turnw w))) := by
  have b1 := hf.1
  have b2 := wp_le (w := w)
  have b3 : gr w ≤ 20 := grf_le 20
  unfold fX7_isOwnTurned
  rw [m_parts hN hf.2, Option.bind_some, m_gr hN hf, Option.bind_some]
  by_cases e : ownf w 20 = true
  · rw [if_pos (by rw [o_eq (by omega) (by omega)]; exact own_gr hf.1 e), (own_eq hf.1).mpr e]
    unfold fX7_isOwnTurned_18
    have h := m_own_ (N := N) (K := K) hN hf 20 N true (Nat.le_refl _) (by omega)
    rw [e] at h
    exact h
  · have e2 : eqw w (turnw w) = false := Bool.eq_false_iff.mpr (fun z => e ((own_eq hf.1).mp z))
    rw [e2]
    by_cases c : wp w = gr w
    · rw [if_pos (by rw [o_eq (by omega) (by omega)]; exact c)]
      unfold fX7_isOwnTurned_18
      have h := m_own_ (N := N) (K := K) hN hf 20 N true (Nat.le_refl _) (by omega)
      rw [Bool.eq_false_iff.mpr e, Bool.and_false] at h
      exact h
    · rw [if_neg (by rw [o_eq (by omega) (by omega)]; exact c)]
      unfold fX7_isOwnTurned_18
      have h := m_own_ (N := N) (K := K) hN hf 20 N false (Nat.le_refl _) (by omega)
      rw [Bool.false_and] at h
      exact h
