/-! ===== the ledgers' methods on both sides ===== -/
def LT (r : Nat) (sz : Int32) (f g : Nat → Int32) : Prop := sz = Int32.ofNat (lcnt f) ∧ LOK r f ∧ LG f g
theorem LCK.eq {r : Nat} {f a b : Nat → Int32} {n : Nat} {c1 c1' c2 c2' c3 c3' t1 t1' t2 t2' t3 t3' : Int32} (h : LCK r f a n c1 c1' c2 c2' c3 c3') (g : LCK r f b n t1 t1' t2 t2' t3 t3') (hp : lphi r a = lphi r b) (hc : lcnt a = lcnt b) : ∃ w d e : Int32, c1' = c1 + w ∧ t1' = t1 + w ∧ c2' = c2 + d ∧ t2' = t2 + d ∧ c3' = c3 + e ∧ t3' = t3 + e := by
  obtain ⟨w, d, h0, h1, h2, h3, h4, h5⟩ := h
  obtain ⟨w', d', g0, g1, g2, g3, g4, g5⟩ := g
  obtain rfl : w' = w := by omega
  obtain rfl : d' = d := by omega
  exact ⟨_, _, _, h3, g3, h4, g4, h5, g5⟩
theorem lt_know {N K r a : Nat} {th0 th : Int32} {sz c0 c1 c2 c3 c4 c5 : Int32} {f g t u : Nat → Int32} (hN : 100 ≤ N) (hK : 100 ≤ K) (hr : r < 3) (hp0 : Rg (Int32.ofNat r) 0 2) (ha : a ≤ 20) (h : LT r sz f g) : ∃ v sz' f' c1' c2' c3' g' t' u', fX1_recall N K (Int32.ofNat r) sz f c0 c1 c2 c3 c4 c5 (Int32.ofNat a) = some (v, sz', f', c1', c2', c3') ∧ fX7_rule_24 N K th0 g t u (Int32.ofNat r) (Int32.ofNat a) N (0 : Int32) th g t u = some (v, th, g', dn t', u') ∧ LT r sz' f' g' ∧ TT c1 c2 c3 c1' c2' c3' t t' := by
  obtain ⟨h1, h2, h3⟩ := h
  obtain ⟨sz', f', c1', c2', c3', a1, a2, a3, a4⟩ := c_lrec (N := N) (c0 := c0) (c1 := c1) (c2 := c2) (c3 := c3) (c4 := c4) (c5 := c5) hN hK hr ha h2 h1
  obtain ⟨g', t', u', v, b1, b2, b3, b4, b5⟩ := m_rule_ (N := N) (K := K) (th0 := th0) (th := th) (t := t) (u := u) hN hr hp0 ha h2 h3
  have e : ∀ p, 1 ≤ p → p ≤ 20 → v p = f' p := by
    intro p p1 p2
    by_cases z : LRR r f a p
    · rw [(a2 p p1 p2).1 z, (b2 p p1 p2).1 z]
    · rw [(a2 p p1 p2).2 z, (b2 p p1 p2).2 z]
  refine ⟨_, sz', f', c1', c2', c3', g', t', u', a1, b1, ⟨a3, a2.ok h2, fun p p1 p2 => ?_⟩, LCK.eq a4 b4 (lphi_congr (fun p p1 p2 => (e p p1 p2).symm)) (lcnt_congr (fun p p1 p2 => (e p p1 p2).symm)), b5⟩
  rw [b3 p p1 p2, e p p1 p2]
theorem c_lkw {N K a : Nat} {ru sz : Int32} {f : Nat → Int32} (h1 : 1 ≤ a) (h2 : a ≤ 20) : fX1_keptWorth N K ru sz f (Int32.ofNat a) = some (f a) := by
  unfold fX1_keptWorth
  rw [if_neg (o_1le h1 (by omega)), if_pos (by rw [show (20 : Int32) = Int32.ofNat 20 from rfl, o_le (by omega) (by omega)]; exact h2), if_neg (o_ob (by omega) (by omega)), o_c (by omega)]
theorem c_lkeeps {N K a : Nat} {ru sz : Int32} {f : Nat → Int32} (h1 : 1 ≤ a) (h2 : a ≤ 20) : fX1_keeps N K ru sz f (Int32.ofNat a) = some (if f a = -1 then 0 else 1) := by
  unfold fX1_keeps
  rw [c_lkw h1 h2, Option.bind_some]
  by_cases e : f a = -1
  · rw [if_pos e, if_pos e]
  · rw [if_neg e, if_neg e]
theorem c_lkeeps0 {N K : Nat} {ru sz : Int32} {f : Nat → Int32} : fX1_keeps N K ru sz f (Int32.ofNat 0) = some 0 := by
  unfold fX1_keeps fX1_keptWorth
  rw [if_pos (by decide), Option.bind_some, if_pos rfl]
theorem c_ldrop {N K a : Nat} {ru sz : Int32} {f : Nat → Int32} (h1 : 1 ≤ a) (h2 : a ≤ 20) (e : ¬ f a = -1) : fX1_drop N K ru sz f (Int32.ofNat a) = some (sz - 1, upd f a (-1)) := by
  unfold fX1_drop
  rw [if_neg (o_1le h1 (by omega)), if_neg (n_20 h2), if_neg (o_ob (by omega) (by omega)), o_c (by omega), if_neg e, if_neg (o_ob2 (by omega) (by omega))]
/-- the mark -/
def lms (f : Nat → Int32) : Nat → Int32
  | 0 => 0
  | n + 1 => lms f n + (if f (n + 1) = -1 then 0 else Int32.ofNat (n + 1) ^^^ f (n + 1))
theorem c_lmark_ {N K : Nat} {ru sz : Int32} {f : Nat → Int32} : ∀ k i fu, i + k = 20 → k < fu → fX1_mark_4 N K ru sz f fu (lms f i) (Int32.ofNat (i + 1)) = some (lms f 20) := by
  intro k
  induction k with
  | zero =>
    intro i fu hi hfu
    obtain ⟨fu, rfl⟩ : ∃ m, fu = m + 1 := ⟨fu - 1, by omega⟩
    obtain rfl : i = 20 := by omega
    unfold fX1_mark_4
    rw [if_pos (by decide)]
  | succ k ih =>
    intro i fu hi hfu
    obtain ⟨fu, rfl⟩ : ∃ m, fu = m + 1 := ⟨fu - 1, by omega⟩
    have e := ih (i + 1) fu (by omega) (by omega)
    have es : lms f (i + 1) = lms f i + (if f (i + 1) = -1 then 0 else Int32.ofNat (i + 1) ^^^ f (i + 1)) := rfl
    rw [es] at e
    unfold fX1_mark_4
    rw [if_neg (n_20 (by omega)), if_neg (o_ob (by omega) (by omega)), o_c (by omega)]
    unfold fX1_mark_31
    rw [o_1]
    by_cases c : f (i + 1) = -1
    · rw [if_pos c]
      rw [if_pos c, Int32.add_zero] at e
      exact e
    · rw [if_neg c, if_neg (o_ob2 (by omega) (by omega))]
      rw [if_neg c] at e
      exact e
theorem m_lt_ {N K r : Nat} {th : Int32} {f g : Nat → Int32} (hr : r < 3) (hp0 : Rg (Int32.ofNat r) 0 2) (hf : LOK r f) (hg : LG f g) {w : Nat} (hw : w < 2) : ∀ k i fu, i + k = 20 → k < fu → fX7_ledgerTold_5 N K th g (Int32.ofNat r) (Int32.ofNat w) fu (if w = 0 then Int32.ofNat (sm (fun p => if f p = -1 then 0 else 1) i) else lms f i) (Int32.ofNat (i + 1)) = some (if w = 0 then Int32.ofNat (lcnt f) else lms f 20) := by
  intro k
  induction k with
  | zero =>
    intro i fu hi hfu
    obtain ⟨fu, rfl⟩ : ∃ m, fu = m + 1 := ⟨fu - 1, by omega⟩
    obtain rfl : i = 20 := by omega
    unfold fX7_ledgerTold_5
    rw [if_pos (by decide)]
    rfl
  | succ k ih =>
    intro i fu hi hfu
    obtain ⟨fu, rfl⟩ : ∃ m, fu = m + 1 := ⟨fu - 1, by omega⟩
    have e := ih (i + 1) fu (by omega) (by omega)
    have es : lms f (i + 1) = lms f i + (if f (i + 1) = -1 then 0 else Int32.ofNat (i + 1) ^^^ f (i + 1)) := rfl
    have et : sm (fun p => if f p = -1 then 0 else 1) (i + 1) = sm (fun p => if f p = -1 then 0 else 1) i + (if f (i + 1) = -1 then 0 else 1) := rfl
    rw [es, et] at e
    obtain ⟨-, z2⟩ := hg.z hr hf (show 1 ≤ i + 1 by omega) (show i + 1 ≤ 20 by omega)
    have hgi := hg (i + 1) (by omega) (by omega)
    unfold fX7_ledgerTold_5
    rw [if_neg (n_20 (by omega)), if_neg hp0.mm, if_neg (o_ob (by omega) (by omega)), o_c (by omega)]
    unfold fX7_ledgerTold_45 fX7_ledgerTold_47
    rw [o_1]
    by_cases c : f (i + 1) = -1
    · rw [if_pos (z2.mpr c)]
      rw [if_pos c, if_pos c, Int32.add_zero, Nat.add_zero] at e
      exact e
    · rw [if_neg (fun z => c (z2.mp z))]
      rw [if_neg c, if_neg c] at e
      rw [if_neg c] at hgi
      by_cases w0 : w = 0
      · subst w0
        rw [if_pos rfl, if_pos rfl] at e
        rw [if_pos (by decide), if_pos rfl, if_pos rfl, o_1]
        exact e
      · rw [if_neg w0, if_neg w0] at e
        rw [if_neg (by rw [show (0 : Int32) = Int32.ofNat 0 from rfl, o_eq (by omega) (by omega)]; exact w0), if_neg hp0.mm, if_neg (o_ob2 (by omega) (by omega)), if_neg w0, if_neg w0, hgi]
        exact e
theorem m_lt {N K r : Nat} {th : Int32} {f g : Nat → Int32} (hN : 100 ≤ N) (hr : r < 3) (hp0 : Rg (Int32.ofNat r) 0 2) (hf : LOK r f) (hg : LG f g) {w : Nat} (hw : w < 2) : fX7_ledgerTold N K th g (Int32.ofNat r) (Int32.ofNat w) = some (if w = 0 then Int32.ofNat (lcnt f) else lms f 20) := by
  have e := m_lt_ (N := N) (K := K) (th := th) hr hp0 hf hg hw 20 0 N rfl (by omega)
  have z : (if w = 0 then Int32.ofNat (sm (fun p => if f p = -1 then 0 else 1) 0) else lms f 0) = 0 := by
    by_cases w0 : w = 0
    · rw [if_pos w0]; rfl
    · rw [if_neg w0]; rfl
  rw [z] at e
  exact e
theorem m_fr_ {N K r a : Nat} {th0 th l3 : Int32} {g0 t0 t g : Nat → Int32} (hp0 : Rg (Int32.ofNat r) 0 2) (ha : a ≤ 20) : ∀ k i fu (g' : Nat → Int32), i + k = 21 → 1 ≤ i → k < fu → (∀ p, g' p = if p < i ∧ 1 ≤ p ∧ (a = 0 ∨ a = p) then 0 else g p) → ∃ g2, fX7_forgetRule_60 N K th0 g0 t0 (Int32.ofNat r) (Int32.ofNat a) fu l3 (Int32.ofNat i) th g' t = some (l3, th, g2, dn t) ∧ ∀ p, g2 p = if p < 21 ∧ 1 ≤ p ∧ (a = 0 ∨ a = p) then 0 else g p := by
  intro k
  induction k with
  | zero =>
    intro i fu g' hi i1 hfu h
    obtain ⟨fu, rfl⟩ : ∃ m, fu = m + 1 := ⟨fu - 1, by omega⟩
    obtain rfl : i = 21 := by omega
    refine ⟨g', ?_, h⟩
    unfold fX7_forgetRule_60
    rw [if_pos (by decide), m_done, Option.bind_some]
  | succ k ih =>
    intro i fu g' hi i1 hfu h
    obtain ⟨fu, rfl⟩ : ∃ m, fu = m + 1 := ⟨fu - 1, by omega⟩
    have put : (a = 0 ∨ a = i) → ∀ p, upd g' i 0 p = if p < i + 1 ∧ 1 ≤ p ∧ (a = 0 ∨ a = p) then 0 else g p := by
      intro ht p
      unfold upd
      by_cases e : p = i
      · rw [if_pos e, if_pos ⟨by omega, by omega, by rw [e]; exact ht⟩]
      · rw [if_neg e, h p]
        by_cases c : p < i ∧ 1 ≤ p ∧ (a = 0 ∨ a = p)
        · rw [if_pos c, if_pos ⟨by omega, c.2.1, c.2.2⟩]
        · rw [if_neg c, if_neg (fun z => c ⟨by omega, z.2.1, z.2.2⟩)]
    unfold fX7_forgetRule_60
    rw [if_neg (n_20 (by omega))]
    unfold fX7_forgetRule_77 fX7_forgetRule_87
    rw [if_neg hp0.mm, if_neg (o_ob (by omega) (by omega)), o_1, o_c (by omega)]
    by_cases a0 : a = 0
    · rw [if_pos (by rw [a0]; decide)]
      exact ih (i + 1) fu _ (by omega) (by omega) (by omega) (put (Or.inl a0))
    · rw [if_neg (by rw [show (0 : Int32) = Int32.ofNat 0 from rfl, o_eq (by omega) (by omega)]; exact a0)]
      by_cases ai : a = i
      · rw [if_pos (by rw [ai])]
        exact ih (i + 1) fu _ (by omega) (by omega) (by omega) (put (Or.inr ai))
      · rw [if_neg (by rw [o_eq (by omega) (by omega)]; exact ai)]
        refine ih (i + 1) fu g' (by omega) (by omega) (by omega) (fun p => ?_)
        rw [h p]
        by_cases c : p < i ∧ 1 ≤ p ∧ (a = 0 ∨ a = p)
        · rw [if_pos c, if_pos ⟨by omega, c.2.1, c.2.2⟩]
        · rw [if_neg c, if_neg (fun z => c ⟨by omega, z.2.1, z.2.2⟩)]
theorem lcnt_none {f : Nat → Int32} (h : ∀ p, 1 ≤ p → p ≤ 20 → f p = -1) : lcnt f = 0 := by
  have e : lcnt f = sm (fun _ => 0) 20 := sm_congr (fun p p1 p2 => by rw [h p p1 p2]; exact if_pos rfl)
  rw [e]
  decide
theorem ty_rule {N K : Nat} {r : Nat} {th ru sz c0 c1 c2 c3 c4 c5 p0 p1 : Int32} {f g t u : Nat → Int32} (hN : NBig N) (hK : 100 ≤ K) (hr : r < 3) (hru : ru = Int32.ofNat r) (hp : Rg p0 0 2 → p0 = Int32.ofNat r) (h : LT r sz f g) : ∃ o y, fX5_rule N K ru sz f c0 c1 c2 c3 c4 c5 p0 p1 = some o ∧ fX7_rule N K th g t u p0 p1 = some y ∧ Ti true o y.2.1 (fun z => z.1 = y.1 ∧ LT r z.2.1 z.2.2.1 y.2.2.1 ∧ KT c0 c1 c2 c3 c4 t z.2.2.2.1 z.2.2.2.2.1 z.2.2.2.2.2.1 z.2.2.2.2.2.2 c4 y.2.2.2.1) (y.2.2.1 = g ∧ y.2.2.2.1 = t) := by
  have hN9 := hN.u
  have hN1 : 100 ≤ N := by omega
  by_cases d : Rg p0 0 2
  · by_cases q : Rg p1 0 20
    · subst hru
      obtain rfl := hp d
      obtain ⟨a, rfl, -, a2⟩ := Rg.n (a := 0) (b := 20) q (by omega) (by omega)
      obtain ⟨v, sz', f', c1', c2', c3', g', t', u', e1, e2, e3, e4⟩ := lt_know (N := N) (K := K) (th0 := th) (th := (0 : Int32)) (c0 := c0) (c1 := c1) (c2 := c2) (c3 := c3) (c4 := c4) (c5 := c5) (t := t) (u := u) hN1 hK hr d a2 h
      refine ⟨.inl (v, sz', f', c0 + (1 : Int32), c1', c2', c3'), (v, 0, g', dn t', u'), ?_, ?_, rfl, rfl, e3, (KT.tt e4).trans KT.done⟩
      · unfold fX5_rule
        rw [k_led1 d, xb_l, k_rng1 q, xb_l]
        rw [e1, Option.bind_some, k_act, Option.bind_some]
      · unfold fX7_rule
        rw [m_in d, Option.bind_some, m_in q, Option.bind_some]
        rw [m_th00, Option.bind_some, if_pos rfl]
        exact e2
    · refine ⟨(.inr "java/lang/IllegalArgumentException"), ((0 : Int32), 2, g, t, u), ?_, ?_, Or.inr ⟨rfl, rfl, rfl⟩, ⟨rfl, rfl⟩⟩
      · unfold fX5_rule
        rw [k_led1 d, xb_l, k_rng0 q, xb_r]
      · unfold fX7_rule
        rw [m_in d, Option.bind_some, m_out q, Option.bind_some]
        rw [m_th01, Option.bind_some, if_neg (by decide)]
  · by_cases q : Rg p1 0 20
    · refine ⟨(.inr "java/lang/IndexOutOfBoundsException"), ((0 : Int32), 1, g, t, u), ?_, ?_, Or.inl ⟨rfl, rfl⟩, ⟨rfl, rfl⟩⟩
      · unfold fX5_rule
        rw [k_led0 d, xb_r]
      · unfold fX7_rule
        rw [m_out d, Option.bind_some, m_in q, Option.bind_some]
        rw [m_th1, Option.bind_some, if_neg (by decide)]
    · refine ⟨(.inr "java/lang/IndexOutOfBoundsException"), ((0 : Int32), 1, g, t, u), ?_, ?_, Or.inl ⟨rfl, rfl⟩, ⟨rfl, rfl⟩⟩
      · unfold fX5_rule
        rw [k_led0 d, xb_r]
      · unfold fX7_rule
        rw [m_out d, Option.bind_some, m_out q, Option.bind_some]
        rw [m_th1, Option.bind_some, if_neg (by decide)]
theorem ty_forgetRule {N K : Nat} {r : Nat} {th ru sz c0 c1 c2 c3 c4 c5 p0 p1 : Int32} {f g t : Nat → Int32} (hN : NBig N) (hK : 100 ≤ K) (hr : r < 3) (hru : ru = Int32.ofNat r) (hp : Rg p0 0 2 → p0 = Int32.ofNat r) (h : LT r sz f g) : ∃ o y, fX5_forgetRule N K ru sz f c0 c1 c2 c3 c4 c5 p0 p1 = some o ∧ fX7_forgetRule N K th g t p0 p1 = some y ∧ Ti true o y.2.1 (fun z => z.1 = y.1 ∧ LT r z.2.1 z.2.2.1 y.2.2.1 ∧ KT c0 c1 c2 c3 c4 t z.2.2.2.1 c1 c2 c3 z.2.2.2.2 y.2.2.2) (y.2.2.1 = g ∧ y.2.2.2 = t) := by
  have hN9 := hN.u
  have hN1 : 100 ≤ N := by omega
  by_cases d : Rg p0 0 2
  · by_cases q : Rg p1 0 20
    · subst hru
      obtain rfl := hp d
      obtain ⟨a, rfl, -, a2⟩ := Rg.n (a := 0) (b := 20) q (by omega) (by omega)
      obtain ⟨h1, h2, h3⟩ := id h
      by_cases a0 : a = 0
      · subst a0
        obtain ⟨f2, e1, e2⟩ := c_fill (N := N) (K := K) (n := 21) (f := f) (v := (-1 : Int32)) (by omega) (by omega)
        have hn : ∀ p, 1 ≤ p → p ≤ 20 → f2 p = -1 := fun p p1 p2 => (e2 p).trans (if_pos (by omega))
        obtain ⟨g2, i1, i2⟩ := m_fr_ (N := N) (K := K) (a := 0) (th0 := th) (th := (0 : Int32)) (l3 := sz) (g0 := g) (t0 := t) (t := t) (g := g) d (by omega) 20 1 N g (by omega) (by omega) (by omega) (fun p => by rw [if_neg (by omega)])
        have mt := m_lt (N := N) (K := K) (th := (0 : Int32)) hN1 hr d h2 h3 (w := 0) (by omega)
        have hT : LT r 0 f2 g2 := ⟨by rw [lcnt_none hn]; rfl, fun p p1 p2 => Or.inl (hn p p1 p2), fun p p1 p2 => by rw [i2 p, if_pos ⟨by omega, p1, Or.inl rfl⟩, hn p p1 p2, if_pos rfl]⟩
        rw [if_pos rfl, ← h1] at mt
        have mt' : fX7_ledgerTold N K (0 : Int32) g (Int32.ofNat r) (0 : Int32) = some sz := mt
        refine ⟨.inl (sz, (0 : Int32), f2, c0 + (1 : Int32), c4), (sz, 0, g2, dn t), ?_, ?_, rfl, rfl, hT, KT.done⟩
        · unfold fX5_forgetRule
          rw [k_led1 d, xb_l, k_rng1 q, xb_l]
          rw [if_pos (by decide)]
          unfold fX1_dropAll
          rw [e1, Option.bind_some, Option.bind_some, k_act, Option.bind_some]
        · unfold fX7_forgetRule
          rw [m_in d, Option.bind_some, m_in q, Option.bind_some]
          rw [m_th00, Option.bind_some, if_pos rfl]
          rw [if_pos (by decide), mt', Option.bind_some]
          unfold fX7_forgetRule_43 fX7_forgetRule_57
          rw [if_pos (by decide)]
          exact i1
      · have hgz := h3.z hr h2 (show 1 ≤ a by omega) a2
        have hga := h3 a (by omega) a2
        have hne : ¬ (Int32.ofNat a = (0 : Int32)) := by rw [show (0 : Int32) = Int32.ofNat 0 from rfl, o_eq (by omega) (by omega)]; exact a0
        by_cases e : f a = -1
        · refine ⟨.inl ((-9 : Int32), sz, f, c0, c4 + (1 : Int32)), ((-9 : Int32), 0, g, rf t), ?_, ?_, rfl, rfl, h, KT.refu⟩
          · unfold fX5_forgetRule
            rw [k_led1 d, xb_l, k_rng1 q, xb_l]
            rw [if_neg hne, c_lkeeps (by omega) a2, Option.bind_some, if_pos e, if_pos rfl, k_und, Option.bind_some]
          · unfold fX7_forgetRule
            rw [m_in d, Option.bind_some, m_in q, Option.bind_some]
            rw [m_th00, Option.bind_some, if_pos rfl]
            rw [if_neg hne, if_neg d.mm, if_neg (o_ob (by omega) (by omega)), o_c (by omega)]
            unfold fX7_forgetRule_43 fX7_forgetRule_57
            rw [if_neg (o_0lt (by omega) (by omega))]
            rw [if_pos (hgz.1.mpr e), m_ref, Option.bind_some]
        · rw [if_neg e] at hga
          have qq := lcnt_upd (f := f) (v := -1) (show 1 ≤ a by omega) a2
          rw [if_neg e, if_pos rfl] at qq
          obtain ⟨g2, i1, i2⟩ := m_fr_ (N := N) (K := K) (a := a) (th0 := th) (th := (0 : Int32)) (l3 := g a) (g0 := g) (t0 := t) (t := t) (g := g) d a2 20 1 N g (by omega) (by omega) (by omega) (fun p => by rw [if_neg (by omega)])
          have hT : LT r (sz - (1 : Int32)) (upd f a (-1 : Int32)) g2 := by
            refine ⟨by rw [h1, show lcnt f = lcnt (upd f a (-1)) + 1 from by omega, o_s1], fun p p1 p2 => ?_, fun p p1 p2 => ?_⟩
            · unfold upd
              by_cases z : p = a
              · rw [if_pos z]; exact Or.inl rfl
              · rw [if_neg z]; exact h2 p p1 p2
            · rw [i2 p]
              unfold upd
              by_cases z : p = a
              · rw [if_pos (show p < 21 ∧ 1 ≤ p ∧ (a = 0 ∨ a = p) from ⟨by omega, p1, Or.inr z.symm⟩), if_pos z, if_pos rfl]
              · rw [if_neg (show ¬ (p < 21 ∧ 1 ≤ p ∧ (a = 0 ∨ a = p)) from fun y => z (by omega)), if_neg z]; exact h3 p p1 p2
          refine ⟨.inl (f a, sz - (1 : Int32), upd f a (-1 : Int32), c0 + (1 : Int32), c4), (g a, 0, g2, dn t), ?_, ?_, rfl, hga.symm, hT, KT.done⟩
          · unfold fX5_forgetRule
            rw [k_led1 d, xb_l, k_rng1 q, xb_l]
            rw [if_neg hne, c_lkeeps (by omega) a2, Option.bind_some, if_neg e, if_neg (show ¬ ((1 : Int32) = 0) from by decide), c_lkw (by omega) a2, Option.bind_some, c_ldrop (by omega) a2 e, Option.bind_some, k_act, Option.bind_some]
          · unfold fX7_forgetRule
            rw [m_in d, Option.bind_some, m_in q, Option.bind_some]
            rw [m_th00, Option.bind_some, if_pos rfl]
            rw [if_neg hne, if_neg d.mm, if_neg (o_ob (by omega) (by omega)), o_c (by omega)]
            unfold fX7_forgetRule_43 fX7_forgetRule_57
            rw [if_neg (o_0lt (by omega) (by omega))]
            rw [if_neg (fun z => e (hgz.1.mp z))]
            exact i1
    · refine ⟨(.inr "java/lang/IllegalArgumentException"), ((0 : Int32), 2, g, t), ?_, ?_, Or.inr ⟨rfl, rfl, rfl⟩, ⟨rfl, rfl⟩⟩
      · unfold fX5_forgetRule
        rw [k_led1 d, xb_l, k_rng0 q, xb_r]
      · unfold fX7_forgetRule
        rw [m_in d, Option.bind_some, m_out q, Option.bind_some]
        rw [m_th01, Option.bind_some, if_neg (by decide)]
  · by_cases q : Rg p1 0 20
    · refine ⟨(.inr "java/lang/IndexOutOfBoundsException"), ((0 : Int32), 1, g, t), ?_, ?_, Or.inl ⟨rfl, rfl⟩, ⟨rfl, rfl⟩⟩
      · unfold fX5_forgetRule
        rw [k_led0 d, xb_r]
      · unfold fX7_forgetRule
        rw [m_out d, Option.bind_some, m_in q, Option.bind_some]
        rw [m_th1, Option.bind_some, if_neg (by decide)]
    · refine ⟨(.inr "java/lang/IndexOutOfBoundsException"), ((0 : Int32), 1, g, t), ?_, ?_, Or.inl ⟨rfl, rfl⟩, ⟨rfl, rfl⟩⟩
      · unfold fX5_forgetRule
        rw [k_led0 d, xb_r]
      · unfold fX7_forgetRule
        rw [m_out d, Option.bind_some, m_out q, Option.bind_some]
        rw [m_th1, Option.bind_some, if_neg (by decide)]
theorem ty_ledger {N K : Nat} {r : Nat} {th ru sz p0 p1 : Int32} {f g : Nat → Int32} (hN : NBig N) (hK : 100 ≤ K) (hr : r < 3) (hru : ru = Int32.ofNat r) (hp : Rg p0 0 2 → p0 = Int32.ofNat r) (h : LT r sz f g) : ∃ o y, fX5_ledger N K ru sz f p0 p1 = some o ∧ fX7_ledger N K th g p0 p1 = some y ∧ Ti true o y.2 (fun z => z = y.1) (True) := by
  have hN9 := hN.u
  have hN1 : 100 ≤ N := by omega
  by_cases d : Rg p0 0 2
  · by_cases q : Rg p1 0 1
    · subst hru
      obtain rfl := hp d
      obtain ⟨w, rfl, -, w2⟩ := Rg.n (a := 0) (b := 1) q (by omega) (by omega)
      obtain ⟨h1, h2, h3⟩ := id h
      have mt := m_lt (N := N) (K := K) (th := (0 : Int32)) hN1 hr d h2 h3 (w := w) (by omega)
      by_cases w0 : w = 0
      · subst w0
        rw [if_pos rfl, ← h1] at mt
        refine ⟨.inl sz, (sz, 0), ?_, ?_, rfl, rfl⟩
        · unfold fX5_ledger
          rw [k_led1 d, xb_l, k_rng1 q, xb_l]
          rw [if_pos (by decide)]
          rfl
        · unfold fX7_ledger
          rw [m_in d, Option.bind_some, m_in q, Option.bind_some]
          rw [m_th00, Option.bind_some, if_pos rfl]
          rw [mt, Option.bind_some]
      · rw [if_neg w0] at mt
        have em := c_lmark_ (N := N) (K := K) (ru := Int32.ofNat r) (sz := sz) (f := f) 20 0 N rfl (by omega)
        have em' : fX1_mark N K (Int32.ofNat r) sz f = some (lms f 20) := em
        refine ⟨.inl (lms f 20), (lms f 20, 0), ?_, ?_, rfl, rfl⟩
        · unfold fX5_ledger
          rw [k_led1 d, xb_l, k_rng1 q, xb_l]
          rw [if_neg (by rw [show (0 : Int32) = Int32.ofNat 0 from rfl, o_eq (by omega) (by omega)]; exact w0), em', Option.bind_some]
        · unfold fX7_ledger
          rw [m_in d, Option.bind_some, m_in q, Option.bind_some]
          rw [m_th00, Option.bind_some, if_pos rfl]
          rw [mt, Option.bind_some]
    · refine ⟨(.inr "java/lang/IllegalArgumentException"), ((0 : Int32), 2), ?_, ?_, Or.inr ⟨rfl, rfl, rfl⟩, trivial⟩
      · unfold fX5_ledger
        rw [k_led1 d, xb_l, k_rng0 q, xb_r]
      · unfold fX7_ledger
        rw [m_in d, Option.bind_some, m_out q, Option.bind_some]
        rw [m_th01, Option.bind_some, if_neg (by decide)]
  · by_cases q : Rg p1 0 1
    · refine ⟨(.inr "java/lang/IndexOutOfBoundsException"), ((0 : Int32), 1), ?_, ?_, Or.inl ⟨rfl, rfl⟩, trivial⟩
      · unfold fX5_ledger
        rw [k_led0 d, xb_r]
      · unfold fX7_ledger
        rw [m_out d, Option.bind_some, m_in q, Option.bind_some]
        rw [m_th1, Option.bind_some, if_neg (by decide)]
    · refine ⟨(.inr "java/lang/IndexOutOfBoundsException"), ((0 : Int32), 1), ?_, ?_, Or.inl ⟨rfl, rfl⟩, trivial⟩
      · unfold fX5_ledger
        rw [k_led0 d, xb_r]
      · unfold fX7_ledger
        rw [m_out d, Option.bind_some, m_out q, Option.bind_some]
        rw [m_th1, Option.bind_some, if_neg (by decide)]
theorem ty_ruleWorth {N K : Nat} {r : Nat} {th ru sz p0 p1 p2 : Int32} {f g : Nat → Int32} (hN : NBig N) (hK : 100 ≤ K) (hr : r < 3) (hru : ru = Int32.ofNat r) (hp : Rg p0 0 2 → p0 = Int32.ofNat r) (h : LT r sz f g) : ∃ o y, fX5_ruleWorth N K ru sz f p0 p1 p2 = some o ∧ fX7_ruleWorth N K th g p0 p1 p2 = some y ∧ Ti true o y.2 (fun z => z = y.1) (True) := by
  have hN9 := hN.u
  have hN1 : 100 ≤ N := by omega
  by_cases d : Rg p0 0 2
  · by_cases q : Rg p1 0 20
    · by_cases r : Rg p2 0 1
      · subst hru
        obtain rfl := hp d
        obtain ⟨a, rfl, -, a2⟩ := Rg.n (a := 0) (b := 20) q (by omega) (by omega)
        obtain ⟨h1, h2, h3⟩ := id h
        by_cases a0 : a = 0
        · subst a0
          refine ⟨.inl (-1 : Int32), ((-1 : Int32), 0), ?_, ?_, rfl, rfl⟩
          · unfold fX5_ruleWorth
            rw [k_led1 d, xb_l, k_rng1 q, xb_l, k_rng1 r, xb_l]
            rw [c_lkeeps0, Option.bind_some, if_pos rfl]
          · unfold fX7_ruleWorth
            rw [m_in d, Option.bind_some, m_in q, Option.bind_some, if_pos rfl, m_in r, Option.bind_some, if_pos rfl]
            unfold fX7_ruleWorth_31
            rw [m_th00, Option.bind_some, if_pos rfl]
            rw [if_pos (by decide)]
        · have hgz := h3.z hr h2 (show 1 ≤ a by omega) a2
          have hga := h3 a (by omega) a2
          have hne : ¬ (Int32.ofNat a = (0 : Int32)) := by rw [show (0 : Int32) = Int32.ofNat 0 from rfl, o_eq (by omega) (by omega)]; exact a0
          by_cases e : f a = -1
          · refine ⟨.inl (-1 : Int32), ((-1 : Int32), 0), ?_, ?_, rfl, rfl⟩
            · unfold fX5_ruleWorth
              rw [k_led1 d, xb_l, k_rng1 q, xb_l, k_rng1 r, xb_l]
              rw [c_lkeeps (by omega) a2, Option.bind_some, if_pos e, if_pos rfl]
            · unfold fX7_ruleWorth
              rw [m_in d, Option.bind_some, m_in q, Option.bind_some, if_pos rfl, m_in r, Option.bind_some, if_pos rfl]
              unfold fX7_ruleWorth_31
              rw [m_th00, Option.bind_some, if_pos rfl]
              rw [if_neg hne, if_neg d.mm, if_neg (o_ob (by omega) (by omega)), o_c (by omega)]
              rw [if_pos (hgz.1.mpr e)]
          · rw [if_neg e] at hga
            refine ⟨.inl (f a), (g a, 0), ?_, ?_, rfl, hga.symm⟩
            · unfold fX5_ruleWorth
              rw [k_led1 d, xb_l, k_rng1 q, xb_l, k_rng1 r, xb_l]
              rw [c_lkeeps (by omega) a2, Option.bind_some, if_neg e, if_neg (show ¬ ((1 : Int32) = 0) from by decide), c_lkw (by omega) a2, Option.bind_some]
            · unfold fX7_ruleWorth
              rw [m_in d, Option.bind_some, m_in q, Option.bind_some, if_pos rfl, m_in r, Option.bind_some, if_pos rfl]
              unfold fX7_ruleWorth_31
              rw [m_th00, Option.bind_some, if_pos rfl]
              rw [if_neg hne, if_neg d.mm, if_neg (o_ob (by omega) (by omega)), o_c (by omega)]
              rw [if_neg (fun z => e (hgz.1.mp z)), if_neg d.mm, if_neg (o_ob2 (by omega) (by omega))]
      · refine ⟨(.inr "java/lang/IllegalArgumentException"), ((0 : Int32), 2), ?_, ?_, Or.inr ⟨rfl, rfl, rfl⟩, trivial⟩
        · unfold fX5_ruleWorth
          rw [k_led1 d, xb_l, k_rng1 q, xb_l, k_rng0 r, xb_r]
        · unfold fX7_ruleWorth
          rw [m_in d, Option.bind_some, m_in q, Option.bind_some, if_pos rfl, m_out r, Option.bind_some, if_neg (by decide)]
          unfold fX7_ruleWorth_26 fX7_ruleWorth_31
          rw [m_th01, Option.bind_some, if_neg (by decide)]
    · by_cases r : Rg p2 0 1
      · refine ⟨(.inr "java/lang/IllegalArgumentException"), ((0 : Int32), 2), ?_, ?_, Or.inr ⟨rfl, rfl, rfl⟩, trivial⟩
        · unfold fX5_ruleWorth
          rw [k_led1 d, xb_l, k_rng0 q, xb_r]
        · unfold fX7_ruleWorth
          rw [m_in d, Option.bind_some, m_out q, Option.bind_some, if_neg (by decide)]
          unfold fX7_ruleWorth_26 fX7_ruleWorth_31
          rw [m_th01, Option.bind_some, if_neg (by decide)]
      · refine ⟨(.inr "java/lang/IllegalArgumentException"), ((0 : Int32), 2), ?_, ?_, Or.inr ⟨rfl, rfl, rfl⟩, trivial⟩
        · unfold fX5_ruleWorth
          rw [k_led1 d, xb_l, k_rng0 q, xb_r]
        · unfold fX7_ruleWorth
          rw [m_in d, Option.bind_some, m_out q, Option.bind_some, if_neg (by decide)]
          unfold fX7_ruleWorth_26 fX7_ruleWorth_31
          rw [m_th01, Option.bind_some, if_neg (by decide)]
  · by_cases q : Rg p1 0 20
    · by_cases r : Rg p2 0 1
      · refine ⟨(.inr "java/lang/IndexOutOfBoundsException"), ((0 : Int32), 1), ?_, ?_, Or.inl ⟨rfl, rfl⟩, trivial⟩
        · unfold fX5_ruleWorth
          rw [k_led0 d, xb_r]
        · unfold fX7_ruleWorth
          rw [m_out d, Option.bind_some, m_in q, Option.bind_some, if_pos rfl, m_in r, Option.bind_some, if_pos rfl]
          unfold fX7_ruleWorth_31
          rw [m_th1, Option.bind_some, if_neg (by decide)]
      · refine ⟨(.inr "java/lang/IndexOutOfBoundsException"), ((0 : Int32), 1), ?_, ?_, Or.inl ⟨rfl, rfl⟩, trivial⟩
        · unfold fX5_ruleWorth
          rw [k_led0 d, xb_r]
        · unfold fX7_ruleWorth
          rw [m_out d, Option.bind_some, m_in q, Option.bind_some, if_pos rfl, m_out r, Option.bind_some, if_neg (by decide)]
          unfold fX7_ruleWorth_26 fX7_ruleWorth_31
          rw [m_th1, Option.bind_some, if_neg (by decide)]
    · by_cases r : Rg p2 0 1
      · refine ⟨(.inr "java/lang/IndexOutOfBoundsException"), ((0 : Int32), 1), ?_, ?_, Or.inl ⟨rfl, rfl⟩, trivial⟩
        · unfold fX5_ruleWorth
          rw [k_led0 d, xb_r]
        · unfold fX7_ruleWorth
          rw [m_out d, Option.bind_some, m_out q, Option.bind_some, if_neg (by decide)]
          unfold fX7_ruleWorth_26 fX7_ruleWorth_31
          rw [m_th1, Option.bind_some, if_neg (by decide)]
      · refine ⟨(.inr "java/lang/IndexOutOfBoundsException"), ((0 : Int32), 1), ?_, ?_, Or.inl ⟨rfl, rfl⟩, trivial⟩
        · unfold fX5_ruleWorth
          rw [k_led0 d, xb_r]
        · unfold fX7_ruleWorth
          rw [m_out d, Option.bind_some, m_out q, Option.bind_some, if_neg (by decide)]
          unfold fX7_ruleWorth_26 fX7_ruleWorth_31
          rw [m_th1, Option.bind_some, if_neg (by decide)]
