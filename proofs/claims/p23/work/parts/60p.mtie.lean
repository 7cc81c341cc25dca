/-! ===== a memory on both sides ===== -/
def MT (sz : Int32) (f g : Nat → Int32) : Prop := sz = Int32.ofNat (cnt f) ∧ OKF f ∧ (∀ k n m, k < 6 → n ≤ 20 → m ≤ 20 → g (cd k n m) = f (sl k n m)) ∧ ∀ c, c < 6144 → (∀ k n m, k < 6 → n ≤ 20 → m ≤ 20 → ¬ c = cd k n m) → g c = -1
theorem VV_congr {T S : Nat → Nat → Int32} {k : Nat} (h : ∀ n m, n ≤ 20 → m ≤ 20 → S n m = T n m) : ∀ d (x : Int) m, x.toNat + m < d → x ≤ 20 → m ≤ 20 → VV S k x m = VV T k x m := by
  intro d
  induction d with
  | zero => intro x m h; omega
  | succ d ih =>
    intro x m hd hx hm
    rw [VV_eq (T := S) hx hm, VV_eq (T := T) hx hm]
    by_cases r : rs x m = true
    · rw [if_pos r, if_pos r]
    · obtain ⟨g1, g2⟩ := rs_f r
      have l0 := leg_lt (k := k) (w := 0) (by omega) r
      have l1 := leg_lt (k := k) (w := 1) (by omega) r
      obtain ⟨e1, -, e2⟩ := leg_bd (k := k) (w := 0) hx hm r
      obtain ⟨e3, -, e4⟩ := leg_bd (k := k) (w := 1) hx hm r
      rw [if_neg r, if_neg r, ih _ _ (show (ln k 0 x m).toNat + lm k 0 m < d by omega) e1 e2, ih _ _ (show (ln k 1 x m).toNat + lm k 1 m < d by omega) e3 e4, h _ _ (show x.toNat ≤ 20 by omega) hm]
theorem RR_congr {T S : Nat → Nat → Int32} {k p q : Nat} (h : ∀ n m, n ≤ 20 → m ≤ 20 → S n m = T n m) : ∀ d (x : Int) m, x.toNat + m < d → x ≤ 20 → m ≤ 20 → (RR S k x m p q ↔ RR T k x m p q) := by
  intro d
  induction d with
  | zero => intro x m h; omega
  | succ d ih =>
    intro x m hd hx hm
    rw [RR_eq (T := S) hx hm, RR_eq (T := T) hx hm]
    by_cases r : rs x m = true
    · exact ⟨fun z => absurd r z.1, fun z => absurd r z.1⟩
    · obtain ⟨g1, g2⟩ := rs_f r
      have l0 := leg_lt (k := k) (w := 0) (by omega) r
      have l1 := leg_lt (k := k) (w := 1) (by omega) r
      obtain ⟨e1, -, e2⟩ := leg_bd (k := k) (w := 0) hx hm r
      obtain ⟨e3, -, e4⟩ := leg_bd (k := k) (w := 1) hx hm r
      rw [ih _ _ (show (ln k 0 x m).toNat + lm k 0 m < d by omega) e1 e2, ih _ _ (show (ln k 1 x m).toNat + lm k 1 m < d by omega) e3 e4, h _ _ (show x.toNat ≤ 20 by omega) hm]
theorem MT.tabs {sz : Int32} {f g : Nat → Int32} (h : MT sz f g) {k : Nat} (hk : k < 6) : ∀ n m, n ≤ 20 → m ≤ 20 → tabm g k n m = tab f k n m := fun n m hn hm => h.2.2.1 k n m hk hn hm
theorem MT.ok {sz : Int32} {f g : Nat → Int32} (h : MT sz f g) {k : Nat} (hk : k < 6) : OKT (tabm g k) := by
  intro n m hn hm
  rw [h.tabs hk n m hn hm]
  exact h.2.1 k hk n m hn hm
theorem MT.cell {sz : Int32} {f g : Nat → Int32} (h : MT sz f g) {k n m : Nat} (hk : k < 6) (hn : n ≤ 20) (hm : m ≤ 20) : f (sl k n m) = -1 ∨ (1 ≤ n ∧ 1 ≤ m ∧ 0 ≤ (f (sl k n m)).toInt ∧ (f (sl k n m)).toInt ≤ (tb n m : Int)) := h.2.1 k hk n m hn hm
theorem MT.nn {sz : Int32} {f g : Nat → Int32} (h : MT sz f g) {k n m : Nat} (hk : k < 6) (hn : n ≤ 20) (hm : m ≤ 20) : f (sl k n m) = -1 ∨ 0 ≤ (f (sl k n m)).toInt := by
  rcases h.cell hk hn hm with e | ⟨-, -, e, -⟩
  · exact Or.inl e
  · exact Or.inr e
theorem cntn_congr {f g : Nat → Int32} : ∀ n, (∀ s, s < n → g s = f s) → cntn g n = cntn f n := by
  intro n
  induction n with
  | zero => intro _; rfl
  | succ n ih =>
    intro h
    show cntn g n + (if g n = -1 then 0 else 1) = cntn f n + (if f n = -1 then 0 else 1)
    rw [ih (fun s hs => h s (by omega)), h n (by omega)]
/-- counts alike on both sides (of one of them at a time, beside each other) -/
theorem CK.eq {f a b : Nat → Int32} {r : Nat} {c1 c1' c2 c2' c3 c3' t1 t1' t2 t2' t3 t3' : Int32} (h : CK f a r c1 c1' c2 c2' c3 c3') (g : CK f b r t1 t1' t2 t2' t3 t3') (hp : phi a = phi b) (hc : cnt a = cnt b) : ∃ w d e : Int32, c1' = c1 + w ∧ t1' = t1 + w ∧ c2' = c2 + d ∧ t2' = t2 + d ∧ c3' = c3 + e ∧ t3' = t3 + e := by
  obtain ⟨w, d, h0, h1, h2, h3, h4, h5⟩ := h
  obtain ⟨w', d', g0, g1, g2, g3, g4, g5⟩ := g
  obtain rfl : w' = w := by omega
  obtain rfl : d' = d := by omega
  exact ⟨_, _, _, h3, g3, h4, g4, h5, g5⟩
/-- the tallies behind, as the counts behind -/
def TT (c1 c2 c3 c1' c2' c3' : Int32) (t t' : Nat → Int32) : Prop := (∃ w d e : Int32, c1' = c1 + w ∧ t' 1 = t 1 + w ∧ c2' = c2 + d ∧ t' 2 = t 2 + d ∧ c3' = c3 + e ∧ t' 3 = t 3 + e) ∧ ∀ i, ¬ i = 1 → ¬ i = 2 → ¬ i = 3 → t' i = t i
theorem TT.trans {c1 c2 c3 d1 d2 d3 e1 e2 e3 : Int32} {t t' t'' : Nat → Int32} (h : TT c1 c2 c3 d1 d2 d3 t t') (g : TT d1 d2 d3 e1 e2 e3 t' t'') : TT c1 c2 c3 e1 e2 e3 t t'' := by
  obtain ⟨⟨w, d, e, h1, h2, h3, h4, h5, h6⟩, h7⟩ := h
  obtain ⟨⟨w', d', e', g1, g2, g3, g4, g5, g6⟩, g7⟩ := g
  refine ⟨⟨w + w', d + d', e + e', ?_, ?_, ?_, ?_, ?_, ?_⟩, fun i a b c => (g7 i a b c).trans (h7 i a b c)⟩
  · rw [g1, h1, Int32.add_assoc]
  · rw [g2, h2, Int32.add_assoc]
  · rw [g3, h3, Int32.add_assoc]
  · rw [g4, h4, Int32.add_assoc]
  · rw [g5, h5, Int32.add_assoc]
  · rw [g6, h6, Int32.add_assoc]
theorem TT.r {c1 c2 c3 : Int32} {t : Nat → Int32} : TT c1 c2 c3 c1 c2 c3 t t := ⟨⟨0, 0, 0, (Int32.add_zero _).symm, (Int32.add_zero _).symm, (Int32.add_zero _).symm, (Int32.add_zero _).symm, (Int32.add_zero _).symm, (Int32.add_zero _).symm⟩, fun _ _ _ _ => rfl⟩
/-- a case known on both sides -/
theorem mt_know {N K k n m : Nat} {th p0 : Int32} {sz c0 c1 c2 c3 c4 c5 : Int32} {f g t u : Nat → Int32} (hN : NBig N) (hK : 100 ≤ K) (hk : k < 6) (hn : n ≤ 20) (hm : m ≤ 20) (hp0 : Rg p0 0 2) (h : MT sz f g) : ∃ v sz' f' c1' c2' c3' g' t' u', fX2_recall N K sz f c0 c1 c2 c3 c4 c5 (Int32.ofNat k) (Int32.ofNat n) (Int32.ofNat m) = some (v, sz', f', c1', c2', c3') ∧ fX7_known N K th g t u p0 (Int32.ofNat k) (Int32.ofNat n) (Int32.ofNat m) = some (v, g', t', u') ∧ MT sz' f' g' ∧ TT c1 c2 c3 c1' c2' c3' t t' := by
  have hN9 := hN.u
  obtain ⟨h1, h2, h3, h4⟩ := id h
  obtain ⟨sz', f', c1', c2', c3', a1, a2, a3, a4, a6, a5⟩ := c_recall (N := N) (c0 := c0) (c1 := c1) (c2 := c2) (c3 := c3) (c4 := c4) (c5 := c5) hk hn hm hK h2 h1
  have cg := h.tabs hk
  obtain ⟨g', t', u', v, b1, b2, b3, b4, b5, b6, b7⟩ := m_known (N := N) (K := K) (th := th) (t := t) (u := u) hk hp0 (by omega) hn hm (h.ok hk) cg
  rw [VV_congr cg ((n : Int).toNat + m + 1) (n : Int) m (by omega) (by omega) hm] at b1
  have same : ∀ p q, p ≤ 20 → q ≤ 20 → tabm g' k p q = tab f' k p q := by
    intro p q hp hq
    by_cases r : RR (tab f k) k (n : Int) m p q
    · rw [(a3 p q hp hq).1 r, (b2 p q hp hq).1 ((RR_congr cg ((n : Int).toNat + m + 1) (n : Int) m (by omega) (by omega) hm).mpr r)]
      exact VV_congr cg ((p : Int).toNat + q + 1) (p : Int) q (by omega) (by omega) hq
    · rw [(a3 p q hp hq).2 r, (b2 p q hp hq).2 (fun y => r ((RR_congr cg ((n : Int).toNat + m + 1) (n : Int) m (by omega) (by omega) hm).mp y))]
      exact cg p q hp hq
  have hvf : ∀ s, s < 2646 → v s = f' s := by
    intro s hs
    obtain ⟨j, p, q, hj, hp, hq, rfl⟩ : ∃ k n m, k < 6 ∧ n ≤ 20 ∧ m ≤ 20 ∧ s = sl k n m := ⟨s / 441, s / 21 % 21, s % 21, by omega, by omega, by omega, by unfold sl; omega⟩
    by_cases e : j = k
    · subst e
      exact (b4 p q hp hq).symm.trans (same p q hp hq)
    · rw [b5 _ (fun a b ha hb y => e (sl_inj hp hq ha hb y).1)]
      exact (a5 j e p q hp hq).symm
  obtain ck := CK.eq a6 b6 (phn_congr 2646 (fun s hs => (hvf s hs).symm)) (cntn_congr 2646 (fun s hs => (hvf s hs).symm))
  refine ⟨_, sz', f', c1', c2', c3', g', t', u', a1, b1, ⟨a2, a4, fun j p q hj hp hq => ?_, fun c hc z => ?_⟩, ck, b7⟩
  · by_cases e : j = k
    · subst e
      exact same p q hp hq
    · rw [b3 (cd j p q) (fun a b ha hb y => e (cd_inj hp hq ha hb y).1), h3 j p q hj hp hq]
      exact (a5 j e p q hp hq).symm
  · rw [b3 c (fun a b ha hb => z k a b hk ha hb)]
    exact h4 c hc z
/-! ===== one case ===== -/
theorem MT.put {sz sz' v : Int32} {f g : Nat → Int32} {k n m : Nat} (h : MT sz f g) (hk : k < 6) (hn : n ≤ 20) (hm : m ≤ 20) (hv : v = -1 ∨ (1 ≤ n ∧ 1 ≤ m ∧ 0 ≤ v.toInt ∧ v.toInt ≤ (tb n m : Int))) (hs : sz' = Int32.ofNat (cnt (upd f (sl k n m) v))) : MT sz' (upd f (sl k n m) v) (upd g (cd k n m) v) := by
  obtain ⟨h1, h2, h3, h4⟩ := h
  refine ⟨hs, fun j hj p q hp hq => ?_, fun j p q hj hp hq => ?_, fun c hc z => ?_⟩
  · by_cases e : j = k
    · subst e
      rw [tab_at hn hm hp hq]
      by_cases c : n = p ∧ m = q
      · rw [if_pos c]
        obtain ⟨rfl, rfl⟩ := c
        exact hv
      · rw [if_neg c]
        exact h2 j hj p q hp hq
    · rw [tab_ne e hn hm hp hq]
      exact h2 j hj p q hp hq
  · unfold upd
    by_cases e : j = k ∧ p = n ∧ q = m
    · obtain ⟨rfl, rfl, rfl⟩ := e
      rw [if_pos rfl, if_pos rfl]
    · rw [if_neg (fun y => e (cd_inj hp hq hn hm y)), if_neg (fun y => e (sl_inj hp hq hn hm y))]
      exact h3 j p q hj hp hq
  · unfold upd
    rw [if_neg (z k n m hk hn hm)]
    exact h4 c hc z
theorem c_kw {N K k n m : Nat} {sz : Int32} {f : Nat → Int32} (hk : k < 6) (hn : n ≤ 20) (hm : m ≤ 20) : fX2_keptWorth N K sz f (Int32.ofNat k) (Int32.ofNat n) (Int32.ofNat m) = some (f (sl k n m)) := by
  have hsl := sl_lt hk hn hm
  unfold fX2_keptWorth
  rw [c_slot hk hn hm, Option.bind_some, if_neg (o_m1ne (by omega)), if_neg (o_ob hsl (by omega)), o_c (by omega)]
theorem c_keeps {N K k n m : Nat} {sz : Int32} {f : Nat → Int32} (hk : k < 6) (hn : n ≤ 20) (hm : m ≤ 20) : fX2_keeps N K sz f (Int32.ofNat k) (Int32.ofNat n) (Int32.ofNat m) = some (if f (sl k n m) = -1 then 0 else 1) := by
  unfold fX2_keeps
  rw [c_kw hk hn hm, Option.bind_some]
  by_cases e : f (sl k n m) = -1
  · rw [if_pos e, if_pos e]
  · rw [if_neg e, if_neg e]
theorem c_keepsW {N K k n m : Nat} {sz v : Int32} {f : Nat → Int32} (hk : k < 6) (hn : n ≤ 20) (hm : m ≤ 20) : fX2_keepsWith N K sz f (Int32.ofNat k) (Int32.ofNat n) (Int32.ofNat m) v = some (if ¬ f (sl k n m) = -1 ∧ f (sl k n m) = v then 1 else 0) := by
  unfold fX2_keepsWith
  rw [c_keeps hk hn hm, Option.bind_some]
  by_cases e : f (sl k n m) = -1
  · rw [if_pos e, if_pos rfl, if_neg (fun z => z.1 e)]
  · rw [if_neg e, if_neg (by decide), c_kw hk hn hm, Option.bind_some]
    by_cases e2 : f (sl k n m) = v
    · rw [if_pos e2, if_pos ⟨e, e2⟩]
    · rw [if_neg e2, if_neg (fun z => e2 z.2)]
theorem c_keepsW1 {N K k n m : Nat} {sz v : Int32} {f : Nat → Int32} (hk : k < 6) (hn : n ≤ 20) (hm : m ≤ 20) (h : ¬ f (sl k n m) = -1 ∧ f (sl k n m) = v) : fX2_keepsWith N K sz f (Int32.ofNat k) (Int32.ofNat n) (Int32.ofNat m) v = some 1 := by rw [c_keepsW hk hn hm, if_pos h]
theorem c_keepsW0 {N K k n m : Nat} {sz v : Int32} {f : Nat → Int32} (hk : k < 6) (hn : n ≤ 20) (hm : m ≤ 20) (h : ¬ (¬ f (sl k n m) = -1 ∧ f (sl k n m) = v)) : fX2_keepsWith N K sz f (Int32.ofNat k) (Int32.ofNat n) (Int32.ofNat m) v = some 0 := by rw [c_keepsW hk hn hm, if_neg h]
theorem m_kept {N K k n m : Nat} {th p0 : Int32} {g : Nat → Int32} (hk : k < 6) (hn : n ≤ 20) (hm : m ≤ 20) (hp0 : Rg p0 0 2) : fX7_kept N K th g p0 (Int32.ofNat k) (Int32.ofNat n) (Int32.ofNat m) = some (g (cd k n m)) := by
  have hc := cd_lt hk hn hm
  unfold fX7_kept
  rw [if_neg hp0.mm, m_code, Option.bind_some, if_neg (o_ob hc (by omega)), o_c (by omega)]
theorem lt0 {v : Int32} : (v < 0) = (v.toInt < 0) := by
  have q0 : (0 : Int32).toInt = 0 := by decide
  rw [Int32.lt_iff_toInt_lt, q0]
theorem ge0 {v : Int32} : ((0 : Int32) ≤ v) = (0 ≤ v.toInt) := by
  have q0 : (0 : Int32).toInt = 0 := by decide
  rw [Int32.le_iff_toInt_le, q0]
theorem m1_t : (-1 : Int32).toInt = -1 := by decide
theorem m1_n {v : Int32} (h : 0 ≤ v.toInt) : ¬ v = -1 := by
  intro z
  rw [z, m1_t] at h
  omega
theorem cnt_put {f : Nat → Int32} {i : Nat} {v : Int32} (hi : i < 2646) (h : f i = -1) (hv : ¬ v = -1) : cnt (upd f i v) = cnt f + 1 := by
  have := cnt_upd (f := f) (v := v) hi
  rw [if_pos h, if_neg hv] at this
  omega
theorem cnt_again {f : Nat → Int32} {i : Nat} {v : Int32} (hi : i < 2646) (h : ¬ f i = -1) (hv : ¬ v = -1) : cnt (upd f i v) = cnt f := by
  have := cnt_upd (f := f) (v := v) hi
  rw [if_neg h, if_neg hv] at this
  omega
theorem cnt_off {f : Nat → Int32} {i : Nat} (hi : i < 2646) (h : ¬ f i = -1) : cnt f = cnt (upd f i (-1)) + 1 := by
  have := cnt_upd (f := f) (v := -1) hi
  rw [if_neg h, if_pos rfl] at this
  omega
theorem c_keep {N K k n m : Nat} {sz v : Int32} {f : Nat → Int32} (hk : k < 6) (hn : n ≤ 20) (hm : m ≤ 20) : fX2_keep N K sz f (Int32.ofNat k) (Int32.ofNat n) (Int32.ofNat m) v = some (if f (sl k n m) = -1 then sz + 1 else sz, upd f (sl k n m) v) := by
  have hsl := sl_lt hk hn hm
  unfold fX2_keep
  rw [c_slot hk hn hm, Option.bind_some, if_neg (o_m1ne (by omega)), if_neg (o_ob hsl (by omega)), o_c (by omega)]
  by_cases e : f (sl k n m) = -1
  · rw [if_pos e, if_pos e, if_neg (o_ob2 hsl (by omega))]
  · rw [if_neg e, if_neg e, if_neg (o_ob2 hsl (by omega))]
theorem c_drop {N K k n m : Nat} {sz : Int32} {f : Nat → Int32} (hk : k < 6) (hn : n ≤ 20) (hm : m ≤ 20) (e : ¬ f (sl k n m) = -1) : fX2_drop N K sz f (Int32.ofNat k) (Int32.ofNat n) (Int32.ofNat m) = some (sz - 1, upd f (sl k n m) (-1)) := by
  have hsl := sl_lt hk hn hm
  unfold fX2_drop
  rw [c_slot hk hn hm, Option.bind_some, if_neg (o_m1ne (by omega)), if_neg (o_ob hsl (by omega)), o_c (by omega), if_neg e, if_neg (o_ob2 hsl (by omega))]
/-! ===== scans ===== -/
def ss (h : Nat → Int32) : Nat → Int32
  | 0 => 0
  | n + 1 => ss h n + h n
theorem ss_row {hc hm : Nat → Int32} (e : ∀ k n m, k < 6 → n ≤ 20 → m ≤ 20 → hm (cd k n m) = hc (sl k n m)) {k n : Nat} (hk : k < 6) (hn : n ≤ 20) (h0 : ss hm (1024 * k + 32 * n) = ss hc ((k * 21 + n) * 21)) : ∀ m, m ≤ 21 → ss hm (1024 * k + 32 * n + m) = ss hc ((k * 21 + n) * 21 + m) := by
  intro m
  induction m with
  | zero => intro _; exact h0
  | succ m ih =>
    intro h
    show ss hm (1024 * k + 32 * n + m) + hm (1024 * k + 32 * n + m) = ss hc ((k * 21 + n) * 21 + m) + hc ((k * 21 + n) * 21 + m)
    rw [ih (by omega)]
    exact congrArg _ (e k n m hk hn (by omega))
theorem ss_gap {hm : Nat → Int32} (z : ∀ c, c < 6144 → (∀ k n m, k < 6 → n ≤ 20 → m ≤ 20 → ¬ c = cd k n m) → hm c = 0) {a : Nat} : ∀ j, a + j ≤ 6144 → (∀ i, i < j → ∀ k n m, k < 6 → n ≤ 20 → m ≤ 20 → ¬ a + i = cd k n m) → ss hm (a + j) = ss hm a := by
  intro j
  induction j with
  | zero => intro _ _; rfl
  | succ j ih =>
    intro h h2
    show ss hm (a + j) + hm (a + j) = ss hm a
    rw [ih (by omega) (fun i hi => h2 i (by omega)), z (a + j) (by omega) (h2 j (by omega)), Int32.add_zero]
theorem ss_rows {hc hm : Nat → Int32} (e : ∀ k n m, k < 6 → n ≤ 20 → m ≤ 20 → hm (cd k n m) = hc (sl k n m)) (z : ∀ c, c < 6144 → (∀ k n m, k < 6 → n ≤ 20 → m ≤ 20 → ¬ c = cd k n m) → hm c = 0) {k : Nat} (hk : k < 6) (h0 : ss hm (1024 * k) = ss hc (k * 441)) : ∀ n, n ≤ 21 → ss hm (1024 * k + 32 * n) = ss hc ((k * 21 + n) * 21) := by
  intro n
  induction n with
  | zero =>
    intro _
    rw [show 1024 * k + 32 * 0 = 1024 * k from by omega, show (k * 21 + 0) * 21 = k * 441 from by omega]
    exact h0
  | succ n ih =>
    intro h
    have a := ss_row e hk (show n ≤ 20 by omega) (ih (by omega)) 21 (by omega)
    have b := ss_gap z (a := 1024 * k + 32 * n + 21) 11 (by omega) (fun i hi k' n' m' hk' hn' hm' y => by unfold cd at y; omega)
    rw [show 1024 * k + 32 * (n + 1) = 1024 * k + 32 * n + 21 + 11 from by omega, b, a, show (k * 21 + n) * 21 + 21 = (k * 21 + (n + 1)) * 21 from by omega]
theorem ss_all {hc hm : Nat → Int32} (e : ∀ k n m, k < 6 → n ≤ 20 → m ≤ 20 → hm (cd k n m) = hc (sl k n m)) (z : ∀ c, c < 6144 → (∀ k n m, k < 6 → n ≤ 20 → m ≤ 20 → ¬ c = cd k n m) → hm c = 0) : ∀ k, k ≤ 6 → ss hm (1024 * k) = ss hc (k * 441) := by
  intro k
  induction k with
  | zero => intro _; rfl
  | succ k ih =>
    intro h
    have a := ss_rows e z (show k < 6 by omega) (ih (by omega)) 21 (by omega)
    have b := ss_gap z (a := 1024 * k + 32 * 21) 352 (by omega) (fun i hi k' n' m' hk' hn' hm' y => by unfold cd at y; omega)
    rw [show 1024 * (k + 1) = 1024 * k + 32 * 21 + 352 from by omega, b, a, show (k * 21 + 21) * 21 = (k + 1) * 441 from by omega]
theorem bridge {hc hm : Nat → Int32} (e : ∀ k n m, k < 6 → n ≤ 20 → m ≤ 20 → hm (cd k n m) = hc (sl k n m)) (z : ∀ c, c < 6144 → (∀ k n m, k < 6 → n ≤ 20 → m ≤ 20 → ¬ c = cd k n m) → hm c = 0) : ss hm 6144 = ss hc 2646 := ss_all e z 6 (Nat.le_refl _)
/-- a slot is a case's -/
theorem sl_of {s : Nat} (h : s < 2646) : ∃ k n m, k < 6 ∧ n ≤ 20 ∧ m ≤ 20 ∧ s = sl k n m := ⟨s / 441, s / 21 % 21, s % 21, by omega, by omega, by omega, by unfold sl; omega⟩
theorem sl_k {k n m : Nat} (hn : n ≤ 20) (hm : m ≤ 20) : sl k n m / 441 = k := by unfold sl; omega
theorem sl_n {k n m : Nat} (hn : n ≤ 20) (hm : m ≤ 20) : sl k n m / 21 % 21 = n := by unfold sl; omega
theorem sl_m {k n m : Nat} (hn : n ≤ 20) (hm : m ≤ 20) : sl k n m % 21 = m := by unfold sl; omega
theorem cd_k {k n m : Nat} (hn : n ≤ 20) (hm : m ≤ 20) : cd k n m / 1024 = k := by unfold cd; omega
theorem cd_n {k n m : Nat} (hn : n ≤ 20) (hm : m ≤ 20) : cd k n m / 32 % 32 = n := by unfold cd; omega
theorem cd_m {k n m : Nat} (hn : n ≤ 20) (hm : m ≤ 20) : cd k n m % 32 = m := by unfold cd; omega
/-- one thing of a case -/
def asp (w : Int32) (f : Nat → Int32) (s : Nat) : Int32 := if w = 0 then Int32.ofNat (s / 441) else if w = 1 then Int32.ofNat (s / 21 % 21) else if w = 2 then Int32.ofNat (s % 21) else f s
def apm (w : Int32) (g : Nat → Int32) (c : Nat) : Int32 := if w = 0 then Int32.ofNat (c / 1024) else if w = 1 then Int32.ofNat (c / 32 % 32) else if w = 2 then Int32.ofNat (c % 32) else g c
theorem c_asp {N K s : Nat} {sz w : Int32} {f : Nat → Int32} (h : s < 2646) : fX2_aspect N K sz f (Int32.ofNat s) w = some (asp w f s) := by
  unfold fX2_aspect asp fX2_kindOf fX2_numberOf fX2_measureOf
  rw [show (441 : Int32) = Int32.ofNat 441 from rfl, show (21 : Int32) = Int32.ofNat 21 from rfl, o_div (by omega) (by omega), o_div (by omega) (by omega), o_mod (by omega) (by omega), o_mod (by omega) (by omega)]
  by_cases e0 : w = 0
  · rw [if_pos e0, if_pos e0]; rfl
  · rw [if_neg e0, if_neg e0]
    by_cases e1 : w = 1
    · rw [if_pos e1, if_pos e1]; rfl
    · rw [if_neg e1, if_neg e1]
      by_cases e2 : w = 2
      · rw [if_pos e2, if_pos e2]; rfl
      · rw [if_neg e2, if_neg e2, if_neg (by rw [lt0, o_i (by omega)]; omega), if_pos (by rw [show (2646 : Int32) = Int32.ofNat 2646 from rfl, o_lt (by omega) (by omega)]; exact h), if_neg (o_ob h (by omega)), o_c (by omega)]
/-- a case that is kept, and of which one thing is so -/
def so (w v : Int32) (f : Nat → Int32) (s : Nat) : Bool := decide (¬ f s = -1 ∧ asp w f s = v)
def som (w v : Int32) (g : Nat → Int32) (c : Nat) : Bool := decide (0 ≤ (g c).toInt ∧ apm w g c = v)
theorem so_eq {sz w v : Int32} {f g : Nat → Int32} (h : MT sz f g) {k n m : Nat} (hk : k < 6) (hn : n ≤ 20) (hm : m ≤ 20) : som w v g (cd k n m) = so w v f (sl k n m) := by
  have ha : apm w g (cd k n m) = asp w f (sl k n m) := by
    unfold apm asp
    rw [sl_k hn hm, sl_n hn hm, sl_m hn hm, cd_k hn hm, cd_n hn hm, cd_m hn hm, h.2.2.1 k n m hk hn hm]
  unfold so som
  rw [ha, h.2.2.1 k n m hk hn hm]
  rcases h.nn hk hn hm with e | e
  · rw [decide_eq_false (fun z => by rw [e, m1_t] at z; exact absurd z.1 (by decide)), decide_eq_false (fun z => z.1 e)]
  · have e2 := m1_n e
    by_cases c : asp w f (sl k n m) = v
    · rw [decide_eq_true ⟨e, c⟩, decide_eq_true ⟨e2, c⟩]
    · rw [decide_eq_false (fun z => c z.2), decide_eq_false (fun z => c z.2)]
theorem so_gap {sz w v : Int32} {f g : Nat → Int32} (h : MT sz f g) {c : Nat} (hc : c < 6144) (z : ∀ k n m, k < 6 → n ≤ 20 → m ≤ 20 → ¬ c = cd k n m) : som w v g c = false := by
  unfold som
  rw [h.2.2.2 c hc z]
  exact decide_eq_false (fun y => by rw [m1_t] at y; exact absurd y.1 (by decide))
theorem bi_tt {b : Bool} (h : b = true) : bi b = 1 := by rw [h]; rfl
theorem bi_ff {b : Bool} (h : b = false) : bi b = 0 := by rw [h]; rfl
theorem so_f {w v : Int32} {f : Nat → Int32} {s : Nat} (h : f s = -1) : so w v f s = false := decide_eq_false (fun z => z.1 h)
theorem c_many_ {N K : Nat} {sz w v : Int32} {f : Nat → Int32} : ∀ k i fu, i + k = 2646 → k < fu → fX2_howMany_5 N K sz f w v fu (ss (fun s => bi (so w v f s)) i) (Int32.ofNat i) = some (ss (fun s => bi (so w v f s)) 2646) := by
  intro k
  induction k with
  | zero =>
    intro i fu hi hfu
    obtain ⟨fu, rfl⟩ : ∃ m, fu = m + 1 := ⟨fu - 1, by omega⟩
    obtain rfl : i = 2646 := by omega
    unfold fX2_howMany_5
    rw [if_pos (by decide)]
  | succ k ih =>
    intro i fu hi hfu
    obtain ⟨fu, rfl⟩ : ∃ m, fu = m + 1 := ⟨fu - 1, by omega⟩
    have e := ih (i + 1) fu (by omega) (by omega)
    have es : ss (fun s => bi (so w v f s)) (i + 1) = ss (fun s => bi (so w v f s)) i + bi (so w v f i) := rfl
    rw [es] at e
    unfold fX2_howMany_5
    rw [if_neg (by rw [show (2646 : Int32) = Int32.ofNat 2646 from rfl, o_le (by omega) (by omega)]; omega), if_neg (o_ob (by omega) (by omega)), o_c (by omega)]
    unfold fX2_howMany_38
    rw [o_1]
    by_cases c : f i = -1
    · rw [if_pos c]
      rw [so_f c, show bi false = (0 : Int32) from rfl, Int32.add_zero] at e
      exact e
    · rw [if_neg c, c_asp (by omega), Option.bind_some]
      by_cases d : asp w f i = v
      · rw [if_pos d]
        rw [show so w v f i = true from decide_eq_true ⟨c, d⟩] at e
        exact e
      · rw [if_neg d]
        rw [show so w v f i = false from decide_eq_false (fun z => d z.2), show bi false = (0 : Int32) from rfl, Int32.add_zero] at e
        exact e
theorem c_many {N K : Nat} (hN : NBig N) {sz w v : Int32} {f : Nat → Int32} : fX2_howMany N K sz f w v = some (ss (fun s => bi (so w v f s)) 2646) := by
  have hN9 := hN.u
  exact c_many_ 2646 0 N rfl (by omega)
theorem m_so {N K c : Nat} {th p0 w v : Int32} {g : Nat → Int32} (hc : c < 6144) (hp0 : Rg p0 0 2) : fX7_isSo N K th g p0 (Int32.ofNat c) w v = some (bi (som w v g c)) := by
  have z56 : ∀ x : Int32, fX7_isSo_56 N K th g p0 (Int32.ofNat c) w v x v = some (if x = v then 1 else 0) := by
    intro x
    unfold fX7_isSo_56
    by_cases e : x = v
    · rw [if_pos e, if_pos e.symm]
    · rw [if_neg e, if_neg (fun z => e z.symm)]
  have fin : 0 ≤ (g c).toInt → (if apm w g c = v then (1 : Int32) else 0) = bi (som w v g c) := by
    intro h
    by_cases e : apm w g c = v
    · rw [if_pos e, show som w v g c = true from decide_eq_true ⟨h, e⟩]; rfl
    · rw [if_neg e, show som w v g c = false from decide_eq_false (fun z => e z.2)]; rfl
  unfold fX7_isSo
  rw [if_neg hp0.mm, if_neg (o_ob hc (by omega)), o_c (by omega)]
  by_cases h : 0 ≤ (g c).toInt
  · rw [if_pos (by rw [ge0]; exact h)]
    have f0 := fin h
    unfold apm at f0
    unfold fX7_kindOf fX7_numberOf fX7_measureOf
    rw [show (1024 : Int32) = Int32.ofNat 1024 from rfl, show (32 : Int32) = Int32.ofNat 32 from rfl, o_div (by omega) (by omega), o_div (by omega) (by omega), o_mod (by omega) (by omega), o_mod (by omega) (by omega), Option.bind_some, Option.bind_some, Option.bind_some, z56, z56, z56, z56, ← f0]
    by_cases e0 : w = 0
    · rw [if_pos e0, if_pos e0]
    · rw [if_neg e0, if_neg e0]
      by_cases e1 : w = 1
      · rw [if_pos e1, if_pos e1]
      · rw [if_neg e1, if_neg e1]
        by_cases e2 : w = 2
        · rw [if_pos e2, if_pos e2]
        · rw [if_neg e2, if_neg e2]
  · rw [if_neg (by rw [ge0]; exact h), show som w v g c = false from decide_eq_false (fun z => h z.1)]
    rfl
theorem m_cnt_ {N K : Nat} {th p0 w v : Int32} {g : Nat → Int32} (hp0 : Rg p0 0 2) : ∀ k i fu, i + k = 6144 → k < fu → fX7_counted_6 N K th g p0 w v fu (ss (fun s => bi (som w v g s)) i) (Int32.ofNat i) = some (ss (fun s => bi (som w v g s)) 6144) := by
  intro k
  induction k with
  | zero =>
    intro i fu hi hfu
    obtain ⟨fu, rfl⟩ : ∃ m, fu = m + 1 := ⟨fu - 1, by omega⟩
    obtain rfl : i = 6144 := by omega
    unfold fX7_counted_6
    rw [if_pos (by decide)]
  | succ k ih =>
    intro i fu hi hfu
    obtain ⟨fu, rfl⟩ : ∃ m, fu = m + 1 := ⟨fu - 1, by omega⟩
    unfold fX7_counted_6
    rw [if_neg (by rw [show (6144 : Int32) = Int32.ofNat 6144 from rfl, o_le (by omega) (by omega)]; omega), m_so (by omega) hp0, Option.bind_some, m_bit, Option.bind_some, o_1]
    exact ih (i + 1) fu (by omega) (by omega)
theorem m_cnt {N K : Nat} (hN : NBig N) {sz th p0 w v : Int32} {f g : Nat → Int32} (hp0 : Rg p0 0 2) (h : MT sz f g) : fX7_counted N K th g p0 w v = some (ss (fun s => bi (so w v f s)) 2646) := by
  have hN9 := hN.u
  have e := m_cnt_ (N := N) (K := K) (th := th) (w := w) (v := v) (g := g) hp0 6144 0 N rfl (by omega)
  rw [bridge (hc := fun s => bi (so w v f s)) (fun k n m hk hn hm => congrArg bi (so_eq h hk hn hm)) (fun c hc z => congrArg bi (so_gap h hc z))] at e
  exact e
/-! ===== counts ===== -/
def nb (b : Nat → Bool) : Nat → Nat
  | 0 => 0
  | n + 1 => nb b n + (if b n = true then 1 else 0)
theorem nb_le {b : Nat → Bool} : ∀ n, nb b n ≤ n := by
  intro n
  induction n with
  | zero => exact Nat.le_refl _
  | succ n ih =>
    show nb b n + (if b n = true then 1 else 0) ≤ n + 1
    by_cases e : b n = true
    · rw [if_pos e]; omega
    · rw [if_neg e]; omega
theorem ss_nb {b : Nat → Bool} : ∀ n, ss (fun s => bi (b s)) n = Int32.ofNat (nb b n) := by
  intro n
  induction n with
  | zero => rfl
  | succ n ih =>
    show ss (fun s => bi (b s)) n + bi (b n) = Int32.ofNat (nb b n + (if b n = true then 1 else 0))
    rw [ih]
    by_cases e : b n = true
    · rw [if_pos e, bi_tt e, o_1]
    · rw [if_neg e, bi_ff (Bool.eq_false_iff.mpr e), Int32.add_zero, Nat.add_zero]
def kpt (f : Nat → Int32) (s : Nat) : Bool := decide (¬ f s = -1)
theorem cntn_nb {f : Nat → Int32} : ∀ n, cntn f n = nb (kpt f) n := by
  intro n
  induction n with
  | zero => rfl
  | succ n ih =>
    show cntn f n + (if f n = -1 then 0 else 1) = nb (kpt f) n + (if kpt f n = true then 1 else 0)
    rw [ih]
    by_cases e : f n = -1
    · rw [if_pos e, if_neg (show ¬ kpt f n = true from fun z => (of_decide_eq_true (show decide (¬ f n = -1) = true from z)) e)]
    · rw [if_neg e, if_pos (show kpt f n = true from decide_eq_true e)]
/-- what is told of a code -/
def tl2 (w : Int32) (g : Nat → Int32) (c : Nat) : Int32 := if (g c).toInt < 0 then 0 else if w = 1 then Int32.ofNat c ^^^ g c else if w = 2 then g c else 1
theorem m_t2_ {N K : Nat} {th p0 w : Int32} {g : Nat → Int32} (hp0 : Rg p0 0 2) : ∀ k i fu, i + k = 6144 → k < fu → fX7_told2_5 N K th g p0 w fu (ss (tl2 w g) i) (Int32.ofNat i) = some (if w = 3 then (if ss (tl2 w g) 6144 = 0 then 1 else 0) else ss (tl2 w g) 6144) := by
  intro k
  induction k with
  | zero =>
    intro i fu hi hfu
    obtain ⟨fu, rfl⟩ : ∃ m, fu = m + 1 := ⟨fu - 1, by omega⟩
    obtain rfl : i = 6144 := by omega
    unfold fX7_told2_5
    rw [if_pos (by decide)]
    by_cases e : w = 3
    · rw [if_pos e, if_pos e]
      by_cases e2 : ss (tl2 w g) 6144 = 0
      · rw [if_pos e2, if_pos e2]
        unfold fX7_told2_76
        rw [m_b1, Option.bind_some]
      · rw [if_neg e2, if_neg e2]
        unfold fX7_told2_76
        rw [m_b0, Option.bind_some]
    · rw [if_neg e, if_neg e]
  | succ k ih =>
    intro i fu hi hfu
    obtain ⟨fu, rfl⟩ : ∃ m, fu = m + 1 := ⟨fu - 1, by omega⟩
    have e := ih (i + 1) fu (by omega) (by omega)
    have es : ss (tl2 w g) (i + 1) = ss (tl2 w g) i + tl2 w g i := rfl
    rw [es] at e
    unfold fX7_told2_5
    rw [if_neg (by rw [show (6144 : Int32) = Int32.ofNat 6144 from rfl, o_le (by omega) (by omega)]; omega), if_neg hp0.mm, if_neg (o_ob (by omega) (by omega)), o_c (by omega)]
    unfold fX7_told2_54 fX7_told2_56
    rw [o_1]
    by_cases c : (g i).toInt < 0
    · rw [if_pos (by rw [lt0]; exact c)]
      rw [show tl2 w g i = 0 from if_pos c, Int32.add_zero] at e
      exact e
    · rw [if_neg (by rw [lt0]; exact c)]
      by_cases w1 : w = 1
      · rw [if_pos w1]
        rw [show tl2 w g i = Int32.ofNat i ^^^ g i from (if_neg c).trans (if_pos w1)] at e
        exact e
      · rw [if_neg w1]
        by_cases w2 : w = 2
        · rw [if_pos w2]
          rw [show tl2 w g i = g i from (if_neg c).trans ((if_neg w1).trans (if_pos w2))] at e
          exact e
        · rw [if_neg w2]
          rw [show tl2 w g i = 1 from (if_neg c).trans ((if_neg w1).trans (if_neg w2))] at e
          exact e
/-- what is told of a slot -/
def tlc (w : Int32) (f : Nat → Int32) (s : Nat) : Int32 := if f s = -1 then 0 else if w = 1 then Int32.ofNat (cd (s / 441) (s / 21 % 21) (s % 21)) ^^^ f s else if w = 2 then f s else 1
theorem m_t2 {N K : Nat} (hN : NBig N) {sz th p0 w : Int32} {f g : Nat → Int32} (hp0 : Rg p0 0 2) (h : MT sz f g) : fX7_told2 N K th g p0 w = some (if w = 3 then (if ss (tlc w f) 2646 = 0 then 1 else 0) else ss (tlc w f) 2646) := by
  have hN9 := hN.u
  have e := m_t2_ (N := N) (K := K) (th := th) (w := w) (g := g) hp0 6144 0 N rfl (by omega)
  rw [bridge (hc := tlc w f) (fun k n m hk hn hm => ?_) (fun c hc z => ?_)] at e
  · exact e
  · unfold tl2 tlc
    rw [sl_k hn hm, sl_n hn hm, sl_m hn hm, h.2.2.1 k n m hk hn hm]
    rcases h.nn hk hn hm with e | e
    · rw [if_pos e, if_pos (by rw [e]; decide)]
    · rw [if_neg (m1_n e), if_neg (by omega)]
  · unfold tl2
    rw [h.2.2.2 c hc z]
    exact if_pos (by decide)
theorem tlc_cnt {w : Int32} {f : Nat → Int32} (h1 : ¬ w = 1) (h2 : ¬ w = 2) : ss (tlc w f) 2646 = Int32.ofNat (cnt f) := by
  have e : tlc w f = fun s => bi (kpt f s) := by
    funext s
    unfold tlc kpt
    by_cases c : f s = -1
    · rw [if_pos c, bi_ff (decide_eq_false (fun z => z c))]
    · rw [if_neg c, if_neg h1, if_neg h2, bi_tt (decide_eq_true c)]
  rw [e, ss_nb]
  unfold cnt
  rw [cntn_nb]
theorem m_cnt0 {N K : Nat} (hN : NBig N) {sz th p0 : Int32} {f g : Nat → Int32} (hp0 : Rg p0 0 2) (h : MT sz f g) : fX7_told2 N K th g p0 (0 : Int32) = some (Int32.ofNat (cnt f)) := by
  rw [m_t2 hN hp0 h, if_neg (by decide), tlc_cnt (by decide) (by decide)]
theorem c_mark_ {N K : Nat} {sz : Int32} {f : Nat → Int32} : ∀ k i fu, i + k = 2646 → k < fu → fX2_mark_4 N K sz f fu (ss (tlc 1 f) i) (Int32.ofNat i) = some (ss (tlc 1 f) 2646) := by
  intro k
  induction k with
  | zero =>
    intro i fu hi hfu
    obtain ⟨fu, rfl⟩ : ∃ m, fu = m + 1 := ⟨fu - 1, by omega⟩
    obtain rfl : i = 2646 := by omega
    unfold fX2_mark_4
    rw [if_pos (by decide)]
  | succ k ih =>
    intro i fu hi hfu
    obtain ⟨fu, rfl⟩ : ∃ m, fu = m + 1 := ⟨fu - 1, by omega⟩
    have e := ih (i + 1) fu (by omega) (by omega)
    have es : ss (tlc 1 f) (i + 1) = ss (tlc 1 f) i + tlc 1 f i := rfl
    rw [es] at e
    unfold fX2_mark_4
    rw [if_neg (by rw [show (2646 : Int32) = Int32.ofNat 2646 from rfl, o_le (by omega) (by omega)]; omega), if_neg (o_ob (by omega) (by omega)), o_c (by omega)]
    unfold fX2_mark_35
    rw [o_1]
    by_cases c : f i = -1
    · rw [if_pos c]
      rw [show tlc 1 f i = 0 from if_pos c, Int32.add_zero] at e
      exact e
    · rw [if_neg c]
      rw [show tlc 1 f i = Int32.ofNat (cd (i / 441) (i / 21 % 21) (i % 21)) ^^^ f i from (if_neg c).trans (if_pos rfl)] at e
      have ec : fX2_codeOf N K (Int32.ofNat i) = some (Int32.ofNat (cd (i / 441) (i / 21 % 21) (i % 21))) := by
        unfold fX2_codeOf fX2_kindOf fX2_numberOf fX2_measureOf
        rw [show (441 : Int32) = Int32.ofNat 441 from rfl, show (21 : Int32) = Int32.ofNat 21 from rfl, o_div (by omega) (by omega), o_div (by omega) (by omega), o_mod (by omega) (by omega), o_mod (by omega) (by omega), Option.bind_some, Option.bind_some, Option.bind_some, show (1024 : Int32) = Int32.ofNat 1024 from rfl, show (32 : Int32) = Int32.ofNat 32 from rfl, o_mul, o_mul, o_add, o_add, Nat.mul_comm (i / 441) 1024, Nat.mul_comm (i / 21 % 21) 32]
        rfl
      rw [ec, Option.bind_some, if_neg (o_ob2 (by omega) (by omega))]
      exact e
theorem c_sumw_ {N K : Nat} {sz : Int32} {f : Nat → Int32} : ∀ k i fu, i + k = 2646 → k < fu → fX2_sumOfWorths_4 N K sz f fu (ss (tlc 2 f) i) (Int32.ofNat i) = some (ss (tlc 2 f) 2646) := by
  intro k
  induction k with
  | zero =>
    intro i fu hi hfu
    obtain ⟨fu, rfl⟩ : ∃ m, fu = m + 1 := ⟨fu - 1, by omega⟩
    obtain rfl : i = 2646 := by omega
    unfold fX2_sumOfWorths_4
    rw [if_pos (by decide)]
  | succ k ih =>
    intro i fu hi hfu
    obtain ⟨fu, rfl⟩ : ∃ m, fu = m + 1 := ⟨fu - 1, by omega⟩
    have e := ih (i + 1) fu (by omega) (by omega)
    have es : ss (tlc 2 f) (i + 1) = ss (tlc 2 f) i + tlc 2 f i := rfl
    rw [es] at e
    unfold fX2_sumOfWorths_4
    rw [if_neg (by rw [show (2646 : Int32) = Int32.ofNat 2646 from rfl, o_le (by omega) (by omega)]; omega), if_neg (o_ob (by omega) (by omega)), o_c (by omega)]
    unfold fX2_sumOfWorths_30
    rw [o_1]
    by_cases c : f i = -1
    · rw [if_pos c]
      rw [show tlc 2 f i = 0 from if_pos c, Int32.add_zero] at e
      exact e
    · rw [if_neg c]
      rw [show tlc 2 f i = f i from (if_neg c).trans ((if_neg (by decide)).trans (if_pos rfl))] at e
      rw [if_neg (o_ob2 (by omega) (by omega))]
      exact e
/-! ===== what changes many cases ===== -/
theorem cntn_ext {f g : Nat → Int32} {b c : Nat → Bool} (h : ∀ s, (if g s = -1 then 0 else 1) + (if b s = true then 1 else 0) = (if f s = -1 then 0 else 1) + (if c s = true then 1 else 0)) : ∀ n, cntn g n + nb b n = cntn f n + nb c n := by
  intro n
  induction n with
  | zero => rfl
  | succ n ih =>
    show cntn g n + (if g n = -1 then 0 else 1) + (nb b n + (if b n = true then 1 else 0)) = cntn f n + (if f n = -1 then 0 else 1) + (nb c n + (if c n = true then 1 else 0))
    have := h n
    omega
theorem nb_0 : ∀ n, nb (fun _ => false) n = 0 := by
  intro n
  induction n with
  | zero => rfl
  | succ n ih =>
    show nb (fun _ => false) n + (if false = true then 1 else 0) = 0
    rw [ih, if_neg (by decide)]
/-- contents whose cases that b tells are forgotten -/
def offd (b : Nat → Bool) (f : Nat → Int32) : Nat → Int32 := fun s => if b s = true then -1 else f s
theorem cnt_offd {w v : Int32} {f : Nat → Int32} : cnt (offd (so w v f) f) + nb (so w v f) 2646 = cnt f := by
  have h := cntn_ext (f := f) (g := offd (so w v f) f) (b := so w v f) (c := fun _ => false) (fun s => ?_) 2646
  · rw [nb_0, Nat.add_zero] at h
    unfold cnt
    exact h
  · unfold offd
    rw [if_neg (show ¬ (false = true) from by decide), Nat.add_zero]
    by_cases c : so w v f s = true
    · obtain ⟨d, -⟩ := of_decide_eq_true c
      rw [if_pos c, if_pos rfl, if_neg d, if_pos c]
    · rw [if_neg c, if_neg c, Nat.add_zero]
/-- two tables alike at the cases -/
theorem MT.of {sz sz' : Int32} {f g f' g' : Nat → Int32} (h : MT sz f g) (hs : sz' = Int32.ofNat (cnt f')) (hc : ∀ k n m, k < 6 → n ≤ 20 → m ≤ 20 → (f' (sl k n m) = -1 ∨ (1 ≤ n ∧ 1 ≤ m ∧ 0 ≤ (f' (sl k n m)).toInt ∧ (f' (sl k n m)).toInt ≤ (tb n m : Int))) ∧ g' (cd k n m) = f' (sl k n m)) (hg : ∀ c, c < 6144 → (∀ k n m, k < 6 → n ≤ 20 → m ≤ 20 → ¬ c = cd k n m) → g' c = -1) : MT sz' f' g' :=
  ⟨hs, fun k hk n m hn hm => (hc k n m hk hn hm).1, fun k n m hk hn hm => (hc k n m hk hn hm).2, hg⟩
theorem so_at {w v : Int32} {f f' : Nat → Int32} {s : Nat} (h : f' s = f s) : so w v f' s = so w v f s := by
  unfold so asp
  rw [h]
theorem c_de_ {N K : Nat} {sz0 sz w v : Int32} {f0 f : Nat → Int32} : ∀ k i fu (f' : Nat → Int32), i + k = 2646 → k < fu → (∀ s, f' s = if s < i then offd (so w v f) f s else f s) → ∃ f2, fX2_dropEach_5 N K sz0 f0 w v fu (ss (fun s => bi (so w v f s)) i) (Int32.ofNat i) sz f' = some (ss (fun s => bi (so w v f s)) 2646, sz - ss (fun s => bi (so w v f s)) 2646, f2) ∧ ∀ s, s < 2646 → f2 s = offd (so w v f) f s := by
  intro k
  induction k with
  | zero =>
    intro i fu f' hi hfu hf
    obtain ⟨fu, rfl⟩ : ∃ m, fu = m + 1 := ⟨fu - 1, by omega⟩
    obtain rfl : i = 2646 := by omega
    refine ⟨f', ?_, fun s hs => (hf s).trans (if_pos hs)⟩
    unfold fX2_dropEach_5
    rw [if_pos (by decide)]
  | succ k ih =>
    intro i fu f' hi hfu hf
    obtain ⟨fu, rfl⟩ : ∃ m, fu = m + 1 := ⟨fu - 1, by omega⟩
    have es : ss (fun s => bi (so w v f s)) (i + 1) = ss (fun s => bi (so w v f s)) i + bi (so w v f i) := rfl
    have hfi : f' i = f i := (hf i).trans (if_neg (by omega))
    have keep : so w v f i = false → ∀ s, f' s = if s < i + 1 then offd (so w v f) f s else f s := by
      intro hb s
      rw [hf s]
      by_cases c : s < i
      · rw [if_pos c, if_pos (by omega)]
      · rw [if_neg c]
        by_cases d : s = i
        · rw [if_pos (by omega), d]
          unfold offd
          rw [hb, if_neg (by decide)]
        · rw [if_neg (by omega)]
    unfold fX2_dropEach_5
    rw [if_neg (by rw [show (2646 : Int32) = Int32.ofNat 2646 from rfl, o_le (by omega) (by omega)]; omega), if_neg (o_ob (by omega) (by omega)), o_c (by omega), hfi]
    unfold fX2_dropEach_46
    rw [o_1]
    by_cases c : f i = -1
    · rw [if_pos c]
      obtain ⟨f2, e1, e2⟩ := ih (i + 1) fu f' (by omega) (by omega) (keep (so_f c))
      rw [es, so_f c, show bi false = (0 : Int32) from rfl, Int32.add_zero] at e1
      exact ⟨f2, e1, e2⟩
    · have ea : asp w f' i = asp w f i := by unfold asp; rw [hfi]
      rw [if_neg c, c_asp (by omega), Option.bind_some, ea]
      by_cases d : asp w f i = v
      · have hb : so w v f i = true := decide_eq_true ⟨c, d⟩
        rw [if_pos d, if_neg (o_ob2 (by omega) (by omega))]
        obtain ⟨f2, e1, e2⟩ := ih (i + 1) fu (upd f' i (-1)) (by omega) (by omega) (fun s => by
          unfold upd
          by_cases d2 : s = i
          · rw [if_pos d2, if_pos (by omega), d2]
            unfold offd
            rw [hb, if_pos rfl]
          · rw [if_neg d2, hf s]
            by_cases d3 : s < i
            · rw [if_pos d3, if_pos (by omega)]
            · rw [if_neg d3, if_neg (by omega)])
        rw [es, hb] at e1
        exact ⟨f2, e1, e2⟩
      · have hb : so w v f i = false := decide_eq_false (fun z => d z.2)
        rw [if_neg d]
        obtain ⟨f2, e1, e2⟩ := ih (i + 1) fu f' (by omega) (by omega) (keep hb)
        rw [es, hb, show bi false = (0 : Int32) from rfl, Int32.add_zero] at e1
        exact ⟨f2, e1, e2⟩
theorem m_fa_ {N K : Nat} {th0 th p0 w v l4 : Int32} {g0 g t0 t : Nat → Int32} (hp0 : Rg p0 0 2) : ∀ k i fu (g' : Nat → Int32), i + k = 6144 → k < fu → (∀ s, g' s = if s < i then offd (som w v g) g s else g s) → ∃ g2, fX7_forgetAll_33 N K th0 g0 t0 p0 w v fu l4 (Int32.ofNat i) th g' t = some (l4, th, g2, dn t) ∧ ∀ s, s < 6144 → g2 s = offd (som w v g) g s := by
  intro k
  induction k with
  | zero =>
    intro i fu g' hi hfu hg
    obtain ⟨fu, rfl⟩ : ∃ m, fu = m + 1 := ⟨fu - 1, by omega⟩
    obtain rfl : i = 6144 := by omega
    refine ⟨g', ?_, fun s hs => (hg s).trans (if_pos hs)⟩
    unfold fX7_forgetAll_33
    rw [if_pos (by decide), m_done, Option.bind_some]
  | succ k ih =>
    intro i fu g' hi hfu hg
    obtain ⟨fu, rfl⟩ : ∃ m, fu = m + 1 := ⟨fu - 1, by omega⟩
    have hgi : g' i = g i := (hg i).trans (if_neg (by omega))
    have hb : som w v g' i = som w v g i := by unfold som apm; rw [hgi]
    unfold fX7_forgetAll_33
    rw [if_neg (by rw [show (6144 : Int32) = Int32.ofNat 6144 from rfl, o_le (by omega) (by omega)]; omega), m_so (by omega) hp0, Option.bind_some, hb]
    unfold fX7_forgetAll_63
    rw [o_1]
    cases c : som w v g i with
    | false =>
      rw [if_pos bif0]
      exact ih (i + 1) fu g' (by omega) (by omega) (fun s => by
        rw [hg s]
        by_cases d3 : s < i
        · rw [if_pos d3, if_pos (by omega)]
        · rw [if_neg d3]
          by_cases d : s = i
          · rw [if_pos (by omega), d]
            unfold offd
            rw [c, if_neg (by decide)]
          · rw [if_neg (by omega)])
    | true =>
      rw [if_neg bitn, if_neg hp0.mm, if_neg (o_ob (by omega) (by omega)), o_c (by omega)]
      exact ih (i + 1) fu (upd g' i (-1)) (by omega) (by omega) (fun s => by
        unfold upd
        by_cases d2 : s = i
        · rw [if_pos d2, if_pos (by omega), d2]
          unfold offd
          rw [c, if_pos rfl]
        · rw [if_neg d2, hg s]
          by_cases d3 : s < i
          · rw [if_pos d3, if_pos (by omega)]
          · rw [if_neg d3, if_neg (by omega)])
theorem cnt_congr {f g : Nat → Int32} (h : ∀ s, s < 2646 → g s = f s) : cnt g = cnt f := cntn_congr 2646 h
theorem mt_offd {sz : Int32} {f g f2 g2 : Nat → Int32} {w v : Int32} (h : MT sz f g) (hf : ∀ s, s < 2646 → f2 s = offd (so w v f) f s) (hg : ∀ s, s < 6144 → g2 s = offd (som w v g) g s) : MT (sz - ss (fun s => bi (so w v f s)) 2646) f2 g2 := by
  refine h.of ?_ (fun k n m hk hn hm => ?_) (fun c hc z => ?_)
  · rw [h.1, ss_nb, cnt_congr hf, ← cnt_offd (w := w) (v := v) (f := f), o_sub (by omega), show cnt (offd (so w v f) f) + nb (so w v f) 2646 - nb (so w v f) 2646 = cnt (offd (so w v f) f) from by omega]
  · rw [hf _ (sl_lt hk hn hm), hg _ (cd_lt hk hn hm)]
    unfold offd
    rw [so_eq h hk hn hm, h.2.2.1 k n m hk hn hm]
    by_cases c : so w v f (sl k n m) = true
    · rw [if_pos c]
      exact ⟨Or.inl rfl, rfl⟩
    · rw [if_neg c]
      exact ⟨h.cell hk hn hm, rfl⟩
  · rw [hg c hc]
    unfold offd
    rw [so_gap h hc z, if_neg (by decide)]
    exact h.2.2.2 c hc z
/-- all forgotten -/
theorem cnt_none {f : Nat → Int32} (h : ∀ s, s < 2646 → f s = -1) : cnt f = 0 := by
  have : ∀ n, n ≤ 2646 → cntn f n = 0 := by
    intro n
    induction n with
    | zero => intro _; rfl
    | succ n ih =>
      intro hn
      show cntn f n + (if f n = -1 then 0 else 1) = 0
      rw [ih (by omega), if_pos (h n (by omega))]
  exact this 2646 (Nat.le_refl _)
theorem mt_none {f g : Nat → Int32} (hf : ∀ s, s < 2646 → f s = -1) (hg : ∀ c, c < 6144 → g c = -1) : MT 0 f g := by
  refine ⟨by rw [cnt_none hf]; rfl, fun k hk n m hn hm => Or.inl (hf _ (sl_lt hk hn hm)), fun k n m hk hn hm => ?_, fun c hc _ => hg c hc⟩
  rw [hf _ (sl_lt hk hn hm), hg _ (cd_lt hk hn hm)]
theorem m_clr_ {N K : Nat} {th0 th p0 l2 : Int32} {g0 t0 t : Nat → Int32} (hp0 : Rg p0 0 2) : ∀ k i fu (g' : Nat → Int32), i + k = 6144 → k < fu → (∀ s, s < i → g' s = -1) → ∃ g2, fX7_clear_25 N K th0 g0 t0 p0 fu l2 (Int32.ofNat i) th g' t = some (l2, th, g2, dn t) ∧ ∀ s, s < 6144 → g2 s = -1 := by
  intro k
  induction k with
  | zero =>
    intro i fu g' hi hfu hg
    obtain ⟨fu, rfl⟩ : ∃ m, fu = m + 1 := ⟨fu - 1, by omega⟩
    obtain rfl : i = 6144 := by omega
    refine ⟨g', ?_, hg⟩
    unfold fX7_clear_25
    rw [if_pos (by decide), m_done, Option.bind_some]
  | succ k ih =>
    intro i fu g' hi hfu hg
    obtain ⟨fu, rfl⟩ : ∃ m, fu = m + 1 := ⟨fu - 1, by omega⟩
    unfold fX7_clear_25
    rw [if_neg (by rw [show (6144 : Int32) = Int32.ofNat 6144 from rfl, o_le (by omega) (by omega)]; omega), if_neg hp0.mm, if_neg (o_ob (by omega) (by omega)), o_c (by omega), o_1]
    exact ih (i + 1) fu (upd g' i (-1)) (by omega) (by omega) (fun s hs => by
      unfold upd
      by_cases d : s = i
      · rw [if_pos d]
      · rw [if_neg d]; exact hg s (by omega))
/-- contents copied -/
theorem mt_same {sz : Int32} {f g f2 g2 : Nat → Int32} (h : MT sz f g) (hf : ∀ s, s < 2646 → f2 s = f s) (hg : ∀ c, c < 6144 → g2 c = g c) : MT sz f2 g2 := by
  refine h.of (by rw [h.1, cnt_congr hf]) (fun k n m hk hn hm => ?_) (fun c hc z => by rw [hg c hc]; exact h.2.2.2 c hc z)
  rw [hf _ (sl_lt hk hn hm), hg _ (cd_lt hk hn hm)]
  exact ⟨h.cell hk hn hm, h.2.2.1 k n m hk hn hm⟩
theorem c_cpy {f g : Nat → Int32} {s : Nat} (h : s < 2646) : va_cpy g f (0 : Int32).toNatClampNeg (0 : Int32).toNatClampNeg (2646 : Int32).toNatClampNeg s = g s := by
  show (if (0 : Int32).toNatClampNeg ≤ s ∧ s < (0 : Int32).toNatClampNeg + (2646 : Int32).toNatClampNeg then g ((0 : Int32).toNatClampNeg + (s - (0 : Int32).toNatClampNeg)) else f s) = _
  have e0 : (0 : Int32).toNatClampNeg = 0 := by decide
  have e1 : (2646 : Int32).toNatClampNeg = 2646 := by decide
  rw [e0, e1, if_pos (by omega), show 0 + (s - 0) = s from by omega]
theorem m_copy_ {N K : Nat} (hN : NBig N) {sz th0 th p0 p1 : Int32} {f g g0 t0 t : Nat → Int32} (hp0 : Rg p0 0 2) (hp1 : Rg p1 0 2) (h : MT sz f g) : ∀ k i fu (g' : Nat → Int32), i + k = 6144 → k < fu → (∀ s, s < i → g' s = g s) → ∃ g2, fX7_copy_35 N K th0 g g0 t0 p0 p1 fu (Int32.ofNat i) th g' t = some (Int32.ofNat (cnt f), th, g2, dn t) ∧ ∀ s, s < 6144 → g2 s = g s := by
  intro k
  induction k with
  | zero =>
    intro i fu g' hi hfu hg
    obtain ⟨fu, rfl⟩ : ∃ m, fu = m + 1 := ⟨fu - 1, by omega⟩
    obtain rfl : i = 6144 := by omega
    refine ⟨g', ?_, hg⟩
    unfold fX7_copy_35
    rw [if_pos (by decide), m_cnt0 hN hp1 (mt_same h (fun _ _ => rfl) hg), Option.bind_some, m_done, Option.bind_some]
  | succ k ih =>
    intro i fu g' hi hfu hg
    obtain ⟨fu, rfl⟩ : ∃ m, fu = m + 1 := ⟨fu - 1, by omega⟩
    unfold fX7_copy_35
    rw [if_neg (by rw [show (6144 : Int32) = Int32.ofNat 6144 from rfl, o_le (by omega) (by omega)]; omega), if_neg hp1.mm, if_neg hp0.mm, if_neg (o_ob (by omega) (by omega)), if_neg (o_ob (by omega) (by omega)), o_c (by omega), o_1]
    exact ih (i + 1) fu (upd g' i (g i)) (by omega) (by omega) (fun s hs => by
      unfold upd
      by_cases d : s = i
      · rw [if_pos d, d]
      · rw [if_neg d]; exact hg s (by omega))
theorem m_copyO_ {N K : Nat} (hN : NBig N) {sz th0 th p0 : Int32} {f g g0 t0 t : Nat → Int32} (hp0 : Rg p0 0 2) (h : MT sz f g) : ∀ k i fu (g' : Nat → Int32), i + k = 6144 → k < fu → (∀ s, g' s = g s) → ∃ g2, fX7_copyOwn_35 N K th0 g0 t0 p0 fu (Int32.ofNat i) th g' t = some (Int32.ofNat (cnt f), th, g2, dn t) ∧ ∀ s, g2 s = g s := by
  intro k
  induction k with
  | zero =>
    intro i fu g' hi hfu hg
    obtain ⟨fu, rfl⟩ : ∃ m, fu = m + 1 := ⟨fu - 1, by omega⟩
    obtain rfl : i = 6144 := by omega
    refine ⟨g', ?_, hg⟩
    unfold fX7_copyOwn_35
    rw [if_pos (by decide), m_cnt0 hN hp0 (mt_same h (fun _ _ => rfl) (fun c _ => hg c)), Option.bind_some, m_done, Option.bind_some]
  | succ k ih =>
    intro i fu g' hi hfu hg
    obtain ⟨fu, rfl⟩ : ∃ m, fu = m + 1 := ⟨fu - 1, by omega⟩
    unfold fX7_copyOwn_35
    rw [if_neg (by rw [show (6144 : Int32) = Int32.ofNat 6144 from rfl, o_le (by omega) (by omega)]; omega), if_neg hp0.mm, if_neg hp0.mm, if_neg (o_ob (by omega) (by omega)), if_neg (o_ob (by omega) (by omega)), o_c (by omega), o_1]
    exact ih (i + 1) fu (upd g' i (g' i)) (by omega) (by omega) (fun s => by
      unfold upd
      by_cases d : s = i
      · rw [if_pos d, hg i, d]
      · rw [if_neg d]; exact hg s)
/-- f with what g keeps -/
def poured (g f : Nat → Int32) : Nat → Int32 := fun s => if g s = -1 then f s else g s
def newin (g f : Nat → Int32) (s : Nat) : Bool := decide (¬ g s = -1 ∧ f s = -1)
theorem newin_t {f g : Nat → Int32} {s : Nat} (c : ¬ g s = -1) (d : f s = -1) : newin g f s = true := decide_eq_true ⟨c, d⟩
theorem newin_f1 {f g : Nat → Int32} {s : Nat} (c : g s = -1) : newin g f s = false := decide_eq_false (fun z => z.1 c)
theorem newin_f2 {f g : Nat → Int32} {s : Nat} (d : ¬ f s = -1) : newin g f s = false := decide_eq_false (fun z => d z.2)
theorem cnt_poured {f g : Nat → Int32} : cnt (poured g f) = cnt f + nb (newin g f) 2646 := by
  have h := cntn_ext (f := f) (g := poured g f) (b := fun _ => false) (c := newin g f) (fun s => ?_) 2646
  · rw [nb_0, Nat.add_zero] at h
    unfold cnt
    exact h
  · unfold poured
    rw [if_neg (show ¬ (false = true) from by decide), Nat.add_zero]
    by_cases c : g s = -1
    · rw [if_pos c, newin_f1 c, if_neg (show ¬ (false = true) from by decide), Nat.add_zero]
    · rw [if_neg c, if_neg c]
      by_cases d : f s = -1
      · rw [if_pos d, newin_t c d, if_pos rfl]
      · rw [if_neg d, newin_f2 d, if_neg (show ¬ (false = true) from by decide)]
theorem c_take_ {N K : Nat} {sz0 sz tz : Int32} {f0 f g : Nat → Int32} : ∀ k i fu (f' : Nat → Int32), i + k = 2646 → k < fu → (∀ s, f' s = if s < i then poured g f s else f s) → ∃ f2, fX2_takeIn_4 N K sz0 f0 tz g fu (ss (fun s => bi (newin g f s)) i) (Int32.ofNat i) sz f' = some (ss (fun s => bi (newin g f s)) 2646, sz + ss (fun s => bi (newin g f s)) 2646, f2) ∧ ∀ s, s < 2646 → f2 s = poured g f s := by
  intro k
  induction k with
  | zero =>
    intro i fu f' hi hfu hf
    obtain ⟨fu, rfl⟩ : ∃ m, fu = m + 1 := ⟨fu - 1, by omega⟩
    obtain rfl : i = 2646 := by omega
    refine ⟨f', ?_, fun s hs => (hf s).trans (if_pos hs)⟩
    unfold fX2_takeIn_4
    rw [if_pos (by decide)]
  | succ k ih =>
    intro i fu f' hi hfu hf
    obtain ⟨fu, rfl⟩ : ∃ m, fu = m + 1 := ⟨fu - 1, by omega⟩
    have es : ss (fun s => bi (newin g f s)) (i + 1) = ss (fun s => bi (newin g f s)) i + bi (newin g f i) := rfl
    have hfi : f' i = f i := (hf i).trans (if_neg (by omega))
    unfold fX2_takeIn_4
    rw [if_neg (by rw [show (2646 : Int32) = Int32.ofNat 2646 from rfl, o_le (by omega) (by omega)]; omega), if_neg (o_ob (by omega) (by omega)), o_c (by omega), if_neg (o_ob2 (by omega) (by omega)), hfi]
    unfold fX2_takeIn_34 fX2_takeIn_46
    rw [o_1, o_c (by omega)]
    by_cases c : g i = -1
    · rw [if_pos c]
      have hb : newin g f i = false := decide_eq_false (fun z => z.1 c)
      obtain ⟨f2, e1, e2⟩ := ih (i + 1) fu f' (by omega) (by omega) (fun s => by
        rw [hf s]
        by_cases d3 : s < i
        · rw [if_pos d3, if_pos (by omega)]
        · rw [if_neg d3]
          by_cases d : s = i
          · rw [if_pos (by omega), d]
            exact (if_pos c).symm
          · rw [if_neg (by omega)])
      rw [es, hb, show bi false = (0 : Int32) from rfl, Int32.add_zero] at e1
      exact ⟨f2, e1, e2⟩
    · rw [if_neg c]
      repeat rw [if_neg (o_ob2 (by omega) (by omega))]
      have hu : ∀ s, upd f' i (g i) s = if s < i + 1 then poured g f s else f s := by
        intro s
        unfold upd
        by_cases d : s = i
        · rw [if_pos d, if_pos (by omega), d]
          exact (if_neg c).symm
        · rw [if_neg d, hf s]
          by_cases d3 : s < i
          · rw [if_pos d3, if_pos (by omega)]
          · rw [if_neg d3, if_neg (by omega)]
      obtain ⟨f2, e1, e2⟩ := ih (i + 1) fu _ (by omega) (by omega) hu
      by_cases d : f i = -1
      · rw [if_pos d]
        repeat rw [if_neg (o_ob2 (by omega) (by omega))]
        rw [es, newin_t c d] at e1
        exact ⟨f2, e1, e2⟩
      · rw [if_neg d]
        repeat rw [if_neg (o_ob2 (by omega) (by omega))]
        rw [es, newin_f2 d, show bi false = (0 : Int32) from rfl, Int32.add_zero] at e1
        exact ⟨f2, e1, e2⟩
def pouredm (a b : Nat → Int32) : Nat → Int32 := fun c => if (a c).toInt < 0 then b c else a c
theorem mt_poured {sz tz : Int32} {f g f2 g2 f3 g3 : Nat → Int32} (h : MT sz f g) (h2 : MT tz f2 g2) (hf : ∀ s, s < 2646 → f3 s = poured f f2 s) (hg : ∀ c, c < 6144 → g3 c = pouredm g g2 c) : MT (tz + ss (fun s => bi (newin f f2 s)) 2646) f3 g3 := by
  refine h.of ?_ (fun k n m hk hn hm => ?_) (fun c hc z => ?_)
  · rw [h2.1, ss_nb, cnt_congr hf, cnt_poured, o_add]
  · rw [hf _ (sl_lt hk hn hm), hg _ (cd_lt hk hn hm)]
    unfold poured pouredm
    rw [h.2.2.1 k n m hk hn hm, h2.2.2.1 k n m hk hn hm]
    rcases h.cell hk hn hm with e | e
    · rw [if_pos e, if_pos (by rw [e]; decide)]
      exact ⟨h2.cell hk hn hm, rfl⟩
    · rw [if_neg (m1_n e.2.2.1), if_neg (by omega)]
      exact ⟨Or.inr e, rfl⟩
  · rw [hg c hc]
    unfold pouredm
    rw [h.2.2.2 c hc z, if_pos (by decide)]
    exact h2.2.2.2 c hc z
theorem m_pour_ {N K : Nat} (hN : NBig N) {sz tz th0 th p0 p1 : Int32} {f g f2 g2 g0 t0 t : Nat → Int32} (hp0 : Rg p0 0 2) (hp1 : Rg p1 0 2) (h : MT sz f g) (h2 : MT tz f2 g2) : ∀ k i fu (g' : Nat → Int32), i + k = 6144 → k < fu → (∀ s, g' s = if s < i then pouredm g g2 s else g2 s) → ∃ g3, fX7_pour_53 N K th0 g g0 t0 p0 p1 fu (Int32.ofNat (cnt f2)) (Int32.ofNat i) th g' t = some (ss (fun s => bi (newin f f2 s)) 2646, th, g3, dn t) ∧ ∀ s, s < 6144 → g3 s = pouredm g g2 s := by
  intro k
  induction k with
  | zero =>
    intro i fu g' hi hfu hg
    obtain ⟨fu, rfl⟩ : ∃ m, fu = m + 1 := ⟨fu - 1, by omega⟩
    obtain rfl : i = 6144 := by omega
    have hg2 : ∀ s, s < 6144 → g' s = pouredm g g2 s := fun s hs => (hg s).trans (if_pos hs)
    refine ⟨g', ?_, hg2⟩
    unfold fX7_pour_53
    rw [if_pos (by decide), m_cnt0 hN hp1 (mt_poured h h2 (f3 := poured f f2) (fun _ _ => rfl) hg2), Option.bind_some, m_done, Option.bind_some, cnt_poured, o_sub (by omega), show cnt f2 + nb (newin f f2) 2646 - cnt f2 = nb (newin f f2) 2646 from by omega, ss_nb]
  | succ k ih =>
    intro i fu g' hi hfu hg
    obtain ⟨fu, rfl⟩ : ∃ m, fu = m + 1 := ⟨fu - 1, by omega⟩
    unfold fX7_pour_53
    rw [if_neg (by rw [show (6144 : Int32) = Int32.ofNat 6144 from rfl, o_le (by omega) (by omega)]; omega), if_neg hp0.mm, if_neg (o_ob (by omega) (by omega)), o_c (by omega)]
    unfold fX7_pour_91
    rw [o_1]
    by_cases c : (g i).toInt < 0
    · rw [if_pos (by rw [lt0]; exact c)]
      exact ih (i + 1) fu g' (by omega) (by omega) (fun s => by
        rw [hg s]
        by_cases d3 : s < i
        · rw [if_pos d3, if_pos (by omega)]
        · rw [if_neg d3]
          by_cases d : s = i
          · rw [if_pos (by omega), d]
            exact (if_pos c).symm
          · rw [if_neg (by omega)])
    · rw [if_neg (by rw [lt0]; exact c), if_neg hp1.mm, if_neg hp0.mm, if_neg (o_ob2 (by omega) (by omega)), if_neg (o_ob2 (by omega) (by omega))]
      exact ih (i + 1) fu (upd g' i (g i)) (by omega) (by omega) (fun s => by
        unfold upd
        by_cases d : s = i
        · rw [if_pos d, if_pos (by omega), d]
          exact (if_neg c).symm
        · rw [if_neg d, hg s]
          by_cases d3 : s < i
          · rw [if_pos d3, if_pos (by omega)]
          · rw [if_neg d3, if_neg (by omega)])
/-- alike up to a place -/
def eqn (f g : Nat → Int32) : Nat → Bool
  | 0 => true
  | n + 1 => eqn f g n && decide (f n = g n)
theorem eqn_iff {f g : Nat → Int32} : ∀ n, eqn f g n = true ↔ ∀ s, s < n → f s = g s := by
  intro n
  induction n with
  | zero => exact ⟨fun _ s hs => absurd hs (by omega), fun _ => rfl⟩
  | succ n ih =>
    show (eqn f g n && decide (f n = g n)) = true ↔ _
    rw [Bool.and_eq_true, ih]
    constructor
    · intro h s hs
      by_cases e : s = n
      · rw [e]; exact of_decide_eq_true h.2
      · exact h.1 s (by omega)
    · intro h
      exact ⟨fun s hs => h s (by omega), decide_eq_true (h n (by omega))⟩
theorem c_mlike_ {N K : Nat} {sz tz : Int32} {f g : Nat → Int32} : ∀ k i fu, i + k = 2646 → k < fu → (∀ s, s < i → f s = g s) → fX2_isLike_2 N K sz f tz g fu (Int32.ofNat i) = some (bi (eqn f g 2646)) := by
  intro k
  induction k with
  | zero =>
    intro i fu hi hfu h
    obtain ⟨fu, rfl⟩ : ∃ m, fu = m + 1 := ⟨fu - 1, by omega⟩
    obtain rfl : i = 2646 := by omega
    unfold fX2_isLike_2
    rw [if_pos (by decide), bi_tt ((eqn_iff 2646).mpr h)]
  | succ k ih =>
    intro i fu hi hfu h
    obtain ⟨fu, rfl⟩ : ∃ m, fu = m + 1 := ⟨fu - 1, by omega⟩
    unfold fX2_isLike_2
    rw [if_neg (by rw [show (2646 : Int32) = Int32.ofNat 2646 from rfl, o_le (by omega) (by omega)]; omega), if_neg (o_ob (by omega) (by omega)), if_neg (o_ob (by omega) (by omega)), o_c (by omega), o_1]
    by_cases c : f i = g i
    · rw [if_pos c]
      exact ih (i + 1) fu (by omega) (by omega) (fun s hs => by
        by_cases d : s = i
        · rw [d]; exact c
        · exact h s (by omega))
    · rw [if_neg c, bi_ff (Bool.eq_false_iff.mpr (fun z => c ((eqn_iff 2646).mp z i (by omega))))]
theorem c_mlikeO_ {N K : Nat} {sz : Int32} {f : Nat → Int32} : ∀ k i fu, i + k = 2646 → k < fu → fX2_isLikeOwn_2 N K sz f fu (Int32.ofNat i) = some 1 := by
  intro k
  induction k with
  | zero =>
    intro i fu hi hfu
    obtain ⟨fu, rfl⟩ : ∃ m, fu = m + 1 := ⟨fu - 1, by omega⟩
    obtain rfl : i = 2646 := by omega
    unfold fX2_isLikeOwn_2
    rw [if_pos (by decide)]
  | succ k ih =>
    intro i fu hi hfu
    obtain ⟨fu, rfl⟩ : ∃ m, fu = m + 1 := ⟨fu - 1, by omega⟩
    unfold fX2_isLikeOwn_2
    rw [if_neg (by rw [show (2646 : Int32) = Int32.ofNat 2646 from rfl, o_le (by omega) (by omega)]; omega), if_neg (o_ob (by omega) (by omega)), if_neg (o_ob (by omega) (by omega)), o_1]
    exact ih (i + 1) fu (by omega) (by omega)
theorem m_mlike_ {N K : Nat} {th0 th p0 p1 : Int32} {f g : Nat → Int32} (hp0 : Rg p0 0 2) (hp1 : Rg p1 0 2) : ∀ k i fu, i + k = 6144 → k < fu → fX7_isSame_38 N K th0 f g p0 p1 fu (bi (eqn f g i)) (Int32.ofNat i) th = some (bi (eqn f g 6144), th) := by
  intro k
  induction k with
  | zero =>
    intro i fu hi hfu
    obtain ⟨fu, rfl⟩ : ∃ m, fu = m + 1 := ⟨fu - 1, by omega⟩
    obtain rfl : i = 6144 := by omega
    unfold fX7_isSame_38
    rw [if_pos (by decide), if_pos (bi_ok _)]
  | succ k ih =>
    intro i fu hi hfu
    obtain ⟨fu, rfl⟩ : ∃ m, fu = m + 1 := ⟨fu - 1, by omega⟩
    have e := ih (i + 1) fu (by omega) (by omega)
    have es : eqn f g (i + 1) = (eqn f g i && decide (f i = g i)) := rfl
    rw [es] at e
    unfold fX7_isSame_38
    rw [if_neg (by rw [show (6144 : Int32) = Int32.ofNat 6144 from rfl, o_le (by omega) (by omega)]; omega), if_neg hp0.mm, if_neg (o_ob (by omega) (by omega)), if_neg hp1.mm, if_neg (o_ob (by omega) (by omega)), o_c (by omega)]
    unfold fX7_isSame_73
    rw [o_1]
    by_cases c : f i = g i
    · rw [if_pos c, bi_and1]
      rw [decide_eq_true c, Bool.and_true] at e
      exact e
    · rw [if_neg c, bi_and0]
      rw [decide_eq_false c, Bool.and_false] at e
      exact e
theorem m_mlikeO_ {N K : Nat} {th0 th p0 : Int32} {f : Nat → Int32} (hp0 : Rg p0 0 2) : ∀ k i fu, i + k = 6144 → k < fu → fX7_isSameOwn_38 N K th0 f p0 fu 1 (Int32.ofNat i) th = some (1, th) := by
  intro k
  induction k with
  | zero =>
    intro i fu hi hfu
    obtain ⟨fu, rfl⟩ : ∃ m, fu = m + 1 := ⟨fu - 1, by omega⟩
    obtain rfl : i = 6144 := by omega
    unfold fX7_isSameOwn_38
    rw [if_pos (by decide), if_pos (Or.inr rfl)]
  | succ k ih =>
    intro i fu hi hfu
    obtain ⟨fu, rfl⟩ : ∃ m, fu = m + 1 := ⟨fu - 1, by omega⟩
    unfold fX7_isSameOwn_38
    rw [if_neg (by rw [show (6144 : Int32) = Int32.ofNat 6144 from rfl, o_le (by omega) (by omega)]; omega), if_neg hp0.mm, if_neg (o_ob (by omega) (by omega)), if_neg hp0.mm, if_neg (o_ob (by omega) (by omega))]
    unfold fX7_isSameOwn_73
    rw [show (1 : Int32) &&& 1 = 1 from by decide, o_1]
    exact ih (i + 1) fu (by omega) (by omega)
theorem eqn_b {sz tz : Int32} {f g f2 g2 : Nat → Int32} (h : MT sz f g) (h2 : MT tz f2 g2) : eqn g g2 6144 = eqn f f2 2646 := by
  apply Bool.eq_iff_iff.mpr
  rw [eqn_iff, eqn_iff]
  constructor
  · intro e s hs
    obtain ⟨k, n, m, hk, hn, hm, rfl⟩ := sl_of hs
    rw [← h.2.2.1 k n m hk hn hm, ← h2.2.2.1 k n m hk hn hm]
    exact e _ (cd_lt hk hn hm)
  · intro e c hc
    by_cases z : ∃ k n m, k < 6 ∧ n ≤ 20 ∧ m ≤ 20 ∧ c = cd k n m
    · obtain ⟨k, n, m, hk, hn, hm, rfl⟩ := z
      rw [h.2.2.1 k n m hk hn hm, h2.2.2.1 k n m hk hn hm]
      exact e _ (sl_lt hk hn hm)
    · have z2 : ∀ k n m, k < 6 → n ≤ 20 → m ≤ 20 → ¬ c = cd k n m := fun k n m hk hn hm y => z ⟨k, n, m, hk, hn, hm, y⟩
      rw [h.2.2.2 c hc z2, h2.2.2.2 c hc z2]
