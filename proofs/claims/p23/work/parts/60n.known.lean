/-! ===== the reference: what is wanted, from above; worths, from below ===== -/
section KN2
variable {N K k x0 m0 : Nat} {th p0 p2 p3 : Int32} {f0 t0 u0 : Nat → Int32}
theorem MK_skip {T : Nat → Nat → Int32} {at_ : Nat} {u : Nat → Int32} (h : MK T k x0 m0 (at_ + 1) u) (hat : at_ + 1 ≤ pos x0 m0) (hx : x0 ≤ 20) (hm : m0 ≤ 20) (hn : ∀ b1 b2, RR T k (x0 : Int) m0 b1 b2 → ¬ pos b1 b2 = at_ + 1) : MK T k x0 m0 at_ u := by
  intro p q hp hq
  obtain ⟨⟨a1, a2⟩, a3⟩ := h p q hp hq
  refine ⟨⟨a1, by omega⟩, a3.trans ⟨fun z => ?_, fun z => ?_⟩⟩
  · rcases z with z | ⟨b1, b2, c1, c2, c3⟩
    · exact Or.inl z
    · exact Or.inr ⟨b1, b2, c1, by omega, c3⟩
  · rcases z with z | ⟨b1, b2, c1, c2, c3⟩
    · exact Or.inl z
    · have := hn b1 b2 c1
      exact Or.inr ⟨b1, b2, c1, by omega, c3⟩
theorem MK_step {T : Nat → Nat → Int32} {at_ n m : Nat} {u : Nat → Int32} (h : MK T k x0 m0 (at_ + 1) u) (hat : at_ + 1 ≤ pos x0 m0) (hx : x0 ≤ 20) (hm : m0 ≤ 20) (hn1 : 1 ≤ n) (hn : n ≤ 20) (hm1 : 1 ≤ m) (hmm : m ≤ 20) (hp : pos n m = at_ + 1) (hr : RR T k (x0 : Int) m0 n m) : MK T k x0 m0 at_ (inc k n m 1 (inc k n m 0 u)) := by
  have hx0 := pos_lt hx hm
  intro p q hpp hq
  obtain ⟨⟨a1, a2⟩, a3⟩ := h p q hpp hq
  rw [inc_at hn1 hn hm1 hmm hpp, inc_at hn1 hn hm1 hmm hpp]
  have hC : ∀ w, w < 2 → (((hl k w m = true ∧ ¬ rs (ln k w (n : Int) m) (lm k w m) = true) ∧ (ln k w (n : Int) m).toNat = p ∧ lm k w m = q) → Leg k n m p q) := fun w hw z => ⟨w, hw, z.1.1, z.2.1, z.2.2, z.1.2⟩
  have hL : Leg k n m p q → ((hl k 0 m = true ∧ ¬ rs (ln k 0 (n : Int) m) (lm k 0 m) = true) ∧ (ln k 0 (n : Int) m).toNat = p ∧ lm k 0 m = q) ∨ ((hl k 1 m = true ∧ ¬ rs (ln k 1 (n : Int) m) (lm k 1 m) = true) ∧ (ln k 1 (n : Int) m).toNat = p ∧ lm k 1 m = q) := by
    rintro ⟨w, hw, z1, z2, z3, z4⟩
    have hw2 : w = 0 ∨ w = 1 := by omega
    rcases hw2 with rfl | rfl
    · exact Or.inl ⟨⟨z1, z4⟩, z2, z3⟩
    · exact Or.inr ⟨⟨z1, z4⟩, z2, z3⟩
  have hAsk : Ask T k x0 m0 at_ p q ↔ (Ask T k x0 m0 (at_ + 1) p q ∨ Leg k n m p q) := by
    constructor
    · rintro (z | ⟨b1, b2, c1, c2, c3⟩)
      · exact Or.inl (Or.inl z)
      · by_cases e : pos b1 b2 = at_ + 1
        · obtain ⟨-, d1, d2, d3, d4, -⟩ := RR_un ((x0 : Int).toNat + m0 + 1) (x0 : Int) m0 (by omega) (by omega) hm c1
          obtain ⟨rfl, rfl⟩ := pos_inj d3 hn (e.trans hp.symm)
          exact Or.inr c3
        · exact Or.inl (Or.inr ⟨b1, b2, c1, by omega, c3⟩)
    · rintro ((z | ⟨b1, b2, c1, c2, c3⟩) | z)
      · exact Or.inl z
      · exact Or.inr ⟨b1, b2, c1, by omega, c3⟩
      · exact Or.inr ⟨n, m, hr, by omega, z⟩
  rw [hAsk]
  have s1 := add1 (v := u (pos p q)) a1 (by omega)
  by_cases c0 : (hl k 0 m = true ∧ ¬ rs (ln k 0 (n : Int) m) (lm k 0 m) = true) ∧ (ln k 0 (n : Int) m).toNat = p ∧ lm k 0 m = q
  · rw [if_pos c0]
    have s2 := add1 (v := u (pos p q) + (1 : Int32)) (by omega) (by omega)
    by_cases c1 : (hl k 1 m = true ∧ ¬ rs (ln k 1 (n : Int) m) (lm k 1 m) = true) ∧ (ln k 1 (n : Int) m).toNat = p ∧ lm k 1 m = q
    · rw [if_pos c1]
      exact ⟨⟨by omega, by omega⟩, fun _ => Or.inr (hC 0 (by omega) c0), fun _ => ne0_of (by omega)⟩
    · rw [if_neg c1]
      exact ⟨⟨by omega, by omega⟩, fun _ => Or.inr (hC 0 (by omega) c0), fun _ => ne0_of (by omega)⟩
  · rw [if_neg c0]
    by_cases c1 : (hl k 1 m = true ∧ ¬ rs (ln k 1 (n : Int) m) (lm k 1 m) = true) ∧ (ln k 1 (n : Int) m).toNat = p ∧ lm k 1 m = q
    · rw [if_pos c1]
      exact ⟨⟨by omega, by omega⟩, fun _ => Or.inr (hC 1 (by omega) c1), fun _ => ne0_of (by omega)⟩
    · rw [if_neg c1]
      refine ⟨⟨a1, by omega⟩, fun z => Or.inl (a3.mp z), fun z => a3.mpr ?_⟩
      rcases z with z | z
      · exact z
      · rcases hL z with z | z
        · exact absurd z c0
        · exact absurd z c1
/-- the contents, as the class has them, as far as they are asked for: above at -/
def GV (T : Nat → Nat → Int32) (f v : Nat → Int32) (k x0 m0 at_ : Nat) : Prop := (∀ p q, p ≤ 20 → q ≤ 20 → ((RR T k (x0 : Int) m0 p q ∧ at_ < pos p q) → tab v k p q = VV T k (p : Int) q) ∧ (¬ (RR T k (x0 : Int) m0 p q ∧ at_ < pos p q) → tab v k p q = tab f k p q)) ∧ ∀ s, (∀ p q, p ≤ 20 → q ≤ 20 → ¬ s = sl k p q) → v s = f s
/-- how often the places are wanted that are still to come -/
def su (u : Nat → Int32) (n : Nat) : Nat := sm (fun a => (u a).toInt.toNat) n
/-- what is wanted, made, found so far, r still to come -/
def TC (f v t0 t : Nat → Int32) (r : Nat) : Prop := ∃ w d : Nat, d ≤ w ∧ w + r + phi f = phi v + 1 ∧ cnt v = cnt f + d ∧ t 1 = t0 1 + Int32.ofNat w ∧ t 2 = t0 2 + Int32.ofNat d ∧ t 3 = t0 3 + Int32.ofNat (w - d) ∧ ∀ i, ¬ i = 1 → ¬ i = 2 → ¬ i = 3 → t i = t0 i
theorem o_back {v : Int32} (h : 0 ≤ v.toInt) : v = Int32.ofNat v.toInt.toNat := by
  have b := rgI v
  apply Int32.toInt_inj.mp
  rw [o_i (by omega)]
  omega
theorem TC.kept {f v t0 t : Nat → Int32} {r : Nat} {x : Int32} (hx : 0 ≤ x.toInt) (h : TC f v t0 t (r + x.toInt.toNat)) : TC f v t0 (tka 0 x t) r := by
  obtain ⟨w, d, h0, h1, h2, h3, h4, h5, h6⟩ := h
  refine ⟨w + x.toInt.toNat, d, by omega, by omega, h2, ?_, ?_, ?_, fun i a b c => (tka_o a b c).trans (h6 i a b c)⟩
  · rw [tka_1, h3]
    conv => lhs; rw [o_back hx]
    exact o_a2
  · rw [tka_2, h4, Int32.add_zero]
  · rw [tka_3, h5, Int32.sub_zero]
    conv => lhs; rw [o_back hx]
    rw [o_a2, show w - d + x.toInt.toNat = w + x.toInt.toNat - d from by omega]
theorem TC.made {f v t0 t : Nat → Int32} {r i l : Nat} {x y : Int32} (hx : 1 ≤ x.toInt) (h : TC f v t0 t (r + x.toInt.toNat)) (hi : i < 2646) (hu : v i = -1) (hy : ¬ y = -1) (hl : nlS i = l) : TC f (upd v i y) t0 (tka 1 x t) (r + l) := by
  obtain ⟨w, d, h0, h1, h2, h3, h4, h5, h6⟩ := h
  have p := phi_upd (f := v) (v := y) hi
  have q := cnt_upd (f := v) (v := y) hi
  rw [if_pos hu, if_neg hy] at p q
  have e1 : x - 1 = Int32.ofNat (x.toInt.toNat - 1) := by
    conv => lhs; rw [o_back (show 0 ≤ x.toInt by omega)]
    exact o_sub (b := 1) (by omega)
  refine ⟨w + x.toInt.toNat, d + 1, by omega, by omega, by omega, ?_, ?_, ?_, fun i a b c => (tka_o a b c).trans (h6 i a b c)⟩
  · rw [tka_1, h3]
    conv => lhs; rw [o_back (show 0 ≤ x.toInt by omega)]
    exact o_a2
  · rw [tka_2, h4]
    exact o_a2 (b := 1)
  · rw [tka_3, h5, e1, o_a2, show w - d + (x.toInt.toNat - 1) = w + x.toInt.toNat - (d + 1) from by omega]
theorem su_inc {n m w at_ : Nat} {u : Nat → Int32} (hw : w < 2) (hn1 : 1 ≤ n) (hn : n ≤ 20) (hm1 : 1 ≤ m) (hm : m ≤ 20) (hp : pos n m = at_ + 1) (hu : ∀ p q, p ≤ 20 → q ≤ 20 → 0 ≤ (u (pos p q)).toInt ∧ (u (pos p q)).toInt ≤ 100000) : su (inc k n m w u) at_ = su u at_ + rr k w n m := by
  obtain ⟨e1, -, e2⟩ := leg_bd (k := k) (w := w) (x := (n : Int)) (m := m) (by omega) hm (rs_n (by omega) hm1)
  unfold inc rr
  by_cases c : hl k w m = true ∧ ¬ rs (ln k w (n : Int) m) (lm k w m) = true
  · rw [if_pos c, if_pos c]
    obtain ⟨g1, g2⟩ := rs_f c.2
    have pl := pos_leg hw hn1 hn hm1 c.2
    have p1 : 1 ≤ pos (ln k w (n : Int) m).toNat (lm k w m) := by unfold pos; omega
    obtain ⟨b1, b2⟩ := hu (ln k w (n : Int) m).toNat (lm k w m) (by omega) e2
    generalize pos (ln k w (n : Int) m).toNat (lm k w m) = a at *
    have s1 := add1 b1 b2
    have e : (fun z => (upd u a (u a + (1 : Int32)) z).toInt.toNat) = upm (fun z => (u z).toInt.toNat) a ((u a).toInt.toNat + 1) := by
      funext z
      unfold upd upm
      by_cases y : z = a
      · rw [if_pos y, if_pos y, s1]; omega
      · rw [if_neg y, if_neg y]
    have q := sm_upm (g := fun z => (u z).toInt.toNat) (v := (u a).toInt.toNat + 1) (n := at_) p1 (show a ≤ at_ by omega)
    unfold su
    rw [e]
    omega
  · rw [if_neg c, if_neg c, Nat.add_zero]
theorem m_loop2 (hk : k < 6) (hp0 : Rg p0 0 2) (hN : 100 ≤ N) (hx1 : 1 ≤ x0) (hx : x0 ≤ 20) (hm1 : 1 ≤ m0) (hm : m0 ≤ 20) {f g tt : Nat → Int32} (hT : OKT (tabm g k)) (hfg : ∀ n m, n ≤ 20 → m ≤ 20 → tabm g k n m = tab f k n m) : ∀ at_ fu (t u v : Nat → Int32), at_ ≤ pos x0 m0 → at_ < fu → MK (tabm g k) k x0 m0 at_ u → GV (tabm g k) f v k x0 m0 at_ → TC f v tt t (su u at_) → ∃ t' u' v', fX7_known_68 N K th f0 t0 u0 p0 (Int32.ofNat k) p2 p3 fu (Int32.ofNat at_) g t u = fX7_known_277 N K th f0 t0 u0 p0 (Int32.ofNat k) p2 p3 N (0 : Int32) g t' u' ∧ MK (tabm g k) k x0 m0 0 u' ∧ GV (tabm g k) f v' k x0 m0 0 ∧ TC f v' tt t' 0 := by
  have hx0 := pos_lt hx hm
  intro at_
  induction at_ with
  | zero =>
    intro fu t u v _ hfu h hv hc
    obtain ⟨fu, rfl⟩ : ∃ z, fu = z + 1 := ⟨fu - 1, by omega⟩
    refine ⟨t, u, v, ?_, h, hv, hc⟩
    conv => lhs; unfold fX7_known_68
    rw [if_pos (by decide)]
  | succ at_ ih =>
    intro fu t u v hat hfu h hv hc
    obtain ⟨fu, rfl⟩ : ∃ z, fu = z + 1 := ⟨fu - 1, by omega⟩
    have hn : (at_ + 1) % 21 ≤ 20 := by omega
    have hm' : (at_ + 1) / 21 ≤ 20 := by omega
    have hp : pos ((at_ + 1) % 21) ((at_ + 1) / 21) = at_ + 1 := by unfold pos; omega
    obtain ⟨⟨a1, a2⟩, a3⟩ := h _ _ hn hm'
    rw [hp] at a1 a2 a3
    generalize (at_ + 1) % 21 = n at *
    generalize (at_ + 1) / 21 = m at *
    have esu : su u (at_ + 1) = su u at_ + (u (at_ + 1)).toInt.toNat := rfl
    -- a place that isn't made
    have gvs : (∀ b1 b2, RR (tabm g k) k (x0 : Int) m0 b1 b2 → ¬ pos b1 b2 = at_ + 1) → GV (tabm g k) f v k x0 m0 at_ := by
      intro hno
      refine ⟨fun p q hpp hq => ⟨fun z => ?_, fun z => ?_⟩, hv.2⟩
      · have := hno p q z.1
        exact (hv.1 p q hpp hq).1 ⟨z.1, by omega⟩
      · exact (hv.1 p q hpp hq).2 (fun y => z ⟨y.1, by omega⟩)
    by_cases hu : u (at_ + 1) = 0
    · have hno : ∀ b1 b2, RR (tabm g k) k (x0 : Int) m0 b1 b2 → ¬ pos b1 b2 = at_ + 1 := by
        intro b1 b2 c1 c2
        obtain ⟨-, d1, d2, d3, d4, -⟩ := RR_un ((x0 : Int).toNat + m0 + 1) (x0 : Int) m0 (by omega) (by omega) hm c1
        obtain ⟨rfl, rfl⟩ := pos_inj d3 hn (c2.trans hp.symm)
        exact a3.mpr (Ask.of hx hm c1 (by omega)) hu
      have hskip : MK (tabm g k) k x0 m0 at_ u := MK_skip h hat hx hm hno
      have hc2 : TC f v tt t (su u at_) := by
        rw [esu, hu, show ((0 : Int32).toInt.toNat) = 0 from by decide, Nat.add_zero] at hc
        exact hc
      obtain ⟨t', u', v', r1, r2, r3, r4⟩ := ih fu t u v (by omega) (by omega) hskip (gvs hno) hc2
      refine ⟨t', u', v', ?_, r2, r3, r4⟩
      conv => lhs; unfold fX7_known_68
      rw [if_neg (o_0lt (by omega) (by omega)), if_neg (o_ob (by omega) (by omega)), o_c (by omega), if_pos hu]
      unfold fX7_known_268
      rw [o_m1]
      exact r1
    · have hask := a3.mp hu
      have u1 := pos_of a1 hu
      obtain ⟨b1, b2, b3, b4⟩ := hask.b hx1 hx hm1 hm
      have hg : g (cd k n m) = -1 ∨ 0 ≤ (g (cd k n m)).toInt := by
        rcases hT n m b2 b4 with z | ⟨-, -, z, -⟩
        · exact Or.inl z
        · exact Or.inr z
      have e1 := m68 (N := N) (K := K) (th := th) (p2 := p2) (p3 := p3) (f0 := f0) (t0 := t0) (u0 := u0) hk hp0 hN b1 b2 b3 b4 (fu := fu) (g := g) (t := t) (u := u) (by rw [hp]; exact hu) hg
      rw [hp, show at_ + 1 - 1 = at_ from by omega] at e1
      by_cases c : g (cd k n m) = -1
      · rw [if_pos c, if_pos c] at e1
        have hrr := hask.rr hx1 hx hm1 hm c
        have hub : ∀ p q, p ≤ 20 → q ≤ 20 → 0 ≤ (u (pos p q)).toInt ∧ (u (pos p q)).toInt ≤ 1000 := by
          intro p q hpp hq
          obtain ⟨⟨z1, z2⟩, -⟩ := h p q hpp hq
          exact ⟨z1, by omega⟩
        have hub2 : ∀ p q, p ≤ 20 → q ≤ 20 → 0 ≤ (inc k n m 0 u (pos p q)).toInt ∧ (inc k n m 0 u (pos p q)).toInt ≤ 100000 := by
          intro p q hpp hq
          obtain ⟨z1, z2⟩ := hub p q hpp hq
          have s1 := add1 (v := u (pos p q)) z1 (by omega)
          rw [inc_at b1 b2 b3 b4 hpp]
          by_cases y : (hl k 0 m = true ∧ ¬ rs (ln k 0 (n : Int) m) (lm k 0 m) = true) ∧ (ln k 0 (n : Int) m).toNat = p ∧ lm k 0 m = q
          · rw [if_pos y]; omega
          · rw [if_neg y]; omega
        have s0 := su_inc (k := k) (w := 0) (at_ := at_) (u := u) (by omega) b1 b2 b3 b4 hp (fun p q hpp hq => by have := hub p q hpp hq; omega)
        have s1 := su_inc (k := k) (w := 1) (at_ := at_) (u := inc k n m 0 u) (by omega) b1 b2 b3 b4 hp hub2
        have hsl := sl_lt hk b2 b4
        have hvy : ¬ VV (tabm g k) k (n : Int) m = -1 := VV_ne hT hk (by omega) b4
        have hvu : v (sl k n m) = -1 := ((hv.1 n m b2 b4).2 (fun z => by omega)).trans ((hfg n m b2 b4).symm.trans c)
        have hc2 : TC f (upd v (sl k n m) (VV (tabm g k) k (n : Int) m)) tt (tka 1 (u (at_ + 1)) t) (su (inc k n m 1 (inc k n m 0 u)) at_) := by
          rw [s1, s0, Nat.add_assoc]
          rw [esu] at hc
          exact TC.made u1 hc hsl hvu hvy (nlS_sl b2 b4)
        have hv2 : GV (tabm g k) f (upd v (sl k n m) (VV (tabm g k) k (n : Int) m)) k x0 m0 at_ := by
          refine ⟨fun p q hpp hq => ?_, fun s hs => ?_⟩
          · rw [tab_at b2 b4 hpp hq]
            by_cases e : n = p ∧ m = q
            · obtain ⟨rfl, rfl⟩ := e
              rw [if_pos ⟨rfl, rfl⟩]
              exact ⟨fun _ => rfl, fun z => absurd ⟨hrr, by omega⟩ z⟩
            · rw [if_neg e]
              have hpi : ¬ pos p q = at_ + 1 := fun y => e (by obtain ⟨a, b⟩ := pos_inj hpp b2 (y.trans hp.symm); exact ⟨a.symm, b.symm⟩)
              exact ⟨fun z => (hv.1 p q hpp hq).1 ⟨z.1, by omega⟩, fun z => (hv.1 p q hpp hq).2 (fun y => z ⟨y.1, by omega⟩)⟩
          · unfold upd
            rw [if_neg (hs n m b2 b4)]
            exact hv.2 s hs
        obtain ⟨t', u', v', r1, r2⟩ := ih fu _ _ _ (by omega) (by omega) (MK_step h hat hx hm b1 b2 b3 b4 hp hrr) hv2 hc2
        exact ⟨t', u', v', e1.trans r1, r2⟩
      · rw [if_neg c, if_neg c] at e1
        have hno : ∀ d1 d2, RR (tabm g k) k (x0 : Int) m0 d1 d2 → ¬ pos d1 d2 = at_ + 1 := by
          intro d1 d2 c1 c2
          obtain ⟨z, -, -, d3, -, -⟩ := RR_un ((x0 : Int).toNat + m0 + 1) (x0 : Int) m0 (by omega) (by omega) hm c1
          obtain ⟨rfl, rfl⟩ := pos_inj d3 hn (c2.trans hp.symm)
          exact c z
        obtain ⟨t', u', v', r1, r2⟩ := ih fu _ u v (by omega) (by omega) (MK_skip h hat hx hm hno) (gvs hno) (TC.kept a1 hc)
        exact ⟨t', u', v', e1.trans r1, r2⟩
/-- the contents as far as they are written -/
def KP (g g' : Nat → Int32) (k x0 m0 i : Nat) : Prop := (∀ p q, p ≤ 20 → q ≤ 20 → ((RR (tabm g k) k (x0 : Int) m0 p q ∧ pos p q < i) → tabm g' k p q = VV (tabm g k) k (p : Int) q) ∧ (¬ (RR (tabm g k) k (x0 : Int) m0 p q ∧ pos p q < i) → tabm g' k p q = tabm g k p q)) ∧ ∀ c, (∀ p q, p ≤ 20 → q ≤ 20 → ¬ c = cd k p q) → g' c = g c
theorem m_loop3 (hk : k < 6) (hp0 : Rg p0 0 2) (hN : 100 ≤ N) (hx1 : 1 ≤ x0) (hx : x0 ≤ 20) (hm1 : 1 ≤ m0) (hm : m0 ≤ 20) {g t u : Nat → Int32} (hT : OKT (tabm g k)) (hu : MK (tabm g k) k x0 m0 0 u) : ∀ n i fu (g' : Nat → Int32), i + n = pos x0 m0 + 1 → n < fu → KP g g' k x0 m0 i → ∃ g2, fX7_known_277 N K th f0 t0 u0 p0 (Int32.ofNat k) (Int32.ofNat x0) (Int32.ofNat m0) fu (Int32.ofNat i) g' t u = some (VV (tabm g k) k (x0 : Int) m0, g2, t, u) ∧ KP g g2 k x0 m0 (pos x0 m0 + 1) := by
  have hx0 := pos_lt hx hm
  have ex : ((x0 : Nat) : Int).toNat = x0 := by omega
  have hroot : ¬ rs (x0 : Int) m0 = true := rs_n (by omega) hm1
  intro n
  induction n with
  | zero =>
    intro i fu g' hi hfu h
    obtain ⟨fu, rfl⟩ : ∃ z, fu = z + 1 := ⟨fu - 1, by omega⟩
    obtain rfl : i = pos x0 m0 + 1 := by omega
    refine ⟨g', ?_, h⟩
    unfold fX7_known_277
    rw [o_pos, if_pos (by rw [o_lt (by omega) (by omega)]; omega), m_worth hk hp0 hm (by rw [o_i (by omega)]; omega), Option.bind_some, o_i (by omega), if_neg hroot, ex]
    have e : g' (cd k x0 m0) = VV (tabm g k) k (x0 : Int) m0 := by
      by_cases c : tabm g k x0 m0 = -1
      · have s := RR_self (T := tabm g k) (k := k) (x := (x0 : Int)) (m := m0) (by omega) hm hroot (by rw [ex]; exact c)
        rw [ex] at s
        exact (h.1 x0 m0 hx hm).1 ⟨s, by omega⟩
      · have v := VV_eq (T := tabm g k) (k := k) (x := (x0 : Int)) (m := m0) (by omega) hm
        rw [if_neg hroot, ex, if_neg c] at v
        rw [v]
        exact (h.1 x0 m0 hx hm).2 (fun z => c (RR_un ((x0 : Int).toNat + m0 + 1) (x0 : Int) m0 (by omega) (by omega) hm z.1).1)
    rw [e]
  | succ n ih =>
    intro i fu g' hi hfu h
    obtain ⟨fu, rfl⟩ : ∃ z, fu = z + 1 := ⟨fu - 1, by omega⟩
    have hn : i % 21 ≤ 20 := by omega
    have hm' : i / 21 ≤ 20 := by omega
    have hp : pos (i % 21) (i / 21) = i := by unfold pos; omega
    obtain ⟨⟨a1, a2⟩, a3⟩ := hu _ _ hn hm'
    rw [hp] at a1 a2 a3
    have hmod : Int32.ofNat i % (21 : Int32) = Int32.ofNat (i % 21) := by rw [show (21 : Int32) = Int32.ofNat 21 from rfl, o_mod (by omega) (by omega)]
    have hdiv : Int32.ofNat i / (21 : Int32) = Int32.ofNat (i / 21) := by rw [show (21 : Int32) = Int32.ofNat 21 from rfl, o_div (by omega) (by omega)]
    unfold fX7_known_277
    rw [o_pos, if_neg (by rw [o_lt (by omega) (by omega)]; omega), if_neg (o_ob (by omega) (by omega)), o_c (by omega)]
    have q0 : (0 : Int32).toInt = 0 := by decide
    have next : ∀ g3, KP g g3 k x0 m0 (i + 1) → ∃ g2, fX7_known_315 N K th f0 t0 u0 p0 (Int32.ofNat k) (Int32.ofNat x0) (Int32.ofNat m0) (fX7_known_277 N K th f0 t0 u0 p0 (Int32.ofNat k) (Int32.ofNat x0) (Int32.ofNat m0) fu) (Int32.ofNat i) g3 t u = some (VV (tabm g k) k (x0 : Int) m0, g2, t, u) ∧ KP g g2 k x0 m0 (pos x0 m0 + 1) := by
      intro g3 h3
      unfold fX7_known_315
      rw [o_1]
      exact ih (i + 1) fu g3 (by omega) (by omega) h3
    have same : (∀ p q, RR (tabm g k) k (x0 : Int) m0 p q → ¬ pos p q = i) → KP g g' k x0 m0 (i + 1) := by
      intro hs
      refine ⟨fun p q hpp hq => ⟨fun z => ?_, fun z => ?_⟩, h.2⟩
      · have := hs p q z.1
        exact (h.1 p q hpp hq).1 ⟨z.1, by omega⟩
      · exact (h.1 p q hpp hq).2 (fun y => z ⟨y.1, by omega⟩)
    by_cases c : u i = 0
    · rw [if_pos (by rw [c]; decide)]
      refine next g' (same (fun p q z e => ?_))
      obtain ⟨-, d1, d2, d3, d4, -⟩ := RR_un ((x0 : Int).toNat + m0 + 1) (x0 : Int) m0 (by omega) (by omega) hm z
      obtain ⟨rfl, rfl⟩ := pos_inj d3 hn (e.trans hp.symm)
      exact a3.mpr (Ask.of hx hm z (Nat.zero_le _)) c
    · have hask := a3.mp c
      obtain ⟨b1, b2, b3, b4⟩ := hask.b hx1 hx hm1 hm
      have p1 := pos_of a1 c
      rw [if_neg (by rw [Int32.le_iff_toInt_le]; omega), hmod, hdiv]
      generalize i % 21 = n2 at *
      generalize i / 21 = m2 at *
      have hold : g' (cd k n2 m2) = g (cd k n2 m2) := (h.1 n2 m2 b2 b4).2 (fun z => by omega)
      have hg : g' (cd k n2 m2) = -1 ∨ 0 ≤ (g' (cd k n2 m2)).toInt := by
        rw [hold]
        rcases hT n2 m2 b2 b4 with z | ⟨-, -, z, -⟩
        · exact Or.inl z
        · exact Or.inr z
      rw [m_keep hN hk hp0 b1 b2 b3 b4 hg, Option.bind_some]
      by_cases d : g (cd k n2 m2) = -1
      · rw [if_pos (hold.trans d)]
        have hrr := hask.rr hx1 hx hm1 hm d
        have r2 : ¬ rs (n2 : Int) m2 = true := rs_n (by omega) b3
        have en2 : ((n2 : Nat) : Int).toNat = n2 := by omega
        have v := VV_eq (T := tabm g k) (k := k) (x := (n2 : Int)) (m := m2) (by omega) b4
        rw [if_neg r2, en2, if_pos (show tabm g k n2 m2 = -1 from d)] at v
        have hW : ∀ w, w < 2 → hl k w m2 = true → Wl g' k w n2 m2 = VV (tabm g k) k (ln k w (n2 : Int) m2) (lm k w m2) := by
          intro w hw hh
          obtain ⟨e1, -, e2⟩ := leg_bd (k := k) (w := w) (x := (n2 : Int)) (m := m2) (by omega) b4 r2
          rw [VV_eq e1 e2]
          unfold Wl
          by_cases rr : rs (ln k w (n2 : Int) m2) (lm k w m2) = true
          · rw [if_pos rr, if_pos rr]
          · rw [if_neg rr, if_neg rr]
            obtain ⟨s1, s2⟩ := rs_f rr
            have ey : (((ln k w (n2 : Int) m2).toNat : Nat) : Int) = ln k w (n2 : Int) m2 := by omega
            have pl := pos_leg hw b1 b2 b3 rr
            by_cases uu : tabm g k (ln k w (n2 : Int) m2).toNat (lm k w m2) = -1
            · rw [if_pos uu]
              have z := (h.1 _ _ (show (ln k w (n2 : Int) m2).toNat ≤ 20 by omega) e2).1 ⟨RR_leg hw hh (by omega) hm hrr rr uu, by omega⟩
              have vz := VV_eq (T := tabm g k) (k := k) e1 e2
              rw [if_neg rr, if_pos uu] at vz
              rw [ey] at z
              exact z.trans vz
            · rw [if_neg uu]
              exact (h.1 _ _ (show (ln k w (n2 : Int) m2).toNat ≤ 20 by omega) e2).2 (fun z => uu (RR_un ((x0 : Int).toNat + m0 + 1) (x0 : Int) m0 (by omega) (by omega) hm z.1).1)
        have hval : Wl g' k 0 n2 m2 + (if hl k 1 m2 = true then Wl g' k 1 n2 m2 else 0) = VV (tabm g k) k (n2 : Int) m2 := by
          rw [v, hW 0 (by omega) hl0]
          by_cases hh : hl k 1 m2 = true
          · rw [if_pos hh, if_pos hh, hW 1 (by omega) hh]
          · rw [if_neg hh, if_neg hh]
        rw [hval]
        refine next _ ⟨fun p q hpp hq => ?_, fun cc hcc => ?_⟩
        · by_cases e : p = n2 ∧ q = m2
          · obtain ⟨rfl, rfl⟩ := e
            refine ⟨fun _ => upd_at, fun z => absurd ⟨hrr, by omega⟩ z⟩
          · have hne : ¬ cd k p q = cd k n2 m2 := fun z => e (by obtain ⟨-, a, b⟩ := cd_inj hpp hq b2 b4 z; exact ⟨a, b⟩)
            have hsame : tabm (upd g' (cd k n2 m2) (VV (tabm g k) k (n2 : Int) m2)) k p q = tabm g' k p q := by
              unfold tabm upd
              rw [if_neg hne]
            rw [hsame]
            constructor
            · intro z
              have hpi : ¬ pos p q = i := fun y => e (pos_inj hpp b2 (y.trans hp.symm))
              exact (h.1 p q hpp hq).1 ⟨z.1, by omega⟩
            · intro z
              exact (h.1 p q hpp hq).2 (fun y => z ⟨y.1, by omega⟩)
        · unfold upd
          rw [if_neg (hcc n2 m2 b2 b4)]
          exact h.2 cc hcc
      · rw [if_neg (fun z => d (hold.symm.trans z))]
        refine next g' (same (fun p q z e => ?_))
        obtain ⟨d0, d1, d2, d3, d4, -⟩ := RR_un ((x0 : Int).toNat + m0 + 1) (x0 : Int) m0 (by omega) (by omega) hm z
        obtain ⟨rfl, rfl⟩ := pos_inj d3 b2 (e.trans hp.symm)
        exact d d0
theorem m_loop1 : ∀ n i fu (u g t : Nat → Int32), i + n = 441 → n < fu → x0 ≤ 20 → m0 ≤ 20 → ∃ u', fX7_known_22 N K th f0 t0 u0 p0 (Int32.ofNat k) (Int32.ofNat x0) (Int32.ofNat m0) fu (Int32.ofNat i) g t u = fX7_known_68 N K th f0 t0 u0 p0 (Int32.ofNat k) (Int32.ofNat x0) (Int32.ofNat m0) N (Int32.ofNat (pos x0 m0)) g t (upd u' (pos x0 m0) 1) ∧ ∀ a, u' a = if i ≤ a ∧ a < 441 then 0 else u a := by
  intro n
  induction n with
  | zero =>
    intro i fu u g t hi hfu hx hm
    obtain ⟨fu, rfl⟩ : ∃ z, fu = z + 1 := ⟨fu - 1, by omega⟩
    obtain rfl : i = 441 := by omega
    have hp := pos_lt hx hm
    refine ⟨u, ?_, fun a => by rw [if_neg (by omega)]⟩
    unfold fX7_known_22
    rw [if_pos (by decide), o_pos, if_neg (o_ob hp (by omega)), o_c (by omega)]
  | succ n ih =>
    intro i fu u g t hi hfu hx hm
    obtain ⟨fu, rfl⟩ : ∃ z, fu = z + 1 := ⟨fu - 1, by omega⟩
    obtain ⟨u', h1, h2⟩ := ih (i + 1) fu (upd u i 0) g t (by omega) (by omega) hx hm
    refine ⟨u', ?_, fun a => ?_⟩
    · unfold fX7_known_22
      rw [if_neg (by rw [show (441 : Int32) = Int32.ofNat 441 from rfl, o_le (by omega) (by omega)]; omega), if_neg (o_ob (by omega) (by omega)), o_c (by omega), o_1]
      exact h1
    · rw [h2 a]
      unfold upd
      by_cases c : i + 1 ≤ a ∧ a < 441
      · rw [if_pos c, if_pos (by omega)]
      · rw [if_neg c]
        by_cases e : a = i
        · rw [if_pos e, if_pos (by omega)]
        · rw [if_neg e, if_neg (by omega)]
theorem m_known (hk : k < 6) (hp0 : Rg p0 0 2) (hN : 1000 ≤ N) (hx : x0 ≤ 20) (hm : m0 ≤ 20) {f g t u : Nat → Int32} (hT : OKT (tabm g k)) (hfg : ∀ n m, n ≤ 20 → m ≤ 20 → tabm g k n m = tab f k n m) : ∃ g' t' u' v, fX7_known N K th g t u p0 (Int32.ofNat k) (Int32.ofNat x0) (Int32.ofNat m0) = some (VV (tabm g k) k (x0 : Int) m0, g', t', u') ∧ Fil (tabm g k) (tabm g' k) k (x0 : Int) m0 ∧ (∀ c, (∀ p q, p ≤ 20 → q ≤ 20 → ¬ c = cd k p q) → g' c = g c) ∧ (∀ p q, p ≤ 20 → q ≤ 20 → tabm g' k p q = tab v k p q) ∧ (∀ s, (∀ p q, p ≤ 20 → q ≤ 20 → ¬ s = sl k p q) → v s = f s) ∧ CK f v (if rs (x0 : Int) m0 = true then 0 else 1) (t 1) (t' 1) (t 2) (t' 2) (t 3) (t' 3) ∧ ∀ i, ¬ i = 1 → ¬ i = 2 → ¬ i = 3 → t' i = t i := by
  have ex : ((x0 : Nat) : Int).toNat = x0 := by omega
  have ei : (Int32.ofNat x0).toInt = (x0 : Int) := o_i (by omega)
  have hx0 := pos_lt hx hm
  unfold fX7_known
  rw [m_rests hm, Option.bind_some, ei]
  by_cases r : rs (x0 : Int) m0 = true
  · refine ⟨g, t, u, f, ?_, Fil.r (by omega) hm (Or.inl r), fun _ _ => rfl, hfg, fun _ _ => rfl, by rw [if_pos r]; exact CK.r, fun _ _ _ _ => rfl⟩
    rw [r, if_neg bitn, m_worth hk hp0 hm (by omega), Option.bind_some, ei, VV_eq (by omega) hm, if_pos r, if_pos r]
  · obtain ⟨g1, g2⟩ := rs_f r
    rw [Bool.eq_false_iff.mpr r, if_pos bif0]
    obtain ⟨u1, h1, h2⟩ := m_loop1 (N := N) (K := K) (k := k) (x0 := x0) (m0 := m0) (th := th) (p0 := p0) (f0 := g) (t0 := t) (u0 := u) 441 0 N u g t rfl (by omega) hx hm
    have hno : ∀ b1 b2, RR (tabm g k) k (x0 : Int) m0 b1 b2 → ¬ pos x0 m0 < pos b1 b2 := by
      intro b1 b2 z
      have := RR_pos ((x0 : Int).toNat + m0 + 1) (x0 : Int) m0 (by omega) (by omega) hm z
      rw [ex] at this
      omega
    have hmk : MK (tabm g k) k x0 m0 (pos x0 m0) (upd u1 (pos x0 m0) 1) := by
      intro p q hp hq
      have hpq := pos_lt hp hq
      have q1 : (1 : Int32).toInt = 1 := by decide
      have q0 : (0 : Int32).toInt = 0 := by decide
      unfold upd
      by_cases e : pos p q = pos x0 m0
      · obtain ⟨rfl, rfl⟩ := pos_inj hp hx e
        rw [if_pos rfl]
        exact ⟨⟨by omega, by omega⟩, fun _ => Or.inl ⟨rfl, rfl⟩, fun _ => by decide⟩
      · rw [if_neg e, h2, if_pos (by omega)]
        refine ⟨⟨by omega, by omega⟩, fun z => absurd rfl z, fun z => ?_⟩
        rcases z with ⟨rfl, rfl⟩ | ⟨b1, b2, z1, z2, -⟩
        · exact absurd rfl e
        · exact absurd z2 (hno b1 b2 z1)
    have hp1 : 1 ≤ pos x0 m0 := by unfold pos; omega
    have hsu : su (upd u1 (pos x0 m0) 1) (pos x0 m0) = 1 := by
      obtain ⟨z, hz⟩ : ∃ z, pos x0 m0 = z + 1 := ⟨pos x0 m0 - 1, by omega⟩
      rw [hz]
      show su (upd u1 (z + 1) 1) z + (upd u1 (z + 1) 1 (z + 1)).toInt.toNat = 1
      rw [upd_at]
      have e0 : su (upd u1 (z + 1) 1) z = 0 := by
        have e1 : su (upd u1 (z + 1) 1) z = sm (fun _ => 0) z := sm_congr (fun p a b => by
          show (upd u1 (z + 1) 1 p).toInt.toNat = 0
          unfold upd
          rw [if_neg (by omega), h2, if_pos (by omega)]
          rfl)
        rw [e1]
        have : ∀ n, sm (fun _ => 0) n = 0 := by
          intro n
          induction n with
          | zero => rfl
          | succ n ih => show sm (fun _ => 0) n + 0 = 0; rw [ih]
        exact this z
      rw [e0]
      decide
    have hgv : GV (tabm g k) f f k x0 m0 (pos x0 m0) := ⟨fun p q _ _ => ⟨fun z => absurd z.2 (hno p q z.1), fun _ => rfl⟩, fun _ _ => rfl⟩
    have htc : TC f f t t (su (upd u1 (pos x0 m0) 1) (pos x0 m0)) := by
      rw [hsu]
      exact ⟨0, 0, Nat.le_refl _, by omega, by omega, o_a0, o_a0, o_a0, fun _ _ _ _ => rfl⟩
    obtain ⟨t2, u2, v, h3, h4, hv, hc⟩ := m_loop2 (N := N) (K := K) (th := th) (p2 := Int32.ofNat x0) (p3 := Int32.ofNat m0) (f0 := g) (t0 := t) (u0 := u) hk hp0 (by omega) (by omega) hx g2 hm hT hfg (pos x0 m0) N t _ f (Nat.le_refl _) (by omega) hmk hgv htc
    obtain ⟨g', h5, h6⟩ := m_loop3 (N := N) (K := K) (th := th) (f0 := g) (t0 := t) (u0 := u) (t := t2) (u := u2) hk hp0 (by omega) (by omega) hx g2 hm hT h4 (pos x0 m0 + 1) 0 N g (by omega) (by omega) ⟨fun p q _ _ => ⟨fun z => by omega, fun _ => rfl⟩, fun _ _ => rfl⟩
    have hfil : Fil (tabm g k) (tabm g' k) k (x0 : Int) m0 := by
      refine fun p q hp hq => ⟨fun z => ?_, fun z => ?_⟩
      · have := hno p q z
        exact (h6.1 p q hp hq).1 ⟨z, by omega⟩
      · exact (h6.1 p q hp hq).2 (fun y => z y.1)
    refine ⟨g', t2, u2, v, (h1.trans (h3.trans h5)), hfil, h6.2, fun p q hp hq => ?_, hv.2, ?_, ?_⟩
    · by_cases z : RR (tabm g k) k (x0 : Int) m0 p q
      · obtain ⟨-, d1, d2, -, -, -⟩ := RR_un ((x0 : Int).toNat + m0 + 1) (x0 : Int) m0 (by omega) (by omega) hm z
        rw [(hfil p q hp hq).1 z, (hv.1 p q hp hq).1 ⟨z, by unfold pos; omega⟩]
      · rw [(hfil p q hp hq).2 z, (hv.1 p q hp hq).2 (fun y => z y.1)]
        exact hfg p q hp hq
    · obtain ⟨w, d, c0, c1, c2, c3, c4, c5, -⟩ := hc
      rw [if_neg (by decide)]
      exact ⟨w, d, c0, by omega, c2, c3, c4, c5⟩
    · obtain ⟨w, d, -, -, -, -, -, -, c6⟩ := hc
      exact c6
end KN2
