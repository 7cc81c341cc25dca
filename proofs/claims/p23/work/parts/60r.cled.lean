/-! ===== ledgers: legs, worths, what is reached ===== -/
def sgl (st j : Nat) : Nat → Nat → Nat → Nat
  | 0, _, acc => acc
  | n + 1, i, acc => if j < i then acc else sgl st j n (i + st) (if j % i = 0 then acc + i else acc)
/-- the sum of the divisors 1, 1 + st, .. -/
def sg (st j : Nat) : Nat := sgl st j 21 1 0
def P1 (j : Nat) : Nat := j * (3 * j - 1) / 2
def P2 (j : Nat) : Nat := j * (3 * j + 1) / 2
def lg (r o : Nat) : Bool := decide (r ≠ 0 ∨ o = 1 ∨ o = 2 ∨ o = 5 ∨ o = 7 ∨ o = 12 ∨ o = 15)
/-- by how much a leg counts -/
def lfI (r o : Nat) : Int32 := if r = 0 then (if o = 1 ∨ o = 2 ∨ o = 12 ∨ o = 15 then 1 else if o = 5 ∨ o = 7 then -1 else 0) else Int32.ofNat (sg r o)
def lwL : List (List Nat) := [[1, 1, 2, 3, 5, 7, 11, 15, 22, 30, 42, 56, 77, 101, 135, 176, 231, 297, 385, 490, 627], [1, 1, 2, 3, 5, 7, 11, 15, 22, 30, 42, 56, 77, 101, 135, 176, 231, 297, 385, 490, 627], [1, 1, 1, 2, 2, 3, 4, 5, 6, 8, 10, 12, 15, 18, 22, 27, 32, 38, 46, 54, 64]]
def LW (r n : Nat) : Nat := (lwL.getD r []).getD n 0
theorem LW_b : ∀ r, r < 3 → ∀ n, n < 21 → 1 ≤ LW r n ∧ LW r n ≤ 627 := by decide +kernel
theorem LW_0 : ∀ r, r < 3 → LW r 0 = 1 := by decide
theorem sg_b : ∀ r, r < 3 → ∀ o, o < 21 → 1 ≤ r → 1 ≤ o → 1 ≤ sg r o ∧ sg r o ≤ 60 := by decide +kernel
theorem lf_0 : ∀ r, r < 3 → ∀ o, o < 21 → 1 ≤ o → (lfI r o = 0 ↔ lg r o = false) := by decide +kernel
/-! reached through numbers that aren't kept -/
def LR (r : Nat) (T : Nat → Int32) : Nat → Nat → Nat → Prop
  | 0, _, _ => False
  | d + 1, x, p => 1 ≤ x ∧ T x = -1 ∧ (x = p ∨ ∃ o, 1 ≤ o ∧ o ≤ x ∧ lg r o = true ∧ LR r T d (x - o) p)
theorem LR_s {r d x p : Nat} {T : Nat → Int32} : LR r T (d + 1) x p = (1 ≤ x ∧ T x = -1 ∧ (x = p ∨ ∃ o, 1 ≤ o ∧ o ≤ x ∧ lg r o = true ∧ LR r T d (x - o) p)) := rfl
theorem LR_st {r p : Nat} {T : Nat → Int32} : ∀ d x, x < d → (LR r T d x p ↔ LR r T (d + 1) x p) := by
  intro d
  induction d with
  | zero => intro x h; omega
  | succ d ih =>
    intro x h
    rw [LR_s (d := d), LR_s (d := d + 1)]
    constructor
    · rintro ⟨a, b, c⟩
      refine ⟨a, b, ?_⟩
      rcases c with c | ⟨o, o1, o2, o3, c⟩
      · exact Or.inl c
      · exact Or.inr ⟨o, o1, o2, o3, (ih _ (by omega)).mp c⟩
    · rintro ⟨a, b, c⟩
      refine ⟨a, b, ?_⟩
      rcases c with c | ⟨o, o1, o2, o3, c⟩
      · exact Or.inl c
      · exact Or.inr ⟨o, o1, o2, o3, (ih _ (by omega)).mpr c⟩
def LRR (r : Nat) (T : Nat → Int32) (x p : Nat) : Prop := LR r T 25 x p
theorem LRR_eq {r x p : Nat} {T : Nat → Int32} (hx : x ≤ 20) : LRR r T x p ↔ (1 ≤ x ∧ T x = -1 ∧ (x = p ∨ ∃ o, 1 ≤ o ∧ o ≤ x ∧ lg r o = true ∧ LRR r T (x - o) p)) := by
  unfold LRR
  rw [LR_s (d := 24)]
  constructor
  · rintro ⟨a, b, c⟩
    refine ⟨a, b, ?_⟩
    rcases c with c | ⟨o, o1, o2, o3, c⟩
    · exact Or.inl c
    · exact Or.inr ⟨o, o1, o2, o3, (LR_st 24 _ (by omega)).mp c⟩
  · rintro ⟨a, b, c⟩
    refine ⟨a, b, ?_⟩
    rcases c with c | ⟨o, o1, o2, o3, c⟩
    · exact Or.inl c
    · exact Or.inr ⟨o, o1, o2, o3, (LR_st 24 _ (by omega)).mpr c⟩
theorem LRR_un {r p : Nat} {T : Nat → Int32} : ∀ d x, x < d → x ≤ 20 → LRR r T x p → T p = -1 ∧ 1 ≤ p ∧ p ≤ x := by
  intro d
  induction d with
  | zero => intro x h; omega
  | succ d ih =>
    intro x h hx hr
    obtain ⟨a, b, c⟩ := (LRR_eq hx).mp hr
    rcases c with rfl | ⟨o, o1, o2, -, c⟩
    · exact ⟨b, a, Nat.le_refl _⟩
    · obtain ⟨e1, e2, e3⟩ := ih (x - o) (by omega) (by omega) c
      exact ⟨e1, e2, by omega⟩
theorem LRR_b {r x p : Nat} {T : Nat → Int32} (hx : x ≤ 20) (h : LRR r T x p) : T p = -1 ∧ 1 ≤ p ∧ p ≤ x := LRR_un (x + 1) x (by omega) hx h
theorem LRR_self {r x : Nat} {T : Nat → Int32} (hx : x ≤ 20) (h1 : 1 ≤ x) (u : T x = -1) : LRR r T x x := (LRR_eq hx).mpr ⟨h1, u, Or.inl rfl⟩
theorem LRR_tr_ {r b p : Nat} {T : Nat → Int32} : ∀ d x, x < d → x ≤ 20 → LRR r T x b → LRR r T b p → LRR r T x p := by
  intro d
  induction d with
  | zero => intro x h; omega
  | succ d ih =>
    intro x h hx hr h2
    obtain ⟨a, u, c⟩ := (LRR_eq hx).mp hr
    rcases c with rfl | ⟨o, o1, o2, o3, c⟩
    · exact h2
    · exact (LRR_eq hx).mpr ⟨a, u, Or.inr ⟨o, o1, o2, o3, ih (x - o) (by omega) (by omega) c h2⟩⟩
theorem LRR_tr {r x b p : Nat} {T : Nat → Int32} (hx : x ≤ 20) (h : LRR r T x b) (h2 : LRR r T b p) : LRR r T x p := LRR_tr_ (x + 1) x (by omega) hx h h2
theorem LRR_leg {r x b o : Nat} {T : Nat → Int32} (hx : x ≤ 20) (h : LRR r T x b) (h1 : 1 ≤ o) (h2 : o < b) (h3 : lg r o = true) (u : T (b - o) = -1) : LRR r T x (b - o) := by
  obtain ⟨e1, e2, e3⟩ := LRR_b hx h
  exact LRR_tr hx h ((LRR_eq (by omega)).mpr ⟨e2, e1, Or.inr ⟨o, h1, by omega, h3, LRR_self (by omega) (by omega) u⟩⟩)
theorem LRR_par {r p : Nat} {T : Nat → Int32} : ∀ d x, x < d → x ≤ 20 → LRR r T x p → x = p ∨ ∃ b, LRR r T x b ∧ p < b ∧ lg r (b - p) = true := by
  intro d
  induction d with
  | zero => intro x h; omega
  | succ d ih =>
    intro x h hx hr
    obtain ⟨a, u, c⟩ := (LRR_eq hx).mp hr
    rcases c with c | ⟨o, o1, o2, o3, c⟩
    · exact Or.inl c
    · refine Or.inr ?_
      rcases ih (x - o) (by omega) (by omega) c with e | ⟨b, b1, b2, b3⟩
      · refine ⟨x, LRR_self hx a u, by omega, ?_⟩
        rw [show x - p = o from by omega]
        exact o3
      · exact ⟨b, (LRR_eq hx).mpr ⟨a, u, Or.inr ⟨o, o1, o2, o3, b1⟩⟩, b2, b3⟩
/-! contents -/
def LOK (r : Nat) (f : Nat → Int32) : Prop := ∀ p, 1 ≤ p → p ≤ 20 → f p = -1 ∨ f p = Int32.ofNat (LW r p)
/-- f' is f with the worths of the numbers in A -/
def LF (r : Nat) (f : Nat → Int32) (A : Nat → Prop) (f' : Nat → Int32) : Prop := ∀ p, 1 ≤ p → p ≤ 20 → (A p → f' p = Int32.ofNat (LW r p)) ∧ (¬ A p → f' p = f p)
def Clo (r : Nat) (f : Nat → Int32) (A : Nat → Prop) : Prop := ∀ p, A p → p ≤ 20 ∧ ∀ q, LRR r f p q → A q
theorem lw_ne {r p : Nat} (hr : r < 3) (hp : p ≤ 20) : ¬ Int32.ofNat (LW r p) = -1 := by
  have := LW_b r hr p (by omega)
  exact o_m1ne (by omega)
theorem LF.ok {r : Nat} {f f' : Nat → Int32} {A : Nat → Prop} (h : LF r f A f') (ho : LOK r f) : LOK r f' := by
  intro p h1 h2
  by_cases c : A p
  · exact Or.inr ((h p h1 h2).1 c)
  · rw [(h p h1 h2).2 c]; exact ho p h1 h2
theorem LF.sub {r : Nat} {f f1 : Nat → Int32} {A : Nat → Prop} (hr : r < 3) (h : LF r f A f1) {q : Nat} : ∀ d y, y < d → y ≤ 20 → LRR r f1 y q → LRR r f y q := by
  intro d
  induction d with
  | zero => intro y hd; omega
  | succ d ih =>
    intro y hd hy hR
    obtain ⟨a, u, c⟩ := (LRR_eq hy).mp hR
    have uT : f y = -1 := by
      by_cases w : A y
      · exact absurd ((h y a hy).1 w ▸ u) (lw_ne hr hy)
      · rw [← (h y a hy).2 w]; exact u
    refine (LRR_eq hy).mpr ⟨a, uT, ?_⟩
    rcases c with c | ⟨o, o1, o2, o3, c⟩
    · exact Or.inl c
    · exact Or.inr ⟨o, o1, o2, o3, ih (y - o) (by omega) (by omega) c⟩
theorem LF.sup {r : Nat} {f f1 : Nat → Int32} {A : Nat → Prop} (hA : Clo r f A) (h : LF r f A f1) {q : Nat} : ∀ d y, y < d → y ≤ 20 → LRR r f y q → LRR r f1 y q ∨ A q := by
  intro d
  induction d with
  | zero => intro y hd; omega
  | succ d ih =>
    intro y hd hy hR
    obtain ⟨a, u, c⟩ := (LRR_eq hy).mp hR
    by_cases w : A y
    · exact Or.inr ((hA y w).2 q hR)
    · have u1 : f1 y = -1 := by rw [(h y a hy).2 w]; exact u
      rcases c with c | ⟨o, o1, o2, o3, c⟩
      · exact Or.inl ((LRR_eq hy).mpr ⟨a, u1, Or.inl c⟩)
      · rcases ih (y - o) (by omega) (by omega) c with z | z
        · exact Or.inl ((LRR_eq hy).mpr ⟨a, u1, Or.inr ⟨o, o1, o2, o3, z⟩⟩)
        · exact Or.inr z
theorem LF.step {r y : Nat} {f f1 f2 : Nat → Int32} {A : Nat → Prop} (hr : r < 3) (hy : y ≤ 20) (hA : Clo r f A) (h : LF r f A f1) (h2 : LF r f1 (LRR r f1 y) f2) : LF r f (fun p => A p ∨ LRR r f y p) f2 ∧ Clo r f (fun p => A p ∨ LRR r f y p) := by
  refine ⟨fun p p1 p2 => ⟨fun z => ?_, fun z => ?_⟩, fun p z => ?_⟩
  · by_cases c : LRR r f1 y p
    · exact (h2 p p1 p2).1 c
    · rw [(h2 p p1 p2).2 c]
      refine (h p p1 p2).1 ?_
      rcases z with z | z
      · exact z
      · rcases LF.sup hA h (y + 1) y (by omega) hy z with w | w
        · exact absurd w c
        · exact w
  · rw [(h2 p p1 p2).2 (fun c => z (Or.inr (LF.sub hr h (y + 1) y (by omega) hy c)))]
    exact (h p p1 p2).2 (fun c => z (Or.inl c))
  · rcases z with z | z
    · exact ⟨(hA p z).1, fun q w => Or.inl ((hA p z).2 q w)⟩
    · have b := LRR_b hy z
      exact ⟨by omega, fun q w => Or.inr (LRR_tr hy z w)⟩
theorem LF.iff {r : Nat} {f f' : Nat → Int32} {A B : Nat → Prop} (h : LF r f A f') (e : ∀ p, A p ↔ B p) : LF r f B f' := fun p h1 h2 => ⟨fun z => (h p h1 h2).1 ((e p).mpr z), fun z => (h p h1 h2).2 (fun y => z ((e p).mp y))⟩
theorem Clo.iff {r : Nat} {f : Nat → Int32} {A B : Nat → Prop} (h : Clo r f A) (e : ∀ p, A p ↔ B p) : Clo r f B := fun p z => ⟨(h p ((e p).mpr z)).1, fun q w => (e q).mp ((h p ((e p).mpr z)).2 q w)⟩
/-- what the legs below j reach -/
def Dn (r : Nat) (f : Nat → Int32) (x j p : Nat) : Prop := ∃ o, 1 ≤ o ∧ o < j ∧ o ≤ x ∧ lg r o = true ∧ LRR r f (x - o) p
theorem LF.r {r : Nat} {f : Nat → Int32} {A : Nat → Prop} (h : ∀ p, ¬ A p) : LF r f A f := fun p _ _ => ⟨fun z => absurd z (h p), fun _ => rfl⟩
theorem Dn_0 {r x p : Nat} {f : Nat → Int32} : ¬ Dn r f x 1 p := by
  rintro ⟨o, a, b, -⟩
  omega
theorem Dn_s {r x j p : Nat} {f : Nat → Int32} (h1 : 1 ≤ j) (hj : j ≤ x) (hl : lg r j = true) : (Dn r f x j p ∨ LRR r f (x - j) p) ↔ Dn r f x (j + 1) p := by
  constructor
  · rintro (⟨o, a, b, c, d, e⟩ | h)
    · exact ⟨o, a, by omega, c, d, e⟩
    · exact ⟨j, h1, by omega, hj, hl, h⟩
  · rintro ⟨o, a, b, c, d, e⟩
    by_cases z : o = j
    · subst z; exact Or.inr e
    · exact Or.inl ⟨o, a, by omega, c, d, e⟩
theorem Dn_n {r x j p : Nat} {f : Nat → Int32} (hl : ¬ (j ≤ x ∧ lg r j = true)) : Dn r f x j p ↔ Dn r f x (j + 1) p := by
  constructor
  · rintro ⟨o, a, b, c, d, e⟩
    exact ⟨o, a, by omega, c, d, e⟩
  · rintro ⟨o, a, b, c, d, e⟩
    by_cases z : o = j
    · subst z; exact absurd ⟨c, d⟩ hl
    · exact ⟨o, a, by omega, c, d, e⟩
theorem LRR_Dn {r x p : Nat} {f : Nat → Int32} (hx : x ≤ 20) (h1 : 1 ≤ x) (u : f x = -1) : LRR r f x p ↔ (x = p ∨ Dn r f x (x + 1) p) := by
  rw [LRR_eq hx]
  constructor
  · rintro ⟨-, -, c⟩
    rcases c with c | ⟨o, o1, o2, o3, c⟩
    · exact Or.inl c
    · exact Or.inr ⟨o, o1, by omega, o2, o3, c⟩
  · rintro (c | ⟨o, o1, -, o2, o3, c⟩)
    · exact ⟨h1, u, Or.inl c⟩
    · exact ⟨h1, u, Or.inr ⟨o, o1, o2, o3, c⟩⟩
/-! counts -/
def lcnt (f : Nat → Int32) : Nat := sm (fun p => if f p = -1 then 0 else 1) 20
/-- how many legs of a number are wanted -/
def lnl (r n : Nat) : Nat := sm (fun m => if lg r (n - m) = true then 1 else 0) (n - 1)
def lphi (r : Nat) (f : Nat → Int32) : Nat := sm (fun p => if f p = -1 then 0 else lnl r p) 20
theorem upd_ind {f : Nat → Int32} {i : Nat} {v : Int32} {c : Nat → Nat} : (fun p => if upd f i v p = -1 then 0 else c p) = upm (fun p => if f p = -1 then 0 else c p) i (if v = -1 then 0 else c i) := by
  funext p
  unfold upd upm
  by_cases e : p = i
  · rw [if_pos e, if_pos e, e]
  · rw [if_neg e, if_neg e]
theorem lcnt_upd {f : Nat → Int32} {i : Nat} {v : Int32} (h1 : 1 ≤ i) (h2 : i ≤ 20) : lcnt (upd f i v) + (if f i = -1 then 0 else 1) = lcnt f + (if v = -1 then 0 else 1) := by
  unfold lcnt
  rw [upd_ind (c := fun _ => 1)]
  exact sm_upm (g := fun p => if f p = -1 then 0 else 1) h1 h2
theorem lphi_upd {r : Nat} {f : Nat → Int32} {i : Nat} {v : Int32} (h1 : 1 ≤ i) (h2 : i ≤ 20) : lphi r (upd f i v) + (if f i = -1 then 0 else lnl r i) = lphi r f + (if v = -1 then 0 else lnl r i) := by
  unfold lphi
  rw [upd_ind (c := lnl r)]
  exact sm_upm (g := fun p => if f p = -1 then 0 else lnl r p) h1 h2
theorem lcnt_congr {f g : Nat → Int32} (h : ∀ p, 1 ≤ p → p ≤ 20 → g p = f p) : lcnt g = lcnt f := sm_congr (fun p a b => by rw [h p a b])
theorem lphi_congr {r : Nat} {f g : Nat → Int32} (h : ∀ p, 1 ≤ p → p ≤ 20 → g p = f p) : lphi r g = lphi r f := sm_congr (fun p a b => by rw [h p a b])
def LCK (r : Nat) (f f' : Nat → Int32) (n : Nat) (c1 c1' c2 c2' c3 c3' : Int32) : Prop := ∃ w d : Nat, d ≤ w ∧ w + lphi r f = lphi r f' + n ∧ lcnt f' = lcnt f + d ∧ c1' = c1 + Int32.ofNat w ∧ c2' = c2 + Int32.ofNat d ∧ c3' = c3 + Int32.ofNat (w - d)
theorem LCK.r {r : Nat} {f : Nat → Int32} {c1 c2 c3 : Int32} : LCK r f f 0 c1 c1 c2 c2 c3 c3 := ⟨0, 0, Nat.le_refl _, by omega, by omega, o_a0, o_a0, o_a0⟩
theorem LCK.found {r : Nat} {f : Nat → Int32} {c1 c2 c3 : Int32} : LCK r f f 1 c1 (c1 + (1 : Int32)) c2 c2 c3 (c3 + (1 : Int32)) := ⟨1, 0, by omega, by omega, by omega, rfl, o_a0, rfl⟩
theorem LCK.trans {r : Nat} {f f1 f2 : Nat → Int32} {r1 r2 : Nat} {a1 b1 e1 a2 b2 e2 a3 b3 e3 : Int32} (h : LCK r f f1 r1 a1 b1 a2 b2 a3 b3) (g : LCK r f1 f2 r2 b1 e1 b2 e2 b3 e3) : LCK r f f2 (r1 + r2) a1 e1 a2 e2 a3 e3 := by
  obtain ⟨w, d, h0, h1, h2, rfl, rfl, rfl⟩ := h
  obtain ⟨w', d', g0, g1, g2, rfl, rfl, rfl⟩ := g
  exact ⟨w + w', d + d', by omega, by omega, by omega, o_a2, o_a2, by rw [o_a2, show w - d + (w' - d') = w + w' - (d + d') from by omega]⟩
theorem LCK.made {r : Nat} {f f3 : Nat → Int32} {i n : Nat} {v c1 d1 c2 d2 c3 d3 : Int32} (h : LCK r f f3 n (c1 + (1 : Int32)) d1 c2 d2 c3 d3) (i1 : 1 ≤ i) (i2 : i ≤ 20) (hu : f3 i = -1) (hv : ¬ v = -1) (hn : lnl r i = n) : LCK r f (upd f3 i v) 1 c1 d1 c2 (d2 + (1 : Int32)) c3 d3 := by
  obtain ⟨w, d, h0, h1, h2, rfl, rfl, rfl⟩ := h
  have p := lphi_upd (r := r) (f := f3) (v := v) i1 i2
  have q := lcnt_upd (f := f3) (v := v) i1 i2
  rw [if_pos hu, if_neg hv] at p q
  refine ⟨1 + w, d + 1, by omega, by omega, by omega, ?_, ?_, by rw [show 1 + w - (d + 1) = w - d from by omega]⟩
  · exact o_a2 (a := 1)
  · exact o_a2 (b := 1)
/-- the wanted legs below j -/
def nlj (r x : Nat) : Nat → Nat
  | 0 => 0
  | j + 1 => nlj r x j + (if 1 ≤ j ∧ j < x ∧ lg r j = true then 1 else 0)
theorem nlj_ok : ∀ r, r < 3 → ∀ x, x < 21 → 1 ≤ x → nlj r x (x + 1) = lnl r x := by decide +kernel
/-! ===== the class's divisors ===== -/
theorem c_sg_ {N K : Nat} {ru sz : Int32} {f : Nat → Int32} {j st : Nat} (hj : j ≤ 20) (h1 : 1 ≤ st) (h2 : st ≤ 2) : ∀ n i acc fu, j < i + n → 1 ≤ i → i ≤ 22 → acc ≤ 1000 - 20 * n → n ≤ 21 → n < fu → fX1_sumOfDivisors_19 N K ru sz f (Int32.ofNat j) fu (Int32.ofNat st) (Int32.ofNat acc) (Int32.ofNat i) = some (Int32.ofNat (sgl st j n i acc)) := by
  intro n
  induction n with
  | zero =>
    intro i acc fu hi i1 i2 _ _ hfu
    obtain ⟨fu, rfl⟩ : ∃ m, fu = m + 1 := ⟨fu - 1, by omega⟩
    unfold fX1_sumOfDivisors_19 sgl
    rw [if_pos (by rw [o_lt (by omega) (by omega)]; omega)]
  | succ n ih =>
    intro i acc fu hi i1 i2 ha hn hfu
    obtain ⟨fu, rfl⟩ : ∃ m, fu = m + 1 := ⟨fu - 1, by omega⟩
    unfold fX1_sumOfDivisors_19 sgl
    by_cases c : j < i
    · rw [if_pos (by rw [o_lt (by omega) (by omega)]; exact c), if_pos c]
    · rw [if_neg (by rw [o_lt (by omega) (by omega)]; exact c), if_neg c, if_neg (by rw [show (0 : Int32) = Int32.ofNat 0 from rfl, o_eq (by omega) (by omega)]; omega), o_mod (by omega) (by omega)]
      unfold fX1_sumOfDivisors_37
      by_cases e : j % i = 0
      · rw [if_pos (by rw [e]; rfl), if_pos e, o_add, o_add]
        exact ih (i + st) (acc + i) fu (by omega) (by omega) (by omega) (by omega) (by omega) (by omega)
      · rw [if_neg (by rw [show (0 : Int32) = Int32.ofNat 0 from rfl, o_eq (by have := Nat.mod_lt j (show 0 < i by omega); omega) (by omega)]; exact e), if_neg e, o_add]
        exact ih (i + st) acc fu (by omega) (by omega) (by omega) (by omega) (by omega) (by omega)
theorem c_sg {N K : Nat} {sz : Int32} {f : Nat → Int32} {r j : Nat} (hN : 100 ≤ N) (hr : r < 3) (r1 : 1 ≤ r) (hj : j ≤ 20) : fX1_sumOfDivisors N K (Int32.ofNat r) sz f (Int32.ofNat j) = some (Int32.ofNat (sg r j)) := by
  have hr2 : r = 1 ∨ r = 2 := by omega
  unfold fX1_sumOfDivisors fX1_sumOfDivisors_13
  rcases hr2 with rfl | rfl
  · rw [if_neg (by decide)]
    exact c_sg_ (st := 1) hj (by omega) (by omega) 21 1 0 N (by omega) (by omega) (by omega) (by omega) (by omega) (by omega)
  · rw [if_pos (by decide)]
    exact c_sg_ (st := 2) hj (by omega) (by omega) 21 1 0 N (by omega) (by omega) (by omega) (by omega) (by omega) (by omega)
/-! ===== the class: a number known ===== -/
def LKP (r : Nat) (f f' : Nat → Int32) (sz' : Int32) (A : Nat → Prop) (n : Nat) (c1 c1' c2 c2' c3 c3' : Int32) : Prop := LF r f A f' ∧ sz' = Int32.ofNat (lcnt f') ∧ LCK r f f' n c1 c1' c2 c2' c3 c3'
abbrev RecT : Type := Int32 → Int32 → (Nat → Int32) → Int32 → Int32 → Int32 → Int32 → Int32 → Int32 → Int32 → Int32 → Option (Int32 × Int32 × (Nat → Int32) × Int32 × Int32 × Int32)
/-- a recursion that knows the numbers below x -/
def RecOk (r : Nat) (rec : RecT) (c0 c4 c5 : Int32) (x dep : Nat) : Prop := ∀ y (sz : Int32) (f : Nat → Int32) (c1 c2 c3 : Int32), y < x → LOK r f → sz = Int32.ofNat (lcnt f) → ∃ sz' f' c1' c2' c3', rec (Int32.ofNat r) sz f c0 c1 c2 c3 c4 c5 (Int32.ofNat y) (Int32.ofNat dep) = some (Int32.ofNat (LW r y), sz', f', c1', c2', c3') ∧ LKP r f f' sz' (LRR r f y) (if y = 0 then 0 else 1) c1 c1' c2 c2' c3 c3'
def dsum (r x : Nat) : Nat → Nat
  | 0 => 0
  | j + 1 => dsum r x j + (if 1 ≤ j then LW r (x - j) * sg r j else 0)
theorem dsum_ok : ∀ r, r < 3 → ∀ x, x < 21 → 1 ≤ r → 1 ≤ x → dsum r x (x + 1) / x = LW r x := by decide +kernel
theorem dsum_b : ∀ r, r < 3 → ∀ x, x < 21 → ∀ j, j < 22 → dsum r x j ≤ 100000 := by decide +kernel
theorem c_div_ {N K r x dep : Nat} {rec : RecT} {sz0 d1 d2 d3 c0 c4 c5 : Int32} {f0 f : Nat → Int32} (hN : 100 ≤ N) (hr : r < 3) (r1 : 1 ≤ r) (h1 : 1 ≤ x) (hx : x ≤ 20) (hf : LOK r f) (hrec : RecOk r rec c0 c4 c5 x dep) {b1 b2 b3 : Int32} : ∀ n j fu (sz : Int32) (g : Nat → Int32) (c1 c2 c3 : Int32), j + n = x + 1 → 1 ≤ j → n < fu → LKP r f g sz (Dn r f x j) (nlj r x j) b1 c1 b2 c2 b3 c3 → Clo r f (Dn r f x j) → ∃ sz' f' c1' c2' c3', fX1_byDivisors_13 N K rec (Int32.ofNat r) sz0 f0 c0 d1 d2 d3 c4 c5 (Int32.ofNat x) (Int32.ofNat dep) fu (Int32.ofNat (dsum r x j)) (Int32.ofNat j) sz g c1 c2 c3 = some (Int32.ofNat (LW r x), sz', f', c1', c2', c3') ∧ LKP r f f' sz' (Dn r f x (x + 1)) (lnl r x) b1 c1' b2 c2' b3 c3' := by
  intro n
  induction n with
  | zero =>
    intro j fu sz g c1 c2 c3 hj j1 hfu h hc
    obtain ⟨fu, rfl⟩ : ∃ m, fu = m + 1 := ⟨fu - 1, by omega⟩
    obtain rfl : j = x + 1 := by omega
    have db := dsum_b r hr x (by omega) (x + 1) (by omega)
    rw [nlj_ok r hr x (by omega) h1] at h
    refine ⟨sz, g, c1, c2, c3, ?_, h⟩
    unfold fX1_byDivisors_13
    rw [if_pos (by rw [o_lt (by omega) (by omega)]; omega), if_neg (by rw [show (0 : Int32) = Int32.ofNat 0 from rfl, o_eq (by omega) (by omega)]; omega), o_div (by omega) (by omega), dsum_ok r hr x (by omega) r1 h1]
  | succ n ih =>
    intro j fu sz g c1 c2 c3 hj j1 hfu h hc
    obtain ⟨fu, rfl⟩ : ∃ m, fu = m + 1 := ⟨fu - 1, by omega⟩
    obtain ⟨hl, hs, hk⟩ := h
    have hlg : lg r j = true := decide_eq_true (Or.inl (by omega))
    obtain ⟨sz1, g1, x1, x2, x3, e1, e2, e3, e4⟩ := hrec (x - j) sz g c1 c2 c3 (by omega) (hl.ok hf) hs
    obtain ⟨s1, s2⟩ := LF.step hr (by omega) hc hl e2
    have es : dsum r x (j + 1) = dsum r x j + LW r (x - j) * sg r j := by
      show dsum r x j + (if 1 ≤ j then LW r (x - j) * sg r j else 0) = _
      rw [if_pos j1]
    have en : nlj r x (j + 1) = nlj r x j + (if x - j = 0 then 0 else 1) := by
      show nlj r x j + (if 1 ≤ j ∧ j < x ∧ lg r j = true then 1 else 0) = _
      by_cases z : x - j = 0
      · rw [if_pos z, if_neg (by omega)]
      · rw [if_neg z, if_pos ⟨j1, by omega, hlg⟩]
    have hk2 := hk.trans e4
    rw [← en] at hk2
    obtain ⟨sz', f', c1', c2', c3', r1', r2'⟩ := ih (j + 1) fu sz1 g1 x1 x2 x3 (by omega) (by omega) (by omega) ⟨s1.iff (fun p => Dn_s j1 (by omega) hlg), e3, hk2⟩ (s2.iff (fun p => Dn_s j1 (by omega) hlg))
    refine ⟨sz', f', c1', c2', c3', ?_, r2'⟩
    unfold fX1_byDivisors_13
    rw [if_neg (by rw [o_lt (by omega) (by omega)]; omega), o_sub (by omega), e1, Option.bind_some, c_sg hN hr r1 (by omega), Option.bind_some, o_mul, o_add, ← es, o_1]
    exact r1'
/-! pentagons -/
def pacc (x : Nat) : Nat → Int32
  | 0 => 0
  | j + 1 => pacc x j + (if 1 ≤ j then (if j % 2 = 0 then -(Int32.ofNat (LW 0 (x - P1 j)) + (if x < P2 j then 0 else Int32.ofNat (LW 0 (x - P2 j)))) else (Int32.ofNat (LW 0 (x - P1 j)) + (if x < P2 j then 0 else Int32.ofNat (LW 0 (x - P2 j))))) else 0)
theorem pacc_ok_ : ∀ x, x < 21 → ∀ j, j < 5 → (1 ≤ x ∧ 1 ≤ j ∧ x < P1 j ∧ (j = 1 ∨ P1 (j - 1) ≤ x)) → pacc x j = Int32.ofNat (LW 0 x) := by decide +kernel
theorem pacc_ok (x : Nat) (hx : x < 21) (h1 : 1 ≤ x) (j : Nat) (hj : j < 5) (j1 : 1 ≤ j) (h : x < P1 j ∧ (j = 1 ∨ P1 (j - 1) ≤ x)) : pacc x j = Int32.ofNat (LW 0 x) := pacc_ok_ x hx j hj ⟨h1, j1, h⟩
theorem o_P1 {j : Nat} (h1 : 1 ≤ j) (h : j ≤ 5) : (Int32.ofNat j * (((3 : Int32) * Int32.ofNat j) - (1 : Int32))) / (2 : Int32) = Int32.ofNat (P1 j) := by
  have hj : j = 1 ∨ j = 2 ∨ j = 3 ∨ j = 4 ∨ j = 5 := by omega
  rcases hj with rfl | rfl | rfl | rfl | rfl <;> decide
theorem o_P2 {j : Nat} (h1 : 1 ≤ j) (h : j ≤ 5) : (Int32.ofNat j * (((3 : Int32) * Int32.ofNat j) + (1 : Int32))) / (2 : Int32) = Int32.ofNat (P2 j) := by
  have hj : j = 1 ∨ j = 2 ∨ j = 3 ∨ j = 4 ∨ j = 5 := by omega
  rcases hj with rfl | rfl | rfl | rfl | rfl <;> decide
theorem P_ok : ∀ j, j < 5 → 1 ≤ j → (P1 j < P2 j ∧ P2 j < P1 (j + 1) ∧ 1 ≤ P1 j ∧ P2 j ≤ 26 ∧ P1 (j + 1) ≤ 35) := by decide
theorem P_lg_ : ∀ j, j < 5 → ∀ o, o < 21 → (1 ≤ j ∧ P1 j ≤ o ∧ o < P1 (j + 1)) → (lg 0 o = true ↔ (o = P1 j ∨ o = P2 j)) := by decide +kernel
theorem P_lg (j : Nat) (hj : j < 5) (o : Nat) (ho : o < 21) (h1 : 1 ≤ j) (h2 : P1 j ≤ o) (h3 : o < P1 (j + 1)) : lg 0 o = true ↔ (o = P1 j ∨ o = P2 j) := P_lg_ j hj o ho ⟨h1, h2, h3⟩
/-- the legs below the next pentagons -/
theorem Dn_p1 {x j p : Nat} {f : Nat → Int32} (hx : x ≤ 20) (h1 : 1 ≤ j) (hj : j < 5) (hp : P1 j ≤ x) (h2 : ¬ x < P2 j) : ((Dn 0 f x (P1 j) p ∨ LRR 0 f (x - P1 j) p) ∨ LRR 0 f (x - P2 j) p) ↔ Dn 0 f x (P1 (j + 1)) p := by
  obtain ⟨a1, a2, a3, a4, a5⟩ := P_ok j hj h1
  constructor
  · rintro ((⟨o, a, b, c, d, e⟩ | h) | h)
    · exact ⟨o, a, by omega, c, d, e⟩
    · exact ⟨P1 j, a3, by omega, hp, (P_lg j hj (P1 j) (by omega) h1 (by omega) (by omega)).mpr (Or.inl rfl), h⟩
    · exact ⟨P2 j, by omega, by omega, by omega, (P_lg j hj (P2 j) (by omega) h1 (by omega) (by omega)).mpr (Or.inr rfl), h⟩
  · rintro ⟨o, a, b, c, d, e⟩
    by_cases z : o < P1 j
    · exact Or.inl (Or.inl ⟨o, a, z, c, d, e⟩)
    · rcases (P_lg j hj o (by omega) h1 (by omega) b).mp d with rfl | rfl
      · exact Or.inl (Or.inr e)
      · exact Or.inr e
theorem Dn_p2 {x j p : Nat} {f : Nat → Int32} (hx : x ≤ 20) (h1 : 1 ≤ j) (hj : j < 5) (hp : P1 j ≤ x) (h2 : x < P2 j) : (Dn 0 f x (P1 j) p ∨ LRR 0 f (x - P1 j) p) ↔ Dn 0 f x (P1 (j + 1)) p := by
  obtain ⟨a1, a2, a3, a4, a5⟩ := P_ok j hj h1
  constructor
  · rintro (⟨o, a, b, c, d, e⟩ | h)
    · exact ⟨o, a, by omega, c, d, e⟩
    · exact ⟨P1 j, a3, by omega, hp, (P_lg j hj (P1 j) (by omega) h1 (by omega) (by omega)).mpr (Or.inl rfl), h⟩
  · rintro ⟨o, a, b, c, d, e⟩
    by_cases z : o < P1 j
    · exact Or.inl ⟨o, a, z, c, d, e⟩
    · rcases (P_lg j hj o (by omega) h1 (by omega) b).mp d with rfl | rfl
      · exact Or.inr e
      · omega
theorem Dn_pe {x j p : Nat} {f : Nat → Int32} (hj : x < P1 j) : Dn 0 f x (P1 j) p ↔ Dn 0 f x (x + 1) p := by
  constructor
  · rintro ⟨o, a, b, c, d, e⟩
    exact ⟨o, a, by omega, c, d, e⟩
  · rintro ⟨o, a, b, c, d, e⟩
    exact ⟨o, a, by omega, c, d, e⟩
def pnl (x : Nat) : Nat → Nat
  | 0 => 0
  | j + 1 => pnl x j + (if 1 ≤ j then (if x - P1 j = 0 then 0 else 1) + (if x < P2 j then 0 else if x - P2 j = 0 then 0 else 1) else 0)
theorem pnl_ok_ : ∀ x, x < 21 → ∀ j, j < 5 → (1 ≤ x ∧ 1 ≤ j ∧ x < P1 j ∧ (j = 1 ∨ P1 (j - 1) ≤ x)) → pnl x j = lnl 0 x := by decide +kernel
theorem pnl_ok (x : Nat) (hx : x < 21) (h1 : 1 ≤ x) (j : Nat) (hj : j < 5) (j1 : 1 ≤ j) (h : x < P1 j ∧ (j = 1 ∨ P1 (j - 1) ≤ x)) : pnl x j = lnl 0 x := pnl_ok_ x hx j hj ⟨h1, j1, h⟩
theorem c_pen_ {N K x dep : Nat} {rec : RecT} {sz0 d1 d2 d3 c0 c4 c5 : Int32} {f0 f : Nat → Int32} (h1 : 1 ≤ x) (hx : x ≤ 20) (hf : LOK 0 f) (hrec : RecOk 0 rec c0 c4 c5 x dep) {b1 b2 b3 : Int32} : ∀ n j fu (sz : Int32) (g : Nat → Int32) (c1 c2 c3 : Int32), j + n = 4 → 1 ≤ j → n < fu → (j = 1 ∨ P1 (j - 1) ≤ x) → LKP 0 f g sz (Dn 0 f x (P1 j)) (pnl x j) b1 c1 b2 c2 b3 c3 → Clo 0 f (Dn 0 f x (P1 j)) → ∃ sz' f' c1' c2' c3', fX1_byPentagons_6 N K rec (Int32.ofNat 0) sz0 f0 c0 d1 d2 d3 c4 c5 (Int32.ofNat x) (Int32.ofNat dep) fu (pacc x j) (Int32.ofNat j) sz g c1 c2 c3 = some (Int32.ofNat (LW 0 x), sz', f', c1', c2', c3') ∧ LKP 0 f f' sz' (Dn 0 f x (x + 1)) (lnl 0 x) b1 c1' b2 c2' b3 c3' := by
  have stop : ∀ j fu (sz : Int32) (g : Nat → Int32) (c1 c2 c3 : Int32), j ≤ 4 → 1 ≤ j → (j = 1 ∨ P1 (j - 1) ≤ x) → x < P1 j → LKP 0 f g sz (Dn 0 f x (P1 j)) (pnl x j) b1 c1 b2 c2 b3 c3 → ∃ sz' f' c1' c2' c3', fX1_byPentagons_6 N K rec (Int32.ofNat 0) sz0 f0 c0 d1 d2 d3 c4 c5 (Int32.ofNat x) (Int32.ofNat dep) (fu + 1) (pacc x j) (Int32.ofNat j) sz g c1 c2 c3 = some (Int32.ofNat (LW 0 x), sz', f', c1', c2', c3') ∧ LKP 0 f f' sz' (Dn 0 f x (x + 1)) (lnl 0 x) b1 c1' b2 c2' b3 c3' := by
    intro j fu sz g c1 c2 c3 j4 j1 hp hx2 h
    obtain ⟨hl, hs, hk⟩ := h
    obtain ⟨a1, a2, a3, a4, a5⟩ := P_ok j (by omega) j1
    rw [pnl_ok x (by omega) h1 j (by omega) j1 ⟨hx2, hp⟩] at hk
    refine ⟨sz, g, c1, c2, c3, ?_, hl.iff (fun p => Dn_pe hx2), hs, hk⟩
    unfold fX1_byPentagons_6
    rw [if_neg (n_20 (by omega)), o_P1 j1 (by omega), if_pos (by rw [o_lt (by omega) (by omega)]; exact hx2), pacc_ok x (by omega) h1 j (by omega) j1 ⟨hx2, hp⟩]
  intro n
  induction n with
  | zero =>
    intro j fu sz g c1 c2 c3 hj j1 hfu hp h hc
    obtain ⟨fu, rfl⟩ : ∃ m, fu = m + 1 := ⟨fu - 1, by omega⟩
    obtain rfl : j = 4 := by omega
    exact stop 4 fu sz g c1 c2 c3 (by omega) j1 hp (by have : P1 4 = 22 := by decide
                                                       omega) h
  | succ n ih =>
    intro j fu sz g c1 c2 c3 hj j1 hfu hp h hc
    obtain ⟨fu, rfl⟩ : ∃ m, fu = m + 1 := ⟨fu - 1, by omega⟩
    obtain ⟨a1, a2, a3, a4, a5⟩ := P_ok j (by omega) j1
    by_cases hx2 : x < P1 j
    · exact stop j fu sz g c1 c2 c3 (by omega) j1 hp hx2 h
    · obtain ⟨hl, hs, hk⟩ := h
      obtain ⟨sz1, g1, x1, x2, x3, e1, e2, e3, e4⟩ := hrec (x - P1 j) sz g c1 c2 c3 (by omega) (hl.ok hf) hs
      obtain ⟨s1, s2⟩ := LF.step (by omega) (by omega) hc hl e2
      have hk2 := hk.trans e4
      by_cases hx3 : x < P2 j
      · have en : pnl x (j + 1) = pnl x j + (if x - P1 j = 0 then 0 else 1) := by
          show pnl x j + (if 1 ≤ j then (if x - P1 j = 0 then 0 else 1) + (if x < P2 j then 0 else if x - P2 j = 0 then 0 else 1) else 0) = _
          rw [if_pos j1, if_pos hx3, Nat.add_zero]
        rw [← en] at hk2
        have ea : pacc x (j + 1) = pacc x j + (if j % 2 = 0 then -(Int32.ofNat (LW 0 (x - P1 j))) else Int32.ofNat (LW 0 (x - P1 j))) := by
          show pacc x j + (if 1 ≤ j then (if j % 2 = 0 then -(Int32.ofNat (LW 0 (x - P1 j)) + (if x < P2 j then 0 else Int32.ofNat (LW 0 (x - P2 j)))) else (Int32.ofNat (LW 0 (x - P1 j)) + (if x < P2 j then 0 else Int32.ofNat (LW 0 (x - P2 j))))) else 0) = _
          rw [if_pos j1, if_pos hx3, Int32.add_zero]
        obtain ⟨sz', f', c1', c2', c3', r1', r2'⟩ := ih (j + 1) fu sz1 g1 x1 x2 x3 (by omega) (by omega) (by omega) (Or.inr (by show P1 j ≤ x; omega)) ⟨s1.iff (fun p => Dn_p2 hx j1 (by omega) (by omega) hx3), e3, hk2⟩ (s2.iff (fun p => Dn_p2 hx j1 (by omega) (by omega) hx3))
        refine ⟨sz', f', c1', c2', c3', ?_, r2'⟩
        unfold fX1_byPentagons_6
        rw [if_neg (n_20 (by omega)), o_P1 j1 (by omega), if_neg (by rw [o_lt (by omega) (by omega)]; exact hx2), o_sub (by omega), e1, Option.bind_some, o_P2 j1 (by omega), if_pos (by rw [o_lt (by omega) (by omega)]; exact hx3)]
        unfold fX1_byPentagons_88 fX1_byPentagons_105
        rw [o_1]
        by_cases par : j % 2 = 0
        · rw [if_pos (by rw [o_par (by omega)]; exact par)]
          rw [ea, if_pos par] at r1'
          exact r1'
        · rw [if_neg (by rw [o_par (by omega)]; exact par)]
          rw [ea, if_neg par] at r1'
          exact r1'
      · obtain ⟨sz2, g2, y1, y2, y3, i1, i2, i3, i4⟩ := hrec (x - P2 j) sz1 g1 x1 x2 x3 (by omega) (s1.ok hf) e3
        obtain ⟨s3, s4⟩ := LF.step (by omega) (by omega) s2 s1 i2
        have hk3 := hk2.trans i4
        have en : pnl x (j + 1) = pnl x j + (if x - P1 j = 0 then 0 else 1) + (if x - P2 j = 0 then 0 else 1) := by
          show pnl x j + (if 1 ≤ j then (if x - P1 j = 0 then 0 else 1) + (if x < P2 j then 0 else if x - P2 j = 0 then 0 else 1) else 0) = _
          rw [if_pos j1, if_neg hx3, Nat.add_assoc]
        rw [← en] at hk3
        have ea : pacc x (j + 1) = pacc x j + (if j % 2 = 0 then -(Int32.ofNat (LW 0 (x - P1 j)) + Int32.ofNat (LW 0 (x - P2 j))) else (Int32.ofNat (LW 0 (x - P1 j)) + Int32.ofNat (LW 0 (x - P2 j)))) := by
          show pacc x j + (if 1 ≤ j then (if j % 2 = 0 then -(Int32.ofNat (LW 0 (x - P1 j)) + (if x < P2 j then 0 else Int32.ofNat (LW 0 (x - P2 j)))) else (Int32.ofNat (LW 0 (x - P1 j)) + (if x < P2 j then 0 else Int32.ofNat (LW 0 (x - P2 j))))) else 0) = _
          rw [if_pos j1, if_neg hx3]
        obtain ⟨sz', f', c1', c2', c3', r1', r2'⟩ := ih (j + 1) fu sz2 g2 y1 y2 y3 (by omega) (by omega) (by omega) (Or.inr (by show P1 j ≤ x; omega)) ⟨s3.iff (fun p => Dn_p1 hx j1 (by omega) (by omega) hx3), i3, hk3⟩ (s4.iff (fun p => Dn_p1 hx j1 (by omega) (by omega) hx3))
        refine ⟨sz', f', c1', c2', c3', ?_, r2'⟩
        unfold fX1_byPentagons_6
        rw [if_neg (n_20 (by omega)), o_P1 j1 (by omega), if_neg (by rw [o_lt (by omega) (by omega)]; exact hx2), o_sub (by omega), e1, Option.bind_some, o_P2 j1 (by omega), if_neg (by rw [o_lt (by omega) (by omega)]; exact hx3), o_sub (by omega), i1, Option.bind_some]
        unfold fX1_byPentagons_88 fX1_byPentagons_105
        rw [o_1]
        by_cases par : j % 2 = 0
        · rw [if_pos (by rw [o_par (by omega)]; exact par)]
          rw [ea, if_pos par] at r1'
          exact r1'
        · rw [if_neg (by rw [o_par (by omega)]; exact par)]
          rw [ea, if_neg par] at r1'
          exact r1'
theorem c_lk {N K r : Nat} (hN : 100 ≤ N) (hr : r < 3) {c0 c4 c5 : Int32} : ∀ d fu x dep, x < d → d ≤ fu → dep + d ≤ 46 → x ≤ 20 → RecOk r (fX1_worthKnown N K fu) c0 c4 c5 (x + 1) dep := by
  intro d
  induction d with
  | zero => intro fu x dep h; omega
  | succ d ih =>
    intro fu x dep hd hfu hdep hx y sz f c1 c2 c3 hy hf hsz
    obtain ⟨fu, rfl⟩ : ∃ z, fu = z + 1 := ⟨fu - 1, by omega⟩
    unfold fX1_worthKnown
    by_cases y0 : y = 0
    · subst y0
      refine ⟨sz, f, c1, c2, c3, ?_, ?_, hsz, by rw [if_pos rfl]; exact LCK.r⟩
      · rw [if_pos (by decide), LW_0 r hr]
        rfl
      · exact LF.r (fun p z => absurd ((LRR_eq (by omega)).mp z).1 (by omega))
    · have hL := LW_b r hr y (by omega)
      rw [if_neg (by rw [show (0 : Int32) = Int32.ofNat 0 from rfl, o_eq (by omega) (by omega)]; exact y0), if_neg (by rw [show (0 : Int32) = Int32.ofNat 0 from rfl, o_lt (by omega) (by omega)]; omega), if_neg (n_20 (by omega)), if_pos (by rw [show (45 : Int32) = Int32.ofNat 45 from rfl, o_le (by omega) (by omega)]; omega), if_neg (o_ob (by omega) (by omega)), o_c (by omega)]
      by_cases u : f y = -1
      · rw [if_pos u, o_1]
        have hrec : RecOk r (fX1_worthKnown N K fu) c0 c4 c5 y (dep + 1) := by
          intro y2 sz2 f2 a1 a2 a3 hy2 hf2 hs2
          exact ih fu (y - 1) (dep + 1) (by omega) (by omega) (by omega) (by omega) y2 sz2 f2 a1 a2 a3 (by omega) hf2 hs2
        have start : ∀ j, (∀ p, ¬ Dn r f y j p) → LKP r f f sz (Dn r f y j) 0 (c1 + (1 : Int32)) (c1 + (1 : Int32)) c2 c2 c3 c3 ∧ Clo r f (Dn r f y j) := fun j hj => ⟨⟨LF.r hj, hsz, LCK.r⟩, fun p z => absurd z (hj p)⟩
        -- the number itself, kept
        have fin : ∀ (sz3 : Int32) (f3 : Nat → Int32) (e1 e2 e3 : Int32), LKP r f f3 sz3 (Dn r f y (y + 1)) (lnl r y) (c1 + (1 : Int32)) e1 c2 e2 c3 e3 → LKP r f (upd f3 y (Int32.ofNat (LW r y))) (sz3 + (1 : Int32)) (LRR r f y) (if y = 0 then 0 else 1) c1 e1 c2 (e2 + (1 : Int32)) c3 e3 := by
          intro sz3 f3 e1 e2 e3 h3
          obtain ⟨hl, hs, hk⟩ := h3
          have hnd : ¬ Dn r f y (y + 1) y := by
            rintro ⟨o, o1, -, o2, -, c⟩
            have := (LRR_b (show y - o ≤ 20 by omega) c).2.2
            omega
          have hu3 : f3 y = -1 := ((hl y (by omega) (by omega)).2 hnd).trans u
          have q := lcnt_upd (f := f3) (v := Int32.ofNat (LW r y)) (show 1 ≤ y by omega) (show y ≤ 20 by omega)
          rw [if_pos hu3, if_neg (lw_ne hr (by omega))] at q
          refine ⟨fun p p1 p2 => ?_, by rw [hs, o_1]; exact congrArg _ (by omega), by rw [if_neg y0]; exact hk.made (by omega) (by omega) hu3 (lw_ne hr (by omega)) rfl⟩
          unfold upd
          rw [LRR_Dn (by omega) (by omega) u]
          by_cases e : p = y
          · rw [if_pos e, e]
            exact ⟨fun _ => rfl, fun z => absurd (Or.inl rfl) z⟩
          · rw [if_neg e]
            refine ⟨fun z => ?_, fun z => (hl p p1 p2).2 (fun w => z (Or.inr w))⟩
            rcases z with z | z
            · exact absurd z.symm e
            · exact (hl p p1 p2).1 z
        by_cases r0 : r = 0
        · subst r0
          obtain ⟨st1, st2⟩ := start (P1 1) (fun p => Dn_0)
          obtain ⟨sz3, f3, e1, e2, e3, a1, a2⟩ := c_pen_ (N := N) (K := K) (sz0 := sz) (d1 := c1 + (1 : Int32)) (d2 := c2) (d3 := c3) (f0 := f) (show 1 ≤ y by omega) (show y ≤ 20 by omega) hf hrec 3 1 N sz f (c1 + (1 : Int32)) c2 c3 rfl (by omega) (by omega) (Or.inl rfl) st1 st2
          refine ⟨sz3 + (1 : Int32), upd f3 y (Int32.ofNat (LW 0 y)), e1, e2 + (1 : Int32), e3, ?_, fin _ _ _ _ _ a2⟩
          have a1' : fX1_byPentagons N K (fX1_worthKnown N K fu) (Int32.ofNat 0) sz f c0 (c1 + (1 : Int32)) c2 c3 c4 c5 (Int32.ofNat y) (Int32.ofNat (dep + 1)) = some (Int32.ofNat (LW 0 y), sz3, f3, e1, e2, e3) := a1
          rw [if_pos (by decide), a1', Option.bind_some, if_neg (o_ob2 (by omega) (by omega))]
        · obtain ⟨st1, st2⟩ := start 1 (fun p => Dn_0)
          obtain ⟨sz3, f3, e1, e2, e3, a1, a2⟩ := c_div_ (N := N) (K := K) (sz0 := sz) (d1 := c1 + (1 : Int32)) (d2 := c2) (d3 := c3) (f0 := f) hN hr (show 1 ≤ r by omega) (show 1 ≤ y by omega) (show y ≤ 20 by omega) hf hrec y 1 N sz f (c1 + (1 : Int32)) c2 c3 (by omega) (by omega) (by omega) st1 st2
          refine ⟨sz3 + (1 : Int32), upd f3 y (Int32.ofNat (LW r y)), e1, e2 + (1 : Int32), e3, ?_, fin _ _ _ _ _ a2⟩
          have a1' : fX1_byDivisors N K (fX1_worthKnown N K fu) (Int32.ofNat r) sz f c0 (c1 + (1 : Int32)) c2 c3 c4 c5 (Int32.ofNat y) (Int32.ofNat (dep + 1)) = some (Int32.ofNat (LW r y), sz3, f3, e1, e2, e3) := by
            unfold fX1_byDivisors
            rw [if_pos (by rw [show (1 : Int32) = Int32.ofNat 1 from rfl, o_le (by omega) (by omega)]; omega)]
            exact a1
          rw [if_neg (by rw [show (0 : Int32) = Int32.ofNat 0 from rfl, o_eq (by omega) (by omega)]; exact r0), a1', Option.bind_some, if_neg (o_ob2 (by omega) (by omega))]
      · rw [if_neg u, if_neg (o_ob2 (by omega) (by omega))]
        refine ⟨sz, f, c1 + (1 : Int32), c2, c3 + (1 : Int32), ?_, ?_, hsz, by rw [if_neg y0]; exact LCK.found⟩
        · rcases hf y (by omega) (by omega) with z | z
          · exact absurd z u
          · rw [z]
        · exact LF.r (fun p z => u ((LRR_eq (show y ≤ 20 by omega)).mp z).2.1)
theorem c_lrec {N K r x : Nat} (hN : 100 ≤ N) (hK : 100 ≤ K) (hr : r < 3) (hx : x ≤ 20) {sz c0 c1 c2 c3 c4 c5 : Int32} {f : Nat → Int32} (hf : LOK r f) (hs : sz = Int32.ofNat (lcnt f)) : ∃ sz' f' c1' c2' c3', fX1_recall N K (Int32.ofNat r) sz f c0 c1 c2 c3 c4 c5 (Int32.ofNat x) = some (Int32.ofNat (LW r x), sz', f', c1', c2', c3') ∧ LKP r f f' sz' (LRR r f x) (if x = 0 then 0 else 1) c1 c1' c2 c2' c3 c3' := by
  obtain ⟨sz', f', c1', c2', c3', h1, h2⟩ := c_lk (N := N) (K := K) hN hr (c0 := c0) (c4 := c4) (c5 := c5) 30 K x 0 (by omega) (by omega) (by omega) hx x sz f c1 c2 c3 (by omega) hf hs
  refine ⟨sz', f', c1', c2', c3', ?_, h2⟩
  unfold fX1_recall
  rw [show (0 : Int32) = Int32.ofNat 0 from rfl, h1, Option.bind_some]
