theorem aM_thrown {N K : Nat} {M : MS} : Sf (gM_thrown N K M) (fun y => y.1 = M.2.2.2.2.2 ∧ y.2 = M) := ⟨_, rfl, rfl, rfl⟩
def MM (a : Nat → Int32 × (Nat → Int32)) (b : Nat → Nat → Int32) : Prop := ∀ j, MT (a j).1 (a j).2 (b j)
theorem mm_upm {a : Nat → Int32 × (Nat → Int32)} {b : Nat → Nat → Int32} {i : Nat} {s : Int32} {v v' : Nat → Int32} (h : MM a b) (hv : MT s v v') : MM (upm a i (s, v)) (upm b i v') := by
  intro j
  unfold upm
  by_cases c : j = i
  · rw [if_pos c, if_pos c]; exact hv
  · rw [if_neg c, if_neg c]; exact h j
theorem mm_same {a : Nat → Int32 × (Nat → Int32)} {b : Nat → Nat → Int32} {i : Nat} {v' : Nat → Int32} (h : MM a b) (hv : v' = b i) : MM a (upm b i v') := by
  intro j
  unfold upm
  by_cases c : j = i
  · rw [if_pos c, hv, c]; exact h i
  · rw [if_neg c]; exact h j
def LM (a : Nat → Int32 × Int32 × (Nat → Int32)) (b : Nat → Nat → Int32) : Prop := ∀ j, j < 3 → (a j).1 = Int32.ofNat j ∧ LT j (a j).2.1 (a j).2.2 (b j)
theorem lm_upm {a : Nat → Int32 × Int32 × (Nat → Int32)} {b : Nat → Nat → Int32} {i : Nat} {s : Int32} {v v' : Nat → Int32} (h : LM a b) (hi : i < 3) (hv : LT i s v v') : LM (upm a i ((a i).1, s, v)) (upm b i v') := by
  intro j hj
  unfold upm
  by_cases c : j = i
  · subst c
    rw [if_pos rfl, if_pos rfl]; exact ⟨(h j hj).1, hv⟩
  · rw [if_neg c, if_neg c]; exact h j hj
theorem lm_same {a : Nat → Int32 × Int32 × (Nat → Int32)} {b : Nat → Nat → Int32} {i : Nat} {v' : Nat → Int32} (h : LM a b) (hv : v' = b i) : LM a (upm b i v') := by
  intro j hj
  unfold upm
  by_cases c : j = i
  · rw [if_pos c, hv, c]; exact h i (c ▸ hj)
  · rw [if_neg c]; exact h j hj
theorem ix_r {p0 : Int32} (h : Rg p0 0 2) : p0 = Int32.ofNat (ix 3 p0) := by
  rw [ix_in h.mm]
  have q0 : (0 : Int32).toInt = 0 := by decide
  have h0 : 0 ≤ p0.toInt := by have := h.1; omega
  exact (Int32.ofNat_toNatClampNeg p0 (by rw [Int32.le_iff_toInt_le]; omega)).symm
theorem ix3 {p0 : Int32} : ix 3 p0 < 3 := ix_lt (by omega)
theorem lz {m : Nat → Int32} (h : ∀ p, m p = if p < 21 then (-1 : Int32) else 0) {r : Nat} : LT r 0 m (fun _ => 0) := by
  have hn : ∀ p, 1 ≤ p → p ≤ 20 → m p = -1 := fun p p1 p2 => (h p).trans (if_pos (by omega))
  exact ⟨by rw [lcnt_none hn]; rfl, fun p p1 p2 => Or.inl (hn p p1 p2), fun p p1 p2 => by rw [hn p p1 p2, if_pos rfl]⟩
def Kx (S z : CS) : Prop := z.1 = S.1 ∧ z.2.1 = S.2.1 ∧ z.2.2.1 = S.2.2.1 ∧ z.2.2.2.1 = S.2.2.2.1
def Km (M z : MS) : Prop := z.1 = M.1 ∧ z.2.1 = M.2.1 ∧ z.2.2.1 = M.2.2.1 ∧ z.2.2.2.1 = M.2.2.2.1
theorem kX_isKept {N K : Nat} {S : CS} {p0 : Int32} {p1 : Int32} {p2 : Int32} {p3 : Int32} {p4 : Int32} (hN : NBig N) (hK : 100 ≤ K) (h : OkX S) : Sf (gX_isKept N K S p0 p1 p2 p3 p4) (xP true true (fun (z : Int32 × CS) => Kx S z.2)) := by
  unfold gX_isKept
  refine sMap (s_X5_isKept hN hK) (fun o q => ?_)
  cases o with
  | inl z => exact (And.intro rfl (And.intro rfl (And.intro rfl rfl)))
  | inr E => exact q
theorem kM_isKept {N K : Nat} {M : MS} {p0 : Int32} {p1 : Int32} {p2 : Int32} {p3 : Int32} {p4 : Int32} (hN : NBig N) (hK : 100 ≤ K) (h : OkN M) : Sf (gM_isKept N K M p0 p1 p2 p3 p4) (fun (z : Int32 × MS) => Km M z.2) := by
  unfold gM_isKept
  exact sMap (s_X7_isKept hN hK) (fun z q => (And.intro rfl (And.intro rfl (And.intro rfl rfl))))
theorem kL_isKept {N K : Nat} {S : CS} {p0 : Int32} {p1 : Int32} {p2 : Int32} {p3 : Int32} {p4 : Int32} {nv : Int64} (hN : NBig N) (hK : 100 ≤ K) (h : OkX S) : Sf (gL_isKept N K S p0 p1 p2 p3 p4 nv) (fun z => Kx S z.2.1) := by
  unfold gL_isKept
  exact sWb (kX_isKept hN hK h) (fun z q => sIf (fun _ => sRet q) (fun _ => sRet q)) (fun _ => sRet (And.intro rfl (And.intro rfl (And.intro rfl rfl)))) (fun _ => sRet (And.intro rfl (And.intro rfl (And.intro rfl rfl))))
theorem kX_worthOr {N K : Nat} {S : CS} {p0 : Int32} {p1 : Int32} {p2 : Int32} {p3 : Int32} {p4 : Int32} (hN : NBig N) (hK : 100 ≤ K) (h : OkX S) : Sf (gX_worthOr N K S p0 p1 p2 p3 p4) (xP true true (fun (z : Int32 × CS) => Kx S z.2)) := by
  unfold gX_worthOr
  refine sMap (s_X5_worthOr hN hK) (fun o q => ?_)
  cases o with
  | inl z => exact (And.intro rfl (And.intro rfl (And.intro rfl rfl)))
  | inr E => exact q
theorem kM_worthOr {N K : Nat} {M : MS} {p0 : Int32} {p1 : Int32} {p2 : Int32} {p3 : Int32} {p4 : Int32} (hN : NBig N) (hK : 100 ≤ K) (h : OkN M) : Sf (gM_worthOr N K M p0 p1 p2 p3 p4) (fun (z : Int32 × MS) => Km M z.2) := by
  unfold gM_worthOr
  exact sMap (s_X7_worthOr hN hK) (fun z q => (And.intro rfl (And.intro rfl (And.intro rfl rfl))))
theorem kL_worthOr {N K : Nat} {S : CS} {p0 : Int32} {p1 : Int32} {p2 : Int32} {p3 : Int32} {p4 : Int32} {nv : Int64} (hN : NBig N) (hK : 100 ≤ K) (h : OkX S) : Sf (gL_worthOr N K S p0 p1 p2 p3 p4 nv) (fun z => Kx S z.2.1) := by
  unfold gL_worthOr
  exact sWb (kX_worthOr hN hK h) (fun z q => sRet q) (fun _ => sRet (And.intro rfl (And.intro rfl (And.intro rfl rfl)))) (fun _ => sRet (And.intro rfl (And.intro rfl (And.intro rfl rfl))))
theorem kX_confirm {N K : Nat} {S : CS} {p0 : Int32} {p1 : Int32} {p2 : Int32} {p3 : Int32} {p4 : Int32} (hN : NBig N) (hK : 100 ≤ K) (h : OkX S) : Sf (gX_confirm N K S p0 p1 p2 p3 p4) (xP true true (fun (z : Int32 × CS) => Kx S z.2)) := by
  unfold gX_confirm
  refine sMap (s_X5_confirm hN hK) (fun o q => ?_)
  cases o with
  | inl z => exact (And.intro rfl (And.intro rfl (And.intro rfl rfl)))
  | inr E => exact q
theorem kM_confirm {N K : Nat} {M : MS} {p0 : Int32} {p1 : Int32} {p2 : Int32} {p3 : Int32} {p4 : Int32} (hN : NBig N) (hK : 100 ≤ K) (h : OkN M) : Sf (gM_confirm N K M p0 p1 p2 p3 p4) (fun (z : Int32 × MS) => Km M z.2) := by
  unfold gM_confirm
  exact sMap (s_X7_confirm hN hK) (fun z q => (And.intro rfl (And.intro rfl (And.intro rfl rfl))))
theorem kL_confirm {N K : Nat} {S : CS} {p0 : Int32} {p1 : Int32} {p2 : Int32} {p3 : Int32} {p4 : Int32} {nv : Int64} (hN : NBig N) (hK : 100 ≤ K) (h : OkX S) : Sf (gL_confirm N K S p0 p1 p2 p3 p4 nv) (fun z => Kx S z.2.1) := by
  unfold gL_confirm
  exact sWb (kX_confirm hN hK h) (fun z q => sIf (fun _ => sRet q) (fun _ => sRet q)) (fun _ => sRet (And.intro rfl (And.intro rfl (And.intro rfl rfl)))) (fun _ => sRet (And.intro rfl (And.intro rfl (And.intro rfl rfl))))
theorem kX_about {N K : Nat} {S : CS} {p0 : Int32} {p1 : Int32} (hN : NBig N) (hK : 100 ≤ K) (h : OkX S) : Sf (gX_about N K S p0 p1) (xP true true (fun (z : Int32 × CS) => Kx S z.2)) := by
  unfold gX_about
  refine sMap (s_X5_about hN hK) (fun o q => ?_)
  cases o with
  | inl z => exact (And.intro rfl (And.intro rfl (And.intro rfl rfl)))
  | inr E => exact q
theorem kM_about {N K : Nat} {M : MS} {p0 : Int32} {p1 : Int32} (hN : NBig N) (hK : 100 ≤ K) (h : OkN M) : Sf (gM_about N K M p0 p1) (fun (z : Int32 × MS) => Km M z.2) := by
  unfold gM_about
  exact sMap (s_X7_about hN hK) (fun z q => (And.intro rfl (And.intro rfl (And.intro rfl rfl))))
theorem kL_about {N K : Nat} {S : CS} {p0 : Int32} {p1 : Int32} {nv : Int64} (hN : NBig N) (hK : 100 ≤ K) (h : OkX S) : Sf (gL_about N K S p0 p1 nv) (fun z => Kx S z.2.1) := by
  unfold gL_about
  exact sWb (kX_about hN hK h) (fun z q => sRet q) (fun _ => sRet (And.intro rfl (And.intro rfl (And.intro rfl rfl)))) (fun _ => sRet (And.intro rfl (And.intro rfl (And.intro rfl rfl))))
theorem kX_has {N K : Nat} {S : CS} {p0 : Int32} {p1 : Int32} (hN : NBig N) (hK : 100 ≤ K) (h : OkX S) : Sf (gX_has N K S p0 p1) (xP true false (fun (z : Int32 × CS) => Kx S z.2)) := by
  unfold gX_has
  refine sMap (s_X5_has hN hK) (fun o q => ?_)
  cases o with
  | inl z => exact (And.intro rfl (And.intro rfl (And.intro rfl rfl)))
  | inr E => exact q
theorem kM_has {N K : Nat} {M : MS} {p0 : Int32} {p1 : Int32} (hN : NBig N) (hK : 100 ≤ K) (h : OkN M) : Sf (gM_has N K M p0 p1) (fun (z : Int32 × MS) => Km M z.2) := by
  unfold gM_has
  exact sMap (s_X7_has hN hK) (fun z q => (And.intro rfl (And.intro rfl (And.intro rfl rfl))))
theorem kL_has {N K : Nat} {S : CS} {p0 : Int32} {p1 : Int32} {nv : Int64} (hN : NBig N) (hK : 100 ≤ K) (h : OkX S) : Sf (gL_has N K S p0 p1 nv) (fun z => Kx S z.2.1) := by
  unfold gL_has
  exact sWb (kX_has hN hK h) (fun z q => sIf (fun _ => sRet q) (fun _ => sRet q)) (fun _ => sRet (And.intro rfl (And.intro rfl (And.intro rfl rfl)))) (fun e => by cases e)
theorem kX_count {N K : Nat} {S : CS} {p0 : Int32} {p1 : Int32} {p2 : Int32} (hN : NBig N) (hK : 100 ≤ K) (h : OkX S) : Sf (gX_count N K S p0 p1 p2) (xP true true (fun (z : Int32 × CS) => Kx S z.2)) := by
  unfold gX_count
  refine sMap (s_X5_count hN hK) (fun o q => ?_)
  cases o with
  | inl z => exact (And.intro rfl (And.intro rfl (And.intro rfl rfl)))
  | inr E => exact q
theorem kM_count {N K : Nat} {M : MS} {p0 : Int32} {p1 : Int32} {p2 : Int32} (hN : NBig N) (hK : 100 ≤ K) (h : OkN M) : Sf (gM_count N K M p0 p1 p2) (fun (z : Int32 × MS) => Km M z.2) := by
  unfold gM_count
  exact sMap (s_X7_count hN hK) (fun z q => (And.intro rfl (And.intro rfl (And.intro rfl rfl))))
theorem kL_count {N K : Nat} {S : CS} {p0 : Int32} {p1 : Int32} {p2 : Int32} {nv : Int64} (hN : NBig N) (hK : 100 ≤ K) (h : OkX S) : Sf (gL_count N K S p0 p1 p2 nv) (fun z => Kx S z.2.1) := by
  unfold gL_count
  exact sWb (kX_count hN hK h) (fun z q => sRet q) (fun _ => sRet (And.intro rfl (And.intro rfl (And.intro rfl rfl)))) (fun _ => sRet (And.intro rfl (And.intro rfl (And.intro rfl rfl))))
theorem kX_isSame {N K : Nat} {S : CS} {p0 : Int32} {p1 : Int32} (hN : NBig N) (hK : 100 ≤ K) (h : OkX S) : Sf (gX_isSame N K S p0 p1) (xP true false (fun (z : Int32 × CS) => Kx S z.2)) := by
  unfold gX_isSame
  by_cases e0 : p0 = p1
  · rw [if_pos e0]
    refine sMap (s_X5_isSameOwn hN hK) (fun o q => ?_)
    cases o with
    | inl z => exact (And.intro rfl (And.intro rfl (And.intro rfl rfl)))
    | inr E => exact q
  · rw [if_neg e0]
    refine sMap (s_X5_isSame hN hK) (fun o q => ?_)
    cases o with
    | inl z => exact (And.intro rfl (And.intro rfl (And.intro rfl rfl)))
    | inr E => exact q
theorem kM_isSame {N K : Nat} {M : MS} {p0 : Int32} {p1 : Int32} (hN : NBig N) (hK : 100 ≤ K) (h : OkN M) : Sf (gM_isSame N K M p0 p1) (fun (z : Int32 × MS) => Km M z.2) := by
  unfold gM_isSame
  by_cases e0 : p0 = p1
  · rw [if_pos e0]
    exact sMap (s_X7_isSameOwn hN hK) (fun z q => (And.intro rfl (And.intro rfl (And.intro rfl rfl))))
  · rw [if_neg e0]
    exact sMap (s_X7_isSame hN hK) (fun z q => (And.intro rfl (And.intro rfl (And.intro rfl rfl))))
theorem kL_isSame {N K : Nat} {S : CS} {p0 : Int32} {p1 : Int32} {nv : Int64} (hN : NBig N) (hK : 100 ≤ K) (h : OkX S) : Sf (gL_isSame N K S p0 p1 nv) (fun z => Kx S z.2.1) := by
  unfold gL_isSame
  exact sWb (kX_isSame hN hK h) (fun z q => sIf (fun _ => sRet q) (fun _ => sRet q)) (fun _ => sRet (And.intro rfl (And.intro rfl (And.intro rfl rfl)))) (fun e => by cases e)
theorem kX_walk {N K : Nat} {S : CS} {p0 : Int32} {p1 : Int32} {p2 : Int32} (hN : NBig N) (hK : 100 ≤ K) (h : OkX S) : Sf (gX_walk N K S p0 p1 p2) (xP false true (fun (z : Int32 × CS) => Kx S z.2)) := by
  unfold gX_walk
  refine sMap (s_X5_walk hN hK) (fun o q => ?_)
  cases o with
  | inl z => exact (And.intro rfl (And.intro rfl (And.intro rfl rfl)))
  | inr E => exact q
theorem kM_walk {N K : Nat} {M : MS} {p0 : Int32} {p1 : Int32} {p2 : Int32} (hN : NBig N) (hK : 100 ≤ K) (h : OkN M) : Sf (gM_walk N K M p0 p1 p2) (fun (z : Int32 × MS) => Km M z.2) := by
  unfold gM_walk
  exact sMap (s_X7_walk hN hK) (fun z q => (And.intro rfl (And.intro rfl (And.intro rfl rfl))))
theorem kL_walk {N K : Nat} {S : CS} {p0 : Int32} {p1 : Int32} {p2 : Int32} {nv : Int64} (hN : NBig N) (hK : 100 ≤ K) (h : OkX S) : Sf (gL_walk N K S p0 p1 p2 nv) (fun z => Kx S z.2.1) := by
  unfold gL_walk
  exact sWb (kX_walk hN hK h) (fun z q => sRet q) (fun e => by cases e) (fun _ => sRet (And.intro rfl (And.intro rfl (And.intro rfl rfl))))
theorem kX_product {N K : Nat} {S : CS} {p0 : Int32} {p1 : Int32} {p2 : Int32} (hN : NBig N) (hK : 100 ≤ K) (h : OkX S) : Sf (gX_product N K S p0 p1 p2) (xP false true (fun (z : Int32 × CS) => Kx S z.2)) := by
  unfold gX_product
  refine sMap (s_X5_product hN hK) (fun o q => ?_)
  cases o with
  | inl z => exact (And.intro rfl (And.intro rfl (And.intro rfl rfl)))
  | inr E => exact q
theorem kM_product {N K : Nat} {M : MS} {p0 : Int32} {p1 : Int32} {p2 : Int32} (hN : NBig N) (hK : 100 ≤ K) (h : OkN M) : Sf (gM_product N K M p0 p1 p2) (fun (z : Int32 × MS) => Km M z.2) := by
  unfold gM_product
  exact sMap (s_X7_product hN hK) (fun z q => (And.intro rfl (And.intro rfl (And.intro rfl rfl))))
theorem kL_product {N K : Nat} {S : CS} {p0 : Int32} {p1 : Int32} {p2 : Int32} {nv : Int64} (hN : NBig N) (hK : 100 ≤ K) (h : OkX S) : Sf (gL_product N K S p0 p1 p2 nv) (fun z => Kx S z.2.1) := by
  unfold gL_product
  exact sWb (kX_product hN hK h) (fun z q => sRet q) (fun e => by cases e) (fun _ => sRet (And.intro rfl (And.intro rfl (And.intro rfl rfl))))
theorem kX_ledger {N K : Nat} {S : CS} {p0 : Int32} {p1 : Int32} (hN : NBig N) (hK : 100 ≤ K) (h : OkX S) : Sf (gX_ledger N K S p0 p1) (xP true true (fun (z : Int32 × CS) => Kx S z.2)) := by
  unfold gX_ledger
  refine sMap (s_X5_ledger hN hK) (fun o q => ?_)
  cases o with
  | inl z => exact (And.intro rfl (And.intro rfl (And.intro rfl rfl)))
  | inr E => exact q
theorem kM_ledger {N K : Nat} {M : MS} {p0 : Int32} {p1 : Int32} (hN : NBig N) (hK : 100 ≤ K) (h : OkN M) : Sf (gM_ledger N K M p0 p1) (fun (z : Int32 × MS) => Km M z.2) := by
  unfold gM_ledger
  exact sMap (s_X7_ledger hN hK) (fun z q => (And.intro rfl (And.intro rfl (And.intro rfl rfl))))
theorem kL_ledger {N K : Nat} {S : CS} {p0 : Int32} {p1 : Int32} {nv : Int64} (hN : NBig N) (hK : 100 ≤ K) (h : OkX S) : Sf (gL_ledger N K S p0 p1 nv) (fun z => Kx S z.2.1) := by
  unfold gL_ledger
  exact sWb (kX_ledger hN hK h) (fun z q => sRet q) (fun _ => sRet (And.intro rfl (And.intro rfl (And.intro rfl rfl)))) (fun _ => sRet (And.intro rfl (And.intro rfl (And.intro rfl rfl))))
theorem kX_ruleWorth {N K : Nat} {S : CS} {p0 : Int32} {p1 : Int32} {p2 : Int32} (hN : NBig N) (hK : 100 ≤ K) (h : OkX S) : Sf (gX_ruleWorth N K S p0 p1 p2) (xP true true (fun (z : Int32 × CS) => Kx S z.2)) := by
  unfold gX_ruleWorth
  refine sMap (s_X5_ruleWorth hN hK) (fun o q => ?_)
  cases o with
  | inl z => exact (And.intro rfl (And.intro rfl (And.intro rfl rfl)))
  | inr E => exact q
theorem kM_ruleWorth {N K : Nat} {M : MS} {p0 : Int32} {p1 : Int32} {p2 : Int32} (hN : NBig N) (hK : 100 ≤ K) (h : OkN M) : Sf (gM_ruleWorth N K M p0 p1 p2) (fun (z : Int32 × MS) => Km M z.2) := by
  unfold gM_ruleWorth
  exact sMap (s_X7_ruleWorth hN hK) (fun z q => (And.intro rfl (And.intro rfl (And.intro rfl rfl))))
theorem kL_ruleWorth {N K : Nat} {S : CS} {p0 : Int32} {p1 : Int32} {p2 : Int32} {nv : Int64} (hN : NBig N) (hK : 100 ≤ K) (h : OkX S) : Sf (gL_ruleWorth N K S p0 p1 p2 nv) (fun z => Kx S z.2.1) := by
  unfold gL_ruleWorth
  exact sWb (kX_ruleWorth hN hK h) (fun z q => sRet q) (fun _ => sRet (And.intro rfl (And.intro rfl (And.intro rfl rfl)))) (fun _ => sRet (And.intro rfl (And.intro rfl (And.intro rfl rfl))))
theorem kX_times {N K : Nat} {S : CS} {p0 : Int32} {p1 : Int32} (hN : NBig N) (hK : 100 ≤ K) (h : OkX S) : Sf (gX_times N K S p0 p1) (xP true true (fun (z : Int32 × CS) => Kx S z.2)) := by
  unfold gX_times
  refine sMap (s_X5_times hN hK) (fun o q => ?_)
  cases o with
  | inl z => exact (And.intro rfl (And.intro rfl (And.intro rfl rfl)))
  | inr E => exact q
theorem kM_times {N K : Nat} {M : MS} {p0 : Int32} {p1 : Int32} (hN : NBig N) (hK : 100 ≤ K) (h : OkN M) : Sf (gM_times N K M p0 p1) (fun (z : Int32 × MS) => Km M z.2) := by
  unfold gM_times
  exact sMap (s_X7_times hN hK) (fun z q => (And.intro rfl (And.intro rfl (And.intro rfl rfl))))
theorem kL_times {N K : Nat} {S : CS} {p0 : Int32} {p1 : Int32} {nv : Int64} (hN : NBig N) (hK : 100 ≤ K) (h : OkX S) : Sf (gL_times N K S p0 p1 nv) (fun z => Kx S z.2.1) := by
  unfold gL_times
  exact sWb (kX_times hN hK h) (fun z q => sRet q) (fun _ => sRet (And.intro rfl (And.intro rfl (And.intro rfl rfl)))) (fun _ => sRet (And.intro rfl (And.intro rfl (And.intro rfl rfl))))
theorem kX_way {N K : Nat} {S : CS} {p0 : Int32} {p1 : Int32} (hN : NBig N) (hK : 100 ≤ K) (h : OkX S) : Sf (gX_way N K S p0 p1) (xP true true (fun (z : Int32 × CS) => Kx S z.2)) := by
  unfold gX_way
  refine sMap (s_X5_way hN hK) (fun o q => ?_)
  cases o with
  | inl z => exact (And.intro rfl (And.intro rfl (And.intro rfl rfl)))
  | inr E => exact q
theorem kM_way {N K : Nat} {M : MS} {p0 : Int32} {p1 : Int32} (hN : NBig N) (hK : 100 ≤ K) (h : OkN M) : Sf (gM_way N K M p0 p1) (fun (z : Int32 × MS) => Km M z.2) := by
  unfold gM_way
  exact sMap (s_X7_way hN hK (h _)) (fun z q => (And.intro rfl (And.intro rfl (And.intro rfl rfl))))
theorem kL_way {N K : Nat} {S : CS} {p0 : Int32} {p1 : Int32} {nv : Int64} (hN : NBig N) (hK : 100 ≤ K) (h : OkX S) : Sf (gL_way N K S p0 p1 nv) (fun z => Kx S z.2.1) := by
  unfold gL_way
  exact sWb (kX_way hN hK h) (fun z q => sRet q) (fun _ => sRet (And.intro rfl (And.intro rfl (And.intro rfl rfl)))) (fun _ => sRet (And.intro rfl (And.intro rfl (And.intro rfl rfl))))
theorem kX_wayText {N K : Nat} {S : CS} {p0 : Int32} (hN : NBig N) (hK : 100 ≤ K) (h : OkX S) : Sf (gX_wayText N K S p0) (xP true false (fun (z : CS) => Kx S z)) := by
  unfold gX_wayText
  refine sMap (s_X5_wayText hN hK (h _)) (fun o q => ?_)
  cases o with
  | inl z => exact (And.intro rfl (And.intro rfl (And.intro rfl rfl)))
  | inr E => exact q
theorem kM_wayText {N K : Nat} {M : MS} {p0 : Int32} (hN : NBig N) (hK : 100 ≤ K) (h : OkN M) : Sf (gM_wayText N K M p0) (fun (z : MS) => Km M z) := by
  unfold gM_wayText
  exact sMap (s_X7_wayText hN hK (h _)) (fun z q => (And.intro rfl (And.intro rfl (And.intro rfl rfl))))
theorem kL_wayText {N K : Nat} {S : CS} {p0 : Int32} {nv : Int64} (hN : NBig N) (hK : 100 ≤ K) (h : OkX S) : Sf (gL_wayText N K S p0 nv) (fun z => Kx S z.2.1) := by
  unfold gL_wayText
  exact sWb (kX_wayText hN hK h) (fun z q => sRet q) (fun _ => sRet (And.intro rfl (And.intro rfl (And.intro rfl rfl)))) (fun e => by cases e)
theorem kX_isOf {N K : Nat} {S : CS} {p0 : Int32} {p1 : Int32} {p2 : Int32} (hN : NBig N) (hK : 100 ≤ K) (h : OkX S) : Sf (gX_isOf N K S p0 p1 p2) (xP true true (fun (z : Int32 × CS) => Kx S z.2)) := by
  unfold gX_isOf
  refine sMap (s_X5_isOf hN hK (h _)) (fun o q => ?_)
  cases o with
  | inl z => exact (And.intro rfl (And.intro rfl (And.intro rfl rfl)))
  | inr E => exact q
theorem kM_isOf {N K : Nat} {M : MS} {p0 : Int32} {p1 : Int32} {p2 : Int32} (hN : NBig N) (hK : 100 ≤ K) (h : OkN M) : Sf (gM_isOf N K M p0 p1 p2) (fun (z : Int32 × MS) => Km M z.2) := by
  unfold gM_isOf
  exact sMap (s_X7_isOf hN hK) (fun z q => (And.intro rfl (And.intro rfl (And.intro rfl rfl))))
theorem kL_isOf {N K : Nat} {S : CS} {p0 : Int32} {p1 : Int32} {p2 : Int32} {nv : Int64} (hN : NBig N) (hK : 100 ≤ K) (h : OkX S) : Sf (gL_isOf N K S p0 p1 p2 nv) (fun z => Kx S z.2.1) := by
  unfold gL_isOf
  exact sWb (kX_isOf hN hK h) (fun z q => sIf (fun _ => sRet q) (fun _ => sRet q)) (fun _ => sRet (And.intro rfl (And.intro rfl (And.intro rfl rfl)))) (fun _ => sRet (And.intro rfl (And.intro rfl (And.intro rfl rfl))))
theorem Sf.and {T : Type} {o : Option T} {P Q : T → Prop} (h : Sf o P) (g : Sf o Q) : Sf o (fun z => P z ∧ Q z) := by
  obtain ⟨x, e, p⟩ := h
  obtain ⟨y, e2, q⟩ := g
  rw [e] at e2
  obtain rfl := Option.some.inj e2
  exact ⟨x, e, p, q⟩
theorem lgc {a b : Int64} (h : a = b) : lg_cmp a b = 0 := (lg_cmp_eq a b).mpr h
def CTS (c t : Nat → Int32) : Prop := c 0 = t 0 ∧ c 1 = t 1 ∧ c 2 = t 2 ∧ c 3 = t 3 ∧ c 4 = t 4 ∧ c 5 = t 5
theorem ctk {c t t' : Nat → Int32} {d0 d1 d2 d3 d4 : Int32} (h : CTS c t) (k : KT (c 0) (c 1) (c 2) (c 3) (c 4) t d0 d1 d2 d3 d4 t') : d0 = t' 0 ∧ d1 = t' 1 ∧ d2 = t' 2 ∧ d3 = t' 3 ∧ d4 = t' 4 ∧ c 5 = t' 5 := by
  obtain ⟨h0, h1, h2, h3, h4, h5⟩ := h
  obtain ⟨k0, k1, k2, k3, k4, k5⟩ := k h0 h1 h2 h3 h4
  exact ⟨k0, k1, k2, k3, k4, h5.trans k5.symm⟩
theorem cts {c t t' : Nat → Int32} (h : CTS c t) (e : t' = t) : CTS c t' := by rw [e]; exact h
def Iv (S : CS) (M : MS) : Prop := (∀ j, DD (S.2.2.1 j) (M.2.2.1 j)) ∧ MM S.1 M.1 ∧ LM S.2.1 M.2.1 ∧ CTS S.2.2.2.1 M.2.2.2.1
theorem Iv.x {S : CS} {M : MS} (I : Iv S M) : OkX S := fun j => by obtain ⟨w, h, _⟩ := I.1 j; exact ⟨w, h⟩
theorem Iv.m {S : CS} {M : MS} (I : Iv S M) : OkN M := fun j => by obtain ⟨w, _, h⟩ := I.1 j; exact ⟨w, h⟩
theorem Iv.th {S : CS} {M M' : MS} (I : Iv S M) (h : M' = M) : Iv S M' := by rw [h]; exact I
theorem Iv.ask {S S' : CS} {M M' : MS} (I : Iv S M) (k : Kx S S') (k2 : Km M M') : Iv S' M' := by
  unfold Iv
  rw [k.1, k.2.1, k.2.2.1, k.2.2.2, k2.1, k2.2.1, k2.2.2.1, k2.2.2.2]
  exact I
theorem Iv.z {N K : Nat} (hN : NBig N) : ∃ x4 x12, fX5_init N K = some x4 ∧ fX7_init N K (0 : Int32) = some x12 ∧ Iv (S0of x4) (M0of x12) := by
  obtain ⟨m, l, m0, l0, h1⟩ := init_x (N := N) (K := K) hN
  obtain ⟨a, b, c, m1, h2⟩ := init_m (N := N) (K := K) hN (th := (0 : Int32))
  refine ⟨_, _, h1, h2, fun j => ?_, fun j => ?_, fun j hj => ?_, ?_⟩
  · show DD (if j = 0 then (fun _ => 0) else (fun _ => 0)) (if j = 0 then (fun _ => 0) else (fun _ => 0))
    have h0 : Dk (fun _ => 0) (fun _ => 0) := ⟨by rw [wn_0]; omega, fun _ _ _ => rfl⟩
    by_cases e : j = 0
    · rw [if_pos e]; exact ⟨_, h0, h0⟩
    · rw [if_neg e]; exact ⟨_, h0, h0⟩
  · have hm : ∀ s, s < 2646 → m s = -1 := fun s hs => (m0 s).trans (if_pos hs)
    show MT (if j = 0 then ((0 : Int32), m) else if j = 1 then ((0 : Int32), m) else ((0 : Int32), m)).1 (if j = 0 then ((0 : Int32), m) else if j = 1 then ((0 : Int32), m) else ((0 : Int32), m)).2 (if j = 0 then a else if j = 1 then b else c)
    by_cases e : j = 0
    · rw [if_pos e, if_pos e]; exact mt_none hm (fun s hs => (m1 s hs).1)
    · rw [if_neg e, if_neg e]
      by_cases e2 : j = 1
      · rw [if_pos e2, if_pos e2]; exact mt_none hm (fun s hs => (m1 s hs).2.1)
      · rw [if_neg e2, if_neg e2]; exact mt_none hm (fun s hs => (m1 s hs).2.2)
  · have hj3 : j = 0 ∨ j = 1 ∨ j = 2 := by omega
    rcases hj3 with rfl | rfl | rfl
    · exact ⟨rfl, lz l0⟩
    · exact ⟨rfl, lz l0⟩
    · exact ⟨rfl, lz l0⟩
  · exact ⟨rfl, rfl, rfl, rfl, rfl, rfl⟩
theorem pj_knock {N K : Nat} {S : CS} {M : MS} (hN : NBig N) (hK : 100 ≤ K) (I : Iv S M) : Sf (gX_knock N K S) (fun z => Sf (gM_knock N K M) (fun y => Iv z.2 y.2)) := by
  refine ⟨_, rfl, _, rfl, I.1, I.2.1, I.2.2.1, ?_⟩
  obtain ⟨h0, h1, h2, h3, h4, h5⟩ := I.2.2.2
  refine ⟨h0, h1, h2, h3, h4, ?_⟩
  show S.2.2.2.1 5 + (1 : Int32) = upd M.2.2.2.1 (5 : Int32).toNatClampNeg (M.2.2.2.1 (5 : Int32).toNatClampNeg + (1 : Int32)) 5
  have e5 : (5 : Int32).toNatClampNeg = 5 := by decide
  rw [e5, upd_at, h5]
theorem pj_isSameWay {N K : Nat} {S : CS} {M : MS} (hN : NBig N) (hK : 100 ≤ K) (I : Iv S M) : Sf (gX_isSameWay N K S) (fun z => Sf (gM_isSameWay N K M) (fun y => Iv z.2 y.2)) := by
  obtain ⟨b, e1, e2⟩ := ty_isSameWay (N := N) (K := K) (th := M.2.2.2.2.2) hN hK (I.1 0) (I.1 1)
  unfold gX_isSameWay gM_isSameWay
  rw [e1, e2]
  exact ⟨_, rfl, _, rfl, I⟩
theorem pq_digest {N K : Nat} {S : CS} {M : MS} (hN : NBig N) (hK : 100 ≤ K) (I : Iv S M) : Sf (gX_digest N K S) (fun z => Sf (gM_digest N K M) (fun y => z.1 = y.1 ∧ Iv z.2 y.2)) := by
  obtain ⟨h0, h1, h2, h3, h4, h5⟩ := I.2.2.2
  obtain ⟨v, e1, e2⟩ := ty_digest (N := N) (K := K) (th := M.2.2.2.2.2) (ru0 := (S.2.1 0).1) (ru1 := (S.2.1 1).1) (ru2 := (S.2.1 2).1) hN hK (I.2.1 0) (I.2.1 1) (I.2.1 2) (I.2.2.1 0 (by omega)).2 (I.2.2.1 1 (by omega)).2 (I.2.2.1 2 (by omega)).2 (I.1 0) (I.1 1) h0 h1 h2 h3 h4 h5
  unfold gX_digest gM_digest
  rw [e1, e2]
  exact ⟨_, rfl, _, rfl, rfl, I⟩
theorem pj_digest {N K : Nat} {S : CS} {M : MS} (hN : NBig N) (hK : 100 ≤ K) (I : Iv S M) : Sf (gX_digest N K S) (fun z => Sf (gM_digest N K M) (fun y => Iv z.2 y.2)) := sMono (pq_digest hN hK I) (fun z h => sMono h (fun y q => q.2))
theorem pq_tally {N K : Nat} {S : CS} {M : MS} {p0 : Int32} {nv : Int64} (hN : NBig N) (hK : 100 ≤ K) (I : Iv S M) : Sf (gL_tally N K S p0 nv) (fun z => Sf (gM_tally N K M p0) (fun y => (y.2.2.2.2.2.2 = z.1 ∧ (z.1 = 0 → z.2.2 = y.1.toInt64)) ∧ Iv z.2.1 y.2)) := by
  obtain ⟨h0, h1, h2, h3, h4, h5⟩ := I.2.2.2
  obtain ⟨o, y, e1, e2, q⟩ := ty_tally (N := N) (K := K) (th := M.2.2.2.2.2) (p0 := p0) h0 h1 h2 h3 h4 h5
  unfold gL_tally gX_tally gM_tally
  rw [e1, e2]
  cases o with
  | inl z => exact ⟨_, rfl, _, rfl, ⟨q.1, fun _ => congrArg Int32.toInt64 q.2⟩, I⟩
  | inr E =>
    obtain ⟨rfl, h⟩ := q
    exact ⟨_, wb_ia, _, rfl, ⟨h, fun e => ne1 e⟩, I⟩
theorem pj_tally {N K : Nat} {S : CS} {M : MS} {p0 : Int32} {nv : Int64} (hN : NBig N) (hK : 100 ≤ K) (I : Iv S M) : Sf (gL_tally N K S p0 nv) (fun z => Sf (gM_tally N K M p0) (fun y => Iv z.2.1 y.2)) := sMono (pq_tally hN hK I) (fun z h => sMono h (fun y q => q.2))
theorem pq_isSound {N K : Nat} {S : CS} {M : MS} {p0 : Int32} {nv : Int64} (hN : NBig N) (hK : 100 ≤ K) (I : Iv S M) : Sf (gL_isSound N K S p0 nv) (fun z => Sf (gM_isSound N K M p0) (fun y => (y.2.2.2.2.2.2 = z.1 ∧ (z.1 = 0 → z.2.2 = if y.1 = 0 then 0 else 1)) ∧ Iv z.2.1 y.2)) := by
  obtain ⟨h0, h1, h2, h3, h4, h5⟩ := I.2.2.2
  obtain ⟨o, y, e1, e2, q⟩ := ty_isSound (N := N) (K := K) (th := M.2.2.2.2.2) (c0 := S.2.2.2.1 0) (c4 := S.2.2.2.1 4) (c5 := S.2.2.2.1 5) (gs := S.2.2.2.2.1) (p0 := p0) hN hK (I.2.1 (ix 3 p0)) h1 h2 h3
  unfold gL_isSound gX_isSound gM_isSound
  rw [e1, e2]
  cases o with
  | inl z =>
    obtain ⟨q1, q2, q3⟩ := q
    show Sf (if z.1 = 0 then _ else _) _
    rcases q3 with q3 | q3
    · rw [if_pos (q2.trans q3)]
      exact ⟨_, rfl, _, rfl, ⟨q1, fun _ => (if_pos q3).symm⟩, I⟩
    · rw [if_neg (fun e => ne1 ((q3.symm.trans q2.symm).trans e))]
      exact ⟨_, rfl, _, rfl, ⟨q1, fun _ => (if_neg (fun e => ne1 (q3.symm.trans e))).symm⟩, I⟩
  | inr E =>
    obtain ⟨q1, -⟩ := q
    rcases q1 with ⟨rfl, h⟩ | ⟨hb, rfl, h⟩
    · exact ⟨_, wb_io, _, rfl, ⟨h, fun e => ne1 e⟩, I⟩
    · cases hb
theorem pj_isSound {N K : Nat} {S : CS} {M : MS} {p0 : Int32} {nv : Int64} (hN : NBig N) (hK : 100 ≤ K) (I : Iv S M) : Sf (gL_isSound N K S p0 nv) (fun z => Sf (gM_isSound N K M p0) (fun y => Iv z.2.1 y.2)) := sMono (pq_isSound hN hK I) (fun z h => sMono h (fun y q => q.2))
theorem pj_know {N K : Nat} {S : CS} {M : MS} {p0 p1 p2 p3 : Int32} {nv : Int64} (hN : NBig N) (hK : 100 ≤ K) (I : Iv S M) : Sf (gL_know N K S p0 p1 p2 p3 nv) (fun z => Sf (gM_know N K M p0 p1 p2 p3) (fun y => Iv z.2.1 y.2)) := by
  obtain ⟨o, y, e1, e2, q⟩ := ty_know (N := N) (K := K) (th := M.2.2.2.2.2) (c0 := S.2.2.2.1 0) (c1 := S.2.2.2.1 1) (c2 := S.2.2.2.1 2) (c3 := S.2.2.2.1 3) (c4 := S.2.2.2.1 4) (c5 := S.2.2.2.1 5) (t := M.2.2.2.1) (u := M.2.2.2.2.1) (p0 := p0) (p1 := p1) (p2 := p2) (p3 := p3) hN hK (I.2.1 (ix 3 p0))
  unfold gL_know gX_know gM_know
  rw [e1, e2]
  cases o with
  | inl z => exact ⟨_, rfl, _, rfl, ⟨I.1, mm_upm I.2.1 q.2.2.1, I.2.2.1, (ctk (c := S.2.2.2.1) (t := M.2.2.2.1) I.2.2.2 q.2.2.2 :)⟩⟩
  | inr E =>
    obtain ⟨q1, q2⟩ := q
    rcases q1 with ⟨rfl, h⟩ | ⟨hb, rfl, h⟩
    · exact ⟨_, wb_io, _, rfl, ⟨I.1, mm_same I.2.1 q2.1, I.2.2.1, cts I.2.2.2 q2.2⟩⟩
    · exact ⟨_, wb_ia, _, rfl, ⟨I.1, mm_same I.2.1 q2.1, I.2.2.1, cts I.2.2.2 q2.2⟩⟩
theorem pj_few {N K : Nat} {S : CS} {M : MS} {p0 p1 p2 : Int32} {nv : Int64} (hN : NBig N) (hK : 100 ≤ K) (I : Iv S M) : Sf (gL_few N K S p0 p1 p2 nv) (fun z => Sf (gM_few N K M p0 p1 p2) (fun y => Iv z.2.1 y.2)) := by
  obtain ⟨o, y, e1, e2, q⟩ := ty_few (N := N) (K := K) (th := M.2.2.2.2.2) (c0 := S.2.2.2.1 0) (c1 := S.2.2.2.1 1) (c2 := S.2.2.2.1 2) (c3 := S.2.2.2.1 3) (c4 := S.2.2.2.1 4) (c5 := S.2.2.2.1 5) (t := M.2.2.2.1) (u := M.2.2.2.2.1) (p0 := p0) (p1 := p1) (p2 := p2) hN hK (I.2.1 (ix 3 p0))
  unfold gL_few gX_few gM_few
  rw [e1, e2]
  cases o with
  | inl z => exact ⟨_, rfl, _, rfl, ⟨I.1, mm_upm I.2.1 q.2.2.1, I.2.2.1, (ctk (c := S.2.2.2.1) (t := M.2.2.2.1) I.2.2.2 q.2.2.2 :)⟩⟩
  | inr E =>
    obtain ⟨q1, q2⟩ := q
    rcases q1 with ⟨rfl, h⟩ | ⟨hb, rfl, h⟩
    · exact ⟨_, wb_io, _, rfl, ⟨I.1, mm_same I.2.1 q2.1, I.2.2.1, cts I.2.2.2 q2.2⟩⟩
    · exact ⟨_, wb_ia, _, rfl, ⟨I.1, mm_same I.2.1 q2.1, I.2.2.1, cts I.2.2.2 q2.2⟩⟩
theorem pj_surplus {N K : Nat} {S : CS} {M : MS} {p0 p1 : Int32} {nv : Int64} (hN : NBig N) (hK : 100 ≤ K) (I : Iv S M) : Sf (gL_surplus N K S p0 p1 nv) (fun z => Sf (gM_surplus N K M p0 p1) (fun y => Iv z.2.1 y.2)) := by
  obtain ⟨o, y, e1, e2, q⟩ := ty_surplus (N := N) (K := K) (th := M.2.2.2.2.2) (c0 := S.2.2.2.1 0) (c1 := S.2.2.2.1 1) (c2 := S.2.2.2.1 2) (c3 := S.2.2.2.1 3) (c4 := S.2.2.2.1 4) (c5 := S.2.2.2.1 5) (t := M.2.2.2.1) (u := M.2.2.2.2.1) (p0 := p0) (p1 := p1) hN hK (I.2.1 (ix 3 p0))
  unfold gL_surplus gX_surplus gM_surplus
  rw [e1, e2]
  cases o with
  | inl z => exact ⟨_, rfl, _, rfl, ⟨I.1, mm_upm I.2.1 q.2.2.1, I.2.2.1, (ctk (c := S.2.2.2.1) (t := M.2.2.2.1) I.2.2.2 q.2.2.2 :)⟩⟩
  | inr E =>
    obtain ⟨q1, q2⟩ := q
    rcases q1 with ⟨rfl, h⟩ | ⟨hb, rfl, h⟩
    · exact ⟨_, wb_io, _, rfl, ⟨I.1, mm_same I.2.1 q2.1, I.2.2.1, cts I.2.2.2 q2.2⟩⟩
    · exact ⟨_, wb_ia, _, rfl, ⟨I.1, mm_same I.2.1 q2.1, I.2.2.1, cts I.2.2.2 q2.2⟩⟩
theorem pj_place {N K : Nat} {S : CS} {M : MS} {p0 p1 : Int32} {nv : Int64} (hN : NBig N) (hK : 100 ≤ K) (I : Iv S M) : Sf (gL_place N K S p0 p1 nv) (fun z => Sf (gM_place N K M p0 p1) (fun y => Iv z.2.1 y.2)) := by
  obtain ⟨o, y, e1, e2, q⟩ := ty_place (N := N) (K := K) (th := M.2.2.2.2.2) (c0 := S.2.2.2.1 0) (c1 := S.2.2.2.1 1) (c2 := S.2.2.2.1 2) (c3 := S.2.2.2.1 3) (c4 := S.2.2.2.1 4) (c5 := S.2.2.2.1 5) (t := M.2.2.2.1) (u := M.2.2.2.2.1) (p0 := p0) (p1 := p1) hN hK (I.2.1 (ix 3 p0)) (I.1 (ix 2 p1))
  unfold gL_place gX_place gM_place
  rw [e1, e2]
  cases o with
  | inl z => exact ⟨_, rfl, _, rfl, ⟨I.1, mm_upm I.2.1 q.2.2.1, I.2.2.1, (ctk (c := S.2.2.2.1) (t := M.2.2.2.1) I.2.2.2 q.2.2.2 :)⟩⟩
  | inr E =>
    obtain ⟨q1, q2⟩ := q
    rcases q1 with ⟨rfl, h⟩ | ⟨hb, rfl, h⟩
    · exact ⟨_, wb_io, _, rfl, ⟨I.1, mm_same I.2.1 q2.1, I.2.2.1, cts I.2.2.2 q2.2⟩⟩
    · cases hb
theorem pj_learn {N K : Nat} {S : CS} {M : MS} {p0 p1 p2 p3 : Int32} {nv : Int64} (hN : NBig N) (hK : 100 ≤ K) (I : Iv S M) : Sf (gL_learn N K S p0 p1 p2 p3 nv) (fun z => Sf (gM_learn N K M p0 p1 p2 p3) (fun y => Iv z.2.1 y.2)) := by
  obtain ⟨o, y, e1, e2, q⟩ := ty_learn (N := N) (K := K) (th := M.2.2.2.2.2) (c0 := S.2.2.2.1 0) (c1 := S.2.2.2.1 1) (c2 := S.2.2.2.1 2) (c3 := S.2.2.2.1 3) (c4 := S.2.2.2.1 4) (c5 := S.2.2.2.1 5) (t := M.2.2.2.1) (gs := S.2.2.2.2.1) (p0 := p0) (p1 := p1) (p2 := p2) (p3 := p3) hN hK (I.2.1 (ix 3 p0))
  unfold gL_learn gX_learn gM_learn
  rw [e1, e2]
  cases o with
  | inl z => exact ⟨_, rfl, _, rfl, ⟨I.1, mm_upm I.2.1 q.2.2.1, I.2.2.1, (ctk (c := S.2.2.2.1) (t := M.2.2.2.1) I.2.2.2 q.2.2.2 :)⟩⟩
  | inr E =>
    obtain ⟨q1, q2⟩ := q
    rcases q1 with ⟨rfl, h⟩ | ⟨hb, rfl, h⟩
    · exact ⟨_, wb_io, _, rfl, ⟨I.1, mm_same I.2.1 q2.1, I.2.2.1, cts I.2.2.2 q2.2⟩⟩
    · exact ⟨_, wb_ia, _, rfl, ⟨I.1, mm_same I.2.1 q2.1, I.2.2.1, cts I.2.2.2 q2.2⟩⟩
theorem pj_relearn {N K : Nat} {S : CS} {M : MS} {p0 p1 p2 p3 : Int32} {nv : Int64} (hN : NBig N) (hK : 100 ≤ K) (I : Iv S M) : Sf (gL_relearn N K S p0 p1 p2 p3 nv) (fun z => Sf (gM_relearn N K M p0 p1 p2 p3) (fun y => Iv z.2.1 y.2)) := by
  obtain ⟨o, y, e1, e2, q⟩ := ty_relearn (N := N) (K := K) (th := M.2.2.2.2.2) (c0 := S.2.2.2.1 0) (c1 := S.2.2.2.1 1) (c2 := S.2.2.2.1 2) (c3 := S.2.2.2.1 3) (c4 := S.2.2.2.1 4) (c5 := S.2.2.2.1 5) (t := M.2.2.2.1) (fw := S.2.2.2.2.2.1) (fs := S.2.2.2.2.2.2) (p0 := p0) (p1 := p1) (p2 := p2) (p3 := p3) hN hK (I.2.1 (ix 3 p0))
  unfold gL_relearn gX_relearn gM_relearn
  rw [e1, e2]
  cases o with
  | inl z => exact ⟨_, rfl, _, rfl, ⟨I.1, mm_upm I.2.1 q.2.2.1, I.2.2.1, (ctk (c := S.2.2.2.1) (t := M.2.2.2.1) I.2.2.2 q.2.2.2 :)⟩⟩
  | inr E =>
    obtain ⟨q1, q2⟩ := q
    rcases q1 with ⟨rfl, h⟩ | ⟨hb, rfl, h⟩
    · exact ⟨_, wb_io, _, rfl, ⟨I.1, mm_same I.2.1 q2.1, I.2.2.1, cts I.2.2.2 q2.2⟩⟩
    · exact ⟨_, wb_ia, _, rfl, ⟨I.1, mm_same I.2.1 q2.1, I.2.2.1, cts I.2.2.2 q2.2⟩⟩
theorem pj_forget {N K : Nat} {S : CS} {M : MS} {p0 p1 p2 p3 : Int32} {nv : Int64} (hN : NBig N) (hK : 100 ≤ K) (I : Iv S M) : Sf (gL_forget N K S p0 p1 p2 p3 nv) (fun z => Sf (gM_forget N K M p0 p1 p2 p3) (fun y => Iv z.2.1 y.2)) := by
  obtain ⟨o, y, e1, e2, q⟩ := ty_forget (N := N) (K := K) (th := M.2.2.2.2.2) (c0 := S.2.2.2.1 0) (c1 := S.2.2.2.1 1) (c2 := S.2.2.2.1 2) (c3 := S.2.2.2.1 3) (c4 := S.2.2.2.1 4) (c5 := S.2.2.2.1 5) (t := M.2.2.2.1) (p0 := p0) (p1 := p1) (p2 := p2) (p3 := p3) hN hK (I.2.1 (ix 3 p0))
  unfold gL_forget gX_forget gM_forget
  rw [e1, e2]
  cases o with
  | inl z => exact ⟨_, rfl, _, rfl, ⟨I.1, mm_upm I.2.1 q.2.2.1, I.2.2.1, (ctk (c := S.2.2.2.1) (t := M.2.2.2.1) I.2.2.2 q.2.2.2 :)⟩⟩
  | inr E =>
    obtain ⟨q1, q2⟩ := q
    rcases q1 with ⟨rfl, h⟩ | ⟨hb, rfl, h⟩
    · exact ⟨_, wb_io, _, rfl, ⟨I.1, mm_same I.2.1 q2.1, I.2.2.1, cts I.2.2.2 q2.2⟩⟩
    · exact ⟨_, wb_ia, _, rfl, ⟨I.1, mm_same I.2.1 q2.1, I.2.2.1, cts I.2.2.2 q2.2⟩⟩
theorem pj_forgetIf {N K : Nat} {S : CS} {M : MS} {p0 p1 p2 p3 p4 : Int32} {nv : Int64} (hN : NBig N) (hK : 100 ≤ K) (I : Iv S M) : Sf (gL_forgetIf N K S p0 p1 p2 p3 p4 nv) (fun z => Sf (gM_forgetIf N K M p0 p1 p2 p3 p4) (fun y => Iv z.2.1 y.2)) := by
  obtain ⟨o, y, e1, e2, q⟩ := ty_forgetIf (N := N) (K := K) (th := M.2.2.2.2.2) (c0 := S.2.2.2.1 0) (c1 := S.2.2.2.1 1) (c2 := S.2.2.2.1 2) (c3 := S.2.2.2.1 3) (c4 := S.2.2.2.1 4) (c5 := S.2.2.2.1 5) (t := M.2.2.2.1) (p0 := p0) (p1 := p1) (p2 := p2) (p3 := p3) (p4 := p4) hN hK (I.2.1 (ix 3 p0))
  unfold gL_forgetIf gX_forgetIf gM_forgetIf
  rw [e1, e2]
  cases o with
  | inl z => exact ⟨_, rfl, _, rfl, ⟨I.1, mm_upm I.2.1 q.2.2.1, I.2.2.1, (ctk (c := S.2.2.2.1) (t := M.2.2.2.1) I.2.2.2 q.2.2.2 :)⟩⟩
  | inr E =>
    obtain ⟨q1, q2⟩ := q
    rcases q1 with ⟨rfl, h⟩ | ⟨hb, rfl, h⟩
    · exact ⟨_, wb_io, _, rfl, ⟨I.1, mm_same I.2.1 q2.1, I.2.2.1, cts I.2.2.2 q2.2⟩⟩
    · exact ⟨_, wb_ia, _, rfl, ⟨I.1, mm_same I.2.1 q2.1, I.2.2.1, cts I.2.2.2 q2.2⟩⟩
theorem pj_forgetAll {N K : Nat} {S : CS} {M : MS} {p0 p1 p2 : Int32} {nv : Int64} (hN : NBig N) (hK : 100 ≤ K) (I : Iv S M) : Sf (gL_forgetAll N K S p0 p1 p2 nv) (fun z => Sf (gM_forgetAll N K M p0 p1 p2) (fun y => Iv z.2.1 y.2)) := by
  obtain ⟨o, y, e1, e2, q⟩ := ty_forgetAll (N := N) (K := K) (th := M.2.2.2.2.2) (c0 := S.2.2.2.1 0) (c1 := S.2.2.2.1 1) (c2 := S.2.2.2.1 2) (c3 := S.2.2.2.1 3) (c4 := S.2.2.2.1 4) (c5 := S.2.2.2.1 5) (t := M.2.2.2.1) (p0 := p0) (p1 := p1) (p2 := p2) hN hK (I.2.1 (ix 3 p0))
  unfold gL_forgetAll gX_forgetAll gM_forgetAll
  rw [e1, e2]
  cases o with
  | inl z => exact ⟨_, rfl, _, rfl, ⟨I.1, mm_upm I.2.1 q.2.2.1, I.2.2.1, (ctk (c := S.2.2.2.1) (t := M.2.2.2.1) I.2.2.2 q.2.2.2 :)⟩⟩
  | inr E =>
    obtain ⟨q1, q2⟩ := q
    rcases q1 with ⟨rfl, h⟩ | ⟨hb, rfl, h⟩
    · exact ⟨_, wb_io, _, rfl, ⟨I.1, mm_same I.2.1 q2.1, I.2.2.1, cts I.2.2.2 q2.2⟩⟩
    · exact ⟨_, wb_ia, _, rfl, ⟨I.1, mm_same I.2.1 q2.1, I.2.2.1, cts I.2.2.2 q2.2⟩⟩
theorem pj_clear {N K : Nat} {S : CS} {M : MS} {p0 : Int32} {nv : Int64} (hN : NBig N) (hK : 100 ≤ K) (I : Iv S M) : Sf (gL_clear N K S p0 nv) (fun z => Sf (gM_clear N K M p0) (fun y => Iv z.2.1 y.2)) := by
  obtain ⟨o, y, e1, e2, q⟩ := ty_clear (N := N) (K := K) (th := M.2.2.2.2.2) (c0 := S.2.2.2.1 0) (c1 := S.2.2.2.1 1) (c2 := S.2.2.2.1 2) (c3 := S.2.2.2.1 3) (c4 := S.2.2.2.1 4) (c5 := S.2.2.2.1 5) (t := M.2.2.2.1) (p0 := p0) hN hK (I.2.1 (ix 3 p0))
  unfold gL_clear gX_clear gM_clear
  rw [e1, e2]
  cases o with
  | inl z => exact ⟨_, rfl, _, rfl, ⟨I.1, mm_upm I.2.1 q.2.2.1, I.2.2.1, (ctk (c := S.2.2.2.1) (t := M.2.2.2.1) I.2.2.2 q.2.2.2 :)⟩⟩
  | inr E =>
    obtain ⟨q1, q2⟩ := q
    rcases q1 with ⟨rfl, h⟩ | ⟨hb, rfl, h⟩
    · exact ⟨_, wb_io, _, rfl, ⟨I.1, mm_same I.2.1 q2.1, I.2.2.1, cts I.2.2.2 q2.2⟩⟩
    · cases hb
theorem pj_copy {N K : Nat} {S : CS} {M : MS} {p0 p1 : Int32} {nv : Int64} (hN : NBig N) (hK : 100 ≤ K) (I : Iv S M) : Sf (gL_copy N K S p0 p1 nv) (fun z => Sf (gM_copy N K M p0 p1) (fun y => Iv z.2.1 y.2)) := by
  unfold gL_copy gX_copy gM_copy
  by_cases hne : p0 = p1
  · rw [if_pos hne, if_pos hne]
    obtain ⟨o, y, e1, e2, q⟩ := ty_copyOwn (N := N) (K := K) (th := M.2.2.2.2.2) (c0 := S.2.2.2.1 0) (c1 := S.2.2.2.1 1) (c2 := S.2.2.2.1 2) (c3 := S.2.2.2.1 3) (c4 := S.2.2.2.1 4) (c5 := S.2.2.2.1 5) (t := M.2.2.2.1) (p0 := p0) hN hK (I.2.1 (ix 3 p0))
    rw [e1, e2]
    cases o with
    | inl z => exact ⟨_, rfl, _, rfl, ⟨I.1, mm_upm I.2.1 q.2.2.1, I.2.2.1, (ctk (c := S.2.2.2.1) (t := M.2.2.2.1) I.2.2.2 q.2.2.2 :)⟩⟩
    | inr E =>
      obtain ⟨q1, q2⟩ := q
      rcases q1 with ⟨rfl, h⟩ | ⟨hb, rfl, h⟩
      · exact ⟨_, wb_io, _, rfl, ⟨I.1, mm_same I.2.1 q2.1, I.2.2.1, cts I.2.2.2 q2.2⟩⟩
      · cases hb
  · rw [if_neg hne, if_neg hne]
    obtain ⟨o, y, e1, e2, q⟩ := ty_copy (N := N) (K := K) (th := M.2.2.2.2.2) (c0 := S.2.2.2.1 0) (c1 := S.2.2.2.1 1) (c2 := S.2.2.2.1 2) (c3 := S.2.2.2.1 3) (c4 := S.2.2.2.1 4) (c5 := S.2.2.2.1 5) (t := M.2.2.2.1) (p0 := p0) (p1 := p1) hN hK (I.2.1 (jx 3 p0 p1)) (I.2.1 (kx 3 p0 p1))
    rw [e1, e2]
    cases o with
    | inl z => exact ⟨_, rfl, _, rfl, ⟨I.1, mm_upm I.2.1 q.2.2.1, I.2.2.1, (ctk (c := S.2.2.2.1) (t := M.2.2.2.1) I.2.2.2 q.2.2.2 :)⟩⟩
    | inr E =>
      obtain ⟨q1, q2⟩ := q
      rcases q1 with ⟨rfl, h⟩ | ⟨hb, rfl, h⟩
      · exact ⟨_, wb_io, _, rfl, ⟨I.1, mm_same I.2.1 q2.1, I.2.2.1, cts I.2.2.2 q2.2⟩⟩
      · cases hb
theorem pj_pour {N K : Nat} {S : CS} {M : MS} {p0 p1 : Int32} {nv : Int64} (hN : NBig N) (hK : 100 ≤ K) (I : Iv S M) : Sf (gL_pour N K S p0 p1 nv) (fun z => Sf (gM_pour N K M p0 p1) (fun y => Iv z.2.1 y.2)) := by
  unfold gL_pour gX_pour gM_pour
  by_cases hne : p0 = p1
  · rw [if_pos hne, if_pos hne]
    obtain ⟨o, y, e1, e2, q⟩ := ty_pourOwn (N := N) (K := K) (th := M.2.2.2.2.2) (c0 := S.2.2.2.1 0) (c1 := S.2.2.2.1 1) (c2 := S.2.2.2.1 2) (c3 := S.2.2.2.1 3) (c4 := S.2.2.2.1 4) (c5 := S.2.2.2.1 5) (t := M.2.2.2.1) (sz := (S.1 (ix 3 p0)).1) (f := (S.1 (ix 3 p0)).2) (g := M.1 (ix 3 p0)) (p0 := p0) hN hK
    rw [e1, e2]
    cases o with
    | inl z => exact ⟨_, rfl, _, rfl, ⟨I.1, I.2.1, I.2.2.1, (ctk (c := S.2.2.2.1) (t := M.2.2.2.1) I.2.2.2 q.2.2 :)⟩⟩
    | inr E =>
      obtain ⟨q1, q2⟩ := q
      rcases q1 with ⟨rfl, h⟩ | ⟨hb, rfl, h⟩
      · exact ⟨_, wb_io, _, rfl, ⟨I.1, I.2.1, I.2.2.1, cts I.2.2.2 q2⟩⟩
      · cases hb
  · rw [if_neg hne, if_neg hne]
    obtain ⟨o, y, e1, e2, q⟩ := ty_pour (N := N) (K := K) (th := M.2.2.2.2.2) (c0 := S.2.2.2.1 0) (c1 := S.2.2.2.1 1) (c2 := S.2.2.2.1 2) (c3 := S.2.2.2.1 3) (c4 := S.2.2.2.1 4) (c5 := S.2.2.2.1 5) (t := M.2.2.2.1) (p0 := p0) (p1 := p1) hN hK (I.2.1 (jx 3 p0 p1)) (I.2.1 (kx 3 p0 p1)) hne
    rw [e1, e2]
    cases o with
    | inl z => exact ⟨_, rfl, _, rfl, ⟨I.1, mm_upm I.2.1 q.2.2.1, I.2.2.1, (ctk (c := S.2.2.2.1) (t := M.2.2.2.1) I.2.2.2 q.2.2.2 :)⟩⟩
    | inr E =>
      obtain ⟨q1, q2⟩ := q
      rcases q1 with ⟨rfl, h⟩ | ⟨hb, rfl, h⟩
      · exact ⟨_, wb_io, _, rfl, ⟨I.1, mm_same I.2.1 q2.1, I.2.2.1, cts I.2.2.2 q2.2⟩⟩
      · cases hb
theorem pj_rule {N K : Nat} {S : CS} {M : MS} {p0 p1 : Int32} {nv : Int64} (hN : NBig N) (hK : 100 ≤ K) (I : Iv S M) : Sf (gL_rule N K S p0 p1 nv) (fun z => Sf (gM_rule N K M p0 p1) (fun y => Iv z.2.1 y.2)) := by
  obtain ⟨hru, hlt⟩ := I.2.2.1 (ix 3 p0) ix3
  obtain ⟨o, y, e1, e2, q⟩ := ty_rule (N := N) (K := K) (th := M.2.2.2.2.2) (c0 := S.2.2.2.1 0) (c1 := S.2.2.2.1 1) (c2 := S.2.2.2.1 2) (c3 := S.2.2.2.1 3) (c4 := S.2.2.2.1 4) (c5 := S.2.2.2.1 5) (t := M.2.2.2.1) (u := M.2.2.2.2.1) (p0 := p0) (p1 := p1) hN hK ix3 hru ix_r hlt
  unfold gL_rule gX_rule gM_rule
  rw [e1, e2]
  cases o with
  | inl z => exact ⟨_, rfl, _, rfl, ⟨I.1, I.2.1, lm_upm I.2.2.1 ix3 q.2.2.1, (ctk (c := S.2.2.2.1) (t := M.2.2.2.1) I.2.2.2 q.2.2.2 :)⟩⟩
  | inr E =>
    obtain ⟨q1, q2⟩ := q
    rcases q1 with ⟨rfl, h⟩ | ⟨hb, rfl, h⟩
    · exact ⟨_, wb_io, _, rfl, ⟨I.1, I.2.1, lm_same I.2.2.1 q2.1, cts I.2.2.2 q2.2⟩⟩
    · exact ⟨_, wb_ia, _, rfl, ⟨I.1, I.2.1, lm_same I.2.2.1 q2.1, cts I.2.2.2 q2.2⟩⟩
theorem pj_forgetRule {N K : Nat} {S : CS} {M : MS} {p0 p1 : Int32} {nv : Int64} (hN : NBig N) (hK : 100 ≤ K) (I : Iv S M) : Sf (gL_forgetRule N K S p0 p1 nv) (fun z => Sf (gM_forgetRule N K M p0 p1) (fun y => Iv z.2.1 y.2)) := by
  obtain ⟨hru, hlt⟩ := I.2.2.1 (ix 3 p0) ix3
  obtain ⟨o, y, e1, e2, q⟩ := ty_forgetRule (N := N) (K := K) (th := M.2.2.2.2.2) (c0 := S.2.2.2.1 0) (c1 := S.2.2.2.1 1) (c2 := S.2.2.2.1 2) (c3 := S.2.2.2.1 3) (c4 := S.2.2.2.1 4) (c5 := S.2.2.2.1 5) (t := M.2.2.2.1) (p0 := p0) (p1 := p1) hN hK ix3 hru ix_r hlt
  unfold gL_forgetRule gX_forgetRule gM_forgetRule
  rw [e1, e2]
  cases o with
  | inl z => exact ⟨_, rfl, _, rfl, ⟨I.1, I.2.1, lm_upm I.2.2.1 ix3 q.2.2.1, (ctk (c := S.2.2.2.1) (t := M.2.2.2.1) I.2.2.2 q.2.2.2 :)⟩⟩
  | inr E =>
    obtain ⟨q1, q2⟩ := q
    rcases q1 with ⟨rfl, h⟩ | ⟨hb, rfl, h⟩
    · exact ⟨_, wb_io, _, rfl, ⟨I.1, I.2.1, lm_same I.2.2.1 q2.1, cts I.2.2.2 q2.2⟩⟩
    · exact ⟨_, wb_ia, _, rfl, ⟨I.1, I.2.1, lm_same I.2.2.1 q2.1, cts I.2.2.2 q2.2⟩⟩
theorem pj_addPart {N K : Nat} {S : CS} {M : MS} {p0 p1 p2 : Int32} {nv : Int64} (hN : NBig N) (hK : 100 ≤ K) (I : Iv S M) : Sf (gL_addPart N K S p0 p1 p2 nv) (fun z => Sf (gM_addPart N K M p0 p1 p2) (fun y => Iv z.2.1 y.2)) := by
  obtain ⟨o, y, e1, e2, q⟩ := ty_addPart (N := N) (K := K) (th := M.2.2.2.2.2) (c0 := S.2.2.2.1 0) (c1 := S.2.2.2.1 1) (c2 := S.2.2.2.1 2) (c3 := S.2.2.2.1 3) (c4 := S.2.2.2.1 4) (c5 := S.2.2.2.1 5) (t := M.2.2.2.1) (p0 := p0) (p1 := p1) (p2 := p2) hN hK (I.1 (ix 2 p0))
  unfold gL_addPart gX_addPart gM_addPart
  rw [e1, e2]
  cases o with
  | inl z => exact ⟨_, rfl, _, rfl, ⟨dd_upm I.1 q.2.2.1, I.2.1, I.2.2.1, (ctk (c := S.2.2.2.1) (t := M.2.2.2.1) I.2.2.2 q.2.2.2 :)⟩⟩
  | inr E =>
    obtain ⟨q1, q2⟩ := q
    rcases q1 with ⟨rfl, h⟩ | ⟨hb, rfl, h⟩
    · exact ⟨_, wb_io, _, rfl, ⟨dd_same I.1 q2.1, I.2.1, I.2.2.1, cts I.2.2.2 q2.2⟩⟩
    · exact ⟨_, wb_ia, _, rfl, ⟨dd_same I.1 q2.1, I.2.1, I.2.2.1, cts I.2.2.2 q2.2⟩⟩
theorem pj_takePart {N K : Nat} {S : CS} {M : MS} {p0 p1 : Int32} {nv : Int64} (hN : NBig N) (hK : 100 ≤ K) (I : Iv S M) : Sf (gL_takePart N K S p0 p1 nv) (fun z => Sf (gM_takePart N K M p0 p1) (fun y => Iv z.2.1 y.2)) := by
  obtain ⟨o, y, e1, e2, q⟩ := ty_takePart (N := N) (K := K) (th := M.2.2.2.2.2) (c0 := S.2.2.2.1 0) (c1 := S.2.2.2.1 1) (c2 := S.2.2.2.1 2) (c3 := S.2.2.2.1 3) (c4 := S.2.2.2.1 4) (c5 := S.2.2.2.1 5) (t := M.2.2.2.1) (p0 := p0) (p1 := p1) hN hK (I.1 (ix 2 p0))
  unfold gL_takePart gX_takePart gM_takePart
  rw [e1, e2]
  cases o with
  | inl z => exact ⟨_, rfl, _, rfl, ⟨dd_upm I.1 q.2.2.1, I.2.1, I.2.2.1, (ctk (c := S.2.2.2.1) (t := M.2.2.2.1) I.2.2.2 q.2.2.2 :)⟩⟩
  | inr E =>
    obtain ⟨q1, q2⟩ := q
    rcases q1 with ⟨rfl, h⟩ | ⟨hb, rfl, h⟩
    · exact ⟨_, wb_io, _, rfl, ⟨dd_same I.1 q2.1, I.2.1, I.2.2.1, cts I.2.2.2 q2.2⟩⟩
    · exact ⟨_, wb_ia, _, rfl, ⟨dd_same I.1 q2.1, I.2.1, I.2.2.1, cts I.2.2.2 q2.2⟩⟩
theorem pj_layFirst {N K : Nat} {S : CS} {M : MS} {p0 p1 : Int32} {nv : Int64} (hN : NBig N) (hK : 100 ≤ K) (I : Iv S M) : Sf (gL_layFirst N K S p0 p1 nv) (fun z => Sf (gM_layFirst N K M p0 p1) (fun y => Iv z.2.1 y.2)) := by
  obtain ⟨o, y, e1, e2, q⟩ := ty_layFirst (N := N) (K := K) (th := M.2.2.2.2.2) (c0 := S.2.2.2.1 0) (c1 := S.2.2.2.1 1) (c2 := S.2.2.2.1 2) (c3 := S.2.2.2.1 3) (c4 := S.2.2.2.1 4) (c5 := S.2.2.2.1 5) (t := M.2.2.2.1) (p0 := p0) (p1 := p1) hN hK (I.1 (ix 2 p0))
  unfold gL_layFirst gX_layFirst gM_layFirst
  rw [e1, e2]
  cases o with
  | inl z => exact ⟨_, rfl, _, rfl, ⟨dd_upm I.1 q.2.2.1, I.2.1, I.2.2.1, (ctk (c := S.2.2.2.1) (t := M.2.2.2.1) I.2.2.2 q.2.2.2 :)⟩⟩
  | inr E =>
    obtain ⟨q1, q2⟩ := q
    rcases q1 with ⟨rfl, h⟩ | ⟨hb, rfl, h⟩
    · exact ⟨_, wb_io, _, rfl, ⟨dd_same I.1 q2.1, I.2.1, I.2.2.1, cts I.2.2.2 q2.2⟩⟩
    · exact ⟨_, wb_ia, _, rfl, ⟨dd_same I.1 q2.1, I.2.1, I.2.2.1, cts I.2.2.2 q2.2⟩⟩
theorem pj_next {N K : Nat} {S : CS} {M : MS} {p0 : Int32} {nv : Int64} (hN : NBig N) (hK : 100 ≤ K) (I : Iv S M) : Sf (gL_next N K S p0 nv) (fun z => Sf (gM_next N K M p0) (fun y => Iv z.2.1 y.2)) := by
  obtain ⟨o, y, e1, e2, q⟩ := ty_next (N := N) (K := K) (th := M.2.2.2.2.2) (c0 := S.2.2.2.1 0) (c1 := S.2.2.2.1 1) (c2 := S.2.2.2.1 2) (c3 := S.2.2.2.1 3) (c4 := S.2.2.2.1 4) (c5 := S.2.2.2.1 5) (t := M.2.2.2.1) (p0 := p0) hN hK (I.1 (ix 2 p0))
  unfold gL_next gX_next gM_next
  rw [e1, e2]
  cases o with
  | inl z => exact ⟨_, rfl, _, rfl, ⟨dd_upm I.1 q.2.2.1, I.2.1, I.2.2.1, (ctk (c := S.2.2.2.1) (t := M.2.2.2.1) I.2.2.2 q.2.2.2 :)⟩⟩
  | inr E =>
    obtain ⟨q1, q2⟩ := q
    rcases q1 with ⟨rfl, h⟩ | ⟨hb, rfl, h⟩
    · exact ⟨_, wb_io, _, rfl, ⟨dd_same I.1 q2.1, I.2.1, I.2.2.1, cts I.2.2.2 q2.2⟩⟩
    · cases hb
theorem pj_turn {N K : Nat} {S : CS} {M : MS} {p0 : Int32} {nv : Int64} (hN : NBig N) (hK : 100 ≤ K) (I : Iv S M) : Sf (gL_turn N K S p0 nv) (fun z => Sf (gM_turn N K M p0) (fun y => Iv z.2.1 y.2)) := by
  obtain ⟨o, y, e1, e2, q⟩ := ty_turn (N := N) (K := K) (th := M.2.2.2.2.2) (c0 := S.2.2.2.1 0) (c1 := S.2.2.2.1 1) (c2 := S.2.2.2.1 2) (c3 := S.2.2.2.1 3) (c4 := S.2.2.2.1 4) (c5 := S.2.2.2.1 5) (t := M.2.2.2.1) (fs := S.2.2.2.2.2.2) (p0 := p0) hN hK (I.1 (ix 2 p0))
  unfold gL_turn gX_turn gM_turn
  rw [e1, e2]
  cases o with
  | inl z => exact ⟨_, rfl, _, rfl, ⟨dd_upm I.1 q.2.2.1, I.2.1, I.2.2.1, (ctk (c := S.2.2.2.1) (t := M.2.2.2.1) I.2.2.2 q.2.2.2 :)⟩⟩
  | inr E =>
    obtain ⟨q1, q2⟩ := q
    rcases q1 with ⟨rfl, h⟩ | ⟨hb, rfl, h⟩
    · exact ⟨_, wb_io, _, rfl, ⟨dd_same I.1 q2.1, I.2.1, I.2.2.1, cts I.2.2.2 q2.2⟩⟩
    · cases hb
theorem pj_toUnlike {N K : Nat} {S : CS} {M : MS} {p0 : Int32} {nv : Int64} (hN : NBig N) (hK : 100 ≤ K) (I : Iv S M) : Sf (gL_toUnlike N K S p0 nv) (fun z => Sf (gM_toUnlike N K M p0) (fun y => Iv z.2.1 y.2)) := by
  obtain ⟨o, y, e1, e2, q⟩ := ty_toUnlike (N := N) (K := K) (th := M.2.2.2.2.2) (c0 := S.2.2.2.1 0) (c1 := S.2.2.2.1 1) (c2 := S.2.2.2.1 2) (c3 := S.2.2.2.1 3) (c4 := S.2.2.2.1 4) (c5 := S.2.2.2.1 5) (t := M.2.2.2.1) (fs := S.2.2.2.2.2.2) (p0 := p0) hN hK (I.1 (ix 2 p0))
  unfold gL_toUnlike gX_toUnlike gM_toUnlike
  rw [e1, e2]
  cases o with
  | inl z => exact ⟨_, rfl, _, rfl, ⟨dd_upm I.1 q.2.2.1, I.2.1, I.2.2.1, (ctk (c := S.2.2.2.1) (t := M.2.2.2.1) I.2.2.2 q.2.2.2 :)⟩⟩
  | inr E =>
    obtain ⟨q1, q2⟩ := q
    rcases q1 with ⟨rfl, h⟩ | ⟨hb, rfl, h⟩
    · exact ⟨_, wb_io, _, rfl, ⟨dd_same I.1 q2.1, I.2.1, I.2.2.1, cts I.2.2.2 q2.2⟩⟩
    · cases hb
theorem pj_toOdd {N K : Nat} {S : CS} {M : MS} {p0 : Int32} {nv : Int64} (hN : NBig N) (hK : 100 ≤ K) (I : Iv S M) : Sf (gL_toOdd N K S p0 nv) (fun z => Sf (gM_toOdd N K M p0) (fun y => Iv z.2.1 y.2)) := by
  obtain ⟨o, y, e1, e2, q⟩ := ty_toOdd (N := N) (K := K) (th := M.2.2.2.2.2) (c0 := S.2.2.2.1 0) (c1 := S.2.2.2.1 1) (c2 := S.2.2.2.1 2) (c3 := S.2.2.2.1 3) (c4 := S.2.2.2.1 4) (c5 := S.2.2.2.1 5) (t := M.2.2.2.1) (fs := S.2.2.2.2.2.2) (p0 := p0) hN hK (I.1 (ix 2 p0))
  unfold gL_toOdd gX_toOdd gM_toOdd
  rw [e1, e2]
  cases o with
  | inl z => exact ⟨_, rfl, _, rfl, ⟨dd_upm I.1 q.2.2.1, I.2.1, I.2.2.1, (ctk (c := S.2.2.2.1) (t := M.2.2.2.1) I.2.2.2 q.2.2.2 :)⟩⟩
  | inr E =>
    obtain ⟨q1, q2⟩ := q
    rcases q1 with ⟨rfl, h⟩ | ⟨hb, rfl, h⟩
    · exact ⟨_, wb_io, _, rfl, ⟨dd_same I.1 q2.1, I.2.1, I.2.2.1, cts I.2.2.2 q2.2⟩⟩
    · cases hb
theorem pj_copyDesk {N K : Nat} {S : CS} {M : MS} {p0 : Int32} {nv : Int64} (hN : NBig N) (hK : 100 ≤ K) (I : Iv S M) : Sf (gL_copyDesk N K S p0 nv) (fun z => Sf (gM_copyDesk N K M p0) (fun y => Iv z.2.1 y.2)) := by
  obtain ⟨o, y, e1, e2, q⟩ := ty_copyDesk (N := N) (K := K) (th := M.2.2.2.2.2) (c0 := S.2.2.2.1 0) (c1 := S.2.2.2.1 1) (c2 := S.2.2.2.1 2) (c3 := S.2.2.2.1 3) (c4 := S.2.2.2.1 4) (c5 := S.2.2.2.1 5) (t := M.2.2.2.1) (f2 := S.2.2.1 (1 - ix 2 p0)) (g2 := M.2.2.1 (1 - ix 2 p0)) (p0 := p0) hN hK (I.1 (ix 2 p0))
  unfold gL_copyDesk gX_copyDesk gM_copyDesk
  rw [e1, e2]
  cases o with
  | inl z => exact ⟨_, rfl, _, rfl, ⟨dd_upm I.1 q.2.2.1, I.2.1, I.2.2.1, (ctk (c := S.2.2.2.1) (t := M.2.2.2.1) I.2.2.2 q.2.2.2 :)⟩⟩
  | inr E =>
    obtain ⟨q1, q2⟩ := q
    rcases q1 with ⟨rfl, h⟩ | ⟨hb, rfl, h⟩
    · exact ⟨_, wb_io, _, rfl, ⟨dd_same I.1 q2.1, I.2.1, I.2.2.1, cts I.2.2.2 q2.2⟩⟩
    · cases hb
theorem pj_isKept {N K : Nat} {S : CS} {M : MS} {p0 : Int32} {p1 : Int32} {p2 : Int32} {p3 : Int32} {p4 : Int32} {nv : Int64} (hN : NBig N) (hK : 100 ≤ K) (I : Iv S M) : Sf (gL_isKept N K S p0 p1 p2 p3 p4 nv) (fun z => Sf (gM_isKept N K M p0 p1 p2 p3 p4) (fun y => Iv z.2.1 y.2)) :=
  sMono (kL_isKept hN hK (Iv.x I)) (fun z q => sMono (kM_isKept hN hK (Iv.m I)) (fun y q2 => Iv.ask I q q2))
theorem pj_worthOr {N K : Nat} {S : CS} {M : MS} {p0 : Int32} {p1 : Int32} {p2 : Int32} {p3 : Int32} {p4 : Int32} {nv : Int64} (hN : NBig N) (hK : 100 ≤ K) (I : Iv S M) : Sf (gL_worthOr N K S p0 p1 p2 p3 p4 nv) (fun z => Sf (gM_worthOr N K M p0 p1 p2 p3 p4) (fun y => Iv z.2.1 y.2)) :=
  sMono (kL_worthOr hN hK (Iv.x I)) (fun z q => sMono (kM_worthOr hN hK (Iv.m I)) (fun y q2 => Iv.ask I q q2))
theorem pj_confirm {N K : Nat} {S : CS} {M : MS} {p0 : Int32} {p1 : Int32} {p2 : Int32} {p3 : Int32} {p4 : Int32} {nv : Int64} (hN : NBig N) (hK : 100 ≤ K) (I : Iv S M) : Sf (gL_confirm N K S p0 p1 p2 p3 p4 nv) (fun z => Sf (gM_confirm N K M p0 p1 p2 p3 p4) (fun y => Iv z.2.1 y.2)) :=
  sMono (kL_confirm hN hK (Iv.x I)) (fun z q => sMono (kM_confirm hN hK (Iv.m I)) (fun y q2 => Iv.ask I q q2))
theorem pj_about {N K : Nat} {S : CS} {M : MS} {p0 : Int32} {p1 : Int32} {nv : Int64} (hN : NBig N) (hK : 100 ≤ K) (I : Iv S M) : Sf (gL_about N K S p0 p1 nv) (fun z => Sf (gM_about N K M p0 p1) (fun y => Iv z.2.1 y.2)) :=
  sMono (kL_about hN hK (Iv.x I)) (fun z q => sMono (kM_about hN hK (Iv.m I)) (fun y q2 => Iv.ask I q q2))
theorem pj_has {N K : Nat} {S : CS} {M : MS} {p0 : Int32} {p1 : Int32} {nv : Int64} (hN : NBig N) (hK : 100 ≤ K) (I : Iv S M) : Sf (gL_has N K S p0 p1 nv) (fun z => Sf (gM_has N K M p0 p1) (fun y => Iv z.2.1 y.2)) :=
  sMono (kL_has hN hK (Iv.x I)) (fun z q => sMono (kM_has hN hK (Iv.m I)) (fun y q2 => Iv.ask I q q2))
theorem pj_count {N K : Nat} {S : CS} {M : MS} {p0 : Int32} {p1 : Int32} {p2 : Int32} {nv : Int64} (hN : NBig N) (hK : 100 ≤ K) (I : Iv S M) : Sf (gL_count N K S p0 p1 p2 nv) (fun z => Sf (gM_count N K M p0 p1 p2) (fun y => Iv z.2.1 y.2)) :=
  sMono (kL_count hN hK (Iv.x I)) (fun z q => sMono (kM_count hN hK (Iv.m I)) (fun y q2 => Iv.ask I q q2))
theorem pj_isSame {N K : Nat} {S : CS} {M : MS} {p0 : Int32} {p1 : Int32} {nv : Int64} (hN : NBig N) (hK : 100 ≤ K) (I : Iv S M) : Sf (gL_isSame N K S p0 p1 nv) (fun z => Sf (gM_isSame N K M p0 p1) (fun y => Iv z.2.1 y.2)) :=
  sMono (kL_isSame hN hK (Iv.x I)) (fun z q => sMono (kM_isSame hN hK (Iv.m I)) (fun y q2 => Iv.ask I q q2))
theorem pj_walk {N K : Nat} {S : CS} {M : MS} {p0 : Int32} {p1 : Int32} {p2 : Int32} {nv : Int64} (hN : NBig N) (hK : 100 ≤ K) (I : Iv S M) : Sf (gL_walk N K S p0 p1 p2 nv) (fun z => Sf (gM_walk N K M p0 p1 p2) (fun y => Iv z.2.1 y.2)) :=
  sMono (kL_walk hN hK (Iv.x I)) (fun z q => sMono (kM_walk hN hK (Iv.m I)) (fun y q2 => Iv.ask I q q2))
theorem pj_product {N K : Nat} {S : CS} {M : MS} {p0 : Int32} {p1 : Int32} {p2 : Int32} {nv : Int64} (hN : NBig N) (hK : 100 ≤ K) (I : Iv S M) : Sf (gL_product N K S p0 p1 p2 nv) (fun z => Sf (gM_product N K M p0 p1 p2) (fun y => Iv z.2.1 y.2)) :=
  sMono (kL_product hN hK (Iv.x I)) (fun z q => sMono (kM_product hN hK (Iv.m I)) (fun y q2 => Iv.ask I q q2))
theorem pj_ledger {N K : Nat} {S : CS} {M : MS} {p0 : Int32} {p1 : Int32} {nv : Int64} (hN : NBig N) (hK : 100 ≤ K) (I : Iv S M) : Sf (gL_ledger N K S p0 p1 nv) (fun z => Sf (gM_ledger N K M p0 p1) (fun y => Iv z.2.1 y.2)) :=
  sMono (kL_ledger hN hK (Iv.x I)) (fun z q => sMono (kM_ledger hN hK (Iv.m I)) (fun y q2 => Iv.ask I q q2))
theorem pj_ruleWorth {N K : Nat} {S : CS} {M : MS} {p0 : Int32} {p1 : Int32} {p2 : Int32} {nv : Int64} (hN : NBig N) (hK : 100 ≤ K) (I : Iv S M) : Sf (gL_ruleWorth N K S p0 p1 p2 nv) (fun z => Sf (gM_ruleWorth N K M p0 p1 p2) (fun y => Iv z.2.1 y.2)) :=
  sMono (kL_ruleWorth hN hK (Iv.x I)) (fun z q => sMono (kM_ruleWorth hN hK (Iv.m I)) (fun y q2 => Iv.ask I q q2))
theorem pj_times {N K : Nat} {S : CS} {M : MS} {p0 : Int32} {p1 : Int32} {nv : Int64} (hN : NBig N) (hK : 100 ≤ K) (I : Iv S M) : Sf (gL_times N K S p0 p1 nv) (fun z => Sf (gM_times N K M p0 p1) (fun y => Iv z.2.1 y.2)) :=
  sMono (kL_times hN hK (Iv.x I)) (fun z q => sMono (kM_times hN hK (Iv.m I)) (fun y q2 => Iv.ask I q q2))
theorem pj_way {N K : Nat} {S : CS} {M : MS} {p0 : Int32} {p1 : Int32} {nv : Int64} (hN : NBig N) (hK : 100 ≤ K) (I : Iv S M) : Sf (gL_way N K S p0 p1 nv) (fun z => Sf (gM_way N K M p0 p1) (fun y => Iv z.2.1 y.2)) :=
  sMono (kL_way hN hK (Iv.x I)) (fun z q => sMono (kM_way hN hK (Iv.m I)) (fun y q2 => Iv.ask I q q2))
theorem pj_wayText {N K : Nat} {S : CS} {M : MS} {p0 : Int32} {nv : Int64} (hN : NBig N) (hK : 100 ≤ K) (I : Iv S M) : Sf (gL_wayText N K S p0 nv) (fun z => Sf (gM_wayText N K M p0) (fun y => Iv z.2.1 y)) :=
  sMono (kL_wayText hN hK (Iv.x I)) (fun z q => sMono (kM_wayText hN hK (Iv.m I)) (fun y q2 => Iv.ask I q q2))
theorem pj_isOf {N K : Nat} {S : CS} {M : MS} {p0 : Int32} {p1 : Int32} {p2 : Int32} {nv : Int64} (hN : NBig N) (hK : 100 ≤ K) (I : Iv S M) : Sf (gL_isOf N K S p0 p1 p2 nv) (fun z => Sf (gM_isOf N K M p0 p1 p2) (fun y => Iv z.2.1 y.2)) :=
  sMono (kL_isOf hN hK (Iv.x I)) (fun z q => sMono (kM_isOf hN hK (Iv.m I)) (fun y q2 => Iv.ask I q q2))

theorem lc_0 {N K L : Nat} {xs : Nat → Int32} {k : Int32 → CS → MS → Int64 → Option Int32} {i : Int32} {S : CS} {M : MS} {nv : Int64} (hN : NBig N) (hK : 100 ≤ K) (I : Iv S M) (B : ixs L i) (hk : ∀ S' M' nv', Iv S' M' → Sf (k (i + (6 : Int32)) S' M' nv') (fun z => z = 1)) : Sf (flc_0 N K L xs k i S M nv) (fun z => z = 1) := by
  unfold flc_0
  exact (sIfF (B _ (by decide) (by decide)) (sIfF (B _ (by decide) (by decide)) (sIfF (B _ (by decide) (by decide)) (sIfF (B _ (by decide) (by decide)) (sBind (pj_know hN hK I) (fun z254 I1 => (sIfF (B _ (by decide) (by decide)) (sIfF (B _ (by decide) (by decide)) (sIfF (B _ (by decide) (by decide)) (sIfF (B _ (by decide) (by decide)) (sBind I1 (fun z284 I2 => (hk _ _ _ I2)))))))))))))
theorem lc_1 {N K L : Nat} {xs : Nat → Int32} {k : Int32 → CS → MS → Int64 → Option Int32} {i : Int32} {S : CS} {M : MS} {nv : Int64} (hN : NBig N) (hK : 100 ≤ K) (I : Iv S M) (B : ixs L i) (hk : ∀ S' M' nv', Iv S' M' → Sf (k (i + (6 : Int32)) S' M' nv') (fun z => z = 1)) : Sf (flc_1 N K L xs k i S M nv) (fun z => z = 1) := by
  unfold flc_1
  exact (sIfF (B _ (by decide) (by decide)) (sIfF (B _ (by decide) (by decide)) (sIfF (B _ (by decide) (by decide)) (sBind (pj_few hN hK I) (fun z312 I1 => (sIfF (B _ (by decide) (by decide)) (sIfF (B _ (by decide) (by decide)) (sIfF (B _ (by decide) (by decide)) (sBind I1 (fun z336 I2 => (hk _ _ _ I2)))))))))))
theorem lc_2 {N K L : Nat} {xs : Nat → Int32} {k : Int32 → CS → MS → Int64 → Option Int32} {i : Int32} {S : CS} {M : MS} {nv : Int64} (hN : NBig N) (hK : 100 ≤ K) (I : Iv S M) (B : ixs L i) (hk : ∀ S' M' nv', Iv S' M' → Sf (k (i + (6 : Int32)) S' M' nv') (fun z => z = 1)) : Sf (flc_2 N K L xs k i S M nv) (fun z => z = 1) := by
  unfold flc_2
  exact (sIfF (B _ (by decide) (by decide)) (sIfF (B _ (by decide) (by decide)) (sBind (pj_surplus hN hK I) (fun z358 I1 => (sIfF (B _ (by decide) (by decide)) (sIfF (B _ (by decide) (by decide)) (sBind I1 (fun z376 I2 => (hk _ _ _ I2)))))))))
theorem lc_3 {N K L : Nat} {xs : Nat → Int32} {k : Int32 → CS → MS → Int64 → Option Int32} {i : Int32} {S : CS} {M : MS} {nv : Int64} (hN : NBig N) (hK : 100 ≤ K) (I : Iv S M) (B : ixs L i) (hk : ∀ S' M' nv', Iv S' M' → Sf (k (i + (6 : Int32)) S' M' nv') (fun z => z = 1)) : Sf (flc_3 N K L xs k i S M nv) (fun z => z = 1) := by
  unfold flc_3
  exact (sIfF (B _ (by decide) (by decide)) (sIfF (B _ (by decide) (by decide)) (sBind (pj_place hN hK I) (fun z398 I1 => (sIfF (B _ (by decide) (by decide)) (sIfF (B _ (by decide) (by decide)) (sBind I1 (fun z416 I2 => (hk _ _ _ I2)))))))))
theorem lc_4 {N K L : Nat} {xs : Nat → Int32} {k : Int32 → CS → MS → Int64 → Option Int32} {i : Int32} {S : CS} {M : MS} {nv : Int64} (hN : NBig N) (hK : 100 ≤ K) (I : Iv S M) (B : ixs L i) (hk : ∀ S' M' nv', Iv S' M' → Sf (k (i + (6 : Int32)) S' M' nv') (fun z => z = 1)) : Sf (flc_4 N K L xs k i S M nv) (fun z => z = 1) := by
  unfold flc_4
  exact (sIfF (B _ (by decide) (by decide)) (sIfF (B _ (by decide) (by decide)) (sIfF (B _ (by decide) (by decide)) (sIfF (B _ (by decide) (by decide)) (sBind (pj_learn hN hK I) (fun z450 I1 => (sIfF (B _ (by decide) (by decide)) (sIfF (B _ (by decide) (by decide)) (sIfF (B _ (by decide) (by decide)) (sIfF (B _ (by decide) (by decide)) (sBind I1 (fun z480 I2 => (hk _ _ _ I2)))))))))))))
theorem lc_5 {N K L : Nat} {xs : Nat → Int32} {k : Int32 → CS → MS → Int64 → Option Int32} {i : Int32} {S : CS} {M : MS} {nv : Int64} (hN : NBig N) (hK : 100 ≤ K) (I : Iv S M) (B : ixs L i) (hk : ∀ S' M' nv', Iv S' M' → Sf (k (i + (6 : Int32)) S' M' nv') (fun z => z = 1)) : Sf (flc_5 N K L xs k i S M nv) (fun z => z = 1) := by
  unfold flc_5
  exact (sIfF (B _ (by decide) (by decide)) (sIfF (B _ (by decide) (by decide)) (sIfF (B _ (by decide) (by decide)) (sIfF (B _ (by decide) (by decide)) (sBind (pj_relearn hN hK I) (fun z514 I1 => (sIfF (B _ (by decide) (by decide)) (sIfF (B _ (by decide) (by decide)) (sIfF (B _ (by decide) (by decide)) (sIfF (B _ (by decide) (by decide)) (sBind I1 (fun z544 I2 => (hk _ _ _ I2)))))))))))))
theorem lc_6 {N K L : Nat} {xs : Nat → Int32} {k : Int32 → CS → MS → Int64 → Option Int32} {i : Int32} {S : CS} {M : MS} {nv : Int64} (hN : NBig N) (hK : 100 ≤ K) (I : Iv S M) (B : ixs L i) (hk : ∀ S' M' nv', Iv S' M' → Sf (k (i + (6 : Int32)) S' M' nv') (fun z => z = 1)) : Sf (flc_6 N K L xs k i S M nv) (fun z => z = 1) := by
  unfold flc_6
  exact (sIfF (B _ (by decide) (by decide)) (sIfF (B _ (by decide) (by decide)) (sIfF (B _ (by decide) (by decide)) (sIfF (B _ (by decide) (by decide)) (sBind (pj_forget hN hK I) (fun z578 I1 => (sIfF (B _ (by decide) (by decide)) (sIfF (B _ (by decide) (by decide)) (sIfF (B _ (by decide) (by decide)) (sIfF (B _ (by decide) (by decide)) (sBind I1 (fun z608 I2 => (hk _ _ _ I2)))))))))))))
theorem lc_7 {N K L : Nat} {xs : Nat → Int32} {k : Int32 → CS → MS → Int64 → Option Int32} {i : Int32} {S : CS} {M : MS} {nv : Int64} (hN : NBig N) (hK : 100 ≤ K) (I : Iv S M) (B : ixs L i) (hk : ∀ S' M' nv', Iv S' M' → Sf (k (i + (6 : Int32)) S' M' nv') (fun z => z = 1)) : Sf (flc_7 N K L xs k i S M nv) (fun z => z = 1) := by
  unfold flc_7
  exact (sIfF (B _ (by decide) (by decide)) (sIfF (B _ (by decide) (by decide)) (sIfF (B _ (by decide) (by decide)) (sIfF (B _ (by decide) (by decide)) (sIfF (B _ (by decide) (by decide)) (sBind (pj_forgetIf hN hK I) (fun z648 I1 => (sIfF (B _ (by decide) (by decide)) (sIfF (B _ (by decide) (by decide)) (sIfF (B _ (by decide) (by decide)) (sIfF (B _ (by decide) (by decide)) (sIfF (B _ (by decide) (by decide)) (sBind I1 (fun z684 I2 => (hk _ _ _ I2)))))))))))))))
theorem lc_8 {N K L : Nat} {xs : Nat → Int32} {k : Int32 → CS → MS → Int64 → Option Int32} {i : Int32} {S : CS} {M : MS} {nv : Int64} (hN : NBig N) (hK : 100 ≤ K) (I : Iv S M) (B : ixs L i) (hk : ∀ S' M' nv', Iv S' M' → Sf (k (i + (6 : Int32)) S' M' nv') (fun z => z = 1)) : Sf (flc_8 N K L xs k i S M nv) (fun z => z = 1) := by
  unfold flc_8
  exact (sIfF (B _ (by decide) (by decide)) (sIfF (B _ (by decide) (by decide)) (sIfF (B _ (by decide) (by decide)) (sBind (pj_forgetAll hN hK I) (fun z712 I1 => (sIfF (B _ (by decide) (by decide)) (sIfF (B _ (by decide) (by decide)) (sIfF (B _ (by decide) (by decide)) (sBind I1 (fun z736 I2 => (hk _ _ _ I2)))))))))))
theorem lc_9 {N K L : Nat} {xs : Nat → Int32} {k : Int32 → CS → MS → Int64 → Option Int32} {i : Int32} {S : CS} {M : MS} {nv : Int64} (hN : NBig N) (hK : 100 ≤ K) (I : Iv S M) (B : ixs L i) (hk : ∀ S' M' nv', Iv S' M' → Sf (k (i + (6 : Int32)) S' M' nv') (fun z => z = 1)) : Sf (flc_9 N K L xs k i S M nv) (fun z => z = 1) := by
  unfold flc_9
  exact (sIfF (B _ (by decide) (by decide)) (sBind (pj_clear hN hK I) (fun z752 I1 => (sIfF (B _ (by decide) (by decide)) (sBind I1 (fun z764 I2 => (hk _ _ _ I2)))))))
theorem lc_10 {N K L : Nat} {xs : Nat → Int32} {k : Int32 → CS → MS → Int64 → Option Int32} {i : Int32} {S : CS} {M : MS} {nv : Int64} (hN : NBig N) (hK : 100 ≤ K) (I : Iv S M) (B : ixs L i) (hk : ∀ S' M' nv', Iv S' M' → Sf (k (i + (6 : Int32)) S' M' nv') (fun z => z = 1)) : Sf (flc_10 N K L xs k i S M nv) (fun z => z = 1) := by
  unfold flc_10
  exact (sIfF (B _ (by decide) (by decide)) (sIfF (B _ (by decide) (by decide)) (sBind (pj_copy hN hK I) (fun z786 I1 => (sIfF (B _ (by decide) (by decide)) (sIfF (B _ (by decide) (by decide)) (sBind I1 (fun z804 I2 => (hk _ _ _ I2)))))))))
theorem lc_11 {N K L : Nat} {xs : Nat → Int32} {k : Int32 → CS → MS → Int64 → Option Int32} {i : Int32} {S : CS} {M : MS} {nv : Int64} (hN : NBig N) (hK : 100 ≤ K) (I : Iv S M) (B : ixs L i) (hk : ∀ S' M' nv', Iv S' M' → Sf (k (i + (6 : Int32)) S' M' nv') (fun z => z = 1)) : Sf (flc_11 N K L xs k i S M nv) (fun z => z = 1) := by
  unfold flc_11
  exact (sIfF (B _ (by decide) (by decide)) (sIfF (B _ (by decide) (by decide)) (sBind (pj_pour hN hK I) (fun z826 I1 => (sIfF (B _ (by decide) (by decide)) (sIfF (B _ (by decide) (by decide)) (sBind I1 (fun z844 I2 => (hk _ _ _ I2)))))))))
theorem lc_12 {N K L : Nat} {xs : Nat → Int32} {k : Int32 → CS → MS → Int64 → Option Int32} {i : Int32} {S : CS} {M : MS} {nv : Int64} (hN : NBig N) (hK : 100 ≤ K) (I : Iv S M) (B : ixs L i) (hk : ∀ S' M' nv', Iv S' M' → Sf (k (i + (6 : Int32)) S' M' nv') (fun z => z = 1)) : Sf (flc_12 N K L xs k i S M nv) (fun z => z = 1) := by
  unfold flc_12
  exact (sIfF (B _ (by decide) (by decide)) (sIfF (B _ (by decide) (by decide)) (sIfF (B _ (by decide) (by decide)) (sIfF (B _ (by decide) (by decide)) (sIfF (B _ (by decide) (by decide)) (sBind (pj_isKept hN hK I) (fun z884 I1 => (sIfF (B _ (by decide) (by decide)) (sIfF (B _ (by decide) (by decide)) (sIfF (B _ (by decide) (by decide)) (sIfF (B _ (by decide) (by decide)) (sIfF (B _ (by decide) (by decide)) (sBind I1 (fun z920 I2 => (hk _ _ _ I2)))))))))))))))
theorem lc_13 {N K L : Nat} {xs : Nat → Int32} {k : Int32 → CS → MS → Int64 → Option Int32} {i : Int32} {S : CS} {M : MS} {nv : Int64} (hN : NBig N) (hK : 100 ≤ K) (I : Iv S M) (B : ixs L i) (hk : ∀ S' M' nv', Iv S' M' → Sf (k (i + (6 : Int32)) S' M' nv') (fun z => z = 1)) : Sf (flc_13 N K L xs k i S M nv) (fun z => z = 1) := by
  unfold flc_13
  exact (sIfF (B _ (by decide) (by decide)) (sIfF (B _ (by decide) (by decide)) (sIfF (B _ (by decide) (by decide)) (sIfF (B _ (by decide) (by decide)) (sIfF (B _ (by decide) (by decide)) (sBind (pj_worthOr hN hK I) (fun z960 I1 => (sIfF (B _ (by decide) (by decide)) (sIfF (B _ (by decide) (by decide)) (sIfF (B _ (by decide) (by decide)) (sIfF (B _ (by decide) (by decide)) (sIfF (B _ (by decide) (by decide)) (sBind I1 (fun z996 I2 => (hk _ _ _ I2)))))))))))))))
theorem lc_14 {N K L : Nat} {xs : Nat → Int32} {k : Int32 → CS → MS → Int64 → Option Int32} {i : Int32} {S : CS} {M : MS} {nv : Int64} (hN : NBig N) (hK : 100 ≤ K) (I : Iv S M) (B : ixs L i) (hk : ∀ S' M' nv', Iv S' M' → Sf (k (i + (6 : Int32)) S' M' nv') (fun z => z = 1)) : Sf (flc_14 N K L xs k i S M nv) (fun z => z = 1) := by
  unfold flc_14
  exact (sIfF (B _ (by decide) (by decide)) (sIfF (B _ (by decide) (by decide)) (sIfF (B _ (by decide) (by decide)) (sIfF (B _ (by decide) (by decide)) (sIfF (B _ (by decide) (by decide)) (sBind (pj_confirm hN hK I) (fun z1036 I1 => (sIfF (B _ (by decide) (by decide)) (sIfF (B _ (by decide) (by decide)) (sIfF (B _ (by decide) (by decide)) (sIfF (B _ (by decide) (by decide)) (sIfF (B _ (by decide) (by decide)) (sBind I1 (fun z1072 I2 => (hk _ _ _ I2)))))))))))))))
theorem lc_15 {N K L : Nat} {xs : Nat → Int32} {k : Int32 → CS → MS → Int64 → Option Int32} {i : Int32} {S : CS} {M : MS} {nv : Int64} (hN : NBig N) (hK : 100 ≤ K) (I : Iv S M) (B : ixs L i) (hk : ∀ S' M' nv', Iv S' M' → Sf (k (i + (6 : Int32)) S' M' nv') (fun z => z = 1)) : Sf (flc_15 N K L xs k i S M nv) (fun z => z = 1) := by
  unfold flc_15
  exact (sIfF (B _ (by decide) (by decide)) (sIfF (B _ (by decide) (by decide)) (sBind (pj_about hN hK I) (fun z1094 I1 => (sIfF (B _ (by decide) (by decide)) (sIfF (B _ (by decide) (by decide)) (sBind I1 (fun z1112 I2 => (hk _ _ _ I2)))))))))
theorem lc_16 {N K L : Nat} {xs : Nat → Int32} {k : Int32 → CS → MS → Int64 → Option Int32} {i : Int32} {S : CS} {M : MS} {nv : Int64} (hN : NBig N) (hK : 100 ≤ K) (I : Iv S M) (B : ixs L i) (hk : ∀ S' M' nv', Iv S' M' → Sf (k (i + (6 : Int32)) S' M' nv') (fun z => z = 1)) : Sf (flc_16 N K L xs k i S M nv) (fun z => z = 1) := by
  unfold flc_16
  exact (sIfF (B _ (by decide) (by decide)) (sIfF (B _ (by decide) (by decide)) (sBind (pj_has hN hK I) (fun z1134 I1 => (sIfF (B _ (by decide) (by decide)) (sIfF (B _ (by decide) (by decide)) (sBind I1 (fun z1152 I2 => (hk _ _ _ I2)))))))))
theorem lc_17 {N K L : Nat} {xs : Nat → Int32} {k : Int32 → CS → MS → Int64 → Option Int32} {i : Int32} {S : CS} {M : MS} {nv : Int64} (hN : NBig N) (hK : 100 ≤ K) (I : Iv S M) (B : ixs L i) (hk : ∀ S' M' nv', Iv S' M' → Sf (k (i + (6 : Int32)) S' M' nv') (fun z => z = 1)) : Sf (flc_17 N K L xs k i S M nv) (fun z => z = 1) := by
  unfold flc_17
  exact (sIfF (B _ (by decide) (by decide)) (sIfF (B _ (by decide) (by decide)) (sIfF (B _ (by decide) (by decide)) (sBind (pj_count hN hK I) (fun z1180 I1 => (sIfF (B _ (by decide) (by decide)) (sIfF (B _ (by decide) (by decide)) (sIfF (B _ (by decide) (by decide)) (sBind I1 (fun z1204 I2 => (hk _ _ _ I2)))))))))))
theorem lc_18 {N K L : Nat} {xs : Nat → Int32} {k : Int32 → CS → MS → Int64 → Option Int32} {i : Int32} {S : CS} {M : MS} {nv : Int64} (hN : NBig N) (hK : 100 ≤ K) (I : Iv S M) (B : ixs L i) (hk : ∀ S' M' nv', Iv S' M' → Sf (k (i + (6 : Int32)) S' M' nv') (fun z => z = 1)) : Sf (flc_18 N K L xs k i S M nv) (fun z => z = 1) := by
  unfold flc_18
  exact (sIfF (B _ (by decide) (by decide)) (sIfF (B _ (by decide) (by decide)) (sBind (pj_isSame hN hK I) (fun z1226 I1 => (sIfF (B _ (by decide) (by decide)) (sIfF (B _ (by decide) (by decide)) (sBind I1 (fun z1244 I2 => (hk _ _ _ I2)))))))))
theorem lc_19 {N K L : Nat} {xs : Nat → Int32} {k : Int32 → CS → MS → Int64 → Option Int32} {i : Int32} {S : CS} {M : MS} {nv : Int64} (hN : NBig N) (hK : 100 ≤ K) (I : Iv S M) (B : ixs L i) (hk : ∀ S' M' nv', Iv S' M' → Sf (k (i + (6 : Int32)) S' M' nv') (fun z => z = 1)) : Sf (flc_19 N K L xs k i S M nv) (fun z => z = 1) := by
  unfold flc_19
  exact (sIfF (B _ (by decide) (by decide)) (sIfF (B _ (by decide) (by decide)) (sIfF (B _ (by decide) (by decide)) (sBind (pj_walk hN hK I) (fun z1272 I1 => (sIfF (B _ (by decide) (by decide)) (sIfF (B _ (by decide) (by decide)) (sIfF (B _ (by decide) (by decide)) (sBind I1 (fun z1296 I2 => (hk _ _ _ I2)))))))))))
theorem lc_20 {N K L : Nat} {xs : Nat → Int32} {k : Int32 → CS → MS → Int64 → Option Int32} {i : Int32} {S : CS} {M : MS} {nv : Int64} (hN : NBig N) (hK : 100 ≤ K) (I : Iv S M) (B : ixs L i) (hk : ∀ S' M' nv', Iv S' M' → Sf (k (i + (6 : Int32)) S' M' nv') (fun z => z = 1)) : Sf (flc_20 N K L xs k i S M nv) (fun z => z = 1) := by
  unfold flc_20
  exact (sIfF (B _ (by decide) (by decide)) (sIfF (B _ (by decide) (by decide)) (sIfF (B _ (by decide) (by decide)) (sBind (pj_product hN hK I) (fun z1324 I1 => (sIfF (B _ (by decide) (by decide)) (sIfF (B _ (by decide) (by decide)) (sIfF (B _ (by decide) (by decide)) (sBind I1 (fun z1348 I2 => (hk _ _ _ I2)))))))))))
theorem lc_21 {N K L : Nat} {xs : Nat → Int32} {k : Int32 → CS → MS → Int64 → Option Int32} {i : Int32} {S : CS} {M : MS} {nv : Int64} (hN : NBig N) (hK : 100 ≤ K) (I : Iv S M) (B : ixs L i) (hk : ∀ S' M' nv', Iv S' M' → Sf (k (i + (6 : Int32)) S' M' nv') (fun z => z = 1)) : Sf (flc_21 N K L xs k i S M nv) (fun z => z = 1) := by
  unfold flc_21
  exact (sIfF (B _ (by decide) (by decide)) (sIfF (B _ (by decide) (by decide)) (sBind (pj_rule hN hK I) (fun z1370 I1 => (sIfF (B _ (by decide) (by decide)) (sIfF (B _ (by decide) (by decide)) (sBind I1 (fun z1388 I2 => (hk _ _ _ I2)))))))))
theorem lc_22 {N K L : Nat} {xs : Nat → Int32} {k : Int32 → CS → MS → Int64 → Option Int32} {i : Int32} {S : CS} {M : MS} {nv : Int64} (hN : NBig N) (hK : 100 ≤ K) (I : Iv S M) (B : ixs L i) (hk : ∀ S' M' nv', Iv S' M' → Sf (k (i + (6 : Int32)) S' M' nv') (fun z => z = 1)) : Sf (flc_22 N K L xs k i S M nv) (fun z => z = 1) := by
  unfold flc_22
  exact (sIfF (B _ (by decide) (by decide)) (sIfF (B _ (by decide) (by decide)) (sBind (pj_forgetRule hN hK I) (fun z1410 I1 => (sIfF (B _ (by decide) (by decide)) (sIfF (B _ (by decide) (by decide)) (sBind I1 (fun z1428 I2 => (hk _ _ _ I2)))))))))
theorem lc_23 {N K L : Nat} {xs : Nat → Int32} {k : Int32 → CS → MS → Int64 → Option Int32} {i : Int32} {S : CS} {M : MS} {nv : Int64} (hN : NBig N) (hK : 100 ≤ K) (I : Iv S M) (B : ixs L i) (hk : ∀ S' M' nv', Iv S' M' → Sf (k (i + (6 : Int32)) S' M' nv') (fun z => z = 1)) : Sf (flc_23 N K L xs k i S M nv) (fun z => z = 1) := by
  unfold flc_23
  exact (sIfF (B _ (by decide) (by decide)) (sIfF (B _ (by decide) (by decide)) (sBind (pj_ledger hN hK I) (fun z1450 I1 => (sIfF (B _ (by decide) (by decide)) (sIfF (B _ (by decide) (by decide)) (sBind I1 (fun z1468 I2 => (hk _ _ _ I2)))))))))
theorem lc_24 {N K L : Nat} {xs : Nat → Int32} {k : Int32 → CS → MS → Int64 → Option Int32} {i : Int32} {S : CS} {M : MS} {nv : Int64} (hN : NBig N) (hK : 100 ≤ K) (I : Iv S M) (B : ixs L i) (hk : ∀ S' M' nv', Iv S' M' → Sf (k (i + (6 : Int32)) S' M' nv') (fun z => z = 1)) : Sf (flc_24 N K L xs k i S M nv) (fun z => z = 1) := by
  unfold flc_24
  exact (sIfF (B _ (by decide) (by decide)) (sIfF (B _ (by decide) (by decide)) (sIfF (B _ (by decide) (by decide)) (sBind (pj_ruleWorth hN hK I) (fun z1496 I1 => (sIfF (B _ (by decide) (by decide)) (sIfF (B _ (by decide) (by decide)) (sIfF (B _ (by decide) (by decide)) (sBind I1 (fun z1520 I2 => (hk _ _ _ I2)))))))))))
theorem lc_25 {N K L : Nat} {xs : Nat → Int32} {k : Int32 → CS → MS → Int64 → Option Int32} {i : Int32} {S : CS} {M : MS} {nv : Int64} (hN : NBig N) (hK : 100 ≤ K) (I : Iv S M) (B : ixs L i) (hk : ∀ S' M' nv', Iv S' M' → Sf (k (i + (6 : Int32)) S' M' nv') (fun z => z = 1)) : Sf (flc_25 N K L xs k i S M nv) (fun z => z = 1) := by
  unfold flc_25
  exact (sIfF (B _ (by decide) (by decide)) (sIfF (B _ (by decide) (by decide)) (sIfF (B _ (by decide) (by decide)) (sBind (pj_addPart hN hK I) (fun z1548 I1 => (sIfF (B _ (by decide) (by decide)) (sIfF (B _ (by decide) (by decide)) (sIfF (B _ (by decide) (by decide)) (sBind I1 (fun z1572 I2 => (hk _ _ _ I2)))))))))))
theorem lc_26 {N K L : Nat} {xs : Nat → Int32} {k : Int32 → CS → MS → Int64 → Option Int32} {i : Int32} {S : CS} {M : MS} {nv : Int64} (hN : NBig N) (hK : 100 ≤ K) (I : Iv S M) (B : ixs L i) (hk : ∀ S' M' nv', Iv S' M' → Sf (k (i + (6 : Int32)) S' M' nv') (fun z => z = 1)) : Sf (flc_26 N K L xs k i S M nv) (fun z => z = 1) := by
  unfold flc_26
  exact (sIfF (B _ (by decide) (by decide)) (sIfF (B _ (by decide) (by decide)) (sBind (pj_takePart hN hK I) (fun z1594 I1 => (sIfF (B _ (by decide) (by decide)) (sIfF (B _ (by decide) (by decide)) (sBind I1 (fun z1612 I2 => (hk _ _ _ I2)))))))))
theorem lc_27 {N K L : Nat} {xs : Nat → Int32} {k : Int32 → CS → MS → Int64 → Option Int32} {i : Int32} {S : CS} {M : MS} {nv : Int64} (hN : NBig N) (hK : 100 ≤ K) (I : Iv S M) (B : ixs L i) (hk : ∀ S' M' nv', Iv S' M' → Sf (k (i + (6 : Int32)) S' M' nv') (fun z => z = 1)) : Sf (flc_27 N K L xs k i S M nv) (fun z => z = 1) := by
  unfold flc_27
  exact (sIfF (B _ (by decide) (by decide)) (sIfF (B _ (by decide) (by decide)) (sBind (pj_layFirst hN hK I) (fun z1634 I1 => (sIfF (B _ (by decide) (by decide)) (sIfF (B _ (by decide) (by decide)) (sBind I1 (fun z1652 I2 => (hk _ _ _ I2)))))))))
theorem lc_28 {N K L : Nat} {xs : Nat → Int32} {k : Int32 → CS → MS → Int64 → Option Int32} {i : Int32} {S : CS} {M : MS} {nv : Int64} (hN : NBig N) (hK : 100 ≤ K) (I : Iv S M) (B : ixs L i) (hk : ∀ S' M' nv', Iv S' M' → Sf (k (i + (6 : Int32)) S' M' nv') (fun z => z = 1)) : Sf (flc_28 N K L xs k i S M nv) (fun z => z = 1) := by
  unfold flc_28
  exact (sIfF (B _ (by decide) (by decide)) (sBind (pj_next hN hK I) (fun z1668 I1 => (sIfF (B _ (by decide) (by decide)) (sBind I1 (fun z1680 I2 => (hk _ _ _ I2)))))))
theorem lc_29 {N K L : Nat} {xs : Nat → Int32} {k : Int32 → CS → MS → Int64 → Option Int32} {i : Int32} {S : CS} {M : MS} {nv : Int64} (hN : NBig N) (hK : 100 ≤ K) (I : Iv S M) (B : ixs L i) (hk : ∀ S' M' nv', Iv S' M' → Sf (k (i + (6 : Int32)) S' M' nv') (fun z => z = 1)) : Sf (flc_29 N K L xs k i S M nv) (fun z => z = 1) := by
  unfold flc_29
  exact (sIfF (B _ (by decide) (by decide)) (sBind (pj_turn hN hK I) (fun z1696 I1 => (sIfF (B _ (by decide) (by decide)) (sBind I1 (fun z1708 I2 => (hk _ _ _ I2)))))))
theorem lc_30 {N K L : Nat} {xs : Nat → Int32} {k : Int32 → CS → MS → Int64 → Option Int32} {i : Int32} {S : CS} {M : MS} {nv : Int64} (hN : NBig N) (hK : 100 ≤ K) (I : Iv S M) (B : ixs L i) (hk : ∀ S' M' nv', Iv S' M' → Sf (k (i + (6 : Int32)) S' M' nv') (fun z => z = 1)) : Sf (flc_30 N K L xs k i S M nv) (fun z => z = 1) := by
  unfold flc_30
  exact (sIfF (B _ (by decide) (by decide)) (sBind (pj_toUnlike hN hK I) (fun z1724 I1 => (sIfF (B _ (by decide) (by decide)) (sBind I1 (fun z1736 I2 => (hk _ _ _ I2)))))))
theorem lc_31 {N K L : Nat} {xs : Nat → Int32} {k : Int32 → CS → MS → Int64 → Option Int32} {i : Int32} {S : CS} {M : MS} {nv : Int64} (hN : NBig N) (hK : 100 ≤ K) (I : Iv S M) (B : ixs L i) (hk : ∀ S' M' nv', Iv S' M' → Sf (k (i + (6 : Int32)) S' M' nv') (fun z => z = 1)) : Sf (flc_31 N K L xs k i S M nv) (fun z => z = 1) := by
  unfold flc_31
  exact (sIfF (B _ (by decide) (by decide)) (sBind (pj_toOdd hN hK I) (fun z1752 I1 => (sIfF (B _ (by decide) (by decide)) (sBind I1 (fun z1764 I2 => (hk _ _ _ I2)))))))
theorem lc_32 {N K L : Nat} {xs : Nat → Int32} {k : Int32 → CS → MS → Int64 → Option Int32} {i : Int32} {S : CS} {M : MS} {nv : Int64} (hN : NBig N) (hK : 100 ≤ K) (I : Iv S M) (B : ixs L i) (hk : ∀ S' M' nv', Iv S' M' → Sf (k (i + (6 : Int32)) S' M' nv') (fun z => z = 1)) : Sf (flc_32 N K L xs k i S M nv) (fun z => z = 1) := by
  unfold flc_32
  exact (sIfF (B _ (by decide) (by decide)) (sBind (pj_copyDesk hN hK I) (fun z1780 I1 => (sIfF (B _ (by decide) (by decide)) (sBind I1 (fun z1792 I2 => (hk _ _ _ I2)))))))
theorem lc_33 {N K L : Nat} {xs : Nat → Int32} {k : Int32 → CS → MS → Int64 → Option Int32} {i : Int32} {S : CS} {M : MS} {nv : Int64} (hN : NBig N) (hK : 100 ≤ K) (I : Iv S M) (B : ixs L i) (hk : ∀ S' M' nv', Iv S' M' → Sf (k (i + (6 : Int32)) S' M' nv') (fun z => z = 1)) : Sf (flc_33 N K L xs k i S M nv) (fun z => z = 1) := by
  unfold flc_33
  exact (sIfF (B _ (by decide) (by decide)) (sIfF (B _ (by decide) (by decide)) (sBind (pj_times hN hK I) (fun z1814 I1 => (sIfF (B _ (by decide) (by decide)) (sIfF (B _ (by decide) (by decide)) (sBind I1 (fun z1832 I2 => (hk _ _ _ I2)))))))))
theorem lc_34 {N K L : Nat} {xs : Nat → Int32} {k : Int32 → CS → MS → Int64 → Option Int32} {i : Int32} {S : CS} {M : MS} {nv : Int64} (hN : NBig N) (hK : 100 ≤ K) (I : Iv S M) (B : ixs L i) (hk : ∀ S' M' nv', Iv S' M' → Sf (k (i + (6 : Int32)) S' M' nv') (fun z => z = 1)) : Sf (flc_34 N K L xs k i S M nv) (fun z => z = 1) := by
  unfold flc_34
  exact (sIfF (B _ (by decide) (by decide)) (sIfF (B _ (by decide) (by decide)) (sBind (pj_way hN hK I) (fun z1854 I1 => (sIfF (B _ (by decide) (by decide)) (sIfF (B _ (by decide) (by decide)) (sBind I1 (fun z1872 I2 => (hk _ _ _ I2)))))))))
theorem lc_35 {N K L : Nat} {xs : Nat → Int32} {k : Int32 → CS → MS → Int64 → Option Int32} {i : Int32} {S : CS} {M : MS} {nv : Int64} (hN : NBig N) (hK : 100 ≤ K) (I : Iv S M) (B : ixs L i) (hk : ∀ S' M' nv', Iv S' M' → Sf (k (i + (6 : Int32)) S' M' nv') (fun z => z = 1)) : Sf (flc_35 N K L xs k i S M nv) (fun z => z = 1) := by
  unfold flc_35
  exact (sIfF (B _ (by decide) (by decide)) (sBind (pj_wayText hN hK I) (fun z1888 I1 => (sIfF (B _ (by decide) (by decide)) (sBind I1 (fun z1900 I2 => (hk _ _ _ I2)))))))
theorem lc_36 {N K L : Nat} {xs : Nat → Int32} {k : Int32 → CS → MS → Int64 → Option Int32} {i : Int32} {S : CS} {M : MS} {nv : Int64} (hN : NBig N) (hK : 100 ≤ K) (I : Iv S M) (B : ixs L i) (hk : ∀ S' M' nv', Iv S' M' → Sf (k (i + (6 : Int32)) S' M' nv') (fun z => z = 1)) : Sf (flc_36 N K L xs k i S M nv) (fun z => z = 1) := by
  unfold flc_36
  exact (sIfF (B _ (by decide) (by decide)) (sIfF (B _ (by decide) (by decide)) (sIfF (B _ (by decide) (by decide)) (sBind (pj_isOf hN hK I) (fun z1928 I1 => (sIfF (B _ (by decide) (by decide)) (sIfF (B _ (by decide) (by decide)) (sIfF (B _ (by decide) (by decide)) (sBind I1 (fun z1952 I2 => (hk _ _ _ I2)))))))))))
theorem lc_37 {N K L : Nat} {xs : Nat → Int32} {k : Int32 → CS → MS → Int64 → Option Int32} {i : Int32} {S : CS} {M : MS} {nv : Int64} (hN : NBig N) (hK : 100 ≤ K) (I : Iv S M) (B : ixs L i) (hk : ∀ S' M' nv', Iv S' M' → Sf (k (i + (6 : Int32)) S' M' nv') (fun z => z = 1)) : Sf (flc_37 N K L xs k i S M nv) (fun z => z = 1) := by
  unfold flc_37
  exact (sBind (pj_isSameWay hN hK I) (fun z1961 I1 => (sBind I1 (fun z1966 I2 => (hk _ _ _ I2)))))
theorem lc_38 {N K L : Nat} {xs : Nat → Int32} {k : Int32 → CS → MS → Int64 → Option Int32} {i : Int32} {S : CS} {M : MS} {nv : Int64} (hN : NBig N) (hK : 100 ≤ K) (I : Iv S M) (B : ixs L i) (hk : ∀ S' M' nv', Iv S' M' → Sf (k (i + (6 : Int32)) S' M' nv') (fun z => z = 1)) : Sf (flc_38 N K L xs k i S M nv) (fun z => z = 1) := by
  unfold flc_38
  exact (sIfF (B _ (by decide) (by decide)) (sBind (pj_tally hN hK I) (fun z1981 I1 => (sIfF (B _ (by decide) (by decide)) (sBind I1 (fun z1993 I2 => (hk _ _ _ I2)))))))
theorem lc_39 {N K L : Nat} {xs : Nat → Int32} {k : Int32 → CS → MS → Int64 → Option Int32} {i : Int32} {S : CS} {M : MS} {nv : Int64} (hN : NBig N) (hK : 100 ≤ K) (I : Iv S M) (B : ixs L i) (hk : ∀ S' M' nv', Iv S' M' → Sf (k (i + (6 : Int32)) S' M' nv') (fun z => z = 1)) : Sf (flc_39 N K L xs k i S M nv) (fun z => z = 1) := by
  unfold flc_39
  exact (sBind (pj_knock hN hK I) (fun z2002 I1 => (sBind I1 (fun z2007 I2 => (hk _ _ _ I2)))))
theorem lc_40 {N K L : Nat} {xs : Nat → Int32} {k : Int32 → CS → MS → Int64 → Option Int32} {i : Int32} {S : CS} {M : MS} {nv : Int64} (hN : NBig N) (hK : 100 ≤ K) (I : Iv S M) (B : ixs L i) (hk : ∀ S' M' nv', Iv S' M' → Sf (k (i + (6 : Int32)) S' M' nv') (fun z => z = 1)) : Sf (flc_40 N K L xs k i S M nv) (fun z => z = 1) := by
  unfold flc_40
  exact (sIfF (B _ (by decide) (by decide)) (sBind (pq_isSound hN hK I) (fun z2022 I1 => (sIfF (B _ (by decide) (by decide)) (sBind I1 (fun z2034 I2 => (sBind aM_thrown (fun z2040 I3 => (sIfT (I3.1.trans I2.1.1) (sIf (fun h0 => (sIf (fun hy => (sIfT (lgc ((I2.1.2 h0).trans (if_pos hy))) (hk _ _ _ (Iv.th I2.2 I3.2)))) (fun hy => (sIfT (lgc ((I2.1.2 h0).trans (if_neg hy))) (hk _ _ _ (Iv.th I2.2 I3.2)))))) (fun _ => (hk _ _ _ (Iv.th I2.2 I3.2)))))))))))))
theorem lc_41 {N K L : Nat} {xs : Nat → Int32} {k : Int32 → CS → MS → Int64 → Option Int32} {i : Int32} {S : CS} {M : MS} {nv : Int64} (hN : NBig N) (hK : 100 ≤ K) (I : Iv S M) (B : ixs L i) (hk : ∀ S' M' nv', Iv S' M' → Sf (k (i + (6 : Int32)) S' M' nv') (fun z => z = 1)) : Sf (flc_41 N K L xs k i S M nv) (fun z => z = 1) := by
  unfold flc_41
  exact (sBind (pj_digest hN hK I) (fun z2079 I1 => (sBind I1 (fun z2084 I2 => (hk _ _ _ I2)))))
