section MG_61case
theorem aM_thrown {N K : Nat} {M : MS} : Sf (gM_thrown N K M) (fun y => y.1 = M.2.2.2.2.2 ∧ y.2 = M) := ⟨_, rfl, rfl, rfl⟩
def LM (a : Nat → Int32 × Int32 × (Nat → Int32)) (b : Nat → Nat → Int32) : Prop := ∀ j, j < 3 → (a j).1 = Int32.ofNat j ∧ LT j (a j).2.1 (a j).2.2 (b j)
theorem lm_upm {a : Nat → Int32 × Int32 × (Nat → Int32)} {b : Nat → Nat → Int32} {i : Nat} {s : Int32} {v v' : Nat → Int32} (h : LM a b) (hi : i < 3) (hv : LT i s v v') : LM (upm a i ((a i).1, s, v)) (upm b i v') := by
  intro j hj
  unfold upm
  by_cases c : j = i
  · subst c
    rw [if_pos rfl, if_pos rfl]; exact ⟨(h j hj).1, hv⟩
  · rw [if_neg c, if_neg c]; exact h j hj
theorem lm_same {a : Nat → Int32 × Int32 × (Nat → Int32)} {b : Nat → Nat → Int32} {i : Nat} {v' : Nat → Int32} (h : LM a b) (hv : v' = b i) : LM a (upm b i v') := by
  intro j hj
  unfold upm
  by_cases c : j = i
  · rw [if_pos c, hv, c]; exact h i (c ▸ hj)
  · rw [if_neg c]; exact h j hj
theorem ix_r {p0 : Int32} (h : Rg p0 0 2) : p0 = Int32.ofNat (ix 3 p0) := by
  rw [ix_in h.mm]
  have q0 : (0 : Int32).toInt = 0 := by decide
  have h0 : 0 ≤ p0.toInt := by have := h.1; omega
  exact (Int32.ofNat_toNatClampNeg p0 (by rw [Int32.le_iff_toInt_le]; omega)).symm
theorem ix3 {p0 : Int32} : ix 3 p0 < 3 := ix_lt (by omega)
theorem lz {m : Nat → Int32} (h : ∀ p, m p = if p < 21 then (-1 : Int32) else 0) {r : Nat} : LT r 0 m (fun _ => 0) := by
  have hn : ∀ p, 1 ≤ p → p ≤ 20 → m p = -1 := fun p p1 p2 => (h p).trans (if_pos (by omega))
  exact ⟨by rw [lcnt_none hn]; rfl, fun p p1 p2 => Or.inl (hn p p1 p2), fun p p1 p2 => by rw [hn p p1 p2, if_pos rfl]⟩
--@iv
def Iv (S : CS) (M : MS) : Prop := (OkX S ∧ OkN M) ∧ LM S.2.1 M.2.1
theorem Iv.x {S : CS} {M : MS} (I : Iv S M) : OkX S := I.1.1
theorem Iv.m {S : CS} {M : MS} (I : Iv S M) : OkN M := I.1.2
theorem Iv.st {S S' : CS} {M M' : MS} {a c a' c' : Bool} (I : Iv S M) (q : OkX S' ∧ c5 S' = c5 S ∧ Ux a true c S S') (q2 : OkN M' ∧ t5 M' = t5 M ∧ Um a' true c' M M') : Iv S' M' := by
  refine ⟨⟨q.1, q2.1⟩, ?_⟩
  have e1 := q.2.2.2.1 rfl
  have e2 := q2.2.2.2.1 rfl
  rw [e1, e2]
  exact I.2
theorem Iv.th {S : CS} {M M' : MS} (I : Iv S M) (h : M' = M) : Iv S M' := by rw [h]; exact I
theorem lgc {a b : Int64} (h : a = b) : lg_cmp a b = 0 := (lg_cmp_eq a b).mpr h
theorem Iv.z {N K : Nat} (hN : NBig N) : ∃ x4 x12, fX5_init N K = some x4 ∧ fX7_init N K (0 : Int32) = some x12 ∧ Iv (S0of x4) (M0of x12) := by
  obtain ⟨m, l, -, l0, h1⟩ := init_x (N := N) (K := K) hN
  obtain ⟨a, b, c, -, h2⟩ := init_m (N := N) (K := K) hN (th := (0 : Int32))
  refine ⟨_, _, h1, h2, ⟨fun j => ?_, fun j => ?_⟩, fun j hj => ?_⟩
  · show OkD (if j = 0 then (fun _ => 0) else (fun _ => 0))
    by_cases e : j = 0
    · rw [if_pos e]; exact OkD.z
    · rw [if_neg e]; exact OkD.z
  · show OkD (if j = 0 then (fun _ => 0) else (fun _ => 0))
    by_cases e : j = 0
    · rw [if_pos e]; exact OkD.z
    · rw [if_neg e]; exact OkD.z
  · have hj3 : j = 0 ∨ j = 1 ∨ j = 2 := by omega
    rcases hj3 with rfl | rfl | rfl
    · exact ⟨rfl, lz l0⟩
    · exact ⟨rfl, lz l0⟩
    · exact ⟨rfl, lz l0⟩
theorem pj_knock {N K : Nat} {S : CS} {M : MS} (hN : NBig N) (hK : 100 ≤ K) (I : Iv S M) : Sf (gX_knock N K S) (fun z => Sf (gM_knock N K M) (fun y => Iv z.2 y.2)) := ⟨_, rfl, _, rfl, I⟩
--@end
theorem pq_rule {N K : Nat} {S : CS} {M : MS} {p0 p1 : Int32} {nv : Int64} (hN : NBig N) (hK : 100 ≤ K) (I : Iv S M) : Sf (gL_rule N K S p0 p1 nv) (fun z => Sf (gM_rule N K M p0 p1) (fun y => (y.2.2.2.2.2.2 = z.1 ∧ (z.1 = 0 → z.2.2 = y.1.toInt64)) ∧ Iv z.2.1 y.2)) := by
  obtain ⟨hru, hlt⟩ := I.2 (ix 3 p0) ix3
  obtain ⟨o, y, e1, e2, q⟩ := ty_rule (N := N) (K := K) (th := M.2.2.2.2.2) (c0 := S.2.2.2.1 0) (c1 := S.2.2.2.1 1) (c2 := S.2.2.2.1 2) (c3 := S.2.2.2.1 3) (c4 := S.2.2.2.1 4) (c5 := S.2.2.2.1 5) (t := M.2.2.2.1) (u := M.2.2.2.2.1) (p0 := p0) (p1 := p1) hN hK ix3 hru ix_r hlt
  unfold gL_rule gX_rule gM_rule
  rw [e1, e2]
  cases o with
  | inl z => exact ⟨_, rfl, _, rfl, ⟨q.1, fun _ => congrArg Int32.toInt64 q.2.1⟩, ⟨I.1, lm_upm I.2 ix3 q.2.2.1⟩⟩
  | inr E =>
    obtain ⟨q1, q2⟩ := q
    rcases q1 with ⟨rfl, h⟩ | ⟨hb, rfl, h⟩
    · exact ⟨_, wb_io, _, rfl, ⟨h, fun e => ne1 e⟩, ⟨I.1, lm_same I.2 q2.1⟩⟩
    · exact ⟨_, wb_ia, _, rfl, ⟨h, fun e => ne2 e⟩, ⟨I.1, lm_same I.2 q2.1⟩⟩
theorem pj_rule {N K : Nat} {S : CS} {M : MS} {p0 p1 : Int32} {nv : Int64} (hN : NBig N) (hK : 100 ≤ K) (I : Iv S M) : Sf (gL_rule N K S p0 p1 nv) (fun z => Sf (gM_rule N K M p0 p1) (fun y => Iv z.2.1 y.2)) := sMono (pq_rule hN hK I) (fun z h => sMono h (fun y q => q.2))
theorem pq_forgetRule {N K : Nat} {S : CS} {M : MS} {p0 p1 : Int32} {nv : Int64} (hN : NBig N) (hK : 100 ≤ K) (I : Iv S M) : Sf (gL_forgetRule N K S p0 p1 nv) (fun z => Sf (gM_forgetRule N K M p0 p1) (fun y => (y.2.2.2.2.2.2 = z.1 ∧ (z.1 = 0 → z.2.2 = y.1.toInt64)) ∧ Iv z.2.1 y.2)) := by
  obtain ⟨hru, hlt⟩ := I.2 (ix 3 p0) ix3
  obtain ⟨o, y, e1, e2, q⟩ := ty_forgetRule (N := N) (K := K) (th := M.2.2.2.2.2) (c0 := S.2.2.2.1 0) (c1 := S.2.2.2.1 1) (c2 := S.2.2.2.1 2) (c3 := S.2.2.2.1 3) (c4 := S.2.2.2.1 4) (c5 := S.2.2.2.1 5) (t := M.2.2.2.1) (p0 := p0) (p1 := p1) hN hK ix3 hru ix_r hlt
  unfold gL_forgetRule gX_forgetRule gM_forgetRule
  rw [e1, e2]
  cases o with
  | inl z => exact ⟨_, rfl, _, rfl, ⟨q.1, fun _ => congrArg Int32.toInt64 q.2.1⟩, ⟨I.1, lm_upm I.2 ix3 q.2.2.1⟩⟩
  | inr E =>
    obtain ⟨q1, q2⟩ := q
    rcases q1 with ⟨rfl, h⟩ | ⟨hb, rfl, h⟩
    · exact ⟨_, wb_io, _, rfl, ⟨h, fun e => ne1 e⟩, ⟨I.1, lm_same I.2 q2.1⟩⟩
    · exact ⟨_, wb_ia, _, rfl, ⟨h, fun e => ne2 e⟩, ⟨I.1, lm_same I.2 q2.1⟩⟩
theorem pj_forgetRule {N K : Nat} {S : CS} {M : MS} {p0 p1 : Int32} {nv : Int64} (hN : NBig N) (hK : 100 ≤ K) (I : Iv S M) : Sf (gL_forgetRule N K S p0 p1 nv) (fun z => Sf (gM_forgetRule N K M p0 p1) (fun y => Iv z.2.1 y.2)) := sMono (pq_forgetRule hN hK I) (fun z h => sMono h (fun y q => q.2))
theorem pq_ledger {N K : Nat} {S : CS} {M : MS} {p0 p1 : Int32} {nv : Int64} (hN : NBig N) (hK : 100 ≤ K) (I : Iv S M) : Sf (gL_ledger N K S p0 p1 nv) (fun z => Sf (gM_ledger N K M p0 p1) (fun y => (y.2.2.2.2.2.2 = z.1 ∧ (z.1 = 0 → z.2.2 = y.1.toInt64)) ∧ Iv z.2.1 y.2)) := by
  obtain ⟨hru, hlt⟩ := I.2 (ix 3 p0) ix3
  obtain ⟨o, y, e1, e2, q⟩ := ty_ledger (N := N) (K := K) (th := M.2.2.2.2.2) (p0 := p0) (p1 := p1) hN hK ix3 hru ix_r hlt
  unfold gL_ledger gX_ledger gM_ledger
  rw [e1, e2]
  cases o with
  | inl z => exact ⟨_, rfl, _, rfl, ⟨q.1, fun _ => congrArg Int32.toInt64 q.2⟩, I⟩
  | inr E =>
    obtain ⟨q1, q2⟩ := q
    rcases q1 with ⟨rfl, h⟩ | ⟨hb, rfl, h⟩
    · exact ⟨_, wb_io, _, rfl, ⟨h, fun e => ne1 e⟩, I⟩
    · exact ⟨_, wb_ia, _, rfl, ⟨h, fun e => ne2 e⟩, I⟩
theorem pq_ruleWorth {N K : Nat} {S : CS} {M : MS} {p0 p1 p2 : Int32} {nv : Int64} (hN : NBig N) (hK : 100 ≤ K) (I : Iv S M) : Sf (gL_ruleWorth N K S p0 p1 p2 nv) (fun z => Sf (gM_ruleWorth N K M p0 p1 p2) (fun y => (y.2.2.2.2.2.2 = z.1 ∧ (z.1 = 0 → z.2.2 = y.1.toInt64)) ∧ Iv z.2.1 y.2)) := by
  obtain ⟨hru, hlt⟩ := I.2 (ix 3 p0) ix3
  obtain ⟨o, y, e1, e2, q⟩ := ty_ruleWorth (N := N) (K := K) (th := M.2.2.2.2.2) (p0 := p0) (p1 := p1) (p2 := p2) hN hK ix3 hru ix_r hlt
  unfold gL_ruleWorth gX_ruleWorth gM_ruleWorth
  rw [e1, e2]
  cases o with
  | inl z => exact ⟨_, rfl, _, rfl, ⟨q.1, fun _ => congrArg Int32.toInt64 q.2⟩, I⟩
  | inr E =>
    obtain ⟨q1, q2⟩ := q
    rcases q1 with ⟨rfl, h⟩ | ⟨hb, rfl, h⟩
    · exact ⟨_, wb_io, _, rfl, ⟨h, fun e => ne1 e⟩, I⟩
    · exact ⟨_, wb_ia, _, rfl, ⟨h, fun e => ne2 e⟩, I⟩
theorem pj_know {N K : Nat} {S : CS} {M : MS} {p0 : Int32} {p1 : Int32} {p2 : Int32} {p3 : Int32} {nv : Int64} (hN : NBig N) (hK : 100 ≤ K) (I : Iv S M) : Sf (gL_know N K S p0 p1 p2 p3 nv) (fun z => Sf (gM_know N K M p0 p1 p2 p3) (fun y => Iv z.2.1 y.2)) :=
  sMono (lL_know hN hK (Iv.x I)) (fun z q => sMono (aM_know hN hK (Iv.m I)) (fun y q2 => Iv.st I q q2))
theorem pj_few {N K : Nat} {S : CS} {M : MS} {p0 : Int32} {p1 : Int32} {p2 : Int32} {nv : Int64} (hN : NBig N) (hK : 100 ≤ K) (I : Iv S M) : Sf (gL_few N K S p0 p1 p2 nv) (fun z => Sf (gM_few N K M p0 p1 p2) (fun y => Iv z.2.1 y.2)) :=
  sMono (lL_few hN hK (Iv.x I)) (fun z q => sMono (aM_few hN hK (Iv.m I)) (fun y q2 => Iv.st I q q2))
theorem pj_surplus {N K : Nat} {S : CS} {M : MS} {p0 : Int32} {p1 : Int32} {nv : Int64} (hN : NBig N) (hK : 100 ≤ K) (I : Iv S M) : Sf (gL_surplus N K S p0 p1 nv) (fun z => Sf (gM_surplus N K M p0 p1) (fun y => Iv z.2.1 y.2)) :=
  sMono (lL_surplus hN hK (Iv.x I)) (fun z q => sMono (aM_surplus hN hK (Iv.m I)) (fun y q2 => Iv.st I q q2))
theorem pj_place {N K : Nat} {S : CS} {M : MS} {p0 : Int32} {p1 : Int32} {nv : Int64} (hN : NBig N) (hK : 100 ≤ K) (I : Iv S M) : Sf (gL_place N K S p0 p1 nv) (fun z => Sf (gM_place N K M p0 p1) (fun y => Iv z.2.1 y.2)) :=
  sMono (lL_place hN hK (Iv.x I)) (fun z q => sMono (aM_place hN hK (Iv.m I)) (fun y q2 => Iv.st I q q2))
theorem pj_learn {N K : Nat} {S : CS} {M : MS} {p0 : Int32} {p1 : Int32} {p2 : Int32} {p3 : Int32} {nv : Int64} (hN : NBig N) (hK : 100 ≤ K) (I : Iv S M) : Sf (gL_learn N K S p0 p1 p2 p3 nv) (fun z => Sf (gM_learn N K M p0 p1 p2 p3) (fun y => Iv z.2.1 y.2)) :=
  sMono (lL_learn hN hK (Iv.x I)) (fun z q => sMono (aM_learn hN hK (Iv.m I)) (fun y q2 => Iv.st I q q2))
theorem pj_relearn {N K : Nat} {S : CS} {M : MS} {p0 : Int32} {p1 : Int32} {p2 : Int32} {p3 : Int32} {nv : Int64} (hN : NBig N) (hK : 100 ≤ K) (I : Iv S M) : Sf (gL_relearn N K S p0 p1 p2 p3 nv) (fun z => Sf (gM_relearn N K M p0 p1 p2 p3) (fun y => Iv z.2.1 y.2)) :=
  sMono (lL_relearn hN hK (Iv.x I)) (fun z q => sMono (aM_relearn hN hK (Iv.m I)) (fun y q2 => Iv.st I q q2))
theorem pj_forget {N K : Nat} {S : CS} {M : MS} {p0 : Int32} {p1 : Int32} {p2 : Int32} {p3 : Int32} {nv : Int64} (hN : NBig N) (hK : 100 ≤ K) (I : Iv S M) : Sf (gL_forget N K S p0 p1 p2 p3 nv) (fun z => Sf (gM_forget N K M p0 p1 p2 p3) (fun y => Iv z.2.1 y.2)) :=
  sMono (lL_forget hN hK (Iv.x I)) (fun z q => sMono (aM_forget hN hK (Iv.m I)) (fun y q2 => Iv.st I q q2))
theorem pj_forgetIf {N K : Nat} {S : CS} {M : MS} {p0 : Int32} {p1 : Int32} {p2 : Int32} {p3 : Int32} {p4 : Int32} {nv : Int64} (hN : NBig N) (hK : 100 ≤ K) (I : Iv S M) : Sf (gL_forgetIf N K S p0 p1 p2 p3 p4 nv) (fun z => Sf (gM_forgetIf N K M p0 p1 p2 p3 p4) (fun y => Iv z.2.1 y.2)) :=
  sMono (lL_forgetIf hN hK (Iv.x I)) (fun z q => sMono (aM_forgetIf hN hK (Iv.m I)) (fun y q2 => Iv.st I q q2))
theorem pj_forgetAll {N K : Nat} {S : CS} {M : MS} {p0 : Int32} {p1 : Int32} {p2 : Int32} {nv : Int64} (hN : NBig N) (hK : 100 ≤ K) (I : Iv S M) : Sf (gL_forgetAll N K S p0 p1 p2 nv) (fun z => Sf (gM_forgetAll N K M p0 p1 p2) (fun y => Iv z.2.1 y.2)) :=
  sMono (lL_forgetAll hN hK (Iv.x I)) (fun z q => sMono (aM_forgetAll hN hK (Iv.m I)) (fun y q2 => Iv.st I q q2))
theorem pj_clear {N K : Nat} {S : CS} {M : MS} {p0 : Int32} {nv : Int64} (hN : NBig N) (hK : 100 ≤ K) (I : Iv S M) : Sf (gL_clear N K S p0 nv) (fun z => Sf (gM_clear N K M p0) (fun y => Iv z.2.1 y.2)) :=
  sMono (lL_clear hN hK (Iv.x I)) (fun z q => sMono (aM_clear hN hK (Iv.m I)) (fun y q2 => Iv.st I q q2))
theorem pj_copy {N K : Nat} {S : CS} {M : MS} {p0 : Int32} {p1 : Int32} {nv : Int64} (hN : NBig N) (hK : 100 ≤ K) (I : Iv S M) : Sf (gL_copy N K S p0 p1 nv) (fun z => Sf (gM_copy N K M p0 p1) (fun y => Iv z.2.1 y.2)) :=
  sMono (lL_copy hN hK (Iv.x I)) (fun z q => sMono (aM_copy hN hK (Iv.m I)) (fun y q2 => Iv.st I q q2))
theorem pj_pour {N K : Nat} {S : CS} {M : MS} {p0 : Int32} {p1 : Int32} {nv : Int64} (hN : NBig N) (hK : 100 ≤ K) (I : Iv S M) : Sf (gL_pour N K S p0 p1 nv) (fun z => Sf (gM_pour N K M p0 p1) (fun y => Iv z.2.1 y.2)) :=
  sMono (lL_pour hN hK (Iv.x I)) (fun z q => sMono (aM_pour hN hK (Iv.m I)) (fun y q2 => Iv.st I q q2))
theorem pj_isKept {N K : Nat} {S : CS} {M : MS} {p0 : Int32} {p1 : Int32} {p2 : Int32} {p3 : Int32} {p4 : Int32} {nv : Int64} (hN : NBig N) (hK : 100 ≤ K) (I : Iv S M) : Sf (gL_isKept N K S p0 p1 p2 p3 p4 nv) (fun z => Sf (gM_isKept N K M p0 p1 p2 p3 p4) (fun y => Iv z.2.1 y.2)) :=
  sMono (lL_isKept hN hK (Iv.x I)) (fun z q => sMono (aM_isKept hN hK (Iv.m I)) (fun y q2 => Iv.st I q q2))
theorem pj_worthOr {N K : Nat} {S : CS} {M : MS} {p0 : Int32} {p1 : Int32} {p2 : Int32} {p3 : Int32} {p4 : Int32} {nv : Int64} (hN : NBig N) (hK : 100 ≤ K) (I : Iv S M) : Sf (gL_worthOr N K S p0 p1 p2 p3 p4 nv) (fun z => Sf (gM_worthOr N K M p0 p1 p2 p3 p4) (fun y => Iv z.2.1 y.2)) :=
  sMono (lL_worthOr hN hK (Iv.x I)) (fun z q => sMono (aM_worthOr hN hK (Iv.m I)) (fun y q2 => Iv.st I q q2))
theorem pj_confirm {N K : Nat} {S : CS} {M : MS} {p0 : Int32} {p1 : Int32} {p2 : Int32} {p3 : Int32} {p4 : Int32} {nv : Int64} (hN : NBig N) (hK : 100 ≤ K) (I : Iv S M) : Sf (gL_confirm N K S p0 p1 p2 p3 p4 nv) (fun z => Sf (gM_confirm N K M p0 p1 p2 p3 p4) (fun y => Iv z.2.1 y.2)) :=
  sMono (lL_confirm hN hK (Iv.x I)) (fun z q => sMono (aM_confirm hN hK (Iv.m I)) (fun y q2 => Iv.st I q q2))
theorem pj_about {N K : Nat} {S : CS} {M : MS} {p0 : Int32} {p1 : Int32} {nv : Int64} (hN : NBig N) (hK : 100 ≤ K) (I : Iv S M) : Sf (gL_about N K S p0 p1 nv) (fun z => Sf (gM_about N K M p0 p1) (fun y => Iv z.2.1 y.2)) :=
  sMono (lL_about hN hK (Iv.x I)) (fun z q => sMono (aM_about hN hK (Iv.m I)) (fun y q2 => Iv.st I q q2))
theorem pj_has {N K : Nat} {S : CS} {M : MS} {p0 : Int32} {p1 : Int32} {nv : Int64} (hN : NBig N) (hK : 100 ≤ K) (I : Iv S M) : Sf (gL_has N K S p0 p1 nv) (fun z => Sf (gM_has N K M p0 p1) (fun y => Iv z.2.1 y.2)) :=
  sMono (lL_has hN hK (Iv.x I)) (fun z q => sMono (aM_has hN hK (Iv.m I)) (fun y q2 => Iv.st I q q2))
theorem pj_count {N K : Nat} {S : CS} {M : MS} {p0 : Int32} {p1 : Int32} {p2 : Int32} {nv : Int64} (hN : NBig N) (hK : 100 ≤ K) (I : Iv S M) : Sf (gL_count N K S p0 p1 p2 nv) (fun z => Sf (gM_count N K M p0 p1 p2) (fun y => Iv z.2.1 y.2)) :=
  sMono (lL_count hN hK (Iv.x I)) (fun z q => sMono (aM_count hN hK (Iv.m I)) (fun y q2 => Iv.st I q q2))
theorem pj_isSame {N K : Nat} {S : CS} {M : MS} {p0 : Int32} {p1 : Int32} {nv : Int64} (hN : NBig N) (hK : 100 ≤ K) (I : Iv S M) : Sf (gL_isSame N K S p0 p1 nv) (fun z => Sf (gM_isSame N K M p0 p1) (fun y => Iv z.2.1 y.2)) :=
  sMono (lL_isSame hN hK (Iv.x I)) (fun z q => sMono (aM_isSame hN hK (Iv.m I)) (fun y q2 => Iv.st I q q2))
theorem pj_walk {N K : Nat} {S : CS} {M : MS} {p0 : Int32} {p1 : Int32} {p2 : Int32} {nv : Int64} (hN : NBig N) (hK : 100 ≤ K) (I : Iv S M) : Sf (gL_walk N K S p0 p1 p2 nv) (fun z => Sf (gM_walk N K M p0 p1 p2) (fun y => Iv z.2.1 y.2)) :=
  sMono (lL_walk hN hK (Iv.x I)) (fun z q => sMono (aM_walk hN hK (Iv.m I)) (fun y q2 => Iv.st I q q2))
theorem pj_product {N K : Nat} {S : CS} {M : MS} {p0 : Int32} {p1 : Int32} {p2 : Int32} {nv : Int64} (hN : NBig N) (hK : 100 ≤ K) (I : Iv S M) : Sf (gL_product N K S p0 p1 p2 nv) (fun z => Sf (gM_product N K M p0 p1 p2) (fun y => Iv z.2.1 y.2)) :=
  sMono (lL_product hN hK (Iv.x I)) (fun z q => sMono (aM_product hN hK (Iv.m I)) (fun y q2 => Iv.st I q q2))
theorem pj_ledger {N K : Nat} {S : CS} {M : MS} {p0 : Int32} {p1 : Int32} {nv : Int64} (hN : NBig N) (hK : 100 ≤ K) (I : Iv S M) : Sf (gL_ledger N K S p0 p1 nv) (fun z => Sf (gM_ledger N K M p0 p1) (fun y => Iv z.2.1 y.2)) :=
  sMono (lL_ledger hN hK (Iv.x I)) (fun z q => sMono (aM_ledger hN hK (Iv.m I)) (fun y q2 => Iv.st I q q2))
theorem pj_ruleWorth {N K : Nat} {S : CS} {M : MS} {p0 : Int32} {p1 : Int32} {p2 : Int32} {nv : Int64} (hN : NBig N) (hK : 100 ≤ K) (I : Iv S M) : Sf (gL_ruleWorth N K S p0 p1 p2 nv) (fun z => Sf (gM_ruleWorth N K M p0 p1 p2) (fun y => Iv z.2.1 y.2)) :=
  sMono (lL_ruleWorth hN hK (Iv.x I)) (fun z q => sMono (aM_ruleWorth hN hK (Iv.m I)) (fun y q2 => Iv.st I q q2))
theorem pj_addPart {N K : Nat} {S : CS} {M : MS} {p0 : Int32} {p1 : Int32} {p2 : Int32} {nv : Int64} (hN : NBig N) (hK : 100 ≤ K) (I : Iv S M) : Sf (gL_addPart N K S p0 p1 p2 nv) (fun z => Sf (gM_addPart N K M p0 p1 p2) (fun y => Iv z.2.1 y.2)) :=
  sMono (lL_addPart hN hK (Iv.x I)) (fun z q => sMono (aM_addPart hN hK (Iv.m I)) (fun y q2 => Iv.st I q q2))
theorem pj_takePart {N K : Nat} {S : CS} {M : MS} {p0 : Int32} {p1 : Int32} {nv : Int64} (hN : NBig N) (hK : 100 ≤ K) (I : Iv S M) : Sf (gL_takePart N K S p0 p1 nv) (fun z => Sf (gM_takePart N K M p0 p1) (fun y => Iv z.2.1 y.2)) :=
  sMono (lL_takePart hN hK (Iv.x I)) (fun z q => sMono (aM_takePart hN hK (Iv.m I)) (fun y q2 => Iv.st I q q2))
theorem pj_layFirst {N K : Nat} {S : CS} {M : MS} {p0 : Int32} {p1 : Int32} {nv : Int64} (hN : NBig N) (hK : 100 ≤ K) (I : Iv S M) : Sf (gL_layFirst N K S p0 p1 nv) (fun z => Sf (gM_layFirst N K M p0 p1) (fun y => Iv z.2.1 y.2)) :=
  sMono (lL_layFirst hN hK (Iv.x I)) (fun z q => sMono (aM_layFirst hN hK (Iv.m I)) (fun y q2 => Iv.st I q q2))
theorem pj_next {N K : Nat} {S : CS} {M : MS} {p0 : Int32} {nv : Int64} (hN : NBig N) (hK : 100 ≤ K) (I : Iv S M) : Sf (gL_next N K S p0 nv) (fun z => Sf (gM_next N K M p0) (fun y => Iv z.2.1 y.2)) :=
  sMono (lL_next hN hK (Iv.x I)) (fun z q => sMono (aM_next hN hK (Iv.m I)) (fun y q2 => Iv.st I q q2))
theorem pj_turn {N K : Nat} {S : CS} {M : MS} {p0 : Int32} {nv : Int64} (hN : NBig N) (hK : 100 ≤ K) (I : Iv S M) : Sf (gL_turn N K S p0 nv) (fun z => Sf (gM_turn N K M p0) (fun y => Iv z.2.1 y.2)) :=
  sMono (lL_turn hN hK (Iv.x I)) (fun z q => sMono (aM_turn hN hK (Iv.m I)) (fun y q2 => Iv.st I q q2))
theorem pj_toUnlike {N K : Nat} {S : CS} {M : MS} {p0 : Int32} {nv : Int64} (hN : NBig N) (hK : 100 ≤ K) (I : Iv S M) : Sf (gL_toUnlike N K S p0 nv) (fun z => Sf (gM_toUnlike N K M p0) (fun y => Iv z.2.1 y.2)) :=
  sMono (lL_toUnlike hN hK (Iv.x I)) (fun z q => sMono (aM_toUnlike hN hK (Iv.m I)) (fun y q2 => Iv.st I q q2))
theorem pj_toOdd {N K : Nat} {S : CS} {M : MS} {p0 : Int32} {nv : Int64} (hN : NBig N) (hK : 100 ≤ K) (I : Iv S M) : Sf (gL_toOdd N K S p0 nv) (fun z => Sf (gM_toOdd N K M p0) (fun y => Iv z.2.1 y.2)) :=
  sMono (lL_toOdd hN hK (Iv.x I)) (fun z q => sMono (aM_toOdd hN hK (Iv.m I)) (fun y q2 => Iv.st I q q2))
theorem pj_copyDesk {N K : Nat} {S : CS} {M : MS} {p0 : Int32} {nv : Int64} (hN : NBig N) (hK : 100 ≤ K) (I : Iv S M) : Sf (gL_copyDesk N K S p0 nv) (fun z => Sf (gM_copyDesk N K M p0) (fun y => Iv z.2.1 y.2)) :=
  sMono (lL_copyDesk hN hK (Iv.x I)) (fun z q => sMono (aM_copyDesk hN hK (Iv.m I)) (fun y q2 => Iv.st I q q2))
theorem pj_times {N K : Nat} {S : CS} {M : MS} {p0 : Int32} {p1 : Int32} {nv : Int64} (hN : NBig N) (hK : 100 ≤ K) (I : Iv S M) : Sf (gL_times N K S p0 p1 nv) (fun z => Sf (gM_times N K M p0 p1) (fun y => Iv z.2.1 y.2)) :=
  sMono (lL_times hN hK (Iv.x I)) (fun z q => sMono (aM_times hN hK (Iv.m I)) (fun y q2 => Iv.st I q q2))
theorem pj_way {N K : Nat} {S : CS} {M : MS} {p0 : Int32} {p1 : Int32} {nv : Int64} (hN : NBig N) (hK : 100 ≤ K) (I : Iv S M) : Sf (gL_way N K S p0 p1 nv) (fun z => Sf (gM_way N K M p0 p1) (fun y => Iv z.2.1 y.2)) :=
  sMono (lL_way hN hK (Iv.x I)) (fun z q => sMono (aM_way hN hK (Iv.m I)) (fun y q2 => Iv.st I q q2))
theorem pj_wayText {N K : Nat} {S : CS} {M : MS} {p0 : Int32} {nv : Int64} (hN : NBig N) (hK : 100 ≤ K) (I : Iv S M) : Sf (gL_wayText N K S p0 nv) (fun z => Sf (gM_wayText N K M p0) (fun y => Iv z.2.1 y)) :=
  sMono (lL_wayText hN hK (Iv.x I)) (fun z q => sMono (aM_wayText hN hK (Iv.m I)) (fun y q2 => Iv.st I q q2))
theorem pj_isOf {N K : Nat} {S : CS} {M : MS} {p0 : Int32} {p1 : Int32} {p2 : Int32} {nv : Int64} (hN : NBig N) (hK : 100 ≤ K) (I : Iv S M) : Sf (gL_isOf N K S p0 p1 p2 nv) (fun z => Sf (gM_isOf N K M p0 p1 p2) (fun y => Iv z.2.1 y.2)) :=
  sMono (lL_isOf hN hK (Iv.x I)) (fun z q => sMono (aM_isOf hN hK (Iv.m I)) (fun y q2 => Iv.st I q q2))
theorem pj_isSameWay {N K : Nat} {S : CS} {M : MS} (hN : NBig N) (hK : 100 ≤ K) (I : Iv S M) : Sf (gX_isSameWay N K S ) (fun z => Sf (gM_isSameWay N K M ) (fun y => Iv z.2 y.2)) :=
  sMono (aX_isSameWay hN hK (Iv.x I)) (fun z q => sMono (aM_isSameWay hN hK (Iv.m I)) (fun y q2 => Iv.st I q q2))
theorem pj_tally {N K : Nat} {S : CS} {M : MS} {p0 : Int32} {nv : Int64} (hN : NBig N) (hK : 100 ≤ K) (I : Iv S M) : Sf (gL_tally N K S p0 nv) (fun z => Sf (gM_tally N K M p0) (fun y => Iv z.2.1 y.2)) :=
  sMono (lL_tally hN hK (Iv.x I)) (fun z q => sMono (aM_tally hN hK (Iv.m I)) (fun y q2 => Iv.st I q q2))
theorem pj_isSound {N K : Nat} {S : CS} {M : MS} {p0 : Int32} {nv : Int64} (hN : NBig N) (hK : 100 ≤ K) (I : Iv S M) : Sf (gL_isSound N K S p0 nv) (fun z => Sf (gM_isSound N K M p0) (fun y => Iv z.2.1 y.2)) :=
  sMono (lL_isSound hN hK (Iv.x I)) (fun z q => sMono (aM_isSound hN hK (Iv.m I)) (fun y q2 => Iv.st I q q2))
theorem pj_digest {N K : Nat} {S : CS} {M : MS} (hN : NBig N) (hK : 100 ≤ K) (I : Iv S M) : Sf (gX_digest N K S ) (fun z => Sf (gM_digest N K M ) (fun y => Iv z.2 y.2)) :=
  sMono (aX_digest hN hK (Iv.x I)) (fun z q => sMono (aM_digest hN hK (Iv.m I)) (fun y q2 => Iv.st I q q2))
theorem lc_0 {N K L : Nat} {xs : Nat → Int32} {k : Int32 → CS → MS → Int64 → Option Int32} {i : Int32} {S : CS} {M : MS} {nv : Int64} (hN : NBig N) (hK : 100 ≤ K) (I : Iv S M) (B : ixs L i) (hk : ∀ S' M' nv', Iv S' M' → Sf (k (i + (6 : Int32)) S' M' nv') (fun z => z = 1)) : Sf (flc_0 N K L xs k i S M nv) (fun z => z = 1) := by
  unfold flc_0
  exact (sIfF (B _ (by decide) (by decide)) (sIfF (B _ (by decide) (by decide)) (sIfF (B _ (by decide) (by decide)) (sIfF (B _ (by decide) (by decide)) (sBind (pj_know hN hK I) (fun z254 I1 => (sIfF (B _ (by decide) (by decide)) (sIfF (B _ (by decide) (by decide)) (sIfF (B _ (by decide) (by decide)) (sIfF (B _ (by decide) (by decide)) (sBind I1 (fun z284 I2 => (hk _ _ _ I2)))))))))))))
theorem lc_1 {N K L : Nat} {xs : Nat → Int32} {k : Int32 → CS → MS → Int64 → Option Int32} {i : Int32} {S : CS} {M : MS} {nv : Int64} (hN : NBig N) (hK : 100 ≤ K) (I : Iv S M) (B : ixs L i) (hk : ∀ S' M' nv', Iv S' M' → Sf (k (i + (6 : Int32)) S' M' nv') (fun z => z = 1)) : Sf (flc_1 N K L xs k i S M nv) (fun z => z = 1) := by
  unfold flc_1
  exact (sIfF (B _ (by decide) (by decide)) (sIfF (B _ (by decide) (by decide)) (sIfF (B _ (by decide) (by decide)) (sBind (pj_few hN hK I) (fun z312 I1 => (sIfF (B _ (by decide) (by decide)) (sIfF (B _ (by decide) (by decide)) (sIfF (B _ (by decide) (by decide)) (sBind I1 (fun z336 I2 => (hk _ _ _ I2)))))))))))
theorem lc_2 {N K L : Nat} {xs : Nat → Int32} {k : Int32 → CS → MS → Int64 → Option Int32} {i : Int32} {S : CS} {M : MS} {nv : Int64} (hN : NBig N) (hK : 100 ≤ K) (I : Iv S M) (B : ixs L i) (hk : ∀ S' M' nv', Iv S' M' → Sf (k (i + (6 : Int32)) S' M' nv') (fun z => z = 1)) : Sf (flc_2 N K L xs k i S M nv) (fun z => z = 1) := by
  unfold flc_2
  exact (sIfF (B _ (by decide) (by decide)) (sIfF (B _ (by decide) (by decide)) (sBind (pj_surplus hN hK I) (fun z358 I1 => (sIfF (B _ (by decide) (by decide)) (sIfF (B _ (by decide) (by decide)) (sBind I1 (fun z376 I2 => (hk _ _ _ I2)))))))))
theorem lc_3 {N K L : Nat} {xs : Nat → Int32} {k : Int32 → CS → MS → Int64 → Option Int32} {i : Int32} {S : CS} {M : MS} {nv : Int64} (hN : NBig N) (hK : 100 ≤ K) (I : Iv S M) (B : ixs L i) (hk : ∀ S' M' nv', Iv S' M' → Sf (k (i + (6 : Int32)) S' M' nv') (fun z => z = 1)) : Sf (flc_3 N K L xs k i S M nv) (fun z => z = 1) := by
  unfold flc_3
  exact (sIfF (B _ (by decide) (by decide)) (sIfF (B _ (by decide) (by decide)) (sBind (pj_place hN hK I) (fun z398 I1 => (sIfF (B _ (by decide) (by decide)) (sIfF (B _ (by decide) (by decide)) (sBind I1 (fun z416 I2 => (hk _ _ _ I2)))))))))
theorem lc_4 {N K L : Nat} {xs : Nat → Int32} {k : Int32 → CS → MS → Int64 → Option Int32} {i : Int32} {S : CS} {M : MS} {nv : Int64} (hN : NBig N) (hK : 100 ≤ K) (I : Iv S M) (B : ixs L i) (hk : ∀ S' M' nv', Iv S' M' → Sf (k (i + (6 : Int32)) S' M' nv') (fun z => z = 1)) : Sf (flc_4 N K L xs k i S M nv) (fun z => z = 1) := by
  unfold flc_4
  exact (sIfF (B _ (by decide) (by decide)) (sIfF (B _ (by decide) (by decide)) (sIfF (B _ (by decide) (by decide)) (sIfF (B _ (by decide) (by decide)) (sBind (pj_learn hN hK I) (fun z450 I1 => (sIfF (B _ (by decide) (by decide)) (sIfF (B _ (by decide) (by decide)) (sIfF (B _ (by decide) (by decide)) (sIfF (B _ (by decide) (by decide)) (sBind I1 (fun z480 I2 => (hk _ _ _ I2)))))))))))))
theorem lc_5 {N K L : Nat} {xs : Nat → Int32} {k : Int32 → CS → MS → Int64 → Option Int32} {i : Int32} {S : CS} {M : MS} {nv : Int64} (hN : NBig N) (hK : 100 ≤ K) (I : Iv S M) (B : ixs L i) (hk : ∀ S' M' nv', Iv S' M' → Sf (k (i + (6 : Int32)) S' M' nv') (fun z => z = 1)) : Sf (flc_5 N K L xs k i S M nv) (fun z => z = 1) := by
  unfold flc_5
  exact (sIfF (B _ (by decide) (by decide)) (sIfF (B _ (by decide) (by decide)) (sIfF (B _ (by decide) (by decide)) (sIfF (B _ (by decide) (by decide)) (sBind (pj_relearn hN hK I) (fun z514 I1 => (sIfF (B _ (by decide) (by decide)) (sIfF (B _ (by decide) (by decide)) (sIfF (B _ (by decide) (by decide)) (sIfF (B _ (by decide) (by decide)) (sBind I1 (fun z544 I2 => (hk _ _ _ I2)))))))))))))
theorem lc_6 {N K L : Nat} {xs : Nat → Int32} {k : Int32 → CS → MS → Int64 → Option Int32} {i : Int32} {S : CS} {M : MS} {nv : Int64} (hN : NBig N) (hK : 100 ≤ K) (I : Iv S M) (B : ixs L i) (hk : ∀ S' M' nv', Iv S' M' → Sf (k (i + (6 : Int32)) S' M' nv') (fun z => z = 1)) : Sf (flc_6 N K L xs k i S M nv) (fun z => z = 1) := by
  unfold flc_6
  exact (sIfF (B _ (by decide) (by decide)) (sIfF (B _ (by decide) (by decide)) (sIfF (B _ (by decide) (by decide)) (sIfF (B _ (by decide) (by decide)) (sBind (pj_forget hN hK I) (fun z578 I1 => (sIfF (B _ (by decide) (by decide)) (sIfF (B _ (by decide) (by decide)) (sIfF (B _ (by decide) (by decide)) (sIfF (B _ (by decide) (by decide)) (sBind I1 (fun z608 I2 => (hk _ _ _ I2)))))))))))))
theorem lc_7 {N K L : Nat} {xs : Nat → Int32} {k : Int32 → CS → MS → Int64 → Option Int32} {i : Int32} {S : CS} {M : MS} {nv : Int64} (hN : NBig N) (hK : 100 ≤ K) (I : Iv S M) (B : ixs L i) (hk : ∀ S' M' nv', Iv S' M' → Sf (k (i + (6 : Int32)) S' M' nv') (fun z => z = 1)) : Sf (flc_7 N K L xs k i S M nv) (fun z => z = 1) := by
  unfold flc_7
  exact (sIfF (B _ (by decide) (by decide)) (sIfF (B _ (by decide) (by decide)) (sIfF (B _ (by decide) (by decide)) (sIfF (B _ (by decide) (by decide)) (sIfF (B _ (by decide) (by decide)) (sBind (pj_forgetIf hN hK I) (fun z648 I1 => (sIfF (B _ (by decide) (by decide)) (sIfF (B _ (by decide) (by decide)) (sIfF (B _ (by decide) (by decide)) (sIfF (B _ (by decide) (by decide)) (sIfF (B _ (by decide) (by decide)) (sBind I1 (fun z684 I2 => (hk _ _ _ I2)))))))))))))))
theorem lc_8 {N K L : Nat} {xs : Nat → Int32} {k : Int32 → CS → MS → Int64 → Option Int32} {i : Int32} {S : CS} {M : MS} {nv : Int64} (hN : NBig N) (hK : 100 ≤ K) (I : Iv S M) (B : ixs L i) (hk : ∀ S' M' nv', Iv S' M' → Sf (k (i + (6 : Int32)) S' M' nv') (fun z => z = 1)) : Sf (flc_8 N K L xs k i S M nv) (fun z => z = 1) := by
  unfold flc_8
  exact (sIfF (B _ (by decide) (by decide)) (sIfF (B _ (by decide) (by decide)) (sIfF (B _ (by decide) (by decide)) (sBind (pj_forgetAll hN hK I) (fun z712 I1 => (sIfF (B _ (by decide) (by decide)) (sIfF (B _ (by decide) (by decide)) (sIfF (B _ (by decide) (by decide)) (sBind I1 (fun z736 I2 => (hk _ _ _ I2)))))))))))
theorem lc_9 {N K L : Nat} {xs : Nat → Int32} {k : Int32 → CS → MS → Int64 → Option Int32} {i : Int32} {S : CS} {M : MS} {nv : Int64} (hN : NBig N) (hK : 100 ≤ K) (I : Iv S M) (B : ixs L i) (hk : ∀ S' M' nv', Iv S' M' → Sf (k (i + (6 : Int32)) S' M' nv') (fun z => z = 1)) : Sf (flc_9 N K L xs k i S M nv) (fun z => z = 1) := by
  unfold flc_9
  exact (sIfF (B _ (by decide) (by decide)) (sBind (pj_clear hN hK I) (fun z752 I1 => (sIfF (B _ (by decide) (by decide)) (sBind I1 (fun z764 I2 => (hk _ _ _ I2)))))))
theorem lc_10 {N K L : Nat} {xs : Nat → Int32} {k : Int32 → CS → MS → Int64 → Option Int32} {i : Int32} {S : CS} {M : MS} {nv : Int64} (hN : NBig N) (hK : 100 ≤ K) (I : Iv S M) (B : ixs L i) (hk : ∀ S' M' nv', Iv S' M' → Sf (k (i + (6 : Int32)) S' M' nv') (fun z => z = 1)) : Sf (flc_10 N K L xs k i S M nv) (fun z => z = 1) := by
  unfold flc_10
  exact (sIfF (B _ (by decide) (by decide)) (sIfF (B _ (by decide) (by decide)) (sBind (pj_copy hN hK I) (fun z786 I1 => (sIfF (B _ (by decide) (by decide)) (sIfF (B _ (by decide) (by decide)) (sBind I1 (fun z804 I2 => (hk _ _ _ I2)))))))))
theorem lc_11 {N K L : Nat} {xs : Nat → Int32} {k : Int32 → CS → MS → Int64 → Option Int32} {i : Int32} {S : CS} {M : MS} {nv : Int64} (hN : NBig N) (hK : 100 ≤ K) (I : Iv S M) (B : ixs L i) (hk : ∀ S' M' nv', Iv S' M' → Sf (k (i + (6 : Int32)) S' M' nv') (fun z => z = 1)) : Sf (flc_11 N K L xs k i S M nv) (fun z => z = 1) := by
  unfold flc_11
  exact (sIfF (B _ (by decide) (by decide)) (sIfF (B _ (by decide) (by decide)) (sBind (pj_pour hN hK I) (fun z826 I1 => (sIfF (B _ (by decide) (by decide)) (sIfF (B _ (by decide) (by decide)) (sBind I1 (fun z844 I2 => (hk _ _ _ I2)))))))))
theorem lc_12 {N K L : Nat} {xs : Nat → Int32} {k : Int32 → CS → MS → Int64 → Option Int32} {i : Int32} {S : CS} {M : MS} {nv : Int64} (hN : NBig N) (hK : 100 ≤ K) (I : Iv S M) (B : ixs L i) (hk : ∀ S' M' nv', Iv S' M' → Sf (k (i + (6 : Int32)) S' M' nv') (fun z => z = 1)) : Sf (flc_12 N K L xs k i S M nv) (fun z => z = 1) := by
  unfold flc_12
  exact (sIfF (B _ (by decide) (by decide)) (sIfF (B _ (by decide) (by decide)) (sIfF (B _ (by decide) (by decide)) (sIfF (B _ (by decide) (by decide)) (sIfF (B _ (by decide) (by decide)) (sBind (pj_isKept hN hK I) (fun z884 I1 => (sIfF (B _ (by decide) (by decide)) (sIfF (B _ (by decide) (by decide)) (sIfF (B _ (by decide) (by decide)) (sIfF (B _ (by decide) (by decide)) (sIfF (B _ (by decide) (by decide)) (sBind I1 (fun z920 I2 => (hk _ _ _ I2)))))))))))))))
theorem lc_13 {N K L : Nat} {xs : Nat → Int32} {k : Int32 → CS → MS → Int64 → Option Int32} {i : Int32} {S : CS} {M : MS} {nv : Int64} (hN : NBig N) (hK : 100 ≤ K) (I : Iv S M) (B : ixs L i) (hk : ∀ S' M' nv', Iv S' M' → Sf (k (i + (6 : Int32)) S' M' nv') (fun z => z = 1)) : Sf (flc_13 N K L xs k i S M nv) (fun z => z = 1) := by
  unfold flc_13
  exact (sIfF (B _ (by decide) (by decide)) (sIfF (B _ (by decide) (by decide)) (sIfF (B _ (by decide) (by decide)) (sIfF (B _ (by decide) (by decide)) (sIfF (B _ (by decide) (by decide)) (sBind (pj_worthOr hN hK I) (fun z960 I1 => (sIfF (B _ (by decide) (by decide)) (sIfF (B _ (by decide) (by decide)) (sIfF (B _ (by decide) (by decide)) (sIfF (B _ (by decide) (by decide)) (sIfF (B _ (by decide) (by decide)) (sBind I1 (fun z996 I2 => (hk _ _ _ I2)))))))))))))))
theorem lc_14 {N K L : Nat} {xs : Nat → Int32} {k : Int32 → CS → MS → Int64 → Option Int32} {i : Int32} {S : CS} {M : MS} {nv : Int64} (hN : NBig N) (hK : 100 ≤ K) (I : Iv S M) (B : ixs L i) (hk : ∀ S' M' nv', Iv S' M' → Sf (k (i + (6 : Int32)) S' M' nv') (fun z => z = 1)) : Sf (flc_14 N K L xs k i S M nv) (fun z => z = 1) := by
  unfold flc_14
  exact (sIfF (B _ (by decide) (by decide)) (sIfF (B _ (by decide) (by decide)) (sIfF (B _ (by decide) (by decide)) (sIfF (B _ (by decide) (by decide)) (sIfF (B _ (by decide) (by decide)) (sBind (pj_confirm hN hK I) (fun z1036 I1 => (sIfF (B _ (by decide) (by decide)) (sIfF (B _ (by decide) (by decide)) (sIfF (B _ (by decide) (by decide)) (sIfF (B _ (by decide) (by decide)) (sIfF (B _ (by decide) (by decide)) (sBind I1 (fun z1072 I2 => (hk _ _ _ I2)))))))))))))))
theorem lc_15 {N K L : Nat} {xs : Nat → Int32} {k : Int32 → CS → MS → Int64 → Option Int32} {i : Int32} {S : CS} {M : MS} {nv : Int64} (hN : NBig N) (hK : 100 ≤ K) (I : Iv S M) (B : ixs L i) (hk : ∀ S' M' nv', Iv S' M' → Sf (k (i + (6 : Int32)) S' M' nv') (fun z => z = 1)) : Sf (flc_15 N K L xs k i S M nv) (fun z => z = 1) := by
  unfold flc_15
  exact (sIfF (B _ (by decide) (by decide)) (sIfF (B _ (by decide) (by decide)) (sBind (pj_about hN hK I) (fun z1094 I1 => (sIfF (B _ (by decide) (by decide)) (sIfF (B _ (by decide) (by decide)) (sBind I1 (fun z1112 I2 => (hk _ _ _ I2)))))))))
theorem lc_16 {N K L : Nat} {xs : Nat → Int32} {k : Int32 → CS → MS → Int64 → Option Int32} {i : Int32} {S : CS} {M : MS} {nv : Int64} (hN : NBig N) (hK : 100 ≤ K) (I : Iv S M) (B : ixs L i) (hk : ∀ S' M' nv', Iv S' M' → Sf (k (i + (6 : Int32)) S' M' nv') (fun z => z = 1)) : Sf (flc_16 N K L xs k i S M nv) (fun z => z = 1) := by
  unfold flc_16
  exact (sIfF (B _ (by decide) (by decide)) (sIfF (B _ (by decide) (by decide)) (sBind (pj_has hN hK I) (fun z1134 I1 => (sIfF (B _ (by decide) (by decide)) (sIfF (B _ (by decide) (by decide)) (sBind I1 (fun z1152 I2 => (hk _ _ _ I2)))))))))
theorem lc_17 {N K L : Nat} {xs : Nat → Int32} {k : Int32 → CS → MS → Int64 → Option Int32} {i : Int32} {S : CS} {M : MS} {nv : Int64} (hN : NBig N) (hK : 100 ≤ K) (I : Iv S M) (B : ixs L i) (hk : ∀ S' M' nv', Iv S' M' → Sf (k (i + (6 : Int32)) S' M' nv') (fun z => z = 1)) : Sf (flc_17 N K L xs k i S M nv) (fun z => z = 1) := by
  unfold flc_17
  exact (sIfF (B _ (by decide) (by decide)) (sIfF (B _ (by decide) (by decide)) (sIfF (B _ (by decide) (by decide)) (sBind (pj_count hN hK I) (fun z1180 I1 => (sIfF (B _ (by decide) (by decide)) (sIfF (B _ (by decide) (by decide)) (sIfF (B _ (by decide) (by decide)) (sBind I1 (fun z1204 I2 => (hk _ _ _ I2)))))))))))
theorem lc_18 {N K L : Nat} {xs : Nat → Int32} {k : Int32 → CS → MS → Int64 → Option Int32} {i : Int32} {S : CS} {M : MS} {nv : Int64} (hN : NBig N) (hK : 100 ≤ K) (I : Iv S M) (B : ixs L i) (hk : ∀ S' M' nv', Iv S' M' → Sf (k (i + (6 : Int32)) S' M' nv') (fun z => z = 1)) : Sf (flc_18 N K L xs k i S M nv) (fun z => z = 1) := by
  unfold flc_18
  exact (sIfF (B _ (by decide) (by decide)) (sIfF (B _ (by decide) (by decide)) (sBind (pj_isSame hN hK I) (fun z1226 I1 => (sIfF (B _ (by decide) (by decide)) (sIfF (B _ (by decide) (by decide)) (sBind I1 (fun z1244 I2 => (hk _ _ _ I2)))))))))
theorem lc_19 {N K L : Nat} {xs : Nat → Int32} {k : Int32 → CS → MS → Int64 → Option Int32} {i : Int32} {S : CS} {M : MS} {nv : Int64} (hN : NBig N) (hK : 100 ≤ K) (I : Iv S M) (B : ixs L i) (hk : ∀ S' M' nv', Iv S' M' → Sf (k (i + (6 : Int32)) S' M' nv') (fun z => z = 1)) : Sf (flc_19 N K L xs k i S M nv) (fun z => z = 1) := by
  unfold flc_19
  exact (sIfF (B _ (by decide) (by decide)) (sIfF (B _ (by decide) (by decide)) (sIfF (B _ (by decide) (by decide)) (sBind (pj_walk hN hK I) (fun z1272 I1 => (sIfF (B _ (by decide) (by decide)) (sIfF (B _ (by decide) (by decide)) (sIfF (B _ (by decide) (by decide)) (sBind I1 (fun z1296 I2 => (hk _ _ _ I2)))))))))))
theorem lc_20 {N K L : Nat} {xs : Nat → Int32} {k : Int32 → CS → MS → Int64 → Option Int32} {i : Int32} {S : CS} {M : MS} {nv : Int64} (hN : NBig N) (hK : 100 ≤ K) (I : Iv S M) (B : ixs L i) (hk : ∀ S' M' nv', Iv S' M' → Sf (k (i + (6 : Int32)) S' M' nv') (fun z => z = 1)) : Sf (flc_20 N K L xs k i S M nv) (fun z => z = 1) := by
  unfold flc_20
  exact (sIfF (B _ (by decide) (by decide)) (sIfF (B _ (by decide) (by decide)) (sIfF (B _ (by decide) (by decide)) (sBind (pj_product hN hK I) (fun z1324 I1 => (sIfF (B _ (by decide) (by decide)) (sIfF (B _ (by decide) (by decide)) (sIfF (B _ (by decide) (by decide)) (sBind I1 (fun z1348 I2 => (hk _ _ _ I2)))))))))))
theorem lc_21 {N K L : Nat} {xs : Nat → Int32} {k : Int32 → CS → MS → Int64 → Option Int32} {i : Int32} {S : CS} {M : MS} {nv : Int64} (hN : NBig N) (hK : 100 ≤ K) (I : Iv S M) (B : ixs L i) (hk : ∀ S' M' nv', Iv S' M' → Sf (k (i + (6 : Int32)) S' M' nv') (fun z => z = 1)) : Sf (flc_21 N K L xs k i S M nv) (fun z => z = 1) := by
  unfold flc_21
  exact (sIfF (B _ (by decide) (by decide)) (sIfF (B _ (by decide) (by decide)) (sBind (pj_rule hN hK I) (fun z1370 I1 => (sIfF (B _ (by decide) (by decide)) (sIfF (B _ (by decide) (by decide)) (sBind I1 (fun z1388 I2 => (hk _ _ _ I2)))))))))
theorem lc_22 {N K L : Nat} {xs : Nat → Int32} {k : Int32 → CS → MS → Int64 → Option Int32} {i : Int32} {S : CS} {M : MS} {nv : Int64} (hN : NBig N) (hK : 100 ≤ K) (I : Iv S M) (B : ixs L i) (hk : ∀ S' M' nv', Iv S' M' → Sf (k (i + (6 : Int32)) S' M' nv') (fun z => z = 1)) : Sf (flc_22 N K L xs k i S M nv) (fun z => z = 1) := by
  unfold flc_22
  exact (sIfF (B _ (by decide) (by decide)) (sIfF (B _ (by decide) (by decide)) (sBind (pj_forgetRule hN hK I) (fun z1410 I1 => (sIfF (B _ (by decide) (by decide)) (sIfF (B _ (by decide) (by decide)) (sBind I1 (fun z1428 I2 => (hk _ _ _ I2)))))))))
theorem lc_23 {N K L : Nat} {xs : Nat → Int32} {k : Int32 → CS → MS → Int64 → Option Int32} {i : Int32} {S : CS} {M : MS} {nv : Int64} (hN : NBig N) (hK : 100 ≤ K) (I : Iv S M) (B : ixs L i) (hk : ∀ S' M' nv', Iv S' M' → Sf (k (i + (6 : Int32)) S' M' nv') (fun z => z = 1)) : Sf (flc_23 N K L xs k i S M nv) (fun z => z = 1) := by
  unfold flc_23
  exact (sIfF (B _ (by decide) (by decide)) (sIfF (B _ (by decide) (by decide)) (sBind (pj_ledger hN hK I) (fun z1450 I1 => (sIfF (B _ (by decide) (by decide)) (sIfF (B _ (by decide) (by decide)) (sBind I1 (fun z1468 I2 => (hk _ _ _ I2)))))))))
theorem lc_24 {N K L : Nat} {xs : Nat → Int32} {k : Int32 → CS → MS → Int64 → Option Int32} {i : Int32} {S : CS} {M : MS} {nv : Int64} (hN : NBig N) (hK : 100 ≤ K) (I : Iv S M) (B : ixs L i) (hk : ∀ S' M' nv', Iv S' M' → Sf (k (i + (6 : Int32)) S' M' nv') (fun z => z = 1)) : Sf (flc_24 N K L xs k i S M nv) (fun z => z = 1) := by
  unfold flc_24
  exact (sIfF (B _ (by decide) (by decide)) (sIfF (B _ (by decide) (by decide)) (sIfF (B _ (by decide) (by decide)) (sBind (pq_ruleWorth hN hK I) (fun z1496 I1 => (sIfF (B _ (by decide) (by decide)) (sIfF (B _ (by decide) (by decide)) (sIfF (B _ (by decide) (by decide)) (sBind I1 (fun z1520 I2 => (sBind aM_thrown (fun z1526 I3 => (sIfT (I3.1.trans I2.1.1) (sIf (fun h0 => (sIfT (lgc (I2.1.2 h0)) (hk _ _ _ (Iv.th I2.2 I3.2)))) (fun _ => (hk _ _ _ (Iv.th I2.2 I3.2)))))))))))))))))
theorem lc_25 {N K L : Nat} {xs : Nat → Int32} {k : Int32 → CS → MS → Int64 → Option Int32} {i : Int32} {S : CS} {M : MS} {nv : Int64} (hN : NBig N) (hK : 100 ≤ K) (I : Iv S M) (B : ixs L i) (hk : ∀ S' M' nv', Iv S' M' → Sf (k (i + (6 : Int32)) S' M' nv') (fun z => z = 1)) : Sf (flc_25 N K L xs k i S M nv) (fun z => z = 1) := by
  unfold flc_25
  exact (sIfF (B _ (by decide) (by decide)) (sIfF (B _ (by decide) (by decide)) (sIfF (B _ (by decide) (by decide)) (sBind (pj_addPart hN hK I) (fun z1577 I1 => (sIfF (B _ (by decide) (by decide)) (sIfF (B _ (by decide) (by decide)) (sIfF (B _ (by decide) (by decide)) (sBind I1 (fun z1601 I2 => (hk _ _ _ I2)))))))))))
theorem lc_26 {N K L : Nat} {xs : Nat → Int32} {k : Int32 → CS → MS → Int64 → Option Int32} {i : Int32} {S : CS} {M : MS} {nv : Int64} (hN : NBig N) (hK : 100 ≤ K) (I : Iv S M) (B : ixs L i) (hk : ∀ S' M' nv', Iv S' M' → Sf (k (i + (6 : Int32)) S' M' nv') (fun z => z = 1)) : Sf (flc_26 N K L xs k i S M nv) (fun z => z = 1) := by
  unfold flc_26
  exact (sIfF (B _ (by decide) (by decide)) (sIfF (B _ (by decide) (by decide)) (sBind (pj_takePart hN hK I) (fun z1623 I1 => (sIfF (B _ (by decide) (by decide)) (sIfF (B _ (by decide) (by decide)) (sBind I1 (fun z1641 I2 => (hk _ _ _ I2)))))))))
theorem lc_27 {N K L : Nat} {xs : Nat → Int32} {k : Int32 → CS → MS → Int64 → Option Int32} {i : Int32} {S : CS} {M : MS} {nv : Int64} (hN : NBig N) (hK : 100 ≤ K) (I : Iv S M) (B : ixs L i) (hk : ∀ S' M' nv', Iv S' M' → Sf (k (i + (6 : Int32)) S' M' nv') (fun z => z = 1)) : Sf (flc_27 N K L xs k i S M nv) (fun z => z = 1) := by
  unfold flc_27
  exact (sIfF (B _ (by decide) (by decide)) (sIfF (B _ (by decide) (by decide)) (sBind (pj_layFirst hN hK I) (fun z1663 I1 => (sIfF (B _ (by decide) (by decide)) (sIfF (B _ (by decide) (by decide)) (sBind I1 (fun z1681 I2 => (hk _ _ _ I2)))))))))
theorem lc_28 {N K L : Nat} {xs : Nat → Int32} {k : Int32 → CS → MS → Int64 → Option Int32} {i : Int32} {S : CS} {M : MS} {nv : Int64} (hN : NBig N) (hK : 100 ≤ K) (I : Iv S M) (B : ixs L i) (hk : ∀ S' M' nv', Iv S' M' → Sf (k (i + (6 : Int32)) S' M' nv') (fun z => z = 1)) : Sf (flc_28 N K L xs k i S M nv) (fun z => z = 1) := by
  unfold flc_28
  exact (sIfF (B _ (by decide) (by decide)) (sBind (pj_next hN hK I) (fun z1697 I1 => (sIfF (B _ (by decide) (by decide)) (sBind I1 (fun z1709 I2 => (hk _ _ _ I2)))))))
theorem lc_29 {N K L : Nat} {xs : Nat → Int32} {k : Int32 → CS → MS → Int64 → Option Int32} {i : Int32} {S : CS} {M : MS} {nv : Int64} (hN : NBig N) (hK : 100 ≤ K) (I : Iv S M) (B : ixs L i) (hk : ∀ S' M' nv', Iv S' M' → Sf (k (i + (6 : Int32)) S' M' nv') (fun z => z = 1)) : Sf (flc_29 N K L xs k i S M nv) (fun z => z = 1) := by
  unfold flc_29
  exact (sIfF (B _ (by decide) (by decide)) (sBind (pj_turn hN hK I) (fun z1725 I1 => (sIfF (B _ (by decide) (by decide)) (sBind I1 (fun z1737 I2 => (hk _ _ _ I2)))))))
theorem lc_30 {N K L : Nat} {xs : Nat → Int32} {k : Int32 → CS → MS → Int64 → Option Int32} {i : Int32} {S : CS} {M : MS} {nv : Int64} (hN : NBig N) (hK : 100 ≤ K) (I : Iv S M) (B : ixs L i) (hk : ∀ S' M' nv', Iv S' M' → Sf (k (i + (6 : Int32)) S' M' nv') (fun z => z = 1)) : Sf (flc_30 N K L xs k i S M nv) (fun z => z = 1) := by
  unfold flc_30
  exact (sIfF (B _ (by decide) (by decide)) (sBind (pj_toUnlike hN hK I) (fun z1753 I1 => (sIfF (B _ (by decide) (by decide)) (sBind I1 (fun z1765 I2 => (hk _ _ _ I2)))))))
theorem lc_31 {N K L : Nat} {xs : Nat → Int32} {k : Int32 → CS → MS → Int64 → Option Int32} {i : Int32} {S : CS} {M : MS} {nv : Int64} (hN : NBig N) (hK : 100 ≤ K) (I : Iv S M) (B : ixs L i) (hk : ∀ S' M' nv', Iv S' M' → Sf (k (i + (6 : Int32)) S' M' nv') (fun z => z = 1)) : Sf (flc_31 N K L xs k i S M nv) (fun z => z = 1) := by
  unfold flc_31
  exact (sIfF (B _ (by decide) (by decide)) (sBind (pj_toOdd hN hK I) (fun z1781 I1 => (sIfF (B _ (by decide) (by decide)) (sBind I1 (fun z1793 I2 => (hk _ _ _ I2)))))))
theorem lc_32 {N K L : Nat} {xs : Nat → Int32} {k : Int32 → CS → MS → Int64 → Option Int32} {i : Int32} {S : CS} {M : MS} {nv : Int64} (hN : NBig N) (hK : 100 ≤ K) (I : Iv S M) (B : ixs L i) (hk : ∀ S' M' nv', Iv S' M' → Sf (k (i + (6 : Int32)) S' M' nv') (fun z => z = 1)) : Sf (flc_32 N K L xs k i S M nv) (fun z => z = 1) := by
  unfold flc_32
  exact (sIfF (B _ (by decide) (by decide)) (sBind (pj_copyDesk hN hK I) (fun z1809 I1 => (sIfF (B _ (by decide) (by decide)) (sBind I1 (fun z1821 I2 => (hk _ _ _ I2)))))))
theorem lc_33 {N K L : Nat} {xs : Nat → Int32} {k : Int32 → CS → MS → Int64 → Option Int32} {i : Int32} {S : CS} {M : MS} {nv : Int64} (hN : NBig N) (hK : 100 ≤ K) (I : Iv S M) (B : ixs L i) (hk : ∀ S' M' nv', Iv S' M' → Sf (k (i + (6 : Int32)) S' M' nv') (fun z => z = 1)) : Sf (flc_33 N K L xs k i S M nv) (fun z => z = 1) := by
  unfold flc_33
  exact (sIfF (B _ (by decide) (by decide)) (sIfF (B _ (by decide) (by decide)) (sBind (pj_times hN hK I) (fun z1843 I1 => (sIfF (B _ (by decide) (by decide)) (sIfF (B _ (by decide) (by decide)) (sBind I1 (fun z1861 I2 => (hk _ _ _ I2)))))))))
theorem lc_34 {N K L : Nat} {xs : Nat → Int32} {k : Int32 → CS → MS → Int64 → Option Int32} {i : Int32} {S : CS} {M : MS} {nv : Int64} (hN : NBig N) (hK : 100 ≤ K) (I : Iv S M) (B : ixs L i) (hk : ∀ S' M' nv', Iv S' M' → Sf (k (i + (6 : Int32)) S' M' nv') (fun z => z = 1)) : Sf (flc_34 N K L xs k i S M nv) (fun z => z = 1) := by
  unfold flc_34
  exact (sIfF (B _ (by decide) (by decide)) (sIfF (B _ (by decide) (by decide)) (sBind (pj_way hN hK I) (fun z1883 I1 => (sIfF (B _ (by decide) (by decide)) (sIfF (B _ (by decide) (by decide)) (sBind I1 (fun z1901 I2 => (hk _ _ _ I2)))))))))
theorem lc_35 {N K L : Nat} {xs : Nat → Int32} {k : Int32 → CS → MS → Int64 → Option Int32} {i : Int32} {S : CS} {M : MS} {nv : Int64} (hN : NBig N) (hK : 100 ≤ K) (I : Iv S M) (B : ixs L i) (hk : ∀ S' M' nv', Iv S' M' → Sf (k (i + (6 : Int32)) S' M' nv') (fun z => z = 1)) : Sf (flc_35 N K L xs k i S M nv) (fun z => z = 1) := by
  unfold flc_35
  exact (sIfF (B _ (by decide) (by decide)) (sBind (pj_wayText hN hK I) (fun z1917 I1 => (sIfF (B _ (by decide) (by decide)) (sBind I1 (fun z1929 I2 => (hk _ _ _ I2)))))))
theorem lc_36 {N K L : Nat} {xs : Nat → Int32} {k : Int32 → CS → MS → Int64 → Option Int32} {i : Int32} {S : CS} {M : MS} {nv : Int64} (hN : NBig N) (hK : 100 ≤ K) (I : Iv S M) (B : ixs L i) (hk : ∀ S' M' nv', Iv S' M' → Sf (k (i + (6 : Int32)) S' M' nv') (fun z => z = 1)) : Sf (flc_36 N K L xs k i S M nv) (fun z => z = 1) := by
  unfold flc_36
  exact (sIfF (B _ (by decide) (by decide)) (sIfF (B _ (by decide) (by decide)) (sIfF (B _ (by decide) (by decide)) (sBind (pj_isOf hN hK I) (fun z1957 I1 => (sIfF (B _ (by decide) (by decide)) (sIfF (B _ (by decide) (by decide)) (sIfF (B _ (by decide) (by decide)) (sBind I1 (fun z1981 I2 => (hk _ _ _ I2)))))))))))
theorem lc_37 {N K L : Nat} {xs : Nat → Int32} {k : Int32 → CS → MS → Int64 → Option Int32} {i : Int32} {S : CS} {M : MS} {nv : Int64} (hN : NBig N) (hK : 100 ≤ K) (I : Iv S M) (B : ixs L i) (hk : ∀ S' M' nv', Iv S' M' → Sf (k (i + (6 : Int32)) S' M' nv') (fun z => z = 1)) : Sf (flc_37 N K L xs k i S M nv) (fun z => z = 1) := by
  unfold flc_37
  exact (sBind (pj_isSameWay hN hK I) (fun z1990 I1 => (sBind I1 (fun z1995 I2 => (hk _ _ _ I2)))))
theorem lc_38 {N K L : Nat} {xs : Nat → Int32} {k : Int32 → CS → MS → Int64 → Option Int32} {i : Int32} {S : CS} {M : MS} {nv : Int64} (hN : NBig N) (hK : 100 ≤ K) (I : Iv S M) (B : ixs L i) (hk : ∀ S' M' nv', Iv S' M' → Sf (k (i + (6 : Int32)) S' M' nv') (fun z => z = 1)) : Sf (flc_38 N K L xs k i S M nv) (fun z => z = 1) := by
  unfold flc_38
  exact (sIfF (B _ (by decide) (by decide)) (sBind (pj_tally hN hK I) (fun z2010 I1 => (sIfF (B _ (by decide) (by decide)) (sBind I1 (fun z2022 I2 => (hk _ _ _ I2)))))))
theorem lc_39 {N K L : Nat} {xs : Nat → Int32} {k : Int32 → CS → MS → Int64 → Option Int32} {i : Int32} {S : CS} {M : MS} {nv : Int64} (hN : NBig N) (hK : 100 ≤ K) (I : Iv S M) (B : ixs L i) (hk : ∀ S' M' nv', Iv S' M' → Sf (k (i + (6 : Int32)) S' M' nv') (fun z => z = 1)) : Sf (flc_39 N K L xs k i S M nv) (fun z => z = 1) := by
  unfold flc_39
  exact (sBind (pj_knock hN hK I) (fun z2031 I1 => (sBind I1 (fun z2036 I2 => (hk _ _ _ I2)))))
theorem lc_40 {N K L : Nat} {xs : Nat → Int32} {k : Int32 → CS → MS → Int64 → Option Int32} {i : Int32} {S : CS} {M : MS} {nv : Int64} (hN : NBig N) (hK : 100 ≤ K) (I : Iv S M) (B : ixs L i) (hk : ∀ S' M' nv', Iv S' M' → Sf (k (i + (6 : Int32)) S' M' nv') (fun z => z = 1)) : Sf (flc_40 N K L xs k i S M nv) (fun z => z = 1) := by
  unfold flc_40
  exact (sIfF (B _ (by decide) (by decide)) (sBind (pj_isSound hN hK I) (fun z2051 I1 => (sIfF (B _ (by decide) (by decide)) (sBind I1 (fun z2063 I2 => (hk _ _ _ I2)))))))
theorem lc_41 {N K L : Nat} {xs : Nat → Int32} {k : Int32 → CS → MS → Int64 → Option Int32} {i : Int32} {S : CS} {M : MS} {nv : Int64} (hN : NBig N) (hK : 100 ≤ K) (I : Iv S M) (B : ixs L i) (hk : ∀ S' M' nv', Iv S' M' → Sf (k (i + (6 : Int32)) S' M' nv') (fun z => z = 1)) : Sf (flc_41 N K L xs k i S M nv) (fun z => z = 1) := by
  unfold flc_41
  exact (sBind (pj_digest hN hK I) (fun z2072 I1 => (sBind I1 (fun z2077 I2 => (hk _ _ _ I2)))))

end MG_61case
section MG_62main
set_option maxHeartbeats 4000000 in
set_option maxRecDepth 100000 in
theorem law_ {N K L : Nat} {xs : Nat → Int32} (hN : NBig N) (hK : 100 ≤ K) (hL : L ≤ 384) : ∀ (fu : Nat) (i : Int32) (S : CS) (M : MS) (nv : Int64), 0 ≤ i.toInt → i.toInt ≤ (L : Int) → (L : Int) < i.toInt + 6 * (fu : Int) → Iv S M → Sf (flaw N K L xs fu i S M nv) (fun z => z = 1) := by
  have q6 : (6 : Int32).toInt = 6 := by decide
  have en : (Int32.ofNat L).toInt = (L : Int) := o_i (by omega)
  have es := subI (a := Int32.ofNat L) (b := (6 : Int32)) (by omega) (by omega)
  intro fu
  induction fu with
  | zero => intro i S M nv h0 h1 h2; omega
  | succ fu ih =>
    intro i S M nv h0 h1 h2 I
    unfold flaw
    refine sIf (fun _ => sRet rfl) (fun h => ?_)
    have h3 : ¬ ((Int32.ofNat L - 6).toInt < i.toInt) := fun z => h (Int32.lt_iff_toInt_lt.mpr z)
    have e6 := addI (a := i) (b := (6 : Int32)) (by omega) (by omega)
    have B : ixs L i := ixs_of h0 (by omega) hL
    have hk : ∀ S' M' nv', Iv S' M' → Sf (flaw N K L xs fu (i + (6 : Int32)) S' M' nv') (fun z => z = 1) := fun S' M' nv' I' => ih _ _ _ _ (by omega) (by omega) (by omega) I'
    refine sIfF (noob h0 (by omega)) ?_
    refine sIf (fun _ => lc_0 hN hK I B hk) (fun _ => ?_)
    refine sIf (fun _ => lc_1 hN hK I B hk) (fun _ => ?_)
    refine sIf (fun _ => lc_2 hN hK I B hk) (fun _ => ?_)
    refine sIf (fun _ => lc_3 hN hK I B hk) (fun _ => ?_)
    refine sIf (fun _ => lc_4 hN hK I B hk) (fun _ => ?_)
    refine sIf (fun _ => lc_5 hN hK I B hk) (fun _ => ?_)
    refine sIf (fun _ => lc_6 hN hK I B hk) (fun _ => ?_)
    refine sIf (fun _ => lc_7 hN hK I B hk) (fun _ => ?_)
    refine sIf (fun _ => lc_8 hN hK I B hk) (fun _ => ?_)
    refine sIf (fun _ => lc_9 hN hK I B hk) (fun _ => ?_)
    refine sIf (fun _ => lc_10 hN hK I B hk) (fun _ => ?_)
    refine sIf (fun _ => lc_11 hN hK I B hk) (fun _ => ?_)
    refine sIf (fun _ => lc_12 hN hK I B hk) (fun _ => ?_)
    refine sIf (fun _ => lc_13 hN hK I B hk) (fun _ => ?_)
    refine sIf (fun _ => lc_14 hN hK I B hk) (fun _ => ?_)
    refine sIf (fun _ => lc_15 hN hK I B hk) (fun _ => ?_)
    refine sIf (fun _ => lc_16 hN hK I B hk) (fun _ => ?_)
    refine sIf (fun _ => lc_17 hN hK I B hk) (fun _ => ?_)
    refine sIf (fun _ => lc_18 hN hK I B hk) (fun _ => ?_)
    refine sIf (fun _ => lc_19 hN hK I B hk) (fun _ => ?_)
    refine sIf (fun _ => lc_20 hN hK I B hk) (fun _ => ?_)
    refine sIf (fun _ => lc_21 hN hK I B hk) (fun _ => ?_)
    refine sIf (fun _ => lc_22 hN hK I B hk) (fun _ => ?_)
    refine sIf (fun _ => lc_23 hN hK I B hk) (fun _ => ?_)
    refine sIf (fun _ => lc_24 hN hK I B hk) (fun _ => ?_)
    refine sIf (fun _ => lc_25 hN hK I B hk) (fun _ => ?_)
    refine sIf (fun _ => lc_26 hN hK I B hk) (fun _ => ?_)
    refine sIf (fun _ => lc_27 hN hK I B hk) (fun _ => ?_)
    refine sIf (fun _ => lc_28 hN hK I B hk) (fun _ => ?_)
    refine sIf (fun _ => lc_29 hN hK I B hk) (fun _ => ?_)
    refine sIf (fun _ => lc_30 hN hK I B hk) (fun _ => ?_)
    refine sIf (fun _ => lc_31 hN hK I B hk) (fun _ => ?_)
    refine sIf (fun _ => lc_32 hN hK I B hk) (fun _ => ?_)
    refine sIf (fun _ => lc_33 hN hK I B hk) (fun _ => ?_)
    refine sIf (fun _ => lc_34 hN hK I B hk) (fun _ => ?_)
    refine sIf (fun _ => lc_35 hN hK I B hk) (fun _ => ?_)
    refine sIf (fun _ => lc_36 hN hK I B hk) (fun _ => ?_)
    refine sIf (fun _ => lc_37 hN hK I B hk) (fun _ => ?_)
    refine sIf (fun _ => lc_38 hN hK I B hk) (fun _ => ?_)
    refine sIf (fun _ => lc_39 hN hK I B hk) (fun _ => ?_)
    refine sIf (fun _ => lc_40 hN hK I B hk) (fun _ => ?_)
    refine sIf (fun _ => lc_41 hN hK I B hk) (fun _ => ?_)
    exact hk _ _ _ I
theorem law_one {L : Nat} (hL : L ≤ 384) (xs : Nat → Int32) : ∃ N K : Nat, K ≤ 100 ∧ flaw0 N K L xs = some 1 := by
  have hN : NBig (2 ^ 100) := Nat.le_refl _
  obtain ⟨x4, x12, h1, h2, h3⟩ := Iv.z (N := 2 ^ 100) (K := 100) hN
  obtain ⟨v, e, rfl⟩ := law_ (xs := xs) hN (Nat.le_refl 100) hL 100 0 _ _ 0 (by decide) (by show (0 : Int) ≤ _; omega) (by show (L : Int) < 0 + 6 * 100; omega) h3
  refine ⟨2 ^ 100, 100, Nat.le_refl _, ?_⟩
  unfold flaw0 fX6_init
  rw [h1, Option.bind_some, h2, Option.bind_some, Option.bind_some]
  exact e

end MG_62main
