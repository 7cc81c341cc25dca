/-! ===== from the methods to the law ===== -/
theorem sMap {U V : Type} {u : Option U} {k : U → V} {Q : U → Prop} {P : V → Prop} (h : Sf u Q) (K : ∀ y, Q y → P (k y)) : Sf (u.map k) P := by
  obtain ⟨y, e, q⟩ := h
  exact ⟨k y, by rw [e]; rfl, K y q⟩
theorem sWb {U T : Type} {b1 b2 : Bool} {u : Option (U ⊕ String)} {kf : U → Option T} {k1 k2 : Option T} {Q : U → Prop} {P : T → Prop} (h : Sf u (xP b1 b2 Q)) (K : ∀ y, Q y → Sf (kf y) P) (h1 : b1 = true → Sf k1 P) (h2 : b2 = true → Sf k2 P) : Sf (wb u kf k1 k2) P := by
  obtain ⟨y, e, q⟩ := h
  rw [e]
  cases y with
  | inl a => exact K a q
  | inr E =>
    rcases q with ⟨a, rfl⟩ | ⟨a, rfl⟩
    · exact h1 a
    · exact h2 a
def OkX (S : CS) : Prop := ∀ j, OkD (S.2.2.1 j)
def OkN (M : MS) : Prop := ∀ j, OkD (M.2.2.1 j)
def c5 (S : CS) : Int32 := S.2.2.2.1 5
def t5 (M : MS) : Int32 := M.2.2.2.1 5
/-- what stays: memories, ledgers, desks -/
def Ux (a b c : Bool) (S z : CS) : Prop := (a = true → z.1 = S.1) ∧ (b = true → z.2.1 = S.2.1) ∧ (c = true → z.2.2.1 = S.2.2.1)
def Um (a b c : Bool) (M z : MS) : Prop := (a = true → z.1 = M.1) ∧ (b = true → z.2.1 = M.2.1) ∧ (c = true → z.2.2.1 = M.2.2.1)
theorem Ux.r {a b c : Bool} {S : CS} : Ux a b c S S := ⟨fun _ => rfl, fun _ => rfl, fun _ => rfl⟩
theorem okd_upm {d : Nat → Nat → Int32} (h : ∀ j, OkD (d j)) {i : Nat} {v : Nat → Int32} (hv : OkD v) : ∀ j, OkD (upm d i v j) := by
  intro j
  unfold upm
  by_cases e : j = i
  · rw [if_pos e]; exact hv
  · rw [if_neg e]; exact h j
/-- an outcome that throws nothing -/
def iL {U : Type} (o : U ⊕ String) : Prop := ∃ z, o = .inl z
theorem nXb {U V : Type} {u : Option (U ⊕ String)} {k : U → Option (V ⊕ String)} {P : V ⊕ String → Prop} (h : Fr u iL) (K : ∀ z, Fr (k z) P) : Fr (xb u k) P := by
  intro x e
  cases u with
  | none => cases e
  | some y =>
    cases y with
    | inl a => exact K a x e
    | inr E => obtain ⟨z, hz⟩ := h _ rfl; cases hz
theorem fIf {T : Type} {P : T → Prop} {C : Prop} {dc : Decidable C} {A B : Option T} (h : ¬ C) (b : Fr B P) : Fr (if C then A else B) P := by rw [if_neg h]; exact b
theorem fIt {T : Type} {P : T → Prop} {C : Prop} {dc : Decidable C} {A B : Option T} (h : C) (b : Fr A P) : Fr (if C then A else B) P := by rw [if_pos h]; exact b
theorem n_X5_memoryAt {N K : Nat} {p0 : Int32} (h1 : ¬ p0 < 0) (h2 : p0 < (3 : Int32)) : Fr (fX5_memoryAt N K p0) iL := by
  unfold fX5_memoryAt
  exact fIf h1 (fIt h2 (fI fN (fR ⟨_, rfl⟩)))
theorem n_X5_ledgerAt {N K : Nat} {p0 : Int32} (h1 : ¬ p0 < 0) (h2 : p0 < (3 : Int32)) : Fr (fX5_ledgerAt N K p0) iL := by
  unfold fX5_ledgerAt
  exact fIf h1 (fIt h2 (fI fN (fR ⟨_, rfl⟩)))
theorem n_X5_deskAt {N K : Nat} {p0 : Int32} (h1 : ¬ p0 < 0) (h2 : p0 < (2 : Int32)) : Fr (fX5_deskAt N K p0) iL := by
  unfold fX5_deskAt
  exact fIf h1 (fIt h2 (fI fN (fR ⟨_, rfl⟩)))
theorem n_X5_checkRange {N K : Nat} {p0 p1 p2 : Int32} (h1 : ¬ p0 < p1) (h2 : p0 ≤ p2) : Fr (fX5_checkRange N K p0 p1 p2) iL := by
  unfold fX5_checkRange
  exact fIf h1 (fIt h2 (fR ⟨_, rfl⟩))
theorem n_X5_about {N K : Nat} {sz : Int32} {f : Nat → Int32} {p0 p1 : Int32} (h1 : ¬ p0 < 0) (h2 : p0 < (3 : Int32)) (h3 : ¬ p1 < (0 : Int32)) (h4 : p1 ≤ (3 : Int32)) : Fr (fX5_about N K sz f p0 p1) iL := by
  unfold fX5_about
  exact nXb (n_X5_memoryAt h1 h2) (fun _ => nXb (n_X5_checkRange h3 h4) (fun _ => fI (fB' (fun _ => fR ⟨_, rfl⟩)) (fI (fB' (fun _ => fR ⟨_, rfl⟩)) (fI (fB' (fun _ => fR ⟨_, rfl⟩)) (fB' (fun _ => fI (fR ⟨_, rfl⟩) (fR ⟨_, rfl⟩)))))))
theorem n_X5_ledger {N K : Nat} {ru sz : Int32} {f : Nat → Int32} {p0 p1 : Int32} (h1 : ¬ p0 < 0) (h2 : p0 < (3 : Int32)) (h3 : ¬ p1 < (0 : Int32)) (h4 : p1 ≤ (1 : Int32)) : Fr (fX5_ledger N K ru sz f p0 p1) iL := by
  unfold fX5_ledger
  exact nXb (n_X5_ledgerAt h1 h2) (fun _ => nXb (n_X5_checkRange h3 h4) (fun _ => fI (fB' (fun _ => fR ⟨_, rfl⟩)) (fB' (fun _ => fR ⟨_, rfl⟩))))
theorem n_X5_times {N K : Nat} {f : Nat → Int32} {p0 p1 : Int32} (h1 : ¬ p0 < 0) (h2 : p0 < (2 : Int32)) (h3 : ¬ p1 < (1 : Int32)) (h4 : p1 ≤ (20 : Int32)) : Fr (fX5_times N K f p0 p1) iL := by
  unfold fX5_times
  exact nXb (n_X5_deskAt h1 h2) (fun _ => nXb (n_X5_checkRange h3 h4) (fun _ => fB' (fun _ => fR ⟨_, rfl⟩)))
theorem n_X5_way {N K : Nat} {f : Nat → Int32} {p0 p1 : Int32} (h1 : ¬ p0 < 0) (h2 : p0 < (2 : Int32)) (h3 : ¬ p1 < (0 : Int32)) (h4 : p1 ≤ (2 : Int32)) : Fr (fX5_way N K f p0 p1) iL := by
  unfold fX5_way
  exact nXb (n_X5_deskAt h1 h2) (fun _ => nXb (n_X5_checkRange h3 h4) (fun _ => fI (fB' (fun _ => fR ⟨_, rfl⟩)) (fI (fB' (fun _ => fR ⟨_, rfl⟩)) (fB' (fun _ => fR ⟨_, rfl⟩)))))
theorem n_X5_tally {N K : Nat} {c0 c1 c2 c3 c4 c5 p0 : Int32} (h3 : ¬ p0 < (0 : Int32)) (h4 : p0 ≤ (5 : Int32)) : Fr (fX5_tally N K c0 c1 c2 c3 c4 c5 p0) iL := by
  unfold fX5_tally
  exact nXb (n_X5_checkRange h3 h4) (fun _ => fI (fR ⟨_, rfl⟩) (fI (fR ⟨_, rfl⟩) (fI (fR ⟨_, rfl⟩) (fI (fR ⟨_, rfl⟩) (fI (fR ⟨_, rfl⟩) (fR ⟨_, rfl⟩))))))
set_option maxRecDepth 100000 in
set_option maxHeartbeats 4000000 in
theorem n_X5_isSameWay {N K : Nat} {f : Nat → Int32} {f2 : Nat → Int32} : Fr (fX5_isSameWay N K f f2) iL := by
  unfold fX5_isSameWay
  exact (nXb (n_X5_deskAt (by decide) (by decide)) (fun x2 => (nXb (n_X5_deskAt (by decide) (by decide)) (fun x7 => (fB' (fun x10 => (fI (fR ⟨_, rfl⟩) fN)))))))
set_option maxRecDepth 100000 in
set_option maxHeartbeats 4000000 in
theorem n_X5_digest {N K : Nat} {ms0 : Int32} {mf0 : Nat → Int32} {ms1 : Int32} {mf1 : Nat → Int32} {ms2 : Int32} {mf2 : Nat → Int32} {ru0 : Int32} {ls0 : Int32} {lf0 : Nat → Int32} {ru1 : Int32} {ls1 : Int32} {lf1 : Nat → Int32} {ru2 : Int32} {ls2 : Int32} {lf2 : Nat → Int32} {df0 : Nat → Int32} {df1 : Nat → Int32} {c0 : Int32} {c1 : Int32} {c2 : Int32} {c3 : Int32} {c4 : Int32} {c5 : Int32} : Fr (fX5_digest N K ms0 mf0 ms1 mf1 ms2 mf2 ru0 ls0 lf0 ru1 ls1 lf1 ru2 ls2 lf2 df0 df1 c0 c1 c2 c3 c4 c5) iL := by
  unfold fX5_digest
  exact (nXb (n_X5_about (by decide) (by decide) (by decide) (by decide)) (fun x19 => (nXb (n_X5_about (by decide) (by decide) (by decide) (by decide)) (fun x33 => (nXb (n_X5_about (by decide) (by decide) (by decide) (by decide)) (fun x19_1 => (nXb (n_X5_about (by decide) (by decide) (by decide) (by decide)) (fun x33_1 => (nXb (n_X5_about (by decide) (by decide) (by decide) (by decide)) (fun x19_2 => (nXb (n_X5_about (by decide) (by decide) (by decide) (by decide)) (fun x33_2 => (nXb (n_X5_ledger (by decide) (by decide) (by decide) (by decide)) (fun x60 => (nXb (n_X5_ledger (by decide) (by decide) (by decide) (by decide)) (fun x74 => (nXb (n_X5_ledger (by decide) (by decide) (by decide) (by decide)) (fun x60_1 => (nXb (n_X5_ledger (by decide) (by decide) (by decide) (by decide)) (fun x74_1 => (nXb (n_X5_ledger (by decide) (by decide) (by decide) (by decide)) (fun x60_2 => (nXb (n_X5_ledger (by decide) (by decide) (by decide) (by decide)) (fun x74_2 => (nXb (n_X5_way (by decide) (by decide) (by decide) (by decide)) (fun x101 => (nXb (n_X5_way (by decide) (by decide) (by decide) (by decide)) (fun x115 => (nXb (n_X5_times (by decide) (by decide) (by decide) (by decide)) (fun x140 => (nXb (n_X5_times (by decide) (by decide) (by decide) (by decide)) (fun x140_1 => (nXb (n_X5_times (by decide) (by decide) (by decide) (by decide)) (fun x140_2 => (nXb (n_X5_times (by decide) (by decide) (by decide) (by decide)) (fun x140_3 => (nXb (n_X5_times (by decide) (by decide) (by decide) (by decide)) (fun x140_4 => (nXb (n_X5_times (by decide) (by decide) (by decide) (by decide)) (fun x140_5 => (nXb (n_X5_times (by decide) (by decide) (by decide) (by decide)) (fun x140_6 => (nXb (n_X5_times (by decide) (by decide) (by decide) (by decide)) (fun x140_7 => (nXb (n_X5_times (by decide) (by decide) (by decide) (by decide)) (fun x140_8 => (nXb (n_X5_times (by decide) (by decide) (by decide) (by decide)) (fun x140_9 => (nXb (n_X5_times (by decide) (by decide) (by decide) (by decide)) (fun x140_10 => (nXb (n_X5_times (by decide) (by decide) (by decide) (by decide)) (fun x140_11 => (nXb (n_X5_times (by decide) (by decide) (by decide) (by decide)) (fun x140_12 => (nXb (n_X5_times (by decide) (by decide) (by decide) (by decide)) (fun x140_13 => (nXb (n_X5_times (by decide) (by decide) (by decide) (by decide)) (fun x140_14 => (nXb (n_X5_times (by decide) (by decide) (by decide) (by decide)) (fun x140_15 => (nXb (n_X5_times (by decide) (by decide) (by decide) (by decide)) (fun x140_16 => (nXb (n_X5_times (by decide) (by decide) (by decide) (by decide)) (fun x140_17 => (nXb (n_X5_times (by decide) (by decide) (by decide) (by decide)) (fun x140_18 => (nXb (n_X5_times (by decide) (by decide) (by decide) (by decide)) (fun x140_19 => (nXb (n_X5_way (by decide) (by decide) (by decide) (by decide)) (fun x101_1 => (nXb (n_X5_way (by decide) (by decide) (by decide) (by decide)) (fun x115_1 => (nXb (n_X5_times (by decide) (by decide) (by decide) (by decide)) (fun x140_20 => (nXb (n_X5_times (by decide) (by decide) (by decide) (by decide)) (fun x140_21 => (nXb (n_X5_times (by decide) (by decide) (by decide) (by decide)) (fun x140_22 => (nXb (n_X5_times (by decide) (by decide) (by decide) (by decide)) (fun x140_23 => (nXb (n_X5_times (by decide) (by decide) (by decide) (by decide)) (fun x140_24 => (nXb (n_X5_times (by decide) (by decide) (by decide) (by decide)) (fun x140_25 => (nXb (n_X5_times (by decide) (by decide) (by decide) (by decide)) (fun x140_26 => (nXb (n_X5_times (by decide) (by decide) (by decide) (by decide)) (fun x140_27 => (nXb (n_X5_times (by decide) (by decide) (by decide) (by decide)) (fun x140_28 => (nXb (n_X5_times (by decide) (by decide) (by decide) (by decide)) (fun x140_29 => (nXb (n_X5_times (by decide) (by decide) (by decide) (by decide)) (fun x140_30 => (nXb (n_X5_times (by decide) (by decide) (by decide) (by decide)) (fun x140_31 => (nXb (n_X5_times (by decide) (by decide) (by decide) (by decide)) (fun x140_32 => (nXb (n_X5_times (by decide) (by decide) (by decide) (by decide)) (fun x140_33 => (nXb (n_X5_times (by decide) (by decide) (by decide) (by decide)) (fun x140_34 => (nXb (n_X5_times (by decide) (by decide) (by decide) (by decide)) (fun x140_35 => (nXb (n_X5_times (by decide) (by decide) (by decide) (by decide)) (fun x140_36 => (nXb (n_X5_times (by decide) (by decide) (by decide) (by decide)) (fun x140_37 => (nXb (n_X5_times (by decide) (by decide) (by decide) (by decide)) (fun x140_38 => (nXb (n_X5_times (by decide) (by decide) (by decide) (by decide)) (fun x140_39 => (nXb (n_X5_tally (by decide) (by decide)) (fun x172 => (nXb (n_X5_tally (by decide) (by decide)) (fun x172_1 => (nXb (n_X5_tally (by decide) (by decide)) (fun x172_2 => (nXb (n_X5_tally (by decide) (by decide)) (fun x172_3 => (nXb (n_X5_tally (by decide) (by decide)) (fun x172_4 => (nXb (n_X5_tally (by decide) (by decide)) (fun x172_5 => (fR ⟨_, rfl⟩)))))))))))))))))))))))))))))))))))))))))))))))))))))))))))))))))))))))))))))))))))))))))))))))))))))))))))))))))))))))))))))
theorem aX_know {N K : Nat} {S : CS} {p0 : Int32} {p1 : Int32} {p2 : Int32} {p3 : Int32} (hN : NBig N) (hK : 100 ≤ K) (h : OkX S) : Sf (gX_know N K S p0 p1 p2 p3) (xP true true (fun (z : Int32 × CS) => OkX z.2 ∧ c5 z.2 = c5 S ∧ Ux false true true S z.2)) := by
  unfold gX_know
  refine sMap (s_X5_know hN hK) (fun o q => ?_)
  cases o with
  | inl z => exact And.intro h (And.intro rfl (And.intro (fun e => Bool.noConfusion e) (And.intro (fun _ => rfl) (fun _ => rfl))))
  | inr E => exact q
theorem aX_few {N K : Nat} {S : CS} {p0 : Int32} {p1 : Int32} {p2 : Int32} (hN : NBig N) (hK : 100 ≤ K) (h : OkX S) : Sf (gX_few N K S p0 p1 p2) (xP true true (fun (z : Int32 × CS) => OkX z.2 ∧ c5 z.2 = c5 S ∧ Ux false true true S z.2)) := by
  unfold gX_few
  refine sMap (s_X5_few hN hK) (fun o q => ?_)
  cases o with
  | inl z => exact And.intro h (And.intro rfl (And.intro (fun e => Bool.noConfusion e) (And.intro (fun _ => rfl) (fun _ => rfl))))
  | inr E => exact q
theorem aX_surplus {N K : Nat} {S : CS} {p0 : Int32} {p1 : Int32} (hN : NBig N) (hK : 100 ≤ K) (h : OkX S) : Sf (gX_surplus N K S p0 p1) (xP true true (fun (z : Int32 × CS) => OkX z.2 ∧ c5 z.2 = c5 S ∧ Ux false true true S z.2)) := by
  unfold gX_surplus
  refine sMap (s_X5_surplus hN hK) (fun o q => ?_)
  cases o with
  | inl z => exact And.intro h (And.intro rfl (And.intro (fun e => Bool.noConfusion e) (And.intro (fun _ => rfl) (fun _ => rfl))))
  | inr E => exact q
theorem aX_place {N K : Nat} {S : CS} {p0 : Int32} {p1 : Int32} (hN : NBig N) (hK : 100 ≤ K) (h : OkX S) : Sf (gX_place N K S p0 p1) (xP true false (fun (z : Int32 × CS) => OkX z.2 ∧ c5 z.2 = c5 S ∧ Ux false true true S z.2)) := by
  unfold gX_place
  refine sMap (s_X5_place hN hK) (fun o q => ?_)
  cases o with
  | inl z => exact And.intro h (And.intro rfl (And.intro (fun e => Bool.noConfusion e) (And.intro (fun _ => rfl) (fun _ => rfl))))
  | inr E => exact q
theorem aX_learn {N K : Nat} {S : CS} {p0 : Int32} {p1 : Int32} {p2 : Int32} {p3 : Int32} (hN : NBig N) (hK : 100 ≤ K) (h : OkX S) : Sf (gX_learn N K S p0 p1 p2 p3) (xP true true (fun (z : Int32 × CS) => OkX z.2 ∧ c5 z.2 = c5 S ∧ Ux false true true S z.2)) := by
  unfold gX_learn
  refine sMap (s_X5_learn hN hK) (fun o q => ?_)
  cases o with
  | inl z => exact And.intro h (And.intro rfl (And.intro (fun e => Bool.noConfusion e) (And.intro (fun _ => rfl) (fun _ => rfl))))
  | inr E => exact q
theorem aX_relearn {N K : Nat} {S : CS} {p0 : Int32} {p1 : Int32} {p2 : Int32} {p3 : Int32} (hN : NBig N) (hK : 100 ≤ K) (h : OkX S) : Sf (gX_relearn N K S p0 p1 p2 p3) (xP true true (fun (z : Int32 × CS) => OkX z.2 ∧ c5 z.2 = c5 S ∧ Ux false true true S z.2)) := by
  unfold gX_relearn
  refine sMap (s_X5_relearn hN hK) (fun o q => ?_)
  cases o with
  | inl z => exact And.intro h (And.intro rfl (And.intro (fun e => Bool.noConfusion e) (And.intro (fun _ => rfl) (fun _ => rfl))))
  | inr E => exact q
theorem aX_forget {N K : Nat} {S : CS} {p0 : Int32} {p1 : Int32} {p2 : Int32} {p3 : Int32} (hN : NBig N) (hK : 100 ≤ K) (h : OkX S) : Sf (gX_forget N K S p0 p1 p2 p3) (xP true true (fun (z : Int32 × CS) => OkX z.2 ∧ c5 z.2 = c5 S ∧ Ux false true true S z.2)) := by
  unfold gX_forget
  refine sMap (s_X5_forget hN hK) (fun o q => ?_)
  cases o with
  | inl z => exact And.intro h (And.intro rfl (And.intro (fun e => Bool.noConfusion e) (And.intro (fun _ => rfl) (fun _ => rfl))))
  | inr E => exact q
theorem aX_forgetIf {N K : Nat} {S : CS} {p0 : Int32} {p1 : Int32} {p2 : Int32} {p3 : Int32} {p4 : Int32} (hN : NBig N) (hK : 100 ≤ K) (h : OkX S) : Sf (gX_forgetIf N K S p0 p1 p2 p3 p4) (xP true true (fun (z : Int32 × CS) => OkX z.2 ∧ c5 z.2 = c5 S ∧ Ux false true true S z.2)) := by
  unfold gX_forgetIf
  refine sMap (s_X5_forgetIf hN hK) (fun o q => ?_)
  cases o with
  | inl z => exact And.intro h (And.intro rfl (And.intro (fun e => Bool.noConfusion e) (And.intro (fun _ => rfl) (fun _ => rfl))))
  | inr E => exact q
theorem aX_forgetAll {N K : Nat} {S : CS} {p0 : Int32} {p1 : Int32} {p2 : Int32} (hN : NBig N) (hK : 100 ≤ K) (h : OkX S) : Sf (gX_forgetAll N K S p0 p1 p2) (xP true true (fun (z : Int32 × CS) => OkX z.2 ∧ c5 z.2 = c5 S ∧ Ux false true true S z.2)) := by
  unfold gX_forgetAll
  refine sMap (s_X5_forgetAll hN hK) (fun o q => ?_)
  cases o with
  | inl z => exact And.intro h (And.intro rfl (And.intro (fun e => Bool.noConfusion e) (And.intro (fun _ => rfl) (fun _ => rfl))))
  | inr E => exact q
theorem aX_clear {N K : Nat} {S : CS} {p0 : Int32} (hN : NBig N) (hK : 100 ≤ K) (h : OkX S) : Sf (gX_clear N K S p0) (xP true false (fun (z : Int32 × CS) => OkX z.2 ∧ c5 z.2 = c5 S ∧ Ux false true true S z.2)) := by
  unfold gX_clear
  refine sMap (s_X5_clear hN hK) (fun o q => ?_)
  cases o with
  | inl z => exact And.intro h (And.intro rfl (And.intro (fun e => Bool.noConfusion e) (And.intro (fun _ => rfl) (fun _ => rfl))))
  | inr E => exact q
theorem aX_copy {N K : Nat} {S : CS} {p0 : Int32} {p1 : Int32} (hN : NBig N) (hK : 100 ≤ K) (h : OkX S) : Sf (gX_copy N K S p0 p1) (xP true false (fun (z : Int32 × CS) => OkX z.2 ∧ c5 z.2 = c5 S ∧ Ux false true true S z.2)) := by
  unfold gX_copy
  by_cases e0 : p0 = p1
  · rw [if_pos e0]
    refine sMap (s_X5_copyOwn hN hK) (fun o q => ?_)
    cases o with
    | inl z => exact And.intro h (And.intro rfl (And.intro (fun e => Bool.noConfusion e) (And.intro (fun _ => rfl) (fun _ => rfl))))
    | inr E => exact q
  · rw [if_neg e0]
    refine sMap (s_X5_copy hN hK) (fun o q => ?_)
    cases o with
    | inl z => exact And.intro h (And.intro rfl (And.intro (fun e => Bool.noConfusion e) (And.intro (fun _ => rfl) (fun _ => rfl))))
    | inr E => exact q
theorem aX_pour {N K : Nat} {S : CS} {p0 : Int32} {p1 : Int32} (hN : NBig N) (hK : 100 ≤ K) (h : OkX S) : Sf (gX_pour N K S p0 p1) (xP true false (fun (z : Int32 × CS) => OkX z.2 ∧ c5 z.2 = c5 S ∧ Ux false true true S z.2)) := by
  unfold gX_pour
  by_cases e0 : p0 = p1
  · rw [if_pos e0]
    refine sMap (s_X5_pourOwn hN hK) (fun o q => ?_)
    cases o with
    | inl z => exact And.intro h (And.intro rfl (And.intro (fun e => Bool.noConfusion e) (And.intro (fun _ => rfl) (fun _ => rfl))))
    | inr E => exact q
  · rw [if_neg e0]
    refine sMap (s_X5_pour hN hK) (fun o q => ?_)
    cases o with
    | inl z => exact And.intro h (And.intro rfl (And.intro (fun e => Bool.noConfusion e) (And.intro (fun _ => rfl) (fun _ => rfl))))
    | inr E => exact q
theorem aX_isKept {N K : Nat} {S : CS} {p0 : Int32} {p1 : Int32} {p2 : Int32} {p3 : Int32} {p4 : Int32} (hN : NBig N) (hK : 100 ≤ K) (h : OkX S) : Sf (gX_isKept N K S p0 p1 p2 p3 p4) (xP true true (fun (z : Int32 × CS) => OkX z.2 ∧ c5 z.2 = c5 S ∧ Ux true true true S z.2)) := by
  unfold gX_isKept
  refine sMap (s_X5_isKept hN hK) (fun o q => ?_)
  cases o with
  | inl z => exact And.intro h (And.intro rfl (And.intro (fun _ => rfl) (And.intro (fun _ => rfl) (fun _ => rfl))))
  | inr E => exact q
theorem aX_worthOr {N K : Nat} {S : CS} {p0 : Int32} {p1 : Int32} {p2 : Int32} {p3 : Int32} {p4 : Int32} (hN : NBig N) (hK : 100 ≤ K) (h : OkX S) : Sf (gX_worthOr N K S p0 p1 p2 p3 p4) (xP true true (fun (z : Int32 × CS) => OkX z.2 ∧ c5 z.2 = c5 S ∧ Ux true true true S z.2)) := by
  unfold gX_worthOr
  refine sMap (s_X5_worthOr hN hK) (fun o q => ?_)
  cases o with
  | inl z => exact And.intro h (And.intro rfl (And.intro (fun _ => rfl) (And.intro (fun _ => rfl) (fun _ => rfl))))
  | inr E => exact q
theorem aX_confirm {N K : Nat} {S : CS} {p0 : Int32} {p1 : Int32} {p2 : Int32} {p3 : Int32} {p4 : Int32} (hN : NBig N) (hK : 100 ≤ K) (h : OkX S) : Sf (gX_confirm N K S p0 p1 p2 p3 p4) (xP true true (fun (z : Int32 × CS) => OkX z.2 ∧ c5 z.2 = c5 S ∧ Ux true true true S z.2)) := by
  unfold gX_confirm
  refine sMap (s_X5_confirm hN hK) (fun o q => ?_)
  cases o with
  | inl z => exact And.intro h (And.intro rfl (And.intro (fun _ => rfl) (And.intro (fun _ => rfl) (fun _ => rfl))))
  | inr E => exact q
theorem aX_about {N K : Nat} {S : CS} {p0 : Int32} {p1 : Int32} (hN : NBig N) (hK : 100 ≤ K) (h : OkX S) : Sf (gX_about N K S p0 p1) (xP true true (fun (z : Int32 × CS) => OkX z.2 ∧ c5 z.2 = c5 S ∧ Ux true true true S z.2)) := by
  unfold gX_about
  refine sMap (s_X5_about hN hK) (fun o q => ?_)
  cases o with
  | inl z => exact And.intro h (And.intro rfl (And.intro (fun _ => rfl) (And.intro (fun _ => rfl) (fun _ => rfl))))
  | inr E => exact q
theorem aX_has {N K : Nat} {S : CS} {p0 : Int32} {p1 : Int32} (hN : NBig N) (hK : 100 ≤ K) (h : OkX S) : Sf (gX_has N K S p0 p1) (xP true false (fun (z : Int32 × CS) => OkX z.2 ∧ c5 z.2 = c5 S ∧ Ux true true true S z.2)) := by
  unfold gX_has
  refine sMap (s_X5_has hN hK) (fun o q => ?_)
  cases o with
  | inl z => exact And.intro h (And.intro rfl (And.intro (fun _ => rfl) (And.intro (fun _ => rfl) (fun _ => rfl))))
  | inr E => exact q
theorem aX_count {N K : Nat} {S : CS} {p0 : Int32} {p1 : Int32} {p2 : Int32} (hN : NBig N) (hK : 100 ≤ K) (h : OkX S) : Sf (gX_count N K S p0 p1 p2) (xP true true (fun (z : Int32 × CS) => OkX z.2 ∧ c5 z.2 = c5 S ∧ Ux true true true S z.2)) := by
  unfold gX_count
  refine sMap (s_X5_count hN hK) (fun o q => ?_)
  cases o with
  | inl z => exact And.intro h (And.intro rfl (And.intro (fun _ => rfl) (And.intro (fun _ => rfl) (fun _ => rfl))))
  | inr E => exact q
theorem aX_isSame {N K : Nat} {S : CS} {p0 : Int32} {p1 : Int32} (hN : NBig N) (hK : 100 ≤ K) (h : OkX S) : Sf (gX_isSame N K S p0 p1) (xP true false (fun (z : Int32 × CS) => OkX z.2 ∧ c5 z.2 = c5 S ∧ Ux true true true S z.2)) := by
  unfold gX_isSame
  by_cases e0 : p0 = p1
  · rw [if_pos e0]
    refine sMap (s_X5_isSameOwn hN hK) (fun o q => ?_)
    cases o with
    | inl z => exact And.intro h (And.intro rfl (And.intro (fun _ => rfl) (And.intro (fun _ => rfl) (fun _ => rfl))))
    | inr E => exact q
  · rw [if_neg e0]
    refine sMap (s_X5_isSame hN hK) (fun o q => ?_)
    cases o with
    | inl z => exact And.intro h (And.intro rfl (And.intro (fun _ => rfl) (And.intro (fun _ => rfl) (fun _ => rfl))))
    | inr E => exact q
theorem aX_walk {N K : Nat} {S : CS} {p0 : Int32} {p1 : Int32} {p2 : Int32} (hN : NBig N) (hK : 100 ≤ K) (h : OkX S) : Sf (gX_walk N K S p0 p1 p2) (xP false true (fun (z : Int32 × CS) => OkX z.2 ∧ c5 z.2 = c5 S ∧ Ux true true true S z.2)) := by
  unfold gX_walk
  refine sMap (s_X5_walk hN hK) (fun o q => ?_)
  cases o with
  | inl z => exact And.intro h (And.intro rfl (And.intro (fun _ => rfl) (And.intro (fun _ => rfl) (fun _ => rfl))))
  | inr E => exact q
theorem aX_product {N K : Nat} {S : CS} {p0 : Int32} {p1 : Int32} {p2 : Int32} (hN : NBig N) (hK : 100 ≤ K) (h : OkX S) : Sf (gX_product N K S p0 p1 p2) (xP false true (fun (z : Int32 × CS) => OkX z.2 ∧ c5 z.2 = c5 S ∧ Ux true true true S z.2)) := by
  unfold gX_product
  refine sMap (s_X5_product hN hK) (fun o q => ?_)
  cases o with
  | inl z => exact And.intro h (And.intro rfl (And.intro (fun _ => rfl) (And.intro (fun _ => rfl) (fun _ => rfl))))
  | inr E => exact q
theorem aX_rule {N K : Nat} {S : CS} {p0 : Int32} {p1 : Int32} (hN : NBig N) (hK : 100 ≤ K) (h : OkX S) : Sf (gX_rule N K S p0 p1) (xP true true (fun (z : Int32 × CS) => OkX z.2 ∧ c5 z.2 = c5 S ∧ Ux true false true S z.2)) := by
  unfold gX_rule
  refine sMap (s_X5_rule hN hK) (fun o q => ?_)
  cases o with
  | inl z => exact And.intro h (And.intro rfl (And.intro (fun _ => rfl) (And.intro (fun e => Bool.noConfusion e) (fun _ => rfl))))
  | inr E => exact q
theorem aX_forgetRule {N K : Nat} {S : CS} {p0 : Int32} {p1 : Int32} (hN : NBig N) (hK : 100 ≤ K) (h : OkX S) : Sf (gX_forgetRule N K S p0 p1) (xP true true (fun (z : Int32 × CS) => OkX z.2 ∧ c5 z.2 = c5 S ∧ Ux true false true S z.2)) := by
  unfold gX_forgetRule
  refine sMap (s_X5_forgetRule hN hK) (fun o q => ?_)
  cases o with
  | inl z => exact And.intro h (And.intro rfl (And.intro (fun _ => rfl) (And.intro (fun e => Bool.noConfusion e) (fun _ => rfl))))
  | inr E => exact q
theorem aX_ledger {N K : Nat} {S : CS} {p0 : Int32} {p1 : Int32} (hN : NBig N) (hK : 100 ≤ K) (h : OkX S) : Sf (gX_ledger N K S p0 p1) (xP true true (fun (z : Int32 × CS) => OkX z.2 ∧ c5 z.2 = c5 S ∧ Ux true true true S z.2)) := by
  unfold gX_ledger
  refine sMap (s_X5_ledger hN hK) (fun o q => ?_)
  cases o with
  | inl z => exact And.intro h (And.intro rfl (And.intro (fun _ => rfl) (And.intro (fun _ => rfl) (fun _ => rfl))))
  | inr E => exact q
theorem aX_ruleWorth {N K : Nat} {S : CS} {p0 : Int32} {p1 : Int32} {p2 : Int32} (hN : NBig N) (hK : 100 ≤ K) (h : OkX S) : Sf (gX_ruleWorth N K S p0 p1 p2) (xP true true (fun (z : Int32 × CS) => OkX z.2 ∧ c5 z.2 = c5 S ∧ Ux true true true S z.2)) := by
  unfold gX_ruleWorth
  refine sMap (s_X5_ruleWorth hN hK) (fun o q => ?_)
  cases o with
  | inl z => exact And.intro h (And.intro rfl (And.intro (fun _ => rfl) (And.intro (fun _ => rfl) (fun _ => rfl))))
  | inr E => exact q
theorem aX_addPart {N K : Nat} {S : CS} {p0 : Int32} {p1 : Int32} {p2 : Int32} (hN : NBig N) (hK : 100 ≤ K) (h : OkX S) : Sf (gX_addPart N K S p0 p1 p2) (xP true true (fun (z : Int32 × CS) => OkX z.2 ∧ c5 z.2 = c5 S ∧ Ux true true false S z.2)) := by
  unfold gX_addPart
  refine sMap (s_X5_addPart hN hK (h _)) (fun o q => ?_)
  cases o with
  | inl z => exact And.intro (okd_upm h q.1) (And.intro rfl (And.intro (fun _ => rfl) (And.intro (fun _ => rfl) (fun e => Bool.noConfusion e))))
  | inr E => exact q
theorem aX_takePart {N K : Nat} {S : CS} {p0 : Int32} {p1 : Int32} (hN : NBig N) (hK : 100 ≤ K) (h : OkX S) : Sf (gX_takePart N K S p0 p1) (xP true true (fun (z : Int32 × CS) => OkX z.2 ∧ c5 z.2 = c5 S ∧ Ux true true false S z.2)) := by
  unfold gX_takePart
  refine sMap (s_X5_takePart hN hK (h _)) (fun o q => ?_)
  cases o with
  | inl z => exact And.intro (okd_upm h q.1) (And.intro rfl (And.intro (fun _ => rfl) (And.intro (fun _ => rfl) (fun e => Bool.noConfusion e))))
  | inr E => exact q
theorem aX_layFirst {N K : Nat} {S : CS} {p0 : Int32} {p1 : Int32} (hN : NBig N) (hK : 100 ≤ K) (h : OkX S) : Sf (gX_layFirst N K S p0 p1) (xP true true (fun (z : Int32 × CS) => OkX z.2 ∧ c5 z.2 = c5 S ∧ Ux true true false S z.2)) := by
  unfold gX_layFirst
  refine sMap (s_X5_layFirst hN hK) (fun o q => ?_)
  cases o with
  | inl z => exact And.intro (okd_upm h q.1) (And.intro rfl (And.intro (fun _ => rfl) (And.intro (fun _ => rfl) (fun e => Bool.noConfusion e))))
  | inr E => exact q
theorem aX_next {N K : Nat} {S : CS} {p0 : Int32} (hN : NBig N) (hK : 100 ≤ K) (h : OkX S) : Sf (gX_next N K S p0) (xP true false (fun (z : Int32 × CS) => OkX z.2 ∧ c5 z.2 = c5 S ∧ Ux true true false S z.2)) := by
  unfold gX_next
  refine sMap (s_X5_next hN hK (h _)) (fun o q => ?_)
  cases o with
  | inl z => exact And.intro (okd_upm h q.1) (And.intro rfl (And.intro (fun _ => rfl) (And.intro (fun _ => rfl) (fun e => Bool.noConfusion e))))
  | inr E => exact q
theorem aX_turn {N K : Nat} {S : CS} {p0 : Int32} (hN : NBig N) (hK : 100 ≤ K) (h : OkX S) : Sf (gX_turn N K S p0) (xP true false (fun (z : Int32 × CS) => OkX z.2 ∧ c5 z.2 = c5 S ∧ Ux true true false S z.2)) := by
  unfold gX_turn
  refine sMap (s_X5_turn hN hK (h _)) (fun o q => ?_)
  cases o with
  | inl z => exact And.intro (okd_upm h q.1) (And.intro rfl (And.intro (fun _ => rfl) (And.intro (fun _ => rfl) (fun e => Bool.noConfusion e))))
  | inr E => exact q
theorem aX_toUnlike {N K : Nat} {S : CS} {p0 : Int32} (hN : NBig N) (hK : 100 ≤ K) (h : OkX S) : Sf (gX_toUnlike N K S p0) (xP true false (fun (z : Int32 × CS) => OkX z.2 ∧ c5 z.2 = c5 S ∧ Ux true true false S z.2)) := by
  unfold gX_toUnlike
  refine sMap (s_X5_toUnlike hN hK (h _)) (fun o q => ?_)
  cases o with
  | inl z => exact And.intro (okd_upm h q.1) (And.intro rfl (And.intro (fun _ => rfl) (And.intro (fun _ => rfl) (fun e => Bool.noConfusion e))))
  | inr E => exact q
theorem aX_toOdd {N K : Nat} {S : CS} {p0 : Int32} (hN : NBig N) (hK : 100 ≤ K) (h : OkX S) : Sf (gX_toOdd N K S p0) (xP true false (fun (z : Int32 × CS) => OkX z.2 ∧ c5 z.2 = c5 S ∧ Ux true true false S z.2)) := by
  unfold gX_toOdd
  refine sMap (s_X5_toOdd hN hK (h _)) (fun o q => ?_)
  cases o with
  | inl z => exact And.intro (okd_upm h q.1) (And.intro rfl (And.intro (fun _ => rfl) (And.intro (fun _ => rfl) (fun e => Bool.noConfusion e))))
  | inr E => exact q
theorem aX_copyDesk {N K : Nat} {S : CS} {p0 : Int32} (hN : NBig N) (hK : 100 ≤ K) (h : OkX S) : Sf (gX_copyDesk N K S p0) (xP true false (fun (z : Int32 × CS) => OkX z.2 ∧ c5 z.2 = c5 S ∧ Ux true true false S z.2)) := by
  unfold gX_copyDesk
  refine sMap (s_X5_copyDesk hN hK (h _)) (fun o q => ?_)
  cases o with
  | inl z => exact And.intro (okd_upm h q.1) (And.intro rfl (And.intro (fun _ => rfl) (And.intro (fun _ => rfl) (fun e => Bool.noConfusion e))))
  | inr E => exact q
theorem aX_times {N K : Nat} {S : CS} {p0 : Int32} {p1 : Int32} (hN : NBig N) (hK : 100 ≤ K) (h : OkX S) : Sf (gX_times N K S p0 p1) (xP true true (fun (z : Int32 × CS) => OkX z.2 ∧ c5 z.2 = c5 S ∧ Ux true true true S z.2)) := by
  unfold gX_times
  refine sMap (s_X5_times hN hK) (fun o q => ?_)
  cases o with
  | inl z => exact And.intro h (And.intro rfl (And.intro (fun _ => rfl) (And.intro (fun _ => rfl) (fun _ => rfl))))
  | inr E => exact q
theorem aX_way {N K : Nat} {S : CS} {p0 : Int32} {p1 : Int32} (hN : NBig N) (hK : 100 ≤ K) (h : OkX S) : Sf (gX_way N K S p0 p1) (xP true true (fun (z : Int32 × CS) => OkX z.2 ∧ c5 z.2 = c5 S ∧ Ux true true true S z.2)) := by
  unfold gX_way
  refine sMap (s_X5_way hN hK) (fun o q => ?_)
  cases o with
  | inl z => exact And.intro h (And.intro rfl (And.intro (fun _ => rfl) (And.intro (fun _ => rfl) (fun _ => rfl))))
  | inr E => exact q
theorem aX_wayText {N K : Nat} {S : CS} {p0 : Int32} (hN : NBig N) (hK : 100 ≤ K) (h : OkX S) : Sf (gX_wayText N K S p0) (xP true false (fun (z : CS) => OkX z ∧ c5 z = c5 S ∧ Ux true true true S z)) := by
  unfold gX_wayText
  refine sMap (s_X5_wayText hN hK (h _)) (fun o q => ?_)
  cases o with
  | inl z => exact And.intro h (And.intro rfl (And.intro (fun _ => rfl) (And.intro (fun _ => rfl) (fun _ => rfl))))
  | inr E => exact q
theorem aX_isOf {N K : Nat} {S : CS} {p0 : Int32} {p1 : Int32} {p2 : Int32} (hN : NBig N) (hK : 100 ≤ K) (h : OkX S) : Sf (gX_isOf N K S p0 p1 p2) (xP true true (fun (z : Int32 × CS) => OkX z.2 ∧ c5 z.2 = c5 S ∧ Ux true true true S z.2)) := by
  unfold gX_isOf
  refine sMap (s_X5_isOf hN hK (h _)) (fun o q => ?_)
  cases o with
  | inl z => exact And.intro h (And.intro rfl (And.intro (fun _ => rfl) (And.intro (fun _ => rfl) (fun _ => rfl))))
  | inr E => exact q
theorem aX_isSameWay {N K : Nat} {S : CS} (hN : NBig N) (hK : 100 ≤ K) (h : OkX S) : Sf (gX_isSameWay N K S ) (fun (z : Int32 × CS) => OkX z.2 ∧ c5 z.2 = c5 S ∧ Ux true true true S z.2) := by
  unfold gX_isSameWay
  refine sBind ((s_X5_isSameWay hN hK).fr n_X5_isSameWay) (fun o q => ?_)
  cases o with
  | inl z => exact sRet (And.intro h (And.intro rfl (And.intro (fun _ => rfl) (And.intro (fun _ => rfl) (fun _ => rfl)))))
  | inr E => obtain ⟨z, hz⟩ := q.2; cases hz
theorem aX_tally {N K : Nat} {S : CS} {p0 : Int32} (hN : NBig N) (hK : 100 ≤ K) (h : OkX S) : Sf (gX_tally N K S p0) (xP false true (fun (z : Int32 × CS) => OkX z.2 ∧ c5 z.2 = c5 S ∧ Ux true true true S z.2)) := by
  unfold gX_tally
  refine sMap (s_X5_tally hN hK) (fun o q => ?_)
  cases o with
  | inl z => exact And.intro h (And.intro rfl (And.intro (fun _ => rfl) (And.intro (fun _ => rfl) (fun _ => rfl))))
  | inr E => exact q
theorem aX_isSound {N K : Nat} {S : CS} {p0 : Int32} (hN : NBig N) (hK : 100 ≤ K) (h : OkX S) : Sf (gX_isSound N K S p0) (xP true false (fun (z : Int32 × CS) => OkX z.2 ∧ c5 z.2 = c5 S ∧ Ux true true true S z.2)) := by
  unfold gX_isSound
  refine sMap (s_X5_isSound hN hK) (fun o q => ?_)
  cases o with
  | inl z => exact And.intro h (And.intro rfl (And.intro (fun _ => rfl) (And.intro (fun _ => rfl) (fun _ => rfl))))
  | inr E => exact q
theorem aX_digest {N K : Nat} {S : CS} (hN : NBig N) (hK : 100 ≤ K) (h : OkX S) : Sf (gX_digest N K S ) (fun (z : Int64 × CS) => OkX z.2 ∧ c5 z.2 = c5 S ∧ Ux true true true S z.2) := by
  unfold gX_digest
  refine sBind ((s_X5_digest hN hK).fr n_X5_digest) (fun o q => ?_)
  cases o with
  | inl z => exact sRet (And.intro h (And.intro rfl (And.intro (fun _ => rfl) (And.intro (fun _ => rfl) (fun _ => rfl)))))
  | inr E => obtain ⟨z, hz⟩ := q.2; cases hz
