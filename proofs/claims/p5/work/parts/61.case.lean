section MG_61case
theorem aM_thrown {N K : Nat} {M : MS} : Sf (gM_thrown N K M) (fun y => y.1 = M.2.2.2.2.2 ∧ y.2 = M) := ⟨_, rfl, rfl, rfl⟩
def Ivd (S : CS) (M : MS) : Prop := ∀ j, DD (S.2.2.1 j) (M.2.2.1 j)
theorem Ivd.x {S : CS} {M : MS} (I : Ivd S M) : OkX S := fun j => by obtain ⟨w, h, _⟩ := I j; exact ⟨w, h⟩
theorem Ivd.m {S : CS} {M : MS} (I : Ivd S M) : OkN M := fun j => by obtain ⟨w, _, h⟩ := I j; exact ⟨w, h⟩
theorem Ivd.st {S S' : CS} {M M' : MS} {a b a' b' : Bool} (I : Ivd S M) (q : OkX S' ∧ c5 S' = c5 S ∧ Ux a b true S S') (q2 : OkN M' ∧ t5 M' = t5 M ∧ Um a' b' true M M') : Ivd S' M' := by
  have e1 := q.2.2.2.2 rfl
  have e2 := q2.2.2.2.2 rfl
  intro j
  rw [e1, e2]
  exact I j
theorem Ivd.th {S : CS} {M M' : MS} (I : Ivd S M) (h : M' = M) : Ivd S M' := by rw [h]; exact I
theorem lgc {a b : Int64} (h : a = b) : lg_cmp a b = 0 := (lg_cmp_eq a b).mpr h
theorem Ivd.z {N K : Nat} (hN : NBig N) : ∃ x4 x12, fX5_init N K = some x4 ∧ fX7_init N K (0 : Int32) = some x12 ∧ Ivd (S0of x4) (M0of x12) := by
  obtain ⟨m, l, -, -, h1⟩ := init_x (N := N) (K := K) hN
  obtain ⟨a, b, c, -, h2⟩ := init_m (N := N) (K := K) hN (th := (0 : Int32))
  refine ⟨_, _, h1, h2, fun j => ?_⟩
  show DD (if j = 0 then (fun _ => 0) else (fun _ => 0)) (if j = 0 then (fun _ => 0) else (fun _ => 0))
  have h0 : Dk (fun _ => 0) (fun _ => 0) := ⟨by rw [wn_0]; omega, fun _ _ _ => rfl⟩
  by_cases e : j = 0
  · rw [if_pos e]; exact ⟨_, h0, h0⟩
  · rw [if_neg e]; exact ⟨_, h0, h0⟩
theorem pjd_knock {N K : Nat} {S : CS} {M : MS} (hN : NBig N) (hK : 100 ≤ K) (I : Ivd S M) : Sf (gX_knock N K S) (fun z => Sf (gM_knock N K M) (fun y => Ivd z.2 y.2)) := ⟨_, rfl, _, rfl, I⟩
theorem pqd_isSameWay {N K : Nat} {S : CS} {M : MS} (hN : NBig N) (hK : 100 ≤ K) (I : Ivd S M) : Sf (gX_isSameWay N K S) (fun z => Sf (gM_isSameWay N K M) (fun y => z.1 = y.1 ∧ Ivd z.2 y.2)) := by
  obtain ⟨b, e1, e2⟩ := ty_isSameWay (N := N) (K := K) (th := M.2.2.2.2.2) hN hK (I 0) (I 1)
  unfold gX_isSameWay gM_isSameWay
  rw [e1, e2]
  exact ⟨_, rfl, _, rfl, rfl, I⟩
theorem pqd_addPart {N K : Nat} {S : CS} {M : MS} {p0 p1 p2 : Int32} {nv : Int64} (hN : NBig N) (hK : 100 ≤ K) (I : Ivd S M) : Sf (gL_addPart N K S p0 p1 p2 nv) (fun z => Sf (gM_addPart N K M p0 p1 p2) (fun y => (y.2.2.2.2.2.2 = z.1 ∧ (z.1 = 0 → z.2.2 = y.1.toInt64)) ∧ Ivd z.2.1 y.2)) := by
  obtain ⟨o, y, e1, e2, q⟩ := ty_addPart (N := N) (K := K) (th := M.2.2.2.2.2) (c0 := S.2.2.2.1 0) (c1 := S.2.2.2.1 1) (c2 := S.2.2.2.1 2) (c3 := S.2.2.2.1 3) (c4 := S.2.2.2.1 4) (c5 := S.2.2.2.1 5) (t := M.2.2.2.1) (p0 := p0) (p1 := p1) (p2 := p2) hN hK (I (ix 2 p0))
  unfold gL_addPart gX_addPart gM_addPart
  rw [e1, e2]
  cases o with
  | inl z => exact ⟨_, rfl, _, rfl, ⟨q.1, fun _ => congrArg Int32.toInt64 q.2.1⟩, dd_upm I q.2.2.1⟩
  | inr E =>
    obtain ⟨q1, q2⟩ := q
    rcases q1 with ⟨rfl, h⟩ | ⟨hb, rfl, h⟩
    · exact ⟨_, wb_io, _, rfl, ⟨h, fun e => ne1 e⟩, dd_same I q2.1⟩
    · exact ⟨_, wb_ia, _, rfl, ⟨h, fun e => ne2 e⟩, dd_same I q2.1⟩
theorem pjd_addPart {N K : Nat} {S : CS} {M : MS} {p0 p1 p2 : Int32} {nv : Int64} (hN : NBig N) (hK : 100 ≤ K) (I : Ivd S M) : Sf (gL_addPart N K S p0 p1 p2 nv) (fun z => Sf (gM_addPart N K M p0 p1 p2) (fun y => Ivd z.2.1 y.2)) := sMono (pqd_addPart hN hK I) (fun z h => sMono h (fun y q => q.2))
theorem pqd_takePart {N K : Nat} {S : CS} {M : MS} {p0 p1 : Int32} {nv : Int64} (hN : NBig N) (hK : 100 ≤ K) (I : Ivd S M) : Sf (gL_takePart N K S p0 p1 nv) (fun z => Sf (gM_takePart N K M p0 p1) (fun y => (y.2.2.2.2.2.2 = z.1 ∧ (z.1 = 0 → z.2.2 = y.1.toInt64)) ∧ Ivd z.2.1 y.2)) := by
  obtain ⟨o, y, e1, e2, q⟩ := ty_takePart (N := N) (K := K) (th := M.2.2.2.2.2) (c0 := S.2.2.2.1 0) (c1 := S.2.2.2.1 1) (c2 := S.2.2.2.1 2) (c3 := S.2.2.2.1 3) (c4 := S.2.2.2.1 4) (c5 := S.2.2.2.1 5) (t := M.2.2.2.1) (p0 := p0) (p1 := p1) hN hK (I (ix 2 p0))
  unfold gL_takePart gX_takePart gM_takePart
  rw [e1, e2]
  cases o with
  | inl z => exact ⟨_, rfl, _, rfl, ⟨q.1, fun _ => congrArg Int32.toInt64 q.2.1⟩, dd_upm I q.2.2.1⟩
  | inr E =>
    obtain ⟨q1, q2⟩ := q
    rcases q1 with ⟨rfl, h⟩ | ⟨hb, rfl, h⟩
    · exact ⟨_, wb_io, _, rfl, ⟨h, fun e => ne1 e⟩, dd_same I q2.1⟩
    · exact ⟨_, wb_ia, _, rfl, ⟨h, fun e => ne2 e⟩, dd_same I q2.1⟩
theorem pjd_takePart {N K : Nat} {S : CS} {M : MS} {p0 p1 : Int32} {nv : Int64} (hN : NBig N) (hK : 100 ≤ K) (I : Ivd S M) : Sf (gL_takePart N K S p0 p1 nv) (fun z => Sf (gM_takePart N K M p0 p1) (fun y => Ivd z.2.1 y.2)) := sMono (pqd_takePart hN hK I) (fun z h => sMono h (fun y q => q.2))
theorem pqd_layFirst {N K : Nat} {S : CS} {M : MS} {p0 p1 : Int32} {nv : Int64} (hN : NBig N) (hK : 100 ≤ K) (I : Ivd S M) : Sf (gL_layFirst N K S p0 p1 nv) (fun z => Sf (gM_layFirst N K M p0 p1) (fun y => (y.2.2.2.2.2.2 = z.1 ∧ (z.1 = 0 → z.2.2 = y.1.toInt64)) ∧ Ivd z.2.1 y.2)) := by
  obtain ⟨o, y, e1, e2, q⟩ := ty_layFirst (N := N) (K := K) (th := M.2.2.2.2.2) (c0 := S.2.2.2.1 0) (c1 := S.2.2.2.1 1) (c2 := S.2.2.2.1 2) (c3 := S.2.2.2.1 3) (c4 := S.2.2.2.1 4) (c5 := S.2.2.2.1 5) (t := M.2.2.2.1) (p0 := p0) (p1 := p1) hN hK (I (ix 2 p0))
  unfold gL_layFirst gX_layFirst gM_layFirst
  rw [e1, e2]
  cases o with
  | inl z => exact ⟨_, rfl, _, rfl, ⟨q.1, fun _ => congrArg Int32.toInt64 q.2.1⟩, dd_upm I q.2.2.1⟩
  | inr E =>
    obtain ⟨q1, q2⟩ := q
    rcases q1 with ⟨rfl, h⟩ | ⟨hb, rfl, h⟩
    · exact ⟨_, wb_io, _, rfl, ⟨h, fun e => ne1 e⟩, dd_same I q2.1⟩
    · exact ⟨_, wb_ia, _, rfl, ⟨h, fun e => ne2 e⟩, dd_same I q2.1⟩
theorem pjd_layFirst {N K : Nat} {S : CS} {M : MS} {p0 p1 : Int32} {nv : Int64} (hN : NBig N) (hK : 100 ≤ K) (I : Ivd S M) : Sf (gL_layFirst N K S p0 p1 nv) (fun z => Sf (gM_layFirst N K M p0 p1) (fun y => Ivd z.2.1 y.2)) := sMono (pqd_layFirst hN hK I) (fun z h => sMono h (fun y q => q.2))
theorem pqd_next {N K : Nat} {S : CS} {M : MS} {p0 : Int32} {nv : Int64} (hN : NBig N) (hK : 100 ≤ K) (I : Ivd S M) : Sf (gL_next N K S p0 nv) (fun z => Sf (gM_next N K M p0) (fun y => (y.2.2.2.2.2.2 = z.1 ∧ (z.1 = 0 → z.2.2 = y.1.toInt64)) ∧ Ivd z.2.1 y.2)) := by
  obtain ⟨o, y, e1, e2, q⟩ := ty_next (N := N) (K := K) (th := M.2.2.2.2.2) (c0 := S.2.2.2.1 0) (c1 := S.2.2.2.1 1) (c2 := S.2.2.2.1 2) (c3 := S.2.2.2.1 3) (c4 := S.2.2.2.1 4) (c5 := S.2.2.2.1 5) (t := M.2.2.2.1) (p0 := p0) hN hK (I (ix 2 p0))
  unfold gL_next gX_next gM_next
  rw [e1, e2]
  cases o with
  | inl z => exact ⟨_, rfl, _, rfl, ⟨q.1, fun _ => congrArg Int32.toInt64 q.2.1⟩, dd_upm I q.2.2.1⟩
  | inr E =>
    obtain ⟨q1, q2⟩ := q
    rcases q1 with ⟨rfl, h⟩ | ⟨hb, rfl, h⟩
    · exact ⟨_, wb_io, _, rfl, ⟨h, fun e => ne1 e⟩, dd_same I q2.1⟩
    · cases hb
theorem pjd_next {N K : Nat} {S : CS} {M : MS} {p0 : Int32} {nv : Int64} (hN : NBig N) (hK : 100 ≤ K) (I : Ivd S M) : Sf (gL_next N K S p0 nv) (fun z => Sf (gM_next N K M p0) (fun y => Ivd z.2.1 y.2)) := sMono (pqd_next hN hK I) (fun z h => sMono h (fun y q => q.2))
theorem pqd_turn {N K : Nat} {S : CS} {M : MS} {p0 : Int32} {nv : Int64} (hN : NBig N) (hK : 100 ≤ K) (I : Ivd S M) : Sf (gL_turn N K S p0 nv) (fun z => Sf (gM_turn N K M p0) (fun y => (y.2.2.2.2.2.2 = z.1 ∧ (z.1 = 0 → z.2.2 = y.1.toInt64)) ∧ Ivd z.2.1 y.2)) := by
  obtain ⟨o, y, e1, e2, q⟩ := ty_turn (N := N) (K := K) (th := M.2.2.2.2.2) (c0 := S.2.2.2.1 0) (c1 := S.2.2.2.1 1) (c2 := S.2.2.2.1 2) (c3 := S.2.2.2.1 3) (c4 := S.2.2.2.1 4) (c5 := S.2.2.2.1 5) (t := M.2.2.2.1) (fs := S.2.2.2.2.2.2) (p0 := p0) hN hK (I (ix 2 p0))
  unfold gL_turn gX_turn gM_turn
  rw [e1, e2]
  cases o with
  | inl z => exact ⟨_, rfl, _, rfl, ⟨q.1, fun _ => congrArg Int32.toInt64 q.2.1⟩, dd_upm I q.2.2.1⟩
  | inr E =>
    obtain ⟨q1, q2⟩ := q
    rcases q1 with ⟨rfl, h⟩ | ⟨hb, rfl, h⟩
    · exact ⟨_, wb_io, _, rfl, ⟨h, fun e => ne1 e⟩, dd_same I q2.1⟩
    · cases hb
theorem pjd_turn {N K : Nat} {S : CS} {M : MS} {p0 : Int32} {nv : Int64} (hN : NBig N) (hK : 100 ≤ K) (I : Ivd S M) : Sf (gL_turn N K S p0 nv) (fun z => Sf (gM_turn N K M p0) (fun y => Ivd z.2.1 y.2)) := sMono (pqd_turn hN hK I) (fun z h => sMono h (fun y q => q.2))
theorem pqd_toUnlike {N K : Nat} {S : CS} {M : MS} {p0 : Int32} {nv : Int64} (hN : NBig N) (hK : 100 ≤ K) (I : Ivd S M) : Sf (gL_toUnlike N K S p0 nv) (fun z => Sf (gM_toUnlike N K M p0) (fun y => (y.2.2.2.2.2.2 = z.1 ∧ (z.1 = 0 → z.2.2 = y.1.toInt64)) ∧ Ivd z.2.1 y.2)) := by
  obtain ⟨o, y, e1, e2, q⟩ := ty_toUnlike (N := N) (K := K) (th := M.2.2.2.2.2) (c0 := S.2.2.2.1 0) (c1 := S.2.2.2.1 1) (c2 := S.2.2.2.1 2) (c3 := S.2.2.2.1 3) (c4 := S.2.2.2.1 4) (c5 := S.2.2.2.1 5) (t := M.2.2.2.1) (fs := S.2.2.2.2.2.2) (p0 := p0) hN hK (I (ix 2 p0))
  unfold gL_toUnlike gX_toUnlike gM_toUnlike
  rw [e1, e2]
  cases o with
  | inl z => exact ⟨_, rfl, _, rfl, ⟨q.1, fun _ => congrArg Int32.toInt64 q.2.1⟩, dd_upm I q.2.2.1⟩
  | inr E =>
    obtain ⟨q1, q2⟩ := q
    rcases q1 with ⟨rfl, h⟩ | ⟨hb, rfl, h⟩
    · exact ⟨_, wb_io, _, rfl, ⟨h, fun e => ne1 e⟩, dd_same I q2.1⟩
    · cases hb
theorem pjd_toUnlike {N K : Nat} {S : CS} {M : MS} {p0 : Int32} {nv : Int64} (hN : NBig N) (hK : 100 ≤ K) (I : Ivd S M) : Sf (gL_toUnlike N K S p0 nv) (fun z => Sf (gM_toUnlike N K M p0) (fun y => Ivd z.2.1 y.2)) := sMono (pqd_toUnlike hN hK I) (fun z h => sMono h (fun y q => q.2))
theorem pqd_toOdd {N K : Nat} {S : CS} {M : MS} {p0 : Int32} {nv : Int64} (hN : NBig N) (hK : 100 ≤ K) (I : Ivd S M) : Sf (gL_toOdd N K S p0 nv) (fun z => Sf (gM_toOdd N K M p0) (fun y => (y.2.2.2.2.2.2 = z.1 ∧ (z.1 = 0 → z.2.2 = y.1.toInt64)) ∧ Ivd z.2.1 y.2)) := by
  obtain ⟨o, y, e1, e2, q⟩ := ty_toOdd (N := N) (K := K) (th := M.2.2.2.2.2) (c0 := S.2.2.2.1 0) (c1 := S.2.2.2.1 1) (c2 := S.2.2.2.1 2) (c3 := S.2.2.2.1 3) (c4 := S.2.2.2.1 4) (c5 := S.2.2.2.1 5) (t := M.2.2.2.1) (fs := S.2.2.2.2.2.2) (p0 := p0) hN hK (I (ix 2 p0))
  unfold gL_toOdd gX_toOdd gM_toOdd
  rw [e1, e2]
  cases o with
  | inl z => exact ⟨_, rfl, _, rfl, ⟨q.1, fun _ => congrArg Int32.toInt64 q.2.1⟩, dd_upm I q.2.2.1⟩
  | inr E =>
    obtain ⟨q1, q2⟩ := q
    rcases q1 with ⟨rfl, h⟩ | ⟨hb, rfl, h⟩
    · exact ⟨_, wb_io, _, rfl, ⟨h, fun e => ne1 e⟩, dd_same I q2.1⟩
    · cases hb
theorem pjd_toOdd {N K : Nat} {S : CS} {M : MS} {p0 : Int32} {nv : Int64} (hN : NBig N) (hK : 100 ≤ K) (I : Ivd S M) : Sf (gL_toOdd N K S p0 nv) (fun z => Sf (gM_toOdd N K M p0) (fun y => Ivd z.2.1 y.2)) := sMono (pqd_toOdd hN hK I) (fun z h => sMono h (fun y q => q.2))
theorem pqd_copyDesk {N K : Nat} {S : CS} {M : MS} {p0 : Int32} {nv : Int64} (hN : NBig N) (hK : 100 ≤ K) (I : Ivd S M) : Sf (gL_copyDesk N K S p0 nv) (fun z => Sf (gM_copyDesk N K M p0) (fun y => (y.2.2.2.2.2.2 = z.1 ∧ (z.1 = 0 → z.2.2 = y.1.toInt64)) ∧ Ivd z.2.1 y.2)) := by
  obtain ⟨o, y, e1, e2, q⟩ := ty_copyDesk (N := N) (K := K) (th := M.2.2.2.2.2) (c0 := S.2.2.2.1 0) (c1 := S.2.2.2.1 1) (c2 := S.2.2.2.1 2) (c3 := S.2.2.2.1 3) (c4 := S.2.2.2.1 4) (c5 := S.2.2.2.1 5) (t := M.2.2.2.1) (f2 := S.2.2.1 (1 - ix 2 p0)) (g2 := M.2.2.1 (1 - ix 2 p0)) (p0 := p0) hN hK (I (ix 2 p0))
  unfold gL_copyDesk gX_copyDesk gM_copyDesk
  rw [e1, e2]
  cases o with
  | inl z => exact ⟨_, rfl, _, rfl, ⟨q.1, fun _ => congrArg Int32.toInt64 q.2.1⟩, dd_upm I q.2.2.1⟩
  | inr E =>
    obtain ⟨q1, q2⟩ := q
    rcases q1 with ⟨rfl, h⟩ | ⟨hb, rfl, h⟩
    · exact ⟨_, wb_io, _, rfl, ⟨h, fun e => ne1 e⟩, dd_same I q2.1⟩
    · cases hb
theorem pjd_copyDesk {N K : Nat} {S : CS} {M : MS} {p0 : Int32} {nv : Int64} (hN : NBig N) (hK : 100 ≤ K) (I : Ivd S M) : Sf (gL_copyDesk N K S p0 nv) (fun z => Sf (gM_copyDesk N K M p0) (fun y => Ivd z.2.1 y.2)) := sMono (pqd_copyDesk hN hK I) (fun z h => sMono h (fun y q => q.2))
theorem pqd_times {N K : Nat} {S : CS} {M : MS} {p0 p1 : Int32} {nv : Int64} (hN : NBig N) (hK : 100 ≤ K) (I : Ivd S M) : Sf (gL_times N K S p0 p1 nv) (fun z => Sf (gM_times N K M p0 p1) (fun y => (y.2.2.2.2.2.2 = z.1 ∧ (z.1 = 0 → z.2.2 = y.1.toInt64)) ∧ Ivd z.2.1 y.2)) := by
  obtain ⟨o, y, e1, e2, q⟩ := ty_times (N := N) (K := K) (th := M.2.2.2.2.2) (p0 := p0) (p1 := p1) hN hK (I (ix 2 p0))
  unfold gL_times gX_times gM_times
  rw [e1, e2]
  cases o with
  | inl z => exact ⟨_, rfl, _, rfl, ⟨q.1, fun _ => congrArg Int32.toInt64 q.2⟩, I⟩
  | inr E =>
    obtain ⟨q1, q2⟩ := q
    rcases q1 with ⟨rfl, h⟩ | ⟨hb, rfl, h⟩
    · exact ⟨_, wb_io, _, rfl, ⟨h, fun e => ne1 e⟩, I⟩
    · exact ⟨_, wb_ia, _, rfl, ⟨h, fun e => ne2 e⟩, I⟩
theorem pqd_way {N K : Nat} {S : CS} {M : MS} {p0 p1 : Int32} {nv : Int64} (hN : NBig N) (hK : 100 ≤ K) (I : Ivd S M) : Sf (gL_way N K S p0 p1 nv) (fun z => Sf (gM_way N K M p0 p1) (fun y => (y.2.2.2.2.2.2 = z.1 ∧ (z.1 = 0 → z.2.2 = y.1.toInt64)) ∧ Ivd z.2.1 y.2)) := by
  obtain ⟨o, y, e1, e2, q⟩ := ty_way (N := N) (K := K) (th := M.2.2.2.2.2) (p0 := p0) (p1 := p1) hN hK (I (ix 2 p0))
  unfold gL_way gX_way gM_way
  rw [e1, e2]
  cases o with
  | inl z => exact ⟨_, rfl, _, rfl, ⟨q.1, fun _ => congrArg Int32.toInt64 q.2⟩, I⟩
  | inr E =>
    obtain ⟨q1, q2⟩ := q
    rcases q1 with ⟨rfl, h⟩ | ⟨hb, rfl, h⟩
    · exact ⟨_, wb_io, _, rfl, ⟨h, fun e => ne1 e⟩, I⟩
    · exact ⟨_, wb_ia, _, rfl, ⟨h, fun e => ne2 e⟩, I⟩
theorem Sf.and {T : Type} {o : Option T} {P Q : T → Prop} (h : Sf o P) (g : Sf o Q) : Sf o (fun z => P z ∧ Q z) := by
  obtain ⟨x, e, p⟩ := h
  obtain ⟨y, e2, q⟩ := g
  rw [e] at e2
  obtain rfl := Option.some.inj e2
  exact ⟨x, e, p, q⟩
def MM (a : Nat → Int32 × (Nat → Int32)) (b : Nat → Nat → Int32) : Prop := ∀ j, MT (a j).1 (a j).2 (b j)
theorem mm_upm {a : Nat → Int32 × (Nat → Int32)} {b : Nat → Nat → Int32} {i : Nat} {s : Int32} {v v' : Nat → Int32} (h : MM a b) (hv : MT s v v') : MM (upm a i (s, v)) (upm b i v') := by
  intro j
  unfold upm
  by_cases c : j = i
  · rw [if_pos c, if_pos c]; exact hv
  · rw [if_neg c, if_neg c]; exact h j
theorem mm_same {a : Nat → Int32 × (Nat → Int32)} {b : Nat → Nat → Int32} {i : Nat} {v' : Nat → Int32} (h : MM a b) (hv : v' = b i) : MM a (upm b i v') := by
  intro j
  unfold upm
  by_cases c : j = i
  · rw [if_pos c, hv, c]; exact h i
  · rw [if_neg c]; exact h j
def Iv (S : CS) (M : MS) : Prop := Ivd S M ∧ MM S.1 M.1
theorem Iv.x {S : CS} {M : MS} (I : Iv S M) : OkX S := Ivd.x I.1
theorem Iv.m {S : CS} {M : MS} (I : Iv S M) : OkN M := Ivd.m I.1
theorem Iv.st {S S' : CS} {M M' : MS} {b b' : Bool} (I : Iv S M) (q : OkX S' ∧ c5 S' = c5 S ∧ Ux true b true S S') (q2 : OkN M' ∧ t5 M' = t5 M ∧ Um true b' true M M') : Iv S' M' := by
  refine ⟨Ivd.st I.1 q q2, ?_⟩
  have e1 := q.2.2.1 rfl
  have e2 := q2.2.2.1 rfl
  rw [e1, e2]
  exact I.2
theorem Iv.th {S : CS} {M M' : MS} (I : Iv S M) (h : M' = M) : Iv S M' := by rw [h]; exact I
theorem Iv.z {N K : Nat} (hN : NBig N) : ∃ x4 x12, fX5_init N K = some x4 ∧ fX7_init N K (0 : Int32) = some x12 ∧ Iv (S0of x4) (M0of x12) := by
  obtain ⟨m, l, m0, -, h1⟩ := init_x (N := N) (K := K) hN
  obtain ⟨a, b, c, m1, h2⟩ := init_m (N := N) (K := K) hN (th := (0 : Int32))
  refine ⟨_, _, h1, h2, fun j => ?_, fun j => ?_⟩
  · show DD (if j = 0 then (fun _ => 0) else (fun _ => 0)) (if j = 0 then (fun _ => 0) else (fun _ => 0))
    have h0 : Dk (fun _ => 0) (fun _ => 0) := ⟨by rw [wn_0]; omega, fun _ _ _ => rfl⟩
    by_cases e : j = 0
    · rw [if_pos e]; exact ⟨_, h0, h0⟩
    · rw [if_neg e]; exact ⟨_, h0, h0⟩
  · have hm : ∀ s, s < 2646 → m s = -1 := fun s hs => (m0 s).trans (if_pos hs)
    show MT (if j = 0 then ((0 : Int32), m) else if j = 1 then ((0 : Int32), m) else ((0 : Int32), m)).1 (if j = 0 then ((0 : Int32), m) else if j = 1 then ((0 : Int32), m) else ((0 : Int32), m)).2 (if j = 0 then a else if j = 1 then b else c)
    by_cases e : j = 0
    · rw [if_pos e, if_pos e]; exact mt_none hm (fun s hs => (m1 s hs).1)
    · rw [if_neg e, if_neg e]
      by_cases e2 : j = 1
      · rw [if_pos e2, if_pos e2]; exact mt_none hm (fun s hs => (m1 s hs).2.1)
      · rw [if_neg e2, if_neg e2]; exact mt_none hm (fun s hs => (m1 s hs).2.2)
theorem pj_knock {N K : Nat} {S : CS} {M : MS} (hN : NBig N) (hK : 100 ≤ K) (I : Iv S M) : Sf (gX_knock N K S) (fun z => Sf (gM_knock N K M) (fun y => Iv z.2 y.2)) := ⟨_, rfl, _, rfl, I⟩
theorem pq_know {N K : Nat} {S : CS} {M : MS} {p0 p1 p2 p3 : Int32} {nv : Int64} (hN : NBig N) (hK : 100 ≤ K) (I : Iv S M) : Sf (gL_know N K S p0 p1 p2 p3 nv) (fun z => Sf (gM_know N K M p0 p1 p2 p3) (fun y => (y.2.2.2.2.2.2 = z.1 ∧ (z.1 = 0 → z.2.2 = y.1.toInt64)) ∧ Iv z.2.1 y.2)) := by
  obtain ⟨o, y, e1, e2, q⟩ := ty_know (N := N) (K := K) (th := M.2.2.2.2.2) (c0 := S.2.2.2.1 0) (c1 := S.2.2.2.1 1) (c2 := S.2.2.2.1 2) (c3 := S.2.2.2.1 3) (c4 := S.2.2.2.1 4) (c5 := S.2.2.2.1 5) (t := M.2.2.2.1) (u := M.2.2.2.2.1) (p0 := p0) (p1 := p1) (p2 := p2) (p3 := p3) hN hK (I.2 (ix 3 p0))
  unfold gL_know gX_know gM_know
  rw [e1, e2]
  cases o with
  | inl z => exact ⟨_, rfl, _, rfl, ⟨q.1, fun _ => congrArg Int32.toInt64 q.2.1⟩, ⟨I.1, mm_upm I.2 q.2.2.1⟩⟩
  | inr E =>
    obtain ⟨q1, q2⟩ := q
    rcases q1 with ⟨rfl, h⟩ | ⟨hb, rfl, h⟩
    · exact ⟨_, wb_io, _, rfl, ⟨h, fun e => ne1 e⟩, ⟨I.1, mm_same I.2 q2.1⟩⟩
    · exact ⟨_, wb_ia, _, rfl, ⟨h, fun e => ne2 e⟩, ⟨I.1, mm_same I.2 q2.1⟩⟩
theorem pj_know {N K : Nat} {S : CS} {M : MS} {p0 p1 p2 p3 : Int32} {nv : Int64} (hN : NBig N) (hK : 100 ≤ K) (I : Iv S M) : Sf (gL_know N K S p0 p1 p2 p3 nv) (fun z => Sf (gM_know N K M p0 p1 p2 p3) (fun y => Iv z.2.1 y.2)) := sMono (pq_know hN hK I) (fun z h => sMono h (fun y q => q.2))
theorem pq_few {N K : Nat} {S : CS} {M : MS} {p0 p1 p2 : Int32} {nv : Int64} (hN : NBig N) (hK : 100 ≤ K) (I : Iv S M) : Sf (gL_few N K S p0 p1 p2 nv) (fun z => Sf (gM_few N K M p0 p1 p2) (fun y => (y.2.2.2.2.2.2 = z.1 ∧ (z.1 = 0 → z.2.2 = y.1.toInt64)) ∧ Iv z.2.1 y.2)) := by
  obtain ⟨o, y, e1, e2, q⟩ := ty_few (N := N) (K := K) (th := M.2.2.2.2.2) (c0 := S.2.2.2.1 0) (c1 := S.2.2.2.1 1) (c2 := S.2.2.2.1 2) (c3 := S.2.2.2.1 3) (c4 := S.2.2.2.1 4) (c5 := S.2.2.2.1 5) (t := M.2.2.2.1) (u := M.2.2.2.2.1) (p0 := p0) (p1 := p1) (p2 := p2) hN hK (I.2 (ix 3 p0))
  unfold gL_few gX_few gM_few
  rw [e1, e2]
  cases o with
  | inl z => exact ⟨_, rfl, _, rfl, ⟨q.1, fun _ => congrArg Int32.toInt64 q.2.1⟩, ⟨I.1, mm_upm I.2 q.2.2.1⟩⟩
  | inr E =>
    obtain ⟨q1, q2⟩ := q
    rcases q1 with ⟨rfl, h⟩ | ⟨hb, rfl, h⟩
    · exact ⟨_, wb_io, _, rfl, ⟨h, fun e => ne1 e⟩, ⟨I.1, mm_same I.2 q2.1⟩⟩
    · exact ⟨_, wb_ia, _, rfl, ⟨h, fun e => ne2 e⟩, ⟨I.1, mm_same I.2 q2.1⟩⟩
theorem pj_few {N K : Nat} {S : CS} {M : MS} {p0 p1 p2 : Int32} {nv : Int64} (hN : NBig N) (hK : 100 ≤ K) (I : Iv S M) : Sf (gL_few N K S p0 p1 p2 nv) (fun z => Sf (gM_few N K M p0 p1 p2) (fun y => Iv z.2.1 y.2)) := sMono (pq_few hN hK I) (fun z h => sMono h (fun y q => q.2))
theorem pq_surplus {N K : Nat} {S : CS} {M : MS} {p0 p1 : Int32} {nv : Int64} (hN : NBig N) (hK : 100 ≤ K) (I : Iv S M) : Sf (gL_surplus N K S p0 p1 nv) (fun z => Sf (gM_surplus N K M p0 p1) (fun y => (y.2.2.2.2.2.2 = z.1 ∧ (z.1 = 0 → z.2.2 = y.1.toInt64)) ∧ Iv z.2.1 y.2)) := by
  obtain ⟨o, y, e1, e2, q⟩ := ty_surplus (N := N) (K := K) (th := M.2.2.2.2.2) (c0 := S.2.2.2.1 0) (c1 := S.2.2.2.1 1) (c2 := S.2.2.2.1 2) (c3 := S.2.2.2.1 3) (c4 := S.2.2.2.1 4) (c5 := S.2.2.2.1 5) (t := M.2.2.2.1) (u := M.2.2.2.2.1) (p0 := p0) (p1 := p1) hN hK (I.2 (ix 3 p0))
  unfold gL_surplus gX_surplus gM_surplus
  rw [e1, e2]
  cases o with
  | inl z => exact ⟨_, rfl, _, rfl, ⟨q.1, fun _ => congrArg Int32.toInt64 q.2.1⟩, ⟨I.1, mm_upm I.2 q.2.2.1⟩⟩
  | inr E =>
    obtain ⟨q1, q2⟩ := q
    rcases q1 with ⟨rfl, h⟩ | ⟨hb, rfl, h⟩
    · exact ⟨_, wb_io, _, rfl, ⟨h, fun e => ne1 e⟩, ⟨I.1, mm_same I.2 q2.1⟩⟩
    · exact ⟨_, wb_ia, _, rfl, ⟨h, fun e => ne2 e⟩, ⟨I.1, mm_same I.2 q2.1⟩⟩
theorem pj_surplus {N K : Nat} {S : CS} {M : MS} {p0 p1 : Int32} {nv : Int64} (hN : NBig N) (hK : 100 ≤ K) (I : Iv S M) : Sf (gL_surplus N K S p0 p1 nv) (fun z => Sf (gM_surplus N K M p0 p1) (fun y => Iv z.2.1 y.2)) := sMono (pq_surplus hN hK I) (fun z h => sMono h (fun y q => q.2))
theorem pq_place {N K : Nat} {S : CS} {M : MS} {p0 p1 : Int32} {nv : Int64} (hN : NBig N) (hK : 100 ≤ K) (I : Iv S M) : Sf (gL_place N K S p0 p1 nv) (fun z => Sf (gM_place N K M p0 p1) (fun y => (y.2.2.2.2.2.2 = z.1 ∧ (z.1 = 0 → z.2.2 = y.1.toInt64)) ∧ Iv z.2.1 y.2)) := by
  obtain ⟨o, y, e1, e2, q⟩ := ty_place (N := N) (K := K) (th := M.2.2.2.2.2) (c0 := S.2.2.2.1 0) (c1 := S.2.2.2.1 1) (c2 := S.2.2.2.1 2) (c3 := S.2.2.2.1 3) (c4 := S.2.2.2.1 4) (c5 := S.2.2.2.1 5) (t := M.2.2.2.1) (u := M.2.2.2.2.1) (p0 := p0) (p1 := p1) hN hK (I.2 (ix 3 p0)) (I.1 (ix 2 p1))
  unfold gL_place gX_place gM_place
  rw [e1, e2]
  cases o with
  | inl z => exact ⟨_, rfl, _, rfl, ⟨q.1, fun _ => congrArg Int32.toInt64 q.2.1⟩, ⟨I.1, mm_upm I.2 q.2.2.1⟩⟩
  | inr E =>
    obtain ⟨q1, q2⟩ := q
    rcases q1 with ⟨rfl, h⟩ | ⟨hb, rfl, h⟩
    · exact ⟨_, wb_io, _, rfl, ⟨h, fun e => ne1 e⟩, ⟨I.1, mm_same I.2 q2.1⟩⟩
    · cases hb
theorem pj_place {N K : Nat} {S : CS} {M : MS} {p0 p1 : Int32} {nv : Int64} (hN : NBig N) (hK : 100 ≤ K) (I : Iv S M) : Sf (gL_place N K S p0 p1 nv) (fun z => Sf (gM_place N K M p0 p1) (fun y => Iv z.2.1 y.2)) := sMono (pq_place hN hK I) (fun z h => sMono h (fun y q => q.2))
theorem pq_learn {N K : Nat} {S : CS} {M : MS} {p0 p1 p2 p3 : Int32} {nv : Int64} (hN : NBig N) (hK : 100 ≤ K) (I : Iv S M) : Sf (gL_learn N K S p0 p1 p2 p3 nv) (fun z => Sf (gM_learn N K M p0 p1 p2 p3) (fun y => (y.2.2.2.2.2.2 = z.1 ∧ (z.1 = 0 → z.2.2 = y.1.toInt64)) ∧ Iv z.2.1 y.2)) := by
  obtain ⟨o, y, e1, e2, q⟩ := ty_learn (N := N) (K := K) (th := M.2.2.2.2.2) (c0 := S.2.2.2.1 0) (c1 := S.2.2.2.1 1) (c2 := S.2.2.2.1 2) (c3 := S.2.2.2.1 3) (c4 := S.2.2.2.1 4) (c5 := S.2.2.2.1 5) (t := M.2.2.2.1) (gs := S.2.2.2.2.1) (p0 := p0) (p1 := p1) (p2 := p2) (p3 := p3) hN hK (I.2 (ix 3 p0))
  unfold gL_learn gX_learn gM_learn
  rw [e1, e2]
  cases o with
  | inl z => exact ⟨_, rfl, _, rfl, ⟨q.1, fun _ => congrArg Int32.toInt64 q.2.1⟩, ⟨I.1, mm_upm I.2 q.2.2.1⟩⟩
  | inr E =>
    obtain ⟨q1, q2⟩ := q
    rcases q1 with ⟨rfl, h⟩ | ⟨hb, rfl, h⟩
    · exact ⟨_, wb_io, _, rfl, ⟨h, fun e => ne1 e⟩, ⟨I.1, mm_same I.2 q2.1⟩⟩
    · exact ⟨_, wb_ia, _, rfl, ⟨h, fun e => ne2 e⟩, ⟨I.1, mm_same I.2 q2.1⟩⟩
theorem pj_learn {N K : Nat} {S : CS} {M : MS} {p0 p1 p2 p3 : Int32} {nv : Int64} (hN : NBig N) (hK : 100 ≤ K) (I : Iv S M) : Sf (gL_learn N K S p0 p1 p2 p3 nv) (fun z => Sf (gM_learn N K M p0 p1 p2 p3) (fun y => Iv z.2.1 y.2)) := sMono (pq_learn hN hK I) (fun z h => sMono h (fun y q => q.2))
theorem pq_relearn {N K : Nat} {S : CS} {M : MS} {p0 p1 p2 p3 : Int32} {nv : Int64} (hN : NBig N) (hK : 100 ≤ K) (I : Iv S M) : Sf (gL_relearn N K S p0 p1 p2 p3 nv) (fun z => Sf (gM_relearn N K M p0 p1 p2 p3) (fun y => (y.2.2.2.2.2.2 = z.1 ∧ (z.1 = 0 → z.2.2 = y.1.toInt64)) ∧ Iv z.2.1 y.2)) := by
  obtain ⟨o, y, e1, e2, q⟩ := ty_relearn (N := N) (K := K) (th := M.2.2.2.2.2) (c0 := S.2.2.2.1 0) (c1 := S.2.2.2.1 1) (c2 := S.2.2.2.1 2) (c3 := S.2.2.2.1 3) (c4 := S.2.2.2.1 4) (c5 := S.2.2.2.1 5) (t := M.2.2.2.1) (fw := S.2.2.2.2.2.1) (fs := S.2.2.2.2.2.2) (p0 := p0) (p1 := p1) (p2 := p2) (p3 := p3) hN hK (I.2 (ix 3 p0))
  unfold gL_relearn gX_relearn gM_relearn
  rw [e1, e2]
  cases o with
  | inl z => exact ⟨_, rfl, _, rfl, ⟨q.1, fun _ => congrArg Int32.toInt64 q.2.1⟩, ⟨I.1, mm_upm I.2 q.2.2.1⟩⟩
  | inr E =>
    obtain ⟨q1, q2⟩ := q
    rcases q1 with ⟨rfl, h⟩ | ⟨hb, rfl, h⟩
    · exact ⟨_, wb_io, _, rfl, ⟨h, fun e => ne1 e⟩, ⟨I.1, mm_same I.2 q2.1⟩⟩
    · exact ⟨_, wb_ia, _, rfl, ⟨h, fun e => ne2 e⟩, ⟨I.1, mm_same I.2 q2.1⟩⟩
theorem pj_relearn {N K : Nat} {S : CS} {M : MS} {p0 p1 p2 p3 : Int32} {nv : Int64} (hN : NBig N) (hK : 100 ≤ K) (I : Iv S M) : Sf (gL_relearn N K S p0 p1 p2 p3 nv) (fun z => Sf (gM_relearn N K M p0 p1 p2 p3) (fun y => Iv z.2.1 y.2)) := sMono (pq_relearn hN hK I) (fun z h => sMono h (fun y q => q.2))
theorem pq_forget {N K : Nat} {S : CS} {M : MS} {p0 p1 p2 p3 : Int32} {nv : Int64} (hN : NBig N) (hK : 100 ≤ K) (I : Iv S M) : Sf (gL_forget N K S p0 p1 p2 p3 nv) (fun z => Sf (gM_forget N K M p0 p1 p2 p3) (fun y => (y.2.2.2.2.2.2 = z.1 ∧ (z.1 = 0 → z.2.2 = y.1.toInt64)) ∧ Iv z.2.1 y.2)) := by
  obtain ⟨o, y, e1, e2, q⟩ := ty_forget (N := N) (K := K) (th := M.2.2.2.2.2) (c0 := S.2.2.2.1 0) (c1 := S.2.2.2.1 1) (c2 := S.2.2.2.1 2) (c3 := S.2.2.2.1 3) (c4 := S.2.2.2.1 4) (c5 := S.2.2.2.1 5) (t := M.2.2.2.1) (p0 := p0) (p1 := p1) (p2 := p2) (p3 := p3) hN hK (I.2 (ix 3 p0))
  unfold gL_forget gX_forget gM_forget
  rw [e1, e2]
  cases o with
  | inl z => exact ⟨_, rfl, _, rfl, ⟨q.1, fun _ => congrArg Int32.toInt64 q.2.1⟩, ⟨I.1, mm_upm I.2 q.2.2.1⟩⟩
  | inr E =>
    obtain ⟨q1, q2⟩ := q
    rcases q1 with ⟨rfl, h⟩ | ⟨hb, rfl, h⟩
    · exact ⟨_, wb_io, _, rfl, ⟨h, fun e => ne1 e⟩, ⟨I.1, mm_same I.2 q2.1⟩⟩
    · exact ⟨_, wb_ia, _, rfl, ⟨h, fun e => ne2 e⟩, ⟨I.1, mm_same I.2 q2.1⟩⟩
theorem pj_forget {N K : Nat} {S : CS} {M : MS} {p0 p1 p2 p3 : Int32} {nv : Int64} (hN : NBig N) (hK : 100 ≤ K) (I : Iv S M) : Sf (gL_forget N K S p0 p1 p2 p3 nv) (fun z => Sf (gM_forget N K M p0 p1 p2 p3) (fun y => Iv z.2.1 y.2)) := sMono (pq_forget hN hK I) (fun z h => sMono h (fun y q => q.2))
theorem pq_forgetIf {N K : Nat} {S : CS} {M : MS} {p0 p1 p2 p3 p4 : Int32} {nv : Int64} (hN : NBig N) (hK : 100 ≤ K) (I : Iv S M) : Sf (gL_forgetIf N K S p0 p1 p2 p3 p4 nv) (fun z => Sf (gM_forgetIf N K M p0 p1 p2 p3 p4) (fun y => (y.2.2.2.2.2.2 = z.1 ∧ (z.1 = 0 → z.2.2 = y.1.toInt64)) ∧ Iv z.2.1 y.2)) := by
  obtain ⟨o, y, e1, e2, q⟩ := ty_forgetIf (N := N) (K := K) (th := M.2.2.2.2.2) (c0 := S.2.2.2.1 0) (c1 := S.2.2.2.1 1) (c2 := S.2.2.2.1 2) (c3 := S.2.2.2.1 3) (c4 := S.2.2.2.1 4) (c5 := S.2.2.2.1 5) (t := M.2.2.2.1) (p0 := p0) (p1 := p1) (p2 := p2) (p3 := p3) (p4 := p4) hN hK (I.2 (ix 3 p0))
  unfold gL_forgetIf gX_forgetIf gM_forgetIf
  rw [e1, e2]
  cases o with
  | inl z => exact ⟨_, rfl, _, rfl, ⟨q.1, fun _ => congrArg Int32.toInt64 q.2.1⟩, ⟨I.1, mm_upm I.2 q.2.2.1⟩⟩
  | inr E =>
    obtain ⟨q1, q2⟩ := q
    rcases q1 with ⟨rfl, h⟩ | ⟨hb, rfl, h⟩
    · exact ⟨_, wb_io, _, rfl, ⟨h, fun e => ne1 e⟩, ⟨I.1, mm_same I.2 q2.1⟩⟩
    · exact ⟨_, wb_ia, _, rfl, ⟨h, fun e => ne2 e⟩, ⟨I.1, mm_same I.2 q2.1⟩⟩
theorem pj_forgetIf {N K : Nat} {S : CS} {M : MS} {p0 p1 p2 p3 p4 : Int32} {nv : Int64} (hN : NBig N) (hK : 100 ≤ K) (I : Iv S M) : Sf (gL_forgetIf N K S p0 p1 p2 p3 p4 nv) (fun z => Sf (gM_forgetIf N K M p0 p1 p2 p3 p4) (fun y => Iv z.2.1 y.2)) := sMono (pq_forgetIf hN hK I) (fun z h => sMono h (fun y q => q.2))
theorem pq_forgetAll {N K : Nat} {S : CS} {M : MS} {p0 p1 p2 : Int32} {nv : Int64} (hN : NBig N) (hK : 100 ≤ K) (I : Iv S M) : Sf (gL_forgetAll N K S p0 p1 p2 nv) (fun z => Sf (gM_forgetAll N K M p0 p1 p2) (fun y => (y.2.2.2.2.2.2 = z.1 ∧ (z.1 = 0 → z.2.2 = y.1.toInt64)) ∧ Iv z.2.1 y.2)) := by
  obtain ⟨o, y, e1, e2, q⟩ := ty_forgetAll (N := N) (K := K) (th := M.2.2.2.2.2) (c0 := S.2.2.2.1 0) (c1 := S.2.2.2.1 1) (c2 := S.2.2.2.1 2) (c3 := S.2.2.2.1 3) (c4 := S.2.2.2.1 4) (c5 := S.2.2.2.1 5) (t := M.2.2.2.1) (p0 := p0) (p1 := p1) (p2 := p2) hN hK (I.2 (ix 3 p0))
  unfold gL_forgetAll gX_forgetAll gM_forgetAll
  rw [e1, e2]
  cases o with
  | inl z => exact ⟨_, rfl, _, rfl, ⟨q.1, fun _ => congrArg Int32.toInt64 q.2.1⟩, ⟨I.1, mm_upm I.2 q.2.2.1⟩⟩
  | inr E =>
    obtain ⟨q1, q2⟩ := q
    rcases q1 with ⟨rfl, h⟩ | ⟨hb, rfl, h⟩
    · exact ⟨_, wb_io, _, rfl, ⟨h, fun e => ne1 e⟩, ⟨I.1, mm_same I.2 q2.1⟩⟩
    · exact ⟨_, wb_ia, _, rfl, ⟨h, fun e => ne2 e⟩, ⟨I.1, mm_same I.2 q2.1⟩⟩
theorem pj_forgetAll {N K : Nat} {S : CS} {M : MS} {p0 p1 p2 : Int32} {nv : Int64} (hN : NBig N) (hK : 100 ≤ K) (I : Iv S M) : Sf (gL_forgetAll N K S p0 p1 p2 nv) (fun z => Sf (gM_forgetAll N K M p0 p1 p2) (fun y => Iv z.2.1 y.2)) := sMono (pq_forgetAll hN hK I) (fun z h => sMono h (fun y q => q.2))
theorem pq_clear {N K : Nat} {S : CS} {M : MS} {p0 : Int32} {nv : Int64} (hN : NBig N) (hK : 100 ≤ K) (I : Iv S M) : Sf (gL_clear N K S p0 nv) (fun z => Sf (gM_clear N K M p0) (fun y => (y.2.2.2.2.2.2 = z.1 ∧ (z.1 = 0 → z.2.2 = y.1.toInt64)) ∧ Iv z.2.1 y.2)) := by
  obtain ⟨o, y, e1, e2, q⟩ := ty_clear (N := N) (K := K) (th := M.2.2.2.2.2) (c0 := S.2.2.2.1 0) (c1 := S.2.2.2.1 1) (c2 := S.2.2.2.1 2) (c3 := S.2.2.2.1 3) (c4 := S.2.2.2.1 4) (c5 := S.2.2.2.1 5) (t := M.2.2.2.1) (p0 := p0) hN hK (I.2 (ix 3 p0))
  unfold gL_clear gX_clear gM_clear
  rw [e1, e2]
  cases o with
  | inl z => exact ⟨_, rfl, _, rfl, ⟨q.1, fun _ => congrArg Int32.toInt64 q.2.1⟩, ⟨I.1, mm_upm I.2 q.2.2.1⟩⟩
  | inr E =>
    obtain ⟨q1, q2⟩ := q
    rcases q1 with ⟨rfl, h⟩ | ⟨hb, rfl, h⟩
    · exact ⟨_, wb_io, _, rfl, ⟨h, fun e => ne1 e⟩, ⟨I.1, mm_same I.2 q2.1⟩⟩
    · cases hb
theorem pj_clear {N K : Nat} {S : CS} {M : MS} {p0 : Int32} {nv : Int64} (hN : NBig N) (hK : 100 ≤ K) (I : Iv S M) : Sf (gL_clear N K S p0 nv) (fun z => Sf (gM_clear N K M p0) (fun y => Iv z.2.1 y.2)) := sMono (pq_clear hN hK I) (fun z h => sMono h (fun y q => q.2))
theorem pq_copy {N K : Nat} {S : CS} {M : MS} {p0 p1 : Int32} {nv : Int64} (hN : NBig N) (hK : 100 ≤ K) (I : Iv S M) : Sf (gL_copy N K S p0 p1 nv) (fun z => Sf (gM_copy N K M p0 p1) (fun y => (y.2.2.2.2.2.2 = z.1 ∧ (z.1 = 0 → z.2.2 = y.1.toInt64)) ∧ Iv z.2.1 y.2)) := by
  unfold gL_copy gX_copy gM_copy
  by_cases hne : p0 = p1
  · rw [if_pos hne, if_pos hne]
    obtain ⟨o, y, e1, e2, q⟩ := ty_copyOwn (N := N) (K := K) (th := M.2.2.2.2.2) (c0 := S.2.2.2.1 0) (c1 := S.2.2.2.1 1) (c2 := S.2.2.2.1 2) (c3 := S.2.2.2.1 3) (c4 := S.2.2.2.1 4) (c5 := S.2.2.2.1 5) (t := M.2.2.2.1) (p0 := p0) hN hK (I.2 (ix 3 p0))
    rw [e1, e2]
    cases o with
    | inl z => exact ⟨_, rfl, _, rfl, ⟨q.1, fun _ => congrArg Int32.toInt64 q.2.1⟩, ⟨I.1, mm_upm I.2 q.2.2.1⟩⟩
    | inr E =>
      obtain ⟨q1, q2⟩ := q
      rcases q1 with ⟨rfl, h⟩ | ⟨hb, rfl, h⟩
      · exact ⟨_, wb_io, _, rfl, ⟨h, fun e => ne1 e⟩, ⟨I.1, mm_same I.2 q2.1⟩⟩
      · cases hb
  · rw [if_neg hne, if_neg hne]
    obtain ⟨o, y, e1, e2, q⟩ := ty_copy (N := N) (K := K) (th := M.2.2.2.2.2) (c0 := S.2.2.2.1 0) (c1 := S.2.2.2.1 1) (c2 := S.2.2.2.1 2) (c3 := S.2.2.2.1 3) (c4 := S.2.2.2.1 4) (c5 := S.2.2.2.1 5) (t := M.2.2.2.1) (p0 := p0) (p1 := p1) hN hK (I.2 (jx 3 p0 p1)) (I.2 (kx 3 p0 p1))
    rw [e1, e2]
    cases o with
    | inl z => exact ⟨_, rfl, _, rfl, ⟨q.1, fun _ => congrArg Int32.toInt64 q.2.1⟩, ⟨I.1, mm_upm I.2 q.2.2.1⟩⟩
    | inr E =>
      obtain ⟨q1, q2⟩ := q
      rcases q1 with ⟨rfl, h⟩ | ⟨hb, rfl, h⟩
      · exact ⟨_, wb_io, _, rfl, ⟨h, fun e => ne1 e⟩, ⟨I.1, mm_same I.2 q2.1⟩⟩
      · cases hb
theorem pj_copy {N K : Nat} {S : CS} {M : MS} {p0 p1 : Int32} {nv : Int64} (hN : NBig N) (hK : 100 ≤ K) (I : Iv S M) : Sf (gL_copy N K S p0 p1 nv) (fun z => Sf (gM_copy N K M p0 p1) (fun y => Iv z.2.1 y.2)) := sMono (pq_copy hN hK I) (fun z h => sMono h (fun y q => q.2))
theorem pq_pour {N K : Nat} {S : CS} {M : MS} {p0 p1 : Int32} {nv : Int64} (hN : NBig N) (hK : 100 ≤ K) (I : Iv S M) : Sf (gL_pour N K S p0 p1 nv) (fun z => Sf (gM_pour N K M p0 p1) (fun y => (y.2.2.2.2.2.2 = z.1 ∧ (z.1 = 0 → z.2.2 = y.1.toInt64)) ∧ Iv z.2.1 y.2)) := by
  unfold gL_pour gX_pour gM_pour
  by_cases hne : p0 = p1
  · rw [if_pos hne, if_pos hne]
    obtain ⟨o, y, e1, e2, q⟩ := ty_pourOwn (N := N) (K := K) (th := M.2.2.2.2.2) (c0 := S.2.2.2.1 0) (c1 := S.2.2.2.1 1) (c2 := S.2.2.2.1 2) (c3 := S.2.2.2.1 3) (c4 := S.2.2.2.1 4) (c5 := S.2.2.2.1 5) (t := M.2.2.2.1) (sz := (S.1 (ix 3 p0)).1) (f := (S.1 (ix 3 p0)).2) (g := M.1 (ix 3 p0)) (p0 := p0) hN hK
    rw [e1, e2]
    cases o with
    | inl z => exact ⟨_, rfl, _, rfl, ⟨q.1, fun _ => congrArg Int32.toInt64 q.2.1⟩, I⟩
    | inr E =>
      obtain ⟨q1, q2⟩ := q
      rcases q1 with ⟨rfl, h⟩ | ⟨hb, rfl, h⟩
      · exact ⟨_, wb_io, _, rfl, ⟨h, fun e => ne1 e⟩, I⟩
      · cases hb
  · rw [if_neg hne, if_neg hne]
    obtain ⟨o, y, e1, e2, q⟩ := ty_pour (N := N) (K := K) (th := M.2.2.2.2.2) (c0 := S.2.2.2.1 0) (c1 := S.2.2.2.1 1) (c2 := S.2.2.2.1 2) (c3 := S.2.2.2.1 3) (c4 := S.2.2.2.1 4) (c5 := S.2.2.2.1 5) (t := M.2.2.2.1) (p0 := p0) (p1 := p1) hN hK (I.2 (jx 3 p0 p1)) (I.2 (kx 3 p0 p1)) hne
    rw [e1, e2]
    cases o with
    | inl z => exact ⟨_, rfl, _, rfl, ⟨q.1, fun _ => congrArg Int32.toInt64 q.2.1⟩, ⟨I.1, mm_upm I.2 q.2.2.1⟩⟩
    | inr E =>
      obtain ⟨q1, q2⟩ := q
      rcases q1 with ⟨rfl, h⟩ | ⟨hb, rfl, h⟩
      · exact ⟨_, wb_io, _, rfl, ⟨h, fun e => ne1 e⟩, ⟨I.1, mm_same I.2 q2.1⟩⟩
      · cases hb
theorem pj_pour {N K : Nat} {S : CS} {M : MS} {p0 p1 : Int32} {nv : Int64} (hN : NBig N) (hK : 100 ≤ K) (I : Iv S M) : Sf (gL_pour N K S p0 p1 nv) (fun z => Sf (gM_pour N K M p0 p1) (fun y => Iv z.2.1 y.2)) := sMono (pq_pour hN hK I) (fun z h => sMono h (fun y q => q.2))
theorem pq_isKept {N K : Nat} {S : CS} {M : MS} {p0 p1 p2 p3 p4 : Int32} {nv : Int64} (hN : NBig N) (hK : 100 ≤ K) (I : Iv S M) : Sf (gL_isKept N K S p0 p1 p2 p3 p4 nv) (fun z => Sf (gM_isKept N K M p0 p1 p2 p3 p4) (fun y => (y.2.2.2.2.2.2 = z.1 ∧ (z.1 = 0 → z.2.2 = if y.1 = 0 then 0 else 1)) ∧ Iv z.2.1 y.2)) := by
  obtain ⟨o, y, e1, e2, q⟩ := ty_isKept (N := N) (K := K) (th := M.2.2.2.2.2) (p0 := p0) (p1 := p1) (p2 := p2) (p3 := p3) (p4 := p4) hN hK (I.2 (ix 3 p0))
  unfold gL_isKept gX_isKept gM_isKept
  rw [e1, e2]
  cases o with
  | inl z =>
    obtain ⟨q1, q2, q3⟩ := q
    show Sf (if z = 0 then _ else _) _
    rcases q3 with q3 | q3
    · rw [if_pos (q2.trans q3)]
      exact ⟨_, rfl, _, rfl, ⟨q1, fun _ => (if_pos q3).symm⟩, I⟩
    · rw [if_neg (fun e => ne1 ((q3.symm.trans q2.symm).trans e))]
      exact ⟨_, rfl, _, rfl, ⟨q1, fun _ => (if_neg (fun e => ne1 (q3.symm.trans e))).symm⟩, I⟩
  | inr E =>
    obtain ⟨q1, q2⟩ := q
    rcases q1 with ⟨rfl, h⟩ | ⟨hb, rfl, h⟩
    · exact ⟨_, wb_io, _, rfl, ⟨h, fun e => ne1 e⟩, I⟩
    · exact ⟨_, wb_ia, _, rfl, ⟨h, fun e => ne2 e⟩, I⟩
theorem pq_worthOr {N K : Nat} {S : CS} {M : MS} {p0 p1 p2 p3 p4 : Int32} {nv : Int64} (hN : NBig N) (hK : 100 ≤ K) (I : Iv S M) : Sf (gL_worthOr N K S p0 p1 p2 p3 p4 nv) (fun z => Sf (gM_worthOr N K M p0 p1 p2 p3 p4) (fun y => (y.2.2.2.2.2.2 = z.1 ∧ (z.1 = 0 → z.2.2 = y.1.toInt64)) ∧ Iv z.2.1 y.2)) := by
  obtain ⟨o, y, e1, e2, q⟩ := ty_worthOr (N := N) (K := K) (th := M.2.2.2.2.2) (p0 := p0) (p1 := p1) (p2 := p2) (p3 := p3) (p4 := p4) hN hK (I.2 (ix 3 p0))
  unfold gL_worthOr gX_worthOr gM_worthOr
  rw [e1, e2]
  cases o with
  | inl z => exact ⟨_, rfl, _, rfl, ⟨q.1, fun _ => congrArg Int32.toInt64 q.2⟩, I⟩
  | inr E =>
    obtain ⟨q1, q2⟩ := q
    rcases q1 with ⟨rfl, h⟩ | ⟨hb, rfl, h⟩
    · exact ⟨_, wb_io, _, rfl, ⟨h, fun e => ne1 e⟩, I⟩
    · exact ⟨_, wb_ia, _, rfl, ⟨h, fun e => ne2 e⟩, I⟩
theorem pq_confirm {N K : Nat} {S : CS} {M : MS} {p0 p1 p2 p3 p4 : Int32} {nv : Int64} (hN : NBig N) (hK : 100 ≤ K) (I : Iv S M) : Sf (gL_confirm N K S p0 p1 p2 p3 p4 nv) (fun z => Sf (gM_confirm N K M p0 p1 p2 p3 p4) (fun y => (y.2.2.2.2.2.2 = z.1 ∧ (z.1 = 0 → z.2.2 = if y.1 = 0 then 0 else 1)) ∧ Iv z.2.1 y.2)) := by
  obtain ⟨o, y, e1, e2, q⟩ := ty_confirm (N := N) (K := K) (th := M.2.2.2.2.2) (p0 := p0) (p1 := p1) (p2 := p2) (p3 := p3) (p4 := p4) hN hK (I.2 (ix 3 p0))
  unfold gL_confirm gX_confirm gM_confirm
  rw [e1, e2]
  cases o with
  | inl z =>
    obtain ⟨q1, q2, q3⟩ := q
    show Sf (if z = 0 then _ else _) _
    rcases q3 with q3 | q3
    · rw [if_pos (q2.trans q3)]
      exact ⟨_, rfl, _, rfl, ⟨q1, fun _ => (if_pos q3).symm⟩, I⟩
    · rw [if_neg (fun e => ne1 ((q3.symm.trans q2.symm).trans e))]
      exact ⟨_, rfl, _, rfl, ⟨q1, fun _ => (if_neg (fun e => ne1 (q3.symm.trans e))).symm⟩, I⟩
  | inr E =>
    obtain ⟨q1, q2⟩ := q
    rcases q1 with ⟨rfl, h⟩ | ⟨hb, rfl, h⟩
    · exact ⟨_, wb_io, _, rfl, ⟨h, fun e => ne1 e⟩, I⟩
    · exact ⟨_, wb_ia, _, rfl, ⟨h, fun e => ne2 e⟩, I⟩
theorem pq_about {N K : Nat} {S : CS} {M : MS} {p0 p1 : Int32} {nv : Int64} (hN : NBig N) (hK : 100 ≤ K) (I : Iv S M) : Sf (gL_about N K S p0 p1 nv) (fun z => Sf (gM_about N K M p0 p1) (fun y => (y.2.2.2.2.2.2 = z.1 ∧ (z.1 = 0 → z.2.2 = y.1.toInt64)) ∧ Iv z.2.1 y.2)) := by
  obtain ⟨o, y, e1, e2, q⟩ := ty_about (N := N) (K := K) (th := M.2.2.2.2.2) (p0 := p0) (p1 := p1) hN hK (I.2 (ix 3 p0))
  unfold gL_about gX_about gM_about
  rw [e1, e2]
  cases o with
  | inl z => exact ⟨_, rfl, _, rfl, ⟨q.1, fun _ => congrArg Int32.toInt64 q.2⟩, I⟩
  | inr E =>
    obtain ⟨q1, q2⟩ := q
    rcases q1 with ⟨rfl, h⟩ | ⟨hb, rfl, h⟩
    · exact ⟨_, wb_io, _, rfl, ⟨h, fun e => ne1 e⟩, I⟩
    · exact ⟨_, wb_ia, _, rfl, ⟨h, fun e => ne2 e⟩, I⟩
theorem pq_has {N K : Nat} {S : CS} {M : MS} {p0 p1 : Int32} {nv : Int64} (hN : NBig N) (hK : 100 ≤ K) (I : Iv S M) : Sf (gL_has N K S p0 p1 nv) (fun z => Sf (gM_has N K M p0 p1) (fun y => (y.2.2.2.2.2.2 = z.1 ∧ (z.1 = 0 → z.2.2 = if y.1 = 0 then 0 else 1)) ∧ Iv z.2.1 y.2)) := by
  obtain ⟨o, y, e1, e2, q⟩ := ty_has (N := N) (K := K) (th := M.2.2.2.2.2) (p0 := p0) (p1 := p1) hN hK (I.2 (ix 3 p0))
  unfold gL_has gX_has gM_has
  rw [e1, e2]
  cases o with
  | inl z =>
    obtain ⟨q1, q2, q3⟩ := q
    show Sf (if z = 0 then _ else _) _
    rcases q3 with q3 | q3
    · rw [if_pos (q2.trans q3)]
      exact ⟨_, rfl, _, rfl, ⟨q1, fun _ => (if_pos q3).symm⟩, I⟩
    · rw [if_neg (fun e => ne1 ((q3.symm.trans q2.symm).trans e))]
      exact ⟨_, rfl, _, rfl, ⟨q1, fun _ => (if_neg (fun e => ne1 (q3.symm.trans e))).symm⟩, I⟩
  | inr E =>
    obtain ⟨q1, q2⟩ := q
    rcases q1 with ⟨rfl, h⟩ | ⟨hb, rfl, h⟩
    · exact ⟨_, wb_io, _, rfl, ⟨h, fun e => ne1 e⟩, I⟩
    · cases hb
theorem pq_count {N K : Nat} {S : CS} {M : MS} {p0 p1 p2 : Int32} {nv : Int64} (hN : NBig N) (hK : 100 ≤ K) (I : Iv S M) : Sf (gL_count N K S p0 p1 p2 nv) (fun z => Sf (gM_count N K M p0 p1 p2) (fun y => (y.2.2.2.2.2.2 = z.1 ∧ (z.1 = 0 → z.2.2 = y.1.toInt64)) ∧ Iv z.2.1 y.2)) := by
  obtain ⟨o, y, e1, e2, q⟩ := ty_count (N := N) (K := K) (th := M.2.2.2.2.2) (p0 := p0) (p1 := p1) (p2 := p2) hN hK (I.2 (ix 3 p0))
  unfold gL_count gX_count gM_count
  rw [e1, e2]
  cases o with
  | inl z => exact ⟨_, rfl, _, rfl, ⟨q.1, fun _ => congrArg Int32.toInt64 q.2⟩, I⟩
  | inr E =>
    obtain ⟨q1, q2⟩ := q
    rcases q1 with ⟨rfl, h⟩ | ⟨hb, rfl, h⟩
    · exact ⟨_, wb_io, _, rfl, ⟨h, fun e => ne1 e⟩, I⟩
    · exact ⟨_, wb_ia, _, rfl, ⟨h, fun e => ne2 e⟩, I⟩
theorem pq_isSame {N K : Nat} {S : CS} {M : MS} {p0 p1 : Int32} {nv : Int64} (hN : NBig N) (hK : 100 ≤ K) (I : Iv S M) : Sf (gL_isSame N K S p0 p1 nv) (fun z => Sf (gM_isSame N K M p0 p1) (fun y => (y.2.2.2.2.2.2 = z.1 ∧ (z.1 = 0 → z.2.2 = if y.1 = 0 then 0 else 1)) ∧ Iv z.2.1 y.2)) := by
  unfold gL_isSame gX_isSame gM_isSame
  by_cases hne : p0 = p1
  · rw [if_pos hne, if_pos hne]
    obtain ⟨o, y, e1, e2, q⟩ := ty_isSameOwn (N := N) (K := K) (th := M.2.2.2.2.2) (sz := (S.1 (ix 3 p0)).1) (f := (S.1 (ix 3 p0)).2) (g := M.1 (ix 3 p0)) (p0 := p0) hN hK
    rw [e1, e2]
    cases o with
    | inl z =>
      obtain ⟨q1, q2, q3⟩ := q
      show Sf (if z = 0 then _ else _) _
      rcases q3 with q3 | q3
      · rw [if_pos (q2.trans q3)]
        exact ⟨_, rfl, _, rfl, ⟨q1, fun _ => (if_pos q3).symm⟩, I⟩
      · rw [if_neg (fun e => ne1 ((q3.symm.trans q2.symm).trans e))]
        exact ⟨_, rfl, _, rfl, ⟨q1, fun _ => (if_neg (fun e => ne1 (q3.symm.trans e))).symm⟩, I⟩
    | inr E =>
      obtain ⟨q1, q2⟩ := q
      rcases q1 with ⟨rfl, h⟩ | ⟨hb, rfl, h⟩
      · exact ⟨_, wb_io, _, rfl, ⟨h, fun e => ne1 e⟩, I⟩
      · cases hb
  · rw [if_neg hne, if_neg hne]
    obtain ⟨o, y, e1, e2, q⟩ := ty_isSame (N := N) (K := K) (th := M.2.2.2.2.2) (p0 := p0) (p1 := p1) hN hK (I.2 (jx 3 p0 p1)) (I.2 (kx 3 p0 p1))
    rw [e1, e2]
    cases o with
    | inl z =>
      obtain ⟨q1, q2, q3⟩ := q
      show Sf (if z = 0 then _ else _) _
      rcases q3 with q3 | q3
      · rw [if_pos (q2.trans q3)]
        exact ⟨_, rfl, _, rfl, ⟨q1, fun _ => (if_pos q3).symm⟩, I⟩
      · rw [if_neg (fun e => ne1 ((q3.symm.trans q2.symm).trans e))]
        exact ⟨_, rfl, _, rfl, ⟨q1, fun _ => (if_neg (fun e => ne1 (q3.symm.trans e))).symm⟩, I⟩
    | inr E =>
      obtain ⟨q1, q2⟩ := q
      rcases q1 with ⟨rfl, h⟩ | ⟨hb, rfl, h⟩
      · exact ⟨_, wb_io, _, rfl, ⟨h, fun e => ne1 e⟩, I⟩
      · cases hb
theorem pj_addPart {N K : Nat} {S : CS} {M : MS} {p0 p1 p2 : Int32} {nv : Int64} (hN : NBig N) (hK : 100 ≤ K) (I : Iv S M) : Sf (gL_addPart N K S p0 p1 p2 nv) (fun z => Sf (gM_addPart N K M p0 p1 p2) (fun y => Iv z.2.1 y.2)) := sMono (Sf.and (pjd_addPart hN hK I.1) (lL_addPart hN hK (Iv.x I))) (fun z h => sMono (Sf.and h.1 (aM_addPart hN hK (Iv.m I))) (fun y k => ⟨k.1, by rw [h.2.2.2.1 rfl, k.2.2.2.1 rfl]; exact I.2⟩))
theorem pj_takePart {N K : Nat} {S : CS} {M : MS} {p0 p1 : Int32} {nv : Int64} (hN : NBig N) (hK : 100 ≤ K) (I : Iv S M) : Sf (gL_takePart N K S p0 p1 nv) (fun z => Sf (gM_takePart N K M p0 p1) (fun y => Iv z.2.1 y.2)) := sMono (Sf.and (pjd_takePart hN hK I.1) (lL_takePart hN hK (Iv.x I))) (fun z h => sMono (Sf.and h.1 (aM_takePart hN hK (Iv.m I))) (fun y k => ⟨k.1, by rw [h.2.2.2.1 rfl, k.2.2.2.1 rfl]; exact I.2⟩))
theorem pj_layFirst {N K : Nat} {S : CS} {M : MS} {p0 p1 : Int32} {nv : Int64} (hN : NBig N) (hK : 100 ≤ K) (I : Iv S M) : Sf (gL_layFirst N K S p0 p1 nv) (fun z => Sf (gM_layFirst N K M p0 p1) (fun y => Iv z.2.1 y.2)) := sMono (Sf.and (pjd_layFirst hN hK I.1) (lL_layFirst hN hK (Iv.x I))) (fun z h => sMono (Sf.and h.1 (aM_layFirst hN hK (Iv.m I))) (fun y k => ⟨k.1, by rw [h.2.2.2.1 rfl, k.2.2.2.1 rfl]; exact I.2⟩))
theorem pj_next {N K : Nat} {S : CS} {M : MS} {p0 : Int32} {nv : Int64} (hN : NBig N) (hK : 100 ≤ K) (I : Iv S M) : Sf (gL_next N K S p0 nv) (fun z => Sf (gM_next N K M p0) (fun y => Iv z.2.1 y.2)) := sMono (Sf.and (pjd_next hN hK I.1) (lL_next hN hK (Iv.x I))) (fun z h => sMono (Sf.and h.1 (aM_next hN hK (Iv.m I))) (fun y k => ⟨k.1, by rw [h.2.2.2.1 rfl, k.2.2.2.1 rfl]; exact I.2⟩))
theorem pj_turn {N K : Nat} {S : CS} {M : MS} {p0 : Int32} {nv : Int64} (hN : NBig N) (hK : 100 ≤ K) (I : Iv S M) : Sf (gL_turn N K S p0 nv) (fun z => Sf (gM_turn N K M p0) (fun y => Iv z.2.1 y.2)) := sMono (Sf.and (pjd_turn hN hK I.1) (lL_turn hN hK (Iv.x I))) (fun z h => sMono (Sf.and h.1 (aM_turn hN hK (Iv.m I))) (fun y k => ⟨k.1, by rw [h.2.2.2.1 rfl, k.2.2.2.1 rfl]; exact I.2⟩))
theorem pj_toUnlike {N K : Nat} {S : CS} {M : MS} {p0 : Int32} {nv : Int64} (hN : NBig N) (hK : 100 ≤ K) (I : Iv S M) : Sf (gL_toUnlike N K S p0 nv) (fun z => Sf (gM_toUnlike N K M p0) (fun y => Iv z.2.1 y.2)) := sMono (Sf.and (pjd_toUnlike hN hK I.1) (lL_toUnlike hN hK (Iv.x I))) (fun z h => sMono (Sf.and h.1 (aM_toUnlike hN hK (Iv.m I))) (fun y k => ⟨k.1, by rw [h.2.2.2.1 rfl, k.2.2.2.1 rfl]; exact I.2⟩))
theorem pj_toOdd {N K : Nat} {S : CS} {M : MS} {p0 : Int32} {nv : Int64} (hN : NBig N) (hK : 100 ≤ K) (I : Iv S M) : Sf (gL_toOdd N K S p0 nv) (fun z => Sf (gM_toOdd N K M p0) (fun y => Iv z.2.1 y.2)) := sMono (Sf.and (pjd_toOdd hN hK I.1) (lL_toOdd hN hK (Iv.x I))) (fun z h => sMono (Sf.and h.1 (aM_toOdd hN hK (Iv.m I))) (fun y k => ⟨k.1, by rw [h.2.2.2.1 rfl, k.2.2.2.1 rfl]; exact I.2⟩))
theorem pj_copyDesk {N K : Nat} {S : CS} {M : MS} {p0 : Int32} {nv : Int64} (hN : NBig N) (hK : 100 ≤ K) (I : Iv S M) : Sf (gL_copyDesk N K S p0 nv) (fun z => Sf (gM_copyDesk N K M p0) (fun y => Iv z.2.1 y.2)) := sMono (Sf.and (pjd_copyDesk hN hK I.1) (lL_copyDesk hN hK (Iv.x I))) (fun z h => sMono (Sf.and h.1 (aM_copyDesk hN hK (Iv.m I))) (fun y k => ⟨k.1, by rw [h.2.2.2.1 rfl, k.2.2.2.1 rfl]; exact I.2⟩))
theorem pj_isKept {N K : Nat} {S : CS} {M : MS} {p0 : Int32} {p1 : Int32} {p2 : Int32} {p3 : Int32} {p4 : Int32} {nv : Int64} (hN : NBig N) (hK : 100 ≤ K) (I : Iv S M) : Sf (gL_isKept N K S p0 p1 p2 p3 p4 nv) (fun z => Sf (gM_isKept N K M p0 p1 p2 p3 p4) (fun y => Iv z.2.1 y.2)) :=
  sMono (lL_isKept hN hK (Iv.x I)) (fun z q => sMono (aM_isKept hN hK (Iv.m I)) (fun y q2 => Iv.st I q q2))
theorem pj_worthOr {N K : Nat} {S : CS} {M : MS} {p0 : Int32} {p1 : Int32} {p2 : Int32} {p3 : Int32} {p4 : Int32} {nv : Int64} (hN : NBig N) (hK : 100 ≤ K) (I : Iv S M) : Sf (gL_worthOr N K S p0 p1 p2 p3 p4 nv) (fun z => Sf (gM_worthOr N K M p0 p1 p2 p3 p4) (fun y => Iv z.2.1 y.2)) :=
  sMono (lL_worthOr hN hK (Iv.x I)) (fun z q => sMono (aM_worthOr hN hK (Iv.m I)) (fun y q2 => Iv.st I q q2))
theorem pj_confirm {N K : Nat} {S : CS} {M : MS} {p0 : Int32} {p1 : Int32} {p2 : Int32} {p3 : Int32} {p4 : Int32} {nv : Int64} (hN : NBig N) (hK : 100 ≤ K) (I : Iv S M) : Sf (gL_confirm N K S p0 p1 p2 p3 p4 nv) (fun z => Sf (gM_confirm N K M p0 p1 p2 p3 p4) (fun y => Iv z.2.1 y.2)) :=
  sMono (lL_confirm hN hK (Iv.x I)) (fun z q => sMono (aM_confirm hN hK (Iv.m I)) (fun y q2 => Iv.st I q q2))
theorem pj_about {N K : Nat} {S : CS} {M : MS} {p0 : Int32} {p1 : Int32} {nv : Int64} (hN : NBig N) (hK : 100 ≤ K) (I : Iv S M) : Sf (gL_about N K S p0 p1 nv) (fun z => Sf (gM_about N K M p0 p1) (fun y => Iv z.2.1 y.2)) :=
  sMono (lL_about hN hK (Iv.x I)) (fun z q => sMono (aM_about hN hK (Iv.m I)) (fun y q2 => Iv.st I q q2))
theorem pj_has {N K : Nat} {S : CS} {M : MS} {p0 : Int32} {p1 : Int32} {nv : Int64} (hN : NBig N) (hK : 100 ≤ K) (I : Iv S M) : Sf (gL_has N K S p0 p1 nv) (fun z => Sf (gM_has N K M p0 p1) (fun y => Iv z.2.1 y.2)) :=
  sMono (lL_has hN hK (Iv.x I)) (fun z q => sMono (aM_has hN hK (Iv.m I)) (fun y q2 => Iv.st I q q2))
theorem pj_count {N K : Nat} {S : CS} {M : MS} {p0 : Int32} {p1 : Int32} {p2 : Int32} {nv : Int64} (hN : NBig N) (hK : 100 ≤ K) (I : Iv S M) : Sf (gL_count N K S p0 p1 p2 nv) (fun z => Sf (gM_count N K M p0 p1 p2) (fun y => Iv z.2.1 y.2)) :=
  sMono (lL_count hN hK (Iv.x I)) (fun z q => sMono (aM_count hN hK (Iv.m I)) (fun y q2 => Iv.st I q q2))
theorem pj_isSame {N K : Nat} {S : CS} {M : MS} {p0 : Int32} {p1 : Int32} {nv : Int64} (hN : NBig N) (hK : 100 ≤ K) (I : Iv S M) : Sf (gL_isSame N K S p0 p1 nv) (fun z => Sf (gM_isSame N K M p0 p1) (fun y => Iv z.2.1 y.2)) :=
  sMono (lL_isSame hN hK (Iv.x I)) (fun z q => sMono (aM_isSame hN hK (Iv.m I)) (fun y q2 => Iv.st I q q2))
theorem pj_walk {N K : Nat} {S : CS} {M : MS} {p0 : Int32} {p1 : Int32} {p2 : Int32} {nv : Int64} (hN : NBig N) (hK : 100 ≤ K) (I : Iv S M) : Sf (gL_walk N K S p0 p1 p2 nv) (fun z => Sf (gM_walk N K M p0 p1 p2) (fun y => Iv z.2.1 y.2)) :=
  sMono (lL_walk hN hK (Iv.x I)) (fun z q => sMono (aM_walk hN hK (Iv.m I)) (fun y q2 => Iv.st I q q2))
theorem pj_product {N K : Nat} {S : CS} {M : MS} {p0 : Int32} {p1 : Int32} {p2 : Int32} {nv : Int64} (hN : NBig N) (hK : 100 ≤ K) (I : Iv S M) : Sf (gL_product N K S p0 p1 p2 nv) (fun z => Sf (gM_product N K M p0 p1 p2) (fun y => Iv z.2.1 y.2)) :=
  sMono (lL_product hN hK (Iv.x I)) (fun z q => sMono (aM_product hN hK (Iv.m I)) (fun y q2 => Iv.st I q q2))
theorem pj_rule {N K : Nat} {S : CS} {M : MS} {p0 : Int32} {p1 : Int32} {nv : Int64} (hN : NBig N) (hK : 100 ≤ K) (I : Iv S M) : Sf (gL_rule N K S p0 p1 nv) (fun z => Sf (gM_rule N K M p0 p1) (fun y => Iv z.2.1 y.2)) :=
  sMono (lL_rule hN hK (Iv.x I)) (fun z q => sMono (aM_rule hN hK (Iv.m I)) (fun y q2 => Iv.st I q q2))
theorem pj_forgetRule {N K : Nat} {S : CS} {M : MS} {p0 : Int32} {p1 : Int32} {nv : Int64} (hN : NBig N) (hK : 100 ≤ K) (I : Iv S M) : Sf (gL_forgetRule N K S p0 p1 nv) (fun z => Sf (gM_forgetRule N K M p0 p1) (fun y => Iv z.2.1 y.2)) :=
  sMono (lL_forgetRule hN hK (Iv.x I)) (fun z q => sMono (aM_forgetRule hN hK (Iv.m I)) (fun y q2 => Iv.st I q q2))
theorem pj_ledger {N K : Nat} {S : CS} {M : MS} {p0 : Int32} {p1 : Int32} {nv : Int64} (hN : NBig N) (hK : 100 ≤ K) (I : Iv S M) : Sf (gL_ledger N K S p0 p1 nv) (fun z => Sf (gM_ledger N K M p0 p1) (fun y => Iv z.2.1 y.2)) :=
  sMono (lL_ledger hN hK (Iv.x I)) (fun z q => sMono (aM_ledger hN hK (Iv.m I)) (fun y q2 => Iv.st I q q2))
theorem pj_ruleWorth {N K : Nat} {S : CS} {M : MS} {p0 : Int32} {p1 : Int32} {p2 : Int32} {nv : Int64} (hN : NBig N) (hK : 100 ≤ K) (I : Iv S M) : Sf (gL_ruleWorth N K S p0 p1 p2 nv) (fun z => Sf (gM_ruleWorth N K M p0 p1 p2) (fun y => Iv z.2.1 y.2)) :=
  sMono (lL_ruleWorth hN hK (Iv.x I)) (fun z q => sMono (aM_ruleWorth hN hK (Iv.m I)) (fun y q2 => Iv.st I q q2))
theorem pj_times {N K : Nat} {S : CS} {M : MS} {p0 : Int32} {p1 : Int32} {nv : Int64} (hN : NBig N) (hK : 100 ≤ K) (I : Iv S M) : Sf (gL_times N K S p0 p1 nv) (fun z => Sf (gM_times N K M p0 p1) (fun y => Iv z.2.1 y.2)) :=
  sMono (lL_times hN hK (Iv.x I)) (fun z q => sMono (aM_times hN hK (Iv.m I)) (fun y q2 => Iv.st I q q2))
theorem pj_way {N K : Nat} {S : CS} {M : MS} {p0 : Int32} {p1 : Int32} {nv : Int64} (hN : NBig N) (hK : 100 ≤ K) (I : Iv S M) : Sf (gL_way N K S p0 p1 nv) (fun z => Sf (gM_way N K M p0 p1) (fun y => Iv z.2.1 y.2)) :=
  sMono (lL_way hN hK (Iv.x I)) (fun z q => sMono (aM_way hN hK (Iv.m I)) (fun y q2 => Iv.st I q q2))
theorem pj_wayText {N K : Nat} {S : CS} {M : MS} {p0 : Int32} {nv : Int64} (hN : NBig N) (hK : 100 ≤ K) (I : Iv S M) : Sf (gL_wayText N K S p0 nv) (fun z => Sf (gM_wayText N K M p0) (fun y => Iv z.2.1 y)) :=
  sMono (lL_wayText hN hK (Iv.x I)) (fun z q => sMono (aM_wayText hN hK (Iv.m I)) (fun y q2 => Iv.st I q q2))
theorem pj_isOf {N K : Nat} {S : CS} {M : MS} {p0 : Int32} {p1 : Int32} {p2 : Int32} {nv : Int64} (hN : NBig N) (hK : 100 ≤ K) (I : Iv S M) : Sf (gL_isOf N K S p0 p1 p2 nv) (fun z => Sf (gM_isOf N K M p0 p1 p2) (fun y => Iv z.2.1 y.2)) :=
  sMono (lL_isOf hN hK (Iv.x I)) (fun z q => sMono (aM_isOf hN hK (Iv.m I)) (fun y q2 => Iv.st I q q2))
theorem pj_isSameWay {N K : Nat} {S : CS} {M : MS} (hN : NBig N) (hK : 100 ≤ K) (I : Iv S M) : Sf (gX_isSameWay N K S ) (fun z => Sf (gM_isSameWay N K M ) (fun y => Iv z.2 y.2)) :=
  sMono (aX_isSameWay hN hK (Iv.x I)) (fun z q => sMono (aM_isSameWay hN hK (Iv.m I)) (fun y q2 => Iv.st I q q2))
theorem pj_tally {N K : Nat} {S : CS} {M : MS} {p0 : Int32} {nv : Int64} (hN : NBig N) (hK : 100 ≤ K) (I : Iv S M) : Sf (gL_tally N K S p0 nv) (fun z => Sf (gM_tally N K M p0) (fun y => Iv z.2.1 y.2)) :=
  sMono (lL_tally hN hK (Iv.x I)) (fun z q => sMono (aM_tally hN hK (Iv.m I)) (fun y q2 => Iv.st I q q2))
theorem pj_isSound {N K : Nat} {S : CS} {M : MS} {p0 : Int32} {nv : Int64} (hN : NBig N) (hK : 100 ≤ K) (I : Iv S M) : Sf (gL_isSound N K S p0 nv) (fun z => Sf (gM_isSound N K M p0) (fun y => Iv z.2.1 y.2)) :=
  sMono (lL_isSound hN hK (Iv.x I)) (fun z q => sMono (aM_isSound hN hK (Iv.m I)) (fun y q2 => Iv.st I q q2))
theorem pj_digest {N K : Nat} {S : CS} {M : MS} (hN : NBig N) (hK : 100 ≤ K) (I : Iv S M) : Sf (gX_digest N K S ) (fun z => Sf (gM_digest N K M ) (fun y => Iv z.2 y.2)) :=
  sMono (aX_digest hN hK (Iv.x I)) (fun z q => sMono (aM_digest hN hK (Iv.m I)) (fun y q2 => Iv.st I q q2))
theorem lc_0 {N K L : Nat} {xs : Nat → Int32} {k : Int32 → CS → MS → Int64 → Option Int32} {i : Int32} {S : CS} {M : MS} {nv : Int64} (hN : NBig N) (hK : 100 ≤ K) (I : Iv S M) (B : ixs L i) (hk : ∀ S' M' nv', Iv S' M' → Sf (k (i + (6 : Int32)) S' M' nv') (fun z => z = 1)) : Sf (flc_0 N K L xs k i S M nv) (fun z => z = 1) := by
  unfold flc_0
  exact (sIfF (B _ (by decide) (by decide)) (sIfF (B _ (by decide) (by decide)) (sIfF (B _ (by decide) (by decide)) (sIfF (B _ (by decide) (by decide)) (sBind (pj_know hN hK I) (fun z254 I1 => (sIfF (B _ (by decide) (by decide)) (sIfF (B _ (by decide) (by decide)) (sIfF (B _ (by decide) (by decide)) (sIfF (B _ (by decide) (by decide)) (sBind I1 (fun z284 I2 => (hk _ _ _ I2)))))))))))))
theorem lc_1 {N K L : Nat} {xs : Nat → Int32} {k : Int32 → CS → MS → Int64 → Option Int32} {i : Int32} {S : CS} {M : MS} {nv : Int64} (hN : NBig N) (hK : 100 ≤ K) (I : Iv S M) (B : ixs L i) (hk : ∀ S' M' nv', Iv S' M' → Sf (k (i + (6 : Int32)) S' M' nv') (fun z => z = 1)) : Sf (flc_1 N K L xs k i S M nv) (fun z => z = 1) := by
  unfold flc_1
  exact (sIfF (B _ (by decide) (by decide)) (sIfF (B _ (by decide) (by decide)) (sIfF (B _ (by decide) (by decide)) (sBind (pj_few hN hK I) (fun z312 I1 => (sIfF (B _ (by decide) (by decide)) (sIfF (B _ (by decide) (by decide)) (sIfF (B _ (by decide) (by decide)) (sBind I1 (fun z336 I2 => (hk _ _ _ I2)))))))))))
theorem lc_2 {N K L : Nat} {xs : Nat → Int32} {k : Int32 → CS → MS → Int64 → Option Int32} {i : Int32} {S : CS} {M : MS} {nv : Int64} (hN : NBig N) (hK : 100 ≤ K) (I : Iv S M) (B : ixs L i) (hk : ∀ S' M' nv', Iv S' M' → Sf (k (i + (6 : Int32)) S' M' nv') (fun z => z = 1)) : Sf (flc_2 N K L xs k i S M nv) (fun z => z = 1) := by
  unfold flc_2
  exact (sIfF (B _ (by decide) (by decide)) (sIfF (B _ (by decide) (by decide)) (sBind (pj_surplus hN hK I) (fun z358 I1 => (sIfF (B _ (by decide) (by decide)) (sIfF (B _ (by decide) (by decide)) (sBind I1 (fun z376 I2 => (hk _ _ _ I2)))))))))
theorem lc_3 {N K L : Nat} {xs : Nat → Int32} {k : Int32 → CS → MS → Int64 → Option Int32} {i : Int32} {S : CS} {M : MS} {nv : Int64} (hN : NBig N) (hK : 100 ≤ K) (I : Iv S M) (B : ixs L i) (hk : ∀ S' M' nv', Iv S' M' → Sf (k (i + (6 : Int32)) S' M' nv') (fun z => z = 1)) : Sf (flc_3 N K L xs k i S M nv) (fun z => z = 1) := by
  unfold flc_3
  exact (sIfF (B _ (by decide) (by decide)) (sIfF (B _ (by decide) (by decide)) (sBind (pq_place hN hK I) (fun z398 I1 => (sIfF (B _ (by decide) (by decide)) (sIfF (B _ (by decide) (by decide)) (sBind I1 (fun z416 I2 => (sBind aM_thrown (fun z422 I3 => (sIfT (I3.1.trans I2.1.1) (sIf (fun h0 => (sIfT (lgc (I2.1.2 h0)) (hk _ _ _ (Iv.th I2.2 I3.2)))) (fun _ => (hk _ _ _ (Iv.th I2.2 I3.2)))))))))))))))
theorem lc_4 {N K L : Nat} {xs : Nat → Int32} {k : Int32 → CS → MS → Int64 → Option Int32} {i : Int32} {S : CS} {M : MS} {nv : Int64} (hN : NBig N) (hK : 100 ≤ K) (I : Iv S M) (B : ixs L i) (hk : ∀ S' M' nv', Iv S' M' → Sf (k (i + (6 : Int32)) S' M' nv') (fun z => z = 1)) : Sf (flc_4 N K L xs k i S M nv) (fun z => z = 1) := by
  unfold flc_4
  exact (sIfF (B _ (by decide) (by decide)) (sIfF (B _ (by decide) (by decide)) (sIfF (B _ (by decide) (by decide)) (sIfF (B _ (by decide) (by decide)) (sBind (pj_learn hN hK I) (fun z479 I1 => (sIfF (B _ (by decide) (by decide)) (sIfF (B _ (by decide) (by decide)) (sIfF (B _ (by decide) (by decide)) (sIfF (B _ (by decide) (by decide)) (sBind I1 (fun z509 I2 => (hk _ _ _ I2)))))))))))))
theorem lc_5 {N K L : Nat} {xs : Nat → Int32} {k : Int32 → CS → MS → Int64 → Option Int32} {i : Int32} {S : CS} {M : MS} {nv : Int64} (hN : NBig N) (hK : 100 ≤ K) (I : Iv S M) (B : ixs L i) (hk : ∀ S' M' nv', Iv S' M' → Sf (k (i + (6 : Int32)) S' M' nv') (fun z => z = 1)) : Sf (flc_5 N K L xs k i S M nv) (fun z => z = 1) := by
  unfold flc_5
  exact (sIfF (B _ (by decide) (by decide)) (sIfF (B _ (by decide) (by decide)) (sIfF (B _ (by decide) (by decide)) (sIfF (B _ (by decide) (by decide)) (sBind (pj_relearn hN hK I) (fun z543 I1 => (sIfF (B _ (by decide) (by decide)) (sIfF (B _ (by decide) (by decide)) (sIfF (B _ (by decide) (by decide)) (sIfF (B _ (by decide) (by decide)) (sBind I1 (fun z573 I2 => (hk _ _ _ I2)))))))))))))
theorem lc_6 {N K L : Nat} {xs : Nat → Int32} {k : Int32 → CS → MS → Int64 → Option Int32} {i : Int32} {S : CS} {M : MS} {nv : Int64} (hN : NBig N) (hK : 100 ≤ K) (I : Iv S M) (B : ixs L i) (hk : ∀ S' M' nv', Iv S' M' → Sf (k (i + (6 : Int32)) S' M' nv') (fun z => z = 1)) : Sf (flc_6 N K L xs k i S M nv) (fun z => z = 1) := by
  unfold flc_6
  exact (sIfF (B _ (by decide) (by decide)) (sIfF (B _ (by decide) (by decide)) (sIfF (B _ (by decide) (by decide)) (sIfF (B _ (by decide) (by decide)) (sBind (pj_forget hN hK I) (fun z607 I1 => (sIfF (B _ (by decide) (by decide)) (sIfF (B _ (by decide) (by decide)) (sIfF (B _ (by decide) (by decide)) (sIfF (B _ (by decide) (by decide)) (sBind I1 (fun z637 I2 => (hk _ _ _ I2)))))))))))))
theorem lc_7 {N K L : Nat} {xs : Nat → Int32} {k : Int32 → CS → MS → Int64 → Option Int32} {i : Int32} {S : CS} {M : MS} {nv : Int64} (hN : NBig N) (hK : 100 ≤ K) (I : Iv S M) (B : ixs L i) (hk : ∀ S' M' nv', Iv S' M' → Sf (k (i + (6 : Int32)) S' M' nv') (fun z => z = 1)) : Sf (flc_7 N K L xs k i S M nv) (fun z => z = 1) := by
  unfold flc_7
  exact (sIfF (B _ (by decide) (by decide)) (sIfF (B _ (by decide) (by decide)) (sIfF (B _ (by decide) (by decide)) (sIfF (B _ (by decide) (by decide)) (sIfF (B _ (by decide) (by decide)) (sBind (pj_forgetIf hN hK I) (fun z677 I1 => (sIfF (B _ (by decide) (by decide)) (sIfF (B _ (by decide) (by decide)) (sIfF (B _ (by decide) (by decide)) (sIfF (B _ (by decide) (by decide)) (sIfF (B _ (by decide) (by decide)) (sBind I1 (fun z713 I2 => (hk _ _ _ I2)))))))))))))))
theorem lc_8 {N K L : Nat} {xs : Nat → Int32} {k : Int32 → CS → MS → Int64 → Option Int32} {i : Int32} {S : CS} {M : MS} {nv : Int64} (hN : NBig N) (hK : 100 ≤ K) (I : Iv S M) (B : ixs L i) (hk : ∀ S' M' nv', Iv S' M' → Sf (k (i + (6 : Int32)) S' M' nv') (fun z => z = 1)) : Sf (flc_8 N K L xs k i S M nv) (fun z => z = 1) := by
  unfold flc_8
  exact (sIfF (B _ (by decide) (by decide)) (sIfF (B _ (by decide) (by decide)) (sIfF (B _ (by decide) (by decide)) (sBind (pj_forgetAll hN hK I) (fun z741 I1 => (sIfF (B _ (by decide) (by decide)) (sIfF (B _ (by decide) (by decide)) (sIfF (B _ (by decide) (by decide)) (sBind I1 (fun z765 I2 => (hk _ _ _ I2)))))))))))
theorem lc_9 {N K L : Nat} {xs : Nat → Int32} {k : Int32 → CS → MS → Int64 → Option Int32} {i : Int32} {S : CS} {M : MS} {nv : Int64} (hN : NBig N) (hK : 100 ≤ K) (I : Iv S M) (B : ixs L i) (hk : ∀ S' M' nv', Iv S' M' → Sf (k (i + (6 : Int32)) S' M' nv') (fun z => z = 1)) : Sf (flc_9 N K L xs k i S M nv) (fun z => z = 1) := by
  unfold flc_9
  exact (sIfF (B _ (by decide) (by decide)) (sBind (pj_clear hN hK I) (fun z781 I1 => (sIfF (B _ (by decide) (by decide)) (sBind I1 (fun z793 I2 => (hk _ _ _ I2)))))))
theorem lc_10 {N K L : Nat} {xs : Nat → Int32} {k : Int32 → CS → MS → Int64 → Option Int32} {i : Int32} {S : CS} {M : MS} {nv : Int64} (hN : NBig N) (hK : 100 ≤ K) (I : Iv S M) (B : ixs L i) (hk : ∀ S' M' nv', Iv S' M' → Sf (k (i + (6 : Int32)) S' M' nv') (fun z => z = 1)) : Sf (flc_10 N K L xs k i S M nv) (fun z => z = 1) := by
  unfold flc_10
  exact (sIfF (B _ (by decide) (by decide)) (sIfF (B _ (by decide) (by decide)) (sBind (pj_copy hN hK I) (fun z815 I1 => (sIfF (B _ (by decide) (by decide)) (sIfF (B _ (by decide) (by decide)) (sBind I1 (fun z833 I2 => (hk _ _ _ I2)))))))))
theorem lc_11 {N K L : Nat} {xs : Nat → Int32} {k : Int32 → CS → MS → Int64 → Option Int32} {i : Int32} {S : CS} {M : MS} {nv : Int64} (hN : NBig N) (hK : 100 ≤ K) (I : Iv S M) (B : ixs L i) (hk : ∀ S' M' nv', Iv S' M' → Sf (k (i + (6 : Int32)) S' M' nv') (fun z => z = 1)) : Sf (flc_11 N K L xs k i S M nv) (fun z => z = 1) := by
  unfold flc_11
  exact (sIfF (B _ (by decide) (by decide)) (sIfF (B _ (by decide) (by decide)) (sBind (pj_pour hN hK I) (fun z855 I1 => (sIfF (B _ (by decide) (by decide)) (sIfF (B _ (by decide) (by decide)) (sBind I1 (fun z873 I2 => (hk _ _ _ I2)))))))))
theorem lc_12 {N K L : Nat} {xs : Nat → Int32} {k : Int32 → CS → MS → Int64 → Option Int32} {i : Int32} {S : CS} {M : MS} {nv : Int64} (hN : NBig N) (hK : 100 ≤ K) (I : Iv S M) (B : ixs L i) (hk : ∀ S' M' nv', Iv S' M' → Sf (k (i + (6 : Int32)) S' M' nv') (fun z => z = 1)) : Sf (flc_12 N K L xs k i S M nv) (fun z => z = 1) := by
  unfold flc_12
  exact (sIfF (B _ (by decide) (by decide)) (sIfF (B _ (by decide) (by decide)) (sIfF (B _ (by decide) (by decide)) (sIfF (B _ (by decide) (by decide)) (sIfF (B _ (by decide) (by decide)) (sBind (pj_isKept hN hK I) (fun z913 I1 => (sIfF (B _ (by decide) (by decide)) (sIfF (B _ (by decide) (by decide)) (sIfF (B _ (by decide) (by decide)) (sIfF (B _ (by decide) (by decide)) (sIfF (B _ (by decide) (by decide)) (sBind I1 (fun z949 I2 => (hk _ _ _ I2)))))))))))))))
theorem lc_13 {N K L : Nat} {xs : Nat → Int32} {k : Int32 → CS → MS → Int64 → Option Int32} {i : Int32} {S : CS} {M : MS} {nv : Int64} (hN : NBig N) (hK : 100 ≤ K) (I : Iv S M) (B : ixs L i) (hk : ∀ S' M' nv', Iv S' M' → Sf (k (i + (6 : Int32)) S' M' nv') (fun z => z = 1)) : Sf (flc_13 N K L xs k i S M nv) (fun z => z = 1) := by
  unfold flc_13
  exact (sIfF (B _ (by decide) (by decide)) (sIfF (B _ (by decide) (by decide)) (sIfF (B _ (by decide) (by decide)) (sIfF (B _ (by decide) (by decide)) (sIfF (B _ (by decide) (by decide)) (sBind (pj_worthOr hN hK I) (fun z989 I1 => (sIfF (B _ (by decide) (by decide)) (sIfF (B _ (by decide) (by decide)) (sIfF (B _ (by decide) (by decide)) (sIfF (B _ (by decide) (by decide)) (sIfF (B _ (by decide) (by decide)) (sBind I1 (fun z1025 I2 => (hk _ _ _ I2)))))))))))))))
theorem lc_14 {N K L : Nat} {xs : Nat → Int32} {k : Int32 → CS → MS → Int64 → Option Int32} {i : Int32} {S : CS} {M : MS} {nv : Int64} (hN : NBig N) (hK : 100 ≤ K) (I : Iv S M) (B : ixs L i) (hk : ∀ S' M' nv', Iv S' M' → Sf (k (i + (6 : Int32)) S' M' nv') (fun z => z = 1)) : Sf (flc_14 N K L xs k i S M nv) (fun z => z = 1) := by
  unfold flc_14
  exact (sIfF (B _ (by decide) (by decide)) (sIfF (B _ (by decide) (by decide)) (sIfF (B _ (by decide) (by decide)) (sIfF (B _ (by decide) (by decide)) (sIfF (B _ (by decide) (by decide)) (sBind (pj_confirm hN hK I) (fun z1065 I1 => (sIfF (B _ (by decide) (by decide)) (sIfF (B _ (by decide) (by decide)) (sIfF (B _ (by decide) (by decide)) (sIfF (B _ (by decide) (by decide)) (sIfF (B _ (by decide) (by decide)) (sBind I1 (fun z1101 I2 => (hk _ _ _ I2)))))))))))))))
theorem lc_15 {N K L : Nat} {xs : Nat → Int32} {k : Int32 → CS → MS → Int64 → Option Int32} {i : Int32} {S : CS} {M : MS} {nv : Int64} (hN : NBig N) (hK : 100 ≤ K) (I : Iv S M) (B : ixs L i) (hk : ∀ S' M' nv', Iv S' M' → Sf (k (i + (6 : Int32)) S' M' nv') (fun z => z = 1)) : Sf (flc_15 N K L xs k i S M nv) (fun z => z = 1) := by
  unfold flc_15
  exact (sIfF (B _ (by decide) (by decide)) (sIfF (B _ (by decide) (by decide)) (sBind (pj_about hN hK I) (fun z1123 I1 => (sIfF (B _ (by decide) (by decide)) (sIfF (B _ (by decide) (by decide)) (sBind I1 (fun z1141 I2 => (hk _ _ _ I2)))))))))
theorem lc_16 {N K L : Nat} {xs : Nat → Int32} {k : Int32 → CS → MS → Int64 → Option Int32} {i : Int32} {S : CS} {M : MS} {nv : Int64} (hN : NBig N) (hK : 100 ≤ K) (I : Iv S M) (B : ixs L i) (hk : ∀ S' M' nv', Iv S' M' → Sf (k (i + (6 : Int32)) S' M' nv') (fun z => z = 1)) : Sf (flc_16 N K L xs k i S M nv) (fun z => z = 1) := by
  unfold flc_16
  exact (sIfF (B _ (by decide) (by decide)) (sIfF (B _ (by decide) (by decide)) (sBind (pj_has hN hK I) (fun z1163 I1 => (sIfF (B _ (by decide) (by decide)) (sIfF (B _ (by decide) (by decide)) (sBind I1 (fun z1181 I2 => (hk _ _ _ I2)))))))))
theorem lc_17 {N K L : Nat} {xs : Nat → Int32} {k : Int32 → CS → MS → Int64 → Option Int32} {i : Int32} {S : CS} {M : MS} {nv : Int64} (hN : NBig N) (hK : 100 ≤ K) (I : Iv S M) (B : ixs L i) (hk : ∀ S' M' nv', Iv S' M' → Sf (k (i + (6 : Int32)) S' M' nv') (fun z => z = 1)) : Sf (flc_17 N K L xs k i S M nv) (fun z => z = 1) := by
  unfold flc_17
  exact (sIfF (B _ (by decide) (by decide)) (sIfF (B _ (by decide) (by decide)) (sIfF (B _ (by decide) (by decide)) (sBind (pj_count hN hK I) (fun z1209 I1 => (sIfF (B _ (by decide) (by decide)) (sIfF (B _ (by decide) (by decide)) (sIfF (B _ (by decide) (by decide)) (sBind I1 (fun z1233 I2 => (hk _ _ _ I2)))))))))))
theorem lc_18 {N K L : Nat} {xs : Nat → Int32} {k : Int32 → CS → MS → Int64 → Option Int32} {i : Int32} {S : CS} {M : MS} {nv : Int64} (hN : NBig N) (hK : 100 ≤ K) (I : Iv S M) (B : ixs L i) (hk : ∀ S' M' nv', Iv S' M' → Sf (k (i + (6 : Int32)) S' M' nv') (fun z => z = 1)) : Sf (flc_18 N K L xs k i S M nv) (fun z => z = 1) := by
  unfold flc_18
  exact (sIfF (B _ (by decide) (by decide)) (sIfF (B _ (by decide) (by decide)) (sBind (pj_isSame hN hK I) (fun z1255 I1 => (sIfF (B _ (by decide) (by decide)) (sIfF (B _ (by decide) (by decide)) (sBind I1 (fun z1273 I2 => (hk _ _ _ I2)))))))))
theorem lc_19 {N K L : Nat} {xs : Nat → Int32} {k : Int32 → CS → MS → Int64 → Option Int32} {i : Int32} {S : CS} {M : MS} {nv : Int64} (hN : NBig N) (hK : 100 ≤ K) (I : Iv S M) (B : ixs L i) (hk : ∀ S' M' nv', Iv S' M' → Sf (k (i + (6 : Int32)) S' M' nv') (fun z => z = 1)) : Sf (flc_19 N K L xs k i S M nv) (fun z => z = 1) := by
  unfold flc_19
  exact (sIfF (B _ (by decide) (by decide)) (sIfF (B _ (by decide) (by decide)) (sIfF (B _ (by decide) (by decide)) (sBind (pj_walk hN hK I) (fun z1301 I1 => (sIfF (B _ (by decide) (by decide)) (sIfF (B _ (by decide) (by decide)) (sIfF (B _ (by decide) (by decide)) (sBind I1 (fun z1325 I2 => (hk _ _ _ I2)))))))))))
theorem lc_20 {N K L : Nat} {xs : Nat → Int32} {k : Int32 → CS → MS → Int64 → Option Int32} {i : Int32} {S : CS} {M : MS} {nv : Int64} (hN : NBig N) (hK : 100 ≤ K) (I : Iv S M) (B : ixs L i) (hk : ∀ S' M' nv', Iv S' M' → Sf (k (i + (6 : Int32)) S' M' nv') (fun z => z = 1)) : Sf (flc_20 N K L xs k i S M nv) (fun z => z = 1) := by
  unfold flc_20
  exact (sIfF (B _ (by decide) (by decide)) (sIfF (B _ (by decide) (by decide)) (sIfF (B _ (by decide) (by decide)) (sBind (pj_product hN hK I) (fun z1353 I1 => (sIfF (B _ (by decide) (by decide)) (sIfF (B _ (by decide) (by decide)) (sIfF (B _ (by decide) (by decide)) (sBind I1 (fun z1377 I2 => (hk _ _ _ I2)))))))))))
theorem lc_21 {N K L : Nat} {xs : Nat → Int32} {k : Int32 → CS → MS → Int64 → Option Int32} {i : Int32} {S : CS} {M : MS} {nv : Int64} (hN : NBig N) (hK : 100 ≤ K) (I : Iv S M) (B : ixs L i) (hk : ∀ S' M' nv', Iv S' M' → Sf (k (i + (6 : Int32)) S' M' nv') (fun z => z = 1)) : Sf (flc_21 N K L xs k i S M nv) (fun z => z = 1) := by
  unfold flc_21
  exact (sIfF (B _ (by decide) (by decide)) (sIfF (B _ (by decide) (by decide)) (sBind (pj_rule hN hK I) (fun z1399 I1 => (sIfF (B _ (by decide) (by decide)) (sIfF (B _ (by decide) (by decide)) (sBind I1 (fun z1417 I2 => (hk _ _ _ I2)))))))))
theorem lc_22 {N K L : Nat} {xs : Nat → Int32} {k : Int32 → CS → MS → Int64 → Option Int32} {i : Int32} {S : CS} {M : MS} {nv : Int64} (hN : NBig N) (hK : 100 ≤ K) (I : Iv S M) (B : ixs L i) (hk : ∀ S' M' nv', Iv S' M' → Sf (k (i + (6 : Int32)) S' M' nv') (fun z => z = 1)) : Sf (flc_22 N K L xs k i S M nv) (fun z => z = 1) := by
  unfold flc_22
  exact (sIfF (B _ (by decide) (by decide)) (sIfF (B _ (by decide) (by decide)) (sBind (pj_forgetRule hN hK I) (fun z1439 I1 => (sIfF (B _ (by decide) (by decide)) (sIfF (B _ (by decide) (by decide)) (sBind I1 (fun z1457 I2 => (hk _ _ _ I2)))))))))
theorem lc_23 {N K L : Nat} {xs : Nat → Int32} {k : Int32 → CS → MS → Int64 → Option Int32} {i : Int32} {S : CS} {M : MS} {nv : Int64} (hN : NBig N) (hK : 100 ≤ K) (I : Iv S M) (B : ixs L i) (hk : ∀ S' M' nv', Iv S' M' → Sf (k (i + (6 : Int32)) S' M' nv') (fun z => z = 1)) : Sf (flc_23 N K L xs k i S M nv) (fun z => z = 1) := by
  unfold flc_23
  exact (sIfF (B _ (by decide) (by decide)) (sIfF (B _ (by decide) (by decide)) (sBind (pj_ledger hN hK I) (fun z1479 I1 => (sIfF (B _ (by decide) (by decide)) (sIfF (B _ (by decide) (by decide)) (sBind I1 (fun z1497 I2 => (hk _ _ _ I2)))))))))
theorem lc_24 {N K L : Nat} {xs : Nat → Int32} {k : Int32 → CS → MS → Int64 → Option Int32} {i : Int32} {S : CS} {M : MS} {nv : Int64} (hN : NBig N) (hK : 100 ≤ K) (I : Iv S M) (B : ixs L i) (hk : ∀ S' M' nv', Iv S' M' → Sf (k (i + (6 : Int32)) S' M' nv') (fun z => z = 1)) : Sf (flc_24 N K L xs k i S M nv) (fun z => z = 1) := by
  unfold flc_24
  exact (sIfF (B _ (by decide) (by decide)) (sIfF (B _ (by decide) (by decide)) (sIfF (B _ (by decide) (by decide)) (sBind (pj_ruleWorth hN hK I) (fun z1525 I1 => (sIfF (B _ (by decide) (by decide)) (sIfF (B _ (by decide) (by decide)) (sIfF (B _ (by decide) (by decide)) (sBind I1 (fun z1549 I2 => (hk _ _ _ I2)))))))))))
theorem lc_25 {N K L : Nat} {xs : Nat → Int32} {k : Int32 → CS → MS → Int64 → Option Int32} {i : Int32} {S : CS} {M : MS} {nv : Int64} (hN : NBig N) (hK : 100 ≤ K) (I : Iv S M) (B : ixs L i) (hk : ∀ S' M' nv', Iv S' M' → Sf (k (i + (6 : Int32)) S' M' nv') (fun z => z = 1)) : Sf (flc_25 N K L xs k i S M nv) (fun z => z = 1) := by
  unfold flc_25
  exact (sIfF (B _ (by decide) (by decide)) (sIfF (B _ (by decide) (by decide)) (sIfF (B _ (by decide) (by decide)) (sBind (pj_addPart hN hK I) (fun z1577 I1 => (sIfF (B _ (by decide) (by decide)) (sIfF (B _ (by decide) (by decide)) (sIfF (B _ (by decide) (by decide)) (sBind I1 (fun z1601 I2 => (hk _ _ _ I2)))))))))))
theorem lc_26 {N K L : Nat} {xs : Nat → Int32} {k : Int32 → CS → MS → Int64 → Option Int32} {i : Int32} {S : CS} {M : MS} {nv : Int64} (hN : NBig N) (hK : 100 ≤ K) (I : Iv S M) (B : ixs L i) (hk : ∀ S' M' nv', Iv S' M' → Sf (k (i + (6 : Int32)) S' M' nv') (fun z => z = 1)) : Sf (flc_26 N K L xs k i S M nv) (fun z => z = 1) := by
  unfold flc_26
  exact (sIfF (B _ (by decide) (by decide)) (sIfF (B _ (by decide) (by decide)) (sBind (pj_takePart hN hK I) (fun z1623 I1 => (sIfF (B _ (by decide) (by decide)) (sIfF (B _ (by decide) (by decide)) (sBind I1 (fun z1641 I2 => (hk _ _ _ I2)))))))))
theorem lc_27 {N K L : Nat} {xs : Nat → Int32} {k : Int32 → CS → MS → Int64 → Option Int32} {i : Int32} {S : CS} {M : MS} {nv : Int64} (hN : NBig N) (hK : 100 ≤ K) (I : Iv S M) (B : ixs L i) (hk : ∀ S' M' nv', Iv S' M' → Sf (k (i + (6 : Int32)) S' M' nv') (fun z => z = 1)) : Sf (flc_27 N K L xs k i S M nv) (fun z => z = 1) := by
  unfold flc_27
  exact (sIfF (B _ (by decide) (by decide)) (sIfF (B _ (by decide) (by decide)) (sBind (pj_layFirst hN hK I) (fun z1663 I1 => (sIfF (B _ (by decide) (by decide)) (sIfF (B _ (by decide) (by decide)) (sBind I1 (fun z1681 I2 => (hk _ _ _ I2)))))))))
theorem lc_28 {N K L : Nat} {xs : Nat → Int32} {k : Int32 → CS → MS → Int64 → Option Int32} {i : Int32} {S : CS} {M : MS} {nv : Int64} (hN : NBig N) (hK : 100 ≤ K) (I : Iv S M) (B : ixs L i) (hk : ∀ S' M' nv', Iv S' M' → Sf (k (i + (6 : Int32)) S' M' nv') (fun z => z = 1)) : Sf (flc_28 N K L xs k i S M nv) (fun z => z = 1) := by
  unfold flc_28
  exact (sIfF (B _ (by decide) (by decide)) (sBind (pj_next hN hK I) (fun z1697 I1 => (sIfF (B _ (by decide) (by decide)) (sBind I1 (fun z1709 I2 => (hk _ _ _ I2)))))))
theorem lc_29 {N K L : Nat} {xs : Nat → Int32} {k : Int32 → CS → MS → Int64 → Option Int32} {i : Int32} {S : CS} {M : MS} {nv : Int64} (hN : NBig N) (hK : 100 ≤ K) (I : Iv S M) (B : ixs L i) (hk : ∀ S' M' nv', Iv S' M' → Sf (k (i + (6 : Int32)) S' M' nv') (fun z => z = 1)) : Sf (flc_29 N K L xs k i S M nv) (fun z => z = 1) := by
  unfold flc_29
  exact (sIfF (B _ (by decide) (by decide)) (sBind (pj_turn hN hK I) (fun z1725 I1 => (sIfF (B _ (by decide) (by decide)) (sBind I1 (fun z1737 I2 => (hk _ _ _ I2)))))))
theorem lc_30 {N K L : Nat} {xs : Nat → Int32} {k : Int32 → CS → MS → Int64 → Option Int32} {i : Int32} {S : CS} {M : MS} {nv : Int64} (hN : NBig N) (hK : 100 ≤ K) (I : Iv S M) (B : ixs L i) (hk : ∀ S' M' nv', Iv S' M' → Sf (k (i + (6 : Int32)) S' M' nv') (fun z => z = 1)) : Sf (flc_30 N K L xs k i S M nv) (fun z => z = 1) := by
  unfold flc_30
  exact (sIfF (B _ (by decide) (by decide)) (sBind (pj_toUnlike hN hK I) (fun z1753 I1 => (sIfF (B _ (by decide) (by decide)) (sBind I1 (fun z1765 I2 => (hk _ _ _ I2)))))))
theorem lc_31 {N K L : Nat} {xs : Nat → Int32} {k : Int32 → CS → MS → Int64 → Option Int32} {i : Int32} {S : CS} {M : MS} {nv : Int64} (hN : NBig N) (hK : 100 ≤ K) (I : Iv S M) (B : ixs L i) (hk : ∀ S' M' nv', Iv S' M' → Sf (k (i + (6 : Int32)) S' M' nv') (fun z => z = 1)) : Sf (flc_31 N K L xs k i S M nv) (fun z => z = 1) := by
  unfold flc_31
  exact (sIfF (B _ (by decide) (by decide)) (sBind (pj_toOdd hN hK I) (fun z1781 I1 => (sIfF (B _ (by decide) (by decide)) (sBind I1 (fun z1793 I2 => (hk _ _ _ I2)))))))
theorem lc_32 {N K L : Nat} {xs : Nat → Int32} {k : Int32 → CS → MS → Int64 → Option Int32} {i : Int32} {S : CS} {M : MS} {nv : Int64} (hN : NBig N) (hK : 100 ≤ K) (I : Iv S M) (B : ixs L i) (hk : ∀ S' M' nv', Iv S' M' → Sf (k (i + (6 : Int32)) S' M' nv') (fun z => z = 1)) : Sf (flc_32 N K L xs k i S M nv) (fun z => z = 1) := by
  unfold flc_32
  exact (sIfF (B _ (by decide) (by decide)) (sBind (pj_copyDesk hN hK I) (fun z1809 I1 => (sIfF (B _ (by decide) (by decide)) (sBind I1 (fun z1821 I2 => (hk _ _ _ I2)))))))
theorem lc_33 {N K L : Nat} {xs : Nat → Int32} {k : Int32 → CS → MS → Int64 → Option Int32} {i : Int32} {S : CS} {M : MS} {nv : Int64} (hN : NBig N) (hK : 100 ≤ K) (I : Iv S M) (B : ixs L i) (hk : ∀ S' M' nv', Iv S' M' → Sf (k (i + (6 : Int32)) S' M' nv') (fun z => z = 1)) : Sf (flc_33 N K L xs k i S M nv) (fun z => z = 1) := by
  unfold flc_33
  exact (sIfF (B _ (by decide) (by decide)) (sIfF (B _ (by decide) (by decide)) (sBind (pj_times hN hK I) (fun z1843 I1 => (sIfF (B _ (by decide) (by decide)) (sIfF (B _ (by decide) (by decide)) (sBind I1 (fun z1861 I2 => (hk _ _ _ I2)))))))))
theorem lc_34 {N K L : Nat} {xs : Nat → Int32} {k : Int32 → CS → MS → Int64 → Option Int32} {i : Int32} {S : CS} {M : MS} {nv : Int64} (hN : NBig N) (hK : 100 ≤ K) (I : Iv S M) (B : ixs L i) (hk : ∀ S' M' nv', Iv S' M' → Sf (k (i + (6 : Int32)) S' M' nv') (fun z => z = 1)) : Sf (flc_34 N K L xs k i S M nv) (fun z => z = 1) := by
  unfold flc_34
  exact (sIfF (B _ (by decide) (by decide)) (sIfF (B _ (by decide) (by decide)) (sBind (pj_way hN hK I) (fun z1883 I1 => (sIfF (B _ (by decide) (by decide)) (sIfF (B _ (by decide) (by decide)) (sBind I1 (fun z1901 I2 => (hk _ _ _ I2)))))))))
theorem lc_35 {N K L : Nat} {xs : Nat → Int32} {k : Int32 → CS → MS → Int64 → Option Int32} {i : Int32} {S : CS} {M : MS} {nv : Int64} (hN : NBig N) (hK : 100 ≤ K) (I : Iv S M) (B : ixs L i) (hk : ∀ S' M' nv', Iv S' M' → Sf (k (i + (6 : Int32)) S' M' nv') (fun z => z = 1)) : Sf (flc_35 N K L xs k i S M nv) (fun z => z = 1) := by
  unfold flc_35
  exact (sIfF (B _ (by decide) (by decide)) (sBind (pj_wayText hN hK I) (fun z1917 I1 => (sIfF (B _ (by decide) (by decide)) (sBind I1 (fun z1929 I2 => (hk _ _ _ I2)))))))
theorem lc_36 {N K L : Nat} {xs : Nat → Int32} {k : Int32 → CS → MS → Int64 → Option Int32} {i : Int32} {S : CS} {M : MS} {nv : Int64} (hN : NBig N) (hK : 100 ≤ K) (I : Iv S M) (B : ixs L i) (hk : ∀ S' M' nv', Iv S' M' → Sf (k (i + (6 : Int32)) S' M' nv') (fun z => z = 1)) : Sf (flc_36 N K L xs k i S M nv) (fun z => z = 1) := by
  unfold flc_36
  exact (sIfF (B _ (by decide) (by decide)) (sIfF (B _ (by decide) (by decide)) (sIfF (B _ (by decide) (by decide)) (sBind (pj_isOf hN hK I) (fun z1957 I1 => (sIfF (B _ (by decide) (by decide)) (sIfF (B _ (by decide) (by decide)) (sIfF (B _ (by decide) (by decide)) (sBind I1 (fun z1981 I2 => (hk _ _ _ I2)))))))))))
theorem lc_37 {N K L : Nat} {xs : Nat → Int32} {k : Int32 → CS → MS → Int64 → Option Int32} {i : Int32} {S : CS} {M : MS} {nv : Int64} (hN : NBig N) (hK : 100 ≤ K) (I : Iv S M) (B : ixs L i) (hk : ∀ S' M' nv', Iv S' M' → Sf (k (i + (6 : Int32)) S' M' nv') (fun z => z = 1)) : Sf (flc_37 N K L xs k i S M nv) (fun z => z = 1) := by
  unfold flc_37
  exact (sBind (pj_isSameWay hN hK I) (fun z1990 I1 => (sBind I1 (fun z1995 I2 => (hk _ _ _ I2)))))
theorem lc_38 {N K L : Nat} {xs : Nat → Int32} {k : Int32 → CS → MS → Int64 → Option Int32} {i : Int32} {S : CS} {M : MS} {nv : Int64} (hN : NBig N) (hK : 100 ≤ K) (I : Iv S M) (B : ixs L i) (hk : ∀ S' M' nv', Iv S' M' → Sf (k (i + (6 : Int32)) S' M' nv') (fun z => z = 1)) : Sf (flc_38 N K L xs k i S M nv) (fun z => z = 1) := by
  unfold flc_38
  exact (sIfF (B _ (by decide) (by decide)) (sBind (pj_tally hN hK I) (fun z2010 I1 => (sIfF (B _ (by decide) (by decide)) (sBind I1 (fun z2022 I2 => (hk _ _ _ I2)))))))
theorem lc_39 {N K L : Nat} {xs : Nat → Int32} {k : Int32 → CS → MS → Int64 → Option Int32} {i : Int32} {S : CS} {M : MS} {nv : Int64} (hN : NBig N) (hK : 100 ≤ K) (I : Iv S M) (B : ixs L i) (hk : ∀ S' M' nv', Iv S' M' → Sf (k (i + (6 : Int32)) S' M' nv') (fun z => z = 1)) : Sf (flc_39 N K L xs k i S M nv) (fun z => z = 1) := by
  unfold flc_39
  exact (sBind (pj_knock hN hK I) (fun z2031 I1 => (sBind I1 (fun z2036 I2 => (hk _ _ _ I2)))))
theorem lc_40 {N K L : Nat} {xs : Nat → Int32} {k : Int32 → CS → MS → Int64 → Option Int32} {i : Int32} {S : CS} {M : MS} {nv : Int64} (hN : NBig N) (hK : 100 ≤ K) (I : Iv S M) (B : ixs L i) (hk : ∀ S' M' nv', Iv S' M' → Sf (k (i + (6 : Int32)) S' M' nv') (fun z => z = 1)) : Sf (flc_40 N K L xs k i S M nv) (fun z => z = 1) := by
  unfold flc_40
  exact (sIfF (B _ (by decide) (by decide)) (sBind (pj_isSound hN hK I) (fun z2051 I1 => (sIfF (B _ (by decide) (by decide)) (sBind I1 (fun z2063 I2 => (hk _ _ _ I2)))))))
theorem lc_41 {N K L : Nat} {xs : Nat → Int32} {k : Int32 → CS → MS → Int64 → Option Int32} {i : Int32} {S : CS} {M : MS} {nv : Int64} (hN : NBig N) (hK : 100 ≤ K) (I : Iv S M) (B : ixs L i) (hk : ∀ S' M' nv', Iv S' M' → Sf (k (i + (6 : Int32)) S' M' nv') (fun z => z = 1)) : Sf (flc_41 N K L xs k i S M nv) (fun z => z = 1) := by
  unfold flc_41
  exact (sBind (pj_digest hN hK I) (fun z2072 I1 => (sBind I1 (fun z2077 I2 => (hk _ _ _ I2)))))

end MG_61case
section MG_62main
set_option maxHeartbeats 4000000 in
set_option maxRecDepth 100000 in
theorem law_ {N K L : Nat} {xs : Nat → Int32} (hN : NBig N) (hK : 100 ≤ K) (hL : L ≤ 384) : ∀ (fu : Nat) (i : Int32) (S : CS) (M : MS) (nv : Int64), 0 ≤ i.toInt → i.toInt ≤ (L : Int) → (L : Int) < i.toInt + 6 * (fu : Int) → Iv S M → Sf (flaw N K L xs fu i S M nv) (fun z => z = 1) := by
  have q6 : (6 : Int32).toInt = 6 := by decide
  have en : (Int32.ofNat L).toInt = (L : Int) := o_i (by omega)
  have es := subI (a := Int32.ofNat L) (b := (6 : Int32)) (by omega) (by omega)
  intro fu
  induction fu with
  | zero => intro i S M nv h0 h1 h2; omega
  | succ fu ih =>
    intro i S M nv h0 h1 h2 I
    unfold flaw
    refine sIf (fun _ => sRet rfl) (fun h => ?_)
    have h3 : ¬ ((Int32.ofNat L - 6).toInt < i.toInt) := fun z => h (Int32.lt_iff_toInt_lt.mpr z)
    have e6 := addI (a := i) (b := (6 : Int32)) (by omega) (by omega)
    have B : ixs L i := ixs_of h0 (by omega) hL
    have hk : ∀ S' M' nv', Iv S' M' → Sf (flaw N K L xs fu (i + (6 : Int32)) S' M' nv') (fun z => z = 1) := fun S' M' nv' I' => ih _ _ _ _ (by omega) (by omega) (by omega) I'
    refine sIfF (noob h0 (by omega)) ?_
    refine sIf (fun _ => lc_0 hN hK I B hk) (fun _ => ?_)
    refine sIf (fun _ => lc_1 hN hK I B hk) (fun _ => ?_)
    refine sIf (fun _ => lc_2 hN hK I B hk) (fun _ => ?_)
    refine sIf (fun _ => lc_3 hN hK I B hk) (fun _ => ?_)
    refine sIf (fun _ => lc_4 hN hK I B hk) (fun _ => ?_)
    refine sIf (fun _ => lc_5 hN hK I B hk) (fun _ => ?_)
    refine sIf (fun _ => lc_6 hN hK I B hk) (fun _ => ?_)
    refine sIf (fun _ => lc_7 hN hK I B hk) (fun _ => ?_)
    refine sIf (fun _ => lc_8 hN hK I B hk) (fun _ => ?_)
    refine sIf (fun _ => lc_9 hN hK I B hk) (fun _ => ?_)
    refine sIf (fun _ => lc_10 hN hK I B hk) (fun _ => ?_)
    refine sIf (fun _ => lc_11 hN hK I B hk) (fun _ => ?_)
    refine sIf (fun _ => lc_12 hN hK I B hk) (fun _ => ?_)
    refine sIf (fun _ => lc_13 hN hK I B hk) (fun _ => ?_)
    refine sIf (fun _ => lc_14 hN hK I B hk) (fun _ => ?_)
    refine sIf (fun _ => lc_15 hN hK I B hk) (fun _ => ?_)
    refine sIf (fun _ => lc_16 hN hK I B hk) (fun _ => ?_)
    refine sIf (fun _ => lc_17 hN hK I B hk) (fun _ => ?_)
    refine sIf (fun _ => lc_18 hN hK I B hk) (fun _ => ?_)
    refine sIf (fun _ => lc_19 hN hK I B hk) (fun _ => ?_)
    refine sIf (fun _ => lc_20 hN hK I B hk) (fun _ => ?_)
    refine sIf (fun _ => lc_21 hN hK I B hk) (fun _ => ?_)
    refine sIf (fun _ => lc_22 hN hK I B hk) (fun _ => ?_)
    refine sIf (fun _ => lc_23 hN hK I B hk) (fun _ => ?_)
    refine sIf (fun _ => lc_24 hN hK I B hk) (fun _ => ?_)
    refine sIf (fun _ => lc_25 hN hK I B hk) (fun _ => ?_)
    refine sIf (fun _ => lc_26 hN hK I B hk) (fun _ => ?_)
    refine sIf (fun _ => lc_27 hN hK I B hk) (fun _ => ?_)
    refine sIf (fun _ => lc_28 hN hK I B hk) (fun _ => ?_)
    refine sIf (fun _ => lc_29 hN hK I B hk) (fun _ => ?_)
    refine sIf (fun _ => lc_30 hN hK I B hk) (fun _ => ?_)
    refine sIf (fun _ => lc_31 hN hK I B hk) (fun _ => ?_)
    refine sIf (fun _ => lc_32 hN hK I B hk) (fun _ => ?_)
    refine sIf (fun _ => lc_33 hN hK I B hk) (fun _ => ?_)
    refine sIf (fun _ => lc_34 hN hK I B hk) (fun _ => ?_)
    refine sIf (fun _ => lc_35 hN hK I B hk) (fun _ => ?_)
    refine sIf (fun _ => lc_36 hN hK I B hk) (fun _ => ?_)
    refine sIf (fun _ => lc_37 hN hK I B hk) (fun _ => ?_)
    refine sIf (fun _ => lc_38 hN hK I B hk) (fun _ => ?_)
    refine sIf (fun _ => lc_39 hN hK I B hk) (fun _ => ?_)
    refine sIf (fun _ => lc_40 hN hK I B hk) (fun _ => ?_)
    refine sIf (fun _ => lc_41 hN hK I B hk) (fun _ => ?_)
    exact hk _ _ _ I
theorem law_one {L : Nat} (hL : L ≤ 384) (xs : Nat → Int32) : ∃ N K : Nat, K ≤ 100 ∧ flaw0 N K L xs = some 1 := by
  have hN : NBig (2 ^ 100) := Nat.le_refl _
  obtain ⟨x4, x12, h1, h2, h3⟩ := Iv.z (N := 2 ^ 100) (K := 100) hN
  obtain ⟨v, e, rfl⟩ := law_ (xs := xs) hN (Nat.le_refl 100) hL 100 0 _ _ 0 (by decide) (by show (0 : Int) ≤ _; omega) (by show (L : Int) < 0 + 6 * 100; omega) h3
  refine ⟨2 ^ 100, 100, Nat.le_refl _, ?_⟩
  unfold flaw0 fX6_init
  rw [h1, Option.bind_some, h2, Option.bind_some, Option.bind_some]
  exact e

end MG_62main
