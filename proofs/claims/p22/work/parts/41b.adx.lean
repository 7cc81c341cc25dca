def gX_rule (N K : Nat) (S : CS) (p0 : Int32) (p1 : Int32) : Option ((Int32 × CS) ⊕ String) := (fX5_rule N K ((S.2.1 (ix 3 p0)).1) ((S.2.1 (ix 3 p0)).2.1) ((S.2.1 (ix 3 p0)).2.2) (S.2.2.2.1 0) (S.2.2.2.1 1) (S.2.2.2.1 2) (S.2.2.2.1 3) (S.2.2.2.1 4) (S.2.2.2.1 5) p0 p1).map (fun o => match o with | .inl z => .inl (z.1, (S.1, (upm S.2.1 (ix 3 p0) ((S.2.1 (ix 3 p0)).1, z.2.1, z.2.2.1)), S.2.2.1, (upm (upm (upm (upm S.2.2.2.1 0 z.2.2.2.1) 1 z.2.2.2.2.1) 2 z.2.2.2.2.2.1) 3 z.2.2.2.2.2.2), S.2.2.2.2.1, S.2.2.2.2.2.1, S.2.2.2.2.2.2)) | .inr E => .inr E)
set_option maxHeartbeats 4000000 in
set_option maxRecDepth 100000 in
theorem ogX_rule {N K : Nat} {r : Nat → Nat} {S : CS} {p0 : Int32} {p1 : Int32} {x : (Int32 × CS) ⊕ String} (hE : gX_rule N K S p0 p1 = some x) : OkM yX5_rule (.code yX5_rule cX5_rule 4 (some .int)) (2 * K + 9) 2 12 [.ref (r 0), .int p0, .int p1] (WX r S) ((PX (U := Int32 × CS) (fun z _ => some (.int z.1)) (fun z _ => WX r z.2) (WX r S)) x) := by
  unfold gX_rule at hE
  obtain ⟨x0, h0, h1⟩ := Option.map_eq_some_iff.mp hE
  subst h1
  clear hE
  rcases lt3 (ix_lt (n := 3) (p := p0) (by decide)) with e | e | e
  · rw [e] at h0
    try rw [e]
    refine ok_fr (wc := [(r 0, .inr (7, [.ref (r 1), .ref (r 8), .ref (r 15), .ref (r 20), .ref (r 21), .ref (r 23), .ref (r 25)])), (r 8, .inl (2, 3, .inr (.inr (.inr (.inr (rf3 r 9 2 3)))))), (r 9, .inr (3, [.int (S.2.1 0).1, .ref (r 10), .int (S.2.1 0).2.1])), (r 10, .inl (0, 21, .inl (S.2.1 0).2.2)), (r 20, .inr (2, [.int (S.2.2.2.1 0), .int (S.2.2.2.1 1), .int (S.2.2.2.1 2), .int (S.2.2.2.1 3), .int (S.2.2.2.1 4), .int (S.2.2.2.1 5)]))]) (wr := [(r 1, .inl (1, 3, .inr (.inr (.inr (.inr (rf3 r 2 2 3)))))), (r 2, .inr (4, [.ref (r 3), .int (S.1 0).1])), (r 3, .inl (0, 2646, .inl (S.1 0).2)), (r 4, .inr (4, [.ref (r 5), .int (S.1 1).1])), (r 5, .inl (0, 2646, .inl (S.1 1).2)), (r 6, .inr (4, [.ref (r 7), .int (S.1 2).1])), (r 7, .inl (0, 2646, .inl (S.1 2).2)), (r 11, .inr (3, [.int (S.2.1 1).1, .ref (r 12), .int (S.2.1 1).2.1])), (r 12, .inl (0, 21, .inl (S.2.1 1).2.2)), (r 13, .inr (3, [.int (S.2.1 2).1, .ref (r 14), .int (S.2.1 2).2.1])), (r 14, .inl (0, 21, .inl (S.2.1 2).2.2)), (r 15, .inl (3, 2, .inr (.inr (.inr (.inr (rf3 r 16 2 2)))))), (r 16, .inr (6, [.ref (r 17)])), (r 17, .inl (0, 21, .inl (S.2.2.1 0))), (r 18, .inr (6, [.ref (r 19)])), (r 19, .inl (0, 21, .inl (S.2.2.1 1))), (r 21, .inr (5, [.ref (r 22)])), (r 22, .inl (0, 21, .inl S.2.2.2.2.1)), (r 23, .inr (6, [.ref (r 24)])), (r 24, .inl (0, 21, .inl S.2.2.2.2.2.1)), (r 25, .inr (6, [.ref (r 26)])), (r 26, .inl (0, 21, .inl S.2.2.2.2.2.2))]) [0, 8, 9, 10, 20] [1, 2, 3, 4, 5, 6, 7, 11, 12, 13, 14, 15, 16, 17, 18, 19, 21, 22, 23, 24, 25, 26] (ok_X5_rule (x := r 0) (M := r 1) (L := r 8) (Dk := r 15) (c := r 20) (se := r 21) (wk := r 23) (sp := r 25) (h := r 9) (a := r 10) (lf := rf3 r 9 2 3) (fun h9 => by have h8 := ix_in h9; rw [e] at h8; exact (congrArg (rf3 r 9 2 3) h8.symm).trans rfl) h0) rfl rfl rfl rfl (by decide) ?_
    rintro o w hp
    cases x0 with
    | inl z =>
      obtain ⟨g, e1, e2⟩ := PX.inl hp
      subst e1; subst e2
      exact ⟨_, [22, 0, 1, 2, 3, 4, 5, 6, 23, 24, 25, 7, 8, 9, 10, 11, 12, 13, 14, 15, 26, 16, 17, 18, 19, 20, 21], PX.mk g rfl rfl, rfl, rfl⟩
    | inr E =>
      obtain ⟨e1, e2⟩ := PX.inr hp
      subst e1; subst e2
      exact ⟨_, [22, 0, 1, 2, 3, 4, 5, 6, 23, 24, 25, 7, 8, 9, 10, 11, 12, 13, 14, 15, 26, 16, 17, 18, 19, 20, 21], PX.er, rfl, rfl⟩
  · rw [e] at h0
    try rw [e]
    refine ok_fr (wc := [(r 0, .inr (7, [.ref (r 1), .ref (r 8), .ref (r 15), .ref (r 20), .ref (r 21), .ref (r 23), .ref (r 25)])), (r 8, .inl (2, 3, .inr (.inr (.inr (.inr (rf3 r 9 2 3)))))), (r 11, .inr (3, [.int (S.2.1 1).1, .ref (r 12), .int (S.2.1 1).2.1])), (r 12, .inl (0, 21, .inl (S.2.1 1).2.2)), (r 20, .inr (2, [.int (S.2.2.2.1 0), .int (S.2.2.2.1 1), .int (S.2.2.2.1 2), .int (S.2.2.2.1 3), .int (S.2.2.2.1 4), .int (S.2.2.2.1 5)]))]) (wr := [(r 1, .inl (1, 3, .inr (.inr (.inr (.inr (rf3 r 2 2 3)))))), (r 2, .inr (4, [.ref (r 3), .int (S.1 0).1])), (r 3, .inl (0, 2646, .inl (S.1 0).2)), (r 4, .inr (4, [.ref (r 5), .int (S.1 1).1])), (r 5, .inl (0, 2646, .inl (S.1 1).2)), (r 6, .inr (4, [.ref (r 7), .int (S.1 2).1])), (r 7, .inl (0, 2646, .inl (S.1 2).2)), (r 9, .inr (3, [.int (S.2.1 0).1, .ref (r 10), .int (S.2.1 0).2.1])), (r 10, .inl (0, 21, .inl (S.2.1 0).2.2)), (r 13, .inr (3, [.int (S.2.1 2).1, .ref (r 14), .int (S.2.1 2).2.1])), (r 14, .inl (0, 21, .inl (S.2.1 2).2.2)), (r 15, .inl (3, 2, .inr (.inr (.inr (.inr (rf3 r 16 2 2)))))), (r 16, .inr (6, [.ref (r 17)])), (r 17, .inl (0, 21, .inl (S.2.2.1 0))), (r 18, .inr (6, [.ref (r 19)])), (r 19, .inl (0, 21, .inl (S.2.2.1 1))), (r 21, .inr (5, [.ref (r 22)])), (r 22, .inl (0, 21, .inl S.2.2.2.2.1)), (r 23, .inr (6, [.ref (r 24)])), (r 24, .inl (0, 21, .inl S.2.2.2.2.2.1)), (r 25, .inr (6, [.ref (r 26)])), (r 26, .inl (0, 21, .inl S.2.2.2.2.2.2))]) [0, 8, 11, 12, 20] [1, 2, 3, 4, 5, 6, 7, 9, 10, 13, 14, 15, 16, 17, 18, 19, 21, 22, 23, 24, 25, 26] (ok_X5_rule (x := r 0) (M := r 1) (L := r 8) (Dk := r 15) (c := r 20) (se := r 21) (wk := r 23) (sp := r 25) (h := r 11) (a := r 12) (lf := rf3 r 9 2 3) (fun h9 => by have h8 := ix_in h9; rw [e] at h8; exact (congrArg (rf3 r 9 2 3) h8.symm).trans rfl) h0) rfl rfl rfl rfl (by decide) ?_
    rintro o w hp
    cases x0 with
    | inl z =>
      obtain ⟨g, e1, e2⟩ := PX.inl hp
      subst e1; subst e2
      exact ⟨_, [22, 0, 1, 2, 3, 4, 5, 6, 23, 7, 8, 24, 25, 9, 10, 11, 12, 13, 14, 15, 26, 16, 17, 18, 19, 20, 21], PX.mk g rfl rfl, rfl, rfl⟩
    | inr E =>
      obtain ⟨e1, e2⟩ := PX.inr hp
      subst e1; subst e2
      exact ⟨_, [22, 0, 1, 2, 3, 4, 5, 6, 23, 7, 8, 24, 25, 9, 10, 11, 12, 13, 14, 15, 26, 16, 17, 18, 19, 20, 21], PX.er, rfl, rfl⟩
  · rw [e] at h0
    try rw [e]
    refine ok_fr (wc := [(r 0, .inr (7, [.ref (r 1), .ref (r 8), .ref (r 15), .ref (r 20), .ref (r 21), .ref (r 23), .ref (r 25)])), (r 8, .inl (2, 3, .inr (.inr (.inr (.inr (rf3 r 9 2 3)))))), (r 13, .inr (3, [.int (S.2.1 2).1, .ref (r 14), .int (S.2.1 2).2.1])), (r 14, .inl (0, 21, .inl (S.2.1 2).2.2)), (r 20, .inr (2, [.int (S.2.2.2.1 0), .int (S.2.2.2.1 1), .int (S.2.2.2.1 2), .int (S.2.2.2.1 3), .int (S.2.2.2.1 4), .int (S.2.2.2.1 5)]))]) (wr := [(r 1, .inl (1, 3, .inr (.inr (.inr (.inr (rf3 r 2 2 3)))))), (r 2, .inr (4, [.ref (r 3), .int (S.1 0).1])), (r 3, .inl (0, 2646, .inl (S.1 0).2)), (r 4, .inr (4, [.ref (r 5), .int (S.1 1).1])), (r 5, .inl (0, 2646, .inl (S.1 1).2)), (r 6, .inr (4, [.ref (r 7), .int (S.1 2).1])), (r 7, .inl (0, 2646, .inl (S.1 2).2)), (r 9, .inr (3, [.int (S.2.1 0).1, .ref (r 10), .int (S.2.1 0).2.1])), (r 10, .inl (0, 21, .inl (S.2.1 0).2.2)), (r 11, .inr (3, [.int (S.2.1 1).1, .ref (r 12), .int (S.2.1 1).2.1])), (r 12, .inl (0, 21, .inl (S.2.1 1).2.2)), (r 15, .inl (3, 2, .inr (.inr (.inr (.inr (rf3 r 16 2 2)))))), (r 16, .inr (6, [.ref (r 17)])), (r 17, .inl (0, 21, .inl (S.2.2.1 0))), (r 18, .inr (6, [.ref (r 19)])), (r 19, .inl (0, 21, .inl (S.2.2.1 1))), (r 21, .inr (5, [.ref (r 22)])), (r 22, .inl (0, 21, .inl S.2.2.2.2.1)), (r 23, .inr (6, [.ref (r 24)])), (r 24, .inl (0, 21, .inl S.2.2.2.2.2.1)), (r 25, .inr (6, [.ref (r 26)])), (r 26, .inl (0, 21, .inl S.2.2.2.2.2.2))]) [0, 8, 13, 14, 20] [1, 2, 3, 4, 5, 6, 7, 9, 10, 11, 12, 15, 16, 17, 18, 19, 21, 22, 23, 24, 25, 26] (ok_X5_rule (x := r 0) (M := r 1) (L := r 8) (Dk := r 15) (c := r 20) (se := r 21) (wk := r 23) (sp := r 25) (h := r 13) (a := r 14) (lf := rf3 r 9 2 3) (fun h9 => by have h8 := ix_in h9; rw [e] at h8; exact (congrArg (rf3 r 9 2 3) h8.symm).trans rfl) h0) rfl rfl rfl rfl (by decide) ?_
    rintro o w hp
    cases x0 with
    | inl z =>
      obtain ⟨g, e1, e2⟩ := PX.inl hp
      subst e1; subst e2
      exact ⟨_, [22, 0, 1, 2, 3, 4, 5, 6, 23, 7, 8, 9, 10, 24, 25, 11, 12, 13, 14, 15, 26, 16, 17, 18, 19, 20, 21], PX.mk g rfl rfl, rfl, rfl⟩
    | inr E =>
      obtain ⟨e1, e2⟩ := PX.inr hp
      subst e1; subst e2
      exact ⟨_, [22, 0, 1, 2, 3, 4, 5, 6, 23, 7, 8, 9, 10, 24, 25, 11, 12, 13, 14, 15, 26, 16, 17, 18, 19, 20, 21], PX.er, rfl, rfl⟩
def gX_forgetRule (N K : Nat) (S : CS) (p0 : Int32) (p1 : Int32) : Option ((Int32 × CS) ⊕ String) := (fX5_forgetRule N K ((S.2.1 (ix 3 p0)).1) ((S.2.1 (ix 3 p0)).2.1) ((S.2.1 (ix 3 p0)).2.2) (S.2.2.2.1 0) (S.2.2.2.1 1) (S.2.2.2.1 2) (S.2.2.2.1 3) (S.2.2.2.1 4) (S.2.2.2.1 5) p0 p1).map (fun o => match o with | .inl z => .inl (z.1, (S.1, (upm S.2.1 (ix 3 p0) ((S.2.1 (ix 3 p0)).1, z.2.1, z.2.2.1)), S.2.2.1, (upm (upm S.2.2.2.1 0 z.2.2.2.1) 4 z.2.2.2.2), S.2.2.2.2.1, S.2.2.2.2.2.1, S.2.2.2.2.2.2)) | .inr E => .inr E)
set_option maxHeartbeats 4000000 in
set_option maxRecDepth 100000 in
theorem ogX_forgetRule {N K : Nat} {r : Nat → Nat} {S : CS} {p0 : Int32} {p1 : Int32} {x : (Int32 × CS) ⊕ String} (hE : gX_forgetRule N K S p0 p1 = some x) : OkM yX5_forgetRule (.code yX5_forgetRule cX5_forgetRule 5 (some .int)) (9) 2 12 [.ref (r 0), .int p0, .int p1] (WX r S) ((PX (U := Int32 × CS) (fun z _ => some (.int z.1)) (fun z _ => WX r z.2) (WX r S)) x) := by
  unfold gX_forgetRule at hE
  obtain ⟨x0, h0, h1⟩ := Option.map_eq_some_iff.mp hE
  subst h1
  clear hE
  rcases lt3 (ix_lt (n := 3) (p := p0) (by decide)) with e | e | e
  · rw [e] at h0
    try rw [e]
    refine ok_fr (wc := [(r 0, .inr (7, [.ref (r 1), .ref (r 8), .ref (r 15), .ref (r 20), .ref (r 21), .ref (r 23), .ref (r 25)])), (r 8, .inl (2, 3, .inr (.inr (.inr (.inr (rf3 r 9 2 3)))))), (r 9, .inr (3, [.int (S.2.1 0).1, .ref (r 10), .int (S.2.1 0).2.1])), (r 10, .inl (0, 21, .inl (S.2.1 0).2.2)), (r 20, .inr (2, [.int (S.2.2.2.1 0), .int (S.2.2.2.1 1), .int (S.2.2.2.1 2), .int (S.2.2.2.1 3), .int (S.2.2.2.1 4), .int (S.2.2.2.1 5)]))]) (wr := [(r 1, .inl (1, 3, .inr (.inr (.inr (.inr (rf3 r 2 2 3)))))), (r 2, .inr (4, [.ref (r 3), .int (S.1 0).1])), (r 3, .inl (0, 2646, .inl (S.1 0).2)), (r 4, .inr (4, [.ref (r 5), .int (S.1 1).1])), (r 5, .inl (0, 2646, .inl (S.1 1).2)), (r 6, .inr (4, [.ref (r 7), .int (S.1 2).1])), (r 7, .inl (0, 2646, .inl (S.1 2).2)), (r 11, .inr (3, [.int (S.2.1 1).1, .ref (r 12), .int (S.2.1 1).2.1])), (r 12, .inl (0, 21, .inl (S.2.1 1).2.2)), (r 13, .inr (3, [.int (S.2.1 2).1, .ref (r 14), .int (S.2.1 2).2.1])), (r 14, .inl (0, 21, .inl (S.2.1 2).2.2)), (r 15, .inl (3, 2, .inr (.inr (.inr (.inr (rf3 r 16 2 2)))))), (r 16, .inr (6, [.ref (r 17)])), (r 17, .inl (0, 21, .inl (S.2.2.1 0))), (r 18, .inr (6, [.ref (r 19)])), (r 19, .inl (0, 21, .inl (S.2.2.1 1))), (r 21, .inr (5, [.ref (r 22)])), (r 22, .inl (0, 21, .inl S.2.2.2.2.1)), (r 23, .inr (6, [.ref (r 24)])), (r 24, .inl (0, 21, .inl S.2.2.2.2.2.1)), (r 25, .inr (6, [.ref (r 26)])), (r 26, .inl (0, 21, .inl S.2.2.2.2.2.2))]) [0, 8, 9, 10, 20] [1, 2, 3, 4, 5, 6, 7, 11, 12, 13, 14, 15, 16, 17, 18, 19, 21, 22, 23, 24, 25, 26] (ok_X5_forgetRule (x := r 0) (M := r 1) (L := r 8) (Dk := r 15) (c := r 20) (se := r 21) (wk := r 23) (sp := r 25) (h := r 9) (a := r 10) (lf := rf3 r 9 2 3) (fun h9 => by have h8 := ix_in h9; rw [e] at h8; exact (congrArg (rf3 r 9 2 3) h8.symm).trans rfl) h0) rfl rfl rfl rfl (by decide) ?_
    rintro o w hp
    cases x0 with
    | inl z =>
      obtain ⟨g, e1, e2⟩ := PX.inl hp
      subst e1; subst e2
      exact ⟨_, [22, 0, 1, 2, 3, 4, 5, 6, 23, 24, 25, 7, 8, 9, 10, 11, 12, 13, 14, 15, 26, 16, 17, 18, 19, 20, 21], PX.mk g rfl rfl, rfl, rfl⟩
    | inr E =>
      obtain ⟨e1, e2⟩ := PX.inr hp
      subst e1; subst e2
      exact ⟨_, [22, 0, 1, 2, 3, 4, 5, 6, 23, 24, 25, 7, 8, 9, 10, 11, 12, 13, 14, 15, 26, 16, 17, 18, 19, 20, 21], PX.er, rfl, rfl⟩
  · rw [e] at h0
    try rw [e]
    refine ok_fr (wc := [(r 0, .inr (7, [.ref (r 1), .ref (r 8), .ref (r 15), .ref (r 20), .ref (r 21), .ref (r 23), .ref (r 25)])), (r 8, .inl (2, 3, .inr (.inr (.inr (.inr (rf3 r 9 2 3)))))), (r 11, .inr (3, [.int (S.2.1 1).1, .ref (r 12), .int (S.2.1 1).2.1])), (r 12, .inl (0, 21, .inl (S.2.1 1).2.2)), (r 20, .inr (2, [.int (S.2.2.2.1 0), .int (S.2.2.2.1 1), .int (S.2.2.2.1 2), .int (S.2.2.2.1 3), .int (S.2.2.2.1 4), .int (S.2.2.2.1 5)]))]) (wr := [(r 1, .inl (1, 3, .inr (.inr (.inr (.inr (rf3 r 2 2 3)))))), (r 2, .inr (4, [.ref (r 3), .int (S.1 0).1])), (r 3, .inl (0, 2646, .inl (S.1 0).2)), (r 4, .inr (4, [.ref (r 5), .int (S.1 1).1])), (r 5, .inl (0, 2646, .inl (S.1 1).2)), (r 6, .inr (4, [.ref (r 7), .int (S.1 2).1])), (r 7, .inl (0, 2646, .inl (S.1 2).2)), (r 9, .inr (3, [.int (S.2.1 0).1, .ref (r 10), .int (S.2.1 0).2.1])), (r 10, .inl (0, 21, .inl (S.2.1 0).2.2)), (r 13, .inr (3, [.int (S.2.1 2).1, .ref (r 14), .int (S.2.1 2).2.1])), (r 14, .inl (0, 21, .inl (S.2.1 2).2.2)), (r 15, .inl (3, 2, .inr (.inr (.inr (.inr (rf3 r 16 2 2)))))), (r 16, .inr (6, [.ref (r 17)])), (r 17, .inl (0, 21, .inl (S.2.2.1 0))), (r 18, .inr (6, [.ref (r 19)])), (r 19, .inl (0, 21, .inl (S.2.2.1 1))), (r 21, .inr (5, [.ref (r 22)])), (r 22, .inl (0, 21, .inl S.2.2.2.2.1)), (r 23, .inr (6, [.ref (r 24)])), (r 24, .inl (0, 21, .inl S.2.2.2.2.2.1)), (r 25, .inr (6, [.ref (r 26)])), (r 26, .inl (0, 21, .inl S.2.2.2.2.2.2))]) [0, 8, 11, 12, 20] [1, 2, 3, 4, 5, 6, 7, 9, 10, 13, 14, 15, 16, 17, 18, 19, 21, 22, 23, 24, 25, 26] (ok_X5_forgetRule (x := r 0) (M := r 1) (L := r 8) (Dk := r 15) (c := r 20) (se := r 21) (wk := r 23) (sp := r 25) (h := r 11) (a := r 12) (lf := rf3 r 9 2 3) (fun h9 => by have h8 := ix_in h9; rw [e] at h8; exact (congrArg (rf3 r 9 2 3) h8.symm).trans rfl) h0) rfl rfl rfl rfl (by decide) ?_
    rintro o w hp
    cases x0 with
    | inl z =>
      obtain ⟨g, e1, e2⟩ := PX.inl hp
      subst e1; subst e2
      exact ⟨_, [22, 0, 1, 2, 3, 4, 5, 6, 23, 7, 8, 24, 25, 9, 10, 11, 12, 13, 14, 15, 26, 16, 17, 18, 19, 20, 21], PX.mk g rfl rfl, rfl, rfl⟩
    | inr E =>
      obtain ⟨e1, e2⟩ := PX.inr hp
      subst e1; subst e2
      exact ⟨_, [22, 0, 1, 2, 3, 4, 5, 6, 23, 7, 8, 24, 25, 9, 10, 11, 12, 13, 14, 15, 26, 16, 17, 18, 19, 20, 21], PX.er, rfl, rfl⟩
  · rw [e] at h0
    try rw [e]
    refine ok_fr (wc := [(r 0, .inr (7, [.ref (r 1), .ref (r 8), .ref (r 15), .ref (r 20), .ref (r 21), .ref (r 23), .ref (r 25)])), (r 8, .inl (2, 3, .inr (.inr (.inr (.inr (rf3 r 9 2 3)))))), (r 13, .inr (3, [.int (S.2.1 2).1, .ref (r 14), .int (S.2.1 2).2.1])), (r 14, .inl (0, 21, .inl (S.2.1 2).2.2)), (r 20, .inr (2, [.int (S.2.2.2.1 0), .int (S.2.2.2.1 1), .int (S.2.2.2.1 2), .int (S.2.2.2.1 3), .int (S.2.2.2.1 4), .int (S.2.2.2.1 5)]))]) (wr := [(r 1, .inl (1, 3, .inr (.inr (.inr (.inr (rf3 r 2 2 3)))))), (r 2, .inr (4, [.ref (r 3), .int (S.1 0).1])), (r 3, .inl (0, 2646, .inl (S.1 0).2)), (r 4, .inr (4, [.ref (r 5), .int (S.1 1).1])), (r 5, .inl (0, 2646, .inl (S.1 1).2)), (r 6, .inr (4, [.ref (r 7), .int (S.1 2).1])), (r 7, .inl (0, 2646, .inl (S.1 2).2)), (r 9, .inr (3, [.int (S.2.1 0).1, .ref (r 10), .int (S.2.1 0).2.1])), (r 10, .inl (0, 21, .inl (S.2.1 0).2.2)), (r 11, .inr (3, [.int (S.2.1 1).1, .ref (r 12), .int (S.2.1 1).2.1])), (r 12, .inl (0, 21, .inl (S.2.1 1).2.2)), (r 15, .inl (3, 2, .inr (.inr (.inr (.inr (rf3 r 16 2 2)))))), (r 16, .inr (6, [.ref (r 17)])), (r 17, .inl (0, 21, .inl (S.2.2.1 0))), (r 18, .inr (6, [.ref (r 19)])), (r 19, .inl (0, 21, .inl (S.2.2.1 1))), (r 21, .inr (5, [.ref (r 22)])), (r 22, .inl (0, 21, .inl S.2.2.2.2.1)), (r 23, .inr (6, [.ref (r 24)])), (r 24, .inl (0, 21, .inl S.2.2.2.2.2.1)), (r 25, .inr (6, [.ref (r 26)])), (r 26, .inl (0, 21, .inl S.2.2.2.2.2.2))]) [0, 8, 13, 14, 20] [1, 2, 3, 4, 5, 6, 7, 9, 10, 11, 12, 15, 16, 17, 18, 19, 21, 22, 23, 24, 25, 26] (ok_X5_forgetRule (x := r 0) (M := r 1) (L := r 8) (Dk := r 15) (c := r 20) (se := r 21) (wk := r 23) (sp := r 25) (h := r 13) (a := r 14) (lf := rf3 r 9 2 3) (fun h9 => by have h8 := ix_in h9; rw [e] at h8; exact (congrArg (rf3 r 9 2 3) h8.symm).trans rfl) h0) rfl rfl rfl rfl (by decide) ?_
    rintro o w hp
    cases x0 with
    | inl z =>
      obtain ⟨g, e1, e2⟩ := PX.inl hp
      subst e1; subst e2
      exact ⟨_, [22, 0, 1, 2, 3, 4, 5, 6, 23, 7, 8, 9, 10, 24, 25, 11, 12, 13, 14, 15, 26, 16, 17, 18, 19, 20, 21], PX.mk g rfl rfl, rfl, rfl⟩
    | inr E =>
      obtain ⟨e1, e2⟩ := PX.inr hp
      subst e1; subst e2
      exact ⟨_, [22, 0, 1, 2, 3, 4, 5, 6, 23, 7, 8, 9, 10, 24, 25, 11, 12, 13, 14, 15, 26, 16, 17, 18, 19, 20, 21], PX.er, rfl, rfl⟩
def gX_ledger (N K : Nat) (S : CS) (p0 : Int32) (p1 : Int32) : Option ((Int32 × CS) ⊕ String) := (fX5_ledger N K ((S.2.1 (ix 3 p0)).1) ((S.2.1 (ix 3 p0)).2.1) ((S.2.1 (ix 3 p0)).2.2) p0 p1).map (fun o => match o with | .inl z => .inl (z, (S.1, S.2.1, S.2.2.1, S.2.2.2.1, S.2.2.2.2.1, S.2.2.2.2.2.1, S.2.2.2.2.2.2)) | .inr E => .inr E)
set_option maxHeartbeats 4000000 in
set_option maxRecDepth 100000 in
theorem ogX_ledger {N K : Nat} {r : Nat → Nat} {S : CS} {p0 : Int32} {p1 : Int32} {x : (Int32 × CS) ⊕ String} (hE : gX_ledger N K S p0 p1 = some x) : OkM yX5_ledger (.code yX5_ledger cX5_ledger 4 (some .int)) (9) 2 12 [.ref (r 0), .int p0, .int p1] (WX r S) ((PX (U := Int32 × CS) (fun z _ => some (.int z.1)) (fun z _ => WX r z.2) (WX r S)) x) := by
  unfold gX_ledger at hE
  obtain ⟨x0, h0, h1⟩ := Option.map_eq_some_iff.mp hE
  subst h1
  clear hE
  rcases lt3 (ix_lt (n := 3) (p := p0) (by decide)) with e | e | e
  · rw [e] at h0
    try rw [e]
    refine ok_fr (wc := [(r 0, .inr (7, [.ref (r 1), .ref (r 8), .ref (r 15), .ref (r 20), .ref (r 21), .ref (r 23), .ref (r 25)])), (r 8, .inl (2, 3, .inr (.inr (.inr (.inr (rf3 r 9 2 3)))))), (r 9, .inr (3, [.int (S.2.1 0).1, .ref (r 10), .int (S.2.1 0).2.1])), (r 10, .inl (0, 21, .inl (S.2.1 0).2.2))]) (wr := [(r 1, .inl (1, 3, .inr (.inr (.inr (.inr (rf3 r 2 2 3)))))), (r 2, .inr (4, [.ref (r 3), .int (S.1 0).1])), (r 3, .inl (0, 2646, .inl (S.1 0).2)), (r 4, .inr (4, [.ref (r 5), .int (S.1 1).1])), (r 5, .inl (0, 2646, .inl (S.1 1).2)), (r 6, .inr (4, [.ref (r 7), .int (S.1 2).1])), (r 7, .inl (0, 2646, .inl (S.1 2).2)), (r 11, .inr (3, [.int (S.2.1 1).1, .ref (r 12), .int (S.2.1 1).2.1])), (r 12, .inl (0, 21, .inl (S.2.1 1).2.2)), (r 13, .inr (3, [.int (S.2.1 2).1, .ref (r 14), .int (S.2.1 2).2.1])), (r 14, .inl (0, 21, .inl (S.2.1 2).2.2)), (r 15, .inl (3, 2, .inr (.inr (.inr (.inr (rf3 r 16 2 2)))))), (r 16, .inr (6, [.ref (r 17)])), (r 17, .inl (0, 21, .inl (S.2.2.1 0))), (r 18, .inr (6, [.ref (r 19)])), (r 19, .inl (0, 21, .inl (S.2.2.1 1))), (r 20, .inr (2, [.int (S.2.2.2.1 0), .int (S.2.2.2.1 1), .int (S.2.2.2.1 2), .int (S.2.2.2.1 3), .int (S.2.2.2.1 4), .int (S.2.2.2.1 5)])), (r 21, .inr (5, [.ref (r 22)])), (r 22, .inl (0, 21, .inl S.2.2.2.2.1)), (r 23, .inr (6, [.ref (r 24)])), (r 24, .inl (0, 21, .inl S.2.2.2.2.2.1)), (r 25, .inr (6, [.ref (r 26)])), (r 26, .inl (0, 21, .inl S.2.2.2.2.2.2))]) [0, 8, 9, 10] [1, 2, 3, 4, 5, 6, 7, 11, 12, 13, 14, 15, 16, 17, 18, 19, 20, 21, 22, 23, 24, 25, 26] (ok_X5_ledger (x := r 0) (M := r 1) (L := r 8) (Dk := r 15) (c := r 20) (se := r 21) (wk := r 23) (sp := r 25) (h := r 9) (a := r 10) (lf := rf3 r 9 2 3) (fun h9 => by have h8 := ix_in h9; rw [e] at h8; exact (congrArg (rf3 r 9 2 3) h8.symm).trans rfl) h0) rfl rfl rfl rfl (by decide) ?_
    rintro o w hp
    cases x0 with
    | inl z =>
      obtain ⟨g, e1, e2⟩ := PX.inl hp
      subst e1; subst e2
      exact ⟨_, [23, 0, 1, 2, 3, 4, 5, 6, 24, 25, 26, 7, 8, 9, 10, 11, 12, 13, 14, 15, 16, 17, 18, 19, 20, 21, 22], PX.mk g rfl rfl, rfl, rfl⟩
    | inr E =>
      obtain ⟨e1, e2⟩ := PX.inr hp
      subst e1; subst e2
      exact ⟨_, [23, 0, 1, 2, 3, 4, 5, 6, 24, 25, 26, 7, 8, 9, 10, 11, 12, 13, 14, 15, 16, 17, 18, 19, 20, 21, 22], PX.er, rfl, rfl⟩
  · rw [e] at h0
    try rw [e]
    refine ok_fr (wc := [(r 0, .inr (7, [.ref (r 1), .ref (r 8), .ref (r 15), .ref (r 20), .ref (r 21), .ref (r 23), .ref (r 25)])), (r 8, .inl (2, 3, .inr (.inr (.inr (.inr (rf3 r 9 2 3)))))), (r 11, .inr (3, [.int (S.2.1 1).1, .ref (r 12), .int (S.2.1 1).2.1])), (r 12, .inl (0, 21, .inl (S.2.1 1).2.2))]) (wr := [(r 1, .inl (1, 3, .inr (.inr (.inr (.inr (rf3 r 2 2 3)))))), (r 2, .inr (4, [.ref (r 3), .int (S.1 0).1])), (r 3, .inl (0, 2646, .inl (S.1 0).2)), (r 4, .inr (4, [.ref (r 5), .int (S.1 1).1])), (r 5, .inl (0, 2646, .inl (S.1 1).2)), (r 6, .inr (4, [.ref (r 7), .int (S.1 2).1])), (r 7, .inl (0, 2646, .inl (S.1 2).2)), (r 9, .inr (3, [.int (S.2.1 0).1, .ref (r 10), .int (S.2.1 0).2.1])), (r 10, .inl (0, 21, .inl (S.2.1 0).2.2)), (r 13, .inr (3, [.int (S.2.1 2).1, .ref (r 14), .int (S.2.1 2).2.1])), (r 14, .inl (0, 21, .inl (S.2.1 2).2.2)), (r 15, .inl (3, 2, .inr (.inr (.inr (.inr (rf3 r 16 2 2)))))), (r 16, .inr (6, [.ref (r 17)])), (r 17, .inl (0, 21, .inl (S.2.2.1 0))), (r 18, .inr (6, [.ref (r 19)])), (r 19, .inl (0, 21, .inl (S.2.2.1 1))), (r 20, .inr (2, [.int (S.2.2.2.1 0), .int (S.2.2.2.1 1), .int (S.2.2.2.1 2), .int (S.2.2.2.1 3), .int (S.2.2.2.1 4), .int (S.2.2.2.1 5)])), (r 21, .inr (5, [.ref (r 22)])), (r 22, .inl (0, 21, .inl S.2.2.2.2.1)), (r 23, .inr (6, [.ref (r 24)])), (r 24, .inl (0, 21, .inl S.2.2.2.2.2.1)), (r 25, .inr (6, [.ref (r 26)])), (r 26, .inl (0, 21, .inl S.2.2.2.2.2.2))]) [0, 8, 11, 12] [1, 2, 3, 4, 5, 6, 7, 9, 10, 13, 14, 15, 16, 17, 18, 19, 20, 21, 22, 23, 24, 25, 26] (ok_X5_ledger (x := r 0) (M := r 1) (L := r 8) (Dk := r 15) (c := r 20) (se := r 21) (wk := r 23) (sp := r 25) (h := r 11) (a := r 12) (lf := rf3 r 9 2 3) (fun h9 => by have h8 := ix_in h9; rw [e] at h8; exact (congrArg (rf3 r 9 2 3) h8.symm).trans rfl) h0) rfl rfl rfl rfl (by decide) ?_
    rintro o w hp
    cases x0 with
    | inl z =>
      obtain ⟨g, e1, e2⟩ := PX.inl hp
      subst e1; subst e2
      exact ⟨_, [23, 0, 1, 2, 3, 4, 5, 6, 24, 7, 8, 25, 26, 9, 10, 11, 12, 13, 14, 15, 16, 17, 18, 19, 20, 21, 22], PX.mk g rfl rfl, rfl, rfl⟩
    | inr E =>
      obtain ⟨e1, e2⟩ := PX.inr hp
      subst e1; subst e2
      exact ⟨_, [23, 0, 1, 2, 3, 4, 5, 6, 24, 7, 8, 25, 26, 9, 10, 11, 12, 13, 14, 15, 16, 17, 18, 19, 20, 21, 22], PX.er, rfl, rfl⟩
  · rw [e] at h0
    try rw [e]
    refine ok_fr (wc := [(r 0, .inr (7, [.ref (r 1), .ref (r 8), .ref (r 15), .ref (r 20), .ref (r 21), .ref (r 23), .ref (r 25)])), (r 8, .inl (2, 3, .inr (.inr (.inr (.inr (rf3 r 9 2 3)))))), (r 13, .inr (3, [.int (S.2.1 2).1, .ref (r 14), .int (S.2.1 2).2.1])), (r 14, .inl (0, 21, .inl (S.2.1 2).2.2))]) (wr := [(r 1, .inl (1, 3, .inr (.inr (.inr (.inr (rf3 r 2 2 3)))))), (r 2, .inr (4, [.ref (r 3), .int (S.1 0).1])), (r 3, .inl (0, 2646, .inl (S.1 0).2)), (r 4, .inr (4, [.ref (r 5), .int (S.1 1).1])), (r 5, .inl (0, 2646, .inl (S.1 1).2)), (r 6, .inr (4, [.ref (r 7), .int (S.1 2).1])), (r 7, .inl (0, 2646, .inl (S.1 2).2)), (r 9, .inr (3, [.int (S.2.1 0).1, .ref (r 10), .int (S.2.1 0).2.1])), (r 10, .inl (0, 21, .inl (S.2.1 0).2.2)), (r 11, .inr (3, [.int (S.2.1 1).1, .ref (r 12), .int (S.2.1 1).2.1])), (r 12, .inl (0, 21, .inl (S.2.1 1).2.2)), (r 15, .inl (3, 2, .inr (.inr (.inr (.inr (rf3 r 16 2 2)))))), (r 16, .inr (6, [.ref (r 17)])), (r 17, .inl (0, 21, .inl (S.2.2.1 0))), (r 18, .inr (6, [.ref (r 19)])), (r 19, .inl (0, 21, .inl (S.2.2.1 1))), (r 20, .inr (2, [.int (S.2.2.2.1 0), .int (S.2.2.2.1 1), .int (S.2.2.2.1 2), .int (S.2.2.2.1 3), .int (S.2.2.2.1 4), .int (S.2.2.2.1 5)])), (r 21, .inr (5, [.ref (r 22)])), (r 22, .inl (0, 21, .inl S.2.2.2.2.1)), (r 23, .inr (6, [.ref (r 24)])), (r 24, .inl (0, 21, .inl S.2.2.2.2.2.1)), (r 25, .inr (6, [.ref (r 26)])), (r 26, .inl (0, 21, .inl S.2.2.2.2.2.2))]) [0, 8, 13, 14] [1, 2, 3, 4, 5, 6, 7, 9, 10, 11, 12, 15, 16, 17, 18, 19, 20, 21, 22, 23, 24, 25, 26] (ok_X5_ledger (x := r 0) (M := r 1) (L := r 8) (Dk := r 15) (c := r 20) (se := r 21) (wk := r 23) (sp := r 25) (h := r 13) (a := r 14) (lf := rf3 r 9 2 3) (fun h9 => by have h8 := ix_in h9; rw [e] at h8; exact (congrArg (rf3 r 9 2 3) h8.symm).trans rfl) h0) rfl rfl rfl rfl (by decide) ?_
    rintro o w hp
    cases x0 with
    | inl z =>
      obtain ⟨g, e1, e2⟩ := PX.inl hp
      subst e1; subst e2
      exact ⟨_, [23, 0, 1, 2, 3, 4, 5, 6, 24, 7, 8, 9, 10, 25, 26, 11, 12, 13, 14, 15, 16, 17, 18, 19, 20, 21, 22], PX.mk g rfl rfl, rfl, rfl⟩
    | inr E =>
      obtain ⟨e1, e2⟩ := PX.inr hp
      subst e1; subst e2
      exact ⟨_, [23, 0, 1, 2, 3, 4, 5, 6, 24, 7, 8, 9, 10, 25, 26, 11, 12, 13, 14, 15, 16, 17, 18, 19, 20, 21, 22], PX.er, rfl, rfl⟩
def gX_ruleWorth (N K : Nat) (S : CS) (p0 : Int32) (p1 : Int32) (p2 : Int32) : Option ((Int32 × CS) ⊕ String) := (fX5_ruleWorth N K ((S.2.1 (ix 3 p0)).1) ((S.2.1 (ix 3 p0)).2.1) ((S.2.1 (ix 3 p0)).2.2) p0 p1 p2).map (fun o => match o with | .inl z => .inl (z, (S.1, S.2.1, S.2.2.1, S.2.2.2.1, S.2.2.2.2.1, S.2.2.2.2.2.1, S.2.2.2.2.2.2)) | .inr E => .inr E)
set_option maxHeartbeats 4000000 in
set_option maxRecDepth 100000 in
theorem ogX_ruleWorth {N K : Nat} {r : Nat → Nat} {S : CS} {p0 : Int32} {p1 : Int32} {p2 : Int32} {x : (Int32 × CS) ⊕ String} (hE : gX_ruleWorth N K S p0 p1 p2 = some x) : OkM yX5_ruleWorth (.code yX5_ruleWorth cX5_ruleWorth 5 (some .int)) (9) 3 18 [.ref (r 0), .int p0, .int p1, .int p2] (WX r S) ((PX (U := Int32 × CS) (fun z _ => some (.int z.1)) (fun z _ => WX r z.2) (WX r S)) x) := by
  unfold gX_ruleWorth at hE
  obtain ⟨x0, h0, h1⟩ := Option.map_eq_some_iff.mp hE
  subst h1
  clear hE
  rcases lt3 (ix_lt (n := 3) (p := p0) (by decide)) with e | e | e
  · rw [e] at h0
    try rw [e]
    refine ok_fr (wc := [(r 0, .inr (7, [.ref (r 1), .ref (r 8), .ref (r 15), .ref (r 20), .ref (r 21), .ref (r 23), .ref (r 25)])), (r 8, .inl (2, 3, .inr (.inr (.inr (.inr (rf3 r 9 2 3)))))), (r 9, .inr (3, [.int (S.2.1 0).1, .ref (r 10), .int (S.2.1 0).2.1])), (r 10, .inl (0, 21, .inl (S.2.1 0).2.2))]) (wr := [(r 1, .inl (1, 3, .inr (.inr (.inr (.inr (rf3 r 2 2 3)))))), (r 2, .inr (4, [.ref (r 3), .int (S.1 0).1])), (r 3, .inl (0, 2646, .inl (S.1 0).2)), (r 4, .inr (4, [.ref (r 5), .int (S.1 1).1])), (r 5, .inl (0, 2646, .inl (S.1 1).2)), (r 6, .inr (4, [.ref (r 7), .int (S.1 2).1])), (r 7, .inl (0, 2646, .inl (S.1 2).2)), (r 11, .inr (3, [.int (S.2.1 1).1, .ref (r 12), .int (S.2.1 1).2.1])), (r 12, .inl (0, 21, .inl (S.2.1 1).2.2)), (r 13, .inr (3, [.int (S.2.1 2).1, .ref (r 14), .int (S.2.1 2).2.1])), (r 14, .inl (0, 21, .inl (S.2.1 2).2.2)), (r 15, .inl (3, 2, .inr (.inr (.inr (.inr (rf3 r 16 2 2)))))), (r 16, .inr (6, [.ref (r 17)])), (r 17, .inl (0, 21, .inl (S.2.2.1 0))), (r 18, .inr (6, [.ref (r 19)])), (r 19, .inl (0, 21, .inl (S.2.2.1 1))), (r 20, .inr (2, [.int (S.2.2.2.1 0), .int (S.2.2.2.1 1), .int (S.2.2.2.1 2), .int (S.2.2.2.1 3), .int (S.2.2.2.1 4), .int (S.2.2.2.1 5)])), (r 21, .inr (5, [.ref (r 22)])), (r 22, .inl (0, 21, .inl S.2.2.2.2.1)), (r 23, .inr (6, [.ref (r 24)])), (r 24, .inl (0, 21, .inl S.2.2.2.2.2.1)), (r 25, .inr (6, [.ref (r 26)])), (r 26, .inl (0, 21, .inl S.2.2.2.2.2.2))]) [0, 8, 9, 10] [1, 2, 3, 4, 5, 6, 7, 11, 12, 13, 14, 15, 16, 17, 18, 19, 20, 21, 22, 23, 24, 25, 26] (ok_X5_ruleWorth (x := r 0) (M := r 1) (L := r 8) (Dk := r 15) (c := r 20) (se := r 21) (wk := r 23) (sp := r 25) (h := r 9) (a := r 10) (lf := rf3 r 9 2 3) (fun h9 => by have h8 := ix_in h9; rw [e] at h8; exact (congrArg (rf3 r 9 2 3) h8.symm).trans rfl) h0) rfl rfl rfl rfl (by decide) ?_
    rintro o w hp
    cases x0 with
    | inl z =>
      obtain ⟨g, e1, e2⟩ := PX.inl hp
      subst e1; subst e2
      exact ⟨_, [23, 0, 1, 2, 3, 4, 5, 6, 24, 25, 26, 7, 8, 9, 10, 11, 12, 13, 14, 15, 16, 17, 18, 19, 20, 21, 22], PX.mk g rfl rfl, rfl, rfl⟩
    | inr E =>
      obtain ⟨e1, e2⟩ := PX.inr hp
      subst e1; subst e2
      exact ⟨_, [23, 0, 1, 2, 3, 4, 5, 6, 24, 25, 26, 7, 8, 9, 10, 11, 12, 13, 14, 15, 16, 17, 18, 19, 20, 21, 22], PX.er, rfl, rfl⟩
  · rw [e] at h0
    try rw [e]
    refine ok_fr (wc := [(r 0, .inr (7, [.ref (r 1), .ref (r 8), .ref (r 15), .ref (r 20), .ref (r 21), .ref (r 23), .ref (r 25)])), (r 8, .inl (2, 3, .inr (.inr (.inr (.inr (rf3 r 9 2 3)))))), (r 11, .inr (3, [.int (S.2.1 1).1, .ref (r 12), .int (S.2.1 1).2.1])), (r 12, .inl (0, 21, .inl (S.2.1 1).2.2))]) (wr := [(r 1, .inl (1, 3, .inr (.inr (.inr (.inr (rf3 r 2 2 3)))))), (r 2, .inr (4, [.ref (r 3), .int (S.1 0).1])), (r 3, .inl (0, 2646, .inl (S.1 0).2)), (r 4, .inr (4, [.ref (r 5), .int (S.1 1).1])), (r 5, .inl (0, 2646, .inl (S.1 1).2)), (r 6, .inr (4, [.ref (r 7), .int (S.1 2).1])), (r 7, .inl (0, 2646, .inl (S.1 2).2)), (r 9, .inr (3, [.int (S.2.1 0).1, .ref (r 10), .int (S.2.1 0).2.1])), (r 10, .inl (0, 21, .inl (S.2.1 0).2.2)), (r 13, .inr (3, [.int (S.2.1 2).1, .ref (r 14), .int (S.2.1 2).2.1])), (r 14, .inl (0, 21, .inl (S.2.1 2).2.2)), (r 15, .inl (3, 2, .inr (.inr (.inr (.inr (rf3 r 16 2 2)))))), (r 16, .inr (6, [.ref (r 17)])), (r 17, .inl (0, 21, .inl (S.2.2.1 0))), (r 18, .inr (6, [.ref (r 19)])), (r 19, .inl (0, 21, .inl (S.2.2.1 1))), (r 20, .inr (2, [.int (S.2.2.2.1 0), .int (S.2.2.2.1 1), .int (S.2.2.2.1 2), .int (S.2.2.2.1 3), .int (S.2.2.2.1 4), .int (S.2.2.2.1 5)])), (r 21, .inr (5, [.ref (r 22)])), (r 22, .inl (0, 21, .inl S.2.2.2.2.1)), (r 23, .inr (6, [.ref (r 24)])), (r 24, .inl (0, 21, .inl S.2.2.2.2.2.1)), (r 25, .inr (6, [.ref (r 26)])), (r 26, .inl (0, 21, .inl S.2.2.2.2.2.2))]) [0, 8, 11, 12] [1, 2, 3, 4, 5, 6, 7, 9, 10, 13, 14, 15, 16, 17, 18, 19, 20, 21, 22, 23, 24, 25, 26] (ok_X5_ruleWorth (x := r 0) (M := r 1) (L := r 8) (Dk := r 15) (c := r 20) (se := r 21) (wk := r 23) (sp := r 25) (h := r 11) (a := r 12) (lf := rf3 r 9 2 3) (fun h9 => by have h8 := ix_in h9; rw [e] at h8; exact (congrArg (rf3 r 9 2 3) h8.symm).trans rfl) h0) rfl rfl rfl rfl (by decide) ?_
    rintro o w hp
    cases x0 with
    | inl z =>
      obtain ⟨g, e1, e2⟩ := PX.inl hp
      subst e1; subst e2
      exact ⟨_, [23, 0, 1, 2, 3, 4, 5, 6, 24, 7, 8, 25, 26, 9, 10, 11, 12, 13, 14, 15, 16, 17, 18, 19, 20, 21, 22], PX.mk g rfl rfl, rfl, rfl⟩
    | inr E =>
      obtain ⟨e1, e2⟩ := PX.inr hp
      subst e1; subst e2
      exact ⟨_, [23, 0, 1, 2, 3, 4, 5, 6, 24, 7, 8, 25, 26, 9, 10, 11, 12, 13, 14, 15, 16, 17, 18, 19, 20, 21, 22], PX.er, rfl, rfl⟩
  · rw [e] at h0
    try rw [e]
    refine ok_fr (wc := [(r 0, .inr (7, [.ref (r 1), .ref (r 8), .ref (r 15), .ref (r 20), .ref (r 21), .ref (r 23), .ref (r 25)])), (r 8, .inl (2, 3, .inr (.inr (.inr (.inr (rf3 r 9 2 3)))))), (r 13, .inr (3, [.int (S.2.1 2).1, .ref (r 14), .int (S.2.1 2).2.1])), (r 14, .inl (0, 21, .inl (S.2.1 2).2.2))]) (wr := [(r 1, .inl (1, 3, .inr (.inr (.inr (.inr (rf3 r 2 2 3)))))), (r 2, .inr (4, [.ref (r 3), .int (S.1 0).1])), (r 3, .inl (0, 2646, .inl (S.1 0).2)), (r 4, .inr (4, [.ref (r 5), .int (S.1 1).1])), (r 5, .inl (0, 2646, .inl (S.1 1).2)), (r 6, .inr (4, [.ref (r 7), .int (S.1 2).1])), (r 7, .inl (0, 2646, .inl (S.1 2).2)), (r 9, .inr (3, [.int (S.2.1 0).1, .ref (r 10), .int (S.2.1 0).2.1])), (r 10, .inl (0, 21, .inl (S.2.1 0).2.2)), (r 11, .inr (3, [.int (S.2.1 1).1, .ref (r 12), .int (S.2.1 1).2.1])), (r 12, .inl (0, 21, .inl (S.2.1 1).2.2)), (r 15, .inl (3, 2, .inr (.inr (.inr (.inr (rf3 r 16 2 2)))))), (r 16, .inr (6, [.ref (r 17)])), (r 17, .inl (0, 21, .inl (S.2.2.1 0))), (r 18, .inr (6, [.ref (r 19)])), (r 19, .inl (0, 21, .inl (S.2.2.1 1))), (r 20, .inr (2, [.int (S.2.2.2.1 0), .int (S.2.2.2.1 1), .int (S.2.2.2.1 2), .int (S.2.2.2.1 3), .int (S.2.2.2.1 4), .int (S.2.2.2.1 5)])), (r 21, .inr (5, [.ref (r 22)])), (r 22, .inl (0, 21, .inl S.2.2.2.2.1)), (r 23, .inr (6, [.ref (r 24)])), (r 24, .inl (0, 21, .inl S.2.2.2.2.2.1)), (r 25, .inr (6, [.ref (r 26)])), (r 26, .inl (0, 21, .inl S.2.2.2.2.2.2))]) [0, 8, 13, 14] [1, 2, 3, 4, 5, 6, 7, 9, 10, 11, 12, 15, 16, 17, 18, 19, 20, 21, 22, 23, 24, 25, 26] (ok_X5_ruleWorth (x := r 0) (M := r 1) (L := r 8) (Dk := r 15) (c := r 20) (se := r 21) (wk := r 23) (sp := r 25) (h := r 13) (a := r 14) (lf := rf3 r 9 2 3) (fun h9 => by have h8 := ix_in h9; rw [e] at h8; exact (congrArg (rf3 r 9 2 3) h8.symm).trans rfl) h0) rfl rfl rfl rfl (by decide) ?_
    rintro o w hp
    cases x0 with
    | inl z =>
      obtain ⟨g, e1, e2⟩ := PX.inl hp
      subst e1; subst e2
      exact ⟨_, [23, 0, 1, 2, 3, 4, 5, 6, 24, 7, 8, 9, 10, 25, 26, 11, 12, 13, 14, 15, 16, 17, 18, 19, 20, 21, 22], PX.mk g rfl rfl, rfl, rfl⟩
    | inr E =>
      obtain ⟨e1, e2⟩ := PX.inr hp
      subst e1; subst e2
      exact ⟨_, [23, 0, 1, 2, 3, 4, 5, 6, 24, 7, 8, 9, 10, 25, 26, 11, 12, 13, 14, 15, 16, 17, 18, 19, 20, 21, 22], PX.er, rfl, rfl⟩
def gX_addPart (N K : Nat) (S : CS) (p0 : Int32) (p1 : Int32) (p2 : Int32) : Option ((Int32 × CS) ⊕ String) := (fX5_addPart N K (S.2.2.1 (ix 2 p0)) (S.2.2.2.1 0) (S.2.2.2.1 1) (S.2.2.2.1 2) (S.2.2.2.1 3) (S.2.2.2.1 4) (S.2.2.2.1 5) p0 p1 p2).map (fun o => match o with | .inl z => .inl (z.1, (S.1, S.2.1, (upm S.2.2.1 (ix 2 p0) z.2.1), (upm (upm S.2.2.2.1 0 z.2.2.1) 4 z.2.2.2), S.2.2.2.2.1, S.2.2.2.2.2.1, S.2.2.2.2.2.2)) | .inr E => .inr E)
set_option maxHeartbeats 4000000 in
set_option maxRecDepth 100000 in
theorem ogX_addPart {N K : Nat} {r : Nat → Nat} {S : CS} {p0 : Int32} {p1 : Int32} {p2 : Int32} {x : (Int32 × CS) ⊕ String} (hE : gX_addPart N K S p0 p1 p2 = some x) : OkM yX5_addPart (.code yX5_addPart cX5_addPart 5 (some .int)) (9) 3 18 [.ref (r 0), .int p0, .int p1, .int p2] (WX r S) ((PX (U := Int32 × CS) (fun z _ => some (.int z.1)) (fun z _ => WX r z.2) (WX r S)) x) := by
  unfold gX_addPart at hE
  obtain ⟨x0, h0, h1⟩ := Option.map_eq_some_iff.mp hE
  subst h1
  clear hE
  rcases lt2 (ix_lt (n := 2) (p := p0) (by decide)) with e | e
  · rw [e] at h0
    try rw [e]
    refine ok_fr (wc := [(r 0, .inr (7, [.ref (r 1), .ref (r 8), .ref (r 15), .ref (r 20), .ref (r 21), .ref (r 23), .ref (r 25)])), (r 15, .inl (3, 2, .inr (.inr (.inr (.inr (rf3 r 16 2 2)))))), (r 16, .inr (6, [.ref (r 17)])), (r 17, .inl (0, 21, .inl (S.2.2.1 0))), (r 20, .inr (2, [.int (S.2.2.2.1 0), .int (S.2.2.2.1 1), .int (S.2.2.2.1 2), .int (S.2.2.2.1 3), .int (S.2.2.2.1 4), .int (S.2.2.2.1 5)]))]) (wr := [(r 1, .inl (1, 3, .inr (.inr (.inr (.inr (rf3 r 2 2 3)))))), (r 2, .inr (4, [.ref (r 3), .int (S.1 0).1])), (r 3, .inl (0, 2646, .inl (S.1 0).2)), (r 4, .inr (4, [.ref (r 5), .int (S.1 1).1])), (r 5, .inl (0, 2646, .inl (S.1 1).2)), (r 6, .inr (4, [.ref (r 7), .int (S.1 2).1])), (r 7, .inl (0, 2646, .inl (S.1 2).2)), (r 8, .inl (2, 3, .inr (.inr (.inr (.inr (rf3 r 9 2 3)))))), (r 9, .inr (3, [.int (S.2.1 0).1, .ref (r 10), .int (S.2.1 0).2.1])), (r 10, .inl (0, 21, .inl (S.2.1 0).2.2)), (r 11, .inr (3, [.int (S.2.1 1).1, .ref (r 12), .int (S.2.1 1).2.1])), (r 12, .inl (0, 21, .inl (S.2.1 1).2.2)), (r 13, .inr (3, [.int (S.2.1 2).1, .ref (r 14), .int (S.2.1 2).2.1])), (r 14, .inl (0, 21, .inl (S.2.1 2).2.2)), (r 18, .inr (6, [.ref (r 19)])), (r 19, .inl (0, 21, .inl (S.2.2.1 1))), (r 21, .inr (5, [.ref (r 22)])), (r 22, .inl (0, 21, .inl S.2.2.2.2.1)), (r 23, .inr (6, [.ref (r 24)])), (r 24, .inl (0, 21, .inl S.2.2.2.2.2.1)), (r 25, .inr (6, [.ref (r 26)])), (r 26, .inl (0, 21, .inl S.2.2.2.2.2.2))]) [0, 15, 16, 17, 20] [1, 2, 3, 4, 5, 6, 7, 8, 9, 10, 11, 12, 13, 14, 18, 19, 21, 22, 23, 24, 25, 26] (ok_X5_addPart (x := r 0) (M := r 1) (L := r 8) (Dk := r 15) (c := r 20) (se := r 21) (wk := r 23) (sp := r 25) (w := r 16) (a := r 17) (df := rf3 r 16 2 2) (fun h9 => by have h8 := ix_in h9; rw [e] at h8; exact (congrArg (rf3 r 16 2 2) h8.symm).trans rfl) h0) rfl rfl rfl rfl (by decide) ?_
    rintro o w hp
    cases x0 with
    | inl z =>
      obtain ⟨g, e1, e2⟩ := PX.inl hp
      subst e1; subst e2
      exact ⟨_, [22, 0, 1, 2, 3, 4, 5, 6, 7, 8, 9, 10, 11, 12, 13, 23, 24, 25, 14, 15, 26, 16, 17, 18, 19, 20, 21], PX.mk g rfl rfl, rfl, rfl⟩
    | inr E =>
      obtain ⟨e1, e2⟩ := PX.inr hp
      subst e1; subst e2
      exact ⟨_, [22, 0, 1, 2, 3, 4, 5, 6, 7, 8, 9, 10, 11, 12, 13, 23, 24, 25, 14, 15, 26, 16, 17, 18, 19, 20, 21], PX.er, rfl, rfl⟩
  · rw [e] at h0
    try rw [e]
    refine ok_fr (wc := [(r 0, .inr (7, [.ref (r 1), .ref (r 8), .ref (r 15), .ref (r 20), .ref (r 21), .ref (r 23), .ref (r 25)])), (r 15, .inl (3, 2, .inr (.inr (.inr (.inr (rf3 r 16 2 2)))))), (r 18, .inr (6, [.ref (r 19)])), (r 19, .inl (0, 21, .inl (S.2.2.1 1))), (r 20, .inr (2, [.int (S.2.2.2.1 0), .int (S.2.2.2.1 1), .int (S.2.2.2.1 2), .int (S.2.2.2.1 3), .int (S.2.2.2.1 4), .int (S.2.2.2.1 5)]))]) (wr := [(r 1, .inl (1, 3, .inr (.inr (.inr (.inr (rf3 r 2 2 3)))))), (r 2, .inr (4, [.ref (r 3), .int (S.1 0).1])), (r 3, .inl (0, 2646, .inl (S.1 0).2)), (r 4, .inr (4, [.ref (r 5), .int (S.1 1).1])), (r 5, .inl (0, 2646, .inl (S.1 1).2)), (r 6, .inr (4, [.ref (r 7), .int (S.1 2).1])), (r 7, .inl (0, 2646, .inl (S.1 2).2)), (r 8, .inl (2, 3, .inr (.inr (.inr (.inr (rf3 r 9 2 3)))))), (r 9, .inr (3, [.int (S.2.1 0).1, .ref (r 10), .int (S.2.1 0).2.1])), (r 10, .inl (0, 21, .inl (S.2.1 0).2.2)), (r 11, .inr (3, [.int (S.2.1 1).1, .ref (r 12), .int (S.2.1 1).2.1])), (r 12, .inl (0, 21, .inl (S.2.1 1).2.2)), (r 13, .inr (3, [.int (S.2.1 2).1, .ref (r 14), .int (S.2.1 2).2.1])), (r 14, .inl (0, 21, .inl (S.2.1 2).2.2)), (r 16, .inr (6, [.ref (r 17)])), (r 17, .inl (0, 21, .inl (S.2.2.1 0))), (r 21, .inr (5, [.ref (r 22)])), (r 22, .inl (0, 21, .inl S.2.2.2.2.1)), (r 23, .inr (6, [.ref (r 24)])), (r 24, .inl (0, 21, .inl S.2.2.2.2.2.1)), (r 25, .inr (6, [.ref (r 26)])), (r 26, .inl (0, 21, .inl S.2.2.2.2.2.2))]) [0, 15, 18, 19, 20] [1, 2, 3, 4, 5, 6, 7, 8, 9, 10, 11, 12, 13, 14, 16, 17, 21, 22, 23, 24, 25, 26] (ok_X5_addPart (x := r 0) (M := r 1) (L := r 8) (Dk := r 15) (c := r 20) (se := r 21) (wk := r 23) (sp := r 25) (w := r 18) (a := r 19) (df := rf3 r 16 2 2) (fun h9 => by have h8 := ix_in h9; rw [e] at h8; exact (congrArg (rf3 r 16 2 2) h8.symm).trans rfl) h0) rfl rfl rfl rfl (by decide) ?_
    rintro o w hp
    cases x0 with
    | inl z =>
      obtain ⟨g, e1, e2⟩ := PX.inl hp
      subst e1; subst e2
      exact ⟨_, [22, 0, 1, 2, 3, 4, 5, 6, 7, 8, 9, 10, 11, 12, 13, 23, 14, 15, 24, 25, 26, 16, 17, 18, 19, 20, 21], PX.mk g rfl rfl, rfl, rfl⟩
    | inr E =>
      obtain ⟨e1, e2⟩ := PX.inr hp
      subst e1; subst e2
      exact ⟨_, [22, 0, 1, 2, 3, 4, 5, 6, 7, 8, 9, 10, 11, 12, 13, 23, 14, 15, 24, 25, 26, 16, 17, 18, 19, 20, 21], PX.er, rfl, rfl⟩
def gX_takePart (N K : Nat) (S : CS) (p0 : Int32) (p1 : Int32) : Option ((Int32 × CS) ⊕ String) := (fX5_takePart N K (S.2.2.1 (ix 2 p0)) (S.2.2.2.1 0) (S.2.2.2.1 1) (S.2.2.2.1 2) (S.2.2.2.1 3) (S.2.2.2.1 4) (S.2.2.2.1 5) p0 p1).map (fun o => match o with | .inl z => .inl (z.1, (S.1, S.2.1, (upm S.2.2.1 (ix 2 p0) z.2.1), (upm (upm S.2.2.2.1 0 z.2.2.1) 4 z.2.2.2), S.2.2.2.2.1, S.2.2.2.2.2.1, S.2.2.2.2.2.2)) | .inr E => .inr E)
set_option maxHeartbeats 4000000 in
set_option maxRecDepth 100000 in
theorem ogX_takePart {N K : Nat} {r : Nat → Nat} {S : CS} {p0 : Int32} {p1 : Int32} {x : (Int32 × CS) ⊕ String} (hE : gX_takePart N K S p0 p1 = some x) : OkM yX5_takePart (.code yX5_takePart cX5_takePart 4 (some .int)) (9) 2 12 [.ref (r 0), .int p0, .int p1] (WX r S) ((PX (U := Int32 × CS) (fun z _ => some (.int z.1)) (fun z _ => WX r z.2) (WX r S)) x) := by
  unfold gX_takePart at hE
  obtain ⟨x0, h0, h1⟩ := Option.map_eq_some_iff.mp hE
  subst h1
  clear hE
  rcases lt2 (ix_lt (n := 2) (p := p0) (by decide)) with e | e
  · rw [e] at h0
    try rw [e]
    refine ok_fr (wc := [(r 0, .inr (7, [.ref (r 1), .ref (r 8), .ref (r 15), .ref (r 20), .ref (r 21), .ref (r 23), .ref (r 25)])), (r 15, .inl (3, 2, .inr (.inr (.inr (.inr (rf3 r 16 2 2)))))), (r 16, .inr (6, [.ref (r 17)])), (r 17, .inl (0, 21, .inl (S.2.2.1 0))), (r 20, .inr (2, [.int (S.2.2.2.1 0), .int (S.2.2.2.1 1), .int (S.2.2.2.1 2), .int (S.2.2.2.1 3), .int (S.2.2.2.1 4), .int (S.2.2.2.1 5)]))]) (wr := [(r 1, .inl (1, 3, .inr (.inr (.inr (.inr (rf3 r 2 2 3)))))), (r 2, .inr (4, [.ref (r 3), .int (S.1 0).1])), (r 3, .inl (0, 2646, .inl (S.1 0).2)), (r 4, .inr (4, [.ref (r 5), .int (S.1 1).1])), (r 5, .inl (0, 2646, .inl (S.1 1).2)), (r 6, .inr (4, [.ref (r 7), .int (S.1 2).1])), (r 7, .inl (0, 2646, .inl (S.1 2).2)), (r 8, .inl (2, 3, .inr (.inr (.inr (.inr (rf3 r 9 2 3)))))), (r 9, .inr (3, [.int (S.2.1 0).1, .ref (r 10), .int (S.2.1 0).2.1])), (r 10, .inl (0, 21, .inl (S.2.1 0).2.2)), (r 11, .inr (3, [.int (S.2.1 1).1, .ref (r 12), .int (S.2.1 1).2.1])), (r 12, .inl (0, 21, .inl (S.2.1 1).2.2)), (r 13, .inr (3, [.int (S.2.1 2).1, .ref (r 14), .int (S.2.1 2).2.1])), (r 14, .inl (0, 21, .inl (S.2.1 2).2.2)), (r 18, .inr (6, [.ref (r 19)])), (r 19, .inl (0, 21, .inl (S.2.2.1 1))), (r 21, .inr (5, [.ref (r 22)])), (r 22, .inl (0, 21, .inl S.2.2.2.2.1)), (r 23, .inr (6, [.ref (r 24)])), (r 24, .inl (0, 21, .inl S.2.2.2.2.2.1)), (r 25, .inr (6, [.ref (r 26)])), (r 26, .inl (0, 21, .inl S.2.2.2.2.2.2))]) [0, 15, 16, 17, 20] [1, 2, 3, 4, 5, 6, 7, 8, 9, 10, 11, 12, 13, 14, 18, 19, 21, 22, 23, 24, 25, 26] (ok_X5_takePart (x := r 0) (M := r 1) (L := r 8) (Dk := r 15) (c := r 20) (se := r 21) (wk := r 23) (sp := r 25) (w := r 16) (a := r 17) (df := rf3 r 16 2 2) (fun h9 => by have h8 := ix_in h9; rw [e] at h8; exact (congrArg (rf3 r 16 2 2) h8.symm).trans rfl) h0) rfl rfl rfl rfl (by decide) ?_
    rintro o w hp
    cases x0 with
    | inl z =>
      obtain ⟨g, e1, e2⟩ := PX.inl hp
      subst e1; subst e2
      exact ⟨_, [22, 0, 1, 2, 3, 4, 5, 6, 7, 8, 9, 10, 11, 12, 13, 23, 24, 25, 14, 15, 26, 16, 17, 18, 19, 20, 21], PX.mk g rfl rfl, rfl, rfl⟩
    | inr E =>
      obtain ⟨e1, e2⟩ := PX.inr hp
      subst e1; subst e2
      exact ⟨_, [22, 0, 1, 2, 3, 4, 5, 6, 7, 8, 9, 10, 11, 12, 13, 23, 24, 25, 14, 15, 26, 16, 17, 18, 19, 20, 21], PX.er, rfl, rfl⟩
  · rw [e] at h0
    try rw [e]
    refine ok_fr (wc := [(r 0, .inr (7, [.ref (r 1), .ref (r 8), .ref (r 15), .ref (r 20), .ref (r 21), .ref (r 23), .ref (r 25)])), (r 15, .inl (3, 2, .inr (.inr (.inr (.inr (rf3 r 16 2 2)))))), (r 18, .inr (6, [.ref (r 19)])), (r 19, .inl (0, 21, .inl (S.2.2.1 1))), (r 20, .inr (2, [.int (S.2.2.2.1 0), .int (S.2.2.2.1 1), .int (S.2.2.2.1 2), .int (S.2.2.2.1 3), .int (S.2.2.2.1 4), .int (S.2.2.2.1 5)]))]) (wr := [(r 1, .inl (1, 3, .inr (.inr (.inr (.inr (rf3 r 2 2 3)))))), (r 2, .inr (4, [.ref (r 3), .int (S.1 0).1])), (r 3, .inl (0, 2646, .inl (S.1 0).2)), (r 4, .inr (4, [.ref (r 5), .int (S.1 1).1])), (r 5, .inl (0, 2646, .inl (S.1 1).2)), (r 6, .inr (4, [.ref (r 7), .int (S.1 2).1])), (r 7, .inl (0, 2646, .inl (S.1 2).2)), (r 8, .inl (2, 3, .inr (.inr (.inr (.inr (rf3 r 9 2 3)))))), (r 9, .inr (3, [.int (S.2.1 0).1, .ref (r 10), .int (S.2.1 0).2.1])), (r 10, .inl (0, 21, .inl (S.2.1 0).2.2)), (r 11, .inr (3, [.int (S.2.1 1).1, .ref (r 12), .int (S.2.1 1).2.1])), (r 12, .inl (0, 21, .inl (S.2.1 1).2.2)), (r 13, .inr (3, [.int (S.2.1 2).1, .ref (r 14), .int (S.2.1 2).2.1])), (r 14, .inl (0, 21, .inl (S.2.1 2).2.2)), (r 16, .inr (6, [.ref (r 17)])), (r 17, .inl (0, 21, .inl (S.2.2.1 0))), (r 21, .inr (5, [.ref (r 22)])), (r 22, .inl (0, 21, .inl S.2.2.2.2.1)), (r 23, .inr (6, [.ref (r 24)])), (r 24, .inl (0, 21, .inl S.2.2.2.2.2.1)), (r 25, .inr (6, [.ref (r 26)])), (r 26, .inl (0, 21, .inl S.2.2.2.2.2.2))]) [0, 15, 18, 19, 20] [1, 2, 3, 4, 5, 6, 7, 8, 9, 10, 11, 12, 13, 14, 16, 17, 21, 22, 23, 24, 25, 26] (ok_X5_takePart (x := r 0) (M := r 1) (L := r 8) (Dk := r 15) (c := r 20) (se := r 21) (wk := r 23) (sp := r 25) (w := r 18) (a := r 19) (df := rf3 r 16 2 2) (fun h9 => by have h8 := ix_in h9; rw [e] at h8; exact (congrArg (rf3 r 16 2 2) h8.symm).trans rfl) h0) rfl rfl rfl rfl (by decide) ?_
    rintro o w hp
    cases x0 with
    | inl z =>
      obtain ⟨g, e1, e2⟩ := PX.inl hp
      subst e1; subst e2
      exact ⟨_, [22, 0, 1, 2, 3, 4, 5, 6, 7, 8, 9, 10, 11, 12, 13, 23, 14, 15, 24, 25, 26, 16, 17, 18, 19, 20, 21], PX.mk g rfl rfl, rfl, rfl⟩
    | inr E =>
      obtain ⟨e1, e2⟩ := PX.inr hp
      subst e1; subst e2
      exact ⟨_, [22, 0, 1, 2, 3, 4, 5, 6, 7, 8, 9, 10, 11, 12, 13, 23, 14, 15, 24, 25, 26, 16, 17, 18, 19, 20, 21], PX.er, rfl, rfl⟩
def gX_layFirst (N K : Nat) (S : CS) (p0 : Int32) (p1 : Int32) : Option ((Int32 × CS) ⊕ String) := (fX5_layFirst N K (S.2.2.1 (ix 2 p0)) (S.2.2.2.1 0) (S.2.2.2.1 1) (S.2.2.2.1 2) (S.2.2.2.1 3) (S.2.2.2.1 4) (S.2.2.2.1 5) p0 p1).map (fun o => match o with | .inl z => .inl (z.1, (S.1, S.2.1, (upm S.2.2.1 (ix 2 p0) z.2.1), (upm S.2.2.2.1 0 z.2.2), S.2.2.2.2.1, S.2.2.2.2.2.1, S.2.2.2.2.2.2)) | .inr E => .inr E)
set_option maxHeartbeats 4000000 in
set_option maxRecDepth 100000 in
theorem ogX_layFirst {N K : Nat} {r : Nat → Nat} {S : CS} {p0 : Int32} {p1 : Int32} {x : (Int32 × CS) ⊕ String} (hE : gX_layFirst N K S p0 p1 = some x) : OkM yX5_layFirst (.code yX5_layFirst cX5_layFirst 4 (some .int)) (9) 2 12 [.ref (r 0), .int p0, .int p1] (WX r S) ((PX (U := Int32 × CS) (fun z _ => some (.int z.1)) (fun z _ => WX r z.2) (WX r S)) x) := by
  unfold gX_layFirst at hE
  obtain ⟨x0, h0, h1⟩ := Option.map_eq_some_iff.mp hE
  subst h1
  clear hE
  rcases lt2 (ix_lt (n := 2) (p := p0) (by decide)) with e | e
  · rw [e] at h0
    try rw [e]
    refine ok_fr (wc := [(r 0, .inr (7, [.ref (r 1), .ref (r 8), .ref (r 15), .ref (r 20), .ref (r 21), .ref (r 23), .ref (r 25)])), (r 15, .inl (3, 2, .inr (.inr (.inr (.inr (rf3 r 16 2 2)))))), (r 16, .inr (6, [.ref (r 17)])), (r 17, .inl (0, 21, .inl (S.2.2.1 0))), (r 20, .inr (2, [.int (S.2.2.2.1 0), .int (S.2.2.2.1 1), .int (S.2.2.2.1 2), .int (S.2.2.2.1 3), .int (S.2.2.2.1 4), .int (S.2.2.2.1 5)]))]) (wr := [(r 1, .inl (1, 3, .inr (.inr (.inr (.inr (rf3 r 2 2 3)))))), (r 2, .inr (4, [.ref (r 3), .int (S.1 0).1])), (r 3, .inl (0, 2646, .inl (S.1 0).2)), (r 4, .inr (4, [.ref (r 5), .int (S.1 1).1])), (r 5, .inl (0, 2646, .inl (S.1 1).2)), (r 6, .inr (4, [.ref (r 7), .int (S.1 2).1])), (r 7, .inl (0, 2646, .inl (S.1 2).2)), (r 8, .inl (2, 3, .inr (.inr (.inr (.inr (rf3 r 9 2 3)))))), (r 9, .inr (3, [.int (S.2.1 0).1, .ref (r 10), .int (S.2.1 0).2.1])), (r 10, .inl (0, 21, .inl (S.2.1 0).2.2)), (r 11, .inr (3, [.int (S.2.1 1).1, .ref (r 12), .int (S.2.1 1).2.1])), (r 12, .inl (0, 21, .inl (S.2.1 1).2.2)), (r 13, .inr (3, [.int (S.2.1 2).1, .ref (r 14), .int (S.2.1 2).2.1])), (r 14, .inl (0, 21, .inl (S.2.1 2).2.2)), (r 18, .inr (6, [.ref (r 19)])), (r 19, .inl (0, 21, .inl (S.2.2.1 1))), (r 21, .inr (5, [.ref (r 22)])), (r 22, .inl (0, 21, .inl S.2.2.2.2.1)), (r 23, .inr (6, [.ref (r 24)])), (r 24, .inl (0, 21, .inl S.2.2.2.2.2.1)), (r 25, .inr (6, [.ref (r 26)])), (r 26, .inl (0, 21, .inl S.2.2.2.2.2.2))]) [0, 15, 16, 17, 20] [1, 2, 3, 4, 5, 6, 7, 8, 9, 10, 11, 12, 13, 14, 18, 19, 21, 22, 23, 24, 25, 26] (ok_X5_layFirst (x := r 0) (M := r 1) (L := r 8) (Dk := r 15) (c := r 20) (se := r 21) (wk := r 23) (sp := r 25) (w := r 16) (a := r 17) (df := rf3 r 16 2 2) (fun h9 => by have h8 := ix_in h9; rw [e] at h8; exact (congrArg (rf3 r 16 2 2) h8.symm).trans rfl) h0) rfl rfl rfl rfl (by decide) ?_
    rintro o w hp
    cases x0 with
    | inl z =>
      obtain ⟨g, e1, e2⟩ := PX.inl hp
      subst e1; subst e2
      exact ⟨_, [22, 0, 1, 2, 3, 4, 5, 6, 7, 8, 9, 10, 11, 12, 13, 23, 24, 25, 14, 15, 26, 16, 17, 18, 19, 20, 21], PX.mk g rfl rfl, rfl, rfl⟩
    | inr E =>
      obtain ⟨e1, e2⟩ := PX.inr hp
      subst e1; subst e2
      exact ⟨_, [22, 0, 1, 2, 3, 4, 5, 6, 7, 8, 9, 10, 11, 12, 13, 23, 24, 25, 14, 15, 26, 16, 17, 18, 19, 20, 21], PX.er, rfl, rfl⟩
  · rw [e] at h0
    try rw [e]
    refine ok_fr (wc := [(r 0, .inr (7, [.ref (r 1), .ref (r 8), .ref (r 15), .ref (r 20), .ref (r 21), .ref (r 23), .ref (r 25)])), (r 15, .inl (3, 2, .inr (.inr (.inr (.inr (rf3 r 16 2 2)))))), (r 18, .inr (6, [.ref (r 19)])), (r 19, .inl (0, 21, .inl (S.2.2.1 1))), (r 20, .inr (2, [.int (S.2.2.2.1 0), .int (S.2.2.2.1 1), .int (S.2.2.2.1 2), .int (S.2.2.2.1 3), .int (S.2.2.2.1 4), .int (S.2.2.2.1 5)]))]) (wr := [(r 1, .inl (1, 3, .inr (.inr (.inr (.inr (rf3 r 2 2 3)))))), (r 2, .inr (4, [.ref (r 3), .int (S.1 0).1])), (r 3, .inl (0, 2646, .inl (S.1 0).2)), (r 4, .inr (4, [.ref (r 5), .int (S.1 1).1])), (r 5, .inl (0, 2646, .inl (S.1 1).2)), (r 6, .inr (4, [.ref (r 7), .int (S.1 2).1])), (r 7, .inl (0, 2646, .inl (S.1 2).2)), (r 8, .inl (2, 3, .inr (.inr (.inr (.inr (rf3 r 9 2 3)))))), (r 9, .inr (3, [.int (S.2.1 0).1, .ref (r 10), .int (S.2.1 0).2.1])), (r 10, .inl (0, 21, .inl (S.2.1 0).2.2)), (r 11, .inr (3, [.int (S.2.1 1).1, .ref (r 12), .int (S.2.1 1).2.1])), (r 12, .inl (0, 21, .inl (S.2.1 1).2.2)), (r 13, .inr (3, [.int (S.2.1 2).1, .ref (r 14), .int (S.2.1 2).2.1])), (r 14, .inl (0, 21, .inl (S.2.1 2).2.2)), (r 16, .inr (6, [.ref (r 17)])), (r 17, .inl (0, 21, .inl (S.2.2.1 0))), (r 21, .inr (5, [.ref (r 22)])), (r 22, .inl (0, 21, .inl S.2.2.2.2.1)), (r 23, .inr (6, [.ref (r 24)])), (r 24, .inl (0, 21, .inl S.2.2.2.2.2.1)), (r 25, .inr (6, [.ref (r 26)])), (r 26, .inl (0, 21, .inl S.2.2.2.2.2.2))]) [0, 15, 18, 19, 20] [1, 2, 3, 4, 5, 6, 7, 8, 9, 10, 11, 12, 13, 14, 16, 17, 21, 22, 23, 24, 25, 26] (ok_X5_layFirst (x := r 0) (M := r 1) (L := r 8) (Dk := r 15) (c := r 20) (se := r 21) (wk := r 23) (sp := r 25) (w := r 18) (a := r 19) (df := rf3 r 16 2 2) (fun h9 => by have h8 := ix_in h9; rw [e] at h8; exact (congrArg (rf3 r 16 2 2) h8.symm).trans rfl) h0) rfl rfl rfl rfl (by decide) ?_
    rintro o w hp
    cases x0 with
    | inl z =>
      obtain ⟨g, e1, e2⟩ := PX.inl hp
      subst e1; subst e2
      exact ⟨_, [22, 0, 1, 2, 3, 4, 5, 6, 7, 8, 9, 10, 11, 12, 13, 23, 14, 15, 24, 25, 26, 16, 17, 18, 19, 20, 21], PX.mk g rfl rfl, rfl, rfl⟩
    | inr E =>
      obtain ⟨e1, e2⟩ := PX.inr hp
      subst e1; subst e2
      exact ⟨_, [22, 0, 1, 2, 3, 4, 5, 6, 7, 8, 9, 10, 11, 12, 13, 23, 14, 15, 24, 25, 26, 16, 17, 18, 19, 20, 21], PX.er, rfl, rfl⟩
def gX_next (N K : Nat) (S : CS) (p0 : Int32) : Option ((Int32 × CS) ⊕ String) := (fX5_next N K (S.2.2.1 (ix 2 p0)) (S.2.2.2.1 0) (S.2.2.2.1 1) (S.2.2.2.1 2) (S.2.2.2.1 3) (S.2.2.2.1 4) (S.2.2.2.1 5) p0).map (fun o => match o with | .inl z => .inl (z.1, (S.1, S.2.1, (upm S.2.2.1 (ix 2 p0) z.2.1), (upm (upm S.2.2.2.1 0 z.2.2.1) 4 z.2.2.2), S.2.2.2.2.1, S.2.2.2.2.2.1, S.2.2.2.2.2.2)) | .inr E => .inr E)
set_option maxHeartbeats 4000000 in
set_option maxRecDepth 100000 in
theorem ogX_next {N K : Nat} {r : Nat → Nat} {S : CS} {p0 : Int32} {x : (Int32 × CS) ⊕ String} (hE : gX_next N K S p0 = some x) : OkM yX5_next (.code yX5_next cX5_next 3 (some .int)) (9) 1 6 [.ref (r 0), .int p0] (WX r S) ((PX (U := Int32 × CS) (fun z _ => some (.int z.1)) (fun z _ => WX r z.2) (WX r S)) x) := by
  unfold gX_next at hE
  obtain ⟨x0, h0, h1⟩ := Option.map_eq_some_iff.mp hE
  subst h1
  clear hE
  rcases lt2 (ix_lt (n := 2) (p := p0) (by decide)) with e | e
  · rw [e] at h0
    try rw [e]
    refine ok_fr (wc := [(r 0, .inr (7, [.ref (r 1), .ref (r 8), .ref (r 15), .ref (r 20), .ref (r 21), .ref (r 23), .ref (r 25)])), (r 15, .inl (3, 2, .inr (.inr (.inr (.inr (rf3 r 16 2 2)))))), (r 16, .inr (6, [.ref (r 17)])), (r 17, .inl (0, 21, .inl (S.2.2.1 0))), (r 20, .inr (2, [.int (S.2.2.2.1 0), .int (S.2.2.2.1 1), .int (S.2.2.2.1 2), .int (S.2.2.2.1 3), .int (S.2.2.2.1 4), .int (S.2.2.2.1 5)]))]) (wr := [(r 1, .inl (1, 3, .inr (.inr (.inr (.inr (rf3 r 2 2 3)))))), (r 2, .inr (4, [.ref (r 3), .int (S.1 0).1])), (r 3, .inl (0, 2646, .inl (S.1 0).2)), (r 4, .inr (4, [.ref (r 5), .int (S.1 1).1])), (r 5, .inl (0, 2646, .inl (S.1 1).2)), (r 6, .inr (4, [.ref (r 7), .int (S.1 2).1])), (r 7, .inl (0, 2646, .inl (S.1 2).2)), (r 8, .inl (2, 3, .inr (.inr (.inr (.inr (rf3 r 9 2 3)))))), (r 9, .inr (3, [.int (S.2.1 0).1, .ref (r 10), .int (S.2.1 0).2.1])), (r 10, .inl (0, 21, .inl (S.2.1 0).2.2)), (r 11, .inr (3, [.int (S.2.1 1).1, .ref (r 12), .int (S.2.1 1).2.1])), (r 12, .inl (0, 21, .inl (S.2.1 1).2.2)), (r 13, .inr (3, [.int (S.2.1 2).1, .ref (r 14), .int (S.2.1 2).2.1])), (r 14, .inl (0, 21, .inl (S.2.1 2).2.2)), (r 18, .inr (6, [.ref (r 19)])), (r 19, .inl (0, 21, .inl (S.2.2.1 1))), (r 21, .inr (5, [.ref (r 22)])), (r 22, .inl (0, 21, .inl S.2.2.2.2.1)), (r 23, .inr (6, [.ref (r 24)])), (r 24, .inl (0, 21, .inl S.2.2.2.2.2.1)), (r 25, .inr (6, [.ref (r 26)])), (r 26, .inl (0, 21, .inl S.2.2.2.2.2.2))]) [0, 15, 16, 17, 20] [1, 2, 3, 4, 5, 6, 7, 8, 9, 10, 11, 12, 13, 14, 18, 19, 21, 22, 23, 24, 25, 26] (ok_X5_next (x := r 0) (M := r 1) (L := r 8) (Dk := r 15) (c := r 20) (se := r 21) (wk := r 23) (sp := r 25) (w := r 16) (a := r 17) (df := rf3 r 16 2 2) (fun h9 => by have h8 := ix_in h9; rw [e] at h8; exact (congrArg (rf3 r 16 2 2) h8.symm).trans rfl) h0) rfl rfl rfl rfl (by decide) ?_
    rintro o w hp
    cases x0 with
    | inl z =>
      obtain ⟨g, e1, e2⟩ := PX.inl hp
      subst e1; subst e2
      exact ⟨_, [22, 0, 1, 2, 3, 4, 5, 6, 7, 8, 9, 10, 11, 12, 13, 23, 24, 25, 14, 15, 26, 16, 17, 18, 19, 20, 21], PX.mk g rfl rfl, rfl, rfl⟩
    | inr E =>
      obtain ⟨e1, e2⟩ := PX.inr hp
      subst e1; subst e2
      exact ⟨_, [22, 0, 1, 2, 3, 4, 5, 6, 7, 8, 9, 10, 11, 12, 13, 23, 24, 25, 14, 15, 26, 16, 17, 18, 19, 20, 21], PX.er, rfl, rfl⟩
  · rw [e] at h0
    try rw [e]
    refine ok_fr (wc := [(r 0, .inr (7, [.ref (r 1), .ref (r 8), .ref (r 15), .ref (r 20), .ref (r 21), .ref (r 23), .ref (r 25)])), (r 15, .inl (3, 2, .inr (.inr (.inr (.inr (rf3 r 16 2 2)))))), (r 18, .inr (6, [.ref (r 19)])), (r 19, .inl (0, 21, .inl (S.2.2.1 1))), (r 20, .inr (2, [.int (S.2.2.2.1 0), .int (S.2.2.2.1 1), .int (S.2.2.2.1 2), .int (S.2.2.2.1 3), .int (S.2.2.2.1 4), .int (S.2.2.2.1 5)]))]) (wr := [(r 1, .inl (1, 3, .inr (.inr (.inr (.inr (rf3 r 2 2 3)))))), (r 2, .inr (4, [.ref (r 3), .int (S.1 0).1])), (r 3, .inl (0, 2646, .inl (S.1 0).2)), (r 4, .inr (4, [.ref (r 5), .int (S.1 1).1])), (r 5, .inl (0, 2646, .inl (S.1 1).2)), (r 6, .inr (4, [.ref (r 7), .int (S.1 2).1])), (r 7, .inl (0, 2646, .inl (S.1 2).2)), (r 8, .inl (2, 3, .inr (.inr (.inr (.inr (rf3 r 9 2 3)))))), (r 9, .inr (3, [.int (S.2.1 0).1, .ref (r 10), .int (S.2.1 0).2.1])), (r 10, .inl (0, 21, .inl (S.2.1 0).2.2)), (r 11, .inr (3, [.int (S.2.1 1).1, .ref (r 12), .int (S.2.1 1).2.1])), (r 12, .inl (0, 21, .inl (S.2.1 1).2.2)), (r 13, .inr (3, [.int (S.2.1 2).1, .ref (r 14), .int (S.2.1 2).2.1])), (r 14, .inl (0, 21, .inl (S.2.1 2).2.2)), (r 16, .inr (6, [.ref (r 17)])), (r 17, .inl (0, 21, .inl (S.2.2.1 0))), (r 21, .inr (5, [.ref (r 22)])), (r 22, .inl (0, 21, .inl S.2.2.2.2.1)), (r 23, .inr (6, [.ref (r 24)])), (r 24, .inl (0, 21, .inl S.2.2.2.2.2.1)), (r 25, .inr (6, [.ref (r 26)])), (r 26, .inl (0, 21, .inl S.2.2.2.2.2.2))]) [0, 15, 18, 19, 20] [1, 2, 3, 4, 5, 6, 7, 8, 9, 10, 11, 12, 13, 14, 16, 17, 21, 22, 23, 24, 25, 26] (ok_X5_next (x := r 0) (M := r 1) (L := r 8) (Dk := r 15) (c := r 20) (se := r 21) (wk := r 23) (sp := r 25) (w := r 18) (a := r 19) (df := rf3 r 16 2 2) (fun h9 => by have h8 := ix_in h9; rw [e] at h8; exact (congrArg (rf3 r 16 2 2) h8.symm).trans rfl) h0) rfl rfl rfl rfl (by decide) ?_
    rintro o w hp
    cases x0 with
    | inl z =>
      obtain ⟨g, e1, e2⟩ := PX.inl hp
      subst e1; subst e2
      exact ⟨_, [22, 0, 1, 2, 3, 4, 5, 6, 7, 8, 9, 10, 11, 12, 13, 23, 14, 15, 24, 25, 26, 16, 17, 18, 19, 20, 21], PX.mk g rfl rfl, rfl, rfl⟩
    | inr E =>
      obtain ⟨e1, e2⟩ := PX.inr hp
      subst e1; subst e2
      exact ⟨_, [22, 0, 1, 2, 3, 4, 5, 6, 7, 8, 9, 10, 11, 12, 13, 23, 14, 15, 24, 25, 26, 16, 17, 18, 19, 20, 21], PX.er, rfl, rfl⟩
def gX_turn (N K : Nat) (S : CS) (p0 : Int32) : Option ((Int32 × CS) ⊕ String) := (fX5_turn N K (S.2.2.1 (ix 2 p0)) (S.2.2.2.1 0) (S.2.2.2.1 1) (S.2.2.2.1 2) (S.2.2.2.1 3) (S.2.2.2.1 4) (S.2.2.2.1 5) S.2.2.2.2.2.2 p0).map (fun o => match o with | .inl z => .inl (z.1, (S.1, S.2.1, (upm S.2.2.1 (ix 2 p0) z.2.1), (upm S.2.2.2.1 0 z.2.2.1), S.2.2.2.2.1, S.2.2.2.2.2.1, z.2.2.2)) | .inr E => .inr E)
set_option maxHeartbeats 4000000 in
set_option maxRecDepth 100000 in
theorem ogX_turn {N K : Nat} {r : Nat → Nat} {S : CS} {p0 : Int32} {x : (Int32 × CS) ⊕ String} (hE : gX_turn N K S p0 = some x) : OkM yX5_turn (.code yX5_turn cX5_turn 4 (some .int)) (9) 1 6 [.ref (r 0), .int p0] (WX r S) ((PX (U := Int32 × CS) (fun z _ => some (.int z.1)) (fun z _ => WX r z.2) (WX r S)) x) := by
  unfold gX_turn at hE
  obtain ⟨x0, h0, h1⟩ := Option.map_eq_some_iff.mp hE
  subst h1
  clear hE
  rcases lt2 (ix_lt (n := 2) (p := p0) (by decide)) with e | e
  · rw [e] at h0
    try rw [e]
    refine ok_fr (wc := [(r 0, .inr (7, [.ref (r 1), .ref (r 8), .ref (r 15), .ref (r 20), .ref (r 21), .ref (r 23), .ref (r 25)])), (r 15, .inl (3, 2, .inr (.inr (.inr (.inr (rf3 r 16 2 2)))))), (r 16, .inr (6, [.ref (r 17)])), (r 17, .inl (0, 21, .inl (S.2.2.1 0))), (r 20, .inr (2, [.int (S.2.2.2.1 0), .int (S.2.2.2.1 1), .int (S.2.2.2.1 2), .int (S.2.2.2.1 3), .int (S.2.2.2.1 4), .int (S.2.2.2.1 5)])), (r 25, .inr (6, [.ref (r 26)])), (r 26, .inl (0, 21, .inl S.2.2.2.2.2.2))]) (wr := [(r 1, .inl (1, 3, .inr (.inr (.inr (.inr (rf3 r 2 2 3)))))), (r 2, .inr (4, [.ref (r 3), .int (S.1 0).1])), (r 3, .inl (0, 2646, .inl (S.1 0).2)), (r 4, .inr (4, [.ref (r 5), .int (S.1 1).1])), (r 5, .inl (0, 2646, .inl (S.1 1).2)), (r 6, .inr (4, [.ref (r 7), .int (S.1 2).1])), (r 7, .inl (0, 2646, .inl (S.1 2).2)), (r 8, .inl (2, 3, .inr (.inr (.inr (.inr (rf3 r 9 2 3)))))), (r 9, .inr (3, [.int (S.2.1 0).1, .ref (r 10), .int (S.2.1 0).2.1])), (r 10, .inl (0, 21, .inl (S.2.1 0).2.2)), (r 11, .inr (3, [.int (S.2.1 1).1, .ref (r 12), .int (S.2.1 1).2.1])), (r 12, .inl (0, 21, .inl (S.2.1 1).2.2)), (r 13, .inr (3, [.int (S.2.1 2).1, .ref (r 14), .int (S.2.1 2).2.1])), (r 14, .inl (0, 21, .inl (S.2.1 2).2.2)), (r 18, .inr (6, [.ref (r 19)])), (r 19, .inl (0, 21, .inl (S.2.2.1 1))), (r 21, .inr (5, [.ref (r 22)])), (r 22, .inl (0, 21, .inl S.2.2.2.2.1)), (r 23, .inr (6, [.ref (r 24)])), (r 24, .inl (0, 21, .inl S.2.2.2.2.2.1))]) [0, 15, 16, 17, 20, 25, 26] [1, 2, 3, 4, 5, 6, 7, 8, 9, 10, 11, 12, 13, 14, 18, 19, 21, 22, 23, 24] (ok_X5_turn (x := r 0) (M := r 1) (L := r 8) (Dk := r 15) (c := r 20) (se := r 21) (wk := r 23) (sp := r 25) (w := r 16) (a := r 17) (sa := r 26) (df := rf3 r 16 2 2) (fun h9 => by have h8 := ix_in h9; rw [e] at h8; exact (congrArg (rf3 r 16 2 2) h8.symm).trans rfl) h0) rfl rfl rfl rfl (by decide) ?_
    rintro o w hp
    cases x0 with
    | inl z =>
      obtain ⟨g, e1, e2⟩ := PX.inl hp
      subst e1; subst e2
      exact ⟨_, [20, 0, 1, 2, 3, 4, 5, 6, 7, 8, 9, 10, 11, 12, 13, 21, 22, 23, 14, 15, 24, 16, 17, 18, 19, 25, 26], PX.mk g rfl rfl, rfl, rfl⟩
    | inr E =>
      obtain ⟨e1, e2⟩ := PX.inr hp
      subst e1; subst e2
      exact ⟨_, [20, 0, 1, 2, 3, 4, 5, 6, 7, 8, 9, 10, 11, 12, 13, 21, 22, 23, 14, 15, 24, 16, 17, 18, 19, 25, 26], PX.er, rfl, rfl⟩
  · rw [e] at h0
    try rw [e]
    refine ok_fr (wc := [(r 0, .inr (7, [.ref (r 1), .ref (r 8), .ref (r 15), .ref (r 20), .ref (r 21), .ref (r 23), .ref (r 25)])), (r 15, .inl (3, 2, .inr (.inr (.inr (.inr (rf3 r 16 2 2)))))), (r 18, .inr (6, [.ref (r 19)])), (r 19, .inl (0, 21, .inl (S.2.2.1 1))), (r 20, .inr (2, [.int (S.2.2.2.1 0), .int (S.2.2.2.1 1), .int (S.2.2.2.1 2), .int (S.2.2.2.1 3), .int (S.2.2.2.1 4), .int (S.2.2.2.1 5)])), (r 25, .inr (6, [.ref (r 26)])), (r 26, .inl (0, 21, .inl S.2.2.2.2.2.2))]) (wr := [(r 1, .inl (1, 3, .inr (.inr (.inr (.inr (rf3 r 2 2 3)))))), (r 2, .inr (4, [.ref (r 3), .int (S.1 0).1])), (r 3, .inl (0, 2646, .inl (S.1 0).2)), (r 4, .inr (4, [.ref (r 5), .int (S.1 1).1])), (r 5, .inl (0, 2646, .inl (S.1 1).2)), (r 6, .inr (4, [.ref (r 7), .int (S.1 2).1])), (r 7, .inl (0, 2646, .inl (S.1 2).2)), (r 8, .inl (2, 3, .inr (.inr (.inr (.inr (rf3 r 9 2 3)))))), (r 9, .inr (3, [.int (S.2.1 0).1, .ref (r 10), .int (S.2.1 0).2.1])), (r 10, .inl (0, 21, .inl (S.2.1 0).2.2)), (r 11, .inr (3, [.int (S.2.1 1).1, .ref (r 12), .int (S.2.1 1).2.1])), (r 12, .inl (0, 21, .inl (S.2.1 1).2.2)), (r 13, .inr (3, [.int (S.2.1 2).1, .ref (r 14), .int (S.2.1 2).2.1])), (r 14, .inl (0, 21, .inl (S.2.1 2).2.2)), (r 16, .inr (6, [.ref (r 17)])), (r 17, .inl (0, 21, .inl (S.2.2.1 0))), (r 21, .inr (5, [.ref (r 22)])), (r 22, .inl (0, 21, .inl S.2.2.2.2.1)), (r 23, .inr (6, [.ref (r 24)])), (r 24, .inl (0, 21, .inl S.2.2.2.2.2.1))]) [0, 15, 18, 19, 20, 25, 26] [1, 2, 3, 4, 5, 6, 7, 8, 9, 10, 11, 12, 13, 14, 16, 17, 21, 22, 23, 24] (ok_X5_turn (x := r 0) (M := r 1) (L := r 8) (Dk := r 15) (c := r 20) (se := r 21) (wk := r 23) (sp := r 25) (w := r 18) (a := r 19) (sa := r 26) (df := rf3 r 16 2 2) (fun h9 => by have h8 := ix_in h9; rw [e] at h8; exact (congrArg (rf3 r 16 2 2) h8.symm).trans rfl) h0) rfl rfl rfl rfl (by decide) ?_
    rintro o w hp
    cases x0 with
    | inl z =>
      obtain ⟨g, e1, e2⟩ := PX.inl hp
      subst e1; subst e2
      exact ⟨_, [20, 0, 1, 2, 3, 4, 5, 6, 7, 8, 9, 10, 11, 12, 13, 21, 14, 15, 22, 23, 24, 16, 17, 18, 19, 25, 26], PX.mk g rfl rfl, rfl, rfl⟩
    | inr E =>
      obtain ⟨e1, e2⟩ := PX.inr hp
      subst e1; subst e2
      exact ⟨_, [20, 0, 1, 2, 3, 4, 5, 6, 7, 8, 9, 10, 11, 12, 13, 21, 14, 15, 22, 23, 24, 16, 17, 18, 19, 25, 26], PX.er, rfl, rfl⟩
def gX_toUnlike (N K : Nat) (S : CS) (p0 : Int32) : Option ((Int32 × CS) ⊕ String) := (fX5_toUnlike N K (S.2.2.1 (ix 2 p0)) (S.2.2.2.1 0) (S.2.2.2.1 1) (S.2.2.2.1 2) (S.2.2.2.1 3) (S.2.2.2.1 4) (S.2.2.2.1 5) S.2.2.2.2.2.2 p0).map (fun o => match o with | .inl z => .inl (z.1, (S.1, S.2.1, (upm S.2.2.1 (ix 2 p0) z.2.1), (upm (upm S.2.2.2.1 0 z.2.2.1) 4 z.2.2.2.1), S.2.2.2.2.1, S.2.2.2.2.2.1, z.2.2.2.2)) | .inr E => .inr E)
set_option maxHeartbeats 4000000 in
set_option maxRecDepth 100000 in
theorem ogX_toUnlike {N K : Nat} {r : Nat → Nat} {S : CS} {p0 : Int32} {x : (Int32 × CS) ⊕ String} (hE : gX_toUnlike N K S p0 = some x) : OkM yX5_toUnlike (.code yX5_toUnlike cX5_toUnlike 3 (some .int)) (9) 1 6 [.ref (r 0), .int p0] (WX r S) ((PX (U := Int32 × CS) (fun z _ => some (.int z.1)) (fun z _ => WX r z.2) (WX r S)) x) := by
  unfold gX_toUnlike at hE
  obtain ⟨x0, h0, h1⟩ := Option.map_eq_some_iff.mp hE
  subst h1
  clear hE
  rcases lt2 (ix_lt (n := 2) (p := p0) (by decide)) with e | e
  · rw [e] at h0
    try rw [e]
    refine ok_fr (wc := [(r 0, .inr (7, [.ref (r 1), .ref (r 8), .ref (r 15), .ref (r 20), .ref (r 21), .ref (r 23), .ref (r 25)])), (r 15, .inl (3, 2, .inr (.inr (.inr (.inr (rf3 r 16 2 2)))))), (r 16, .inr (6, [.ref (r 17)])), (r 17, .inl (0, 21, .inl (S.2.2.1 0))), (r 20, .inr (2, [.int (S.2.2.2.1 0), .int (S.2.2.2.1 1), .int (S.2.2.2.1 2), .int (S.2.2.2.1 3), .int (S.2.2.2.1 4), .int (S.2.2.2.1 5)])), (r 25, .inr (6, [.ref (r 26)])), (r 26, .inl (0, 21, .inl S.2.2.2.2.2.2))]) (wr := [(r 1, .inl (1, 3, .inr (.inr (.inr (.inr (rf3 r 2 2 3)))))), (r 2, .inr (4, [.ref (r 3), .int (S.1 0).1])), (r 3, .inl (0, 2646, .inl (S.1 0).2)), (r 4, .inr (4, [.ref (r 5), .int (S.1 1).1])), (r 5, .inl (0, 2646, .inl (S.1 1).2)), (r 6, .inr (4, [.ref (r 7), .int (S.1 2).1])), (r 7, .inl (0, 2646, .inl (S.1 2).2)), (r 8, .inl (2, 3, .inr (.inr (.inr (.inr (rf3 r 9 2 3)))))), (r 9, .inr (3, [.int (S.2.1 0).1, .ref (r 10), .int (S.2.1 0).2.1])), (r 10, .inl (0, 21, .inl (S.2.1 0).2.2)), (r 11, .inr (3, [.int (S.2.1 1).1, .ref (r 12), .int (S.2.1 1).2.1])), (r 12, .inl (0, 21, .inl (S.2.1 1).2.2)), (r 13, .inr (3, [.int (S.2.1 2).1, .ref (r 14), .int (S.2.1 2).2.1])), (r 14, .inl (0, 21, .inl (S.2.1 2).2.2)), (r 18, .inr (6, [.ref (r 19)])), (r 19, .inl (0, 21, .inl (S.2.2.1 1))), (r 21, .inr (5, [.ref (r 22)])), (r 22, .inl (0, 21, .inl S.2.2.2.2.1)), (r 23, .inr (6, [.ref (r 24)])), (r 24, .inl (0, 21, .inl S.2.2.2.2.2.1))]) [0, 15, 16, 17, 20, 25, 26] [1, 2, 3, 4, 5, 6, 7, 8, 9, 10, 11, 12, 13, 14, 18, 19, 21, 22, 23, 24] (ok_X5_toUnlike (x := r 0) (M := r 1) (L := r 8) (Dk := r 15) (c := r 20) (se := r 21) (wk := r 23) (sp := r 25) (w := r 16) (a := r 17) (sa := r 26) (df := rf3 r 16 2 2) (fun h9 => by have h8 := ix_in h9; rw [e] at h8; exact (congrArg (rf3 r 16 2 2) h8.symm).trans rfl) h0) rfl rfl rfl rfl (by decide) ?_
    rintro o w hp
    cases x0 with
    | inl z =>
      obtain ⟨g, e1, e2⟩ := PX.inl hp
      subst e1; subst e2
      exact ⟨_, [20, 0, 1, 2, 3, 4, 5, 6, 7, 8, 9, 10, 11, 12, 13, 21, 22, 23, 14, 15, 24, 16, 17, 18, 19, 25, 26], PX.mk g rfl rfl, rfl, rfl⟩
    | inr E =>
      obtain ⟨e1, e2⟩ := PX.inr hp
      subst e1; subst e2
      exact ⟨_, [20, 0, 1, 2, 3, 4, 5, 6, 7, 8, 9, 10, 11, 12, 13, 21, 22, 23, 14, 15, 24, 16, 17, 18, 19, 25, 26], PX.er, rfl, rfl⟩
  · rw [e] at h0
    try rw [e]
    refine ok_fr (wc := [(r 0, .inr (7, [.ref (r 1), .ref (r 8), .ref (r 15), .ref (r 20), .ref (r 21), .ref (r 23), .ref (r 25)])), (r 15, .inl (3, 2, .inr (.inr (.inr (.inr (rf3 r 16 2 2)))))), (r 18, .inr (6, [.ref (r 19)])), (r 19, .inl (0, 21, .inl (S.2.2.1 1))), (r 20, .inr (2, [.int (S.2.2.2.1 0), .int (S.2.2.2.1 1), .int (S.2.2.2.1 2), .int (S.2.2.2.1 3), .int (S.2.2.2.1 4), .int (S.2.2.2.1 5)])), (r 25, .inr (6, [.ref (r 26)])), (r 26, .inl (0, 21, .inl S.2.2.2.2.2.2))]) (wr := [(r 1, .inl (1, 3, .inr (.inr (.inr (.inr (rf3 r 2 2 3)))))), (r 2, .inr (4, [.ref (r 3), .int (S.1 0).1])), (r 3, .inl (0, 2646, .inl (S.1 0).2)), (r 4, .inr (4, [.ref (r 5), .int (S.1 1).1])), (r 5, .inl (0, 2646, .inl (S.1 1).2)), (r 6, .inr (4, [.ref (r 7), .int (S.1 2).1])), (r 7, .inl (0, 2646, .inl (S.1 2).2)), (r 8, .inl (2, 3, .inr (.inr (.inr (.inr (rf3 r 9 2 3)))))), (r 9, .inr (3, [.int (S.2.1 0).1, .ref (r 10), .int (S.2.1 0).2.1])), (r 10, .inl (0, 21, .inl (S.2.1 0).2.2)), (r 11, .inr (3, [.int (S.2.1 1).1, .ref (r 12), .int (S.2.1 1).2.1])), (r 12, .inl (0, 21, .inl (S.2.1 1).2.2)), (r 13, .inr (3, [.int (S.2.1 2).1, .ref (r 14), .int (S.2.1 2).2.1])), (r 14, .inl (0, 21, .inl (S.2.1 2).2.2)), (r 16, .inr (6, [.ref (r 17)])), (r 17, .inl (0, 21, .inl (S.2.2.1 0))), (r 21, .inr (5, [.ref (r 22)])), (r 22, .inl (0, 21, .inl S.2.2.2.2.1)), (r 23, .inr (6, [.ref (r 24)])), (r 24, .inl (0, 21, .inl S.2.2.2.2.2.1))]) [0, 15, 18, 19, 20, 25, 26] [1, 2, 3, 4, 5, 6, 7, 8, 9, 10, 11, 12, 13, 14, 16, 17, 21, 22, 23, 24] (ok_X5_toUnlike (x := r 0) (M := r 1) (L := r 8) (Dk := r 15) (c := r 20) (se := r 21) (wk := r 23) (sp := r 25) (w := r 18) (a := r 19) (sa := r 26) (df := rf3 r 16 2 2) (fun h9 => by have h8 := ix_in h9; rw [e] at h8; exact (congrArg (rf3 r 16 2 2) h8.symm).trans rfl) h0) rfl rfl rfl rfl (by decide) ?_
    rintro o w hp
    cases x0 with
    | inl z =>
      obtain ⟨g, e1, e2⟩ := PX.inl hp
      subst e1; subst e2
      exact ⟨_, [20, 0, 1, 2, 3, 4, 5, 6, 7, 8, 9, 10, 11, 12, 13, 21, 14, 15, 22, 23, 24, 16, 17, 18, 19, 25, 26], PX.mk g rfl rfl, rfl, rfl⟩
    | inr E =>
      obtain ⟨e1, e2⟩ := PX.inr hp
      subst e1; subst e2
      exact ⟨_, [20, 0, 1, 2, 3, 4, 5, 6, 7, 8, 9, 10, 11, 12, 13, 21, 14, 15, 22, 23, 24, 16, 17, 18, 19, 25, 26], PX.er, rfl, rfl⟩
def gX_toOdd (N K : Nat) (S : CS) (p0 : Int32) : Option ((Int32 × CS) ⊕ String) := (fX5_toOdd N K (S.2.2.1 (ix 2 p0)) (S.2.2.2.1 0) (S.2.2.2.1 1) (S.2.2.2.1 2) (S.2.2.2.1 3) (S.2.2.2.1 4) (S.2.2.2.1 5) S.2.2.2.2.2.2 p0).map (fun o => match o with | .inl z => .inl (z.1, (S.1, S.2.1, (upm S.2.2.1 (ix 2 p0) z.2.1), (upm (upm S.2.2.2.1 0 z.2.2.1) 4 z.2.2.2.1), S.2.2.2.2.1, S.2.2.2.2.2.1, z.2.2.2.2)) | .inr E => .inr E)
set_option maxHeartbeats 4000000 in
set_option maxRecDepth 100000 in
theorem ogX_toOdd {N K : Nat} {r : Nat → Nat} {S : CS} {p0 : Int32} {x : (Int32 × CS) ⊕ String} (hE : gX_toOdd N K S p0 = some x) : OkM yX5_toOdd (.code yX5_toOdd cX5_toOdd 3 (some .int)) (9) 1 6 [.ref (r 0), .int p0] (WX r S) ((PX (U := Int32 × CS) (fun z _ => some (.int z.1)) (fun z _ => WX r z.2) (WX r S)) x) := by
  unfold gX_toOdd at hE
  obtain ⟨x0, h0, h1⟩ := Option.map_eq_some_iff.mp hE
  subst h1
  clear hE
  rcases lt2 (ix_lt (n := 2) (p := p0) (by decide)) with e | e
  · rw [e] at h0
    try rw [e]
    refine ok_fr (wc := [(r 0, .inr (7, [.ref (r 1), .ref (r 8), .ref (r 15), .ref (r 20), .ref (r 21), .ref (r 23), .ref (r 25)])), (r 15, .inl (3, 2, .inr (.inr (.inr (.inr (rf3 r 16 2 2)))))), (r 16, .inr (6, [.ref (r 17)])), (r 17, .inl (0, 21, .inl (S.2.2.1 0))), (r 20, .inr (2, [.int (S.2.2.2.1 0), .int (S.2.2.2.1 1), .int (S.2.2.2.1 2), .int (S.2.2.2.1 3), .int (S.2.2.2.1 4), .int (S.2.2.2.1 5)])), (r 25, .inr (6, [.ref (r 26)])), (r 26, .inl (0, 21, .inl S.2.2.2.2.2.2))]) (wr := [(r 1, .inl (1, 3, .inr (.inr (.inr (.inr (rf3 r 2 2 3)))))), (r 2, .inr (4, [.ref (r 3), .int (S.1 0).1])), (r 3, .inl (0, 2646, .inl (S.1 0).2)), (r 4, .inr (4, [.ref (r 5), .int (S.1 1).1])), (r 5, .inl (0, 2646, .inl (S.1 1).2)), (r 6, .inr (4, [.ref (r 7), .int (S.1 2).1])), (r 7, .inl (0, 2646, .inl (S.1 2).2)), (r 8, .inl (2, 3, .inr (.inr (.inr (.inr (rf3 r 9 2 3)))))), (r 9, .inr (3, [.int (S.2.1 0).1, .ref (r 10), .int (S.2.1 0).2.1])), (r 10, .inl (0, 21, .inl (S.2.1 0).2.2)), (r 11, .inr (3, [.int (S.2.1 1).1, .ref (r 12), .int (S.2.1 1).2.1])), (r 12, .inl (0, 21, .inl (S.2.1 1).2.2)), (r 13, .inr (3, [.int (S.2.1 2).1, .ref (r 14), .int (S.2.1 2).2.1])), (r 14, .inl (0, 21, .inl (S.2.1 2).2.2)), (r 18, .inr (6, [.ref (r 19)])), (r 19, .inl (0, 21, .inl (S.2.2.1 1))), (r 21, .inr (5, [.ref (r 22)])), (r 22, .inl (0, 21, .inl S.2.2.2.2.1)), (r 23, .inr (6, [.ref (r 24)])), (r 24, .inl (0, 21, .inl S.2.2.2.2.2.1))]) [0, 15, 16, 17, 20, 25, 26] [1, 2, 3, 4, 5, 6, 7, 8, 9, 10, 11, 12, 13, 14, 18, 19, 21, 22, 23, 24] (ok_X5_toOdd (x := r 0) (M := r 1) (L := r 8) (Dk := r 15) (c := r 20) (se := r 21) (wk := r 23) (sp := r 25) (w := r 16) (a := r 17) (sa := r 26) (df := rf3 r 16 2 2) (fun h9 => by have h8 := ix_in h9; rw [e] at h8; exact (congrArg (rf3 r 16 2 2) h8.symm).trans rfl) h0) rfl rfl rfl rfl (by decide) ?_
    rintro o w hp
    cases x0 with
    | inl z =>
      obtain ⟨g, e1, e2⟩ := PX.inl hp
      subst e1; subst e2
      exact ⟨_, [20, 0, 1, 2, 3, 4, 5, 6, 7, 8, 9, 10, 11, 12, 13, 21, 22, 23, 14, 15, 24, 16, 17, 18, 19, 25, 26], PX.mk g rfl rfl, rfl, rfl⟩
    | inr E =>
      obtain ⟨e1, e2⟩ := PX.inr hp
      subst e1; subst e2
      exact ⟨_, [20, 0, 1, 2, 3, 4, 5, 6, 7, 8, 9, 10, 11, 12, 13, 21, 22, 23, 14, 15, 24, 16, 17, 18, 19, 25, 26], PX.er, rfl, rfl⟩
  · rw [e] at h0
    try rw [e]
    refine ok_fr (wc := [(r 0, .inr (7, [.ref (r 1), .ref (r 8), .ref (r 15), .ref (r 20), .ref (r 21), .ref (r 23), .ref (r 25)])), (r 15, .inl (3, 2, .inr (.inr (.inr (.inr (rf3 r 16 2 2)))))), (r 18, .inr (6, [.ref (r 19)])), (r 19, .inl (0, 21, .inl (S.2.2.1 1))), (r 20, .inr (2, [.int (S.2.2.2.1 0), .int (S.2.2.2.1 1), .int (S.2.2.2.1 2), .int (S.2.2.2.1 3), .int (S.2.2.2.1 4), .int (S.2.2.2.1 5)])), (r 25, .inr (6, [.ref (r 26)])), (r 26, .inl (0, 21, .inl S.2.2.2.2.2.2))]) (wr := [(r 1, .inl (1, 3, .inr (.inr (.inr (.inr (rf3 r 2 2 3)))))), (r 2, .inr (4, [.ref (r 3), .int (S.1 0).1])), (r 3, .inl (0, 2646, .inl (S.1 0).2)), (r 4, .inr (4, [.ref (r 5), .int (S.1 1).1])), (r 5, .inl (0, 2646, .inl (S.1 1).2)), (r 6, .inr (4, [.ref (r 7), .int (S.1 2).1])), (r 7, .inl (0, 2646, .inl (S.1 2).2)), (r 8, .inl (2, 3, .inr (.inr (.inr (.inr (rf3 r 9 2 3)))))), (r 9, .inr (3, [.int (S.2.1 0).1, .ref (r 10), .int (S.2.1 0).2.1])), (r 10, .inl (0, 21, .inl (S.2.1 0).2.2)), (r 11, .inr (3, [.int (S.2.1 1).1, .ref (r 12), .int (S.2.1 1).2.1])), (r 12, .inl (0, 21, .inl (S.2.1 1).2.2)), (r 13, .inr (3, [.int (S.2.1 2).1, .ref (r 14), .int (S.2.1 2).2.1])), (r 14, .inl (0, 21, .inl (S.2.1 2).2.2)), (r 16, .inr (6, [.ref (r 17)])), (r 17, .inl (0, 21, .inl (S.2.2.1 0))), (r 21, .inr (5, [.ref (r 22)])), (r 22, .inl (0, 21, .inl S.2.2.2.2.1)), (r 23, .inr (6, [.ref (r 24)])), (r 24, .inl (0, 21, .inl S.2.2.2.2.2.1))]) [0, 15, 18, 19, 20, 25, 26] [1, 2, 3, 4, 5, 6, 7, 8, 9, 10, 11, 12, 13, 14, 16, 17, 21, 22, 23, 24] (ok_X5_toOdd (x := r 0) (M := r 1) (L := r 8) (Dk := r 15) (c := r 20) (se := r 21) (wk := r 23) (sp := r 25) (w := r 18) (a := r 19) (sa := r 26) (df := rf3 r 16 2 2) (fun h9 => by have h8 := ix_in h9; rw [e] at h8; exact (congrArg (rf3 r 16 2 2) h8.symm).trans rfl) h0) rfl rfl rfl rfl (by decide) ?_
    rintro o w hp
    cases x0 with
    | inl z =>
      obtain ⟨g, e1, e2⟩ := PX.inl hp
      subst e1; subst e2
      exact ⟨_, [20, 0, 1, 2, 3, 4, 5, 6, 7, 8, 9, 10, 11, 12, 13, 21, 14, 15, 22, 23, 24, 16, 17, 18, 19, 25, 26], PX.mk g rfl rfl, rfl, rfl⟩
    | inr E =>
      obtain ⟨e1, e2⟩ := PX.inr hp
      subst e1; subst e2
      exact ⟨_, [20, 0, 1, 2, 3, 4, 5, 6, 7, 8, 9, 10, 11, 12, 13, 21, 14, 15, 22, 23, 24, 16, 17, 18, 19, 25, 26], PX.er, rfl, rfl⟩
def gX_copyDesk (N K : Nat) (S : CS) (p0 : Int32) : Option ((Int32 × CS) ⊕ String) := (fX5_copyDesk N K (S.2.2.1 (ix 2 p0)) (S.2.2.1 (1 - ix 2 p0)) (S.2.2.2.1 0) (S.2.2.2.1 1) (S.2.2.2.1 2) (S.2.2.2.1 3) (S.2.2.2.1 4) (S.2.2.2.1 5) p0).map (fun o => match o with | .inl z => .inl (z.1, (S.1, S.2.1, (upm S.2.2.1 (1 - ix 2 p0) z.2.1), (upm S.2.2.2.1 0 z.2.2), S.2.2.2.2.1, S.2.2.2.2.2.1, S.2.2.2.2.2.2)) | .inr E => .inr E)
set_option maxHeartbeats 4000000 in
set_option maxRecDepth 100000 in
theorem ogX_copyDesk {N K : Nat} {r : Nat → Nat} {S : CS} {p0 : Int32} {x : (Int32 × CS) ⊕ String} (hE : gX_copyDesk N K S p0 = some x) : OkM yX5_copyDesk (.code yX5_copyDesk cX5_copyDesk 3 (some .int)) (9) 2 12 [.ref (r 0), .int p0] (WX r S) ((PX (U := Int32 × CS) (fun z _ => some (.int z.1)) (fun z _ => WX r z.2) (WX r S)) x) := by
  unfold gX_copyDesk at hE
  obtain ⟨x0, h0, h1⟩ := Option.map_eq_some_iff.mp hE
  subst h1
  clear hE
  rcases lt2 (ix_lt (n := 2) (p := p0) (by decide)) with e | e
  · rw [e] at h0
    try rw [e]
    refine ok_fr (wc := [(r 0, .inr (7, [.ref (r 1), .ref (r 8), .ref (r 15), .ref (r 20), .ref (r 21), .ref (r 23), .ref (r 25)])), (r 15, .inl (3, 2, .inr (.inr (.inr (.inr (rf3 r 16 2 2)))))), (r 16, .inr (6, [.ref (r 17)])), (r 17, .inl (0, 21, .inl (S.2.2.1 0))), (r 18, .inr (6, [.ref (r 19)])), (r 19, .inl (0, 21, .inl (S.2.2.1 1))), (r 20, .inr (2, [.int (S.2.2.2.1 0), .int (S.2.2.2.1 1), .int (S.2.2.2.1 2), .int (S.2.2.2.1 3), .int (S.2.2.2.1 4), .int (S.2.2.2.1 5)]))]) (wr := [(r 1, .inl (1, 3, .inr (.inr (.inr (.inr (rf3 r 2 2 3)))))), (r 2, .inr (4, [.ref (r 3), .int (S.1 0).1])), (r 3, .inl (0, 2646, .inl (S.1 0).2)), (r 4, .inr (4, [.ref (r 5), .int (S.1 1).1])), (r 5, .inl (0, 2646, .inl (S.1 1).2)), (r 6, .inr (4, [.ref (r 7), .int (S.1 2).1])), (r 7, .inl (0, 2646, .inl (S.1 2).2)), (r 8, .inl (2, 3, .inr (.inr (.inr (.inr (rf3 r 9 2 3)))))), (r 9, .inr (3, [.int (S.2.1 0).1, .ref (r 10), .int (S.2.1 0).2.1])), (r 10, .inl (0, 21, .inl (S.2.1 0).2.2)), (r 11, .inr (3, [.int (S.2.1 1).1, .ref (r 12), .int (S.2.1 1).2.1])), (r 12, .inl (0, 21, .inl (S.2.1 1).2.2)), (r 13, .inr (3, [.int (S.2.1 2).1, .ref (r 14), .int (S.2.1 2).2.1])), (r 14, .inl (0, 21, .inl (S.2.1 2).2.2)), (r 21, .inr (5, [.ref (r 22)])), (r 22, .inl (0, 21, .inl S.2.2.2.2.1)), (r 23, .inr (6, [.ref (r 24)])), (r 24, .inl (0, 21, .inl S.2.2.2.2.2.1)), (r 25, .inr (6, [.ref (r 26)])), (r 26, .inl (0, 21, .inl S.2.2.2.2.2.2))]) [0, 15, 16, 17, 18, 19, 20] [1, 2, 3, 4, 5, 6, 7, 8, 9, 10, 11, 12, 13, 14, 21, 22, 23, 24, 25, 26] (ok_X5_copyDesk (x := r 0) (M := r 1) (L := r 8) (Dk := r 15) (c := r 20) (se := r 21) (wk := r 23) (sp := r 25) (w := r 16) (a := r 17) (v := r 18) (b := r 19) (df := rf3 r 16 2 2) (fun h9 => by have h8 := ix_in h9; rw [e] at h8; exact (congrArg (rf3 r 16 2 2) h8.symm).trans rfl) (fun h9 => by have h8 := ix_other h9; rw [e] at h8; exact (congrArg (rf3 r 16 2 2) h8).trans rfl) h0) rfl rfl rfl rfl (by decide) ?_
    rintro o w hp
    cases x0 with
    | inl z =>
      obtain ⟨g, e1, e2⟩ := PX.inl hp
      subst e1; subst e2
      exact ⟨_, [20, 0, 1, 2, 3, 4, 5, 6, 7, 8, 9, 10, 11, 12, 13, 21, 22, 23, 24, 25, 26, 14, 15, 16, 17, 18, 19], PX.mk g rfl rfl, rfl, rfl⟩
    | inr E =>
      obtain ⟨e1, e2⟩ := PX.inr hp
      subst e1; subst e2
      exact ⟨_, [20, 0, 1, 2, 3, 4, 5, 6, 7, 8, 9, 10, 11, 12, 13, 21, 22, 23, 24, 25, 26, 14, 15, 16, 17, 18, 19], PX.er, rfl, rfl⟩
  · rw [e] at h0
    try rw [e]
    refine ok_fr (wc := [(r 0, .inr (7, [.ref (r 1), .ref (r 8), .ref (r 15), .ref (r 20), .ref (r 21), .ref (r 23), .ref (r 25)])), (r 15, .inl (3, 2, .inr (.inr (.inr (.inr (rf3 r 16 2 2)))))), (r 18, .inr (6, [.ref (r 19)])), (r 19, .inl (0, 21, .inl (S.2.2.1 1))), (r 16, .inr (6, [.ref (r 17)])), (r 17, .inl (0, 21, .inl (S.2.2.1 0))), (r 20, .inr (2, [.int (S.2.2.2.1 0), .int (S.2.2.2.1 1), .int (S.2.2.2.1 2), .int (S.2.2.2.1 3), .int (S.2.2.2.1 4), .int (S.2.2.2.1 5)]))]) (wr := [(r 1, .inl (1, 3, .inr (.inr (.inr (.inr (rf3 r 2 2 3)))))), (r 2, .inr (4, [.ref (r 3), .int (S.1 0).1])), (r 3, .inl (0, 2646, .inl (S.1 0).2)), (r 4, .inr (4, [.ref (r 5), .int (S.1 1).1])), (r 5, .inl (0, 2646, .inl (S.1 1).2)), (r 6, .inr (4, [.ref (r 7), .int (S.1 2).1])), (r 7, .inl (0, 2646, .inl (S.1 2).2)), (r 8, .inl (2, 3, .inr (.inr (.inr (.inr (rf3 r 9 2 3)))))), (r 9, .inr (3, [.int (S.2.1 0).1, .ref (r 10), .int (S.2.1 0).2.1])), (r 10, .inl (0, 21, .inl (S.2.1 0).2.2)), (r 11, .inr (3, [.int (S.2.1 1).1, .ref (r 12), .int (S.2.1 1).2.1])), (r 12, .inl (0, 21, .inl (S.2.1 1).2.2)), (r 13, .inr (3, [.int (S.2.1 2).1, .ref (r 14), .int (S.2.1 2).2.1])), (r 14, .inl (0, 21, .inl (S.2.1 2).2.2)), (r 21, .inr (5, [.ref (r 22)])), (r 22, .inl (0, 21, .inl S.2.2.2.2.1)), (r 23, .inr (6, [.ref (r 24)])), (r 24, .inl (0, 21, .inl S.2.2.2.2.2.1)), (r 25, .inr (6, [.ref (r 26)])), (r 26, .inl (0, 21, .inl S.2.2.2.2.2.2))]) [0, 15, 18, 19, 16, 17, 20] [1, 2, 3, 4, 5, 6, 7, 8, 9, 10, 11, 12, 13, 14, 21, 22, 23, 24, 25, 26] (ok_X5_copyDesk (x := r 0) (M := r 1) (L := r 8) (Dk := r 15) (c := r 20) (se := r 21) (wk := r 23) (sp := r 25) (w := r 18) (a := r 19) (v := r 16) (b := r 17) (df := rf3 r 16 2 2) (fun h9 => by have h8 := ix_in h9; rw [e] at h8; exact (congrArg (rf3 r 16 2 2) h8.symm).trans rfl) (fun h9 => by have h8 := ix_other h9; rw [e] at h8; exact (congrArg (rf3 r 16 2 2) h8).trans rfl) h0) rfl rfl rfl rfl (by decide) ?_
    rintro o w hp
    cases x0 with
    | inl z =>
      obtain ⟨g, e1, e2⟩ := PX.inl hp
      subst e1; subst e2
      exact ⟨_, [20, 0, 1, 2, 3, 4, 5, 6, 7, 8, 9, 10, 11, 12, 13, 21, 24, 25, 22, 23, 26, 14, 15, 16, 17, 18, 19], PX.mk g rfl rfl, rfl, rfl⟩
    | inr E =>
      obtain ⟨e1, e2⟩ := PX.inr hp
      subst e1; subst e2
      exact ⟨_, [20, 0, 1, 2, 3, 4, 5, 6, 7, 8, 9, 10, 11, 12, 13, 21, 24, 25, 22, 23, 26, 14, 15, 16, 17, 18, 19], PX.er, rfl, rfl⟩
def gX_times (N K : Nat) (S : CS) (p0 : Int32) (p1 : Int32) : Option ((Int32 × CS) ⊕ String) := (fX5_times N K (S.2.2.1 (ix 2 p0)) p0 p1).map (fun o => match o with | .inl z => .inl (z, (S.1, S.2.1, S.2.2.1, S.2.2.2.1, S.2.2.2.2.1, S.2.2.2.2.2.1, S.2.2.2.2.2.2)) | .inr E => .inr E)
set_option maxHeartbeats 4000000 in
set_option maxRecDepth 100000 in
theorem ogX_times {N K : Nat} {r : Nat → Nat} {S : CS} {p0 : Int32} {p1 : Int32} {x : (Int32 × CS) ⊕ String} (hE : gX_times N K S p0 p1 = some x) : OkM yX5_times (.code yX5_times cX5_times 4 (some .int)) (9) 2 12 [.ref (r 0), .int p0, .int p1] (WX r S) ((PX (U := Int32 × CS) (fun z _ => some (.int z.1)) (fun z _ => WX r z.2) (WX r S)) x) := by
  unfold gX_times at hE
  obtain ⟨x0, h0, h1⟩ := Option.map_eq_some_iff.mp hE
  subst h1
  clear hE
  rcases lt2 (ix_lt (n := 2) (p := p0) (by decide)) with e | e
  · rw [e] at h0
    try rw [e]
    refine ok_fr (wc := [(r 0, .inr (7, [.ref (r 1), .ref (r 8), .ref (r 15), .ref (r 20), .ref (r 21), .ref (r 23), .ref (r 25)])), (r 15, .inl (3, 2, .inr (.inr (.inr (.inr (rf3 r 16 2 2)))))), (r 16, .inr (6, [.ref (r 17)])), (r 17, .inl (0, 21, .inl (S.2.2.1 0)))]) (wr := [(r 1, .inl (1, 3, .inr (.inr (.inr (.inr (rf3 r 2 2 3)))))), (r 2, .inr (4, [.ref (r 3), .int (S.1 0).1])), (r 3, .inl (0, 2646, .inl (S.1 0).2)), (r 4, .inr (4, [.ref (r 5), .int (S.1 1).1])), (r 5, .inl (0, 2646, .inl (S.1 1).2)), (r 6, .inr (4, [.ref (r 7), .int (S.1 2).1])), (r 7, .inl (0, 2646, .inl (S.1 2).2)), (r 8, .inl (2, 3, .inr (.inr (.inr (.inr (rf3 r 9 2 3)))))), (r 9, .inr (3, [.int (S.2.1 0).1, .ref (r 10), .int (S.2.1 0).2.1])), (r 10, .inl (0, 21, .inl (S.2.1 0).2.2)), (r 11, .inr (3, [.int (S.2.1 1).1, .ref (r 12), .int (S.2.1 1).2.1])), (r 12, .inl (0, 21, .inl (S.2.1 1).2.2)), (r 13, .inr (3, [.int (S.2.1 2).1, .ref (r 14), .int (S.2.1 2).2.1])), (r 14, .inl (0, 21, .inl (S.2.1 2).2.2)), (r 18, .inr (6, [.ref (r 19)])), (r 19, .inl (0, 21, .inl (S.2.2.1 1))), (r 20, .inr (2, [.int (S.2.2.2.1 0), .int (S.2.2.2.1 1), .int (S.2.2.2.1 2), .int (S.2.2.2.1 3), .int (S.2.2.2.1 4), .int (S.2.2.2.1 5)])), (r 21, .inr (5, [.ref (r 22)])), (r 22, .inl (0, 21, .inl S.2.2.2.2.1)), (r 23, .inr (6, [.ref (r 24)])), (r 24, .inl (0, 21, .inl S.2.2.2.2.2.1)), (r 25, .inr (6, [.ref (r 26)])), (r 26, .inl (0, 21, .inl S.2.2.2.2.2.2))]) [0, 15, 16, 17] [1, 2, 3, 4, 5, 6, 7, 8, 9, 10, 11, 12, 13, 14, 18, 19, 20, 21, 22, 23, 24, 25, 26] (ok_X5_times (x := r 0) (M := r 1) (L := r 8) (Dk := r 15) (c := r 20) (se := r 21) (wk := r 23) (sp := r 25) (w := r 16) (a := r 17) (df := rf3 r 16 2 2) (fun h9 => by have h8 := ix_in h9; rw [e] at h8; exact (congrArg (rf3 r 16 2 2) h8.symm).trans rfl) h0) rfl rfl rfl rfl (by decide) ?_
    rintro o w hp
    cases x0 with
    | inl z =>
      obtain ⟨g, e1, e2⟩ := PX.inl hp
      subst e1; subst e2
      exact ⟨_, [23, 0, 1, 2, 3, 4, 5, 6, 7, 8, 9, 10, 11, 12, 13, 24, 25, 26, 14, 15, 16, 17, 18, 19, 20, 21, 22], PX.mk g rfl rfl, rfl, rfl⟩
    | inr E =>
      obtain ⟨e1, e2⟩ := PX.inr hp
      subst e1; subst e2
      exact ⟨_, [23, 0, 1, 2, 3, 4, 5, 6, 7, 8, 9, 10, 11, 12, 13, 24, 25, 26, 14, 15, 16, 17, 18, 19, 20, 21, 22], PX.er, rfl, rfl⟩
  · rw [e] at h0
    try rw [e]
    refine ok_fr (wc := [(r 0, .inr (7, [.ref (r 1), .ref (r 8), .ref (r 15), .ref (r 20), .ref (r 21), .ref (r 23), .ref (r 25)])), (r 15, .inl (3, 2, .inr (.inr (.inr (.inr (rf3 r 16 2 2)))))), (r 18, .inr (6, [.ref (r 19)])), (r 19, .inl (0, 21, .inl (S.2.2.1 1)))]) (wr := [(r 1, .inl (1, 3, .inr (.inr (.inr (.inr (rf3 r 2 2 3)))))), (r 2, .inr (4, [.ref (r 3), .int (S.1 0).1])), (r 3, .inl (0, 2646, .inl (S.1 0).2)), (r 4, .inr (4, [.ref (r 5), .int (S.1 1).1])), (r 5, .inl (0, 2646, .inl (S.1 1).2)), (r 6, .inr (4, [.ref (r 7), .int (S.1 2).1])), (r 7, .inl (0, 2646, .inl (S.1 2).2)), (r 8, .inl (2, 3, .inr (.inr (.inr (.inr (rf3 r 9 2 3)))))), (r 9, .inr (3, [.int (S.2.1 0).1, .ref (r 10), .int (S.2.1 0).2.1])), (r 10, .inl (0, 21, .inl (S.2.1 0).2.2)), (r 11, .inr (3, [.int (S.2.1 1).1, .ref (r 12), .int (S.2.1 1).2.1])), (r 12, .inl (0, 21, .inl (S.2.1 1).2.2)), (r 13, .inr (3, [.int (S.2.1 2).1, .ref (r 14), .int (S.2.1 2).2.1])), (r 14, .inl (0, 21, .inl (S.2.1 2).2.2)), (r 16, .inr (6, [.ref (r 17)])), (r 17, .inl (0, 21, .inl (S.2.2.1 0))), (r 20, .inr (2, [.int (S.2.2.2.1 0), .int (S.2.2.2.1 1), .int (S.2.2.2.1 2), .int (S.2.2.2.1 3), .int (S.2.2.2.1 4), .int (S.2.2.2.1 5)])), (r 21, .inr (5, [.ref (r 22)])), (r 22, .inl (0, 21, .inl S.2.2.2.2.1)), (r 23, .inr (6, [.ref (r 24)])), (r 24, .inl (0, 21, .inl S.2.2.2.2.2.1)), (r 25, .inr (6, [.ref (r 26)])), (r 26, .inl (0, 21, .inl S.2.2.2.2.2.2))]) [0, 15, 18, 19] [1, 2, 3, 4, 5, 6, 7, 8, 9, 10, 11, 12, 13, 14, 16, 17, 20, 21, 22, 23, 24, 25, 26] (ok_X5_times (x := r 0) (M := r 1) (L := r 8) (Dk := r 15) (c := r 20) (se := r 21) (wk := r 23) (sp := r 25) (w := r 18) (a := r 19) (df := rf3 r 16 2 2) (fun h9 => by have h8 := ix_in h9; rw [e] at h8; exact (congrArg (rf3 r 16 2 2) h8.symm).trans rfl) h0) rfl rfl rfl rfl (by decide) ?_
    rintro o w hp
    cases x0 with
    | inl z =>
      obtain ⟨g, e1, e2⟩ := PX.inl hp
      subst e1; subst e2
      exact ⟨_, [23, 0, 1, 2, 3, 4, 5, 6, 7, 8, 9, 10, 11, 12, 13, 24, 14, 15, 25, 26, 16, 17, 18, 19, 20, 21, 22], PX.mk g rfl rfl, rfl, rfl⟩
    | inr E =>
      obtain ⟨e1, e2⟩ := PX.inr hp
      subst e1; subst e2
      exact ⟨_, [23, 0, 1, 2, 3, 4, 5, 6, 7, 8, 9, 10, 11, 12, 13, 24, 14, 15, 25, 26, 16, 17, 18, 19, 20, 21, 22], PX.er, rfl, rfl⟩
def gX_way (N K : Nat) (S : CS) (p0 : Int32) (p1 : Int32) : Option ((Int32 × CS) ⊕ String) := (fX5_way N K (S.2.2.1 (ix 2 p0)) p0 p1).map (fun o => match o with | .inl z => .inl (z, (S.1, S.2.1, S.2.2.1, S.2.2.2.1, S.2.2.2.2.1, S.2.2.2.2.2.1, S.2.2.2.2.2.2)) | .inr E => .inr E)
set_option maxHeartbeats 4000000 in
set_option maxRecDepth 100000 in
theorem ogX_way {N K : Nat} {r : Nat → Nat} {S : CS} {p0 : Int32} {p1 : Int32} {x : (Int32 × CS) ⊕ String} (hE : gX_way N K S p0 p1 = some x) : OkM yX5_way (.code yX5_way cX5_way 4 (some .int)) (9) 2 12 [.ref (r 0), .int p0, .int p1] (WX r S) ((PX (U := Int32 × CS) (fun z _ => some (.int z.1)) (fun z _ => WX r z.2) (WX r S)) x) := by
  unfold gX_way at hE
  obtain ⟨x0, h0, h1⟩ := Option.map_eq_some_iff.mp hE
  subst h1
  clear hE
  rcases lt2 (ix_lt (n := 2) (p := p0) (by decide)) with e | e
  · rw [e] at h0
    try rw [e]
    refine ok_fr (wc := [(r 0, .inr (7, [.ref (r 1), .ref (r 8), .ref (r 15), .ref (r 20), .ref (r 21), .ref (r 23), .ref (r 25)])), (r 15, .inl (3, 2, .inr (.inr (.inr (.inr (rf3 r 16 2 2)))))), (r 16, .inr (6, [.ref (r 17)])), (r 17, .inl (0, 21, .inl (S.2.2.1 0)))]) (wr := [(r 1, .inl (1, 3, .inr (.inr (.inr (.inr (rf3 r 2 2 3)))))), (r 2, .inr (4, [.ref (r 3), .int (S.1 0).1])), (r 3, .inl (0, 2646, .inl (S.1 0).2)), (r 4, .inr (4, [.ref (r 5), .int (S.1 1).1])), (r 5, .inl (0, 2646, .inl (S.1 1).2)), (r 6, .inr (4, [.ref (r 7), .int (S.1 2).1])), (r 7, .inl (0, 2646, .inl (S.1 2).2)), (r 8, .inl (2, 3, .inr (.inr (.inr (.inr (rf3 r 9 2 3)))))), (r 9, .inr (3, [.int (S.2.1 0).1, .ref (r 10), .int (S.2.1 0).2.1])), (r 10, .inl (0, 21, .inl (S.2.1 0).2.2)), (r 11, .inr (3, [.int (S.2.1 1).1, .ref (r 12), .int (S.2.1 1).2.1])), (r 12, .inl (0, 21, .inl (S.2.1 1).2.2)), (r 13, .inr (3, [.int (S.2.1 2).1, .ref (r 14), .int (S.2.1 2).2.1])), (r 14, .inl (0, 21, .inl (S.2.1 2).2.2)), (r 18, .inr (6, [.ref (r 19)])), (r 19, .inl (0, 21, .inl (S.2.2.1 1))), (r 20, .inr (2, [.int (S.2.2.2.1 0), .int (S.2.2.2.1 1), .int (S.2.2.2.1 2), .int (S.2.2.2.1 3), .int (S.2.2.2.1 4), .int (S.2.2.2.1 5)])), (r 21, .inr (5, [.ref (r 22)])), (r 22, .inl (0, 21, .inl S.2.2.2.2.1)), (r 23, .inr (6, [.ref (r 24)])), (r 24, .inl (0, 21, .inl S.2.2.2.2.2.1)), (r 25, .inr (6, [.ref (r 26)])), (r 26, .inl (0, 21, .inl S.2.2.2.2.2.2))]) [0, 15, 16, 17] [1, 2, 3, 4, 5, 6, 7, 8, 9, 10, 11, 12, 13, 14, 18, 19, 20, 21, 22, 23, 24, 25, 26] (ok_X5_way (x := r 0) (M := r 1) (L := r 8) (Dk := r 15) (c := r 20) (se := r 21) (wk := r 23) (sp := r 25) (w := r 16) (a := r 17) (df := rf3 r 16 2 2) (fun h9 => by have h8 := ix_in h9; rw [e] at h8; exact (congrArg (rf3 r 16 2 2) h8.symm).trans rfl) h0) rfl rfl rfl rfl (by decide) ?_
    rintro o w hp
    cases x0 with
    | inl z =>
      obtain ⟨g, e1, e2⟩ := PX.inl hp
      subst e1; subst e2
      exact ⟨_, [23, 0, 1, 2, 3, 4, 5, 6, 7, 8, 9, 10, 11, 12, 13, 24, 25, 26, 14, 15, 16, 17, 18, 19, 20, 21, 22], PX.mk g rfl rfl, rfl, rfl⟩
    | inr E =>
      obtain ⟨e1, e2⟩ := PX.inr hp
      subst e1; subst e2
      exact ⟨_, [23, 0, 1, 2, 3, 4, 5, 6, 7, 8, 9, 10, 11, 12, 13, 24, 25, 26, 14, 15, 16, 17, 18, 19, 20, 21, 22], PX.er, rfl, rfl⟩
  · rw [e] at h0
    try rw [e]
    refine ok_fr (wc := [(r 0, .inr (7, [.ref (r 1), .ref (r 8), .ref (r 15), .ref (r 20), .ref (r 21), .ref (r 23), .ref (r 25)])), (r 15, .inl (3, 2, .inr (.inr (.inr (.inr (rf3 r 16 2 2)))))), (r 18, .inr (6, [.ref (r 19)])), (r 19, .inl (0, 21, .inl (S.2.2.1 1)))]) (wr := [(r 1, .inl (1, 3, .inr (.inr (.inr (.inr (rf3 r 2 2 3)))))), (r 2, .inr (4, [.ref (r 3), .int (S.1 0).1])), (r 3, .inl (0, 2646, .inl (S.1 0).2)), (r 4, .inr (4, [.ref (r 5), .int (S.1 1).1])), (r 5, .inl (0, 2646, .inl (S.1 1).2)), (r 6, .inr (4, [.ref (r 7), .int (S.1 2).1])), (r 7, .inl (0, 2646, .inl (S.1 2).2)), (r 8, .inl (2, 3, .inr (.inr (.inr (.inr (rf3 r 9 2 3)))))), (r 9, .inr (3, [.int (S.2.1 0).1, .ref (r 10), .int (S.2.1 0).2.1])), (r 10, .inl (0, 21, .inl (S.2.1 0).2.2)), (r 11, .inr (3, [.int (S.2.1 1).1, .ref (r 12), .int (S.2.1 1).2.1])), (r 12, .inl (0, 21, .inl (S.2.1 1).2.2)), (r 13, .inr (3, [.int (S.2.1 2).1, .ref (r 14), .int (S.2.1 2).2.1])), (r 14, .inl (0, 21, .inl (S.2.1 2).2.2)), (r 16, .inr (6, [.ref (r 17)])), (r 17, .inl (0, 21, .inl (S.2.2.1 0))), (r 20, .inr (2, [.int (S.2.2.2.1 0), .int (S.2.2.2.1 1), .int (S.2.2.2.1 2), .int (S.2.2.2.1 3), .int (S.2.2.2.1 4), .int (S.2.2.2.1 5)])), (r 21, .inr (5, [.ref (r 22)])), (r 22, .inl (0, 21, .inl S.2.2.2.2.1)), (r 23, .inr (6, [.ref (r 24)])), (r 24, .inl (0, 21, .inl S.2.2.2.2.2.1)), (r 25, .inr (6, [.ref (r 26)])), (r 26, .inl (0, 21, .inl S.2.2.2.2.2.2))]) [0, 15, 18, 19] [1, 2, 3, 4, 5, 6, 7, 8, 9, 10, 11, 12, 13, 14, 16, 17, 20, 21, 22, 23, 24, 25, 26] (ok_X5_way (x := r 0) (M := r 1) (L := r 8) (Dk := r 15) (c := r 20) (se := r 21) (wk := r 23) (sp := r 25) (w := r 18) (a := r 19) (df := rf3 r 16 2 2) (fun h9 => by have h8 := ix_in h9; rw [e] at h8; exact (congrArg (rf3 r 16 2 2) h8.symm).trans rfl) h0) rfl rfl rfl rfl (by decide) ?_
    rintro o w hp
    cases x0 with
    | inl z =>
      obtain ⟨g, e1, e2⟩ := PX.inl hp
      subst e1; subst e2
      exact ⟨_, [23, 0, 1, 2, 3, 4, 5, 6, 7, 8, 9, 10, 11, 12, 13, 24, 14, 15, 25, 26, 16, 17, 18, 19, 20, 21, 22], PX.mk g rfl rfl, rfl, rfl⟩
    | inr E =>
      obtain ⟨e1, e2⟩ := PX.inr hp
      subst e1; subst e2
      exact ⟨_, [23, 0, 1, 2, 3, 4, 5, 6, 7, 8, 9, 10, 11, 12, 13, 24, 14, 15, 25, 26, 16, 17, 18, 19, 20, 21, 22], PX.er, rfl, rfl⟩
def gX_wayText (N K : Nat) (S : CS) (p0 : Int32) : Option ((CS) ⊕ String) := (fX5_wayText N K (S.2.2.1 (ix 2 p0)) p0).map (fun o => match o with | .inl z => .inl (S.1, S.2.1, S.2.2.1, S.2.2.2.1, S.2.2.2.2.1, S.2.2.2.2.2.1, S.2.2.2.2.2.2) | .inr E => .inr E)
set_option maxHeartbeats 4000000 in
set_option maxRecDepth 100000 in
theorem ogX_wayText {N K : Nat} {r : Nat → Nat} {S : CS} {p0 : Int32} {x : (CS) ⊕ String} (hE : gX_wayText N K S p0 = some x) : OkM yX5_wayText (.code yX5_wayText cX5_wayText 2 (some (.object "java/lang/String"))) (9) 111 8006 [.ref (r 0), .int p0] (WX r S) ((PX (U := CS) (fun _ g => some (.ref (g 0))) (fun z _ => WX r z) (WX r S)) x) := by
  unfold gX_wayText at hE
  obtain ⟨x0, h0, h1⟩ := Option.map_eq_some_iff.mp hE
  subst h1
  clear hE
  rcases lt2 (ix_lt (n := 2) (p := p0) (by decide)) with e | e
  · rw [e] at h0
    try rw [e]
    refine ok_fr (wc := [(r 0, .inr (7, [.ref (r 1), .ref (r 8), .ref (r 15), .ref (r 20), .ref (r 21), .ref (r 23), .ref (r 25)])), (r 15, .inl (3, 2, .inr (.inr (.inr (.inr (rf3 r 16 2 2)))))), (r 16, .inr (6, [.ref (r 17)])), (r 17, .inl (0, 21, .inl (S.2.2.1 0)))]) (wr := [(r 1, .inl (1, 3, .inr (.inr (.inr (.inr (rf3 r 2 2 3)))))), (r 2, .inr (4, [.ref (r 3), .int (S.1 0).1])), (r 3, .inl (0, 2646, .inl (S.1 0).2)), (r 4, .inr (4, [.ref (r 5), .int (S.1 1).1])), (r 5, .inl (0, 2646, .inl (S.1 1).2)), (r 6, .inr (4, [.ref (r 7), .int (S.1 2).1])), (r 7, .inl (0, 2646, .inl (S.1 2).2)), (r 8, .inl (2, 3, .inr (.inr (.inr (.inr (rf3 r 9 2 3)))))), (r 9, .inr (3, [.int (S.2.1 0).1, .ref (r 10), .int (S.2.1 0).2.1])), (r 10, .inl (0, 21, .inl (S.2.1 0).2.2)), (r 11, .inr (3, [.int (S.2.1 1).1, .ref (r 12), .int (S.2.1 1).2.1])), (r 12, .inl (0, 21, .inl (S.2.1 1).2.2)), (r 13, .inr (3, [.int (S.2.1 2).1, .ref (r 14), .int (S.2.1 2).2.1])), (r 14, .inl (0, 21, .inl (S.2.1 2).2.2)), (r 18, .inr (6, [.ref (r 19)])), (r 19, .inl (0, 21, .inl (S.2.2.1 1))), (r 20, .inr (2, [.int (S.2.2.2.1 0), .int (S.2.2.2.1 1), .int (S.2.2.2.1 2), .int (S.2.2.2.1 3), .int (S.2.2.2.1 4), .int (S.2.2.2.1 5)])), (r 21, .inr (5, [.ref (r 22)])), (r 22, .inl (0, 21, .inl S.2.2.2.2.1)), (r 23, .inr (6, [.ref (r 24)])), (r 24, .inl (0, 21, .inl S.2.2.2.2.2.1)), (r 25, .inr (6, [.ref (r 26)])), (r 26, .inl (0, 21, .inl S.2.2.2.2.2.2))]) [0, 15, 16, 17] [1, 2, 3, 4, 5, 6, 7, 8, 9, 10, 11, 12, 13, 14, 18, 19, 20, 21, 22, 23, 24, 25, 26] (ok_X5_wayText (x := r 0) (M := r 1) (L := r 8) (Dk := r 15) (c := r 20) (se := r 21) (wk := r 23) (sp := r 25) (w := r 16) (a := r 17) (df := rf3 r 16 2 2) (fun h9 => by have h8 := ix_in h9; rw [e] at h8; exact (congrArg (rf3 r 16 2 2) h8.symm).trans rfl) h0) rfl rfl rfl rfl (by decide) ?_
    rintro o w hp
    cases x0 with
    | inl z =>
      obtain ⟨g, e1, e2⟩ := PX.inl hp
      subst e1; subst e2
      exact ⟨_, [23, 0, 1, 2, 3, 4, 5, 6, 7, 8, 9, 10, 11, 12, 13, 24, 25, 26, 14, 15, 16, 17, 18, 19, 20, 21, 22], PX.mk g rfl rfl, rfl, rfl⟩
    | inr E =>
      obtain ⟨e1, e2⟩ := PX.inr hp
      subst e1; subst e2
      exact ⟨_, [23, 0, 1, 2, 3, 4, 5, 6, 7, 8, 9, 10, 11, 12, 13, 24, 25, 26, 14, 15, 16, 17, 18, 19, 20, 21, 22], PX.er, rfl, rfl⟩
  · rw [e] at h0
    try rw [e]
    refine ok_fr (wc := [(r 0, .inr (7, [.ref (r 1), .ref (r 8), .ref (r 15), .ref (r 20), .ref (r 21), .ref (r 23), .ref (r 25)])), (r 15, .inl (3, 2, .inr (.inr (.inr (.inr (rf3 r 16 2 2)))))), (r 18, .inr (6, [.ref (r 19)])), (r 19, .inl (0, 21, .inl (S.2.2.1 1)))]) (wr := [(r 1, .inl (1, 3, .inr (.inr (.inr (.inr (rf3 r 2 2 3)))))), (r 2, .inr (4, [.ref (r 3), .int (S.1 0).1])), (r 3, .inl (0, 2646, .inl (S.1 0).2)), (r 4, .inr (4, [.ref (r 5), .int (S.1 1).1])), (r 5, .inl (0, 2646, .inl (S.1 1).2)), (r 6, .inr (4, [.ref (r 7), .int (S.1 2).1])), (r 7, .inl (0, 2646, .inl (S.1 2).2)), (r 8, .inl (2, 3, .inr (.inr (.inr (.inr (rf3 r 9 2 3)))))), (r 9, .inr (3, [.int (S.2.1 0).1, .ref (r 10), .int (S.2.1 0).2.1])), (r 10, .inl (0, 21, .inl (S.2.1 0).2.2)), (r 11, .inr (3, [.int (S.2.1 1).1, .ref (r 12), .int (S.2.1 1).2.1])), (r 12, .inl (0, 21, .inl (S.2.1 1).2.2)), (r 13, .inr (3, [.int (S.2.1 2).1, .ref (r 14), .int (S.2.1 2).2.1])), (r 14, .inl (0, 21, .inl (S.2.1 2).2.2)), (r 16, .inr (6, [.ref (r 17)])), (r 17, .inl (0, 21, .inl (S.2.2.1 0))), (r 20, .inr (2, [.int (S.2.2.2.1 0), .int (S.2.2.2.1 1), .int (S.2.2.2.1 2), .int (S.2.2.2.1 3), .int (S.2.2.2.1 4), .int (S.2.2.2.1 5)])), (r 21, .inr (5, [.ref (r 22)])), (r 22, .inl (0, 21, .inl S.2.2.2.2.1)), (r 23, .inr (6, [.ref (r 24)])), (r 24, .inl (0, 21, .inl S.2.2.2.2.2.1)), (r 25, .inr (6, [.ref (r 26)])), (r 26, .inl (0, 21, .inl S.2.2.2.2.2.2))]) [0, 15, 18, 19] [1, 2, 3, 4, 5, 6, 7, 8, 9, 10, 11, 12, 13, 14, 16, 17, 20, 21, 22, 23, 24, 25, 26] (ok_X5_wayText (x := r 0) (M := r 1) (L := r 8) (Dk := r 15) (c := r 20) (se := r 21) (wk := r 23) (sp := r 25) (w := r 18) (a := r 19) (df := rf3 r 16 2 2) (fun h9 => by have h8 := ix_in h9; rw [e] at h8; exact (congrArg (rf3 r 16 2 2) h8.symm).trans rfl) h0) rfl rfl rfl rfl (by decide) ?_
    rintro o w hp
    cases x0 with
    | inl z =>
      obtain ⟨g, e1, e2⟩ := PX.inl hp
      subst e1; subst e2
      exact ⟨_, [23, 0, 1, 2, 3, 4, 5, 6, 7, 8, 9, 10, 11, 12, 13, 24, 14, 15, 25, 26, 16, 17, 18, 19, 20, 21, 22], PX.mk g rfl rfl, rfl, rfl⟩
    | inr E =>
      obtain ⟨e1, e2⟩ := PX.inr hp
      subst e1; subst e2
      exact ⟨_, [23, 0, 1, 2, 3, 4, 5, 6, 7, 8, 9, 10, 11, 12, 13, 24, 14, 15, 25, 26, 16, 17, 18, 19, 20, 21, 22], PX.er, rfl, rfl⟩
def gX_isOf (N K : Nat) (S : CS) (p0 : Int32) (p1 : Int32) (p2 : Int32) : Option ((Int32 × CS) ⊕ String) := (fX5_isOf N K (S.2.2.1 (ix 2 p0)) S.2.2.2.2.2.2 p0 p1 p2).map (fun o => match o with | .inl z => .inl (z.1, (S.1, S.2.1, S.2.2.1, S.2.2.2.1, S.2.2.2.2.1, S.2.2.2.2.2.1, z.2)) | .inr E => .inr E)
set_option maxHeartbeats 4000000 in
set_option maxRecDepth 100000 in
theorem ogX_isOf {N K : Nat} {r : Nat → Nat} {S : CS} {p0 : Int32} {p1 : Int32} {p2 : Int32} {x : (Int32 × CS) ⊕ String} (hE : gX_isOf N K S p0 p1 p2 = some x) : OkM yX5_isOf (.code yX5_isOf cX5_isOf 5 (some .boolean)) (9) 3 18 [.ref (r 0), .int p0, .int p1, .int p2] (WX r S) ((PX (U := Int32 × CS) (fun z _ => some (.int z.1)) (fun z _ => WX r z.2) (WX r S)) x) := by
  unfold gX_isOf at hE
  obtain ⟨x0, h0, h1⟩ := Option.map_eq_some_iff.mp hE
  subst h1
  clear hE
  rcases lt2 (ix_lt (n := 2) (p := p0) (by decide)) with e | e
  · rw [e] at h0
    try rw [e]
    refine ok_fr (wc := [(r 0, .inr (7, [.ref (r 1), .ref (r 8), .ref (r 15), .ref (r 20), .ref (r 21), .ref (r 23), .ref (r 25)])), (r 15, .inl (3, 2, .inr (.inr (.inr (.inr (rf3 r 16 2 2)))))), (r 16, .inr (6, [.ref (r 17)])), (r 17, .inl (0, 21, .inl (S.2.2.1 0))), (r 25, .inr (6, [.ref (r 26)])), (r 26, .inl (0, 21, .inl S.2.2.2.2.2.2))]) (wr := [(r 1, .inl (1, 3, .inr (.inr (.inr (.inr (rf3 r 2 2 3)))))), (r 2, .inr (4, [.ref (r 3), .int (S.1 0).1])), (r 3, .inl (0, 2646, .inl (S.1 0).2)), (r 4, .inr (4, [.ref (r 5), .int (S.1 1).1])), (r 5, .inl (0, 2646, .inl (S.1 1).2)), (r 6, .inr (4, [.ref (r 7), .int (S.1 2).1])), (r 7, .inl (0, 2646, .inl (S.1 2).2)), (r 8, .inl (2, 3, .inr (.inr (.inr (.inr (rf3 r 9 2 3)))))), (r 9, .inr (3, [.int (S.2.1 0).1, .ref (r 10), .int (S.2.1 0).2.1])), (r 10, .inl (0, 21, .inl (S.2.1 0).2.2)), (r 11, .inr (3, [.int (S.2.1 1).1, .ref (r 12), .int (S.2.1 1).2.1])), (r 12, .inl (0, 21, .inl (S.2.1 1).2.2)), (r 13, .inr (3, [.int (S.2.1 2).1, .ref (r 14), .int (S.2.1 2).2.1])), (r 14, .inl (0, 21, .inl (S.2.1 2).2.2)), (r 18, .inr (6, [.ref (r 19)])), (r 19, .inl (0, 21, .inl (S.2.2.1 1))), (r 20, .inr (2, [.int (S.2.2.2.1 0), .int (S.2.2.2.1 1), .int (S.2.2.2.1 2), .int (S.2.2.2.1 3), .int (S.2.2.2.1 4), .int (S.2.2.2.1 5)])), (r 21, .inr (5, [.ref (r 22)])), (r 22, .inl (0, 21, .inl S.2.2.2.2.1)), (r 23, .inr (6, [.ref (r 24)])), (r 24, .inl (0, 21, .inl S.2.2.2.2.2.1))]) [0, 15, 16, 17, 25, 26] [1, 2, 3, 4, 5, 6, 7, 8, 9, 10, 11, 12, 13, 14, 18, 19, 20, 21, 22, 23, 24] (ok_X5_isOf (x := r 0) (M := r 1) (L := r 8) (Dk := r 15) (c := r 20) (se := r 21) (wk := r 23) (sp := r 25) (w := r 16) (a := r 17) (sa := r 26) (df := rf3 r 16 2 2) (fun h9 => by have h8 := ix_in h9; rw [e] at h8; exact (congrArg (rf3 r 16 2 2) h8.symm).trans rfl) h0) rfl rfl rfl rfl (by decide) ?_
    rintro o w hp
    cases x0 with
    | inl z =>
      obtain ⟨g, e1, e2⟩ := PX.inl hp
      subst e1; subst e2
      exact ⟨_, [21, 0, 1, 2, 3, 4, 5, 6, 7, 8, 9, 10, 11, 12, 13, 22, 23, 24, 14, 15, 16, 17, 18, 19, 20, 25, 26], PX.mk g rfl rfl, rfl, rfl⟩
    | inr E =>
      obtain ⟨e1, e2⟩ := PX.inr hp
      subst e1; subst e2
      exact ⟨_, [21, 0, 1, 2, 3, 4, 5, 6, 7, 8, 9, 10, 11, 12, 13, 22, 23, 24, 14, 15, 16, 17, 18, 19, 20, 25, 26], PX.er, rfl, rfl⟩
  · rw [e] at h0
    try rw [e]
    refine ok_fr (wc := [(r 0, .inr (7, [.ref (r 1), .ref (r 8), .ref (r 15), .ref (r 20), .ref (r 21), .ref (r 23), .ref (r 25)])), (r 15, .inl (3, 2, .inr (.inr (.inr (.inr (rf3 r 16 2 2)))))), (r 18, .inr (6, [.ref (r 19)])), (r 19, .inl (0, 21, .inl (S.2.2.1 1))), (r 25, .inr (6, [.ref (r 26)])), (r 26, .inl (0, 21, .inl S.2.2.2.2.2.2))]) (wr := [(r 1, .inl (1, 3, .inr (.inr (.inr (.inr (rf3 r 2 2 3)))))), (r 2, .inr (4, [.ref (r 3), .int (S.1 0).1])), (r 3, .inl (0, 2646, .inl (S.1 0).2)), (r 4, .inr (4, [.ref (r 5), .int (S.1 1).1])), (r 5, .inl (0, 2646, .inl (S.1 1).2)), (r 6, .inr (4, [.ref (r 7), .int (S.1 2).1])), (r 7, .inl (0, 2646, .inl (S.1 2).2)), (r 8, .inl (2, 3, .inr (.inr (.inr (.inr (rf3 r 9 2 3)))))), (r 9, .inr (3, [.int (S.2.1 0).1, .ref (r 10), .int (S.2.1 0).2.1])), (r 10, .inl (0, 21, .inl (S.2.1 0).2.2)), (r 11, .inr (3, [.int (S.2.1 1).1, .ref (r 12), .int (S.2.1 1).2.1])), (r 12, .inl (0, 21, .inl (S.2.1 1).2.2)), (r 13, .inr (3, [.int (S.2.1 2).1, .ref (r 14), .int (S.2.1 2).2.1])), (r 14, .inl (0, 21, .inl (S.2.1 2).2.2)), (r 16, .inr (6, [.ref (r 17)])), (r 17, .inl (0, 21, .inl (S.2.2.1 0))), (r 20, .inr (2, [.int (S.2.2.2.1 0), .int (S.2.2.2.1 1), .int (S.2.2.2.1 2), .int (S.2.2.2.1 3), .int (S.2.2.2.1 4), .int (S.2.2.2.1 5)])), (r 21, .inr (5, [.ref (r 22)])), (r 22, .inl (0, 21, .inl S.2.2.2.2.1)), (r 23, .inr (6, [.ref (r 24)])), (r 24, .inl (0, 21, .inl S.2.2.2.2.2.1))]) [0, 15, 18, 19, 25, 26] [1, 2, 3, 4, 5, 6, 7, 8, 9, 10, 11, 12, 13, 14, 16, 17, 20, 21, 22, 23, 24] (ok_X5_isOf (x := r 0) (M := r 1) (L := r 8) (Dk := r 15) (c := r 20) (se := r 21) (wk := r 23) (sp := r 25) (w := r 18) (a := r 19) (sa := r 26) (df := rf3 r 16 2 2) (fun h9 => by have h8 := ix_in h9; rw [e] at h8; exact (congrArg (rf3 r 16 2 2) h8.symm).trans rfl) h0) rfl rfl rfl rfl (by decide) ?_
    rintro o w hp
    cases x0 with
    | inl z =>
      obtain ⟨g, e1, e2⟩ := PX.inl hp
      subst e1; subst e2
      exact ⟨_, [21, 0, 1, 2, 3, 4, 5, 6, 7, 8, 9, 10, 11, 12, 13, 22, 14, 15, 23, 24, 16, 17, 18, 19, 20, 25, 26], PX.mk g rfl rfl, rfl, rfl⟩
    | inr E =>
      obtain ⟨e1, e2⟩ := PX.inr hp
      subst e1; subst e2
      exact ⟨_, [21, 0, 1, 2, 3, 4, 5, 6, 7, 8, 9, 10, 11, 12, 13, 22, 14, 15, 23, 24, 16, 17, 18, 19, 20, 25, 26], PX.er, rfl, rfl⟩
def gX_isSameWay (N K : Nat) (S : CS) : Option (Int32 × CS) := (fX5_isSameWay N K (S.2.2.1 0) (S.2.2.1 1)).bind (fun o => match o with | .inl z => some (z, (S.1, S.2.1, S.2.2.1, S.2.2.2.1, S.2.2.2.2.1, S.2.2.2.2.2.1, S.2.2.2.2.2.2)) | .inr _ => none)
set_option maxHeartbeats 4000000 in
set_option maxRecDepth 100000 in
theorem ogX_isSameWay {N K : Nat} {r : Nat → Nat} {S : CS} {x : Int32 × CS} (hE : gX_isSameWay N K S = some x) : OkM yX5_isSameWay (.code yX5_isSameWay cX5_isSameWay 1 (some .boolean)) (9) 2 12 [.ref (r 0)] (WX r S) ((PN (U := Int32 × CS) (fun z _ => some (.int z.1)) (fun z _ => WX r z.2)) x) := by
  unfold gX_isSameWay at hE
  obtain ⟨x1, h0, h1⟩ := Option.bind_eq_some_iff.mp hE
  cases x1 with
  | inr E => cases h1
  | inl x0 =>
    cases h1
    refine ok_fr (wc := [(r 0, .inr (7, [.ref (r 1), .ref (r 8), .ref (r 15), .ref (r 20), .ref (r 21), .ref (r 23), .ref (r 25)])), (r 15, .inl (3, 2, .inr (.inr (.inr (.inr (rf3 r 16 2 2)))))), (r 16, .inr (6, [.ref (r 17)])), (r 17, .inl (0, 21, .inl (S.2.2.1 0))), (r 18, .inr (6, [.ref (r 19)])), (r 19, .inl (0, 21, .inl (S.2.2.1 1)))]) (wr := [(r 1, .inl (1, 3, .inr (.inr (.inr (.inr (rf3 r 2 2 3)))))), (r 2, .inr (4, [.ref (r 3), .int (S.1 0).1])), (r 3, .inl (0, 2646, .inl (S.1 0).2)), (r 4, .inr (4, [.ref (r 5), .int (S.1 1).1])), (r 5, .inl (0, 2646, .inl (S.1 1).2)), (r 6, .inr (4, [.ref (r 7), .int (S.1 2).1])), (r 7, .inl (0, 2646, .inl (S.1 2).2)), (r 8, .inl (2, 3, .inr (.inr (.inr (.inr (rf3 r 9 2 3)))))), (r 9, .inr (3, [.int (S.2.1 0).1, .ref (r 10), .int (S.2.1 0).2.1])), (r 10, .inl (0, 21, .inl (S.2.1 0).2.2)), (r 11, .inr (3, [.int (S.2.1 1).1, .ref (r 12), .int (S.2.1 1).2.1])), (r 12, .inl (0, 21, .inl (S.2.1 1).2.2)), (r 13, .inr (3, [.int (S.2.1 2).1, .ref (r 14), .int (S.2.1 2).2.1])), (r 14, .inl (0, 21, .inl (S.2.1 2).2.2)), (r 20, .inr (2, [.int (S.2.2.2.1 0), .int (S.2.2.2.1 1), .int (S.2.2.2.1 2), .int (S.2.2.2.1 3), .int (S.2.2.2.1 4), .int (S.2.2.2.1 5)])), (r 21, .inr (5, [.ref (r 22)])), (r 22, .inl (0, 21, .inl S.2.2.2.2.1)), (r 23, .inr (6, [.ref (r 24)])), (r 24, .inl (0, 21, .inl S.2.2.2.2.2.1)), (r 25, .inr (6, [.ref (r 26)])), (r 26, .inl (0, 21, .inl S.2.2.2.2.2.2))]) [0, 15, 16, 17, 18, 19] [1, 2, 3, 4, 5, 6, 7, 8, 9, 10, 11, 12, 13, 14, 20, 21, 22, 23, 24, 25, 26] (ok_X5_isSameWay (x := r 0) (M := r 1) (L := r 8) (Dk := r 15) (c := r 20) (se := r 21) (wk := r 23) (sp := r 25) (w := r 16) (a := r 17) (v := r 18) (b := r 19) (df := rf3 r 16 2 2) (fun _ => rfl) (fun _ => rfl) h0) rfl rfl rfl rfl (by decide) ?_
    rintro o w hp
    obtain ⟨g, e1, e2⟩ := PX.inl hp
    subst e1; subst e2
    exact ⟨_, [21, 0, 1, 2, 3, 4, 5, 6, 7, 8, 9, 10, 11, 12, 13, 22, 23, 24, 25, 26, 14, 15, 16, 17, 18, 19, 20], PN.mk g rfl rfl, rfl, rfl⟩
def gX_tally (N K : Nat) (S : CS) (p0 : Int32) : Option ((Int32 × CS) ⊕ String) := (fX5_tally N K (S.2.2.2.1 0) (S.2.2.2.1 1) (S.2.2.2.1 2) (S.2.2.2.1 3) (S.2.2.2.1 4) (S.2.2.2.1 5) p0).map (fun o => match o with | .inl z => .inl (z, (S.1, S.2.1, S.2.2.1, S.2.2.2.1, S.2.2.2.2.1, S.2.2.2.2.2.1, S.2.2.2.2.2.2)) | .inr E => .inr E)
set_option maxHeartbeats 4000000 in
set_option maxRecDepth 100000 in
theorem ogX_tally {N K : Nat} {r : Nat → Nat} {S : CS} {p0 : Int32} {x : (Int32 × CS) ⊕ String} (hE : gX_tally N K S p0 = some x) : OkM yX5_tally (.code yX5_tally cX5_tally 2 (some .int)) (9) 1 6 [.ref (r 0), .int p0] (WX r S) ((PX (U := Int32 × CS) (fun z _ => some (.int z.1)) (fun z _ => WX r z.2) (WX r S)) x) := by
  unfold gX_tally at hE
  obtain ⟨x0, h0, h1⟩ := Option.map_eq_some_iff.mp hE
  subst h1
  clear hE
  refine ok_fr (wc := [(r 0, .inr (7, [.ref (r 1), .ref (r 8), .ref (r 15), .ref (r 20), .ref (r 21), .ref (r 23), .ref (r 25)])), (r 20, .inr (2, [.int (S.2.2.2.1 0), .int (S.2.2.2.1 1), .int (S.2.2.2.1 2), .int (S.2.2.2.1 3), .int (S.2.2.2.1 4), .int (S.2.2.2.1 5)]))]) (wr := [(r 1, .inl (1, 3, .inr (.inr (.inr (.inr (rf3 r 2 2 3)))))), (r 2, .inr (4, [.ref (r 3), .int (S.1 0).1])), (r 3, .inl (0, 2646, .inl (S.1 0).2)), (r 4, .inr (4, [.ref (r 5), .int (S.1 1).1])), (r 5, .inl (0, 2646, .inl (S.1 1).2)), (r 6, .inr (4, [.ref (r 7), .int (S.1 2).1])), (r 7, .inl (0, 2646, .inl (S.1 2).2)), (r 8, .inl (2, 3, .inr (.inr (.inr (.inr (rf3 r 9 2 3)))))), (r 9, .inr (3, [.int (S.2.1 0).1, .ref (r 10), .int (S.2.1 0).2.1])), (r 10, .inl (0, 21, .inl (S.2.1 0).2.2)), (r 11, .inr (3, [.int (S.2.1 1).1, .ref (r 12), .int (S.2.1 1).2.1])), (r 12, .inl (0, 21, .inl (S.2.1 1).2.2)), (r 13, .inr (3, [.int (S.2.1 2).1, .ref (r 14), .int (S.2.1 2).2.1])), (r 14, .inl (0, 21, .inl (S.2.1 2).2.2)), (r 15, .inl (3, 2, .inr (.inr (.inr (.inr (rf3 r 16 2 2)))))), (r 16, .inr (6, [.ref (r 17)])), (r 17, .inl (0, 21, .inl (S.2.2.1 0))), (r 18, .inr (6, [.ref (r 19)])), (r 19, .inl (0, 21, .inl (S.2.2.1 1))), (r 21, .inr (5, [.ref (r 22)])), (r 22, .inl (0, 21, .inl S.2.2.2.2.1)), (r 23, .inr (6, [.ref (r 24)])), (r 24, .inl (0, 21, .inl S.2.2.2.2.2.1)), (r 25, .inr (6, [.ref (r 26)])), (r 26, .inl (0, 21, .inl S.2.2.2.2.2.2))]) [0, 20] [1, 2, 3, 4, 5, 6, 7, 8, 9, 10, 11, 12, 13, 14, 15, 16, 17, 18, 19, 21, 22, 23, 24, 25, 26] (ok_X5_tally (x := r 0) (M := r 1) (L := r 8) (Dk := r 15) (c := r 20) (se := r 21) (wk := r 23) (sp := r 25) h0) rfl rfl rfl rfl (by decide) ?_
  rintro o w hp
  cases x0 with
  | inl z =>
    obtain ⟨g, e1, e2⟩ := PX.inl hp
    subst e1; subst e2
    exact ⟨_, [25, 0, 1, 2, 3, 4, 5, 6, 7, 8, 9, 10, 11, 12, 13, 14, 15, 16, 17, 18, 26, 19, 20, 21, 22, 23, 24], PX.mk g rfl rfl, rfl, rfl⟩
  | inr E =>
    obtain ⟨e1, e2⟩ := PX.inr hp
    subst e1; subst e2
    exact ⟨_, [25, 0, 1, 2, 3, 4, 5, 6, 7, 8, 9, 10, 11, 12, 13, 14, 15, 16, 17, 18, 26, 19, 20, 21, 22, 23, 24], PX.er, rfl, rfl⟩
def gX_knock (N K : Nat) (S : CS) : Option (Int32 × CS) := (fX5_knock N K (S.2.2.2.1 0) (S.2.2.2.1 1) (S.2.2.2.1 2) (S.2.2.2.1 3) (S.2.2.2.1 4) (S.2.2.2.1 5)).map (fun z => (z.1, (S.1, S.2.1, S.2.2.1, (upm S.2.2.2.1 5 z.2), S.2.2.2.2.1, S.2.2.2.2.2.1, S.2.2.2.2.2.2)))
set_option maxHeartbeats 4000000 in
set_option maxRecDepth 100000 in
theorem ogX_knock {N K : Nat} {r : Nat → Nat} {S : CS} {x : Int32 × CS} (hE : gX_knock N K S = some x) : OkM yX5_knock (.code yX5_knock cX5_knock 1 (some .int)) (0) 0 0 [.ref (r 0)] (WX r S) ((PN (U := Int32 × CS) (fun z _ => some (.int z.1)) (fun z _ => WX r z.2)) x) := by
  unfold gX_knock at hE
  obtain ⟨x0, h0, h1⟩ := Option.map_eq_some_iff.mp hE
  subst h1
  clear hE
  refine ok_fr (wc := [(r 0, .inr (7, [.ref (r 1), .ref (r 8), .ref (r 15), .ref (r 20), .ref (r 21), .ref (r 23), .ref (r 25)])), (r 20, .inr (2, [.int (S.2.2.2.1 0), .int (S.2.2.2.1 1), .int (S.2.2.2.1 2), .int (S.2.2.2.1 3), .int (S.2.2.2.1 4), .int (S.2.2.2.1 5)]))]) (wr := [(r 1, .inl (1, 3, .inr (.inr (.inr (.inr (rf3 r 2 2 3)))))), (r 2, .inr (4, [.ref (r 3), .int (S.1 0).1])), (r 3, .inl (0, 2646, .inl (S.1 0).2)), (r 4, .inr (4, [.ref (r 5), .int (S.1 1).1])), (r 5, .inl (0, 2646, .inl (S.1 1).2)), (r 6, .inr (4, [.ref (r 7), .int (S.1 2).1])), (r 7, .inl (0, 2646, .inl (S.1 2).2)), (r 8, .inl (2, 3, .inr (.inr (.inr (.inr (rf3 r 9 2 3)))))), (r 9, .inr (3, [.int (S.2.1 0).1, .ref (r 10), .int (S.2.1 0).2.1])), (r 10, .inl (0, 21, .inl (S.2.1 0).2.2)), (r 11, .inr (3, [.int (S.2.1 1).1, .ref (r 12), .int (S.2.1 1).2.1])), (r 12, .inl (0, 21, .inl (S.2.1 1).2.2)), (r 13, .inr (3, [.int (S.2.1 2).1, .ref (r 14), .int (S.2.1 2).2.1])), (r 14, .inl (0, 21, .inl (S.2.1 2).2.2)), (r 15, .inl (3, 2, .inr (.inr (.inr (.inr (rf3 r 16 2 2)))))), (r 16, .inr (6, [.ref (r 17)])), (r 17, .inl (0, 21, .inl (S.2.2.1 0))), (r 18, .inr (6, [.ref (r 19)])), (r 19, .inl (0, 21, .inl (S.2.2.1 1))), (r 21, .inr (5, [.ref (r 22)])), (r 22, .inl (0, 21, .inl S.2.2.2.2.1)), (r 23, .inr (6, [.ref (r 24)])), (r 24, .inl (0, 21, .inl S.2.2.2.2.2.1)), (r 25, .inr (6, [.ref (r 26)])), (r 26, .inl (0, 21, .inl S.2.2.2.2.2.2))]) [0, 20] [1, 2, 3, 4, 5, 6, 7, 8, 9, 10, 11, 12, 13, 14, 15, 16, 17, 18, 19, 21, 22, 23, 24, 25, 26] (ok_X5_knock (x := r 0) (M := r 1) (L := r 8) (Dk := r 15) (c := r 20) (se := r 21) (wk := r 23) (sp := r 25) h0) rfl rfl rfl rfl (by decide) ?_
  rintro o w hp
  obtain ⟨g, e1, e2⟩ := hp
  subst e1; subst e2
  exact ⟨_, [25, 0, 1, 2, 3, 4, 5, 6, 7, 8, 9, 10, 11, 12, 13, 14, 15, 16, 17, 18, 26, 19, 20, 21, 22, 23, 24], PN.mk g rfl rfl, rfl, rfl⟩
def gX_isSound (N K : Nat) (S : CS) (p0 : Int32) : Option ((Int32 × CS) ⊕ String) := (fX5_isSound N K ((S.1 (ix 3 p0)).1) ((S.1 (ix 3 p0)).2) (S.2.2.2.1 0) (S.2.2.2.1 1) (S.2.2.2.1 2) (S.2.2.2.1 3) (S.2.2.2.1 4) (S.2.2.2.1 5) S.2.2.2.2.1 p0).map (fun o => match o with | .inl z => .inl (z.1, (S.1, S.2.1, S.2.2.1, S.2.2.2.1, z.2, S.2.2.2.2.2.1, S.2.2.2.2.2.2)) | .inr E => .inr E)
set_option maxHeartbeats 4000000 in
set_option maxRecDepth 100000 in
theorem ogX_isSound {N K : Nat} {r : Nat → Nat} {S : CS} {p0 : Int32} {x : (Int32 × CS) ⊕ String} (hE : gX_isSound N K S p0 = some x) : OkM yX5_isSound (.code yX5_isSound cX5_isSound 3 (some .boolean)) (9) 1 6 [.ref (r 0), .int p0] (WX r S) ((PX (U := Int32 × CS) (fun z _ => some (.int z.1)) (fun z _ => WX r z.2) (WX r S)) x) := by
  unfold gX_isSound at hE
  obtain ⟨x0, h0, h1⟩ := Option.map_eq_some_iff.mp hE
  subst h1
  clear hE
  rcases lt3 (ix_lt (n := 3) (p := p0) (by decide)) with e | e | e
  · rw [e] at h0
    try rw [e]
    refine ok_fr (wc := [(r 0, .inr (7, [.ref (r 1), .ref (r 8), .ref (r 15), .ref (r 20), .ref (r 21), .ref (r 23), .ref (r 25)])), (r 1, .inl (1, 3, .inr (.inr (.inr (.inr (rf3 r 2 2 3)))))), (r 2, .inr (4, [.ref (r 3), .int (S.1 0).1])), (r 3, .inl (0, 2646, .inl (S.1 0).2)), (r 20, .inr (2, [.int (S.2.2.2.1 0), .int (S.2.2.2.1 1), .int (S.2.2.2.1 2), .int (S.2.2.2.1 3), .int (S.2.2.2.1 4), .int (S.2.2.2.1 5)])), (r 21, .inr (5, [.ref (r 22)])), (r 22, .inl (0, 21, .inl S.2.2.2.2.1))]) (wr := [(r 4, .inr (4, [.ref (r 5), .int (S.1 1).1])), (r 5, .inl (0, 2646, .inl (S.1 1).2)), (r 6, .inr (4, [.ref (r 7), .int (S.1 2).1])), (r 7, .inl (0, 2646, .inl (S.1 2).2)), (r 8, .inl (2, 3, .inr (.inr (.inr (.inr (rf3 r 9 2 3)))))), (r 9, .inr (3, [.int (S.2.1 0).1, .ref (r 10), .int (S.2.1 0).2.1])), (r 10, .inl (0, 21, .inl (S.2.1 0).2.2)), (r 11, .inr (3, [.int (S.2.1 1).1, .ref (r 12), .int (S.2.1 1).2.1])), (r 12, .inl (0, 21, .inl (S.2.1 1).2.2)), (r 13, .inr (3, [.int (S.2.1 2).1, .ref (r 14), .int (S.2.1 2).2.1])), (r 14, .inl (0, 21, .inl (S.2.1 2).2.2)), (r 15, .inl (3, 2, .inr (.inr (.inr (.inr (rf3 r 16 2 2)))))), (r 16, .inr (6, [.ref (r 17)])), (r 17, .inl (0, 21, .inl (S.2.2.1 0))), (r 18, .inr (6, [.ref (r 19)])), (r 19, .inl (0, 21, .inl (S.2.2.1 1))), (r 23, .inr (6, [.ref (r 24)])), (r 24, .inl (0, 21, .inl S.2.2.2.2.2.1)), (r 25, .inr (6, [.ref (r 26)])), (r 26, .inl (0, 21, .inl S.2.2.2.2.2.2))]) [0, 1, 2, 3, 20, 21, 22] [4, 5, 6, 7, 8, 9, 10, 11, 12, 13, 14, 15, 16, 17, 18, 19, 23, 24, 25, 26] (ok_X5_isSound (x := r 0) (M := r 1) (L := r 8) (Dk := r 15) (c := r 20) (se := r 21) (wk := r 23) (sp := r 25) (q := r 2) (a := r 3) (sr := r 22) (mf := rf3 r 2 2 3) (fun h9 => by have h8 := ix_in h9; rw [e] at h8; exact (congrArg (rf3 r 2 2 3) h8.symm).trans rfl) h0) rfl rfl rfl rfl (by decide) ?_
    rintro o w hp
    cases x0 with
    | inl z =>
      obtain ⟨g, e1, e2⟩ := PX.inl hp
      subst e1; subst e2
      exact ⟨_, [20, 21, 22, 23, 0, 1, 2, 3, 4, 5, 6, 7, 8, 9, 10, 11, 12, 13, 14, 15, 24, 25, 26, 16, 17, 18, 19], PX.mk g rfl rfl, rfl, rfl⟩
    | inr E =>
      obtain ⟨e1, e2⟩ := PX.inr hp
      subst e1; subst e2
      exact ⟨_, [20, 21, 22, 23, 0, 1, 2, 3, 4, 5, 6, 7, 8, 9, 10, 11, 12, 13, 14, 15, 24, 25, 26, 16, 17, 18, 19], PX.er, rfl, rfl⟩
  · rw [e] at h0
    try rw [e]
    refine ok_fr (wc := [(r 0, .inr (7, [.ref (r 1), .ref (r 8), .ref (r 15), .ref (r 20), .ref (r 21), .ref (r 23), .ref (r 25)])), (r 1, .inl (1, 3, .inr (.inr (.inr (.inr (rf3 r 2 2 3)))))), (r 4, .inr (4, [.ref (r 5), .int (S.1 1).1])), (r 5, .inl (0, 2646, .inl (S.1 1).2)), (r 20, .inr (2, [.int (S.2.2.2.1 0), .int (S.2.2.2.1 1), .int (S.2.2.2.1 2), .int (S.2.2.2.1 3), .int (S.2.2.2.1 4), .int (S.2.2.2.1 5)])), (r 21, .inr (5, [.ref (r 22)])), (r 22, .inl (0, 21, .inl S.2.2.2.2.1))]) (wr := [(r 2, .inr (4, [.ref (r 3), .int (S.1 0).1])), (r 3, .inl (0, 2646, .inl (S.1 0).2)), (r 6, .inr (4, [.ref (r 7), .int (S.1 2).1])), (r 7, .inl (0, 2646, .inl (S.1 2).2)), (r 8, .inl (2, 3, .inr (.inr (.inr (.inr (rf3 r 9 2 3)))))), (r 9, .inr (3, [.int (S.2.1 0).1, .ref (r 10), .int (S.2.1 0).2.1])), (r 10, .inl (0, 21, .inl (S.2.1 0).2.2)), (r 11, .inr (3, [.int (S.2.1 1).1, .ref (r 12), .int (S.2.1 1).2.1])), (r 12, .inl (0, 21, .inl (S.2.1 1).2.2)), (r 13, .inr (3, [.int (S.2.1 2).1, .ref (r 14), .int (S.2.1 2).2.1])), (r 14, .inl (0, 21, .inl (S.2.1 2).2.2)), (r 15, .inl (3, 2, .inr (.inr (.inr (.inr (rf3 r 16 2 2)))))), (r 16, .inr (6, [.ref (r 17)])), (r 17, .inl (0, 21, .inl (S.2.2.1 0))), (r 18, .inr (6, [.ref (r 19)])), (r 19, .inl (0, 21, .inl (S.2.2.1 1))), (r 23, .inr (6, [.ref (r 24)])), (r 24, .inl (0, 21, .inl S.2.2.2.2.2.1)), (r 25, .inr (6, [.ref (r 26)])), (r 26, .inl (0, 21, .inl S.2.2.2.2.2.2))]) [0, 1, 4, 5, 20, 21, 22] [2, 3, 6, 7, 8, 9, 10, 11, 12, 13, 14, 15, 16, 17, 18, 19, 23, 24, 25, 26] (ok_X5_isSound (x := r 0) (M := r 1) (L := r 8) (Dk := r 15) (c := r 20) (se := r 21) (wk := r 23) (sp := r 25) (q := r 4) (a := r 5) (sr := r 22) (mf := rf3 r 2 2 3) (fun h9 => by have h8 := ix_in h9; rw [e] at h8; exact (congrArg (rf3 r 2 2 3) h8.symm).trans rfl) h0) rfl rfl rfl rfl (by decide) ?_
    rintro o w hp
    cases x0 with
    | inl z =>
      obtain ⟨g, e1, e2⟩ := PX.inl hp
      subst e1; subst e2
      exact ⟨_, [20, 21, 0, 1, 22, 23, 2, 3, 4, 5, 6, 7, 8, 9, 10, 11, 12, 13, 14, 15, 24, 25, 26, 16, 17, 18, 19], PX.mk g rfl rfl, rfl, rfl⟩
    | inr E =>
      obtain ⟨e1, e2⟩ := PX.inr hp
      subst e1; subst e2
      exact ⟨_, [20, 21, 0, 1, 22, 23, 2, 3, 4, 5, 6, 7, 8, 9, 10, 11, 12, 13, 14, 15, 24, 25, 26, 16, 17, 18, 19], PX.er, rfl, rfl⟩
  · rw [e] at h0
    try rw [e]
    refine ok_fr (wc := [(r 0, .inr (7, [.ref (r 1), .ref (r 8), .ref (r 15), .ref (r 20), .ref (r 21), .ref (r 23), .ref (r 25)])), (r 1, .inl (1, 3, .inr (.inr (.inr (.inr (rf3 r 2 2 3)))))), (r 6, .inr (4, [.ref (r 7), .int (S.1 2).1])), (r 7, .inl (0, 2646, .inl (S.1 2).2)), (r 20, .inr (2, [.int (S.2.2.2.1 0), .int (S.2.2.2.1 1), .int (S.2.2.2.1 2), .int (S.2.2.2.1 3), .int (S.2.2.2.1 4), .int (S.2.2.2.1 5)])), (r 21, .inr (5, [.ref (r 22)])), (r 22, .inl (0, 21, .inl S.2.2.2.2.1))]) (wr := [(r 2, .inr (4, [.ref (r 3), .int (S.1 0).1])), (r 3, .inl (0, 2646, .inl (S.1 0).2)), (r 4, .inr (4, [.ref (r 5), .int (S.1 1).1])), (r 5, .inl (0, 2646, .inl (S.1 1).2)), (r 8, .inl (2, 3, .inr (.inr (.inr (.inr (rf3 r 9 2 3)))))), (r 9, .inr (3, [.int (S.2.1 0).1, .ref (r 10), .int (S.2.1 0).2.1])), (r 10, .inl (0, 21, .inl (S.2.1 0).2.2)), (r 11, .inr (3, [.int (S.2.1 1).1, .ref (r 12), .int (S.2.1 1).2.1])), (r 12, .inl (0, 21, .inl (S.2.1 1).2.2)), (r 13, .inr (3, [.int (S.2.1 2).1, .ref (r 14), .int (S.2.1 2).2.1])), (r 14, .inl (0, 21, .inl (S.2.1 2).2.2)), (r 15, .inl (3, 2, .inr (.inr (.inr (.inr (rf3 r 16 2 2)))))), (r 16, .inr (6, [.ref (r 17)])), (r 17, .inl (0, 21, .inl (S.2.2.1 0))), (r 18, .inr (6, [.ref (r 19)])), (r 19, .inl (0, 21, .inl (S.2.2.1 1))), (r 23, .inr (6, [.ref (r 24)])), (r 24, .inl (0, 21, .inl S.2.2.2.2.2.1)), (r 25, .inr (6, [.ref (r 26)])), (r 26, .inl (0, 21, .inl S.2.2.2.2.2.2))]) [0, 1, 6, 7, 20, 21, 22] [2, 3, 4, 5, 8, 9, 10, 11, 12, 13, 14, 15, 16, 17, 18, 19, 23, 24, 25, 26] (ok_X5_isSound (x := r 0) (M := r 1) (L := r 8) (Dk := r 15) (c := r 20) (se := r 21) (wk := r 23) (sp := r 25) (q := r 6) (a := r 7) (sr := r 22) (mf := rf3 r 2 2 3) (fun h9 => by have h8 := ix_in h9; rw [e] at h8; exact (congrArg (rf3 r 2 2 3) h8.symm).trans rfl) h0) rfl rfl rfl rfl (by decide) ?_
    rintro o w hp
    cases x0 with
    | inl z =>
      obtain ⟨g, e1, e2⟩ := PX.inl hp
      subst e1; subst e2
      exact ⟨_, [20, 21, 0, 1, 2, 3, 22, 23, 4, 5, 6, 7, 8, 9, 10, 11, 12, 13, 14, 15, 24, 25, 26, 16, 17, 18, 19], PX.mk g rfl rfl, rfl, rfl⟩
    | inr E =>
      obtain ⟨e1, e2⟩ := PX.inr hp
      subst e1; subst e2
      exact ⟨_, [20, 21, 0, 1, 2, 3, 22, 23, 4, 5, 6, 7, 8, 9, 10, 11, 12, 13, 14, 15, 24, 25, 26, 16, 17, 18, 19], PX.er, rfl, rfl⟩
def gX_digest (N K : Nat) (S : CS) : Option (Int64 × CS) := (fX5_digest N K ((S.1 0).1) ((S.1 0).2) ((S.1 1).1) ((S.1 1).2) ((S.1 2).1) ((S.1 2).2) ((S.2.1 0).1) ((S.2.1 0).2.1) ((S.2.1 0).2.2) ((S.2.1 1).1) ((S.2.1 1).2.1) ((S.2.1 1).2.2) ((S.2.1 2).1) ((S.2.1 2).2.1) ((S.2.1 2).2.2) (S.2.2.1 0) (S.2.2.1 1) (S.2.2.2.1 0) (S.2.2.2.1 1) (S.2.2.2.1 2) (S.2.2.2.1 3) (S.2.2.2.1 4) (S.2.2.2.1 5)).bind (fun o => match o with | .inl z => some (z, (S.1, S.2.1, S.2.2.1, S.2.2.2.1, S.2.2.2.2.1, S.2.2.2.2.2.1, S.2.2.2.2.2.2)) | .inr _ => none)
set_option maxHeartbeats 4000000 in
set_option maxRecDepth 100000 in
theorem ogX_digest {N K : Nat} {r : Nat → Nat} {S : CS} {x : Int64 × CS} (hE : gX_digest N K S = some x) : OkM yX5_digest (.code yX5_digest cX5_digest 5 (some .long)) (10) 118 708 [.ref (r 0)] (WX r S) ((PN (U := Int64 × CS) (fun z _ => some (.long z.1)) (fun z _ => WX r z.2)) x) := by
  unfold gX_digest at hE
  obtain ⟨x1, h0, h1⟩ := Option.bind_eq_some_iff.mp hE
  cases x1 with
  | inr E => cases h1
  | inl x0 =>
    cases h1
    refine ok_fr (wc := [(r 0, .inr (7, [.ref (r 1), .ref (r 8), .ref (r 15), .ref (r 20), .ref (r 21), .ref (r 23), .ref (r 25)])), (r 1, .inl (1, 3, .inr (.inr (.inr (.inr (rf3 r 2 2 3)))))), (r 2, .inr (4, [.ref (r 3), .int (S.1 0).1])), (r 3, .inl (0, 2646, .inl (S.1 0).2)), (r 4, .inr (4, [.ref (r 5), .int (S.1 1).1])), (r 5, .inl (0, 2646, .inl (S.1 1).2)), (r 6, .inr (4, [.ref (r 7), .int (S.1 2).1])), (r 7, .inl (0, 2646, .inl (S.1 2).2)), (r 8, .inl (2, 3, .inr (.inr (.inr (.inr (rf3 r 9 2 3)))))), (r 9, .inr (3, [.int (S.2.1 0).1, .ref (r 10), .int (S.2.1 0).2.1])), (r 10, .inl (0, 21, .inl (S.2.1 0).2.2)), (r 11, .inr (3, [.int (S.2.1 1).1, .ref (r 12), .int (S.2.1 1).2.1])), (r 12, .inl (0, 21, .inl (S.2.1 1).2.2)), (r 13, .inr (3, [.int (S.2.1 2).1, .ref (r 14), .int (S.2.1 2).2.1])), (r 14, .inl (0, 21, .inl (S.2.1 2).2.2)), (r 15, .inl (3, 2, .inr (.inr (.inr (.inr (rf3 r 16 2 2)))))), (r 16, .inr (6, [.ref (r 17)])), (r 17, .inl (0, 21, .inl (S.2.2.1 0))), (r 18, .inr (6, [.ref (r 19)])), (r 19, .inl (0, 21, .inl (S.2.2.1 1))), (r 20, .inr (2, [.int (S.2.2.2.1 0), .int (S.2.2.2.1 1), .int (S.2.2.2.1 2), .int (S.2.2.2.1 3), .int (S.2.2.2.1 4), .int (S.2.2.2.1 5)]))]) (wr := [(r 21, .inr (5, [.ref (r 22)])), (r 22, .inl (0, 21, .inl S.2.2.2.2.1)), (r 23, .inr (6, [.ref (r 24)])), (r 24, .inl (0, 21, .inl S.2.2.2.2.2.1)), (r 25, .inr (6, [.ref (r 26)])), (r 26, .inl (0, 21, .inl S.2.2.2.2.2.2))]) [0, 1, 2, 3, 4, 5, 6, 7, 8, 9, 10, 11, 12, 13, 14, 15, 16, 17, 18, 19, 20] [21, 22, 23, 24, 25, 26] (ok_X5_digest (x := r 0) (M := r 1) (L := r 8) (Dk := r 15) (c := r 20) (se := r 21) (wk := r 23) (sp := r 25) (q0 := r 2) (a0 := r 3) (q1 := r 4) (a1 := r 5) (q2 := r 6) (a2 := r 7) (h0 := r 9) (b0 := r 10) (h1 := r 11) (b1 := r 12) (h2 := r 13) (b2 := r 14) (w0 := r 16) (d0 := r 17) (w1 := r 18) (d1 := r 19) (mf := rf3 r 2 2 3) (lf := rf3 r 9 2 3) (df := rf3 r 16 2 2) (fun _ => rfl) (fun _ => rfl) (fun _ => rfl) (fun _ => rfl) (fun _ => rfl) (fun _ => rfl) (fun _ => rfl) (fun _ => rfl) h0) rfl rfl rfl rfl (by decide) ?_
    rintro o w hp
    obtain ⟨g, e1, e2⟩ := PX.inl hp
    subst e1; subst e2
    exact ⟨_, [6, 7, 8, 9, 10, 11, 12, 13, 14, 15, 16, 17, 18, 19, 20, 21, 22, 23, 24, 25, 26, 0, 1, 2, 3, 4, 5], PN.mk g rfl rfl, rfl, rfl⟩
