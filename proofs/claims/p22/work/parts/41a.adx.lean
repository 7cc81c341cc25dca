def gX_know (N K : Nat) (S : CS) (p0 : Int32) (p1 : Int32) (p2 : Int32) (p3 : Int32) : Option ((Int32 × CS) ⊕ String) := (fX5_know N K ((S.1 (ix 3 p0)).1) ((S.1 (ix 3 p0)).2) (S.2.2.2.1 0) (S.2.2.2.1 1) (S.2.2.2.1 2) (S.2.2.2.1 3) (S.2.2.2.1 4) (S.2.2.2.1 5) p0 p1 p2 p3).map (fun o => match o with | .inl z => .inl (z.1, ((upm S.1 (ix 3 p0) (z.2.1, z.2.2.1)), S.2.1, S.2.2.1, (upm (upm (upm (upm S.2.2.2.1 0 z.2.2.2.1) 1 z.2.2.2.2.1) 2 z.2.2.2.2.2.1) 3 z.2.2.2.2.2.2), S.2.2.2.2.1, S.2.2.2.2.2.1, S.2.2.2.2.2.2)) | .inr E => .inr E)
set_option maxHeartbeats 4000000 in
set_option maxRecDepth 100000 in
theorem ogX_know {N K : Nat} {r : Nat → Nat} {S : CS} {p0 : Int32} {p1 : Int32} {p2 : Int32} {p3 : Int32} {x : (Int32 × CS) ⊕ String} (hE : gX_know N K S p0 p1 p2 p3 = some x) : OkM yX5_know (.code yX5_know cX5_know 6 (some .int)) (2 * K + 10) 4 24 [.ref (r 0), .int p0, .int p1, .int p2, .int p3] (WX r S) ((PX (U := Int32 × CS) (fun z _ => some (.int z.1)) (fun z _ => WX r z.2) (WX r S)) x) := by
  unfold gX_know at hE
  obtain ⟨x0, h0, h1⟩ := Option.map_eq_some_iff.mp hE
  subst h1
  clear hE
  rcases lt3 (ix_lt (n := 3) (p := p0) (by decide)) with e | e | e
  · rw [e] at h0
    try rw [e]
    refine ok_fr (wc := [(r 0, .inr (7, [.ref (r 1), .ref (r 8), .ref (r 15), .ref (r 20), .ref (r 21), .ref (r 23), .ref (r 25)])), (r 1, .inl (1, 3, .inr (.inr (.inr (.inr (rf3 r 2 2 3)))))), (r 2, .inr (4, [.ref (r 3), .int (S.1 0).1])), (r 3, .inl (0, 2646, .inl (S.1 0).2)), (r 20, .inr (2, [.int (S.2.2.2.1 0), .int (S.2.2.2.1 1), .int (S.2.2.2.1 2), .int (S.2.2.2.1 3), .int (S.2.2.2.1 4), .int (S.2.2.2.1 5)]))]) (wr := [(r 4, .inr (4, [.ref (r 5), .int (S.1 1).1])), (r 5, .inl (0, 2646, .inl (S.1 1).2)), (r 6, .inr (4, [.ref (r 7), .int (S.1 2).1])), (r 7, .inl (0, 2646, .inl (S.1 2).2)), (r 8, .inl (2, 3, .inr (.inr (.inr (.inr (rf3 r 9 2 3)))))), (r 9, .inr (3, [.int (S.2.1 0).1, .ref (r 10), .int (S.2.1 0).2.1])), (r 10, .inl (0, 21, .inl (S.2.1 0).2.2)), (r 11, .inr (3, [.int (S.2.1 1).1, .ref (r 12), .int (S.2.1 1).2.1])), (r 12, .inl (0, 21, .inl (S.2.1 1).2.2)), (r 13, .inr (3, [.int (S.2.1 2).1, .ref (r 14), .int (S.2.1 2).2.1])), (r 14, .inl (0, 21, .inl (S.2.1 2).2.2)), (r 15, .inl (3, 2, .inr (.inr (.inr (.inr (rf3 r 16 2 2)))))), (r 16, .inr (6, [.ref (r 17)])), (r 17, .inl (0, 21, .inl (S.2.2.1 0))), (r 18, .inr (6, [.ref (r 19)])), (r 19, .inl (0, 21, .inl (S.2.2.1 1))), (r 21, .inr (5, [.ref (r 22)])), (r 22, .inl (0, 21, .inl S.2.2.2.2.1)), (r 23, .inr (6, [.ref (r 24)])), (r 24, .inl (0, 21, .inl S.2.2.2.2.2.1)), (r 25, .inr (6, [.ref (r 26)])), (r 26, .inl (0, 21, .inl S.2.2.2.2.2.2))]) [0, 1, 2, 3, 20] [4, 5, 6, 7, 8, 9, 10, 11, 12, 13, 14, 15, 16, 17, 18, 19, 21, 22, 23, 24, 25, 26] (ok_X5_know (x := r 0) (M := r 1) (L := r 8) (Dk := r 15) (c := r 20) (se := r 21) (wk := r 23) (sp := r 25) (q := r 2) (a := r 3) (mf := rf3 r 2 2 3) (fun h9 => by have h8 := ix_in h9; rw [e] at h8; exact (congrArg (rf3 r 2 2 3) h8.symm).trans rfl) h0) rfl rfl rfl rfl (by decide) ?_
    rintro o w hp
    cases x0 with
    | inl z =>
      obtain ⟨g, e1, e2⟩ := PX.inl hp
      subst e1; subst e2
      exact ⟨_, [22, 23, 24, 25, 0, 1, 2, 3, 4, 5, 6, 7, 8, 9, 10, 11, 12, 13, 14, 15, 26, 16, 17, 18, 19, 20, 21], PX.mk g rfl rfl, rfl, rfl⟩
    | inr E =>
      obtain ⟨e1, e2⟩ := PX.inr hp
      subst e1; subst e2
      exact ⟨_, [22, 23, 24, 25, 0, 1, 2, 3, 4, 5, 6, 7, 8, 9, 10, 11, 12, 13, 14, 15, 26, 16, 17, 18, 19, 20, 21], PX.er, rfl, rfl⟩
  · rw [e] at h0
    try rw [e]
    refine ok_fr (wc := [(r 0, .inr (7, [.ref (r 1), .ref (r 8), .ref (r 15), .ref (r 20), .ref (r 21), .ref (r 23), .ref (r 25)])), (r 1, .inl (1, 3, .inr (.inr (.inr (.inr (rf3 r 2 2 3)))))), (r 4, .inr (4, [.ref (r 5), .int (S.1 1).1])), (r 5, .inl (0, 2646, .inl (S.1 1).2)), (r 20, .inr (2, [.int (S.2.2.2.1 0), .int (S.2.2.2.1 1), .int (S.2.2.2.1 2), .int (S.2.2.2.1 3), .int (S.2.2.2.1 4), .int (S.2.2.2.1 5)]))]) (wr := [(r 2, .inr (4, [.ref (r 3), .int (S.1 0).1])), (r 3, .inl (0, 2646, .inl (S.1 0).2)), (r 6, .inr (4, [.ref (r 7), .int (S.1 2).1])), (r 7, .inl (0, 2646, .inl (S.1 2).2)), (r 8, .inl (2, 3, .inr (.inr (.inr (.inr (rf3 r 9 2 3)))))), (r 9, .inr (3, [.int (S.2.1 0).1, .ref (r 10), .int (S.2.1 0).2.1])), (r 10, .inl (0, 21, .inl (S.2.1 0).2.2)), (r 11, .inr (3, [.int (S.2.1 1).1, .ref (r 12), .int (S.2.1 1).2.1])), (r 12, .inl (0, 21, .inl (S.2.1 1).2.2)), (r 13, .inr (3, [.int (S.2.1 2).1, .ref (r 14), .int (S.2.1 2).2.1])), (r 14, .inl (0, 21, .inl (S.2.1 2).2.2)), (r 15, .inl (3, 2, .inr (.inr (.inr (.inr (rf3 r 16 2 2)))))), (r 16, .inr (6, [.ref (r 17)])), (r 17, .inl (0, 21, .inl (S.2.2.1 0))), (r 18, .inr (6, [.ref (r 19)])), (r 19, .inl (0, 21, .inl (S.2.2.1 1))), (r 21, .inr (5, [.ref (r 22)])), (r 22, .inl (0, 21, .inl S.2.2.2.2.1)), (r 23, .inr (6, [.ref (r 24)])), (r 24, .inl (0, 21, .inl S.2.2.2.2.2.1)), (r 25, .inr (6, [.ref (r 26)])), (r 26, .inl (0, 21, .inl S.2.2.2.2.2.2))]) [0, 1, 4, 5, 20] [2, 3, 6, 7, 8, 9, 10, 11, 12, 13, 14, 15, 16, 17, 18, 19, 21, 22, 23, 24, 25, 26] (ok_X5_know (x := r 0) (M := r 1) (L := r 8) (Dk := r 15) (c := r 20) (se := r 21) (wk := r 23) (sp := r 25) (q := r 4) (a := r 5) (mf := rf3 r 2 2 3) (fun h9 => by have h8 := ix_in h9; rw [e] at h8; exact (congrArg (rf3 r 2 2 3) h8.symm).trans rfl) h0) rfl rfl rfl rfl (by decide) ?_
    rintro o w hp
    cases x0 with
    | inl z =>
      obtain ⟨g, e1, e2⟩ := PX.inl hp
      subst e1; subst e2
      exact ⟨_, [22, 23, 0, 1, 24, 25, 2, 3, 4, 5, 6, 7, 8, 9, 10, 11, 12, 13, 14, 15, 26, 16, 17, 18, 19, 20, 21], PX.mk g rfl rfl, rfl, rfl⟩
    | inr E =>
      obtain ⟨e1, e2⟩ := PX.inr hp
      subst e1; subst e2
      exact ⟨_, [22, 23, 0, 1, 24, 25, 2, 3, 4, 5, 6, 7, 8, 9, 10, 11, 12, 13, 14, 15, 26, 16, 17, 18, 19, 20, 21], PX.er, rfl, rfl⟩
  · rw [e] at h0
    try rw [e]
    refine ok_fr (wc := [(r 0, .inr (7, [.ref (r 1), .ref (r 8), .ref (r 15), .ref (r 20), .ref (r 21), .ref (r 23), .ref (r 25)])), (r 1, .inl (1, 3, .inr (.inr (.inr (.inr (rf3 r 2 2 3)))))), (r 6, .inr (4, [.ref (r 7), .int (S.1 2).1])), (r 7, .inl (0, 2646, .inl (S.1 2).2)), (r 20, .inr (2, [.int (S.2.2.2.1 0), .int (S.2.2.2.1 1), .int (S.2.2.2.1 2), .int (S.2.2.2.1 3), .int (S.2.2.2.1 4), .int (S.2.2.2.1 5)]))]) (wr := [(r 2, .inr (4, [.ref (r 3), .int (S.1 0).1])), (r 3, .inl (0, 2646, .inl (S.1 0).2)), (r 4, .inr (4, [.ref (r 5), .int (S.1 1).1])), (r 5, .inl (0, 2646, .inl (S.1 1).2)), (r 8, .inl (2, 3, .inr (.inr (.inr (.inr (rf3 r 9 2 3)))))), (r 9, .inr (3, [.int (S.2.1 0).1, .ref (r 10), .int (S.2.1 0).2.1])), (r 10, .inl (0, 21, .inl (S.2.1 0).2.2)), (r 11, .inr (3, [.int (S.2.1 1).1, .ref (r 12), .int (S.2.1 1).2.1])), (r 12, .inl (0, 21, .inl (S.2.1 1).2.2)), (r 13, .inr (3, [.int (S.2.1 2).1, .ref (r 14), .int (S.2.1 2).2.1])), (r 14, .inl (0, 21, .inl (S.2.1 2).2.2)), (r 15, .inl (3, 2, .inr (.inr (.inr (.inr (rf3 r 16 2 2)))))), (r 16, .inr (6, [.ref (r 17)])), (r 17, .inl (0, 21, .inl (S.2.2.1 0))), (r 18, .inr (6, [.ref (r 19)])), (r 19, .inl (0, 21, .inl (S.2.2.1 1))), (r 21, .inr (5, [.ref (r 22)])), (r 22, .inl (0, 21, .inl S.2.2.2.2.1)), (r 23, .inr (6, [.ref (r 24)])), (r 24, .inl (0, 21, .inl S.2.2.2.2.2.1)), (r 25, .inr (6, [.ref (r 26)])), (r 26, .inl (0, 21, .inl S.2.2.2.2.2.2))]) [0, 1, 6, 7, 20] [2, 3, 4, 5, 8, 9, 10, 11, 12, 13, 14, 15, 16, 17, 18, 19, 21, 22, 23, 24, 25, 26] (ok_X5_know (x := r 0) (M := r 1) (L := r 8) (Dk := r 15) (c := r 20) (se := r 21) (wk := r 23) (sp := r 25) (q := r 6) (a := r 7) (mf := rf3 r 2 2 3) (fun h9 => by have h8 := ix_in h9; rw [e] at h8; exact (congrArg (rf3 r 2 2 3) h8.symm).trans rfl) h0) rfl rfl rfl rfl (by decide) ?_
    rintro o w hp
    cases x0 with
    | inl z =>
      obtain ⟨g, e1, e2⟩ := PX.inl hp
      subst e1; subst e2
      exact ⟨_, [22, 23, 0, 1, 2, 3, 24, 25, 4, 5, 6, 7, 8, 9, 10, 11, 12, 13, 14, 15, 26, 16, 17, 18, 19, 20, 21], PX.mk g rfl rfl, rfl, rfl⟩
    | inr E =>
      obtain ⟨e1, e2⟩ := PX.inr hp
      subst e1; subst e2
      exact ⟨_, [22, 23, 0, 1, 2, 3, 24, 25, 4, 5, 6, 7, 8, 9, 10, 11, 12, 13, 14, 15, 26, 16, 17, 18, 19, 20, 21], PX.er, rfl, rfl⟩
def gX_few (N K : Nat) (S : CS) (p0 : Int32) (p1 : Int32) (p2 : Int32) : Option ((Int32 × CS) ⊕ String) := (fX5_few N K ((S.1 (ix 3 p0)).1) ((S.1 (ix 3 p0)).2) (S.2.2.2.1 0) (S.2.2.2.1 1) (S.2.2.2.1 2) (S.2.2.2.1 3) (S.2.2.2.1 4) (S.2.2.2.1 5) p0 p1 p2).map (fun o => match o with | .inl z => .inl (z.1, ((upm S.1 (ix 3 p0) (z.2.1, z.2.2.1)), S.2.1, S.2.2.1, (upm (upm (upm (upm S.2.2.2.1 0 z.2.2.2.1) 1 z.2.2.2.2.1) 2 z.2.2.2.2.2.1) 3 z.2.2.2.2.2.2), S.2.2.2.2.1, S.2.2.2.2.2.1, S.2.2.2.2.2.2)) | .inr E => .inr E)
set_option maxHeartbeats 4000000 in
set_option maxRecDepth 100000 in
theorem ogX_few {N K : Nat} {r : Nat → Nat} {S : CS} {p0 : Int32} {p1 : Int32} {p2 : Int32} {x : (Int32 × CS) ⊕ String} (hE : gX_few N K S p0 p1 p2 = some x) : OkM yX5_few (.code yX5_few cX5_few 7 (some .int)) (2 * K + 9) 3 18 [.ref (r 0), .int p0, .int p1, .int p2] (WX r S) ((PX (U := Int32 × CS) (fun z _ => some (.int z.1)) (fun z _ => WX r z.2) (WX r S)) x) := by
  unfold gX_few at hE
  obtain ⟨x0, h0, h1⟩ := Option.map_eq_some_iff.mp hE
  subst h1
  clear hE
  rcases lt3 (ix_lt (n := 3) (p := p0) (by decide)) with e | e | e
  · rw [e] at h0
    try rw [e]
    refine ok_fr (wc := [(r 0, .inr (7, [.ref (r 1), .ref (r 8), .ref (r 15), .ref (r 20), .ref (r 21), .ref (r 23), .ref (r 25)])), (r 1, .inl (1, 3, .inr (.inr (.inr (.inr (rf3 r 2 2 3)))))), (r 2, .inr (4, [.ref (r 3), .int (S.1 0).1])), (r 3, .inl (0, 2646, .inl (S.1 0).2)), (r 20, .inr (2, [.int (S.2.2.2.1 0), .int (S.2.2.2.1 1), .int (S.2.2.2.1 2), .int (S.2.2.2.1 3), .int (S.2.2.2.1 4), .int (S.2.2.2.1 5)]))]) (wr := [(r 4, .inr (4, [.ref (r 5), .int (S.1 1).1])), (r 5, .inl (0, 2646, .inl (S.1 1).2)), (r 6, .inr (4, [.ref (r 7), .int (S.1 2).1])), (r 7, .inl (0, 2646, .inl (S.1 2).2)), (r 8, .inl (2, 3, .inr (.inr (.inr (.inr (rf3 r 9 2 3)))))), (r 9, .inr (3, [.int (S.2.1 0).1, .ref (r 10), .int (S.2.1 0).2.1])), (r 10, .inl (0, 21, .inl (S.2.1 0).2.2)), (r 11, .inr (3, [.int (S.2.1 1).1, .ref (r 12), .int (S.2.1 1).2.1])), (r 12, .inl (0, 21, .inl (S.2.1 1).2.2)), (r 13, .inr (3, [.int (S.2.1 2).1, .ref (r 14), .int (S.2.1 2).2.1])), (r 14, .inl (0, 21, .inl (S.2.1 2).2.2)), (r 15, .inl (3, 2, .inr (.inr (.inr (.inr (rf3 r 16 2 2)))))), (r 16, .inr (6, [.ref (r 17)])), (r 17, .inl (0, 21, .inl (S.2.2.1 0))), (r 18, .inr (6, [.ref (r 19)])), (r 19, .inl (0, 21, .inl (S.2.2.1 1))), (r 21, .inr (5, [.ref (r 22)])), (r 22, .inl (0, 21, .inl S.2.2.2.2.1)), (r 23, .inr (6, [.ref (r 24)])), (r 24, .inl (0, 21, .inl S.2.2.2.2.2.1)), (r 25, .inr (6, [.ref (r 26)])), (r 26, .inl (0, 21, .inl S.2.2.2.2.2.2))]) [0, 1, 2, 3, 20] [4, 5, 6, 7, 8, 9, 10, 11, 12, 13, 14, 15, 16, 17, 18, 19, 21, 22, 23, 24, 25, 26] (ok_X5_few (x := r 0) (M := r 1) (L := r 8) (Dk := r 15) (c := r 20) (se := r 21) (wk := r 23) (sp := r 25) (q := r 2) (a := r 3) (mf := rf3 r 2 2 3) (fun h9 => by have h8 := ix_in h9; rw [e] at h8; exact (congrArg (rf3 r 2 2 3) h8.symm).trans rfl) h0) rfl rfl rfl rfl (by decide) ?_
    rintro o w hp
    cases x0 with
    | inl z =>
      obtain ⟨g, e1, e2⟩ := PX.inl hp
      subst e1; subst e2
      exact ⟨_, [22, 23, 24, 25, 0, 1, 2, 3, 4, 5, 6, 7, 8, 9, 10, 11, 12, 13, 14, 15, 26, 16, 17, 18, 19, 20, 21], PX.mk g rfl rfl, rfl, rfl⟩
    | inr E =>
      obtain ⟨e1, e2⟩ := PX.inr hp
      subst e1; subst e2
      exact ⟨_, [22, 23, 24, 25, 0, 1, 2, 3, 4, 5, 6, 7, 8, 9, 10, 11, 12, 13, 14, 15, 26, 16, 17, 18, 19, 20, 21], PX.er, rfl, rfl⟩
  · rw [e] at h0
    try rw [e]
    refine ok_fr (wc := [(r 0, .inr (7, [.ref (r 1), .ref (r 8), .ref (r 15), .ref (r 20), .ref (r 21), .ref (r 23), .ref (r 25)])), (r 1, .inl (1, 3, .inr (.inr (.inr (.inr (rf3 r 2 2 3)))))), (r 4, .inr (4, [.ref (r 5), .int (S.1 1).1])), (r 5, .inl (0, 2646, .inl (S.1 1).2)), (r 20, .inr (2, [.int (S.2.2.2.1 0), .int (S.2.2.2.1 1), .int (S.2.2.2.1 2), .int (S.2.2.2.1 3), .int (S.2.2.2.1 4), .int (S.2.2.2.1 5)]))]) (wr := [(r 2, .inr (4, [.ref (r 3), .int (S.1 0).1])), (r 3, .inl (0, 2646, .inl (S.1 0).2)), (r 6, .inr (4, [.ref (r 7), .int (S.1 2).1])), (r 7, .inl (0, 2646, .inl (S.1 2).2)), (r 8, .inl (2, 3, .inr (.inr (.inr (.inr (rf3 r 9 2 3)))))), (r 9, .inr (3, [.int (S.2.1 0).1, .ref (r 10), .int (S.2.1 0).2.1])), (r 10, .inl (0, 21, .inl (S.2.1 0).2.2)), (r 11, .inr (3, [.int (S.2.1 1).1, .ref (r 12), .int (S.2.1 1).2.1])), (r 12, .inl (0, 21, .inl (S.2.1 1).2.2)), (r 13, .inr (3, [.int (S.2.1 2).1, .ref (r 14), .int (S.2.1 2).2.1])), (r 14, .inl (0, 21, .inl (S.2.1 2).2.2)), (r 15, .inl (3, 2, .inr (.inr (.inr (.inr (rf3 r 16 2 2)))))), (r 16, .inr (6, [.ref (r 17)])), (r 17, .inl (0, 21, .inl (S.2.2.1 0))), (r 18, .inr (6, [.ref (r 19)])), (r 19, .inl (0, 21, .inl (S.2.2.1 1))), (r 21, .inr (5, [.ref (r 22)])), (r 22, .inl (0, 21, .inl S.2.2.2.2.1)), (r 23, .inr (6, [.ref (r 24)])), (r 24, .inl (0, 21, .inl S.2.2.2.2.2.1)), (r 25, .inr (6, [.ref (r 26)])), (r 26, .inl (0, 21, .inl S.2.2.2.2.2.2))]) [0, 1, 4, 5, 20] [2, 3, 6, 7, 8, 9, 10, 11, 12, 13, 14, 15, 16, 17, 18, 19, 21, 22, 23, 24, 25, 26] (ok_X5_few (x := r 0) (M := r 1) (L := r 8) (Dk := r 15) (c := r 20) (se := r 21) (wk := r 23) (sp := r 25) (q := r 4) (a := r 5) (mf := rf3 r 2 2 3) (fun h9 => by have h8 := ix_in h9; rw [e] at h8; exact (congrArg (rf3 r 2 2 3) h8.symm).trans rfl) h0) rfl rfl rfl rfl (by decide) ?_
    rintro o w hp
    cases x0 with
    | inl z =>
      obtain ⟨g, e1, e2⟩ := PX.inl hp
      subst e1; subst e2
      exact ⟨_, [22, 23, 0, 1, 24, 25, 2, 3, 4, 5, 6, 7, 8, 9, 10, 11, 12, 13, 14, 15, 26, 16, 17, 18, 19, 20, 21], PX.mk g rfl rfl, rfl, rfl⟩
    | inr E =>
      obtain ⟨e1, e2⟩ := PX.inr hp
      subst e1; subst e2
      exact ⟨_, [22, 23, 0, 1, 24, 25, 2, 3, 4, 5, 6, 7, 8, 9, 10, 11, 12, 13, 14, 15, 26, 16, 17, 18, 19, 20, 21], PX.er, rfl, rfl⟩
  · rw [e] at h0
    try rw [e]
    refine ok_fr (wc := [(r 0, .inr (7, [.ref (r 1), .ref (r 8), .ref (r 15), .ref (r 20), .ref (r 21), .ref (r 23), .ref (r 25)])), (r 1, .inl (1, 3, .inr (.inr (.inr (.inr (rf3 r 2 2 3)))))), (r 6, .inr (4, [.ref (r 7), .int (S.1 2).1])), (r 7, .inl (0, 2646, .inl (S.1 2).2)), (r 20, .inr (2, [.int (S.2.2.2.1 0), .int (S.2.2.2.1 1), .int (S.2.2.2.1 2), .int (S.2.2.2.1 3), .int (S.2.2.2.1 4), .int (S.2.2.2.1 5)]))]) (wr := [(r 2, .inr (4, [.ref (r 3), .int (S.1 0).1])), (r 3, .inl (0, 2646, .inl (S.1 0).2)), (r 4, .inr (4, [.ref (r 5), .int (S.1 1).1])), (r 5, .inl (0, 2646, .inl (S.1 1).2)), (r 8, .inl (2, 3, .inr (.inr (.inr (.inr (rf3 r 9 2 3)))))), (r 9, .inr (3, [.int (S.2.1 0).1, .ref (r 10), .int (S.2.1 0).2.1])), (r 10, .inl (0, 21, .inl (S.2.1 0).2.2)), (r 11, .inr (3, [.int (S.2.1 1).1, .ref (r 12), .int (S.2.1 1).2.1])), (r 12, .inl (0, 21, .inl (S.2.1 1).2.2)), (r 13, .inr (3, [.int (S.2.1 2).1, .ref (r 14), .int (S.2.1 2).2.1])), (r 14, .inl (0, 21, .inl (S.2.1 2).2.2)), (r 15, .inl (3, 2, .inr (.inr (.inr (.inr (rf3 r 16 2 2)))))), (r 16, .inr (6, [.ref (r 17)])), (r 17, .inl (0, 21, .inl (S.2.2.1 0))), (r 18, .inr (6, [.ref (r 19)])), (r 19, .inl (0, 21, .inl (S.2.2.1 1))), (r 21, .inr (5, [.ref (r 22)])), (r 22, .inl (0, 21, .inl S.2.2.2.2.1)), (r 23, .inr (6, [.ref (r 24)])), (r 24, .inl (0, 21, .inl S.2.2.2.2.2.1)), (r 25, .inr (6, [.ref (r 26)])), (r 26, .inl (0, 21, .inl S.2.2.2.2.2.2))]) [0, 1, 6, 7, 20] [2, 3, 4, 5, 8, 9, 10, 11, 12, 13, 14, 15, 16, 17, 18, 19, 21, 22, 23, 24, 25, 26] (ok_X5_few (x := r 0) (M := r 1) (L := r 8) (Dk := r 15) (c := r 20) (se := r 21) (wk := r 23) (sp := r 25) (q := r 6) (a := r 7) (mf := rf3 r 2 2 3) (fun h9 => by have h8 := ix_in h9; rw [e] at h8; exact (congrArg (rf3 r 2 2 3) h8.symm).trans rfl) h0) rfl rfl rfl rfl (by decide) ?_
    rintro o w hp
    cases x0 with
    | inl z =>
      obtain ⟨g, e1, e2⟩ := PX.inl hp
      subst e1; subst e2
      exact ⟨_, [22, 23, 0, 1, 2, 3, 24, 25, 4, 5, 6, 7, 8, 9, 10, 11, 12, 13, 14, 15, 26, 16, 17, 18, 19, 20, 21], PX.mk g rfl rfl, rfl, rfl⟩
    | inr E =>
      obtain ⟨e1, e2⟩ := PX.inr hp
      subst e1; subst e2
      exact ⟨_, [22, 23, 0, 1, 2, 3, 24, 25, 4, 5, 6, 7, 8, 9, 10, 11, 12, 13, 14, 15, 26, 16, 17, 18, 19, 20, 21], PX.er, rfl, rfl⟩
def gX_surplus (N K : Nat) (S : CS) (p0 : Int32) (p1 : Int32) : Option ((Int32 × CS) ⊕ String) := (fX5_surplus N K ((S.1 (ix 3 p0)).1) ((S.1 (ix 3 p0)).2) (S.2.2.2.1 0) (S.2.2.2.1 1) (S.2.2.2.1 2) (S.2.2.2.1 3) (S.2.2.2.1 4) (S.2.2.2.1 5) p0 p1).map (fun o => match o with | .inl z => .inl (z.1, ((upm S.1 (ix 3 p0) (z.2.1, z.2.2.1)), S.2.1, S.2.2.1, (upm (upm (upm (upm S.2.2.2.1 0 z.2.2.2.1) 1 z.2.2.2.2.1) 2 z.2.2.2.2.2.1) 3 z.2.2.2.2.2.2), S.2.2.2.2.1, S.2.2.2.2.2.1, S.2.2.2.2.2.2)) | .inr E => .inr E)
set_option maxHeartbeats 4000000 in
set_option maxRecDepth 100000 in
theorem ogX_surplus {N K : Nat} {r : Nat → Nat} {S : CS} {p0 : Int32} {p1 : Int32} {x : (Int32 × CS) ⊕ String} (hE : gX_surplus N K S p0 p1 = some x) : OkM yX5_surplus (.code yX5_surplus cX5_surplus 7 (some .int)) (2 * K + 9) 2 12 [.ref (r 0), .int p0, .int p1] (WX r S) ((PX (U := Int32 × CS) (fun z _ => some (.int z.1)) (fun z _ => WX r z.2) (WX r S)) x) := by
  unfold gX_surplus at hE
  obtain ⟨x0, h0, h1⟩ := Option.map_eq_some_iff.mp hE
  subst h1
  clear hE
  rcases lt3 (ix_lt (n := 3) (p := p0) (by decide)) with e | e | e
  · rw [e] at h0
    try rw [e]
    refine ok_fr (wc := [(r 0, .inr (7, [.ref (r 1), .ref (r 8), .ref (r 15), .ref (r 20), .ref (r 21), .ref (r 23), .ref (r 25)])), (r 1, .inl (1, 3, .inr (.inr (.inr (.inr (rf3 r 2 2 3)))))), (r 2, .inr (4, [.ref (r 3), .int (S.1 0).1])), (r 3, .inl (0, 2646, .inl (S.1 0).2)), (r 20, .inr (2, [.int (S.2.2.2.1 0), .int (S.2.2.2.1 1), .int (S.2.2.2.1 2), .int (S.2.2.2.1 3), .int (S.2.2.2.1 4), .int (S.2.2.2.1 5)]))]) (wr := [(r 4, .inr (4, [.ref (r 5), .int (S.1 1).1])), (r 5, .inl (0, 2646, .inl (S.1 1).2)), (r 6, .inr (4, [.ref (r 7), .int (S.1 2).1])), (r 7, .inl (0, 2646, .inl (S.1 2).2)), (r 8, .inl (2, 3, .inr (.inr (.inr (.inr (rf3 r 9 2 3)))))), (r 9, .inr (3, [.int (S.2.1 0).1, .ref (r 10), .int (S.2.1 0).2.1])), (r 10, .inl (0, 21, .inl (S.2.1 0).2.2)), (r 11, .inr (3, [.int (S.2.1 1).1, .ref (r 12), .int (S.2.1 1).2.1])), (r 12, .inl (0, 21, .inl (S.2.1 1).2.2)), (r 13, .inr (3, [.int (S.2.1 2).1, .ref (r 14), .int (S.2.1 2).2.1])), (r 14, .inl (0, 21, .inl (S.2.1 2).2.2)), (r 15, .inl (3, 2, .inr (.inr (.inr (.inr (rf3 r 16 2 2)))))), (r 16, .inr (6, [.ref (r 17)])), (r 17, .inl (0, 21, .inl (S.2.2.1 0))), (r 18, .inr (6, [.ref (r 19)])), (r 19, .inl (0, 21, .inl (S.2.2.1 1))), (r 21, .inr (5, [.ref (r 22)])), (r 22, .inl (0, 21, .inl S.2.2.2.2.1)), (r 23, .inr (6, [.ref (r 24)])), (r 24, .inl (0, 21, .inl S.2.2.2.2.2.1)), (r 25, .inr (6, [.ref (r 26)])), (r 26, .inl (0, 21, .inl S.2.2.2.2.2.2))]) [0, 1, 2, 3, 20] [4, 5, 6, 7, 8, 9, 10, 11, 12, 13, 14, 15, 16, 17, 18, 19, 21, 22, 23, 24, 25, 26] (ok_X5_surplus (x := r 0) (M := r 1) (L := r 8) (Dk := r 15) (c := r 20) (se := r 21) (wk := r 23) (sp := r 25) (q := r 2) (a := r 3) (mf := rf3 r 2 2 3) (fun h9 => by have h8 := ix_in h9; rw [e] at h8; exact (congrArg (rf3 r 2 2 3) h8.symm).trans rfl) h0) rfl rfl rfl rfl (by decide) ?_
    rintro o w hp
    cases x0 with
    | inl z =>
      obtain ⟨g, e1, e2⟩ := PX.inl hp
      subst e1; subst e2
      exact ⟨_, [22, 23, 24, 25, 0, 1, 2, 3, 4, 5, 6, 7, 8, 9, 10, 11, 12, 13, 14, 15, 26, 16, 17, 18, 19, 20, 21], PX.mk g rfl rfl, rfl, rfl⟩
    | inr E =>
      obtain ⟨e1, e2⟩ := PX.inr hp
      subst e1; subst e2
      exact ⟨_, [22, 23, 24, 25, 0, 1, 2, 3, 4, 5, 6, 7, 8, 9, 10, 11, 12, 13, 14, 15, 26, 16, 17, 18, 19, 20, 21], PX.er, rfl, rfl⟩
  · rw [e] at h0
    try rw [e]
    refine ok_fr (wc := [(r 0, .inr (7, [.ref (r 1), .ref (r 8), .ref (r 15), .ref (r 20), .ref (r 21), .ref (r 23), .ref (r 25)])), (r 1, .inl (1, 3, .inr (.inr (.inr (.inr (rf3 r 2 2 3)))))), (r 4, .inr (4, [.ref (r 5), .int (S.1 1).1])), (r 5, .inl (0, 2646, .inl (S.1 1).2)), (r 20, .inr (2, [.int (S.2.2.2.1 0), .int (S.2.2.2.1 1), .int (S.2.2.2.1 2), .int (S.2.2.2.1 3), .int (S.2.2.2.1 4), .int (S.2.2.2.1 5)]))]) (wr := [(r 2, .inr (4, [.ref (r 3), .int (S.1 0).1])), (r 3, .inl (0, 2646, .inl (S.1 0).2)), (r 6, .inr (4, [.ref (r 7), .int (S.1 2).1])), (r 7, .inl (0, 2646, .inl (S.1 2).2)), (r 8, .inl (2, 3, .inr (.inr (.inr (.inr (rf3 r 9 2 3)))))), (r 9, .inr (3, [.int (S.2.1 0).1, .ref (r 10), .int (S.2.1 0).2.1])), (r 10, .inl (0, 21, .inl (S.2.1 0).2.2)), (r 11, .inr (3, [.int (S.2.1 1).1, .ref (r 12), .int (S.2.1 1).2.1])), (r 12, .inl (0, 21, .inl (S.2.1 1).2.2)), (r 13, .inr (3, [.int (S.2.1 2).1, .ref (r 14), .int (S.2.1 2).2.1])), (r 14, .inl (0, 21, .inl (S.2.1 2).2.2)), (r 15, .inl (3, 2, .inr (.inr (.inr (.inr (rf3 r 16 2 2)))))), (r 16, .inr (6, [.ref (r 17)])), (r 17, .inl (0, 21, .inl (S.2.2.1 0))), (r 18, .inr (6, [.ref (r 19)])), (r 19, .inl (0, 21, .inl (S.2.2.1 1))), (r 21, .inr (5, [.ref (r 22)])), (r 22, .inl (0, 21, .inl S.2.2.2.2.1)), (r 23, .inr (6, [.ref (r 24)])), (r 24, .inl (0, 21, .inl S.2.2.2.2.2.1)), (r 25, .inr (6, [.ref (r 26)])), (r 26, .inl (0, 21, .inl S.2.2.2.2.2.2))]) [0, 1, 4, 5, 20] [2, 3, 6, 7, 8, 9, 10, 11, 12, 13, 14, 15, 16, 17, 18, 19, 21, 22, 23, 24, 25, 26] (ok_X5_surplus (x := r 0) (M := r 1) (L := r 8) (Dk := r 15) (c := r 20) (se := r 21) (wk := r 23) (sp := r 25) (q := r 4) (a := r 5) (mf := rf3 r 2 2 3) (fun h9 => by have h8 := ix_in h9; rw [e] at h8; exact (congrArg (rf3 r 2 2 3) h8.symm).trans rfl) h0) rfl rfl rfl rfl (by decide) ?_
    rintro o w hp
    cases x0 with
    | inl z =>
      obtain ⟨g, e1, e2⟩ := PX.inl hp
      subst e1; subst e2
      exact ⟨_, [22, 23, 0, 1, 24, 25, 2, 3, 4, 5, 6, 7, 8, 9, 10, 11, 12, 13, 14, 15, 26, 16, 17, 18, 19, 20, 21], PX.mk g rfl rfl, rfl, rfl⟩
    | inr E =>
      obtain ⟨e1, e2⟩ := PX.inr hp
      subst e1; subst e2
      exact ⟨_, [22, 23, 0, 1, 24, 25, 2, 3, 4, 5, 6, 7, 8, 9, 10, 11, 12, 13, 14, 15, 26, 16, 17, 18, 19, 20, 21], PX.er, rfl, rfl⟩
  · rw [e] at h0
    try rw [e]
    refine ok_fr (wc := [(r 0, .inr (7, [.ref (r 1), .ref (r 8), .ref (r 15), .ref (r 20), .ref (r 21), .ref (r 23), .ref (r 25)])), (r 1, .inl (1, 3, .inr (.inr (.inr (.inr (rf3 r 2 2 3)))))), (r 6, .inr (4, [.ref (r 7), .int (S.1 2).1])), (r 7, .inl (0, 2646, .inl (S.1 2).2)), (r 20, .inr (2, [.int (S.2.2.2.1 0), .int (S.2.2.2.1 1), .int (S.2.2.2.1 2), .int (S.2.2.2.1 3), .int (S.2.2.2.1 4), .int (S.2.2.2.1 5)]))]) (wr := [(r 2, .inr (4, [.ref (r 3), .int (S.1 0).1])), (r 3, .inl (0, 2646, .inl (S.1 0).2)), (r 4, .inr (4, [.ref (r 5), .int (S.1 1).1])), (r 5, .inl (0, 2646, .inl (S.1 1).2)), (r 8, .inl (2, 3, .inr (.inr (.inr (.inr (rf3 r 9 2 3)))))), (r 9, .inr (3, [.int (S.2.1 0).1, .ref (r 10), .int (S.2.1 0).2.1])), (r 10, .inl (0, 21, .inl (S.2.1 0).2.2)), (r 11, .inr (3, [.int (S.2.1 1).1, .ref (r 12), .int (S.2.1 1).2.1])), (r 12, .inl (0, 21, .inl (S.2.1 1).2.2)), (r 13, .inr (3, [.int (S.2.1 2).1, .ref (r 14), .int (S.2.1 2).2.1])), (r 14, .inl (0, 21, .inl (S.2.1 2).2.2)), (r 15, .inl (3, 2, .inr (.inr (.inr (.inr (rf3 r 16 2 2)))))), (r 16, .inr (6, [.ref (r 17)])), (r 17, .inl (0, 21, .inl (S.2.2.1 0))), (r 18, .inr (6, [.ref (r 19)])), (r 19, .inl (0, 21, .inl (S.2.2.1 1))), (r 21, .inr (5, [.ref (r 22)])), (r 22, .inl (0, 21, .inl S.2.2.2.2.1)), (r 23, .inr (6, [.ref (r 24)])), (r 24, .inl (0, 21, .inl S.2.2.2.2.2.1)), (r 25, .inr (6, [.ref (r 26)])), (r 26, .inl (0, 21, .inl S.2.2.2.2.2.2))]) [0, 1, 6, 7, 20] [2, 3, 4, 5, 8, 9, 10, 11, 12, 13, 14, 15, 16, 17, 18, 19, 21, 22, 23, 24, 25, 26] (ok_X5_surplus (x := r 0) (M := r 1) (L := r 8) (Dk := r 15) (c := r 20) (se := r 21) (wk := r 23) (sp := r 25) (q := r 6) (a := r 7) (mf := rf3 r 2 2 3) (fun h9 => by have h8 := ix_in h9; rw [e] at h8; exact (congrArg (rf3 r 2 2 3) h8.symm).trans rfl) h0) rfl rfl rfl rfl (by decide) ?_
    rintro o w hp
    cases x0 with
    | inl z =>
      obtain ⟨g, e1, e2⟩ := PX.inl hp
      subst e1; subst e2
      exact ⟨_, [22, 23, 0, 1, 2, 3, 24, 25, 4, 5, 6, 7, 8, 9, 10, 11, 12, 13, 14, 15, 26, 16, 17, 18, 19, 20, 21], PX.mk g rfl rfl, rfl, rfl⟩
    | inr E =>
      obtain ⟨e1, e2⟩ := PX.inr hp
      subst e1; subst e2
      exact ⟨_, [22, 23, 0, 1, 2, 3, 24, 25, 4, 5, 6, 7, 8, 9, 10, 11, 12, 13, 14, 15, 26, 16, 17, 18, 19, 20, 21], PX.er, rfl, rfl⟩
def gX_place (N K : Nat) (S : CS) (p0 : Int32) (p1 : Int32) : Option ((Int32 × CS) ⊕ String) := (fX5_place N K ((S.1 (ix 3 p0)).1) ((S.1 (ix 3 p0)).2) (S.2.2.1 (ix 2 p1)) (S.2.2.2.1 0) (S.2.2.2.1 1) (S.2.2.2.1 2) (S.2.2.2.1 3) (S.2.2.2.1 4) (S.2.2.2.1 5) p0 p1).map (fun o => match o with | .inl z => .inl (z.1, ((upm S.1 (ix 3 p0) (z.2.1, z.2.2.1)), S.2.1, S.2.2.1, (upm (upm (upm (upm S.2.2.2.1 0 z.2.2.2.1) 1 z.2.2.2.2.1) 2 z.2.2.2.2.2.1) 3 z.2.2.2.2.2.2), S.2.2.2.2.1, S.2.2.2.2.2.1, S.2.2.2.2.2.2)) | .inr E => .inr E)
set_option maxHeartbeats 4000000 in
set_option maxRecDepth 100000 in
theorem ogX_place {N K : Nat} {r : Nat → Nat} {S : CS} {p0 : Int32} {p1 : Int32} {x : (Int32 × CS) ⊕ String} (hE : gX_place N K S p0 p1 = some x) : OkM yX5_place (.code yX5_place cX5_place 10 (some .int)) (2 * K + 9) 2 12 [.ref (r 0), .int p0, .int p1] (WX r S) ((PX (U := Int32 × CS) (fun z _ => some (.int z.1)) (fun z _ => WX r z.2) (WX r S)) x) := by
  unfold gX_place at hE
  obtain ⟨x0, h0, h1⟩ := Option.map_eq_some_iff.mp hE
  subst h1
  clear hE
  rcases lt3 (ix_lt (n := 3) (p := p0) (by decide)) with e | e | e <;> rcases lt2 (ix_lt (n := 2) (p := p1) (by decide)) with f | f
  · rw [e, f] at h0
    try rw [e]
    try rw [f]
    refine ok_fr (wc := [(r 0, .inr (7, [.ref (r 1), .ref (r 8), .ref (r 15), .ref (r 20), .ref (r 21), .ref (r 23), .ref (r 25)])), (r 1, .inl (1, 3, .inr (.inr (.inr (.inr (rf3 r 2 2 3)))))), (r 2, .inr (4, [.ref (r 3), .int (S.1 0).1])), (r 3, .inl (0, 2646, .inl (S.1 0).2)), (r 15, .inl (3, 2, .inr (.inr (.inr (.inr (rf3 r 16 2 2)))))), (r 16, .inr (6, [.ref (r 17)])), (r 17, .inl (0, 21, .inl (S.2.2.1 0))), (r 20, .inr (2, [.int (S.2.2.2.1 0), .int (S.2.2.2.1 1), .int (S.2.2.2.1 2), .int (S.2.2.2.1 3), .int (S.2.2.2.1 4), .int (S.2.2.2.1 5)]))]) (wr := [(r 4, .inr (4, [.ref (r 5), .int (S.1 1).1])), (r 5, .inl (0, 2646, .inl (S.1 1).2)), (r 6, .inr (4, [.ref (r 7), .int (S.1 2).1])), (r 7, .inl (0, 2646, .inl (S.1 2).2)), (r 8, .inl (2, 3, .inr (.inr (.inr (.inr (rf3 r 9 2 3)))))), (r 9, .inr (3, [.int (S.2.1 0).1, .ref (r 10), .int (S.2.1 0).2.1])), (r 10, .inl (0, 21, .inl (S.2.1 0).2.2)), (r 11, .inr (3, [.int (S.2.1 1).1, .ref (r 12), .int (S.2.1 1).2.1])), (r 12, .inl (0, 21, .inl (S.2.1 1).2.2)), (r 13, .inr (3, [.int (S.2.1 2).1, .ref (r 14), .int (S.2.1 2).2.1])), (r 14, .inl (0, 21, .inl (S.2.1 2).2.2)), (r 18, .inr (6, [.ref (r 19)])), (r 19, .inl (0, 21, .inl (S.2.2.1 1))), (r 21, .inr (5, [.ref (r 22)])), (r 22, .inl (0, 21, .inl S.2.2.2.2.1)), (r 23, .inr (6, [.ref (r 24)])), (r 24, .inl (0, 21, .inl S.2.2.2.2.2.1)), (r 25, .inr (6, [.ref (r 26)])), (r 26, .inl (0, 21, .inl S.2.2.2.2.2.2))]) [0, 1, 2, 3, 15, 16, 17, 20] [4, 5, 6, 7, 8, 9, 10, 11, 12, 13, 14, 18, 19, 21, 22, 23, 24, 25, 26] (ok_X5_place (x := r 0) (M := r 1) (L := r 8) (Dk := r 15) (c := r 20) (se := r 21) (wk := r 23) (sp := r 25) (q := r 2) (a := r 3) (w := r 16) (d := r 17) (mf := rf3 r 2 2 3) (df := rf3 r 16 2 2) (fun h9 => by have h8 := ix_in h9; rw [e] at h8; exact (congrArg (rf3 r 2 2 3) h8.symm).trans rfl) (fun h9 => by have h8 := ix_in h9; rw [f] at h8; exact (congrArg (rf3 r 16 2 2) h8.symm).trans rfl) h0) rfl rfl rfl rfl (by decide) ?_
    rintro o w hp
    cases x0 with
    | inl z =>
      obtain ⟨g, e1, e2⟩ := PX.inl hp
      subst e1; subst e2
      exact ⟨_, [19, 20, 21, 22, 0, 1, 2, 3, 4, 5, 6, 7, 8, 9, 10, 23, 24, 25, 11, 12, 26, 13, 14, 15, 16, 17, 18], PX.mk g rfl rfl, rfl, rfl⟩
    | inr E =>
      obtain ⟨e1, e2⟩ := PX.inr hp
      subst e1; subst e2
      exact ⟨_, [19, 20, 21, 22, 0, 1, 2, 3, 4, 5, 6, 7, 8, 9, 10, 23, 24, 25, 11, 12, 26, 13, 14, 15, 16, 17, 18], PX.er, rfl, rfl⟩
  · rw [e, f] at h0
    try rw [e]
    try rw [f]
    refine ok_fr (wc := [(r 0, .inr (7, [.ref (r 1), .ref (r 8), .ref (r 15), .ref (r 20), .ref (r 21), .ref (r 23), .ref (r 25)])), (r 1, .inl (1, 3, .inr (.inr (.inr (.inr (rf3 r 2 2 3)))))), (r 2, .inr (4, [.ref (r 3), .int (S.1 0).1])), (r 3, .inl (0, 2646, .inl (S.1 0).2)), (r 15, .inl (3, 2, .inr (.inr (.inr (.inr (rf3 r 16 2 2)))))), (r 18, .inr (6, [.ref (r 19)])), (r 19, .inl (0, 21, .inl (S.2.2.1 1))), (r 20, .inr (2, [.int (S.2.2.2.1 0), .int (S.2.2.2.1 1), .int (S.2.2.2.1 2), .int (S.2.2.2.1 3), .int (S.2.2.2.1 4), .int (S.2.2.2.1 5)]))]) (wr := [(r 4, .inr (4, [.ref (r 5), .int (S.1 1).1])), (r 5, .inl (0, 2646, .inl (S.1 1).2)), (r 6, .inr (4, [.ref (r 7), .int (S.1 2).1])), (r 7, .inl (0, 2646, .inl (S.1 2).2)), (r 8, .inl (2, 3, .inr (.inr (.inr (.inr (rf3 r 9 2 3)))))), (r 9, .inr (3, [.int (S.2.1 0).1, .ref (r 10), .int (S.2.1 0).2.1])), (r 10, .inl (0, 21, .inl (S.2.1 0).2.2)), (r 11, .inr (3, [.int (S.2.1 1).1, .ref (r 12), .int (S.2.1 1).2.1])), (r 12, .inl (0, 21, .inl (S.2.1 1).2.2)), (r 13, .inr (3, [.int (S.2.1 2).1, .ref (r 14), .int (S.2.1 2).2.1])), (r 14, .inl (0, 21, .inl (S.2.1 2).2.2)), (r 16, .inr (6, [.ref (r 17)])), (r 17, .inl (0, 21, .inl (S.2.2.1 0))), (r 21, .inr (5, [.ref (r 22)])), (r 22, .inl (0, 21, .inl S.2.2.2.2.1)), (r 23, .inr (6, [.ref (r 24)])), (r 24, .inl (0, 21, .inl S.2.2.2.2.2.1)), (r 25, .inr (6, [.ref (r 26)])), (r 26, .inl (0, 21, .inl S.2.2.2.2.2.2))]) [0, 1, 2, 3, 15, 18, 19, 20] [4, 5, 6, 7, 8, 9, 10, 11, 12, 13, 14, 16, 17, 21, 22, 23, 24, 25, 26] (ok_X5_place (x := r 0) (M := r 1) (L := r 8) (Dk := r 15) (c := r 20) (se := r 21) (wk := r 23) (sp := r 25) (q := r 2) (a := r 3) (w := r 18) (d := r 19) (mf := rf3 r 2 2 3) (df := rf3 r 16 2 2) (fun h9 => by have h8 := ix_in h9; rw [e] at h8; exact (congrArg (rf3 r 2 2 3) h8.symm).trans rfl) (fun h9 => by have h8 := ix_in h9; rw [f] at h8; exact (congrArg (rf3 r 16 2 2) h8.symm).trans rfl) h0) rfl rfl rfl rfl (by decide) ?_
    rintro o w hp
    cases x0 with
    | inl z =>
      obtain ⟨g, e1, e2⟩ := PX.inl hp
      subst e1; subst e2
      exact ⟨_, [19, 20, 21, 22, 0, 1, 2, 3, 4, 5, 6, 7, 8, 9, 10, 23, 11, 12, 24, 25, 26, 13, 14, 15, 16, 17, 18], PX.mk g rfl rfl, rfl, rfl⟩
    | inr E =>
      obtain ⟨e1, e2⟩ := PX.inr hp
      subst e1; subst e2
      exact ⟨_, [19, 20, 21, 22, 0, 1, 2, 3, 4, 5, 6, 7, 8, 9, 10, 23, 11, 12, 24, 25, 26, 13, 14, 15, 16, 17, 18], PX.er, rfl, rfl⟩
  · rw [e, f] at h0
    try rw [e]
    try rw [f]
    refine ok_fr (wc := [(r 0, .inr (7, [.ref (r 1), .ref (r 8), .ref (r 15), .ref (r 20), .ref (r 21), .ref (r 23), .ref (r 25)])), (r 1, .inl (1, 3, .inr (.inr (.inr (.inr (rf3 r 2 2 3)))))), (r 4, .inr (4, [.ref (r 5), .int (S.1 1).1])), (r 5, .inl (0, 2646, .inl (S.1 1).2)), (r 15, .inl (3, 2, .inr (.inr (.inr (.inr (rf3 r 16 2 2)))))), (r 16, .inr (6, [.ref (r 17)])), (r 17, .inl (0, 21, .inl (S.2.2.1 0))), (r 20, .inr (2, [.int (S.2.2.2.1 0), .int (S.2.2.2.1 1), .int (S.2.2.2.1 2), .int (S.2.2.2.1 3), .int (S.2.2.2.1 4), .int (S.2.2.2.1 5)]))]) (wr := [(r 2, .inr (4, [.ref (r 3), .int (S.1 0).1])), (r 3, .inl (0, 2646, .inl (S.1 0).2)), (r 6, .inr (4, [.ref (r 7), .int (S.1 2).1])), (r 7, .inl (0, 2646, .inl (S.1 2).2)), (r 8, .inl (2, 3, .inr (.inr (.inr (.inr (rf3 r 9 2 3)))))), (r 9, .inr (3, [.int (S.2.1 0).1, .ref (r 10), .int (S.2.1 0).2.1])), (r 10, .inl (0, 21, .inl (S.2.1 0).2.2)), (r 11, .inr (3, [.int (S.2.1 1).1, .ref (r 12), .int (S.2.1 1).2.1])), (r 12, .inl (0, 21, .inl (S.2.1 1).2.2)), (r 13, .inr (3, [.int (S.2.1 2).1, .ref (r 14), .int (S.2.1 2).2.1])), (r 14, .inl (0, 21, .inl (S.2.1 2).2.2)), (r 18, .inr (6, [.ref (r 19)])), (r 19, .inl (0, 21, .inl (S.2.2.1 1))), (r 21, .inr (5, [.ref (r 22)])), (r 22, .inl (0, 21, .inl S.2.2.2.2.1)), (r 23, .inr (6, [.ref (r 24)])), (r 24, .inl (0, 21, .inl S.2.2.2.2.2.1)), (r 25, .inr (6, [.ref (r 26)])), (r 26, .inl (0, 21, .inl S.2.2.2.2.2.2))]) [0, 1, 4, 5, 15, 16, 17, 20] [2, 3, 6, 7, 8, 9, 10, 11, 12, 13, 14, 18, 19, 21, 22, 23, 24, 25, 26] (ok_X5_place (x := r 0) (M := r 1) (L := r 8) (Dk := r 15) (c := r 20) (se := r 21) (wk := r 23) (sp := r 25) (q := r 4) (a := r 5) (w := r 16) (d := r 17) (mf := rf3 r 2 2 3) (df := rf3 r 16 2 2) (fun h9 => by have h8 := ix_in h9; rw [e] at h8; exact (congrArg (rf3 r 2 2 3) h8.symm).trans rfl) (fun h9 => by have h8 := ix_in h9; rw [f] at h8; exact (congrArg (rf3 r 16 2 2) h8.symm).trans rfl) h0) rfl rfl rfl rfl (by decide) ?_
    rintro o w hp
    cases x0 with
    | inl z =>
      obtain ⟨g, e1, e2⟩ := PX.inl hp
      subst e1; subst e2
      exact ⟨_, [19, 20, 0, 1, 21, 22, 2, 3, 4, 5, 6, 7, 8, 9, 10, 23, 24, 25, 11, 12, 26, 13, 14, 15, 16, 17, 18], PX.mk g rfl rfl, rfl, rfl⟩
    | inr E =>
      obtain ⟨e1, e2⟩ := PX.inr hp
      subst e1; subst e2
      exact ⟨_, [19, 20, 0, 1, 21, 22, 2, 3, 4, 5, 6, 7, 8, 9, 10, 23, 24, 25, 11, 12, 26, 13, 14, 15, 16, 17, 18], PX.er, rfl, rfl⟩
  · rw [e, f] at h0
    try rw [e]
    try rw [f]
    refine ok_fr (wc := [(r 0, .inr (7, [.ref (r 1), .ref (r 8), .ref (r 15), .ref (r 20), .ref (r 21), .ref (r 23), .ref (r 25)])), (r 1, .inl (1, 3, .inr (.inr (.inr (.inr (rf3 r 2 2 3)))))), (r 4, .inr (4, [.ref (r 5), .int (S.1 1).1])), (r 5, .inl (0, 2646, .inl (S.1 1).2)), (r 15, .inl (3, 2, .inr (.inr (.inr (.inr (rf3 r 16 2 2)))))), (r 18, .inr (6, [.ref (r 19)])), (r 19, .inl (0, 21, .inl (S.2.2.1 1))), (r 20, .inr (2, [.int (S.2.2.2.1 0), .int (S.2.2.2.1 1), .int (S.2.2.2.1 2), .int (S.2.2.2.1 3), .int (S.2.2.2.1 4), .int (S.2.2.2.1 5)]))]) (wr := [(r 2, .inr (4, [.ref (r 3), .int (S.1 0).1])), (r 3, .inl (0, 2646, .inl (S.1 0).2)), (r 6, .inr (4, [.ref (r 7), .int (S.1 2).1])), (r 7, .inl (0, 2646, .inl (S.1 2).2)), (r 8, .inl (2, 3, .inr (.inr (.inr (.inr (rf3 r 9 2 3)))))), (r 9, .inr (3, [.int (S.2.1 0).1, .ref (r 10), .int (S.2.1 0).2.1])), (r 10, .inl (0, 21, .inl (S.2.1 0).2.2)), (r 11, .inr (3, [.int (S.2.1 1).1, .ref (r 12), .int (S.2.1 1).2.1])), (r 12, .inl (0, 21, .inl (S.2.1 1).2.2)), (r 13, .inr (3, [.int (S.2.1 2).1, .ref (r 14), .int (S.2.1 2).2.1])), (r 14, .inl (0, 21, .inl (S.2.1 2).2.2)), (r 16, .inr (6, [.ref (r 17)])), (r 17, .inl (0, 21, .inl (S.2.2.1 0))), (r 21, .inr (5, [.ref (r 22)])), (r 22, .inl (0, 21, .inl S.2.2.2.2.1)), (r 23, .inr (6, [.ref (r 24)])), (r 24, .inl (0, 21, .inl S.2.2.2.2.2.1)), (r 25, .inr (6, [.ref (r 26)])), (r 26, .inl (0, 21, .inl S.2.2.2.2.2.2))]) [0, 1, 4, 5, 15, 18, 19, 20] [2, 3, 6, 7, 8, 9, 10, 11, 12, 13, 14, 16, 17, 21, 22, 23, 24, 25, 26] (ok_X5_place (x := r 0) (M := r 1) (L := r 8) (Dk := r 15) (c := r 20) (se := r 21) (wk := r 23) (sp := r 25) (q := r 4) (a := r 5) (w := r 18) (d := r 19) (mf := rf3 r 2 2 3) (df := rf3 r 16 2 2) (fun h9 => by have h8 := ix_in h9; rw [e] at h8; exact (congrArg (rf3 r 2 2 3) h8.symm).trans rfl) (fun h9 => by have h8 := ix_in h9; rw [f] at h8; exact (congrArg (rf3 r 16 2 2) h8.symm).trans rfl) h0) rfl rfl rfl rfl (by decide) ?_
    rintro o w hp
    cases x0 with
    | inl z =>
      obtain ⟨g, e1, e2⟩ := PX.inl hp
      subst e1; subst e2
      exact ⟨_, [19, 20, 0, 1, 21, 22, 2, 3, 4, 5, 6, 7, 8, 9, 10, 23, 11, 12, 24, 25, 26, 13, 14, 15, 16, 17, 18], PX.mk g rfl rfl, rfl, rfl⟩
    | inr E =>
      obtain ⟨e1, e2⟩ := PX.inr hp
      subst e1; subst e2
      exact ⟨_, [19, 20, 0, 1, 21, 22, 2, 3, 4, 5, 6, 7, 8, 9, 10, 23, 11, 12, 24, 25, 26, 13, 14, 15, 16, 17, 18], PX.er, rfl, rfl⟩
  · rw [e, f] at h0
    try rw [e]
    try rw [f]
    refine ok_fr (wc := [(r 0, .inr (7, [.ref (r 1), .ref (r 8), .ref (r 15), .ref (r 20), .ref (r 21), .ref (r 23), .ref (r 25)])), (r 1, .inl (1, 3, .inr (.inr (.inr (.inr (rf3 r 2 2 3)))))), (r 6, .inr (4, [.ref (r 7), .int (S.1 2).1])), (r 7, .inl (0, 2646, .inl (S.1 2).2)), (r 15, .inl (3, 2, .inr (.inr (.inr (.inr (rf3 r 16 2 2)))))), (r 16, .inr (6, [.ref (r 17)])), (r 17, .inl (0, 21, .inl (S.2.2.1 0))), (r 20, .inr (2, [.int (S.2.2.2.1 0), .int (S.2.2.2.1 1), .int (S.2.2.2.1 2), .int (S.2.2.2.1 3), .int (S.2.2.2.1 4), .int (S.2.2.2.1 5)]))]) (wr := [(r 2, .inr (4, [.ref (r 3), .int (S.1 0).1])), (r 3, .inl (0, 2646, .inl (S.1 0).2)), (r 4, .inr (4, [.ref (r 5), .int (S.1 1).1])), (r 5, .inl (0, 2646, .inl (S.1 1).2)), (r 8, .inl (2, 3, .inr (.inr (.inr (.inr (rf3 r 9 2 3)))))), (r 9, .inr (3, [.int (S.2.1 0).1, .ref (r 10), .int (S.2.1 0).2.1])), (r 10, .inl (0, 21, .inl (S.2.1 0).2.2)), (r 11, .inr (3, [.int (S.2.1 1).1, .ref (r 12), .int (S.2.1 1).2.1])), (r 12, .inl (0, 21, .inl (S.2.1 1).2.2)), (r 13, .inr (3, [.int (S.2.1 2).1, .ref (r 14), .int (S.2.1 2).2.1])), (r 14, .inl (0, 21, .inl (S.2.1 2).2.2)), (r 18, .inr (6, [.ref (r 19)])), (r 19, .inl (0, 21, .inl (S.2.2.1 1))), (r 21, .inr (5, [.ref (r 22)])), (r 22, .inl (0, 21, .inl S.2.2.2.2.1)), (r 23, .inr (6, [.ref (r 24)])), (r 24, .inl (0, 21, .inl S.2.2.2.2.2.1)), (r 25, .inr (6, [.ref (r 26)])), (r 26, .inl (0, 21, .inl S.2.2.2.2.2.2))]) [0, 1, 6, 7, 15, 16, 17, 20] [2, 3, 4, 5, 8, 9, 10, 11, 12, 13, 14, 18, 19, 21, 22, 23, 24, 25, 26] (ok_X5_place (x := r 0) (M := r 1) (L := r 8) (Dk := r 15) (c := r 20) (se := r 21) (wk := r 23) (sp := r 25) (q := r 6) (a := r 7) (w := r 16) (d := r 17) (mf := rf3 r 2 2 3) (df := rf3 r 16 2 2) (fun h9 => by have h8 := ix_in h9; rw [e] at h8; exact (congrArg (rf3 r 2 2 3) h8.symm).trans rfl) (fun h9 => by have h8 := ix_in h9; rw [f] at h8; exact (congrArg (rf3 r 16 2 2) h8.symm).trans rfl) h0) rfl rfl rfl rfl (by decide) ?_
    rintro o w hp
    cases x0 with
    | inl z =>
      obtain ⟨g, e1, e2⟩ := PX.inl hp
      subst e1; subst e2
      exact ⟨_, [19, 20, 0, 1, 2, 3, 21, 22, 4, 5, 6, 7, 8, 9, 10, 23, 24, 25, 11, 12, 26, 13, 14, 15, 16, 17, 18], PX.mk g rfl rfl, rfl, rfl⟩
    | inr E =>
      obtain ⟨e1, e2⟩ := PX.inr hp
      subst e1; subst e2
      exact ⟨_, [19, 20, 0, 1, 2, 3, 21, 22, 4, 5, 6, 7, 8, 9, 10, 23, 24, 25, 11, 12, 26, 13, 14, 15, 16, 17, 18], PX.er, rfl, rfl⟩
  · rw [e, f] at h0
    try rw [e]
    try rw [f]
    refine ok_fr (wc := [(r 0, .inr (7, [.ref (r 1), .ref (r 8), .ref (r 15), .ref (r 20), .ref (r 21), .ref (r 23), .ref (r 25)])), (r 1, .inl (1, 3, .inr (.inr (.inr (.inr (rf3 r 2 2 3)))))), (r 6, .inr (4, [.ref (r 7), .int (S.1 2).1])), (r 7, .inl (0, 2646, .inl (S.1 2).2)), (r 15, .inl (3, 2, .inr (.inr (.inr (.inr (rf3 r 16 2 2)))))), (r 18, .inr (6, [.ref (r 19)])), (r 19, .inl (0, 21, .inl (S.2.2.1 1))), (r 20, .inr (2, [.int (S.2.2.2.1 0), .int (S.2.2.2.1 1), .int (S.2.2.2.1 2), .int (S.2.2.2.1 3), .int (S.2.2.2.1 4), .int (S.2.2.2.1 5)]))]) (wr := [(r 2, .inr (4, [.ref (r 3), .int (S.1 0).1])), (r 3, .inl (0, 2646, .inl (S.1 0).2)), (r 4, .inr (4, [.ref (r 5), .int (S.1 1).1])), (r 5, .inl (0, 2646, .inl (S.1 1).2)), (r 8, .inl (2, 3, .inr (.inr (.inr (.inr (rf3 r 9 2 3)))))), (r 9, .inr (3, [.int (S.2.1 0).1, .ref (r 10), .int (S.2.1 0).2.1])), (r 10, .inl (0, 21, .inl (S.2.1 0).2.2)), (r 11, .inr (3, [.int (S.2.1 1).1, .ref (r 12), .int (S.2.1 1).2.1])), (r 12, .inl (0, 21, .inl (S.2.1 1).2.2)), (r 13, .inr (3, [.int (S.2.1 2).1, .ref (r 14), .int (S.2.1 2).2.1])), (r 14, .inl (0, 21, .inl (S.2.1 2).2.2)), (r 16, .inr (6, [.ref (r 17)])), (r 17, .inl (0, 21, .inl (S.2.2.1 0))), (r 21, .inr (5, [.ref (r 22)])), (r 22, .inl (0, 21, .inl S.2.2.2.2.1)), (r 23, .inr (6, [.ref (r 24)])), (r 24, .inl (0, 21, .inl S.2.2.2.2.2.1)), (r 25, .inr (6, [.ref (r 26)])), (r 26, .inl (0, 21, .inl S.2.2.2.2.2.2))]) [0, 1, 6, 7, 15, 18, 19, 20] [2, 3, 4, 5, 8, 9, 10, 11, 12, 13, 14, 16, 17, 21, 22, 23, 24, 25, 26] (ok_X5_place (x := r 0) (M := r 1) (L := r 8) (Dk := r 15) (c := r 20) (se := r 21) (wk := r 23) (sp := r 25) (q := r 6) (a := r 7) (w := r 18) (d := r 19) (mf := rf3 r 2 2 3) (df := rf3 r 16 2 2) (fun h9 => by have h8 := ix_in h9; rw [e] at h8; exact (congrArg (rf3 r 2 2 3) h8.symm).trans rfl) (fun h9 => by have h8 := ix_in h9; rw [f] at h8; exact (congrArg (rf3 r 16 2 2) h8.symm).trans rfl) h0) rfl rfl rfl rfl (by decide) ?_
    rintro o w hp
    cases x0 with
    | inl z =>
      obtain ⟨g, e1, e2⟩ := PX.inl hp
      subst e1; subst e2
      exact ⟨_, [19, 20, 0, 1, 2, 3, 21, 22, 4, 5, 6, 7, 8, 9, 10, 23, 11, 12, 24, 25, 26, 13, 14, 15, 16, 17, 18], PX.mk g rfl rfl, rfl, rfl⟩
    | inr E =>
      obtain ⟨e1, e2⟩ := PX.inr hp
      subst e1; subst e2
      exact ⟨_, [19, 20, 0, 1, 2, 3, 21, 22, 4, 5, 6, 7, 8, 9, 10, 23, 11, 12, 24, 25, 26, 13, 14, 15, 16, 17, 18], PX.er, rfl, rfl⟩
def gX_learn (N K : Nat) (S : CS) (p0 : Int32) (p1 : Int32) (p2 : Int32) (p3 : Int32) : Option ((Int32 × CS) ⊕ String) := (fX5_learn N K ((S.1 (ix 3 p0)).1) ((S.1 (ix 3 p0)).2) (S.2.2.2.1 0) (S.2.2.2.1 1) (S.2.2.2.1 2) (S.2.2.2.1 3) (S.2.2.2.1 4) (S.2.2.2.1 5) S.2.2.2.2.1 p0 p1 p2 p3).map (fun o => match o with | .inl z => .inl (z.1, ((upm S.1 (ix 3 p0) (z.2.1, z.2.2.1)), S.2.1, S.2.2.1, (upm (upm S.2.2.2.1 0 z.2.2.2.1) 4 z.2.2.2.2.1), z.2.2.2.2.2, S.2.2.2.2.2.1, S.2.2.2.2.2.2)) | .inr E => .inr E)
set_option maxHeartbeats 4000000 in
set_option maxRecDepth 100000 in
theorem ogX_learn {N K : Nat} {r : Nat → Nat} {S : CS} {p0 : Int32} {p1 : Int32} {p2 : Int32} {p3 : Int32} {x : (Int32 × CS) ⊕ String} (hE : gX_learn N K S p0 p1 p2 p3 = some x) : OkM yX5_learn (.code yX5_learn cX5_learn 6 (some .int)) (10) 4 24 [.ref (r 0), .int p0, .int p1, .int p2, .int p3] (WX r S) ((PX (U := Int32 × CS) (fun z _ => some (.int z.1)) (fun z _ => WX r z.2) (WX r S)) x) := by
  unfold gX_learn at hE
  obtain ⟨x0, h0, h1⟩ := Option.map_eq_some_iff.mp hE
  subst h1
  clear hE
  rcases lt3 (ix_lt (n := 3) (p := p0) (by decide)) with e | e | e
  · rw [e] at h0
    try rw [e]
    refine ok_fr (wc := [(r 0, .inr (7, [.ref (r 1), .ref (r 8), .ref (r 15), .ref (r 20), .ref (r 21), .ref (r 23), .ref (r 25)])), (r 1, .inl (1, 3, .inr (.inr (.inr (.inr (rf3 r 2 2 3)))))), (r 2, .inr (4, [.ref (r 3), .int (S.1 0).1])), (r 3, .inl (0, 2646, .inl (S.1 0).2)), (r 20, .inr (2, [.int (S.2.2.2.1 0), .int (S.2.2.2.1 1), .int (S.2.2.2.1 2), .int (S.2.2.2.1 3), .int (S.2.2.2.1 4), .int (S.2.2.2.1 5)])), (r 21, .inr (5, [.ref (r 22)])), (r 22, .inl (0, 21, .inl S.2.2.2.2.1))]) (wr := [(r 4, .inr (4, [.ref (r 5), .int (S.1 1).1])), (r 5, .inl (0, 2646, .inl (S.1 1).2)), (r 6, .inr (4, [.ref (r 7), .int (S.1 2).1])), (r 7, .inl (0, 2646, .inl (S.1 2).2)), (r 8, .inl (2, 3, .inr (.inr (.inr (.inr (rf3 r 9 2 3)))))), (r 9, .inr (3, [.int (S.2.1 0).1, .ref (r 10), .int (S.2.1 0).2.1])), (r 10, .inl (0, 21, .inl (S.2.1 0).2.2)), (r 11, .inr (3, [.int (S.2.1 1).1, .ref (r 12), .int (S.2.1 1).2.1])), (r 12, .inl (0, 21, .inl (S.2.1 1).2.2)), (r 13, .inr (3, [.int (S.2.1 2).1, .ref (r 14), .int (S.2.1 2).2.1])), (r 14, .inl (0, 21, .inl (S.2.1 2).2.2)), (r 15, .inl (3, 2, .inr (.inr (.inr (.inr (rf3 r 16 2 2)))))), (r 16, .inr (6, [.ref (r 17)])), (r 17, .inl (0, 21, .inl (S.2.2.1 0))), (r 18, .inr (6, [.ref (r 19)])), (r 19, .inl (0, 21, .inl (S.2.2.1 1))), (r 23, .inr (6, [.ref (r 24)])), (r 24, .inl (0, 21, .inl S.2.2.2.2.2.1)), (r 25, .inr (6, [.ref (r 26)])), (r 26, .inl (0, 21, .inl S.2.2.2.2.2.2))]) [0, 1, 2, 3, 20, 21, 22] [4, 5, 6, 7, 8, 9, 10, 11, 12, 13, 14, 15, 16, 17, 18, 19, 23, 24, 25, 26] (ok_X5_learn (x := r 0) (M := r 1) (L := r 8) (Dk := r 15) (c := r 20) (se := r 21) (wk := r 23) (sp := r 25) (q := r 2) (a := r 3) (sr := r 22) (mf := rf3 r 2 2 3) (fun h9 => by have h8 := ix_in h9; rw [e] at h8; exact (congrArg (rf3 r 2 2 3) h8.symm).trans rfl) h0) rfl rfl rfl rfl (by decide) ?_
    rintro o w hp
    cases x0 with
    | inl z =>
      obtain ⟨g, e1, e2⟩ := PX.inl hp
      subst e1; subst e2
      exact ⟨_, [20, 21, 22, 23, 0, 1, 2, 3, 4, 5, 6, 7, 8, 9, 10, 11, 12, 13, 14, 15, 24, 25, 26, 16, 17, 18, 19], PX.mk g rfl rfl, rfl, rfl⟩
    | inr E =>
      obtain ⟨e1, e2⟩ := PX.inr hp
      subst e1; subst e2
      exact ⟨_, [20, 21, 22, 23, 0, 1, 2, 3, 4, 5, 6, 7, 8, 9, 10, 11, 12, 13, 14, 15, 24, 25, 26, 16, 17, 18, 19], PX.er, rfl, rfl⟩
  · rw [e] at h0
    try rw [e]
    refine ok_fr (wc := [(r 0, .inr (7, [.ref (r 1), .ref (r 8), .ref (r 15), .ref (r 20), .ref (r 21), .ref (r 23), .ref (r 25)])), (r 1, .inl (1, 3, .inr (.inr (.inr (.inr (rf3 r 2 2 3)))))), (r 4, .inr (4, [.ref (r 5), .int (S.1 1).1])), (r 5, .inl (0, 2646, .inl (S.1 1).2)), (r 20, .inr (2, [.int (S.2.2.2.1 0), .int (S.2.2.2.1 1), .int (S.2.2.2.1 2), .int (S.2.2.2.1 3), .int (S.2.2.2.1 4), .int (S.2.2.2.1 5)])), (r 21, .inr (5, [.ref (r 22)])), (r 22, .inl (0, 21, .inl S.2.2.2.2.1))]) (wr := [(r 2, .inr (4, [.ref (r 3), .int (S.1 0).1])), (r 3, .inl (0, 2646, .inl (S.1 0).2)), (r 6, .inr (4, [.ref (r 7), .int (S.1 2).1])), (r 7, .inl (0, 2646, .inl (S.1 2).2)), (r 8, .inl (2, 3, .inr (.inr (.inr (.inr (rf3 r 9 2 3)))))), (r 9, .inr (3, [.int (S.2.1 0).1, .ref (r 10), .int (S.2.1 0).2.1])), (r 10, .inl (0, 21, .inl (S.2.1 0).2.2)), (r 11, .inr (3, [.int (S.2.1 1).1, .ref (r 12), .int (S.2.1 1).2.1])), (r 12, .inl (0, 21, .inl (S.2.1 1).2.2)), (r 13, .inr (3, [.int (S.2.1 2).1, .ref (r 14), .int (S.2.1 2).2.1])), (r 14, .inl (0, 21, .inl (S.2.1 2).2.2)), (r 15, .inl (3, 2, .inr (.inr (.inr (.inr (rf3 r 16 2 2)))))), (r 16, .inr (6, [.ref (r 17)])), (r 17, .inl (0, 21, .inl (S.2.2.1 0))), (r 18, .inr (6, [.ref (r 19)])), (r 19, .inl (0, 21, .inl (S.2.2.1 1))), (r 23, .inr (6, [.ref (r 24)])), (r 24, .inl (0, 21, .inl S.2.2.2.2.2.1)), (r 25, .inr (6, [.ref (r 26)])), (r 26, .inl (0, 21, .inl S.2.2.2.2.2.2))]) [0, 1, 4, 5, 20, 21, 22] [2, 3, 6, 7, 8, 9, 10, 11, 12, 13, 14, 15, 16, 17, 18, 19, 23, 24, 25, 26] (ok_X5_learn (x := r 0) (M := r 1) (L := r 8) (Dk := r 15) (c := r 20) (se := r 21) (wk := r 23) (sp := r 25) (q := r 4) (a := r 5) (sr := r 22) (mf := rf3 r 2 2 3) (fun h9 => by have h8 := ix_in h9; rw [e] at h8; exact (congrArg (rf3 r 2 2 3) h8.symm).trans rfl) h0) rfl rfl rfl rfl (by decide) ?_
    rintro o w hp
    cases x0 with
    | inl z =>
      obtain ⟨g, e1, e2⟩ := PX.inl hp
      subst e1; subst e2
      exact ⟨_, [20, 21, 0, 1, 22, 23, 2, 3, 4, 5, 6, 7, 8, 9, 10, 11, 12, 13, 14, 15, 24, 25, 26, 16, 17, 18, 19], PX.mk g rfl rfl, rfl, rfl⟩
    | inr E =>
      obtain ⟨e1, e2⟩ := PX.inr hp
      subst e1; subst e2
      exact ⟨_, [20, 21, 0, 1, 22, 23, 2, 3, 4, 5, 6, 7, 8, 9, 10, 11, 12, 13, 14, 15, 24, 25, 26, 16, 17, 18, 19], PX.er, rfl, rfl⟩
  · rw [e] at h0
    try rw [e]
    refine ok_fr (wc := [(r 0, .inr (7, [.ref (r 1), .ref (r 8), .ref (r 15), .ref (r 20), .ref (r 21), .ref (r 23), .ref (r 25)])), (r 1, .inl (1, 3, .inr (.inr (.inr (.inr (rf3 r 2 2 3)))))), (r 6, .inr (4, [.ref (r 7), .int (S.1 2).1])), (r 7, .inl (0, 2646, .inl (S.1 2).2)), (r 20, .inr (2, [.int (S.2.2.2.1 0), .int (S.2.2.2.1 1), .int (S.2.2.2.1 2), .int (S.2.2.2.1 3), .int (S.2.2.2.1 4), .int (S.2.2.2.1 5)])), (r 21, .inr (5, [.ref (r 22)])), (r 22, .inl (0, 21, .inl S.2.2.2.2.1))]) (wr := [(r 2, .inr (4, [.ref (r 3), .int (S.1 0).1])), (r 3, .inl (0, 2646, .inl (S.1 0).2)), (r 4, .inr (4, [.ref (r 5), .int (S.1 1).1])), (r 5, .inl (0, 2646, .inl (S.1 1).2)), (r 8, .inl (2, 3, .inr (.inr (.inr (.inr (rf3 r 9 2 3)))))), (r 9, .inr (3, [.int (S.2.1 0).1, .ref (r 10), .int (S.2.1 0).2.1])), (r 10, .inl (0, 21, .inl (S.2.1 0).2.2)), (r 11, .inr (3, [.int (S.2.1 1).1, .ref (r 12), .int (S.2.1 1).2.1])), (r 12, .inl (0, 21, .inl (S.2.1 1).2.2)), (r 13, .inr (3, [.int (S.2.1 2).1, .ref (r 14), .int (S.2.1 2).2.1])), (r 14, .inl (0, 21, .inl (S.2.1 2).2.2)), (r 15, .inl (3, 2, .inr (.inr (.inr (.inr (rf3 r 16 2 2)))))), (r 16, .inr (6, [.ref (r 17)])), (r 17, .inl (0, 21, .inl (S.2.2.1 0))), (r 18, .inr (6, [.ref (r 19)])), (r 19, .inl (0, 21, .inl (S.2.2.1 1))), (r 23, .inr (6, [.ref (r 24)])), (r 24, .inl (0, 21, .inl S.2.2.2.2.2.1)), (r 25, .inr (6, [.ref (r 26)])), (r 26, .inl (0, 21, .inl S.2.2.2.2.2.2))]) [0, 1, 6, 7, 20, 21, 22] [2, 3, 4, 5, 8, 9, 10, 11, 12, 13, 14, 15, 16, 17, 18, 19, 23, 24, 25, 26] (ok_X5_learn (x := r 0) (M := r 1) (L := r 8) (Dk := r 15) (c := r 20) (se := r 21) (wk := r 23) (sp := r 25) (q := r 6) (a := r 7) (sr := r 22) (mf := rf3 r 2 2 3) (fun h9 => by have h8 := ix_in h9; rw [e] at h8; exact (congrArg (rf3 r 2 2 3) h8.symm).trans rfl) h0) rfl rfl rfl rfl (by decide) ?_
    rintro o w hp
    cases x0 with
    | inl z =>
      obtain ⟨g, e1, e2⟩ := PX.inl hp
      subst e1; subst e2
      exact ⟨_, [20, 21, 0, 1, 2, 3, 22, 23, 4, 5, 6, 7, 8, 9, 10, 11, 12, 13, 14, 15, 24, 25, 26, 16, 17, 18, 19], PX.mk g rfl rfl, rfl, rfl⟩
    | inr E =>
      obtain ⟨e1, e2⟩ := PX.inr hp
      subst e1; subst e2
      exact ⟨_, [20, 21, 0, 1, 2, 3, 22, 23, 4, 5, 6, 7, 8, 9, 10, 11, 12, 13, 14, 15, 24, 25, 26, 16, 17, 18, 19], PX.er, rfl, rfl⟩
def gX_relearn (N K : Nat) (S : CS) (p0 : Int32) (p1 : Int32) (p2 : Int32) (p3 : Int32) : Option ((Int32 × CS) ⊕ String) := (fX5_relearn N K ((S.1 (ix 3 p0)).1) ((S.1 (ix 3 p0)).2) (S.2.2.2.1 0) (S.2.2.2.1 1) (S.2.2.2.1 2) (S.2.2.2.1 3) (S.2.2.2.1 4) (S.2.2.2.1 5) S.2.2.2.2.2.1 S.2.2.2.2.2.2 p0 p1 p2 p3).map (fun o => match o with | .inl z => .inl (z.1, ((upm S.1 (ix 3 p0) (z.2.1, z.2.2.1)), S.2.1, S.2.2.1, (upm (upm S.2.2.2.1 0 z.2.2.2.1) 4 z.2.2.2.2.1), S.2.2.2.2.1, z.2.2.2.2.2.1, z.2.2.2.2.2.2)) | .inr E => .inr E)
set_option maxHeartbeats 4000000 in
set_option maxRecDepth 100000 in
theorem ogX_relearn {N K : Nat} {r : Nat → Nat} {S : CS} {p0 : Int32} {p1 : Int32} {p2 : Int32} {p3 : Int32} {x : (Int32 × CS) ⊕ String} (hE : gX_relearn N K S p0 p1 p2 p3 = some x) : OkM yX5_relearn (.code yX5_relearn cX5_relearn 7 (some .int)) (10) 4 24 [.ref (r 0), .int p0, .int p1, .int p2, .int p3] (WX r S) ((PX (U := Int32 × CS) (fun z _ => some (.int z.1)) (fun z _ => WX r z.2) (WX r S)) x) := by
  unfold gX_relearn at hE
  obtain ⟨x0, h0, h1⟩ := Option.map_eq_some_iff.mp hE
  subst h1
  clear hE
  rcases lt3 (ix_lt (n := 3) (p := p0) (by decide)) with e | e | e
  · rw [e] at h0
    try rw [e]
    refine ok_fr (wc := [(r 0, .inr (7, [.ref (r 1), .ref (r 8), .ref (r 15), .ref (r 20), .ref (r 21), .ref (r 23), .ref (r 25)])), (r 1, .inl (1, 3, .inr (.inr (.inr (.inr (rf3 r 2 2 3)))))), (r 2, .inr (4, [.ref (r 3), .int (S.1 0).1])), (r 3, .inl (0, 2646, .inl (S.1 0).2)), (r 20, .inr (2, [.int (S.2.2.2.1 0), .int (S.2.2.2.1 1), .int (S.2.2.2.1 2), .int (S.2.2.2.1 3), .int (S.2.2.2.1 4), .int (S.2.2.2.1 5)])), (r 23, .inr (6, [.ref (r 24)])), (r 24, .inl (0, 21, .inl S.2.2.2.2.2.1)), (r 25, .inr (6, [.ref (r 26)])), (r 26, .inl (0, 21, .inl S.2.2.2.2.2.2))]) (wr := [(r 4, .inr (4, [.ref (r 5), .int (S.1 1).1])), (r 5, .inl (0, 2646, .inl (S.1 1).2)), (r 6, .inr (4, [.ref (r 7), .int (S.1 2).1])), (r 7, .inl (0, 2646, .inl (S.1 2).2)), (r 8, .inl (2, 3, .inr (.inr (.inr (.inr (rf3 r 9 2 3)))))), (r 9, .inr (3, [.int (S.2.1 0).1, .ref (r 10), .int (S.2.1 0).2.1])), (r 10, .inl (0, 21, .inl (S.2.1 0).2.2)), (r 11, .inr (3, [.int (S.2.1 1).1, .ref (r 12), .int (S.2.1 1).2.1])), (r 12, .inl (0, 21, .inl (S.2.1 1).2.2)), (r 13, .inr (3, [.int (S.2.1 2).1, .ref (r 14), .int (S.2.1 2).2.1])), (r 14, .inl (0, 21, .inl (S.2.1 2).2.2)), (r 15, .inl (3, 2, .inr (.inr (.inr (.inr (rf3 r 16 2 2)))))), (r 16, .inr (6, [.ref (r 17)])), (r 17, .inl (0, 21, .inl (S.2.2.1 0))), (r 18, .inr (6, [.ref (r 19)])), (r 19, .inl (0, 21, .inl (S.2.2.1 1))), (r 21, .inr (5, [.ref (r 22)])), (r 22, .inl (0, 21, .inl S.2.2.2.2.1))]) [0, 1, 2, 3, 20, 23, 24, 25, 26] [4, 5, 6, 7, 8, 9, 10, 11, 12, 13, 14, 15, 16, 17, 18, 19, 21, 22] (ok_X5_relearn (x := r 0) (M := r 1) (L := r 8) (Dk := r 15) (c := r 20) (se := r 21) (wk := r 23) (sp := r 25) (q := r 2) (a := r 3) (wa := r 24) (sa := r 26) (mf := rf3 r 2 2 3) (fun h9 => by have h8 := ix_in h9; rw [e] at h8; exact (congrArg (rf3 r 2 2 3) h8.symm).trans rfl) h0) rfl rfl rfl rfl (by decide) ?_
    rintro o w hp
    cases x0 with
    | inl z =>
      obtain ⟨g, e1, e2⟩ := PX.inl hp
      subst e1; subst e2
      exact ⟨_, [18, 19, 20, 21, 0, 1, 2, 3, 4, 5, 6, 7, 8, 9, 10, 11, 12, 13, 14, 15, 22, 16, 17, 23, 24, 25, 26], PX.mk g rfl rfl, rfl, rfl⟩
    | inr E =>
      obtain ⟨e1, e2⟩ := PX.inr hp
      subst e1; subst e2
      exact ⟨_, [18, 19, 20, 21, 0, 1, 2, 3, 4, 5, 6, 7, 8, 9, 10, 11, 12, 13, 14, 15, 22, 16, 17, 23, 24, 25, 26], PX.er, rfl, rfl⟩
  · rw [e] at h0
    try rw [e]
    refine ok_fr (wc := [(r 0, .inr (7, [.ref (r 1), .ref (r 8), .ref (r 15), .ref (r 20), .ref (r 21), .ref (r 23), .ref (r 25)])), (r 1, .inl (1, 3, .inr (.inr (.inr (.inr (rf3 r 2 2 3)))))), (r 4, .inr (4, [.ref (r 5), .int (S.1 1).1])), (r 5, .inl (0, 2646, .inl (S.1 1).2)), (r 20, .inr (2, [.int (S.2.2.2.1 0), .int (S.2.2.2.1 1), .int (S.2.2.2.1 2), .int (S.2.2.2.1 3), .int (S.2.2.2.1 4), .int (S.2.2.2.1 5)])), (r 23, .inr (6, [.ref (r 24)])), (r 24, .inl (0, 21, .inl S.2.2.2.2.2.1)), (r 25, .inr (6, [.ref (r 26)])), (r 26, .inl (0, 21, .inl S.2.2.2.2.2.2))]) (wr := [(r 2, .inr (4, [.ref (r 3), .int (S.1 0).1])), (r 3, .inl (0, 2646, .inl (S.1 0).2)), (r 6, .inr (4, [.ref (r 7), .int (S.1 2).1])), (r 7, .inl (0, 2646, .inl (S.1 2).2)), (r 8, .inl (2, 3, .inr (.inr (.inr (.inr (rf3 r 9 2 3)))))), (r 9, .inr (3, [.int (S.2.1 0).1, .ref (r 10), .int (S.2.1 0).2.1])), (r 10, .inl (0, 21, .inl (S.2.1 0).2.2)), (r 11, .inr (3, [.int (S.2.1 1).1, .ref (r 12), .int (S.2.1 1).2.1])), (r 12, .inl (0, 21, .inl (S.2.1 1).2.2)), (r 13, .inr (3, [.int (S.2.1 2).1, .ref (r 14), .int (S.2.1 2).2.1])), (r 14, .inl (0, 21, .inl (S.2.1 2).2.2)), (r 15, .inl (3, 2, .inr (.inr (.inr (.inr (rf3 r 16 2 2)))))), (r 16, .inr (6, [.ref (r 17)])), (r 17, .inl (0, 21, .inl (S.2.2.1 0))), (r 18, .inr (6, [.ref (r 19)])), (r 19, .inl (0, 21, .inl (S.2.2.1 1))), (r 21, .inr (5, [.ref (r 22)])), (r 22, .inl (0, 21, .inl S.2.2.2.2.1))]) [0, 1, 4, 5, 20, 23, 24, 25, 26] [2, 3, 6, 7, 8, 9, 10, 11, 12, 13, 14, 15, 16, 17, 18, 19, 21, 22] (ok_X5_relearn (x := r 0) (M := r 1) (L := r 8) (Dk := r 15) (c := r 20) (se := r 21) (wk := r 23) (sp := r 25) (q := r 4) (a := r 5) (wa := r 24) (sa := r 26) (mf := rf3 r 2 2 3) (fun h9 => by have h8 := ix_in h9; rw [e] at h8; exact (congrArg (rf3 r 2 2 3) h8.symm).trans rfl) h0) rfl rfl rfl rfl (by decide) ?_
    rintro o w hp
    cases x0 with
    | inl z =>
      obtain ⟨g, e1, e2⟩ := PX.inl hp
      subst e1; subst e2
      exact ⟨_, [18, 19, 0, 1, 20, 21, 2, 3, 4, 5, 6, 7, 8, 9, 10, 11, 12, 13, 14, 15, 22, 16, 17, 23, 24, 25, 26], PX.mk g rfl rfl, rfl, rfl⟩
    | inr E =>
      obtain ⟨e1, e2⟩ := PX.inr hp
      subst e1; subst e2
      exact ⟨_, [18, 19, 0, 1, 20, 21, 2, 3, 4, 5, 6, 7, 8, 9, 10, 11, 12, 13, 14, 15, 22, 16, 17, 23, 24, 25, 26], PX.er, rfl, rfl⟩
  · rw [e] at h0
    try rw [e]
    refine ok_fr (wc := [(r 0, .inr (7, [.ref (r 1), .ref (r 8), .ref (r 15), .ref (r 20), .ref (r 21), .ref (r 23), .ref (r 25)])), (r 1, .inl (1, 3, .inr (.inr (.inr (.inr (rf3 r 2 2 3)))))), (r 6, .inr (4, [.ref (r 7), .int (S.1 2).1])), (r 7, .inl (0, 2646, .inl (S.1 2).2)), (r 20, .inr (2, [.int (S.2.2.2.1 0), .int (S.2.2.2.1 1), .int (S.2.2.2.1 2), .int (S.2.2.2.1 3), .int (S.2.2.2.1 4), .int (S.2.2.2.1 5)])), (r 23, .inr (6, [.ref (r 24)])), (r 24, .inl (0, 21, .inl S.2.2.2.2.2.1)), (r 25, .inr (6, [.ref (r 26)])), (r 26, .inl (0, 21, .inl S.2.2.2.2.2.2))]) (wr := [(r 2, .inr (4, [.ref (r 3), .int (S.1 0).1])), (r 3, .inl (0, 2646, .inl (S.1 0).2)), (r 4, .inr (4, [.ref (r 5), .int (S.1 1).1])), (r 5, .inl (0, 2646, .inl (S.1 1).2)), (r 8, .inl (2, 3, .inr (.inr (.inr (.inr (rf3 r 9 2 3)))))), (r 9, .inr (3, [.int (S.2.1 0).1, .ref (r 10), .int (S.2.1 0).2.1])), (r 10, .inl (0, 21, .inl (S.2.1 0).2.2)), (r 11, .inr (3, [.int (S.2.1 1).1, .ref (r 12), .int (S.2.1 1).2.1])), (r 12, .inl (0, 21, .inl (S.2.1 1).2.2)), (r 13, .inr (3, [.int (S.2.1 2).1, .ref (r 14), .int (S.2.1 2).2.1])), (r 14, .inl (0, 21, .inl (S.2.1 2).2.2)), (r 15, .inl (3, 2, .inr (.inr (.inr (.inr (rf3 r 16 2 2)))))), (r 16, .inr (6, [.ref (r 17)])), (r 17, .inl (0, 21, .inl (S.2.2.1 0))), (r 18, .inr (6, [.ref (r 19)])), (r 19, .inl (0, 21, .inl (S.2.2.1 1))), (r 21, .inr (5, [.ref (r 22)])), (r 22, .inl (0, 21, .inl S.2.2.2.2.1))]) [0, 1, 6, 7, 20, 23, 24, 25, 26] [2, 3, 4, 5, 8, 9, 10, 11, 12, 13, 14, 15, 16, 17, 18, 19, 21, 22] (ok_X5_relearn (x := r 0) (M := r 1) (L := r 8) (Dk := r 15) (c := r 20) (se := r 21) (wk := r 23) (sp := r 25) (q := r 6) (a := r 7) (wa := r 24) (sa := r 26) (mf := rf3 r 2 2 3) (fun h9 => by have h8 := ix_in h9; rw [e] at h8; exact (congrArg (rf3 r 2 2 3) h8.symm).trans rfl) h0) rfl rfl rfl rfl (by decide) ?_
    rintro o w hp
    cases x0 with
    | inl z =>
      obtain ⟨g, e1, e2⟩ := PX.inl hp
      subst e1; subst e2
      exact ⟨_, [18, 19, 0, 1, 2, 3, 20, 21, 4, 5, 6, 7, 8, 9, 10, 11, 12, 13, 14, 15, 22, 16, 17, 23, 24, 25, 26], PX.mk g rfl rfl, rfl, rfl⟩
    | inr E =>
      obtain ⟨e1, e2⟩ := PX.inr hp
      subst e1; subst e2
      exact ⟨_, [18, 19, 0, 1, 2, 3, 20, 21, 4, 5, 6, 7, 8, 9, 10, 11, 12, 13, 14, 15, 22, 16, 17, 23, 24, 25, 26], PX.er, rfl, rfl⟩
def gX_forget (N K : Nat) (S : CS) (p0 : Int32) (p1 : Int32) (p2 : Int32) (p3 : Int32) : Option ((Int32 × CS) ⊕ String) := (fX5_forget N K ((S.1 (ix 3 p0)).1) ((S.1 (ix 3 p0)).2) (S.2.2.2.1 0) (S.2.2.2.1 1) (S.2.2.2.1 2) (S.2.2.2.1 3) (S.2.2.2.1 4) (S.2.2.2.1 5) p0 p1 p2 p3).map (fun o => match o with | .inl z => .inl (z.1, ((upm S.1 (ix 3 p0) (z.2.1, z.2.2.1)), S.2.1, S.2.2.1, (upm (upm S.2.2.2.1 0 z.2.2.2.1) 4 z.2.2.2.2), S.2.2.2.2.1, S.2.2.2.2.2.1, S.2.2.2.2.2.2)) | .inr E => .inr E)
set_option maxHeartbeats 4000000 in
set_option maxRecDepth 100000 in
theorem ogX_forget {N K : Nat} {r : Nat → Nat} {S : CS} {p0 : Int32} {p1 : Int32} {p2 : Int32} {p3 : Int32} {x : (Int32 × CS) ⊕ String} (hE : gX_forget N K S p0 p1 p2 p3 = some x) : OkM yX5_forget (.code yX5_forget cX5_forget 7 (some .int)) (10) 4 24 [.ref (r 0), .int p0, .int p1, .int p2, .int p3] (WX r S) ((PX (U := Int32 × CS) (fun z _ => some (.int z.1)) (fun z _ => WX r z.2) (WX r S)) x) := by
  unfold gX_forget at hE
  obtain ⟨x0, h0, h1⟩ := Option.map_eq_some_iff.mp hE
  subst h1
  clear hE
  rcases lt3 (ix_lt (n := 3) (p := p0) (by decide)) with e | e | e
  · rw [e] at h0
    try rw [e]
    refine ok_fr (wc := [(r 0, .inr (7, [.ref (r 1), .ref (r 8), .ref (r 15), .ref (r 20), .ref (r 21), .ref (r 23), .ref (r 25)])), (r 1, .inl (1, 3, .inr (.inr (.inr (.inr (rf3 r 2 2 3)))))), (r 2, .inr (4, [.ref (r 3), .int (S.1 0).1])), (r 3, .inl (0, 2646, .inl (S.1 0).2)), (r 20, .inr (2, [.int (S.2.2.2.1 0), .int (S.2.2.2.1 1), .int (S.2.2.2.1 2), .int (S.2.2.2.1 3), .int (S.2.2.2.1 4), .int (S.2.2.2.1 5)]))]) (wr := [(r 4, .inr (4, [.ref (r 5), .int (S.1 1).1])), (r 5, .inl (0, 2646, .inl (S.1 1).2)), (r 6, .inr (4, [.ref (r 7), .int (S.1 2).1])), (r 7, .inl (0, 2646, .inl (S.1 2).2)), (r 8, .inl (2, 3, .inr (.inr (.inr (.inr (rf3 r 9 2 3)))))), (r 9, .inr (3, [.int (S.2.1 0).1, .ref (r 10), .int (S.2.1 0).2.1])), (r 10, .inl (0, 21, .inl (S.2.1 0).2.2)), (r 11, .inr (3, [.int (S.2.1 1).1, .ref (r 12), .int (S.2.1 1).2.1])), (r 12, .inl (0, 21, .inl (S.2.1 1).2.2)), (r 13, .inr (3, [.int (S.2.1 2).1, .ref (r 14), .int (S.2.1 2).2.1])), (r 14, .inl (0, 21, .inl (S.2.1 2).2.2)), (r 15, .inl (3, 2, .inr (.inr (.inr (.inr (rf3 r 16 2 2)))))), (r 16, .inr (6, [.ref (r 17)])), (r 17, .inl (0, 21, .inl (S.2.2.1 0))), (r 18, .inr (6, [.ref (r 19)])), (r 19, .inl (0, 21, .inl (S.2.2.1 1))), (r 21, .inr (5, [.ref (r 22)])), (r 22, .inl (0, 21, .inl S.2.2.2.2.1)), (r 23, .inr (6, [.ref (r 24)])), (r 24, .inl (0, 21, .inl S.2.2.2.2.2.1)), (r 25, .inr (6, [.ref (r 26)])), (r 26, .inl (0, 21, .inl S.2.2.2.2.2.2))]) [0, 1, 2, 3, 20] [4, 5, 6, 7, 8, 9, 10, 11, 12, 13, 14, 15, 16, 17, 18, 19, 21, 22, 23, 24, 25, 26] (ok_X5_forget (x := r 0) (M := r 1) (L := r 8) (Dk := r 15) (c := r 20) (se := r 21) (wk := r 23) (sp := r 25) (q := r 2) (a := r 3) (mf := rf3 r 2 2 3) (fun h9 => by have h8 := ix_in h9; rw [e] at h8; exact (congrArg (rf3 r 2 2 3) h8.symm).trans rfl) h0) rfl rfl rfl rfl (by decide) ?_
    rintro o w hp
    cases x0 with
    | inl z =>
      obtain ⟨g, e1, e2⟩ := PX.inl hp
      subst e1; subst e2
      exact ⟨_, [22, 23, 24, 25, 0, 1, 2, 3, 4, 5, 6, 7, 8, 9, 10, 11, 12, 13, 14, 15, 26, 16, 17, 18, 19, 20, 21], PX.mk g rfl rfl, rfl, rfl⟩
    | inr E =>
      obtain ⟨e1, e2⟩ := PX.inr hp
      subst e1; subst e2
      exact ⟨_, [22, 23, 24, 25, 0, 1, 2, 3, 4, 5, 6, 7, 8, 9, 10, 11, 12, 13, 14, 15, 26, 16, 17, 18, 19, 20, 21], PX.er, rfl, rfl⟩
  · rw [e] at h0
    try rw [e]
    refine ok_fr (wc := [(r 0, .inr (7, [.ref (r 1), .ref (r 8), .ref (r 15), .ref (r 20), .ref (r 21), .ref (r 23), .ref (r 25)])), (r 1, .inl (1, 3, .inr (.inr (.inr (.inr (rf3 r 2 2 3)))))), (r 4, .inr (4, [.ref (r 5), .int (S.1 1).1])), (r 5, .inl (0, 2646, .inl (S.1 1).2)), (r 20, .inr (2, [.int (S.2.2.2.1 0), .int (S.2.2.2.1 1), .int (S.2.2.2.1 2), .int (S.2.2.2.1 3), .int (S.2.2.2.1 4), .int (S.2.2.2.1 5)]))]) (wr := [(r 2, .inr (4, [.ref (r 3), .int (S.1 0).1])), (r 3, .inl (0, 2646, .inl (S.1 0).2)), (r 6, .inr (4, [.ref (r 7), .int (S.1 2).1])), (r 7, .inl (0, 2646, .inl (S.1 2).2)), (r 8, .inl (2, 3, .inr (.inr (.inr (.inr (rf3 r 9 2 3)))))), (r 9, .inr (3, [.int (S.2.1 0).1, .ref (r 10), .int (S.2.1 0).2.1])), (r 10, .inl (0, 21, .inl (S.2.1 0).2.2)), (r 11, .inr (3, [.int (S.2.1 1).1, .ref (r 12), .int (S.2.1 1).2.1])), (r 12, .inl (0, 21, .inl (S.2.1 1).2.2)), (r 13, .inr (3, [.int (S.2.1 2).1, .ref (r 14), .int (S.2.1 2).2.1])), (r 14, .inl (0, 21, .inl (S.2.1 2).2.2)), (r 15, .inl (3, 2, .inr (.inr (.inr (.inr (rf3 r 16 2 2)))))), (r 16, .inr (6, [.ref (r 17)])), (r 17, .inl (0, 21, .inl (S.2.2.1 0))), (r 18, .inr (6, [.ref (r 19)])), (r 19, .inl (0, 21, .inl (S.2.2.1 1))), (r 21, .inr (5, [.ref (r 22)])), (r 22, .inl (0, 21, .inl S.2.2.2.2.1)), (r 23, .inr (6, [.ref (r 24)])), (r 24, .inl (0, 21, .inl S.2.2.2.2.2.1)), (r 25, .inr (6, [.ref (r 26)])), (r 26, .inl (0, 21, .inl S.2.2.2.2.2.2))]) [0, 1, 4, 5, 20] [2, 3, 6, 7, 8, 9, 10, 11, 12, 13, 14, 15, 16, 17, 18, 19, 21, 22, 23, 24, 25, 26] (ok_X5_forget (x := r 0) (M := r 1) (L := r 8) (Dk := r 15) (c := r 20) (se := r 21) (wk := r 23) (sp := r 25) (q := r 4) (a := r 5) (mf := rf3 r 2 2 3) (fun h9 => by have h8 := ix_in h9; rw [e] at h8; exact (congrArg (rf3 r 2 2 3) h8.symm).trans rfl) h0) rfl rfl rfl rfl (by decide) ?_
    rintro o w hp
    cases x0 with
    | inl z =>
      obtain ⟨g, e1, e2⟩ := PX.inl hp
      subst e1; subst e2
      exact ⟨_, [22, 23, 0, 1, 24, 25, 2, 3, 4, 5, 6, 7, 8, 9, 10, 11, 12, 13, 14, 15, 26, 16, 17, 18, 19, 20, 21], PX.mk g rfl rfl, rfl, rfl⟩
    | inr E =>
      obtain ⟨e1, e2⟩ := PX.inr hp
      subst e1; subst e2
      exact ⟨_, [22, 23, 0, 1, 24, 25, 2, 3, 4, 5, 6, 7, 8, 9, 10, 11, 12, 13, 14, 15, 26, 16, 17, 18, 19, 20, 21], PX.er, rfl, rfl⟩
  · rw [e] at h0
    try rw [e]
    refine ok_fr (wc := [(r 0, .inr (7, [.ref (r 1), .ref (r 8), .ref (r 15), .ref (r 20), .ref (r 21), .ref (r 23), .ref (r 25)])), (r 1, .inl (1, 3, .inr (.inr (.inr (.inr (rf3 r 2 2 3)))))), (r 6, .inr (4, [.ref (r 7), .int (S.1 2).1])), (r 7, .inl (0, 2646, .inl (S.1 2).2)), (r 20, .inr (2, [.int (S.2.2.2.1 0), .int (S.2.2.2.1 1), .int (S.2.2.2.1 2), .int (S.2.2.2.1 3), .int (S.2.2.2.1 4), .int (S.2.2.2.1 5)]))]) (wr := [(r 2, .inr (4, [.ref (r 3), .int (S.1 0).1])), (r 3, .inl (0, 2646, .inl (S.1 0).2)), (r 4, .inr (4, [.ref (r 5), .int (S.1 1).1])), (r 5, .inl (0, 2646, .inl (S.1 1).2)), (r 8, .inl (2, 3, .inr (.inr (.inr (.inr (rf3 r 9 2 3)))))), (r 9, .inr (3, [.int (S.2.1 0).1, .ref (r 10), .int (S.2.1 0).2.1])), (r 10, .inl (0, 21, .inl (S.2.1 0).2.2)), (r 11, .inr (3, [.int (S.2.1 1).1, .ref (r 12), .int (S.2.1 1).2.1])), (r 12, .inl (0, 21, .inl (S.2.1 1).2.2)), (r 13, .inr (3, [.int (S.2.1 2).1, .ref (r 14), .int (S.2.1 2).2.1])), (r 14, .inl (0, 21, .inl (S.2.1 2).2.2)), (r 15, .inl (3, 2, .inr (.inr (.inr (.inr (rf3 r 16 2 2)))))), (r 16, .inr (6, [.ref (r 17)])), (r 17, .inl (0, 21, .inl (S.2.2.1 0))), (r 18, .inr (6, [.ref (r 19)])), (r 19, .inl (0, 21, .inl (S.2.2.1 1))), (r 21, .inr (5, [.ref (r 22)])), (r 22, .inl (0, 21, .inl S.2.2.2.2.1)), (r 23, .inr (6, [.ref (r 24)])), (r 24, .inl (0, 21, .inl S.2.2.2.2.2.1)), (r 25, .inr (6, [.ref (r 26)])), (r 26, .inl (0, 21, .inl S.2.2.2.2.2.2))]) [0, 1, 6, 7, 20] [2, 3, 4, 5, 8, 9, 10, 11, 12, 13, 14, 15, 16, 17, 18, 19, 21, 22, 23, 24, 25, 26] (ok_X5_forget (x := r 0) (M := r 1) (L := r 8) (Dk := r 15) (c := r 20) (se := r 21) (wk := r 23) (sp := r 25) (q := r 6) (a := r 7) (mf := rf3 r 2 2 3) (fun h9 => by have h8 := ix_in h9; rw [e] at h8; exact (congrArg (rf3 r 2 2 3) h8.symm).trans rfl) h0) rfl rfl rfl rfl (by decide) ?_
    rintro o w hp
    cases x0 with
    | inl z =>
      obtain ⟨g, e1, e2⟩ := PX.inl hp
      subst e1; subst e2
      exact ⟨_, [22, 23, 0, 1, 2, 3, 24, 25, 4, 5, 6, 7, 8, 9, 10, 11, 12, 13, 14, 15, 26, 16, 17, 18, 19, 20, 21], PX.mk g rfl rfl, rfl, rfl⟩
    | inr E =>
      obtain ⟨e1, e2⟩ := PX.inr hp
      subst e1; subst e2
      exact ⟨_, [22, 23, 0, 1, 2, 3, 24, 25, 4, 5, 6, 7, 8, 9, 10, 11, 12, 13, 14, 15, 26, 16, 17, 18, 19, 20, 21], PX.er, rfl, rfl⟩
def gX_forgetIf (N K : Nat) (S : CS) (p0 : Int32) (p1 : Int32) (p2 : Int32) (p3 : Int32) (p4 : Int32) : Option ((Int32 × CS) ⊕ String) := (fX5_forgetIf N K ((S.1 (ix 3 p0)).1) ((S.1 (ix 3 p0)).2) (S.2.2.2.1 0) (S.2.2.2.1 1) (S.2.2.2.1 2) (S.2.2.2.1 3) (S.2.2.2.1 4) (S.2.2.2.1 5) p0 p1 p2 p3 p4).map (fun o => match o with | .inl z => .inl (z.1, ((upm S.1 (ix 3 p0) (z.2.1, z.2.2.1)), S.2.1, S.2.2.1, (upm S.2.2.2.1 0 z.2.2.2), S.2.2.2.2.1, S.2.2.2.2.2.1, S.2.2.2.2.2.2)) | .inr E => .inr E)
set_option maxHeartbeats 4000000 in
set_option maxRecDepth 100000 in
theorem ogX_forgetIf {N K : Nat} {r : Nat → Nat} {S : CS} {p0 : Int32} {p1 : Int32} {p2 : Int32} {p3 : Int32} {p4 : Int32} {x : (Int32 × CS) ⊕ String} (hE : gX_forgetIf N K S p0 p1 p2 p3 p4 = some x) : OkM yX5_forgetIf (.code yX5_forgetIf cX5_forgetIf 7 (some .int)) (10) 4 24 [.ref (r 0), .int p0, .int p1, .int p2, .int p3, .int p4] (WX r S) ((PX (U := Int32 × CS) (fun z _ => some (.int z.1)) (fun z _ => WX r z.2) (WX r S)) x) := by
  unfold gX_forgetIf at hE
  obtain ⟨x0, h0, h1⟩ := Option.map_eq_some_iff.mp hE
  subst h1
  clear hE
  rcases lt3 (ix_lt (n := 3) (p := p0) (by decide)) with e | e | e
  · rw [e] at h0
    try rw [e]
    refine ok_fr (wc := [(r 0, .inr (7, [.ref (r 1), .ref (r 8), .ref (r 15), .ref (r 20), .ref (r 21), .ref (r 23), .ref (r 25)])), (r 1, .inl (1, 3, .inr (.inr (.inr (.inr (rf3 r 2 2 3)))))), (r 2, .inr (4, [.ref (r 3), .int (S.1 0).1])), (r 3, .inl (0, 2646, .inl (S.1 0).2)), (r 20, .inr (2, [.int (S.2.2.2.1 0), .int (S.2.2.2.1 1), .int (S.2.2.2.1 2), .int (S.2.2.2.1 3), .int (S.2.2.2.1 4), .int (S.2.2.2.1 5)]))]) (wr := [(r 4, .inr (4, [.ref (r 5), .int (S.1 1).1])), (r 5, .inl (0, 2646, .inl (S.1 1).2)), (r 6, .inr (4, [.ref (r 7), .int (S.1 2).1])), (r 7, .inl (0, 2646, .inl (S.1 2).2)), (r 8, .inl (2, 3, .inr (.inr (.inr (.inr (rf3 r 9 2 3)))))), (r 9, .inr (3, [.int (S.2.1 0).1, .ref (r 10), .int (S.2.1 0).2.1])), (r 10, .inl (0, 21, .inl (S.2.1 0).2.2)), (r 11, .inr (3, [.int (S.2.1 1).1, .ref (r 12), .int (S.2.1 1).2.1])), (r 12, .inl (0, 21, .inl (S.2.1 1).2.2)), (r 13, .inr (3, [.int (S.2.1 2).1, .ref (r 14), .int (S.2.1 2).2.1])), (r 14, .inl (0, 21, .inl (S.2.1 2).2.2)), (r 15, .inl (3, 2, .inr (.inr (.inr (.inr (rf3 r 16 2 2)))))), (r 16, .inr (6, [.ref (r 17)])), (r 17, .inl (0, 21, .inl (S.2.2.1 0))), (r 18, .inr (6, [.ref (r 19)])), (r 19, .inl (0, 21, .inl (S.2.2.1 1))), (r 21, .inr (5, [.ref (r 22)])), (r 22, .inl (0, 21, .inl S.2.2.2.2.1)), (r 23, .inr (6, [.ref (r 24)])), (r 24, .inl (0, 21, .inl S.2.2.2.2.2.1)), (r 25, .inr (6, [.ref (r 26)])), (r 26, .inl (0, 21, .inl S.2.2.2.2.2.2))]) [0, 1, 2, 3, 20] [4, 5, 6, 7, 8, 9, 10, 11, 12, 13, 14, 15, 16, 17, 18, 19, 21, 22, 23, 24, 25, 26] (ok_X5_forgetIf (x := r 0) (M := r 1) (L := r 8) (Dk := r 15) (c := r 20) (se := r 21) (wk := r 23) (sp := r 25) (q := r 2) (a := r 3) (mf := rf3 r 2 2 3) (fun h9 => by have h8 := ix_in h9; rw [e] at h8; exact (congrArg (rf3 r 2 2 3) h8.symm).trans rfl) h0) rfl rfl rfl rfl (by decide) ?_
    rintro o w hp
    cases x0 with
    | inl z =>
      obtain ⟨g, e1, e2⟩ := PX.inl hp
      subst e1; subst e2
      exact ⟨_, [22, 23, 24, 25, 0, 1, 2, 3, 4, 5, 6, 7, 8, 9, 10, 11, 12, 13, 14, 15, 26, 16, 17, 18, 19, 20, 21], PX.mk g rfl rfl, rfl, rfl⟩
    | inr E =>
      obtain ⟨e1, e2⟩ := PX.inr hp
      subst e1; subst e2
      exact ⟨_, [22, 23, 24, 25, 0, 1, 2, 3, 4, 5, 6, 7, 8, 9, 10, 11, 12, 13, 14, 15, 26, 16, 17, 18, 19, 20, 21], PX.er, rfl, rfl⟩
  · rw [e] at h0
    try rw [e]
    refine ok_fr (wc := [(r 0, .inr (7, [.ref (r 1), .ref (r 8), .ref (r 15), .ref (r 20), .ref (r 21), .ref (r 23), .ref (r 25)])), (r 1, .inl (1, 3, .inr (.inr (.inr (.inr (rf3 r 2 2 3)))))), (r 4, .inr (4, [.ref (r 5), .int (S.1 1).1])), (r 5, .inl (0, 2646, .inl (S.1 1).2)), (r 20, .inr (2, [.int (S.2.2.2.1 0), .int (S.2.2.2.1 1), .int (S.2.2.2.1 2), .int (S.2.2.2.1 3), .int (S.2.2.2.1 4), .int (S.2.2.2.1 5)]))]) (wr := [(r 2, .inr (4, [.ref (r 3), .int (S.1 0).1])), (r 3, .inl (0, 2646, .inl (S.1 0).2)), (r 6, .inr (4, [.ref (r 7), .int (S.1 2).1])), (r 7, .inl (0, 2646, .inl (S.1 2).2)), (r 8, .inl (2, 3, .inr (.inr (.inr (.inr (rf3 r 9 2 3)))))), (r 9, .inr (3, [.int (S.2.1 0).1, .ref (r 10), .int (S.2.1 0).2.1])), (r 10, .inl (0, 21, .inl (S.2.1 0).2.2)), (r 11, .inr (3, [.int (S.2.1 1).1, .ref (r 12), .int (S.2.1 1).2.1])), (r 12, .inl (0, 21, .inl (S.2.1 1).2.2)), (r 13, .inr (3, [.int (S.2.1 2).1, .ref (r 14), .int (S.2.1 2).2.1])), (r 14, .inl (0, 21, .inl (S.2.1 2).2.2)), (r 15, .inl (3, 2, .inr (.inr (.inr (.inr (rf3 r 16 2 2)))))), (r 16, .inr (6, [.ref (r 17)])), (r 17, .inl (0, 21, .inl (S.2.2.1 0))), (r 18, .inr (6, [.ref (r 19)])), (r 19, .inl (0, 21, .inl (S.2.2.1 1))), (r 21, .inr (5, [.ref (r 22)])), (r 22, .inl (0, 21, .inl S.2.2.2.2.1)), (r 23, .inr (6, [.ref (r 24)])), (r 24, .inl (0, 21, .inl S.2.2.2.2.2.1)), (r 25, .inr (6, [.ref (r 26)])), (r 26, .inl (0, 21, .inl S.2.2.2.2.2.2))]) [0, 1, 4, 5, 20] [2, 3, 6, 7, 8, 9, 10, 11, 12, 13, 14, 15, 16, 17, 18, 19, 21, 22, 23, 24, 25, 26] (ok_X5_forgetIf (x := r 0) (M := r 1) (L := r 8) (Dk := r 15) (c := r 20) (se := r 21) (wk := r 23) (sp := r 25) (q := r 4) (a := r 5) (mf := rf3 r 2 2 3) (fun h9 => by have h8 := ix_in h9; rw [e] at h8; exact (congrArg (rf3 r 2 2 3) h8.symm).trans rfl) h0) rfl rfl rfl rfl (by decide) ?_
    rintro o w hp
    cases x0 with
    | inl z =>
      obtain ⟨g, e1, e2⟩ := PX.inl hp
      subst e1; subst e2
      exact ⟨_, [22, 23, 0, 1, 24, 25, 2, 3, 4, 5, 6, 7, 8, 9, 10, 11, 12, 13, 14, 15, 26, 16, 17, 18, 19, 20, 21], PX.mk g rfl rfl, rfl, rfl⟩
    | inr E =>
      obtain ⟨e1, e2⟩ := PX.inr hp
      subst e1; subst e2
      exact ⟨_, [22, 23, 0, 1, 24, 25, 2, 3, 4, 5, 6, 7, 8, 9, 10, 11, 12, 13, 14, 15, 26, 16, 17, 18, 19, 20, 21], PX.er, rfl, rfl⟩
  · rw [e] at h0
    try rw [e]
    refine ok_fr (wc := [(r 0, .inr (7, [.ref (r 1), .ref (r 8), .ref (r 15), .ref (r 20), .ref (r 21), .ref (r 23), .ref (r 25)])), (r 1, .inl (1, 3, .inr (.inr (.inr (.inr (rf3 r 2 2 3)))))), (r 6, .inr (4, [.ref (r 7), .int (S.1 2).1])), (r 7, .inl (0, 2646, .inl (S.1 2).2)), (r 20, .inr (2, [.int (S.2.2.2.1 0), .int (S.2.2.2.1 1), .int (S.2.2.2.1 2), .int (S.2.2.2.1 3), .int (S.2.2.2.1 4), .int (S.2.2.2.1 5)]))]) (wr := [(r 2, .inr (4, [.ref (r 3), .int (S.1 0).1])), (r 3, .inl (0, 2646, .inl (S.1 0).2)), (r 4, .inr (4, [.ref (r 5), .int (S.1 1).1])), (r 5, .inl (0, 2646, .inl (S.1 1).2)), (r 8, .inl (2, 3, .inr (.inr (.inr (.inr (rf3 r 9 2 3)))))), (r 9, .inr (3, [.int (S.2.1 0).1, .ref (r 10), .int (S.2.1 0).2.1])), (r 10, .inl (0, 21, .inl (S.2.1 0).2.2)), (r 11, .inr (3, [.int (S.2.1 1).1, .ref (r 12), .int (S.2.1 1).2.1])), (r 12, .inl (0, 21, .inl (S.2.1 1).2.2)), (r 13, .inr (3, [.int (S.2.1 2).1, .ref (r 14), .int (S.2.1 2).2.1])), (r 14, .inl (0, 21, .inl (S.2.1 2).2.2)), (r 15, .inl (3, 2, .inr (.inr (.inr (.inr (rf3 r 16 2 2)))))), (r 16, .inr (6, [.ref (r 17)])), (r 17, .inl (0, 21, .inl (S.2.2.1 0))), (r 18, .inr (6, [.ref (r 19)])), (r 19, .inl (0, 21, .inl (S.2.2.1 1))), (r 21, .inr (5, [.ref (r 22)])), (r 22, .inl (0, 21, .inl S.2.2.2.2.1)), (r 23, .inr (6, [.ref (r 24)])), (r 24, .inl (0, 21, .inl S.2.2.2.2.2.1)), (r 25, .inr (6, [.ref (r 26)])), (r 26, .inl (0, 21, .inl S.2.2.2.2.2.2))]) [0, 1, 6, 7, 20] [2, 3, 4, 5, 8, 9, 10, 11, 12, 13, 14, 15, 16, 17, 18, 19, 21, 22, 23, 24, 25, 26] (ok_X5_forgetIf (x := r 0) (M := r 1) (L := r 8) (Dk := r 15) (c := r 20) (se := r 21) (wk := r 23) (sp := r 25) (q := r 6) (a := r 7) (mf := rf3 r 2 2 3) (fun h9 => by have h8 := ix_in h9; rw [e] at h8; exact (congrArg (rf3 r 2 2 3) h8.symm).trans rfl) h0) rfl rfl rfl rfl (by decide) ?_
    rintro o w hp
    cases x0 with
    | inl z =>
      obtain ⟨g, e1, e2⟩ := PX.inl hp
      subst e1; subst e2
      exact ⟨_, [22, 23, 0, 1, 2, 3, 24, 25, 4, 5, 6, 7, 8, 9, 10, 11, 12, 13, 14, 15, 26, 16, 17, 18, 19, 20, 21], PX.mk g rfl rfl, rfl, rfl⟩
    | inr E =>
      obtain ⟨e1, e2⟩ := PX.inr hp
      subst e1; subst e2
      exact ⟨_, [22, 23, 0, 1, 2, 3, 24, 25, 4, 5, 6, 7, 8, 9, 10, 11, 12, 13, 14, 15, 26, 16, 17, 18, 19, 20, 21], PX.er, rfl, rfl⟩
def gX_forgetAll (N K : Nat) (S : CS) (p0 : Int32) (p1 : Int32) (p2 : Int32) : Option ((Int32 × CS) ⊕ String) := (fX5_forgetAll N K ((S.1 (ix 3 p0)).1) ((S.1 (ix 3 p0)).2) (S.2.2.2.1 0) (S.2.2.2.1 1) (S.2.2.2.1 2) (S.2.2.2.1 3) (S.2.2.2.1 4) (S.2.2.2.1 5) p0 p1 p2).map (fun o => match o with | .inl z => .inl (z.1, ((upm S.1 (ix 3 p0) (z.2.1, z.2.2.1)), S.2.1, S.2.2.1, (upm S.2.2.2.1 0 z.2.2.2), S.2.2.2.2.1, S.2.2.2.2.2.1, S.2.2.2.2.2.2)) | .inr E => .inr E)
set_option maxHeartbeats 4000000 in
set_option maxRecDepth 100000 in
theorem ogX_forgetAll {N K : Nat} {r : Nat → Nat} {S : CS} {p0 : Int32} {p1 : Int32} {p2 : Int32} {x : (Int32 × CS) ⊕ String} (hE : gX_forgetAll N K S p0 p1 p2 = some x) : OkM yX5_forgetAll (.code yX5_forgetAll cX5_forgetAll 5 (some .int)) (9) 2 12 [.ref (r 0), .int p0, .int p1, .int p2] (WX r S) ((PX (U := Int32 × CS) (fun z _ => some (.int z.1)) (fun z _ => WX r z.2) (WX r S)) x) := by
  unfold gX_forgetAll at hE
  obtain ⟨x0, h0, h1⟩ := Option.map_eq_some_iff.mp hE
  subst h1
  clear hE
  rcases lt3 (ix_lt (n := 3) (p := p0) (by decide)) with e | e | e
  · rw [e] at h0
    try rw [e]
    refine ok_fr (wc := [(r 0, .inr (7, [.ref (r 1), .ref (r 8), .ref (r 15), .ref (r 20), .ref (r 21), .ref (r 23), .ref (r 25)])), (r 1, .inl (1, 3, .inr (.inr (.inr (.inr (rf3 r 2 2 3)))))), (r 2, .inr (4, [.ref (r 3), .int (S.1 0).1])), (r 3, .inl (0, 2646, .inl (S.1 0).2)), (r 20, .inr (2, [.int (S.2.2.2.1 0), .int (S.2.2.2.1 1), .int (S.2.2.2.1 2), .int (S.2.2.2.1 3), .int (S.2.2.2.1 4), .int (S.2.2.2.1 5)]))]) (wr := [(r 4, .inr (4, [.ref (r 5), .int (S.1 1).1])), (r 5, .inl (0, 2646, .inl (S.1 1).2)), (r 6, .inr (4, [.ref (r 7), .int (S.1 2).1])), (r 7, .inl (0, 2646, .inl (S.1 2).2)), (r 8, .inl (2, 3, .inr (.inr (.inr (.inr (rf3 r 9 2 3)))))), (r 9, .inr (3, [.int (S.2.1 0).1, .ref (r 10), .int (S.2.1 0).2.1])), (r 10, .inl (0, 21, .inl (S.2.1 0).2.2)), (r 11, .inr (3, [.int (S.2.1 1).1, .ref (r 12), .int (S.2.1 1).2.1])), (r 12, .inl (0, 21, .inl (S.2.1 1).2.2)), (r 13, .inr (3, [.int (S.2.1 2).1, .ref (r 14), .int (S.2.1 2).2.1])), (r 14, .inl (0, 21, .inl (S.2.1 2).2.2)), (r 15, .inl (3, 2, .inr (.inr (.inr (.inr (rf3 r 16 2 2)))))), (r 16, .inr (6, [.ref (r 17)])), (r 17, .inl (0, 21, .inl (S.2.2.1 0))), (r 18, .inr (6, [.ref (r 19)])), (r 19, .inl (0, 21, .inl (S.2.2.1 1))), (r 21, .inr (5, [.ref (r 22)])), (r 22, .inl (0, 21, .inl S.2.2.2.2.1)), (r 23, .inr (6, [.ref (r 24)])), (r 24, .inl (0, 21, .inl S.2.2.2.2.2.1)), (r 25, .inr (6, [.ref (r 26)])), (r 26, .inl (0, 21, .inl S.2.2.2.2.2.2))]) [0, 1, 2, 3, 20] [4, 5, 6, 7, 8, 9, 10, 11, 12, 13, 14, 15, 16, 17, 18, 19, 21, 22, 23, 24, 25, 26] (ok_X5_forgetAll (x := r 0) (M := r 1) (L := r 8) (Dk := r 15) (c := r 20) (se := r 21) (wk := r 23) (sp := r 25) (q := r 2) (a := r 3) (mf := rf3 r 2 2 3) (fun h9 => by have h8 := ix_in h9; rw [e] at h8; exact (congrArg (rf3 r 2 2 3) h8.symm).trans rfl) h0) rfl rfl rfl rfl (by decide) ?_
    rintro o w hp
    cases x0 with
    | inl z =>
      obtain ⟨g, e1, e2⟩ := PX.inl hp
      subst e1; subst e2
      exact ⟨_, [22, 23, 24, 25, 0, 1, 2, 3, 4, 5, 6, 7, 8, 9, 10, 11, 12, 13, 14, 15, 26, 16, 17, 18, 19, 20, 21], PX.mk g rfl rfl, rfl, rfl⟩
    | inr E =>
      obtain ⟨e1, e2⟩ := PX.inr hp
      subst e1; subst e2
      exact ⟨_, [22, 23, 24, 25, 0, 1, 2, 3, 4, 5, 6, 7, 8, 9, 10, 11, 12, 13, 14, 15, 26, 16, 17, 18, 19, 20, 21], PX.er, rfl, rfl⟩
  · rw [e] at h0
    try rw [e]
    refine ok_fr (wc := [(r 0, .inr (7, [.ref (r 1), .ref (r 8), .ref (r 15), .ref (r 20), .ref (r 21), .ref (r 23), .ref (r 25)])), (r 1, .inl (1, 3, .inr (.inr (.inr (.inr (rf3 r 2 2 3)))))), (r 4, .inr (4, [.ref (r 5), .int (S.1 1).1])), (r 5, .inl (0, 2646, .inl (S.1 1).2)), (r 20, .inr (2, [.int (S.2.2.2.1 0), .int (S.2.2.2.1 1), .int (S.2.2.2.1 2), .int (S.2.2.2.1 3), .int (S.2.2.2.1 4), .int (S.2.2.2.1 5)]))]) (wr := [(r 2, .inr (4, [.ref (r 3), .int (S.1 0).1])), (r 3, .inl (0, 2646, .inl (S.1 0).2)), (r 6, .inr (4, [.ref (r 7), .int (S.1 2).1])), (r 7, .inl (0, 2646, .inl (S.1 2).2)), (r 8, .inl (2, 3, .inr (.inr (.inr (.inr (rf3 r 9 2 3)))))), (r 9, .inr (3, [.int (S.2.1 0).1, .ref (r 10), .int (S.2.1 0).2.1])), (r 10, .inl (0, 21, .inl (S.2.1 0).2.2)), (r 11, .inr (3, [.int (S.2.1 1).1, .ref (r 12), .int (S.2.1 1).2.1])), (r 12, .inl (0, 21, .inl (S.2.1 1).2.2)), (r 13, .inr (3, [.int (S.2.1 2).1, .ref (r 14), .int (S.2.1 2).2.1])), (r 14, .inl (0, 21, .inl (S.2.1 2).2.2)), (r 15, .inl (3, 2, .inr (.inr (.inr (.inr (rf3 r 16 2 2)))))), (r 16, .inr (6, [.ref (r 17)])), (r 17, .inl (0, 21, .inl (S.2.2.1 0))), (r 18, .inr (6, [.ref (r 19)])), (r 19, .inl (0, 21, .inl (S.2.2.1 1))), (r 21, .inr (5, [.ref (r 22)])), (r 22, .inl (0, 21, .inl S.2.2.2.2.1)), (r 23, .inr (6, [.ref (r 24)])), (r 24, .inl (0, 21, .inl S.2.2.2.2.2.1)), (r 25, .inr (6, [.ref (r 26)])), (r 26, .inl (0, 21, .inl S.2.2.2.2.2.2))]) [0, 1, 4, 5, 20] [2, 3, 6, 7, 8, 9, 10, 11, 12, 13, 14, 15, 16, 17, 18, 19, 21, 22, 23, 24, 25, 26] (ok_X5_forgetAll (x := r 0) (M := r 1) (L := r 8) (Dk := r 15) (c := r 20) (se := r 21) (wk := r 23) (sp := r 25) (q := r 4) (a := r 5) (mf := rf3 r 2 2 3) (fun h9 => by have h8 := ix_in h9; rw [e] at h8; exact (congrArg (rf3 r 2 2 3) h8.symm).trans rfl) h0) rfl rfl rfl rfl (by decide) ?_
    rintro o w hp
    cases x0 with
    | inl z =>
      obtain ⟨g, e1, e2⟩ := PX.inl hp
      subst e1; subst e2
      exact ⟨_, [22, 23, 0, 1, 24, 25, 2, 3, 4, 5, 6, 7, 8, 9, 10, 11, 12, 13, 14, 15, 26, 16, 17, 18, 19, 20, 21], PX.mk g rfl rfl, rfl, rfl⟩
    | inr E =>
      obtain ⟨e1, e2⟩ := PX.inr hp
      subst e1; subst e2
      exact ⟨_, [22, 23, 0, 1, 24, 25, 2, 3, 4, 5, 6, 7, 8, 9, 10, 11, 12, 13, 14, 15, 26, 16, 17, 18, 19, 20, 21], PX.er, rfl, rfl⟩
  · rw [e] at h0
    try rw [e]
    refine ok_fr (wc := [(r 0, .inr (7, [.ref (r 1), .ref (r 8), .ref (r 15), .ref (r 20), .ref (r 21), .ref (r 23), .ref (r 25)])), (r 1, .inl (1, 3, .inr (.inr (.inr (.inr (rf3 r 2 2 3)))))), (r 6, .inr (4, [.ref (r 7), .int (S.1 2).1])), (r 7, .inl (0, 2646, .inl (S.1 2).2)), (r 20, .inr (2, [.int (S.2.2.2.1 0), .int (S.2.2.2.1 1), .int (S.2.2.2.1 2), .int (S.2.2.2.1 3), .int (S.2.2.2.1 4), .int (S.2.2.2.1 5)]))]) (wr := [(r 2, .inr (4, [.ref (r 3), .int (S.1 0).1])), (r 3, .inl (0, 2646, .inl (S.1 0).2)), (r 4, .inr (4, [.ref (r 5), .int (S.1 1).1])), (r 5, .inl (0, 2646, .inl (S.1 1).2)), (r 8, .inl (2, 3, .inr (.inr (.inr (.inr (rf3 r 9 2 3)))))), (r 9, .inr (3, [.int (S.2.1 0).1, .ref (r 10), .int (S.2.1 0).2.1])), (r 10, .inl (0, 21, .inl (S.2.1 0).2.2)), (r 11, .inr (3, [.int (S.2.1 1).1, .ref (r 12), .int (S.2.1 1).2.1])), (r 12, .inl (0, 21, .inl (S.2.1 1).2.2)), (r 13, .inr (3, [.int (S.2.1 2).1, .ref (r 14), .int (S.2.1 2).2.1])), (r 14, .inl (0, 21, .inl (S.2.1 2).2.2)), (r 15, .inl (3, 2, .inr (.inr (.inr (.inr (rf3 r 16 2 2)))))), (r 16, .inr (6, [.ref (r 17)])), (r 17, .inl (0, 21, .inl (S.2.2.1 0))), (r 18, .inr (6, [.ref (r 19)])), (r 19, .inl (0, 21, .inl (S.2.2.1 1))), (r 21, .inr (5, [.ref (r 22)])), (r 22, .inl (0, 21, .inl S.2.2.2.2.1)), (r 23, .inr (6, [.ref (r 24)])), (r 24, .inl (0, 21, .inl S.2.2.2.2.2.1)), (r 25, .inr (6, [.ref (r 26)])), (r 26, .inl (0, 21, .inl S.2.2.2.2.2.2))]) [0, 1, 6, 7, 20] [2, 3, 4, 5, 8, 9, 10, 11, 12, 13, 14, 15, 16, 17, 18, 19, 21, 22, 23, 24, 25, 26] (ok_X5_forgetAll (x := r 0) (M := r 1) (L := r 8) (Dk := r 15) (c := r 20) (se := r 21) (wk := r 23) (sp := r 25) (q := r 6) (a := r 7) (mf := rf3 r 2 2 3) (fun h9 => by have h8 := ix_in h9; rw [e] at h8; exact (congrArg (rf3 r 2 2 3) h8.symm).trans rfl) h0) rfl rfl rfl rfl (by decide) ?_
    rintro o w hp
    cases x0 with
    | inl z =>
      obtain ⟨g, e1, e2⟩ := PX.inl hp
      subst e1; subst e2
      exact ⟨_, [22, 23, 0, 1, 2, 3, 24, 25, 4, 5, 6, 7, 8, 9, 10, 11, 12, 13, 14, 15, 26, 16, 17, 18, 19, 20, 21], PX.mk g rfl rfl, rfl, rfl⟩
    | inr E =>
      obtain ⟨e1, e2⟩ := PX.inr hp
      subst e1; subst e2
      exact ⟨_, [22, 23, 0, 1, 2, 3, 24, 25, 4, 5, 6, 7, 8, 9, 10, 11, 12, 13, 14, 15, 26, 16, 17, 18, 19, 20, 21], PX.er, rfl, rfl⟩
def gX_clear (N K : Nat) (S : CS) (p0 : Int32) : Option ((Int32 × CS) ⊕ String) := (fX5_clear N K ((S.1 (ix 3 p0)).1) ((S.1 (ix 3 p0)).2) (S.2.2.2.1 0) (S.2.2.2.1 1) (S.2.2.2.1 2) (S.2.2.2.1 3) (S.2.2.2.1 4) (S.2.2.2.1 5) p0).map (fun o => match o with | .inl z => .inl (z.1, ((upm S.1 (ix 3 p0) (z.2.1, z.2.2.1)), S.2.1, S.2.2.1, (upm S.2.2.2.1 0 z.2.2.2), S.2.2.2.2.1, S.2.2.2.2.2.1, S.2.2.2.2.2.2)) | .inr E => .inr E)
set_option maxHeartbeats 4000000 in
set_option maxRecDepth 100000 in
theorem ogX_clear {N K : Nat} {r : Nat → Nat} {S : CS} {p0 : Int32} {x : (Int32 × CS) ⊕ String} (hE : gX_clear N K S p0 = some x) : OkM yX5_clear (.code yX5_clear cX5_clear 2 (some .int)) (9) 1 6 [.ref (r 0), .int p0] (WX r S) ((PX (U := Int32 × CS) (fun z _ => some (.int z.1)) (fun z _ => WX r z.2) (WX r S)) x) := by
  unfold gX_clear at hE
  obtain ⟨x0, h0, h1⟩ := Option.map_eq_some_iff.mp hE
  subst h1
  clear hE
  rcases lt3 (ix_lt (n := 3) (p := p0) (by decide)) with e | e | e
  · rw [e] at h0
    try rw [e]
    refine ok_fr (wc := [(r 0, .inr (7, [.ref (r 1), .ref (r 8), .ref (r 15), .ref (r 20), .ref (r 21), .ref (r 23), .ref (r 25)])), (r 1, .inl (1, 3, .inr (.inr (.inr (.inr (rf3 r 2 2 3)))))), (r 2, .inr (4, [.ref (r 3), .int (S.1 0).1])), (r 3, .inl (0, 2646, .inl (S.1 0).2)), (r 20, .inr (2, [.int (S.2.2.2.1 0), .int (S.2.2.2.1 1), .int (S.2.2.2.1 2), .int (S.2.2.2.1 3), .int (S.2.2.2.1 4), .int (S.2.2.2.1 5)]))]) (wr := [(r 4, .inr (4, [.ref (r 5), .int (S.1 1).1])), (r 5, .inl (0, 2646, .inl (S.1 1).2)), (r 6, .inr (4, [.ref (r 7), .int (S.1 2).1])), (r 7, .inl (0, 2646, .inl (S.1 2).2)), (r 8, .inl (2, 3, .inr (.inr (.inr (.inr (rf3 r 9 2 3)))))), (r 9, .inr (3, [.int (S.2.1 0).1, .ref (r 10), .int (S.2.1 0).2.1])), (r 10, .inl (0, 21, .inl (S.2.1 0).2.2)), (r 11, .inr (3, [.int (S.2.1 1).1, .ref (r 12), .int (S.2.1 1).2.1])), (r 12, .inl (0, 21, .inl (S.2.1 1).2.2)), (r 13, .inr (3, [.int (S.2.1 2).1, .ref (r 14), .int (S.2.1 2).2.1])), (r 14, .inl (0, 21, .inl (S.2.1 2).2.2)), (r 15, .inl (3, 2, .inr (.inr (.inr (.inr (rf3 r 16 2 2)))))), (r 16, .inr (6, [.ref (r 17)])), (r 17, .inl (0, 21, .inl (S.2.2.1 0))), (r 18, .inr (6, [.ref (r 19)])), (r 19, .inl (0, 21, .inl (S.2.2.1 1))), (r 21, .inr (5, [.ref (r 22)])), (r 22, .inl (0, 21, .inl S.2.2.2.2.1)), (r 23, .inr (6, [.ref (r 24)])), (r 24, .inl (0, 21, .inl S.2.2.2.2.2.1)), (r 25, .inr (6, [.ref (r 26)])), (r 26, .inl (0, 21, .inl S.2.2.2.2.2.2))]) [0, 1, 2, 3, 20] [4, 5, 6, 7, 8, 9, 10, 11, 12, 13, 14, 15, 16, 17, 18, 19, 21, 22, 23, 24, 25, 26] (ok_X5_clear (x := r 0) (M := r 1) (L := r 8) (Dk := r 15) (c := r 20) (se := r 21) (wk := r 23) (sp := r 25) (q := r 2) (a := r 3) (mf := rf3 r 2 2 3) (fun h9 => by have h8 := ix_in h9; rw [e] at h8; exact (congrArg (rf3 r 2 2 3) h8.symm).trans rfl) h0) rfl rfl rfl rfl (by decide) ?_
    rintro o w hp
    cases x0 with
    | inl z =>
      obtain ⟨g, e1, e2⟩ := PX.inl hp
      subst e1; subst e2
      exact ⟨_, [22, 23, 24, 25, 0, 1, 2, 3, 4, 5, 6, 7, 8, 9, 10, 11, 12, 13, 14, 15, 26, 16, 17, 18, 19, 20, 21], PX.mk g rfl rfl, rfl, rfl⟩
    | inr E =>
      obtain ⟨e1, e2⟩ := PX.inr hp
      subst e1; subst e2
      exact ⟨_, [22, 23, 24, 25, 0, 1, 2, 3, 4, 5, 6, 7, 8, 9, 10, 11, 12, 13, 14, 15, 26, 16, 17, 18, 19, 20, 21], PX.er, rfl, rfl⟩
  · rw [e] at h0
    try rw [e]
    refine ok_fr (wc := [(r 0, .inr (7, [.ref (r 1), .ref (r 8), .ref (r 15), .ref (r 20), .ref (r 21), .ref (r 23), .ref (r 25)])), (r 1, .inl (1, 3, .inr (.inr (.inr (.inr (rf3 r 2 2 3)))))), (r 4, .inr (4, [.ref (r 5), .int (S.1 1).1])), (r 5, .inl (0, 2646, .inl (S.1 1).2)), (r 20, .inr (2, [.int (S.2.2.2.1 0), .int (S.2.2.2.1 1), .int (S.2.2.2.1 2), .int (S.2.2.2.1 3), .int (S.2.2.2.1 4), .int (S.2.2.2.1 5)]))]) (wr := [(r 2, .inr (4, [.ref (r 3), .int (S.1 0).1])), (r 3, .inl (0, 2646, .inl (S.1 0).2)), (r 6, .inr (4, [.ref (r 7), .int (S.1 2).1])), (r 7, .inl (0, 2646, .inl (S.1 2).2)), (r 8, .inl (2, 3, .inr (.inr (.inr (.inr (rf3 r 9 2 3)))))), (r 9, .inr (3, [.int (S.2.1 0).1, .ref (r 10), .int (S.2.1 0).2.1])), (r 10, .inl (0, 21, .inl (S.2.1 0).2.2)), (r 11, .inr (3, [.int (S.2.1 1).1, .ref (r 12), .int (S.2.1 1).2.1])), (r 12, .inl (0, 21, .inl (S.2.1 1).2.2)), (r 13, .inr (3, [.int (S.2.1 2).1, .ref (r 14), .int (S.2.1 2).2.1])), (r 14, .inl (0, 21, .inl (S.2.1 2).2.2)), (r 15, .inl (3, 2, .inr (.inr (.inr (.inr (rf3 r 16 2 2)))))), (r 16, .inr (6, [.ref (r 17)])), (r 17, .inl (0, 21, .inl (S.2.2.1 0))), (r 18, .inr (6, [.ref (r 19)])), (r 19, .inl (0, 21, .inl (S.2.2.1 1))), (r 21, .inr (5, [.ref (r 22)])), (r 22, .inl (0, 21, .inl S.2.2.2.2.1)), (r 23, .inr (6, [.ref (r 24)])), (r 24, .inl (0, 21, .inl S.2.2.2.2.2.1)), (r 25, .inr (6, [.ref (r 26)])), (r 26, .inl (0, 21, .inl S.2.2.2.2.2.2))]) [0, 1, 4, 5, 20] [2, 3, 6, 7, 8, 9, 10, 11, 12, 13, 14, 15, 16, 17, 18, 19, 21, 22, 23, 24, 25, 26] (ok_X5_clear (x := r 0) (M := r 1) (L := r 8) (Dk := r 15) (c := r 20) (se := r 21) (wk := r 23) (sp := r 25) (q := r 4) (a := r 5) (mf := rf3 r 2 2 3) (fun h9 => by have h8 := ix_in h9; rw [e] at h8; exact (congrArg (rf3 r 2 2 3) h8.symm).trans rfl) h0) rfl rfl rfl rfl (by decide) ?_
    rintro o w hp
    cases x0 with
    | inl z =>
      obtain ⟨g, e1, e2⟩ := PX.inl hp
      subst e1; subst e2
      exact ⟨_, [22, 23, 0, 1, 24, 25, 2, 3, 4, 5, 6, 7, 8, 9, 10, 11, 12, 13, 14, 15, 26, 16, 17, 18, 19, 20, 21], PX.mk g rfl rfl, rfl, rfl⟩
    | inr E =>
      obtain ⟨e1, e2⟩ := PX.inr hp
      subst e1; subst e2
      exact ⟨_, [22, 23, 0, 1, 24, 25, 2, 3, 4, 5, 6, 7, 8, 9, 10, 11, 12, 13, 14, 15, 26, 16, 17, 18, 19, 20, 21], PX.er, rfl, rfl⟩
  · rw [e] at h0
    try rw [e]
    refine ok_fr (wc := [(r 0, .inr (7, [.ref (r 1), .ref (r 8), .ref (r 15), .ref (r 20), .ref (r 21), .ref (r 23), .ref (r 25)])), (r 1, .inl (1, 3, .inr (.inr (.inr (.inr (rf3 r 2 2 3)))))), (r 6, .inr (4, [.ref (r 7), .int (S.1 2).1])), (r 7, .inl (0, 2646, .inl (S.1 2).2)), (r 20, .inr (2, [.int (S.2.2.2.1 0), .int (S.2.2.2.1 1), .int (S.2.2.2.1 2), .int (S.2.2.2.1 3), .int (S.2.2.2.1 4), .int (S.2.2.2.1 5)]))]) (wr := [(r 2, .inr (4, [.ref (r 3), .int (S.1 0).1])), (r 3, .inl (0, 2646, .inl (S.1 0).2)), (r 4, .inr (4, [.ref (r 5), .int (S.1 1).1])), (r 5, .inl (0, 2646, .inl (S.1 1).2)), (r 8, .inl (2, 3, .inr (.inr (.inr (.inr (rf3 r 9 2 3)))))), (r 9, .inr (3, [.int (S.2.1 0).1, .ref (r 10), .int (S.2.1 0).2.1])), (r 10, .inl (0, 21, .inl (S.2.1 0).2.2)), (r 11, .inr (3, [.int (S.2.1 1).1, .ref (r 12), .int (S.2.1 1).2.1])), (r 12, .inl (0, 21, .inl (S.2.1 1).2.2)), (r 13, .inr (3, [.int (S.2.1 2).1, .ref (r 14), .int (S.2.1 2).2.1])), (r 14, .inl (0, 21, .inl (S.2.1 2).2.2)), (r 15, .inl (3, 2, .inr (.inr (.inr (.inr (rf3 r 16 2 2)))))), (r 16, .inr (6, [.ref (r 17)])), (r 17, .inl (0, 21, .inl (S.2.2.1 0))), (r 18, .inr (6, [.ref (r 19)])), (r 19, .inl (0, 21, .inl (S.2.2.1 1))), (r 21, .inr (5, [.ref (r 22)])), (r 22, .inl (0, 21, .inl S.2.2.2.2.1)), (r 23, .inr (6, [.ref (r 24)])), (r 24, .inl (0, 21, .inl S.2.2.2.2.2.1)), (r 25, .inr (6, [.ref (r 26)])), (r 26, .inl (0, 21, .inl S.2.2.2.2.2.2))]) [0, 1, 6, 7, 20] [2, 3, 4, 5, 8, 9, 10, 11, 12, 13, 14, 15, 16, 17, 18, 19, 21, 22, 23, 24, 25, 26] (ok_X5_clear (x := r 0) (M := r 1) (L := r 8) (Dk := r 15) (c := r 20) (se := r 21) (wk := r 23) (sp := r 25) (q := r 6) (a := r 7) (mf := rf3 r 2 2 3) (fun h9 => by have h8 := ix_in h9; rw [e] at h8; exact (congrArg (rf3 r 2 2 3) h8.symm).trans rfl) h0) rfl rfl rfl rfl (by decide) ?_
    rintro o w hp
    cases x0 with
    | inl z =>
      obtain ⟨g, e1, e2⟩ := PX.inl hp
      subst e1; subst e2
      exact ⟨_, [22, 23, 0, 1, 2, 3, 24, 25, 4, 5, 6, 7, 8, 9, 10, 11, 12, 13, 14, 15, 26, 16, 17, 18, 19, 20, 21], PX.mk g rfl rfl, rfl, rfl⟩
    | inr E =>
      obtain ⟨e1, e2⟩ := PX.inr hp
      subst e1; subst e2
      exact ⟨_, [22, 23, 0, 1, 2, 3, 24, 25, 4, 5, 6, 7, 8, 9, 10, 11, 12, 13, 14, 15, 26, 16, 17, 18, 19, 20, 21], PX.er, rfl, rfl⟩
def gX_copy (N K : Nat) (S : CS) (p0 : Int32) (p1 : Int32) : Option ((Int32 × CS) ⊕ String) := if p0 = p1 then (fX5_copyOwn N K ((S.1 (ix 3 p0)).1) ((S.1 (ix 3 p0)).2) (S.2.2.2.1 0) (S.2.2.2.1 1) (S.2.2.2.1 2) (S.2.2.2.1 3) (S.2.2.2.1 4) (S.2.2.2.1 5) p0).map (fun o => match o with | .inl z => .inl (z.1, ((upm S.1 (ix 3 p0) (z.2.1, z.2.2.1)), S.2.1, S.2.2.1, (upm S.2.2.2.1 0 z.2.2.2), S.2.2.2.2.1, S.2.2.2.2.2.1, S.2.2.2.2.2.2)) | .inr E => .inr E) else (fX5_copy N K ((S.1 (jx 3 p0 p1)).1) ((S.1 (jx 3 p0 p1)).2) ((S.1 (kx 3 p0 p1)).1) ((S.1 (kx 3 p0 p1)).2) (S.2.2.2.1 0) (S.2.2.2.1 1) (S.2.2.2.1 2) (S.2.2.2.1 3) (S.2.2.2.1 4) (S.2.2.2.1 5) p0 p1).map (fun o => match o with | .inl z => .inl (z.1, ((upm S.1 (kx 3 p0 p1) (z.2.1, z.2.2.1)), S.2.1, S.2.2.1, (upm S.2.2.2.1 0 z.2.2.2), S.2.2.2.2.1, S.2.2.2.2.2.1, S.2.2.2.2.2.2)) | .inr E => .inr E)
set_option maxHeartbeats 4000000 in
set_option maxRecDepth 100000 in
theorem ogX_copy {N K : Nat} {r : Nat → Nat} {S : CS} {p0 : Int32} {p1 : Int32} {x : (Int32 × CS) ⊕ String} (hE : gX_copy N K S p0 p1 = some x) : OkM yX5_copy (.code yX5_copy cX5_copy 5 (some .int)) (9) 2 12 [.ref (r 0), .int p0, .int p1] (WX r S) ((PX (U := Int32 × CS) (fun z _ => some (.int z.1)) (fun z _ => WX r z.2) (WX r S)) x) := by
  unfold gX_copy at hE
  by_cases hpq : p0 = p1
  · subst hpq
    rw [if_pos rfl] at hE
    obtain ⟨x0, h0, h1⟩ := Option.map_eq_some_iff.mp hE
    subst h1
    clear hE
    rcases lt3 (ix_lt (n := 3) (p := p0) (by decide)) with e | e | e
    · rw [e] at h0
      try rw [e]
      refine ok_fr (wc := [(r 0, .inr (7, [.ref (r 1), .ref (r 8), .ref (r 15), .ref (r 20), .ref (r 21), .ref (r 23), .ref (r 25)])), (r 1, .inl (1, 3, .inr (.inr (.inr (.inr (rf3 r 2 2 3)))))), (r 2, .inr (4, [.ref (r 3), .int (S.1 0).1])), (r 3, .inl (0, 2646, .inl (S.1 0).2)), (r 20, .inr (2, [.int (S.2.2.2.1 0), .int (S.2.2.2.1 1), .int (S.2.2.2.1 2), .int (S.2.2.2.1 3), .int (S.2.2.2.1 4), .int (S.2.2.2.1 5)]))]) (wr := [(r 4, .inr (4, [.ref (r 5), .int (S.1 1).1])), (r 5, .inl (0, 2646, .inl (S.1 1).2)), (r 6, .inr (4, [.ref (r 7), .int (S.1 2).1])), (r 7, .inl (0, 2646, .inl (S.1 2).2)), (r 8, .inl (2, 3, .inr (.inr (.inr (.inr (rf3 r 9 2 3)))))), (r 9, .inr (3, [.int (S.2.1 0).1, .ref (r 10), .int (S.2.1 0).2.1])), (r 10, .inl (0, 21, .inl (S.2.1 0).2.2)), (r 11, .inr (3, [.int (S.2.1 1).1, .ref (r 12), .int (S.2.1 1).2.1])), (r 12, .inl (0, 21, .inl (S.2.1 1).2.2)), (r 13, .inr (3, [.int (S.2.1 2).1, .ref (r 14), .int (S.2.1 2).2.1])), (r 14, .inl (0, 21, .inl (S.2.1 2).2.2)), (r 15, .inl (3, 2, .inr (.inr (.inr (.inr (rf3 r 16 2 2)))))), (r 16, .inr (6, [.ref (r 17)])), (r 17, .inl (0, 21, .inl (S.2.2.1 0))), (r 18, .inr (6, [.ref (r 19)])), (r 19, .inl (0, 21, .inl (S.2.2.1 1))), (r 21, .inr (5, [.ref (r 22)])), (r 22, .inl (0, 21, .inl S.2.2.2.2.1)), (r 23, .inr (6, [.ref (r 24)])), (r 24, .inl (0, 21, .inl S.2.2.2.2.2.1)), (r 25, .inr (6, [.ref (r 26)])), (r 26, .inl (0, 21, .inl S.2.2.2.2.2.2))]) [0, 1, 2, 3, 20] [4, 5, 6, 7, 8, 9, 10, 11, 12, 13, 14, 15, 16, 17, 18, 19, 21, 22, 23, 24, 25, 26] (ok_X5_copyOwn (x := r 0) (M := r 1) (L := r 8) (Dk := r 15) (c := r 20) (se := r 21) (wk := r 23) (sp := r 25) (q := r 2) (a := r 3) (mf := rf3 r 2 2 3) (fun h9 => by have h8 := ix_in h9; rw [e] at h8; exact (congrArg (rf3 r 2 2 3) h8.symm).trans rfl) h0) rfl rfl rfl rfl (by decide) ?_
      rintro o w hp
      cases x0 with
      | inl z =>
        obtain ⟨g, e1, e2⟩ := PX.inl hp
        subst e1; subst e2
        exact ⟨_, [22, 23, 24, 25, 0, 1, 2, 3, 4, 5, 6, 7, 8, 9, 10, 11, 12, 13, 14, 15, 26, 16, 17, 18, 19, 20, 21], PX.mk g rfl rfl, rfl, rfl⟩
      | inr E =>
        obtain ⟨e1, e2⟩ := PX.inr hp
        subst e1; subst e2
        exact ⟨_, [22, 23, 24, 25, 0, 1, 2, 3, 4, 5, 6, 7, 8, 9, 10, 11, 12, 13, 14, 15, 26, 16, 17, 18, 19, 20, 21], PX.er, rfl, rfl⟩
    · rw [e] at h0
      try rw [e]
      refine ok_fr (wc := [(r 0, .inr (7, [.ref (r 1), .ref (r 8), .ref (r 15), .ref (r 20), .ref (r 21), .ref (r 23), .ref (r 25)])), (r 1, .inl (1, 3, .inr (.inr (.inr (.inr (rf3 r 2 2 3)))))), (r 4, .inr (4, [.ref (r 5), .int (S.1 1).1])), (r 5, .inl (0, 2646, .inl (S.1 1).2)), (r 20, .inr (2, [.int (S.2.2.2.1 0), .int (S.2.2.2.1 1), .int (S.2.2.2.1 2), .int (S.2.2.2.1 3), .int (S.2.2.2.1 4), .int (S.2.2.2.1 5)]))]) (wr := [(r 2, .inr (4, [.ref (r 3), .int (S.1 0).1])), (r 3, .inl (0, 2646, .inl (S.1 0).2)), (r 6, .inr (4, [.ref (r 7), .int (S.1 2).1])), (r 7, .inl (0, 2646, .inl (S.1 2).2)), (r 8, .inl (2, 3, .inr (.inr (.inr (.inr (rf3 r 9 2 3)))))), (r 9, .inr (3, [.int (S.2.1 0).1, .ref (r 10), .int (S.2.1 0).2.1])), (r 10, .inl (0, 21, .inl (S.2.1 0).2.2)), (r 11, .inr (3, [.int (S.2.1 1).1, .ref (r 12), .int (S.2.1 1).2.1])), (r 12, .inl (0, 21, .inl (S.2.1 1).2.2)), (r 13, .inr (3, [.int (S.2.1 2).1, .ref (r 14), .int (S.2.1 2).2.1])), (r 14, .inl (0, 21, .inl (S.2.1 2).2.2)), (r 15, .inl (3, 2, .inr (.inr (.inr (.inr (rf3 r 16 2 2)))))), (r 16, .inr (6, [.ref (r 17)])), (r 17, .inl (0, 21, .inl (S.2.2.1 0))), (r 18, .inr (6, [.ref (r 19)])), (r 19, .inl (0, 21, .inl (S.2.2.1 1))), (r 21, .inr (5, [.ref (r 22)])), (r 22, .inl (0, 21, .inl S.2.2.2.2.1)), (r 23, .inr (6, [.ref (r 24)])), (r 24, .inl (0, 21, .inl S.2.2.2.2.2.1)), (r 25, .inr (6, [.ref (r 26)])), (r 26, .inl (0, 21, .inl S.2.2.2.2.2.2))]) [0, 1, 4, 5, 20] [2, 3, 6, 7, 8, 9, 10, 11, 12, 13, 14, 15, 16, 17, 18, 19, 21, 22, 23, 24, 25, 26] (ok_X5_copyOwn (x := r 0) (M := r 1) (L := r 8) (Dk := r 15) (c := r 20) (se := r 21) (wk := r 23) (sp := r 25) (q := r 4) (a := r 5) (mf := rf3 r 2 2 3) (fun h9 => by have h8 := ix_in h9; rw [e] at h8; exact (congrArg (rf3 r 2 2 3) h8.symm).trans rfl) h0) rfl rfl rfl rfl (by decide) ?_
      rintro o w hp
      cases x0 with
      | inl z =>
        obtain ⟨g, e1, e2⟩ := PX.inl hp
        subst e1; subst e2
        exact ⟨_, [22, 23, 0, 1, 24, 25, 2, 3, 4, 5, 6, 7, 8, 9, 10, 11, 12, 13, 14, 15, 26, 16, 17, 18, 19, 20, 21], PX.mk g rfl rfl, rfl, rfl⟩
      | inr E =>
        obtain ⟨e1, e2⟩ := PX.inr hp
        subst e1; subst e2
        exact ⟨_, [22, 23, 0, 1, 24, 25, 2, 3, 4, 5, 6, 7, 8, 9, 10, 11, 12, 13, 14, 15, 26, 16, 17, 18, 19, 20, 21], PX.er, rfl, rfl⟩
    · rw [e] at h0
      try rw [e]
      refine ok_fr (wc := [(r 0, .inr (7, [.ref (r 1), .ref (r 8), .ref (r 15), .ref (r 20), .ref (r 21), .ref (r 23), .ref (r 25)])), (r 1, .inl (1, 3, .inr (.inr (.inr (.inr (rf3 r 2 2 3)))))), (r 6, .inr (4, [.ref (r 7), .int (S.1 2).1])), (r 7, .inl (0, 2646, .inl (S.1 2).2)), (r 20, .inr (2, [.int (S.2.2.2.1 0), .int (S.2.2.2.1 1), .int (S.2.2.2.1 2), .int (S.2.2.2.1 3), .int (S.2.2.2.1 4), .int (S.2.2.2.1 5)]))]) (wr := [(r 2, .inr (4, [.ref (r 3), .int (S.1 0).1])), (r 3, .inl (0, 2646, .inl (S.1 0).2)), (r 4, .inr (4, [.ref (r 5), .int (S.1 1).1])), (r 5, .inl (0, 2646, .inl (S.1 1).2)), (r 8, .inl (2, 3, .inr (.inr (.inr (.inr (rf3 r 9 2 3)))))), (r 9, .inr (3, [.int (S.2.1 0).1, .ref (r 10), .int (S.2.1 0).2.1])), (r 10, .inl (0, 21, .inl (S.2.1 0).2.2)), (r 11, .inr (3, [.int (S.2.1 1).1, .ref (r 12), .int (S.2.1 1).2.1])), (r 12, .inl (0, 21, .inl (S.2.1 1).2.2)), (r 13, .inr (3, [.int (S.2.1 2).1, .ref (r 14), .int (S.2.1 2).2.1])), (r 14, .inl (0, 21, .inl (S.2.1 2).2.2)), (r 15, .inl (3, 2, .inr (.inr (.inr (.inr (rf3 r 16 2 2)))))), (r 16, .inr (6, [.ref (r 17)])), (r 17, .inl (0, 21, .inl (S.2.2.1 0))), (r 18, .inr (6, [.ref (r 19)])), (r 19, .inl (0, 21, .inl (S.2.2.1 1))), (r 21, .inr (5, [.ref (r 22)])), (r 22, .inl (0, 21, .inl S.2.2.2.2.1)), (r 23, .inr (6, [.ref (r 24)])), (r 24, .inl (0, 21, .inl S.2.2.2.2.2.1)), (r 25, .inr (6, [.ref (r 26)])), (r 26, .inl (0, 21, .inl S.2.2.2.2.2.2))]) [0, 1, 6, 7, 20] [2, 3, 4, 5, 8, 9, 10, 11, 12, 13, 14, 15, 16, 17, 18, 19, 21, 22, 23, 24, 25, 26] (ok_X5_copyOwn (x := r 0) (M := r 1) (L := r 8) (Dk := r 15) (c := r 20) (se := r 21) (wk := r 23) (sp := r 25) (q := r 6) (a := r 7) (mf := rf3 r 2 2 3) (fun h9 => by have h8 := ix_in h9; rw [e] at h8; exact (congrArg (rf3 r 2 2 3) h8.symm).trans rfl) h0) rfl rfl rfl rfl (by decide) ?_
      rintro o w hp
      cases x0 with
      | inl z =>
        obtain ⟨g, e1, e2⟩ := PX.inl hp
        subst e1; subst e2
        exact ⟨_, [22, 23, 0, 1, 2, 3, 24, 25, 4, 5, 6, 7, 8, 9, 10, 11, 12, 13, 14, 15, 26, 16, 17, 18, 19, 20, 21], PX.mk g rfl rfl, rfl, rfl⟩
      | inr E =>
        obtain ⟨e1, e2⟩ := PX.inr hp
        subst e1; subst e2
        exact ⟨_, [22, 23, 0, 1, 2, 3, 24, 25, 4, 5, 6, 7, 8, 9, 10, 11, 12, 13, 14, 15, 26, 16, 17, 18, 19, 20, 21], PX.er, rfl, rfl⟩
  · rw [if_neg hpq] at hE
    obtain ⟨x0, h0, h1⟩ := Option.map_eq_some_iff.mp hE
    subst h1
    clear hE
    rcases jk3 hpq with ⟨e, f⟩ | ⟨e, f⟩ | ⟨e, f⟩ | ⟨e, f⟩ | ⟨e, f⟩ | ⟨e, f⟩
    · simp only [e, f] at h0 ⊢
      refine ok_fr (wc := [(r 0, .inr (7, [.ref (r 1), .ref (r 8), .ref (r 15), .ref (r 20), .ref (r 21), .ref (r 23), .ref (r 25)])), (r 1, .inl (1, 3, .inr (.inr (.inr (.inr (rf3 r 2 2 3)))))), (r 2, .inr (4, [.ref (r 3), .int (S.1 0).1])), (r 3, .inl (0, 2646, .inl (S.1 0).2)), (r 4, .inr (4, [.ref (r 5), .int (S.1 1).1])), (r 5, .inl (0, 2646, .inl (S.1 1).2)), (r 20, .inr (2, [.int (S.2.2.2.1 0), .int (S.2.2.2.1 1), .int (S.2.2.2.1 2), .int (S.2.2.2.1 3), .int (S.2.2.2.1 4), .int (S.2.2.2.1 5)]))]) (wr := [(r 6, .inr (4, [.ref (r 7), .int (S.1 2).1])), (r 7, .inl (0, 2646, .inl (S.1 2).2)), (r 8, .inl (2, 3, .inr (.inr (.inr (.inr (rf3 r 9 2 3)))))), (r 9, .inr (3, [.int (S.2.1 0).1, .ref (r 10), .int (S.2.1 0).2.1])), (r 10, .inl (0, 21, .inl (S.2.1 0).2.2)), (r 11, .inr (3, [.int (S.2.1 1).1, .ref (r 12), .int (S.2.1 1).2.1])), (r 12, .inl (0, 21, .inl (S.2.1 1).2.2)), (r 13, .inr (3, [.int (S.2.1 2).1, .ref (r 14), .int (S.2.1 2).2.1])), (r 14, .inl (0, 21, .inl (S.2.1 2).2.2)), (r 15, .inl (3, 2, .inr (.inr (.inr (.inr (rf3 r 16 2 2)))))), (r 16, .inr (6, [.ref (r 17)])), (r 17, .inl (0, 21, .inl (S.2.2.1 0))), (r 18, .inr (6, [.ref (r 19)])), (r 19, .inl (0, 21, .inl (S.2.2.1 1))), (r 21, .inr (5, [.ref (r 22)])), (r 22, .inl (0, 21, .inl S.2.2.2.2.1)), (r 23, .inr (6, [.ref (r 24)])), (r 24, .inl (0, 21, .inl S.2.2.2.2.2.1)), (r 25, .inr (6, [.ref (r 26)])), (r 26, .inl (0, 21, .inl S.2.2.2.2.2.2))]) [0, 1, 2, 3, 4, 5, 20] [6, 7, 8, 9, 10, 11, 12, 13, 14, 15, 16, 17, 18, 19, 21, 22, 23, 24, 25, 26] (ok_X5_copy (x := r 0) (M := r 1) (L := r 8) (Dk := r 15) (c := r 20) (se := r 21) (wk := r 23) (sp := r 25) (q := r 2) (a := r 3) (q2 := r 4) (a2 := r 5) (mf := rf3 r 2 2 3) (fun h9 => by have h8 := jx_in (q := p1) h9; rw [e] at h8; exact (congrArg (rf3 r 2 2 3) h8.symm).trans rfl) (fun h9 => by have h8 := kx_in (p := p0) h9; rw [f] at h8; exact (congrArg (rf3 r 2 2 3) h8.symm).trans rfl) h0) rfl rfl rfl rfl (by decide) ?_
      rintro o w hp
      cases x0 with
      | inl z =>
        obtain ⟨g, e1, e2⟩ := PX.inl hp
        subst e1; subst e2
        exact ⟨_, [20, 21, 22, 23, 24, 25, 0, 1, 2, 3, 4, 5, 6, 7, 8, 9, 10, 11, 12, 13, 26, 14, 15, 16, 17, 18, 19], PX.mk g rfl rfl, rfl, rfl⟩
      | inr E =>
        obtain ⟨e1, e2⟩ := PX.inr hp
        subst e1; subst e2
        exact ⟨_, [20, 21, 22, 23, 24, 25, 0, 1, 2, 3, 4, 5, 6, 7, 8, 9, 10, 11, 12, 13, 26, 14, 15, 16, 17, 18, 19], PX.er, rfl, rfl⟩
    · simp only [e, f] at h0 ⊢
      refine ok_fr (wc := [(r 0, .inr (7, [.ref (r 1), .ref (r 8), .ref (r 15), .ref (r 20), .ref (r 21), .ref (r 23), .ref (r 25)])), (r 1, .inl (1, 3, .inr (.inr (.inr (.inr (rf3 r 2 2 3)))))), (r 2, .inr (4, [.ref (r 3), .int (S.1 0).1])), (r 3, .inl (0, 2646, .inl (S.1 0).2)), (r 6, .inr (4, [.ref (r 7), .int (S.1 2).1])), (r 7, .inl (0, 2646, .inl (S.1 2).2)), (r 20, .inr (2, [.int (S.2.2.2.1 0), .int (S.2.2.2.1 1), .int (S.2.2.2.1 2), .int (S.2.2.2.1 3), .int (S.2.2.2.1 4), .int (S.2.2.2.1 5)]))]) (wr := [(r 4, .inr (4, [.ref (r 5), .int (S.1 1).1])), (r 5, .inl (0, 2646, .inl (S.1 1).2)), (r 8, .inl (2, 3, .inr (.inr (.inr (.inr (rf3 r 9 2 3)))))), (r 9, .inr (3, [.int (S.2.1 0).1, .ref (r 10), .int (S.2.1 0).2.1])), (r 10, .inl (0, 21, .inl (S.2.1 0).2.2)), (r 11, .inr (3, [.int (S.2.1 1).1, .ref (r 12), .int (S.2.1 1).2.1])), (r 12, .inl (0, 21, .inl (S.2.1 1).2.2)), (r 13, .inr (3, [.int (S.2.1 2).1, .ref (r 14), .int (S.2.1 2).2.1])), (r 14, .inl (0, 21, .inl (S.2.1 2).2.2)), (r 15, .inl (3, 2, .inr (.inr (.inr (.inr (rf3 r 16 2 2)))))), (r 16, .inr (6, [.ref (r 17)])), (r 17, .inl (0, 21, .inl (S.2.2.1 0))), (r 18, .inr (6, [.ref (r 19)])), (r 19, .inl (0, 21, .inl (S.2.2.1 1))), (r 21, .inr (5, [.ref (r 22)])), (r 22, .inl (0, 21, .inl S.2.2.2.2.1)), (r 23, .inr (6, [.ref (r 24)])), (r 24, .inl (0, 21, .inl S.2.2.2.2.2.1)), (r 25, .inr (6, [.ref (r 26)])), (r 26, .inl (0, 21, .inl S.2.2.2.2.2.2))]) [0, 1, 2, 3, 6, 7, 20] [4, 5, 8, 9, 10, 11, 12, 13, 14, 15, 16, 17, 18, 19, 21, 22, 23, 24, 25, 26] (ok_X5_copy (x := r 0) (M := r 1) (L := r 8) (Dk := r 15) (c := r 20) (se := r 21) (wk := r 23) (sp := r 25) (q := r 2) (a := r 3) (q2 := r 6) (a2 := r 7) (mf := rf3 r 2 2 3) (fun h9 => by have h8 := jx_in (q := p1) h9; rw [e] at h8; exact (congrArg (rf3 r 2 2 3) h8.symm).trans rfl) (fun h9 => by have h8 := kx_in (p := p0) h9; rw [f] at h8; exact (congrArg (rf3 r 2 2 3) h8.symm).trans rfl) h0) rfl rfl rfl rfl (by decide) ?_
      rintro o w hp
      cases x0 with
      | inl z =>
        obtain ⟨g, e1, e2⟩ := PX.inl hp
        subst e1; subst e2
        exact ⟨_, [20, 21, 22, 23, 0, 1, 24, 25, 2, 3, 4, 5, 6, 7, 8, 9, 10, 11, 12, 13, 26, 14, 15, 16, 17, 18, 19], PX.mk g rfl rfl, rfl, rfl⟩
      | inr E =>
        obtain ⟨e1, e2⟩ := PX.inr hp
        subst e1; subst e2
        exact ⟨_, [20, 21, 22, 23, 0, 1, 24, 25, 2, 3, 4, 5, 6, 7, 8, 9, 10, 11, 12, 13, 26, 14, 15, 16, 17, 18, 19], PX.er, rfl, rfl⟩
    · simp only [e, f] at h0 ⊢
      refine ok_fr (wc := [(r 0, .inr (7, [.ref (r 1), .ref (r 8), .ref (r 15), .ref (r 20), .ref (r 21), .ref (r 23), .ref (r 25)])), (r 1, .inl (1, 3, .inr (.inr (.inr (.inr (rf3 r 2 2 3)))))), (r 4, .inr (4, [.ref (r 5), .int (S.1 1).1])), (r 5, .inl (0, 2646, .inl (S.1 1).2)), (r 2, .inr (4, [.ref (r 3), .int (S.1 0).1])), (r 3, .inl (0, 2646, .inl (S.1 0).2)), (r 20, .inr (2, [.int (S.2.2.2.1 0), .int (S.2.2.2.1 1), .int (S.2.2.2.1 2), .int (S.2.2.2.1 3), .int (S.2.2.2.1 4), .int (S.2.2.2.1 5)]))]) (wr := [(r 6, .inr (4, [.ref (r 7), .int (S.1 2).1])), (r 7, .inl (0, 2646, .inl (S.1 2).2)), (r 8, .inl (2, 3, .inr (.inr (.inr (.inr (rf3 r 9 2 3)))))), (r 9, .inr (3, [.int (S.2.1 0).1, .ref (r 10), .int (S.2.1 0).2.1])), (r 10, .inl (0, 21, .inl (S.2.1 0).2.2)), (r 11, .inr (3, [.int (S.2.1 1).1, .ref (r 12), .int (S.2.1 1).2.1])), (r 12, .inl (0, 21, .inl (S.2.1 1).2.2)), (r 13, .inr (3, [.int (S.2.1 2).1, .ref (r 14), .int (S.2.1 2).2.1])), (r 14, .inl (0, 21, .inl (S.2.1 2).2.2)), (r 15, .inl (3, 2, .inr (.inr (.inr (.inr (rf3 r 16 2 2)))))), (r 16, .inr (6, [.ref (r 17)])), (r 17, .inl (0, 21, .inl (S.2.2.1 0))), (r 18, .inr (6, [.ref (r 19)])), (r 19, .inl (0, 21, .inl (S.2.2.1 1))), (r 21, .inr (5, [.ref (r 22)])), (r 22, .inl (0, 21, .inl S.2.2.2.2.1)), (r 23, .inr (6, [.ref (r 24)])), (r 24, .inl (0, 21, .inl S.2.2.2.2.2.1)), (r 25, .inr (6, [.ref (r 26)])), (r 26, .inl (0, 21, .inl S.2.2.2.2.2.2))]) [0, 1, 4, 5, 2, 3, 20] [6, 7, 8, 9, 10, 11, 12, 13, 14, 15, 16, 17, 18, 19, 21, 22, 23, 24, 25, 26] (ok_X5_copy (x := r 0) (M := r 1) (L := r 8) (Dk := r 15) (c := r 20) (se := r 21) (wk := r 23) (sp := r 25) (q := r 4) (a := r 5) (q2 := r 2) (a2 := r 3) (mf := rf3 r 2 2 3) (fun h9 => by have h8 := jx_in (q := p1) h9; rw [e] at h8; exact (congrArg (rf3 r 2 2 3) h8.symm).trans rfl) (fun h9 => by have h8 := kx_in (p := p0) h9; rw [f] at h8; exact (congrArg (rf3 r 2 2 3) h8.symm).trans rfl) h0) rfl rfl rfl rfl (by decide) ?_
      rintro o w hp
      cases x0 with
      | inl z =>
        obtain ⟨g, e1, e2⟩ := PX.inl hp
        subst e1; subst e2
        exact ⟨_, [20, 21, 24, 25, 22, 23, 0, 1, 2, 3, 4, 5, 6, 7, 8, 9, 10, 11, 12, 13, 26, 14, 15, 16, 17, 18, 19], PX.mk g rfl rfl, rfl, rfl⟩
      | inr E =>
        obtain ⟨e1, e2⟩ := PX.inr hp
        subst e1; subst e2
        exact ⟨_, [20, 21, 24, 25, 22, 23, 0, 1, 2, 3, 4, 5, 6, 7, 8, 9, 10, 11, 12, 13, 26, 14, 15, 16, 17, 18, 19], PX.er, rfl, rfl⟩
    · simp only [e, f] at h0 ⊢
      refine ok_fr (wc := [(r 0, .inr (7, [.ref (r 1), .ref (r 8), .ref (r 15), .ref (r 20), .ref (r 21), .ref (r 23), .ref (r 25)])), (r 1, .inl (1, 3, .inr (.inr (.inr (.inr (rf3 r 2 2 3)))))), (r 4, .inr (4, [.ref (r 5), .int (S.1 1).1])), (r 5, .inl (0, 2646, .inl (S.1 1).2)), (r 6, .inr (4, [.ref (r 7), .int (S.1 2).1])), (r 7, .inl (0, 2646, .inl (S.1 2).2)), (r 20, .inr (2, [.int (S.2.2.2.1 0), .int (S.2.2.2.1 1), .int (S.2.2.2.1 2), .int (S.2.2.2.1 3), .int (S.2.2.2.1 4), .int (S.2.2.2.1 5)]))]) (wr := [(r 2, .inr (4, [.ref (r 3), .int (S.1 0).1])), (r 3, .inl (0, 2646, .inl (S.1 0).2)), (r 8, .inl (2, 3, .inr (.inr (.inr (.inr (rf3 r 9 2 3)))))), (r 9, .inr (3, [.int (S.2.1 0).1, .ref (r 10), .int (S.2.1 0).2.1])), (r 10, .inl (0, 21, .inl (S.2.1 0).2.2)), (r 11, .inr (3, [.int (S.2.1 1).1, .ref (r 12), .int (S.2.1 1).2.1])), (r 12, .inl (0, 21, .inl (S.2.1 1).2.2)), (r 13, .inr (3, [.int (S.2.1 2).1, .ref (r 14), .int (S.2.1 2).2.1])), (r 14, .inl (0, 21, .inl (S.2.1 2).2.2)), (r 15, .inl (3, 2, .inr (.inr (.inr (.inr (rf3 r 16 2 2)))))), (r 16, .inr (6, [.ref (r 17)])), (r 17, .inl (0, 21, .inl (S.2.2.1 0))), (r 18, .inr (6, [.ref (r 19)])), (r 19, .inl (0, 21, .inl (S.2.2.1 1))), (r 21, .inr (5, [.ref (r 22)])), (r 22, .inl (0, 21, .inl S.2.2.2.2.1)), (r 23, .inr (6, [.ref (r 24)])), (r 24, .inl (0, 21, .inl S.2.2.2.2.2.1)), (r 25, .inr (6, [.ref (r 26)])), (r 26, .inl (0, 21, .inl S.2.2.2.2.2.2))]) [0, 1, 4, 5, 6, 7, 20] [2, 3, 8, 9, 10, 11, 12, 13, 14, 15, 16, 17, 18, 19, 21, 22, 23, 24, 25, 26] (ok_X5_copy (x := r 0) (M := r 1) (L := r 8) (Dk := r 15) (c := r 20) (se := r 21) (wk := r 23) (sp := r 25) (q := r 4) (a := r 5) (q2 := r 6) (a2 := r 7) (mf := rf3 r 2 2 3) (fun h9 => by have h8 := jx_in (q := p1) h9; rw [e] at h8; exact (congrArg (rf3 r 2 2 3) h8.symm).trans rfl) (fun h9 => by have h8 := kx_in (p := p0) h9; rw [f] at h8; exact (congrArg (rf3 r 2 2 3) h8.symm).trans rfl) h0) rfl rfl rfl rfl (by decide) ?_
      rintro o w hp
      cases x0 with
      | inl z =>
        obtain ⟨g, e1, e2⟩ := PX.inl hp
        subst e1; subst e2
        exact ⟨_, [20, 21, 0, 1, 22, 23, 24, 25, 2, 3, 4, 5, 6, 7, 8, 9, 10, 11, 12, 13, 26, 14, 15, 16, 17, 18, 19], PX.mk g rfl rfl, rfl, rfl⟩
      | inr E =>
        obtain ⟨e1, e2⟩ := PX.inr hp
        subst e1; subst e2
        exact ⟨_, [20, 21, 0, 1, 22, 23, 24, 25, 2, 3, 4, 5, 6, 7, 8, 9, 10, 11, 12, 13, 26, 14, 15, 16, 17, 18, 19], PX.er, rfl, rfl⟩
    · simp only [e, f] at h0 ⊢
      refine ok_fr (wc := [(r 0, .inr (7, [.ref (r 1), .ref (r 8), .ref (r 15), .ref (r 20), .ref (r 21), .ref (r 23), .ref (r 25)])), (r 1, .inl (1, 3, .inr (.inr (.inr (.inr (rf3 r 2 2 3)))))), (r 6, .inr (4, [.ref (r 7), .int (S.1 2).1])), (r 7, .inl (0, 2646, .inl (S.1 2).2)), (r 2, .inr (4, [.ref (r 3), .int (S.1 0).1])), (r 3, .inl (0, 2646, .inl (S.1 0).2)), (r 20, .inr (2, [.int (S.2.2.2.1 0), .int (S.2.2.2.1 1), .int (S.2.2.2.1 2), .int (S.2.2.2.1 3), .int (S.2.2.2.1 4), .int (S.2.2.2.1 5)]))]) (wr := [(r 4, .inr (4, [.ref (r 5), .int (S.1 1).1])), (r 5, .inl (0, 2646, .inl (S.1 1).2)), (r 8, .inl (2, 3, .inr (.inr (.inr (.inr (rf3 r 9 2 3)))))), (r 9, .inr (3, [.int (S.2.1 0).1, .ref (r 10), .int (S.2.1 0).2.1])), (r 10, .inl (0, 21, .inl (S.2.1 0).2.2)), (r 11, .inr (3, [.int (S.2.1 1).1, .ref (r 12), .int (S.2.1 1).2.1])), (r 12, .inl (0, 21, .inl (S.2.1 1).2.2)), (r 13, .inr (3, [.int (S.2.1 2).1, .ref (r 14), .int (S.2.1 2).2.1])), (r 14, .inl (0, 21, .inl (S.2.1 2).2.2)), (r 15, .inl (3, 2, .inr (.inr (.inr (.inr (rf3 r 16 2 2)))))), (r 16, .inr (6, [.ref (r 17)])), (r 17, .inl (0, 21, .inl (S.2.2.1 0))), (r 18, .inr (6, [.ref (r 19)])), (r 19, .inl (0, 21, .inl (S.2.2.1 1))), (r 21, .inr (5, [.ref (r 22)])), (r 22, .inl (0, 21, .inl S.2.2.2.2.1)), (r 23, .inr (6, [.ref (r 24)])), (r 24, .inl (0, 21, .inl S.2.2.2.2.2.1)), (r 25, .inr (6, [.ref (r 26)])), (r 26, .inl (0, 21, .inl S.2.2.2.2.2.2))]) [0, 1, 6, 7, 2, 3, 20] [4, 5, 8, 9, 10, 11, 12, 13, 14, 15, 16, 17, 18, 19, 21, 22, 23, 24, 25, 26] (ok_X5_copy (x := r 0) (M := r 1) (L := r 8) (Dk := r 15) (c := r 20) (se := r 21) (wk := r 23) (sp := r 25) (q := r 6) (a := r 7) (q2 := r 2) (a2 := r 3) (mf := rf3 r 2 2 3) (fun h9 => by have h8 := jx_in (q := p1) h9; rw [e] at h8; exact (congrArg (rf3 r 2 2 3) h8.symm).trans rfl) (fun h9 => by have h8 := kx_in (p := p0) h9; rw [f] at h8; exact (congrArg (rf3 r 2 2 3) h8.symm).trans rfl) h0) rfl rfl rfl rfl (by decide) ?_
      rintro o w hp
      cases x0 with
      | inl z =>
        obtain ⟨g, e1, e2⟩ := PX.inl hp
        subst e1; subst e2
        exact ⟨_, [20, 21, 24, 25, 0, 1, 22, 23, 2, 3, 4, 5, 6, 7, 8, 9, 10, 11, 12, 13, 26, 14, 15, 16, 17, 18, 19], PX.mk g rfl rfl, rfl, rfl⟩
      | inr E =>
        obtain ⟨e1, e2⟩ := PX.inr hp
        subst e1; subst e2
        exact ⟨_, [20, 21, 24, 25, 0, 1, 22, 23, 2, 3, 4, 5, 6, 7, 8, 9, 10, 11, 12, 13, 26, 14, 15, 16, 17, 18, 19], PX.er, rfl, rfl⟩
    · simp only [e, f] at h0 ⊢
      refine ok_fr (wc := [(r 0, .inr (7, [.ref (r 1), .ref (r 8), .ref (r 15), .ref (r 20), .ref (r 21), .ref (r 23), .ref (r 25)])), (r 1, .inl (1, 3, .inr (.inr (.inr (.inr (rf3 r 2 2 3)))))), (r 6, .inr (4, [.ref (r 7), .int (S.1 2).1])), (r 7, .inl (0, 2646, .inl (S.1 2).2)), (r 4, .inr (4, [.ref (r 5), .int (S.1 1).1])), (r 5, .inl (0, 2646, .inl (S.1 1).2)), (r 20, .inr (2, [.int (S.2.2.2.1 0), .int (S.2.2.2.1 1), .int (S.2.2.2.1 2), .int (S.2.2.2.1 3), .int (S.2.2.2.1 4), .int (S.2.2.2.1 5)]))]) (wr := [(r 2, .inr (4, [.ref (r 3), .int (S.1 0).1])), (r 3, .inl (0, 2646, .inl (S.1 0).2)), (r 8, .inl (2, 3, .inr (.inr (.inr (.inr (rf3 r 9 2 3)))))), (r 9, .inr (3, [.int (S.2.1 0).1, .ref (r 10), .int (S.2.1 0).2.1])), (r 10, .inl (0, 21, .inl (S.2.1 0).2.2)), (r 11, .inr (3, [.int (S.2.1 1).1, .ref (r 12), .int (S.2.1 1).2.1])), (r 12, .inl (0, 21, .inl (S.2.1 1).2.2)), (r 13, .inr (3, [.int (S.2.1 2).1, .ref (r 14), .int (S.2.1 2).2.1])), (r 14, .inl (0, 21, .inl (S.2.1 2).2.2)), (r 15, .inl (3, 2, .inr (.inr (.inr (.inr (rf3 r 16 2 2)))))), (r 16, .inr (6, [.ref (r 17)])), (r 17, .inl (0, 21, .inl (S.2.2.1 0))), (r 18, .inr (6, [.ref (r 19)])), (r 19, .inl (0, 21, .inl (S.2.2.1 1))), (r 21, .inr (5, [.ref (r 22)])), (r 22, .inl (0, 21, .inl S.2.2.2.2.1)), (r 23, .inr (6, [.ref (r 24)])), (r 24, .inl (0, 21, .inl S.2.2.2.2.2.1)), (r 25, .inr (6, [.ref (r 26)])), (r 26, .inl (0, 21, .inl S.2.2.2.2.2.2))]) [0, 1, 6, 7, 4, 5, 20] [2, 3, 8, 9, 10, 11, 12, 13, 14, 15, 16, 17, 18, 19, 21, 22, 23, 24, 25, 26] (ok_X5_copy (x := r 0) (M := r 1) (L := r 8) (Dk := r 15) (c := r 20) (se := r 21) (wk := r 23) (sp := r 25) (q := r 6) (a := r 7) (q2 := r 4) (a2 := r 5) (mf := rf3 r 2 2 3) (fun h9 => by have h8 := jx_in (q := p1) h9; rw [e] at h8; exact (congrArg (rf3 r 2 2 3) h8.symm).trans rfl) (fun h9 => by have h8 := kx_in (p := p0) h9; rw [f] at h8; exact (congrArg (rf3 r 2 2 3) h8.symm).trans rfl) h0) rfl rfl rfl rfl (by decide) ?_
      rintro o w hp
      cases x0 with
      | inl z =>
        obtain ⟨g, e1, e2⟩ := PX.inl hp
        subst e1; subst e2
        exact ⟨_, [20, 21, 0, 1, 24, 25, 22, 23, 2, 3, 4, 5, 6, 7, 8, 9, 10, 11, 12, 13, 26, 14, 15, 16, 17, 18, 19], PX.mk g rfl rfl, rfl, rfl⟩
      | inr E =>
        obtain ⟨e1, e2⟩ := PX.inr hp
        subst e1; subst e2
        exact ⟨_, [20, 21, 0, 1, 24, 25, 22, 23, 2, 3, 4, 5, 6, 7, 8, 9, 10, 11, 12, 13, 26, 14, 15, 16, 17, 18, 19], PX.er, rfl, rfl⟩
def gX_pour (N K : Nat) (S : CS) (p0 : Int32) (p1 : Int32) : Option ((Int32 × CS) ⊕ String) := if p0 = p1 then (fX5_pourOwn N K ((S.1 (ix 3 p0)).1) ((S.1 (ix 3 p0)).2) (S.2.2.2.1 0) (S.2.2.2.1 1) (S.2.2.2.1 2) (S.2.2.2.1 3) (S.2.2.2.1 4) (S.2.2.2.1 5) p0).map (fun o => match o with | .inl z => .inl (z.1, (S.1, S.2.1, S.2.2.1, (upm S.2.2.2.1 4 z.2), S.2.2.2.2.1, S.2.2.2.2.2.1, S.2.2.2.2.2.2)) | .inr E => .inr E) else (fX5_pour N K ((S.1 (jx 3 p0 p1)).1) ((S.1 (jx 3 p0 p1)).2) ((S.1 (kx 3 p0 p1)).1) ((S.1 (kx 3 p0 p1)).2) (S.2.2.2.1 0) (S.2.2.2.1 1) (S.2.2.2.1 2) (S.2.2.2.1 3) (S.2.2.2.1 4) (S.2.2.2.1 5) p0 p1).map (fun o => match o with | .inl z => .inl (z.1, ((upm S.1 (kx 3 p0 p1) (z.2.1, z.2.2.1)), S.2.1, S.2.2.1, (upm (upm S.2.2.2.1 0 z.2.2.2.1) 4 z.2.2.2.2), S.2.2.2.2.1, S.2.2.2.2.2.1, S.2.2.2.2.2.2)) | .inr E => .inr E)
set_option maxHeartbeats 4000000 in
set_option maxRecDepth 100000 in
theorem ogX_pour {N K : Nat} {r : Nat → Nat} {S : CS} {p0 : Int32} {p1 : Int32} {x : (Int32 × CS) ⊕ String} (hE : gX_pour N K S p0 p1 = some x) : OkM yX5_pour (.code yX5_pour cX5_pour 5 (some .int)) (9) 2 12 [.ref (r 0), .int p0, .int p1] (WX r S) ((PX (U := Int32 × CS) (fun z _ => some (.int z.1)) (fun z _ => WX r z.2) (WX r S)) x) := by
  unfold gX_pour at hE
  by_cases hpq : p0 = p1
  · subst hpq
    rw [if_pos rfl] at hE
    obtain ⟨x0, h0, h1⟩ := Option.map_eq_some_iff.mp hE
    subst h1
    clear hE
    rcases lt3 (ix_lt (n := 3) (p := p0) (by decide)) with e | e | e
    · rw [e] at h0
      try rw [e]
      refine ok_fr (wc := [(r 0, .inr (7, [.ref (r 1), .ref (r 8), .ref (r 15), .ref (r 20), .ref (r 21), .ref (r 23), .ref (r 25)])), (r 1, .inl (1, 3, .inr (.inr (.inr (.inr (rf3 r 2 2 3)))))), (r 2, .inr (4, [.ref (r 3), .int (S.1 0).1])), (r 3, .inl (0, 2646, .inl (S.1 0).2)), (r 20, .inr (2, [.int (S.2.2.2.1 0), .int (S.2.2.2.1 1), .int (S.2.2.2.1 2), .int (S.2.2.2.1 3), .int (S.2.2.2.1 4), .int (S.2.2.2.1 5)]))]) (wr := [(r 4, .inr (4, [.ref (r 5), .int (S.1 1).1])), (r 5, .inl (0, 2646, .inl (S.1 1).2)), (r 6, .inr (4, [.ref (r 7), .int (S.1 2).1])), (r 7, .inl (0, 2646, .inl (S.1 2).2)), (r 8, .inl (2, 3, .inr (.inr (.inr (.inr (rf3 r 9 2 3)))))), (r 9, .inr (3, [.int (S.2.1 0).1, .ref (r 10), .int (S.2.1 0).2.1])), (r 10, .inl (0, 21, .inl (S.2.1 0).2.2)), (r 11, .inr (3, [.int (S.2.1 1).1, .ref (r 12), .int (S.2.1 1).2.1])), (r 12, .inl (0, 21, .inl (S.2.1 1).2.2)), (r 13, .inr (3, [.int (S.2.1 2).1, .ref (r 14), .int (S.2.1 2).2.1])), (r 14, .inl (0, 21, .inl (S.2.1 2).2.2)), (r 15, .inl (3, 2, .inr (.inr (.inr (.inr (rf3 r 16 2 2)))))), (r 16, .inr (6, [.ref (r 17)])), (r 17, .inl (0, 21, .inl (S.2.2.1 0))), (r 18, .inr (6, [.ref (r 19)])), (r 19, .inl (0, 21, .inl (S.2.2.1 1))), (r 21, .inr (5, [.ref (r 22)])), (r 22, .inl (0, 21, .inl S.2.2.2.2.1)), (r 23, .inr (6, [.ref (r 24)])), (r 24, .inl (0, 21, .inl S.2.2.2.2.2.1)), (r 25, .inr (6, [.ref (r 26)])), (r 26, .inl (0, 21, .inl S.2.2.2.2.2.2))]) [0, 1, 2, 3, 20] [4, 5, 6, 7, 8, 9, 10, 11, 12, 13, 14, 15, 16, 17, 18, 19, 21, 22, 23, 24, 25, 26] (ok_X5_pourOwn (x := r 0) (M := r 1) (L := r 8) (Dk := r 15) (c := r 20) (se := r 21) (wk := r 23) (sp := r 25) (q := r 2) (a := r 3) (mf := rf3 r 2 2 3) (fun h9 => by have h8 := ix_in h9; rw [e] at h8; exact (congrArg (rf3 r 2 2 3) h8.symm).trans rfl) h0) rfl rfl rfl rfl (by decide) ?_
      rintro o w hp
      cases x0 with
      | inl z =>
        obtain ⟨g, e1, e2⟩ := PX.inl hp
        subst e1; subst e2
        exact ⟨_, [22, 23, 24, 25, 0, 1, 2, 3, 4, 5, 6, 7, 8, 9, 10, 11, 12, 13, 14, 15, 26, 16, 17, 18, 19, 20, 21], PX.mk g rfl rfl, rfl, rfl⟩
      | inr E =>
        obtain ⟨e1, e2⟩ := PX.inr hp
        subst e1; subst e2
        exact ⟨_, [22, 23, 24, 25, 0, 1, 2, 3, 4, 5, 6, 7, 8, 9, 10, 11, 12, 13, 14, 15, 26, 16, 17, 18, 19, 20, 21], PX.er, rfl, rfl⟩
    · rw [e] at h0
      try rw [e]
      refine ok_fr (wc := [(r 0, .inr (7, [.ref (r 1), .ref (r 8), .ref (r 15), .ref (r 20), .ref (r 21), .ref (r 23), .ref (r 25)])), (r 1, .inl (1, 3, .inr (.inr (.inr (.inr (rf3 r 2 2 3)))))), (r 4, .inr (4, [.ref (r 5), .int (S.1 1).1])), (r 5, .inl (0, 2646, .inl (S.1 1).2)), (r 20, .inr (2, [.int (S.2.2.2.1 0), .int (S.2.2.2.1 1), .int (S.2.2.2.1 2), .int (S.2.2.2.1 3), .int (S.2.2.2.1 4), .int (S.2.2.2.1 5)]))]) (wr := [(r 2, .inr (4, [.ref (r 3), .int (S.1 0).1])), (r 3, .inl (0, 2646, .inl (S.1 0).2)), (r 6, .inr (4, [.ref (r 7), .int (S.1 2).1])), (r 7, .inl (0, 2646, .inl (S.1 2).2)), (r 8, .inl (2, 3, .inr (.inr (.inr (.inr (rf3 r 9 2 3)))))), (r 9, .inr (3, [.int (S.2.1 0).1, .ref (r 10), .int (S.2.1 0).2.1])), (r 10, .inl (0, 21, .inl (S.2.1 0).2.2)), (r 11, .inr (3, [.int (S.2.1 1).1, .ref (r 12), .int (S.2.1 1).2.1])), (r 12, .inl (0, 21, .inl (S.2.1 1).2.2)), (r 13, .inr (3, [.int (S.2.1 2).1, .ref (r 14), .int (S.2.1 2).2.1])), (r 14, .inl (0, 21, .inl (S.2.1 2).2.2)), (r 15, .inl (3, 2, .inr (.inr (.inr (.inr (rf3 r 16 2 2)))))), (r 16, .inr (6, [.ref (r 17)])), (r 17, .inl (0, 21, .inl (S.2.2.1 0))), (r 18, .inr (6, [.ref (r 19)])), (r 19, .inl (0, 21, .inl (S.2.2.1 1))), (r 21, .inr (5, [.ref (r 22)])), (r 22, .inl (0, 21, .inl S.2.2.2.2.1)), (r 23, .inr (6, [.ref (r 24)])), (r 24, .inl (0, 21, .inl S.2.2.2.2.2.1)), (r 25, .inr (6, [.ref (r 26)])), (r 26, .inl (0, 21, .inl S.2.2.2.2.2.2))]) [0, 1, 4, 5, 20] [2, 3, 6, 7, 8, 9, 10, 11, 12, 13, 14, 15, 16, 17, 18, 19, 21, 22, 23, 24, 25, 26] (ok_X5_pourOwn (x := r 0) (M := r 1) (L := r 8) (Dk := r 15) (c := r 20) (se := r 21) (wk := r 23) (sp := r 25) (q := r 4) (a := r 5) (mf := rf3 r 2 2 3) (fun h9 => by have h8 := ix_in h9; rw [e] at h8; exact (congrArg (rf3 r 2 2 3) h8.symm).trans rfl) h0) rfl rfl rfl rfl (by decide) ?_
      rintro o w hp
      cases x0 with
      | inl z =>
        obtain ⟨g, e1, e2⟩ := PX.inl hp
        subst e1; subst e2
        exact ⟨_, [22, 23, 0, 1, 24, 25, 2, 3, 4, 5, 6, 7, 8, 9, 10, 11, 12, 13, 14, 15, 26, 16, 17, 18, 19, 20, 21], PX.mk g rfl rfl, rfl, rfl⟩
      | inr E =>
        obtain ⟨e1, e2⟩ := PX.inr hp
        subst e1; subst e2
        exact ⟨_, [22, 23, 0, 1, 24, 25, 2, 3, 4, 5, 6, 7, 8, 9, 10, 11, 12, 13, 14, 15, 26, 16, 17, 18, 19, 20, 21], PX.er, rfl, rfl⟩
    · rw [e] at h0
      try rw [e]
      refine ok_fr (wc := [(r 0, .inr (7, [.ref (r 1), .ref (r 8), .ref (r 15), .ref (r 20), .ref (r 21), .ref (r 23), .ref (r 25)])), (r 1, .inl (1, 3, .inr (.inr (.inr (.inr (rf3 r 2 2 3)))))), (r 6, .inr (4, [.ref (r 7), .int (S.1 2).1])), (r 7, .inl (0, 2646, .inl (S.1 2).2)), (r 20, .inr (2, [.int (S.2.2.2.1 0), .int (S.2.2.2.1 1), .int (S.2.2.2.1 2), .int (S.2.2.2.1 3), .int (S.2.2.2.1 4), .int (S.2.2.2.1 5)]))]) (wr := [(r 2, .inr (4, [.ref (r 3), .int (S.1 0).1])), (r 3, .inl (0, 2646, .inl (S.1 0).2)), (r 4, .inr (4, [.ref (r 5), .int (S.1 1).1])), (r 5, .inl (0, 2646, .inl (S.1 1).2)), (r 8, .inl (2, 3, .inr (.inr (.inr (.inr (rf3 r 9 2 3)))))), (r 9, .inr (3, [.int (S.2.1 0).1, .ref (r 10), .int (S.2.1 0).2.1])), (r 10, .inl (0, 21, .inl (S.2.1 0).2.2)), (r 11, .inr (3, [.int (S.2.1 1).1, .ref (r 12), .int (S.2.1 1).2.1])), (r 12, .inl (0, 21, .inl (S.2.1 1).2.2)), (r 13, .inr (3, [.int (S.2.1 2).1, .ref (r 14), .int (S.2.1 2).2.1])), (r 14, .inl (0, 21, .inl (S.2.1 2).2.2)), (r 15, .inl (3, 2, .inr (.inr (.inr (.inr (rf3 r 16 2 2)))))), (r 16, .inr (6, [.ref (r 17)])), (r 17, .inl (0, 21, .inl (S.2.2.1 0))), (r 18, .inr (6, [.ref (r 19)])), (r 19, .inl (0, 21, .inl (S.2.2.1 1))), (r 21, .inr (5, [.ref (r 22)])), (r 22, .inl (0, 21, .inl S.2.2.2.2.1)), (r 23, .inr (6, [.ref (r 24)])), (r 24, .inl (0, 21, .inl S.2.2.2.2.2.1)), (r 25, .inr (6, [.ref (r 26)])), (r 26, .inl (0, 21, .inl S.2.2.2.2.2.2))]) [0, 1, 6, 7, 20] [2, 3, 4, 5, 8, 9, 10, 11, 12, 13, 14, 15, 16, 17, 18, 19, 21, 22, 23, 24, 25, 26] (ok_X5_pourOwn (x := r 0) (M := r 1) (L := r 8) (Dk := r 15) (c := r 20) (se := r 21) (wk := r 23) (sp := r 25) (q := r 6) (a := r 7) (mf := rf3 r 2 2 3) (fun h9 => by have h8 := ix_in h9; rw [e] at h8; exact (congrArg (rf3 r 2 2 3) h8.symm).trans rfl) h0) rfl rfl rfl rfl (by decide) ?_
      rintro o w hp
      cases x0 with
      | inl z =>
        obtain ⟨g, e1, e2⟩ := PX.inl hp
        subst e1; subst e2
        exact ⟨_, [22, 23, 0, 1, 2, 3, 24, 25, 4, 5, 6, 7, 8, 9, 10, 11, 12, 13, 14, 15, 26, 16, 17, 18, 19, 20, 21], PX.mk g rfl rfl, rfl, rfl⟩
      | inr E =>
        obtain ⟨e1, e2⟩ := PX.inr hp
        subst e1; subst e2
        exact ⟨_, [22, 23, 0, 1, 2, 3, 24, 25, 4, 5, 6, 7, 8, 9, 10, 11, 12, 13, 14, 15, 26, 16, 17, 18, 19, 20, 21], PX.er, rfl, rfl⟩
  · rw [if_neg hpq] at hE
    obtain ⟨x0, h0, h1⟩ := Option.map_eq_some_iff.mp hE
    subst h1
    clear hE
    rcases jk3 hpq with ⟨e, f⟩ | ⟨e, f⟩ | ⟨e, f⟩ | ⟨e, f⟩ | ⟨e, f⟩ | ⟨e, f⟩
    · simp only [e, f] at h0 ⊢
      refine ok_fr (wc := [(r 0, .inr (7, [.ref (r 1), .ref (r 8), .ref (r 15), .ref (r 20), .ref (r 21), .ref (r 23), .ref (r 25)])), (r 1, .inl (1, 3, .inr (.inr (.inr (.inr (rf3 r 2 2 3)))))), (r 2, .inr (4, [.ref (r 3), .int (S.1 0).1])), (r 3, .inl (0, 2646, .inl (S.1 0).2)), (r 4, .inr (4, [.ref (r 5), .int (S.1 1).1])), (r 5, .inl (0, 2646, .inl (S.1 1).2)), (r 20, .inr (2, [.int (S.2.2.2.1 0), .int (S.2.2.2.1 1), .int (S.2.2.2.1 2), .int (S.2.2.2.1 3), .int (S.2.2.2.1 4), .int (S.2.2.2.1 5)]))]) (wr := [(r 6, .inr (4, [.ref (r 7), .int (S.1 2).1])), (r 7, .inl (0, 2646, .inl (S.1 2).2)), (r 8, .inl (2, 3, .inr (.inr (.inr (.inr (rf3 r 9 2 3)))))), (r 9, .inr (3, [.int (S.2.1 0).1, .ref (r 10), .int (S.2.1 0).2.1])), (r 10, .inl (0, 21, .inl (S.2.1 0).2.2)), (r 11, .inr (3, [.int (S.2.1 1).1, .ref (r 12), .int (S.2.1 1).2.1])), (r 12, .inl (0, 21, .inl (S.2.1 1).2.2)), (r 13, .inr (3, [.int (S.2.1 2).1, .ref (r 14), .int (S.2.1 2).2.1])), (r 14, .inl (0, 21, .inl (S.2.1 2).2.2)), (r 15, .inl (3, 2, .inr (.inr (.inr (.inr (rf3 r 16 2 2)))))), (r 16, .inr (6, [.ref (r 17)])), (r 17, .inl (0, 21, .inl (S.2.2.1 0))), (r 18, .inr (6, [.ref (r 19)])), (r 19, .inl (0, 21, .inl (S.2.2.1 1))), (r 21, .inr (5, [.ref (r 22)])), (r 22, .inl (0, 21, .inl S.2.2.2.2.1)), (r 23, .inr (6, [.ref (r 24)])), (r 24, .inl (0, 21, .inl S.2.2.2.2.2.1)), (r 25, .inr (6, [.ref (r 26)])), (r 26, .inl (0, 21, .inl S.2.2.2.2.2.2))]) [0, 1, 2, 3, 4, 5, 20] [6, 7, 8, 9, 10, 11, 12, 13, 14, 15, 16, 17, 18, 19, 21, 22, 23, 24, 25, 26] (ok_X5_pour (x := r 0) (M := r 1) (L := r 8) (Dk := r 15) (c := r 20) (se := r 21) (wk := r 23) (sp := r 25) (q := r 2) (a := r 3) (q2 := r 4) (a2 := r 5) (mf := rf3 r 2 2 3) (fun h9 => by have h8 := jx_in (q := p1) h9; rw [e] at h8; exact (congrArg (rf3 r 2 2 3) h8.symm).trans rfl) (fun h9 => by have h8 := kx_in (p := p0) h9; rw [f] at h8; exact (congrArg (rf3 r 2 2 3) h8.symm).trans rfl) h0) rfl rfl rfl rfl (by decide) ?_
      rintro o w hp
      cases x0 with
      | inl z =>
        obtain ⟨g, e1, e2⟩ := PX.inl hp
        subst e1; subst e2
        exact ⟨_, [20, 21, 22, 23, 24, 25, 0, 1, 2, 3, 4, 5, 6, 7, 8, 9, 10, 11, 12, 13, 26, 14, 15, 16, 17, 18, 19], PX.mk g rfl rfl, rfl, rfl⟩
      | inr E =>
        obtain ⟨e1, e2⟩ := PX.inr hp
        subst e1; subst e2
        exact ⟨_, [20, 21, 22, 23, 24, 25, 0, 1, 2, 3, 4, 5, 6, 7, 8, 9, 10, 11, 12, 13, 26, 14, 15, 16, 17, 18, 19], PX.er, rfl, rfl⟩
    · simp only [e, f] at h0 ⊢
      refine ok_fr (wc := [(r 0, .inr (7, [.ref (r 1), .ref (r 8), .ref (r 15), .ref (r 20), .ref (r 21), .ref (r 23), .ref (r 25)])), (r 1, .inl (1, 3, .inr (.inr (.inr (.inr (rf3 r 2 2 3)))))), (r 2, .inr (4, [.ref (r 3), .int (S.1 0).1])), (r 3, .inl (0, 2646, .inl (S.1 0).2)), (r 6, .inr (4, [.ref (r 7), .int (S.1 2).1])), (r 7, .inl (0, 2646, .inl (S.1 2).2)), (r 20, .inr (2, [.int (S.2.2.2.1 0), .int (S.2.2.2.1 1), .int (S.2.2.2.1 2), .int (S.2.2.2.1 3), .int (S.2.2.2.1 4), .int (S.2.2.2.1 5)]))]) (wr := [(r 4, .inr (4, [.ref (r 5), .int (S.1 1).1])), (r 5, .inl (0, 2646, .inl (S.1 1).2)), (r 8, .inl (2, 3, .inr (.inr (.inr (.inr (rf3 r 9 2 3)))))), (r 9, .inr (3, [.int (S.2.1 0).1, .ref (r 10), .int (S.2.1 0).2.1])), (r 10, .inl (0, 21, .inl (S.2.1 0).2.2)), (r 11, .inr (3, [.int (S.2.1 1).1, .ref (r 12), .int (S.2.1 1).2.1])), (r 12, .inl (0, 21, .inl (S.2.1 1).2.2)), (r 13, .inr (3, [.int (S.2.1 2).1, .ref (r 14), .int (S.2.1 2).2.1])), (r 14, .inl (0, 21, .inl (S.2.1 2).2.2)), (r 15, .inl (3, 2, .inr (.inr (.inr (.inr (rf3 r 16 2 2)))))), (r 16, .inr (6, [.ref (r 17)])), (r 17, .inl (0, 21, .inl (S.2.2.1 0))), (r 18, .inr (6, [.ref (r 19)])), (r 19, .inl (0, 21, .inl (S.2.2.1 1))), (r 21, .inr (5, [.ref (r 22)])), (r 22, .inl (0, 21, .inl S.2.2.2.2.1)), (r 23, .inr (6, [.ref (r 24)])), (r 24, .inl (0, 21, .inl S.2.2.2.2.2.1)), (r 25, .inr (6, [.ref (r 26)])), (r 26, .inl (0, 21, .inl S.2.2.2.2.2.2))]) [0, 1, 2, 3, 6, 7, 20] [4, 5, 8, 9, 10, 11, 12, 13, 14, 15, 16, 17, 18, 19, 21, 22, 23, 24, 25, 26] (ok_X5_pour (x := r 0) (M := r 1) (L := r 8) (Dk := r 15) (c := r 20) (se := r 21) (wk := r 23) (sp := r 25) (q := r 2) (a := r 3) (q2 := r 6) (a2 := r 7) (mf := rf3 r 2 2 3) (fun h9 => by have h8 := jx_in (q := p1) h9; rw [e] at h8; exact (congrArg (rf3 r 2 2 3) h8.symm).trans rfl) (fun h9 => by have h8 := kx_in (p := p0) h9; rw [f] at h8; exact (congrArg (rf3 r 2 2 3) h8.symm).trans rfl) h0) rfl rfl rfl rfl (by decide) ?_
      rintro o w hp
      cases x0 with
      | inl z =>
        obtain ⟨g, e1, e2⟩ := PX.inl hp
        subst e1; subst e2
        exact ⟨_, [20, 21, 22, 23, 0, 1, 24, 25, 2, 3, 4, 5, 6, 7, 8, 9, 10, 11, 12, 13, 26, 14, 15, 16, 17, 18, 19], PX.mk g rfl rfl, rfl, rfl⟩
      | inr E =>
        obtain ⟨e1, e2⟩ := PX.inr hp
        subst e1; subst e2
        exact ⟨_, [20, 21, 22, 23, 0, 1, 24, 25, 2, 3, 4, 5, 6, 7, 8, 9, 10, 11, 12, 13, 26, 14, 15, 16, 17, 18, 19], PX.er, rfl, rfl⟩
    · simp only [e, f] at h0 ⊢
      refine ok_fr (wc := [(r 0, .inr (7, [.ref (r 1), .ref (r 8), .ref (r 15), .ref (r 20), .ref (r 21), .ref (r 23), .ref (r 25)])), (r 1, .inl (1, 3, .inr (.inr (.inr (.inr (rf3 r 2 2 3)))))), (r 4, .inr (4, [.ref (r 5), .int (S.1 1).1])), (r 5, .inl (0, 2646, .inl (S.1 1).2)), (r 2, .inr (4, [.ref (r 3), .int (S.1 0).1])), (r 3, .inl (0, 2646, .inl (S.1 0).2)), (r 20, .inr (2, [.int (S.2.2.2.1 0), .int (S.2.2.2.1 1), .int (S.2.2.2.1 2), .int (S.2.2.2.1 3), .int (S.2.2.2.1 4), .int (S.2.2.2.1 5)]))]) (wr := [(r 6, .inr (4, [.ref (r 7), .int (S.1 2).1])), (r 7, .inl (0, 2646, .inl (S.1 2).2)), (r 8, .inl (2, 3, .inr (.inr (.inr (.inr (rf3 r 9 2 3)))))), (r 9, .inr (3, [.int (S.2.1 0).1, .ref (r 10), .int (S.2.1 0).2.1])), (r 10, .inl (0, 21, .inl (S.2.1 0).2.2)), (r 11, .inr (3, [.int (S.2.1 1).1, .ref (r 12), .int (S.2.1 1).2.1])), (r 12, .inl (0, 21, .inl (S.2.1 1).2.2)), (r 13, .inr (3, [.int (S.2.1 2).1, .ref (r 14), .int (S.2.1 2).2.1])), (r 14, .inl (0, 21, .inl (S.2.1 2).2.2)), (r 15, .inl (3, 2, .inr (.inr (.inr (.inr (rf3 r 16 2 2)))))), (r 16, .inr (6, [.ref (r 17)])), (r 17, .inl (0, 21, .inl (S.2.2.1 0))), (r 18, .inr (6, [.ref (r 19)])), (r 19, .inl (0, 21, .inl (S.2.2.1 1))), (r 21, .inr (5, [.ref (r 22)])), (r 22, .inl (0, 21, .inl S.2.2.2.2.1)), (r 23, .inr (6, [.ref (r 24)])), (r 24, .inl (0, 21, .inl S.2.2.2.2.2.1)), (r 25, .inr (6, [.ref (r 26)])), (r 26, .inl (0, 21, .inl S.2.2.2.2.2.2))]) [0, 1, 4, 5, 2, 3, 20] [6, 7, 8, 9, 10, 11, 12, 13, 14, 15, 16, 17, 18, 19, 21, 22, 23, 24, 25, 26] (ok_X5_pour (x := r 0) (M := r 1) (L := r 8) (Dk := r 15) (c := r 20) (se := r 21) (wk := r 23) (sp := r 25) (q := r 4) (a := r 5) (q2 := r 2) (a2 := r 3) (mf := rf3 r 2 2 3) (fun h9 => by have h8 := jx_in (q := p1) h9; rw [e] at h8; exact (congrArg (rf3 r 2 2 3) h8.symm).trans rfl) (fun h9 => by have h8 := kx_in (p := p0) h9; rw [f] at h8; exact (congrArg (rf3 r 2 2 3) h8.symm).trans rfl) h0) rfl rfl rfl rfl (by decide) ?_
      rintro o w hp
      cases x0 with
      | inl z =>
        obtain ⟨g, e1, e2⟩ := PX.inl hp
        subst e1; subst e2
        exact ⟨_, [20, 21, 24, 25, 22, 23, 0, 1, 2, 3, 4, 5, 6, 7, 8, 9, 10, 11, 12, 13, 26, 14, 15, 16, 17, 18, 19], PX.mk g rfl rfl, rfl, rfl⟩
      | inr E =>
        obtain ⟨e1, e2⟩ := PX.inr hp
        subst e1; subst e2
        exact ⟨_, [20, 21, 24, 25, 22, 23, 0, 1, 2, 3, 4, 5, 6, 7, 8, 9, 10, 11, 12, 13, 26, 14, 15, 16, 17, 18, 19], PX.er, rfl, rfl⟩
    · simp only [e, f] at h0 ⊢
      refine ok_fr (wc := [(r 0, .inr (7, [.ref (r 1), .ref (r 8), .ref (r 15), .ref (r 20), .ref (r 21), .ref (r 23), .ref (r 25)])), (r 1, .inl (1, 3, .inr (.inr (.inr (.inr (rf3 r 2 2 3)))))), (r 4, .inr (4, [.ref (r 5), .int (S.1 1).1])), (r 5, .inl (0, 2646, .inl (S.1 1).2)), (r 6, .inr (4, [.ref (r 7), .int (S.1 2).1])), (r 7, .inl (0, 2646, .inl (S.1 2).2)), (r 20, .inr (2, [.int (S.2.2.2.1 0), .int (S.2.2.2.1 1), .int (S.2.2.2.1 2), .int (S.2.2.2.1 3), .int (S.2.2.2.1 4), .int (S.2.2.2.1 5)]))]) (wr := [(r 2, .inr (4, [.ref (r 3), .int (S.1 0).1])), (r 3, .inl (0, 2646, .inl (S.1 0).2)), (r 8, .inl (2, 3, .inr (.inr (.inr (.inr (rf3 r 9 2 3)))))), (r 9, .inr (3, [.int (S.2.1 0).1, .ref (r 10), .int (S.2.1 0).2.1])), (r 10, .inl (0, 21, .inl (S.2.1 0).2.2)), (r 11, .inr (3, [.int (S.2.1 1).1, .ref (r 12), .int (S.2.1 1).2.1])), (r 12, .inl (0, 21, .inl (S.2.1 1).2.2)), (r 13, .inr (3, [.int (S.2.1 2).1, .ref (r 14), .int (S.2.1 2).2.1])), (r 14, .inl (0, 21, .inl (S.2.1 2).2.2)), (r 15, .inl (3, 2, .inr (.inr (.inr (.inr (rf3 r 16 2 2)))))), (r 16, .inr (6, [.ref (r 17)])), (r 17, .inl (0, 21, .inl (S.2.2.1 0))), (r 18, .inr (6, [.ref (r 19)])), (r 19, .inl (0, 21, .inl (S.2.2.1 1))), (r 21, .inr (5, [.ref (r 22)])), (r 22, .inl (0, 21, .inl S.2.2.2.2.1)), (r 23, .inr (6, [.ref (r 24)])), (r 24, .inl (0, 21, .inl S.2.2.2.2.2.1)), (r 25, .inr (6, [.ref (r 26)])), (r 26, .inl (0, 21, .inl S.2.2.2.2.2.2))]) [0, 1, 4, 5, 6, 7, 20] [2, 3, 8, 9, 10, 11, 12, 13, 14, 15, 16, 17, 18, 19, 21, 22, 23, 24, 25, 26] (ok_X5_pour (x := r 0) (M := r 1) (L := r 8) (Dk := r 15) (c := r 20) (se := r 21) (wk := r 23) (sp := r 25) (q := r 4) (a := r 5) (q2 := r 6) (a2 := r 7) (mf := rf3 r 2 2 3) (fun h9 => by have h8 := jx_in (q := p1) h9; rw [e] at h8; exact (congrArg (rf3 r 2 2 3) h8.symm).trans rfl) (fun h9 => by have h8 := kx_in (p := p0) h9; rw [f] at h8; exact (congrArg (rf3 r 2 2 3) h8.symm).trans rfl) h0) rfl rfl rfl rfl (by decide) ?_
      rintro o w hp
      cases x0 with
      | inl z =>
        obtain ⟨g, e1, e2⟩ := PX.inl hp
        subst e1; subst e2
        exact ⟨_, [20, 21, 0, 1, 22, 23, 24, 25, 2, 3, 4, 5, 6, 7, 8, 9, 10, 11, 12, 13, 26, 14, 15, 16, 17, 18, 19], PX.mk g rfl rfl, rfl, rfl⟩
      | inr E =>
        obtain ⟨e1, e2⟩ := PX.inr hp
        subst e1; subst e2
        exact ⟨_, [20, 21, 0, 1, 22, 23, 24, 25, 2, 3, 4, 5, 6, 7, 8, 9, 10, 11, 12, 13, 26, 14, 15, 16, 17, 18, 19], PX.er, rfl, rfl⟩
    · simp only [e, f] at h0 ⊢
      refine ok_fr (wc := [(r 0, .inr (7, [.ref (r 1), .ref (r 8), .ref (r 15), .ref (r 20), .ref (r 21), .ref (r 23), .ref (r 25)])), (r 1, .inl (1, 3, .inr (.inr (.inr (.inr (rf3 r 2 2 3)))))), (r 6, .inr (4, [.ref (r 7), .int (S.1 2).1])), (r 7, .inl (0, 2646, .inl (S.1 2).2)), (r 2, .inr (4, [.ref (r 3), .int (S.1 0).1])), (r 3, .inl (0, 2646, .inl (S.1 0).2)), (r 20, .inr (2, [.int (S.2.2.2.1 0), .int (S.2.2.2.1 1), .int (S.2.2.2.1 2), .int (S.2.2.2.1 3), .int (S.2.2.2.1 4), .int (S.2.2.2.1 5)]))]) (wr := [(r 4, .inr (4, [.ref (r 5), .int (S.1 1).1])), (r 5, .inl (0, 2646, .inl (S.1 1).2)), (r 8, .inl (2, 3, .inr (.inr (.inr (.inr (rf3 r 9 2 3)))))), (r 9, .inr (3, [.int (S.2.1 0).1, .ref (r 10), .int (S.2.1 0).2.1])), (r 10, .inl (0, 21, .inl (S.2.1 0).2.2)), (r 11, .inr (3, [.int (S.2.1 1).1, .ref (r 12), .int (S.2.1 1).2.1])), (r 12, .inl (0, 21, .inl (S.2.1 1).2.2)), (r 13, .inr (3, [.int (S.2.1 2).1, .ref (r 14), .int (S.2.1 2).2.1])), (r 14, .inl (0, 21, .inl (S.2.1 2).2.2)), (r 15, .inl (3, 2, .inr (.inr (.inr (.inr (rf3 r 16 2 2)))))), (r 16, .inr (6, [.ref (r 17)])), (r 17, .inl (0, 21, .inl (S.2.2.1 0))), (r 18, .inr (6, [.ref (r 19)])), (r 19, .inl (0, 21, .inl (S.2.2.1 1))), (r 21, .inr (5, [.ref (r 22)])), (r 22, .inl (0, 21, .inl S.2.2.2.2.1)), (r 23, .inr (6, [.ref (r 24)])), (r 24, .inl (0, 21, .inl S.2.2.2.2.2.1)), (r 25, .inr (6, [.ref (r 26)])), (r 26, .inl (0, 21, .inl S.2.2.2.2.2.2))]) [0, 1, 6, 7, 2, 3, 20] [4, 5, 8, 9, 10, 11, 12, 13, 14, 15, 16, 17, 18, 19, 21, 22, 23, 24, 25, 26] (ok_X5_pour (x := r 0) (M := r 1) (L := r 8) (Dk := r 15) (c := r 20) (se := r 21) (wk := r 23) (sp := r 25) (q := r 6) (a := r 7) (q2 := r 2) (a2 := r 3) (mf := rf3 r 2 2 3) (fun h9 => by have h8 := jx_in (q := p1) h9; rw [e] at h8; exact (congrArg (rf3 r 2 2 3) h8.symm).trans rfl) (fun h9 => by have h8 := kx_in (p := p0) h9; rw [f] at h8; exact (congrArg (rf3 r 2 2 3) h8.symm).trans rfl) h0) rfl rfl rfl rfl (by decide) ?_
      rintro o w hp
      cases x0 with
      | inl z =>
        obtain ⟨g, e1, e2⟩ := PX.inl hp
        subst e1; subst e2
        exact ⟨_, [20, 21, 24, 25, 0, 1, 22, 23, 2, 3, 4, 5, 6, 7, 8, 9, 10, 11, 12, 13, 26, 14, 15, 16, 17, 18, 19], PX.mk g rfl rfl, rfl, rfl⟩
      | inr E =>
        obtain ⟨e1, e2⟩ := PX.inr hp
        subst e1; subst e2
        exact ⟨_, [20, 21, 24, 25, 0, 1, 22, 23, 2, 3, 4, 5, 6, 7, 8, 9, 10, 11, 12, 13, 26, 14, 15, 16, 17, 18, 19], PX.er, rfl, rfl⟩
    · simp only [e, f] at h0 ⊢
      refine ok_fr (wc := [(r 0, .inr (7, [.ref (r 1), .ref (r 8), .ref (r 15), .ref (r 20), .ref (r 21), .ref (r 23), .ref (r 25)])), (r 1, .inl (1, 3, .inr (.inr (.inr (.inr (rf3 r 2 2 3)))))), (r 6, .inr (4, [.ref (r 7), .int (S.1 2).1])), (r 7, .inl (0, 2646, .inl (S.1 2).2)), (r 4, .inr (4, [.ref (r 5), .int (S.1 1).1])), (r 5, .inl (0, 2646, .inl (S.1 1).2)), (r 20, .inr (2, [.int (S.2.2.2.1 0), .int (S.2.2.2.1 1), .int (S.2.2.2.1 2), .int (S.2.2.2.1 3), .int (S.2.2.2.1 4), .int (S.2.2.2.1 5)]))]) (wr := [(r 2, .inr (4, [.ref (r 3), .int (S.1 0).1])), (r 3, .inl (0, 2646, .inl (S.1 0).2)), (r 8, .inl (2, 3, .inr (.inr (.inr (.inr (rf3 r 9 2 3)))))), (r 9, .inr (3, [.int (S.2.1 0).1, .ref (r 10), .int (S.2.1 0).2.1])), (r 10, .inl (0, 21, .inl (S.2.1 0).2.2)), (r 11, .inr (3, [.int (S.2.1 1).1, .ref (r 12), .int (S.2.1 1).2.1])), (r 12, .inl (0, 21, .inl (S.2.1 1).2.2)), (r 13, .inr (3, [.int (S.2.1 2).1, .ref (r 14), .int (S.2.1 2).2.1])), (r 14, .inl (0, 21, .inl (S.2.1 2).2.2)), (r 15, .inl (3, 2, .inr (.inr (.inr (.inr (rf3 r 16 2 2)))))), (r 16, .inr (6, [.ref (r 17)])), (r 17, .inl (0, 21, .inl (S.2.2.1 0))), (r 18, .inr (6, [.ref (r 19)])), (r 19, .inl (0, 21, .inl (S.2.2.1 1))), (r 21, .inr (5, [.ref (r 22)])), (r 22, .inl (0, 21, .inl S.2.2.2.2.1)), (r 23, .inr (6, [.ref (r 24)])), (r 24, .inl (0, 21, .inl S.2.2.2.2.2.1)), (r 25, .inr (6, [.ref (r 26)])), (r 26, .inl (0, 21, .inl S.2.2.2.2.2.2))]) [0, 1, 6, 7, 4, 5, 20] [2, 3, 8, 9, 10, 11, 12, 13, 14, 15, 16, 17, 18, 19, 21, 22, 23, 24, 25, 26] (ok_X5_pour (x := r 0) (M := r 1) (L := r 8) (Dk := r 15) (c := r 20) (se := r 21) (wk := r 23) (sp := r 25) (q := r 6) (a := r 7) (q2 := r 4) (a2 := r 5) (mf := rf3 r 2 2 3) (fun h9 => by have h8 := jx_in (q := p1) h9; rw [e] at h8; exact (congrArg (rf3 r 2 2 3) h8.symm).trans rfl) (fun h9 => by have h8 := kx_in (p := p0) h9; rw [f] at h8; exact (congrArg (rf3 r 2 2 3) h8.symm).trans rfl) h0) rfl rfl rfl rfl (by decide) ?_
      rintro o w hp
      cases x0 with
      | inl z =>
        obtain ⟨g, e1, e2⟩ := PX.inl hp
        subst e1; subst e2
        exact ⟨_, [20, 21, 0, 1, 24, 25, 22, 23, 2, 3, 4, 5, 6, 7, 8, 9, 10, 11, 12, 13, 26, 14, 15, 16, 17, 18, 19], PX.mk g rfl rfl, rfl, rfl⟩
      | inr E =>
        obtain ⟨e1, e2⟩ := PX.inr hp
        subst e1; subst e2
        exact ⟨_, [20, 21, 0, 1, 24, 25, 22, 23, 2, 3, 4, 5, 6, 7, 8, 9, 10, 11, 12, 13, 26, 14, 15, 16, 17, 18, 19], PX.er, rfl, rfl⟩
def gX_isKept (N K : Nat) (S : CS) (p0 : Int32) (p1 : Int32) (p2 : Int32) (p3 : Int32) (p4 : Int32) : Option ((Int32 × CS) ⊕ String) := (fX5_isKept N K ((S.1 (ix 3 p0)).1) ((S.1 (ix 3 p0)).2) p0 p1 p2 p3 p4).map (fun o => match o with | .inl z => .inl (z, (S.1, S.2.1, S.2.2.1, S.2.2.2.1, S.2.2.2.2.1, S.2.2.2.2.2.1, S.2.2.2.2.2.2)) | .inr E => .inr E)
set_option maxHeartbeats 4000000 in
set_option maxRecDepth 100000 in
theorem ogX_isKept {N K : Nat} {r : Nat → Nat} {S : CS} {p0 : Int32} {p1 : Int32} {p2 : Int32} {p3 : Int32} {p4 : Int32} {x : (Int32 × CS) ⊕ String} (hE : gX_isKept N K S p0 p1 p2 p3 p4 = some x) : OkM yX5_isKept (.code yX5_isKept cX5_isKept 7 (some .boolean)) (10) 5 30 [.ref (r 0), .int p0, .int p1, .int p2, .int p3, .int p4] (WX r S) ((PX (U := Int32 × CS) (fun z _ => some (.int z.1)) (fun z _ => WX r z.2) (WX r S)) x) := by
  unfold gX_isKept at hE
  obtain ⟨x0, h0, h1⟩ := Option.map_eq_some_iff.mp hE
  subst h1
  clear hE
  rcases lt3 (ix_lt (n := 3) (p := p0) (by decide)) with e | e | e
  · rw [e] at h0
    try rw [e]
    refine ok_fr (wc := [(r 0, .inr (7, [.ref (r 1), .ref (r 8), .ref (r 15), .ref (r 20), .ref (r 21), .ref (r 23), .ref (r 25)])), (r 1, .inl (1, 3, .inr (.inr (.inr (.inr (rf3 r 2 2 3)))))), (r 2, .inr (4, [.ref (r 3), .int (S.1 0).1])), (r 3, .inl (0, 2646, .inl (S.1 0).2))]) (wr := [(r 4, .inr (4, [.ref (r 5), .int (S.1 1).1])), (r 5, .inl (0, 2646, .inl (S.1 1).2)), (r 6, .inr (4, [.ref (r 7), .int (S.1 2).1])), (r 7, .inl (0, 2646, .inl (S.1 2).2)), (r 8, .inl (2, 3, .inr (.inr (.inr (.inr (rf3 r 9 2 3)))))), (r 9, .inr (3, [.int (S.2.1 0).1, .ref (r 10), .int (S.2.1 0).2.1])), (r 10, .inl (0, 21, .inl (S.2.1 0).2.2)), (r 11, .inr (3, [.int (S.2.1 1).1, .ref (r 12), .int (S.2.1 1).2.1])), (r 12, .inl (0, 21, .inl (S.2.1 1).2.2)), (r 13, .inr (3, [.int (S.2.1 2).1, .ref (r 14), .int (S.2.1 2).2.1])), (r 14, .inl (0, 21, .inl (S.2.1 2).2.2)), (r 15, .inl (3, 2, .inr (.inr (.inr (.inr (rf3 r 16 2 2)))))), (r 16, .inr (6, [.ref (r 17)])), (r 17, .inl (0, 21, .inl (S.2.2.1 0))), (r 18, .inr (6, [.ref (r 19)])), (r 19, .inl (0, 21, .inl (S.2.2.1 1))), (r 20, .inr (2, [.int (S.2.2.2.1 0), .int (S.2.2.2.1 1), .int (S.2.2.2.1 2), .int (S.2.2.2.1 3), .int (S.2.2.2.1 4), .int (S.2.2.2.1 5)])), (r 21, .inr (5, [.ref (r 22)])), (r 22, .inl (0, 21, .inl S.2.2.2.2.1)), (r 23, .inr (6, [.ref (r 24)])), (r 24, .inl (0, 21, .inl S.2.2.2.2.2.1)), (r 25, .inr (6, [.ref (r 26)])), (r 26, .inl (0, 21, .inl S.2.2.2.2.2.2))]) [0, 1, 2, 3] [4, 5, 6, 7, 8, 9, 10, 11, 12, 13, 14, 15, 16, 17, 18, 19, 20, 21, 22, 23, 24, 25, 26] (ok_X5_isKept (x := r 0) (M := r 1) (L := r 8) (Dk := r 15) (c := r 20) (se := r 21) (wk := r 23) (sp := r 25) (q := r 2) (a := r 3) (mf := rf3 r 2 2 3) (fun h9 => by have h8 := ix_in h9; rw [e] at h8; exact (congrArg (rf3 r 2 2 3) h8.symm).trans rfl) h0) rfl rfl rfl rfl (by decide) ?_
    rintro o w hp
    cases x0 with
    | inl z =>
      obtain ⟨g, e1, e2⟩ := PX.inl hp
      subst e1; subst e2
      exact ⟨_, [23, 24, 25, 26, 0, 1, 2, 3, 4, 5, 6, 7, 8, 9, 10, 11, 12, 13, 14, 15, 16, 17, 18, 19, 20, 21, 22], PX.mk g rfl rfl, rfl, rfl⟩
    | inr E =>
      obtain ⟨e1, e2⟩ := PX.inr hp
      subst e1; subst e2
      exact ⟨_, [23, 24, 25, 26, 0, 1, 2, 3, 4, 5, 6, 7, 8, 9, 10, 11, 12, 13, 14, 15, 16, 17, 18, 19, 20, 21, 22], PX.er, rfl, rfl⟩
  · rw [e] at h0
    try rw [e]
    refine ok_fr (wc := [(r 0, .inr (7, [.ref (r 1), .ref (r 8), .ref (r 15), .ref (r 20), .ref (r 21), .ref (r 23), .ref (r 25)])), (r 1, .inl (1, 3, .inr (.inr (.inr (.inr (rf3 r 2 2 3)))))), (r 4, .inr (4, [.ref (r 5), .int (S.1 1).1])), (r 5, .inl (0, 2646, .inl (S.1 1).2))]) (wr := [(r 2, .inr (4, [.ref (r 3), .int (S.1 0).1])), (r 3, .inl (0, 2646, .inl (S.1 0).2)), (r 6, .inr (4, [.ref (r 7), .int (S.1 2).1])), (r 7, .inl (0, 2646, .inl (S.1 2).2)), (r 8, .inl (2, 3, .inr (.inr (.inr (.inr (rf3 r 9 2 3)))))), (r 9, .inr (3, [.int (S.2.1 0).1, .ref (r 10), .int (S.2.1 0).2.1])), (r 10, .inl (0, 21, .inl (S.2.1 0).2.2)), (r 11, .inr (3, [.int (S.2.1 1).1, .ref (r 12), .int (S.2.1 1).2.1])), (r 12, .inl (0, 21, .inl (S.2.1 1).2.2)), (r 13, .inr (3, [.int (S.2.1 2).1, .ref (r 14), .int (S.2.1 2).2.1])), (r 14, .inl (0, 21, .inl (S.2.1 2).2.2)), (r 15, .inl (3, 2, .inr (.inr (.inr (.inr (rf3 r 16 2 2)))))), (r 16, .inr (6, [.ref (r 17)])), (r 17, .inl (0, 21, .inl (S.2.2.1 0))), (r 18, .inr (6, [.ref (r 19)])), (r 19, .inl (0, 21, .inl (S.2.2.1 1))), (r 20, .inr (2, [.int (S.2.2.2.1 0), .int (S.2.2.2.1 1), .int (S.2.2.2.1 2), .int (S.2.2.2.1 3), .int (S.2.2.2.1 4), .int (S.2.2.2.1 5)])), (r 21, .inr (5, [.ref (r 22)])), (r 22, .inl (0, 21, .inl S.2.2.2.2.1)), (r 23, .inr (6, [.ref (r 24)])), (r 24, .inl (0, 21, .inl S.2.2.2.2.2.1)), (r 25, .inr (6, [.ref (r 26)])), (r 26, .inl (0, 21, .inl S.2.2.2.2.2.2))]) [0, 1, 4, 5] [2, 3, 6, 7, 8, 9, 10, 11, 12, 13, 14, 15, 16, 17, 18, 19, 20, 21, 22, 23, 24, 25, 26] (ok_X5_isKept (x := r 0) (M := r 1) (L := r 8) (Dk := r 15) (c := r 20) (se := r 21) (wk := r 23) (sp := r 25) (q := r 4) (a := r 5) (mf := rf3 r 2 2 3) (fun h9 => by have h8 := ix_in h9; rw [e] at h8; exact (congrArg (rf3 r 2 2 3) h8.symm).trans rfl) h0) rfl rfl rfl rfl (by decide) ?_
    rintro o w hp
    cases x0 with
    | inl z =>
      obtain ⟨g, e1, e2⟩ := PX.inl hp
      subst e1; subst e2
      exact ⟨_, [23, 24, 0, 1, 25, 26, 2, 3, 4, 5, 6, 7, 8, 9, 10, 11, 12, 13, 14, 15, 16, 17, 18, 19, 20, 21, 22], PX.mk g rfl rfl, rfl, rfl⟩
    | inr E =>
      obtain ⟨e1, e2⟩ := PX.inr hp
      subst e1; subst e2
      exact ⟨_, [23, 24, 0, 1, 25, 26, 2, 3, 4, 5, 6, 7, 8, 9, 10, 11, 12, 13, 14, 15, 16, 17, 18, 19, 20, 21, 22], PX.er, rfl, rfl⟩
  · rw [e] at h0
    try rw [e]
    refine ok_fr (wc := [(r 0, .inr (7, [.ref (r 1), .ref (r 8), .ref (r 15), .ref (r 20), .ref (r 21), .ref (r 23), .ref (r 25)])), (r 1, .inl (1, 3, .inr (.inr (.inr (.inr (rf3 r 2 2 3)))))), (r 6, .inr (4, [.ref (r 7), .int (S.1 2).1])), (r 7, .inl (0, 2646, .inl (S.1 2).2))]) (wr := [(r 2, .inr (4, [.ref (r 3), .int (S.1 0).1])), (r 3, .inl (0, 2646, .inl (S.1 0).2)), (r 4, .inr (4, [.ref (r 5), .int (S.1 1).1])), (r 5, .inl (0, 2646, .inl (S.1 1).2)), (r 8, .inl (2, 3, .inr (.inr (.inr (.inr (rf3 r 9 2 3)))))), (r 9, .inr (3, [.int (S.2.1 0).1, .ref (r 10), .int (S.2.1 0).2.1])), (r 10, .inl (0, 21, .inl (S.2.1 0).2.2)), (r 11, .inr (3, [.int (S.2.1 1).1, .ref (r 12), .int (S.2.1 1).2.1])), (r 12, .inl (0, 21, .inl (S.2.1 1).2.2)), (r 13, .inr (3, [.int (S.2.1 2).1, .ref (r 14), .int (S.2.1 2).2.1])), (r 14, .inl (0, 21, .inl (S.2.1 2).2.2)), (r 15, .inl (3, 2, .inr (.inr (.inr (.inr (rf3 r 16 2 2)))))), (r 16, .inr (6, [.ref (r 17)])), (r 17, .inl (0, 21, .inl (S.2.2.1 0))), (r 18, .inr (6, [.ref (r 19)])), (r 19, .inl (0, 21, .inl (S.2.2.1 1))), (r 20, .inr (2, [.int (S.2.2.2.1 0), .int (S.2.2.2.1 1), .int (S.2.2.2.1 2), .int (S.2.2.2.1 3), .int (S.2.2.2.1 4), .int (S.2.2.2.1 5)])), (r 21, .inr (5, [.ref (r 22)])), (r 22, .inl (0, 21, .inl S.2.2.2.2.1)), (r 23, .inr (6, [.ref (r 24)])), (r 24, .inl (0, 21, .inl S.2.2.2.2.2.1)), (r 25, .inr (6, [.ref (r 26)])), (r 26, .inl (0, 21, .inl S.2.2.2.2.2.2))]) [0, 1, 6, 7] [2, 3, 4, 5, 8, 9, 10, 11, 12, 13, 14, 15, 16, 17, 18, 19, 20, 21, 22, 23, 24, 25, 26] (ok_X5_isKept (x := r 0) (M := r 1) (L := r 8) (Dk := r 15) (c := r 20) (se := r 21) (wk := r 23) (sp := r 25) (q := r 6) (a := r 7) (mf := rf3 r 2 2 3) (fun h9 => by have h8 := ix_in h9; rw [e] at h8; exact (congrArg (rf3 r 2 2 3) h8.symm).trans rfl) h0) rfl rfl rfl rfl (by decide) ?_
    rintro o w hp
    cases x0 with
    | inl z =>
      obtain ⟨g, e1, e2⟩ := PX.inl hp
      subst e1; subst e2
      exact ⟨_, [23, 24, 0, 1, 2, 3, 25, 26, 4, 5, 6, 7, 8, 9, 10, 11, 12, 13, 14, 15, 16, 17, 18, 19, 20, 21, 22], PX.mk g rfl rfl, rfl, rfl⟩
    | inr E =>
      obtain ⟨e1, e2⟩ := PX.inr hp
      subst e1; subst e2
      exact ⟨_, [23, 24, 0, 1, 2, 3, 25, 26, 4, 5, 6, 7, 8, 9, 10, 11, 12, 13, 14, 15, 16, 17, 18, 19, 20, 21, 22], PX.er, rfl, rfl⟩
def gX_worthOr (N K : Nat) (S : CS) (p0 : Int32) (p1 : Int32) (p2 : Int32) (p3 : Int32) (p4 : Int32) : Option ((Int32 × CS) ⊕ String) := (fX5_worthOr N K ((S.1 (ix 3 p0)).1) ((S.1 (ix 3 p0)).2) p0 p1 p2 p3 p4).map (fun o => match o with | .inl z => .inl (z, (S.1, S.2.1, S.2.2.1, S.2.2.2.1, S.2.2.2.2.1, S.2.2.2.2.2.1, S.2.2.2.2.2.2)) | .inr E => .inr E)
set_option maxHeartbeats 4000000 in
set_option maxRecDepth 100000 in
theorem ogX_worthOr {N K : Nat} {r : Nat → Nat} {S : CS} {p0 : Int32} {p1 : Int32} {p2 : Int32} {p3 : Int32} {p4 : Int32} {x : (Int32 × CS) ⊕ String} (hE : gX_worthOr N K S p0 p1 p2 p3 p4 = some x) : OkM yX5_worthOr (.code yX5_worthOr cX5_worthOr 7 (some .int)) (10) 4 24 [.ref (r 0), .int p0, .int p1, .int p2, .int p3, .int p4] (WX r S) ((PX (U := Int32 × CS) (fun z _ => some (.int z.1)) (fun z _ => WX r z.2) (WX r S)) x) := by
  unfold gX_worthOr at hE
  obtain ⟨x0, h0, h1⟩ := Option.map_eq_some_iff.mp hE
  subst h1
  clear hE
  rcases lt3 (ix_lt (n := 3) (p := p0) (by decide)) with e | e | e
  · rw [e] at h0
    try rw [e]
    refine ok_fr (wc := [(r 0, .inr (7, [.ref (r 1), .ref (r 8), .ref (r 15), .ref (r 20), .ref (r 21), .ref (r 23), .ref (r 25)])), (r 1, .inl (1, 3, .inr (.inr (.inr (.inr (rf3 r 2 2 3)))))), (r 2, .inr (4, [.ref (r 3), .int (S.1 0).1])), (r 3, .inl (0, 2646, .inl (S.1 0).2))]) (wr := [(r 4, .inr (4, [.ref (r 5), .int (S.1 1).1])), (r 5, .inl (0, 2646, .inl (S.1 1).2)), (r 6, .inr (4, [.ref (r 7), .int (S.1 2).1])), (r 7, .inl (0, 2646, .inl (S.1 2).2)), (r 8, .inl (2, 3, .inr (.inr (.inr (.inr (rf3 r 9 2 3)))))), (r 9, .inr (3, [.int (S.2.1 0).1, .ref (r 10), .int (S.2.1 0).2.1])), (r 10, .inl (0, 21, .inl (S.2.1 0).2.2)), (r 11, .inr (3, [.int (S.2.1 1).1, .ref (r 12), .int (S.2.1 1).2.1])), (r 12, .inl (0, 21, .inl (S.2.1 1).2.2)), (r 13, .inr (3, [.int (S.2.1 2).1, .ref (r 14), .int (S.2.1 2).2.1])), (r 14, .inl (0, 21, .inl (S.2.1 2).2.2)), (r 15, .inl (3, 2, .inr (.inr (.inr (.inr (rf3 r 16 2 2)))))), (r 16, .inr (6, [.ref (r 17)])), (r 17, .inl (0, 21, .inl (S.2.2.1 0))), (r 18, .inr (6, [.ref (r 19)])), (r 19, .inl (0, 21, .inl (S.2.2.1 1))), (r 20, .inr (2, [.int (S.2.2.2.1 0), .int (S.2.2.2.1 1), .int (S.2.2.2.1 2), .int (S.2.2.2.1 3), .int (S.2.2.2.1 4), .int (S.2.2.2.1 5)])), (r 21, .inr (5, [.ref (r 22)])), (r 22, .inl (0, 21, .inl S.2.2.2.2.1)), (r 23, .inr (6, [.ref (r 24)])), (r 24, .inl (0, 21, .inl S.2.2.2.2.2.1)), (r 25, .inr (6, [.ref (r 26)])), (r 26, .inl (0, 21, .inl S.2.2.2.2.2.2))]) [0, 1, 2, 3] [4, 5, 6, 7, 8, 9, 10, 11, 12, 13, 14, 15, 16, 17, 18, 19, 20, 21, 22, 23, 24, 25, 26] (ok_X5_worthOr (x := r 0) (M := r 1) (L := r 8) (Dk := r 15) (c := r 20) (se := r 21) (wk := r 23) (sp := r 25) (q := r 2) (a := r 3) (mf := rf3 r 2 2 3) (fun h9 => by have h8 := ix_in h9; rw [e] at h8; exact (congrArg (rf3 r 2 2 3) h8.symm).trans rfl) h0) rfl rfl rfl rfl (by decide) ?_
    rintro o w hp
    cases x0 with
    | inl z =>
      obtain ⟨g, e1, e2⟩ := PX.inl hp
      subst e1; subst e2
      exact ⟨_, [23, 24, 25, 26, 0, 1, 2, 3, 4, 5, 6, 7, 8, 9, 10, 11, 12, 13, 14, 15, 16, 17, 18, 19, 20, 21, 22], PX.mk g rfl rfl, rfl, rfl⟩
    | inr E =>
      obtain ⟨e1, e2⟩ := PX.inr hp
      subst e1; subst e2
      exact ⟨_, [23, 24, 25, 26, 0, 1, 2, 3, 4, 5, 6, 7, 8, 9, 10, 11, 12, 13, 14, 15, 16, 17, 18, 19, 20, 21, 22], PX.er, rfl, rfl⟩
  · rw [e] at h0
    try rw [e]
    refine ok_fr (wc := [(r 0, .inr (7, [.ref (r 1), .ref (r 8), .ref (r 15), .ref (r 20), .ref (r 21), .ref (r 23), .ref (r 25)])), (r 1, .inl (1, 3, .inr (.inr (.inr (.inr (rf3 r 2 2 3)))))), (r 4, .inr (4, [.ref (r 5), .int (S.1 1).1])), (r 5, .inl (0, 2646, .inl (S.1 1).2))]) (wr := [(r 2, .inr (4, [.ref (r 3), .int (S.1 0).1])), (r 3, .inl (0, 2646, .inl (S.1 0).2)), (r 6, .inr (4, [.ref (r 7), .int (S.1 2).1])), (r 7, .inl (0, 2646, .inl (S.1 2).2)), (r 8, .inl (2, 3, .inr (.inr (.inr (.inr (rf3 r 9 2 3)))))), (r 9, .inr (3, [.int (S.2.1 0).1, .ref (r 10), .int (S.2.1 0).2.1])), (r 10, .inl (0, 21, .inl (S.2.1 0).2.2)), (r 11, .inr (3, [.int (S.2.1 1).1, .ref (r 12), .int (S.2.1 1).2.1])), (r 12, .inl (0, 21, .inl (S.2.1 1).2.2)), (r 13, .inr (3, [.int (S.2.1 2).1, .ref (r 14), .int (S.2.1 2).2.1])), (r 14, .inl (0, 21, .inl (S.2.1 2).2.2)), (r 15, .inl (3, 2, .inr (.inr (.inr (.inr (rf3 r 16 2 2)))))), (r 16, .inr (6, [.ref (r 17)])), (r 17, .inl (0, 21, .inl (S.2.2.1 0))), (r 18, .inr (6, [.ref (r 19)])), (r 19, .inl (0, 21, .inl (S.2.2.1 1))), (r 20, .inr (2, [.int (S.2.2.2.1 0), .int (S.2.2.2.1 1), .int (S.2.2.2.1 2), .int (S.2.2.2.1 3), .int (S.2.2.2.1 4), .int (S.2.2.2.1 5)])), (r 21, .inr (5, [.ref (r 22)])), (r 22, .inl (0, 21, .inl S.2.2.2.2.1)), (r 23, .inr (6, [.ref (r 24)])), (r 24, .inl (0, 21, .inl S.2.2.2.2.2.1)), (r 25, .inr (6, [.ref (r 26)])), (r 26, .inl (0, 21, .inl S.2.2.2.2.2.2))]) [0, 1, 4, 5] [2, 3, 6, 7, 8, 9, 10, 11, 12, 13, 14, 15, 16, 17, 18, 19, 20, 21, 22, 23, 24, 25, 26] (ok_X5_worthOr (x := r 0) (M := r 1) (L := r 8) (Dk := r 15) (c := r 20) (se := r 21) (wk := r 23) (sp := r 25) (q := r 4) (a := r 5) (mf := rf3 r 2 2 3) (fun h9 => by have h8 := ix_in h9; rw [e] at h8; exact (congrArg (rf3 r 2 2 3) h8.symm).trans rfl) h0) rfl rfl rfl rfl (by decide) ?_
    rintro o w hp
    cases x0 with
    | inl z =>
      obtain ⟨g, e1, e2⟩ := PX.inl hp
      subst e1; subst e2
      exact ⟨_, [23, 24, 0, 1, 25, 26, 2, 3, 4, 5, 6, 7, 8, 9, 10, 11, 12, 13, 14, 15, 16, 17, 18, 19, 20, 21, 22], PX.mk g rfl rfl, rfl, rfl⟩
    | inr E =>
      obtain ⟨e1, e2⟩ := PX.inr hp
      subst e1; subst e2
      exact ⟨_, [23, 24, 0, 1, 25, 26, 2, 3, 4, 5, 6, 7, 8, 9, 10, 11, 12, 13, 14, 15, 16, 17, 18, 19, 20, 21, 22], PX.er, rfl, rfl⟩
  · rw [e] at h0
    try rw [e]
    refine ok_fr (wc := [(r 0, .inr (7, [.ref (r 1), .ref (r 8), .ref (r 15), .ref (r 20), .ref (r 21), .ref (r 23), .ref (r 25)])), (r 1, .inl (1, 3, .inr (.inr (.inr (.inr (rf3 r 2 2 3)))))), (r 6, .inr (4, [.ref (r 7), .int (S.1 2).1])), (r 7, .inl (0, 2646, .inl (S.1 2).2))]) (wr := [(r 2, .inr (4, [.ref (r 3), .int (S.1 0).1])), (r 3, .inl (0, 2646, .inl (S.1 0).2)), (r 4, .inr (4, [.ref (r 5), .int (S.1 1).1])), (r 5, .inl (0, 2646, .inl (S.1 1).2)), (r 8, .inl (2, 3, .inr (.inr (.inr (.inr (rf3 r 9 2 3)))))), (r 9, .inr (3, [.int (S.2.1 0).1, .ref (r 10), .int (S.2.1 0).2.1])), (r 10, .inl (0, 21, .inl (S.2.1 0).2.2)), (r 11, .inr (3, [.int (S.2.1 1).1, .ref (r 12), .int (S.2.1 1).2.1])), (r 12, .inl (0, 21, .inl (S.2.1 1).2.2)), (r 13, .inr (3, [.int (S.2.1 2).1, .ref (r 14), .int (S.2.1 2).2.1])), (r 14, .inl (0, 21, .inl (S.2.1 2).2.2)), (r 15, .inl (3, 2, .inr (.inr (.inr (.inr (rf3 r 16 2 2)))))), (r 16, .inr (6, [.ref (r 17)])), (r 17, .inl (0, 21, .inl (S.2.2.1 0))), (r 18, .inr (6, [.ref (r 19)])), (r 19, .inl (0, 21, .inl (S.2.2.1 1))), (r 20, .inr (2, [.int (S.2.2.2.1 0), .int (S.2.2.2.1 1), .int (S.2.2.2.1 2), .int (S.2.2.2.1 3), .int (S.2.2.2.1 4), .int (S.2.2.2.1 5)])), (r 21, .inr (5, [.ref (r 22)])), (r 22, .inl (0, 21, .inl S.2.2.2.2.1)), (r 23, .inr (6, [.ref (r 24)])), (r 24, .inl (0, 21, .inl S.2.2.2.2.2.1)), (r 25, .inr (6, [.ref (r 26)])), (r 26, .inl (0, 21, .inl S.2.2.2.2.2.2))]) [0, 1, 6, 7] [2, 3, 4, 5, 8, 9, 10, 11, 12, 13, 14, 15, 16, 17, 18, 19, 20, 21, 22, 23, 24, 25, 26] (ok_X5_worthOr (x := r 0) (M := r 1) (L := r 8) (Dk := r 15) (c := r 20) (se := r 21) (wk := r 23) (sp := r 25) (q := r 6) (a := r 7) (mf := rf3 r 2 2 3) (fun h9 => by have h8 := ix_in h9; rw [e] at h8; exact (congrArg (rf3 r 2 2 3) h8.symm).trans rfl) h0) rfl rfl rfl rfl (by decide) ?_
    rintro o w hp
    cases x0 with
    | inl z =>
      obtain ⟨g, e1, e2⟩ := PX.inl hp
      subst e1; subst e2
      exact ⟨_, [23, 24, 0, 1, 2, 3, 25, 26, 4, 5, 6, 7, 8, 9, 10, 11, 12, 13, 14, 15, 16, 17, 18, 19, 20, 21, 22], PX.mk g rfl rfl, rfl, rfl⟩
    | inr E =>
      obtain ⟨e1, e2⟩ := PX.inr hp
      subst e1; subst e2
      exact ⟨_, [23, 24, 0, 1, 2, 3, 25, 26, 4, 5, 6, 7, 8, 9, 10, 11, 12, 13, 14, 15, 16, 17, 18, 19, 20, 21, 22], PX.er, rfl, rfl⟩
def gX_confirm (N K : Nat) (S : CS) (p0 : Int32) (p1 : Int32) (p2 : Int32) (p3 : Int32) (p4 : Int32) : Option ((Int32 × CS) ⊕ String) := (fX5_confirm N K ((S.1 (ix 3 p0)).1) ((S.1 (ix 3 p0)).2) p0 p1 p2 p3 p4).map (fun o => match o with | .inl z => .inl (z, (S.1, S.2.1, S.2.2.1, S.2.2.2.1, S.2.2.2.2.1, S.2.2.2.2.2.1, S.2.2.2.2.2.2)) | .inr E => .inr E)
set_option maxHeartbeats 4000000 in
set_option maxRecDepth 100000 in
theorem ogX_confirm {N K : Nat} {r : Nat → Nat} {S : CS} {p0 : Int32} {p1 : Int32} {p2 : Int32} {p3 : Int32} {p4 : Int32} {x : (Int32 × CS) ⊕ String} (hE : gX_confirm N K S p0 p1 p2 p3 p4 = some x) : OkM yX5_confirm (.code yX5_confirm cX5_confirm 7 (some .boolean)) (10) 4 24 [.ref (r 0), .int p0, .int p1, .int p2, .int p3, .int p4] (WX r S) ((PX (U := Int32 × CS) (fun z _ => some (.int z.1)) (fun z _ => WX r z.2) (WX r S)) x) := by
  unfold gX_confirm at hE
  obtain ⟨x0, h0, h1⟩ := Option.map_eq_some_iff.mp hE
  subst h1
  clear hE
  rcases lt3 (ix_lt (n := 3) (p := p0) (by decide)) with e | e | e
  · rw [e] at h0
    try rw [e]
    refine ok_fr (wc := [(r 0, .inr (7, [.ref (r 1), .ref (r 8), .ref (r 15), .ref (r 20), .ref (r 21), .ref (r 23), .ref (r 25)])), (r 1, .inl (1, 3, .inr (.inr (.inr (.inr (rf3 r 2 2 3)))))), (r 2, .inr (4, [.ref (r 3), .int (S.1 0).1])), (r 3, .inl (0, 2646, .inl (S.1 0).2))]) (wr := [(r 4, .inr (4, [.ref (r 5), .int (S.1 1).1])), (r 5, .inl (0, 2646, .inl (S.1 1).2)), (r 6, .inr (4, [.ref (r 7), .int (S.1 2).1])), (r 7, .inl (0, 2646, .inl (S.1 2).2)), (r 8, .inl (2, 3, .inr (.inr (.inr (.inr (rf3 r 9 2 3)))))), (r 9, .inr (3, [.int (S.2.1 0).1, .ref (r 10), .int (S.2.1 0).2.1])), (r 10, .inl (0, 21, .inl (S.2.1 0).2.2)), (r 11, .inr (3, [.int (S.2.1 1).1, .ref (r 12), .int (S.2.1 1).2.1])), (r 12, .inl (0, 21, .inl (S.2.1 1).2.2)), (r 13, .inr (3, [.int (S.2.1 2).1, .ref (r 14), .int (S.2.1 2).2.1])), (r 14, .inl (0, 21, .inl (S.2.1 2).2.2)), (r 15, .inl (3, 2, .inr (.inr (.inr (.inr (rf3 r 16 2 2)))))), (r 16, .inr (6, [.ref (r 17)])), (r 17, .inl (0, 21, .inl (S.2.2.1 0))), (r 18, .inr (6, [.ref (r 19)])), (r 19, .inl (0, 21, .inl (S.2.2.1 1))), (r 20, .inr (2, [.int (S.2.2.2.1 0), .int (S.2.2.2.1 1), .int (S.2.2.2.1 2), .int (S.2.2.2.1 3), .int (S.2.2.2.1 4), .int (S.2.2.2.1 5)])), (r 21, .inr (5, [.ref (r 22)])), (r 22, .inl (0, 21, .inl S.2.2.2.2.1)), (r 23, .inr (6, [.ref (r 24)])), (r 24, .inl (0, 21, .inl S.2.2.2.2.2.1)), (r 25, .inr (6, [.ref (r 26)])), (r 26, .inl (0, 21, .inl S.2.2.2.2.2.2))]) [0, 1, 2, 3] [4, 5, 6, 7, 8, 9, 10, 11, 12, 13, 14, 15, 16, 17, 18, 19, 20, 21, 22, 23, 24, 25, 26] (ok_X5_confirm (x := r 0) (M := r 1) (L := r 8) (Dk := r 15) (c := r 20) (se := r 21) (wk := r 23) (sp := r 25) (q := r 2) (a := r 3) (mf := rf3 r 2 2 3) (fun h9 => by have h8 := ix_in h9; rw [e] at h8; exact (congrArg (rf3 r 2 2 3) h8.symm).trans rfl) h0) rfl rfl rfl rfl (by decide) ?_
    rintro o w hp
    cases x0 with
    | inl z =>
      obtain ⟨g, e1, e2⟩ := PX.inl hp
      subst e1; subst e2
      exact ⟨_, [23, 24, 25, 26, 0, 1, 2, 3, 4, 5, 6, 7, 8, 9, 10, 11, 12, 13, 14, 15, 16, 17, 18, 19, 20, 21, 22], PX.mk g rfl rfl, rfl, rfl⟩
    | inr E =>
      obtain ⟨e1, e2⟩ := PX.inr hp
      subst e1; subst e2
      exact ⟨_, [23, 24, 25, 26, 0, 1, 2, 3, 4, 5, 6, 7, 8, 9, 10, 11, 12, 13, 14, 15, 16, 17, 18, 19, 20, 21, 22], PX.er, rfl, rfl⟩
  · rw [e] at h0
    try rw [e]
    refine ok_fr (wc := [(r 0, .inr (7, [.ref (r 1), .ref (r 8), .ref (r 15), .ref (r 20), .ref (r 21), .ref (r 23), .ref (r 25)])), (r 1, .inl (1, 3, .inr (.inr (.inr (.inr (rf3 r 2 2 3)))))), (r 4, .inr (4, [.ref (r 5), .int (S.1 1).1])), (r 5, .inl (0, 2646, .inl (S.1 1).2))]) (wr := [(r 2, .inr (4, [.ref (r 3), .int (S.1 0).1])), (r 3, .inl (0, 2646, .inl (S.1 0).2)), (r 6, .inr (4, [.ref (r 7), .int (S.1 2).1])), (r 7, .inl (0, 2646, .inl (S.1 2).2)), (r 8, .inl (2, 3, .inr (.inr (.inr (.inr (rf3 r 9 2 3)))))), (r 9, .inr (3, [.int (S.2.1 0).1, .ref (r 10), .int (S.2.1 0).2.1])), (r 10, .inl (0, 21, .inl (S.2.1 0).2.2)), (r 11, .inr (3, [.int (S.2.1 1).1, .ref (r 12), .int (S.2.1 1).2.1])), (r 12, .inl (0, 21, .inl (S.2.1 1).2.2)), (r 13, .inr (3, [.int (S.2.1 2).1, .ref (r 14), .int (S.2.1 2).2.1])), (r 14, .inl (0, 21, .inl (S.2.1 2).2.2)), (r 15, .inl (3, 2, .inr (.inr (.inr (.inr (rf3 r 16 2 2)))))), (r 16, .inr (6, [.ref (r 17)])), (r 17, .inl (0, 21, .inl (S.2.2.1 0))), (r 18, .inr (6, [.ref (r 19)])), (r 19, .inl (0, 21, .inl (S.2.2.1 1))), (r 20, .inr (2, [.int (S.2.2.2.1 0), .int (S.2.2.2.1 1), .int (S.2.2.2.1 2), .int (S.2.2.2.1 3), .int (S.2.2.2.1 4), .int (S.2.2.2.1 5)])), (r 21, .inr (5, [.ref (r 22)])), (r 22, .inl (0, 21, .inl S.2.2.2.2.1)), (r 23, .inr (6, [.ref (r 24)])), (r 24, .inl (0, 21, .inl S.2.2.2.2.2.1)), (r 25, .inr (6, [.ref (r 26)])), (r 26, .inl (0, 21, .inl S.2.2.2.2.2.2))]) [0, 1, 4, 5] [2, 3, 6, 7, 8, 9, 10, 11, 12, 13, 14, 15, 16, 17, 18, 19, 20, 21, 22, 23, 24, 25, 26] (ok_X5_confirm (x := r 0) (M := r 1) (L := r 8) (Dk := r 15) (c := r 20) (se := r 21) (wk := r 23) (sp := r 25) (q := r 4) (a := r 5) (mf := rf3 r 2 2 3) (fun h9 => by have h8 := ix_in h9; rw [e] at h8; exact (congrArg (rf3 r 2 2 3) h8.symm).trans rfl) h0) rfl rfl rfl rfl (by decide) ?_
    rintro o w hp
    cases x0 with
    | inl z =>
      obtain ⟨g, e1, e2⟩ := PX.inl hp
      subst e1; subst e2
      exact ⟨_, [23, 24, 0, 1, 25, 26, 2, 3, 4, 5, 6, 7, 8, 9, 10, 11, 12, 13, 14, 15, 16, 17, 18, 19, 20, 21, 22], PX.mk g rfl rfl, rfl, rfl⟩
    | inr E =>
      obtain ⟨e1, e2⟩ := PX.inr hp
      subst e1; subst e2
      exact ⟨_, [23, 24, 0, 1, 25, 26, 2, 3, 4, 5, 6, 7, 8, 9, 10, 11, 12, 13, 14, 15, 16, 17, 18, 19, 20, 21, 22], PX.er, rfl, rfl⟩
  · rw [e] at h0
    try rw [e]
    refine ok_fr (wc := [(r 0, .inr (7, [.ref (r 1), .ref (r 8), .ref (r 15), .ref (r 20), .ref (r 21), .ref (r 23), .ref (r 25)])), (r 1, .inl (1, 3, .inr (.inr (.inr (.inr (rf3 r 2 2 3)))))), (r 6, .inr (4, [.ref (r 7), .int (S.1 2).1])), (r 7, .inl (0, 2646, .inl (S.1 2).2))]) (wr := [(r 2, .inr (4, [.ref (r 3), .int (S.1 0).1])), (r 3, .inl (0, 2646, .inl (S.1 0).2)), (r 4, .inr (4, [.ref (r 5), .int (S.1 1).1])), (r 5, .inl (0, 2646, .inl (S.1 1).2)), (r 8, .inl (2, 3, .inr (.inr (.inr (.inr (rf3 r 9 2 3)))))), (r 9, .inr (3, [.int (S.2.1 0).1, .ref (r 10), .int (S.2.1 0).2.1])), (r 10, .inl (0, 21, .inl (S.2.1 0).2.2)), (r 11, .inr (3, [.int (S.2.1 1).1, .ref (r 12), .int (S.2.1 1).2.1])), (r 12, .inl (0, 21, .inl (S.2.1 1).2.2)), (r 13, .inr (3, [.int (S.2.1 2).1, .ref (r 14), .int (S.2.1 2).2.1])), (r 14, .inl (0, 21, .inl (S.2.1 2).2.2)), (r 15, .inl (3, 2, .inr (.inr (.inr (.inr (rf3 r 16 2 2)))))), (r 16, .inr (6, [.ref (r 17)])), (r 17, .inl (0, 21, .inl (S.2.2.1 0))), (r 18, .inr (6, [.ref (r 19)])), (r 19, .inl (0, 21, .inl (S.2.2.1 1))), (r 20, .inr (2, [.int (S.2.2.2.1 0), .int (S.2.2.2.1 1), .int (S.2.2.2.1 2), .int (S.2.2.2.1 3), .int (S.2.2.2.1 4), .int (S.2.2.2.1 5)])), (r 21, .inr (5, [.ref (r 22)])), (r 22, .inl (0, 21, .inl S.2.2.2.2.1)), (r 23, .inr (6, [.ref (r 24)])), (r 24, .inl (0, 21, .inl S.2.2.2.2.2.1)), (r 25, .inr (6, [.ref (r 26)])), (r 26, .inl (0, 21, .inl S.2.2.2.2.2.2))]) [0, 1, 6, 7] [2, 3, 4, 5, 8, 9, 10, 11, 12, 13, 14, 15, 16, 17, 18, 19, 20, 21, 22, 23, 24, 25, 26] (ok_X5_confirm (x := r 0) (M := r 1) (L := r 8) (Dk := r 15) (c := r 20) (se := r 21) (wk := r 23) (sp := r 25) (q := r 6) (a := r 7) (mf := rf3 r 2 2 3) (fun h9 => by have h8 := ix_in h9; rw [e] at h8; exact (congrArg (rf3 r 2 2 3) h8.symm).trans rfl) h0) rfl rfl rfl rfl (by decide) ?_
    rintro o w hp
    cases x0 with
    | inl z =>
      obtain ⟨g, e1, e2⟩ := PX.inl hp
      subst e1; subst e2
      exact ⟨_, [23, 24, 0, 1, 2, 3, 25, 26, 4, 5, 6, 7, 8, 9, 10, 11, 12, 13, 14, 15, 16, 17, 18, 19, 20, 21, 22], PX.mk g rfl rfl, rfl, rfl⟩
    | inr E =>
      obtain ⟨e1, e2⟩ := PX.inr hp
      subst e1; subst e2
      exact ⟨_, [23, 24, 0, 1, 2, 3, 25, 26, 4, 5, 6, 7, 8, 9, 10, 11, 12, 13, 14, 15, 16, 17, 18, 19, 20, 21, 22], PX.er, rfl, rfl⟩
def gX_about (N K : Nat) (S : CS) (p0 : Int32) (p1 : Int32) : Option ((Int32 × CS) ⊕ String) := (fX5_about N K ((S.1 (ix 3 p0)).1) ((S.1 (ix 3 p0)).2) p0 p1).map (fun o => match o with | .inl z => .inl (z, (S.1, S.2.1, S.2.2.1, S.2.2.2.1, S.2.2.2.2.1, S.2.2.2.2.2.1, S.2.2.2.2.2.2)) | .inr E => .inr E)
set_option maxHeartbeats 4000000 in
set_option maxRecDepth 100000 in
theorem ogX_about {N K : Nat} {r : Nat → Nat} {S : CS} {p0 : Int32} {p1 : Int32} {x : (Int32 × CS) ⊕ String} (hE : gX_about N K S p0 p1 = some x) : OkM yX5_about (.code yX5_about cX5_about 4 (some .int)) (9) 2 12 [.ref (r 0), .int p0, .int p1] (WX r S) ((PX (U := Int32 × CS) (fun z _ => some (.int z.1)) (fun z _ => WX r z.2) (WX r S)) x) := by
  unfold gX_about at hE
  obtain ⟨x0, h0, h1⟩ := Option.map_eq_some_iff.mp hE
  subst h1
  clear hE
  rcases lt3 (ix_lt (n := 3) (p := p0) (by decide)) with e | e | e
  · rw [e] at h0
    try rw [e]
    refine ok_fr (wc := [(r 0, .inr (7, [.ref (r 1), .ref (r 8), .ref (r 15), .ref (r 20), .ref (r 21), .ref (r 23), .ref (r 25)])), (r 1, .inl (1, 3, .inr (.inr (.inr (.inr (rf3 r 2 2 3)))))), (r 2, .inr (4, [.ref (r 3), .int (S.1 0).1])), (r 3, .inl (0, 2646, .inl (S.1 0).2))]) (wr := [(r 4, .inr (4, [.ref (r 5), .int (S.1 1).1])), (r 5, .inl (0, 2646, .inl (S.1 1).2)), (r 6, .inr (4, [.ref (r 7), .int (S.1 2).1])), (r 7, .inl (0, 2646, .inl (S.1 2).2)), (r 8, .inl (2, 3, .inr (.inr (.inr (.inr (rf3 r 9 2 3)))))), (r 9, .inr (3, [.int (S.2.1 0).1, .ref (r 10), .int (S.2.1 0).2.1])), (r 10, .inl (0, 21, .inl (S.2.1 0).2.2)), (r 11, .inr (3, [.int (S.2.1 1).1, .ref (r 12), .int (S.2.1 1).2.1])), (r 12, .inl (0, 21, .inl (S.2.1 1).2.2)), (r 13, .inr (3, [.int (S.2.1 2).1, .ref (r 14), .int (S.2.1 2).2.1])), (r 14, .inl (0, 21, .inl (S.2.1 2).2.2)), (r 15, .inl (3, 2, .inr (.inr (.inr (.inr (rf3 r 16 2 2)))))), (r 16, .inr (6, [.ref (r 17)])), (r 17, .inl (0, 21, .inl (S.2.2.1 0))), (r 18, .inr (6, [.ref (r 19)])), (r 19, .inl (0, 21, .inl (S.2.2.1 1))), (r 20, .inr (2, [.int (S.2.2.2.1 0), .int (S.2.2.2.1 1), .int (S.2.2.2.1 2), .int (S.2.2.2.1 3), .int (S.2.2.2.1 4), .int (S.2.2.2.1 5)])), (r 21, .inr (5, [.ref (r 22)])), (r 22, .inl (0, 21, .inl S.2.2.2.2.1)), (r 23, .inr (6, [.ref (r 24)])), (r 24, .inl (0, 21, .inl S.2.2.2.2.2.1)), (r 25, .inr (6, [.ref (r 26)])), (r 26, .inl (0, 21, .inl S.2.2.2.2.2.2))]) [0, 1, 2, 3] [4, 5, 6, 7, 8, 9, 10, 11, 12, 13, 14, 15, 16, 17, 18, 19, 20, 21, 22, 23, 24, 25, 26] (ok_X5_about (x := r 0) (M := r 1) (L := r 8) (Dk := r 15) (c := r 20) (se := r 21) (wk := r 23) (sp := r 25) (q := r 2) (a := r 3) (mf := rf3 r 2 2 3) (fun h9 => by have h8 := ix_in h9; rw [e] at h8; exact (congrArg (rf3 r 2 2 3) h8.symm).trans rfl) h0) rfl rfl rfl rfl (by decide) ?_
    rintro o w hp
    cases x0 with
    | inl z =>
      obtain ⟨g, e1, e2⟩ := PX.inl hp
      subst e1; subst e2
      exact ⟨_, [23, 24, 25, 26, 0, 1, 2, 3, 4, 5, 6, 7, 8, 9, 10, 11, 12, 13, 14, 15, 16, 17, 18, 19, 20, 21, 22], PX.mk g rfl rfl, rfl, rfl⟩
    | inr E =>
      obtain ⟨e1, e2⟩ := PX.inr hp
      subst e1; subst e2
      exact ⟨_, [23, 24, 25, 26, 0, 1, 2, 3, 4, 5, 6, 7, 8, 9, 10, 11, 12, 13, 14, 15, 16, 17, 18, 19, 20, 21, 22], PX.er, rfl, rfl⟩
  · rw [e] at h0
    try rw [e]
    refine ok_fr (wc := [(r 0, .inr (7, [.ref (r 1), .ref (r 8), .ref (r 15), .ref (r 20), .ref (r 21), .ref (r 23), .ref (r 25)])), (r 1, .inl (1, 3, .inr (.inr (.inr (.inr (rf3 r 2 2 3)))))), (r 4, .inr (4, [.ref (r 5), .int (S.1 1).1])), (r 5, .inl (0, 2646, .inl (S.1 1).2))]) (wr := [(r 2, .inr (4, [.ref (r 3), .int (S.1 0).1])), (r 3, .inl (0, 2646, .inl (S.1 0).2)), (r 6, .inr (4, [.ref (r 7), .int (S.1 2).1])), (r 7, .inl (0, 2646, .inl (S.1 2).2)), (r 8, .inl (2, 3, .inr (.inr (.inr (.inr (rf3 r 9 2 3)))))), (r 9, .inr (3, [.int (S.2.1 0).1, .ref (r 10), .int (S.2.1 0).2.1])), (r 10, .inl (0, 21, .inl (S.2.1 0).2.2)), (r 11, .inr (3, [.int (S.2.1 1).1, .ref (r 12), .int (S.2.1 1).2.1])), (r 12, .inl (0, 21, .inl (S.2.1 1).2.2)), (r 13, .inr (3, [.int (S.2.1 2).1, .ref (r 14), .int (S.2.1 2).2.1])), (r 14, .inl (0, 21, .inl (S.2.1 2).2.2)), (r 15, .inl (3, 2, .inr (.inr (.inr (.inr (rf3 r 16 2 2)))))), (r 16, .inr (6, [.ref (r 17)])), (r 17, .inl (0, 21, .inl (S.2.2.1 0))), (r 18, .inr (6, [.ref (r 19)])), (r 19, .inl (0, 21, .inl (S.2.2.1 1))), (r 20, .inr (2, [.int (S.2.2.2.1 0), .int (S.2.2.2.1 1), .int (S.2.2.2.1 2), .int (S.2.2.2.1 3), .int (S.2.2.2.1 4), .int (S.2.2.2.1 5)])), (r 21, .inr (5, [.ref (r 22)])), (r 22, .inl (0, 21, .inl S.2.2.2.2.1)), (r 23, .inr (6, [.ref (r 24)])), (r 24, .inl (0, 21, .inl S.2.2.2.2.2.1)), (r 25, .inr (6, [.ref (r 26)])), (r 26, .inl (0, 21, .inl S.2.2.2.2.2.2))]) [0, 1, 4, 5] [2, 3, 6, 7, 8, 9, 10, 11, 12, 13, 14, 15, 16, 17, 18, 19, 20, 21, 22, 23, 24, 25, 26] (ok_X5_about (x := r 0) (M := r 1) (L := r 8) (Dk := r 15) (c := r 20) (se := r 21) (wk := r 23) (sp := r 25) (q := r 4) (a := r 5) (mf := rf3 r 2 2 3) (fun h9 => by have h8 := ix_in h9; rw [e] at h8; exact (congrArg (rf3 r 2 2 3) h8.symm).trans rfl) h0) rfl rfl rfl rfl (by decide) ?_
    rintro o w hp
    cases x0 with
    | inl z =>
      obtain ⟨g, e1, e2⟩ := PX.inl hp
      subst e1; subst e2
      exact ⟨_, [23, 24, 0, 1, 25, 26, 2, 3, 4, 5, 6, 7, 8, 9, 10, 11, 12, 13, 14, 15, 16, 17, 18, 19, 20, 21, 22], PX.mk g rfl rfl, rfl, rfl⟩
    | inr E =>
      obtain ⟨e1, e2⟩ := PX.inr hp
      subst e1; subst e2
      exact ⟨_, [23, 24, 0, 1, 25, 26, 2, 3, 4, 5, 6, 7, 8, 9, 10, 11, 12, 13, 14, 15, 16, 17, 18, 19, 20, 21, 22], PX.er, rfl, rfl⟩
  · rw [e] at h0
    try rw [e]
    refine ok_fr (wc := [(r 0, .inr (7, [.ref (r 1), .ref (r 8), .ref (r 15), .ref (r 20), .ref (r 21), .ref (r 23), .ref (r 25)])), (r 1, .inl (1, 3, .inr (.inr (.inr (.inr (rf3 r 2 2 3)))))), (r 6, .inr (4, [.ref (r 7), .int (S.1 2).1])), (r 7, .inl (0, 2646, .inl (S.1 2).2))]) (wr := [(r 2, .inr (4, [.ref (r 3), .int (S.1 0).1])), (r 3, .inl (0, 2646, .inl (S.1 0).2)), (r 4, .inr (4, [.ref (r 5), .int (S.1 1).1])), (r 5, .inl (0, 2646, .inl (S.1 1).2)), (r 8, .inl (2, 3, .inr (.inr (.inr (.inr (rf3 r 9 2 3)))))), (r 9, .inr (3, [.int (S.2.1 0).1, .ref (r 10), .int (S.2.1 0).2.1])), (r 10, .inl (0, 21, .inl (S.2.1 0).2.2)), (r 11, .inr (3, [.int (S.2.1 1).1, .ref (r 12), .int (S.2.1 1).2.1])), (r 12, .inl (0, 21, .inl (S.2.1 1).2.2)), (r 13, .inr (3, [.int (S.2.1 2).1, .ref (r 14), .int (S.2.1 2).2.1])), (r 14, .inl (0, 21, .inl (S.2.1 2).2.2)), (r 15, .inl (3, 2, .inr (.inr (.inr (.inr (rf3 r 16 2 2)))))), (r 16, .inr (6, [.ref (r 17)])), (r 17, .inl (0, 21, .inl (S.2.2.1 0))), (r 18, .inr (6, [.ref (r 19)])), (r 19, .inl (0, 21, .inl (S.2.2.1 1))), (r 20, .inr (2, [.int (S.2.2.2.1 0), .int (S.2.2.2.1 1), .int (S.2.2.2.1 2), .int (S.2.2.2.1 3), .int (S.2.2.2.1 4), .int (S.2.2.2.1 5)])), (r 21, .inr (5, [.ref (r 22)])), (r 22, .inl (0, 21, .inl S.2.2.2.2.1)), (r 23, .inr (6, [.ref (r 24)])), (r 24, .inl (0, 21, .inl S.2.2.2.2.2.1)), (r 25, .inr (6, [.ref (r 26)])), (r 26, .inl (0, 21, .inl S.2.2.2.2.2.2))]) [0, 1, 6, 7] [2, 3, 4, 5, 8, 9, 10, 11, 12, 13, 14, 15, 16, 17, 18, 19, 20, 21, 22, 23, 24, 25, 26] (ok_X5_about (x := r 0) (M := r 1) (L := r 8) (Dk := r 15) (c := r 20) (se := r 21) (wk := r 23) (sp := r 25) (q := r 6) (a := r 7) (mf := rf3 r 2 2 3) (fun h9 => by have h8 := ix_in h9; rw [e] at h8; exact (congrArg (rf3 r 2 2 3) h8.symm).trans rfl) h0) rfl rfl rfl rfl (by decide) ?_
    rintro o w hp
    cases x0 with
    | inl z =>
      obtain ⟨g, e1, e2⟩ := PX.inl hp
      subst e1; subst e2
      exact ⟨_, [23, 24, 0, 1, 2, 3, 25, 26, 4, 5, 6, 7, 8, 9, 10, 11, 12, 13, 14, 15, 16, 17, 18, 19, 20, 21, 22], PX.mk g rfl rfl, rfl, rfl⟩
    | inr E =>
      obtain ⟨e1, e2⟩ := PX.inr hp
      subst e1; subst e2
      exact ⟨_, [23, 24, 0, 1, 2, 3, 25, 26, 4, 5, 6, 7, 8, 9, 10, 11, 12, 13, 14, 15, 16, 17, 18, 19, 20, 21, 22], PX.er, rfl, rfl⟩
def gX_has (N K : Nat) (S : CS) (p0 : Int32) (p1 : Int32) : Option ((Int32 × CS) ⊕ String) := (fX5_has N K ((S.1 (ix 3 p0)).1) ((S.1 (ix 3 p0)).2) p0 p1).map (fun o => match o with | .inl z => .inl (z, (S.1, S.2.1, S.2.2.1, S.2.2.2.1, S.2.2.2.2.1, S.2.2.2.2.2.1, S.2.2.2.2.2.2)) | .inr E => .inr E)
set_option maxHeartbeats 4000000 in
set_option maxRecDepth 100000 in
theorem ogX_has {N K : Nat} {r : Nat → Nat} {S : CS} {p0 : Int32} {p1 : Int32} {x : (Int32 × CS) ⊕ String} (hE : gX_has N K S p0 p1 = some x) : OkM yX5_has (.code yX5_has cX5_has 3 (some .boolean)) (9) 1 6 [.ref (r 0), .int p0, .int p1] (WX r S) ((PX (U := Int32 × CS) (fun z _ => some (.int z.1)) (fun z _ => WX r z.2) (WX r S)) x) := by
  unfold gX_has at hE
  obtain ⟨x0, h0, h1⟩ := Option.map_eq_some_iff.mp hE
  subst h1
  clear hE
  rcases lt3 (ix_lt (n := 3) (p := p0) (by decide)) with e | e | e
  · rw [e] at h0
    try rw [e]
    refine ok_fr (wc := [(r 0, .inr (7, [.ref (r 1), .ref (r 8), .ref (r 15), .ref (r 20), .ref (r 21), .ref (r 23), .ref (r 25)])), (r 1, .inl (1, 3, .inr (.inr (.inr (.inr (rf3 r 2 2 3)))))), (r 2, .inr (4, [.ref (r 3), .int (S.1 0).1])), (r 3, .inl (0, 2646, .inl (S.1 0).2))]) (wr := [(r 4, .inr (4, [.ref (r 5), .int (S.1 1).1])), (r 5, .inl (0, 2646, .inl (S.1 1).2)), (r 6, .inr (4, [.ref (r 7), .int (S.1 2).1])), (r 7, .inl (0, 2646, .inl (S.1 2).2)), (r 8, .inl (2, 3, .inr (.inr (.inr (.inr (rf3 r 9 2 3)))))), (r 9, .inr (3, [.int (S.2.1 0).1, .ref (r 10), .int (S.2.1 0).2.1])), (r 10, .inl (0, 21, .inl (S.2.1 0).2.2)), (r 11, .inr (3, [.int (S.2.1 1).1, .ref (r 12), .int (S.2.1 1).2.1])), (r 12, .inl (0, 21, .inl (S.2.1 1).2.2)), (r 13, .inr (3, [.int (S.2.1 2).1, .ref (r 14), .int (S.2.1 2).2.1])), (r 14, .inl (0, 21, .inl (S.2.1 2).2.2)), (r 15, .inl (3, 2, .inr (.inr (.inr (.inr (rf3 r 16 2 2)))))), (r 16, .inr (6, [.ref (r 17)])), (r 17, .inl (0, 21, .inl (S.2.2.1 0))), (r 18, .inr (6, [.ref (r 19)])), (r 19, .inl (0, 21, .inl (S.2.2.1 1))), (r 20, .inr (2, [.int (S.2.2.2.1 0), .int (S.2.2.2.1 1), .int (S.2.2.2.1 2), .int (S.2.2.2.1 3), .int (S.2.2.2.1 4), .int (S.2.2.2.1 5)])), (r 21, .inr (5, [.ref (r 22)])), (r 22, .inl (0, 21, .inl S.2.2.2.2.1)), (r 23, .inr (6, [.ref (r 24)])), (r 24, .inl (0, 21, .inl S.2.2.2.2.2.1)), (r 25, .inr (6, [.ref (r 26)])), (r 26, .inl (0, 21, .inl S.2.2.2.2.2.2))]) [0, 1, 2, 3] [4, 5, 6, 7, 8, 9, 10, 11, 12, 13, 14, 15, 16, 17, 18, 19, 20, 21, 22, 23, 24, 25, 26] (ok_X5_has (x := r 0) (M := r 1) (L := r 8) (Dk := r 15) (c := r 20) (se := r 21) (wk := r 23) (sp := r 25) (q := r 2) (a := r 3) (mf := rf3 r 2 2 3) (fun h9 => by have h8 := ix_in h9; rw [e] at h8; exact (congrArg (rf3 r 2 2 3) h8.symm).trans rfl) h0) rfl rfl rfl rfl (by decide) ?_
    rintro o w hp
    cases x0 with
    | inl z =>
      obtain ⟨g, e1, e2⟩ := PX.inl hp
      subst e1; subst e2
      exact ⟨_, [23, 24, 25, 26, 0, 1, 2, 3, 4, 5, 6, 7, 8, 9, 10, 11, 12, 13, 14, 15, 16, 17, 18, 19, 20, 21, 22], PX.mk g rfl rfl, rfl, rfl⟩
    | inr E =>
      obtain ⟨e1, e2⟩ := PX.inr hp
      subst e1; subst e2
      exact ⟨_, [23, 24, 25, 26, 0, 1, 2, 3, 4, 5, 6, 7, 8, 9, 10, 11, 12, 13, 14, 15, 16, 17, 18, 19, 20, 21, 22], PX.er, rfl, rfl⟩
  · rw [e] at h0
    try rw [e]
    refine ok_fr (wc := [(r 0, .inr (7, [.ref (r 1), .ref (r 8), .ref (r 15), .ref (r 20), .ref (r 21), .ref (r 23), .ref (r 25)])), (r 1, .inl (1, 3, .inr (.inr (.inr (.inr (rf3 r 2 2 3)))))), (r 4, .inr (4, [.ref (r 5), .int (S.1 1).1])), (r 5, .inl (0, 2646, .inl (S.1 1).2))]) (wr := [(r 2, .inr (4, [.ref (r 3), .int (S.1 0).1])), (r 3, .inl (0, 2646, .inl (S.1 0).2)), (r 6, .inr (4, [.ref (r 7), .int (S.1 2).1])), (r 7, .inl (0, 2646, .inl (S.1 2).2)), (r 8, .inl (2, 3, .inr (.inr (.inr (.inr (rf3 r 9 2 3)))))), (r 9, .inr (3, [.int (S.2.1 0).1, .ref (r 10), .int (S.2.1 0).2.1])), (r 10, .inl (0, 21, .inl (S.2.1 0).2.2)), (r 11, .inr (3, [.int (S.2.1 1).1, .ref (r 12), .int (S.2.1 1).2.1])), (r 12, .inl (0, 21, .inl (S.2.1 1).2.2)), (r 13, .inr (3, [.int (S.2.1 2).1, .ref (r 14), .int (S.2.1 2).2.1])), (r 14, .inl (0, 21, .inl (S.2.1 2).2.2)), (r 15, .inl (3, 2, .inr (.inr (.inr (.inr (rf3 r 16 2 2)))))), (r 16, .inr (6, [.ref (r 17)])), (r 17, .inl (0, 21, .inl (S.2.2.1 0))), (r 18, .inr (6, [.ref (r 19)])), (r 19, .inl (0, 21, .inl (S.2.2.1 1))), (r 20, .inr (2, [.int (S.2.2.2.1 0), .int (S.2.2.2.1 1), .int (S.2.2.2.1 2), .int (S.2.2.2.1 3), .int (S.2.2.2.1 4), .int (S.2.2.2.1 5)])), (r 21, .inr (5, [.ref (r 22)])), (r 22, .inl (0, 21, .inl S.2.2.2.2.1)), (r 23, .inr (6, [.ref (r 24)])), (r 24, .inl (0, 21, .inl S.2.2.2.2.2.1)), (r 25, .inr (6, [.ref (r 26)])), (r 26, .inl (0, 21, .inl S.2.2.2.2.2.2))]) [0, 1, 4, 5] [2, 3, 6, 7, 8, 9, 10, 11, 12, 13, 14, 15, 16, 17, 18, 19, 20, 21, 22, 23, 24, 25, 26] (ok_X5_has (x := r 0) (M := r 1) (L := r 8) (Dk := r 15) (c := r 20) (se := r 21) (wk := r 23) (sp := r 25) (q := r 4) (a := r 5) (mf := rf3 r 2 2 3) (fun h9 => by have h8 := ix_in h9; rw [e] at h8; exact (congrArg (rf3 r 2 2 3) h8.symm).trans rfl) h0) rfl rfl rfl rfl (by decide) ?_
    rintro o w hp
    cases x0 with
    | inl z =>
      obtain ⟨g, e1, e2⟩ := PX.inl hp
      subst e1; subst e2
      exact ⟨_, [23, 24, 0, 1, 25, 26, 2, 3, 4, 5, 6, 7, 8, 9, 10, 11, 12, 13, 14, 15, 16, 17, 18, 19, 20, 21, 22], PX.mk g rfl rfl, rfl, rfl⟩
    | inr E =>
      obtain ⟨e1, e2⟩ := PX.inr hp
      subst e1; subst e2
      exact ⟨_, [23, 24, 0, 1, 25, 26, 2, 3, 4, 5, 6, 7, 8, 9, 10, 11, 12, 13, 14, 15, 16, 17, 18, 19, 20, 21, 22], PX.er, rfl, rfl⟩
  · rw [e] at h0
    try rw [e]
    refine ok_fr (wc := [(r 0, .inr (7, [.ref (r 1), .ref (r 8), .ref (r 15), .ref (r 20), .ref (r 21), .ref (r 23), .ref (r 25)])), (r 1, .inl (1, 3, .inr (.inr (.inr (.inr (rf3 r 2 2 3)))))), (r 6, .inr (4, [.ref (r 7), .int (S.1 2).1])), (r 7, .inl (0, 2646, .inl (S.1 2).2))]) (wr := [(r 2, .inr (4, [.ref (r 3), .int (S.1 0).1])), (r 3, .inl (0, 2646, .inl (S.1 0).2)), (r 4, .inr (4, [.ref (r 5), .int (S.1 1).1])), (r 5, .inl (0, 2646, .inl (S.1 1).2)), (r 8, .inl (2, 3, .inr (.inr (.inr (.inr (rf3 r 9 2 3)))))), (r 9, .inr (3, [.int (S.2.1 0).1, .ref (r 10), .int (S.2.1 0).2.1])), (r 10, .inl (0, 21, .inl (S.2.1 0).2.2)), (r 11, .inr (3, [.int (S.2.1 1).1, .ref (r 12), .int (S.2.1 1).2.1])), (r 12, .inl (0, 21, .inl (S.2.1 1).2.2)), (r 13, .inr (3, [.int (S.2.1 2).1, .ref (r 14), .int (S.2.1 2).2.1])), (r 14, .inl (0, 21, .inl (S.2.1 2).2.2)), (r 15, .inl (3, 2, .inr (.inr (.inr (.inr (rf3 r 16 2 2)))))), (r 16, .inr (6, [.ref (r 17)])), (r 17, .inl (0, 21, .inl (S.2.2.1 0))), (r 18, .inr (6, [.ref (r 19)])), (r 19, .inl (0, 21, .inl (S.2.2.1 1))), (r 20, .inr (2, [.int (S.2.2.2.1 0), .int (S.2.2.2.1 1), .int (S.2.2.2.1 2), .int (S.2.2.2.1 3), .int (S.2.2.2.1 4), .int (S.2.2.2.1 5)])), (r 21, .inr (5, [.ref (r 22)])), (r 22, .inl (0, 21, .inl S.2.2.2.2.1)), (r 23, .inr (6, [.ref (r 24)])), (r 24, .inl (0, 21, .inl S.2.2.2.2.2.1)), (r 25, .inr (6, [.ref (r 26)])), (r 26, .inl (0, 21, .inl S.2.2.2.2.2.2))]) [0, 1, 6, 7] [2, 3, 4, 5, 8, 9, 10, 11, 12, 13, 14, 15, 16, 17, 18, 19, 20, 21, 22, 23, 24, 25, 26] (ok_X5_has (x := r 0) (M := r 1) (L := r 8) (Dk := r 15) (c := r 20) (se := r 21) (wk := r 23) (sp := r 25) (q := r 6) (a := r 7) (mf := rf3 r 2 2 3) (fun h9 => by have h8 := ix_in h9; rw [e] at h8; exact (congrArg (rf3 r 2 2 3) h8.symm).trans rfl) h0) rfl rfl rfl rfl (by decide) ?_
    rintro o w hp
    cases x0 with
    | inl z =>
      obtain ⟨g, e1, e2⟩ := PX.inl hp
      subst e1; subst e2
      exact ⟨_, [23, 24, 0, 1, 2, 3, 25, 26, 4, 5, 6, 7, 8, 9, 10, 11, 12, 13, 14, 15, 16, 17, 18, 19, 20, 21, 22], PX.mk g rfl rfl, rfl, rfl⟩
    | inr E =>
      obtain ⟨e1, e2⟩ := PX.inr hp
      subst e1; subst e2
      exact ⟨_, [23, 24, 0, 1, 2, 3, 25, 26, 4, 5, 6, 7, 8, 9, 10, 11, 12, 13, 14, 15, 16, 17, 18, 19, 20, 21, 22], PX.er, rfl, rfl⟩
def gX_count (N K : Nat) (S : CS) (p0 : Int32) (p1 : Int32) (p2 : Int32) : Option ((Int32 × CS) ⊕ String) := (fX5_count N K ((S.1 (ix 3 p0)).1) ((S.1 (ix 3 p0)).2) p0 p1 p2).map (fun o => match o with | .inl z => .inl (z, (S.1, S.2.1, S.2.2.1, S.2.2.2.1, S.2.2.2.2.1, S.2.2.2.2.2.1, S.2.2.2.2.2.2)) | .inr E => .inr E)
set_option maxHeartbeats 4000000 in
set_option maxRecDepth 100000 in
theorem ogX_count {N K : Nat} {r : Nat → Nat} {S : CS} {p0 : Int32} {p1 : Int32} {p2 : Int32} {x : (Int32 × CS) ⊕ String} (hE : gX_count N K S p0 p1 p2 = some x) : OkM yX5_count (.code yX5_count cX5_count 5 (some .int)) (9) 2 12 [.ref (r 0), .int p0, .int p1, .int p2] (WX r S) ((PX (U := Int32 × CS) (fun z _ => some (.int z.1)) (fun z _ => WX r z.2) (WX r S)) x) := by
  unfold gX_count at hE
  obtain ⟨x0, h0, h1⟩ := Option.map_eq_some_iff.mp hE
  subst h1
  clear hE
  rcases lt3 (ix_lt (n := 3) (p := p0) (by decide)) with e | e | e
  · rw [e] at h0
    try rw [e]
    refine ok_fr (wc := [(r 0, .inr (7, [.ref (r 1), .ref (r 8), .ref (r 15), .ref (r 20), .ref (r 21), .ref (r 23), .ref (r 25)])), (r 1, .inl (1, 3, .inr (.inr (.inr (.inr (rf3 r 2 2 3)))))), (r 2, .inr (4, [.ref (r 3), .int (S.1 0).1])), (r 3, .inl (0, 2646, .inl (S.1 0).2))]) (wr := [(r 4, .inr (4, [.ref (r 5), .int (S.1 1).1])), (r 5, .inl (0, 2646, .inl (S.1 1).2)), (r 6, .inr (4, [.ref (r 7), .int (S.1 2).1])), (r 7, .inl (0, 2646, .inl (S.1 2).2)), (r 8, .inl (2, 3, .inr (.inr (.inr (.inr (rf3 r 9 2 3)))))), (r 9, .inr (3, [.int (S.2.1 0).1, .ref (r 10), .int (S.2.1 0).2.1])), (r 10, .inl (0, 21, .inl (S.2.1 0).2.2)), (r 11, .inr (3, [.int (S.2.1 1).1, .ref (r 12), .int (S.2.1 1).2.1])), (r 12, .inl (0, 21, .inl (S.2.1 1).2.2)), (r 13, .inr (3, [.int (S.2.1 2).1, .ref (r 14), .int (S.2.1 2).2.1])), (r 14, .inl (0, 21, .inl (S.2.1 2).2.2)), (r 15, .inl (3, 2, .inr (.inr (.inr (.inr (rf3 r 16 2 2)))))), (r 16, .inr (6, [.ref (r 17)])), (r 17, .inl (0, 21, .inl (S.2.2.1 0))), (r 18, .inr (6, [.ref (r 19)])), (r 19, .inl (0, 21, .inl (S.2.2.1 1))), (r 20, .inr (2, [.int (S.2.2.2.1 0), .int (S.2.2.2.1 1), .int (S.2.2.2.1 2), .int (S.2.2.2.1 3), .int (S.2.2.2.1 4), .int (S.2.2.2.1 5)])), (r 21, .inr (5, [.ref (r 22)])), (r 22, .inl (0, 21, .inl S.2.2.2.2.1)), (r 23, .inr (6, [.ref (r 24)])), (r 24, .inl (0, 21, .inl S.2.2.2.2.2.1)), (r 25, .inr (6, [.ref (r 26)])), (r 26, .inl (0, 21, .inl S.2.2.2.2.2.2))]) [0, 1, 2, 3] [4, 5, 6, 7, 8, 9, 10, 11, 12, 13, 14, 15, 16, 17, 18, 19, 20, 21, 22, 23, 24, 25, 26] (ok_X5_count (x := r 0) (M := r 1) (L := r 8) (Dk := r 15) (c := r 20) (se := r 21) (wk := r 23) (sp := r 25) (q := r 2) (a := r 3) (mf := rf3 r 2 2 3) (fun h9 => by have h8 := ix_in h9; rw [e] at h8; exact (congrArg (rf3 r 2 2 3) h8.symm).trans rfl) h0) rfl rfl rfl rfl (by decide) ?_
    rintro o w hp
    cases x0 with
    | inl z =>
      obtain ⟨g, e1, e2⟩ := PX.inl hp
      subst e1; subst e2
      exact ⟨_, [23, 24, 25, 26, 0, 1, 2, 3, 4, 5, 6, 7, 8, 9, 10, 11, 12, 13, 14, 15, 16, 17, 18, 19, 20, 21, 22], PX.mk g rfl rfl, rfl, rfl⟩
    | inr E =>
      obtain ⟨e1, e2⟩ := PX.inr hp
      subst e1; subst e2
      exact ⟨_, [23, 24, 25, 26, 0, 1, 2, 3, 4, 5, 6, 7, 8, 9, 10, 11, 12, 13, 14, 15, 16, 17, 18, 19, 20, 21, 22], PX.er, rfl, rfl⟩
  · rw [e] at h0
    try rw [e]
    refine ok_fr (wc := [(r 0, .inr (7, [.ref (r 1), .ref (r 8), .ref (r 15), .ref (r 20), .ref (r 21), .ref (r 23), .ref (r 25)])), (r 1, .inl (1, 3, .inr (.inr (.inr (.inr (rf3 r 2 2 3)))))), (r 4, .inr (4, [.ref (r 5), .int (S.1 1).1])), (r 5, .inl (0, 2646, .inl (S.1 1).2))]) (wr := [(r 2, .inr (4, [.ref (r 3), .int (S.1 0).1])), (r 3, .inl (0, 2646, .inl (S.1 0).2)), (r 6, .inr (4, [.ref (r 7), .int (S.1 2).1])), (r 7, .inl (0, 2646, .inl (S.1 2).2)), (r 8, .inl (2, 3, .inr (.inr (.inr (.inr (rf3 r 9 2 3)))))), (r 9, .inr (3, [.int (S.2.1 0).1, .ref (r 10), .int (S.2.1 0).2.1])), (r 10, .inl (0, 21, .inl (S.2.1 0).2.2)), (r 11, .inr (3, [.int (S.2.1 1).1, .ref (r 12), .int (S.2.1 1).2.1])), (r 12, .inl (0, 21, .inl (S.2.1 1).2.2)), (r 13, .inr (3, [.int (S.2.1 2).1, .ref (r 14), .int (S.2.1 2).2.1])), (r 14, .inl (0, 21, .inl (S.2.1 2).2.2)), (r 15, .inl (3, 2, .inr (.inr (.inr (.inr (rf3 r 16 2 2)))))), (r 16, .inr (6, [.ref (r 17)])), (r 17, .inl (0, 21, .inl (S.2.2.1 0))), (r 18, .inr (6, [.ref (r 19)])), (r 19, .inl (0, 21, .inl (S.2.2.1 1))), (r 20, .inr (2, [.int (S.2.2.2.1 0), .int (S.2.2.2.1 1), .int (S.2.2.2.1 2), .int (S.2.2.2.1 3), .int (S.2.2.2.1 4), .int (S.2.2.2.1 5)])), (r 21, .inr (5, [.ref (r 22)])), (r 22, .inl (0, 21, .inl S.2.2.2.2.1)), (r 23, .inr (6, [.ref (r 24)])), (r 24, .inl (0, 21, .inl S.2.2.2.2.2.1)), (r 25, .inr (6, [.ref (r 26)])), (r 26, .inl (0, 21, .inl S.2.2.2.2.2.2))]) [0, 1, 4, 5] [2, 3, 6, 7, 8, 9, 10, 11, 12, 13, 14, 15, 16, 17, 18, 19, 20, 21, 22, 23, 24, 25, 26] (ok_X5_count (x := r 0) (M := r 1) (L := r 8) (Dk := r 15) (c := r 20) (se := r 21) (wk := r 23) (sp := r 25) (q := r 4) (a := r 5) (mf := rf3 r 2 2 3) (fun h9 => by have h8 := ix_in h9; rw [e] at h8; exact (congrArg (rf3 r 2 2 3) h8.symm).trans rfl) h0) rfl rfl rfl rfl (by decide) ?_
    rintro o w hp
    cases x0 with
    | inl z =>
      obtain ⟨g, e1, e2⟩ := PX.inl hp
      subst e1; subst e2
      exact ⟨_, [23, 24, 0, 1, 25, 26, 2, 3, 4, 5, 6, 7, 8, 9, 10, 11, 12, 13, 14, 15, 16, 17, 18, 19, 20, 21, 22], PX.mk g rfl rfl, rfl, rfl⟩
    | inr E =>
      obtain ⟨e1, e2⟩ := PX.inr hp
      subst e1; subst e2
      exact ⟨_, [23, 24, 0, 1, 25, 26, 2, 3, 4, 5, 6, 7, 8, 9, 10, 11, 12, 13, 14, 15, 16, 17, 18, 19, 20, 21, 22], PX.er, rfl, rfl⟩
  · rw [e] at h0
    try rw [e]
    refine ok_fr (wc := [(r 0, .inr (7, [.ref (r 1), .ref (r 8), .ref (r 15), .ref (r 20), .ref (r 21), .ref (r 23), .ref (r 25)])), (r 1, .inl (1, 3, .inr (.inr (.inr (.inr (rf3 r 2 2 3)))))), (r 6, .inr (4, [.ref (r 7), .int (S.1 2).1])), (r 7, .inl (0, 2646, .inl (S.1 2).2))]) (wr := [(r 2, .inr (4, [.ref (r 3), .int (S.1 0).1])), (r 3, .inl (0, 2646, .inl (S.1 0).2)), (r 4, .inr (4, [.ref (r 5), .int (S.1 1).1])), (r 5, .inl (0, 2646, .inl (S.1 1).2)), (r 8, .inl (2, 3, .inr (.inr (.inr (.inr (rf3 r 9 2 3)))))), (r 9, .inr (3, [.int (S.2.1 0).1, .ref (r 10), .int (S.2.1 0).2.1])), (r 10, .inl (0, 21, .inl (S.2.1 0).2.2)), (r 11, .inr (3, [.int (S.2.1 1).1, .ref (r 12), .int (S.2.1 1).2.1])), (r 12, .inl (0, 21, .inl (S.2.1 1).2.2)), (r 13, .inr (3, [.int (S.2.1 2).1, .ref (r 14), .int (S.2.1 2).2.1])), (r 14, .inl (0, 21, .inl (S.2.1 2).2.2)), (r 15, .inl (3, 2, .inr (.inr (.inr (.inr (rf3 r 16 2 2)))))), (r 16, .inr (6, [.ref (r 17)])), (r 17, .inl (0, 21, .inl (S.2.2.1 0))), (r 18, .inr (6, [.ref (r 19)])), (r 19, .inl (0, 21, .inl (S.2.2.1 1))), (r 20, .inr (2, [.int (S.2.2.2.1 0), .int (S.2.2.2.1 1), .int (S.2.2.2.1 2), .int (S.2.2.2.1 3), .int (S.2.2.2.1 4), .int (S.2.2.2.1 5)])), (r 21, .inr (5, [.ref (r 22)])), (r 22, .inl (0, 21, .inl S.2.2.2.2.1)), (r 23, .inr (6, [.ref (r 24)])), (r 24, .inl (0, 21, .inl S.2.2.2.2.2.1)), (r 25, .inr (6, [.ref (r 26)])), (r 26, .inl (0, 21, .inl S.2.2.2.2.2.2))]) [0, 1, 6, 7] [2, 3, 4, 5, 8, 9, 10, 11, 12, 13, 14, 15, 16, 17, 18, 19, 20, 21, 22, 23, 24, 25, 26] (ok_X5_count (x := r 0) (M := r 1) (L := r 8) (Dk := r 15) (c := r 20) (se := r 21) (wk := r 23) (sp := r 25) (q := r 6) (a := r 7) (mf := rf3 r 2 2 3) (fun h9 => by have h8 := ix_in h9; rw [e] at h8; exact (congrArg (rf3 r 2 2 3) h8.symm).trans rfl) h0) rfl rfl rfl rfl (by decide) ?_
    rintro o w hp
    cases x0 with
    | inl z =>
      obtain ⟨g, e1, e2⟩ := PX.inl hp
      subst e1; subst e2
      exact ⟨_, [23, 24, 0, 1, 2, 3, 25, 26, 4, 5, 6, 7, 8, 9, 10, 11, 12, 13, 14, 15, 16, 17, 18, 19, 20, 21, 22], PX.mk g rfl rfl, rfl, rfl⟩
    | inr E =>
      obtain ⟨e1, e2⟩ := PX.inr hp
      subst e1; subst e2
      exact ⟨_, [23, 24, 0, 1, 2, 3, 25, 26, 4, 5, 6, 7, 8, 9, 10, 11, 12, 13, 14, 15, 16, 17, 18, 19, 20, 21, 22], PX.er, rfl, rfl⟩
def gX_isSame (N K : Nat) (S : CS) (p0 : Int32) (p1 : Int32) : Option ((Int32 × CS) ⊕ String) := if p0 = p1 then (fX5_isSameOwn N K ((S.1 (ix 3 p0)).1) ((S.1 (ix 3 p0)).2) p0).map (fun o => match o with | .inl z => .inl (z, (S.1, S.2.1, S.2.2.1, S.2.2.2.1, S.2.2.2.2.1, S.2.2.2.2.2.1, S.2.2.2.2.2.2)) | .inr E => .inr E) else (fX5_isSame N K ((S.1 (jx 3 p0 p1)).1) ((S.1 (jx 3 p0 p1)).2) ((S.1 (kx 3 p0 p1)).1) ((S.1 (kx 3 p0 p1)).2) p0 p1).map (fun o => match o with | .inl z => .inl (z, (S.1, S.2.1, S.2.2.1, S.2.2.2.1, S.2.2.2.2.1, S.2.2.2.2.2.1, S.2.2.2.2.2.2)) | .inr E => .inr E)
set_option maxHeartbeats 4000000 in
set_option maxRecDepth 100000 in
theorem ogX_isSame {N K : Nat} {r : Nat → Nat} {S : CS} {p0 : Int32} {p1 : Int32} {x : (Int32 × CS) ⊕ String} (hE : gX_isSame N K S p0 p1 = some x) : OkM yX5_isSame (.code yX5_isSame cX5_isSame 5 (some .boolean)) (9) 2 12 [.ref (r 0), .int p0, .int p1] (WX r S) ((PX (U := Int32 × CS) (fun z _ => some (.int z.1)) (fun z _ => WX r z.2) (WX r S)) x) := by
  unfold gX_isSame at hE
  by_cases hpq : p0 = p1
  · subst hpq
    rw [if_pos rfl] at hE
    obtain ⟨x0, h0, h1⟩ := Option.map_eq_some_iff.mp hE
    subst h1
    clear hE
    rcases lt3 (ix_lt (n := 3) (p := p0) (by decide)) with e | e | e
    · rw [e] at h0
      try rw [e]
      refine ok_fr (wc := [(r 0, .inr (7, [.ref (r 1), .ref (r 8), .ref (r 15), .ref (r 20), .ref (r 21), .ref (r 23), .ref (r 25)])), (r 1, .inl (1, 3, .inr (.inr (.inr (.inr (rf3 r 2 2 3)))))), (r 2, .inr (4, [.ref (r 3), .int (S.1 0).1])), (r 3, .inl (0, 2646, .inl (S.1 0).2))]) (wr := [(r 4, .inr (4, [.ref (r 5), .int (S.1 1).1])), (r 5, .inl (0, 2646, .inl (S.1 1).2)), (r 6, .inr (4, [.ref (r 7), .int (S.1 2).1])), (r 7, .inl (0, 2646, .inl (S.1 2).2)), (r 8, .inl (2, 3, .inr (.inr (.inr (.inr (rf3 r 9 2 3)))))), (r 9, .inr (3, [.int (S.2.1 0).1, .ref (r 10), .int (S.2.1 0).2.1])), (r 10, .inl (0, 21, .inl (S.2.1 0).2.2)), (r 11, .inr (3, [.int (S.2.1 1).1, .ref (r 12), .int (S.2.1 1).2.1])), (r 12, .inl (0, 21, .inl (S.2.1 1).2.2)), (r 13, .inr (3, [.int (S.2.1 2).1, .ref (r 14), .int (S.2.1 2).2.1])), (r 14, .inl (0, 21, .inl (S.2.1 2).2.2)), (r 15, .inl (3, 2, .inr (.inr (.inr (.inr (rf3 r 16 2 2)))))), (r 16, .inr (6, [.ref (r 17)])), (r 17, .inl (0, 21, .inl (S.2.2.1 0))), (r 18, .inr (6, [.ref (r 19)])), (r 19, .inl (0, 21, .inl (S.2.2.1 1))), (r 20, .inr (2, [.int (S.2.2.2.1 0), .int (S.2.2.2.1 1), .int (S.2.2.2.1 2), .int (S.2.2.2.1 3), .int (S.2.2.2.1 4), .int (S.2.2.2.1 5)])), (r 21, .inr (5, [.ref (r 22)])), (r 22, .inl (0, 21, .inl S.2.2.2.2.1)), (r 23, .inr (6, [.ref (r 24)])), (r 24, .inl (0, 21, .inl S.2.2.2.2.2.1)), (r 25, .inr (6, [.ref (r 26)])), (r 26, .inl (0, 21, .inl S.2.2.2.2.2.2))]) [0, 1, 2, 3] [4, 5, 6, 7, 8, 9, 10, 11, 12, 13, 14, 15, 16, 17, 18, 19, 20, 21, 22, 23, 24, 25, 26] (ok_X5_isSameOwn (x := r 0) (M := r 1) (L := r 8) (Dk := r 15) (c := r 20) (se := r 21) (wk := r 23) (sp := r 25) (q := r 2) (a := r 3) (mf := rf3 r 2 2 3) (fun h9 => by have h8 := ix_in h9; rw [e] at h8; exact (congrArg (rf3 r 2 2 3) h8.symm).trans rfl) h0) rfl rfl rfl rfl (by decide) ?_
      rintro o w hp
      cases x0 with
      | inl z =>
        obtain ⟨g, e1, e2⟩ := PX.inl hp
        subst e1; subst e2
        exact ⟨_, [23, 24, 25, 26, 0, 1, 2, 3, 4, 5, 6, 7, 8, 9, 10, 11, 12, 13, 14, 15, 16, 17, 18, 19, 20, 21, 22], PX.mk g rfl rfl, rfl, rfl⟩
      | inr E =>
        obtain ⟨e1, e2⟩ := PX.inr hp
        subst e1; subst e2
        exact ⟨_, [23, 24, 25, 26, 0, 1, 2, 3, 4, 5, 6, 7, 8, 9, 10, 11, 12, 13, 14, 15, 16, 17, 18, 19, 20, 21, 22], PX.er, rfl, rfl⟩
    · rw [e] at h0
      try rw [e]
      refine ok_fr (wc := [(r 0, .inr (7, [.ref (r 1), .ref (r 8), .ref (r 15), .ref (r 20), .ref (r 21), .ref (r 23), .ref (r 25)])), (r 1, .inl (1, 3, .inr (.inr (.inr (.inr (rf3 r 2 2 3)))))), (r 4, .inr (4, [.ref (r 5), .int (S.1 1).1])), (r 5, .inl (0, 2646, .inl (S.1 1).2))]) (wr := [(r 2, .inr (4, [.ref (r 3), .int (S.1 0).1])), (r 3, .inl (0, 2646, .inl (S.1 0).2)), (r 6, .inr (4, [.ref (r 7), .int (S.1 2).1])), (r 7, .inl (0, 2646, .inl (S.1 2).2)), (r 8, .inl (2, 3, .inr (.inr (.inr (.inr (rf3 r 9 2 3)))))), (r 9, .inr (3, [.int (S.2.1 0).1, .ref (r 10), .int (S.2.1 0).2.1])), (r 10, .inl (0, 21, .inl (S.2.1 0).2.2)), (r 11, .inr (3, [.int (S.2.1 1).1, .ref (r 12), .int (S.2.1 1).2.1])), (r 12, .inl (0, 21, .inl (S.2.1 1).2.2)), (r 13, .inr (3, [.int (S.2.1 2).1, .ref (r 14), .int (S.2.1 2).2.1])), (r 14, .inl (0, 21, .inl (S.2.1 2).2.2)), (r 15, .inl (3, 2, .inr (.inr (.inr (.inr (rf3 r 16 2 2)))))), (r 16, .inr (6, [.ref (r 17)])), (r 17, .inl (0, 21, .inl (S.2.2.1 0))), (r 18, .inr (6, [.ref (r 19)])), (r 19, .inl (0, 21, .inl (S.2.2.1 1))), (r 20, .inr (2, [.int (S.2.2.2.1 0), .int (S.2.2.2.1 1), .int (S.2.2.2.1 2), .int (S.2.2.2.1 3), .int (S.2.2.2.1 4), .int (S.2.2.2.1 5)])), (r 21, .inr (5, [.ref (r 22)])), (r 22, .inl (0, 21, .inl S.2.2.2.2.1)), (r 23, .inr (6, [.ref (r 24)])), (r 24, .inl (0, 21, .inl S.2.2.2.2.2.1)), (r 25, .inr (6, [.ref (r 26)])), (r 26, .inl (0, 21, .inl S.2.2.2.2.2.2))]) [0, 1, 4, 5] [2, 3, 6, 7, 8, 9, 10, 11, 12, 13, 14, 15, 16, 17, 18, 19, 20, 21, 22, 23, 24, 25, 26] (ok_X5_isSameOwn (x := r 0) (M := r 1) (L := r 8) (Dk := r 15) (c := r 20) (se := r 21) (wk := r 23) (sp := r 25) (q := r 4) (a := r 5) (mf := rf3 r 2 2 3) (fun h9 => by have h8 := ix_in h9; rw [e] at h8; exact (congrArg (rf3 r 2 2 3) h8.symm).trans rfl) h0) rfl rfl rfl rfl (by decide) ?_
      rintro o w hp
      cases x0 with
      | inl z =>
        obtain ⟨g, e1, e2⟩ := PX.inl hp
        subst e1; subst e2
        exact ⟨_, [23, 24, 0, 1, 25, 26, 2, 3, 4, 5, 6, 7, 8, 9, 10, 11, 12, 13, 14, 15, 16, 17, 18, 19, 20, 21, 22], PX.mk g rfl rfl, rfl, rfl⟩
      | inr E =>
        obtain ⟨e1, e2⟩ := PX.inr hp
        subst e1; subst e2
        exact ⟨_, [23, 24, 0, 1, 25, 26, 2, 3, 4, 5, 6, 7, 8, 9, 10, 11, 12, 13, 14, 15, 16, 17, 18, 19, 20, 21, 22], PX.er, rfl, rfl⟩
    · rw [e] at h0
      try rw [e]
      refine ok_fr (wc := [(r 0, .inr (7, [.ref (r 1), .ref (r 8), .ref (r 15), .ref (r 20), .ref (r 21), .ref (r 23), .ref (r 25)])), (r 1, .inl (1, 3, .inr (.inr (.inr (.inr (rf3 r 2 2 3)))))), (r 6, .inr (4, [.ref (r 7), .int (S.1 2).1])), (r 7, .inl (0, 2646, .inl (S.1 2).2))]) (wr := [(r 2, .inr (4, [.ref (r 3), .int (S.1 0).1])), (r 3, .inl (0, 2646, .inl (S.1 0).2)), (r 4, .inr (4, [.ref (r 5), .int (S.1 1).1])), (r 5, .inl (0, 2646, .inl (S.1 1).2)), (r 8, .inl (2, 3, .inr (.inr (.inr (.inr (rf3 r 9 2 3)))))), (r 9, .inr (3, [.int (S.2.1 0).1, .ref (r 10), .int (S.2.1 0).2.1])), (r 10, .inl (0, 21, .inl (S.2.1 0).2.2)), (r 11, .inr (3, [.int (S.2.1 1).1, .ref (r 12), .int (S.2.1 1).2.1])), (r 12, .inl (0, 21, .inl (S.2.1 1).2.2)), (r 13, .inr (3, [.int (S.2.1 2).1, .ref (r 14), .int (S.2.1 2).2.1])), (r 14, .inl (0, 21, .inl (S.2.1 2).2.2)), (r 15, .inl (3, 2, .inr (.inr (.inr (.inr (rf3 r 16 2 2)))))), (r 16, .inr (6, [.ref (r 17)])), (r 17, .inl (0, 21, .inl (S.2.2.1 0))), (r 18, .inr (6, [.ref (r 19)])), (r 19, .inl (0, 21, .inl (S.2.2.1 1))), (r 20, .inr (2, [.int (S.2.2.2.1 0), .int (S.2.2.2.1 1), .int (S.2.2.2.1 2), .int (S.2.2.2.1 3), .int (S.2.2.2.1 4), .int (S.2.2.2.1 5)])), (r 21, .inr (5, [.ref (r 22)])), (r 22, .inl (0, 21, .inl S.2.2.2.2.1)), (r 23, .inr (6, [.ref (r 24)])), (r 24, .inl (0, 21, .inl S.2.2.2.2.2.1)), (r 25, .inr (6, [.ref (r 26)])), (r 26, .inl (0, 21, .inl S.2.2.2.2.2.2))]) [0, 1, 6, 7] [2, 3, 4, 5, 8, 9, 10, 11, 12, 13, 14, 15, 16, 17, 18, 19, 20, 21, 22, 23, 24, 25, 26] (ok_X5_isSameOwn (x := r 0) (M := r 1) (L := r 8) (Dk := r 15) (c := r 20) (se := r 21) (wk := r 23) (sp := r 25) (q := r 6) (a := r 7) (mf := rf3 r 2 2 3) (fun h9 => by have h8 := ix_in h9; rw [e] at h8; exact (congrArg (rf3 r 2 2 3) h8.symm).trans rfl) h0) rfl rfl rfl rfl (by decide) ?_
      rintro o w hp
      cases x0 with
      | inl z =>
        obtain ⟨g, e1, e2⟩ := PX.inl hp
        subst e1; subst e2
        exact ⟨_, [23, 24, 0, 1, 2, 3, 25, 26, 4, 5, 6, 7, 8, 9, 10, 11, 12, 13, 14, 15, 16, 17, 18, 19, 20, 21, 22], PX.mk g rfl rfl, rfl, rfl⟩
      | inr E =>
        obtain ⟨e1, e2⟩ := PX.inr hp
        subst e1; subst e2
        exact ⟨_, [23, 24, 0, 1, 2, 3, 25, 26, 4, 5, 6, 7, 8, 9, 10, 11, 12, 13, 14, 15, 16, 17, 18, 19, 20, 21, 22], PX.er, rfl, rfl⟩
  · rw [if_neg hpq] at hE
    obtain ⟨x0, h0, h1⟩ := Option.map_eq_some_iff.mp hE
    subst h1
    clear hE
    rcases jk3 hpq with ⟨e, f⟩ | ⟨e, f⟩ | ⟨e, f⟩ | ⟨e, f⟩ | ⟨e, f⟩ | ⟨e, f⟩
    · simp only [e, f] at h0 ⊢
      refine ok_fr (wc := [(r 0, .inr (7, [.ref (r 1), .ref (r 8), .ref (r 15), .ref (r 20), .ref (r 21), .ref (r 23), .ref (r 25)])), (r 1, .inl (1, 3, .inr (.inr (.inr (.inr (rf3 r 2 2 3)))))), (r 2, .inr (4, [.ref (r 3), .int (S.1 0).1])), (r 3, .inl (0, 2646, .inl (S.1 0).2)), (r 4, .inr (4, [.ref (r 5), .int (S.1 1).1])), (r 5, .inl (0, 2646, .inl (S.1 1).2))]) (wr := [(r 6, .inr (4, [.ref (r 7), .int (S.1 2).1])), (r 7, .inl (0, 2646, .inl (S.1 2).2)), (r 8, .inl (2, 3, .inr (.inr (.inr (.inr (rf3 r 9 2 3)))))), (r 9, .inr (3, [.int (S.2.1 0).1, .ref (r 10), .int (S.2.1 0).2.1])), (r 10, .inl (0, 21, .inl (S.2.1 0).2.2)), (r 11, .inr (3, [.int (S.2.1 1).1, .ref (r 12), .int (S.2.1 1).2.1])), (r 12, .inl (0, 21, .inl (S.2.1 1).2.2)), (r 13, .inr (3, [.int (S.2.1 2).1, .ref (r 14), .int (S.2.1 2).2.1])), (r 14, .inl (0, 21, .inl (S.2.1 2).2.2)), (r 15, .inl (3, 2, .inr (.inr (.inr (.inr (rf3 r 16 2 2)))))), (r 16, .inr (6, [.ref (r 17)])), (r 17, .inl (0, 21, .inl (S.2.2.1 0))), (r 18, .inr (6, [.ref (r 19)])), (r 19, .inl (0, 21, .inl (S.2.2.1 1))), (r 20, .inr (2, [.int (S.2.2.2.1 0), .int (S.2.2.2.1 1), .int (S.2.2.2.1 2), .int (S.2.2.2.1 3), .int (S.2.2.2.1 4), .int (S.2.2.2.1 5)])), (r 21, .inr (5, [.ref (r 22)])), (r 22, .inl (0, 21, .inl S.2.2.2.2.1)), (r 23, .inr (6, [.ref (r 24)])), (r 24, .inl (0, 21, .inl S.2.2.2.2.2.1)), (r 25, .inr (6, [.ref (r 26)])), (r 26, .inl (0, 21, .inl S.2.2.2.2.2.2))]) [0, 1, 2, 3, 4, 5] [6, 7, 8, 9, 10, 11, 12, 13, 14, 15, 16, 17, 18, 19, 20, 21, 22, 23, 24, 25, 26] (ok_X5_isSame (x := r 0) (M := r 1) (L := r 8) (Dk := r 15) (c := r 20) (se := r 21) (wk := r 23) (sp := r 25) (q := r 2) (a := r 3) (q2 := r 4) (a2 := r 5) (mf := rf3 r 2 2 3) (fun h9 => by have h8 := jx_in (q := p1) h9; rw [e] at h8; exact (congrArg (rf3 r 2 2 3) h8.symm).trans rfl) (fun h9 => by have h8 := kx_in (p := p0) h9; rw [f] at h8; exact (congrArg (rf3 r 2 2 3) h8.symm).trans rfl) h0) rfl rfl rfl rfl (by decide) ?_
      rintro o w hp
      cases x0 with
      | inl z =>
        obtain ⟨g, e1, e2⟩ := PX.inl hp
        subst e1; subst e2
        exact ⟨_, [21, 22, 23, 24, 25, 26, 0, 1, 2, 3, 4, 5, 6, 7, 8, 9, 10, 11, 12, 13, 14, 15, 16, 17, 18, 19, 20], PX.mk g rfl rfl, rfl, rfl⟩
      | inr E =>
        obtain ⟨e1, e2⟩ := PX.inr hp
        subst e1; subst e2
        exact ⟨_, [21, 22, 23, 24, 25, 26, 0, 1, 2, 3, 4, 5, 6, 7, 8, 9, 10, 11, 12, 13, 14, 15, 16, 17, 18, 19, 20], PX.er, rfl, rfl⟩
    · simp only [e, f] at h0 ⊢
      refine ok_fr (wc := [(r 0, .inr (7, [.ref (r 1), .ref (r 8), .ref (r 15), .ref (r 20), .ref (r 21), .ref (r 23), .ref (r 25)])), (r 1, .inl (1, 3, .inr (.inr (.inr (.inr (rf3 r 2 2 3)))))), (r 2, .inr (4, [.ref (r 3), .int (S.1 0).1])), (r 3, .inl (0, 2646, .inl (S.1 0).2)), (r 6, .inr (4, [.ref (r 7), .int (S.1 2).1])), (r 7, .inl (0, 2646, .inl (S.1 2).2))]) (wr := [(r 4, .inr (4, [.ref (r 5), .int (S.1 1).1])), (r 5, .inl (0, 2646, .inl (S.1 1).2)), (r 8, .inl (2, 3, .inr (.inr (.inr (.inr (rf3 r 9 2 3)))))), (r 9, .inr (3, [.int (S.2.1 0).1, .ref (r 10), .int (S.2.1 0).2.1])), (r 10, .inl (0, 21, .inl (S.2.1 0).2.2)), (r 11, .inr (3, [.int (S.2.1 1).1, .ref (r 12), .int (S.2.1 1).2.1])), (r 12, .inl (0, 21, .inl (S.2.1 1).2.2)), (r 13, .inr (3, [.int (S.2.1 2).1, .ref (r 14), .int (S.2.1 2).2.1])), (r 14, .inl (0, 21, .inl (S.2.1 2).2.2)), (r 15, .inl (3, 2, .inr (.inr (.inr (.inr (rf3 r 16 2 2)))))), (r 16, .inr (6, [.ref (r 17)])), (r 17, .inl (0, 21, .inl (S.2.2.1 0))), (r 18, .inr (6, [.ref (r 19)])), (r 19, .inl (0, 21, .inl (S.2.2.1 1))), (r 20, .inr (2, [.int (S.2.2.2.1 0), .int (S.2.2.2.1 1), .int (S.2.2.2.1 2), .int (S.2.2.2.1 3), .int (S.2.2.2.1 4), .int (S.2.2.2.1 5)])), (r 21, .inr (5, [.ref (r 22)])), (r 22, .inl (0, 21, .inl S.2.2.2.2.1)), (r 23, .inr (6, [.ref (r 24)])), (r 24, .inl (0, 21, .inl S.2.2.2.2.2.1)), (r 25, .inr (6, [.ref (r 26)])), (r 26, .inl (0, 21, .inl S.2.2.2.2.2.2))]) [0, 1, 2, 3, 6, 7] [4, 5, 8, 9, 10, 11, 12, 13, 14, 15, 16, 17, 18, 19, 20, 21, 22, 23, 24, 25, 26] (ok_X5_isSame (x := r 0) (M := r 1) (L := r 8) (Dk := r 15) (c := r 20) (se := r 21) (wk := r 23) (sp := r 25) (q := r 2) (a := r 3) (q2 := r 6) (a2 := r 7) (mf := rf3 r 2 2 3) (fun h9 => by have h8 := jx_in (q := p1) h9; rw [e] at h8; exact (congrArg (rf3 r 2 2 3) h8.symm).trans rfl) (fun h9 => by have h8 := kx_in (p := p0) h9; rw [f] at h8; exact (congrArg (rf3 r 2 2 3) h8.symm).trans rfl) h0) rfl rfl rfl rfl (by decide) ?_
      rintro o w hp
      cases x0 with
      | inl z =>
        obtain ⟨g, e1, e2⟩ := PX.inl hp
        subst e1; subst e2
        exact ⟨_, [21, 22, 23, 24, 0, 1, 25, 26, 2, 3, 4, 5, 6, 7, 8, 9, 10, 11, 12, 13, 14, 15, 16, 17, 18, 19, 20], PX.mk g rfl rfl, rfl, rfl⟩
      | inr E =>
        obtain ⟨e1, e2⟩ := PX.inr hp
        subst e1; subst e2
        exact ⟨_, [21, 22, 23, 24, 0, 1, 25, 26, 2, 3, 4, 5, 6, 7, 8, 9, 10, 11, 12, 13, 14, 15, 16, 17, 18, 19, 20], PX.er, rfl, rfl⟩
    · simp only [e, f] at h0 ⊢
      refine ok_fr (wc := [(r 0, .inr (7, [.ref (r 1), .ref (r 8), .ref (r 15), .ref (r 20), .ref (r 21), .ref (r 23), .ref (r 25)])), (r 1, .inl (1, 3, .inr (.inr (.inr (.inr (rf3 r 2 2 3)))))), (r 4, .inr (4, [.ref (r 5), .int (S.1 1).1])), (r 5, .inl (0, 2646, .inl (S.1 1).2)), (r 2, .inr (4, [.ref (r 3), .int (S.1 0).1])), (r 3, .inl (0, 2646, .inl (S.1 0).2))]) (wr := [(r 6, .inr (4, [.ref (r 7), .int (S.1 2).1])), (r 7, .inl (0, 2646, .inl (S.1 2).2)), (r 8, .inl (2, 3, .inr (.inr (.inr (.inr (rf3 r 9 2 3)))))), (r 9, .inr (3, [.int (S.2.1 0).1, .ref (r 10), .int (S.2.1 0).2.1])), (r 10, .inl (0, 21, .inl (S.2.1 0).2.2)), (r 11, .inr (3, [.int (S.2.1 1).1, .ref (r 12), .int (S.2.1 1).2.1])), (r 12, .inl (0, 21, .inl (S.2.1 1).2.2)), (r 13, .inr (3, [.int (S.2.1 2).1, .ref (r 14), .int (S.2.1 2).2.1])), (r 14, .inl (0, 21, .inl (S.2.1 2).2.2)), (r 15, .inl (3, 2, .inr (.inr (.inr (.inr (rf3 r 16 2 2)))))), (r 16, .inr (6, [.ref (r 17)])), (r 17, .inl (0, 21, .inl (S.2.2.1 0))), (r 18, .inr (6, [.ref (r 19)])), (r 19, .inl (0, 21, .inl (S.2.2.1 1))), (r 20, .inr (2, [.int (S.2.2.2.1 0), .int (S.2.2.2.1 1), .int (S.2.2.2.1 2), .int (S.2.2.2.1 3), .int (S.2.2.2.1 4), .int (S.2.2.2.1 5)])), (r 21, .inr (5, [.ref (r 22)])), (r 22, .inl (0, 21, .inl S.2.2.2.2.1)), (r 23, .inr (6, [.ref (r 24)])), (r 24, .inl (0, 21, .inl S.2.2.2.2.2.1)), (r 25, .inr (6, [.ref (r 26)])), (r 26, .inl (0, 21, .inl S.2.2.2.2.2.2))]) [0, 1, 4, 5, 2, 3] [6, 7, 8, 9, 10, 11, 12, 13, 14, 15, 16, 17, 18, 19, 20, 21, 22, 23, 24, 25, 26] (ok_X5_isSame (x := r 0) (M := r 1) (L := r 8) (Dk := r 15) (c := r 20) (se := r 21) (wk := r 23) (sp := r 25) (q := r 4) (a := r 5) (q2 := r 2) (a2 := r 3) (mf := rf3 r 2 2 3) (fun h9 => by have h8 := jx_in (q := p1) h9; rw [e] at h8; exact (congrArg (rf3 r 2 2 3) h8.symm).trans rfl) (fun h9 => by have h8 := kx_in (p := p0) h9; rw [f] at h8; exact (congrArg (rf3 r 2 2 3) h8.symm).trans rfl) h0) rfl rfl rfl rfl (by decide) ?_
      rintro o w hp
      cases x0 with
      | inl z =>
        obtain ⟨g, e1, e2⟩ := PX.inl hp
        subst e1; subst e2
        exact ⟨_, [21, 22, 25, 26, 23, 24, 0, 1, 2, 3, 4, 5, 6, 7, 8, 9, 10, 11, 12, 13, 14, 15, 16, 17, 18, 19, 20], PX.mk g rfl rfl, rfl, rfl⟩
      | inr E =>
        obtain ⟨e1, e2⟩ := PX.inr hp
        subst e1; subst e2
        exact ⟨_, [21, 22, 25, 26, 23, 24, 0, 1, 2, 3, 4, 5, 6, 7, 8, 9, 10, 11, 12, 13, 14, 15, 16, 17, 18, 19, 20], PX.er, rfl, rfl⟩
    · simp only [e, f] at h0 ⊢
      refine ok_fr (wc := [(r 0, .inr (7, [.ref (r 1), .ref (r 8), .ref (r 15), .ref (r 20), .ref (r 21), .ref (r 23), .ref (r 25)])), (r 1, .inl (1, 3, .inr (.inr (.inr (.inr (rf3 r 2 2 3)))))), (r 4, .inr (4, [.ref (r 5), .int (S.1 1).1])), (r 5, .inl (0, 2646, .inl (S.1 1).2)), (r 6, .inr (4, [.ref (r 7), .int (S.1 2).1])), (r 7, .inl (0, 2646, .inl (S.1 2).2))]) (wr := [(r 2, .inr (4, [.ref (r 3), .int (S.1 0).1])), (r 3, .inl (0, 2646, .inl (S.1 0).2)), (r 8, .inl (2, 3, .inr (.inr (.inr (.inr (rf3 r 9 2 3)))))), (r 9, .inr (3, [.int (S.2.1 0).1, .ref (r 10), .int (S.2.1 0).2.1])), (r 10, .inl (0, 21, .inl (S.2.1 0).2.2)), (r 11, .inr (3, [.int (S.2.1 1).1, .ref (r 12), .int (S.2.1 1).2.1])), (r 12, .inl (0, 21, .inl (S.2.1 1).2.2)), (r 13, .inr (3, [.int (S.2.1 2).1, .ref (r 14), .int (S.2.1 2).2.1])), (r 14, .inl (0, 21, .inl (S.2.1 2).2.2)), (r 15, .inl (3, 2, .inr (.inr (.inr (.inr (rf3 r 16 2 2)))))), (r 16, .inr (6, [.ref (r 17)])), (r 17, .inl (0, 21, .inl (S.2.2.1 0))), (r 18, .inr (6, [.ref (r 19)])), (r 19, .inl (0, 21, .inl (S.2.2.1 1))), (r 20, .inr (2, [.int (S.2.2.2.1 0), .int (S.2.2.2.1 1), .int (S.2.2.2.1 2), .int (S.2.2.2.1 3), .int (S.2.2.2.1 4), .int (S.2.2.2.1 5)])), (r 21, .inr (5, [.ref (r 22)])), (r 22, .inl (0, 21, .inl S.2.2.2.2.1)), (r 23, .inr (6, [.ref (r 24)])), (r 24, .inl (0, 21, .inl S.2.2.2.2.2.1)), (r 25, .inr (6, [.ref (r 26)])), (r 26, .inl (0, 21, .inl S.2.2.2.2.2.2))]) [0, 1, 4, 5, 6, 7] [2, 3, 8, 9, 10, 11, 12, 13, 14, 15, 16, 17, 18, 19, 20, 21, 22, 23, 24, 25, 26] (ok_X5_isSame (x := r 0) (M := r 1) (L := r 8) (Dk := r 15) (c := r 20) (se := r 21) (wk := r 23) (sp := r 25) (q := r 4) (a := r 5) (q2 := r 6) (a2 := r 7) (mf := rf3 r 2 2 3) (fun h9 => by have h8 := jx_in (q := p1) h9; rw [e] at h8; exact (congrArg (rf3 r 2 2 3) h8.symm).trans rfl) (fun h9 => by have h8 := kx_in (p := p0) h9; rw [f] at h8; exact (congrArg (rf3 r 2 2 3) h8.symm).trans rfl) h0) rfl rfl rfl rfl (by decide) ?_
      rintro o w hp
      cases x0 with
      | inl z =>
        obtain ⟨g, e1, e2⟩ := PX.inl hp
        subst e1; subst e2
        exact ⟨_, [21, 22, 0, 1, 23, 24, 25, 26, 2, 3, 4, 5, 6, 7, 8, 9, 10, 11, 12, 13, 14, 15, 16, 17, 18, 19, 20], PX.mk g rfl rfl, rfl, rfl⟩
      | inr E =>
        obtain ⟨e1, e2⟩ := PX.inr hp
        subst e1; subst e2
        exact ⟨_, [21, 22, 0, 1, 23, 24, 25, 26, 2, 3, 4, 5, 6, 7, 8, 9, 10, 11, 12, 13, 14, 15, 16, 17, 18, 19, 20], PX.er, rfl, rfl⟩
    · simp only [e, f] at h0 ⊢
      refine ok_fr (wc := [(r 0, .inr (7, [.ref (r 1), .ref (r 8), .ref (r 15), .ref (r 20), .ref (r 21), .ref (r 23), .ref (r 25)])), (r 1, .inl (1, 3, .inr (.inr (.inr (.inr (rf3 r 2 2 3)))))), (r 6, .inr (4, [.ref (r 7), .int (S.1 2).1])), (r 7, .inl (0, 2646, .inl (S.1 2).2)), (r 2, .inr (4, [.ref (r 3), .int (S.1 0).1])), (r 3, .inl (0, 2646, .inl (S.1 0).2))]) (wr := [(r 4, .inr (4, [.ref (r 5), .int (S.1 1).1])), (r 5, .inl (0, 2646, .inl (S.1 1).2)), (r 8, .inl (2, 3, .inr (.inr (.inr (.inr (rf3 r 9 2 3)))))), (r 9, .inr (3, [.int (S.2.1 0).1, .ref (r 10), .int (S.2.1 0).2.1])), (r 10, .inl (0, 21, .inl (S.2.1 0).2.2)), (r 11, .inr (3, [.int (S.2.1 1).1, .ref (r 12), .int (S.2.1 1).2.1])), (r 12, .inl (0, 21, .inl (S.2.1 1).2.2)), (r 13, .inr (3, [.int (S.2.1 2).1, .ref (r 14), .int (S.2.1 2).2.1])), (r 14, .inl (0, 21, .inl (S.2.1 2).2.2)), (r 15, .inl (3, 2, .inr (.inr (.inr (.inr (rf3 r 16 2 2)))))), (r 16, .inr (6, [.ref (r 17)])), (r 17, .inl (0, 21, .inl (S.2.2.1 0))), (r 18, .inr (6, [.ref (r 19)])), (r 19, .inl (0, 21, .inl (S.2.2.1 1))), (r 20, .inr (2, [.int (S.2.2.2.1 0), .int (S.2.2.2.1 1), .int (S.2.2.2.1 2), .int (S.2.2.2.1 3), .int (S.2.2.2.1 4), .int (S.2.2.2.1 5)])), (r 21, .inr (5, [.ref (r 22)])), (r 22, .inl (0, 21, .inl S.2.2.2.2.1)), (r 23, .inr (6, [.ref (r 24)])), (r 24, .inl (0, 21, .inl S.2.2.2.2.2.1)), (r 25, .inr (6, [.ref (r 26)])), (r 26, .inl (0, 21, .inl S.2.2.2.2.2.2))]) [0, 1, 6, 7, 2, 3] [4, 5, 8, 9, 10, 11, 12, 13, 14, 15, 16, 17, 18, 19, 20, 21, 22, 23, 24, 25, 26] (ok_X5_isSame (x := r 0) (M := r 1) (L := r 8) (Dk := r 15) (c := r 20) (se := r 21) (wk := r 23) (sp := r 25) (q := r 6) (a := r 7) (q2 := r 2) (a2 := r 3) (mf := rf3 r 2 2 3) (fun h9 => by have h8 := jx_in (q := p1) h9; rw [e] at h8; exact (congrArg (rf3 r 2 2 3) h8.symm).trans rfl) (fun h9 => by have h8 := kx_in (p := p0) h9; rw [f] at h8; exact (congrArg (rf3 r 2 2 3) h8.symm).trans rfl) h0) rfl rfl rfl rfl (by decide) ?_
      rintro o w hp
      cases x0 with
      | inl z =>
        obtain ⟨g, e1, e2⟩ := PX.inl hp
        subst e1; subst e2
        exact ⟨_, [21, 22, 25, 26, 0, 1, 23, 24, 2, 3, 4, 5, 6, 7, 8, 9, 10, 11, 12, 13, 14, 15, 16, 17, 18, 19, 20], PX.mk g rfl rfl, rfl, rfl⟩
      | inr E =>
        obtain ⟨e1, e2⟩ := PX.inr hp
        subst e1; subst e2
        exact ⟨_, [21, 22, 25, 26, 0, 1, 23, 24, 2, 3, 4, 5, 6, 7, 8, 9, 10, 11, 12, 13, 14, 15, 16, 17, 18, 19, 20], PX.er, rfl, rfl⟩
    · simp only [e, f] at h0 ⊢
      refine ok_fr (wc := [(r 0, .inr (7, [.ref (r 1), .ref (r 8), .ref (r 15), .ref (r 20), .ref (r 21), .ref (r 23), .ref (r 25)])), (r 1, .inl (1, 3, .inr (.inr (.inr (.inr (rf3 r 2 2 3)))))), (r 6, .inr (4, [.ref (r 7), .int (S.1 2).1])), (r 7, .inl (0, 2646, .inl (S.1 2).2)), (r 4, .inr (4, [.ref (r 5), .int (S.1 1).1])), (r 5, .inl (0, 2646, .inl (S.1 1).2))]) (wr := [(r 2, .inr (4, [.ref (r 3), .int (S.1 0).1])), (r 3, .inl (0, 2646, .inl (S.1 0).2)), (r 8, .inl (2, 3, .inr (.inr (.inr (.inr (rf3 r 9 2 3)))))), (r 9, .inr (3, [.int (S.2.1 0).1, .ref (r 10), .int (S.2.1 0).2.1])), (r 10, .inl (0, 21, .inl (S.2.1 0).2.2)), (r 11, .inr (3, [.int (S.2.1 1).1, .ref (r 12), .int (S.2.1 1).2.1])), (r 12, .inl (0, 21, .inl (S.2.1 1).2.2)), (r 13, .inr (3, [.int (S.2.1 2).1, .ref (r 14), .int (S.2.1 2).2.1])), (r 14, .inl (0, 21, .inl (S.2.1 2).2.2)), (r 15, .inl (3, 2, .inr (.inr (.inr (.inr (rf3 r 16 2 2)))))), (r 16, .inr (6, [.ref (r 17)])), (r 17, .inl (0, 21, .inl (S.2.2.1 0))), (r 18, .inr (6, [.ref (r 19)])), (r 19, .inl (0, 21, .inl (S.2.2.1 1))), (r 20, .inr (2, [.int (S.2.2.2.1 0), .int (S.2.2.2.1 1), .int (S.2.2.2.1 2), .int (S.2.2.2.1 3), .int (S.2.2.2.1 4), .int (S.2.2.2.1 5)])), (r 21, .inr (5, [.ref (r 22)])), (r 22, .inl (0, 21, .inl S.2.2.2.2.1)), (r 23, .inr (6, [.ref (r 24)])), (r 24, .inl (0, 21, .inl S.2.2.2.2.2.1)), (r 25, .inr (6, [.ref (r 26)])), (r 26, .inl (0, 21, .inl S.2.2.2.2.2.2))]) [0, 1, 6, 7, 4, 5] [2, 3, 8, 9, 10, 11, 12, 13, 14, 15, 16, 17, 18, 19, 20, 21, 22, 23, 24, 25, 26] (ok_X5_isSame (x := r 0) (M := r 1) (L := r 8) (Dk := r 15) (c := r 20) (se := r 21) (wk := r 23) (sp := r 25) (q := r 6) (a := r 7) (q2 := r 4) (a2 := r 5) (mf := rf3 r 2 2 3) (fun h9 => by have h8 := jx_in (q := p1) h9; rw [e] at h8; exact (congrArg (rf3 r 2 2 3) h8.symm).trans rfl) (fun h9 => by have h8 := kx_in (p := p0) h9; rw [f] at h8; exact (congrArg (rf3 r 2 2 3) h8.symm).trans rfl) h0) rfl rfl rfl rfl (by decide) ?_
      rintro o w hp
      cases x0 with
      | inl z =>
        obtain ⟨g, e1, e2⟩ := PX.inl hp
        subst e1; subst e2
        exact ⟨_, [21, 22, 0, 1, 25, 26, 23, 24, 2, 3, 4, 5, 6, 7, 8, 9, 10, 11, 12, 13, 14, 15, 16, 17, 18, 19, 20], PX.mk g rfl rfl, rfl, rfl⟩
      | inr E =>
        obtain ⟨e1, e2⟩ := PX.inr hp
        subst e1; subst e2
        exact ⟨_, [21, 22, 0, 1, 25, 26, 23, 24, 2, 3, 4, 5, 6, 7, 8, 9, 10, 11, 12, 13, 14, 15, 16, 17, 18, 19, 20], PX.er, rfl, rfl⟩
def gX_walk (N K : Nat) (S : CS) (p0 : Int32) (p1 : Int32) (p2 : Int32) : Option ((Int32 × CS) ⊕ String) := (fX5_walk N K S.2.2.2.2.2.1 S.2.2.2.2.2.2 p0 p1 p2).map (fun o => match o with | .inl z => .inl (z.1, (S.1, S.2.1, S.2.2.1, S.2.2.2.1, S.2.2.2.2.1, z.2.1, z.2.2)) | .inr E => .inr E)
set_option maxHeartbeats 4000000 in
set_option maxRecDepth 100000 in
theorem ogX_walk {N K : Nat} {r : Nat → Nat} {S : CS} {p0 : Int32} {p1 : Int32} {p2 : Int32} {x : (Int32 × CS) ⊕ String} (hE : gX_walk N K S p0 p1 p2 = some x) : OkM yX5_walk (.code yX5_walk cX5_walk 4 (some .int)) (10) 3 18 [.ref (r 0), .int p0, .int p1, .int p2] (WX r S) ((PX (U := Int32 × CS) (fun z _ => some (.int z.1)) (fun z _ => WX r z.2) (WX r S)) x) := by
  unfold gX_walk at hE
  obtain ⟨x0, h0, h1⟩ := Option.map_eq_some_iff.mp hE
  subst h1
  clear hE
  refine ok_fr (wc := [(r 0, .inr (7, [.ref (r 1), .ref (r 8), .ref (r 15), .ref (r 20), .ref (r 21), .ref (r 23), .ref (r 25)])), (r 23, .inr (6, [.ref (r 24)])), (r 24, .inl (0, 21, .inl S.2.2.2.2.2.1)), (r 25, .inr (6, [.ref (r 26)])), (r 26, .inl (0, 21, .inl S.2.2.2.2.2.2))]) (wr := [(r 1, .inl (1, 3, .inr (.inr (.inr (.inr (rf3 r 2 2 3)))))), (r 2, .inr (4, [.ref (r 3), .int (S.1 0).1])), (r 3, .inl (0, 2646, .inl (S.1 0).2)), (r 4, .inr (4, [.ref (r 5), .int (S.1 1).1])), (r 5, .inl (0, 2646, .inl (S.1 1).2)), (r 6, .inr (4, [.ref (r 7), .int (S.1 2).1])), (r 7, .inl (0, 2646, .inl (S.1 2).2)), (r 8, .inl (2, 3, .inr (.inr (.inr (.inr (rf3 r 9 2 3)))))), (r 9, .inr (3, [.int (S.2.1 0).1, .ref (r 10), .int (S.2.1 0).2.1])), (r 10, .inl (0, 21, .inl (S.2.1 0).2.2)), (r 11, .inr (3, [.int (S.2.1 1).1, .ref (r 12), .int (S.2.1 1).2.1])), (r 12, .inl (0, 21, .inl (S.2.1 1).2.2)), (r 13, .inr (3, [.int (S.2.1 2).1, .ref (r 14), .int (S.2.1 2).2.1])), (r 14, .inl (0, 21, .inl (S.2.1 2).2.2)), (r 15, .inl (3, 2, .inr (.inr (.inr (.inr (rf3 r 16 2 2)))))), (r 16, .inr (6, [.ref (r 17)])), (r 17, .inl (0, 21, .inl (S.2.2.1 0))), (r 18, .inr (6, [.ref (r 19)])), (r 19, .inl (0, 21, .inl (S.2.2.1 1))), (r 20, .inr (2, [.int (S.2.2.2.1 0), .int (S.2.2.2.1 1), .int (S.2.2.2.1 2), .int (S.2.2.2.1 3), .int (S.2.2.2.1 4), .int (S.2.2.2.1 5)])), (r 21, .inr (5, [.ref (r 22)])), (r 22, .inl (0, 21, .inl S.2.2.2.2.1))]) [0, 23, 24, 25, 26] [1, 2, 3, 4, 5, 6, 7, 8, 9, 10, 11, 12, 13, 14, 15, 16, 17, 18, 19, 20, 21, 22] (ok_X5_walk (x := r 0) (M := r 1) (L := r 8) (Dk := r 15) (c := r 20) (se := r 21) (wk := r 23) (sp := r 25) (wa := r 24) (sa := r 26) h0) rfl rfl rfl rfl (by decide) ?_
  rintro o w hp
  cases x0 with
  | inl z =>
    obtain ⟨g, e1, e2⟩ := PX.inl hp
    subst e1; subst e2
    exact ⟨_, [22, 0, 1, 2, 3, 4, 5, 6, 7, 8, 9, 10, 11, 12, 13, 14, 15, 16, 17, 18, 19, 20, 21, 23, 24, 25, 26], PX.mk g rfl rfl, rfl, rfl⟩
  | inr E =>
    obtain ⟨e1, e2⟩ := PX.inr hp
    subst e1; subst e2
    exact ⟨_, [22, 0, 1, 2, 3, 4, 5, 6, 7, 8, 9, 10, 11, 12, 13, 14, 15, 16, 17, 18, 19, 20, 21, 23, 24, 25, 26], PX.er, rfl, rfl⟩
def gX_product (N K : Nat) (S : CS) (p0 : Int32) (p1 : Int32) (p2 : Int32) : Option ((Int32 × CS) ⊕ String) := (fX5_product N K S.2.2.2.2.1 p0 p1 p2).map (fun o => match o with | .inl z => .inl (z.1, (S.1, S.2.1, S.2.2.1, S.2.2.2.1, z.2, S.2.2.2.2.2.1, S.2.2.2.2.2.2)) | .inr E => .inr E)
set_option maxHeartbeats 4000000 in
set_option maxRecDepth 100000 in
theorem ogX_product {N K : Nat} {r : Nat → Nat} {S : CS} {p0 : Int32} {p1 : Int32} {p2 : Int32} {x : (Int32 × CS) ⊕ String} (hE : gX_product N K S p0 p1 p2 = some x) : OkM yX5_product (.code yX5_product cX5_product 4 (some .int)) (10) 3 18 [.ref (r 0), .int p0, .int p1, .int p2] (WX r S) ((PX (U := Int32 × CS) (fun z _ => some (.int z.1)) (fun z _ => WX r z.2) (WX r S)) x) := by
  unfold gX_product at hE
  obtain ⟨x0, h0, h1⟩ := Option.map_eq_some_iff.mp hE
  subst h1
  clear hE
  refine ok_fr (wc := [(r 0, .inr (7, [.ref (r 1), .ref (r 8), .ref (r 15), .ref (r 20), .ref (r 21), .ref (r 23), .ref (r 25)])), (r 21, .inr (5, [.ref (r 22)])), (r 22, .inl (0, 21, .inl S.2.2.2.2.1))]) (wr := [(r 1, .inl (1, 3, .inr (.inr (.inr (.inr (rf3 r 2 2 3)))))), (r 2, .inr (4, [.ref (r 3), .int (S.1 0).1])), (r 3, .inl (0, 2646, .inl (S.1 0).2)), (r 4, .inr (4, [.ref (r 5), .int (S.1 1).1])), (r 5, .inl (0, 2646, .inl (S.1 1).2)), (r 6, .inr (4, [.ref (r 7), .int (S.1 2).1])), (r 7, .inl (0, 2646, .inl (S.1 2).2)), (r 8, .inl (2, 3, .inr (.inr (.inr (.inr (rf3 r 9 2 3)))))), (r 9, .inr (3, [.int (S.2.1 0).1, .ref (r 10), .int (S.2.1 0).2.1])), (r 10, .inl (0, 21, .inl (S.2.1 0).2.2)), (r 11, .inr (3, [.int (S.2.1 1).1, .ref (r 12), .int (S.2.1 1).2.1])), (r 12, .inl (0, 21, .inl (S.2.1 1).2.2)), (r 13, .inr (3, [.int (S.2.1 2).1, .ref (r 14), .int (S.2.1 2).2.1])), (r 14, .inl (0, 21, .inl (S.2.1 2).2.2)), (r 15, .inl (3, 2, .inr (.inr (.inr (.inr (rf3 r 16 2 2)))))), (r 16, .inr (6, [.ref (r 17)])), (r 17, .inl (0, 21, .inl (S.2.2.1 0))), (r 18, .inr (6, [.ref (r 19)])), (r 19, .inl (0, 21, .inl (S.2.2.1 1))), (r 20, .inr (2, [.int (S.2.2.2.1 0), .int (S.2.2.2.1 1), .int (S.2.2.2.1 2), .int (S.2.2.2.1 3), .int (S.2.2.2.1 4), .int (S.2.2.2.1 5)])), (r 23, .inr (6, [.ref (r 24)])), (r 24, .inl (0, 21, .inl S.2.2.2.2.2.1)), (r 25, .inr (6, [.ref (r 26)])), (r 26, .inl (0, 21, .inl S.2.2.2.2.2.2))]) [0, 21, 22] [1, 2, 3, 4, 5, 6, 7, 8, 9, 10, 11, 12, 13, 14, 15, 16, 17, 18, 19, 20, 23, 24, 25, 26] (ok_X5_product (x := r 0) (M := r 1) (L := r 8) (Dk := r 15) (c := r 20) (se := r 21) (wk := r 23) (sp := r 25) (sr := r 22) h0) rfl rfl rfl rfl (by decide) ?_
  rintro o w hp
  cases x0 with
  | inl z =>
    obtain ⟨g, e1, e2⟩ := PX.inl hp
    subst e1; subst e2
    exact ⟨_, [24, 0, 1, 2, 3, 4, 5, 6, 7, 8, 9, 10, 11, 12, 13, 14, 15, 16, 17, 18, 19, 25, 26, 20, 21, 22, 23], PX.mk g rfl rfl, rfl, rfl⟩
  | inr E =>
    obtain ⟨e1, e2⟩ := PX.inr hp
    subst e1; subst e2
    exact ⟨_, [24, 0, 1, 2, 3, 4, 5, 6, 7, 8, 9, 10, 11, 12, 13, 14, 15, 16, 17, 18, 19, 25, 26, 20, 21, 22, 23], PX.er, rfl, rfl⟩
