section MG_41aadx
def gX_know (N K : Nat) (S : CS) (p0 : Int32) (p1 : Int32) (p2 : Int32) (p3 : Int32) : Option ((Int32 × CS) ⊕ String) := (fX5_know N K ((S.1 (ix 3 p0)).1) ((S.1 (ix 3 p0)).2) (S.2.2.2.1 0) (S.2.2.2.1 1) (S.2.2.2.1 2) (S.2.2.2.1 3) (S.2.2.2.1 4) (S.2.2.2.1 5) p0 p1 p2 p3).map (fun o => match o with | .inl z => .inl (z.1, ((upm S.1 (ix 3 p0) (z.2.1, z.2.2.1)), S.2.1, S.2.2.1, (upm (upm (upm (upm S.2.2.2.1 0 z.2.2.2.1) 1 z.2.2.2.2.1) 2 z.2.2.2.2.2.1) 3 z.2.2.2.2.2.2), S.2.2.2.2.1, S.2.2.2.2.2.1, S.2.2.2.2.2.2)) | .inr E => .inr E)
set_option maxHeartbeats 4000000 in
set_option maxRecDepth 100000 in
theorem ogX_know {N K : Nat} {r : Nat → Nat} {S : CS} {p0 : Int32} {p1 : Int32} {p2 : Int32} {p3 : Int32} {x : (Int32 × CS) ⊕ String} (hE : gX_know N K S p0 p1 p2 p3 = some x) : OkM yX5_know (.code yX5_know cX5_know 6 (some .int)) (2 * K + 10) 4 24 [.ref (r 0), .int p0, .int p1, .int p2, .int p3] (WX r S) ((PX (U := Int32 × CS) (fun z _ => some (.int z.1)) (fun z _ => WX r z.2) (WX r S)) x) := by
  unfold gX_know at hE
  obtain ⟨x0, h0, h1⟩ := Option.map_eq_some_iff.mp hE
  subst h1
  clear hE
  rcases lt3 (ix_lt (n := 3) (p := p0) (by decide)) with e | e | e
  · rw [e] at h0
    try rw [e]
    refine ok_fr (wc := [(r 0, .inr (7, [.ref (r 1), .ref (r 8), .ref (r 15), .ref (r 20), .ref (r 21), .ref (r 23), .ref (r 25)])), (r 1, .inl (1, 3, .inr (.inr (.inr (.inr (rf3 r 2 2 3)))))), (r 2, .inr (4, [.ref (r 3), .int (S.1 0).1])), (r 3, .inl (0, 2646, .inl (S.1 0).2)), (r 20, .inr (2, [.int (S.2.2.2.1 0), .int (S.2.2.2.1 1), .int (S.2.2.2.1 2), .int (S.2.2.2.1 3), .int (S.2.2.2.1 4), .int (S.2.2.2.1 5)]))]) (wr := [(r 4, .inr (4, [.ref (r 5), .int (S.1 1).1])), (r 5, .inl (0, 2646, .inl (S.1 1).2)), (r 6, .inr (4, [.ref (r 7), .int (S.1 2).1])), (r 7, .inl (0, 2646, .inl (S.1 2).2)), (r 8, .inl (2, 3, .inr (.inr (.inr (.inr (rf3 r 9 2 3)))))), (r 9, .inr (3, [.int (S.2.1 0).1, .ref (r 10), .int (S.2.1 0).2.1])), (r 10, .inl (0, 21, .inl (S.2.1 0).2.2)), (r 11, .inr (3, [.int (S.2.1 1).1, .ref (r 12), .int (S.2.1 1).2.1])), (r 12, .inl (0, 21, .inl (S.2.1 1).2.2)), (r 13, .inr (3, [.int (S.2.1 2).1, .ref (r 14), .int (S.2.1 2).2.1])), (r 14, .inl (0, 21, .inl (S.2.1 2).2.2)), (r 15, .inl (3, 2, .inr (.inr (.inr (.inr (rf3 r 16 2 2)))))), (r 16, .inr (6, [.ref (r 17)])), (r 17, .inl (0, 21, .inl (S.2.2.1 0))), (r 18, .inr (6, [.ref (r 19)])), (r 19, .inl (0, 21, .inl (S.2.2.1 1))), (r 21, .inr (5, [.ref (r 22)])), (r 22, .inl (0, 21, .inl S.2.2.2.2.1)), (r 23, .inr (6, [.ref (r 24)])), (r 24, .inl (0, 21, .inl S.2.2.2.2.2.1)), (r 25, .inr (6, [.ref (r 26)])), (r 26, .inl (0, 21, .inl S.2.2.2.2.2.2))]) [0, 1, 2, 3, 20] [4, 5, 6, 7, 8, 9, 10, 11, 12, 13, 14, 15, 16, 17, 18, 19, 21, 22, 23, 24, 25, 26] (ok_X5_know (x := r 0) (M := r 1) (L := r 8) (Dk := r 15) (c := r 20) (se := r 21) (wk := r 23) (sp := r 25) (q := r 2) (a := r 3) (mf := rf3 r 2 2 3) (fun h9 => by have h8 := ix_in h9; rw [e] at h8; exact (congrArg (rf3 r 2 2 3) h8.symm).trans rfl) h0) rfl rfl rfl rfl (by decide) ?_
    rintro o w hp
    cases x0 with
    | inl z =>
      obtain ⟨g, e1, e2⟩ := PX.inl hp
      subst e1; subst e2
      exact ⟨_, [22, 23, 24, 25, 0, 1, 2, 3, 4, 5, 6, 7, 8, 9, 10, 11, 12, 13, 14, 15, 26, 16, 17, 18, 19, 20, 21], PX.mk g rfl rfl, rfl, rfl⟩
    | inr E =>
      obtain ⟨e1, e2⟩ := PX.inr hp
      subst e1; subst e2
      exact ⟨_, [22, 23, 24, 25, 0, 1, 2, 3, 4, 5, 6, 7, 8, 9, 10, 11, 12, 13, 14, 15, 26, 16, 17, 18, 19, 20, 21], PX.er, rfl, rfl⟩
  · rw [e] at h0
    try rw [e]
    refine ok_fr (wc := [(r 0, .inr (7, [.ref (r 1), .ref (r 8), .ref (r 15), .ref (r 20), .ref (r 21), .ref (r 23), .ref (r 25)])), (r 1, .inl (1, 3, .inr (.inr (.inr (.inr (rf3 r 2 2 3)))))), (r 4, .inr (4, [.ref (r 5), .int (S.1 1).1])), (r 5, .inl (0, 2646, .inl (S.1 1).2)), (r 20, .inr (2, [.int (S.2.2.2.1 0), .int (S.2.2.2.1 1), .int (S.2.2.2.1 2), .int (S.2.2.2.1 3), .int (S.2.2.2.1 4), .int (S.2.2.2.1 5)]))]) (wr := [(r 2, .inr (4, [.ref (r 3), .int (S.1 0).1])), (r 3, .inl (0, 2646, .inl (S.1 0).2)), (r 6, .inr (4, [.ref (r 7), .int (S.1 2).1])), (r 7, .inl (0, 2646, .inl (S.1 2).2)), (r 8, .inl (2, 3, .inr (.inr (.inr (.inr (rf3 r 9 2 3)))))), (r 9, .inr (3, [.int (S.2.1 0).1, .ref (r 10), .int (S.2.1 0).2.1])), (r 10, .inl (0, 21, .inl (S.2.1 0).2.2)), (r 11, .inr (3, [.int (S.2.1 1).1, .ref (r 12), .int (S.2.1 1).2.1])), (r 12, .inl (0, 21, .inl (S.2.1 1).2.2)), (r 13, .inr (3, [.int (S.2.1 2).1, .ref (r 14), .int (S.2.1 2).2.1])), (r 14, .inl (0, 21, .inl (S.2.1 2).2.2)), (r 15, .inl (3, 2, .inr (.inr (.inr (.inr (rf3 r 16 2 2)))))), (r 16, .inr (6, [.ref (r 17)])), (r 17, .inl (0, 21, .inl (S.2.2.1 0))), (r 18, .inr (6, [.ref (r 19)])), (r 19, .inl (0, 21, .inl (S.2.2.1 1))), (r 21, .inr (5, [.ref (r 22)])), (r 22, .inl (0, 21, .inl S.2.2.2.2.1)), (r 23, .inr (6, [.ref (r 24)])), (r 24, .inl (0, 21, .inl S.2.2.2.2.2.1)), (r 25, .inr (6, [.ref (r 26)])), (r 26, .inl (0, 21, .inl S.2.2.2.2.2.2))]) [0, 1, 4, 5, 20] [2, 3, 6, 7, 8, 9, 10, 11, 12, 13, 14, 15, 16, 17, 18, 19, 21, 22, 23, 24, 25, 26] (ok_X5_know (x := r 0) (M := r 1) (L := r 8) (Dk := r 15) (c := r 20) (se := r 21) (wk := r 23) (sp := r 25) (q := r 4) (a := r 5) (mf := rf3 r 2 2 3) (fun h9 => by have h8 := ix_in h9; rw [e] at h8; exact (congrArg (rf3 r 2 2 3) h8.symm).trans rfl) h0) rfl rfl rfl rfl (by decide) ?_
    rintro o w hp
    cases x0 with
    | inl z =>
      obtain ⟨g, e1, e2⟩ := PX.inl hp
      subst e1; subst e2
      exact ⟨_, [22, 23, 0, 1, 24, 25, 2, 3, 4, 5, 6, 7, 8, 9, 10, 11, 12, 13, 14, 15, 26, 16, 17, 18, 19, 20, 21], PX.mk g rfl rfl, rfl, rfl⟩
    | inr E =>
      obtain ⟨e1, e2⟩ := PX.inr hp
      subst e1; subst e2
      exact ⟨_, [22, 23, 0, 1, 24, 25, 2, 3, 4, 5, 6, 7, 8, 9, 10, 11, 12, 13, 14, 15, 26, 16, 17, 18, 19, 20, 21], PX.er, rfl, rfl⟩
  · rw [e] at h0
    try rw [e]
    refine ok_fr (wc := [(r 0, .inr (7, [.ref (r 1), .ref (r 8), .ref (r 15), .ref (r 20), .ref (r 21), .ref (r 23), .ref (r 25)])), (r 1, .inl (1, 3, .inr (.inr (.inr (.inr (rf3 r 2 2 3)))))), (r 6, .inr (4, [.ref (r 7), .int (S.1 2).1])), (r 7, .inl (0, 2646, .inl (S.1 2).2)), (r 20, .inr (2, [.int (S.2.2.2.1 0), .int (S.2.2.2.1 1), .int (S.2.2.2.1 2), .int (S.2.2.2.1 3), .int (S.2.2.2.1 4), .int (S.2.2.2.1 5)]))]) (wr := [(r 2, .inr (4, [.ref (r 3), .int (S.1 0).1])), (r 3, .inl (0, 2646, .inl (S.1 0).2)), (r 4, .inr (4, [.ref (r 5), .int (S.1 1).1])), (r 5, .inl (0, 2646, .inl (S.1 1).2)), (r 8, .inl (2, 3, .inr (.inr (.inr (.inr (rf3 r 9 2 3)))))), (r 9, .inr (3, [.int (S.2.1 0).1, .ref (r 10), .int (S.2.1 0).2.1])), (r 10, .inl (0, 21, .inl (S.2.1 0).2.2)), (r 11, .inr (3, [.int (S.2.1 1).1, .ref (r 12), .int (S.2.1 1).2.1])), (r 12, .inl (0, 21, .inl (S.2.1 1).2.2)), (r 13, .inr (3, [.int (S.2.1 2).1, .ref (r 14), .int (S.2.1 2).2.1])), (r 14, .inl (0, 21, .inl (S.2.1 2).2.2)), (r 15, .inl (3, 2, .inr (.inr (.inr (.inr (rf3 r 16 2 2)))))), (r 16, .inr (6, [.ref (r 17)])), (r 17, .inl (0, 21, .inl (S.2.2.1 0))), (r 18, .inr (6, [.ref (r 19)])), (r 19, .inl (0, 21, .inl (S.2.2.1 1))), (r 21, .inr (5, [.ref (r 22)])), (r 22, .inl (0, 21, .inl S.2.2.2.2.1)), (r 23, .inr (6, [.ref (r 24)])), (r 24, .inl (0, 21, .inl S.2.2.2.2.2.1)), (r 25, .inr (6, [.ref (r 26)])), (r 26, .inl (0, 21, .inl S.2.2.2.2.2.2))]) [0, 1, 6, 7, 20] [2, 3, 4, 5, 8, 9, 10, 11, 12, 13, 14, 15, 16, 17, 18, 19, 21, 22, 23, 24, 25, 26] (ok_X5_know (x := r 0) (M := r 1) (L := r 8) (Dk := r 15) (c := r 20) (se := r 21) (wk := r 23) (sp := r 25) (q := r 6) (a := r 7) (mf := rf3 r 2 2 3) (fun h9 => by have h8 := ix_in h9; rw [e] at h8; exact (congrArg (rf3 r 2 2 3) h8.symm).trans rfl) h0) rfl rfl rfl rfl (by decide) ?_
    rintro o w hp
    cases x0 with
    | inl z =>
      obtain ⟨g, e1, e2⟩ := PX.inl hp
      subst e1; subst e2
      exact ⟨_, [22, 23, 0, 1, 2, 3, 24, 25, 4, 5, 6, 7, 8, 9, 10, 11, 12, 13, 14, 15, 26, 16, 17, 18, 19, 20, 21], PX.mk g rfl rfl, rfl, rfl⟩
    | inr E =>
      obtain ⟨e1, e2⟩ := PX.inr hp
      subst e1; subst e2
      exact ⟨_, [22, 23, 0, 1, 2, 3, 24, 25, 4, 5, 6, 7, 8, 9, 10, 11, 12, 13, 14, 15, 26, 16, 17, 18, 19, 20, 21], PX.er, rfl, rfl⟩
def gX_few (N K : Nat) (S : CS) (p0 : Int32) (p1 : Int32) (p2 : Int32) : Option ((Int32 × CS) ⊕ String) := (fX5_few N K ((S.1 (ix 3 p0)).1) ((S.1 (ix 3 p0)).2) (S.2.2.2.1 0) (S.2.2.2.1 1) (S.2.2.2.1 2) (S.2.2.2.1 3) (S.2.2.2.1 4) (S.2.2.2.1 5) p0 p1 p2).map (fun o => match o with | .inl z => .inl (z.1, ((upm S.1 (ix 3 p0) (z.2.1, z.2.2.1)), S.2.1, S.2.2.1, (upm (upm (upm (upm S.2.2.2.1 0 z.2.2.2.1) 1 z.2.2.2.2.1) 2 z.2.2.2.2.2.1) 3 z.2.2.2.2.2.2), S.2.2.2.2.1, S.2.2.2.2.2.1, S.2.2.2.2.2.2)) | .inr E => .inr E)
set_option maxHeartbeats 4000000 in
set_option maxRecDepth 100000 in
theorem ogX_few {N K : Nat} {r : Nat → Nat} {S : CS} {p0 : Int32} {p1 : Int32} {p2 : Int32} {x : (Int32 × CS) ⊕ String} (hE : gX_few N K S p0 p1 p2 = some x) : OkM yX5_few (.code yX5_few cX5_few 7 (some .int)) (2 * K + 9) 3 18 [.ref (r 0), .int p0, .int p1, .int p2] (WX r S) ((PX (U := Int32 × CS) (fun z _ => some (.int z.1)) (fun z _ => WX r z.2) (WX r S)) x) := by
  unfold gX_few at hE
  obtain ⟨x0, h0, h1⟩ := Option.map_eq_some_iff.mp hE
  subst h1
  clear hE
  rcases lt3 (ix_lt (n := 3) (p := p0) (by decide)) with e | e | e
  · rw [e] at h0
    try rw [e]
    refine ok_fr (wc := [(r 0, .inr (7, [.ref (r 1), .ref (r 8), .ref (r 15), .ref (r 20), .ref (r 21), .ref (r 23), .ref (r 25)])), (r 1, .inl (1, 3, .inr (.inr (.inr (.inr (rf3 r 2 2 3)))))), (r 2, .inr (4, [.ref (r 3), .int (S.1 0).1])), (r 3, .inl (0, 2646, .inl (S.1 0).2)), (r 20, .inr (2, [.int (S.2.2.2.1 0), .int (S.2.2.2.1 1), .int (S.2.2.2.1 2), .int (S.2.2.2.1 3), .int (S.2.2.2.1 4), .int (S.2.2.2.1 5)]))]) (wr := [(r 4, .inr (4, [.ref (r 5), .int (S.1 1).1])), (r 5, .inl (0, 2646, .inl (S.1 1).2)), (r 6, .inr (4, [.ref (r 7), .int (S.1 2).1])), (r 7, .inl (0, 2646, .inl (S.1 2).2)), (r 8, .inl (2, 3, .inr (.inr (.inr (.inr (rf3 r 9 2 3)))))), (r 9, .inr (3, [.int (S.2.1 0).1, .ref (r 10), .int (S.2.1 0).2.1])), (r 10, .inl (0, 21, .inl (S.2.1 0).2.2)), (r 11, .inr (3, [.int (S.2.1 1).1, .ref (r 12), .int (S.2.1 1).2.1])), (r 12, .inl (0, 21, .inl (S.2.1 1).2.2)), (r 13, .inr (3, [.int (S.2.1 2).1, .ref (r 14), .int (S.2.1 2).2.1])), (r 14, .inl (0, 21, .inl (S.2.1 2).2.2)), (r 15, .inl (3, 2, .inr (.inr (.inr (.inr (rf3 r 16 2 2)))))), (r 16, .inr (6, [.ref (r 17)])), (r 17, .inl (0, 21, .inl (S.2.2.1 0))), (r 18, .inr (6, [.ref (r 19)])), (r 19, .inl (0, 21, .inl (S.2.2.1 1))), (r 21, .inr (5, [.ref (r 22)])), (r 22, .inl (0, 21, .inl S.2.2.2.2.1)), (r 23, .inr (6, [.ref (r 24)])), (r 24, .inl (0, 21, .inl S.2.2.2.2.2.1)), (r 25, .inr (6, [.ref (r 26)])), (r 26, .inl (0, 21, .inl S.2.2.2.2.2.2))]) [0, 1, 2, 3, 20] [4, 5, 6, 7, 8, 9, 10, 11, 12, 13, 14, 15, 16, 17, 18, 19, 21, 22, 23, 24, 25, 26] (ok_X5_few (x := r 0) (M := r 1) (L := r 8) (Dk := r 15) (c := r 20) (se := r 21) (wk := r 23) (sp := r 25) (q := r 2) (a := r 3) (mf := rf3 r 2 2 3) (fun h9 => by have h8 := ix_in h9; rw [e] at h8; exact (congrArg (rf3 r 2 2 3) h8.symm).trans rfl) h0) rfl rfl rfl rfl (by decide) ?_
    rintro o w hp
    cases x0 with
    | inl z =>
      obtain ⟨g, e1, e2⟩ := PX.inl hp
      subst e1; subst e2
      exact ⟨_, [22, 23, 24, 25, 0, 1, 2, 3, 4, 5, 6, 7, 8, 9, 10, 11, 12, 13, 14, 15, 26, 16, 17, 18, 19, 20, 21], PX.mk g rfl rfl, rfl, rfl⟩
    | inr E =>
      obtain ⟨e1, e2⟩ := PX.inr hp
      subst e1; subst e2
      exact ⟨_, [22, 23, 24, 25, 0, 1, 2, 3, 4, 5, 6, 7, 8, 9, 10, 11, 12, 13, 14, 15, 26, 16, 17, 18, 19, 20, 21], PX.er, rfl, rfl⟩
  · rw [e] at h0
    try rw [e]
    refine ok_fr (wc := [(r 0, .inr (7, [.ref (r 1), .ref (r 8), .ref (r 15), .ref (r 20), .ref (r 21), .ref (r 23), .ref (r 25)])), (r 1, .inl (1, 3, .inr (.inr (.inr (.inr (rf3 r 2 2 3)))))), (r 4, .inr (4, [.ref (r 5), .int (S.1 1).1])), (r 5, .inl (0, 2646, .inl (S.1 1).2)), (r 20, .inr (2, [.int (S.2.2.2.1 0), .int (S.2.2.2.1 1), .int (S.2.2.2.1 2), .int (S.2.2.2.1 3), .int (S.2.2.2.1 4), .int (S.2.2.2.1 5)]))]) (wr := [(r 2, .inr (4, [.ref (r 3), .int (S.1 0).1])), (r 3, .inl (0, 2646, .inl (S.1 0).2)), (r 6, .inr (4, [.ref (r 7), .int (S.1 2).1])), (r 7, .inl (0, 2646, .inl (S.1 2).2)), (r 8, .inl (2, 3, .inr (.inr (.inr (.inr (rf3 r 9 2 3)))))), (r 9, .inr (3, [.int (S.2.1 0).1, .ref (r 10), .int (S.2.1 0).2.1])), (r 10, .inl (0, 21, .inl (S.2.1 0).2.2)), (r 11, .inr (3, [.int (S.2.1 1).1, .ref (r 12), .int (S.2.1 1).2.1])), (r 12, .inl (0, 21, .inl (S.2.1 1).2.2)), (r 13, .inr (3, [.int (S.2.1 2).1, .ref (r 14), .int (S.2.1 2).2.1])), (r 14, .inl (0, 21, .inl (S.2.1 2).2.2)), (r 15, .inl (3, 2, .inr (.inr (.inr (.inr (rf3 r 16 2 2)))))), (r 16, .inr (6, [.ref (r 17)])), (r 17, .inl (0, 21, .inl (S.2.2.1 0))), (r 18, .inr (6, [.ref (r 19)])), (r 19, .inl (0, 21, .inl (S.2.2.1 1))), (r 21, .inr (5, [.ref (r 22)])), (r 22, .inl (0, 21, .inl S.2.2.2.2.1)), (r 23, .inr (6, [.ref (r 24)])), (r 24, .inl (0, 21, .inl S.2.2.2.2.2.1)), (r 25, .inr (6, [.ref (r 26)])), (r 26, .inl (0, 21, .inl S.2.2.2.2.2.2))]) [0, 1, 4, 5, 20] [2, 3, 6, 7, 8, 9, 10, 11, 12, 13, 14, 15, 16, 17, 18, 19, 21, 22, 23, 24, 25, 26] (ok_X5_few (x := r 0) (M := r 1) (L := r 8) (Dk := r 15) (c := r 20) (se := r 21) (wk := r 23) (sp := r 25) (q := r 4) (a := r 5) (mf := rf3 r 2 2 3) (fun h9 => by have h8 := ix_in h9; rw [e] at h8; exact (congrArg (rf3 r 2 2 3) h8.symm).trans rfl) h0) rfl rfl rfl rfl (by decide) ?_
    rintro o w hp
    cases x0 with
    | inl z =>
      obtain ⟨g, e1, e2⟩ := PX.inl hp
      subst e1; subst e2
      exact ⟨_, [22, 23, 0, 1, 24, 25, 2, 3, 4, 5, 6, 7, 8, 9, 10, 11, 12, 13, 14, 15, 26, 16, 17, 18, 19, 20, 21], PX.mk g rfl rfl, rfl, rfl⟩
    | inr E =>
      obtain ⟨e1, e2⟩ := PX.inr hp
      subst e1; subst e2
      exact ⟨_, [22, 23, 0, 1, 24, 25, 2, 3, 4, 5, 6, 7, 8, 9, 10, 11, 12, 13, 14, 15, 26, 16, 17, 18, 19, 20, 21], PX.er, rfl, rfl⟩
  · rw [e] at h0
    try rw [e]
    refine ok_fr (wc := [(r 0, .inr (7, [.ref (r 1), .ref (r 8), .ref (r 15), .ref (r 20), .ref (r 21), .ref (r 23), .ref (r 25)])), (r 1, .inl (1, 3, .inr (.inr (.inr (.inr (rf3 r 2 2 3)))))), (r 6, .inr (4, [.ref (r 7), .int (S.1 2).1])), (r 7, .inl (0, 2646, .inl (S.1 2).2)), (r 20, .inr (2, [.int (S.2.2.2.1 0), .int (S.2.2.2.1 1), .int (S.2.2.2.1 2), .int (S.2.2.2.1 3), .int (S.2.2.2.1 4), .int (S.2.2.2.1 5)]))]) (wr := [(r 2, .inr (4, [.ref (r 3), .int (S.1 0).1])), (r 3, .inl (0, 2646, .inl (S.1 0).2)), (r 4, .inr (4, [.ref (r 5), .int (S.1 1).1])), (r 5, .inl (0, 2646, .inl (S.1 1).2)), (r 8, .inl (2, 3, .inr (.inr (.inr (.inr (rf3 r 9 2 3)))))), (r 9, .inr (3, [.int (S.2.1 0).1, .ref (r 10), .int (S.2.1 0).2.1])), (r 10, .inl (0, 21, .inl (S.2.1 0).2.2)), (r 11, .inr (3, [.int (S.2.1 1).1, .ref (r 12), .int (S.2.1 1).2.1])), (r 12, .inl (0, 21, .inl (S.2.1 1).2.2)), (r 13, .inr (3, [.int (S.2.1 2).1, .ref (r 14), .int (S.2.1 2).2.1])), (r 14, .inl (0, 21, .inl (S.2.1 2).2.2)), (r 15, .inl (3, 2, .inr (.inr (.inr (.inr (rf3 r 16 2 2)))))), (r 16, .inr (6, [.ref (r 17)])), (r 17, .inl (0, 21, .inl (S.2.2.1 0))), (r 18, .inr (6, [.ref (r 19)])), (r 19, .inl (0, 21, .inl (S.2.2.1 1))), (r 21, .inr (5, [.ref (r 22)])), (r 22, .inl (0, 21, .inl S.2.2.2.2.1)), (r 23, .inr (6, [.ref (r 24)])), (r 24, .inl (0, 21, .inl S.2.2.2.2.2.1)), (r 25, .inr (6, [.ref (r 26)])), (r 26, .inl (0, 21, .inl S.2.2.2.2.2.2))]) [0, 1, 6, 7, 20] [2, 3, 4, 5, 8, 9, 10, 11, 12, 13, 14, 15, 16, 17, 18, 19, 21, 22, 23, 24, 25, 26] (ok_X5_few (x := r 0) (M := r 1) (L := r 8) (Dk := r 15) (c := r 20) (se := r 21) (wk := r 23) (sp := r 25) (q := r 6) (a := r 7) (mf := rf3 r 2 2 3) (fun h9 => by have h8 := ix_in h9; rw [e] at h8; exact (congrArg (rf3 r 2 2 3) h8.symm).trans rfl) h0) rfl rfl rfl rfl (by decide) ?_
    rintro o w hp
    cases x0 with
    | inl z =>
      obtain ⟨g, e1, e2⟩ := PX.inl hp
      subst e1; subst e2
      exact ⟨_, [22, 23, 0, 1, 2, 3, 24, 25, 4, 5, 6, 7, 8, 9, 10, 11, 12, 13, 14, 15, 26, 16, 17, 18, 19, 20, 21], PX.mk g rfl rfl, rfl, rfl⟩
    | inr E =>
      obtain ⟨e1, e2⟩ := PX.inr hp
      subst e1; subst e2
      exact ⟨_, [22, 23, 0, 1, 2, 3, 24, 25, 4, 5, 6, 7, 8, 9, 10, 11, 12, 13, 14, 15, 26, 16, 17, 18, 19, 20, 21], PX.er, rfl, rfl⟩
def gX_surplus (N K : Nat) (S : CS) (p0 : Int32) (p1 : Int32) : Option ((Int32 × CS) ⊕ String) := (fX5_surplus N K ((S.1 (ix 3 p0)).1) ((S.1 (ix 3 p0)).2) (S.2.2.2.1 0) (S.2.2.2.1 1) (S.2.2.2.1 2) (S.2.2.2.1 3) (S.2.2.2.1 4) (S.2.2.2.1 5) p0 p1).map (fun o => match o with | .inl z => .inl (z.1, ((upm S.1 (ix 3 p0) (z.2.1, z.2.2.1)), S.2.1, S.2.2.1, (upm (upm (upm (upm S.2.2.2.1 0 z.2.2.2.1) 1 z.2.2.2.2.1) 2 z.2.2.2.2.2.1) 3 z.2.2.2.2.2.2), S.2.2.2.2.1, S.2.2.2.2.2.1, S.2.2.2.2.2.2)) | .inr E => .inr E)
set_option maxHeartbeats 4000000 in
set_option maxRecDepth 100000 in
theorem ogX_surplus {N K : Nat} {r : Nat → Nat} {S : CS} {p0 : Int32} {p1 : Int32} {x : (Int32 × CS) ⊕ String} (hE : gX_surplus N K S p0 p1 = some x) : OkM yX5_surplus (.code yX5_surplus cX5_surplus 7 (some .int)) (2 * K + 9) 2 12 [.ref (r 0), .int p0, .int p1] (WX r S) ((PX (U := Int32 × CS) (fun z _ => some (.int z.1)) (fun z _ => WX r z.2) (WX r S)) x) := by
  unfold gX_surplus at hE
  obtain ⟨x0, h0, h1⟩ := Option.map_eq_some_iff.mp hE
  subst h1
  clear hE
  rcases lt3 (ix_lt (n := 3) (p := p0) (by decide)) with e | e | e
  · rw [e] at h0
    try rw [e]
    refine ok_fr (wc := [(r 0, .inr (7, [.ref (r 1), .ref (r 8), .ref (r 15), .ref (r 20), .ref (r 21), .ref (r 23), .ref (r 25)])), (r 1, .inl (1, 3, .inr (.inr (.inr (.inr (rf3 r 2 2 3)))))), (r 2, .inr (4, [.ref (r 3), .int (S.1 0).1])), (r 3, .inl (0, 2646, .inl (S.1 0).2)), (r 20, .inr (2, [.int (S.2.2.2.1 0), .int (S.2.2.2.1 1), .int (S.2.2.2.1 2), .int (S.2.2.2.1 3), .int (S.2.2.2.1 4), .int (S.2.2.2.1 5)]))]) (wr := [(r 4, .inr (4, [.ref (r 5), .int (S.1 1).1])), (r 5, .inl (0, 2646, .inl (S.1 1).2)), (r 6, .inr (4, [.ref (r 7), .int (S.1 2).1])), (r 7, .inl (0, 2646, .inl (S.1 2).2)), (r 8, .inl (2, 3, .inr (.inr (.inr (.inr (rf3 r 9 2 3)))))), (r 9, .inr (3, [.int (S.2.1 0).1, .ref (r 10), .int (S.2.1 0).2.1])), (r 10, .inl (0, 21, .inl (S.2.1 0).2.2)), (r 11, .inr (3, [.int (S.2.1 1).1, .ref (r 12), .int (S.2.1 1).2.1])), (r 12, .inl (0, 21, .inl (S.2.1 1).2.2)), (r 13, .inr (3, [.int (S.2.1 2).1, .ref (r 14), .int (S.2.1 2).2.1])), (r 14, .inl (0, 21, .inl (S.2.1 2).2.2)), (r 15, .inl (3, 2, .inr (.inr (.inr (.inr (rf3 r 16 2 2)))))), (r 16, .inr (6, [.ref (r 17)])), (r 17, .inl (0, 21, .inl (S.2.2.1 0))), (r 18, .inr (6, [.ref (r 19)])), (r 19, .inl (0, 21, .inl (S.2.2.1 1))), (r 21, .inr (5, [.ref (r 22)])), (r 22, .inl (0, 21, .inl S.2.2.2.2.1)), (r 23, .inr (6, [.ref (r 24)])), (r 24, .inl (0, 21, .inl S.2.2.2.2.2.1)), (r 25, .inr (6, [.ref (r 26)])), (r 26, .inl (0, 21, .inl S.2.2.2.2.2.2))]) [0, 1, 2, 3, 20] [4, 5, 6, 7, 8, 9, 10, 11, 12, 13, 14, 15, 16, 17, 18, 19, 21, 22, 23, 24, 25, 26] (ok_X5_surplus (x := r 0) (M := r 1) (L := r 8) (Dk := r 15) (c := r 20) (se := r 21) (wk := r 23) (sp := r 25) (q := r 2) (a := r 3) (mf := rf3 r 2 2 3) (fun h9 => by have h8 := ix_in h9; rw [e] at h8; exact (congrArg (rf3 r 2 2 3) h8.symm).trans rfl) h0) rfl rfl rfl rfl (by decide) ?_
    rintro o w hp
    cases x0 with
    | inl z =>
      obtain ⟨g, e1, e2⟩ := PX.inl hp
      subst e1; subst e2
      exact ⟨_, [22, 23, 24, 25, 0, 1, 2, 3, 4, 5, 6, 7, 8, 9, 10, 11, 12, 13, 14, 15, 26, 16, 17, 18, 19, 20, 21], PX.mk g rfl rfl, rfl, rfl⟩
    | inr E =>
      obtain ⟨e1, e2⟩ := PX.inr hp
      subst e1; subst e2
      exact ⟨_, [22, 23, 24, 25, 0, 1, 2, 3, 4, 5, 6, 7, 8, 9, 10, 11, 12, 13, 14, 15, 26, 16, 17, 18, 19, 20, 21], PX.er, rfl, rfl⟩
  · rw [e] at h0
    try rw [e]
    refine ok_fr (wc := [(r 0, .inr (7, [.ref (r 1), .ref (r 8), .ref (r 15), .ref (r 20), .ref (r 21), .ref (r 23), .ref (r 25)])), (r 1, .inl (1, 3, .inr (.inr (.inr (.inr (rf3 r 2 2 3)))))), (r 4, .inr (4, [.ref (r 5), .int (S.1 1).1])), (r 5, .inl (0, 2646, .inl (S.1 1).2)), (r 20, .inr (2, [.int (S.2.2.2.1 0), .int (S.2.2.2.1 1), .int (S.2.2.2.1 2), .int (S.2.2.2.1 3), .int (S.2.2.2.1 4), .int (S.2.2.2.1 5)]))]) (wr := [(r 2, .inr (4, [.ref (r 3), .int (S.1 0).1])), (r 3, .inl (0, 2646, .inl (S.1 0).2)), (r 6, .inr (4, [.ref (r 7), .int (S.1 2).1])), (r 7, .inl (0, 2646, .inl (S.1 2).2)), (r 8, .inl (2, 3, .inr (.inr (.inr (.inr (rf3 r 9 2 3)))))), (r 9, .inr (3, [.int (S.2.1 0).1, .ref (r 10), .int (S.2.1 0).2.1])), (r 10, .inl (0, 21, .inl (S.2.1 0).2.2)), (r 11, .inr (3, [.int (S.2.1 1).1, .ref (r 12), .int (S.2.1 1).2.1])), (r 12, .inl (0, 21, .inl (S.2.1 1).2.2)), (r 13, .inr (3, [.int (S.2.1 2).1, .ref (r 14), .int (S.2.1 2).2.1])), (r 14, .inl (0, 21, .inl (S.2.1 2).2.2)), (r 15, .inl (3, 2, .inr (.inr (.inr (.inr (rf3 r 16 2 2)))))), (r 16, .inr (6, [.ref (r 17)])), (r 17, .inl (0, 21, .inl (S.2.2.1 0))), (r 18, .inr (6, [.ref (r 19)])), (r 19, .inl (0, 21, .inl (S.2.2.1 1))), (r 21, .inr (5, [.ref (r 22)])), (r 22, .inl (0, 21, .inl S.2.2.2.2.1)), (r 23, .inr (6, [.ref (r 24)])), (r 24, .inl (0, 21, .inl S.2.2.2.2.2.1)), (r 25, .inr (6, [.ref (r 26)])), (r 26, .inl (0, 21, .inl S.2.2.2.2.2.2))]) [0, 1, 4, 5, 20] [2, 3, 6, 7, 8, 9, 10, 11, 12, 13, 14, 15, 16, 17, 18, 19, 21, 22, 23, 24, 25, 26] (ok_X5_surplus (x := r 0) (M := r 1) (L := r 8) (Dk := r 15) (c := r 20) (se := r 21) (wk := r 23) (sp := r 25) (q := r 4) (a := r 5) (mf := rf3 r 2 2 3) (fun h9 => by have h8 := ix_in h9; rw [e] at h8; exact (congrArg (rf3 r 2 2 3) h8.symm).trans rfl) h0) rfl rfl rfl rfl (by decide) ?_
    rintro o w hp
    cases x0 with
    | inl z =>
      obtain ⟨g, e1, e2⟩ := PX.inl hp
      subst e1; subst e2
      exact ⟨_, [22, 23, 0, 1, 24, 25, 2, 3, 4, 5, 6, 7, 8, 9, 10, 11, 12, 13, 14, 15, 26, 16, 17, 18, 19, 20, 21], PX.mk g rfl rfl, rfl, rfl⟩
    | inr E =>
      obtain ⟨e1, e2⟩ := PX.inr hp
      subst e1; subst e2
      exact ⟨_, [22, 23, 0, 1, 24, 25, 2, 3, 4, 5, 6, 7, 8, 9, 10, 11, 12, 13, 14, 15, 26, 16, 17, 18, 19, 20, 21], PX.er, rfl, rfl⟩
  · rw [e] at h0
    try rw [e]
    refine ok_fr (wc := [(r 0, .inr (7, [.ref (r 1), .ref (r 8), .ref (r 15), .ref (r 20), .ref (r 21), .ref (r 23), .ref (r 25)])), (r 1, .inl (1, 3, .inr (.inr (.inr (.inr (rf3 r 2 2 3)))))), (r 6, .inr (4, [.ref (r 7), .int (S.1 2).1])), (r 7, .inl (0, 2646, .inl (S.1 2).2)), (r 20, .inr (2, [.int (S.2.2.2.1 0), .int (S.2.2.2.1 1), .int (S.2.2.2.1 2), .int (S.2.2.2.1 3), .int (S.2.2.2.1 4), .int (S.2.2.2.1 5)]))]) (wr := [(r 2, .inr (4, [.ref (r 3), .int (S.1 0).1])), (r 3, .inl (0, 2646, .inl (S.1 0).2)), (r 4, .inr (4, [.ref (r 5), .int (S.1 1).1])), (r 5, .inl (0, 2646, .inl (S.1 1).2)), (r 8, .inl (2, 3, .inr (.inr (.inr (.inr (rf3 r 9 2 3)))))), (r 9, .inr (3, [.int (S.2.1 0).1, .ref (r 10), .int (S.2.1 0).2.1])), (r 10, .inl (0, 21, .inl (S.2.1 0).2.2)), (r 11, .inr (3, [.int (S.2.1 1).1, .ref (r 12), .int (S.2.1 1).2.1])), (r 12, .inl (0, 21, .inl (S.2.1 1).2.2)), (r 13, .inr (3, [.int (S.2.1 2).1, .ref (r 14), .int (S.2.1 2).2.1])), (r 14, .inl (0, 21, .inl (S.2.1 2).2.2)), (r 15, .inl (3, 2, .inr (.inr (.inr (.inr (rf3 r 16 2 2)))))), (r 16, .inr (6, [.ref (r 17)])), (r 17, .inl (0, 21, .inl (S.2.2.1 0))), (r 18, .inr (6, [.ref (r 19)])), (r 19, .inl (0, 21, .inl (S.2.2.1 1))), (r 21, .inr (5, [.ref (r 22)])), (r 22, .inl (0, 21, .inl S.2.2.2.2.1)), (r 23, .inr (6, [.ref (r 24)])), (r 24, .inl (0, 21, .inl S.2.2.2.2.2.1)), (r 25, .inr (6, [.ref (r 26)])), (r 26, .inl (0, 21, .inl S.2.2.2.2.2.2))]) [0, 1, 6, 7, 20] [2, 3, 4, 5, 8, 9, 10, 11, 12, 13, 14, 15, 16, 17, 18, 19, 21, 22, 23, 24, 25, 26] (ok_X5_surplus (x := r 0) (M := r 1) (L := r 8) (Dk := r 15) (c := r 20) (se := r 21) (wk := r 23) (sp := r 25) (q := r 6) (a := r 7) (mf := rf3 r 2 2 3) (fun h9 => by have h8 := ix_in h9; rw [e] at h8; exact (congrArg (rf3 r 2 2 3) h8.symm).trans rfl) h0) rfl rfl rfl rfl (by decide) ?_
    rintro o w hp
    cases x0 with
    | inl z =>
      obtain ⟨g, e1, e2⟩ := PX.inl hp
      subst e1; subst e2
      exact ⟨_, [22, 23, 0, 1, 2, 3, 24, 25, 4, 5, 6, 7, 8, 9, 10, 11, 12, 13, 14, 15, 26, 16, 17, 18, 19, 20, 21], PX.mk g rfl rfl, rfl, rfl⟩
    | inr E =>
      obtain ⟨e1, e2⟩ := PX.inr hp
      subst e1; subst e2
      exact ⟨_, [22, 23, 0, 1, 2, 3, 24, 25, 4, 5, 6, 7, 8, 9, 10, 11, 12, 13, 14, 15, 26, 16, 17, 18, 19, 20, 21], PX.er, rfl, rfl⟩
def gX_place (N K : Nat) (S : CS) (p0 : Int32) (p1 : Int32) : Option ((Int32 × CS) ⊕ String) := (fX5_place N K ((S.1 (ix 3 p0)).1) ((S.1 (ix 3 p0)).2) (S.2.2.1 (ix 2 p1)) (S.2.2.2.1 0) (S.2.2.2.1 1) (S.2.2.2.1 2) (S.2.2.2.1 3) (S.2.2.2.1 4) (S.2.2.2.1 5) p0 p1).map (fun o => match o with | .inl z => .inl (z.1, ((upm S.1 (ix 3 p0) (z.2.1, z.2.2.1)), S.2.1, S.2.2.1, (upm (upm (upm (upm S.2.2.2.1 0 z.2.2.2.1) 1 z.2.2.2.2.1) 2 z.2.2.2.2.2.1) 3 z.2.2.2.2.2.2), S.2.2.2.2.1, S.2.2.2.2.2.1, S.2.2.2.2.2.2)) | .inr E => .inr E)
set_option maxHeartbeats 4000000 in
set_option maxRecDepth 100000 in
theorem ogX_place {N K : Nat} {r : Nat → Nat} {S : CS} {p0 : Int32} {p1 : Int32} {x : (Int32 × CS) ⊕ String} (hE : gX_place N K S p0 p1 = some x) : OkM yX5_place (.code yX5_place cX5_place 10 (some .int)) (2 * K + 9) 2 12 [.ref (r 0), .int p0, .int p1] (WX r S) ((PX (U := Int32 × CS) (fun z _ => some (.int z.1)) (fun z _ => WX r z.2) (WX r S)) x) := by
  unfold gX_place at hE
  obtain ⟨x0, h0, h1⟩ := Option.map_eq_some_iff.mp hE
  subst h1
  clear hE
  rcases lt3 (ix_lt (n := 3) (p := p0) (by decide)) with e | e | e <;> rcases lt2 (ix_lt (n := 2) (p := p1) (by decide)) with f | f
  · rw [e, f] at h0
    try rw [e]
    try rw [f]
    refine ok_fr (wc := [(r 0, .inr (7, [.ref (r 1), .ref (r 8), .ref (r 15), .ref (r 20), .ref (r 21), .ref (r 23), .ref (r 25)])), (r 1, .inl (1, 3, .inr (.inr (.inr (.inr (rf3 r 2 2 3)))))), (r 2, .inr (4, [.ref (r 3), .int (S.1 0).1])), (r 3, .inl (0, 2646, .inl (S.1 0).2)), (r 15, .inl (3, 2, .inr (.inr (.inr (.inr (rf3 r 16 2 2)))))), (r 16, .inr (6, [.ref (r 17)])), (r 17, .inl (0, 21, .inl (S.2.2.1 0))), (r 20, .inr (2, [.int (S.2.2.2.1 0), .int (S.2.2.2.1 1), .int (S.2.2.2.1 2), .int (S.2.2.2.1 3), .int (S.2.2.2.1 4), .int (S.2.2.2.1 5)]))]) (wr := [(r 4, .inr (4, [.ref (r 5), .int (S.1 1).1])), (r 5, .inl (0, 2646, .inl (S.1 1).2)), (r 6, .inr (4, [.ref (r 7), .int (S.1 2).1])), (r 7, .inl (0, 2646, .inl (S.1 2).2)), (r 8, .inl (2, 3, .inr (.inr (.inr (.inr (rf3 r 9 2 3)))))), (r 9, .inr (3, [.int (S.2.1 0).1, .ref (r 10), .int (S.2.1 0).2.1])), (r 10, .inl (0, 21, .inl (S.2.1 0).2.2)), (r 11, .inr (3, [.int (S.2.1 1).1, .ref (r 12), .int (S.2.1 1).2.1])), (r 12, .inl (0, 21, .inl (S.2.1 1).2.2)), (r 13, .inr (3, [.int (S.2.1 2).1, .ref (r 14), .int (S.2.1 2).2.1])), (r 14, .inl (0, 21, .inl (S.2.1 2).2.2)), (r 18, .inr (6, [.ref (r 19)])), (r 19, .inl (0, 21, .inl (S.2.2.1 1))), (r 21, .inr (5, [.ref (r 22)])), (r 22, .inl (0, 21, .inl S.2.2.2.2.1)), (r 23, .inr (6, [.ref (r 24)])), (r 24, .inl (0, 21, .inl S.2.2.2.2.2.1)), (r 25, .inr (6, [.ref (r 26)])), (r 26, .inl (0, 21, .inl S.2.2.2.2.2.2))]) [0, 1, 2, 3, 15, 16, 17, 20] [4, 5, 6, 7, 8, 9, 10, 11, 12, 13, 14, 18, 19, 21, 22, 23, 24, 25, 26] (ok_X5_place (x := r 0) (M := r 1) (L := r 8) (Dk := r 15) (c := r 20) (se := r 21) (wk := r 23) (sp := r 25) (q := r 2) (a := r 3) (w := r 16) (d := r 17) (mf := rf3 r 2 2 3) (df := rf3 r 16 2 2) (fun h9 => by have h8 := ix_in h9; rw [e] at h8; exact (congrArg (rf3 r 2 2 3) h8.symm).trans rfl) (fun h9 => by have h8 := ix_in h9; rw [f] at h8; exact (congrArg (rf3 r 16 2 2) h8.symm).trans rfl) h0) rfl rfl rfl rfl (by decide) ?_
    rintro o w hp
    cases x0 with
    | inl z =>
      obtain ⟨g, e1, e2⟩ := PX.inl hp
      subst e1; subst e2
      exact ⟨_, [19, 20, 21, 22, 0, 1, 2, 3, 4, 5, 6, 7, 8, 9, 10, 23, 24, 25, 11, 12, 26, 13, 14, 15, 16, 17, 18], PX.mk g rfl rfl, rfl, rfl⟩
    | inr E =>
      obtain ⟨e1, e2⟩ := PX.inr hp
      subst e1; subst e2
      exact ⟨_, [19, 20, 21, 22, 0, 1, 2, 3, 4, 5, 6, 7, 8, 9, 10, 23, 24, 25, 11, 12, 26, 13, 14, 15, 16, 17, 18], PX.er, rfl, rfl⟩
  · rw [e, f] at h0
    try rw [e]
    try rw [f]
    refine ok_fr (wc := [(r 0, .inr (7, [.ref (r 1), .ref (r 8), .ref (r 15), .ref (r 20), .ref (r 21), .ref (r 23), .ref (r 25)])), (r 1, .inl (1, 3, .inr (.inr (.inr (.inr (rf3 r 2 2 3)))))), (r 2, .inr (4, [.ref (r 3), .int (S.1 0).1])), (r 3, .inl (0, 2646, .inl (S.1 0).2)), (r 15, .inl (3, 2, .inr (.inr (.inr (.inr (rf3 r 16 2 2)))))), (r 18, .inr (6, [.ref (r 19)])), (r 19, .inl (0, 21, .inl (S.2.2.1 1))), (r 20, .inr (2, [.int (S.2.2.2.1 0), .int (S.2.2.2.1 1), .int (S.2.2.2.1 2), .int (S.2.2.2.1 3), .int (S.2.2.2.1 4), .int (S.2.2.2.1 5)]))]) (wr := [(r 4, .inr (4, [.ref (r 5), .int (S.1 1).1])), (r 5, .inl (0, 2646, .inl (S.1 1).2)), (r 6, .inr (4, [.ref (r 7), .int (S.1 2).1])), (r 7, .inl (0, 2646, .inl (S.1 2).2)), (r 8, .inl (2, 3, .inr (.inr (.inr (.inr (rf3 r 9 2 3)))))), (r 9, .inr (3, [.int (S.2.1 0).1, .ref (r 10), .int (S.2.1 0).2.1])), (r 10, .inl (0, 21, .inl (S.2.1 0).2.2)), (r 11, .inr (3, [.int (S.2.1 1).1, .ref (r 12), .int (S.2.1 1).2.1])), (r 12, .inl (0, 21, .inl (S.2.1 1).2.2)), (r 13, .inr (3, [.int (S.2.1 2).1, .ref (r 14), .int (S.2.1 2).2.1])), (r 14, .inl (0, 21, .inl (S.2.1 2).2.2)), (r 16, .inr (6, [.ref (r 17)])), (r 17, .inl (0, 21, .inl (S.2.2.1 0))), (r 21, .inr (5, [.ref (r 22)])), (r 22, .inl (0, 21, .inl S.2.2.2.2.1)), (r 23, .inr (6, [.ref (r 24)])), (r 24, .inl (0, 21, .inl S.2.2.2.2.2.1)), (r 25, .inr (6, [.ref (r 26)])), (r 26, .inl (0, 21, .inl S.2.2.2.2.2.2))]) [0, 1, 2, 3, 15, 18, 19, 20] [4, 5, 6, 7, 8, 9, 10, 11, 12, 13, 14, 16, 17, 21, 22, 23, 24, 25, 26] (ok_X5_place (x := r 0) (M := r 1) (L := r 8) (Dk := r 15) (c := r 20) (se := r 21) (wk := r 23) (sp := r 25) (q := r 2) (a := r 3) (w := r 18) (d := r 19) (mf := rf3 r 2 2 3) (df := rf3 r 16 2 2) (fun h9 => by have h8 := ix_in h9; rw [e] at h8; exact (congrArg (rf3 r 2 2 3) h8.symm).trans rfl) (fun h9 => by have h8 := ix_in h9; rw [f] at h8; exact (congrArg (rf3 r 16 2 2) h8.symm).trans rfl) h0) rfl rfl rfl rfl (by decide) ?_
    rintro o w hp
    cases x0 with
    | inl z =>
      obtain ⟨g, e1, e2⟩ := PX.inl hp
      subst e1; subst e2
      exact ⟨_, [19, 20, 21, 22, 0, 1, 2, 3, 4, 5, 6, 7, 8, 9, 10, 23, 11, 12, 24, 25, 26, 13, 14, 15, 16, 17, 18], PX.mk g rfl rfl, rfl, rfl⟩
    | inr E =>
      obtain ⟨e1, e2⟩ := PX.inr hp
      subst e1; subst e2
      exact ⟨_, [19, 20, 21, 22, 0, 1, 2, 3, 4, 5, 6, 7, 8, 9, 10, 23, 11, 12, 24, 25, 26, 13, 14, 15, 16, 17, 18], PX.er, rfl, rfl⟩
  · rw [e, f] at h0
    try rw [e]
    try rw [f]
    refine ok_fr (wc := [(r 0, .inr (7, [.ref (r 1), .ref (r 8), .ref (r 15), .ref (r 20), .ref (r 21), .ref (r 23), .ref (r 25)])), (r 1, .inl (1, 3, .inr (.inr (.inr (.inr (rf3 r 2 2 3)))))), (r 4, .inr (4, [.ref (r 5), .int (S.1 1).1])), (r 5, .inl (0, 2646, .inl (S.1 1).2)), (r 15, .inl (3, 2, .inr (.inr (.inr (.inr (rf3 r 16 2 2)))))), (r 16, .inr (6, [.ref (r 17)])), (r 17, .inl (0, 21, .inl (S.2.2.1 0))), (r 20, .inr (2, [.int (S.2.2.2.1 0), .int (S.2.2.2.1 1), .int (S.2.2.2.1 2), .int (S.2.2.2.1 3), .int (S.2.2.2.1 4), .int (S.2.2.2.1 5)]))]) (wr := [(r 2, .inr (4, [.ref (r 3), .int (S.1 0).1])), (r 3, .inl (0, 2646, .inl (S.1 0).2)), (r 6, .inr (4, [.ref (r 7), .int (S.1 2).1])), (r 7, .inl (0, 2646, .inl (S.1 2).2)), (r 8, .inl (2, 3, .inr (.inr (.inr (.inr (rf3 r 9 2 3)))))), (r 9, .inr (3, [.int (S.2.1 0).1, .ref (r 10), .int (S.2.1 0).2.1])), (r 10, .inl (0, 21, .inl (S.2.1 0).2.2)), (r 11, .inr (3, [.int (S.2.1 1).1, .ref (r 12), .int (S.2.1 1).2.1])), (r 12, .inl (0, 21, .inl (S.2.1 1).2.2)), (r 13, .inr (3, [.int (S.2.1 2).1, .ref (r 14), .int (S.2.1 2).2.1])), (r 14, .inl (0, 21, .inl (S.2.1 2).2.2)), (r 18, .inr (6, [.ref (r 19)])), (r 19, .inl (0, 21, .inl (S.2.2.1 1))), (r 21, .inr (5, [.ref (r 22)])), (r 22, .inl (0, 21, .inl S.2.2.2.2.1)), (r 23, .inr (6, [.ref (r 24)])), (r 24, .inl (0, 21, .inl S.2.2.2.2.2.1)), (r 25, .inr (6, [.ref (r 26)])), (r 26, .inl (0, 21, .inl S.2.2.2.2.2.2))]) [0, 1, 4, 5, 15, 16, 17, 20] [2, 3, 6, 7, 8, 9, 10, 11, 12, 13, 14, 18, 19, 21, 22, 23, 24, 25, 26] (ok_X5_place (x := r 0) (M := r 1) (L := r 8) (Dk := r 15) (c := r 20) (se := r 21) (wk := r 23) (sp := r 25) (q := r 4) (a := r 5) (w := r 16) (d := r 17) (mf := rf3 r 2 2 3) (df := rf3 r 16 2 2) (fun h9 => by have h8 := ix_in h9; rw [e] at h8; exact (congrArg (rf3 r 2 2 3) h8.symm).trans rfl) (fun h9 => by have h8 := ix_in h9; rw [f] at h8; exact (congrArg (rf3 r 16 2 2) h8.symm).trans rfl) h0) rfl rfl rfl rfl (by decide) ?_
    rintro o w hp
    cases x0 with
    | inl z =>
      obtain ⟨g, e1, e2⟩ := PX.inl hp
      subst e1; subst e2
      exact ⟨_, [19, 20, 0, 1, 21, 22, 2, 3, 4, 5, 6, 7, 8, 9, 10, 23, 24, 25, 11, 12, 26, 13, 14, 15, 16, 17, 18], PX.mk g rfl rfl, rfl, rfl⟩
    | inr E =>
      obtain ⟨e1, e2⟩ := PX.inr hp
      subst e1; subst e2
      exact ⟨_, [19, 20, 0, 1, 21, 22, 2, 3, 4, 5, 6, 7, 8, 9, 10, 23, 24, 25, 11, 12, 26, 13, 14, 15, 16, 17, 18], PX.er, rfl, rfl⟩
  · rw [e, f] at h0
    try rw [e]
    try rw [f]
    refine ok_fr (wc := [(r 0, .inr (7, [.ref (r 1), .ref (r 8), .ref (r 15), .ref (r 20), .ref (r 21), .ref (r 23), .ref (r 25)])), (r 1, .inl (1, 3, .inr (.inr (.inr (.inr (rf3 r 2 2 3)))))), (r 4, .inr (4, [.ref (r 5), .int (S.1 1).1])), (r 5, .inl (0, 2646, .inl (S.1 1).2)), (r 15, .inl (3, 2, .inr (.inr (.inr (.inr (rf3 r 16 2 2)))))), (r 18, .inr (6, [.ref (r 19)])), (r 19, .inl (0, 21, .inl (S.2.2.1 1))), (r 20, .inr (2, [.int (S.2.2.2.1 0), .int (S.2.2.2.1 1), .int (S.2.2.2.1 2), .int (S.2.2.2.1 3), .int (S.2.2.2.1 4), .int (S.2.2.2.1 5)]))]) (wr := [(r 2, .inr (4, [.ref (r 3), .int (S.1 0).1])), (r 3, .inl (0, 2646, .inl (S.1 0).2)), (r 6, .inr (4, [.ref (r 7), .int (S.1 2).1])), (r 7, .inl (0, 2646, .inl (S.1 2).2)), (r 8, .inl (2, 3, .inr (.inr (.inr (.inr (rf3 r 9 2 3)))))), (r 9, .inr (3, [.int (S.2.1 0).1, .ref (r 10), .int (S.2.1 0).2.1])), (r 10, .inl (0, 21, .inl (S.2.1 0).2.2)), (r 11, .inr (3, [.int (S.2.1 1).1, .ref (r 12), .int (S.2.1 1).2.1])), (r 12, .inl (0, 21, .inl (S.2.1 1).2.2)), (r 13, .inr (3, [.int (S.2.1 2).1, .ref (r 14), .int (S.2.1 2).2.1])), (r 14, .inl (0, 21, .inl (S.2.1 2).2.2)), (r 16, .inr (6, [.ref (r 17)])), (r 17, .inl (0, 21, .inl (S.2.2.1 0))), (r 21, .inr (5, [.ref (r 22)])), (r 22, .inl (0, 21, .inl S.2.2.2.2.1)), (r 23, .inr (6, [.ref (r 24)])), (r 24, .inl (0, 21, .inl S.2.2.2.2.2.1)), (r 25, .inr (6, [.ref (r 26)])), (r 26, .inl (0, 21, .inl S.2.2.2.2.2.2))]) [0, 1, 4, 5, 15, 18, 19, 20] [2, 3, 6, 7, 8, 9, 10, 11, 12, 13, 14, 16, 17, 21, 22, 23, 24, 25, 26] (ok_X5_place (x := r 0) (M := r 1) (L := r 8) (Dk := r 15) (c := r 20) (se := r 21) (wk := r 23) (sp := r 25) (q := r 4) (a := r 5) (w := r 18) (d := r 19) (mf := rf3 r 2 2 3) (df := rf3 r 16 2 2) (fun h9 => by have h8 := ix_in h9; rw [e] at h8; exact (congrArg (rf3 r 2 2 3) h8.symm).trans rfl) (fun h9 => by have h8 := ix_in h9; rw [f] at h8; exact (congrArg (rf3 r 16 2 2) h8.symm).trans rfl) h0) rfl rfl rfl rfl (by decide) ?_
    rintro o w hp
    cases x0 with
    | inl z =>
      obtain ⟨g, e1, e2⟩ := PX.inl hp
      subst e1; subst e2
      exact ⟨_, [19, 20, 0, 1, 21, 22, 2, 3, 4, 5, 6, 7, 8, 9, 10, 23, 11, 12, 24, 25, 26, 13, 14, 15, 16, 17, 18], PX.mk g rfl rfl, rfl, rfl⟩
    | inr E =>
      obtain ⟨e1, e2⟩ := PX.inr hp
      subst e1; subst e2
      exact ⟨_, [19, 20, 0, 1, 21, 22, 2, 3, 4, 5, 6, 7, 8, 9, 10, 23, 11, 12, 24, 25, 26, 13, 14, 15, 16, 17, 18], PX.er, rfl, rfl⟩
  · rw [e, f] at h0
    try rw [e]
    try rw [f]
    refine ok_fr (wc := [(r 0, .inr (7, [.ref (r 1), .ref (r 8), .ref (r 15), .ref (r 20), .ref (r 21), .ref (r 23), .ref (r 25)])), (r 1, .inl (1, 3, .inr (.inr (.inr (.inr (rf3 r 2 2 3)))))), (r 6, .inr (4, [.ref (r 7), .int (S.1 2).1])), (r 7, .inl (0, 2646, .inl (S.1 2).2)), (r 15, .inl (3, 2, .inr (.inr (.inr (.inr (rf3 r 16 2 2)))))), (r 16, .inr (6, [.ref (r 17)])), (r 17, .inl (0, 21, .inl (S.2.2.1 0))), (r 20, .inr (2, [.int (S.2.2.2.1 0), .int (S.2.2.2.1 1), .int (S.2.2.2.1 2), .int (S.2.2.2.1 3), .int (S.2.2.2.1 4), .int (S.2.2.2.1 5)]))]) (wr := [(r 2, .inr (4, [.ref (r 3), .int (S.1 0).1])), (r 3, .inl (0, 2646, .inl (S.1 0).2)), (r 4, .inr (4, [.ref (r 5), .int (S.1 1).1])), (r 5, .inl (0, 2646, .inl (S.1 1).2)), (r 8, .inl (2, 3, .inr (.inr (.inr (.inr (rf3 r 9 2 3)))))), (r 9, .inr (3, [.int (S.2.1 0).1, .ref (r 10), .int (S.2.1 0).2.1])), (r 10, .inl (0, 21, .inl (S.2.1 0).2.2)), (r 11, .inr (3, [.int (S.2.1 1).1, .ref (r 12), .int (S.2.1 1).2.1])), (r 12, .inl (0, 21, .inl (S.2.1 1).2.2)), (r 13, .inr (3, [.int (S.2.1 2).1, .ref (r 14), .int (S.2.1 2).2.1])), (r 14, .inl (0, 21, .inl (S.2.1 2).2.2)), (r 18, .inr (6, [.ref (r 19)])), (r 19, .inl (0, 21, .inl (S.2.2.1 1))), (r 21, .inr (5, [.ref (r 22)])), (r 22, .inl (0, 21, .inl S.2.2.2.2.1)), (r 23, .inr (6, [.ref (r 24)])), (r 24, .inl (0, 21, .inl S.2.2.2.2.2.1)), (r 25, .inr (6, [.ref (r 26)])), (r 26, .inl (0, 21, .inl S.2.2.2.2.2.2))]) [0, 1, 6, 7, 15, 16, 17, 20] [2, 3, 4, 5, 8, 9, 10, 11, 12, 13, 14, 18, 19, 21, 22, 23, 24, 25, 26] (ok_X5_place (x := r 0) (M := r 1) (L := r 8) (Dk := r 15) (c := r 20) (se := r 21) (wk := r 23) (sp := r 25) (q := r 6) (a := r 7) (w := r 16) (d := r 17) (mf := rf3 r 2 2 3) (df := rf3 r 16 2 2) (fun h9 => by have h8 := ix_in h9; rw [e] at h8; exact (congrArg (rf3 r 2 2 3) h8.symm).trans rfl) (fun h9 => by have h8 := ix_in h9; rw [f] at h8; exact (congrArg (rf3 r 16 2 2) h8.symm).trans rfl) h0) rfl rfl rfl rfl (by decide) ?_
    rintro o w hp
    cases x0 with
    | inl z =>
      obtain ⟨g, e1, e2⟩ := PX.inl hp
      subst e1; subst e2
      exact ⟨_, [19, 20, 0, 1, 2, 3, 21, 22, 4, 5, 6, 7, 8, 9, 10, 23, 24, 25, 11, 12, 26, 13, 14, 15, 16, 17, 18], PX.mk g rfl rfl, rfl, rfl⟩
    | inr E =>
      obtain ⟨e1, e2⟩ := PX.inr hp
      subst e1; subst e2
      exact ⟨_, [19, 20, 0, 1, 2, 3, 21, 22, 4, 5, 6, 7, 8, 9, 10, 23, 24, 25, 11, 12, 26, 13, 14, 15, 16, 17, 18], PX.er, rfl, rfl⟩
  · rw [e, f] at h0
    try rw [e]
    try rw [f]
    refine ok_fr (wc := [(r 0, .inr (7, [.ref (r 1), .ref (r 8), .ref (r 15), .ref (r 20), .ref (r 21), .ref (r 23), .ref (r 25)])), (r 1, .inl (1, 3, .inr (.inr (.inr (.inr (rf3 r 2 2 3)))))), (r 6, .inr (4, [.ref (r 7), .int (S.1 2).1])), (r 7, .inl (0, 2646, .inl (S.1 2).2)), (r 15, .inl (3, 2, .inr (.inr (.inr (.inr (rf3 r 16 2 2)))))), (r 18, .inr (6, [.ref (r 19)])), (r 19, .inl (0, 21, .inl (S.2.2.1 1))), (r 20, .inr (2, [.int (S.2.2.2.1 0), .int (S.2.2.2.1 1), .int (S.2.2.2.1 2), .int (S.2.2.2.1 3), .int (S.2.2.2.1 4), .int (S.2.2.2.1 5)]))]) (wr := [(r 2, .inr (4, [.ref (r 3), .int (S.1 0).1])), (r 3, .inl (0, 2646, .inl (S.1 0).2)), (r 4, .inr (4, [.ref (r 5), .int (S.1 1).1])), (r 5, .inl (0, 2646, .inl (S.1 1).2)), (r 8, .inl (2, 3, .inr (.inr (.inr (.inr (rf3 r 9 2 3)))))), (r 9, .inr (3, [.int (S.2.1 0).1, .ref (r 10), .int (S.2.1 0).2.1])), (r 10, .inl (0, 21, .inl (S.2.1 0).2.2)), (r 11, .inr (3, [.int (S.2.1 1).1, .ref (r 12), .int (S.2.1 1).2.1])), (r 12, .inl (0, 21, .inl (S.2.1 1).2.2)), (r 13, .inr (3, [.int (S.2.1 2).1, .ref (r 14), .int (S.2.1 2).2.1])), (r 14, .inl (0, 21, .inl (S.2.1 2).2.2)), (r 16, .inr (6, [.ref (r 17)])), (r 17, .inl (0, 21, .inl (S.2.2.1 0))), (r 21, .inr (5, [.ref (r 22)])), (r 22, .inl (0, 21, .inl S.2.2.2.2.1)), (r 23, .inr (6, [.ref (r 24)])), (r 24, .inl (0, 21, .inl S.2.2.2.2.2.1)), (r 25, .inr (6, [.ref (r 26)])), (r 26, .inl (0, 21, .inl S.2.2.2.2.2.2))]) [0, 1, 6, 7, 15, 18, 19, 20] [2, 3, 4, 5, 8, 9, 10, 11, 12, 13, 14, 16, 17, 21, 22, 23, 24, 25, 26] (ok_X5_place (x := r 0) (M := r 1) (L := r 8) (Dk := r 15) (c := r 20) (se := r 21) (wk := r 23) (sp := r 25) (q := r 6) (a := r 7) (w := r 18) (d := r 19) (mf := rf3 r 2 2 3) (df := rf3 r 16 2 2) (fun h9 => by have h8 := ix_in h9; rw [e] at h8; exact (congrArg (rf3 r 2 2 3) h8.symm).trans rfl) (fun h9 => by have h8 := ix_in h9; rw [f] at h8; exact (congrArg (rf3 r 16 2 2) h8.symm).trans rfl) h0) rfl rfl rfl rfl (by decide) ?_
    rintro o w hp
    cases x0 with
    | inl z =>
      obtain ⟨g, e1, e2⟩ := PX.inl hp
      subst e1; subst e2
      exact ⟨_, [19, 20, 0, 1, 2, 3, 21, 22, 4, 5, 6, 7, 8, 9, 10, 23, 11, 12, 24, 25, 26, 13, 14, 15, 16, 17, 18], PX.mk g rfl rfl, rfl, rfl⟩
    | inr E =>
      obtain ⟨e1, e2⟩ := PX.inr hp
      subst e1; subst e2
      exact ⟨_, [19, 20, 0, 1, 2, 3, 21, 22, 4, 5, 6, 7, 8, 9, 10, 23, 11, 12, 24, 25, 26, 13, 14, 15, 16, 17, 18], PX.er, rfl, rfl⟩
def gX_learn (N K : Nat) (S : CS) (p0 : Int32) (p1 : Int32) (p2 : Int32) (p3 : Int32) : Option ((Int32 × CS) ⊕ String) := (fX5_learn N K ((S.1 (ix 3 p0)).1) ((S.1 (ix 3 p0)).2) (S.2.2.2.1 0) (S.2.2.2.1 1) (S.2.2.2.1 2) (S.2.2.2.1 3) (S.2.2.2.1 4) (S.2.2.2.1 5) S.2.2.2.2.1 p0 p1 p2 p3).map (fun o => match o with | .inl z => .inl (z.1, ((upm S.1 (ix 3 p0) (z.2.1, z.2.2.1)), S.2.1, S.2.2.1, (upm (upm S.2.2.2.1 0 z.2.2.2.1) 4 z.2.2.2.2.1), z.2.2.2.2.2, S.2.2.2.2.2.1, S.2.2.2.2.2.2)) | .inr E => .inr E)
set_option maxHeartbeats 4000000 in
set_option maxRecDepth 100000 in
theorem ogX_learn {N K : Nat} {r : Nat → Nat} {S : CS} {p0 : Int32} {p1 : Int32} {p2 : Int32} {p3 : Int32} {x : (Int32 × CS) ⊕ String} (hE : gX_learn N K S p0 p1 p2 p3 = some x) : OkM yX5_learn (.code yX5_learn cX5_learn 6 (some .int)) (10) 4 24 [.ref (r 0), .int p0, .int p1, .int p2, .int p3] (WX r S) ((PX (U := Int32 × CS) (fun z _ => some (.int z.1)) (fun z _ => WX r z.2) (WX r S)) x) := by
  unfold gX_learn at hE
  obtain ⟨x0, h0, h1⟩ := Option.map_eq_some_iff.mp hE
  subst h1
  clear hE
  rcases lt3 (ix_lt (n := 3) (p := p0) (by decide)) with e | e | e
  · rw [e] at h0
    try rw [e]
    refine ok_fr (wc := [(r 0, .inr (7, [.ref (r 1), .ref (r 8), .ref (r 15), .ref (r 20), .ref (r 21), .ref (r 23), .ref (r 25)])), (r 1, .inl (1, 3, .inr (.inr (.inr (.inr (rf3 r 2 2 3)))))), (r 2, .inr (4, [.ref (r 3), .int (S.1 0).1])), (r 3, .inl (0, 2646, .inl (S.1 0).2)), (r 20, .inr (2, [.int (S.2.2.2.1 0), .int (S.2.2.2.1 1), .int (S.2.2.2.1 2), .int (S.2.2.2.1 3), .int (S.2.2.2.1 4), .int (S.2.2.2.1 5)])), (r 21, .inr (5, [.ref (r 22)])), (r 22, .inl (0, 21, .inl S.2.2.2.2.1))]) (wr := [(r 4, .inr (4, [.ref (r 5), .int (S.1 1).1])), (r 5, .inl (0, 2646, .inl (S.1 1).2)), (r 6, .inr (4, [.ref (r 7), .int (S.1 2).1])), (r 7, .inl (0, 2646, .inl (S.1 2).2)), (r 8, .inl (2, 3, .inr (.inr (.inr (.inr (rf3 r 9 2 3)))))), (r 9, .inr (3, [.int (S.2.1 0).1, .ref (r 10), .int (S.2.1 0).2.1])), (r 10, .inl (0, 21, .inl (S.2.1 0).2.2)), (r 11, .inr (3, [.int (S.2.1 1).1, .ref (r 12), .int (S.2.1 1).2.1])), (r 12, .inl (0, 21, .inl (S.2.1 1).2.2)), (r 13, .inr (3, [.int (S.2.1 2).1, .ref (r 14), .int (S.2.1 2).2.1])), (r 14, .inl (0, 21, .inl (S.2.1 2).2.2)), (r 15, .inl (3, 2, .inr (.inr (.inr (.inr (rf3 r 16 2 2)))))), (r 16, .inr (6, [.ref (r 17)])), (r 17, .inl (0, 21, .inl (S.2.2.1 0))), (r 18, .inr (6, [.ref (r 19)])), (r 19, .inl (0, 21, .inl (S.2.2.1 1))), (r 23, .inr (6, [.ref (r 24)])), (r 24, .inl (0, 21, .inl S.2.2.2.2.2.1)), (r 25, .inr (6, [.ref (r 26)])), (r 26, .inl (0, 21, .inl S.2.2.2.2.2.2))]) [0, 1, 2, 3, 20, 21, 22] [4, 5, 6, 7, 8, 9, 10, 11, 12, 13, 14, 15, 16, 17, 18, 19, 23, 24, 25, 26] (ok_X5_learn (x := r 0) (M := r 1) (L := r 8) (Dk := r 15) (c := r 20) (se := r 21) (wk := r 23) (sp := r 25) (q := r 2) (a := r 3) (sr := r 22) (mf := rf3 r 2 2 3) (fun h9 => by have h8 := ix_in h9; rw [e] at h8; exact (congrArg (rf3 r 2 2 3) h8.symm).trans rfl) h0) rfl rfl rfl rfl (by decide) ?_
    rintro o w hp
    cases x0 with
    | inl z =>
      obtain ⟨g, e1, e2⟩ := PX.inl hp
      subst e1; subst e2
      exact ⟨_, [20, 21, 22, 23, 0, 1, 2, 3, 4, 5, 6, 7, 8, 9, 10, 11, 12, 13, 14, 15, 24, 25, 26, 16, 17, 18, 19], PX.mk g rfl rfl, rfl, rfl⟩
    | inr E =>
      obtain ⟨e1, e2⟩ := PX.inr hp
      subst e1; subst e2
      exact ⟨_, [20, 21, 22, 23, 0, 1, 2, 3, 4, 5, 6, 7, 8, 9, 10, 11, 12, 13, 14, 15, 24, 25, 26, 16, 17, 18, 19], PX.er, rfl, rfl⟩
  · rw [e] at h0
    try rw [e]
    refine ok_fr (wc := [(r 0, .inr (7, [.ref (r 1), .ref (r 8), .ref (r 15), .ref (r 20), .ref (r 21), .ref (r 23), .ref (r 25)])), (r 1, .inl (1, 3, .inr (.inr (.inr (.inr (rf3 r 2 2 3)))))), (r 4, .inr (4, [.ref (r 5), .int (S.1 1).1])), (r 5, .inl (0, 2646, .inl (S.1 1).2)), (r 20, .inr (2, [.int (S.2.2.2.1 0), .int (S.2.2.2.1 1), .int (S.2.2.2.1 2), .int (S.2.2.2.1 3), .int (S.2.2.2.1 4), .int (S.2.2.2.1 5)])), (r 21, .inr (5, [.ref (r 22)])), (r 22, .inl (0, 21, .inl S.2.2.2.2.1))]) (wr := [(r 2, .inr (4, [.ref (r 3), .int (S.1 0).1])), (r 3, .inl (0, 2646, .inl (S.1 0).2)), (r 6, .inr (4, [.ref (r 7), .int (S.1 2).1])), (r 7, .inl (0, 2646, .inl (S.1 2).2)), (r 8, .inl (2, 3, .inr (.inr (.inr (.inr (rf3 r 9 2 3)))))), (r 9, .inr (3, [.int (S.2.1 0).1, .ref (r 10), .int (S.2.1 0).2.1])), (r 10, .inl (0, 21, .inl (S.2.1 0).2.2)), (r 11, .inr (3, [.int (S.2.1 1).1, .ref (r 12), .int (S.2.1 1).2.1])), (r 12, .inl (0, 21, .inl (S.2.1 1).2.2)), (r 13, .inr (3, [.int (S.2.1 2).1, .ref (r 14), .int (S.2.1 2).2.1])), (r 14, .inl (0, 21, .inl (S.2.1 2).2.2)), (r 15, .inl (3, 2, .inr (.inr (.inr (.inr (rf3 r 16 2 2)))))), (r 16, .inr (6, [.ref (r 17)])), (r 17, .inl (0, 21, .inl (S.2.2.1 0))), (r 18, .inr (6, [.ref (r 19)])), (r 19, .inl (0, 21, .inl (S.2.2.1 1))), (r 23, .inr (6, [.ref (r 24)])), (r 24, .inl (0, 21, .inl S.2.2.2.2.2.1)), (r 25, .inr (6, [.ref (r 26)])), (r 26, .inl (0, 21, .inl S.2.2.2.2.2.2))]) [0, 1, 4, 5, 20, 21, 22] [2, 3, 6, 7, 8, 9, 10, 11, 12, 13, 14, 15, 16, 17, 18, 19, 23, 24, 25, 26] (ok_X5_learn (x := r 0) (M := r 1) (L := r 8) (Dk := r 15) (c := r 20) (se := r 21) (wk := r 23) (sp := r 25) (q := r 4) (a := r 5) (sr := r 22) (mf := rf3 r 2 2 3) (fun h9 => by have h8 := ix_in h9; rw [e] at h8; exact (congrArg (rf3 r 2 2 3) h8.symm).trans rfl) h0) rfl rfl rfl rfl (by decide) ?_
    rintro o w hp
    cases x0 with
    | inl z =>
      obtain ⟨g, e1, e2⟩ := PX.inl hp
      subst e1; subst e2
      exact ⟨_, [20, 21, 0, 1, 22, 23, 2, 3, 4, 5, 6, 7, 8, 9, 10, 11, 12, 13, 14, 15, 24, 25, 26, 16, 17, 18, 19], PX.mk g rfl rfl, rfl, rfl⟩
    | inr E =>
      obtain ⟨e1, e2⟩ := PX.inr hp
      subst e1; subst e2
      exact ⟨_, [20, 21, 0, 1, 22, 23, 2, 3, 4, 5, 6, 7, 8, 9, 10, 11, 12, 13, 14, 15, 24, 25, 26, 16, 17, 18, 19], PX.er, rfl, rfl⟩
  · rw [e] at h0
    try rw [e]
    refine ok_fr (wc := [(r 0, .inr (7, [.ref (r 1), .ref (r 8), .ref (r 15), .ref (r 20), .ref (r 21), .ref (r 23), .ref (r 25)])), (r 1, .inl (1, 3, .inr (.inr (.inr (.inr (rf3 r 2 2 3)))))), (r 6, .inr (4, [.ref (r 7), .int (S.1 2).1])), (r 7, .inl (0, 2646, .inl (S.1 2).2)), (r 20, .inr (2, [.int (S.2.2.2.1 0), .int (S.2.2.2.1 1), .int (S.2.2.2.1 2), .int (S.2.2.2.1 3), .int (S.2.2.2.1 4), .int (S.2.2.2.1 5)])), (r 21, .inr (5, [.ref (r 22)])), (r 22, .inl (0, 21, .inl S.2.2.2.2.1))]) (wr := [(r 2, .inr (4, [.ref (r 3), .int (S.1 0).1])), (r 3, .inl (0, 2646, .inl (S.1 0).2)), (r 4, .inr (4, [.ref (r 5), .int (S.1 1).1])), (r 5, .inl (0, 2646, .inl (S.1 1).2)), (r 8, .inl (2, 3, .inr (.inr (.inr (.inr (rf3 r 9 2 3)))))), (r 9, .inr (3, [.int (S.2.1 0).1, .ref (r 10), .int (S.2.1 0).2.1])), (r 10, .inl (0, 21, .inl (S.2.1 0).2.2)), (r 11, .inr (3, [.int (S.2.1 1).1, .ref (r 12), .int (S.2.1 1).2.1])), (r 12, .inl (0, 21, .inl (S.2.1 1).2.2)), (r 13, .inr (3, [.int (S.2.1 2).1, .ref (r 14), .int (S.2.1 2).2.1])), (r 14, .inl (0, 21, .inl (S.2.1 2).2.2)), (r 15, .inl (3, 2, .inr (.inr (.inr (.inr (rf3 r 16 2 2)))))), (r 16, .inr (6, [.ref (r 17)])), (r 17, .inl (0, 21, .inl (S.2.2.1 0))), (r 18, .inr (6, [.ref (r 19)])), (r 19, .inl (0, 21, .inl (S.2.2.1 1))), (r 23, .inr (6, [.ref (r 24)])), (r 24, .inl (0, 21, .inl S.2.2.2.2.2.1)), (r 25, .inr (6, [.ref (r 26)])), (r 26, .inl (0, 21, .inl S.2.2.2.2.2.2))]) [0, 1, 6, 7, 20, 21, 22] [2, 3, 4, 5, 8, 9, 10, 11, 12, 13, 14, 15, 16, 17, 18, 19, 23, 24, 25, 26] (ok_X5_learn (x := r 0) (M := r 1) (L := r 8) (Dk := r 15) (c := r 20) (se := r 21) (wk := r 23) (sp := r 25) (q := r 6) (a := r 7) (sr := r 22) (mf := rf3 r 2 2 3) (fun h9 => by have h8 := ix_in h9; rw [e] at h8; exact (congrArg (rf3 r 2 2 3) h8.symm).trans rfl) h0) rfl rfl rfl rfl (by decide) ?_
    rintro o w hp
    cases x0 with
    | inl z =>
      obtain ⟨g, e1, e2⟩ := PX.inl hp
      subst e1; subst e2
      exact ⟨_, [20, 21, 0, 1, 2, 3, 22, 23, 4, 5, 6, 7, 8, 9, 10, 11, 12, 13, 14, 15, 24, 25, 26, 16, 17, 18, 19], PX.mk g rfl rfl, rfl, rfl⟩
    | inr E =>
      obtain ⟨e1, e2⟩ := PX.inr hp
      subst e1; subst e2
      exact ⟨_, [20, 21, 0, 1, 2, 3, 22, 23, 4, 5, 6, 7, 8, 9, 10, 11, 12, 13, 14, 15, 24, 25, 26, 16, 17, 18, 19], PX.er, rfl, rfl⟩
def gX_relearn (N K : Nat) (S : CS) (p0 : Int32) (p1 : Int32) (p2 : Int32) (p3 : Int32) : Option ((Int32 × CS) ⊕ String) := (fX5_relearn N K ((S.1 (ix 3 p0)).1) ((S.1 (ix 3 p0)).2) (S.2.2.2.1 0) (S.2.2.2.1 1) (S.2.2.2.1 2) (S.2.2.2.1 3) (S.2.2.2.1 4) (S.2.2.2.1 5) S.2.2.2.2.2.1 S.2.2.2.2.2.2 p0 p1 p2 p3).map (fun o => match o with | .inl z => .inl (z.1, ((upm S.1 (ix 3 p0) (z.2.1, z.2.2.1)), S.2.1, S.2.2.1, (upm (upm S.2.2.2.1 0 z.2.2.2.1) 4 z.2.2.2.2.1), S.2.2.2.2.1, z.2.2.2.2.2.1, z.2.2.2.2.2.2)) | .inr E => .inr E)
set_option maxHeartbeats 4000000 in
set_option maxRecDepth 100000 in
theorem ogX_relearn {N K : Nat} {r : Nat → Nat} {S : CS} {p0 : Int32} {p1 : Int32} {p2 : Int32} {p3 : Int32} {x : (Int32 × CS) ⊕ String} (hE : gX_relearn N K S p0 p1 p2 p3 = some x) : OkM yX5_relearn (.code yX5_relearn cX5_relearn 7 (some .int)) (10) 4 24 [.ref (r 0), .int p0, .int p1, .int p2, .int p3] (WX r S) ((PX (U := Int32 × CS) (fun z _ => some (.int z.1)) (fun z _ => WX r z.2) (WX r S)) x) := by
  unfold gX_relearn at hE
  obtain ⟨x0, h0, h1⟩ := Option.map_eq_some_iff.mp hE
  subst h1
  clear hE
  rcases lt3 (ix_lt (n := 3) (p := p0) (by decide)) with e | e | e
  · rw [e] at h0
    try rw [e]
    refine ok_fr (wc := [(r 0, .inr (7, [.ref (r 1), .ref (r 8), .ref (r 15), .ref (r 20), .ref (r 21), .ref (r 23), .ref (r 25)])), (r 1, .inl (1, 3, .inr (.inr (.inr (.inr (rf3 r 2 2 3)))))), (r 2, .inr (4, [.ref (r 3), .int (S.1 0).1])), (r 3, .inl (0, 2646, .inl (S.1 0).2)), (r 20, .inr (2, [.int (S.2.2.2.1 0), .int (S.2.2.2.1 1), .int (S.2.2.2.1 2), .int (S.2.2.2.1 3), .int (S.2.2.2.1 4), .int (S.2.2.2.1 5)])), (r 23, .inr (6, [.ref (r 24)])), (r 24, .inl (0, 21, .inl S.2.2.2.2.2.1)), (r 25, .inr (6, [.ref (r 26)])), (r 26, .inl (0, 21, .inl S.2.2.2.2.2.2))]) (wr := [(r 4, .inr (4, [.ref (r 5), .int (S.1 1).1])), (r 5, .inl (0, 2646, .inl (S.1 1).2)), (r 6, .inr (4, [.ref (r 7), .int (S.1 2).1])), (r 7, .inl (0, 2646, .inl (S.1 2).2)), (r 8, .inl (2, 3, .inr (.inr (.inr (.inr (rf3 r 9 2 3)))))), (r 9, .inr (3, [.int (S.2.1 0).1, .ref (r 10), .int (S.2.1 0).2.1])), (r 10, .inl (0, 21, .inl (S.2.1 0).2.2)), (r 11, .inr (3, [.int (S.2.1 1).1, .ref (r 12), .int (S.2.1 1).2.1])), (r 12, .inl (0, 21, .inl (S.2.1 1).2.2)), (r 13, .inr (3, [.int (S.2.1 2).1, .ref (r 14), .int (S.2.1 2).2.1])), (r 14, .inl (0, 21, .inl (S.2.1 2).2.2)), (r 15, .inl (3, 2, .inr (.inr (.inr (.inr (rf3 r 16 2 2)))))), (r 16, .inr (6, [.ref (r 17)])), (r 17, .inl (0, 21, .inl (S.2.2.1 0))), (r 18, .inr (6, [.ref (r 19)])), (r 19, .inl (0, 21, .inl (S.2.2.1 1))), (r 21, .inr (5, [.ref (r 22)])), (r 22, .inl (0, 21, .inl S.2.2.2.2.1))]) [0, 1, 2, 3, 20, 23, 24, 25, 26] [4, 5, 6, 7, 8, 9, 10, 11, 12, 13, 14, 15, 16, 17, 18, 19, 21, 22] (ok_X5_relearn (x := r 0) (M := r 1) (L := r 8) (Dk := r 15) (c := r 20) (se := r 21) (wk := r 23) (sp := r 25) (q := r 2) (a := r 3) (wa := r 24) (sa := r 26) (mf := rf3 r 2 2 3) (fun h9 => by have h8 := ix_in h9; rw [e] at h8; exact (congrArg (rf3 r 2 2 3) h8.symm).trans rfl) h0) rfl rfl rfl rfl (by decide) ?_
    rintro o w hp
    cases x0 with
    | inl z =>
      obtain ⟨g, e1, e2⟩ := PX.inl hp
      subst e1; subst e2
      exact ⟨_, [18, 19, 20, 21, 0, 1, 2, 3, 4, 5, 6, 7, 8, 9, 10, 11, 12, 13, 14, 15, 22, 16, 17, 23, 24, 25, 26], PX.mk g rfl rfl, rfl, rfl⟩
    | inr E =>
      obtain ⟨e1, e2⟩ := PX.inr hp
      subst e1; subst e2
      exact ⟨_, [18, 19, 20, 21, 0, 1, 2, 3, 4, 5, 6, 7, 8, 9, 10, 11, 12, 13, 14, 15, 22, 16, 17, 23, 24, 25, 26], PX.er, rfl, rfl⟩
  · rw [e] at h0
    try rw [e]
    refine ok_fr (wc := [(r 0, .inr (7, [.ref (r 1), .ref (r 8), .ref (r 15), .ref (r 20), .ref (r 21), .ref (r 23), .ref (r 25)])), (r 1, .inl (1, 3, .inr (.inr (.inr (.inr (rf3 r 2 2 3)))))), (r 4, .inr (4, [.ref (r 5), .int (S.1 1).1])), (r 5, .inl (0, 2646, .inl (S.1 1).2)), (r 20, .inr (2, [.int (S.2.2.2.1 0), .int (S.2.2.2.1 1), .int (S.2.2.2.1 2), .int (S.2.2.2.1 3), .int (S.2.2.2.1 4), .int (S.2.2.2.1 5)])), (r 23, .inr (6, [.ref (r 24)])), (r 24, .inl (0, 21, .inl S.2.2.2.2.2.1)), (r 25, .inr (6, [.ref (r 26)])), (r 26, .inl (0, 21, .inl S.2.2.2.2.2.2))]) (wr := [(r 2, .inr (4, [.ref (r 3), .int (S.1 0).1])), (r 3, .inl (0, 2646, .inl (S.1 0).2)), (r 6, .inr (4, [.ref (r 7), .int (S.1 2).1])), (r 7, .inl (0, 2646, .inl (S.1 2).2)), (r 8, .inl (2, 3, .inr (.inr (.inr (.inr (rf3 r 9 2 3)))))), (r 9, .inr (3, [.int (S.2.1 0).1, .ref (r 10), .int (S.2.1 0).2.1])), (r 10, .inl (0, 21, .inl (S.2.1 0).2.2)), (r 11, .inr (3, [.int (S.2.1 1).1, .ref (r 12), .int (S.2.1 1).2.1])), (r 12, .inl (0, 21, .inl (S.2.1 1).2.2)), (r 13, .inr (3, [.int (S.2.1 2).1, .ref (r 14), .int (S.2.1 2).2.1])), (r 14, .inl (0, 21, .inl (S.2.1 2).2.2)), (r 15, .inl (3, 2, .inr (.inr (.inr (.inr (rf3 r 16 2 2)))))), (r 16, .inr (6, [.ref (r 17)])), (r 17, .inl (0, 21, .inl (S.2.2.1 0))), (r 18, .inr (6, [.ref (r 19)])), (r 19, .inl (0, 21, .inl (S.2.2.1 1))), (r 21, .inr (5, [.ref (r 22)])), (r 22, .inl (0, 21, .inl S.2.2.2.2.1))]) [0, 1, 4, 5, 20, 23, 24, 25, 26] [2, 3, 6, 7, 8, 9, 10, 11, 12, 13, 14, 15, 16, 17, 18, 19, 21, 22] (ok_X5_relearn (x := r 0) (M := r 1) (L := r 8) (Dk := r 15) (c := r 20) (se := r 21) (wk := r 23) (sp := r 25) (q := r 4) (a := r 5) (wa := r 24) (sa := r 26) (mf := rf3 r 2 2 3) (fun h9 => by have h8 := ix_in h9; rw [e] at h8; exact (congrArg (rf3 r 2 2 3) h8.symm).trans rfl) h0) rfl rfl rfl rfl (by decide) ?_
    rintro o w hp
    cases x0 with
    | inl z =>
      obtain ⟨g, e1, e2⟩ := PX.inl hp
      subst e1; subst e2
      exact ⟨_, [18, 19, 0, 1, 20, 21, 2, 3, 4, 5, 6, 7, 8, 9, 10, 11, 12, 13, 14, 15, 22, 16, 17, 23, 24, 25, 26], PX.mk g rfl rfl, rfl, rfl⟩
    | inr E =>
      obtain ⟨e1, e2⟩ := PX.inr hp
      subst e1; subst e2
      exact ⟨_, [18, 19, 0, 1, 20, 21, 2, 3, 4, 5, 6, 7, 8, 9, 10, 11, 12, 13, 14, 15, 22, 16, 17, 23, 24, 25, 26], PX.er, rfl, rfl⟩
  · rw [e] at h0
    try rw [e]
    refine ok_fr (wc := [(r 0, .inr (7, [.ref (r 1), .ref (r 8), .ref (r 15), .ref (r 20), .ref (r 21), .ref (r 23), .ref (r 25)])), (r 1, .inl (1, 3, .inr (.inr (.inr (.inr (rf3 r 2 2 3)))))), (r 6, .inr (4, [.ref (r 7), .int (S.1 2).1])), (r 7, .inl (0, 2646, .inl (S.1 2).2)), (r 20, .inr (2, [.int (S.2.2.2.1 0), .int (S.2.2.2.1 1), .int (S.2.2.2.1 2), .int (S.2.2.2.1 3), .int (S.2.2.2.1 4), .int (S.2.2.2.1 5)])), (r 23, .inr (6, [.ref (r 24)])), (r 24, .inl (0, 21, .inl S.2.2.2.2.2.1)), (r 25, .inr (6, [.ref (r 26)])), (r 26, .inl (0, 21, .inl S.2.2.2.2.2.2))]) (wr := [(r 2, .inr (4, [.ref (r 3), .int (S.1 0).1])), (r 3, .inl (0, 2646, .inl (S.1 0).2)), (r 4, .inr (4, [.ref (r 5), .int (S.1 1).1])), (r 5, .inl (0, 2646, .inl (S.1 1).2)), (r 8, .inl (2, 3, .inr (.inr (.inr (.inr (rf3 r 9 2 3)))))), (r 9, .inr (3, [.int (S.2.1 0).1, .ref (r 10), .int (S.2.1 0).2.1])), (r 10, .inl (0, 21, .inl (S.2.1 0).2.2)), (r 11, .inr (3, [.int (S.2.1 1).1, .ref (r 12), .int (S.2.1 1).2.1])), (r 12, .inl (0, 21, .inl (S.2.1 1).2.2)), (r 13, .inr (3, [.int (S.2.1 2).1, .ref (r 14), .int (S.2.1 2).2.1])), (r 14, .inl (0, 21, .inl (S.2.1 2).2.2)), (r 15, .inl (3, 2, .inr (.inr (.inr (.inr (rf3 r 16 2 2)))))), (r 16, .inr (6, [.ref (r 17)])), (r 17, .inl (0, 21, .inl (S.2.2.1 0))), (r 18, .inr (6, [.ref (r 19)])), (r 19, .inl (0, 21, .inl (S.2.2.1 1))), (r 21, .inr (5, [.ref (r 22)])), (r 22, .inl (0, 21, .inl S.2.2.2.2.1))]) [0, 1, 6, 7, 20, 23, 24, 25, 26] [2, 3, 4, 5, 8, 9, 10, 11, 12, 13, 14, 15, 16, 17, 18, 19, 21, 22] (ok_X5_relearn (x := r 0) (M := r 1) (L := r 8) (Dk := r 15) (c := r 20) (se := r 21) (wk := r 23) (sp := r 25) (q := r 6) (a := r 7) (wa := r 24) (sa := r 26) (mf := rf3 r 2 2 3) (fun h9 => by have h8 := ix_in h9; rw [e] at h8; exact (congrArg (rf3 r 2 2 3) h8.symm).trans rfl) h0) rfl rfl rfl rfl (by decide) ?_
    rintro o w hp
    cases x0 with
    | inl z =>
      obtain ⟨g, e1, e2⟩ := PX.inl hp
      subst e1; subst e2
      exact ⟨_, [18, 19, 0, 1, 2, 3, 20, 21, 4, 5, 6, 7, 8, 9, 10, 11, 12, 13, 14, 15, 22, 16, 17, 23, 24, 25, 26], PX.mk g rfl rfl, rfl, rfl⟩
    | inr E =>
      obtain ⟨e1, e2⟩ := PX.inr hp
      subst e1; subst e2
      exact ⟨_, [18, 19, 0, 1, 2, 3, 20, 21, 4, 5, 6, 7, 8, 9, 10, 11, 12, 13, 14, 15, 22, 16, 17, 23, 24, 25, 26], PX.er, rfl, rfl⟩
def gX_forget (N K : Nat) (S : CS) (p0 : Int32) (p1 : Int32) (p2 : Int32) (p3 : Int32) : Option ((Int32 × CS) ⊕ String) := (fX5_forget N K ((S.1 (ix 3 p0)).1) ((S.1 (ix 3 p0)).2) (S.2.2.2.1 0) (S.2.2.2.1 1) (S.2.2.2.1 2) (S.2.2.2.1 3) (S.2.2.2.1 4) (S.2.2.2.1 5) p0 p1 p2 p3).map (fun o => match o with | .inl z => .inl (z.1, ((upm S.1 (ix 3 p0) (z.2.1, z.2.2.1)), S.2.1, S.2.2.1, (upm (upm S.2.2.2.1 0 z.2.2.2.1) 4 z.2.2.2.2), S.2.2.2.2.1, S.2.2.2.2.2.1, S.2.2.2.2.2.2)) | .inr E => .inr E)
set_option maxHeartbeats 4000000 in
set_option maxRecDepth 100000 in
theorem ogX_forget {N K : Nat} {r : Nat → Nat} {S : CS} {p0 : Int32} {p1 : Int32} {p2 : Int32} {p3 : Int32} {x : (Int32 × CS) ⊕ String} (hE : gX_forget N K S p0 p1 p2 p3 = some x) : OkM yX5_forget (.code yX5_forget cX5_forget 7 (some .int)) (10) 4 24 [.ref (r 0), .int p0, .int p1, .int p2, .int p3] (WX r S) ((PX (U := Int32 × CS) (fun z _ => some (.int z.1)) (fun z _ => WX r z.2) (WX r S)) x) := by
  unfold gX_forget at hE
  obtain ⟨x0, h0, h1⟩ := Option.map_eq_some_iff.mp hE
  subst h1
  clear hE
  rcases lt3 (ix_lt (n := 3) (p := p0) (by decide)) with e | e | e
  · rw [e] at h0
    try rw [e]
    refine ok_fr (wc := [(r 0, .inr (7, [.ref (r 1), .ref (r 8), .ref (r 15), .ref (r 20), .ref (r 21), .ref (r 23), .ref (r 25)])), (r 1, .inl (1, 3, .inr (.inr (.inr (.inr (rf3 r 2 2 3)))))), (r 2, .inr (4, [.ref (r 3), .int (S.1 0).1])), (r 3, .inl (0, 2646, .inl (S.1 0).2)), (r 20, .inr (2, [.int (S.2.2.2.1 0), .int (S.2.2.2.1 1), .int (S.2.2.2.1 2), .int (S.2.2.2.1 3), .int (S.2.2.2.1 4), .int (S.2.2.2.1 5)]))]) (wr := [(r 4, .inr (4, [.ref (r 5), .int (S.1 1).1])), (r 5, .inl (0, 2646, .inl (S.1 1).2)), (r 6, .inr (4, [.ref (r 7), .int (S.1 2).1])), (r 7, .inl (0, 2646, .inl (S.1 2).2)), (r 8, .inl (2, 3, .inr (.inr (.inr (.inr (rf3 r 9 2 3)))))), (r 9, .inr (3, [.int (S.2.1 0).1, .ref (r 10), .int (S.2.1 0).2.1])), (r 10, .inl (0, 21, .inl (S.2.1 0).2.2)), (r 11, .inr (3, [.int (S.2.1 1).1, .ref (r 12), .int (S.2.1 1).2.1])), (r 12, .inl (0, 21, .inl (S.2.1 1).2.2)), (r 13, .inr (3, [.int (S.2.1 2).1, .ref (r 14), .int (S.2.1 2).2.1])), (r 14, .inl (0, 21, .inl (S.2.1 2).2.2)), (r 15, .inl (3, 2, .inr (.inr (.inr (.inr (rf3 r 16 2 2)))))), (r 16, .inr (6, [.ref (r 17)])), (r 17, .inl (0, 21, .inl (S.2.2.1 0))), (r 18, .inr (6, [.ref (r 19)])), (r 19, .inl (0, 21, .inl (S.2.2.1 1))), (r 21, .inr (5, [.ref (r 22)])), (r 22, .inl (0, 21, .inl S.2.2.2.2.1)), (r 23, .inr (6, [.ref (r 24)])), (r 24, .inl (0, 21, .inl S.2.2.2.2.2.1)), (r 25, .inr (6, [.ref (r 26)])), (r 26, .inl (0, 21, .inl S.2.2.2.2.2.2))]) [0, 1, 2, 3, 20] [4, 5, 6, 7, 8, 9, 10, 11, 12, 13, 14, 15, 16, 17, 18, 19, 21, 22, 23, 24, 25, 26] (ok_X5_forget (x := r 0) (M := r 1) (L := r 8) (Dk := r 15) (c := r 20) (se := r 21) (wk := r 23) (sp := r 25) (q := r 2) (a := r 3) (mf := rf3 r 2 2 3) (fun h9 => by have h8 := ix_in h9; rw [e] at h8; exact (congrArg (rf3 r 2 2 3) h8.symm).trans rfl) h0) rfl rfl rfl rfl (by decide) ?_
    rintro o w hp
    cases x0 with
    | inl z =>
      obtain ⟨g, e1, e2⟩ := PX.inl hp
      subst e1; subst e2
      exact ⟨_, [22, 23, 24, 25, 0, 1, 2, 3, 4, 5, 6, 7, 8, 9, 10, 11, 12, 13, 14, 15, 26, 16, 17, 18, 19, 20, 21], PX.mk g rfl rfl, rfl, rfl⟩
    | inr E =>
      obtain ⟨e1, e2⟩ := PX.inr hp
      subst e1; subst e2
      exact ⟨_, [22, 23, 24, 25, 0, 1, 2, 3, 4, 5, 6, 7, 8, 9, 10, 11, 12, 13, 14, 15, 26, 16, 17, 18, 19, 20, 21], PX.er, rfl, rfl⟩
  · rw [e] at h0
    try rw [e]
    refine ok_fr (wc := [(r 0, .inr (7, [.ref (r 1), .ref (r 8), .ref (r 15), .ref (r 20), .ref (r 21), .ref (r 23), .ref (r 25)])), (r 1, .inl (1, 3, .inr (.inr (.inr (.inr (rf3 r 2 2 3)))))), (r 4, .inr (4, [.ref (r 5), .int (S.1 1).1])), (r 5, .inl (0, 2646, .inl (S.1 1).2)), (r 20, .inr (2, [.int (S.2.2.2.1 0), .int (S.2.2.2.1 1), .int (S.2.2.2.1 2), .int (S.2.2.2.1 3), .int (S.2.2.2.1 4), .int (S.2.2.2.1 5)]))]) (wr := [(r 2, .inr (4, [.ref (r 3), .int (S.1 0).1])), (r 3, .inl (0, 2646, .inl (S.1 0).2)), (r 6, .inr (4, [.ref (r 7), .int (S.1 2).1])), (r 7, .inl (0, 2646, .inl (S.1 2).2)), (r 8, .inl (2, 3, .inr (.inr (.inr (.inr (rf3 r 9 2 3)))))), (r 9, .inr (3, [.int (S.2.1 0).1, .ref (r 10), .int (S.2.1 0).2.1])), (r 10, .inl (0, 21, .inl (S.2.1 0).2.2)), (r 11, .inr (3, [.int (S.2.1 1).1, .ref (r 12), .int (S.2.1 1).2.1])), (r 12, .inl (0, 21, .inl (S.2.1 1).2.2)), (r 13, .inr (3, [.int (S.2.1 2).1, .ref (r 14), .int (S.2.1 2).2.1])), (r 14, .inl (0, 21, .inl (S.2.1 2).2.2)), (r 15, .inl (3, 2, .inr (.inr (.inr (.inr (rf3 r 16 2 2)))))), (r 16, .inr (6, [.ref (r 17)])), (r 17, .inl (0, 21, .inl (S.2.2.1 0))), (r 18, .inr (6, [.ref (r 19)])), (r 19, .inl (0, 21, .inl (S.2.2.1 1))), (r 21, .inr (5, [.ref (r 22)])), (r 22, .inl (0, 21, .inl S.2.2.2.2.1)), (r 23, .inr (6, [.ref (r 24)])), (r 24, .inl (0, 21, .inl S.2.2.2.2.2.1)), (r 25, .inr (6, [.ref (r 26)])), (r 26, .inl (0, 21, .inl S.2.2.2.2.2.2))]) [0, 1, 4, 5, 20] [2, 3, 6, 7, 8, 9, 10, 11, 12, 13, 14, 15, 16, 17, 18, 19, 21, 22, 23, 24, 25, 26] (ok_X5_forget (x := r 0) (M := r 1) (L := r 8) (Dk := r 15) (c := r 20) (se := r 21) (wk := r 23) (sp := r 25) (q := r 4) (a := r 5) (mf := rf3 r 2 2 3) (fun h9 => by have h8 := ix_in h9; rw [e] at h8; exact (congrArg (rf3 r 2 2 3) h8.symm).trans rfl) h0) rfl rfl rfl rfl (by decide) ?_
    rintro o w hp
    cases x0 with
    | inl z =>
      obtain ⟨g, e1, e2⟩ := PX.inl hp
      subst e1; subst e2
      exact ⟨_, [22, 23, 0, 1, 24, 25, 2, 3, 4, 5, 6, 7, 8, 9, 10, 11, 12, 13, 14, 15, 26, 16, 17, 18, 19, 20, 21], PX.mk g rfl rfl, rfl, rfl⟩
    | inr E =>
      obtain ⟨e1, e2⟩ := PX.inr hp
      subst e1; subst e2
      exact ⟨_, [22, 23, 0, 1, 24, 25, 2, 3, 4, 5, 6, 7, 8, 9, 10, 11, 12, 13, 14, 15, 26, 16, 17, 18, 19, 20, 21], PX.er, rfl, rfl⟩
  · rw [e] at h0
    try rw [e]
    refine ok_fr (wc := [(r 0, .inr (7, [.ref (r 1), .ref (r 8), .ref (r 15), .ref (r 20), .ref (r 21), .ref (r 23), .ref (r 25)])), (r 1, .inl (1, 3, .inr (.inr (.inr (.inr (rf3 r 2 2 3)))))), (r 6, .inr (4, [.ref (r 7), .int (S.1 2).1])), (r 7, .inl (0, 2646, .inl (S.1 2).2)), (r 20, .inr (2, [.int (S.2.2.2.1 0), .int (S.2.2.2.1 1), .int (S.2.2.2.1 2), .int (S.2.2.2.1 3), .int (S.2.2.2.1 4), .int (S.2.2.2.1 5)]))]) (wr := [(r 2, .inr (4, [.ref (r 3), .int (S.1 0).1])), (r 3, .inl (0, 2646, .inl (S.1 0).2)), (r 4, .inr (4, [.ref (r 5), .int (S.1 1).1])), (r 5, .inl (0, 2646, .inl (S.1 1).2)), (r 8, .inl (2, 3, .inr (.inr (.inr (.inr (rf3 r 9 2 3)))))), (r 9, .inr (3, [.int (S.2.1 0).1, .ref (r 10), .int (S.2.1 0).2.1])), (r 10, .inl (0, 21, .inl (S.2.1 0).2.2)), (r 11, .inr (3, [.int (S.2.1 1).1, .ref (r 12), .int (S.2.1 1).2.1])), (r 12, .inl (0, 21, .inl (S.2.1 1).2.2)), (r 13, .inr (3, [.int (S.2.1 2).1, .ref (r 14), .int (S.2.1 2).2.1])), (r 14, .inl (0, 21, .inl (S.2.1 2).2.2)), (r 15, .inl (3, 2, .inr (.inr (.inr (.inr (rf3 r 16 2 2)))))), (r 16, .inr (6, [.ref (r 17)])), (r 17, .inl (0, 21, .inl (S.2.2.1 0))), (r 18, .inr (6, [.ref (r 19)])), (r 19, .inl (0, 21, .inl (S.2.2.1 1))), (r 21, .inr (5, [.ref (r 22)])), (r 22, .inl (0, 21, .inl S.2.2.2.2.1)), (r 23, .inr (6, [.ref (r 24)])), (r 24, .inl (0, 21, .inl S.2.2.2.2.2.1)), (r 25, .inr (6, [.ref (r 26)])), (r 26, .inl (0, 21, .inl S.2.2.2.2.2.2))]) [0, 1, 6, 7, 20] [2, 3, 4, 5, 8, 9, 10, 11, 12, 13, 14, 15, 16, 17, 18, 19, 21, 22, 23, 24, 25, 26] (ok_X5_forget (x := r 0) (M := r 1) (L := r 8) (Dk := r 15) (c := r 20) (se := r 21) (wk := r 23) (sp := r 25) (q := r 6) (a := r 7) (mf := rf3 r 2 2 3) (fun h9 => by have h8 := ix_in h9; rw [e] at h8; exact (congrArg (rf3 r 2 2 3) h8.symm).trans rfl) h0) rfl rfl rfl rfl (by decide) ?_
    rintro o w hp
    cases x0 with
    | inl z =>
      obtain ⟨g, e1, e2⟩ := PX.inl hp
      subst e1; subst e2
      exact ⟨_, [22, 23, 0, 1, 2, 3, 24, 25, 4, 5, 6, 7, 8, 9, 10, 11, 12, 13, 14, 15, 26, 16, 17, 18, 19, 20, 21], PX.mk g rfl rfl, rfl, rfl⟩
    | inr E =>
      obtain ⟨e1, e2⟩ := PX.inr hp
      subst e1; subst e2
      exact ⟨_, [22, 23, 0, 1, 2, 3, 24, 25, 4, 5, 6, 7, 8, 9, 10, 11, 12, 13, 14, 15, 26, 16, 17, 18, 19, 20, 21], PX.er, rfl, rfl⟩
def gX_forgetIf (N K : Nat) (S : CS) (p0 : Int32) (p1 : Int32) (p2 : Int32) (p3 : Int32) (p4 : Int32) : Option ((Int32 × CS) ⊕ String) := (fX5_forgetIf N K ((S.1 (ix 3 p0)).1) ((S.1 (ix 3 p0)).2) (S.2.2.2.1 0) (S.2.2.2.1 1) (S.2.2.2.1 2) (S.2.2.2.1 3) (S.2.2.2.1 4) (S.2.2.2.1 5) p0 p1 p2 p3 p4).map (fun o => match o with | .inl z => .inl (z.1, ((upm S.1 (ix 3 p0) (z.2.1, z.2.2.1)), S.2.1, S.2.2.1, (upm S.2.2.2.1 0 z.2.2.2), S.2.2.2.2.1, S.2.2.2.2.2.1, S.2.2.2.2.2.2)) | .inr E => .inr E)
set_option maxHeartbeats 4000000 in
set_option maxRecDepth 100000 in
theorem ogX_forgetIf {N K : Nat} {r : Nat → Nat} {S : CS} {p0 : Int32} {p1 : Int32} {p2 : Int32} {p3 : Int32} {p4 : Int32} {x : (Int32 × CS) ⊕ String} (hE : gX_forgetIf N K S p0 p1 p2 p3 p4 = some x) : OkM yX5_forgetIf (.code yX5_forgetIf cX5_forgetIf 7 (some .int)) (10) 4 24 [.ref (r 0), .int p0, .int p1, .int p2, .int p3, .int p4] (WX r S) ((PX (U := Int32 × CS) (fun z _ => some (.int z.1)) (fun z _ => WX r z.2) (WX r S)) x) := by
  unfold gX_forgetIf at hE
  obtain ⟨x0, h0, h1⟩ := Option.map_eq_some_iff.mp hE
  subst h1
  clear hE
  rcases lt3 (ix_lt (n := 3) (p := p0) (by decide)) with e | e | e
  · rw [e] at h0
    try rw [e]
    refine ok_fr (wc := [(r 0, .inr (7, [.ref (r 1), .ref (r 8), .ref (r 15), .ref (r 20), .ref (r 21), .ref (r 23), .ref (r 25)])), (r 1, .inl (1, 3, .inr (.inr (.inr (.inr (rf3 r 2 2 3)))))), (r 2, .inr (4, [.ref (r 3), .int (S.1 0).1])), (r 3, .inl (0, 2646, .inl (S.1 0).2)), (r 20, .inr (2, [.int (S.2.2.2.1 0), .int (S.2.2.2.1 1), .int (S.2.2.2.1 2), .int (S.2.2.2.1 3), .int (S.2.2.2.1 4), .int (S.2.2.2.1 5)]))]) (wr := [(r 4, .inr (4, [.ref (r 5), .int (S.1 1).1])), (r 5, .inl (0, 2646, .inl (S.1 1).2)), (r 6, .inr (4, [.ref (r 7), .int (S.1 2).1])), (r 7, .inl (0, 2646, .inl (S.1 2).2)), (r 8, .inl (2, 3, .inr (.inr (.inr (.inr (rf3 r 9 2 3)))))), (r 9, .inr (3, [.int (S.2.1 0).1, .ref (r 10), .int (S.2.1 0).2.1])), (r 10, .inl (0, 21, .inl (S.2.1 0).2.2)), (r 11, .inr (3, [.int (S.2.1 1).1, .ref (r 12), .int (S.2.1 1).2.1])), (r 12, .inl (0, 21, .inl (S.2.1 1).2.2)), (r 13, .inr (3, [.int (S.2.1 2).1, .ref (r 14), .int (S.2.1 2).2.1])), (r 14, .inl (0, 21, .inl (S.2.1 2).2.2)), (r 15, .inl (3, 2, .inr (.inr (.inr (.inr (rf3 r 16 2 2)))))), (r 16, .inr (6, [.ref (r 17)])), (r 17, .inl (0, 21, .inl (S.2.2.1 0))), (r 18, .inr (6, [.ref (r 19)])), (r 19, .inl (0, 21, .inl (S.2.2.1 1))), (r 21, .inr (5, [.ref (r 22)])), (r 22, .inl (0, 21, .inl S.2.2.2.2.1)), (r 23, .inr (6, [.ref (r 24)])), (r 24, .inl (0, 21, .inl S.2.2.2.2.2.1)), (r 25, .inr (6, [.ref (r 26)])), (r 26, .inl (0, 21, .inl S.2.2.2.2.2.2))]) [0, 1, 2, 3, 20] [4, 5, 6, 7, 8, 9, 10, 11, 12, 13, 14, 15, 16, 17, 18, 19, 21, 22, 23, 24, 25, 26] (ok_X5_forgetIf (x := r 0) (M := r 1) (L := r 8) (Dk := r 15) (c := r 20) (se := r 21) (wk := r 23) (sp := r 25) (q := r 2) (a := r 3) (mf := rf3 r 2 2 3) (fun h9 => by have h8 := ix_in h9; rw [e] at h8; exact (congrArg (rf3 r 2 2 3) h8.symm).trans rfl) h0) rfl rfl rfl rfl (by decide) ?_
    rintro o w hp
    cases x0 with
    | inl z =>
      obtain ⟨g, e1, e2⟩ := PX.inl hp
      subst e1; subst e2
      exact ⟨_, [22, 23, 24, 25, 0, 1, 2, 3, 4, 5, 6, 7, 8, 9, 10, 11, 12, 13, 14, 15, 26, 16, 17, 18, 19, 20, 21], PX.mk g rfl rfl, rfl, rfl⟩
    | inr E =>
      obtain ⟨e1, e2⟩ := PX.inr hp
      subst e1; subst e2
      exact ⟨_, [22, 23, 24, 25, 0, 1, 2, 3, 4, 5, 6, 7, 8, 9, 10, 11, 12, 13, 14, 15, 26, 16, 17, 18, 19, 20, 21], PX.er, rfl, rfl⟩
  · rw [e] at h0
    try rw [e]
    refine ok_fr (wc := [(r 0, .inr (7, [.ref (r 1), .ref (r 8), .ref (r 15), .ref (r 20), .ref (r 21), .ref (r 23), .ref (r 25)])), (r 1, .inl (1, 3, .inr (.inr (.inr (.inr (rf3 r 2 2 3)))))), (r 4, .inr (4, [.ref (r 5), .int (S.1 1).1])), (r 5, .inl (0, 2646, .inl (S.1 1).2)), (r 20, .inr (2, [.int (S.2.2.2.1 0), .int (S.2.2.2.1 1), .int (S.2.2.2.1 2), .int (S.2.2.2.1 3), .int (S.2.2.2.1 4), .int (S.2.2.2.1 5)]))]) (wr := [(r 2, .inr (4, [.ref (r 3), .int (S.1 0).1])), (r 3, .inl (0, 2646, .inl (S.1 0).2)), (r 6, .inr (4, [.ref (r 7), .int (S.1 2).1])), (r 7, .inl (0, 2646, .inl (S.1 2).2)), (r 8, .inl (2, 3, .inr (.inr (.inr (.inr (rf3 r 9 2 3)))))), (r 9, .inr (3, [.int (S.2.1 0).1, .ref (r 10), .int (S.2.1 0).2.1])), (r 10, .inl (0, 21, .inl (S.2.1 0).2.2)), (r 11, .inr (3, [.int (S.2.1 1).1, .ref (r 12), .int (S.2.1 1).2.1])), (r 12, .inl (0, 21, .inl (S.2.1 1).2.2)), (r 13, .inr (3, [.int (S.2.1 2).1, .ref (r 14), .int (S.2.1 2).2.1])), (r 14, .inl (0, 21, .inl (S.2.1 2).2.2)), (r 15, .inl (3, 2, .inr (.inr (.inr (.inr (rf3 r 16 2 2)))))), (r 16, .inr (6, [.ref (r 17)])), (r 17, .inl (0, 21, .inl (S.2.2.1 0))), (r 18, .inr (6, [.ref (r 19)])), (r 19, .inl (0, 21, .inl (S.2.2.1 1))), (r 21, .inr (5, [.ref (r 22)])), (r 22, .inl (0, 21, .inl S.2.2.2.2.1)), (r 23, .inr (6, [.ref (r 24)])), (r 24, .inl (0, 21, .inl S.2.2.2.2.2.1)), (r 25, .inr (6, [.ref (r 26)])), (r 26, .inl (0, 21, .inl S.2.2.2.2.2.2))]) [0, 1, 4, 5, 20] [2, 3, 6, 7, 8, 9, 10, 11, 12, 13, 14, 15, 16, 17, 18, 19, 21, 22, 23, 24, 25, 26] (ok_X5_forgetIf (x := r 0) (M := r 1) (L := r 8) (Dk := r 15) (c := r 20) (se := r 21) (wk := r 23) (sp := r 25) (q := r 4) (a := r 5) (mf := rf3 r 2 2 3) (fun h9 => by have h8 := ix_in h9; rw [e] at h8; exact (congrArg (rf3 r 2 2 3) h8.symm).trans rfl) h0) rfl rfl rfl rfl (by decide) ?_
    rintro o w hp
    cases x0 with
    | inl z =>
      obtain ⟨g, e1, e2⟩ := PX.inl hp
      subst e1; subst e2
      exact ⟨_, [22, 23, 0, 1, 24, 25, 2, 3, 4, 5, 6, 7, 8, 9, 10, 11, 12, 13, 14, 15, 26, 16, 17, 18, 19, 20, 21], PX.mk g rfl rfl, rfl, rfl⟩
    | inr E =>
      obtain ⟨e1, e2⟩ := PX.inr hp
      subst e1; subst e2
      exact ⟨_, [22, 23, 0, 1, 24, 25, 2, 3, 4, 5, 6, 7, 8, 9, 10, 11, 12, 13, 14, 15, 26, 16, 17, 18, 19, 20, 21], PX.er, rfl, rfl⟩
  · rw [e] at h0
    try rw [e]
    refine ok_fr (wc := [(r 0, .inr (7, [.ref (r 1), .ref (r 8), .ref (r 15), .ref (r 20), .ref (r 21), .ref (r 23), .ref (r 25)])), (r 1, .inl (1, 3, .inr (.inr (.inr (.inr (rf3 r 2 2 3)))))), (r 6, .inr (4, [.ref (r 7), .int (S.1 2).1])), (r 7, .inl (0, 2646, .inl (S.1 2).2)), (r 20, .inr (2, [.int (S.2.2.2.1 0), .int (S.2.2.2.1 1), .int (S.2.2.2.1 2), .int (S.2.2.2.1 3), .int (S.2.2.2.1 4), .int (S.2.2.2.1 5)]))]) (wr := [(r 2, .inr (4, [.ref (r 3), .int (S.1 0).1])), (r 3, .inl (0, 2646, .inl (S.1 0).2)), (r 4, .inr (4, [.ref (r 5), .int (S.1 1).1])), (r 5, .inl (0, 2646, .inl (S.1 1).2)), (r 8, .inl (2, 3, .inr (.inr (.inr (.inr (rf3 r 9 2 3)))))), (r 9, .inr (3, [.int (S.2.1 0).1, .ref (r 10), .int (S.2.1 0).2.1])), (r 10, .inl (0, 21, .inl (S.2.1 0).2.2)), (r 11, .inr (3, [.int (S.2.1 1).1, .ref (r 12), .int (S.2.1 1).2.1])), (r 12, .inl (0, 21, .inl (S.2.1 1).2.2)), (r 13, .inr (3, [.int (S.2.1 2).1, .ref (r 14), .int (S.2.1 2).2.1])), (r 14, .inl (0, 21, .inl (S.2.1 2).2.2)), (r 15, .inl (3, 2, .inr (.inr (.inr (.inr (rf3 r 16 2 2)))))), (r 16, .inr (6, [.ref (r 17)])), (r 17, .inl (0, 21, .inl (S.2.2.1 0))), (r 18, .inr (6, [.ref (r 19)])), (r 19, .inl (0, 21, .inl (S.2.2.1 1))), (r 21, .inr (5, [.ref (r 22)])), (r 22, .inl (0, 21, .inl S.2.2.2.2.1)), (r 23, .inr (6, [.ref (r 24)])), (r 24, .inl (0, 21, .inl S.2.2.2.2.2.1)), (r 25, .inr (6, [.ref (r 26)])), (r 26, .inl (0, 21, .inl S.2.2.2.2.2.2))]) [0, 1, 6, 7, 20] [2, 3, 4, 5, 8, 9, 10, 11, 12, 13, 14, 15, 16, 17, 18, 19, 21, 22, 23, 24, 25, 26] (ok_X5_forgetIf (x := r 0) (M := r 1) (L := r 8) (Dk := r 15) (c := r 20) (se := r 21) (wk := r 23) (sp := r 25) (q := r 6) (a := r 7) (mf := rf3 r 2 2 3) (fun h9 => by have h8 := ix_in h9; rw [e] at h8; exact (congrArg (rf3 r 2 2 3) h8.symm).trans rfl) h0) rfl rfl rfl rfl (by decide) ?_
    rintro o w hp
    cases x0 with
    | inl z =>
      obtain ⟨g, e1, e2⟩ := PX.inl hp
      subst e1; subst e2
      exact ⟨_, [22, 23, 0, 1, 2, 3, 24, 25, 4, 5, 6, 7, 8, 9, 10, 11, 12, 13, 14, 15, 26, 16, 17, 18, 19, 20, 21], PX.mk g rfl rfl, rfl, rfl⟩
    | inr E =>
      obtain ⟨e1, e2⟩ := PX.inr hp
      subst e1; subst e2
      exact ⟨_, [22, 23, 0, 1, 2, 3, 24, 25, 4, 5, 6, 7, 8, 9, 10, 11, 12, 13, 14, 15, 26, 16, 17, 18, 19, 20, 21], PX.er, rfl, rfl⟩
def gX_forgetAll (N K : Nat) (S : CS) (p0 : Int32) (p1 : Int32) (p2 : Int32) : Option ((Int32 × CS) ⊕ String) := (fX5_forgetAll N K ((S.1 (ix 3 p0)).1) ((S.1 (ix 3 p0)).2) (S.2.2.2.1 0) (S.2.2.2.1 1) (S.2.2.2.1 2) (S.2.2.2.1 3) (S.2.2.2.1 4) (S.2.2.2.1 5) p0 p1 p2).map (fun o => match o with | .inl z => .inl (z.1, ((upm S.1 (ix 3 p0) (z.2.1, z.2.2.1)), S.2.1, S.2.2.1, (upm S.2.2.2.1 0 z.2.2.2), S.2.2.2.2.1, S.2.2.2.2.2.1, S.2.2.2.2.2.2)) | .inr E => .inr E)
set_option maxHeartbeats 4000000 in
set_option maxRecDepth 100000 in
theorem ogX_forgetAll {N K : Nat} {r : Nat → Nat} {S : CS} {p0 : Int32} {p1 : Int32} {p2 : Int32} {x : (Int32 × CS) ⊕ String} (hE : gX_forgetAll N K S p0 p1 p2 = some x) : OkM yX5_forgetAll (.code yX5_forgetAll cX5_forgetAll 5 (some .int)) (9) 2 12 [.ref (r 0), .int p0, .int p1, .int p2] (WX r S) ((PX (U := Int32 × CS) (fun z _ => some (.int z.1)) (fun z _ => WX r z.2) (WX r S)) x) := by
  unfold gX_forgetAll at hE
  obtain ⟨x0, h0, h1⟩ := Option.map_eq_some_iff.mp hE
  subst h1
  clear hE
  rcases lt3 (ix_lt (n := 3) (p := p0) (by decide)) with e | e | e
  · rw [e] at h0
    try rw [e]
    refine ok_fr (wc := [(r 0, .inr (7, [.ref (r 1), .ref (r 8), .ref (r 15), .ref (r 20), .ref (r 21), .ref (r 23), .ref (r 25)])), (r 1, .inl (1, 3, .inr (.inr (.inr (.inr (rf3 r 2 2 3)))))), (r 2, .inr (4, [.ref (r 3), .int (S.1 0).1])), (r 3, .inl (0, 2646, .inl (S.1 0).2)), (r 20, .inr (2, [.int (S.2.2.2.1 0), .int (S.2.2.2.1 1), .int (S.2.2.2.1 2), .int (S.2.2.2.1 3), .int (S.2.2.2.1 4), .int (S.2.2.2.1 5)]))]) (wr := [(r 4, .inr (4, [.ref (r 5), .int (S.1 1).1])), (r 5, .inl (0, 2646, .inl (S.1 1).2)), (r 6, .inr (4, [.ref (r 7), .int (S.1 2).1])), (r 7, .inl (0, 2646, .inl (S.1 2).2)), (r 8, .inl (2, 3, .inr (.inr (.inr (.inr (rf3 r 9 2 3)))))), (r 9, .inr (3, [.int (S.2.1 0).1, .ref (r 10), .int (S.2.1 0).2.1])), (r 10, .inl (0, 21, .inl (S.2.1 0).2.2)), (r 11, .inr (3, [.int (S.2.1 1).1, .ref (r 12), .int (S.2.1 1).2.1])), (r 12, .inl (0, 21, .inl (S.2.1 1).2.2)), (r 13, .inr (3, [.int (S.2.1 2).1, .ref (r 14), .int (S.2.1 2).2.1])), (r 14, .inl (0, 21, .inl (S.2.1 2).2.2)), (r 15, .inl (3, 2, .inr (.inr (.inr (.inr (rf3 r 16 2 2)))))), (r 16, .inr (6, [.ref (r 17)])), (r 17, .inl (0, 21, .inl (S.2.2.1 0))), (r 18, .inr (6, [.ref (r 19)])), (r 19, .inl (0, 21, .inl (S.2.2.1 1))), (r 21, .inr (5, [.ref (r 22)])), (r 22, .inl (0, 21, .inl S.2.2.2.2.1)), (r 23, .inr (6, [.ref (r 24)])), (r 24, .inl (0, 21, .inl S.2.2.2.2.2.1)), (r 25, .inr (6, [.ref (r 26)])), (r 26, .inl (0, 21, .inl S.2.2.2.2.2.2))]) [0, 1, 2, 3, 20] [4, 5, 6, 7, 8, 9, 10, 11, 12, 13, 14, 15, 16, 17, 18, 19, 21, 22, 23, 24, 25, 26] (ok_X5_forgetAll (x := r 0) (M := r 1) (L := r 8) (Dk := r 15) (c := r 20) (se := r 21) (wk := r 23) (sp := r 25) (q := r 2) (a := r 3) (mf := rf3 r 2 2 3) (fun h9 => by have h8 := ix_in h9; rw [e] at h8; exact (congrArg (rf3 r 2 2 3) h8.symm).trans rfl) h0) rfl rfl rfl rfl (by decide) ?_
    rintro o w hp
    cases x0 with
    | inl z =>
      obtain ⟨g, e1, e2⟩ := PX.inl hp
      subst e1; subst e2
      exact ⟨_, [22, 23, 24, 25, 0, 1, 2, 3, 4, 5, 6, 7, 8, 9, 10, 11, 12, 13, 14, 15, 26, 16, 17, 18, 19, 20, 21], PX.mk g rfl rfl, rfl, rfl⟩
    | inr E =>
      obtain ⟨e1, e2⟩ := PX.inr hp
      subst e1; subst e2
      exact ⟨_, [22, 23, 24, 25, 0, 1, 2, 3, 4, 5, 6, 7, 8, 9, 10, 11, 12, 13, 14, 15, 26, 16, 17, 18, 19, 20, 21], PX.er, rfl, rfl⟩
  · rw [e] at h0
    try rw [e]
    refine ok_fr (wc := [(r 0, .inr (7, [.ref (r 1), .ref (r 8), .ref (r 15), .ref (r 20), .ref (r 21), .ref (r 23), .ref (r 25)])), (r 1, .inl (1, 3, .inr (.inr (.inr (.inr (rf3 r 2 2 3)))))), (r 4, .inr (4, [.ref (r 5), .int (S.1 1).1])), (r 5, .inl (0, 2646, .inl (S.1 1).2)), (r 20, .inr (2, [.int (S.2.2.2.1 0), .int (S.2.2.2.1 1), .int (S.2.2.2.1 2), .int (S.2.2.2.1 3), .int (S.2.2.2.1 4), .int (S.2.2.2.1 5)]))]) (wr := [(r 2, .inr (4, [.ref (r 3), .int (S.1 0).1])), (r 3, .inl (0, 2646, .inl (S.1 0).2)), (r 6, .inr (4, [.ref (r 7), .int (S.1 2).1])), (r 7, .inl (0, 2646, .inl (S.1 2).2)), (r 8, .inl (2, 3, .inr (.inr (.inr (.inr (rf3 r 9 2 3)))))), (r 9, .inr (3, [.int (S.2.1 0).1, .ref (r 10), .int (S.2.1 0).2.1])), (r 10, .inl (0, 21, .inl (S.2.1 0).2.2)), (r 11, .inr (3, [.int (S.2.1 1).1, .ref (r 12), .int (S.2.1 1).2.1])), (r 12, .inl (0, 21, .inl (S.2.1 1).2.2)), (r 13, .inr (3, [.int (S.2.1 2).1, .ref (r 14), .int (S.2.1 2).2.1])), (r 14, .inl (0, 21, .inl (S.2.1 2).2.2)), (r 15, .inl (3, 2, .inr (.inr (.inr (.inr (rf3 r 16 2 2)))))), (r 16, .inr (6, [.ref (r 17)])), (r 17, .inl (0, 21, .inl (S.2.2.1 0))), (r 18, .inr (6, [.ref (r 19)])), (r 19, .inl (0, 21, .inl (S.2.2.1 1))), (r 21, .inr (5, [.ref (r 22)])), (r 22, .inl (0, 21, .inl S.2.2.2.2.1)), (r 23, .inr (6, [.ref (r 24)])), (r 24, .inl (0, 21, .inl S.2.2.2.2.2.1)), (r 25, .inr (6, [.ref (r 26)])), (r 26, .inl (0, 21, .inl S.2.2.2.2.2.2))]) [0, 1, 4, 5, 20] [2, 3, 6, 7, 8, 9, 10, 11, 12, 13, 14, 15, 16, 17, 18, 19, 21, 22, 23, 24, 25, 26] (ok_X5_forgetAll (x := r 0) (M := r 1) (L := r 8) (Dk := r 15) (c := r 20) (se := r 21) (wk := r 23) (sp := r 25) (q := r 4) (a := r 5) (mf := rf3 r 2 2 3) (fun h9 => by have h8 := ix_in h9; rw [e] at h8; exact (congrArg (rf3 r 2 2 3) h8.symm).trans rfl) h0) rfl rfl rfl rfl (by decide) ?_
    rintro o w hp
    cases x0 with
    | inl z =>
      obtain ⟨g, e1, e2⟩ := PX.inl hp
      subst e1; subst e2
      exact ⟨_, [22, 23, 0, 1, 24, 25, 2, 3, 4, 5, 6, 7, 8, 9, 10, 11, 12, 13, 14, 15, 26, 16, 17, 18, 19, 20, 21], PX.mk g rfl rfl, rfl, rfl⟩
    | inr E =>
      obtain ⟨e1, e2⟩ := PX.inr hp
      subst e1; subst e2
      exact ⟨_, [22, 23, 0, 1, 24, 25, 2, 3, 4, 5, 6, 7, 8, 9, 10, 11, 12, 13, 14, 15, 26, 16, 17, 18, 19, 20, 21], PX.er, rfl, rfl⟩
  · rw [e] at h0
    try rw [e]
    refine ok_fr (wc := [(r 0, .inr (7, [.ref (r 1), .ref (r 8), .ref (r 15), .ref (r 20), .ref (r 21), .ref (r 23), .ref (r 25)])), (r 1, .inl (1, 3, .inr (.inr (.inr (.inr (rf3 r 2 2 3)))))), (r 6, .inr (4, [.ref (r 7), .int (S.1 2).1])), (r 7, .inl (0, 2646, .inl (S.1 2).2)), (r 20, .inr (2, [.int (S.2.2.2.1 0), .int (S.2.2.2.1 1), .int (S.2.2.2.1 2), .int (S.2.2.2.1 3), .int (S.2.2.2.1 4), .int (S.2.2.2.1 5)]))]) (wr := [(r 2, .inr (4, [.ref (r 3), .int (S.1 0).1])), (r 3, .inl (0, 2646, .inl (S.1 0).2)), (r 4, .inr (4, [.ref (r 5), .int (S.1 1).1])), (r 5, .inl (0, 2646, .inl (S.1 1).2)), (r 8, .inl (2, 3, .inr (.inr (.inr (.inr (rf3 r 9 2 3)))))), (r 9, .inr (3, [.int (S.2.1 0).1, .ref (r 10), .int (S.2.1 0).2.1])), (r 10, .inl (0, 21, .inl (S.2.1 0).2.2)), (r 11, .inr (3, [.int (S.2.1 1).1, .ref (r 12), .int (S.2.1 1).2.1])), (r 12, .inl (0, 21, .inl (S.2.1 1).2.2)), (r 13, .inr (3, [.int (S.2.1 2).1, .ref (r 14), .int (S.2.1 2).2.1])), (r 14, .inl (0, 21, .inl (S.2.1 2).2.2)), (r 15, .inl (3, 2, .inr (.inr (.inr (.inr (rf3 r 16 2 2)))))), (r 16, .inr (6, [.ref (r 17)])), (r 17, .inl (0, 21, .inl (S.2.2.1 0))), (r 18, .inr (6, [.ref (r 19)])), (r 19, .inl (0, 21, .inl (S.2.2.1 1))), (r 21, .inr (5, [.ref (r 22)])), (r 22, .inl (0, 21, .inl S.2.2.2.2.1)), (r 23, .inr (6, [.ref (r 24)])), (r 24, .inl (0, 21, .inl S.2.2.2.2.2.1)), (r 25, .inr (6, [.ref (r 26)])), (r 26, .inl (0, 21, .inl S.2.2.2.2.2.2))]) [0, 1, 6, 7, 20] [2, 3, 4, 5, 8, 9, 10, 11, 12, 13, 14, 15, 16, 17, 18, 19, 21, 22, 23, 24, 25, 26] (ok_X5_forgetAll (x := r 0) (M := r 1) (L := r 8) (Dk := r 15) (c := r 20) (se := r 21) (wk := r 23) (sp := r 25) (q := r 6) (a := r 7) (mf := rf3 r 2 2 3) (fun h9 => by have h8 := ix_in h9; rw [e] at h8; exact (congrArg (rf3 r 2 2 3) h8.symm).trans rfl) h0) rfl rfl rfl rfl (by decide) ?_
    rintro o w hp
    cases x0 with
    | inl z =>
      obtain ⟨g, e1, e2⟩ := PX.inl hp
      subst e1; subst e2
      exact ⟨_, [22, 23, 0, 1, 2, 3, 24, 25, 4, 5, 6, 7, 8, 9, 10, 11, 12, 13, 14, 15, 26, 16, 17, 18, 19, 20, 21], PX.mk g rfl rfl, rfl, rfl⟩
    | inr E =>
      obtain ⟨e1, e2⟩ := PX.inr hp
      subst e1; subst e2
      exact ⟨_, [22, 23, 0, 1, 2, 3, 24, 25, 4, 5, 6, 7, 8, 9, 10, 11, 12, 13, 14, 15, 26, 16, 17, 18, 19, 20, 21], PX.er, rfl, rfl⟩
def gX_clear (N K : Nat) (S : CS) (p0 : Int32) : Option ((Int32 × CS) ⊕ String) := (fX5_clear N K ((S.1 (ix 3 p0)).1) ((S.1 (ix 3 p0)).2) (S.2.2.2.1 0) (S.2.2.2.1 1) (S.2.2.2.1 2) (S.2.2.2.1 3) (S.2.2.2.1 4) (S.2.2.2.1 5) p0).map (fun o => match o with | .inl z => .inl (z.1, ((upm S.1 (ix 3 p0) (z.2.1, z.2.2.1)), S.2.1, S.2.2.1, (upm S.2.2.2.1 0 z.2.2.2), S.2.2.2.2.1, S.2.2.2.2.2.1, S.2.2.2.2.2.2)) | .inr E => .inr E)
set_option maxHeartbeats 4000000 in
set_option maxRecDepth 100000 in
theorem ogX_clear {N K : Nat} {r : Nat → Nat} {S : CS} {p0 : Int32} {x : (Int32 × CS) ⊕ String} (hE : gX_clear N K S p0 = some x) : OkM yX5_clear (.code yX5_clear cX5_clear 2 (some .int)) (9) 1 6 [.ref (r 0), .int p0] (WX r S) ((PX (U := Int32 × CS) (fun z _ => some (.int z.1)) (fun z _ => WX r z.2) (WX r S)) x) := by
  unfold gX_clear at hE
  obtain ⟨x0, h0, h1⟩ := Option.map_eq_some_iff.mp hE
  subst h1
  clear hE
  rcases lt3 (ix_lt (n := 3) (p := p0) (by decide)) with e | e | e
  · rw [e] at h0
    try rw [e]
    refine ok_fr (wc := [(r 0, .inr (7, [.ref (r 1), .ref (r 8), .ref (r 15), .ref (r 20), .ref (r 21), .ref (r 23), .ref (r 25)])), (r 1, .inl (1, 3, .inr (.inr (.inr (.inr (rf3 r 2 2 3)))))), (r 2, .inr (4, [.ref (r 3), .int (S.1 0).1])), (r 3, .inl (0, 2646, .inl (S.1 0).2)), (r 20, .inr (2, [.int (S.2.2.2.1 0), .int (S.2.2.2.1 1), .int (S.2.2.2.1 2), .int (S.2.2.2.1 3), .int (S.2.2.2.1 4), .int (S.2.2.2.1 5)]))]) (wr := [(r 4, .inr (4, [.ref (r 5), .int (S.1 1).1])), (r 5, .inl (0, 2646, .inl (S.1 1).2)), (r 6, .inr (4, [.ref (r 7), .int (S.1 2).1])), (r 7, .inl (0, 2646, .inl (S.1 2).2)), (r 8, .inl (2, 3, .inr (.inr (.inr (.inr (rf3 r 9 2 3)))))), (r 9, .inr (3, [.int (S.2.1 0).1, .ref (r 10), .int (S.2.1 0).2.1])), (r 10, .inl (0, 21, .inl (S.2.1 0).2.2)), (r 11, .inr (3, [.int (S.2.1 1).1, .ref (r 12), .int (S.2.1 1).2.1])), (r 12, .inl (0, 21, .inl (S.2.1 1).2.2)), (r 13, .inr (3, [.int (S.2.1 2).1, .ref (r 14), .int (S.2.1 2).2.1])), (r 14, .inl (0, 21, .inl (S.2.1 2).2.2)), (r 15, .inl (3, 2, .inr (.inr (.inr (.inr (rf3 r 16 2 2)))))), (r 16, .inr (6, [.ref (r 17)])), (r 17, .inl (0, 21, .inl (S.2.2.1 0))), (r 18, .inr (6, [.ref (r 19)])), (r 19, .inl (0, 21, .inl (S.2.2.1 1))), (r 21, .inr (5, [.ref (r 22)])), (r 22, .inl (0, 21, .inl S.2.2.2.2.1)), (r 23, .inr (6, [.ref (r 24)])), (r 24, .inl (0, 21, .inl S.2.2.2.2.2.1)), (r 25, .inr (6, [.ref (r 26)])), (r 26, .inl (0, 21, .inl S.2.2.2.2.2.2))]) [0, 1, 2, 3, 20] [4, 5, 6, 7, 8, 9, 10, 11, 12, 13, 14, 15, 16, 17, 18, 19, 21, 22, 23, 24, 25, 26] (ok_X5_clear (x := r 0) (M := r 1) (L := r 8) (Dk := r 15) (c := r 20) (se := r 21) (wk := r 23) (sp := r 25) (q := r 2) (a := r 3) (mf := rf3 r 2 2 3) (fun h9 => by have h8 := ix_in h9; rw [e] at h8; exact (congrArg (rf3 r 2 2 3) h8.symm).trans rfl) h0) rfl rfl rfl rfl (by decide) ?_
    rintro o w hp
    cases x0 with
    | inl z =>
      obtain ⟨g, e1, e2⟩ := PX.inl hp
      subst e1; subst e2
      exact ⟨_, [22, 23, 24, 25, 0, 1, 2, 3, 4, 5, 6, 7, 8, 9, 10, 11, 12, 13, 14, 15, 26, 16, 17, 18, 19, 20, 21], PX.mk g rfl rfl, rfl, rfl⟩
    | inr E =>
      obtain ⟨e1, e2⟩ := PX.inr hp
      subst e1; subst e2
      exact ⟨_, [22, 23, 24, 25, 0, 1, 2, 3, 4, 5, 6, 7, 8, 9, 10, 11, 12, 13, 14, 15, 26, 16, 17, 18, 19, 20, 21], PX.er, rfl, rfl⟩
  · rw [e] at h0
    try rw [e]
    refine ok_fr (wc := [(r 0, .inr (7, [.ref (r 1), .ref (r 8), .ref (r 15), .ref (r 20), .ref (r 21), .ref (r 23), .ref (r 25)])), (r 1, .inl (1, 3, .inr (.inr (.inr (.inr (rf3 r 2 2 3)))))), (r 4, .inr (4, [.ref (r 5), .int (S.1 1).1])), (r 5, .inl (0, 2646, .inl (S.1 1).2)), (r 20, .inr (2, [.int (S.2.2.2.1 0), .int (S.2.2.2.1 1), .int (S.2.2.2.1 2), .int (S.2.2.2.1 3), .int (S.2.2.2.1 4), .int (S.2.2.2.1 5)]))]) (wr := [(r 2, .inr (4, [.ref (r 3), .int (S.1 0).1])), (r 3, .inl (0, 2646, .inl (S.1 0).2)), (r 6, .inr (4, [.ref (r 7), .int (S.1 2).1])), (r 7, .inl (0, 2646, .inl (S.1 2).2)), (r 8, .inl (2, 3, .inr (.inr (.inr (.inr (rf3 r 9 2 3)))))), (r 9, .inr (3, [.int (S.2.1 0).1, .ref (r 10), .int (S.2.1 0).2.1])), (r 10, .inl (0, 21, .inl (S.2.1 0).2.2)), (r 11, .inr (3, [.int (S.2.1 1).1, .ref (r 12), .int (S.2.1 1).2.1])), (r 12, .inl (0, 21, .inl (S.2.1 1).2.2)), (r 13, .inr (3, [.int (S.2.1 2).1, .ref (r 14), .int (S.2.1 2).2.1])), (r 14, .inl (0, 21, .inl (S.2.1 2).2.2)), (r 15, .inl (3, 2, .inr (.inr (.inr (.inr (rf3 r 16 2 2)))))), (r 16, .inr (6, [.ref (r 17)])), (r 17, .inl (0, 21, .inl (S.2.2.1 0))), (r 18, .inr (6, [.ref (r 19)])), (r 19, .inl (0, 21, .inl (S.2.2.1 1))), (r 21, .inr (5, [.ref (r 22)])), (r 22, .inl (0, 21, .inl S.2.2.2.2.1)), (r 23, .inr (6, [.ref (r 24)])), (r 24, .inl (0, 21, .inl S.2.2.2.2.2.1)), (r 25, .inr (6, [.ref (r 26)])), (r 26, .inl (0, 21, .inl S.2.2.2.2.2.2))]) [0, 1, 4, 5, 20] [2, 3, 6, 7, 8, 9, 10, 11, 12, 13, 14, 15, 16, 17, 18, 19, 21, 22, 23, 24, 25, 26] (ok_X5_clear (x := r 0) (M := r 1) (L := r 8) (Dk := r 15) (c := r 20) (se := r 21) (wk := r 23) (sp := r 25) (q := r 4) (a := r 5) (mf := rf3 r 2 2 3) (fun h9 => by have h8 := ix_in h9; rw [e] at h8; exact (congrArg (rf3 r 2 2 3) h8.symm).trans rfl) h0) rfl rfl rfl rfl (by decide) ?_
    rintro o w hp
    cases x0 with
    | inl z =>
      obtain ⟨g, e1, e2⟩ := PX.inl hp
      subst e1; subst e2
      exact ⟨_, [22, 23, 0, 1, 24, 25, 2, 3, 4, 5, 6, 7, 8, 9, 10, 11, 12, 13, 14, 15, 26, 16, 17, 18, 19, 20, 21], PX.mk g rfl rfl, rfl, rfl⟩
    | inr E =>
      obtain ⟨e1, e2⟩ := PX.inr hp
      subst e1; subst e2
      exact ⟨_, [22, 23, 0, 1, 24, 25, 2, 3, 4, 5, 6, 7, 8, 9, 10, 11, 12, 13, 14, 15, 26, 16, 17, 18, 19, 20, 21], PX.er, rfl, rfl⟩
  · rw [e] at h0
    try rw [e]
    refine ok_fr (wc := [(r 0, .inr (7, [.ref (r 1), .ref (r 8), .ref (r 15), .ref (r 20), .ref (r 21), .ref (r 23), .ref (r 25)])), (r 1, .inl (1, 3, .inr (.inr (.inr (.inr (rf3 r 2 2 3)))))), (r 6, .inr (4, [.ref (r 7), .int (S.1 2).1])), (r 7, .inl (0, 2646, .inl (S.1 2).2)), (r 20, .inr (2, [.int (S.2.2.2.1 0), .int (S.2.2.2.1 1), .int (S.2.2.2.1 2), .int (S.2.2.2.1 3), .int (S.2.2.2.1 4), .int (S.2.2.2.1 5)]))]) (wr := [(r 2, .inr (4, [.ref (r 3), .int (S.1 0).1])), (r 3, .inl (0, 2646, .inl (S.1 0).2)), (r 4, .inr (4, [.ref (r 5), .int (S.1 1).1])), (r 5, .inl (0, 2646, .inl (S.1 1).2)), (r 8, .inl (2, 3, .inr (.inr (.inr (.inr (rf3 r 9 2 3)))))), (r 9, .inr (3, [.int (S.2.1 0).1, .ref (r 10), .int (S.2.1 0).2.1])), (r 10, .inl (0, 21, .inl (S.2.1 0).2.2)), (r 11, .inr (3, [.int (S.2.1 1).1, .ref (r 12), .int (S.2.1 1).2.1])), (r 12, .inl (0, 21, .inl (S.2.1 1).2.2)), (r 13, .inr (3, [.int (S.2.1 2).1, .ref (r 14), .int (S.2.1 2).2.1])), (r 14, .inl (0, 21, .inl (S.2.1 2).2.2)), (r 15, .inl (3, 2, .inr (.inr (.inr (.inr (rf3 r 16 2 2)))))), (r 16, .inr (6, [.ref (r 17)])), (r 17, .inl (0, 21, .inl (S.2.2.1 0))), (r 18, .inr (6, [.ref (r 19)])), (r 19, .inl (0, 21, .inl (S.2.2.1 1))), (r 21, .inr (5, [.ref (r 22)])), (r 22, .inl (0, 21, .inl S.2.2.2.2.1)), (r 23, .inr (6, [.ref (r 24)])), (r 24, .inl (0, 21, .inl S.2.2.2.2.2.1)), (r 25, .inr (6, [.ref (r 26)])), (r 26, .inl (0, 21, .inl S.2.2.2.2.2.2))]) [0, 1, 6, 7, 20] [2, 3, 4, 5, 8, 9, 10, 11, 12, 13, 14, 15, 16, 17, 18, 19, 21, 22, 23, 24, 25, 26] (ok_X5_clear (x := r 0) (M := r 1) (L := r 8) (Dk := r 15) (c := r 20) (se := r 21) (wk := r 23) (sp := r 25) (q := r 6) (a := r 7) (mf := rf3 r 2 2 3) (fun h9 => by have h8 := ix_in h9; rw [e] at h8; exact (congrArg (rf3 r 2 2 3) h8.symm).trans rfl) h0) rfl rfl rfl rfl (by decide) ?_
    rintro o w hp
    cases x0 with
    | inl z =>
      obtain ⟨g, e1, e2⟩ := PX.inl hp
      subst e1; subst e2
      exact ⟨_, [22, 23, 0, 1, 2, 3, 24, 25, 4, 5, 6, 7, 8, 9, 10, 11, 12, 13, 14, 15, 26, 16, 17, 18, 19, 20, 21], PX.mk g rfl rfl, rfl, rfl⟩
    | inr E =>
      obtain ⟨e1, e2⟩ := PX.inr hp
      subst e1; subst e2
      exact ⟨_, [22, 23, 0, 1, 2, 3, 24, 25, 4, 5, 6, 7, 8, 9, 10, 11, 12, 13, 14, 15, 26, 16, 17, 18, 19, 20, 21], PX.er, rfl, rfl⟩
def gX_copy (N K : Nat) (S : CS) (p0 : Int32) (p1 : Int32) : Option ((Int32 × CS) ⊕ String) := if p0 = p1 then (fX5_copyOwn N K ((S.1 (ix 3 p0)).1) ((S.1 (ix 3 p0)).2) (S.2.2.2.1 0) (S.2.2.2.1 1) (S.2.2.2.1 2) (S.2.2.2.1 3) (S.2.2.2.1 4) (S.2.2.2.1 5) p0).map (fun o => match o with | .inl z => .inl (z.1, ((upm S.1 (ix 3 p0) (z.2.1, z.2.2.1)), S.2.1, S.2.2.1, (upm S.2.2.2.1 0 z.2.2.2), S.2.2.2.2.1, S.2.2.2.2.2.1, S.2.2.2.2.2.2)) | .inr E => .inr E) else (fX5_copy N K ((S.1 (jx 3 p0 p1)).1) ((S.1 (jx 3 p0 p1)).2) ((S.1 (kx 3 p0 p1)).1) ((S.1 (kx 3 p0 p1)).2) (S.2.2.2.1 0) (S.2.2.2.1 1) (S.2.2.2.1 2) (S.2.2.2.1 3) (S.2.2.2.1 4) (S.2.2.2.1 5) p0 p1).map (fun o => match o with | .inl z => .inl (z.1, ((upm S.1 (kx 3 p0 p1) (z.2.1, z.2.2.1)), S.2.1, S.2.2.1, (upm S.2.2.2.1 0 z.2.2.2), S.2.2.2.2.1, S.2.2.2.2.2.1, S.2.2.2.2.2.2)) | .inr E => .inr E)
set_option maxHeartbeats 4000000 in
set_option maxRecDepth 100000 in
theorem ogX_copy {N K : Nat} {r : Nat → Nat} {S : CS} {p0 : Int32} {p1 : Int32} {x : (Int32 × CS) ⊕ String} (hE : gX_copy N K S p0 p1 = some x) : OkM yX5_copy (.code yX5_copy cX5_copy 5 (some .int)) (9) 2 12 [.ref (r 0), .int p0, .int p1] (WX r S) ((PX (U := Int32 × CS) (fun z _ => some (.int z.1)) (fun z _ => WX r z.2) (WX r S)) x) := by
  unfold gX_copy at hE
  by_cases hpq : p0 = p1
  · subst hpq
    rw [if_pos rfl] at hE
    obtain ⟨x0, h0, h1⟩ := Option.map_eq_some_iff.mp hE
    subst h1
    clear hE
    rcases lt3 (ix_lt (n := 3) (p := p0) (by decide)) with e | e | e
    · rw [e] at h0
      try rw [e]
      refine ok_fr (wc := [(r 0, .inr (7, [.ref (r 1), .ref (r 8), .ref (r 15), .ref (r 20), .ref (r 21), .ref (r 23), .ref (r 25)])), (r 1, .inl (1, 3, .inr (.inr (.inr (.inr (rf3 r 2 2 3)))))), (r 2, .inr (4, [.ref (r 3), .int (S.1 0).1])), (r 3, .inl (0, 2646, .inl (S.1 0).2)), (r 20, .inr (2, [.int (S.2.2.2.1 0), .int (S.2.2.2.1 1), .int (S.2.2.2.1 2), .int (S.2.2.2.1 3), .int (S.2.2.2.1 4), .int (S.2.2.2.1 5)]))]) (wr := [(r 4, .inr (4, [.ref (r 5), .int (S.1 1).1])), (r 5, .inl (0, 2646, .inl (S.1 1).2)), (r 6, .inr (4, [.ref (r 7), .int (S.1 2).1])), (r 7, .inl (0, 2646, .inl (S.1 2).2)), (r 8, .inl (2, 3, .inr (.inr (.inr (.inr (rf3 r 9 2 3)))))), (r 9, .inr (3, [.int (S.2.1 0).1, .ref (r 10), .int (S.2.1 0).2.1])), (r 10, .inl (0, 21, .inl (S.2.1 0).2.2)), (r 11, .inr (3, [.int (S.2.1 1).1, .ref (r 12), .int (S.2.1 1).2.1])), (r 12, .inl (0, 21, .inl (S.2.1 1).2.2)), (r 13, .inr (3, [.int (S.2.1 2).1, .ref (r 14), .int (S.2.1 2).2.1])), (r 14, .inl (0, 21, .inl (S.2.1 2).2.2)), (r 15, .inl (3, 2, .inr (.inr (.inr (.inr (rf3 r 16 2 2)))))), (r 16, .inr (6, [.ref (r 17)])), (r 17, .inl (0, 21, .inl (S.2.2.1 0))), (r 18, .inr (6, [.ref (r 19)])), (r 19, .inl (0, 21, .inl (S.2.2.1 1))), (r 21, .inr (5, [.ref (r 22)])), (r 22, .inl (0, 21, .inl S.2.2.2.2.1)), (r 23, .inr (6, [.ref (r 24)])), (r 24, .inl (0, 21, .inl S.2.2.2.2.2.1)), (r 25, .inr (6, [.ref (r 26)])), (r 26, .inl (0, 21, .inl S.2.2.2.2.2.2))]) [0, 1, 2, 3, 20] [4, 5, 6, 7, 8, 9, 10, 11, 12, 13, 14, 15, 16, 17, 18, 19, 21, 22, 23, 24, 25, 26] (ok_X5_copyOwn (x := r 0) (M := r 1) (L := r 8) (Dk := r 15) (c := r 20) (se := r 21) (wk := r 23) (sp := r 25) (q := r 2) (a := r 3) (mf := rf3 r 2 2 3) (fun h9 => by have h8 := ix_in h9; rw [e] at h8; exact (congrArg (rf3 r 2 2 3) h8.symm).trans rfl) h0) rfl rfl rfl rfl (by decide) ?_
      rintro o w hp
      cases x0 with
      | inl z =>
        obtain ⟨g, e1, e2⟩ := PX.inl hp
        subst e1; subst e2
        exact ⟨_, [22, 23, 24, 25, 0, 1, 2, 3, 4, 5, 6, 7, 8, 9, 10, 11, 12, 13, 14, 15, 26, 16, 17, 18, 19, 20, 21], PX.mk g rfl rfl, rfl, rfl⟩
      | inr E =>
        obtain ⟨e1, e2⟩ := PX.inr hp
        subst e1; subst e2
        exact ⟨_, [22, 23, 24, 25, 0, 1, 2, 3, 4, 5, 6, 7, 8, 9, 10, 11, 12, 13, 14, 15, 26, 16, 17, 18, 19, 20, 21], PX.er, rfl, rfl⟩
    · rw [e] at h0
      try rw [e]
      refine ok_fr (wc := [(r 0, .inr (7, [.ref (r 1), .ref (r 8), .ref (r 15), .ref (r 20), .ref (r 21), .ref (r 23), .ref (r 25)])), (r 1, .inl (1, 3, .inr (.inr (.inr (.inr (rf3 r 2 2 3)))))), (r 4, .inr (4, [.ref (r 5), .int (S.1 1).1])), (r 5, .inl (0, 2646, .inl (S.1 1).2)), (r 20, .inr (2, [.int (S.2.2.2.1 0), .int (S.2.2.2.1 1), .int (S.2.2.2.1 2), .int (S.2.2.2.1 3), .int (S.2.2.2.1 4), .int (S.2.2.2.1 5)]))]) (wr := [(r 2, .inr (4, [.ref (r 3), .int (S.1 0).1])), (r 3, .inl (0, 2646, .inl (S.1 0).2)), (r 6, .inr (4, [.ref (r 7), .int (S.1 2).1])), (r 7, .inl (0, 2646, .inl (S.1 2).2)), (r 8, .inl (2, 3, .inr (.inr (.inr (.inr (rf3 r 9 2 3)))))), (r 9, .inr (3, [.int (S.2.1 0).1, .ref (r 10), .int (S.2.1 0).2.1])), (r 10, .inl (0, 21, .inl (S.2.1 0).2.2)), (r 11, .inr (3, [.int (S.2.1 1).1, .ref (r 12), .int (S.2.1 1).2.1])), (r 12, .inl (0, 21, .inl (S.2.1 1).2.2)), (r 13, .inr (3, [.int (S.2.1 2).1, .ref (r 14), .int (S.2.1 2).2.1])), (r 14, .inl (0, 21, .inl (S.2.1 2).2.2)), (r 15, .inl (3, 2, .inr (.inr (.inr (.inr (rf3 r 16 2 2)))))), (r 16, .inr (6, [.ref (r 17)])), (r 17, .inl (0, 21, .inl (S.2.2.1 0))), (r 18, .inr (6, [.ref (r 19)])), (r 19, .inl (0, 21, .inl (S.2.2.1 1))), (r 21, .inr (5, [.ref (r 22)])), (r 22, .inl (0, 21, .inl S.2.2.2.2.1)), (r 23, .inr (6, [.ref (r 24)])), (r 24, .inl (0, 21, .inl S.2.2.2.2.2.1)), (r 25, .inr (6, [.ref (r 26)])), (r 26, .inl (0, 21, .inl S.2.2.2.2.2.2))]) [0, 1, 4, 5, 20] [2, 3, 6, 7, 8, 9, 10, 11, 12, 13, 14, 15, 16, 17, 18, 19, 21, 22, 23, 24, 25, 26] (ok_X5_copyOwn (x := r 0) (M := r 1) (L := r 8) (Dk := r 15) (c := r 20) (se := r 21) (wk := r 23) (sp := r 25) (q := r 4) (a := r 5) (mf := rf3 r 2 2 3) (fun h9 => by have h8 := ix_in h9; rw [e] at h8; exact (congrArg (rf3 r 2 2 3) h8.symm).trans rfl) h0) rfl rfl rfl rfl (by decide) ?_
      rintro o w hp
      cases x0 with
      | inl z =>
        obtain ⟨g, e1, e2⟩ := PX.inl hp
        subst e1; subst e2
        exact ⟨_, [22, 23, 0, 1, 24, 25, 2, 3, 4, 5, 6, 7, 8, 9, 10, 11, 12, 13, 14, 15, 26, 16, 17, 18, 19, 20, 21], PX.mk g rfl rfl, rfl, rfl⟩
      | inr E =>
        obtain ⟨e1, e2⟩ := PX.inr hp
        subst e1; subst e2
        exact ⟨_, [22, 23, 0, 1, 24, 25, 2, 3, 4, 5, 6, 7, 8, 9, 10, 11, 12, 13, 14, 15, 26, 16, 17, 18, 19, 20, 21], PX.er, rfl, rfl⟩
    · rw [e] at h0
      try rw [e]
      refine ok_fr (wc := [(r 0, .inr (7, [.ref (r 1), .ref (r 8), .ref (r 15), .ref (r 20), .ref (r 21), .ref (r 23), .ref (r 25)])), (r 1, .inl (1, 3, .inr (.inr (.inr (.inr (rf3 r 2 2 3)))))), (r 6, .inr (4, [.ref (r 7), .int (S.1 2).1])), (r 7, .inl (0, 2646, .inl (S.1 2).2)), (r 20, .inr (2, [.int (S.2.2.2.1 0), .int (S.2.2.2.1 1), .int (S.2.2.2.1 2), .int (S.2.2.2.1 3), .int (S.2.2.2.1 4), .int (S.2.2.2.1 5)]))]) (wr := [(r 2, .inr (4, [.ref (r 3), .int (S.1 0).1])), (r 3, .inl (0, 2646, .inl (S.1 0).2)), (r 4, .inr (4, [.ref (r 5), .int (S.1 1).1])), (r 5, .inl (0, 2646, .inl (S.1 1).2)), (r 8, .inl (2, 3, .inr (.inr (.inr (.inr (rf3 r 9 2 3)))))), (r 9, .inr (3, [.int (S.2.1 0).1, .ref (r 10), .int (S.2.1 0).2.1])), (r 10, .inl (0, 21, .inl (S.2.1 0).2.2)), (r 11, .inr (3, [.int (S.2.1 1).1, .ref (r 12), .int (S.2.1 1).2.1])), (r 12, .inl (0, 21, .inl (S.2.1 1).2.2)), (r 13, .inr (3, [.int (S.2.1 2).1, .ref (r 14), .int (S.2.1 2).2.1])), (r 14, .inl (0, 21, .inl (S.2.1 2).2.2)), (r 15, .inl (3, 2, .inr (.inr (.inr (.inr (rf3 r 16 2 2)))))), (r 16, .inr (6, [.ref (r 17)])), (r 17, .inl (0, 21, .inl (S.2.2.1 0))), (r 18, .inr (6, [.ref (r 19)])), (r 19, .inl (0, 21, .inl (S.2.2.1 1))), (r 21, .inr (5, [.ref (r 22)])), (r 22, .inl (0, 21, .inl S.2.2.2.2.1)), (r 23, .inr (6, [.ref (r 24)])), (r 24, .inl (0, 21, .inl S.2.2.2.2.2.1)), (r 25, .inr (6, [.ref (r 26)])), (r 26, .inl (0, 21, .inl S.2.2.2.2.2.2))]) [0, 1, 6, 7, 20] [2, 3, 4, 5, 8, 9, 10, 11, 12, 13, 14, 15, 16, 17, 18, 19, 21, 22, 23, 24, 25, 26] (ok_X5_copyOwn (x := r 0) (M := r 1) (L := r 8) (Dk := r 15) (c := r 20) (se := r 21) (wk := r 23) (sp := r 25) (q := r 6) (a := r 7) (mf := rf3 r 2 2 3) (fun h9 => by have h8 := ix_in h9; rw [e] at h8; exact (congrArg (rf3 r 2 2 3) h8.symm).trans rfl) h0) rfl rfl rfl rfl (by decide) ?_
      rintro o w hp
      cases x0 with
      | inl z =>
        obtain ⟨g, e1, e2⟩ := PX.inl hp
        subst e1; subst e2
        exact ⟨_, [22, 23, 0, 1, 2, 3, 24, 25, 4, 5, 6, 7, 8, 9, 10, 11, 12, 13, 14, 15, 26, 16, 17, 18, 19, 20, 21], PX.mk g rfl rfl, rfl, rfl⟩
      | inr E =>
        obtain ⟨e1, e2⟩ := PX.inr hp
        subst e1; subst e2
        exact ⟨_, [22, 23, 0, 1, 2, 3, 24, 25, 4, 5, 6, 7, 8, 9, 10, 11, 12, 13, 14, 15, 26, 16, 17, 18, 19, 20, 21], PX.er, rfl, rfl⟩
  · rw [if_neg hpq] at hE
    obtain ⟨x0, h0, h1⟩ := Option.map_eq_some_iff.mp hE
    subst h1
    clear hE
    rcases jk3 hpq with ⟨e, f⟩ | ⟨e, f⟩ | ⟨e, f⟩ | ⟨e, f⟩ | ⟨e, f⟩ | ⟨e, f⟩
    · simp only [e, f] at h0 ⊢
      refine ok_fr (wc := [(r 0, .inr (7, [.ref (r 1), .ref (r 8), .ref (r 15), .ref (r 20), .ref (r 21), .ref (r 23), .ref (r 25)])), (r 1, .inl (1, 3, .inr (.inr (.inr (.inr (rf3 r 2 2 3)))))), (r 2, .inr (4, [.ref (r 3), .int (S.1 0).1])), (r 3, .inl (0, 2646, .inl (S.1 0).2)), (r 4, .inr (4, [.ref (r 5), .int (S.1 1).1])), (r 5, .inl (0, 2646, .inl (S.1 1).2)), (r 20, .inr (2, [.int (S.2.2.2.1 0), .int (S.2.2.2.1 1), .int (S.2.2.2.1 2), .int (S.2.2.2.1 3), .int (S.2.2.2.1 4), .int (S.2.2.2.1 5)]))]) (wr := [(r 6, .inr (4, [.ref (r 7), .int (S.1 2).1])), (r 7, .inl (0, 2646, .inl (S.1 2).2)), (r 8, .inl (2, 3, .inr (.inr (.inr (.inr (rf3 r 9 2 3)))))), (r 9, .inr (3, [.int (S.2.1 0).1, .ref (r 10), .int (S.2.1 0).2.1])), (r 10, .inl (0, 21, .inl (S.2.1 0).2.2)), (r 11, .inr (3, [.int (S.2.1 1).1, .ref (r 12), .int (S.2.1 1).2.1])), (r 12, .inl (0, 21, .inl (S.2.1 1).2.2)), (r 13, .inr (3, [.int (S.2.1 2).1, .ref (r 14), .int (S.2.1 2).2.1])), (r 14, .inl (0, 21, .inl (S.2.1 2).2.2)), (r 15, .inl (3, 2, .inr (.inr (.inr (.inr (rf3 r 16 2 2)))))), (r 16, .inr (6, [.ref (r 17)])), (r 17, .inl (0, 21, .inl (S.2.2.1 0))), (r 18, .inr (6, [.ref (r 19)])), (r 19, .inl (0, 21, .inl (S.2.2.1 1))), (r 21, .inr (5, [.ref (r 22)])), (r 22, .inl (0, 21, .inl S.2.2.2.2.1)), (r 23, .inr (6, [.ref (r 24)])), (r 24, .inl (0, 21, .inl S.2.2.2.2.2.1)), (r 25, .inr (6, [.ref (r 26)])), (r 26, .inl (0, 21, .inl S.2.2.2.2.2.2))]) [0, 1, 2, 3, 4, 5, 20] [6, 7, 8, 9, 10, 11, 12, 13, 14, 15, 16, 17, 18, 19, 21, 22, 23, 24, 25, 26] (ok_X5_copy (x := r 0) (M := r 1) (L := r 8) (Dk := r 15) (c := r 20) (se := r 21) (wk := r 23) (sp := r 25) (q := r 2) (a := r 3) (q2 := r 4) (a2 := r 5) (mf := rf3 r 2 2 3) (fun h9 => by have h8 := jx_in (q := p1) h9; rw [e] at h8; exact (congrArg (rf3 r 2 2 3) h8.symm).trans rfl) (fun h9 => by have h8 := kx_in (p := p0) h9; rw [f] at h8; exact (congrArg (rf3 r 2 2 3) h8.symm).trans rfl) h0) rfl rfl rfl rfl (by decide) ?_
      rintro o w hp
      cases x0 with
      | inl z =>
        obtain ⟨g, e1, e2⟩ := PX.inl hp
        subst e1; subst e2
        exact ⟨_, [20, 21, 22, 23, 24, 25, 0, 1, 2, 3, 4, 5, 6, 7, 8, 9, 10, 11, 12, 13, 26, 14, 15, 16, 17, 18, 19], PX.mk g rfl rfl, rfl, rfl⟩
      | inr E =>
        obtain ⟨e1, e2⟩ := PX.inr hp
        subst e1; subst e2
        exact ⟨_, [20, 21, 22, 23, 24, 25, 0, 1, 2, 3, 4, 5, 6, 7, 8, 9, 10, 11, 12, 13, 26, 14, 15, 16, 17, 18, 19], PX.er, rfl, rfl⟩
    · simp only [e, f] at h0 ⊢
      refine ok_fr (wc := [(r 0, .inr (7, [.ref (r 1), .ref (r 8), .ref (r 15), .ref (r 20), .ref (r 21), .ref (r 23), .ref (r 25)])), (r 1, .inl (1, 3, .inr (.inr (.inr (.inr (rf3 r 2 2 3)))))), (r 2, .inr (4, [.ref (r 3), .int (S.1 0).1])), (r 3, .inl (0, 2646, .inl (S.1 0).2)), (r 6, .inr (4, [.ref (r 7), .int (S.1 2).1])), (r 7, .inl (0, 2646, .inl (S.1 2).2)), (r 20, .inr (2, [.int (S.2.2.2.1 0), .int (S.2.2.2.1 1), .int (S.2.2.2.1 2), .int (S.2.2.2.1 3), .int (S.2.2.2.1 4), .int (S.2.2.2.1 5)]))]) (wr := [(r 4, .inr (4, [.ref (r 5), .int (S.1 1).1])), (r 5, .inl (0, 2646, .inl (S.1 1).2)), (r 8, .inl (2, 3, .inr (.inr (.inr (.inr (rf3 r 9 2 3)))))), (r 9, .inr (3, [.int (S.2.1 0).1, .ref (r 10), .int (S.2.1 0).2.1])), (r 10, .inl (0, 21, .inl (S.2.1 0).2.2)), (r 11, .inr (3, [.int (S.2.1 1).1, .ref (r 12), .int (S.2.1 1).2.1])), (r 12, .inl (0, 21, .inl (S.2.1 1).2.2)), (r 13, .inr (3, [.int (S.2.1 2).1, .ref (r 14), .int (S.2.1 2).2.1])), (r 14, .inl (0, 21, .inl (S.2.1 2).2.2)), (r 15, .inl (3, 2, .inr (.inr (.inr (.inr (rf3 r 16 2 2)))))), (r 16, .inr (6, [.ref (r 17)])), (r 17, .inl (0, 21, .inl (S.2.2.1 0))), (r 18, .inr (6, [.ref (r 19)])), (r 19, .inl (0, 21, .inl (S.2.2.1 1))), (r 21, .inr (5, [.ref (r 22)])), (r 22, .inl (0, 21, .inl S.2.2.2.2.1)), (r 23, .inr (6, [.ref (r 24)])), (r 24, .inl (0, 21, .inl S.2.2.2.2.2.1)), (r 25, .inr (6, [.ref (r 26)])), (r 26, .inl (0, 21, .inl S.2.2.2.2.2.2))]) [0, 1, 2, 3, 6, 7, 20] [4, 5, 8, 9, 10, 11, 12, 13, 14, 15, 16, 17, 18, 19, 21, 22, 23, 24, 25, 26] (ok_X5_copy (x := r 0) (M := r 1) (L := r 8) (Dk := r 15) (c := r 20) (se := r 21) (wk := r 23) (sp := r 25) (q := r 2) (a := r 3) (q2 := r 6) (a2 := r 7) (mf := rf3 r 2 2 3) (fun h9 => by have h8 := jx_in (q := p1) h9; rw [e] at h8; exact (congrArg (rf3 r 2 2 3) h8.symm).trans rfl) (fun h9 => by have h8 := kx_in (p := p0) h9; rw [f] at h8; exact (congrArg (rf3 r 2 2 3) h8.symm).trans rfl) h0) rfl rfl rfl rfl (by decide) ?_
      rintro o w hp
      cases x0 with
      | inl z =>
        obtain ⟨g, e1, e2⟩ := PX.inl hp
        subst e1; subst e2
        exact ⟨_, [20, 21, 22, 23, 0, 1, 24, 25, 2, 3, 4, 5, 6, 7, 8, 9, 10, 11, 12, 13, 26, 14, 15, 16, 17, 18, 19], PX.mk g rfl rfl, rfl, rfl⟩
      | inr E =>
        obtain ⟨e1, e2⟩ := PX.inr hp
        subst e1; subst e2
        exact ⟨_, [20, 21, 22, 23, 0, 1, 24, 25, 2, 3, 4, 5, 6, 7, 8, 9, 10, 11, 12, 13, 26, 14, 15, 16, 17, 18, 19], PX.er, rfl, rfl⟩
    · simp only [e, f] at h0 ⊢
      refine ok_fr (wc := [(r 0, .inr (7, [.ref (r 1), .ref (r 8), .ref (r 15), .ref (r 20), .ref (r 21), .ref (r 23), .ref (r 25)])), (r 1, .inl (1, 3, .inr (.inr (.inr (.inr (rf3 r 2 2 3)))))), (r 4, .inr (4, [.ref (r 5), .int (S.1 1).1])), (r 5, .inl (0, 2646, .inl (S.1 1).2)), (r 2, .inr (4, [.ref (r 3), .int (S.1 0).1])), (r 3, .inl (0, 2646, .inl (S.1 0).2)), (r 20, .inr (2, [.int (S.2.2.2.1 0), .int (S.2.2.2.1 1), .int (S.2.2.2.1 2), .int (S.2.2.2.1 3), .int (S.2.2.2.1 4), .int (S.2.2.2.1 5)]))]) (wr := [(r 6, .inr (4, [.ref (r 7), .int (S.1 2).1])), (r 7, .inl (0, 2646, .inl (S.1 2).2)), (r 8, .inl (2, 3, .inr (.inr (.inr (.inr (rf3 r 9 2 3)))))), (r 9, .inr (3, [.int (S.2.1 0).1, .ref (r 10), .int (S.2.1 0).2.1])), (r 10, .inl (0, 21, .inl (S.2.1 0).2.2)), (r 11, .inr (3, [.int (S.2.1 1).1, .ref (r 12), .int (S.2.1 1).2.1])), (r 12, .inl (0, 21, .inl (S.2.1 1).2.2)), (r 13, .inr (3, [.int (S.2.1 2).1, .ref (r 14), .int (S.2.1 2).2.1])), (r 14, .inl (0, 21, .inl (S.2.1 2).2.2)), (r 15, .inl (3, 2, .inr (.inr (.inr (.inr (rf3 r 16 2 2)))))), (r 16, .inr (6, [.ref (r 17)])), (r 17, .inl (0, 21, .inl (S.2.2.1 0))), (r 18, .inr (6, [.ref (r 19)])), (r 19, .inl (0, 21, .inl (S.2.2.1 1))), (r 21, .inr (5, [.ref (r 22)])), (r 22, .inl (0, 21, .inl S.2.2.2.2.1)), (r 23, .inr (6, [.ref (r 24)])), (r 24, .inl (0, 21, .inl S.2.2.2.2.2.1)), (r 25, .inr (6, [.ref (r 26)])), (r 26, .inl (0, 21, .inl S.2.2.2.2.2.2))]) [0, 1, 4, 5, 2, 3, 20] [6, 7, 8, 9, 10, 11, 12, 13, 14, 15, 16, 17, 18, 19, 21, 22, 23, 24, 25, 26] (ok_X5_copy (x := r 0) (M := r 1) (L := r 8) (Dk := r 15) (c := r 20) (se := r 21) (wk := r 23) (sp := r 25) (q := r 4) (a := r 5) (q2 := r 2) (a2 := r 3) (mf := rf3 r 2 2 3) (fun h9 => by have h8 := jx_in (q := p1) h9; rw [e] at h8; exact (congrArg (rf3 r 2 2 3) h8.symm).trans rfl) (fun h9 => by have h8 := kx_in (p := p0) h9; rw [f] at h8; exact (congrArg (rf3 r 2 2 3) h8.symm).trans rfl) h0) rfl rfl rfl rfl (by decide) ?_
      rintro o w hp
      cases x0 with
      | inl z =>
        obtain ⟨g, e1, e2⟩ := PX.inl hp
        subst e1; subst e2
        exact ⟨_, [20, 21, 24, 25, 22, 23, 0, 1, 2, 3, 4, 5, 6, 7, 8, 9, 10, 11, 12, 13, 26, 14, 15, 16, 17, 18, 19], PX.mk g rfl rfl, rfl, rfl⟩
      | inr E =>
        obtain ⟨e1, e2⟩ := PX.inr hp
        subst e1; subst e2
        exact ⟨_, [20, 21, 24, 25, 22, 23, 0, 1, 2, 3, 4, 5, 6, 7, 8, 9, 10, 11, 12, 13, 26, 14, 15, 16, 17, 18, 19], PX.er, rfl, rfl⟩
    · simp only [e, f] at h0 ⊢
      refine ok_fr (wc := [(r 0, .inr (7, [.ref (r 1), .ref (r 8), .ref (r 15), .ref (r 20), .ref (r 21), .ref (r 23), .ref (r 25)])), (r 1, .inl (1, 3, .inr (.inr (.inr (.inr (rf3 r 2 2 3)))))), (r 4, .inr (4, [.ref (r 5), .int (S.1 1).1])), (r 5, .inl (0, 2646, .inl (S.1 1).2)), (r 6, .inr (4, [.ref (r 7), .int (S.1 2).1])), (r 7, .inl (0, 2646, .inl (S.1 2).2)), (r 20, .inr (2, [.int (S.2.2.2.1 0), .int (S.2.2.2.1 1), .int (S.2.2.2.1 2), .int (S.2.2.2.1 3), .int (S.2.2.2.1 4), .int (S.2.2.2.1 5)]))]) (wr := [(r 2, .inr (4, [.ref (r 3), .int (S.1 0).1])), (r 3, .inl (0, 2646, .inl (S.1 0).2)), (r 8, .inl (2, 3, .inr (.inr (.inr (.inr (rf3 r 9 2 3)))))), (r 9, .inr (3, [.int (S.2.1 0).1, .ref (r 10), .int (S.2.1 0).2.1])), (r 10, .inl (0, 21, .inl (S.2.1 0).2.2)), (r 11, .inr (3, [.int (S.2.1 1).1, .ref (r 12), .int (S.2.1 1).2.1])), (r 12, .inl (0, 21, .inl (S.2.1 1).2.2)), (r 13, .inr (3, [.int (S.2.1 2).1, .ref (r 14), .int (S.2.1 2).2.1])), (r 14, .inl (0, 21, .inl (S.2.1 2).2.2)), (r 15, .inl (3, 2, .inr (.inr (.inr (.inr (rf3 r 16 2 2)))))), (r 16, .inr (6, [.ref (r 17)])), (r 17, .inl (0, 21, .inl (S.2.2.1 0))), (r 18, .inr (6, [.ref (r 19)])), (r 19, .inl (0, 21, .inl (S.2.2.1 1))), (r 21, .inr (5, [.ref (r 22)])), (r 22, .inl (0, 21, .inl S.2.2.2.2.1)), (r 23, .inr (6, [.ref (r 24)])), (r 24, .inl (0, 21, .inl S.2.2.2.2.2.1)), (r 25, .inr (6, [.ref (r 26)])), (r 26, .inl (0, 21, .inl S.2.2.2.2.2.2))]) [0, 1, 4, 5, 6, 7, 20] [2, 3, 8, 9, 10, 11, 12, 13, 14, 15, 16, 17, 18, 19, 21, 22, 23, 24, 25, 26] (ok_X5_copy (x := r 0) (M := r 1) (L := r 8) (Dk := r 15) (c := r 20) (se := r 21) (wk := r 23) (sp := r 25) (q := r 4) (a := r 5) (q2 := r 6) (a2 := r 7) (mf := rf3 r 2 2 3) (fun h9 => by have h8 := jx_in (q := p1) h9; rw [e] at h8; exact (congrArg (rf3 r 2 2 3) h8.symm).trans rfl) (fun h9 => by have h8 := kx_in (p := p0) h9; rw [f] at h8; exact (congrArg (rf3 r 2 2 3) h8.symm).trans rfl) h0) rfl rfl rfl rfl (by decide) ?_
      rintro o w hp
      cases x0 with
      | inl z =>
        obtain ⟨g, e1, e2⟩ := PX.inl hp
        subst e1; subst e2
        exact ⟨_, [20, 21, 0, 1, 22, 23, 24, 25, 2, 3, 4, 5, 6, 7, 8, 9, 10, 11, 12, 13, 26, 14, 15, 16, 17, 18, 19], PX.mk g rfl rfl, rfl, rfl⟩
      | inr E =>
        obtain ⟨e1, e2⟩ := PX.inr hp
        subst e1; subst e2
        exact ⟨_, [20, 21, 0, 1, 22, 23, 24, 25, 2, 3, 4, 5, 6, 7, 8, 9, 10, 11, 12, 13, 26, 14, 15, 16, 17, 18, 19], PX.er, rfl, rfl⟩
    · simp only [e, f] at h0 ⊢
      refine ok_fr (wc := [(r 0, .inr (7, [.ref (r 1), .ref (r 8), .ref (r 15), .ref (r 20), .ref (r 21), .ref (r 23), .ref (r 25)])), (r 1, .inl (1, 3, .inr (.inr (.inr (.inr (rf3 r 2 2 3)))))), (r 6, .inr (4, [.ref (r 7), .int (S.1 2).1])), (r 7, .inl (0, 2646, .inl (S.1 2).2)), (r 2, .inr (4, [.ref (r 3), .int (S.1 0).1])), (r 3, .inl (0, 2646, .inl (S.1 0).2)), (r 20, .inr (2, [.int (S.2.2.2.1 0), .int (S.2.2.2.1 1), .int (S.2.2.2.1 2), .int (S.2.2.2.1 3), .int (S.2.2.2.1 4), .int (S.2.2.2.1 5)]))]) (wr := [(r 4, .inr (4, [.ref (r 5), .int (S.1 1).1])), (r 5, .inl (0, 2646, .inl (S.1 1).2)), (r 8, .inl (2, 3, .inr (.inr (.inr (.inr (rf3 r 9 2 3)))))), (r 9, .inr (3, [.int (S.2.1 0).1, .ref (r 10), .int (S.2.1 0).2.1])), (r 10, .inl (0, 21, .inl (S.2.1 0).2.2)), (r 11, .inr (3, [.int (S.2.1 1).1, .ref (r 12), .int (S.2.1 1).2.1])), (r 12, .inl (0, 21, .inl (S.2.1 1).2.2)), (r 13, .inr (3, [.int (S.2.1 2).1, .ref (r 14), .int (S.2.1 2).2.1])), (r 14, .inl (0, 21, .inl (S.2.1 2).2.2)), (r 15, .inl (3, 2, .inr (.inr (.inr (.inr (rf3 r 16 2 2)))))), (r 16, .inr (6, [.ref (r 17)])), (r 17, .inl (0, 21, .inl (S.2.2.1 0))), (r 18, .inr (6, [.ref (r 19)])), (r 19, .inl (0, 21, .inl (S.2.2.1 1))), (r 21, .inr (5, [.ref (r 22)])), (r 22, .inl (0, 21, .inl S.2.2.2.2.1)), (r 23, .inr (6, [.ref (r 24)])), (r 24, .inl (0, 21, .inl S.2.2.2.2.2.1)), (r 25, .inr (6, [.ref (r 26)])), (r 26, .inl (0, 21, .inl S.2.2.2.2.2.2))]) [0, 1, 6, 7, 2, 3, 20] [4, 5, 8, 9, 10, 11, 12, 13, 14, 15, 16, 17, 18, 19, 21, 22, 23, 24, 25, 26] (ok_X5_copy (x := r 0) (M := r 1) (L := r 8) (Dk := r 15) (c := r 20) (se := r 21) (wk := r 23) (sp := r 25) (q := r 6) (a := r 7) (q2 := r 2) (a2 := r 3) (mf := rf3 r 2 2 3) (fun h9 => by have h8 := jx_in (q := p1) h9; rw [e] at h8; exact (congrArg (rf3 r 2 2 3) h8.symm).trans rfl) (fun h9 => by have h8 := kx_in (p := p0) h9; rw [f] at h8; exact (congrArg (rf3 r 2 2 3) h8.symm).trans rfl) h0) rfl rfl rfl rfl (by decide) ?_
      rintro o w hp
      cases x0 with
      | inl z =>
        obtain ⟨g, e1, e2⟩ := PX.inl hp
        subst e1; subst e2
        exact ⟨_, [20, 21, 24, 25, 0, 1, 22, 23, 2, 3, 4, 5, 6, 7, 8, 9, 10, 11, 12, 13, 26, 14, 15, 16, 17, 18, 19], PX.mk g rfl rfl, rfl, rfl⟩
      | inr E =>
        obtain ⟨e1, e2⟩ := PX.inr hp
        subst e1; subst e2
        exact ⟨_, [20, 21, 24, 25, 0, 1, 22, 23, 2, 3, 4, 5, 6, 7, 8, 9, 10, 11, 12, 13, 26, 14, 15, 16, 17, 18, 19], PX.er, rfl, rfl⟩
    · simp only [e, f] at h0 ⊢
      refine ok_fr (wc := [(r 0, .inr (7, [.ref (r 1), .ref (r 8), .ref (r 15), .ref (r 20), .ref (r 21), .ref (r 23), .ref (r 25)])), (r 1, .inl (1, 3, .inr (.inr (.inr (.inr (rf3 r 2 2 3)))))), (r 6, .inr (4, [.ref (r 7), .int (S.1 2).1])), (r 7, .inl (0, 2646, .inl (S.1 2).2)), (r 4, .inr (4, [.ref (r 5), .int (S.1 1).1])), (r 5, .inl (0, 2646, .inl (S.1 1).2)), (r 20, .inr (2, [.int (S.2.2.2.1 0), .int (S.2.2.2.1 1), .int (S.2.2.2.1 2), .int (S.2.2.2.1 3), .int (S.2.2.2.1 4), .int (S.2.2.2.1 5)]))]) (wr := [(r 2, .inr (4, [.ref (r 3), .int (S.1 0).1])), (r 3, .inl (0, 2646, .inl (S.1 0).2)), (r 8, .inl (2, 3, .inr (.inr (.inr (.inr (rf3 r 9 2 3)))))), (r 9, .inr (3, [.int (S.2.1 0).1, .ref (r 10), .int (S.2.1 0).2.1])), (r 10, .inl (0, 21, .inl (S.2.1 0).2.2)), (r 11, .inr (3, [.int (S.2.1 1).1, .ref (r 12), .int (S.2.1 1).2.1])), (r 12, .inl (0, 21, .inl (S.2.1 1).2.2)), (r 13, .inr (3, [.int (S.2.1 2).1, .ref (r 14), .int (S.2.1 2).2.1])), (r 14, .inl (0, 21, .inl (S.2.1 2).2.2)), (r 15, .inl (3, 2, .inr (.inr (.inr (.inr (rf3 r 16 2 2)))))), (r 16, .inr (6, [.ref (r 17)])), (r 17, .inl (0, 21, .inl (S.2.2.1 0))), (r 18, .inr (6, [.ref (r 19)])), (r 19, .inl (0, 21, .inl (S.2.2.1 1))), (r 21, .inr (5, [.ref (r 22)])), (r 22, .inl (0, 21, .inl S.2.2.2.2.1)), (r 23, .inr (6, [.ref (r 24)])), (r 24, .inl (0, 21, .inl S.2.2.2.2.2.1)), (r 25, .inr (6, [.ref (r 26)])), (r 26, .inl (0, 21, .inl S.2.2.2.2.2.2))]) [0, 1, 6, 7, 4, 5, 20] [2, 3, 8, 9, 10, 11, 12, 13, 14, 15, 16, 17, 18, 19, 21, 22, 23, 24, 25, 26] (ok_X5_copy (x := r 0) (M := r 1) (L := r 8) (Dk := r 15) (c := r 20) (se := r 21) (wk := r 23) (sp := r 25) (q := r 6) (a := r 7) (q2 := r 4) (a2 := r 5) (mf := rf3 r 2 2 3) (fun h9 => by have h8 := jx_in (q := p1) h9; rw [e] at h8; exact (congrArg (rf3 r 2 2 3) h8.symm).trans rfl) (fun h9 => by have h8 := kx_in (p := p0) h9; rw [f] at h8; exact (congrArg (rf3 r 2 2 3) h8.symm).trans rfl) h0) rfl rfl rfl rfl (by decide) ?_
      rintro o w hp
      cases x0 with
      | inl z =>
        obtain ⟨g, e1, e2⟩ := PX.inl hp
        subst e1; subst e2
        exact ⟨_, [20, 21, 0, 1, 24, 25, 22, 23, 2, 3, 4, 5, 6, 7, 8, 9, 10, 11, 12, 13, 26, 14, 15, 16, 17, 18, 19], PX.mk g rfl rfl, rfl, rfl⟩
      | inr E =>
        obtain ⟨e1, e2⟩ := PX.inr hp
        subst e1; subst e2
        exact ⟨_, [20, 21, 0, 1, 24, 25, 22, 23, 2, 3, 4, 5, 6, 7, 8, 9, 10, 11, 12, 13, 26, 14, 15, 16, 17, 18, 19], PX.er, rfl, rfl⟩
def gX_pour (N K : Nat) (S : CS) (p0 : Int32) (p1 : Int32) : Option ((Int32 × CS) ⊕ String) := if p0 = p1 then (fX5_pourOwn N K ((S.1 (ix 3 p0)).1) ((S.1 (ix 3 p0)).2) (S.2.2.2.1 0) (S.2.2.2.1 1) (S.2.2.2.1 2) (S.2.2.2.1 3) (S.2.2.2.1 4) (S.2.2.2.1 5) p0).map (fun o => match o with | .inl z => .inl (z.1, (S.1, S.2.1, S.2.2.1, (upm S.2.2.2.1 4 z.2), S.2.2.2.2.1, S.2.2.2.2.2.1, S.2.2.2.2.2.2)) | .inr E => .inr E) else (fX5_pour N K ((S.1 (jx 3 p0 p1)).1) ((S.1 (jx 3 p0 p1)).2) ((S.1 (kx 3 p0 p1)).1) ((S.1 (kx 3 p0 p1)).2) (S.2.2.2.1 0) (S.2.2.2.1 1) (S.2.2.2.1 2) (S.2.2.2.1 3) (S.2.2.2.1 4) (S.2.2.2.1 5) p0 p1).map (fun o => match o with | .inl z => .inl (z.1, ((upm S.1 (kx 3 p0 p1) (z.2.1, z.2.2.1)), S.2.1, S.2.2.1, (upm (upm S.2.2.2.1 0 z.2.2.2.1) 4 z.2.2.2.2), S.2.2.2.2.1, S.2.2.2.2.2.1, S.2.2.2.2.2.2)) | .inr E => .inr E)
set_option maxHeartbeats 4000000 in
set_option maxRecDepth 100000 in
theorem ogX_pour {N K : Nat} {r : Nat → Nat} {S : CS} {p0 : Int32} {p1 : Int32} {x : (Int32 × CS) ⊕ String} (hE : gX_pour N K S p0 p1 = some x) : OkM yX5_pour (.code yX5_pour cX5_pour 5 (some .int)) (9) 2 12 [.ref (r 0), .int p0, .int p1] (WX r S) ((PX (U := Int32 × CS) (fun z _ => some (.int z.1)) (fun z _ => WX r z.2) (WX r S)) x) := by
  unfold gX_pour at hE
  by_cases hpq : p0 = p1
  · subst hpq
    rw [if_pos rfl] at hE
    obtain ⟨x0, h0, h1⟩ := Option.map_eq_some_iff.mp hE
    subst h1
    clear hE
    rcases lt3 (ix_lt (n := 3) (p := p0) (by decide)) with e | e | e
    · rw [e] at h0
      try rw [e]
      refine ok_fr (wc := [(r 0, .inr (7, [.ref (r 1), .ref (r 8), .ref (r 15), .ref (r 20), .ref (r 21), .ref (r 23), .ref (r 25)])), (r 1, .inl (1, 3, .inr (.inr (.inr (.inr (rf3 r 2 2 3)))))), (r 2, .inr (4, [.ref (r 3), .int (S.1 0).1])), (r 3, .inl (0, 2646, .inl (S.1 0).2)), (r 20, .inr (2, [.int (S.2.2.2.1 0), .int (S.2.2.2.1 1), .int (S.2.2.2.1 2), .int (S.2.2.2.1 3), .int (S.2.2.2.1 4), .int (S.2.2.2.1 5)]))]) (wr := [(r 4, .inr (4, [.ref (r 5), .int (S.1 1).1])), (r 5, .inl (0, 2646, .inl (S.1 1).2)), (r 6, .inr (4, [.ref (r 7), .int (S.1 2).1])), (r 7, .inl (0, 2646, .inl (S.1 2).2)), (r 8, .inl (2, 3, .inr (.inr (.inr (.inr (rf3 r 9 2 3)))))), (r 9, .inr (3, [.int (S.2.1 0).1, .ref (r 10), .int (S.2.1 0).2.1])), (r 10, .inl (0, 21, .inl (S.2.1 0).2.2)), (r 11, .inr (3, [.int (S.2.1 1).1, .ref (r 12), .int (S.2.1 1).2.1])), (r 12, .inl (0, 21, .inl (S.2.1 1).2.2)), (r 13, .inr (3, [.int (S.2.1 2).1, .ref (r 14), .int (S.2.1 2).2.1])), (r 14, .inl (0, 21, .inl (S.2.1 2).2.2)), (r 15, .inl (3, 2, .inr (.inr (.inr (.inr (rf3 r 16 2 2)))))), (r 16, .inr (6, [.ref (r 17)])), (r 17, .inl (0, 21, .inl (S.2.2.1 0))), (r 18, .inr (6, [.ref (r 19)])), (r 19, .inl (0, 21, .inl (S.2.2.1 1))), (r 21, .inr (5, [.ref (r 22)])), (r 22, .inl (0, 21, .inl S.2.2.2.2.1)), (r 23, .inr (6, [.ref (r 24)])), (r 24, .inl (0, 21, .inl S.2.2.2.2.2.1)), (r 25, .inr (6, [.ref (r 26)])), (r 26, .inl (0, 21, .inl S.2.2.2.2.2.2))]) [0, 1, 2, 3, 20] [4, 5, 6, 7, 8, 9, 10, 11, 12, 13, 14, 15, 16, 17, 18, 19, 21, 22, 23, 24, 25, 26] (ok_X5_pourOwn (x := r 0) (M := r 1) (L := r 8) (Dk := r 15) (c := r 20) (se := r 21) (wk := r 23) (sp := r 25) (q := r 2) (a := r 3) (mf := rf3 r 2 2 3) (fun h9 => by have h8 := ix_in h9; rw [e] at h8; exact (congrArg (rf3 r 2 2 3) h8.symm).trans rfl) h0) rfl rfl rfl rfl (by decide) ?_
      rintro o w hp
      cases x0 with
      | inl z =>
        obtain ⟨g, e1, e2⟩ := PX.inl hp
        subst e1; subst e2
        exact ⟨_, [22, 23, 24, 25, 0, 1, 2, 3, 4, 5, 6, 7, 8, 9, 10, 11, 12, 13, 14, 15, 26, 16, 17, 18, 19, 20, 21], PX.mk g rfl rfl, rfl, rfl⟩
      | inr E =>
        obtain ⟨e1, e2⟩ := PX.inr hp
        subst e1; subst e2
        exact ⟨_, [22, 23, 24, 25, 0, 1, 2, 3, 4, 5, 6, 7, 8, 9, 10, 11, 12, 13, 14, 15, 26, 16, 17, 18, 19, 20, 21], PX.er, rfl, rfl⟩
    · rw [e] at h0
      try rw [e]
      refine ok_fr (wc := [(r 0, .inr (7, [.ref (r 1), .ref (r 8), .ref (r 15), .ref (r 20), .ref (r 21), .ref (r 23), .ref (r 25)])), (r 1, .inl (1, 3, .inr (.inr (.inr (.inr (rf3 r 2 2 3)))))), (r 4, .inr (4, [.ref (r 5), .int (S.1 1).1])), (r 5, .inl (0, 2646, .inl (S.1 1).2)), (r 20, .inr (2, [.int (S.2.2.2.1 0), .int (S.2.2.2.1 1), .int (S.2.2.2.1 2), .int (S.2.2.2.1 3), .int (S.2.2.2.1 4), .int (S.2.2.2.1 5)]))]) (wr := [(r 2, .inr (4, [.ref (r 3), .int (S.1 0).1])), (r 3, .inl (0, 2646, .inl (S.1 0).2)), (r 6, .inr (4, [.ref (r 7), .int (S.1 2).1])), (r 7, .inl (0, 2646, .inl (S.1 2).2)), (r 8, .inl (2, 3, .inr (.inr (.inr (.inr (rf3 r 9 2 3)))))), (r 9, .inr (3, [.int (S.2.1 0).1, .ref (r 10), .int (S.2.1 0).2.1])), (r 10, .inl (0, 21, .inl (S.2.1 0).2.2)), (r 11, .inr (3, [.int (S.2.1 1).1, .ref (r 12), .int (S.2.1 1).2.1])), (r 12, .inl (0, 21, .inl (S.2.1 1).2.2)), (r 13, .inr (3, [.int (S.2.1 2).1, .ref (r 14), .int (S.2.1 2).2.1])), (r 14, .inl (0, 21, .inl (S.2.1 2).2.2)), (r 15, .inl (3, 2, .inr (.inr (.inr (.inr (rf3 r 16 2 2)))))), (r 16, .inr (6, [.ref (r 17)])), (r 17, .inl (0, 21, .inl (S.2.2.1 0))), (r 18, .inr (6, [.ref (r 19)])), (r 19, .inl (0, 21, .inl (S.2.2.1 1))), (r 21, .inr (5, [.ref (r 22)])), (r 22, .inl (0, 21, .inl S.2.2.2.2.1)), (r 23, .inr (6, [.ref (r 24)])), (r 24, .inl (0, 21, .inl S.2.2.2.2.2.1)), (r 25, .inr (6, [.ref (r 26)])), (r 26, .inl (0, 21, .inl S.2.2.2.2.2.2))]) [0, 1, 4, 5, 20] [2, 3, 6, 7, 8, 9, 10, 11, 12, 13, 14, 15, 16, 17, 18, 19, 21, 22, 23, 24, 25, 26] (ok_X5_pourOwn (x := r 0) (M := r 1) (L := r 8) (Dk := r 15) (c := r 20) (se := r 21) (wk := r 23) (sp := r 25) (q := r 4) (a := r 5) (mf := rf3 r 2 2 3) (fun h9 => by have h8 := ix_in h9; rw [e] at h8; exact (congrArg (rf3 r 2 2 3) h8.symm).trans rfl) h0) rfl rfl rfl rfl (by decide) ?_
      rintro o w hp
      cases x0 with
      | inl z =>
        obtain ⟨g, e1, e2⟩ := PX.inl hp
        subst e1; subst e2
        exact ⟨_, [22, 23, 0, 1, 24, 25, 2, 3, 4, 5, 6, 7, 8, 9, 10, 11, 12, 13, 14, 15, 26, 16, 17, 18, 19, 20, 21], PX.mk g rfl rfl, rfl, rfl⟩
      | inr E =>
        obtain ⟨e1, e2⟩ := PX.inr hp
        subst e1; subst e2
        exact ⟨_, [22, 23, 0, 1, 24, 25, 2, 3, 4, 5, 6, 7, 8, 9, 10, 11, 12, 13, 14, 15, 26, 16, 17, 18, 19, 20, 21], PX.er, rfl, rfl⟩
    · rw [e] at h0
      try rw [e]
      refine ok_fr (wc := [(r 0, .inr (7, [.ref (r 1), .ref (r 8), .ref (r 15), .ref (r 20), .ref (r 21), .ref (r 23), .ref (r 25)])), (r 1, .inl (1, 3, .inr (.inr (.inr (.inr (rf3 r 2 2 3)))))), (r 6, .inr (4, [.ref (r 7), .int (S.1 2).1])), (r 7, .inl (0, 2646, .inl (S.1 2).2)), (r 20, .inr (2, [.int (S.2.2.2.1 0), .int (S.2.2.2.1 1), .int (S.2.2.2.1 2), .int (S.2.2.2.1 3), .int (S.2.2.2.1 4), .int (S.2.2.2.1 5)]))]) (wr := [(r 2, .inr (4, [.ref (r 3), .int (S.1 0).1])), (r 3, .inl (0, 2646, .inl (S.1 0).2)), (r 4, .inr (4, [.ref (r 5), .int (S.1 1).1])), (r 5, .inl (0, 2646, .inl (S.1 1).2)), (r 8, .inl (2, 3, .inr (.inr (.inr (.inr (rf3 r 9 2 3)))))), (r 9, .inr (3, [.int (S.2.1 0).1, .ref (r 10), .int (S.2.1 0).2.1])), (r 10, .inl (0, 21, .inl (S.2.1 0).2.2)), (r 11, .inr (3, [.int (S.2.1 1).1, .ref (r 12), .int (S.2.1 1).2.1])), (r 12, .inl (0, 21, .inl (S.2.1 1).2.2)), (r 13, .inr (3, [.int (S.2.1 2).1, .ref (r 14), .int (S.2.1 2).2.1])), (r 14, .inl (0, 21, .inl (S.2.1 2).2.2)), (r 15, .inl (3, 2, .inr (.inr (.inr (.inr (rf3 r 16 2 2)))))), (r 16, .inr (6, [.ref (r 17)])), (r 17, .inl (0, 21, .inl (S.2.2.1 0))), (r 18, .inr (6, [.ref (r 19)])), (r 19, .inl (0, 21, .inl (S.2.2.1 1))), (r 21, .inr (5, [.ref (r 22)])), (r 22, .inl (0, 21, .inl S.2.2.2.2.1)), (r 23, .inr (6, [.ref (r 24)])), (r 24, .inl (0, 21, .inl S.2.2.2.2.2.1)), (r 25, .inr (6, [.ref (r 26)])), (r 26, .inl (0, 21, .inl S.2.2.2.2.2.2))]) [0, 1, 6, 7, 20] [2, 3, 4, 5, 8, 9, 10, 11, 12, 13, 14, 15, 16, 17, 18, 19, 21, 22, 23, 24, 25, 26] (ok_X5_pourOwn (x := r 0) (M := r 1) (L := r 8) (Dk := r 15) (c := r 20) (se := r 21) (wk := r 23) (sp := r 25) (q := r 6) (a := r 7) (mf := rf3 r 2 2 3) (fun h9 => by have h8 := ix_in h9; rw [e] at h8; exact (congrArg (rf3 r 2 2 3) h8.symm).trans rfl) h0) rfl rfl rfl rfl (by decide) ?_
      rintro o w hp
      cases x0 with
      | inl z =>
        obtain ⟨g, e1, e2⟩ := PX.inl hp
        subst e1; subst e2
        exact ⟨_, [22, 23, 0, 1, 2, 3, 24, 25, 4, 5, 6, 7, 8, 9, 10, 11, 12, 13, 14, 15, 26, 16, 17, 18, 19, 20, 21], PX.mk g rfl rfl, rfl, rfl⟩
      | inr E =>
        obtain ⟨e1, e2⟩ := PX.inr hp
        subst e1; subst e2
        exact ⟨_, [22, 23, 0, 1, 2, 3, 24, 25, 4, 5, 6, 7, 8, 9, 10, 11, 12, 13, 14, 15, 26, 16, 17, 18, 19, 20, 21], PX.er, rfl, rfl⟩
  · rw [if_neg hpq] at hE
    obtain ⟨x0, h0, h1⟩ := Option.map_eq_some_iff.mp hE
    subst h1
    clear hE
    rcases jk3 hpq with ⟨e, f⟩ | ⟨e, f⟩ | ⟨e, f⟩ | ⟨e, f⟩ | ⟨e, f⟩ | ⟨e, f⟩
    · simp only [e, f] at h0 ⊢
      refine ok_fr (wc := [(r 0, .inr (7, [.ref (r 1), .ref (r 8), .ref (r 15), .ref (r 20), .ref (r 21), .ref (r 23), .ref (r 25)])), (r 1, .inl (1, 3, .inr (.inr (.inr (.inr (rf3 r 2 2 3)))))), (r 2, .inr (4, [.ref (r 3), .int (S.1 0).1])), (r 3, .inl (0, 2646, .inl (S.1 0).2)), (r 4, .inr (4, [.ref (r 5), .int (S.1 1).1])), (r 5, .inl (0, 2646, .inl (S.1 1).2)), (r 20, .inr (2, [.int (S.2.2.2.1 0), .int (S.2.2.2.1 1), .int (S.2.2.2.1 2), .int (S.2.2.2.1 3), .int (S.2.2.2.1 4), .int (S.2.2.2.1 5)]))]) (wr := [(r 6, .inr (4, [.ref (r 7), .int (S.1 2).1])), (r 7, .inl (0, 2646, .inl (S.1 2).2)), (r 8, .inl (2, 3, .inr (.inr (.inr (.inr (rf3 r 9 2 3)))))), (r 9, .inr (3, [.int (S.2.1 0).1, .ref (r 10), .int (S.2.1 0).2.1])), (r 10, .inl (0, 21, .inl (S.2.1 0).2.2)), (r 11, .inr (3, [.int (S.2.1 1).1, .ref (r 12), .int (S.2.1 1).2.1])), (r 12, .inl (0, 21, .inl (S.2.1 1).2.2)), (r 13, .inr (3, [.int (S.2.1 2).1, .ref (r 14), .int (S.2.1 2).2.1])), (r 14, .inl (0, 21, .inl (S.2.1 2).2.2)), (r 15, .inl (3, 2, .inr (.inr (.inr (.inr (rf3 r 16 2 2)))))), (r 16, .inr (6, [.ref (r 17)])), (r 17, .inl (0, 21, .inl (S.2.2.1 0))), (r 18, .inr (6, [.ref (r 19)])), (r 19, .inl (0, 21, .inl (S.2.2.1 1))), (r 21, .inr (5, [.ref (r 22)])), (r 22, .inl (0, 21, .inl S.2.2.2.2.1)), (r 23, .inr (6, [.ref (r 24)])), (r 24, .inl (0, 21, .inl S.2.2.2.2.2.1)), (r 25, .inr (6, [.ref (r 26)])), (r 26, .inl (0, 21, .inl S.2.2.2.2.2.2))]) [0, 1, 2, 3, 4, 5, 20] [6, 7, 8, 9, 10, 11, 12, 13, 14, 15, 16, 17, 18, 19, 21, 22, 23, 24, 25, 26] (ok_X5_pour (x := r 0) (M := r 1) (L := r 8) (Dk := r 15) (c := r 20) (se := r 21) (wk := r 23) (sp := r 25) (q := r 2) (a := r 3) (q2 := r 4) (a2 := r 5) (mf := rf3 r 2 2 3) (fun h9 => by have h8 := jx_in (q := p1) h9; rw [e] at h8; exact (congrArg (rf3 r 2 2 3) h8.symm).trans rfl) (fun h9 => by have h8 := kx_in (p := p0) h9; rw [f] at h8; exact (congrArg (rf3 r 2 2 3) h8.symm).trans rfl) h0) rfl rfl rfl rfl (by decide) ?_
      rintro o w hp
      cases x0 with
      | inl z =>
        obtain ⟨g, e1, e2⟩ := PX.inl hp
        subst e1; subst e2
        exact ⟨_, [20, 21, 22, 23, 24, 25, 0, 1, 2, 3, 4, 5, 6, 7, 8, 9, 10, 11, 12, 13, 26, 14, 15, 16, 17, 18, 19], PX.mk g rfl rfl, rfl, rfl⟩
      | inr E =>
        obtain ⟨e1, e2⟩ := PX.inr hp
        subst e1; subst e2
        exact ⟨_, [20, 21, 22, 23, 24, 25, 0, 1, 2, 3, 4, 5, 6, 7, 8, 9, 10, 11, 12, 13, 26, 14, 15, 16, 17, 18, 19], PX.er, rfl, rfl⟩
    · simp only [e, f] at h0 ⊢
      refine ok_fr (wc := [(r 0, .inr (7, [.ref (r 1), .ref (r 8), .ref (r 15), .ref (r 20), .ref (r 21), .ref (r 23), .ref (r 25)])), (r 1, .inl (1, 3, .inr (.inr (.inr (.inr (rf3 r 2 2 3)))))), (r 2, .inr (4, [.ref (r 3), .int (S.1 0).1])), (r 3, .inl (0, 2646, .inl (S.1 0).2)), (r 6, .inr (4, [.ref (r 7), .int (S.1 2).1])), (r 7, .inl (0, 2646, .inl (S.1 2).2)), (r 20, .inr (2, [.int (S.2.2.2.1 0), .int (S.2.2.2.1 1), .int (S.2.2.2.1 2), .int (S.2.2.2.1 3), .int (S.2.2.2.1 4), .int (S.2.2.2.1 5)]))]) (wr := [(r 4, .inr (4, [.ref (r 5), .int (S.1 1).1])), (r 5, .inl (0, 2646, .inl (S.1 1).2)), (r 8, .inl (2, 3, .inr (.inr (.inr (.inr (rf3 r 9 2 3)))))), (r 9, .inr (3, [.int (S.2.1 0).1, .ref (r 10), .int (S.2.1 0).2.1])), (r 10, .inl (0, 21, .inl (S.2.1 0).2.2)), (r 11, .inr (3, [.int (S.2.1 1).1, .ref (r 12), .int (S.2.1 1).2.1])), (r 12, .inl (0, 21, .inl (S.2.1 1).2.2)), (r 13, .inr (3, [.int (S.2.1 2).1, .ref (r 14), .int (S.2.1 2).2.1])), (r 14, .inl (0, 21, .inl (S.2.1 2).2.2)), (r 15, .inl (3, 2, .inr (.inr (.inr (.inr (rf3 r 16 2 2)))))), (r 16, .inr (6, [.ref (r 17)])), (r 17, .inl (0, 21, .inl (S.2.2.1 0))), (r 18, .inr (6, [.ref (r 19)])), (r 19, .inl (0, 21, .inl (S.2.2.1 1))), (r 21, .inr (5, [.ref (r 22)])), (r 22, .inl (0, 21, .inl S.2.2.2.2.1)), (r 23, .inr (6, [.ref (r 24)])), (r 24, .inl (0, 21, .inl S.2.2.2.2.2.1)), (r 25, .inr (6, [.ref (r 26)])), (r 26, .inl (0, 21, .inl S.2.2.2.2.2.2))]) [0, 1, 2, 3, 6, 7, 20] [4, 5, 8, 9, 10, 11, 12, 13, 14, 15, 16, 17, 18, 19, 21, 22, 23, 24, 25, 26] (ok_X5_pour (x := r 0) (M := r 1) (L := r 8) (Dk := r 15) (c := r 20) (se := r 21) (wk := r 23) (sp := r 25) (q := r 2) (a := r 3) (q2 := r 6) (a2 := r 7) (mf := rf3 r 2 2 3) (fun h9 => by have h8 := jx_in (q := p1) h9; rw [e] at h8; exact (congrArg (rf3 r 2 2 3) h8.symm).trans rfl) (fun h9 => by have h8 := kx_in (p := p0) h9; rw [f] at h8; exact (congrArg (rf3 r 2 2 3) h8.symm).trans rfl) h0) rfl rfl rfl rfl (by decide) ?_
      rintro o w hp
      cases x0 with
      | inl z =>
        obtain ⟨g, e1, e2⟩ := PX.inl hp
        subst e1; subst e2
        exact ⟨_, [20, 21, 22, 23, 0, 1, 24, 25, 2, 3, 4, 5, 6, 7, 8, 9, 10, 11, 12, 13, 26, 14, 15, 16, 17, 18, 19], PX.mk g rfl rfl, rfl, rfl⟩
      | inr E =>
        obtain ⟨e1, e2⟩ := PX.inr hp
        subst e1; subst e2
        exact ⟨_, [20, 21, 22, 23, 0, 1, 24, 25, 2, 3, 4, 5, 6, 7, 8, 9, 10, 11, 12, 13, 26, 14, 15, 16, 17, 18, 19], PX.er, rfl, rfl⟩
    · simp only [e, f] at h0 ⊢
      refine ok_fr (wc := [(r 0, .inr (7, [.ref (r 1), .ref (r 8), .ref (r 15), .ref (r 20), .ref (r 21), .ref (r 23), .ref (r 25)])), (r 1, .inl (1, 3, .inr (.inr (.inr (.inr (rf3 r 2 2 3)))))), (r 4, .inr (4, [.ref (r 5), .int (S.1 1).1])), (r 5, .inl (0, 2646, .inl (S.1 1).2)), (r 2, .inr (4, [.ref (r 3), .int (S.1 0).1])), (r 3, .inl (0, 2646, .inl (S.1 0).2)), (r 20, .inr (2, [.int (S.2.2.2.1 0), .int (S.2.2.2.1 1), .int (S.2.2.2.1 2), .int (S.2.2.2.1 3), .int (S.2.2.2.1 4), .int (S.2.2.2.1 5)]))]) (wr := [(r 6, .inr (4, [.ref (r 7), .int (S.1 2).1])), (r 7, .inl (0, 2646, .inl (S.1 2).2)), (r 8, .inl (2, 3, .inr (.inr (.inr (.inr (rf3 r 9 2 3)))))), (r 9, .inr (3, [.int (S.2.1 0).1, .ref (r 10), .int (S.2.1 0).2.1])), (r 10, .inl (0, 21, .inl (S.2.1 0).2.2)), (r 11, .inr (3, [.int (S.2.1 1).1, .ref (r 12), .int (S.2.1 1).2.1])), (r 12, .inl (0, 21, .inl (S.2.1 1).2.2)), (r 13, .inr (3, [.int (S.2.1 2).1, .ref (r 14), .int (S.2.1 2).2.1])), (r 14, .inl (0, 21, .inl (S.2.1 2).2.2)), (r 15, .inl (3, 2, .inr (.inr (.inr (.inr (rf3 r 16 2 2)))))), (r 16, .inr (6, [.ref (r 17)])), (r 17, .inl (0, 21, .inl (S.2.2.1 0))), (r 18, .inr (6, [.ref (r 19)])), (r 19, .inl (0, 21, .inl (S.2.2.1 1))), (r 21, .inr (5, [.ref (r 22)])), (r 22, .inl (0, 21, .inl S.2.2.2.2.1)), (r 23, .inr (6, [.ref (r 24)])), (r 24, .inl (0, 21, .inl S.2.2.2.2.2.1)), (r 25, .inr (6, [.ref (r 26)])), (r 26, .inl (0, 21, .inl S.2.2.2.2.2.2))]) [0, 1, 4, 5, 2, 3, 20] [6, 7, 8, 9, 10, 11, 12, 13, 14, 15, 16, 17, 18, 19, 21, 22, 23, 24, 25, 26] (ok_X5_pour (x := r 0) (M := r 1) (L := r 8) (Dk := r 15) (c := r 20) (se := r 21) (wk := r 23) (sp := r 25) (q := r 4) (a := r 5) (q2 := r 2) (a2 := r 3) (mf := rf3 r 2 2 3) (fun h9 => by have h8 := jx_in (q := p1) h9; rw [e] at h8; exact (congrArg (rf3 r 2 2 3) h8.symm).trans rfl) (fun h9 => by have h8 := kx_in (p := p0) h9; rw [f] at h8; exact (congrArg (rf3 r 2 2 3) h8.symm).trans rfl) h0) rfl rfl rfl rfl (by decide) ?_
      rintro o w hp
      cases x0 with
      | inl z =>
        obtain ⟨g, e1, e2⟩ := PX.inl hp
        subst e1; subst e2
        exact ⟨_, [20, 21, 24, 25, 22, 23, 0, 1, 2, 3, 4, 5, 6, 7, 8, 9, 10, 11, 12, 13, 26, 14, 15, 16, 17, 18, 19], PX.mk g rfl rfl, rfl, rfl⟩
      | inr E =>
        obtain ⟨e1, e2⟩ := PX.inr hp
        subst e1; subst e2
        exact ⟨_, [20, 21, 24, 25, 22, 23, 0, 1, 2, 3, 4, 5, 6, 7, 8, 9, 10, 11, 12, 13, 26, 14, 15, 16, 17, 18, 19], PX.er, rfl, rfl⟩
    · simp only [e, f] at h0 ⊢
      refine ok_fr (wc := [(r 0, .inr (7, [.ref (r 1), .ref (r 8), .ref (r 15), .ref (r 20), .ref (r 21), .ref (r 23), .ref (r 25)])), (r 1, .inl (1, 3, .inr (.inr (.inr (.inr (rf3 r 2 2 3)))))), (r 4, .inr (4, [.ref (r 5), .int (S.1 1).1])), (r 5, .inl (0, 2646, .inl (S.1 1).2)), (r 6, .inr (4, [.ref (r 7), .int (S.1 2).1])), (r 7, .inl (0, 2646, .inl (S.1 2).2)), (r 20, .inr (2, [.int (S.2.2.2.1 0), .int (S.2.2.2.1 1), .int (S.2.2.2.1 2), .int (S.2.2.2.1 3), .int (S.2.2.2.1 4), .int (S.2.2.2.1 5)]))]) (wr := [(r 2, .inr (4, [.ref (r 3), .int (S.1 0).1])), (r 3, .inl (0, 2646, .inl (S.1 0).2)), (r 8, .inl (2, 3, .inr (.inr (.inr (.inr (rf3 r 9 2 3)))))), (r 9, .inr (3, [.int (S.2.1 0).1, .ref (r 10), .int (S.2.1 0).2.1])), (r 10, .inl (0, 21, .inl (S.2.1 0).2.2)), (r 11, .inr (3, [.int (S.2.1 1).1, .ref (r 12), .int (S.2.1 1).2.1])), (r 12, .inl (0, 21, .inl (S.2.1 1).2.2)), (r 13, .inr (3, [.int (S.2.1 2).1, .ref (r 14), .int (S.2.1 2).2.1])), (r 14, .inl (0, 21, .inl (S.2.1 2).2.2)), (r 15, .inl (3, 2, .inr (.inr (.inr (.inr (rf3 r 16 2 2)))))), (r 16, .inr (6, [.ref (r 17)])), (r 17, .inl (0, 21, .inl (S.2.2.1 0))), (r 18, .inr (6, [.ref (r 19)])), (r 19, .inl (0, 21, .inl (S.2.2.1 1))), (r 21, .inr (5, [.ref (r 22)])), (r 22, .inl (0, 21, .inl S.2.2.2.2.1)), (r 23, .inr (6, [.ref (r 24)])), (r 24, .inl (0, 21, .inl S.2.2.2.2.2.1)), (r 25, .inr (6, [.ref (r 26)])), (r 26, .inl (0, 21, .inl S.2.2.2.2.2.2))]) [0, 1, 4, 5, 6, 7, 20] [2, 3, 8, 9, 10, 11, 12, 13, 14, 15, 16, 17, 18, 19, 21, 22, 23, 24, 25, 26] (ok_X5_pour (x := r 0) (M := r 1) (L := r 8) (Dk := r 15) (c := r 20) (se := r 21) (wk := r 23) (sp := r 25) (q := r 4) (a := r 5) (q2 := r 6) (a2 := r 7) (mf := rf3 r 2 2 3) (fun h9 => by have h8 := jx_in (q := p1) h9; rw [e] at h8; exact (congrArg (rf3 r 2 2 3) h8.symm).trans rfl) (fun h9 => by have h8 := kx_in (p := p0) h9; rw [f] at h8; exact (congrArg (rf3 r 2 2 3) h8.symm).trans rfl) h0) rfl rfl rfl rfl (by decide) ?_
      rintro o w hp
      cases x0 with
      | inl z =>
        obtain ⟨g, e1, e2⟩ := PX.inl hp
        subst e1; subst e2
        exact ⟨_, [20, 21, 0, 1, 22, 23, 24, 25, 2, 3, 4, 5, 6, 7, 8, 9, 10, 11, 12, 13, 26, 14, 15, 16, 17, 18, 19], PX.mk g rfl rfl, rfl, rfl⟩
      | inr E =>
        obtain ⟨e1, e2⟩ := PX.inr hp
        subst e1; subst e2
        exact ⟨_, [20, 21, 0, 1, 22, 23, 24, 25, 2, 3, 4, 5, 6, 7, 8, 9, 10, 11, 12, 13, 26, 14, 15, 16, 17, 18, 19], PX.er, rfl, rfl⟩
    · simp only [e, f] at h0 ⊢
      refine ok_fr (wc := [(r 0, .inr (7, [.ref (r 1), .ref (r 8), .ref (r 15), .ref (r 20), .ref (r 21), .ref (r 23), .ref (r 25)])), (r 1, .inl (1, 3, .inr (.inr (.inr (.inr (rf3 r 2 2 3)))))), (r 6, .inr (4, [.ref (r 7), .int (S.1 2).1])), (r 7, .inl (0, 2646, .inl (S.1 2).2)), (r 2, .inr (4, [.ref (r 3), .int (S.1 0).1])), (r 3, .inl (0, 2646, .inl (S.1 0).2)), (r 20, .inr (2, [.int (S.2.2.2.1 0), .int (S.2.2.2.1 1), .int (S.2.2.2.1 2), .int (S.2.2.2.1 3), .int (S.2.2.2.1 4), .int (S.2.2.2.1 5)]))]) (wr := [(r 4, .inr (4, [.ref (r 5), .int (S.1 1).1])), (r 5, .inl (0, 2646, .inl (S.1 1).2)), (r 8, .inl (2, 3, .inr (.inr (.inr (.inr (rf3 r 9 2 3)))))), (r 9, .inr (3, [.int (S.2.1 0).1, .ref (r 10), .int (S.2.1 0).2.1])), (r 10, .inl (0, 21, .inl (S.2.1 0).2.2)), (r 11, .inr (3, [.int (S.2.1 1).1, .ref (r 12), .int (S.2.1 1).2.1])), (r 12, .inl (0, 21, .inl (S.2.1 1).2.2)), (r 13, .inr (3, [.int (S.2.1 2).1, .ref (r 14), .int (S.2.1 2).2.1])), (r 14, .inl (0, 21, .inl (S.2.1 2).2.2)), (r 15, .inl (3, 2, .inr (.inr (.inr (.inr (rf3 r 16 2 2)))))), (r 16, .inr (6, [.ref (r 17)])), (r 17, .inl (0, 21, .inl (S.2.2.1 0))), (r 18, .inr (6, [.ref (r 19)])), (r 19, .inl (0, 21, .inl (S.2.2.1 1))), (r 21, .inr (5, [.ref (r 22)])), (r 22, .inl (0, 21, .inl S.2.2.2.2.1)), (r 23, .inr (6, [.ref (r 24)])), (r 24, .inl (0, 21, .inl S.2.2.2.2.2.1)), (r 25, .inr (6, [.ref (r 26)])), (r 26, .inl (0, 21, .inl S.2.2.2.2.2.2))]) [0, 1, 6, 7, 2, 3, 20] [4, 5, 8, 9, 10, 11, 12, 13, 14, 15, 16, 17, 18, 19, 21, 22, 23, 24, 25, 26] (ok_X5_pour (x := r 0) (M := r 1) (L := r 8) (Dk := r 15) (c := r 20) (se := r 21) (wk := r 23) (sp := r 25) (q := r 6) (a := r 7) (q2 := r 2) (a2 := r 3) (mf := rf3 r 2 2 3) (fun h9 => by have h8 := jx_in (q := p1) h9; rw [e] at h8; exact (congrArg (rf3 r 2 2 3) h8.symm).trans rfl) (fun h9 => by have h8 := kx_in (p := p0) h9; rw [f] at h8; exact (congrArg (rf3 r 2 2 3) h8.symm).trans rfl) h0) rfl rfl rfl rfl (by decide) ?_
      rintro o w hp
      cases x0 with
      | inl z =>
        obtain ⟨g, e1, e2⟩ := PX.inl hp
        subst e1; subst e2
        exact ⟨_, [20, 21, 24, 25, 0, 1, 22, 23, 2, 3, 4, 5, 6, 7, 8, 9, 10, 11, 12, 13, 26, 14, 15, 16, 17, 18, 19], PX.mk g rfl rfl, rfl, rfl⟩
      | inr E =>
        obtain ⟨e1, e2⟩ := PX.inr hp
        subst e1; subst e2
        exact ⟨_, [20, 21, 24, 25, 0, 1, 22, 23, 2, 3, 4, 5, 6, 7, 8, 9, 10, 11, 12, 13, 26, 14, 15, 16, 17, 18, 19], PX.er, rfl, rfl⟩
    · simp only [e, f] at h0 ⊢
      refine ok_fr (wc := [(r 0, .inr (7, [.ref (r 1), .ref (r 8), .ref (r 15), .ref (r 20), .ref (r 21), .ref (r 23), .ref (r 25)])), (r 1, .inl (1, 3, .inr (.inr (.inr (.inr (rf3 r 2 2 3)))))), (r 6, .inr (4, [.ref (r 7), .int (S.1 2).1])), (r 7, .inl (0, 2646, .inl (S.1 2).2)), (r 4, .inr (4, [.ref (r 5), .int (S.1 1).1])), (r 5, .inl (0, 2646, .inl (S.1 1).2)), (r 20, .inr (2, [.int (S.2.2.2.1 0), .int (S.2.2.2.1 1), .int (S.2.2.2.1 2), .int (S.2.2.2.1 3), .int (S.2.2.2.1 4), .int (S.2.2.2.1 5)]))]) (wr := [(r 2, .inr (4, [.ref (r 3), .int (S.1 0).1])), (r 3, .inl (0, 2646, .inl (S.1 0).2)), (r 8, .inl (2, 3, .inr (.inr (.inr (.inr (rf3 r 9 2 3)))))), (r 9, .inr (3, [.int (S.2.1 0).1, .ref (r 10), .int (S.2.1 0).2.1])), (r 10, .inl (0, 21, .inl (S.2.1 0).2.2)), (r 11, .inr (3, [.int (S.2.1 1).1, .ref (r 12), .int (S.2.1 1).2.1])), (r 12, .inl (0, 21, .inl (S.2.1 1).2.2)), (r 13, .inr (3, [.int (S.2.1 2).1, .ref (r 14), .int (S.2.1 2).2.1])), (r 14, .inl (0, 21, .inl (S.2.1 2).2.2)), (r 15, .inl (3, 2, .inr (.inr (.inr (.inr (rf3 r 16 2 2)))))), (r 16, .inr (6, [.ref (r 17)])), (r 17, .inl (0, 21, .inl (S.2.2.1 0))), (r 18, .inr (6, [.ref (r 19)])), (r 19, .inl (0, 21, .inl (S.2.2.1 1))), (r 21, .inr (5, [.ref (r 22)])), (r 22, .inl (0, 21, .inl S.2.2.2.2.1)), (r 23, .inr (6, [.ref (r 24)])), (r 24, .inl (0, 21, .inl S.2.2.2.2.2.1)), (r 25, .inr (6, [.ref (r 26)])), (r 26, .inl (0, 21, .inl S.2.2.2.2.2.2))]) [0, 1, 6, 7, 4, 5, 20] [2, 3, 8, 9, 10, 11, 12, 13, 14, 15, 16, 17, 18, 19, 21, 22, 23, 24, 25, 26] (ok_X5_pour (x := r 0) (M := r 1) (L := r 8) (Dk := r 15) (c := r 20) (se := r 21) (wk := r 23) (sp := r 25) (q := r 6) (a := r 7) (q2 := r 4) (a2 := r 5) (mf := rf3 r 2 2 3) (fun h9 => by have h8 := jx_in (q := p1) h9; rw [e] at h8; exact (congrArg (rf3 r 2 2 3) h8.symm).trans rfl) (fun h9 => by have h8 := kx_in (p := p0) h9; rw [f] at h8; exact (congrArg (rf3 r 2 2 3) h8.symm).trans rfl) h0) rfl rfl rfl rfl (by decide) ?_
      rintro o w hp
      cases x0 with
      | inl z =>
        obtain ⟨g, e1, e2⟩ := PX.inl hp
        subst e1; subst e2
        exact ⟨_, [20, 21, 0, 1, 24, 25, 22, 23, 2, 3, 4, 5, 6, 7, 8, 9, 10, 11, 12, 13, 26, 14, 15, 16, 17, 18, 19], PX.mk g rfl rfl, rfl, rfl⟩
      | inr E =>
        obtain ⟨e1, e2⟩ := PX.inr hp
        subst e1; subst e2
        exact ⟨_, [20, 21, 0, 1, 24, 25, 22, 23, 2, 3, 4, 5, 6, 7, 8, 9, 10, 11, 12, 13, 26, 14, 15, 16, 17, 18, 19], PX.er, rfl, rfl⟩
def gX_isKept (N K : Nat) (S : CS) (p0 : Int32) (p1 : Int32) (p2 : Int32) (p3 : Int32) (p4 : Int32) : Option ((Int32 × CS) ⊕ String) := (fX5_isKept N K ((S.1 (ix 3 p0)).1) ((S.1 (ix 3 p0)).2) p0 p1 p2 p3 p4).map (fun o => match o with | .inl z => .inl (z, (S.1, S.2.1, S.2.2.1, S.2.2.2.1, S.2.2.2.2.1, S.2.2.2.2.2.1, S.2.2.2.2.2.2)) | .inr E => .inr E)
set_option maxHeartbeats 4000000 in
set_option maxRecDepth 100000 in
theorem ogX_isKept {N K : Nat} {r : Nat → Nat} {S : CS} {p0 : Int32} {p1 : Int32} {p2 : Int32} {p3 : Int32} {p4 : Int32} {x : (Int32 × CS) ⊕ String} (hE : gX_isKept N K S p0 p1 p2 p3 p4 = some x) : OkM yX5_isKept (.code yX5_isKept cX5_isKept 7 (some .boolean)) (10) 5 30 [.ref (r 0), .int p0, .int p1, .int p2, .int p3, .int p4] (WX r S) ((PX (U := Int32 × CS) (fun z _ => some (.int z.1)) (fun z _ => WX r z.2) (WX r S)) x) := by
  unfold gX_isKept at hE
  obtain ⟨x0, h0, h1⟩ := Option.map_eq_some_iff.mp hE
  subst h1
  clear hE
  rcases lt3 (ix_lt (n := 3) (p := p0) (by decide)) with e | e | e
  · rw [e] at h0
    try rw [e]
    refine ok_fr (wc := [(r 0, .inr (7, [.ref (r 1), .ref (r 8), .ref (r 15), .ref (r 20), .ref (r 21), .ref (r 23), .ref (r 25)])), (r 1, .inl (1, 3, .inr (.inr (.inr (.inr (rf3 r 2 2 3)))))), (r 2, .inr (4, [.ref (r 3), .int (S.1 0).1])), (r 3, .inl (0, 2646, .inl (S.1 0).2))]) (wr := [(r 4, .inr (4, [.ref (r 5), .int (S.1 1).1])), (r 5, .inl (0, 2646, .inl (S.1 1).2)), (r 6, .inr (4, [.ref (r 7), .int (S.1 2).1])), (r 7, .inl (0, 2646, .inl (S.1 2).2)), (r 8, .inl (2, 3, .inr (.inr (.inr (.inr (rf3 r 9 2 3)))))), (r 9, .inr (3, [.int (S.2.1 0).1, .ref (r 10), .int (S.2.1 0).2.1])), (r 10, .inl (0, 21, .inl (S.2.1 0).2.2)), (r 11, .inr (3, [.int (S.2.1 1).1, .ref (r 12), .int (S.2.1 1).2.1])), (r 12, .inl (0, 21, .inl (S.2.1 1).2.2)), (r 13, .inr (3, [.int (S.2.1 2).1, .ref (r 14), .int (S.2.1 2).2.1])), (r 14, .inl (0, 21, .inl (S.2.1 2).2.2)), (r 15, .inl (3, 2, .inr (.inr (.inr (.inr (rf3 r 16 2 2)))))), (r 16, .inr (6, [.ref (r 17)])), (r 17, .inl (0, 21, .inl (S.2.2.1 0))), (r 18, .inr (6, [.ref (r 19)])), (r 19, .inl (0, 21, .inl (S.2.2.1 1))), (r 20, .inr (2, [.int (S.2.2.2.1 0), .int (S.2.2.2.1 1), .int (S.2.2.2.1 2), .int (S.2.2.2.1 3), .int (S.2.2.2.1 4), .int (S.2.2.2.1 5)])), (r 21, .inr (5, [.ref (r 22)])), (r 22, .inl (0, 21, .inl S.2.2.2.2.1)), (r 23, .inr (6, [.ref (r 24)])), (r 24, .inl (0, 21, .inl S.2.2.2.2.2.1)), (r 25, .inr (6, [.ref (r 26)])), (r 26, .inl (0, 21, .inl S.2.2.2.2.2.2))]) [0, 1, 2, 3] [4, 5, 6, 7, 8, 9, 10, 11, 12, 13, 14, 15, 16, 17, 18, 19, 20, 21, 22, 23, 24, 25, 26] (ok_X5_isKept (x := r 0) (M := r 1) (L := r 8) (Dk := r 15) (c := r 20) (se := r 21) (wk := r 23) (sp := r 25) (q := r 2) (a := r 3) (mf := rf3 r 2 2 3) (fun h9 => by have h8 := ix_in h9; rw [e] at h8; exact (congrArg (rf3 r 2 2 3) h8.symm).trans rfl) h0) rfl rfl rfl rfl (by decide) ?_
    rintro o w hp
    cases x0 with
    | inl z =>
      obtain ⟨g, e1, e2⟩ := PX.inl hp
      subst e1; subst e2
      exact ⟨_, [23, 24, 25, 26, 0, 1, 2, 3, 4, 5, 6, 7, 8, 9, 10, 11, 12, 13, 14, 15, 16, 17, 18, 19, 20, 21, 22], PX.mk g rfl rfl, rfl, rfl⟩
    | inr E =>
      obtain ⟨e1, e2⟩ := PX.inr hp
      subst e1; subst e2
      exact ⟨_, [23, 24, 25, 26, 0, 1, 2, 3, 4, 5, 6, 7, 8, 9, 10, 11, 12, 13, 14, 15, 16, 17, 18, 19, 20, 21, 22], PX.er, rfl, rfl⟩
  · rw [e] at h0
    try rw [e]
    refine ok_fr (wc := [(r 0, .inr (7, [.ref (r 1), .ref (r 8), .ref (r 15), .ref (r 20), .ref (r 21), .ref (r 23), .ref (r 25)])), (r 1, .inl (1, 3, .inr (.inr (.inr (.inr (rf3 r 2 2 3)))))), (r 4, .inr (4, [.ref (r 5), .int (S.1 1).1])), (r 5, .inl (0, 2646, .inl (S.1 1).2))]) (wr := [(r 2, .inr (4, [.ref (r 3), .int (S.1 0).1])), (r 3, .inl (0, 2646, .inl (S.1 0).2)), (r 6, .inr (4, [.ref (r 7), .int (S.1 2).1])), (r 7, .inl (0, 2646, .inl (S.1 2).2)), (r 8, .inl (2, 3, .inr (.inr (.inr (.inr (rf3 r 9 2 3)))))), (r 9, .inr (3, [.int (S.2.1 0).1, .ref (r 10), .int (S.2.1 0).2.1])), (r 10, .inl (0, 21, .inl (S.2.1 0).2.2)), (r 11, .inr (3, [.int (S.2.1 1).1, .ref (r 12), .int (S.2.1 1).2.1])), (r 12, .inl (0, 21, .inl (S.2.1 1).2.2)), (r 13, .inr (3, [.int (S.2.1 2).1, .ref (r 14), .int (S.2.1 2).2.1])), (r 14, .inl (0, 21, .inl (S.2.1 2).2.2)), (r 15, .inl (3, 2, .inr (.inr (.inr (.inr (rf3 r 16 2 2)))))), (r 16, .inr (6, [.ref (r 17)])), (r 17, .inl (0, 21, .inl (S.2.2.1 0))), (r 18, .inr (6, [.ref (r 19)])), (r 19, .inl (0, 21, .inl (S.2.2.1 1))), (r 20, .inr (2, [.int (S.2.2.2.1 0), .int (S.2.2.2.1 1), .int (S.2.2.2.1 2), .int (S.2.2.2.1 3), .int (S.2.2.2.1 4), .int (S.2.2.2.1 5)])), (r 21, .inr (5, [.ref (r 22)])), (r 22, .inl (0, 21, .inl S.2.2.2.2.1)), (r 23, .inr (6, [.ref (r 24)])), (r 24, .inl (0, 21, .inl S.2.2.2.2.2.1)), (r 25, .inr (6, [.ref (r 26)])), (r 26, .inl (0, 21, .inl S.2.2.2.2.2.2))]) [0, 1, 4, 5] [2, 3, 6, 7, 8, 9, 10, 11, 12, 13, 14, 15, 16, 17, 18, 19, 20, 21, 22, 23, 24, 25, 26] (ok_X5_isKept (x := r 0) (M := r 1) (L := r 8) (Dk := r 15) (c := r 20) (se := r 21) (wk := r 23) (sp := r 25) (q := r 4) (a := r 5) (mf := rf3 r 2 2 3) (fun h9 => by have h8 := ix_in h9; rw [e] at h8; exact (congrArg (rf3 r 2 2 3) h8.symm).trans rfl) h0) rfl rfl rfl rfl (by decide) ?_
    rintro o w hp
    cases x0 with
    | inl z =>
      obtain ⟨g, e1, e2⟩ := PX.inl hp
      subst e1; subst e2
      exact ⟨_, [23, 24, 0, 1, 25, 26, 2, 3, 4, 5, 6, 7, 8, 9, 10, 11, 12, 13, 14, 15, 16, 17, 18, 19, 20, 21, 22], PX.mk g rfl rfl, rfl, rfl⟩
    | inr E =>
      obtain ⟨e1, e2⟩ := PX.inr hp
      subst e1; subst e2
      exact ⟨_, [23, 24, 0, 1, 25, 26, 2, 3, 4, 5, 6, 7, 8, 9, 10, 11, 12, 13, 14, 15, 16, 17, 18, 19, 20, 21, 22], PX.er, rfl, rfl⟩
  · rw [e] at h0
    try rw [e]
    refine ok_fr (wc := [(r 0, .inr (7, [.ref (r 1), .ref (r 8), .ref (r 15), .ref (r 20), .ref (r 21), .ref (r 23), .ref (r 25)])), (r 1, .inl (1, 3, .inr (.inr (.inr (.inr (rf3 r 2 2 3)))))), (r 6, .inr (4, [.ref (r 7), .int (S.1 2).1])), (r 7, .inl (0, 2646, .inl (S.1 2).2))]) (wr := [(r 2, .inr (4, [.ref (r 3), .int (S.1 0).1])), (r 3, .inl (0, 2646, .inl (S.1 0).2)), (r 4, .inr (4, [.ref (r 5), .int (S.1 1).1])), (r 5, .inl (0, 2646, .inl (S.1 1).2)), (r 8, .inl (2, 3, .inr (.inr (.inr (.inr (rf3 r 9 2 3)))))), (r 9, .inr (3, [.int (S.2.1 0).1, .ref (r 10), .int (S.2.1 0).2.1])), (r 10, .inl (0, 21, .inl (S.2.1 0).2.2)), (r 11, .inr (3, [.int (S.2.1 1).1, .ref (r 12), .int (S.2.1 1).2.1])), (r 12, .inl (0, 21, .inl (S.2.1 1).2.2)), (r 13, .inr (3, [.int (S.2.1 2).1, .ref (r 14), .int (S.2.1 2).2.1])), (r 14, .inl (0, 21, .inl (S.2.1 2).2.2)), (r 15, .inl (3, 2, .inr (.inr (.inr (.inr (rf3 r 16 2 2)))))), (r 16, .inr (6, [.ref (r 17)])), (r 17, .inl (0, 21, .inl (S.2.2.1 0))), (r 18, .inr (6, [.ref (r 19)])), (r 19, .inl (0, 21, .inl (S.2.2.1 1))), (r 20, .inr (2, [.int (S.2.2.2.1 0), .int (S.2.2.2.1 1), .int (S.2.2.2.1 2), .int (S.2.2.2.1 3), .int (S.2.2.2.1 4), .int (S.2.2.2.1 5)])), (r 21, .inr (5, [.ref (r 22)])), (r 22, .inl (0, 21, .inl S.2.2.2.2.1)), (r 23, .inr (6, [.ref (r 24)])), (r 24, .inl (0, 21, .inl S.2.2.2.2.2.1)), (r 25, .inr (6, [.ref (r 26)])), (r 26, .inl (0, 21, .inl S.2.2.2.2.2.2))]) [0, 1, 6, 7] [2, 3, 4, 5, 8, 9, 10, 11, 12, 13, 14, 15, 16, 17, 18, 19, 20, 21, 22, 23, 24, 25, 26] (ok_X5_isKept (x := r 0) (M := r 1) (L := r 8) (Dk := r 15) (c := r 20) (se := r 21) (wk := r 23) (sp := r 25) (q := r 6) (a := r 7) (mf := rf3 r 2 2 3) (fun h9 => by have h8 := ix_in h9; rw [e] at h8; exact (congrArg (rf3 r 2 2 3) h8.symm).trans rfl) h0) rfl rfl rfl rfl (by decide) ?_
    rintro o w hp
    cases x0 with
    | inl z =>
      obtain ⟨g, e1, e2⟩ := PX.inl hp
      subst e1; subst e2
      exact ⟨_, [23, 24, 0, 1, 2, 3, 25, 26, 4, 5, 6, 7, 8, 9, 10, 11, 12, 13, 14, 15, 16, 17, 18, 19, 20, 21, 22], PX.mk g rfl rfl, rfl, rfl⟩
    | inr E =>
      obtain ⟨e1, e2⟩ := PX.inr hp
      subst e1; subst e2
      exact ⟨_, [23, 24, 0, 1, 2, 3, 25, 26, 4, 5, 6, 7, 8, 9, 10, 11, 12, 13, 14, 15, 16, 17, 18, 19, 20, 21, 22], PX.er, rfl, rfl⟩
def gX_worthOr (N K : Nat) (S : CS) (p0 : Int32) (p1 : Int32) (p2 : Int32) (p3 : Int32) (p4 : Int32) : Option ((Int32 × CS) ⊕ String) := (fX5_worthOr N K ((S.1 (ix 3 p0)).1) ((S.1 (ix 3 p0)).2) p0 p1 p2 p3 p4).map (fun o => match o with | .inl z => .inl (z, (S.1, S.2.1, S.2.2.1, S.2.2.2.1, S.2.2.2.2.1, S.2.2.2.2.2.1, S.2.2.2.2.2.2)) | .inr E => .inr E)
set_option maxHeartbeats 4000000 in
set_option maxRecDepth 100000 in
theorem ogX_worthOr {N K : Nat} {r : Nat → Nat} {S : CS} {p0 : Int32} {p1 : Int32} {p2 : Int32} {p3 : Int32} {p4 : Int32} {x : (Int32 × CS) ⊕ String} (hE : gX_worthOr N K S p0 p1 p2 p3 p4 = some x) : OkM yX5_worthOr (.code yX5_worthOr cX5_worthOr 7 (some .int)) (10) 4 24 [.ref (r 0), .int p0, .int p1, .int p2, .int p3, .int p4] (WX r S) ((PX (U := Int32 × CS) (fun z _ => some (.int z.1)) (fun z _ => WX r z.2) (WX r S)) x) := by
  unfold gX_worthOr at hE
  obtain ⟨x0, h0, h1⟩ := Option.map_eq_some_iff.mp hE
  subst h1
  clear hE
  rcases lt3 (ix_lt (n := 3) (p := p0) (by decide)) with e | e | e
  · rw [e] at h0
    try rw [e]
    refine ok_fr (wc := [(r 0, .inr (7, [.ref (r 1), .ref (r 8), .ref (r 15), .ref (r 20), .ref (r 21), .ref (r 23), .ref (r 25)])), (r 1, .inl (1, 3, .inr (.inr (.inr (.inr (rf3 r 2 2 3)))))), (r 2, .inr (4, [.ref (r 3), .int (S.1 0).1])), (r 3, .inl (0, 2646, .inl (S.1 0).2))]) (wr := [(r 4, .inr (4, [.ref (r 5), .int (S.1 1).1])), (r 5, .inl (0, 2646, .inl (S.1 1).2)), (r 6, .inr (4, [.ref (r 7), .int (S.1 2).1])), (r 7, .inl (0, 2646, .inl (S.1 2).2)), (r 8, .inl (2, 3, .inr (.inr (.inr (.inr (rf3 r 9 2 3)))))), (r 9, .inr (3, [.int (S.2.1 0).1, .ref (r 10), .int (S.2.1 0).2.1])), (r 10, .inl (0, 21, .inl (S.2.1 0).2.2)), (r 11, .inr (3, [.int (S.2.1 1).1, .ref (r 12), .int (S.2.1 1).2.1])), (r 12, .inl (0, 21, .inl (S.2.1 1).2.2)), (r 13, .inr (3, [.int (S.2.1 2).1, .ref (r 14), .int (S.2.1 2).2.1])), (r 14, .inl (0, 21, .inl (S.2.1 2).2.2)), (r 15, .inl (3, 2, .inr (.inr (.inr (.inr (rf3 r 16 2 2)))))), (r 16, .inr (6, [.ref (r 17)])), (r 17, .inl (0, 21, .inl (S.2.2.1 0))), (r 18, .inr (6, [.ref (r 19)])), (r 19, .inl (0, 21, .inl (S.2.2.1 1))), (r 20, .inr (2, [.int (S.2.2.2.1 0), .int (S.2.2.2.1 1), .int (S.2.2.2.1 2), .int (S.2.2.2.1 3), .int (S.2.2.2.1 4), .int (S.2.2.2.1 5)])), (r 21, .inr (5, [.ref (r 22)])), (r 22, .inl (0, 21, .inl S.2.2.2.2.1)), (r 23, .inr (6, [.ref (r 24)])), (r 24, .inl (0, 21, .inl S.2.2.2.2.2.1)), (r 25, .inr (6, [.ref (r 26)])), (r 26, .inl (0, 21, .inl S.2.2.2.2.2.2))]) [0, 1, 2, 3] [4, 5, 6, 7, 8, 9, 10, 11, 12, 13, 14, 15, 16, 17, 18, 19, 20, 21, 22, 23, 24, 25, 26] (ok_X5_worthOr (x := r 0) (M := r 1) (L := r 8) (Dk := r 15) (c := r 20) (se := r 21) (wk := r 23) (sp := r 25) (q := r 2) (a := r 3) (mf := rf3 r 2 2 3) (fun h9 => by have h8 := ix_in h9; rw [e] at h8; exact (congrArg (rf3 r 2 2 3) h8.symm).trans rfl) h0) rfl rfl rfl rfl (by decide) ?_
    rintro o w hp
    cases x0 with
    | inl z =>
      obtain ⟨g, e1, e2⟩ := PX.inl hp
      subst e1; subst e2
      exact ⟨_, [23, 24, 25, 26, 0, 1, 2, 3, 4, 5, 6, 7, 8, 9, 10, 11, 12, 13, 14, 15, 16, 17, 18, 19, 20, 21, 22], PX.mk g rfl rfl, rfl, rfl⟩
    | inr E =>
      obtain ⟨e1, e2⟩ := PX.inr hp
      subst e1; subst e2
      exact ⟨_, [23, 24, 25, 26, 0, 1, 2, 3, 4, 5, 6, 7, 8, 9, 10, 11, 12, 13, 14, 15, 16, 17, 18, 19, 20, 21, 22], PX.er, rfl, rfl⟩
  · rw [e] at h0
    try rw [e]
    refine ok_fr (wc := [(r 0, .inr (7, [.ref (r 1), .ref (r 8), .ref (r 15), .ref (r 20), .ref (r 21), .ref (r 23), .ref (r 25)])), (r 1, .inl (1, 3, .inr (.inr (.inr (.inr (rf3 r 2 2 3)))))), (r 4, .inr (4, [.ref (r 5), .int (S.1 1).1])), (r 5, .inl (0, 2646, .inl (S.1 1).2))]) (wr := [(r 2, .inr (4, [.ref (r 3), .int (S.1 0).1])), (r 3, .inl (0, 2646, .inl (S.1 0).2)), (r 6, .inr (4, [.ref (r 7), .int (S.1 2).1])), (r 7, .inl (0, 2646, .inl (S.1 2).2)), (r 8, .inl (2, 3, .inr (.inr (.inr (.inr (rf3 r 9 2 3)))))), (r 9, .inr (3, [.int (S.2.1 0).1, .ref (r 10), .int (S.2.1 0).2.1])), (r 10, .inl (0, 21, .inl (S.2.1 0).2.2)), (r 11, .inr (3, [.int (S.2.1 1).1, .ref (r 12), .int (S.2.1 1).2.1])), (r 12, .inl (0, 21, .inl (S.2.1 1).2.2)), (r 13, .inr (3, [.int (S.2.1 2).1, .ref (r 14), .int (S.2.1 2).2.1])), (r 14, .inl (0, 21, .inl (S.2.1 2).2.2)), (r 15, .inl (3, 2, .inr (.inr (.inr (.inr (rf3 r 16 2 2)))))), (r 16, .inr (6, [.ref (r 17)])), (r 17, .inl (0, 21, .inl (S.2.2.1 0))), (r 18, .inr (6, [.ref (r 19)])), (r 19, .inl (0, 21, .inl (S.2.2.1 1))), (r 20, .inr (2, [.int (S.2.2.2.1 0), .int (S.2.2.2.1 1), .int (S.2.2.2.1 2), .int (S.2.2.2.1 3), .int (S.2.2.2.1 4), .int (S.2.2.2.1 5)])), (r 21, .inr (5, [.ref (r 22)])), (r 22, .inl (0, 21, .inl S.2.2.2.2.1)), (r 23, .inr (6, [.ref (r 24)])), (r 24, .inl (0, 21, .inl S.2.2.2.2.2.1)), (r 25, .inr (6, [.ref (r 26)])), (r 26, .inl (0, 21, .inl S.2.2.2.2.2.2))]) [0, 1, 4, 5] [2, 3, 6, 7, 8, 9, 10, 11, 12, 13, 14, 15, 16, 17, 18, 19, 20, 21, 22, 23, 24, 25, 26] (ok_X5_worthOr (x := r 0) (M := r 1) (L := r 8) (Dk := r 15) (c := r 20) (se := r 21) (wk := r 23) (sp := r 25) (q := r 4) (a := r 5) (mf := rf3 r 2 2 3) (fun h9 => by have h8 := ix_in h9; rw [e] at h8; exact (congrArg (rf3 r 2 2 3) h8.symm).trans rfl) h0) rfl rfl rfl rfl (by decide) ?_
    rintro o w hp
    cases x0 with
    | inl z =>
      obtain ⟨g, e1, e2⟩ := PX.inl hp
      subst e1; subst e2
      exact ⟨_, [23, 24, 0, 1, 25, 26, 2, 3, 4, 5, 6, 7, 8, 9, 10, 11, 12, 13, 14, 15, 16, 17, 18, 19, 20, 21, 22], PX.mk g rfl rfl, rfl, rfl⟩
    | inr E =>
      obtain ⟨e1, e2⟩ := PX.inr hp
      subst e1; subst e2
      exact ⟨_, [23, 24, 0, 1, 25, 26, 2, 3, 4, 5, 6, 7, 8, 9, 10, 11, 12, 13, 14, 15, 16, 17, 18, 19, 20, 21, 22], PX.er, rfl, rfl⟩
  · rw [e] at h0
    try rw [e]
    refine ok_fr (wc := [(r 0, .inr (7, [.ref (r 1), .ref (r 8), .ref (r 15), .ref (r 20), .ref (r 21), .ref (r 23), .ref (r 25)])), (r 1, .inl (1, 3, .inr (.inr (.inr (.inr (rf3 r 2 2 3)))))), (r 6, .inr (4, [.ref (r 7), .int (S.1 2).1])), (r 7, .inl (0, 2646, .inl (S.1 2).2))]) (wr := [(r 2, .inr (4, [.ref (r 3), .int (S.1 0).1])), (r 3, .inl (0, 2646, .inl (S.1 0).2)), (r 4, .inr (4, [.ref (r 5), .int (S.1 1).1])), (r 5, .inl (0, 2646, .inl (S.1 1).2)), (r 8, .inl (2, 3, .inr (.inr (.inr (.inr (rf3 r 9 2 3)))))), (r 9, .inr (3, [.int (S.2.1 0).1, .ref (r 10), .int (S.2.1 0).2.1])), (r 10, .inl (0, 21, .inl (S.2.1 0).2.2)), (r 11, .inr (3, [.int (S.2.1 1).1, .ref (r 12), .int (S.2.1 1).2.1])), (r 12, .inl (0, 21, .inl (S.2.1 1).2.2)), (r 13, .inr (3, [.int (S.2.1 2).1, .ref (r 14), .int (S.2.1 2).2.1])), (r 14, .inl (0, 21, .inl (S.2.1 2).2.2)), (r 15, .inl (3, 2, .inr (.inr (.inr (.inr (rf3 r 16 2 2)))))), (r 16, .inr (6, [.ref (r 17)])), (r 17, .inl (0, 21, .inl (S.2.2.1 0))), (r 18, .inr (6, [.ref (r 19)])), (r 19, .inl (0, 21, .inl (S.2.2.1 1))), (r 20, .inr (2, [.int (S.2.2.2.1 0), .int (S.2.2.2.1 1), .int (S.2.2.2.1 2), .int (S.2.2.2.1 3), .int (S.2.2.2.1 4), .int (S.2.2.2.1 5)])), (r 21, .inr (5, [.ref (r 22)])), (r 22, .inl (0, 21, .inl S.2.2.2.2.1)), (r 23, .inr (6, [.ref (r 24)])), (r 24, .inl (0, 21, .inl S.2.2.2.2.2.1)), (r 25, .inr (6, [.ref (r 26)])), (r 26, .inl (0, 21, .inl S.2.2.2.2.2.2))]) [0, 1, 6, 7] [2, 3, 4, 5, 8, 9, 10, 11, 12, 13, 14, 15, 16, 17, 18, 19, 20, 21, 22, 23, 24, 25, 26] (ok_X5_worthOr (x := r 0) (M := r 1) (L := r 8) (Dk := r 15) (c := r 20) (se := r 21) (wk := r 23) (sp := r 25) (q := r 6) (a := r 7) (mf := rf3 r 2 2 3) (fun h9 => by have h8 := ix_in h9; rw [e] at h8; exact (congrArg (rf3 r 2 2 3) h8.symm).trans rfl) h0) rfl rfl rfl rfl (by decide) ?_
    rintro o w hp
    cases x0 with
    | inl z =>
      obtain ⟨g, e1, e2⟩ := PX.inl hp
      subst e1; subst e2
      exact ⟨_, [23, 24, 0, 1, 2, 3, 25, 26, 4, 5, 6, 7, 8, 9, 10, 11, 12, 13, 14, 15, 16, 17, 18, 19, 20, 21, 22], PX.mk g rfl rfl, rfl, rfl⟩
    | inr E =>
      obtain ⟨e1, e2⟩ := PX.inr hp
      subst e1; subst e2
      exact ⟨_, [23, 24, 0, 1, 2, 3, 25, 26, 4, 5, 6, 7, 8, 9, 10, 11, 12, 13, 14, 15, 16, 17, 18, 19, 20, 21, 22], PX.er, rfl, rfl⟩
def gX_confirm (N K : Nat) (S : CS) (p0 : Int32) (p1 : Int32) (p2 : Int32) (p3 : Int32) (p4 : Int32) : Option ((Int32 × CS) ⊕ String) := (fX5_confirm N K ((S.1 (ix 3 p0)).1) ((S.1 (ix 3 p0)).2) p0 p1 p2 p3 p4).map (fun o => match o with | .inl z => .inl (z, (S.1, S.2.1, S.2.2.1, S.2.2.2.1, S.2.2.2.2.1, S.2.2.2.2.2.1, S.2.2.2.2.2.2)) | .inr E => .inr E)
set_option maxHeartbeats 4000000 in
set_option maxRecDepth 100000 in
theorem ogX_confirm {N K : Nat} {r : Nat → Nat} {S : CS} {p0 : Int32} {p1 : Int32} {p2 : Int32} {p3 : Int32} {p4 : Int32} {x : (Int32 × CS) ⊕ String} (hE : gX_confirm N K S p0 p1 p2 p3 p4 = some x) : OkM yX5_confirm (.code yX5_confirm cX5_confirm 7 (some .boolean)) (10) 4 24 [.ref (r 0), .int p0, .int p1, .int p2, .int p3, .int p4] (WX r S) ((PX (U := Int32 × CS) (fun z _ => some (.int z.1)) (fun z _ => WX r z.2) (WX r S)) x) := by
  unfold gX_confirm at hE
  obtain ⟨x0, h0, h1⟩ := Option.map_eq_some_iff.mp hE
  subst h1
  clear hE
  rcases lt3 (ix_lt (n := 3) (p := p0) (by decide)) with e | e | e
  · rw [e] at h0
    try rw [e]
    refine ok_fr (wc := [(r 0, .inr (7, [.ref (r 1), .ref (r 8), .ref (r 15), .ref (r 20), .ref (r 21), .ref (r 23), .ref (r 25)])), (r 1, .inl (1, 3, .inr (.inr (.inr (.inr (rf3 r 2 2 3)))))), (r 2, .inr (4, [.ref (r 3), .int (S.1 0).1])), (r 3, .inl (0, 2646, .inl (S.1 0).2))]) (wr := [(r 4, .inr (4, [.ref (r 5), .int (S.1 1).1])), (r 5, .inl (0, 2646, .inl (S.1 1).2)), (r 6, .inr (4, [.ref (r 7), .int (S.1 2).1])), (r 7, .inl (0, 2646, .inl (S.1 2).2)), (r 8, .inl (2, 3, .inr (.inr (.inr (.inr (rf3 r 9 2 3)))))), (r 9, .inr (3, [.int (S.2.1 0).1, .ref (r 10), .int (S.2.1 0).2.1])), (r 10, .inl (0, 21, .inl (S.2.1 0).2.2)), (r 11, .inr (3, [.int (S.2.1 1).1, .ref (r 12), .int (S.2.1 1).2.1])), (r 12, .inl (0, 21, .inl (S.2.1 1).2.2)), (r 13, .inr (3, [.int (S.2.1 2).1, .ref (r 14), .int (S.2.1 2).2.1])), (r 14, .inl (0, 21, .inl (S.2.1 2).2.2)), (r 15, .inl (3, 2, .inr (.inr (.inr (.inr (rf3 r 16 2 2)))))), (r 16, .inr (6, [.ref (r 17)])), (r 17, .inl (0, 21, .inl (S.2.2.1 0))), (r 18, .inr (6, [.ref (r 19)])), (r 19, .inl (0, 21, .inl (S.2.2.1 1))), (r 20, .inr (2, [.int (S.2.2.2.1 0), .int (S.2.2.2.1 1), .int (S.2.2.2.1 2), .int (S.2.2.2.1 3), .int (S.2.2.2.1 4), .int (S.2.2.2.1 5)])), (r 21, .inr (5, [.ref (r 22)])), (r 22, .inl (0, 21, .inl S.2.2.2.2.1)), (r 23, .inr (6, [.ref (r 24)])), (r 24, .inl (0, 21, .inl S.2.2.2.2.2.1)), (r 25, .inr (6, [.ref (r 26)])), (r 26, .inl (0, 21, .inl S.2.2.2.2.2.2))]) [0, 1, 2, 3] [4, 5, 6, 7, 8, 9, 10, 11, 12, 13, 14, 15, 16, 17, 18, 19, 20, 21, 22, 23, 24, 25, 26] (ok_X5_confirm (x := r 0) (M := r 1) (L := r 8) (Dk := r 15) (c := r 20) (se := r 21) (wk := r 23) (sp := r 25) (q := r 2) (a := r 3) (mf := rf3 r 2 2 3) (fun h9 => by have h8 := ix_in h9; rw [e] at h8; exact (congrArg (rf3 r 2 2 3) h8.symm).trans rfl) h0) rfl rfl rfl rfl (by decide) ?_
    rintro o w hp
    cases x0 with
    | inl z =>
      obtain ⟨g, e1, e2⟩ := PX.inl hp
      subst e1; subst e2
      exact ⟨_, [23, 24, 25, 26, 0, 1, 2, 3, 4, 5, 6, 7, 8, 9, 10, 11, 12, 13, 14, 15, 16, 17, 18, 19, 20, 21, 22], PX.mk g rfl rfl, rfl, rfl⟩
    | inr E =>
      obtain ⟨e1, e2⟩ := PX.inr hp
      subst e1; subst e2
      exact ⟨_, [23, 24, 25, 26, 0, 1, 2, 3, 4, 5, 6, 7, 8, 9, 10, 11, 12, 13, 14, 15, 16, 17, 18, 19, 20, 21, 22], PX.er, rfl, rfl⟩
  · rw [e] at h0
    try rw [e]
    refine ok_fr (wc := [(r 0, .inr (7, [.ref (r 1), .ref (r 8), .ref (r 15), .ref (r 20), .ref (r 21), .ref (r 23), .ref (r 25)])), (r 1, .inl (1, 3, .inr (.inr (.inr (.inr (rf3 r 2 2 3)))))), (r 4, .inr (4, [.ref (r 5), .int (S.1 1).1])), (r 5, .inl (0, 2646, .inl (S.1 1).2))]) (wr := [(r 2, .inr (4, [.ref (r 3), .int (S.1 0).1])), (r 3, .inl (0, 2646, .inl (S.1 0).2)), (r 6, .inr (4, [.ref (r 7), .int (S.1 2).1])), (r 7, .inl (0, 2646, .inl (S.1 2).2)), (r 8, .inl (2, 3, .inr (.inr (.inr (.inr (rf3 r 9 2 3)))))), (r 9, .inr (3, [.int (S.2.1 0).1, .ref (r 10), .int (S.2.1 0).2.1])), (r 10, .inl (0, 21, .inl (S.2.1 0).2.2)), (r 11, .inr (3, [.int (S.2.1 1).1, .ref (r 12), .int (S.2.1 1).2.1])), (r 12, .inl (0, 21, .inl (S.2.1 1).2.2)), (r 13, .inr (3, [.int (S.2.1 2).1, .ref (r 14), .int (S.2.1 2).2.1])), (r 14, .inl (0, 21, .inl (S.2.1 2).2.2)), (r 15, .inl (3, 2, .inr (.inr (.inr (.inr (rf3 r 16 2 2)))))), (r 16, .inr (6, [.ref (r 17)])), (r 17, .inl (0, 21, .inl (S.2.2.1 0))), (r 18, .inr (6, [.ref (r 19)])), (r 19, .inl (0, 21, .inl (S.2.2.1 1))), (r 20, .inr (2, [.int (S.2.2.2.1 0), .int (S.2.2.2.1 1), .int (S.2.2.2.1 2), .int (S.2.2.2.1 3), .int (S.2.2.2.1 4), .int (S.2.2.2.1 5)])), (r 21, .inr (5, [.ref (r 22)])), (r 22, .inl (0, 21, .inl S.2.2.2.2.1)), (r 23, .inr (6, [.ref (r 24)])), (r 24, .inl (0, 21, .inl S.2.2.2.2.2.1)), (r 25, .inr (6, [.ref (r 26)])), (r 26, .inl (0, 21, .inl S.2.2.2.2.2.2))]) [0, 1, 4, 5] [2, 3, 6, 7, 8, 9, 10, 11, 12, 13, 14, 15, 16, 17, 18, 19, 20, 21, 22, 23, 24, 25, 26] (ok_X5_confirm (x := r 0) (M := r 1) (L := r 8) (Dk := r 15) (c := r 20) (se := r 21) (wk := r 23) (sp := r 25) (q := r 4) (a := r 5) (mf := rf3 r 2 2 3) (fun h9 => by have h8 := ix_in h9; rw [e] at h8; exact (congrArg (rf3 r 2 2 3) h8.symm).trans rfl) h0) rfl rfl rfl rfl (by decide) ?_
    rintro o w hp
    cases x0 with
    | inl z =>
      obtain ⟨g, e1, e2⟩ := PX.inl hp
      subst e1; subst e2
      exact ⟨_, [23, 24, 0, 1, 25, 26, 2, 3, 4, 5, 6, 7, 8, 9, 10, 11, 12, 13, 14, 15, 16, 17, 18, 19, 20, 21, 22], PX.mk g rfl rfl, rfl, rfl⟩
    | inr E =>
      obtain ⟨e1, e2⟩ := PX.inr hp
      subst e1; subst e2
      exact ⟨_, [23, 24, 0, 1, 25, 26, 2, 3, 4, 5, 6, 7, 8, 9, 10, 11, 12, 13, 14, 15, 16, 17, 18, 19, 20, 21, 22], PX.er, rfl, rfl⟩
  · rw [e] at h0
    try rw [e]
    refine ok_fr (wc := [(r 0, .inr (7, [.ref (r 1), .ref (r 8), .ref (r 15), .ref (r 20), .ref (r 21), .ref (r 23), .ref (r 25)])), (r 1, .inl (1, 3, .inr (.inr (.inr (.inr (rf3 r 2 2 3)))))), (r 6, .inr (4, [.ref (r 7), .int (S.1 2).1])), (r 7, .inl (0, 2646, .inl (S.1 2).2))]) (wr := [(r 2, .inr (4, [.ref (r 3), .int (S.1 0).1])), (r 3, .inl (0, 2646, .inl (S.1 0).2)), (r 4, .inr (4, [.ref (r 5), .int (S.1 1).1])), (r 5, .inl (0, 2646, .inl (S.1 1).2)), (r 8, .inl (2, 3, .inr (.inr (.inr (.inr (rf3 r 9 2 3)))))), (r 9, .inr (3, [.int (S.2.1 0).1, .ref (r 10), .int (S.2.1 0).2.1])), (r 10, .inl (0, 21, .inl (S.2.1 0).2.2)), (r 11, .inr (3, [.int (S.2.1 1).1, .ref (r 12), .int (S.2.1 1).2.1])), (r 12, .inl (0, 21, .inl (S.2.1 1).2.2)), (r 13, .inr (3, [.int (S.2.1 2).1, .ref (r 14), .int (S.2.1 2).2.1])), (r 14, .inl (0, 21, .inl (S.2.1 2).2.2)), (r 15, .inl (3, 2, .inr (.inr (.inr (.inr (rf3 r 16 2 2)))))), (r 16, .inr (6, [.ref (r 17)])), (r 17, .inl (0, 21, .inl (S.2.2.1 0))), (r 18, .inr (6, [.ref (r 19)])), (r 19, .inl (0, 21, .inl (S.2.2.1 1))), (r 20, .inr (2, [.int (S.2.2.2.1 0), .int (S.2.2.2.1 1), .int (S.2.2.2.1 2), .int (S.2.2.2.1 3), .int (S.2.2.2.1 4), .int (S.2.2.2.1 5)])), (r 21, .inr (5, [.ref (r 22)])), (r 22, .inl (0, 21, .inl S.2.2.2.2.1)), (r 23, .inr (6, [.ref (r 24)])), (r 24, .inl (0, 21, .inl S.2.2.2.2.2.1)), (r 25, .inr (6, [.ref (r 26)])), (r 26, .inl (0, 21, .inl S.2.2.2.2.2.2))]) [0, 1, 6, 7] [2, 3, 4, 5, 8, 9, 10, 11, 12, 13, 14, 15, 16, 17, 18, 19, 20, 21, 22, 23, 24, 25, 26] (ok_X5_confirm (x := r 0) (M := r 1) (L := r 8) (Dk := r 15) (c := r 20) (se := r 21) (wk := r 23) (sp := r 25) (q := r 6) (a := r 7) (mf := rf3 r 2 2 3) (fun h9 => by have h8 := ix_in h9; rw [e] at h8; exact (congrArg (rf3 r 2 2 3) h8.symm).trans rfl) h0) rfl rfl rfl rfl (by decide) ?_
    rintro o w hp
    cases x0 with
    | inl z =>
      obtain ⟨g, e1, e2⟩ := PX.inl hp
      subst e1; subst e2
      exact ⟨_, [23, 24, 0, 1, 2, 3, 25, 26, 4, 5, 6, 7, 8, 9, 10, 11, 12, 13, 14, 15, 16, 17, 18, 19, 20, 21, 22], PX.mk g rfl rfl, rfl, rfl⟩
    | inr E =>
      obtain ⟨e1, e2⟩ := PX.inr hp
      subst e1; subst e2
      exact ⟨_, [23, 24, 0, 1, 2, 3, 25, 26, 4, 5, 6, 7, 8, 9, 10, 11, 12, 13, 14, 15, 16, 17, 18, 19, 20, 21, 22], PX.er, rfl, rfl⟩
def gX_about (N K : Nat) (S : CS) (p0 : Int32) (p1 : Int32) : Option ((Int32 × CS) ⊕ String) := (fX5_about N K ((S.1 (ix 3 p0)).1) ((S.1 (ix 3 p0)).2) p0 p1).map (fun o => match o with | .inl z => .inl (z, (S.1, S.2.1, S.2.2.1, S.2.2.2.1, S.2.2.2.2.1, S.2.2.2.2.2.1, S.2.2.2.2.2.2)) | .inr E => .inr E)
set_option maxHeartbeats 4000000 in
set_option maxRecDepth 100000 in
theorem ogX_about {N K : Nat} {r : Nat → Nat} {S : CS} {p0 : Int32} {p1 : Int32} {x : (Int32 × CS) ⊕ String} (hE : gX_about N K S p0 p1 = some x) : OkM yX5_about (.code yX5_about cX5_about 4 (some .int)) (9) 2 12 [.ref (r 0), .int p0, .int p1] (WX r S) ((PX (U := Int32 × CS) (fun z _ => some (.int z.1)) (fun z _ => WX r z.2) (WX r S)) x) := by
  unfold gX_about at hE
  obtain ⟨x0, h0, h1⟩ := Option.map_eq_some_iff.mp hE
  subst h1
  clear hE
  rcases lt3 (ix_lt (n := 3) (p := p0) (by decide)) with e | e | e
  · rw [e] at h0
    try rw [e]
    refine ok_fr (wc := [(r 0, .inr (7, [.ref (r 1), .ref (r 8), .ref (r 15), .ref (r 20), .ref (r 21), .ref (r 23), .ref (r 25)])), (r 1, .inl (1, 3, .inr (.inr (.inr (.inr (rf3 r 2 2 3)))))), (r 2, .inr (4, [.ref (r 3), .int (S.1 0).1])), (r 3, .inl (0, 2646, .inl (S.1 0).2))]) (wr := [(r 4, .inr (4, [.ref (r 5), .int (S.1 1).1])), (r 5, .inl (0, 2646, .inl (S.1 1).2)), (r 6, .inr (4, [.ref (r 7), .int (S.1 2).1])), (r 7, .inl (0, 2646, .inl (S.1 2).2)), (r 8, .inl (2, 3, .inr (.inr (.inr (.inr (rf3 r 9 2 3)))))), (r 9, .inr (3, [.int (S.2.1 0).1, .ref (r 10), .int (S.2.1 0).2.1])), (r 10, .inl (0, 21, .inl (S.2.1 0).2.2)), (r 11, .inr (3, [.int (S.2.1 1).1, .ref (r 12), .int (S.2.1 1).2.1])), (r 12, .inl (0, 21, .inl (S.2.1 1).2.2)), (r 13, .inr (3, [.int (S.2.1 2).1, .ref (r 14), .int (S.2.1 2).2.1])), (r 14, .inl (0, 21, .inl (S.2.1 2).2.2)), (r 15, .inl (3, 2, .inr (.inr (.inr (.inr (rf3 r 16 2 2)))))), (r 16, .inr (6, [.ref (r 17)])), (r 17, .inl (0, 21, .inl (S.2.2.1 0))), (r 18, .inr (6, [.ref (r 19)])), (r 19, .inl (0, 21, .inl (S.2.2.1 1))), (r 20, .inr (2, [.int (S.2.2.2.1 0), .int (S.2.2.2.1 1), .int (S.2.2.2.1 2), .int (S.2.2.2.1 3), .int (S.2.2.2.1 4), .int (S.2.2.2.1 5)])), (r 21, .inr (5, [.ref (r 22)])), (r 22, .inl (0, 21, .inl S.2.2.2.2.1)), (r 23, .inr (6, [.ref (r 24)])), (r 24, .inl (0, 21, .inl S.2.2.2.2.2.1)), (r 25, .inr (6, [.ref (r 26)])), (r 26, .inl (0, 21, .inl S.2.2.2.2.2.2))]) [0, 1, 2, 3] [4, 5, 6, 7, 8, 9, 10, 11, 12, 13, 14, 15, 16, 17, 18, 19, 20, 21, 22, 23, 24, 25, 26] (ok_X5_about (x := r 0) (M := r 1) (L := r 8) (Dk := r 15) (c := r 20) (se := r 21) (wk := r 23) (sp := r 25) (q := r 2) (a := r 3) (mf := rf3 r 2 2 3) (fun h9 => by have h8 := ix_in h9; rw [e] at h8; exact (congrArg (rf3 r 2 2 3) h8.symm).trans rfl) h0) rfl rfl rfl rfl (by decide) ?_
    rintro o w hp
    cases x0 with
    | inl z =>
      obtain ⟨g, e1, e2⟩ := PX.inl hp
      subst e1; subst e2
      exact ⟨_, [23, 24, 25, 26, 0, 1, 2, 3, 4, 5, 6, 7, 8, 9, 10, 11, 12, 13, 14, 15, 16, 17, 18, 19, 20, 21, 22], PX.mk g rfl rfl, rfl, rfl⟩
    | inr E =>
      obtain ⟨e1, e2⟩ := PX.inr hp
      subst e1; subst e2
      exact ⟨_, [23, 24, 25, 26, 0, 1, 2, 3, 4, 5, 6, 7, 8, 9, 10, 11, 12, 13, 14, 15, 16, 17, 18, 19, 20, 21, 22], PX.er, rfl, rfl⟩
  · rw [e] at h0
    try rw [e]
    refine ok_fr (wc := [(r 0, .inr (7, [.ref (r 1), .ref (r 8), .ref (r 15), .ref (r 20), .ref (r 21), .ref (r 23), .ref (r 25)])), (r 1, .inl (1, 3, .inr (.inr (.inr (.inr (rf3 r 2 2 3)))))), (r 4, .inr (4, [.ref (r 5), .int (S.1 1).1])), (r 5, .inl (0, 2646, .inl (S.1 1).2))]) (wr := [(r 2, .inr (4, [.ref (r 3), .int (S.1 0).1])), (r 3, .inl (0, 2646, .inl (S.1 0).2)), (r 6, .inr (4, [.ref (r 7), .int (S.1 2).1])), (r 7, .inl (0, 2646, .inl (S.1 2).2)), (r 8, .inl (2, 3, .inr (.inr (.inr (.inr (rf3 r 9 2 3)))))), (r 9, .inr (3, [.int (S.2.1 0).1, .ref (r 10), .int (S.2.1 0).2.1])), (r 10, .inl (0, 21, .inl (S.2.1 0).2.2)), (r 11, .inr (3, [.int (S.2.1 1).1, .ref (r 12), .int (S.2.1 1).2.1])), (r 12, .inl (0, 21, .inl (S.2.1 1).2.2)), (r 13, .inr (3, [.int (S.2.1 2).1, .ref (r 14), .int (S.2.1 2).2.1])), (r 14, .inl (0, 21, .inl (S.2.1 2).2.2)), (r 15, .inl (3, 2, .inr (.inr (.inr (.inr (rf3 r 16 2 2)))))), (r 16, .inr (6, [.ref (r 17)])), (r 17, .inl (0, 21, .inl (S.2.2.1 0))), (r 18, .inr (6, [.ref (r 19)])), (r 19, .inl (0, 21, .inl (S.2.2.1 1))), (r 20, .inr (2, [.int (S.2.2.2.1 0), .int (S.2.2.2.1 1), .int (S.2.2.2.1 2), .int (S.2.2.2.1 3), .int (S.2.2.2.1 4), .int (S.2.2.2.1 5)])), (r 21, .inr (5, [.ref (r 22)])), (r 22, .inl (0, 21, .inl S.2.2.2.2.1)), (r 23, .inr (6, [.ref (r 24)])), (r 24, .inl (0, 21, .inl S.2.2.2.2.2.1)), (r 25, .inr (6, [.ref (r 26)])), (r 26, .inl (0, 21, .inl S.2.2.2.2.2.2))]) [0, 1, 4, 5] [2, 3, 6, 7, 8, 9, 10, 11, 12, 13, 14, 15, 16, 17, 18, 19, 20, 21, 22, 23, 24, 25, 26] (ok_X5_about (x := r 0) (M := r 1) (L := r 8) (Dk := r 15) (c := r 20) (se := r 21) (wk := r 23) (sp := r 25) (q := r 4) (a := r 5) (mf := rf3 r 2 2 3) (fun h9 => by have h8 := ix_in h9; rw [e] at h8; exact (congrArg (rf3 r 2 2 3) h8.symm).trans rfl) h0) rfl rfl rfl rfl (by decide) ?_
    rintro o w hp
    cases x0 with
    | inl z =>
      obtain ⟨g, e1, e2⟩ := PX.inl hp
      subst e1; subst e2
      exact ⟨_, [23, 24, 0, 1, 25, 26, 2, 3, 4, 5, 6, 7, 8, 9, 10, 11, 12, 13, 14, 15, 16, 17, 18, 19, 20, 21, 22], PX.mk g rfl rfl, rfl, rfl⟩
    | inr E =>
      obtain ⟨e1, e2⟩ := PX.inr hp
      subst e1; subst e2
      exact ⟨_, [23, 24, 0, 1, 25, 26, 2, 3, 4, 5, 6, 7, 8, 9, 10, 11, 12, 13, 14, 15, 16, 17, 18, 19, 20, 21, 22], PX.er, rfl, rfl⟩
  · rw [e] at h0
    try rw [e]
    refine ok_fr (wc := [(r 0, .inr (7, [.ref (r 1), .ref (r 8), .ref (r 15), .ref (r 20), .ref (r 21), .ref (r 23), .ref (r 25)])), (r 1, .inl (1, 3, .inr (.inr (.inr (.inr (rf3 r 2 2 3)))))), (r 6, .inr (4, [.ref (r 7), .int (S.1 2).1])), (r 7, .inl (0, 2646, .inl (S.1 2).2))]) (wr := [(r 2, .inr (4, [.ref (r 3), .int (S.1 0).1])), (r 3, .inl (0, 2646, .inl (S.1 0).2)), (r 4, .inr (4, [.ref (r 5), .int (S.1 1).1])), (r 5, .inl (0, 2646, .inl (S.1 1).2)), (r 8, .inl (2, 3, .inr (.inr (.inr (.inr (rf3 r 9 2 3)))))), (r 9, .inr (3, [.int (S.2.1 0).1, .ref (r 10), .int (S.2.1 0).2.1])), (r 10, .inl (0, 21, .inl (S.2.1 0).2.2)), (r 11, .inr (3, [.int (S.2.1 1).1, .ref (r 12), .int (S.2.1 1).2.1])), (r 12, .inl (0, 21, .inl (S.2.1 1).2.2)), (r 13, .inr (3, [.int (S.2.1 2).1, .ref (r 14), .int (S.2.1 2).2.1])), (r 14, .inl (0, 21, .inl (S.2.1 2).2.2)), (r 15, .inl (3, 2, .inr (.inr (.inr (.inr (rf3 r 16 2 2)))))), (r 16, .inr (6, [.ref (r 17)])), (r 17, .inl (0, 21, .inl (S.2.2.1 0))), (r 18, .inr (6, [.ref (r 19)])), (r 19, .inl (0, 21, .inl (S.2.2.1 1))), (r 20, .inr (2, [.int (S.2.2.2.1 0), .int (S.2.2.2.1 1), .int (S.2.2.2.1 2), .int (S.2.2.2.1 3), .int (S.2.2.2.1 4), .int (S.2.2.2.1 5)])), (r 21, .inr (5, [.ref (r 22)])), (r 22, .inl (0, 21, .inl S.2.2.2.2.1)), (r 23, .inr (6, [.ref (r 24)])), (r 24, .inl (0, 21, .inl S.2.2.2.2.2.1)), (r 25, .inr (6, [.ref (r 26)])), (r 26, .inl (0, 21, .inl S.2.2.2.2.2.2))]) [0, 1, 6, 7] [2, 3, 4, 5, 8, 9, 10, 11, 12, 13, 14, 15, 16, 17, 18, 19, 20, 21, 22, 23, 24, 25, 26] (ok_X5_about (x := r 0) (M := r 1) (L := r 8) (Dk := r 15) (c := r 20) (se := r 21) (wk := r 23) (sp := r 25) (q := r 6) (a := r 7) (mf := rf3 r 2 2 3) (fun h9 => by have h8 := ix_in h9; rw [e] at h8; exact (congrArg (rf3 r 2 2 3) h8.symm).trans rfl) h0) rfl rfl rfl rfl (by decide) ?_
    rintro o w hp
    cases x0 with
    | inl z =>
      obtain ⟨g, e1, e2⟩ := PX.inl hp
      subst e1; subst e2
      exact ⟨_, [23, 24, 0, 1, 2, 3, 25, 26, 4, 5, 6, 7, 8, 9, 10, 11, 12, 13, 14, 15, 16, 17, 18, 19, 20, 21, 22], PX.mk g rfl rfl, rfl, rfl⟩
    | inr E =>
      obtain ⟨e1, e2⟩ := PX.inr hp
      subst e1; subst e2
      exact ⟨_, [23, 24, 0, 1, 2, 3, 25, 26, 4, 5, 6, 7, 8, 9, 10, 11, 12, 13, 14, 15, 16, 17, 18, 19, 20, 21, 22], PX.er, rfl, rfl⟩
def gX_has (N K : Nat) (S : CS) (p0 : Int32) (p1 : Int32) : Option ((Int32 × CS) ⊕ String) := (fX5_has N K ((S.1 (ix 3 p0)).1) ((S.1 (ix 3 p0)).2) p0 p1).map (fun o => match o with | .inl z => .inl (z, (S.1, S.2.1, S.2.2.1, S.2.2.2.1, S.2.2.2.2.1, S.2.2.2.2.2.1, S.2.2.2.2.2.2)) | .inr E => .inr E)
set_option maxHeartbeats 4000000 in
set_option maxRecDepth 100000 in
theorem ogX_has {N K : Nat} {r : Nat → Nat} {S : CS} {p0 : Int32} {p1 : Int32} {x : (Int32 × CS) ⊕ String} (hE : gX_has N K S p0 p1 = some x) : OkM yX5_has (.code yX5_has cX5_has 3 (some .boolean)) (9) 1 6 [.ref (r 0), .int p0, .int p1] (WX r S) ((PX (U := Int32 × CS) (fun z _ => some (.int z.1)) (fun z _ => WX r z.2) (WX r S)) x) := by
  unfold gX_has at hE
  obtain ⟨x0, h0, h1⟩ := Option.map_eq_some_iff.mp hE
  subst h1
  clear hE
  rcases lt3 (ix_lt (n := 3) (p := p0) (by decide)) with e | e | e
  · rw [e] at h0
    try rw [e]
    refine ok_fr (wc := [(r 0, .inr (7, [.ref (r 1), .ref (r 8), .ref (r 15), .ref (r 20), .ref (r 21), .ref (r 23), .ref (r 25)])), (r 1, .inl (1, 3, .inr (.inr (.inr (.inr (rf3 r 2 2 3)))))), (r 2, .inr (4, [.ref (r 3), .int (S.1 0).1])), (r 3, .inl (0, 2646, .inl (S.1 0).2))]) (wr := [(r 4, .inr (4, [.ref (r 5), .int (S.1 1).1])), (r 5, .inl (0, 2646, .inl (S.1 1).2)), (r 6, .inr (4, [.ref (r 7), .int (S.1 2).1])), (r 7, .inl (0, 2646, .inl (S.1 2).2)), (r 8, .inl (2, 3, .inr (.inr (.inr (.inr (rf3 r 9 2 3)))))), (r 9, .inr (3, [.int (S.2.1 0).1, .ref (r 10), .int (S.2.1 0).2.1])), (r 10, .inl (0, 21, .inl (S.2.1 0).2.2)), (r 11, .inr (3, [.int (S.2.1 1).1, .ref (r 12), .int (S.2.1 1).2.1])), (r 12, .inl (0, 21, .inl (S.2.1 1).2.2)), (r 13, .inr (3, [.int (S.2.1 2).1, .ref (r 14), .int (S.2.1 2).2.1])), (r 14, .inl (0, 21, .inl (S.2.1 2).2.2)), (r 15, .inl (3, 2, .inr (.inr (.inr (.inr (rf3 r 16 2 2)))))), (r 16, .inr (6, [.ref (r 17)])), (r 17, .inl (0, 21, .inl (S.2.2.1 0))), (r 18, .inr (6, [.ref (r 19)])), (r 19, .inl (0, 21, .inl (S.2.2.1 1))), (r 20, .inr (2, [.int (S.2.2.2.1 0), .int (S.2.2.2.1 1), .int (S.2.2.2.1 2), .int (S.2.2.2.1 3), .int (S.2.2.2.1 4), .int (S.2.2.2.1 5)])), (r 21, .inr (5, [.ref (r 22)])), (r 22, .inl (0, 21, .inl S.2.2.2.2.1)), (r 23, .inr (6, [.ref (r 24)])), (r 24, .inl (0, 21, .inl S.2.2.2.2.2.1)), (r 25, .inr (6, [.ref (r 26)])), (r 26, .inl (0, 21, .inl S.2.2.2.2.2.2))]) [0, 1, 2, 3] [4, 5, 6, 7, 8, 9, 10, 11, 12, 13, 14, 15, 16, 17, 18, 19, 20, 21, 22, 23, 24, 25, 26] (ok_X5_has (x := r 0) (M := r 1) (L := r 8) (Dk := r 15) (c := r 20) (se := r 21) (wk := r 23) (sp := r 25) (q := r 2) (a := r 3) (mf := rf3 r 2 2 3) (fun h9 => by have h8 := ix_in h9; rw [e] at h8; exact (congrArg (rf3 r 2 2 3) h8.symm).trans rfl) h0) rfl rfl rfl rfl (by decide) ?_
    rintro o w hp
    cases x0 with
    | inl z =>
      obtain ⟨g, e1, e2⟩ := PX.inl hp
      subst e1; subst e2
      exact ⟨_, [23, 24, 25, 26, 0, 1, 2, 3, 4, 5, 6, 7, 8, 9, 10, 11, 12, 13, 14, 15, 16, 17, 18, 19, 20, 21, 22], PX.mk g rfl rfl, rfl, rfl⟩
    | inr E =>
      obtain ⟨e1, e2⟩ := PX.inr hp
      subst e1; subst e2
      exact ⟨_, [23, 24, 25, 26, 0, 1, 2, 3, 4, 5, 6, 7, 8, 9, 10, 11, 12, 13, 14, 15, 16, 17, 18, 19, 20, 21, 22], PX.er, rfl, rfl⟩
  · rw [e] at h0
    try rw [e]
    refine ok_fr (wc := [(r 0, .inr (7, [.ref (r 1), .ref (r 8), .ref (r 15), .ref (r 20), .ref (r 21), .ref (r 23), .ref (r 25)])), (r 1, .inl (1, 3, .inr (.inr (.inr (.inr (rf3 r 2 2 3)))))), (r 4, .inr (4, [.ref (r 5), .int (S.1 1).1])), (r 5, .inl (0, 2646, .inl (S.1 1).2))]) (wr := [(r 2, .inr (4, [.ref (r 3), .int (S.1 0).1])), (r 3, .inl (0, 2646, .inl (S.1 0).2)), (r 6, .inr (4, [.ref (r 7), .int (S.1 2).1])), (r 7, .inl (0, 2646, .inl (S.1 2).2)), (r 8, .inl (2, 3, .inr (.inr (.inr (.inr (rf3 r 9 2 3)))))), (r 9, .inr (3, [.int (S.2.1 0).1, .ref (r 10), .int (S.2.1 0).2.1])), (r 10, .inl (0, 21, .inl (S.2.1 0).2.2)), (r 11, .inr (3, [.int (S.2.1 1).1, .ref (r 12), .int (S.2.1 1).2.1])), (r 12, .inl (0, 21, .inl (S.2.1 1).2.2)), (r 13, .inr (3, [.int (S.2.1 2).1, .ref (r 14), .int (S.2.1 2).2.1])), (r 14, .inl (0, 21, .inl (S.2.1 2).2.2)), (r 15, .inl (3, 2, .inr (.inr (.inr (.inr (rf3 r 16 2 2)))))), (r 16, .inr (6, [.ref (r 17)])), (r 17, .inl (0, 21, .inl (S.2.2.1 0))), (r 18, .inr (6, [.ref (r 19)])), (r 19, .inl (0, 21, .inl (S.2.2.1 1))), (r 20, .inr (2, [.int (S.2.2.2.1 0), .int (S.2.2.2.1 1), .int (S.2.2.2.1 2), .int (S.2.2.2.1 3), .int (S.2.2.2.1 4), .int (S.2.2.2.1 5)])), (r 21, .inr (5, [.ref (r 22)])), (r 22, .inl (0, 21, .inl S.2.2.2.2.1)), (r 23, .inr (6, [.ref (r 24)])), (r 24, .inl (0, 21, .inl S.2.2.2.2.2.1)), (r 25, .inr (6, [.ref (r 26)])), (r 26, .inl (0, 21, .inl S.2.2.2.2.2.2))]) [0, 1, 4, 5] [2, 3, 6, 7, 8, 9, 10, 11, 12, 13, 14, 15, 16, 17, 18, 19, 20, 21, 22, 23, 24, 25, 26] (ok_X5_has (x := r 0) (M := r 1) (L := r 8) (Dk := r 15) (c := r 20) (se := r 21) (wk := r 23) (sp := r 25) (q := r 4) (a := r 5) (mf := rf3 r 2 2 3) (fun h9 => by have h8 := ix_in h9; rw [e] at h8; exact (congrArg (rf3 r 2 2 3) h8.symm).trans rfl) h0) rfl rfl rfl rfl (by decide) ?_
    rintro o w hp
    cases x0 with
    | inl z =>
      obtain ⟨g, e1, e2⟩ := PX.inl hp
      subst e1; subst e2
      exact ⟨_, [23, 24, 0, 1, 25, 26, 2, 3, 4, 5, 6, 7, 8, 9, 10, 11, 12, 13, 14, 15, 16, 17, 18, 19, 20, 21, 22], PX.mk g rfl rfl, rfl, rfl⟩
    | inr E =>
      obtain ⟨e1, e2⟩ := PX.inr hp
      subst e1; subst e2
      exact ⟨_, [23, 24, 0, 1, 25, 26, 2, 3, 4, 5, 6, 7, 8, 9, 10, 11, 12, 13, 14, 15, 16, 17, 18, 19, 20, 21, 22], PX.er, rfl, rfl⟩
  · rw [e] at h0
    try rw [e]
    refine ok_fr (wc := [(r 0, .inr (7, [.ref (r 1), .ref (r 8), .ref (r 15), .ref (r 20), .ref (r 21), .ref (r 23), .ref (r 25)])), (r 1, .inl (1, 3, .inr (.inr (.inr (.inr (rf3 r 2 2 3)))))), (r 6, .inr (4, [.ref (r 7), .int (S.1 2).1])), (r 7, .inl (0, 2646, .inl (S.1 2).2))]) (wr := [(r 2, .inr (4, [.ref (r 3), .int (S.1 0).1])), (r 3, .inl (0, 2646, .inl (S.1 0).2)), (r 4, .inr (4, [.ref (r 5), .int (S.1 1).1])), (r 5, .inl (0, 2646, .inl (S.1 1).2)), (r 8, .inl (2, 3, .inr (.inr (.inr (.inr (rf3 r 9 2 3)))))), (r 9, .inr (3, [.int (S.2.1 0).1, .ref (r 10), .int (S.2.1 0).2.1])), (r 10, .inl (0, 21, .inl (S.2.1 0).2.2)), (r 11, .inr (3, [.int (S.2.1 1).1, .ref (r 12), .int (S.2.1 1).2.1])), (r 12, .inl (0, 21, .inl (S.2.1 1).2.2)), (r 13, .inr (3, [.int (S.2.1 2).1, .ref (r 14), .int (S.2.1 2).2.1])), (r 14, .inl (0, 21, .inl (S.2.1 2).2.2)), (r 15, .inl (3, 2, .inr (.inr (.inr (.inr (rf3 r 16 2 2)))))), (r 16, .inr (6, [.ref (r 17)])), (r 17, .inl (0, 21, .inl (S.2.2.1 0))), (r 18, .inr (6, [.ref (r 19)])), (r 19, .inl (0, 21, .inl (S.2.2.1 1))), (r 20, .inr (2, [.int (S.2.2.2.1 0), .int (S.2.2.2.1 1), .int (S.2.2.2.1 2), .int (S.2.2.2.1 3), .int (S.2.2.2.1 4), .int (S.2.2.2.1 5)])), (r 21, .inr (5, [.ref (r 22)])), (r 22, .inl (0, 21, .inl S.2.2.2.2.1)), (r 23, .inr (6, [.ref (r 24)])), (r 24, .inl (0, 21, .inl S.2.2.2.2.2.1)), (r 25, .inr (6, [.ref (r 26)])), (r 26, .inl (0, 21, .inl S.2.2.2.2.2.2))]) [0, 1, 6, 7] [2, 3, 4, 5, 8, 9, 10, 11, 12, 13, 14, 15, 16, 17, 18, 19, 20, 21, 22, 23, 24, 25, 26] (ok_X5_has (x := r 0) (M := r 1) (L := r 8) (Dk := r 15) (c := r 20) (se := r 21) (wk := r 23) (sp := r 25) (q := r 6) (a := r 7) (mf := rf3 r 2 2 3) (fun h9 => by have h8 := ix_in h9; rw [e] at h8; exact (congrArg (rf3 r 2 2 3) h8.symm).trans rfl) h0) rfl rfl rfl rfl (by decide) ?_
    rintro o w hp
    cases x0 with
    | inl z =>
      obtain ⟨g, e1, e2⟩ := PX.inl hp
      subst e1; subst e2
      exact ⟨_, [23, 24, 0, 1, 2, 3, 25, 26, 4, 5, 6, 7, 8, 9, 10, 11, 12, 13, 14, 15, 16, 17, 18, 19, 20, 21, 22], PX.mk g rfl rfl, rfl, rfl⟩
    | inr E =>
      obtain ⟨e1, e2⟩ := PX.inr hp
      subst e1; subst e2
      exact ⟨_, [23, 24, 0, 1, 2, 3, 25, 26, 4, 5, 6, 7, 8, 9, 10, 11, 12, 13, 14, 15, 16, 17, 18, 19, 20, 21, 22], PX.er, rfl, rfl⟩
def gX_count (N K : Nat) (S : CS) (p0 : Int32) (p1 : Int32) (p2 : Int32) : Option ((Int32 × CS) ⊕ String) := (fX5_count N K ((S.1 (ix 3 p0)).1) ((S.1 (ix 3 p0)).2) p0 p1 p2).map (fun o => match o with | .inl z => .inl (z, (S.1, S.2.1, S.2.2.1, S.2.2.2.1, S.2.2.2.2.1, S.2.2.2.2.2.1, S.2.2.2.2.2.2)) | .inr E => .inr E)
set_option maxHeartbeats 4000000 in
set_option maxRecDepth 100000 in
theorem ogX_count {N K : Nat} {r : Nat → Nat} {S : CS} {p0 : Int32} {p1 : Int32} {p2 : Int32} {x : (Int32 × CS) ⊕ String} (hE : gX_count N K S p0 p1 p2 = some x) : OkM yX5_count (.code yX5_count cX5_count 5 (some .int)) (9) 2 12 [.ref (r 0), .int p0, .int p1, .int p2] (WX r S) ((PX (U := Int32 × CS) (fun z _ => some (.int z.1)) (fun z _ => WX r z.2) (WX r S)) x) := by
  unfold gX_count at hE
  obtain ⟨x0, h0, h1⟩ := Option.map_eq_some_iff.mp hE
  subst h1
  clear hE
  rcases lt3 (ix_lt (n := 3) (p := p0) (by decide)) with e | e | e
  · rw [e] at h0
    try rw [e]
    refine ok_fr (wc := [(r 0, .inr (7, [.ref (r 1), .ref (r 8), .ref (r 15), .ref (r 20), .ref (r 21), .ref (r 23), .ref (r 25)])), (r 1, .inl (1, 3, .inr (.inr (.inr (.inr (rf3 r 2 2 3)))))), (r 2, .inr (4, [.ref (r 3), .int (S.1 0).1])), (r 3, .inl (0, 2646, .inl (S.1 0).2))]) (wr := [(r 4, .inr (4, [.ref (r 5), .int (S.1 1).1])), (r 5, .inl (0, 2646, .inl (S.1 1).2)), (r 6, .inr (4, [.ref (r 7), .int (S.1 2).1])), (r 7, .inl (0, 2646, .inl (S.1 2).2)), (r 8, .inl (2, 3, .inr (.inr (.inr (.inr (rf3 r 9 2 3)))))), (r 9, .inr (3, [.int (S.2.1 0).1, .ref (r 10), .int (S.2.1 0).2.1])), (r 10, .inl (0, 21, .inl (S.2.1 0).2.2)), (r 11, .inr (3, [.int (S.2.1 1).1, .ref (r 12), .int (S.2.1 1).2.1])), (r 12, .inl (0, 21, .inl (S.2.1 1).2.2)), (r 13, .inr (3, [.int (S.2.1 2).1, .ref (r 14), .int (S.2.1 2).2.1])), (r 14, .inl (0, 21, .inl (S.2.1 2).2.2)), (r 15, .inl (3, 2, .inr (.inr (.inr (.inr (rf3 r 16 2 2)))))), (r 16, .inr (6, [.ref (r 17)])), (r 17, .inl (0, 21, .inl (S.2.2.1 0))), (r 18, .inr (6, [.ref (r 19)])), (r 19, .inl (0, 21, .inl (S.2.2.1 1))), (r 20, .inr (2, [.int (S.2.2.2.1 0), .int (S.2.2.2.1 1), .int (S.2.2.2.1 2), .int (S.2.2.2.1 3), .int (S.2.2.2.1 4), .int (S.2.2.2.1 5)])), (r 21, .inr (5, [.ref (r 22)])), (r 22, .inl (0, 21, .inl S.2.2.2.2.1)), (r 23, .inr (6, [.ref (r 24)])), (r 24, .inl (0, 21, .inl S.2.2.2.2.2.1)), (r 25, .inr (6, [.ref (r 26)])), (r 26, .inl (0, 21, .inl S.2.2.2.2.2.2))]) [0, 1, 2, 3] [4, 5, 6, 7, 8, 9, 10, 11, 12, 13, 14, 15, 16, 17, 18, 19, 20, 21, 22, 23, 24, 25, 26] (ok_X5_count (x := r 0) (M := r 1) (L := r 8) (Dk := r 15) (c := r 20) (se := r 21) (wk := r 23) (sp := r 25) (q := r 2) (a := r 3) (mf := rf3 r 2 2 3) (fun h9 => by have h8 := ix_in h9; rw [e] at h8; exact (congrArg (rf3 r 2 2 3) h8.symm).trans rfl) h0) rfl rfl rfl rfl (by decide) ?_
    rintro o w hp
    cases x0 with
    | inl z =>
      obtain ⟨g, e1, e2⟩ := PX.inl hp
      subst e1; subst e2
      exact ⟨_, [23, 24, 25, 26, 0, 1, 2, 3, 4, 5, 6, 7, 8, 9, 10, 11, 12, 13, 14, 15, 16, 17, 18, 19, 20, 21, 22], PX.mk g rfl rfl, rfl, rfl⟩
    | inr E =>
      obtain ⟨e1, e2⟩ := PX.inr hp
      subst e1; subst e2
      exact ⟨_, [23, 24, 25, 26, 0, 1, 2, 3, 4, 5, 6, 7, 8, 9, 10, 11, 12, 13, 14, 15, 16, 17, 18, 19, 20, 21, 22], PX.er, rfl, rfl⟩
  · rw [e] at h0
    try rw [e]
    refine ok_fr (wc := [(r 0, .inr (7, [.ref (r 1), .ref (r 8), .ref (r 15), .ref (r 20), .ref (r 21), .ref (r 23), .ref (r 25)])), (r 1, .inl (1, 3, .inr (.inr (.inr (.inr (rf3 r 2 2 3)))))), (r 4, .inr (4, [.ref (r 5), .int (S.1 1).1])), (r 5, .inl (0, 2646, .inl (S.1 1).2))]) (wr := [(r 2, .inr (4, [.ref (r 3), .int (S.1 0).1])), (r 3, .inl (0, 2646, .inl (S.1 0).2)), (r 6, .inr (4, [.ref (r 7), .int (S.1 2).1])), (r 7, .inl (0, 2646, .inl (S.1 2).2)), (r 8, .inl (2, 3, .inr (.inr (.inr (.inr (rf3 r 9 2 3)))))), (r 9, .inr (3, [.int (S.2.1 0).1, .ref (r 10), .int (S.2.1 0).2.1])), (r 10, .inl (0, 21, .inl (S.2.1 0).2.2)), (r 11, .inr (3, [.int (S.2.1 1).1, .ref (r 12), .int (S.2.1 1).2.1])), (r 12, .inl (0, 21, .inl (S.2.1 1).2.2)), (r 13, .inr (3, [.int (S.2.1 2).1, .ref (r 14), .int (S.2.1 2).2.1])), (r 14, .inl (0, 21, .inl (S.2.1 2).2.2)), (r 15, .inl (3, 2, .inr (.inr (.inr (.inr (rf3 r 16 2 2)))))), (r 16, .inr (6, [.ref (r 17)])), (r 17, .inl (0, 21, .inl (S.2.2.1 0))), (r 18, .inr (6, [.ref (r 19)])), (r 19, .inl (0, 21, .inl (S.2.2.1 1))), (r 20, .inr (2, [.int (S.2.2.2.1 0), .int (S.2.2.2.1 1), .int (S.2.2.2.1 2), .int (S.2.2.2.1 3), .int (S.2.2.2.1 4), .int (S.2.2.2.1 5)])), (r 21, .inr (5, [.ref (r 22)])), (r 22, .inl (0, 21, .inl S.2.2.2.2.1)), (r 23, .inr (6, [.ref (r 24)])), (r 24, .inl (0, 21, .inl S.2.2.2.2.2.1)), (r 25, .inr (6, [.ref (r 26)])), (r 26, .inl (0, 21, .inl S.2.2.2.2.2.2))]) [0, 1, 4, 5] [2, 3, 6, 7, 8, 9, 10, 11, 12, 13, 14, 15, 16, 17, 18, 19, 20, 21, 22, 23, 24, 25, 26] (ok_X5_count (x := r 0) (M := r 1) (L := r 8) (Dk := r 15) (c := r 20) (se := r 21) (wk := r 23) (sp := r 25) (q := r 4) (a := r 5) (mf := rf3 r 2 2 3) (fun h9 => by have h8 := ix_in h9; rw [e] at h8; exact (congrArg (rf3 r 2 2 3) h8.symm).trans rfl) h0) rfl rfl rfl rfl (by decide) ?_
    rintro o w hp
    cases x0 with
    | inl z =>
      obtain ⟨g, e1, e2⟩ := PX.inl hp
      subst e1; subst e2
      exact ⟨_, [23, 24, 0, 1, 25, 26, 2, 3, 4, 5, 6, 7, 8, 9, 10, 11, 12, 13, 14, 15, 16, 17, 18, 19, 20, 21, 22], PX.mk g rfl rfl, rfl, rfl⟩
    | inr E =>
      obtain ⟨e1, e2⟩ := PX.inr hp
      subst e1; subst e2
      exact ⟨_, [23, 24, 0, 1, 25, 26, 2, 3, 4, 5, 6, 7, 8, 9, 10, 11, 12, 13, 14, 15, 16, 17, 18, 19, 20, 21, 22], PX.er, rfl, rfl⟩
  · rw [e] at h0
    try rw [e]
    refine ok_fr (wc := [(r 0, .inr (7, [.ref (r 1), .ref (r 8), .ref (r 15), .ref (r 20), .ref (r 21), .ref (r 23), .ref (r 25)])), (r 1, .inl (1, 3, .inr (.inr (.inr (.inr (rf3 r 2 2 3)))))), (r 6, .inr (4, [.ref (r 7), .int (S.1 2).1])), (r 7, .inl (0, 2646, .inl (S.1 2).2))]) (wr := [(r 2, .inr (4, [.ref (r 3), .int (S.1 0).1])), (r 3, .inl (0, 2646, .inl (S.1 0).2)), (r 4, .inr (4, [.ref (r 5), .int (S.1 1).1])), (r 5, .inl (0, 2646, .inl (S.1 1).2)), (r 8, .inl (2, 3, .inr (.inr (.inr (.inr (rf3 r 9 2 3)))))), (r 9, .inr (3, [.int (S.2.1 0).1, .ref (r 10), .int (S.2.1 0).2.1])), (r 10, .inl (0, 21, .inl (S.2.1 0).2.2)), (r 11, .inr (3, [.int (S.2.1 1).1, .ref (r 12), .int (S.2.1 1).2.1])), (r 12, .inl (0, 21, .inl (S.2.1 1).2.2)), (r 13, .inr (3, [.int (S.2.1 2).1, .ref (r 14), .int (S.2.1 2).2.1])), (r 14, .inl (0, 21, .inl (S.2.1 2).2.2)), (r 15, .inl (3, 2, .inr (.inr (.inr (.inr (rf3 r 16 2 2)))))), (r 16, .inr (6, [.ref (r 17)])), (r 17, .inl (0, 21, .inl (S.2.2.1 0))), (r 18, .inr (6, [.ref (r 19)])), (r 19, .inl (0, 21, .inl (S.2.2.1 1))), (r 20, .inr (2, [.int (S.2.2.2.1 0), .int (S.2.2.2.1 1), .int (S.2.2.2.1 2), .int (S.2.2.2.1 3), .int (S.2.2.2.1 4), .int (S.2.2.2.1 5)])), (r 21, .inr (5, [.ref (r 22)])), (r 22, .inl (0, 21, .inl S.2.2.2.2.1)), (r 23, .inr (6, [.ref (r 24)])), (r 24, .inl (0, 21, .inl S.2.2.2.2.2.1)), (r 25, .inr (6, [.ref (r 26)])), (r 26, .inl (0, 21, .inl S.2.2.2.2.2.2))]) [0, 1, 6, 7] [2, 3, 4, 5, 8, 9, 10, 11, 12, 13, 14, 15, 16, 17, 18, 19, 20, 21, 22, 23, 24, 25, 26] (ok_X5_count (x := r 0) (M := r 1) (L := r 8) (Dk := r 15) (c := r 20) (se := r 21) (wk := r 23) (sp := r 25) (q := r 6) (a := r 7) (mf := rf3 r 2 2 3) (fun h9 => by have h8 := ix_in h9; rw [e] at h8; exact (congrArg (rf3 r 2 2 3) h8.symm).trans rfl) h0) rfl rfl rfl rfl (by decide) ?_
    rintro o w hp
    cases x0 with
    | inl z =>
      obtain ⟨g, e1, e2⟩ := PX.inl hp
      subst e1; subst e2
      exact ⟨_, [23, 24, 0, 1, 2, 3, 25, 26, 4, 5, 6, 7, 8, 9, 10, 11, 12, 13, 14, 15, 16, 17, 18, 19, 20, 21, 22], PX.mk g rfl rfl, rfl, rfl⟩
    | inr E =>
      obtain ⟨e1, e2⟩ := PX.inr hp
      subst e1; subst e2
      exact ⟨_, [23, 24, 0, 1, 2, 3, 25, 26, 4, 5, 6, 7, 8, 9, 10, 11, 12, 13, 14, 15, 16, 17, 18, 19, 20, 21, 22], PX.er, rfl, rfl⟩
def gX_isSame (N K : Nat) (S : CS) (p0 : Int32) (p1 : Int32) : Option ((Int32 × CS) ⊕ String) := if p0 = p1 then (fX5_isSameOwn N K ((S.1 (ix 3 p0)).1) ((S.1 (ix 3 p0)).2) p0).map (fun o => match o with | .inl z => .inl (z, (S.1, S.2.1, S.2.2.1, S.2.2.2.1, S.2.2.2.2.1, S.2.2.2.2.2.1, S.2.2.2.2.2.2)) | .inr E => .inr E) else (fX5_isSame N K ((S.1 (jx 3 p0 p1)).1) ((S.1 (jx 3 p0 p1)).2) ((S.1 (kx 3 p0 p1)).1) ((S.1 (kx 3 p0 p1)).2) p0 p1).map (fun o => match o with | .inl z => .inl (z, (S.1, S.2.1, S.2.2.1, S.2.2.2.1, S.2.2.2.2.1, S.2.2.2.2.2.1, S.2.2.2.2.2.2)) | .inr E => .inr E)
set_option maxHeartbeats 4000000 in
set_option maxRecDepth 100000 in
theorem ogX_isSame {N K : Nat} {r : Nat → Nat} {S : CS} {p0 : Int32} {p1 : Int32} {x : (Int32 × CS) ⊕ String} (hE : gX_isSame N K S p0 p1 = some x) : OkM yX5_isSame (.code yX5_isSame cX5_isSame 5 (some .boolean)) (9) 2 12 [.ref (r 0), .int p0, .int p1] (WX r S) ((PX (U := Int32 × CS) (fun z _ => some (.int z.1)) (fun z _ => WX r z.2) (WX r S)) x) := by
  unfold gX_isSame at hE
  by_cases hpq : p0 = p1
  · subst hpq
    rw [if_pos rfl] at hE
    obtain ⟨x0, h0, h1⟩ := Option.map_eq_some_iff.mp hE
    subst h1
    clear hE
    rcases lt3 (ix_lt (n := 3) (p := p0) (by decide)) with e | e | e
    · rw [e] at h0
      try rw [e]
      refine ok_fr (wc := [(r 0, .inr (7, [.ref (r 1), .ref (r 8), .ref (r 15), .ref (r 20), .ref (r 21), .ref (r 23), .ref (r 25)])), (r 1, .inl (1, 3, .inr (.inr (.inr (.inr (rf3 r 2 2 3)))))), (r 2, .inr (4, [.ref (r 3), .int (S.1 0).1])), (r 3, .inl (0, 2646, .inl (S.1 0).2))]) (wr := [(r 4, .inr (4, [.ref (r 5), .int (S.1 1).1])), (r 5, .inl (0, 2646, .inl (S.1 1).2)), (r 6, .inr (4, [.ref (r 7), .int (S.1 2).1])), (r 7, .inl (0, 2646, .inl (S.1 2).2)), (r 8, .inl (2, 3, .inr (.inr (.inr (.inr (rf3 r 9 2 3)))))), (r 9, .inr (3, [.int (S.2.1 0).1, .ref (r 10), .int (S.2.1 0).2.1])), (r 10, .inl (0, 21, .inl (S.2.1 0).2.2)), (r 11, .inr (3, [.int (S.2.1 1).1, .ref (r 12), .int (S.2.1 1).2.1])), (r 12, .inl (0, 21, .inl (S.2.1 1).2.2)), (r 13, .inr (3, [.int (S.2.1 2).1, .ref (r 14), .int (S.2.1 2).2.1])), (r 14, .inl (0, 21, .inl (S.2.1 2).2.2)), (r 15, .inl (3, 2, .inr (.inr (.inr (.inr (rf3 r 16 2 2)))))), (r 16, .inr (6, [.ref (r 17)])), (r 17, .inl (0, 21, .inl (S.2.2.1 0))), (r 18, .inr (6, [.ref (r 19)])), (r 19, .inl (0, 21, .inl (S.2.2.1 1))), (r 20, .inr (2, [.int (S.2.2.2.1 0), .int (S.2.2.2.1 1), .int (S.2.2.2.1 2), .int (S.2.2.2.1 3), .int (S.2.2.2.1 4), .int (S.2.2.2.1 5)])), (r 21, .inr (5, [.ref (r 22)])), (r 22, .inl (0, 21, .inl S.2.2.2.2.1)), (r 23, .inr (6, [.ref (r 24)])), (r 24, .inl (0, 21, .inl S.2.2.2.2.2.1)), (r 25, .inr (6, [.ref (r 26)])), (r 26, .inl (0, 21, .inl S.2.2.2.2.2.2))]) [0, 1, 2, 3] [4, 5, 6, 7, 8, 9, 10, 11, 12, 13, 14, 15, 16, 17, 18, 19, 20, 21, 22, 23, 24, 25, 26] (ok_X5_isSameOwn (x := r 0) (M := r 1) (L := r 8) (Dk := r 15) (c := r 20) (se := r 21) (wk := r 23) (sp := r 25) (q := r 2) (a := r 3) (mf := rf3 r 2 2 3) (fun h9 => by have h8 := ix_in h9; rw [e] at h8; exact (congrArg (rf3 r 2 2 3) h8.symm).trans rfl) h0) rfl rfl rfl rfl (by decide) ?_
      rintro o w hp
      cases x0 with
      | inl z =>
        obtain ⟨g, e1, e2⟩ := PX.inl hp
        subst e1; subst e2
        exact ⟨_, [23, 24, 25, 26, 0, 1, 2, 3, 4, 5, 6, 7, 8, 9, 10, 11, 12, 13, 14, 15, 16, 17, 18, 19, 20, 21, 22], PX.mk g rfl rfl, rfl, rfl⟩
      | inr E =>
        obtain ⟨e1, e2⟩ := PX.inr hp
        subst e1; subst e2
        exact ⟨_, [23, 24, 25, 26, 0, 1, 2, 3, 4, 5, 6, 7, 8, 9, 10, 11, 12, 13, 14, 15, 16, 17, 18, 19, 20, 21, 22], PX.er, rfl, rfl⟩
    · rw [e] at h0
      try rw [e]
      refine ok_fr (wc := [(r 0, .inr (7, [.ref (r 1), .ref (r 8), .ref (r 15), .ref (r 20), .ref (r 21), .ref (r 23), .ref (r 25)])), (r 1, .inl (1, 3, .inr (.inr (.inr (.inr (rf3 r 2 2 3)))))), (r 4, .inr (4, [.ref (r 5), .int (S.1 1).1])), (r 5, .inl (0, 2646, .inl (S.1 1).2))]) (wr := [(r 2, .inr (4, [.ref (r 3), .int (S.1 0).1])), (r 3, .inl (0, 2646, .inl (S.1 0).2)), (r 6, .inr (4, [.ref (r 7), .int (S.1 2).1])), (r 7, .inl (0, 2646, .inl (S.1 2).2)), (r 8, .inl (2, 3, .inr (.inr (.inr (.inr (rf3 r 9 2 3)))))), (r 9, .inr (3, [.int (S.2.1 0).1, .ref (r 10), .int (S.2.1 0).2.1])), (r 10, .inl (0, 21, .inl (S.2.1 0).2.2)), (r 11, .inr (3, [.int (S.2.1 1).1, .ref (r 12), .int (S.2.1 1).2.1])), (r 12, .inl (0, 21, .inl (S.2.1 1).2.2)), (r 13, .inr (3, [.int (S.2.1 2).1, .ref (r 14), .int (S.2.1 2).2.1])), (r 14, .inl (0, 21, .inl (S.2.1 2).2.2)), (r 15, .inl (3, 2, .inr (.inr (.inr (.inr (rf3 r 16 2 2)))))), (r 16, .inr (6, [.ref (r 17)])), (r 17, .inl (0, 21, .inl (S.2.2.1 0))), (r 18, .inr (6, [.ref (r 19)])), (r 19, .inl (0, 21, .inl (S.2.2.1 1))), (r 20, .inr (2, [.int (S.2.2.2.1 0), .int (S.2.2.2.1 1), .int (S.2.2.2.1 2), .int (S.2.2.2.1 3), .int (S.2.2.2.1 4), .int (S.2.2.2.1 5)])), (r 21, .inr (5, [.ref (r 22)])), (r 22, .inl (0, 21, .inl S.2.2.2.2.1)), (r 23, .inr (6, [.ref (r 24)])), (r 24, .inl (0, 21, .inl S.2.2.2.2.2.1)), (r 25, .inr (6, [.ref (r 26)])), (r 26, .inl (0, 21, .inl S.2.2.2.2.2.2))]) [0, 1, 4, 5] [2, 3, 6, 7, 8, 9, 10, 11, 12, 13, 14, 15, 16, 17, 18, 19, 20, 21, 22, 23, 24, 25, 26] (ok_X5_isSameOwn (x := r 0) (M := r 1) (L := r 8) (Dk := r 15) (c := r 20) (se := r 21) (wk := r 23) (sp := r 25) (q := r 4) (a := r 5) (mf := rf3 r 2 2 3) (fun h9 => by have h8 := ix_in h9; rw [e] at h8; exact (congrArg (rf3 r 2 2 3) h8.symm).trans rfl) h0) rfl rfl rfl rfl (by decide) ?_
      rintro o w hp
      cases x0 with
      | inl z =>
        obtain ⟨g, e1, e2⟩ := PX.inl hp
        subst e1; subst e2
        exact ⟨_, [23, 24, 0, 1, 25, 26, 2, 3, 4, 5, 6, 7, 8, 9, 10, 11, 12, 13, 14, 15, 16, 17, 18, 19, 20, 21, 22], PX.mk g rfl rfl, rfl, rfl⟩
      | inr E =>
        obtain ⟨e1, e2⟩ := PX.inr hp
        subst e1; subst e2
        exact ⟨_, [23, 24, 0, 1, 25, 26, 2, 3, 4, 5, 6, 7, 8, 9, 10, 11, 12, 13, 14, 15, 16, 17, 18, 19, 20, 21, 22], PX.er, rfl, rfl⟩
    · rw [e] at h0
      try rw [e]
      refine ok_fr (wc := [(r 0, .inr (7, [.ref (r 1), .ref (r 8), .ref (r 15), .ref (r 20), .ref (r 21), .ref (r 23), .ref (r 25)])), (r 1, .inl (1, 3, .inr (.inr (.inr (.inr (rf3 r 2 2 3)))))), (r 6, .inr (4, [.ref (r 7), .int (S.1 2).1])), (r 7, .inl (0, 2646, .inl (S.1 2).2))]) (wr := [(r 2, .inr (4, [.ref (r 3), .int (S.1 0).1])), (r 3, .inl (0, 2646, .inl (S.1 0).2)), (r 4, .inr (4, [.ref (r 5), .int (S.1 1).1])), (r 5, .inl (0, 2646, .inl (S.1 1).2)), (r 8, .inl (2, 3, .inr (.inr (.inr (.inr (rf3 r 9 2 3)))))), (r 9, .inr (3, [.int (S.2.1 0).1, .ref (r 10), .int (S.2.1 0).2.1])), (r 10, .inl (0, 21, .inl (S.2.1 0).2.2)), (r 11, .inr (3, [.int (S.2.1 1).1, .ref (r 12), .int (S.2.1 1).2.1])), (r 12, .inl (0, 21, .inl (S.2.1 1).2.2)), (r 13, .inr (3, [.int (S.2.1 2).1, .ref (r 14), .int (S.2.1 2).2.1])), (r 14, .inl (0, 21, .inl (S.2.1 2).2.2)), (r 15, .inl (3, 2, .inr (.inr (.inr (.inr (rf3 r 16 2 2)))))), (r 16, .inr (6, [.ref (r 17)])), (r 17, .inl (0, 21, .inl (S.2.2.1 0))), (r 18, .inr (6, [.ref (r 19)])), (r 19, .inl (0, 21, .inl (S.2.2.1 1))), (r 20, .inr (2, [.int (S.2.2.2.1 0), .int (S.2.2.2.1 1), .int (S.2.2.2.1 2), .int (S.2.2.2.1 3), .int (S.2.2.2.1 4), .int (S.2.2.2.1 5)])), (r 21, .inr (5, [.ref (r 22)])), (r 22, .inl (0, 21, .inl S.2.2.2.2.1)), (r 23, .inr (6, [.ref (r 24)])), (r 24, .inl (0, 21, .inl S.2.2.2.2.2.1)), (r 25, .inr (6, [.ref (r 26)])), (r 26, .inl (0, 21, .inl S.2.2.2.2.2.2))]) [0, 1, 6, 7] [2, 3, 4, 5, 8, 9, 10, 11, 12, 13, 14, 15, 16, 17, 18, 19, 20, 21, 22, 23, 24, 25, 26] (ok_X5_isSameOwn (x := r 0) (M := r 1) (L := r 8) (Dk := r 15) (c := r 20) (se := r 21) (wk := r 23) (sp := r 25) (q := r 6) (a := r 7) (mf := rf3 r 2 2 3) (fun h9 => by have h8 := ix_in h9; rw [e] at h8; exact (congrArg (rf3 r 2 2 3) h8.symm).trans rfl) h0) rfl rfl rfl rfl (by decide) ?_
      rintro o w hp
      cases x0 with
      | inl z =>
        obtain ⟨g, e1, e2⟩ := PX.inl hp
        subst e1; subst e2
        exact ⟨_, [23, 24, 0, 1, 2, 3, 25, 26, 4, 5, 6, 7, 8, 9, 10, 11, 12, 13, 14, 15, 16, 17, 18, 19, 20, 21, 22], PX.mk g rfl rfl, rfl, rfl⟩
      | inr E =>
        obtain ⟨e1, e2⟩ := PX.inr hp
        subst e1; subst e2
        exact ⟨_, [23, 24, 0, 1, 2, 3, 25, 26, 4, 5, 6, 7, 8, 9, 10, 11, 12, 13, 14, 15, 16, 17, 18, 19, 20, 21, 22], PX.er, rfl, rfl⟩
  · rw [if_neg hpq] at hE
    obtain ⟨x0, h0, h1⟩ := Option.map_eq_some_iff.mp hE
    subst h1
    clear hE
    rcases jk3 hpq with ⟨e, f⟩ | ⟨e, f⟩ | ⟨e, f⟩ | ⟨e, f⟩ | ⟨e, f⟩ | ⟨e, f⟩
    · simp only [e, f] at h0 ⊢
      refine ok_fr (wc := [(r 0, .inr (7, [.ref (r 1), .ref (r 8), .ref (r 15), .ref (r 20), .ref (r 21), .ref (r 23), .ref (r 25)])), (r 1, .inl (1, 3, .inr (.inr (.inr (.inr (rf3 r 2 2 3)))))), (r 2, .inr (4, [.ref (r 3), .int (S.1 0).1])), (r 3, .inl (0, 2646, .inl (S.1 0).2)), (r 4, .inr (4, [.ref (r 5), .int (S.1 1).1])), (r 5, .inl (0, 2646, .inl (S.1 1).2))]) (wr := [(r 6, .inr (4, [.ref (r 7), .int (S.1 2).1])), (r 7, .inl (0, 2646, .inl (S.1 2).2)), (r 8, .inl (2, 3, .inr (.inr (.inr (.inr (rf3 r 9 2 3)))))), (r 9, .inr (3, [.int (S.2.1 0).1, .ref (r 10), .int (S.2.1 0).2.1])), (r 10, .inl (0, 21, .inl (S.2.1 0).2.2)), (r 11, .inr (3, [.int (S.2.1 1).1, .ref (r 12), .int (S.2.1 1).2.1])), (r 12, .inl (0, 21, .inl (S.2.1 1).2.2)), (r 13, .inr (3, [.int (S.2.1 2).1, .ref (r 14), .int (S.2.1 2).2.1])), (r 14, .inl (0, 21, .inl (S.2.1 2).2.2)), (r 15, .inl (3, 2, .inr (.inr (.inr (.inr (rf3 r 16 2 2)))))), (r 16, .inr (6, [.ref (r 17)])), (r 17, .inl (0, 21, .inl (S.2.2.1 0))), (r 18, .inr (6, [.ref (r 19)])), (r 19, .inl (0, 21, .inl (S.2.2.1 1))), (r 20, .inr (2, [.int (S.2.2.2.1 0), .int (S.2.2.2.1 1), .int (S.2.2.2.1 2), .int (S.2.2.2.1 3), .int (S.2.2.2.1 4), .int (S.2.2.2.1 5)])), (r 21, .inr (5, [.ref (r 22)])), (r 22, .inl (0, 21, .inl S.2.2.2.2.1)), (r 23, .inr (6, [.ref (r 24)])), (r 24, .inl (0, 21, .inl S.2.2.2.2.2.1)), (r 25, .inr (6, [.ref (r 26)])), (r 26, .inl (0, 21, .inl S.2.2.2.2.2.2))]) [0, 1, 2, 3, 4, 5] [6, 7, 8, 9, 10, 11, 12, 13, 14, 15, 16, 17, 18, 19, 20, 21, 22, 23, 24, 25, 26] (ok_X5_isSame (x := r 0) (M := r 1) (L := r 8) (Dk := r 15) (c := r 20) (se := r 21) (wk := r 23) (sp := r 25) (q := r 2) (a := r 3) (q2 := r 4) (a2 := r 5) (mf := rf3 r 2 2 3) (fun h9 => by have h8 := jx_in (q := p1) h9; rw [e] at h8; exact (congrArg (rf3 r 2 2 3) h8.symm).trans rfl) (fun h9 => by have h8 := kx_in (p := p0) h9; rw [f] at h8; exact (congrArg (rf3 r 2 2 3) h8.symm).trans rfl) h0) rfl rfl rfl rfl (by decide) ?_
      rintro o w hp
      cases x0 with
      | inl z =>
        obtain ⟨g, e1, e2⟩ := PX.inl hp
        subst e1; subst e2
        exact ⟨_, [21, 22, 23, 24, 25, 26, 0, 1, 2, 3, 4, 5, 6, 7, 8, 9, 10, 11, 12, 13, 14, 15, 16, 17, 18, 19, 20], PX.mk g rfl rfl, rfl, rfl⟩
      | inr E =>
        obtain ⟨e1, e2⟩ := PX.inr hp
        subst e1; subst e2
        exact ⟨_, [21, 22, 23, 24, 25, 26, 0, 1, 2, 3, 4, 5, 6, 7, 8, 9, 10, 11, 12, 13, 14, 15, 16, 17, 18, 19, 20], PX.er, rfl, rfl⟩
    · simp only [e, f] at h0 ⊢
      refine ok_fr (wc := [(r 0, .inr (7, [.ref (r 1), .ref (r 8), .ref (r 15), .ref (r 20), .ref (r 21), .ref (r 23), .ref (r 25)])), (r 1, .inl (1, 3, .inr (.inr (.inr (.inr (rf3 r 2 2 3)))))), (r 2, .inr (4, [.ref (r 3), .int (S.1 0).1])), (r 3, .inl (0, 2646, .inl (S.1 0).2)), (r 6, .inr (4, [.ref (r 7), .int (S.1 2).1])), (r 7, .inl (0, 2646, .inl (S.1 2).2))]) (wr := [(r 4, .inr (4, [.ref (r 5), .int (S.1 1).1])), (r 5, .inl (0, 2646, .inl (S.1 1).2)), (r 8, .inl (2, 3, .inr (.inr (.inr (.inr (rf3 r 9 2 3)))))), (r 9, .inr (3, [.int (S.2.1 0).1, .ref (r 10), .int (S.2.1 0).2.1])), (r 10, .inl (0, 21, .inl (S.2.1 0).2.2)), (r 11, .inr (3, [.int (S.2.1 1).1, .ref (r 12), .int (S.2.1 1).2.1])), (r 12, .inl (0, 21, .inl (S.2.1 1).2.2)), (r 13, .inr (3, [.int (S.2.1 2).1, .ref (r 14), .int (S.2.1 2).2.1])), (r 14, .inl (0, 21, .inl (S.2.1 2).2.2)), (r 15, .inl (3, 2, .inr (.inr (.inr (.inr (rf3 r 16 2 2)))))), (r 16, .inr (6, [.ref (r 17)])), (r 17, .inl (0, 21, .inl (S.2.2.1 0))), (r 18, .inr (6, [.ref (r 19)])), (r 19, .inl (0, 21, .inl (S.2.2.1 1))), (r 20, .inr (2, [.int (S.2.2.2.1 0), .int (S.2.2.2.1 1), .int (S.2.2.2.1 2), .int (S.2.2.2.1 3), .int (S.2.2.2.1 4), .int (S.2.2.2.1 5)])), (r 21, .inr (5, [.ref (r 22)])), (r 22, .inl (0, 21, .inl S.2.2.2.2.1)), (r 23, .inr (6, [.ref (r 24)])), (r 24, .inl (0, 21, .inl S.2.2.2.2.2.1)), (r 25, .inr (6, [.ref (r 26)])), (r 26, .inl (0, 21, .inl S.2.2.2.2.2.2))]) [0, 1, 2, 3, 6, 7] [4, 5, 8, 9, 10, 11, 12, 13, 14, 15, 16, 17, 18, 19, 20, 21, 22, 23, 24, 25, 26] (ok_X5_isSame (x := r 0) (M := r 1) (L := r 8) (Dk := r 15) (c := r 20) (se := r 21) (wk := r 23) (sp := r 25) (q := r 2) (a := r 3) (q2 := r 6) (a2 := r 7) (mf := rf3 r 2 2 3) (fun h9 => by have h8 := jx_in (q := p1) h9; rw [e] at h8; exact (congrArg (rf3 r 2 2 3) h8.symm).trans rfl) (fun h9 => by have h8 := kx_in (p := p0) h9; rw [f] at h8; exact (congrArg (rf3 r 2 2 3) h8.symm).trans rfl) h0) rfl rfl rfl rfl (by decide) ?_
      rintro o w hp
      cases x0 with
      | inl z =>
        obtain ⟨g, e1, e2⟩ := PX.inl hp
        subst e1; subst e2
        exact ⟨_, [21, 22, 23, 24, 0, 1, 25, 26, 2, 3, 4, 5, 6, 7, 8, 9, 10, 11, 12, 13, 14, 15, 16, 17, 18, 19, 20], PX.mk g rfl rfl, rfl, rfl⟩
      | inr E =>
        obtain ⟨e1, e2⟩ := PX.inr hp
        subst e1; subst e2
        exact ⟨_, [21, 22, 23, 24, 0, 1, 25, 26, 2, 3, 4, 5, 6, 7, 8, 9, 10, 11, 12, 13, 14, 15, 16, 17, 18, 19, 20], PX.er, rfl, rfl⟩
    · simp only [e, f] at h0 ⊢
      refine ok_fr (wc := [(r 0, .inr (7, [.ref (r 1), .ref (r 8), .ref (r 15), .ref (r 20), .ref (r 21), .ref (r 23), .ref (r 25)])), (r 1, .inl (1, 3, .inr (.inr (.inr (.inr (rf3 r 2 2 3)))))), (r 4, .inr (4, [.ref (r 5), .int (S.1 1).1])), (r 5, .inl (0, 2646, .inl (S.1 1).2)), (r 2, .inr (4, [.ref (r 3), .int (S.1 0).1])), (r 3, .inl (0, 2646, .inl (S.1 0).2))]) (wr := [(r 6, .inr (4, [.ref (r 7), .int (S.1 2).1])), (r 7, .inl (0, 2646, .inl (S.1 2).2)), (r 8, .inl (2, 3, .inr (.inr (.inr (.inr (rf3 r 9 2 3)))))), (r 9, .inr (3, [.int (S.2.1 0).1, .ref (r 10), .int (S.2.1 0).2.1])), (r 10, .inl (0, 21, .inl (S.2.1 0).2.2)), (r 11, .inr (3, [.int (S.2.1 1).1, .ref (r 12), .int (S.2.1 1).2.1])), (r 12, .inl (0, 21, .inl (S.2.1 1).2.2)), (r 13, .inr (3, [.int (S.2.1 2).1, .ref (r 14), .int (S.2.1 2).2.1])), (r 14, .inl (0, 21, .inl (S.2.1 2).2.2)), (r 15, .inl (3, 2, .inr (.inr (.inr (.inr (rf3 r 16 2 2)))))), (r 16, .inr (6, [.ref (r 17)])), (r 17, .inl (0, 21, .inl (S.2.2.1 0))), (r 18, .inr (6, [.ref (r 19)])), (r 19, .inl (0, 21, .inl (S.2.2.1 1))), (r 20, .inr (2, [.int (S.2.2.2.1 0), .int (S.2.2.2.1 1), .int (S.2.2.2.1 2), .int (S.2.2.2.1 3), .int (S.2.2.2.1 4), .int (S.2.2.2.1 5)])), (r 21, .inr (5, [.ref (r 22)])), (r 22, .inl (0, 21, .inl S.2.2.2.2.1)), (r 23, .inr (6, [.ref (r 24)])), (r 24, .inl (0, 21, .inl S.2.2.2.2.2.1)), (r 25, .inr (6, [.ref (r 26)])), (r 26, .inl (0, 21, .inl S.2.2.2.2.2.2))]) [0, 1, 4, 5, 2, 3] [6, 7, 8, 9, 10, 11, 12, 13, 14, 15, 16, 17, 18, 19, 20, 21, 22, 23, 24, 25, 26] (ok_X5_isSame (x := r 0) (M := r 1) (L := r 8) (Dk := r 15) (c := r 20) (se := r 21) (wk := r 23) (sp := r 25) (q := r 4) (a := r 5) (q2 := r 2) (a2 := r 3) (mf := rf3 r 2 2 3) (fun h9 => by have h8 := jx_in (q := p1) h9; rw [e] at h8; exact (congrArg (rf3 r 2 2 3) h8.symm).trans rfl) (fun h9 => by have h8 := kx_in (p := p0) h9; rw [f] at h8; exact (congrArg (rf3 r 2 2 3) h8.symm).trans rfl) h0) rfl rfl rfl rfl (by decide) ?_
      rintro o w hp
      cases x0 with
      | inl z =>
        obtain ⟨g, e1, e2⟩ := PX.inl hp
        subst e1; subst e2
        exact ⟨_, [21, 22, 25, 26, 23, 24, 0, 1, 2, 3, 4, 5, 6, 7, 8, 9, 10, 11, 12, 13, 14, 15, 16, 17, 18, 19, 20], PX.mk g rfl rfl, rfl, rfl⟩
      | inr E =>
        obtain ⟨e1, e2⟩ := PX.inr hp
        subst e1; subst e2
        exact ⟨_, [21, 22, 25, 26, 23, 24, 0, 1, 2, 3, 4, 5, 6, 7, 8, 9, 10, 11, 12, 13, 14, 15, 16, 17, 18, 19, 20], PX.er, rfl, rfl⟩
    · simp only [e, f] at h0 ⊢
      refine ok_fr (wc := [(r 0, .inr (7, [.ref (r 1), .ref (r 8), .ref (r 15), .ref (r 20), .ref (r 21), .ref (r 23), .ref (r 25)])), (r 1, .inl (1, 3, .inr (.inr (.inr (.inr (rf3 r 2 2 3)))))), (r 4, .inr (4, [.ref (r 5), .int (S.1 1).1])), (r 5, .inl (0, 2646, .inl (S.1 1).2)), (r 6, .inr (4, [.ref (r 7), .int (S.1 2).1])), (r 7, .inl (0, 2646, .inl (S.1 2).2))]) (wr := [(r 2, .inr (4, [.ref (r 3), .int (S.1 0).1])), (r 3, .inl (0, 2646, .inl (S.1 0).2)), (r 8, .inl (2, 3, .inr (.inr (.inr (.inr (rf3 r 9 2 3)))))), (r 9, .inr (3, [.int (S.2.1 0).1, .ref (r 10), .int (S.2.1 0).2.1])), (r 10, .inl (0, 21, .inl (S.2.1 0).2.2)), (r 11, .inr (3, [.int (S.2.1 1).1, .ref (r 12), .int (S.2.1 1).2.1])), (r 12, .inl (0, 21, .inl (S.2.1 1).2.2)), (r 13, .inr (3, [.int (S.2.1 2).1, .ref (r 14), .int (S.2.1 2).2.1])), (r 14, .inl (0, 21, .inl (S.2.1 2).2.2)), (r 15, .inl (3, 2, .inr (.inr (.inr (.inr (rf3 r 16 2 2)))))), (r 16, .inr (6, [.ref (r 17)])), (r 17, .inl (0, 21, .inl (S.2.2.1 0))), (r 18, .inr (6, [.ref (r 19)])), (r 19, .inl (0, 21, .inl (S.2.2.1 1))), (r 20, .inr (2, [.int (S.2.2.2.1 0), .int (S.2.2.2.1 1), .int (S.2.2.2.1 2), .int (S.2.2.2.1 3), .int (S.2.2.2.1 4), .int (S.2.2.2.1 5)])), (r 21, .inr (5, [.ref (r 22)])), (r 22, .inl (0, 21, .inl S.2.2.2.2.1)), (r 23, .inr (6, [.ref (r 24)])), (r 24, .inl (0, 21, .inl S.2.2.2.2.2.1)), (r 25, .inr (6, [.ref (r 26)])), (r 26, .inl (0, 21, .inl S.2.2.2.2.2.2))]) [0, 1, 4, 5, 6, 7] [2, 3, 8, 9, 10, 11, 12, 13, 14, 15, 16, 17, 18, 19, 20, 21, 22, 23, 24, 25, 26] (ok_X5_isSame (x := r 0) (M := r 1) (L := r 8) (Dk := r 15) (c := r 20) (se := r 21) (wk := r 23) (sp := r 25) (q := r 4) (a := r 5) (q2 := r 6) (a2 := r 7) (mf := rf3 r 2 2 3) (fun h9 => by have h8 := jx_in (q := p1) h9; rw [e] at h8; exact (congrArg (rf3 r 2 2 3) h8.symm).trans rfl) (fun h9 => by have h8 := kx_in (p := p0) h9; rw [f] at h8; exact (congrArg (rf3 r 2 2 3) h8.symm).trans rfl) h0) rfl rfl rfl rfl (by decide) ?_
      rintro o w hp
      cases x0 with
      | inl z =>
        obtain ⟨g, e1, e2⟩ := PX.inl hp
        subst e1; subst e2
        exact ⟨_, [21, 22, 0, 1, 23, 24, 25, 26, 2, 3, 4, 5, 6, 7, 8, 9, 10, 11, 12, 13, 14, 15, 16, 17, 18, 19, 20], PX.mk g rfl rfl, rfl, rfl⟩
      | inr E =>
        obtain ⟨e1, e2⟩ := PX.inr hp
        subst e1; subst e2
        exact ⟨_, [21, 22, 0, 1, 23, 24, 25, 26, 2, 3, 4, 5, 6, 7, 8, 9, 10, 11, 12, 13, 14, 15, 16, 17, 18, 19, 20], PX.er, rfl, rfl⟩
    · simp only [e, f] at h0 ⊢
      refine ok_fr (wc := [(r 0, .inr (7, [.ref (r 1), .ref (r 8), .ref (r 15), .ref (r 20), .ref (r 21), .ref (r 23), .ref (r 25)])), (r 1, .inl (1, 3, .inr (.inr (.inr (.inr (rf3 r 2 2 3)))))), (r 6, .inr (4, [.ref (r 7), .int (S.1 2).1])), (r 7, .inl (0, 2646, .inl (S.1 2).2)), (r 2, .inr (4, [.ref (r 3), .int (S.1 0).1])), (r 3, .inl (0, 2646, .inl (S.1 0).2))]) (wr := [(r 4, .inr (4, [.ref (r 5), .int (S.1 1).1])), (r 5, .inl (0, 2646, .inl (S.1 1).2)), (r 8, .inl (2, 3, .inr (.inr (.inr (.inr (rf3 r 9 2 3)))))), (r 9, .inr (3, [.int (S.2.1 0).1, .ref (r 10), .int (S.2.1 0).2.1])), (r 10, .inl (0, 21, .inl (S.2.1 0).2.2)), (r 11, .inr (3, [.int (S.2.1 1).1, .ref (r 12), .int (S.2.1 1).2.1])), (r 12, .inl (0, 21, .inl (S.2.1 1).2.2)), (r 13, .inr (3, [.int (S.2.1 2).1, .ref (r 14), .int (S.2.1 2).2.1])), (r 14, .inl (0, 21, .inl (S.2.1 2).2.2)), (r 15, .inl (3, 2, .inr (.inr (.inr (.inr (rf3 r 16 2 2)))))), (r 16, .inr (6, [.ref (r 17)])), (r 17, .inl (0, 21, .inl (S.2.2.1 0))), (r 18, .inr (6, [.ref (r 19)])), (r 19, .inl (0, 21, .inl (S.2.2.1 1))), (r 20, .inr (2, [.int (S.2.2.2.1 0), .int (S.2.2.2.1 1), .int (S.2.2.2.1 2), .int (S.2.2.2.1 3), .int (S.2.2.2.1 4), .int (S.2.2.2.1 5)])), (r 21, .inr (5, [.ref (r 22)])), (r 22, .inl (0, 21, .inl S.2.2.2.2.1)), (r 23, .inr (6, [.ref (r 24)])), (r 24, .inl (0, 21, .inl S.2.2.2.2.2.1)), (r 25, .inr (6, [.ref (r 26)])), (r 26, .inl (0, 21, .inl S.2.2.2.2.2.2))]) [0, 1, 6, 7, 2, 3] [4, 5, 8, 9, 10, 11, 12, 13, 14, 15, 16, 17, 18, 19, 20, 21, 22, 23, 24, 25, 26] (ok_X5_isSame (x := r 0) (M := r 1) (L := r 8) (Dk := r 15) (c := r 20) (se := r 21) (wk := r 23) (sp := r 25) (q := r 6) (a := r 7) (q2 := r 2) (a2 := r 3) (mf := rf3 r 2 2 3) (fun h9 => by have h8 := jx_in (q := p1) h9; rw [e] at h8; exact (congrArg (rf3 r 2 2 3) h8.symm).trans rfl) (fun h9 => by have h8 := kx_in (p := p0) h9; rw [f] at h8; exact (congrArg (rf3 r 2 2 3) h8.symm).trans rfl) h0) rfl rfl rfl rfl (by decide) ?_
      rintro o w hp
      cases x0 with
      | inl z =>
        obtain ⟨g, e1, e2⟩ := PX.inl hp
        subst e1; subst e2
        exact ⟨_, [21, 22, 25, 26, 0, 1, 23, 24, 2, 3, 4, 5, 6, 7, 8, 9, 10, 11, 12, 13, 14, 15, 16, 17, 18, 19, 20], PX.mk g rfl rfl, rfl, rfl⟩
      | inr E =>
        obtain ⟨e1, e2⟩ := PX.inr hp
        subst e1; subst e2
        exact ⟨_, [21, 22, 25, 26, 0, 1, 23, 24, 2, 3, 4, 5, 6, 7, 8, 9, 10, 11, 12, 13, 14, 15, 16, 17, 18, 19, 20], PX.er, rfl, rfl⟩
    · simp only [e, f] at h0 ⊢
      refine ok_fr (wc := [(r 0, .inr (7, [.ref (r 1), .ref (r 8), .ref (r 15), .ref (r 20), .ref (r 21), .ref (r 23), .ref (r 25)])), (r 1, .inl (1, 3, .inr (.inr (.inr (.inr (rf3 r 2 2 3)))))), (r 6, .inr (4, [.ref (r 7), .int (S.1 2).1])), (r 7, .inl (0, 2646, .inl (S.1 2).2)), (r 4, .inr (4, [.ref (r 5), .int (S.1 1).1])), (r 5, .inl (0, 2646, .inl (S.1 1).2))]) (wr := [(r 2, .inr (4, [.ref (r 3), .int (S.1 0).1])), (r 3, .inl (0, 2646, .inl (S.1 0).2)), (r 8, .inl (2, 3, .inr (.inr (.inr (.inr (rf3 r 9 2 3)))))), (r 9, .inr (3, [.int (S.2.1 0).1, .ref (r 10), .int (S.2.1 0).2.1])), (r 10, .inl (0, 21, .inl (S.2.1 0).2.2)), (r 11, .inr (3, [.int (S.2.1 1).1, .ref (r 12), .int (S.2.1 1).2.1])), (r 12, .inl (0, 21, .inl (S.2.1 1).2.2)), (r 13, .inr (3, [.int (S.2.1 2).1, .ref (r 14), .int (S.2.1 2).2.1])), (r 14, .inl (0, 21, .inl (S.2.1 2).2.2)), (r 15, .inl (3, 2, .inr (.inr (.inr (.inr (rf3 r 16 2 2)))))), (r 16, .inr (6, [.ref (r 17)])), (r 17, .inl (0, 21, .inl (S.2.2.1 0))), (r 18, .inr (6, [.ref (r 19)])), (r 19, .inl (0, 21, .inl (S.2.2.1 1))), (r 20, .inr (2, [.int (S.2.2.2.1 0), .int (S.2.2.2.1 1), .int (S.2.2.2.1 2), .int (S.2.2.2.1 3), .int (S.2.2.2.1 4), .int (S.2.2.2.1 5)])), (r 21, .inr (5, [.ref (r 22)])), (r 22, .inl (0, 21, .inl S.2.2.2.2.1)), (r 23, .inr (6, [.ref (r 24)])), (r 24, .inl (0, 21, .inl S.2.2.2.2.2.1)), (r 25, .inr (6, [.ref (r 26)])), (r 26, .inl (0, 21, .inl S.2.2.2.2.2.2))]) [0, 1, 6, 7, 4, 5] [2, 3, 8, 9, 10, 11, 12, 13, 14, 15, 16, 17, 18, 19, 20, 21, 22, 23, 24, 25, 26] (ok_X5_isSame (x := r 0) (M := r 1) (L := r 8) (Dk := r 15) (c := r 20) (se := r 21) (wk := r 23) (sp := r 25) (q := r 6) (a := r 7) (q2 := r 4) (a2 := r 5) (mf := rf3 r 2 2 3) (fun h9 => by have h8 := jx_in (q := p1) h9; rw [e] at h8; exact (congrArg (rf3 r 2 2 3) h8.symm).trans rfl) (fun h9 => by have h8 := kx_in (p := p0) h9; rw [f] at h8; exact (congrArg (rf3 r 2 2 3) h8.symm).trans rfl) h0) rfl rfl rfl rfl (by decide) ?_
      rintro o w hp
      cases x0 with
      | inl z =>
        obtain ⟨g, e1, e2⟩ := PX.inl hp
        subst e1; subst e2
        exact ⟨_, [21, 22, 0, 1, 25, 26, 23, 24, 2, 3, 4, 5, 6, 7, 8, 9, 10, 11, 12, 13, 14, 15, 16, 17, 18, 19, 20], PX.mk g rfl rfl, rfl, rfl⟩
      | inr E =>
        obtain ⟨e1, e2⟩ := PX.inr hp
        subst e1; subst e2
        exact ⟨_, [21, 22, 0, 1, 25, 26, 23, 24, 2, 3, 4, 5, 6, 7, 8, 9, 10, 11, 12, 13, 14, 15, 16, 17, 18, 19, 20], PX.er, rfl, rfl⟩
def gX_walk (N K : Nat) (S : CS) (p0 : Int32) (p1 : Int32) (p2 : Int32) : Option ((Int32 × CS) ⊕ String) := (fX5_walk N K S.2.2.2.2.2.1 S.2.2.2.2.2.2 p0 p1 p2).map (fun o => match o with | .inl z => .inl (z.1, (S.1, S.2.1, S.2.2.1, S.2.2.2.1, S.2.2.2.2.1, z.2.1, z.2.2)) | .inr E => .inr E)
set_option maxHeartbeats 4000000 in
set_option maxRecDepth 100000 in
theorem ogX_walk {N K : Nat} {r : Nat → Nat} {S : CS} {p0 : Int32} {p1 : Int32} {p2 : Int32} {x : (Int32 × CS) ⊕ String} (hE : gX_walk N K S p0 p1 p2 = some x) : OkM yX5_walk (.code yX5_walk cX5_walk 4 (some .int)) (10) 3 18 [.ref (r 0), .int p0, .int p1, .int p2] (WX r S) ((PX (U := Int32 × CS) (fun z _ => some (.int z.1)) (fun z _ => WX r z.2) (WX r S)) x) := by
  unfold gX_walk at hE
  obtain ⟨x0, h0, h1⟩ := Option.map_eq_some_iff.mp hE
  subst h1
  clear hE
  refine ok_fr (wc := [(r 0, .inr (7, [.ref (r 1), .ref (r 8), .ref (r 15), .ref (r 20), .ref (r 21), .ref (r 23), .ref (r 25)])), (r 23, .inr (6, [.ref (r 24)])), (r 24, .inl (0, 21, .inl S.2.2.2.2.2.1)), (r 25, .inr (6, [.ref (r 26)])), (r 26, .inl (0, 21, .inl S.2.2.2.2.2.2))]) (wr := [(r 1, .inl (1, 3, .inr (.inr (.inr (.inr (rf3 r 2 2 3)))))), (r 2, .inr (4, [.ref (r 3), .int (S.1 0).1])), (r 3, .inl (0, 2646, .inl (S.1 0).2)), (r 4, .inr (4, [.ref (r 5), .int (S.1 1).1])), (r 5, .inl (0, 2646, .inl (S.1 1).2)), (r 6, .inr (4, [.ref (r 7), .int (S.1 2).1])), (r 7, .inl (0, 2646, .inl (S.1 2).2)), (r 8, .inl (2, 3, .inr (.inr (.inr (.inr (rf3 r 9 2 3)))))), (r 9, .inr (3, [.int (S.2.1 0).1, .ref (r 10), .int (S.2.1 0).2.1])), (r 10, .inl (0, 21, .inl (S.2.1 0).2.2)), (r 11, .inr (3, [.int (S.2.1 1).1, .ref (r 12), .int (S.2.1 1).2.1])), (r 12, .inl (0, 21, .inl (S.2.1 1).2.2)), (r 13, .inr (3, [.int (S.2.1 2).1, .ref (r 14), .int (S.2.1 2).2.1])), (r 14, .inl (0, 21, .inl (S.2.1 2).2.2)), (r 15, .inl (3, 2, .inr (.inr (.inr (.inr (rf3 r 16 2 2)))))), (r 16, .inr (6, [.ref (r 17)])), (r 17, .inl (0, 21, .inl (S.2.2.1 0))), (r 18, .inr (6, [.ref (r 19)])), (r 19, .inl (0, 21, .inl (S.2.2.1 1))), (r 20, .inr (2, [.int (S.2.2.2.1 0), .int (S.2.2.2.1 1), .int (S.2.2.2.1 2), .int (S.2.2.2.1 3), .int (S.2.2.2.1 4), .int (S.2.2.2.1 5)])), (r 21, .inr (5, [.ref (r 22)])), (r 22, .inl (0, 21, .inl S.2.2.2.2.1))]) [0, 23, 24, 25, 26] [1, 2, 3, 4, 5, 6, 7, 8, 9, 10, 11, 12, 13, 14, 15, 16, 17, 18, 19, 20, 21, 22] (ok_X5_walk (x := r 0) (M := r 1) (L := r 8) (Dk := r 15) (c := r 20) (se := r 21) (wk := r 23) (sp := r 25) (wa := r 24) (sa := r 26) h0) rfl rfl rfl rfl (by decide) ?_
  rintro o w hp
  cases x0 with
  | inl z =>
    obtain ⟨g, e1, e2⟩ := PX.inl hp
    subst e1; subst e2
    exact ⟨_, [22, 0, 1, 2, 3, 4, 5, 6, 7, 8, 9, 10, 11, 12, 13, 14, 15, 16, 17, 18, 19, 20, 21, 23, 24, 25, 26], PX.mk g rfl rfl, rfl, rfl⟩
  | inr E =>
    obtain ⟨e1, e2⟩ := PX.inr hp
    subst e1; subst e2
    exact ⟨_, [22, 0, 1, 2, 3, 4, 5, 6, 7, 8, 9, 10, 11, 12, 13, 14, 15, 16, 17, 18, 19, 20, 21, 23, 24, 25, 26], PX.er, rfl, rfl⟩
def gX_product (N K : Nat) (S : CS) (p0 : Int32) (p1 : Int32) (p2 : Int32) : Option ((Int32 × CS) ⊕ String) := (fX5_product N K S.2.2.2.2.1 p0 p1 p2).map (fun o => match o with | .inl z => .inl (z.1, (S.1, S.2.1, S.2.2.1, S.2.2.2.1, z.2, S.2.2.2.2.2.1, S.2.2.2.2.2.2)) | .inr E => .inr E)
set_option maxHeartbeats 4000000 in
set_option maxRecDepth 100000 in
theorem ogX_product {N K : Nat} {r : Nat → Nat} {S : CS} {p0 : Int32} {p1 : Int32} {p2 : Int32} {x : (Int32 × CS) ⊕ String} (hE : gX_product N K S p0 p1 p2 = some x) : OkM yX5_product (.code yX5_product cX5_product 4 (some .int)) (10) 3 18 [.ref (r 0), .int p0, .int p1, .int p2] (WX r S) ((PX (U := Int32 × CS) (fun z _ => some (.int z.1)) (fun z _ => WX r z.2) (WX r S)) x) := by
  unfold gX_product at hE
  obtain ⟨x0, h0, h1⟩ := Option.map_eq_some_iff.mp hE
  subst h1
  clear hE
  refine ok_fr (wc := [(r 0, .inr (7, [.ref (r 1), .ref (r 8), .ref (r 15), .ref (r 20), .ref (r 21), .ref (r 23), .ref (r 25)])), (r 21, .inr (5, [.ref (r 22)])), (r 22, .inl (0, 21, .inl S.2.2.2.2.1))]) (wr := [(r 1, .inl (1, 3, .inr (.inr (.inr (.inr (rf3 r 2 2 3)))))), (r 2, .inr (4, [.ref (r 3), .int (S.1 0).1])), (r 3, .inl (0, 2646, .inl (S.1 0).2)), (r 4, .inr (4, [.ref (r 5), .int (S.1 1).1])), (r 5, .inl (0, 2646, .inl (S.1 1).2)), (r 6, .inr (4, [.ref (r 7), .int (S.1 2).1])), (r 7, .inl (0, 2646, .inl (S.1 2).2)), (r 8, .inl (2, 3, .inr (.inr (.inr (.inr (rf3 r 9 2 3)))))), (r 9, .inr (3, [.int (S.2.1 0).1, .ref (r 10), .int (S.2.1 0).2.1])), (r 10, .inl (0, 21, .inl (S.2.1 0).2.2)), (r 11, .inr (3, [.int (S.2.1 1).1, .ref (r 12), .int (S.2.1 1).2.1])), (r 12, .inl (0, 21, .inl (S.2.1 1).2.2)), (r 13, .inr (3, [.int (S.2.1 2).1, .ref (r 14), .int (S.2.1 2).2.1])), (r 14, .inl (0, 21, .inl (S.2.1 2).2.2)), (r 15, .inl (3, 2, .inr (.inr (.inr (.inr (rf3 r 16 2 2)))))), (r 16, .inr (6, [.ref (r 17)])), (r 17, .inl (0, 21, .inl (S.2.2.1 0))), (r 18, .inr (6, [.ref (r 19)])), (r 19, .inl (0, 21, .inl (S.2.2.1 1))), (r 20, .inr (2, [.int (S.2.2.2.1 0), .int (S.2.2.2.1 1), .int (S.2.2.2.1 2), .int (S.2.2.2.1 3), .int (S.2.2.2.1 4), .int (S.2.2.2.1 5)])), (r 23, .inr (6, [.ref (r 24)])), (r 24, .inl (0, 21, .inl S.2.2.2.2.2.1)), (r 25, .inr (6, [.ref (r 26)])), (r 26, .inl (0, 21, .inl S.2.2.2.2.2.2))]) [0, 21, 22] [1, 2, 3, 4, 5, 6, 7, 8, 9, 10, 11, 12, 13, 14, 15, 16, 17, 18, 19, 20, 23, 24, 25, 26] (ok_X5_product (x := r 0) (M := r 1) (L := r 8) (Dk := r 15) (c := r 20) (se := r 21) (wk := r 23) (sp := r 25) (sr := r 22) h0) rfl rfl rfl rfl (by decide) ?_
  rintro o w hp
  cases x0 with
  | inl z =>
    obtain ⟨g, e1, e2⟩ := PX.inl hp
    subst e1; subst e2
    exact ⟨_, [24, 0, 1, 2, 3, 4, 5, 6, 7, 8, 9, 10, 11, 12, 13, 14, 15, 16, 17, 18, 19, 25, 26, 20, 21, 22, 23], PX.mk g rfl rfl, rfl, rfl⟩
  | inr E =>
    obtain ⟨e1, e2⟩ := PX.inr hp
    subst e1; subst e2
    exact ⟨_, [24, 0, 1, 2, 3, 4, 5, 6, 7, 8, 9, 10, 11, 12, 13, 14, 15, 16, 17, 18, 19, 25, 26, 20, 21, 22, 23], PX.er, rfl, rfl⟩

end MG_41aadx
section MG_41badx
def gX_rule (N K : Nat) (S : CS) (p0 : Int32) (p1 : Int32) : Option ((Int32 × CS) ⊕ String) := (fX5_rule N K ((S.2.1 (ix 3 p0)).1) ((S.2.1 (ix 3 p0)).2.1) ((S.2.1 (ix 3 p0)).2.2) (S.2.2.2.1 0) (S.2.2.2.1 1) (S.2.2.2.1 2) (S.2.2.2.1 3) (S.2.2.2.1 4) (S.2.2.2.1 5) p0 p1).map (fun o => match o with | .inl z => .inl (z.1, (S.1, (upm S.2.1 (ix 3 p0) ((S.2.1 (ix 3 p0)).1, z.2.1, z.2.2.1)), S.2.2.1, (upm (upm (upm (upm S.2.2.2.1 0 z.2.2.2.1) 1 z.2.2.2.2.1) 2 z.2.2.2.2.2.1) 3 z.2.2.2.2.2.2), S.2.2.2.2.1, S.2.2.2.2.2.1, S.2.2.2.2.2.2)) | .inr E => .inr E)
set_option maxHeartbeats 4000000 in
set_option maxRecDepth 100000 in
theorem ogX_rule {N K : Nat} {r : Nat → Nat} {S : CS} {p0 : Int32} {p1 : Int32} {x : (Int32 × CS) ⊕ String} (hE : gX_rule N K S p0 p1 = some x) : OkM yX5_rule (.code yX5_rule cX5_rule 4 (some .int)) (2 * K + 9) 2 12 [.ref (r 0), .int p0, .int p1] (WX r S) ((PX (U := Int32 × CS) (fun z _ => some (.int z.1)) (fun z _ => WX r z.2) (WX r S)) x) := by
  unfold gX_rule at hE
  obtain ⟨x0, h0, h1⟩ := Option.map_eq_some_iff.mp hE
  subst h1
  clear hE
  rcases lt3 (ix_lt (n := 3) (p := p0) (by decide)) with e | e | e
  · rw [e] at h0
    try rw [e]
    refine ok_fr (wc := [(r 0, .inr (7, [.ref (r 1), .ref (r 8), .ref (r 15), .ref (r 20), .ref (r 21), .ref (r 23), .ref (r 25)])), (r 8, .inl (2, 3, .inr (.inr (.inr (.inr (rf3 r 9 2 3)))))), (r 9, .inr (3, [.int (S.2.1 0).1, .ref (r 10), .int (S.2.1 0).2.1])), (r 10, .inl (0, 21, .inl (S.2.1 0).2.2)), (r 20, .inr (2, [.int (S.2.2.2.1 0), .int (S.2.2.2.1 1), .int (S.2.2.2.1 2), .int (S.2.2.2.1 3), .int (S.2.2.2.1 4), .int (S.2.2.2.1 5)]))]) (wr := [(r 1, .inl (1, 3, .inr (.inr (.inr (.inr (rf3 r 2 2 3)))))), (r 2, .inr (4, [.ref (r 3), .int (S.1 0).1])), (r 3, .inl (0, 2646, .inl (S.1 0).2)), (r 4, .inr (4, [.ref (r 5), .int (S.1 1).1])), (r 5, .inl (0, 2646, .inl (S.1 1).2)), (r 6, .inr (4, [.ref (r 7), .int (S.1 2).1])), (r 7, .inl (0, 2646, .inl (S.1 2).2)), (r 11, .inr (3, [.int (S.2.1 1).1, .ref (r 12), .int (S.2.1 1).2.1])), (r 12, .inl (0, 21, .inl (S.2.1 1).2.2)), (r 13, .inr (3, [.int (S.2.1 2).1, .ref (r 14), .int (S.2.1 2).2.1])), (r 14, .inl (0, 21, .inl (S.2.1 2).2.2)), (r 15, .inl (3, 2, .inr (.inr (.inr (.inr (rf3 r 16 2 2)))))), (r 16, .inr (6, [.ref (r 17)])), (r 17, .inl (0, 21, .inl (S.2.2.1 0))), (r 18, .inr (6, [.ref (r 19)])), (r 19, .inl (0, 21, .inl (S.2.2.1 1))), (r 21, .inr (5, [.ref (r 22)])), (r 22, .inl (0, 21, .inl S.2.2.2.2.1)), (r 23, .inr (6, [.ref (r 24)])), (r 24, .inl (0, 21, .inl S.2.2.2.2.2.1)), (r 25, .inr (6, [.ref (r 26)])), (r 26, .inl (0, 21, .inl S.2.2.2.2.2.2))]) [0, 8, 9, 10, 20] [1, 2, 3, 4, 5, 6, 7, 11, 12, 13, 14, 15, 16, 17, 18, 19, 21, 22, 23, 24, 25, 26] (ok_X5_rule (x := r 0) (M := r 1) (L := r 8) (Dk := r 15) (c := r 20) (se := r 21) (wk := r 23) (sp := r 25) (h := r 9) (a := r 10) (lf := rf3 r 9 2 3) (fun h9 => by have h8 := ix_in h9; rw [e] at h8; exact (congrArg (rf3 r 9 2 3) h8.symm).trans rfl) h0) rfl rfl rfl rfl (by decide) ?_
    rintro o w hp
    cases x0 with
    | inl z =>
      obtain ⟨g, e1, e2⟩ := PX.inl hp
      subst e1; subst e2
      exact ⟨_, [22, 0, 1, 2, 3, 4, 5, 6, 23, 24, 25, 7, 8, 9, 10, 11, 12, 13, 14, 15, 26, 16, 17, 18, 19, 20, 21], PX.mk g rfl rfl, rfl, rfl⟩
    | inr E =>
      obtain ⟨e1, e2⟩ := PX.inr hp
      subst e1; subst e2
      exact ⟨_, [22, 0, 1, 2, 3, 4, 5, 6, 23, 24, 25, 7, 8, 9, 10, 11, 12, 13, 14, 15, 26, 16, 17, 18, 19, 20, 21], PX.er, rfl, rfl⟩
  · rw [e] at h0
    try rw [e]
    refine ok_fr (wc := [(r 0, .inr (7, [.ref (r 1), .ref (r 8), .ref (r 15), .ref (r 20), .ref (r 21), .ref (r 23), .ref (r 25)])), (r 8, .inl (2, 3, .inr (.inr (.inr (.inr (rf3 r 9 2 3)))))), (r 11, .inr (3, [.int (S.2.1 1).1, .ref (r 12), .int (S.2.1 1).2.1])), (r 12, .inl (0, 21, .inl (S.2.1 1).2.2)), (r 20, .inr (2, [.int (S.2.2.2.1 0), .int (S.2.2.2.1 1), .int (S.2.2.2.1 2), .int (S.2.2.2.1 3), .int (S.2.2.2.1 4), .int (S.2.2.2.1 5)]))]) (wr := [(r 1, .inl (1, 3, .inr (.inr (.inr (.inr (rf3 r 2 2 3)))))), (r 2, .inr (4, [.ref (r 3), .int (S.1 0).1])), (r 3, .inl (0, 2646, .inl (S.1 0).2)), (r 4, .inr (4, [.ref (r 5), .int (S.1 1).1])), (r 5, .inl (0, 2646, .inl (S.1 1).2)), (r 6, .inr (4, [.ref (r 7), .int (S.1 2).1])), (r 7, .inl (0, 2646, .inl (S.1 2).2)), (r 9, .inr (3, [.int (S.2.1 0).1, .ref (r 10), .int (S.2.1 0).2.1])), (r 10, .inl (0, 21, .inl (S.2.1 0).2.2)), (r 13, .inr (3, [.int (S.2.1 2).1, .ref (r 14), .int (S.2.1 2).2.1])), (r 14, .inl (0, 21, .inl (S.2.1 2).2.2)), (r 15, .inl (3, 2, .inr (.inr (.inr (.inr (rf3 r 16 2 2)))))), (r 16, .inr (6, [.ref (r 17)])), (r 17, .inl (0, 21, .inl (S.2.2.1 0))), (r 18, .inr (6, [.ref (r 19)])), (r 19, .inl (0, 21, .inl (S.2.2.1 1))), (r 21, .inr (5, [.ref (r 22)])), (r 22, .inl (0, 21, .inl S.2.2.2.2.1)), (r 23, .inr (6, [.ref (r 24)])), (r 24, .inl (0, 21, .inl S.2.2.2.2.2.1)), (r 25, .inr (6, [.ref (r 26)])), (r 26, .inl (0, 21, .inl S.2.2.2.2.2.2))]) [0, 8, 11, 12, 20] [1, 2, 3, 4, 5, 6, 7, 9, 10, 13, 14, 15, 16, 17, 18, 19, 21, 22, 23, 24, 25, 26] (ok_X5_rule (x := r 0) (M := r 1) (L := r 8) (Dk := r 15) (c := r 20) (se := r 21) (wk := r 23) (sp := r 25) (h := r 11) (a := r 12) (lf := rf3 r 9 2 3) (fun h9 => by have h8 := ix_in h9; rw [e] at h8; exact (congrArg (rf3 r 9 2 3) h8.symm).trans rfl) h0) rfl rfl rfl rfl (by decide) ?_
    rintro o w hp
    cases x0 with
    | inl z =>
      obtain ⟨g, e1, e2⟩ := PX.inl hp
      subst e1; subst e2
      exact ⟨_, [22, 0, 1, 2, 3, 4, 5, 6, 23, 7, 8, 24, 25, 9, 10, 11, 12, 13, 14, 15, 26, 16, 17, 18, 19, 20, 21], PX.mk g rfl rfl, rfl, rfl⟩
    | inr E =>
      obtain ⟨e1, e2⟩ := PX.inr hp
      subst e1; subst e2
      exact ⟨_, [22, 0, 1, 2, 3, 4, 5, 6, 23, 7, 8, 24, 25, 9, 10, 11, 12, 13, 14, 15, 26, 16, 17, 18, 19, 20, 21], PX.er, rfl, rfl⟩
  · rw [e] at h0
    try rw [e]
    refine ok_fr (wc := [(r 0, .inr (7, [.ref (r 1), .ref (r 8), .ref (r 15), .ref (r 20), .ref (r 21), .ref (r 23), .ref (r 25)])), (r 8, .inl (2, 3, .inr (.inr (.inr (.inr (rf3 r 9 2 3)))))), (r 13, .inr (3, [.int (S.2.1 2).1, .ref (r 14), .int (S.2.1 2).2.1])), (r 14, .inl (0, 21, .inl (S.2.1 2).2.2)), (r 20, .inr (2, [.int (S.2.2.2.1 0), .int (S.2.2.2.1 1), .int (S.2.2.2.1 2), .int (S.2.2.2.1 3), .int (S.2.2.2.1 4), .int (S.2.2.2.1 5)]))]) (wr := [(r 1, .inl (1, 3, .inr (.inr (.inr (.inr (rf3 r 2 2 3)))))), (r 2, .inr (4, [.ref (r 3), .int (S.1 0).1])), (r 3, .inl (0, 2646, .inl (S.1 0).2)), (r 4, .inr (4, [.ref (r 5), .int (S.1 1).1])), (r 5, .inl (0, 2646, .inl (S.1 1).2)), (r 6, .inr (4, [.ref (r 7), .int (S.1 2).1])), (r 7, .inl (0, 2646, .inl (S.1 2).2)), (r 9, .inr (3, [.int (S.2.1 0).1, .ref (r 10), .int (S.2.1 0).2.1])), (r 10, .inl (0, 21, .inl (S.2.1 0).2.2)), (r 11, .inr (3, [.int (S.2.1 1).1, .ref (r 12), .int (S.2.1 1).2.1])), (r 12, .inl (0, 21, .inl (S.2.1 1).2.2)), (r 15, .inl (3, 2, .inr (.inr (.inr (.inr (rf3 r 16 2 2)))))), (r 16, .inr (6, [.ref (r 17)])), (r 17, .inl (0, 21, .inl (S.2.2.1 0))), (r 18, .inr (6, [.ref (r 19)])), (r 19, .inl (0, 21, .inl (S.2.2.1 1))), (r 21, .inr (5, [.ref (r 22)])), (r 22, .inl (0, 21, .inl S.2.2.2.2.1)), (r 23, .inr (6, [.ref (r 24)])), (r 24, .inl (0, 21, .inl S.2.2.2.2.2.1)), (r 25, .inr (6, [.ref (r 26)])), (r 26, .inl (0, 21, .inl S.2.2.2.2.2.2))]) [0, 8, 13, 14, 20] [1, 2, 3, 4, 5, 6, 7, 9, 10, 11, 12, 15, 16, 17, 18, 19, 21, 22, 23, 24, 25, 26] (ok_X5_rule (x := r 0) (M := r 1) (L := r 8) (Dk := r 15) (c := r 20) (se := r 21) (wk := r 23) (sp := r 25) (h := r 13) (a := r 14) (lf := rf3 r 9 2 3) (fun h9 => by have h8 := ix_in h9; rw [e] at h8; exact (congrArg (rf3 r 9 2 3) h8.symm).trans rfl) h0) rfl rfl rfl rfl (by decide) ?_
    rintro o w hp
    cases x0 with
    | inl z =>
      obtain ⟨g, e1, e2⟩ := PX.inl hp
      subst e1; subst e2
      exact ⟨_, [22, 0, 1, 2, 3, 4, 5, 6, 23, 7, 8, 9, 10, 24, 25, 11, 12, 13, 14, 15, 26, 16, 17, 18, 19, 20, 21], PX.mk g rfl rfl, rfl, rfl⟩
    | inr E =>
      obtain ⟨e1, e2⟩ := PX.inr hp
      subst e1; subst e2
      exact ⟨_, [22, 0, 1, 2, 3, 4, 5, 6, 23, 7, 8, 9, 10, 24, 25, 11, 12, 13, 14, 15, 26, 16, 17, 18, 19, 20, 21], PX.er, rfl, rfl⟩
def gX_forgetRule (N K : Nat) (S : CS) (p0 : Int32) (p1 : Int32) : Option ((Int32 × CS) ⊕ String) := (fX5_forgetRule N K ((S.2.1 (ix 3 p0)).1) ((S.2.1 (ix 3 p0)).2.1) ((S.2.1 (ix 3 p0)).2.2) (S.2.2.2.1 0) (S.2.2.2.1 1) (S.2.2.2.1 2) (S.2.2.2.1 3) (S.2.2.2.1 4) (S.2.2.2.1 5) p0 p1).map (fun o => match o with | .inl z => .inl (z.1, (S.1, (upm S.2.1 (ix 3 p0) ((S.2.1 (ix 3 p0)).1, z.2.1, z.2.2.1)), S.2.2.1, (upm (upm S.2.2.2.1 0 z.2.2.2.1) 4 z.2.2.2.2), S.2.2.2.2.1, S.2.2.2.2.2.1, S.2.2.2.2.2.2)) | .inr E => .inr E)
set_option maxHeartbeats 4000000 in
set_option maxRecDepth 100000 in
theorem ogX_forgetRule {N K : Nat} {r : Nat → Nat} {S : CS} {p0 : Int32} {p1 : Int32} {x : (Int32 × CS) ⊕ String} (hE : gX_forgetRule N K S p0 p1 = some x) : OkM yX5_forgetRule (.code yX5_forgetRule cX5_forgetRule 5 (some .int)) (9) 2 12 [.ref (r 0), .int p0, .int p1] (WX r S) ((PX (U := Int32 × CS) (fun z _ => some (.int z.1)) (fun z _ => WX r z.2) (WX r S)) x) := by
  unfold gX_forgetRule at hE
  obtain ⟨x0, h0, h1⟩ := Option.map_eq_some_iff.mp hE
  subst h1
  clear hE
  rcases lt3 (ix_lt (n := 3) (p := p0) (by decide)) with e | e | e
  · rw [e] at h0
    try rw [e]
    refine ok_fr (wc := [(r 0, .inr (7, [.ref (r 1), .ref (r 8), .ref (r 15), .ref (r 20), .ref (r 21), .ref (r 23), .ref (r 25)])), (r 8, .inl (2, 3, .inr (.inr (.inr (.inr (rf3 r 9 2 3)))))), (r 9, .inr (3, [.int (S.2.1 0).1, .ref (r 10), .int (S.2.1 0).2.1])), (r 10, .inl (0, 21, .inl (S.2.1 0).2.2)), (r 20, .inr (2, [.int (S.2.2.2.1 0), .int (S.2.2.2.1 1), .int (S.2.2.2.1 2), .int (S.2.2.2.1 3), .int (S.2.2.2.1 4), .int (S.2.2.2.1 5)]))]) (wr := [(r 1, .inl (1, 3, .inr (.inr (.inr (.inr (rf3 r 2 2 3)))))), (r 2, .inr (4, [.ref (r 3), .int (S.1 0).1])), (r 3, .inl (0, 2646, .inl (S.1 0).2)), (r 4, .inr (4, [.ref (r 5), .int (S.1 1).1])), (r 5, .inl (0, 2646, .inl (S.1 1).2)), (r 6, .inr (4, [.ref (r 7), .int (S.1 2).1])), (r 7, .inl (0, 2646, .inl (S.1 2).2)), (r 11, .inr (3, [.int (S.2.1 1).1, .ref (r 12), .int (S.2.1 1).2.1])), (r 12, .inl (0, 21, .inl (S.2.1 1).2.2)), (r 13, .inr (3, [.int (S.2.1 2).1, .ref (r 14), .int (S.2.1 2).2.1])), (r 14, .inl (0, 21, .inl (S.2.1 2).2.2)), (r 15, .inl (3, 2, .inr (.inr (.inr (.inr (rf3 r 16 2 2)))))), (r 16, .inr (6, [.ref (r 17)])), (r 17, .inl (0, 21, .inl (S.2.2.1 0))), (r 18, .inr (6, [.ref (r 19)])), (r 19, .inl (0, 21, .inl (S.2.2.1 1))), (r 21, .inr (5, [.ref (r 22)])), (r 22, .inl (0, 21, .inl S.2.2.2.2.1)), (r 23, .inr (6, [.ref (r 24)])), (r 24, .inl (0, 21, .inl S.2.2.2.2.2.1)), (r 25, .inr (6, [.ref (r 26)])), (r 26, .inl (0, 21, .inl S.2.2.2.2.2.2))]) [0, 8, 9, 10, 20] [1, 2, 3, 4, 5, 6, 7, 11, 12, 13, 14, 15, 16, 17, 18, 19, 21, 22, 23, 24, 25, 26] (ok_X5_forgetRule (x := r 0) (M := r 1) (L := r 8) (Dk := r 15) (c := r 20) (se := r 21) (wk := r 23) (sp := r 25) (h := r 9) (a := r 10) (lf := rf3 r 9 2 3) (fun h9 => by have h8 := ix_in h9; rw [e] at h8; exact (congrArg (rf3 r 9 2 3) h8.symm).trans rfl) h0) rfl rfl rfl rfl (by decide) ?_
    rintro o w hp
    cases x0 with
    | inl z =>
      obtain ⟨g, e1, e2⟩ := PX.inl hp
      subst e1; subst e2
      exact ⟨_, [22, 0, 1, 2, 3, 4, 5, 6, 23, 24, 25, 7, 8, 9, 10, 11, 12, 13, 14, 15, 26, 16, 17, 18, 19, 20, 21], PX.mk g rfl rfl, rfl, rfl⟩
    | inr E =>
      obtain ⟨e1, e2⟩ := PX.inr hp
      subst e1; subst e2
      exact ⟨_, [22, 0, 1, 2, 3, 4, 5, 6, 23, 24, 25, 7, 8, 9, 10, 11, 12, 13, 14, 15, 26, 16, 17, 18, 19, 20, 21], PX.er, rfl, rfl⟩
  · rw [e] at h0
    try rw [e]
    refine ok_fr (wc := [(r 0, .inr (7, [.ref (r 1), .ref (r 8), .ref (r 15), .ref (r 20), .ref (r 21), .ref (r 23), .ref (r 25)])), (r 8, .inl (2, 3, .inr (.inr (.inr (.inr (rf3 r 9 2 3)))))), (r 11, .inr (3, [.int (S.2.1 1).1, .ref (r 12), .int (S.2.1 1).2.1])), (r 12, .inl (0, 21, .inl (S.2.1 1).2.2)), (r 20, .inr (2, [.int (S.2.2.2.1 0), .int (S.2.2.2.1 1), .int (S.2.2.2.1 2), .int (S.2.2.2.1 3), .int (S.2.2.2.1 4), .int (S.2.2.2.1 5)]))]) (wr := [(r 1, .inl (1, 3, .inr (.inr (.inr (.inr (rf3 r 2 2 3)))))), (r 2, .inr (4, [.ref (r 3), .int (S.1 0).1])), (r 3, .inl (0, 2646, .inl (S.1 0).2)), (r 4, .inr (4, [.ref (r 5), .int (S.1 1).1])), (r 5, .inl (0, 2646, .inl (S.1 1).2)), (r 6, .inr (4, [.ref (r 7), .int (S.1 2).1])), (r 7, .inl (0, 2646, .inl (S.1 2).2)), (r 9, .inr (3, [.int (S.2.1 0).1, .ref (r 10), .int (S.2.1 0).2.1])), (r 10, .inl (0, 21, .inl (S.2.1 0).2.2)), (r 13, .inr (3, [.int (S.2.1 2).1, .ref (r 14), .int (S.2.1 2).2.1])), (r 14, .inl (0, 21, .inl (S.2.1 2).2.2)), (r 15, .inl (3, 2, .inr (.inr (.inr (.inr (rf3 r 16 2 2)))))), (r 16, .inr (6, [.ref (r 17)])), (r 17, .inl (0, 21, .inl (S.2.2.1 0))), (r 18, .inr (6, [.ref (r 19)])), (r 19, .inl (0, 21, .inl (S.2.2.1 1))), (r 21, .inr (5, [.ref (r 22)])), (r 22, .inl (0, 21, .inl S.2.2.2.2.1)), (r 23, .inr (6, [.ref (r 24)])), (r 24, .inl (0, 21, .inl S.2.2.2.2.2.1)), (r 25, .inr (6, [.ref (r 26)])), (r 26, .inl (0, 21, .inl S.2.2.2.2.2.2))]) [0, 8, 11, 12, 20] [1, 2, 3, 4, 5, 6, 7, 9, 10, 13, 14, 15, 16, 17, 18, 19, 21, 22, 23, 24, 25, 26] (ok_X5_forgetRule (x := r 0) (M := r 1) (L := r 8) (Dk := r 15) (c := r 20) (se := r 21) (wk := r 23) (sp := r 25) (h := r 11) (a := r 12) (lf := rf3 r 9 2 3) (fun h9 => by have h8 := ix_in h9; rw [e] at h8; exact (congrArg (rf3 r 9 2 3) h8.symm).trans rfl) h0) rfl rfl rfl rfl (by decide) ?_
    rintro o w hp
    cases x0 with
    | inl z =>
      obtain ⟨g, e1, e2⟩ := PX.inl hp
      subst e1; subst e2
      exact ⟨_, [22, 0, 1, 2, 3, 4, 5, 6, 23, 7, 8, 24, 25, 9, 10, 11, 12, 13, 14, 15, 26, 16, 17, 18, 19, 20, 21], PX.mk g rfl rfl, rfl, rfl⟩
    | inr E =>
      obtain ⟨e1, e2⟩ := PX.inr hp
      subst e1; subst e2
      exact ⟨_, [22, 0, 1, 2, 3, 4, 5, 6, 23, 7, 8, 24, 25, 9, 10, 11, 12, 13, 14, 15, 26, 16, 17, 18, 19, 20, 21], PX.er, rfl, rfl⟩
  · rw [e] at h0
    try rw [e]
    refine ok_fr (wc := [(r 0, .inr (7, [.ref (r 1), .ref (r 8), .ref (r 15), .ref (r 20), .ref (r 21), .ref (r 23), .ref (r 25)])), (r 8, .inl (2, 3, .inr (.inr (.inr (.inr (rf3 r 9 2 3)))))), (r 13, .inr (3, [.int (S.2.1 2).1, .ref (r 14), .int (S.2.1 2).2.1])), (r 14, .inl (0, 21, .inl (S.2.1 2).2.2)), (r 20, .inr (2, [.int (S.2.2.2.1 0), .int (S.2.2.2.1 1), .int (S.2.2.2.1 2), .int (S.2.2.2.1 3), .int (S.2.2.2.1 4), .int (S.2.2.2.1 5)]))]) (wr := [(r 1, .inl (1, 3, .inr (.inr (.inr (.inr (rf3 r 2 2 3)))))), (r 2, .inr (4, [.ref (r 3), .int (S.1 0).1])), (r 3, .inl (0, 2646, .inl (S.1 0).2)), (r 4, .inr (4, [.ref (r 5), .int (S.1 1).1])), (r 5, .inl (0, 2646, .inl (S.1 1).2)), (r 6, .inr (4, [.ref (r 7), .int (S.1 2).1])), (r 7, .inl (0, 2646, .inl (S.1 2).2)), (r 9, .inr (3, [.int (S.2.1 0).1, .ref (r 10), .int (S.2.1 0).2.1])), (r 10, .inl (0, 21, .inl (S.2.1 0).2.2)), (r 11, .inr (3, [.int (S.2.1 1).1, .ref (r 12), .int (S.2.1 1).2.1])), (r 12, .inl (0, 21, .inl (S.2.1 1).2.2)), (r 15, .inl (3, 2, .inr (.inr (.inr (.inr (rf3 r 16 2 2)))))), (r 16, .inr (6, [.ref (r 17)])), (r 17, .inl (0, 21, .inl (S.2.2.1 0))), (r 18, .inr (6, [.ref (r 19)])), (r 19, .inl (0, 21, .inl (S.2.2.1 1))), (r 21, .inr (5, [.ref (r 22)])), (r 22, .inl (0, 21, .inl S.2.2.2.2.1)), (r 23, .inr (6, [.ref (r 24)])), (r 24, .inl (0, 21, .inl S.2.2.2.2.2.1)), (r 25, .inr (6, [.ref (r 26)])), (r 26, .inl (0, 21, .inl S.2.2.2.2.2.2))]) [0, 8, 13, 14, 20] [1, 2, 3, 4, 5, 6, 7, 9, 10, 11, 12, 15, 16, 17, 18, 19, 21, 22, 23, 24, 25, 26] (ok_X5_forgetRule (x := r 0) (M := r 1) (L := r 8) (Dk := r 15) (c := r 20) (se := r 21) (wk := r 23) (sp := r 25) (h := r 13) (a := r 14) (lf := rf3 r 9 2 3) (fun h9 => by have h8 := ix_in h9; rw [e] at h8; exact (congrArg (rf3 r 9 2 3) h8.symm).trans rfl) h0) rfl rfl rfl rfl (by decide) ?_
    rintro o w hp
    cases x0 with
    | inl z =>
      obtain ⟨g, e1, e2⟩ := PX.inl hp
      subst e1; subst e2
      exact ⟨_, [22, 0, 1, 2, 3, 4, 5, 6, 23, 7, 8, 9, 10, 24, 25, 11, 12, 13, 14, 15, 26, 16, 17, 18, 19, 20, 21], PX.mk g rfl rfl, rfl, rfl⟩
    | inr E =>
      obtain ⟨e1, e2⟩ := PX.inr hp
      subst e1; subst e2
      exact ⟨_, [22, 0, 1, 2, 3, 4, 5, 6, 23, 7, 8, 9, 10, 24, 25, 11, 12, 13, 14, 15, 26, 16, 17, 18, 19, 20, 21], PX.er, rfl, rfl⟩
def gX_ledger (N K : Nat) (S : CS) (p0 : Int32) (p1 : Int32) : Option ((Int32 × CS) ⊕ String) := (fX5_ledger N K ((S.2.1 (ix 3 p0)).1) ((S.2.1 (ix 3 p0)).2.1) ((S.2.1 (ix 3 p0)).2.2) p0 p1).map (fun o => match o with | .inl z => .inl (z, (S.1, S.2.1, S.2.2.1, S.2.2.2.1, S.2.2.2.2.1, S.2.2.2.2.2.1, S.2.2.2.2.2.2)) | .inr E => .inr E)
set_option maxHeartbeats 4000000 in
set_option maxRecDepth 100000 in
theorem ogX_ledger {N K : Nat} {r : Nat → Nat} {S : CS} {p0 : Int32} {p1 : Int32} {x : (Int32 × CS) ⊕ String} (hE : gX_ledger N K S p0 p1 = some x) : OkM yX5_ledger (.code yX5_ledger cX5_ledger 4 (some .int)) (9) 2 12 [.ref (r 0), .int p0, .int p1] (WX r S) ((PX (U := Int32 × CS) (fun z _ => some (.int z.1)) (fun z _ => WX r z.2) (WX r S)) x) := by
  unfold gX_ledger at hE
  obtain ⟨x0, h0, h1⟩ := Option.map_eq_some_iff.mp hE
  subst h1
  clear hE
  rcases lt3 (ix_lt (n := 3) (p := p0) (by decide)) with e | e | e
  · rw [e] at h0
    try rw [e]
    refine ok_fr (wc := [(r 0, .inr (7, [.ref (r 1), .ref (r 8), .ref (r 15), .ref (r 20), .ref (r 21), .ref (r 23), .ref (r 25)])), (r 8, .inl (2, 3, .inr (.inr (.inr (.inr (rf3 r 9 2 3)))))), (r 9, .inr (3, [.int (S.2.1 0).1, .ref (r 10), .int (S.2.1 0).2.1])), (r 10, .inl (0, 21, .inl (S.2.1 0).2.2))]) (wr := [(r 1, .inl (1, 3, .inr (.inr (.inr (.inr (rf3 r 2 2 3)))))), (r 2, .inr (4, [.ref (r 3), .int (S.1 0).1])), (r 3, .inl (0, 2646, .inl (S.1 0).2)), (r 4, .inr (4, [.ref (r 5), .int (S.1 1).1])), (r 5, .inl (0, 2646, .inl (S.1 1).2)), (r 6, .inr (4, [.ref (r 7), .int (S.1 2).1])), (r 7, .inl (0, 2646, .inl (S.1 2).2)), (r 11, .inr (3, [.int (S.2.1 1).1, .ref (r 12), .int (S.2.1 1).2.1])), (r 12, .inl (0, 21, .inl (S.2.1 1).2.2)), (r 13, .inr (3, [.int (S.2.1 2).1, .ref (r 14), .int (S.2.1 2).2.1])), (r 14, .inl (0, 21, .inl (S.2.1 2).2.2)), (r 15, .inl (3, 2, .inr (.inr (.inr (.inr (rf3 r 16 2 2)))))), (r 16, .inr (6, [.ref (r 17)])), (r 17, .inl (0, 21, .inl (S.2.2.1 0))), (r 18, .inr (6, [.ref (r 19)])), (r 19, .inl (0, 21, .inl (S.2.2.1 1))), (r 20, .inr (2, [.int (S.2.2.2.1 0), .int (S.2.2.2.1 1), .int (S.2.2.2.1 2), .int (S.2.2.2.1 3), .int (S.2.2.2.1 4), .int (S.2.2.2.1 5)])), (r 21, .inr (5, [.ref (r 22)])), (r 22, .inl (0, 21, .inl S.2.2.2.2.1)), (r 23, .inr (6, [.ref (r 24)])), (r 24, .inl (0, 21, .inl S.2.2.2.2.2.1)), (r 25, .inr (6, [.ref (r 26)])), (r 26, .inl (0, 21, .inl S.2.2.2.2.2.2))]) [0, 8, 9, 10] [1, 2, 3, 4, 5, 6, 7, 11, 12, 13, 14, 15, 16, 17, 18, 19, 20, 21, 22, 23, 24, 25, 26] (ok_X5_ledger (x := r 0) (M := r 1) (L := r 8) (Dk := r 15) (c := r 20) (se := r 21) (wk := r 23) (sp := r 25) (h := r 9) (a := r 10) (lf := rf3 r 9 2 3) (fun h9 => by have h8 := ix_in h9; rw [e] at h8; exact (congrArg (rf3 r 9 2 3) h8.symm).trans rfl) h0) rfl rfl rfl rfl (by decide) ?_
    rintro o w hp
    cases x0 with
    | inl z =>
      obtain ⟨g, e1, e2⟩ := PX.inl hp
      subst e1; subst e2
      exact ⟨_, [23, 0, 1, 2, 3, 4, 5, 6, 24, 25, 26, 7, 8, 9, 10, 11, 12, 13, 14, 15, 16, 17, 18, 19, 20, 21, 22], PX.mk g rfl rfl, rfl, rfl⟩
    | inr E =>
      obtain ⟨e1, e2⟩ := PX.inr hp
      subst e1; subst e2
      exact ⟨_, [23, 0, 1, 2, 3, 4, 5, 6, 24, 25, 26, 7, 8, 9, 10, 11, 12, 13, 14, 15, 16, 17, 18, 19, 20, 21, 22], PX.er, rfl, rfl⟩
  · rw [e] at h0
    try rw [e]
    refine ok_fr (wc := [(r 0, .inr (7, [.ref (r 1), .ref (r 8), .ref (r 15), .ref (r 20), .ref (r 21), .ref (r 23), .ref (r 25)])), (r 8, .inl (2, 3, .inr (.inr (.inr (.inr (rf3 r 9 2 3)))))), (r 11, .inr (3, [.int (S.2.1 1).1, .ref (r 12), .int (S.2.1 1).2.1])), (r 12, .inl (0, 21, .inl (S.2.1 1).2.2))]) (wr := [(r 1, .inl (1, 3, .inr (.inr (.inr (.inr (rf3 r 2 2 3)))))), (r 2, .inr (4, [.ref (r 3), .int (S.1 0).1])), (r 3, .inl (0, 2646, .inl (S.1 0).2)), (r 4, .inr (4, [.ref (r 5), .int (S.1 1).1])), (r 5, .inl (0, 2646, .inl (S.1 1).2)), (r 6, .inr (4, [.ref (r 7), .int (S.1 2).1])), (r 7, .inl (0, 2646, .inl (S.1 2).2)), (r 9, .inr (3, [.int (S.2.1 0).1, .ref (r 10), .int (S.2.1 0).2.1])), (r 10, .inl (0, 21, .inl (S.2.1 0).2.2)), (r 13, .inr (3, [.int (S.2.1 2).1, .ref (r 14), .int (S.2.1 2).2.1])), (r 14, .inl (0, 21, .inl (S.2.1 2).2.2)), (r 15, .inl (3, 2, .inr (.inr (.inr (.inr (rf3 r 16 2 2)))))), (r 16, .inr (6, [.ref (r 17)])), (r 17, .inl (0, 21, .inl (S.2.2.1 0))), (r 18, .inr (6, [.ref (r 19)])), (r 19, .inl (0, 21, .inl (S.2.2.1 1))), (r 20, .inr (2, [.int (S.2.2.2.1 0), .int (S.2.2.2.1 1), .int (S.2.2.2.1 2), .int (S.2.2.2.1 3), .int (S.2.2.2.1 4), .int (S.2.2.2.1 5)])), (r 21, .inr (5, [.ref (r 22)])), (r 22, .inl (0, 21, .inl S.2.2.2.2.1)), (r 23, .inr (6, [.ref (r 24)])), (r 24, .inl (0, 21, .inl S.2.2.2.2.2.1)), (r 25, .inr (6, [.ref (r 26)])), (r 26, .inl (0, 21, .inl S.2.2.2.2.2.2))]) [0, 8, 11, 12] [1, 2, 3, 4, 5, 6, 7, 9, 10, 13, 14, 15, 16, 17, 18, 19, 20, 21, 22, 23, 24, 25, 26] (ok_X5_ledger (x := r 0) (M := r 1) (L := r 8) (Dk := r 15) (c := r 20) (se := r 21) (wk := r 23) (sp := r 25) (h := r 11) (a := r 12) (lf := rf3 r 9 2 3) (fun h9 => by have h8 := ix_in h9; rw [e] at h8; exact (congrArg (rf3 r 9 2 3) h8.symm).trans rfl) h0) rfl rfl rfl rfl (by decide) ?_
    rintro o w hp
    cases x0 with
    | inl z =>
      obtain ⟨g, e1, e2⟩ := PX.inl hp
      subst e1; subst e2
      exact ⟨_, [23, 0, 1, 2, 3, 4, 5, 6, 24, 7, 8, 25, 26, 9, 10, 11, 12, 13, 14, 15, 16, 17, 18, 19, 20, 21, 22], PX.mk g rfl rfl, rfl, rfl⟩
    | inr E =>
      obtain ⟨e1, e2⟩ := PX.inr hp
      subst e1; subst e2
      exact ⟨_, [23, 0, 1, 2, 3, 4, 5, 6, 24, 7, 8, 25, 26, 9, 10, 11, 12, 13, 14, 15, 16, 17, 18, 19, 20, 21, 22], PX.er, rfl, rfl⟩
  · rw [e] at h0
    try rw [e]
    refine ok_fr (wc := [(r 0, .inr (7, [.ref (r 1), .ref (r 8), .ref (r 15), .ref (r 20), .ref (r 21), .ref (r 23), .ref (r 25)])), (r 8, .inl (2, 3, .inr (.inr (.inr (.inr (rf3 r 9 2 3)))))), (r 13, .inr (3, [.int (S.2.1 2).1, .ref (r 14), .int (S.2.1 2).2.1])), (r 14, .inl (0, 21, .inl (S.2.1 2).2.2))]) (wr := [(r 1, .inl (1, 3, .inr (.inr (.inr (.inr (rf3 r 2 2 3)))))), (r 2, .inr (4, [.ref (r 3), .int (S.1 0).1])), (r 3, .inl (0, 2646, .inl (S.1 0).2)), (r 4, .inr (4, [.ref (r 5), .int (S.1 1).1])), (r 5, .inl (0, 2646, .inl (S.1 1).2)), (r 6, .inr (4, [.ref (r 7), .int (S.1 2).1])), (r 7, .inl (0, 2646, .inl (S.1 2).2)), (r 9, .inr (3, [.int (S.2.1 0).1, .ref (r 10), .int (S.2.1 0).2.1])), (r 10, .inl (0, 21, .inl (S.2.1 0).2.2)), (r 11, .inr (3, [.int (S.2.1 1).1, .ref (r 12), .int (S.2.1 1).2.1])), (r 12, .inl (0, 21, .inl (S.2.1 1).2.2)), (r 15, .inl (3, 2, .inr (.inr (.inr (.inr (rf3 r 16 2 2)))))), (r 16, .inr (6, [.ref (r 17)])), (r 17, .inl (0, 21, .inl (S.2.2.1 0))), (r 18, .inr (6, [.ref (r 19)])), (r 19, .inl (0, 21, .inl (S.2.2.1 1))), (r 20, .inr (2, [.int (S.2.2.2.1 0), .int (S.2.2.2.1 1), .int (S.2.2.2.1 2), .int (S.2.2.2.1 3), .int (S.2.2.2.1 4), .int (S.2.2.2.1 5)])), (r 21, .inr (5, [.ref (r 22)])), (r 22, .inl (0, 21, .inl S.2.2.2.2.1)), (r 23, .inr (6, [.ref (r 24)])), (r 24, .inl (0, 21, .inl S.2.2.2.2.2.1)), (r 25, .inr (6, [.ref (r 26)])), (r 26, .inl (0, 21, .inl S.2.2.2.2.2.2))]) [0, 8, 13, 14] [1, 2, 3, 4, 5, 6, 7, 9, 10, 11, 12, 15, 16, 17, 18, 19, 20, 21, 22, 23, 24, 25, 26] (ok_X5_ledger (x := r 0) (M := r 1) (L := r 8) (Dk := r 15) (c := r 20) (se := r 21) (wk := r 23) (sp := r 25) (h := r 13) (a := r 14) (lf := rf3 r 9 2 3) (fun h9 => by have h8 := ix_in h9; rw [e] at h8; exact (congrArg (rf3 r 9 2 3) h8.symm).trans rfl) h0) rfl rfl rfl rfl (by decide) ?_
    rintro o w hp
    cases x0 with
    | inl z =>
      obtain ⟨g, e1, e2⟩ := PX.inl hp
      subst e1; subst e2
      exact ⟨_, [23, 0, 1, 2, 3, 4, 5, 6, 24, 7, 8, 9, 10, 25, 26, 11, 12, 13, 14, 15, 16, 17, 18, 19, 20, 21, 22], PX.mk g rfl rfl, rfl, rfl⟩
    | inr E =>
      obtain ⟨e1, e2⟩ := PX.inr hp
      subst e1; subst e2
      exact ⟨_, [23, 0, 1, 2, 3, 4, 5, 6, 24, 7, 8, 9, 10, 25, 26, 11, 12, 13, 14, 15, 16, 17, 18, 19, 20, 21, 22], PX.er, rfl, rfl⟩
def gX_ruleWorth (N K : Nat) (S : CS) (p0 : Int32) (p1 : Int32) (p2 : Int32) : Option ((Int32 × CS) ⊕ String) := (fX5_ruleWorth N K ((S.2.1 (ix 3 p0)).1) ((S.2.1 (ix 3 p0)).2.1) ((S.2.1 (ix 3 p0)).2.2) p0 p1 p2).map (fun o => match o with | .inl z => .inl (z, (S.1, S.2.1, S.2.2.1, S.2.2.2.1, S.2.2.2.2.1, S.2.2.2.2.2.1, S.2.2.2.2.2.2)) | .inr E => .inr E)
set_option maxHeartbeats 4000000 in
set_option maxRecDepth 100000 in
theorem ogX_ruleWorth {N K : Nat} {r : Nat → Nat} {S : CS} {p0 : Int32} {p1 : Int32} {p2 : Int32} {x : (Int32 × CS) ⊕ String} (hE : gX_ruleWorth N K S p0 p1 p2 = some x) : OkM yX5_ruleWorth (.code yX5_ruleWorth cX5_ruleWorth 5 (some .int)) (9) 3 18 [.ref (r 0), .int p0, .int p1, .int p2] (WX r S) ((PX (U := Int32 × CS) (fun z _ => some (.int z.1)) (fun z _ => WX r z.2) (WX r S)) x) := by
  unfold gX_ruleWorth at hE
  obtain ⟨x0, h0, h1⟩ := Option.map_eq_some_iff.mp hE
  subst h1
  clear hE
  rcases lt3 (ix_lt (n := 3) (p := p0) (by decide)) with e | e | e
  · rw [e] at h0
    try rw [e]
    refine ok_fr (wc := [(r 0, .inr (7, [.ref (r 1), .ref (r 8), .ref (r 15), .ref (r 20), .ref (r 21), .ref (r 23), .ref (r 25)])), (r 8, .inl (2, 3, .inr (.inr (.inr (.inr (rf3 r 9 2 3)))))), (r 9, .inr (3, [.int (S.2.1 0).1, .ref (r 10), .int (S.2.1 0).2.1])), (r 10, .inl (0, 21, .inl (S.2.1 0).2.2))]) (wr := [(r 1, .inl (1, 3, .inr (.inr (.inr (.inr (rf3 r 2 2 3)))))), (r 2, .inr (4, [.ref (r 3), .int (S.1 0).1])), (r 3, .inl (0, 2646, .inl (S.1 0).2)), (r 4, .inr (4, [.ref (r 5), .int (S.1 1).1])), (r 5, .inl (0, 2646, .inl (S.1 1).2)), (r 6, .inr (4, [.ref (r 7), .int (S.1 2).1])), (r 7, .inl (0, 2646, .inl (S.1 2).2)), (r 11, .inr (3, [.int (S.2.1 1).1, .ref (r 12), .int (S.2.1 1).2.1])), (r 12, .inl (0, 21, .inl (S.2.1 1).2.2)), (r 13, .inr (3, [.int (S.2.1 2).1, .ref (r 14), .int (S.2.1 2).2.1])), (r 14, .inl (0, 21, .inl (S.2.1 2).2.2)), (r 15, .inl (3, 2, .inr (.inr (.inr (.inr (rf3 r 16 2 2)))))), (r 16, .inr (6, [.ref (r 17)])), (r 17, .inl (0, 21, .inl (S.2.2.1 0))), (r 18, .inr (6, [.ref (r 19)])), (r 19, .inl (0, 21, .inl (S.2.2.1 1))), (r 20, .inr (2, [.int (S.2.2.2.1 0), .int (S.2.2.2.1 1), .int (S.2.2.2.1 2), .int (S.2.2.2.1 3), .int (S.2.2.2.1 4), .int (S.2.2.2.1 5)])), (r 21, .inr (5, [.ref (r 22)])), (r 22, .inl (0, 21, .inl S.2.2.2.2.1)), (r 23, .inr (6, [.ref (r 24)])), (r 24, .inl (0, 21, .inl S.2.2.2.2.2.1)), (r 25, .inr (6, [.ref (r 26)])), (r 26, .inl (0, 21, .inl S.2.2.2.2.2.2))]) [0, 8, 9, 10] [1, 2, 3, 4, 5, 6, 7, 11, 12, 13, 14, 15, 16, 17, 18, 19, 20, 21, 22, 23, 24, 25, 26] (ok_X5_ruleWorth (x := r 0) (M := r 1) (L := r 8) (Dk := r 15) (c := r 20) (se := r 21) (wk := r 23) (sp := r 25) (h := r 9) (a := r 10) (lf := rf3 r 9 2 3) (fun h9 => by have h8 := ix_in h9; rw [e] at h8; exact (congrArg (rf3 r 9 2 3) h8.symm).trans rfl) h0) rfl rfl rfl rfl (by decide) ?_
    rintro o w hp
    cases x0 with
    | inl z =>
      obtain ⟨g, e1, e2⟩ := PX.inl hp
      subst e1; subst e2
      exact ⟨_, [23, 0, 1, 2, 3, 4, 5, 6, 24, 25, 26, 7, 8, 9, 10, 11, 12, 13, 14, 15, 16, 17, 18, 19, 20, 21, 22], PX.mk g rfl rfl, rfl, rfl⟩
    | inr E =>
      obtain ⟨e1, e2⟩ := PX.inr hp
      subst e1; subst e2
      exact ⟨_, [23, 0, 1, 2, 3, 4, 5, 6, 24, 25, 26, 7, 8, 9, 10, 11, 12, 13, 14, 15, 16, 17, 18, 19, 20, 21, 22], PX.er, rfl, rfl⟩
  · rw [e] at h0
    try rw [e]
    refine ok_fr (wc := [(r 0, .inr (7, [.ref (r 1), .ref (r 8), .ref (r 15), .ref (r 20), .ref (r 21), .ref (r 23), .ref (r 25)])), (r 8, .inl (2, 3, .inr (.inr (.inr (.inr (rf3 r 9 2 3)))))), (r 11, .inr (3, [.int (S.2.1 1).1, .ref (r 12), .int (S.2.1 1).2.1])), (r 12, .inl (0, 21, .inl (S.2.1 1).2.2))]) (wr := [(r 1, .inl (1, 3, .inr (.inr (.inr (.inr (rf3 r 2 2 3)))))), (r 2, .inr (4, [.ref (r 3), .int (S.1 0).1])), (r 3, .inl (0, 2646, .inl (S.1 0).2)), (r 4, .inr (4, [.ref (r 5), .int (S.1 1).1])), (r 5, .inl (0, 2646, .inl (S.1 1).2)), (r 6, .inr (4, [.ref (r 7), .int (S.1 2).1])), (r 7, .inl (0, 2646, .inl (S.1 2).2)), (r 9, .inr (3, [.int (S.2.1 0).1, .ref (r 10), .int (S.2.1 0).2.1])), (r 10, .inl (0, 21, .inl (S.2.1 0).2.2)), (r 13, .inr (3, [.int (S.2.1 2).1, .ref (r 14), .int (S.2.1 2).2.1])), (r 14, .inl (0, 21, .inl (S.2.1 2).2.2)), (r 15, .inl (3, 2, .inr (.inr (.inr (.inr (rf3 r 16 2 2)))))), (r 16, .inr (6, [.ref (r 17)])), (r 17, .inl (0, 21, .inl (S.2.2.1 0))), (r 18, .inr (6, [.ref (r 19)])), (r 19, .inl (0, 21, .inl (S.2.2.1 1))), (r 20, .inr (2, [.int (S.2.2.2.1 0), .int (S.2.2.2.1 1), .int (S.2.2.2.1 2), .int (S.2.2.2.1 3), .int (S.2.2.2.1 4), .int (S.2.2.2.1 5)])), (r 21, .inr (5, [.ref (r 22)])), (r 22, .inl (0, 21, .inl S.2.2.2.2.1)), (r 23, .inr (6, [.ref (r 24)])), (r 24, .inl (0, 21, .inl S.2.2.2.2.2.1)), (r 25, .inr (6, [.ref (r 26)])), (r 26, .inl (0, 21, .inl S.2.2.2.2.2.2))]) [0, 8, 11, 12] [1, 2, 3, 4, 5, 6, 7, 9, 10, 13, 14, 15, 16, 17, 18, 19, 20, 21, 22, 23, 24, 25, 26] (ok_X5_ruleWorth (x := r 0) (M := r 1) (L := r 8) (Dk := r 15) (c := r 20) (se := r 21) (wk := r 23) (sp := r 25) (h := r 11) (a := r 12) (lf := rf3 r 9 2 3) (fun h9 => by have h8 := ix_in h9; rw [e] at h8; exact (congrArg (rf3 r 9 2 3) h8.symm).trans rfl) h0) rfl rfl rfl rfl (by decide) ?_
    rintro o w hp
    cases x0 with
    | inl z =>
      obtain ⟨g, e1, e2⟩ := PX.inl hp
      subst e1; subst e2
      exact ⟨_, [23, 0, 1, 2, 3, 4, 5, 6, 24, 7, 8, 25, 26, 9, 10, 11, 12, 13, 14, 15, 16, 17, 18, 19, 20, 21, 22], PX.mk g rfl rfl, rfl, rfl⟩
    | inr E =>
      obtain ⟨e1, e2⟩ := PX.inr hp
      subst e1; subst e2
      exact ⟨_, [23, 0, 1, 2, 3, 4, 5, 6, 24, 7, 8, 25, 26, 9, 10, 11, 12, 13, 14, 15, 16, 17, 18, 19, 20, 21, 22], PX.er, rfl, rfl⟩
  · rw [e] at h0
    try rw [e]
    refine ok_fr (wc := [(r 0, .inr (7, [.ref (r 1), .ref (r 8), .ref (r 15), .ref (r 20), .ref (r 21), .ref (r 23), .ref (r 25)])), (r 8, .inl (2, 3, .inr (.inr (.inr (.inr (rf3 r 9 2 3)))))), (r 13, .inr (3, [.int (S.2.1 2).1, .ref (r 14), .int (S.2.1 2).2.1])), (r 14, .inl (0, 21, .inl (S.2.1 2).2.2))]) (wr := [(r 1, .inl (1, 3, .inr (.inr (.inr (.inr (rf3 r 2 2 3)))))), (r 2, .inr (4, [.ref (r 3), .int (S.1 0).1])), (r 3, .inl (0, 2646, .inl (S.1 0).2)), (r 4, .inr (4, [.ref (r 5), .int (S.1 1).1])), (r 5, .inl (0, 2646, .inl (S.1 1).2)), (r 6, .inr (4, [.ref (r 7), .int (S.1 2).1])), (r 7, .inl (0, 2646, .inl (S.1 2).2)), (r 9, .inr (3, [.int (S.2.1 0).1, .ref (r 10), .int (S.2.1 0).2.1])), (r 10, .inl (0, 21, .inl (S.2.1 0).2.2)), (r 11, .inr (3, [.int (S.2.1 1).1, .ref (r 12), .int (S.2.1 1).2.1])), (r 12, .inl (0, 21, .inl (S.2.1 1).2.2)), (r 15, .inl (3, 2, .inr (.inr (.inr (.inr (rf3 r 16 2 2)))))), (r 16, .inr (6, [.ref (r 17)])), (r 17, .inl (0, 21, .inl (S.2.2.1 0))), (r 18, .inr (6, [.ref (r 19)])), (r 19, .inl (0, 21, .inl (S.2.2.1 1))), (r 20, .inr (2, [.int (S.2.2.2.1 0), .int (S.2.2.2.1 1), .int (S.2.2.2.1 2), .int (S.2.2.2.1 3), .int (S.2.2.2.1 4), .int (S.2.2.2.1 5)])), (r 21, .inr (5, [.ref (r 22)])), (r 22, .inl (0, 21, .inl S.2.2.2.2.1)), (r 23, .inr (6, [.ref (r 24)])), (r 24, .inl (0, 21, .inl S.2.2.2.2.2.1)), (r 25, .inr (6, [.ref (r 26)])), (r 26, .inl (0, 21, .inl S.2.2.2.2.2.2))]) [0, 8, 13, 14] [1, 2, 3, 4, 5, 6, 7, 9, 10, 11, 12, 15, 16, 17, 18, 19, 20, 21, 22, 23, 24, 25, 26] (ok_X5_ruleWorth (x := r 0) (M := r 1) (L := r 8) (Dk := r 15) (c := r 20) (se := r 21) (wk := r 23) (sp := r 25) (h := r 13) (a := r 14) (lf := rf3 r 9 2 3) (fun h9 => by have h8 := ix_in h9; rw [e] at h8; exact (congrArg (rf3 r 9 2 3) h8.symm).trans rfl) h0) rfl rfl rfl rfl (by decide) ?_
    rintro o w hp
    cases x0 with
    | inl z =>
      obtain ⟨g, e1, e2⟩ := PX.inl hp
      subst e1; subst e2
      exact ⟨_, [23, 0, 1, 2, 3, 4, 5, 6, 24, 7, 8, 9, 10, 25, 26, 11, 12, 13, 14, 15, 16, 17, 18, 19, 20, 21, 22], PX.mk g rfl rfl, rfl, rfl⟩
    | inr E =>
      obtain ⟨e1, e2⟩ := PX.inr hp
      subst e1; subst e2
      exact ⟨_, [23, 0, 1, 2, 3, 4, 5, 6, 24, 7, 8, 9, 10, 25, 26, 11, 12, 13, 14, 15, 16, 17, 18, 19, 20, 21, 22], PX.er, rfl, rfl⟩
def gX_addPart (N K : Nat) (S : CS) (p0 : Int32) (p1 : Int32) (p2 : Int32) : Option ((Int32 × CS) ⊕ String) := (fX5_addPart N K (S.2.2.1 (ix 2 p0)) (S.2.2.2.1 0) (S.2.2.2.1 1) (S.2.2.2.1 2) (S.2.2.2.1 3) (S.2.2.2.1 4) (S.2.2.2.1 5) p0 p1 p2).map (fun o => match o with | .inl z => .inl (z.1, (S.1, S.2.1, (upm S.2.2.1 (ix 2 p0) z.2.1), (upm (upm S.2.2.2.1 0 z.2.2.1) 4 z.2.2.2), S.2.2.2.2.1, S.2.2.2.2.2.1, S.2.2.2.2.2.2)) | .inr E => .inr E)
set_option maxHeartbeats 4000000 in
set_option maxRecDepth 100000 in
theorem ogX_addPart {N K : Nat} {r : Nat → Nat} {S : CS} {p0 : Int32} {p1 : Int32} {p2 : Int32} {x : (Int32 × CS) ⊕ String} (hE : gX_addPart N K S p0 p1 p2 = some x) : OkM yX5_addPart (.code yX5_addPart cX5_addPart 5 (some .int)) (9) 3 18 [.ref (r 0), .int p0, .int p1, .int p2] (WX r S) ((PX (U := Int32 × CS) (fun z _ => some (.int z.1)) (fun z _ => WX r z.2) (WX r S)) x) := by
  unfold gX_addPart at hE
  obtain ⟨x0, h0, h1⟩ := Option.map_eq_some_iff.mp hE
  subst h1
  clear hE
  rcases lt2 (ix_lt (n := 2) (p := p0) (by decide)) with e | e
  · rw [e] at h0
    try rw [e]
    refine ok_fr (wc := [(r 0, .inr (7, [.ref (r 1), .ref (r 8), .ref (r 15), .ref (r 20), .ref (r 21), .ref (r 23), .ref (r 25)])), (r 15, .inl (3, 2, .inr (.inr (.inr (.inr (rf3 r 16 2 2)))))), (r 16, .inr (6, [.ref (r 17)])), (r 17, .inl (0, 21, .inl (S.2.2.1 0))), (r 20, .inr (2, [.int (S.2.2.2.1 0), .int (S.2.2.2.1 1), .int (S.2.2.2.1 2), .int (S.2.2.2.1 3), .int (S.2.2.2.1 4), .int (S.2.2.2.1 5)]))]) (wr := [(r 1, .inl (1, 3, .inr (.inr (.inr (.inr (rf3 r 2 2 3)))))), (r 2, .inr (4, [.ref (r 3), .int (S.1 0).1])), (r 3, .inl (0, 2646, .inl (S.1 0).2)), (r 4, .inr (4, [.ref (r 5), .int (S.1 1).1])), (r 5, .inl (0, 2646, .inl (S.1 1).2)), (r 6, .inr (4, [.ref (r 7), .int (S.1 2).1])), (r 7, .inl (0, 2646, .inl (S.1 2).2)), (r 8, .inl (2, 3, .inr (.inr (.inr (.inr (rf3 r 9 2 3)))))), (r 9, .inr (3, [.int (S.2.1 0).1, .ref (r 10), .int (S.2.1 0).2.1])), (r 10, .inl (0, 21, .inl (S.2.1 0).2.2)), (r 11, .inr (3, [.int (S.2.1 1).1, .ref (r 12), .int (S.2.1 1).2.1])), (r 12, .inl (0, 21, .inl (S.2.1 1).2.2)), (r 13, .inr (3, [.int (S.2.1 2).1, .ref (r 14), .int (S.2.1 2).2.1])), (r 14, .inl (0, 21, .inl (S.2.1 2).2.2)), (r 18, .inr (6, [.ref (r 19)])), (r 19, .inl (0, 21, .inl (S.2.2.1 1))), (r 21, .inr (5, [.ref (r 22)])), (r 22, .inl (0, 21, .inl S.2.2.2.2.1)), (r 23, .inr (6, [.ref (r 24)])), (r 24, .inl (0, 21, .inl S.2.2.2.2.2.1)), (r 25, .inr (6, [.ref (r 26)])), (r 26, .inl (0, 21, .inl S.2.2.2.2.2.2))]) [0, 15, 16, 17, 20] [1, 2, 3, 4, 5, 6, 7, 8, 9, 10, 11, 12, 13, 14, 18, 19, 21, 22, 23, 24, 25, 26] (ok_X5_addPart (x := r 0) (M := r 1) (L := r 8) (Dk := r 15) (c := r 20) (se := r 21) (wk := r 23) (sp := r 25) (w := r 16) (a := r 17) (df := rf3 r 16 2 2) (fun h9 => by have h8 := ix_in h9; rw [e] at h8; exact (congrArg (rf3 r 16 2 2) h8.symm).trans rfl) h0) rfl rfl rfl rfl (by decide) ?_
    rintro o w hp
    cases x0 with
    | inl z =>
      obtain ⟨g, e1, e2⟩ := PX.inl hp
      subst e1; subst e2
      exact ⟨_, [22, 0, 1, 2, 3, 4, 5, 6, 7, 8, 9, 10, 11, 12, 13, 23, 24, 25, 14, 15, 26, 16, 17, 18, 19, 20, 21], PX.mk g rfl rfl, rfl, rfl⟩
    | inr E =>
      obtain ⟨e1, e2⟩ := PX.inr hp
      subst e1; subst e2
      exact ⟨_, [22, 0, 1, 2, 3, 4, 5, 6, 7, 8, 9, 10, 11, 12, 13, 23, 24, 25, 14, 15, 26, 16, 17, 18, 19, 20, 21], PX.er, rfl, rfl⟩
  · rw [e] at h0
    try rw [e]
    refine ok_fr (wc := [(r 0, .inr (7, [.ref (r 1), .ref (r 8), .ref (r 15), .ref (r 20), .ref (r 21), .ref (r 23), .ref (r 25)])), (r 15, .inl (3, 2, .inr (.inr (.inr (.inr (rf3 r 16 2 2)))))), (r 18, .inr (6, [.ref (r 19)])), (r 19, .inl (0, 21, .inl (S.2.2.1 1))), (r 20, .inr (2, [.int (S.2.2.2.1 0), .int (S.2.2.2.1 1), .int (S.2.2.2.1 2), .int (S.2.2.2.1 3), .int (S.2.2.2.1 4), .int (S.2.2.2.1 5)]))]) (wr := [(r 1, .inl (1, 3, .inr (.inr (.inr (.inr (rf3 r 2 2 3)))))), (r 2, .inr (4, [.ref (r 3), .int (S.1 0).1])), (r 3, .inl (0, 2646, .inl (S.1 0).2)), (r 4, .inr (4, [.ref (r 5), .int (S.1 1).1])), (r 5, .inl (0, 2646, .inl (S.1 1).2)), (r 6, .inr (4, [.ref (r 7), .int (S.1 2).1])), (r 7, .inl (0, 2646, .inl (S.1 2).2)), (r 8, .inl (2, 3, .inr (.inr (.inr (.inr (rf3 r 9 2 3)))))), (r 9, .inr (3, [.int (S.2.1 0).1, .ref (r 10), .int (S.2.1 0).2.1])), (r 10, .inl (0, 21, .inl (S.2.1 0).2.2)), (r 11, .inr (3, [.int (S.2.1 1).1, .ref (r 12), .int (S.2.1 1).2.1])), (r 12, .inl (0, 21, .inl (S.2.1 1).2.2)), (r 13, .inr (3, [.int (S.2.1 2).1, .ref (r 14), .int (S.2.1 2).2.1])), (r 14, .inl (0, 21, .inl (S.2.1 2).2.2)), (r 16, .inr (6, [.ref (r 17)])), (r 17, .inl (0, 21, .inl (S.2.2.1 0))), (r 21, .inr (5, [.ref (r 22)])), (r 22, .inl (0, 21, .inl S.2.2.2.2.1)), (r 23, .inr (6, [.ref (r 24)])), (r 24, .inl (0, 21, .inl S.2.2.2.2.2.1)), (r 25, .inr (6, [.ref (r 26)])), (r 26, .inl (0, 21, .inl S.2.2.2.2.2.2))]) [0, 15, 18, 19, 20] [1, 2, 3, 4, 5, 6, 7, 8, 9, 10, 11, 12, 13, 14, 16, 17, 21, 22, 23, 24, 25, 26] (ok_X5_addPart (x := r 0) (M := r 1) (L := r 8) (Dk := r 15) (c := r 20) (se := r 21) (wk := r 23) (sp := r 25) (w := r 18) (a := r 19) (df := rf3 r 16 2 2) (fun h9 => by have h8 := ix_in h9; rw [e] at h8; exact (congrArg (rf3 r 16 2 2) h8.symm).trans rfl) h0) rfl rfl rfl rfl (by decide) ?_
    rintro o w hp
    cases x0 with
    | inl z =>
      obtain ⟨g, e1, e2⟩ := PX.inl hp
      subst e1; subst e2
      exact ⟨_, [22, 0, 1, 2, 3, 4, 5, 6, 7, 8, 9, 10, 11, 12, 13, 23, 14, 15, 24, 25, 26, 16, 17, 18, 19, 20, 21], PX.mk g rfl rfl, rfl, rfl⟩
    | inr E =>
      obtain ⟨e1, e2⟩ := PX.inr hp
      subst e1; subst e2
      exact ⟨_, [22, 0, 1, 2, 3, 4, 5, 6, 7, 8, 9, 10, 11, 12, 13, 23, 14, 15, 24, 25, 26, 16, 17, 18, 19, 20, 21], PX.er, rfl, rfl⟩
def gX_takePart (N K : Nat) (S : CS) (p0 : Int32) (p1 : Int32) : Option ((Int32 × CS) ⊕ String) := (fX5_takePart N K (S.2.2.1 (ix 2 p0)) (S.2.2.2.1 0) (S.2.2.2.1 1) (S.2.2.2.1 2) (S.2.2.2.1 3) (S.2.2.2.1 4) (S.2.2.2.1 5) p0 p1).map (fun o => match o with | .inl z => .inl (z.1, (S.1, S.2.1, (upm S.2.2.1 (ix 2 p0) z.2.1), (upm (upm S.2.2.2.1 0 z.2.2.1) 4 z.2.2.2), S.2.2.2.2.1, S.2.2.2.2.2.1, S.2.2.2.2.2.2)) | .inr E => .inr E)
set_option maxHeartbeats 4000000 in
set_option maxRecDepth 100000 in
theorem ogX_takePart {N K : Nat} {r : Nat → Nat} {S : CS} {p0 : Int32} {p1 : Int32} {x : (Int32 × CS) ⊕ String} (hE : gX_takePart N K S p0 p1 = some x) : OkM yX5_takePart (.code yX5_takePart cX5_takePart 4 (some .int)) (9) 2 12 [.ref (r 0), .int p0, .int p1] (WX r S) ((PX (U := Int32 × CS) (fun z _ => some (.int z.1)) (fun z _ => WX r z.2) (WX r S)) x) := by
  unfold gX_takePart at hE
  obtain ⟨x0, h0, h1⟩ := Option.map_eq_some_iff.mp hE
  subst h1
  clear hE
  rcases lt2 (ix_lt (n := 2) (p := p0) (by decide)) with e | e
  · rw [e] at h0
    try rw [e]
    refine ok_fr (wc := [(r 0, .inr (7, [.ref (r 1), .ref (r 8), .ref (r 15), .ref (r 20), .ref (r 21), .ref (r 23), .ref (r 25)])), (r 15, .inl (3, 2, .inr (.inr (.inr (.inr (rf3 r 16 2 2)))))), (r 16, .inr (6, [.ref (r 17)])), (r 17, .inl (0, 21, .inl (S.2.2.1 0))), (r 20, .inr (2, [.int (S.2.2.2.1 0), .int (S.2.2.2.1 1), .int (S.2.2.2.1 2), .int (S.2.2.2.1 3), .int (S.2.2.2.1 4), .int (S.2.2.2.1 5)]))]) (wr := [(r 1, .inl (1, 3, .inr (.inr (.inr (.inr (rf3 r 2 2 3)))))), (r 2, .inr (4, [.ref (r 3), .int (S.1 0).1])), (r 3, .inl (0, 2646, .inl (S.1 0).2)), (r 4, .inr (4, [.ref (r 5), .int (S.1 1).1])), (r 5, .inl (0, 2646, .inl (S.1 1).2)), (r 6, .inr (4, [.ref (r 7), .int (S.1 2).1])), (r 7, .inl (0, 2646, .inl (S.1 2).2)), (r 8, .inl (2, 3, .inr (.inr (.inr (.inr (rf3 r 9 2 3)))))), (r 9, .inr (3, [.int (S.2.1 0).1, .ref (r 10), .int (S.2.1 0).2.1])), (r 10, .inl (0, 21, .inl (S.2.1 0).2.2)), (r 11, .inr (3, [.int (S.2.1 1).1, .ref (r 12), .int (S.2.1 1).2.1])), (r 12, .inl (0, 21, .inl (S.2.1 1).2.2)), (r 13, .inr (3, [.int (S.2.1 2).1, .ref (r 14), .int (S.2.1 2).2.1])), (r 14, .inl (0, 21, .inl (S.2.1 2).2.2)), (r 18, .inr (6, [.ref (r 19)])), (r 19, .inl (0, 21, .inl (S.2.2.1 1))), (r 21, .inr (5, [.ref (r 22)])), (r 22, .inl (0, 21, .inl S.2.2.2.2.1)), (r 23, .inr (6, [.ref (r 24)])), (r 24, .inl (0, 21, .inl S.2.2.2.2.2.1)), (r 25, .inr (6, [.ref (r 26)])), (r 26, .inl (0, 21, .inl S.2.2.2.2.2.2))]) [0, 15, 16, 17, 20] [1, 2, 3, 4, 5, 6, 7, 8, 9, 10, 11, 12, 13, 14, 18, 19, 21, 22, 23, 24, 25, 26] (ok_X5_takePart (x := r 0) (M := r 1) (L := r 8) (Dk := r 15) (c := r 20) (se := r 21) (wk := r 23) (sp := r 25) (w := r 16) (a := r 17) (df := rf3 r 16 2 2) (fun h9 => by have h8 := ix_in h9; rw [e] at h8; exact (congrArg (rf3 r 16 2 2) h8.symm).trans rfl) h0) rfl rfl rfl rfl (by decide) ?_
    rintro o w hp
    cases x0 with
    | inl z =>
      obtain ⟨g, e1, e2⟩ := PX.inl hp
      subst e1; subst e2
      exact ⟨_, [22, 0, 1, 2, 3, 4, 5, 6, 7, 8, 9, 10, 11, 12, 13, 23, 24, 25, 14, 15, 26, 16, 17, 18, 19, 20, 21], PX.mk g rfl rfl, rfl, rfl⟩
    | inr E =>
      obtain ⟨e1, e2⟩ := PX.inr hp
      subst e1; subst e2
      exact ⟨_, [22, 0, 1, 2, 3, 4, 5, 6, 7, 8, 9, 10, 11, 12, 13, 23, 24, 25, 14, 15, 26, 16, 17, 18, 19, 20, 21], PX.er, rfl, rfl⟩
  · rw [e] at h0
    try rw [e]
    refine ok_fr (wc := [(r 0, .inr (7, [.ref (r 1), .ref (r 8), .ref (r 15), .ref (r 20), .ref (r 21), .ref (r 23), .ref (r 25)])), (r 15, .inl (3, 2, .inr (.inr (.inr (.inr (rf3 r 16 2 2)))))), (r 18, .inr (6, [.ref (r 19)])), (r 19, .inl (0, 21, .inl (S.2.2.1 1))), (r 20, .inr (2, [.int (S.2.2.2.1 0), .int (S.2.2.2.1 1), .int (S.2.2.2.1 2), .int (S.2.2.2.1 3), .int (S.2.2.2.1 4), .int (S.2.2.2.1 5)]))]) (wr := [(r 1, .inl (1, 3, .inr (.inr (.inr (.inr (rf3 r 2 2 3)))))), (r 2, .inr (4, [.ref (r 3), .int (S.1 0).1])), (r 3, .inl (0, 2646, .inl (S.1 0).2)), (r 4, .inr (4, [.ref (r 5), .int (S.1 1).1])), (r 5, .inl (0, 2646, .inl (S.1 1).2)), (r 6, .inr (4, [.ref (r 7), .int (S.1 2).1])), (r 7, .inl (0, 2646, .inl (S.1 2).2)), (r 8, .inl (2, 3, .inr (.inr (.inr (.inr (rf3 r 9 2 3)))))), (r 9, .inr (3, [.int (S.2.1 0).1, .ref (r 10), .int (S.2.1 0).2.1])), (r 10, .inl (0, 21, .inl (S.2.1 0).2.2)), (r 11, .inr (3, [.int (S.2.1 1).1, .ref (r 12), .int (S.2.1 1).2.1])), (r 12, .inl (0, 21, .inl (S.2.1 1).2.2)), (r 13, .inr (3, [.int (S.2.1 2).1, .ref (r 14), .int (S.2.1 2).2.1])), (r 14, .inl (0, 21, .inl (S.2.1 2).2.2)), (r 16, .inr (6, [.ref (r 17)])), (r 17, .inl (0, 21, .inl (S.2.2.1 0))), (r 21, .inr (5, [.ref (r 22)])), (r 22, .inl (0, 21, .inl S.2.2.2.2.1)), (r 23, .inr (6, [.ref (r 24)])), (r 24, .inl (0, 21, .inl S.2.2.2.2.2.1)), (r 25, .inr (6, [.ref (r 26)])), (r 26, .inl (0, 21, .inl S.2.2.2.2.2.2))]) [0, 15, 18, 19, 20] [1, 2, 3, 4, 5, 6, 7, 8, 9, 10, 11, 12, 13, 14, 16, 17, 21, 22, 23, 24, 25, 26] (ok_X5_takePart (x := r 0) (M := r 1) (L := r 8) (Dk := r 15) (c := r 20) (se := r 21) (wk := r 23) (sp := r 25) (w := r 18) (a := r 19) (df := rf3 r 16 2 2) (fun h9 => by have h8 := ix_in h9; rw [e] at h8; exact (congrArg (rf3 r 16 2 2) h8.symm).trans rfl) h0) rfl rfl rfl rfl (by decide) ?_
    rintro o w hp
    cases x0 with
    | inl z =>
      obtain ⟨g, e1, e2⟩ := PX.inl hp
      subst e1; subst e2
      exact ⟨_, [22, 0, 1, 2, 3, 4, 5, 6, 7, 8, 9, 10, 11, 12, 13, 23, 14, 15, 24, 25, 26, 16, 17, 18, 19, 20, 21], PX.mk g rfl rfl, rfl, rfl⟩
    | inr E =>
      obtain ⟨e1, e2⟩ := PX.inr hp
      subst e1; subst e2
      exact ⟨_, [22, 0, 1, 2, 3, 4, 5, 6, 7, 8, 9, 10, 11, 12, 13, 23, 14, 15, 24, 25, 26, 16, 17, 18, 19, 20, 21], PX.er, rfl, rfl⟩
def gX_layFirst (N K : Nat) (S : CS) (p0 : Int32) (p1 : Int32) : Option ((Int32 × CS) ⊕ String) := (fX5_layFirst N K (S.2.2.1 (ix 2 p0)) (S.2.2.2.1 0) (S.2.2.2.1 1) (S.2.2.2.1 2) (S.2.2.2.1 3) (S.2.2.2.1 4) (S.2.2.2.1 5) p0 p1).map (fun o => match o with | .inl z => .inl (z.1, (S.1, S.2.1, (upm S.2.2.1 (ix 2 p0) z.2.1), (upm S.2.2.2.1 0 z.2.2), S.2.2.2.2.1, S.2.2.2.2.2.1, S.2.2.2.2.2.2)) | .inr E => .inr E)
set_option maxHeartbeats 4000000 in
set_option maxRecDepth 100000 in
theorem ogX_layFirst {N K : Nat} {r : Nat → Nat} {S : CS} {p0 : Int32} {p1 : Int32} {x : (Int32 × CS) ⊕ String} (hE : gX_layFirst N K S p0 p1 = some x) : OkM yX5_layFirst (.code yX5_layFirst cX5_layFirst 4 (some .int)) (9) 2 12 [.ref (r 0), .int p0, .int p1] (WX r S) ((PX (U := Int32 × CS) (fun z _ => some (.int z.1)) (fun z _ => WX r z.2) (WX r S)) x) := by
  unfold gX_layFirst at hE
  obtain ⟨x0, h0, h1⟩ := Option.map_eq_some_iff.mp hE
  subst h1
  clear hE
  rcases lt2 (ix_lt (n := 2) (p := p0) (by decide)) with e | e
  · rw [e] at h0
    try rw [e]
    refine ok_fr (wc := [(r 0, .inr (7, [.ref (r 1), .ref (r 8), .ref (r 15), .ref (r 20), .ref (r 21), .ref (r 23), .ref (r 25)])), (r 15, .inl (3, 2, .inr (.inr (.inr (.inr (rf3 r 16 2 2)))))), (r 16, .inr (6, [.ref (r 17)])), (r 17, .inl (0, 21, .inl (S.2.2.1 0))), (r 20, .inr (2, [.int (S.2.2.2.1 0), .int (S.2.2.2.1 1), .int (S.2.2.2.1 2), .int (S.2.2.2.1 3), .int (S.2.2.2.1 4), .int (S.2.2.2.1 5)]))]) (wr := [(r 1, .inl (1, 3, .inr (.inr (.inr (.inr (rf3 r 2 2 3)))))), (r 2, .inr (4, [.ref (r 3), .int (S.1 0).1])), (r 3, .inl (0, 2646, .inl (S.1 0).2)), (r 4, .inr (4, [.ref (r 5), .int (S.1 1).1])), (r 5, .inl (0, 2646, .inl (S.1 1).2)), (r 6, .inr (4, [.ref (r 7), .int (S.1 2).1])), (r 7, .inl (0, 2646, .inl (S.1 2).2)), (r 8, .inl (2, 3, .inr (.inr (.inr (.inr (rf3 r 9 2 3)))))), (r 9, .inr (3, [.int (S.2.1 0).1, .ref (r 10), .int (S.2.1 0).2.1])), (r 10, .inl (0, 21, .inl (S.2.1 0).2.2)), (r 11, .inr (3, [.int (S.2.1 1).1, .ref (r 12), .int (S.2.1 1).2.1])), (r 12, .inl (0, 21, .inl (S.2.1 1).2.2)), (r 13, .inr (3, [.int (S.2.1 2).1, .ref (r 14), .int (S.2.1 2).2.1])), (r 14, .inl (0, 21, .inl (S.2.1 2).2.2)), (r 18, .inr (6, [.ref (r 19)])), (r 19, .inl (0, 21, .inl (S.2.2.1 1))), (r 21, .inr (5, [.ref (r 22)])), (r 22, .inl (0, 21, .inl S.2.2.2.2.1)), (r 23, .inr (6, [.ref (r 24)])), (r 24, .inl (0, 21, .inl S.2.2.2.2.2.1)), (r 25, .inr (6, [.ref (r 26)])), (r 26, .inl (0, 21, .inl S.2.2.2.2.2.2))]) [0, 15, 16, 17, 20] [1, 2, 3, 4, 5, 6, 7, 8, 9, 10, 11, 12, 13, 14, 18, 19, 21, 22, 23, 24, 25, 26] (ok_X5_layFirst (x := r 0) (M := r 1) (L := r 8) (Dk := r 15) (c := r 20) (se := r 21) (wk := r 23) (sp := r 25) (w := r 16) (a := r 17) (df := rf3 r 16 2 2) (fun h9 => by have h8 := ix_in h9; rw [e] at h8; exact (congrArg (rf3 r 16 2 2) h8.symm).trans rfl) h0) rfl rfl rfl rfl (by decide) ?_
    rintro o w hp
    cases x0 with
    | inl z =>
      obtain ⟨g, e1, e2⟩ := PX.inl hp
      subst e1; subst e2
      exact ⟨_, [22, 0, 1, 2, 3, 4, 5, 6, 7, 8, 9, 10, 11, 12, 13, 23, 24, 25, 14, 15, 26, 16, 17, 18, 19, 20, 21], PX.mk g rfl rfl, rfl, rfl⟩
    | inr E =>
      obtain ⟨e1, e2⟩ := PX.inr hp
      subst e1; subst e2
      exact ⟨_, [22, 0, 1, 2, 3, 4, 5, 6, 7, 8, 9, 10, 11, 12, 13, 23, 24, 25, 14, 15, 26, 16, 17, 18, 19, 20, 21], PX.er, rfl, rfl⟩
  · rw [e] at h0
    try rw [e]
    refine ok_fr (wc := [(r 0, .inr (7, [.ref (r 1), .ref (r 8), .ref (r 15), .ref (r 20), .ref (r 21), .ref (r 23), .ref (r 25)])), (r 15, .inl (3, 2, .inr (.inr (.inr (.inr (rf3 r 16 2 2)))))), (r 18, .inr (6, [.ref (r 19)])), (r 19, .inl (0, 21, .inl (S.2.2.1 1))), (r 20, .inr (2, [.int (S.2.2.2.1 0), .int (S.2.2.2.1 1), .int (S.2.2.2.1 2), .int (S.2.2.2.1 3), .int (S.2.2.2.1 4), .int (S.2.2.2.1 5)]))]) (wr := [(r 1, .inl (1, 3, .inr (.inr (.inr (.inr (rf3 r 2 2 3)))))), (r 2, .inr (4, [.ref (r 3), .int (S.1 0).1])), (r 3, .inl (0, 2646, .inl (S.1 0).2)), (r 4, .inr (4, [.ref (r 5), .int (S.1 1).1])), (r 5, .inl (0, 2646, .inl (S.1 1).2)), (r 6, .inr (4, [.ref (r 7), .int (S.1 2).1])), (r 7, .inl (0, 2646, .inl (S.1 2).2)), (r 8, .inl (2, 3, .inr (.inr (.inr (.inr (rf3 r 9 2 3)))))), (r 9, .inr (3, [.int (S.2.1 0).1, .ref (r 10), .int (S.2.1 0).2.1])), (r 10, .inl (0, 21, .inl (S.2.1 0).2.2)), (r 11, .inr (3, [.int (S.2.1 1).1, .ref (r 12), .int (S.2.1 1).2.1])), (r 12, .inl (0, 21, .inl (S.2.1 1).2.2)), (r 13, .inr (3, [.int (S.2.1 2).1, .ref (r 14), .int (S.2.1 2).2.1])), (r 14, .inl (0, 21, .inl (S.2.1 2).2.2)), (r 16, .inr (6, [.ref (r 17)])), (r 17, .inl (0, 21, .inl (S.2.2.1 0))), (r 21, .inr (5, [.ref (r 22)])), (r 22, .inl (0, 21, .inl S.2.2.2.2.1)), (r 23, .inr (6, [.ref (r 24)])), (r 24, .inl (0, 21, .inl S.2.2.2.2.2.1)), (r 25, .inr (6, [.ref (r 26)])), (r 26, .inl (0, 21, .inl S.2.2.2.2.2.2))]) [0, 15, 18, 19, 20] [1, 2, 3, 4, 5, 6, 7, 8, 9, 10, 11, 12, 13, 14, 16, 17, 21, 22, 23, 24, 25, 26] (ok_X5_layFirst (x := r 0) (M := r 1) (L := r 8) (Dk := r 15) (c := r 20) (se := r 21) (wk := r 23) (sp := r 25) (w := r 18) (a := r 19) (df := rf3 r 16 2 2) (fun h9 => by have h8 := ix_in h9; rw [e] at h8; exact (congrArg (rf3 r 16 2 2) h8.symm).trans rfl) h0) rfl rfl rfl rfl (by decide) ?_
    rintro o w hp
    cases x0 with
    | inl z =>
      obtain ⟨g, e1, e2⟩ := PX.inl hp
      subst e1; subst e2
      exact ⟨_, [22, 0, 1, 2, 3, 4, 5, 6, 7, 8, 9, 10, 11, 12, 13, 23, 14, 15, 24, 25, 26, 16, 17, 18, 19, 20, 21], PX.mk g rfl rfl, rfl, rfl⟩
    | inr E =>
      obtain ⟨e1, e2⟩ := PX.inr hp
      subst e1; subst e2
      exact ⟨_, [22, 0, 1, 2, 3, 4, 5, 6, 7, 8, 9, 10, 11, 12, 13, 23, 14, 15, 24, 25, 26, 16, 17, 18, 19, 20, 21], PX.er, rfl, rfl⟩
def gX_next (N K : Nat) (S : CS) (p0 : Int32) : Option ((Int32 × CS) ⊕ String) := (fX5_next N K (S.2.2.1 (ix 2 p0)) (S.2.2.2.1 0) (S.2.2.2.1 1) (S.2.2.2.1 2) (S.2.2.2.1 3) (S.2.2.2.1 4) (S.2.2.2.1 5) p0).map (fun o => match o with | .inl z => .inl (z.1, (S.1, S.2.1, (upm S.2.2.1 (ix 2 p0) z.2.1), (upm (upm S.2.2.2.1 0 z.2.2.1) 4 z.2.2.2), S.2.2.2.2.1, S.2.2.2.2.2.1, S.2.2.2.2.2.2)) | .inr E => .inr E)
set_option maxHeartbeats 4000000 in
set_option maxRecDepth 100000 in
theorem ogX_next {N K : Nat} {r : Nat → Nat} {S : CS} {p0 : Int32} {x : (Int32 × CS) ⊕ String} (hE : gX_next N K S p0 = some x) : OkM yX5_next (.code yX5_next cX5_next 3 (some .int)) (9) 1 6 [.ref (r 0), .int p0] (WX r S) ((PX (U := Int32 × CS) (fun z _ => some (.int z.1)) (fun z _ => WX r z.2) (WX r S)) x) := by
  unfold gX_next at hE
  obtain ⟨x0, h0, h1⟩ := Option.map_eq_some_iff.mp hE
  subst h1
  clear hE
  rcases lt2 (ix_lt (n := 2) (p := p0) (by decide)) with e | e
  · rw [e] at h0
    try rw [e]
    refine ok_fr (wc := [(r 0, .inr (7, [.ref (r 1), .ref (r 8), .ref (r 15), .ref (r 20), .ref (r 21), .ref (r 23), .ref (r 25)])), (r 15, .inl (3, 2, .inr (.inr (.inr (.inr (rf3 r 16 2 2)))))), (r 16, .inr (6, [.ref (r 17)])), (r 17, .inl (0, 21, .inl (S.2.2.1 0))), (r 20, .inr (2, [.int (S.2.2.2.1 0), .int (S.2.2.2.1 1), .int (S.2.2.2.1 2), .int (S.2.2.2.1 3), .int (S.2.2.2.1 4), .int (S.2.2.2.1 5)]))]) (wr := [(r 1, .inl (1, 3, .inr (.inr (.inr (.inr (rf3 r 2 2 3)))))), (r 2, .inr (4, [.ref (r 3), .int (S.1 0).1])), (r 3, .inl (0, 2646, .inl (S.1 0).2)), (r 4, .inr (4, [.ref (r 5), .int (S.1 1).1])), (r 5, .inl (0, 2646, .inl (S.1 1).2)), (r 6, .inr (4, [.ref (r 7), .int (S.1 2).1])), (r 7, .inl (0, 2646, .inl (S.1 2).2)), (r 8, .inl (2, 3, .inr (.inr (.inr (.inr (rf3 r 9 2 3)))))), (r 9, .inr (3, [.int (S.2.1 0).1, .ref (r 10), .int (S.2.1 0).2.1])), (r 10, .inl (0, 21, .inl (S.2.1 0).2.2)), (r 11, .inr (3, [.int (S.2.1 1).1, .ref (r 12), .int (S.2.1 1).2.1])), (r 12, .inl (0, 21, .inl (S.2.1 1).2.2)), (r 13, .inr (3, [.int (S.2.1 2).1, .ref (r 14), .int (S.2.1 2).2.1])), (r 14, .inl (0, 21, .inl (S.2.1 2).2.2)), (r 18, .inr (6, [.ref (r 19)])), (r 19, .inl (0, 21, .inl (S.2.2.1 1))), (r 21, .inr (5, [.ref (r 22)])), (r 22, .inl (0, 21, .inl S.2.2.2.2.1)), (r 23, .inr (6, [.ref (r 24)])), (r 24, .inl (0, 21, .inl S.2.2.2.2.2.1)), (r 25, .inr (6, [.ref (r 26)])), (r 26, .inl (0, 21, .inl S.2.2.2.2.2.2))]) [0, 15, 16, 17, 20] [1, 2, 3, 4, 5, 6, 7, 8, 9, 10, 11, 12, 13, 14, 18, 19, 21, 22, 23, 24, 25, 26] (ok_X5_next (x := r 0) (M := r 1) (L := r 8) (Dk := r 15) (c := r 20) (se := r 21) (wk := r 23) (sp := r 25) (w := r 16) (a := r 17) (df := rf3 r 16 2 2) (fun h9 => by have h8 := ix_in h9; rw [e] at h8; exact (congrArg (rf3 r 16 2 2) h8.symm).trans rfl) h0) rfl rfl rfl rfl (by decide) ?_
    rintro o w hp
    cases x0 with
    | inl z =>
      obtain ⟨g, e1, e2⟩ := PX.inl hp
      subst e1; subst e2
      exact ⟨_, [22, 0, 1, 2, 3, 4, 5, 6, 7, 8, 9, 10, 11, 12, 13, 23, 24, 25, 14, 15, 26, 16, 17, 18, 19, 20, 21], PX.mk g rfl rfl, rfl, rfl⟩
    | inr E =>
      obtain ⟨e1, e2⟩ := PX.inr hp
      subst e1; subst e2
      exact ⟨_, [22, 0, 1, 2, 3, 4, 5, 6, 7, 8, 9, 10, 11, 12, 13, 23, 24, 25, 14, 15, 26, 16, 17, 18, 19, 20, 21], PX.er, rfl, rfl⟩
  · rw [e] at h0
    try rw [e]
    refine ok_fr (wc := [(r 0, .inr (7, [.ref (r 1), .ref (r 8), .ref (r 15), .ref (r 20), .ref (r 21), .ref (r 23), .ref (r 25)])), (r 15, .inl (3, 2, .inr (.inr (.inr (.inr (rf3 r 16 2 2)))))), (r 18, .inr (6, [.ref (r 19)])), (r 19, .inl (0, 21, .inl (S.2.2.1 1))), (r 20, .inr (2, [.int (S.2.2.2.1 0), .int (S.2.2.2.1 1), .int (S.2.2.2.1 2), .int (S.2.2.2.1 3), .int (S.2.2.2.1 4), .int (S.2.2.2.1 5)]))]) (wr := [(r 1, .inl (1, 3, .inr (.inr (.inr (.inr (rf3 r 2 2 3)))))), (r 2, .inr (4, [.ref (r 3), .int (S.1 0).1])), (r 3, .inl (0, 2646, .inl (S.1 0).2)), (r 4, .inr (4, [.ref (r 5), .int (S.1 1).1])), (r 5, .inl (0, 2646, .inl (S.1 1).2)), (r 6, .inr (4, [.ref (r 7), .int (S.1 2).1])), (r 7, .inl (0, 2646, .inl (S.1 2).2)), (r 8, .inl (2, 3, .inr (.inr (.inr (.inr (rf3 r 9 2 3)))))), (r 9, .inr (3, [.int (S.2.1 0).1, .ref (r 10), .int (S.2.1 0).2.1])), (r 10, .inl (0, 21, .inl (S.2.1 0).2.2)), (r 11, .inr (3, [.int (S.2.1 1).1, .ref (r 12), .int (S.2.1 1).2.1])), (r 12, .inl (0, 21, .inl (S.2.1 1).2.2)), (r 13, .inr (3, [.int (S.2.1 2).1, .ref (r 14), .int (S.2.1 2).2.1])), (r 14, .inl (0, 21, .inl (S.2.1 2).2.2)), (r 16, .inr (6, [.ref (r 17)])), (r 17, .inl (0, 21, .inl (S.2.2.1 0))), (r 21, .inr (5, [.ref (r 22)])), (r 22, .inl (0, 21, .inl S.2.2.2.2.1)), (r 23, .inr (6, [.ref (r 24)])), (r 24, .inl (0, 21, .inl S.2.2.2.2.2.1)), (r 25, .inr (6, [.ref (r 26)])), (r 26, .inl (0, 21, .inl S.2.2.2.2.2.2))]) [0, 15, 18, 19, 20] [1, 2, 3, 4, 5, 6, 7, 8, 9, 10, 11, 12, 13, 14, 16, 17, 21, 22, 23, 24, 25, 26] (ok_X5_next (x := r 0) (M := r 1) (L := r 8) (Dk := r 15) (c := r 20) (se := r 21) (wk := r 23) (sp := r 25) (w := r 18) (a := r 19) (df := rf3 r 16 2 2) (fun h9 => by have h8 := ix_in h9; rw [e] at h8; exact (congrArg (rf3 r 16 2 2) h8.symm).trans rfl) h0) rfl rfl rfl rfl (by decide) ?_
    rintro o w hp
    cases x0 with
    | inl z =>
      obtain ⟨g, e1, e2⟩ := PX.inl hp
      subst e1; subst e2
      exact ⟨_, [22, 0, 1, 2, 3, 4, 5, 6, 7, 8, 9, 10, 11, 12, 13, 23, 14, 15, 24, 25, 26, 16, 17, 18, 19, 20, 21], PX.mk g rfl rfl, rfl, rfl⟩
    | inr E =>
      obtain ⟨e1, e2⟩ := PX.inr hp
      subst e1; subst e2
      exact ⟨_, [22, 0, 1, 2, 3, 4, 5, 6, 7, 8, 9, 10, 11, 12, 13, 23, 14, 15, 24, 25, 26, 16, 17, 18, 19, 20, 21], PX.er, rfl, rfl⟩
def gX_turn (N K : Nat) (S : CS) (p0 : Int32) : Option ((Int32 × CS) ⊕ String) := (fX5_turn N K (S.2.2.1 (ix 2 p0)) (S.2.2.2.1 0) (S.2.2.2.1 1) (S.2.2.2.1 2) (S.2.2.2.1 3) (S.2.2.2.1 4) (S.2.2.2.1 5) S.2.2.2.2.2.2 p0).map (fun o => match o with | .inl z => .inl (z.1, (S.1, S.2.1, (upm S.2.2.1 (ix 2 p0) z.2.1), (upm S.2.2.2.1 0 z.2.2.1), S.2.2.2.2.1, S.2.2.2.2.2.1, z.2.2.2)) | .inr E => .inr E)
set_option maxHeartbeats 4000000 in
set_option maxRecDepth 100000 in
theorem ogX_turn {N K : Nat} {r : Nat → Nat} {S : CS} {p0 : Int32} {x : (Int32 × CS) ⊕ String} (hE : gX_turn N K S p0 = some x) : OkM yX5_turn (.code yX5_turn cX5_turn 4 (some .int)) (9) 1 6 [.ref (r 0), .int p0] (WX r S) ((PX (U := Int32 × CS) (fun z _ => some (.int z.1)) (fun z _ => WX r z.2) (WX r S)) x) := by
  unfold gX_turn at hE
  obtain ⟨x0, h0, h1⟩ := Option.map_eq_some_iff.mp hE
  subst h1
  clear hE
  rcases lt2 (ix_lt (n := 2) (p := p0) (by decide)) with e | e
  · rw [e] at h0
    try rw [e]
    refine ok_fr (wc := [(r 0, .inr (7, [.ref (r 1), .ref (r 8), .ref (r 15), .ref (r 20), .ref (r 21), .ref (r 23), .ref (r 25)])), (r 15, .inl (3, 2, .inr (.inr (.inr (.inr (rf3 r 16 2 2)))))), (r 16, .inr (6, [.ref (r 17)])), (r 17, .inl (0, 21, .inl (S.2.2.1 0))), (r 20, .inr (2, [.int (S.2.2.2.1 0), .int (S.2.2.2.1 1), .int (S.2.2.2.1 2), .int (S.2.2.2.1 3), .int (S.2.2.2.1 4), .int (S.2.2.2.1 5)])), (r 25, .inr (6, [.ref (r 26)])), (r 26, .inl (0, 21, .inl S.2.2.2.2.2.2))]) (wr := [(r 1, .inl (1, 3, .inr (.inr (.inr (.inr (rf3 r 2 2 3)))))), (r 2, .inr (4, [.ref (r 3), .int (S.1 0).1])), (r 3, .inl (0, 2646, .inl (S.1 0).2)), (r 4, .inr (4, [.ref (r 5), .int (S.1 1).1])), (r 5, .inl (0, 2646, .inl (S.1 1).2)), (r 6, .inr (4, [.ref (r 7), .int (S.1 2).1])), (r 7, .inl (0, 2646, .inl (S.1 2).2)), (r 8, .inl (2, 3, .inr (.inr (.inr (.inr (rf3 r 9 2 3)))))), (r 9, .inr (3, [.int (S.2.1 0).1, .ref (r 10), .int (S.2.1 0).2.1])), (r 10, .inl (0, 21, .inl (S.2.1 0).2.2)), (r 11, .inr (3, [.int (S.2.1 1).1, .ref (r 12), .int (S.2.1 1).2.1])), (r 12, .inl (0, 21, .inl (S.2.1 1).2.2)), (r 13, .inr (3, [.int (S.2.1 2).1, .ref (r 14), .int (S.2.1 2).2.1])), (r 14, .inl (0, 21, .inl (S.2.1 2).2.2)), (r 18, .inr (6, [.ref (r 19)])), (r 19, .inl (0, 21, .inl (S.2.2.1 1))), (r 21, .inr (5, [.ref (r 22)])), (r 22, .inl (0, 21, .inl S.2.2.2.2.1)), (r 23, .inr (6, [.ref (r 24)])), (r 24, .inl (0, 21, .inl S.2.2.2.2.2.1))]) [0, 15, 16, 17, 20, 25, 26] [1, 2, 3, 4, 5, 6, 7, 8, 9, 10, 11, 12, 13, 14, 18, 19, 21, 22, 23, 24] (ok_X5_turn (x := r 0) (M := r 1) (L := r 8) (Dk := r 15) (c := r 20) (se := r 21) (wk := r 23) (sp := r 25) (w := r 16) (a := r 17) (sa := r 26) (df := rf3 r 16 2 2) (fun h9 => by have h8 := ix_in h9; rw [e] at h8; exact (congrArg (rf3 r 16 2 2) h8.symm).trans rfl) h0) rfl rfl rfl rfl (by decide) ?_
    rintro o w hp
    cases x0 with
    | inl z =>
      obtain ⟨g, e1, e2⟩ := PX.inl hp
      subst e1; subst e2
      exact ⟨_, [20, 0, 1, 2, 3, 4, 5, 6, 7, 8, 9, 10, 11, 12, 13, 21, 22, 23, 14, 15, 24, 16, 17, 18, 19, 25, 26], PX.mk g rfl rfl, rfl, rfl⟩
    | inr E =>
      obtain ⟨e1, e2⟩ := PX.inr hp
      subst e1; subst e2
      exact ⟨_, [20, 0, 1, 2, 3, 4, 5, 6, 7, 8, 9, 10, 11, 12, 13, 21, 22, 23, 14, 15, 24, 16, 17, 18, 19, 25, 26], PX.er, rfl, rfl⟩
  · rw [e] at h0
    try rw [e]
    refine ok_fr (wc := [(r 0, .inr (7, [.ref (r 1), .ref (r 8), .ref (r 15), .ref (r 20), .ref (r 21), .ref (r 23), .ref (r 25)])), (r 15, .inl (3, 2, .inr (.inr (.inr (.inr (rf3 r 16 2 2)))))), (r 18, .inr (6, [.ref (r 19)])), (r 19, .inl (0, 21, .inl (S.2.2.1 1))), (r 20, .inr (2, [.int (S.2.2.2.1 0), .int (S.2.2.2.1 1), .int (S.2.2.2.1 2), .int (S.2.2.2.1 3), .int (S.2.2.2.1 4), .int (S.2.2.2.1 5)])), (r 25, .inr (6, [.ref (r 26)])), (r 26, .inl (0, 21, .inl S.2.2.2.2.2.2))]) (wr := [(r 1, .inl (1, 3, .inr (.inr (.inr (.inr (rf3 r 2 2 3)))))), (r 2, .inr (4, [.ref (r 3), .int (S.1 0).1])), (r 3, .inl (0, 2646, .inl (S.1 0).2)), (r 4, .inr (4, [.ref (r 5), .int (S.1 1).1])), (r 5, .inl (0, 2646, .inl (S.1 1).2)), (r 6, .inr (4, [.ref (r 7), .int (S.1 2).1])), (r 7, .inl (0, 2646, .inl (S.1 2).2)), (r 8, .inl (2, 3, .inr (.inr (.inr (.inr (rf3 r 9 2 3)))))), (r 9, .inr (3, [.int (S.2.1 0).1, .ref (r 10), .int (S.2.1 0).2.1])), (r 10, .inl (0, 21, .inl (S.2.1 0).2.2)), (r 11, .inr (3, [.int (S.2.1 1).1, .ref (r 12), .int (S.2.1 1).2.1])), (r 12, .inl (0, 21, .inl (S.2.1 1).2.2)), (r 13, .inr (3, [.int (S.2.1 2).1, .ref (r 14), .int (S.2.1 2).2.1])), (r 14, .inl (0, 21, .inl (S.2.1 2).2.2)), (r 16, .inr (6, [.ref (r 17)])), (r 17, .inl (0, 21, .inl (S.2.2.1 0))), (r 21, .inr (5, [.ref (r 22)])), (r 22, .inl (0, 21, .inl S.2.2.2.2.1)), (r 23, .inr (6, [.ref (r 24)])), (r 24, .inl (0, 21, .inl S.2.2.2.2.2.1))]) [0, 15, 18, 19, 20, 25, 26] [1, 2, 3, 4, 5, 6, 7, 8, 9, 10, 11, 12, 13, 14, 16, 17, 21, 22, 23, 24] (ok_X5_turn (x := r 0) (M := r 1) (L := r 8) (Dk := r 15) (c := r 20) (se := r 21) (wk := r 23) (sp := r 25) (w := r 18) (a := r 19) (sa := r 26) (df := rf3 r 16 2 2) (fun h9 => by have h8 := ix_in h9; rw [e] at h8; exact (congrArg (rf3 r 16 2 2) h8.symm).trans rfl) h0) rfl rfl rfl rfl (by decide) ?_
    rintro o w hp
    cases x0 with
    | inl z =>
      obtain ⟨g, e1, e2⟩ := PX.inl hp
      subst e1; subst e2
      exact ⟨_, [20, 0, 1, 2, 3, 4, 5, 6, 7, 8, 9, 10, 11, 12, 13, 21, 14, 15, 22, 23, 24, 16, 17, 18, 19, 25, 26], PX.mk g rfl rfl, rfl, rfl⟩
    | inr E =>
      obtain ⟨e1, e2⟩ := PX.inr hp
      subst e1; subst e2
      exact ⟨_, [20, 0, 1, 2, 3, 4, 5, 6, 7, 8, 9, 10, 11, 12, 13, 21, 14, 15, 22, 23, 24, 16, 17, 18, 19, 25, 26], PX.er, rfl, rfl⟩
def gX_toUnlike (N K : Nat) (S : CS) (p0 : Int32) : Option ((Int32 × CS) ⊕ String) := (fX5_toUnlike N K (S.2.2.1 (ix 2 p0)) (S.2.2.2.1 0) (S.2.2.2.1 1) (S.2.2.2.1 2) (S.2.2.2.1 3) (S.2.2.2.1 4) (S.2.2.2.1 5) S.2.2.2.2.2.2 p0).map (fun o => match o with | .inl z => .inl (z.1, (S.1, S.2.1, (upm S.2.2.1 (ix 2 p0) z.2.1), (upm (upm S.2.2.2.1 0 z.2.2.1) 4 z.2.2.2.1), S.2.2.2.2.1, S.2.2.2.2.2.1, z.2.2.2.2)) | .inr E => .inr E)
set_option maxHeartbeats 4000000 in
set_option maxRecDepth 100000 in
theorem ogX_toUnlike {N K : Nat} {r : Nat → Nat} {S : CS} {p0 : Int32} {x : (Int32 × CS) ⊕ String} (hE : gX_toUnlike N K S p0 = some x) : OkM yX5_toUnlike (.code yX5_toUnlike cX5_toUnlike 3 (some .int)) (9) 1 6 [.ref (r 0), .int p0] (WX r S) ((PX (U := Int32 × CS) (fun z _ => some (.int z.1)) (fun z _ => WX r z.2) (WX r S)) x) := by
  unfold gX_toUnlike at hE
  obtain ⟨x0, h0, h1⟩ := Option.map_eq_some_iff.mp hE
  subst h1
  clear hE
  rcases lt2 (ix_lt (n := 2) (p := p0) (by decide)) with e | e
  · rw [e] at h0
    try rw [e]
    refine ok_fr (wc := [(r 0, .inr (7, [.ref (r 1), .ref (r 8), .ref (r 15), .ref (r 20), .ref (r 21), .ref (r 23), .ref (r 25)])), (r 15, .inl (3, 2, .inr (.inr (.inr (.inr (rf3 r 16 2 2)))))), (r 16, .inr (6, [.ref (r 17)])), (r 17, .inl (0, 21, .inl (S.2.2.1 0))), (r 20, .inr (2, [.int (S.2.2.2.1 0), .int (S.2.2.2.1 1), .int (S.2.2.2.1 2), .int (S.2.2.2.1 3), .int (S.2.2.2.1 4), .int (S.2.2.2.1 5)])), (r 25, .inr (6, [.ref (r 26)])), (r 26, .inl (0, 21, .inl S.2.2.2.2.2.2))]) (wr := [(r 1, .inl (1, 3, .inr (.inr (.inr (.inr (rf3 r 2 2 3)))))), (r 2, .inr (4, [.ref (r 3), .int (S.1 0).1])), (r 3, .inl (0, 2646, .inl (S.1 0).2)), (r 4, .inr (4, [.ref (r 5), .int (S.1 1).1])), (r 5, .inl (0, 2646, .inl (S.1 1).2)), (r 6, .inr (4, [.ref (r 7), .int (S.1 2).1])), (r 7, .inl (0, 2646, .inl (S.1 2).2)), (r 8, .inl (2, 3, .inr (.inr (.inr (.inr (rf3 r 9 2 3)))))), (r 9, .inr (3, [.int (S.2.1 0).1, .ref (r 10), .int (S.2.1 0).2.1])), (r 10, .inl (0, 21, .inl (S.2.1 0).2.2)), (r 11, .inr (3, [.int (S.2.1 1).1, .ref (r 12), .int (S.2.1 1).2.1])), (r 12, .inl (0, 21, .inl (S.2.1 1).2.2)), (r 13, .inr (3, [.int (S.2.1 2).1, .ref (r 14), .int (S.2.1 2).2.1])), (r 14, .inl (0, 21, .inl (S.2.1 2).2.2)), (r 18, .inr (6, [.ref (r 19)])), (r 19, .inl (0, 21, .inl (S.2.2.1 1))), (r 21, .inr (5, [.ref (r 22)])), (r 22, .inl (0, 21, .inl S.2.2.2.2.1)), (r 23, .inr (6, [.ref (r 24)])), (r 24, .inl (0, 21, .inl S.2.2.2.2.2.1))]) [0, 15, 16, 17, 20, 25, 26] [1, 2, 3, 4, 5, 6, 7, 8, 9, 10, 11, 12, 13, 14, 18, 19, 21, 22, 23, 24] (ok_X5_toUnlike (x := r 0) (M := r 1) (L := r 8) (Dk := r 15) (c := r 20) (se := r 21) (wk := r 23) (sp := r 25) (w := r 16) (a := r 17) (sa := r 26) (df := rf3 r 16 2 2) (fun h9 => by have h8 := ix_in h9; rw [e] at h8; exact (congrArg (rf3 r 16 2 2) h8.symm).trans rfl) h0) rfl rfl rfl rfl (by decide) ?_
    rintro o w hp
    cases x0 with
    | inl z =>
      obtain ⟨g, e1, e2⟩ := PX.inl hp
      subst e1; subst e2
      exact ⟨_, [20, 0, 1, 2, 3, 4, 5, 6, 7, 8, 9, 10, 11, 12, 13, 21, 22, 23, 14, 15, 24, 16, 17, 18, 19, 25, 26], PX.mk g rfl rfl, rfl, rfl⟩
    | inr E =>
      obtain ⟨e1, e2⟩ := PX.inr hp
      subst e1; subst e2
      exact ⟨_, [20, 0, 1, 2, 3, 4, 5, 6, 7, 8, 9, 10, 11, 12, 13, 21, 22, 23, 14, 15, 24, 16, 17, 18, 19, 25, 26], PX.er, rfl, rfl⟩
  · rw [e] at h0
    try rw [e]
    refine ok_fr (wc := [(r 0, .inr (7, [.ref (r 1), .ref (r 8), .ref (r 15), .ref (r 20), .ref (r 21), .ref (r 23), .ref (r 25)])), (r 15, .inl (3, 2, .inr (.inr (.inr (.inr (rf3 r 16 2 2)))))), (r 18, .inr (6, [.ref (r 19)])), (r 19, .inl (0, 21, .inl (S.2.2.1 1))), (r 20, .inr (2, [.int (S.2.2.2.1 0), .int (S.2.2.2.1 1), .int (S.2.2.2.1 2), .int (S.2.2.2.1 3), .int (S.2.2.2.1 4), .int (S.2.2.2.1 5)])), (r 25, .inr (6, [.ref (r 26)])), (r 26, .inl (0, 21, .inl S.2.2.2.2.2.2))]) (wr := [(r 1, .inl (1, 3, .inr (.inr (.inr (.inr (rf3 r 2 2 3)))))), (r 2, .inr (4, [.ref (r 3), .int (S.1 0).1])), (r 3, .inl (0, 2646, .inl (S.1 0).2)), (r 4, .inr (4, [.ref (r 5), .int (S.1 1).1])), (r 5, .inl (0, 2646, .inl (S.1 1).2)), (r 6, .inr (4, [.ref (r 7), .int (S.1 2).1])), (r 7, .inl (0, 2646, .inl (S.1 2).2)), (r 8, .inl (2, 3, .inr (.inr (.inr (.inr (rf3 r 9 2 3)))))), (r 9, .inr (3, [.int (S.2.1 0).1, .ref (r 10), .int (S.2.1 0).2.1])), (r 10, .inl (0, 21, .inl (S.2.1 0).2.2)), (r 11, .inr (3, [.int (S.2.1 1).1, .ref (r 12), .int (S.2.1 1).2.1])), (r 12, .inl (0, 21, .inl (S.2.1 1).2.2)), (r 13, .inr (3, [.int (S.2.1 2).1, .ref (r 14), .int (S.2.1 2).2.1])), (r 14, .inl (0, 21, .inl (S.2.1 2).2.2)), (r 16, .inr (6, [.ref (r 17)])), (r 17, .inl (0, 21, .inl (S.2.2.1 0))), (r 21, .inr (5, [.ref (r 22)])), (r 22, .inl (0, 21, .inl S.2.2.2.2.1)), (r 23, .inr (6, [.ref (r 24)])), (r 24, .inl (0, 21, .inl S.2.2.2.2.2.1))]) [0, 15, 18, 19, 20, 25, 26] [1, 2, 3, 4, 5, 6, 7, 8, 9, 10, 11, 12, 13, 14, 16, 17, 21, 22, 23, 24] (ok_X5_toUnlike (x := r 0) (M := r 1) (L := r 8) (Dk := r 15) (c := r 20) (se := r 21) (wk := r 23) (sp := r 25) (w := r 18) (a := r 19) (sa := r 26) (df := rf3 r 16 2 2) (fun h9 => by have h8 := ix_in h9; rw [e] at h8; exact (congrArg (rf3 r 16 2 2) h8.symm).trans rfl) h0) rfl rfl rfl rfl (by decide) ?_
    rintro o w hp
    cases x0 with
    | inl z =>
      obtain ⟨g, e1, e2⟩ := PX.inl hp
      subst e1; subst e2
      exact ⟨_, [20, 0, 1, 2, 3, 4, 5, 6, 7, 8, 9, 10, 11, 12, 13, 21, 14, 15, 22, 23, 24, 16, 17, 18, 19, 25, 26], PX.mk g rfl rfl, rfl, rfl⟩
    | inr E =>
      obtain ⟨e1, e2⟩ := PX.inr hp
      subst e1; subst e2
      exact ⟨_, [20, 0, 1, 2, 3, 4, 5, 6, 7, 8, 9, 10, 11, 12, 13, 21, 14, 15, 22, 23, 24, 16, 17, 18, 19, 25, 26], PX.er, rfl, rfl⟩
def gX_toOdd (N K : Nat) (S : CS) (p0 : Int32) : Option ((Int32 × CS) ⊕ String) := (fX5_toOdd N K (S.2.2.1 (ix 2 p0)) (S.2.2.2.1 0) (S.2.2.2.1 1) (S.2.2.2.1 2) (S.2.2.2.1 3) (S.2.2.2.1 4) (S.2.2.2.1 5) S.2.2.2.2.2.2 p0).map (fun o => match o with | .inl z => .inl (z.1, (S.1, S.2.1, (upm S.2.2.1 (ix 2 p0) z.2.1), (upm (upm S.2.2.2.1 0 z.2.2.1) 4 z.2.2.2.1), S.2.2.2.2.1, S.2.2.2.2.2.1, z.2.2.2.2)) | .inr E => .inr E)
set_option maxHeartbeats 4000000 in
set_option maxRecDepth 100000 in
theorem ogX_toOdd {N K : Nat} {r : Nat → Nat} {S : CS} {p0 : Int32} {x : (Int32 × CS) ⊕ String} (hE : gX_toOdd N K S p0 = some x) : OkM yX5_toOdd (.code yX5_toOdd cX5_toOdd 3 (some .int)) (9) 1 6 [.ref (r 0), .int p0] (WX r S) ((PX (U := Int32 × CS) (fun z _ => some (.int z.1)) (fun z _ => WX r z.2) (WX r S)) x) := by
  unfold gX_toOdd at hE
  obtain ⟨x0, h0, h1⟩ := Option.map_eq_some_iff.mp hE
  subst h1
  clear hE
  rcases lt2 (ix_lt (n := 2) (p := p0) (by decide)) with e | e
  · rw [e] at h0
    try rw [e]
    refine ok_fr (wc := [(r 0, .inr (7, [.ref (r 1), .ref (r 8), .ref (r 15), .ref (r 20), .ref (r 21), .ref (r 23), .ref (r 25)])), (r 15, .inl (3, 2, .inr (.inr (.inr (.inr (rf3 r 16 2 2)))))), (r 16, .inr (6, [.ref (r 17)])), (r 17, .inl (0, 21, .inl (S.2.2.1 0))), (r 20, .inr (2, [.int (S.2.2.2.1 0), .int (S.2.2.2.1 1), .int (S.2.2.2.1 2), .int (S.2.2.2.1 3), .int (S.2.2.2.1 4), .int (S.2.2.2.1 5)])), (r 25, .inr (6, [.ref (r 26)])), (r 26, .inl (0, 21, .inl S.2.2.2.2.2.2))]) (wr := [(r 1, .inl (1, 3, .inr (.inr (.inr (.inr (rf3 r 2 2 3)))))), (r 2, .inr (4, [.ref (r 3), .int (S.1 0).1])), (r 3, .inl (0, 2646, .inl (S.1 0).2)), (r 4, .inr (4, [.ref (r 5), .int (S.1 1).1])), (r 5, .inl (0, 2646, .inl (S.1 1).2)), (r 6, .inr (4, [.ref (r 7), .int (S.1 2).1])), (r 7, .inl (0, 2646, .inl (S.1 2).2)), (r 8, .inl (2, 3, .inr (.inr (.inr (.inr (rf3 r 9 2 3)))))), (r 9, .inr (3, [.int (S.2.1 0).1, .ref (r 10), .int (S.2.1 0).2.1])), (r 10, .inl (0, 21, .inl (S.2.1 0).2.2)), (r 11, .inr (3, [.int (S.2.1 1).1, .ref (r 12), .int (S.2.1 1).2.1])), (r 12, .inl (0, 21, .inl (S.2.1 1).2.2)), (r 13, .inr (3, [.int (S.2.1 2).1, .ref (r 14), .int (S.2.1 2).2.1])), (r 14, .inl (0, 21, .inl (S.2.1 2).2.2)), (r 18, .inr (6, [.ref (r 19)])), (r 19, .inl (0, 21, .inl (S.2.2.1 1))), (r 21, .inr (5, [.ref (r 22)])), (r 22, .inl (0, 21, .inl S.2.2.2.2.1)), (r 23, .inr (6, [.ref (r 24)])), (r 24, .inl (0, 21, .inl S.2.2.2.2.2.1))]) [0, 15, 16, 17, 20, 25, 26] [1, 2, 3, 4, 5, 6, 7, 8, 9, 10, 11, 12, 13, 14, 18, 19, 21, 22, 23, 24] (ok_X5_toOdd (x := r 0) (M := r 1) (L := r 8) (Dk := r 15) (c := r 20) (se := r 21) (wk := r 23) (sp := r 25) (w := r 16) (a := r 17) (sa := r 26) (df := rf3 r 16 2 2) (fun h9 => by have h8 := ix_in h9; rw [e] at h8; exact (congrArg (rf3 r 16 2 2) h8.symm).trans rfl) h0) rfl rfl rfl rfl (by decide) ?_
    rintro o w hp
    cases x0 with
    | inl z =>
      obtain ⟨g, e1, e2⟩ := PX.inl hp
      subst e1; subst e2
      exact ⟨_, [20, 0, 1, 2, 3, 4, 5, 6, 7, 8, 9, 10, 11, 12, 13, 21, 22, 23, 14, 15, 24, 16, 17, 18, 19, 25, 26], PX.mk g rfl rfl, rfl, rfl⟩
    | inr E =>
      obtain ⟨e1, e2⟩ := PX.inr hp
      subst e1; subst e2
      exact ⟨_, [20, 0, 1, 2, 3, 4, 5, 6, 7, 8, 9, 10, 11, 12, 13, 21, 22, 23, 14, 15, 24, 16, 17, 18, 19, 25, 26], PX.er, rfl, rfl⟩
  · rw [e] at h0
    try rw [e]
    refine ok_fr (wc := [(r 0, .inr (7, [.ref (r 1), .ref (r 8), .ref (r 15), .ref (r 20), .ref (r 21), .ref (r 23), .ref (r 25)])), (r 15, .inl (3, 2, .inr (.inr (.inr (.inr (rf3 r 16 2 2)))))), (r 18, .inr (6, [.ref (r 19)])), (r 19, .inl (0, 21, .inl (S.2.2.1 1))), (r 20, .inr (2, [.int (S.2.2.2.1 0), .int (S.2.2.2.1 1), .int (S.2.2.2.1 2), .int (S.2.2.2.1 3), .int (S.2.2.2.1 4), .int (S.2.2.2.1 5)])), (r 25, .inr (6, [.ref (r 26)])), (r 26, .inl (0, 21, .inl S.2.2.2.2.2.2))]) (wr := [(r 1, .inl (1, 3, .inr (.inr (.inr (.inr (rf3 r 2 2 3)))))), (r 2, .inr (4, [.ref (r 3), .int (S.1 0).1])), (r 3, .inl (0, 2646, .inl (S.1 0).2)), (r 4, .inr (4, [.ref (r 5), .int (S.1 1).1])), (r 5, .inl (0, 2646, .inl (S.1 1).2)), (r 6, .inr (4, [.ref (r 7), .int (S.1 2).1])), (r 7, .inl (0, 2646, .inl (S.1 2).2)), (r 8, .inl (2, 3, .inr (.inr (.inr (.inr (rf3 r 9 2 3)))))), (r 9, .inr (3, [.int (S.2.1 0).1, .ref (r 10), .int (S.2.1 0).2.1])), (r 10, .inl (0, 21, .inl (S.2.1 0).2.2)), (r 11, .inr (3, [.int (S.2.1 1).1, .ref (r 12), .int (S.2.1 1).2.1])), (r 12, .inl (0, 21, .inl (S.2.1 1).2.2)), (r 13, .inr (3, [.int (S.2.1 2).1, .ref (r 14), .int (S.2.1 2).2.1])), (r 14, .inl (0, 21, .inl (S.2.1 2).2.2)), (r 16, .inr (6, [.ref (r 17)])), (r 17, .inl (0, 21, .inl (S.2.2.1 0))), (r 21, .inr (5, [.ref (r 22)])), (r 22, .inl (0, 21, .inl S.2.2.2.2.1)), (r 23, .inr (6, [.ref (r 24)])), (r 24, .inl (0, 21, .inl S.2.2.2.2.2.1))]) [0, 15, 18, 19, 20, 25, 26] [1, 2, 3, 4, 5, 6, 7, 8, 9, 10, 11, 12, 13, 14, 16, 17, 21, 22, 23, 24] (ok_X5_toOdd (x := r 0) (M := r 1) (L := r 8) (Dk := r 15) (c := r 20) (se := r 21) (wk := r 23) (sp := r 25) (w := r 18) (a := r 19) (sa := r 26) (df := rf3 r 16 2 2) (fun h9 => by have h8 := ix_in h9; rw [e] at h8; exact (congrArg (rf3 r 16 2 2) h8.symm).trans rfl) h0) rfl rfl rfl rfl (by decide) ?_
    rintro o w hp
    cases x0 with
    | inl z =>
      obtain ⟨g, e1, e2⟩ := PX.inl hp
      subst e1; subst e2
      exact ⟨_, [20, 0, 1, 2, 3, 4, 5, 6, 7, 8, 9, 10, 11, 12, 13, 21, 14, 15, 22, 23, 24, 16, 17, 18, 19, 25, 26], PX.mk g rfl rfl, rfl, rfl⟩
    | inr E =>
      obtain ⟨e1, e2⟩ := PX.inr hp
      subst e1; subst e2
      exact ⟨_, [20, 0, 1, 2, 3, 4, 5, 6, 7, 8, 9, 10, 11, 12, 13, 21, 14, 15, 22, 23, 24, 16, 17, 18, 19, 25, 26], PX.er, rfl, rfl⟩
def gX_copyDesk (N K : Nat) (S : CS) (p0 : Int32) : Option ((Int32 × CS) ⊕ String) := (fX5_copyDesk N K (S.2.2.1 (ix 2 p0)) (S.2.2.1 (1 - ix 2 p0)) (S.2.2.2.1 0) (S.2.2.2.1 1) (S.2.2.2.1 2) (S.2.2.2.1 3) (S.2.2.2.1 4) (S.2.2.2.1 5) p0).map (fun o => match o with | .inl z => .inl (z.1, (S.1, S.2.1, (upm S.2.2.1 (1 - ix 2 p0) z.2.1), (upm S.2.2.2.1 0 z.2.2), S.2.2.2.2.1, S.2.2.2.2.2.1, S.2.2.2.2.2.2)) | .inr E => .inr E)
set_option maxHeartbeats 4000000 in
set_option maxRecDepth 100000 in
theorem ogX_copyDesk {N K : Nat} {r : Nat → Nat} {S : CS} {p0 : Int32} {x : (Int32 × CS) ⊕ String} (hE : gX_copyDesk N K S p0 = some x) : OkM yX5_copyDesk (.code yX5_copyDesk cX5_copyDesk 3 (some .int)) (9) 2 12 [.ref (r 0), .int p0] (WX r S) ((PX (U := Int32 × CS) (fun z _ => some (.int z.1)) (fun z _ => WX r z.2) (WX r S)) x) := by
  unfold gX_copyDesk at hE
  obtain ⟨x0, h0, h1⟩ := Option.map_eq_some_iff.mp hE
  subst h1
  clear hE
  rcases lt2 (ix_lt (n := 2) (p := p0) (by decide)) with e | e
  · rw [e] at h0
    try rw [e]
    refine ok_fr (wc := [(r 0, .inr (7, [.ref (r 1), .ref (r 8), .ref (r 15), .ref (r 20), .ref (r 21), .ref (r 23), .ref (r 25)])), (r 15, .inl (3, 2, .inr (.inr (.inr (.inr (rf3 r 16 2 2)))))), (r 16, .inr (6, [.ref (r 17)])), (r 17, .inl (0, 21, .inl (S.2.2.1 0))), (r 18, .inr (6, [.ref (r 19)])), (r 19, .inl (0, 21, .inl (S.2.2.1 1))), (r 20, .inr (2, [.int (S.2.2.2.1 0), .int (S.2.2.2.1 1), .int (S.2.2.2.1 2), .int (S.2.2.2.1 3), .int (S.2.2.2.1 4), .int (S.2.2.2.1 5)]))]) (wr := [(r 1, .inl (1, 3, .inr (.inr (.inr (.inr (rf3 r 2 2 3)))))), (r 2, .inr (4, [.ref (r 3), .int (S.1 0).1])), (r 3, .inl (0, 2646, .inl (S.1 0).2)), (r 4, .inr (4, [.ref (r 5), .int (S.1 1).1])), (r 5, .inl (0, 2646, .inl (S.1 1).2)), (r 6, .inr (4, [.ref (r 7), .int (S.1 2).1])), (r 7, .inl (0, 2646, .inl (S.1 2).2)), (r 8, .inl (2, 3, .inr (.inr (.inr (.inr (rf3 r 9 2 3)))))), (r 9, .inr (3, [.int (S.2.1 0).1, .ref (r 10), .int (S.2.1 0).2.1])), (r 10, .inl (0, 21, .inl (S.2.1 0).2.2)), (r 11, .inr (3, [.int (S.2.1 1).1, .ref (r 12), .int (S.2.1 1).2.1])), (r 12, .inl (0, 21, .inl (S.2.1 1).2.2)), (r 13, .inr (3, [.int (S.2.1 2).1, .ref (r 14), .int (S.2.1 2).2.1])), (r 14, .inl (0, 21, .inl (S.2.1 2).2.2)), (r 21, .inr (5, [.ref (r 22)])), (r 22, .inl (0, 21, .inl S.2.2.2.2.1)), (r 23, .inr (6, [.ref (r 24)])), (r 24, .inl (0, 21, .inl S.2.2.2.2.2.1)), (r 25, .inr (6, [.ref (r 26)])), (r 26, .inl (0, 21, .inl S.2.2.2.2.2.2))]) [0, 15, 16, 17, 18, 19, 20] [1, 2, 3, 4, 5, 6, 7, 8, 9, 10, 11, 12, 13, 14, 21, 22, 23, 24, 25, 26] (ok_X5_copyDesk (x := r 0) (M := r 1) (L := r 8) (Dk := r 15) (c := r 20) (se := r 21) (wk := r 23) (sp := r 25) (w := r 16) (a := r 17) (v := r 18) (b := r 19) (df := rf3 r 16 2 2) (fun h9 => by have h8 := ix_in h9; rw [e] at h8; exact (congrArg (rf3 r 16 2 2) h8.symm).trans rfl) (fun h9 => by have h8 := ix_other h9; rw [e] at h8; exact (congrArg (rf3 r 16 2 2) h8).trans rfl) h0) rfl rfl rfl rfl (by decide) ?_
    rintro o w hp
    cases x0 with
    | inl z =>
      obtain ⟨g, e1, e2⟩ := PX.inl hp
      subst e1; subst e2
      exact ⟨_, [20, 0, 1, 2, 3, 4, 5, 6, 7, 8, 9, 10, 11, 12, 13, 21, 22, 23, 24, 25, 26, 14, 15, 16, 17, 18, 19], PX.mk g rfl rfl, rfl, rfl⟩
    | inr E =>
      obtain ⟨e1, e2⟩ := PX.inr hp
      subst e1; subst e2
      exact ⟨_, [20, 0, 1, 2, 3, 4, 5, 6, 7, 8, 9, 10, 11, 12, 13, 21, 22, 23, 24, 25, 26, 14, 15, 16, 17, 18, 19], PX.er, rfl, rfl⟩
  · rw [e] at h0
    try rw [e]
    refine ok_fr (wc := [(r 0, .inr (7, [.ref (r 1), .ref (r 8), .ref (r 15), .ref (r 20), .ref (r 21), .ref (r 23), .ref (r 25)])), (r 15, .inl (3, 2, .inr (.inr (.inr (.inr (rf3 r 16 2 2)))))), (r 18, .inr (6, [.ref (r 19)])), (r 19, .inl (0, 21, .inl (S.2.2.1 1))), (r 16, .inr (6, [.ref (r 17)])), (r 17, .inl (0, 21, .inl (S.2.2.1 0))), (r 20, .inr (2, [.int (S.2.2.2.1 0), .int (S.2.2.2.1 1), .int (S.2.2.2.1 2), .int (S.2.2.2.1 3), .int (S.2.2.2.1 4), .int (S.2.2.2.1 5)]))]) (wr := [(r 1, .inl (1, 3, .inr (.inr (.inr (.inr (rf3 r 2 2 3)))))), (r 2, .inr (4, [.ref (r 3), .int (S.1 0).1])), (r 3, .inl (0, 2646, .inl (S.1 0).2)), (r 4, .inr (4, [.ref (r 5), .int (S.1 1).1])), (r 5, .inl (0, 2646, .inl (S.1 1).2)), (r 6, .inr (4, [.ref (r 7), .int (S.1 2).1])), (r 7, .inl (0, 2646, .inl (S.1 2).2)), (r 8, .inl (2, 3, .inr (.inr (.inr (.inr (rf3 r 9 2 3)))))), (r 9, .inr (3, [.int (S.2.1 0).1, .ref (r 10), .int (S.2.1 0).2.1])), (r 10, .inl (0, 21, .inl (S.2.1 0).2.2)), (r 11, .inr (3, [.int (S.2.1 1).1, .ref (r 12), .int (S.2.1 1).2.1])), (r 12, .inl (0, 21, .inl (S.2.1 1).2.2)), (r 13, .inr (3, [.int (S.2.1 2).1, .ref (r 14), .int (S.2.1 2).2.1])), (r 14, .inl (0, 21, .inl (S.2.1 2).2.2)), (r 21, .inr (5, [.ref (r 22)])), (r 22, .inl (0, 21, .inl S.2.2.2.2.1)), (r 23, .inr (6, [.ref (r 24)])), (r 24, .inl (0, 21, .inl S.2.2.2.2.2.1)), (r 25, .inr (6, [.ref (r 26)])), (r 26, .inl (0, 21, .inl S.2.2.2.2.2.2))]) [0, 15, 18, 19, 16, 17, 20] [1, 2, 3, 4, 5, 6, 7, 8, 9, 10, 11, 12, 13, 14, 21, 22, 23, 24, 25, 26] (ok_X5_copyDesk (x := r 0) (M := r 1) (L := r 8) (Dk := r 15) (c := r 20) (se := r 21) (wk := r 23) (sp := r 25) (w := r 18) (a := r 19) (v := r 16) (b := r 17) (df := rf3 r 16 2 2) (fun h9 => by have h8 := ix_in h9; rw [e] at h8; exact (congrArg (rf3 r 16 2 2) h8.symm).trans rfl) (fun h9 => by have h8 := ix_other h9; rw [e] at h8; exact (congrArg (rf3 r 16 2 2) h8).trans rfl) h0) rfl rfl rfl rfl (by decide) ?_
    rintro o w hp
    cases x0 with
    | inl z =>
      obtain ⟨g, e1, e2⟩ := PX.inl hp
      subst e1; subst e2
      exact ⟨_, [20, 0, 1, 2, 3, 4, 5, 6, 7, 8, 9, 10, 11, 12, 13, 21, 24, 25, 22, 23, 26, 14, 15, 16, 17, 18, 19], PX.mk g rfl rfl, rfl, rfl⟩
    | inr E =>
      obtain ⟨e1, e2⟩ := PX.inr hp
      subst e1; subst e2
      exact ⟨_, [20, 0, 1, 2, 3, 4, 5, 6, 7, 8, 9, 10, 11, 12, 13, 21, 24, 25, 22, 23, 26, 14, 15, 16, 17, 18, 19], PX.er, rfl, rfl⟩
def gX_times (N K : Nat) (S : CS) (p0 : Int32) (p1 : Int32) : Option ((Int32 × CS) ⊕ String) := (fX5_times N K (S.2.2.1 (ix 2 p0)) p0 p1).map (fun o => match o with | .inl z => .inl (z, (S.1, S.2.1, S.2.2.1, S.2.2.2.1, S.2.2.2.2.1, S.2.2.2.2.2.1, S.2.2.2.2.2.2)) | .inr E => .inr E)
set_option maxHeartbeats 4000000 in
set_option maxRecDepth 100000 in
theorem ogX_times {N K : Nat} {r : Nat → Nat} {S : CS} {p0 : Int32} {p1 : Int32} {x : (Int32 × CS) ⊕ String} (hE : gX_times N K S p0 p1 = some x) : OkM yX5_times (.code yX5_times cX5_times 4 (some .int)) (9) 2 12 [.ref (r 0), .int p0, .int p1] (WX r S) ((PX (U := Int32 × CS) (fun z _ => some (.int z.1)) (fun z _ => WX r z.2) (WX r S)) x) := by
  unfold gX_times at hE
  obtain ⟨x0, h0, h1⟩ := Option.map_eq_some_iff.mp hE
  subst h1
  clear hE
  rcases lt2 (ix_lt (n := 2) (p := p0) (by decide)) with e | e
  · rw [e] at h0
    try rw [e]
    refine ok_fr (wc := [(r 0, .inr (7, [.ref (r 1), .ref (r 8), .ref (r 15), .ref (r 20), .ref (r 21), .ref (r 23), .ref (r 25)])), (r 15, .inl (3, 2, .inr (.inr (.inr (.inr (rf3 r 16 2 2)))))), (r 16, .inr (6, [.ref (r 17)])), (r 17, .inl (0, 21, .inl (S.2.2.1 0)))]) (wr := [(r 1, .inl (1, 3, .inr (.inr (.inr (.inr (rf3 r 2 2 3)))))), (r 2, .inr (4, [.ref (r 3), .int (S.1 0).1])), (r 3, .inl (0, 2646, .inl (S.1 0).2)), (r 4, .inr (4, [.ref (r 5), .int (S.1 1).1])), (r 5, .inl (0, 2646, .inl (S.1 1).2)), (r 6, .inr (4, [.ref (r 7), .int (S.1 2).1])), (r 7, .inl (0, 2646, .inl (S.1 2).2)), (r 8, .inl (2, 3, .inr (.inr (.inr (.inr (rf3 r 9 2 3)))))), (r 9, .inr (3, [.int (S.2.1 0).1, .ref (r 10), .int (S.2.1 0).2.1])), (r 10, .inl (0, 21, .inl (S.2.1 0).2.2)), (r 11, .inr (3, [.int (S.2.1 1).1, .ref (r 12), .int (S.2.1 1).2.1])), (r 12, .inl (0, 21, .inl (S.2.1 1).2.2)), (r 13, .inr (3, [.int (S.2.1 2).1, .ref (r 14), .int (S.2.1 2).2.1])), (r 14, .inl (0, 21, .inl (S.2.1 2).2.2)), (r 18, .inr (6, [.ref (r 19)])), (r 19, .inl (0, 21, .inl (S.2.2.1 1))), (r 20, .inr (2, [.int (S.2.2.2.1 0), .int (S.2.2.2.1 1), .int (S.2.2.2.1 2), .int (S.2.2.2.1 3), .int (S.2.2.2.1 4), .int (S.2.2.2.1 5)])), (r 21, .inr (5, [.ref (r 22)])), (r 22, .inl (0, 21, .inl S.2.2.2.2.1)), (r 23, .inr (6, [.ref (r 24)])), (r 24, .inl (0, 21, .inl S.2.2.2.2.2.1)), (r 25, .inr (6, [.ref (r 26)])), (r 26, .inl (0, 21, .inl S.2.2.2.2.2.2))]) [0, 15, 16, 17] [1, 2, 3, 4, 5, 6, 7, 8, 9, 10, 11, 12, 13, 14, 18, 19, 20, 21, 22, 23, 24, 25, 26] (ok_X5_times (x := r 0) (M := r 1) (L := r 8) (Dk := r 15) (c := r 20) (se := r 21) (wk := r 23) (sp := r 25) (w := r 16) (a := r 17) (df := rf3 r 16 2 2) (fun h9 => by have h8 := ix_in h9; rw [e] at h8; exact (congrArg (rf3 r 16 2 2) h8.symm).trans rfl) h0) rfl rfl rfl rfl (by decide) ?_
    rintro o w hp
    cases x0 with
    | inl z =>
      obtain ⟨g, e1, e2⟩ := PX.inl hp
      subst e1; subst e2
      exact ⟨_, [23, 0, 1, 2, 3, 4, 5, 6, 7, 8, 9, 10, 11, 12, 13, 24, 25, 26, 14, 15, 16, 17, 18, 19, 20, 21, 22], PX.mk g rfl rfl, rfl, rfl⟩
    | inr E =>
      obtain ⟨e1, e2⟩ := PX.inr hp
      subst e1; subst e2
      exact ⟨_, [23, 0, 1, 2, 3, 4, 5, 6, 7, 8, 9, 10, 11, 12, 13, 24, 25, 26, 14, 15, 16, 17, 18, 19, 20, 21, 22], PX.er, rfl, rfl⟩
  · rw [e] at h0
    try rw [e]
    refine ok_fr (wc := [(r 0, .inr (7, [.ref (r 1), .ref (r 8), .ref (r 15), .ref (r 20), .ref (r 21), .ref (r 23), .ref (r 25)])), (r 15, .inl (3, 2, .inr (.inr (.inr (.inr (rf3 r 16 2 2)))))), (r 18, .inr (6, [.ref (r 19)])), (r 19, .inl (0, 21, .inl (S.2.2.1 1)))]) (wr := [(r 1, .inl (1, 3, .inr (.inr (.inr (.inr (rf3 r 2 2 3)))))), (r 2, .inr (4, [.ref (r 3), .int (S.1 0).1])), (r 3, .inl (0, 2646, .inl (S.1 0).2)), (r 4, .inr (4, [.ref (r 5), .int (S.1 1).1])), (r 5, .inl (0, 2646, .inl (S.1 1).2)), (r 6, .inr (4, [.ref (r 7), .int (S.1 2).1])), (r 7, .inl (0, 2646, .inl (S.1 2).2)), (r 8, .inl (2, 3, .inr (.inr (.inr (.inr (rf3 r 9 2 3)))))), (r 9, .inr (3, [.int (S.2.1 0).1, .ref (r 10), .int (S.2.1 0).2.1])), (r 10, .inl (0, 21, .inl (S.2.1 0).2.2)), (r 11, .inr (3, [.int (S.2.1 1).1, .ref (r 12), .int (S.2.1 1).2.1])), (r 12, .inl (0, 21, .inl (S.2.1 1).2.2)), (r 13, .inr (3, [.int (S.2.1 2).1, .ref (r 14), .int (S.2.1 2).2.1])), (r 14, .inl (0, 21, .inl (S.2.1 2).2.2)), (r 16, .inr (6, [.ref (r 17)])), (r 17, .inl (0, 21, .inl (S.2.2.1 0))), (r 20, .inr (2, [.int (S.2.2.2.1 0), .int (S.2.2.2.1 1), .int (S.2.2.2.1 2), .int (S.2.2.2.1 3), .int (S.2.2.2.1 4), .int (S.2.2.2.1 5)])), (r 21, .inr (5, [.ref (r 22)])), (r 22, .inl (0, 21, .inl S.2.2.2.2.1)), (r 23, .inr (6, [.ref (r 24)])), (r 24, .inl (0, 21, .inl S.2.2.2.2.2.1)), (r 25, .inr (6, [.ref (r 26)])), (r 26, .inl (0, 21, .inl S.2.2.2.2.2.2))]) [0, 15, 18, 19] [1, 2, 3, 4, 5, 6, 7, 8, 9, 10, 11, 12, 13, 14, 16, 17, 20, 21, 22, 23, 24, 25, 26] (ok_X5_times (x := r 0) (M := r 1) (L := r 8) (Dk := r 15) (c := r 20) (se := r 21) (wk := r 23) (sp := r 25) (w := r 18) (a := r 19) (df := rf3 r 16 2 2) (fun h9 => by have h8 := ix_in h9; rw [e] at h8; exact (congrArg (rf3 r 16 2 2) h8.symm).trans rfl) h0) rfl rfl rfl rfl (by decide) ?_
    rintro o w hp
    cases x0 with
    | inl z =>
      obtain ⟨g, e1, e2⟩ := PX.inl hp
      subst e1; subst e2
      exact ⟨_, [23, 0, 1, 2, 3, 4, 5, 6, 7, 8, 9, 10, 11, 12, 13, 24, 14, 15, 25, 26, 16, 17, 18, 19, 20, 21, 22], PX.mk g rfl rfl, rfl, rfl⟩
    | inr E =>
      obtain ⟨e1, e2⟩ := PX.inr hp
      subst e1; subst e2
      exact ⟨_, [23, 0, 1, 2, 3, 4, 5, 6, 7, 8, 9, 10, 11, 12, 13, 24, 14, 15, 25, 26, 16, 17, 18, 19, 20, 21, 22], PX.er, rfl, rfl⟩
def gX_way (N K : Nat) (S : CS) (p0 : Int32) (p1 : Int32) : Option ((Int32 × CS) ⊕ String) := (fX5_way N K (S.2.2.1 (ix 2 p0)) p0 p1).map (fun o => match o with | .inl z => .inl (z, (S.1, S.2.1, S.2.2.1, S.2.2.2.1, S.2.2.2.2.1, S.2.2.2.2.2.1, S.2.2.2.2.2.2)) | .inr E => .inr E)
set_option maxHeartbeats 4000000 in
set_option maxRecDepth 100000 in
theorem ogX_way {N K : Nat} {r : Nat → Nat} {S : CS} {p0 : Int32} {p1 : Int32} {x : (Int32 × CS) ⊕ String} (hE : gX_way N K S p0 p1 = some x) : OkM yX5_way (.code yX5_way cX5_way 4 (some .int)) (9) 2 12 [.ref (r 0), .int p0, .int p1] (WX r S) ((PX (U := Int32 × CS) (fun z _ => some (.int z.1)) (fun z _ => WX r z.2) (WX r S)) x) := by
  unfold gX_way at hE
  obtain ⟨x0, h0, h1⟩ := Option.map_eq_some_iff.mp hE
  subst h1
  clear hE
  rcases lt2 (ix_lt (n := 2) (p := p0) (by decide)) with e | e
  · rw [e] at h0
    try rw [e]
    refine ok_fr (wc := [(r 0, .inr (7, [.ref (r 1), .ref (r 8), .ref (r 15), .ref (r 20), .ref (r 21), .ref (r 23), .ref (r 25)])), (r 15, .inl (3, 2, .inr (.inr (.inr (.inr (rf3 r 16 2 2)))))), (r 16, .inr (6, [.ref (r 17)])), (r 17, .inl (0, 21, .inl (S.2.2.1 0)))]) (wr := [(r 1, .inl (1, 3, .inr (.inr (.inr (.inr (rf3 r 2 2 3)))))), (r 2, .inr (4, [.ref (r 3), .int (S.1 0).1])), (r 3, .inl (0, 2646, .inl (S.1 0).2)), (r 4, .inr (4, [.ref (r 5), .int (S.1 1).1])), (r 5, .inl (0, 2646, .inl (S.1 1).2)), (r 6, .inr (4, [.ref (r 7), .int (S.1 2).1])), (r 7, .inl (0, 2646, .inl (S.1 2).2)), (r 8, .inl (2, 3, .inr (.inr (.inr (.inr (rf3 r 9 2 3)))))), (r 9, .inr (3, [.int (S.2.1 0).1, .ref (r 10), .int (S.2.1 0).2.1])), (r 10, .inl (0, 21, .inl (S.2.1 0).2.2)), (r 11, .inr (3, [.int (S.2.1 1).1, .ref (r 12), .int (S.2.1 1).2.1])), (r 12, .inl (0, 21, .inl (S.2.1 1).2.2)), (r 13, .inr (3, [.int (S.2.1 2).1, .ref (r 14), .int (S.2.1 2).2.1])), (r 14, .inl (0, 21, .inl (S.2.1 2).2.2)), (r 18, .inr (6, [.ref (r 19)])), (r 19, .inl (0, 21, .inl (S.2.2.1 1))), (r 20, .inr (2, [.int (S.2.2.2.1 0), .int (S.2.2.2.1 1), .int (S.2.2.2.1 2), .int (S.2.2.2.1 3), .int (S.2.2.2.1 4), .int (S.2.2.2.1 5)])), (r 21, .inr (5, [.ref (r 22)])), (r 22, .inl (0, 21, .inl S.2.2.2.2.1)), (r 23, .inr (6, [.ref (r 24)])), (r 24, .inl (0, 21, .inl S.2.2.2.2.2.1)), (r 25, .inr (6, [.ref (r 26)])), (r 26, .inl (0, 21, .inl S.2.2.2.2.2.2))]) [0, 15, 16, 17] [1, 2, 3, 4, 5, 6, 7, 8, 9, 10, 11, 12, 13, 14, 18, 19, 20, 21, 22, 23, 24, 25, 26] (ok_X5_way (x := r 0) (M := r 1) (L := r 8) (Dk := r 15) (c := r 20) (se := r 21) (wk := r 23) (sp := r 25) (w := r 16) (a := r 17) (df := rf3 r 16 2 2) (fun h9 => by have h8 := ix_in h9; rw [e] at h8; exact (congrArg (rf3 r 16 2 2) h8.symm).trans rfl) h0) rfl rfl rfl rfl (by decide) ?_
    rintro o w hp
    cases x0 with
    | inl z =>
      obtain ⟨g, e1, e2⟩ := PX.inl hp
      subst e1; subst e2
      exact ⟨_, [23, 0, 1, 2, 3, 4, 5, 6, 7, 8, 9, 10, 11, 12, 13, 24, 25, 26, 14, 15, 16, 17, 18, 19, 20, 21, 22], PX.mk g rfl rfl, rfl, rfl⟩
    | inr E =>
      obtain ⟨e1, e2⟩ := PX.inr hp
      subst e1; subst e2
      exact ⟨_, [23, 0, 1, 2, 3, 4, 5, 6, 7, 8, 9, 10, 11, 12, 13, 24, 25, 26, 14, 15, 16, 17, 18, 19, 20, 21, 22], PX.er, rfl, rfl⟩
  · rw [e] at h0
    try rw [e]
    refine ok_fr (wc := [(r 0, .inr (7, [.ref (r 1), .ref (r 8), .ref (r 15), .ref (r 20), .ref (r 21), .ref (r 23), .ref (r 25)])), (r 15, .inl (3, 2, .inr (.inr (.inr (.inr (rf3 r 16 2 2)))))), (r 18, .inr (6, [.ref (r 19)])), (r 19, .inl (0, 21, .inl (S.2.2.1 1)))]) (wr := [(r 1, .inl (1, 3, .inr (.inr (.inr (.inr (rf3 r 2 2 3)))))), (r 2, .inr (4, [.ref (r 3), .int (S.1 0).1])), (r 3, .inl (0, 2646, .inl (S.1 0).2)), (r 4, .inr (4, [.ref (r 5), .int (S.1 1).1])), (r 5, .inl (0, 2646, .inl (S.1 1).2)), (r 6, .inr (4, [.ref (r 7), .int (S.1 2).1])), (r 7, .inl (0, 2646, .inl (S.1 2).2)), (r 8, .inl (2, 3, .inr (.inr (.inr (.inr (rf3 r 9 2 3)))))), (r 9, .inr (3, [.int (S.2.1 0).1, .ref (r 10), .int (S.2.1 0).2.1])), (r 10, .inl (0, 21, .inl (S.2.1 0).2.2)), (r 11, .inr (3, [.int (S.2.1 1).1, .ref (r 12), .int (S.2.1 1).2.1])), (r 12, .inl (0, 21, .inl (S.2.1 1).2.2)), (r 13, .inr (3, [.int (S.2.1 2).1, .ref (r 14), .int (S.2.1 2).2.1])), (r 14, .inl (0, 21, .inl (S.2.1 2).2.2)), (r 16, .inr (6, [.ref (r 17)])), (r 17, .inl (0, 21, .inl (S.2.2.1 0))), (r 20, .inr (2, [.int (S.2.2.2.1 0), .int (S.2.2.2.1 1), .int (S.2.2.2.1 2), .int (S.2.2.2.1 3), .int (S.2.2.2.1 4), .int (S.2.2.2.1 5)])), (r 21, .inr (5, [.ref (r 22)])), (r 22, .inl (0, 21, .inl S.2.2.2.2.1)), (r 23, .inr (6, [.ref (r 24)])), (r 24, .inl (0, 21, .inl S.2.2.2.2.2.1)), (r 25, .inr (6, [.ref (r 26)])), (r 26, .inl (0, 21, .inl S.2.2.2.2.2.2))]) [0, 15, 18, 19] [1, 2, 3, 4, 5, 6, 7, 8, 9, 10, 11, 12, 13, 14, 16, 17, 20, 21, 22, 23, 24, 25, 26] (ok_X5_way (x := r 0) (M := r 1) (L := r 8) (Dk := r 15) (c := r 20) (se := r 21) (wk := r 23) (sp := r 25) (w := r 18) (a := r 19) (df := rf3 r 16 2 2) (fun h9 => by have h8 := ix_in h9; rw [e] at h8; exact (congrArg (rf3 r 16 2 2) h8.symm).trans rfl) h0) rfl rfl rfl rfl (by decide) ?_
    rintro o w hp
    cases x0 with
    | inl z =>
      obtain ⟨g, e1, e2⟩ := PX.inl hp
      subst e1; subst e2
      exact ⟨_, [23, 0, 1, 2, 3, 4, 5, 6, 7, 8, 9, 10, 11, 12, 13, 24, 14, 15, 25, 26, 16, 17, 18, 19, 20, 21, 22], PX.mk g rfl rfl, rfl, rfl⟩
    | inr E =>
      obtain ⟨e1, e2⟩ := PX.inr hp
      subst e1; subst e2
      exact ⟨_, [23, 0, 1, 2, 3, 4, 5, 6, 7, 8, 9, 10, 11, 12, 13, 24, 14, 15, 25, 26, 16, 17, 18, 19, 20, 21, 22], PX.er, rfl, rfl⟩
def gX_wayText (N K : Nat) (S : CS) (p0 : Int32) : Option ((CS) ⊕ String) := (fX5_wayText N K (S.2.2.1 (ix 2 p0)) p0).map (fun o => match o with | .inl z => .inl (S.1, S.2.1, S.2.2.1, S.2.2.2.1, S.2.2.2.2.1, S.2.2.2.2.2.1, S.2.2.2.2.2.2) | .inr E => .inr E)
set_option maxHeartbeats 4000000 in
set_option maxRecDepth 100000 in
theorem ogX_wayText {N K : Nat} {r : Nat → Nat} {S : CS} {p0 : Int32} {x : (CS) ⊕ String} (hE : gX_wayText N K S p0 = some x) : OkM yX5_wayText (.code yX5_wayText cX5_wayText 2 (some (.object "java/lang/String"))) (9) 111 8006 [.ref (r 0), .int p0] (WX r S) ((PX (U := CS) (fun _ g => some (.ref (g 0))) (fun z _ => WX r z) (WX r S)) x) := by
  unfold gX_wayText at hE
  obtain ⟨x0, h0, h1⟩ := Option.map_eq_some_iff.mp hE
  subst h1
  clear hE
  rcases lt2 (ix_lt (n := 2) (p := p0) (by decide)) with e | e
  · rw [e] at h0
    try rw [e]
    refine ok_fr (wc := [(r 0, .inr (7, [.ref (r 1), .ref (r 8), .ref (r 15), .ref (r 20), .ref (r 21), .ref (r 23), .ref (r 25)])), (r 15, .inl (3, 2, .inr (.inr (.inr (.inr (rf3 r 16 2 2)))))), (r 16, .inr (6, [.ref (r 17)])), (r 17, .inl (0, 21, .inl (S.2.2.1 0)))]) (wr := [(r 1, .inl (1, 3, .inr (.inr (.inr (.inr (rf3 r 2 2 3)))))), (r 2, .inr (4, [.ref (r 3), .int (S.1 0).1])), (r 3, .inl (0, 2646, .inl (S.1 0).2)), (r 4, .inr (4, [.ref (r 5), .int (S.1 1).1])), (r 5, .inl (0, 2646, .inl (S.1 1).2)), (r 6, .inr (4, [.ref (r 7), .int (S.1 2).1])), (r 7, .inl (0, 2646, .inl (S.1 2).2)), (r 8, .inl (2, 3, .inr (.inr (.inr (.inr (rf3 r 9 2 3)))))), (r 9, .inr (3, [.int (S.2.1 0).1, .ref (r 10), .int (S.2.1 0).2.1])), (r 10, .inl (0, 21, .inl (S.2.1 0).2.2)), (r 11, .inr (3, [.int (S.2.1 1).1, .ref (r 12), .int (S.2.1 1).2.1])), (r 12, .inl (0, 21, .inl (S.2.1 1).2.2)), (r 13, .inr (3, [.int (S.2.1 2).1, .ref (r 14), .int (S.2.1 2).2.1])), (r 14, .inl (0, 21, .inl (S.2.1 2).2.2)), (r 18, .inr (6, [.ref (r 19)])), (r 19, .inl (0, 21, .inl (S.2.2.1 1))), (r 20, .inr (2, [.int (S.2.2.2.1 0), .int (S.2.2.2.1 1), .int (S.2.2.2.1 2), .int (S.2.2.2.1 3), .int (S.2.2.2.1 4), .int (S.2.2.2.1 5)])), (r 21, .inr (5, [.ref (r 22)])), (r 22, .inl (0, 21, .inl S.2.2.2.2.1)), (r 23, .inr (6, [.ref (r 24)])), (r 24, .inl (0, 21, .inl S.2.2.2.2.2.1)), (r 25, .inr (6, [.ref (r 26)])), (r 26, .inl (0, 21, .inl S.2.2.2.2.2.2))]) [0, 15, 16, 17] [1, 2, 3, 4, 5, 6, 7, 8, 9, 10, 11, 12, 13, 14, 18, 19, 20, 21, 22, 23, 24, 25, 26] (ok_X5_wayText (x := r 0) (M := r 1) (L := r 8) (Dk := r 15) (c := r 20) (se := r 21) (wk := r 23) (sp := r 25) (w := r 16) (a := r 17) (df := rf3 r 16 2 2) (fun h9 => by have h8 := ix_in h9; rw [e] at h8; exact (congrArg (rf3 r 16 2 2) h8.symm).trans rfl) h0) rfl rfl rfl rfl (by decide) ?_
    rintro o w hp
    cases x0 with
    | inl z =>
      obtain ⟨g, e1, e2⟩ := PX.inl hp
      subst e1; subst e2
      exact ⟨_, [23, 0, 1, 2, 3, 4, 5, 6, 7, 8, 9, 10, 11, 12, 13, 24, 25, 26, 14, 15, 16, 17, 18, 19, 20, 21, 22], PX.mk g rfl rfl, rfl, rfl⟩
    | inr E =>
      obtain ⟨e1, e2⟩ := PX.inr hp
      subst e1; subst e2
      exact ⟨_, [23, 0, 1, 2, 3, 4, 5, 6, 7, 8, 9, 10, 11, 12, 13, 24, 25, 26, 14, 15, 16, 17, 18, 19, 20, 21, 22], PX.er, rfl, rfl⟩
  · rw [e] at h0
    try rw [e]
    refine ok_fr (wc := [(r 0, .inr (7, [.ref (r 1), .ref (r 8), .ref (r 15), .ref (r 20), .ref (r 21), .ref (r 23), .ref (r 25)])), (r 15, .inl (3, 2, .inr (.inr (.inr (.inr (rf3 r 16 2 2)))))), (r 18, .inr (6, [.ref (r 19)])), (r 19, .inl (0, 21, .inl (S.2.2.1 1)))]) (wr := [(r 1, .inl (1, 3, .inr (.inr (.inr (.inr (rf3 r 2 2 3)))))), (r 2, .inr (4, [.ref (r 3), .int (S.1 0).1])), (r 3, .inl (0, 2646, .inl (S.1 0).2)), (r 4, .inr (4, [.ref (r 5), .int (S.1 1).1])), (r 5, .inl (0, 2646, .inl (S.1 1).2)), (r 6, .inr (4, [.ref (r 7), .int (S.1 2).1])), (r 7, .inl (0, 2646, .inl (S.1 2).2)), (r 8, .inl (2, 3, .inr (.inr (.inr (.inr (rf3 r 9 2 3)))))), (r 9, .inr (3, [.int (S.2.1 0).1, .ref (r 10), .int (S.2.1 0).2.1])), (r 10, .inl (0, 21, .inl (S.2.1 0).2.2)), (r 11, .inr (3, [.int (S.2.1 1).1, .ref (r 12), .int (S.2.1 1).2.1])), (r 12, .inl (0, 21, .inl (S.2.1 1).2.2)), (r 13, .inr (3, [.int (S.2.1 2).1, .ref (r 14), .int (S.2.1 2).2.1])), (r 14, .inl (0, 21, .inl (S.2.1 2).2.2)), (r 16, .inr (6, [.ref (r 17)])), (r 17, .inl (0, 21, .inl (S.2.2.1 0))), (r 20, .inr (2, [.int (S.2.2.2.1 0), .int (S.2.2.2.1 1), .int (S.2.2.2.1 2), .int (S.2.2.2.1 3), .int (S.2.2.2.1 4), .int (S.2.2.2.1 5)])), (r 21, .inr (5, [.ref (r 22)])), (r 22, .inl (0, 21, .inl S.2.2.2.2.1)), (r 23, .inr (6, [.ref (r 24)])), (r 24, .inl (0, 21, .inl S.2.2.2.2.2.1)), (r 25, .inr (6, [.ref (r 26)])), (r 26, .inl (0, 21, .inl S.2.2.2.2.2.2))]) [0, 15, 18, 19] [1, 2, 3, 4, 5, 6, 7, 8, 9, 10, 11, 12, 13, 14, 16, 17, 20, 21, 22, 23, 24, 25, 26] (ok_X5_wayText (x := r 0) (M := r 1) (L := r 8) (Dk := r 15) (c := r 20) (se := r 21) (wk := r 23) (sp := r 25) (w := r 18) (a := r 19) (df := rf3 r 16 2 2) (fun h9 => by have h8 := ix_in h9; rw [e] at h8; exact (congrArg (rf3 r 16 2 2) h8.symm).trans rfl) h0) rfl rfl rfl rfl (by decide) ?_
    rintro o w hp
    cases x0 with
    | inl z =>
      obtain ⟨g, e1, e2⟩ := PX.inl hp
      subst e1; subst e2
      exact ⟨_, [23, 0, 1, 2, 3, 4, 5, 6, 7, 8, 9, 10, 11, 12, 13, 24, 14, 15, 25, 26, 16, 17, 18, 19, 20, 21, 22], PX.mk g rfl rfl, rfl, rfl⟩
    | inr E =>
      obtain ⟨e1, e2⟩ := PX.inr hp
      subst e1; subst e2
      exact ⟨_, [23, 0, 1, 2, 3, 4, 5, 6, 7, 8, 9, 10, 11, 12, 13, 24, 14, 15, 25, 26, 16, 17, 18, 19, 20, 21, 22], PX.er, rfl, rfl⟩
def gX_isOf (N K : Nat) (S : CS) (p0 : Int32) (p1 : Int32) (p2 : Int32) : Option ((Int32 × CS) ⊕ String) := (fX5_isOf N K (S.2.2.1 (ix 2 p0)) S.2.2.2.2.2.2 p0 p1 p2).map (fun o => match o with | .inl z => .inl (z.1, (S.1, S.2.1, S.2.2.1, S.2.2.2.1, S.2.2.2.2.1, S.2.2.2.2.2.1, z.2)) | .inr E => .inr E)
set_option maxHeartbeats 4000000 in
set_option maxRecDepth 100000 in
theorem ogX_isOf {N K : Nat} {r : Nat → Nat} {S : CS} {p0 : Int32} {p1 : Int32} {p2 : Int32} {x : (Int32 × CS) ⊕ String} (hE : gX_isOf N K S p0 p1 p2 = some x) : OkM yX5_isOf (.code yX5_isOf cX5_isOf 5 (some .boolean)) (9) 3 18 [.ref (r 0), .int p0, .int p1, .int p2] (WX r S) ((PX (U := Int32 × CS) (fun z _ => some (.int z.1)) (fun z _ => WX r z.2) (WX r S)) x) := by
  unfold gX_isOf at hE
  obtain ⟨x0, h0, h1⟩ := Option.map_eq_some_iff.mp hE
  subst h1
  clear hE
  rcases lt2 (ix_lt (n := 2) (p := p0) (by decide)) with e | e
  · rw [e] at h0
    try rw [e]
    refine ok_fr (wc := [(r 0, .inr (7, [.ref (r 1), .ref (r 8), .ref (r 15), .ref (r 20), .ref (r 21), .ref (r 23), .ref (r 25)])), (r 15, .inl (3, 2, .inr (.inr (.inr (.inr (rf3 r 16 2 2)))))), (r 16, .inr (6, [.ref (r 17)])), (r 17, .inl (0, 21, .inl (S.2.2.1 0))), (r 25, .inr (6, [.ref (r 26)])), (r 26, .inl (0, 21, .inl S.2.2.2.2.2.2))]) (wr := [(r 1, .inl (1, 3, .inr (.inr (.inr (.inr (rf3 r 2 2 3)))))), (r 2, .inr (4, [.ref (r 3), .int (S.1 0).1])), (r 3, .inl (0, 2646, .inl (S.1 0).2)), (r 4, .inr (4, [.ref (r 5), .int (S.1 1).1])), (r 5, .inl (0, 2646, .inl (S.1 1).2)), (r 6, .inr (4, [.ref (r 7), .int (S.1 2).1])), (r 7, .inl (0, 2646, .inl (S.1 2).2)), (r 8, .inl (2, 3, .inr (.inr (.inr (.inr (rf3 r 9 2 3)))))), (r 9, .inr (3, [.int (S.2.1 0).1, .ref (r 10), .int (S.2.1 0).2.1])), (r 10, .inl (0, 21, .inl (S.2.1 0).2.2)), (r 11, .inr (3, [.int (S.2.1 1).1, .ref (r 12), .int (S.2.1 1).2.1])), (r 12, .inl (0, 21, .inl (S.2.1 1).2.2)), (r 13, .inr (3, [.int (S.2.1 2).1, .ref (r 14), .int (S.2.1 2).2.1])), (r 14, .inl (0, 21, .inl (S.2.1 2).2.2)), (r 18, .inr (6, [.ref (r 19)])), (r 19, .inl (0, 21, .inl (S.2.2.1 1))), (r 20, .inr (2, [.int (S.2.2.2.1 0), .int (S.2.2.2.1 1), .int (S.2.2.2.1 2), .int (S.2.2.2.1 3), .int (S.2.2.2.1 4), .int (S.2.2.2.1 5)])), (r 21, .inr (5, [.ref (r 22)])), (r 22, .inl (0, 21, .inl S.2.2.2.2.1)), (r 23, .inr (6, [.ref (r 24)])), (r 24, .inl (0, 21, .inl S.2.2.2.2.2.1))]) [0, 15, 16, 17, 25, 26] [1, 2, 3, 4, 5, 6, 7, 8, 9, 10, 11, 12, 13, 14, 18, 19, 20, 21, 22, 23, 24] (ok_X5_isOf (x := r 0) (M := r 1) (L := r 8) (Dk := r 15) (c := r 20) (se := r 21) (wk := r 23) (sp := r 25) (w := r 16) (a := r 17) (sa := r 26) (df := rf3 r 16 2 2) (fun h9 => by have h8 := ix_in h9; rw [e] at h8; exact (congrArg (rf3 r 16 2 2) h8.symm).trans rfl) h0) rfl rfl rfl rfl (by decide) ?_
    rintro o w hp
    cases x0 with
    | inl z =>
      obtain ⟨g, e1, e2⟩ := PX.inl hp
      subst e1; subst e2
      exact ⟨_, [21, 0, 1, 2, 3, 4, 5, 6, 7, 8, 9, 10, 11, 12, 13, 22, 23, 24, 14, 15, 16, 17, 18, 19, 20, 25, 26], PX.mk g rfl rfl, rfl, rfl⟩
    | inr E =>
      obtain ⟨e1, e2⟩ := PX.inr hp
      subst e1; subst e2
      exact ⟨_, [21, 0, 1, 2, 3, 4, 5, 6, 7, 8, 9, 10, 11, 12, 13, 22, 23, 24, 14, 15, 16, 17, 18, 19, 20, 25, 26], PX.er, rfl, rfl⟩
  · rw [e] at h0
    try rw [e]
    refine ok_fr (wc := [(r 0, .inr (7, [.ref (r 1), .ref (r 8), .ref (r 15), .ref (r 20), .ref (r 21), .ref (r 23), .ref (r 25)])), (r 15, .inl (3, 2, .inr (.inr (.inr (.inr (rf3 r 16 2 2)))))), (r 18, .inr (6, [.ref (r 19)])), (r 19, .inl (0, 21, .inl (S.2.2.1 1))), (r 25, .inr (6, [.ref (r 26)])), (r 26, .inl (0, 21, .inl S.2.2.2.2.2.2))]) (wr := [(r 1, .inl (1, 3, .inr (.inr (.inr (.inr (rf3 r 2 2 3)))))), (r 2, .inr (4, [.ref (r 3), .int (S.1 0).1])), (r 3, .inl (0, 2646, .inl (S.1 0).2)), (r 4, .inr (4, [.ref (r 5), .int (S.1 1).1])), (r 5, .inl (0, 2646, .inl (S.1 1).2)), (r 6, .inr (4, [.ref (r 7), .int (S.1 2).1])), (r 7, .inl (0, 2646, .inl (S.1 2).2)), (r 8, .inl (2, 3, .inr (.inr (.inr (.inr (rf3 r 9 2 3)))))), (r 9, .inr (3, [.int (S.2.1 0).1, .ref (r 10), .int (S.2.1 0).2.1])), (r 10, .inl (0, 21, .inl (S.2.1 0).2.2)), (r 11, .inr (3, [.int (S.2.1 1).1, .ref (r 12), .int (S.2.1 1).2.1])), (r 12, .inl (0, 21, .inl (S.2.1 1).2.2)), (r 13, .inr (3, [.int (S.2.1 2).1, .ref (r 14), .int (S.2.1 2).2.1])), (r 14, .inl (0, 21, .inl (S.2.1 2).2.2)), (r 16, .inr (6, [.ref (r 17)])), (r 17, .inl (0, 21, .inl (S.2.2.1 0))), (r 20, .inr (2, [.int (S.2.2.2.1 0), .int (S.2.2.2.1 1), .int (S.2.2.2.1 2), .int (S.2.2.2.1 3), .int (S.2.2.2.1 4), .int (S.2.2.2.1 5)])), (r 21, .inr (5, [.ref (r 22)])), (r 22, .inl (0, 21, .inl S.2.2.2.2.1)), (r 23, .inr (6, [.ref (r 24)])), (r 24, .inl (0, 21, .inl S.2.2.2.2.2.1))]) [0, 15, 18, 19, 25, 26] [1, 2, 3, 4, 5, 6, 7, 8, 9, 10, 11, 12, 13, 14, 16, 17, 20, 21, 22, 23, 24] (ok_X5_isOf (x := r 0) (M := r 1) (L := r 8) (Dk := r 15) (c := r 20) (se := r 21) (wk := r 23) (sp := r 25) (w := r 18) (a := r 19) (sa := r 26) (df := rf3 r 16 2 2) (fun h9 => by have h8 := ix_in h9; rw [e] at h8; exact (congrArg (rf3 r 16 2 2) h8.symm).trans rfl) h0) rfl rfl rfl rfl (by decide) ?_
    rintro o w hp
    cases x0 with
    | inl z =>
      obtain ⟨g, e1, e2⟩ := PX.inl hp
      subst e1; subst e2
      exact ⟨_, [21, 0, 1, 2, 3, 4, 5, 6, 7, 8, 9, 10, 11, 12, 13, 22, 14, 15, 23, 24, 16, 17, 18, 19, 20, 25, 26], PX.mk g rfl rfl, rfl, rfl⟩
    | inr E =>
      obtain ⟨e1, e2⟩ := PX.inr hp
      subst e1; subst e2
      exact ⟨_, [21, 0, 1, 2, 3, 4, 5, 6, 7, 8, 9, 10, 11, 12, 13, 22, 14, 15, 23, 24, 16, 17, 18, 19, 20, 25, 26], PX.er, rfl, rfl⟩
def gX_isSameWay (N K : Nat) (S : CS) : Option (Int32 × CS) := (fX5_isSameWay N K (S.2.2.1 0) (S.2.2.1 1)).bind (fun o => match o with | .inl z => some (z, (S.1, S.2.1, S.2.2.1, S.2.2.2.1, S.2.2.2.2.1, S.2.2.2.2.2.1, S.2.2.2.2.2.2)) | .inr _ => none)
set_option maxHeartbeats 4000000 in
set_option maxRecDepth 100000 in
theorem ogX_isSameWay {N K : Nat} {r : Nat → Nat} {S : CS} {x : Int32 × CS} (hE : gX_isSameWay N K S = some x) : OkM yX5_isSameWay (.code yX5_isSameWay cX5_isSameWay 1 (some .boolean)) (9) 2 12 [.ref (r 0)] (WX r S) ((PN (U := Int32 × CS) (fun z _ => some (.int z.1)) (fun z _ => WX r z.2)) x) := by
  unfold gX_isSameWay at hE
  obtain ⟨x1, h0, h1⟩ := Option.bind_eq_some_iff.mp hE
  cases x1 with
  | inr E => cases h1
  | inl x0 =>
    cases h1
    refine ok_fr (wc := [(r 0, .inr (7, [.ref (r 1), .ref (r 8), .ref (r 15), .ref (r 20), .ref (r 21), .ref (r 23), .ref (r 25)])), (r 15, .inl (3, 2, .inr (.inr (.inr (.inr (rf3 r 16 2 2)))))), (r 16, .inr (6, [.ref (r 17)])), (r 17, .inl (0, 21, .inl (S.2.2.1 0))), (r 18, .inr (6, [.ref (r 19)])), (r 19, .inl (0, 21, .inl (S.2.2.1 1)))]) (wr := [(r 1, .inl (1, 3, .inr (.inr (.inr (.inr (rf3 r 2 2 3)))))), (r 2, .inr (4, [.ref (r 3), .int (S.1 0).1])), (r 3, .inl (0, 2646, .inl (S.1 0).2)), (r 4, .inr (4, [.ref (r 5), .int (S.1 1).1])), (r 5, .inl (0, 2646, .inl (S.1 1).2)), (r 6, .inr (4, [.ref (r 7), .int (S.1 2).1])), (r 7, .inl (0, 2646, .inl (S.1 2).2)), (r 8, .inl (2, 3, .inr (.inr (.inr (.inr (rf3 r 9 2 3)))))), (r 9, .inr (3, [.int (S.2.1 0).1, .ref (r 10), .int (S.2.1 0).2.1])), (r 10, .inl (0, 21, .inl (S.2.1 0).2.2)), (r 11, .inr (3, [.int (S.2.1 1).1, .ref (r 12), .int (S.2.1 1).2.1])), (r 12, .inl (0, 21, .inl (S.2.1 1).2.2)), (r 13, .inr (3, [.int (S.2.1 2).1, .ref (r 14), .int (S.2.1 2).2.1])), (r 14, .inl (0, 21, .inl (S.2.1 2).2.2)), (r 20, .inr (2, [.int (S.2.2.2.1 0), .int (S.2.2.2.1 1), .int (S.2.2.2.1 2), .int (S.2.2.2.1 3), .int (S.2.2.2.1 4), .int (S.2.2.2.1 5)])), (r 21, .inr (5, [.ref (r 22)])), (r 22, .inl (0, 21, .inl S.2.2.2.2.1)), (r 23, .inr (6, [.ref (r 24)])), (r 24, .inl (0, 21, .inl S.2.2.2.2.2.1)), (r 25, .inr (6, [.ref (r 26)])), (r 26, .inl (0, 21, .inl S.2.2.2.2.2.2))]) [0, 15, 16, 17, 18, 19] [1, 2, 3, 4, 5, 6, 7, 8, 9, 10, 11, 12, 13, 14, 20, 21, 22, 23, 24, 25, 26] (ok_X5_isSameWay (x := r 0) (M := r 1) (L := r 8) (Dk := r 15) (c := r 20) (se := r 21) (wk := r 23) (sp := r 25) (w := r 16) (a := r 17) (v := r 18) (b := r 19) (df := rf3 r 16 2 2) (fun _ => rfl) (fun _ => rfl) h0) rfl rfl rfl rfl (by decide) ?_
    rintro o w hp
    obtain ⟨g, e1, e2⟩ := PX.inl hp
    subst e1; subst e2
    exact ⟨_, [21, 0, 1, 2, 3, 4, 5, 6, 7, 8, 9, 10, 11, 12, 13, 22, 23, 24, 25, 26, 14, 15, 16, 17, 18, 19, 20], PN.mk g rfl rfl, rfl, rfl⟩
def gX_tally (N K : Nat) (S : CS) (p0 : Int32) : Option ((Int32 × CS) ⊕ String) := (fX5_tally N K (S.2.2.2.1 0) (S.2.2.2.1 1) (S.2.2.2.1 2) (S.2.2.2.1 3) (S.2.2.2.1 4) (S.2.2.2.1 5) p0).map (fun o => match o with | .inl z => .inl (z, (S.1, S.2.1, S.2.2.1, S.2.2.2.1, S.2.2.2.2.1, S.2.2.2.2.2.1, S.2.2.2.2.2.2)) | .inr E => .inr E)
set_option maxHeartbeats 4000000 in
set_option maxRecDepth 100000 in
theorem ogX_tally {N K : Nat} {r : Nat → Nat} {S : CS} {p0 : Int32} {x : (Int32 × CS) ⊕ String} (hE : gX_tally N K S p0 = some x) : OkM yX5_tally (.code yX5_tally cX5_tally 2 (some .int)) (9) 1 6 [.ref (r 0), .int p0] (WX r S) ((PX (U := Int32 × CS) (fun z _ => some (.int z.1)) (fun z _ => WX r z.2) (WX r S)) x) := by
  unfold gX_tally at hE
  obtain ⟨x0, h0, h1⟩ := Option.map_eq_some_iff.mp hE
  subst h1
  clear hE
  refine ok_fr (wc := [(r 0, .inr (7, [.ref (r 1), .ref (r 8), .ref (r 15), .ref (r 20), .ref (r 21), .ref (r 23), .ref (r 25)])), (r 20, .inr (2, [.int (S.2.2.2.1 0), .int (S.2.2.2.1 1), .int (S.2.2.2.1 2), .int (S.2.2.2.1 3), .int (S.2.2.2.1 4), .int (S.2.2.2.1 5)]))]) (wr := [(r 1, .inl (1, 3, .inr (.inr (.inr (.inr (rf3 r 2 2 3)))))), (r 2, .inr (4, [.ref (r 3), .int (S.1 0).1])), (r 3, .inl (0, 2646, .inl (S.1 0).2)), (r 4, .inr (4, [.ref (r 5), .int (S.1 1).1])), (r 5, .inl (0, 2646, .inl (S.1 1).2)), (r 6, .inr (4, [.ref (r 7), .int (S.1 2).1])), (r 7, .inl (0, 2646, .inl (S.1 2).2)), (r 8, .inl (2, 3, .inr (.inr (.inr (.inr (rf3 r 9 2 3)))))), (r 9, .inr (3, [.int (S.2.1 0).1, .ref (r 10), .int (S.2.1 0).2.1])), (r 10, .inl (0, 21, .inl (S.2.1 0).2.2)), (r 11, .inr (3, [.int (S.2.1 1).1, .ref (r 12), .int (S.2.1 1).2.1])), (r 12, .inl (0, 21, .inl (S.2.1 1).2.2)), (r 13, .inr (3, [.int (S.2.1 2).1, .ref (r 14), .int (S.2.1 2).2.1])), (r 14, .inl (0, 21, .inl (S.2.1 2).2.2)), (r 15, .inl (3, 2, .inr (.inr (.inr (.inr (rf3 r 16 2 2)))))), (r 16, .inr (6, [.ref (r 17)])), (r 17, .inl (0, 21, .inl (S.2.2.1 0))), (r 18, .inr (6, [.ref (r 19)])), (r 19, .inl (0, 21, .inl (S.2.2.1 1))), (r 21, .inr (5, [.ref (r 22)])), (r 22, .inl (0, 21, .inl S.2.2.2.2.1)), (r 23, .inr (6, [.ref (r 24)])), (r 24, .inl (0, 21, .inl S.2.2.2.2.2.1)), (r 25, .inr (6, [.ref (r 26)])), (r 26, .inl (0, 21, .inl S.2.2.2.2.2.2))]) [0, 20] [1, 2, 3, 4, 5, 6, 7, 8, 9, 10, 11, 12, 13, 14, 15, 16, 17, 18, 19, 21, 22, 23, 24, 25, 26] (ok_X5_tally (x := r 0) (M := r 1) (L := r 8) (Dk := r 15) (c := r 20) (se := r 21) (wk := r 23) (sp := r 25) h0) rfl rfl rfl rfl (by decide) ?_
  rintro o w hp
  cases x0 with
  | inl z =>
    obtain ⟨g, e1, e2⟩ := PX.inl hp
    subst e1; subst e2
    exact ⟨_, [25, 0, 1, 2, 3, 4, 5, 6, 7, 8, 9, 10, 11, 12, 13, 14, 15, 16, 17, 18, 26, 19, 20, 21, 22, 23, 24], PX.mk g rfl rfl, rfl, rfl⟩
  | inr E =>
    obtain ⟨e1, e2⟩ := PX.inr hp
    subst e1; subst e2
    exact ⟨_, [25, 0, 1, 2, 3, 4, 5, 6, 7, 8, 9, 10, 11, 12, 13, 14, 15, 16, 17, 18, 26, 19, 20, 21, 22, 23, 24], PX.er, rfl, rfl⟩
def gX_knock (N K : Nat) (S : CS) : Option (Int32 × CS) := (fX5_knock N K (S.2.2.2.1 0) (S.2.2.2.1 1) (S.2.2.2.1 2) (S.2.2.2.1 3) (S.2.2.2.1 4) (S.2.2.2.1 5)).map (fun z => (z.1, (S.1, S.2.1, S.2.2.1, (upm S.2.2.2.1 5 z.2), S.2.2.2.2.1, S.2.2.2.2.2.1, S.2.2.2.2.2.2)))
set_option maxHeartbeats 4000000 in
set_option maxRecDepth 100000 in
theorem ogX_knock {N K : Nat} {r : Nat → Nat} {S : CS} {x : Int32 × CS} (hE : gX_knock N K S = some x) : OkM yX5_knock (.code yX5_knock cX5_knock 1 (some .int)) (0) 0 0 [.ref (r 0)] (WX r S) ((PN (U := Int32 × CS) (fun z _ => some (.int z.1)) (fun z _ => WX r z.2)) x) := by
  unfold gX_knock at hE
  obtain ⟨x0, h0, h1⟩ := Option.map_eq_some_iff.mp hE
  subst h1
  clear hE
  refine ok_fr (wc := [(r 0, .inr (7, [.ref (r 1), .ref (r 8), .ref (r 15), .ref (r 20), .ref (r 21), .ref (r 23), .ref (r 25)])), (r 20, .inr (2, [.int (S.2.2.2.1 0), .int (S.2.2.2.1 1), .int (S.2.2.2.1 2), .int (S.2.2.2.1 3), .int (S.2.2.2.1 4), .int (S.2.2.2.1 5)]))]) (wr := [(r 1, .inl (1, 3, .inr (.inr (.inr (.inr (rf3 r 2 2 3)))))), (r 2, .inr (4, [.ref (r 3), .int (S.1 0).1])), (r 3, .inl (0, 2646, .inl (S.1 0).2)), (r 4, .inr (4, [.ref (r 5), .int (S.1 1).1])), (r 5, .inl (0, 2646, .inl (S.1 1).2)), (r 6, .inr (4, [.ref (r 7), .int (S.1 2).1])), (r 7, .inl (0, 2646, .inl (S.1 2).2)), (r 8, .inl (2, 3, .inr (.inr (.inr (.inr (rf3 r 9 2 3)))))), (r 9, .inr (3, [.int (S.2.1 0).1, .ref (r 10), .int (S.2.1 0).2.1])), (r 10, .inl (0, 21, .inl (S.2.1 0).2.2)), (r 11, .inr (3, [.int (S.2.1 1).1, .ref (r 12), .int (S.2.1 1).2.1])), (r 12, .inl (0, 21, .inl (S.2.1 1).2.2)), (r 13, .inr (3, [.int (S.2.1 2).1, .ref (r 14), .int (S.2.1 2).2.1])), (r 14, .inl (0, 21, .inl (S.2.1 2).2.2)), (r 15, .inl (3, 2, .inr (.inr (.inr (.inr (rf3 r 16 2 2)))))), (r 16, .inr (6, [.ref (r 17)])), (r 17, .inl (0, 21, .inl (S.2.2.1 0))), (r 18, .inr (6, [.ref (r 19)])), (r 19, .inl (0, 21, .inl (S.2.2.1 1))), (r 21, .inr (5, [.ref (r 22)])), (r 22, .inl (0, 21, .inl S.2.2.2.2.1)), (r 23, .inr (6, [.ref (r 24)])), (r 24, .inl (0, 21, .inl S.2.2.2.2.2.1)), (r 25, .inr (6, [.ref (r 26)])), (r 26, .inl (0, 21, .inl S.2.2.2.2.2.2))]) [0, 20] [1, 2, 3, 4, 5, 6, 7, 8, 9, 10, 11, 12, 13, 14, 15, 16, 17, 18, 19, 21, 22, 23, 24, 25, 26] (ok_X5_knock (x := r 0) (M := r 1) (L := r 8) (Dk := r 15) (c := r 20) (se := r 21) (wk := r 23) (sp := r 25) h0) rfl rfl rfl rfl (by decide) ?_
  rintro o w hp
  obtain ⟨g, e1, e2⟩ := hp
  subst e1; subst e2
  exact ⟨_, [25, 0, 1, 2, 3, 4, 5, 6, 7, 8, 9, 10, 11, 12, 13, 14, 15, 16, 17, 18, 26, 19, 20, 21, 22, 23, 24], PN.mk g rfl rfl, rfl, rfl⟩
def gX_isSound (N K : Nat) (S : CS) (p0 : Int32) : Option ((Int32 × CS) ⊕ String) := (fX5_isSound N K ((S.1 (ix 3 p0)).1) ((S.1 (ix 3 p0)).2) (S.2.2.2.1 0) (S.2.2.2.1 1) (S.2.2.2.1 2) (S.2.2.2.1 3) (S.2.2.2.1 4) (S.2.2.2.1 5) S.2.2.2.2.1 p0).map (fun o => match o with | .inl z => .inl (z.1, (S.1, S.2.1, S.2.2.1, S.2.2.2.1, z.2, S.2.2.2.2.2.1, S.2.2.2.2.2.2)) | .inr E => .inr E)
set_option maxHeartbeats 4000000 in
set_option maxRecDepth 100000 in
theorem ogX_isSound {N K : Nat} {r : Nat → Nat} {S : CS} {p0 : Int32} {x : (Int32 × CS) ⊕ String} (hE : gX_isSound N K S p0 = some x) : OkM yX5_isSound (.code yX5_isSound cX5_isSound 3 (some .boolean)) (9) 1 6 [.ref (r 0), .int p0] (WX r S) ((PX (U := Int32 × CS) (fun z _ => some (.int z.1)) (fun z _ => WX r z.2) (WX r S)) x) := by
  unfold gX_isSound at hE
  obtain ⟨x0, h0, h1⟩ := Option.map_eq_some_iff.mp hE
  subst h1
  clear hE
  rcases lt3 (ix_lt (n := 3) (p := p0) (by decide)) with e | e | e
  · rw [e] at h0
    try rw [e]
    refine ok_fr (wc := [(r 0, .inr (7, [.ref (r 1), .ref (r 8), .ref (r 15), .ref (r 20), .ref (r 21), .ref (r 23), .ref (r 25)])), (r 1, .inl (1, 3, .inr (.inr (.inr (.inr (rf3 r 2 2 3)))))), (r 2, .inr (4, [.ref (r 3), .int (S.1 0).1])), (r 3, .inl (0, 2646, .inl (S.1 0).2)), (r 20, .inr (2, [.int (S.2.2.2.1 0), .int (S.2.2.2.1 1), .int (S.2.2.2.1 2), .int (S.2.2.2.1 3), .int (S.2.2.2.1 4), .int (S.2.2.2.1 5)])), (r 21, .inr (5, [.ref (r 22)])), (r 22, .inl (0, 21, .inl S.2.2.2.2.1))]) (wr := [(r 4, .inr (4, [.ref (r 5), .int (S.1 1).1])), (r 5, .inl (0, 2646, .inl (S.1 1).2)), (r 6, .inr (4, [.ref (r 7), .int (S.1 2).1])), (r 7, .inl (0, 2646, .inl (S.1 2).2)), (r 8, .inl (2, 3, .inr (.inr (.inr (.inr (rf3 r 9 2 3)))))), (r 9, .inr (3, [.int (S.2.1 0).1, .ref (r 10), .int (S.2.1 0).2.1])), (r 10, .inl (0, 21, .inl (S.2.1 0).2.2)), (r 11, .inr (3, [.int (S.2.1 1).1, .ref (r 12), .int (S.2.1 1).2.1])), (r 12, .inl (0, 21, .inl (S.2.1 1).2.2)), (r 13, .inr (3, [.int (S.2.1 2).1, .ref (r 14), .int (S.2.1 2).2.1])), (r 14, .inl (0, 21, .inl (S.2.1 2).2.2)), (r 15, .inl (3, 2, .inr (.inr (.inr (.inr (rf3 r 16 2 2)))))), (r 16, .inr (6, [.ref (r 17)])), (r 17, .inl (0, 21, .inl (S.2.2.1 0))), (r 18, .inr (6, [.ref (r 19)])), (r 19, .inl (0, 21, .inl (S.2.2.1 1))), (r 23, .inr (6, [.ref (r 24)])), (r 24, .inl (0, 21, .inl S.2.2.2.2.2.1)), (r 25, .inr (6, [.ref (r 26)])), (r 26, .inl (0, 21, .inl S.2.2.2.2.2.2))]) [0, 1, 2, 3, 20, 21, 22] [4, 5, 6, 7, 8, 9, 10, 11, 12, 13, 14, 15, 16, 17, 18, 19, 23, 24, 25, 26] (ok_X5_isSound (x := r 0) (M := r 1) (L := r 8) (Dk := r 15) (c := r 20) (se := r 21) (wk := r 23) (sp := r 25) (q := r 2) (a := r 3) (sr := r 22) (mf := rf3 r 2 2 3) (fun h9 => by have h8 := ix_in h9; rw [e] at h8; exact (congrArg (rf3 r 2 2 3) h8.symm).trans rfl) h0) rfl rfl rfl rfl (by decide) ?_
    rintro o w hp
    cases x0 with
    | inl z =>
      obtain ⟨g, e1, e2⟩ := PX.inl hp
      subst e1; subst e2
      exact ⟨_, [20, 21, 22, 23, 0, 1, 2, 3, 4, 5, 6, 7, 8, 9, 10, 11, 12, 13, 14, 15, 24, 25, 26, 16, 17, 18, 19], PX.mk g rfl rfl, rfl, rfl⟩
    | inr E =>
      obtain ⟨e1, e2⟩ := PX.inr hp
      subst e1; subst e2
      exact ⟨_, [20, 21, 22, 23, 0, 1, 2, 3, 4, 5, 6, 7, 8, 9, 10, 11, 12, 13, 14, 15, 24, 25, 26, 16, 17, 18, 19], PX.er, rfl, rfl⟩
  · rw [e] at h0
    try rw [e]
    refine ok_fr (wc := [(r 0, .inr (7, [.ref (r 1), .ref (r 8), .ref (r 15), .ref (r 20), .ref (r 21), .ref (r 23), .ref (r 25)])), (r 1, .inl (1, 3, .inr (.inr (.inr (.inr (rf3 r 2 2 3)))))), (r 4, .inr (4, [.ref (r 5), .int (S.1 1).1])), (r 5, .inl (0, 2646, .inl (S.1 1).2)), (r 20, .inr (2, [.int (S.2.2.2.1 0), .int (S.2.2.2.1 1), .int (S.2.2.2.1 2), .int (S.2.2.2.1 3), .int (S.2.2.2.1 4), .int (S.2.2.2.1 5)])), (r 21, .inr (5, [.ref (r 22)])), (r 22, .inl (0, 21, .inl S.2.2.2.2.1))]) (wr := [(r 2, .inr (4, [.ref (r 3), .int (S.1 0).1])), (r 3, .inl (0, 2646, .inl (S.1 0).2)), (r 6, .inr (4, [.ref (r 7), .int (S.1 2).1])), (r 7, .inl (0, 2646, .inl (S.1 2).2)), (r 8, .inl (2, 3, .inr (.inr (.inr (.inr (rf3 r 9 2 3)))))), (r 9, .inr (3, [.int (S.2.1 0).1, .ref (r 10), .int (S.2.1 0).2.1])), (r 10, .inl (0, 21, .inl (S.2.1 0).2.2)), (r 11, .inr (3, [.int (S.2.1 1).1, .ref (r 12), .int (S.2.1 1).2.1])), (r 12, .inl (0, 21, .inl (S.2.1 1).2.2)), (r 13, .inr (3, [.int (S.2.1 2).1, .ref (r 14), .int (S.2.1 2).2.1])), (r 14, .inl (0, 21, .inl (S.2.1 2).2.2)), (r 15, .inl (3, 2, .inr (.inr (.inr (.inr (rf3 r 16 2 2)))))), (r 16, .inr (6, [.ref (r 17)])), (r 17, .inl (0, 21, .inl (S.2.2.1 0))), (r 18, .inr (6, [.ref (r 19)])), (r 19, .inl (0, 21, .inl (S.2.2.1 1))), (r 23, .inr (6, [.ref (r 24)])), (r 24, .inl (0, 21, .inl S.2.2.2.2.2.1)), (r 25, .inr (6, [.ref (r 26)])), (r 26, .inl (0, 21, .inl S.2.2.2.2.2.2))]) [0, 1, 4, 5, 20, 21, 22] [2, 3, 6, 7, 8, 9, 10, 11, 12, 13, 14, 15, 16, 17, 18, 19, 23, 24, 25, 26] (ok_X5_isSound (x := r 0) (M := r 1) (L := r 8) (Dk := r 15) (c := r 20) (se := r 21) (wk := r 23) (sp := r 25) (q := r 4) (a := r 5) (sr := r 22) (mf := rf3 r 2 2 3) (fun h9 => by have h8 := ix_in h9; rw [e] at h8; exact (congrArg (rf3 r 2 2 3) h8.symm).trans rfl) h0) rfl rfl rfl rfl (by decide) ?_
    rintro o w hp
    cases x0 with
    | inl z =>
      obtain ⟨g, e1, e2⟩ := PX.inl hp
      subst e1; subst e2
      exact ⟨_, [20, 21, 0, 1, 22, 23, 2, 3, 4, 5, 6, 7, 8, 9, 10, 11, 12, 13, 14, 15, 24, 25, 26, 16, 17, 18, 19], PX.mk g rfl rfl, rfl, rfl⟩
    | inr E =>
      obtain ⟨e1, e2⟩ := PX.inr hp
      subst e1; subst e2
      exact ⟨_, [20, 21, 0, 1, 22, 23, 2, 3, 4, 5, 6, 7, 8, 9, 10, 11, 12, 13, 14, 15, 24, 25, 26, 16, 17, 18, 19], PX.er, rfl, rfl⟩
  · rw [e] at h0
    try rw [e]
    refine ok_fr (wc := [(r 0, .inr (7, [.ref (r 1), .ref (r 8), .ref (r 15), .ref (r 20), .ref (r 21), .ref (r 23), .ref (r 25)])), (r 1, .inl (1, 3, .inr (.inr (.inr (.inr (rf3 r 2 2 3)))))), (r 6, .inr (4, [.ref (r 7), .int (S.1 2).1])), (r 7, .inl (0, 2646, .inl (S.1 2).2)), (r 20, .inr (2, [.int (S.2.2.2.1 0), .int (S.2.2.2.1 1), .int (S.2.2.2.1 2), .int (S.2.2.2.1 3), .int (S.2.2.2.1 4), .int (S.2.2.2.1 5)])), (r 21, .inr (5, [.ref (r 22)])), (r 22, .inl (0, 21, .inl S.2.2.2.2.1))]) (wr := [(r 2, .inr (4, [.ref (r 3), .int (S.1 0).1])), (r 3, .inl (0, 2646, .inl (S.1 0).2)), (r 4, .inr (4, [.ref (r 5), .int (S.1 1).1])), (r 5, .inl (0, 2646, .inl (S.1 1).2)), (r 8, .inl (2, 3, .inr (.inr (.inr (.inr (rf3 r 9 2 3)))))), (r 9, .inr (3, [.int (S.2.1 0).1, .ref (r 10), .int (S.2.1 0).2.1])), (r 10, .inl (0, 21, .inl (S.2.1 0).2.2)), (r 11, .inr (3, [.int (S.2.1 1).1, .ref (r 12), .int (S.2.1 1).2.1])), (r 12, .inl (0, 21, .inl (S.2.1 1).2.2)), (r 13, .inr (3, [.int (S.2.1 2).1, .ref (r 14), .int (S.2.1 2).2.1])), (r 14, .inl (0, 21, .inl (S.2.1 2).2.2)), (r 15, .inl (3, 2, .inr (.inr (.inr (.inr (rf3 r 16 2 2)))))), (r 16, .inr (6, [.ref (r 17)])), (r 17, .inl (0, 21, .inl (S.2.2.1 0))), (r 18, .inr (6, [.ref (r 19)])), (r 19, .inl (0, 21, .inl (S.2.2.1 1))), (r 23, .inr (6, [.ref (r 24)])), (r 24, .inl (0, 21, .inl S.2.2.2.2.2.1)), (r 25, .inr (6, [.ref (r 26)])), (r 26, .inl (0, 21, .inl S.2.2.2.2.2.2))]) [0, 1, 6, 7, 20, 21, 22] [2, 3, 4, 5, 8, 9, 10, 11, 12, 13, 14, 15, 16, 17, 18, 19, 23, 24, 25, 26] (ok_X5_isSound (x := r 0) (M := r 1) (L := r 8) (Dk := r 15) (c := r 20) (se := r 21) (wk := r 23) (sp := r 25) (q := r 6) (a := r 7) (sr := r 22) (mf := rf3 r 2 2 3) (fun h9 => by have h8 := ix_in h9; rw [e] at h8; exact (congrArg (rf3 r 2 2 3) h8.symm).trans rfl) h0) rfl rfl rfl rfl (by decide) ?_
    rintro o w hp
    cases x0 with
    | inl z =>
      obtain ⟨g, e1, e2⟩ := PX.inl hp
      subst e1; subst e2
      exact ⟨_, [20, 21, 0, 1, 2, 3, 22, 23, 4, 5, 6, 7, 8, 9, 10, 11, 12, 13, 14, 15, 24, 25, 26, 16, 17, 18, 19], PX.mk g rfl rfl, rfl, rfl⟩
    | inr E =>
      obtain ⟨e1, e2⟩ := PX.inr hp
      subst e1; subst e2
      exact ⟨_, [20, 21, 0, 1, 2, 3, 22, 23, 4, 5, 6, 7, 8, 9, 10, 11, 12, 13, 14, 15, 24, 25, 26, 16, 17, 18, 19], PX.er, rfl, rfl⟩
def gX_digest (N K : Nat) (S : CS) : Option (Int64 × CS) := (fX5_digest N K ((S.1 0).1) ((S.1 0).2) ((S.1 1).1) ((S.1 1).2) ((S.1 2).1) ((S.1 2).2) ((S.2.1 0).1) ((S.2.1 0).2.1) ((S.2.1 0).2.2) ((S.2.1 1).1) ((S.2.1 1).2.1) ((S.2.1 1).2.2) ((S.2.1 2).1) ((S.2.1 2).2.1) ((S.2.1 2).2.2) (S.2.2.1 0) (S.2.2.1 1) (S.2.2.2.1 0) (S.2.2.2.1 1) (S.2.2.2.1 2) (S.2.2.2.1 3) (S.2.2.2.1 4) (S.2.2.2.1 5)).bind (fun o => match o with | .inl z => some (z, (S.1, S.2.1, S.2.2.1, S.2.2.2.1, S.2.2.2.2.1, S.2.2.2.2.2.1, S.2.2.2.2.2.2)) | .inr _ => none)
set_option maxHeartbeats 4000000 in
set_option maxRecDepth 100000 in
theorem ogX_digest {N K : Nat} {r : Nat → Nat} {S : CS} {x : Int64 × CS} (hE : gX_digest N K S = some x) : OkM yX5_digest (.code yX5_digest cX5_digest 5 (some .long)) (10) 118 708 [.ref (r 0)] (WX r S) ((PN (U := Int64 × CS) (fun z _ => some (.long z.1)) (fun z _ => WX r z.2)) x) := by
  unfold gX_digest at hE
  obtain ⟨x1, h0, h1⟩ := Option.bind_eq_some_iff.mp hE
  cases x1 with
  | inr E => cases h1
  | inl x0 =>
    cases h1
    refine ok_fr (wc := [(r 0, .inr (7, [.ref (r 1), .ref (r 8), .ref (r 15), .ref (r 20), .ref (r 21), .ref (r 23), .ref (r 25)])), (r 1, .inl (1, 3, .inr (.inr (.inr (.inr (rf3 r 2 2 3)))))), (r 2, .inr (4, [.ref (r 3), .int (S.1 0).1])), (r 3, .inl (0, 2646, .inl (S.1 0).2)), (r 4, .inr (4, [.ref (r 5), .int (S.1 1).1])), (r 5, .inl (0, 2646, .inl (S.1 1).2)), (r 6, .inr (4, [.ref (r 7), .int (S.1 2).1])), (r 7, .inl (0, 2646, .inl (S.1 2).2)), (r 8, .inl (2, 3, .inr (.inr (.inr (.inr (rf3 r 9 2 3)))))), (r 9, .inr (3, [.int (S.2.1 0).1, .ref (r 10), .int (S.2.1 0).2.1])), (r 10, .inl (0, 21, .inl (S.2.1 0).2.2)), (r 11, .inr (3, [.int (S.2.1 1).1, .ref (r 12), .int (S.2.1 1).2.1])), (r 12, .inl (0, 21, .inl (S.2.1 1).2.2)), (r 13, .inr (3, [.int (S.2.1 2).1, .ref (r 14), .int (S.2.1 2).2.1])), (r 14, .inl (0, 21, .inl (S.2.1 2).2.2)), (r 15, .inl (3, 2, .inr (.inr (.inr (.inr (rf3 r 16 2 2)))))), (r 16, .inr (6, [.ref (r 17)])), (r 17, .inl (0, 21, .inl (S.2.2.1 0))), (r 18, .inr (6, [.ref (r 19)])), (r 19, .inl (0, 21, .inl (S.2.2.1 1))), (r 20, .inr (2, [.int (S.2.2.2.1 0), .int (S.2.2.2.1 1), .int (S.2.2.2.1 2), .int (S.2.2.2.1 3), .int (S.2.2.2.1 4), .int (S.2.2.2.1 5)]))]) (wr := [(r 21, .inr (5, [.ref (r 22)])), (r 22, .inl (0, 21, .inl S.2.2.2.2.1)), (r 23, .inr (6, [.ref (r 24)])), (r 24, .inl (0, 21, .inl S.2.2.2.2.2.1)), (r 25, .inr (6, [.ref (r 26)])), (r 26, .inl (0, 21, .inl S.2.2.2.2.2.2))]) [0, 1, 2, 3, 4, 5, 6, 7, 8, 9, 10, 11, 12, 13, 14, 15, 16, 17, 18, 19, 20] [21, 22, 23, 24, 25, 26] (ok_X5_digest (x := r 0) (M := r 1) (L := r 8) (Dk := r 15) (c := r 20) (se := r 21) (wk := r 23) (sp := r 25) (q0 := r 2) (a0 := r 3) (q1 := r 4) (a1 := r 5) (q2 := r 6) (a2 := r 7) (h0 := r 9) (b0 := r 10) (h1 := r 11) (b1 := r 12) (h2 := r 13) (b2 := r 14) (w0 := r 16) (d0 := r 17) (w1 := r 18) (d1 := r 19) (mf := rf3 r 2 2 3) (lf := rf3 r 9 2 3) (df := rf3 r 16 2 2) (fun _ => rfl) (fun _ => rfl) (fun _ => rfl) (fun _ => rfl) (fun _ => rfl) (fun _ => rfl) (fun _ => rfl) (fun _ => rfl) h0) rfl rfl rfl rfl (by decide) ?_
    rintro o w hp
    obtain ⟨g, e1, e2⟩ := PX.inl hp
    subst e1; subst e2
    exact ⟨_, [6, 7, 8, 9, 10, 11, 12, 13, 14, 15, 16, 17, 18, 19, 20, 21, 22, 23, 24, 25, 26, 0, 1, 2, 3, 4, 5], PN.mk g rfl rfl, rfl, rfl⟩

end MG_41badx
section MG_42adm
def gM_thrown (N K : Nat) (M : MS) : Option (Int32 × MS) := (fX7_thrown N K M.2.2.2.2.2).map (fun z => (z, (M.1, M.2.1, M.2.2.1, M.2.2.2.1, M.2.2.2.2.1, M.2.2.2.2.2)))
set_option maxHeartbeats 4000000 in
set_option maxRecDepth 100000 in
theorem ogM_thrown {N K : Nat} {rq : Nat → Nat} {M : MS} {x : Int32 × MS} (hE : gM_thrown N K M = some x) : OkM yX7_thrown (.code yX7_thrown cX7_thrown 1 (some .int)) (0) 0 0 [.ref (rq 0)] (WM rq M) ((PN (U := Int32 × MS) (fun z _ => some (.int z.1)) (fun z _ => WM rq z.2)) x) := by
  unfold gM_thrown at hE
  obtain ⟨x0, h0, h1⟩ := Option.map_eq_some_iff.mp hE
  subst h1
  clear hE
  refine ok_fr (wc := [(rq 0, .inr (9, [.ref (rq 1), .ref (rq 5), .ref (rq 9), .ref (rq 12), .ref (rq 13), .int M.2.2.2.2.2]))]) (wr := [(rq 1, .inl (4, 3, .inr (.inr (.inr (.inr (rf3 rq 2 1 3)))))), (rq 2, .inl (0, 6144, .inl (M.1 0))), (rq 3, .inl (0, 6144, .inl (M.1 1))), (rq 4, .inl (0, 6144, .inl (M.1 2))), (rq 5, .inl (4, 3, .inr (.inr (.inr (.inr (rf3 rq 6 1 3)))))), (rq 6, .inl (0, 21, .inl (M.2.1 0))), (rq 7, .inl (0, 21, .inl (M.2.1 1))), (rq 8, .inl (0, 21, .inl (M.2.1 2))), (rq 9, .inl (4, 2, .inr (.inr (.inr (.inr (rf3 rq 10 1 2)))))), (rq 10, .inl (0, 21, .inl (M.2.2.1 0))), (rq 11, .inl (0, 21, .inl (M.2.2.1 1))), (rq 12, .inl (0, 6, .inl M.2.2.2.1)), (rq 13, .inl (0, 441, .inl M.2.2.2.2.1))]) [0] [1, 2, 3, 4, 5, 6, 7, 8, 9, 10, 11, 12, 13] (ok_X7_thrown (m := rq 0) (Mo := rq 1) (Lo := rq 5) (Do := rq 9) (tl := rq 12) (ca := rq 13) h0) rfl rfl rfl rfl (by decide) ?_
  rintro o w hp
  obtain ⟨g, e1, e2⟩ := hp
  subst e1; subst e2
  exact ⟨_, [13, 0, 1, 2, 3, 4, 5, 6, 7, 8, 9, 10, 11, 12], PN.mk g rfl rfl, rfl, rfl⟩
def gM_know (N K : Nat) (M : MS) (p0 : Int32) (p1 : Int32) (p2 : Int32) (p3 : Int32) : Option (Int32 × MS) := (fX7_know N K M.2.2.2.2.2 (M.1 (ix 3 p0)) M.2.2.2.1 M.2.2.2.2.1 p0 p1 p2 p3).map (fun z => (z.1, ((upm M.1 (ix 3 p0) z.2.2.1), M.2.1, M.2.2.1, z.2.2.2.1, z.2.2.2.2, z.2.1)))
set_option maxHeartbeats 4000000 in
set_option maxRecDepth 100000 in
theorem ogM_know {N K : Nat} {rq : Nat → Nat} {M : MS} {p0 : Int32} {p1 : Int32} {p2 : Int32} {p3 : Int32} {x : Int32 × MS} (hE : gM_know N K M p0 p1 p2 p3 = some x) : OkM yX7_know (.code yX7_know cX7_know 5 (some .int)) (4) 0 0 [.ref (rq 0), .int p0, .int p1, .int p2, .int p3] (WM rq M) ((PN (U := Int32 × MS) (fun z _ => some (.int z.1)) (fun z _ => WM rq z.2)) x) := by
  unfold gM_know at hE
  obtain ⟨x0, h0, h1⟩ := Option.map_eq_some_iff.mp hE
  subst h1
  clear hE
  rcases lt3 (ix_lt (n := 3) (p := p0) (by decide)) with e | e | e
  · rw [e] at h0
    try rw [e]
    refine ok_fr (wc := [(rq 0, .inr (9, [.ref (rq 1), .ref (rq 5), .ref (rq 9), .ref (rq 12), .ref (rq 13), .int M.2.2.2.2.2])), (rq 1, .inl (4, 3, .inr (.inr (.inr (.inr (rf3 rq 2 1 3)))))), (rq 2, .inl (0, 6144, .inl (M.1 0))), (rq 12, .inl (0, 6, .inl M.2.2.2.1)), (rq 13, .inl (0, 441, .inl M.2.2.2.2.1))]) (wr := [(rq 3, .inl (0, 6144, .inl (M.1 1))), (rq 4, .inl (0, 6144, .inl (M.1 2))), (rq 5, .inl (4, 3, .inr (.inr (.inr (.inr (rf3 rq 6 1 3)))))), (rq 6, .inl (0, 21, .inl (M.2.1 0))), (rq 7, .inl (0, 21, .inl (M.2.1 1))), (rq 8, .inl (0, 21, .inl (M.2.1 2))), (rq 9, .inl (4, 2, .inr (.inr (.inr (.inr (rf3 rq 10 1 2)))))), (rq 10, .inl (0, 21, .inl (M.2.2.1 0))), (rq 11, .inl (0, 21, .inl (M.2.2.1 1)))]) [0, 1, 2, 12, 13] [3, 4, 5, 6, 7, 8, 9, 10, 11] (ok_X7_know (m := rq 0) (Mo := rq 1) (Lo := rq 5) (Do := rq 9) (tl := rq 12) (ca := rq 13) (q := rq 2) (mm := rf3 rq 2 1 3) (fun h9 => by have h8 := ix_in h9; rw [e] at h8; exact (congrArg (rf3 rq 2 1 3) h8.symm).trans rfl) h0) rfl rfl rfl rfl (by decide) ?_
    rintro o w hp
    obtain ⟨g, e1, e2⟩ := hp
    subst e1; subst e2
    exact ⟨_, [9, 10, 11, 0, 1, 2, 3, 4, 5, 6, 7, 8, 12, 13], PN.mk g rfl rfl, rfl, rfl⟩
  · rw [e] at h0
    try rw [e]
    refine ok_fr (wc := [(rq 0, .inr (9, [.ref (rq 1), .ref (rq 5), .ref (rq 9), .ref (rq 12), .ref (rq 13), .int M.2.2.2.2.2])), (rq 1, .inl (4, 3, .inr (.inr (.inr (.inr (rf3 rq 2 1 3)))))), (rq 3, .inl (0, 6144, .inl (M.1 1))), (rq 12, .inl (0, 6, .inl M.2.2.2.1)), (rq 13, .inl (0, 441, .inl M.2.2.2.2.1))]) (wr := [(rq 2, .inl (0, 6144, .inl (M.1 0))), (rq 4, .inl (0, 6144, .inl (M.1 2))), (rq 5, .inl (4, 3, .inr (.inr (.inr (.inr (rf3 rq 6 1 3)))))), (rq 6, .inl (0, 21, .inl (M.2.1 0))), (rq 7, .inl (0, 21, .inl (M.2.1 1))), (rq 8, .inl (0, 21, .inl (M.2.1 2))), (rq 9, .inl (4, 2, .inr (.inr (.inr (.inr (rf3 rq 10 1 2)))))), (rq 10, .inl (0, 21, .inl (M.2.2.1 0))), (rq 11, .inl (0, 21, .inl (M.2.2.1 1)))]) [0, 1, 3, 12, 13] [2, 4, 5, 6, 7, 8, 9, 10, 11] (ok_X7_know (m := rq 0) (Mo := rq 1) (Lo := rq 5) (Do := rq 9) (tl := rq 12) (ca := rq 13) (q := rq 3) (mm := rf3 rq 2 1 3) (fun h9 => by have h8 := ix_in h9; rw [e] at h8; exact (congrArg (rf3 rq 2 1 3) h8.symm).trans rfl) h0) rfl rfl rfl rfl (by decide) ?_
    rintro o w hp
    obtain ⟨g, e1, e2⟩ := hp
    subst e1; subst e2
    exact ⟨_, [9, 10, 0, 11, 1, 2, 3, 4, 5, 6, 7, 8, 12, 13], PN.mk g rfl rfl, rfl, rfl⟩
  · rw [e] at h0
    try rw [e]
    refine ok_fr (wc := [(rq 0, .inr (9, [.ref (rq 1), .ref (rq 5), .ref (rq 9), .ref (rq 12), .ref (rq 13), .int M.2.2.2.2.2])), (rq 1, .inl (4, 3, .inr (.inr (.inr (.inr (rf3 rq 2 1 3)))))), (rq 4, .inl (0, 6144, .inl (M.1 2))), (rq 12, .inl (0, 6, .inl M.2.2.2.1)), (rq 13, .inl (0, 441, .inl M.2.2.2.2.1))]) (wr := [(rq 2, .inl (0, 6144, .inl (M.1 0))), (rq 3, .inl (0, 6144, .inl (M.1 1))), (rq 5, .inl (4, 3, .inr (.inr (.inr (.inr (rf3 rq 6 1 3)))))), (rq 6, .inl (0, 21, .inl (M.2.1 0))), (rq 7, .inl (0, 21, .inl (M.2.1 1))), (rq 8, .inl (0, 21, .inl (M.2.1 2))), (rq 9, .inl (4, 2, .inr (.inr (.inr (.inr (rf3 rq 10 1 2)))))), (rq 10, .inl (0, 21, .inl (M.2.2.1 0))), (rq 11, .inl (0, 21, .inl (M.2.2.1 1)))]) [0, 1, 4, 12, 13] [2, 3, 5, 6, 7, 8, 9, 10, 11] (ok_X7_know (m := rq 0) (Mo := rq 1) (Lo := rq 5) (Do := rq 9) (tl := rq 12) (ca := rq 13) (q := rq 4) (mm := rf3 rq 2 1 3) (fun h9 => by have h8 := ix_in h9; rw [e] at h8; exact (congrArg (rf3 rq 2 1 3) h8.symm).trans rfl) h0) rfl rfl rfl rfl (by decide) ?_
    rintro o w hp
    obtain ⟨g, e1, e2⟩ := hp
    subst e1; subst e2
    exact ⟨_, [9, 10, 0, 1, 11, 2, 3, 4, 5, 6, 7, 8, 12, 13], PN.mk g rfl rfl, rfl, rfl⟩
def gM_few (N K : Nat) (M : MS) (p0 : Int32) (p1 : Int32) (p2 : Int32) : Option (Int32 × MS) := (fX7_few N K M.2.2.2.2.2 (M.1 (ix 3 p0)) M.2.2.2.1 M.2.2.2.2.1 p0 p1 p2).map (fun z => (z.1, ((upm M.1 (ix 3 p0) z.2.2.1), M.2.1, M.2.2.1, z.2.2.2.1, z.2.2.2.2, z.2.1)))
set_option maxHeartbeats 4000000 in
set_option maxRecDepth 100000 in
theorem ogM_few {N K : Nat} {rq : Nat → Nat} {M : MS} {p0 : Int32} {p1 : Int32} {p2 : Int32} {x : Int32 × MS} (hE : gM_few N K M p0 p1 p2 = some x) : OkM yX7_few (.code yX7_few cX7_few 6 (some .int)) (4) 0 0 [.ref (rq 0), .int p0, .int p1, .int p2] (WM rq M) ((PN (U := Int32 × MS) (fun z _ => some (.int z.1)) (fun z _ => WM rq z.2)) x) := by
  unfold gM_few at hE
  obtain ⟨x0, h0, h1⟩ := Option.map_eq_some_iff.mp hE
  subst h1
  clear hE
  rcases lt3 (ix_lt (n := 3) (p := p0) (by decide)) with e | e | e
  · rw [e] at h0
    try rw [e]
    refine ok_fr (wc := [(rq 0, .inr (9, [.ref (rq 1), .ref (rq 5), .ref (rq 9), .ref (rq 12), .ref (rq 13), .int M.2.2.2.2.2])), (rq 1, .inl (4, 3, .inr (.inr (.inr (.inr (rf3 rq 2 1 3)))))), (rq 2, .inl (0, 6144, .inl (M.1 0))), (rq 12, .inl (0, 6, .inl M.2.2.2.1)), (rq 13, .inl (0, 441, .inl M.2.2.2.2.1))]) (wr := [(rq 3, .inl (0, 6144, .inl (M.1 1))), (rq 4, .inl (0, 6144, .inl (M.1 2))), (rq 5, .inl (4, 3, .inr (.inr (.inr (.inr (rf3 rq 6 1 3)))))), (rq 6, .inl (0, 21, .inl (M.2.1 0))), (rq 7, .inl (0, 21, .inl (M.2.1 1))), (rq 8, .inl (0, 21, .inl (M.2.1 2))), (rq 9, .inl (4, 2, .inr (.inr (.inr (.inr (rf3 rq 10 1 2)))))), (rq 10, .inl (0, 21, .inl (M.2.2.1 0))), (rq 11, .inl (0, 21, .inl (M.2.2.1 1)))]) [0, 1, 2, 12, 13] [3, 4, 5, 6, 7, 8, 9, 10, 11] (ok_X7_few (m := rq 0) (Mo := rq 1) (Lo := rq 5) (Do := rq 9) (tl := rq 12) (ca := rq 13) (q := rq 2) (mm := rf3 rq 2 1 3) (fun h9 => by have h8 := ix_in h9; rw [e] at h8; exact (congrArg (rf3 rq 2 1 3) h8.symm).trans rfl) h0) rfl rfl rfl rfl (by decide) ?_
    rintro o w hp
    obtain ⟨g, e1, e2⟩ := hp
    subst e1; subst e2
    exact ⟨_, [9, 10, 11, 0, 1, 2, 3, 4, 5, 6, 7, 8, 12, 13], PN.mk g rfl rfl, rfl, rfl⟩
  · rw [e] at h0
    try rw [e]
    refine ok_fr (wc := [(rq 0, .inr (9, [.ref (rq 1), .ref (rq 5), .ref (rq 9), .ref (rq 12), .ref (rq 13), .int M.2.2.2.2.2])), (rq 1, .inl (4, 3, .inr (.inr (.inr (.inr (rf3 rq 2 1 3)))))), (rq 3, .inl (0, 6144, .inl (M.1 1))), (rq 12, .inl (0, 6, .inl M.2.2.2.1)), (rq 13, .inl (0, 441, .inl M.2.2.2.2.1))]) (wr := [(rq 2, .inl (0, 6144, .inl (M.1 0))), (rq 4, .inl (0, 6144, .inl (M.1 2))), (rq 5, .inl (4, 3, .inr (.inr (.inr (.inr (rf3 rq 6 1 3)))))), (rq 6, .inl (0, 21, .inl (M.2.1 0))), (rq 7, .inl (0, 21, .inl (M.2.1 1))), (rq 8, .inl (0, 21, .inl (M.2.1 2))), (rq 9, .inl (4, 2, .inr (.inr (.inr (.inr (rf3 rq 10 1 2)))))), (rq 10, .inl (0, 21, .inl (M.2.2.1 0))), (rq 11, .inl (0, 21, .inl (M.2.2.1 1)))]) [0, 1, 3, 12, 13] [2, 4, 5, 6, 7, 8, 9, 10, 11] (ok_X7_few (m := rq 0) (Mo := rq 1) (Lo := rq 5) (Do := rq 9) (tl := rq 12) (ca := rq 13) (q := rq 3) (mm := rf3 rq 2 1 3) (fun h9 => by have h8 := ix_in h9; rw [e] at h8; exact (congrArg (rf3 rq 2 1 3) h8.symm).trans rfl) h0) rfl rfl rfl rfl (by decide) ?_
    rintro o w hp
    obtain ⟨g, e1, e2⟩ := hp
    subst e1; subst e2
    exact ⟨_, [9, 10, 0, 11, 1, 2, 3, 4, 5, 6, 7, 8, 12, 13], PN.mk g rfl rfl, rfl, rfl⟩
  · rw [e] at h0
    try rw [e]
    refine ok_fr (wc := [(rq 0, .inr (9, [.ref (rq 1), .ref (rq 5), .ref (rq 9), .ref (rq 12), .ref (rq 13), .int M.2.2.2.2.2])), (rq 1, .inl (4, 3, .inr (.inr (.inr (.inr (rf3 rq 2 1 3)))))), (rq 4, .inl (0, 6144, .inl (M.1 2))), (rq 12, .inl (0, 6, .inl M.2.2.2.1)), (rq 13, .inl (0, 441, .inl M.2.2.2.2.1))]) (wr := [(rq 2, .inl (0, 6144, .inl (M.1 0))), (rq 3, .inl (0, 6144, .inl (M.1 1))), (rq 5, .inl (4, 3, .inr (.inr (.inr (.inr (rf3 rq 6 1 3)))))), (rq 6, .inl (0, 21, .inl (M.2.1 0))), (rq 7, .inl (0, 21, .inl (M.2.1 1))), (rq 8, .inl (0, 21, .inl (M.2.1 2))), (rq 9, .inl (4, 2, .inr (.inr (.inr (.inr (rf3 rq 10 1 2)))))), (rq 10, .inl (0, 21, .inl (M.2.2.1 0))), (rq 11, .inl (0, 21, .inl (M.2.2.1 1)))]) [0, 1, 4, 12, 13] [2, 3, 5, 6, 7, 8, 9, 10, 11] (ok_X7_few (m := rq 0) (Mo := rq 1) (Lo := rq 5) (Do := rq 9) (tl := rq 12) (ca := rq 13) (q := rq 4) (mm := rf3 rq 2 1 3) (fun h9 => by have h8 := ix_in h9; rw [e] at h8; exact (congrArg (rf3 rq 2 1 3) h8.symm).trans rfl) h0) rfl rfl rfl rfl (by decide) ?_
    rintro o w hp
    obtain ⟨g, e1, e2⟩ := hp
    subst e1; subst e2
    exact ⟨_, [9, 10, 0, 1, 11, 2, 3, 4, 5, 6, 7, 8, 12, 13], PN.mk g rfl rfl, rfl, rfl⟩
def gM_surplus (N K : Nat) (M : MS) (p0 : Int32) (p1 : Int32) : Option (Int32 × MS) := (fX7_surplus N K M.2.2.2.2.2 (M.1 (ix 3 p0)) M.2.2.2.1 M.2.2.2.2.1 p0 p1).map (fun z => (z.1, ((upm M.1 (ix 3 p0) z.2.2.1), M.2.1, M.2.2.1, z.2.2.2.1, z.2.2.2.2, z.2.1)))
set_option maxHeartbeats 4000000 in
set_option maxRecDepth 100000 in
theorem ogM_surplus {N K : Nat} {rq : Nat → Nat} {M : MS} {p0 : Int32} {p1 : Int32} {x : Int32 × MS} (hE : gM_surplus N K M p0 p1 = some x) : OkM yX7_surplus (.code yX7_surplus cX7_surplus 5 (some .int)) (4) 0 0 [.ref (rq 0), .int p0, .int p1] (WM rq M) ((PN (U := Int32 × MS) (fun z _ => some (.int z.1)) (fun z _ => WM rq z.2)) x) := by
  unfold gM_surplus at hE
  obtain ⟨x0, h0, h1⟩ := Option.map_eq_some_iff.mp hE
  subst h1
  clear hE
  rcases lt3 (ix_lt (n := 3) (p := p0) (by decide)) with e | e | e
  · rw [e] at h0
    try rw [e]
    refine ok_fr (wc := [(rq 0, .inr (9, [.ref (rq 1), .ref (rq 5), .ref (rq 9), .ref (rq 12), .ref (rq 13), .int M.2.2.2.2.2])), (rq 1, .inl (4, 3, .inr (.inr (.inr (.inr (rf3 rq 2 1 3)))))), (rq 2, .inl (0, 6144, .inl (M.1 0))), (rq 12, .inl (0, 6, .inl M.2.2.2.1)), (rq 13, .inl (0, 441, .inl M.2.2.2.2.1))]) (wr := [(rq 3, .inl (0, 6144, .inl (M.1 1))), (rq 4, .inl (0, 6144, .inl (M.1 2))), (rq 5, .inl (4, 3, .inr (.inr (.inr (.inr (rf3 rq 6 1 3)))))), (rq 6, .inl (0, 21, .inl (M.2.1 0))), (rq 7, .inl (0, 21, .inl (M.2.1 1))), (rq 8, .inl (0, 21, .inl (M.2.1 2))), (rq 9, .inl (4, 2, .inr (.inr (.inr (.inr (rf3 rq 10 1 2)))))), (rq 10, .inl (0, 21, .inl (M.2.2.1 0))), (rq 11, .inl (0, 21, .inl (M.2.2.1 1)))]) [0, 1, 2, 12, 13] [3, 4, 5, 6, 7, 8, 9, 10, 11] (ok_X7_surplus (m := rq 0) (Mo := rq 1) (Lo := rq 5) (Do := rq 9) (tl := rq 12) (ca := rq 13) (q := rq 2) (mm := rf3 rq 2 1 3) (fun h9 => by have h8 := ix_in h9; rw [e] at h8; exact (congrArg (rf3 rq 2 1 3) h8.symm).trans rfl) h0) rfl rfl rfl rfl (by decide) ?_
    rintro o w hp
    obtain ⟨g, e1, e2⟩ := hp
    subst e1; subst e2
    exact ⟨_, [9, 10, 11, 0, 1, 2, 3, 4, 5, 6, 7, 8, 12, 13], PN.mk g rfl rfl, rfl, rfl⟩
  · rw [e] at h0
    try rw [e]
    refine ok_fr (wc := [(rq 0, .inr (9, [.ref (rq 1), .ref (rq 5), .ref (rq 9), .ref (rq 12), .ref (rq 13), .int M.2.2.2.2.2])), (rq 1, .inl (4, 3, .inr (.inr (.inr (.inr (rf3 rq 2 1 3)))))), (rq 3, .inl (0, 6144, .inl (M.1 1))), (rq 12, .inl (0, 6, .inl M.2.2.2.1)), (rq 13, .inl (0, 441, .inl M.2.2.2.2.1))]) (wr := [(rq 2, .inl (0, 6144, .inl (M.1 0))), (rq 4, .inl (0, 6144, .inl (M.1 2))), (rq 5, .inl (4, 3, .inr (.inr (.inr (.inr (rf3 rq 6 1 3)))))), (rq 6, .inl (0, 21, .inl (M.2.1 0))), (rq 7, .inl (0, 21, .inl (M.2.1 1))), (rq 8, .inl (0, 21, .inl (M.2.1 2))), (rq 9, .inl (4, 2, .inr (.inr (.inr (.inr (rf3 rq 10 1 2)))))), (rq 10, .inl (0, 21, .inl (M.2.2.1 0))), (rq 11, .inl (0, 21, .inl (M.2.2.1 1)))]) [0, 1, 3, 12, 13] [2, 4, 5, 6, 7, 8, 9, 10, 11] (ok_X7_surplus (m := rq 0) (Mo := rq 1) (Lo := rq 5) (Do := rq 9) (tl := rq 12) (ca := rq 13) (q := rq 3) (mm := rf3 rq 2 1 3) (fun h9 => by have h8 := ix_in h9; rw [e] at h8; exact (congrArg (rf3 rq 2 1 3) h8.symm).trans rfl) h0) rfl rfl rfl rfl (by decide) ?_
    rintro o w hp
    obtain ⟨g, e1, e2⟩ := hp
    subst e1; subst e2
    exact ⟨_, [9, 10, 0, 11, 1, 2, 3, 4, 5, 6, 7, 8, 12, 13], PN.mk g rfl rfl, rfl, rfl⟩
  · rw [e] at h0
    try rw [e]
    refine ok_fr (wc := [(rq 0, .inr (9, [.ref (rq 1), .ref (rq 5), .ref (rq 9), .ref (rq 12), .ref (rq 13), .int M.2.2.2.2.2])), (rq 1, .inl (4, 3, .inr (.inr (.inr (.inr (rf3 rq 2 1 3)))))), (rq 4, .inl (0, 6144, .inl (M.1 2))), (rq 12, .inl (0, 6, .inl M.2.2.2.1)), (rq 13, .inl (0, 441, .inl M.2.2.2.2.1))]) (wr := [(rq 2, .inl (0, 6144, .inl (M.1 0))), (rq 3, .inl (0, 6144, .inl (M.1 1))), (rq 5, .inl (4, 3, .inr (.inr (.inr (.inr (rf3 rq 6 1 3)))))), (rq 6, .inl (0, 21, .inl (M.2.1 0))), (rq 7, .inl (0, 21, .inl (M.2.1 1))), (rq 8, .inl (0, 21, .inl (M.2.1 2))), (rq 9, .inl (4, 2, .inr (.inr (.inr (.inr (rf3 rq 10 1 2)))))), (rq 10, .inl (0, 21, .inl (M.2.2.1 0))), (rq 11, .inl (0, 21, .inl (M.2.2.1 1)))]) [0, 1, 4, 12, 13] [2, 3, 5, 6, 7, 8, 9, 10, 11] (ok_X7_surplus (m := rq 0) (Mo := rq 1) (Lo := rq 5) (Do := rq 9) (tl := rq 12) (ca := rq 13) (q := rq 4) (mm := rf3 rq 2 1 3) (fun h9 => by have h8 := ix_in h9; rw [e] at h8; exact (congrArg (rf3 rq 2 1 3) h8.symm).trans rfl) h0) rfl rfl rfl rfl (by decide) ?_
    rintro o w hp
    obtain ⟨g, e1, e2⟩ := hp
    subst e1; subst e2
    exact ⟨_, [9, 10, 0, 1, 11, 2, 3, 4, 5, 6, 7, 8, 12, 13], PN.mk g rfl rfl, rfl, rfl⟩
def gM_place (N K : Nat) (M : MS) (p0 : Int32) (p1 : Int32) : Option (Int32 × MS) := (fX7_place N K M.2.2.2.2.2 (M.1 (ix 3 p0)) (M.2.2.1 (ix 2 p1)) M.2.2.2.1 M.2.2.2.2.1 p0 p1).map (fun z => (z.1, ((upm M.1 (ix 3 p0) z.2.2.1), M.2.1, M.2.2.1, z.2.2.2.1, z.2.2.2.2, z.2.1)))
set_option maxHeartbeats 4000000 in
set_option maxRecDepth 100000 in
theorem ogM_place {N K : Nat} {rq : Nat → Nat} {M : MS} {p0 : Int32} {p1 : Int32} {x : Int32 × MS} (hE : gM_place N K M p0 p1 = some x) : OkM yX7_place (.code yX7_place cX7_place 8 (some .int)) (4) 0 0 [.ref (rq 0), .int p0, .int p1] (WM rq M) ((PN (U := Int32 × MS) (fun z _ => some (.int z.1)) (fun z _ => WM rq z.2)) x) := by
  unfold gM_place at hE
  obtain ⟨x0, h0, h1⟩ := Option.map_eq_some_iff.mp hE
  subst h1
  clear hE
  rcases lt3 (ix_lt (n := 3) (p := p0) (by decide)) with e | e | e <;> rcases lt2 (ix_lt (n := 2) (p := p1) (by decide)) with f | f
  · rw [e, f] at h0
    try rw [e]
    try rw [f]
    refine ok_fr (wc := [(rq 0, .inr (9, [.ref (rq 1), .ref (rq 5), .ref (rq 9), .ref (rq 12), .ref (rq 13), .int M.2.2.2.2.2])), (rq 1, .inl (4, 3, .inr (.inr (.inr (.inr (rf3 rq 2 1 3)))))), (rq 2, .inl (0, 6144, .inl (M.1 0))), (rq 9, .inl (4, 2, .inr (.inr (.inr (.inr (rf3 rq 10 1 2)))))), (rq 10, .inl (0, 21, .inl (M.2.2.1 0))), (rq 12, .inl (0, 6, .inl M.2.2.2.1)), (rq 13, .inl (0, 441, .inl M.2.2.2.2.1))]) (wr := [(rq 3, .inl (0, 6144, .inl (M.1 1))), (rq 4, .inl (0, 6144, .inl (M.1 2))), (rq 5, .inl (4, 3, .inr (.inr (.inr (.inr (rf3 rq 6 1 3)))))), (rq 6, .inl (0, 21, .inl (M.2.1 0))), (rq 7, .inl (0, 21, .inl (M.2.1 1))), (rq 8, .inl (0, 21, .inl (M.2.1 2))), (rq 11, .inl (0, 21, .inl (M.2.2.1 1)))]) [0, 1, 2, 9, 10, 12, 13] [3, 4, 5, 6, 7, 8, 11] (ok_X7_place (m := rq 0) (Mo := rq 1) (Lo := rq 5) (Do := rq 9) (tl := rq 12) (ca := rq 13) (q := rq 2) (w := rq 10) (mm := rf3 rq 2 1 3) (dd := rf3 rq 10 1 2) (fun h9 => by have h8 := ix_in h9; rw [e] at h8; exact (congrArg (rf3 rq 2 1 3) h8.symm).trans rfl) (fun h9 => by have h8 := ix_in h9; rw [f] at h8; exact (congrArg (rf3 rq 10 1 2) h8.symm).trans rfl) h0) rfl rfl rfl rfl (by decide) ?_
    rintro o w hp
    obtain ⟨g, e1, e2⟩ := hp
    subst e1; subst e2
    exact ⟨_, [7, 8, 9, 0, 1, 2, 3, 4, 5, 10, 11, 6, 12, 13], PN.mk g rfl rfl, rfl, rfl⟩
  · rw [e, f] at h0
    try rw [e]
    try rw [f]
    refine ok_fr (wc := [(rq 0, .inr (9, [.ref (rq 1), .ref (rq 5), .ref (rq 9), .ref (rq 12), .ref (rq 13), .int M.2.2.2.2.2])), (rq 1, .inl (4, 3, .inr (.inr (.inr (.inr (rf3 rq 2 1 3)))))), (rq 2, .inl (0, 6144, .inl (M.1 0))), (rq 9, .inl (4, 2, .inr (.inr (.inr (.inr (rf3 rq 10 1 2)))))), (rq 11, .inl (0, 21, .inl (M.2.2.1 1))), (rq 12, .inl (0, 6, .inl M.2.2.2.1)), (rq 13, .inl (0, 441, .inl M.2.2.2.2.1))]) (wr := [(rq 3, .inl (0, 6144, .inl (M.1 1))), (rq 4, .inl (0, 6144, .inl (M.1 2))), (rq 5, .inl (4, 3, .inr (.inr (.inr (.inr (rf3 rq 6 1 3)))))), (rq 6, .inl (0, 21, .inl (M.2.1 0))), (rq 7, .inl (0, 21, .inl (M.2.1 1))), (rq 8, .inl (0, 21, .inl (M.2.1 2))), (rq 10, .inl (0, 21, .inl (M.2.2.1 0)))]) [0, 1, 2, 9, 11, 12, 13] [3, 4, 5, 6, 7, 8, 10] (ok_X7_place (m := rq 0) (Mo := rq 1) (Lo := rq 5) (Do := rq 9) (tl := rq 12) (ca := rq 13) (q := rq 2) (w := rq 11) (mm := rf3 rq 2 1 3) (dd := rf3 rq 10 1 2) (fun h9 => by have h8 := ix_in h9; rw [e] at h8; exact (congrArg (rf3 rq 2 1 3) h8.symm).trans rfl) (fun h9 => by have h8 := ix_in h9; rw [f] at h8; exact (congrArg (rf3 rq 10 1 2) h8.symm).trans rfl) h0) rfl rfl rfl rfl (by decide) ?_
    rintro o w hp
    obtain ⟨g, e1, e2⟩ := hp
    subst e1; subst e2
    exact ⟨_, [7, 8, 9, 0, 1, 2, 3, 4, 5, 10, 6, 11, 12, 13], PN.mk g rfl rfl, rfl, rfl⟩
  · rw [e, f] at h0
    try rw [e]
    try rw [f]
    refine ok_fr (wc := [(rq 0, .inr (9, [.ref (rq 1), .ref (rq 5), .ref (rq 9), .ref (rq 12), .ref (rq 13), .int M.2.2.2.2.2])), (rq 1, .inl (4, 3, .inr (.inr (.inr (.inr (rf3 rq 2 1 3)))))), (rq 3, .inl (0, 6144, .inl (M.1 1))), (rq 9, .inl (4, 2, .inr (.inr (.inr (.inr (rf3 rq 10 1 2)))))), (rq 10, .inl (0, 21, .inl (M.2.2.1 0))), (rq 12, .inl (0, 6, .inl M.2.2.2.1)), (rq 13, .inl (0, 441, .inl M.2.2.2.2.1))]) (wr := [(rq 2, .inl (0, 6144, .inl (M.1 0))), (rq 4, .inl (0, 6144, .inl (M.1 2))), (rq 5, .inl (4, 3, .inr (.inr (.inr (.inr (rf3 rq 6 1 3)))))), (rq 6, .inl (0, 21, .inl (M.2.1 0))), (rq 7, .inl (0, 21, .inl (M.2.1 1))), (rq 8, .inl (0, 21, .inl (M.2.1 2))), (rq 11, .inl (0, 21, .inl (M.2.2.1 1)))]) [0, 1, 3, 9, 10, 12, 13] [2, 4, 5, 6, 7, 8, 11] (ok_X7_place (m := rq 0) (Mo := rq 1) (Lo := rq 5) (Do := rq 9) (tl := rq 12) (ca := rq 13) (q := rq 3) (w := rq 10) (mm := rf3 rq 2 1 3) (dd := rf3 rq 10 1 2) (fun h9 => by have h8 := ix_in h9; rw [e] at h8; exact (congrArg (rf3 rq 2 1 3) h8.symm).trans rfl) (fun h9 => by have h8 := ix_in h9; rw [f] at h8; exact (congrArg (rf3 rq 10 1 2) h8.symm).trans rfl) h0) rfl rfl rfl rfl (by decide) ?_
    rintro o w hp
    obtain ⟨g, e1, e2⟩ := hp
    subst e1; subst e2
    exact ⟨_, [7, 8, 0, 9, 1, 2, 3, 4, 5, 10, 11, 6, 12, 13], PN.mk g rfl rfl, rfl, rfl⟩
  · rw [e, f] at h0
    try rw [e]
    try rw [f]
    refine ok_fr (wc := [(rq 0, .inr (9, [.ref (rq 1), .ref (rq 5), .ref (rq 9), .ref (rq 12), .ref (rq 13), .int M.2.2.2.2.2])), (rq 1, .inl (4, 3, .inr (.inr (.inr (.inr (rf3 rq 2 1 3)))))), (rq 3, .inl (0, 6144, .inl (M.1 1))), (rq 9, .inl (4, 2, .inr (.inr (.inr (.inr (rf3 rq 10 1 2)))))), (rq 11, .inl (0, 21, .inl (M.2.2.1 1))), (rq 12, .inl (0, 6, .inl M.2.2.2.1)), (rq 13, .inl (0, 441, .inl M.2.2.2.2.1))]) (wr := [(rq 2, .inl (0, 6144, .inl (M.1 0))), (rq 4, .inl (0, 6144, .inl (M.1 2))), (rq 5, .inl (4, 3, .inr (.inr (.inr (.inr (rf3 rq 6 1 3)))))), (rq 6, .inl (0, 21, .inl (M.2.1 0))), (rq 7, .inl (0, 21, .inl (M.2.1 1))), (rq 8, .inl (0, 21, .inl (M.2.1 2))), (rq 10, .inl (0, 21, .inl (M.2.2.1 0)))]) [0, 1, 3, 9, 11, 12, 13] [2, 4, 5, 6, 7, 8, 10] (ok_X7_place (m := rq 0) (Mo := rq 1) (Lo := rq 5) (Do := rq 9) (tl := rq 12) (ca := rq 13) (q := rq 3) (w := rq 11) (mm := rf3 rq 2 1 3) (dd := rf3 rq 10 1 2) (fun h9 => by have h8 := ix_in h9; rw [e] at h8; exact (congrArg (rf3 rq 2 1 3) h8.symm).trans rfl) (fun h9 => by have h8 := ix_in h9; rw [f] at h8; exact (congrArg (rf3 rq 10 1 2) h8.symm).trans rfl) h0) rfl rfl rfl rfl (by decide) ?_
    rintro o w hp
    obtain ⟨g, e1, e2⟩ := hp
    subst e1; subst e2
    exact ⟨_, [7, 8, 0, 9, 1, 2, 3, 4, 5, 10, 6, 11, 12, 13], PN.mk g rfl rfl, rfl, rfl⟩
  · rw [e, f] at h0
    try rw [e]
    try rw [f]
    refine ok_fr (wc := [(rq 0, .inr (9, [.ref (rq 1), .ref (rq 5), .ref (rq 9), .ref (rq 12), .ref (rq 13), .int M.2.2.2.2.2])), (rq 1, .inl (4, 3, .inr (.inr (.inr (.inr (rf3 rq 2 1 3)))))), (rq 4, .inl (0, 6144, .inl (M.1 2))), (rq 9, .inl (4, 2, .inr (.inr (.inr (.inr (rf3 rq 10 1 2)))))), (rq 10, .inl (0, 21, .inl (M.2.2.1 0))), (rq 12, .inl (0, 6, .inl M.2.2.2.1)), (rq 13, .inl (0, 441, .inl M.2.2.2.2.1))]) (wr := [(rq 2, .inl (0, 6144, .inl (M.1 0))), (rq 3, .inl (0, 6144, .inl (M.1 1))), (rq 5, .inl (4, 3, .inr (.inr (.inr (.inr (rf3 rq 6 1 3)))))), (rq 6, .inl (0, 21, .inl (M.2.1 0))), (rq 7, .inl (0, 21, .inl (M.2.1 1))), (rq 8, .inl (0, 21, .inl (M.2.1 2))), (rq 11, .inl (0, 21, .inl (M.2.2.1 1)))]) [0, 1, 4, 9, 10, 12, 13] [2, 3, 5, 6, 7, 8, 11] (ok_X7_place (m := rq 0) (Mo := rq 1) (Lo := rq 5) (Do := rq 9) (tl := rq 12) (ca := rq 13) (q := rq 4) (w := rq 10) (mm := rf3 rq 2 1 3) (dd := rf3 rq 10 1 2) (fun h9 => by have h8 := ix_in h9; rw [e] at h8; exact (congrArg (rf3 rq 2 1 3) h8.symm).trans rfl) (fun h9 => by have h8 := ix_in h9; rw [f] at h8; exact (congrArg (rf3 rq 10 1 2) h8.symm).trans rfl) h0) rfl rfl rfl rfl (by decide) ?_
    rintro o w hp
    obtain ⟨g, e1, e2⟩ := hp
    subst e1; subst e2
    exact ⟨_, [7, 8, 0, 1, 9, 2, 3, 4, 5, 10, 11, 6, 12, 13], PN.mk g rfl rfl, rfl, rfl⟩
  · rw [e, f] at h0
    try rw [e]
    try rw [f]
    refine ok_fr (wc := [(rq 0, .inr (9, [.ref (rq 1), .ref (rq 5), .ref (rq 9), .ref (rq 12), .ref (rq 13), .int M.2.2.2.2.2])), (rq 1, .inl (4, 3, .inr (.inr (.inr (.inr (rf3 rq 2 1 3)))))), (rq 4, .inl (0, 6144, .inl (M.1 2))), (rq 9, .inl (4, 2, .inr (.inr (.inr (.inr (rf3 rq 10 1 2)))))), (rq 11, .inl (0, 21, .inl (M.2.2.1 1))), (rq 12, .inl (0, 6, .inl M.2.2.2.1)), (rq 13, .inl (0, 441, .inl M.2.2.2.2.1))]) (wr := [(rq 2, .inl (0, 6144, .inl (M.1 0))), (rq 3, .inl (0, 6144, .inl (M.1 1))), (rq 5, .inl (4, 3, .inr (.inr (.inr (.inr (rf3 rq 6 1 3)))))), (rq 6, .inl (0, 21, .inl (M.2.1 0))), (rq 7, .inl (0, 21, .inl (M.2.1 1))), (rq 8, .inl (0, 21, .inl (M.2.1 2))), (rq 10, .inl (0, 21, .inl (M.2.2.1 0)))]) [0, 1, 4, 9, 11, 12, 13] [2, 3, 5, 6, 7, 8, 10] (ok_X7_place (m := rq 0) (Mo := rq 1) (Lo := rq 5) (Do := rq 9) (tl := rq 12) (ca := rq 13) (q := rq 4) (w := rq 11) (mm := rf3 rq 2 1 3) (dd := rf3 rq 10 1 2) (fun h9 => by have h8 := ix_in h9; rw [e] at h8; exact (congrArg (rf3 rq 2 1 3) h8.symm).trans rfl) (fun h9 => by have h8 := ix_in h9; rw [f] at h8; exact (congrArg (rf3 rq 10 1 2) h8.symm).trans rfl) h0) rfl rfl rfl rfl (by decide) ?_
    rintro o w hp
    obtain ⟨g, e1, e2⟩ := hp
    subst e1; subst e2
    exact ⟨_, [7, 8, 0, 1, 9, 2, 3, 4, 5, 10, 6, 11, 12, 13], PN.mk g rfl rfl, rfl, rfl⟩
def gM_learn (N K : Nat) (M : MS) (p0 : Int32) (p1 : Int32) (p2 : Int32) (p3 : Int32) : Option (Int32 × MS) := (fX7_learn N K M.2.2.2.2.2 (M.1 (ix 3 p0)) M.2.2.2.1 p0 p1 p2 p3).map (fun z => (z.1, ((upm M.1 (ix 3 p0) z.2.2.1), M.2.1, M.2.2.1, z.2.2.2, M.2.2.2.2.1, z.2.1)))
set_option maxHeartbeats 4000000 in
set_option maxRecDepth 100000 in
theorem ogM_learn {N K : Nat} {rq : Nat → Nat} {M : MS} {p0 : Int32} {p1 : Int32} {p2 : Int32} {p3 : Int32} {x : Int32 × MS} (hE : gM_learn N K M p0 p1 p2 p3 = some x) : OkM yX7_learn (.code yX7_learn cX7_learn 6 (some .int)) (2) 1 21 [.ref (rq 0), .int p0, .int p1, .int p2, .int p3] (WM rq M) ((PN (U := Int32 × MS) (fun z _ => some (.int z.1)) (fun z _ => WM rq z.2)) x) := by
  unfold gM_learn at hE
  obtain ⟨x0, h0, h1⟩ := Option.map_eq_some_iff.mp hE
  subst h1
  clear hE
  rcases lt3 (ix_lt (n := 3) (p := p0) (by decide)) with e | e | e
  · rw [e] at h0
    try rw [e]
    refine ok_fr (wc := [(rq 0, .inr (9, [.ref (rq 1), .ref (rq 5), .ref (rq 9), .ref (rq 12), .ref (rq 13), .int M.2.2.2.2.2])), (rq 1, .inl (4, 3, .inr (.inr (.inr (.inr (rf3 rq 2 1 3)))))), (rq 2, .inl (0, 6144, .inl (M.1 0))), (rq 12, .inl (0, 6, .inl M.2.2.2.1))]) (wr := [(rq 3, .inl (0, 6144, .inl (M.1 1))), (rq 4, .inl (0, 6144, .inl (M.1 2))), (rq 5, .inl (4, 3, .inr (.inr (.inr (.inr (rf3 rq 6 1 3)))))), (rq 6, .inl (0, 21, .inl (M.2.1 0))), (rq 7, .inl (0, 21, .inl (M.2.1 1))), (rq 8, .inl (0, 21, .inl (M.2.1 2))), (rq 9, .inl (4, 2, .inr (.inr (.inr (.inr (rf3 rq 10 1 2)))))), (rq 10, .inl (0, 21, .inl (M.2.2.1 0))), (rq 11, .inl (0, 21, .inl (M.2.2.1 1))), (rq 13, .inl (0, 441, .inl M.2.2.2.2.1))]) [0, 1, 2, 12] [3, 4, 5, 6, 7, 8, 9, 10, 11, 13] (ok_X7_learn (m := rq 0) (Mo := rq 1) (Lo := rq 5) (Do := rq 9) (tl := rq 12) (ca := rq 13) (q := rq 2) (mm := rf3 rq 2 1 3) (fun h9 => by have h8 := ix_in h9; rw [e] at h8; exact (congrArg (rf3 rq 2 1 3) h8.symm).trans rfl) h0) rfl rfl rfl rfl (by decide) ?_
    rintro o w hp
    obtain ⟨g, e1, e2⟩ := hp
    subst e1; subst e2
    exact ⟨_, [10, 11, 12, 0, 1, 2, 3, 4, 5, 6, 7, 8, 13, 9], PN.mk g rfl rfl, rfl, rfl⟩
  · rw [e] at h0
    try rw [e]
    refine ok_fr (wc := [(rq 0, .inr (9, [.ref (rq 1), .ref (rq 5), .ref (rq 9), .ref (rq 12), .ref (rq 13), .int M.2.2.2.2.2])), (rq 1, .inl (4, 3, .inr (.inr (.inr (.inr (rf3 rq 2 1 3)))))), (rq 3, .inl (0, 6144, .inl (M.1 1))), (rq 12, .inl (0, 6, .inl M.2.2.2.1))]) (wr := [(rq 2, .inl (0, 6144, .inl (M.1 0))), (rq 4, .inl (0, 6144, .inl (M.1 2))), (rq 5, .inl (4, 3, .inr (.inr (.inr (.inr (rf3 rq 6 1 3)))))), (rq 6, .inl (0, 21, .inl (M.2.1 0))), (rq 7, .inl (0, 21, .inl (M.2.1 1))), (rq 8, .inl (0, 21, .inl (M.2.1 2))), (rq 9, .inl (4, 2, .inr (.inr (.inr (.inr (rf3 rq 10 1 2)))))), (rq 10, .inl (0, 21, .inl (M.2.2.1 0))), (rq 11, .inl (0, 21, .inl (M.2.2.1 1))), (rq 13, .inl (0, 441, .inl M.2.2.2.2.1))]) [0, 1, 3, 12] [2, 4, 5, 6, 7, 8, 9, 10, 11, 13] (ok_X7_learn (m := rq 0) (Mo := rq 1) (Lo := rq 5) (Do := rq 9) (tl := rq 12) (ca := rq 13) (q := rq 3) (mm := rf3 rq 2 1 3) (fun h9 => by have h8 := ix_in h9; rw [e] at h8; exact (congrArg (rf3 rq 2 1 3) h8.symm).trans rfl) h0) rfl rfl rfl rfl (by decide) ?_
    rintro o w hp
    obtain ⟨g, e1, e2⟩ := hp
    subst e1; subst e2
    exact ⟨_, [10, 11, 0, 12, 1, 2, 3, 4, 5, 6, 7, 8, 13, 9], PN.mk g rfl rfl, rfl, rfl⟩
  · rw [e] at h0
    try rw [e]
    refine ok_fr (wc := [(rq 0, .inr (9, [.ref (rq 1), .ref (rq 5), .ref (rq 9), .ref (rq 12), .ref (rq 13), .int M.2.2.2.2.2])), (rq 1, .inl (4, 3, .inr (.inr (.inr (.inr (rf3 rq 2 1 3)))))), (rq 4, .inl (0, 6144, .inl (M.1 2))), (rq 12, .inl (0, 6, .inl M.2.2.2.1))]) (wr := [(rq 2, .inl (0, 6144, .inl (M.1 0))), (rq 3, .inl (0, 6144, .inl (M.1 1))), (rq 5, .inl (4, 3, .inr (.inr (.inr (.inr (rf3 rq 6 1 3)))))), (rq 6, .inl (0, 21, .inl (M.2.1 0))), (rq 7, .inl (0, 21, .inl (M.2.1 1))), (rq 8, .inl (0, 21, .inl (M.2.1 2))), (rq 9, .inl (4, 2, .inr (.inr (.inr (.inr (rf3 rq 10 1 2)))))), (rq 10, .inl (0, 21, .inl (M.2.2.1 0))), (rq 11, .inl (0, 21, .inl (M.2.2.1 1))), (rq 13, .inl (0, 441, .inl M.2.2.2.2.1))]) [0, 1, 4, 12] [2, 3, 5, 6, 7, 8, 9, 10, 11, 13] (ok_X7_learn (m := rq 0) (Mo := rq 1) (Lo := rq 5) (Do := rq 9) (tl := rq 12) (ca := rq 13) (q := rq 4) (mm := rf3 rq 2 1 3) (fun h9 => by have h8 := ix_in h9; rw [e] at h8; exact (congrArg (rf3 rq 2 1 3) h8.symm).trans rfl) h0) rfl rfl rfl rfl (by decide) ?_
    rintro o w hp
    obtain ⟨g, e1, e2⟩ := hp
    subst e1; subst e2
    exact ⟨_, [10, 11, 0, 1, 12, 2, 3, 4, 5, 6, 7, 8, 13, 9], PN.mk g rfl rfl, rfl, rfl⟩
def gM_relearn (N K : Nat) (M : MS) (p0 : Int32) (p1 : Int32) (p2 : Int32) (p3 : Int32) : Option (Int32 × MS) := (fX7_relearn N K M.2.2.2.2.2 (M.1 (ix 3 p0)) M.2.2.2.1 p0 p1 p2 p3).map (fun z => (z.1, ((upm M.1 (ix 3 p0) z.2.2.1), M.2.1, M.2.2.1, z.2.2.2, M.2.2.2.2.1, z.2.1)))
set_option maxHeartbeats 4000000 in
set_option maxRecDepth 100000 in
theorem ogM_relearn {N K : Nat} {rq : Nat → Nat} {M : MS} {p0 : Int32} {p1 : Int32} {p2 : Int32} {p3 : Int32} {x : Int32 × MS} (hE : gM_relearn N K M p0 p1 p2 p3 = some x) : OkM yX7_relearn (.code yX7_relearn cX7_relearn 5 (some .int)) (5) 1 21 [.ref (rq 0), .int p0, .int p1, .int p2, .int p3] (WM rq M) ((PN (U := Int32 × MS) (fun z _ => some (.int z.1)) (fun z _ => WM rq z.2)) x) := by
  unfold gM_relearn at hE
  obtain ⟨x0, h0, h1⟩ := Option.map_eq_some_iff.mp hE
  subst h1
  clear hE
  rcases lt3 (ix_lt (n := 3) (p := p0) (by decide)) with e | e | e
  · rw [e] at h0
    try rw [e]
    refine ok_fr (wc := [(rq 0, .inr (9, [.ref (rq 1), .ref (rq 5), .ref (rq 9), .ref (rq 12), .ref (rq 13), .int M.2.2.2.2.2])), (rq 1, .inl (4, 3, .inr (.inr (.inr (.inr (rf3 rq 2 1 3)))))), (rq 2, .inl (0, 6144, .inl (M.1 0))), (rq 12, .inl (0, 6, .inl M.2.2.2.1))]) (wr := [(rq 3, .inl (0, 6144, .inl (M.1 1))), (rq 4, .inl (0, 6144, .inl (M.1 2))), (rq 5, .inl (4, 3, .inr (.inr (.inr (.inr (rf3 rq 6 1 3)))))), (rq 6, .inl (0, 21, .inl (M.2.1 0))), (rq 7, .inl (0, 21, .inl (M.2.1 1))), (rq 8, .inl (0, 21, .inl (M.2.1 2))), (rq 9, .inl (4, 2, .inr (.inr (.inr (.inr (rf3 rq 10 1 2)))))), (rq 10, .inl (0, 21, .inl (M.2.2.1 0))), (rq 11, .inl (0, 21, .inl (M.2.2.1 1))), (rq 13, .inl (0, 441, .inl M.2.2.2.2.1))]) [0, 1, 2, 12] [3, 4, 5, 6, 7, 8, 9, 10, 11, 13] (ok_X7_relearn (m := rq 0) (Mo := rq 1) (Lo := rq 5) (Do := rq 9) (tl := rq 12) (ca := rq 13) (q := rq 2) (mm := rf3 rq 2 1 3) (fun h9 => by have h8 := ix_in h9; rw [e] at h8; exact (congrArg (rf3 rq 2 1 3) h8.symm).trans rfl) h0) rfl rfl rfl rfl (by decide) ?_
    rintro o w hp
    obtain ⟨g, e1, e2⟩ := hp
    subst e1; subst e2
    exact ⟨_, [10, 11, 12, 0, 1, 2, 3, 4, 5, 6, 7, 8, 13, 9], PN.mk g rfl rfl, rfl, rfl⟩
  · rw [e] at h0
    try rw [e]
    refine ok_fr (wc := [(rq 0, .inr (9, [.ref (rq 1), .ref (rq 5), .ref (rq 9), .ref (rq 12), .ref (rq 13), .int M.2.2.2.2.2])), (rq 1, .inl (4, 3, .inr (.inr (.inr (.inr (rf3 rq 2 1 3)))))), (rq 3, .inl (0, 6144, .inl (M.1 1))), (rq 12, .inl (0, 6, .inl M.2.2.2.1))]) (wr := [(rq 2, .inl (0, 6144, .inl (M.1 0))), (rq 4, .inl (0, 6144, .inl (M.1 2))), (rq 5, .inl (4, 3, .inr (.inr (.inr (.inr (rf3 rq 6 1 3)))))), (rq 6, .inl (0, 21, .inl (M.2.1 0))), (rq 7, .inl (0, 21, .inl (M.2.1 1))), (rq 8, .inl (0, 21, .inl (M.2.1 2))), (rq 9, .inl (4, 2, .inr (.inr (.inr (.inr (rf3 rq 10 1 2)))))), (rq 10, .inl (0, 21, .inl (M.2.2.1 0))), (rq 11, .inl (0, 21, .inl (M.2.2.1 1))), (rq 13, .inl (0, 441, .inl M.2.2.2.2.1))]) [0, 1, 3, 12] [2, 4, 5, 6, 7, 8, 9, 10, 11, 13] (ok_X7_relearn (m := rq 0) (Mo := rq 1) (Lo := rq 5) (Do := rq 9) (tl := rq 12) (ca := rq 13) (q := rq 3) (mm := rf3 rq 2 1 3) (fun h9 => by have h8 := ix_in h9; rw [e] at h8; exact (congrArg (rf3 rq 2 1 3) h8.symm).trans rfl) h0) rfl rfl rfl rfl (by decide) ?_
    rintro o w hp
    obtain ⟨g, e1, e2⟩ := hp
    subst e1; subst e2
    exact ⟨_, [10, 11, 0, 12, 1, 2, 3, 4, 5, 6, 7, 8, 13, 9], PN.mk g rfl rfl, rfl, rfl⟩
  · rw [e] at h0
    try rw [e]
    refine ok_fr (wc := [(rq 0, .inr (9, [.ref (rq 1), .ref (rq 5), .ref (rq 9), .ref (rq 12), .ref (rq 13), .int M.2.2.2.2.2])), (rq 1, .inl (4, 3, .inr (.inr (.inr (.inr (rf3 rq 2 1 3)))))), (rq 4, .inl (0, 6144, .inl (M.1 2))), (rq 12, .inl (0, 6, .inl M.2.2.2.1))]) (wr := [(rq 2, .inl (0, 6144, .inl (M.1 0))), (rq 3, .inl (0, 6144, .inl (M.1 1))), (rq 5, .inl (4, 3, .inr (.inr (.inr (.inr (rf3 rq 6 1 3)))))), (rq 6, .inl (0, 21, .inl (M.2.1 0))), (rq 7, .inl (0, 21, .inl (M.2.1 1))), (rq 8, .inl (0, 21, .inl (M.2.1 2))), (rq 9, .inl (4, 2, .inr (.inr (.inr (.inr (rf3 rq 10 1 2)))))), (rq 10, .inl (0, 21, .inl (M.2.2.1 0))), (rq 11, .inl (0, 21, .inl (M.2.2.1 1))), (rq 13, .inl (0, 441, .inl M.2.2.2.2.1))]) [0, 1, 4, 12] [2, 3, 5, 6, 7, 8, 9, 10, 11, 13] (ok_X7_relearn (m := rq 0) (Mo := rq 1) (Lo := rq 5) (Do := rq 9) (tl := rq 12) (ca := rq 13) (q := rq 4) (mm := rf3 rq 2 1 3) (fun h9 => by have h8 := ix_in h9; rw [e] at h8; exact (congrArg (rf3 rq 2 1 3) h8.symm).trans rfl) h0) rfl rfl rfl rfl (by decide) ?_
    rintro o w hp
    obtain ⟨g, e1, e2⟩ := hp
    subst e1; subst e2
    exact ⟨_, [10, 11, 0, 1, 12, 2, 3, 4, 5, 6, 7, 8, 13, 9], PN.mk g rfl rfl, rfl, rfl⟩
def gM_forget (N K : Nat) (M : MS) (p0 : Int32) (p1 : Int32) (p2 : Int32) (p3 : Int32) : Option (Int32 × MS) := (fX7_forget N K M.2.2.2.2.2 (M.1 (ix 3 p0)) M.2.2.2.1 p0 p1 p2 p3).map (fun z => (z.1, ((upm M.1 (ix 3 p0) z.2.2.1), M.2.1, M.2.2.1, z.2.2.2, M.2.2.2.2.1, z.2.1)))
set_option maxHeartbeats 4000000 in
set_option maxRecDepth 100000 in
theorem ogM_forget {N K : Nat} {rq : Nat → Nat} {M : MS} {p0 : Int32} {p1 : Int32} {p2 : Int32} {p3 : Int32} {x : Int32 × MS} (hE : gM_forget N K M p0 p1 p2 p3 = some x) : OkM yX7_forget (.code yX7_forget cX7_forget 6 (some .int)) (2) 0 0 [.ref (rq 0), .int p0, .int p1, .int p2, .int p3] (WM rq M) ((PN (U := Int32 × MS) (fun z _ => some (.int z.1)) (fun z _ => WM rq z.2)) x) := by
  unfold gM_forget at hE
  obtain ⟨x0, h0, h1⟩ := Option.map_eq_some_iff.mp hE
  subst h1
  clear hE
  rcases lt3 (ix_lt (n := 3) (p := p0) (by decide)) with e | e | e
  · rw [e] at h0
    try rw [e]
    refine ok_fr (wc := [(rq 0, .inr (9, [.ref (rq 1), .ref (rq 5), .ref (rq 9), .ref (rq 12), .ref (rq 13), .int M.2.2.2.2.2])), (rq 1, .inl (4, 3, .inr (.inr (.inr (.inr (rf3 rq 2 1 3)))))), (rq 2, .inl (0, 6144, .inl (M.1 0))), (rq 12, .inl (0, 6, .inl M.2.2.2.1))]) (wr := [(rq 3, .inl (0, 6144, .inl (M.1 1))), (rq 4, .inl (0, 6144, .inl (M.1 2))), (rq 5, .inl (4, 3, .inr (.inr (.inr (.inr (rf3 rq 6 1 3)))))), (rq 6, .inl (0, 21, .inl (M.2.1 0))), (rq 7, .inl (0, 21, .inl (M.2.1 1))), (rq 8, .inl (0, 21, .inl (M.2.1 2))), (rq 9, .inl (4, 2, .inr (.inr (.inr (.inr (rf3 rq 10 1 2)))))), (rq 10, .inl (0, 21, .inl (M.2.2.1 0))), (rq 11, .inl (0, 21, .inl (M.2.2.1 1))), (rq 13, .inl (0, 441, .inl M.2.2.2.2.1))]) [0, 1, 2, 12] [3, 4, 5, 6, 7, 8, 9, 10, 11, 13] (ok_X7_forget (m := rq 0) (Mo := rq 1) (Lo := rq 5) (Do := rq 9) (tl := rq 12) (ca := rq 13) (q := rq 2) (mm := rf3 rq 2 1 3) (fun h9 => by have h8 := ix_in h9; rw [e] at h8; exact (congrArg (rf3 rq 2 1 3) h8.symm).trans rfl) h0) rfl rfl rfl rfl (by decide) ?_
    rintro o w hp
    obtain ⟨g, e1, e2⟩ := hp
    subst e1; subst e2
    exact ⟨_, [10, 11, 12, 0, 1, 2, 3, 4, 5, 6, 7, 8, 13, 9], PN.mk g rfl rfl, rfl, rfl⟩
  · rw [e] at h0
    try rw [e]
    refine ok_fr (wc := [(rq 0, .inr (9, [.ref (rq 1), .ref (rq 5), .ref (rq 9), .ref (rq 12), .ref (rq 13), .int M.2.2.2.2.2])), (rq 1, .inl (4, 3, .inr (.inr (.inr (.inr (rf3 rq 2 1 3)))))), (rq 3, .inl (0, 6144, .inl (M.1 1))), (rq 12, .inl (0, 6, .inl M.2.2.2.1))]) (wr := [(rq 2, .inl (0, 6144, .inl (M.1 0))), (rq 4, .inl (0, 6144, .inl (M.1 2))), (rq 5, .inl (4, 3, .inr (.inr (.inr (.inr (rf3 rq 6 1 3)))))), (rq 6, .inl (0, 21, .inl (M.2.1 0))), (rq 7, .inl (0, 21, .inl (M.2.1 1))), (rq 8, .inl (0, 21, .inl (M.2.1 2))), (rq 9, .inl (4, 2, .inr (.inr (.inr (.inr (rf3 rq 10 1 2)))))), (rq 10, .inl (0, 21, .inl (M.2.2.1 0))), (rq 11, .inl (0, 21, .inl (M.2.2.1 1))), (rq 13, .inl (0, 441, .inl M.2.2.2.2.1))]) [0, 1, 3, 12] [2, 4, 5, 6, 7, 8, 9, 10, 11, 13] (ok_X7_forget (m := rq 0) (Mo := rq 1) (Lo := rq 5) (Do := rq 9) (tl := rq 12) (ca := rq 13) (q := rq 3) (mm := rf3 rq 2 1 3) (fun h9 => by have h8 := ix_in h9; rw [e] at h8; exact (congrArg (rf3 rq 2 1 3) h8.symm).trans rfl) h0) rfl rfl rfl rfl (by decide) ?_
    rintro o w hp
    obtain ⟨g, e1, e2⟩ := hp
    subst e1; subst e2
    exact ⟨_, [10, 11, 0, 12, 1, 2, 3, 4, 5, 6, 7, 8, 13, 9], PN.mk g rfl rfl, rfl, rfl⟩
  · rw [e] at h0
    try rw [e]
    refine ok_fr (wc := [(rq 0, .inr (9, [.ref (rq 1), .ref (rq 5), .ref (rq 9), .ref (rq 12), .ref (rq 13), .int M.2.2.2.2.2])), (rq 1, .inl (4, 3, .inr (.inr (.inr (.inr (rf3 rq 2 1 3)))))), (rq 4, .inl (0, 6144, .inl (M.1 2))), (rq 12, .inl (0, 6, .inl M.2.2.2.1))]) (wr := [(rq 2, .inl (0, 6144, .inl (M.1 0))), (rq 3, .inl (0, 6144, .inl (M.1 1))), (rq 5, .inl (4, 3, .inr (.inr (.inr (.inr (rf3 rq 6 1 3)))))), (rq 6, .inl (0, 21, .inl (M.2.1 0))), (rq 7, .inl (0, 21, .inl (M.2.1 1))), (rq 8, .inl (0, 21, .inl (M.2.1 2))), (rq 9, .inl (4, 2, .inr (.inr (.inr (.inr (rf3 rq 10 1 2)))))), (rq 10, .inl (0, 21, .inl (M.2.2.1 0))), (rq 11, .inl (0, 21, .inl (M.2.2.1 1))), (rq 13, .inl (0, 441, .inl M.2.2.2.2.1))]) [0, 1, 4, 12] [2, 3, 5, 6, 7, 8, 9, 10, 11, 13] (ok_X7_forget (m := rq 0) (Mo := rq 1) (Lo := rq 5) (Do := rq 9) (tl := rq 12) (ca := rq 13) (q := rq 4) (mm := rf3 rq 2 1 3) (fun h9 => by have h8 := ix_in h9; rw [e] at h8; exact (congrArg (rf3 rq 2 1 3) h8.symm).trans rfl) h0) rfl rfl rfl rfl (by decide) ?_
    rintro o w hp
    obtain ⟨g, e1, e2⟩ := hp
    subst e1; subst e2
    exact ⟨_, [10, 11, 0, 1, 12, 2, 3, 4, 5, 6, 7, 8, 13, 9], PN.mk g rfl rfl, rfl, rfl⟩
def gM_forgetIf (N K : Nat) (M : MS) (p0 : Int32) (p1 : Int32) (p2 : Int32) (p3 : Int32) (p4 : Int32) : Option (Int32 × MS) := (fX7_forgetIf N K M.2.2.2.2.2 (M.1 (ix 3 p0)) M.2.2.2.1 p0 p1 p2 p3 p4).map (fun z => (z.1, ((upm M.1 (ix 3 p0) z.2.2.1), M.2.1, M.2.2.1, z.2.2.2, M.2.2.2.2.1, z.2.1)))
set_option maxHeartbeats 4000000 in
set_option maxRecDepth 100000 in
theorem ogM_forgetIf {N K : Nat} {rq : Nat → Nat} {M : MS} {p0 : Int32} {p1 : Int32} {p2 : Int32} {p3 : Int32} {p4 : Int32} {x : Int32 × MS} (hE : gM_forgetIf N K M p0 p1 p2 p3 p4 = some x) : OkM yX7_forgetIf (.code yX7_forgetIf cX7_forgetIf 8 (some .int)) (2) 0 0 [.ref (rq 0), .int p0, .int p1, .int p2, .int p3, .int p4] (WM rq M) ((PN (U := Int32 × MS) (fun z _ => some (.int z.1)) (fun z _ => WM rq z.2)) x) := by
  unfold gM_forgetIf at hE
  obtain ⟨x0, h0, h1⟩ := Option.map_eq_some_iff.mp hE
  subst h1
  clear hE
  rcases lt3 (ix_lt (n := 3) (p := p0) (by decide)) with e | e | e
  · rw [e] at h0
    try rw [e]
    refine ok_fr (wc := [(rq 0, .inr (9, [.ref (rq 1), .ref (rq 5), .ref (rq 9), .ref (rq 12), .ref (rq 13), .int M.2.2.2.2.2])), (rq 1, .inl (4, 3, .inr (.inr (.inr (.inr (rf3 rq 2 1 3)))))), (rq 2, .inl (0, 6144, .inl (M.1 0))), (rq 12, .inl (0, 6, .inl M.2.2.2.1))]) (wr := [(rq 3, .inl (0, 6144, .inl (M.1 1))), (rq 4, .inl (0, 6144, .inl (M.1 2))), (rq 5, .inl (4, 3, .inr (.inr (.inr (.inr (rf3 rq 6 1 3)))))), (rq 6, .inl (0, 21, .inl (M.2.1 0))), (rq 7, .inl (0, 21, .inl (M.2.1 1))), (rq 8, .inl (0, 21, .inl (M.2.1 2))), (rq 9, .inl (4, 2, .inr (.inr (.inr (.inr (rf3 rq 10 1 2)))))), (rq 10, .inl (0, 21, .inl (M.2.2.1 0))), (rq 11, .inl (0, 21, .inl (M.2.2.1 1))), (rq 13, .inl (0, 441, .inl M.2.2.2.2.1))]) [0, 1, 2, 12] [3, 4, 5, 6, 7, 8, 9, 10, 11, 13] (ok_X7_forgetIf (m := rq 0) (Mo := rq 1) (Lo := rq 5) (Do := rq 9) (tl := rq 12) (ca := rq 13) (q := rq 2) (mm := rf3 rq 2 1 3) (fun h9 => by have h8 := ix_in h9; rw [e] at h8; exact (congrArg (rf3 rq 2 1 3) h8.symm).trans rfl) h0) rfl rfl rfl rfl (by decide) ?_
    rintro o w hp
    obtain ⟨g, e1, e2⟩ := hp
    subst e1; subst e2
    exact ⟨_, [10, 11, 12, 0, 1, 2, 3, 4, 5, 6, 7, 8, 13, 9], PN.mk g rfl rfl, rfl, rfl⟩
  · rw [e] at h0
    try rw [e]
    refine ok_fr (wc := [(rq 0, .inr (9, [.ref (rq 1), .ref (rq 5), .ref (rq 9), .ref (rq 12), .ref (rq 13), .int M.2.2.2.2.2])), (rq 1, .inl (4, 3, .inr (.inr (.inr (.inr (rf3 rq 2 1 3)))))), (rq 3, .inl (0, 6144, .inl (M.1 1))), (rq 12, .inl (0, 6, .inl M.2.2.2.1))]) (wr := [(rq 2, .inl (0, 6144, .inl (M.1 0))), (rq 4, .inl (0, 6144, .inl (M.1 2))), (rq 5, .inl (4, 3, .inr (.inr (.inr (.inr (rf3 rq 6 1 3)))))), (rq 6, .inl (0, 21, .inl (M.2.1 0))), (rq 7, .inl (0, 21, .inl (M.2.1 1))), (rq 8, .inl (0, 21, .inl (M.2.1 2))), (rq 9, .inl (4, 2, .inr (.inr (.inr (.inr (rf3 rq 10 1 2)))))), (rq 10, .inl (0, 21, .inl (M.2.2.1 0))), (rq 11, .inl (0, 21, .inl (M.2.2.1 1))), (rq 13, .inl (0, 441, .inl M.2.2.2.2.1))]) [0, 1, 3, 12] [2, 4, 5, 6, 7, 8, 9, 10, 11, 13] (ok_X7_forgetIf (m := rq 0) (Mo := rq 1) (Lo := rq 5) (Do := rq 9) (tl := rq 12) (ca := rq 13) (q := rq 3) (mm := rf3 rq 2 1 3) (fun h9 => by have h8 := ix_in h9; rw [e] at h8; exact (congrArg (rf3 rq 2 1 3) h8.symm).trans rfl) h0) rfl rfl rfl rfl (by decide) ?_
    rintro o w hp
    obtain ⟨g, e1, e2⟩ := hp
    subst e1; subst e2
    exact ⟨_, [10, 11, 0, 12, 1, 2, 3, 4, 5, 6, 7, 8, 13, 9], PN.mk g rfl rfl, rfl, rfl⟩
  · rw [e] at h0
    try rw [e]
    refine ok_fr (wc := [(rq 0, .inr (9, [.ref (rq 1), .ref (rq 5), .ref (rq 9), .ref (rq 12), .ref (rq 13), .int M.2.2.2.2.2])), (rq 1, .inl (4, 3, .inr (.inr (.inr (.inr (rf3 rq 2 1 3)))))), (rq 4, .inl (0, 6144, .inl (M.1 2))), (rq 12, .inl (0, 6, .inl M.2.2.2.1))]) (wr := [(rq 2, .inl (0, 6144, .inl (M.1 0))), (rq 3, .inl (0, 6144, .inl (M.1 1))), (rq 5, .inl (4, 3, .inr (.inr (.inr (.inr (rf3 rq 6 1 3)))))), (rq 6, .inl (0, 21, .inl (M.2.1 0))), (rq 7, .inl (0, 21, .inl (M.2.1 1))), (rq 8, .inl (0, 21, .inl (M.2.1 2))), (rq 9, .inl (4, 2, .inr (.inr (.inr (.inr (rf3 rq 10 1 2)))))), (rq 10, .inl (0, 21, .inl (M.2.2.1 0))), (rq 11, .inl (0, 21, .inl (M.2.2.1 1))), (rq 13, .inl (0, 441, .inl M.2.2.2.2.1))]) [0, 1, 4, 12] [2, 3, 5, 6, 7, 8, 9, 10, 11, 13] (ok_X7_forgetIf (m := rq 0) (Mo := rq 1) (Lo := rq 5) (Do := rq 9) (tl := rq 12) (ca := rq 13) (q := rq 4) (mm := rf3 rq 2 1 3) (fun h9 => by have h8 := ix_in h9; rw [e] at h8; exact (congrArg (rf3 rq 2 1 3) h8.symm).trans rfl) h0) rfl rfl rfl rfl (by decide) ?_
    rintro o w hp
    obtain ⟨g, e1, e2⟩ := hp
    subst e1; subst e2
    exact ⟨_, [10, 11, 0, 1, 12, 2, 3, 4, 5, 6, 7, 8, 13, 9], PN.mk g rfl rfl, rfl, rfl⟩
def gM_forgetAll (N K : Nat) (M : MS) (p0 : Int32) (p1 : Int32) (p2 : Int32) : Option (Int32 × MS) := (fX7_forgetAll N K M.2.2.2.2.2 (M.1 (ix 3 p0)) M.2.2.2.1 p0 p1 p2).map (fun z => (z.1, ((upm M.1 (ix 3 p0) z.2.2.1), M.2.1, M.2.2.1, z.2.2.2, M.2.2.2.2.1, z.2.1)))
set_option maxHeartbeats 4000000 in
set_option maxRecDepth 100000 in
theorem ogM_forgetAll {N K : Nat} {rq : Nat → Nat} {M : MS} {p0 : Int32} {p1 : Int32} {p2 : Int32} {x : Int32 × MS} (hE : gM_forgetAll N K M p0 p1 p2 = some x) : OkM yX7_forgetAll (.code yX7_forgetAll cX7_forgetAll 6 (some .int)) (3) 0 0 [.ref (rq 0), .int p0, .int p1, .int p2] (WM rq M) ((PN (U := Int32 × MS) (fun z _ => some (.int z.1)) (fun z _ => WM rq z.2)) x) := by
  unfold gM_forgetAll at hE
  obtain ⟨x0, h0, h1⟩ := Option.map_eq_some_iff.mp hE
  subst h1
  clear hE
  rcases lt3 (ix_lt (n := 3) (p := p0) (by decide)) with e | e | e
  · rw [e] at h0
    try rw [e]
    refine ok_fr (wc := [(rq 0, .inr (9, [.ref (rq 1), .ref (rq 5), .ref (rq 9), .ref (rq 12), .ref (rq 13), .int M.2.2.2.2.2])), (rq 1, .inl (4, 3, .inr (.inr (.inr (.inr (rf3 rq 2 1 3)))))), (rq 2, .inl (0, 6144, .inl (M.1 0))), (rq 12, .inl (0, 6, .inl M.2.2.2.1))]) (wr := [(rq 3, .inl (0, 6144, .inl (M.1 1))), (rq 4, .inl (0, 6144, .inl (M.1 2))), (rq 5, .inl (4, 3, .inr (.inr (.inr (.inr (rf3 rq 6 1 3)))))), (rq 6, .inl (0, 21, .inl (M.2.1 0))), (rq 7, .inl (0, 21, .inl (M.2.1 1))), (rq 8, .inl (0, 21, .inl (M.2.1 2))), (rq 9, .inl (4, 2, .inr (.inr (.inr (.inr (rf3 rq 10 1 2)))))), (rq 10, .inl (0, 21, .inl (M.2.2.1 0))), (rq 11, .inl (0, 21, .inl (M.2.2.1 1))), (rq 13, .inl (0, 441, .inl M.2.2.2.2.1))]) [0, 1, 2, 12] [3, 4, 5, 6, 7, 8, 9, 10, 11, 13] (ok_X7_forgetAll (m := rq 0) (Mo := rq 1) (Lo := rq 5) (Do := rq 9) (tl := rq 12) (ca := rq 13) (q := rq 2) (mm := rf3 rq 2 1 3) (fun h9 => by have h8 := ix_in h9; rw [e] at h8; exact (congrArg (rf3 rq 2 1 3) h8.symm).trans rfl) h0) rfl rfl rfl rfl (by decide) ?_
    rintro o w hp
    obtain ⟨g, e1, e2⟩ := hp
    subst e1; subst e2
    exact ⟨_, [10, 11, 12, 0, 1, 2, 3, 4, 5, 6, 7, 8, 13, 9], PN.mk g rfl rfl, rfl, rfl⟩
  · rw [e] at h0
    try rw [e]
    refine ok_fr (wc := [(rq 0, .inr (9, [.ref (rq 1), .ref (rq 5), .ref (rq 9), .ref (rq 12), .ref (rq 13), .int M.2.2.2.2.2])), (rq 1, .inl (4, 3, .inr (.inr (.inr (.inr (rf3 rq 2 1 3)))))), (rq 3, .inl (0, 6144, .inl (M.1 1))), (rq 12, .inl (0, 6, .inl M.2.2.2.1))]) (wr := [(rq 2, .inl (0, 6144, .inl (M.1 0))), (rq 4, .inl (0, 6144, .inl (M.1 2))), (rq 5, .inl (4, 3, .inr (.inr (.inr (.inr (rf3 rq 6 1 3)))))), (rq 6, .inl (0, 21, .inl (M.2.1 0))), (rq 7, .inl (0, 21, .inl (M.2.1 1))), (rq 8, .inl (0, 21, .inl (M.2.1 2))), (rq 9, .inl (4, 2, .inr (.inr (.inr (.inr (rf3 rq 10 1 2)))))), (rq 10, .inl (0, 21, .inl (M.2.2.1 0))), (rq 11, .inl (0, 21, .inl (M.2.2.1 1))), (rq 13, .inl (0, 441, .inl M.2.2.2.2.1))]) [0, 1, 3, 12] [2, 4, 5, 6, 7, 8, 9, 10, 11, 13] (ok_X7_forgetAll (m := rq 0) (Mo := rq 1) (Lo := rq 5) (Do := rq 9) (tl := rq 12) (ca := rq 13) (q := rq 3) (mm := rf3 rq 2 1 3) (fun h9 => by have h8 := ix_in h9; rw [e] at h8; exact (congrArg (rf3 rq 2 1 3) h8.symm).trans rfl) h0) rfl rfl rfl rfl (by decide) ?_
    rintro o w hp
    obtain ⟨g, e1, e2⟩ := hp
    subst e1; subst e2
    exact ⟨_, [10, 11, 0, 12, 1, 2, 3, 4, 5, 6, 7, 8, 13, 9], PN.mk g rfl rfl, rfl, rfl⟩
  · rw [e] at h0
    try rw [e]
    refine ok_fr (wc := [(rq 0, .inr (9, [.ref (rq 1), .ref (rq 5), .ref (rq 9), .ref (rq 12), .ref (rq 13), .int M.2.2.2.2.2])), (rq 1, .inl (4, 3, .inr (.inr (.inr (.inr (rf3 rq 2 1 3)))))), (rq 4, .inl (0, 6144, .inl (M.1 2))), (rq 12, .inl (0, 6, .inl M.2.2.2.1))]) (wr := [(rq 2, .inl (0, 6144, .inl (M.1 0))), (rq 3, .inl (0, 6144, .inl (M.1 1))), (rq 5, .inl (4, 3, .inr (.inr (.inr (.inr (rf3 rq 6 1 3)))))), (rq 6, .inl (0, 21, .inl (M.2.1 0))), (rq 7, .inl (0, 21, .inl (M.2.1 1))), (rq 8, .inl (0, 21, .inl (M.2.1 2))), (rq 9, .inl (4, 2, .inr (.inr (.inr (.inr (rf3 rq 10 1 2)))))), (rq 10, .inl (0, 21, .inl (M.2.2.1 0))), (rq 11, .inl (0, 21, .inl (M.2.2.1 1))), (rq 13, .inl (0, 441, .inl M.2.2.2.2.1))]) [0, 1, 4, 12] [2, 3, 5, 6, 7, 8, 9, 10, 11, 13] (ok_X7_forgetAll (m := rq 0) (Mo := rq 1) (Lo := rq 5) (Do := rq 9) (tl := rq 12) (ca := rq 13) (q := rq 4) (mm := rf3 rq 2 1 3) (fun h9 => by have h8 := ix_in h9; rw [e] at h8; exact (congrArg (rf3 rq 2 1 3) h8.symm).trans rfl) h0) rfl rfl rfl rfl (by decide) ?_
    rintro o w hp
    obtain ⟨g, e1, e2⟩ := hp
    subst e1; subst e2
    exact ⟨_, [10, 11, 0, 1, 12, 2, 3, 4, 5, 6, 7, 8, 13, 9], PN.mk g rfl rfl, rfl, rfl⟩
def gM_clear (N K : Nat) (M : MS) (p0 : Int32) : Option (Int32 × MS) := (fX7_clear N K M.2.2.2.2.2 (M.1 (ix 3 p0)) M.2.2.2.1 p0).map (fun z => (z.1, ((upm M.1 (ix 3 p0) z.2.2.1), M.2.1, M.2.2.1, z.2.2.2, M.2.2.2.2.1, z.2.1)))
set_option maxHeartbeats 4000000 in
set_option maxRecDepth 100000 in
theorem ogM_clear {N K : Nat} {rq : Nat → Nat} {M : MS} {p0 : Int32} {x : Int32 × MS} (hE : gM_clear N K M p0 = some x) : OkM yX7_clear (.code yX7_clear cX7_clear 4 (some .int)) (2) 0 0 [.ref (rq 0), .int p0] (WM rq M) ((PN (U := Int32 × MS) (fun z _ => some (.int z.1)) (fun z _ => WM rq z.2)) x) := by
  unfold gM_clear at hE
  obtain ⟨x0, h0, h1⟩ := Option.map_eq_some_iff.mp hE
  subst h1
  clear hE
  rcases lt3 (ix_lt (n := 3) (p := p0) (by decide)) with e | e | e
  · rw [e] at h0
    try rw [e]
    refine ok_fr (wc := [(rq 0, .inr (9, [.ref (rq 1), .ref (rq 5), .ref (rq 9), .ref (rq 12), .ref (rq 13), .int M.2.2.2.2.2])), (rq 1, .inl (4, 3, .inr (.inr (.inr (.inr (rf3 rq 2 1 3)))))), (rq 2, .inl (0, 6144, .inl (M.1 0))), (rq 12, .inl (0, 6, .inl M.2.2.2.1))]) (wr := [(rq 3, .inl (0, 6144, .inl (M.1 1))), (rq 4, .inl (0, 6144, .inl (M.1 2))), (rq 5, .inl (4, 3, .inr (.inr (.inr (.inr (rf3 rq 6 1 3)))))), (rq 6, .inl (0, 21, .inl (M.2.1 0))), (rq 7, .inl (0, 21, .inl (M.2.1 1))), (rq 8, .inl (0, 21, .inl (M.2.1 2))), (rq 9, .inl (4, 2, .inr (.inr (.inr (.inr (rf3 rq 10 1 2)))))), (rq 10, .inl (0, 21, .inl (M.2.2.1 0))), (rq 11, .inl (0, 21, .inl (M.2.2.1 1))), (rq 13, .inl (0, 441, .inl M.2.2.2.2.1))]) [0, 1, 2, 12] [3, 4, 5, 6, 7, 8, 9, 10, 11, 13] (ok_X7_clear (m := rq 0) (Mo := rq 1) (Lo := rq 5) (Do := rq 9) (tl := rq 12) (ca := rq 13) (q := rq 2) (mm := rf3 rq 2 1 3) (fun h9 => by have h8 := ix_in h9; rw [e] at h8; exact (congrArg (rf3 rq 2 1 3) h8.symm).trans rfl) h0) rfl rfl rfl rfl (by decide) ?_
    rintro o w hp
    obtain ⟨g, e1, e2⟩ := hp
    subst e1; subst e2
    exact ⟨_, [10, 11, 12, 0, 1, 2, 3, 4, 5, 6, 7, 8, 13, 9], PN.mk g rfl rfl, rfl, rfl⟩
  · rw [e] at h0
    try rw [e]
    refine ok_fr (wc := [(rq 0, .inr (9, [.ref (rq 1), .ref (rq 5), .ref (rq 9), .ref (rq 12), .ref (rq 13), .int M.2.2.2.2.2])), (rq 1, .inl (4, 3, .inr (.inr (.inr (.inr (rf3 rq 2 1 3)))))), (rq 3, .inl (0, 6144, .inl (M.1 1))), (rq 12, .inl (0, 6, .inl M.2.2.2.1))]) (wr := [(rq 2, .inl (0, 6144, .inl (M.1 0))), (rq 4, .inl (0, 6144, .inl (M.1 2))), (rq 5, .inl (4, 3, .inr (.inr (.inr (.inr (rf3 rq 6 1 3)))))), (rq 6, .inl (0, 21, .inl (M.2.1 0))), (rq 7, .inl (0, 21, .inl (M.2.1 1))), (rq 8, .inl (0, 21, .inl (M.2.1 2))), (rq 9, .inl (4, 2, .inr (.inr (.inr (.inr (rf3 rq 10 1 2)))))), (rq 10, .inl (0, 21, .inl (M.2.2.1 0))), (rq 11, .inl (0, 21, .inl (M.2.2.1 1))), (rq 13, .inl (0, 441, .inl M.2.2.2.2.1))]) [0, 1, 3, 12] [2, 4, 5, 6, 7, 8, 9, 10, 11, 13] (ok_X7_clear (m := rq 0) (Mo := rq 1) (Lo := rq 5) (Do := rq 9) (tl := rq 12) (ca := rq 13) (q := rq 3) (mm := rf3 rq 2 1 3) (fun h9 => by have h8 := ix_in h9; rw [e] at h8; exact (congrArg (rf3 rq 2 1 3) h8.symm).trans rfl) h0) rfl rfl rfl rfl (by decide) ?_
    rintro o w hp
    obtain ⟨g, e1, e2⟩ := hp
    subst e1; subst e2
    exact ⟨_, [10, 11, 0, 12, 1, 2, 3, 4, 5, 6, 7, 8, 13, 9], PN.mk g rfl rfl, rfl, rfl⟩
  · rw [e] at h0
    try rw [e]
    refine ok_fr (wc := [(rq 0, .inr (9, [.ref (rq 1), .ref (rq 5), .ref (rq 9), .ref (rq 12), .ref (rq 13), .int M.2.2.2.2.2])), (rq 1, .inl (4, 3, .inr (.inr (.inr (.inr (rf3 rq 2 1 3)))))), (rq 4, .inl (0, 6144, .inl (M.1 2))), (rq 12, .inl (0, 6, .inl M.2.2.2.1))]) (wr := [(rq 2, .inl (0, 6144, .inl (M.1 0))), (rq 3, .inl (0, 6144, .inl (M.1 1))), (rq 5, .inl (4, 3, .inr (.inr (.inr (.inr (rf3 rq 6 1 3)))))), (rq 6, .inl (0, 21, .inl (M.2.1 0))), (rq 7, .inl (0, 21, .inl (M.2.1 1))), (rq 8, .inl (0, 21, .inl (M.2.1 2))), (rq 9, .inl (4, 2, .inr (.inr (.inr (.inr (rf3 rq 10 1 2)))))), (rq 10, .inl (0, 21, .inl (M.2.2.1 0))), (rq 11, .inl (0, 21, .inl (M.2.2.1 1))), (rq 13, .inl (0, 441, .inl M.2.2.2.2.1))]) [0, 1, 4, 12] [2, 3, 5, 6, 7, 8, 9, 10, 11, 13] (ok_X7_clear (m := rq 0) (Mo := rq 1) (Lo := rq 5) (Do := rq 9) (tl := rq 12) (ca := rq 13) (q := rq 4) (mm := rf3 rq 2 1 3) (fun h9 => by have h8 := ix_in h9; rw [e] at h8; exact (congrArg (rf3 rq 2 1 3) h8.symm).trans rfl) h0) rfl rfl rfl rfl (by decide) ?_
    rintro o w hp
    obtain ⟨g, e1, e2⟩ := hp
    subst e1; subst e2
    exact ⟨_, [10, 11, 0, 1, 12, 2, 3, 4, 5, 6, 7, 8, 13, 9], PN.mk g rfl rfl, rfl, rfl⟩
def gM_copy (N K : Nat) (M : MS) (p0 : Int32) (p1 : Int32) : Option (Int32 × MS) := if p0 = p1 then (fX7_copyOwn N K M.2.2.2.2.2 (M.1 (ix 3 p0)) M.2.2.2.1 p0).map (fun z => (z.1, ((upm M.1 (ix 3 p0) z.2.2.1), M.2.1, M.2.2.1, z.2.2.2, M.2.2.2.2.1, z.2.1))) else (fX7_copy N K M.2.2.2.2.2 (M.1 (jx 3 p0 p1)) (M.1 (kx 3 p0 p1)) M.2.2.2.1 p0 p1).map (fun z => (z.1, ((upm M.1 (kx 3 p0 p1) z.2.2.1), M.2.1, M.2.2.1, z.2.2.2, M.2.2.2.2.1, z.2.1)))
set_option maxHeartbeats 4000000 in
set_option maxRecDepth 100000 in
theorem ogM_copy {N K : Nat} {rq : Nat → Nat} {M : MS} {p0 : Int32} {p1 : Int32} {x : Int32 × MS} (hE : gM_copy N K M p0 p1 = some x) : OkM yX7_copy (.code yX7_copy cX7_copy 4 (some .int)) (2) 0 0 [.ref (rq 0), .int p0, .int p1] (WM rq M) ((PN (U := Int32 × MS) (fun z _ => some (.int z.1)) (fun z _ => WM rq z.2)) x) := by
  unfold gM_copy at hE
  by_cases hpq : p0 = p1
  · subst hpq
    rw [if_pos rfl] at hE
    obtain ⟨x0, h0, h1⟩ := Option.map_eq_some_iff.mp hE
    subst h1
    clear hE
    rcases lt3 (ix_lt (n := 3) (p := p0) (by decide)) with e | e | e
    · rw [e] at h0
      try rw [e]
      refine ok_fr (wc := [(rq 0, .inr (9, [.ref (rq 1), .ref (rq 5), .ref (rq 9), .ref (rq 12), .ref (rq 13), .int M.2.2.2.2.2])), (rq 1, .inl (4, 3, .inr (.inr (.inr (.inr (rf3 rq 2 1 3)))))), (rq 2, .inl (0, 6144, .inl (M.1 0))), (rq 12, .inl (0, 6, .inl M.2.2.2.1))]) (wr := [(rq 3, .inl (0, 6144, .inl (M.1 1))), (rq 4, .inl (0, 6144, .inl (M.1 2))), (rq 5, .inl (4, 3, .inr (.inr (.inr (.inr (rf3 rq 6 1 3)))))), (rq 6, .inl (0, 21, .inl (M.2.1 0))), (rq 7, .inl (0, 21, .inl (M.2.1 1))), (rq 8, .inl (0, 21, .inl (M.2.1 2))), (rq 9, .inl (4, 2, .inr (.inr (.inr (.inr (rf3 rq 10 1 2)))))), (rq 10, .inl (0, 21, .inl (M.2.2.1 0))), (rq 11, .inl (0, 21, .inl (M.2.2.1 1))), (rq 13, .inl (0, 441, .inl M.2.2.2.2.1))]) [0, 1, 2, 12] [3, 4, 5, 6, 7, 8, 9, 10, 11, 13] (ok_X7_copyOwn (m := rq 0) (Mo := rq 1) (Lo := rq 5) (Do := rq 9) (tl := rq 12) (ca := rq 13) (q := rq 2) (mm := rf3 rq 2 1 3) (fun h9 => by have h8 := ix_in h9; rw [e] at h8; exact (congrArg (rf3 rq 2 1 3) h8.symm).trans rfl) h0) rfl rfl rfl rfl (by decide) ?_
      rintro o w hp
      obtain ⟨g, e1, e2⟩ := hp
      subst e1; subst e2
      exact ⟨_, [10, 11, 12, 0, 1, 2, 3, 4, 5, 6, 7, 8, 13, 9], PN.mk g rfl rfl, rfl, rfl⟩
    · rw [e] at h0
      try rw [e]
      refine ok_fr (wc := [(rq 0, .inr (9, [.ref (rq 1), .ref (rq 5), .ref (rq 9), .ref (rq 12), .ref (rq 13), .int M.2.2.2.2.2])), (rq 1, .inl (4, 3, .inr (.inr (.inr (.inr (rf3 rq 2 1 3)))))), (rq 3, .inl (0, 6144, .inl (M.1 1))), (rq 12, .inl (0, 6, .inl M.2.2.2.1))]) (wr := [(rq 2, .inl (0, 6144, .inl (M.1 0))), (rq 4, .inl (0, 6144, .inl (M.1 2))), (rq 5, .inl (4, 3, .inr (.inr (.inr (.inr (rf3 rq 6 1 3)))))), (rq 6, .inl (0, 21, .inl (M.2.1 0))), (rq 7, .inl (0, 21, .inl (M.2.1 1))), (rq 8, .inl (0, 21, .inl (M.2.1 2))), (rq 9, .inl (4, 2, .inr (.inr (.inr (.inr (rf3 rq 10 1 2)))))), (rq 10, .inl (0, 21, .inl (M.2.2.1 0))), (rq 11, .inl (0, 21, .inl (M.2.2.1 1))), (rq 13, .inl (0, 441, .inl M.2.2.2.2.1))]) [0, 1, 3, 12] [2, 4, 5, 6, 7, 8, 9, 10, 11, 13] (ok_X7_copyOwn (m := rq 0) (Mo := rq 1) (Lo := rq 5) (Do := rq 9) (tl := rq 12) (ca := rq 13) (q := rq 3) (mm := rf3 rq 2 1 3) (fun h9 => by have h8 := ix_in h9; rw [e] at h8; exact (congrArg (rf3 rq 2 1 3) h8.symm).trans rfl) h0) rfl rfl rfl rfl (by decide) ?_
      rintro o w hp
      obtain ⟨g, e1, e2⟩ := hp
      subst e1; subst e2
      exact ⟨_, [10, 11, 0, 12, 1, 2, 3, 4, 5, 6, 7, 8, 13, 9], PN.mk g rfl rfl, rfl, rfl⟩
    · rw [e] at h0
      try rw [e]
      refine ok_fr (wc := [(rq 0, .inr (9, [.ref (rq 1), .ref (rq 5), .ref (rq 9), .ref (rq 12), .ref (rq 13), .int M.2.2.2.2.2])), (rq 1, .inl (4, 3, .inr (.inr (.inr (.inr (rf3 rq 2 1 3)))))), (rq 4, .inl (0, 6144, .inl (M.1 2))), (rq 12, .inl (0, 6, .inl M.2.2.2.1))]) (wr := [(rq 2, .inl (0, 6144, .inl (M.1 0))), (rq 3, .inl (0, 6144, .inl (M.1 1))), (rq 5, .inl (4, 3, .inr (.inr (.inr (.inr (rf3 rq 6 1 3)))))), (rq 6, .inl (0, 21, .inl (M.2.1 0))), (rq 7, .inl (0, 21, .inl (M.2.1 1))), (rq 8, .inl (0, 21, .inl (M.2.1 2))), (rq 9, .inl (4, 2, .inr (.inr (.inr (.inr (rf3 rq 10 1 2)))))), (rq 10, .inl (0, 21, .inl (M.2.2.1 0))), (rq 11, .inl (0, 21, .inl (M.2.2.1 1))), (rq 13, .inl (0, 441, .inl M.2.2.2.2.1))]) [0, 1, 4, 12] [2, 3, 5, 6, 7, 8, 9, 10, 11, 13] (ok_X7_copyOwn (m := rq 0) (Mo := rq 1) (Lo := rq 5) (Do := rq 9) (tl := rq 12) (ca := rq 13) (q := rq 4) (mm := rf3 rq 2 1 3) (fun h9 => by have h8 := ix_in h9; rw [e] at h8; exact (congrArg (rf3 rq 2 1 3) h8.symm).trans rfl) h0) rfl rfl rfl rfl (by decide) ?_
      rintro o w hp
      obtain ⟨g, e1, e2⟩ := hp
      subst e1; subst e2
      exact ⟨_, [10, 11, 0, 1, 12, 2, 3, 4, 5, 6, 7, 8, 13, 9], PN.mk g rfl rfl, rfl, rfl⟩
  · rw [if_neg hpq] at hE
    obtain ⟨x0, h0, h1⟩ := Option.map_eq_some_iff.mp hE
    subst h1
    clear hE
    rcases jk3 hpq with ⟨e, f⟩ | ⟨e, f⟩ | ⟨e, f⟩ | ⟨e, f⟩ | ⟨e, f⟩ | ⟨e, f⟩
    · simp only [e, f] at h0 ⊢
      refine ok_fr (wc := [(rq 0, .inr (9, [.ref (rq 1), .ref (rq 5), .ref (rq 9), .ref (rq 12), .ref (rq 13), .int M.2.2.2.2.2])), (rq 1, .inl (4, 3, .inr (.inr (.inr (.inr (rf3 rq 2 1 3)))))), (rq 2, .inl (0, 6144, .inl (M.1 0))), (rq 3, .inl (0, 6144, .inl (M.1 1))), (rq 12, .inl (0, 6, .inl M.2.2.2.1))]) (wr := [(rq 4, .inl (0, 6144, .inl (M.1 2))), (rq 5, .inl (4, 3, .inr (.inr (.inr (.inr (rf3 rq 6 1 3)))))), (rq 6, .inl (0, 21, .inl (M.2.1 0))), (rq 7, .inl (0, 21, .inl (M.2.1 1))), (rq 8, .inl (0, 21, .inl (M.2.1 2))), (rq 9, .inl (4, 2, .inr (.inr (.inr (.inr (rf3 rq 10 1 2)))))), (rq 10, .inl (0, 21, .inl (M.2.2.1 0))), (rq 11, .inl (0, 21, .inl (M.2.2.1 1))), (rq 13, .inl (0, 441, .inl M.2.2.2.2.1))]) [0, 1, 2, 3, 12] [4, 5, 6, 7, 8, 9, 10, 11, 13] (ok_X7_copy (m := rq 0) (Mo := rq 1) (Lo := rq 5) (Do := rq 9) (tl := rq 12) (ca := rq 13) (q := rq 2) (q2 := rq 3) (mm := rf3 rq 2 1 3) (fun h9 => by have h8 := jx_in (q := p1) h9; rw [e] at h8; exact (congrArg (rf3 rq 2 1 3) h8.symm).trans rfl) (fun h9 => by have h8 := kx_in (p := p0) h9; rw [f] at h8; exact (congrArg (rf3 rq 2 1 3) h8.symm).trans rfl) h0) rfl rfl rfl rfl (by decide) ?_
      rintro o w hp
      obtain ⟨g, e1, e2⟩ := hp
      subst e1; subst e2
      exact ⟨_, [9, 10, 11, 12, 0, 1, 2, 3, 4, 5, 6, 7, 13, 8], PN.mk g rfl rfl, rfl, rfl⟩
    · simp only [e, f] at h0 ⊢
      refine ok_fr (wc := [(rq 0, .inr (9, [.ref (rq 1), .ref (rq 5), .ref (rq 9), .ref (rq 12), .ref (rq 13), .int M.2.2.2.2.2])), (rq 1, .inl (4, 3, .inr (.inr (.inr (.inr (rf3 rq 2 1 3)))))), (rq 2, .inl (0, 6144, .inl (M.1 0))), (rq 4, .inl (0, 6144, .inl (M.1 2))), (rq 12, .inl (0, 6, .inl M.2.2.2.1))]) (wr := [(rq 3, .inl (0, 6144, .inl (M.1 1))), (rq 5, .inl (4, 3, .inr (.inr (.inr (.inr (rf3 rq 6 1 3)))))), (rq 6, .inl (0, 21, .inl (M.2.1 0))), (rq 7, .inl (0, 21, .inl (M.2.1 1))), (rq 8, .inl (0, 21, .inl (M.2.1 2))), (rq 9, .inl (4, 2, .inr (.inr (.inr (.inr (rf3 rq 10 1 2)))))), (rq 10, .inl (0, 21, .inl (M.2.2.1 0))), (rq 11, .inl (0, 21, .inl (M.2.2.1 1))), (rq 13, .inl (0, 441, .inl M.2.2.2.2.1))]) [0, 1, 2, 4, 12] [3, 5, 6, 7, 8, 9, 10, 11, 13] (ok_X7_copy (m := rq 0) (Mo := rq 1) (Lo := rq 5) (Do := rq 9) (tl := rq 12) (ca := rq 13) (q := rq 2) (q2 := rq 4) (mm := rf3 rq 2 1 3) (fun h9 => by have h8 := jx_in (q := p1) h9; rw [e] at h8; exact (congrArg (rf3 rq 2 1 3) h8.symm).trans rfl) (fun h9 => by have h8 := kx_in (p := p0) h9; rw [f] at h8; exact (congrArg (rf3 rq 2 1 3) h8.symm).trans rfl) h0) rfl rfl rfl rfl (by decide) ?_
      rintro o w hp
      obtain ⟨g, e1, e2⟩ := hp
      subst e1; subst e2
      exact ⟨_, [9, 10, 11, 0, 12, 1, 2, 3, 4, 5, 6, 7, 13, 8], PN.mk g rfl rfl, rfl, rfl⟩
    · simp only [e, f] at h0 ⊢
      refine ok_fr (wc := [(rq 0, .inr (9, [.ref (rq 1), .ref (rq 5), .ref (rq 9), .ref (rq 12), .ref (rq 13), .int M.2.2.2.2.2])), (rq 1, .inl (4, 3, .inr (.inr (.inr (.inr (rf3 rq 2 1 3)))))), (rq 3, .inl (0, 6144, .inl (M.1 1))), (rq 2, .inl (0, 6144, .inl (M.1 0))), (rq 12, .inl (0, 6, .inl M.2.2.2.1))]) (wr := [(rq 4, .inl (0, 6144, .inl (M.1 2))), (rq 5, .inl (4, 3, .inr (.inr (.inr (.inr (rf3 rq 6 1 3)))))), (rq 6, .inl (0, 21, .inl (M.2.1 0))), (rq 7, .inl (0, 21, .inl (M.2.1 1))), (rq 8, .inl (0, 21, .inl (M.2.1 2))), (rq 9, .inl (4, 2, .inr (.inr (.inr (.inr (rf3 rq 10 1 2)))))), (rq 10, .inl (0, 21, .inl (M.2.2.1 0))), (rq 11, .inl (0, 21, .inl (M.2.2.1 1))), (rq 13, .inl (0, 441, .inl M.2.2.2.2.1))]) [0, 1, 3, 2, 12] [4, 5, 6, 7, 8, 9, 10, 11, 13] (ok_X7_copy (m := rq 0) (Mo := rq 1) (Lo := rq 5) (Do := rq 9) (tl := rq 12) (ca := rq 13) (q := rq 3) (q2 := rq 2) (mm := rf3 rq 2 1 3) (fun h9 => by have h8 := jx_in (q := p1) h9; rw [e] at h8; exact (congrArg (rf3 rq 2 1 3) h8.symm).trans rfl) (fun h9 => by have h8 := kx_in (p := p0) h9; rw [f] at h8; exact (congrArg (rf3 rq 2 1 3) h8.symm).trans rfl) h0) rfl rfl rfl rfl (by decide) ?_
      rintro o w hp
      obtain ⟨g, e1, e2⟩ := hp
      subst e1; subst e2
      exact ⟨_, [9, 10, 12, 11, 0, 1, 2, 3, 4, 5, 6, 7, 13, 8], PN.mk g rfl rfl, rfl, rfl⟩
    · simp only [e, f] at h0 ⊢
      refine ok_fr (wc := [(rq 0, .inr (9, [.ref (rq 1), .ref (rq 5), .ref (rq 9), .ref (rq 12), .ref (rq 13), .int M.2.2.2.2.2])), (rq 1, .inl (4, 3, .inr (.inr (.inr (.inr (rf3 rq 2 1 3)))))), (rq 3, .inl (0, 6144, .inl (M.1 1))), (rq 4, .inl (0, 6144, .inl (M.1 2))), (rq 12, .inl (0, 6, .inl M.2.2.2.1))]) (wr := [(rq 2, .inl (0, 6144, .inl (M.1 0))), (rq 5, .inl (4, 3, .inr (.inr (.inr (.inr (rf3 rq 6 1 3)))))), (rq 6, .inl (0, 21, .inl (M.2.1 0))), (rq 7, .inl (0, 21, .inl (M.2.1 1))), (rq 8, .inl (0, 21, .inl (M.2.1 2))), (rq 9, .inl (4, 2, .inr (.inr (.inr (.inr (rf3 rq 10 1 2)))))), (rq 10, .inl (0, 21, .inl (M.2.2.1 0))), (rq 11, .inl (0, 21, .inl (M.2.2.1 1))), (rq 13, .inl (0, 441, .inl M.2.2.2.2.1))]) [0, 1, 3, 4, 12] [2, 5, 6, 7, 8, 9, 10, 11, 13] (ok_X7_copy (m := rq 0) (Mo := rq 1) (Lo := rq 5) (Do := rq 9) (tl := rq 12) (ca := rq 13) (q := rq 3) (q2 := rq 4) (mm := rf3 rq 2 1 3) (fun h9 => by have h8 := jx_in (q := p1) h9; rw [e] at h8; exact (congrArg (rf3 rq 2 1 3) h8.symm).trans rfl) (fun h9 => by have h8 := kx_in (p := p0) h9; rw [f] at h8; exact (congrArg (rf3 rq 2 1 3) h8.symm).trans rfl) h0) rfl rfl rfl rfl (by decide) ?_
      rintro o w hp
      obtain ⟨g, e1, e2⟩ := hp
      subst e1; subst e2
      exact ⟨_, [9, 10, 0, 11, 12, 1, 2, 3, 4, 5, 6, 7, 13, 8], PN.mk g rfl rfl, rfl, rfl⟩
    · simp only [e, f] at h0 ⊢
      refine ok_fr (wc := [(rq 0, .inr (9, [.ref (rq 1), .ref (rq 5), .ref (rq 9), .ref (rq 12), .ref (rq 13), .int M.2.2.2.2.2])), (rq 1, .inl (4, 3, .inr (.inr (.inr (.inr (rf3 rq 2 1 3)))))), (rq 4, .inl (0, 6144, .inl (M.1 2))), (rq 2, .inl (0, 6144, .inl (M.1 0))), (rq 12, .inl (0, 6, .inl M.2.2.2.1))]) (wr := [(rq 3, .inl (0, 6144, .inl (M.1 1))), (rq 5, .inl (4, 3, .inr (.inr (.inr (.inr (rf3 rq 6 1 3)))))), (rq 6, .inl (0, 21, .inl (M.2.1 0))), (rq 7, .inl (0, 21, .inl (M.2.1 1))), (rq 8, .inl (0, 21, .inl (M.2.1 2))), (rq 9, .inl (4, 2, .inr (.inr (.inr (.inr (rf3 rq 10 1 2)))))), (rq 10, .inl (0, 21, .inl (M.2.2.1 0))), (rq 11, .inl (0, 21, .inl (M.2.2.1 1))), (rq 13, .inl (0, 441, .inl M.2.2.2.2.1))]) [0, 1, 4, 2, 12] [3, 5, 6, 7, 8, 9, 10, 11, 13] (ok_X7_copy (m := rq 0) (Mo := rq 1) (Lo := rq 5) (Do := rq 9) (tl := rq 12) (ca := rq 13) (q := rq 4) (q2 := rq 2) (mm := rf3 rq 2 1 3) (fun h9 => by have h8 := jx_in (q := p1) h9; rw [e] at h8; exact (congrArg (rf3 rq 2 1 3) h8.symm).trans rfl) (fun h9 => by have h8 := kx_in (p := p0) h9; rw [f] at h8; exact (congrArg (rf3 rq 2 1 3) h8.symm).trans rfl) h0) rfl rfl rfl rfl (by decide) ?_
      rintro o w hp
      obtain ⟨g, e1, e2⟩ := hp
      subst e1; subst e2
      exact ⟨_, [9, 10, 12, 0, 11, 1, 2, 3, 4, 5, 6, 7, 13, 8], PN.mk g rfl rfl, rfl, rfl⟩
    · simp only [e, f] at h0 ⊢
      refine ok_fr (wc := [(rq 0, .inr (9, [.ref (rq 1), .ref (rq 5), .ref (rq 9), .ref (rq 12), .ref (rq 13), .int M.2.2.2.2.2])), (rq 1, .inl (4, 3, .inr (.inr (.inr (.inr (rf3 rq 2 1 3)))))), (rq 4, .inl (0, 6144, .inl (M.1 2))), (rq 3, .inl (0, 6144, .inl (M.1 1))), (rq 12, .inl (0, 6, .inl M.2.2.2.1))]) (wr := [(rq 2, .inl (0, 6144, .inl (M.1 0))), (rq 5, .inl (4, 3, .inr (.inr (.inr (.inr (rf3 rq 6 1 3)))))), (rq 6, .inl (0, 21, .inl (M.2.1 0))), (rq 7, .inl (0, 21, .inl (M.2.1 1))), (rq 8, .inl (0, 21, .inl (M.2.1 2))), (rq 9, .inl (4, 2, .inr (.inr (.inr (.inr (rf3 rq 10 1 2)))))), (rq 10, .inl (0, 21, .inl (M.2.2.1 0))), (rq 11, .inl (0, 21, .inl (M.2.2.1 1))), (rq 13, .inl (0, 441, .inl M.2.2.2.2.1))]) [0, 1, 4, 3, 12] [2, 5, 6, 7, 8, 9, 10, 11, 13] (ok_X7_copy (m := rq 0) (Mo := rq 1) (Lo := rq 5) (Do := rq 9) (tl := rq 12) (ca := rq 13) (q := rq 4) (q2 := rq 3) (mm := rf3 rq 2 1 3) (fun h9 => by have h8 := jx_in (q := p1) h9; rw [e] at h8; exact (congrArg (rf3 rq 2 1 3) h8.symm).trans rfl) (fun h9 => by have h8 := kx_in (p := p0) h9; rw [f] at h8; exact (congrArg (rf3 rq 2 1 3) h8.symm).trans rfl) h0) rfl rfl rfl rfl (by decide) ?_
      rintro o w hp
      obtain ⟨g, e1, e2⟩ := hp
      subst e1; subst e2
      exact ⟨_, [9, 10, 0, 12, 11, 1, 2, 3, 4, 5, 6, 7, 13, 8], PN.mk g rfl rfl, rfl, rfl⟩
def gM_pour (N K : Nat) (M : MS) (p0 : Int32) (p1 : Int32) : Option (Int32 × MS) := if p0 = p1 then (fX7_pourOwn N K M.2.2.2.2.2 (M.1 (ix 3 p0)) M.2.2.2.1 p0).map (fun z => (z.1, (M.1, M.2.1, M.2.2.1, z.2.2, M.2.2.2.2.1, z.2.1))) else (fX7_pour N K M.2.2.2.2.2 (M.1 (jx 3 p0 p1)) (M.1 (kx 3 p0 p1)) M.2.2.2.1 p0 p1).map (fun z => (z.1, ((upm M.1 (kx 3 p0 p1) z.2.2.1), M.2.1, M.2.2.1, z.2.2.2, M.2.2.2.2.1, z.2.1)))
set_option maxHeartbeats 4000000 in
set_option maxRecDepth 100000 in
theorem ogM_pour {N K : Nat} {rq : Nat → Nat} {M : MS} {p0 : Int32} {p1 : Int32} {x : Int32 × MS} (hE : gM_pour N K M p0 p1 = some x) : OkM yX7_pour (.code yX7_pour cX7_pour 5 (some .int)) (2) 0 0 [.ref (rq 0), .int p0, .int p1] (WM rq M) ((PN (U := Int32 × MS) (fun z _ => some (.int z.1)) (fun z _ => WM rq z.2)) x) := by
  unfold gM_pour at hE
  by_cases hpq : p0 = p1
  · subst hpq
    rw [if_pos rfl] at hE
    obtain ⟨x0, h0, h1⟩ := Option.map_eq_some_iff.mp hE
    subst h1
    clear hE
    rcases lt3 (ix_lt (n := 3) (p := p0) (by decide)) with e | e | e
    · rw [e] at h0
      try rw [e]
      refine ok_fr (wc := [(rq 0, .inr (9, [.ref (rq 1), .ref (rq 5), .ref (rq 9), .ref (rq 12), .ref (rq 13), .int M.2.2.2.2.2])), (rq 1, .inl (4, 3, .inr (.inr (.inr (.inr (rf3 rq 2 1 3)))))), (rq 2, .inl (0, 6144, .inl (M.1 0))), (rq 12, .inl (0, 6, .inl M.2.2.2.1))]) (wr := [(rq 3, .inl (0, 6144, .inl (M.1 1))), (rq 4, .inl (0, 6144, .inl (M.1 2))), (rq 5, .inl (4, 3, .inr (.inr (.inr (.inr (rf3 rq 6 1 3)))))), (rq 6, .inl (0, 21, .inl (M.2.1 0))), (rq 7, .inl (0, 21, .inl (M.2.1 1))), (rq 8, .inl (0, 21, .inl (M.2.1 2))), (rq 9, .inl (4, 2, .inr (.inr (.inr (.inr (rf3 rq 10 1 2)))))), (rq 10, .inl (0, 21, .inl (M.2.2.1 0))), (rq 11, .inl (0, 21, .inl (M.2.2.1 1))), (rq 13, .inl (0, 441, .inl M.2.2.2.2.1))]) [0, 1, 2, 12] [3, 4, 5, 6, 7, 8, 9, 10, 11, 13] (ok_X7_pourOwn (m := rq 0) (Mo := rq 1) (Lo := rq 5) (Do := rq 9) (tl := rq 12) (ca := rq 13) (q := rq 2) (mm := rf3 rq 2 1 3) (fun h9 => by have h8 := ix_in h9; rw [e] at h8; exact (congrArg (rf3 rq 2 1 3) h8.symm).trans rfl) h0) rfl rfl rfl rfl (by decide) ?_
      rintro o w hp
      obtain ⟨g, e1, e2⟩ := hp
      subst e1; subst e2
      exact ⟨_, [10, 11, 12, 0, 1, 2, 3, 4, 5, 6, 7, 8, 13, 9], PN.mk g rfl rfl, rfl, rfl⟩
    · rw [e] at h0
      try rw [e]
      refine ok_fr (wc := [(rq 0, .inr (9, [.ref (rq 1), .ref (rq 5), .ref (rq 9), .ref (rq 12), .ref (rq 13), .int M.2.2.2.2.2])), (rq 1, .inl (4, 3, .inr (.inr (.inr (.inr (rf3 rq 2 1 3)))))), (rq 3, .inl (0, 6144, .inl (M.1 1))), (rq 12, .inl (0, 6, .inl M.2.2.2.1))]) (wr := [(rq 2, .inl (0, 6144, .inl (M.1 0))), (rq 4, .inl (0, 6144, .inl (M.1 2))), (rq 5, .inl (4, 3, .inr (.inr (.inr (.inr (rf3 rq 6 1 3)))))), (rq 6, .inl (0, 21, .inl (M.2.1 0))), (rq 7, .inl (0, 21, .inl (M.2.1 1))), (rq 8, .inl (0, 21, .inl (M.2.1 2))), (rq 9, .inl (4, 2, .inr (.inr (.inr (.inr (rf3 rq 10 1 2)))))), (rq 10, .inl (0, 21, .inl (M.2.2.1 0))), (rq 11, .inl (0, 21, .inl (M.2.2.1 1))), (rq 13, .inl (0, 441, .inl M.2.2.2.2.1))]) [0, 1, 3, 12] [2, 4, 5, 6, 7, 8, 9, 10, 11, 13] (ok_X7_pourOwn (m := rq 0) (Mo := rq 1) (Lo := rq 5) (Do := rq 9) (tl := rq 12) (ca := rq 13) (q := rq 3) (mm := rf3 rq 2 1 3) (fun h9 => by have h8 := ix_in h9; rw [e] at h8; exact (congrArg (rf3 rq 2 1 3) h8.symm).trans rfl) h0) rfl rfl rfl rfl (by decide) ?_
      rintro o w hp
      obtain ⟨g, e1, e2⟩ := hp
      subst e1; subst e2
      exact ⟨_, [10, 11, 0, 12, 1, 2, 3, 4, 5, 6, 7, 8, 13, 9], PN.mk g rfl rfl, rfl, rfl⟩
    · rw [e] at h0
      try rw [e]
      refine ok_fr (wc := [(rq 0, .inr (9, [.ref (rq 1), .ref (rq 5), .ref (rq 9), .ref (rq 12), .ref (rq 13), .int M.2.2.2.2.2])), (rq 1, .inl (4, 3, .inr (.inr (.inr (.inr (rf3 rq 2 1 3)))))), (rq 4, .inl (0, 6144, .inl (M.1 2))), (rq 12, .inl (0, 6, .inl M.2.2.2.1))]) (wr := [(rq 2, .inl (0, 6144, .inl (M.1 0))), (rq 3, .inl (0, 6144, .inl (M.1 1))), (rq 5, .inl (4, 3, .inr (.inr (.inr (.inr (rf3 rq 6 1 3)))))), (rq 6, .inl (0, 21, .inl (M.2.1 0))), (rq 7, .inl (0, 21, .inl (M.2.1 1))), (rq 8, .inl (0, 21, .inl (M.2.1 2))), (rq 9, .inl (4, 2, .inr (.inr (.inr (.inr (rf3 rq 10 1 2)))))), (rq 10, .inl (0, 21, .inl (M.2.2.1 0))), (rq 11, .inl (0, 21, .inl (M.2.2.1 1))), (rq 13, .inl (0, 441, .inl M.2.2.2.2.1))]) [0, 1, 4, 12] [2, 3, 5, 6, 7, 8, 9, 10, 11, 13] (ok_X7_pourOwn (m := rq 0) (Mo := rq 1) (Lo := rq 5) (Do := rq 9) (tl := rq 12) (ca := rq 13) (q := rq 4) (mm := rf3 rq 2 1 3) (fun h9 => by have h8 := ix_in h9; rw [e] at h8; exact (congrArg (rf3 rq 2 1 3) h8.symm).trans rfl) h0) rfl rfl rfl rfl (by decide) ?_
      rintro o w hp
      obtain ⟨g, e1, e2⟩ := hp
      subst e1; subst e2
      exact ⟨_, [10, 11, 0, 1, 12, 2, 3, 4, 5, 6, 7, 8, 13, 9], PN.mk g rfl rfl, rfl, rfl⟩
  · rw [if_neg hpq] at hE
    obtain ⟨x0, h0, h1⟩ := Option.map_eq_some_iff.mp hE
    subst h1
    clear hE
    rcases jk3 hpq with ⟨e, f⟩ | ⟨e, f⟩ | ⟨e, f⟩ | ⟨e, f⟩ | ⟨e, f⟩ | ⟨e, f⟩
    · simp only [e, f] at h0 ⊢
      refine ok_fr (wc := [(rq 0, .inr (9, [.ref (rq 1), .ref (rq 5), .ref (rq 9), .ref (rq 12), .ref (rq 13), .int M.2.2.2.2.2])), (rq 1, .inl (4, 3, .inr (.inr (.inr (.inr (rf3 rq 2 1 3)))))), (rq 2, .inl (0, 6144, .inl (M.1 0))), (rq 3, .inl (0, 6144, .inl (M.1 1))), (rq 12, .inl (0, 6, .inl M.2.2.2.1))]) (wr := [(rq 4, .inl (0, 6144, .inl (M.1 2))), (rq 5, .inl (4, 3, .inr (.inr (.inr (.inr (rf3 rq 6 1 3)))))), (rq 6, .inl (0, 21, .inl (M.2.1 0))), (rq 7, .inl (0, 21, .inl (M.2.1 1))), (rq 8, .inl (0, 21, .inl (M.2.1 2))), (rq 9, .inl (4, 2, .inr (.inr (.inr (.inr (rf3 rq 10 1 2)))))), (rq 10, .inl (0, 21, .inl (M.2.2.1 0))), (rq 11, .inl (0, 21, .inl (M.2.2.1 1))), (rq 13, .inl (0, 441, .inl M.2.2.2.2.1))]) [0, 1, 2, 3, 12] [4, 5, 6, 7, 8, 9, 10, 11, 13] (ok_X7_pour (m := rq 0) (Mo := rq 1) (Lo := rq 5) (Do := rq 9) (tl := rq 12) (ca := rq 13) (q := rq 2) (q2 := rq 3) (mm := rf3 rq 2 1 3) (fun h9 => by have h8 := jx_in (q := p1) h9; rw [e] at h8; exact (congrArg (rf3 rq 2 1 3) h8.symm).trans rfl) (fun h9 => by have h8 := kx_in (p := p0) h9; rw [f] at h8; exact (congrArg (rf3 rq 2 1 3) h8.symm).trans rfl) h0) rfl rfl rfl rfl (by decide) ?_
      rintro o w hp
      obtain ⟨g, e1, e2⟩ := hp
      subst e1; subst e2
      exact ⟨_, [9, 10, 11, 12, 0, 1, 2, 3, 4, 5, 6, 7, 13, 8], PN.mk g rfl rfl, rfl, rfl⟩
    · simp only [e, f] at h0 ⊢
      refine ok_fr (wc := [(rq 0, .inr (9, [.ref (rq 1), .ref (rq 5), .ref (rq 9), .ref (rq 12), .ref (rq 13), .int M.2.2.2.2.2])), (rq 1, .inl (4, 3, .inr (.inr (.inr (.inr (rf3 rq 2 1 3)))))), (rq 2, .inl (0, 6144, .inl (M.1 0))), (rq 4, .inl (0, 6144, .inl (M.1 2))), (rq 12, .inl (0, 6, .inl M.2.2.2.1))]) (wr := [(rq 3, .inl (0, 6144, .inl (M.1 1))), (rq 5, .inl (4, 3, .inr (.inr (.inr (.inr (rf3 rq 6 1 3)))))), (rq 6, .inl (0, 21, .inl (M.2.1 0))), (rq 7, .inl (0, 21, .inl (M.2.1 1))), (rq 8, .inl (0, 21, .inl (M.2.1 2))), (rq 9, .inl (4, 2, .inr (.inr (.inr (.inr (rf3 rq 10 1 2)))))), (rq 10, .inl (0, 21, .inl (M.2.2.1 0))), (rq 11, .inl (0, 21, .inl (M.2.2.1 1))), (rq 13, .inl (0, 441, .inl M.2.2.2.2.1))]) [0, 1, 2, 4, 12] [3, 5, 6, 7, 8, 9, 10, 11, 13] (ok_X7_pour (m := rq 0) (Mo := rq 1) (Lo := rq 5) (Do := rq 9) (tl := rq 12) (ca := rq 13) (q := rq 2) (q2 := rq 4) (mm := rf3 rq 2 1 3) (fun h9 => by have h8 := jx_in (q := p1) h9; rw [e] at h8; exact (congrArg (rf3 rq 2 1 3) h8.symm).trans rfl) (fun h9 => by have h8 := kx_in (p := p0) h9; rw [f] at h8; exact (congrArg (rf3 rq 2 1 3) h8.symm).trans rfl) h0) rfl rfl rfl rfl (by decide) ?_
      rintro o w hp
      obtain ⟨g, e1, e2⟩ := hp
      subst e1; subst e2
      exact ⟨_, [9, 10, 11, 0, 12, 1, 2, 3, 4, 5, 6, 7, 13, 8], PN.mk g rfl rfl, rfl, rfl⟩
    · simp only [e, f] at h0 ⊢
      refine ok_fr (wc := [(rq 0, .inr (9, [.ref (rq 1), .ref (rq 5), .ref (rq 9), .ref (rq 12), .ref (rq 13), .int M.2.2.2.2.2])), (rq 1, .inl (4, 3, .inr (.inr (.inr (.inr (rf3 rq 2 1 3)))))), (rq 3, .inl (0, 6144, .inl (M.1 1))), (rq 2, .inl (0, 6144, .inl (M.1 0))), (rq 12, .inl (0, 6, .inl M.2.2.2.1))]) (wr := [(rq 4, .inl (0, 6144, .inl (M.1 2))), (rq 5, .inl (4, 3, .inr (.inr (.inr (.inr (rf3 rq 6 1 3)))))), (rq 6, .inl (0, 21, .inl (M.2.1 0))), (rq 7, .inl (0, 21, .inl (M.2.1 1))), (rq 8, .inl (0, 21, .inl (M.2.1 2))), (rq 9, .inl (4, 2, .inr (.inr (.inr (.inr (rf3 rq 10 1 2)))))), (rq 10, .inl (0, 21, .inl (M.2.2.1 0))), (rq 11, .inl (0, 21, .inl (M.2.2.1 1))), (rq 13, .inl (0, 441, .inl M.2.2.2.2.1))]) [0, 1, 3, 2, 12] [4, 5, 6, 7, 8, 9, 10, 11, 13] (ok_X7_pour (m := rq 0) (Mo := rq 1) (Lo := rq 5) (Do := rq 9) (tl := rq 12) (ca := rq 13) (q := rq 3) (q2 := rq 2) (mm := rf3 rq 2 1 3) (fun h9 => by have h8 := jx_in (q := p1) h9; rw [e] at h8; exact (congrArg (rf3 rq 2 1 3) h8.symm).trans rfl) (fun h9 => by have h8 := kx_in (p := p0) h9; rw [f] at h8; exact (congrArg (rf3 rq 2 1 3) h8.symm).trans rfl) h0) rfl rfl rfl rfl (by decide) ?_
      rintro o w hp
      obtain ⟨g, e1, e2⟩ := hp
      subst e1; subst e2
      exact ⟨_, [9, 10, 12, 11, 0, 1, 2, 3, 4, 5, 6, 7, 13, 8], PN.mk g rfl rfl, rfl, rfl⟩
    · simp only [e, f] at h0 ⊢
      refine ok_fr (wc := [(rq 0, .inr (9, [.ref (rq 1), .ref (rq 5), .ref (rq 9), .ref (rq 12), .ref (rq 13), .int M.2.2.2.2.2])), (rq 1, .inl (4, 3, .inr (.inr (.inr (.inr (rf3 rq 2 1 3)))))), (rq 3, .inl (0, 6144, .inl (M.1 1))), (rq 4, .inl (0, 6144, .inl (M.1 2))), (rq 12, .inl (0, 6, .inl M.2.2.2.1))]) (wr := [(rq 2, .inl (0, 6144, .inl (M.1 0))), (rq 5, .inl (4, 3, .inr (.inr (.inr (.inr (rf3 rq 6 1 3)))))), (rq 6, .inl (0, 21, .inl (M.2.1 0))), (rq 7, .inl (0, 21, .inl (M.2.1 1))), (rq 8, .inl (0, 21, .inl (M.2.1 2))), (rq 9, .inl (4, 2, .inr (.inr (.inr (.inr (rf3 rq 10 1 2)))))), (rq 10, .inl (0, 21, .inl (M.2.2.1 0))), (rq 11, .inl (0, 21, .inl (M.2.2.1 1))), (rq 13, .inl (0, 441, .inl M.2.2.2.2.1))]) [0, 1, 3, 4, 12] [2, 5, 6, 7, 8, 9, 10, 11, 13] (ok_X7_pour (m := rq 0) (Mo := rq 1) (Lo := rq 5) (Do := rq 9) (tl := rq 12) (ca := rq 13) (q := rq 3) (q2 := rq 4) (mm := rf3 rq 2 1 3) (fun h9 => by have h8 := jx_in (q := p1) h9; rw [e] at h8; exact (congrArg (rf3 rq 2 1 3) h8.symm).trans rfl) (fun h9 => by have h8 := kx_in (p := p0) h9; rw [f] at h8; exact (congrArg (rf3 rq 2 1 3) h8.symm).trans rfl) h0) rfl rfl rfl rfl (by decide) ?_
      rintro o w hp
      obtain ⟨g, e1, e2⟩ := hp
      subst e1; subst e2
      exact ⟨_, [9, 10, 0, 11, 12, 1, 2, 3, 4, 5, 6, 7, 13, 8], PN.mk g rfl rfl, rfl, rfl⟩
    · simp only [e, f] at h0 ⊢
      refine ok_fr (wc := [(rq 0, .inr (9, [.ref (rq 1), .ref (rq 5), .ref (rq 9), .ref (rq 12), .ref (rq 13), .int M.2.2.2.2.2])), (rq 1, .inl (4, 3, .inr (.inr (.inr (.inr (rf3 rq 2 1 3)))))), (rq 4, .inl (0, 6144, .inl (M.1 2))), (rq 2, .inl (0, 6144, .inl (M.1 0))), (rq 12, .inl (0, 6, .inl M.2.2.2.1))]) (wr := [(rq 3, .inl (0, 6144, .inl (M.1 1))), (rq 5, .inl (4, 3, .inr (.inr (.inr (.inr (rf3 rq 6 1 3)))))), (rq 6, .inl (0, 21, .inl (M.2.1 0))), (rq 7, .inl (0, 21, .inl (M.2.1 1))), (rq 8, .inl (0, 21, .inl (M.2.1 2))), (rq 9, .inl (4, 2, .inr (.inr (.inr (.inr (rf3 rq 10 1 2)))))), (rq 10, .inl (0, 21, .inl (M.2.2.1 0))), (rq 11, .inl (0, 21, .inl (M.2.2.1 1))), (rq 13, .inl (0, 441, .inl M.2.2.2.2.1))]) [0, 1, 4, 2, 12] [3, 5, 6, 7, 8, 9, 10, 11, 13] (ok_X7_pour (m := rq 0) (Mo := rq 1) (Lo := rq 5) (Do := rq 9) (tl := rq 12) (ca := rq 13) (q := rq 4) (q2 := rq 2) (mm := rf3 rq 2 1 3) (fun h9 => by have h8 := jx_in (q := p1) h9; rw [e] at h8; exact (congrArg (rf3 rq 2 1 3) h8.symm).trans rfl) (fun h9 => by have h8 := kx_in (p := p0) h9; rw [f] at h8; exact (congrArg (rf3 rq 2 1 3) h8.symm).trans rfl) h0) rfl rfl rfl rfl (by decide) ?_
      rintro o w hp
      obtain ⟨g, e1, e2⟩ := hp
      subst e1; subst e2
      exact ⟨_, [9, 10, 12, 0, 11, 1, 2, 3, 4, 5, 6, 7, 13, 8], PN.mk g rfl rfl, rfl, rfl⟩
    · simp only [e, f] at h0 ⊢
      refine ok_fr (wc := [(rq 0, .inr (9, [.ref (rq 1), .ref (rq 5), .ref (rq 9), .ref (rq 12), .ref (rq 13), .int M.2.2.2.2.2])), (rq 1, .inl (4, 3, .inr (.inr (.inr (.inr (rf3 rq 2 1 3)))))), (rq 4, .inl (0, 6144, .inl (M.1 2))), (rq 3, .inl (0, 6144, .inl (M.1 1))), (rq 12, .inl (0, 6, .inl M.2.2.2.1))]) (wr := [(rq 2, .inl (0, 6144, .inl (M.1 0))), (rq 5, .inl (4, 3, .inr (.inr (.inr (.inr (rf3 rq 6 1 3)))))), (rq 6, .inl (0, 21, .inl (M.2.1 0))), (rq 7, .inl (0, 21, .inl (M.2.1 1))), (rq 8, .inl (0, 21, .inl (M.2.1 2))), (rq 9, .inl (4, 2, .inr (.inr (.inr (.inr (rf3 rq 10 1 2)))))), (rq 10, .inl (0, 21, .inl (M.2.2.1 0))), (rq 11, .inl (0, 21, .inl (M.2.2.1 1))), (rq 13, .inl (0, 441, .inl M.2.2.2.2.1))]) [0, 1, 4, 3, 12] [2, 5, 6, 7, 8, 9, 10, 11, 13] (ok_X7_pour (m := rq 0) (Mo := rq 1) (Lo := rq 5) (Do := rq 9) (tl := rq 12) (ca := rq 13) (q := rq 4) (q2 := rq 3) (mm := rf3 rq 2 1 3) (fun h9 => by have h8 := jx_in (q := p1) h9; rw [e] at h8; exact (congrArg (rf3 rq 2 1 3) h8.symm).trans rfl) (fun h9 => by have h8 := kx_in (p := p0) h9; rw [f] at h8; exact (congrArg (rf3 rq 2 1 3) h8.symm).trans rfl) h0) rfl rfl rfl rfl (by decide) ?_
      rintro o w hp
      obtain ⟨g, e1, e2⟩ := hp
      subst e1; subst e2
      exact ⟨_, [9, 10, 0, 12, 11, 1, 2, 3, 4, 5, 6, 7, 13, 8], PN.mk g rfl rfl, rfl, rfl⟩
def gM_isKept (N K : Nat) (M : MS) (p0 : Int32) (p1 : Int32) (p2 : Int32) (p3 : Int32) (p4 : Int32) : Option (Int32 × MS) := (fX7_isKept N K M.2.2.2.2.2 (M.1 (ix 3 p0)) p0 p1 p2 p3 p4).map (fun z => (z.1, (M.1, M.2.1, M.2.2.1, M.2.2.2.1, M.2.2.2.2.1, z.2)))
set_option maxHeartbeats 4000000 in
set_option maxRecDepth 100000 in
theorem ogM_isKept {N K : Nat} {rq : Nat → Nat} {M : MS} {p0 : Int32} {p1 : Int32} {p2 : Int32} {p3 : Int32} {p4 : Int32} {x : Int32 × MS} (hE : gM_isKept N K M p0 p1 p2 p3 p4 = some x) : OkM yX7_isKept (.code yX7_isKept cX7_isKept 6 (some .boolean)) (2) 0 0 [.ref (rq 0), .int p0, .int p1, .int p2, .int p3, .int p4] (WM rq M) ((PN (U := Int32 × MS) (fun z _ => some (.int z.1)) (fun z _ => WM rq z.2)) x) := by
  unfold gM_isKept at hE
  obtain ⟨x0, h0, h1⟩ := Option.map_eq_some_iff.mp hE
  subst h1
  clear hE
  rcases lt3 (ix_lt (n := 3) (p := p0) (by decide)) with e | e | e
  · rw [e] at h0
    try rw [e]
    refine ok_fr (wc := [(rq 0, .inr (9, [.ref (rq 1), .ref (rq 5), .ref (rq 9), .ref (rq 12), .ref (rq 13), .int M.2.2.2.2.2])), (rq 1, .inl (4, 3, .inr (.inr (.inr (.inr (rf3 rq 2 1 3)))))), (rq 2, .inl (0, 6144, .inl (M.1 0)))]) (wr := [(rq 3, .inl (0, 6144, .inl (M.1 1))), (rq 4, .inl (0, 6144, .inl (M.1 2))), (rq 5, .inl (4, 3, .inr (.inr (.inr (.inr (rf3 rq 6 1 3)))))), (rq 6, .inl (0, 21, .inl (M.2.1 0))), (rq 7, .inl (0, 21, .inl (M.2.1 1))), (rq 8, .inl (0, 21, .inl (M.2.1 2))), (rq 9, .inl (4, 2, .inr (.inr (.inr (.inr (rf3 rq 10 1 2)))))), (rq 10, .inl (0, 21, .inl (M.2.2.1 0))), (rq 11, .inl (0, 21, .inl (M.2.2.1 1))), (rq 12, .inl (0, 6, .inl M.2.2.2.1)), (rq 13, .inl (0, 441, .inl M.2.2.2.2.1))]) [0, 1, 2] [3, 4, 5, 6, 7, 8, 9, 10, 11, 12, 13] (ok_X7_isKept (m := rq 0) (Mo := rq 1) (Lo := rq 5) (Do := rq 9) (tl := rq 12) (ca := rq 13) (q := rq 2) (mm := rf3 rq 2 1 3) (fun h9 => by have h8 := ix_in h9; rw [e] at h8; exact (congrArg (rf3 rq 2 1 3) h8.symm).trans rfl) h0) rfl rfl rfl rfl (by decide) ?_
    rintro o w hp
    obtain ⟨g, e1, e2⟩ := hp
    subst e1; subst e2
    exact ⟨_, [11, 12, 13, 0, 1, 2, 3, 4, 5, 6, 7, 8, 9, 10], PN.mk g rfl rfl, rfl, rfl⟩
  · rw [e] at h0
    try rw [e]
    refine ok_fr (wc := [(rq 0, .inr (9, [.ref (rq 1), .ref (rq 5), .ref (rq 9), .ref (rq 12), .ref (rq 13), .int M.2.2.2.2.2])), (rq 1, .inl (4, 3, .inr (.inr (.inr (.inr (rf3 rq 2 1 3)))))), (rq 3, .inl (0, 6144, .inl (M.1 1)))]) (wr := [(rq 2, .inl (0, 6144, .inl (M.1 0))), (rq 4, .inl (0, 6144, .inl (M.1 2))), (rq 5, .inl (4, 3, .inr (.inr (.inr (.inr (rf3 rq 6 1 3)))))), (rq 6, .inl (0, 21, .inl (M.2.1 0))), (rq 7, .inl (0, 21, .inl (M.2.1 1))), (rq 8, .inl (0, 21, .inl (M.2.1 2))), (rq 9, .inl (4, 2, .inr (.inr (.inr (.inr (rf3 rq 10 1 2)))))), (rq 10, .inl (0, 21, .inl (M.2.2.1 0))), (rq 11, .inl (0, 21, .inl (M.2.2.1 1))), (rq 12, .inl (0, 6, .inl M.2.2.2.1)), (rq 13, .inl (0, 441, .inl M.2.2.2.2.1))]) [0, 1, 3] [2, 4, 5, 6, 7, 8, 9, 10, 11, 12, 13] (ok_X7_isKept (m := rq 0) (Mo := rq 1) (Lo := rq 5) (Do := rq 9) (tl := rq 12) (ca := rq 13) (q := rq 3) (mm := rf3 rq 2 1 3) (fun h9 => by have h8 := ix_in h9; rw [e] at h8; exact (congrArg (rf3 rq 2 1 3) h8.symm).trans rfl) h0) rfl rfl rfl rfl (by decide) ?_
    rintro o w hp
    obtain ⟨g, e1, e2⟩ := hp
    subst e1; subst e2
    exact ⟨_, [11, 12, 0, 13, 1, 2, 3, 4, 5, 6, 7, 8, 9, 10], PN.mk g rfl rfl, rfl, rfl⟩
  · rw [e] at h0
    try rw [e]
    refine ok_fr (wc := [(rq 0, .inr (9, [.ref (rq 1), .ref (rq 5), .ref (rq 9), .ref (rq 12), .ref (rq 13), .int M.2.2.2.2.2])), (rq 1, .inl (4, 3, .inr (.inr (.inr (.inr (rf3 rq 2 1 3)))))), (rq 4, .inl (0, 6144, .inl (M.1 2)))]) (wr := [(rq 2, .inl (0, 6144, .inl (M.1 0))), (rq 3, .inl (0, 6144, .inl (M.1 1))), (rq 5, .inl (4, 3, .inr (.inr (.inr (.inr (rf3 rq 6 1 3)))))), (rq 6, .inl (0, 21, .inl (M.2.1 0))), (rq 7, .inl (0, 21, .inl (M.2.1 1))), (rq 8, .inl (0, 21, .inl (M.2.1 2))), (rq 9, .inl (4, 2, .inr (.inr (.inr (.inr (rf3 rq 10 1 2)))))), (rq 10, .inl (0, 21, .inl (M.2.2.1 0))), (rq 11, .inl (0, 21, .inl (M.2.2.1 1))), (rq 12, .inl (0, 6, .inl M.2.2.2.1)), (rq 13, .inl (0, 441, .inl M.2.2.2.2.1))]) [0, 1, 4] [2, 3, 5, 6, 7, 8, 9, 10, 11, 12, 13] (ok_X7_isKept (m := rq 0) (Mo := rq 1) (Lo := rq 5) (Do := rq 9) (tl := rq 12) (ca := rq 13) (q := rq 4) (mm := rf3 rq 2 1 3) (fun h9 => by have h8 := ix_in h9; rw [e] at h8; exact (congrArg (rf3 rq 2 1 3) h8.symm).trans rfl) h0) rfl rfl rfl rfl (by decide) ?_
    rintro o w hp
    obtain ⟨g, e1, e2⟩ := hp
    subst e1; subst e2
    exact ⟨_, [11, 12, 0, 1, 13, 2, 3, 4, 5, 6, 7, 8, 9, 10], PN.mk g rfl rfl, rfl, rfl⟩
def gM_worthOr (N K : Nat) (M : MS) (p0 : Int32) (p1 : Int32) (p2 : Int32) (p3 : Int32) (p4 : Int32) : Option (Int32 × MS) := (fX7_worthOr N K M.2.2.2.2.2 (M.1 (ix 3 p0)) p0 p1 p2 p3 p4).map (fun z => (z.1, (M.1, M.2.1, M.2.2.1, M.2.2.2.1, M.2.2.2.2.1, z.2)))
set_option maxHeartbeats 4000000 in
set_option maxRecDepth 100000 in
theorem ogM_worthOr {N K : Nat} {rq : Nat → Nat} {M : MS} {p0 : Int32} {p1 : Int32} {p2 : Int32} {p3 : Int32} {p4 : Int32} {x : Int32 × MS} (hE : gM_worthOr N K M p0 p1 p2 p3 p4 = some x) : OkM yX7_worthOr (.code yX7_worthOr cX7_worthOr 7 (some .int)) (2) 0 0 [.ref (rq 0), .int p0, .int p1, .int p2, .int p3, .int p4] (WM rq M) ((PN (U := Int32 × MS) (fun z _ => some (.int z.1)) (fun z _ => WM rq z.2)) x) := by
  unfold gM_worthOr at hE
  obtain ⟨x0, h0, h1⟩ := Option.map_eq_some_iff.mp hE
  subst h1
  clear hE
  rcases lt3 (ix_lt (n := 3) (p := p0) (by decide)) with e | e | e
  · rw [e] at h0
    try rw [e]
    refine ok_fr (wc := [(rq 0, .inr (9, [.ref (rq 1), .ref (rq 5), .ref (rq 9), .ref (rq 12), .ref (rq 13), .int M.2.2.2.2.2])), (rq 1, .inl (4, 3, .inr (.inr (.inr (.inr (rf3 rq 2 1 3)))))), (rq 2, .inl (0, 6144, .inl (M.1 0)))]) (wr := [(rq 3, .inl (0, 6144, .inl (M.1 1))), (rq 4, .inl (0, 6144, .inl (M.1 2))), (rq 5, .inl (4, 3, .inr (.inr (.inr (.inr (rf3 rq 6 1 3)))))), (rq 6, .inl (0, 21, .inl (M.2.1 0))), (rq 7, .inl (0, 21, .inl (M.2.1 1))), (rq 8, .inl (0, 21, .inl (M.2.1 2))), (rq 9, .inl (4, 2, .inr (.inr (.inr (.inr (rf3 rq 10 1 2)))))), (rq 10, .inl (0, 21, .inl (M.2.2.1 0))), (rq 11, .inl (0, 21, .inl (M.2.2.1 1))), (rq 12, .inl (0, 6, .inl M.2.2.2.1)), (rq 13, .inl (0, 441, .inl M.2.2.2.2.1))]) [0, 1, 2] [3, 4, 5, 6, 7, 8, 9, 10, 11, 12, 13] (ok_X7_worthOr (m := rq 0) (Mo := rq 1) (Lo := rq 5) (Do := rq 9) (tl := rq 12) (ca := rq 13) (q := rq 2) (mm := rf3 rq 2 1 3) (fun h9 => by have h8 := ix_in h9; rw [e] at h8; exact (congrArg (rf3 rq 2 1 3) h8.symm).trans rfl) h0) rfl rfl rfl rfl (by decide) ?_
    rintro o w hp
    obtain ⟨g, e1, e2⟩ := hp
    subst e1; subst e2
    exact ⟨_, [11, 12, 13, 0, 1, 2, 3, 4, 5, 6, 7, 8, 9, 10], PN.mk g rfl rfl, rfl, rfl⟩
  · rw [e] at h0
    try rw [e]
    refine ok_fr (wc := [(rq 0, .inr (9, [.ref (rq 1), .ref (rq 5), .ref (rq 9), .ref (rq 12), .ref (rq 13), .int M.2.2.2.2.2])), (rq 1, .inl (4, 3, .inr (.inr (.inr (.inr (rf3 rq 2 1 3)))))), (rq 3, .inl (0, 6144, .inl (M.1 1)))]) (wr := [(rq 2, .inl (0, 6144, .inl (M.1 0))), (rq 4, .inl (0, 6144, .inl (M.1 2))), (rq 5, .inl (4, 3, .inr (.inr (.inr (.inr (rf3 rq 6 1 3)))))), (rq 6, .inl (0, 21, .inl (M.2.1 0))), (rq 7, .inl (0, 21, .inl (M.2.1 1))), (rq 8, .inl (0, 21, .inl (M.2.1 2))), (rq 9, .inl (4, 2, .inr (.inr (.inr (.inr (rf3 rq 10 1 2)))))), (rq 10, .inl (0, 21, .inl (M.2.2.1 0))), (rq 11, .inl (0, 21, .inl (M.2.2.1 1))), (rq 12, .inl (0, 6, .inl M.2.2.2.1)), (rq 13, .inl (0, 441, .inl M.2.2.2.2.1))]) [0, 1, 3] [2, 4, 5, 6, 7, 8, 9, 10, 11, 12, 13] (ok_X7_worthOr (m := rq 0) (Mo := rq 1) (Lo := rq 5) (Do := rq 9) (tl := rq 12) (ca := rq 13) (q := rq 3) (mm := rf3 rq 2 1 3) (fun h9 => by have h8 := ix_in h9; rw [e] at h8; exact (congrArg (rf3 rq 2 1 3) h8.symm).trans rfl) h0) rfl rfl rfl rfl (by decide) ?_
    rintro o w hp
    obtain ⟨g, e1, e2⟩ := hp
    subst e1; subst e2
    exact ⟨_, [11, 12, 0, 13, 1, 2, 3, 4, 5, 6, 7, 8, 9, 10], PN.mk g rfl rfl, rfl, rfl⟩
  · rw [e] at h0
    try rw [e]
    refine ok_fr (wc := [(rq 0, .inr (9, [.ref (rq 1), .ref (rq 5), .ref (rq 9), .ref (rq 12), .ref (rq 13), .int M.2.2.2.2.2])), (rq 1, .inl (4, 3, .inr (.inr (.inr (.inr (rf3 rq 2 1 3)))))), (rq 4, .inl (0, 6144, .inl (M.1 2)))]) (wr := [(rq 2, .inl (0, 6144, .inl (M.1 0))), (rq 3, .inl (0, 6144, .inl (M.1 1))), (rq 5, .inl (4, 3, .inr (.inr (.inr (.inr (rf3 rq 6 1 3)))))), (rq 6, .inl (0, 21, .inl (M.2.1 0))), (rq 7, .inl (0, 21, .inl (M.2.1 1))), (rq 8, .inl (0, 21, .inl (M.2.1 2))), (rq 9, .inl (4, 2, .inr (.inr (.inr (.inr (rf3 rq 10 1 2)))))), (rq 10, .inl (0, 21, .inl (M.2.2.1 0))), (rq 11, .inl (0, 21, .inl (M.2.2.1 1))), (rq 12, .inl (0, 6, .inl M.2.2.2.1)), (rq 13, .inl (0, 441, .inl M.2.2.2.2.1))]) [0, 1, 4] [2, 3, 5, 6, 7, 8, 9, 10, 11, 12, 13] (ok_X7_worthOr (m := rq 0) (Mo := rq 1) (Lo := rq 5) (Do := rq 9) (tl := rq 12) (ca := rq 13) (q := rq 4) (mm := rf3 rq 2 1 3) (fun h9 => by have h8 := ix_in h9; rw [e] at h8; exact (congrArg (rf3 rq 2 1 3) h8.symm).trans rfl) h0) rfl rfl rfl rfl (by decide) ?_
    rintro o w hp
    obtain ⟨g, e1, e2⟩ := hp
    subst e1; subst e2
    exact ⟨_, [11, 12, 0, 1, 13, 2, 3, 4, 5, 6, 7, 8, 9, 10], PN.mk g rfl rfl, rfl, rfl⟩
def gM_confirm (N K : Nat) (M : MS) (p0 : Int32) (p1 : Int32) (p2 : Int32) (p3 : Int32) (p4 : Int32) : Option (Int32 × MS) := (fX7_confirm N K M.2.2.2.2.2 (M.1 (ix 3 p0)) p0 p1 p2 p3 p4).map (fun z => (z.1, (M.1, M.2.1, M.2.2.1, M.2.2.2.1, M.2.2.2.2.1, z.2)))
set_option maxHeartbeats 4000000 in
set_option maxRecDepth 100000 in
theorem ogM_confirm {N K : Nat} {rq : Nat → Nat} {M : MS} {p0 : Int32} {p1 : Int32} {p2 : Int32} {p3 : Int32} {p4 : Int32} {x : Int32 × MS} (hE : gM_confirm N K M p0 p1 p2 p3 p4 = some x) : OkM yX7_confirm (.code yX7_confirm cX7_confirm 7 (some .boolean)) (2) 0 0 [.ref (rq 0), .int p0, .int p1, .int p2, .int p3, .int p4] (WM rq M) ((PN (U := Int32 × MS) (fun z _ => some (.int z.1)) (fun z _ => WM rq z.2)) x) := by
  unfold gM_confirm at hE
  obtain ⟨x0, h0, h1⟩ := Option.map_eq_some_iff.mp hE
  subst h1
  clear hE
  rcases lt3 (ix_lt (n := 3) (p := p0) (by decide)) with e | e | e
  · rw [e] at h0
    try rw [e]
    refine ok_fr (wc := [(rq 0, .inr (9, [.ref (rq 1), .ref (rq 5), .ref (rq 9), .ref (rq 12), .ref (rq 13), .int M.2.2.2.2.2])), (rq 1, .inl (4, 3, .inr (.inr (.inr (.inr (rf3 rq 2 1 3)))))), (rq 2, .inl (0, 6144, .inl (M.1 0)))]) (wr := [(rq 3, .inl (0, 6144, .inl (M.1 1))), (rq 4, .inl (0, 6144, .inl (M.1 2))), (rq 5, .inl (4, 3, .inr (.inr (.inr (.inr (rf3 rq 6 1 3)))))), (rq 6, .inl (0, 21, .inl (M.2.1 0))), (rq 7, .inl (0, 21, .inl (M.2.1 1))), (rq 8, .inl (0, 21, .inl (M.2.1 2))), (rq 9, .inl (4, 2, .inr (.inr (.inr (.inr (rf3 rq 10 1 2)))))), (rq 10, .inl (0, 21, .inl (M.2.2.1 0))), (rq 11, .inl (0, 21, .inl (M.2.2.1 1))), (rq 12, .inl (0, 6, .inl M.2.2.2.1)), (rq 13, .inl (0, 441, .inl M.2.2.2.2.1))]) [0, 1, 2] [3, 4, 5, 6, 7, 8, 9, 10, 11, 12, 13] (ok_X7_confirm (m := rq 0) (Mo := rq 1) (Lo := rq 5) (Do := rq 9) (tl := rq 12) (ca := rq 13) (q := rq 2) (mm := rf3 rq 2 1 3) (fun h9 => by have h8 := ix_in h9; rw [e] at h8; exact (congrArg (rf3 rq 2 1 3) h8.symm).trans rfl) h0) rfl rfl rfl rfl (by decide) ?_
    rintro o w hp
    obtain ⟨g, e1, e2⟩ := hp
    subst e1; subst e2
    exact ⟨_, [11, 12, 13, 0, 1, 2, 3, 4, 5, 6, 7, 8, 9, 10], PN.mk g rfl rfl, rfl, rfl⟩
  · rw [e] at h0
    try rw [e]
    refine ok_fr (wc := [(rq 0, .inr (9, [.ref (rq 1), .ref (rq 5), .ref (rq 9), .ref (rq 12), .ref (rq 13), .int M.2.2.2.2.2])), (rq 1, .inl (4, 3, .inr (.inr (.inr (.inr (rf3 rq 2 1 3)))))), (rq 3, .inl (0, 6144, .inl (M.1 1)))]) (wr := [(rq 2, .inl (0, 6144, .inl (M.1 0))), (rq 4, .inl (0, 6144, .inl (M.1 2))), (rq 5, .inl (4, 3, .inr (.inr (.inr (.inr (rf3 rq 6 1 3)))))), (rq 6, .inl (0, 21, .inl (M.2.1 0))), (rq 7, .inl (0, 21, .inl (M.2.1 1))), (rq 8, .inl (0, 21, .inl (M.2.1 2))), (rq 9, .inl (4, 2, .inr (.inr (.inr (.inr (rf3 rq 10 1 2)))))), (rq 10, .inl (0, 21, .inl (M.2.2.1 0))), (rq 11, .inl (0, 21, .inl (M.2.2.1 1))), (rq 12, .inl (0, 6, .inl M.2.2.2.1)), (rq 13, .inl (0, 441, .inl M.2.2.2.2.1))]) [0, 1, 3] [2, 4, 5, 6, 7, 8, 9, 10, 11, 12, 13] (ok_X7_confirm (m := rq 0) (Mo := rq 1) (Lo := rq 5) (Do := rq 9) (tl := rq 12) (ca := rq 13) (q := rq 3) (mm := rf3 rq 2 1 3) (fun h9 => by have h8 := ix_in h9; rw [e] at h8; exact (congrArg (rf3 rq 2 1 3) h8.symm).trans rfl) h0) rfl rfl rfl rfl (by decide) ?_
    rintro o w hp
    obtain ⟨g, e1, e2⟩ := hp
    subst e1; subst e2
    exact ⟨_, [11, 12, 0, 13, 1, 2, 3, 4, 5, 6, 7, 8, 9, 10], PN.mk g rfl rfl, rfl, rfl⟩
  · rw [e] at h0
    try rw [e]
    refine ok_fr (wc := [(rq 0, .inr (9, [.ref (rq 1), .ref (rq 5), .ref (rq 9), .ref (rq 12), .ref (rq 13), .int M.2.2.2.2.2])), (rq 1, .inl (4, 3, .inr (.inr (.inr (.inr (rf3 rq 2 1 3)))))), (rq 4, .inl (0, 6144, .inl (M.1 2)))]) (wr := [(rq 2, .inl (0, 6144, .inl (M.1 0))), (rq 3, .inl (0, 6144, .inl (M.1 1))), (rq 5, .inl (4, 3, .inr (.inr (.inr (.inr (rf3 rq 6 1 3)))))), (rq 6, .inl (0, 21, .inl (M.2.1 0))), (rq 7, .inl (0, 21, .inl (M.2.1 1))), (rq 8, .inl (0, 21, .inl (M.2.1 2))), (rq 9, .inl (4, 2, .inr (.inr (.inr (.inr (rf3 rq 10 1 2)))))), (rq 10, .inl (0, 21, .inl (M.2.2.1 0))), (rq 11, .inl (0, 21, .inl (M.2.2.1 1))), (rq 12, .inl (0, 6, .inl M.2.2.2.1)), (rq 13, .inl (0, 441, .inl M.2.2.2.2.1))]) [0, 1, 4] [2, 3, 5, 6, 7, 8, 9, 10, 11, 12, 13] (ok_X7_confirm (m := rq 0) (Mo := rq 1) (Lo := rq 5) (Do := rq 9) (tl := rq 12) (ca := rq 13) (q := rq 4) (mm := rf3 rq 2 1 3) (fun h9 => by have h8 := ix_in h9; rw [e] at h8; exact (congrArg (rf3 rq 2 1 3) h8.symm).trans rfl) h0) rfl rfl rfl rfl (by decide) ?_
    rintro o w hp
    obtain ⟨g, e1, e2⟩ := hp
    subst e1; subst e2
    exact ⟨_, [11, 12, 0, 1, 13, 2, 3, 4, 5, 6, 7, 8, 9, 10], PN.mk g rfl rfl, rfl, rfl⟩
def gM_about (N K : Nat) (M : MS) (p0 : Int32) (p1 : Int32) : Option (Int32 × MS) := (fX7_about N K M.2.2.2.2.2 (M.1 (ix 3 p0)) p0 p1).map (fun z => (z.1, (M.1, M.2.1, M.2.2.1, M.2.2.2.1, M.2.2.2.2.1, z.2)))
set_option maxHeartbeats 4000000 in
set_option maxRecDepth 100000 in
theorem ogM_about {N K : Nat} {rq : Nat → Nat} {M : MS} {p0 : Int32} {p1 : Int32} {x : Int32 × MS} (hE : gM_about N K M p0 p1 = some x) : OkM yX7_about (.code yX7_about cX7_about 3 (some .int)) (2) 0 0 [.ref (rq 0), .int p0, .int p1] (WM rq M) ((PN (U := Int32 × MS) (fun z _ => some (.int z.1)) (fun z _ => WM rq z.2)) x) := by
  unfold gM_about at hE
  obtain ⟨x0, h0, h1⟩ := Option.map_eq_some_iff.mp hE
  subst h1
  clear hE
  rcases lt3 (ix_lt (n := 3) (p := p0) (by decide)) with e | e | e
  · rw [e] at h0
    try rw [e]
    refine ok_fr (wc := [(rq 0, .inr (9, [.ref (rq 1), .ref (rq 5), .ref (rq 9), .ref (rq 12), .ref (rq 13), .int M.2.2.2.2.2])), (rq 1, .inl (4, 3, .inr (.inr (.inr (.inr (rf3 rq 2 1 3)))))), (rq 2, .inl (0, 6144, .inl (M.1 0)))]) (wr := [(rq 3, .inl (0, 6144, .inl (M.1 1))), (rq 4, .inl (0, 6144, .inl (M.1 2))), (rq 5, .inl (4, 3, .inr (.inr (.inr (.inr (rf3 rq 6 1 3)))))), (rq 6, .inl (0, 21, .inl (M.2.1 0))), (rq 7, .inl (0, 21, .inl (M.2.1 1))), (rq 8, .inl (0, 21, .inl (M.2.1 2))), (rq 9, .inl (4, 2, .inr (.inr (.inr (.inr (rf3 rq 10 1 2)))))), (rq 10, .inl (0, 21, .inl (M.2.2.1 0))), (rq 11, .inl (0, 21, .inl (M.2.2.1 1))), (rq 12, .inl (0, 6, .inl M.2.2.2.1)), (rq 13, .inl (0, 441, .inl M.2.2.2.2.1))]) [0, 1, 2] [3, 4, 5, 6, 7, 8, 9, 10, 11, 12, 13] (ok_X7_about (m := rq 0) (Mo := rq 1) (Lo := rq 5) (Do := rq 9) (tl := rq 12) (ca := rq 13) (q := rq 2) (mm := rf3 rq 2 1 3) (fun h9 => by have h8 := ix_in h9; rw [e] at h8; exact (congrArg (rf3 rq 2 1 3) h8.symm).trans rfl) h0) rfl rfl rfl rfl (by decide) ?_
    rintro o w hp
    obtain ⟨g, e1, e2⟩ := hp
    subst e1; subst e2
    exact ⟨_, [11, 12, 13, 0, 1, 2, 3, 4, 5, 6, 7, 8, 9, 10], PN.mk g rfl rfl, rfl, rfl⟩
  · rw [e] at h0
    try rw [e]
    refine ok_fr (wc := [(rq 0, .inr (9, [.ref (rq 1), .ref (rq 5), .ref (rq 9), .ref (rq 12), .ref (rq 13), .int M.2.2.2.2.2])), (rq 1, .inl (4, 3, .inr (.inr (.inr (.inr (rf3 rq 2 1 3)))))), (rq 3, .inl (0, 6144, .inl (M.1 1)))]) (wr := [(rq 2, .inl (0, 6144, .inl (M.1 0))), (rq 4, .inl (0, 6144, .inl (M.1 2))), (rq 5, .inl (4, 3, .inr (.inr (.inr (.inr (rf3 rq 6 1 3)))))), (rq 6, .inl (0, 21, .inl (M.2.1 0))), (rq 7, .inl (0, 21, .inl (M.2.1 1))), (rq 8, .inl (0, 21, .inl (M.2.1 2))), (rq 9, .inl (4, 2, .inr (.inr (.inr (.inr (rf3 rq 10 1 2)))))), (rq 10, .inl (0, 21, .inl (M.2.2.1 0))), (rq 11, .inl (0, 21, .inl (M.2.2.1 1))), (rq 12, .inl (0, 6, .inl M.2.2.2.1)), (rq 13, .inl (0, 441, .inl M.2.2.2.2.1))]) [0, 1, 3] [2, 4, 5, 6, 7, 8, 9, 10, 11, 12, 13] (ok_X7_about (m := rq 0) (Mo := rq 1) (Lo := rq 5) (Do := rq 9) (tl := rq 12) (ca := rq 13) (q := rq 3) (mm := rf3 rq 2 1 3) (fun h9 => by have h8 := ix_in h9; rw [e] at h8; exact (congrArg (rf3 rq 2 1 3) h8.symm).trans rfl) h0) rfl rfl rfl rfl (by decide) ?_
    rintro o w hp
    obtain ⟨g, e1, e2⟩ := hp
    subst e1; subst e2
    exact ⟨_, [11, 12, 0, 13, 1, 2, 3, 4, 5, 6, 7, 8, 9, 10], PN.mk g rfl rfl, rfl, rfl⟩
  · rw [e] at h0
    try rw [e]
    refine ok_fr (wc := [(rq 0, .inr (9, [.ref (rq 1), .ref (rq 5), .ref (rq 9), .ref (rq 12), .ref (rq 13), .int M.2.2.2.2.2])), (rq 1, .inl (4, 3, .inr (.inr (.inr (.inr (rf3 rq 2 1 3)))))), (rq 4, .inl (0, 6144, .inl (M.1 2)))]) (wr := [(rq 2, .inl (0, 6144, .inl (M.1 0))), (rq 3, .inl (0, 6144, .inl (M.1 1))), (rq 5, .inl (4, 3, .inr (.inr (.inr (.inr (rf3 rq 6 1 3)))))), (rq 6, .inl (0, 21, .inl (M.2.1 0))), (rq 7, .inl (0, 21, .inl (M.2.1 1))), (rq 8, .inl (0, 21, .inl (M.2.1 2))), (rq 9, .inl (4, 2, .inr (.inr (.inr (.inr (rf3 rq 10 1 2)))))), (rq 10, .inl (0, 21, .inl (M.2.2.1 0))), (rq 11, .inl (0, 21, .inl (M.2.2.1 1))), (rq 12, .inl (0, 6, .inl M.2.2.2.1)), (rq 13, .inl (0, 441, .inl M.2.2.2.2.1))]) [0, 1, 4] [2, 3, 5, 6, 7, 8, 9, 10, 11, 12, 13] (ok_X7_about (m := rq 0) (Mo := rq 1) (Lo := rq 5) (Do := rq 9) (tl := rq 12) (ca := rq 13) (q := rq 4) (mm := rf3 rq 2 1 3) (fun h9 => by have h8 := ix_in h9; rw [e] at h8; exact (congrArg (rf3 rq 2 1 3) h8.symm).trans rfl) h0) rfl rfl rfl rfl (by decide) ?_
    rintro o w hp
    obtain ⟨g, e1, e2⟩ := hp
    subst e1; subst e2
    exact ⟨_, [11, 12, 0, 1, 13, 2, 3, 4, 5, 6, 7, 8, 9, 10], PN.mk g rfl rfl, rfl, rfl⟩
def gM_has (N K : Nat) (M : MS) (p0 : Int32) (p1 : Int32) : Option (Int32 × MS) := (fX7_has N K M.2.2.2.2.2 (M.1 (ix 3 p0)) p0 p1).map (fun z => (z.1, (M.1, M.2.1, M.2.2.1, M.2.2.2.1, M.2.2.2.2.1, z.2)))
set_option maxHeartbeats 4000000 in
set_option maxRecDepth 100000 in
theorem ogM_has {N K : Nat} {rq : Nat → Nat} {M : MS} {p0 : Int32} {p1 : Int32} {x : Int32 × MS} (hE : gM_has N K M p0 p1 = some x) : OkM yX7_has (.code yX7_has cX7_has 3 (some .boolean)) (3) 0 0 [.ref (rq 0), .int p0, .int p1] (WM rq M) ((PN (U := Int32 × MS) (fun z _ => some (.int z.1)) (fun z _ => WM rq z.2)) x) := by
  unfold gM_has at hE
  obtain ⟨x0, h0, h1⟩ := Option.map_eq_some_iff.mp hE
  subst h1
  clear hE
  rcases lt3 (ix_lt (n := 3) (p := p0) (by decide)) with e | e | e
  · rw [e] at h0
    try rw [e]
    refine ok_fr (wc := [(rq 0, .inr (9, [.ref (rq 1), .ref (rq 5), .ref (rq 9), .ref (rq 12), .ref (rq 13), .int M.2.2.2.2.2])), (rq 1, .inl (4, 3, .inr (.inr (.inr (.inr (rf3 rq 2 1 3)))))), (rq 2, .inl (0, 6144, .inl (M.1 0)))]) (wr := [(rq 3, .inl (0, 6144, .inl (M.1 1))), (rq 4, .inl (0, 6144, .inl (M.1 2))), (rq 5, .inl (4, 3, .inr (.inr (.inr (.inr (rf3 rq 6 1 3)))))), (rq 6, .inl (0, 21, .inl (M.2.1 0))), (rq 7, .inl (0, 21, .inl (M.2.1 1))), (rq 8, .inl (0, 21, .inl (M.2.1 2))), (rq 9, .inl (4, 2, .inr (.inr (.inr (.inr (rf3 rq 10 1 2)))))), (rq 10, .inl (0, 21, .inl (M.2.2.1 0))), (rq 11, .inl (0, 21, .inl (M.2.2.1 1))), (rq 12, .inl (0, 6, .inl M.2.2.2.1)), (rq 13, .inl (0, 441, .inl M.2.2.2.2.1))]) [0, 1, 2] [3, 4, 5, 6, 7, 8, 9, 10, 11, 12, 13] (ok_X7_has (m := rq 0) (Mo := rq 1) (Lo := rq 5) (Do := rq 9) (tl := rq 12) (ca := rq 13) (q := rq 2) (mm := rf3 rq 2 1 3) (fun h9 => by have h8 := ix_in h9; rw [e] at h8; exact (congrArg (rf3 rq 2 1 3) h8.symm).trans rfl) h0) rfl rfl rfl rfl (by decide) ?_
    rintro o w hp
    obtain ⟨g, e1, e2⟩ := hp
    subst e1; subst e2
    exact ⟨_, [11, 12, 13, 0, 1, 2, 3, 4, 5, 6, 7, 8, 9, 10], PN.mk g rfl rfl, rfl, rfl⟩
  · rw [e] at h0
    try rw [e]
    refine ok_fr (wc := [(rq 0, .inr (9, [.ref (rq 1), .ref (rq 5), .ref (rq 9), .ref (rq 12), .ref (rq 13), .int M.2.2.2.2.2])), (rq 1, .inl (4, 3, .inr (.inr (.inr (.inr (rf3 rq 2 1 3)))))), (rq 3, .inl (0, 6144, .inl (M.1 1)))]) (wr := [(rq 2, .inl (0, 6144, .inl (M.1 0))), (rq 4, .inl (0, 6144, .inl (M.1 2))), (rq 5, .inl (4, 3, .inr (.inr (.inr (.inr (rf3 rq 6 1 3)))))), (rq 6, .inl (0, 21, .inl (M.2.1 0))), (rq 7, .inl (0, 21, .inl (M.2.1 1))), (rq 8, .inl (0, 21, .inl (M.2.1 2))), (rq 9, .inl (4, 2, .inr (.inr (.inr (.inr (rf3 rq 10 1 2)))))), (rq 10, .inl (0, 21, .inl (M.2.2.1 0))), (rq 11, .inl (0, 21, .inl (M.2.2.1 1))), (rq 12, .inl (0, 6, .inl M.2.2.2.1)), (rq 13, .inl (0, 441, .inl M.2.2.2.2.1))]) [0, 1, 3] [2, 4, 5, 6, 7, 8, 9, 10, 11, 12, 13] (ok_X7_has (m := rq 0) (Mo := rq 1) (Lo := rq 5) (Do := rq 9) (tl := rq 12) (ca := rq 13) (q := rq 3) (mm := rf3 rq 2 1 3) (fun h9 => by have h8 := ix_in h9; rw [e] at h8; exact (congrArg (rf3 rq 2 1 3) h8.symm).trans rfl) h0) rfl rfl rfl rfl (by decide) ?_
    rintro o w hp
    obtain ⟨g, e1, e2⟩ := hp
    subst e1; subst e2
    exact ⟨_, [11, 12, 0, 13, 1, 2, 3, 4, 5, 6, 7, 8, 9, 10], PN.mk g rfl rfl, rfl, rfl⟩
  · rw [e] at h0
    try rw [e]
    refine ok_fr (wc := [(rq 0, .inr (9, [.ref (rq 1), .ref (rq 5), .ref (rq 9), .ref (rq 12), .ref (rq 13), .int M.2.2.2.2.2])), (rq 1, .inl (4, 3, .inr (.inr (.inr (.inr (rf3 rq 2 1 3)))))), (rq 4, .inl (0, 6144, .inl (M.1 2)))]) (wr := [(rq 2, .inl (0, 6144, .inl (M.1 0))), (rq 3, .inl (0, 6144, .inl (M.1 1))), (rq 5, .inl (4, 3, .inr (.inr (.inr (.inr (rf3 rq 6 1 3)))))), (rq 6, .inl (0, 21, .inl (M.2.1 0))), (rq 7, .inl (0, 21, .inl (M.2.1 1))), (rq 8, .inl (0, 21, .inl (M.2.1 2))), (rq 9, .inl (4, 2, .inr (.inr (.inr (.inr (rf3 rq 10 1 2)))))), (rq 10, .inl (0, 21, .inl (M.2.2.1 0))), (rq 11, .inl (0, 21, .inl (M.2.2.1 1))), (rq 12, .inl (0, 6, .inl M.2.2.2.1)), (rq 13, .inl (0, 441, .inl M.2.2.2.2.1))]) [0, 1, 4] [2, 3, 5, 6, 7, 8, 9, 10, 11, 12, 13] (ok_X7_has (m := rq 0) (Mo := rq 1) (Lo := rq 5) (Do := rq 9) (tl := rq 12) (ca := rq 13) (q := rq 4) (mm := rf3 rq 2 1 3) (fun h9 => by have h8 := ix_in h9; rw [e] at h8; exact (congrArg (rf3 rq 2 1 3) h8.symm).trans rfl) h0) rfl rfl rfl rfl (by decide) ?_
    rintro o w hp
    obtain ⟨g, e1, e2⟩ := hp
    subst e1; subst e2
    exact ⟨_, [11, 12, 0, 1, 13, 2, 3, 4, 5, 6, 7, 8, 9, 10], PN.mk g rfl rfl, rfl, rfl⟩
def gM_count (N K : Nat) (M : MS) (p0 : Int32) (p1 : Int32) (p2 : Int32) : Option (Int32 × MS) := (fX7_count N K M.2.2.2.2.2 (M.1 (ix 3 p0)) p0 p1 p2).map (fun z => (z.1, (M.1, M.2.1, M.2.2.1, M.2.2.2.1, M.2.2.2.2.1, z.2)))
set_option maxHeartbeats 4000000 in
set_option maxRecDepth 100000 in
theorem ogM_count {N K : Nat} {rq : Nat → Nat} {M : MS} {p0 : Int32} {p1 : Int32} {p2 : Int32} {x : Int32 × MS} (hE : gM_count N K M p0 p1 p2 = some x) : OkM yX7_count (.code yX7_count cX7_count 4 (some .int)) (3) 0 0 [.ref (rq 0), .int p0, .int p1, .int p2] (WM rq M) ((PN (U := Int32 × MS) (fun z _ => some (.int z.1)) (fun z _ => WM rq z.2)) x) := by
  unfold gM_count at hE
  obtain ⟨x0, h0, h1⟩ := Option.map_eq_some_iff.mp hE
  subst h1
  clear hE
  rcases lt3 (ix_lt (n := 3) (p := p0) (by decide)) with e | e | e
  · rw [e] at h0
    try rw [e]
    refine ok_fr (wc := [(rq 0, .inr (9, [.ref (rq 1), .ref (rq 5), .ref (rq 9), .ref (rq 12), .ref (rq 13), .int M.2.2.2.2.2])), (rq 1, .inl (4, 3, .inr (.inr (.inr (.inr (rf3 rq 2 1 3)))))), (rq 2, .inl (0, 6144, .inl (M.1 0)))]) (wr := [(rq 3, .inl (0, 6144, .inl (M.1 1))), (rq 4, .inl (0, 6144, .inl (M.1 2))), (rq 5, .inl (4, 3, .inr (.inr (.inr (.inr (rf3 rq 6 1 3)))))), (rq 6, .inl (0, 21, .inl (M.2.1 0))), (rq 7, .inl (0, 21, .inl (M.2.1 1))), (rq 8, .inl (0, 21, .inl (M.2.1 2))), (rq 9, .inl (4, 2, .inr (.inr (.inr (.inr (rf3 rq 10 1 2)))))), (rq 10, .inl (0, 21, .inl (M.2.2.1 0))), (rq 11, .inl (0, 21, .inl (M.2.2.1 1))), (rq 12, .inl (0, 6, .inl M.2.2.2.1)), (rq 13, .inl (0, 441, .inl M.2.2.2.2.1))]) [0, 1, 2] [3, 4, 5, 6, 7, 8, 9, 10, 11, 12, 13] (ok_X7_count (m := rq 0) (Mo := rq 1) (Lo := rq 5) (Do := rq 9) (tl := rq 12) (ca := rq 13) (q := rq 2) (mm := rf3 rq 2 1 3) (fun h9 => by have h8 := ix_in h9; rw [e] at h8; exact (congrArg (rf3 rq 2 1 3) h8.symm).trans rfl) h0) rfl rfl rfl rfl (by decide) ?_
    rintro o w hp
    obtain ⟨g, e1, e2⟩ := hp
    subst e1; subst e2
    exact ⟨_, [11, 12, 13, 0, 1, 2, 3, 4, 5, 6, 7, 8, 9, 10], PN.mk g rfl rfl, rfl, rfl⟩
  · rw [e] at h0
    try rw [e]
    refine ok_fr (wc := [(rq 0, .inr (9, [.ref (rq 1), .ref (rq 5), .ref (rq 9), .ref (rq 12), .ref (rq 13), .int M.2.2.2.2.2])), (rq 1, .inl (4, 3, .inr (.inr (.inr (.inr (rf3 rq 2 1 3)))))), (rq 3, .inl (0, 6144, .inl (M.1 1)))]) (wr := [(rq 2, .inl (0, 6144, .inl (M.1 0))), (rq 4, .inl (0, 6144, .inl (M.1 2))), (rq 5, .inl (4, 3, .inr (.inr (.inr (.inr (rf3 rq 6 1 3)))))), (rq 6, .inl (0, 21, .inl (M.2.1 0))), (rq 7, .inl (0, 21, .inl (M.2.1 1))), (rq 8, .inl (0, 21, .inl (M.2.1 2))), (rq 9, .inl (4, 2, .inr (.inr (.inr (.inr (rf3 rq 10 1 2)))))), (rq 10, .inl (0, 21, .inl (M.2.2.1 0))), (rq 11, .inl (0, 21, .inl (M.2.2.1 1))), (rq 12, .inl (0, 6, .inl M.2.2.2.1)), (rq 13, .inl (0, 441, .inl M.2.2.2.2.1))]) [0, 1, 3] [2, 4, 5, 6, 7, 8, 9, 10, 11, 12, 13] (ok_X7_count (m := rq 0) (Mo := rq 1) (Lo := rq 5) (Do := rq 9) (tl := rq 12) (ca := rq 13) (q := rq 3) (mm := rf3 rq 2 1 3) (fun h9 => by have h8 := ix_in h9; rw [e] at h8; exact (congrArg (rf3 rq 2 1 3) h8.symm).trans rfl) h0) rfl rfl rfl rfl (by decide) ?_
    rintro o w hp
    obtain ⟨g, e1, e2⟩ := hp
    subst e1; subst e2
    exact ⟨_, [11, 12, 0, 13, 1, 2, 3, 4, 5, 6, 7, 8, 9, 10], PN.mk g rfl rfl, rfl, rfl⟩
  · rw [e] at h0
    try rw [e]
    refine ok_fr (wc := [(rq 0, .inr (9, [.ref (rq 1), .ref (rq 5), .ref (rq 9), .ref (rq 12), .ref (rq 13), .int M.2.2.2.2.2])), (rq 1, .inl (4, 3, .inr (.inr (.inr (.inr (rf3 rq 2 1 3)))))), (rq 4, .inl (0, 6144, .inl (M.1 2)))]) (wr := [(rq 2, .inl (0, 6144, .inl (M.1 0))), (rq 3, .inl (0, 6144, .inl (M.1 1))), (rq 5, .inl (4, 3, .inr (.inr (.inr (.inr (rf3 rq 6 1 3)))))), (rq 6, .inl (0, 21, .inl (M.2.1 0))), (rq 7, .inl (0, 21, .inl (M.2.1 1))), (rq 8, .inl (0, 21, .inl (M.2.1 2))), (rq 9, .inl (4, 2, .inr (.inr (.inr (.inr (rf3 rq 10 1 2)))))), (rq 10, .inl (0, 21, .inl (M.2.2.1 0))), (rq 11, .inl (0, 21, .inl (M.2.2.1 1))), (rq 12, .inl (0, 6, .inl M.2.2.2.1)), (rq 13, .inl (0, 441, .inl M.2.2.2.2.1))]) [0, 1, 4] [2, 3, 5, 6, 7, 8, 9, 10, 11, 12, 13] (ok_X7_count (m := rq 0) (Mo := rq 1) (Lo := rq 5) (Do := rq 9) (tl := rq 12) (ca := rq 13) (q := rq 4) (mm := rf3 rq 2 1 3) (fun h9 => by have h8 := ix_in h9; rw [e] at h8; exact (congrArg (rf3 rq 2 1 3) h8.symm).trans rfl) h0) rfl rfl rfl rfl (by decide) ?_
    rintro o w hp
    obtain ⟨g, e1, e2⟩ := hp
    subst e1; subst e2
    exact ⟨_, [11, 12, 0, 1, 13, 2, 3, 4, 5, 6, 7, 8, 9, 10], PN.mk g rfl rfl, rfl, rfl⟩
def gM_isSame (N K : Nat) (M : MS) (p0 : Int32) (p1 : Int32) : Option (Int32 × MS) := if p0 = p1 then (fX7_isSameOwn N K M.2.2.2.2.2 (M.1 (ix 3 p0)) p0).map (fun z => (z.1, (M.1, M.2.1, M.2.2.1, M.2.2.2.1, M.2.2.2.2.1, z.2))) else (fX7_isSame N K M.2.2.2.2.2 (M.1 (jx 3 p0 p1)) (M.1 (kx 3 p0 p1)) p0 p1).map (fun z => (z.1, (M.1, M.2.1, M.2.2.1, M.2.2.2.1, M.2.2.2.2.1, z.2)))
set_option maxHeartbeats 4000000 in
set_option maxRecDepth 100000 in
theorem ogM_isSame {N K : Nat} {rq : Nat → Nat} {M : MS} {p0 : Int32} {p1 : Int32} {x : Int32 × MS} (hE : gM_isSame N K M p0 p1 = some x) : OkM yX7_isSame (.code yX7_isSame cX7_isSame 5 (some .boolean)) (1) 0 0 [.ref (rq 0), .int p0, .int p1] (WM rq M) ((PN (U := Int32 × MS) (fun z _ => some (.int z.1)) (fun z _ => WM rq z.2)) x) := by
  unfold gM_isSame at hE
  by_cases hpq : p0 = p1
  · subst hpq
    rw [if_pos rfl] at hE
    obtain ⟨x0, h0, h1⟩ := Option.map_eq_some_iff.mp hE
    subst h1
    clear hE
    rcases lt3 (ix_lt (n := 3) (p := p0) (by decide)) with e | e | e
    · rw [e] at h0
      try rw [e]
      refine ok_fr (wc := [(rq 0, .inr (9, [.ref (rq 1), .ref (rq 5), .ref (rq 9), .ref (rq 12), .ref (rq 13), .int M.2.2.2.2.2])), (rq 1, .inl (4, 3, .inr (.inr (.inr (.inr (rf3 rq 2 1 3)))))), (rq 2, .inl (0, 6144, .inl (M.1 0)))]) (wr := [(rq 3, .inl (0, 6144, .inl (M.1 1))), (rq 4, .inl (0, 6144, .inl (M.1 2))), (rq 5, .inl (4, 3, .inr (.inr (.inr (.inr (rf3 rq 6 1 3)))))), (rq 6, .inl (0, 21, .inl (M.2.1 0))), (rq 7, .inl (0, 21, .inl (M.2.1 1))), (rq 8, .inl (0, 21, .inl (M.2.1 2))), (rq 9, .inl (4, 2, .inr (.inr (.inr (.inr (rf3 rq 10 1 2)))))), (rq 10, .inl (0, 21, .inl (M.2.2.1 0))), (rq 11, .inl (0, 21, .inl (M.2.2.1 1))), (rq 12, .inl (0, 6, .inl M.2.2.2.1)), (rq 13, .inl (0, 441, .inl M.2.2.2.2.1))]) [0, 1, 2] [3, 4, 5, 6, 7, 8, 9, 10, 11, 12, 13] (ok_X7_isSameOwn (m := rq 0) (Mo := rq 1) (Lo := rq 5) (Do := rq 9) (tl := rq 12) (ca := rq 13) (q := rq 2) (mm := rf3 rq 2 1 3) (fun h9 => by have h8 := ix_in h9; rw [e] at h8; exact (congrArg (rf3 rq 2 1 3) h8.symm).trans rfl) h0) rfl rfl rfl rfl (by decide) ?_
      rintro o w hp
      obtain ⟨g, e1, e2⟩ := hp
      subst e1; subst e2
      exact ⟨_, [11, 12, 13, 0, 1, 2, 3, 4, 5, 6, 7, 8, 9, 10], PN.mk g rfl rfl, rfl, rfl⟩
    · rw [e] at h0
      try rw [e]
      refine ok_fr (wc := [(rq 0, .inr (9, [.ref (rq 1), .ref (rq 5), .ref (rq 9), .ref (rq 12), .ref (rq 13), .int M.2.2.2.2.2])), (rq 1, .inl (4, 3, .inr (.inr (.inr (.inr (rf3 rq 2 1 3)))))), (rq 3, .inl (0, 6144, .inl (M.1 1)))]) (wr := [(rq 2, .inl (0, 6144, .inl (M.1 0))), (rq 4, .inl (0, 6144, .inl (M.1 2))), (rq 5, .inl (4, 3, .inr (.inr (.inr (.inr (rf3 rq 6 1 3)))))), (rq 6, .inl (0, 21, .inl (M.2.1 0))), (rq 7, .inl (0, 21, .inl (M.2.1 1))), (rq 8, .inl (0, 21, .inl (M.2.1 2))), (rq 9, .inl (4, 2, .inr (.inr (.inr (.inr (rf3 rq 10 1 2)))))), (rq 10, .inl (0, 21, .inl (M.2.2.1 0))), (rq 11, .inl (0, 21, .inl (M.2.2.1 1))), (rq 12, .inl (0, 6, .inl M.2.2.2.1)), (rq 13, .inl (0, 441, .inl M.2.2.2.2.1))]) [0, 1, 3] [2, 4, 5, 6, 7, 8, 9, 10, 11, 12, 13] (ok_X7_isSameOwn (m := rq 0) (Mo := rq 1) (Lo := rq 5) (Do := rq 9) (tl := rq 12) (ca := rq 13) (q := rq 3) (mm := rf3 rq 2 1 3) (fun h9 => by have h8 := ix_in h9; rw [e] at h8; exact (congrArg (rf3 rq 2 1 3) h8.symm).trans rfl) h0) rfl rfl rfl rfl (by decide) ?_
      rintro o w hp
      obtain ⟨g, e1, e2⟩ := hp
      subst e1; subst e2
      exact ⟨_, [11, 12, 0, 13, 1, 2, 3, 4, 5, 6, 7, 8, 9, 10], PN.mk g rfl rfl, rfl, rfl⟩
    · rw [e] at h0
      try rw [e]
      refine ok_fr (wc := [(rq 0, .inr (9, [.ref (rq 1), .ref (rq 5), .ref (rq 9), .ref (rq 12), .ref (rq 13), .int M.2.2.2.2.2])), (rq 1, .inl (4, 3, .inr (.inr (.inr (.inr (rf3 rq 2 1 3)))))), (rq 4, .inl (0, 6144, .inl (M.1 2)))]) (wr := [(rq 2, .inl (0, 6144, .inl (M.1 0))), (rq 3, .inl (0, 6144, .inl (M.1 1))), (rq 5, .inl (4, 3, .inr (.inr (.inr (.inr (rf3 rq 6 1 3)))))), (rq 6, .inl (0, 21, .inl (M.2.1 0))), (rq 7, .inl (0, 21, .inl (M.2.1 1))), (rq 8, .inl (0, 21, .inl (M.2.1 2))), (rq 9, .inl (4, 2, .inr (.inr (.inr (.inr (rf3 rq 10 1 2)))))), (rq 10, .inl (0, 21, .inl (M.2.2.1 0))), (rq 11, .inl (0, 21, .inl (M.2.2.1 1))), (rq 12, .inl (0, 6, .inl M.2.2.2.1)), (rq 13, .inl (0, 441, .inl M.2.2.2.2.1))]) [0, 1, 4] [2, 3, 5, 6, 7, 8, 9, 10, 11, 12, 13] (ok_X7_isSameOwn (m := rq 0) (Mo := rq 1) (Lo := rq 5) (Do := rq 9) (tl := rq 12) (ca := rq 13) (q := rq 4) (mm := rf3 rq 2 1 3) (fun h9 => by have h8 := ix_in h9; rw [e] at h8; exact (congrArg (rf3 rq 2 1 3) h8.symm).trans rfl) h0) rfl rfl rfl rfl (by decide) ?_
      rintro o w hp
      obtain ⟨g, e1, e2⟩ := hp
      subst e1; subst e2
      exact ⟨_, [11, 12, 0, 1, 13, 2, 3, 4, 5, 6, 7, 8, 9, 10], PN.mk g rfl rfl, rfl, rfl⟩
  · rw [if_neg hpq] at hE
    obtain ⟨x0, h0, h1⟩ := Option.map_eq_some_iff.mp hE
    subst h1
    clear hE
    rcases jk3 hpq with ⟨e, f⟩ | ⟨e, f⟩ | ⟨e, f⟩ | ⟨e, f⟩ | ⟨e, f⟩ | ⟨e, f⟩
    · simp only [e, f] at h0 ⊢
      refine ok_fr (wc := [(rq 0, .inr (9, [.ref (rq 1), .ref (rq 5), .ref (rq 9), .ref (rq 12), .ref (rq 13), .int M.2.2.2.2.2])), (rq 1, .inl (4, 3, .inr (.inr (.inr (.inr (rf3 rq 2 1 3)))))), (rq 2, .inl (0, 6144, .inl (M.1 0))), (rq 3, .inl (0, 6144, .inl (M.1 1)))]) (wr := [(rq 4, .inl (0, 6144, .inl (M.1 2))), (rq 5, .inl (4, 3, .inr (.inr (.inr (.inr (rf3 rq 6 1 3)))))), (rq 6, .inl (0, 21, .inl (M.2.1 0))), (rq 7, .inl (0, 21, .inl (M.2.1 1))), (rq 8, .inl (0, 21, .inl (M.2.1 2))), (rq 9, .inl (4, 2, .inr (.inr (.inr (.inr (rf3 rq 10 1 2)))))), (rq 10, .inl (0, 21, .inl (M.2.2.1 0))), (rq 11, .inl (0, 21, .inl (M.2.2.1 1))), (rq 12, .inl (0, 6, .inl M.2.2.2.1)), (rq 13, .inl (0, 441, .inl M.2.2.2.2.1))]) [0, 1, 2, 3] [4, 5, 6, 7, 8, 9, 10, 11, 12, 13] (ok_X7_isSame (m := rq 0) (Mo := rq 1) (Lo := rq 5) (Do := rq 9) (tl := rq 12) (ca := rq 13) (q := rq 2) (q2 := rq 3) (mm := rf3 rq 2 1 3) (fun h9 => by have h8 := jx_in (q := p1) h9; rw [e] at h8; exact (congrArg (rf3 rq 2 1 3) h8.symm).trans rfl) (fun h9 => by have h8 := kx_in (p := p0) h9; rw [f] at h8; exact (congrArg (rf3 rq 2 1 3) h8.symm).trans rfl) h0) rfl rfl rfl rfl (by decide) ?_
      rintro o w hp
      obtain ⟨g, e1, e2⟩ := hp
      subst e1; subst e2
      exact ⟨_, [10, 11, 12, 13, 0, 1, 2, 3, 4, 5, 6, 7, 8, 9], PN.mk g rfl rfl, rfl, rfl⟩
    · simp only [e, f] at h0 ⊢
      refine ok_fr (wc := [(rq 0, .inr (9, [.ref (rq 1), .ref (rq 5), .ref (rq 9), .ref (rq 12), .ref (rq 13), .int M.2.2.2.2.2])), (rq 1, .inl (4, 3, .inr (.inr (.inr (.inr (rf3 rq 2 1 3)))))), (rq 2, .inl (0, 6144, .inl (M.1 0))), (rq 4, .inl (0, 6144, .inl (M.1 2)))]) (wr := [(rq 3, .inl (0, 6144, .inl (M.1 1))), (rq 5, .inl (4, 3, .inr (.inr (.inr (.inr (rf3 rq 6 1 3)))))), (rq 6, .inl (0, 21, .inl (M.2.1 0))), (rq 7, .inl (0, 21, .inl (M.2.1 1))), (rq 8, .inl (0, 21, .inl (M.2.1 2))), (rq 9, .inl (4, 2, .inr (.inr (.inr (.inr (rf3 rq 10 1 2)))))), (rq 10, .inl (0, 21, .inl (M.2.2.1 0))), (rq 11, .inl (0, 21, .inl (M.2.2.1 1))), (rq 12, .inl (0, 6, .inl M.2.2.2.1)), (rq 13, .inl (0, 441, .inl M.2.2.2.2.1))]) [0, 1, 2, 4] [3, 5, 6, 7, 8, 9, 10, 11, 12, 13] (ok_X7_isSame (m := rq 0) (Mo := rq 1) (Lo := rq 5) (Do := rq 9) (tl := rq 12) (ca := rq 13) (q := rq 2) (q2 := rq 4) (mm := rf3 rq 2 1 3) (fun h9 => by have h8 := jx_in (q := p1) h9; rw [e] at h8; exact (congrArg (rf3 rq 2 1 3) h8.symm).trans rfl) (fun h9 => by have h8 := kx_in (p := p0) h9; rw [f] at h8; exact (congrArg (rf3 rq 2 1 3) h8.symm).trans rfl) h0) rfl rfl rfl rfl (by decide) ?_
      rintro o w hp
      obtain ⟨g, e1, e2⟩ := hp
      subst e1; subst e2
      exact ⟨_, [10, 11, 12, 0, 13, 1, 2, 3, 4, 5, 6, 7, 8, 9], PN.mk g rfl rfl, rfl, rfl⟩
    · simp only [e, f] at h0 ⊢
      refine ok_fr (wc := [(rq 0, .inr (9, [.ref (rq 1), .ref (rq 5), .ref (rq 9), .ref (rq 12), .ref (rq 13), .int M.2.2.2.2.2])), (rq 1, .inl (4, 3, .inr (.inr (.inr (.inr (rf3 rq 2 1 3)))))), (rq 3, .inl (0, 6144, .inl (M.1 1))), (rq 2, .inl (0, 6144, .inl (M.1 0)))]) (wr := [(rq 4, .inl (0, 6144, .inl (M.1 2))), (rq 5, .inl (4, 3, .inr (.inr (.inr (.inr (rf3 rq 6 1 3)))))), (rq 6, .inl (0, 21, .inl (M.2.1 0))), (rq 7, .inl (0, 21, .inl (M.2.1 1))), (rq 8, .inl (0, 21, .inl (M.2.1 2))), (rq 9, .inl (4, 2, .inr (.inr (.inr (.inr (rf3 rq 10 1 2)))))), (rq 10, .inl (0, 21, .inl (M.2.2.1 0))), (rq 11, .inl (0, 21, .inl (M.2.2.1 1))), (rq 12, .inl (0, 6, .inl M.2.2.2.1)), (rq 13, .inl (0, 441, .inl M.2.2.2.2.1))]) [0, 1, 3, 2] [4, 5, 6, 7, 8, 9, 10, 11, 12, 13] (ok_X7_isSame (m := rq 0) (Mo := rq 1) (Lo := rq 5) (Do := rq 9) (tl := rq 12) (ca := rq 13) (q := rq 3) (q2 := rq 2) (mm := rf3 rq 2 1 3) (fun h9 => by have h8 := jx_in (q := p1) h9; rw [e] at h8; exact (congrArg (rf3 rq 2 1 3) h8.symm).trans rfl) (fun h9 => by have h8 := kx_in (p := p0) h9; rw [f] at h8; exact (congrArg (rf3 rq 2 1 3) h8.symm).trans rfl) h0) rfl rfl rfl rfl (by decide) ?_
      rintro o w hp
      obtain ⟨g, e1, e2⟩ := hp
      subst e1; subst e2
      exact ⟨_, [10, 11, 13, 12, 0, 1, 2, 3, 4, 5, 6, 7, 8, 9], PN.mk g rfl rfl, rfl, rfl⟩
    · simp only [e, f] at h0 ⊢
      refine ok_fr (wc := [(rq 0, .inr (9, [.ref (rq 1), .ref (rq 5), .ref (rq 9), .ref (rq 12), .ref (rq 13), .int M.2.2.2.2.2])), (rq 1, .inl (4, 3, .inr (.inr (.inr (.inr (rf3 rq 2 1 3)))))), (rq 3, .inl (0, 6144, .inl (M.1 1))), (rq 4, .inl (0, 6144, .inl (M.1 2)))]) (wr := [(rq 2, .inl (0, 6144, .inl (M.1 0))), (rq 5, .inl (4, 3, .inr (.inr (.inr (.inr (rf3 rq 6 1 3)))))), (rq 6, .inl (0, 21, .inl (M.2.1 0))), (rq 7, .inl (0, 21, .inl (M.2.1 1))), (rq 8, .inl (0, 21, .inl (M.2.1 2))), (rq 9, .inl (4, 2, .inr (.inr (.inr (.inr (rf3 rq 10 1 2)))))), (rq 10, .inl (0, 21, .inl (M.2.2.1 0))), (rq 11, .inl (0, 21, .inl (M.2.2.1 1))), (rq 12, .inl (0, 6, .inl M.2.2.2.1)), (rq 13, .inl (0, 441, .inl M.2.2.2.2.1))]) [0, 1, 3, 4] [2, 5, 6, 7, 8, 9, 10, 11, 12, 13] (ok_X7_isSame (m := rq 0) (Mo := rq 1) (Lo := rq 5) (Do := rq 9) (tl := rq 12) (ca := rq 13) (q := rq 3) (q2 := rq 4) (mm := rf3 rq 2 1 3) (fun h9 => by have h8 := jx_in (q := p1) h9; rw [e] at h8; exact (congrArg (rf3 rq 2 1 3) h8.symm).trans rfl) (fun h9 => by have h8 := kx_in (p := p0) h9; rw [f] at h8; exact (congrArg (rf3 rq 2 1 3) h8.symm).trans rfl) h0) rfl rfl rfl rfl (by decide) ?_
      rintro o w hp
      obtain ⟨g, e1, e2⟩ := hp
      subst e1; subst e2
      exact ⟨_, [10, 11, 0, 12, 13, 1, 2, 3, 4, 5, 6, 7, 8, 9], PN.mk g rfl rfl, rfl, rfl⟩
    · simp only [e, f] at h0 ⊢
      refine ok_fr (wc := [(rq 0, .inr (9, [.ref (rq 1), .ref (rq 5), .ref (rq 9), .ref (rq 12), .ref (rq 13), .int M.2.2.2.2.2])), (rq 1, .inl (4, 3, .inr (.inr (.inr (.inr (rf3 rq 2 1 3)))))), (rq 4, .inl (0, 6144, .inl (M.1 2))), (rq 2, .inl (0, 6144, .inl (M.1 0)))]) (wr := [(rq 3, .inl (0, 6144, .inl (M.1 1))), (rq 5, .inl (4, 3, .inr (.inr (.inr (.inr (rf3 rq 6 1 3)))))), (rq 6, .inl (0, 21, .inl (M.2.1 0))), (rq 7, .inl (0, 21, .inl (M.2.1 1))), (rq 8, .inl (0, 21, .inl (M.2.1 2))), (rq 9, .inl (4, 2, .inr (.inr (.inr (.inr (rf3 rq 10 1 2)))))), (rq 10, .inl (0, 21, .inl (M.2.2.1 0))), (rq 11, .inl (0, 21, .inl (M.2.2.1 1))), (rq 12, .inl (0, 6, .inl M.2.2.2.1)), (rq 13, .inl (0, 441, .inl M.2.2.2.2.1))]) [0, 1, 4, 2] [3, 5, 6, 7, 8, 9, 10, 11, 12, 13] (ok_X7_isSame (m := rq 0) (Mo := rq 1) (Lo := rq 5) (Do := rq 9) (tl := rq 12) (ca := rq 13) (q := rq 4) (q2 := rq 2) (mm := rf3 rq 2 1 3) (fun h9 => by have h8 := jx_in (q := p1) h9; rw [e] at h8; exact (congrArg (rf3 rq 2 1 3) h8.symm).trans rfl) (fun h9 => by have h8 := kx_in (p := p0) h9; rw [f] at h8; exact (congrArg (rf3 rq 2 1 3) h8.symm).trans rfl) h0) rfl rfl rfl rfl (by decide) ?_
      rintro o w hp
      obtain ⟨g, e1, e2⟩ := hp
      subst e1; subst e2
      exact ⟨_, [10, 11, 13, 0, 12, 1, 2, 3, 4, 5, 6, 7, 8, 9], PN.mk g rfl rfl, rfl, rfl⟩
    · simp only [e, f] at h0 ⊢
      refine ok_fr (wc := [(rq 0, .inr (9, [.ref (rq 1), .ref (rq 5), .ref (rq 9), .ref (rq 12), .ref (rq 13), .int M.2.2.2.2.2])), (rq 1, .inl (4, 3, .inr (.inr (.inr (.inr (rf3 rq 2 1 3)))))), (rq 4, .inl (0, 6144, .inl (M.1 2))), (rq 3, .inl (0, 6144, .inl (M.1 1)))]) (wr := [(rq 2, .inl (0, 6144, .inl (M.1 0))), (rq 5, .inl (4, 3, .inr (.inr (.inr (.inr (rf3 rq 6 1 3)))))), (rq 6, .inl (0, 21, .inl (M.2.1 0))), (rq 7, .inl (0, 21, .inl (M.2.1 1))), (rq 8, .inl (0, 21, .inl (M.2.1 2))), (rq 9, .inl (4, 2, .inr (.inr (.inr (.inr (rf3 rq 10 1 2)))))), (rq 10, .inl (0, 21, .inl (M.2.2.1 0))), (rq 11, .inl (0, 21, .inl (M.2.2.1 1))), (rq 12, .inl (0, 6, .inl M.2.2.2.1)), (rq 13, .inl (0, 441, .inl M.2.2.2.2.1))]) [0, 1, 4, 3] [2, 5, 6, 7, 8, 9, 10, 11, 12, 13] (ok_X7_isSame (m := rq 0) (Mo := rq 1) (Lo := rq 5) (Do := rq 9) (tl := rq 12) (ca := rq 13) (q := rq 4) (q2 := rq 3) (mm := rf3 rq 2 1 3) (fun h9 => by have h8 := jx_in (q := p1) h9; rw [e] at h8; exact (congrArg (rf3 rq 2 1 3) h8.symm).trans rfl) (fun h9 => by have h8 := kx_in (p := p0) h9; rw [f] at h8; exact (congrArg (rf3 rq 2 1 3) h8.symm).trans rfl) h0) rfl rfl rfl rfl (by decide) ?_
      rintro o w hp
      obtain ⟨g, e1, e2⟩ := hp
      subst e1; subst e2
      exact ⟨_, [10, 11, 0, 13, 12, 1, 2, 3, 4, 5, 6, 7, 8, 9], PN.mk g rfl rfl, rfl, rfl⟩
def gM_walk (N K : Nat) (M : MS) (p0 : Int32) (p1 : Int32) (p2 : Int32) : Option (Int32 × MS) := (fX7_walk N K M.2.2.2.2.2 p0 p1 p2).map (fun z => (z.1, (M.1, M.2.1, M.2.2.1, M.2.2.2.1, M.2.2.2.2.1, z.2)))
set_option maxHeartbeats 4000000 in
set_option maxRecDepth 100000 in
theorem ogM_walk {N K : Nat} {rq : Nat → Nat} {M : MS} {p0 : Int32} {p1 : Int32} {p2 : Int32} {x : Int32 × MS} (hE : gM_walk N K M p0 p1 p2 = some x) : OkM yX7_walk (.code yX7_walk cX7_walk 4 (some .int)) (5) 1 21 [.ref (rq 0), .int p0, .int p1, .int p2] (WM rq M) ((PN (U := Int32 × MS) (fun z _ => some (.int z.1)) (fun z _ => WM rq z.2)) x) := by
  unfold gM_walk at hE
  obtain ⟨x0, h0, h1⟩ := Option.map_eq_some_iff.mp hE
  subst h1
  clear hE
  refine ok_fr (wc := [(rq 0, .inr (9, [.ref (rq 1), .ref (rq 5), .ref (rq 9), .ref (rq 12), .ref (rq 13), .int M.2.2.2.2.2]))]) (wr := [(rq 1, .inl (4, 3, .inr (.inr (.inr (.inr (rf3 rq 2 1 3)))))), (rq 2, .inl (0, 6144, .inl (M.1 0))), (rq 3, .inl (0, 6144, .inl (M.1 1))), (rq 4, .inl (0, 6144, .inl (M.1 2))), (rq 5, .inl (4, 3, .inr (.inr (.inr (.inr (rf3 rq 6 1 3)))))), (rq 6, .inl (0, 21, .inl (M.2.1 0))), (rq 7, .inl (0, 21, .inl (M.2.1 1))), (rq 8, .inl (0, 21, .inl (M.2.1 2))), (rq 9, .inl (4, 2, .inr (.inr (.inr (.inr (rf3 rq 10 1 2)))))), (rq 10, .inl (0, 21, .inl (M.2.2.1 0))), (rq 11, .inl (0, 21, .inl (M.2.2.1 1))), (rq 12, .inl (0, 6, .inl M.2.2.2.1)), (rq 13, .inl (0, 441, .inl M.2.2.2.2.1))]) [0] [1, 2, 3, 4, 5, 6, 7, 8, 9, 10, 11, 12, 13] (ok_X7_walk (m := rq 0) (Mo := rq 1) (Lo := rq 5) (Do := rq 9) (tl := rq 12) (ca := rq 13) h0) rfl rfl rfl rfl (by decide) ?_
  rintro o w hp
  obtain ⟨g, e1, e2⟩ := hp
  subst e1; subst e2
  exact ⟨_, [13, 0, 1, 2, 3, 4, 5, 6, 7, 8, 9, 10, 11, 12], PN.mk g rfl rfl, rfl, rfl⟩
def gM_product (N K : Nat) (M : MS) (p0 : Int32) (p1 : Int32) (p2 : Int32) : Option (Int32 × MS) := (fX7_product N K M.2.2.2.2.2 p0 p1 p2).map (fun z => (z.1, (M.1, M.2.1, M.2.2.1, M.2.2.2.1, M.2.2.2.2.1, z.2)))
set_option maxHeartbeats 4000000 in
set_option maxRecDepth 100000 in
theorem ogM_product {N K : Nat} {rq : Nat → Nat} {M : MS} {p0 : Int32} {p1 : Int32} {p2 : Int32} {x : Int32 × MS} (hE : gM_product N K M p0 p1 p2 = some x) : OkM yX7_product (.code yX7_product cX7_product 4 (some .int)) (2) 1 21 [.ref (rq 0), .int p0, .int p1, .int p2] (WM rq M) ((PN (U := Int32 × MS) (fun z _ => some (.int z.1)) (fun z _ => WM rq z.2)) x) := by
  unfold gM_product at hE
  obtain ⟨x0, h0, h1⟩ := Option.map_eq_some_iff.mp hE
  subst h1
  clear hE
  refine ok_fr (wc := [(rq 0, .inr (9, [.ref (rq 1), .ref (rq 5), .ref (rq 9), .ref (rq 12), .ref (rq 13), .int M.2.2.2.2.2]))]) (wr := [(rq 1, .inl (4, 3, .inr (.inr (.inr (.inr (rf3 rq 2 1 3)))))), (rq 2, .inl (0, 6144, .inl (M.1 0))), (rq 3, .inl (0, 6144, .inl (M.1 1))), (rq 4, .inl (0, 6144, .inl (M.1 2))), (rq 5, .inl (4, 3, .inr (.inr (.inr (.inr (rf3 rq 6 1 3)))))), (rq 6, .inl (0, 21, .inl (M.2.1 0))), (rq 7, .inl (0, 21, .inl (M.2.1 1))), (rq 8, .inl (0, 21, .inl (M.2.1 2))), (rq 9, .inl (4, 2, .inr (.inr (.inr (.inr (rf3 rq 10 1 2)))))), (rq 10, .inl (0, 21, .inl (M.2.2.1 0))), (rq 11, .inl (0, 21, .inl (M.2.2.1 1))), (rq 12, .inl (0, 6, .inl M.2.2.2.1)), (rq 13, .inl (0, 441, .inl M.2.2.2.2.1))]) [0] [1, 2, 3, 4, 5, 6, 7, 8, 9, 10, 11, 12, 13] (ok_X7_product (m := rq 0) (Mo := rq 1) (Lo := rq 5) (Do := rq 9) (tl := rq 12) (ca := rq 13) h0) rfl rfl rfl rfl (by decide) ?_
  rintro o w hp
  obtain ⟨g, e1, e2⟩ := hp
  subst e1; subst e2
  exact ⟨_, [13, 0, 1, 2, 3, 4, 5, 6, 7, 8, 9, 10, 11, 12], PN.mk g rfl rfl, rfl, rfl⟩
def gM_rule (N K : Nat) (M : MS) (p0 : Int32) (p1 : Int32) : Option (Int32 × MS) := (fX7_rule N K M.2.2.2.2.2 (M.2.1 (ix 3 p0)) M.2.2.2.1 M.2.2.2.2.1 p0 p1).map (fun z => (z.1, (M.1, (upm M.2.1 (ix 3 p0) z.2.2.1), M.2.2.1, z.2.2.2.1, z.2.2.2.2, z.2.1)))
set_option maxHeartbeats 4000000 in
set_option maxRecDepth 100000 in
theorem ogM_rule {N K : Nat} {rq : Nat → Nat} {M : MS} {p0 : Int32} {p1 : Int32} {x : Int32 × MS} (hE : gM_rule N K M p0 p1 = some x) : OkM yX7_rule (.code yX7_rule cX7_rule 6 (some .int)) (1) 0 0 [.ref (rq 0), .int p0, .int p1] (WM rq M) ((PN (U := Int32 × MS) (fun z _ => some (.int z.1)) (fun z _ => WM rq z.2)) x) := by
  unfold gM_rule at hE
  obtain ⟨x0, h0, h1⟩ := Option.map_eq_some_iff.mp hE
  subst h1
  clear hE
  rcases lt3 (ix_lt (n := 3) (p := p0) (by decide)) with e | e | e
  · rw [e] at h0
    try rw [e]
    refine ok_fr (wc := [(rq 0, .inr (9, [.ref (rq 1), .ref (rq 5), .ref (rq 9), .ref (rq 12), .ref (rq 13), .int M.2.2.2.2.2])), (rq 5, .inl (4, 3, .inr (.inr (.inr (.inr (rf3 rq 6 1 3)))))), (rq 6, .inl (0, 21, .inl (M.2.1 0))), (rq 12, .inl (0, 6, .inl M.2.2.2.1)), (rq 13, .inl (0, 441, .inl M.2.2.2.2.1))]) (wr := [(rq 1, .inl (4, 3, .inr (.inr (.inr (.inr (rf3 rq 2 1 3)))))), (rq 2, .inl (0, 6144, .inl (M.1 0))), (rq 3, .inl (0, 6144, .inl (M.1 1))), (rq 4, .inl (0, 6144, .inl (M.1 2))), (rq 7, .inl (0, 21, .inl (M.2.1 1))), (rq 8, .inl (0, 21, .inl (M.2.1 2))), (rq 9, .inl (4, 2, .inr (.inr (.inr (.inr (rf3 rq 10 1 2)))))), (rq 10, .inl (0, 21, .inl (M.2.2.1 0))), (rq 11, .inl (0, 21, .inl (M.2.2.1 1)))]) [0, 5, 6, 12, 13] [1, 2, 3, 4, 7, 8, 9, 10, 11] (ok_X7_rule (m := rq 0) (Mo := rq 1) (Lo := rq 5) (Do := rq 9) (tl := rq 12) (ca := rq 13) (h := rq 6) (ll := rf3 rq 6 1 3) (fun h9 => by have h8 := ix_in h9; rw [e] at h8; exact (congrArg (rf3 rq 6 1 3) h8.symm).trans rfl) h0) rfl rfl rfl rfl (by decide) ?_
    rintro o w hp
    obtain ⟨g, e1, e2⟩ := hp
    subst e1; subst e2
    exact ⟨_, [9, 0, 1, 2, 3, 10, 11, 4, 5, 6, 7, 8, 12, 13], PN.mk g rfl rfl, rfl, rfl⟩
  · rw [e] at h0
    try rw [e]
    refine ok_fr (wc := [(rq 0, .inr (9, [.ref (rq 1), .ref (rq 5), .ref (rq 9), .ref (rq 12), .ref (rq 13), .int M.2.2.2.2.2])), (rq 5, .inl (4, 3, .inr (.inr (.inr (.inr (rf3 rq 6 1 3)))))), (rq 7, .inl (0, 21, .inl (M.2.1 1))), (rq 12, .inl (0, 6, .inl M.2.2.2.1)), (rq 13, .inl (0, 441, .inl M.2.2.2.2.1))]) (wr := [(rq 1, .inl (4, 3, .inr (.inr (.inr (.inr (rf3 rq 2 1 3)))))), (rq 2, .inl (0, 6144, .inl (M.1 0))), (rq 3, .inl (0, 6144, .inl (M.1 1))), (rq 4, .inl (0, 6144, .inl (M.1 2))), (rq 6, .inl (0, 21, .inl (M.2.1 0))), (rq 8, .inl (0, 21, .inl (M.2.1 2))), (rq 9, .inl (4, 2, .inr (.inr (.inr (.inr (rf3 rq 10 1 2)))))), (rq 10, .inl (0, 21, .inl (M.2.2.1 0))), (rq 11, .inl (0, 21, .inl (M.2.2.1 1)))]) [0, 5, 7, 12, 13] [1, 2, 3, 4, 6, 8, 9, 10, 11] (ok_X7_rule (m := rq 0) (Mo := rq 1) (Lo := rq 5) (Do := rq 9) (tl := rq 12) (ca := rq 13) (h := rq 7) (ll := rf3 rq 6 1 3) (fun h9 => by have h8 := ix_in h9; rw [e] at h8; exact (congrArg (rf3 rq 6 1 3) h8.symm).trans rfl) h0) rfl rfl rfl rfl (by decide) ?_
    rintro o w hp
    obtain ⟨g, e1, e2⟩ := hp
    subst e1; subst e2
    exact ⟨_, [9, 0, 1, 2, 3, 10, 4, 11, 5, 6, 7, 8, 12, 13], PN.mk g rfl rfl, rfl, rfl⟩
  · rw [e] at h0
    try rw [e]
    refine ok_fr (wc := [(rq 0, .inr (9, [.ref (rq 1), .ref (rq 5), .ref (rq 9), .ref (rq 12), .ref (rq 13), .int M.2.2.2.2.2])), (rq 5, .inl (4, 3, .inr (.inr (.inr (.inr (rf3 rq 6 1 3)))))), (rq 8, .inl (0, 21, .inl (M.2.1 2))), (rq 12, .inl (0, 6, .inl M.2.2.2.1)), (rq 13, .inl (0, 441, .inl M.2.2.2.2.1))]) (wr := [(rq 1, .inl (4, 3, .inr (.inr (.inr (.inr (rf3 rq 2 1 3)))))), (rq 2, .inl (0, 6144, .inl (M.1 0))), (rq 3, .inl (0, 6144, .inl (M.1 1))), (rq 4, .inl (0, 6144, .inl (M.1 2))), (rq 6, .inl (0, 21, .inl (M.2.1 0))), (rq 7, .inl (0, 21, .inl (M.2.1 1))), (rq 9, .inl (4, 2, .inr (.inr (.inr (.inr (rf3 rq 10 1 2)))))), (rq 10, .inl (0, 21, .inl (M.2.2.1 0))), (rq 11, .inl (0, 21, .inl (M.2.2.1 1)))]) [0, 5, 8, 12, 13] [1, 2, 3, 4, 6, 7, 9, 10, 11] (ok_X7_rule (m := rq 0) (Mo := rq 1) (Lo := rq 5) (Do := rq 9) (tl := rq 12) (ca := rq 13) (h := rq 8) (ll := rf3 rq 6 1 3) (fun h9 => by have h8 := ix_in h9; rw [e] at h8; exact (congrArg (rf3 rq 6 1 3) h8.symm).trans rfl) h0) rfl rfl rfl rfl (by decide) ?_
    rintro o w hp
    obtain ⟨g, e1, e2⟩ := hp
    subst e1; subst e2
    exact ⟨_, [9, 0, 1, 2, 3, 10, 4, 5, 11, 6, 7, 8, 12, 13], PN.mk g rfl rfl, rfl, rfl⟩
def gM_forgetRule (N K : Nat) (M : MS) (p0 : Int32) (p1 : Int32) : Option (Int32 × MS) := (fX7_forgetRule N K M.2.2.2.2.2 (M.2.1 (ix 3 p0)) M.2.2.2.1 p0 p1).map (fun z => (z.1, (M.1, (upm M.2.1 (ix 3 p0) z.2.2.1), M.2.2.1, z.2.2.2, M.2.2.2.2.1, z.2.1)))
set_option maxHeartbeats 4000000 in
set_option maxRecDepth 100000 in
theorem ogM_forgetRule {N K : Nat} {rq : Nat → Nat} {M : MS} {p0 : Int32} {p1 : Int32} {x : Int32 × MS} (hE : gM_forgetRule N K M p0 p1 = some x) : OkM yX7_forgetRule (.code yX7_forgetRule cX7_forgetRule 5 (some .int)) (1) 0 0 [.ref (rq 0), .int p0, .int p1] (WM rq M) ((PN (U := Int32 × MS) (fun z _ => some (.int z.1)) (fun z _ => WM rq z.2)) x) := by
  unfold gM_forgetRule at hE
  obtain ⟨x0, h0, h1⟩ := Option.map_eq_some_iff.mp hE
  subst h1
  clear hE
  rcases lt3 (ix_lt (n := 3) (p := p0) (by decide)) with e | e | e
  · rw [e] at h0
    try rw [e]
    refine ok_fr (wc := [(rq 0, .inr (9, [.ref (rq 1), .ref (rq 5), .ref (rq 9), .ref (rq 12), .ref (rq 13), .int M.2.2.2.2.2])), (rq 5, .inl (4, 3, .inr (.inr (.inr (.inr (rf3 rq 6 1 3)))))), (rq 6, .inl (0, 21, .inl (M.2.1 0))), (rq 12, .inl (0, 6, .inl M.2.2.2.1))]) (wr := [(rq 1, .inl (4, 3, .inr (.inr (.inr (.inr (rf3 rq 2 1 3)))))), (rq 2, .inl (0, 6144, .inl (M.1 0))), (rq 3, .inl (0, 6144, .inl (M.1 1))), (rq 4, .inl (0, 6144, .inl (M.1 2))), (rq 7, .inl (0, 21, .inl (M.2.1 1))), (rq 8, .inl (0, 21, .inl (M.2.1 2))), (rq 9, .inl (4, 2, .inr (.inr (.inr (.inr (rf3 rq 10 1 2)))))), (rq 10, .inl (0, 21, .inl (M.2.2.1 0))), (rq 11, .inl (0, 21, .inl (M.2.2.1 1))), (rq 13, .inl (0, 441, .inl M.2.2.2.2.1))]) [0, 5, 6, 12] [1, 2, 3, 4, 7, 8, 9, 10, 11, 13] (ok_X7_forgetRule (m := rq 0) (Mo := rq 1) (Lo := rq 5) (Do := rq 9) (tl := rq 12) (ca := rq 13) (h := rq 6) (ll := rf3 rq 6 1 3) (fun h9 => by have h8 := ix_in h9; rw [e] at h8; exact (congrArg (rf3 rq 6 1 3) h8.symm).trans rfl) h0) rfl rfl rfl rfl (by decide) ?_
    rintro o w hp
    obtain ⟨g, e1, e2⟩ := hp
    subst e1; subst e2
    exact ⟨_, [10, 0, 1, 2, 3, 11, 12, 4, 5, 6, 7, 8, 13, 9], PN.mk g rfl rfl, rfl, rfl⟩
  · rw [e] at h0
    try rw [e]
    refine ok_fr (wc := [(rq 0, .inr (9, [.ref (rq 1), .ref (rq 5), .ref (rq 9), .ref (rq 12), .ref (rq 13), .int M.2.2.2.2.2])), (rq 5, .inl (4, 3, .inr (.inr (.inr (.inr (rf3 rq 6 1 3)))))), (rq 7, .inl (0, 21, .inl (M.2.1 1))), (rq 12, .inl (0, 6, .inl M.2.2.2.1))]) (wr := [(rq 1, .inl (4, 3, .inr (.inr (.inr (.inr (rf3 rq 2 1 3)))))), (rq 2, .inl (0, 6144, .inl (M.1 0))), (rq 3, .inl (0, 6144, .inl (M.1 1))), (rq 4, .inl (0, 6144, .inl (M.1 2))), (rq 6, .inl (0, 21, .inl (M.2.1 0))), (rq 8, .inl (0, 21, .inl (M.2.1 2))), (rq 9, .inl (4, 2, .inr (.inr (.inr (.inr (rf3 rq 10 1 2)))))), (rq 10, .inl (0, 21, .inl (M.2.2.1 0))), (rq 11, .inl (0, 21, .inl (M.2.2.1 1))), (rq 13, .inl (0, 441, .inl M.2.2.2.2.1))]) [0, 5, 7, 12] [1, 2, 3, 4, 6, 8, 9, 10, 11, 13] (ok_X7_forgetRule (m := rq 0) (Mo := rq 1) (Lo := rq 5) (Do := rq 9) (tl := rq 12) (ca := rq 13) (h := rq 7) (ll := rf3 rq 6 1 3) (fun h9 => by have h8 := ix_in h9; rw [e] at h8; exact (congrArg (rf3 rq 6 1 3) h8.symm).trans rfl) h0) rfl rfl rfl rfl (by decide) ?_
    rintro o w hp
    obtain ⟨g, e1, e2⟩ := hp
    subst e1; subst e2
    exact ⟨_, [10, 0, 1, 2, 3, 11, 4, 12, 5, 6, 7, 8, 13, 9], PN.mk g rfl rfl, rfl, rfl⟩
  · rw [e] at h0
    try rw [e]
    refine ok_fr (wc := [(rq 0, .inr (9, [.ref (rq 1), .ref (rq 5), .ref (rq 9), .ref (rq 12), .ref (rq 13), .int M.2.2.2.2.2])), (rq 5, .inl (4, 3, .inr (.inr (.inr (.inr (rf3 rq 6 1 3)))))), (rq 8, .inl (0, 21, .inl (M.2.1 2))), (rq 12, .inl (0, 6, .inl M.2.2.2.1))]) (wr := [(rq 1, .inl (4, 3, .inr (.inr (.inr (.inr (rf3 rq 2 1 3)))))), (rq 2, .inl (0, 6144, .inl (M.1 0))), (rq 3, .inl (0, 6144, .inl (M.1 1))), (rq 4, .inl (0, 6144, .inl (M.1 2))), (rq 6, .inl (0, 21, .inl (M.2.1 0))), (rq 7, .inl (0, 21, .inl (M.2.1 1))), (rq 9, .inl (4, 2, .inr (.inr (.inr (.inr (rf3 rq 10 1 2)))))), (rq 10, .inl (0, 21, .inl (M.2.2.1 0))), (rq 11, .inl (0, 21, .inl (M.2.2.1 1))), (rq 13, .inl (0, 441, .inl M.2.2.2.2.1))]) [0, 5, 8, 12] [1, 2, 3, 4, 6, 7, 9, 10, 11, 13] (ok_X7_forgetRule (m := rq 0) (Mo := rq 1) (Lo := rq 5) (Do := rq 9) (tl := rq 12) (ca := rq 13) (h := rq 8) (ll := rf3 rq 6 1 3) (fun h9 => by have h8 := ix_in h9; rw [e] at h8; exact (congrArg (rf3 rq 6 1 3) h8.symm).trans rfl) h0) rfl rfl rfl rfl (by decide) ?_
    rintro o w hp
    obtain ⟨g, e1, e2⟩ := hp
    subst e1; subst e2
    exact ⟨_, [10, 0, 1, 2, 3, 11, 4, 5, 12, 6, 7, 8, 13, 9], PN.mk g rfl rfl, rfl, rfl⟩
def gM_ledger (N K : Nat) (M : MS) (p0 : Int32) (p1 : Int32) : Option (Int32 × MS) := (fX7_ledger N K M.2.2.2.2.2 (M.2.1 (ix 3 p0)) p0 p1).map (fun z => (z.1, (M.1, M.2.1, M.2.2.1, M.2.2.2.1, M.2.2.2.2.1, z.2)))
set_option maxHeartbeats 4000000 in
set_option maxRecDepth 100000 in
theorem ogM_ledger {N K : Nat} {rq : Nat → Nat} {M : MS} {p0 : Int32} {p1 : Int32} {x : Int32 × MS} (hE : gM_ledger N K M p0 p1 = some x) : OkM yX7_ledger (.code yX7_ledger cX7_ledger 3 (some .int)) (1) 0 0 [.ref (rq 0), .int p0, .int p1] (WM rq M) ((PN (U := Int32 × MS) (fun z _ => some (.int z.1)) (fun z _ => WM rq z.2)) x) := by
  unfold gM_ledger at hE
  obtain ⟨x0, h0, h1⟩ := Option.map_eq_some_iff.mp hE
  subst h1
  clear hE
  rcases lt3 (ix_lt (n := 3) (p := p0) (by decide)) with e | e | e
  · rw [e] at h0
    try rw [e]
    refine ok_fr (wc := [(rq 0, .inr (9, [.ref (rq 1), .ref (rq 5), .ref (rq 9), .ref (rq 12), .ref (rq 13), .int M.2.2.2.2.2])), (rq 5, .inl (4, 3, .inr (.inr (.inr (.inr (rf3 rq 6 1 3)))))), (rq 6, .inl (0, 21, .inl (M.2.1 0)))]) (wr := [(rq 1, .inl (4, 3, .inr (.inr (.inr (.inr (rf3 rq 2 1 3)))))), (rq 2, .inl (0, 6144, .inl (M.1 0))), (rq 3, .inl (0, 6144, .inl (M.1 1))), (rq 4, .inl (0, 6144, .inl (M.1 2))), (rq 7, .inl (0, 21, .inl (M.2.1 1))), (rq 8, .inl (0, 21, .inl (M.2.1 2))), (rq 9, .inl (4, 2, .inr (.inr (.inr (.inr (rf3 rq 10 1 2)))))), (rq 10, .inl (0, 21, .inl (M.2.2.1 0))), (rq 11, .inl (0, 21, .inl (M.2.2.1 1))), (rq 12, .inl (0, 6, .inl M.2.2.2.1)), (rq 13, .inl (0, 441, .inl M.2.2.2.2.1))]) [0, 5, 6] [1, 2, 3, 4, 7, 8, 9, 10, 11, 12, 13] (ok_X7_ledger (m := rq 0) (Mo := rq 1) (Lo := rq 5) (Do := rq 9) (tl := rq 12) (ca := rq 13) (h := rq 6) (ll := rf3 rq 6 1 3) (fun h9 => by have h8 := ix_in h9; rw [e] at h8; exact (congrArg (rf3 rq 6 1 3) h8.symm).trans rfl) h0) rfl rfl rfl rfl (by decide) ?_
    rintro o w hp
    obtain ⟨g, e1, e2⟩ := hp
    subst e1; subst e2
    exact ⟨_, [11, 0, 1, 2, 3, 12, 13, 4, 5, 6, 7, 8, 9, 10], PN.mk g rfl rfl, rfl, rfl⟩
  · rw [e] at h0
    try rw [e]
    refine ok_fr (wc := [(rq 0, .inr (9, [.ref (rq 1), .ref (rq 5), .ref (rq 9), .ref (rq 12), .ref (rq 13), .int M.2.2.2.2.2])), (rq 5, .inl (4, 3, .inr (.inr (.inr (.inr (rf3 rq 6 1 3)))))), (rq 7, .inl (0, 21, .inl (M.2.1 1)))]) (wr := [(rq 1, .inl (4, 3, .inr (.inr (.inr (.inr (rf3 rq 2 1 3)))))), (rq 2, .inl (0, 6144, .inl (M.1 0))), (rq 3, .inl (0, 6144, .inl (M.1 1))), (rq 4, .inl (0, 6144, .inl (M.1 2))), (rq 6, .inl (0, 21, .inl (M.2.1 0))), (rq 8, .inl (0, 21, .inl (M.2.1 2))), (rq 9, .inl (4, 2, .inr (.inr (.inr (.inr (rf3 rq 10 1 2)))))), (rq 10, .inl (0, 21, .inl (M.2.2.1 0))), (rq 11, .inl (0, 21, .inl (M.2.2.1 1))), (rq 12, .inl (0, 6, .inl M.2.2.2.1)), (rq 13, .inl (0, 441, .inl M.2.2.2.2.1))]) [0, 5, 7] [1, 2, 3, 4, 6, 8, 9, 10, 11, 12, 13] (ok_X7_ledger (m := rq 0) (Mo := rq 1) (Lo := rq 5) (Do := rq 9) (tl := rq 12) (ca := rq 13) (h := rq 7) (ll := rf3 rq 6 1 3) (fun h9 => by have h8 := ix_in h9; rw [e] at h8; exact (congrArg (rf3 rq 6 1 3) h8.symm).trans rfl) h0) rfl rfl rfl rfl (by decide) ?_
    rintro o w hp
    obtain ⟨g, e1, e2⟩ := hp
    subst e1; subst e2
    exact ⟨_, [11, 0, 1, 2, 3, 12, 4, 13, 5, 6, 7, 8, 9, 10], PN.mk g rfl rfl, rfl, rfl⟩
  · rw [e] at h0
    try rw [e]
    refine ok_fr (wc := [(rq 0, .inr (9, [.ref (rq 1), .ref (rq 5), .ref (rq 9), .ref (rq 12), .ref (rq 13), .int M.2.2.2.2.2])), (rq 5, .inl (4, 3, .inr (.inr (.inr (.inr (rf3 rq 6 1 3)))))), (rq 8, .inl (0, 21, .inl (M.2.1 2)))]) (wr := [(rq 1, .inl (4, 3, .inr (.inr (.inr (.inr (rf3 rq 2 1 3)))))), (rq 2, .inl (0, 6144, .inl (M.1 0))), (rq 3, .inl (0, 6144, .inl (M.1 1))), (rq 4, .inl (0, 6144, .inl (M.1 2))), (rq 6, .inl (0, 21, .inl (M.2.1 0))), (rq 7, .inl (0, 21, .inl (M.2.1 1))), (rq 9, .inl (4, 2, .inr (.inr (.inr (.inr (rf3 rq 10 1 2)))))), (rq 10, .inl (0, 21, .inl (M.2.2.1 0))), (rq 11, .inl (0, 21, .inl (M.2.2.1 1))), (rq 12, .inl (0, 6, .inl M.2.2.2.1)), (rq 13, .inl (0, 441, .inl M.2.2.2.2.1))]) [0, 5, 8] [1, 2, 3, 4, 6, 7, 9, 10, 11, 12, 13] (ok_X7_ledger (m := rq 0) (Mo := rq 1) (Lo := rq 5) (Do := rq 9) (tl := rq 12) (ca := rq 13) (h := rq 8) (ll := rf3 rq 6 1 3) (fun h9 => by have h8 := ix_in h9; rw [e] at h8; exact (congrArg (rf3 rq 6 1 3) h8.symm).trans rfl) h0) rfl rfl rfl rfl (by decide) ?_
    rintro o w hp
    obtain ⟨g, e1, e2⟩ := hp
    subst e1; subst e2
    exact ⟨_, [11, 0, 1, 2, 3, 12, 4, 5, 13, 6, 7, 8, 9, 10], PN.mk g rfl rfl, rfl, rfl⟩
def gM_ruleWorth (N K : Nat) (M : MS) (p0 : Int32) (p1 : Int32) (p2 : Int32) : Option (Int32 × MS) := (fX7_ruleWorth N K M.2.2.2.2.2 (M.2.1 (ix 3 p0)) p0 p1 p2).map (fun z => (z.1, (M.1, M.2.1, M.2.2.1, M.2.2.2.1, M.2.2.2.2.1, z.2)))
set_option maxHeartbeats 4000000 in
set_option maxRecDepth 100000 in
theorem ogM_ruleWorth {N K : Nat} {rq : Nat → Nat} {M : MS} {p0 : Int32} {p1 : Int32} {p2 : Int32} {x : Int32 × MS} (hE : gM_ruleWorth N K M p0 p1 p2 = some x) : OkM yX7_ruleWorth (.code yX7_ruleWorth cX7_ruleWorth 4 (some .int)) (1) 0 0 [.ref (rq 0), .int p0, .int p1, .int p2] (WM rq M) ((PN (U := Int32 × MS) (fun z _ => some (.int z.1)) (fun z _ => WM rq z.2)) x) := by
  unfold gM_ruleWorth at hE
  obtain ⟨x0, h0, h1⟩ := Option.map_eq_some_iff.mp hE
  subst h1
  clear hE
  rcases lt3 (ix_lt (n := 3) (p := p0) (by decide)) with e | e | e
  · rw [e] at h0
    try rw [e]
    refine ok_fr (wc := [(rq 0, .inr (9, [.ref (rq 1), .ref (rq 5), .ref (rq 9), .ref (rq 12), .ref (rq 13), .int M.2.2.2.2.2])), (rq 5, .inl (4, 3, .inr (.inr (.inr (.inr (rf3 rq 6 1 3)))))), (rq 6, .inl (0, 21, .inl (M.2.1 0)))]) (wr := [(rq 1, .inl (4, 3, .inr (.inr (.inr (.inr (rf3 rq 2 1 3)))))), (rq 2, .inl (0, 6144, .inl (M.1 0))), (rq 3, .inl (0, 6144, .inl (M.1 1))), (rq 4, .inl (0, 6144, .inl (M.1 2))), (rq 7, .inl (0, 21, .inl (M.2.1 1))), (rq 8, .inl (0, 21, .inl (M.2.1 2))), (rq 9, .inl (4, 2, .inr (.inr (.inr (.inr (rf3 rq 10 1 2)))))), (rq 10, .inl (0, 21, .inl (M.2.2.1 0))), (rq 11, .inl (0, 21, .inl (M.2.2.1 1))), (rq 12, .inl (0, 6, .inl M.2.2.2.1)), (rq 13, .inl (0, 441, .inl M.2.2.2.2.1))]) [0, 5, 6] [1, 2, 3, 4, 7, 8, 9, 10, 11, 12, 13] (ok_X7_ruleWorth (m := rq 0) (Mo := rq 1) (Lo := rq 5) (Do := rq 9) (tl := rq 12) (ca := rq 13) (h := rq 6) (ll := rf3 rq 6 1 3) (fun h9 => by have h8 := ix_in h9; rw [e] at h8; exact (congrArg (rf3 rq 6 1 3) h8.symm).trans rfl) h0) rfl rfl rfl rfl (by decide) ?_
    rintro o w hp
    obtain ⟨g, e1, e2⟩ := hp
    subst e1; subst e2
    exact ⟨_, [11, 0, 1, 2, 3, 12, 13, 4, 5, 6, 7, 8, 9, 10], PN.mk g rfl rfl, rfl, rfl⟩
  · rw [e] at h0
    try rw [e]
    refine ok_fr (wc := [(rq 0, .inr (9, [.ref (rq 1), .ref (rq 5), .ref (rq 9), .ref (rq 12), .ref (rq 13), .int M.2.2.2.2.2])), (rq 5, .inl (4, 3, .inr (.inr (.inr (.inr (rf3 rq 6 1 3)))))), (rq 7, .inl (0, 21, .inl (M.2.1 1)))]) (wr := [(rq 1, .inl (4, 3, .inr (.inr (.inr (.inr (rf3 rq 2 1 3)))))), (rq 2, .inl (0, 6144, .inl (M.1 0))), (rq 3, .inl (0, 6144, .inl (M.1 1))), (rq 4, .inl (0, 6144, .inl (M.1 2))), (rq 6, .inl (0, 21, .inl (M.2.1 0))), (rq 8, .inl (0, 21, .inl (M.2.1 2))), (rq 9, .inl (4, 2, .inr (.inr (.inr (.inr (rf3 rq 10 1 2)))))), (rq 10, .inl (0, 21, .inl (M.2.2.1 0))), (rq 11, .inl (0, 21, .inl (M.2.2.1 1))), (rq 12, .inl (0, 6, .inl M.2.2.2.1)), (rq 13, .inl (0, 441, .inl M.2.2.2.2.1))]) [0, 5, 7] [1, 2, 3, 4, 6, 8, 9, 10, 11, 12, 13] (ok_X7_ruleWorth (m := rq 0) (Mo := rq 1) (Lo := rq 5) (Do := rq 9) (tl := rq 12) (ca := rq 13) (h := rq 7) (ll := rf3 rq 6 1 3) (fun h9 => by have h8 := ix_in h9; rw [e] at h8; exact (congrArg (rf3 rq 6 1 3) h8.symm).trans rfl) h0) rfl rfl rfl rfl (by decide) ?_
    rintro o w hp
    obtain ⟨g, e1, e2⟩ := hp
    subst e1; subst e2
    exact ⟨_, [11, 0, 1, 2, 3, 12, 4, 13, 5, 6, 7, 8, 9, 10], PN.mk g rfl rfl, rfl, rfl⟩
  · rw [e] at h0
    try rw [e]
    refine ok_fr (wc := [(rq 0, .inr (9, [.ref (rq 1), .ref (rq 5), .ref (rq 9), .ref (rq 12), .ref (rq 13), .int M.2.2.2.2.2])), (rq 5, .inl (4, 3, .inr (.inr (.inr (.inr (rf3 rq 6 1 3)))))), (rq 8, .inl (0, 21, .inl (M.2.1 2)))]) (wr := [(rq 1, .inl (4, 3, .inr (.inr (.inr (.inr (rf3 rq 2 1 3)))))), (rq 2, .inl (0, 6144, .inl (M.1 0))), (rq 3, .inl (0, 6144, .inl (M.1 1))), (rq 4, .inl (0, 6144, .inl (M.1 2))), (rq 6, .inl (0, 21, .inl (M.2.1 0))), (rq 7, .inl (0, 21, .inl (M.2.1 1))), (rq 9, .inl (4, 2, .inr (.inr (.inr (.inr (rf3 rq 10 1 2)))))), (rq 10, .inl (0, 21, .inl (M.2.2.1 0))), (rq 11, .inl (0, 21, .inl (M.2.2.1 1))), (rq 12, .inl (0, 6, .inl M.2.2.2.1)), (rq 13, .inl (0, 441, .inl M.2.2.2.2.1))]) [0, 5, 8] [1, 2, 3, 4, 6, 7, 9, 10, 11, 12, 13] (ok_X7_ruleWorth (m := rq 0) (Mo := rq 1) (Lo := rq 5) (Do := rq 9) (tl := rq 12) (ca := rq 13) (h := rq 8) (ll := rf3 rq 6 1 3) (fun h9 => by have h8 := ix_in h9; rw [e] at h8; exact (congrArg (rf3 rq 6 1 3) h8.symm).trans rfl) h0) rfl rfl rfl rfl (by decide) ?_
    rintro o w hp
    obtain ⟨g, e1, e2⟩ := hp
    subst e1; subst e2
    exact ⟨_, [11, 0, 1, 2, 3, 12, 4, 5, 13, 6, 7, 8, 9, 10], PN.mk g rfl rfl, rfl, rfl⟩
def gM_addPart (N K : Nat) (M : MS) (p0 : Int32) (p1 : Int32) (p2 : Int32) : Option (Int32 × MS) := (fX7_addPart N K M.2.2.2.2.2 (M.2.2.1 (ix 2 p0)) M.2.2.2.1 p0 p1 p2).map (fun z => (z.1, (M.1, M.2.1, (upm M.2.2.1 (ix 2 p0) z.2.2.1), z.2.2.2, M.2.2.2.2.1, z.2.1)))
set_option maxHeartbeats 4000000 in
set_option maxRecDepth 100000 in
theorem ogM_addPart {N K : Nat} {rq : Nat → Nat} {M : MS} {p0 : Int32} {p1 : Int32} {p2 : Int32} {x : Int32 × MS} (hE : gM_addPart N K M p0 p1 p2 = some x) : OkM yX7_addPart (.code yX7_addPart cX7_addPart 4 (some .int)) (1) 0 0 [.ref (rq 0), .int p0, .int p1, .int p2] (WM rq M) ((PN (U := Int32 × MS) (fun z _ => some (.int z.1)) (fun z _ => WM rq z.2)) x) := by
  unfold gM_addPart at hE
  obtain ⟨x0, h0, h1⟩ := Option.map_eq_some_iff.mp hE
  subst h1
  clear hE
  rcases lt2 (ix_lt (n := 2) (p := p0) (by decide)) with e | e
  · rw [e] at h0
    try rw [e]
    refine ok_fr (wc := [(rq 0, .inr (9, [.ref (rq 1), .ref (rq 5), .ref (rq 9), .ref (rq 12), .ref (rq 13), .int M.2.2.2.2.2])), (rq 9, .inl (4, 2, .inr (.inr (.inr (.inr (rf3 rq 10 1 2)))))), (rq 10, .inl (0, 21, .inl (M.2.2.1 0))), (rq 12, .inl (0, 6, .inl M.2.2.2.1))]) (wr := [(rq 1, .inl (4, 3, .inr (.inr (.inr (.inr (rf3 rq 2 1 3)))))), (rq 2, .inl (0, 6144, .inl (M.1 0))), (rq 3, .inl (0, 6144, .inl (M.1 1))), (rq 4, .inl (0, 6144, .inl (M.1 2))), (rq 5, .inl (4, 3, .inr (.inr (.inr (.inr (rf3 rq 6 1 3)))))), (rq 6, .inl (0, 21, .inl (M.2.1 0))), (rq 7, .inl (0, 21, .inl (M.2.1 1))), (rq 8, .inl (0, 21, .inl (M.2.1 2))), (rq 11, .inl (0, 21, .inl (M.2.2.1 1))), (rq 13, .inl (0, 441, .inl M.2.2.2.2.1))]) [0, 9, 10, 12] [1, 2, 3, 4, 5, 6, 7, 8, 11, 13] (ok_X7_addPart (m := rq 0) (Mo := rq 1) (Lo := rq 5) (Do := rq 9) (tl := rq 12) (ca := rq 13) (w := rq 10) (dd := rf3 rq 10 1 2) (fun h9 => by have h8 := ix_in h9; rw [e] at h8; exact (congrArg (rf3 rq 10 1 2) h8.symm).trans rfl) h0) rfl rfl rfl rfl (by decide) ?_
    rintro o w hp
    obtain ⟨g, e1, e2⟩ := hp
    subst e1; subst e2
    exact ⟨_, [10, 0, 1, 2, 3, 4, 5, 6, 7, 11, 12, 8, 13, 9], PN.mk g rfl rfl, rfl, rfl⟩
  · rw [e] at h0
    try rw [e]
    refine ok_fr (wc := [(rq 0, .inr (9, [.ref (rq 1), .ref (rq 5), .ref (rq 9), .ref (rq 12), .ref (rq 13), .int M.2.2.2.2.2])), (rq 9, .inl (4, 2, .inr (.inr (.inr (.inr (rf3 rq 10 1 2)))))), (rq 11, .inl (0, 21, .inl (M.2.2.1 1))), (rq 12, .inl (0, 6, .inl M.2.2.2.1))]) (wr := [(rq 1, .inl (4, 3, .inr (.inr (.inr (.inr (rf3 rq 2 1 3)))))), (rq 2, .inl (0, 6144, .inl (M.1 0))), (rq 3, .inl (0, 6144, .inl (M.1 1))), (rq 4, .inl (0, 6144, .inl (M.1 2))), (rq 5, .inl (4, 3, .inr (.inr (.inr (.inr (rf3 rq 6 1 3)))))), (rq 6, .inl (0, 21, .inl (M.2.1 0))), (rq 7, .inl (0, 21, .inl (M.2.1 1))), (rq 8, .inl (0, 21, .inl (M.2.1 2))), (rq 10, .inl (0, 21, .inl (M.2.2.1 0))), (rq 13, .inl (0, 441, .inl M.2.2.2.2.1))]) [0, 9, 11, 12] [1, 2, 3, 4, 5, 6, 7, 8, 10, 13] (ok_X7_addPart (m := rq 0) (Mo := rq 1) (Lo := rq 5) (Do := rq 9) (tl := rq 12) (ca := rq 13) (w := rq 11) (dd := rf3 rq 10 1 2) (fun h9 => by have h8 := ix_in h9; rw [e] at h8; exact (congrArg (rf3 rq 10 1 2) h8.symm).trans rfl) h0) rfl rfl rfl rfl (by decide) ?_
    rintro o w hp
    obtain ⟨g, e1, e2⟩ := hp
    subst e1; subst e2
    exact ⟨_, [10, 0, 1, 2, 3, 4, 5, 6, 7, 11, 8, 12, 13, 9], PN.mk g rfl rfl, rfl, rfl⟩
def gM_takePart (N K : Nat) (M : MS) (p0 : Int32) (p1 : Int32) : Option (Int32 × MS) := (fX7_takePart N K M.2.2.2.2.2 (M.2.2.1 (ix 2 p0)) M.2.2.2.1 p0 p1).map (fun z => (z.1, (M.1, M.2.1, (upm M.2.2.1 (ix 2 p0) z.2.2.1), z.2.2.2, M.2.2.2.2.1, z.2.1)))
set_option maxHeartbeats 4000000 in
set_option maxRecDepth 100000 in
theorem ogM_takePart {N K : Nat} {rq : Nat → Nat} {M : MS} {p0 : Int32} {p1 : Int32} {x : Int32 × MS} (hE : gM_takePart N K M p0 p1 = some x) : OkM yX7_takePart (.code yX7_takePart cX7_takePart 3 (some .int)) (1) 0 0 [.ref (rq 0), .int p0, .int p1] (WM rq M) ((PN (U := Int32 × MS) (fun z _ => some (.int z.1)) (fun z _ => WM rq z.2)) x) := by
  unfold gM_takePart at hE
  obtain ⟨x0, h0, h1⟩ := Option.map_eq_some_iff.mp hE
  subst h1
  clear hE
  rcases lt2 (ix_lt (n := 2) (p := p0) (by decide)) with e | e
  · rw [e] at h0
    try rw [e]
    refine ok_fr (wc := [(rq 0, .inr (9, [.ref (rq 1), .ref (rq 5), .ref (rq 9), .ref (rq 12), .ref (rq 13), .int M.2.2.2.2.2])), (rq 9, .inl (4, 2, .inr (.inr (.inr (.inr (rf3 rq 10 1 2)))))), (rq 10, .inl (0, 21, .inl (M.2.2.1 0))), (rq 12, .inl (0, 6, .inl M.2.2.2.1))]) (wr := [(rq 1, .inl (4, 3, .inr (.inr (.inr (.inr (rf3 rq 2 1 3)))))), (rq 2, .inl (0, 6144, .inl (M.1 0))), (rq 3, .inl (0, 6144, .inl (M.1 1))), (rq 4, .inl (0, 6144, .inl (M.1 2))), (rq 5, .inl (4, 3, .inr (.inr (.inr (.inr (rf3 rq 6 1 3)))))), (rq 6, .inl (0, 21, .inl (M.2.1 0))), (rq 7, .inl (0, 21, .inl (M.2.1 1))), (rq 8, .inl (0, 21, .inl (M.2.1 2))), (rq 11, .inl (0, 21, .inl (M.2.2.1 1))), (rq 13, .inl (0, 441, .inl M.2.2.2.2.1))]) [0, 9, 10, 12] [1, 2, 3, 4, 5, 6, 7, 8, 11, 13] (ok_X7_takePart (m := rq 0) (Mo := rq 1) (Lo := rq 5) (Do := rq 9) (tl := rq 12) (ca := rq 13) (w := rq 10) (dd := rf3 rq 10 1 2) (fun h9 => by have h8 := ix_in h9; rw [e] at h8; exact (congrArg (rf3 rq 10 1 2) h8.symm).trans rfl) h0) rfl rfl rfl rfl (by decide) ?_
    rintro o w hp
    obtain ⟨g, e1, e2⟩ := hp
    subst e1; subst e2
    exact ⟨_, [10, 0, 1, 2, 3, 4, 5, 6, 7, 11, 12, 8, 13, 9], PN.mk g rfl rfl, rfl, rfl⟩
  · rw [e] at h0
    try rw [e]
    refine ok_fr (wc := [(rq 0, .inr (9, [.ref (rq 1), .ref (rq 5), .ref (rq 9), .ref (rq 12), .ref (rq 13), .int M.2.2.2.2.2])), (rq 9, .inl (4, 2, .inr (.inr (.inr (.inr (rf3 rq 10 1 2)))))), (rq 11, .inl (0, 21, .inl (M.2.2.1 1))), (rq 12, .inl (0, 6, .inl M.2.2.2.1))]) (wr := [(rq 1, .inl (4, 3, .inr (.inr (.inr (.inr (rf3 rq 2 1 3)))))), (rq 2, .inl (0, 6144, .inl (M.1 0))), (rq 3, .inl (0, 6144, .inl (M.1 1))), (rq 4, .inl (0, 6144, .inl (M.1 2))), (rq 5, .inl (4, 3, .inr (.inr (.inr (.inr (rf3 rq 6 1 3)))))), (rq 6, .inl (0, 21, .inl (M.2.1 0))), (rq 7, .inl (0, 21, .inl (M.2.1 1))), (rq 8, .inl (0, 21, .inl (M.2.1 2))), (rq 10, .inl (0, 21, .inl (M.2.2.1 0))), (rq 13, .inl (0, 441, .inl M.2.2.2.2.1))]) [0, 9, 11, 12] [1, 2, 3, 4, 5, 6, 7, 8, 10, 13] (ok_X7_takePart (m := rq 0) (Mo := rq 1) (Lo := rq 5) (Do := rq 9) (tl := rq 12) (ca := rq 13) (w := rq 11) (dd := rf3 rq 10 1 2) (fun h9 => by have h8 := ix_in h9; rw [e] at h8; exact (congrArg (rf3 rq 10 1 2) h8.symm).trans rfl) h0) rfl rfl rfl rfl (by decide) ?_
    rintro o w hp
    obtain ⟨g, e1, e2⟩ := hp
    subst e1; subst e2
    exact ⟨_, [10, 0, 1, 2, 3, 4, 5, 6, 7, 11, 8, 12, 13, 9], PN.mk g rfl rfl, rfl, rfl⟩
def gM_layFirst (N K : Nat) (M : MS) (p0 : Int32) (p1 : Int32) : Option (Int32 × MS) := (fX7_layFirst N K M.2.2.2.2.2 (M.2.2.1 (ix 2 p0)) M.2.2.2.1 p0 p1).map (fun z => (z.1, (M.1, M.2.1, (upm M.2.2.1 (ix 2 p0) z.2.2.1), z.2.2.2, M.2.2.2.2.1, z.2.1)))
set_option maxHeartbeats 4000000 in
set_option maxRecDepth 100000 in
theorem ogM_layFirst {N K : Nat} {rq : Nat → Nat} {M : MS} {p0 : Int32} {p1 : Int32} {x : Int32 × MS} (hE : gM_layFirst N K M p0 p1 = some x) : OkM yX7_layFirst (.code yX7_layFirst cX7_layFirst 3 (some .int)) (2) 1 21 [.ref (rq 0), .int p0, .int p1] (WM rq M) ((PN (U := Int32 × MS) (fun z _ => some (.int z.1)) (fun z _ => WM rq z.2)) x) := by
  unfold gM_layFirst at hE
  obtain ⟨x0, h0, h1⟩ := Option.map_eq_some_iff.mp hE
  subst h1
  clear hE
  rcases lt2 (ix_lt (n := 2) (p := p0) (by decide)) with e | e
  · rw [e] at h0
    try rw [e]
    refine ok_fr (wc := [(rq 0, .inr (9, [.ref (rq 1), .ref (rq 5), .ref (rq 9), .ref (rq 12), .ref (rq 13), .int M.2.2.2.2.2])), (rq 9, .inl (4, 2, .inr (.inr (.inr (.inr (rf3 rq 10 1 2)))))), (rq 10, .inl (0, 21, .inl (M.2.2.1 0))), (rq 12, .inl (0, 6, .inl M.2.2.2.1))]) (wr := [(rq 1, .inl (4, 3, .inr (.inr (.inr (.inr (rf3 rq 2 1 3)))))), (rq 2, .inl (0, 6144, .inl (M.1 0))), (rq 3, .inl (0, 6144, .inl (M.1 1))), (rq 4, .inl (0, 6144, .inl (M.1 2))), (rq 5, .inl (4, 3, .inr (.inr (.inr (.inr (rf3 rq 6 1 3)))))), (rq 6, .inl (0, 21, .inl (M.2.1 0))), (rq 7, .inl (0, 21, .inl (M.2.1 1))), (rq 8, .inl (0, 21, .inl (M.2.1 2))), (rq 11, .inl (0, 21, .inl (M.2.2.1 1))), (rq 13, .inl (0, 441, .inl M.2.2.2.2.1))]) [0, 9, 10, 12] [1, 2, 3, 4, 5, 6, 7, 8, 11, 13] (ok_X7_layFirst (m := rq 0) (Mo := rq 1) (Lo := rq 5) (Do := rq 9) (tl := rq 12) (ca := rq 13) (w := rq 10) (dd := rf3 rq 10 1 2) (fun h9 => by have h8 := ix_in h9; rw [e] at h8; exact (congrArg (rf3 rq 10 1 2) h8.symm).trans rfl) h0) rfl rfl rfl rfl (by decide) ?_
    rintro o w hp
    obtain ⟨g, e1, e2⟩ := hp
    subst e1; subst e2
    exact ⟨_, [10, 0, 1, 2, 3, 4, 5, 6, 7, 11, 12, 8, 13, 9], PN.mk g rfl rfl, rfl, rfl⟩
  · rw [e] at h0
    try rw [e]
    refine ok_fr (wc := [(rq 0, .inr (9, [.ref (rq 1), .ref (rq 5), .ref (rq 9), .ref (rq 12), .ref (rq 13), .int M.2.2.2.2.2])), (rq 9, .inl (4, 2, .inr (.inr (.inr (.inr (rf3 rq 10 1 2)))))), (rq 11, .inl (0, 21, .inl (M.2.2.1 1))), (rq 12, .inl (0, 6, .inl M.2.2.2.1))]) (wr := [(rq 1, .inl (4, 3, .inr (.inr (.inr (.inr (rf3 rq 2 1 3)))))), (rq 2, .inl (0, 6144, .inl (M.1 0))), (rq 3, .inl (0, 6144, .inl (M.1 1))), (rq 4, .inl (0, 6144, .inl (M.1 2))), (rq 5, .inl (4, 3, .inr (.inr (.inr (.inr (rf3 rq 6 1 3)))))), (rq 6, .inl (0, 21, .inl (M.2.1 0))), (rq 7, .inl (0, 21, .inl (M.2.1 1))), (rq 8, .inl (0, 21, .inl (M.2.1 2))), (rq 10, .inl (0, 21, .inl (M.2.2.1 0))), (rq 13, .inl (0, 441, .inl M.2.2.2.2.1))]) [0, 9, 11, 12] [1, 2, 3, 4, 5, 6, 7, 8, 10, 13] (ok_X7_layFirst (m := rq 0) (Mo := rq 1) (Lo := rq 5) (Do := rq 9) (tl := rq 12) (ca := rq 13) (w := rq 11) (dd := rf3 rq 10 1 2) (fun h9 => by have h8 := ix_in h9; rw [e] at h8; exact (congrArg (rf3 rq 10 1 2) h8.symm).trans rfl) h0) rfl rfl rfl rfl (by decide) ?_
    rintro o w hp
    obtain ⟨g, e1, e2⟩ := hp
    subst e1; subst e2
    exact ⟨_, [10, 0, 1, 2, 3, 4, 5, 6, 7, 11, 8, 12, 13, 9], PN.mk g rfl rfl, rfl, rfl⟩
def gM_next (N K : Nat) (M : MS) (p0 : Int32) : Option (Int32 × MS) := (fX7_next N K M.2.2.2.2.2 (M.2.2.1 (ix 2 p0)) M.2.2.2.1 p0).map (fun z => (z.1, (M.1, M.2.1, (upm M.2.2.1 (ix 2 p0) z.2.2.1), z.2.2.2, M.2.2.2.2.1, z.2.1)))
set_option maxHeartbeats 4000000 in
set_option maxRecDepth 100000 in
theorem ogM_next {N K : Nat} {rq : Nat → Nat} {M : MS} {p0 : Int32} {x : Int32 × MS} (hE : gM_next N K M p0 = some x) : OkM yX7_next (.code yX7_next cX7_next 2 (some .int)) (1) 0 0 [.ref (rq 0), .int p0] (WM rq M) ((PN (U := Int32 × MS) (fun z _ => some (.int z.1)) (fun z _ => WM rq z.2)) x) := by
  unfold gM_next at hE
  obtain ⟨x0, h0, h1⟩ := Option.map_eq_some_iff.mp hE
  subst h1
  clear hE
  rcases lt2 (ix_lt (n := 2) (p := p0) (by decide)) with e | e
  · rw [e] at h0
    try rw [e]
    refine ok_fr (wc := [(rq 0, .inr (9, [.ref (rq 1), .ref (rq 5), .ref (rq 9), .ref (rq 12), .ref (rq 13), .int M.2.2.2.2.2])), (rq 9, .inl (4, 2, .inr (.inr (.inr (.inr (rf3 rq 10 1 2)))))), (rq 10, .inl (0, 21, .inl (M.2.2.1 0))), (rq 12, .inl (0, 6, .inl M.2.2.2.1))]) (wr := [(rq 1, .inl (4, 3, .inr (.inr (.inr (.inr (rf3 rq 2 1 3)))))), (rq 2, .inl (0, 6144, .inl (M.1 0))), (rq 3, .inl (0, 6144, .inl (M.1 1))), (rq 4, .inl (0, 6144, .inl (M.1 2))), (rq 5, .inl (4, 3, .inr (.inr (.inr (.inr (rf3 rq 6 1 3)))))), (rq 6, .inl (0, 21, .inl (M.2.1 0))), (rq 7, .inl (0, 21, .inl (M.2.1 1))), (rq 8, .inl (0, 21, .inl (M.2.1 2))), (rq 11, .inl (0, 21, .inl (M.2.2.1 1))), (rq 13, .inl (0, 441, .inl M.2.2.2.2.1))]) [0, 9, 10, 12] [1, 2, 3, 4, 5, 6, 7, 8, 11, 13] (ok_X7_next (m := rq 0) (Mo := rq 1) (Lo := rq 5) (Do := rq 9) (tl := rq 12) (ca := rq 13) (w := rq 10) (dd := rf3 rq 10 1 2) (fun h9 => by have h8 := ix_in h9; rw [e] at h8; exact (congrArg (rf3 rq 10 1 2) h8.symm).trans rfl) h0) rfl rfl rfl rfl (by decide) ?_
    rintro o w hp
    obtain ⟨g, e1, e2⟩ := hp
    subst e1; subst e2
    exact ⟨_, [10, 0, 1, 2, 3, 4, 5, 6, 7, 11, 12, 8, 13, 9], PN.mk g rfl rfl, rfl, rfl⟩
  · rw [e] at h0
    try rw [e]
    refine ok_fr (wc := [(rq 0, .inr (9, [.ref (rq 1), .ref (rq 5), .ref (rq 9), .ref (rq 12), .ref (rq 13), .int M.2.2.2.2.2])), (rq 9, .inl (4, 2, .inr (.inr (.inr (.inr (rf3 rq 10 1 2)))))), (rq 11, .inl (0, 21, .inl (M.2.2.1 1))), (rq 12, .inl (0, 6, .inl M.2.2.2.1))]) (wr := [(rq 1, .inl (4, 3, .inr (.inr (.inr (.inr (rf3 rq 2 1 3)))))), (rq 2, .inl (0, 6144, .inl (M.1 0))), (rq 3, .inl (0, 6144, .inl (M.1 1))), (rq 4, .inl (0, 6144, .inl (M.1 2))), (rq 5, .inl (4, 3, .inr (.inr (.inr (.inr (rf3 rq 6 1 3)))))), (rq 6, .inl (0, 21, .inl (M.2.1 0))), (rq 7, .inl (0, 21, .inl (M.2.1 1))), (rq 8, .inl (0, 21, .inl (M.2.1 2))), (rq 10, .inl (0, 21, .inl (M.2.2.1 0))), (rq 13, .inl (0, 441, .inl M.2.2.2.2.1))]) [0, 9, 11, 12] [1, 2, 3, 4, 5, 6, 7, 8, 10, 13] (ok_X7_next (m := rq 0) (Mo := rq 1) (Lo := rq 5) (Do := rq 9) (tl := rq 12) (ca := rq 13) (w := rq 11) (dd := rf3 rq 10 1 2) (fun h9 => by have h8 := ix_in h9; rw [e] at h8; exact (congrArg (rf3 rq 10 1 2) h8.symm).trans rfl) h0) rfl rfl rfl rfl (by decide) ?_
    rintro o w hp
    obtain ⟨g, e1, e2⟩ := hp
    subst e1; subst e2
    exact ⟨_, [10, 0, 1, 2, 3, 4, 5, 6, 7, 11, 8, 12, 13, 9], PN.mk g rfl rfl, rfl, rfl⟩
def gM_turn (N K : Nat) (M : MS) (p0 : Int32) : Option (Int32 × MS) := (fX7_turn N K M.2.2.2.2.2 (M.2.2.1 (ix 2 p0)) M.2.2.2.1 p0).map (fun z => (z.1, (M.1, M.2.1, (upm M.2.2.1 (ix 2 p0) z.2.2.1), z.2.2.2, M.2.2.2.2.1, z.2.1)))
set_option maxHeartbeats 4000000 in
set_option maxRecDepth 100000 in
theorem ogM_turn {N K : Nat} {rq : Nat → Nat} {M : MS} {p0 : Int32} {x : Int32 × MS} (hE : gM_turn N K M p0 = some x) : OkM yX7_turn (.code yX7_turn cX7_turn 4 (some .int)) (2) 1 21 [.ref (rq 0), .int p0] (WM rq M) ((PN (U := Int32 × MS) (fun z _ => some (.int z.1)) (fun z _ => WM rq z.2)) x) := by
  unfold gM_turn at hE
  obtain ⟨x0, h0, h1⟩ := Option.map_eq_some_iff.mp hE
  subst h1
  clear hE
  rcases lt2 (ix_lt (n := 2) (p := p0) (by decide)) with e | e
  · rw [e] at h0
    try rw [e]
    refine ok_fr (wc := [(rq 0, .inr (9, [.ref (rq 1), .ref (rq 5), .ref (rq 9), .ref (rq 12), .ref (rq 13), .int M.2.2.2.2.2])), (rq 9, .inl (4, 2, .inr (.inr (.inr (.inr (rf3 rq 10 1 2)))))), (rq 10, .inl (0, 21, .inl (M.2.2.1 0))), (rq 12, .inl (0, 6, .inl M.2.2.2.1))]) (wr := [(rq 1, .inl (4, 3, .inr (.inr (.inr (.inr (rf3 rq 2 1 3)))))), (rq 2, .inl (0, 6144, .inl (M.1 0))), (rq 3, .inl (0, 6144, .inl (M.1 1))), (rq 4, .inl (0, 6144, .inl (M.1 2))), (rq 5, .inl (4, 3, .inr (.inr (.inr (.inr (rf3 rq 6 1 3)))))), (rq 6, .inl (0, 21, .inl (M.2.1 0))), (rq 7, .inl (0, 21, .inl (M.2.1 1))), (rq 8, .inl (0, 21, .inl (M.2.1 2))), (rq 11, .inl (0, 21, .inl (M.2.2.1 1))), (rq 13, .inl (0, 441, .inl M.2.2.2.2.1))]) [0, 9, 10, 12] [1, 2, 3, 4, 5, 6, 7, 8, 11, 13] (ok_X7_turn (m := rq 0) (Mo := rq 1) (Lo := rq 5) (Do := rq 9) (tl := rq 12) (ca := rq 13) (w := rq 10) (dd := rf3 rq 10 1 2) (fun h9 => by have h8 := ix_in h9; rw [e] at h8; exact (congrArg (rf3 rq 10 1 2) h8.symm).trans rfl) h0) rfl rfl rfl rfl (by decide) ?_
    rintro o w hp
    obtain ⟨g, e1, e2⟩ := hp
    subst e1; subst e2
    exact ⟨_, [10, 0, 1, 2, 3, 4, 5, 6, 7, 11, 12, 8, 13, 9], PN.mk g rfl rfl, rfl, rfl⟩
  · rw [e] at h0
    try rw [e]
    refine ok_fr (wc := [(rq 0, .inr (9, [.ref (rq 1), .ref (rq 5), .ref (rq 9), .ref (rq 12), .ref (rq 13), .int M.2.2.2.2.2])), (rq 9, .inl (4, 2, .inr (.inr (.inr (.inr (rf3 rq 10 1 2)))))), (rq 11, .inl (0, 21, .inl (M.2.2.1 1))), (rq 12, .inl (0, 6, .inl M.2.2.2.1))]) (wr := [(rq 1, .inl (4, 3, .inr (.inr (.inr (.inr (rf3 rq 2 1 3)))))), (rq 2, .inl (0, 6144, .inl (M.1 0))), (rq 3, .inl (0, 6144, .inl (M.1 1))), (rq 4, .inl (0, 6144, .inl (M.1 2))), (rq 5, .inl (4, 3, .inr (.inr (.inr (.inr (rf3 rq 6 1 3)))))), (rq 6, .inl (0, 21, .inl (M.2.1 0))), (rq 7, .inl (0, 21, .inl (M.2.1 1))), (rq 8, .inl (0, 21, .inl (M.2.1 2))), (rq 10, .inl (0, 21, .inl (M.2.2.1 0))), (rq 13, .inl (0, 441, .inl M.2.2.2.2.1))]) [0, 9, 11, 12] [1, 2, 3, 4, 5, 6, 7, 8, 10, 13] (ok_X7_turn (m := rq 0) (Mo := rq 1) (Lo := rq 5) (Do := rq 9) (tl := rq 12) (ca := rq 13) (w := rq 11) (dd := rf3 rq 10 1 2) (fun h9 => by have h8 := ix_in h9; rw [e] at h8; exact (congrArg (rf3 rq 10 1 2) h8.symm).trans rfl) h0) rfl rfl rfl rfl (by decide) ?_
    rintro o w hp
    obtain ⟨g, e1, e2⟩ := hp
    subst e1; subst e2
    exact ⟨_, [10, 0, 1, 2, 3, 4, 5, 6, 7, 11, 8, 12, 13, 9], PN.mk g rfl rfl, rfl, rfl⟩
def gM_toUnlike (N K : Nat) (M : MS) (p0 : Int32) : Option (Int32 × MS) := (fX7_toUnlike N K M.2.2.2.2.2 (M.2.2.1 (ix 2 p0)) M.2.2.2.1 p0).map (fun z => (z.1, (M.1, M.2.1, (upm M.2.2.1 (ix 2 p0) z.2.2.1), z.2.2.2, M.2.2.2.2.1, z.2.1)))
set_option maxHeartbeats 4000000 in
set_option maxRecDepth 100000 in
theorem ogM_toUnlike {N K : Nat} {rq : Nat → Nat} {M : MS} {p0 : Int32} {x : Int32 × MS} (hE : gM_toUnlike N K M p0 = some x) : OkM yX7_toUnlike (.code yX7_toUnlike cX7_toUnlike 5 (some .int)) (2) 1 21 [.ref (rq 0), .int p0] (WM rq M) ((PN (U := Int32 × MS) (fun z _ => some (.int z.1)) (fun z _ => WM rq z.2)) x) := by
  unfold gM_toUnlike at hE
  obtain ⟨x0, h0, h1⟩ := Option.map_eq_some_iff.mp hE
  subst h1
  clear hE
  rcases lt2 (ix_lt (n := 2) (p := p0) (by decide)) with e | e
  · rw [e] at h0
    try rw [e]
    refine ok_fr (wc := [(rq 0, .inr (9, [.ref (rq 1), .ref (rq 5), .ref (rq 9), .ref (rq 12), .ref (rq 13), .int M.2.2.2.2.2])), (rq 9, .inl (4, 2, .inr (.inr (.inr (.inr (rf3 rq 10 1 2)))))), (rq 10, .inl (0, 21, .inl (M.2.2.1 0))), (rq 12, .inl (0, 6, .inl M.2.2.2.1))]) (wr := [(rq 1, .inl (4, 3, .inr (.inr (.inr (.inr (rf3 rq 2 1 3)))))), (rq 2, .inl (0, 6144, .inl (M.1 0))), (rq 3, .inl (0, 6144, .inl (M.1 1))), (rq 4, .inl (0, 6144, .inl (M.1 2))), (rq 5, .inl (4, 3, .inr (.inr (.inr (.inr (rf3 rq 6 1 3)))))), (rq 6, .inl (0, 21, .inl (M.2.1 0))), (rq 7, .inl (0, 21, .inl (M.2.1 1))), (rq 8, .inl (0, 21, .inl (M.2.1 2))), (rq 11, .inl (0, 21, .inl (M.2.2.1 1))), (rq 13, .inl (0, 441, .inl M.2.2.2.2.1))]) [0, 9, 10, 12] [1, 2, 3, 4, 5, 6, 7, 8, 11, 13] (ok_X7_toUnlike (m := rq 0) (Mo := rq 1) (Lo := rq 5) (Do := rq 9) (tl := rq 12) (ca := rq 13) (w := rq 10) (dd := rf3 rq 10 1 2) (fun h9 => by have h8 := ix_in h9; rw [e] at h8; exact (congrArg (rf3 rq 10 1 2) h8.symm).trans rfl) h0) rfl rfl rfl rfl (by decide) ?_
    rintro o w hp
    obtain ⟨g, e1, e2⟩ := hp
    subst e1; subst e2
    exact ⟨_, [10, 0, 1, 2, 3, 4, 5, 6, 7, 11, 12, 8, 13, 9], PN.mk g rfl rfl, rfl, rfl⟩
  · rw [e] at h0
    try rw [e]
    refine ok_fr (wc := [(rq 0, .inr (9, [.ref (rq 1), .ref (rq 5), .ref (rq 9), .ref (rq 12), .ref (rq 13), .int M.2.2.2.2.2])), (rq 9, .inl (4, 2, .inr (.inr (.inr (.inr (rf3 rq 10 1 2)))))), (rq 11, .inl (0, 21, .inl (M.2.2.1 1))), (rq 12, .inl (0, 6, .inl M.2.2.2.1))]) (wr := [(rq 1, .inl (4, 3, .inr (.inr (.inr (.inr (rf3 rq 2 1 3)))))), (rq 2, .inl (0, 6144, .inl (M.1 0))), (rq 3, .inl (0, 6144, .inl (M.1 1))), (rq 4, .inl (0, 6144, .inl (M.1 2))), (rq 5, .inl (4, 3, .inr (.inr (.inr (.inr (rf3 rq 6 1 3)))))), (rq 6, .inl (0, 21, .inl (M.2.1 0))), (rq 7, .inl (0, 21, .inl (M.2.1 1))), (rq 8, .inl (0, 21, .inl (M.2.1 2))), (rq 10, .inl (0, 21, .inl (M.2.2.1 0))), (rq 13, .inl (0, 441, .inl M.2.2.2.2.1))]) [0, 9, 11, 12] [1, 2, 3, 4, 5, 6, 7, 8, 10, 13] (ok_X7_toUnlike (m := rq 0) (Mo := rq 1) (Lo := rq 5) (Do := rq 9) (tl := rq 12) (ca := rq 13) (w := rq 11) (dd := rf3 rq 10 1 2) (fun h9 => by have h8 := ix_in h9; rw [e] at h8; exact (congrArg (rf3 rq 10 1 2) h8.symm).trans rfl) h0) rfl rfl rfl rfl (by decide) ?_
    rintro o w hp
    obtain ⟨g, e1, e2⟩ := hp
    subst e1; subst e2
    exact ⟨_, [10, 0, 1, 2, 3, 4, 5, 6, 7, 11, 8, 12, 13, 9], PN.mk g rfl rfl, rfl, rfl⟩
def gM_toOdd (N K : Nat) (M : MS) (p0 : Int32) : Option (Int32 × MS) := (fX7_toOdd N K M.2.2.2.2.2 (M.2.2.1 (ix 2 p0)) M.2.2.2.1 p0).map (fun z => (z.1, (M.1, M.2.1, (upm M.2.2.1 (ix 2 p0) z.2.2.1), z.2.2.2, M.2.2.2.2.1, z.2.1)))
set_option maxHeartbeats 4000000 in
set_option maxRecDepth 100000 in
theorem ogM_toOdd {N K : Nat} {rq : Nat → Nat} {M : MS} {p0 : Int32} {x : Int32 × MS} (hE : gM_toOdd N K M p0 = some x) : OkM yX7_toOdd (.code yX7_toOdd cX7_toOdd 5 (some .int)) (3) 1 21 [.ref (rq 0), .int p0] (WM rq M) ((PN (U := Int32 × MS) (fun z _ => some (.int z.1)) (fun z _ => WM rq z.2)) x) := by
  unfold gM_toOdd at hE
  obtain ⟨x0, h0, h1⟩ := Option.map_eq_some_iff.mp hE
  subst h1
  clear hE
  rcases lt2 (ix_lt (n := 2) (p := p0) (by decide)) with e | e
  · rw [e] at h0
    try rw [e]
    refine ok_fr (wc := [(rq 0, .inr (9, [.ref (rq 1), .ref (rq 5), .ref (rq 9), .ref (rq 12), .ref (rq 13), .int M.2.2.2.2.2])), (rq 9, .inl (4, 2, .inr (.inr (.inr (.inr (rf3 rq 10 1 2)))))), (rq 10, .inl (0, 21, .inl (M.2.2.1 0))), (rq 12, .inl (0, 6, .inl M.2.2.2.1))]) (wr := [(rq 1, .inl (4, 3, .inr (.inr (.inr (.inr (rf3 rq 2 1 3)))))), (rq 2, .inl (0, 6144, .inl (M.1 0))), (rq 3, .inl (0, 6144, .inl (M.1 1))), (rq 4, .inl (0, 6144, .inl (M.1 2))), (rq 5, .inl (4, 3, .inr (.inr (.inr (.inr (rf3 rq 6 1 3)))))), (rq 6, .inl (0, 21, .inl (M.2.1 0))), (rq 7, .inl (0, 21, .inl (M.2.1 1))), (rq 8, .inl (0, 21, .inl (M.2.1 2))), (rq 11, .inl (0, 21, .inl (M.2.2.1 1))), (rq 13, .inl (0, 441, .inl M.2.2.2.2.1))]) [0, 9, 10, 12] [1, 2, 3, 4, 5, 6, 7, 8, 11, 13] (ok_X7_toOdd (m := rq 0) (Mo := rq 1) (Lo := rq 5) (Do := rq 9) (tl := rq 12) (ca := rq 13) (w := rq 10) (dd := rf3 rq 10 1 2) (fun h9 => by have h8 := ix_in h9; rw [e] at h8; exact (congrArg (rf3 rq 10 1 2) h8.symm).trans rfl) h0) rfl rfl rfl rfl (by decide) ?_
    rintro o w hp
    obtain ⟨g, e1, e2⟩ := hp
    subst e1; subst e2
    exact ⟨_, [10, 0, 1, 2, 3, 4, 5, 6, 7, 11, 12, 8, 13, 9], PN.mk g rfl rfl, rfl, rfl⟩
  · rw [e] at h0
    try rw [e]
    refine ok_fr (wc := [(rq 0, .inr (9, [.ref (rq 1), .ref (rq 5), .ref (rq 9), .ref (rq 12), .ref (rq 13), .int M.2.2.2.2.2])), (rq 9, .inl (4, 2, .inr (.inr (.inr (.inr (rf3 rq 10 1 2)))))), (rq 11, .inl (0, 21, .inl (M.2.2.1 1))), (rq 12, .inl (0, 6, .inl M.2.2.2.1))]) (wr := [(rq 1, .inl (4, 3, .inr (.inr (.inr (.inr (rf3 rq 2 1 3)))))), (rq 2, .inl (0, 6144, .inl (M.1 0))), (rq 3, .inl (0, 6144, .inl (M.1 1))), (rq 4, .inl (0, 6144, .inl (M.1 2))), (rq 5, .inl (4, 3, .inr (.inr (.inr (.inr (rf3 rq 6 1 3)))))), (rq 6, .inl (0, 21, .inl (M.2.1 0))), (rq 7, .inl (0, 21, .inl (M.2.1 1))), (rq 8, .inl (0, 21, .inl (M.2.1 2))), (rq 10, .inl (0, 21, .inl (M.2.2.1 0))), (rq 13, .inl (0, 441, .inl M.2.2.2.2.1))]) [0, 9, 11, 12] [1, 2, 3, 4, 5, 6, 7, 8, 10, 13] (ok_X7_toOdd (m := rq 0) (Mo := rq 1) (Lo := rq 5) (Do := rq 9) (tl := rq 12) (ca := rq 13) (w := rq 11) (dd := rf3 rq 10 1 2) (fun h9 => by have h8 := ix_in h9; rw [e] at h8; exact (congrArg (rf3 rq 10 1 2) h8.symm).trans rfl) h0) rfl rfl rfl rfl (by decide) ?_
    rintro o w hp
    obtain ⟨g, e1, e2⟩ := hp
    subst e1; subst e2
    exact ⟨_, [10, 0, 1, 2, 3, 4, 5, 6, 7, 11, 8, 12, 13, 9], PN.mk g rfl rfl, rfl, rfl⟩
def gM_copyDesk (N K : Nat) (M : MS) (p0 : Int32) : Option (Int32 × MS) := (fX7_copyDesk N K M.2.2.2.2.2 (M.2.2.1 (ix 2 p0)) (M.2.2.1 (1 - ix 2 p0)) M.2.2.2.1 p0).map (fun z => (z.1, (M.1, M.2.1, (upm M.2.2.1 (1 - ix 2 p0) z.2.2.1), z.2.2.2, M.2.2.2.2.1, z.2.1)))
set_option maxHeartbeats 4000000 in
set_option maxRecDepth 100000 in
theorem ogM_copyDesk {N K : Nat} {rq : Nat → Nat} {M : MS} {p0 : Int32} {x : Int32 × MS} (hE : gM_copyDesk N K M p0 = some x) : OkM yX7_copyDesk (.code yX7_copyDesk cX7_copyDesk 2 (some .int)) (2) 0 0 [.ref (rq 0), .int p0] (WM rq M) ((PN (U := Int32 × MS) (fun z _ => some (.int z.1)) (fun z _ => WM rq z.2)) x) := by
  unfold gM_copyDesk at hE
  obtain ⟨x0, h0, h1⟩ := Option.map_eq_some_iff.mp hE
  subst h1
  clear hE
  rcases lt2 (ix_lt (n := 2) (p := p0) (by decide)) with e | e
  · rw [e] at h0
    try rw [e]
    refine ok_fr (wc := [(rq 0, .inr (9, [.ref (rq 1), .ref (rq 5), .ref (rq 9), .ref (rq 12), .ref (rq 13), .int M.2.2.2.2.2])), (rq 9, .inl (4, 2, .inr (.inr (.inr (.inr (rf3 rq 10 1 2)))))), (rq 10, .inl (0, 21, .inl (M.2.2.1 0))), (rq 11, .inl (0, 21, .inl (M.2.2.1 1))), (rq 12, .inl (0, 6, .inl M.2.2.2.1))]) (wr := [(rq 1, .inl (4, 3, .inr (.inr (.inr (.inr (rf3 rq 2 1 3)))))), (rq 2, .inl (0, 6144, .inl (M.1 0))), (rq 3, .inl (0, 6144, .inl (M.1 1))), (rq 4, .inl (0, 6144, .inl (M.1 2))), (rq 5, .inl (4, 3, .inr (.inr (.inr (.inr (rf3 rq 6 1 3)))))), (rq 6, .inl (0, 21, .inl (M.2.1 0))), (rq 7, .inl (0, 21, .inl (M.2.1 1))), (rq 8, .inl (0, 21, .inl (M.2.1 2))), (rq 13, .inl (0, 441, .inl M.2.2.2.2.1))]) [0, 9, 10, 11, 12] [1, 2, 3, 4, 5, 6, 7, 8, 13] (ok_X7_copyDesk (m := rq 0) (Mo := rq 1) (Lo := rq 5) (Do := rq 9) (tl := rq 12) (ca := rq 13) (w := rq 10) (v := rq 11) (dd := rf3 rq 10 1 2) (fun h9 => by have h8 := ix_in h9; rw [e] at h8; exact (congrArg (rf3 rq 10 1 2) h8.symm).trans rfl) (fun h9 => by have h8 := ix_other h9; rw [e] at h8; exact (congrArg (rf3 rq 10 1 2) h8).trans rfl) h0) rfl rfl rfl rfl (by decide) ?_
    rintro o w hp
    obtain ⟨g, e1, e2⟩ := hp
    subst e1; subst e2
    exact ⟨_, [9, 0, 1, 2, 3, 4, 5, 6, 7, 10, 11, 12, 13, 8], PN.mk g rfl rfl, rfl, rfl⟩
  · rw [e] at h0
    try rw [e]
    refine ok_fr (wc := [(rq 0, .inr (9, [.ref (rq 1), .ref (rq 5), .ref (rq 9), .ref (rq 12), .ref (rq 13), .int M.2.2.2.2.2])), (rq 9, .inl (4, 2, .inr (.inr (.inr (.inr (rf3 rq 10 1 2)))))), (rq 11, .inl (0, 21, .inl (M.2.2.1 1))), (rq 10, .inl (0, 21, .inl (M.2.2.1 0))), (rq 12, .inl (0, 6, .inl M.2.2.2.1))]) (wr := [(rq 1, .inl (4, 3, .inr (.inr (.inr (.inr (rf3 rq 2 1 3)))))), (rq 2, .inl (0, 6144, .inl (M.1 0))), (rq 3, .inl (0, 6144, .inl (M.1 1))), (rq 4, .inl (0, 6144, .inl (M.1 2))), (rq 5, .inl (4, 3, .inr (.inr (.inr (.inr (rf3 rq 6 1 3)))))), (rq 6, .inl (0, 21, .inl (M.2.1 0))), (rq 7, .inl (0, 21, .inl (M.2.1 1))), (rq 8, .inl (0, 21, .inl (M.2.1 2))), (rq 13, .inl (0, 441, .inl M.2.2.2.2.1))]) [0, 9, 11, 10, 12] [1, 2, 3, 4, 5, 6, 7, 8, 13] (ok_X7_copyDesk (m := rq 0) (Mo := rq 1) (Lo := rq 5) (Do := rq 9) (tl := rq 12) (ca := rq 13) (w := rq 11) (v := rq 10) (dd := rf3 rq 10 1 2) (fun h9 => by have h8 := ix_in h9; rw [e] at h8; exact (congrArg (rf3 rq 10 1 2) h8.symm).trans rfl) (fun h9 => by have h8 := ix_other h9; rw [e] at h8; exact (congrArg (rf3 rq 10 1 2) h8).trans rfl) h0) rfl rfl rfl rfl (by decide) ?_
    rintro o w hp
    obtain ⟨g, e1, e2⟩ := hp
    subst e1; subst e2
    exact ⟨_, [9, 0, 1, 2, 3, 4, 5, 6, 7, 10, 12, 11, 13, 8], PN.mk g rfl rfl, rfl, rfl⟩
def gM_times (N K : Nat) (M : MS) (p0 : Int32) (p1 : Int32) : Option (Int32 × MS) := (fX7_times N K M.2.2.2.2.2 (M.2.2.1 (ix 2 p0)) p0 p1).map (fun z => (z.1, (M.1, M.2.1, M.2.2.1, M.2.2.2.1, M.2.2.2.2.1, z.2)))
set_option maxHeartbeats 4000000 in
set_option maxRecDepth 100000 in
theorem ogM_times {N K : Nat} {rq : Nat → Nat} {M : MS} {p0 : Int32} {p1 : Int32} {x : Int32 × MS} (hE : gM_times N K M p0 p1 = some x) : OkM yX7_times (.code yX7_times cX7_times 3 (some .int)) (1) 0 0 [.ref (rq 0), .int p0, .int p1] (WM rq M) ((PN (U := Int32 × MS) (fun z _ => some (.int z.1)) (fun z _ => WM rq z.2)) x) := by
  unfold gM_times at hE
  obtain ⟨x0, h0, h1⟩ := Option.map_eq_some_iff.mp hE
  subst h1
  clear hE
  rcases lt2 (ix_lt (n := 2) (p := p0) (by decide)) with e | e
  · rw [e] at h0
    try rw [e]
    refine ok_fr (wc := [(rq 0, .inr (9, [.ref (rq 1), .ref (rq 5), .ref (rq 9), .ref (rq 12), .ref (rq 13), .int M.2.2.2.2.2])), (rq 9, .inl (4, 2, .inr (.inr (.inr (.inr (rf3 rq 10 1 2)))))), (rq 10, .inl (0, 21, .inl (M.2.2.1 0)))]) (wr := [(rq 1, .inl (4, 3, .inr (.inr (.inr (.inr (rf3 rq 2 1 3)))))), (rq 2, .inl (0, 6144, .inl (M.1 0))), (rq 3, .inl (0, 6144, .inl (M.1 1))), (rq 4, .inl (0, 6144, .inl (M.1 2))), (rq 5, .inl (4, 3, .inr (.inr (.inr (.inr (rf3 rq 6 1 3)))))), (rq 6, .inl (0, 21, .inl (M.2.1 0))), (rq 7, .inl (0, 21, .inl (M.2.1 1))), (rq 8, .inl (0, 21, .inl (M.2.1 2))), (rq 11, .inl (0, 21, .inl (M.2.2.1 1))), (rq 12, .inl (0, 6, .inl M.2.2.2.1)), (rq 13, .inl (0, 441, .inl M.2.2.2.2.1))]) [0, 9, 10] [1, 2, 3, 4, 5, 6, 7, 8, 11, 12, 13] (ok_X7_times (m := rq 0) (Mo := rq 1) (Lo := rq 5) (Do := rq 9) (tl := rq 12) (ca := rq 13) (w := rq 10) (dd := rf3 rq 10 1 2) (fun h9 => by have h8 := ix_in h9; rw [e] at h8; exact (congrArg (rf3 rq 10 1 2) h8.symm).trans rfl) h0) rfl rfl rfl rfl (by decide) ?_
    rintro o w hp
    obtain ⟨g, e1, e2⟩ := hp
    subst e1; subst e2
    exact ⟨_, [11, 0, 1, 2, 3, 4, 5, 6, 7, 12, 13, 8, 9, 10], PN.mk g rfl rfl, rfl, rfl⟩
  · rw [e] at h0
    try rw [e]
    refine ok_fr (wc := [(rq 0, .inr (9, [.ref (rq 1), .ref (rq 5), .ref (rq 9), .ref (rq 12), .ref (rq 13), .int M.2.2.2.2.2])), (rq 9, .inl (4, 2, .inr (.inr (.inr (.inr (rf3 rq 10 1 2)))))), (rq 11, .inl (0, 21, .inl (M.2.2.1 1)))]) (wr := [(rq 1, .inl (4, 3, .inr (.inr (.inr (.inr (rf3 rq 2 1 3)))))), (rq 2, .inl (0, 6144, .inl (M.1 0))), (rq 3, .inl (0, 6144, .inl (M.1 1))), (rq 4, .inl (0, 6144, .inl (M.1 2))), (rq 5, .inl (4, 3, .inr (.inr (.inr (.inr (rf3 rq 6 1 3)))))), (rq 6, .inl (0, 21, .inl (M.2.1 0))), (rq 7, .inl (0, 21, .inl (M.2.1 1))), (rq 8, .inl (0, 21, .inl (M.2.1 2))), (rq 10, .inl (0, 21, .inl (M.2.2.1 0))), (rq 12, .inl (0, 6, .inl M.2.2.2.1)), (rq 13, .inl (0, 441, .inl M.2.2.2.2.1))]) [0, 9, 11] [1, 2, 3, 4, 5, 6, 7, 8, 10, 12, 13] (ok_X7_times (m := rq 0) (Mo := rq 1) (Lo := rq 5) (Do := rq 9) (tl := rq 12) (ca := rq 13) (w := rq 11) (dd := rf3 rq 10 1 2) (fun h9 => by have h8 := ix_in h9; rw [e] at h8; exact (congrArg (rf3 rq 10 1 2) h8.symm).trans rfl) h0) rfl rfl rfl rfl (by decide) ?_
    rintro o w hp
    obtain ⟨g, e1, e2⟩ := hp
    subst e1; subst e2
    exact ⟨_, [11, 0, 1, 2, 3, 4, 5, 6, 7, 12, 8, 13, 9, 10], PN.mk g rfl rfl, rfl, rfl⟩
def gM_way (N K : Nat) (M : MS) (p0 : Int32) (p1 : Int32) : Option (Int32 × MS) := (fX7_way N K M.2.2.2.2.2 (M.2.2.1 (ix 2 p0)) p0 p1).map (fun z => (z.1, (M.1, M.2.1, M.2.2.1, M.2.2.2.1, M.2.2.2.2.1, z.2)))
set_option maxHeartbeats 4000000 in
set_option maxRecDepth 100000 in
theorem ogM_way {N K : Nat} {rq : Nat → Nat} {M : MS} {p0 : Int32} {p1 : Int32} {x : Int32 × MS} (hE : gM_way N K M p0 p1 = some x) : OkM yX7_way (.code yX7_way cX7_way 3 (some .int)) (2) 0 0 [.ref (rq 0), .int p0, .int p1] (WM rq M) ((PN (U := Int32 × MS) (fun z _ => some (.int z.1)) (fun z _ => WM rq z.2)) x) := by
  unfold gM_way at hE
  obtain ⟨x0, h0, h1⟩ := Option.map_eq_some_iff.mp hE
  subst h1
  clear hE
  rcases lt2 (ix_lt (n := 2) (p := p0) (by decide)) with e | e
  · rw [e] at h0
    try rw [e]
    refine ok_fr (wc := [(rq 0, .inr (9, [.ref (rq 1), .ref (rq 5), .ref (rq 9), .ref (rq 12), .ref (rq 13), .int M.2.2.2.2.2])), (rq 9, .inl (4, 2, .inr (.inr (.inr (.inr (rf3 rq 10 1 2)))))), (rq 10, .inl (0, 21, .inl (M.2.2.1 0)))]) (wr := [(rq 1, .inl (4, 3, .inr (.inr (.inr (.inr (rf3 rq 2 1 3)))))), (rq 2, .inl (0, 6144, .inl (M.1 0))), (rq 3, .inl (0, 6144, .inl (M.1 1))), (rq 4, .inl (0, 6144, .inl (M.1 2))), (rq 5, .inl (4, 3, .inr (.inr (.inr (.inr (rf3 rq 6 1 3)))))), (rq 6, .inl (0, 21, .inl (M.2.1 0))), (rq 7, .inl (0, 21, .inl (M.2.1 1))), (rq 8, .inl (0, 21, .inl (M.2.1 2))), (rq 11, .inl (0, 21, .inl (M.2.2.1 1))), (rq 12, .inl (0, 6, .inl M.2.2.2.1)), (rq 13, .inl (0, 441, .inl M.2.2.2.2.1))]) [0, 9, 10] [1, 2, 3, 4, 5, 6, 7, 8, 11, 12, 13] (ok_X7_way (m := rq 0) (Mo := rq 1) (Lo := rq 5) (Do := rq 9) (tl := rq 12) (ca := rq 13) (w := rq 10) (dd := rf3 rq 10 1 2) (fun h9 => by have h8 := ix_in h9; rw [e] at h8; exact (congrArg (rf3 rq 10 1 2) h8.symm).trans rfl) h0) rfl rfl rfl rfl (by decide) ?_
    rintro o w hp
    obtain ⟨g, e1, e2⟩ := hp
    subst e1; subst e2
    exact ⟨_, [11, 0, 1, 2, 3, 4, 5, 6, 7, 12, 13, 8, 9, 10], PN.mk g rfl rfl, rfl, rfl⟩
  · rw [e] at h0
    try rw [e]
    refine ok_fr (wc := [(rq 0, .inr (9, [.ref (rq 1), .ref (rq 5), .ref (rq 9), .ref (rq 12), .ref (rq 13), .int M.2.2.2.2.2])), (rq 9, .inl (4, 2, .inr (.inr (.inr (.inr (rf3 rq 10 1 2)))))), (rq 11, .inl (0, 21, .inl (M.2.2.1 1)))]) (wr := [(rq 1, .inl (4, 3, .inr (.inr (.inr (.inr (rf3 rq 2 1 3)))))), (rq 2, .inl (0, 6144, .inl (M.1 0))), (rq 3, .inl (0, 6144, .inl (M.1 1))), (rq 4, .inl (0, 6144, .inl (M.1 2))), (rq 5, .inl (4, 3, .inr (.inr (.inr (.inr (rf3 rq 6 1 3)))))), (rq 6, .inl (0, 21, .inl (M.2.1 0))), (rq 7, .inl (0, 21, .inl (M.2.1 1))), (rq 8, .inl (0, 21, .inl (M.2.1 2))), (rq 10, .inl (0, 21, .inl (M.2.2.1 0))), (rq 12, .inl (0, 6, .inl M.2.2.2.1)), (rq 13, .inl (0, 441, .inl M.2.2.2.2.1))]) [0, 9, 11] [1, 2, 3, 4, 5, 6, 7, 8, 10, 12, 13] (ok_X7_way (m := rq 0) (Mo := rq 1) (Lo := rq 5) (Do := rq 9) (tl := rq 12) (ca := rq 13) (w := rq 11) (dd := rf3 rq 10 1 2) (fun h9 => by have h8 := ix_in h9; rw [e] at h8; exact (congrArg (rf3 rq 10 1 2) h8.symm).trans rfl) h0) rfl rfl rfl rfl (by decide) ?_
    rintro o w hp
    obtain ⟨g, e1, e2⟩ := hp
    subst e1; subst e2
    exact ⟨_, [11, 0, 1, 2, 3, 4, 5, 6, 7, 12, 8, 13, 9, 10], PN.mk g rfl rfl, rfl, rfl⟩
def gM_wayText (N K : Nat) (M : MS) (p0 : Int32) : Option (MS) := (fX7_wayText N K M.2.2.2.2.2 (M.2.2.1 (ix 2 p0)) p0).map (fun z => (M.1, M.2.1, M.2.2.1, M.2.2.2.1, M.2.2.2.2.1, z))
set_option maxHeartbeats 4000000 in
set_option maxRecDepth 100000 in
theorem ogM_wayText {N K : Nat} {rq : Nat → Nat} {M : MS} {p0 : Int32} {x : MS} (hE : gM_wayText N K M p0 = some x) : OkM yX7_wayText (.code yX7_wayText cX7_wayText 5 (some (.object "java/lang/String"))) (7) 110 8000 [.ref (rq 0), .int p0] (WM rq M) ((PN (U := MS) (fun _ g => some (.ref (g 0))) (fun z _ => WM rq z)) x) := by
  unfold gM_wayText at hE
  obtain ⟨x0, h0, h1⟩ := Option.map_eq_some_iff.mp hE
  subst h1
  clear hE
  rcases lt2 (ix_lt (n := 2) (p := p0) (by decide)) with e | e
  · rw [e] at h0
    try rw [e]
    refine ok_fr (wc := [(rq 0, .inr (9, [.ref (rq 1), .ref (rq 5), .ref (rq 9), .ref (rq 12), .ref (rq 13), .int M.2.2.2.2.2])), (rq 9, .inl (4, 2, .inr (.inr (.inr (.inr (rf3 rq 10 1 2)))))), (rq 10, .inl (0, 21, .inl (M.2.2.1 0)))]) (wr := [(rq 1, .inl (4, 3, .inr (.inr (.inr (.inr (rf3 rq 2 1 3)))))), (rq 2, .inl (0, 6144, .inl (M.1 0))), (rq 3, .inl (0, 6144, .inl (M.1 1))), (rq 4, .inl (0, 6144, .inl (M.1 2))), (rq 5, .inl (4, 3, .inr (.inr (.inr (.inr (rf3 rq 6 1 3)))))), (rq 6, .inl (0, 21, .inl (M.2.1 0))), (rq 7, .inl (0, 21, .inl (M.2.1 1))), (rq 8, .inl (0, 21, .inl (M.2.1 2))), (rq 11, .inl (0, 21, .inl (M.2.2.1 1))), (rq 12, .inl (0, 6, .inl M.2.2.2.1)), (rq 13, .inl (0, 441, .inl M.2.2.2.2.1))]) [0, 9, 10] [1, 2, 3, 4, 5, 6, 7, 8, 11, 12, 13] (ok_X7_wayText (m := rq 0) (Mo := rq 1) (Lo := rq 5) (Do := rq 9) (tl := rq 12) (ca := rq 13) (w := rq 10) (dd := rf3 rq 10 1 2) (fun h9 => by have h8 := ix_in h9; rw [e] at h8; exact (congrArg (rf3 rq 10 1 2) h8.symm).trans rfl) h0) rfl rfl rfl rfl (by decide) ?_
    rintro o w hp
    obtain ⟨g, e1, e2⟩ := hp
    subst e1; subst e2
    exact ⟨_, [11, 0, 1, 2, 3, 4, 5, 6, 7, 12, 13, 8, 9, 10], PN.mk g rfl rfl, rfl, rfl⟩
  · rw [e] at h0
    try rw [e]
    refine ok_fr (wc := [(rq 0, .inr (9, [.ref (rq 1), .ref (rq 5), .ref (rq 9), .ref (rq 12), .ref (rq 13), .int M.2.2.2.2.2])), (rq 9, .inl (4, 2, .inr (.inr (.inr (.inr (rf3 rq 10 1 2)))))), (rq 11, .inl (0, 21, .inl (M.2.2.1 1)))]) (wr := [(rq 1, .inl (4, 3, .inr (.inr (.inr (.inr (rf3 rq 2 1 3)))))), (rq 2, .inl (0, 6144, .inl (M.1 0))), (rq 3, .inl (0, 6144, .inl (M.1 1))), (rq 4, .inl (0, 6144, .inl (M.1 2))), (rq 5, .inl (4, 3, .inr (.inr (.inr (.inr (rf3 rq 6 1 3)))))), (rq 6, .inl (0, 21, .inl (M.2.1 0))), (rq 7, .inl (0, 21, .inl (M.2.1 1))), (rq 8, .inl (0, 21, .inl (M.2.1 2))), (rq 10, .inl (0, 21, .inl (M.2.2.1 0))), (rq 12, .inl (0, 6, .inl M.2.2.2.1)), (rq 13, .inl (0, 441, .inl M.2.2.2.2.1))]) [0, 9, 11] [1, 2, 3, 4, 5, 6, 7, 8, 10, 12, 13] (ok_X7_wayText (m := rq 0) (Mo := rq 1) (Lo := rq 5) (Do := rq 9) (tl := rq 12) (ca := rq 13) (w := rq 11) (dd := rf3 rq 10 1 2) (fun h9 => by have h8 := ix_in h9; rw [e] at h8; exact (congrArg (rf3 rq 10 1 2) h8.symm).trans rfl) h0) rfl rfl rfl rfl (by decide) ?_
    rintro o w hp
    obtain ⟨g, e1, e2⟩ := hp
    subst e1; subst e2
    exact ⟨_, [11, 0, 1, 2, 3, 4, 5, 6, 7, 12, 8, 13, 9, 10], PN.mk g rfl rfl, rfl, rfl⟩
def gM_isOf (N K : Nat) (M : MS) (p0 : Int32) (p1 : Int32) (p2 : Int32) : Option (Int32 × MS) := (fX7_isOf N K M.2.2.2.2.2 (M.2.2.1 (ix 2 p0)) p0 p1 p2).map (fun z => (z.1, (M.1, M.2.1, M.2.2.1, M.2.2.2.1, M.2.2.2.2.1, z.2)))
set_option maxHeartbeats 4000000 in
set_option maxRecDepth 100000 in
theorem ogM_isOf {N K : Nat} {rq : Nat → Nat} {M : MS} {p0 : Int32} {p1 : Int32} {p2 : Int32} {x : Int32 × MS} (hE : gM_isOf N K M p0 p1 p2 = some x) : OkM yX7_isOf (.code yX7_isOf cX7_isOf 4 (some .boolean)) (4) 0 0 [.ref (rq 0), .int p0, .int p1, .int p2] (WM rq M) ((PN (U := Int32 × MS) (fun z _ => some (.int z.1)) (fun z _ => WM rq z.2)) x) := by
  unfold gM_isOf at hE
  obtain ⟨x0, h0, h1⟩ := Option.map_eq_some_iff.mp hE
  subst h1
  clear hE
  rcases lt2 (ix_lt (n := 2) (p := p0) (by decide)) with e | e
  · rw [e] at h0
    try rw [e]
    refine ok_fr (wc := [(rq 0, .inr (9, [.ref (rq 1), .ref (rq 5), .ref (rq 9), .ref (rq 12), .ref (rq 13), .int M.2.2.2.2.2])), (rq 9, .inl (4, 2, .inr (.inr (.inr (.inr (rf3 rq 10 1 2)))))), (rq 10, .inl (0, 21, .inl (M.2.2.1 0)))]) (wr := [(rq 1, .inl (4, 3, .inr (.inr (.inr (.inr (rf3 rq 2 1 3)))))), (rq 2, .inl (0, 6144, .inl (M.1 0))), (rq 3, .inl (0, 6144, .inl (M.1 1))), (rq 4, .inl (0, 6144, .inl (M.1 2))), (rq 5, .inl (4, 3, .inr (.inr (.inr (.inr (rf3 rq 6 1 3)))))), (rq 6, .inl (0, 21, .inl (M.2.1 0))), (rq 7, .inl (0, 21, .inl (M.2.1 1))), (rq 8, .inl (0, 21, .inl (M.2.1 2))), (rq 11, .inl (0, 21, .inl (M.2.2.1 1))), (rq 12, .inl (0, 6, .inl M.2.2.2.1)), (rq 13, .inl (0, 441, .inl M.2.2.2.2.1))]) [0, 9, 10] [1, 2, 3, 4, 5, 6, 7, 8, 11, 12, 13] (ok_X7_isOf (m := rq 0) (Mo := rq 1) (Lo := rq 5) (Do := rq 9) (tl := rq 12) (ca := rq 13) (w := rq 10) (dd := rf3 rq 10 1 2) (fun h9 => by have h8 := ix_in h9; rw [e] at h8; exact (congrArg (rf3 rq 10 1 2) h8.symm).trans rfl) h0) rfl rfl rfl rfl (by decide) ?_
    rintro o w hp
    obtain ⟨g, e1, e2⟩ := hp
    subst e1; subst e2
    exact ⟨_, [11, 0, 1, 2, 3, 4, 5, 6, 7, 12, 13, 8, 9, 10], PN.mk g rfl rfl, rfl, rfl⟩
  · rw [e] at h0
    try rw [e]
    refine ok_fr (wc := [(rq 0, .inr (9, [.ref (rq 1), .ref (rq 5), .ref (rq 9), .ref (rq 12), .ref (rq 13), .int M.2.2.2.2.2])), (rq 9, .inl (4, 2, .inr (.inr (.inr (.inr (rf3 rq 10 1 2)))))), (rq 11, .inl (0, 21, .inl (M.2.2.1 1)))]) (wr := [(rq 1, .inl (4, 3, .inr (.inr (.inr (.inr (rf3 rq 2 1 3)))))), (rq 2, .inl (0, 6144, .inl (M.1 0))), (rq 3, .inl (0, 6144, .inl (M.1 1))), (rq 4, .inl (0, 6144, .inl (M.1 2))), (rq 5, .inl (4, 3, .inr (.inr (.inr (.inr (rf3 rq 6 1 3)))))), (rq 6, .inl (0, 21, .inl (M.2.1 0))), (rq 7, .inl (0, 21, .inl (M.2.1 1))), (rq 8, .inl (0, 21, .inl (M.2.1 2))), (rq 10, .inl (0, 21, .inl (M.2.2.1 0))), (rq 12, .inl (0, 6, .inl M.2.2.2.1)), (rq 13, .inl (0, 441, .inl M.2.2.2.2.1))]) [0, 9, 11] [1, 2, 3, 4, 5, 6, 7, 8, 10, 12, 13] (ok_X7_isOf (m := rq 0) (Mo := rq 1) (Lo := rq 5) (Do := rq 9) (tl := rq 12) (ca := rq 13) (w := rq 11) (dd := rf3 rq 10 1 2) (fun h9 => by have h8 := ix_in h9; rw [e] at h8; exact (congrArg (rf3 rq 10 1 2) h8.symm).trans rfl) h0) rfl rfl rfl rfl (by decide) ?_
    rintro o w hp
    obtain ⟨g, e1, e2⟩ := hp
    subst e1; subst e2
    exact ⟨_, [11, 0, 1, 2, 3, 4, 5, 6, 7, 12, 8, 13, 9, 10], PN.mk g rfl rfl, rfl, rfl⟩
def gM_isSameWay (N K : Nat) (M : MS) : Option (Int32 × MS) := (fX7_isSameWay N K M.2.2.2.2.2 (M.2.2.1 0) (M.2.2.1 1)).map (fun z => (z.1, (M.1, M.2.1, M.2.2.1, M.2.2.2.1, M.2.2.2.2.1, z.2)))
set_option maxHeartbeats 4000000 in
set_option maxRecDepth 100000 in
theorem ogM_isSameWay {N K : Nat} {rq : Nat → Nat} {M : MS} {x : Int32 × MS} (hE : gM_isSameWay N K M = some x) : OkM yX7_isSameWay (.code yX7_isSameWay cX7_isSameWay 1 (some .boolean)) (1) 0 0 [.ref (rq 0)] (WM rq M) ((PN (U := Int32 × MS) (fun z _ => some (.int z.1)) (fun z _ => WM rq z.2)) x) := by
  unfold gM_isSameWay at hE
  obtain ⟨x0, h0, h1⟩ := Option.map_eq_some_iff.mp hE
  subst h1
  clear hE
  refine ok_fr (wc := [(rq 0, .inr (9, [.ref (rq 1), .ref (rq 5), .ref (rq 9), .ref (rq 12), .ref (rq 13), .int M.2.2.2.2.2])), (rq 9, .inl (4, 2, .inr (.inr (.inr (.inr (rf3 rq 10 1 2)))))), (rq 10, .inl (0, 21, .inl (M.2.2.1 0))), (rq 11, .inl (0, 21, .inl (M.2.2.1 1)))]) (wr := [(rq 1, .inl (4, 3, .inr (.inr (.inr (.inr (rf3 rq 2 1 3)))))), (rq 2, .inl (0, 6144, .inl (M.1 0))), (rq 3, .inl (0, 6144, .inl (M.1 1))), (rq 4, .inl (0, 6144, .inl (M.1 2))), (rq 5, .inl (4, 3, .inr (.inr (.inr (.inr (rf3 rq 6 1 3)))))), (rq 6, .inl (0, 21, .inl (M.2.1 0))), (rq 7, .inl (0, 21, .inl (M.2.1 1))), (rq 8, .inl (0, 21, .inl (M.2.1 2))), (rq 12, .inl (0, 6, .inl M.2.2.2.1)), (rq 13, .inl (0, 441, .inl M.2.2.2.2.1))]) [0, 9, 10, 11] [1, 2, 3, 4, 5, 6, 7, 8, 12, 13] (ok_X7_isSameWay (m := rq 0) (Mo := rq 1) (Lo := rq 5) (Do := rq 9) (tl := rq 12) (ca := rq 13) (w := rq 10) (v := rq 11) (dd := rf3 rq 10 1 2) (fun _ => rfl) (fun _ => rfl) h0) rfl rfl rfl rfl (by decide) ?_
  rintro o w hp
  obtain ⟨g, e1, e2⟩ := hp
  subst e1; subst e2
  exact ⟨_, [10, 0, 1, 2, 3, 4, 5, 6, 7, 11, 12, 13, 8, 9], PN.mk g rfl rfl, rfl, rfl⟩
def gM_tally (N K : Nat) (M : MS) (p0 : Int32) : Option (Int32 × MS) := (fX7_tally N K M.2.2.2.2.2 M.2.2.2.1 p0).map (fun z => (z.1, (M.1, M.2.1, M.2.2.1, M.2.2.2.1, M.2.2.2.2.1, z.2)))
set_option maxHeartbeats 4000000 in
set_option maxRecDepth 100000 in
theorem ogM_tally {N K : Nat} {rq : Nat → Nat} {M : MS} {p0 : Int32} {x : Int32 × MS} (hE : gM_tally N K M p0 = some x) : OkM yX7_tally (.code yX7_tally cX7_tally 2 (some .int)) (1) 0 0 [.ref (rq 0), .int p0] (WM rq M) ((PN (U := Int32 × MS) (fun z _ => some (.int z.1)) (fun z _ => WM rq z.2)) x) := by
  unfold gM_tally at hE
  obtain ⟨x0, h0, h1⟩ := Option.map_eq_some_iff.mp hE
  subst h1
  clear hE
  refine ok_fr (wc := [(rq 0, .inr (9, [.ref (rq 1), .ref (rq 5), .ref (rq 9), .ref (rq 12), .ref (rq 13), .int M.2.2.2.2.2])), (rq 12, .inl (0, 6, .inl M.2.2.2.1))]) (wr := [(rq 1, .inl (4, 3, .inr (.inr (.inr (.inr (rf3 rq 2 1 3)))))), (rq 2, .inl (0, 6144, .inl (M.1 0))), (rq 3, .inl (0, 6144, .inl (M.1 1))), (rq 4, .inl (0, 6144, .inl (M.1 2))), (rq 5, .inl (4, 3, .inr (.inr (.inr (.inr (rf3 rq 6 1 3)))))), (rq 6, .inl (0, 21, .inl (M.2.1 0))), (rq 7, .inl (0, 21, .inl (M.2.1 1))), (rq 8, .inl (0, 21, .inl (M.2.1 2))), (rq 9, .inl (4, 2, .inr (.inr (.inr (.inr (rf3 rq 10 1 2)))))), (rq 10, .inl (0, 21, .inl (M.2.2.1 0))), (rq 11, .inl (0, 21, .inl (M.2.2.1 1))), (rq 13, .inl (0, 441, .inl M.2.2.2.2.1))]) [0, 12] [1, 2, 3, 4, 5, 6, 7, 8, 9, 10, 11, 13] (ok_X7_tally (m := rq 0) (Mo := rq 1) (Lo := rq 5) (Do := rq 9) (tl := rq 12) (ca := rq 13) h0) rfl rfl rfl rfl (by decide) ?_
  rintro o w hp
  obtain ⟨g, e1, e2⟩ := hp
  subst e1; subst e2
  exact ⟨_, [12, 0, 1, 2, 3, 4, 5, 6, 7, 8, 9, 10, 13, 11], PN.mk g rfl rfl, rfl, rfl⟩
def gM_knock (N K : Nat) (M : MS) : Option (Int32 × MS) := (fX7_knock N K M.2.2.2.2.2 M.2.2.2.1).map (fun z => (z.1, (M.1, M.2.1, M.2.2.1, z.2.2, M.2.2.2.2.1, z.2.1)))
set_option maxHeartbeats 4000000 in
set_option maxRecDepth 100000 in
theorem ogM_knock {N K : Nat} {rq : Nat → Nat} {M : MS} {x : Int32 × MS} (hE : gM_knock N K M = some x) : OkM yX7_knock (.code yX7_knock cX7_knock 1 (some .int)) (0) 0 0 [.ref (rq 0)] (WM rq M) ((PN (U := Int32 × MS) (fun z _ => some (.int z.1)) (fun z _ => WM rq z.2)) x) := by
  unfold gM_knock at hE
  obtain ⟨x0, h0, h1⟩ := Option.map_eq_some_iff.mp hE
  subst h1
  clear hE
  refine ok_fr (wc := [(rq 0, .inr (9, [.ref (rq 1), .ref (rq 5), .ref (rq 9), .ref (rq 12), .ref (rq 13), .int M.2.2.2.2.2])), (rq 12, .inl (0, 6, .inl M.2.2.2.1))]) (wr := [(rq 1, .inl (4, 3, .inr (.inr (.inr (.inr (rf3 rq 2 1 3)))))), (rq 2, .inl (0, 6144, .inl (M.1 0))), (rq 3, .inl (0, 6144, .inl (M.1 1))), (rq 4, .inl (0, 6144, .inl (M.1 2))), (rq 5, .inl (4, 3, .inr (.inr (.inr (.inr (rf3 rq 6 1 3)))))), (rq 6, .inl (0, 21, .inl (M.2.1 0))), (rq 7, .inl (0, 21, .inl (M.2.1 1))), (rq 8, .inl (0, 21, .inl (M.2.1 2))), (rq 9, .inl (4, 2, .inr (.inr (.inr (.inr (rf3 rq 10 1 2)))))), (rq 10, .inl (0, 21, .inl (M.2.2.1 0))), (rq 11, .inl (0, 21, .inl (M.2.2.1 1))), (rq 13, .inl (0, 441, .inl M.2.2.2.2.1))]) [0, 12] [1, 2, 3, 4, 5, 6, 7, 8, 9, 10, 11, 13] (ok_X7_knock (m := rq 0) (Mo := rq 1) (Lo := rq 5) (Do := rq 9) (tl := rq 12) (ca := rq 13) h0) rfl rfl rfl rfl (by decide) ?_
  rintro o w hp
  obtain ⟨g, e1, e2⟩ := hp
  subst e1; subst e2
  exact ⟨_, [12, 0, 1, 2, 3, 4, 5, 6, 7, 8, 9, 10, 13, 11], PN.mk g rfl rfl, rfl, rfl⟩
def gM_isSound (N K : Nat) (M : MS) (p0 : Int32) : Option (Int32 × MS) := (fX7_isSound N K M.2.2.2.2.2 (M.1 (ix 3 p0)) M.2.2.2.1 p0).map (fun z => (z.1, (M.1, M.2.1, M.2.2.1, M.2.2.2.1, M.2.2.2.2.1, z.2)))
set_option maxHeartbeats 4000000 in
set_option maxRecDepth 100000 in
theorem ogM_isSound {N K : Nat} {rq : Nat → Nat} {M : MS} {p0 : Int32} {x : Int32 × MS} (hE : gM_isSound N K M p0 = some x) : OkM yX7_isSound (.code yX7_isSound cX7_isSound 9 (some .boolean)) (2) 200 4200 [.ref (rq 0), .int p0] (WM rq M) ((PN (U := Int32 × MS) (fun z _ => some (.int z.1)) (fun z _ => WM rq z.2)) x) := by
  unfold gM_isSound at hE
  obtain ⟨x0, h0, h1⟩ := Option.map_eq_some_iff.mp hE
  subst h1
  clear hE
  rcases lt3 (ix_lt (n := 3) (p := p0) (by decide)) with e | e | e
  · rw [e] at h0
    try rw [e]
    refine ok_fr (wc := [(rq 0, .inr (9, [.ref (rq 1), .ref (rq 5), .ref (rq 9), .ref (rq 12), .ref (rq 13), .int M.2.2.2.2.2])), (rq 1, .inl (4, 3, .inr (.inr (.inr (.inr (rf3 rq 2 1 3)))))), (rq 2, .inl (0, 6144, .inl (M.1 0))), (rq 12, .inl (0, 6, .inl M.2.2.2.1))]) (wr := [(rq 3, .inl (0, 6144, .inl (M.1 1))), (rq 4, .inl (0, 6144, .inl (M.1 2))), (rq 5, .inl (4, 3, .inr (.inr (.inr (.inr (rf3 rq 6 1 3)))))), (rq 6, .inl (0, 21, .inl (M.2.1 0))), (rq 7, .inl (0, 21, .inl (M.2.1 1))), (rq 8, .inl (0, 21, .inl (M.2.1 2))), (rq 9, .inl (4, 2, .inr (.inr (.inr (.inr (rf3 rq 10 1 2)))))), (rq 10, .inl (0, 21, .inl (M.2.2.1 0))), (rq 11, .inl (0, 21, .inl (M.2.2.1 1))), (rq 13, .inl (0, 441, .inl M.2.2.2.2.1))]) [0, 1, 2, 12] [3, 4, 5, 6, 7, 8, 9, 10, 11, 13] (ok_X7_isSound (m := rq 0) (Mo := rq 1) (Lo := rq 5) (Do := rq 9) (tl := rq 12) (ca := rq 13) (q := rq 2) (mm := rf3 rq 2 1 3) (fun h9 => by have h8 := ix_in h9; rw [e] at h8; exact (congrArg (rf3 rq 2 1 3) h8.symm).trans rfl) h0) rfl rfl rfl rfl (by decide) ?_
    rintro o w hp
    obtain ⟨g, e1, e2⟩ := hp
    subst e1; subst e2
    exact ⟨_, [10, 11, 12, 0, 1, 2, 3, 4, 5, 6, 7, 8, 13, 9], PN.mk g rfl rfl, rfl, rfl⟩
  · rw [e] at h0
    try rw [e]
    refine ok_fr (wc := [(rq 0, .inr (9, [.ref (rq 1), .ref (rq 5), .ref (rq 9), .ref (rq 12), .ref (rq 13), .int M.2.2.2.2.2])), (rq 1, .inl (4, 3, .inr (.inr (.inr (.inr (rf3 rq 2 1 3)))))), (rq 3, .inl (0, 6144, .inl (M.1 1))), (rq 12, .inl (0, 6, .inl M.2.2.2.1))]) (wr := [(rq 2, .inl (0, 6144, .inl (M.1 0))), (rq 4, .inl (0, 6144, .inl (M.1 2))), (rq 5, .inl (4, 3, .inr (.inr (.inr (.inr (rf3 rq 6 1 3)))))), (rq 6, .inl (0, 21, .inl (M.2.1 0))), (rq 7, .inl (0, 21, .inl (M.2.1 1))), (rq 8, .inl (0, 21, .inl (M.2.1 2))), (rq 9, .inl (4, 2, .inr (.inr (.inr (.inr (rf3 rq 10 1 2)))))), (rq 10, .inl (0, 21, .inl (M.2.2.1 0))), (rq 11, .inl (0, 21, .inl (M.2.2.1 1))), (rq 13, .inl (0, 441, .inl M.2.2.2.2.1))]) [0, 1, 3, 12] [2, 4, 5, 6, 7, 8, 9, 10, 11, 13] (ok_X7_isSound (m := rq 0) (Mo := rq 1) (Lo := rq 5) (Do := rq 9) (tl := rq 12) (ca := rq 13) (q := rq 3) (mm := rf3 rq 2 1 3) (fun h9 => by have h8 := ix_in h9; rw [e] at h8; exact (congrArg (rf3 rq 2 1 3) h8.symm).trans rfl) h0) rfl rfl rfl rfl (by decide) ?_
    rintro o w hp
    obtain ⟨g, e1, e2⟩ := hp
    subst e1; subst e2
    exact ⟨_, [10, 11, 0, 12, 1, 2, 3, 4, 5, 6, 7, 8, 13, 9], PN.mk g rfl rfl, rfl, rfl⟩
  · rw [e] at h0
    try rw [e]
    refine ok_fr (wc := [(rq 0, .inr (9, [.ref (rq 1), .ref (rq 5), .ref (rq 9), .ref (rq 12), .ref (rq 13), .int M.2.2.2.2.2])), (rq 1, .inl (4, 3, .inr (.inr (.inr (.inr (rf3 rq 2 1 3)))))), (rq 4, .inl (0, 6144, .inl (M.1 2))), (rq 12, .inl (0, 6, .inl M.2.2.2.1))]) (wr := [(rq 2, .inl (0, 6144, .inl (M.1 0))), (rq 3, .inl (0, 6144, .inl (M.1 1))), (rq 5, .inl (4, 3, .inr (.inr (.inr (.inr (rf3 rq 6 1 3)))))), (rq 6, .inl (0, 21, .inl (M.2.1 0))), (rq 7, .inl (0, 21, .inl (M.2.1 1))), (rq 8, .inl (0, 21, .inl (M.2.1 2))), (rq 9, .inl (4, 2, .inr (.inr (.inr (.inr (rf3 rq 10 1 2)))))), (rq 10, .inl (0, 21, .inl (M.2.2.1 0))), (rq 11, .inl (0, 21, .inl (M.2.2.1 1))), (rq 13, .inl (0, 441, .inl M.2.2.2.2.1))]) [0, 1, 4, 12] [2, 3, 5, 6, 7, 8, 9, 10, 11, 13] (ok_X7_isSound (m := rq 0) (Mo := rq 1) (Lo := rq 5) (Do := rq 9) (tl := rq 12) (ca := rq 13) (q := rq 4) (mm := rf3 rq 2 1 3) (fun h9 => by have h8 := ix_in h9; rw [e] at h8; exact (congrArg (rf3 rq 2 1 3) h8.symm).trans rfl) h0) rfl rfl rfl rfl (by decide) ?_
    rintro o w hp
    obtain ⟨g, e1, e2⟩ := hp
    subst e1; subst e2
    exact ⟨_, [10, 11, 0, 1, 12, 2, 3, 4, 5, 6, 7, 8, 13, 9], PN.mk g rfl rfl, rfl, rfl⟩
def gM_digest (N K : Nat) (M : MS) : Option (Int64 × MS) := (fX7_digest N K M.2.2.2.2.2 (M.1 0) (M.1 1) (M.1 2) (M.2.1 0) (M.2.1 1) (M.2.1 2) (M.2.2.1 0) (M.2.2.1 1) M.2.2.2.1).map (fun z => (z.1, (M.1, M.2.1, M.2.2.1, M.2.2.2.1, M.2.2.2.2.1, z.2)))
set_option maxHeartbeats 4000000 in
set_option maxRecDepth 100000 in
theorem ogM_digest {N K : Nat} {rq : Nat → Nat} {M : MS} {x : Int64 × MS} (hE : gM_digest N K M = some x) : OkM yX7_digest (.code yX7_digest cX7_digest 8 (some .long)) (2) 0 0 [.ref (rq 0)] (WM rq M) ((PN (U := Int64 × MS) (fun z _ => some (.long z.1)) (fun z _ => WM rq z.2)) x) := by
  unfold gM_digest at hE
  obtain ⟨x0, h0, h1⟩ := Option.map_eq_some_iff.mp hE
  subst h1
  clear hE
  refine ok_fr (wc := [(rq 0, .inr (9, [.ref (rq 1), .ref (rq 5), .ref (rq 9), .ref (rq 12), .ref (rq 13), .int M.2.2.2.2.2])), (rq 1, .inl (4, 3, .inr (.inr (.inr (.inr (rf3 rq 2 1 3)))))), (rq 2, .inl (0, 6144, .inl (M.1 0))), (rq 3, .inl (0, 6144, .inl (M.1 1))), (rq 4, .inl (0, 6144, .inl (M.1 2))), (rq 5, .inl (4, 3, .inr (.inr (.inr (.inr (rf3 rq 6 1 3)))))), (rq 6, .inl (0, 21, .inl (M.2.1 0))), (rq 7, .inl (0, 21, .inl (M.2.1 1))), (rq 8, .inl (0, 21, .inl (M.2.1 2))), (rq 9, .inl (4, 2, .inr (.inr (.inr (.inr (rf3 rq 10 1 2)))))), (rq 10, .inl (0, 21, .inl (M.2.2.1 0))), (rq 11, .inl (0, 21, .inl (M.2.2.1 1))), (rq 12, .inl (0, 6, .inl M.2.2.2.1))]) (wr := [(rq 13, .inl (0, 441, .inl M.2.2.2.2.1))]) [0, 1, 2, 3, 4, 5, 6, 7, 8, 9, 10, 11, 12] [13] (ok_X7_digest (m := rq 0) (Mo := rq 1) (Lo := rq 5) (Do := rq 9) (tl := rq 12) (ca := rq 13) (q0 := rq 2) (q1 := rq 3) (q2 := rq 4) (h0 := rq 6) (h1 := rq 7) (h2 := rq 8) (w0 := rq 10) (w1 := rq 11) (mm := rf3 rq 2 1 3) (ll := rf3 rq 6 1 3) (dd := rf3 rq 10 1 2) (fun _ => rfl) (fun _ => rfl) (fun _ => rfl) (fun _ => rfl) (fun _ => rfl) (fun _ => rfl) (fun _ => rfl) (fun _ => rfl) h0) rfl rfl rfl rfl (by decide) ?_
  rintro o w hp
  obtain ⟨g, e1, e2⟩ := hp
  subst e1; subst e2
  exact ⟨_, [1, 2, 3, 4, 5, 6, 7, 8, 9, 10, 11, 12, 13, 0], PN.mk g rfl rfl, rfl, rfl⟩

end MG_42adm
section MG_43wrap
def gL_know (N K : Nat) (S : CS) (p0 : Int32) (p1 : Int32) (p2 : Int32) (p3 : Int32) (nv : Int64) : Option (Int32 × CS × Int64) := wb (gX_know N K S p0 p1 p2 p3) (fun z => some ((0 : Int32), z.2, z.1.toInt64)) (some ((1 : Int32), S, nv)) (some ((2 : Int32), S, nv))
set_option maxHeartbeats 4000000 in
set_option maxRecDepth 100000 in
theorem ogL_know {N K : Nat} {r : Nat → Nat} {o : Nat} {S : CS} {nv : Int64} {sv : Value} {p0 : Int32} {p1 : Int32} {p2 : Int32} {p3 : Int32} {x : Int32 × CS × Int64} (hE : gL_know N K S p0 p1 p2 p3 nv = some x) : OkM yL_know (.codeWith yL_know cL_know 7 (some .int) [(0, 15, 18, 19), (0, 15, 22, 21)]) (2 * K + 11) 4 24 [.ref (r 0), .int p0, .int p1, .int p2, .int p3, .ref o] (WX r S ++ [OC o nv sv]) ((PN (U := Int32 × CS × Int64) (fun z _ => some (.int z.1)) (fun z g => WX r z.2.1 ++ [OC o z.2.2 sv])) x) := by
  refine ok_ofH (by decide) (Nat.le_of_ble_eq_true rfl) hE ?_
  refine aw_locals (lv' := [(0, .ref (r 0)), (1, .int p0), (2, .int p1), (3, .int p2), (4, .int p3), (5, .ref o)]) [0, 1, 2, 3, 4, 5] rfl ?_
  refine aw_aload (q := 2) gdL_know_0.1 rfl 5 rfl ?_
  refine aw_aload_n (q := 3) gdL_know_0.2.1 rfl 0 rfl ?_
  refine aw_iload_n (q := 4) gdL_know_0.2.2.1 rfl 1 rfl ?_
  refine aw_iload_n (q := 5) gdL_know_0.2.2.2.1 rfl 2 rfl ?_
  refine aw_iload_n (q := 6) gdL_know_0.2.2.2.2.1 rfl 3 rfl ?_
  refine aw_iload (q := 8) gdL_know_0.2.2.2.2.2.1 rfl 4 rfl ?_
  refine aw_callC (q := 11) (hp1 := 18) (hp2 := 22) (kc1 := 0) (ks1 := 0) (wc := WX r S) (wr := [OC o nv sv]) (st1 := fun z g => [.int z.1, .ref o]) (ws1 := fun z g => [OC o nv sv] ++ WX r z.2) (As := [.ref (r 0), .int p0, .int p1, .int p2, .int p3]) [0, 1, 2, 3, 4, 5, 6, 7, 8, 9, 10, 11, 12, 13, 14, 15, 16, 17, 18, 19, 20, 21, 22, 23, 24, 25, 26] [27] (fun _ => runV (q0 := 0) gdL_know_0.2.2.2.2.2.2.1 mi_X5_know im_X5_know se_X5_know ml_L_7 (by omega) rfl (Nat.le_of_ble_eq_true rfl) rfl rfl rfl rfl) (fun x9 h9 => ogX_know h9) rfl rfl rfl rfl rfl (by decide +kernel) (by omega) (by omega) (fun _ _ => rfl) (fun _ _ => rfl) (Or.inr ⟨⟨[], _, [_], "java/lang/IndexOutOfBoundsException", rfl, (fun z h => by cases h), by decide, by decide, cl_L_19, ca_IndexOutOfBoundsException, rfl⟩, fun q9 => ?_⟩) (Or.inr ⟨⟨[_], _, [], "java/lang/IllegalArgumentException", rfl, (fun z h => by rcases List.mem_cons.mp h with rfl | h <;> first | exact ⟨by decide, rfl, cl_L_19⟩ | cases h), by decide, by decide, cl_L_21, ca_IllegalArgumentException, rfl⟩, fun q9 => ?_⟩) (fun z g => ?_)
  · refine aw_astore (q := 20) (lv' := [(6, .ref q9), (0, .ref (r 0)), (1, .int p0), (2, .int p1), (3, .int p2), (4, .int p3), (5, .ref o)]) gdL_know_12.2.2.1 rfl (by decide) rfl ?_
    refine aw_iconst (q := 21) (v := 1) gdL_know_12.2.2.2.1 rfl (by decide) ?_
    exact aw_ireturn [1, 2, 3, 4, 5, 6, 7, 8, 9, 10, 11, 12, 13, 14, 15, 16, 17, 18, 19, 20, 21, 22, 23, 24, 25, 26, 27, 0] gdL_know_12.2.2.2.2.1 rfl rfl rfl rfl (PN.mk (fun _ => 0) rfl rfl)
  · refine aw_astore (q := 24) (lv' := [(6, .ref q9), (0, .ref (r 0)), (1, .int p0), (2, .int p1), (3, .int p2), (4, .int p3), (5, .ref o)]) gdL_know_12.2.2.2.2.2.1 rfl (by decide) rfl ?_
    refine aw_iconst (q := 25) (v := 2) gdL_know_12.2.2.2.2.2.2.1 rfl (by decide) ?_
    exact aw_ireturn [1, 2, 3, 4, 5, 6, 7, 8, 9, 10, 11, 12, 13, 14, 15, 16, 17, 18, 19, 20, 21, 22, 23, 24, 25, 26, 27, 0] gdL_know_12.2.2.2.2.2.2.2 rfl rfl rfl rfl (PN.mk (fun _ => 0) rfl rfl)
  refine aw_i2l (q := 12) gdL_know_0.2.2.2.2.2.2.2 rfl ?_
  refine aw_putN (q := 15) (ws' := [OC o z.1.toInt64 sv] ++ WX r z.2) gdL_know_12.1 rfl fn_L_13 0 rfl rfl rfl (Nat.le_of_ble_eq_true rfl) rfl ?_
  refine aw_goto (tgt := 26) gdL_know_12.2.1 (by decide) ?_
  refine aw_iconst (q := 27) (v := 0) gdL_know_26.1 rfl (by decide) ?_
  exact aw_ireturn [1, 2, 3, 4, 5, 6, 7, 8, 9, 10, 11, 12, 13, 14, 15, 16, 17, 18, 19, 20, 21, 22, 23, 24, 25, 26, 27, 0] gdL_know_26.2 rfl rfl rfl rfl (PN.mk g rfl rfl)
def gL_few (N K : Nat) (S : CS) (p0 : Int32) (p1 : Int32) (p2 : Int32) (nv : Int64) : Option (Int32 × CS × Int64) := wb (gX_few N K S p0 p1 p2) (fun z => some ((0 : Int32), z.2, z.1.toInt64)) (some ((1 : Int32), S, nv)) (some ((2 : Int32), S, nv))
set_option maxHeartbeats 4000000 in
set_option maxRecDepth 100000 in
theorem ogL_few {N K : Nat} {r : Nat → Nat} {o : Nat} {S : CS} {nv : Int64} {sv : Value} {p0 : Int32} {p1 : Int32} {p2 : Int32} {x : Int32 × CS × Int64} (hE : gL_few N K S p0 p1 p2 nv = some x) : OkM yL_few (.codeWith yL_few cL_few 6 (some .int) [(0, 13, 16, 19), (0, 13, 20, 21)]) (2 * K + 10) 3 18 [.ref (r 0), .int p0, .int p1, .int p2, .ref o] (WX r S ++ [OC o nv sv]) ((PN (U := Int32 × CS × Int64) (fun z _ => some (.int z.1)) (fun z g => WX r z.2.1 ++ [OC o z.2.2 sv])) x) := by
  refine ok_ofH (by decide) (Nat.le_of_ble_eq_true rfl) hE ?_
  refine aw_locals (lv' := [(0, .ref (r 0)), (1, .int p0), (2, .int p1), (3, .int p2), (4, .ref o)]) [0, 1, 2, 3, 4] rfl ?_
  refine aw_aload (q := 2) gdL_few_0.1 rfl 4 rfl ?_
  refine aw_aload_n (q := 3) gdL_few_0.2.1 rfl 0 rfl ?_
  refine aw_iload_n (q := 4) gdL_few_0.2.2.1 rfl 1 rfl ?_
  refine aw_iload_n (q := 5) gdL_few_0.2.2.2.1 rfl 2 rfl ?_
  refine aw_iload_n (q := 6) gdL_few_0.2.2.2.2.1 rfl 3 rfl ?_
  refine aw_callC (q := 9) (hp1 := 16) (hp2 := 20) (kc1 := 0) (ks1 := 0) (wc := WX r S) (wr := [OC o nv sv]) (st1 := fun z g => [.int z.1, .ref o]) (ws1 := fun z g => [OC o nv sv] ++ WX r z.2) (As := [.ref (r 0), .int p0, .int p1, .int p2]) [0, 1, 2, 3, 4, 5, 6, 7, 8, 9, 10, 11, 12, 13, 14, 15, 16, 17, 18, 19, 20, 21, 22, 23, 24, 25, 26] [27] (fun _ => runV (q0 := 0) gdL_few_0.2.2.2.2.2.1 mi_X5_few im_X5_few se_X5_few ml_L_23 (by omega) rfl (Nat.le_of_ble_eq_true rfl) rfl rfl rfl rfl) (fun x9 h9 => ogX_few h9) rfl rfl rfl rfl rfl (by decide +kernel) (by omega) (by omega) (fun _ _ => rfl) (fun _ _ => rfl) (Or.inr ⟨⟨[], _, [_], "java/lang/IndexOutOfBoundsException", rfl, (fun z h => by cases h), by decide, by decide, cl_L_19, ca_IndexOutOfBoundsException, rfl⟩, fun q9 => ?_⟩) (Or.inr ⟨⟨[_], _, [], "java/lang/IllegalArgumentException", rfl, (fun z h => by rcases List.mem_cons.mp h with rfl | h <;> first | exact ⟨by decide, rfl, cl_L_19⟩ | cases h), by decide, by decide, cl_L_21, ca_IllegalArgumentException, rfl⟩, fun q9 => ?_⟩) (fun z g => ?_)
  · refine aw_astore (q := 18) (lv' := [(5, .ref q9), (0, .ref (r 0)), (1, .int p0), (2, .int p1), (3, .int p2), (4, .ref o)]) gdL_few_13.2.1 rfl (by decide) rfl ?_
    refine aw_iconst (q := 19) (v := 1) gdL_few_13.2.2.1 rfl (by decide) ?_
    exact aw_ireturn [1, 2, 3, 4, 5, 6, 7, 8, 9, 10, 11, 12, 13, 14, 15, 16, 17, 18, 19, 20, 21, 22, 23, 24, 25, 26, 27, 0] gdL_few_13.2.2.2.1 rfl rfl rfl rfl (PN.mk (fun _ => 0) rfl rfl)
  · refine aw_astore (q := 22) (lv' := [(5, .ref q9), (0, .ref (r 0)), (1, .int p0), (2, .int p1), (3, .int p2), (4, .ref o)]) gdL_few_13.2.2.2.2.1 rfl (by decide) rfl ?_
    refine aw_iconst (q := 23) (v := 2) gdL_few_13.2.2.2.2.2.1 rfl (by decide) ?_
    exact aw_ireturn [1, 2, 3, 4, 5, 6, 7, 8, 9, 10, 11, 12, 13, 14, 15, 16, 17, 18, 19, 20, 21, 22, 23, 24, 25, 26, 27, 0] gdL_few_13.2.2.2.2.2.2.1 rfl rfl rfl rfl (PN.mk (fun _ => 0) rfl rfl)
  refine aw_i2l (q := 10) gdL_few_0.2.2.2.2.2.2.1 rfl ?_
  refine aw_putN (q := 13) (ws' := [OC o z.1.toInt64 sv] ++ WX r z.2) gdL_few_0.2.2.2.2.2.2.2 rfl fn_L_13 0 rfl rfl rfl (Nat.le_of_ble_eq_true rfl) rfl ?_
  refine aw_goto (tgt := 24) gdL_few_13.1 (by decide) ?_
  refine aw_iconst (q := 25) (v := 0) gdL_few_13.2.2.2.2.2.2.2 rfl (by decide) ?_
  exact aw_ireturn [1, 2, 3, 4, 5, 6, 7, 8, 9, 10, 11, 12, 13, 14, 15, 16, 17, 18, 19, 20, 21, 22, 23, 24, 25, 26, 27, 0] dL_few_25 rfl rfl rfl rfl (PN.mk g rfl rfl)
def gL_surplus (N K : Nat) (S : CS) (p0 : Int32) (p1 : Int32) (nv : Int64) : Option (Int32 × CS × Int64) := wb (gX_surplus N K S p0 p1) (fun z => some ((0 : Int32), z.2, z.1.toInt64)) (some ((1 : Int32), S, nv)) (some ((2 : Int32), S, nv))
set_option maxHeartbeats 4000000 in
set_option maxRecDepth 100000 in
theorem ogL_surplus {N K : Nat} {r : Nat → Nat} {o : Nat} {S : CS} {nv : Int64} {sv : Value} {p0 : Int32} {p1 : Int32} {x : Int32 × CS × Int64} (hE : gL_surplus N K S p0 p1 nv = some x) : OkM yL_surplus (.codeWith yL_surplus cL_surplus 5 (some .int) [(0, 11, 14, 19), (0, 11, 18, 21)]) (2 * K + 10) 2 12 [.ref (r 0), .int p0, .int p1, .ref o] (WX r S ++ [OC o nv sv]) ((PN (U := Int32 × CS × Int64) (fun z _ => some (.int z.1)) (fun z g => WX r z.2.1 ++ [OC o z.2.2 sv])) x) := by
  refine ok_ofH (by decide) (Nat.le_of_ble_eq_true rfl) hE ?_
  refine aw_locals (lv' := [(0, .ref (r 0)), (1, .int p0), (2, .int p1), (3, .ref o)]) [0, 1, 2, 3] rfl ?_
  refine aw_aload_n (q := 1) gdL_surplus_0.1 rfl 3 rfl ?_
  refine aw_aload_n (q := 2) gdL_surplus_0.2.1 rfl 0 rfl ?_
  refine aw_iload_n (q := 3) gdL_surplus_0.2.2.1 rfl 1 rfl ?_
  refine aw_iload_n (q := 4) gdL_surplus_0.2.2.2.1 rfl 2 rfl ?_
  refine aw_callC (q := 7) (hp1 := 14) (hp2 := 18) (kc1 := 0) (ks1 := 0) (wc := WX r S) (wr := [OC o nv sv]) (st1 := fun z g => [.int z.1, .ref o]) (ws1 := fun z g => [OC o nv sv] ++ WX r z.2) (As := [.ref (r 0), .int p0, .int p1]) [0, 1, 2, 3, 4, 5, 6, 7, 8, 9, 10, 11, 12, 13, 14, 15, 16, 17, 18, 19, 20, 21, 22, 23, 24, 25, 26] [27] (fun _ => runV (q0 := 0) gdL_surplus_0.2.2.2.2.1 mi_X5_surplus im_X5_surplus se_X5_surplus ml_L_27 (by omega) rfl (Nat.le_of_ble_eq_true rfl) rfl rfl rfl rfl) (fun x9 h9 => ogX_surplus h9) rfl rfl rfl rfl rfl (by decide +kernel) (by omega) (by omega) (fun _ _ => rfl) (fun _ _ => rfl) (Or.inr ⟨⟨[], _, [_], "java/lang/IndexOutOfBoundsException", rfl, (fun z h => by cases h), by decide, by decide, cl_L_19, ca_IndexOutOfBoundsException, rfl⟩, fun q9 => ?_⟩) (Or.inr ⟨⟨[_], _, [], "java/lang/IllegalArgumentException", rfl, (fun z h => by rcases List.mem_cons.mp h with rfl | h <;> first | exact ⟨by decide, rfl, cl_L_19⟩ | cases h), by decide, by decide, cl_L_21, ca_IllegalArgumentException, rfl⟩, fun q9 => ?_⟩) (fun z g => ?_)
  · refine aw_astore (q := 16) (lv' := [(4, .ref q9), (0, .ref (r 0)), (1, .int p0), (2, .int p1), (3, .ref o)]) gdL_surplus_14.1 rfl (by decide) rfl ?_
    refine aw_iconst (q := 17) (v := 1) gdL_surplus_14.2.1 rfl (by decide) ?_
    exact aw_ireturn [1, 2, 3, 4, 5, 6, 7, 8, 9, 10, 11, 12, 13, 14, 15, 16, 17, 18, 19, 20, 21, 22, 23, 24, 25, 26, 27, 0] gdL_surplus_14.2.2.1 rfl rfl rfl rfl (PN.mk (fun _ => 0) rfl rfl)
  · refine aw_astore (q := 20) (lv' := [(4, .ref q9), (0, .ref (r 0)), (1, .int p0), (2, .int p1), (3, .ref o)]) gdL_surplus_14.2.2.2.1 rfl (by decide) rfl ?_
    refine aw_iconst (q := 21) (v := 2) gdL_surplus_14.2.2.2.2.1 rfl (by decide) ?_
    exact aw_ireturn [1, 2, 3, 4, 5, 6, 7, 8, 9, 10, 11, 12, 13, 14, 15, 16, 17, 18, 19, 20, 21, 22, 23, 24, 25, 26, 27, 0] gdL_surplus_14.2.2.2.2.2.1 rfl rfl rfl rfl (PN.mk (fun _ => 0) rfl rfl)
  refine aw_i2l (q := 8) gdL_surplus_0.2.2.2.2.2.1 rfl ?_
  refine aw_putN (q := 11) (ws' := [OC o z.1.toInt64 sv] ++ WX r z.2) gdL_surplus_0.2.2.2.2.2.2.1 rfl fn_L_13 0 rfl rfl rfl (Nat.le_of_ble_eq_true rfl) rfl ?_
  refine aw_goto (tgt := 22) gdL_surplus_0.2.2.2.2.2.2.2 (by decide) ?_
  refine aw_iconst (q := 23) (v := 0) gdL_surplus_14.2.2.2.2.2.2.1 rfl (by decide) ?_
  exact aw_ireturn [1, 2, 3, 4, 5, 6, 7, 8, 9, 10, 11, 12, 13, 14, 15, 16, 17, 18, 19, 20, 21, 22, 23, 24, 25, 26, 27, 0] gdL_surplus_14.2.2.2.2.2.2.2 rfl rfl rfl rfl (PN.mk g rfl rfl)
def gL_place (N K : Nat) (S : CS) (p0 : Int32) (p1 : Int32) (nv : Int64) : Option (Int32 × CS × Int64) := wb (gX_place N K S p0 p1) (fun z => some ((0 : Int32), z.2, z.1.toInt64)) (some ((1 : Int32), S, nv)) none
set_option maxHeartbeats 4000000 in
set_option maxRecDepth 100000 in
theorem ogL_place {N K : Nat} {r : Nat → Nat} {o : Nat} {S : CS} {nv : Int64} {sv : Value} {p0 : Int32} {p1 : Int32} {x : Int32 × CS × Int64} (hE : gL_place N K S p0 p1 nv = some x) : OkM yL_place (.codeWith yL_place cL_place 5 (some .int) [(0, 11, 14, 19)]) (2 * K + 10) 2 12 [.ref (r 0), .int p0, .int p1, .ref o] (WX r S ++ [OC o nv sv]) ((PN (U := Int32 × CS × Int64) (fun z _ => some (.int z.1)) (fun z g => WX r z.2.1 ++ [OC o z.2.2 sv])) x) := by
  refine ok_ofH (by decide) (Nat.le_of_ble_eq_true rfl) hE ?_
  refine aw_locals (lv' := [(0, .ref (r 0)), (1, .int p0), (2, .int p1), (3, .ref o)]) [0, 1, 2, 3] rfl ?_
  refine aw_aload_n (q := 1) gdL_place_0.1 rfl 3 rfl ?_
  refine aw_aload_n (q := 2) gdL_place_0.2.1 rfl 0 rfl ?_
  refine aw_iload_n (q := 3) gdL_place_0.2.2.1 rfl 1 rfl ?_
  refine aw_iload_n (q := 4) gdL_place_0.2.2.2.1 rfl 2 rfl ?_
  refine aw_callC (q := 7) (hp1 := 14) (hp2 := 0) (kc1 := 0) (ks1 := 0) (wc := WX r S) (wr := [OC o nv sv]) (st1 := fun z g => [.int z.1, .ref o]) (ws1 := fun z g => [OC o nv sv] ++ WX r z.2) (As := [.ref (r 0), .int p0, .int p1]) [0, 1, 2, 3, 4, 5, 6, 7, 8, 9, 10, 11, 12, 13, 14, 15, 16, 17, 18, 19, 20, 21, 22, 23, 24, 25, 26] [27] (fun _ => runV (q0 := 0) gdL_place_0.2.2.2.2.1 mi_X5_place im_X5_place se_X5_place ml_L_31 (by omega) rfl (Nat.le_of_ble_eq_true rfl) rfl rfl rfl rfl) (fun x9 h9 => ogX_place h9) rfl rfl rfl rfl rfl (by decide +kernel) (by omega) (by omega) (fun _ _ => rfl) (fun _ _ => rfl) (Or.inr ⟨⟨[], _, [], "java/lang/IndexOutOfBoundsException", rfl, (fun z h => by cases h), by decide, by decide, cl_L_19, ca_IndexOutOfBoundsException, rfl⟩, fun q9 => ?_⟩) (Or.inl rfl) (fun z g => ?_)
  · refine aw_astore (q := 16) (lv' := [(4, .ref q9), (0, .ref (r 0)), (1, .int p0), (2, .int p1), (3, .ref o)]) gdL_place_14.1 rfl (by decide) rfl ?_
    refine aw_iconst (q := 17) (v := 1) gdL_place_14.2.1 rfl (by decide) ?_
    exact aw_ireturn [1, 2, 3, 4, 5, 6, 7, 8, 9, 10, 11, 12, 13, 14, 15, 16, 17, 18, 19, 20, 21, 22, 23, 24, 25, 26, 27, 0] gdL_place_14.2.2.1 rfl rfl rfl rfl (PN.mk (fun _ => 0) rfl rfl)
  refine aw_i2l (q := 8) gdL_place_0.2.2.2.2.2.1 rfl ?_
  refine aw_putN (q := 11) (ws' := [OC o z.1.toInt64 sv] ++ WX r z.2) gdL_place_0.2.2.2.2.2.2.1 rfl fn_L_13 0 rfl rfl rfl (Nat.le_of_ble_eq_true rfl) rfl ?_
  refine aw_goto (tgt := 18) gdL_place_0.2.2.2.2.2.2.2 (by decide) ?_
  refine aw_iconst (q := 19) (v := 0) gdL_place_14.2.2.2.1 rfl (by decide) ?_
  exact aw_ireturn [1, 2, 3, 4, 5, 6, 7, 8, 9, 10, 11, 12, 13, 14, 15, 16, 17, 18, 19, 20, 21, 22, 23, 24, 25, 26, 27, 0] gdL_place_14.2.2.2.2 rfl rfl rfl rfl (PN.mk g rfl rfl)
def gL_learn (N K : Nat) (S : CS) (p0 : Int32) (p1 : Int32) (p2 : Int32) (p3 : Int32) (nv : Int64) : Option (Int32 × CS × Int64) := wb (gX_learn N K S p0 p1 p2 p3) (fun z => some ((0 : Int32), z.2, z.1.toInt64)) (some ((1 : Int32), S, nv)) (some ((2 : Int32), S, nv))
set_option maxHeartbeats 4000000 in
set_option maxRecDepth 100000 in
theorem ogL_learn {N K : Nat} {r : Nat → Nat} {o : Nat} {S : CS} {nv : Int64} {sv : Value} {p0 : Int32} {p1 : Int32} {p2 : Int32} {p3 : Int32} {x : Int32 × CS × Int64} (hE : gL_learn N K S p0 p1 p2 p3 nv = some x) : OkM yL_learn (.codeWith yL_learn cL_learn 7 (some .int) [(0, 15, 18, 19), (0, 15, 22, 21)]) (11) 4 24 [.ref (r 0), .int p0, .int p1, .int p2, .int p3, .ref o] (WX r S ++ [OC o nv sv]) ((PN (U := Int32 × CS × Int64) (fun z _ => some (.int z.1)) (fun z g => WX r z.2.1 ++ [OC o z.2.2 sv])) x) := by
  refine ok_ofH (by decide) (Nat.le_of_ble_eq_true rfl) hE ?_
  refine aw_locals (lv' := [(0, .ref (r 0)), (1, .int p0), (2, .int p1), (3, .int p2), (4, .int p3), (5, .ref o)]) [0, 1, 2, 3, 4, 5] rfl ?_
  refine aw_aload (q := 2) gdL_learn_0.1 rfl 5 rfl ?_
  refine aw_aload_n (q := 3) gdL_learn_0.2.1 rfl 0 rfl ?_
  refine aw_iload_n (q := 4) gdL_learn_0.2.2.1 rfl 1 rfl ?_
  refine aw_iload_n (q := 5) gdL_learn_0.2.2.2.1 rfl 2 rfl ?_
  refine aw_iload_n (q := 6) gdL_learn_0.2.2.2.2.1 rfl 3 rfl ?_
  refine aw_iload (q := 8) gdL_learn_0.2.2.2.2.2.1 rfl 4 rfl ?_
  refine aw_callC (q := 11) (hp1 := 18) (hp2 := 22) (kc1 := 0) (ks1 := 0) (wc := WX r S) (wr := [OC o nv sv]) (st1 := fun z g => [.int z.1, .ref o]) (ws1 := fun z g => [OC o nv sv] ++ WX r z.2) (As := [.ref (r 0), .int p0, .int p1, .int p2, .int p3]) [0, 1, 2, 3, 4, 5, 6, 7, 8, 9, 10, 11, 12, 13, 14, 15, 16, 17, 18, 19, 20, 21, 22, 23, 24, 25, 26] [27] (fun _ => runV (q0 := 0) gdL_learn_0.2.2.2.2.2.2.1 mi_X5_learn im_X5_learn se_X5_learn ml_L_34 (by omega) rfl (Nat.le_of_ble_eq_true rfl) rfl rfl rfl rfl) (fun x9 h9 => ogX_learn h9) rfl rfl rfl rfl rfl (by decide +kernel) (by omega) (by omega) (fun _ _ => rfl) (fun _ _ => rfl) (Or.inr ⟨⟨[], _, [_], "java/lang/IndexOutOfBoundsException", rfl, (fun z h => by cases h), by decide, by decide, cl_L_19, ca_IndexOutOfBoundsException, rfl⟩, fun q9 => ?_⟩) (Or.inr ⟨⟨[_], _, [], "java/lang/IllegalArgumentException", rfl, (fun z h => by rcases List.mem_cons.mp h with rfl | h <;> first | exact ⟨by decide, rfl, cl_L_19⟩ | cases h), by decide, by decide, cl_L_21, ca_IllegalArgumentException, rfl⟩, fun q9 => ?_⟩) (fun z g => ?_)
  · refine aw_astore (q := 20) (lv' := [(6, .ref q9), (0, .ref (r 0)), (1, .int p0), (2, .int p1), (3, .int p2), (4, .int p3), (5, .ref o)]) gdL_learn_12.2.2.1 rfl (by decide) rfl ?_
    refine aw_iconst (q := 21) (v := 1) gdL_learn_12.2.2.2.1 rfl (by decide) ?_
    exact aw_ireturn [1, 2, 3, 4, 5, 6, 7, 8, 9, 10, 11, 12, 13, 14, 15, 16, 17, 18, 19, 20, 21, 22, 23, 24, 25, 26, 27, 0] gdL_learn_12.2.2.2.2.1 rfl rfl rfl rfl (PN.mk (fun _ => 0) rfl rfl)
  · refine aw_astore (q := 24) (lv' := [(6, .ref q9), (0, .ref (r 0)), (1, .int p0), (2, .int p1), (3, .int p2), (4, .int p3), (5, .ref o)]) gdL_learn_12.2.2.2.2.2.1 rfl (by decide) rfl ?_
    refine aw_iconst (q := 25) (v := 2) gdL_learn_12.2.2.2.2.2.2.1 rfl (by decide) ?_
    exact aw_ireturn [1, 2, 3, 4, 5, 6, 7, 8, 9, 10, 11, 12, 13, 14, 15, 16, 17, 18, 19, 20, 21, 22, 23, 24, 25, 26, 27, 0] gdL_learn_12.2.2.2.2.2.2.2 rfl rfl rfl rfl (PN.mk (fun _ => 0) rfl rfl)
  refine aw_i2l (q := 12) gdL_learn_0.2.2.2.2.2.2.2 rfl ?_
  refine aw_putN (q := 15) (ws' := [OC o z.1.toInt64 sv] ++ WX r z.2) gdL_learn_12.1 rfl fn_L_13 0 rfl rfl rfl (Nat.le_of_ble_eq_true rfl) rfl ?_
  refine aw_goto (tgt := 26) gdL_learn_12.2.1 (by decide) ?_
  refine aw_iconst (q := 27) (v := 0) gdL_learn_26.1 rfl (by decide) ?_
  exact aw_ireturn [1, 2, 3, 4, 5, 6, 7, 8, 9, 10, 11, 12, 13, 14, 15, 16, 17, 18, 19, 20, 21, 22, 23, 24, 25, 26, 27, 0] gdL_learn_26.2 rfl rfl rfl rfl (PN.mk g rfl rfl)
def gL_relearn (N K : Nat) (S : CS) (p0 : Int32) (p1 : Int32) (p2 : Int32) (p3 : Int32) (nv : Int64) : Option (Int32 × CS × Int64) := wb (gX_relearn N K S p0 p1 p2 p3) (fun z => some ((0 : Int32), z.2, z.1.toInt64)) (some ((1 : Int32), S, nv)) (some ((2 : Int32), S, nv))
set_option maxHeartbeats 4000000 in
set_option maxRecDepth 100000 in
theorem ogL_relearn {N K : Nat} {r : Nat → Nat} {o : Nat} {S : CS} {nv : Int64} {sv : Value} {p0 : Int32} {p1 : Int32} {p2 : Int32} {p3 : Int32} {x : Int32 × CS × Int64} (hE : gL_relearn N K S p0 p1 p2 p3 nv = some x) : OkM yL_relearn (.codeWith yL_relearn cL_relearn 7 (some .int) [(0, 15, 18, 19), (0, 15, 22, 21)]) (11) 4 24 [.ref (r 0), .int p0, .int p1, .int p2, .int p3, .ref o] (WX r S ++ [OC o nv sv]) ((PN (U := Int32 × CS × Int64) (fun z _ => some (.int z.1)) (fun z g => WX r z.2.1 ++ [OC o z.2.2 sv])) x) := by
  refine ok_ofH (by decide) (Nat.le_of_ble_eq_true rfl) hE ?_
  refine aw_locals (lv' := [(0, .ref (r 0)), (1, .int p0), (2, .int p1), (3, .int p2), (4, .int p3), (5, .ref o)]) [0, 1, 2, 3, 4, 5] rfl ?_
  refine aw_aload (q := 2) gdL_relearn_0.1 rfl 5 rfl ?_
  refine aw_aload_n (q := 3) gdL_relearn_0.2.1 rfl 0 rfl ?_
  refine aw_iload_n (q := 4) gdL_relearn_0.2.2.1 rfl 1 rfl ?_
  refine aw_iload_n (q := 5) gdL_relearn_0.2.2.2.1 rfl 2 rfl ?_
  refine aw_iload_n (q := 6) gdL_relearn_0.2.2.2.2.1 rfl 3 rfl ?_
  refine aw_iload (q := 8) gdL_relearn_0.2.2.2.2.2.1 rfl 4 rfl ?_
  refine aw_callC (q := 11) (hp1 := 18) (hp2 := 22) (kc1 := 0) (ks1 := 0) (wc := WX r S) (wr := [OC o nv sv]) (st1 := fun z g => [.int z.1, .ref o]) (ws1 := fun z g => [OC o nv sv] ++ WX r z.2) (As := [.ref (r 0), .int p0, .int p1, .int p2, .int p3]) [0, 1, 2, 3, 4, 5, 6, 7, 8, 9, 10, 11, 12, 13, 14, 15, 16, 17, 18, 19, 20, 21, 22, 23, 24, 25, 26] [27] (fun _ => runV (q0 := 0) gdL_relearn_0.2.2.2.2.2.2.1 mi_X5_relearn im_X5_relearn se_X5_relearn ml_L_37 (by omega) rfl (Nat.le_of_ble_eq_true rfl) rfl rfl rfl rfl) (fun x9 h9 => ogX_relearn h9) rfl rfl rfl rfl rfl (by decide +kernel) (by omega) (by omega) (fun _ _ => rfl) (fun _ _ => rfl) (Or.inr ⟨⟨[], _, [_], "java/lang/IndexOutOfBoundsException", rfl, (fun z h => by cases h), by decide, by decide, cl_L_19, ca_IndexOutOfBoundsException, rfl⟩, fun q9 => ?_⟩) (Or.inr ⟨⟨[_], _, [], "java/lang/IllegalArgumentException", rfl, (fun z h => by rcases List.mem_cons.mp h with rfl | h <;> first | exact ⟨by decide, rfl, cl_L_19⟩ | cases h), by decide, by decide, cl_L_21, ca_IllegalArgumentException, rfl⟩, fun q9 => ?_⟩) (fun z g => ?_)
  · refine aw_astore (q := 20) (lv' := [(6, .ref q9), (0, .ref (r 0)), (1, .int p0), (2, .int p1), (3, .int p2), (4, .int p3), (5, .ref o)]) gdL_relearn_12.2.2.1 rfl (by decide) rfl ?_
    refine aw_iconst (q := 21) (v := 1) gdL_relearn_12.2.2.2.1 rfl (by decide) ?_
    exact aw_ireturn [1, 2, 3, 4, 5, 6, 7, 8, 9, 10, 11, 12, 13, 14, 15, 16, 17, 18, 19, 20, 21, 22, 23, 24, 25, 26, 27, 0] gdL_relearn_12.2.2.2.2.1 rfl rfl rfl rfl (PN.mk (fun _ => 0) rfl rfl)
  · refine aw_astore (q := 24) (lv' := [(6, .ref q9), (0, .ref (r 0)), (1, .int p0), (2, .int p1), (3, .int p2), (4, .int p3), (5, .ref o)]) gdL_relearn_12.2.2.2.2.2.1 rfl (by decide) rfl ?_
    refine aw_iconst (q := 25) (v := 2) gdL_relearn_12.2.2.2.2.2.2.1 rfl (by decide) ?_
    exact aw_ireturn [1, 2, 3, 4, 5, 6, 7, 8, 9, 10, 11, 12, 13, 14, 15, 16, 17, 18, 19, 20, 21, 22, 23, 24, 25, 26, 27, 0] gdL_relearn_12.2.2.2.2.2.2.2 rfl rfl rfl rfl (PN.mk (fun _ => 0) rfl rfl)
  refine aw_i2l (q := 12) gdL_relearn_0.2.2.2.2.2.2.2 rfl ?_
  refine aw_putN (q := 15) (ws' := [OC o z.1.toInt64 sv] ++ WX r z.2) gdL_relearn_12.1 rfl fn_L_13 0 rfl rfl rfl (Nat.le_of_ble_eq_true rfl) rfl ?_
  refine aw_goto (tgt := 26) gdL_relearn_12.2.1 (by decide) ?_
  refine aw_iconst (q := 27) (v := 0) gdL_relearn_26.1 rfl (by decide) ?_
  exact aw_ireturn [1, 2, 3, 4, 5, 6, 7, 8, 9, 10, 11, 12, 13, 14, 15, 16, 17, 18, 19, 20, 21, 22, 23, 24, 25, 26, 27, 0] gdL_relearn_26.2 rfl rfl rfl rfl (PN.mk g rfl rfl)
def gL_forget (N K : Nat) (S : CS) (p0 : Int32) (p1 : Int32) (p2 : Int32) (p3 : Int32) (nv : Int64) : Option (Int32 × CS × Int64) := wb (gX_forget N K S p0 p1 p2 p3) (fun z => some ((0 : Int32), z.2, z.1.toInt64)) (some ((1 : Int32), S, nv)) (some ((2 : Int32), S, nv))
set_option maxHeartbeats 4000000 in
set_option maxRecDepth 100000 in
theorem ogL_forget {N K : Nat} {r : Nat → Nat} {o : Nat} {S : CS} {nv : Int64} {sv : Value} {p0 : Int32} {p1 : Int32} {p2 : Int32} {p3 : Int32} {x : Int32 × CS × Int64} (hE : gL_forget N K S p0 p1 p2 p3 nv = some x) : OkM yL_forget (.codeWith yL_forget cL_forget 7 (some .int) [(0, 15, 18, 19), (0, 15, 22, 21)]) (11) 4 24 [.ref (r 0), .int p0, .int p1, .int p2, .int p3, .ref o] (WX r S ++ [OC o nv sv]) ((PN (U := Int32 × CS × Int64) (fun z _ => some (.int z.1)) (fun z g => WX r z.2.1 ++ [OC o z.2.2 sv])) x) := by
  refine ok_ofH (by decide) (Nat.le_of_ble_eq_true rfl) hE ?_
  refine aw_locals (lv' := [(0, .ref (r 0)), (1, .int p0), (2, .int p1), (3, .int p2), (4, .int p3), (5, .ref o)]) [0, 1, 2, 3, 4, 5] rfl ?_
  refine aw_aload (q := 2) gdL_forget_0.1 rfl 5 rfl ?_
  refine aw_aload_n (q := 3) gdL_forget_0.2.1 rfl 0 rfl ?_
  refine aw_iload_n (q := 4) gdL_forget_0.2.2.1 rfl 1 rfl ?_
  refine aw_iload_n (q := 5) gdL_forget_0.2.2.2.1 rfl 2 rfl ?_
  refine aw_iload_n (q := 6) gdL_forget_0.2.2.2.2.1 rfl 3 rfl ?_
  refine aw_iload (q := 8) gdL_forget_0.2.2.2.2.2.1 rfl 4 rfl ?_
  refine aw_callC (q := 11) (hp1 := 18) (hp2 := 22) (kc1 := 0) (ks1 := 0) (wc := WX r S) (wr := [OC o nv sv]) (st1 := fun z g => [.int z.1, .ref o]) (ws1 := fun z g => [OC o nv sv] ++ WX r z.2) (As := [.ref (r 0), .int p0, .int p1, .int p2, .int p3]) [0, 1, 2, 3, 4, 5, 6, 7, 8, 9, 10, 11, 12, 13, 14, 15, 16, 17, 18, 19, 20, 21, 22, 23, 24, 25, 26] [27] (fun _ => runV (q0 := 0) gdL_forget_0.2.2.2.2.2.2.1 mi_X5_forget im_X5_forget se_X5_forget ml_L_40 (by omega) rfl (Nat.le_of_ble_eq_true rfl) rfl rfl rfl rfl) (fun x9 h9 => ogX_forget h9) rfl rfl rfl rfl rfl (by decide +kernel) (by omega) (by omega) (fun _ _ => rfl) (fun _ _ => rfl) (Or.inr ⟨⟨[], _, [_], "java/lang/IndexOutOfBoundsException", rfl, (fun z h => by cases h), by decide, by decide, cl_L_19, ca_IndexOutOfBoundsException, rfl⟩, fun q9 => ?_⟩) (Or.inr ⟨⟨[_], _, [], "java/lang/IllegalArgumentException", rfl, (fun z h => by rcases List.mem_cons.mp h with rfl | h <;> first | exact ⟨by decide, rfl, cl_L_19⟩ | cases h), by decide, by decide, cl_L_21, ca_IllegalArgumentException, rfl⟩, fun q9 => ?_⟩) (fun z g => ?_)
  · refine aw_astore (q := 20) (lv' := [(6, .ref q9), (0, .ref (r 0)), (1, .int p0), (2, .int p1), (3, .int p2), (4, .int p3), (5, .ref o)]) gdL_forget_12.2.2.1 rfl (by decide) rfl ?_
    refine aw_iconst (q := 21) (v := 1) gdL_forget_12.2.2.2.1 rfl (by decide) ?_
    exact aw_ireturn [1, 2, 3, 4, 5, 6, 7, 8, 9, 10, 11, 12, 13, 14, 15, 16, 17, 18, 19, 20, 21, 22, 23, 24, 25, 26, 27, 0] gdL_forget_12.2.2.2.2.1 rfl rfl rfl rfl (PN.mk (fun _ => 0) rfl rfl)
  · refine aw_astore (q := 24) (lv' := [(6, .ref q9), (0, .ref (r 0)), (1, .int p0), (2, .int p1), (3, .int p2), (4, .int p3), (5, .ref o)]) gdL_forget_12.2.2.2.2.2.1 rfl (by decide) rfl ?_
    refine aw_iconst (q := 25) (v := 2) gdL_forget_12.2.2.2.2.2.2.1 rfl (by decide) ?_
    exact aw_ireturn [1, 2, 3, 4, 5, 6, 7, 8, 9, 10, 11, 12, 13, 14, 15, 16, 17, 18, 19, 20, 21, 22, 23, 24, 25, 26, 27, 0] gdL_forget_12.2.2.2.2.2.2.2 rfl rfl rfl rfl (PN.mk (fun _ => 0) rfl rfl)
  refine aw_i2l (q := 12) gdL_forget_0.2.2.2.2.2.2.2 rfl ?_
  refine aw_putN (q := 15) (ws' := [OC o z.1.toInt64 sv] ++ WX r z.2) gdL_forget_12.1 rfl fn_L_13 0 rfl rfl rfl (Nat.le_of_ble_eq_true rfl) rfl ?_
  refine aw_goto (tgt := 26) gdL_forget_12.2.1 (by decide) ?_
  refine aw_iconst (q := 27) (v := 0) gdL_forget_26.1 rfl (by decide) ?_
  exact aw_ireturn [1, 2, 3, 4, 5, 6, 7, 8, 9, 10, 11, 12, 13, 14, 15, 16, 17, 18, 19, 20, 21, 22, 23, 24, 25, 26, 27, 0] gdL_forget_26.2 rfl rfl rfl rfl (PN.mk g rfl rfl)
def gL_forgetIf (N K : Nat) (S : CS) (p0 : Int32) (p1 : Int32) (p2 : Int32) (p3 : Int32) (p4 : Int32) (nv : Int64) : Option (Int32 × CS × Int64) := wb (gX_forgetIf N K S p0 p1 p2 p3 p4) (fun z => some ((0 : Int32), z.2, z.1.toInt64)) (some ((1 : Int32), S, nv)) (some ((2 : Int32), S, nv))
set_option maxHeartbeats 4000000 in
set_option maxRecDepth 100000 in
theorem ogL_forgetIf {N K : Nat} {r : Nat → Nat} {o : Nat} {S : CS} {nv : Int64} {sv : Value} {p0 : Int32} {p1 : Int32} {p2 : Int32} {p3 : Int32} {p4 : Int32} {x : Int32 × CS × Int64} (hE : gL_forgetIf N K S p0 p1 p2 p3 p4 nv = some x) : OkM yL_forgetIf (.codeWith yL_forgetIf cL_forgetIf 8 (some .int) [(0, 17, 20, 19), (0, 17, 24, 21)]) (11) 4 24 [.ref (r 0), .int p0, .int p1, .int p2, .int p3, .int p4, .ref o] (WX r S ++ [OC o nv sv]) ((PN (U := Int32 × CS × Int64) (fun z _ => some (.int z.1)) (fun z g => WX r z.2.1 ++ [OC o z.2.2 sv])) x) := by
  refine ok_ofH (by decide) (Nat.le_of_ble_eq_true rfl) hE ?_
  refine aw_locals (lv' := [(0, .ref (r 0)), (1, .int p0), (2, .int p1), (3, .int p2), (4, .int p3), (5, .int p4), (6, .ref o)]) [0, 1, 2, 3, 4, 5, 6] rfl ?_
  refine aw_aload (q := 2) gdL_forgetIf_0.1 rfl 6 rfl ?_
  refine aw_aload_n (q := 3) gdL_forgetIf_0.2.1 rfl 0 rfl ?_
  refine aw_iload_n (q := 4) gdL_forgetIf_0.2.2.1 rfl 1 rfl ?_
  refine aw_iload_n (q := 5) gdL_forgetIf_0.2.2.2.1 rfl 2 rfl ?_
  refine aw_iload_n (q := 6) gdL_forgetIf_0.2.2.2.2.1 rfl 3 rfl ?_
  refine aw_iload (q := 8) gdL_forgetIf_0.2.2.2.2.2.1 rfl 4 rfl ?_
  refine aw_iload (q := 10) gdL_forgetIf_0.2.2.2.2.2.2.1 rfl 5 rfl ?_
  refine aw_callC (q := 13) (hp1 := 20) (hp2 := 24) (kc1 := 0) (ks1 := 0) (wc := WX r S) (wr := [OC o nv sv]) (st1 := fun z g => [.int z.1, .ref o]) (ws1 := fun z g => [OC o nv sv] ++ WX r z.2) (As := [.ref (r 0), .int p0, .int p1, .int p2, .int p3, .int p4]) [0, 1, 2, 3, 4, 5, 6, 7, 8, 9, 10, 11, 12, 13, 14, 15, 16, 17, 18, 19, 20, 21, 22, 23, 24, 25, 26] [27] (fun _ => runV (q0 := 0) gdL_forgetIf_0.2.2.2.2.2.2.2 mi_X5_forgetIf im_X5_forgetIf se_X5_forgetIf ml_L_43 (by omega) rfl (Nat.le_of_ble_eq_true rfl) rfl rfl rfl rfl) (fun x9 h9 => ogX_forgetIf h9) rfl rfl rfl rfl rfl (by decide +kernel) (by omega) (by omega) (fun _ _ => rfl) (fun _ _ => rfl) (Or.inr ⟨⟨[], _, [_], "java/lang/IndexOutOfBoundsException", rfl, (fun z h => by cases h), by decide, by decide, cl_L_19, ca_IndexOutOfBoundsException, rfl⟩, fun q9 => ?_⟩) (Or.inr ⟨⟨[_], _, [], "java/lang/IllegalArgumentException", rfl, (fun z h => by rcases List.mem_cons.mp h with rfl | h <;> first | exact ⟨by decide, rfl, cl_L_19⟩ | cases h), by decide, by decide, cl_L_21, ca_IllegalArgumentException, rfl⟩, fun q9 => ?_⟩) (fun z g => ?_)
  · refine aw_astore (q := 22) (lv' := [(7, .ref q9), (0, .ref (r 0)), (1, .int p0), (2, .int p1), (3, .int p2), (4, .int p3), (5, .int p4), (6, .ref o)]) gdL_forgetIf_13.2.2.2.1 rfl (by decide) rfl ?_
    refine aw_iconst (q := 23) (v := 1) gdL_forgetIf_13.2.2.2.2.1 rfl (by decide) ?_
    exact aw_ireturn [1, 2, 3, 4, 5, 6, 7, 8, 9, 10, 11, 12, 13, 14, 15, 16, 17, 18, 19, 20, 21, 22, 23, 24, 25, 26, 27, 0] gdL_forgetIf_13.2.2.2.2.2.1 rfl rfl rfl rfl (PN.mk (fun _ => 0) rfl rfl)
  · refine aw_astore (q := 26) (lv' := [(7, .ref q9), (0, .ref (r 0)), (1, .int p0), (2, .int p1), (3, .int p2), (4, .int p3), (5, .int p4), (6, .ref o)]) gdL_forgetIf_13.2.2.2.2.2.2.1 rfl (by decide) rfl ?_
    refine aw_iconst (q := 27) (v := 2) gdL_forgetIf_13.2.2.2.2.2.2.2 rfl (by decide) ?_
    exact aw_ireturn [1, 2, 3, 4, 5, 6, 7, 8, 9, 10, 11, 12, 13, 14, 15, 16, 17, 18, 19, 20, 21, 22, 23, 24, 25, 26, 27, 0] gdL_forgetIf_27.1 rfl rfl rfl rfl (PN.mk (fun _ => 0) rfl rfl)
  refine aw_i2l (q := 14) gdL_forgetIf_13.1 rfl ?_
  refine aw_putN (q := 17) (ws' := [OC o z.1.toInt64 sv] ++ WX r z.2) gdL_forgetIf_13.2.1 rfl fn_L_13 0 rfl rfl rfl (Nat.le_of_ble_eq_true rfl) rfl ?_
  refine aw_goto (tgt := 28) gdL_forgetIf_13.2.2.1 (by decide) ?_
  refine aw_iconst (q := 29) (v := 0) gdL_forgetIf_27.2.1 rfl (by decide) ?_
  exact aw_ireturn [1, 2, 3, 4, 5, 6, 7, 8, 9, 10, 11, 12, 13, 14, 15, 16, 17, 18, 19, 20, 21, 22, 23, 24, 25, 26, 27, 0] gdL_forgetIf_27.2.2 rfl rfl rfl rfl (PN.mk g rfl rfl)
def gL_forgetAll (N K : Nat) (S : CS) (p0 : Int32) (p1 : Int32) (p2 : Int32) (nv : Int64) : Option (Int32 × CS × Int64) := wb (gX_forgetAll N K S p0 p1 p2) (fun z => some ((0 : Int32), z.2, z.1.toInt64)) (some ((1 : Int32), S, nv)) (some ((2 : Int32), S, nv))
set_option maxHeartbeats 4000000 in
set_option maxRecDepth 100000 in
theorem ogL_forgetAll {N K : Nat} {r : Nat → Nat} {o : Nat} {S : CS} {nv : Int64} {sv : Value} {p0 : Int32} {p1 : Int32} {p2 : Int32} {x : Int32 × CS × Int64} (hE : gL_forgetAll N K S p0 p1 p2 nv = some x) : OkM yL_forgetAll (.codeWith yL_forgetAll cL_forgetAll 6 (some .int) [(0, 13, 16, 19), (0, 13, 20, 21)]) (10) 2 12 [.ref (r 0), .int p0, .int p1, .int p2, .ref o] (WX r S ++ [OC o nv sv]) ((PN (U := Int32 × CS × Int64) (fun z _ => some (.int z.1)) (fun z g => WX r z.2.1 ++ [OC o z.2.2 sv])) x) := by
  refine ok_ofH (by decide) (Nat.le_of_ble_eq_true rfl) hE ?_
  refine aw_locals (lv' := [(0, .ref (r 0)), (1, .int p0), (2, .int p1), (3, .int p2), (4, .ref o)]) [0, 1, 2, 3, 4] rfl ?_
  refine aw_aload (q := 2) gdL_forgetAll_0.1 rfl 4 rfl ?_
  refine aw_aload_n (q := 3) gdL_forgetAll_0.2.1 rfl 0 rfl ?_
  refine aw_iload_n (q := 4) gdL_forgetAll_0.2.2.1 rfl 1 rfl ?_
  refine aw_iload_n (q := 5) gdL_forgetAll_0.2.2.2.1 rfl 2 rfl ?_
  refine aw_iload_n (q := 6) gdL_forgetAll_0.2.2.2.2.1 rfl 3 rfl ?_
  refine aw_callC (q := 9) (hp1 := 16) (hp2 := 20) (kc1 := 0) (ks1 := 0) (wc := WX r S) (wr := [OC o nv sv]) (st1 := fun z g => [.int z.1, .ref o]) (ws1 := fun z g => [OC o nv sv] ++ WX r z.2) (As := [.ref (r 0), .int p0, .int p1, .int p2]) [0, 1, 2, 3, 4, 5, 6, 7, 8, 9, 10, 11, 12, 13, 14, 15, 16, 17, 18, 19, 20, 21, 22, 23, 24, 25, 26] [27] (fun _ => runV (q0 := 0) gdL_forgetAll_0.2.2.2.2.2.1 mi_X5_forgetAll im_X5_forgetAll se_X5_forgetAll ml_L_47 (by omega) rfl (Nat.le_of_ble_eq_true rfl) rfl rfl rfl rfl) (fun x9 h9 => ogX_forgetAll h9) rfl rfl rfl rfl rfl (by decide +kernel) (by omega) (by omega) (fun _ _ => rfl) (fun _ _ => rfl) (Or.inr ⟨⟨[], _, [_], "java/lang/IndexOutOfBoundsException", rfl, (fun z h => by cases h), by decide, by decide, cl_L_19, ca_IndexOutOfBoundsException, rfl⟩, fun q9 => ?_⟩) (Or.inr ⟨⟨[_], _, [], "java/lang/IllegalArgumentException", rfl, (fun z h => by rcases List.mem_cons.mp h with rfl | h <;> first | exact ⟨by decide, rfl, cl_L_19⟩ | cases h), by decide, by decide, cl_L_21, ca_IllegalArgumentException, rfl⟩, fun q9 => ?_⟩) (fun z g => ?_)
  · refine aw_astore (q := 18) (lv' := [(5, .ref q9), (0, .ref (r 0)), (1, .int p0), (2, .int p1), (3, .int p2), (4, .ref o)]) gdL_forgetAll_13.2.1 rfl (by decide) rfl ?_
    refine aw_iconst (q := 19) (v := 1) gdL_forgetAll_13.2.2.1 rfl (by decide) ?_
    exact aw_ireturn [1, 2, 3, 4, 5, 6, 7, 8, 9, 10, 11, 12, 13, 14, 15, 16, 17, 18, 19, 20, 21, 22, 23, 24, 25, 26, 27, 0] gdL_forgetAll_13.2.2.2.1 rfl rfl rfl rfl (PN.mk (fun _ => 0) rfl rfl)
  · refine aw_astore (q := 22) (lv' := [(5, .ref q9), (0, .ref (r 0)), (1, .int p0), (2, .int p1), (3, .int p2), (4, .ref o)]) gdL_forgetAll_13.2.2.2.2.1 rfl (by decide) rfl ?_
    refine aw_iconst (q := 23) (v := 2) gdL_forgetAll_13.2.2.2.2.2.1 rfl (by decide) ?_
    exact aw_ireturn [1, 2, 3, 4, 5, 6, 7, 8, 9, 10, 11, 12, 13, 14, 15, 16, 17, 18, 19, 20, 21, 22, 23, 24, 25, 26, 27, 0] gdL_forgetAll_13.2.2.2.2.2.2.1 rfl rfl rfl rfl (PN.mk (fun _ => 0) rfl rfl)
  refine aw_i2l (q := 10) gdL_forgetAll_0.2.2.2.2.2.2.1 rfl ?_
  refine aw_putN (q := 13) (ws' := [OC o z.1.toInt64 sv] ++ WX r z.2) gdL_forgetAll_0.2.2.2.2.2.2.2 rfl fn_L_13 0 rfl rfl rfl (Nat.le_of_ble_eq_true rfl) rfl ?_
  refine aw_goto (tgt := 24) gdL_forgetAll_13.1 (by decide) ?_
  refine aw_iconst (q := 25) (v := 0) gdL_forgetAll_13.2.2.2.2.2.2.2 rfl (by decide) ?_
  exact aw_ireturn [1, 2, 3, 4, 5, 6, 7, 8, 9, 10, 11, 12, 13, 14, 15, 16, 17, 18, 19, 20, 21, 22, 23, 24, 25, 26, 27, 0] dL_forgetAll_25 rfl rfl rfl rfl (PN.mk g rfl rfl)
def gL_clear (N K : Nat) (S : CS) (p0 : Int32) (nv : Int64) : Option (Int32 × CS × Int64) := wb (gX_clear N K S p0) (fun z => some ((0 : Int32), z.2, z.1.toInt64)) (some ((1 : Int32), S, nv)) none
set_option maxHeartbeats 4000000 in
set_option maxRecDepth 100000 in
theorem ogL_clear {N K : Nat} {r : Nat → Nat} {o : Nat} {S : CS} {nv : Int64} {sv : Value} {p0 : Int32} {x : Int32 × CS × Int64} (hE : gL_clear N K S p0 nv = some x) : OkM yL_clear (.codeWith yL_clear cL_clear 4 (some .int) [(0, 10, 13, 19)]) (10) 1 6 [.ref (r 0), .int p0, .ref o] (WX r S ++ [OC o nv sv]) ((PN (U := Int32 × CS × Int64) (fun z _ => some (.int z.1)) (fun z g => WX r z.2.1 ++ [OC o z.2.2 sv])) x) := by
  refine ok_ofH (by decide) (Nat.le_of_ble_eq_true rfl) hE ?_
  refine aw_locals (lv' := [(0, .ref (r 0)), (1, .int p0), (2, .ref o)]) [0, 1, 2] rfl ?_
  refine aw_aload_n (q := 1) gdL_clear_0.1 rfl 2 rfl ?_
  refine aw_aload_n (q := 2) gdL_clear_0.2.1 rfl 0 rfl ?_
  refine aw_iload_n (q := 3) gdL_clear_0.2.2.1 rfl 1 rfl ?_
  refine aw_callC (q := 6) (hp1 := 13) (hp2 := 0) (kc1 := 0) (ks1 := 0) (wc := WX r S) (wr := [OC o nv sv]) (st1 := fun z g => [.int z.1, .ref o]) (ws1 := fun z g => [OC o nv sv] ++ WX r z.2) (As := [.ref (r 0), .int p0]) [0, 1, 2, 3, 4, 5, 6, 7, 8, 9, 10, 11, 12, 13, 14, 15, 16, 17, 18, 19, 20, 21, 22, 23, 24, 25, 26] [27] (fun _ => runV (q0 := 0) gdL_clear_0.2.2.2.1 mi_X5_clear im_X5_clear se_X5_clear ml_L_50 (by omega) rfl (Nat.le_of_ble_eq_true rfl) rfl rfl rfl rfl) (fun x9 h9 => ogX_clear h9) rfl rfl rfl rfl rfl (by decide +kernel) (by omega) (by omega) (fun _ _ => rfl) (fun _ _ => rfl) (Or.inr ⟨⟨[], _, [], "java/lang/IndexOutOfBoundsException", rfl, (fun z h => by cases h), by decide, by decide, cl_L_19, ca_IndexOutOfBoundsException, rfl⟩, fun q9 => ?_⟩) (Or.inl rfl) (fun z g => ?_)
  · refine aw_astore_n (q := 14) (lv' := [(3, .ref q9), (0, .ref (r 0)), (1, .int p0), (2, .ref o)]) gdL_clear_0.2.2.2.2.2.2.2 rfl (by decide) rfl ?_
    refine aw_iconst (q := 15) (v := 1) gdL_clear_14.1 rfl (by decide) ?_
    exact aw_ireturn [1, 2, 3, 4, 5, 6, 7, 8, 9, 10, 11, 12, 13, 14, 15, 16, 17, 18, 19, 20, 21, 22, 23, 24, 25, 26, 27, 0] gdL_clear_14.2.1 rfl rfl rfl rfl (PN.mk (fun _ => 0) rfl rfl)
  refine aw_i2l (q := 7) gdL_clear_0.2.2.2.2.1 rfl ?_
  refine aw_putN (q := 10) (ws' := [OC o z.1.toInt64 sv] ++ WX r z.2) gdL_clear_0.2.2.2.2.2.1 rfl fn_L_13 0 rfl rfl rfl (Nat.le_of_ble_eq_true rfl) rfl ?_
  refine aw_goto (tgt := 16) gdL_clear_0.2.2.2.2.2.2.1 (by decide) ?_
  refine aw_iconst (q := 17) (v := 0) gdL_clear_14.2.2.1 rfl (by decide) ?_
  exact aw_ireturn [1, 2, 3, 4, 5, 6, 7, 8, 9, 10, 11, 12, 13, 14, 15, 16, 17, 18, 19, 20, 21, 22, 23, 24, 25, 26, 27, 0] gdL_clear_14.2.2.2 rfl rfl rfl rfl (PN.mk g rfl rfl)
def gL_copy (N K : Nat) (S : CS) (p0 : Int32) (p1 : Int32) (nv : Int64) : Option (Int32 × CS × Int64) := wb (gX_copy N K S p0 p1) (fun z => some ((0 : Int32), z.2, z.1.toInt64)) (some ((1 : Int32), S, nv)) none
set_option maxHeartbeats 4000000 in
set_option maxRecDepth 100000 in
theorem ogL_copy {N K : Nat} {r : Nat → Nat} {o : Nat} {S : CS} {nv : Int64} {sv : Value} {p0 : Int32} {p1 : Int32} {x : Int32 × CS × Int64} (hE : gL_copy N K S p0 p1 nv = some x) : OkM yL_copy (.codeWith yL_copy cL_copy 5 (some .int) [(0, 11, 14, 19)]) (10) 2 12 [.ref (r 0), .int p0, .int p1, .ref o] (WX r S ++ [OC o nv sv]) ((PN (U := Int32 × CS × Int64) (fun z _ => some (.int z.1)) (fun z g => WX r z.2.1 ++ [OC o z.2.2 sv])) x) := by
  refine ok_ofH (by decide) (Nat.le_of_ble_eq_true rfl) hE ?_
  refine aw_locals (lv' := [(0, .ref (r 0)), (1, .int p0), (2, .int p1), (3, .ref o)]) [0, 1, 2, 3] rfl ?_
  refine aw_aload_n (q := 1) gdL_copy_0.1 rfl 3 rfl ?_
  refine aw_aload_n (q := 2) gdL_copy_0.2.1 rfl 0 rfl ?_
  refine aw_iload_n (q := 3) gdL_copy_0.2.2.1 rfl 1 rfl ?_
  refine aw_iload_n (q := 4) gdL_copy_0.2.2.2.1 rfl 2 rfl ?_
  refine aw_callC (q := 7) (hp1 := 14) (hp2 := 0) (kc1 := 0) (ks1 := 0) (wc := WX r S) (wr := [OC o nv sv]) (st1 := fun z g => [.int z.1, .ref o]) (ws1 := fun z g => [OC o nv sv] ++ WX r z.2) (As := [.ref (r 0), .int p0, .int p1]) [0, 1, 2, 3, 4, 5, 6, 7, 8, 9, 10, 11, 12, 13, 14, 15, 16, 17, 18, 19, 20, 21, 22, 23, 24, 25, 26] [27] (fun _ => runV (q0 := 0) gdL_copy_0.2.2.2.2.1 mi_X5_copy im_X5_copy se_X5_copy ml_L_54 (by omega) rfl (Nat.le_of_ble_eq_true rfl) rfl rfl rfl rfl) (fun x9 h9 => ogX_copy h9) rfl rfl rfl rfl rfl (by decide +kernel) (by omega) (by omega) (fun _ _ => rfl) (fun _ _ => rfl) (Or.inr ⟨⟨[], _, [], "java/lang/IndexOutOfBoundsException", rfl, (fun z h => by cases h), by decide, by decide, cl_L_19, ca_IndexOutOfBoundsException, rfl⟩, fun q9 => ?_⟩) (Or.inl rfl) (fun z g => ?_)
  · refine aw_astore (q := 16) (lv' := [(4, .ref q9), (0, .ref (r 0)), (1, .int p0), (2, .int p1), (3, .ref o)]) gdL_copy_14.1 rfl (by decide) rfl ?_
    refine aw_iconst (q := 17) (v := 1) gdL_copy_14.2.1 rfl (by decide) ?_
    exact aw_ireturn [1, 2, 3, 4, 5, 6, 7, 8, 9, 10, 11, 12, 13, 14, 15, 16, 17, 18, 19, 20, 21, 22, 23, 24, 25, 26, 27, 0] gdL_copy_14.2.2.1 rfl rfl rfl rfl (PN.mk (fun _ => 0) rfl rfl)
  refine aw_i2l (q := 8) gdL_copy_0.2.2.2.2.2.1 rfl ?_
  refine aw_putN (q := 11) (ws' := [OC o z.1.toInt64 sv] ++ WX r z.2) gdL_copy_0.2.2.2.2.2.2.1 rfl fn_L_13 0 rfl rfl rfl (Nat.le_of_ble_eq_true rfl) rfl ?_
  refine aw_goto (tgt := 18) gdL_copy_0.2.2.2.2.2.2.2 (by decide) ?_
  refine aw_iconst (q := 19) (v := 0) gdL_copy_14.2.2.2.1 rfl (by decide) ?_
  exact aw_ireturn [1, 2, 3, 4, 5, 6, 7, 8, 9, 10, 11, 12, 13, 14, 15, 16, 17, 18, 19, 20, 21, 22, 23, 24, 25, 26, 27, 0] gdL_copy_14.2.2.2.2 rfl rfl rfl rfl (PN.mk g rfl rfl)
def gL_pour (N K : Nat) (S : CS) (p0 : Int32) (p1 : Int32) (nv : Int64) : Option (Int32 × CS × Int64) := wb (gX_pour N K S p0 p1) (fun z => some ((0 : Int32), z.2, z.1.toInt64)) (some ((1 : Int32), S, nv)) none
set_option maxHeartbeats 4000000 in
set_option maxRecDepth 100000 in
theorem ogL_pour {N K : Nat} {r : Nat → Nat} {o : Nat} {S : CS} {nv : Int64} {sv : Value} {p0 : Int32} {p1 : Int32} {x : Int32 × CS × Int64} (hE : gL_pour N K S p0 p1 nv = some x) : OkM yL_pour (.codeWith yL_pour cL_pour 5 (some .int) [(0, 11, 14, 19)]) (10) 2 12 [.ref (r 0), .int p0, .int p1, .ref o] (WX r S ++ [OC o nv sv]) ((PN (U := Int32 × CS × Int64) (fun z _ => some (.int z.1)) (fun z g => WX r z.2.1 ++ [OC o z.2.2 sv])) x) := by
  refine ok_ofH (by decide) (Nat.le_of_ble_eq_true rfl) hE ?_
  refine aw_locals (lv' := [(0, .ref (r 0)), (1, .int p0), (2, .int p1), (3, .ref o)]) [0, 1, 2, 3] rfl ?_
  refine aw_aload_n (q := 1) gdL_pour_0.1 rfl 3 rfl ?_
  refine aw_aload_n (q := 2) gdL_pour_0.2.1 rfl 0 rfl ?_
  refine aw_iload_n (q := 3) gdL_pour_0.2.2.1 rfl 1 rfl ?_
  refine aw_iload_n (q := 4) gdL_pour_0.2.2.2.1 rfl 2 rfl ?_
  refine aw_callC (q := 7) (hp1 := 14) (hp2 := 0) (kc1 := 0) (ks1 := 0) (wc := WX r S) (wr := [OC o nv sv]) (st1 := fun z g => [.int z.1, .ref o]) (ws1 := fun z g => [OC o nv sv] ++ WX r z.2) (As := [.ref (r 0), .int p0, .int p1]) [0, 1, 2, 3, 4, 5, 6, 7, 8, 9, 10, 11, 12, 13, 14, 15, 16, 17, 18, 19, 20, 21, 22, 23, 24, 25, 26] [27] (fun _ => runV (q0 := 0) gdL_pour_0.2.2.2.2.1 mi_X5_pour im_X5_pour se_X5_pour ml_L_57 (by omega) rfl (Nat.le_of_ble_eq_true rfl) rfl rfl rfl rfl) (fun x9 h9 => ogX_pour h9) rfl rfl rfl rfl rfl (by decide +kernel) (by omega) (by omega) (fun _ _ => rfl) (fun _ _ => rfl) (Or.inr ⟨⟨[], _, [], "java/lang/IndexOutOfBoundsException", rfl, (fun z h => by cases h), by decide, by decide, cl_L_19, ca_IndexOutOfBoundsException, rfl⟩, fun q9 => ?_⟩) (Or.inl rfl) (fun z g => ?_)
  · refine aw_astore (q := 16) (lv' := [(4, .ref q9), (0, .ref (r 0)), (1, .int p0), (2, .int p1), (3, .ref o)]) gdL_pour_14.1 rfl (by decide) rfl ?_
    refine aw_iconst (q := 17) (v := 1) gdL_pour_14.2.1 rfl (by decide) ?_
    exact aw_ireturn [1, 2, 3, 4, 5, 6, 7, 8, 9, 10, 11, 12, 13, 14, 15, 16, 17, 18, 19, 20, 21, 22, 23, 24, 25, 26, 27, 0] gdL_pour_14.2.2.1 rfl rfl rfl rfl (PN.mk (fun _ => 0) rfl rfl)
  refine aw_i2l (q := 8) gdL_pour_0.2.2.2.2.2.1 rfl ?_
  refine aw_putN (q := 11) (ws' := [OC o z.1.toInt64 sv] ++ WX r z.2) gdL_pour_0.2.2.2.2.2.2.1 rfl fn_L_13 0 rfl rfl rfl (Nat.le_of_ble_eq_true rfl) rfl ?_
  refine aw_goto (tgt := 18) gdL_pour_0.2.2.2.2.2.2.2 (by decide) ?_
  refine aw_iconst (q := 19) (v := 0) gdL_pour_14.2.2.2.1 rfl (by decide) ?_
  exact aw_ireturn [1, 2, 3, 4, 5, 6, 7, 8, 9, 10, 11, 12, 13, 14, 15, 16, 17, 18, 19, 20, 21, 22, 23, 24, 25, 26, 27, 0] gdL_pour_14.2.2.2.2 rfl rfl rfl rfl (PN.mk g rfl rfl)
def gL_isKept (N K : Nat) (S : CS) (p0 : Int32) (p1 : Int32) (p2 : Int32) (p3 : Int32) (p4 : Int32) (nv : Int64) : Option (Int32 × CS × Int64) := wb (gX_isKept N K S p0 p1 p2 p3 p4) (fun z => (if z.1 = 0 then some ((0 : Int32), z.2, (0 : Int64)) else some ((0 : Int32), z.2, (1 : Int64)))) (some ((1 : Int32), S, nv)) (some ((2 : Int32), S, nv))
set_option maxHeartbeats 4000000 in
set_option maxRecDepth 100000 in
theorem ogL_isKept {N K : Nat} {r : Nat → Nat} {o : Nat} {S : CS} {nv : Int64} {sv : Value} {p0 : Int32} {p1 : Int32} {p2 : Int32} {p3 : Int32} {p4 : Int32} {x : Int32 × CS × Int64} (hE : gL_isKept N K S p0 p1 p2 p3 p4 nv = some x) : OkM yL_isKept (.codeWith yL_isKept cL_isKept 8 (some .int) [(0, 24, 27, 19), (0, 24, 31, 21)]) (11) 5 30 [.ref (r 0), .int p0, .int p1, .int p2, .int p3, .int p4, .ref o] (WX r S ++ [OC o nv sv]) ((PN (U := Int32 × CS × Int64) (fun z _ => some (.int z.1)) (fun z g => WX r z.2.1 ++ [OC o z.2.2 sv])) x) := by
  refine ok_ofH (by decide) (Nat.le_of_ble_eq_true rfl) hE ?_
  refine aw_locals (lv' := [(0, .ref (r 0)), (1, .int p0), (2, .int p1), (3, .int p2), (4, .int p3), (5, .int p4), (6, .ref o)]) [0, 1, 2, 3, 4, 5, 6] rfl ?_
  refine aw_aload (q := 2) gdL_isKept_0.1 rfl 6 rfl ?_
  refine aw_aload_n (q := 3) gdL_isKept_0.2.1 rfl 0 rfl ?_
  refine aw_iload_n (q := 4) gdL_isKept_0.2.2.1 rfl 1 rfl ?_
  refine aw_iload_n (q := 5) gdL_isKept_0.2.2.2.1 rfl 2 rfl ?_
  refine aw_iload_n (q := 6) gdL_isKept_0.2.2.2.2.1 rfl 3 rfl ?_
  refine aw_iload (q := 8) gdL_isKept_0.2.2.2.2.2.1 rfl 4 rfl ?_
  refine aw_iload (q := 10) gdL_isKept_0.2.2.2.2.2.2.1 rfl 5 rfl ?_
  refine aw_callC (q := 13) (hp1 := 27) (hp2 := 31) (kc1 := 0) (ks1 := 0) (wc := WX r S) (wr := [OC o nv sv]) (st1 := fun z g => [.int z.1, .ref o]) (ws1 := fun z g => [OC o nv sv] ++ WX r z.2) (As := [.ref (r 0), .int p0, .int p1, .int p2, .int p3, .int p4]) [0, 1, 2, 3, 4, 5, 6, 7, 8, 9, 10, 11, 12, 13, 14, 15, 16, 17, 18, 19, 20, 21, 22, 23, 24, 25, 26] [27] (fun _ => runV (q0 := 0) gdL_isKept_0.2.2.2.2.2.2.2 mi_X5_isKept im_X5_isKept se_X5_isKept ml_L_60 (by omega) rfl (Nat.le_of_ble_eq_true rfl) rfl rfl rfl rfl) (fun x9 h9 => ogX_isKept h9) rfl rfl rfl rfl rfl (by decide +kernel) (by omega) (by omega) (fun _ _ => rfl) (fun _ _ => rfl) (Or.inr ⟨⟨[], _, [_], "java/lang/IndexOutOfBoundsException", rfl, (fun z h => by cases h), by decide, by decide, cl_L_19, ca_IndexOutOfBoundsException, rfl⟩, fun q9 => ?_⟩) (Or.inr ⟨⟨[_], _, [], "java/lang/IllegalArgumentException", rfl, (fun z h => by rcases List.mem_cons.mp h with rfl | h <;> first | exact ⟨by decide, rfl, cl_L_19⟩ | cases h), by decide, by decide, cl_L_21, ca_IllegalArgumentException, rfl⟩, fun q9 => ?_⟩) (fun z g => ?_)
  · refine aw_astore (q := 29) (lv' := [(7, .ref q9), (0, .ref (r 0)), (1, .int p0), (2, .int p1), (3, .int p2), (4, .int p3), (5, .int p4), (6, .ref o)]) gdL_isKept_13.2.2.2.2.2.2.1 rfl (by decide) rfl ?_
    refine aw_iconst (q := 30) (v := 1) gdL_isKept_13.2.2.2.2.2.2.2 rfl (by decide) ?_
    exact aw_ireturn [1, 2, 3, 4, 5, 6, 7, 8, 9, 10, 11, 12, 13, 14, 15, 16, 17, 18, 19, 20, 21, 22, 23, 24, 25, 26, 27, 0] gdL_isKept_30.1 rfl rfl rfl rfl (PN.mk (fun _ => 0) rfl rfl)
  · refine aw_astore (q := 33) (lv' := [(7, .ref q9), (0, .ref (r 0)), (1, .int p0), (2, .int p1), (3, .int p2), (4, .int p3), (5, .int p4), (6, .ref o)]) gdL_isKept_30.2.1 rfl (by decide) rfl ?_
    refine aw_iconst (q := 34) (v := 2) gdL_isKept_30.2.2.1 rfl (by decide) ?_
    exact aw_ireturn [1, 2, 3, 4, 5, 6, 7, 8, 9, 10, 11, 12, 13, 14, 15, 16, 17, 18, 19, 20, 21, 22, 23, 24, 25, 26, 27, 0] gdL_isKept_30.2.2.2.1 rfl rfl rfl rfl (PN.mk (fun _ => 0) rfl rfl)
  refine aw_if_eq (tgt := 20) (q := 16) gdL_isKept_13.1 (by decide) rfl (fun h0 => ?_) (fun h0 => ?_)
  · refine aw_lconst (q := 21) (v := 0) gdL_isKept_13.2.2.2.1 rfl (by decide) ?_
    refine aw_putN (q := 24) (ws' := [OC o 0 sv] ++ WX r z.2) gdL_isKept_13.2.2.2.2.1 rfl fn_L_13 0 rfl rfl rfl (Nat.le_of_ble_eq_true rfl) rfl ?_
    refine aw_goto (tgt := 35) gdL_isKept_13.2.2.2.2.2.1 (by decide) ?_
    refine aw_iconst (q := 36) (v := 0) gdL_isKept_30.2.2.2.2.1 rfl (by decide) ?_
    exact aw_ireturn [1, 2, 3, 4, 5, 6, 7, 8, 9, 10, 11, 12, 13, 14, 15, 16, 17, 18, 19, 20, 21, 22, 23, 24, 25, 26, 27, 0] gdL_isKept_30.2.2.2.2.2 rfl rfl rfl rfl (PN.mk g rfl rfl)
  · refine aw_lconst (q := 17) (v := 1) gdL_isKept_13.2.1 rfl (by decide) ?_
    refine aw_goto (tgt := 21) gdL_isKept_13.2.2.1 (by decide) ?_
    refine aw_putN (q := 24) (ws' := [OC o 1 sv] ++ WX r z.2) gdL_isKept_13.2.2.2.2.1 rfl fn_L_13 0 rfl rfl rfl (Nat.le_of_ble_eq_true rfl) rfl ?_
    refine aw_goto (tgt := 35) gdL_isKept_13.2.2.2.2.2.1 (by decide) ?_
    refine aw_iconst (q := 36) (v := 0) gdL_isKept_30.2.2.2.2.1 rfl (by decide) ?_
    exact aw_ireturn [1, 2, 3, 4, 5, 6, 7, 8, 9, 10, 11, 12, 13, 14, 15, 16, 17, 18, 19, 20, 21, 22, 23, 24, 25, 26, 27, 0] gdL_isKept_30.2.2.2.2.2 rfl rfl rfl rfl (PN.mk g rfl rfl)
def gL_worthOr (N K : Nat) (S : CS) (p0 : Int32) (p1 : Int32) (p2 : Int32) (p3 : Int32) (p4 : Int32) (nv : Int64) : Option (Int32 × CS × Int64) := wb (gX_worthOr N K S p0 p1 p2 p3 p4) (fun z => some ((0 : Int32), z.2, z.1.toInt64)) (some ((1 : Int32), S, nv)) (some ((2 : Int32), S, nv))
set_option maxHeartbeats 4000000 in
set_option maxRecDepth 100000 in
theorem ogL_worthOr {N K : Nat} {r : Nat → Nat} {o : Nat} {S : CS} {nv : Int64} {sv : Value} {p0 : Int32} {p1 : Int32} {p2 : Int32} {p3 : Int32} {p4 : Int32} {x : Int32 × CS × Int64} (hE : gL_worthOr N K S p0 p1 p2 p3 p4 nv = some x) : OkM yL_worthOr (.codeWith yL_worthOr cL_worthOr 8 (some .int) [(0, 17, 20, 19), (0, 17, 24, 21)]) (11) 4 24 [.ref (r 0), .int p0, .int p1, .int p2, .int p3, .int p4, .ref o] (WX r S ++ [OC o nv sv]) ((PN (U := Int32 × CS × Int64) (fun z _ => some (.int z.1)) (fun z g => WX r z.2.1 ++ [OC o z.2.2 sv])) x) := by
  refine ok_ofH (by decide) (Nat.le_of_ble_eq_true rfl) hE ?_
  refine aw_locals (lv' := [(0, .ref (r 0)), (1, .int p0), (2, .int p1), (3, .int p2), (4, .int p3), (5, .int p4), (6, .ref o)]) [0, 1, 2, 3, 4, 5, 6] rfl ?_
  refine aw_aload (q := 2) gdL_worthOr_0.1 rfl 6 rfl ?_
  refine aw_aload_n (q := 3) gdL_worthOr_0.2.1 rfl 0 rfl ?_
  refine aw_iload_n (q := 4) gdL_worthOr_0.2.2.1 rfl 1 rfl ?_
  refine aw_iload_n (q := 5) gdL_worthOr_0.2.2.2.1 rfl 2 rfl ?_
  refine aw_iload_n (q := 6) gdL_worthOr_0.2.2.2.2.1 rfl 3 rfl ?_
  refine aw_iload (q := 8) gdL_worthOr_0.2.2.2.2.2.1 rfl 4 rfl ?_
  refine aw_iload (q := 10) gdL_worthOr_0.2.2.2.2.2.2.1 rfl 5 rfl ?_
  refine aw_callC (q := 13) (hp1 := 20) (hp2 := 24) (kc1 := 0) (ks1 := 0) (wc := WX r S) (wr := [OC o nv sv]) (st1 := fun z g => [.int z.1, .ref o]) (ws1 := fun z g => [OC o nv sv] ++ WX r z.2) (As := [.ref (r 0), .int p0, .int p1, .int p2, .int p3, .int p4]) [0, 1, 2, 3, 4, 5, 6, 7, 8, 9, 10, 11, 12, 13, 14, 15, 16, 17, 18, 19, 20, 21, 22, 23, 24, 25, 26] [27] (fun _ => runV (q0 := 0) gdL_worthOr_0.2.2.2.2.2.2.2 mi_X5_worthOr im_X5_worthOr se_X5_worthOr ml_L_64 (by omega) rfl (Nat.le_of_ble_eq_true rfl) rfl rfl rfl rfl) (fun x9 h9 => ogX_worthOr h9) rfl rfl rfl rfl rfl (by decide +kernel) (by omega) (by omega) (fun _ _ => rfl) (fun _ _ => rfl) (Or.inr ⟨⟨[], _, [_], "java/lang/IndexOutOfBoundsException", rfl, (fun z h => by cases h), by decide, by decide, cl_L_19, ca_IndexOutOfBoundsException, rfl⟩, fun q9 => ?_⟩) (Or.inr ⟨⟨[_], _, [], "java/lang/IllegalArgumentException", rfl, (fun z h => by rcases List.mem_cons.mp h with rfl | h <;> first | exact ⟨by decide, rfl, cl_L_19⟩ | cases h), by decide, by decide, cl_L_21, ca_IllegalArgumentException, rfl⟩, fun q9 => ?_⟩) (fun z g => ?_)
  · refine aw_astore (q := 22) (lv' := [(7, .ref q9), (0, .ref (r 0)), (1, .int p0), (2, .int p1), (3, .int p2), (4, .int p3), (5, .int p4), (6, .ref o)]) gdL_worthOr_13.2.2.2.1 rfl (by decide) rfl ?_
    refine aw_iconst (q := 23) (v := 1) gdL_worthOr_13.2.2.2.2.1 rfl (by decide) ?_
    exact aw_ireturn [1, 2, 3, 4, 5, 6, 7, 8, 9, 10, 11, 12, 13, 14, 15, 16, 17, 18, 19, 20, 21, 22, 23, 24, 25, 26, 27, 0] gdL_worthOr_13.2.2.2.2.2.1 rfl rfl rfl rfl (PN.mk (fun _ => 0) rfl rfl)
  · refine aw_astore (q := 26) (lv' := [(7, .ref q9), (0, .ref (r 0)), (1, .int p0), (2, .int p1), (3, .int p2), (4, .int p3), (5, .int p4), (6, .ref o)]) gdL_worthOr_13.2.2.2.2.2.2.1 rfl (by decide) rfl ?_
    refine aw_iconst (q := 27) (v := 2) gdL_worthOr_13.2.2.2.2.2.2.2 rfl (by decide) ?_
    exact aw_ireturn [1, 2, 3, 4, 5, 6, 7, 8, 9, 10, 11, 12, 13, 14, 15, 16, 17, 18, 19, 20, 21, 22, 23, 24, 25, 26, 27, 0] gdL_worthOr_27.1 rfl rfl rfl rfl (PN.mk (fun _ => 0) rfl rfl)
  refine aw_i2l (q := 14) gdL_worthOr_13.1 rfl ?_
  refine aw_putN (q := 17) (ws' := [OC o z.1.toInt64 sv] ++ WX r z.2) gdL_worthOr_13.2.1 rfl fn_L_13 0 rfl rfl rfl (Nat.le_of_ble_eq_true rfl) rfl ?_
  refine aw_goto (tgt := 28) gdL_worthOr_13.2.2.1 (by decide) ?_
  refine aw_iconst (q := 29) (v := 0) gdL_worthOr_27.2.1 rfl (by decide) ?_
  exact aw_ireturn [1, 2, 3, 4, 5, 6, 7, 8, 9, 10, 11, 12, 13, 14, 15, 16, 17, 18, 19, 20, 21, 22, 23, 24, 25, 26, 27, 0] gdL_worthOr_27.2.2 rfl rfl rfl rfl (PN.mk g rfl rfl)
def gL_confirm (N K : Nat) (S : CS) (p0 : Int32) (p1 : Int32) (p2 : Int32) (p3 : Int32) (p4 : Int32) (nv : Int64) : Option (Int32 × CS × Int64) := wb (gX_confirm N K S p0 p1 p2 p3 p4) (fun z => (if z.1 = 0 then some ((0 : Int32), z.2, (0 : Int64)) else some ((0 : Int32), z.2, (1 : Int64)))) (some ((1 : Int32), S, nv)) (some ((2 : Int32), S, nv))
set_option maxHeartbeats 4000000 in
set_option maxRecDepth 100000 in
theorem ogL_confirm {N K : Nat} {r : Nat → Nat} {o : Nat} {S : CS} {nv : Int64} {sv : Value} {p0 : Int32} {p1 : Int32} {p2 : Int32} {p3 : Int32} {p4 : Int32} {x : Int32 × CS × Int64} (hE : gL_confirm N K S p0 p1 p2 p3 p4 nv = some x) : OkM yL_confirm (.codeWith yL_confirm cL_confirm 8 (some .int) [(0, 24, 27, 19), (0, 24, 31, 21)]) (11) 4 24 [.ref (r 0), .int p0, .int p1, .int p2, .int p3, .int p4, .ref o] (WX r S ++ [OC o nv sv]) ((PN (U := Int32 × CS × Int64) (fun z _ => some (.int z.1)) (fun z g => WX r z.2.1 ++ [OC o z.2.2 sv])) x) := by
  refine ok_ofH (by decide) (Nat.le_of_ble_eq_true rfl) hE ?_
  refine aw_locals (lv' := [(0, .ref (r 0)), (1, .int p0), (2, .int p1), (3, .int p2), (4, .int p3), (5, .int p4), (6, .ref o)]) [0, 1, 2, 3, 4, 5, 6] rfl ?_
  refine aw_aload (q := 2) gdL_confirm_0.1 rfl 6 rfl ?_
  refine aw_aload_n (q := 3) gdL_confirm_0.2.1 rfl 0 rfl ?_
  refine aw_iload_n (q := 4) gdL_confirm_0.2.2.1 rfl 1 rfl ?_
  refine aw_iload_n (q := 5) gdL_confirm_0.2.2.2.1 rfl 2 rfl ?_
  refine aw_iload_n (q := 6) gdL_confirm_0.2.2.2.2.1 rfl 3 rfl ?_
  refine aw_iload (q := 8) gdL_confirm_0.2.2.2.2.2.1 rfl 4 rfl ?_
  refine aw_iload (q := 10) gdL_confirm_0.2.2.2.2.2.2.1 rfl 5 rfl ?_
  refine aw_callC (q := 13) (hp1 := 27) (hp2 := 31) (kc1 := 0) (ks1 := 0) (wc := WX r S) (wr := [OC o nv sv]) (st1 := fun z g => [.int z.1, .ref o]) (ws1 := fun z g => [OC o nv sv] ++ WX r z.2) (As := [.ref (r 0), .int p0, .int p1, .int p2, .int p3, .int p4]) [0, 1, 2, 3, 4, 5, 6, 7, 8, 9, 10, 11, 12, 13, 14, 15, 16, 17, 18, 19, 20, 21, 22, 23, 24, 25, 26] [27] (fun _ => runV (q0 := 0) gdL_confirm_0.2.2.2.2.2.2.2 mi_X5_confirm im_X5_confirm se_X5_confirm ml_L_67 (by omega) rfl (Nat.le_of_ble_eq_true rfl) rfl rfl rfl rfl) (fun x9 h9 => ogX_confirm h9) rfl rfl rfl rfl rfl (by decide +kernel) (by omega) (by omega) (fun _ _ => rfl) (fun _ _ => rfl) (Or.inr ⟨⟨[], _, [_], "java/lang/IndexOutOfBoundsException", rfl, (fun z h => by cases h), by decide, by decide, cl_L_19, ca_IndexOutOfBoundsException, rfl⟩, fun q9 => ?_⟩) (Or.inr ⟨⟨[_], _, [], "java/lang/IllegalArgumentException", rfl, (fun z h => by rcases List.mem_cons.mp h with rfl | h <;> first | exact ⟨by decide, rfl, cl_L_19⟩ | cases h), by decide, by decide, cl_L_21, ca_IllegalArgumentException, rfl⟩, fun q9 => ?_⟩) (fun z g => ?_)
  · refine aw_astore (q := 29) (lv' := [(7, .ref q9), (0, .ref (r 0)), (1, .int p0), (2, .int p1), (3, .int p2), (4, .int p3), (5, .int p4), (6, .ref o)]) gdL_confirm_13.2.2.2.2.2.2.1 rfl (by decide) rfl ?_
    refine aw_iconst (q := 30) (v := 1) gdL_confirm_13.2.2.2.2.2.2.2 rfl (by decide) ?_
    exact aw_ireturn [1, 2, 3, 4, 5, 6, 7, 8, 9, 10, 11, 12, 13, 14, 15, 16, 17, 18, 19, 20, 21, 22, 23, 24, 25, 26, 27, 0] gdL_confirm_30.1 rfl rfl rfl rfl (PN.mk (fun _ => 0) rfl rfl)
  · refine aw_astore (q := 33) (lv' := [(7, .ref q9), (0, .ref (r 0)), (1, .int p0), (2, .int p1), (3, .int p2), (4, .int p3), (5, .int p4), (6, .ref o)]) gdL_confirm_30.2.1 rfl (by decide) rfl ?_
    refine aw_iconst (q := 34) (v := 2) gdL_confirm_30.2.2.1 rfl (by decide) ?_
    exact aw_ireturn [1, 2, 3, 4, 5, 6, 7, 8, 9, 10, 11, 12, 13, 14, 15, 16, 17, 18, 19, 20, 21, 22, 23, 24, 25, 26, 27, 0] gdL_confirm_30.2.2.2.1 rfl rfl rfl rfl (PN.mk (fun _ => 0) rfl rfl)
  refine aw_if_eq (tgt := 20) (q := 16) gdL_confirm_13.1 (by decide) rfl (fun h0 => ?_) (fun h0 => ?_)
  · refine aw_lconst (q := 21) (v := 0) gdL_confirm_13.2.2.2.1 rfl (by decide) ?_
    refine aw_putN (q := 24) (ws' := [OC o 0 sv] ++ WX r z.2) gdL_confirm_13.2.2.2.2.1 rfl fn_L_13 0 rfl rfl rfl (Nat.le_of_ble_eq_true rfl) rfl ?_
    refine aw_goto (tgt := 35) gdL_confirm_13.2.2.2.2.2.1 (by decide) ?_
    refine aw_iconst (q := 36) (v := 0) gdL_confirm_30.2.2.2.2.1 rfl (by decide) ?_
    exact aw_ireturn [1, 2, 3, 4, 5, 6, 7, 8, 9, 10, 11, 12, 13, 14, 15, 16, 17, 18, 19, 20, 21, 22, 23, 24, 25, 26, 27, 0] gdL_confirm_30.2.2.2.2.2 rfl rfl rfl rfl (PN.mk g rfl rfl)
  · refine aw_lconst (q := 17) (v := 1) gdL_confirm_13.2.1 rfl (by decide) ?_
    refine aw_goto (tgt := 21) gdL_confirm_13.2.2.1 (by decide) ?_
    refine aw_putN (q := 24) (ws' := [OC o 1 sv] ++ WX r z.2) gdL_confirm_13.2.2.2.2.1 rfl fn_L_13 0 rfl rfl rfl (Nat.le_of_ble_eq_true rfl) rfl ?_
    refine aw_goto (tgt := 35) gdL_confirm_13.2.2.2.2.2.1 (by decide) ?_
    refine aw_iconst (q := 36) (v := 0) gdL_confirm_30.2.2.2.2.1 rfl (by decide) ?_
    exact aw_ireturn [1, 2, 3, 4, 5, 6, 7, 8, 9, 10, 11, 12, 13, 14, 15, 16, 17, 18, 19, 20, 21, 22, 23, 24, 25, 26, 27, 0] gdL_confirm_30.2.2.2.2.2 rfl rfl rfl rfl (PN.mk g rfl rfl)
def gL_about (N K : Nat) (S : CS) (p0 : Int32) (p1 : Int32) (nv : Int64) : Option (Int32 × CS × Int64) := wb (gX_about N K S p0 p1) (fun z => some ((0 : Int32), z.2, z.1.toInt64)) (some ((1 : Int32), S, nv)) (some ((2 : Int32), S, nv))
set_option maxHeartbeats 4000000 in
set_option maxRecDepth 100000 in
theorem ogL_about {N K : Nat} {r : Nat → Nat} {o : Nat} {S : CS} {nv : Int64} {sv : Value} {p0 : Int32} {p1 : Int32} {x : Int32 × CS × Int64} (hE : gL_about N K S p0 p1 nv = some x) : OkM yL_about (.codeWith yL_about cL_about 5 (some .int) [(0, 11, 14, 19), (0, 11, 18, 21)]) (10) 2 12 [.ref (r 0), .int p0, .int p1, .ref o] (WX r S ++ [OC o nv sv]) ((PN (U := Int32 × CS × Int64) (fun z _ => some (.int z.1)) (fun z g => WX r z.2.1 ++ [OC o z.2.2 sv])) x) := by
  refine ok_ofH (by decide) (Nat.le_of_ble_eq_true rfl) hE ?_
  refine aw_locals (lv' := [(0, .ref (r 0)), (1, .int p0), (2, .int p1), (3, .ref o)]) [0, 1, 2, 3] rfl ?_
  refine aw_aload_n (q := 1) gdL_about_0.1 rfl 3 rfl ?_
  refine aw_aload_n (q := 2) gdL_about_0.2.1 rfl 0 rfl ?_
  refine aw_iload_n (q := 3) gdL_about_0.2.2.1 rfl 1 rfl ?_
  refine aw_iload_n (q := 4) gdL_about_0.2.2.2.1 rfl 2 rfl ?_
  refine aw_callC (q := 7) (hp1 := 14) (hp2 := 18) (kc1 := 0) (ks1 := 0) (wc := WX r S) (wr := [OC o nv sv]) (st1 := fun z g => [.int z.1, .ref o]) (ws1 := fun z g => [OC o nv sv] ++ WX r z.2) (As := [.ref (r 0), .int p0, .int p1]) [0, 1, 2, 3, 4, 5, 6, 7, 8, 9, 10, 11, 12, 13, 14, 15, 16, 17, 18, 19, 20, 21, 22, 23, 24, 25, 26] [27] (fun _ => runV (q0 := 0) gdL_about_0.2.2.2.2.1 mi_X5_about im_X5_about se_X5_about ml_L_70 (by omega) rfl (Nat.le_of_ble_eq_true rfl) rfl rfl rfl rfl) (fun x9 h9 => ogX_about h9) rfl rfl rfl rfl rfl (by decide +kernel) (by omega) (by omega) (fun _ _ => rfl) (fun _ _ => rfl) (Or.inr ⟨⟨[], _, [_], "java/lang/IndexOutOfBoundsException", rfl, (fun z h => by cases h), by decide, by decide, cl_L_19, ca_IndexOutOfBoundsException, rfl⟩, fun q9 => ?_⟩) (Or.inr ⟨⟨[_], _, [], "java/lang/IllegalArgumentException", rfl, (fun z h => by rcases List.mem_cons.mp h with rfl | h <;> first | exact ⟨by decide, rfl, cl_L_19⟩ | cases h), by decide, by decide, cl_L_21, ca_IllegalArgumentException, rfl⟩, fun q9 => ?_⟩) (fun z g => ?_)
  · refine aw_astore (q := 16) (lv' := [(4, .ref q9), (0, .ref (r 0)), (1, .int p0), (2, .int p1), (3, .ref o)]) gdL_about_14.1 rfl (by decide) rfl ?_
    refine aw_iconst (q := 17) (v := 1) gdL_about_14.2.1 rfl (by decide) ?_
    exact aw_ireturn [1, 2, 3, 4, 5, 6, 7, 8, 9, 10, 11, 12, 13, 14, 15, 16, 17, 18, 19, 20, 21, 22, 23, 24, 25, 26, 27, 0] gdL_about_14.2.2.1 rfl rfl rfl rfl (PN.mk (fun _ => 0) rfl rfl)
  · refine aw_astore (q := 20) (lv' := [(4, .ref q9), (0, .ref (r 0)), (1, .int p0), (2, .int p1), (3, .ref o)]) gdL_about_14.2.2.2.1 rfl (by decide) rfl ?_
    refine aw_iconst (q := 21) (v := 2) gdL_about_14.2.2.2.2.1 rfl (by decide) ?_
    exact aw_ireturn [1, 2, 3, 4, 5, 6, 7, 8, 9, 10, 11, 12, 13, 14, 15, 16, 17, 18, 19, 20, 21, 22, 23, 24, 25, 26, 27, 0] gdL_about_14.2.2.2.2.2.1 rfl rfl rfl rfl (PN.mk (fun _ => 0) rfl rfl)
  refine aw_i2l (q := 8) gdL_about_0.2.2.2.2.2.1 rfl ?_
  refine aw_putN (q := 11) (ws' := [OC o z.1.toInt64 sv] ++ WX r z.2) gdL_about_0.2.2.2.2.2.2.1 rfl fn_L_13 0 rfl rfl rfl (Nat.le_of_ble_eq_true rfl) rfl ?_
  refine aw_goto (tgt := 22) gdL_about_0.2.2.2.2.2.2.2 (by decide) ?_
  refine aw_iconst (q := 23) (v := 0) gdL_about_14.2.2.2.2.2.2.1 rfl (by decide) ?_
  exact aw_ireturn [1, 2, 3, 4, 5, 6, 7, 8, 9, 10, 11, 12, 13, 14, 15, 16, 17, 18, 19, 20, 21, 22, 23, 24, 25, 26, 27, 0] gdL_about_14.2.2.2.2.2.2.2 rfl rfl rfl rfl (PN.mk g rfl rfl)
def gL_has (N K : Nat) (S : CS) (p0 : Int32) (p1 : Int32) (nv : Int64) : Option (Int32 × CS × Int64) := wb (gX_has N K S p0 p1) (fun z => (if z.1 = 0 then some ((0 : Int32), z.2, (0 : Int64)) else some ((0 : Int32), z.2, (1 : Int64)))) (some ((1 : Int32), S, nv)) none
set_option maxHeartbeats 4000000 in
set_option maxRecDepth 100000 in
theorem ogL_has {N K : Nat} {r : Nat → Nat} {o : Nat} {S : CS} {nv : Int64} {sv : Value} {p0 : Int32} {p1 : Int32} {x : Int32 × CS × Int64} (hE : gL_has N K S p0 p1 nv = some x) : OkM yL_has (.codeWith yL_has cL_has 5 (some .int) [(0, 18, 21, 19)]) (10) 1 6 [.ref (r 0), .int p0, .int p1, .ref o] (WX r S ++ [OC o nv sv]) ((PN (U := Int32 × CS × Int64) (fun z _ => some (.int z.1)) (fun z g => WX r z.2.1 ++ [OC o z.2.2 sv])) x) := by
  refine ok_ofH (by decide) (Nat.le_of_ble_eq_true rfl) hE ?_
  refine aw_locals (lv' := [(0, .ref (r 0)), (1, .int p0), (2, .int p1), (3, .ref o)]) [0, 1, 2, 3] rfl ?_
  refine aw_aload_n (q := 1) gdL_has_0.1 rfl 3 rfl ?_
  refine aw_aload_n (q := 2) gdL_has_0.2.1 rfl 0 rfl ?_
  refine aw_iload_n (q := 3) gdL_has_0.2.2.1 rfl 1 rfl ?_
  refine aw_iload_n (q := 4) gdL_has_0.2.2.2.1 rfl 2 rfl ?_
  refine aw_callC (q := 7) (hp1 := 21) (hp2 := 0) (kc1 := 0) (ks1 := 0) (wc := WX r S) (wr := [OC o nv sv]) (st1 := fun z g => [.int z.1, .ref o]) (ws1 := fun z g => [OC o nv sv] ++ WX r z.2) (As := [.ref (r 0), .int p0, .int p1]) [0, 1, 2, 3, 4, 5, 6, 7, 8, 9, 10, 11, 12, 13, 14, 15, 16, 17, 18, 19, 20, 21, 22, 23, 24, 25, 26] [27] (fun _ => runV (q0 := 0) gdL_has_0.2.2.2.2.1 mi_X5_has im_X5_has se_X5_has ml_L_73 (by omega) rfl (Nat.le_of_ble_eq_true rfl) rfl rfl rfl rfl) (fun x9 h9 => ogX_has h9) rfl rfl rfl rfl rfl (by decide +kernel) (by omega) (by omega) (fun _ _ => rfl) (fun _ _ => rfl) (Or.inr ⟨⟨[], _, [], "java/lang/IndexOutOfBoundsException", rfl, (fun z h => by cases h), by decide, by decide, cl_L_19, ca_IndexOutOfBoundsException, rfl⟩, fun q9 => ?_⟩) (Or.inl rfl) (fun z g => ?_)
  · refine aw_astore (q := 23) (lv' := [(4, .ref q9), (0, .ref (r 0)), (1, .int p0), (2, .int p1), (3, .ref o)]) gdL_has_14.2.2.2.1 rfl (by decide) rfl ?_
    refine aw_iconst (q := 24) (v := 1) gdL_has_14.2.2.2.2.1 rfl (by decide) ?_
    exact aw_ireturn [1, 2, 3, 4, 5, 6, 7, 8, 9, 10, 11, 12, 13, 14, 15, 16, 17, 18, 19, 20, 21, 22, 23, 24, 25, 26, 27, 0] gdL_has_14.2.2.2.2.2.1 rfl rfl rfl rfl (PN.mk (fun _ => 0) rfl rfl)
  refine aw_if_eq (tgt := 14) (q := 10) gdL_has_0.2.2.2.2.2.1 (by decide) rfl (fun h0 => ?_) (fun h0 => ?_)
  · refine aw_lconst (q := 15) (v := 0) gdL_has_14.1 rfl (by decide) ?_
    refine aw_putN (q := 18) (ws' := [OC o 0 sv] ++ WX r z.2) gdL_has_14.2.1 rfl fn_L_13 0 rfl rfl rfl (Nat.le_of_ble_eq_true rfl) rfl ?_
    refine aw_goto (tgt := 25) gdL_has_14.2.2.1 (by decide) ?_
    refine aw_iconst (q := 26) (v := 0) gdL_has_14.2.2.2.2.2.2.1 rfl (by decide) ?_
    exact aw_ireturn [1, 2, 3, 4, 5, 6, 7, 8, 9, 10, 11, 12, 13, 14, 15, 16, 17, 18, 19, 20, 21, 22, 23, 24, 25, 26, 27, 0] gdL_has_14.2.2.2.2.2.2.2 rfl rfl rfl rfl (PN.mk g rfl rfl)
  · refine aw_lconst (q := 11) (v := 1) gdL_has_0.2.2.2.2.2.2.1 rfl (by decide) ?_
    refine aw_goto (tgt := 15) gdL_has_0.2.2.2.2.2.2.2 (by decide) ?_
    refine aw_putN (q := 18) (ws' := [OC o 1 sv] ++ WX r z.2) gdL_has_14.2.1 rfl fn_L_13 0 rfl rfl rfl (Nat.le_of_ble_eq_true rfl) rfl ?_
    refine aw_goto (tgt := 25) gdL_has_14.2.2.1 (by decide) ?_
    refine aw_iconst (q := 26) (v := 0) gdL_has_14.2.2.2.2.2.2.1 rfl (by decide) ?_
    exact aw_ireturn [1, 2, 3, 4, 5, 6, 7, 8, 9, 10, 11, 12, 13, 14, 15, 16, 17, 18, 19, 20, 21, 22, 23, 24, 25, 26, 27, 0] gdL_has_14.2.2.2.2.2.2.2 rfl rfl rfl rfl (PN.mk g rfl rfl)
def gL_count (N K : Nat) (S : CS) (p0 : Int32) (p1 : Int32) (p2 : Int32) (nv : Int64) : Option (Int32 × CS × Int64) := wb (gX_count N K S p0 p1 p2) (fun z => some ((0 : Int32), z.2, z.1.toInt64)) (some ((1 : Int32), S, nv)) (some ((2 : Int32), S, nv))
set_option maxHeartbeats 4000000 in
set_option maxRecDepth 100000 in
theorem ogL_count {N K : Nat} {r : Nat → Nat} {o : Nat} {S : CS} {nv : Int64} {sv : Value} {p0 : Int32} {p1 : Int32} {p2 : Int32} {x : Int32 × CS × Int64} (hE : gL_count N K S p0 p1 p2 nv = some x) : OkM yL_count (.codeWith yL_count cL_count 6 (some .int) [(0, 13, 16, 19), (0, 13, 20, 21)]) (10) 2 12 [.ref (r 0), .int p0, .int p1, .int p2, .ref o] (WX r S ++ [OC o nv sv]) ((PN (U := Int32 × CS × Int64) (fun z _ => some (.int z.1)) (fun z g => WX r z.2.1 ++ [OC o z.2.2 sv])) x) := by
  refine ok_ofH (by decide) (Nat.le_of_ble_eq_true rfl) hE ?_
  refine aw_locals (lv' := [(0, .ref (r 0)), (1, .int p0), (2, .int p1), (3, .int p2), (4, .ref o)]) [0, 1, 2, 3, 4] rfl ?_
  refine aw_aload (q := 2) gdL_count_0.1 rfl 4 rfl ?_
  refine aw_aload_n (q := 3) gdL_count_0.2.1 rfl 0 rfl ?_
  refine aw_iload_n (q := 4) gdL_count_0.2.2.1 rfl 1 rfl ?_
  refine aw_iload_n (q := 5) gdL_count_0.2.2.2.1 rfl 2 rfl ?_
  refine aw_iload_n (q := 6) gdL_count_0.2.2.2.2.1 rfl 3 rfl ?_
  refine aw_callC (q := 9) (hp1 := 16) (hp2 := 20) (kc1 := 0) (ks1 := 0) (wc := WX r S) (wr := [OC o nv sv]) (st1 := fun z g => [.int z.1, .ref o]) (ws1 := fun z g => [OC o nv sv] ++ WX r z.2) (As := [.ref (r 0), .int p0, .int p1, .int p2]) [0, 1, 2, 3, 4, 5, 6, 7, 8, 9, 10, 11, 12, 13, 14, 15, 16, 17, 18, 19, 20, 21, 22, 23, 24, 25, 26] [27] (fun _ => runV (q0 := 0) gdL_count_0.2.2.2.2.2.1 mi_X5_count im_X5_count se_X5_count ml_L_77 (by omega) rfl (Nat.le_of_ble_eq_true rfl) rfl rfl rfl rfl) (fun x9 h9 => ogX_count h9) rfl rfl rfl rfl rfl (by decide +kernel) (by omega) (by omega) (fun _ _ => rfl) (fun _ _ => rfl) (Or.inr ⟨⟨[], _, [_], "java/lang/IndexOutOfBoundsException", rfl, (fun z h => by cases h), by decide, by decide, cl_L_19, ca_IndexOutOfBoundsException, rfl⟩, fun q9 => ?_⟩) (Or.inr ⟨⟨[_], _, [], "java/lang/IllegalArgumentException", rfl, (fun z h => by rcases List.mem_cons.mp h with rfl | h <;> first | exact ⟨by decide, rfl, cl_L_19⟩ | cases h), by decide, by decide, cl_L_21, ca_IllegalArgumentException, rfl⟩, fun q9 => ?_⟩) (fun z g => ?_)
  · refine aw_astore (q := 18) (lv' := [(5, .ref q9), (0, .ref (r 0)), (1, .int p0), (2, .int p1), (3, .int p2), (4, .ref o)]) gdL_count_13.2.1 rfl (by decide) rfl ?_
    refine aw_iconst (q := 19) (v := 1) gdL_count_13.2.2.1 rfl (by decide) ?_
    exact aw_ireturn [1, 2, 3, 4, 5, 6, 7, 8, 9, 10, 11, 12, 13, 14, 15, 16, 17, 18, 19, 20, 21, 22, 23, 24, 25, 26, 27, 0] gdL_count_13.2.2.2.1 rfl rfl rfl rfl (PN.mk (fun _ => 0) rfl rfl)
  · refine aw_astore (q := 22) (lv' := [(5, .ref q9), (0, .ref (r 0)), (1, .int p0), (2, .int p1), (3, .int p2), (4, .ref o)]) gdL_count_13.2.2.2.2.1 rfl (by decide) rfl ?_
    refine aw_iconst (q := 23) (v := 2) gdL_count_13.2.2.2.2.2.1 rfl (by decide) ?_
    exact aw_ireturn [1, 2, 3, 4, 5, 6, 7, 8, 9, 10, 11, 12, 13, 14, 15, 16, 17, 18, 19, 20, 21, 22, 23, 24, 25, 26, 27, 0] gdL_count_13.2.2.2.2.2.2.1 rfl rfl rfl rfl (PN.mk (fun _ => 0) rfl rfl)
  refine aw_i2l (q := 10) gdL_count_0.2.2.2.2.2.2.1 rfl ?_
  refine aw_putN (q := 13) (ws' := [OC o z.1.toInt64 sv] ++ WX r z.2) gdL_count_0.2.2.2.2.2.2.2 rfl fn_L_13 0 rfl rfl rfl (Nat.le_of_ble_eq_true rfl) rfl ?_
  refine aw_goto (tgt := 24) gdL_count_13.1 (by decide) ?_
  refine aw_iconst (q := 25) (v := 0) gdL_count_13.2.2.2.2.2.2.2 rfl (by decide) ?_
  exact aw_ireturn [1, 2, 3, 4, 5, 6, 7, 8, 9, 10, 11, 12, 13, 14, 15, 16, 17, 18, 19, 20, 21, 22, 23, 24, 25, 26, 27, 0] dL_count_25 rfl rfl rfl rfl (PN.mk g rfl rfl)
def gL_isSame (N K : Nat) (S : CS) (p0 : Int32) (p1 : Int32) (nv : Int64) : Option (Int32 × CS × Int64) := wb (gX_isSame N K S p0 p1) (fun z => (if z.1 = 0 then some ((0 : Int32), z.2, (0 : Int64)) else some ((0 : Int32), z.2, (1 : Int64)))) (some ((1 : Int32), S, nv)) none
set_option maxHeartbeats 4000000 in
set_option maxRecDepth 100000 in
theorem ogL_isSame {N K : Nat} {r : Nat → Nat} {o : Nat} {S : CS} {nv : Int64} {sv : Value} {p0 : Int32} {p1 : Int32} {x : Int32 × CS × Int64} (hE : gL_isSame N K S p0 p1 nv = some x) : OkM yL_isSame (.codeWith yL_isSame cL_isSame 5 (some .int) [(0, 18, 21, 19)]) (10) 2 12 [.ref (r 0), .int p0, .int p1, .ref o] (WX r S ++ [OC o nv sv]) ((PN (U := Int32 × CS × Int64) (fun z _ => some (.int z.1)) (fun z g => WX r z.2.1 ++ [OC o z.2.2 sv])) x) := by
  refine ok_ofH (by decide) (Nat.le_of_ble_eq_true rfl) hE ?_
  refine aw_locals (lv' := [(0, .ref (r 0)), (1, .int p0), (2, .int p1), (3, .ref o)]) [0, 1, 2, 3] rfl ?_
  refine aw_aload_n (q := 1) gdL_isSame_0.1 rfl 3 rfl ?_
  refine aw_aload_n (q := 2) gdL_isSame_0.2.1 rfl 0 rfl ?_
  refine aw_iload_n (q := 3) gdL_isSame_0.2.2.1 rfl 1 rfl ?_
  refine aw_iload_n (q := 4) gdL_isSame_0.2.2.2.1 rfl 2 rfl ?_
  refine aw_callC (q := 7) (hp1 := 21) (hp2 := 0) (kc1 := 0) (ks1 := 0) (wc := WX r S) (wr := [OC o nv sv]) (st1 := fun z g => [.int z.1, .ref o]) (ws1 := fun z g => [OC o nv sv] ++ WX r z.2) (As := [.ref (r 0), .int p0, .int p1]) [0, 1, 2, 3, 4, 5, 6, 7, 8, 9, 10, 11, 12, 13, 14, 15, 16, 17, 18, 19, 20, 21, 22, 23, 24, 25, 26] [27] (fun _ => runV (q0 := 0) gdL_isSame_0.2.2.2.2.1 mi_X5_isSame im_X5_isSame se_X5_isSame ml_L_80 (by omega) rfl (Nat.le_of_ble_eq_true rfl) rfl rfl rfl rfl) (fun x9 h9 => ogX_isSame h9) rfl rfl rfl rfl rfl (by decide +kernel) (by omega) (by omega) (fun _ _ => rfl) (fun _ _ => rfl) (Or.inr ⟨⟨[], _, [], "java/lang/IndexOutOfBoundsException", rfl, (fun z h => by cases h), by decide, by decide, cl_L_19, ca_IndexOutOfBoundsException, rfl⟩, fun q9 => ?_⟩) (Or.inl rfl) (fun z g => ?_)
  · refine aw_astore (q := 23) (lv' := [(4, .ref q9), (0, .ref (r 0)), (1, .int p0), (2, .int p1), (3, .ref o)]) gdL_isSame_14.2.2.2.1 rfl (by decide) rfl ?_
    refine aw_iconst (q := 24) (v := 1) gdL_isSame_14.2.2.2.2.1 rfl (by decide) ?_
    exact aw_ireturn [1, 2, 3, 4, 5, 6, 7, 8, 9, 10, 11, 12, 13, 14, 15, 16, 17, 18, 19, 20, 21, 22, 23, 24, 25, 26, 27, 0] gdL_isSame_14.2.2.2.2.2.1 rfl rfl rfl rfl (PN.mk (fun _ => 0) rfl rfl)
  refine aw_if_eq (tgt := 14) (q := 10) gdL_isSame_0.2.2.2.2.2.1 (by decide) rfl (fun h0 => ?_) (fun h0 => ?_)
  · refine aw_lconst (q := 15) (v := 0) gdL_isSame_14.1 rfl (by decide) ?_
    refine aw_putN (q := 18) (ws' := [OC o 0 sv] ++ WX r z.2) gdL_isSame_14.2.1 rfl fn_L_13 0 rfl rfl rfl (Nat.le_of_ble_eq_true rfl) rfl ?_
    refine aw_goto (tgt := 25) gdL_isSame_14.2.2.1 (by decide) ?_
    refine aw_iconst (q := 26) (v := 0) gdL_isSame_14.2.2.2.2.2.2.1 rfl (by decide) ?_
    exact aw_ireturn [1, 2, 3, 4, 5, 6, 7, 8, 9, 10, 11, 12, 13, 14, 15, 16, 17, 18, 19, 20, 21, 22, 23, 24, 25, 26, 27, 0] gdL_isSame_14.2.2.2.2.2.2.2 rfl rfl rfl rfl (PN.mk g rfl rfl)
  · refine aw_lconst (q := 11) (v := 1) gdL_isSame_0.2.2.2.2.2.2.1 rfl (by decide) ?_
    refine aw_goto (tgt := 15) gdL_isSame_0.2.2.2.2.2.2.2 (by decide) ?_
    refine aw_putN (q := 18) (ws' := [OC o 1 sv] ++ WX r z.2) gdL_isSame_14.2.1 rfl fn_L_13 0 rfl rfl rfl (Nat.le_of_ble_eq_true rfl) rfl ?_
    refine aw_goto (tgt := 25) gdL_isSame_14.2.2.1 (by decide) ?_
    refine aw_iconst (q := 26) (v := 0) gdL_isSame_14.2.2.2.2.2.2.1 rfl (by decide) ?_
    exact aw_ireturn [1, 2, 3, 4, 5, 6, 7, 8, 9, 10, 11, 12, 13, 14, 15, 16, 17, 18, 19, 20, 21, 22, 23, 24, 25, 26, 27, 0] gdL_isSame_14.2.2.2.2.2.2.2 rfl rfl rfl rfl (PN.mk g rfl rfl)
def gL_walk (N K : Nat) (S : CS) (p0 : Int32) (p1 : Int32) (p2 : Int32) (nv : Int64) : Option (Int32 × CS × Int64) := wb (gX_walk N K S p0 p1 p2) (fun z => some ((0 : Int32), z.2, z.1.toInt64)) none (some ((1 : Int32), S, nv))
set_option maxHeartbeats 4000000 in
set_option maxRecDepth 100000 in
theorem ogL_walk {N K : Nat} {r : Nat → Nat} {o : Nat} {S : CS} {nv : Int64} {sv : Value} {p0 : Int32} {p1 : Int32} {p2 : Int32} {x : Int32 × CS × Int64} (hE : gL_walk N K S p0 p1 p2 nv = some x) : OkM yL_walk (.codeWith yL_walk cL_walk 6 (some .int) [(0, 13, 16, 21)]) (11) 3 18 [.ref (r 0), .int p0, .int p1, .int p2, .ref o] (WX r S ++ [OC o nv sv]) ((PN (U := Int32 × CS × Int64) (fun z _ => some (.int z.1)) (fun z g => WX r z.2.1 ++ [OC o z.2.2 sv])) x) := by
  refine ok_ofH (by decide) (Nat.le_of_ble_eq_true rfl) hE ?_
  refine aw_locals (lv' := [(0, .ref (r 0)), (1, .int p0), (2, .int p1), (3, .int p2), (4, .ref o)]) [0, 1, 2, 3, 4] rfl ?_
  refine aw_aload (q := 2) gdL_walk_0.1 rfl 4 rfl ?_
  refine aw_aload_n (q := 3) gdL_walk_0.2.1 rfl 0 rfl ?_
  refine aw_iload_n (q := 4) gdL_walk_0.2.2.1 rfl 1 rfl ?_
  refine aw_iload_n (q := 5) gdL_walk_0.2.2.2.1 rfl 2 rfl ?_
  refine aw_iload_n (q := 6) gdL_walk_0.2.2.2.2.1 rfl 3 rfl ?_
  refine aw_callC (q := 9) (hp1 := 0) (hp2 := 16) (kc1 := 0) (ks1 := 0) (wc := WX r S) (wr := [OC o nv sv]) (st1 := fun z g => [.int z.1, .ref o]) (ws1 := fun z g => [OC o nv sv] ++ WX r z.2) (As := [.ref (r 0), .int p0, .int p1, .int p2]) [0, 1, 2, 3, 4, 5, 6, 7, 8, 9, 10, 11, 12, 13, 14, 15, 16, 17, 18, 19, 20, 21, 22, 23, 24, 25, 26] [27] (fun _ => runV (q0 := 0) gdL_walk_0.2.2.2.2.2.1 mi_X5_walk im_X5_walk se_X5_walk ml_L_83 (by omega) rfl (Nat.le_of_ble_eq_true rfl) rfl rfl rfl rfl) (fun x9 h9 => ogX_walk h9) rfl rfl rfl rfl rfl (by decide +kernel) (by omega) (by omega) (fun _ _ => rfl) (fun _ _ => rfl) (Or.inl rfl) (Or.inr ⟨⟨[], _, [], "java/lang/IllegalArgumentException", rfl, (fun z h => by cases h), by decide, by decide, cl_L_21, ca_IllegalArgumentException, rfl⟩, fun q9 => ?_⟩) (fun z g => ?_)
  · refine aw_astore (q := 18) (lv' := [(5, .ref q9), (0, .ref (r 0)), (1, .int p0), (2, .int p1), (3, .int p2), (4, .ref o)]) gdL_walk_13.2.1 rfl (by decide) rfl ?_
    refine aw_iconst (q := 19) (v := 1) gdL_walk_13.2.2.1 rfl (by decide) ?_
    exact aw_ireturn [1, 2, 3, 4, 5, 6, 7, 8, 9, 10, 11, 12, 13, 14, 15, 16, 17, 18, 19, 20, 21, 22, 23, 24, 25, 26, 27, 0] gdL_walk_13.2.2.2.1 rfl rfl rfl rfl (PN.mk (fun _ => 0) rfl rfl)
  refine aw_i2l (q := 10) gdL_walk_0.2.2.2.2.2.2.1 rfl ?_
  refine aw_putN (q := 13) (ws' := [OC o z.1.toInt64 sv] ++ WX r z.2) gdL_walk_0.2.2.2.2.2.2.2 rfl fn_L_13 0 rfl rfl rfl (Nat.le_of_ble_eq_true rfl) rfl ?_
  refine aw_goto (tgt := 20) gdL_walk_13.1 (by decide) ?_
  refine aw_iconst (q := 21) (v := 0) gdL_walk_13.2.2.2.2.1 rfl (by decide) ?_
  exact aw_ireturn [1, 2, 3, 4, 5, 6, 7, 8, 9, 10, 11, 12, 13, 14, 15, 16, 17, 18, 19, 20, 21, 22, 23, 24, 25, 26, 27, 0] gdL_walk_13.2.2.2.2.2 rfl rfl rfl rfl (PN.mk g rfl rfl)
def gL_product (N K : Nat) (S : CS) (p0 : Int32) (p1 : Int32) (p2 : Int32) (nv : Int64) : Option (Int32 × CS × Int64) := wb (gX_product N K S p0 p1 p2) (fun z => some ((0 : Int32), z.2, z.1.toInt64)) none (some ((1 : Int32), S, nv))
set_option maxHeartbeats 4000000 in
set_option maxRecDepth 100000 in
theorem ogL_product {N K : Nat} {r : Nat → Nat} {o : Nat} {S : CS} {nv : Int64} {sv : Value} {p0 : Int32} {p1 : Int32} {p2 : Int32} {x : Int32 × CS × Int64} (hE : gL_product N K S p0 p1 p2 nv = some x) : OkM yL_product (.codeWith yL_product cL_product 6 (some .int) [(0, 13, 16, 21)]) (11) 3 18 [.ref (r 0), .int p0, .int p1, .int p2, .ref o] (WX r S ++ [OC o nv sv]) ((PN (U := Int32 × CS × Int64) (fun z _ => some (.int z.1)) (fun z g => WX r z.2.1 ++ [OC o z.2.2 sv])) x) := by
  refine ok_ofH (by decide) (Nat.le_of_ble_eq_true rfl) hE ?_
  refine aw_locals (lv' := [(0, .ref (r 0)), (1, .int p0), (2, .int p1), (3, .int p2), (4, .ref o)]) [0, 1, 2, 3, 4] rfl ?_
  refine aw_aload (q := 2) gdL_product_0.1 rfl 4 rfl ?_
  refine aw_aload_n (q := 3) gdL_product_0.2.1 rfl 0 rfl ?_
  refine aw_iload_n (q := 4) gdL_product_0.2.2.1 rfl 1 rfl ?_
  refine aw_iload_n (q := 5) gdL_product_0.2.2.2.1 rfl 2 rfl ?_
  refine aw_iload_n (q := 6) gdL_product_0.2.2.2.2.1 rfl 3 rfl ?_
  refine aw_callC (q := 9) (hp1 := 0) (hp2 := 16) (kc1 := 0) (ks1 := 0) (wc := WX r S) (wr := [OC o nv sv]) (st1 := fun z g => [.int z.1, .ref o]) (ws1 := fun z g => [OC o nv sv] ++ WX r z.2) (As := [.ref (r 0), .int p0, .int p1, .int p2]) [0, 1, 2, 3, 4, 5, 6, 7, 8, 9, 10, 11, 12, 13, 14, 15, 16, 17, 18, 19, 20, 21, 22, 23, 24, 25, 26] [27] (fun _ => runV (q0 := 0) gdL_product_0.2.2.2.2.2.1 mi_X5_product im_X5_product se_X5_product ml_L_86 (by omega) rfl (Nat.le_of_ble_eq_true rfl) rfl rfl rfl rfl) (fun x9 h9 => ogX_product h9) rfl rfl rfl rfl rfl (by decide +kernel) (by omega) (by omega) (fun _ _ => rfl) (fun _ _ => rfl) (Or.inl rfl) (Or.inr ⟨⟨[], _, [], "java/lang/IllegalArgumentException", rfl, (fun z h => by cases h), by decide, by decide, cl_L_21, ca_IllegalArgumentException, rfl⟩, fun q9 => ?_⟩) (fun z g => ?_)
  · refine aw_astore (q := 18) (lv' := [(5, .ref q9), (0, .ref (r 0)), (1, .int p0), (2, .int p1), (3, .int p2), (4, .ref o)]) gdL_product_13.2.1 rfl (by decide) rfl ?_
    refine aw_iconst (q := 19) (v := 1) gdL_product_13.2.2.1 rfl (by decide) ?_
    exact aw_ireturn [1, 2, 3, 4, 5, 6, 7, 8, 9, 10, 11, 12, 13, 14, 15, 16, 17, 18, 19, 20, 21, 22, 23, 24, 25, 26, 27, 0] gdL_product_13.2.2.2.1 rfl rfl rfl rfl (PN.mk (fun _ => 0) rfl rfl)
  refine aw_i2l (q := 10) gdL_product_0.2.2.2.2.2.2.1 rfl ?_
  refine aw_putN (q := 13) (ws' := [OC o z.1.toInt64 sv] ++ WX r z.2) gdL_product_0.2.2.2.2.2.2.2 rfl fn_L_13 0 rfl rfl rfl (Nat.le_of_ble_eq_true rfl) rfl ?_
  refine aw_goto (tgt := 20) gdL_product_13.1 (by decide) ?_
  refine aw_iconst (q := 21) (v := 0) gdL_product_13.2.2.2.2.1 rfl (by decide) ?_
  exact aw_ireturn [1, 2, 3, 4, 5, 6, 7, 8, 9, 10, 11, 12, 13, 14, 15, 16, 17, 18, 19, 20, 21, 22, 23, 24, 25, 26, 27, 0] gdL_product_13.2.2.2.2.2 rfl rfl rfl rfl (PN.mk g rfl rfl)
def gL_rule (N K : Nat) (S : CS) (p0 : Int32) (p1 : Int32) (nv : Int64) : Option (Int32 × CS × Int64) := wb (gX_rule N K S p0 p1) (fun z => some ((0 : Int32), z.2, z.1.toInt64)) (some ((1 : Int32), S, nv)) (some ((2 : Int32), S, nv))
set_option maxHeartbeats 4000000 in
set_option maxRecDepth 100000 in
theorem ogL_rule {N K : Nat} {r : Nat → Nat} {o : Nat} {S : CS} {nv : Int64} {sv : Value} {p0 : Int32} {p1 : Int32} {x : Int32 × CS × Int64} (hE : gL_rule N K S p0 p1 nv = some x) : OkM yL_rule (.codeWith yL_rule cL_rule 5 (some .int) [(0, 11, 14, 19), (0, 11, 18, 21)]) (2 * K + 10) 2 12 [.ref (r 0), .int p0, .int p1, .ref o] (WX r S ++ [OC o nv sv]) ((PN (U := Int32 × CS × Int64) (fun z _ => some (.int z.1)) (fun z g => WX r z.2.1 ++ [OC o z.2.2 sv])) x) := by
  refine ok_ofH (by decide) (Nat.le_of_ble_eq_true rfl) hE ?_
  refine aw_locals (lv' := [(0, .ref (r 0)), (1, .int p0), (2, .int p1), (3, .ref o)]) [0, 1, 2, 3] rfl ?_
  refine aw_aload_n (q := 1) gdL_rule_0.1 rfl 3 rfl ?_
  refine aw_aload_n (q := 2) gdL_rule_0.2.1 rfl 0 rfl ?_
  refine aw_iload_n (q := 3) gdL_rule_0.2.2.1 rfl 1 rfl ?_
  refine aw_iload_n (q := 4) gdL_rule_0.2.2.2.1 rfl 2 rfl ?_
  refine aw_callC (q := 7) (hp1 := 14) (hp2 := 18) (kc1 := 0) (ks1 := 0) (wc := WX r S) (wr := [OC o nv sv]) (st1 := fun z g => [.int z.1, .ref o]) (ws1 := fun z g => [OC o nv sv] ++ WX r z.2) (As := [.ref (r 0), .int p0, .int p1]) [0, 1, 2, 3, 4, 5, 6, 7, 8, 9, 10, 11, 12, 13, 14, 15, 16, 17, 18, 19, 20, 21, 22, 23, 24, 25, 26] [27] (fun _ => runV (q0 := 0) gdL_rule_0.2.2.2.2.1 mi_X5_rule im_X5_rule se_X5_rule ml_L_89 (by omega) rfl (Nat.le_of_ble_eq_true rfl) rfl rfl rfl rfl) (fun x9 h9 => ogX_rule h9) rfl rfl rfl rfl rfl (by decide +kernel) (by omega) (by omega) (fun _ _ => rfl) (fun _ _ => rfl) (Or.inr ⟨⟨[], _, [_], "java/lang/IndexOutOfBoundsException", rfl, (fun z h => by cases h), by decide, by decide, cl_L_19, ca_IndexOutOfBoundsException, rfl⟩, fun q9 => ?_⟩) (Or.inr ⟨⟨[_], _, [], "java/lang/IllegalArgumentException", rfl, (fun z h => by rcases List.mem_cons.mp h with rfl | h <;> first | exact ⟨by decide, rfl, cl_L_19⟩ | cases h), by decide, by decide, cl_L_21, ca_IllegalArgumentException, rfl⟩, fun q9 => ?_⟩) (fun z g => ?_)
  · refine aw_astore (q := 16) (lv' := [(4, .ref q9), (0, .ref (r 0)), (1, .int p0), (2, .int p1), (3, .ref o)]) gdL_rule_14.1 rfl (by decide) rfl ?_
    refine aw_iconst (q := 17) (v := 1) gdL_rule_14.2.1 rfl (by decide) ?_
    exact aw_ireturn [1, 2, 3, 4, 5, 6, 7, 8, 9, 10, 11, 12, 13, 14, 15, 16, 17, 18, 19, 20, 21, 22, 23, 24, 25, 26, 27, 0] gdL_rule_14.2.2.1 rfl rfl rfl rfl (PN.mk (fun _ => 0) rfl rfl)
  · refine aw_astore (q := 20) (lv' := [(4, .ref q9), (0, .ref (r 0)), (1, .int p0), (2, .int p1), (3, .ref o)]) gdL_rule_14.2.2.2.1 rfl (by decide) rfl ?_
    refine aw_iconst (q := 21) (v := 2) gdL_rule_14.2.2.2.2.1 rfl (by decide) ?_
    exact aw_ireturn [1, 2, 3, 4, 5, 6, 7, 8, 9, 10, 11, 12, 13, 14, 15, 16, 17, 18, 19, 20, 21, 22, 23, 24, 25, 26, 27, 0] gdL_rule_14.2.2.2.2.2.1 rfl rfl rfl rfl (PN.mk (fun _ => 0) rfl rfl)
  refine aw_i2l (q := 8) gdL_rule_0.2.2.2.2.2.1 rfl ?_
  refine aw_putN (q := 11) (ws' := [OC o z.1.toInt64 sv] ++ WX r z.2) gdL_rule_0.2.2.2.2.2.2.1 rfl fn_L_13 0 rfl rfl rfl (Nat.le_of_ble_eq_true rfl) rfl ?_
  refine aw_goto (tgt := 22) gdL_rule_0.2.2.2.2.2.2.2 (by decide) ?_
  refine aw_iconst (q := 23) (v := 0) gdL_rule_14.2.2.2.2.2.2.1 rfl (by decide) ?_
  exact aw_ireturn [1, 2, 3, 4, 5, 6, 7, 8, 9, 10, 11, 12, 13, 14, 15, 16, 17, 18, 19, 20, 21, 22, 23, 24, 25, 26, 27, 0] gdL_rule_14.2.2.2.2.2.2.2 rfl rfl rfl rfl (PN.mk g rfl rfl)
def gL_forgetRule (N K : Nat) (S : CS) (p0 : Int32) (p1 : Int32) (nv : Int64) : Option (Int32 × CS × Int64) := wb (gX_forgetRule N K S p0 p1) (fun z => some ((0 : Int32), z.2, z.1.toInt64)) (some ((1 : Int32), S, nv)) (some ((2 : Int32), S, nv))
set_option maxHeartbeats 4000000 in
set_option maxRecDepth 100000 in
theorem ogL_forgetRule {N K : Nat} {r : Nat → Nat} {o : Nat} {S : CS} {nv : Int64} {sv : Value} {p0 : Int32} {p1 : Int32} {x : Int32 × CS × Int64} (hE : gL_forgetRule N K S p0 p1 nv = some x) : OkM yL_forgetRule (.codeWith yL_forgetRule cL_forgetRule 5 (some .int) [(0, 11, 14, 19), (0, 11, 18, 21)]) (10) 2 12 [.ref (r 0), .int p0, .int p1, .ref o] (WX r S ++ [OC o nv sv]) ((PN (U := Int32 × CS × Int64) (fun z _ => some (.int z.1)) (fun z g => WX r z.2.1 ++ [OC o z.2.2 sv])) x) := by
  refine ok_ofH (by decide) (Nat.le_of_ble_eq_true rfl) hE ?_
  refine aw_locals (lv' := [(0, .ref (r 0)), (1, .int p0), (2, .int p1), (3, .ref o)]) [0, 1, 2, 3] rfl ?_
  refine aw_aload_n (q := 1) gdL_forgetRule_0.1 rfl 3 rfl ?_
  refine aw_aload_n (q := 2) gdL_forgetRule_0.2.1 rfl 0 rfl ?_
  refine aw_iload_n (q := 3) gdL_forgetRule_0.2.2.1 rfl 1 rfl ?_
  refine aw_iload_n (q := 4) gdL_forgetRule_0.2.2.2.1 rfl 2 rfl ?_
  refine aw_callC (q := 7) (hp1 := 14) (hp2 := 18) (kc1 := 0) (ks1 := 0) (wc := WX r S) (wr := [OC o nv sv]) (st1 := fun z g => [.int z.1, .ref o]) (ws1 := fun z g => [OC o nv sv] ++ WX r z.2) (As := [.ref (r 0), .int p0, .int p1]) [0, 1, 2, 3, 4, 5, 6, 7, 8, 9, 10, 11, 12, 13, 14, 15, 16, 17, 18, 19, 20, 21, 22, 23, 24, 25, 26] [27] (fun _ => runV (q0 := 0) gdL_forgetRule_0.2.2.2.2.1 mi_X5_forgetRule im_X5_forgetRule se_X5_forgetRule ml_L_92 (by omega) rfl (Nat.le_of_ble_eq_true rfl) rfl rfl rfl rfl) (fun x9 h9 => ogX_forgetRule h9) rfl rfl rfl rfl rfl (by decide +kernel) (by omega) (by omega) (fun _ _ => rfl) (fun _ _ => rfl) (Or.inr ⟨⟨[], _, [_], "java/lang/IndexOutOfBoundsException", rfl, (fun z h => by cases h), by decide, by decide, cl_L_19, ca_IndexOutOfBoundsException, rfl⟩, fun q9 => ?_⟩) (Or.inr ⟨⟨[_], _, [], "java/lang/IllegalArgumentException", rfl, (fun z h => by rcases List.mem_cons.mp h with rfl | h <;> first | exact ⟨by decide, rfl, cl_L_19⟩ | cases h), by decide, by decide, cl_L_21, ca_IllegalArgumentException, rfl⟩, fun q9 => ?_⟩) (fun z g => ?_)
  · refine aw_astore (q := 16) (lv' := [(4, .ref q9), (0, .ref (r 0)), (1, .int p0), (2, .int p1), (3, .ref o)]) gdL_forgetRule_14.1 rfl (by decide) rfl ?_
    refine aw_iconst (q := 17) (v := 1) gdL_forgetRule_14.2.1 rfl (by decide) ?_
    exact aw_ireturn [1, 2, 3, 4, 5, 6, 7, 8, 9, 10, 11, 12, 13, 14, 15, 16, 17, 18, 19, 20, 21, 22, 23, 24, 25, 26, 27, 0] gdL_forgetRule_14.2.2.1 rfl rfl rfl rfl (PN.mk (fun _ => 0) rfl rfl)
  · refine aw_astore (q := 20) (lv' := [(4, .ref q9), (0, .ref (r 0)), (1, .int p0), (2, .int p1), (3, .ref o)]) gdL_forgetRule_14.2.2.2.1 rfl (by decide) rfl ?_
    refine aw_iconst (q := 21) (v := 2) gdL_forgetRule_14.2.2.2.2.1 rfl (by decide) ?_
    exact aw_ireturn [1, 2, 3, 4, 5, 6, 7, 8, 9, 10, 11, 12, 13, 14, 15, 16, 17, 18, 19, 20, 21, 22, 23, 24, 25, 26, 27, 0] gdL_forgetRule_14.2.2.2.2.2.1 rfl rfl rfl rfl (PN.mk (fun _ => 0) rfl rfl)
  refine aw_i2l (q := 8) gdL_forgetRule_0.2.2.2.2.2.1 rfl ?_
  refine aw_putN (q := 11) (ws' := [OC o z.1.toInt64 sv] ++ WX r z.2) gdL_forgetRule_0.2.2.2.2.2.2.1 rfl fn_L_13 0 rfl rfl rfl (Nat.le_of_ble_eq_true rfl) rfl ?_
  refine aw_goto (tgt := 22) gdL_forgetRule_0.2.2.2.2.2.2.2 (by decide) ?_
  refine aw_iconst (q := 23) (v := 0) gdL_forgetRule_14.2.2.2.2.2.2.1 rfl (by decide) ?_
  exact aw_ireturn [1, 2, 3, 4, 5, 6, 7, 8, 9, 10, 11, 12, 13, 14, 15, 16, 17, 18, 19, 20, 21, 22, 23, 24, 25, 26, 27, 0] gdL_forgetRule_14.2.2.2.2.2.2.2 rfl rfl rfl rfl (PN.mk g rfl rfl)
def gL_ledger (N K : Nat) (S : CS) (p0 : Int32) (p1 : Int32) (nv : Int64) : Option (Int32 × CS × Int64) := wb (gX_ledger N K S p0 p1) (fun z => some ((0 : Int32), z.2, z.1.toInt64)) (some ((1 : Int32), S, nv)) (some ((2 : Int32), S, nv))
set_option maxHeartbeats 4000000 in
set_option maxRecDepth 100000 in
theorem ogL_ledger {N K : Nat} {r : Nat → Nat} {o : Nat} {S : CS} {nv : Int64} {sv : Value} {p0 : Int32} {p1 : Int32} {x : Int32 × CS × Int64} (hE : gL_ledger N K S p0 p1 nv = some x) : OkM yL_ledger (.codeWith yL_ledger cL_ledger 5 (some .int) [(0, 11, 14, 19), (0, 11, 18, 21)]) (10) 2 12 [.ref (r 0), .int p0, .int p1, .ref o] (WX r S ++ [OC o nv sv]) ((PN (U := Int32 × CS × Int64) (fun z _ => some (.int z.1)) (fun z g => WX r z.2.1 ++ [OC o z.2.2 sv])) x) := by
  refine ok_ofH (by decide) (Nat.le_of_ble_eq_true rfl) hE ?_
  refine aw_locals (lv' := [(0, .ref (r 0)), (1, .int p0), (2, .int p1), (3, .ref o)]) [0, 1, 2, 3] rfl ?_
  refine aw_aload_n (q := 1) gdL_ledger_0.1 rfl 3 rfl ?_
  refine aw_aload_n (q := 2) gdL_ledger_0.2.1 rfl 0 rfl ?_
  refine aw_iload_n (q := 3) gdL_ledger_0.2.2.1 rfl 1 rfl ?_
  refine aw_iload_n (q := 4) gdL_ledger_0.2.2.2.1 rfl 2 rfl ?_
  refine aw_callC (q := 7) (hp1 := 14) (hp2 := 18) (kc1 := 0) (ks1 := 0) (wc := WX r S) (wr := [OC o nv sv]) (st1 := fun z g => [.int z.1, .ref o]) (ws1 := fun z g => [OC o nv sv] ++ WX r z.2) (As := [.ref (r 0), .int p0, .int p1]) [0, 1, 2, 3, 4, 5, 6, 7, 8, 9, 10, 11, 12, 13, 14, 15, 16, 17, 18, 19, 20, 21, 22, 23, 24, 25, 26] [27] (fun _ => runV (q0 := 0) gdL_ledger_0.2.2.2.2.1 mi_X5_ledger im_X5_ledger se_X5_ledger ml_L_95 (by omega) rfl (Nat.le_of_ble_eq_true rfl) rfl rfl rfl rfl) (fun x9 h9 => ogX_ledger h9) rfl rfl rfl rfl rfl (by decide +kernel) (by omega) (by omega) (fun _ _ => rfl) (fun _ _ => rfl) (Or.inr ⟨⟨[], _, [_], "java/lang/IndexOutOfBoundsException", rfl, (fun z h => by cases h), by decide, by decide, cl_L_19, ca_IndexOutOfBoundsException, rfl⟩, fun q9 => ?_⟩) (Or.inr ⟨⟨[_], _, [], "java/lang/IllegalArgumentException", rfl, (fun z h => by rcases List.mem_cons.mp h with rfl | h <;> first | exact ⟨by decide, rfl, cl_L_19⟩ | cases h), by decide, by decide, cl_L_21, ca_IllegalArgumentException, rfl⟩, fun q9 => ?_⟩) (fun z g => ?_)
  · refine aw_astore (q := 16) (lv' := [(4, .ref q9), (0, .ref (r 0)), (1, .int p0), (2, .int p1), (3, .ref o)]) gdL_ledger_14.1 rfl (by decide) rfl ?_
    refine aw_iconst (q := 17) (v := 1) gdL_ledger_14.2.1 rfl (by decide) ?_
    exact aw_ireturn [1, 2, 3, 4, 5, 6, 7, 8, 9, 10, 11, 12, 13, 14, 15, 16, 17, 18, 19, 20, 21, 22, 23, 24, 25, 26, 27, 0] gdL_ledger_14.2.2.1 rfl rfl rfl rfl (PN.mk (fun _ => 0) rfl rfl)
  · refine aw_astore (q := 20) (lv' := [(4, .ref q9), (0, .ref (r 0)), (1, .int p0), (2, .int p1), (3, .ref o)]) gdL_ledger_14.2.2.2.1 rfl (by decide) rfl ?_
    refine aw_iconst (q := 21) (v := 2) gdL_ledger_14.2.2.2.2.1 rfl (by decide) ?_
    exact aw_ireturn [1, 2, 3, 4, 5, 6, 7, 8, 9, 10, 11, 12, 13, 14, 15, 16, 17, 18, 19, 20, 21, 22, 23, 24, 25, 26, 27, 0] gdL_ledger_14.2.2.2.2.2.1 rfl rfl rfl rfl (PN.mk (fun _ => 0) rfl rfl)
  refine aw_i2l (q := 8) gdL_ledger_0.2.2.2.2.2.1 rfl ?_
  refine aw_putN (q := 11) (ws' := [OC o z.1.toInt64 sv] ++ WX r z.2) gdL_ledger_0.2.2.2.2.2.2.1 rfl fn_L_13 0 rfl rfl rfl (Nat.le_of_ble_eq_true rfl) rfl ?_
  refine aw_goto (tgt := 22) gdL_ledger_0.2.2.2.2.2.2.2 (by decide) ?_
  refine aw_iconst (q := 23) (v := 0) gdL_ledger_14.2.2.2.2.2.2.1 rfl (by decide) ?_
  exact aw_ireturn [1, 2, 3, 4, 5, 6, 7, 8, 9, 10, 11, 12, 13, 14, 15, 16, 17, 18, 19, 20, 21, 22, 23, 24, 25, 26, 27, 0] gdL_ledger_14.2.2.2.2.2.2.2 rfl rfl rfl rfl (PN.mk g rfl rfl)
def gL_ruleWorth (N K : Nat) (S : CS) (p0 : Int32) (p1 : Int32) (p2 : Int32) (nv : Int64) : Option (Int32 × CS × Int64) := wb (gX_ruleWorth N K S p0 p1 p2) (fun z => some ((0 : Int32), z.2, z.1.toInt64)) (some ((1 : Int32), S, nv)) (some ((2 : Int32), S, nv))
set_option maxHeartbeats 4000000 in
set_option maxRecDepth 100000 in
theorem ogL_ruleWorth {N K : Nat} {r : Nat → Nat} {o : Nat} {S : CS} {nv : Int64} {sv : Value} {p0 : Int32} {p1 : Int32} {p2 : Int32} {x : Int32 × CS × Int64} (hE : gL_ruleWorth N K S p0 p1 p2 nv = some x) : OkM yL_ruleWorth (.codeWith yL_ruleWorth cL_ruleWorth 6 (some .int) [(0, 13, 16, 19), (0, 13, 20, 21)]) (10) 3 18 [.ref (r 0), .int p0, .int p1, .int p2, .ref o] (WX r S ++ [OC o nv sv]) ((PN (U := Int32 × CS × Int64) (fun z _ => some (.int z.1)) (fun z g => WX r z.2.1 ++ [OC o z.2.2 sv])) x) := by
  refine ok_ofH (by decide) (Nat.le_of_ble_eq_true rfl) hE ?_
  refine aw_locals (lv' := [(0, .ref (r 0)), (1, .int p0), (2, .int p1), (3, .int p2), (4, .ref o)]) [0, 1, 2, 3, 4] rfl ?_
  refine aw_aload (q := 2) gdL_ruleWorth_0.1 rfl 4 rfl ?_
  refine aw_aload_n (q := 3) gdL_ruleWorth_0.2.1 rfl 0 rfl ?_
  refine aw_iload_n (q := 4) gdL_ruleWorth_0.2.2.1 rfl 1 rfl ?_
  refine aw_iload_n (q := 5) gdL_ruleWorth_0.2.2.2.1 rfl 2 rfl ?_
  refine aw_iload_n (q := 6) gdL_ruleWorth_0.2.2.2.2.1 rfl 3 rfl ?_
  refine aw_callC (q := 9) (hp1 := 16) (hp2 := 20) (kc1 := 0) (ks1 := 0) (wc := WX r S) (wr := [OC o nv sv]) (st1 := fun z g => [.int z.1, .ref o]) (ws1 := fun z g => [OC o nv sv] ++ WX r z.2) (As := [.ref (r 0), .int p0, .int p1, .int p2]) [0, 1, 2, 3, 4, 5, 6, 7, 8, 9, 10, 11, 12, 13, 14, 15, 16, 17, 18, 19, 20, 21, 22, 23, 24, 25, 26] [27] (fun _ => runV (q0 := 0) gdL_ruleWorth_0.2.2.2.2.2.1 mi_X5_ruleWorth im_X5_ruleWorth se_X5_ruleWorth ml_L_98 (by omega) rfl (Nat.le_of_ble_eq_true rfl) rfl rfl rfl rfl) (fun x9 h9 => ogX_ruleWorth h9) rfl rfl rfl rfl rfl (by decide +kernel) (by omega) (by omega) (fun _ _ => rfl) (fun _ _ => rfl) (Or.inr ⟨⟨[], _, [_], "java/lang/IndexOutOfBoundsException", rfl, (fun z h => by cases h), by decide, by decide, cl_L_19, ca_IndexOutOfBoundsException, rfl⟩, fun q9 => ?_⟩) (Or.inr ⟨⟨[_], _, [], "java/lang/IllegalArgumentException", rfl, (fun z h => by rcases List.mem_cons.mp h with rfl | h <;> first | exact ⟨by decide, rfl, cl_L_19⟩ | cases h), by decide, by decide, cl_L_21, ca_IllegalArgumentException, rfl⟩, fun q9 => ?_⟩) (fun z g => ?_)
  · refine aw_astore (q := 18) (lv' := [(5, .ref q9), (0, .ref (r 0)), (1, .int p0), (2, .int p1), (3, .int p2), (4, .ref o)]) gdL_ruleWorth_13.2.1 rfl (by decide) rfl ?_
    refine aw_iconst (q := 19) (v := 1) gdL_ruleWorth_13.2.2.1 rfl (by decide) ?_
    exact aw_ireturn [1, 2, 3, 4, 5, 6, 7, 8, 9, 10, 11, 12, 13, 14, 15, 16, 17, 18, 19, 20, 21, 22, 23, 24, 25, 26, 27, 0] gdL_ruleWorth_13.2.2.2.1 rfl rfl rfl rfl (PN.mk (fun _ => 0) rfl rfl)
  · refine aw_astore (q := 22) (lv' := [(5, .ref q9), (0, .ref (r 0)), (1, .int p0), (2, .int p1), (3, .int p2), (4, .ref o)]) gdL_ruleWorth_13.2.2.2.2.1 rfl (by decide) rfl ?_
    refine aw_iconst (q := 23) (v := 2) gdL_ruleWorth_13.2.2.2.2.2.1 rfl (by decide) ?_
    exact aw_ireturn [1, 2, 3, 4, 5, 6, 7, 8, 9, 10, 11, 12, 13, 14, 15, 16, 17, 18, 19, 20, 21, 22, 23, 24, 25, 26, 27, 0] gdL_ruleWorth_13.2.2.2.2.2.2.1 rfl rfl rfl rfl (PN.mk (fun _ => 0) rfl rfl)
  refine aw_i2l (q := 10) gdL_ruleWorth_0.2.2.2.2.2.2.1 rfl ?_
  refine aw_putN (q := 13) (ws' := [OC o z.1.toInt64 sv] ++ WX r z.2) gdL_ruleWorth_0.2.2.2.2.2.2.2 rfl fn_L_13 0 rfl rfl rfl (Nat.le_of_ble_eq_true rfl) rfl ?_
  refine aw_goto (tgt := 24) gdL_ruleWorth_13.1 (by decide) ?_
  refine aw_iconst (q := 25) (v := 0) gdL_ruleWorth_13.2.2.2.2.2.2.2 rfl (by decide) ?_
  exact aw_ireturn [1, 2, 3, 4, 5, 6, 7, 8, 9, 10, 11, 12, 13, 14, 15, 16, 17, 18, 19, 20, 21, 22, 23, 24, 25, 26, 27, 0] dL_ruleWorth_25 rfl rfl rfl rfl (PN.mk g rfl rfl)
def gL_addPart (N K : Nat) (S : CS) (p0 : Int32) (p1 : Int32) (p2 : Int32) (nv : Int64) : Option (Int32 × CS × Int64) := wb (gX_addPart N K S p0 p1 p2) (fun z => some ((0 : Int32), z.2, z.1.toInt64)) (some ((1 : Int32), S, nv)) (some ((2 : Int32), S, nv))
set_option maxHeartbeats 4000000 in
set_option maxRecDepth 100000 in
theorem ogL_addPart {N K : Nat} {r : Nat → Nat} {o : Nat} {S : CS} {nv : Int64} {sv : Value} {p0 : Int32} {p1 : Int32} {p2 : Int32} {x : Int32 × CS × Int64} (hE : gL_addPart N K S p0 p1 p2 nv = some x) : OkM yL_addPart (.codeWith yL_addPart cL_addPart 6 (some .int) [(0, 13, 16, 19), (0, 13, 20, 21)]) (10) 3 18 [.ref (r 0), .int p0, .int p1, .int p2, .ref o] (WX r S ++ [OC o nv sv]) ((PN (U := Int32 × CS × Int64) (fun z _ => some (.int z.1)) (fun z g => WX r z.2.1 ++ [OC o z.2.2 sv])) x) := by
  refine ok_ofH (by decide) (Nat.le_of_ble_eq_true rfl) hE ?_
  refine aw_locals (lv' := [(0, .ref (r 0)), (1, .int p0), (2, .int p1), (3, .int p2), (4, .ref o)]) [0, 1, 2, 3, 4] rfl ?_
  refine aw_aload (q := 2) gdL_addPart_0.1 rfl 4 rfl ?_
  refine aw_aload_n (q := 3) gdL_addPart_0.2.1 rfl 0 rfl ?_
  refine aw_iload_n (q := 4) gdL_addPart_0.2.2.1 rfl 1 rfl ?_
  refine aw_iload_n (q := 5) gdL_addPart_0.2.2.2.1 rfl 2 rfl ?_
  refine aw_iload_n (q := 6) gdL_addPart_0.2.2.2.2.1 rfl 3 rfl ?_
  refine aw_callC (q := 9) (hp1 := 16) (hp2 := 20) (kc1 := 0) (ks1 := 0) (wc := WX r S) (wr := [OC o nv sv]) (st1 := fun z g => [.int z.1, .ref o]) (ws1 := fun z g => [OC o nv sv] ++ WX r z.2) (As := [.ref (r 0), .int p0, .int p1, .int p2]) [0, 1, 2, 3, 4, 5, 6, 7, 8, 9, 10, 11, 12, 13, 14, 15, 16, 17, 18, 19, 20, 21, 22, 23, 24, 25, 26] [27] (fun _ => runV (q0 := 0) gdL_addPart_0.2.2.2.2.2.1 mi_X5_addPart im_X5_addPart se_X5_addPart ml_L_101 (by omega) rfl (Nat.le_of_ble_eq_true rfl) rfl rfl rfl rfl) (fun x9 h9 => ogX_addPart h9) rfl rfl rfl rfl rfl (by decide +kernel) (by omega) (by omega) (fun _ _ => rfl) (fun _ _ => rfl) (Or.inr ⟨⟨[], _, [_], "java/lang/IndexOutOfBoundsException", rfl, (fun z h => by cases h), by decide, by decide, cl_L_19, ca_IndexOutOfBoundsException, rfl⟩, fun q9 => ?_⟩) (Or.inr ⟨⟨[_], _, [], "java/lang/IllegalArgumentException", rfl, (fun z h => by rcases List.mem_cons.mp h with rfl | h <;> first | exact ⟨by decide, rfl, cl_L_19⟩ | cases h), by decide, by decide, cl_L_21, ca_IllegalArgumentException, rfl⟩, fun q9 => ?_⟩) (fun z g => ?_)
  · refine aw_astore (q := 18) (lv' := [(5, .ref q9), (0, .ref (r 0)), (1, .int p0), (2, .int p1), (3, .int p2), (4, .ref o)]) gdL_addPart_13.2.1 rfl (by decide) rfl ?_
    refine aw_iconst (q := 19) (v := 1) gdL_addPart_13.2.2.1 rfl (by decide) ?_
    exact aw_ireturn [1, 2, 3, 4, 5, 6, 7, 8, 9, 10, 11, 12, 13, 14, 15, 16, 17, 18, 19, 20, 21, 22, 23, 24, 25, 26, 27, 0] gdL_addPart_13.2.2.2.1 rfl rfl rfl rfl (PN.mk (fun _ => 0) rfl rfl)
  · refine aw_astore (q := 22) (lv' := [(5, .ref q9), (0, .ref (r 0)), (1, .int p0), (2, .int p1), (3, .int p2), (4, .ref o)]) gdL_addPart_13.2.2.2.2.1 rfl (by decide) rfl ?_
    refine aw_iconst (q := 23) (v := 2) gdL_addPart_13.2.2.2.2.2.1 rfl (by decide) ?_
    exact aw_ireturn [1, 2, 3, 4, 5, 6, 7, 8, 9, 10, 11, 12, 13, 14, 15, 16, 17, 18, 19, 20, 21, 22, 23, 24, 25, 26, 27, 0] gdL_addPart_13.2.2.2.2.2.2.1 rfl rfl rfl rfl (PN.mk (fun _ => 0) rfl rfl)
  refine aw_i2l (q := 10) gdL_addPart_0.2.2.2.2.2.2.1 rfl ?_
  refine aw_putN (q := 13) (ws' := [OC o z.1.toInt64 sv] ++ WX r z.2) gdL_addPart_0.2.2.2.2.2.2.2 rfl fn_L_13 0 rfl rfl rfl (Nat.le_of_ble_eq_true rfl) rfl ?_
  refine aw_goto (tgt := 24) gdL_addPart_13.1 (by decide) ?_
  refine aw_iconst (q := 25) (v := 0) gdL_addPart_13.2.2.2.2.2.2.2 rfl (by decide) ?_
  exact aw_ireturn [1, 2, 3, 4, 5, 6, 7, 8, 9, 10, 11, 12, 13, 14, 15, 16, 17, 18, 19, 20, 21, 22, 23, 24, 25, 26, 27, 0] dL_addPart_25 rfl rfl rfl rfl (PN.mk g rfl rfl)
def gL_takePart (N K : Nat) (S : CS) (p0 : Int32) (p1 : Int32) (nv : Int64) : Option (Int32 × CS × Int64) := wb (gX_takePart N K S p0 p1) (fun z => some ((0 : Int32), z.2, z.1.toInt64)) (some ((1 : Int32), S, nv)) (some ((2 : Int32), S, nv))
set_option maxHeartbeats 4000000 in
set_option maxRecDepth 100000 in
theorem ogL_takePart {N K : Nat} {r : Nat → Nat} {o : Nat} {S : CS} {nv : Int64} {sv : Value} {p0 : Int32} {p1 : Int32} {x : Int32 × CS × Int64} (hE : gL_takePart N K S p0 p1 nv = some x) : OkM yL_takePart (.codeWith yL_takePart cL_takePart 5 (some .int) [(0, 11, 14, 19), (0, 11, 18, 21)]) (10) 2 12 [.ref (r 0), .int p0, .int p1, .ref o] (WX r S ++ [OC o nv sv]) ((PN (U := Int32 × CS × Int64) (fun z _ => some (.int z.1)) (fun z g => WX r z.2.1 ++ [OC o z.2.2 sv])) x) := by
  refine ok_ofH (by decide) (Nat.le_of_ble_eq_true rfl) hE ?_
  refine aw_locals (lv' := [(0, .ref (r 0)), (1, .int p0), (2, .int p1), (3, .ref o)]) [0, 1, 2, 3] rfl ?_
  refine aw_aload_n (q := 1) gdL_takePart_0.1 rfl 3 rfl ?_
  refine aw_aload_n (q := 2) gdL_takePart_0.2.1 rfl 0 rfl ?_
  refine aw_iload_n (q := 3) gdL_takePart_0.2.2.1 rfl 1 rfl ?_
  refine aw_iload_n (q := 4) gdL_takePart_0.2.2.2.1 rfl 2 rfl ?_
  refine aw_callC (q := 7) (hp1 := 14) (hp2 := 18) (kc1 := 0) (ks1 := 0) (wc := WX r S) (wr := [OC o nv sv]) (st1 := fun z g => [.int z.1, .ref o]) (ws1 := fun z g => [OC o nv sv] ++ WX r z.2) (As := [.ref (r 0), .int p0, .int p1]) [0, 1, 2, 3, 4, 5, 6, 7, 8, 9, 10, 11, 12, 13, 14, 15, 16, 17, 18, 19, 20, 21, 22, 23, 24, 25, 26] [27] (fun _ => runV (q0 := 0) gdL_takePart_0.2.2.2.2.1 mi_X5_takePart im_X5_takePart se_X5_takePart ml_L_104 (by omega) rfl (Nat.le_of_ble_eq_true rfl) rfl rfl rfl rfl) (fun x9 h9 => ogX_takePart h9) rfl rfl rfl rfl rfl (by decide +kernel) (by omega) (by omega) (fun _ _ => rfl) (fun _ _ => rfl) (Or.inr ⟨⟨[], _, [_], "java/lang/IndexOutOfBoundsException", rfl, (fun z h => by cases h), by decide, by decide, cl_L_19, ca_IndexOutOfBoundsException, rfl⟩, fun q9 => ?_⟩) (Or.inr ⟨⟨[_], _, [], "java/lang/IllegalArgumentException", rfl, (fun z h => by rcases List.mem_cons.mp h with rfl | h <;> first | exact ⟨by decide, rfl, cl_L_19⟩ | cases h), by decide, by decide, cl_L_21, ca_IllegalArgumentException, rfl⟩, fun q9 => ?_⟩) (fun z g => ?_)
  · refine aw_astore (q := 16) (lv' := [(4, .ref q9), (0, .ref (r 0)), (1, .int p0), (2, .int p1), (3, .ref o)]) gdL_takePart_14.1 rfl (by decide) rfl ?_
    refine aw_iconst (q := 17) (v := 1) gdL_takePart_14.2.1 rfl (by decide) ?_
    exact aw_ireturn [1, 2, 3, 4, 5, 6, 7, 8, 9, 10, 11, 12, 13, 14, 15, 16, 17, 18, 19, 20, 21, 22, 23, 24, 25, 26, 27, 0] gdL_takePart_14.2.2.1 rfl rfl rfl rfl (PN.mk (fun _ => 0) rfl rfl)
  · refine aw_astore (q := 20) (lv' := [(4, .ref q9), (0, .ref (r 0)), (1, .int p0), (2, .int p1), (3, .ref o)]) gdL_takePart_14.2.2.2.1 rfl (by decide) rfl ?_
    refine aw_iconst (q := 21) (v := 2) gdL_takePart_14.2.2.2.2.1 rfl (by decide) ?_
    exact aw_ireturn [1, 2, 3, 4, 5, 6, 7, 8, 9, 10, 11, 12, 13, 14, 15, 16, 17, 18, 19, 20, 21, 22, 23, 24, 25, 26, 27, 0] gdL_takePart_14.2.2.2.2.2.1 rfl rfl rfl rfl (PN.mk (fun _ => 0) rfl rfl)
  refine aw_i2l (q := 8) gdL_takePart_0.2.2.2.2.2.1 rfl ?_
  refine aw_putN (q := 11) (ws' := [OC o z.1.toInt64 sv] ++ WX r z.2) gdL_takePart_0.2.2.2.2.2.2.1 rfl fn_L_13 0 rfl rfl rfl (Nat.le_of_ble_eq_true rfl) rfl ?_
  refine aw_goto (tgt := 22) gdL_takePart_0.2.2.2.2.2.2.2 (by decide) ?_
  refine aw_iconst (q := 23) (v := 0) gdL_takePart_14.2.2.2.2.2.2.1 rfl (by decide) ?_
  exact aw_ireturn [1, 2, 3, 4, 5, 6, 7, 8, 9, 10, 11, 12, 13, 14, 15, 16, 17, 18, 19, 20, 21, 22, 23, 24, 25, 26, 27, 0] gdL_takePart_14.2.2.2.2.2.2.2 rfl rfl rfl rfl (PN.mk g rfl rfl)
def gL_layFirst (N K : Nat) (S : CS) (p0 : Int32) (p1 : Int32) (nv : Int64) : Option (Int32 × CS × Int64) := wb (gX_layFirst N K S p0 p1) (fun z => some ((0 : Int32), z.2, z.1.toInt64)) (some ((1 : Int32), S, nv)) (some ((2 : Int32), S, nv))
set_option maxHeartbeats 4000000 in
set_option maxRecDepth 100000 in
theorem ogL_layFirst {N K : Nat} {r : Nat → Nat} {o : Nat} {S : CS} {nv : Int64} {sv : Value} {p0 : Int32} {p1 : Int32} {x : Int32 × CS × Int64} (hE : gL_layFirst N K S p0 p1 nv = some x) : OkM yL_layFirst (.codeWith yL_layFirst cL_layFirst 5 (some .int) [(0, 11, 14, 19), (0, 11, 18, 21)]) (10) 2 12 [.ref (r 0), .int p0, .int p1, .ref o] (WX r S ++ [OC o nv sv]) ((PN (U := Int32 × CS × Int64) (fun z _ => some (.int z.1)) (fun z g => WX r z.2.1 ++ [OC o z.2.2 sv])) x) := by
  refine ok_ofH (by decide) (Nat.le_of_ble_eq_true rfl) hE ?_
  refine aw_locals (lv' := [(0, .ref (r 0)), (1, .int p0), (2, .int p1), (3, .ref o)]) [0, 1, 2, 3] rfl ?_
  refine aw_aload_n (q := 1) gdL_layFirst_0.1 rfl 3 rfl ?_
  refine aw_aload_n (q := 2) gdL_layFirst_0.2.1 rfl 0 rfl ?_
  refine aw_iload_n (q := 3) gdL_layFirst_0.2.2.1 rfl 1 rfl ?_
  refine aw_iload_n (q := 4) gdL_layFirst_0.2.2.2.1 rfl 2 rfl ?_
  refine aw_callC (q := 7) (hp1 := 14) (hp2 := 18) (kc1 := 0) (ks1 := 0) (wc := WX r S) (wr := [OC o nv sv]) (st1 := fun z g => [.int z.1, .ref o]) (ws1 := fun z g => [OC o nv sv] ++ WX r z.2) (As := [.ref (r 0), .int p0, .int p1]) [0, 1, 2, 3, 4, 5, 6, 7, 8, 9, 10, 11, 12, 13, 14, 15, 16, 17, 18, 19, 20, 21, 22, 23, 24, 25, 26] [27] (fun _ => runV (q0 := 0) gdL_layFirst_0.2.2.2.2.1 mi_X5_layFirst im_X5_layFirst se_X5_layFirst ml_L_107 (by omega) rfl (Nat.le_of_ble_eq_true rfl) rfl rfl rfl rfl) (fun x9 h9 => ogX_layFirst h9) rfl rfl rfl rfl rfl (by decide +kernel) (by omega) (by omega) (fun _ _ => rfl) (fun _ _ => rfl) (Or.inr ⟨⟨[], _, [_], "java/lang/IndexOutOfBoundsException", rfl, (fun z h => by cases h), by decide, by decide, cl_L_19, ca_IndexOutOfBoundsException, rfl⟩, fun q9 => ?_⟩) (Or.inr ⟨⟨[_], _, [], "java/lang/IllegalArgumentException", rfl, (fun z h => by rcases List.mem_cons.mp h with rfl | h <;> first | exact ⟨by decide, rfl, cl_L_19⟩ | cases h), by decide, by decide, cl_L_21, ca_IllegalArgumentException, rfl⟩, fun q9 => ?_⟩) (fun z g => ?_)
  · refine aw_astore (q := 16) (lv' := [(4, .ref q9), (0, .ref (r 0)), (1, .int p0), (2, .int p1), (3, .ref o)]) gdL_layFirst_14.1 rfl (by decide) rfl ?_
    refine aw_iconst (q := 17) (v := 1) gdL_layFirst_14.2.1 rfl (by decide) ?_
    exact aw_ireturn [1, 2, 3, 4, 5, 6, 7, 8, 9, 10, 11, 12, 13, 14, 15, 16, 17, 18, 19, 20, 21, 22, 23, 24, 25, 26, 27, 0] gdL_layFirst_14.2.2.1 rfl rfl rfl rfl (PN.mk (fun _ => 0) rfl rfl)
  · refine aw_astore (q := 20) (lv' := [(4, .ref q9), (0, .ref (r 0)), (1, .int p0), (2, .int p1), (3, .ref o)]) gdL_layFirst_14.2.2.2.1 rfl (by decide) rfl ?_
    refine aw_iconst (q := 21) (v := 2) gdL_layFirst_14.2.2.2.2.1 rfl (by decide) ?_
    exact aw_ireturn [1, 2, 3, 4, 5, 6, 7, 8, 9, 10, 11, 12, 13, 14, 15, 16, 17, 18, 19, 20, 21, 22, 23, 24, 25, 26, 27, 0] gdL_layFirst_14.2.2.2.2.2.1 rfl rfl rfl rfl (PN.mk (fun _ => 0) rfl rfl)
  refine aw_i2l (q := 8) gdL_layFirst_0.2.2.2.2.2.1 rfl ?_
  refine aw_putN (q := 11) (ws' := [OC o z.1.toInt64 sv] ++ WX r z.2) gdL_layFirst_0.2.2.2.2.2.2.1 rfl fn_L_13 0 rfl rfl rfl (Nat.le_of_ble_eq_true rfl) rfl ?_
  refine aw_goto (tgt := 22) gdL_layFirst_0.2.2.2.2.2.2.2 (by decide) ?_
  refine aw_iconst (q := 23) (v := 0) gdL_layFirst_14.2.2.2.2.2.2.1 rfl (by decide) ?_
  exact aw_ireturn [1, 2, 3, 4, 5, 6, 7, 8, 9, 10, 11, 12, 13, 14, 15, 16, 17, 18, 19, 20, 21, 22, 23, 24, 25, 26, 27, 0] gdL_layFirst_14.2.2.2.2.2.2.2 rfl rfl rfl rfl (PN.mk g rfl rfl)
def gL_next (N K : Nat) (S : CS) (p0 : Int32) (nv : Int64) : Option (Int32 × CS × Int64) := wb (gX_next N K S p0) (fun z => some ((0 : Int32), z.2, z.1.toInt64)) (some ((1 : Int32), S, nv)) none
set_option maxHeartbeats 4000000 in
set_option maxRecDepth 100000 in
theorem ogL_next {N K : Nat} {r : Nat → Nat} {o : Nat} {S : CS} {nv : Int64} {sv : Value} {p0 : Int32} {x : Int32 × CS × Int64} (hE : gL_next N K S p0 nv = some x) : OkM yL_next (.codeWith yL_next cL_next 4 (some .int) [(0, 10, 13, 19)]) (10) 1 6 [.ref (r 0), .int p0, .ref o] (WX r S ++ [OC o nv sv]) ((PN (U := Int32 × CS × Int64) (fun z _ => some (.int z.1)) (fun z g => WX r z.2.1 ++ [OC o z.2.2 sv])) x) := by
  refine ok_ofH (by decide) (Nat.le_of_ble_eq_true rfl) hE ?_
  refine aw_locals (lv' := [(0, .ref (r 0)), (1, .int p0), (2, .ref o)]) [0, 1, 2] rfl ?_
  refine aw_aload_n (q := 1) gdL_next_0.1 rfl 2 rfl ?_
  refine aw_aload_n (q := 2) gdL_next_0.2.1 rfl 0 rfl ?_
  refine aw_iload_n (q := 3) gdL_next_0.2.2.1 rfl 1 rfl ?_
  refine aw_callC (q := 6) (hp1 := 13) (hp2 := 0) (kc1 := 0) (ks1 := 0) (wc := WX r S) (wr := [OC o nv sv]) (st1 := fun z g => [.int z.1, .ref o]) (ws1 := fun z g => [OC o nv sv] ++ WX r z.2) (As := [.ref (r 0), .int p0]) [0, 1, 2, 3, 4, 5, 6, 7, 8, 9, 10, 11, 12, 13, 14, 15, 16, 17, 18, 19, 20, 21, 22, 23, 24, 25, 26] [27] (fun _ => runV (q0 := 0) gdL_next_0.2.2.2.1 mi_X5_next im_X5_next se_X5_next ml_L_110 (by omega) rfl (Nat.le_of_ble_eq_true rfl) rfl rfl rfl rfl) (fun x9 h9 => ogX_next h9) rfl rfl rfl rfl rfl (by decide +kernel) (by omega) (by omega) (fun _ _ => rfl) (fun _ _ => rfl) (Or.inr ⟨⟨[], _, [], "java/lang/IndexOutOfBoundsException", rfl, (fun z h => by cases h), by decide, by decide, cl_L_19, ca_IndexOutOfBoundsException, rfl⟩, fun q9 => ?_⟩) (Or.inl rfl) (fun z g => ?_)
  · refine aw_astore_n (q := 14) (lv' := [(3, .ref q9), (0, .ref (r 0)), (1, .int p0), (2, .ref o)]) gdL_next_0.2.2.2.2.2.2.2 rfl (by decide) rfl ?_
    refine aw_iconst (q := 15) (v := 1) gdL_next_14.1 rfl (by decide) ?_
    exact aw_ireturn [1, 2, 3, 4, 5, 6, 7, 8, 9, 10, 11, 12, 13, 14, 15, 16, 17, 18, 19, 20, 21, 22, 23, 24, 25, 26, 27, 0] gdL_next_14.2.1 rfl rfl rfl rfl (PN.mk (fun _ => 0) rfl rfl)
  refine aw_i2l (q := 7) gdL_next_0.2.2.2.2.1 rfl ?_
  refine aw_putN (q := 10) (ws' := [OC o z.1.toInt64 sv] ++ WX r z.2) gdL_next_0.2.2.2.2.2.1 rfl fn_L_13 0 rfl rfl rfl (Nat.le_of_ble_eq_true rfl) rfl ?_
  refine aw_goto (tgt := 16) gdL_next_0.2.2.2.2.2.2.1 (by decide) ?_
  refine aw_iconst (q := 17) (v := 0) gdL_next_14.2.2.1 rfl (by decide) ?_
  exact aw_ireturn [1, 2, 3, 4, 5, 6, 7, 8, 9, 10, 11, 12, 13, 14, 15, 16, 17, 18, 19, 20, 21, 22, 23, 24, 25, 26, 27, 0] gdL_next_14.2.2.2 rfl rfl rfl rfl (PN.mk g rfl rfl)
def gL_turn (N K : Nat) (S : CS) (p0 : Int32) (nv : Int64) : Option (Int32 × CS × Int64) := wb (gX_turn N K S p0) (fun z => some ((0 : Int32), z.2, z.1.toInt64)) (some ((1 : Int32), S, nv)) none
set_option maxHeartbeats 4000000 in
set_option maxRecDepth 100000 in
theorem ogL_turn {N K : Nat} {r : Nat → Nat} {o : Nat} {S : CS} {nv : Int64} {sv : Value} {p0 : Int32} {x : Int32 × CS × Int64} (hE : gL_turn N K S p0 nv = some x) : OkM yL_turn (.codeWith yL_turn cL_turn 4 (some .int) [(0, 10, 13, 19)]) (10) 1 6 [.ref (r 0), .int p0, .ref o] (WX r S ++ [OC o nv sv]) ((PN (U := Int32 × CS × Int64) (fun z _ => some (.int z.1)) (fun z g => WX r z.2.1 ++ [OC o z.2.2 sv])) x) := by
  refine ok_ofH (by decide) (Nat.le_of_ble_eq_true rfl) hE ?_
  refine aw_locals (lv' := [(0, .ref (r 0)), (1, .int p0), (2, .ref o)]) [0, 1, 2] rfl ?_
  refine aw_aload_n (q := 1) gdL_turn_0.1 rfl 2 rfl ?_
  refine aw_aload_n (q := 2) gdL_turn_0.2.1 rfl 0 rfl ?_
  refine aw_iload_n (q := 3) gdL_turn_0.2.2.1 rfl 1 rfl ?_
  refine aw_callC (q := 6) (hp1 := 13) (hp2 := 0) (kc1 := 0) (ks1 := 0) (wc := WX r S) (wr := [OC o nv sv]) (st1 := fun z g => [.int z.1, .ref o]) (ws1 := fun z g => [OC o nv sv] ++ WX r z.2) (As := [.ref (r 0), .int p0]) [0, 1, 2, 3, 4, 5, 6, 7, 8, 9, 10, 11, 12, 13, 14, 15, 16, 17, 18, 19, 20, 21, 22, 23, 24, 25, 26] [27] (fun _ => runV (q0 := 0) gdL_turn_0.2.2.2.1 mi_X5_turn im_X5_turn se_X5_turn ml_L_113 (by omega) rfl (Nat.le_of_ble_eq_true rfl) rfl rfl rfl rfl) (fun x9 h9 => ogX_turn h9) rfl rfl rfl rfl rfl (by decide +kernel) (by omega) (by omega) (fun _ _ => rfl) (fun _ _ => rfl) (Or.inr ⟨⟨[], _, [], "java/lang/IndexOutOfBoundsException", rfl, (fun z h => by cases h), by decide, by decide, cl_L_19, ca_IndexOutOfBoundsException, rfl⟩, fun q9 => ?_⟩) (Or.inl rfl) (fun z g => ?_)
  · refine aw_astore_n (q := 14) (lv' := [(3, .ref q9), (0, .ref (r 0)), (1, .int p0), (2, .ref o)]) gdL_turn_0.2.2.2.2.2.2.2 rfl (by decide) rfl ?_
    refine aw_iconst (q := 15) (v := 1) gdL_turn_14.1 rfl (by decide) ?_
    exact aw_ireturn [1, 2, 3, 4, 5, 6, 7, 8, 9, 10, 11, 12, 13, 14, 15, 16, 17, 18, 19, 20, 21, 22, 23, 24, 25, 26, 27, 0] gdL_turn_14.2.1 rfl rfl rfl rfl (PN.mk (fun _ => 0) rfl rfl)
  refine aw_i2l (q := 7) gdL_turn_0.2.2.2.2.1 rfl ?_
  refine aw_putN (q := 10) (ws' := [OC o z.1.toInt64 sv] ++ WX r z.2) gdL_turn_0.2.2.2.2.2.1 rfl fn_L_13 0 rfl rfl rfl (Nat.le_of_ble_eq_true rfl) rfl ?_
  refine aw_goto (tgt := 16) gdL_turn_0.2.2.2.2.2.2.1 (by decide) ?_
  refine aw_iconst (q := 17) (v := 0) gdL_turn_14.2.2.1 rfl (by decide) ?_
  exact aw_ireturn [1, 2, 3, 4, 5, 6, 7, 8, 9, 10, 11, 12, 13, 14, 15, 16, 17, 18, 19, 20, 21, 22, 23, 24, 25, 26, 27, 0] gdL_turn_14.2.2.2 rfl rfl rfl rfl (PN.mk g rfl rfl)
def gL_toUnlike (N K : Nat) (S : CS) (p0 : Int32) (nv : Int64) : Option (Int32 × CS × Int64) := wb (gX_toUnlike N K S p0) (fun z => some ((0 : Int32), z.2, z.1.toInt64)) (some ((1 : Int32), S, nv)) none
set_option maxHeartbeats 4000000 in
set_option maxRecDepth 100000 in
theorem ogL_toUnlike {N K : Nat} {r : Nat → Nat} {o : Nat} {S : CS} {nv : Int64} {sv : Value} {p0 : Int32} {x : Int32 × CS × Int64} (hE : gL_toUnlike N K S p0 nv = some x) : OkM yL_toUnlike (.codeWith yL_toUnlike cL_toUnlike 4 (some .int) [(0, 10, 13, 19)]) (10) 1 6 [.ref (r 0), .int p0, .ref o] (WX r S ++ [OC o nv sv]) ((PN (U := Int32 × CS × Int64) (fun z _ => some (.int z.1)) (fun z g => WX r z.2.1 ++ [OC o z.2.2 sv])) x) := by
  refine ok_ofH (by decide) (Nat.le_of_ble_eq_true rfl) hE ?_
  refine aw_locals (lv' := [(0, .ref (r 0)), (1, .int p0), (2, .ref o)]) [0, 1, 2] rfl ?_
  refine aw_aload_n (q := 1) gdL_toUnlike_0.1 rfl 2 rfl ?_
  refine aw_aload_n (q := 2) gdL_toUnlike_0.2.1 rfl 0 rfl ?_
  refine aw_iload_n (q := 3) gdL_toUnlike_0.2.2.1 rfl 1 rfl ?_
  refine aw_callC (q := 6) (hp1 := 13) (hp2 := 0) (kc1 := 0) (ks1 := 0) (wc := WX r S) (wr := [OC o nv sv]) (st1 := fun z g => [.int z.1, .ref o]) (ws1 := fun z g => [OC o nv sv] ++ WX r z.2) (As := [.ref (r 0), .int p0]) [0, 1, 2, 3, 4, 5, 6, 7, 8, 9, 10, 11, 12, 13, 14, 15, 16, 17, 18, 19, 20, 21, 22, 23, 24, 25, 26] [27] (fun _ => runV (q0 := 0) gdL_toUnlike_0.2.2.2.1 mi_X5_toUnlike im_X5_toUnlike se_X5_toUnlike ml_L_116 (by omega) rfl (Nat.le_of_ble_eq_true rfl) rfl rfl rfl rfl) (fun x9 h9 => ogX_toUnlike h9) rfl rfl rfl rfl rfl (by decide +kernel) (by omega) (by omega) (fun _ _ => rfl) (fun _ _ => rfl) (Or.inr ⟨⟨[], _, [], "java/lang/IndexOutOfBoundsException", rfl, (fun z h => by cases h), by decide, by decide, cl_L_19, ca_IndexOutOfBoundsException, rfl⟩, fun q9 => ?_⟩) (Or.inl rfl) (fun z g => ?_)
  · refine aw_astore_n (q := 14) (lv' := [(3, .ref q9), (0, .ref (r 0)), (1, .int p0), (2, .ref o)]) gdL_toUnlike_0.2.2.2.2.2.2.2 rfl (by decide) rfl ?_
    refine aw_iconst (q := 15) (v := 1) gdL_toUnlike_14.1 rfl (by decide) ?_
    exact aw_ireturn [1, 2, 3, 4, 5, 6, 7, 8, 9, 10, 11, 12, 13, 14, 15, 16, 17, 18, 19, 20, 21, 22, 23, 24, 25, 26, 27, 0] gdL_toUnlike_14.2.1 rfl rfl rfl rfl (PN.mk (fun _ => 0) rfl rfl)
  refine aw_i2l (q := 7) gdL_toUnlike_0.2.2.2.2.1 rfl ?_
  refine aw_putN (q := 10) (ws' := [OC o z.1.toInt64 sv] ++ WX r z.2) gdL_toUnlike_0.2.2.2.2.2.1 rfl fn_L_13 0 rfl rfl rfl (Nat.le_of_ble_eq_true rfl) rfl ?_
  refine aw_goto (tgt := 16) gdL_toUnlike_0.2.2.2.2.2.2.1 (by decide) ?_
  refine aw_iconst (q := 17) (v := 0) gdL_toUnlike_14.2.2.1 rfl (by decide) ?_
  exact aw_ireturn [1, 2, 3, 4, 5, 6, 7, 8, 9, 10, 11, 12, 13, 14, 15, 16, 17, 18, 19, 20, 21, 22, 23, 24, 25, 26, 27, 0] gdL_toUnlike_14.2.2.2 rfl rfl rfl rfl (PN.mk g rfl rfl)
def gL_toOdd (N K : Nat) (S : CS) (p0 : Int32) (nv : Int64) : Option (Int32 × CS × Int64) := wb (gX_toOdd N K S p0) (fun z => some ((0 : Int32), z.2, z.1.toInt64)) (some ((1 : Int32), S, nv)) none
set_option maxHeartbeats 4000000 in
set_option maxRecDepth 100000 in
theorem ogL_toOdd {N K : Nat} {r : Nat → Nat} {o : Nat} {S : CS} {nv : Int64} {sv : Value} {p0 : Int32} {x : Int32 × CS × Int64} (hE : gL_toOdd N K S p0 nv = some x) : OkM yL_toOdd (.codeWith yL_toOdd cL_toOdd 4 (some .int) [(0, 10, 13, 19)]) (10) 1 6 [.ref (r 0), .int p0, .ref o] (WX r S ++ [OC o nv sv]) ((PN (U := Int32 × CS × Int64) (fun z _ => some (.int z.1)) (fun z g => WX r z.2.1 ++ [OC o z.2.2 sv])) x) := by
  refine ok_ofH (by decide) (Nat.le_of_ble_eq_true rfl) hE ?_
  refine aw_locals (lv' := [(0, .ref (r 0)), (1, .int p0), (2, .ref o)]) [0, 1, 2] rfl ?_
  refine aw_aload_n (q := 1) gdL_toOdd_0.1 rfl 2 rfl ?_
  refine aw_aload_n (q := 2) gdL_toOdd_0.2.1 rfl 0 rfl ?_
  refine aw_iload_n (q := 3) gdL_toOdd_0.2.2.1 rfl 1 rfl ?_
  refine aw_callC (q := 6) (hp1 := 13) (hp2 := 0) (kc1 := 0) (ks1 := 0) (wc := WX r S) (wr := [OC o nv sv]) (st1 := fun z g => [.int z.1, .ref o]) (ws1 := fun z g => [OC o nv sv] ++ WX r z.2) (As := [.ref (r 0), .int p0]) [0, 1, 2, 3, 4, 5, 6, 7, 8, 9, 10, 11, 12, 13, 14, 15, 16, 17, 18, 19, 20, 21, 22, 23, 24, 25, 26] [27] (fun _ => runV (q0 := 0) gdL_toOdd_0.2.2.2.1 mi_X5_toOdd im_X5_toOdd se_X5_toOdd ml_L_119 (by omega) rfl (Nat.le_of_ble_eq_true rfl) rfl rfl rfl rfl) (fun x9 h9 => ogX_toOdd h9) rfl rfl rfl rfl rfl (by decide +kernel) (by omega) (by omega) (fun _ _ => rfl) (fun _ _ => rfl) (Or.inr ⟨⟨[], _, [], "java/lang/IndexOutOfBoundsException", rfl, (fun z h => by cases h), by decide, by decide, cl_L_19, ca_IndexOutOfBoundsException, rfl⟩, fun q9 => ?_⟩) (Or.inl rfl) (fun z g => ?_)
  · refine aw_astore_n (q := 14) (lv' := [(3, .ref q9), (0, .ref (r 0)), (1, .int p0), (2, .ref o)]) gdL_toOdd_0.2.2.2.2.2.2.2 rfl (by decide) rfl ?_
    refine aw_iconst (q := 15) (v := 1) gdL_toOdd_14.1 rfl (by decide) ?_
    exact aw_ireturn [1, 2, 3, 4, 5, 6, 7, 8, 9, 10, 11, 12, 13, 14, 15, 16, 17, 18, 19, 20, 21, 22, 23, 24, 25, 26, 27, 0] gdL_toOdd_14.2.1 rfl rfl rfl rfl (PN.mk (fun _ => 0) rfl rfl)
  refine aw_i2l (q := 7) gdL_toOdd_0.2.2.2.2.1 rfl ?_
  refine aw_putN (q := 10) (ws' := [OC o z.1.toInt64 sv] ++ WX r z.2) gdL_toOdd_0.2.2.2.2.2.1 rfl fn_L_13 0 rfl rfl rfl (Nat.le_of_ble_eq_true rfl) rfl ?_
  refine aw_goto (tgt := 16) gdL_toOdd_0.2.2.2.2.2.2.1 (by decide) ?_
  refine aw_iconst (q := 17) (v := 0) gdL_toOdd_14.2.2.1 rfl (by decide) ?_
  exact aw_ireturn [1, 2, 3, 4, 5, 6, 7, 8, 9, 10, 11, 12, 13, 14, 15, 16, 17, 18, 19, 20, 21, 22, 23, 24, 25, 26, 27, 0] gdL_toOdd_14.2.2.2 rfl rfl rfl rfl (PN.mk g rfl rfl)
def gL_copyDesk (N K : Nat) (S : CS) (p0 : Int32) (nv : Int64) : Option (Int32 × CS × Int64) := wb (gX_copyDesk N K S p0) (fun z => some ((0 : Int32), z.2, z.1.toInt64)) (some ((1 : Int32), S, nv)) none
set_option maxHeartbeats 4000000 in
set_option maxRecDepth 100000 in
theorem ogL_copyDesk {N K : Nat} {r : Nat → Nat} {o : Nat} {S : CS} {nv : Int64} {sv : Value} {p0 : Int32} {x : Int32 × CS × Int64} (hE : gL_copyDesk N K S p0 nv = some x) : OkM yL_copyDesk (.codeWith yL_copyDesk cL_copyDesk 4 (some .int) [(0, 10, 13, 19)]) (10) 2 12 [.ref (r 0), .int p0, .ref o] (WX r S ++ [OC o nv sv]) ((PN (U := Int32 × CS × Int64) (fun z _ => some (.int z.1)) (fun z g => WX r z.2.1 ++ [OC o z.2.2 sv])) x) := by
  refine ok_ofH (by decide) (Nat.le_of_ble_eq_true rfl) hE ?_
  refine aw_locals (lv' := [(0, .ref (r 0)), (1, .int p0), (2, .ref o)]) [0, 1, 2] rfl ?_
  refine aw_aload_n (q := 1) gdL_copyDesk_0.1 rfl 2 rfl ?_
  refine aw_aload_n (q := 2) gdL_copyDesk_0.2.1 rfl 0 rfl ?_
  refine aw_iload_n (q := 3) gdL_copyDesk_0.2.2.1 rfl 1 rfl ?_
  refine aw_callC (q := 6) (hp1 := 13) (hp2 := 0) (kc1 := 0) (ks1 := 0) (wc := WX r S) (wr := [OC o nv sv]) (st1 := fun z g => [.int z.1, .ref o]) (ws1 := fun z g => [OC o nv sv] ++ WX r z.2) (As := [.ref (r 0), .int p0]) [0, 1, 2, 3, 4, 5, 6, 7, 8, 9, 10, 11, 12, 13, 14, 15, 16, 17, 18, 19, 20, 21, 22, 23, 24, 25, 26] [27] (fun _ => runV (q0 := 0) gdL_copyDesk_0.2.2.2.1 mi_X5_copyDesk im_X5_copyDesk se_X5_copyDesk ml_L_122 (by omega) rfl (Nat.le_of_ble_eq_true rfl) rfl rfl rfl rfl) (fun x9 h9 => ogX_copyDesk h9) rfl rfl rfl rfl rfl (by decide +kernel) (by omega) (by omega) (fun _ _ => rfl) (fun _ _ => rfl) (Or.inr ⟨⟨[], _, [], "java/lang/IndexOutOfBoundsException", rfl, (fun z h => by cases h), by decide, by decide, cl_L_19, ca_IndexOutOfBoundsException, rfl⟩, fun q9 => ?_⟩) (Or.inl rfl) (fun z g => ?_)
  · refine aw_astore_n (q := 14) (lv' := [(3, .ref q9), (0, .ref (r 0)), (1, .int p0), (2, .ref o)]) gdL_copyDesk_0.2.2.2.2.2.2.2 rfl (by decide) rfl ?_
    refine aw_iconst (q := 15) (v := 1) gdL_copyDesk_14.1 rfl (by decide) ?_
    exact aw_ireturn [1, 2, 3, 4, 5, 6, 7, 8, 9, 10, 11, 12, 13, 14, 15, 16, 17, 18, 19, 20, 21, 22, 23, 24, 25, 26, 27, 0] gdL_copyDesk_14.2.1 rfl rfl rfl rfl (PN.mk (fun _ => 0) rfl rfl)
  refine aw_i2l (q := 7) gdL_copyDesk_0.2.2.2.2.1 rfl ?_
  refine aw_putN (q := 10) (ws' := [OC o z.1.toInt64 sv] ++ WX r z.2) gdL_copyDesk_0.2.2.2.2.2.1 rfl fn_L_13 0 rfl rfl rfl (Nat.le_of_ble_eq_true rfl) rfl ?_
  refine aw_goto (tgt := 16) gdL_copyDesk_0.2.2.2.2.2.2.1 (by decide) ?_
  refine aw_iconst (q := 17) (v := 0) gdL_copyDesk_14.2.2.1 rfl (by decide) ?_
  exact aw_ireturn [1, 2, 3, 4, 5, 6, 7, 8, 9, 10, 11, 12, 13, 14, 15, 16, 17, 18, 19, 20, 21, 22, 23, 24, 25, 26, 27, 0] gdL_copyDesk_14.2.2.2 rfl rfl rfl rfl (PN.mk g rfl rfl)
def gL_times (N K : Nat) (S : CS) (p0 : Int32) (p1 : Int32) (nv : Int64) : Option (Int32 × CS × Int64) := wb (gX_times N K S p0 p1) (fun z => some ((0 : Int32), z.2, z.1.toInt64)) (some ((1 : Int32), S, nv)) (some ((2 : Int32), S, nv))
set_option maxHeartbeats 4000000 in
set_option maxRecDepth 100000 in
theorem ogL_times {N K : Nat} {r : Nat → Nat} {o : Nat} {S : CS} {nv : Int64} {sv : Value} {p0 : Int32} {p1 : Int32} {x : Int32 × CS × Int64} (hE : gL_times N K S p0 p1 nv = some x) : OkM yL_times (.codeWith yL_times cL_times 5 (some .int) [(0, 11, 14, 19), (0, 11, 18, 21)]) (10) 2 12 [.ref (r 0), .int p0, .int p1, .ref o] (WX r S ++ [OC o nv sv]) ((PN (U := Int32 × CS × Int64) (fun z _ => some (.int z.1)) (fun z g => WX r z.2.1 ++ [OC o z.2.2 sv])) x) := by
  refine ok_ofH (by decide) (Nat.le_of_ble_eq_true rfl) hE ?_
  refine aw_locals (lv' := [(0, .ref (r 0)), (1, .int p0), (2, .int p1), (3, .ref o)]) [0, 1, 2, 3] rfl ?_
  refine aw_aload_n (q := 1) gdL_times_0.1 rfl 3 rfl ?_
  refine aw_aload_n (q := 2) gdL_times_0.2.1 rfl 0 rfl ?_
  refine aw_iload_n (q := 3) gdL_times_0.2.2.1 rfl 1 rfl ?_
  refine aw_iload_n (q := 4) gdL_times_0.2.2.2.1 rfl 2 rfl ?_
  refine aw_callC (q := 7) (hp1 := 14) (hp2 := 18) (kc1 := 0) (ks1 := 0) (wc := WX r S) (wr := [OC o nv sv]) (st1 := fun z g => [.int z.1, .ref o]) (ws1 := fun z g => [OC o nv sv] ++ WX r z.2) (As := [.ref (r 0), .int p0, .int p1]) [0, 1, 2, 3, 4, 5, 6, 7, 8, 9, 10, 11, 12, 13, 14, 15, 16, 17, 18, 19, 20, 21, 22, 23, 24, 25, 26] [27] (fun _ => runV (q0 := 0) gdL_times_0.2.2.2.2.1 mi_X5_times im_X5_times se_X5_times ml_L_125 (by omega) rfl (Nat.le_of_ble_eq_true rfl) rfl rfl rfl rfl) (fun x9 h9 => ogX_times h9) rfl rfl rfl rfl rfl (by decide +kernel) (by omega) (by omega) (fun _ _ => rfl) (fun _ _ => rfl) (Or.inr ⟨⟨[], _, [_], "java/lang/IndexOutOfBoundsException", rfl, (fun z h => by cases h), by decide, by decide, cl_L_19, ca_IndexOutOfBoundsException, rfl⟩, fun q9 => ?_⟩) (Or.inr ⟨⟨[_], _, [], "java/lang/IllegalArgumentException", rfl, (fun z h => by rcases List.mem_cons.mp h with rfl | h <;> first | exact ⟨by decide, rfl, cl_L_19⟩ | cases h), by decide, by decide, cl_L_21, ca_IllegalArgumentException, rfl⟩, fun q9 => ?_⟩) (fun z g => ?_)
  · refine aw_astore (q := 16) (lv' := [(4, .ref q9), (0, .ref (r 0)), (1, .int p0), (2, .int p1), (3, .ref o)]) gdL_times_14.1 rfl (by decide) rfl ?_
    refine aw_iconst (q := 17) (v := 1) gdL_times_14.2.1 rfl (by decide) ?_
    exact aw_ireturn [1, 2, 3, 4, 5, 6, 7, 8, 9, 10, 11, 12, 13, 14, 15, 16, 17, 18, 19, 20, 21, 22, 23, 24, 25, 26, 27, 0] gdL_times_14.2.2.1 rfl rfl rfl rfl (PN.mk (fun _ => 0) rfl rfl)
  · refine aw_astore (q := 20) (lv' := [(4, .ref q9), (0, .ref (r 0)), (1, .int p0), (2, .int p1), (3, .ref o)]) gdL_times_14.2.2.2.1 rfl (by decide) rfl ?_
    refine aw_iconst (q := 21) (v := 2) gdL_times_14.2.2.2.2.1 rfl (by decide) ?_
    exact aw_ireturn [1, 2, 3, 4, 5, 6, 7, 8, 9, 10, 11, 12, 13, 14, 15, 16, 17, 18, 19, 20, 21, 22, 23, 24, 25, 26, 27, 0] gdL_times_14.2.2.2.2.2.1 rfl rfl rfl rfl (PN.mk (fun _ => 0) rfl rfl)
  refine aw_i2l (q := 8) gdL_times_0.2.2.2.2.2.1 rfl ?_
  refine aw_putN (q := 11) (ws' := [OC o z.1.toInt64 sv] ++ WX r z.2) gdL_times_0.2.2.2.2.2.2.1 rfl fn_L_13 0 rfl rfl rfl (Nat.le_of_ble_eq_true rfl) rfl ?_
  refine aw_goto (tgt := 22) gdL_times_0.2.2.2.2.2.2.2 (by decide) ?_
  refine aw_iconst (q := 23) (v := 0) gdL_times_14.2.2.2.2.2.2.1 rfl (by decide) ?_
  exact aw_ireturn [1, 2, 3, 4, 5, 6, 7, 8, 9, 10, 11, 12, 13, 14, 15, 16, 17, 18, 19, 20, 21, 22, 23, 24, 25, 26, 27, 0] gdL_times_14.2.2.2.2.2.2.2 rfl rfl rfl rfl (PN.mk g rfl rfl)
def gL_way (N K : Nat) (S : CS) (p0 : Int32) (p1 : Int32) (nv : Int64) : Option (Int32 × CS × Int64) := wb (gX_way N K S p0 p1) (fun z => some ((0 : Int32), z.2, z.1.toInt64)) (some ((1 : Int32), S, nv)) (some ((2 : Int32), S, nv))
set_option maxHeartbeats 4000000 in
set_option maxRecDepth 100000 in
theorem ogL_way {N K : Nat} {r : Nat → Nat} {o : Nat} {S : CS} {nv : Int64} {sv : Value} {p0 : Int32} {p1 : Int32} {x : Int32 × CS × Int64} (hE : gL_way N K S p0 p1 nv = some x) : OkM yL_way (.codeWith yL_way cL_way 5 (some .int) [(0, 11, 14, 19), (0, 11, 18, 21)]) (10) 2 12 [.ref (r 0), .int p0, .int p1, .ref o] (WX r S ++ [OC o nv sv]) ((PN (U := Int32 × CS × Int64) (fun z _ => some (.int z.1)) (fun z g => WX r z.2.1 ++ [OC o z.2.2 sv])) x) := by
  refine ok_ofH (by decide) (Nat.le_of_ble_eq_true rfl) hE ?_
  refine aw_locals (lv' := [(0, .ref (r 0)), (1, .int p0), (2, .int p1), (3, .ref o)]) [0, 1, 2, 3] rfl ?_
  refine aw_aload_n (q := 1) gdL_way_0.1 rfl 3 rfl ?_
  refine aw_aload_n (q := 2) gdL_way_0.2.1 rfl 0 rfl ?_
  refine aw_iload_n (q := 3) gdL_way_0.2.2.1 rfl 1 rfl ?_
  refine aw_iload_n (q := 4) gdL_way_0.2.2.2.1 rfl 2 rfl ?_
  refine aw_callC (q := 7) (hp1 := 14) (hp2 := 18) (kc1 := 0) (ks1 := 0) (wc := WX r S) (wr := [OC o nv sv]) (st1 := fun z g => [.int z.1, .ref o]) (ws1 := fun z g => [OC o nv sv] ++ WX r z.2) (As := [.ref (r 0), .int p0, .int p1]) [0, 1, 2, 3, 4, 5, 6, 7, 8, 9, 10, 11, 12, 13, 14, 15, 16, 17, 18, 19, 20, 21, 22, 23, 24, 25, 26] [27] (fun _ => runV (q0 := 0) gdL_way_0.2.2.2.2.1 mi_X5_way im_X5_way se_X5_way ml_L_128 (by omega) rfl (Nat.le_of_ble_eq_true rfl) rfl rfl rfl rfl) (fun x9 h9 => ogX_way h9) rfl rfl rfl rfl rfl (by decide +kernel) (by omega) (by omega) (fun _ _ => rfl) (fun _ _ => rfl) (Or.inr ⟨⟨[], _, [_], "java/lang/IndexOutOfBoundsException", rfl, (fun z h => by cases h), by decide, by decide, cl_L_19, ca_IndexOutOfBoundsException, rfl⟩, fun q9 => ?_⟩) (Or.inr ⟨⟨[_], _, [], "java/lang/IllegalArgumentException", rfl, (fun z h => by rcases List.mem_cons.mp h with rfl | h <;> first | exact ⟨by decide, rfl, cl_L_19⟩ | cases h), by decide, by decide, cl_L_21, ca_IllegalArgumentException, rfl⟩, fun q9 => ?_⟩) (fun z g => ?_)
  · refine aw_astore (q := 16) (lv' := [(4, .ref q9), (0, .ref (r 0)), (1, .int p0), (2, .int p1), (3, .ref o)]) gdL_way_14.1 rfl (by decide) rfl ?_
    refine aw_iconst (q := 17) (v := 1) gdL_way_14.2.1 rfl (by decide) ?_
    exact aw_ireturn [1, 2, 3, 4, 5, 6, 7, 8, 9, 10, 11, 12, 13, 14, 15, 16, 17, 18, 19, 20, 21, 22, 23, 24, 25, 26, 27, 0] gdL_way_14.2.2.1 rfl rfl rfl rfl (PN.mk (fun _ => 0) rfl rfl)
  · refine aw_astore (q := 20) (lv' := [(4, .ref q9), (0, .ref (r 0)), (1, .int p0), (2, .int p1), (3, .ref o)]) gdL_way_14.2.2.2.1 rfl (by decide) rfl ?_
    refine aw_iconst (q := 21) (v := 2) gdL_way_14.2.2.2.2.1 rfl (by decide) ?_
    exact aw_ireturn [1, 2, 3, 4, 5, 6, 7, 8, 9, 10, 11, 12, 13, 14, 15, 16, 17, 18, 19, 20, 21, 22, 23, 24, 25, 26, 27, 0] gdL_way_14.2.2.2.2.2.1 rfl rfl rfl rfl (PN.mk (fun _ => 0) rfl rfl)
  refine aw_i2l (q := 8) gdL_way_0.2.2.2.2.2.1 rfl ?_
  refine aw_putN (q := 11) (ws' := [OC o z.1.toInt64 sv] ++ WX r z.2) gdL_way_0.2.2.2.2.2.2.1 rfl fn_L_13 0 rfl rfl rfl (Nat.le_of_ble_eq_true rfl) rfl ?_
  refine aw_goto (tgt := 22) gdL_way_0.2.2.2.2.2.2.2 (by decide) ?_
  refine aw_iconst (q := 23) (v := 0) gdL_way_14.2.2.2.2.2.2.1 rfl (by decide) ?_
  exact aw_ireturn [1, 2, 3, 4, 5, 6, 7, 8, 9, 10, 11, 12, 13, 14, 15, 16, 17, 18, 19, 20, 21, 22, 23, 24, 25, 26, 27, 0] gdL_way_14.2.2.2.2.2.2.2 rfl rfl rfl rfl (PN.mk g rfl rfl)
def gL_wayText (N K : Nat) (S : CS) (p0 : Int32) (nv : Int64) : Option (Int32 × CS × Int64) := wb (gX_wayText N K S p0) (fun z => some ((0 : Int32), z, nv)) (some ((1 : Int32), S, nv)) none
set_option maxHeartbeats 4000000 in
set_option maxRecDepth 100000 in
theorem ogL_wayText {N K : Nat} {r : Nat → Nat} {o : Nat} {S : CS} {nv : Int64} {sv : Value} {p0 : Int32} {x : Int32 × CS × Int64} (hE : gL_wayText N K S p0 nv = some x) : OkM yL_wayText (.codeWith yL_wayText cL_wayText 4 (some .int) [(0, 9, 12, 19)]) (10) 111 8006 [.ref (r 0), .int p0, .ref o] (WX r S ++ [OC o nv sv]) ((PN (U := Int32 × CS × Int64) (fun z _ => some (.int z.1)) (fun z g => WX r z.2.1 ++ [OC o z.2.2 (if z.1 = 0 then .ref (g 0) else sv)])) x) := by
  refine ok_ofH (by decide) (Nat.le_of_ble_eq_true rfl) hE ?_
  refine aw_locals (lv' := [(0, .ref (r 0)), (1, .int p0), (2, .ref o)]) [0, 1, 2] rfl ?_
  refine aw_aload_n (q := 1) gdL_wayText_0.1 rfl 2 rfl ?_
  refine aw_aload_n (q := 2) gdL_wayText_0.2.1 rfl 0 rfl ?_
  refine aw_iload_n (q := 3) gdL_wayText_0.2.2.1 rfl 1 rfl ?_
  refine aw_callC (q := 6) (hp1 := 12) (hp2 := 0) (kc1 := 0) (ks1 := 0) (wc := WX r S) (wr := [OC o nv sv]) (st1 := fun z g => [.ref (g 0), .ref o]) (ws1 := fun z g => [OC o nv sv] ++ WX r z) (As := [.ref (r 0), .int p0]) [0, 1, 2, 3, 4, 5, 6, 7, 8, 9, 10, 11, 12, 13, 14, 15, 16, 17, 18, 19, 20, 21, 22, 23, 24, 25, 26] [27] (fun _ => runV (q0 := 0) gdL_wayText_0.2.2.2.1 mi_X5_wayText im_X5_wayText se_X5_wayText ml_L_131 (by omega) rfl (Nat.le_of_ble_eq_true rfl) rfl rfl rfl rfl) (fun x9 h9 => ogX_wayText h9) rfl rfl rfl rfl rfl (by decide +kernel) (by omega) (by omega) (fun _ _ => rfl) (fun _ _ => rfl) (Or.inr ⟨⟨[], _, [], "java/lang/IndexOutOfBoundsException", rfl, (fun z h => by cases h), by decide, by decide, cl_L_19, ca_IndexOutOfBoundsException, rfl⟩, fun q9 => ?_⟩) (Or.inl rfl) (fun z g => ?_)
  · refine aw_astore_n (q := 13) (lv' := [(3, .ref q9), (0, .ref (r 0)), (1, .int p0), (2, .ref o)]) gdL_wayText_0.2.2.2.2.2.2.1 rfl (by decide) rfl ?_
    refine aw_iconst (q := 14) (v := 1) gdL_wayText_0.2.2.2.2.2.2.2 rfl (by decide) ?_
    exact aw_ireturn [1, 2, 3, 4, 5, 6, 7, 8, 9, 10, 11, 12, 13, 14, 15, 16, 17, 18, 19, 20, 21, 22, 23, 24, 25, 26, 27, 0] gdL_wayText_14.1 rfl rfl rfl rfl (PN.mk (fun _ => 0) rfl rfl)
  refine aw_putN (q := 9) (ws' := [OC o nv (.ref (g 0))] ++ WX r z) gdL_wayText_0.2.2.2.2.1 rfl fn_L_135 0 rfl rfl rfl (Nat.le_of_ble_eq_true rfl) rfl ?_
  refine aw_goto (tgt := 15) gdL_wayText_0.2.2.2.2.2.1 (by decide) ?_
  refine aw_iconst (q := 16) (v := 0) gdL_wayText_14.2.1 rfl (by decide) ?_
  exact aw_ireturn [1, 2, 3, 4, 5, 6, 7, 8, 9, 10, 11, 12, 13, 14, 15, 16, 17, 18, 19, 20, 21, 22, 23, 24, 25, 26, 27, 0] gdL_wayText_14.2.2 rfl rfl rfl rfl (PN.mk g rfl rfl)
def gL_isOf (N K : Nat) (S : CS) (p0 : Int32) (p1 : Int32) (p2 : Int32) (nv : Int64) : Option (Int32 × CS × Int64) := wb (gX_isOf N K S p0 p1 p2) (fun z => (if z.1 = 0 then some ((0 : Int32), z.2, (0 : Int64)) else some ((0 : Int32), z.2, (1 : Int64)))) (some ((1 : Int32), S, nv)) (some ((2 : Int32), S, nv))
set_option maxHeartbeats 4000000 in
set_option maxRecDepth 100000 in
theorem ogL_isOf {N K : Nat} {r : Nat → Nat} {o : Nat} {S : CS} {nv : Int64} {sv : Value} {p0 : Int32} {p1 : Int32} {p2 : Int32} {x : Int32 × CS × Int64} (hE : gL_isOf N K S p0 p1 p2 nv = some x) : OkM yL_isOf (.codeWith yL_isOf cL_isOf 6 (some .int) [(0, 20, 23, 19), (0, 20, 27, 21)]) (10) 3 18 [.ref (r 0), .int p0, .int p1, .int p2, .ref o] (WX r S ++ [OC o nv sv]) ((PN (U := Int32 × CS × Int64) (fun z _ => some (.int z.1)) (fun z g => WX r z.2.1 ++ [OC o z.2.2 sv])) x) := by
  refine ok_ofH (by decide) (Nat.le_of_ble_eq_true rfl) hE ?_
  refine aw_locals (lv' := [(0, .ref (r 0)), (1, .int p0), (2, .int p1), (3, .int p2), (4, .ref o)]) [0, 1, 2, 3, 4] rfl ?_
  refine aw_aload (q := 2) gdL_isOf_0.1 rfl 4 rfl ?_
  refine aw_aload_n (q := 3) gdL_isOf_0.2.1 rfl 0 rfl ?_
  refine aw_iload_n (q := 4) gdL_isOf_0.2.2.1 rfl 1 rfl ?_
  refine aw_iload_n (q := 5) gdL_isOf_0.2.2.2.1 rfl 2 rfl ?_
  refine aw_iload_n (q := 6) gdL_isOf_0.2.2.2.2.1 rfl 3 rfl ?_
  refine aw_callC (q := 9) (hp1 := 23) (hp2 := 27) (kc1 := 0) (ks1 := 0) (wc := WX r S) (wr := [OC o nv sv]) (st1 := fun z g => [.int z.1, .ref o]) (ws1 := fun z g => [OC o nv sv] ++ WX r z.2) (As := [.ref (r 0), .int p0, .int p1, .int p2]) [0, 1, 2, 3, 4, 5, 6, 7, 8, 9, 10, 11, 12, 13, 14, 15, 16, 17, 18, 19, 20, 21, 22, 23, 24, 25, 26] [27] (fun _ => runV (q0 := 0) gdL_isOf_0.2.2.2.2.2.1 mi_X5_isOf im_X5_isOf se_X5_isOf ml_L_139 (by omega) rfl (Nat.le_of_ble_eq_true rfl) rfl rfl rfl rfl) (fun x9 h9 => ogX_isOf h9) rfl rfl rfl rfl rfl (by decide +kernel) (by omega) (by omega) (fun _ _ => rfl) (fun _ _ => rfl) (Or.inr ⟨⟨[], _, [_], "java/lang/IndexOutOfBoundsException", rfl, (fun z h => by cases h), by decide, by decide, cl_L_19, ca_IndexOutOfBoundsException, rfl⟩, fun q9 => ?_⟩) (Or.inr ⟨⟨[_], _, [], "java/lang/IllegalArgumentException", rfl, (fun z h => by rcases List.mem_cons.mp h with rfl | h <;> first | exact ⟨by decide, rfl, cl_L_19⟩ | cases h), by decide, by decide, cl_L_21, ca_IllegalArgumentException, rfl⟩, fun q9 => ?_⟩) (fun z g => ?_)
  · refine aw_astore (q := 25) (lv' := [(5, .ref q9), (0, .ref (r 0)), (1, .int p0), (2, .int p1), (3, .int p2), (4, .ref o)]) gdL_isOf_13.2.2.2.2.1 rfl (by decide) rfl ?_
    refine aw_iconst (q := 26) (v := 1) gdL_isOf_13.2.2.2.2.2.1 rfl (by decide) ?_
    exact aw_ireturn [1, 2, 3, 4, 5, 6, 7, 8, 9, 10, 11, 12, 13, 14, 15, 16, 17, 18, 19, 20, 21, 22, 23, 24, 25, 26, 27, 0] gdL_isOf_13.2.2.2.2.2.2.1 rfl rfl rfl rfl (PN.mk (fun _ => 0) rfl rfl)
  · refine aw_astore (q := 29) (lv' := [(5, .ref q9), (0, .ref (r 0)), (1, .int p0), (2, .int p1), (3, .int p2), (4, .ref o)]) gdL_isOf_13.2.2.2.2.2.2.2 rfl (by decide) rfl ?_
    refine aw_iconst (q := 30) (v := 2) gdL_isOf_29.1 rfl (by decide) ?_
    exact aw_ireturn [1, 2, 3, 4, 5, 6, 7, 8, 9, 10, 11, 12, 13, 14, 15, 16, 17, 18, 19, 20, 21, 22, 23, 24, 25, 26, 27, 0] gdL_isOf_29.2.1 rfl rfl rfl rfl (PN.mk (fun _ => 0) rfl rfl)
  refine aw_if_eq (tgt := 16) (q := 12) gdL_isOf_0.2.2.2.2.2.2.1 (by decide) rfl (fun h0 => ?_) (fun h0 => ?_)
  · refine aw_lconst (q := 17) (v := 0) gdL_isOf_13.2.1 rfl (by decide) ?_
    refine aw_putN (q := 20) (ws' := [OC o 0 sv] ++ WX r z.2) gdL_isOf_13.2.2.1 rfl fn_L_13 0 rfl rfl rfl (Nat.le_of_ble_eq_true rfl) rfl ?_
    refine aw_goto (tgt := 31) gdL_isOf_13.2.2.2.1 (by decide) ?_
    refine aw_iconst (q := 32) (v := 0) gdL_isOf_29.2.2.1 rfl (by decide) ?_
    exact aw_ireturn [1, 2, 3, 4, 5, 6, 7, 8, 9, 10, 11, 12, 13, 14, 15, 16, 17, 18, 19, 20, 21, 22, 23, 24, 25, 26, 27, 0] gdL_isOf_29.2.2.2 rfl rfl rfl rfl (PN.mk g rfl rfl)
  · refine aw_lconst (q := 13) (v := 1) gdL_isOf_0.2.2.2.2.2.2.2 rfl (by decide) ?_
    refine aw_goto (tgt := 17) gdL_isOf_13.1 (by decide) ?_
    refine aw_putN (q := 20) (ws' := [OC o 1 sv] ++ WX r z.2) gdL_isOf_13.2.2.1 rfl fn_L_13 0 rfl rfl rfl (Nat.le_of_ble_eq_true rfl) rfl ?_
    refine aw_goto (tgt := 31) gdL_isOf_13.2.2.2.1 (by decide) ?_
    refine aw_iconst (q := 32) (v := 0) gdL_isOf_29.2.2.1 rfl (by decide) ?_
    exact aw_ireturn [1, 2, 3, 4, 5, 6, 7, 8, 9, 10, 11, 12, 13, 14, 15, 16, 17, 18, 19, 20, 21, 22, 23, 24, 25, 26, 27, 0] gdL_isOf_29.2.2.2 rfl rfl rfl rfl (PN.mk g rfl rfl)
def gL_tally (N K : Nat) (S : CS) (p0 : Int32) (nv : Int64) : Option (Int32 × CS × Int64) := wb (gX_tally N K S p0) (fun z => some ((0 : Int32), z.2, z.1.toInt64)) none (some ((1 : Int32), S, nv))
set_option maxHeartbeats 4000000 in
set_option maxRecDepth 100000 in
theorem ogL_tally {N K : Nat} {r : Nat → Nat} {o : Nat} {S : CS} {nv : Int64} {sv : Value} {p0 : Int32} {x : Int32 × CS × Int64} (hE : gL_tally N K S p0 nv = some x) : OkM yL_tally (.codeWith yL_tally cL_tally 4 (some .int) [(0, 10, 13, 21)]) (10) 1 6 [.ref (r 0), .int p0, .ref o] (WX r S ++ [OC o nv sv]) ((PN (U := Int32 × CS × Int64) (fun z _ => some (.int z.1)) (fun z g => WX r z.2.1 ++ [OC o z.2.2 sv])) x) := by
  refine ok_ofH (by decide) (Nat.le_of_ble_eq_true rfl) hE ?_
  refine aw_locals (lv' := [(0, .ref (r 0)), (1, .int p0), (2, .ref o)]) [0, 1, 2] rfl ?_
  refine aw_aload_n (q := 1) gdL_tally_0.1 rfl 2 rfl ?_
  refine aw_aload_n (q := 2) gdL_tally_0.2.1 rfl 0 rfl ?_
  refine aw_iload_n (q := 3) gdL_tally_0.2.2.1 rfl 1 rfl ?_
  refine aw_callC (q := 6) (hp1 := 0) (hp2 := 13) (kc1 := 0) (ks1 := 0) (wc := WX r S) (wr := [OC o nv sv]) (st1 := fun z g => [.int z.1, .ref o]) (ws1 := fun z g => [OC o nv sv] ++ WX r z.2) (As := [.ref (r 0), .int p0]) [0, 1, 2, 3, 4, 5, 6, 7, 8, 9, 10, 11, 12, 13, 14, 15, 16, 17, 18, 19, 20, 21, 22, 23, 24, 25, 26] [27] (fun _ => runV (q0 := 0) gdL_tally_0.2.2.2.1 mi_X5_tally im_X5_tally se_X5_tally ml_L_143 (by omega) rfl (Nat.le_of_ble_eq_true rfl) rfl rfl rfl rfl) (fun x9 h9 => ogX_tally h9) rfl rfl rfl rfl rfl (by decide +kernel) (by omega) (by omega) (fun _ _ => rfl) (fun _ _ => rfl) (Or.inl rfl) (Or.inr ⟨⟨[], _, [], "java/lang/IllegalArgumentException", rfl, (fun z h => by cases h), by decide, by decide, cl_L_21, ca_IllegalArgumentException, rfl⟩, fun q9 => ?_⟩) (fun z g => ?_)
  · refine aw_astore_n (q := 14) (lv' := [(3, .ref q9), (0, .ref (r 0)), (1, .int p0), (2, .ref o)]) gdL_tally_0.2.2.2.2.2.2.2 rfl (by decide) rfl ?_
    refine aw_iconst (q := 15) (v := 1) gdL_tally_14.1 rfl (by decide) ?_
    exact aw_ireturn [1, 2, 3, 4, 5, 6, 7, 8, 9, 10, 11, 12, 13, 14, 15, 16, 17, 18, 19, 20, 21, 22, 23, 24, 25, 26, 27, 0] gdL_tally_14.2.1 rfl rfl rfl rfl (PN.mk (fun _ => 0) rfl rfl)
  refine aw_i2l (q := 7) gdL_tally_0.2.2.2.2.1 rfl ?_
  refine aw_putN (q := 10) (ws' := [OC o z.1.toInt64 sv] ++ WX r z.2) gdL_tally_0.2.2.2.2.2.1 rfl fn_L_13 0 rfl rfl rfl (Nat.le_of_ble_eq_true rfl) rfl ?_
  refine aw_goto (tgt := 16) gdL_tally_0.2.2.2.2.2.2.1 (by decide) ?_
  refine aw_iconst (q := 17) (v := 0) gdL_tally_14.2.2.1 rfl (by decide) ?_
  exact aw_ireturn [1, 2, 3, 4, 5, 6, 7, 8, 9, 10, 11, 12, 13, 14, 15, 16, 17, 18, 19, 20, 21, 22, 23, 24, 25, 26, 27, 0] gdL_tally_14.2.2.2 rfl rfl rfl rfl (PN.mk g rfl rfl)
def gL_isSound (N K : Nat) (S : CS) (p0 : Int32) (nv : Int64) : Option (Int32 × CS × Int64) := wb (gX_isSound N K S p0) (fun z => (if z.1 = 0 then some ((0 : Int32), z.2, (0 : Int64)) else some ((0 : Int32), z.2, (1 : Int64)))) (some ((1 : Int32), S, nv)) none
set_option maxHeartbeats 4000000 in
set_option maxRecDepth 100000 in
theorem ogL_isSound {N K : Nat} {r : Nat → Nat} {o : Nat} {S : CS} {nv : Int64} {sv : Value} {p0 : Int32} {x : Int32 × CS × Int64} (hE : gL_isSound N K S p0 nv = some x) : OkM yL_isSound (.codeWith yL_isSound cL_isSound 4 (some .int) [(0, 17, 20, 19)]) (10) 1 6 [.ref (r 0), .int p0, .ref o] (WX r S ++ [OC o nv sv]) ((PN (U := Int32 × CS × Int64) (fun z _ => some (.int z.1)) (fun z g => WX r z.2.1 ++ [OC o z.2.2 sv])) x) := by
  refine ok_ofH (by decide) (Nat.le_of_ble_eq_true rfl) hE ?_
  refine aw_locals (lv' := [(0, .ref (r 0)), (1, .int p0), (2, .ref o)]) [0, 1, 2] rfl ?_
  refine aw_aload_n (q := 1) gdL_isSound_0.1 rfl 2 rfl ?_
  refine aw_aload_n (q := 2) gdL_isSound_0.2.1 rfl 0 rfl ?_
  refine aw_iload_n (q := 3) gdL_isSound_0.2.2.1 rfl 1 rfl ?_
  refine aw_callC (q := 6) (hp1 := 20) (hp2 := 0) (kc1 := 0) (ks1 := 0) (wc := WX r S) (wr := [OC o nv sv]) (st1 := fun z g => [.int z.1, .ref o]) (ws1 := fun z g => [OC o nv sv] ++ WX r z.2) (As := [.ref (r 0), .int p0]) [0, 1, 2, 3, 4, 5, 6, 7, 8, 9, 10, 11, 12, 13, 14, 15, 16, 17, 18, 19, 20, 21, 22, 23, 24, 25, 26] [27] (fun _ => runV (q0 := 0) gdL_isSound_0.2.2.2.1 mi_X5_isSound im_X5_isSound se_X5_isSound ml_L_146 (by omega) rfl (Nat.le_of_ble_eq_true rfl) rfl rfl rfl rfl) (fun x9 h9 => ogX_isSound h9) rfl rfl rfl rfl rfl (by decide +kernel) (by omega) (by omega) (fun _ _ => rfl) (fun _ _ => rfl) (Or.inr ⟨⟨[], _, [], "java/lang/IndexOutOfBoundsException", rfl, (fun z h => by cases h), by decide, by decide, cl_L_19, ca_IndexOutOfBoundsException, rfl⟩, fun q9 => ?_⟩) (Or.inl rfl) (fun z g => ?_)
  · refine aw_astore_n (q := 21) (lv' := [(3, .ref q9), (0, .ref (r 0)), (1, .int p0), (2, .ref o)]) gdL_isSound_14.2.2.1 rfl (by decide) rfl ?_
    refine aw_iconst (q := 22) (v := 1) gdL_isSound_14.2.2.2.1 rfl (by decide) ?_
    exact aw_ireturn [1, 2, 3, 4, 5, 6, 7, 8, 9, 10, 11, 12, 13, 14, 15, 16, 17, 18, 19, 20, 21, 22, 23, 24, 25, 26, 27, 0] gdL_isSound_14.2.2.2.2.1 rfl rfl rfl rfl (PN.mk (fun _ => 0) rfl rfl)
  refine aw_if_eq (tgt := 13) (q := 9) gdL_isSound_0.2.2.2.2.1 (by decide) rfl (fun h0 => ?_) (fun h0 => ?_)
  · refine aw_lconst (q := 14) (v := 0) gdL_isSound_0.2.2.2.2.2.2.2 rfl (by decide) ?_
    refine aw_putN (q := 17) (ws' := [OC o 0 sv] ++ WX r z.2) gdL_isSound_14.1 rfl fn_L_13 0 rfl rfl rfl (Nat.le_of_ble_eq_true rfl) rfl ?_
    refine aw_goto (tgt := 23) gdL_isSound_14.2.1 (by decide) ?_
    refine aw_iconst (q := 24) (v := 0) gdL_isSound_14.2.2.2.2.2.1 rfl (by decide) ?_
    exact aw_ireturn [1, 2, 3, 4, 5, 6, 7, 8, 9, 10, 11, 12, 13, 14, 15, 16, 17, 18, 19, 20, 21, 22, 23, 24, 25, 26, 27, 0] gdL_isSound_14.2.2.2.2.2.2 rfl rfl rfl rfl (PN.mk g rfl rfl)
  · refine aw_lconst (q := 10) (v := 1) gdL_isSound_0.2.2.2.2.2.1 rfl (by decide) ?_
    refine aw_goto (tgt := 14) gdL_isSound_0.2.2.2.2.2.2.1 (by decide) ?_
    refine aw_putN (q := 17) (ws' := [OC o 1 sv] ++ WX r z.2) gdL_isSound_14.1 rfl fn_L_13 0 rfl rfl rfl (Nat.le_of_ble_eq_true rfl) rfl ?_
    refine aw_goto (tgt := 23) gdL_isSound_14.2.1 (by decide) ?_
    refine aw_iconst (q := 24) (v := 0) gdL_isSound_14.2.2.2.2.2.1 rfl (by decide) ?_
    exact aw_ireturn [1, 2, 3, 4, 5, 6, 7, 8, 9, 10, 11, 12, 13, 14, 15, 16, 17, 18, 19, 20, 21, 22, 23, 24, 25, 26, 27, 0] gdL_isSound_14.2.2.2.2.2.2 rfl rfl rfl rfl (PN.mk g rfl rfl)

end MG_43wrap
