def gM_thrown (N K : Nat) (M : MS) : Option (Int32 × MS) := (fX7_thrown N K M.2.2.2.2.2).map (fun z => (z, (M.1, M.2.1, M.2.2.1, M.2.2.2.1, M.2.2.2.2.1, M.2.2.2.2.2)))
set_option maxHeartbeats 4000000 in
set_option maxRecDepth 100000 in
theorem ogM_thrown {N K : Nat} {rq : Nat → Nat} {M : MS} {x : Int32 × MS} (hE : gM_thrown N K M = some x) : OkM yX7_thrown (.code yX7_thrown cX7_thrown 1 (some .int)) (0) 0 0 [.ref (rq 0)] (WM rq M) ((PN (U := Int32 × MS) (fun z _ => some (.int z.1)) (fun z _ => WM rq z.2)) x) := by
  unfold gM_thrown at hE
  obtain ⟨x0, h0, h1⟩ := Option.map_eq_some_iff.mp hE
  subst h1
  clear hE
  refine ok_fr (wc := [(rq 0, .inr (9, [.ref (rq 1), .ref (rq 5), .ref (rq 9), .ref (rq 12), .ref (rq 13), .int M.2.2.2.2.2]))]) (wr := [(rq 1, .inl (4, 3, .inr (.inr (.inr (.inr (rf3 rq 2 1 3)))))), (rq 2, .inl (0, 6144, .inl (M.1 0))), (rq 3, .inl (0, 6144, .inl (M.1 1))), (rq 4, .inl (0, 6144, .inl (M.1 2))), (rq 5, .inl (4, 3, .inr (.inr (.inr (.inr (rf3 rq 6 1 3)))))), (rq 6, .inl (0, 21, .inl (M.2.1 0))), (rq 7, .inl (0, 21, .inl (M.2.1 1))), (rq 8, .inl (0, 21, .inl (M.2.1 2))), (rq 9, .inl (4, 2, .inr (.inr (.inr (.inr (rf3 rq 10 1 2)))))), (rq 10, .inl (0, 21, .inl (M.2.2.1 0))), (rq 11, .inl (0, 21, .inl (M.2.2.1 1))), (rq 12, .inl (0, 6, .inl M.2.2.2.1)), (rq 13, .inl (0, 441, .inl M.2.2.2.2.1))]) [0] [1, 2, 3, 4, 5, 6, 7, 8, 9, 10, 11, 12, 13] (ok_X7_thrown (m := rq 0) (Mo := rq 1) (Lo := rq 5) (Do := rq 9) (tl := rq 12) (ca := rq 13) h0) rfl rfl rfl rfl (by decide) ?_
  rintro o w hp
  obtain ⟨g, e1, e2⟩ := hp
  subst e1; subst e2
  exact ⟨_, [13, 0, 1, 2, 3, 4, 5, 6, 7, 8, 9, 10, 11, 12], PN.mk g rfl rfl, rfl, rfl⟩
def gM_know (N K : Nat) (M : MS) (p0 : Int32) (p1 : Int32) (p2 : Int32) (p3 : Int32) : Option (Int32 × MS) := (fX7_know N K M.2.2.2.2.2 (M.1 (ix 3 p0)) M.2.2.2.1 M.2.2.2.2.1 p0 p1 p2 p3).map (fun z => (z.1, ((upm M.1 (ix 3 p0) z.2.2.1), M.2.1, M.2.2.1, z.2.2.2.1, z.2.2.2.2, z.2.1)))
set_option maxHeartbeats 4000000 in
set_option maxRecDepth 100000 in
theorem ogM_know {N K : Nat} {rq : Nat → Nat} {M : MS} {p0 : Int32} {p1 : Int32} {p2 : Int32} {p3 : Int32} {x : Int32 × MS} (hE : gM_know N K M p0 p1 p2 p3 = some x) : OkM yX7_know (.code yX7_know cX7_know 5 (some .int)) (4) 0 0 [.ref (rq 0), .int p0, .int p1, .int p2, .int p3] (WM rq M) ((PN (U := Int32 × MS) (fun z _ => some (.int z.1)) (fun z _ => WM rq z.2)) x) := by
  unfold gM_know at hE
  obtain ⟨x0, h0, h1⟩ := Option.map_eq_some_iff.mp hE
  subst h1
  clear hE
  rcases lt3 (ix_lt (n := 3) (p := p0) (by decide)) with e | e | e
  · rw [e] at h0
    try rw [e]
    refine ok_fr (wc := [(rq 0, .inr (9, [.ref (rq 1), .ref (rq 5), .ref (rq 9), .ref (rq 12), .ref (rq 13), .int M.2.2.2.2.2])), (rq 1, .inl (4, 3, .inr (.inr (.inr (.inr (rf3 rq 2 1 3)))))), (rq 2, .inl (0, 6144, .inl (M.1 0))), (rq 12, .inl (0, 6, .inl M.2.2.2.1)), (rq 13, .inl (0, 441, .inl M.2.2.2.2.1))]) (wr := [(rq 3, .inl (0, 6144, .inl (M.1 1))), (rq 4, .inl (0, 6144, .inl (M.1 2))), (rq 5, .inl (4, 3, .inr (.inr (.inr (.inr (rf3 rq 6 1 3)))))), (rq 6, .inl (0, 21, .inl (M.2.1 0))), (rq 7, .inl (0, 21, .inl (M.2.1 1))), (rq 8, .inl (0, 21, .inl (M.2.1 2))), (rq 9, .inl (4, 2, .inr (.inr (.inr (.inr (rf3 rq 10 1 2)))))), (rq 10, .inl (0, 21, .inl (M.2.2.1 0))), (rq 11, .inl (0, 21, .inl (M.2.2.1 1)))]) [0, 1, 2, 12, 13] [3, 4, 5, 6, 7, 8, 9, 10, 11] (ok_X7_know (m := rq 0) (Mo := rq 1) (Lo := rq 5) (Do := rq 9) (tl := rq 12) (ca := rq 13) (q := rq 2) (mm := rf3 rq 2 1 3) (fun h9 => by have h8 := ix_in h9; rw [e] at h8; exact (congrArg (rf3 rq 2 1 3) h8.symm).trans rfl) h0) rfl rfl rfl rfl (by decide) ?_
    rintro o w hp
    obtain ⟨g, e1, e2⟩ := hp
    subst e1; subst e2
    exact ⟨_, [9, 10, 11, 0, 1, 2, 3, 4, 5, 6, 7, 8, 12, 13], PN.mk g rfl rfl, rfl, rfl⟩
  · rw [e] at h0
    try rw [e]
    refine ok_fr (wc := [(rq 0, .inr (9, [.ref (rq 1), .ref (rq 5), .ref (rq 9), .ref (rq 12), .ref (rq 13), .int M.2.2.2.2.2])), (rq 1, .inl (4, 3, .inr (.inr (.inr (.inr (rf3 rq 2 1 3)))))), (rq 3, .inl (0, 6144, .inl (M.1 1))), (rq 12, .inl (0, 6, .inl M.2.2.2.1)), (rq 13, .inl (0, 441, .inl M.2.2.2.2.1))]) (wr := [(rq 2, .inl (0, 6144, .inl (M.1 0))), (rq 4, .inl (0, 6144, .inl (M.1 2))), (rq 5, .inl (4, 3, .inr (.inr (.inr (.inr (rf3 rq 6 1 3)))))), (rq 6, .inl (0, 21, .inl (M.2.1 0))), (rq 7, .inl (0, 21, .inl (M.2.1 1))), (rq 8, .inl (0, 21, .inl (M.2.1 2))), (rq 9, .inl (4, 2, .inr (.inr (.inr (.inr (rf3 rq 10 1 2)))))), (rq 10, .inl (0, 21, .inl (M.2.2.1 0))), (rq 11, .inl (0, 21, .inl (M.2.2.1 1)))]) [0, 1, 3, 12, 13] [2, 4, 5, 6, 7, 8, 9, 10, 11] (ok_X7_know (m := rq 0) (Mo := rq 1) (Lo := rq 5) (Do := rq 9) (tl := rq 12) (ca := rq 13) (q := rq 3) (mm := rf3 rq 2 1 3) (fun h9 => by have h8 := ix_in h9; rw [e] at h8; exact (congrArg (rf3 rq 2 1 3) h8.symm).trans rfl) h0) rfl rfl rfl rfl (by decide) ?_
    rintro o w hp
    obtain ⟨g, e1, e2⟩ := hp
    subst e1; subst e2
    exact ⟨_, [9, 10, 0, 11, 1, 2, 3, 4, 5, 6, 7, 8, 12, 13], PN.mk g rfl rfl, rfl, rfl⟩
  · rw [e] at h0
    try rw [e]
    refine ok_fr (wc := [(rq 0, .inr (9, [.ref (rq 1), .ref (rq 5), .ref (rq 9), .ref (rq 12), .ref (rq 13), .int M.2.2.2.2.2])), (rq 1, .inl (4, 3, .inr (.inr (.inr (.inr (rf3 rq 2 1 3)))))), (rq 4, .inl (0, 6144, .inl (M.1 2))), (rq 12, .inl (0, 6, .inl M.2.2.2.1)), (rq 13, .inl (0, 441, .inl M.2.2.2.2.1))]) (wr := [(rq 2, .inl (0, 6144, .inl (M.1 0))), (rq 3, .inl (0, 6144, .inl (M.1 1))), (rq 5, .inl (4, 3, .inr (.inr (.inr (.inr (rf3 rq 6 1 3)))))), (rq 6, .inl (0, 21, .inl (M.2.1 0))), (rq 7, .inl (0, 21, .inl (M.2.1 1))), (rq 8, .inl (0, 21, .inl (M.2.1 2))), (rq 9, .inl (4, 2, .inr (.inr (.inr (.inr (rf3 rq 10 1 2)))))), (rq 10, .inl (0, 21, .inl (M.2.2.1 0))), (rq 11, .inl (0, 21, .inl (M.2.2.1 1)))]) [0, 1, 4, 12, 13] [2, 3, 5, 6, 7, 8, 9, 10, 11] (ok_X7_know (m := rq 0) (Mo := rq 1) (Lo := rq 5) (Do := rq 9) (tl := rq 12) (ca := rq 13) (q := rq 4) (mm := rf3 rq 2 1 3) (fun h9 => by have h8 := ix_in h9; rw [e] at h8; exact (congrArg (rf3 rq 2 1 3) h8.symm).trans rfl) h0) rfl rfl rfl rfl (by decide) ?_
    rintro o w hp
    obtain ⟨g, e1, e2⟩ := hp
    subst e1; subst e2
    exact ⟨_, [9, 10, 0, 1, 11, 2, 3, 4, 5, 6, 7, 8, 12, 13], PN.mk g rfl rfl, rfl, rfl⟩
def gM_few (N K : Nat) (M : MS) (p0 : Int32) (p1 : Int32) (p2 : Int32) : Option (Int32 × MS) := (fX7_few N K M.2.2.2.2.2 (M.1 (ix 3 p0)) M.2.2.2.1 M.2.2.2.2.1 p0 p1 p2).map (fun z => (z.1, ((upm M.1 (ix 3 p0) z.2.2.1), M.2.1, M.2.2.1, z.2.2.2.1, z.2.2.2.2, z.2.1)))
set_option maxHeartbeats 4000000 in
set_option maxRecDepth 100000 in
theorem ogM_few {N K : Nat} {rq : Nat → Nat} {M : MS} {p0 : Int32} {p1 : Int32} {p2 : Int32} {x : Int32 × MS} (hE : gM_few N K M p0 p1 p2 = some x) : OkM yX7_few (.code yX7_few cX7_few 6 (some .int)) (4) 0 0 [.ref (rq 0), .int p0, .int p1, .int p2] (WM rq M) ((PN (U := Int32 × MS) (fun z _ => some (.int z.1)) (fun z _ => WM rq z.2)) x) := by
  unfold gM_few at hE
  obtain ⟨x0, h0, h1⟩ := Option.map_eq_some_iff.mp hE
  subst h1
  clear hE
  rcases lt3 (ix_lt (n := 3) (p := p0) (by decide)) with e | e | e
  · rw [e] at h0
    try rw [e]
    refine ok_fr (wc := [(rq 0, .inr (9, [.ref (rq 1), .ref (rq 5), .ref (rq 9), .ref (rq 12), .ref (rq 13), .int M.2.2.2.2.2])), (rq 1, .inl (4, 3, .inr (.inr (.inr (.inr (rf3 rq 2 1 3)))))), (rq 2, .inl (0, 6144, .inl (M.1 0))), (rq 12, .inl (0, 6, .inl M.2.2.2.1)), (rq 13, .inl (0, 441, .inl M.2.2.2.2.1))]) (wr := [(rq 3, .inl (0, 6144, .inl (M.1 1))), (rq 4, .inl (0, 6144, .inl (M.1 2))), (rq 5, .inl (4, 3, .inr (.inr (.inr (.inr (rf3 rq 6 1 3)))))), (rq 6, .inl (0, 21, .inl (M.2.1 0))), (rq 7, .inl (0, 21, .inl (M.2.1 1))), (rq 8, .inl (0, 21, .inl (M.2.1 2))), (rq 9, .inl (4, 2, .inr (.inr (.inr (.inr (rf3 rq 10 1 2)))))), (rq 10, .inl (0, 21, .inl (M.2.2.1 0))), (rq 11, .inl (0, 21, .inl (M.2.2.1 1)))]) [0, 1, 2, 12, 13] [3, 4, 5, 6, 7, 8, 9, 10, 11] (ok_X7_few (m := rq 0) (Mo := rq 1) (Lo := rq 5) (Do := rq 9) (tl := rq 12) (ca := rq 13) (q := rq 2) (mm := rf3 rq 2 1 3) (fun h9 => by have h8 := ix_in h9; rw [e] at h8; exact (congrArg (rf3 rq 2 1 3) h8.symm).trans rfl) h0) rfl rfl rfl rfl (by decide) ?_
    rintro o w hp
    obtain ⟨g, e1, e2⟩ := hp
    subst e1; subst e2
    exact ⟨_, [9, 10, 11, 0, 1, 2, 3, 4, 5, 6, 7, 8, 12, 13], PN.mk g rfl rfl, rfl, rfl⟩
  · rw [e] at h0
    try rw [e]
    refine ok_fr (wc := [(rq 0, .inr (9, [.ref (rq 1), .ref (rq 5), .ref (rq 9), .ref (rq 12), .ref (rq 13), .int M.2.2.2.2.2])), (rq 1, .inl (4, 3, .inr (.inr (.inr (.inr (rf3 rq 2 1 3)))))), (rq 3, .inl (0, 6144, .inl (M.1 1))), (rq 12, .inl (0, 6, .inl M.2.2.2.1)), (rq 13, .inl (0, 441, .inl M.2.2.2.2.1))]) (wr := [(rq 2, .inl (0, 6144, .inl (M.1 0))), (rq 4, .inl (0, 6144, .inl (M.1 2))), (rq 5, .inl (4, 3, .inr (.inr (.inr (.inr (rf3 rq 6 1 3)))))), (rq 6, .inl (0, 21, .inl (M.2.1 0))), (rq 7, .inl (0, 21, .inl (M.2.1 1))), (rq 8, .inl (0, 21, .inl (M.2.1 2))), (rq 9, .inl (4, 2, .inr (.inr (.inr (.inr (rf3 rq 10 1 2)))))), (rq 10, .inl (0, 21, .inl (M.2.2.1 0))), (rq 11, .inl (0, 21, .inl (M.2.2.1 1)))]) [0, 1, 3, 12, 13] [2, 4, 5, 6, 7, 8, 9, 10, 11] (ok_X7_few (m := rq 0) (Mo := rq 1) (Lo := rq 5) (Do := rq 9) (tl := rq 12) (ca := rq 13) (q := rq 3) (mm := rf3 rq 2 1 3) (fun h9 => by have h8 := ix_in h9; rw [e] at h8; exact (congrArg (rf3 rq 2 1 3) h8.symm).trans rfl) h0) rfl rfl rfl rfl (by decide) ?_
    rintro o w hp
    obtain ⟨g, e1, e2⟩ := hp
    subst e1; subst e2
    exact ⟨_, [9, 10, 0, 11, 1, 2, 3, 4, 5, 6, 7, 8, 12, 13], PN.mk g rfl rfl, rfl, rfl⟩
  · rw [e] at h0
    try rw [e]
    refine ok_fr (wc := [(rq 0, .inr (9, [.ref (rq 1), .ref (rq 5), .ref (rq 9), .ref (rq 12), .ref (rq 13), .int M.2.2.2.2.2])), (rq 1, .inl (4, 3, .inr (.inr (.inr (.inr (rf3 rq 2 1 3)))))), (rq 4, .inl (0, 6144, .inl (M.1 2))), (rq 12, .inl (0, 6, .inl M.2.2.2.1)), (rq 13, .inl (0, 441, .inl M.2.2.2.2.1))]) (wr := [(rq 2, .inl (0, 6144, .inl (M.1 0))), (rq 3, .inl (0, 6144, .inl (M.1 1))), (rq 5, .inl (4, 3, .inr (.inr (.inr (.inr (rf3 rq 6 1 3)))))), (rq 6, .inl (0, 21, .inl (M.2.1 0))), (rq 7, .inl (0, 21, .inl (M.2.1 1))), (rq 8, .inl (0, 21, .inl (M.2.1 2))), (rq 9, .inl (4, 2, .inr (.inr (.inr (.inr (rf3 rq 10 1 2)))))), (rq 10, .inl (0, 21, .inl (M.2.2.1 0))), (rq 11, .inl (0, 21, .inl (M.2.2.1 1)))]) [0, 1, 4, 12, 13] [2, 3, 5, 6, 7, 8, 9, 10, 11] (ok_X7_few (m := rq 0) (Mo := rq 1) (Lo := rq 5) (Do := rq 9) (tl := rq 12) (ca := rq 13) (q := rq 4) (mm := rf3 rq 2 1 3) (fun h9 => by have h8 := ix_in h9; rw [e] at h8; exact (congrArg (rf3 rq 2 1 3) h8.symm).trans rfl) h0) rfl rfl rfl rfl (by decide) ?_
    rintro o w hp
    obtain ⟨g, e1, e2⟩ := hp
    subst e1; subst e2
    exact ⟨_, [9, 10, 0, 1, 11, 2, 3, 4, 5, 6, 7, 8, 12, 13], PN.mk g rfl rfl, rfl, rfl⟩
def gM_surplus (N K : Nat) (M : MS) (p0 : Int32) (p1 : Int32) : Option (Int32 × MS) := (fX7_surplus N K M.2.2.2.2.2 (M.1 (ix 3 p0)) M.2.2.2.1 M.2.2.2.2.1 p0 p1).map (fun z => (z.1, ((upm M.1 (ix 3 p0) z.2.2.1), M.2.1, M.2.2.1, z.2.2.2.1, z.2.2.2.2, z.2.1)))
set_option maxHeartbeats 4000000 in
set_option maxRecDepth 100000 in
theorem ogM_surplus {N K : Nat} {rq : Nat → Nat} {M : MS} {p0 : Int32} {p1 : Int32} {x : Int32 × MS} (hE : gM_surplus N K M p0 p1 = some x) : OkM yX7_surplus (.code yX7_surplus cX7_surplus 5 (some .int)) (4) 0 0 [.ref (rq 0), .int p0, .int p1] (WM rq M) ((PN (U := Int32 × MS) (fun z _ => some (.int z.1)) (fun z _ => WM rq z.2)) x) := by
  unfold gM_surplus at hE
  obtain ⟨x0, h0, h1⟩ := Option.map_eq_some_iff.mp hE
  subst h1
  clear hE
  rcases lt3 (ix_lt (n := 3) (p := p0) (by decide)) with e | e | e
  · rw [e] at h0
    try rw [e]
    refine ok_fr (wc := [(rq 0, .inr (9, [.ref (rq 1), .ref (rq 5), .ref (rq 9), .ref (rq 12), .ref (rq 13), .int M.2.2.2.2.2])), (rq 1, .inl (4, 3, .inr (.inr (.inr (.inr (rf3 rq 2 1 3)))))), (rq 2, .inl (0, 6144, .inl (M.1 0))), (rq 12, .inl (0, 6, .inl M.2.2.2.1)), (rq 13, .inl (0, 441, .inl M.2.2.2.2.1))]) (wr := [(rq 3, .inl (0, 6144, .inl (M.1 1))), (rq 4, .inl (0, 6144, .inl (M.1 2))), (rq 5, .inl (4, 3, .inr (.inr (.inr (.inr (rf3 rq 6 1 3)))))), (rq 6, .inl (0, 21, .inl (M.2.1 0))), (rq 7, .inl (0, 21, .inl (M.2.1 1))), (rq 8, .inl (0, 21, .inl (M.2.1 2))), (rq 9, .inl (4, 2, .inr (.inr (.inr (.inr (rf3 rq 10 1 2)))))), (rq 10, .inl (0, 21, .inl (M.2.2.1 0))), (rq 11, .inl (0, 21, .inl (M.2.2.1 1)))]) [0, 1, 2, 12, 13] [3, 4, 5, 6, 7, 8, 9, 10, 11] (ok_X7_surplus (m := rq 0) (Mo := rq 1) (Lo := rq 5) (Do := rq 9) (tl := rq 12) (ca := rq 13) (q := rq 2) (mm := rf3 rq 2 1 3) (fun h9 => by have h8 := ix_in h9; rw [e] at h8; exact (congrArg (rf3 rq 2 1 3) h8.symm).trans rfl) h0) rfl rfl rfl rfl (by decide) ?_
    rintro o w hp
    obtain ⟨g, e1, e2⟩ := hp
    subst e1; subst e2
    exact ⟨_, [9, 10, 11, 0, 1, 2, 3, 4, 5, 6, 7, 8, 12, 13], PN.mk g rfl rfl, rfl, rfl⟩
  · rw [e] at h0
    try rw [e]
    refine ok_fr (wc := [(rq 0, .inr (9, [.ref (rq 1), .ref (rq 5), .ref (rq 9), .ref (rq 12), .ref (rq 13), .int M.2.2.2.2.2])), (rq 1, .inl (4, 3, .inr (.inr (.inr (.inr (rf3 rq 2 1 3)))))), (rq 3, .inl (0, 6144, .inl (M.1 1))), (rq 12, .inl (0, 6, .inl M.2.2.2.1)), (rq 13, .inl (0, 441, .inl M.2.2.2.2.1))]) (wr := [(rq 2, .inl (0, 6144, .inl (M.1 0))), (rq 4, .inl (0, 6144, .inl (M.1 2))), (rq 5, .inl (4, 3, .inr (.inr (.inr (.inr (rf3 rq 6 1 3)))))), (rq 6, .inl (0, 21, .inl (M.2.1 0))), (rq 7, .inl (0, 21, .inl (M.2.1 1))), (rq 8, .inl (0, 21, .inl (M.2.1 2))), (rq 9, .inl (4, 2, .inr (.inr (.inr (.inr (rf3 rq 10 1 2)))))), (rq 10, .inl (0, 21, .inl (M.2.2.1 0))), (rq 11, .inl (0, 21, .inl (M.2.2.1 1)))]) [0, 1, 3, 12, 13] [2, 4, 5, 6, 7, 8, 9, 10, 11] (ok_X7_surplus (m := rq 0) (Mo := rq 1) (Lo := rq 5) (Do := rq 9) (tl := rq 12) (ca := rq 13) (q := rq 3) (mm := rf3 rq 2 1 3) (fun h9 => by have h8 := ix_in h9; rw [e] at h8; exact (congrArg (rf3 rq 2 1 3) h8.symm).trans rfl) h0) rfl rfl rfl rfl (by decide) ?_
    rintro o w hp
    obtain ⟨g, e1, e2⟩ := hp
    subst e1; subst e2
    exact ⟨_, [9, 10, 0, 11, 1, 2, 3, 4, 5, 6, 7, 8, 12, 13], PN.mk g rfl rfl, rfl, rfl⟩
  · rw [e] at h0
    try rw [e]
    refine ok_fr (wc := [(rq 0, .inr (9, [.ref (rq 1), .ref (rq 5), .ref (rq 9), .ref (rq 12), .ref (rq 13), .int M.2.2.2.2.2])), (rq 1, .inl (4, 3, .inr (.inr (.inr (.inr (rf3 rq 2 1 3)))))), (rq 4, .inl (0, 6144, .inl (M.1 2))), (rq 12, .inl (0, 6, .inl M.2.2.2.1)), (rq 13, .inl (0, 441, .inl M.2.2.2.2.1))]) (wr := [(rq 2, .inl (0, 6144, .inl (M.1 0))), (rq 3, .inl (0, 6144, .inl (M.1 1))), (rq 5, .inl (4, 3, .inr (.inr (.inr (.inr (rf3 rq 6 1 3)))))), (rq 6, .inl (0, 21, .inl (M.2.1 0))), (rq 7, .inl (0, 21, .inl (M.2.1 1))), (rq 8, .inl (0, 21, .inl (M.2.1 2))), (rq 9, .inl (4, 2, .inr (.inr (.inr (.inr (rf3 rq 10 1 2)))))), (rq 10, .inl (0, 21, .inl (M.2.2.1 0))), (rq 11, .inl (0, 21, .inl (M.2.2.1 1)))]) [0, 1, 4, 12, 13] [2, 3, 5, 6, 7, 8, 9, 10, 11] (ok_X7_surplus (m := rq 0) (Mo := rq 1) (Lo := rq 5) (Do := rq 9) (tl := rq 12) (ca := rq 13) (q := rq 4) (mm := rf3 rq 2 1 3) (fun h9 => by have h8 := ix_in h9; rw [e] at h8; exact (congrArg (rf3 rq 2 1 3) h8.symm).trans rfl) h0) rfl rfl rfl rfl (by decide) ?_
    rintro o w hp
    obtain ⟨g, e1, e2⟩ := hp
    subst e1; subst e2
    exact ⟨_, [9, 10, 0, 1, 11, 2, 3, 4, 5, 6, 7, 8, 12, 13], PN.mk g rfl rfl, rfl, rfl⟩
def gM_place (N K : Nat) (M : MS) (p0 : Int32) (p1 : Int32) : Option (Int32 × MS) := (fX7_place N K M.2.2.2.2.2 (M.1 (ix 3 p0)) (M.2.2.1 (ix 2 p1)) M.2.2.2.1 M.2.2.2.2.1 p0 p1).map (fun z => (z.1, ((upm M.1 (ix 3 p0) z.2.2.1), M.2.1, M.2.2.1, z.2.2.2.1, z.2.2.2.2, z.2.1)))
set_option maxHeartbeats 4000000 in
set_option maxRecDepth 100000 in
theorem ogM_place {N K : Nat} {rq : Nat → Nat} {M : MS} {p0 : Int32} {p1 : Int32} {x : Int32 × MS} (hE : gM_place N K M p0 p1 = some x) : OkM yX7_place (.code yX7_place cX7_place 8 (some .int)) (4) 0 0 [.ref (rq 0), .int p0, .int p1] (WM rq M) ((PN (U := Int32 × MS) (fun z _ => some (.int z.1)) (fun z _ => WM rq z.2)) x) := by
  unfold gM_place at hE
  obtain ⟨x0, h0, h1⟩ := Option.map_eq_some_iff.mp hE
  subst h1
  clear hE
  rcases lt3 (ix_lt (n := 3) (p := p0) (by decide)) with e | e | e <;> rcases lt2 (ix_lt (n := 2) (p := p1) (by decide)) with f | f
  · rw [e, f] at h0
    try rw [e]
    try rw [f]
    refine ok_fr (wc := [(rq 0, .inr (9, [.ref (rq 1), .ref (rq 5), .ref (rq 9), .ref (rq 12), .ref (rq 13), .int M.2.2.2.2.2])), (rq 1, .inl (4, 3, .inr (.inr (.inr (.inr (rf3 rq 2 1 3)))))), (rq 2, .inl (0, 6144, .inl (M.1 0))), (rq 9, .inl (4, 2, .inr (.inr (.inr (.inr (rf3 rq 10 1 2)))))), (rq 10, .inl (0, 21, .inl (M.2.2.1 0))), (rq 12, .inl (0, 6, .inl M.2.2.2.1)), (rq 13, .inl (0, 441, .inl M.2.2.2.2.1))]) (wr := [(rq 3, .inl (0, 6144, .inl (M.1 1))), (rq 4, .inl (0, 6144, .inl (M.1 2))), (rq 5, .inl (4, 3, .inr (.inr (.inr (.inr (rf3 rq 6 1 3)))))), (rq 6, .inl (0, 21, .inl (M.2.1 0))), (rq 7, .inl (0, 21, .inl (M.2.1 1))), (rq 8, .inl (0, 21, .inl (M.2.1 2))), (rq 11, .inl (0, 21, .inl (M.2.2.1 1)))]) [0, 1, 2, 9, 10, 12, 13] [3, 4, 5, 6, 7, 8, 11] (ok_X7_place (m := rq 0) (Mo := rq 1) (Lo := rq 5) (Do := rq 9) (tl := rq 12) (ca := rq 13) (q := rq 2) (w := rq 10) (mm := rf3 rq 2 1 3) (dd := rf3 rq 10 1 2) (fun h9 => by have h8 := ix_in h9; rw [e] at h8; exact (congrArg (rf3 rq 2 1 3) h8.symm).trans rfl) (fun h9 => by have h8 := ix_in h9; rw [f] at h8; exact (congrArg (rf3 rq 10 1 2) h8.symm).trans rfl) h0) rfl rfl rfl rfl (by decide) ?_
    rintro o w hp
    obtain ⟨g, e1, e2⟩ := hp
    subst e1; subst e2
    exact ⟨_, [7, 8, 9, 0, 1, 2, 3, 4, 5, 10, 11, 6, 12, 13], PN.mk g rfl rfl, rfl, rfl⟩
  · rw [e, f] at h0
    try rw [e]
    try rw [f]
    refine ok_fr (wc := [(rq 0, .inr (9, [.ref (rq 1), .ref (rq 5), .ref (rq 9), .ref (rq 12), .ref (rq 13), .int M.2.2.2.2.2])), (rq 1, .inl (4, 3, .inr (.inr (.inr (.inr (rf3 rq 2 1 3)))))), (rq 2, .inl (0, 6144, .inl (M.1 0))), (rq 9, .inl (4, 2, .inr (.inr (.inr (.inr (rf3 rq 10 1 2)))))), (rq 11, .inl (0, 21, .inl (M.2.2.1 1))), (rq 12, .inl (0, 6, .inl M.2.2.2.1)), (rq 13, .inl (0, 441, .inl M.2.2.2.2.1))]) (wr := [(rq 3, .inl (0, 6144, .inl (M.1 1))), (rq 4, .inl (0, 6144, .inl (M.1 2))), (rq 5, .inl (4, 3, .inr (.inr (.inr (.inr (rf3 rq 6 1 3)))))), (rq 6, .inl (0, 21, .inl (M.2.1 0))), (rq 7, .inl (0, 21, .inl (M.2.1 1))), (rq 8, .inl (0, 21, .inl (M.2.1 2))), (rq 10, .inl (0, 21, .inl (M.2.2.1 0)))]) [0, 1, 2, 9, 11, 12, 13] [3, 4, 5, 6, 7, 8, 10] (ok_X7_place (m := rq 0) (Mo := rq 1) (Lo := rq 5) (Do := rq 9) (tl := rq 12) (ca := rq 13) (q := rq 2) (w := rq 11) (mm := rf3 rq 2 1 3) (dd := rf3 rq 10 1 2) (fun h9 => by have h8 := ix_in h9; rw [e] at h8; exact (congrArg (rf3 rq 2 1 3) h8.symm).trans rfl) (fun h9 => by have h8 := ix_in h9; rw [f] at h8; exact (congrArg (rf3 rq 10 1 2) h8.symm).trans rfl) h0) rfl rfl rfl rfl (by decide) ?_
    rintro o w hp
    obtain ⟨g, e1, e2⟩ := hp
    subst e1; subst e2
    exact ⟨_, [7, 8, 9, 0, 1, 2, 3, 4, 5, 10, 6, 11, 12, 13], PN.mk g rfl rfl, rfl, rfl⟩
  · rw [e, f] at h0
    try rw [e]
    try rw [f]
    refine ok_fr (wc := [(rq 0, .inr (9, [.ref (rq 1), .ref (rq 5), .ref (rq 9), .ref (rq 12), .ref (rq 13), .int M.2.2.2.2.2])), (rq 1, .inl (4, 3, .inr (.inr (.inr (.inr (rf3 rq 2 1 3)))))), (rq 3, .inl (0, 6144, .inl (M.1 1))), (rq 9, .inl (4, 2, .inr (.inr (.inr (.inr (rf3 rq 10 1 2)))))), (rq 10, .inl (0, 21, .inl (M.2.2.1 0))), (rq 12, .inl (0, 6, .inl M.2.2.2.1)), (rq 13, .inl (0, 441, .inl M.2.2.2.2.1))]) (wr := [(rq 2, .inl (0, 6144, .inl (M.1 0))), (rq 4, .inl (0, 6144, .inl (M.1 2))), (rq 5, .inl (4, 3, .inr (.inr (.inr (.inr (rf3 rq 6 1 3)))))), (rq 6, .inl (0, 21, .inl (M.2.1 0))), (rq 7, .inl (0, 21, .inl (M.2.1 1))), (rq 8, .inl (0, 21, .inl (M.2.1 2))), (rq 11, .inl (0, 21, .inl (M.2.2.1 1)))]) [0, 1, 3, 9, 10, 12, 13] [2, 4, 5, 6, 7, 8, 11] (ok_X7_place (m := rq 0) (Mo := rq 1) (Lo := rq 5) (Do := rq 9) (tl := rq 12) (ca := rq 13) (q := rq 3) (w := rq 10) (mm := rf3 rq 2 1 3) (dd := rf3 rq 10 1 2) (fun h9 => by have h8 := ix_in h9; rw [e] at h8; exact (congrArg (rf3 rq 2 1 3) h8.symm).trans rfl) (fun h9 => by have h8 := ix_in h9; rw [f] at h8; exact (congrArg (rf3 rq 10 1 2) h8.symm).trans rfl) h0) rfl rfl rfl rfl (by decide) ?_
    rintro o w hp
    obtain ⟨g, e1, e2⟩ := hp
    subst e1; subst e2
    exact ⟨_, [7, 8, 0, 9, 1, 2, 3, 4, 5, 10, 11, 6, 12, 13], PN.mk g rfl rfl, rfl, rfl⟩
  · rw [e, f] at h0
    try rw [e]
    try rw [f]
    refine ok_fr (wc := [(rq 0, .inr (9, [.ref (rq 1), .ref (rq 5), .ref (rq 9), .ref (rq 12), .ref (rq 13), .int M.2.2.2.2.2])), (rq 1, .inl (4, 3, .inr (.inr (.inr (.inr (rf3 rq 2 1 3)))))), (rq 3, .inl (0, 6144, .inl (M.1 1))), (rq 9, .inl (4, 2, .inr (.inr (.inr (.inr (rf3 rq 10 1 2)))))), (rq 11, .inl (0, 21, .inl (M.2.2.1 1))), (rq 12, .inl (0, 6, .inl M.2.2.2.1)), (rq 13, .inl (0, 441, .inl M.2.2.2.2.1))]) (wr := [(rq 2, .inl (0, 6144, .inl (M.1 0))), (rq 4, .inl (0, 6144, .inl (M.1 2))), (rq 5, .inl (4, 3, .inr (.inr (.inr (.inr (rf3 rq 6 1 3)))))), (rq 6, .inl (0, 21, .inl (M.2.1 0))), (rq 7, .inl (0, 21, .inl (M.2.1 1))), (rq 8, .inl (0, 21, .inl (M.2.1 2))), (rq 10, .inl (0, 21, .inl (M.2.2.1 0)))]) [0, 1, 3, 9, 11, 12, 13] [2, 4, 5, 6, 7, 8, 10] (ok_X7_place (m := rq 0) (Mo := rq 1) (Lo := rq 5) (Do := rq 9) (tl := rq 12) (ca := rq 13) (q := rq 3) (w := rq 11) (mm := rf3 rq 2 1 3) (dd := rf3 rq 10 1 2) (fun h9 => by have h8 := ix_in h9; rw [e] at h8; exact (congrArg (rf3 rq 2 1 3) h8.symm).trans rfl) (fun h9 => by have h8 := ix_in h9; rw [f] at h8; exact (congrArg (rf3 rq 10 1 2) h8.symm).trans rfl) h0) rfl rfl rfl rfl (by decide) ?_
    rintro o w hp
    obtain ⟨g, e1, e2⟩ := hp
    subst e1; subst e2
    exact ⟨_, [7, 8, 0, 9, 1, 2, 3, 4, 5, 10, 6, 11, 12, 13], PN.mk g rfl rfl, rfl, rfl⟩
  · rw [e, f] at h0
    try rw [e]
    try rw [f]
    refine ok_fr (wc := [(rq 0, .inr (9, [.ref (rq 1), .ref (rq 5), .ref (rq 9), .ref (rq 12), .ref (rq 13), .int M.2.2.2.2.2])), (rq 1, .inl (4, 3, .inr (.inr (.inr (.inr (rf3 rq 2 1 3)))))), (rq 4, .inl (0, 6144, .inl (M.1 2))), (rq 9, .inl (4, 2, .inr (.inr (.inr (.inr (rf3 rq 10 1 2)))))), (rq 10, .inl (0, 21, .inl (M.2.2.1 0))), (rq 12, .inl (0, 6, .inl M.2.2.2.1)), (rq 13, .inl (0, 441, .inl M.2.2.2.2.1))]) (wr := [(rq 2, .inl (0, 6144, .inl (M.1 0))), (rq 3, .inl (0, 6144, .inl (M.1 1))), (rq 5, .inl (4, 3, .inr (.inr (.inr (.inr (rf3 rq 6 1 3)))))), (rq 6, .inl (0, 21, .inl (M.2.1 0))), (rq 7, .inl (0, 21, .inl (M.2.1 1))), (rq 8, .inl (0, 21, .inl (M.2.1 2))), (rq 11, .inl (0, 21, .inl (M.2.2.1 1)))]) [0, 1, 4, 9, 10, 12, 13] [2, 3, 5, 6, 7, 8, 11] (ok_X7_place (m := rq 0) (Mo := rq 1) (Lo := rq 5) (Do := rq 9) (tl := rq 12) (ca := rq 13) (q := rq 4) (w := rq 10) (mm := rf3 rq 2 1 3) (dd := rf3 rq 10 1 2) (fun h9 => by have h8 := ix_in h9; rw [e] at h8; exact (congrArg (rf3 rq 2 1 3) h8.symm).trans rfl) (fun h9 => by have h8 := ix_in h9; rw [f] at h8; exact (congrArg (rf3 rq 10 1 2) h8.symm).trans rfl) h0) rfl rfl rfl rfl (by decide) ?_
    rintro o w hp
    obtain ⟨g, e1, e2⟩ := hp
    subst e1; subst e2
    exact ⟨_, [7, 8, 0, 1, 9, 2, 3, 4, 5, 10, 11, 6, 12, 13], PN.mk g rfl rfl, rfl, rfl⟩
  · rw [e, f] at h0
    try rw [e]
    try rw [f]
    refine ok_fr (wc := [(rq 0, .inr (9, [.ref (rq 1), .ref (rq 5), .ref (rq 9), .ref (rq 12), .ref (rq 13), .int M.2.2.2.2.2])), (rq 1, .inl (4, 3, .inr (.inr (.inr (.inr (rf3 rq 2 1 3)))))), (rq 4, .inl (0, 6144, .inl (M.1 2))), (rq 9, .inl (4, 2, .inr (.inr (.inr (.inr (rf3 rq 10 1 2)))))), (rq 11, .inl (0, 21, .inl (M.2.2.1 1))), (rq 12, .inl (0, 6, .inl M.2.2.2.1)), (rq 13, .inl (0, 441, .inl M.2.2.2.2.1))]) (wr := [(rq 2, .inl (0, 6144, .inl (M.1 0))), (rq 3, .inl (0, 6144, .inl (M.1 1))), (rq 5, .inl (4, 3, .inr (.inr (.inr (.inr (rf3 rq 6 1 3)))))), (rq 6, .inl (0, 21, .inl (M.2.1 0))), (rq 7, .inl (0, 21, .inl (M.2.1 1))), (rq 8, .inl (0, 21, .inl (M.2.1 2))), (rq 10, .inl (0, 21, .inl (M.2.2.1 0)))]) [0, 1, 4, 9, 11, 12, 13] [2, 3, 5, 6, 7, 8, 10] (ok_X7_place (m := rq 0) (Mo := rq 1) (Lo := rq 5) (Do := rq 9) (tl := rq 12) (ca := rq 13) (q := rq 4) (w := rq 11) (mm := rf3 rq 2 1 3) (dd := rf3 rq 10 1 2) (fun h9 => by have h8 := ix_in h9; rw [e] at h8; exact (congrArg (rf3 rq 2 1 3) h8.symm).trans rfl) (fun h9 => by have h8 := ix_in h9; rw [f] at h8; exact (congrArg (rf3 rq 10 1 2) h8.symm).trans rfl) h0) rfl rfl rfl rfl (by decide) ?_
    rintro o w hp
    obtain ⟨g, e1, e2⟩ := hp
    subst e1; subst e2
    exact ⟨_, [7, 8, 0, 1, 9, 2, 3, 4, 5, 10, 6, 11, 12, 13], PN.mk g rfl rfl, rfl, rfl⟩
def gM_learn (N K : Nat) (M : MS) (p0 : Int32) (p1 : Int32) (p2 : Int32) (p3 : Int32) : Option (Int32 × MS) := (fX7_learn N K M.2.2.2.2.2 (M.1 (ix 3 p0)) M.2.2.2.1 p0 p1 p2 p3).map (fun z => (z.1, ((upm M.1 (ix 3 p0) z.2.2.1), M.2.1, M.2.2.1, z.2.2.2, M.2.2.2.2.1, z.2.1)))
set_option maxHeartbeats 4000000 in
set_option maxRecDepth 100000 in
theorem ogM_learn {N K : Nat} {rq : Nat → Nat} {M : MS} {p0 : Int32} {p1 : Int32} {p2 : Int32} {p3 : Int32} {x : Int32 × MS} (hE : gM_learn N K M p0 p1 p2 p3 = some x) : OkM yX7_learn (.code yX7_learn cX7_learn 6 (some .int)) (2) 1 21 [.ref (rq 0), .int p0, .int p1, .int p2, .int p3] (WM rq M) ((PN (U := Int32 × MS) (fun z _ => some (.int z.1)) (fun z _ => WM rq z.2)) x) := by
  unfold gM_learn at hE
  obtain ⟨x0, h0, h1⟩ := Option.map_eq_some_iff.mp hE
  subst h1
  clear hE
  rcases lt3 (ix_lt (n := 3) (p := p0) (by decide)) with e | e | e
  · rw [e] at h0
    try rw [e]
    refine ok_fr (wc := [(rq 0, .inr (9, [.ref (rq 1), .ref (rq 5), .ref (rq 9), .ref (rq 12), .ref (rq 13), .int M.2.2.2.2.2])), (rq 1, .inl (4, 3, .inr (.inr (.inr (.inr (rf3 rq 2 1 3)))))), (rq 2, .inl (0, 6144, .inl (M.1 0))), (rq 12, .inl (0, 6, .inl M.2.2.2.1))]) (wr := [(rq 3, .inl (0, 6144, .inl (M.1 1))), (rq 4, .inl (0, 6144, .inl (M.1 2))), (rq 5, .inl (4, 3, .inr (.inr (.inr (.inr (rf3 rq 6 1 3)))))), (rq 6, .inl (0, 21, .inl (M.2.1 0))), (rq 7, .inl (0, 21, .inl (M.2.1 1))), (rq 8, .inl (0, 21, .inl (M.2.1 2))), (rq 9, .inl (4, 2, .inr (.inr (.inr (.inr (rf3 rq 10 1 2)))))), (rq 10, .inl (0, 21, .inl (M.2.2.1 0))), (rq 11, .inl (0, 21, .inl (M.2.2.1 1))), (rq 13, .inl (0, 441, .inl M.2.2.2.2.1))]) [0, 1, 2, 12] [3, 4, 5, 6, 7, 8, 9, 10, 11, 13] (ok_X7_learn (m := rq 0) (Mo := rq 1) (Lo := rq 5) (Do := rq 9) (tl := rq 12) (ca := rq 13) (q := rq 2) (mm := rf3 rq 2 1 3) (fun h9 => by have h8 := ix_in h9; rw [e] at h8; exact (congrArg (rf3 rq 2 1 3) h8.symm).trans rfl) h0) rfl rfl rfl rfl (by decide) ?_
    rintro o w hp
    obtain ⟨g, e1, e2⟩ := hp
    subst e1; subst e2
    exact ⟨_, [10, 11, 12, 0, 1, 2, 3, 4, 5, 6, 7, 8, 13, 9], PN.mk g rfl rfl, rfl, rfl⟩
  · rw [e] at h0
    try rw [e]
    refine ok_fr (wc := [(rq 0, .inr (9, [.ref (rq 1), .ref (rq 5), .ref (rq 9), .ref (rq 12), .ref (rq 13), .int M.2.2.2.2.2])), (rq 1, .inl (4, 3, .inr (.inr (.inr (.inr (rf3 rq 2 1 3)))))), (rq 3, .inl (0, 6144, .inl (M.1 1))), (rq 12, .inl (0, 6, .inl M.2.2.2.1))]) (wr := [(rq 2, .inl (0, 6144, .inl (M.1 0))), (rq 4, .inl (0, 6144, .inl (M.1 2))), (rq 5, .inl (4, 3, .inr (.inr (.inr (.inr (rf3 rq 6 1 3)))))), (rq 6, .inl (0, 21, .inl (M.2.1 0))), (rq 7, .inl (0, 21, .inl (M.2.1 1))), (rq 8, .inl (0, 21, .inl (M.2.1 2))), (rq 9, .inl (4, 2, .inr (.inr (.inr (.inr (rf3 rq 10 1 2)))))), (rq 10, .inl (0, 21, .inl (M.2.2.1 0))), (rq 11, .inl (0, 21, .inl (M.2.2.1 1))), (rq 13, .inl (0, 441, .inl M.2.2.2.2.1))]) [0, 1, 3, 12] [2, 4, 5, 6, 7, 8, 9, 10, 11, 13] (ok_X7_learn (m := rq 0) (Mo := rq 1) (Lo := rq 5) (Do := rq 9) (tl := rq 12) (ca := rq 13) (q := rq 3) (mm := rf3 rq 2 1 3) (fun h9 => by have h8 := ix_in h9; rw [e] at h8; exact (congrArg (rf3 rq 2 1 3) h8.symm).trans rfl) h0) rfl rfl rfl rfl (by decide) ?_
    rintro o w hp
    obtain ⟨g, e1, e2⟩ := hp
    subst e1; subst e2
    exact ⟨_, [10, 11, 0, 12, 1, 2, 3, 4, 5, 6, 7, 8, 13, 9], PN.mk g rfl rfl, rfl, rfl⟩
  · rw [e] at h0
    try rw [e]
    refine ok_fr (wc := [(rq 0, .inr (9, [.ref (rq 1), .ref (rq 5), .ref (rq 9), .ref (rq 12), .ref (rq 13), .int M.2.2.2.2.2])), (rq 1, .inl (4, 3, .inr (.inr (.inr (.inr (rf3 rq 2 1 3)))))), (rq 4, .inl (0, 6144, .inl (M.1 2))), (rq 12, .inl (0, 6, .inl M.2.2.2.1))]) (wr := [(rq 2, .inl (0, 6144, .inl (M.1 0))), (rq 3, .inl (0, 6144, .inl (M.1 1))), (rq 5, .inl (4, 3, .inr (.inr (.inr (.inr (rf3 rq 6 1 3)))))), (rq 6, .inl (0, 21, .inl (M.2.1 0))), (rq 7, .inl (0, 21, .inl (M.2.1 1))), (rq 8, .inl (0, 21, .inl (M.2.1 2))), (rq 9, .inl (4, 2, .inr (.inr (.inr (.inr (rf3 rq 10 1 2)))))), (rq 10, .inl (0, 21, .inl (M.2.2.1 0))), (rq 11, .inl (0, 21, .inl (M.2.2.1 1))), (rq 13, .inl (0, 441, .inl M.2.2.2.2.1))]) [0, 1, 4, 12] [2, 3, 5, 6, 7, 8, 9, 10, 11, 13] (ok_X7_learn (m := rq 0) (Mo := rq 1) (Lo := rq 5) (Do := rq 9) (tl := rq 12) (ca := rq 13) (q := rq 4) (mm := rf3 rq 2 1 3) (fun h9 => by have h8 := ix_in h9; rw [e] at h8; exact (congrArg (rf3 rq 2 1 3) h8.symm).trans rfl) h0) rfl rfl rfl rfl (by decide) ?_
    rintro o w hp
    obtain ⟨g, e1, e2⟩ := hp
    subst e1; subst e2
    exact ⟨_, [10, 11, 0, 1, 12, 2, 3, 4, 5, 6, 7, 8, 13, 9], PN.mk g rfl rfl, rfl, rfl⟩
def gM_relearn (N K : Nat) (M : MS) (p0 : Int32) (p1 : Int32) (p2 : Int32) (p3 : Int32) : Option (Int32 × MS) := (fX7_relearn N K M.2.2.2.2.2 (M.1 (ix 3 p0)) M.2.2.2.1 p0 p1 p2 p3).map (fun z => (z.1, ((upm M.1 (ix 3 p0) z.2.2.1), M.2.1, M.2.2.1, z.2.2.2, M.2.2.2.2.1, z.2.1)))
set_option maxHeartbeats 4000000 in
set_option maxRecDepth 100000 in
theorem ogM_relearn {N K : Nat} {rq : Nat → Nat} {M : MS} {p0 : Int32} {p1 : Int32} {p2 : Int32} {p3 : Int32} {x : Int32 × MS} (hE : gM_relearn N K M p0 p1 p2 p3 = some x) : OkM yX7_relearn (.code yX7_relearn cX7_relearn 5 (some .int)) (5) 1 21 [.ref (rq 0), .int p0, .int p1, .int p2, .int p3] (WM rq M) ((PN (U := Int32 × MS) (fun z _ => some (.int z.1)) (fun z _ => WM rq z.2)) x) := by
  unfold gM_relearn at hE
  obtain ⟨x0, h0, h1⟩ := Option.map_eq_some_iff.mp hE
  subst h1
  clear hE
  rcases lt3 (ix_lt (n := 3) (p := p0) (by decide)) with e | e | e
  · rw [e] at h0
    try rw [e]
    refine ok_fr (wc := [(rq 0, .inr (9, [.ref (rq 1), .ref (rq 5), .ref (rq 9), .ref (rq 12), .ref (rq 13), .int M.2.2.2.2.2])), (rq 1, .inl (4, 3, .inr (.inr (.inr (.inr (rf3 rq 2 1 3)))))), (rq 2, .inl (0, 6144, .inl (M.1 0))), (rq 12, .inl (0, 6, .inl M.2.2.2.1))]) (wr := [(rq 3, .inl (0, 6144, .inl (M.1 1))), (rq 4, .inl (0, 6144, .inl (M.1 2))), (rq 5, .inl (4, 3, .inr (.inr (.inr (.inr (rf3 rq 6 1 3)))))), (rq 6, .inl (0, 21, .inl (M.2.1 0))), (rq 7, .inl (0, 21, .inl (M.2.1 1))), (rq 8, .inl (0, 21, .inl (M.2.1 2))), (rq 9, .inl (4, 2, .inr (.inr (.inr (.inr (rf3 rq 10 1 2)))))), (rq 10, .inl (0, 21, .inl (M.2.2.1 0))), (rq 11, .inl (0, 21, .inl (M.2.2.1 1))), (rq 13, .inl (0, 441, .inl M.2.2.2.2.1))]) [0, 1, 2, 12] [3, 4, 5, 6, 7, 8, 9, 10, 11, 13] (ok_X7_relearn (m := rq 0) (Mo := rq 1) (Lo := rq 5) (Do := rq 9) (tl := rq 12) (ca := rq 13) (q := rq 2) (mm := rf3 rq 2 1 3) (fun h9 => by have h8 := ix_in h9; rw [e] at h8; exact (congrArg (rf3 rq 2 1 3) h8.symm).trans rfl) h0) rfl rfl rfl rfl (by decide) ?_
    rintro o w hp
    obtain ⟨g, e1, e2⟩ := hp
    subst e1; subst e2
    exact ⟨_, [10, 11, 12, 0, 1, 2, 3, 4, 5, 6, 7, 8, 13, 9], PN.mk g rfl rfl, rfl, rfl⟩
  · rw [e] at h0
    try rw [e]
    refine ok_fr (wc := [(rq 0, .inr (9, [.ref (rq 1), .ref (rq 5), .ref (rq 9), .ref (rq 12), .ref (rq 13), .int M.2.2.2.2.2])), (rq 1, .inl (4, 3, .inr (.inr (.inr (.inr (rf3 rq 2 1 3)))))), (rq 3, .inl (0, 6144, .inl (M.1 1))), (rq 12, .inl (0, 6, .inl M.2.2.2.1))]) (wr := [(rq 2, .inl (0, 6144, .inl (M.1 0))), (rq 4, .inl (0, 6144, .inl (M.1 2))), (rq 5, .inl (4, 3, .inr (.inr (.inr (.inr (rf3 rq 6 1 3)))))), (rq 6, .inl (0, 21, .inl (M.2.1 0))), (rq 7, .inl (0, 21, .inl (M.2.1 1))), (rq 8, .inl (0, 21, .inl (M.2.1 2))), (rq 9, .inl (4, 2, .inr (.inr (.inr (.inr (rf3 rq 10 1 2)))))), (rq 10, .inl (0, 21, .inl (M.2.2.1 0))), (rq 11, .inl (0, 21, .inl (M.2.2.1 1))), (rq 13, .inl (0, 441, .inl M.2.2.2.2.1))]) [0, 1, 3, 12] [2, 4, 5, 6, 7, 8, 9, 10, 11, 13] (ok_X7_relearn (m := rq 0) (Mo := rq 1) (Lo := rq 5) (Do := rq 9) (tl := rq 12) (ca := rq 13) (q := rq 3) (mm := rf3 rq 2 1 3) (fun h9 => by have h8 := ix_in h9; rw [e] at h8; exact (congrArg (rf3 rq 2 1 3) h8.symm).trans rfl) h0) rfl rfl rfl rfl (by decide) ?_
    rintro o w hp
    obtain ⟨g, e1, e2⟩ := hp
    subst e1; subst e2
    exact ⟨_, [10, 11, 0, 12, 1, 2, 3, 4, 5, 6, 7, 8, 13, 9], PN.mk g rfl rfl, rfl, rfl⟩
  · rw [e] at h0
    try rw [e]
    refine ok_fr (wc := [(rq 0, .inr (9, [.ref (rq 1), .ref (rq 5), .ref (rq 9), .ref (rq 12), .ref (rq 13), .int M.2.2.2.2.2])), (rq 1, .inl (4, 3, .inr (.inr (.inr (.inr (rf3 rq 2 1 3)))))), (rq 4, .inl (0, 6144, .inl (M.1 2))), (rq 12, .inl (0, 6, .inl M.2.2.2.1))]) (wr := [(rq 2, .inl (0, 6144, .inl (M.1 0))), (rq 3, .inl (0, 6144, .inl (M.1 1))), (rq 5, .inl (4, 3, .inr (.inr (.inr (.inr (rf3 rq 6 1 3)))))), (rq 6, .inl (0, 21, .inl (M.2.1 0))), (rq 7, .inl (0, 21, .inl (M.2.1 1))), (rq 8, .inl (0, 21, .inl (M.2.1 2))), (rq 9, .inl (4, 2, .inr (.inr (.inr (.inr (rf3 rq 10 1 2)))))), (rq 10, .inl (0, 21, .inl (M.2.2.1 0))), (rq 11, .inl (0, 21, .inl (M.2.2.1 1))), (rq 13, .inl (0, 441, .inl M.2.2.2.2.1))]) [0, 1, 4, 12] [2, 3, 5, 6, 7, 8, 9, 10, 11, 13] (ok_X7_relearn (m := rq 0) (Mo := rq 1) (Lo := rq 5) (Do := rq 9) (tl := rq 12) (ca := rq 13) (q := rq 4) (mm := rf3 rq 2 1 3) (fun h9 => by have h8 := ix_in h9; rw [e] at h8; exact (congrArg (rf3 rq 2 1 3) h8.symm).trans rfl) h0) rfl rfl rfl rfl (by decide) ?_
    rintro o w hp
    obtain ⟨g, e1, e2⟩ := hp
    subst e1; subst e2
    exact ⟨_, [10, 11, 0, 1, 12, 2, 3, 4, 5, 6, 7, 8, 13, 9], PN.mk g rfl rfl, rfl, rfl⟩
def gM_forget (N K : Nat) (M : MS) (p0 : Int32) (p1 : Int32) (p2 : Int32) (p3 : Int32) : Option (Int32 × MS) := (fX7_forget N K M.2.2.2.2.2 (M.1 (ix 3 p0)) M.2.2.2.1 p0 p1 p2 p3).map (fun z => (z.1, ((upm M.1 (ix 3 p0) z.2.2.1), M.2.1, M.2.2.1, z.2.2.2, M.2.2.2.2.1, z.2.1)))
set_option maxHeartbeats 4000000 in
set_option maxRecDepth 100000 in
theorem ogM_forget {N K : Nat} {rq : Nat → Nat} {M : MS} {p0 : Int32} {p1 : Int32} {p2 : Int32} {p3 : Int32} {x : Int32 × MS} (hE : gM_forget N K M p0 p1 p2 p3 = some x) : OkM yX7_forget (.code yX7_forget cX7_forget 6 (some .int)) (2) 0 0 [.ref (rq 0), .int p0, .int p1, .int p2, .int p3] (WM rq M) ((PN (U := Int32 × MS) (fun z _ => some (.int z.1)) (fun z _ => WM rq z.2)) x) := by
  unfold gM_forget at hE
  obtain ⟨x0, h0, h1⟩ := Option.map_eq_some_iff.mp hE
  subst h1
  clear hE
  rcases lt3 (ix_lt (n := 3) (p := p0) (by decide)) with e | e | e
  · rw [e] at h0
    try rw [e]
    refine ok_fr (wc := [(rq 0, .inr (9, [.ref (rq 1), .ref (rq 5), .ref (rq 9), .ref (rq 12), .ref (rq 13), .int M.2.2.2.2.2])), (rq 1, .inl (4, 3, .inr (.inr (.inr (.inr (rf3 rq 2 1 3)))))), (rq 2, .inl (0, 6144, .inl (M.1 0))), (rq 12, .inl (0, 6, .inl M.2.2.2.1))]) (wr := [(rq 3, .inl (0, 6144, .inl (M.1 1))), (rq 4, .inl (0, 6144, .inl (M.1 2))), (rq 5, .inl (4, 3, .inr (.inr (.inr (.inr (rf3 rq 6 1 3)))))), (rq 6, .inl (0, 21, .inl (M.2.1 0))), (rq 7, .inl (0, 21, .inl (M.2.1 1))), (rq 8, .inl (0, 21, .inl (M.2.1 2))), (rq 9, .inl (4, 2, .inr (.inr (.inr (.inr (rf3 rq 10 1 2)))))), (rq 10, .inl (0, 21, .inl (M.2.2.1 0))), (rq 11, .inl (0, 21, .inl (M.2.2.1 1))), (rq 13, .inl (0, 441, .inl M.2.2.2.2.1))]) [0, 1, 2, 12] [3, 4, 5, 6, 7, 8, 9, 10, 11, 13] (ok_X7_forget (m := rq 0) (Mo := rq 1) (Lo := rq 5) (Do := rq 9) (tl := rq 12) (ca := rq 13) (q := rq 2) (mm := rf3 rq 2 1 3) (fun h9 => by have h8 := ix_in h9; rw [e] at h8; exact (congrArg (rf3 rq 2 1 3) h8.symm).trans rfl) h0) rfl rfl rfl rfl (by decide) ?_
    rintro o w hp
    obtain ⟨g, e1, e2⟩ := hp
    subst e1; subst e2
    exact ⟨_, [10, 11, 12, 0, 1, 2, 3, 4, 5, 6, 7, 8, 13, 9], PN.mk g rfl rfl, rfl, rfl⟩
  · rw [e] at h0
    try rw [e]
    refine ok_fr (wc := [(rq 0, .inr (9, [.ref (rq 1), .ref (rq 5), .ref (rq 9), .ref (rq 12), .ref (rq 13), .int M.2.2.2.2.2])), (rq 1, .inl (4, 3, .inr (.inr (.inr (.inr (rf3 rq 2 1 3)))))), (rq 3, .inl (0, 6144, .inl (M.1 1))), (rq 12, .inl (0, 6, .inl M.2.2.2.1))]) (wr := [(rq 2, .inl (0, 6144, .inl (M.1 0))), (rq 4, .inl (0, 6144, .inl (M.1 2))), (rq 5, .inl (4, 3, .inr (.inr (.inr (.inr (rf3 rq 6 1 3)))))), (rq 6, .inl (0, 21, .inl (M.2.1 0))), (rq 7, .inl (0, 21, .inl (M.2.1 1))), (rq 8, .inl (0, 21, .inl (M.2.1 2))), (rq 9, .inl (4, 2, .inr (.inr (.inr (.inr (rf3 rq 10 1 2)))))), (rq 10, .inl (0, 21, .inl (M.2.2.1 0))), (rq 11, .inl (0, 21, .inl (M.2.2.1 1))), (rq 13, .inl (0, 441, .inl M.2.2.2.2.1))]) [0, 1, 3, 12] [2, 4, 5, 6, 7, 8, 9, 10, 11, 13] (ok_X7_forget (m := rq 0) (Mo := rq 1) (Lo := rq 5) (Do := rq 9) (tl := rq 12) (ca := rq 13) (q := rq 3) (mm := rf3 rq 2 1 3) (fun h9 => by have h8 := ix_in h9; rw [e] at h8; exact (congrArg (rf3 rq 2 1 3) h8.symm).trans rfl) h0) rfl rfl rfl rfl (by decide) ?_
    rintro o w hp
    obtain ⟨g, e1, e2⟩ := hp
    subst e1; subst e2
    exact ⟨_, [10, 11, 0, 12, 1, 2, 3, 4, 5, 6, 7, 8, 13, 9], PN.mk g rfl rfl, rfl, rfl⟩
  · rw [e] at h0
    try rw [e]
    refine ok_fr (wc := [(rq 0, .inr (9, [.ref (rq 1), .ref (rq 5), .ref (rq 9), .ref (rq 12), .ref (rq 13), .int M.2.2.2.2.2])), (rq 1, .inl (4, 3, .inr (.inr (.inr (.inr (rf3 rq 2 1 3)))))), (rq 4, .inl (0, 6144, .inl (M.1 2))), (rq 12, .inl (0, 6, .inl M.2.2.2.1))]) (wr := [(rq 2, .inl (0, 6144, .inl (M.1 0))), (rq 3, .inl (0, 6144, .inl (M.1 1))), (rq 5, .inl (4, 3, .inr (.inr (.inr (.inr (rf3 rq 6 1 3)))))), (rq 6, .inl (0, 21, .inl (M.2.1 0))), (rq 7, .inl (0, 21, .inl (M.2.1 1))), (rq 8, .inl (0, 21, .inl (M.2.1 2))), (rq 9, .inl (4, 2, .inr (.inr (.inr (.inr (rf3 rq 10 1 2)))))), (rq 10, .inl (0, 21, .inl (M.2.2.1 0))), (rq 11, .inl (0, 21, .inl (M.2.2.1 1))), (rq 13, .inl (0, 441, .inl M.2.2.2.2.1))]) [0, 1, 4, 12] [2, 3, 5, 6, 7, 8, 9, 10, 11, 13] (ok_X7_forget (m := rq 0) (Mo := rq 1) (Lo := rq 5) (Do := rq 9) (tl := rq 12) (ca := rq 13) (q := rq 4) (mm := rf3 rq 2 1 3) (fun h9 => by have h8 := ix_in h9; rw [e] at h8; exact (congrArg (rf3 rq 2 1 3) h8.symm).trans rfl) h0) rfl rfl rfl rfl (by decide) ?_
    rintro o w hp
    obtain ⟨g, e1, e2⟩ := hp
    subst e1; subst e2
    exact ⟨_, [10, 11, 0, 1, 12, 2, 3, 4, 5, 6, 7, 8, 13, 9], PN.mk g rfl rfl, rfl, rfl⟩
def gM_forgetIf (N K : Nat) (M : MS) (p0 : Int32) (p1 : Int32) (p2 : Int32) (p3 : Int32) (p4 : Int32) : Option (Int32 × MS) := (fX7_forgetIf N K M.2.2.2.2.2 (M.1 (ix 3 p0)) M.2.2.2.1 p0 p1 p2 p3 p4).map (fun z => (z.1, ((upm M.1 (ix 3 p0) z.2.2.1), M.2.1, M.2.2.1, z.2.2.2, M.2.2.2.2.1, z.2.1)))
set_option maxHeartbeats 4000000 in
set_option maxRecDepth 100000 in
theorem ogM_forgetIf {N K : Nat} {rq : Nat → Nat} {M : MS} {p0 : Int32} {p1 : Int32} {p2 : Int32} {p3 : Int32} {p4 : Int32} {x : Int32 × MS} (hE : gM_forgetIf N K M p0 p1 p2 p3 p4 = some x) : OkM yX7_forgetIf (.code yX7_forgetIf cX7_forgetIf 8 (some .int)) (2) 0 0 [.ref (rq 0), .int p0, .int p1, .int p2, .int p3, .int p4] (WM rq M) ((PN (U := Int32 × MS) (fun z _ => some (.int z.1)) (fun z _ => WM rq z.2)) x) := by
  unfold gM_forgetIf at hE
  obtain ⟨x0, h0, h1⟩ := Option.map_eq_some_iff.mp hE
  subst h1
  clear hE
  rcases lt3 (ix_lt (n := 3) (p := p0) (by decide)) with e | e | e
  · rw [e] at h0
    try rw [e]
    refine ok_fr (wc := [(rq 0, .inr (9, [.ref (rq 1), .ref (rq 5), .ref (rq 9), .ref (rq 12), .ref (rq 13), .int M.2.2.2.2.2])), (rq 1, .inl (4, 3, .inr (.inr (.inr (.inr (rf3 rq 2 1 3)))))), (rq 2, .inl (0, 6144, .inl (M.1 0))), (rq 12, .inl (0, 6, .inl M.2.2.2.1))]) (wr := [(rq 3, .inl (0, 6144, .inl (M.1 1))), (rq 4, .inl (0, 6144, .inl (M.1 2))), (rq 5, .inl (4, 3, .inr (.inr (.inr (.inr (rf3 rq 6 1 3)))))), (rq 6, .inl (0, 21, .inl (M.2.1 0))), (rq 7, .inl (0, 21, .inl (M.2.1 1))), (rq 8, .inl (0, 21, .inl (M.2.1 2))), (rq 9, .inl (4, 2, .inr (.inr (.inr (.inr (rf3 rq 10 1 2)))))), (rq 10, .inl (0, 21, .inl (M.2.2.1 0))), (rq 11, .inl (0, 21, .inl (M.2.2.1 1))), (rq 13, .inl (0, 441, .inl M.2.2.2.2.1))]) [0, 1, 2, 12] [3, 4, 5, 6, 7, 8, 9, 10, 11, 13] (ok_X7_forgetIf (m := rq 0) (Mo := rq 1) (Lo := rq 5) (Do := rq 9) (tl := rq 12) (ca := rq 13) (q := rq 2) (mm := rf3 rq 2 1 3) (fun h9 => by have h8 := ix_in h9; rw [e] at h8; exact (congrArg (rf3 rq 2 1 3) h8.symm).trans rfl) h0) rfl rfl rfl rfl (by decide) ?_
    rintro o w hp
    obtain ⟨g, e1, e2⟩ := hp
    subst e1; subst e2
    exact ⟨_, [10, 11, 12, 0, 1, 2, 3, 4, 5, 6, 7, 8, 13, 9], PN.mk g rfl rfl, rfl, rfl⟩
  · rw [e] at h0
    try rw [e]
    refine ok_fr (wc := [(rq 0, .inr (9, [.ref (rq 1), .ref (rq 5), .ref (rq 9), .ref (rq 12), .ref (rq 13), .int M.2.2.2.2.2])), (rq 1, .inl (4, 3, .inr (.inr (.inr (.inr (rf3 rq 2 1 3)))))), (rq 3, .inl (0, 6144, .inl (M.1 1))), (rq 12, .inl (0, 6, .inl M.2.2.2.1))]) (wr := [(rq 2, .inl (0, 6144, .inl (M.1 0))), (rq 4, .inl (0, 6144, .inl (M.1 2))), (rq 5, .inl (4, 3, .inr (.inr (.inr (.inr (rf3 rq 6 1 3)))))), (rq 6, .inl (0, 21, .inl (M.2.1 0))), (rq 7, .inl (0, 21, .inl (M.2.1 1))), (rq 8, .inl (0, 21, .inl (M.2.1 2))), (rq 9, .inl (4, 2, .inr (.inr (.inr (.inr (rf3 rq 10 1 2)))))), (rq 10, .inl (0, 21, .inl (M.2.2.1 0))), (rq 11, .inl (0, 21, .inl (M.2.2.1 1))), (rq 13, .inl (0, 441, .inl M.2.2.2.2.1))]) [0, 1, 3, 12] [2, 4, 5, 6, 7, 8, 9, 10, 11, 13] (ok_X7_forgetIf (m := rq 0) (Mo := rq 1) (Lo := rq 5) (Do := rq 9) (tl := rq 12) (ca := rq 13) (q := rq 3) (mm := rf3 rq 2 1 3) (fun h9 => by have h8 := ix_in h9; rw [e] at h8; exact (congrArg (rf3 rq 2 1 3) h8.symm).trans rfl) h0) rfl rfl rfl rfl (by decide) ?_
    rintro o w hp
    obtain ⟨g, e1, e2⟩ := hp
    subst e1; subst e2
    exact ⟨_, [10, 11, 0, 12, 1, 2, 3, 4, 5, 6, 7, 8, 13, 9], PN.mk g rfl rfl, rfl, rfl⟩
  · rw [e] at h0
    try rw [e]
    refine ok_fr (wc := [(rq 0, .inr (9, [.ref (rq 1), .ref (rq 5), .ref (rq 9), .ref (rq 12), .ref (rq 13), .int M.2.2.2.2.2])), (rq 1, .inl (4, 3, .inr (.inr (.inr (.inr (rf3 rq 2 1 3)))))), (rq 4, .inl (0, 6144, .inl (M.1 2))), (rq 12, .inl (0, 6, .inl M.2.2.2.1))]) (wr := [(rq 2, .inl (0, 6144, .inl (M.1 0))), (rq 3, .inl (0, 6144, .inl (M.1 1))), (rq 5, .inl (4, 3, .inr (.inr (.inr (.inr (rf3 rq 6 1 3)))))), (rq 6, .inl (0, 21, .inl (M.2.1 0))), (rq 7, .inl (0, 21, .inl (M.2.1 1))), (rq 8, .inl (0, 21, .inl (M.2.1 2))), (rq 9, .inl (4, 2, .inr (.inr (.inr (.inr (rf3 rq 10 1 2)))))), (rq 10, .inl (0, 21, .inl (M.2.2.1 0))), (rq 11, .inl (0, 21, .inl (M.2.2.1 1))), (rq 13, .inl (0, 441, .inl M.2.2.2.2.1))]) [0, 1, 4, 12] [2, 3, 5, 6, 7, 8, 9, 10, 11, 13] (ok_X7_forgetIf (m := rq 0) (Mo := rq 1) (Lo := rq 5) (Do := rq 9) (tl := rq 12) (ca := rq 13) (q := rq 4) (mm := rf3 rq 2 1 3) (fun h9 => by have h8 := ix_in h9; rw [e] at h8; exact (congrArg (rf3 rq 2 1 3) h8.symm).trans rfl) h0) rfl rfl rfl rfl (by decide) ?_
    rintro o w hp
    obtain ⟨g, e1, e2⟩ := hp
    subst e1; subst e2
    exact ⟨_, [10, 11, 0, 1, 12, 2, 3, 4, 5, 6, 7, 8, 13, 9], PN.mk g rfl rfl, rfl, rfl⟩
def gM_forgetAll (N K : Nat) (M : MS) (p0 : Int32) (p1 : Int32) (p2 : Int32) : Option (Int32 × MS) := (fX7_forgetAll N K M.2.2.2.2.2 (M.1 (ix 3 p0)) M.2.2.2.1 p0 p1 p2).map (fun z => (z.1, ((upm M.1 (ix 3 p0) z.2.2.1), M.2.1, M.2.2.1, z.2.2.2, M.2.2.2.2.1, z.2.1)))
set_option maxHeartbeats 4000000 in
set_option maxRecDepth 100000 in
theorem ogM_forgetAll {N K : Nat} {rq : Nat → Nat} {M : MS} {p0 : Int32} {p1 : Int32} {p2 : Int32} {x : Int32 × MS} (hE : gM_forgetAll N K M p0 p1 p2 = some x) : OkM yX7_forgetAll (.code yX7_forgetAll cX7_forgetAll 6 (some .int)) (3) 0 0 [.ref (rq 0), .int p0, .int p1, .int p2] (WM rq M) ((PN (U := Int32 × MS) (fun z _ => some (.int z.1)) (fun z _ => WM rq z.2)) x) := by
  unfold gM_forgetAll at hE
  obtain ⟨x0, h0, h1⟩ := Option.map_eq_some_iff.mp hE
  subst h1
  clear hE
  rcases lt3 (ix_lt (n := 3) (p := p0) (by decide)) with e | e | e
  · rw [e] at h0
    try rw [e]
    refine ok_fr (wc := [(rq 0, .inr (9, [.ref (rq 1), .ref (rq 5), .ref (rq 9), .ref (rq 12), .ref (rq 13), .int M.2.2.2.2.2])), (rq 1, .inl (4, 3, .inr (.inr (.inr (.inr (rf3 rq 2 1 3)))))), (rq 2, .inl (0, 6144, .inl (M.1 0))), (rq 12, .inl (0, 6, .inl M.2.2.2.1))]) (wr := [(rq 3, .inl (0, 6144, .inl (M.1 1))), (rq 4, .inl (0, 6144, .inl (M.1 2))), (rq 5, .inl (4, 3, .inr (.inr (.inr (.inr (rf3 rq 6 1 3)))))), (rq 6, .inl (0, 21, .inl (M.2.1 0))), (rq 7, .inl (0, 21, .inl (M.2.1 1))), (rq 8, .inl (0, 21, .inl (M.2.1 2))), (rq 9, .inl (4, 2, .inr (.inr (.inr (.inr (rf3 rq 10 1 2)))))), (rq 10, .inl (0, 21, .inl (M.2.2.1 0))), (rq 11, .inl (0, 21, .inl (M.2.2.1 1))), (rq 13, .inl (0, 441, .inl M.2.2.2.2.1))]) [0, 1, 2, 12] [3, 4, 5, 6, 7, 8, 9, 10, 11, 13] (ok_X7_forgetAll (m := rq 0) (Mo := rq 1) (Lo := rq 5) (Do := rq 9) (tl := rq 12) (ca := rq 13) (q := rq 2) (mm := rf3 rq 2 1 3) (fun h9 => by have h8 := ix_in h9; rw [e] at h8; exact (congrArg (rf3 rq 2 1 3) h8.symm).trans rfl) h0) rfl rfl rfl rfl (by decide) ?_
    rintro o w hp
    obtain ⟨g, e1, e2⟩ := hp
    subst e1; subst e2
    exact ⟨_, [10, 11, 12, 0, 1, 2, 3, 4, 5, 6, 7, 8, 13, 9], PN.mk g rfl rfl, rfl, rfl⟩
  · rw [e] at h0
    try rw [e]
    refine ok_fr (wc := [(rq 0, .inr (9, [.ref (rq 1), .ref (rq 5), .ref (rq 9), .ref (rq 12), .ref (rq 13), .int M.2.2.2.2.2])), (rq 1, .inl (4, 3, .inr (.inr (.inr (.inr (rf3 rq 2 1 3)))))), (rq 3, .inl (0, 6144, .inl (M.1 1))), (rq 12, .inl (0, 6, .inl M.2.2.2.1))]) (wr := [(rq 2, .inl (0, 6144, .inl (M.1 0))), (rq 4, .inl (0, 6144, .inl (M.1 2))), (rq 5, .inl (4, 3, .inr (.inr (.inr (.inr (rf3 rq 6 1 3)))))), (rq 6, .inl (0, 21, .inl (M.2.1 0))), (rq 7, .inl (0, 21, .inl (M.2.1 1))), (rq 8, .inl (0, 21, .inl (M.2.1 2))), (rq 9, .inl (4, 2, .inr (.inr (.inr (.inr (rf3 rq 10 1 2)))))), (rq 10, .inl (0, 21, .inl (M.2.2.1 0))), (rq 11, .inl (0, 21, .inl (M.2.2.1 1))), (rq 13, .inl (0, 441, .inl M.2.2.2.2.1))]) [0, 1, 3, 12] [2, 4, 5, 6, 7, 8, 9, 10, 11, 13] (ok_X7_forgetAll (m := rq 0) (Mo := rq 1) (Lo := rq 5) (Do := rq 9) (tl := rq 12) (ca := rq 13) (q := rq 3) (mm := rf3 rq 2 1 3) (fun h9 => by have h8 := ix_in h9; rw [e] at h8; exact (congrArg (rf3 rq 2 1 3) h8.symm).trans rfl) h0) rfl rfl rfl rfl (by decide) ?_
    rintro o w hp
    obtain ⟨g, e1, e2⟩ := hp
    subst e1; subst e2
    exact ⟨_, [10, 11, 0, 12, 1, 2, 3, 4, 5, 6, 7, 8, 13, 9], PN.mk g rfl rfl, rfl, rfl⟩
  · rw [e] at h0
    try rw [e]
    refine ok_fr (wc := [(rq 0, .inr (9, [.ref (rq 1), .ref (rq 5), .ref (rq 9), .ref (rq 12), .ref (rq 13), .int M.2.2.2.2.2])), (rq 1, .inl (4, 3, .inr (.inr (.inr (.inr (rf3 rq 2 1 3)))))), (rq 4, .inl (0, 6144, .inl (M.1 2))), (rq 12, .inl (0, 6, .inl M.2.2.2.1))]) (wr := [(rq 2, .inl (0, 6144, .inl (M.1 0))), (rq 3, .inl (0, 6144, .inl (M.1 1))), (rq 5, .inl (4, 3, .inr (.inr (.inr (.inr (rf3 rq 6 1 3)))))), (rq 6, .inl (0, 21, .inl (M.2.1 0))), (rq 7, .inl (0, 21, .inl (M.2.1 1))), (rq 8, .inl (0, 21, .inl (M.2.1 2))), (rq 9, .inl (4, 2, .inr (.inr (.inr (.inr (rf3 rq 10 1 2)))))), (rq 10, .inl (0, 21, .inl (M.2.2.1 0))), (rq 11, .inl (0, 21, .inl (M.2.2.1 1))), (rq 13, .inl (0, 441, .inl M.2.2.2.2.1))]) [0, 1, 4, 12] [2, 3, 5, 6, 7, 8, 9, 10, 11, 13] (ok_X7_forgetAll (m := rq 0) (Mo := rq 1) (Lo := rq 5) (Do := rq 9) (tl := rq 12) (ca := rq 13) (q := rq 4) (mm := rf3 rq 2 1 3) (fun h9 => by have h8 := ix_in h9; rw [e] at h8; exact (congrArg (rf3 rq 2 1 3) h8.symm).trans rfl) h0) rfl rfl rfl rfl (by decide) ?_
    rintro o w hp
    obtain ⟨g, e1, e2⟩ := hp
    subst e1; subst e2
    exact ⟨_, [10, 11, 0, 1, 12, 2, 3, 4, 5, 6, 7, 8, 13, 9], PN.mk g rfl rfl, rfl, rfl⟩
def gM_clear (N K : Nat) (M : MS) (p0 : Int32) : Option (Int32 × MS) := (fX7_clear N K M.2.2.2.2.2 (M.1 (ix 3 p0)) M.2.2.2.1 p0).map (fun z => (z.1, ((upm M.1 (ix 3 p0) z.2.2.1), M.2.1, M.2.2.1, z.2.2.2, M.2.2.2.2.1, z.2.1)))
set_option maxHeartbeats 4000000 in
set_option maxRecDepth 100000 in
theorem ogM_clear {N K : Nat} {rq : Nat → Nat} {M : MS} {p0 : Int32} {x : Int32 × MS} (hE : gM_clear N K M p0 = some x) : OkM yX7_clear (.code yX7_clear cX7_clear 4 (some .int)) (2) 0 0 [.ref (rq 0), .int p0] (WM rq M) ((PN (U := Int32 × MS) (fun z _ => some (.int z.1)) (fun z _ => WM rq z.2)) x) := by
  unfold gM_clear at hE
  obtain ⟨x0, h0, h1⟩ := Option.map_eq_some_iff.mp hE
  subst h1
  clear hE
  rcases lt3 (ix_lt (n := 3) (p := p0) (by decide)) with e | e | e
  · rw [e] at h0
    try rw [e]
    refine ok_fr (wc := [(rq 0, .inr (9, [.ref (rq 1), .ref (rq 5), .ref (rq 9), .ref (rq 12), .ref (rq 13), .int M.2.2.2.2.2])), (rq 1, .inl (4, 3, .inr (.inr (.inr (.inr (rf3 rq 2 1 3)))))), (rq 2, .inl (0, 6144, .inl (M.1 0))), (rq 12, .inl (0, 6, .inl M.2.2.2.1))]) (wr := [(rq 3, .inl (0, 6144, .inl (M.1 1))), (rq 4, .inl (0, 6144, .inl (M.1 2))), (rq 5, .inl (4, 3, .inr (.inr (.inr (.inr (rf3 rq 6 1 3)))))), (rq 6, .inl (0, 21, .inl (M.2.1 0))), (rq 7, .inl (0, 21, .inl (M.2.1 1))), (rq 8, .inl (0, 21, .inl (M.2.1 2))), (rq 9, .inl (4, 2, .inr (.inr (.inr (.inr (rf3 rq 10 1 2)))))), (rq 10, .inl (0, 21, .inl (M.2.2.1 0))), (rq 11, .inl (0, 21, .inl (M.2.2.1 1))), (rq 13, .inl (0, 441, .inl M.2.2.2.2.1))]) [0, 1, 2, 12] [3, 4, 5, 6, 7, 8, 9, 10, 11, 13] (ok_X7_clear (m := rq 0) (Mo := rq 1) (Lo := rq 5) (Do := rq 9) (tl := rq 12) (ca := rq 13) (q := rq 2) (mm := rf3 rq 2 1 3) (fun h9 => by have h8 := ix_in h9; rw [e] at h8; exact (congrArg (rf3 rq 2 1 3) h8.symm).trans rfl) h0) rfl rfl rfl rfl (by decide) ?_
    rintro o w hp
    obtain ⟨g, e1, e2⟩ := hp
    subst e1; subst e2
    exact ⟨_, [10, 11, 12, 0, 1, 2, 3, 4, 5, 6, 7, 8, 13, 9], PN.mk g rfl rfl, rfl, rfl⟩
  · rw [e] at h0
    try rw [e]
    refine ok_fr (wc := [(rq 0, .inr (9, [.ref (rq 1), .ref (rq 5), .ref (rq 9), .ref (rq 12), .ref (rq 13), .int M.2.2.2.2.2])), (rq 1, .inl (4, 3, .inr (.inr (.inr (.inr (rf3 rq 2 1 3)))))), (rq 3, .inl (0, 6144, .inl (M.1 1))), (rq 12, .inl (0, 6, .inl M.2.2.2.1))]) (wr := [(rq 2, .inl (0, 6144, .inl (M.1 0))), (rq 4, .inl (0, 6144, .inl (M.1 2))), (rq 5, .inl (4, 3, .inr (.inr (.inr (.inr (rf3 rq 6 1 3)))))), (rq 6, .inl (0, 21, .inl (M.2.1 0))), (rq 7, .inl (0, 21, .inl (M.2.1 1))), (rq 8, .inl (0, 21, .inl (M.2.1 2))), (rq 9, .inl (4, 2, .inr (.inr (.inr (.inr (rf3 rq 10 1 2)))))), (rq 10, .inl (0, 21, .inl (M.2.2.1 0))), (rq 11, .inl (0, 21, .inl (M.2.2.1 1))), (rq 13, .inl (0, 441, .inl M.2.2.2.2.1))]) [0, 1, 3, 12] [2, 4, 5, 6, 7, 8, 9, 10, 11, 13] (ok_X7_clear (m := rq 0) (Mo := rq 1) (Lo := rq 5) (Do := rq 9) (tl := rq 12) (ca := rq 13) (q := rq 3) (mm := rf3 rq 2 1 3) (fun h9 => by have h8 := ix_in h9; rw [e] at h8; exact (congrArg (rf3 rq 2 1 3) h8.symm).trans rfl) h0) rfl rfl rfl rfl (by decide) ?_
    rintro o w hp
    obtain ⟨g, e1, e2⟩ := hp
    subst e1; subst e2
    exact ⟨_, [10, 11, 0, 12, 1, 2, 3, 4, 5, 6, 7, 8, 13, 9], PN.mk g rfl rfl, rfl, rfl⟩
  · rw [e] at h0
    try rw [e]
    refine ok_fr (wc := [(rq 0, .inr (9, [.ref (rq 1), .ref (rq 5), .ref (rq 9), .ref (rq 12), .ref (rq 13), .int M.2.2.2.2.2])), (rq 1, .inl (4, 3, .inr (.inr (.inr (.inr (rf3 rq 2 1 3)))))), (rq 4, .inl (0, 6144, .inl (M.1 2))), (rq 12, .inl (0, 6, .inl M.2.2.2.1))]) (wr := [(rq 2, .inl (0, 6144, .inl (M.1 0))), (rq 3, .inl (0, 6144, .inl (M.1 1))), (rq 5, .inl (4, 3, .inr (.inr (.inr (.inr (rf3 rq 6 1 3)))))), (rq 6, .inl (0, 21, .inl (M.2.1 0))), (rq 7, .inl (0, 21, .inl (M.2.1 1))), (rq 8, .inl (0, 21, .inl (M.2.1 2))), (rq 9, .inl (4, 2, .inr (.inr (.inr (.inr (rf3 rq 10 1 2)))))), (rq 10, .inl (0, 21, .inl (M.2.2.1 0))), (rq 11, .inl (0, 21, .inl (M.2.2.1 1))), (rq 13, .inl (0, 441, .inl M.2.2.2.2.1))]) [0, 1, 4, 12] [2, 3, 5, 6, 7, 8, 9, 10, 11, 13] (ok_X7_clear (m := rq 0) (Mo := rq 1) (Lo := rq 5) (Do := rq 9) (tl := rq 12) (ca := rq 13) (q := rq 4) (mm := rf3 rq 2 1 3) (fun h9 => by have h8 := ix_in h9; rw [e] at h8; exact (congrArg (rf3 rq 2 1 3) h8.symm).trans rfl) h0) rfl rfl rfl rfl (by decide) ?_
    rintro o w hp
    obtain ⟨g, e1, e2⟩ := hp
    subst e1; subst e2
    exact ⟨_, [10, 11, 0, 1, 12, 2, 3, 4, 5, 6, 7, 8, 13, 9], PN.mk g rfl rfl, rfl, rfl⟩
def gM_copy (N K : Nat) (M : MS) (p0 : Int32) (p1 : Int32) : Option (Int32 × MS) := if p0 = p1 then (fX7_copyOwn N K M.2.2.2.2.2 (M.1 (ix 3 p0)) M.2.2.2.1 p0).map (fun z => (z.1, ((upm M.1 (ix 3 p0) z.2.2.1), M.2.1, M.2.2.1, z.2.2.2, M.2.2.2.2.1, z.2.1))) else (fX7_copy N K M.2.2.2.2.2 (M.1 (jx 3 p0 p1)) (M.1 (kx 3 p0 p1)) M.2.2.2.1 p0 p1).map (fun z => (z.1, ((upm M.1 (kx 3 p0 p1) z.2.2.1), M.2.1, M.2.2.1, z.2.2.2, M.2.2.2.2.1, z.2.1)))
set_option maxHeartbeats 4000000 in
set_option maxRecDepth 100000 in
theorem ogM_copy {N K : Nat} {rq : Nat → Nat} {M : MS} {p0 : Int32} {p1 : Int32} {x : Int32 × MS} (hE : gM_copy N K M p0 p1 = some x) : OkM yX7_copy (.code yX7_copy cX7_copy 4 (some .int)) (2) 0 0 [.ref (rq 0), .int p0, .int p1] (WM rq M) ((PN (U := Int32 × MS) (fun z _ => some (.int z.1)) (fun z _ => WM rq z.2)) x) := by
  unfold gM_copy at hE
  by_cases hpq : p0 = p1
  · subst hpq
    rw [if_pos rfl] at hE
    obtain ⟨x0, h0, h1⟩ := Option.map_eq_some_iff.mp hE
    subst h1
    clear hE
    rcases lt3 (ix_lt (n := 3) (p := p0) (by decide)) with e | e | e
    · rw [e] at h0
      try rw [e]
      refine ok_fr (wc := [(rq 0, .inr (9, [.ref (rq 1), .ref (rq 5), .ref (rq 9), .ref (rq 12), .ref (rq 13), .int M.2.2.2.2.2])), (rq 1, .inl (4, 3, .inr (.inr (.inr (.inr (rf3 rq 2 1 3)))))), (rq 2, .inl (0, 6144, .inl (M.1 0))), (rq 12, .inl (0, 6, .inl M.2.2.2.1))]) (wr := [(rq 3, .inl (0, 6144, .inl (M.1 1))), (rq 4, .inl (0, 6144, .inl (M.1 2))), (rq 5, .inl (4, 3, .inr (.inr (.inr (.inr (rf3 rq 6 1 3)))))), (rq 6, .inl (0, 21, .inl (M.2.1 0))), (rq 7, .inl (0, 21, .inl (M.2.1 1))), (rq 8, .inl (0, 21, .inl (M.2.1 2))), (rq 9, .inl (4, 2, .inr (.inr (.inr (.inr (rf3 rq 10 1 2)))))), (rq 10, .inl (0, 21, .inl (M.2.2.1 0))), (rq 11, .inl (0, 21, .inl (M.2.2.1 1))), (rq 13, .inl (0, 441, .inl M.2.2.2.2.1))]) [0, 1, 2, 12] [3, 4, 5, 6, 7, 8, 9, 10, 11, 13] (ok_X7_copyOwn (m := rq 0) (Mo := rq 1) (Lo := rq 5) (Do := rq 9) (tl := rq 12) (ca := rq 13) (q := rq 2) (mm := rf3 rq 2 1 3) (fun h9 => by have h8 := ix_in h9; rw [e] at h8; exact (congrArg (rf3 rq 2 1 3) h8.symm).trans rfl) h0) rfl rfl rfl rfl (by decide) ?_
      rintro o w hp
      obtain ⟨g, e1, e2⟩ := hp
      subst e1; subst e2
      exact ⟨_, [10, 11, 12, 0, 1, 2, 3, 4, 5, 6, 7, 8, 13, 9], PN.mk g rfl rfl, rfl, rfl⟩
    · rw [e] at h0
      try rw [e]
      refine ok_fr (wc := [(rq 0, .inr (9, [.ref (rq 1), .ref (rq 5), .ref (rq 9), .ref (rq 12), .ref (rq 13), .int M.2.2.2.2.2])), (rq 1, .inl (4, 3, .inr (.inr (.inr (.inr (rf3 rq 2 1 3)))))), (rq 3, .inl (0, 6144, .inl (M.1 1))), (rq 12, .inl (0, 6, .inl M.2.2.2.1))]) (wr := [(rq 2, .inl (0, 6144, .inl (M.1 0))), (rq 4, .inl (0, 6144, .inl (M.1 2))), (rq 5, .inl (4, 3, .inr (.inr (.inr (.inr (rf3 rq 6 1 3)))))), (rq 6, .inl (0, 21, .inl (M.2.1 0))), (rq 7, .inl (0, 21, .inl (M.2.1 1))), (rq 8, .inl (0, 21, .inl (M.2.1 2))), (rq 9, .inl (4, 2, .inr (.inr (.inr (.inr (rf3 rq 10 1 2)))))), (rq 10, .inl (0, 21, .inl (M.2.2.1 0))), (rq 11, .inl (0, 21, .inl (M.2.2.1 1))), (rq 13, .inl (0, 441, .inl M.2.2.2.2.1))]) [0, 1, 3, 12] [2, 4, 5, 6, 7, 8, 9, 10, 11, 13] (ok_X7_copyOwn (m := rq 0) (Mo := rq 1) (Lo := rq 5) (Do := rq 9) (tl := rq 12) (ca := rq 13) (q := rq 3) (mm := rf3 rq 2 1 3) (fun h9 => by have h8 := ix_in h9; rw [e] at h8; exact (congrArg (rf3 rq 2 1 3) h8.symm).trans rfl) h0) rfl rfl rfl rfl (by decide) ?_
      rintro o w hp
      obtain ⟨g, e1, e2⟩ := hp
      subst e1; subst e2
      exact ⟨_, [10, 11, 0, 12, 1, 2, 3, 4, 5, 6, 7, 8, 13, 9], PN.mk g rfl rfl, rfl, rfl⟩
    · rw [e] at h0
      try rw [e]
      refine ok_fr (wc := [(rq 0, .inr (9, [.ref (rq 1), .ref (rq 5), .ref (rq 9), .ref (rq 12), .ref (rq 13), .int M.2.2.2.2.2])), (rq 1, .inl (4, 3, .inr (.inr (.inr (.inr (rf3 rq 2 1 3)))))), (rq 4, .inl (0, 6144, .inl (M.1 2))), (rq 12, .inl (0, 6, .inl M.2.2.2.1))]) (wr := [(rq 2, .inl (0, 6144, .inl (M.1 0))), (rq 3, .inl (0, 6144, .inl (M.1 1))), (rq 5, .inl (4, 3, .inr (.inr (.inr (.inr (rf3 rq 6 1 3)))))), (rq 6, .inl (0, 21, .inl (M.2.1 0))), (rq 7, .inl (0, 21, .inl (M.2.1 1))), (rq 8, .inl (0, 21, .inl (M.2.1 2))), (rq 9, .inl (4, 2, .inr (.inr (.inr (.inr (rf3 rq 10 1 2)))))), (rq 10, .inl (0, 21, .inl (M.2.2.1 0))), (rq 11, .inl (0, 21, .inl (M.2.2.1 1))), (rq 13, .inl (0, 441, .inl M.2.2.2.2.1))]) [0, 1, 4, 12] [2, 3, 5, 6, 7, 8, 9, 10, 11, 13] (ok_X7_copyOwn (m := rq 0) (Mo := rq 1) (Lo := rq 5) (Do := rq 9) (tl := rq 12) (ca := rq 13) (q := rq 4) (mm := rf3 rq 2 1 3) (fun h9 => by have h8 := ix_in h9; rw [e] at h8; exact (congrArg (rf3 rq 2 1 3) h8.symm).trans rfl) h0) rfl rfl rfl rfl (by decide) ?_
      rintro o w hp
      obtain ⟨g, e1, e2⟩ := hp
      subst e1; subst e2
      exact ⟨_, [10, 11, 0, 1, 12, 2, 3, 4, 5, 6, 7, 8, 13, 9], PN.mk g rfl rfl, rfl, rfl⟩
  · rw [if_neg hpq] at hE
    obtain ⟨x0, h0, h1⟩ := Option.map_eq_some_iff.mp hE
    subst h1
    clear hE
    rcases jk3 hpq with ⟨e, f⟩ | ⟨e, f⟩ | ⟨e, f⟩ | ⟨e, f⟩ | ⟨e, f⟩ | ⟨e, f⟩
    · simp only [e, f] at h0 ⊢
      refine ok_fr (wc := [(rq 0, .inr (9, [.ref (rq 1), .ref (rq 5), .ref (rq 9), .ref (rq 12), .ref (rq 13), .int M.2.2.2.2.2])), (rq 1, .inl (4, 3, .inr (.inr (.inr (.inr (rf3 rq 2 1 3)))))), (rq 2, .inl (0, 6144, .inl (M.1 0))), (rq 3, .inl (0, 6144, .inl (M.1 1))), (rq 12, .inl (0, 6, .inl M.2.2.2.1))]) (wr := [(rq 4, .inl (0, 6144, .inl (M.1 2))), (rq 5, .inl (4, 3, .inr (.inr (.inr (.inr (rf3 rq 6 1 3)))))), (rq 6, .inl (0, 21, .inl (M.2.1 0))), (rq 7, .inl (0, 21, .inl (M.2.1 1))), (rq 8, .inl (0, 21, .inl (M.2.1 2))), (rq 9, .inl (4, 2, .inr (.inr (.inr (.inr (rf3 rq 10 1 2)))))), (rq 10, .inl (0, 21, .inl (M.2.2.1 0))), (rq 11, .inl (0, 21, .inl (M.2.2.1 1))), (rq 13, .inl (0, 441, .inl M.2.2.2.2.1))]) [0, 1, 2, 3, 12] [4, 5, 6, 7, 8, 9, 10, 11, 13] (ok_X7_copy (m := rq 0) (Mo := rq 1) (Lo := rq 5) (Do := rq 9) (tl := rq 12) (ca := rq 13) (q := rq 2) (q2 := rq 3) (mm := rf3 rq 2 1 3) (fun h9 => by have h8 := jx_in (q := p1) h9; rw [e] at h8; exact (congrArg (rf3 rq 2 1 3) h8.symm).trans rfl) (fun h9 => by have h8 := kx_in (p := p0) h9; rw [f] at h8; exact (congrArg (rf3 rq 2 1 3) h8.symm).trans rfl) h0) rfl rfl rfl rfl (by decide) ?_
      rintro o w hp
      obtain ⟨g, e1, e2⟩ := hp
      subst e1; subst e2
      exact ⟨_, [9, 10, 11, 12, 0, 1, 2, 3, 4, 5, 6, 7, 13, 8], PN.mk g rfl rfl, rfl, rfl⟩
    · simp only [e, f] at h0 ⊢
      refine ok_fr (wc := [(rq 0, .inr (9, [.ref (rq 1), .ref (rq 5), .ref (rq 9), .ref (rq 12), .ref (rq 13), .int M.2.2.2.2.2])), (rq 1, .inl (4, 3, .inr (.inr (.inr (.inr (rf3 rq 2 1 3)))))), (rq 2, .inl (0, 6144, .inl (M.1 0))), (rq 4, .inl (0, 6144, .inl (M.1 2))), (rq 12, .inl (0, 6, .inl M.2.2.2.1))]) (wr := [(rq 3, .inl (0, 6144, .inl (M.1 1))), (rq 5, .inl (4, 3, .inr (.inr (.inr (.inr (rf3 rq 6 1 3)))))), (rq 6, .inl (0, 21, .inl (M.2.1 0))), (rq 7, .inl (0, 21, .inl (M.2.1 1))), (rq 8, .inl (0, 21, .inl (M.2.1 2))), (rq 9, .inl (4, 2, .inr (.inr (.inr (.inr (rf3 rq 10 1 2)))))), (rq 10, .inl (0, 21, .inl (M.2.2.1 0))), (rq 11, .inl (0, 21, .inl (M.2.2.1 1))), (rq 13, .inl (0, 441, .inl M.2.2.2.2.1))]) [0, 1, 2, 4, 12] [3, 5, 6, 7, 8, 9, 10, 11, 13] (ok_X7_copy (m := rq 0) (Mo := rq 1) (Lo := rq 5) (Do := rq 9) (tl := rq 12) (ca := rq 13) (q := rq 2) (q2 := rq 4) (mm := rf3 rq 2 1 3) (fun h9 => by have h8 := jx_in (q := p1) h9; rw [e] at h8; exact (congrArg (rf3 rq 2 1 3) h8.symm).trans rfl) (fun h9 => by have h8 := kx_in (p := p0) h9; rw [f] at h8; exact (congrArg (rf3 rq 2 1 3) h8.symm).trans rfl) h0) rfl rfl rfl rfl (by decide) ?_
      rintro o w hp
      obtain ⟨g, e1, e2⟩ := hp
      subst e1; subst e2
      exact ⟨_, [9, 10, 11, 0, 12, 1, 2, 3, 4, 5, 6, 7, 13, 8], PN.mk g rfl rfl, rfl, rfl⟩
    · simp only [e, f] at h0 ⊢
      refine ok_fr (wc := [(rq 0, .inr (9, [.ref (rq 1), .ref (rq 5), .ref (rq 9), .ref (rq 12), .ref (rq 13), .int M.2.2.2.2.2])), (rq 1, .inl (4, 3, .inr (.inr (.inr (.inr (rf3 rq 2 1 3)))))), (rq 3, .inl (0, 6144, .inl (M.1 1))), (rq 2, .inl (0, 6144, .inl (M.1 0))), (rq 12, .inl (0, 6, .inl M.2.2.2.1))]) (wr := [(rq 4, .inl (0, 6144, .inl (M.1 2))), (rq 5, .inl (4, 3, .inr (.inr (.inr (.inr (rf3 rq 6 1 3)))))), (rq 6, .inl (0, 21, .inl (M.2.1 0))), (rq 7, .inl (0, 21, .inl (M.2.1 1))), (rq 8, .inl (0, 21, .inl (M.2.1 2))), (rq 9, .inl (4, 2, .inr (.inr (.inr (.inr (rf3 rq 10 1 2)))))), (rq 10, .inl (0, 21, .inl (M.2.2.1 0))), (rq 11, .inl (0, 21, .inl (M.2.2.1 1))), (rq 13, .inl (0, 441, .inl M.2.2.2.2.1))]) [0, 1, 3, 2, 12] [4, 5, 6, 7, 8, 9, 10, 11, 13] (ok_X7_copy (m := rq 0) (Mo := rq 1) (Lo := rq 5) (Do := rq 9) (tl := rq 12) (ca := rq 13) (q := rq 3) (q2 := rq 2) (mm := rf3 rq 2 1 3) (fun h9 => by have h8 := jx_in (q := p1) h9; rw [e] at h8; exact (congrArg (rf3 rq 2 1 3) h8.symm).trans rfl) (fun h9 => by have h8 := kx_in (p := p0) h9; rw [f] at h8; exact (congrArg (rf3 rq 2 1 3) h8.symm).trans rfl) h0) rfl rfl rfl rfl (by decide) ?_
      rintro o w hp
      obtain ⟨g, e1, e2⟩ := hp
      subst e1; subst e2
      exact ⟨_, [9, 10, 12, 11, 0, 1, 2, 3, 4, 5, 6, 7, 13, 8], PN.mk g rfl rfl, rfl, rfl⟩
    · simp only [e, f] at h0 ⊢
      refine ok_fr (wc := [(rq 0, .inr (9, [.ref (rq 1), .ref (rq 5), .ref (rq 9), .ref (rq 12), .ref (rq 13), .int M.2.2.2.2.2])), (rq 1, .inl (4, 3, .inr (.inr (.inr (.inr (rf3 rq 2 1 3)))))), (rq 3, .inl (0, 6144, .inl (M.1 1))), (rq 4, .inl (0, 6144, .inl (M.1 2))), (rq 12, .inl (0, 6, .inl M.2.2.2.1))]) (wr := [(rq 2, .inl (0, 6144, .inl (M.1 0))), (rq 5, .inl (4, 3, .inr (.inr (.inr (.inr (rf3 rq 6 1 3)))))), (rq 6, .inl (0, 21, .inl (M.2.1 0))), (rq 7, .inl (0, 21, .inl (M.2.1 1))), (rq 8, .inl (0, 21, .inl (M.2.1 2))), (rq 9, .inl (4, 2, .inr (.inr (.inr (.inr (rf3 rq 10 1 2)))))), (rq 10, .inl (0, 21, .inl (M.2.2.1 0))), (rq 11, .inl (0, 21, .inl (M.2.2.1 1))), (rq 13, .inl (0, 441, .inl M.2.2.2.2.1))]) [0, 1, 3, 4, 12] [2, 5, 6, 7, 8, 9, 10, 11, 13] (ok_X7_copy (m := rq 0) (Mo := rq 1) (Lo := rq 5) (Do := rq 9) (tl := rq 12) (ca := rq 13) (q := rq 3) (q2 := rq 4) (mm := rf3 rq 2 1 3) (fun h9 => by have h8 := jx_in (q := p1) h9; rw [e] at h8; exact (congrArg (rf3 rq 2 1 3) h8.symm).trans rfl) (fun h9 => by have h8 := kx_in (p := p0) h9; rw [f] at h8; exact (congrArg (rf3 rq 2 1 3) h8.symm).trans rfl) h0) rfl rfl rfl rfl (by decide) ?_
      rintro o w hp
      obtain ⟨g, e1, e2⟩ := hp
      subst e1; subst e2
      exact ⟨_, [9, 10, 0, 11, 12, 1, 2, 3, 4, 5, 6, 7, 13, 8], PN.mk g rfl rfl, rfl, rfl⟩
    · simp only [e, f] at h0 ⊢
      refine ok_fr (wc := [(rq 0, .inr (9, [.ref (rq 1), .ref (rq 5), .ref (rq 9), .ref (rq 12), .ref (rq 13), .int M.2.2.2.2.2])), (rq 1, .inl (4, 3, .inr (.inr (.inr (.inr (rf3 rq 2 1 3)))))), (rq 4, .inl (0, 6144, .inl (M.1 2))), (rq 2, .inl (0, 6144, .inl (M.1 0))), (rq 12, .inl (0, 6, .inl M.2.2.2.1))]) (wr := [(rq 3, .inl (0, 6144, .inl (M.1 1))), (rq 5, .inl (4, 3, .inr (.inr (.inr (.inr (rf3 rq 6 1 3)))))), (rq 6, .inl (0, 21, .inl (M.2.1 0))), (rq 7, .inl (0, 21, .inl (M.2.1 1))), (rq 8, .inl (0, 21, .inl (M.2.1 2))), (rq 9, .inl (4, 2, .inr (.inr (.inr (.inr (rf3 rq 10 1 2)))))), (rq 10, .inl (0, 21, .inl (M.2.2.1 0))), (rq 11, .inl (0, 21, .inl (M.2.2.1 1))), (rq 13, .inl (0, 441, .inl M.2.2.2.2.1))]) [0, 1, 4, 2, 12] [3, 5, 6, 7, 8, 9, 10, 11, 13] (ok_X7_copy (m := rq 0) (Mo := rq 1) (Lo := rq 5) (Do := rq 9) (tl := rq 12) (ca := rq 13) (q := rq 4) (q2 := rq 2) (mm := rf3 rq 2 1 3) (fun h9 => by have h8 := jx_in (q := p1) h9; rw [e] at h8; exact (congrArg (rf3 rq 2 1 3) h8.symm).trans rfl) (fun h9 => by have h8 := kx_in (p := p0) h9; rw [f] at h8; exact (congrArg (rf3 rq 2 1 3) h8.symm).trans rfl) h0) rfl rfl rfl rfl (by decide) ?_
      rintro o w hp
      obtain ⟨g, e1, e2⟩ := hp
      subst e1; subst e2
      exact ⟨_, [9, 10, 12, 0, 11, 1, 2, 3, 4, 5, 6, 7, 13, 8], PN.mk g rfl rfl, rfl, rfl⟩
    · simp only [e, f] at h0 ⊢
      refine ok_fr (wc := [(rq 0, .inr (9, [.ref (rq 1), .ref (rq 5), .ref (rq 9), .ref (rq 12), .ref (rq 13), .int M.2.2.2.2.2])), (rq 1, .inl (4, 3, .inr (.inr (.inr (.inr (rf3 rq 2 1 3)))))), (rq 4, .inl (0, 6144, .inl (M.1 2))), (rq 3, .inl (0, 6144, .inl (M.1 1))), (rq 12, .inl (0, 6, .inl M.2.2.2.1))]) (wr := [(rq 2, .inl (0, 6144, .inl (M.1 0))), (rq 5, .inl (4, 3, .inr (.inr (.inr (.inr (rf3 rq 6 1 3)))))), (rq 6, .inl (0, 21, .inl (M.2.1 0))), (rq 7, .inl (0, 21, .inl (M.2.1 1))), (rq 8, .inl (0, 21, .inl (M.2.1 2))), (rq 9, .inl (4, 2, .inr (.inr (.inr (.inr (rf3 rq 10 1 2)))))), (rq 10, .inl (0, 21, .inl (M.2.2.1 0))), (rq 11, .inl (0, 21, .inl (M.2.2.1 1))), (rq 13, .inl (0, 441, .inl M.2.2.2.2.1))]) [0, 1, 4, 3, 12] [2, 5, 6, 7, 8, 9, 10, 11, 13] (ok_X7_copy (m := rq 0) (Mo := rq 1) (Lo := rq 5) (Do := rq 9) (tl := rq 12) (ca := rq 13) (q := rq 4) (q2 := rq 3) (mm := rf3 rq 2 1 3) (fun h9 => by have h8 := jx_in (q := p1) h9; rw [e] at h8; exact (congrArg (rf3 rq 2 1 3) h8.symm).trans rfl) (fun h9 => by have h8 := kx_in (p := p0) h9; rw [f] at h8; exact (congrArg (rf3 rq 2 1 3) h8.symm).trans rfl) h0) rfl rfl rfl rfl (by decide) ?_
      rintro o w hp
      obtain ⟨g, e1, e2⟩ := hp
      subst e1; subst e2
      exact ⟨_, [9, 10, 0, 12, 11, 1, 2, 3, 4, 5, 6, 7, 13, 8], PN.mk g rfl rfl, rfl, rfl⟩
def gM_pour (N K : Nat) (M : MS) (p0 : Int32) (p1 : Int32) : Option (Int32 × MS) := if p0 = p1 then (fX7_pourOwn N K M.2.2.2.2.2 (M.1 (ix 3 p0)) M.2.2.2.1 p0).map (fun z => (z.1, (M.1, M.2.1, M.2.2.1, z.2.2, M.2.2.2.2.1, z.2.1))) else (fX7_pour N K M.2.2.2.2.2 (M.1 (jx 3 p0 p1)) (M.1 (kx 3 p0 p1)) M.2.2.2.1 p0 p1).map (fun z => (z.1, ((upm M.1 (kx 3 p0 p1) z.2.2.1), M.2.1, M.2.2.1, z.2.2.2, M.2.2.2.2.1, z.2.1)))
set_option maxHeartbeats 4000000 in
set_option maxRecDepth 100000 in
theorem ogM_pour {N K : Nat} {rq : Nat → Nat} {M : MS} {p0 : Int32} {p1 : Int32} {x : Int32 × MS} (hE : gM_pour N K M p0 p1 = some x) : OkM yX7_pour (.code yX7_pour cX7_pour 5 (some .int)) (2) 0 0 [.ref (rq 0), .int p0, .int p1] (WM rq M) ((PN (U := Int32 × MS) (fun z _ => some (.int z.1)) (fun z _ => WM rq z.2)) x) := by
  unfold gM_pour at hE
  by_cases hpq : p0 = p1
  · subst hpq
    rw [if_pos rfl] at hE
    obtain ⟨x0, h0, h1⟩ := Option.map_eq_some_iff.mp hE
    subst h1
    clear hE
    rcases lt3 (ix_lt (n := 3) (p := p0) (by decide)) with e | e | e
    · rw [e] at h0
      try rw [e]
      refine ok_fr (wc := [(rq 0, .inr (9, [.ref (rq 1), .ref (rq 5), .ref (rq 9), .ref (rq 12), .ref (rq 13), .int M.2.2.2.2.2])), (rq 1, .inl (4, 3, .inr (.inr (.inr (.inr (rf3 rq 2 1 3)))))), (rq 2, .inl (0, 6144, .inl (M.1 0))), (rq 12, .inl (0, 6, .inl M.2.2.2.1))]) (wr := [(rq 3, .inl (0, 6144, .inl (M.1 1))), (rq 4, .inl (0, 6144, .inl (M.1 2))), (rq 5, .inl (4, 3, .inr (.inr (.inr (.inr (rf3 rq 6 1 3)))))), (rq 6, .inl (0, 21, .inl (M.2.1 0))), (rq 7, .inl (0, 21, .inl (M.2.1 1))), (rq 8, .inl (0, 21, .inl (M.2.1 2))), (rq 9, .inl (4, 2, .inr (.inr (.inr (.inr (rf3 rq 10 1 2)))))), (rq 10, .inl (0, 21, .inl (M.2.2.1 0))), (rq 11, .inl (0, 21, .inl (M.2.2.1 1))), (rq 13, .inl (0, 441, .inl M.2.2.2.2.1))]) [0, 1, 2, 12] [3, 4, 5, 6, 7, 8, 9, 10, 11, 13] (ok_X7_pourOwn (m := rq 0) (Mo := rq 1) (Lo := rq 5) (Do := rq 9) (tl := rq 12) (ca := rq 13) (q := rq 2) (mm := rf3 rq 2 1 3) (fun h9 => by have h8 := ix_in h9; rw [e] at h8; exact (congrArg (rf3 rq 2 1 3) h8.symm).trans rfl) h0) rfl rfl rfl rfl (by decide) ?_
      rintro o w hp
      obtain ⟨g, e1, e2⟩ := hp
      subst e1; subst e2
      exact ⟨_, [10, 11, 12, 0, 1, 2, 3, 4, 5, 6, 7, 8, 13, 9], PN.mk g rfl rfl, rfl, rfl⟩
    · rw [e] at h0
      try rw [e]
      refine ok_fr (wc := [(rq 0, .inr (9, [.ref (rq 1), .ref (rq 5), .ref (rq 9), .ref (rq 12), .ref (rq 13), .int M.2.2.2.2.2])), (rq 1, .inl (4, 3, .inr (.inr (.inr (.inr (rf3 rq 2 1 3)))))), (rq 3, .inl (0, 6144, .inl (M.1 1))), (rq 12, .inl (0, 6, .inl M.2.2.2.1))]) (wr := [(rq 2, .inl (0, 6144, .inl (M.1 0))), (rq 4, .inl (0, 6144, .inl (M.1 2))), (rq 5, .inl (4, 3, .inr (.inr (.inr (.inr (rf3 rq 6 1 3)))))), (rq 6, .inl (0, 21, .inl (M.2.1 0))), (rq 7, .inl (0, 21, .inl (M.2.1 1))), (rq 8, .inl (0, 21, .inl (M.2.1 2))), (rq 9, .inl (4, 2, .inr (.inr (.inr (.inr (rf3 rq 10 1 2)))))), (rq 10, .inl (0, 21, .inl (M.2.2.1 0))), (rq 11, .inl (0, 21, .inl (M.2.2.1 1))), (rq 13, .inl (0, 441, .inl M.2.2.2.2.1))]) [0, 1, 3, 12] [2, 4, 5, 6, 7, 8, 9, 10, 11, 13] (ok_X7_pourOwn (m := rq 0) (Mo := rq 1) (Lo := rq 5) (Do := rq 9) (tl := rq 12) (ca := rq 13) (q := rq 3) (mm := rf3 rq 2 1 3) (fun h9 => by have h8 := ix_in h9; rw [e] at h8; exact (congrArg (rf3 rq 2 1 3) h8.symm).trans rfl) h0) rfl rfl rfl rfl (by decide) ?_
      rintro o w hp
      obtain ⟨g, e1, e2⟩ := hp
      subst e1; subst e2
      exact ⟨_, [10, 11, 0, 12, 1, 2, 3, 4, 5, 6, 7, 8, 13, 9], PN.mk g rfl rfl, rfl, rfl⟩
    · rw [e] at h0
      try rw [e]
      refine ok_fr (wc := [(rq 0, .inr (9, [.ref (rq 1), .ref (rq 5), .ref (rq 9), .ref (rq 12), .ref (rq 13), .int M.2.2.2.2.2])), (rq 1, .inl (4, 3, .inr (.inr (.inr (.inr (rf3 rq 2 1 3)))))), (rq 4, .inl (0, 6144, .inl (M.1 2))), (rq 12, .inl (0, 6, .inl M.2.2.2.1))]) (wr := [(rq 2, .inl (0, 6144, .inl (M.1 0))), (rq 3, .inl (0, 6144, .inl (M.1 1))), (rq 5, .inl (4, 3, .inr (.inr (.inr (.inr (rf3 rq 6 1 3)))))), (rq 6, .inl (0, 21, .inl (M.2.1 0))), (rq 7, .inl (0, 21, .inl (M.2.1 1))), (rq 8, .inl (0, 21, .inl (M.2.1 2))), (rq 9, .inl (4, 2, .inr (.inr (.inr (.inr (rf3 rq 10 1 2)))))), (rq 10, .inl (0, 21, .inl (M.2.2.1 0))), (rq 11, .inl (0, 21, .inl (M.2.2.1 1))), (rq 13, .inl (0, 441, .inl M.2.2.2.2.1))]) [0, 1, 4, 12] [2, 3, 5, 6, 7, 8, 9, 10, 11, 13] (ok_X7_pourOwn (m := rq 0) (Mo := rq 1) (Lo := rq 5) (Do := rq 9) (tl := rq 12) (ca := rq 13) (q := rq 4) (mm := rf3 rq 2 1 3) (fun h9 => by have h8 := ix_in h9; rw [e] at h8; exact (congrArg (rf3 rq 2 1 3) h8.symm).trans rfl) h0) rfl rfl rfl rfl (by decide) ?_
      rintro o w hp
      obtain ⟨g, e1, e2⟩ := hp
      subst e1; subst e2
      exact ⟨_, [10, 11, 0, 1, 12, 2, 3, 4, 5, 6, 7, 8, 13, 9], PN.mk g rfl rfl, rfl, rfl⟩
  · rw [if_neg hpq] at hE
    obtain ⟨x0, h0, h1⟩ := Option.map_eq_some_iff.mp hE
    subst h1
    clear hE
    rcases jk3 hpq with ⟨e, f⟩ | ⟨e, f⟩ | ⟨e, f⟩ | ⟨e, f⟩ | ⟨e, f⟩ | ⟨e, f⟩
    · simp only [e, f] at h0 ⊢
      refine ok_fr (wc := [(rq 0, .inr (9, [.ref (rq 1), .ref (rq 5), .ref (rq 9), .ref (rq 12), .ref (rq 13), .int M.2.2.2.2.2])), (rq 1, .inl (4, 3, .inr (.inr (.inr (.inr (rf3 rq 2 1 3)))))), (rq 2, .inl (0, 6144, .inl (M.1 0))), (rq 3, .inl (0, 6144, .inl (M.1 1))), (rq 12, .inl (0, 6, .inl M.2.2.2.1))]) (wr := [(rq 4, .inl (0, 6144, .inl (M.1 2))), (rq 5, .inl (4, 3, .inr (.inr (.inr (.inr (rf3 rq 6 1 3)))))), (rq 6, .inl (0, 21, .inl (M.2.1 0))), (rq 7, .inl (0, 21, .inl (M.2.1 1))), (rq 8, .inl (0, 21, .inl (M.2.1 2))), (rq 9, .inl (4, 2, .inr (.inr (.inr (.inr (rf3 rq 10 1 2)))))), (rq 10, .inl (0, 21, .inl (M.2.2.1 0))), (rq 11, .inl (0, 21, .inl (M.2.2.1 1))), (rq 13, .inl (0, 441, .inl M.2.2.2.2.1))]) [0, 1, 2, 3, 12] [4, 5, 6, 7, 8, 9, 10, 11, 13] (ok_X7_pour (m := rq 0) (Mo := rq 1) (Lo := rq 5) (Do := rq 9) (tl := rq 12) (ca := rq 13) (q := rq 2) (q2 := rq 3) (mm := rf3 rq 2 1 3) (fun h9 => by have h8 := jx_in (q := p1) h9; rw [e] at h8; exact (congrArg (rf3 rq 2 1 3) h8.symm).trans rfl) (fun h9 => by have h8 := kx_in (p := p0) h9; rw [f] at h8; exact (congrArg (rf3 rq 2 1 3) h8.symm).trans rfl) h0) rfl rfl rfl rfl (by decide) ?_
      rintro o w hp
      obtain ⟨g, e1, e2⟩ := hp
      subst e1; subst e2
      exact ⟨_, [9, 10, 11, 12, 0, 1, 2, 3, 4, 5, 6, 7, 13, 8], PN.mk g rfl rfl, rfl, rfl⟩
    · simp only [e, f] at h0 ⊢
      refine ok_fr (wc := [(rq 0, .inr (9, [.ref (rq 1), .ref (rq 5), .ref (rq 9), .ref (rq 12), .ref (rq 13), .int M.2.2.2.2.2])), (rq 1, .inl (4, 3, .inr (.inr (.inr (.inr (rf3 rq 2 1 3)))))), (rq 2, .inl (0, 6144, .inl (M.1 0))), (rq 4, .inl (0, 6144, .inl (M.1 2))), (rq 12, .inl (0, 6, .inl M.2.2.2.1))]) (wr := [(rq 3, .inl (0, 6144, .inl (M.1 1))), (rq 5, .inl (4, 3, .inr (.inr (.inr (.inr (rf3 rq 6 1 3)))))), (rq 6, .inl (0, 21, .inl (M.2.1 0))), (rq 7, .inl (0, 21, .inl (M.2.1 1))), (rq 8, .inl (0, 21, .inl (M.2.1 2))), (rq 9, .inl (4, 2, .inr (.inr (.inr (.inr (rf3 rq 10 1 2)))))), (rq 10, .inl (0, 21, .inl (M.2.2.1 0))), (rq 11, .inl (0, 21, .inl (M.2.2.1 1))), (rq 13, .inl (0, 441, .inl M.2.2.2.2.1))]) [0, 1, 2, 4, 12] [3, 5, 6, 7, 8, 9, 10, 11, 13] (ok_X7_pour (m := rq 0) (Mo := rq 1) (Lo := rq 5) (Do := rq 9) (tl := rq 12) (ca := rq 13) (q := rq 2) (q2 := rq 4) (mm := rf3 rq 2 1 3) (fun h9 => by have h8 := jx_in (q := p1) h9; rw [e] at h8; exact (congrArg (rf3 rq 2 1 3) h8.symm).trans rfl) (fun h9 => by have h8 := kx_in (p := p0) h9; rw [f] at h8; exact (congrArg (rf3 rq 2 1 3) h8.symm).trans rfl) h0) rfl rfl rfl rfl (by decide) ?_
      rintro o w hp
      obtain ⟨g, e1, e2⟩ := hp
      subst e1; subst e2
      exact ⟨_, [9, 10, 11, 0, 12, 1, 2, 3, 4, 5, 6, 7, 13, 8], PN.mk g rfl rfl, rfl, rfl⟩
    · simp only [e, f] at h0 ⊢
      refine ok_fr (wc := [(rq 0, .inr (9, [.ref (rq 1), .ref (rq 5), .ref (rq 9), .ref (rq 12), .ref (rq 13), .int M.2.2.2.2.2])), (rq 1, .inl (4, 3, .inr (.inr (.inr (.inr (rf3 rq 2 1 3)))))), (rq 3, .inl (0, 6144, .inl (M.1 1))), (rq 2, .inl (0, 6144, .inl (M.1 0))), (rq 12, .inl (0, 6, .inl M.2.2.2.1))]) (wr := [(rq 4, .inl (0, 6144, .inl (M.1 2))), (rq 5, .inl (4, 3, .inr (.inr (.inr (.inr (rf3 rq 6 1 3)))))), (rq 6, .inl (0, 21, .inl (M.2.1 0))), (rq 7, .inl (0, 21, .inl (M.2.1 1))), (rq 8, .inl (0, 21, .inl (M.2.1 2))), (rq 9, .inl (4, 2, .inr (.inr (.inr (.inr (rf3 rq 10 1 2)))))), (rq 10, .inl (0, 21, .inl (M.2.2.1 0))), (rq 11, .inl (0, 21, .inl (M.2.2.1 1))), (rq 13, .inl (0, 441, .inl M.2.2.2.2.1))]) [0, 1, 3, 2, 12] [4, 5, 6, 7, 8, 9, 10, 11, 13] (ok_X7_pour (m := rq 0) (Mo := rq 1) (Lo := rq 5) (Do := rq 9) (tl := rq 12) (ca := rq 13) (q := rq 3) (q2 := rq 2) (mm := rf3 rq 2 1 3) (fun h9 => by have h8 := jx_in (q := p1) h9; rw [e] at h8; exact (congrArg (rf3 rq 2 1 3) h8.symm).trans rfl) (fun h9 => by have h8 := kx_in (p := p0) h9; rw [f] at h8; exact (congrArg (rf3 rq 2 1 3) h8.symm).trans rfl) h0) rfl rfl rfl rfl (by decide) ?_
      rintro o w hp
      obtain ⟨g, e1, e2⟩ := hp
      subst e1; subst e2
      exact ⟨_, [9, 10, 12, 11, 0, 1, 2, 3, 4, 5, 6, 7, 13, 8], PN.mk g rfl rfl, rfl, rfl⟩
    · simp only [e, f] at h0 ⊢
      refine ok_fr (wc := [(rq 0, .inr (9, [.ref (rq 1), .ref (rq 5), .ref (rq 9), .ref (rq 12), .ref (rq 13), .int M.2.2.2.2.2])), (rq 1, .inl (4, 3, .inr (.inr (.inr (.inr (rf3 rq 2 1 3)))))), (rq 3, .inl (0, 6144, .inl (M.1 1))), (rq 4, .inl (0, 6144, .inl (M.1 2))), (rq 12, .inl (0, 6, .inl M.2.2.2.1))]) (wr := [(rq 2, .inl (0, 6144, .inl (M.1 0))), (rq 5, .inl (4, 3, .inr (.inr (.inr (.inr (rf3 rq 6 1 3)))))), (rq 6, .inl (0, 21, .inl (M.2.1 0))), (rq 7, .inl (0, 21, .inl (M.2.1 1))), (rq 8, .inl (0, 21, .inl (M.2.1 2))), (rq 9, .inl (4, 2, .inr (.inr (.inr (.inr (rf3 rq 10 1 2)))))), (rq 10, .inl (0, 21, .inl (M.2.2.1 0))), (rq 11, .inl (0, 21, .inl (M.2.2.1 1))), (rq 13, .inl (0, 441, .inl M.2.2.2.2.1))]) [0, 1, 3, 4, 12] [2, 5, 6, 7, 8, 9, 10, 11, 13] (ok_X7_pour (m := rq 0) (Mo := rq 1) (Lo := rq 5) (Do := rq 9) (tl := rq 12) (ca := rq 13) (q := rq 3) (q2 := rq 4) (mm := rf3 rq 2 1 3) (fun h9 => by have h8 := jx_in (q := p1) h9; rw [e] at h8; exact (congrArg (rf3 rq 2 1 3) h8.symm).trans rfl) (fun h9 => by have h8 := kx_in (p := p0) h9; rw [f] at h8; exact (congrArg (rf3 rq 2 1 3) h8.symm).trans rfl) h0) rfl rfl rfl rfl (by decide) ?_
      rintro o w hp
      obtain ⟨g, e1, e2⟩ := hp
      subst e1; subst e2
      exact ⟨_, [9, 10, 0, 11, 12, 1, 2, 3, 4, 5, 6, 7, 13, 8], PN.mk g rfl rfl, rfl, rfl⟩
    · simp only [e, f] at h0 ⊢
      refine ok_fr (wc := [(rq 0, .inr (9, [.ref (rq 1), .ref (rq 5), .ref (rq 9), .ref (rq 12), .ref (rq 13), .int M.2.2.2.2.2])), (rq 1, .inl (4, 3, .inr (.inr (.inr (.inr (rf3 rq 2 1 3)))))), (rq 4, .inl (0, 6144, .inl (M.1 2))), (rq 2, .inl (0, 6144, .inl (M.1 0))), (rq 12, .inl (0, 6, .inl M.2.2.2.1))]) (wr := [(rq 3, .inl (0, 6144, .inl (M.1 1))), (rq 5, .inl (4, 3, .inr (.inr (.inr (.inr (rf3 rq 6 1 3)))))), (rq 6, .inl (0, 21, .inl (M.2.1 0))), (rq 7, .inl (0, 21, .inl (M.2.1 1))), (rq 8, .inl (0, 21, .inl (M.2.1 2))), (rq 9, .inl (4, 2, .inr (.inr (.inr (.inr (rf3 rq 10 1 2)))))), (rq 10, .inl (0, 21, .inl (M.2.2.1 0))), (rq 11, .inl (0, 21, .inl (M.2.2.1 1))), (rq 13, .inl (0, 441, .inl M.2.2.2.2.1))]) [0, 1, 4, 2, 12] [3, 5, 6, 7, 8, 9, 10, 11, 13] (ok_X7_pour (m := rq 0) (Mo := rq 1) (Lo := rq 5) (Do := rq 9) (tl := rq 12) (ca := rq 13) (q := rq 4) (q2 := rq 2) (mm := rf3 rq 2 1 3) (fun h9 => by have h8 := jx_in (q := p1) h9; rw [e] at h8; exact (congrArg (rf3 rq 2 1 3) h8.symm).trans rfl) (fun h9 => by have h8 := kx_in (p := p0) h9; rw [f] at h8; exact (congrArg (rf3 rq 2 1 3) h8.symm).trans rfl) h0) rfl rfl rfl rfl (by decide) ?_
      rintro o w hp
      obtain ⟨g, e1, e2⟩ := hp
      subst e1; subst e2
      exact ⟨_, [9, 10, 12, 0, 11, 1, 2, 3, 4, 5, 6, 7, 13, 8], PN.mk g rfl rfl, rfl, rfl⟩
    · simp only [e, f] at h0 ⊢
      refine ok_fr (wc := [(rq 0, .inr (9, [.ref (rq 1), .ref (rq 5), .ref (rq 9), .ref (rq 12), .ref (rq 13), .int M.2.2.2.2.2])), (rq 1, .inl (4, 3, .inr (.inr (.inr (.inr (rf3 rq 2 1 3)))))), (rq 4, .inl (0, 6144, .inl (M.1 2))), (rq 3, .inl (0, 6144, .inl (M.1 1))), (rq 12, .inl (0, 6, .inl M.2.2.2.1))]) (wr := [(rq 2, .inl (0, 6144, .inl (M.1 0))), (rq 5, .inl (4, 3, .inr (.inr (.inr (.inr (rf3 rq 6 1 3)))))), (rq 6, .inl (0, 21, .inl (M.2.1 0))), (rq 7, .inl (0, 21, .inl (M.2.1 1))), (rq 8, .inl (0, 21, .inl (M.2.1 2))), (rq 9, .inl (4, 2, .inr (.inr (.inr (.inr (rf3 rq 10 1 2)))))), (rq 10, .inl (0, 21, .inl (M.2.2.1 0))), (rq 11, .inl (0, 21, .inl (M.2.2.1 1))), (rq 13, .inl (0, 441, .inl M.2.2.2.2.1))]) [0, 1, 4, 3, 12] [2, 5, 6, 7, 8, 9, 10, 11, 13] (ok_X7_pour (m := rq 0) (Mo := rq 1) (Lo := rq 5) (Do := rq 9) (tl := rq 12) (ca := rq 13) (q := rq 4) (q2 := rq 3) (mm := rf3 rq 2 1 3) (fun h9 => by have h8 := jx_in (q := p1) h9; rw [e] at h8; exact (congrArg (rf3 rq 2 1 3) h8.symm).trans rfl) (fun h9 => by have h8 := kx_in (p := p0) h9; rw [f] at h8; exact (congrArg (rf3 rq 2 1 3) h8.symm).trans rfl) h0) rfl rfl rfl rfl (by decide) ?_
      rintro o w hp
      obtain ⟨g, e1, e2⟩ := hp
      subst e1; subst e2
      exact ⟨_, [9, 10, 0, 12, 11, 1, 2, 3, 4, 5, 6, 7, 13, 8], PN.mk g rfl rfl, rfl, rfl⟩
def gM_isKept (N K : Nat) (M : MS) (p0 : Int32) (p1 : Int32) (p2 : Int32) (p3 : Int32) (p4 : Int32) : Option (Int32 × MS) := (fX7_isKept N K M.2.2.2.2.2 (M.1 (ix 3 p0)) p0 p1 p2 p3 p4).map (fun z => (z.1, (M.1, M.2.1, M.2.2.1, M.2.2.2.1, M.2.2.2.2.1, z.2)))
set_option maxHeartbeats 4000000 in
set_option maxRecDepth 100000 in
theorem ogM_isKept {N K : Nat} {rq : Nat → Nat} {M : MS} {p0 : Int32} {p1 : Int32} {p2 : Int32} {p3 : Int32} {p4 : Int32} {x : Int32 × MS} (hE : gM_isKept N K M p0 p1 p2 p3 p4 = some x) : OkM yX7_isKept (.code yX7_isKept cX7_isKept 6 (some .boolean)) (2) 0 0 [.ref (rq 0), .int p0, .int p1, .int p2, .int p3, .int p4] (WM rq M) ((PN (U := Int32 × MS) (fun z _ => some (.int z.1)) (fun z _ => WM rq z.2)) x) := by
  unfold gM_isKept at hE
  obtain ⟨x0, h0, h1⟩ := Option.map_eq_some_iff.mp hE
  subst h1
  clear hE
  rcases lt3 (ix_lt (n := 3) (p := p0) (by decide)) with e | e | e
  · rw [e] at h0
    try rw [e]
    refine ok_fr (wc := [(rq 0, .inr (9, [.ref (rq 1), .ref (rq 5), .ref (rq 9), .ref (rq 12), .ref (rq 13), .int M.2.2.2.2.2])), (rq 1, .inl (4, 3, .inr (.inr (.inr (.inr (rf3 rq 2 1 3)))))), (rq 2, .inl (0, 6144, .inl (M.1 0)))]) (wr := [(rq 3, .inl (0, 6144, .inl (M.1 1))), (rq 4, .inl (0, 6144, .inl (M.1 2))), (rq 5, .inl (4, 3, .inr (.inr (.inr (.inr (rf3 rq 6 1 3)))))), (rq 6, .inl (0, 21, .inl (M.2.1 0))), (rq 7, .inl (0, 21, .inl (M.2.1 1))), (rq 8, .inl (0, 21, .inl (M.2.1 2))), (rq 9, .inl (4, 2, .inr (.inr (.inr (.inr (rf3 rq 10 1 2)))))), (rq 10, .inl (0, 21, .inl (M.2.2.1 0))), (rq 11, .inl (0, 21, .inl (M.2.2.1 1))), (rq 12, .inl (0, 6, .inl M.2.2.2.1)), (rq 13, .inl (0, 441, .inl M.2.2.2.2.1))]) [0, 1, 2] [3, 4, 5, 6, 7, 8, 9, 10, 11, 12, 13] (ok_X7_isKept (m := rq 0) (Mo := rq 1) (Lo := rq 5) (Do := rq 9) (tl := rq 12) (ca := rq 13) (q := rq 2) (mm := rf3 rq 2 1 3) (fun h9 => by have h8 := ix_in h9; rw [e] at h8; exact (congrArg (rf3 rq 2 1 3) h8.symm).trans rfl) h0) rfl rfl rfl rfl (by decide) ?_
    rintro o w hp
    obtain ⟨g, e1, e2⟩ := hp
    subst e1; subst e2
    exact ⟨_, [11, 12, 13, 0, 1, 2, 3, 4, 5, 6, 7, 8, 9, 10], PN.mk g rfl rfl, rfl, rfl⟩
  · rw [e] at h0
    try rw [e]
    refine ok_fr (wc := [(rq 0, .inr (9, [.ref (rq 1), .ref (rq 5), .ref (rq 9), .ref (rq 12), .ref (rq 13), .int M.2.2.2.2.2])), (rq 1, .inl (4, 3, .inr (.inr (.inr (.inr (rf3 rq 2 1 3)))))), (rq 3, .inl (0, 6144, .inl (M.1 1)))]) (wr := [(rq 2, .inl (0, 6144, .inl (M.1 0))), (rq 4, .inl (0, 6144, .inl (M.1 2))), (rq 5, .inl (4, 3, .inr (.inr (.inr (.inr (rf3 rq 6 1 3)))))), (rq 6, .inl (0, 21, .inl (M.2.1 0))), (rq 7, .inl (0, 21, .inl (M.2.1 1))), (rq 8, .inl (0, 21, .inl (M.2.1 2))), (rq 9, .inl (4, 2, .inr (.inr (.inr (.inr (rf3 rq 10 1 2)))))), (rq 10, .inl (0, 21, .inl (M.2.2.1 0))), (rq 11, .inl (0, 21, .inl (M.2.2.1 1))), (rq 12, .inl (0, 6, .inl M.2.2.2.1)), (rq 13, .inl (0, 441, .inl M.2.2.2.2.1))]) [0, 1, 3] [2, 4, 5, 6, 7, 8, 9, 10, 11, 12, 13] (ok_X7_isKept (m := rq 0) (Mo := rq 1) (Lo := rq 5) (Do := rq 9) (tl := rq 12) (ca := rq 13) (q := rq 3) (mm := rf3 rq 2 1 3) (fun h9 => by have h8 := ix_in h9; rw [e] at h8; exact (congrArg (rf3 rq 2 1 3) h8.symm).trans rfl) h0) rfl rfl rfl rfl (by decide) ?_
    rintro o w hp
    obtain ⟨g, e1, e2⟩ := hp
    subst e1; subst e2
    exact ⟨_, [11, 12, 0, 13, 1, 2, 3, 4, 5, 6, 7, 8, 9, 10], PN.mk g rfl rfl, rfl, rfl⟩
  · rw [e] at h0
    try rw [e]
    refine ok_fr (wc := [(rq 0, .inr (9, [.ref (rq 1), .ref (rq 5), .ref (rq 9), .ref (rq 12), .ref (rq 13), .int M.2.2.2.2.2])), (rq 1, .inl (4, 3, .inr (.inr (.inr (.inr (rf3 rq 2 1 3)))))), (rq 4, .inl (0, 6144, .inl (M.1 2)))]) (wr := [(rq 2, .inl (0, 6144, .inl (M.1 0))), (rq 3, .inl (0, 6144, .inl (M.1 1))), (rq 5, .inl (4, 3, .inr (.inr (.inr (.inr (rf3 rq 6 1 3)))))), (rq 6, .inl (0, 21, .inl (M.2.1 0))), (rq 7, .inl (0, 21, .inl (M.2.1 1))), (rq 8, .inl (0, 21, .inl (M.2.1 2))), (rq 9, .inl (4, 2, .inr (.inr (.inr (.inr (rf3 rq 10 1 2)))))), (rq 10, .inl (0, 21, .inl (M.2.2.1 0))), (rq 11, .inl (0, 21, .inl (M.2.2.1 1))), (rq 12, .inl (0, 6, .inl M.2.2.2.1)), (rq 13, .inl (0, 441, .inl M.2.2.2.2.1))]) [0, 1, 4] [2, 3, 5, 6, 7, 8, 9, 10, 11, 12, 13] (ok_X7_isKept (m := rq 0) (Mo := rq 1) (Lo := rq 5) (Do := rq 9) (tl := rq 12) (ca := rq 13) (q := rq 4) (mm := rf3 rq 2 1 3) (fun h9 => by have h8 := ix_in h9; rw [e] at h8; exact (congrArg (rf3 rq 2 1 3) h8.symm).trans rfl) h0) rfl rfl rfl rfl (by decide) ?_
    rintro o w hp
    obtain ⟨g, e1, e2⟩ := hp
    subst e1; subst e2
    exact ⟨_, [11, 12, 0, 1, 13, 2, 3, 4, 5, 6, 7, 8, 9, 10], PN.mk g rfl rfl, rfl, rfl⟩
def gM_worthOr (N K : Nat) (M : MS) (p0 : Int32) (p1 : Int32) (p2 : Int32) (p3 : Int32) (p4 : Int32) : Option (Int32 × MS) := (fX7_worthOr N K M.2.2.2.2.2 (M.1 (ix 3 p0)) p0 p1 p2 p3 p4).map (fun z => (z.1, (M.1, M.2.1, M.2.2.1, M.2.2.2.1, M.2.2.2.2.1, z.2)))
set_option maxHeartbeats 4000000 in
set_option maxRecDepth 100000 in
theorem ogM_worthOr {N K : Nat} {rq : Nat → Nat} {M : MS} {p0 : Int32} {p1 : Int32} {p2 : Int32} {p3 : Int32} {p4 : Int32} {x : Int32 × MS} (hE : gM_worthOr N K M p0 p1 p2 p3 p4 = some x) : OkM yX7_worthOr (.code yX7_worthOr cX7_worthOr 7 (some .int)) (2) 0 0 [.ref (rq 0), .int p0, .int p1, .int p2, .int p3, .int p4] (WM rq M) ((PN (U := Int32 × MS) (fun z _ => some (.int z.1)) (fun z _ => WM rq z.2)) x) := by
  unfold gM_worthOr at hE
  obtain ⟨x0, h0, h1⟩ := Option.map_eq_some_iff.mp hE
  subst h1
  clear hE
  rcases lt3 (ix_lt (n := 3) (p := p0) (by decide)) with e | e | e
  · rw [e] at h0
    try rw [e]
    refine ok_fr (wc := [(rq 0, .inr (9, [.ref (rq 1), .ref (rq 5), .ref (rq 9), .ref (rq 12), .ref (rq 13), .int M.2.2.2.2.2])), (rq 1, .inl (4, 3, .inr (.inr (.inr (.inr (rf3 rq 2 1 3)))))), (rq 2, .inl (0, 6144, .inl (M.1 0)))]) (wr := [(rq 3, .inl (0, 6144, .inl (M.1 1))), (rq 4, .inl (0, 6144, .inl (M.1 2))), (rq 5, .inl (4, 3, .inr (.inr (.inr (.inr (rf3 rq 6 1 3)))))), (rq 6, .inl (0, 21, .inl (M.2.1 0))), (rq 7, .inl (0, 21, .inl (M.2.1 1))), (rq 8, .inl (0, 21, .inl (M.2.1 2))), (rq 9, .inl (4, 2, .inr (.inr (.inr (.inr (rf3 rq 10 1 2)))))), (rq 10, .inl (0, 21, .inl (M.2.2.1 0))), (rq 11, .inl (0, 21, .inl (M.2.2.1 1))), (rq 12, .inl (0, 6, .inl M.2.2.2.1)), (rq 13, .inl (0, 441, .inl M.2.2.2.2.1))]) [0, 1, 2] [3, 4, 5, 6, 7, 8, 9, 10, 11, 12, 13] (ok_X7_worthOr (m := rq 0) (Mo := rq 1) (Lo := rq 5) (Do := rq 9) (tl := rq 12) (ca := rq 13) (q := rq 2) (mm := rf3 rq 2 1 3) (fun h9 => by have h8 := ix_in h9; rw [e] at h8; exact (congrArg (rf3 rq 2 1 3) h8.symm).trans rfl) h0) rfl rfl rfl rfl (by decide) ?_
    rintro o w hp
    obtain ⟨g, e1, e2⟩ := hp
    subst e1; subst e2
    exact ⟨_, [11, 12, 13, 0, 1, 2, 3, 4, 5, 6, 7, 8, 9, 10], PN.mk g rfl rfl, rfl, rfl⟩
  · rw [e] at h0
    try rw [e]
    refine ok_fr (wc := [(rq 0, .inr (9, [.ref (rq 1), .ref (rq 5), .ref (rq 9), .ref (rq 12), .ref (rq 13), .int M.2.2.2.2.2])), (rq 1, .inl (4, 3, .inr (.inr (.inr (.inr (rf3 rq 2 1 3)))))), (rq 3, .inl (0, 6144, .inl (M.1 1)))]) (wr := [(rq 2, .inl (0, 6144, .inl (M.1 0))), (rq 4, .inl (0, 6144, .inl (M.1 2))), (rq 5, .inl (4, 3, .inr (.inr (.inr (.inr (rf3 rq 6 1 3)))))), (rq 6, .inl (0, 21, .inl (M.2.1 0))), (rq 7, .inl (0, 21, .inl (M.2.1 1))), (rq 8, .inl (0, 21, .inl (M.2.1 2))), (rq 9, .inl (4, 2, .inr (.inr (.inr (.inr (rf3 rq 10 1 2)))))), (rq 10, .inl (0, 21, .inl (M.2.2.1 0))), (rq 11, .inl (0, 21, .inl (M.2.2.1 1))), (rq 12, .inl (0, 6, .inl M.2.2.2.1)), (rq 13, .inl (0, 441, .inl M.2.2.2.2.1))]) [0, 1, 3] [2, 4, 5, 6, 7, 8, 9, 10, 11, 12, 13] (ok_X7_worthOr (m := rq 0) (Mo := rq 1) (Lo := rq 5) (Do := rq 9) (tl := rq 12) (ca := rq 13) (q := rq 3) (mm := rf3 rq 2 1 3) (fun h9 => by have h8 := ix_in h9; rw [e] at h8; exact (congrArg (rf3 rq 2 1 3) h8.symm).trans rfl) h0) rfl rfl rfl rfl (by decide) ?_
    rintro o w hp
    obtain ⟨g, e1, e2⟩ := hp
    subst e1; subst e2
    exact ⟨_, [11, 12, 0, 13, 1, 2, 3, 4, 5, 6, 7, 8, 9, 10], PN.mk g rfl rfl, rfl, rfl⟩
  · rw [e] at h0
    try rw [e]
    refine ok_fr (wc := [(rq 0, .inr (9, [.ref (rq 1), .ref (rq 5), .ref (rq 9), .ref (rq 12), .ref (rq 13), .int M.2.2.2.2.2])), (rq 1, .inl (4, 3, .inr (.inr (.inr (.inr (rf3 rq 2 1 3)))))), (rq 4, .inl (0, 6144, .inl (M.1 2)))]) (wr := [(rq 2, .inl (0, 6144, .inl (M.1 0))), (rq 3, .inl (0, 6144, .inl (M.1 1))), (rq 5, .inl (4, 3, .inr (.inr (.inr (.inr (rf3 rq 6 1 3)))))), (rq 6, .inl (0, 21, .inl (M.2.1 0))), (rq 7, .inl (0, 21, .inl (M.2.1 1))), (rq 8, .inl (0, 21, .inl (M.2.1 2))), (rq 9, .inl (4, 2, .inr (.inr (.inr (.inr (rf3 rq 10 1 2)))))), (rq 10, .inl (0, 21, .inl (M.2.2.1 0))), (rq 11, .inl (0, 21, .inl (M.2.2.1 1))), (rq 12, .inl (0, 6, .inl M.2.2.2.1)), (rq 13, .inl (0, 441, .inl M.2.2.2.2.1))]) [0, 1, 4] [2, 3, 5, 6, 7, 8, 9, 10, 11, 12, 13] (ok_X7_worthOr (m := rq 0) (Mo := rq 1) (Lo := rq 5) (Do := rq 9) (tl := rq 12) (ca := rq 13) (q := rq 4) (mm := rf3 rq 2 1 3) (fun h9 => by have h8 := ix_in h9; rw [e] at h8; exact (congrArg (rf3 rq 2 1 3) h8.symm).trans rfl) h0) rfl rfl rfl rfl (by decide) ?_
    rintro o w hp
    obtain ⟨g, e1, e2⟩ := hp
    subst e1; subst e2
    exact ⟨_, [11, 12, 0, 1, 13, 2, 3, 4, 5, 6, 7, 8, 9, 10], PN.mk g rfl rfl, rfl, rfl⟩
def gM_confirm (N K : Nat) (M : MS) (p0 : Int32) (p1 : Int32) (p2 : Int32) (p3 : Int32) (p4 : Int32) : Option (Int32 × MS) := (fX7_confirm N K M.2.2.2.2.2 (M.1 (ix 3 p0)) p0 p1 p2 p3 p4).map (fun z => (z.1, (M.1, M.2.1, M.2.2.1, M.2.2.2.1, M.2.2.2.2.1, z.2)))
set_option maxHeartbeats 4000000 in
set_option maxRecDepth 100000 in
theorem ogM_confirm {N K : Nat} {rq : Nat → Nat} {M : MS} {p0 : Int32} {p1 : Int32} {p2 : Int32} {p3 : Int32} {p4 : Int32} {x : Int32 × MS} (hE : gM_confirm N K M p0 p1 p2 p3 p4 = some x) : OkM yX7_confirm (.code yX7_confirm cX7_confirm 7 (some .boolean)) (2) 0 0 [.ref (rq 0), .int p0, .int p1, .int p2, .int p3, .int p4] (WM rq M) ((PN (U := Int32 × MS) (fun z _ => some (.int z.1)) (fun z _ => WM rq z.2)) x) := by
  unfold gM_confirm at hE
  obtain ⟨x0, h0, h1⟩ := Option.map_eq_some_iff.mp hE
  subst h1
  clear hE
  rcases lt3 (ix_lt (n := 3) (p := p0) (by decide)) with e | e | e
  · rw [e] at h0
    try rw [e]
    refine ok_fr (wc := [(rq 0, .inr (9, [.ref (rq 1), .ref (rq 5), .ref (rq 9), .ref (rq 12), .ref (rq 13), .int M.2.2.2.2.2])), (rq 1, .inl (4, 3, .inr (.inr (.inr (.inr (rf3 rq 2 1 3)))))), (rq 2, .inl (0, 6144, .inl (M.1 0)))]) (wr := [(rq 3, .inl (0, 6144, .inl (M.1 1))), (rq 4, .inl (0, 6144, .inl (M.1 2))), (rq 5, .inl (4, 3, .inr (.inr (.inr (.inr (rf3 rq 6 1 3)))))), (rq 6, .inl (0, 21, .inl (M.2.1 0))), (rq 7, .inl (0, 21, .inl (M.2.1 1))), (rq 8, .inl (0, 21, .inl (M.2.1 2))), (rq 9, .inl (4, 2, .inr (.inr (.inr (.inr (rf3 rq 10 1 2)))))), (rq 10, .inl (0, 21, .inl (M.2.2.1 0))), (rq 11, .inl (0, 21, .inl (M.2.2.1 1))), (rq 12, .inl (0, 6, .inl M.2.2.2.1)), (rq 13, .inl (0, 441, .inl M.2.2.2.2.1))]) [0, 1, 2] [3, 4, 5, 6, 7, 8, 9, 10, 11, 12, 13] (ok_X7_confirm (m := rq 0) (Mo := rq 1) (Lo := rq 5) (Do := rq 9) (tl := rq 12) (ca := rq 13) (q := rq 2) (mm := rf3 rq 2 1 3) (fun h9 => by have h8 := ix_in h9; rw [e] at h8; exact (congrArg (rf3 rq 2 1 3) h8.symm).trans rfl) h0) rfl rfl rfl rfl (by decide) ?_
    rintro o w hp
    obtain ⟨g, e1, e2⟩ := hp
    subst e1; subst e2
    exact ⟨_, [11, 12, 13, 0, 1, 2, 3, 4, 5, 6, 7, 8, 9, 10], PN.mk g rfl rfl, rfl, rfl⟩
  · rw [e] at h0
    try rw [e]
    refine ok_fr (wc := [(rq 0, .inr (9, [.ref (rq 1), .ref (rq 5), .ref (rq 9), .ref (rq 12), .ref (rq 13), .int M.2.2.2.2.2])), (rq 1, .inl (4, 3, .inr (.inr (.inr (.inr (rf3 rq 2 1 3)))))), (rq 3, .inl (0, 6144, .inl (M.1 1)))]) (wr := [(rq 2, .inl (0, 6144, .inl (M.1 0))), (rq 4, .inl (0, 6144, .inl (M.1 2))), (rq 5, .inl (4, 3, .inr (.inr (.inr (.inr (rf3 rq 6 1 3)))))), (rq 6, .inl (0, 21, .inl (M.2.1 0))), (rq 7, .inl (0, 21, .inl (M.2.1 1))), (rq 8, .inl (0, 21, .inl (M.2.1 2))), (rq 9, .inl (4, 2, .inr (.inr (.inr (.inr (rf3 rq 10 1 2)))))), (rq 10, .inl (0, 21, .inl (M.2.2.1 0))), (rq 11, .inl (0, 21, .inl (M.2.2.1 1))), (rq 12, .inl (0, 6, .inl M.2.2.2.1)), (rq 13, .inl (0, 441, .inl M.2.2.2.2.1))]) [0, 1, 3] [2, 4, 5, 6, 7, 8, 9, 10, 11, 12, 13] (ok_X7_confirm (m := rq 0) (Mo := rq 1) (Lo := rq 5) (Do := rq 9) (tl := rq 12) (ca := rq 13) (q := rq 3) (mm := rf3 rq 2 1 3) (fun h9 => by have h8 := ix_in h9; rw [e] at h8; exact (congrArg (rf3 rq 2 1 3) h8.symm).trans rfl) h0) rfl rfl rfl rfl (by decide) ?_
    rintro o w hp
    obtain ⟨g, e1, e2⟩ := hp
    subst e1; subst e2
    exact ⟨_, [11, 12, 0, 13, 1, 2, 3, 4, 5, 6, 7, 8, 9, 10], PN.mk g rfl rfl, rfl, rfl⟩
  · rw [e] at h0
    try rw [e]
    refine ok_fr (wc := [(rq 0, .inr (9, [.ref (rq 1), .ref (rq 5), .ref (rq 9), .ref (rq 12), .ref (rq 13), .int M.2.2.2.2.2])), (rq 1, .inl (4, 3, .inr (.inr (.inr (.inr (rf3 rq 2 1 3)))))), (rq 4, .inl (0, 6144, .inl (M.1 2)))]) (wr := [(rq 2, .inl (0, 6144, .inl (M.1 0))), (rq 3, .inl (0, 6144, .inl (M.1 1))), (rq 5, .inl (4, 3, .inr (.inr (.inr (.inr (rf3 rq 6 1 3)))))), (rq 6, .inl (0, 21, .inl (M.2.1 0))), (rq 7, .inl (0, 21, .inl (M.2.1 1))), (rq 8, .inl (0, 21, .inl (M.2.1 2))), (rq 9, .inl (4, 2, .inr (.inr (.inr (.inr (rf3 rq 10 1 2)))))), (rq 10, .inl (0, 21, .inl (M.2.2.1 0))), (rq 11, .inl (0, 21, .inl (M.2.2.1 1))), (rq 12, .inl (0, 6, .inl M.2.2.2.1)), (rq 13, .inl (0, 441, .inl M.2.2.2.2.1))]) [0, 1, 4] [2, 3, 5, 6, 7, 8, 9, 10, 11, 12, 13] (ok_X7_confirm (m := rq 0) (Mo := rq 1) (Lo := rq 5) (Do := rq 9) (tl := rq 12) (ca := rq 13) (q := rq 4) (mm := rf3 rq 2 1 3) (fun h9 => by have h8 := ix_in h9; rw [e] at h8; exact (congrArg (rf3 rq 2 1 3) h8.symm).trans rfl) h0) rfl rfl rfl rfl (by decide) ?_
    rintro o w hp
    obtain ⟨g, e1, e2⟩ := hp
    subst e1; subst e2
    exact ⟨_, [11, 12, 0, 1, 13, 2, 3, 4, 5, 6, 7, 8, 9, 10], PN.mk g rfl rfl, rfl, rfl⟩
def gM_about (N K : Nat) (M : MS) (p0 : Int32) (p1 : Int32) : Option (Int32 × MS) := (fX7_about N K M.2.2.2.2.2 (M.1 (ix 3 p0)) p0 p1).map (fun z => (z.1, (M.1, M.2.1, M.2.2.1, M.2.2.2.1, M.2.2.2.2.1, z.2)))
set_option maxHeartbeats 4000000 in
set_option maxRecDepth 100000 in
theorem ogM_about {N K : Nat} {rq : Nat → Nat} {M : MS} {p0 : Int32} {p1 : Int32} {x : Int32 × MS} (hE : gM_about N K M p0 p1 = some x) : OkM yX7_about (.code yX7_about cX7_about 3 (some .int)) (2) 0 0 [.ref (rq 0), .int p0, .int p1] (WM rq M) ((PN (U := Int32 × MS) (fun z _ => some (.int z.1)) (fun z _ => WM rq z.2)) x) := by
  unfold gM_about at hE
  obtain ⟨x0, h0, h1⟩ := Option.map_eq_some_iff.mp hE
  subst h1
  clear hE
  rcases lt3 (ix_lt (n := 3) (p := p0) (by decide)) with e | e | e
  · rw [e] at h0
    try rw [e]
    refine ok_fr (wc := [(rq 0, .inr (9, [.ref (rq 1), .ref (rq 5), .ref (rq 9), .ref (rq 12), .ref (rq 13), .int M.2.2.2.2.2])), (rq 1, .inl (4, 3, .inr (.inr (.inr (.inr (rf3 rq 2 1 3)))))), (rq 2, .inl (0, 6144, .inl (M.1 0)))]) (wr := [(rq 3, .inl (0, 6144, .inl (M.1 1))), (rq 4, .inl (0, 6144, .inl (M.1 2))), (rq 5, .inl (4, 3, .inr (.inr (.inr (.inr (rf3 rq 6 1 3)))))), (rq 6, .inl (0, 21, .inl (M.2.1 0))), (rq 7, .inl (0, 21, .inl (M.2.1 1))), (rq 8, .inl (0, 21, .inl (M.2.1 2))), (rq 9, .inl (4, 2, .inr (.inr (.inr (.inr (rf3 rq 10 1 2)))))), (rq 10, .inl (0, 21, .inl (M.2.2.1 0))), (rq 11, .inl (0, 21, .inl (M.2.2.1 1))), (rq 12, .inl (0, 6, .inl M.2.2.2.1)), (rq 13, .inl (0, 441, .inl M.2.2.2.2.1))]) [0, 1, 2] [3, 4, 5, 6, 7, 8, 9, 10, 11, 12, 13] (ok_X7_about (m := rq 0) (Mo := rq 1) (Lo := rq 5) (Do := rq 9) (tl := rq 12) (ca := rq 13) (q := rq 2) (mm := rf3 rq 2 1 3) (fun h9 => by have h8 := ix_in h9; rw [e] at h8; exact (congrArg (rf3 rq 2 1 3) h8.symm).trans rfl) h0) rfl rfl rfl rfl (by decide) ?_
    rintro o w hp
    obtain ⟨g, e1, e2⟩ := hp
    subst e1; subst e2
    exact ⟨_, [11, 12, 13, 0, 1, 2, 3, 4, 5, 6, 7, 8, 9, 10], PN.mk g rfl rfl, rfl, rfl⟩
  · rw [e] at h0
    try rw [e]
    refine ok_fr (wc := [(rq 0, .inr (9, [.ref (rq 1), .ref (rq 5), .ref (rq 9), .ref (rq 12), .ref (rq 13), .int M.2.2.2.2.2])), (rq 1, .inl (4, 3, .inr (.inr (.inr (.inr (rf3 rq 2 1 3)))))), (rq 3, .inl (0, 6144, .inl (M.1 1)))]) (wr := [(rq 2, .inl (0, 6144, .inl (M.1 0))), (rq 4, .inl (0, 6144, .inl (M.1 2))), (rq 5, .inl (4, 3, .inr (.inr (.inr (.inr (rf3 rq 6 1 3)))))), (rq 6, .inl (0, 21, .inl (M.2.1 0))), (rq 7, .inl (0, 21, .inl (M.2.1 1))), (rq 8, .inl (0, 21, .inl (M.2.1 2))), (rq 9, .inl (4, 2, .inr (.inr (.inr (.inr (rf3 rq 10 1 2)))))), (rq 10, .inl (0, 21, .inl (M.2.2.1 0))), (rq 11, .inl (0, 21, .inl (M.2.2.1 1))), (rq 12, .inl (0, 6, .inl M.2.2.2.1)), (rq 13, .inl (0, 441, .inl M.2.2.2.2.1))]) [0, 1, 3] [2, 4, 5, 6, 7, 8, 9, 10, 11, 12, 13] (ok_X7_about (m := rq 0) (Mo := rq 1) (Lo := rq 5) (Do := rq 9) (tl := rq 12) (ca := rq 13) (q := rq 3) (mm := rf3 rq 2 1 3) (fun h9 => by have h8 := ix_in h9; rw [e] at h8; exact (congrArg (rf3 rq 2 1 3) h8.symm).trans rfl) h0) rfl rfl rfl rfl (by decide) ?_
    rintro o w hp
    obtain ⟨g, e1, e2⟩ := hp
    subst e1; subst e2
    exact ⟨_, [11, 12, 0, 13, 1, 2, 3, 4, 5, 6, 7, 8, 9, 10], PN.mk g rfl rfl, rfl, rfl⟩
  · rw [e] at h0
    try rw [e]
    refine ok_fr (wc := [(rq 0, .inr (9, [.ref (rq 1), .ref (rq 5), .ref (rq 9), .ref (rq 12), .ref (rq 13), .int M.2.2.2.2.2])), (rq 1, .inl (4, 3, .inr (.inr (.inr (.inr (rf3 rq 2 1 3)))))), (rq 4, .inl (0, 6144, .inl (M.1 2)))]) (wr := [(rq 2, .inl (0, 6144, .inl (M.1 0))), (rq 3, .inl (0, 6144, .inl (M.1 1))), (rq 5, .inl (4, 3, .inr (.inr (.inr (.inr (rf3 rq 6 1 3)))))), (rq 6, .inl (0, 21, .inl (M.2.1 0))), (rq 7, .inl (0, 21, .inl (M.2.1 1))), (rq 8, .inl (0, 21, .inl (M.2.1 2))), (rq 9, .inl (4, 2, .inr (.inr (.inr (.inr (rf3 rq 10 1 2)))))), (rq 10, .inl (0, 21, .inl (M.2.2.1 0))), (rq 11, .inl (0, 21, .inl (M.2.2.1 1))), (rq 12, .inl (0, 6, .inl M.2.2.2.1)), (rq 13, .inl (0, 441, .inl M.2.2.2.2.1))]) [0, 1, 4] [2, 3, 5, 6, 7, 8, 9, 10, 11, 12, 13] (ok_X7_about (m := rq 0) (Mo := rq 1) (Lo := rq 5) (Do := rq 9) (tl := rq 12) (ca := rq 13) (q := rq 4) (mm := rf3 rq 2 1 3) (fun h9 => by have h8 := ix_in h9; rw [e] at h8; exact (congrArg (rf3 rq 2 1 3) h8.symm).trans rfl) h0) rfl rfl rfl rfl (by decide) ?_
    rintro o w hp
    obtain ⟨g, e1, e2⟩ := hp
    subst e1; subst e2
    exact ⟨_, [11, 12, 0, 1, 13, 2, 3, 4, 5, 6, 7, 8, 9, 10], PN.mk g rfl rfl, rfl, rfl⟩
def gM_has (N K : Nat) (M : MS) (p0 : Int32) (p1 : Int32) : Option (Int32 × MS) := (fX7_has N K M.2.2.2.2.2 (M.1 (ix 3 p0)) p0 p1).map (fun z => (z.1, (M.1, M.2.1, M.2.2.1, M.2.2.2.1, M.2.2.2.2.1, z.2)))
set_option maxHeartbeats 4000000 in
set_option maxRecDepth 100000 in
theorem ogM_has {N K : Nat} {rq : Nat → Nat} {M : MS} {p0 : Int32} {p1 : Int32} {x : Int32 × MS} (hE : gM_has N K M p0 p1 = some x) : OkM yX7_has (.code yX7_has cX7_has 3 (some .boolean)) (3) 0 0 [.ref (rq 0), .int p0, .int p1] (WM rq M) ((PN (U := Int32 × MS) (fun z _ => some (.int z.1)) (fun z _ => WM rq z.2)) x) := by
  unfold gM_has at hE
  obtain ⟨x0, h0, h1⟩ := Option.map_eq_some_iff.mp hE
  subst h1
  clear hE
  rcases lt3 (ix_lt (n := 3) (p := p0) (by decide)) with e | e | e
  · rw [e] at h0
    try rw [e]
    refine ok_fr (wc := [(rq 0, .inr (9, [.ref (rq 1), .ref (rq 5), .ref (rq 9), .ref (rq 12), .ref (rq 13), .int M.2.2.2.2.2])), (rq 1, .inl (4, 3, .inr (.inr (.inr (.inr (rf3 rq 2 1 3)))))), (rq 2, .inl (0, 6144, .inl (M.1 0)))]) (wr := [(rq 3, .inl (0, 6144, .inl (M.1 1))), (rq 4, .inl (0, 6144, .inl (M.1 2))), (rq 5, .inl (4, 3, .inr (.inr (.inr (.inr (rf3 rq 6 1 3)))))), (rq 6, .inl (0, 21, .inl (M.2.1 0))), (rq 7, .inl (0, 21, .inl (M.2.1 1))), (rq 8, .inl (0, 21, .inl (M.2.1 2))), (rq 9, .inl (4, 2, .inr (.inr (.inr (.inr (rf3 rq 10 1 2)))))), (rq 10, .inl (0, 21, .inl (M.2.2.1 0))), (rq 11, .inl (0, 21, .inl (M.2.2.1 1))), (rq 12, .inl (0, 6, .inl M.2.2.2.1)), (rq 13, .inl (0, 441, .inl M.2.2.2.2.1))]) [0, 1, 2] [3, 4, 5, 6, 7, 8, 9, 10, 11, 12, 13] (ok_X7_has (m := rq 0) (Mo := rq 1) (Lo := rq 5) (Do := rq 9) (tl := rq 12) (ca := rq 13) (q := rq 2) (mm := rf3 rq 2 1 3) (fun h9 => by have h8 := ix_in h9; rw [e] at h8; exact (congrArg (rf3 rq 2 1 3) h8.symm).trans rfl) h0) rfl rfl rfl rfl (by decide) ?_
    rintro o w hp
    obtain ⟨g, e1, e2⟩ := hp
    subst e1; subst e2
    exact ⟨_, [11, 12, 13, 0, 1, 2, 3, 4, 5, 6, 7, 8, 9, 10], PN.mk g rfl rfl, rfl, rfl⟩
  · rw [e] at h0
    try rw [e]
    refine ok_fr (wc := [(rq 0, .inr (9, [.ref (rq 1), .ref (rq 5), .ref (rq 9), .ref (rq 12), .ref (rq 13), .int M.2.2.2.2.2])), (rq 1, .inl (4, 3, .inr (.inr (.inr (.inr (rf3 rq 2 1 3)))))), (rq 3, .inl (0, 6144, .inl (M.1 1)))]) (wr := [(rq 2, .inl (0, 6144, .inl (M.1 0))), (rq 4, .inl (0, 6144, .inl (M.1 2))), (rq 5, .inl (4, 3, .inr (.inr (.inr (.inr (rf3 rq 6 1 3)))))), (rq 6, .inl (0, 21, .inl (M.2.1 0))), (rq 7, .inl (0, 21, .inl (M.2.1 1))), (rq 8, .inl (0, 21, .inl (M.2.1 2))), (rq 9, .inl (4, 2, .inr (.inr (.inr (.inr (rf3 rq 10 1 2)))))), (rq 10, .inl (0, 21, .inl (M.2.2.1 0))), (rq 11, .inl (0, 21, .inl (M.2.2.1 1))), (rq 12, .inl (0, 6, .inl M.2.2.2.1)), (rq 13, .inl (0, 441, .inl M.2.2.2.2.1))]) [0, 1, 3] [2, 4, 5, 6, 7, 8, 9, 10, 11, 12, 13] (ok_X7_has (m := rq 0) (Mo := rq 1) (Lo := rq 5) (Do := rq 9) (tl := rq 12) (ca := rq 13) (q := rq 3) (mm := rf3 rq 2 1 3) (fun h9 => by have h8 := ix_in h9; rw [e] at h8; exact (congrArg (rf3 rq 2 1 3) h8.symm).trans rfl) h0) rfl rfl rfl rfl (by decide) ?_
    rintro o w hp
    obtain ⟨g, e1, e2⟩ := hp
    subst e1; subst e2
    exact ⟨_, [11, 12, 0, 13, 1, 2, 3, 4, 5, 6, 7, 8, 9, 10], PN.mk g rfl rfl, rfl, rfl⟩
  · rw [e] at h0
    try rw [e]
    refine ok_fr (wc := [(rq 0, .inr (9, [.ref (rq 1), .ref (rq 5), .ref (rq 9), .ref (rq 12), .ref (rq 13), .int M.2.2.2.2.2])), (rq 1, .inl (4, 3, .inr (.inr (.inr (.inr (rf3 rq 2 1 3)))))), (rq 4, .inl (0, 6144, .inl (M.1 2)))]) (wr := [(rq 2, .inl (0, 6144, .inl (M.1 0))), (rq 3, .inl (0, 6144, .inl (M.1 1))), (rq 5, .inl (4, 3, .inr (.inr (.inr (.inr (rf3 rq 6 1 3)))))), (rq 6, .inl (0, 21, .inl (M.2.1 0))), (rq 7, .inl (0, 21, .inl (M.2.1 1))), (rq 8, .inl (0, 21, .inl (M.2.1 2))), (rq 9, .inl (4, 2, .inr (.inr (.inr (.inr (rf3 rq 10 1 2)))))), (rq 10, .inl (0, 21, .inl (M.2.2.1 0))), (rq 11, .inl (0, 21, .inl (M.2.2.1 1))), (rq 12, .inl (0, 6, .inl M.2.2.2.1)), (rq 13, .inl (0, 441, .inl M.2.2.2.2.1))]) [0, 1, 4] [2, 3, 5, 6, 7, 8, 9, 10, 11, 12, 13] (ok_X7_has (m := rq 0) (Mo := rq 1) (Lo := rq 5) (Do := rq 9) (tl := rq 12) (ca := rq 13) (q := rq 4) (mm := rf3 rq 2 1 3) (fun h9 => by have h8 := ix_in h9; rw [e] at h8; exact (congrArg (rf3 rq 2 1 3) h8.symm).trans rfl) h0) rfl rfl rfl rfl (by decide) ?_
    rintro o w hp
    obtain ⟨g, e1, e2⟩ := hp
    subst e1; subst e2
    exact ⟨_, [11, 12, 0, 1, 13, 2, 3, 4, 5, 6, 7, 8, 9, 10], PN.mk g rfl rfl, rfl, rfl⟩
def gM_count (N K : Nat) (M : MS) (p0 : Int32) (p1 : Int32) (p2 : Int32) : Option (Int32 × MS) := (fX7_count N K M.2.2.2.2.2 (M.1 (ix 3 p0)) p0 p1 p2).map (fun z => (z.1, (M.1, M.2.1, M.2.2.1, M.2.2.2.1, M.2.2.2.2.1, z.2)))
set_option maxHeartbeats 4000000 in
set_option maxRecDepth 100000 in
theorem ogM_count {N K : Nat} {rq : Nat → Nat} {M : MS} {p0 : Int32} {p1 : Int32} {p2 : Int32} {x : Int32 × MS} (hE : gM_count N K M p0 p1 p2 = some x) : OkM yX7_count (.code yX7_count cX7_count 4 (some .int)) (3) 0 0 [.ref (rq 0), .int p0, .int p1, .int p2] (WM rq M) ((PN (U := Int32 × MS) (fun z _ => some (.int z.1)) (fun z _ => WM rq z.2)) x) := by
  unfold gM_count at hE
  obtain ⟨x0, h0, h1⟩ := Option.map_eq_some_iff.mp hE
  subst h1
  clear hE
  rcases lt3 (ix_lt (n := 3) (p := p0) (by decide)) with e | e | e
  · rw [e] at h0
    try rw [e]
    refine ok_fr (wc := [(rq 0, .inr (9, [.ref (rq 1), .ref (rq 5), .ref (rq 9), .ref (rq 12), .ref (rq 13), .int M.2.2.2.2.2])), (rq 1, .inl (4, 3, .inr (.inr (.inr (.inr (rf3 rq 2 1 3)))))), (rq 2, .inl (0, 6144, .inl (M.1 0)))]) (wr := [(rq 3, .inl (0, 6144, .inl (M.1 1))), (rq 4, .inl (0, 6144, .inl (M.1 2))), (rq 5, .inl (4, 3, .inr (.inr (.inr (.inr (rf3 rq 6 1 3)))))), (rq 6, .inl (0, 21, .inl (M.2.1 0))), (rq 7, .inl (0, 21, .inl (M.2.1 1))), (rq 8, .inl (0, 21, .inl (M.2.1 2))), (rq 9, .inl (4, 2, .inr (.inr (.inr (.inr (rf3 rq 10 1 2)))))), (rq 10, .inl (0, 21, .inl (M.2.2.1 0))), (rq 11, .inl (0, 21, .inl (M.2.2.1 1))), (rq 12, .inl (0, 6, .inl M.2.2.2.1)), (rq 13, .inl (0, 441, .inl M.2.2.2.2.1))]) [0, 1, 2] [3, 4, 5, 6, 7, 8, 9, 10, 11, 12, 13] (ok_X7_count (m := rq 0) (Mo := rq 1) (Lo := rq 5) (Do := rq 9) (tl := rq 12) (ca := rq 13) (q := rq 2) (mm := rf3 rq 2 1 3) (fun h9 => by have h8 := ix_in h9; rw [e] at h8; exact (congrArg (rf3 rq 2 1 3) h8.symm).trans rfl) h0) rfl rfl rfl rfl (by decide) ?_
    rintro o w hp
    obtain ⟨g, e1, e2⟩ := hp
    subst e1; subst e2
    exact ⟨_, [11, 12, 13, 0, 1, 2, 3, 4, 5, 6, 7, 8, 9, 10], PN.mk g rfl rfl, rfl, rfl⟩
  · rw [e] at h0
    try rw [e]
    refine ok_fr (wc := [(rq 0, .inr (9, [.ref (rq 1), .ref (rq 5), .ref (rq 9), .ref (rq 12), .ref (rq 13), .int M.2.2.2.2.2])), (rq 1, .inl (4, 3, .inr (.inr (.inr (.inr (rf3 rq 2 1 3)))))), (rq 3, .inl (0, 6144, .inl (M.1 1)))]) (wr := [(rq 2, .inl (0, 6144, .inl (M.1 0))), (rq 4, .inl (0, 6144, .inl (M.1 2))), (rq 5, .inl (4, 3, .inr (.inr (.inr (.inr (rf3 rq 6 1 3)))))), (rq 6, .inl (0, 21, .inl (M.2.1 0))), (rq 7, .inl (0, 21, .inl (M.2.1 1))), (rq 8, .inl (0, 21, .inl (M.2.1 2))), (rq 9, .inl (4, 2, .inr (.inr (.inr (.inr (rf3 rq 10 1 2)))))), (rq 10, .inl (0, 21, .inl (M.2.2.1 0))), (rq 11, .inl (0, 21, .inl (M.2.2.1 1))), (rq 12, .inl (0, 6, .inl M.2.2.2.1)), (rq 13, .inl (0, 441, .inl M.2.2.2.2.1))]) [0, 1, 3] [2, 4, 5, 6, 7, 8, 9, 10, 11, 12, 13] (ok_X7_count (m := rq 0) (Mo := rq 1) (Lo := rq 5) (Do := rq 9) (tl := rq 12) (ca := rq 13) (q := rq 3) (mm := rf3 rq 2 1 3) (fun h9 => by have h8 := ix_in h9; rw [e] at h8; exact (congrArg (rf3 rq 2 1 3) h8.symm).trans rfl) h0) rfl rfl rfl rfl (by decide) ?_
    rintro o w hp
    obtain ⟨g, e1, e2⟩ := hp
    subst e1; subst e2
    exact ⟨_, [11, 12, 0, 13, 1, 2, 3, 4, 5, 6, 7, 8, 9, 10], PN.mk g rfl rfl, rfl, rfl⟩
  · rw [e] at h0
    try rw [e]
    refine ok_fr (wc := [(rq 0, .inr (9, [.ref (rq 1), .ref (rq 5), .ref (rq 9), .ref (rq 12), .ref (rq 13), .int M.2.2.2.2.2])), (rq 1, .inl (4, 3, .inr (.inr (.inr (.inr (rf3 rq 2 1 3)))))), (rq 4, .inl (0, 6144, .inl (M.1 2)))]) (wr := [(rq 2, .inl (0, 6144, .inl (M.1 0))), (rq 3, .inl (0, 6144, .inl (M.1 1))), (rq 5, .inl (4, 3, .inr (.inr (.inr (.inr (rf3 rq 6 1 3)))))), (rq 6, .inl (0, 21, .inl (M.2.1 0))), (rq 7, .inl (0, 21, .inl (M.2.1 1))), (rq 8, .inl (0, 21, .inl (M.2.1 2))), (rq 9, .inl (4, 2, .inr (.inr (.inr (.inr (rf3 rq 10 1 2)))))), (rq 10, .inl (0, 21, .inl (M.2.2.1 0))), (rq 11, .inl (0, 21, .inl (M.2.2.1 1))), (rq 12, .inl (0, 6, .inl M.2.2.2.1)), (rq 13, .inl (0, 441, .inl M.2.2.2.2.1))]) [0, 1, 4] [2, 3, 5, 6, 7, 8, 9, 10, 11, 12, 13] (ok_X7_count (m := rq 0) (Mo := rq 1) (Lo := rq 5) (Do := rq 9) (tl := rq 12) (ca := rq 13) (q := rq 4) (mm := rf3 rq 2 1 3) (fun h9 => by have h8 := ix_in h9; rw [e] at h8; exact (congrArg (rf3 rq 2 1 3) h8.symm).trans rfl) h0) rfl rfl rfl rfl (by decide) ?_
    rintro o w hp
    obtain ⟨g, e1, e2⟩ := hp
    subst e1; subst e2
    exact ⟨_, [11, 12, 0, 1, 13, 2, 3, 4, 5, 6, 7, 8, 9, 10], PN.mk g rfl rfl, rfl, rfl⟩
def gM_isSame (N K : Nat) (M : MS) (p0 : Int32) (p1 : Int32) : Option (Int32 × MS) := if p0 = p1 then (fX7_isSameOwn N K M.2.2.2.2.2 (M.1 (ix 3 p0)) p0).map (fun z => (z.1, (M.1, M.2.1, M.2.2.1, M.2.2.2.1, M.2.2.2.2.1, z.2))) else (fX7_isSame N K M.2.2.2.2.2 (M.1 (jx 3 p0 p1)) (M.1 (kx 3 p0 p1)) p0 p1).map (fun z => (z.1, (M.1, M.2.1, M.2.2.1, M.2.2.2.1, M.2.2.2.2.1, z.2)))
set_option maxHeartbeats 4000000 in
set_option maxRecDepth 100000 in
theorem ogM_isSame {N K : Nat} {rq : Nat → Nat} {M : MS} {p0 : Int32} {p1 : Int32} {x : Int32 × MS} (hE : gM_isSame N K M p0 p1 = some x) : OkM yX7_isSame (.code yX7_isSame cX7_isSame 5 (some .boolean)) (1) 0 0 [.ref (rq 0), .int p0, .int p1] (WM rq M) ((PN (U := Int32 × MS) (fun z _ => some (.int z.1)) (fun z _ => WM rq z.2)) x) := by
  unfold gM_isSame at hE
  by_cases hpq : p0 = p1
  · subst hpq
    rw [if_pos rfl] at hE
    obtain ⟨x0, h0, h1⟩ := Option.map_eq_some_iff.mp hE
    subst h1
    clear hE
    rcases lt3 (ix_lt (n := 3) (p := p0) (by decide)) with e | e | e
    · rw [e] at h0
      try rw [e]
      refine ok_fr (wc := [(rq 0, .inr (9, [.ref (rq 1), .ref (rq 5), .ref (rq 9), .ref (rq 12), .ref (rq 13), .int M.2.2.2.2.2])), (rq 1, .inl (4, 3, .inr (.inr (.inr (.inr (rf3 rq 2 1 3)))))), (rq 2, .inl (0, 6144, .inl (M.1 0)))]) (wr := [(rq 3, .inl (0, 6144, .inl (M.1 1))), (rq 4, .inl (0, 6144, .inl (M.1 2))), (rq 5, .inl (4, 3, .inr (.inr (.inr (.inr (rf3 rq 6 1 3)))))), (rq 6, .inl (0, 21, .inl (M.2.1 0))), (rq 7, .inl (0, 21, .inl (M.2.1 1))), (rq 8, .inl (0, 21, .inl (M.2.1 2))), (rq 9, .inl (4, 2, .inr (.inr (.inr (.inr (rf3 rq 10 1 2)))))), (rq 10, .inl (0, 21, .inl (M.2.2.1 0))), (rq 11, .inl (0, 21, .inl (M.2.2.1 1))), (rq 12, .inl (0, 6, .inl M.2.2.2.1)), (rq 13, .inl (0, 441, .inl M.2.2.2.2.1))]) [0, 1, 2] [3, 4, 5, 6, 7, 8, 9, 10, 11, 12, 13] (ok_X7_isSameOwn (m := rq 0) (Mo := rq 1) (Lo := rq 5) (Do := rq 9) (tl := rq 12) (ca := rq 13) (q := rq 2) (mm := rf3 rq 2 1 3) (fun h9 => by have h8 := ix_in h9; rw [e] at h8; exact (congrArg (rf3 rq 2 1 3) h8.symm).trans rfl) h0) rfl rfl rfl rfl (by decide) ?_
      rintro o w hp
      obtain ⟨g, e1, e2⟩ := hp
      subst e1; subst e2
      exact ⟨_, [11, 12, 13, 0, 1, 2, 3, 4, 5, 6, 7, 8, 9, 10], PN.mk g rfl rfl, rfl, rfl⟩
    · rw [e] at h0
      try rw [e]
      refine ok_fr (wc := [(rq 0, .inr (9, [.ref (rq 1), .ref (rq 5), .ref (rq 9), .ref (rq 12), .ref (rq 13), .int M.2.2.2.2.2])), (rq 1, .inl (4, 3, .inr (.inr (.inr (.inr (rf3 rq 2 1 3)))))), (rq 3, .inl (0, 6144, .inl (M.1 1)))]) (wr := [(rq 2, .inl (0, 6144, .inl (M.1 0))), (rq 4, .inl (0, 6144, .inl (M.1 2))), (rq 5, .inl (4, 3, .inr (.inr (.inr (.inr (rf3 rq 6 1 3)))))), (rq 6, .inl (0, 21, .inl (M.2.1 0))), (rq 7, .inl (0, 21, .inl (M.2.1 1))), (rq 8, .inl (0, 21, .inl (M.2.1 2))), (rq 9, .inl (4, 2, .inr (.inr (.inr (.inr (rf3 rq 10 1 2)))))), (rq 10, .inl (0, 21, .inl (M.2.2.1 0))), (rq 11, .inl (0, 21, .inl (M.2.2.1 1))), (rq 12, .inl (0, 6, .inl M.2.2.2.1)), (rq 13, .inl (0, 441, .inl M.2.2.2.2.1))]) [0, 1, 3] [2, 4, 5, 6, 7, 8, 9, 10, 11, 12, 13] (ok_X7_isSameOwn (m := rq 0) (Mo := rq 1) (Lo := rq 5) (Do := rq 9) (tl := rq 12) (ca := rq 13) (q := rq 3) (mm := rf3 rq 2 1 3) (fun h9 => by have h8 := ix_in h9; rw [e] at h8; exact (congrArg (rf3 rq 2 1 3) h8.symm).trans rfl) h0) rfl rfl rfl rfl (by decide) ?_
      rintro o w hp
      obtain ⟨g, e1, e2⟩ := hp
      subst e1; subst e2
      exact ⟨_, [11, 12, 0, 13, 1, 2, 3, 4, 5, 6, 7, 8, 9, 10], PN.mk g rfl rfl, rfl, rfl⟩
    · rw [e] at h0
      try rw [e]
      refine ok_fr (wc := [(rq 0, .inr (9, [.ref (rq 1), .ref (rq 5), .ref (rq 9), .ref (rq 12), .ref (rq 13), .int M.2.2.2.2.2])), (rq 1, .inl (4, 3, .inr (.inr (.inr (.inr (rf3 rq 2 1 3)))))), (rq 4, .inl (0, 6144, .inl (M.1 2)))]) (wr := [(rq 2, .inl (0, 6144, .inl (M.1 0))), (rq 3, .inl (0, 6144, .inl (M.1 1))), (rq 5, .inl (4, 3, .inr (.inr (.inr (.inr (rf3 rq 6 1 3)))))), (rq 6, .inl (0, 21, .inl (M.2.1 0))), (rq 7, .inl (0, 21, .inl (M.2.1 1))), (rq 8, .inl (0, 21, .inl (M.2.1 2))), (rq 9, .inl (4, 2, .inr (.inr (.inr (.inr (rf3 rq 10 1 2)))))), (rq 10, .inl (0, 21, .inl (M.2.2.1 0))), (rq 11, .inl (0, 21, .inl (M.2.2.1 1))), (rq 12, .inl (0, 6, .inl M.2.2.2.1)), (rq 13, .inl (0, 441, .inl M.2.2.2.2.1))]) [0, 1, 4] [2, 3, 5, 6, 7, 8, 9, 10, 11, 12, 13] (ok_X7_isSameOwn (m := rq 0) (Mo := rq 1) (Lo := rq 5) (Do := rq 9) (tl := rq 12) (ca := rq 13) (q := rq 4) (mm := rf3 rq 2 1 3) (fun h9 => by have h8 := ix_in h9; rw [e] at h8; exact (congrArg (rf3 rq 2 1 3) h8.symm).trans rfl) h0) rfl rfl rfl rfl (by decide) ?_
      rintro o w hp
      obtain ⟨g, e1, e2⟩ := hp
      subst e1; subst e2
      exact ⟨_, [11, 12, 0, 1, 13, 2, 3, 4, 5, 6, 7, 8, 9, 10], PN.mk g rfl rfl, rfl, rfl⟩
  · rw [if_neg hpq] at hE
    obtain ⟨x0, h0, h1⟩ := Option.map_eq_some_iff.mp hE
    subst h1
    clear hE
    rcases jk3 hpq with ⟨e, f⟩ | ⟨e, f⟩ | ⟨e, f⟩ | ⟨e, f⟩ | ⟨e, f⟩ | ⟨e, f⟩
    · simp only [e, f] at h0 ⊢
      refine ok_fr (wc := [(rq 0, .inr (9, [.ref (rq 1), .ref (rq 5), .ref (rq 9), .ref (rq 12), .ref (rq 13), .int M.2.2.2.2.2])), (rq 1, .inl (4, 3, .inr (.inr (.inr (.inr (rf3 rq 2 1 3)))))), (rq 2, .inl (0, 6144, .inl (M.1 0))), (rq 3, .inl (0, 6144, .inl (M.1 1)))]) (wr := [(rq 4, .inl (0, 6144, .inl (M.1 2))), (rq 5, .inl (4, 3, .inr (.inr (.inr (.inr (rf3 rq 6 1 3)))))), (rq 6, .inl (0, 21, .inl (M.2.1 0))), (rq 7, .inl (0, 21, .inl (M.2.1 1))), (rq 8, .inl (0, 21, .inl (M.2.1 2))), (rq 9, .inl (4, 2, .inr (.inr (.inr (.inr (rf3 rq 10 1 2)))))), (rq 10, .inl (0, 21, .inl (M.2.2.1 0))), (rq 11, .inl (0, 21, .inl (M.2.2.1 1))), (rq 12, .inl (0, 6, .inl M.2.2.2.1)), (rq 13, .inl (0, 441, .inl M.2.2.2.2.1))]) [0, 1, 2, 3] [4, 5, 6, 7, 8, 9, 10, 11, 12, 13] (ok_X7_isSame (m := rq 0) (Mo := rq 1) (Lo := rq 5) (Do := rq 9) (tl := rq 12) (ca := rq 13) (q := rq 2) (q2 := rq 3) (mm := rf3 rq 2 1 3) (fun h9 => by have h8 := jx_in (q := p1) h9; rw [e] at h8; exact (congrArg (rf3 rq 2 1 3) h8.symm).trans rfl) (fun h9 => by have h8 := kx_in (p := p0) h9; rw [f] at h8; exact (congrArg (rf3 rq 2 1 3) h8.symm).trans rfl) h0) rfl rfl rfl rfl (by decide) ?_
      rintro o w hp
      obtain ⟨g, e1, e2⟩ := hp
      subst e1; subst e2
      exact ⟨_, [10, 11, 12, 13, 0, 1, 2, 3, 4, 5, 6, 7, 8, 9], PN.mk g rfl rfl, rfl, rfl⟩
    · simp only [e, f] at h0 ⊢
      refine ok_fr (wc := [(rq 0, .inr (9, [.ref (rq 1), .ref (rq 5), .ref (rq 9), .ref (rq 12), .ref (rq 13), .int M.2.2.2.2.2])), (rq 1, .inl (4, 3, .inr (.inr (.inr (.inr (rf3 rq 2 1 3)))))), (rq 2, .inl (0, 6144, .inl (M.1 0))), (rq 4, .inl (0, 6144, .inl (M.1 2)))]) (wr := [(rq 3, .inl (0, 6144, .inl (M.1 1))), (rq 5, .inl (4, 3, .inr (.inr (.inr (.inr (rf3 rq 6 1 3)))))), (rq 6, .inl (0, 21, .inl (M.2.1 0))), (rq 7, .inl (0, 21, .inl (M.2.1 1))), (rq 8, .inl (0, 21, .inl (M.2.1 2))), (rq 9, .inl (4, 2, .inr (.inr (.inr (.inr (rf3 rq 10 1 2)))))), (rq 10, .inl (0, 21, .inl (M.2.2.1 0))), (rq 11, .inl (0, 21, .inl (M.2.2.1 1))), (rq 12, .inl (0, 6, .inl M.2.2.2.1)), (rq 13, .inl (0, 441, .inl M.2.2.2.2.1))]) [0, 1, 2, 4] [3, 5, 6, 7, 8, 9, 10, 11, 12, 13] (ok_X7_isSame (m := rq 0) (Mo := rq 1) (Lo := rq 5) (Do := rq 9) (tl := rq 12) (ca := rq 13) (q := rq 2) (q2 := rq 4) (mm := rf3 rq 2 1 3) (fun h9 => by have h8 := jx_in (q := p1) h9; rw [e] at h8; exact (congrArg (rf3 rq 2 1 3) h8.symm).trans rfl) (fun h9 => by have h8 := kx_in (p := p0) h9; rw [f] at h8; exact (congrArg (rf3 rq 2 1 3) h8.symm).trans rfl) h0) rfl rfl rfl rfl (by decide) ?_
      rintro o w hp
      obtain ⟨g, e1, e2⟩ := hp
      subst e1; subst e2
      exact ⟨_, [10, 11, 12, 0, 13, 1, 2, 3, 4, 5, 6, 7, 8, 9], PN.mk g rfl rfl, rfl, rfl⟩
    · simp only [e, f] at h0 ⊢
      refine ok_fr (wc := [(rq 0, .inr (9, [.ref (rq 1), .ref (rq 5), .ref (rq 9), .ref (rq 12), .ref (rq 13), .int M.2.2.2.2.2])), (rq 1, .inl (4, 3, .inr (.inr (.inr (.inr (rf3 rq 2 1 3)))))), (rq 3, .inl (0, 6144, .inl (M.1 1))), (rq 2, .inl (0, 6144, .inl (M.1 0)))]) (wr := [(rq 4, .inl (0, 6144, .inl (M.1 2))), (rq 5, .inl (4, 3, .inr (.inr (.inr (.inr (rf3 rq 6 1 3)))))), (rq 6, .inl (0, 21, .inl (M.2.1 0))), (rq 7, .inl (0, 21, .inl (M.2.1 1))), (rq 8, .inl (0, 21, .inl (M.2.1 2))), (rq 9, .inl (4, 2, .inr (.inr (.inr (.inr (rf3 rq 10 1 2)))))), (rq 10, .inl (0, 21, .inl (M.2.2.1 0))), (rq 11, .inl (0, 21, .inl (M.2.2.1 1))), (rq 12, .inl (0, 6, .inl M.2.2.2.1)), (rq 13, .inl (0, 441, .inl M.2.2.2.2.1))]) [0, 1, 3, 2] [4, 5, 6, 7, 8, 9, 10, 11, 12, 13] (ok_X7_isSame (m := rq 0) (Mo := rq 1) (Lo := rq 5) (Do := rq 9) (tl := rq 12) (ca := rq 13) (q := rq 3) (q2 := rq 2) (mm := rf3 rq 2 1 3) (fun h9 => by have h8 := jx_in (q := p1) h9; rw [e] at h8; exact (congrArg (rf3 rq 2 1 3) h8.symm).trans rfl) (fun h9 => by have h8 := kx_in (p := p0) h9; rw [f] at h8; exact (congrArg (rf3 rq 2 1 3) h8.symm).trans rfl) h0) rfl rfl rfl rfl (by decide) ?_
      rintro o w hp
      obtain ⟨g, e1, e2⟩ := hp
      subst e1; subst e2
      exact ⟨_, [10, 11, 13, 12, 0, 1, 2, 3, 4, 5, 6, 7, 8, 9], PN.mk g rfl rfl, rfl, rfl⟩
    · simp only [e, f] at h0 ⊢
      refine ok_fr (wc := [(rq 0, .inr (9, [.ref (rq 1), .ref (rq 5), .ref (rq 9), .ref (rq 12), .ref (rq 13), .int M.2.2.2.2.2])), (rq 1, .inl (4, 3, .inr (.inr (.inr (.inr (rf3 rq 2 1 3)))))), (rq 3, .inl (0, 6144, .inl (M.1 1))), (rq 4, .inl (0, 6144, .inl (M.1 2)))]) (wr := [(rq 2, .inl (0, 6144, .inl (M.1 0))), (rq 5, .inl (4, 3, .inr (.inr (.inr (.inr (rf3 rq 6 1 3)))))), (rq 6, .inl (0, 21, .inl (M.2.1 0))), (rq 7, .inl (0, 21, .inl (M.2.1 1))), (rq 8, .inl (0, 21, .inl (M.2.1 2))), (rq 9, .inl (4, 2, .inr (.inr (.inr (.inr (rf3 rq 10 1 2)))))), (rq 10, .inl (0, 21, .inl (M.2.2.1 0))), (rq 11, .inl (0, 21, .inl (M.2.2.1 1))), (rq 12, .inl (0, 6, .inl M.2.2.2.1)), (rq 13, .inl (0, 441, .inl M.2.2.2.2.1))]) [0, 1, 3, 4] [2, 5, 6, 7, 8, 9, 10, 11, 12, 13] (ok_X7_isSame (m := rq 0) (Mo := rq 1) (Lo := rq 5) (Do := rq 9) (tl := rq 12) (ca := rq 13) (q := rq 3) (q2 := rq 4) (mm := rf3 rq 2 1 3) (fun h9 => by have h8 := jx_in (q := p1) h9; rw [e] at h8; exact (congrArg (rf3 rq 2 1 3) h8.symm).trans rfl) (fun h9 => by have h8 := kx_in (p := p0) h9; rw [f] at h8; exact (congrArg (rf3 rq 2 1 3) h8.symm).trans rfl) h0) rfl rfl rfl rfl (by decide) ?_
      rintro o w hp
      obtain ⟨g, e1, e2⟩ := hp
      subst e1; subst e2
      exact ⟨_, [10, 11, 0, 12, 13, 1, 2, 3, 4, 5, 6, 7, 8, 9], PN.mk g rfl rfl, rfl, rfl⟩
    · simp only [e, f] at h0 ⊢
      refine ok_fr (wc := [(rq 0, .inr (9, [.ref (rq 1), .ref (rq 5), .ref (rq 9), .ref (rq 12), .ref (rq 13), .int M.2.2.2.2.2])), (rq 1, .inl (4, 3, .inr (.inr (.inr (.inr (rf3 rq 2 1 3)))))), (rq 4, .inl (0, 6144, .inl (M.1 2))), (rq 2, .inl (0, 6144, .inl (M.1 0)))]) (wr := [(rq 3, .inl (0, 6144, .inl (M.1 1))), (rq 5, .inl (4, 3, .inr (.inr (.inr (.inr (rf3 rq 6 1 3)))))), (rq 6, .inl (0, 21, .inl (M.2.1 0))), (rq 7, .inl (0, 21, .inl (M.2.1 1))), (rq 8, .inl (0, 21, .inl (M.2.1 2))), (rq 9, .inl (4, 2, .inr (.inr (.inr (.inr (rf3 rq 10 1 2)))))), (rq 10, .inl (0, 21, .inl (M.2.2.1 0))), (rq 11, .inl (0, 21, .inl (M.2.2.1 1))), (rq 12, .inl (0, 6, .inl M.2.2.2.1)), (rq 13, .inl (0, 441, .inl M.2.2.2.2.1))]) [0, 1, 4, 2] [3, 5, 6, 7, 8, 9, 10, 11, 12, 13] (ok_X7_isSame (m := rq 0) (Mo := rq 1) (Lo := rq 5) (Do := rq 9) (tl := rq 12) (ca := rq 13) (q := rq 4) (q2 := rq 2) (mm := rf3 rq 2 1 3) (fun h9 => by have h8 := jx_in (q := p1) h9; rw [e] at h8; exact (congrArg (rf3 rq 2 1 3) h8.symm).trans rfl) (fun h9 => by have h8 := kx_in (p := p0) h9; rw [f] at h8; exact (congrArg (rf3 rq 2 1 3) h8.symm).trans rfl) h0) rfl rfl rfl rfl (by decide) ?_
      rintro o w hp
      obtain ⟨g, e1, e2⟩ := hp
      subst e1; subst e2
      exact ⟨_, [10, 11, 13, 0, 12, 1, 2, 3, 4, 5, 6, 7, 8, 9], PN.mk g rfl rfl, rfl, rfl⟩
    · simp only [e, f] at h0 ⊢
      refine ok_fr (wc := [(rq 0, .inr (9, [.ref (rq 1), .ref (rq 5), .ref (rq 9), .ref (rq 12), .ref (rq 13), .int M.2.2.2.2.2])), (rq 1, .inl (4, 3, .inr (.inr (.inr (.inr (rf3 rq 2 1 3)))))), (rq 4, .inl (0, 6144, .inl (M.1 2))), (rq 3, .inl (0, 6144, .inl (M.1 1)))]) (wr := [(rq 2, .inl (0, 6144, .inl (M.1 0))), (rq 5, .inl (4, 3, .inr (.inr (.inr (.inr (rf3 rq 6 1 3)))))), (rq 6, .inl (0, 21, .inl (M.2.1 0))), (rq 7, .inl (0, 21, .inl (M.2.1 1))), (rq 8, .inl (0, 21, .inl (M.2.1 2))), (rq 9, .inl (4, 2, .inr (.inr (.inr (.inr (rf3 rq 10 1 2)))))), (rq 10, .inl (0, 21, .inl (M.2.2.1 0))), (rq 11, .inl (0, 21, .inl (M.2.2.1 1))), (rq 12, .inl (0, 6, .inl M.2.2.2.1)), (rq 13, .inl (0, 441, .inl M.2.2.2.2.1))]) [0, 1, 4, 3] [2, 5, 6, 7, 8, 9, 10, 11, 12, 13] (ok_X7_isSame (m := rq 0) (Mo := rq 1) (Lo := rq 5) (Do := rq 9) (tl := rq 12) (ca := rq 13) (q := rq 4) (q2 := rq 3) (mm := rf3 rq 2 1 3) (fun h9 => by have h8 := jx_in (q := p1) h9; rw [e] at h8; exact (congrArg (rf3 rq 2 1 3) h8.symm).trans rfl) (fun h9 => by have h8 := kx_in (p := p0) h9; rw [f] at h8; exact (congrArg (rf3 rq 2 1 3) h8.symm).trans rfl) h0) rfl rfl rfl rfl (by decide) ?_
      rintro o w hp
      obtain ⟨g, e1, e2⟩ := hp
      subst e1; subst e2
      exact ⟨_, [10, 11, 0, 13, 12, 1, 2, 3, 4, 5, 6, 7, 8, 9], PN.mk g rfl rfl, rfl, rfl⟩
def gM_walk (N K : Nat) (M : MS) (p0 : Int32) (p1 : Int32) (p2 : Int32) : Option (Int32 × MS) := (fX7_walk N K M.2.2.2.2.2 p0 p1 p2).map (fun z => (z.1, (M.1, M.2.1, M.2.2.1, M.2.2.2.1, M.2.2.2.2.1, z.2)))
set_option maxHeartbeats 4000000 in
set_option maxRecDepth 100000 in
theorem ogM_walk {N K : Nat} {rq : Nat → Nat} {M : MS} {p0 : Int32} {p1 : Int32} {p2 : Int32} {x : Int32 × MS} (hE : gM_walk N K M p0 p1 p2 = some x) : OkM yX7_walk (.code yX7_walk cX7_walk 4 (some .int)) (5) 1 21 [.ref (rq 0), .int p0, .int p1, .int p2] (WM rq M) ((PN (U := Int32 × MS) (fun z _ => some (.int z.1)) (fun z _ => WM rq z.2)) x) := by
  unfold gM_walk at hE
  obtain ⟨x0, h0, h1⟩ := Option.map_eq_some_iff.mp hE
  subst h1
  clear hE
  refine ok_fr (wc := [(rq 0, .inr (9, [.ref (rq 1), .ref (rq 5), .ref (rq 9), .ref (rq 12), .ref (rq 13), .int M.2.2.2.2.2]))]) (wr := [(rq 1, .inl (4, 3, .inr (.inr (.inr (.inr (rf3 rq 2 1 3)))))), (rq 2, .inl (0, 6144, .inl (M.1 0))), (rq 3, .inl (0, 6144, .inl (M.1 1))), (rq 4, .inl (0, 6144, .inl (M.1 2))), (rq 5, .inl (4, 3, .inr (.inr (.inr (.inr (rf3 rq 6 1 3)))))), (rq 6, .inl (0, 21, .inl (M.2.1 0))), (rq 7, .inl (0, 21, .inl (M.2.1 1))), (rq 8, .inl (0, 21, .inl (M.2.1 2))), (rq 9, .inl (4, 2, .inr (.inr (.inr (.inr (rf3 rq 10 1 2)))))), (rq 10, .inl (0, 21, .inl (M.2.2.1 0))), (rq 11, .inl (0, 21, .inl (M.2.2.1 1))), (rq 12, .inl (0, 6, .inl M.2.2.2.1)), (rq 13, .inl (0, 441, .inl M.2.2.2.2.1))]) [0] [1, 2, 3, 4, 5, 6, 7, 8, 9, 10, 11, 12, 13] (ok_X7_walk (m := rq 0) (Mo := rq 1) (Lo := rq 5) (Do := rq 9) (tl := rq 12) (ca := rq 13) h0) rfl rfl rfl rfl (by decide) ?_
  rintro o w hp
  obtain ⟨g, e1, e2⟩ := hp
  subst e1; subst e2
  exact ⟨_, [13, 0, 1, 2, 3, 4, 5, 6, 7, 8, 9, 10, 11, 12], PN.mk g rfl rfl, rfl, rfl⟩
def gM_product (N K : Nat) (M : MS) (p0 : Int32) (p1 : Int32) (p2 : Int32) : Option (Int32 × MS) := (fX7_product N K M.2.2.2.2.2 p0 p1 p2).map (fun z => (z.1, (M.1, M.2.1, M.2.2.1, M.2.2.2.1, M.2.2.2.2.1, z.2)))
set_option maxHeartbeats 4000000 in
set_option maxRecDepth 100000 in
theorem ogM_product {N K : Nat} {rq : Nat → Nat} {M : MS} {p0 : Int32} {p1 : Int32} {p2 : Int32} {x : Int32 × MS} (hE : gM_product N K M p0 p1 p2 = some x) : OkM yX7_product (.code yX7_product cX7_product 4 (some .int)) (2) 1 21 [.ref (rq 0), .int p0, .int p1, .int p2] (WM rq M) ((PN (U := Int32 × MS) (fun z _ => some (.int z.1)) (fun z _ => WM rq z.2)) x) := by
  unfold gM_product at hE
  obtain ⟨x0, h0, h1⟩ := Option.map_eq_some_iff.mp hE
  subst h1
  clear hE
  refine ok_fr (wc := [(rq 0, .inr (9, [.ref (rq 1), .ref (rq 5), .ref (rq 9), .ref (rq 12), .ref (rq 13), .int M.2.2.2.2.2]))]) (wr := [(rq 1, .inl (4, 3, .inr (.inr (.inr (.inr (rf3 rq 2 1 3)))))), (rq 2, .inl (0, 6144, .inl (M.1 0))), (rq 3, .inl (0, 6144, .inl (M.1 1))), (rq 4, .inl (0, 6144, .inl (M.1 2))), (rq 5, .inl (4, 3, .inr (.inr (.inr (.inr (rf3 rq 6 1 3)))))), (rq 6, .inl (0, 21, .inl (M.2.1 0))), (rq 7, .inl (0, 21, .inl (M.2.1 1))), (rq 8, .inl (0, 21, .inl (M.2.1 2))), (rq 9, .inl (4, 2, .inr (.inr (.inr (.inr (rf3 rq 10 1 2)))))), (rq 10, .inl (0, 21, .inl (M.2.2.1 0))), (rq 11, .inl (0, 21, .inl (M.2.2.1 1))), (rq 12, .inl (0, 6, .inl M.2.2.2.1)), (rq 13, .inl (0, 441, .inl M.2.2.2.2.1))]) [0] [1, 2, 3, 4, 5, 6, 7, 8, 9, 10, 11, 12, 13] (ok_X7_product (m := rq 0) (Mo := rq 1) (Lo := rq 5) (Do := rq 9) (tl := rq 12) (ca := rq 13) h0) rfl rfl rfl rfl (by decide) ?_
  rintro o w hp
  obtain ⟨g, e1, e2⟩ := hp
  subst e1; subst e2
  exact ⟨_, [13, 0, 1, 2, 3, 4, 5, 6, 7, 8, 9, 10, 11, 12], PN.mk g rfl rfl, rfl, rfl⟩
def gM_rule (N K : Nat) (M : MS) (p0 : Int32) (p1 : Int32) : Option (Int32 × MS) := (fX7_rule N K M.2.2.2.2.2 (M.2.1 (ix 3 p0)) M.2.2.2.1 M.2.2.2.2.1 p0 p1).map (fun z => (z.1, (M.1, (upm M.2.1 (ix 3 p0) z.2.2.1), M.2.2.1, z.2.2.2.1, z.2.2.2.2, z.2.1)))
set_option maxHeartbeats 4000000 in
set_option maxRecDepth 100000 in
theorem ogM_rule {N K : Nat} {rq : Nat → Nat} {M : MS} {p0 : Int32} {p1 : Int32} {x : Int32 × MS} (hE : gM_rule N K M p0 p1 = some x) : OkM yX7_rule (.code yX7_rule cX7_rule 6 (some .int)) (1) 0 0 [.ref (rq 0), .int p0, .int p1] (WM rq M) ((PN (U := Int32 × MS) (fun z _ => some (.int z.1)) (fun z _ => WM rq z.2)) x) := by
  unfold gM_rule at hE
  obtain ⟨x0, h0, h1⟩ := Option.map_eq_some_iff.mp hE
  subst h1
  clear hE
  rcases lt3 (ix_lt (n := 3) (p := p0) (by decide)) with e | e | e
  · rw [e] at h0
    try rw [e]
    refine ok_fr (wc := [(rq 0, .inr (9, [.ref (rq 1), .ref (rq 5), .ref (rq 9), .ref (rq 12), .ref (rq 13), .int M.2.2.2.2.2])), (rq 5, .inl (4, 3, .inr (.inr (.inr (.inr (rf3 rq 6 1 3)))))), (rq 6, .inl (0, 21, .inl (M.2.1 0))), (rq 12, .inl (0, 6, .inl M.2.2.2.1)), (rq 13, .inl (0, 441, .inl M.2.2.2.2.1))]) (wr := [(rq 1, .inl (4, 3, .inr (.inr (.inr (.inr (rf3 rq 2 1 3)))))), (rq 2, .inl (0, 6144, .inl (M.1 0))), (rq 3, .inl (0, 6144, .inl (M.1 1))), (rq 4, .inl (0, 6144, .inl (M.1 2))), (rq 7, .inl (0, 21, .inl (M.2.1 1))), (rq 8, .inl (0, 21, .inl (M.2.1 2))), (rq 9, .inl (4, 2, .inr (.inr (.inr (.inr (rf3 rq 10 1 2)))))), (rq 10, .inl (0, 21, .inl (M.2.2.1 0))), (rq 11, .inl (0, 21, .inl (M.2.2.1 1)))]) [0, 5, 6, 12, 13] [1, 2, 3, 4, 7, 8, 9, 10, 11] (ok_X7_rule (m := rq 0) (Mo := rq 1) (Lo := rq 5) (Do := rq 9) (tl := rq 12) (ca := rq 13) (h := rq 6) (ll := rf3 rq 6 1 3) (fun h9 => by have h8 := ix_in h9; rw [e] at h8; exact (congrArg (rf3 rq 6 1 3) h8.symm).trans rfl) h0) rfl rfl rfl rfl (by decide) ?_
    rintro o w hp
    obtain ⟨g, e1, e2⟩ := hp
    subst e1; subst e2
    exact ⟨_, [9, 0, 1, 2, 3, 10, 11, 4, 5, 6, 7, 8, 12, 13], PN.mk g rfl rfl, rfl, rfl⟩
  · rw [e] at h0
    try rw [e]
    refine ok_fr (wc := [(rq 0, .inr (9, [.ref (rq 1), .ref (rq 5), .ref (rq 9), .ref (rq 12), .ref (rq 13), .int M.2.2.2.2.2])), (rq 5, .inl (4, 3, .inr (.inr (.inr (.inr (rf3 rq 6 1 3)))))), (rq 7, .inl (0, 21, .inl (M.2.1 1))), (rq 12, .inl (0, 6, .inl M.2.2.2.1)), (rq 13, .inl (0, 441, .inl M.2.2.2.2.1))]) (wr := [(rq 1, .inl (4, 3, .inr (.inr (.inr (.inr (rf3 rq 2 1 3)))))), (rq 2, .inl (0, 6144, .inl (M.1 0))), (rq 3, .inl (0, 6144, .inl (M.1 1))), (rq 4, .inl (0, 6144, .inl (M.1 2))), (rq 6, .inl (0, 21, .inl (M.2.1 0))), (rq 8, .inl (0, 21, .inl (M.2.1 2))), (rq 9, .inl (4, 2, .inr (.inr (.inr (.inr (rf3 rq 10 1 2)))))), (rq 10, .inl (0, 21, .inl (M.2.2.1 0))), (rq 11, .inl (0, 21, .inl (M.2.2.1 1)))]) [0, 5, 7, 12, 13] [1, 2, 3, 4, 6, 8, 9, 10, 11] (ok_X7_rule (m := rq 0) (Mo := rq 1) (Lo := rq 5) (Do := rq 9) (tl := rq 12) (ca := rq 13) (h := rq 7) (ll := rf3 rq 6 1 3) (fun h9 => by have h8 := ix_in h9; rw [e] at h8; exact (congrArg (rf3 rq 6 1 3) h8.symm).trans rfl) h0) rfl rfl rfl rfl (by decide) ?_
    rintro o w hp
    obtain ⟨g, e1, e2⟩ := hp
    subst e1; subst e2
    exact ⟨_, [9, 0, 1, 2, 3, 10, 4, 11, 5, 6, 7, 8, 12, 13], PN.mk g rfl rfl, rfl, rfl⟩
  · rw [e] at h0
    try rw [e]
    refine ok_fr (wc := [(rq 0, .inr (9, [.ref (rq 1), .ref (rq 5), .ref (rq 9), .ref (rq 12), .ref (rq 13), .int M.2.2.2.2.2])), (rq 5, .inl (4, 3, .inr (.inr (.inr (.inr (rf3 rq 6 1 3)))))), (rq 8, .inl (0, 21, .inl (M.2.1 2))), (rq 12, .inl (0, 6, .inl M.2.2.2.1)), (rq 13, .inl (0, 441, .inl M.2.2.2.2.1))]) (wr := [(rq 1, .inl (4, 3, .inr (.inr (.inr (.inr (rf3 rq 2 1 3)))))), (rq 2, .inl (0, 6144, .inl (M.1 0))), (rq 3, .inl (0, 6144, .inl (M.1 1))), (rq 4, .inl (0, 6144, .inl (M.1 2))), (rq 6, .inl (0, 21, .inl (M.2.1 0))), (rq 7, .inl (0, 21, .inl (M.2.1 1))), (rq 9, .inl (4, 2, .inr (.inr (.inr (.inr (rf3 rq 10 1 2)))))), (rq 10, .inl (0, 21, .inl (M.2.2.1 0))), (rq 11, .inl (0, 21, .inl (M.2.2.1 1)))]) [0, 5, 8, 12, 13] [1, 2, 3, 4, 6, 7, 9, 10, 11] (ok_X7_rule (m := rq 0) (Mo := rq 1) (Lo := rq 5) (Do := rq 9) (tl := rq 12) (ca := rq 13) (h := rq 8) (ll := rf3 rq 6 1 3) (fun h9 => by have h8 := ix_in h9; rw [e] at h8; exact (congrArg (rf3 rq 6 1 3) h8.symm).trans rfl) h0) rfl rfl rfl rfl (by decide) ?_
    rintro o w hp
    obtain ⟨g, e1, e2⟩ := hp
    subst e1; subst e2
    exact ⟨_, [9, 0, 1, 2, 3, 10, 4, 5, 11, 6, 7, 8, 12, 13], PN.mk g rfl rfl, rfl, rfl⟩
def gM_forgetRule (N K : Nat) (M : MS) (p0 : Int32) (p1 : Int32) : Option (Int32 × MS) := (fX7_forgetRule N K M.2.2.2.2.2 (M.2.1 (ix 3 p0)) M.2.2.2.1 p0 p1).map (fun z => (z.1, (M.1, (upm M.2.1 (ix 3 p0) z.2.2.1), M.2.2.1, z.2.2.2, M.2.2.2.2.1, z.2.1)))
set_option maxHeartbeats 4000000 in
set_option maxRecDepth 100000 in
theorem ogM_forgetRule {N K : Nat} {rq : Nat → Nat} {M : MS} {p0 : Int32} {p1 : Int32} {x : Int32 × MS} (hE : gM_forgetRule N K M p0 p1 = some x) : OkM yX7_forgetRule (.code yX7_forgetRule cX7_forgetRule 5 (some .int)) (1) 0 0 [.ref (rq 0), .int p0, .int p1] (WM rq M) ((PN (U := Int32 × MS) (fun z _ => some (.int z.1)) (fun z _ => WM rq z.2)) x) := by
  unfold gM_forgetRule at hE
  obtain ⟨x0, h0, h1⟩ := Option.map_eq_some_iff.mp hE
  subst h1
  clear hE
  rcases lt3 (ix_lt (n := 3) (p := p0) (by decide)) with e | e | e
  · rw [e] at h0
    try rw [e]
    refine ok_fr (wc := [(rq 0, .inr (9, [.ref (rq 1), .ref (rq 5), .ref (rq 9), .ref (rq 12), .ref (rq 13), .int M.2.2.2.2.2])), (rq 5, .inl (4, 3, .inr (.inr (.inr (.inr (rf3 rq 6 1 3)))))), (rq 6, .inl (0, 21, .inl (M.2.1 0))), (rq 12, .inl (0, 6, .inl M.2.2.2.1))]) (wr := [(rq 1, .inl (4, 3, .inr (.inr (.inr (.inr (rf3 rq 2 1 3)))))), (rq 2, .inl (0, 6144, .inl (M.1 0))), (rq 3, .inl (0, 6144, .inl (M.1 1))), (rq 4, .inl (0, 6144, .inl (M.1 2))), (rq 7, .inl (0, 21, .inl (M.2.1 1))), (rq 8, .inl (0, 21, .inl (M.2.1 2))), (rq 9, .inl (4, 2, .inr (.inr (.inr (.inr (rf3 rq 10 1 2)))))), (rq 10, .inl (0, 21, .inl (M.2.2.1 0))), (rq 11, .inl (0, 21, .inl (M.2.2.1 1))), (rq 13, .inl (0, 441, .inl M.2.2.2.2.1))]) [0, 5, 6, 12] [1, 2, 3, 4, 7, 8, 9, 10, 11, 13] (ok_X7_forgetRule (m := rq 0) (Mo := rq 1) (Lo := rq 5) (Do := rq 9) (tl := rq 12) (ca := rq 13) (h := rq 6) (ll := rf3 rq 6 1 3) (fun h9 => by have h8 := ix_in h9; rw [e] at h8; exact (congrArg (rf3 rq 6 1 3) h8.symm).trans rfl) h0) rfl rfl rfl rfl (by decide) ?_
    rintro o w hp
    obtain ⟨g, e1, e2⟩ := hp
    subst e1; subst e2
    exact ⟨_, [10, 0, 1, 2, 3, 11, 12, 4, 5, 6, 7, 8, 13, 9], PN.mk g rfl rfl, rfl, rfl⟩
  · rw [e] at h0
    try rw [e]
    refine ok_fr (wc := [(rq 0, .inr (9, [.ref (rq 1), .ref (rq 5), .ref (rq 9), .ref (rq 12), .ref (rq 13), .int M.2.2.2.2.2])), (rq 5, .inl (4, 3, .inr (.inr (.inr (.inr (rf3 rq 6 1 3)))))), (rq 7, .inl (0, 21, .inl (M.2.1 1))), (rq 12, .inl (0, 6, .inl M.2.2.2.1))]) (wr := [(rq 1, .inl (4, 3, .inr (.inr (.inr (.inr (rf3 rq 2 1 3)))))), (rq 2, .inl (0, 6144, .inl (M.1 0))), (rq 3, .inl (0, 6144, .inl (M.1 1))), (rq 4, .inl (0, 6144, .inl (M.1 2))), (rq 6, .inl (0, 21, .inl (M.2.1 0))), (rq 8, .inl (0, 21, .inl (M.2.1 2))), (rq 9, .inl (4, 2, .inr (.inr (.inr (.inr (rf3 rq 10 1 2)))))), (rq 10, .inl (0, 21, .inl (M.2.2.1 0))), (rq 11, .inl (0, 21, .inl (M.2.2.1 1))), (rq 13, .inl (0, 441, .inl M.2.2.2.2.1))]) [0, 5, 7, 12] [1, 2, 3, 4, 6, 8, 9, 10, 11, 13] (ok_X7_forgetRule (m := rq 0) (Mo := rq 1) (Lo := rq 5) (Do := rq 9) (tl := rq 12) (ca := rq 13) (h := rq 7) (ll := rf3 rq 6 1 3) (fun h9 => by have h8 := ix_in h9; rw [e] at h8; exact (congrArg (rf3 rq 6 1 3) h8.symm).trans rfl) h0) rfl rfl rfl rfl (by decide) ?_
    rintro o w hp
    obtain ⟨g, e1, e2⟩ := hp
    subst e1; subst e2
    exact ⟨_, [10, 0, 1, 2, 3, 11, 4, 12, 5, 6, 7, 8, 13, 9], PN.mk g rfl rfl, rfl, rfl⟩
  · rw [e] at h0
    try rw [e]
    refine ok_fr (wc := [(rq 0, .inr (9, [.ref (rq 1), .ref (rq 5), .ref (rq 9), .ref (rq 12), .ref (rq 13), .int M.2.2.2.2.2])), (rq 5, .inl (4, 3, .inr (.inr (.inr (.inr (rf3 rq 6 1 3)))))), (rq 8, .inl (0, 21, .inl (M.2.1 2))), (rq 12, .inl (0, 6, .inl M.2.2.2.1))]) (wr := [(rq 1, .inl (4, 3, .inr (.inr (.inr (.inr (rf3 rq 2 1 3)))))), (rq 2, .inl (0, 6144, .inl (M.1 0))), (rq 3, .inl (0, 6144, .inl (M.1 1))), (rq 4, .inl (0, 6144, .inl (M.1 2))), (rq 6, .inl (0, 21, .inl (M.2.1 0))), (rq 7, .inl (0, 21, .inl (M.2.1 1))), (rq 9, .inl (4, 2, .inr (.inr (.inr (.inr (rf3 rq 10 1 2)))))), (rq 10, .inl (0, 21, .inl (M.2.2.1 0))), (rq 11, .inl (0, 21, .inl (M.2.2.1 1))), (rq 13, .inl (0, 441, .inl M.2.2.2.2.1))]) [0, 5, 8, 12] [1, 2, 3, 4, 6, 7, 9, 10, 11, 13] (ok_X7_forgetRule (m := rq 0) (Mo := rq 1) (Lo := rq 5) (Do := rq 9) (tl := rq 12) (ca := rq 13) (h := rq 8) (ll := rf3 rq 6 1 3) (fun h9 => by have h8 := ix_in h9; rw [e] at h8; exact (congrArg (rf3 rq 6 1 3) h8.symm).trans rfl) h0) rfl rfl rfl rfl (by decide) ?_
    rintro o w hp
    obtain ⟨g, e1, e2⟩ := hp
    subst e1; subst e2
    exact ⟨_, [10, 0, 1, 2, 3, 11, 4, 5, 12, 6, 7, 8, 13, 9], PN.mk g rfl rfl, rfl, rfl⟩
def gM_ledger (N K : Nat) (M : MS) (p0 : Int32) (p1 : Int32) : Option (Int32 × MS) := (fX7_ledger N K M.2.2.2.2.2 (M.2.1 (ix 3 p0)) p0 p1).map (fun z => (z.1, (M.1, M.2.1, M.2.2.1, M.2.2.2.1, M.2.2.2.2.1, z.2)))
set_option maxHeartbeats 4000000 in
set_option maxRecDepth 100000 in
theorem ogM_ledger {N K : Nat} {rq : Nat → Nat} {M : MS} {p0 : Int32} {p1 : Int32} {x : Int32 × MS} (hE : gM_ledger N K M p0 p1 = some x) : OkM yX7_ledger (.code yX7_ledger cX7_ledger 3 (some .int)) (1) 0 0 [.ref (rq 0), .int p0, .int p1] (WM rq M) ((PN (U := Int32 × MS) (fun z _ => some (.int z.1)) (fun z _ => WM rq z.2)) x) := by
  unfold gM_ledger at hE
  obtain ⟨x0, h0, h1⟩ := Option.map_eq_some_iff.mp hE
  subst h1
  clear hE
  rcases lt3 (ix_lt (n := 3) (p := p0) (by decide)) with e | e | e
  · rw [e] at h0
    try rw [e]
    refine ok_fr (wc := [(rq 0, .inr (9, [.ref (rq 1), .ref (rq 5), .ref (rq 9), .ref (rq 12), .ref (rq 13), .int M.2.2.2.2.2])), (rq 5, .inl (4, 3, .inr (.inr (.inr (.inr (rf3 rq 6 1 3)))))), (rq 6, .inl (0, 21, .inl (M.2.1 0)))]) (wr := [(rq 1, .inl (4, 3, .inr (.inr (.inr (.inr (rf3 rq 2 1 3)))))), (rq 2, .inl (0, 6144, .inl (M.1 0))), (rq 3, .inl (0, 6144, .inl (M.1 1))), (rq 4, .inl (0, 6144, .inl (M.1 2))), (rq 7, .inl (0, 21, .inl (M.2.1 1))), (rq 8, .inl (0, 21, .inl (M.2.1 2))), (rq 9, .inl (4, 2, .inr (.inr (.inr (.inr (rf3 rq 10 1 2)))))), (rq 10, .inl (0, 21, .inl (M.2.2.1 0))), (rq 11, .inl (0, 21, .inl (M.2.2.1 1))), (rq 12, .inl (0, 6, .inl M.2.2.2.1)), (rq 13, .inl (0, 441, .inl M.2.2.2.2.1))]) [0, 5, 6] [1, 2, 3, 4, 7, 8, 9, 10, 11, 12, 13] (ok_X7_ledger (m := rq 0) (Mo := rq 1) (Lo := rq 5) (Do := rq 9) (tl := rq 12) (ca := rq 13) (h := rq 6) (ll := rf3 rq 6 1 3) (fun h9 => by have h8 := ix_in h9; rw [e] at h8; exact (congrArg (rf3 rq 6 1 3) h8.symm).trans rfl) h0) rfl rfl rfl rfl (by decide) ?_
    rintro o w hp
    obtain ⟨g, e1, e2⟩ := hp
    subst e1; subst e2
    exact ⟨_, [11, 0, 1, 2, 3, 12, 13, 4, 5, 6, 7, 8, 9, 10], PN.mk g rfl rfl, rfl, rfl⟩
  · rw [e] at h0
    try rw [e]
    refine ok_fr (wc := [(rq 0, .inr (9, [.ref (rq 1), .ref (rq 5), .ref (rq 9), .ref (rq 12), .ref (rq 13), .int M.2.2.2.2.2])), (rq 5, .inl (4, 3, .inr (.inr (.inr (.inr (rf3 rq 6 1 3)))))), (rq 7, .inl (0, 21, .inl (M.2.1 1)))]) (wr := [(rq 1, .inl (4, 3, .inr (.inr (.inr (.inr (rf3 rq 2 1 3)))))), (rq 2, .inl (0, 6144, .inl (M.1 0))), (rq 3, .inl (0, 6144, .inl (M.1 1))), (rq 4, .inl (0, 6144, .inl (M.1 2))), (rq 6, .inl (0, 21, .inl (M.2.1 0))), (rq 8, .inl (0, 21, .inl (M.2.1 2))), (rq 9, .inl (4, 2, .inr (.inr (.inr (.inr (rf3 rq 10 1 2)))))), (rq 10, .inl (0, 21, .inl (M.2.2.1 0))), (rq 11, .inl (0, 21, .inl (M.2.2.1 1))), (rq 12, .inl (0, 6, .inl M.2.2.2.1)), (rq 13, .inl (0, 441, .inl M.2.2.2.2.1))]) [0, 5, 7] [1, 2, 3, 4, 6, 8, 9, 10, 11, 12, 13] (ok_X7_ledger (m := rq 0) (Mo := rq 1) (Lo := rq 5) (Do := rq 9) (tl := rq 12) (ca := rq 13) (h := rq 7) (ll := rf3 rq 6 1 3) (fun h9 => by have h8 := ix_in h9; rw [e] at h8; exact (congrArg (rf3 rq 6 1 3) h8.symm).trans rfl) h0) rfl rfl rfl rfl (by decide) ?_
    rintro o w hp
    obtain ⟨g, e1, e2⟩ := hp
    subst e1; subst e2
    exact ⟨_, [11, 0, 1, 2, 3, 12, 4, 13, 5, 6, 7, 8, 9, 10], PN.mk g rfl rfl, rfl, rfl⟩
  · rw [e] at h0
    try rw [e]
    refine ok_fr (wc := [(rq 0, .inr (9, [.ref (rq 1), .ref (rq 5), .ref (rq 9), .ref (rq 12), .ref (rq 13), .int M.2.2.2.2.2])), (rq 5, .inl (4, 3, .inr (.inr (.inr (.inr (rf3 rq 6 1 3)))))), (rq 8, .inl (0, 21, .inl (M.2.1 2)))]) (wr := [(rq 1, .inl (4, 3, .inr (.inr (.inr (.inr (rf3 rq 2 1 3)))))), (rq 2, .inl (0, 6144, .inl (M.1 0))), (rq 3, .inl (0, 6144, .inl (M.1 1))), (rq 4, .inl (0, 6144, .inl (M.1 2))), (rq 6, .inl (0, 21, .inl (M.2.1 0))), (rq 7, .inl (0, 21, .inl (M.2.1 1))), (rq 9, .inl (4, 2, .inr (.inr (.inr (.inr (rf3 rq 10 1 2)))))), (rq 10, .inl (0, 21, .inl (M.2.2.1 0))), (rq 11, .inl (0, 21, .inl (M.2.2.1 1))), (rq 12, .inl (0, 6, .inl M.2.2.2.1)), (rq 13, .inl (0, 441, .inl M.2.2.2.2.1))]) [0, 5, 8] [1, 2, 3, 4, 6, 7, 9, 10, 11, 12, 13] (ok_X7_ledger (m := rq 0) (Mo := rq 1) (Lo := rq 5) (Do := rq 9) (tl := rq 12) (ca := rq 13) (h := rq 8) (ll := rf3 rq 6 1 3) (fun h9 => by have h8 := ix_in h9; rw [e] at h8; exact (congrArg (rf3 rq 6 1 3) h8.symm).trans rfl) h0) rfl rfl rfl rfl (by decide) ?_
    rintro o w hp
    obtain ⟨g, e1, e2⟩ := hp
    subst e1; subst e2
    exact ⟨_, [11, 0, 1, 2, 3, 12, 4, 5, 13, 6, 7, 8, 9, 10], PN.mk g rfl rfl, rfl, rfl⟩
def gM_ruleWorth (N K : Nat) (M : MS) (p0 : Int32) (p1 : Int32) (p2 : Int32) : Option (Int32 × MS) := (fX7_ruleWorth N K M.2.2.2.2.2 (M.2.1 (ix 3 p0)) p0 p1 p2).map (fun z => (z.1, (M.1, M.2.1, M.2.2.1, M.2.2.2.1, M.2.2.2.2.1, z.2)))
set_option maxHeartbeats 4000000 in
set_option maxRecDepth 100000 in
theorem ogM_ruleWorth {N K : Nat} {rq : Nat → Nat} {M : MS} {p0 : Int32} {p1 : Int32} {p2 : Int32} {x : Int32 × MS} (hE : gM_ruleWorth N K M p0 p1 p2 = some x) : OkM yX7_ruleWorth (.code yX7_ruleWorth cX7_ruleWorth 4 (some .int)) (1) 0 0 [.ref (rq 0), .int p0, .int p1, .int p2] (WM rq M) ((PN (U := Int32 × MS) (fun z _ => some (.int z.1)) (fun z _ => WM rq z.2)) x) := by
  unfold gM_ruleWorth at hE
  obtain ⟨x0, h0, h1⟩ := Option.map_eq_some_iff.mp hE
  subst h1
  clear hE
  rcases lt3 (ix_lt (n := 3) (p := p0) (by decide)) with e | e | e
  · rw [e] at h0
    try rw [e]
    refine ok_fr (wc := [(rq 0, .inr (9, [.ref (rq 1), .ref (rq 5), .ref (rq 9), .ref (rq 12), .ref (rq 13), .int M.2.2.2.2.2])), (rq 5, .inl (4, 3, .inr (.inr (.inr (.inr (rf3 rq 6 1 3)))))), (rq 6, .inl (0, 21, .inl (M.2.1 0)))]) (wr := [(rq 1, .inl (4, 3, .inr (.inr (.inr (.inr (rf3 rq 2 1 3)))))), (rq 2, .inl (0, 6144, .inl (M.1 0))), (rq 3, .inl (0, 6144, .inl (M.1 1))), (rq 4, .inl (0, 6144, .inl (M.1 2))), (rq 7, .inl (0, 21, .inl (M.2.1 1))), (rq 8, .inl (0, 21, .inl (M.2.1 2))), (rq 9, .inl (4, 2, .inr (.inr (.inr (.inr (rf3 rq 10 1 2)))))), (rq 10, .inl (0, 21, .inl (M.2.2.1 0))), (rq 11, .inl (0, 21, .inl (M.2.2.1 1))), (rq 12, .inl (0, 6, .inl M.2.2.2.1)), (rq 13, .inl (0, 441, .inl M.2.2.2.2.1))]) [0, 5, 6] [1, 2, 3, 4, 7, 8, 9, 10, 11, 12, 13] (ok_X7_ruleWorth (m := rq 0) (Mo := rq 1) (Lo := rq 5) (Do := rq 9) (tl := rq 12) (ca := rq 13) (h := rq 6) (ll := rf3 rq 6 1 3) (fun h9 => by have h8 := ix_in h9; rw [e] at h8; exact (congrArg (rf3 rq 6 1 3) h8.symm).trans rfl) h0) rfl rfl rfl rfl (by decide) ?_
    rintro o w hp
    obtain ⟨g, e1, e2⟩ := hp
    subst e1; subst e2
    exact ⟨_, [11, 0, 1, 2, 3, 12, 13, 4, 5, 6, 7, 8, 9, 10], PN.mk g rfl rfl, rfl, rfl⟩
  · rw [e] at h0
    try rw [e]
    refine ok_fr (wc := [(rq 0, .inr (9, [.ref (rq 1), .ref (rq 5), .ref (rq 9), .ref (rq 12), .ref (rq 13), .int M.2.2.2.2.2])), (rq 5, .inl (4, 3, .inr (.inr (.inr (.inr (rf3 rq 6 1 3)))))), (rq 7, .inl (0, 21, .inl (M.2.1 1)))]) (wr := [(rq 1, .inl (4, 3, .inr (.inr (.inr (.inr (rf3 rq 2 1 3)))))), (rq 2, .inl (0, 6144, .inl (M.1 0))), (rq 3, .inl (0, 6144, .inl (M.1 1))), (rq 4, .inl (0, 6144, .inl (M.1 2))), (rq 6, .inl (0, 21, .inl (M.2.1 0))), (rq 8, .inl (0, 21, .inl (M.2.1 2))), (rq 9, .inl (4, 2, .inr (.inr (.inr (.inr (rf3 rq 10 1 2)))))), (rq 10, .inl (0, 21, .inl (M.2.2.1 0))), (rq 11, .inl (0, 21, .inl (M.2.2.1 1))), (rq 12, .inl (0, 6, .inl M.2.2.2.1)), (rq 13, .inl (0, 441, .inl M.2.2.2.2.1))]) [0, 5, 7] [1, 2, 3, 4, 6, 8, 9, 10, 11, 12, 13] (ok_X7_ruleWorth (m := rq 0) (Mo := rq 1) (Lo := rq 5) (Do := rq 9) (tl := rq 12) (ca := rq 13) (h := rq 7) (ll := rf3 rq 6 1 3) (fun h9 => by have h8 := ix_in h9; rw [e] at h8; exact (congrArg (rf3 rq 6 1 3) h8.symm).trans rfl) h0) rfl rfl rfl rfl (by decide) ?_
    rintro o w hp
    obtain ⟨g, e1, e2⟩ := hp
    subst e1; subst e2
    exact ⟨_, [11, 0, 1, 2, 3, 12, 4, 13, 5, 6, 7, 8, 9, 10], PN.mk g rfl rfl, rfl, rfl⟩
  · rw [e] at h0
    try rw [e]
    refine ok_fr (wc := [(rq 0, .inr (9, [.ref (rq 1), .ref (rq 5), .ref (rq 9), .ref (rq 12), .ref (rq 13), .int M.2.2.2.2.2])), (rq 5, .inl (4, 3, .inr (.inr (.inr (.inr (rf3 rq 6 1 3)))))), (rq 8, .inl (0, 21, .inl (M.2.1 2)))]) (wr := [(rq 1, .inl (4, 3, .inr (.inr (.inr (.inr (rf3 rq 2 1 3)))))), (rq 2, .inl (0, 6144, .inl (M.1 0))), (rq 3, .inl (0, 6144, .inl (M.1 1))), (rq 4, .inl (0, 6144, .inl (M.1 2))), (rq 6, .inl (0, 21, .inl (M.2.1 0))), (rq 7, .inl (0, 21, .inl (M.2.1 1))), (rq 9, .inl (4, 2, .inr (.inr (.inr (.inr (rf3 rq 10 1 2)))))), (rq 10, .inl (0, 21, .inl (M.2.2.1 0))), (rq 11, .inl (0, 21, .inl (M.2.2.1 1))), (rq 12, .inl (0, 6, .inl M.2.2.2.1)), (rq 13, .inl (0, 441, .inl M.2.2.2.2.1))]) [0, 5, 8] [1, 2, 3, 4, 6, 7, 9, 10, 11, 12, 13] (ok_X7_ruleWorth (m := rq 0) (Mo := rq 1) (Lo := rq 5) (Do := rq 9) (tl := rq 12) (ca := rq 13) (h := rq 8) (ll := rf3 rq 6 1 3) (fun h9 => by have h8 := ix_in h9; rw [e] at h8; exact (congrArg (rf3 rq 6 1 3) h8.symm).trans rfl) h0) rfl rfl rfl rfl (by decide) ?_
    rintro o w hp
    obtain ⟨g, e1, e2⟩ := hp
    subst e1; subst e2
    exact ⟨_, [11, 0, 1, 2, 3, 12, 4, 5, 13, 6, 7, 8, 9, 10], PN.mk g rfl rfl, rfl, rfl⟩
def gM_addPart (N K : Nat) (M : MS) (p0 : Int32) (p1 : Int32) (p2 : Int32) : Option (Int32 × MS) := (fX7_addPart N K M.2.2.2.2.2 (M.2.2.1 (ix 2 p0)) M.2.2.2.1 p0 p1 p2).map (fun z => (z.1, (M.1, M.2.1, (upm M.2.2.1 (ix 2 p0) z.2.2.1), z.2.2.2, M.2.2.2.2.1, z.2.1)))
set_option maxHeartbeats 4000000 in
set_option maxRecDepth 100000 in
theorem ogM_addPart {N K : Nat} {rq : Nat → Nat} {M : MS} {p0 : Int32} {p1 : Int32} {p2 : Int32} {x : Int32 × MS} (hE : gM_addPart N K M p0 p1 p2 = some x) : OkM yX7_addPart (.code yX7_addPart cX7_addPart 4 (some .int)) (1) 0 0 [.ref (rq 0), .int p0, .int p1, .int p2] (WM rq M) ((PN (U := Int32 × MS) (fun z _ => some (.int z.1)) (fun z _ => WM rq z.2)) x) := by
  unfold gM_addPart at hE
  obtain ⟨x0, h0, h1⟩ := Option.map_eq_some_iff.mp hE
  subst h1
  clear hE
  rcases lt2 (ix_lt (n := 2) (p := p0) (by decide)) with e | e
  · rw [e] at h0
    try rw [e]
    refine ok_fr (wc := [(rq 0, .inr (9, [.ref (rq 1), .ref (rq 5), .ref (rq 9), .ref (rq 12), .ref (rq 13), .int M.2.2.2.2.2])), (rq 9, .inl (4, 2, .inr (.inr (.inr (.inr (rf3 rq 10 1 2)))))), (rq 10, .inl (0, 21, .inl (M.2.2.1 0))), (rq 12, .inl (0, 6, .inl M.2.2.2.1))]) (wr := [(rq 1, .inl (4, 3, .inr (.inr (.inr (.inr (rf3 rq 2 1 3)))))), (rq 2, .inl (0, 6144, .inl (M.1 0))), (rq 3, .inl (0, 6144, .inl (M.1 1))), (rq 4, .inl (0, 6144, .inl (M.1 2))), (rq 5, .inl (4, 3, .inr (.inr (.inr (.inr (rf3 rq 6 1 3)))))), (rq 6, .inl (0, 21, .inl (M.2.1 0))), (rq 7, .inl (0, 21, .inl (M.2.1 1))), (rq 8, .inl (0, 21, .inl (M.2.1 2))), (rq 11, .inl (0, 21, .inl (M.2.2.1 1))), (rq 13, .inl (0, 441, .inl M.2.2.2.2.1))]) [0, 9, 10, 12] [1, 2, 3, 4, 5, 6, 7, 8, 11, 13] (ok_X7_addPart (m := rq 0) (Mo := rq 1) (Lo := rq 5) (Do := rq 9) (tl := rq 12) (ca := rq 13) (w := rq 10) (dd := rf3 rq 10 1 2) (fun h9 => by have h8 := ix_in h9; rw [e] at h8; exact (congrArg (rf3 rq 10 1 2) h8.symm).trans rfl) h0) rfl rfl rfl rfl (by decide) ?_
    rintro o w hp
    obtain ⟨g, e1, e2⟩ := hp
    subst e1; subst e2
    exact ⟨_, [10, 0, 1, 2, 3, 4, 5, 6, 7, 11, 12, 8, 13, 9], PN.mk g rfl rfl, rfl, rfl⟩
  · rw [e] at h0
    try rw [e]
    refine ok_fr (wc := [(rq 0, .inr (9, [.ref (rq 1), .ref (rq 5), .ref (rq 9), .ref (rq 12), .ref (rq 13), .int M.2.2.2.2.2])), (rq 9, .inl (4, 2, .inr (.inr (.inr (.inr (rf3 rq 10 1 2)))))), (rq 11, .inl (0, 21, .inl (M.2.2.1 1))), (rq 12, .inl (0, 6, .inl M.2.2.2.1))]) (wr := [(rq 1, .inl (4, 3, .inr (.inr (.inr (.inr (rf3 rq 2 1 3)))))), (rq 2, .inl (0, 6144, .inl (M.1 0))), (rq 3, .inl (0, 6144, .inl (M.1 1))), (rq 4, .inl (0, 6144, .inl (M.1 2))), (rq 5, .inl (4, 3, .inr (.inr (.inr (.inr (rf3 rq 6 1 3)))))), (rq 6, .inl (0, 21, .inl (M.2.1 0))), (rq 7, .inl (0, 21, .inl (M.2.1 1))), (rq 8, .inl (0, 21, .inl (M.2.1 2))), (rq 10, .inl (0, 21, .inl (M.2.2.1 0))), (rq 13, .inl (0, 441, .inl M.2.2.2.2.1))]) [0, 9, 11, 12] [1, 2, 3, 4, 5, 6, 7, 8, 10, 13] (ok_X7_addPart (m := rq 0) (Mo := rq 1) (Lo := rq 5) (Do := rq 9) (tl := rq 12) (ca := rq 13) (w := rq 11) (dd := rf3 rq 10 1 2) (fun h9 => by have h8 := ix_in h9; rw [e] at h8; exact (congrArg (rf3 rq 10 1 2) h8.symm).trans rfl) h0) rfl rfl rfl rfl (by decide) ?_
    rintro o w hp
    obtain ⟨g, e1, e2⟩ := hp
    subst e1; subst e2
    exact ⟨_, [10, 0, 1, 2, 3, 4, 5, 6, 7, 11, 8, 12, 13, 9], PN.mk g rfl rfl, rfl, rfl⟩
def gM_takePart (N K : Nat) (M : MS) (p0 : Int32) (p1 : Int32) : Option (Int32 × MS) := (fX7_takePart N K M.2.2.2.2.2 (M.2.2.1 (ix 2 p0)) M.2.2.2.1 p0 p1).map (fun z => (z.1, (M.1, M.2.1, (upm M.2.2.1 (ix 2 p0) z.2.2.1), z.2.2.2, M.2.2.2.2.1, z.2.1)))
set_option maxHeartbeats 4000000 in
set_option maxRecDepth 100000 in
theorem ogM_takePart {N K : Nat} {rq : Nat → Nat} {M : MS} {p0 : Int32} {p1 : Int32} {x : Int32 × MS} (hE : gM_takePart N K M p0 p1 = some x) : OkM yX7_takePart (.code yX7_takePart cX7_takePart 3 (some .int)) (1) 0 0 [.ref (rq 0), .int p0, .int p1] (WM rq M) ((PN (U := Int32 × MS) (fun z _ => some (.int z.1)) (fun z _ => WM rq z.2)) x) := by
  unfold gM_takePart at hE
  obtain ⟨x0, h0, h1⟩ := Option.map_eq_some_iff.mp hE
  subst h1
  clear hE
  rcases lt2 (ix_lt (n := 2) (p := p0) (by decide)) with e | e
  · rw [e] at h0
    try rw [e]
    refine ok_fr (wc := [(rq 0, .inr (9, [.ref (rq 1), .ref (rq 5), .ref (rq 9), .ref (rq 12), .ref (rq 13), .int M.2.2.2.2.2])), (rq 9, .inl (4, 2, .inr (.inr (.inr (.inr (rf3 rq 10 1 2)))))), (rq 10, .inl (0, 21, .inl (M.2.2.1 0))), (rq 12, .inl (0, 6, .inl M.2.2.2.1))]) (wr := [(rq 1, .inl (4, 3, .inr (.inr (.inr (.inr (rf3 rq 2 1 3)))))), (rq 2, .inl (0, 6144, .inl (M.1 0))), (rq 3, .inl (0, 6144, .inl (M.1 1))), (rq 4, .inl (0, 6144, .inl (M.1 2))), (rq 5, .inl (4, 3, .inr (.inr (.inr (.inr (rf3 rq 6 1 3)))))), (rq 6, .inl (0, 21, .inl (M.2.1 0))), (rq 7, .inl (0, 21, .inl (M.2.1 1))), (rq 8, .inl (0, 21, .inl (M.2.1 2))), (rq 11, .inl (0, 21, .inl (M.2.2.1 1))), (rq 13, .inl (0, 441, .inl M.2.2.2.2.1))]) [0, 9, 10, 12] [1, 2, 3, 4, 5, 6, 7, 8, 11, 13] (ok_X7_takePart (m := rq 0) (Mo := rq 1) (Lo := rq 5) (Do := rq 9) (tl := rq 12) (ca := rq 13) (w := rq 10) (dd := rf3 rq 10 1 2) (fun h9 => by have h8 := ix_in h9; rw [e] at h8; exact (congrArg (rf3 rq 10 1 2) h8.symm).trans rfl) h0) rfl rfl rfl rfl (by decide) ?_
    rintro o w hp
    obtain ⟨g, e1, e2⟩ := hp
    subst e1; subst e2
    exact ⟨_, [10, 0, 1, 2, 3, 4, 5, 6, 7, 11, 12, 8, 13, 9], PN.mk g rfl rfl, rfl, rfl⟩
  · rw [e] at h0
    try rw [e]
    refine ok_fr (wc := [(rq 0, .inr (9, [.ref (rq 1), .ref (rq 5), .ref (rq 9), .ref (rq 12), .ref (rq 13), .int M.2.2.2.2.2])), (rq 9, .inl (4, 2, .inr (.inr (.inr (.inr (rf3 rq 10 1 2)))))), (rq 11, .inl (0, 21, .inl (M.2.2.1 1))), (rq 12, .inl (0, 6, .inl M.2.2.2.1))]) (wr := [(rq 1, .inl (4, 3, .inr (.inr (.inr (.inr (rf3 rq 2 1 3)))))), (rq 2, .inl (0, 6144, .inl (M.1 0))), (rq 3, .inl (0, 6144, .inl (M.1 1))), (rq 4, .inl (0, 6144, .inl (M.1 2))), (rq 5, .inl (4, 3, .inr (.inr (.inr (.inr (rf3 rq 6 1 3)))))), (rq 6, .inl (0, 21, .inl (M.2.1 0))), (rq 7, .inl (0, 21, .inl (M.2.1 1))), (rq 8, .inl (0, 21, .inl (M.2.1 2))), (rq 10, .inl (0, 21, .inl (M.2.2.1 0))), (rq 13, .inl (0, 441, .inl M.2.2.2.2.1))]) [0, 9, 11, 12] [1, 2, 3, 4, 5, 6, 7, 8, 10, 13] (ok_X7_takePart (m := rq 0) (Mo := rq 1) (Lo := rq 5) (Do := rq 9) (tl := rq 12) (ca := rq 13) (w := rq 11) (dd := rf3 rq 10 1 2) (fun h9 => by have h8 := ix_in h9; rw [e] at h8; exact (congrArg (rf3 rq 10 1 2) h8.symm).trans rfl) h0) rfl rfl rfl rfl (by decide) ?_
    rintro o w hp
    obtain ⟨g, e1, e2⟩ := hp
    subst e1; subst e2
    exact ⟨_, [10, 0, 1, 2, 3, 4, 5, 6, 7, 11, 8, 12, 13, 9], PN.mk g rfl rfl, rfl, rfl⟩
def gM_layFirst (N K : Nat) (M : MS) (p0 : Int32) (p1 : Int32) : Option (Int32 × MS) := (fX7_layFirst N K M.2.2.2.2.2 (M.2.2.1 (ix 2 p0)) M.2.2.2.1 p0 p1).map (fun z => (z.1, (M.1, M.2.1, (upm M.2.2.1 (ix 2 p0) z.2.2.1), z.2.2.2, M.2.2.2.2.1, z.2.1)))
set_option maxHeartbeats 4000000 in
set_option maxRecDepth 100000 in
theorem ogM_layFirst {N K : Nat} {rq : Nat → Nat} {M : MS} {p0 : Int32} {p1 : Int32} {x : Int32 × MS} (hE : gM_layFirst N K M p0 p1 = some x) : OkM yX7_layFirst (.code yX7_layFirst cX7_layFirst 3 (some .int)) (2) 1 21 [.ref (rq 0), .int p0, .int p1] (WM rq M) ((PN (U := Int32 × MS) (fun z _ => some (.int z.1)) (fun z _ => WM rq z.2)) x) := by
  unfold gM_layFirst at hE
  obtain ⟨x0, h0, h1⟩ := Option.map_eq_some_iff.mp hE
  subst h1
  clear hE
  rcases lt2 (ix_lt (n := 2) (p := p0) (by decide)) with e | e
  · rw [e] at h0
    try rw [e]
    refine ok_fr (wc := [(rq 0, .inr (9, [.ref (rq 1), .ref (rq 5), .ref (rq 9), .ref (rq 12), .ref (rq 13), .int M.2.2.2.2.2])), (rq 9, .inl (4, 2, .inr (.inr (.inr (.inr (rf3 rq 10 1 2)))))), (rq 10, .inl (0, 21, .inl (M.2.2.1 0))), (rq 12, .inl (0, 6, .inl M.2.2.2.1))]) (wr := [(rq 1, .inl (4, 3, .inr (.inr (.inr (.inr (rf3 rq 2 1 3)))))), (rq 2, .inl (0, 6144, .inl (M.1 0))), (rq 3, .inl (0, 6144, .inl (M.1 1))), (rq 4, .inl (0, 6144, .inl (M.1 2))), (rq 5, .inl (4, 3, .inr (.inr (.inr (.inr (rf3 rq 6 1 3)))))), (rq 6, .inl (0, 21, .inl (M.2.1 0))), (rq 7, .inl (0, 21, .inl (M.2.1 1))), (rq 8, .inl (0, 21, .inl (M.2.1 2))), (rq 11, .inl (0, 21, .inl (M.2.2.1 1))), (rq 13, .inl (0, 441, .inl M.2.2.2.2.1))]) [0, 9, 10, 12] [1, 2, 3, 4, 5, 6, 7, 8, 11, 13] (ok_X7_layFirst (m := rq 0) (Mo := rq 1) (Lo := rq 5) (Do := rq 9) (tl := rq 12) (ca := rq 13) (w := rq 10) (dd := rf3 rq 10 1 2) (fun h9 => by have h8 := ix_in h9; rw [e] at h8; exact (congrArg (rf3 rq 10 1 2) h8.symm).trans rfl) h0) rfl rfl rfl rfl (by decide) ?_
    rintro o w hp
    obtain ⟨g, e1, e2⟩ := hp
    subst e1; subst e2
    exact ⟨_, [10, 0, 1, 2, 3, 4, 5, 6, 7, 11, 12, 8, 13, 9], PN.mk g rfl rfl, rfl, rfl⟩
  · rw [e] at h0
    try rw [e]
    refine ok_fr (wc := [(rq 0, .inr (9, [.ref (rq 1), .ref (rq 5), .ref (rq 9), .ref (rq 12), .ref (rq 13), .int M.2.2.2.2.2])), (rq 9, .inl (4, 2, .inr (.inr (.inr (.inr (rf3 rq 10 1 2)))))), (rq 11, .inl (0, 21, .inl (M.2.2.1 1))), (rq 12, .inl (0, 6, .inl M.2.2.2.1))]) (wr := [(rq 1, .inl (4, 3, .inr (.inr (.inr (.inr (rf3 rq 2 1 3)))))), (rq 2, .inl (0, 6144, .inl (M.1 0))), (rq 3, .inl (0, 6144, .inl (M.1 1))), (rq 4, .inl (0, 6144, .inl (M.1 2))), (rq 5, .inl (4, 3, .inr (.inr (.inr (.inr (rf3 rq 6 1 3)))))), (rq 6, .inl (0, 21, .inl (M.2.1 0))), (rq 7, .inl (0, 21, .inl (M.2.1 1))), (rq 8, .inl (0, 21, .inl (M.2.1 2))), (rq 10, .inl (0, 21, .inl (M.2.2.1 0))), (rq 13, .inl (0, 441, .inl M.2.2.2.2.1))]) [0, 9, 11, 12] [1, 2, 3, 4, 5, 6, 7, 8, 10, 13] (ok_X7_layFirst (m := rq 0) (Mo := rq 1) (Lo := rq 5) (Do := rq 9) (tl := rq 12) (ca := rq 13) (w := rq 11) (dd := rf3 rq 10 1 2) (fun h9 => by have h8 := ix_in h9; rw [e] at h8; exact (congrArg (rf3 rq 10 1 2) h8.symm).trans rfl) h0) rfl rfl rfl rfl (by decide) ?_
    rintro o w hp
    obtain ⟨g, e1, e2⟩ := hp
    subst e1; subst e2
    exact ⟨_, [10, 0, 1, 2, 3, 4, 5, 6, 7, 11, 8, 12, 13, 9], PN.mk g rfl rfl, rfl, rfl⟩
def gM_next (N K : Nat) (M : MS) (p0 : Int32) : Option (Int32 × MS) := (fX7_next N K M.2.2.2.2.2 (M.2.2.1 (ix 2 p0)) M.2.2.2.1 p0).map (fun z => (z.1, (M.1, M.2.1, (upm M.2.2.1 (ix 2 p0) z.2.2.1), z.2.2.2, M.2.2.2.2.1, z.2.1)))
set_option maxHeartbeats 4000000 in
set_option maxRecDepth 100000 in
theorem ogM_next {N K : Nat} {rq : Nat → Nat} {M : MS} {p0 : Int32} {x : Int32 × MS} (hE : gM_next N K M p0 = some x) : OkM yX7_next (.code yX7_next cX7_next 2 (some .int)) (1) 0 0 [.ref (rq 0), .int p0] (WM rq M) ((PN (U := Int32 × MS) (fun z _ => some (.int z.1)) (fun z _ => WM rq z.2)) x) := by
  unfold gM_next at hE
  obtain ⟨x0, h0, h1⟩ := Option.map_eq_some_iff.mp hE
  subst h1
  clear hE
  rcases lt2 (ix_lt (n := 2) (p := p0) (by decide)) with e | e
  · rw [e] at h0
    try rw [e]
    refine ok_fr (wc := [(rq 0, .inr (9, [.ref (rq 1), .ref (rq 5), .ref (rq 9), .ref (rq 12), .ref (rq 13), .int M.2.2.2.2.2])), (rq 9, .inl (4, 2, .inr (.inr (.inr (.inr (rf3 rq 10 1 2)))))), (rq 10, .inl (0, 21, .inl (M.2.2.1 0))), (rq 12, .inl (0, 6, .inl M.2.2.2.1))]) (wr := [(rq 1, .inl (4, 3, .inr (.inr (.inr (.inr (rf3 rq 2 1 3)))))), (rq 2, .inl (0, 6144, .inl (M.1 0))), (rq 3, .inl (0, 6144, .inl (M.1 1))), (rq 4, .inl (0, 6144, .inl (M.1 2))), (rq 5, .inl (4, 3, .inr (.inr (.inr (.inr (rf3 rq 6 1 3)))))), (rq 6, .inl (0, 21, .inl (M.2.1 0))), (rq 7, .inl (0, 21, .inl (M.2.1 1))), (rq 8, .inl (0, 21, .inl (M.2.1 2))), (rq 11, .inl (0, 21, .inl (M.2.2.1 1))), (rq 13, .inl (0, 441, .inl M.2.2.2.2.1))]) [0, 9, 10, 12] [1, 2, 3, 4, 5, 6, 7, 8, 11, 13] (ok_X7_next (m := rq 0) (Mo := rq 1) (Lo := rq 5) (Do := rq 9) (tl := rq 12) (ca := rq 13) (w := rq 10) (dd := rf3 rq 10 1 2) (fun h9 => by have h8 := ix_in h9; rw [e] at h8; exact (congrArg (rf3 rq 10 1 2) h8.symm).trans rfl) h0) rfl rfl rfl rfl (by decide) ?_
    rintro o w hp
    obtain ⟨g, e1, e2⟩ := hp
    subst e1; subst e2
    exact ⟨_, [10, 0, 1, 2, 3, 4, 5, 6, 7, 11, 12, 8, 13, 9], PN.mk g rfl rfl, rfl, rfl⟩
  · rw [e] at h0
    try rw [e]
    refine ok_fr (wc := [(rq 0, .inr (9, [.ref (rq 1), .ref (rq 5), .ref (rq 9), .ref (rq 12), .ref (rq 13), .int M.2.2.2.2.2])), (rq 9, .inl (4, 2, .inr (.inr (.inr (.inr (rf3 rq 10 1 2)))))), (rq 11, .inl (0, 21, .inl (M.2.2.1 1))), (rq 12, .inl (0, 6, .inl M.2.2.2.1))]) (wr := [(rq 1, .inl (4, 3, .inr (.inr (.inr (.inr (rf3 rq 2 1 3)))))), (rq 2, .inl (0, 6144, .inl (M.1 0))), (rq 3, .inl (0, 6144, .inl (M.1 1))), (rq 4, .inl (0, 6144, .inl (M.1 2))), (rq 5, .inl (4, 3, .inr (.inr (.inr (.inr (rf3 rq 6 1 3)))))), (rq 6, .inl (0, 21, .inl (M.2.1 0))), (rq 7, .inl (0, 21, .inl (M.2.1 1))), (rq 8, .inl (0, 21, .inl (M.2.1 2))), (rq 10, .inl (0, 21, .inl (M.2.2.1 0))), (rq 13, .inl (0, 441, .inl M.2.2.2.2.1))]) [0, 9, 11, 12] [1, 2, 3, 4, 5, 6, 7, 8, 10, 13] (ok_X7_next (m := rq 0) (Mo := rq 1) (Lo := rq 5) (Do := rq 9) (tl := rq 12) (ca := rq 13) (w := rq 11) (dd := rf3 rq 10 1 2) (fun h9 => by have h8 := ix_in h9; rw [e] at h8; exact (congrArg (rf3 rq 10 1 2) h8.symm).trans rfl) h0) rfl rfl rfl rfl (by decide) ?_
    rintro o w hp
    obtain ⟨g, e1, e2⟩ := hp
    subst e1; subst e2
    exact ⟨_, [10, 0, 1, 2, 3, 4, 5, 6, 7, 11, 8, 12, 13, 9], PN.mk g rfl rfl, rfl, rfl⟩
def gM_turn (N K : Nat) (M : MS) (p0 : Int32) : Option (Int32 × MS) := (fX7_turn N K M.2.2.2.2.2 (M.2.2.1 (ix 2 p0)) M.2.2.2.1 p0).map (fun z => (z.1, (M.1, M.2.1, (upm M.2.2.1 (ix 2 p0) z.2.2.1), z.2.2.2, M.2.2.2.2.1, z.2.1)))
set_option maxHeartbeats 4000000 in
set_option maxRecDepth 100000 in
theorem ogM_turn {N K : Nat} {rq : Nat → Nat} {M : MS} {p0 : Int32} {x : Int32 × MS} (hE : gM_turn N K M p0 = some x) : OkM yX7_turn (.code yX7_turn cX7_turn 4 (some .int)) (2) 1 21 [.ref (rq 0), .int p0] (WM rq M) ((PN (U := Int32 × MS) (fun z _ => some (.int z.1)) (fun z _ => WM rq z.2)) x) := by
  unfold gM_turn at hE
  obtain ⟨x0, h0, h1⟩ := Option.map_eq_some_iff.mp hE
  subst h1
  clear hE
  rcases lt2 (ix_lt (n := 2) (p := p0) (by decide)) with e | e
  · rw [e] at h0
    try rw [e]
    refine ok_fr (wc := [(rq 0, .inr (9, [.ref (rq 1), .ref (rq 5), .ref (rq 9), .ref (rq 12), .ref (rq 13), .int M.2.2.2.2.2])), (rq 9, .inl (4, 2, .inr (.inr (.inr (.inr (rf3 rq 10 1 2)))))), (rq 10, .inl (0, 21, .inl (M.2.2.1 0))), (rq 12, .inl (0, 6, .inl M.2.2.2.1))]) (wr := [(rq 1, .inl (4, 3, .inr (.inr (.inr (.inr (rf3 rq 2 1 3)))))), (rq 2, .inl (0, 6144, .inl (M.1 0))), (rq 3, .inl (0, 6144, .inl (M.1 1))), (rq 4, .inl (0, 6144, .inl (M.1 2))), (rq 5, .inl (4, 3, .inr (.inr (.inr (.inr (rf3 rq 6 1 3)))))), (rq 6, .inl (0, 21, .inl (M.2.1 0))), (rq 7, .inl (0, 21, .inl (M.2.1 1))), (rq 8, .inl (0, 21, .inl (M.2.1 2))), (rq 11, .inl (0, 21, .inl (M.2.2.1 1))), (rq 13, .inl (0, 441, .inl M.2.2.2.2.1))]) [0, 9, 10, 12] [1, 2, 3, 4, 5, 6, 7, 8, 11, 13] (ok_X7_turn (m := rq 0) (Mo := rq 1) (Lo := rq 5) (Do := rq 9) (tl := rq 12) (ca := rq 13) (w := rq 10) (dd := rf3 rq 10 1 2) (fun h9 => by have h8 := ix_in h9; rw [e] at h8; exact (congrArg (rf3 rq 10 1 2) h8.symm).trans rfl) h0) rfl rfl rfl rfl (by decide) ?_
    rintro o w hp
    obtain ⟨g, e1, e2⟩ := hp
    subst e1; subst e2
    exact ⟨_, [10, 0, 1, 2, 3, 4, 5, 6, 7, 11, 12, 8, 13, 9], PN.mk g rfl rfl, rfl, rfl⟩
  · rw [e] at h0
    try rw [e]
    refine ok_fr (wc := [(rq 0, .inr (9, [.ref (rq 1), .ref (rq 5), .ref (rq 9), .ref (rq 12), .ref (rq 13), .int M.2.2.2.2.2])), (rq 9, .inl (4, 2, .inr (.inr (.inr (.inr (rf3 rq 10 1 2)))))), (rq 11, .inl (0, 21, .inl (M.2.2.1 1))), (rq 12, .inl (0, 6, .inl M.2.2.2.1))]) (wr := [(rq 1, .inl (4, 3, .inr (.inr (.inr (.inr (rf3 rq 2 1 3)))))), (rq 2, .inl (0, 6144, .inl (M.1 0))), (rq 3, .inl (0, 6144, .inl (M.1 1))), (rq 4, .inl (0, 6144, .inl (M.1 2))), (rq 5, .inl (4, 3, .inr (.inr (.inr (.inr (rf3 rq 6 1 3)))))), (rq 6, .inl (0, 21, .inl (M.2.1 0))), (rq 7, .inl (0, 21, .inl (M.2.1 1))), (rq 8, .inl (0, 21, .inl (M.2.1 2))), (rq 10, .inl (0, 21, .inl (M.2.2.1 0))), (rq 13, .inl (0, 441, .inl M.2.2.2.2.1))]) [0, 9, 11, 12] [1, 2, 3, 4, 5, 6, 7, 8, 10, 13] (ok_X7_turn (m := rq 0) (Mo := rq 1) (Lo := rq 5) (Do := rq 9) (tl := rq 12) (ca := rq 13) (w := rq 11) (dd := rf3 rq 10 1 2) (fun h9 => by have h8 := ix_in h9; rw [e] at h8; exact (congrArg (rf3 rq 10 1 2) h8.symm).trans rfl) h0) rfl rfl rfl rfl (by decide) ?_
    rintro o w hp
    obtain ⟨g, e1, e2⟩ := hp
    subst e1; subst e2
    exact ⟨_, [10, 0, 1, 2, 3, 4, 5, 6, 7, 11, 8, 12, 13, 9], PN.mk g rfl rfl, rfl, rfl⟩
def gM_toUnlike (N K : Nat) (M : MS) (p0 : Int32) : Option (Int32 × MS) := (fX7_toUnlike N K M.2.2.2.2.2 (M.2.2.1 (ix 2 p0)) M.2.2.2.1 p0).map (fun z => (z.1, (M.1, M.2.1, (upm M.2.2.1 (ix 2 p0) z.2.2.1), z.2.2.2, M.2.2.2.2.1, z.2.1)))
set_option maxHeartbeats 4000000 in
set_option maxRecDepth 100000 in
theorem ogM_toUnlike {N K : Nat} {rq : Nat → Nat} {M : MS} {p0 : Int32} {x : Int32 × MS} (hE : gM_toUnlike N K M p0 = some x) : OkM yX7_toUnlike (.code yX7_toUnlike cX7_toUnlike 5 (some .int)) (2) 1 21 [.ref (rq 0), .int p0] (WM rq M) ((PN (U := Int32 × MS) (fun z _ => some (.int z.1)) (fun z _ => WM rq z.2)) x) := by
  unfold gM_toUnlike at hE
  obtain ⟨x0, h0, h1⟩ := Option.map_eq_some_iff.mp hE
  subst h1
  clear hE
  rcases lt2 (ix_lt (n := 2) (p := p0) (by decide)) with e | e
  · rw [e] at h0
    try rw [e]
    refine ok_fr (wc := [(rq 0, .inr (9, [.ref (rq 1), .ref (rq 5), .ref (rq 9), .ref (rq 12), .ref (rq 13), .int M.2.2.2.2.2])), (rq 9, .inl (4, 2, .inr (.inr (.inr (.inr (rf3 rq 10 1 2)))))), (rq 10, .inl (0, 21, .inl (M.2.2.1 0))), (rq 12, .inl (0, 6, .inl M.2.2.2.1))]) (wr := [(rq 1, .inl (4, 3, .inr (.inr (.inr (.inr (rf3 rq 2 1 3)))))), (rq 2, .inl (0, 6144, .inl (M.1 0))), (rq 3, .inl (0, 6144, .inl (M.1 1))), (rq 4, .inl (0, 6144, .inl (M.1 2))), (rq 5, .inl (4, 3, .inr (.inr (.inr (.inr (rf3 rq 6 1 3)))))), (rq 6, .inl (0, 21, .inl (M.2.1 0))), (rq 7, .inl (0, 21, .inl (M.2.1 1))), (rq 8, .inl (0, 21, .inl (M.2.1 2))), (rq 11, .inl (0, 21, .inl (M.2.2.1 1))), (rq 13, .inl (0, 441, .inl M.2.2.2.2.1))]) [0, 9, 10, 12] [1, 2, 3, 4, 5, 6, 7, 8, 11, 13] (ok_X7_toUnlike (m := rq 0) (Mo := rq 1) (Lo := rq 5) (Do := rq 9) (tl := rq 12) (ca := rq 13) (w := rq 10) (dd := rf3 rq 10 1 2) (fun h9 => by have h8 := ix_in h9; rw [e] at h8; exact (congrArg (rf3 rq 10 1 2) h8.symm).trans rfl) h0) rfl rfl rfl rfl (by decide) ?_
    rintro o w hp
    obtain ⟨g, e1, e2⟩ := hp
    subst e1; subst e2
    exact ⟨_, [10, 0, 1, 2, 3, 4, 5, 6, 7, 11, 12, 8, 13, 9], PN.mk g rfl rfl, rfl, rfl⟩
  · rw [e] at h0
    try rw [e]
    refine ok_fr (wc := [(rq 0, .inr (9, [.ref (rq 1), .ref (rq 5), .ref (rq 9), .ref (rq 12), .ref (rq 13), .int M.2.2.2.2.2])), (rq 9, .inl (4, 2, .inr (.inr (.inr (.inr (rf3 rq 10 1 2)))))), (rq 11, .inl (0, 21, .inl (M.2.2.1 1))), (rq 12, .inl (0, 6, .inl M.2.2.2.1))]) (wr := [(rq 1, .inl (4, 3, .inr (.inr (.inr (.inr (rf3 rq 2 1 3)))))), (rq 2, .inl (0, 6144, .inl (M.1 0))), (rq 3, .inl (0, 6144, .inl (M.1 1))), (rq 4, .inl (0, 6144, .inl (M.1 2))), (rq 5, .inl (4, 3, .inr (.inr (.inr (.inr (rf3 rq 6 1 3)))))), (rq 6, .inl (0, 21, .inl (M.2.1 0))), (rq 7, .inl (0, 21, .inl (M.2.1 1))), (rq 8, .inl (0, 21, .inl (M.2.1 2))), (rq 10, .inl (0, 21, .inl (M.2.2.1 0))), (rq 13, .inl (0, 441, .inl M.2.2.2.2.1))]) [0, 9, 11, 12] [1, 2, 3, 4, 5, 6, 7, 8, 10, 13] (ok_X7_toUnlike (m := rq 0) (Mo := rq 1) (Lo := rq 5) (Do := rq 9) (tl := rq 12) (ca := rq 13) (w := rq 11) (dd := rf3 rq 10 1 2) (fun h9 => by have h8 := ix_in h9; rw [e] at h8; exact (congrArg (rf3 rq 10 1 2) h8.symm).trans rfl) h0) rfl rfl rfl rfl (by decide) ?_
    rintro o w hp
    obtain ⟨g, e1, e2⟩ := hp
    subst e1; subst e2
    exact ⟨_, [10, 0, 1, 2, 3, 4, 5, 6, 7, 11, 8, 12, 13, 9], PN.mk g rfl rfl, rfl, rfl⟩
def gM_toOdd (N K : Nat) (M : MS) (p0 : Int32) : Option (Int32 × MS) := (fX7_toOdd N K M.2.2.2.2.2 (M.2.2.1 (ix 2 p0)) M.2.2.2.1 p0).map (fun z => (z.1, (M.1, M.2.1, (upm M.2.2.1 (ix 2 p0) z.2.2.1), z.2.2.2, M.2.2.2.2.1, z.2.1)))
set_option maxHeartbeats 4000000 in
set_option maxRecDepth 100000 in
theorem ogM_toOdd {N K : Nat} {rq : Nat → Nat} {M : MS} {p0 : Int32} {x : Int32 × MS} (hE : gM_toOdd N K M p0 = some x) : OkM yX7_toOdd (.code yX7_toOdd cX7_toOdd 5 (some .int)) (3) 1 21 [.ref (rq 0), .int p0] (WM rq M) ((PN (U := Int32 × MS) (fun z _ => some (.int z.1)) (fun z _ => WM rq z.2)) x) := by
  unfold gM_toOdd at hE
  obtain ⟨x0, h0, h1⟩ := Option.map_eq_some_iff.mp hE
  subst h1
  clear hE
  rcases lt2 (ix_lt (n := 2) (p := p0) (by decide)) with e | e
  · rw [e] at h0
    try rw [e]
    refine ok_fr (wc := [(rq 0, .inr (9, [.ref (rq 1), .ref (rq 5), .ref (rq 9), .ref (rq 12), .ref (rq 13), .int M.2.2.2.2.2])), (rq 9, .inl (4, 2, .inr (.inr (.inr (.inr (rf3 rq 10 1 2)))))), (rq 10, .inl (0, 21, .inl (M.2.2.1 0))), (rq 12, .inl (0, 6, .inl M.2.2.2.1))]) (wr := [(rq 1, .inl (4, 3, .inr (.inr (.inr (.inr (rf3 rq 2 1 3)))))), (rq 2, .inl (0, 6144, .inl (M.1 0))), (rq 3, .inl (0, 6144, .inl (M.1 1))), (rq 4, .inl (0, 6144, .inl (M.1 2))), (rq 5, .inl (4, 3, .inr (.inr (.inr (.inr (rf3 rq 6 1 3)))))), (rq 6, .inl (0, 21, .inl (M.2.1 0))), (rq 7, .inl (0, 21, .inl (M.2.1 1))), (rq 8, .inl (0, 21, .inl (M.2.1 2))), (rq 11, .inl (0, 21, .inl (M.2.2.1 1))), (rq 13, .inl (0, 441, .inl M.2.2.2.2.1))]) [0, 9, 10, 12] [1, 2, 3, 4, 5, 6, 7, 8, 11, 13] (ok_X7_toOdd (m := rq 0) (Mo := rq 1) (Lo := rq 5) (Do := rq 9) (tl := rq 12) (ca := rq 13) (w := rq 10) (dd := rf3 rq 10 1 2) (fun h9 => by have h8 := ix_in h9; rw [e] at h8; exact (congrArg (rf3 rq 10 1 2) h8.symm).trans rfl) h0) rfl rfl rfl rfl (by decide) ?_
    rintro o w hp
    obtain ⟨g, e1, e2⟩ := hp
    subst e1; subst e2
    exact ⟨_, [10, 0, 1, 2, 3, 4, 5, 6, 7, 11, 12, 8, 13, 9], PN.mk g rfl rfl, rfl, rfl⟩
  · rw [e] at h0
    try rw [e]
    refine ok_fr (wc := [(rq 0, .inr (9, [.ref (rq 1), .ref (rq 5), .ref (rq 9), .ref (rq 12), .ref (rq 13), .int M.2.2.2.2.2])), (rq 9, .inl (4, 2, .inr (.inr (.inr (.inr (rf3 rq 10 1 2)))))), (rq 11, .inl (0, 21, .inl (M.2.2.1 1))), (rq 12, .inl (0, 6, .inl M.2.2.2.1))]) (wr := [(rq 1, .inl (4, 3, .inr (.inr (.inr (.inr (rf3 rq 2 1 3)))))), (rq 2, .inl (0, 6144, .inl (M.1 0))), (rq 3, .inl (0, 6144, .inl (M.1 1))), (rq 4, .inl (0, 6144, .inl (M.1 2))), (rq 5, .inl (4, 3, .inr (.inr (.inr (.inr (rf3 rq 6 1 3)))))), (rq 6, .inl (0, 21, .inl (M.2.1 0))), (rq 7, .inl (0, 21, .inl (M.2.1 1))), (rq 8, .inl (0, 21, .inl (M.2.1 2))), (rq 10, .inl (0, 21, .inl (M.2.2.1 0))), (rq 13, .inl (0, 441, .inl M.2.2.2.2.1))]) [0, 9, 11, 12] [1, 2, 3, 4, 5, 6, 7, 8, 10, 13] (ok_X7_toOdd (m := rq 0) (Mo := rq 1) (Lo := rq 5) (Do := rq 9) (tl := rq 12) (ca := rq 13) (w := rq 11) (dd := rf3 rq 10 1 2) (fun h9 => by have h8 := ix_in h9; rw [e] at h8; exact (congrArg (rf3 rq 10 1 2) h8.symm).trans rfl) h0) rfl rfl rfl rfl (by decide) ?_
    rintro o w hp
    obtain ⟨g, e1, e2⟩ := hp
    subst e1; subst e2
    exact ⟨_, [10, 0, 1, 2, 3, 4, 5, 6, 7, 11, 8, 12, 13, 9], PN.mk g rfl rfl, rfl, rfl⟩
def gM_copyDesk (N K : Nat) (M : MS) (p0 : Int32) : Option (Int32 × MS) := (fX7_copyDesk N K M.2.2.2.2.2 (M.2.2.1 (ix 2 p0)) (M.2.2.1 (1 - ix 2 p0)) M.2.2.2.1 p0).map (fun z => (z.1, (M.1, M.2.1, (upm M.2.2.1 (1 - ix 2 p0) z.2.2.1), z.2.2.2, M.2.2.2.2.1, z.2.1)))
set_option maxHeartbeats 4000000 in
set_option maxRecDepth 100000 in
theorem ogM_copyDesk {N K : Nat} {rq : Nat → Nat} {M : MS} {p0 : Int32} {x : Int32 × MS} (hE : gM_copyDesk N K M p0 = some x) : OkM yX7_copyDesk (.code yX7_copyDesk cX7_copyDesk 2 (some .int)) (2) 0 0 [.ref (rq 0), .int p0] (WM rq M) ((PN (U := Int32 × MS) (fun z _ => some (.int z.1)) (fun z _ => WM rq z.2)) x) := by
  unfold gM_copyDesk at hE
  obtain ⟨x0, h0, h1⟩ := Option.map_eq_some_iff.mp hE
  subst h1
  clear hE
  rcases lt2 (ix_lt (n := 2) (p := p0) (by decide)) with e | e
  · rw [e] at h0
    try rw [e]
    refine ok_fr (wc := [(rq 0, .inr (9, [.ref (rq 1), .ref (rq 5), .ref (rq 9), .ref (rq 12), .ref (rq 13), .int M.2.2.2.2.2])), (rq 9, .inl (4, 2, .inr (.inr (.inr (.inr (rf3 rq 10 1 2)))))), (rq 10, .inl (0, 21, .inl (M.2.2.1 0))), (rq 11, .inl (0, 21, .inl (M.2.2.1 1))), (rq 12, .inl (0, 6, .inl M.2.2.2.1))]) (wr := [(rq 1, .inl (4, 3, .inr (.inr (.inr (.inr (rf3 rq 2 1 3)))))), (rq 2, .inl (0, 6144, .inl (M.1 0))), (rq 3, .inl (0, 6144, .inl (M.1 1))), (rq 4, .inl (0, 6144, .inl (M.1 2))), (rq 5, .inl (4, 3, .inr (.inr (.inr (.inr (rf3 rq 6 1 3)))))), (rq 6, .inl (0, 21, .inl (M.2.1 0))), (rq 7, .inl (0, 21, .inl (M.2.1 1))), (rq 8, .inl (0, 21, .inl (M.2.1 2))), (rq 13, .inl (0, 441, .inl M.2.2.2.2.1))]) [0, 9, 10, 11, 12] [1, 2, 3, 4, 5, 6, 7, 8, 13] (ok_X7_copyDesk (m := rq 0) (Mo := rq 1) (Lo := rq 5) (Do := rq 9) (tl := rq 12) (ca := rq 13) (w := rq 10) (v := rq 11) (dd := rf3 rq 10 1 2) (fun h9 => by have h8 := ix_in h9; rw [e] at h8; exact (congrArg (rf3 rq 10 1 2) h8.symm).trans rfl) (fun h9 => by have h8 := ix_other h9; rw [e] at h8; exact (congrArg (rf3 rq 10 1 2) h8).trans rfl) h0) rfl rfl rfl rfl (by decide) ?_
    rintro o w hp
    obtain ⟨g, e1, e2⟩ := hp
    subst e1; subst e2
    exact ⟨_, [9, 0, 1, 2, 3, 4, 5, 6, 7, 10, 11, 12, 13, 8], PN.mk g rfl rfl, rfl, rfl⟩
  · rw [e] at h0
    try rw [e]
    refine ok_fr (wc := [(rq 0, .inr (9, [.ref (rq 1), .ref (rq 5), .ref (rq 9), .ref (rq 12), .ref (rq 13), .int M.2.2.2.2.2])), (rq 9, .inl (4, 2, .inr (.inr (.inr (.inr (rf3 rq 10 1 2)))))), (rq 11, .inl (0, 21, .inl (M.2.2.1 1))), (rq 10, .inl (0, 21, .inl (M.2.2.1 0))), (rq 12, .inl (0, 6, .inl M.2.2.2.1))]) (wr := [(rq 1, .inl (4, 3, .inr (.inr (.inr (.inr (rf3 rq 2 1 3)))))), (rq 2, .inl (0, 6144, .inl (M.1 0))), (rq 3, .inl (0, 6144, .inl (M.1 1))), (rq 4, .inl (0, 6144, .inl (M.1 2))), (rq 5, .inl (4, 3, .inr (.inr (.inr (.inr (rf3 rq 6 1 3)))))), (rq 6, .inl (0, 21, .inl (M.2.1 0))), (rq 7, .inl (0, 21, .inl (M.2.1 1))), (rq 8, .inl (0, 21, .inl (M.2.1 2))), (rq 13, .inl (0, 441, .inl M.2.2.2.2.1))]) [0, 9, 11, 10, 12] [1, 2, 3, 4, 5, 6, 7, 8, 13] (ok_X7_copyDesk (m := rq 0) (Mo := rq 1) (Lo := rq 5) (Do := rq 9) (tl := rq 12) (ca := rq 13) (w := rq 11) (v := rq 10) (dd := rf3 rq 10 1 2) (fun h9 => by have h8 := ix_in h9; rw [e] at h8; exact (congrArg (rf3 rq 10 1 2) h8.symm).trans rfl) (fun h9 => by have h8 := ix_other h9; rw [e] at h8; exact (congrArg (rf3 rq 10 1 2) h8).trans rfl) h0) rfl rfl rfl rfl (by decide) ?_
    rintro o w hp
    obtain ⟨g, e1, e2⟩ := hp
    subst e1; subst e2
    exact ⟨_, [9, 0, 1, 2, 3, 4, 5, 6, 7, 10, 12, 11, 13, 8], PN.mk g rfl rfl, rfl, rfl⟩
def gM_times (N K : Nat) (M : MS) (p0 : Int32) (p1 : Int32) : Option (Int32 × MS) := (fX7_times N K M.2.2.2.2.2 (M.2.2.1 (ix 2 p0)) p0 p1).map (fun z => (z.1, (M.1, M.2.1, M.2.2.1, M.2.2.2.1, M.2.2.2.2.1, z.2)))
set_option maxHeartbeats 4000000 in
set_option maxRecDepth 100000 in
theorem ogM_times {N K : Nat} {rq : Nat → Nat} {M : MS} {p0 : Int32} {p1 : Int32} {x : Int32 × MS} (hE : gM_times N K M p0 p1 = some x) : OkM yX7_times (.code yX7_times cX7_times 3 (some .int)) (1) 0 0 [.ref (rq 0), .int p0, .int p1] (WM rq M) ((PN (U := Int32 × MS) (fun z _ => some (.int z.1)) (fun z _ => WM rq z.2)) x) := by
  unfold gM_times at hE
  obtain ⟨x0, h0, h1⟩ := Option.map_eq_some_iff.mp hE
  subst h1
  clear hE
  rcases lt2 (ix_lt (n := 2) (p := p0) (by decide)) with e | e
  · rw [e] at h0
    try rw [e]
    refine ok_fr (wc := [(rq 0, .inr (9, [.ref (rq 1), .ref (rq 5), .ref (rq 9), .ref (rq 12), .ref (rq 13), .int M.2.2.2.2.2])), (rq 9, .inl (4, 2, .inr (.inr (.inr (.inr (rf3 rq 10 1 2)))))), (rq 10, .inl (0, 21, .inl (M.2.2.1 0)))]) (wr := [(rq 1, .inl (4, 3, .inr (.inr (.inr (.inr (rf3 rq 2 1 3)))))), (rq 2, .inl (0, 6144, .inl (M.1 0))), (rq 3, .inl (0, 6144, .inl (M.1 1))), (rq 4, .inl (0, 6144, .inl (M.1 2))), (rq 5, .inl (4, 3, .inr (.inr (.inr (.inr (rf3 rq 6 1 3)))))), (rq 6, .inl (0, 21, .inl (M.2.1 0))), (rq 7, .inl (0, 21, .inl (M.2.1 1))), (rq 8, .inl (0, 21, .inl (M.2.1 2))), (rq 11, .inl (0, 21, .inl (M.2.2.1 1))), (rq 12, .inl (0, 6, .inl M.2.2.2.1)), (rq 13, .inl (0, 441, .inl M.2.2.2.2.1))]) [0, 9, 10] [1, 2, 3, 4, 5, 6, 7, 8, 11, 12, 13] (ok_X7_times (m := rq 0) (Mo := rq 1) (Lo := rq 5) (Do := rq 9) (tl := rq 12) (ca := rq 13) (w := rq 10) (dd := rf3 rq 10 1 2) (fun h9 => by have h8 := ix_in h9; rw [e] at h8; exact (congrArg (rf3 rq 10 1 2) h8.symm).trans rfl) h0) rfl rfl rfl rfl (by decide) ?_
    rintro o w hp
    obtain ⟨g, e1, e2⟩ := hp
    subst e1; subst e2
    exact ⟨_, [11, 0, 1, 2, 3, 4, 5, 6, 7, 12, 13, 8, 9, 10], PN.mk g rfl rfl, rfl, rfl⟩
  · rw [e] at h0
    try rw [e]
    refine ok_fr (wc := [(rq 0, .inr (9, [.ref (rq 1), .ref (rq 5), .ref (rq 9), .ref (rq 12), .ref (rq 13), .int M.2.2.2.2.2])), (rq 9, .inl (4, 2, .inr (.inr (.inr (.inr (rf3 rq 10 1 2)))))), (rq 11, .inl (0, 21, .inl (M.2.2.1 1)))]) (wr := [(rq 1, .inl (4, 3, .inr (.inr (.inr (.inr (rf3 rq 2 1 3)))))), (rq 2, .inl (0, 6144, .inl (M.1 0))), (rq 3, .inl (0, 6144, .inl (M.1 1))), (rq 4, .inl (0, 6144, .inl (M.1 2))), (rq 5, .inl (4, 3, .inr (.inr (.inr (.inr (rf3 rq 6 1 3)))))), (rq 6, .inl (0, 21, .inl (M.2.1 0))), (rq 7, .inl (0, 21, .inl (M.2.1 1))), (rq 8, .inl (0, 21, .inl (M.2.1 2))), (rq 10, .inl (0, 21, .inl (M.2.2.1 0))), (rq 12, .inl (0, 6, .inl M.2.2.2.1)), (rq 13, .inl (0, 441, .inl M.2.2.2.2.1))]) [0, 9, 11] [1, 2, 3, 4, 5, 6, 7, 8, 10, 12, 13] (ok_X7_times (m := rq 0) (Mo := rq 1) (Lo := rq 5) (Do := rq 9) (tl := rq 12) (ca := rq 13) (w := rq 11) (dd := rf3 rq 10 1 2) (fun h9 => by have h8 := ix_in h9; rw [e] at h8; exact (congrArg (rf3 rq 10 1 2) h8.symm).trans rfl) h0) rfl rfl rfl rfl (by decide) ?_
    rintro o w hp
    obtain ⟨g, e1, e2⟩ := hp
    subst e1; subst e2
    exact ⟨_, [11, 0, 1, 2, 3, 4, 5, 6, 7, 12, 8, 13, 9, 10], PN.mk g rfl rfl, rfl, rfl⟩
def gM_way (N K : Nat) (M : MS) (p0 : Int32) (p1 : Int32) : Option (Int32 × MS) := (fX7_way N K M.2.2.2.2.2 (M.2.2.1 (ix 2 p0)) p0 p1).map (fun z => (z.1, (M.1, M.2.1, M.2.2.1, M.2.2.2.1, M.2.2.2.2.1, z.2)))
set_option maxHeartbeats 4000000 in
set_option maxRecDepth 100000 in
theorem ogM_way {N K : Nat} {rq : Nat → Nat} {M : MS} {p0 : Int32} {p1 : Int32} {x : Int32 × MS} (hE : gM_way N K M p0 p1 = some x) : OkM yX7_way (.code yX7_way cX7_way 3 (some .int)) (2) 0 0 [.ref (rq 0), .int p0, .int p1] (WM rq M) ((PN (U := Int32 × MS) (fun z _ => some (.int z.1)) (fun z _ => WM rq z.2)) x) := by
  unfold gM_way at hE
  obtain ⟨x0, h0, h1⟩ := Option.map_eq_some_iff.mp hE
  subst h1
  clear hE
  rcases lt2 (ix_lt (n := 2) (p := p0) (by decide)) with e | e
  · rw [e] at h0
    try rw [e]
    refine ok_fr (wc := [(rq 0, .inr (9, [.ref (rq 1), .ref (rq 5), .ref (rq 9), .ref (rq 12), .ref (rq 13), .int M.2.2.2.2.2])), (rq 9, .inl (4, 2, .inr (.inr (.inr (.inr (rf3 rq 10 1 2)))))), (rq 10, .inl (0, 21, .inl (M.2.2.1 0)))]) (wr := [(rq 1, .inl (4, 3, .inr (.inr (.inr (.inr (rf3 rq 2 1 3)))))), (rq 2, .inl (0, 6144, .inl (M.1 0))), (rq 3, .inl (0, 6144, .inl (M.1 1))), (rq 4, .inl (0, 6144, .inl (M.1 2))), (rq 5, .inl (4, 3, .inr (.inr (.inr (.inr (rf3 rq 6 1 3)))))), (rq 6, .inl (0, 21, .inl (M.2.1 0))), (rq 7, .inl (0, 21, .inl (M.2.1 1))), (rq 8, .inl (0, 21, .inl (M.2.1 2))), (rq 11, .inl (0, 21, .inl (M.2.2.1 1))), (rq 12, .inl (0, 6, .inl M.2.2.2.1)), (rq 13, .inl (0, 441, .inl M.2.2.2.2.1))]) [0, 9, 10] [1, 2, 3, 4, 5, 6, 7, 8, 11, 12, 13] (ok_X7_way (m := rq 0) (Mo := rq 1) (Lo := rq 5) (Do := rq 9) (tl := rq 12) (ca := rq 13) (w := rq 10) (dd := rf3 rq 10 1 2) (fun h9 => by have h8 := ix_in h9; rw [e] at h8; exact (congrArg (rf3 rq 10 1 2) h8.symm).trans rfl) h0) rfl rfl rfl rfl (by decide) ?_
    rintro o w hp
    obtain ⟨g, e1, e2⟩ := hp
    subst e1; subst e2
    exact ⟨_, [11, 0, 1, 2, 3, 4, 5, 6, 7, 12, 13, 8, 9, 10], PN.mk g rfl rfl, rfl, rfl⟩
  · rw [e] at h0
    try rw [e]
    refine ok_fr (wc := [(rq 0, .inr (9, [.ref (rq 1), .ref (rq 5), .ref (rq 9), .ref (rq 12), .ref (rq 13), .int M.2.2.2.2.2])), (rq 9, .inl (4, 2, .inr (.inr (.inr (.inr (rf3 rq 10 1 2)))))), (rq 11, .inl (0, 21, .inl (M.2.2.1 1)))]) (wr := [(rq 1, .inl (4, 3, .inr (.inr (.inr (.inr (rf3 rq 2 1 3)))))), (rq 2, .inl (0, 6144, .inl (M.1 0))), (rq 3, .inl (0, 6144, .inl (M.1 1))), (rq 4, .inl (0, 6144, .inl (M.1 2))), (rq 5, .inl (4, 3, .inr (.inr (.inr (.inr (rf3 rq 6 1 3)))))), (rq 6, .inl (0, 21, .inl (M.2.1 0))), (rq 7, .inl (0, 21, .inl (M.2.1 1))), (rq 8, .inl (0, 21, .inl (M.2.1 2))), (rq 10, .inl (0, 21, .inl (M.2.2.1 0))), (rq 12, .inl (0, 6, .inl M.2.2.2.1)), (rq 13, .inl (0, 441, .inl M.2.2.2.2.1))]) [0, 9, 11] [1, 2, 3, 4, 5, 6, 7, 8, 10, 12, 13] (ok_X7_way (m := rq 0) (Mo := rq 1) (Lo := rq 5) (Do := rq 9) (tl := rq 12) (ca := rq 13) (w := rq 11) (dd := rf3 rq 10 1 2) (fun h9 => by have h8 := ix_in h9; rw [e] at h8; exact (congrArg (rf3 rq 10 1 2) h8.symm).trans rfl) h0) rfl rfl rfl rfl (by decide) ?_
    rintro o w hp
    obtain ⟨g, e1, e2⟩ := hp
    subst e1; subst e2
    exact ⟨_, [11, 0, 1, 2, 3, 4, 5, 6, 7, 12, 8, 13, 9, 10], PN.mk g rfl rfl, rfl, rfl⟩
def gM_wayText (N K : Nat) (M : MS) (p0 : Int32) : Option (MS) := (fX7_wayText N K M.2.2.2.2.2 (M.2.2.1 (ix 2 p0)) p0).map (fun z => (M.1, M.2.1, M.2.2.1, M.2.2.2.1, M.2.2.2.2.1, z))
set_option maxHeartbeats 4000000 in
set_option maxRecDepth 100000 in
theorem ogM_wayText {N K : Nat} {rq : Nat → Nat} {M : MS} {p0 : Int32} {x : MS} (hE : gM_wayText N K M p0 = some x) : OkM yX7_wayText (.code yX7_wayText cX7_wayText 5 (some (.object "java/lang/String"))) (7) 110 8000 [.ref (rq 0), .int p0] (WM rq M) ((PN (U := MS) (fun _ g => some (.ref (g 0))) (fun z _ => WM rq z)) x) := by
  unfold gM_wayText at hE
  obtain ⟨x0, h0, h1⟩ := Option.map_eq_some_iff.mp hE
  subst h1
  clear hE
  rcases lt2 (ix_lt (n := 2) (p := p0) (by decide)) with e | e
  · rw [e] at h0
    try rw [e]
    refine ok_fr (wc := [(rq 0, .inr (9, [.ref (rq 1), .ref (rq 5), .ref (rq 9), .ref (rq 12), .ref (rq 13), .int M.2.2.2.2.2])), (rq 9, .inl (4, 2, .inr (.inr (.inr (.inr (rf3 rq 10 1 2)))))), (rq 10, .inl (0, 21, .inl (M.2.2.1 0)))]) (wr := [(rq 1, .inl (4, 3, .inr (.inr (.inr (.inr (rf3 rq 2 1 3)))))), (rq 2, .inl (0, 6144, .inl (M.1 0))), (rq 3, .inl (0, 6144, .inl (M.1 1))), (rq 4, .inl (0, 6144, .inl (M.1 2))), (rq 5, .inl (4, 3, .inr (.inr (.inr (.inr (rf3 rq 6 1 3)))))), (rq 6, .inl (0, 21, .inl (M.2.1 0))), (rq 7, .inl (0, 21, .inl (M.2.1 1))), (rq 8, .inl (0, 21, .inl (M.2.1 2))), (rq 11, .inl (0, 21, .inl (M.2.2.1 1))), (rq 12, .inl (0, 6, .inl M.2.2.2.1)), (rq 13, .inl (0, 441, .inl M.2.2.2.2.1))]) [0, 9, 10] [1, 2, 3, 4, 5, 6, 7, 8, 11, 12, 13] (ok_X7_wayText (m := rq 0) (Mo := rq 1) (Lo := rq 5) (Do := rq 9) (tl := rq 12) (ca := rq 13) (w := rq 10) (dd := rf3 rq 10 1 2) (fun h9 => by have h8 := ix_in h9; rw [e] at h8; exact (congrArg (rf3 rq 10 1 2) h8.symm).trans rfl) h0) rfl rfl rfl rfl (by decide) ?_
    rintro o w hp
    obtain ⟨g, e1, e2⟩ := hp
    subst e1; subst e2
    exact ⟨_, [11, 0, 1, 2, 3, 4, 5, 6, 7, 12, 13, 8, 9, 10], PN.mk g rfl rfl, rfl, rfl⟩
  · rw [e] at h0
    try rw [e]
    refine ok_fr (wc := [(rq 0, .inr (9, [.ref (rq 1), .ref (rq 5), .ref (rq 9), .ref (rq 12), .ref (rq 13), .int M.2.2.2.2.2])), (rq 9, .inl (4, 2, .inr (.inr (.inr (.inr (rf3 rq 10 1 2)))))), (rq 11, .inl (0, 21, .inl (M.2.2.1 1)))]) (wr := [(rq 1, .inl (4, 3, .inr (.inr (.inr (.inr (rf3 rq 2 1 3)))))), (rq 2, .inl (0, 6144, .inl (M.1 0))), (rq 3, .inl (0, 6144, .inl (M.1 1))), (rq 4, .inl (0, 6144, .inl (M.1 2))), (rq 5, .inl (4, 3, .inr (.inr (.inr (.inr (rf3 rq 6 1 3)))))), (rq 6, .inl (0, 21, .inl (M.2.1 0))), (rq 7, .inl (0, 21, .inl (M.2.1 1))), (rq 8, .inl (0, 21, .inl (M.2.1 2))), (rq 10, .inl (0, 21, .inl (M.2.2.1 0))), (rq 12, .inl (0, 6, .inl M.2.2.2.1)), (rq 13, .inl (0, 441, .inl M.2.2.2.2.1))]) [0, 9, 11] [1, 2, 3, 4, 5, 6, 7, 8, 10, 12, 13] (ok_X7_wayText (m := rq 0) (Mo := rq 1) (Lo := rq 5) (Do := rq 9) (tl := rq 12) (ca := rq 13) (w := rq 11) (dd := rf3 rq 10 1 2) (fun h9 => by have h8 := ix_in h9; rw [e] at h8; exact (congrArg (rf3 rq 10 1 2) h8.symm).trans rfl) h0) rfl rfl rfl rfl (by decide) ?_
    rintro o w hp
    obtain ⟨g, e1, e2⟩ := hp
    subst e1; subst e2
    exact ⟨_, [11, 0, 1, 2, 3, 4, 5, 6, 7, 12, 8, 13, 9, 10], PN.mk g rfl rfl, rfl, rfl⟩
def gM_isOf (N K : Nat) (M : MS) (p0 : Int32) (p1 : Int32) (p2 : Int32) : Option (Int32 × MS) := (fX7_isOf N K M.2.2.2.2.2 (M.2.2.1 (ix 2 p0)) p0 p1 p2).map (fun z => (z.1, (M.1, M.2.1, M.2.2.1, M.2.2.2.1, M.2.2.2.2.1, z.2)))
set_option maxHeartbeats 4000000 in
set_option maxRecDepth 100000 in
theorem ogM_isOf {N K : Nat} {rq : Nat → Nat} {M : MS} {p0 : Int32} {p1 : Int32} {p2 : Int32} {x : Int32 × MS} (hE : gM_isOf N K M p0 p1 p2 = some x) : OkM yX7_isOf (.code yX7_isOf cX7_isOf 4 (some .boolean)) (4) 0 0 [.ref (rq 0), .int p0, .int p1, .int p2] (WM rq M) ((PN (U := Int32 × MS) (fun z _ => some (.int z.1)) (fun z _ => WM rq z.2)) x) := by
  unfold gM_isOf at hE
  obtain ⟨x0, h0, h1⟩ := Option.map_eq_some_iff.mp hE
  subst h1
  clear hE
  rcases lt2 (ix_lt (n := 2) (p := p0) (by decide)) with e | e
  · rw [e] at h0
    try rw [e]
    refine ok_fr (wc := [(rq 0, .inr (9, [.ref (rq 1), .ref (rq 5), .ref (rq 9), .ref (rq 12), .ref (rq 13), .int M.2.2.2.2.2])), (rq 9, .inl (4, 2, .inr (.inr (.inr (.inr (rf3 rq 10 1 2)))))), (rq 10, .inl (0, 21, .inl (M.2.2.1 0)))]) (wr := [(rq 1, .inl (4, 3, .inr (.inr (.inr (.inr (rf3 rq 2 1 3)))))), (rq 2, .inl (0, 6144, .inl (M.1 0))), (rq 3, .inl (0, 6144, .inl (M.1 1))), (rq 4, .inl (0, 6144, .inl (M.1 2))), (rq 5, .inl (4, 3, .inr (.inr (.inr (.inr (rf3 rq 6 1 3)))))), (rq 6, .inl (0, 21, .inl (M.2.1 0))), (rq 7, .inl (0, 21, .inl (M.2.1 1))), (rq 8, .inl (0, 21, .inl (M.2.1 2))), (rq 11, .inl (0, 21, .inl (M.2.2.1 1))), (rq 12, .inl (0, 6, .inl M.2.2.2.1)), (rq 13, .inl (0, 441, .inl M.2.2.2.2.1))]) [0, 9, 10] [1, 2, 3, 4, 5, 6, 7, 8, 11, 12, 13] (ok_X7_isOf (m := rq 0) (Mo := rq 1) (Lo := rq 5) (Do := rq 9) (tl := rq 12) (ca := rq 13) (w := rq 10) (dd := rf3 rq 10 1 2) (fun h9 => by have h8 := ix_in h9; rw [e] at h8; exact (congrArg (rf3 rq 10 1 2) h8.symm).trans rfl) h0) rfl rfl rfl rfl (by decide) ?_
    rintro o w hp
    obtain ⟨g, e1, e2⟩ := hp
    subst e1; subst e2
    exact ⟨_, [11, 0, 1, 2, 3, 4, 5, 6, 7, 12, 13, 8, 9, 10], PN.mk g rfl rfl, rfl, rfl⟩
  · rw [e] at h0
    try rw [e]
    refine ok_fr (wc := [(rq 0, .inr (9, [.ref (rq 1), .ref (rq 5), .ref (rq 9), .ref (rq 12), .ref (rq 13), .int M.2.2.2.2.2])), (rq 9, .inl (4, 2, .inr (.inr (.inr (.inr (rf3 rq 10 1 2)))))), (rq 11, .inl (0, 21, .inl (M.2.2.1 1)))]) (wr := [(rq 1, .inl (4, 3, .inr (.inr (.inr (.inr (rf3 rq 2 1 3)))))), (rq 2, .inl (0, 6144, .inl (M.1 0))), (rq 3, .inl (0, 6144, .inl (M.1 1))), (rq 4, .inl (0, 6144, .inl (M.1 2))), (rq 5, .inl (4, 3, .inr (.inr (.inr (.inr (rf3 rq 6 1 3)))))), (rq 6, .inl (0, 21, .inl (M.2.1 0))), (rq 7, .inl (0, 21, .inl (M.2.1 1))), (rq 8, .inl (0, 21, .inl (M.2.1 2))), (rq 10, .inl (0, 21, .inl (M.2.2.1 0))), (rq 12, .inl (0, 6, .inl M.2.2.2.1)), (rq 13, .inl (0, 441, .inl M.2.2.2.2.1))]) [0, 9, 11] [1, 2, 3, 4, 5, 6, 7, 8, 10, 12, 13] (ok_X7_isOf (m := rq 0) (Mo := rq 1) (Lo := rq 5) (Do := rq 9) (tl := rq 12) (ca := rq 13) (w := rq 11) (dd := rf3 rq 10 1 2) (fun h9 => by have h8 := ix_in h9; rw [e] at h8; exact (congrArg (rf3 rq 10 1 2) h8.symm).trans rfl) h0) rfl rfl rfl rfl (by decide) ?_
    rintro o w hp
    obtain ⟨g, e1, e2⟩ := hp
    subst e1; subst e2
    exact ⟨_, [11, 0, 1, 2, 3, 4, 5, 6, 7, 12, 8, 13, 9, 10], PN.mk g rfl rfl, rfl, rfl⟩
def gM_isSameWay (N K : Nat) (M : MS) : Option (Int32 × MS) := (fX7_isSameWay N K M.2.2.2.2.2 (M.2.2.1 0) (M.2.2.1 1)).map (fun z => (z.1, (M.1, M.2.1, M.2.2.1, M.2.2.2.1, M.2.2.2.2.1, z.2)))
set_option maxHeartbeats 4000000 in
set_option maxRecDepth 100000 in
theorem ogM_isSameWay {N K : Nat} {rq : Nat → Nat} {M : MS} {x : Int32 × MS} (hE : gM_isSameWay N K M = some x) : OkM yX7_isSameWay (.code yX7_isSameWay cX7_isSameWay 1 (some .boolean)) (1) 0 0 [.ref (rq 0)] (WM rq M) ((PN (U := Int32 × MS) (fun z _ => some (.int z.1)) (fun z _ => WM rq z.2)) x) := by
  unfold gM_isSameWay at hE
  obtain ⟨x0, h0, h1⟩ := Option.map_eq_some_iff.mp hE
  subst h1
  clear hE
  refine ok_fr (wc := [(rq 0, .inr (9, [.ref (rq 1), .ref (rq 5), .ref (rq 9), .ref (rq 12), .ref (rq 13), .int M.2.2.2.2.2])), (rq 9, .inl (4, 2, .inr (.inr (.inr (.inr (rf3 rq 10 1 2)))))), (rq 10, .inl (0, 21, .inl (M.2.2.1 0))), (rq 11, .inl (0, 21, .inl (M.2.2.1 1)))]) (wr := [(rq 1, .inl (4, 3, .inr (.inr (.inr (.inr (rf3 rq 2 1 3)))))), (rq 2, .inl (0, 6144, .inl (M.1 0))), (rq 3, .inl (0, 6144, .inl (M.1 1))), (rq 4, .inl (0, 6144, .inl (M.1 2))), (rq 5, .inl (4, 3, .inr (.inr (.inr (.inr (rf3 rq 6 1 3)))))), (rq 6, .inl (0, 21, .inl (M.2.1 0))), (rq 7, .inl (0, 21, .inl (M.2.1 1))), (rq 8, .inl (0, 21, .inl (M.2.1 2))), (rq 12, .inl (0, 6, .inl M.2.2.2.1)), (rq 13, .inl (0, 441, .inl M.2.2.2.2.1))]) [0, 9, 10, 11] [1, 2, 3, 4, 5, 6, 7, 8, 12, 13] (ok_X7_isSameWay (m := rq 0) (Mo := rq 1) (Lo := rq 5) (Do := rq 9) (tl := rq 12) (ca := rq 13) (w := rq 10) (v := rq 11) (dd := rf3 rq 10 1 2) (fun _ => rfl) (fun _ => rfl) h0) rfl rfl rfl rfl (by decide) ?_
  rintro o w hp
  obtain ⟨g, e1, e2⟩ := hp
  subst e1; subst e2
  exact ⟨_, [10, 0, 1, 2, 3, 4, 5, 6, 7, 11, 12, 13, 8, 9], PN.mk g rfl rfl, rfl, rfl⟩
def gM_tally (N K : Nat) (M : MS) (p0 : Int32) : Option (Int32 × MS) := (fX7_tally N K M.2.2.2.2.2 M.2.2.2.1 p0).map (fun z => (z.1, (M.1, M.2.1, M.2.2.1, M.2.2.2.1, M.2.2.2.2.1, z.2)))
set_option maxHeartbeats 4000000 in
set_option maxRecDepth 100000 in
theorem ogM_tally {N K : Nat} {rq : Nat → Nat} {M : MS} {p0 : Int32} {x : Int32 × MS} (hE : gM_tally N K M p0 = some x) : OkM yX7_tally (.code yX7_tally cX7_tally 2 (some .int)) (1) 0 0 [.ref (rq 0), .int p0] (WM rq M) ((PN (U := Int32 × MS) (fun z _ => some (.int z.1)) (fun z _ => WM rq z.2)) x) := by
  unfold gM_tally at hE
  obtain ⟨x0, h0, h1⟩ := Option.map_eq_some_iff.mp hE
  subst h1
  clear hE
  refine ok_fr (wc := [(rq 0, .inr (9, [.ref (rq 1), .ref (rq 5), .ref (rq 9), .ref (rq 12), .ref (rq 13), .int M.2.2.2.2.2])), (rq 12, .inl (0, 6, .inl M.2.2.2.1))]) (wr := [(rq 1, .inl (4, 3, .inr (.inr (.inr (.inr (rf3 rq 2 1 3)))))), (rq 2, .inl (0, 6144, .inl (M.1 0))), (rq 3, .inl (0, 6144, .inl (M.1 1))), (rq 4, .inl (0, 6144, .inl (M.1 2))), (rq 5, .inl (4, 3, .inr (.inr (.inr (.inr (rf3 rq 6 1 3)))))), (rq 6, .inl (0, 21, .inl (M.2.1 0))), (rq 7, .inl (0, 21, .inl (M.2.1 1))), (rq 8, .inl (0, 21, .inl (M.2.1 2))), (rq 9, .inl (4, 2, .inr (.inr (.inr (.inr (rf3 rq 10 1 2)))))), (rq 10, .inl (0, 21, .inl (M.2.2.1 0))), (rq 11, .inl (0, 21, .inl (M.2.2.1 1))), (rq 13, .inl (0, 441, .inl M.2.2.2.2.1))]) [0, 12] [1, 2, 3, 4, 5, 6, 7, 8, 9, 10, 11, 13] (ok_X7_tally (m := rq 0) (Mo := rq 1) (Lo := rq 5) (Do := rq 9) (tl := rq 12) (ca := rq 13) h0) rfl rfl rfl rfl (by decide) ?_
  rintro o w hp
  obtain ⟨g, e1, e2⟩ := hp
  subst e1; subst e2
  exact ⟨_, [12, 0, 1, 2, 3, 4, 5, 6, 7, 8, 9, 10, 13, 11], PN.mk g rfl rfl, rfl, rfl⟩
def gM_knock (N K : Nat) (M : MS) : Option (Int32 × MS) := (fX7_knock N K M.2.2.2.2.2 M.2.2.2.1).map (fun z => (z.1, (M.1, M.2.1, M.2.2.1, z.2.2, M.2.2.2.2.1, z.2.1)))
set_option maxHeartbeats 4000000 in
set_option maxRecDepth 100000 in
theorem ogM_knock {N K : Nat} {rq : Nat → Nat} {M : MS} {x : Int32 × MS} (hE : gM_knock N K M = some x) : OkM yX7_knock (.code yX7_knock cX7_knock 1 (some .int)) (0) 0 0 [.ref (rq 0)] (WM rq M) ((PN (U := Int32 × MS) (fun z _ => some (.int z.1)) (fun z _ => WM rq z.2)) x) := by
  unfold gM_knock at hE
  obtain ⟨x0, h0, h1⟩ := Option.map_eq_some_iff.mp hE
  subst h1
  clear hE
  refine ok_fr (wc := [(rq 0, .inr (9, [.ref (rq 1), .ref (rq 5), .ref (rq 9), .ref (rq 12), .ref (rq 13), .int M.2.2.2.2.2])), (rq 12, .inl (0, 6, .inl M.2.2.2.1))]) (wr := [(rq 1, .inl (4, 3, .inr (.inr (.inr (.inr (rf3 rq 2 1 3)))))), (rq 2, .inl (0, 6144, .inl (M.1 0))), (rq 3, .inl (0, 6144, .inl (M.1 1))), (rq 4, .inl (0, 6144, .inl (M.1 2))), (rq 5, .inl (4, 3, .inr (.inr (.inr (.inr (rf3 rq 6 1 3)))))), (rq 6, .inl (0, 21, .inl (M.2.1 0))), (rq 7, .inl (0, 21, .inl (M.2.1 1))), (rq 8, .inl (0, 21, .inl (M.2.1 2))), (rq 9, .inl (4, 2, .inr (.inr (.inr (.inr (rf3 rq 10 1 2)))))), (rq 10, .inl (0, 21, .inl (M.2.2.1 0))), (rq 11, .inl (0, 21, .inl (M.2.2.1 1))), (rq 13, .inl (0, 441, .inl M.2.2.2.2.1))]) [0, 12] [1, 2, 3, 4, 5, 6, 7, 8, 9, 10, 11, 13] (ok_X7_knock (m := rq 0) (Mo := rq 1) (Lo := rq 5) (Do := rq 9) (tl := rq 12) (ca := rq 13) h0) rfl rfl rfl rfl (by decide) ?_
  rintro o w hp
  obtain ⟨g, e1, e2⟩ := hp
  subst e1; subst e2
  exact ⟨_, [12, 0, 1, 2, 3, 4, 5, 6, 7, 8, 9, 10, 13, 11], PN.mk g rfl rfl, rfl, rfl⟩
def gM_isSound (N K : Nat) (M : MS) (p0 : Int32) : Option (Int32 × MS) := (fX7_isSound N K M.2.2.2.2.2 (M.1 (ix 3 p0)) M.2.2.2.1 p0).map (fun z => (z.1, (M.1, M.2.1, M.2.2.1, M.2.2.2.1, M.2.2.2.2.1, z.2)))
set_option maxHeartbeats 4000000 in
set_option maxRecDepth 100000 in
theorem ogM_isSound {N K : Nat} {rq : Nat → Nat} {M : MS} {p0 : Int32} {x : Int32 × MS} (hE : gM_isSound N K M p0 = some x) : OkM yX7_isSound (.code yX7_isSound cX7_isSound 9 (some .boolean)) (2) 200 4200 [.ref (rq 0), .int p0] (WM rq M) ((PN (U := Int32 × MS) (fun z _ => some (.int z.1)) (fun z _ => WM rq z.2)) x) := by
  unfold gM_isSound at hE
  obtain ⟨x0, h0, h1⟩ := Option.map_eq_some_iff.mp hE
  subst h1
  clear hE
  rcases lt3 (ix_lt (n := 3) (p := p0) (by decide)) with e | e | e
  · rw [e] at h0
    try rw [e]
    refine ok_fr (wc := [(rq 0, .inr (9, [.ref (rq 1), .ref (rq 5), .ref (rq 9), .ref (rq 12), .ref (rq 13), .int M.2.2.2.2.2])), (rq 1, .inl (4, 3, .inr (.inr (.inr (.inr (rf3 rq 2 1 3)))))), (rq 2, .inl (0, 6144, .inl (M.1 0))), (rq 12, .inl (0, 6, .inl M.2.2.2.1))]) (wr := [(rq 3, .inl (0, 6144, .inl (M.1 1))), (rq 4, .inl (0, 6144, .inl (M.1 2))), (rq 5, .inl (4, 3, .inr (.inr (.inr (.inr (rf3 rq 6 1 3)))))), (rq 6, .inl (0, 21, .inl (M.2.1 0))), (rq 7, .inl (0, 21, .inl (M.2.1 1))), (rq 8, .inl (0, 21, .inl (M.2.1 2))), (rq 9, .inl (4, 2, .inr (.inr (.inr (.inr (rf3 rq 10 1 2)))))), (rq 10, .inl (0, 21, .inl (M.2.2.1 0))), (rq 11, .inl (0, 21, .inl (M.2.2.1 1))), (rq 13, .inl (0, 441, .inl M.2.2.2.2.1))]) [0, 1, 2, 12] [3, 4, 5, 6, 7, 8, 9, 10, 11, 13] (ok_X7_isSound (m := rq 0) (Mo := rq 1) (Lo := rq 5) (Do := rq 9) (tl := rq 12) (ca := rq 13) (q := rq 2) (mm := rf3 rq 2 1 3) (fun h9 => by have h8 := ix_in h9; rw [e] at h8; exact (congrArg (rf3 rq 2 1 3) h8.symm).trans rfl) h0) rfl rfl rfl rfl (by decide) ?_
    rintro o w hp
    obtain ⟨g, e1, e2⟩ := hp
    subst e1; subst e2
    exact ⟨_, [10, 11, 12, 0, 1, 2, 3, 4, 5, 6, 7, 8, 13, 9], PN.mk g rfl rfl, rfl, rfl⟩
  · rw [e] at h0
    try rw [e]
    refine ok_fr (wc := [(rq 0, .inr (9, [.ref (rq 1), .ref (rq 5), .ref (rq 9), .ref (rq 12), .ref (rq 13), .int M.2.2.2.2.2])), (rq 1, .inl (4, 3, .inr (.inr (.inr (.inr (rf3 rq 2 1 3)))))), (rq 3, .inl (0, 6144, .inl (M.1 1))), (rq 12, .inl (0, 6, .inl M.2.2.2.1))]) (wr := [(rq 2, .inl (0, 6144, .inl (M.1 0))), (rq 4, .inl (0, 6144, .inl (M.1 2))), (rq 5, .inl (4, 3, .inr (.inr (.inr (.inr (rf3 rq 6 1 3)))))), (rq 6, .inl (0, 21, .inl (M.2.1 0))), (rq 7, .inl (0, 21, .inl (M.2.1 1))), (rq 8, .inl (0, 21, .inl (M.2.1 2))), (rq 9, .inl (4, 2, .inr (.inr (.inr (.inr (rf3 rq 10 1 2)))))), (rq 10, .inl (0, 21, .inl (M.2.2.1 0))), (rq 11, .inl (0, 21, .inl (M.2.2.1 1))), (rq 13, .inl (0, 441, .inl M.2.2.2.2.1))]) [0, 1, 3, 12] [2, 4, 5, 6, 7, 8, 9, 10, 11, 13] (ok_X7_isSound (m := rq 0) (Mo := rq 1) (Lo := rq 5) (Do := rq 9) (tl := rq 12) (ca := rq 13) (q := rq 3) (mm := rf3 rq 2 1 3) (fun h9 => by have h8 := ix_in h9; rw [e] at h8; exact (congrArg (rf3 rq 2 1 3) h8.symm).trans rfl) h0) rfl rfl rfl rfl (by decide) ?_
    rintro o w hp
    obtain ⟨g, e1, e2⟩ := hp
    subst e1; subst e2
    exact ⟨_, [10, 11, 0, 12, 1, 2, 3, 4, 5, 6, 7, 8, 13, 9], PN.mk g rfl rfl, rfl, rfl⟩
  · rw [e] at h0
    try rw [e]
    refine ok_fr (wc := [(rq 0, .inr (9, [.ref (rq 1), .ref (rq 5), .ref (rq 9), .ref (rq 12), .ref (rq 13), .int M.2.2.2.2.2])), (rq 1, .inl (4, 3, .inr (.inr (.inr (.inr (rf3 rq 2 1 3)))))), (rq 4, .inl (0, 6144, .inl (M.1 2))), (rq 12, .inl (0, 6, .inl M.2.2.2.1))]) (wr := [(rq 2, .inl (0, 6144, .inl (M.1 0))), (rq 3, .inl (0, 6144, .inl (M.1 1))), (rq 5, .inl (4, 3, .inr (.inr (.inr (.inr (rf3 rq 6 1 3)))))), (rq 6, .inl (0, 21, .inl (M.2.1 0))), (rq 7, .inl (0, 21, .inl (M.2.1 1))), (rq 8, .inl (0, 21, .inl (M.2.1 2))), (rq 9, .inl (4, 2, .inr (.inr (.inr (.inr (rf3 rq 10 1 2)))))), (rq 10, .inl (0, 21, .inl (M.2.2.1 0))), (rq 11, .inl (0, 21, .inl (M.2.2.1 1))), (rq 13, .inl (0, 441, .inl M.2.2.2.2.1))]) [0, 1, 4, 12] [2, 3, 5, 6, 7, 8, 9, 10, 11, 13] (ok_X7_isSound (m := rq 0) (Mo := rq 1) (Lo := rq 5) (Do := rq 9) (tl := rq 12) (ca := rq 13) (q := rq 4) (mm := rf3 rq 2 1 3) (fun h9 => by have h8 := ix_in h9; rw [e] at h8; exact (congrArg (rf3 rq 2 1 3) h8.symm).trans rfl) h0) rfl rfl rfl rfl (by decide) ?_
    rintro o w hp
    obtain ⟨g, e1, e2⟩ := hp
    subst e1; subst e2
    exact ⟨_, [10, 11, 0, 1, 12, 2, 3, 4, 5, 6, 7, 8, 13, 9], PN.mk g rfl rfl, rfl, rfl⟩
def gM_digest (N K : Nat) (M : MS) : Option (Int64 × MS) := (fX7_digest N K M.2.2.2.2.2 (M.1 0) (M.1 1) (M.1 2) (M.2.1 0) (M.2.1 1) (M.2.1 2) (M.2.2.1 0) (M.2.2.1 1) M.2.2.2.1).map (fun z => (z.1, (M.1, M.2.1, M.2.2.1, M.2.2.2.1, M.2.2.2.2.1, z.2)))
set_option maxHeartbeats 4000000 in
set_option maxRecDepth 100000 in
theorem ogM_digest {N K : Nat} {rq : Nat → Nat} {M : MS} {x : Int64 × MS} (hE : gM_digest N K M = some x) : OkM yX7_digest (.code yX7_digest cX7_digest 8 (some .long)) (2) 0 0 [.ref (rq 0)] (WM rq M) ((PN (U := Int64 × MS) (fun z _ => some (.long z.1)) (fun z _ => WM rq z.2)) x) := by
  unfold gM_digest at hE
  obtain ⟨x0, h0, h1⟩ := Option.map_eq_some_iff.mp hE
  subst h1
  clear hE
  refine ok_fr (wc := [(rq 0, .inr (9, [.ref (rq 1), .ref (rq 5), .ref (rq 9), .ref (rq 12), .ref (rq 13), .int M.2.2.2.2.2])), (rq 1, .inl (4, 3, .inr (.inr (.inr (.inr (rf3 rq 2 1 3)))))), (rq 2, .inl (0, 6144, .inl (M.1 0))), (rq 3, .inl (0, 6144, .inl (M.1 1))), (rq 4, .inl (0, 6144, .inl (M.1 2))), (rq 5, .inl (4, 3, .inr (.inr (.inr (.inr (rf3 rq 6 1 3)))))), (rq 6, .inl (0, 21, .inl (M.2.1 0))), (rq 7, .inl (0, 21, .inl (M.2.1 1))), (rq 8, .inl (0, 21, .inl (M.2.1 2))), (rq 9, .inl (4, 2, .inr (.inr (.inr (.inr (rf3 rq 10 1 2)))))), (rq 10, .inl (0, 21, .inl (M.2.2.1 0))), (rq 11, .inl (0, 21, .inl (M.2.2.1 1))), (rq 12, .inl (0, 6, .inl M.2.2.2.1))]) (wr := [(rq 13, .inl (0, 441, .inl M.2.2.2.2.1))]) [0, 1, 2, 3, 4, 5, 6, 7, 8, 9, 10, 11, 12] [13] (ok_X7_digest (m := rq 0) (Mo := rq 1) (Lo := rq 5) (Do := rq 9) (tl := rq 12) (ca := rq 13) (q0 := rq 2) (q1 := rq 3) (q2 := rq 4) (h0 := rq 6) (h1 := rq 7) (h2 := rq 8) (w0 := rq 10) (w1 := rq 11) (mm := rf3 rq 2 1 3) (ll := rf3 rq 6 1 3) (dd := rf3 rq 10 1 2) (fun _ => rfl) (fun _ => rfl) (fun _ => rfl) (fun _ => rfl) (fun _ => rfl) (fun _ => rfl) (fun _ => rfl) (fun _ => rfl) h0) rfl rfl rfl rfl (by decide) ?_
  rintro o w hp
  obtain ⟨g, e1, e2⟩ := hp
  subst e1; subst e2
  exact ⟨_, [1, 2, 3, 4, 5, 6, 7, 8, 9, 10, 11, 12, 13, 0], PN.mk g rfl rfl, rfl, rfl⟩
