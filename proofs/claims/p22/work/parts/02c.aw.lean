section AWR
variable {own nm : String} {cc : ByteArray} {nL : Nat} {ret : Option FieldType} {hh : List (Nat × Nat × Nat × Nat)} {X : aX} {d : Nat} {T : Type} {post : T → aO → aW → Prop} {kc ks : Nat} {o : Option T} {pc q : Nat} {lv lv' : List (Nat × Value)} {st : List Value} {ws : aW}
theorem aw_irem {x y : Int32} (dg : decode cc pc = .ok (.irem, 1)) (hq : pc + 1 = q) (K : AW own nm cc nL ret hh X d post kc ks o q lv (.int (x % y) :: st) ws) : AW own nm cc nL ret hh X d post kc ks (if y = 0 then none else o) pc lv (.int y :: .int x :: st) ws := by
  subst hq
  intro z hz p l e R s m args below meth c D TY A H locs cells slots mc ms ls C hK hZ hd1 hd2 hc1 hc2 hc3 hc4 hP hD hS hl0
  by_cases h9 : y = 0
  · rw [if_pos h9] at hz; cases hz
  · rw [if_neg h9] at hz
    refine lv_irem C.1 C.2.1 dg h9 ?_
    rw [irem_eq_mod]
    exact K z hz p l e R s m args below meth c D TY A H locs cells slots mc ms ls C hK hZ hd1 hd2 hc1 hc2 hc3 hc4 hP hD hS hl0
theorem aw_iremT {x y : Int32} (dg : decode cc pc = .ok (.irem, 1)) (hq : pc + 1 = q) (h9 : ¬ y = 0) (K : AW own nm cc nL ret hh X d post kc ks o q lv (.int (x % y) :: st) ws) : AW own nm cc nL ret hh X d post kc ks o pc lv (.int y :: .int x :: st) ws := by
  subst hq
  intro z hz p l e R s m args below meth c D TY A H locs cells slots mc ms ls C hK hZ hd1 hd2 hc1 hc2 hc3 hc4 hP hD hS hl0
  · refine lv_irem C.1 C.2.1 dg h9 ?_
    rw [irem_eq_mod]
    exact K z hz p l e R s m args below meth c D TY A H locs cells slots mc ms ls C hK hZ hd1 hd2 hc1 hc2 hc3 hc4 hP hD hS hl0
theorem aw_if_eq {x : Int32} {off : Int} {tgt : Nat} {A B : Option T} [dec : Decidable (x = 0)] (dg : decode cc pc = .ok (.ifCond .eq off, 3)) (ht : (pc : Int) + off = (tgt : Int)) (hq : pc + 3 = q) (kt : x = 0 → AW own nm cc nL ret hh X d post kc ks A tgt lv st ws) (kf : ¬ (x = 0) → AW own nm cc nL ret hh X d post kc ks B q lv st ws) : AW own nm cc nL ret hh X d post kc ks (if x = 0 then A else B) pc lv (.int x :: st) ws := by
  subst hq
  intro z hz p l e R s m args below meth c D TY A0 H locs cells slots mc ms ls C hK hZ hd1 hd2 hc1 hc2 hc3 hc4 hP hD hS hl0
  exact lv_if_eq C.1 C.2.1 dg ht (fun h9 => kt h9 z (by rw [if_pos h9] at hz; exact hz) p l e R s m args below meth c D TY A0 H locs cells slots mc ms ls C hK hZ hd1 hd2 hc1 hc2 hc3 hc4 hP hD hS hl0) (fun h9 => kf h9 z (by rw [if_neg h9] at hz; exact hz) p l e R s m args below meth c D TY A0 H locs cells slots mc ms ls C hK hZ hd1 hd2 hc1 hc2 hc3 hc4 hP hD hS hl0)
theorem aw_if_eqT {x : Int32} {off : Int} {tgt : Nat} (dg : decode cc pc = .ok (.ifCond .eq off, 3)) (ht : (pc : Int) + off = (tgt : Int)) (h8 : x = 0) (kt : AW own nm cc nL ret hh X d post kc ks o tgt lv st ws) : AW own nm cc nL ret hh X d post kc ks o pc lv (.int x :: st) ws := by
  intro z hz p l e R s m args below meth c D TY A H locs cells slots mc ms ls C hK hZ hd1 hd2 hc1 hc2 hc3 hc4 hP hD hS hl0
  exact lv_if_eq C.1 C.2.1 dg ht (fun _ => kt z hz p l e R s m args below meth c D TY A H locs cells slots mc ms ls C hK hZ hd1 hd2 hc1 hc2 hc3 hc4 hP hD hS hl0) (fun h9 => absurd h8 h9)
theorem aw_if_eqF {x : Int32} {off : Int} {tgt : Nat} (dg : decode cc pc = .ok (.ifCond .eq off, 3)) (ht : (pc : Int) + off = (tgt : Int)) (hq : pc + 3 = q) (h8 : ¬ (x = 0)) (kf : AW own nm cc nL ret hh X d post kc ks o q lv st ws) : AW own nm cc nL ret hh X d post kc ks o pc lv (.int x :: st) ws := by
  subst hq
  intro z hz p l e R s m args below meth c D TY A H locs cells slots mc ms ls C hK hZ hd1 hd2 hc1 hc2 hc3 hc4 hP hD hS hl0
  exact lv_if_eq C.1 C.2.1 dg ht (fun h9 => absurd h9 h8) (fun _ => kf z hz p l e R s m args below meth c D TY A H locs cells slots mc ms ls C hK hZ hd1 hd2 hc1 hc2 hc3 hc4 hP hD hS hl0)
theorem aw_icmp_eq {x y : Int32} {off : Int} {tgt : Nat} {A B : Option T} [dec : Decidable (x = y)] (dg : decode cc pc = .ok (.if_icmp .eq off, 3)) (ht : (pc : Int) + off = (tgt : Int)) (hq : pc + 3 = q) (kt : x = y → AW own nm cc nL ret hh X d post kc ks A tgt lv st ws) (kf : ¬ (x = y) → AW own nm cc nL ret hh X d post kc ks B q lv st ws) : AW own nm cc nL ret hh X d post kc ks (if x = y then A else B) pc lv (.int y :: .int x :: st) ws := by
  subst hq
  intro z hz p l e R s m args below meth c D TY A0 H locs cells slots mc ms ls C hK hZ hd1 hd2 hc1 hc2 hc3 hc4 hP hD hS hl0
  exact lv_icmp_eq C.1 C.2.1 dg ht (fun h9 => kt h9 z (by rw [if_pos h9] at hz; exact hz) p l e R s m args below meth c D TY A0 H locs cells slots mc ms ls C hK hZ hd1 hd2 hc1 hc2 hc3 hc4 hP hD hS hl0) (fun h9 => kf h9 z (by rw [if_neg h9] at hz; exact hz) p l e R s m args below meth c D TY A0 H locs cells slots mc ms ls C hK hZ hd1 hd2 hc1 hc2 hc3 hc4 hP hD hS hl0)
theorem aw_icmp_eqT {x y : Int32} {off : Int} {tgt : Nat} (dg : decode cc pc = .ok (.if_icmp .eq off, 3)) (ht : (pc : Int) + off = (tgt : Int)) (h8 : x = y) (kt : AW own nm cc nL ret hh X d post kc ks o tgt lv st ws) : AW own nm cc nL ret hh X d post kc ks o pc lv (.int y :: .int x :: st) ws := by
  intro z hz p l e R s m args below meth c D TY A H locs cells slots mc ms ls C hK hZ hd1 hd2 hc1 hc2 hc3 hc4 hP hD hS hl0
  exact lv_icmp_eq C.1 C.2.1 dg ht (fun _ => kt z hz p l e R s m args below meth c D TY A H locs cells slots mc ms ls C hK hZ hd1 hd2 hc1 hc2 hc3 hc4 hP hD hS hl0) (fun h9 => absurd h8 h9)
theorem aw_icmp_eqF {x y : Int32} {off : Int} {tgt : Nat} (dg : decode cc pc = .ok (.if_icmp .eq off, 3)) (ht : (pc : Int) + off = (tgt : Int)) (hq : pc + 3 = q) (h8 : ¬ (x = y)) (kf : AW own nm cc nL ret hh X d post kc ks o q lv st ws) : AW own nm cc nL ret hh X d post kc ks o pc lv (.int y :: .int x :: st) ws := by
  subst hq
  intro z hz p l e R s m args below meth c D TY A H locs cells slots mc ms ls C hK hZ hd1 hd2 hc1 hc2 hc3 hc4 hP hD hS hl0
  exact lv_icmp_eq C.1 C.2.1 dg ht (fun h9 => absurd h9 h8) (fun _ => kf z hz p l e R s m args below meth c D TY A H locs cells slots mc ms ls C hK hZ hd1 hd2 hc1 hc2 hc3 hc4 hP hD hS hl0)
theorem aw_if_ne {x : Int32} {off : Int} {tgt : Nat} {A B : Option T} [dec : Decidable (x = 0)] (dg : decode cc pc = .ok (.ifCond .ne off, 3)) (ht : (pc : Int) + off = (tgt : Int)) (hq : pc + 3 = q) (kt : ¬ (x = 0) → AW own nm cc nL ret hh X d post kc ks A tgt lv st ws) (kf : x = 0 → AW own nm cc nL ret hh X d post kc ks B q lv st ws) : AW own nm cc nL ret hh X d post kc ks (if x = 0 then B else A) pc lv (.int x :: st) ws := by
  subst hq
  intro z hz p l e R s m args below meth c D TY A0 H locs cells slots mc ms ls C hK hZ hd1 hd2 hc1 hc2 hc3 hc4 hP hD hS hl0
  exact lv_if_ne C.1 C.2.1 dg ht (fun h9 => kt h9 z (by rw [if_neg h9] at hz; exact hz) p l e R s m args below meth c D TY A0 H locs cells slots mc ms ls C hK hZ hd1 hd2 hc1 hc2 hc3 hc4 hP hD hS hl0) (fun h9 => kf h9 z (by rw [if_pos h9] at hz; exact hz) p l e R s m args below meth c D TY A0 H locs cells slots mc ms ls C hK hZ hd1 hd2 hc1 hc2 hc3 hc4 hP hD hS hl0)
theorem aw_if_neT {x : Int32} {off : Int} {tgt : Nat} (dg : decode cc pc = .ok (.ifCond .ne off, 3)) (ht : (pc : Int) + off = (tgt : Int)) (h8 : ¬ (x = 0)) (kt : AW own nm cc nL ret hh X d post kc ks o tgt lv st ws) : AW own nm cc nL ret hh X d post kc ks o pc lv (.int x :: st) ws := by
  intro z hz p l e R s m args below meth c D TY A H locs cells slots mc ms ls C hK hZ hd1 hd2 hc1 hc2 hc3 hc4 hP hD hS hl0
  exact lv_if_ne C.1 C.2.1 dg ht (fun _ => kt z hz p l e R s m args below meth c D TY A H locs cells slots mc ms ls C hK hZ hd1 hd2 hc1 hc2 hc3 hc4 hP hD hS hl0) (fun h9 => absurd h9 h8)
theorem aw_if_neF {x : Int32} {off : Int} {tgt : Nat} (dg : decode cc pc = .ok (.ifCond .ne off, 3)) (ht : (pc : Int) + off = (tgt : Int)) (hq : pc + 3 = q) (h8 : x = 0) (kf : AW own nm cc nL ret hh X d post kc ks o q lv st ws) : AW own nm cc nL ret hh X d post kc ks o pc lv (.int x :: st) ws := by
  subst hq
  intro z hz p l e R s m args below meth c D TY A H locs cells slots mc ms ls C hK hZ hd1 hd2 hc1 hc2 hc3 hc4 hP hD hS hl0
  exact lv_if_ne C.1 C.2.1 dg ht (fun h9 => absurd h8 h9) (fun _ => kf z hz p l e R s m args below meth c D TY A H locs cells slots mc ms ls C hK hZ hd1 hd2 hc1 hc2 hc3 hc4 hP hD hS hl0)
theorem aw_icmp_ne {x y : Int32} {off : Int} {tgt : Nat} {A B : Option T} [dec : Decidable (x = y)] (dg : decode cc pc = .ok (.if_icmp .ne off, 3)) (ht : (pc : Int) + off = (tgt : Int)) (hq : pc + 3 = q) (kt : ¬ (x = y) → AW own nm cc nL ret hh X d post kc ks A tgt lv st ws) (kf : x = y → AW own nm cc nL ret hh X d post kc ks B q lv st ws) : AW own nm cc nL ret hh X d post kc ks (if x = y then B else A) pc lv (.int y :: .int x :: st) ws := by
  subst hq
  intro z hz p l e R s m args below meth c D TY A0 H locs cells slots mc ms ls C hK hZ hd1 hd2 hc1 hc2 hc3 hc4 hP hD hS hl0
  exact lv_icmp_ne C.1 C.2.1 dg ht (fun h9 => kt h9 z (by rw [if_neg h9] at hz; exact hz) p l e R s m args below meth c D TY A0 H locs cells slots mc ms ls C hK hZ hd1 hd2 hc1 hc2 hc3 hc4 hP hD hS hl0) (fun h9 => kf h9 z (by rw [if_pos h9] at hz; exact hz) p l e R s m args below meth c D TY A0 H locs cells slots mc ms ls C hK hZ hd1 hd2 hc1 hc2 hc3 hc4 hP hD hS hl0)
theorem aw_icmp_neT {x y : Int32} {off : Int} {tgt : Nat} (dg : decode cc pc = .ok (.if_icmp .ne off, 3)) (ht : (pc : Int) + off = (tgt : Int)) (h8 : ¬ (x = y)) (kt : AW own nm cc nL ret hh X d post kc ks o tgt lv st ws) : AW own nm cc nL ret hh X d post kc ks o pc lv (.int y :: .int x :: st) ws := by
  intro z hz p l e R s m args below meth c D TY A H locs cells slots mc ms ls C hK hZ hd1 hd2 hc1 hc2 hc3 hc4 hP hD hS hl0
  exact lv_icmp_ne C.1 C.2.1 dg ht (fun _ => kt z hz p l e R s m args below meth c D TY A H locs cells slots mc ms ls C hK hZ hd1 hd2 hc1 hc2 hc3 hc4 hP hD hS hl0) (fun h9 => absurd h9 h8)
theorem aw_icmp_neF {x y : Int32} {off : Int} {tgt : Nat} (dg : decode cc pc = .ok (.if_icmp .ne off, 3)) (ht : (pc : Int) + off = (tgt : Int)) (hq : pc + 3 = q) (h8 : x = y) (kf : AW own nm cc nL ret hh X d post kc ks o q lv st ws) : AW own nm cc nL ret hh X d post kc ks o pc lv (.int y :: .int x :: st) ws := by
  subst hq
  intro z hz p l e R s m args below meth c D TY A H locs cells slots mc ms ls C hK hZ hd1 hd2 hc1 hc2 hc3 hc4 hP hD hS hl0
  exact lv_icmp_ne C.1 C.2.1 dg ht (fun h9 => absurd h8 h9) (fun _ => kf z hz p l e R s m args below meth c D TY A H locs cells slots mc ms ls C hK hZ hd1 hd2 hc1 hc2 hc3 hc4 hP hD hS hl0)
theorem aw_if_lt {x : Int32} {off : Int} {tgt : Nat} {A B : Option T} [dec : Decidable (x < 0)] (dg : decode cc pc = .ok (.ifCond .lt off, 3)) (ht : (pc : Int) + off = (tgt : Int)) (hq : pc + 3 = q) (kt : x < 0 → AW own nm cc nL ret hh X d post kc ks A tgt lv st ws) (kf : ¬ (x < 0) → AW own nm cc nL ret hh X d post kc ks B q lv st ws) : AW own nm cc nL ret hh X d post kc ks (if x < 0 then A else B) pc lv (.int x :: st) ws := by
  subst hq
  intro z hz p l e R s m args below meth c D TY A0 H locs cells slots mc ms ls C hK hZ hd1 hd2 hc1 hc2 hc3 hc4 hP hD hS hl0
  exact lv_if_lt C.1 C.2.1 dg ht (fun h9 => kt h9 z (by rw [if_pos h9] at hz; exact hz) p l e R s m args below meth c D TY A0 H locs cells slots mc ms ls C hK hZ hd1 hd2 hc1 hc2 hc3 hc4 hP hD hS hl0) (fun h9 => kf h9 z (by rw [if_neg h9] at hz; exact hz) p l e R s m args below meth c D TY A0 H locs cells slots mc ms ls C hK hZ hd1 hd2 hc1 hc2 hc3 hc4 hP hD hS hl0)
theorem aw_if_ltT {x : Int32} {off : Int} {tgt : Nat} (dg : decode cc pc = .ok (.ifCond .lt off, 3)) (ht : (pc : Int) + off = (tgt : Int)) (h8 : x < 0) (kt : AW own nm cc nL ret hh X d post kc ks o tgt lv st ws) : AW own nm cc nL ret hh X d post kc ks o pc lv (.int x :: st) ws := by
  intro z hz p l e R s m args below meth c D TY A H locs cells slots mc ms ls C hK hZ hd1 hd2 hc1 hc2 hc3 hc4 hP hD hS hl0
  exact lv_if_lt C.1 C.2.1 dg ht (fun _ => kt z hz p l e R s m args below meth c D TY A H locs cells slots mc ms ls C hK hZ hd1 hd2 hc1 hc2 hc3 hc4 hP hD hS hl0) (fun h9 => absurd h8 h9)
theorem aw_if_ltF {x : Int32} {off : Int} {tgt : Nat} (dg : decode cc pc = .ok (.ifCond .lt off, 3)) (ht : (pc : Int) + off = (tgt : Int)) (hq : pc + 3 = q) (h8 : ¬ (x < 0)) (kf : AW own nm cc nL ret hh X d post kc ks o q lv st ws) : AW own nm cc nL ret hh X d post kc ks o pc lv (.int x :: st) ws := by
  subst hq
  intro z hz p l e R s m args below meth c D TY A H locs cells slots mc ms ls C hK hZ hd1 hd2 hc1 hc2 hc3 hc4 hP hD hS hl0
  exact lv_if_lt C.1 C.2.1 dg ht (fun h9 => absurd h9 h8) (fun _ => kf z hz p l e R s m args below meth c D TY A H locs cells slots mc ms ls C hK hZ hd1 hd2 hc1 hc2 hc3 hc4 hP hD hS hl0)
theorem aw_icmp_lt {x y : Int32} {off : Int} {tgt : Nat} {A B : Option T} [dec : Decidable (x < y)] (dg : decode cc pc = .ok (.if_icmp .lt off, 3)) (ht : (pc : Int) + off = (tgt : Int)) (hq : pc + 3 = q) (kt : x < y → AW own nm cc nL ret hh X d post kc ks A tgt lv st ws) (kf : ¬ (x < y) → AW own nm cc nL ret hh X d post kc ks B q lv st ws) : AW own nm cc nL ret hh X d post kc ks (if x < y then A else B) pc lv (.int y :: .int x :: st) ws := by
  subst hq
  intro z hz p l e R s m args below meth c D TY A0 H locs cells slots mc ms ls C hK hZ hd1 hd2 hc1 hc2 hc3 hc4 hP hD hS hl0
  exact lv_icmp_lt C.1 C.2.1 dg ht (fun h9 => kt h9 z (by rw [if_pos h9] at hz; exact hz) p l e R s m args below meth c D TY A0 H locs cells slots mc ms ls C hK hZ hd1 hd2 hc1 hc2 hc3 hc4 hP hD hS hl0) (fun h9 => kf h9 z (by rw [if_neg h9] at hz; exact hz) p l e R s m args below meth c D TY A0 H locs cells slots mc ms ls C hK hZ hd1 hd2 hc1 hc2 hc3 hc4 hP hD hS hl0)
theorem aw_icmp_ltT {x y : Int32} {off : Int} {tgt : Nat} (dg : decode cc pc = .ok (.if_icmp .lt off, 3)) (ht : (pc : Int) + off = (tgt : Int)) (h8 : x < y) (kt : AW own nm cc nL ret hh X d post kc ks o tgt lv st ws) : AW own nm cc nL ret hh X d post kc ks o pc lv (.int y :: .int x :: st) ws := by
  intro z hz p l e R s m args below meth c D TY A H locs cells slots mc ms ls C hK hZ hd1 hd2 hc1 hc2 hc3 hc4 hP hD hS hl0
  exact lv_icmp_lt C.1 C.2.1 dg ht (fun _ => kt z hz p l e R s m args below meth c D TY A H locs cells slots mc ms ls C hK hZ hd1 hd2 hc1 hc2 hc3 hc4 hP hD hS hl0) (fun h9 => absurd h8 h9)
theorem aw_icmp_ltF {x y : Int32} {off : Int} {tgt : Nat} (dg : decode cc pc = .ok (.if_icmp .lt off, 3)) (ht : (pc : Int) + off = (tgt : Int)) (hq : pc + 3 = q) (h8 : ¬ (x < y)) (kf : AW own nm cc nL ret hh X d post kc ks o q lv st ws) : AW own nm cc nL ret hh X d post kc ks o pc lv (.int y :: .int x :: st) ws := by
  subst hq
  intro z hz p l e R s m args below meth c D TY A H locs cells slots mc ms ls C hK hZ hd1 hd2 hc1 hc2 hc3 hc4 hP hD hS hl0
  exact lv_icmp_lt C.1 C.2.1 dg ht (fun h9 => absurd h9 h8) (fun _ => kf z hz p l e R s m args below meth c D TY A H locs cells slots mc ms ls C hK hZ hd1 hd2 hc1 hc2 hc3 hc4 hP hD hS hl0)
theorem aw_if_ge {x : Int32} {off : Int} {tgt : Nat} {A B : Option T} [dec : Decidable (0 ≤ x)] (dg : decode cc pc = .ok (.ifCond .ge off, 3)) (ht : (pc : Int) + off = (tgt : Int)) (hq : pc + 3 = q) (kt : 0 ≤ x → AW own nm cc nL ret hh X d post kc ks A tgt lv st ws) (kf : ¬ (0 ≤ x) → AW own nm cc nL ret hh X d post kc ks B q lv st ws) : AW own nm cc nL ret hh X d post kc ks (if 0 ≤ x then A else B) pc lv (.int x :: st) ws := by
  subst hq
  intro z hz p l e R s m args below meth c D TY A0 H locs cells slots mc ms ls C hK hZ hd1 hd2 hc1 hc2 hc3 hc4 hP hD hS hl0
  exact lv_if_ge C.1 C.2.1 dg ht (fun h9 => kt h9 z (by rw [if_pos h9] at hz; exact hz) p l e R s m args below meth c D TY A0 H locs cells slots mc ms ls C hK hZ hd1 hd2 hc1 hc2 hc3 hc4 hP hD hS hl0) (fun h9 => kf h9 z (by rw [if_neg h9] at hz; exact hz) p l e R s m args below meth c D TY A0 H locs cells slots mc ms ls C hK hZ hd1 hd2 hc1 hc2 hc3 hc4 hP hD hS hl0)
theorem aw_if_geT {x : Int32} {off : Int} {tgt : Nat} (dg : decode cc pc = .ok (.ifCond .ge off, 3)) (ht : (pc : Int) + off = (tgt : Int)) (h8 : 0 ≤ x) (kt : AW own nm cc nL ret hh X d post kc ks o tgt lv st ws) : AW own nm cc nL ret hh X d post kc ks o pc lv (.int x :: st) ws := by
  intro z hz p l e R s m args below meth c D TY A H locs cells slots mc ms ls C hK hZ hd1 hd2 hc1 hc2 hc3 hc4 hP hD hS hl0
  exact lv_if_ge C.1 C.2.1 dg ht (fun _ => kt z hz p l e R s m args below meth c D TY A H locs cells slots mc ms ls C hK hZ hd1 hd2 hc1 hc2 hc3 hc4 hP hD hS hl0) (fun h9 => absurd h8 h9)
theorem aw_if_geF {x : Int32} {off : Int} {tgt : Nat} (dg : decode cc pc = .ok (.ifCond .ge off, 3)) (ht : (pc : Int) + off = (tgt : Int)) (hq : pc + 3 = q) (h8 : ¬ (0 ≤ x)) (kf : AW own nm cc nL ret hh X d post kc ks o q lv st ws) : AW own nm cc nL ret hh X d post kc ks o pc lv (.int x :: st) ws := by
  subst hq
  intro z hz p l e R s m args below meth c D TY A H locs cells slots mc ms ls C hK hZ hd1 hd2 hc1 hc2 hc3 hc4 hP hD hS hl0
  exact lv_if_ge C.1 C.2.1 dg ht (fun h9 => absurd h9 h8) (fun _ => kf z hz p l e R s m args below meth c D TY A H locs cells slots mc ms ls C hK hZ hd1 hd2 hc1 hc2 hc3 hc4 hP hD hS hl0)
theorem aw_icmp_ge {x y : Int32} {off : Int} {tgt : Nat} {A B : Option T} [dec : Decidable (y ≤ x)] (dg : decode cc pc = .ok (.if_icmp .ge off, 3)) (ht : (pc : Int) + off = (tgt : Int)) (hq : pc + 3 = q) (kt : y ≤ x → AW own nm cc nL ret hh X d post kc ks A tgt lv st ws) (kf : ¬ (y ≤ x) → AW own nm cc nL ret hh X d post kc ks B q lv st ws) : AW own nm cc nL ret hh X d post kc ks (if y ≤ x then A else B) pc lv (.int y :: .int x :: st) ws := by
  subst hq
  intro z hz p l e R s m args below meth c D TY A0 H locs cells slots mc ms ls C hK hZ hd1 hd2 hc1 hc2 hc3 hc4 hP hD hS hl0
  exact lv_icmp_ge C.1 C.2.1 dg ht (fun h9 => kt h9 z (by rw [if_pos h9] at hz; exact hz) p l e R s m args below meth c D TY A0 H locs cells slots mc ms ls C hK hZ hd1 hd2 hc1 hc2 hc3 hc4 hP hD hS hl0) (fun h9 => kf h9 z (by rw [if_neg h9] at hz; exact hz) p l e R s m args below meth c D TY A0 H locs cells slots mc ms ls C hK hZ hd1 hd2 hc1 hc2 hc3 hc4 hP hD hS hl0)
theorem aw_icmp_geT {x y : Int32} {off : Int} {tgt : Nat} (dg : decode cc pc = .ok (.if_icmp .ge off, 3)) (ht : (pc : Int) + off = (tgt : Int)) (h8 : y ≤ x) (kt : AW own nm cc nL ret hh X d post kc ks o tgt lv st ws) : AW own nm cc nL ret hh X d post kc ks o pc lv (.int y :: .int x :: st) ws := by
  intro z hz p l e R s m args below meth c D TY A H locs cells slots mc ms ls C hK hZ hd1 hd2 hc1 hc2 hc3 hc4 hP hD hS hl0
  exact lv_icmp_ge C.1 C.2.1 dg ht (fun _ => kt z hz p l e R s m args below meth c D TY A H locs cells slots mc ms ls C hK hZ hd1 hd2 hc1 hc2 hc3 hc4 hP hD hS hl0) (fun h9 => absurd h8 h9)
theorem aw_icmp_geF {x y : Int32} {off : Int} {tgt : Nat} (dg : decode cc pc = .ok (.if_icmp .ge off, 3)) (ht : (pc : Int) + off = (tgt : Int)) (hq : pc + 3 = q) (h8 : ¬ (y ≤ x)) (kf : AW own nm cc nL ret hh X d post kc ks o q lv st ws) : AW own nm cc nL ret hh X d post kc ks o pc lv (.int y :: .int x :: st) ws := by
  subst hq
  intro z hz p l e R s m args below meth c D TY A H locs cells slots mc ms ls C hK hZ hd1 hd2 hc1 hc2 hc3 hc4 hP hD hS hl0
  exact lv_icmp_ge C.1 C.2.1 dg ht (fun h9 => absurd h9 h8) (fun _ => kf z hz p l e R s m args below meth c D TY A H locs cells slots mc ms ls C hK hZ hd1 hd2 hc1 hc2 hc3 hc4 hP hD hS hl0)
theorem aw_if_gt {x : Int32} {off : Int} {tgt : Nat} {A B : Option T} [dec : Decidable (0 < x)] (dg : decode cc pc = .ok (.ifCond .gt off, 3)) (ht : (pc : Int) + off = (tgt : Int)) (hq : pc + 3 = q) (kt : 0 < x → AW own nm cc nL ret hh X d post kc ks A tgt lv st ws) (kf : ¬ (0 < x) → AW own nm cc nL ret hh X d post kc ks B q lv st ws) : AW own nm cc nL ret hh X d post kc ks (if 0 < x then A else B) pc lv (.int x :: st) ws := by
  subst hq
  intro z hz p l e R s m args below meth c D TY A0 H locs cells slots mc ms ls C hK hZ hd1 hd2 hc1 hc2 hc3 hc4 hP hD hS hl0
  exact lv_if_gt C.1 C.2.1 dg ht (fun h9 => kt h9 z (by rw [if_pos h9] at hz; exact hz) p l e R s m args below meth c D TY A0 H locs cells slots mc ms ls C hK hZ hd1 hd2 hc1 hc2 hc3 hc4 hP hD hS hl0) (fun h9 => kf h9 z (by rw [if_neg h9] at hz; exact hz) p l e R s m args below meth c D TY A0 H locs cells slots mc ms ls C hK hZ hd1 hd2 hc1 hc2 hc3 hc4 hP hD hS hl0)
theorem aw_if_gtT {x : Int32} {off : Int} {tgt : Nat} (dg : decode cc pc = .ok (.ifCond .gt off, 3)) (ht : (pc : Int) + off = (tgt : Int)) (h8 : 0 < x) (kt : AW own nm cc nL ret hh X d post kc ks o tgt lv st ws) : AW own nm cc nL ret hh X d post kc ks o pc lv (.int x :: st) ws := by
  intro z hz p l e R s m args below meth c D TY A H locs cells slots mc ms ls C hK hZ hd1 hd2 hc1 hc2 hc3 hc4 hP hD hS hl0
  exact lv_if_gt C.1 C.2.1 dg ht (fun _ => kt z hz p l e R s m args below meth c D TY A H locs cells slots mc ms ls C hK hZ hd1 hd2 hc1 hc2 hc3 hc4 hP hD hS hl0) (fun h9 => absurd h8 h9)
theorem aw_if_gtF {x : Int32} {off : Int} {tgt : Nat} (dg : decode cc pc = .ok (.ifCond .gt off, 3)) (ht : (pc : Int) + off = (tgt : Int)) (hq : pc + 3 = q) (h8 : ¬ (0 < x)) (kf : AW own nm cc nL ret hh X d post kc ks o q lv st ws) : AW own nm cc nL ret hh X d post kc ks o pc lv (.int x :: st) ws := by
  subst hq
  intro z hz p l e R s m args below meth c D TY A H locs cells slots mc ms ls C hK hZ hd1 hd2 hc1 hc2 hc3 hc4 hP hD hS hl0
  exact lv_if_gt C.1 C.2.1 dg ht (fun h9 => absurd h9 h8) (fun _ => kf z hz p l e R s m args below meth c D TY A H locs cells slots mc ms ls C hK hZ hd1 hd2 hc1 hc2 hc3 hc4 hP hD hS hl0)
theorem aw_icmp_gt {x y : Int32} {off : Int} {tgt : Nat} {A B : Option T} [dec : Decidable (y < x)] (dg : decode cc pc = .ok (.if_icmp .gt off, 3)) (ht : (pc : Int) + off = (tgt : Int)) (hq : pc + 3 = q) (kt : y < x → AW own nm cc nL ret hh X d post kc ks A tgt lv st ws) (kf : ¬ (y < x) → AW own nm cc nL ret hh X d post kc ks B q lv st ws) : AW own nm cc nL ret hh X d post kc ks (if y < x then A else B) pc lv (.int y :: .int x :: st) ws := by
  subst hq
  intro z hz p l e R s m args below meth c D TY A0 H locs cells slots mc ms ls C hK hZ hd1 hd2 hc1 hc2 hc3 hc4 hP hD hS hl0
  exact lv_icmp_gt C.1 C.2.1 dg ht (fun h9 => kt h9 z (by rw [if_pos h9] at hz; exact hz) p l e R s m args below meth c D TY A0 H locs cells slots mc ms ls C hK hZ hd1 hd2 hc1 hc2 hc3 hc4 hP hD hS hl0) (fun h9 => kf h9 z (by rw [if_neg h9] at hz; exact hz) p l e R s m args below meth c D TY A0 H locs cells slots mc ms ls C hK hZ hd1 hd2 hc1 hc2 hc3 hc4 hP hD hS hl0)
theorem aw_icmp_gtT {x y : Int32} {off : Int} {tgt : Nat} (dg : decode cc pc = .ok (.if_icmp .gt off, 3)) (ht : (pc : Int) + off = (tgt : Int)) (h8 : y < x) (kt : AW own nm cc nL ret hh X d post kc ks o tgt lv st ws) : AW own nm cc nL ret hh X d post kc ks o pc lv (.int y :: .int x :: st) ws := by
  intro z hz p l e R s m args below meth c D TY A H locs cells slots mc ms ls C hK hZ hd1 hd2 hc1 hc2 hc3 hc4 hP hD hS hl0
  exact lv_icmp_gt C.1 C.2.1 dg ht (fun _ => kt z hz p l e R s m args below meth c D TY A H locs cells slots mc ms ls C hK hZ hd1 hd2 hc1 hc2 hc3 hc4 hP hD hS hl0) (fun h9 => absurd h8 h9)
theorem aw_icmp_gtF {x y : Int32} {off : Int} {tgt : Nat} (dg : decode cc pc = .ok (.if_icmp .gt off, 3)) (ht : (pc : Int) + off = (tgt : Int)) (hq : pc + 3 = q) (h8 : ¬ (y < x)) (kf : AW own nm cc nL ret hh X d post kc ks o q lv st ws) : AW own nm cc nL ret hh X d post kc ks o pc lv (.int y :: .int x :: st) ws := by
  subst hq
  intro z hz p l e R s m args below meth c D TY A H locs cells slots mc ms ls C hK hZ hd1 hd2 hc1 hc2 hc3 hc4 hP hD hS hl0
  exact lv_icmp_gt C.1 C.2.1 dg ht (fun h9 => absurd h9 h8) (fun _ => kf z hz p l e R s m args below meth c D TY A H locs cells slots mc ms ls C hK hZ hd1 hd2 hc1 hc2 hc3 hc4 hP hD hS hl0)
theorem aw_if_le {x : Int32} {off : Int} {tgt : Nat} {A B : Option T} [dec : Decidable (x ≤ 0)] (dg : decode cc pc = .ok (.ifCond .le off, 3)) (ht : (pc : Int) + off = (tgt : Int)) (hq : pc + 3 = q) (kt : x ≤ 0 → AW own nm cc nL ret hh X d post kc ks A tgt lv st ws) (kf : ¬ (x ≤ 0) → AW own nm cc nL ret hh X d post kc ks B q lv st ws) : AW own nm cc nL ret hh X d post kc ks (if x ≤ 0 then A else B) pc lv (.int x :: st) ws := by
  subst hq
  intro z hz p l e R s m args below meth c D TY A0 H locs cells slots mc ms ls C hK hZ hd1 hd2 hc1 hc2 hc3 hc4 hP hD hS hl0
  exact lv_if_le C.1 C.2.1 dg ht (fun h9 => kt h9 z (by rw [if_pos h9] at hz; exact hz) p l e R s m args below meth c D TY A0 H locs cells slots mc ms ls C hK hZ hd1 hd2 hc1 hc2 hc3 hc4 hP hD hS hl0) (fun h9 => kf h9 z (by rw [if_neg h9] at hz; exact hz) p l e R s m args below meth c D TY A0 H locs cells slots mc ms ls C hK hZ hd1 hd2 hc1 hc2 hc3 hc4 hP hD hS hl0)
theorem aw_if_leT {x : Int32} {off : Int} {tgt : Nat} (dg : decode cc pc = .ok (.ifCond .le off, 3)) (ht : (pc : Int) + off = (tgt : Int)) (h8 : x ≤ 0) (kt : AW own nm cc nL ret hh X d post kc ks o tgt lv st ws) : AW own nm cc nL ret hh X d post kc ks o pc lv (.int x :: st) ws := by
  intro z hz p l e R s m args below meth c D TY A H locs cells slots mc ms ls C hK hZ hd1 hd2 hc1 hc2 hc3 hc4 hP hD hS hl0
  exact lv_if_le C.1 C.2.1 dg ht (fun _ => kt z hz p l e R s m args below meth c D TY A H locs cells slots mc ms ls C hK hZ hd1 hd2 hc1 hc2 hc3 hc4 hP hD hS hl0) (fun h9 => absurd h8 h9)
theorem aw_if_leF {x : Int32} {off : Int} {tgt : Nat} (dg : decode cc pc = .ok (.ifCond .le off, 3)) (ht : (pc : Int) + off = (tgt : Int)) (hq : pc + 3 = q) (h8 : ¬ (x ≤ 0)) (kf : AW own nm cc nL ret hh X d post kc ks o q lv st ws) : AW own nm cc nL ret hh X d post kc ks o pc lv (.int x :: st) ws := by
  subst hq
  intro z hz p l e R s m args below meth c D TY A H locs cells slots mc ms ls C hK hZ hd1 hd2 hc1 hc2 hc3 hc4 hP hD hS hl0
  exact lv_if_le C.1 C.2.1 dg ht (fun h9 => absurd h9 h8) (fun _ => kf z hz p l e R s m args below meth c D TY A H locs cells slots mc ms ls C hK hZ hd1 hd2 hc1 hc2 hc3 hc4 hP hD hS hl0)
theorem aw_icmp_le {x y : Int32} {off : Int} {tgt : Nat} {A B : Option T} [dec : Decidable (x ≤ y)] (dg : decode cc pc = .ok (.if_icmp .le off, 3)) (ht : (pc : Int) + off = (tgt : Int)) (hq : pc + 3 = q) (kt : x ≤ y → AW own nm cc nL ret hh X d post kc ks A tgt lv st ws) (kf : ¬ (x ≤ y) → AW own nm cc nL ret hh X d post kc ks B q lv st ws) : AW own nm cc nL ret hh X d post kc ks (if x ≤ y then A else B) pc lv (.int y :: .int x :: st) ws := by
  subst hq
  intro z hz p l e R s m args below meth c D TY A0 H locs cells slots mc ms ls C hK hZ hd1 hd2 hc1 hc2 hc3 hc4 hP hD hS hl0
  exact lv_icmp_le C.1 C.2.1 dg ht (fun h9 => kt h9 z (by rw [if_pos h9] at hz; exact hz) p l e R s m args below meth c D TY A0 H locs cells slots mc ms ls C hK hZ hd1 hd2 hc1 hc2 hc3 hc4 hP hD hS hl0) (fun h9 => kf h9 z (by rw [if_neg h9] at hz; exact hz) p l e R s m args below meth c D TY A0 H locs cells slots mc ms ls C hK hZ hd1 hd2 hc1 hc2 hc3 hc4 hP hD hS hl0)
theorem aw_icmp_leT {x y : Int32} {off : Int} {tgt : Nat} (dg : decode cc pc = .ok (.if_icmp .le off, 3)) (ht : (pc : Int) + off = (tgt : Int)) (h8 : x ≤ y) (kt : AW own nm cc nL ret hh X d post kc ks o tgt lv st ws) : AW own nm cc nL ret hh X d post kc ks o pc lv (.int y :: .int x :: st) ws := by
  intro z hz p l e R s m args below meth c D TY A H locs cells slots mc ms ls C hK hZ hd1 hd2 hc1 hc2 hc3 hc4 hP hD hS hl0
  exact lv_icmp_le C.1 C.2.1 dg ht (fun _ => kt z hz p l e R s m args below meth c D TY A H locs cells slots mc ms ls C hK hZ hd1 hd2 hc1 hc2 hc3 hc4 hP hD hS hl0) (fun h9 => absurd h8 h9)
theorem aw_icmp_leF {x y : Int32} {off : Int} {tgt : Nat} (dg : decode cc pc = .ok (.if_icmp .le off, 3)) (ht : (pc : Int) + off = (tgt : Int)) (hq : pc + 3 = q) (h8 : ¬ (x ≤ y)) (kf : AW own nm cc nL ret hh X d post kc ks o q lv st ws) : AW own nm cc nL ret hh X d post kc ks o pc lv (.int y :: .int x :: st) ws := by
  subst hq
  intro z hz p l e R s m args below meth c D TY A H locs cells slots mc ms ls C hK hZ hd1 hd2 hc1 hc2 hc3 hc4 hP hD hS hl0
  exact lv_icmp_le C.1 C.2.1 dg ht (fun h9 => absurd h9 h8) (fun _ => kf z hz p l e R s m args below meth c D TY A H locs cells slots mc ms ls C hK hZ hd1 hd2 hc1 hc2 hc3 hc4 hP hD hS hl0)
theorem aw_goto {off : Int} {tgt : Nat} (dg : decode cc pc = .ok (.goto off, 3)) (ht : (pc : Int) + off = (tgt : Int)) (K : AW own nm cc nL ret hh X d post kc ks o tgt lv st ws) : AW own nm cc nL ret hh X d post kc ks o pc lv st ws := by
  intro z hz p l e R s m args below meth c D TY A H locs cells slots mc ms ls C hK hZ hd1 hd2 hc1 hc2 hc3 hc4 hP hD hS hl0
  exact lv_goto C.1 C.2.1 dg ht (K z hz p l e R s m args below meth c D TY A H locs cells slots mc ms ls C hK hZ hd1 hd2 hc1 hc2 hc3 hc4 hP hD hS hl0)
end AWR
