section AWM
variable {own nm : String} {cc : ByteArray} {nL : Nat} {ret : Option FieldType} {hh : List (Nat × Nat × Nat × Nat)} {X : aX} {d : Nat} {T : Type} {post : T → aO → aW → Prop} {kc ks : Nat} {o : Option T} {pc q : Nat} {lv lv' : List (Nat × Value)} {st : List Value} {ws : aW}
/-- Math.max and Math.min, by the library's contracts -/
theorem aw_mmax {index : Nat} {x y : Int32} (dg : decode cc pc = .ok (.invokestatic index, 3)) (hq : pc + 3 = q) (hw : Cond.methodLink own index Lib.Math.max.name ∈ TB ∧ Cond.static Lib.Math.max.name ∈ TB ∧ Cond.initialized "java/lang/Math" ∈ TB ∧ Cond.code Lib.Math.max.name Lib.Math.max.code 2 (some .int) ∈ TB) (hd : 1 ≤ d) (hst : (st.map fun v => v.category).sum ≤ 8) (K : AW own nm cc nL ret hh X d post kc ks o q lv (.int (if x < y then y else x) :: st) ws) : AW own nm cc nL ret hh X d post kc ks o pc lv (.int y :: .int x :: st) ws := by
  subst hq
  intro z hz p l e R s m args below meth c D TY A H locs cells slots mc ms ls C hK hZ hd1 hd2 hc1 hc2 hc3 hc4 hP hD hS hl0
  obtain ⟨w1, w2, w3, w4⟩ := hw
  exact va_mmax C.1 C.2.1 (C.2.2.1.trans hl0.1.symm) C.2.2.2.2.1 (C.2.2.2.2.2.1 _ w1) (C.2.2.2.2.2.1 _ w2) (C.2.2.2.2.2.1 _ w3) (C.2.2.2.2.2.1 _ w4) (by omega) (by omega) (by omega) (by omega) dg (K z hz p l e R s m args below meth c D TY A H locs cells slots mc ms ls C hK hZ hd1 hd2 hc1 hc2 hc3 hc4 hP hD hS hl0)
theorem aw_mmin {index : Nat} {x y : Int32} (dg : decode cc pc = .ok (.invokestatic index, 3)) (hq : pc + 3 = q) (hw : Cond.methodLink own index Lib.Math.min.name ∈ TB ∧ Cond.static Lib.Math.min.name ∈ TB ∧ Cond.initialized "java/lang/Math" ∈ TB ∧ Cond.code Lib.Math.min.name Lib.Math.min.code 2 (some .int) ∈ TB) (hd : 1 ≤ d) (hst : (st.map fun v => v.category).sum ≤ 8) (K : AW own nm cc nL ret hh X d post kc ks o q lv (.int (if y < x then y else x) :: st) ws) : AW own nm cc nL ret hh X d post kc ks o pc lv (.int y :: .int x :: st) ws := by
  subst hq
  intro z hz p l e R s m args below meth c D TY A H locs cells slots mc ms ls C hK hZ hd1 hd2 hc1 hc2 hc3 hc4 hP hD hS hl0
  obtain ⟨w1, w2, w3, w4⟩ := hw
  exact va_mmin C.1 C.2.1 (C.2.2.1.trans hl0.1.symm) C.2.2.2.2.1 (C.2.2.2.2.2.1 _ w1) (C.2.2.2.2.2.1 _ w2) (C.2.2.2.2.2.1 _ w3) (C.2.2.2.2.2.1 _ w4) (by omega) (by omega) (by omega) (by omega) dg (K z hz p l e R s m args below meth c D TY A H locs cells slots mc ms ls C hK hZ hd1 hd2 hc1 hc2 hc3 hc4 hP hD hS hl0)
end AWM
