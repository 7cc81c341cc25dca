section AWR
variable {own nm : String} {cc : ByteArray} {nL : Nat} {ret : Option FieldType} {hh : List (Nat × Nat × Nat × Nat)} {X : aX} {d : Nat} {T : Type} {post : T → aO → aW → Prop} {kc ks : Nat} {o : Option T} {pc q : Nat} {lv lv' : List (Nat × Value)} {st : List Value} {ws : aW}
theorem aw_iconst {n : Int} {v : Int32} (dg : decode cc pc = .ok (.iconst n, 1)) (hq : pc + 1 = q) (hv : Int32.ofInt n = v) (K : AW own nm cc nL ret hh X d post kc ks o q lv (.int v :: st) ws) : AW own nm cc nL ret hh X d post kc ks o pc lv st ws := by
  subst hq
  intro z hz p l e R s m args below meth c D TY A H locs cells slots mc ms ls C hK hZ hd1 hd2 hc1 hc2 hc3 hc4 hP hD hS hl0
  exact lv_iconst C.1 C.2.1 dg hv (K z hz p l e R s m args below meth c D TY A H locs cells slots mc ms ls C hK hZ hd1 hd2 hc1 hc2 hc3 hc4 hP hD hS hl0)
theorem aw_bipush {n : Int} {v : Int32} (dg : decode cc pc = .ok (.bipush n, 2)) (hq : pc + 2 = q) (hv : (Int8.ofInt n).toInt32 = v) (K : AW own nm cc nL ret hh X d post kc ks o q lv (.int v :: st) ws) : AW own nm cc nL ret hh X d post kc ks o pc lv st ws := by
  subst hq
  intro z hz p l e R s m args below meth c D TY A H locs cells slots mc ms ls C hK hZ hd1 hd2 hc1 hc2 hc3 hc4 hP hD hS hl0
  exact lv_bipush C.1 C.2.1 dg hv (K z hz p l e R s m args below meth c D TY A H locs cells slots mc ms ls C hK hZ hd1 hd2 hc1 hc2 hc3 hc4 hP hD hS hl0)
theorem aw_sipush {n : Int} {v : Int32} (dg : decode cc pc = .ok (.sipush n, 3)) (hq : pc + 3 = q) (hv : (Int16.ofInt n).toInt32 = v) (K : AW own nm cc nL ret hh X d post kc ks o q lv (.int v :: st) ws) : AW own nm cc nL ret hh X d post kc ks o pc lv st ws := by
  subst hq
  intro z hz p l e R s m args below meth c D TY A H locs cells slots mc ms ls C hK hZ hd1 hd2 hc1 hc2 hc3 hc4 hP hD hS hl0
  exact lv_sipush C.1 C.2.1 dg hv (K z hz p l e R s m args below meth c D TY A H locs cells slots mc ms ls C hK hZ hd1 hd2 hc1 hc2 hc3 hc4 hP hD hS hl0)
theorem aw_lconst {n : Fin 2} {v : Int64} (dg : decode cc pc = .ok (.lconst n, 1)) (hq : pc + 1 = q) (hv : Int64.ofNat (n : Nat) = v) (K : AW own nm cc nL ret hh X d post kc ks o q lv (.long v :: st) ws) : AW own nm cc nL ret hh X d post kc ks o pc lv st ws := by
  subst hq
  intro z hz p l e R s m args below meth c D TY A H locs cells slots mc ms ls C hK hZ hd1 hd2 hc1 hc2 hc3 hc4 hP hD hS hl0
  exact lv_lconst C.1 C.2.1 dg hv (K z hz p l e R s m args below meth c D TY A H locs cells slots mc ms ls C hK hZ hd1 hd2 hc1 hc2 hc3 hc4 hP hD hS hl0)
theorem aw_iload_n {k : Fin 4} {x : Int32} (dg : decode cc pc = .ok (.iload_n k, 1)) (hq : pc + 1 = q) (j : Nat) (hl : lv[j]? = some ((k : Nat), .int x)) (K : AW own nm cc nL ret hh X d post kc ks o q lv (.int x :: st) ws) : AW own nm cc nL ret hh X d post kc ks o pc lv st ws := by
  subst hq
  intro z hz p l e R s m args below meth c D TY A H locs cells slots mc ms ls C hK hZ hd1 hd2 hc1 hc2 hc3 hc4 hP hD hS hl0
  exact lv_iload_n C.1 C.2.1 dg rfl (lv_at hl0 j hl) (K z hz p l e R s m args below meth c D TY A H locs cells slots mc ms ls C hK hZ hd1 hd2 hc1 hc2 hc3 hc4 hP hD hS hl0)
theorem aw_iload {i : Nat} {x : Int32} (dg : decode cc pc = .ok (.iload i, 2)) (hq : pc + 2 = q) (j : Nat) (hl : lv[j]? = some (i, .int x)) (K : AW own nm cc nL ret hh X d post kc ks o q lv (.int x :: st) ws) : AW own nm cc nL ret hh X d post kc ks o pc lv st ws := by
  subst hq
  intro z hz p l e R s m args below meth c D TY A H locs cells slots mc ms ls C hK hZ hd1 hd2 hc1 hc2 hc3 hc4 hP hD hS hl0
  exact lv_iload C.1 C.2.1 dg (lv_at hl0 j hl) (K z hz p l e R s m args below meth c D TY A H locs cells slots mc ms ls C hK hZ hd1 hd2 hc1 hc2 hc3 hc4 hP hD hS hl0)
theorem aw_istore_n {k : Fin 4} {x : Int32} (dg : decode cc pc = .ok (.istore_n k, 1)) (hq : pc + 1 = q) (hn : (k : Nat) < nL) (hl : ((k : Nat), Value.int x) :: lv.filter (fun q => !(q.1 == (k : Nat)) && !(q.1 + 1 == (k : Nat) && q.2.category == 2)) = lv') (K : AW own nm cc nL ret hh X d post kc ks o q lv' st ws) : AW own nm cc nL ret hh X d post kc ks o pc lv (.int x :: st) ws := by
  subst hq
  intro z hz p l e R s m args below meth c D TY A H locs cells slots mc ms ls C hK hZ hd1 hd2 hc1 hc2 hc3 hc4 hP hD hS hl0
  exact lv_istore_n C.1 C.2.1 dg rfl hl0 hn hl (fun ls1 hl1 => K z hz p l e R s m args below meth c D TY A H locs cells slots mc ms ls1 C hK hZ hd1 hd2 hc1 hc2 hc3 hc4 hP hD hS hl1)
theorem aw_istore {i : Nat} {x : Int32} (dg : decode cc pc = .ok (.istore i, 2)) (hq : pc + 2 = q) (hn : i < nL) (hl : (i, Value.int x) :: lv.filter (fun q => !(q.1 == i) && !(q.1 + 1 == i && q.2.category == 2)) = lv') (K : AW own nm cc nL ret hh X d post kc ks o q lv' st ws) : AW own nm cc nL ret hh X d post kc ks o pc lv (.int x :: st) ws := by
  subst hq
  intro z hz p l e R s m args below meth c D TY A H locs cells slots mc ms ls C hK hZ hd1 hd2 hc1 hc2 hc3 hc4 hP hD hS hl0
  exact lv_istore C.1 C.2.1 dg hl0 hn hl (fun ls1 hl1 => K z hz p l e R s m args below meth c D TY A H locs cells slots mc ms ls1 C hK hZ hd1 hd2 hc1 hc2 hc3 hc4 hP hD hS hl1)
theorem aw_lload_n {k : Fin 4} {x : Int64} (dg : decode cc pc = .ok (.lload_n k, 1)) (hq : pc + 1 = q) (j : Nat) (hl : lv[j]? = some ((k : Nat), .long x)) (K : AW own nm cc nL ret hh X d post kc ks o q lv (.long x :: st) ws) : AW own nm cc nL ret hh X d post kc ks o pc lv st ws := by
  subst hq
  intro z hz p l e R s m args below meth c D TY A H locs cells slots mc ms ls C hK hZ hd1 hd2 hc1 hc2 hc3 hc4 hP hD hS hl0
  exact lv_lload_n C.1 C.2.1 dg rfl (lv_at hl0 j hl) (K z hz p l e R s m args below meth c D TY A H locs cells slots mc ms ls C hK hZ hd1 hd2 hc1 hc2 hc3 hc4 hP hD hS hl0)
theorem aw_lload {i : Nat} {x : Int64} (dg : decode cc pc = .ok (.lload i, 2)) (hq : pc + 2 = q) (j : Nat) (hl : lv[j]? = some (i, .long x)) (K : AW own nm cc nL ret hh X d post kc ks o q lv (.long x :: st) ws) : AW own nm cc nL ret hh X d post kc ks o pc lv st ws := by
  subst hq
  intro z hz p l e R s m args below meth c D TY A H locs cells slots mc ms ls C hK hZ hd1 hd2 hc1 hc2 hc3 hc4 hP hD hS hl0
  exact lv_lload C.1 C.2.1 dg (lv_at hl0 j hl) (K z hz p l e R s m args below meth c D TY A H locs cells slots mc ms ls C hK hZ hd1 hd2 hc1 hc2 hc3 hc4 hP hD hS hl0)
theorem aw_lstore_n {k : Fin 4} {x : Int64} (dg : decode cc pc = .ok (.lstore_n k, 1)) (hq : pc + 1 = q) (hn : (k : Nat) + 1 < nL) (hl : ((k : Nat), Value.long x) :: lv.filter (fun q => !(q.1 == (k : Nat)) && (!(q.1 == (k : Nat) + 1) && !(q.1 + 1 == (k : Nat) && q.2.category == 2))) = lv') (K : AW own nm cc nL ret hh X d post kc ks o q lv' st ws) : AW own nm cc nL ret hh X d post kc ks o pc lv (.long x :: st) ws := by
  subst hq
  intro z hz p l e R s m args below meth c D TY A H locs cells slots mc ms ls C hK hZ hd1 hd2 hc1 hc2 hc3 hc4 hP hD hS hl0
  exact lv_lstore_n C.1 C.2.1 dg rfl hl0 hn hl (fun ls1 hl1 => K z hz p l e R s m args below meth c D TY A H locs cells slots mc ms ls1 C hK hZ hd1 hd2 hc1 hc2 hc3 hc4 hP hD hS hl1)
theorem aw_lstore {i : Nat} {x : Int64} (dg : decode cc pc = .ok (.lstore i, 2)) (hq : pc + 2 = q) (hn : i + 1 < nL) (hl : (i, Value.long x) :: lv.filter (fun q => !(q.1 == i) && (!(q.1 == i + 1) && !(q.1 + 1 == i && q.2.category == 2))) = lv') (K : AW own nm cc nL ret hh X d post kc ks o q lv' st ws) : AW own nm cc nL ret hh X d post kc ks o pc lv (.long x :: st) ws := by
  subst hq
  intro z hz p l e R s m args below meth c D TY A H locs cells slots mc ms ls C hK hZ hd1 hd2 hc1 hc2 hc3 hc4 hP hD hS hl0
  exact lv_lstore C.1 C.2.1 dg hl0 hn hl (fun ls1 hl1 => K z hz p l e R s m args below meth c D TY A H locs cells slots mc ms ls1 C hK hZ hd1 hd2 hc1 hc2 hc3 hc4 hP hD hS hl1)
theorem aw_aload_n {k : Fin 4} {x : Nat} (dg : decode cc pc = .ok (.aload_n k, 1)) (hq : pc + 1 = q) (j : Nat) (hl : lv[j]? = some ((k : Nat), .ref x)) (K : AW own nm cc nL ret hh X d post kc ks o q lv (.ref x :: st) ws) : AW own nm cc nL ret hh X d post kc ks o pc lv st ws := by
  subst hq
  intro z hz p l e R s m args below meth c D TY A H locs cells slots mc ms ls C hK hZ hd1 hd2 hc1 hc2 hc3 hc4 hP hD hS hl0
  exact lv_aload_n C.1 C.2.1 dg rfl (lv_at hl0 j hl) (K z hz p l e R s m args below meth c D TY A H locs cells slots mc ms ls C hK hZ hd1 hd2 hc1 hc2 hc3 hc4 hP hD hS hl0)
theorem aw_aload {i : Nat} {x : Nat} (dg : decode cc pc = .ok (.aload i, 2)) (hq : pc + 2 = q) (j : Nat) (hl : lv[j]? = some (i, .ref x)) (K : AW own nm cc nL ret hh X d post kc ks o q lv (.ref x :: st) ws) : AW own nm cc nL ret hh X d post kc ks o pc lv st ws := by
  subst hq
  intro z hz p l e R s m args below meth c D TY A H locs cells slots mc ms ls C hK hZ hd1 hd2 hc1 hc2 hc3 hc4 hP hD hS hl0
  exact lv_aload C.1 C.2.1 dg (lv_at hl0 j hl) (K z hz p l e R s m args below meth c D TY A H locs cells slots mc ms ls C hK hZ hd1 hd2 hc1 hc2 hc3 hc4 hP hD hS hl0)
theorem aw_astore_n {k : Fin 4} {x : Nat} (dg : decode cc pc = .ok (.astore_n k, 1)) (hq : pc + 1 = q) (hn : (k : Nat) < nL) (hl : ((k : Nat), Value.ref x) :: lv.filter (fun q => !(q.1 == (k : Nat)) && !(q.1 + 1 == (k : Nat) && q.2.category == 2)) = lv') (K : AW own nm cc nL ret hh X d post kc ks o q lv' st ws) : AW own nm cc nL ret hh X d post kc ks o pc lv (.ref x :: st) ws := by
  subst hq
  intro z hz p l e R s m args below meth c D TY A H locs cells slots mc ms ls C hK hZ hd1 hd2 hc1 hc2 hc3 hc4 hP hD hS hl0
  exact lv_astore_n C.1 C.2.1 dg rfl hl0 hn hl (fun ls1 hl1 => K z hz p l e R s m args below meth c D TY A H locs cells slots mc ms ls1 C hK hZ hd1 hd2 hc1 hc2 hc3 hc4 hP hD hS hl1)
theorem aw_astore {i : Nat} {x : Nat} (dg : decode cc pc = .ok (.astore i, 2)) (hq : pc + 2 = q) (hn : i < nL) (hl : (i, Value.ref x) :: lv.filter (fun q => !(q.1 == i) && !(q.1 + 1 == i && q.2.category == 2)) = lv') (K : AW own nm cc nL ret hh X d post kc ks o q lv' st ws) : AW own nm cc nL ret hh X d post kc ks o pc lv (.ref x :: st) ws := by
  subst hq
  intro z hz p l e R s m args below meth c D TY A H locs cells slots mc ms ls C hK hZ hd1 hd2 hc1 hc2 hc3 hc4 hP hD hS hl0
  exact lv_astore C.1 C.2.1 dg hl0 hn hl (fun ls1 hl1 => K z hz p l e R s m args below meth c D TY A H locs cells slots mc ms ls1 C hK hZ hd1 hd2 hc1 hc2 hc3 hc4 hP hD hS hl1)
theorem aw_aload_nN {k : Fin 4} (dg : decode cc pc = .ok (.aload_n k, 1)) (hq : pc + 1 = q) (j : Nat) (hl : lv[j]? = some ((k : Nat), .null)) (K : AW own nm cc nL ret hh X d post kc ks o q lv (.null :: st) ws) : AW own nm cc nL ret hh X d post kc ks o pc lv st ws := by
  subst hq
  intro z hz p l e R s m args below meth c D TY A H locs cells slots mc ms ls C hK hZ hd1 hd2 hc1 hc2 hc3 hc4 hP hD hS hl0
  exact lv_aload_nN C.1 C.2.1 dg rfl (lv_at hl0 j hl) (K z hz p l e R s m args below meth c D TY A H locs cells slots mc ms ls C hK hZ hd1 hd2 hc1 hc2 hc3 hc4 hP hD hS hl0)
theorem aw_iinc {i : Nat} {n : Int} {x v : Int32} (dg : decode cc pc = .ok (.iinc i n, 3)) (hq : pc + 3 = q) (j : Nat) (hk : lv[j]? = some (i, .int x)) (hv : x + Int32.ofInt n = v) (hn : i < nL) (hl : (i, Value.int v) :: lv.filter (fun q => !(q.1 == i) && !(q.1 + 1 == i && q.2.category == 2)) = lv') (K : AW own nm cc nL ret hh X d post kc ks o q lv' st ws) : AW own nm cc nL ret hh X d post kc ks o pc lv st ws := by
  subst hq
  intro z hz p l e R s m args below meth c D TY A H locs cells slots mc ms ls C hK hZ hd1 hd2 hc1 hc2 hc3 hc4 hP hD hS hl0
  exact lv_iinc C.1 C.2.1 dg hl0 hk hv hn hl (fun ls1 hl1 => K z hz p l e R s m args below meth c D TY A H locs cells slots mc ms ls1 C hK hZ hd1 hd2 hc1 hc2 hc3 hc4 hP hD hS hl1)
theorem aw_iadd {x y : Int32} (dg : decode cc pc = .ok (.iadd, 1)) (hq : pc + 1 = q) (K : AW own nm cc nL ret hh X d post kc ks o q lv (.int (x + y) :: st) ws) : AW own nm cc nL ret hh X d post kc ks o pc lv (.int y :: .int x :: st) ws := by
  subst hq
  intro z hz p l e R s m args below meth c D TY A H locs cells slots mc ms ls C hK hZ hd1 hd2 hc1 hc2 hc3 hc4 hP hD hS hl0
  exact lv_iadd C.1 C.2.1 dg (K z hz p l e R s m args below meth c D TY A H locs cells slots mc ms ls C hK hZ hd1 hd2 hc1 hc2 hc3 hc4 hP hD hS hl0)
theorem aw_isub {x y : Int32} (dg : decode cc pc = .ok (.isub, 1)) (hq : pc + 1 = q) (K : AW own nm cc nL ret hh X d post kc ks o q lv (.int (x - y) :: st) ws) : AW own nm cc nL ret hh X d post kc ks o pc lv (.int y :: .int x :: st) ws := by
  subst hq
  intro z hz p l e R s m args below meth c D TY A H locs cells slots mc ms ls C hK hZ hd1 hd2 hc1 hc2 hc3 hc4 hP hD hS hl0
  exact lv_isub C.1 C.2.1 dg (K z hz p l e R s m args below meth c D TY A H locs cells slots mc ms ls C hK hZ hd1 hd2 hc1 hc2 hc3 hc4 hP hD hS hl0)
theorem aw_imul {x y : Int32} (dg : decode cc pc = .ok (.imul, 1)) (hq : pc + 1 = q) (K : AW own nm cc nL ret hh X d post kc ks o q lv (.int (x * y) :: st) ws) : AW own nm cc nL ret hh X d post kc ks o pc lv (.int y :: .int x :: st) ws := by
  subst hq
  intro z hz p l e R s m args below meth c D TY A H locs cells slots mc ms ls C hK hZ hd1 hd2 hc1 hc2 hc3 hc4 hP hD hS hl0
  exact lv_imul C.1 C.2.1 dg (K z hz p l e R s m args below meth c D TY A H locs cells slots mc ms ls C hK hZ hd1 hd2 hc1 hc2 hc3 hc4 hP hD hS hl0)
theorem aw_iand {x y : Int32} (dg : decode cc pc = .ok (.iand, 1)) (hq : pc + 1 = q) (K : AW own nm cc nL ret hh X d post kc ks o q lv (.int (x &&& y) :: st) ws) : AW own nm cc nL ret hh X d post kc ks o pc lv (.int y :: .int x :: st) ws := by
  subst hq
  intro z hz p l e R s m args below meth c D TY A H locs cells slots mc ms ls C hK hZ hd1 hd2 hc1 hc2 hc3 hc4 hP hD hS hl0
  exact lv_iand C.1 C.2.1 dg (K z hz p l e R s m args below meth c D TY A H locs cells slots mc ms ls C hK hZ hd1 hd2 hc1 hc2 hc3 hc4 hP hD hS hl0)
theorem aw_ior {x y : Int32} (dg : decode cc pc = .ok (.ior, 1)) (hq : pc + 1 = q) (K : AW own nm cc nL ret hh X d post kc ks o q lv (.int (x ||| y) :: st) ws) : AW own nm cc nL ret hh X d post kc ks o pc lv (.int y :: .int x :: st) ws := by
  subst hq
  intro z hz p l e R s m args below meth c D TY A H locs cells slots mc ms ls C hK hZ hd1 hd2 hc1 hc2 hc3 hc4 hP hD hS hl0
  exact lv_ior C.1 C.2.1 dg (K z hz p l e R s m args below meth c D TY A H locs cells slots mc ms ls C hK hZ hd1 hd2 hc1 hc2 hc3 hc4 hP hD hS hl0)
theorem aw_ixor {x y : Int32} (dg : decode cc pc = .ok (.ixor, 1)) (hq : pc + 1 = q) (K : AW own nm cc nL ret hh X d post kc ks o q lv (.int (x ^^^ y) :: st) ws) : AW own nm cc nL ret hh X d post kc ks o pc lv (.int y :: .int x :: st) ws := by
  subst hq
  intro z hz p l e R s m args below meth c D TY A H locs cells slots mc ms ls C hK hZ hd1 hd2 hc1 hc2 hc3 hc4 hP hD hS hl0
  exact lv_ixor C.1 C.2.1 dg (K z hz p l e R s m args below meth c D TY A H locs cells slots mc ms ls C hK hZ hd1 hd2 hc1 hc2 hc3 hc4 hP hD hS hl0)
theorem aw_ladd {x y : Int64} (dg : decode cc pc = .ok (.ladd, 1)) (hq : pc + 1 = q) (K : AW own nm cc nL ret hh X d post kc ks o q lv (.long (x + y) :: st) ws) : AW own nm cc nL ret hh X d post kc ks o pc lv (.long y :: .long x :: st) ws := by
  subst hq
  intro z hz p l e R s m args below meth c D TY A H locs cells slots mc ms ls C hK hZ hd1 hd2 hc1 hc2 hc3 hc4 hP hD hS hl0
  exact lv_ladd C.1 C.2.1 dg (K z hz p l e R s m args below meth c D TY A H locs cells slots mc ms ls C hK hZ hd1 hd2 hc1 hc2 hc3 hc4 hP hD hS hl0)
theorem aw_lsub {x y : Int64} (dg : decode cc pc = .ok (.lsub, 1)) (hq : pc + 1 = q) (K : AW own nm cc nL ret hh X d post kc ks o q lv (.long (x - y) :: st) ws) : AW own nm cc nL ret hh X d post kc ks o pc lv (.long y :: .long x :: st) ws := by
  subst hq
  intro z hz p l e R s m args below meth c D TY A H locs cells slots mc ms ls C hK hZ hd1 hd2 hc1 hc2 hc3 hc4 hP hD hS hl0
  exact lv_lsub C.1 C.2.1 dg (K z hz p l e R s m args below meth c D TY A H locs cells slots mc ms ls C hK hZ hd1 hd2 hc1 hc2 hc3 hc4 hP hD hS hl0)
theorem aw_lmul {x y : Int64} (dg : decode cc pc = .ok (.lmul, 1)) (hq : pc + 1 = q) (K : AW own nm cc nL ret hh X d post kc ks o q lv (.long (x * y) :: st) ws) : AW own nm cc nL ret hh X d post kc ks o pc lv (.long y :: .long x :: st) ws := by
  subst hq
  intro z hz p l e R s m args below meth c D TY A H locs cells slots mc ms ls C hK hZ hd1 hd2 hc1 hc2 hc3 hc4 hP hD hS hl0
  exact lv_lmul C.1 C.2.1 dg (K z hz p l e R s m args below meth c D TY A H locs cells slots mc ms ls C hK hZ hd1 hd2 hc1 hc2 hc3 hc4 hP hD hS hl0)
theorem aw_ineg {x : Int32} (dg : decode cc pc = .ok (.ineg, 1)) (hq : pc + 1 = q) (K : AW own nm cc nL ret hh X d post kc ks o q lv (.int (-x) :: st) ws) : AW own nm cc nL ret hh X d post kc ks o pc lv (.int x :: st) ws := by
  subst hq
  intro z hz p l e R s m args below meth c D TY A H locs cells slots mc ms ls C hK hZ hd1 hd2 hc1 hc2 hc3 hc4 hP hD hS hl0
  exact lv_ineg C.1 C.2.1 dg (K z hz p l e R s m args below meth c D TY A H locs cells slots mc ms ls C hK hZ hd1 hd2 hc1 hc2 hc3 hc4 hP hD hS hl0)
theorem aw_i2l {x : Int32} (dg : decode cc pc = .ok (.i2l, 1)) (hq : pc + 1 = q) (K : AW own nm cc nL ret hh X d post kc ks o q lv (.long x.toInt64 :: st) ws) : AW own nm cc nL ret hh X d post kc ks o pc lv (.int x :: st) ws := by
  subst hq
  intro z hz p l e R s m args below meth c D TY A H locs cells slots mc ms ls C hK hZ hd1 hd2 hc1 hc2 hc3 hc4 hP hD hS hl0
  exact lv_i2l C.1 C.2.1 dg rfl (K z hz p l e R s m args below meth c D TY A H locs cells slots mc ms ls C hK hZ hd1 hd2 hc1 hc2 hc3 hc4 hP hD hS hl0)
theorem aw_lcmp {x y : Int64} (dg : decode cc pc = .ok (.lcmp, 1)) (hq : pc + 1 = q) (K : AW own nm cc nL ret hh X d post kc ks o q lv (.int (lg_cmp x y) :: st) ws) : AW own nm cc nL ret hh X d post kc ks o pc lv (.long y :: .long x :: st) ws := by
  subst hq
  intro z hz p l e R s m args below meth c D TY A H locs cells slots mc ms ls C hK hZ hd1 hd2 hc1 hc2 hc3 hc4 hP hD hS hl0
  exact W.lcmp C.1 C.2.1 dg (K z hz p l e R s m args below meth c D TY A H locs cells slots mc ms ls C hK hZ hd1 hd2 hc1 hc2 hc3 hc4 hP hD hS hl0)
theorem aw_ishl {x y : Int32} (dg : decode cc pc = .ok (.ishl, 1)) (hq : pc + 1 = q) (K : AW own nm cc nL ret hh X d post kc ks o q lv (.int (x <<< (y &&& 31)) :: st) ws) : AW own nm cc nL ret hh X d post kc ks o pc lv (.int y :: .int x :: st) ws := by
  subst hq
  intro z hz p l e R s m args below meth c D TY A H locs cells slots mc ms ls C hK hZ hd1 hd2 hc1 hc2 hc3 hc4 hP hD hS hl0
  exact lv_ishl C.1 C.2.1 dg (K z hz p l e R s m args below meth c D TY A H locs cells slots mc ms ls C hK hZ hd1 hd2 hc1 hc2 hc3 hc4 hP hD hS hl0)
theorem aw_ishr {x y : Int32} (dg : decode cc pc = .ok (.ishr, 1)) (hq : pc + 1 = q) (K : AW own nm cc nL ret hh X d post kc ks o q lv (.int (x >>> (y &&& 31)) :: st) ws) : AW own nm cc nL ret hh X d post kc ks o pc lv (.int y :: .int x :: st) ws := by
  subst hq
  intro z hz p l e R s m args below meth c D TY A H locs cells slots mc ms ls C hK hZ hd1 hd2 hc1 hc2 hc3 hc4 hP hD hS hl0
  exact lv_ishr C.1 C.2.1 dg (K z hz p l e R s m args below meth c D TY A H locs cells slots mc ms ls C hK hZ hd1 hd2 hc1 hc2 hc3 hc4 hP hD hS hl0)
theorem aw_dup {va : Value} (dg : decode cc pc = .ok (.dup, 1)) (hq : pc + 1 = q) (hva : va.category = 1) (K : AW own nm cc nL ret hh X d post kc ks o q lv (va :: va :: st) ws) : AW own nm cc nL ret hh X d post kc ks o pc lv (va :: st) ws := by
  subst hq
  intro z hz p l e R s m args below meth c D TY A H locs cells slots mc ms ls C hK hZ hd1 hd2 hc1 hc2 hc3 hc4 hP hD hS hl0
  exact lv_dup C.1 C.2.1 dg hva (K z hz p l e R s m args below meth c D TY A H locs cells slots mc ms ls C hK hZ hd1 hd2 hc1 hc2 hc3 hc4 hP hD hS hl0)
theorem aw_pop {va : Value} (dg : decode cc pc = .ok (.pop, 1)) (hq : pc + 1 = q) (hva : va.category = 1) (K : AW own nm cc nL ret hh X d post kc ks o q lv st ws) : AW own nm cc nL ret hh X d post kc ks o pc lv (va :: st) ws := by
  subst hq
  intro z hz p l e R s m args below meth c D TY A H locs cells slots mc ms ls C hK hZ hd1 hd2 hc1 hc2 hc3 hc4 hP hD hS hl0
  exact lv_pop C.1 C.2.1 dg hva (K z hz p l e R s m args below meth c D TY A H locs cells slots mc ms ls C hK hZ hd1 hd2 hc1 hc2 hc3 hc4 hP hD hS hl0)
theorem aw_dup2 {va vb : Value} (dg : decode cc pc = .ok (.dup2, 1)) (hq : pc + 1 = q) (hva : va.category = 1) (hvb : vb.category = 1) (K : AW own nm cc nL ret hh X d post kc ks o q lv (va :: vb :: va :: vb :: st) ws) : AW own nm cc nL ret hh X d post kc ks o pc lv (va :: vb :: st) ws := by
  subst hq
  intro z hz p l e R s m args below meth c D TY A H locs cells slots mc ms ls C hK hZ hd1 hd2 hc1 hc2 hc3 hc4 hP hD hS hl0
  exact lv_dup2_11 C.1 C.2.1 dg hva hvb (K z hz p l e R s m args below meth c D TY A H locs cells slots mc ms ls C hK hZ hd1 hd2 hc1 hc2 hc3 hc4 hP hD hS hl0)
theorem aw_dup_x1 {va vb : Value} (dg : decode cc pc = .ok (.dup_x1, 1)) (hq : pc + 1 = q) (hva : va.category = 1) (hvb : vb.category = 1) (K : AW own nm cc nL ret hh X d post kc ks o q lv (va :: vb :: va :: st) ws) : AW own nm cc nL ret hh X d post kc ks o pc lv (va :: vb :: st) ws := by
  subst hq
  intro z hz p l e R s m args below meth c D TY A H locs cells slots mc ms ls C hK hZ hd1 hd2 hc1 hc2 hc3 hc4 hP hD hS hl0
  exact lv_dup_x1 C.1 C.2.1 dg hva hvb (K z hz p l e R s m args below meth c D TY A H locs cells slots mc ms ls C hK hZ hd1 hd2 hc1 hc2 hc3 hc4 hP hD hS hl0)
theorem aw_pop2L {va : Value} (dg : decode cc pc = .ok (.pop2, 1)) (hq : pc + 1 = q) (hva : va.category = 2) (K : AW own nm cc nL ret hh X d post kc ks o q lv st ws) : AW own nm cc nL ret hh X d post kc ks o pc lv (va :: st) ws := by
  subst hq
  intro z hz p l e R s m args below meth c D TY A H locs cells slots mc ms ls C hK hZ hd1 hd2 hc1 hc2 hc3 hc4 hP hD hS hl0
  exact lv_pop2_2 C.1 C.2.1 dg hva (K z hz p l e R s m args below meth c D TY A H locs cells slots mc ms ls C hK hZ hd1 hd2 hc1 hc2 hc3 hc4 hP hD hS hl0)
theorem aw_idiv {x y : Int32} (dg : decode cc pc = .ok (.idiv, 1)) (hq : pc + 1 = q) (K : AW own nm cc nL ret hh X d post kc ks o q lv (.int (x / y) :: st) ws) : AW own nm cc nL ret hh X d post kc ks (if y = 0 then none else o) pc lv (.int y :: .int x :: st) ws := by
  subst hq
  intro z hz p l e R s m args below meth c D TY A H locs cells slots mc ms ls C hK hZ hd1 hd2 hc1 hc2 hc3 hc4 hP hD hS hl0
  by_cases h9 : y = 0
  · rw [if_pos h9] at hz; cases hz
  · rw [if_neg h9] at hz
    exact lv_idiv C.1 C.2.1 dg h9 (K z hz p l e R s m args below meth c D TY A H locs cells slots mc ms ls C hK hZ hd1 hd2 hc1 hc2 hc3 hc4 hP hD hS hl0)
theorem aw_idivT {x y : Int32} (dg : decode cc pc = .ok (.idiv, 1)) (hq : pc + 1 = q) (h9 : ¬ y = 0) (K : AW own nm cc nL ret hh X d post kc ks o q lv (.int (x / y) :: st) ws) : AW own nm cc nL ret hh X d post kc ks o pc lv (.int y :: .int x :: st) ws := by
  subst hq
  intro z hz p l e R s m args below meth c D TY A H locs cells slots mc ms ls C hK hZ hd1 hd2 hc1 hc2 hc3 hc4 hP hD hS hl0
  · exact lv_idiv C.1 C.2.1 dg h9 (K z hz p l e R s m args below meth c D TY A H locs cells slots mc ms ls C hK hZ hd1 hd2 hc1 hc2 hc3 hc4 hP hD hS hl0)
end AWR
