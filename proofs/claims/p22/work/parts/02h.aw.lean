section AWR
variable {own nm : String} {cc : ByteArray} {nL : Nat} {ret : Option FieldType} {hh : List (Nat × Nat × Nat × Nat)} {X : aX} {d : Nat} {T : Type} {post : T → aO → aW → Prop} {kc ks : Nat} {o : Option T} {pc q : Nat} {lv lv' : List (Nat × Value)} {st : List Value} {ws : aW}
theorem PN.mk {U : Type} {val : U → (Nat → Nat) → Option Value} {wf : U → (Nat → Nat) → aW} {x : U} {v : Option Value} {w : aW} (g : Nat → Nat) (h1 : val x g = v) (h2 : wf x g = w) : PN val wf x (.inl v) w := ⟨g, by rw [h1], h2.symm⟩
theorem PX.mk {U : Type} {val : U → (Nat → Nat) → Option Value} {wf : U → (Nat → Nat) → aW} {w0 : aW} {x : U} {v : Option Value} {w : aW} (g : Nat → Nat) (h1 : val x g = v) (h2 : wf x g = w) : PX val wf w0 (.inl x) (.inl v) w := ⟨g, by rw [h1], h2.symm⟩
theorem aw_zreturn {x : T} {v : Int32} {w : aW} [dec : Decidable (v = 0 ∨ v = 1)] (is : List Nat) (dg : decode cc pc = .ok (.ireturn, 1)) (hr : ret = some .boolean) (hnd : va_nd is = true) (hw : is.map (fun i => ws[i]?) = w.map some) (hp : post x (.inl (some (.int v))) w) : AW own nm cc nL ret hh X d post kc ks (if v = 0 ∨ v = 1 then some x else none) pc lv [.int v] ws := by
  by_cases h : v = 0 ∨ v = 1
  · rw [if_pos h]
    refine aw_ireturn is dg hr ?_ hnd hw hp
    rcases h with rfl | rfl <;> rfl
  · rw [if_neg h]; exact aw_none
theorem at_of {L : List Cond} (h : (L.all fun w => (decide (w ∈ tables_1) && goodWord w) || (decide (w ∈ tables_1) && ngw w) || decide (w ∈ TB)) = true) : ∀ w ∈ L, w ∈ TB ∨ w ∈ NGW := by
  intro w hw
  have h1 := List.all_eq_true.mp h w hw
  simp only [Bool.or_eq_true, Bool.and_eq_true, decide_eq_true_eq] at h1
  rcases h1 with (⟨a, b⟩ | ⟨a, b⟩) | a
  · exact Or.inl (TB_in (List.mem_append_right _ a) b)
  · exact Or.inr (List.mem_filter.mpr ⟨a, b⟩)
  · exact Or.inl a
theorem aw_lsw {x v : Int32} {dflt off : Int} {ps : Array (Int × Int)} {len tgt : Nat} {A1 B : Option T} [dec : Decidable (x = v)] (dg : decode cc pc = .ok (.lookupswitch dflt ps, len)) (hp : (ps.toList.zip (ps.toList.drop 1)).all (fun (a, next) => a.1 < next.1) = true) (ho : Op.lookupswitch.offset ps.toList dflt v.toInt = off) (ht : (pc : Int) + off = (tgt : Int)) (kt : x = v → AW own nm cc nL ret hh X d post kc ks A1 tgt lv st ws) (kf : ¬ x = v → AW own nm cc nL ret hh X d post kc ks B pc lv (.int x :: st) ws) : AW own nm cc nL ret hh X d post kc ks (if x = v then A1 else B) pc lv (.int x :: st) ws := by
  by_cases h9 : x = v
  · intro z hz p l e R s m args below meth c D TY A H locs cells slots mc ms ls C hK hZ hd1 hd2 hc1 hc2 hc3 hc4 hP hD hS hl0
    rw [if_pos h9] at hz
    have k := kt h9
    subst h9
    exact lv_lookup C.1 C.2.1 dg hp ho ht (k z hz p l e R s m args below meth c D TY A H locs cells slots mc ms ls C hK hZ hd1 hd2 hc1 hc2 hc3 hc4 hP hD hS hl0)
  · rw [if_neg h9]
    exact kf h9
theorem aw_lswD {x : Int32} {dflt off : Int} {ps : Array (Int × Int)} {len tgt : Nat} (dg : decode cc pc = .ok (.lookupswitch dflt ps, len)) (hp : (ps.toList.zip (ps.toList.drop 1)).all (fun (a, next) => a.1 < next.1) = true) (ho : Op.lookupswitch.offset ps.toList dflt x.toInt = off) (ht : (pc : Int) + off = (tgt : Int)) (K : AW own nm cc nL ret hh X d post kc ks o tgt lv st ws) : AW own nm cc nL ret hh X d post kc ks o pc lv (.int x :: st) ws := by
  intro z hz p l e R s m args below meth c D TY A H locs cells slots mc ms ls C hK hZ hd1 hd2 hc1 hc2 hc3 hc4 hP hD hS hl0
  exact lv_lookup C.1 C.2.1 dg hp ho ht (K z hz p l e R s m args below meth c D TY A H locs cells slots mc ms ls C hK hZ hd1 hd2 hc1 hc2 hc3 hc4 hP hD hS hl0)
/-- 'throw new E(text)', the text by a wide index -/
theorem aw_throwW {V : Type} {val2 : V → (Nat → Nat) → Option Value} {wf2 : V → (Nat → Nat) → aW} {w02 : aW} {E text : String} {ik is ic : Nat} (isX : List Nat) (d0 : decode cc pc = .ok (.new ik, 3)) (d3 : decode cc (pc + 3) = .ok (.dup, 1)) (d4 : decode cc (pc + 4) = .ok (.ldc_w is, 3)) (d7 : decode cc (pc + 7) = .ok (.invokespecial ic, 3)) (d10 : decode cc (pc + 10) = .ok (.athrow, 1))
    (hE : Bundle.fit E = true) (hhh : hh = []) (hk : Cond.classLink own ik E ∈ TB) (hini : Cond.initialized E ∈ TB) (hs : (own, is, text) ∈ STRS) (hat : ∀ w ∈ vx_atS own ic E ["java/lang/RuntimeException", "java/lang/Exception"], w ∈ TB ∨ w ∈ NGW) (hd : 8 ≤ d) (hst : (st.map fun v => v.category).sum ≤ 8) (hnX : va_nd isX = true) (hX : isX.map (fun i => ws[i]?) = w02.map some) (h1 : 1 ≤ kc) (h2 : 6 ≤ ks) :
    AW own nm cc nL ret hh X d (PX val2 wf2 w02) kc ks (some (.inr E)) pc lv st ws := by
  intro z hz p l e R s m args below meth c D TY A H locs cells slots mc ms ls C hK hZ hd1 hd2 hc1 hc2 hc3 hc4 hP hD hS hl0
  cases hz
  obtain ⟨sa, hsa⟩ := hZ.2.2.2.1 _ hs
  have hX' := re_places (TY := TY) hX
  have hP' := re_sub hP hX'
  have hw : ∀ w, w ∈ TB ∨ w ∈ NGW → w.before args s = true := fun w h => h.elim (C.2.2.2.2.2.1 w) (fun h => NGW_use h (hZ.2.2.2.2.2.1 w h))
  have hg : ∀ w, w ∈ TB ∨ w ∈ NGW → vx_ot w = true := fun w h => h.elim (fun h => by unfold vx_ot; rw [TB_good w h, Bool.or_true]) (fun h => by unfold vx_ot; rw [ngw_tabs (List.mem_filter.mp h).2, Bool.true_or])
  refine vx_throwSW (names := ["java/lang/RuntimeException", "java/lang/Exception"]) C.1 C.2.1 C.2.2.2.2.2.2.2.2.2.1 C.2.2.2.2.1 hE (by decide) (C.2.2.2.2.2.1 _ hk) (C.2.2.2.2.2.1 _ hini) hsa (fun w h => hw w (hat w h)) (fun w h => ?_) hZ.1 hZ.2.1 hS (hl0.1.trans C.2.2.1.symm) d0 d3 d4 d7 d10 (fun x hx => ?_) (by show 2 + 3 < R.frames; omega) (by show _ + (13 * 3 + 43) ≤ R.locals; omega) (by omega) (by omega) C.2.2.2.2.2.2.1 (fun t hvm hsz hq => ⟨⟨w02, ⟨rfl, rfl⟩, hP'.kept (fun k q hk => hq q.1 ((hP' k q hk).lt)), hD.sub isX hnX hX'⟩, Nat.le_trans hS.1 hsz, fun q9 g1 g2 => (hq q9 (Nat.lt_of_lt_of_le g1 hS.1)).trans (hS.2.1 q9 g1 g2)⟩) hS.2.2 (by omega) (by omega)
  · rcases List.mem_cons.mp h with rfl | h
    · exact hg _ (Or.inl hk)
    · rcases List.mem_cons.mp h with rfl | h
      · exact hg _ (Or.inl hini)
      · exact hg w (hat w h)
  · rw [C.2.2.2.2.2.2.2.2.1, hhh] at hx
    cases hx
theorem aw_aast {a t n v ci qk : Nat} {i : Int32} {f : Nat → Option Nat} {vs : List Value} {r : vw_C} {ws' : aW} (dg : decode cc pc = .ok (.aastore, 1)) (hq : pc + 1 = q) (q0 : Nat) (ha : ws[q0]? = some (a, .inl (t, n, .inr (.inr (.inr (.inr f)))))) (ht : t < 6) (hv : ws[qk]? = some (v, .inr (ci, vs))) (hc : vwCl[ci]? = some r) (hty : tyAt t = .object r.1) (h9 : ¬ (i < 0 ∨ n ≤ i.toNatClampNeg)) (hws : ws.set q0 (a, .inl (t, n, .inr (.inr (.inr (.inr (va_up f i.toNatClampNeg (some v))))))) = ws') (K : AW own nm cc nL ret hh X d post kc ks o q lv st ws') : AW own nm cc nL ret hh X d post kc ks o pc lv (.ref v :: .int i :: .ref a :: st) ws := by
  subst hq
  intro z hz p l e R s m args below meth c D TY A H locs cells slots mc ms ls C hK hZ hd1 hd2 hc1 hc2 hc3 hc4 hP hD hS hl0
  have hty' : (tysOf TY)[t]? = some (TY t, .object r.1) := by rw [aw_tys ht, hty]
  refine va_astq C.1 C.2.1 hK hP hD hS q0 t qk ci (re_get ha) hty' (re_get hv) hc h9 dg (fun H1 locs1 hP1 hD1 hS1 => ?_)
  have e : (re TY ws).set q0 (a, .inl (TY t, n, .inr (.inr (.inr (.inr (va_up f i.toNatClampNeg (some v))))))) = re TY ws' := by rw [← hws]; exact re_set (e := .inl (t, n, .inr (.inr (.inr (.inr (va_up f i.toNatClampNeg (some v)))))))
  rw [e] at hP1 hD1
  exact K z hz p l _ R s m args below meth c D TY A H1 locs1 cells slots mc ms ls C hK hZ hd1 hd2 hc1 hc2 hc3 hc4 hP1 hD1 hS1 hl0
/-- new int[n][k] -/
theorem aw_mna {index N M kc' ks' : Nat} {n k : Int32} {ws' : Nat → (Nat → Nat) → aW} (dg : decode cc pc = .ok (.multianewarray index 2, 4)) (hq : pc + 4 = q) (hw1 : Cond.classLink own index ("[" ++ (FieldType.array .int).toString) ∈ TB) (hw2 : Cond.arrayClass .int ∈ TB) (hn : ¬ n < 0) (hk : ¬ k < 0) (hN : n.toNatClampNeg = N) (hM : k.toNatClampNeg = M) (hb1 : N * 4 ≤ 536870912) (hb2 : M * componentBytes .int ≤ 536870912) (hb3 : M ≤ 536870912) (h1 : kc' + (1 + N) ≤ kc) (h2 : ks' + (N + N * M) ≤ ks)
    (hws : ∀ r g, (ws ++ [(r, .inl (4, N, .inr (.inr (.inr (.inr (fun i => if i < N then some (g i) else none))))))]) ++ (List.range N).map (fun i => (g i, .inl (0, M, .inl (fun _ => 0)))) = ws' r g) (K : ∀ (r : Nat) (g : Nat → Nat), AW own nm cc nL ret hh X d post kc' ks' o q lv (.ref r :: st) (ws' r g)) : AW own nm cc nL ret hh X d post kc ks o pc lv (.int k :: .int n :: st) ws := by
  subst hq
  intro z hz p l e R s m args below meth c D TY A H locs cells slots mc ms ls C hK hZ hd1 hd2 hc1 hc2 hc3 hc4 hP hD hS hl0
  have hcy : s.vm.findClass (FieldType.array .int).toString = some (TY 0) := (hK.2 0 _ (aw_tys (by decide))).2
  have e0 : re TY ws = re TY ws ++ va_pl [] (fun _ => .inr (0, [])) := by simp [va_pl]
  have hP0 := hP
  have hD0 := hD
  rw [e0] at hP0 hD0
  refine va_mna (ty := .int) (z := (M, .inl (fun _ => 0))) C.1 C.2.1 C.2.2.2.2.1 (C.2.2.2.2.2.1 _ hw1) hZ.2.2.2.2.2.2.1 (C.2.2.2.2.2.1 _ hw2) hcy hK hP0 hD0 hS C.2.2.2.2.2.2.2.2.2.2.2 hn hk hN hM hb1 hb2 hb3 rfl rfl (by omega) (by omega) (fun cA => ?_) dg (fun r g cA H1 _ _ hK1 hP1 hD1 hS1 => ?_)
  · show ({ cls := cA, slots := Array.replicate M (.int 0), vm := .none } : Cell) = vp_cell cA (M, .inl (fun _ => 0))
    rw [arrV_new]; rfl
  · have hcA := aw_cls hK (t := 4) (by decide) rfl (aw_last hK1)
    subst hcA
    have e : (re TY ws ++ [(r, .inl (TY 4, N, .inr (.inr (.inr (.inr (fun i => if i < N then some (g i) else none))))))]) ++ va_pl ([] ++ (List.range N).map g) (vr_up (fun _ => .inr (0, [])) ((List.range N).map g) (.inl (TY 0, (M, .inl (fun _ => 0))))) = re TY (ws' r g) := by
      rw [← hws, re_app, re_app]
      congr 1
      rw [List.nil_append]
      unfold va_pl re
      rw [List.map_map, List.map_map]
      refine List.map_congr_left (fun i hi => ?_)
      show (g i, vr_up _ _ _ (g i)) = _
      rw [vr_up_in (List.mem_map.mpr ⟨i, hi, rfl⟩)]
      rfl
    rw [e] at hP1 hD1
    have hs1 : slots + N + N * M + ks' ≤ ms := by omega
    exact K r g z hz p l _ R s m args below meth c D TY A H1 locs (cells + 1 + N) (slots + N + N * M) mc ms ls C hK hZ hd1 hd2 hc1 hc2 (by omega) hs1 hP1 hD1 hS1 hl0
/-! ===== bytes, texts, the JDK's StringBuilder ===== -/
theorem gin {L : List Cond} (h : ∀ w ∈ L, w ∈ TB) : GoodIn TB L := fun w hw => ⟨h w hw, good_of_word (TB_good w (h w hw))⟩
theorem aw_getsC {index : Nat} (dg : decode cc pc = .ok (.getstatic index, 3)) (hq : pc + 3 = q) (hl : Cond.fieldLink own index "java/lang/String" "COMPACT_STRINGS" "Z" ∈ TB) (K : AW own nm cc nL ret hh X d post kc ks o q lv (.int 1 :: st) ws) : AW own nm cc nL ret hh X d post kc ks o pc lv st ws := by
  subst hq
  intro z hz p l e R s m args below meth c D TY A H locs cells slots mc ms ls C hK hZ hd1 hd2 hc1 hc2 hc3 hc4 hP hD hS hl0
  exact va_gets C.1 C.2.1 hZ.2.2.1 hS C.2.2.2.2.1 (C.2.2.2.2.2.1 _ hl) (fun _ h9 => h9) dg (K z hz p l e R s m args below meth c D TY A H locs cells slots mc ms ls C hK hZ hd1 hd2 hc1 hc2 hc3 hc4 hP hD hS hl0)
theorem aw_ldcS {index : Nat} {tx : String} (dg : decode cc pc = .ok (.ldc index, 2)) (hq : pc + 2 = q) (hs : (own, index, tx) ∈ STRS) (K : ∀ r : Nat, AW own nm cc nL ret hh X d post kc ks o q lv (.ref r :: st) ws) : AW own nm cc nL ret hh X d post kc ks o pc lv st ws := by
  subst hq
  intro z hz p l e R s m args below meth c D TY A H locs cells slots mc ms ls C hK hZ hd1 hd2 hc1 hc2 hc3 hc4 hP hD hS hl0
  obtain ⟨sa, hsa⟩ := hZ.2.2.2.1 _ hs
  exact va_ldcS C.1 C.2.1 C.2.2.2.2.1 hsa dg (K sa z hz p l e R s m args below meth c D TY A H locs cells slots mc ms ls C hK hZ hd1 hd2 hc1 hc2 hc3 hc4 hP hD hS hl0)
theorem aw_null (dg : decode cc pc = .ok (.aconst_null, 1)) (hq : pc + 1 = q) (K : AW own nm cc nL ret hh X d post kc ks o q lv (.null :: st) ws) : AW own nm cc nL ret hh X d post kc ks o pc lv st ws := by
  subst hq
  intro z hz p l e R s m args below meth c D TY A H locs cells slots mc ms ls C hK hZ hd1 hd2 hc1 hc2 hc3 hc4 hP hD hS hl0
  exact lv_null C.1 C.2.1 dg (K z hz p l e R s m args below meth c D TY A H locs cells slots mc ms ls C hK hZ hd1 hd2 hc1 hc2 hc3 hc4 hP hD hS hl0)
end AWR
