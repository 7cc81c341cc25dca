section AWR
variable {own nm : String} {cc : ByteArray} {nL : Nat} {ret : Option FieldType} {hh : List (Nat × Nat × Nat × Nat)} {X : aX} {d : Nat} {T : Type} {post : T → aO → aW → Prop} {kc ks : Nat} {o : Option T} {pc q : Nat} {lv lv' : List (Nat × Value)} {st : List Value} {ws : aW}
theorem aw_tys {TY : Nat → ClassId} {t : Nat} (h : t < 6) : (tysOf TY)[t]? = some (TY t, tyAt t) := by
  match t, h with
  | 0, _ => rfl
  | 1, _ => rfl
  | 2, _ => rfl
  | 3, _ => rfl
  | 4, _ => rfl
  | 5, _ => rfl
/-- a field of a class of vwCl, as the class own names it at index -/
def FG (own : String) (index ci k : Nat) (ty : FieldType) (fin : Bool) : Prop := ∃ (Cn : String) (Tn : u_T) (N : Nat) (ty0 : Nat → FieldType), vwCl[ci]? = some (Cn, Tn, N) ∧ k < N ∧ (∀ w ∈ u_ws Cn Tn N, w ∈ TB) ∧ Cond.fieldLink own index (Tn k).1 (Tn k).2.1 (Tn k).2.2.1 ∈ TB ∧ (∀ j, j < N → parseFieldDescriptor (Tn j).2.2.1 = some (ty0 j)) ∧ (∀ a, a < N → ∀ b, b < N → a ≠ b → (Tn a).2.1 ≠ (Tn b).2.1) ∧ ty0 k = ty ∧ (Tn k).2.2.2 = fin
def FGN (own host : String) (index ci k : Nat) (ty : FieldType) : Prop := ∃ (Cn : String) (Tn : u_T) (N : Nat) (ty0 : Nat → FieldType), vwCl[ci]? = some (Cn, Tn, N) ∧ k < N ∧ (∀ w ∈ u_ws Cn Tn N, w ∈ TB) ∧ Cond.fieldLinkNest own index (Tn k).1 (Tn k).2.1 (Tn k).2.2.1 host ∈ NGW ∧ (∀ j, j < N → parseFieldDescriptor (Tn j).2.2.1 = some (ty0 j)) ∧ (∀ a, a < N → ∀ b, b < N → a ≠ b → (Tn a).2.1 ≠ (Tn b).2.1) ∧ ty0 k = ty ∧ (Tn k).2.2.2 = false
theorem aw_get {index ci k a : Nat} {ty : FieldType} {fin : Bool} {fs : List Value} {v : Value} (dg : decode cc pc = .ok (.getfield index, 3)) (hq : pc + 3 = q) (hf : FG own index ci k ty fin) (q0 : Nat) (he : ws[q0]? = some (a, .inr (ci, fs))) (hv : fs[k]? = some v) (K : AW own nm cc nL ret hh X d post kc ks o q lv (v :: st) ws) : AW own nm cc nL ret hh X d post kc ks o pc lv (.ref a :: st) ws := by
  subst hq
  intro z hz p l e R s m args below meth c D TY A H locs cells slots mc ms ls C hK hZ hd1 hd2 hc1 hc2 hc3 hc4 hP hD hS hl0
  obtain ⟨Cn, Tn, N, ty0, h1, h2, h3, h4, -⟩ := hf
  exact va_get C.1 C.2.1 C.2.2.2.2.2.1 h3 C.2.2.2.2.1 hK hP q0 (re_get he) h1 k h2 (C.2.2.2.2.2.1 _ h4) (fun _ h9 => h9) hv dg (K z hz p l e R s m args below meth c D TY A H locs cells slots mc ms ls C hK hZ hd1 hd2 hc1 hc2 hc3 hc4 hP hD hS hl0)
theorem aw_getN {host : String} {index ci k a : Nat} {ty : FieldType} {fs : List Value} {v : Value} (dg : decode cc pc = .ok (.getfield index, 3)) (hq : pc + 3 = q) (hf : FGN own host index ci k ty) (q0 : Nat) (he : ws[q0]? = some (a, .inr (ci, fs))) (hv : fs[k]? = some v) (K : AW own nm cc nL ret hh X d post kc ks o q lv (v :: st) ws) : AW own nm cc nL ret hh X d post kc ks o pc lv (.ref a :: st) ws := by
  subst hq
  intro z hz p l e R s m args below meth c D TY A H locs cells slots mc ms ls C hK hZ hd1 hd2 hc1 hc2 hc3 hc4 hP hD hS hl0
  obtain ⟨Cn, Tn, N, ty0, h1, h2, h3, h4, -⟩ := hf
  exact va_getN C.1 C.2.1 C.2.2.2.2.2.1 h3 C.2.2.2.2.1 hK hP q0 (re_get he) h1 k h2 (NGW_use h4 (hZ.2.2.2.2.2.1 _ h4)) (fun _ h9 => h9) hv dg (K z hz p l e R s m args below meth c D TY A H locs cells slots mc ms ls C hK hZ hd1 hd2 hc1 hc2 hc3 hc4 hP hD hS hl0)
theorem aw_put {index ci k a : Nat} {ty : FieldType} {fs : List Value} {v : Value} {ws' : aW} (dg : decode cc pc = .ok (.putfield index, 3)) (hq : pc + 3 = q) (hf : FG own index ci k ty false) (q0 : Nat) (he : ws[q0]? = some (a, .inr (ci, fs))) (hn : narrow ty v = v) (hfit : fits ty v = true) (hl : k < fs.length) (hws : ws.set q0 (a, .inr (ci, fs.set k v)) = ws') (K : AW own nm cc nL ret hh X d post kc ks o q lv st ws') : AW own nm cc nL ret hh X d post kc ks o pc lv (v :: .ref a :: st) ws := by
  subst hq
  intro z hz p l e R s m args below meth c D TY A H locs cells slots mc ms ls C hK hZ hd1 hd2 hc1 hc2 hc3 hc4 hP hD hS hl0
  obtain ⟨Cn, Tn, N, ty0, h1, h2, h3, h4, h5, h6, h7, h8⟩ := hf
  refine va_put C.1 C.2.1 C.2.2.2.2.2.1 h3 ty0 h5 h6 C.2.2.2.2.1 hK hP hD hS q0 (re_get he) h1 k h2 (C.2.2.2.2.2.1 _ h4) (fun _ h9 => h9) h8 (by rw [h5 k h2, h7]) hn hfit hl dg (fun H1 locs1 hP1 hD1 hS1 => ?_)
  have e : (re TY ws).set q0 (a, .inr (ci, fs.set k v)) = re TY ws' := by rw [← hws]; exact re_set (e := .inr (ci, fs.set k v))
  rw [e] at hP1 hD1
  exact K z hz p l _ R s m args below meth c D TY A H1 locs1 cells slots mc ms ls C hK hZ hd1 hd2 hc1 hc2 hc3 hc4 hP1 hD1 hS1 hl0
theorem aw_putN {host : String} {index ci k a : Nat} {ty : FieldType} {fs : List Value} {v : Value} {ws' : aW} (dg : decode cc pc = .ok (.putfield index, 3)) (hq : pc + 3 = q) (hf : FGN own host index ci k ty) (q0 : Nat) (he : ws[q0]? = some (a, .inr (ci, fs))) (hn : narrow ty v = v) (hfit : fits ty v = true) (hl : k < fs.length) (hws : ws.set q0 (a, .inr (ci, fs.set k v)) = ws') (K : AW own nm cc nL ret hh X d post kc ks o q lv st ws') : AW own nm cc nL ret hh X d post kc ks o pc lv (v :: .ref a :: st) ws := by
  subst hq
  intro z hz p l e R s m args below meth c D TY A H locs cells slots mc ms ls C hK hZ hd1 hd2 hc1 hc2 hc3 hc4 hP hD hS hl0
  obtain ⟨Cn, Tn, N, ty0, h1, h2, h3, h4, h5, h6, h7, h8⟩ := hf
  refine va_putN C.1 C.2.1 C.2.2.2.2.2.1 h3 ty0 h5 h6 C.2.2.2.2.1 hK hP hD hS q0 (re_get he) h1 k h2 (NGW_use h4 (hZ.2.2.2.2.2.1 _ h4)) (fun _ h9 => h9) h8 (by rw [h5 k h2, h7]) hn hfit hl dg (fun H1 locs1 hP1 hD1 hS1 => ?_)
  have e : (re TY ws).set q0 (a, .inr (ci, fs.set k v)) = re TY ws' := by rw [← hws]; exact re_set (e := .inr (ci, fs.set k v))
  rw [e] at hP1 hD1
  exact K z hz p l _ R s m args below meth c D TY A H1 locs1 cells slots mc ms ls C hK hZ hd1 hd2 hc1 hc2 hc3 hc4 hP1 hD1 hS1 hl0
/-- a final field, in its class's constructor -/
theorem aw_putF {index ci k a : Nat} {ty : FieldType} {fs : List Value} {v : Value} {ws' : aW} (dg : decode cc pc = .ok (.putfield index, 3)) (hq : pc + 3 = q) (hf : FG own index ci k ty true) (hdec : ∀ (Cn : String) (Tn : u_T) (N : Nat), vwCl[ci]? = some (Cn, Tn, N) → (Tn k).1 = own) (hnm : nm = "<init>") (q0 : Nat) (he : ws[q0]? = some (a, .inr (ci, fs))) (hn : narrow ty v = v) (hfit : fits ty v = true) (hl : k < fs.length) (hws : ws.set q0 (a, .inr (ci, fs.set k v)) = ws') (K : AW own nm cc nL ret hh X d post kc ks o q lv st ws') : AW own nm cc nL ret hh X d post kc ks o pc lv (v :: .ref a :: st) ws := by
  subst hq
  intro z hz p l e R s m args below meth c D TY A H locs cells slots mc ms ls C hK hZ hd1 hd2 hc1 hc2 hc3 hc4 hP hD hS hl0
  obtain ⟨Cn, Tn, N, ty0, h1, h2, h3, h4, h5, h6, h7, h8⟩ := hf
  refine va_putF C.1 C.2.1 C.2.2.2.2.2.1 h3 ty0 h5 h6 C.2.2.2.2.1 hK hP hD hS q0 (re_get he) h1 k h2 (C.2.2.2.2.2.1 _ h4) (fun _ h9 => h9) h8 (C.2.2.2.2.2.2.2.1.trans hnm) (hdec Cn Tn N h1) (by rw [h5 k h2, h7]) hn hfit hl dg (fun H1 locs1 hP1 hD1 hS1 => ?_)
  have e : (re TY ws).set q0 (a, .inr (ci, fs.set k v)) = re TY ws' := by rw [← hws]; exact re_set (e := .inr (ci, fs.set k v))
  rw [e] at hP1 hD1
  exact K z hz p l _ R s m args below meth c D TY A H1 locs1 cells slots mc ms ls C hK hZ hd1 hd2 hc1 hc2 hc3 hc4 hP1 hD1 hS1 hl0
theorem aw_iald {a n : Nat} {i : Int32} {f : Nat → Int32} [dec : Decidable (i < 0 ∨ n ≤ i.toNatClampNeg)] (dg : decode cc pc = .ok (.iaload, 1)) (hq : pc + 1 = q) (q0 : Nat) (ha : ws[q0]? = some (a, .inl (0, n, .inl f))) (K : AW own nm cc nL ret hh X d post kc ks o q lv (.int (f i.toNatClampNeg) :: st) ws) : AW own nm cc nL ret hh X d post kc ks (if i < 0 ∨ n ≤ i.toNatClampNeg then none else o) pc lv (.int i :: .ref a :: st) ws := by
  subst hq
  intro z hz p l e R s m args below meth c D TY A H locs cells slots mc ms ls C hK hZ hd1 hd2 hc1 hc2 hc3 hc4 hP hD hS hl0
  by_cases h9 : i < 0 ∨ n ≤ i.toNatClampNeg
  · rw [if_pos h9] at hz; cases hz
  · rw [if_neg h9] at hz
    exact va_iald C.1 C.2.1 hK hP q0 0 (re_get ha) (aw_tys (by decide)) h9 dg (K z hz p l e R s m args below meth c D TY A H locs cells slots mc ms ls C hK hZ hd1 hd2 hc1 hc2 hc3 hc4 hP hD hS hl0)
theorem aw_iast {a n : Nat} {i x : Int32} {f : Nat → Int32} {ws' : aW} [dec : Decidable (i < 0 ∨ n ≤ i.toNatClampNeg)] (dg : decode cc pc = .ok (.iastore, 1)) (hq : pc + 1 = q) (q0 : Nat) (ha : ws[q0]? = some (a, .inl (0, n, .inl f))) (hws : ws.set q0 (a, .inl (0, n, .inl (upd f i.toNatClampNeg x))) = ws') (K : AW own nm cc nL ret hh X d post kc ks o q lv st ws') : AW own nm cc nL ret hh X d post kc ks (if i < 0 ∨ n ≤ i.toNatClampNeg then none else o) pc lv (.int x :: .int i :: .ref a :: st) ws := by
  subst hq
  intro z hz p l e R s m args below meth c D TY A H locs cells slots mc ms ls C hK hZ hd1 hd2 hc1 hc2 hc3 hc4 hP hD hS hl0
  by_cases h9 : i < 0 ∨ n ≤ i.toNatClampNeg
  · rw [if_pos h9] at hz; cases hz
  · rw [if_neg h9] at hz
    refine va_iast C.1 C.2.1 hK hP hD hS q0 0 (re_get ha) (aw_tys (by decide)) h9 dg (fun H1 locs1 hP1 hD1 hS1 => ?_)
    have e : (re TY ws).set q0 (a, .inl (TY 0, n, .inl (upd f i.toNatClampNeg x))) = re TY ws' := by rw [← hws]; exact re_set (e := .inl (0, n, .inl (upd f i.toNatClampNeg x)))
    rw [e] at hP1 hD1
    exact K z hz p l _ R s m args below meth c D TY A H1 locs1 cells slots mc ms ls C hK hZ hd1 hd2 hc1 hc2 hc3 hc4 hP1 hD1 hS1 hl0
theorem aw_alen {a t : Nat} {g : vp_A} {v : Int32} (dg : decode cc pc = .ok (.arraylength, 1)) (hq : pc + 1 = q) (q0 : Nat) (ha : ws[q0]? = some (a, .inl (t, g))) (ht : t < 6) (hv : Int32.ofNat g.1 = v) (K : AW own nm cc nL ret hh X d post kc ks o q lv (.int v :: st) ws) : AW own nm cc nL ret hh X d post kc ks o pc lv (.ref a :: st) ws := by
  subst hq
  intro z hz p l e R s m args below meth c D TY A H locs cells slots mc ms ls C hK hZ hd1 hd2 hc1 hc2 hc3 hc4 hP hD hS hl0
  exact va_alen C.1 C.2.1 hK hP q0 t (re_get ha) (aw_tys ht) hv dg (K z hz p l e R s m args below meth c D TY A H locs cells slots mc ms ls C hK hZ hd1 hd2 hc1 hc2 hc3 hc4 hP hD hS hl0)
theorem aw_aald {a t n r : Nat} {i : Int32} {f : Nat → Option Nat} [dec : Decidable (i < 0 ∨ n ≤ i.toNatClampNeg)] (dg : decode cc pc = .ok (.aaload, 1)) (hq : pc + 1 = q) (q0 : Nat) (ha : ws[q0]? = some (a, .inl (t, n, .inr (.inr (.inr (.inr f)))))) (ht : t < 6) (hr : (tyAt t).isReference = true) (hfr : ¬ (i < 0 ∨ n ≤ i.toNatClampNeg) → f i.toNatClampNeg = some r) (K : AW own nm cc nL ret hh X d post kc ks o q lv (.ref r :: st) ws) : AW own nm cc nL ret hh X d post kc ks (if i < 0 ∨ n ≤ i.toNatClampNeg then none else o) pc lv (.int i :: .ref a :: st) ws := by
  subst hq
  intro z hz p l e R s m args below meth c D TY A H locs cells slots mc ms ls C hK hZ hd1 hd2 hc1 hc2 hc3 hc4 hP hD hS hl0
  by_cases h9 : i < 0 ∨ n ≤ i.toNatClampNeg
  · rw [if_pos h9] at hz; cases hz
  · rw [if_neg h9] at hz
    have hlt : i.toNatClampNeg < n := Nat.not_le.mp fun h8 => h9 (Or.inr h8)
    have hrv : va_rf (f i.toNatClampNeg) = .ref r := by rw [hfr h9]; rfl
    exact W.aald (v := .ref r) (ty := tyAt t) C.1 C.2.1 (hP q0 _ (re_get ha)) ((hK.2 t _ (aw_tys ht)).1 n (fun j => va_rf (f j))) hr (fun h8 => by cases h8) (by show ¬ (i < 0 ∨ (arrV _ _ _).slots.size ≤ _); rw [arrV_size]; exact h9) (by show (arrV _ _ _).slots[_]? = _; rw [arrV_read _ _ hlt, hrv]) rfl rfl dg (K z hz p l e R s m args below meth c D TY A H locs cells slots mc ms ls C hK hZ hd1 hd2 hc1 hc2 hc3 hc4 hP hD hS hl0)
/-- the same where the place is known -/
theorem aw_ialdT {a n : Nat} {i : Int32} {f : Nat → Int32} (h9 : ¬ (i < 0 ∨ n ≤ i.toNatClampNeg)) (dg : decode cc pc = .ok (.iaload, 1)) (hq : pc + 1 = q) (q0 : Nat) (ha : ws[q0]? = some (a, .inl (0, n, .inl f))) (K : AW own nm cc nL ret hh X d post kc ks o q lv (.int (f i.toNatClampNeg) :: st) ws) : AW own nm cc nL ret hh X d post kc ks o pc lv (.int i :: .ref a :: st) ws := by
  have h := aw_iald (i := i) dg hq q0 ha K
  rwa [if_neg h9] at h
end AWR
