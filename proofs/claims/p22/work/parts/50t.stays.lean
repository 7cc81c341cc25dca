/-! ===== what stays ===== -/
def Fr {T : Type} (o : Option T) (P : T → Prop) : Prop := ∀ x, o = some x → P x
theorem fN {T : Type} {P : T → Prop} : Fr none P := fun x h => by cases h
theorem fR {T : Type} {P : T → Prop} {x : T} (h : P x) : Fr (some x) P := fun y e => by cases e; exact h
theorem fI {T : Type} {P : T → Prop} {C : Prop} {dc : Decidable C} {A B : Option T} (a : Fr A P) (b : Fr B P) : Fr (if C then A else B) P := by
  by_cases h : C
  · rw [if_pos h]; exact a
  · rw [if_neg h]; exact b
theorem fB {U T : Type} {P : T → Prop} {Q : U → Prop} {u : Option U} {k : U → Option T} (h : Fr u Q) (K : ∀ y, Q y → Fr (k y) P) : Fr (u.bind k) P := by
  intro x e
  cases hu : u with
  | none => rw [hu] at e; cases e
  | some y => rw [hu] at e; exact K y (h y hu) x e
theorem fB' {U T : Type} {P : T → Prop} {u : Option U} {k : U → Option T} (K : ∀ y, Fr (k y) P) : Fr (u.bind k) P := fB (Q := fun _ => True) (fun _ _ => trivial) (fun y _ => K y)
theorem upd5 {f : Nat → Int32} {k : Nat} {v z : Int32} (hk : ¬ (5 : Nat) = k) (h : f 5 = z) : upd f k v 5 = z := by
  unfold upd
  rw [if_neg hk]
  exact h
theorem Sf.fr {T : Type} {o : Option T} {P Q : T → Prop} (h : Sf o P) (g : Fr o Q) : Sf o (fun z => P z ∧ Q z) := by
  obtain ⟨x, e, p⟩ := h
  exact ⟨x, e, p, g x e⟩
set_option maxRecDepth 100000 in
theorem r_X7_done {N K : Nat} {th : Int32} {t : Nat → Int32} {p0 : Int32} : Fr (fX7_done N K th t p0) (fun (z : Int32 × (Nat → Int32)) => z.2 5 = t 5) := by
  unfold fX7_done
  exact (fR (upd5 (f := t) (k := (0 : Int32).toNatClampNeg) (v := ((t (0 : Int32).toNatClampNeg) + (1 : Int32))) (by decide) rfl))
set_option maxRecDepth 100000 in
theorem r_X7_refused {N K : Nat} {th : Int32} {t : Nat → Int32} : Fr (fX7_refused N K th t) (fun (z : Int32 × (Nat → Int32)) => z.2 5 = t 5) := by
  unfold fX7_refused
  exact (fR (upd5 (f := t) (k := (4 : Int32).toNatClampNeg) (v := ((t (4 : Int32).toNatClampNeg) + (1 : Int32))) (by decide) rfl))
set_option maxRecDepth 100000 in
theorem r_X7_known_315 {N K : Nat} {th : Int32} {f : Nat → Int32} {t : Nat → Int32} {u : Nat → Int32} {p0 : Int32} {p1 : Int32} {p2 : Int32} {p3 : Int32} {k_277 : Int32 → (Nat → Int32) → (Nat → Int32) → (Nat → Int32) → Option (Int32 × (Nat → Int32) × (Nat → Int32) × (Nat → Int32))} (hk_277 : ∀ (l5 : Int32) (f_ : (Nat → Int32)) (t_ : (Nat → Int32)) (u_ : (Nat → Int32)), t_ 5 = t 5 → Fr (k_277 l5 f_ t_ u_) (fun (z : Int32 × (Nat → Int32) × (Nat → Int32) × (Nat → Int32)) => z.2.2.1 5 = t 5)) : ∀ (l5 : Int32) (f_ : Nat → Int32) (t_ : Nat → Int32) (u_ : Nat → Int32), t_ 5 = t 5 → Fr (fX7_known_315 N K th f t u p0 p1 p2 p3 k_277 l5 f_ t_ u_) (fun (z : Int32 × (Nat → Int32) × (Nat → Int32) × (Nat → Int32)) => z.2.2.1 5 = t 5) := by
  intro l5 f_ t_ u_ ht
  unfold fX7_known_315
  exact (hk_277 _ _ _ _ ht)
set_option maxRecDepth 100000 in
theorem r_X7_known_277 {N K : Nat} {th : Int32} {f : Nat → Int32} {t : Nat → Int32} {u : Nat → Int32} {p0 : Int32} {p1 : Int32} {p2 : Int32} {p3 : Int32} : ∀ (fu : Nat) (l5 : Int32) (f_ : (Nat → Int32)) (t_ : (Nat → Int32)) (u_ : (Nat → Int32)), t_ 5 = t 5 → Fr (fX7_known_277 N K th f t u p0 p1 p2 p3  fu l5 f_ t_ u_) (fun (z : Int32 × (Nat → Int32) × (Nat → Int32) × (Nat → Int32)) => z.2.2.1 5 = t 5) := by
  intro fu
  induction fu with
  | zero => intros; exact fN
  | succ fu ih =>
    intro l5 f_ t_ u_ ht
    unfold fX7_known_277
    exact (fI (fB' (fun x327 => (fR ht))) (fI fN (fI (r_X7_known_315 ih _ _ _ _ ht) (fB' (fun x312 => (r_X7_known_315 ih _ _ _ _ ht))))))
set_option maxRecDepth 100000 in
theorem r_X7_known_268 {N K : Nat} {th : Int32} {f : Nat → Int32} {t : Nat → Int32} {u : Nat → Int32} {p0 : Int32} {p1 : Int32} {p2 : Int32} {p3 : Int32} {k_68 : Int32 → (Nat → Int32) → (Nat → Int32) → (Nat → Int32) → Option (Int32 × (Nat → Int32) × (Nat → Int32) × (Nat → Int32))} (hk_68 : ∀ (l5 : Int32) (f_ : (Nat → Int32)) (t_ : (Nat → Int32)) (u_ : (Nat → Int32)), t_ 5 = t 5 → Fr (k_68 l5 f_ t_ u_) (fun (z : Int32 × (Nat → Int32) × (Nat → Int32) × (Nat → Int32)) => z.2.2.1 5 = t 5)) : ∀ (l5 : Int32) (f_ : Nat → Int32) (t_ : Nat → Int32) (u_ : Nat → Int32), t_ 5 = t 5 → Fr (fX7_known_268 N K th f t u p0 p1 p2 p3 k_68 l5 f_ t_ u_) (fun (z : Int32 × (Nat → Int32) × (Nat → Int32) × (Nat → Int32)) => z.2.2.1 5 = t 5) := by
  intro l5 f_ t_ u_ ht
  unfold fX7_known_268
  exact (hk_68 _ _ _ _ ht)
set_option maxRecDepth 100000 in
theorem r_X7_known_262 {N K : Nat} {th : Int32} {f : Nat → Int32} {t : Nat → Int32} {u : Nat → Int32} {p0 : Int32} {p1 : Int32} {p2 : Int32} {p3 : Int32} {k_68 : Int32 → (Nat → Int32) → (Nat → Int32) → (Nat → Int32) → Option (Int32 × (Nat → Int32) × (Nat → Int32) × (Nat → Int32))} (hk_68 : ∀ (l5 : Int32) (f_ : (Nat → Int32)) (t_ : (Nat → Int32)) (u_ : (Nat → Int32)), t_ 5 = t 5 → Fr (k_68 l5 f_ t_ u_) (fun (z : Int32 × (Nat → Int32) × (Nat → Int32) × (Nat → Int32)) => z.2.2.1 5 = t 5)) {k_191 : Int32 → Int32 → Int32 → Int32 → Int32 → (Nat → Int32) → (Nat → Int32) → (Nat → Int32) → Option (Int32 × (Nat → Int32) × (Nat → Int32) × (Nat → Int32))} (hk_191 : ∀ (l5 : Int32) (l6 : Int32) (l7 : Int32) (l8 : Int32) (l9 : Int32) (f_ : (Nat → Int32)) (t_ : (Nat → Int32)) (u_ : (Nat → Int32)), t_ 5 = t 5 → Fr (k_191 l5 l6 l7 l8 l9 f_ t_ u_) (fun (z : Int32 × (Nat → Int32) × (Nat → Int32) × (Nat → Int32)) => z.2.2.1 5 = t 5)) : ∀ (l5 : Int32) (l6 : Int32) (l7 : Int32) (l8 : Int32) (l9 : Int32) (f_ : Nat → Int32) (t_ : Nat → Int32) (u_ : Nat → Int32), t_ 5 = t 5 → Fr (fX7_known_262 N K th f t u p0 p1 p2 p3 k_68 k_191 l5 l6 l7 l8 l9 f_ t_ u_) (fun (z : Int32 × (Nat → Int32) × (Nat → Int32) × (Nat → Int32)) => z.2.2.1 5 = t 5) := by
  intro l5 l6 l7 l8 l9 f_ t_ u_ ht
  unfold fX7_known_262
  exact (hk_191 _ _ _ _ _ _ _ _ ht)
set_option maxRecDepth 100000 in
theorem r_X7_known_191 {N K : Nat} {th : Int32} {f : Nat → Int32} {t : Nat → Int32} {u : Nat → Int32} {p0 : Int32} {p1 : Int32} {p2 : Int32} {p3 : Int32} {k_68 : Int32 → (Nat → Int32) → (Nat → Int32) → (Nat → Int32) → Option (Int32 × (Nat → Int32) × (Nat → Int32) × (Nat → Int32))} (hk_68 : ∀ (l5 : Int32) (f_ : (Nat → Int32)) (t_ : (Nat → Int32)) (u_ : (Nat → Int32)), t_ 5 = t 5 → Fr (k_68 l5 f_ t_ u_) (fun (z : Int32 × (Nat → Int32) × (Nat → Int32) × (Nat → Int32)) => z.2.2.1 5 = t 5)) : ∀ (fu : Nat) (l5 : Int32) (l6 : Int32) (l7 : Int32) (l8 : Int32) (l9 : Int32) (f_ : (Nat → Int32)) (t_ : (Nat → Int32)) (u_ : (Nat → Int32)), t_ 5 = t 5 → Fr (fX7_known_191 N K th f t u p0 p1 p2 p3 k_68 fu l5 l6 l7 l8 l9 f_ t_ u_) (fun (z : Int32 × (Nat → Int32) × (Nat → Int32) × (Nat → Int32)) => z.2.2.1 5 = t 5) := by
  intro fu
  induction fu with
  | zero => intros; exact fN
  | succ fu ih =>
    intro l5 l6 l7 l8 l9 f_ t_ u_ ht
    unfold fX7_known_191
    exact (fI (r_X7_known_268 hk_68 _ _ _ _ ht) (fI (fB' (fun x209 => (fB' (fun x219 => (fB' (fun x229 => (fI (r_X7_known_262 hk_68 ih _ _ _ _ _ _ _ _ ht) (fB' (fun x239 => (fI (fI fN (fI fN (r_X7_known_262 hk_68 ih _ _ _ _ _ _ _ _ ht))) (r_X7_known_262 hk_68 ih _ _ _ _ _ _ _ _ ht))))))))))) (r_X7_known_268 hk_68 _ _ _ _ ht)))
set_option maxRecDepth 100000 in
theorem r_X7_known_182 {N K : Nat} {th : Int32} {f : Nat → Int32} {t : Nat → Int32} {u : Nat → Int32} {p0 : Int32} {p1 : Int32} {p2 : Int32} {p3 : Int32} {k_68 : Int32 → (Nat → Int32) → (Nat → Int32) → (Nat → Int32) → Option (Int32 × (Nat → Int32) × (Nat → Int32) × (Nat → Int32))} (hk_68 : ∀ (l5 : Int32) (f_ : (Nat → Int32)) (t_ : (Nat → Int32)) (u_ : (Nat → Int32)), t_ 5 = t 5 → Fr (k_68 l5 f_ t_ u_) (fun (z : Int32 × (Nat → Int32) × (Nat → Int32) × (Nat → Int32)) => z.2.2.1 5 = t 5)) : ∀ (l5 : Int32) (l6 : Int32) (l7 : Int32) (l8 : Int32) (s0 : Int32) (s1 : Int32) (s2 : Int32) (s3 : Int32) (f_ : Nat → Int32) (t_ : Nat → Int32) (u_ : Nat → Int32), ¬ (5 : Nat) = s3.toNatClampNeg → t_ 5 = t 5 → Fr (fX7_known_182 N K th f t u p0 p1 p2 p3 k_68 l5 l6 l7 l8 s0 s1 s2 s3 f_ t_ u_) (fun (z : Int32 × (Nat → Int32) × (Nat → Int32) × (Nat → Int32)) => z.2.2.1 5 = t 5) := by
  intro l5 l6 l7 l8 s0 s1 s2 s3 f_ t_ u_ h5_s3 ht
  unfold fX7_known_182
  exact (fB' (fun x182 => (fI fN (r_X7_known_191 hk_68 N _ _ _ _ _ _ _ _ (upd5 (f := t_) (k := s3.toNatClampNeg) (v := (s2 + (s1 - x182))) h5_s3 ht)))))
set_option maxRecDepth 100000 in
theorem r_X7_known_153 {N K : Nat} {th : Int32} {f : Nat → Int32} {t : Nat → Int32} {u : Nat → Int32} {p0 : Int32} {p1 : Int32} {p2 : Int32} {p3 : Int32} {k_68 : Int32 → (Nat → Int32) → (Nat → Int32) → (Nat → Int32) → Option (Int32 × (Nat → Int32) × (Nat → Int32) × (Nat → Int32))} (hk_68 : ∀ (l5 : Int32) (f_ : (Nat → Int32)) (t_ : (Nat → Int32)) (u_ : (Nat → Int32)), t_ 5 = t 5 → Fr (k_68 l5 f_ t_ u_) (fun (z : Int32 × (Nat → Int32) × (Nat → Int32) × (Nat → Int32)) => z.2.2.1 5 = t 5)) : ∀ (l5 : Int32) (l6 : Int32) (l7 : Int32) (l8 : Int32) (s0 : Int32) (s1 : Int32) (s2 : Int32) (f_ : Nat → Int32) (t_ : Nat → Int32) (u_ : Nat → Int32), ¬ (5 : Nat) = s2.toNatClampNeg → t_ 5 = t 5 → Fr (fX7_known_153 N K th f t u p0 p1 p2 p3 k_68 l5 l6 l7 l8 s0 s1 s2 f_ t_ u_) (fun (z : Int32 × (Nat → Int32) × (Nat → Int32) × (Nat → Int32)) => z.2.2.1 5 = t 5) := by
  intro l5 l6 l7 l8 s0 s1 s2 f_ t_ u_ h5_s2 ht
  unfold fX7_known_153
  exact (fB' (fun x153 => (fI fN (fI fN (fI (r_X7_known_182 hk_68 _ _ _ _ _ _ _ _ _ _ _ (by decide) (upd5 (f := t_) (k := s2.toNatClampNeg) (v := (s1 + x153)) h5_s2 ht)) (r_X7_known_182 hk_68 _ _ _ _ _ _ _ _ _ _ _ (by decide) (upd5 (f := t_) (k := s2.toNatClampNeg) (v := (s1 + x153)) h5_s2 ht)))))))
set_option maxRecDepth 100000 in
theorem r_X7_known_118 {N K : Nat} {th : Int32} {f : Nat → Int32} {t : Nat → Int32} {u : Nat → Int32} {p0 : Int32} {p1 : Int32} {p2 : Int32} {p3 : Int32} {k_68 : Int32 → (Nat → Int32) → (Nat → Int32) → (Nat → Int32) → Option (Int32 × (Nat → Int32) × (Nat → Int32) × (Nat → Int32))} (hk_68 : ∀ (l5 : Int32) (f_ : (Nat → Int32)) (t_ : (Nat → Int32)) (u_ : (Nat → Int32)), t_ 5 = t 5 → Fr (k_68 l5 f_ t_ u_) (fun (z : Int32 × (Nat → Int32) × (Nat → Int32) × (Nat → Int32)) => z.2.2.1 5 = t 5)) : ∀ (l5 : Int32) (l6 : Int32) (l7 : Int32) (s0 : Int32) (f_ : Nat → Int32) (t_ : Nat → Int32) (u_ : Nat → Int32), t_ 5 = t 5 → Fr (fX7_known_118 N K th f t u p0 p1 p2 p3 k_68 l5 l6 l7 s0 f_ t_ u_) (fun (z : Int32 × (Nat → Int32) × (Nat → Int32) × (Nat → Int32)) => z.2.2.1 5 = t 5) := by
  intro l5 l6 l7 s0 f_ t_ u_ ht
  unfold fX7_known_118
  exact (fI fN (fI (r_X7_known_153 hk_68 _ _ _ _ _ _ _ _ _ _ (by decide) (upd5 (f := t_) (k := (1 : Int32).toNatClampNeg) (v := ((t_ (1 : Int32).toNatClampNeg) + (u_ l5.toNatClampNeg))) (by decide) ht)) (r_X7_known_153 hk_68 _ _ _ _ _ _ _ _ _ _ (by decide) (upd5 (f := t_) (k := (1 : Int32).toNatClampNeg) (v := ((t_ (1 : Int32).toNatClampNeg) + (u_ l5.toNatClampNeg))) (by decide) ht))))
set_option maxRecDepth 100000 in
theorem r_X7_known_68 {N K : Nat} {th : Int32} {f : Nat → Int32} {t : Nat → Int32} {u : Nat → Int32} {p0 : Int32} {p1 : Int32} {p2 : Int32} {p3 : Int32} : ∀ (fu : Nat) (l5 : Int32) (f_ : (Nat → Int32)) (t_ : (Nat → Int32)) (u_ : (Nat → Int32)), t_ 5 = t 5 → Fr (fX7_known_68 N K th f t u p0 p1 p2 p3  fu l5 f_ t_ u_) (fun (z : Int32 × (Nat → Int32) × (Nat → Int32) × (Nat → Int32)) => z.2.2.1 5 = t 5) := by
  intro fu
  induction fu with
  | zero => intros; exact fN
  | succ fu ih =>
    intro l5 f_ t_ u_ ht
    unfold fX7_known_68
    exact (fI (r_X7_known_277 N _ _ _ _ ht) (fI fN (fI (r_X7_known_268 ih _ _ _ _ ht) (fB' (fun x107 => (fI (r_X7_known_118 ih _ _ _ _ _ _ _ ht) (r_X7_known_118 ih _ _ _ _ _ _ _ ht)))))))
set_option maxRecDepth 100000 in
theorem r_X7_known_22 {N K : Nat} {th : Int32} {f : Nat → Int32} {t : Nat → Int32} {u : Nat → Int32} {p0 : Int32} {p1 : Int32} {p2 : Int32} {p3 : Int32} : ∀ (fu : Nat) (l5 : Int32) (f_ : (Nat → Int32)) (t_ : (Nat → Int32)) (u_ : (Nat → Int32)), t_ 5 = t 5 → Fr (fX7_known_22 N K th f t u p0 p1 p2 p3  fu l5 f_ t_ u_) (fun (z : Int32 × (Nat → Int32) × (Nat → Int32) × (Nat → Int32)) => z.2.2.1 5 = t 5) := by
  intro fu
  induction fu with
  | zero => intros; exact fN
  | succ fu ih =>
    intro l5 f_ t_ u_ ht
    unfold fX7_known_22
    exact (fI (fI fN (r_X7_known_68 N _ _ _ _ ht)) (fI fN (ih _ _ _ _ ht)))
set_option maxRecDepth 100000 in
theorem r_X7_known {N K : Nat} {th : Int32} {f : Nat → Int32} {t : Nat → Int32} {u : Nat → Int32} {p0 : Int32} {p1 : Int32} {p2 : Int32} {p3 : Int32} : Fr (fX7_known N K th f t u p0 p1 p2 p3) (fun (z : Int32 × (Nat → Int32) × (Nat → Int32) × (Nat → Int32)) => z.2.2.1 5 = t 5) := by
  unfold fX7_known
  exact (fB' (fun x3 => (fI (r_X7_known_22 N _ _ _ _ rfl) (fB' (fun x15 => (fR rfl))))))
set_option maxRecDepth 100000 in
theorem r_X7_know {N K : Nat} {th : Int32} {f : Nat → Int32} {t : Nat → Int32} {u : Nat → Int32} {p0 : Int32} {p1 : Int32} {p2 : Int32} {p3 : Int32} : Fr (fX7_know N K th f t u p0 p1 p2 p3) (fun (z : Int32 × Int32 × (Nat → Int32) × (Nat → Int32) × (Nat → Int32)) => z.2.2.2.1 5 = t 5) := by
  unfold fX7_know
  exact (fB' (fun x4 => (fB' (fun x11 => (fB' (fun x14 => (fI (fB r_X7_known (fun x29 hx29 => (fB r_X7_done (fun x32 hx32 => (fR (hx32.trans (hx29.trans rfl))))))) (fR rfl))))))))
set_option maxRecDepth 100000 in
theorem r_X7_few_46 {N K : Nat} {th : Int32} {f : Nat → Int32} {t : Nat → Int32} {u : Nat → Int32} {p0 : Int32} {p1 : Int32} {p2 : Int32} : ∀ (fu : Nat) (l4 : Int32) (l5 : Int32) (th_ : Int32) (f_ : (Nat → Int32)) (t_ : (Nat → Int32)) (u_ : (Nat → Int32)), t_ 5 = t 5 → Fr (fX7_few_46 N K th f t u p0 p1 p2  fu l4 l5 th_ f_ t_ u_) (fun (z : Int32 × Int32 × (Nat → Int32) × (Nat → Int32) × (Nat → Int32)) => z.2.2.2.1 5 = t 5) := by
  intro fu
  induction fu with
  | zero => intros; exact fN
  | succ fu ih =>
    intro l4 l5 th_ f_ t_ u_ ht
    unfold fX7_few_46
    exact (fI (fB r_X7_done (fun x75 hx75 => (fR (hx75.trans ht)))) (fB r_X7_known (fun x60 hx60 => (ih _ _ _ _ _ _ (hx60.trans ht)))))
set_option maxRecDepth 100000 in
theorem r_X7_few_32 {N K : Nat} {th : Int32} {f : Nat → Int32} {t : Nat → Int32} {u : Nat → Int32} {p0 : Int32} {p1 : Int32} {p2 : Int32} : ∀ (s0 : Int32) (s1 : Int32) (th_ : Int32) (f_ : Nat → Int32) (t_ : Nat → Int32) (u_ : Nat → Int32), t_ 5 = t 5 → Fr (fX7_few_32 N K th f t u p0 p1 p2  s0 s1 th_ f_ t_ u_) (fun (z : Int32 × Int32 × (Nat → Int32) × (Nat → Int32) × (Nat → Int32)) => z.2.2.2.1 5 = t 5) := by
  intro s0 s1 th_ f_ t_ u_ ht
  unfold fX7_few_32
  exact (fB' (fun x32 => (fI (r_X7_few_46 N _ _ _ _ _ _ ht) (fR ht))))
set_option maxRecDepth 100000 in
theorem r_X7_few_27 {N K : Nat} {th : Int32} {f : Nat → Int32} {t : Nat → Int32} {u : Nat → Int32} {p0 : Int32} {p1 : Int32} {p2 : Int32} : ∀ (s0 : Int32) (th_ : Int32) (f_ : Nat → Int32) (t_ : Nat → Int32) (u_ : Nat → Int32), t_ 5 = t 5 → Fr (fX7_few_27 N K th f t u p0 p1 p2  s0 th_ f_ t_ u_) (fun (z : Int32 × Int32 × (Nat → Int32) × (Nat → Int32) × (Nat → Int32)) => z.2.2.2.1 5 = t 5) := by
  intro s0 th_ f_ t_ u_ ht
  unfold fX7_few_27
  exact (r_X7_few_32 _ _ _ _ _ _ ht)
set_option maxRecDepth 100000 in
theorem r_X7_few {N K : Nat} {th : Int32} {f : Nat → Int32} {t : Nat → Int32} {u : Nat → Int32} {p0 : Int32} {p1 : Int32} {p2 : Int32} : Fr (fX7_few N K th f t u p0 p1 p2) (fun (z : Int32 × Int32 × (Nat → Int32) × (Nat → Int32) × (Nat → Int32)) => z.2.2.2.1 5 = t 5) := by
  unfold fX7_few
  exact (fB' (fun x4 => (fB' (fun x11 => (fI (fB' (fun x21 => (fI (r_X7_few_32 _ _ _ _ _ _ rfl) (r_X7_few_27 _ _ _ _ _ rfl)))) (r_X7_few_27 _ _ _ _ _ rfl))))))
set_option maxRecDepth 100000 in
theorem r_X7_surplus_46 {N K : Nat} {th : Int32} {f : Nat → Int32} {t : Nat → Int32} {u : Nat → Int32} {p0 : Int32} {p1 : Int32} {k_27 : Int32 → Int32 → Int32 → (Nat → Int32) → (Nat → Int32) → (Nat → Int32) → Option (Int32 × Int32 × (Nat → Int32) × (Nat → Int32) × (Nat → Int32))} (hk_27 : ∀ (l3 : Int32) (l4 : Int32) (th_ : Int32) (f_ : (Nat → Int32)) (t_ : (Nat → Int32)) (u_ : (Nat → Int32)), t_ 5 = t 5 → Fr (k_27 l3 l4 th_ f_ t_ u_) (fun (z : Int32 × Int32 × (Nat → Int32) × (Nat → Int32) × (Nat → Int32)) => z.2.2.2.1 5 = t 5)) : ∀ (l4 : Int32) (s0 : Int32) (s1 : Int32) (th_ : Int32) (f_ : Nat → Int32) (t_ : Nat → Int32) (u_ : Nat → Int32), t_ 5 = t 5 → Fr (fX7_surplus_46 N K th f t u p0 p1 k_27 l4 s0 s1 th_ f_ t_ u_) (fun (z : Int32 × Int32 × (Nat → Int32) × (Nat → Int32) × (Nat → Int32)) => z.2.2.2.1 5 = t 5) := by
  intro l4 s0 s1 th_ f_ t_ u_ ht
  unfold fX7_surplus_46
  exact (fB r_X7_known (fun x52 hx52 => (hk_27 _ _ _ _ _ _ (hx52.trans ht))))
set_option maxRecDepth 100000 in
theorem r_X7_surplus_27 {N K : Nat} {th : Int32} {f : Nat → Int32} {t : Nat → Int32} {u : Nat → Int32} {p0 : Int32} {p1 : Int32} : ∀ (fu : Nat) (l3 : Int32) (l4 : Int32) (th_ : Int32) (f_ : (Nat → Int32)) (t_ : (Nat → Int32)) (u_ : (Nat → Int32)), t_ 5 = t 5 → Fr (fX7_surplus_27 N K th f t u p0 p1  fu l3 l4 th_ f_ t_ u_) (fun (z : Int32 × Int32 × (Nat → Int32) × (Nat → Int32) × (Nat → Int32)) => z.2.2.2.1 5 = t 5) := by
  intro fu
  induction fu with
  | zero => intros; exact fN
  | succ fu ih =>
    intro l3 l4 th_ f_ t_ u_ ht
    unfold fX7_surplus_27
    exact (fI (fB r_X7_done (fun x66 hx66 => (fR (hx66.trans ht)))) (fI (r_X7_surplus_46 ih _ _ _ _ _ _ _ ht) (r_X7_surplus_46 ih _ _ _ _ _ _ _ ht)))
set_option maxRecDepth 100000 in
theorem r_X7_surplus {N K : Nat} {th : Int32} {f : Nat → Int32} {t : Nat → Int32} {u : Nat → Int32} {p0 : Int32} {p1 : Int32} : Fr (fX7_surplus N K th f t u p0 p1) (fun (z : Int32 × Int32 × (Nat → Int32) × (Nat → Int32) × (Nat → Int32)) => z.2.2.2.1 5 = t 5) := by
  unfold fX7_surplus
  exact (fB' (fun x4 => (fB' (fun x11 => (fB' (fun x14 => (fI (r_X7_surplus_27 N _ _ _ _ _ _ rfl) (fR rfl))))))))
set_option maxRecDepth 100000 in
theorem r_X7_place_69 {N K : Nat} {th : Int32} {f : Nat → Int32} {fd : Nat → Int32} {t : Nat → Int32} {u : Nat → Int32} {p0 : Int32} {p1 : Int32} {k_53 : Int32 → Int32 → Int32 → Int32 → Int32 → (Nat → Int32) → (Nat → Int32) → (Nat → Int32) → Option (Int32 × Int32 × (Nat → Int32) × (Nat → Int32) × (Nat → Int32))} (hk_53 : ∀ (l3 : Int32) (l4 : Int32) (l5 : Int32) (l6 : Int32) (th_ : Int32) (f_ : (Nat → Int32)) (t_ : (Nat → Int32)) (u_ : (Nat → Int32)), t_ 5 = t 5 → Fr (k_53 l3 l4 l5 l6 th_ f_ t_ u_) (fun (z : Int32 × Int32 × (Nat → Int32) × (Nat → Int32) × (Nat → Int32)) => z.2.2.2.1 5 = t 5)) : ∀ (fu : Nat) (l3 : Int32) (l4 : Int32) (l5 : Int32) (l6 : Int32) (l7 : Int32) (th_ : Int32) (f_ : (Nat → Int32)) (t_ : (Nat → Int32)) (u_ : (Nat → Int32)), t_ 5 = t 5 → Fr (fX7_place_69 N K th f fd t u p0 p1 k_53 fu l3 l4 l5 l6 l7 th_ f_ t_ u_) (fun (z : Int32 × Int32 × (Nat → Int32) × (Nat → Int32) × (Nat → Int32)) => z.2.2.2.1 5 = t 5) := by
  intro fu
  induction fu with
  | zero => intros; exact fN
  | succ fu ih =>
    intro l3 l4 l5 l6 l7 th_ f_ t_ u_ ht
    unfold fX7_place_69
    exact (fI (hk_53 _ _ _ _ _ _ _ _ ht) (fB r_X7_known (fun x82 hx82 => (fB r_X7_known (fun x96 hx96 => (ih _ _ _ _ _ _ _ _ _ (hx96.trans (hx82.trans ht))))))))
set_option maxRecDepth 100000 in
theorem r_X7_place_53 {N K : Nat} {th : Int32} {f : Nat → Int32} {fd : Nat → Int32} {t : Nat → Int32} {u : Nat → Int32} {p0 : Int32} {p1 : Int32} : ∀ (fu : Nat) (l3 : Int32) (l4 : Int32) (l5 : Int32) (l6 : Int32) (th_ : Int32) (f_ : (Nat → Int32)) (t_ : (Nat → Int32)) (u_ : (Nat → Int32)), t_ 5 = t 5 → Fr (fX7_place_53 N K th f fd t u p0 p1  fu l3 l4 l5 l6 th_ f_ t_ u_) (fun (z : Int32 × Int32 × (Nat → Int32) × (Nat → Int32) × (Nat → Int32)) => z.2.2.2.1 5 = t 5) := by
  intro fu
  induction fu with
  | zero => intros; exact fN
  | succ fu ih =>
    intro l3 l4 l5 l6 th_ f_ t_ u_ ht
    unfold fX7_place_53
    exact (fI (fB r_X7_done (fun x126 hx126 => (fR (hx126.trans ht)))) (fI fN (fI fN (r_X7_place_69 ih N _ _ _ _ _ _ _ _ _ ht))))
set_option maxRecDepth 100000 in
theorem r_X7_place_24 {N K : Nat} {th : Int32} {f : Nat → Int32} {fd : Nat → Int32} {t : Nat → Int32} {u : Nat → Int32} {p0 : Int32} {p1 : Int32} : ∀ (s0 : Int32) (th_ : Int32) (f_ : Nat → Int32) (t_ : Nat → Int32) (u_ : Nat → Int32), t_ 5 = t 5 → Fr (fX7_place_24 N K th f fd t u p0 p1  s0 th_ f_ t_ u_) (fun (z : Int32 × Int32 × (Nat → Int32) × (Nat → Int32) × (Nat → Int32)) => z.2.2.2.1 5 = t 5) := by
  intro s0 th_ f_ t_ u_ ht
  unfold fX7_place_24
  exact (fB' (fun x25 => (fI (fI fN (fB' (fun x39 => (r_X7_place_53 N _ _ _ _ _ _ _ _ ht)))) (fR ht))))
set_option maxRecDepth 100000 in
theorem r_X7_place_19 {N K : Nat} {th : Int32} {f : Nat → Int32} {fd : Nat → Int32} {t : Nat → Int32} {u : Nat → Int32} {p0 : Int32} {p1 : Int32} : ∀ (th_ : Int32) (f_ : Nat → Int32) (t_ : Nat → Int32) (u_ : Nat → Int32), t_ 5 = t 5 → Fr (fX7_place_19 N K th f fd t u p0 p1  th_ f_ t_ u_) (fun (z : Int32 × Int32 × (Nat → Int32) × (Nat → Int32) × (Nat → Int32)) => z.2.2.2.1 5 = t 5) := by
  intro th_ f_ t_ u_ ht
  unfold fX7_place_19
  exact (r_X7_place_24 _ _ _ _ _ ht)
set_option maxRecDepth 100000 in
theorem r_X7_place {N K : Nat} {th : Int32} {f : Nat → Int32} {fd : Nat → Int32} {t : Nat → Int32} {u : Nat → Int32} {p0 : Int32} {p1 : Int32} : Fr (fX7_place N K th f fd t u p0 p1) (fun (z : Int32 × Int32 × (Nat → Int32) × (Nat → Int32) × (Nat → Int32)) => z.2.2.2.1 5 = t 5) := by
  unfold fX7_place
  exact (fB' (fun x4 => (fI (fB' (fun x13 => (fI (r_X7_place_24 _ _ _ _ _ rfl) (r_X7_place_19 _ _ _ _ rfl)))) (r_X7_place_19 _ _ _ _ rfl))))
set_option maxRecDepth 100000 in
theorem r_X7_learn_81 {N K : Nat} {th : Int32} {f : Nat → Int32} {t : Nat → Int32} {p0 : Int32} {p1 : Int32} {p2 : Int32} {p3 : Int32} : ∀ (l5 : Int32) (th_ : Int32) (f_ : Nat → Int32) (t_ : Nat → Int32), t_ 5 = t 5 → Fr (fX7_learn_81 N K th f t p0 p1 p2 p3  l5 th_ f_ t_) (fun (z : Int32 × Int32 × (Nat → Int32) × (Nat → Int32)) => z.2.2.2 5 = t 5) := by
  intro l5 th_ f_ t_ ht
  unfold fX7_learn_81
  exact (fB' (fun x84 => (fB r_X7_done (fun x87 hx87 => (fR (hx87.trans ht))))))
set_option maxRecDepth 100000 in
theorem r_X7_learn_53 {N K : Nat} {th : Int32} {f : Nat → Int32} {t : Nat → Int32} {p0 : Int32} {p1 : Int32} {p2 : Int32} {p3 : Int32} : ∀ (s0 : Int32) (th_ : Int32) (f_ : Nat → Int32) (t_ : Nat → Int32), t_ 5 = t 5 → Fr (fX7_learn_53 N K th f t p0 p1 p2 p3  s0 th_ f_ t_) (fun (z : Int32 × Int32 × (Nat → Int32) × (Nat → Int32)) => z.2.2.2 5 = t 5) := by
  intro s0 th_ f_ t_ ht
  unfold fX7_learn_53
  exact (fI (r_X7_learn_81 _ _ _ _ ht) (fI fN (fB' (fun x70 => (fB' (fun x77 => (fI fN (r_X7_learn_81 _ _ _ _ ht))))))))
set_option maxRecDepth 100000 in
theorem r_X7_learn {N K : Nat} {th : Int32} {f : Nat → Int32} {t : Nat → Int32} {p0 : Int32} {p1 : Int32} {p2 : Int32} {p3 : Int32} : Fr (fX7_learn N K th f t p0 p1 p2 p3) (fun (z : Int32 × Int32 × (Nat → Int32) × (Nat → Int32)) => z.2.2.2 5 = t 5) := by
  unfold fX7_learn
  exact (fB' (fun x4 => (fB' (fun x11 => (fB' (fun x14 => (fI (fB' (fun x25 => (fI (fB' (fun x42 => (fI (r_X7_learn_53 _ _ _ _ rfl) (r_X7_learn_53 _ _ _ _ rfl)))) (fB r_X7_refused (fun x32 hx32 => (fR (hx32.trans rfl))))))) (fR rfl))))))))
set_option maxRecDepth 100000 in
theorem r_X7_relearn {N K : Nat} {th : Int32} {f : Nat → Int32} {t : Nat → Int32} {p0 : Int32} {p1 : Int32} {p2 : Int32} {p3 : Int32} : Fr (fX7_relearn N K th f t p0 p1 p2 p3) (fun (z : Int32 × Int32 × (Nat → Int32) × (Nat → Int32)) => z.2.2.2 5 = t 5) := by
  unfold fX7_relearn
  exact (fB' (fun x4 => (fB' (fun x11 => (fB' (fun x14 => (fI (fB' (fun x28 => (fI (fI fN (fB' (fun x49 => (fB' (fun x56 => (fI fN (fB' (fun x67 => (fB r_X7_done (fun x70 hx70 => (fR (hx70.trans rfl)))))))))))) (fB r_X7_refused (fun x35 hx35 => (fR (hx35.trans rfl))))))) (fR rfl))))))))
set_option maxRecDepth 100000 in
theorem r_X7_forget {N K : Nat} {th : Int32} {f : Nat → Int32} {t : Nat → Int32} {p0 : Int32} {p1 : Int32} {p2 : Int32} {p3 : Int32} : Fr (fX7_forget N K th f t p0 p1 p2 p3) (fun (z : Int32 × Int32 × (Nat → Int32) × (Nat → Int32)) => z.2.2.2 5 = t 5) := by
  unfold fX7_forget
  exact (fB' (fun x4 => (fB' (fun x11 => (fB' (fun x14 => (fI (fB' (fun x28 => (fI (fI fN (fB' (fun x53 => (fI fN (fB r_X7_done (fun x61 hx61 => (fR (hx61.trans rfl)))))))) (fB r_X7_refused (fun x39 hx39 => (fR (hx39.trans rfl))))))) (fR rfl))))))))
set_option maxRecDepth 100000 in
theorem r_X7_forgetIf_72 {N K : Nat} {th : Int32} {f : Nat → Int32} {t : Nat → Int32} {p0 : Int32} {p1 : Int32} {p2 : Int32} {p3 : Int32} {p4 : Int32} : ∀ (l7 : Int32) (th_ : Int32) (f_ : Nat → Int32) (t_ : Nat → Int32), t_ 5 = t 5 → Fr (fX7_forgetIf_72 N K th f t p0 p1 p2 p3 p4  l7 th_ f_ t_) (fun (z : Int32 × Int32 × (Nat → Int32) × (Nat → Int32)) => z.2.2.2 5 = t 5) := by
  intro l7 th_ f_ t_ ht
  unfold fX7_forgetIf_72
  exact (fB' (fun x75 => (fB r_X7_done (fun x78 hx78 => (fR (hx78.trans ht))))))
set_option maxRecDepth 100000 in
theorem r_X7_forgetIf_50 {N K : Nat} {th : Int32} {f : Nat → Int32} {t : Nat → Int32} {p0 : Int32} {p1 : Int32} {p2 : Int32} {p3 : Int32} {p4 : Int32} : ∀ (s0 : Int32) (th_ : Int32) (f_ : Nat → Int32) (t_ : Nat → Int32), t_ 5 = t 5 → Fr (fX7_forgetIf_50 N K th f t p0 p1 p2 p3 p4  s0 th_ f_ t_) (fun (z : Int32 × Int32 × (Nat → Int32) × (Nat → Int32)) => z.2.2.2 5 = t 5) := by
  intro s0 th_ f_ t_ ht
  unfold fX7_forgetIf_50
  exact (fI (r_X7_forgetIf_72 _ _ _ _ ht) (fI fN (fB' (fun x67 => (fI fN (r_X7_forgetIf_72 _ _ _ _ ht))))))
set_option maxRecDepth 100000 in
theorem r_X7_forgetIf_49 {N K : Nat} {th : Int32} {f : Nat → Int32} {t : Nat → Int32} {p0 : Int32} {p1 : Int32} {p2 : Int32} {p3 : Int32} {p4 : Int32} : ∀ (th_ : Int32) (f_ : Nat → Int32) (t_ : Nat → Int32), t_ 5 = t 5 → Fr (fX7_forgetIf_49 N K th f t p0 p1 p2 p3 p4  th_ f_ t_) (fun (z : Int32 × Int32 × (Nat → Int32) × (Nat → Int32)) => z.2.2.2 5 = t 5) := by
  intro th_ f_ t_ ht
  unfold fX7_forgetIf_49
  exact (r_X7_forgetIf_50 _ _ _ _ ht)
set_option maxRecDepth 100000 in
theorem r_X7_forgetIf {N K : Nat} {th : Int32} {f : Nat → Int32} {t : Nat → Int32} {p0 : Int32} {p1 : Int32} {p2 : Int32} {p3 : Int32} {p4 : Int32} : Fr (fX7_forgetIf N K th f t p0 p1 p2 p3 p4) (fun (z : Int32 × Int32 × (Nat → Int32) × (Nat → Int32)) => z.2.2.2 5 = t 5) := by
  unfold fX7_forgetIf
  exact (fB' (fun x4 => (fB' (fun x11 => (fB' (fun x14 => (fI (fB' (fun x28 => (fI (r_X7_forgetIf_49 _ _ _ rfl) (fI (r_X7_forgetIf_50 _ _ _ _ rfl) (r_X7_forgetIf_49 _ _ _ rfl))))) (fR rfl))))))))
set_option maxRecDepth 100000 in
theorem r_X7_forgetAll_63 {N K : Nat} {th : Int32} {f : Nat → Int32} {t : Nat → Int32} {p0 : Int32} {p1 : Int32} {p2 : Int32} {k_33 : Int32 → Int32 → Int32 → (Nat → Int32) → (Nat → Int32) → Option (Int32 × Int32 × (Nat → Int32) × (Nat → Int32))} (hk_33 : ∀ (l4 : Int32) (l5 : Int32) (th_ : Int32) (f_ : (Nat → Int32)) (t_ : (Nat → Int32)), t_ 5 = t 5 → Fr (k_33 l4 l5 th_ f_ t_) (fun (z : Int32 × Int32 × (Nat → Int32) × (Nat → Int32)) => z.2.2.2 5 = t 5)) : ∀ (l4 : Int32) (l5 : Int32) (th_ : Int32) (f_ : Nat → Int32) (t_ : Nat → Int32), t_ 5 = t 5 → Fr (fX7_forgetAll_63 N K th f t p0 p1 p2 k_33 l4 l5 th_ f_ t_) (fun (z : Int32 × Int32 × (Nat → Int32) × (Nat → Int32)) => z.2.2.2 5 = t 5) := by
  intro l4 l5 th_ f_ t_ ht
  unfold fX7_forgetAll_63
  exact (hk_33 _ _ _ _ _ ht)
set_option maxRecDepth 100000 in
theorem r_X7_forgetAll_33 {N K : Nat} {th : Int32} {f : Nat → Int32} {t : Nat → Int32} {p0 : Int32} {p1 : Int32} {p2 : Int32} : ∀ (fu : Nat) (l4 : Int32) (l5 : Int32) (th_ : Int32) (f_ : (Nat → Int32)) (t_ : (Nat → Int32)), t_ 5 = t 5 → Fr (fX7_forgetAll_33 N K th f t p0 p1 p2  fu l4 l5 th_ f_ t_) (fun (z : Int32 × Int32 × (Nat → Int32) × (Nat → Int32)) => z.2.2.2 5 = t 5) := by
  intro fu
  induction fu with
  | zero => intros; exact fN
  | succ fu ih =>
    intro l4 l5 th_ f_ t_ ht
    unfold fX7_forgetAll_33
    exact (fI (fB r_X7_done (fun x72 hx72 => (fR (hx72.trans ht)))) (fB' (fun x47 => (fI (r_X7_forgetAll_63 ih _ _ _ _ _ ht) (fI fN (fI fN (r_X7_forgetAll_63 ih _ _ _ _ _ ht)))))))
set_option maxRecDepth 100000 in
theorem r_X7_forgetAll {N K : Nat} {th : Int32} {f : Nat → Int32} {t : Nat → Int32} {p0 : Int32} {p1 : Int32} {p2 : Int32} : Fr (fX7_forgetAll N K th f t p0 p1 p2) (fun (z : Int32 × Int32 × (Nat → Int32) × (Nat → Int32)) => z.2.2.2 5 = t 5) := by
  unfold fX7_forgetAll
  exact (fB' (fun x4 => (fB' (fun x10 => (fB' (fun x13 => (fI (fB' (fun x25 => (r_X7_forgetAll_33 N _ _ _ _ _ rfl))) (fR rfl))))))))
set_option maxRecDepth 100000 in
theorem r_X7_clear_25 {N K : Nat} {th : Int32} {f : Nat → Int32} {t : Nat → Int32} {p0 : Int32} : ∀ (fu : Nat) (l2 : Int32) (l3 : Int32) (th_ : Int32) (f_ : (Nat → Int32)) (t_ : (Nat → Int32)), t_ 5 = t 5 → Fr (fX7_clear_25 N K th f t p0  fu l2 l3 th_ f_ t_) (fun (z : Int32 × Int32 × (Nat → Int32) × (Nat → Int32)) => z.2.2.2 5 = t 5) := by
  intro fu
  induction fu with
  | zero => intros; exact fN
  | succ fu ih =>
    intro l2 l3 th_ f_ t_ ht
    unfold fX7_clear_25
    exact (fI (fB r_X7_done (fun x49 hx49 => (fR (hx49.trans ht)))) (fI fN (fI fN (ih _ _ _ _ _ ht))))
set_option maxRecDepth 100000 in
theorem r_X7_clear {N K : Nat} {th : Int32} {f : Nat → Int32} {t : Nat → Int32} {p0 : Int32} : Fr (fX7_clear N K th f t p0) (fun (z : Int32 × Int32 × (Nat → Int32) × (Nat → Int32)) => z.2.2.2 5 = t 5) := by
  unfold fX7_clear
  exact (fB' (fun x4 => (fB' (fun x8 => (fI (fB' (fun x19 => (r_X7_clear_25 N _ _ _ _ _ rfl))) (fR rfl))))))
set_option maxRecDepth 100000 in
theorem r_X7_copy_35 {N K : Nat} {th : Int32} {f : Nat → Int32} {f2 : Nat → Int32} {t : Nat → Int32} {p0 : Int32} {p1 : Int32} : ∀ (fu : Nat) (l3 : Int32) (th_ : Int32) (f2_ : (Nat → Int32)) (t_ : (Nat → Int32)), t_ 5 = t 5 → Fr (fX7_copy_35 N K th f f2 t p0 p1  fu l3 th_ f2_ t_) (fun (z : Int32 × Int32 × (Nat → Int32) × (Nat → Int32)) => z.2.2.2 5 = t 5) := by
  intro fu
  induction fu with
  | zero => intros; exact fN
  | succ fu ih =>
    intro l3 th_ f2_ t_ ht
    unfold fX7_copy_35
    exact (fI (fB' (fun x68 => (fB r_X7_done (fun x71 hx71 => (fR (hx71.trans ht)))))) (fI fN (fI fN (fI fN (fI fN (ih _ _ _ _ ht))))))
set_option maxRecDepth 100000 in
theorem r_X7_copy_24 {N K : Nat} {th : Int32} {f : Nat → Int32} {f2 : Nat → Int32} {t : Nat → Int32} {p0 : Int32} {p1 : Int32} : ∀ (s0 : Int32) (th_ : Int32) (f2_ : Nat → Int32) (t_ : Nat → Int32), t_ 5 = t 5 → Fr (fX7_copy_24 N K th f f2 t p0 p1  s0 th_ f2_ t_) (fun (z : Int32 × Int32 × (Nat → Int32) × (Nat → Int32)) => z.2.2.2 5 = t 5) := by
  intro s0 th_ f2_ t_ ht
  unfold fX7_copy_24
  exact (fB' (fun x25 => (fI (r_X7_copy_35 N _ _ _ _ ht) (fR ht))))
set_option maxRecDepth 100000 in
theorem r_X7_copy_19 {N K : Nat} {th : Int32} {f : Nat → Int32} {f2 : Nat → Int32} {t : Nat → Int32} {p0 : Int32} {p1 : Int32} : ∀ (th_ : Int32) (f2_ : Nat → Int32) (t_ : Nat → Int32), t_ 5 = t 5 → Fr (fX7_copy_19 N K th f f2 t p0 p1  th_ f2_ t_) (fun (z : Int32 × Int32 × (Nat → Int32) × (Nat → Int32)) => z.2.2.2 5 = t 5) := by
  intro th_ f2_ t_ ht
  unfold fX7_copy_19
  exact (r_X7_copy_24 _ _ _ _ ht)
set_option maxRecDepth 100000 in
theorem r_X7_copy {N K : Nat} {th : Int32} {f : Nat → Int32} {f2 : Nat → Int32} {t : Nat → Int32} {p0 : Int32} {p1 : Int32} : Fr (fX7_copy N K th f f2 t p0 p1) (fun (z : Int32 × Int32 × (Nat → Int32) × (Nat → Int32)) => z.2.2.2 5 = t 5) := by
  unfold fX7_copy
  exact (fB' (fun x4 => (fI (fB' (fun x13 => (fI (r_X7_copy_24 _ _ _ _ rfl) (r_X7_copy_19 _ _ _ rfl)))) (r_X7_copy_19 _ _ _ rfl))))
set_option maxRecDepth 100000 in
theorem r_X7_copyOwn_35 {N K : Nat} {th : Int32} {f : Nat → Int32} {t : Nat → Int32} {p0 : Int32} : ∀ (fu : Nat) (l3 : Int32) (th_ : Int32) (f_ : (Nat → Int32)) (t_ : (Nat → Int32)), t_ 5 = t 5 → Fr (fX7_copyOwn_35 N K th f t p0  fu l3 th_ f_ t_) (fun (z : Int32 × Int32 × (Nat → Int32) × (Nat → Int32)) => z.2.2.2 5 = t 5) := by
  intro fu
  induction fu with
  | zero => intros; exact fN
  | succ fu ih =>
    intro l3 th_ f_ t_ ht
    unfold fX7_copyOwn_35
    exact (fI (fB' (fun x68 => (fB r_X7_done (fun x71 hx71 => (fR (hx71.trans ht)))))) (fI fN (fI fN (fI fN (fI fN (ih _ _ _ _ ht))))))
set_option maxRecDepth 100000 in
theorem r_X7_copyOwn_24 {N K : Nat} {th : Int32} {f : Nat → Int32} {t : Nat → Int32} {p0 : Int32} : ∀ (s0 : Int32) (th_ : Int32) (f_ : Nat → Int32) (t_ : Nat → Int32), t_ 5 = t 5 → Fr (fX7_copyOwn_24 N K th f t p0  s0 th_ f_ t_) (fun (z : Int32 × Int32 × (Nat → Int32) × (Nat → Int32)) => z.2.2.2 5 = t 5) := by
  intro s0 th_ f_ t_ ht
  unfold fX7_copyOwn_24
  exact (fB' (fun x25 => (fI (r_X7_copyOwn_35 N _ _ _ _ ht) (fR ht))))
set_option maxRecDepth 100000 in
theorem r_X7_copyOwn_19 {N K : Nat} {th : Int32} {f : Nat → Int32} {t : Nat → Int32} {p0 : Int32} : ∀ (th_ : Int32) (f_ : Nat → Int32) (t_ : Nat → Int32), t_ 5 = t 5 → Fr (fX7_copyOwn_19 N K th f t p0  th_ f_ t_) (fun (z : Int32 × Int32 × (Nat → Int32) × (Nat → Int32)) => z.2.2.2 5 = t 5) := by
  intro th_ f_ t_ ht
  unfold fX7_copyOwn_19
  exact (r_X7_copyOwn_24 _ _ _ _ ht)
set_option maxRecDepth 100000 in
theorem r_X7_copyOwn {N K : Nat} {th : Int32} {f : Nat → Int32} {t : Nat → Int32} {p0 : Int32} : Fr (fX7_copyOwn N K th f t p0) (fun (z : Int32 × Int32 × (Nat → Int32) × (Nat → Int32)) => z.2.2.2 5 = t 5) := by
  unfold fX7_copyOwn
  exact (fB' (fun x4 => (fI (fB' (fun x13 => (fI (r_X7_copyOwn_24 _ _ _ _ rfl) (r_X7_copyOwn_19 _ _ _ rfl)))) (r_X7_copyOwn_19 _ _ _ rfl))))
set_option maxRecDepth 100000 in
theorem r_X7_pour_91 {N K : Nat} {th : Int32} {f : Nat → Int32} {f2 : Nat → Int32} {t : Nat → Int32} {p0 : Int32} {p1 : Int32} {k_53 : Int32 → Int32 → Int32 → (Nat → Int32) → (Nat → Int32) → Option (Int32 × Int32 × (Nat → Int32) × (Nat → Int32))} (hk_53 : ∀ (l3 : Int32) (l4 : Int32) (th_ : Int32) (f2_ : (Nat → Int32)) (t_ : (Nat → Int32)), t_ 5 = t 5 → Fr (k_53 l3 l4 th_ f2_ t_) (fun (z : Int32 × Int32 × (Nat → Int32) × (Nat → Int32)) => z.2.2.2 5 = t 5)) : ∀ (l3 : Int32) (l4 : Int32) (th_ : Int32) (f2_ : Nat → Int32) (t_ : Nat → Int32), t_ 5 = t 5 → Fr (fX7_pour_91 N K th f f2 t p0 p1 k_53 l3 l4 th_ f2_ t_) (fun (z : Int32 × Int32 × (Nat → Int32) × (Nat → Int32)) => z.2.2.2 5 = t 5) := by
  intro l3 l4 th_ f2_ t_ ht
  unfold fX7_pour_91
  exact (hk_53 _ _ _ _ _ ht)
set_option maxRecDepth 100000 in
theorem r_X7_pour_53 {N K : Nat} {th : Int32} {f : Nat → Int32} {f2 : Nat → Int32} {t : Nat → Int32} {p0 : Int32} {p1 : Int32} : ∀ (fu : Nat) (l3 : Int32) (l4 : Int32) (th_ : Int32) (f2_ : (Nat → Int32)) (t_ : (Nat → Int32)), t_ 5 = t 5 → Fr (fX7_pour_53 N K th f f2 t p0 p1  fu l3 l4 th_ f2_ t_) (fun (z : Int32 × Int32 × (Nat → Int32) × (Nat → Int32)) => z.2.2.2 5 = t 5) := by
  intro fu
  induction fu with
  | zero => intros; exact fN
  | succ fu ih =>
    intro l3 l4 th_ f2_ t_ ht
    unfold fX7_pour_53
    exact (fI (fB' (fun x101 => (fB r_X7_done (fun x106 hx106 => (fR (hx106.trans ht)))))) (fI fN (fI fN (fI (r_X7_pour_91 ih _ _ _ _ _ ht) (fI fN (fI fN (fI fN (fI fN (r_X7_pour_91 ih _ _ _ _ _ ht)))))))))
set_option maxRecDepth 100000 in
theorem r_X7_pour_24 {N K : Nat} {th : Int32} {f : Nat → Int32} {f2 : Nat → Int32} {t : Nat → Int32} {p0 : Int32} {p1 : Int32} : ∀ (s0 : Int32) (th_ : Int32) (f2_ : Nat → Int32) (t_ : Nat → Int32), t_ 5 = t 5 → Fr (fX7_pour_24 N K th f f2 t p0 p1  s0 th_ f2_ t_) (fun (z : Int32 × Int32 × (Nat → Int32) × (Nat → Int32)) => z.2.2.2 5 = t 5) := by
  intro s0 th_ f2_ t_ ht
  unfold fX7_pour_24
  exact (fB' (fun x25 => (fI (fI (fB r_X7_refused (fun x39 hx39 => (fR (hx39.trans ht)))) (fB' (fun x46 => (r_X7_pour_53 N _ _ _ _ _ ht)))) (fR ht))))
set_option maxRecDepth 100000 in
theorem r_X7_pour_19 {N K : Nat} {th : Int32} {f : Nat → Int32} {f2 : Nat → Int32} {t : Nat → Int32} {p0 : Int32} {p1 : Int32} : ∀ (th_ : Int32) (f2_ : Nat → Int32) (t_ : Nat → Int32), t_ 5 = t 5 → Fr (fX7_pour_19 N K th f f2 t p0 p1  th_ f2_ t_) (fun (z : Int32 × Int32 × (Nat → Int32) × (Nat → Int32)) => z.2.2.2 5 = t 5) := by
  intro th_ f2_ t_ ht
  unfold fX7_pour_19
  exact (r_X7_pour_24 _ _ _ _ ht)
set_option maxRecDepth 100000 in
theorem r_X7_pour {N K : Nat} {th : Int32} {f : Nat → Int32} {f2 : Nat → Int32} {t : Nat → Int32} {p0 : Int32} {p1 : Int32} : Fr (fX7_pour N K th f f2 t p0 p1) (fun (z : Int32 × Int32 × (Nat → Int32) × (Nat → Int32)) => z.2.2.2 5 = t 5) := by
  unfold fX7_pour
  exact (fB' (fun x4 => (fI (fB' (fun x13 => (fI (r_X7_pour_24 _ _ _ _ rfl) (r_X7_pour_19 _ _ _ rfl)))) (r_X7_pour_19 _ _ _ rfl))))
set_option maxRecDepth 100000 in
theorem r_X7_pourOwn_24 {N K : Nat} {th : Int32} {f : Nat → Int32} {t : Nat → Int32} {p0 : Int32} : ∀ (s0 : Int32) (th_ : Int32) (t_ : Nat → Int32), t_ 5 = t 5 → Fr (fX7_pourOwn_24 N K th f t p0  s0 th_ t_) (fun (z : Int32 × Int32 × (Nat → Int32)) => z.2.2 5 = t 5) := by
  intro s0 th_ t_ ht
  unfold fX7_pourOwn_24
  exact (fB' (fun x25 => (fI (fB r_X7_refused (fun x39 hx39 => (fR (hx39.trans ht)))) (fR ht))))
set_option maxRecDepth 100000 in
theorem r_X7_pourOwn_19 {N K : Nat} {th : Int32} {f : Nat → Int32} {t : Nat → Int32} {p0 : Int32} : ∀ (th_ : Int32) (t_ : Nat → Int32), t_ 5 = t 5 → Fr (fX7_pourOwn_19 N K th f t p0  th_ t_) (fun (z : Int32 × Int32 × (Nat → Int32)) => z.2.2 5 = t 5) := by
  intro th_ t_ ht
  unfold fX7_pourOwn_19
  exact (r_X7_pourOwn_24 _ _ _ ht)
set_option maxRecDepth 100000 in
theorem r_X7_pourOwn {N K : Nat} {th : Int32} {f : Nat → Int32} {t : Nat → Int32} {p0 : Int32} : Fr (fX7_pourOwn N K th f t p0) (fun (z : Int32 × Int32 × (Nat → Int32)) => z.2.2 5 = t 5) := by
  unfold fX7_pourOwn
  exact (fB' (fun x4 => (fI (fB' (fun x13 => (fI (r_X7_pourOwn_24 _ _ _ rfl) (r_X7_pourOwn_19 _ _ rfl)))) (r_X7_pourOwn_19 _ _ rfl))))
set_option maxRecDepth 100000 in
theorem r_X7_rule_282 {N K : Nat} {th : Int32} {f : Nat → Int32} {t : Nat → Int32} {u : Nat → Int32} {p0 : Int32} {p1 : Int32} {k_185 : Int32 → Int32 → (Nat → Int32) → (Nat → Int32) → (Nat → Int32) → Option (Int32 × Int32 × (Nat → Int32) × (Nat → Int32) × (Nat → Int32))} (hk_185 : ∀ (l3 : Int32) (th_ : Int32) (f_ : (Nat → Int32)) (t_ : (Nat → Int32)) (u_ : (Nat → Int32)), t_ 5 = t 5 → Fr (k_185 l3 th_ f_ t_ u_) (fun (z : Int32 × Int32 × (Nat → Int32) × (Nat → Int32) × (Nat → Int32)) => z.2.2.2.1 5 = t 5)) : ∀ (l3 : Int32) (th_ : Int32) (f_ : Nat → Int32) (t_ : Nat → Int32) (u_ : Nat → Int32), t_ 5 = t 5 → Fr (fX7_rule_282 N K th f t u p0 p1 k_185 l3 th_ f_ t_ u_) (fun (z : Int32 × Int32 × (Nat → Int32) × (Nat → Int32) × (Nat → Int32)) => z.2.2.2.1 5 = t 5) := by
  intro l3 th_ f_ t_ u_ ht
  unfold fX7_rule_282
  exact (hk_185 _ _ _ _ _ ht)
set_option maxRecDepth 100000 in
theorem r_X7_rule_281 {N K : Nat} {th : Int32} {f : Nat → Int32} {t : Nat → Int32} {u : Nat → Int32} {p0 : Int32} {p1 : Int32} {k_185 : Int32 → Int32 → (Nat → Int32) → (Nat → Int32) → (Nat → Int32) → Option (Int32 × Int32 × (Nat → Int32) × (Nat → Int32) × (Nat → Int32))} (hk_185 : ∀ (l3 : Int32) (th_ : Int32) (f_ : (Nat → Int32)) (t_ : (Nat → Int32)) (u_ : (Nat → Int32)), t_ 5 = t 5 → Fr (k_185 l3 th_ f_ t_ u_) (fun (z : Int32 × Int32 × (Nat → Int32) × (Nat → Int32) × (Nat → Int32)) => z.2.2.2.1 5 = t 5)) : ∀ (l3 : Int32) (s0 : Int32) (s1 : Int32) (th_ : Int32) (f_ : Nat → Int32) (t_ : Nat → Int32) (u_ : Nat → Int32), t_ 5 = t 5 → Fr (fX7_rule_281 N K th f t u p0 p1 k_185 l3 s0 s1 th_ f_ t_ u_) (fun (z : Int32 × Int32 × (Nat → Int32) × (Nat → Int32) × (Nat → Int32)) => z.2.2.2.1 5 = t 5) := by
  intro l3 s0 s1 th_ f_ t_ u_ ht
  unfold fX7_rule_281
  exact (fI fN (r_X7_rule_282 hk_185 _ _ _ _ _ ht))
set_option maxRecDepth 100000 in
theorem r_X7_rule_255 {N K : Nat} {th : Int32} {f : Nat → Int32} {t : Nat → Int32} {u : Nat → Int32} {p0 : Int32} {p1 : Int32} {k_185 : Int32 → Int32 → (Nat → Int32) → (Nat → Int32) → (Nat → Int32) → Option (Int32 × Int32 × (Nat → Int32) × (Nat → Int32) × (Nat → Int32))} (hk_185 : ∀ (l3 : Int32) (th_ : Int32) (f_ : (Nat → Int32)) (t_ : (Nat → Int32)) (u_ : (Nat → Int32)), t_ 5 = t 5 → Fr (k_185 l3 th_ f_ t_ u_) (fun (z : Int32 × Int32 × (Nat → Int32) × (Nat → Int32) × (Nat → Int32)) => z.2.2.2.1 5 = t 5)) {k_219 : Int32 → Int32 → Int32 → Int32 → (Nat → Int32) → (Nat → Int32) → (Nat → Int32) → Option (Int32 × Int32 × (Nat → Int32) × (Nat → Int32) × (Nat → Int32))} (hk_219 : ∀ (l3 : Int32) (l4 : Int32) (l5 : Int32) (th_ : Int32) (f_ : (Nat → Int32)) (t_ : (Nat → Int32)) (u_ : (Nat → Int32)), t_ 5 = t 5 → Fr (k_219 l3 l4 l5 th_ f_ t_ u_) (fun (z : Int32 × Int32 × (Nat → Int32) × (Nat → Int32) × (Nat → Int32)) => z.2.2.2.1 5 = t 5)) : ∀ (l3 : Int32) (l4 : Int32) (l5 : Int32) (th_ : Int32) (f_ : Nat → Int32) (t_ : Nat → Int32) (u_ : Nat → Int32), t_ 5 = t 5 → Fr (fX7_rule_255 N K th f t u p0 p1 k_185 k_219 l3 l4 l5 th_ f_ t_ u_) (fun (z : Int32 × Int32 × (Nat → Int32) × (Nat → Int32) × (Nat → Int32)) => z.2.2.2.1 5 = t 5) := by
  intro l3 l4 l5 th_ f_ t_ u_ ht
  unfold fX7_rule_255
  exact (hk_219 _ _ _ _ _ _ _ ht)
set_option maxRecDepth 100000 in
theorem r_X7_rule_219 {N K : Nat} {th : Int32} {f : Nat → Int32} {t : Nat → Int32} {u : Nat → Int32} {p0 : Int32} {p1 : Int32} {k_185 : Int32 → Int32 → (Nat → Int32) → (Nat → Int32) → (Nat → Int32) → Option (Int32 × Int32 × (Nat → Int32) × (Nat → Int32) × (Nat → Int32))} (hk_185 : ∀ (l3 : Int32) (th_ : Int32) (f_ : (Nat → Int32)) (t_ : (Nat → Int32)) (u_ : (Nat → Int32)), t_ 5 = t 5 → Fr (k_185 l3 th_ f_ t_ u_) (fun (z : Int32 × Int32 × (Nat → Int32) × (Nat → Int32) × (Nat → Int32)) => z.2.2.2.1 5 = t 5)) : ∀ (fu : Nat) (l3 : Int32) (l4 : Int32) (l5 : Int32) (th_ : Int32) (f_ : (Nat → Int32)) (t_ : (Nat → Int32)) (u_ : (Nat → Int32)), t_ 5 = t 5 → Fr (fX7_rule_219 N K th f t u p0 p1 k_185 fu l3 l4 l5 th_ f_ t_ u_) (fun (z : Int32 × Int32 × (Nat → Int32) × (Nat → Int32) × (Nat → Int32)) => z.2.2.2.1 5 = t 5) := by
  intro fu
  induction fu with
  | zero => intros; exact fN
  | succ fu ih =>
    intro l3 l4 l5 th_ f_ t_ u_ ht
    unfold fX7_rule_219
    exact (fI (fI fN (fI (r_X7_rule_281 hk_185 _ _ _ _ _ _ _ ht) (fI fN (r_X7_rule_281 hk_185 _ _ _ _ _ _ _ ht)))) (fB' (fun x228 => (fI (r_X7_rule_255 hk_185 ih _ _ _ _ _ _ _ ht) (fB' (fun x239 => (fB' (fun x248 => (r_X7_rule_255 hk_185 ih _ _ _ _ _ _ _ ht)))))))))
set_option maxRecDepth 100000 in
theorem r_X7_rule_185 {N K : Nat} {th : Int32} {f : Nat → Int32} {t : Nat → Int32} {u : Nat → Int32} {p0 : Int32} {p1 : Int32} : ∀ (fu : Nat) (l3 : Int32) (th_ : Int32) (f_ : (Nat → Int32)) (t_ : (Nat → Int32)) (u_ : (Nat → Int32)), t_ 5 = t 5 → Fr (fX7_rule_185 N K th f t u p0 p1  fu l3 th_ f_ t_ u_) (fun (z : Int32 × Int32 × (Nat → Int32) × (Nat → Int32) × (Nat → Int32)) => z.2.2.2.1 5 = t 5) := by
  intro fu
  induction fu with
  | zero => intros; exact fN
  | succ fu ih =>
    intro l3 th_ f_ t_ u_ ht
    unfold fX7_rule_185
    exact (fI (fB' (fun x292 => (fB r_X7_done (fun x295 hx295 => (fR (hx295.trans ht)))))) (fI fN (fI (r_X7_rule_282 ih _ _ _ _ _ ht) (fI fN (fI fN (fI (r_X7_rule_219 ih N _ _ _ _ _ _ _ ht) (r_X7_rule_282 ih _ _ _ _ _ ht)))))))
set_option maxRecDepth 100000 in
theorem r_X7_rule_177 {N K : Nat} {th : Int32} {f : Nat → Int32} {t : Nat → Int32} {u : Nat → Int32} {p0 : Int32} {p1 : Int32} {k_51 : Int32 → Int32 → (Nat → Int32) → (Nat → Int32) → (Nat → Int32) → Option (Int32 × Int32 × (Nat → Int32) × (Nat → Int32) × (Nat → Int32))} (hk_51 : ∀ (l3 : Int32) (th_ : Int32) (f_ : (Nat → Int32)) (t_ : (Nat → Int32)) (u_ : (Nat → Int32)), t_ 5 = t 5 → Fr (k_51 l3 th_ f_ t_ u_) (fun (z : Int32 × Int32 × (Nat → Int32) × (Nat → Int32) × (Nat → Int32)) => z.2.2.2.1 5 = t 5)) : ∀ (l3 : Int32) (th_ : Int32) (f_ : Nat → Int32) (t_ : Nat → Int32) (u_ : Nat → Int32), t_ 5 = t 5 → Fr (fX7_rule_177 N K th f t u p0 p1 k_51 l3 th_ f_ t_ u_) (fun (z : Int32 × Int32 × (Nat → Int32) × (Nat → Int32) × (Nat → Int32)) => z.2.2.2.1 5 = t 5) := by
  intro l3 th_ f_ t_ u_ ht
  unfold fX7_rule_177
  exact (hk_51 _ _ _ _ _ ht)
set_option maxRecDepth 100000 in
theorem r_X7_rule_171 {N K : Nat} {th : Int32} {f : Nat → Int32} {t : Nat → Int32} {u : Nat → Int32} {p0 : Int32} {p1 : Int32} {k_51 : Int32 → Int32 → (Nat → Int32) → (Nat → Int32) → (Nat → Int32) → Option (Int32 × Int32 × (Nat → Int32) × (Nat → Int32) × (Nat → Int32))} (hk_51 : ∀ (l3 : Int32) (th_ : Int32) (f_ : (Nat → Int32)) (t_ : (Nat → Int32)) (u_ : (Nat → Int32)), t_ 5 = t 5 → Fr (k_51 l3 th_ f_ t_ u_) (fun (z : Int32 × Int32 × (Nat → Int32) × (Nat → Int32) × (Nat → Int32)) => z.2.2.2.1 5 = t 5)) {k_138 : Int32 → Int32 → Int32 → Int32 → (Nat → Int32) → (Nat → Int32) → (Nat → Int32) → Option (Int32 × Int32 × (Nat → Int32) × (Nat → Int32) × (Nat → Int32))} (hk_138 : ∀ (l3 : Int32) (l4 : Int32) (l5 : Int32) (th_ : Int32) (f_ : (Nat → Int32)) (t_ : (Nat → Int32)) (u_ : (Nat → Int32)), t_ 5 = t 5 → Fr (k_138 l3 l4 l5 th_ f_ t_ u_) (fun (z : Int32 × Int32 × (Nat → Int32) × (Nat → Int32) × (Nat → Int32)) => z.2.2.2.1 5 = t 5)) : ∀ (l3 : Int32) (l4 : Int32) (l5 : Int32) (th_ : Int32) (f_ : Nat → Int32) (t_ : Nat → Int32) (u_ : Nat → Int32), t_ 5 = t 5 → Fr (fX7_rule_171 N K th f t u p0 p1 k_51 k_138 l3 l4 l5 th_ f_ t_ u_) (fun (z : Int32 × Int32 × (Nat → Int32) × (Nat → Int32) × (Nat → Int32)) => z.2.2.2.1 5 = t 5) := by
  intro l3 l4 l5 th_ f_ t_ u_ ht
  unfold fX7_rule_171
  exact (hk_138 _ _ _ _ _ _ _ ht)
set_option maxRecDepth 100000 in
theorem r_X7_rule_138 {N K : Nat} {th : Int32} {f : Nat → Int32} {t : Nat → Int32} {u : Nat → Int32} {p0 : Int32} {p1 : Int32} {k_51 : Int32 → Int32 → (Nat → Int32) → (Nat → Int32) → (Nat → Int32) → Option (Int32 × Int32 × (Nat → Int32) × (Nat → Int32) × (Nat → Int32))} (hk_51 : ∀ (l3 : Int32) (th_ : Int32) (f_ : (Nat → Int32)) (t_ : (Nat → Int32)) (u_ : (Nat → Int32)), t_ 5 = t 5 → Fr (k_51 l3 th_ f_ t_ u_) (fun (z : Int32 × Int32 × (Nat → Int32) × (Nat → Int32) × (Nat → Int32)) => z.2.2.2.1 5 = t 5)) : ∀ (fu : Nat) (l3 : Int32) (l4 : Int32) (l5 : Int32) (th_ : Int32) (f_ : (Nat → Int32)) (t_ : (Nat → Int32)) (u_ : (Nat → Int32)), t_ 5 = t 5 → Fr (fX7_rule_138 N K th f t u p0 p1 k_51 fu l3 l4 l5 th_ f_ t_ u_) (fun (z : Int32 × Int32 × (Nat → Int32) × (Nat → Int32) × (Nat → Int32)) => z.2.2.2.1 5 = t 5) := by
  intro fu
  induction fu with
  | zero => intros; exact fN
  | succ fu ih =>
    intro l3 l4 l5 th_ f_ t_ u_ ht
    unfold fX7_rule_138
    exact (fI (r_X7_rule_177 hk_51 _ _ _ _ _ ht) (fI (r_X7_rule_177 hk_51 _ _ _ _ _ ht) (fB' (fun x152 => (fI (r_X7_rule_171 hk_51 ih _ _ _ _ _ _ _ ht) (fI fN (fI fN (r_X7_rule_171 hk_51 ih _ _ _ _ _ _ _ ht))))))))
set_option maxRecDepth 100000 in
theorem r_X7_rule_83 {N K : Nat} {th : Int32} {f : Nat → Int32} {t : Nat → Int32} {u : Nat → Int32} {p0 : Int32} {p1 : Int32} {k_51 : Int32 → Int32 → (Nat → Int32) → (Nat → Int32) → (Nat → Int32) → Option (Int32 × Int32 × (Nat → Int32) × (Nat → Int32) × (Nat → Int32))} (hk_51 : ∀ (l3 : Int32) (th_ : Int32) (f_ : (Nat → Int32)) (t_ : (Nat → Int32)) (u_ : (Nat → Int32)), t_ 5 = t 5 → Fr (k_51 l3 th_ f_ t_ u_) (fun (z : Int32 × Int32 × (Nat → Int32) × (Nat → Int32) × (Nat → Int32)) => z.2.2.2.1 5 = t 5)) : ∀ (l3 : Int32) (s0 : Int32) (th_ : Int32) (f_ : Nat → Int32) (t_ : Nat → Int32) (u_ : Nat → Int32), t_ 5 = t 5 → Fr (fX7_rule_83 N K th f t u p0 p1 k_51 l3 s0 th_ f_ t_ u_) (fun (z : Int32 × Int32 × (Nat → Int32) × (Nat → Int32) × (Nat → Int32)) => z.2.2.2.1 5 = t 5) := by
  intro l3 s0 th_ f_ t_ u_ ht
  unfold fX7_rule_83
  exact (fI fN (fB' (fun x109 => (fI fN (fB' (fun x129 => (r_X7_rule_138 hk_51 N _ _ _ _ _ _ _ (upd5 (f := (upd (upd t_ (1 : Int32).toNatClampNeg ((t_ (1 : Int32).toNatClampNeg) + (u_ l3.toNatClampNeg))) (2 : Int32).toNatClampNeg (((upd t_ (1 : Int32).toNatClampNeg ((t_ (1 : Int32).toNatClampNeg) + (u_ l3.toNatClampNeg))) (2 : Int32).toNatClampNeg) + x109))) (k := (3 : Int32).toNatClampNeg) (v := (((upd (upd t_ (1 : Int32).toNatClampNeg ((t_ (1 : Int32).toNatClampNeg) + (u_ l3.toNatClampNeg))) (2 : Int32).toNatClampNeg (((upd t_ (1 : Int32).toNatClampNeg ((t_ (1 : Int32).toNatClampNeg) + (u_ l3.toNatClampNeg))) (2 : Int32).toNatClampNeg) + x109)) (3 : Int32).toNatClampNeg) + ((u_ l3.toNatClampNeg) - x129))) (by decide) (upd5 (f := (upd t_ (1 : Int32).toNatClampNeg ((t_ (1 : Int32).toNatClampNeg) + (u_ l3.toNatClampNeg)))) (k := (2 : Int32).toNatClampNeg) (v := (((upd t_ (1 : Int32).toNatClampNeg ((t_ (1 : Int32).toNatClampNeg) + (u_ l3.toNatClampNeg))) (2 : Int32).toNatClampNeg) + x109)) (by decide) (upd5 (f := t_) (k := (1 : Int32).toNatClampNeg) (v := ((t_ (1 : Int32).toNatClampNeg) + (u_ l3.toNatClampNeg))) (by decide) ht))))))))))
set_option maxRecDepth 100000 in
theorem r_X7_rule_51 {N K : Nat} {th : Int32} {f : Nat → Int32} {t : Nat → Int32} {u : Nat → Int32} {p0 : Int32} {p1 : Int32} : ∀ (fu : Nat) (l3 : Int32) (th_ : Int32) (f_ : (Nat → Int32)) (t_ : (Nat → Int32)) (u_ : (Nat → Int32)), t_ 5 = t 5 → Fr (fX7_rule_51 N K th f t u p0 p1  fu l3 th_ f_ t_ u_) (fun (z : Int32 × Int32 × (Nat → Int32) × (Nat → Int32) × (Nat → Int32)) => z.2.2.2.1 5 = t 5) := by
  intro fu
  induction fu with
  | zero => intros; exact fN
  | succ fu ih =>
    intro l3 th_ f_ t_ u_ ht
    unfold fX7_rule_51
    exact (fI (r_X7_rule_185 N _ _ _ _ _ ht) (fI fN (fI (r_X7_rule_177 ih _ _ _ _ _ ht) (fI fN (fI fN (fI (r_X7_rule_83 ih _ _ _ _ _ _ ht) (r_X7_rule_83 ih _ _ _ _ _ _ ht)))))))
set_option maxRecDepth 100000 in
theorem r_X7_rule_24 {N K : Nat} {th : Int32} {f : Nat → Int32} {t : Nat → Int32} {u : Nat → Int32} {p0 : Int32} {p1 : Int32} : ∀ (fu : Nat) (l3 : Int32) (th_ : Int32) (f_ : (Nat → Int32)) (t_ : (Nat → Int32)) (u_ : (Nat → Int32)), t_ 5 = t 5 → Fr (fX7_rule_24 N K th f t u p0 p1  fu l3 th_ f_ t_ u_) (fun (z : Int32 × Int32 × (Nat → Int32) × (Nat → Int32) × (Nat → Int32)) => z.2.2.2.1 5 = t 5) := by
  intro fu
  induction fu with
  | zero => intros; exact fN
  | succ fu ih =>
    intro l3 th_ f_ t_ u_ ht
    unfold fX7_rule_24
    exact (fI (fI fN (r_X7_rule_51 N _ _ _ _ _ ht)) (fI fN (ih _ _ _ _ _ ht)))
set_option maxRecDepth 100000 in
theorem r_X7_rule {N K : Nat} {th : Int32} {f : Nat → Int32} {t : Nat → Int32} {u : Nat → Int32} {p0 : Int32} {p1 : Int32} : Fr (fX7_rule N K th f t u p0 p1) (fun (z : Int32 × Int32 × (Nat → Int32) × (Nat → Int32) × (Nat → Int32)) => z.2.2.2.1 5 = t 5) := by
  unfold fX7_rule
  exact (fB' (fun x4 => (fB' (fun x11 => (fB' (fun x14 => (fI (r_X7_rule_24 N _ _ _ _ _ rfl) (fR rfl))))))))
set_option maxRecDepth 100000 in
theorem r_X7_forgetRule_87 {N K : Nat} {th : Int32} {f : Nat → Int32} {t : Nat → Int32} {p0 : Int32} {p1 : Int32} {k_60 : Int32 → Int32 → Int32 → (Nat → Int32) → (Nat → Int32) → Option (Int32 × Int32 × (Nat → Int32) × (Nat → Int32))} (hk_60 : ∀ (l3 : Int32) (l4 : Int32) (th_ : Int32) (f_ : (Nat → Int32)) (t_ : (Nat → Int32)), t_ 5 = t 5 → Fr (k_60 l3 l4 th_ f_ t_) (fun (z : Int32 × Int32 × (Nat → Int32) × (Nat → Int32)) => z.2.2.2 5 = t 5)) : ∀ (l3 : Int32) (l4 : Int32) (th_ : Int32) (f_ : Nat → Int32) (t_ : Nat → Int32), t_ 5 = t 5 → Fr (fX7_forgetRule_87 N K th f t p0 p1 k_60 l3 l4 th_ f_ t_) (fun (z : Int32 × Int32 × (Nat → Int32) × (Nat → Int32)) => z.2.2.2 5 = t 5) := by
  intro l3 l4 th_ f_ t_ ht
  unfold fX7_forgetRule_87
  exact (hk_60 _ _ _ _ _ ht)
set_option maxRecDepth 100000 in
theorem r_X7_forgetRule_77 {N K : Nat} {th : Int32} {f : Nat → Int32} {t : Nat → Int32} {p0 : Int32} {p1 : Int32} {k_60 : Int32 → Int32 → Int32 → (Nat → Int32) → (Nat → Int32) → Option (Int32 × Int32 × (Nat → Int32) × (Nat → Int32))} (hk_60 : ∀ (l3 : Int32) (l4 : Int32) (th_ : Int32) (f_ : (Nat → Int32)) (t_ : (Nat → Int32)), t_ 5 = t 5 → Fr (k_60 l3 l4 th_ f_ t_) (fun (z : Int32 × Int32 × (Nat → Int32) × (Nat → Int32)) => z.2.2.2 5 = t 5)) : ∀ (l3 : Int32) (l4 : Int32) (th_ : Int32) (f_ : Nat → Int32) (t_ : Nat → Int32), t_ 5 = t 5 → Fr (fX7_forgetRule_77 N K th f t p0 p1 k_60 l3 l4 th_ f_ t_) (fun (z : Int32 × Int32 × (Nat → Int32) × (Nat → Int32)) => z.2.2.2 5 = t 5) := by
  intro l3 l4 th_ f_ t_ ht
  unfold fX7_forgetRule_77
  exact (fI fN (fI fN (r_X7_forgetRule_87 hk_60 _ _ _ _ _ ht)))
set_option maxRecDepth 100000 in
theorem r_X7_forgetRule_60 {N K : Nat} {th : Int32} {f : Nat → Int32} {t : Nat → Int32} {p0 : Int32} {p1 : Int32} : ∀ (fu : Nat) (l3 : Int32) (l4 : Int32) (th_ : Int32) (f_ : (Nat → Int32)) (t_ : (Nat → Int32)), t_ 5 = t 5 → Fr (fX7_forgetRule_60 N K th f t p0 p1  fu l3 l4 th_ f_ t_) (fun (z : Int32 × Int32 × (Nat → Int32) × (Nat → Int32)) => z.2.2.2 5 = t 5) := by
  intro fu
  induction fu with
  | zero => intros; exact fN
  | succ fu ih =>
    intro l3 l4 th_ f_ t_ ht
    unfold fX7_forgetRule_60
    exact (fI (fB r_X7_done (fun x95 hx95 => (fR (hx95.trans ht)))) (fI (r_X7_forgetRule_77 ih _ _ _ _ _ ht) (fI (r_X7_forgetRule_77 ih _ _ _ _ _ ht) (r_X7_forgetRule_87 ih _ _ _ _ _ ht))))
set_option maxRecDepth 100000 in
theorem r_X7_forgetRule_57 {N K : Nat} {th : Int32} {f : Nat → Int32} {t : Nat → Int32} {p0 : Int32} {p1 : Int32} : ∀ (l3 : Int32) (th_ : Int32) (f_ : Nat → Int32) (t_ : Nat → Int32), t_ 5 = t 5 → Fr (fX7_forgetRule_57 N K th f t p0 p1  l3 th_ f_ t_) (fun (z : Int32 × Int32 × (Nat → Int32) × (Nat → Int32)) => z.2.2.2 5 = t 5) := by
  intro l3 th_ f_ t_ ht
  unfold fX7_forgetRule_57
  exact (r_X7_forgetRule_60 N _ _ _ _ _ ht)
set_option maxRecDepth 100000 in
theorem r_X7_forgetRule_43 {N K : Nat} {th : Int32} {f : Nat → Int32} {t : Nat → Int32} {p0 : Int32} {p1 : Int32} : ∀ (s0 : Int32) (th_ : Int32) (f_ : Nat → Int32) (t_ : Nat → Int32), t_ 5 = t 5 → Fr (fX7_forgetRule_43 N K th f t p0 p1  s0 th_ f_ t_) (fun (z : Int32 × Int32 × (Nat → Int32) × (Nat → Int32)) => z.2.2.2 5 = t 5) := by
  intro s0 th_ f_ t_ ht
  unfold fX7_forgetRule_43
  exact (fI (r_X7_forgetRule_57 _ _ _ _ ht) (fI (fB r_X7_refused (fun x53 hx53 => (fR (hx53.trans ht)))) (r_X7_forgetRule_57 _ _ _ _ ht)))
set_option maxRecDepth 100000 in
theorem r_X7_forgetRule {N K : Nat} {th : Int32} {f : Nat → Int32} {t : Nat → Int32} {p0 : Int32} {p1 : Int32} : Fr (fX7_forgetRule N K th f t p0 p1) (fun (z : Int32 × Int32 × (Nat → Int32) × (Nat → Int32)) => z.2.2.2 5 = t 5) := by
  unfold fX7_forgetRule
  exact (fB' (fun x4 => (fB' (fun x11 => (fB' (fun x14 => (fI (fI (fB' (fun x29 => (r_X7_forgetRule_43 _ _ _ _ rfl))) (fI fN (fI fN (r_X7_forgetRule_43 _ _ _ _ rfl)))) (fR rfl))))))))
set_option maxRecDepth 100000 in
theorem r_X7_addPart_32 {N K : Nat} {th : Int32} {f : Nat → Int32} {t : Nat → Int32} {p0 : Int32} {p1 : Int32} {p2 : Int32} : ∀ (s0 : Int32) (s1 : Int32) (th_ : Int32) (f_ : Nat → Int32) (t_ : Nat → Int32), t_ 5 = t 5 → Fr (fX7_addPart_32 N K th f t p0 p1 p2  s0 s1 th_ f_ t_) (fun (z : Int32 × Int32 × (Nat → Int32) × (Nat → Int32)) => z.2.2.2 5 = t 5) := by
  intro s0 s1 th_ f_ t_ ht
  unfold fX7_addPart_32
  exact (fB' (fun x32 => (fI (fI fN (fB' (fun x46 => (fI (fI fN (fI fN (fI fN (fI fN (fI fN (fB r_X7_done (fun x84 hx84 => (fR (hx84.trans ht))))))))) (fB r_X7_refused (fun x59 hx59 => (fR (hx59.trans ht)))))))) (fR ht))))
set_option maxRecDepth 100000 in
theorem r_X7_addPart_27 {N K : Nat} {th : Int32} {f : Nat → Int32} {t : Nat → Int32} {p0 : Int32} {p1 : Int32} {p2 : Int32} : ∀ (s0 : Int32) (th_ : Int32) (f_ : Nat → Int32) (t_ : Nat → Int32), t_ 5 = t 5 → Fr (fX7_addPart_27 N K th f t p0 p1 p2  s0 th_ f_ t_) (fun (z : Int32 × Int32 × (Nat → Int32) × (Nat → Int32)) => z.2.2.2 5 = t 5) := by
  intro s0 th_ f_ t_ ht
  unfold fX7_addPart_27
  exact (r_X7_addPart_32 _ _ _ _ _ ht)
set_option maxRecDepth 100000 in
theorem r_X7_addPart {N K : Nat} {th : Int32} {f : Nat → Int32} {t : Nat → Int32} {p0 : Int32} {p1 : Int32} {p2 : Int32} : Fr (fX7_addPart N K th f t p0 p1 p2) (fun (z : Int32 × Int32 × (Nat → Int32) × (Nat → Int32)) => z.2.2.2 5 = t 5) := by
  unfold fX7_addPart
  exact (fB' (fun x4 => (fB' (fun x11 => (fI (fB' (fun x21 => (fI (r_X7_addPart_32 _ _ _ _ _ rfl) (r_X7_addPart_27 _ _ _ _ rfl)))) (r_X7_addPart_27 _ _ _ _ rfl))))))
set_option maxRecDepth 100000 in
theorem r_X7_takePart {N K : Nat} {th : Int32} {f : Nat → Int32} {t : Nat → Int32} {p0 : Int32} {p1 : Int32} : Fr (fX7_takePart N K th f t p0 p1) (fun (z : Int32 × Int32 × (Nat → Int32) × (Nat → Int32)) => z.2.2.2 5 = t 5) := by
  unfold fX7_takePart
  exact (fB' (fun x4 => (fB' (fun x11 => (fB' (fun x14 => (fI (fI fN (fI fN (fI (fB r_X7_refused (fun x34 hx34 => (fR (hx34.trans rfl)))) (fI fN (fI fN (fI fN (fI fN (fI fN (fB r_X7_done (fun x59 hx59 => (fR (hx59.trans rfl)))))))))))) (fR rfl))))))))
set_option maxRecDepth 100000 in
theorem r_X7_laid_2 {N K : Nat} {th : Int32} {f : Nat → Int32} {g : Nat → Int32} {t : Nat → Int32} {p0 : Int32} : ∀ (fu : Nat) (l3 : Int32) (f_ : (Nat → Int32)) (t_ : (Nat → Int32)), t_ 5 = t 5 → Fr (fX7_laid_2 N K th f g t p0  fu l3 f_ t_) (fun (z : Int32 × (Nat → Int32) × (Nat → Int32)) => z.2.2 5 = t 5) := by
  intro fu
  induction fu with
  | zero => intros; exact fN
  | succ fu ih =>
    intro l3 f_ t_ ht
    unfold fX7_laid_2
    exact (fI (fB' (fun x27 => (fB r_X7_done (fun x30 hx30 => (fR (hx30.trans ht)))))) (fI fN (fI fN (fI fN (ih _ _ _ ht)))))
set_option maxRecDepth 100000 in
theorem r_X7_laid {N K : Nat} {th : Int32} {f : Nat → Int32} {g : Nat → Int32} {t : Nat → Int32} {p0 : Int32} : Fr (fX7_laid N K th f g t p0) (fun (z : Int32 × (Nat → Int32) × (Nat → Int32)) => z.2.2 5 = t 5) := by
  unfold fX7_laid
  exact (r_X7_laid_2 N _ _ _ rfl)
set_option maxRecDepth 100000 in
theorem r_X7_layFirst {N K : Nat} {th : Int32} {f : Nat → Int32} {t : Nat → Int32} {p0 : Int32} {p1 : Int32} : Fr (fX7_layFirst N K th f t p0 p1) (fun (z : Int32 × Int32 × (Nat → Int32) × (Nat → Int32)) => z.2.2.2 5 = t 5) := by
  unfold fX7_layFirst
  exact (fB' (fun x4 => (fB' (fun x11 => (fB' (fun x14 => (fI (fB' (fun x27 => (fB r_X7_laid (fun x30 hx30 => (fR (hx30.trans rfl)))))) (fR rfl))))))))
set_option maxRecDepth 100000 in
theorem r_X7_next {N K : Nat} {th : Int32} {f : Nat → Int32} {t : Nat → Int32} {p0 : Int32} : Fr (fX7_next N K th f t p0) (fun (z : Int32 × Int32 × (Nat → Int32) × (Nat → Int32)) => z.2.2.2 5 = t 5) := by
  unfold fX7_next
  exact (fB' (fun x4 => (fB' (fun x8 => (fI (fI fN (fB' (fun x22 => (fI (fB r_X7_refused (fun x45 hx45 => (fR (hx45.trans rfl)))) (fI fN (fB' (fun x35 => (fB r_X7_done (fun x38 hx38 => (fR (hx38.trans rfl))))))))))) (fR rfl))))))
set_option maxRecDepth 100000 in
theorem r_X7_turn_44 {N K : Nat} {th : Int32} {f : Nat → Int32} {t : Nat → Int32} {p0 : Int32} : ∀ (s0 : Int32) (th_ : Int32) (f_ : Nat → Int32) (t_ : Nat → Int32) (e_v0 : Nat → Int32), t_ 5 = t 5 → Fr (fX7_turn_44 N K th f t p0  s0 th_ f_ t_ e_v0) (fun (z : Int32 × Int32 × (Nat → Int32) × (Nat → Int32)) => z.2.2.2 5 = t 5) := by
  intro s0 th_ f_ t_ e_v0 ht
  unfold fX7_turn_44
  exact (fB r_X7_laid (fun x48 hx48 => (fB' (fun x53 => (fR (hx48.trans ht))))))
set_option maxRecDepth 100000 in
theorem r_X7_turn {N K : Nat} {th : Int32} {f : Nat → Int32} {t : Nat → Int32} {p0 : Int32} : Fr (fX7_turn N K th f t p0) (fun (z : Int32 × Int32 × (Nat → Int32) × (Nat → Int32)) => z.2.2.2 5 = t 5) := by
  unfold fX7_turn
  exact (fB' (fun x4 => (fB' (fun x8 => (fI (fI fN (fB' (fun x22 => (fI fN (fB' (fun x33 => (fI (r_X7_turn_44 _ _ _ _ _ rfl) (r_X7_turn_44 _ _ _ _ _ rfl)))))))) (fR rfl))))))
set_option maxRecDepth 100000 in
theorem r_X7_toUnlike_83 {N K : Nat} {th : Int32} {f : Nat → Int32} {t : Nat → Int32} {p0 : Int32} {k_40 : Int32 → Int32 → (Nat → Int32) → (Nat → Int32) → (Nat → Int32) → Option (Int32 × Int32 × (Nat → Int32) × (Nat → Int32))} (hk_40 : ∀ (l3 : Int32) (th_ : Int32) (f_ : (Nat → Int32)) (t_ : (Nat → Int32)) (e_v0 : (Nat → Int32)), t_ 5 = t 5 → Fr (k_40 l3 th_ f_ t_ e_v0) (fun (z : Int32 × Int32 × (Nat → Int32) × (Nat → Int32)) => z.2.2.2 5 = t 5)) {k_49 : Int32 → Int32 → Int32 → (Nat → Int32) → (Nat → Int32) → (Nat → Int32) → Option (Int32 × Int32 × (Nat → Int32) × (Nat → Int32))} (hk_49 : ∀ (l3 : Int32) (l4 : Int32) (th_ : Int32) (f_ : (Nat → Int32)) (t_ : (Nat → Int32)) (e_v0 : (Nat → Int32)), t_ 5 = t 5 → Fr (k_49 l3 l4 th_ f_ t_ e_v0) (fun (z : Int32 × Int32 × (Nat → Int32) × (Nat → Int32)) => z.2.2.2 5 = t 5)) : ∀ (l3 : Int32) (l4 : Int32) (th_ : Int32) (f_ : Nat → Int32) (t_ : Nat → Int32) (e_v0 : Nat → Int32), t_ 5 = t 5 → Fr (fX7_toUnlike_83 N K th f t p0 k_40 k_49 l3 l4 th_ f_ t_ e_v0) (fun (z : Int32 × Int32 × (Nat → Int32) × (Nat → Int32)) => z.2.2.2 5 = t 5) := by
  intro l3 l4 th_ f_ t_ e_v0 ht
  unfold fX7_toUnlike_83
  exact (hk_49 _ _ _ _ _ _ ht)
set_option maxRecDepth 100000 in
theorem r_X7_toUnlike_49 {N K : Nat} {th : Int32} {f : Nat → Int32} {t : Nat → Int32} {p0 : Int32} {k_40 : Int32 → Int32 → (Nat → Int32) → (Nat → Int32) → (Nat → Int32) → Option (Int32 × Int32 × (Nat → Int32) × (Nat → Int32))} (hk_40 : ∀ (l3 : Int32) (th_ : Int32) (f_ : (Nat → Int32)) (t_ : (Nat → Int32)) (e_v0 : (Nat → Int32)), t_ 5 = t 5 → Fr (k_40 l3 th_ f_ t_ e_v0) (fun (z : Int32 × Int32 × (Nat → Int32) × (Nat → Int32)) => z.2.2.2 5 = t 5)) : ∀ (fu : Nat) (l3 : Int32) (l4 : Int32) (th_ : Int32) (f_ : (Nat → Int32)) (t_ : (Nat → Int32)) (e_v0 : (Nat → Int32)), t_ 5 = t 5 → Fr (fX7_toUnlike_49 N K th f t p0 k_40 fu l3 l4 th_ f_ t_ e_v0) (fun (z : Int32 × Int32 × (Nat → Int32) × (Nat → Int32)) => z.2.2.2 5 = t 5) := by
  intro fu
  induction fu with
  | zero => intros; exact fN
  | succ fu ih =>
    intro l3 l4 th_ f_ t_ e_v0 ht
    unfold fX7_toUnlike_49
    exact (fI (hk_40 _ _ _ _ _ ht) (fI fN (fI fN (fI fN (fI (fI fN (fI fN (r_X7_toUnlike_83 hk_40 ih _ _ _ _ _ _ ht))) (r_X7_toUnlike_83 hk_40 ih _ _ _ _ _ _ ht))))))
set_option maxRecDepth 100000 in
theorem r_X7_toUnlike_40 {N K : Nat} {th : Int32} {f : Nat → Int32} {t : Nat → Int32} {p0 : Int32} : ∀ (fu : Nat) (l3 : Int32) (th_ : Int32) (f_ : (Nat → Int32)) (t_ : (Nat → Int32)) (e_v0 : (Nat → Int32)), t_ 5 = t 5 → Fr (fX7_toUnlike_40 N K th f t p0  fu l3 th_ f_ t_ e_v0) (fun (z : Int32 × Int32 × (Nat → Int32) × (Nat → Int32)) => z.2.2.2 5 = t 5) := by
  intro fu
  induction fu with
  | zero => intros; exact fN
  | succ fu ih =>
    intro l3 th_ f_ t_ e_v0 ht
    unfold fX7_toUnlike_40
    exact (fI (fB r_X7_laid (fun x101 hx101 => (fR (hx101.trans ht)))) (r_X7_toUnlike_49 ih N _ _ _ _ _ _ ht))
set_option maxRecDepth 100000 in
theorem r_X7_toUnlike {N K : Nat} {th : Int32} {f : Nat → Int32} {t : Nat → Int32} {p0 : Int32} : Fr (fX7_toUnlike N K th f t p0) (fun (z : Int32 × Int32 × (Nat → Int32) × (Nat → Int32)) => z.2.2.2 5 = t 5) := by
  unfold fX7_toUnlike
  exact (fB' (fun x4 => (fB' (fun x8 => (fI (fI fN (fB' (fun x22 => (fI (fB r_X7_refused (fun x29 hx29 => (fR (hx29.trans rfl)))) (r_X7_toUnlike_40 N _ _ _ _ _ rfl))))) (fR rfl))))))
set_option maxRecDepth 100000 in
theorem r_X7_toOdd_49 {N K : Nat} {th : Int32} {f : Nat → Int32} {t : Nat → Int32} {p0 : Int32} {k_40 : Int32 → Int32 → (Nat → Int32) → (Nat → Int32) → (Nat → Int32) → Option (Int32 × Int32 × (Nat → Int32) × (Nat → Int32))} (hk_40 : ∀ (l3 : Int32) (th_ : Int32) (f_ : (Nat → Int32)) (t_ : (Nat → Int32)) (e_v0 : (Nat → Int32)), t_ 5 = t 5 → Fr (k_40 l3 th_ f_ t_ e_v0) (fun (z : Int32 × Int32 × (Nat → Int32) × (Nat → Int32)) => z.2.2.2 5 = t 5)) : ∀ (fu : Nat) (l3 : Int32) (l4 : Int32) (th_ : Int32) (f_ : (Nat → Int32)) (t_ : (Nat → Int32)) (e_v0 : (Nat → Int32)), t_ 5 = t 5 → Fr (fX7_toOdd_49 N K th f t p0 k_40 fu l3 l4 th_ f_ t_ e_v0) (fun (z : Int32 × Int32 × (Nat → Int32) × (Nat → Int32)) => z.2.2.2 5 = t 5) := by
  intro fu
  induction fu with
  | zero => intros; exact fN
  | succ fu ih =>
    intro l3 l4 th_ f_ t_ e_v0 ht
    unfold fX7_toOdd_49
    exact (fI fN (fI (ih _ _ _ _ _ _ ht) (fI fN (fI fN (fI fN (fI fN (fI fN (hk_40 _ _ _ _ _ ht))))))))
set_option maxRecDepth 100000 in
theorem r_X7_toOdd_40 {N K : Nat} {th : Int32} {f : Nat → Int32} {t : Nat → Int32} {p0 : Int32} : ∀ (fu : Nat) (l3 : Int32) (th_ : Int32) (f_ : (Nat → Int32)) (t_ : (Nat → Int32)) (e_v0 : (Nat → Int32)), t_ 5 = t 5 → Fr (fX7_toOdd_40 N K th f t p0  fu l3 th_ f_ t_ e_v0) (fun (z : Int32 × Int32 × (Nat → Int32) × (Nat → Int32)) => z.2.2.2 5 = t 5) := by
  intro fu
  induction fu with
  | zero => intros; exact fN
  | succ fu ih =>
    intro l3 th_ f_ t_ e_v0 ht
    unfold fX7_toOdd_40
    exact (fI (fB r_X7_laid (fun x96 hx96 => (fR (hx96.trans ht)))) (r_X7_toOdd_49 ih N _ _ _ _ _ _ ht))
set_option maxRecDepth 100000 in
theorem r_X7_toOdd {N K : Nat} {th : Int32} {f : Nat → Int32} {t : Nat → Int32} {p0 : Int32} : Fr (fX7_toOdd N K th f t p0) (fun (z : Int32 × Int32 × (Nat → Int32) × (Nat → Int32)) => z.2.2.2 5 = t 5) := by
  unfold fX7_toOdd
  exact (fB' (fun x4 => (fB' (fun x8 => (fI (fI fN (fB' (fun x22 => (fI (fB r_X7_refused (fun x29 hx29 => (fR (hx29.trans rfl)))) (r_X7_toOdd_40 N _ _ _ _ _ rfl))))) (fR rfl))))))
set_option maxRecDepth 100000 in
theorem r_X7_copyDesk {N K : Nat} {th : Int32} {f : Nat → Int32} {f2 : Nat → Int32} {t : Nat → Int32} {p0 : Int32} : Fr (fX7_copyDesk N K th f f2 t p0) (fun (z : Int32 × Int32 × (Nat → Int32) × (Nat → Int32)) => z.2.2.2 5 = t 5) := by
  unfold fX7_copyDesk
  exact (fB' (fun x4 => (fB' (fun x8 => (fI (fI fN (fB r_X7_laid (fun x26 hx26 => (fI fN (fB' (fun x36 => (fR (hx26.trans rfl)))))))) (fR rfl))))))
